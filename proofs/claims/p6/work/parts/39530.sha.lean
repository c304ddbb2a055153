/-! Contracts: by runs of the small machine. Written by a program (wip/tools/emitL.py over plan3.py). -/
/-! Comparisons for ways -/
def ev_sameF (o : Option ev_S) (t : ev_S) : Bool := match o with
  | some u => ev_sameT (some (.inl u)) t
  | none => false
theorem ev_sameF_r {o : Option ev_S} {t : ev_S} (h : ev_sameF o t = true) : o = some t := by
  unfold ev_sameF at h
  split at h
  · next u => rw [Sum.inl.inj (Option.some.inj (ev_sameT_r h))]
  · cases h
def ev_sameJ (o : Option (ev_S ⊕ (ev_R ⊕ (ev_S × ev_S × Nat)))) (u v : ev_S) (j : Nat) : Bool := match o with
  | some (.inr (.inr (a, b, i))) => ev_sameT (some (.inl a)) u && (ev_sameT (some (.inl b)) v && i == j)
  | _ => false
theorem ev_sameJ_r {o : Option (ev_S ⊕ (ev_R ⊕ (ev_S × ev_S × Nat)))} {u v : ev_S} {j : Nat} (h : ev_sameJ o u v j = true) : o = some (.inr (.inr (u, v, j))) := by
  unfold ev_sameJ at h
  split at h
  · next a b i =>
    simp only [Bool.and_eq_true, beq_iff_eq] at h
    rw [Sum.inl.inj (Option.some.inj (ev_sameT_r h.1)), Sum.inl.inj (Option.some.inj (ev_sameT_r h.2.1)), h.2.2]
  · cases h
def ct_S0 : ev_Sm := []
theorem ct_SM0 (l : Launch) (D : va_G) (dA : Nat → ClassId) : ev_SM l D ct_cl dA ct_kt ct_gs ct_pg ct_S0 := ev_SM_nil
/-- java/util/Arrays.fill -/
def ct_w0 : List ev_C := [(2, 0, 128, [(0, 2147483520, 2147483775)])]
def ct_r0 : ev_R := (none, [(2, 0, 128, [(0, 2147483520, 2147483775)])], 0, 0)
def ct_p0 : ev_S → Option (ev_S ⊕ (ev_R ⊕ (ev_S × ev_S × Nat))) := ev_stp2 ct_all none ct_S0 0 (ev_call2 ct_pg ct_ck ct_all ct_S0 3000 0) ct_k20
def ct_v0_0 : ev_S := (0, [(0, (2, 0, 0)), (1, (0, 2147483648, 2147483648))], [], [(2, 0, 128, [(0, 2147483520, 2147483775)])], 0, 0)
def ct_v0_1 : ev_S := (5, [(3, (0, 2147483776, 2147483776)), (2, (0, 2147483648, 2147483648)), (0, (2, 0, 0)), (1, (0, 2147483648, 2147483648))], [], [(2, 0, 128, [(0, 2147483520, 2147483775)])], 0, 0)
set_option maxRecDepth 1000000 in
theorem ct_x0_1e : ev_goF ct_all none ct_S0 0 (ev_call2 ct_pg ct_ck ct_all ct_S0 3000 0) ct_k20 [] 5 ct_v0_0 = some ct_v0_1 := ev_sameF_r (by decide +kernel)
theorem ct_x0_1 (l : Launch) (D : va_G) (dA : Nat → ClassId) : ev_rF l D ct_cl dA ct_kt ct_gs "java/util/Arrays" "fill" prog_29_method_109_code 4 none ct_c20 0 [] ct_v0_0 ct_v0_1 := ev_rF_run ct_hg ct_good ct_ok (ct_pok ct_S0) ct_kok l D dA (ct_SM0 l D dA) 3000 (k := 20) (y := ⟨"java/util/Arrays", "fill", "([BB)V"⟩) (cdm := ct_c20) (cs := ct_k20) rfl rfl 5 _ _ ct_x0_1e
def ct_v0_2 : ev_S := (5, [(2, (0, 2147483648, 2147483648)), (3, (0, 2147483776, 2147483776)), (0, (2, 0, 0)), (1, (0, 2147483648, 2147483648))], [], [(2, 0, 128, [(0, 2147483520, 2147483775)])], 0, 0)
theorem ct_x0_2 (l : Launch) (D : va_G) (dA : Nat → ClassId) : ev_rF l D ct_cl dA ct_kt ct_gs "java/util/Arrays" "fill" prog_29_method_109_code 4 none ct_c20 0 [] ct_v0_1 ct_v0_2 := ev_rF.weak (ev_leMb_r (by decide +kernel)) (by decide +kernel) (by decide +kernel)
theorem ct_x0_3 (l : Launch) (D : va_G) (dA : Nat → ClassId) : ev_rF l D ct_cl dA ct_kt ct_gs "java/util/Arrays" "fill" prog_29_method_109_code 4 none ct_c20 0 [] ct_v0_0 ct_v0_2 := ev_rF.tr (ct_x0_1 l D dA) (ct_x0_2 l D dA)
def ct_v0_3 : ev_S := (5, [(2, (0, 2147483648, 2147483775)), (3, (0, 2147483776, 2147483776)), (0, (2, 0, 0)), (1, (0, 2147483648, 2147483648))], [], [(2, 0, 128, [(0, 2147483520, 2147483775)])], 0, 0)
def ct_v0_4 : ev_S := (12, [(2, (0, 2147483648, 2147483775)), (3, (0, 2147483776, 2147483776)), (0, (2, 0, 0)), (1, (0, 2147483648, 2147483648))], [], [(2, 0, 128, [(0, 2147483520, 2147483775)])], 0, 0)
set_option maxRecDepth 1000000 in
theorem ct_x0_4e : ev_goF ct_all none ct_S0 0 (ev_call2 ct_pg ct_ck ct_all ct_S0 3000 0) ct_k20 [2] 7 ct_v0_3 = some ct_v0_4 := ev_sameF_r (by decide +kernel)
theorem ct_x0_4 (l : Launch) (D : va_G) (dA : Nat → ClassId) : ev_rF l D ct_cl dA ct_kt ct_gs "java/util/Arrays" "fill" prog_29_method_109_code 4 none ct_c20 0 [2] ct_v0_3 ct_v0_4 := ev_rF_run ct_hg ct_good ct_ok (ct_pok ct_S0) ct_kok l D dA (ct_SM0 l D dA) 3000 (k := 20) (y := ⟨"java/util/Arrays", "fill", "([BB)V"⟩) (cdm := ct_c20) (cs := ct_k20) rfl rfl 7 _ _ ct_x0_4e
def ct_v0_5 : ev_S := (5, [(2, (0, 2147483776, 2147483776)), (3, (0, 2147483776, 2147483776)), (0, (2, 0, 0)), (1, (0, 2147483648, 2147483648))], [], [(2, 0, 128, [(0, 2147483520, 2147483775)])], 0, 0)
set_option maxRecDepth 100000 in
theorem ct_x0_5 (l : Launch) (D : va_G) (dA : Nat → ClassId) : ev_rF l D ct_cl dA ct_kt ct_gs "java/util/Arrays" "fill" prog_29_method_109_code 4 none ct_c20 0 [] ct_v0_2 ct_v0_5 := ev_rF.loop (k := 2) (lo := 2147483648) (hi := 2147483775) (h := 5) (q := 12) (off := -12) (by decide) (ct_x0_4 l D dA) (ev_leMb_r (by decide +kernel)) (by decide +kernel) (by decide +kernel) (by decide +kernel) (by decide +kernel) (by decide) (by decide) (by decide) (by decide +kernel) (by decide +kernel) (by decide +kernel) (by decide +kernel) 128 2147483648 (by decide) (by decide)
theorem ct_x0_6 (l : Launch) (D : va_G) (dA : Nat → ClassId) : ev_rF l D ct_cl dA ct_kt ct_gs "java/util/Arrays" "fill" prog_29_method_109_code 4 none ct_c20 0 [] ct_v0_0 ct_v0_5 := ev_rF.tr (ct_x0_3 l D dA) (ct_x0_5 l D dA)
def ct_v0_6 : ev_S := (14, [(2, (0, 2147483776, 2147483776)), (3, (0, 2147483776, 2147483776)), (0, (2, 0, 0)), (1, (0, 2147483648, 2147483648))], [], [(2, 0, 128, [(0, 2147483520, 2147483775)])], 0, 0)
set_option maxRecDepth 1000000 in
theorem ct_x0_7e : ev_goF ct_all none ct_S0 0 (ev_call2 ct_pg ct_ck ct_all ct_S0 3000 0) ct_k20 [] 3 ct_v0_5 = some ct_v0_6 := ev_sameF_r (by decide +kernel)
theorem ct_x0_7 (l : Launch) (D : va_G) (dA : Nat → ClassId) : ev_rF l D ct_cl dA ct_kt ct_gs "java/util/Arrays" "fill" prog_29_method_109_code 4 none ct_c20 0 [] ct_v0_5 ct_v0_6 := ev_rF_run ct_hg ct_good ct_ok (ct_pok ct_S0) ct_kok l D dA (ct_SM0 l D dA) 3000 (k := 20) (y := ⟨"java/util/Arrays", "fill", "([BB)V"⟩) (cdm := ct_c20) (cs := ct_k20) rfl rfl 3 _ _ ct_x0_7e
theorem ct_x0_8 (l : Launch) (D : va_G) (dA : Nat → ClassId) : ev_rF l D ct_cl dA ct_kt ct_gs "java/util/Arrays" "fill" prog_29_method_109_code 4 none ct_c20 0 [] ct_v0_0 ct_v0_6 := ev_rF.tr (ct_x0_6 l D dA) (ct_x0_7 l D dA)
set_option maxRecDepth 1000000 in
theorem ct_e0 : ev_go2 ct_p0 3000 2 ct_v0_6 = some (.inr ct_r0) := ev_sameR_r (by decide +kernel)
def ct_S1 : ev_Sm := (20, 1, [(0, 0)], [(2, 0, 0), (0, 2147483648, 2147483648)], ct_w0, ct_r0) :: ct_S0
theorem ct_SM1 (l : Launch) (D : va_G) (dA : Nat → ClassId) : ev_SM l D ct_cl dA ct_kt ct_gs ct_pg ct_S1 := ev_SM_add4 ct_hg ct_good ct_ok ct_pok ct_kok (ct_SM0 l D dA) (q0 := ((⟨"java/util/Arrays", "fill", "([BB)V"⟩, prog_29_method_109_code, 4, none), ct_c20)) (cs := ct_k20) (t0 := ct_v0_6) rfl rfl (by decide +kernel) (ct_x0_8 l D dA) ct_e0 (by decide +kernel)
/-- TrustedMachine$Sha256.putWord -/
def ct_w1 : List ev_C := [(2, 0, 128, [(0, 2147483520, 2147483775)])]
def ct_r1 : ev_R := (none, [(2, 0, 128, [(0, 2147483520, 2147483775)])], 0, 0)
def ct_p1 : ev_S → Option (ev_S ⊕ (ev_R ⊕ (ev_S × ev_S × Nat))) := ev_stp2 ct_all none ct_S1 0 (ev_call2 ct_pg ct_ck ct_all ct_S1 3000 0) ct_k13
set_option maxRecDepth 1000000 in
theorem ct_e1_0 : ev_go2 ct_p1 3000 33 (0, ev_la 0 [(2, 0, 0), (0, 2147483648, 2147483772), (0, 0, 4294967295)], [], ct_w1, 0, 0) = some (.inr ct_r1) := ev_sameR_r (by decide +kernel)
theorem ct_f1_0 : ev_go2 ct_p1 3000 33 (0, ev_la 0 [(2, 0, 0), (0, 2147483648, 2147483772), (0, 0, 4294967295)], [], ct_w1, 0, 0) = some (.inr ct_r1) := ct_e1_0
def ct_S2 : ev_Sm := (13, 1, [(0, 0)], [(2, 0, 0), (0, 2147483648, 2147483772), (0, 0, 4294967295)], ct_w1, ct_r1) :: ct_S1
theorem ct_SM2 (l : Launch) (D : va_G) (dA : Nat → ClassId) : ev_SM l D ct_cl dA ct_kt ct_gs ct_pg ct_S2 := ev_SM_add3 ct_hg ct_good ct_ok ct_pok ct_kok (ct_SM1 l D dA) (q0 := ((⟨"TrustedMachine$Sha256", "putWord", "([BII)V"⟩, prog_10_method_3_code, 3, none), ct_c13)) (cs := ct_k13) rfl rfl (by decide +kernel) ct_f1_0 (by decide +kernel)
/-- TrustedMachine$Sha256.putWord -/
def ct_w2 : List ev_C := [(2, 0, 32, [(0, 2147483520, 2147483775)])]
def ct_r2 : ev_R := (none, [(2, 0, 32, [(0, 2147483520, 2147483775)])], 0, 0)
def ct_p2 : ev_S → Option (ev_S ⊕ (ev_R ⊕ (ev_S × ev_S × Nat))) := ev_stp2 ct_all none ct_S2 0 (ev_call2 ct_pg ct_ck ct_all ct_S2 3000 0) ct_k13
set_option maxRecDepth 1000000 in
theorem ct_e2_0 : ev_go2 ct_p2 3000 33 (0, ev_la 0 [(2, 0, 0), (0, 2147483648, 2147483676), (0, 0, 4294967295)], [], ct_w2, 0, 0) = some (.inr ct_r2) := ev_sameR_r (by decide +kernel)
theorem ct_f2_0 : ev_go2 ct_p2 3000 33 (0, ev_la 0 [(2, 0, 0), (0, 2147483648, 2147483676), (0, 0, 4294967295)], [], ct_w2, 0, 0) = some (.inr ct_r2) := ct_e2_0
def ct_S3 : ev_Sm := (13, 1, [(0, 0)], [(2, 0, 0), (0, 2147483648, 2147483676), (0, 0, 4294967295)], ct_w2, ct_r2) :: ct_S2
theorem ct_SM3 (l : Launch) (D : va_G) (dA : Nat → ClassId) : ev_SM l D ct_cl dA ct_kt ct_gs ct_pg ct_S3 := ev_SM_add3 ct_hg ct_good ct_ok ct_pok ct_kok (ct_SM2 l D dA) (q0 := ((⟨"TrustedMachine$Sha256", "putWord", "([BII)V"⟩, prog_10_method_3_code, 3, none), ct_c13)) (cs := ct_k13) rfl rfl (by decide +kernel) ct_f2_0 (by decide +kernel)
/-- TrustedMachine$Sha256.compress -/
def ct_w3 : List ev_C := [(0, 2, 0, [(2, 1, 0), (2, 2, 0), (2, 3, 0), (2, 4, 0), (2, 5, 0)]), (2, 1, 8, [(0, 0, 4294967295)]), (2, 1, 64, [(0, 0, 4294967295)]), (9, 0, 0, []), (9, 0, 0, []), (9, 0, 0, []), (2, 0, 256, [(0, 2147483520, 2147483775)])]
def ct_r3 : ev_R := (none, [(0, 2, 0, [(2, 1, 0), (2, 2, 0), (2, 3, 0), (2, 4, 0), (2, 5, 0)]), (2, 1, 8, [(0, 0, 4294967295)]), (2, 1, 64, [(0, 0, 4294967295)]), (9, 0, 0, []), (9, 0, 0, []), (9, 0, 0, []), (2, 0, 256, [(0, 2147483520, 2147483775)])], 0, 0)
def ct_p3 : ev_S → Option (ev_S ⊕ (ev_R ⊕ (ev_S × ev_S × Nat))) := ev_stp2 ct_all none ct_S3 0 (ev_call2 ct_pg ct_ck ct_all ct_S3 3000 0) ct_k15
def ct_v3_0 : ev_S := (0, [(0, (2, 0, 0)), (1, (2, 6, 0)), (2, (0, 2147483648, 2147483840))], [], [(0, 2, 0, [(2, 1, 0), (2, 2, 0), (2, 3, 0), (2, 4, 0), (2, 5, 0)]), (2, 1, 8, [(0, 0, 4294967295)]), (2, 1, 64, [(0, 0, 4294967295)]), (9, 0, 0, []), (9, 0, 0, []), (9, 0, 0, []), (2, 0, 256, [(0, 2147483520, 2147483775)])], 0, 0)
def ct_v3_1 : ev_S := (5, [(4, (0, 2147483648, 2147483648)), (3, (2, 2, 0)), (0, (2, 0, 0)), (1, (2, 6, 0)), (2, (0, 2147483648, 2147483840))], [], [(0, 2, 0, [(2, 1, 0), (2, 2, 0), (2, 3, 0), (2, 4, 0), (2, 5, 0)]), (2, 1, 8, [(0, 0, 4294967295)]), (2, 1, 64, [(0, 0, 4294967295)]), (9, 0, 0, []), (9, 0, 0, []), (9, 0, 0, []), (2, 0, 256, [(0, 2147483520, 2147483775)])], 0, 0)
set_option maxRecDepth 1000000 in
theorem ct_x3_1e : ev_goF ct_all none ct_S3 0 (ev_call2 ct_pg ct_ck ct_all ct_S3 3000 0) ct_k15 [] 5 ct_v3_0 = some ct_v3_1 := ev_sameF_r (by decide +kernel)
theorem ct_x3_1 (l : Launch) (D : va_G) (dA : Nat → ClassId) : ev_rF l D ct_cl dA ct_kt ct_gs "TrustedMachine$Sha256" "compress" prog_10_method_6_code 15 none ct_c15 0 [] ct_v3_0 ct_v3_1 := ev_rF_run ct_hg ct_good ct_ok (ct_pok ct_S3) ct_kok l D dA (ct_SM3 l D dA) 3000 (k := 15) (y := ⟨"TrustedMachine$Sha256", "compress", "([BI)V"⟩) (cdm := ct_c15) (cs := ct_k15) rfl rfl 5 _ _ ct_x3_1e
theorem ct_x3_2 (l : Launch) (D : va_G) (dA : Nat → ClassId) : ev_rF l D ct_cl dA ct_kt ct_gs "TrustedMachine$Sha256" "compress" prog_10_method_6_code 15 none ct_c15 0 [] ct_v3_1 ct_v3_1 := ev_rF.weak (ev_leMb_r (by decide +kernel)) (by decide +kernel) (by decide +kernel)
theorem ct_x3_3 (l : Launch) (D : va_G) (dA : Nat → ClassId) : ev_rF l D ct_cl dA ct_kt ct_gs "TrustedMachine$Sha256" "compress" prog_10_method_6_code 15 none ct_c15 0 [] ct_v3_0 ct_v3_1 := ev_rF.tr (ct_x3_1 l D dA) (ct_x3_2 l D dA)
def ct_v3_2 : ev_S := (5, [(4, (0, 2147483648, 2147483663)), (3, (2, 2, 0)), (0, (2, 0, 0)), (1, (2, 6, 0)), (2, (0, 2147483648, 2147483840))], [], [(0, 2, 0, [(2, 1, 0), (2, 2, 0), (2, 3, 0), (2, 4, 0), (2, 5, 0)]), (2, 1, 8, [(0, 0, 4294967295)]), (2, 1, 64, [(0, 0, 4294967295)]), (9, 0, 0, []), (9, 0, 0, []), (9, 0, 0, []), (2, 0, 256, [(0, 2147483520, 2147483775)])], 0, 0)
def ct_v3_3 : ev_S := (52, [(5, (0, 2147483648, 2147483900)), (4, (0, 2147483648, 2147483663)), (3, (2, 2, 0)), (0, (2, 0, 0)), (1, (2, 6, 0)), (2, (0, 2147483648, 2147483840))], [], [(0, 2, 0, [(2, 1, 0), (2, 2, 0), (2, 3, 0), (2, 4, 0), (2, 5, 0)]), (2, 1, 8, [(0, 0, 4294967295)]), (2, 1, 64, [(0, 0, 4294967295)]), (9, 0, 0, []), (9, 0, 0, []), (9, 0, 0, []), (2, 0, 256, [(0, 2147483520, 2147483775)])], 0, 0)
set_option maxRecDepth 1000000 in
theorem ct_x3_4e : ev_goF ct_all none ct_S3 0 (ev_call2 ct_pg ct_ck ct_all ct_S3 3000 0) ct_k15 [4] 47 ct_v3_2 = some ct_v3_3 := ev_sameF_r (by decide +kernel)
theorem ct_x3_4 (l : Launch) (D : va_G) (dA : Nat → ClassId) : ev_rF l D ct_cl dA ct_kt ct_gs "TrustedMachine$Sha256" "compress" prog_10_method_6_code 15 none ct_c15 0 [4] ct_v3_2 ct_v3_3 := ev_rF_run ct_hg ct_good ct_ok (ct_pok ct_S3) ct_kok l D dA (ct_SM3 l D dA) 3000 (k := 15) (y := ⟨"TrustedMachine$Sha256", "compress", "([BI)V"⟩) (cdm := ct_c15) (cs := ct_k15) rfl rfl 47 _ _ ct_x3_4e
def ct_v3_4 : ev_S := (5, [(4, (0, 2147483664, 2147483664)), (3, (2, 2, 0)), (0, (2, 0, 0)), (1, (2, 6, 0)), (2, (0, 2147483648, 2147483840))], [], [(0, 2, 0, [(2, 1, 0), (2, 2, 0), (2, 3, 0), (2, 4, 0), (2, 5, 0)]), (2, 1, 8, [(0, 0, 4294967295)]), (2, 1, 64, [(0, 0, 4294967295)]), (9, 0, 0, []), (9, 0, 0, []), (9, 0, 0, []), (2, 0, 256, [(0, 2147483520, 2147483775)])], 0, 0)
set_option maxRecDepth 100000 in
theorem ct_x3_5 (l : Launch) (D : va_G) (dA : Nat → ClassId) : ev_rF l D ct_cl dA ct_kt ct_gs "TrustedMachine$Sha256" "compress" prog_10_method_6_code 15 none ct_c15 0 [] ct_v3_1 ct_v3_4 := ev_rF.loop (k := 4) (lo := 2147483648) (hi := 2147483663) (h := 5) (q := 52) (off := -72) (by decide) (ct_x3_4 l D dA) (ev_leMb_r (by decide +kernel)) (by decide +kernel) (by decide +kernel) (by decide +kernel) (by decide +kernel) (by decide) (by decide) (by decide) (by decide +kernel) (by decide +kernel) (by decide +kernel) (by decide +kernel) 16 2147483648 (by decide) (by decide)
theorem ct_x3_6 (l : Launch) (D : va_G) (dA : Nat → ClassId) : ev_rF l D ct_cl dA ct_kt ct_gs "TrustedMachine$Sha256" "compress" prog_10_method_6_code 15 none ct_c15 0 [] ct_v3_0 ct_v3_4 := ev_rF.tr (ct_x3_3 l D dA) (ct_x3_5 l D dA)
def ct_v3_5 : ev_S := (56, [(4, (0, 2147483664, 2147483664)), (3, (2, 2, 0)), (0, (2, 0, 0)), (1, (2, 6, 0)), (2, (0, 2147483648, 2147483840))], [], [(0, 2, 0, [(2, 1, 0), (2, 2, 0), (2, 3, 0), (2, 4, 0), (2, 5, 0)]), (2, 1, 8, [(0, 0, 4294967295)]), (2, 1, 64, [(0, 0, 4294967295)]), (9, 0, 0, []), (9, 0, 0, []), (9, 0, 0, []), (2, 0, 256, [(0, 2147483520, 2147483775)])], 0, 0)
set_option maxRecDepth 1000000 in
theorem ct_x3_7e : ev_goF ct_all none ct_S3 0 (ev_call2 ct_pg ct_ck ct_all ct_S3 3000 0) ct_k15 [] 5 ct_v3_4 = some ct_v3_5 := ev_sameF_r (by decide +kernel)
theorem ct_x3_7 (l : Launch) (D : va_G) (dA : Nat → ClassId) : ev_rF l D ct_cl dA ct_kt ct_gs "TrustedMachine$Sha256" "compress" prog_10_method_6_code 15 none ct_c15 0 [] ct_v3_4 ct_v3_5 := ev_rF_run ct_hg ct_good ct_ok (ct_pok ct_S3) ct_kok l D dA (ct_SM3 l D dA) 3000 (k := 15) (y := ⟨"TrustedMachine$Sha256", "compress", "([BI)V"⟩) (cdm := ct_c15) (cs := ct_k15) rfl rfl 5 _ _ ct_x3_7e
theorem ct_x3_8 (l : Launch) (D : va_G) (dA : Nat → ClassId) : ev_rF l D ct_cl dA ct_kt ct_gs "TrustedMachine$Sha256" "compress" prog_10_method_6_code 15 none ct_c15 0 [] ct_v3_0 ct_v3_5 := ev_rF.tr (ct_x3_6 l D dA) (ct_x3_7 l D dA)
theorem ct_x3_9 (l : Launch) (D : va_G) (dA : Nat → ClassId) : ev_rF l D ct_cl dA ct_kt ct_gs "TrustedMachine$Sha256" "compress" prog_10_method_6_code 15 none ct_c15 0 [] ct_v3_5 ct_v3_5 := ev_rF.weak (ev_leMb_r (by decide +kernel)) (by decide +kernel) (by decide +kernel)
theorem ct_x3_10 (l : Launch) (D : va_G) (dA : Nat → ClassId) : ev_rF l D ct_cl dA ct_kt ct_gs "TrustedMachine$Sha256" "compress" prog_10_method_6_code 15 none ct_c15 0 [] ct_v3_0 ct_v3_5 := ev_rF.tr (ct_x3_8 l D dA) (ct_x3_9 l D dA)
def ct_v3_6 : ev_S := (56, [(4, (0, 2147483664, 2147483711)), (3, (2, 2, 0)), (0, (2, 0, 0)), (1, (2, 6, 0)), (2, (0, 2147483648, 2147483840))], [], [(0, 2, 0, [(2, 1, 0), (2, 2, 0), (2, 3, 0), (2, 4, 0), (2, 5, 0)]), (2, 1, 8, [(0, 0, 4294967295)]), (2, 1, 64, [(0, 0, 4294967295)]), (9, 0, 0, []), (9, 0, 0, []), (9, 0, 0, []), (2, 0, 256, [(0, 2147483520, 2147483775)])], 0, 0)
def ct_v3_7 : ev_S := (125, [(6, (0, 0, 4294967295)), (5, (0, 0, 4294967295)), (4, (0, 2147483664, 2147483711)), (3, (2, 2, 0)), (0, (2, 0, 0)), (1, (2, 6, 0)), (2, (0, 2147483648, 2147483840))], [], [(0, 2, 0, [(2, 1, 0), (2, 2, 0), (2, 3, 0), (2, 4, 0), (2, 5, 0)]), (2, 1, 8, [(0, 0, 4294967295)]), (2, 1, 64, [(0, 0, 4294967295)]), (9, 0, 0, []), (9, 0, 0, []), (9, 0, 0, []), (2, 0, 256, [(0, 2147483520, 2147483775)])], 0, 0)
set_option maxRecDepth 1000000 in
theorem ct_x3_11e : ev_goF ct_all none ct_S3 0 (ev_call2 ct_pg ct_ck ct_all ct_S3 3000 0) ct_k15 [4] 69 ct_v3_6 = some ct_v3_7 := ev_sameF_r (by decide +kernel)
theorem ct_x3_11 (l : Launch) (D : va_G) (dA : Nat → ClassId) : ev_rF l D ct_cl dA ct_kt ct_gs "TrustedMachine$Sha256" "compress" prog_10_method_6_code 15 none ct_c15 0 [4] ct_v3_6 ct_v3_7 := ev_rF_run ct_hg ct_good ct_ok (ct_pok ct_S3) ct_kok l D dA (ct_SM3 l D dA) 3000 (k := 15) (y := ⟨"TrustedMachine$Sha256", "compress", "([BI)V"⟩) (cdm := ct_c15) (cs := ct_k15) rfl rfl 69 _ _ ct_x3_11e
def ct_v3_8 : ev_S := (56, [(4, (0, 2147483712, 2147483712)), (3, (2, 2, 0)), (0, (2, 0, 0)), (1, (2, 6, 0)), (2, (0, 2147483648, 2147483840))], [], [(0, 2, 0, [(2, 1, 0), (2, 2, 0), (2, 3, 0), (2, 4, 0), (2, 5, 0)]), (2, 1, 8, [(0, 0, 4294967295)]), (2, 1, 64, [(0, 0, 4294967295)]), (9, 0, 0, []), (9, 0, 0, []), (9, 0, 0, []), (2, 0, 256, [(0, 2147483520, 2147483775)])], 0, 0)
set_option maxRecDepth 100000 in
theorem ct_x3_12 (l : Launch) (D : va_G) (dA : Nat → ClassId) : ev_rF l D ct_cl dA ct_kt ct_gs "TrustedMachine$Sha256" "compress" prog_10_method_6_code 15 none ct_c15 0 [] ct_v3_5 ct_v3_8 := ev_rF.loop (k := 4) (lo := 2147483664) (hi := 2147483711) (h := 56) (q := 125) (off := -105) (by decide) (ct_x3_11 l D dA) (ev_leMb_r (by decide +kernel)) (by decide +kernel) (by decide +kernel) (by decide +kernel) (by decide +kernel) (by decide) (by decide) (by decide) (by decide +kernel) (by decide +kernel) (by decide +kernel) (by decide +kernel) 48 2147483664 (by decide) (by decide)
theorem ct_x3_13 (l : Launch) (D : va_G) (dA : Nat → ClassId) : ev_rF l D ct_cl dA ct_kt ct_gs "TrustedMachine$Sha256" "compress" prog_10_method_6_code 15 none ct_c15 0 [] ct_v3_0 ct_v3_8 := ev_rF.tr (ct_x3_10 l D dA) (ct_x3_12 l D dA)
def ct_v3_9 : ev_S := (169, [(12, (0, 2147483648, 2147483648)), (11, (0, 0, 4294967295)), (10, (0, 0, 4294967295)), (9, (0, 0, 4294967295)), (8, (0, 0, 4294967295)), (7, (0, 0, 4294967295)), (6, (0, 0, 4294967295)), (5, (0, 0, 4294967295)), (4, (0, 0, 4294967295)), (3, (2, 2, 0)), (0, (2, 0, 0)), (1, (2, 6, 0)), (2, (0, 2147483648, 2147483840))], [], [(0, 2, 0, [(2, 1, 0), (2, 2, 0), (2, 3, 0), (2, 4, 0), (2, 5, 0)]), (2, 1, 8, [(0, 0, 4294967295)]), (2, 1, 64, [(0, 0, 4294967295)]), (9, 0, 0, []), (9, 0, 0, []), (9, 0, 0, []), (2, 0, 256, [(0, 2147483520, 2147483775)])], 0, 0)
set_option maxRecDepth 1000000 in
theorem ct_x3_14e : ev_goF ct_all none ct_S3 0 (ev_call2 ct_pg ct_ck ct_all ct_S3 3000 0) ct_k15 [] 45 ct_v3_8 = some ct_v3_9 := ev_sameF_r (by decide +kernel)
theorem ct_x3_14 (l : Launch) (D : va_G) (dA : Nat → ClassId) : ev_rF l D ct_cl dA ct_kt ct_gs "TrustedMachine$Sha256" "compress" prog_10_method_6_code 15 none ct_c15 0 [] ct_v3_8 ct_v3_9 := ev_rF_run ct_hg ct_good ct_ok (ct_pok ct_S3) ct_kok l D dA (ct_SM3 l D dA) 3000 (k := 15) (y := ⟨"TrustedMachine$Sha256", "compress", "([BI)V"⟩) (cdm := ct_c15) (cs := ct_k15) rfl rfl 45 _ _ ct_x3_14e
theorem ct_x3_15 (l : Launch) (D : va_G) (dA : Nat → ClassId) : ev_rF l D ct_cl dA ct_kt ct_gs "TrustedMachine$Sha256" "compress" prog_10_method_6_code 15 none ct_c15 0 [] ct_v3_0 ct_v3_9 := ev_rF.tr (ct_x3_13 l D dA) (ct_x3_14 l D dA)
theorem ct_x3_16 (l : Launch) (D : va_G) (dA : Nat → ClassId) : ev_rF l D ct_cl dA ct_kt ct_gs "TrustedMachine$Sha256" "compress" prog_10_method_6_code 15 none ct_c15 0 [] ct_v3_9 ct_v3_9 := ev_rF.weak (ev_leMb_r (by decide +kernel)) (by decide +kernel) (by decide +kernel)
theorem ct_x3_17 (l : Launch) (D : va_G) (dA : Nat → ClassId) : ev_rF l D ct_cl dA ct_kt ct_gs "TrustedMachine$Sha256" "compress" prog_10_method_6_code 15 none ct_c15 0 [] ct_v3_0 ct_v3_9 := ev_rF.tr (ct_x3_15 l D dA) (ct_x3_16 l D dA)
def ct_v3_10 : ev_S := (169, [(12, (0, 2147483648, 2147483711)), (11, (0, 0, 4294967295)), (10, (0, 0, 4294967295)), (9, (0, 0, 4294967295)), (8, (0, 0, 4294967295)), (7, (0, 0, 4294967295)), (6, (0, 0, 4294967295)), (5, (0, 0, 4294967295)), (4, (0, 0, 4294967295)), (3, (2, 2, 0)), (0, (2, 0, 0)), (1, (2, 6, 0)), (2, (0, 2147483648, 2147483840))], [], [(0, 2, 0, [(2, 1, 0), (2, 2, 0), (2, 3, 0), (2, 4, 0), (2, 5, 0)]), (2, 1, 8, [(0, 0, 4294967295)]), (2, 1, 64, [(0, 0, 4294967295)]), (9, 0, 0, []), (9, 0, 0, []), (9, 0, 0, []), (2, 0, 256, [(0, 2147483520, 2147483775)])], 0, 0)
def ct_v3_11 : ev_S := (268, [(4, (0, 0, 4294967295)), (5, (0, 0, 4294967295)), (6, (0, 0, 4294967295)), (7, (0, 0, 4294967295)), (8, (0, 0, 4294967295)), (9, (0, 0, 4294967295)), (10, (0, 0, 4294967295)), (11, (0, 0, 4294967295)), (14, (0, 0, 4294967295)), (13, (0, 0, 4294967295)), (12, (0, 2147483648, 2147483711)), (3, (2, 2, 0)), (0, (2, 0, 0)), (1, (2, 6, 0)), (2, (0, 2147483648, 2147483840))], [], [(0, 2, 0, [(2, 1, 0), (2, 2, 0), (2, 3, 0), (2, 4, 0), (2, 5, 0)]), (2, 1, 8, [(0, 0, 4294967295)]), (2, 1, 64, [(0, 0, 4294967295)]), (9, 0, 0, []), (9, 0, 0, []), (9, 0, 0, []), (2, 0, 256, [(0, 2147483520, 2147483775)])], 0, 0)
set_option maxRecDepth 1000000 in
theorem ct_x3_18e : ev_goF ct_all none ct_S3 0 (ev_call2 ct_pg ct_ck ct_all ct_S3 3000 0) ct_k15 [12] 97 ct_v3_10 = some ct_v3_11 := ev_sameF_r (by decide +kernel)
theorem ct_x3_18 (l : Launch) (D : va_G) (dA : Nat → ClassId) : ev_rF l D ct_cl dA ct_kt ct_gs "TrustedMachine$Sha256" "compress" prog_10_method_6_code 15 none ct_c15 0 [12] ct_v3_10 ct_v3_11 := ev_rF_run ct_hg ct_good ct_ok (ct_pok ct_S3) ct_kok l D dA (ct_SM3 l D dA) 3000 (k := 15) (y := ⟨"TrustedMachine$Sha256", "compress", "([BI)V"⟩) (cdm := ct_c15) (cs := ct_k15) rfl rfl 97 _ _ ct_x3_18e
def ct_v3_12 : ev_S := (169, [(12, (0, 2147483712, 2147483712)), (11, (0, 0, 4294967295)), (10, (0, 0, 4294967295)), (9, (0, 0, 4294967295)), (8, (0, 0, 4294967295)), (7, (0, 0, 4294967295)), (6, (0, 0, 4294967295)), (5, (0, 0, 4294967295)), (4, (0, 0, 4294967295)), (3, (2, 2, 0)), (0, (2, 0, 0)), (1, (2, 6, 0)), (2, (0, 2147483648, 2147483840))], [], [(0, 2, 0, [(2, 1, 0), (2, 2, 0), (2, 3, 0), (2, 4, 0), (2, 5, 0)]), (2, 1, 8, [(0, 0, 4294967295)]), (2, 1, 64, [(0, 0, 4294967295)]), (9, 0, 0, []), (9, 0, 0, []), (9, 0, 0, []), (2, 0, 256, [(0, 2147483520, 2147483775)])], 0, 0)
set_option maxRecDepth 100000 in
theorem ct_x3_19 (l : Launch) (D : va_G) (dA : Nat → ClassId) : ev_rF l D ct_cl dA ct_kt ct_gs "TrustedMachine$Sha256" "compress" prog_10_method_6_code 15 none ct_c15 0 [] ct_v3_9 ct_v3_12 := ev_rF.loop (k := 12) (lo := 2147483648) (hi := 2147483711) (h := 169) (q := 268) (off := -163) (by decide) (ct_x3_18 l D dA) (ev_leMb_r (by decide +kernel)) (by decide +kernel) (by decide +kernel) (by decide +kernel) (by decide +kernel) (by decide) (by decide) (by decide) (by decide +kernel) (by decide +kernel) (by decide +kernel) (by decide +kernel) 64 2147483648 (by decide) (by decide)
theorem ct_x3_20 (l : Launch) (D : va_G) (dA : Nat → ClassId) : ev_rF l D ct_cl dA ct_kt ct_gs "TrustedMachine$Sha256" "compress" prog_10_method_6_code 15 none ct_c15 0 [] ct_v3_0 ct_v3_12 := ev_rF.tr (ct_x3_17 l D dA) (ct_x3_19 l D dA)
def ct_v3_13 : ev_S := (334, [(12, (0, 2147483712, 2147483712)), (11, (0, 0, 4294967295)), (10, (0, 0, 4294967295)), (9, (0, 0, 4294967295)), (8, (0, 0, 4294967295)), (7, (0, 0, 4294967295)), (6, (0, 0, 4294967295)), (5, (0, 0, 4294967295)), (4, (0, 0, 4294967295)), (3, (2, 2, 0)), (0, (2, 0, 0)), (1, (2, 6, 0)), (2, (0, 2147483648, 2147483840))], [], [(0, 2, 0, [(2, 1, 0), (2, 2, 0), (2, 3, 0), (2, 4, 0), (2, 5, 0)]), (2, 1, 8, [(0, 0, 4294967295)]), (2, 1, 64, [(0, 0, 4294967295)]), (9, 0, 0, []), (9, 0, 0, []), (9, 0, 0, []), (2, 0, 256, [(0, 2147483520, 2147483775)])], 0, 0)
set_option maxRecDepth 1000000 in
theorem ct_x3_21e : ev_goF ct_all none ct_S3 0 (ev_call2 ct_pg ct_ck ct_all ct_S3 3000 0) ct_k15 [] 67 ct_v3_12 = some ct_v3_13 := ev_sameF_r (by decide +kernel)
theorem ct_x3_21 (l : Launch) (D : va_G) (dA : Nat → ClassId) : ev_rF l D ct_cl dA ct_kt ct_gs "TrustedMachine$Sha256" "compress" prog_10_method_6_code 15 none ct_c15 0 [] ct_v3_12 ct_v3_13 := ev_rF_run ct_hg ct_good ct_ok (ct_pok ct_S3) ct_kok l D dA (ct_SM3 l D dA) 3000 (k := 15) (y := ⟨"TrustedMachine$Sha256", "compress", "([BI)V"⟩) (cdm := ct_c15) (cs := ct_k15) rfl rfl 67 _ _ ct_x3_21e
theorem ct_x3_22 (l : Launch) (D : va_G) (dA : Nat → ClassId) : ev_rF l D ct_cl dA ct_kt ct_gs "TrustedMachine$Sha256" "compress" prog_10_method_6_code 15 none ct_c15 0 [] ct_v3_0 ct_v3_13 := ev_rF.tr (ct_x3_20 l D dA) (ct_x3_21 l D dA)
set_option maxRecDepth 1000000 in
theorem ct_e3 : ev_go2 ct_p3 3000 2 ct_v3_13 = some (.inr ct_r3) := ev_sameR_r (by decide +kernel)
def ct_S4 : ev_Sm := (15, 1, [(0, 0), (1, 0), (1, 1), (1, 2), (1, 3), (1, 4), (0, 1)], [(2, 0, 0), (2, 6, 0), (0, 2147483648, 2147483840)], ct_w3, ct_r3) :: ct_S3
theorem ct_SM4 (l : Launch) (D : va_G) (dA : Nat → ClassId) : ev_SM l D ct_cl dA ct_kt ct_gs ct_pg ct_S4 := ev_SM_add4 ct_hg ct_good ct_ok ct_pok ct_kok (ct_SM3 l D dA) (q0 := ((⟨"TrustedMachine$Sha256", "compress", "([BI)V"⟩, prog_10_method_6_code, 15, none), ct_c15)) (cs := ct_k15) (t0 := ct_v3_13) rfl rfl (by decide +kernel) (ct_x3_22 l D dA) ct_e3 (by decide +kernel)
