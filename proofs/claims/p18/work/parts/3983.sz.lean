/-! Contracts, found and written by a program (wip/eng). -/
/-- T$Curve.unpack vlad_ cwork i -/
def tz164_C : sx_C := (156, 1, 26, 52, [(4, 4), (0, 0)], [[-4, 1, -1], [4, -1, 1], [4, -1, -1], [-4, 1, 1]], [(2, 61, [0, 1]), (2, 35, []), (0, 0, [0, 0, 1])], ([], []), [], [([], [], none, ([], []))])
def tz164_L : List sx_C := []
def tz164_U : List sx_Cu := [(2, ([(0, (2, 61, [0, 1])), (1, (2, 35, [])), (2, (0, 0, [0, 0, 1])), (3, (0, 0, [0, 0, 0, 1]))], [(4, 4), (0, 0), (0, 10)], [], ([], [])), [10, 0, 0, -1])]
theorem tz164_u2 : sx_from (sz_sta tz164_C tz164_L 0 none sy_c156 sy_k_156) tz164_U 2 2000 (2, ([(0, (2, 61, [0, 1])), (1, (2, 35, [])), (2, (0, 0, [0, 0, 1])), (3, (0, 0, [0, 0, 0, 1]))], [(4, 4), (0, 0), (0, 10)], [], ([], [])), [10, 0, 0, -1]) [[[0]], [[1, 0, 0, 1]], [[1, 0, 0, 1]], [[1, 0, 0, 1]], [[1, 0, 0, 1]], [[1, 0, 0, 1]], [[1, 0, 0, 1]], [[1, 0, 0, 1]], [[1, 0, 0, 1]], [[1, 0, 0, 1]], [[1, 0, 0, 1]]] = true := by decide +kernel
theorem tz164_r : sx_run (sz_sta tz164_C tz164_L 0 none sy_c156 sy_k_156) tz164_U 2 [13] 2000 [(0, sx_la 0 tz164_C.2.2.2.2.2.2.1, [], tz164_C.2.2.2.2.1, tz164_C.2.2.2.2.2.1, tz164_C.2.2.2.2.2.2.2.1)] [[[]]] = true := by decide +kernel
theorem tz164_M : sz_H tz164_C := fun l D dA => sz_one (sx_SM_add sy_hgm sy_good sy_okDD sy_okPP sy_kok sz_nil (q := tz164_C) (q0 := ((sy_my 4 208 209, prog_5_method_7_code, 7, none), sy_c156)) (cs := sy_k_156) (dd := 0) (BIG := 13) (cu := tz164_U) rfl rfl rfl (by decide) (by decide) (by decide) (sz_al (sz_cu tz164_u2 sz_cu0)) tz164_r)
/-- T$Curve.copy vlad_ t_CurveONE -/
def tz165_C : sx_C := (67, 1, 26, 47, [(0, 3)], [], [(2, 61, [0, 1]), (2, 198, [])], ([], []), [], [([], [], none, ([], []))])
def tz165_L : List sx_C := []
def tz165_U : List sx_Cu := []
theorem tz165_r : sx_run (sz_sta tz165_C tz165_L 0 none sy_c67 sy_k_67) tz165_U 1 [1] 71 [(0, sx_la 0 tz165_C.2.2.2.2.2.2.1, [], tz165_C.2.2.2.2.1, tz165_C.2.2.2.2.2.1, tz165_C.2.2.2.2.2.2.2.1)] [[[0]]] = true := by decide +kernel
theorem tz165_M : sz_H tz165_C := fun l D dA => sz_one (sx_SM_add sy_hgm sy_good sy_okDD sy_okPP sy_kok sz_nil (q := tz165_C) (q0 := ((sy_my 4 103 104, prog_5_method_4_code, 2, none), sy_c67)) (cs := sy_k_67) (dd := 0) (BIG := 1) (cu := tz165_U) rfl rfl rfl (by decide) (by decide) (by decide) (fun c hc => by cases hc) tz165_r)
/-- Arrays.fill vlad_ l -/
def tz166_C : sx_C := (66, 1, 26, 50, [(1, 1), (0, 0)], [[-1, 1, -1], [1, -1, 1], [1, -1, -1], [-1, 1, 1]], [(2, 61, [0, 1]), (4, 0, [0, 0, 1])], ([], []), [], [([], [], none, ([], []))])
def tz166_L : List sx_C := []
def tz166_U : List sx_Cu := [(5, ([(0, (2, 61, [0, 1])), (1, (4, 0, [0, 0, 1])), (3, (0, 0, [0, 0, 0, 1])), (4, (0, 0, [10]))], [(1, 1), (0, 0), (0, 10)], [], ([], [])), [10, 0, 0, -1])]
theorem tz166_u5 : sx_from (sz_sta tz166_C tz166_L 0 none sy_c66 sy_k_66) tz166_U 2 95 (5, ([(0, (2, 61, [0, 1])), (1, (4, 0, [0, 0, 1])), (3, (0, 0, [0, 0, 0, 1])), (4, (0, 0, [10]))], [(1, 1), (0, 0), (0, 10)], [], ([], [])), [10, 0, 0, -1]) [[[0]], [[1, 0, 0, 1]]] = true := by decide +kernel
theorem tz166_r : sx_run (sz_sta tz166_C tz166_L 0 none sy_c66 sy_k_66) tz166_U 2 [13] 95 [(0, sx_la 0 tz166_C.2.2.2.2.2.2.1, [], tz166_C.2.2.2.2.1, tz166_C.2.2.2.2.2.1, tz166_C.2.2.2.2.2.2.2.1)] [[[]]] = true := by decide +kernel
theorem tz166_M : sz_H tz166_C := fun l D dA => sz_one (sx_SM_add sy_hgm sy_good sy_okDD sy_okPP sy_kok sz_nil (q := tz166_C) (q0 := ((sy_my 13 23 102, prog_29_method_101_code, 5, none), sy_c66)) (cs := sy_k_66) (dd := 0) (BIG := 13) (cu := tz166_U) rfl rfl rfl (by decide) (by decide) (by decide) (sz_al (sz_cu tz166_u5 sz_cu0)) tz166_r)
/-- T$Curve.copy vlad_ vlad_ -/
def tz167_C : sx_C := (67, 1, 26, 47, [(2, 2), (4, 4)], [[2, 1, -1], [-2, -1, 1], [6, -1, -1], [-6, 1, 1]], [(2, 61, [0, 1]), (2, 61, [0, 0, 1])], ([], []), [], [([], [], none, ([], []))])
def tz167_L : List sx_C := []
def tz167_U : List sx_Cu := []
theorem tz167_r : sx_run (sz_sta tz167_C tz167_L 0 none sy_c67 sy_k_67) tz167_U 2 [1] 71 [(0, sx_la 0 tz167_C.2.2.2.2.2.2.1, [], tz167_C.2.2.2.2.1, tz167_C.2.2.2.2.2.1, tz167_C.2.2.2.2.2.2.2.1)] [[[0]]] = true := by decide +kernel
theorem tz167_M : sz_H tz167_C := fun l D dA => sz_one (sx_SM_add sy_hgm sy_good sy_okDD sy_okPP sy_kok sz_nil (q := tz167_C) (q0 := ((sy_my 4 103 104, prog_5_method_4_code, 2, none), sy_c67)) (cs := sy_k_67) (dd := 0) (BIG := 1) (cu := tz167_U) rfl rfl rfl (by decide) (by decide) (by decide) (fun c hc => by cases hc) tz167_r)
/-- T$Curve.bit vnum i -/
def tz168_C : sx_C := (73, 1, 26, 47, [(0, 254)], [], [(2, 63, []), (0, 0, [0, 1])], ([], []), [], [([(0, 1)], [], some (0, 0, [0, 0, 1]), ([], []))])
def tz168_L : List sx_C := []
def tz168_U : List sx_Cu := []
theorem tz168_r : sx_run (sz_sta tz168_C tz168_L 0 (some .int) sy_c73 sy_k_73) tz168_U 1 [1] 86 [(0, sx_la 0 tz168_C.2.2.2.2.2.2.1, [], tz168_C.2.2.2.2.1, tz168_C.2.2.2.2.2.1, tz168_C.2.2.2.2.2.2.2.1)] [[[0], [0, 0, 0, 0, 0, 0, 1]]] = true := by decide +kernel
theorem tz168_M : sz_H tz168_C := fun l D dA => sz_one (sx_SM_add sy_hgm sy_good sy_okDD sy_okPP sy_kok sz_nil (q := tz168_C) (q0 := ((sy_my 4 112 99, prog_5_method_16_code, 2, (some .int)), sy_c73)) (cs := sy_k_73) (dd := 0) (BIG := 1) (cu := tz168_U) rfl rfl rfl (by decide) (by decide) (by decide) (fun c hc => by cases hc) tz168_r)
/-- T$Curve.add vt_ vlad_ vlad_ -/
def tz169_C : sx_C := (70, 1, 26, 49, [(0, 2), (0, 2), (1, 3)], [[1, 0, 1, -1], [-1, 0, -1, 1]], [(2, 53, [0, 1]), (2, 61, [0, 0, 1]), (2, 61, [0, 0, 0, 1])], ([], []), [], [([], [], none, ([], []))])
def tz169_L : List sx_C := []
def tz169_U : List sx_Cu := [(2, ([(0, (2, 53, [0, 1])), (1, (2, 61, [0, 0, 1])), (2, (2, 61, [0, 0, 0, 1])), (3, (0, 0, [0, 0, 0, 0, 1]))], [(0, 2), (0, 2), (1, 3), (0, 10)], [[1, 0, 1, -1], [-1, 0, -1, 1]], ([], [])), [10, 0, 0, 0, -1])]
theorem tz169_u2 : sx_from (sz_sta tz169_C tz169_L 0 none sy_c70 sy_k_70) tz169_U 3 104 (2, ([(0, (2, 53, [0, 1])), (1, (2, 61, [0, 0, 1])), (2, (2, 61, [0, 0, 0, 1])), (3, (0, 0, [0, 0, 0, 0, 1]))], [(0, 2), (0, 2), (1, 3), (0, 10)], [[1, 0, 1, -1], [-1, 0, -1, 1]], ([], [])), [10, 0, 0, 0, -1]) [[[0]], [[1, 0, 0, 0, 1]], [[0, 1]], [[1, 1]]] = true := by decide +kernel
theorem tz169_r : sx_run (sz_sta tz169_C tz169_L 0 none sy_c70 sy_k_70) tz169_U 3 [13] 104 [(0, sx_la 0 tz169_C.2.2.2.2.2.2.1, [], tz169_C.2.2.2.2.1, tz169_C.2.2.2.2.2.1, tz169_C.2.2.2.2.2.2.2.1)] [[[]], [[0, 1]], [[1, 1]]] = true := by decide +kernel
theorem tz169_M : sz_H tz169_C := fun l D dA => sz_one (sx_SM_add sy_hgm sy_good sy_okDD sy_okPP sy_kok sz_nil (q := tz169_C) (q0 := ((sy_my 4 109 108, prog_5_method_2_code, 4, none), sy_c70)) (cs := sy_k_70) (dd := 0) (BIG := 13) (cu := tz169_U) rfl rfl rfl (by decide) (by decide) (by decide) (sz_al (sz_cu tz169_u2 sz_cu0)) tz169_r)
/-- T$Curve.subtract vt_ vlad_ vlad_ -/
def tz170_C : sx_C := (71, 1, 26, 49, [(1, 3), (0, 2), (1, 3)], [[1, 0, 1, -1], [-1, 0, -1, 1]], [(2, 53, [0, 1]), (2, 61, [0, 0, 1]), (2, 61, [0, 0, 0, 1])], ([], []), [], [([], [], none, ([], []))])
def tz170_L : List sx_C := []
def tz170_U : List sx_Cu := [(2, ([(0, (2, 53, [0, 1])), (1, (2, 61, [0, 0, 1])), (2, (2, 61, [0, 0, 0, 1])), (3, (0, 0, [0, 0, 0, 0, 1]))], [(1, 3), (0, 2), (1, 3), (0, 10)], [[1, 0, 1, -1], [-1, 0, -1, 1]], ([], [])), [10, 0, 0, 0, -1])]
theorem tz170_u2 : sx_from (sz_sta tz170_C tz170_L 0 none sy_c71 sy_k_71) tz170_U 3 104 (2, ([(0, (2, 53, [0, 1])), (1, (2, 61, [0, 0, 1])), (2, (2, 61, [0, 0, 0, 1])), (3, (0, 0, [0, 0, 0, 0, 1]))], [(1, 3), (0, 2), (1, 3), (0, 10)], [[1, 0, 1, -1], [-1, 0, -1, 1]], ([], [])), [10, 0, 0, 0, -1]) [[[0]], [[1, 0, 0, 0, 1]], [[0, 1]], [[1, 1]]] = true := by decide +kernel
theorem tz170_r : sx_run (sz_sta tz170_C tz170_L 0 none sy_c71 sy_k_71) tz170_U 3 [13] 104 [(0, sx_la 0 tz170_C.2.2.2.2.2.2.1, [], tz170_C.2.2.2.2.1, tz170_C.2.2.2.2.2.1, tz170_C.2.2.2.2.2.2.2.1)] [[[]], [[0, 1]], [[1, 1]]] = true := by decide +kernel
theorem tz170_M : sz_H tz170_C := fun l D dA => sz_one (sx_SM_add sy_hgm sy_good sy_okDD sy_okPP sy_kok sz_nil (q := tz170_C) (q0 := ((sy_my 4 110 108, prog_5_method_3_code, 4, none), sy_c71)) (cs := sy_k_71) (dd := 0) (BIG := 13) (cu := tz170_U) rfl rfl rfl (by decide) (by decide) (by decide) (sz_al (sz_cu tz170_u2 sz_cu0)) tz170_r)
/-- T$Curve.add vlad_ vt_ vt_ -/
def tz171_C : sx_C := (70, 1, 26, 49, [(0, 2), (3, 3), (2, 2)], [[3, 1, -1], [-1, -1, 1], [5, -1, -1], [-3, 1, 1], [2, 1, 0, -1], [0, -1, 0, 1], [4, -1, 0, -1], [-2, 1, 0, 1], [-1, 0, 1, -1], [1, 0, -1, 1], [5, 0, -1, -1], [-5, 0, 1, 1]], [(2, 61, [0, 1]), (2, 53, [0, 0, 1]), (2, 53, [0, 0, 0, 1])], ([], []), [], [([], [], none, ([], []))])
def tz171_L : List sx_C := []
def tz171_U : List sx_Cu := [(2, ([(0, (2, 61, [0, 1])), (1, (2, 53, [0, 0, 1])), (2, (2, 53, [0, 0, 0, 1])), (3, (0, 0, [0, 0, 0, 0, 1]))], [(0, 2), (3, 3), (2, 2), (0, 10)], [], ([], [])), [10, 0, 0, 0, -1])]
theorem tz171_u2 : sx_from (sz_sta tz171_C tz171_L 0 none sy_c70 sy_k_70) tz171_U 3 104 (2, ([(0, (2, 61, [0, 1])), (1, (2, 53, [0, 0, 1])), (2, (2, 53, [0, 0, 0, 1])), (3, (0, 0, [0, 0, 0, 0, 1]))], [(0, 2), (3, 3), (2, 2), (0, 10)], [], ([], [])), [10, 0, 0, 0, -1]) [[[0]], [[1, 0, 0, 0, 1]]] = true := by decide +kernel
theorem tz171_r : sx_run (sz_sta tz171_C tz171_L 0 none sy_c70 sy_k_70) tz171_U 3 [13] 104 [(0, sx_la 0 tz171_C.2.2.2.2.2.2.1, [], tz171_C.2.2.2.2.1, tz171_C.2.2.2.2.2.1, tz171_C.2.2.2.2.2.2.2.1)] [[[]]] = true := by decide +kernel
theorem tz171_M : sz_H tz171_C := fun l D dA => sz_one (sx_SM_add sy_hgm sy_good sy_okDD sy_okPP sy_kok sz_nil (q := tz171_C) (q0 := ((sy_my 4 109 108, prog_5_method_2_code, 4, none), sy_c70)) (cs := sy_k_70) (dd := 0) (BIG := 13) (cu := tz171_U) rfl rfl rfl (by decide) (by decide) (by decide) (sz_al (sz_cu tz171_u2 sz_cu0)) tz171_r)
/-- T$Curve.multiply vlad_ vlad_ vlad_ -/
def tz172_C : sx_C := (69, 1, 26, 110, [(0, 3), (0, 3), (0, 4)], [[0, 1, -1], [0, -1, 1], [3, 1, 0, -1], [0, -1, 0, 1], [3, 0, 1, -1], [0, 0, -1, 1]], [(2, 61, [0, 1]), (2, 61, [0, 0, 1]), (2, 61, [0, 0, 0, 1])], ([], []), [], [([], [], none, ([], []))])
def tz172_L : List sx_C := []
def tz172_U : List sx_Cu := []
theorem tz172_r : sx_run (sz_sta tz172_C tz172_L 0 none sy_c69 sy_k_69) tz172_U 3 [1] 2303 [(0, sx_la 0 tz172_C.2.2.2.2.2.2.1, [], tz172_C.2.2.2.2.1, tz172_C.2.2.2.2.2.1, tz172_C.2.2.2.2.2.2.2.1)] [[[0]]] = true := by decide +kernel
theorem tz172_M : sz_H tz172_C := fun l D dA => sz_one (sx_SM_add sy_hgm sy_good sy_okDD sy_okPP sy_kok sz_nil (q := tz172_C) (q0 := ((sy_my 4 107 108, prog_5_method_6_code, 65, none), sy_c69)) (cs := sy_k_69) (dd := 0) (BIG := 1) (cu := tz172_U) rfl rfl rfl (by decide) (by decide) (by decide) (fun c hc => by cases hc) tz172_r)
/-- T$Curve.subtract vlad_ vt_ vt_ -/
def tz173_C : sx_C := (71, 1, 26, 49, [(1, 3), (3, 3), (2, 2)], [[2, 1, -1], [0, -1, 1], [6, -1, -1], [-4, 1, 1], [1, 1, 0, -1], [1, -1, 0, 1], [5, -1, 0, -1], [-3, 1, 0, 1], [-1, 0, 1, -1], [1, 0, -1, 1], [5, 0, -1, -1], [-5, 0, 1, 1]], [(2, 61, [0, 1]), (2, 53, [0, 0, 1]), (2, 53, [0, 0, 0, 1])], ([], []), [], [([], [], none, ([], []))])
def tz173_L : List sx_C := []
def tz173_U : List sx_Cu := [(2, ([(0, (2, 61, [0, 1])), (1, (2, 53, [0, 0, 1])), (2, (2, 53, [0, 0, 0, 1])), (3, (0, 0, [0, 0, 0, 0, 1]))], [(1, 3), (3, 3), (2, 2), (0, 10)], [], ([], [])), [10, 0, 0, 0, -1])]
theorem tz173_u2 : sx_from (sz_sta tz173_C tz173_L 0 none sy_c71 sy_k_71) tz173_U 3 104 (2, ([(0, (2, 61, [0, 1])), (1, (2, 53, [0, 0, 1])), (2, (2, 53, [0, 0, 0, 1])), (3, (0, 0, [0, 0, 0, 0, 1]))], [(1, 3), (3, 3), (2, 2), (0, 10)], [], ([], [])), [10, 0, 0, 0, -1]) [[[0]], [[1, 0, 0, 0, 1]]] = true := by decide +kernel
theorem tz173_r : sx_run (sz_sta tz173_C tz173_L 0 none sy_c71 sy_k_71) tz173_U 3 [13] 104 [(0, sx_la 0 tz173_C.2.2.2.2.2.2.1, [], tz173_C.2.2.2.2.1, tz173_C.2.2.2.2.2.1, tz173_C.2.2.2.2.2.2.2.1)] [[[]]] = true := by decide +kernel
theorem tz173_M : sz_H tz173_C := fun l D dA => sz_one (sx_SM_add sy_hgm sy_good sy_okDD sy_okPP sy_kok sz_nil (q := tz173_C) (q0 := ((sy_my 4 110 108, prog_5_method_3_code, 4, none), sy_c71)) (cs := sy_k_71) (dd := 0) (BIG := 13) (cu := tz173_U) rfl rfl rfl (by decide) (by decide) (by decide) (sz_al (sz_cu tz173_u2 sz_cu0)) tz173_r)
/-- T$Curve.multiply vlad_ vt_ vt_ -/
def tz174_C : sx_C := (69, 1, 26, 110, [(0, 2), (0, 0), (1, 1)], [[0, 1, -1], [2, -1, 1], [2, -1, -1], [0, 1, 1], [1, 1, 0, -1], [1, -1, 0, 1], [3, -1, 0, -1], [-1, 1, 0, 1], [1, 0, 1, -1], [-1, 0, -1, 1], [1, 0, -1, -1], [-1, 0, 1, 1]], [(2, 61, [0, 1]), (2, 53, [0, 0, 1]), (2, 53, [0, 0, 0, 1])], ([], []), [], [([], [], none, ([], []))])
def tz174_L : List sx_C := []
def tz174_U : List sx_Cu := []
theorem tz174_r : sx_run (sz_sta tz174_C tz174_L 0 none sy_c69 sy_k_69) tz174_U 3 [1] 2303 [(0, sx_la 0 tz174_C.2.2.2.2.2.2.1, [], tz174_C.2.2.2.2.1, tz174_C.2.2.2.2.2.1, tz174_C.2.2.2.2.2.2.2.1)] [[[0]]] = true := by decide +kernel
theorem tz174_M : sz_H tz174_C := fun l D dA => sz_one (sx_SM_add sy_hgm sy_good sy_okDD sy_okPP sy_kok sz_nil (q := tz174_C) (q0 := ((sy_my 4 107 108, prog_5_method_6_code, 65, none), sy_c69)) (cs := sy_k_69) (dd := 0) (BIG := 1) (cu := tz174_U) rfl rfl rfl (by decide) (by decide) (by decide) (fun c hc => by cases hc) tz174_r)
/-- T$Curve.multiply vlad_ vt_ t_CurveA24 -/
def tz175_C : sx_C := (69, 1, 26, 110, [(1, 3), (2, 2)], [[1, 1, -1], [1, -1, 1], [5, -1, -1], [-3, 1, 1]], [(2, 61, [0, 1]), (2, 53, [0, 0, 1]), (2, 207, [])], ([], []), [], [([], [], none, ([], []))])
def tz175_L : List sx_C := []
def tz175_U : List sx_Cu := []
theorem tz175_r : sx_run (sz_sta tz175_C tz175_L 0 none sy_c69 sy_k_69) tz175_U 2 [1] 2303 [(0, sx_la 0 tz175_C.2.2.2.2.2.2.1, [], tz175_C.2.2.2.2.1, tz175_C.2.2.2.2.2.1, tz175_C.2.2.2.2.2.2.2.1)] [[[0]]] = true := by decide +kernel
theorem tz175_M : sz_H tz175_C := fun l D dA => sz_one (sx_SM_add sy_hgm sy_good sy_okDD sy_okPP sy_kok sz_nil (q := tz175_C) (q0 := ((sy_my 4 107 108, prog_5_method_6_code, 65, none), sy_c69)) (cs := sy_k_69) (dd := 0) (BIG := 1) (cu := tz175_U) rfl rfl rfl (by decide) (by decide) (by decide) (fun c hc => by cases hc) tz175_r)
/-- T$Curve.add vlad_ vlad_ vt_ -/
def tz176_C : sx_C := (70, 1, 26, 49, [(1, 3), (1, 3), (0, 0)], [[0, 1, -1], [0, -1, 1], [6, -1, -1], [-2, 1, 1], [-1, 1, 0, -1], [3, -1, 0, 1], [3, -1, 0, -1], [-1, 1, 0, 1], [-1, 0, 1, -1], [3, 0, -1, 1], [3, 0, -1, -1], [-1, 0, 1, 1]], [(2, 61, [0, 1]), (2, 61, [0, 0, 1]), (2, 53, [0, 0, 0, 1])], ([], []), [], [([], [], none, ([], []))])
def tz176_L : List sx_C := []
def tz176_U : List sx_Cu := [(2, ([(0, (2, 61, [0, 1])), (1, (2, 61, [0, 0, 1])), (2, (2, 53, [0, 0, 0, 1])), (3, (0, 0, [0, 0, 0, 0, 1]))], [(1, 3), (1, 3), (0, 0), (0, 10)], [[0, 1, -1], [0, -1, 1]], ([], [])), [10, 0, 0, 0, -1])]
theorem tz176_u2 : sx_from (sz_sta tz176_C tz176_L 0 none sy_c70 sy_k_70) tz176_U 3 104 (2, ([(0, (2, 61, [0, 1])), (1, (2, 61, [0, 0, 1])), (2, (2, 53, [0, 0, 0, 1])), (3, (0, 0, [0, 0, 0, 0, 1]))], [(1, 3), (1, 3), (0, 0), (0, 10)], [[0, 1, -1], [0, -1, 1]], ([], [])), [10, 0, 0, 0, -1]) [[[0]], [[1, 0, 0, 0, 1]], [[0, 1]], [[1, 1]]] = true := by decide +kernel
theorem tz176_r : sx_run (sz_sta tz176_C tz176_L 0 none sy_c70 sy_k_70) tz176_U 3 [13] 104 [(0, sx_la 0 tz176_C.2.2.2.2.2.2.1, [], tz176_C.2.2.2.2.1, tz176_C.2.2.2.2.2.1, tz176_C.2.2.2.2.2.2.2.1)] [[[]], [[0, 1]], [[1, 1]]] = true := by decide +kernel
theorem tz176_M : sz_H tz176_C := fun l D dA => sz_one (sx_SM_add sy_hgm sy_good sy_okDD sy_okPP sy_kok sz_nil (q := tz176_C) (q0 := ((sy_my 4 109 108, prog_5_method_2_code, 4, none), sy_c70)) (cs := sy_k_70) (dd := 0) (BIG := 13) (cu := tz176_U) rfl rfl rfl (by decide) (by decide) (by decide) (sz_al (sz_cu tz176_u2 sz_cu0)) tz176_r)
/-- T$Curve.multiply vlad_ vlad_ vt_ -/
def tz177_C : sx_C := (69, 1, 26, 110, [(1, 3), (1, 3), (2, 2)], [[0, 1, -1], [0, -1, 1], [6, -1, -1], [-2, 1, 1], [1, 1, 0, -1], [1, -1, 0, 1], [5, -1, 0, -1], [-3, 1, 0, 1], [1, 0, 1, -1], [1, 0, -1, 1], [5, 0, -1, -1], [-3, 0, 1, 1]], [(2, 61, [0, 1]), (2, 61, [0, 0, 1]), (2, 53, [0, 0, 0, 1])], ([], []), [], [([], [], none, ([], []))])
def tz177_L : List sx_C := []
def tz177_U : List sx_Cu := []
theorem tz177_r : sx_run (sz_sta tz177_C tz177_L 0 none sy_c69 sy_k_69) tz177_U 3 [1] 2303 [(0, sx_la 0 tz177_C.2.2.2.2.2.2.1, [], tz177_C.2.2.2.2.1, tz177_C.2.2.2.2.2.1, tz177_C.2.2.2.2.2.2.2.1)] [[[0]]] = true := by decide +kernel
theorem tz177_M : sz_H tz177_C := fun l D dA => sz_one (sx_SM_add sy_hgm sy_good sy_okDD sy_okPP sy_kok sz_nil (q := tz177_C) (q0 := ((sy_my 4 107 108, prog_5_method_6_code, 65, none), sy_c69)) (cs := sy_k_69) (dd := 0) (BIG := 1) (cu := tz177_U) rfl rfl rfl (by decide) (by decide) (by decide) (fun c hc => by cases hc) tz177_r)
/-- T$Curve.step Curve vlad_ vlad_ vlad_ vlad_ -/
def tz178_C : sx_C := (157, 2, 110, 134, [(0, 2), (1, 3), (0, 2), (1, 3)], [[1, 1, -1], [-1, -1, 1], [5, -1, -1], [-1, 1, 1], [2, 1, 0, -1], [2, -1, 0, 1], [2, -1, 0, -1], [-2, 1, 0, 1], [3, 1, 0, 0, -1], [1, -1, 0, 0, 1], [3, -1, 0, 0, -1], [-3, 1, 0, 0, 1], [1, 0, 1, -1], [3, 0, -1, 1], [3, 0, -1, -1], [-3, 0, 1, 1], [2, 0, 1, 0, -1], [2, 0, -1, 0, 1], [4, 0, -1, 0, -1], [-4, 0, 1, 0, 1], [1, 0, 0, 1, -1], [-1, 0, 0, -1, 1], [5, 0, 0, -1, -1], [-1, 0, 0, 1, 1]], [(2, 83, []), (2, 61, [0, 1]), (2, 61, [0, 0, 1]), (2, 61, [0, 0, 0, 1]), (2, 61, [0, 0, 0, 0, 1])], ([], []), [], [([], [], none, ([], []))])
def tz178_L : List sx_C := [tz169_C, tz170_C, tz83_C, tz171_C, tz172_C, tz173_C, tz174_C, tz84_C, tz175_C, tz176_C, tz177_C]
def tz178_U : List sx_Cu := []
theorem tz178_r : sx_run (sz_sta tz178_C tz178_L 1 none sy_c157 sy_k_157) tz178_U 4 [1] 530 [(0, sx_la 0 tz178_C.2.2.2.2.2.2.1, [], tz178_C.2.2.2.2.1, tz178_C.2.2.2.2.2.1, tz178_C.2.2.2.2.2.2.2.1)] [[[0], [], [0, 1], [0, 0, 1]], [[0, 1]], [[1, 1]], [[1], [1], [0, 1], [0, 0, 1]], [[0, 1]], [[1, 1]], [[0], [2], [0, 0, 0, 1], [0, 0, 0, 0, 1]], [[20, 1]], [[21, 1]], [[1], [3], [0, 0, 0, 1], [0, 0, 0, 0, 1]], [[20, 1]], [[21, 1]], [[2], [3], [3], []], [[2], [2], [2], [1]], [[3], [0, 0, 0, 1], [3], [2]], [[4], [0, 0, 0, 1], [0, 0, 0, 1], [0, 0, 0, 1]], [[5], [0, 0, 0, 0, 1], [3], [2]], [[4], [0, 0, 0, 0, 1], [0, 0, 0, 0, 1], [0, 0, 0, 0, 1]], [[4], [0, 0, 0, 0, 1], [0, 0, 0, 0, 1], [4]], [[2], [], [], []], [[2], [1], [1], [1]], [[6], [0, 1], [], [1]], [[7], [2], [], [1]], [[8], [0, 0, 1], [2]], [[9], [0, 0, 1], [0, 0, 1], []], [[10], [0, 0, 1], [0, 0, 1], [2]], [[0]]] = true := by decide +kernel
theorem tz178_M : sz_H tz178_C := fun l D dA => sz_one (sx_SM_add sy_hgm sy_good sy_okDD sy_okPP sy_kok (sz_cons (tz169_M l D dA) (sz_cons (tz170_M l D dA) (sz_cons (tz83_M l D dA) (sz_cons (tz171_M l D dA) (sz_cons (tz172_M l D dA) (sz_cons (tz173_M l D dA) (sz_cons (tz174_M l D dA) (sz_cons (tz84_M l D dA) (sz_cons (tz175_M l D dA) (sz_cons (tz176_M l D dA) (sz_cons (tz177_M l D dA) sz_nil))))))))))) (q := tz178_C) (q0 := ((sy_my 4 210 211, prog_5_method_24_code, 5, none), sy_c157)) (cs := sy_k_157) (dd := 1) (BIG := 1) (cu := tz178_U) rfl rfl rfl (by decide) (by decide) (by decide) (fun c hc => by cases hc) tz178_r)
/-- T$Curve.copy vpow_ vlad_ -/
def tz179_C : sx_C := (67, 1, 26, 47, [(0, 0), (1, 1)], [[1, 1, -1], [-1, -1, 1], [1, -1, -1], [-1, 1, 1]], [(2, 55, [0, 1]), (2, 61, [0, 0, 1])], ([], []), [], [([], [], none, ([], []))])
def tz179_L : List sx_C := []
def tz179_U : List sx_Cu := []
theorem tz179_r : sx_run (sz_sta tz179_C tz179_L 0 none sy_c67 sy_k_67) tz179_U 2 [1] 71 [(0, sx_la 0 tz179_C.2.2.2.2.2.2.1, [], tz179_C.2.2.2.2.1, tz179_C.2.2.2.2.2.1, tz179_C.2.2.2.2.2.2.2.1)] [[[0]]] = true := by decide +kernel
theorem tz179_M : sz_H tz179_C := fun l D dA => sz_one (sx_SM_add sy_hgm sy_good sy_okDD sy_okPP sy_kok sz_nil (q := tz179_C) (q0 := ((sy_my 4 103 104, prog_5_method_4_code, 2, none), sy_c67)) (cs := sy_k_67) (dd := 0) (BIG := 1) (cu := tz179_U) rfl rfl rfl (by decide) (by decide) (by decide) (fun c hc => by cases hc) tz179_r)
/-- T$Curve.multiply vt_ vlad_ vt_ -/
def tz181_C : sx_C := (69, 1, 26, 110, [(0, 0), (0, 0), (0, 0)], [[0, 1, -1], [0, -1, 1], [0, -1, -1], [0, 1, 1], [0, 1, 0, -1], [0, -1, 0, 1], [0, -1, 0, -1], [0, 1, 0, 1], [0, 0, 1, -1], [0, 0, -1, 1], [0, 0, -1, -1], [0, 0, 1, 1]], [(2, 53, [0, 1]), (2, 61, [0, 0, 1]), (2, 53, [0, 0, 0, 1])], ([], []), [], [([], [], none, ([], []))])
def tz181_L : List sx_C := []
def tz181_U : List sx_Cu := []
theorem tz181_r : sx_run (sz_sta tz181_C tz181_L 0 none sy_c69 sy_k_69) tz181_U 3 [1] 2303 [(0, sx_la 0 tz181_C.2.2.2.2.2.2.1, [], tz181_C.2.2.2.2.1, tz181_C.2.2.2.2.2.1, tz181_C.2.2.2.2.2.2.2.1)] [[[0]]] = true := by decide +kernel
theorem tz181_M : sz_H tz181_C := fun l D dA => sz_one (sx_SM_add sy_hgm sy_good sy_okDD sy_okPP sy_kok sz_nil (q := tz181_C) (q0 := ((sy_my 4 107 108, prog_5_method_6_code, 65, none), sy_c69)) (cs := sy_k_69) (dd := 0) (BIG := 1) (cu := tz181_U) rfl rfl rfl (by decide) (by decide) (by decide) (fun c hc => by cases hc) tz181_r)
/-- T$Signer.isBelowOrder Signer -/
def tz182_C : sx_C := (164, 1, 26, 48, [], [], [(2, 84, [])], ([], []), [], [([], [], some (0, 0, []), ([], [])), ([], [], some (0, 0, [1]), ([], []))])
def tz182_L : List sx_C := []
def tz182_U : List sx_Cu := [(2, ([(0, (2, 84, [])), (1, (0, 0, [0, 1]))], [(-1, 31)], [], ([], [])), [1, 1])]
theorem tz182_u2 : sx_from (sz_sta tz182_C tz182_L 0 (some .boolean) sy_c164 sy_k_164) tz182_U 0 146 (2, ([(0, (2, 84, [])), (1, (0, 0, [0, 1]))], [(-1, 31)], [], ([], [])), [1, 1]) [[[0]], [[-1, 1]], [[0]], [[1]]] = true := by decide +kernel
theorem tz182_r : sx_run (sz_sta tz182_C tz182_L 0 (some .boolean) sy_c164 sy_k_164) tz182_U 0 [35] 146 [(0, sx_la 0 tz182_C.2.2.2.2.2.2.1, [], tz182_C.2.2.2.2.1, tz182_C.2.2.2.2.2.1, tz182_C.2.2.2.2.2.2.2.1)] [[[31]]] = true := by decide +kernel
theorem tz182_M : sz_H tz182_C := fun l D dA => sz_one (sx_SM_add sy_hgm sy_good sy_okDD sy_okPP sy_kok sz_nil (q := tz182_C) (q0 := ((sy_my 10 218 30, prog_11_method_5_code, 3, (some .boolean)), sy_c164)) (cs := sy_k_164) (dd := 0) (BIG := 35) (cu := tz182_U) rfl rfl rfl (by decide) (by decide) (by decide) (sz_al (sz_cu tz182_u2 sz_cu0)) tz182_r)
/-- T$Curve.unpack goth_ csmall i -/
def tz183_C : sx_C := (156, 1, 26, 52, [(1, 1), (0, 0)], [[-1, 1, -1], [1, -1, 1], [1, -1, -1], [-1, 1, 1]], [(2, 76, [0, 1]), (2, 36, []), (0, 0, [0, 0, 1])], ([], []), [], [([], [], none, ([], []))])
def tz183_L : List sx_C := []
def tz183_U : List sx_Cu := [(2, ([(0, (2, 76, [0, 1])), (1, (2, 36, [])), (2, (0, 0, [0, 0, 1])), (3, (0, 0, [0, 0, 0, 1]))], [(1, 1), (0, 0), (0, 10)], [], ([], [])), [10, 0, 0, -1])]
theorem tz183_u2 : sx_from (sz_sta tz183_C tz183_L 0 none sy_c156 sy_k_156) tz183_U 2 2000 (2, ([(0, (2, 76, [0, 1])), (1, (2, 36, [])), (2, (0, 0, [0, 0, 1])), (3, (0, 0, [0, 0, 0, 1]))], [(1, 1), (0, 0), (0, 10)], [], ([], [])), [10, 0, 0, -1]) [[[0]], [[1, 0, 0, 1]], [[1, 0, 0, 1]], [[1, 0, 0, 1]], [[1, 0, 0, 1]], [[1, 0, 0, 1]], [[1, 0, 0, 1]], [[1, 0, 0, 1]], [[1, 0, 0, 1]], [[1, 0, 0, 1]], [[1, 0, 0, 1]]] = true := by decide +kernel
theorem tz183_r : sx_run (sz_sta tz183_C tz183_L 0 none sy_c156 sy_k_156) tz183_U 2 [13] 2000 [(0, sx_la 0 tz183_C.2.2.2.2.2.2.1, [], tz183_C.2.2.2.2.1, tz183_C.2.2.2.2.2.1, tz183_C.2.2.2.2.2.2.2.1)] [[[]]] = true := by decide +kernel
theorem tz183_M : sz_H tz183_C := fun l D dA => sz_one (sx_SM_add sy_hgm sy_good sy_okDD sy_okPP sy_kok sz_nil (q := tz183_C) (q0 := ((sy_my 4 208 209, prog_5_method_7_code, 7, none), sy_c156)) (cs := sy_k_156) (dd := 0) (BIG := 13) (cu := tz183_U) rfl rfl rfl (by decide) (by decide) (by decide) (sz_al (sz_cu tz183_u2 sz_cu0)) tz183_r)
/-- T$Curve.multiply vt_ goth_ goth_ -/
def tz184_C : sx_C := (69, 1, 26, 110, [(0, 2), (0, 2), (0, 2)], [[0, 1, -1], [0, 1, 0, -1], [0, 0, 1, -1], [0, 0, -1, 1]], [(2, 53, [0, 1]), (2, 76, [0, 0, 1]), (2, 76, [0, 0, 0, 1])], ([], []), [], [([], [], none, ([], []))])
def tz184_L : List sx_C := []
def tz184_U : List sx_Cu := []
theorem tz184_r : sx_run (sz_sta tz184_C tz184_L 0 none sy_c69 sy_k_69) tz184_U 3 [1] 2303 [(0, sx_la 0 tz184_C.2.2.2.2.2.2.1, [], tz184_C.2.2.2.2.1, tz184_C.2.2.2.2.2.1, tz184_C.2.2.2.2.2.2.2.1)] [[[0]]] = true := by decide +kernel
theorem tz184_M : sz_H tz184_C := fun l D dA => sz_one (sx_SM_add sy_hgm sy_good sy_okDD sy_okPP sy_kok sz_nil (q := tz184_C) (q0 := ((sy_my 4 107 108, prog_5_method_6_code, 65, none), sy_c69)) (cs := sy_k_69) (dd := 0) (BIG := 1) (cu := tz184_U) rfl rfl rfl (by decide) (by decide) (by decide) (fun c hc => by cases hc) tz184_r)
/-- T$Curve.subtract vt_ vt_ t_CurveONE -/
def tz185_C : sx_C := (71, 1, 26, 49, [(0, 0), (2, 2)], [[2, 1, -1], [-2, -1, 1], [2, -1, -1], [-2, 1, 1]], [(2, 53, [0, 1]), (2, 53, [0, 0, 1]), (2, 198, [])], ([], []), [], [([], [], none, ([], []))])
def tz185_L : List sx_C := []
def tz185_U : List sx_Cu := [(2, ([(0, (2, 53, [0, 1])), (1, (2, 53, [0, 0, 1])), (2, (2, 198, [])), (3, (0, 0, [0, 0, 0, 1]))], [(0, 0), (2, 2), (0, 10)], [], ([], [])), [10, 0, 0, -1])]
theorem tz185_u2 : sx_from (sz_sta tz185_C tz185_L 0 none sy_c71 sy_k_71) tz185_U 2 104 (2, ([(0, (2, 53, [0, 1])), (1, (2, 53, [0, 0, 1])), (2, (2, 198, [])), (3, (0, 0, [0, 0, 0, 1]))], [(0, 0), (2, 2), (0, 10)], [], ([], [])), [10, 0, 0, -1]) [[[0]], [[1, 0, 0, 1]]] = true := by decide +kernel
theorem tz185_r : sx_run (sz_sta tz185_C tz185_L 0 none sy_c71 sy_k_71) tz185_U 2 [13] 104 [(0, sx_la 0 tz185_C.2.2.2.2.2.2.1, [], tz185_C.2.2.2.2.1, tz185_C.2.2.2.2.2.1, tz185_C.2.2.2.2.2.2.2.1)] [[[]]] = true := by decide +kernel
theorem tz185_M : sz_H tz185_C := fun l D dA => sz_one (sx_SM_add sy_hgm sy_good sy_okDD sy_okPP sy_kok sz_nil (q := tz185_C) (q0 := ((sy_my 4 110 108, prog_5_method_3_code, 4, none), sy_c71)) (cs := sy_k_71) (dd := 0) (BIG := 13) (cu := tz185_U) rfl rfl rfl (by decide) (by decide) (by decide) (sz_al (sz_cu tz185_u2 sz_cu0)) tz185_r)
/-- T$Curve.multiply vt_ vt_ t_CurveD -/
def tz186_C : sx_C := (69, 1, 26, 110, [(1, 1), (2, 2)], [[1, 1, -1], [-1, -1, 1], [3, -1, -1], [-3, 1, 1]], [(2, 53, [0, 1]), (2, 53, [0, 0, 1]), (2, 208, [])], ([], []), [], [([], [], none, ([], []))])
def tz186_L : List sx_C := []
def tz186_U : List sx_Cu := []
theorem tz186_r : sx_run (sz_sta tz186_C tz186_L 0 none sy_c69 sy_k_69) tz186_U 2 [1] 2303 [(0, sx_la 0 tz186_C.2.2.2.2.2.2.1, [], tz186_C.2.2.2.2.1, tz186_C.2.2.2.2.2.1, tz186_C.2.2.2.2.2.2.2.1)] [[[0]]] = true := by decide +kernel
theorem tz186_M : sz_H tz186_C := fun l D dA => sz_one (sx_SM_add sy_hgm sy_good sy_okDD sy_okPP sy_kok sz_nil (q := tz186_C) (q0 := ((sy_my 4 107 108, prog_5_method_6_code, 65, none), sy_c69)) (cs := sy_k_69) (dd := 0) (BIG := 1) (cu := tz186_U) rfl rfl rfl (by decide) (by decide) (by decide) (fun c hc => by cases hc) tz186_r)
/-- T$Curve.add vt_ vt_ t_CurveONE -/
def tz187_C : sx_C := (70, 1, 26, 49, [(1, 1), (1, 1)], [[0, 1, -1], [0, -1, 1], [2, -1, -1], [-2, 1, 1]], [(2, 53, [0, 1]), (2, 53, [0, 0, 1]), (2, 198, [])], ([], []), [], [([], [], none, ([], []))])
def tz187_L : List sx_C := []
def tz187_U : List sx_Cu := [(2, ([(0, (2, 53, [0, 1])), (1, (2, 53, [0, 0, 1])), (2, (2, 198, [])), (3, (0, 0, [0, 0, 0, 1]))], [(1, 1), (1, 1), (0, 10)], [], ([], [])), [10, 0, 0, -1])]
theorem tz187_u2 : sx_from (sz_sta tz187_C tz187_L 0 none sy_c70 sy_k_70) tz187_U 2 104 (2, ([(0, (2, 53, [0, 1])), (1, (2, 53, [0, 0, 1])), (2, (2, 198, [])), (3, (0, 0, [0, 0, 0, 1]))], [(1, 1), (1, 1), (0, 10)], [], ([], [])), [10, 0, 0, -1]) [[[0]], [[1, 0, 0, 1]]] = true := by decide +kernel
theorem tz187_r : sx_run (sz_sta tz187_C tz187_L 0 none sy_c70 sy_k_70) tz187_U 2 [13] 104 [(0, sx_la 0 tz187_C.2.2.2.2.2.2.1, [], tz187_C.2.2.2.2.1, tz187_C.2.2.2.2.2.1, tz187_C.2.2.2.2.2.2.2.1)] [[[]]] = true := by decide +kernel
theorem tz187_M : sz_H tz187_C := fun l D dA => sz_one (sx_SM_add sy_hgm sy_good sy_okDD sy_okPP sy_kok sz_nil (q := tz187_C) (q0 := ((sy_my 4 109 108, prog_5_method_2_code, 4, none), sy_c70)) (cs := sy_k_70) (dd := 0) (BIG := 13) (cu := tz187_U) rfl rfl rfl (by decide) (by decide) (by decide) (sz_al (sz_cu tz187_u2 sz_cu0)) tz187_r)
/-- T$Curve.copy vpow_ vt_ -/
def tz188_C : sx_C := (67, 1, 26, 47, [(0, 0), (2, 2)], [[2, 1, -1], [-2, -1, 1], [2, -1, -1], [-2, 1, 1]], [(2, 55, [0, 1]), (2, 53, [0, 0, 1])], ([], []), [], [([], [], none, ([], []))])
def tz188_L : List sx_C := []
def tz188_U : List sx_Cu := []
theorem tz188_r : sx_run (sz_sta tz188_C tz188_L 0 none sy_c67 sy_k_67) tz188_U 2 [1] 71 [(0, sx_la 0 tz188_C.2.2.2.2.2.2.1, [], tz188_C.2.2.2.2.1, tz188_C.2.2.2.2.2.1, tz188_C.2.2.2.2.2.2.2.1)] [[[0]]] = true := by decide +kernel
theorem tz188_M : sz_H tz188_C := fun l D dA => sz_one (sx_SM_add sy_hgm sy_good sy_okDD sy_okPP sy_kok sz_nil (q := tz188_C) (q0 := ((sy_my 4 103 104, prog_5_method_4_code, 2, none), sy_c67)) (cs := sy_k_67) (dd := 0) (BIG := 1) (cu := tz188_U) rfl rfl rfl (by decide) (by decide) (by decide) (fun c hc => by cases hc) tz188_r)
/-- T$Curve.multiply goth_ vt_ vt_ -/
def tz190_C : sx_C := (69, 1, 26, 110, [(0, 3), (0, 6), (2, 6)], [[4, 1, -1], [0, -1, 1], [8, -1, -1], [-1, -1, 0, 1], [8, -1, 0, -1], [3, 0, 1, -1], [3, 0, -1, 1], [11, 0, -1, -1]], [(2, 76, [0, 1]), (2, 53, [0, 0, 1]), (2, 53, [0, 0, 0, 1])], ([], []), [], [([], [], none, ([], []))])
def tz190_L : List sx_C := []
def tz190_U : List sx_Cu := []
theorem tz190_r : sx_run (sz_sta tz190_C tz190_L 0 none sy_c69 sy_k_69) tz190_U 3 [1] 2303 [(0, sx_la 0 tz190_C.2.2.2.2.2.2.1, [], tz190_C.2.2.2.2.1, tz190_C.2.2.2.2.2.1, tz190_C.2.2.2.2.2.2.2.1)] [[[0]]] = true := by decide +kernel
theorem tz190_M : sz_H tz190_C := fun l D dA => sz_one (sx_SM_add sy_hgm sy_good sy_okDD sy_okPP sy_kok sz_nil (q := tz190_C) (q0 := ((sy_my 4 107 108, prog_5_method_6_code, 65, none), sy_c69)) (cs := sy_k_69) (dd := 0) (BIG := 1) (cu := tz190_U) rfl rfl rfl (by decide) (by decide) (by decide) (fun c hc => by cases hc) tz190_r)
/-- T$Curve.multiply goth_ goth_ t_CurveROOT_OF_MINUS_ONE -/
def tz191_C : sx_C := (69, 1, 26, 110, [(0, 0), (0, 0)], [[0, 1, -1], [0, -1, 1], [0, -1, -1], [0, 1, 1]], [(2, 76, [0, 1]), (2, 76, [0, 0, 1]), (2, 209, [])], ([], []), [], [([], [], none, ([], []))])
def tz191_L : List sx_C := []
def tz191_U : List sx_Cu := []
theorem tz191_r : sx_run (sz_sta tz191_C tz191_L 0 none sy_c69 sy_k_69) tz191_U 2 [1] 2303 [(0, sx_la 0 tz191_C.2.2.2.2.2.2.1, [], tz191_C.2.2.2.2.1, tz191_C.2.2.2.2.2.1, tz191_C.2.2.2.2.2.2.2.1)] [[[0]]] = true := by decide +kernel
theorem tz191_M : sz_H tz191_C := fun l D dA => sz_one (sx_SM_add sy_hgm sy_good sy_okDD sy_okPP sy_kok sz_nil (q := tz191_C) (q0 := ((sy_my 4 107 108, prog_5_method_6_code, 65, none), sy_c69)) (cs := sy_k_69) (dd := 0) (BIG := 1) (cu := tz191_U) rfl rfl rfl (by decide) (by decide) (by decide) (fun c hc => by cases hc) tz191_r)
/-- T$Curve.copy goth_ t_CurveONE -/
def tz192_C : sx_C := (67, 1, 26, 47, [(1, 2)], [], [(2, 76, [0, 1]), (2, 198, [])], ([], []), [], [([], [], none, ([], []))])
def tz192_L : List sx_C := []
def tz192_U : List sx_Cu := []
theorem tz192_r : sx_run (sz_sta tz192_C tz192_L 0 none sy_c67 sy_k_67) tz192_U 1 [1] 71 [(0, sx_la 0 tz192_C.2.2.2.2.2.2.1, [], tz192_C.2.2.2.2.1, tz192_C.2.2.2.2.2.1, tz192_C.2.2.2.2.2.2.2.1)] [[[0]]] = true := by decide +kernel
theorem tz192_M : sz_H tz192_C := fun l D dA => sz_one (sx_SM_add sy_hgm sy_good sy_okDD sy_okPP sy_kok sz_nil (q := tz192_C) (q0 := ((sy_my 4 103 104, prog_5_method_4_code, 2, none), sy_c67)) (cs := sy_k_67) (dd := 0) (BIG := 1) (cu := tz192_U) rfl rfl rfl (by decide) (by decide) (by decide) (fun c hc => by cases hc) tz192_r)
/-- T$Curve.multiply goth_ goth_ goth_ -/
def tz193_C : sx_C := (69, 1, 26, 110, [(3, 3), (0, 0), (1, 1)], [[-3, 1, -1], [3, -1, 1], [3, -1, -1], [-3, 1, 1], [-2, 1, 0, -1], [2, -1, 0, 1], [4, -1, 0, -1], [-4, 1, 0, 1], [1, 0, 1, -1], [-1, 0, -1, 1], [1, 0, -1, -1], [-1, 0, 1, 1]], [(2, 76, [0, 1]), (2, 76, [0, 0, 1]), (2, 76, [0, 0, 0, 1])], ([], []), [], [([], [], none, ([], []))])
def tz193_L : List sx_C := []
def tz193_U : List sx_Cu := []
theorem tz193_r : sx_run (sz_sta tz193_C tz193_L 0 none sy_c69 sy_k_69) tz193_U 3 [1] 2303 [(0, sx_la 0 tz193_C.2.2.2.2.2.2.1, [], tz193_C.2.2.2.2.1, tz193_C.2.2.2.2.2.1, tz193_C.2.2.2.2.2.2.2.1)] [[[0]]] = true := by decide +kernel
theorem tz193_M : sz_H tz193_C := fun l D dA => sz_one (sx_SM_add sy_hgm sy_good sy_okDD sy_okPP sy_kok sz_nil (q := tz193_C) (q0 := ((sy_my 4 107 108, prog_5_method_6_code, 65, none), sy_c69)) (cs := sy_k_69) (dd := 0) (BIG := 1) (cu := tz193_U) rfl rfl rfl (by decide) (by decide) (by decide) (fun c hc => by cases hc) tz193_r)
/-- T$Curve.negate goth_ -/
def tz194_C : sx_C := (167, 1, 26, 47, [(0, 3)], [], [(2, 76, [0, 1])], ([], []), [], [([], [], none, ([], []))])
def tz194_L : List sx_C := []
def tz194_U : List sx_Cu := [(2, ([(0, (2, 76, [0, 1])), (1, (0, 0, [0, 0, 1]))], [(0, 3), (0, 10)], [], ([], [])), [10, 0, -1])]
theorem tz194_u2 : sx_from (sz_sta tz194_C tz194_L 0 none sy_c167 sy_k_167) tz194_U 1 95 (2, ([(0, (2, 76, [0, 1])), (1, (0, 0, [0, 0, 1]))], [(0, 3), (0, 10)], [], ([], [])), [10, 0, -1]) [[[0]], [[1, 0, 1]]] = true := by decide +kernel
theorem tz194_r : sx_run (sz_sta tz194_C tz194_L 0 none sy_c167 sy_k_167) tz194_U 1 [13] 95 [(0, sx_la 0 tz194_C.2.2.2.2.2.2.1, [], tz194_C.2.2.2.2.1, tz194_C.2.2.2.2.2.1, tz194_C.2.2.2.2.2.2.2.1)] [[[]]] = true := by decide +kernel
theorem tz194_M : sz_H tz194_C := fun l D dA => sz_one (sx_SM_add sy_hgm sy_good sy_okDD sy_okPP sy_kok sz_nil (q := tz194_C) (q0 := ((sy_my 4 223 224, prog_5_method_5_code, 2, none), sy_c167)) (cs := sy_k_167) (dd := 0) (BIG := 13) (cu := tz194_U) rfl rfl rfl (by decide) (by decide) (by decide) (sz_al (sz_cu tz194_u2 sz_cu0)) tz194_r)
/-- T$Curve.negatePoint goth -/
def tz195_C : sx_C := (169, 2, 47, 67, [], [], [(2, 77, [])], ([], []), [], [([], [], none, ([], []))])
def tz195_L : List sx_C := [tz194_C]
def tz195_U : List sx_Cu := []
theorem tz195_r : sx_run (sz_sta tz195_C tz195_L 1 none sy_c169 sy_k_169) tz195_U 0 [1] 77 [(0, sx_la 0 tz195_C.2.2.2.2.2.2.1, [], tz195_C.2.2.2.2.1, tz195_C.2.2.2.2.2.1, tz195_C.2.2.2.2.2.2.2.1)] [[[0], []], [[0], [3]], [[0]]] = true := by decide +kernel
theorem tz195_M : sz_H tz195_C := fun l D dA => sz_one (sx_SM_add sy_hgm sy_good sy_okDD sy_okPP sy_kok (sz_cons (tz194_M l D dA) sz_nil) (q := tz195_C) (q0 := ((sy_my 4 227 106, prog_5_method_22_code, 1, none), sy_c169)) (cs := sy_k_169) (dd := 1) (BIG := 1) (cu := tz195_U) rfl rfl rfl (by decide) (by decide) (by decide) (fun c hc => by cases hc) tz195_r)
/-- T$Signer.hashSigned Signer cwork i csmall -/
def tz196_C : sx_C := (85, 4, 118, 141, [(0, 512)], [], [(2, 84, []), (2, 35, []), (0, 0, [0, 1]), (2, 36, [])], ([], []), [(67, 999), (68, 999), (69, 999)], [([], [], none, ([], []))])
def tz196_L : List sx_C := [tz104_C]
def tz196_U : List sx_Cu := []
theorem tz196_r : sx_run (sz_sta tz196_C tz196_L 3 none sy_c85 sy_k_85) tz196_U 1 [1] 146 [(0, sx_la 0 tz196_C.2.2.2.2.2.2.1, [], tz196_C.2.2.2.2.1, tz196_C.2.2.2.2.2.1, tz196_C.2.2.2.2.2.2.2.1)] [[[0], [64, 1]], [[0]]] = true := by decide +kernel
theorem tz196_M : sz_H tz196_C := fun l D dA => sz_one (sx_SM_add sy_hgm sy_good sy_okDD sy_okPP sy_kok (sz_cons (tz104_M l D dA) sz_nil) (q := tz196_C) (q0 := ((sy_my 10 130 101, prog_11_method_6_code, 4, none), sy_c85)) (cs := sy_k_85) (dd := 3) (BIG := 1) (cu := tz196_U) rfl rfl rfl (by decide) (by decide) (by decide) (fun c hc => by cases hc) tz196_r)
/-- T$Curve.subtract vt_ goth_ goth_ -/
def tz197_C : sx_C := (71, 1, 26, 49, [(0, 4), (1, 1), (0, 0)], [], [(2, 53, [0, 1]), (2, 76, [0, 0, 1]), (2, 76, [0, 0, 0, 1])], ([], []), [], [([], [], none, ([], []))])
def tz197_L : List sx_C := []
def tz197_U : List sx_Cu := [(2, ([(0, (2, 53, [0, 1])), (1, (2, 76, [0, 0, 1])), (2, (2, 76, [0, 0, 0, 1])), (3, (0, 0, [0, 0, 0, 0, 1]))], [(0, 4), (1, 1), (0, 0), (0, 10)], [], ([], [])), [10, 0, 0, 0, -1])]
theorem tz197_u2 : sx_from (sz_sta tz197_C tz197_L 0 none sy_c71 sy_k_71) tz197_U 3 104 (2, ([(0, (2, 53, [0, 1])), (1, (2, 76, [0, 0, 1])), (2, (2, 76, [0, 0, 0, 1])), (3, (0, 0, [0, 0, 0, 0, 1]))], [(0, 4), (1, 1), (0, 0), (0, 10)], [], ([], [])), [10, 0, 0, 0, -1]) [[[0]], [[1, 0, 0, 0, 1]]] = true := by decide +kernel
theorem tz197_r : sx_run (sz_sta tz197_C tz197_L 0 none sy_c71 sy_k_71) tz197_U 3 [13] 104 [(0, sx_la 0 tz197_C.2.2.2.2.2.2.1, [], tz197_C.2.2.2.2.1, tz197_C.2.2.2.2.2.1, tz197_C.2.2.2.2.2.2.2.1)] [[[]]] = true := by decide +kernel
theorem tz197_M : sz_H tz197_C := fun l D dA => sz_one (sx_SM_add sy_hgm sy_good sy_okDD sy_okPP sy_kok sz_nil (q := tz197_C) (q0 := ((sy_my 4 110 108, prog_5_method_3_code, 4, none), sy_c71)) (cs := sy_k_71) (dd := 0) (BIG := 13) (cu := tz197_U) rfl rfl rfl (by decide) (by decide) (by decide) (sz_al (sz_cu tz197_u2 sz_cu0)) tz197_r)
/-- T$Curve.add vt_ goth_ goth_ -/
def tz198_C : sx_C := (70, 1, 26, 49, [(1, 5), (0, 2), (0, 2)], [[0, 1, -1], [4, -1, 1], [6, -1, -1], [-2, 1, 1], [-1, 1, 0, -1], [5, -1, 0, -1], [1, 0, 1, -1], [1, 0, -1, 1], [-1, 0, 1, 1]], [(2, 53, [0, 1]), (2, 76, [0, 0, 1]), (2, 76, [0, 0, 0, 1])], ([], []), [], [([], [], none, ([], []))])
def tz198_L : List sx_C := []
def tz198_U : List sx_Cu := [(2, ([(0, (2, 53, [0, 1])), (1, (2, 76, [0, 0, 1])), (2, (2, 76, [0, 0, 0, 1])), (3, (0, 0, [0, 0, 0, 0, 1]))], [(1, 5), (0, 2), (0, 2), (0, 10)], [[0, 1, -1], [4, -1, 1], [6, -1, -1], [-2, 1, 1], [-1, 1, 0, -1], [5, -1, 0, -1], [1, 0, 1, -1], [1, 0, -1, 1], [-1, 0, 1, 1]], ([], [])), [10, 0, 0, 0, -1])]
theorem tz198_u2 : sx_from (sz_sta tz198_C tz198_L 0 none sy_c70 sy_k_70) tz198_U 3 104 (2, ([(0, (2, 53, [0, 1])), (1, (2, 76, [0, 0, 1])), (2, (2, 76, [0, 0, 0, 1])), (3, (0, 0, [0, 0, 0, 0, 1]))], [(1, 5), (0, 2), (0, 2), (0, 10)], [[0, 1, -1], [4, -1, 1], [6, -1, -1], [-2, 1, 1], [-1, 1, 0, -1], [5, -1, 0, -1], [1, 0, 1, -1], [1, 0, -1, 1], [-1, 0, 1, 1]], ([], [])), [10, 0, 0, 0, -1]) [[[0]], [[1, 0, 0, 0, 1]], [[0, 1]], [[1, 1]], [[2, 1]], [[3, 1]], [[4, 1]], [[5, 1]], [[6, 1]], [[7, 1]], [[8, 1]]] = true := by decide +kernel
theorem tz198_r : sx_run (sz_sta tz198_C tz198_L 0 none sy_c70 sy_k_70) tz198_U 3 [13] 104 [(0, sx_la 0 tz198_C.2.2.2.2.2.2.1, [], tz198_C.2.2.2.2.1, tz198_C.2.2.2.2.2.1, tz198_C.2.2.2.2.2.2.2.1)] [[[]], [[0, 1]], [[1, 1]], [[2, 1]], [[3, 1]], [[4, 1]], [[5, 1]], [[6, 1]], [[7, 1]], [[8, 1]]] = true := by decide +kernel
theorem tz198_M : sz_H tz198_C := fun l D dA => sz_one (sx_SM_add sy_hgm sy_good sy_okDD sy_okPP sy_kok sz_nil (q := tz198_C) (q0 := ((sy_my 4 109 108, prog_5_method_2_code, 4, none), sy_c70)) (cs := sy_k_70) (dd := 0) (BIG := 13) (cu := tz198_U) rfl rfl rfl (by decide) (by decide) (by decide) (sz_al (sz_cu tz198_u2 sz_cu0)) tz198_r)
/-- T$Curve.multiply vt_ goth_ t_CurveTWO_D -/
def tz199_C : sx_C := (69, 1, 26, 110, [(6, 6), (3, 3)], [[-3, 1, -1], [3, -1, 1], [9, -1, -1], [-9, 1, 1]], [(2, 53, [0, 1]), (2, 76, [0, 0, 1]), (2, 210, [])], ([], []), [], [([], [], none, ([], []))])
def tz199_L : List sx_C := []
def tz199_U : List sx_Cu := []
theorem tz199_r : sx_run (sz_sta tz199_C tz199_L 0 none sy_c69 sy_k_69) tz199_U 2 [1] 2303 [(0, sx_la 0 tz199_C.2.2.2.2.2.2.1, [], tz199_C.2.2.2.2.1, tz199_C.2.2.2.2.2.1, tz199_C.2.2.2.2.2.2.2.1)] [[[0]]] = true := by decide +kernel
theorem tz199_M : sz_H tz199_C := fun l D dA => sz_one (sx_SM_add sy_hgm sy_good sy_okDD sy_okPP sy_kok sz_nil (q := tz199_C) (q0 := ((sy_my 4 107 108, prog_5_method_6_code, 65, none), sy_c69)) (cs := sy_k_69) (dd := 0) (BIG := 1) (cu := tz199_U) rfl rfl rfl (by decide) (by decide) (by decide) (fun c hc => by cases hc) tz199_r)
/-- T$Curve.multiply vt_ gpt_ goth_ -/
def tz200_C : sx_C := (69, 1, 26, 110, [(3, 3), (2, 2), (2, 2)], [[-1, 1, -1], [1, -1, 1], [5, -1, -1], [-5, 1, 1], [-1, 1, 0, -1], [1, -1, 0, 1], [5, -1, 0, -1], [-5, 1, 0, 1], [0, 0, 1, -1], [0, 0, -1, 1], [4, 0, -1, -1], [-4, 0, 1, 1]], [(2, 53, [0, 1]), (2, 74, [0, 0, 1]), (2, 76, [0, 0, 0, 1])], ([], []), [], [([], [], none, ([], []))])
def tz200_L : List sx_C := []
def tz200_U : List sx_Cu := []
theorem tz200_r : sx_run (sz_sta tz200_C tz200_L 0 none sy_c69 sy_k_69) tz200_U 3 [1] 2303 [(0, sx_la 0 tz200_C.2.2.2.2.2.2.1, [], tz200_C.2.2.2.2.1, tz200_C.2.2.2.2.2.1, tz200_C.2.2.2.2.2.2.2.1)] [[[0]]] = true := by decide +kernel
theorem tz200_M : sz_H tz200_C := fun l D dA => sz_one (sx_SM_add sy_hgm sy_good sy_okDD sy_okPP sy_kok sz_nil (q := tz200_C) (q0 := ((sy_my 4 107 108, prog_5_method_6_code, 65, none), sy_c69)) (cs := sy_k_69) (dd := 0) (BIG := 1) (cu := tz200_U) rfl rfl rfl (by decide) (by decide) (by decide) (fun c hc => by cases hc) tz200_r)
/-- T$Curve.joinBy Curve gpt vt_ vt_ vt_ -/
def tz201_C : sx_C := (74, 2, 110, 134, [(5, 5), (4, 4), (6, 6)], [[-1, 1, -1], [1, -1, 1], [9, -1, -1], [-9, 1, 1], [1, 1, 0, -1], [-1, -1, 0, 1], [11, -1, 0, -1], [-11, 1, 0, 1], [2, 0, 1, -1], [-2, 0, -1, 1], [10, 0, -1, -1], [-10, 0, 1, 1]], [(2, 83, []), (2, 75, []), (2, 53, [0, 1]), (2, 53, [0, 0, 1]), (2, 53, [0, 0, 0, 1])], ([], []), [], [([], [], none, ([], []))])
def tz201_L : List sx_C := [tz88_C, tz83_C, tz82_C, tz99_C, tz84_C, tz81_C, tz85_C]
def tz201_U : List sx_Cu := []
theorem tz201_r : sx_run (sz_sta tz201_C tz201_L 1 none sy_c74 sy_k_74) tz201_U 3 [1] 506 [(0, sx_la 0 tz201_C.2.2.2.2.2.2.1, [], tz201_C.2.2.2.2.1, tz201_C.2.2.2.2.2.1, tz201_C.2.2.2.2.2.2.2.1)] [[[0], [], [1], []], [[1], [], [], [0, 0, 1]], [[2], [1], [1], []], [[1], [1], [1], [0, 1]], [[3], [2], [3], [0, 0, 0, 1]], [[4], [4], [1], []], [[5], [5], [1], []], [[4], [6], [3], [2]], [[5], [3], [3], [2]], [[6], [], [4], [6]], [[6], [1], [3], [5]], [[6], [2], [6], [3]], [[6], [3], [4], [5]], [[0]]] = true := by decide +kernel
theorem tz201_M : sz_H tz201_C := fun l D dA => sz_one (sx_SM_add sy_hgm sy_good sy_okDD sy_okPP sy_kok (sz_cons (tz88_M l D dA) (sz_cons (tz83_M l D dA) (sz_cons (tz82_M l D dA) (sz_cons (tz99_M l D dA) (sz_cons (tz84_M l D dA) (sz_cons (tz81_M l D dA) (sz_cons (tz85_M l D dA) sz_nil))))))) (q := tz201_C) (q0 := ((sy_my 4 113 114, prog_5_method_15_code, 5, none), sy_c74)) (cs := sy_k_74) (dd := 1) (BIG := 1) (cu := tz201_U) rfl rfl rfl (by decide) (by decide) (by decide) (fun c hc => by cases hc) tz201_r)
/-- T$Curve.join Curve gpt goth i -/
def tz202_C : sx_C := (170, 3, 134, 157, [(0, 0)], [], [(2, 83, []), (2, 75, []), (2, 77, []), (0, 0, [0, 1])], ([], []), [], [([], [], none, ([], []))])
def tz202_L : List sx_C := [tz197_C, tz198_C, tz199_C, tz200_C, tz81_C, tz201_C]
def tz202_U : List sx_Cu := []
theorem tz202_r : sx_run (sz_sta tz202_C tz202_L 2 none sy_c170 sy_k_170) tz202_U 1 [1] 287 [(0, sx_la 0 tz202_C.2.2.2.2.2.2.1, [], tz202_C.2.2.2.2.1, tz202_C.2.2.2.2.2.1, tz202_C.2.2.2.2.2.2.2.1)] [[[0], [4], [1, 1], [0, 1]], [[1], [5], [1, 1], [0, 1]], [[2], [6], [3, 1]], [[3], [3], [2], [2, 1]], [[4], [3], [3], [3]], [[5], [5], [4], [6]], [[0]]] = true := by decide +kernel
theorem tz202_M : sz_H tz202_C := fun l D dA => sz_one (sx_SM_add sy_hgm sy_good sy_okDD sy_okPP sy_kok (sz_cons (tz197_M l D dA) (sz_cons (tz198_M l D dA) (sz_cons (tz199_M l D dA) (sz_cons (tz200_M l D dA) (sz_cons (tz81_M l D dA) (sz_cons (tz201_M l D dA) sz_nil)))))) (q := tz202_C) (q0 := ((sy_my 4 228 229, prog_5_method_13_code, 4, none), sy_c170)) (cs := sy_k_170) (dd := 2) (BIG := 1) (cu := tz202_U) rfl rfl rfl (by decide) (by decide) (by decide) (fun c hc => by cases hc) tz202_r)
/-- T$Curve.copy vtab_ gpt_ -/
def tz203_C : sx_C := (67, 1, 26, 47, [(4, 63), (0, 3)], [[-4, 1, -1], [60, -1, 1]], [(2, 57, [0, 1]), (2, 74, [0, 0, 1])], ([], []), [], [([], [], none, ([], []))])
def tz203_L : List sx_C := []
def tz203_U : List sx_Cu := []
theorem tz203_r : sx_run (sz_sta tz203_C tz203_L 0 none sy_c67 sy_k_67) tz203_U 2 [1] 71 [(0, sx_la 0 tz203_C.2.2.2.2.2.2.1, [], tz203_C.2.2.2.2.1, tz203_C.2.2.2.2.2.1, tz203_C.2.2.2.2.2.2.2.1)] [[[0]]] = true := by decide +kernel
theorem tz203_M : sz_H tz203_C := fun l D dA => sz_one (sx_SM_add sy_hgm sy_good sy_okDD sy_okPP sy_kok sz_nil (q := tz203_C) (q0 := ((sy_my 4 103 104, prog_5_method_4_code, 2, none), sy_c67)) (cs := sy_k_67) (dd := 0) (BIG := 1) (cu := tz203_U) rfl rfl rfl (by decide) (by decide) (by decide) (fun c hc => by cases hc) tz203_r)
/-- T$Curve.subtract vt_ vtab_ vtab_ -/
def tz204_C : sx_C := (71, 1, 26, 49, [(4, 4), (5, 61), (4, 60)], [[57, 1, -1], [-1, -1, 1], [65, -1, -1], [-9, 1, 1], [56, 1, 0, -1], [0, -1, 0, 1], [64, -1, 0, -1], [-8, 1, 0, 1], [-1, 0, 1, -1], [1, 0, -1, 1], [121, 0, -1, -1], [-9, 0, 1, 1]], [(2, 53, [0, 1]), (2, 57, [0, 0, 1]), (2, 57, [0, 0, 0, 1])], ([], []), [], [([], [], none, ([], []))])
def tz204_L : List sx_C := []
def tz204_U : List sx_Cu := [(2, ([(0, (2, 53, [0, 1])), (1, (2, 57, [0, 0, 1])), (2, (2, 57, [0, 0, 0, 1])), (3, (0, 0, [0, 0, 0, 0, 1]))], [(4, 4), (5, 61), (4, 60), (0, 10)], [[-1, 0, 1, -1], [1, 0, -1, 1]], ([], [])), [10, 0, 0, 0, -1])]
theorem tz204_u2 : sx_from (sz_sta tz204_C tz204_L 0 none sy_c71 sy_k_71) tz204_U 3 104 (2, ([(0, (2, 53, [0, 1])), (1, (2, 57, [0, 0, 1])), (2, (2, 57, [0, 0, 0, 1])), (3, (0, 0, [0, 0, 0, 0, 1]))], [(4, 4), (5, 61), (4, 60), (0, 10)], [[-1, 0, 1, -1], [1, 0, -1, 1]], ([], [])), [10, 0, 0, 0, -1]) [[[0]], [[1, 0, 0, 0, 1]], [[0, 1]], [[1, 1]]] = true := by decide +kernel
theorem tz204_r : sx_run (sz_sta tz204_C tz204_L 0 none sy_c71 sy_k_71) tz204_U 3 [13] 104 [(0, sx_la 0 tz204_C.2.2.2.2.2.2.1, [], tz204_C.2.2.2.2.1, tz204_C.2.2.2.2.2.1, tz204_C.2.2.2.2.2.2.2.1)] [[[]], [[8, 1]], [[9, 1]]] = true := by decide +kernel
theorem tz204_M : sz_H tz204_C := fun l D dA => sz_one (sx_SM_add sy_hgm sy_good sy_okDD sy_okPP sy_kok sz_nil (q := tz204_C) (q0 := ((sy_my 4 110 108, prog_5_method_3_code, 4, none), sy_c71)) (cs := sy_k_71) (dd := 0) (BIG := 13) (cu := tz204_U) rfl rfl rfl (by decide) (by decide) (by decide) (sz_al (sz_cu tz204_u2 sz_cu0)) tz204_r)
/-- T$Curve.add vt_ vtab_ vtab_ -/
def tz205_C : sx_C := (70, 1, 26, 49, [(5, 5), (5, 61), (4, 60)], [[56, 1, -1], [0, -1, 1], [66, -1, -1], [-10, 1, 1], [55, 1, 0, -1], [1, -1, 0, 1], [65, -1, 0, -1], [-9, 1, 0, 1], [-1, 0, 1, -1], [1, 0, -1, 1], [121, 0, -1, -1], [-9, 0, 1, 1]], [(2, 53, [0, 1]), (2, 57, [0, 0, 1]), (2, 57, [0, 0, 0, 1])], ([], []), [], [([], [], none, ([], []))])
def tz205_L : List sx_C := []
def tz205_U : List sx_Cu := [(2, ([(0, (2, 53, [0, 1])), (1, (2, 57, [0, 0, 1])), (2, (2, 57, [0, 0, 0, 1])), (3, (0, 0, [0, 0, 0, 0, 1]))], [(5, 5), (5, 61), (4, 60), (0, 10)], [[-1, 0, 1, -1], [1, 0, -1, 1]], ([], [])), [10, 0, 0, 0, -1])]
theorem tz205_u2 : sx_from (sz_sta tz205_C tz205_L 0 none sy_c70 sy_k_70) tz205_U 3 104 (2, ([(0, (2, 53, [0, 1])), (1, (2, 57, [0, 0, 1])), (2, (2, 57, [0, 0, 0, 1])), (3, (0, 0, [0, 0, 0, 0, 1]))], [(5, 5), (5, 61), (4, 60), (0, 10)], [[-1, 0, 1, -1], [1, 0, -1, 1]], ([], [])), [10, 0, 0, 0, -1]) [[[0]], [[1, 0, 0, 0, 1]], [[0, 1]], [[1, 1]]] = true := by decide +kernel
theorem tz205_r : sx_run (sz_sta tz205_C tz205_L 0 none sy_c70 sy_k_70) tz205_U 3 [13] 104 [(0, sx_la 0 tz205_C.2.2.2.2.2.2.1, [], tz205_C.2.2.2.2.1, tz205_C.2.2.2.2.2.1, tz205_C.2.2.2.2.2.2.2.1)] [[[]], [[8, 1]], [[9, 1]]] = true := by decide +kernel
theorem tz205_M : sz_H tz205_C := fun l D dA => sz_one (sx_SM_add sy_hgm sy_good sy_okDD sy_okPP sy_kok sz_nil (q := tz205_C) (q0 := ((sy_my 4 109 108, prog_5_method_2_code, 4, none), sy_c70)) (cs := sy_k_70) (dd := 0) (BIG := 13) (cu := tz205_U) rfl rfl rfl (by decide) (by decide) (by decide) (sz_al (sz_cu tz205_u2 sz_cu0)) tz205_r)
/-- T$Curve.multiply vt_ vtab_ t_CurveTWO_D -/
def tz206_C : sx_C := (69, 1, 26, 110, [(6, 6), (7, 63)], [[57, 1, -1], [-1, -1, 1], [69, -1, -1], [-13, 1, 1]], [(2, 53, [0, 1]), (2, 57, [0, 0, 1]), (2, 210, [])], ([], []), [], [([], [], none, ([], []))])
def tz206_L : List sx_C := []
def tz206_U : List sx_Cu := []
theorem tz206_r : sx_run (sz_sta tz206_C tz206_L 0 none sy_c69 sy_k_69) tz206_U 2 [1] 2303 [(0, sx_la 0 tz206_C.2.2.2.2.2.2.1, [], tz206_C.2.2.2.2.1, tz206_C.2.2.2.2.2.1, tz206_C.2.2.2.2.2.2.2.1)] [[[0]]] = true := by decide +kernel
theorem tz206_M : sz_H tz206_C := fun l D dA => sz_one (sx_SM_add sy_hgm sy_good sy_okDD sy_okPP sy_kok sz_nil (q := tz206_C) (q0 := ((sy_my 4 107 108, prog_5_method_6_code, 65, none), sy_c69)) (cs := sy_k_69) (dd := 0) (BIG := 1) (cu := tz206_U) rfl rfl rfl (by decide) (by decide) (by decide) (fun c hc => by cases hc) tz206_r)
/-- T$Curve.multiply vt_ gpt_ vtab_ -/
def tz207_C : sx_C := (69, 1, 26, 110, [(3, 3), (2, 2), (6, 62)], [[-1, 1, -1], [1, -1, 1], [5, -1, -1], [-5, 1, 1], [59, 1, 0, -1], [-3, -1, 0, 1], [65, -1, 0, -1], [-9, 1, 0, 1], [60, 0, 1, -1], [-4, 0, -1, 1], [64, 0, -1, -1], [-8, 0, 1, 1]], [(2, 53, [0, 1]), (2, 74, [0, 0, 1]), (2, 57, [0, 0, 0, 1])], ([], []), [], [([], [], none, ([], []))])
def tz207_L : List sx_C := []
def tz207_U : List sx_Cu := []
theorem tz207_r : sx_run (sz_sta tz207_C tz207_L 0 none sy_c69 sy_k_69) tz207_U 3 [1] 2303 [(0, sx_la 0 tz207_C.2.2.2.2.2.2.1, [], tz207_C.2.2.2.2.1, tz207_C.2.2.2.2.2.1, tz207_C.2.2.2.2.2.2.2.1)] [[[0]]] = true := by decide +kernel
theorem tz207_M : sz_H tz207_C := fun l D dA => sz_one (sx_SM_add sy_hgm sy_good sy_okDD sy_okPP sy_kok sz_nil (q := tz207_C) (q0 := ((sy_my 4 107 108, prog_5_method_6_code, 65, none), sy_c69)) (cs := sy_k_69) (dd := 0) (BIG := 1) (cu := tz207_U) rfl rfl rfl (by decide) (by decide) (by decide) (fun c hc => by cases hc) tz207_r)
/-- T$Curve.join Curve gpt vtab i -/
def tz208_C : sx_C := (170, 3, 134, 157, [(4, 60)], [], [(2, 83, []), (2, 75, []), (2, 58, []), (0, 0, [0, 1])], ([], []), [], [([], [], none, ([], []))])
def tz208_L : List sx_C := [tz204_C, tz205_C, tz206_C, tz207_C, tz81_C, tz201_C]
def tz208_U : List sx_Cu := []
theorem tz208_r : sx_run (sz_sta tz208_C tz208_L 2 none sy_c170 sy_k_170) tz208_U 1 [1] 287 [(0, sx_la 0 tz208_C.2.2.2.2.2.2.1, [], tz208_C.2.2.2.2.1, tz208_C.2.2.2.2.2.1, tz208_C.2.2.2.2.2.2.2.1)] [[[0], [4], [1, 1], [0, 1]], [[1], [5], [1, 1], [0, 1]], [[2], [6], [3, 1]], [[3], [3], [2], [2, 1]], [[4], [3], [3], [3]], [[5], [5], [4], [6]], [[0]]] = true := by decide +kernel
theorem tz208_M : sz_H tz208_C := fun l D dA => sz_one (sx_SM_add sy_hgm sy_good sy_okDD sy_okPP sy_kok (sz_cons (tz204_M l D dA) (sz_cons (tz205_M l D dA) (sz_cons (tz206_M l D dA) (sz_cons (tz207_M l D dA) (sz_cons (tz81_M l D dA) (sz_cons (tz201_M l D dA) sz_nil)))))) (q := tz208_C) (q0 := ((sy_my 4 228 229, prog_5_method_13_code, 4, none), sy_c170)) (cs := sy_k_170) (dd := 2) (BIG := 1) (cu := tz208_U) rfl rfl rfl (by decide) (by decide) (by decide) (fun c hc => by cases hc) tz208_r)
/-- T$Curve.times Curve gpt gscal goth -/
def tz209_C : sx_C := (171, 4, 157, 182, [], [], [(2, 83, []), (2, 75, []), (2, 73, []), (2, 77, [])], ([], []), [], [([], [], none, ([], []))])
def tz209_L : List sx_C := [tz79_C, tz202_C, tz203_C, tz208_C, tz86_C]
def tz209_U : List sx_Cu := [(4, ([(0, (2, 83, [])), (1, (2, 75, [])), (2, (2, 73, [])), (3, (2, 77, [])), (4, (0, 0, [0, 1]))], [(1, 16)], [], ([], [])), [580, -7]), (14, ([(0, (2, 83, [])), (1, (2, 75, [])), (2, (2, 73, [])), (3, (2, 77, [])), (4, (0, 0, [0, 1])), (5, (0, 0, [0, 0, 1]))], [(1, 15), (0, 4)], [], ([], [])), [578, -7, -1]), (37, ([(0, (2, 83, [])), (1, (2, 75, [])), (2, (2, 73, [])), (4, (0, 0, [0, 1]))], [(-1, 63)], [], ([], [])), [13, 7]), (41, ([(0, (2, 83, [])), (1, (2, 75, [])), (2, (2, 73, [])), (4, (0, 0, [0, 1])), (5, (0, 0, [0, 0, 1]))], [(0, 63), (0, 4)], [], ([], [])), [11, 7, -1])]
theorem tz209_u4 : sx_from (sz_sta tz209_C tz209_L 3 none sy_c171 sy_k_171) tz209_U 0 284 (4, ([(0, (2, 83, [])), (1, (2, 75, [])), (2, (2, 73, [])), (3, (2, 77, [])), (4, (0, 0, [0, 1]))], [(1, 16)], [], ([], [])), [580, -7]) [[[0]], [[63]], [[1], []], [[0, 1], []]] = true := by decide +kernel
theorem tz209_u14 : sx_from (sz_sta tz209_C tz209_L 3 none sy_c171 sy_k_171) tz209_U 0 284 (14, ([(0, (2, 83, [])), (1, (2, 75, [])), (2, (2, 73, [])), (3, (2, 77, [])), (4, (0, 0, [0, 1])), (5, (0, 0, [0, 0, 1]))], [(1, 15), (0, 4)], [], ([], [])), [578, -7, -1]) [[[1, 1]], [[2], [0, 4, 1], [0, 0, 1]], [[0, 1], [1, 0, 1]]] = true := by decide +kernel
theorem tz209_u37 : sx_from (sz_sta tz209_C tz209_L 3 none sy_c171 sy_k_171) tz209_U 0 284 (37, ([(0, (2, 83, [])), (1, (2, 75, [])), (2, (2, 73, [])), (4, (0, 0, [0, 1]))], [(-1, 63)], [], ([], [])), [13, 7]) [[[0]], [[0, 1], []]] = true := by decide +kernel
theorem tz209_u41 : sx_from (sz_sta tz209_C tz209_L 3 none sy_c171 sy_k_171) tz209_U 0 284 (41, ([(0, (2, 83, [])), (1, (2, 75, [])), (2, (2, 73, [])), (4, (0, 0, [0, 1])), (5, (0, 0, [0, 0, 1]))], [(0, 63), (0, 4)], [], ([], [])), [11, 7, -1]) [[[-1, 1]], [[3], [0, 0, 0, 0, 0, 0, 0, 4]], [[-1, 1]], [[4]], [[0, 1], [1, 0, 1]]] = true := by decide +kernel
theorem tz209_r : sx_run (sz_sta tz209_C tz209_L 3 none sy_c171 sy_k_171) tz209_U 0 [582] 284 [(0, sx_la 0 tz209_C.2.2.2.2.2.2.1, [], tz209_C.2.2.2.2.1, tz209_C.2.2.2.2.2.1, tz209_C.2.2.2.2.2.2.2.1)] [[[0]], [[1]]] = true := by decide +kernel
theorem tz209_M : sz_H tz209_C := fun l D dA => sz_one (sx_SM_add sy_hgm sy_good sy_okDD sy_okPP sy_kok (sz_cons (tz79_M l D dA) (sz_cons (tz202_M l D dA) (sz_cons (tz203_M l D dA) (sz_cons (tz208_M l D dA) (sz_cons (tz86_M l D dA) sz_nil))))) (q := tz209_C) (q0 := ((sy_my 4 230 231, prog_5_method_18_code, 6, none), sy_c171)) (cs := sy_k_171) (dd := 3) (BIG := 582) (cu := tz209_U) rfl rfl rfl (by decide) (by decide) (by decide) (sz_al (sz_cu tz209_u4 (sz_cu tz209_u14 (sz_cu tz209_u37 (sz_cu tz209_u41 sz_cu0))))) tz209_r)
/-- Arrays.fill goth_ l -/
def tz210_C : sx_C := (66, 1, 26, 50, [(0, 3), (0, 0)], [], [(2, 76, [0, 1]), (4, 0, [0, 0, 1])], ([], []), [], [([], [], none, ([], []))])
def tz210_L : List sx_C := []
def tz210_U : List sx_Cu := [(5, ([(0, (2, 76, [0, 1])), (1, (4, 0, [0, 0, 1])), (3, (0, 0, [0, 0, 0, 1])), (4, (0, 0, [10]))], [(0, 3), (0, 0), (0, 10)], [], ([], [])), [10, 0, 0, -1])]
theorem tz210_u5 : sx_from (sz_sta tz210_C tz210_L 0 none sy_c66 sy_k_66) tz210_U 2 95 (5, ([(0, (2, 76, [0, 1])), (1, (4, 0, [0, 0, 1])), (3, (0, 0, [0, 0, 0, 1])), (4, (0, 0, [10]))], [(0, 3), (0, 0), (0, 10)], [], ([], [])), [10, 0, 0, -1]) [[[0]], [[1, 0, 0, 1]]] = true := by decide +kernel
theorem tz210_r : sx_run (sz_sta tz210_C tz210_L 0 none sy_c66 sy_k_66) tz210_U 2 [13] 95 [(0, sx_la 0 tz210_C.2.2.2.2.2.2.1, [], tz210_C.2.2.2.2.1, tz210_C.2.2.2.2.2.1, tz210_C.2.2.2.2.2.2.2.1)] [[[]]] = true := by decide +kernel
theorem tz210_M : sz_H tz210_C := fun l D dA => sz_one (sx_SM_add sy_hgm sy_good sy_okDD sy_okPP sy_kok sz_nil (q := tz210_C) (q0 := ((sy_my 13 23 102, prog_29_method_101_code, 5, none), sy_c66)) (cs := sy_k_66) (dd := 0) (BIG := 13) (cu := tz210_U) rfl rfl rfl (by decide) (by decide) (by decide) (sz_al (sz_cu tz210_u5 sz_cu0)) tz210_r)
/-- T$Curve.setNeutral goth -/
def tz211_C : sx_C := (68, 2, 50, 70, [], [], [(2, 77, [])], ([], []), [], [([], [], none, ([], []))])
def tz211_L : List sx_C := [tz210_C, tz192_C]
def tz211_U : List sx_Cu := []
theorem tz211_r : sx_run (sz_sta tz211_C tz211_L 1 none sy_c68 sy_k_68) tz211_U 0 [1] 113 [(0, sx_la 0 tz211_C.2.2.2.2.2.2.1, [], tz211_C.2.2.2.2.1, tz211_C.2.2.2.2.2.1, tz211_C.2.2.2.2.2.2.2.1)] [[[0], [], []], [[1], [1]], [[1], [2]], [[0], [3], []], [[0]]] = true := by decide +kernel
theorem tz211_M : sz_H tz211_C := fun l D dA => sz_one (sx_SM_add sy_hgm sy_good sy_okDD sy_okPP sy_kok (sz_cons (tz210_M l D dA) (sz_cons (tz192_M l D dA) sz_nil)) (q := tz211_C) (q0 := ((sy_my 4 105 106, prog_5_method_11_code, 1, none), sy_c68)) (cs := sy_k_68) (dd := 1) (BIG := 1) (cu := tz211_U) rfl rfl rfl (by decide) (by decide) (by decide) (fun c hc => by cases hc) tz211_r)
/-- T$Curve.twice Curve goth -/
def tz212_C : sx_C := (72, 2, 110, 131, [], [], [(2, 83, []), (2, 77, [])], ([], []), [], [([], [], none, ([], []))])
def tz212_L : List sx_C := [tz184_C, tz81_C, tz198_C, tz83_C, tz84_C, tz190_C]
def tz212_U : List sx_Cu := []
theorem tz212_r : sx_run (sz_sta tz212_C tz212_L 1 none sy_c72 sy_k_72) tz212_U 0 [1] 563 [(0, sx_la 0 tz212_C.2.2.2.2.2.2.1, [], tz212_C.2.2.2.2.1, tz212_C.2.2.2.2.2.1, tz212_C.2.2.2.2.2.2.2.1)] [[[0], [], [], []], [[0], [1], [1], [1]], [[0], [2], [2], [2]], [[1], [2], [2], [2]], [[2], [3], [], [1]], [[3], [3], [3], [3]], [[1], [4], [], [1]], [[4], [3], [4], [3]], [[4], [5], [], [1]], [[1], [6], [2], [5]], [[5], [], [3], [6]], [[5], [1], [5], [4]], [[5], [2], [6], [5]], [[5], [3], [3], [4]], [[0]]] = true := by decide +kernel
theorem tz212_M : sz_H tz212_C := fun l D dA => sz_one (sx_SM_add sy_hgm sy_good sy_okDD sy_okPP sy_kok (sz_cons (tz184_M l D dA) (sz_cons (tz81_M l D dA) (sz_cons (tz198_M l D dA) (sz_cons (tz83_M l D dA) (sz_cons (tz84_M l D dA) (sz_cons (tz190_M l D dA) sz_nil)))))) (q := tz212_C) (q0 := ((sy_my 4 111 106, prog_5_method_12_code, 2, none), sy_c72)) (cs := sy_k_72) (dd := 1) (BIG := 1) (cu := tz212_U) rfl rfl rfl (by decide) (by decide) (by decide) (fun c hc => by cases hc) tz212_r)
/-- T$Curve.multiply vt_ goth_ vent_ -/
def tz213_C : sx_C := (69, 1, 26, 110, [(2, 2), (3, 3), (2, 2)], [[1, 1, -1], [-1, -1, 1], [5, -1, -1], [-5, 1, 1], [0, 1, 0, -1], [0, -1, 0, 1], [4, -1, 0, -1], [-4, 1, 0, 1], [-1, 0, 1, -1], [1, 0, -1, 1], [5, 0, -1, -1], [-5, 0, 1, 1]], [(2, 53, [0, 1]), (2, 76, [0, 0, 1]), (2, 59, [0, 0, 0, 1])], ([], []), [], [([], [], none, ([], []))])
def tz213_L : List sx_C := []
def tz213_U : List sx_Cu := []
theorem tz213_r : sx_run (sz_sta tz213_C tz213_L 0 none sy_c69 sy_k_69) tz213_U 3 [1] 2303 [(0, sx_la 0 tz213_C.2.2.2.2.2.2.1, [], tz213_C.2.2.2.2.1, tz213_C.2.2.2.2.2.1, tz213_C.2.2.2.2.2.2.2.1)] [[[0]]] = true := by decide +kernel
theorem tz213_M : sz_H tz213_C := fun l D dA => sz_one (sx_SM_add sy_hgm sy_good sy_okDD sy_okPP sy_kok sz_nil (q := tz213_C) (q0 := ((sy_my 4 107 108, prog_5_method_6_code, 65, none), sy_c69)) (cs := sy_k_69) (dd := 0) (BIG := 1) (cu := tz213_U) rfl rfl rfl (by decide) (by decide) (by decide) (fun c hc => by cases hc) tz213_r)
/-- T$Curve.joinBy Curve goth vent_ vent_ vent_ -/
def tz214_C : sx_C := (74, 2, 110, 134, [(0, 0), (1, 1), (2, 2)], [[1, 1, -1], [-1, -1, 1], [1, -1, -1], [-1, 1, 1], [2, 1, 0, -1], [-2, -1, 0, 1], [2, -1, 0, -1], [-2, 1, 0, 1], [1, 0, 1, -1], [-1, 0, -1, 1], [3, 0, -1, -1], [-3, 0, 1, 1]], [(2, 83, []), (2, 77, []), (2, 59, [0, 1]), (2, 59, [0, 0, 1]), (2, 59, [0, 0, 0, 1])], ([], []), [], [([], [], none, ([], []))])
def tz214_L : List sx_C := [tz197_C, tz89_C, tz198_C, tz213_C, tz84_C, tz81_C, tz190_C]
def tz214_U : List sx_Cu := []
theorem tz214_r : sx_run (sz_sta tz214_C tz214_L 1 none sy_c74 sy_k_74) tz214_U 3 [1] 506 [(0, sx_la 0 tz214_C.2.2.2.2.2.2.1, [], tz214_C.2.2.2.2.1, tz214_C.2.2.2.2.2.1, tz214_C.2.2.2.2.2.2.2.1)] [[[0], [], [1], []], [[1], [], [], [0, 0, 1]], [[2], [1], [1], []], [[1], [1], [1], [0, 1]], [[3], [2], [3], [0, 0, 0, 1]], [[4], [4], [1], []], [[5], [5], [1], []], [[4], [6], [3], [2]], [[5], [3], [3], [2]], [[6], [], [4], [6]], [[6], [1], [3], [5]], [[6], [2], [6], [3]], [[6], [3], [4], [5]], [[0]]] = true := by decide +kernel
theorem tz214_M : sz_H tz214_C := fun l D dA => sz_one (sx_SM_add sy_hgm sy_good sy_okDD sy_okPP sy_kok (sz_cons (tz197_M l D dA) (sz_cons (tz89_M l D dA) (sz_cons (tz198_M l D dA) (sz_cons (tz213_M l D dA) (sz_cons (tz84_M l D dA) (sz_cons (tz81_M l D dA) (sz_cons (tz190_M l D dA) sz_nil))))))) (q := tz214_C) (q0 := ((sy_my 4 113 114, prog_5_method_15_code, 5, none), sy_c74)) (cs := sy_k_74) (dd := 1) (BIG := 1) (cu := tz214_U) rfl rfl rfl (by decide) (by decide) (by decide) (fun c hc => by cases hc) tz214_r)
/-- T$Curve.joinFromComb Curve goth i -/
def tz215_C : sx_C := (75, 3, 134, 157, [(1, 15)], [], [(2, 83, []), (2, 77, []), (0, 0, [0, 1])], ([], []), [], [([], [], none, ([], []))])
def tz215_L : List sx_C := [tz198_C, tz214_C]
def tz215_U : List sx_Cu := [(2, ([(0, (2, 83, [])), (1, (2, 77, [])), (2, (0, 0, [0, 1])), (3, (0, 0, [0, 0, 1]))], [(1, 15), (0, 30)], [], ([], [])), [30, 0, -1])]
theorem tz215_u2 : sx_from (sz_sta tz215_C tz215_L 2 none sy_c75 sy_k_75) tz215_U 1 212 (2, ([(0, (2, 83, [])), (1, (2, 77, [])), (2, (0, 0, [0, 1])), (3, (0, 0, [0, 0, 1]))], [(1, 15), (0, 30)], [], ([], [])), [30, 0, -1]) [[[0], [3], [2], [2]], [[1], [], [1], [2]], [[0]], [[2, 1]], [[3, 1]], [[1, 0, 1]]] = true := by decide +kernel
theorem tz215_r : sx_run (sz_sta tz215_C tz215_L 2 none sy_c75 sy_k_75) tz215_U 1 [33] 212 [(0, sx_la 0 tz215_C.2.2.2.2.2.2.1, [], tz215_C.2.2.2.2.1, tz215_C.2.2.2.2.2.1, tz215_C.2.2.2.2.2.2.2.1)] [[[]]] = true := by decide +kernel
theorem tz215_M : sz_H tz215_C := fun l D dA => sz_one (sx_SM_add sy_hgm sy_good sy_okDD sy_okPP sy_kok (sz_cons (tz198_M l D dA) (sz_cons (tz214_M l D dA) sz_nil)) (q := tz215_C) (q0 := ((sy_my 4 115 116, prog_5_method_14_code, 4, none), sy_c75)) (cs := sy_k_75) (dd := 2) (BIG := 33) (cu := tz215_U) rfl rfl rfl (by decide) (by decide) (by decide) (sz_al (sz_cu tz215_u2 sz_cu0)) tz215_r)
/-- T$Curve.base Curve goth gscal -/
def tz216_C : sx_C := (76, 4, 157, 181, [], [], [(2, 83, []), (2, 77, []), (2, 73, [])], ([], []), [], [([], [], none, ([], []))])
def tz216_L : List sx_C := [tz211_C, tz212_C, tz107_C, tz215_C]
def tz216_U : List sx_Cu := [(4, ([(0, (2, 83, [])), (1, (2, 77, [])), (2, (2, 73, [])), (3, (0, 0, [0, 1]))], [(-1, 63)], [], ([], [])), [1, 1])]
theorem tz216_u4 : sx_from (sz_sta tz216_C tz216_L 3 none sy_c76 sy_k_76) tz216_U 0 194 (4, ([(0, (2, 83, [])), (1, (2, 77, [])), (2, (2, 73, [])), (3, (0, 0, [0, 1]))], [(-1, 63)], [], ([], [])), [1, 1]) [[[0]], [[1]], [[2], [0, 1]], [[2], [64, 1]], [[2], [128, 1]], [[2], [192, 1]], [[-1, 1]], [[3], [0, 0, 1, 2, 4, 8]], [[0, 1]], [[-1, 1]]] = true := by decide +kernel
theorem tz216_r : sx_run (sz_sta tz216_C tz216_L 3 none sy_c76 sy_k_76) tz216_U 0 [67] 194 [(0, sx_la 0 tz216_C.2.2.2.2.2.2.1, [], tz216_C.2.2.2.2.1, tz216_C.2.2.2.2.2.1, tz216_C.2.2.2.2.2.2.2.1)] [[[0]], [[63]]] = true := by decide +kernel
theorem tz216_M : sz_H tz216_C := fun l D dA => sz_one (sx_SM_add sy_hgm sy_good sy_okDD sy_okPP sy_kok (sz_cons (tz211_M l D dA) (sz_cons (tz212_M l D dA) (sz_cons (tz107_M l D dA) (sz_cons (tz215_M l D dA) sz_nil)))) (q := tz216_C) (q0 := ((sy_my 4 117 118, prog_5_method_17_code, 5, none), sy_c76)) (cs := sy_k_76) (dd := 3) (BIG := 67) (cu := tz216_U) rfl rfl rfl (by decide) (by decide) (by decide) (sz_al (sz_cu tz216_u4 sz_cu0)) tz216_r)
/-- T$Session.canGoOut Session Memory -/
def tz217_C : sx_C := (177, 2, 50, 73, [(0, 15)], [], [(2, 88, [0, 1]), (2, 80, [])], ([], []), [], [([], [], some (0, 0, [1]), ([], [])), ([], [], some (0, 0, []), ([], []))])
def tz217_L : List sx_C := [tz18_C]
def tz217_U : List sx_Cu := [(2, ([(0, (2, 88, [0, 1])), (1, (2, 80, [])), (2, (0, 0, [0, 0, 1]))], [(0, 15), (0, 4)], [], ([], [])), [4, 0, -1])]
theorem tz217_u2 : sx_from (sz_sta tz217_C tz217_L 1 (some .boolean) sy_c177 sy_k_177) tz217_U 1 335 (2, ([(0, (2, 88, [0, 1])), (1, (2, 80, [])), (2, (0, 0, [0, 0, 1]))], [(0, 15), (0, 4)], [], ([], [])), [4, 0, -1]) [[[0]], [[0], [4, 0, 12, 0, 1], [8]], [[1, 0, 1]], [[1]], [[1, 0, 1]], [[1, 0, 1]], [[0], [0, 0, 0, 0, 0, 1], [0, 0, 0, 0, 1]], [[1]], [[1]], [[1]], [[1, 0, 1]], [[1]], [[0], [4, 0, 12, 0, 1], [8]], [[1, 0, 1]], [[1]]] = true := by decide +kernel
theorem tz217_r : sx_run (sz_sta tz217_C tz217_L 1 (some .boolean) sy_c177 sy_k_177) tz217_U 1 [7] 335 [(0, sx_la 0 tz217_C.2.2.2.2.2.2.1, [], tz217_C.2.2.2.2.1, tz217_C.2.2.2.2.2.1, tz217_C.2.2.2.2.2.2.2.1)] [[[]]] = true := by decide +kernel
theorem tz217_M : sz_H tz217_C := fun l D dA => sz_one (sx_SM_add sy_hgm sy_good sy_okDD sy_okPP sy_kok (sz_cons (tz18_M l D dA) sz_nil) (q := tz217_C) (q0 := ((sy_my 8 239 240, prog_9_method_8_code, 4, (some .boolean)), sy_c177)) (cs := sy_k_177) (dd := 1) (BIG := 7) (cu := tz217_U) rfl rfl rfl (by decide) (by decide) (by decide) (sz_al (sz_cu tz217_u2 sz_cu0)) tz217_r)
/-- T$Memory.putWord Memory i i -/
def tz218_C : sx_C := (178, 1, 26, 48, [(0, 8188), (-2147483648, 2147483647)], [], [(2, 80, []), (0, 0, [0, 1]), (0, 0, [0, 0, 1])], ([], []), [(0, 999)], [([], [], none, ([], []))])
def tz218_L : List sx_C := []
def tz218_U : List sx_Cu := []
theorem tz218_r : sx_run (sz_sta tz218_C tz218_L 0 none sy_c178 sy_k_178) tz218_U 2 [1] 161 [(0, sx_la 0 tz218_C.2.2.2.2.2.2.1, [], tz218_C.2.2.2.2.1, tz218_C.2.2.2.2.2.1, tz218_C.2.2.2.2.2.2.2.1)] [[[0]]] = true := by decide +kernel
theorem tz218_M : sz_H tz218_C := fun l D dA => sz_one (sx_SM_add sy_hgm sy_good sy_okDD sy_okPP sy_kok sz_nil (q := tz218_C) (q0 := ((sy_my 5 15 75, prog_6_method_6_code, 3, none), sy_c178)) (cs := sy_k_178) (dd := 0) (BIG := 1) (cu := tz218_U) rfl rfl rfl (by decide) (by decide) (by decide) (fun c hc => by cases hc) tz218_r)
/-- T.jump TM i i i -/
def tz219_C : sx_C := (187, 1, 26, 51, [(16, 20), (0, 15), (-32768, 32767)], [[-1, 1, -1], [20, -1, 1], [35, -1, -1], [-16, 1, 1], [32751, 1, 0, -1], [32788, -1, 0, 1], [32787, -1, 0, -1], [32752, 1, 0, 1], [32767, 0, 1, -1], [32783, 0, -1, 1], [32782, 0, -1, -1], [32768, 0, 1, 1]], [(2, 91, []), (0, 0, [0, 1]), (0, 0, [0, 0, 1]), (0, 0, [0, 0, 0, 1])], ([], []), [(79, 999), (91, 11)], [([(-2147483648, 2147483647)], [], none, ([(91, [], [11], [0, 0, 0, 0, 1])], [])), ([(-2147483648, 2147483647)], [[-18, 1], [18, -1]], none, ([(91, [], [11], [0, 0, 0, 0, 1])], [])), ([(-2147483648, 2147483647)], [[-17, 1], [17, -1]], none, ([(91, [], [11], [0, 0, 0, 0, 1])], [])), ([(-2147483648, 2147483647)], [[-19, 1], [19, -1]], none, ([(91, [], [11], [0, 0, 0, 0, 1])], []))])
def tz219_L : List sx_C := []
def tz219_U : List sx_Cu := []
theorem tz219_r : sx_run (sz_sta tz219_C tz219_L 0 none sy_c187 sy_k_187) tz219_U 3 [1] 302 [(0, sx_la 0 tz219_C.2.2.2.2.2.2.1, [], tz219_C.2.2.2.2.1, tz219_C.2.2.2.2.2.1, tz219_C.2.2.2.2.2.2.2.1)] [[[0], [0, 0, 0, 0, 0, 0, 1]], [[0], [0, 0, 0, 0, 0, 0, 1]], [[0], [0, 0, 0, 0, 0, 1]], [[0], [0, 0, 0, 0, 0, 0, 0, 1]], [[0], [0, 0, 0, 0, 0, 0, 1]]] = true := by decide +kernel
theorem tz219_M : sz_H tz219_C := fun l D dA => sz_one (sx_SM_add sy_hgm sy_good sy_okDD sy_okPP sy_kok sz_nil (q := tz219_C) (q0 := ((sy_my 0 144 45, prog_1_method_21_code, 6, none), sy_c187)) (cs := sy_k_187) (dd := 0) (BIG := 1) (cu := tz219_U) rfl rfl rfl (by decide) (by decide) (by decide) (fun c hc => by cases hc) tz219_r)
/-- T.reach TM i i i -/
def tz220_C : sx_C := (186, 2, 50, 74, [(12, 15), (0, 15), (-2147483648, 2147483647)], [[3, 1, -1], [15, -1, 1], [30, -1, -1], [-12, 1, 1]], [(2, 91, []), (0, 0, [0, 1]), (0, 0, [0, 0, 1]), (0, 0, [0, 0, 0, 1])], ([], []), [(0, 999), (79, 999), (91, 11), (91, 12)], [([], [], some (0, 0, []), ([], [])), ([], [[0, 0, 0, 1], [8191, 0, 0, -1]], some (0, 0, [1]), ([], []))])
def tz220_L : List sx_C := [tz18_C, tz218_C, tz46_C]
def tz220_U : List sx_Cu := []
theorem tz220_r : sx_run (sz_sta tz220_C tz220_L 1 (some .boolean) sy_c186 sy_k_186) tz220_U 3 [1] 494 [(0, sx_la 0 tz220_C.2.2.2.2.2.2.1, [], tz220_C.2.2.2.2.1, tz220_C.2.2.2.2.2.1, tz220_C.2.2.2.2.2.2.2.1)] [[[0], [0, 0, 0, 1], [1]], [[0]], [[0]], [[1]], [[1]], [[0]], [[0], [0, 0, 0, 1], [4]], [[0]], [[0]], [[1], [0, 0, 0, 1], [0, 0, 0, 0, 1]], [[1]], [[2], [0, 0, 0, 1]], [[1]], [[0]]] = true := by decide +kernel
theorem tz220_M : sz_H tz220_C := fun l D dA => sz_one (sx_SM_add sy_hgm sy_good sy_okDD sy_okPP sy_kok (sz_cons (tz18_M l D dA) (sz_cons (tz218_M l D dA) (sz_cons (tz46_M l D dA) sz_nil))) (q := tz220_C) (q0 := ((sy_my 0 248 32, prog_1_method_20_code, 5, (some .boolean)), sy_c186)) (cs := sy_k_186) (dd := 1) (BIG := 1) (cu := tz220_U) rfl rfl rfl (by decide) (by decide) (by decide) (fun c hc => by cases hc) tz220_r)
