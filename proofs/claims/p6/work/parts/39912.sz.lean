/-! Contracts, found and written by a program (wip/eng). -/
/-- Arrays.fill mem i -/
def ty0_C : sx_C := (4, 1, 26, 49, [(0, 0)], [], [(2, 0, []), (0, 0, [0, 1])], ([], []), [(0, 999)], [([], [], none, ([], []))])
def ty0_L : List sx_C := []
def ty0_U : List sx_Cu := [(5, ([(0, (2, 0, [])), (1, (0, 0, [0, 1])), (2, (0, 0, [0, 0, 1])), (3, (0, 0, [8192]))], [(0, 0), (0, 8192)], [], ([], [])), [8192, 0, -1])]
theorem ty0_u5 : sx_from (sz_sta ty0_C ty0_L 0 none sy_c4 sy_k_4) ty0_U 1 95 (5, ([(0, (2, 0, [])), (1, (0, 0, [0, 1])), (2, (0, 0, [0, 0, 1])), (3, (0, 0, [8192]))], [(0, 0), (0, 8192)], [], ([], [])), [8192, 0, -1]) [[[0]], [[1, 0, 1]]] = true := by decide +kernel
theorem ty0_r : sx_run (sz_sta ty0_C ty0_L 0 none sy_c4 sy_k_4) ty0_U 1 [8195] 95 [(0, sx_la 0 ty0_C.2.2.2.2.2.2.1, [], ty0_C.2.2.2.2.1, ty0_C.2.2.2.2.2.1, ty0_C.2.2.2.2.2.2.2.1)] [[[]]] = true := by decide +kernel
theorem ty0_M : sz_H ty0_C := fun l D dA => sz_one (sx_SM_add sy_hgm sy_good sy_okDD sy_okPP sy_kok sz_nil (q := ty0_C) (q0 := ((sy_my 13 23 24, prog_29_method_109_code, 4, none), sy_c4)) (cs := sy_k_4) (dd := 0) (BIG := 8195) (cu := ty0_U) rfl rfl rfl (by decide) (by decide) (by decide) (sz_al (sz_cu ty0_u5 sz_cu0)) ty0_r)
/-- T$Memory.restart Memory -/
def ty1_C : sx_C := (9, 2, 49, 70, [], [], [(2, 80, [])], ([], []), [(0, 999), (1, 999)], [([], [], none, ([], []))])
def ty1_L : List sx_C := [ty0_C]
def ty1_U : List sx_Cu := [(6, ([(0, (2, 80, [])), (1, (0, 0, [0, 1]))], [(0, 32)], [], ([], [])), [32, -1])]
theorem ty1_u6 : sx_from (sz_sta ty1_C ty1_L 1 none sy_c9 sy_k_9) ty1_U 0 125 (6, ([(0, (2, 80, [])), (1, (0, 0, [0, 1]))], [(0, 32)], [], ([], [])), [32, -1]) [[[0]], [[1, 1]], [[1, 1]]] = true := by decide +kernel
theorem ty1_r : sx_run (sz_sta ty1_C ty1_L 1 none sy_c9 sy_k_9) ty1_U 0 [35] 125 [(0, sx_la 0 ty1_C.2.2.2.2.2.2.1, [], ty1_C.2.2.2.2.1, ty1_C.2.2.2.2.2.1, ty1_C.2.2.2.2.2.2.2.1)] [[[0], []], [[]]] = true := by decide +kernel
theorem ty1_M : sz_H ty1_C := fun l D dA => sz_one (sx_SM_add sy_hgm sy_good sy_okDD sy_okPP sy_kok (sz_cons (ty0_M l D dA) sz_nil) (q := ty1_C) (q0 := ((sy_my 5 33 34, prog_6_method_2_code, 2, none), sy_c9)) (cs := sy_k_9) (dd := 1) (BIG := 35) (cu := ty1_U) rfl rfl rfl (by decide) (by decide) (by decide) (sz_al (sz_cu ty1_u6 sz_cu0)) ty1_r)
/-- T$Session.leave Session -/
def ty2_C : sx_C := (10, 1, 26, 47, [(0, 16), (1, 4)], [], [(2, 88, [0, 1])], ([(88, [0, 1], [6], [0, 0, 1])], [(0, [])]), [(87, 13), (88, 6), (88, 8)], [([(-1, 7)], [], none, ([(88, [0, 1], [8], [0, 0, 0, 1]), (88, [0, 1], [6], [-1, 0, 1])], [(4, [[0, 1], [-1, 0, 1]]), (5, [[0, 1]]), (0, [])])), ([], [], none, ([(88, [0, 1], [8], [-1]), (88, [0, 1], [6], [-1, 0, 1])], [(4, [[0, 1], [-1, 0, 1]]), (5, [[0, 1]]), (0, [])]))])
def ty2_L : List sx_C := []
def ty2_U : List sx_Cu := []
theorem ty2_r : sx_run (sz_sta ty2_C ty2_L 0 none sy_c10 sy_k_10) ty2_U 2 [1] 134 [(0, sx_la 0 ty2_C.2.2.2.2.2.2.1, [], ty2_C.2.2.2.2.1, ty2_C.2.2.2.2.2.1, ty2_C.2.2.2.2.2.2.2.1)] [[[13], [0, 1], [0, 0, 1]], [[-1]], [[-12, 7]], [[-7]], [[14], [0, 1], [-1, 0, 1], [0, 0, 0, 1]], [[-1]], [[7], [0, 0, 0, 1], [-1]], [[-1]], [[0], [0, 0, 0, 0, 1]], [[0], [-1]]] = true := by decide +kernel
theorem ty2_M : sz_H ty2_C := fun l D dA => sz_one (sx_SM_add sy_hgm sy_good sy_okDD sy_okPP sy_kok sz_nil (q := ty2_C) (q0 := ((sy_my 8 35 34, prog_9_method_5_code, 2, none), sy_c10)) (cs := sy_k_10) (dd := 0) (BIG := 1) (cu := ty2_U) rfl rfl rfl (by decide) (by decide) (by decide) (fun c hc => by cases hc) ty2_r)
/-- T$Session.endRun Session -/
def ty3_C : sx_C := (11, 2, 47, 68, [(1, 16)], [], [(2, 88, [0, 1])], ([], [(0, [])]), [(87, 13), (88, 6), (88, 8)], [([(0, 0)], [[3, 1, -1], [16, -1, 1], [20, -1, -1]], none, ([(88, [0, 1], [6], [0, 0, 1])], [(0, [])]))])
def ty3_L : List sx_C := [ty2_C]
def ty3_U : List sx_Cu := [(3, ([(0, (2, 88, [0, 1])), (1, (0, 0, [0, 0, 1]))], [(1, 16), (0, 4)], [], ([(88, [0, 1], [6], [0, 0, 1])], [(0, [])])), [0, 0, 1])]
theorem ty3_u3 : sx_from (sz_sta ty3_C ty3_L 1 none sy_c11 sy_k_11) ty3_U 1 86 (3, ([(0, (2, 88, [0, 1])), (1, (0, 0, [0, 0, 1]))], [(1, 16), (0, 4)], [], ([(88, [0, 1], [6], [0, 0, 1])], [(0, [])])), [0, 0, 1]) [[[0], [0, 0, 1]], [[0], [0, 1], [0, 0, 1]], [[-1, 0, 1]], [[-1, 0, 1]]] = true := by decide +kernel
theorem ty3_r : sx_run (sz_sta ty3_C ty3_L 1 none sy_c11 sy_k_11) ty3_U 1 [7] 86 [(0, sx_la 0 ty3_C.2.2.2.2.2.2.1, [], ty3_C.2.2.2.2.1, ty3_C.2.2.2.2.2.1, ty3_C.2.2.2.2.2.2.2.1)] [[[0, 0, 1]]] = true := by decide +kernel
theorem ty3_M : sz_H ty3_C := fun l D dA => sz_one (sx_SM_add sy_hgm sy_good sy_okDD sy_okPP sy_kok (sz_cons (ty2_M l D dA) sz_nil) (q := ty3_C) (q0 := ((sy_my 8 36 34, prog_9_method_6_code, 2, none), sy_c11)) (cs := sy_k_11) (dd := 1) (BIG := 7) (cu := ty3_U) rfl rfl rfl (by decide) (by decide) (by decide) (sz_al (sz_cu ty3_u3 sz_cu0)) ty3_r)
/-- T$Session.close Session -/
def ty4_C : sx_C := (12, 3, 68, 88, [(1, 16), (0, 15)], [], [(2, 88, [0, 1])], ([], [(0, []), (10, [[0, 0, 1]])]), [(87, 13), (88, 2), (88, 6), (88, 8)], [([(0, 0)], [[3, 1, 0, -1], [16, -1, 0, 1], [20, -1, 0, -1]], none, ([(88, [0, 1], [2], []), (88, [0, 1], [6], [0, 0, 0, 1])], [(0, []), (10, [[0, 0, 1]])]))])
def ty4_L : List sx_C := [ty3_C]
def ty4_U : List sx_Cu := []
theorem ty4_r : sx_run (sz_sta ty4_C ty4_L 2 none sy_c12 sy_k_12) ty4_U 2 [1] 68 [(0, sx_la 0 ty4_C.2.2.2.2.2.2.1, [], ty4_C.2.2.2.2.1, ty4_C.2.2.2.2.2.1, ty4_C.2.2.2.2.2.2.2.1)] [[[0], [0, 1]], [[16], [0, 1], [0, 0, 0, 1]], [[32], [0, 0, 1], [0, 1]], [[-1]], [[0], [0, 0, 0, 1]]] = true := by decide +kernel
theorem ty4_M : sz_H ty4_C := fun l D dA => sz_one (sx_SM_add sy_hgm sy_good sy_okDD sy_okPP sy_kok (sz_cons (ty3_M l D dA) sz_nil) (q := ty4_C) (q0 := ((sy_my 8 37 34, prog_9_method_3_code, 1, none), sy_c12)) (cs := sy_k_12) (dd := 2) (BIG := 1) (cu := ty4_U) rfl rfl rfl (by decide) (by decide) (by decide) (fun c hc => by cases hc) ty4_r)
/-- T$Monitor.restart Monitor -/
def ty5_C : sx_C := (13, 4, 88, 109, [], [], [(2, 90, [])], ([], [(11, []), (0, [])]), [(87, 6), (87, 13), (88, 2), (88, 6), (88, 8), (89, 15), (90, 10)], [([], [], none, ([(89, [], [15], []), (90, [], [10], []), (87, [7], [6], []), (87, [6], [6], []), (87, [5], [6], []), (87, [4], [6], []), (87, [3], [6], []), (87, [2], [6], []), (87, [1], [6], []), (87, [], [6], [])], [(0, []), (11, [])]))])
def ty5_L : List sx_C := [ty4_C]
def ty5_U : List sx_Cu := [(2, ([(0, (2, 90, [])), (1, (0, 0, [0, 1]))], [(0, 16)], [], ([], [(11, []), (0, []), (10, [[0, 1]])])), [16, -1])]
theorem ty5_u2 : sx_from (sz_sta ty5_C ty5_L 3 none sy_c13 sy_k_13) ty5_U 0 389 (2, ([(0, (2, 90, [])), (1, (0, 0, [0, 1]))], [(0, 16)], [], ([], [(11, []), (0, []), (10, [[0, 1]])])), [16, -1]) [[[-12, 5]], [[-9]], [[21], [], [0, 1]], [[36], []], [[-1]], [[-12, 2]], [[-9]], [[21], [1], [0, 1]], [[36], [1]], [[-1]], [[-12, 2]], [[-9]], [[21], [2], [0, 1]], [[36], [2]], [[-1]], [[-12, 2]], [[-9]], [[21], [3], [0, 1]], [[36], [3]], [[-1]], [[-12, 2]], [[-9]], [[21], [4], [0, 1]], [[36], [4]], [[-1]], [[-12, 2]], [[-9]], [[21], [5], [0, 1]], [[36], [5]], [[-1]], [[-12, 2]], [[-9]], [[21], [6], [0, 1]], [[36], [6]], [[-1]], [[-12, 2]], [[-9]], [[21], [7], [0, 1]], [[36], [7]], [[-1]], [[-12, 2]], [[-9]], [[0]], [[0], [1, 1], [0, 1]], [[-7]], [[33], [0, 1], []], [[-1]], [[1, 1]]] = true := by decide +kernel
theorem ty5_r : sx_run (sz_sta ty5_C ty5_L 3 none sy_c13 sy_k_13) ty5_U 0 [19] 389 [(0, sx_la 0 ty5_C.2.2.2.2.2.2.1, [], ty5_C.2.2.2.2.1, ty5_C.2.2.2.2.2.1, ty5_C.2.2.2.2.2.2.2.1)] [[[-7]], [[31]], [[-1]], [[]]] = true := by decide +kernel
theorem ty5_M : sz_H ty5_C := fun l D dA => sz_one (sx_SM_add sy_hgm sy_good sy_okDD sy_okPP sy_kok (sz_cons (ty4_M l D dA) sz_nil) (q := ty5_C) (q0 := ((sy_my 6 33 34, prog_7_method_2_code, 2, none), sy_c13)) (cs := sy_k_13) (dd := 3) (BIG := 19) (cu := ty5_U) rfl rfl rfl (by decide) (by decide) (by decide) (sz_al (sz_cu ty5_u2 sz_cu0)) ty5_r)
/-- Arrays.fill regs i -/
def ty6_C : sx_C := (14, 1, 26, 49, [(0, 0)], [], [(2, 79, []), (0, 0, [0, 1])], ([], []), [(79, 999)], [([], [], none, ([], []))])
def ty6_L : List sx_C := []
def ty6_U : List sx_Cu := [(5, ([(0, (2, 79, [])), (1, (0, 0, [0, 1])), (2, (0, 0, [0, 0, 1])), (3, (0, 0, [16]))], [(0, 0), (0, 16)], [], ([], [])), [16, 0, -1])]
theorem ty6_u5 : sx_from (sz_sta ty6_C ty6_L 0 none sy_c14 sy_k_14) ty6_U 1 95 (5, ([(0, (2, 79, [])), (1, (0, 0, [0, 1])), (2, (0, 0, [0, 0, 1])), (3, (0, 0, [16]))], [(0, 0), (0, 16)], [], ([], [])), [16, 0, -1]) [[[0]], [[1, 0, 1]]] = true := by decide +kernel
theorem ty6_r : sx_run (sz_sta ty6_C ty6_L 0 none sy_c14 sy_k_14) ty6_U 1 [19] 95 [(0, sx_la 0 ty6_C.2.2.2.2.2.2.1, [], ty6_C.2.2.2.2.1, ty6_C.2.2.2.2.2.1, ty6_C.2.2.2.2.2.2.2.1)] [[[]]] = true := by decide +kernel
theorem ty6_M : sz_H ty6_C := fun l D dA => sz_one (sx_SM_add sy_hgm sy_good sy_okDD sy_okPP sy_kok sz_nil (q := ty6_C) (q0 := ((sy_my 13 23 38, prog_29_method_103_code, 4, none), sy_c14)) (cs := sy_k_14) (dd := 0) (BIG := 19) (cu := ty6_U) rfl rfl rfl (by decide) (by decide) (by decide) (sz_al (sz_cu ty6_u5 sz_cu0)) ty6_r)
/-- T.boot TM -/
def ty7_C : sx_C := (15, 5, 109, 129, [], [], [(2, 91, [])], ([], [(11, []), (0, [])]), [(0, 999), (1, 999), (79, 999), (85, 10), (85, 11), (87, 6), (87, 13), (88, 2), (88, 6), (88, 8), (89, 15), (90, 10), (91, 9), (91, 11), (91, 12)], [([], [], some (0, 0, [1]), ([(91, [], [12], []), (91, [], [11], []), (89, [], [15], []), (90, [], [10], []), (87, [7], [6], []), (87, [6], [6], []), (87, [5], [6], []), (87, [4], [6], []), (87, [3], [6], []), (87, [2], [6], []), (87, [1], [6], []), (87, [], [6], []), (85, [], [10], [-1]), (85, [], [11], []), (91, [], [9], [1])], [(0, []), (11, [])])), ([(0, 0)], [], some (0, 0, []), ([(85, [], [11], [0, 1])], [(11, []), (0, [])]))])
def ty7_L : List sx_C := [ty1_C, ty5_C, ty6_C]
def ty7_U : List sx_Cu := []
theorem ty7_r : sx_run (sz_sta ty7_C ty7_L 4 (some .boolean) sy_c15 sy_k_15) ty7_U 0 [1] 155 [(0, sx_la 0 ty7_C.2.2.2.2.2.2.1, [], ty7_C.2.2.2.2.1, ty7_C.2.2.2.2.2.1, ty7_C.2.2.2.2.2.2.2.1)] [[[0]], [[1]], [[2], []], [[0]], [[1], [0, 1]]] = true := by decide +kernel
theorem ty7_M : sz_H ty7_C := fun l D dA => sz_one (sx_SM_add sy_hgm sy_good sy_okDD sy_okPP sy_kok (sz_cons (ty1_M l D dA) (sz_cons (ty5_M l D dA) (sz_cons (ty6_M l D dA) sz_nil))) (q := ty7_C) (q0 := ((sy_my 0 39 30, prog_1_method_7_code, 1, (some .boolean)), sy_c15)) (cs := sy_k_15) (dd := 4) (BIG := 1) (cu := ty7_U) rfl rfl rfl (by decide) (by decide) (by decide) (fun c hc => by cases hc) ty7_r)
