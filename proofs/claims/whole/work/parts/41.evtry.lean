theorem ct_run5 : (ev_call ct_pg ct_all 200 3 5 [(2, 0, 0)] [(0, 5, 0, ct_d5)]).isSome = true := by decide +kernel
