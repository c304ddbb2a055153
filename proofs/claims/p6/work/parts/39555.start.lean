theorem ev_and {args : Array Value} {s : State} {a b : Cond} (h : (Cond.and a b).before args s = true) : a.before args s = true ∧ b.before args s = true := by
  rwa [Cond.before_and, Bool.and_eq_true] at h
/-! What the start gives of the tables that nobody writes. Written by a program (wip/tools/gen75.py). -/
theorem lw_n1 {args : Array Value} {s : State} (h : (Cond.and given_1 narrow_1).before args s = true) : narrow_1_1.before args s = true ∧ narrow_1_2.before args s = true ∧ narrow_1_3.before args s = true ∧ narrow_1_4.before args s = true := by
  have hn := (ev_and h).2
  have a := ev_and (show (Cond.and (Cond.and narrow_1_1 narrow_1_2) (Cond.and narrow_1_3 narrow_1_4)).before args s = true from hn)
  exact ⟨(ev_and a.1).1, (ev_and a.1).2, (ev_and a.2).1, (ev_and a.2).2⟩
def ct_tv0 : List Int32 := [1779033703, -1150833019, 1013904242, -1521486534, 1359893119, -1694144372, 528734635, 1541459225]
theorem ct_tb0 {args : Array Value} {s : State} (hl : (Cond.laysStatic "TrustedMachine$Sha256" "FIRST" "[I").before args s = true) (hini : (Cond.initialized "TrustedMachine$Sha256").before args s = true) (h1 : narrow_1_1.before args s = true) (h2 : narrow_1_2.before args s = true) (h3 : narrow_1_3.before args s = true) (h4 : narrow_1_4.before args s = true) : ∃ (t : Nat) (f : Nat → Int32), va_Z "TrustedMachine$Sha256" "FIRST" "[I" (.ref t) (fun q => s.heap.size ≤ q) s s.heap ∧ va_T .int t 8 (fun j => .int (f j)) (fun q => s.heap.size ≤ q) s s.heap := by
  have hel : ∀ j : Nat, j < 8 → (Term.elem (Term.static "TrustedMachine$Sha256" "FIRST" "[I") (.int (Int32.ofNat j))).eval args s none [] s = some (.int (ct_tv0.getD j 0)) := by
    intro j hj
    match j, hj with
    | 0, _ => exact va_eqt (flat_of_before _ h1 _ (List.mem_of_getElem? (i := 5) rfl))
    | 1, _ => exact va_eqt (flat_of_before _ h1 _ (List.mem_of_getElem? (i := 6) rfl))
    | 2, _ => exact va_eqt (flat_of_before _ h1 _ (List.mem_of_getElem? (i := 7) rfl))
    | 3, _ => exact va_eqt (flat_of_before _ h1 _ (List.mem_of_getElem? (i := 8) rfl))
    | 4, _ => exact va_eqt (flat_of_before _ h1 _ (List.mem_of_getElem? (i := 9) rfl))
    | 5, _ => exact va_eqt (flat_of_before _ h1 _ (List.mem_of_getElem? (i := 10) rfl))
    | 6, _ => exact va_eqt (flat_of_before _ h1 _ (List.mem_of_getElem? (i := 11) rfl))
    | 7, _ => exact va_eqt (flat_of_before _ h1 _ (List.mem_of_getElem? (i := 12) rfl))
    | j + 8, h => omega
  obtain ⟨t, ht, hT⟩ := va_Tof (N := 8) (f := fun j => .int (ct_tv0.getD j 0)) (A := fun q => s.heap.size ≤ q) (by decide) (flat_of_before _ h1 (Cond.arrayOf (Term.static "TrustedMachine$Sha256" "FIRST" "[I") .int) (List.mem_of_getElem? (i := 3) rfl)) (va_eqt (flat_of_before _ h1 (Cond.eq (.length (Term.static "TrustedMachine$Sha256" "FIRST" "[I")) (.int 8)) (List.mem_of_getElem? (i := 4) rfl))) hel (fun a ha h => by have h : s.heap.size ≤ a := h; omega)
  exact ⟨t, fun j => ct_tv0.getD j 0, va_Zref hl hini ht (fun a ha h => by have h : s.heap.size ≤ a := h; omega), hT⟩
def ct_tv1 : List Int32 := [1116352408, 1899447441, -1245643825, -373957723, 961987163, 1508970993, -1841331548, -1424204075, -670586216, 310598401, 607225278, 1426881987, 1925078388, -2132889090, -1680079193, -1046744716, -459576895, -272742522, 264347078, 604807628, 770255983, 1249150122, 1555081692, 1996064986, -1740746414, -1473132947, -1341970488, -1084653625, -958395405, -710438585, 113926993, 338241895, 666307205, 773529912, 1294757372, 1396182291, 1695183700, 1986661051, -2117940946, -1838011259, -1564481375, -1474664885, -1035236496, -949202525, -778901479, -694614492, -200395387, 275423344, 430227734, 506948616, 659060556, 883997877, 958139571, 1322822218, 1537002063, 1747873779, 1955562222, 2024104815, -2067236844, -1933114872, -1866530822, -1538233109, -1090935817, -965641998]
theorem ct_tb1 {args : Array Value} {s : State} (hl : (Cond.laysStatic "TrustedMachine$Sha256" "ADDED" "[I").before args s = true) (hini : (Cond.initialized "TrustedMachine$Sha256").before args s = true) (h1 : narrow_1_1.before args s = true) (h2 : narrow_1_2.before args s = true) (h3 : narrow_1_3.before args s = true) (h4 : narrow_1_4.before args s = true) : ∃ (t : Nat) (f : Nat → Int32), va_Z "TrustedMachine$Sha256" "ADDED" "[I" (.ref t) (fun q => s.heap.size ≤ q) s s.heap ∧ va_T .int t 64 (fun j => .int (f j)) (fun q => s.heap.size ≤ q) s s.heap := by
  have hel : ∀ j : Nat, j < 64 → (Term.elem (Term.static "TrustedMachine$Sha256" "ADDED" "[I") (.int (Int32.ofNat j))).eval args s none [] s = some (.int (ct_tv1.getD j 0)) := by
    intro j hj
    match j, hj with
    | 0, _ => exact va_eqt (flat_of_before _ h1 _ (List.mem_of_getElem? (i := 16) rfl))
    | 1, _ => exact va_eqt (flat_of_before _ h1 _ (List.mem_of_getElem? (i := 17) rfl))
    | 2, _ => exact va_eqt (flat_of_before _ h1 _ (List.mem_of_getElem? (i := 18) rfl))
    | 3, _ => exact va_eqt (flat_of_before _ h1 _ (List.mem_of_getElem? (i := 19) rfl))
    | 4, _ => exact va_eqt (flat_of_before _ h1 _ (List.mem_of_getElem? (i := 20) rfl))
    | 5, _ => exact va_eqt (flat_of_before _ h1 _ (List.mem_of_getElem? (i := 21) rfl))
    | 6, _ => exact va_eqt (flat_of_before _ h1 _ (List.mem_of_getElem? (i := 22) rfl))
    | 7, _ => exact va_eqt (flat_of_before _ h1 _ (List.mem_of_getElem? (i := 23) rfl))
    | 8, _ => exact va_eqt (flat_of_before _ h1 _ (List.mem_of_getElem? (i := 24) rfl))
    | 9, _ => exact va_eqt (flat_of_before _ h1 _ (List.mem_of_getElem? (i := 25) rfl))
    | 10, _ => exact va_eqt (flat_of_before _ h1 _ (List.mem_of_getElem? (i := 26) rfl))
    | 11, _ => exact va_eqt (flat_of_before _ h1 _ (List.mem_of_getElem? (i := 27) rfl))
    | 12, _ => exact va_eqt (flat_of_before _ h1 _ (List.mem_of_getElem? (i := 28) rfl))
    | 13, _ => exact va_eqt (flat_of_before _ h1 _ (List.mem_of_getElem? (i := 29) rfl))
    | 14, _ => exact va_eqt (flat_of_before _ h1 _ (List.mem_of_getElem? (i := 30) rfl))
    | 15, _ => exact va_eqt (flat_of_before _ h1 _ (List.mem_of_getElem? (i := 31) rfl))
    | 16, _ => exact va_eqt (flat_of_before _ h1 _ (List.mem_of_getElem? (i := 32) rfl))
    | 17, _ => exact va_eqt (flat_of_before _ h1 _ (List.mem_of_getElem? (i := 33) rfl))
    | 18, _ => exact va_eqt (flat_of_before _ h1 _ (List.mem_of_getElem? (i := 34) rfl))
    | 19, _ => exact va_eqt (flat_of_before _ h1 _ (List.mem_of_getElem? (i := 35) rfl))
    | 20, _ => exact va_eqt (flat_of_before _ h1 _ (List.mem_of_getElem? (i := 36) rfl))
    | 21, _ => exact va_eqt (flat_of_before _ h1 _ (List.mem_of_getElem? (i := 37) rfl))
    | 22, _ => exact va_eqt (flat_of_before _ h1 _ (List.mem_of_getElem? (i := 38) rfl))
    | 23, _ => exact va_eqt (flat_of_before _ h1 _ (List.mem_of_getElem? (i := 39) rfl))
    | 24, _ => exact va_eqt (flat_of_before _ h1 _ (List.mem_of_getElem? (i := 40) rfl))
    | 25, _ => exact va_eqt (flat_of_before _ h1 _ (List.mem_of_getElem? (i := 41) rfl))
    | 26, _ => exact va_eqt (flat_of_before _ h1 _ (List.mem_of_getElem? (i := 42) rfl))
    | 27, _ => exact va_eqt (flat_of_before _ h1 _ (List.mem_of_getElem? (i := 43) rfl))
    | 28, _ => exact va_eqt (flat_of_before _ h1 _ (List.mem_of_getElem? (i := 44) rfl))
    | 29, _ => exact va_eqt (flat_of_before _ h1 _ (List.mem_of_getElem? (i := 45) rfl))
    | 30, _ => exact va_eqt (flat_of_before _ h1 _ (List.mem_of_getElem? (i := 46) rfl))
    | 31, _ => exact va_eqt (flat_of_before _ h1 _ (List.mem_of_getElem? (i := 47) rfl))
    | 32, _ => exact va_eqt (flat_of_before _ h1 _ (List.mem_of_getElem? (i := 48) rfl))
    | 33, _ => exact va_eqt (flat_of_before _ h1 _ (List.mem_of_getElem? (i := 49) rfl))
    | 34, _ => exact va_eqt (flat_of_before _ h1 _ (List.mem_of_getElem? (i := 50) rfl))
    | 35, _ => exact va_eqt (flat_of_before _ h1 _ (List.mem_of_getElem? (i := 51) rfl))
    | 36, _ => exact va_eqt (flat_of_before _ h1 _ (List.mem_of_getElem? (i := 52) rfl))
    | 37, _ => exact va_eqt (flat_of_before _ h1 _ (List.mem_of_getElem? (i := 53) rfl))
    | 38, _ => exact va_eqt (flat_of_before _ h1 _ (List.mem_of_getElem? (i := 54) rfl))
    | 39, _ => exact va_eqt (flat_of_before _ h1 _ (List.mem_of_getElem? (i := 55) rfl))
    | 40, _ => exact va_eqt (flat_of_before _ h1 _ (List.mem_of_getElem? (i := 56) rfl))
    | 41, _ => exact va_eqt (flat_of_before _ h1 _ (List.mem_of_getElem? (i := 57) rfl))
    | 42, _ => exact va_eqt (flat_of_before _ h1 _ (List.mem_of_getElem? (i := 58) rfl))
    | 43, _ => exact va_eqt (flat_of_before _ h1 _ (List.mem_of_getElem? (i := 59) rfl))
    | 44, _ => exact va_eqt (flat_of_before _ h1 _ (List.mem_of_getElem? (i := 60) rfl))
    | 45, _ => exact va_eqt (flat_of_before _ h1 _ (List.mem_of_getElem? (i := 61) rfl))
    | 46, _ => exact va_eqt (flat_of_before _ h1 _ (List.mem_of_getElem? (i := 62) rfl))
    | 47, _ => exact va_eqt (flat_of_before _ h1 _ (List.mem_of_getElem? (i := 63) rfl))
    | 48, _ => exact va_eqt (flat_of_before _ h1 _ (List.mem_of_getElem? (i := 64) rfl))
    | 49, _ => exact va_eqt (flat_of_before _ h1 _ (List.mem_of_getElem? (i := 65) rfl))
    | 50, _ => exact va_eqt (flat_of_before _ h1 _ (List.mem_of_getElem? (i := 66) rfl))
    | 51, _ => exact va_eqt (flat_of_before _ h1 _ (List.mem_of_getElem? (i := 67) rfl))
    | 52, _ => exact va_eqt (flat_of_before _ h1 _ (List.mem_of_getElem? (i := 68) rfl))
    | 53, _ => exact va_eqt (flat_of_before _ h1 _ (List.mem_of_getElem? (i := 69) rfl))
    | 54, _ => exact va_eqt (flat_of_before _ h1 _ (List.mem_of_getElem? (i := 70) rfl))
    | 55, _ => exact va_eqt (flat_of_before _ h1 _ (List.mem_of_getElem? (i := 71) rfl))
    | 56, _ => exact va_eqt (flat_of_before _ h1 _ (List.mem_of_getElem? (i := 72) rfl))
    | 57, _ => exact va_eqt (flat_of_before _ h1 _ (List.mem_of_getElem? (i := 73) rfl))
    | 58, _ => exact va_eqt (flat_of_before _ h1 _ (List.mem_of_getElem? (i := 74) rfl))
    | 59, _ => exact va_eqt (flat_of_before _ h1 _ (List.mem_of_getElem? (i := 75) rfl))
    | 60, _ => exact va_eqt (flat_of_before _ h1 _ (List.mem_of_getElem? (i := 76) rfl))
    | 61, _ => exact va_eqt (flat_of_before _ h1 _ (List.mem_of_getElem? (i := 77) rfl))
    | 62, _ => exact va_eqt (flat_of_before _ h1 _ (List.mem_of_getElem? (i := 78) rfl))
    | 63, _ => exact va_eqt (flat_of_before _ h1 _ (List.mem_of_getElem? (i := 79) rfl))
    | j + 64, h => omega
  obtain ⟨t, ht, hT⟩ := va_Tof (N := 64) (f := fun j => .int (ct_tv1.getD j 0)) (A := fun q => s.heap.size ≤ q) (by decide) (flat_of_before _ h1 (Cond.arrayOf (Term.static "TrustedMachine$Sha256" "ADDED" "[I") .int) (List.mem_of_getElem? (i := 14) rfl)) (va_eqt (flat_of_before _ h1 (Cond.eq (.length (Term.static "TrustedMachine$Sha256" "ADDED" "[I")) (.int 64)) (List.mem_of_getElem? (i := 15) rfl))) hel (fun a ha h => by have h : s.heap.size ≤ a := h; omega)
  exact ⟨t, fun j => ct_tv1.getD j 0, va_Zref hl hini ht (fun a ha h => by have h : s.heap.size ≤ a := h; omega), hT⟩
theorem ct_Tb {args : Array Value} {s : State} (hts : ∀ w ∈ lw_tbl, w.before args s = true) (hg : (Cond.and given_1 narrow_1).before args s = true) : ev_Tb (fun q => s.heap.size ≤ q) s s.heap := by
  obtain ⟨h1, h2, h3, h4⟩ := lw_n1 hg
  intro q hq
  unfold ev_tb at hq
  rcases List.mem_cons.mp hq with rfl | hq
  · exact ct_tb0 (hts _ (ev_wd_in (h := 135) rfl)) (hts _ (ev_wd_in (h := 3) rfl)) h1 h2 h3 h4
  · obtain rfl := List.mem_singleton.mp hq
    exact ct_tb1 (hts _ (ev_wd_in (h := 144) rfl)) (hts _ (ev_wd_in (h := 3) rfl)) h1 h2 h3 h4
