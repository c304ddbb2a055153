/-! The law over a script of at most six ints: one call on fresh objects. Written by a program (wip/tools/gen89.py). -/
theorem ev_in_lt {i : Int32} {n : Nat} (h : ev_sx i < n + 1) : ev_in (0, 0, n) i := ⟨Nat.zero_le _, Nat.le_of_lt_succ h⟩
theorem ev_in_ge {i : Int32} {n : Nat} (h : n ≤ ev_sx i) : ev_in (0, n, 4294967295) i := ⟨h, by have := ev_sx_lt i; show ev_sx i ≤ 4294967295; omega⟩
theorem lw6 {p : Program} {e : Env} {s : State} {m : MethodId} {below : List Frame} {meth : Method} {c : Code} (l : Launch) {b L : Nat} {xs : Nat → Int32} (hL : L ≤ 6) (C0 : lw_At p s m meth c b L xs) (hfl : l.flags = pinnedFlags ++ [noTraceFlag]) : W p l e room_1 s m #[Value.ref b] below meth c s.heap [] 0 0 (lw_Z below #[Value.ref b] s) (entryFrame m ([Value.ref b] : List Value).toArray 7) := by
  obtain ⟨D, dA, X⟩ := lw_X C0
  refine lw_begin l C0 X (fun ws H locs ls ax am ao hl ha hm hao hW => ?_)
  have hX := C0.2.2.2.2.2.2.1
  have hbl := C0.2.2.2.2.2.2.2.1
  refine lv_iload (i := 4) X.1.1 X.1.2.1 (by decide +kernel) (lv_at hl 0 rfl) ?_
  refine lv_aload_n (k := 0) X.1.1 X.1.2.1 (by decide +kernel) rfl (lv_at hl 4 rfl) ?_
  refine va_slen X.1.1 X.1.2.1 hX hbl (lw_nA hbl) hW.2.2.2 (by decide +kernel) ?_
  refine lv_bipush (n := 6) (v := nI 6) X.1.1 X.1.2.1 (by decide +kernel) (by decide +kernel) ?_
  refine lv_isub X.1.1 X.1.2.1 (by decide +kernel) ?_
  have hdif : (Int32.ofNat L - nI 6).toInt = (L : Int) - 6 := by
    have e1 : (Int32.ofNat L).toInt = (L : Int) := nI_toInt (n := L) (by omega)
    rw [Int32.toInt_sub, e1, nI_toInt (by omega)]
    exact ev_bm (by omega) (by omega)
  have z0 : (0 : Int32).toInt = 0 := by decide +kernel
  refine lv_icmp_gt (off := 712) (tgt := 742) X.1.1 X.1.2.1 (by decide +kernel) (by decide) (fun _ => ?_) (fun h => ?_)
  · refine lv_iconst (n := 1) (v := 1) X.1.1 X.1.2.1 (by decide +kernel) (by decide +kernel) ?_
    refine va_forget (fun q hq => hW.2.2.2.2.2 q hq) ?_
    exact W.widen (by decide) (by decide) (lw_ret X.1.1 X.1.2.1 C0.2.2.1 C0.2.2.2.2.2.2.2.2.1 (by decide +kernel))
  have h6 : L = 6 := by
    have h9 : ¬ (Int32.ofNat L - nI 6) < 0 := h
    rw [Int32.lt_iff_toInt_lt, hdif, z0] at h9
    omega
  subst h6
  refine lv_aload_n (k := 0) X.1.1 X.1.2.1 (by decide +kernel) rfl (lv_at hl 4 rfl) ?_
  refine lv_iload (i := 4) X.1.1 X.1.2.1 (by decide +kernel) (lv_at hl 0 rfl) ?_
  refine va_sld X.1.1 X.1.2.1 hX hbl (lw_nA hbl) hW.2.2.2 (vp_in_nI (n := 0) (by decide) (by decide)) (by decide +kernel) ?_
  refine lv_bipush (n := 31) (v := nI 31) X.1.1 X.1.2.1 (by decide +kernel) (by decide +kernel) ?_
  refine lv_iand X.1.1 X.1.2.1 (by decide +kernel) ?_
  generalize hv : xs (Int32.toNatClampNeg 0) &&& nI 31 = v
  have hin : ev_in (ev_fand ev_full (0, 2147483679, 2147483679)) v := by rw [← hv]; exact ev_fand_in (ev_full_in _) (ev_in_eq (ev_sx_nI (by decide)))
  have hr : 0 ≤ v.toInt ∧ v.toInt ≤ 31 := by
    have e1 : ev_fand ev_full (0, 2147483679, 2147483679) = (0, 2147483648, 2147483679) := by decide +kernel
    rw [e1] at hin
    obtain ⟨a, b⟩ := hin
    have e2 := ev_sx_eq v
    have a : 2147483648 ≤ ev_sx v := a
    have b : ev_sx v ≤ 2147483679 := b
    omega
  by_cases hd : 16 < v.toInt
  · refine lv_tableOut (dflt := 696) (lo := 0) (hi := 16) (offs := #[84, 157, 182, 207, 220, 269, 282, 305, 318, 379, 435, 460, 485, 510, 535, 591, 671]) (len := 84) (tgt := 736) X.1.1 X.1.2.1 (by decide +kernel) (Or.inr hd) (by decide) ?_
    exact lw_tail C0 hl (by simp) hW.2.2.2 (by decide) (by decide)
  obtain ⟨k, hk⟩ : ∃ k : Nat, v.toInt = (k : Int) := ⟨v.toInt.toNat, by omega⟩
  have hk17 : k < 17 := by omega
  match k, hk17, hk with
  | 0, _, hk =>
    refine lv_tableIn (dflt := 696) (lo := 0) (hi := 16) (offs := #[84, 157, 182, 207, 220, 269, 282, 305, 318, 379, 435, 460, 485, 510, 535, 591, 671]) (len := 84) (off := 84) (tgt := 124) X.1.1 X.1.2.1 (by decide +kernel) (by omega) (by omega) (by rw [hk]; rfl) (by decide) ?_
    · exact lw_c0 C0 X hl ha hm hW
  | 1, _, hk =>
    refine lv_tableIn (dflt := 696) (lo := 0) (hi := 16) (offs := #[84, 157, 182, 207, 220, 269, 282, 305, 318, 379, 435, 460, 485, 510, 535, 591, 671]) (len := 84) (off := 157) (tgt := 197) X.1.1 X.1.2.1 (by decide +kernel) (by omega) (by omega) (by rw [hk]; rfl) (by decide) ?_
    · rcases Nat.lt_trichotomy (ev_sx (xs 1)) 2147483648 with q | q | q
      · exact lw_c1a C0 X hl ha hm hW (ev_in_lt q)
      · exact lw_c1b C0 X hl ha hm hW (ev_in_eq q)
      · exact lw_c1c C0 X hl ha hm hW (ev_in_ge q)
  | 2, _, hk =>
    refine lv_tableIn (dflt := 696) (lo := 0) (hi := 16) (offs := #[84, 157, 182, 207, 220, 269, 282, 305, 318, 379, 435, 460, 485, 510, 535, 591, 671]) (len := 84) (off := 182) (tgt := 222) X.1.1 X.1.2.1 (by decide +kernel) (by omega) (by omega) (by rw [hk]; rfl) (by decide) ?_
    · rcases Nat.lt_or_ge (ev_sx (xs 1)) 2147483648 with q | q
      · exact lw_c2a C0 X hl ha hm hW (ev_in_lt q)
      · rcases Nat.lt_or_ge (ev_sx (xs 1)) 2147483656 with q2 | q2
        · exact lw_c2b C0 X hl ha hm hW ⟨q, Nat.le_of_lt_succ q2⟩
        · exact lw_c2c C0 X hl ha hm hW (ev_in_ge q2)
  | 3, _, hk =>
    refine lv_tableIn (dflt := 696) (lo := 0) (hi := 16) (offs := #[84, 157, 182, 207, 220, 269, 282, 305, 318, 379, 435, 460, 485, 510, 535, 591, 671]) (len := 84) (off := 207) (tgt := 247) X.1.1 X.1.2.1 (by decide +kernel) (by omega) (by omega) (by rw [hk]; rfl) (by decide) ?_
    · exact lw_c3 C0 X hl ha hm hW
  | 4, _, hk =>
    refine lv_tableIn (dflt := 696) (lo := 0) (hi := 16) (offs := #[84, 157, 182, 207, 220, 269, 282, 305, 318, 379, 435, 460, 485, 510, 535, 591, 671]) (len := 84) (off := 220) (tgt := 260) X.1.1 X.1.2.1 (by decide +kernel) (by omega) (by omega) (by rw [hk]; rfl) (by decide) ?_
    · rcases Nat.lt_or_ge (ev_sx (xs 1)) 2147483648 with q | q
      · exact lw_c4a C0 X hl ha hm hW (ev_in_lt q)
      · rcases Nat.lt_or_ge (ev_sx (xs 1)) 2147483656 with q2 | q2
        · have q3 : ev_sx (xs 1) = 2147483648 ∨ ev_sx (xs 1) = 2147483649 ∨ ev_sx (xs 1) = 2147483650 ∨ ev_sx (xs 1) = 2147483651 ∨ ev_sx (xs 1) = 2147483652 ∨ ev_sx (xs 1) = 2147483653 ∨ ev_sx (xs 1) = 2147483654 ∨ ev_sx (xs 1) = 2147483655 := by omega
          rcases q3 with q3 | q3 | q3 | q3 | q3 | q3 | q3 | q3
          · exact lw_c4b0 C0 X hl ha hm hW (ev_in_eq q3)
          · exact lw_c4b1 C0 X hl ha hm hW (ev_in_eq q3)
          · exact lw_c4b2 C0 X hl ha hm hW (ev_in_eq q3)
          · exact lw_c4b3 C0 X hl ha hm hW (ev_in_eq q3)
          · exact lw_c4b4 C0 X hl ha hm hW (ev_in_eq q3)
          · exact lw_c4b5 C0 X hl ha hm hW (ev_in_eq q3)
          · exact lw_c4b6 C0 X hl ha hm hW (ev_in_eq q3)
          · exact lw_c4b7 C0 X hl ha hm hW (ev_in_eq q3)
        · exact lw_c4c C0 X hl ha hm hW (ev_in_ge q2)
  | 5, _, hk =>
    refine lv_tableIn (dflt := 696) (lo := 0) (hi := 16) (offs := #[84, 157, 182, 207, 220, 269, 282, 305, 318, 379, 435, 460, 485, 510, 535, 591, 671]) (len := 84) (off := 269) (tgt := 309) X.1.1 X.1.2.1 (by decide +kernel) (by omega) (by omega) (by rw [hk]; rfl) (by decide) ?_
    · exact lw_c5 C0 X hl ha hm hW
  | 6, _, hk =>
    refine lv_tableIn (dflt := 696) (lo := 0) (hi := 16) (offs := #[84, 157, 182, 207, 220, 269, 282, 305, 318, 379, 435, 460, 485, 510, 535, 591, 671]) (len := 84) (off := 282) (tgt := 322) X.1.1 X.1.2.1 (by decide +kernel) (by omega) (by omega) (by rw [hk]; rfl) (by decide) ?_
    · exact lw_c6 C0 X hl ha hm hW
  | 7, _, hk =>
    refine lv_tableIn (dflt := 696) (lo := 0) (hi := 16) (offs := #[84, 157, 182, 207, 220, 269, 282, 305, 318, 379, 435, 460, 485, 510, 535, 591, 671]) (len := 84) (off := 305) (tgt := 345) X.1.1 X.1.2.1 (by decide +kernel) (by omega) (by omega) (by rw [hk]; rfl) (by decide) ?_
    · exact lw_c7 C0 X hl ha hm hW
  | 8, _, hk =>
    refine lv_tableIn (dflt := 696) (lo := 0) (hi := 16) (offs := #[84, 157, 182, 207, 220, 269, 282, 305, 318, 379, 435, 460, 485, 510, 535, 591, 671]) (len := 84) (off := 318) (tgt := 358) X.1.1 X.1.2.1 (by decide +kernel) (by omega) (by omega) (by rw [hk]; rfl) (by decide) ?_
    · exact lw_c8 C0 X hl ha hm hW
  | 9, _, hk =>
    refine lv_tableIn (dflt := 696) (lo := 0) (hi := 16) (offs := #[84, 157, 182, 207, 220, 269, 282, 305, 318, 379, 435, 460, 485, 510, 535, 591, 671]) (len := 84) (off := 379) (tgt := 419) X.1.1 X.1.2.1 (by decide +kernel) (by omega) (by omega) (by rw [hk]; rfl) (by decide) ?_
    · rcases Nat.lt_or_ge (ev_sx (xs 1)) 2147483648 with q | q
      · exact lw_c9a C0 X hl ha hm hao hW hfl (ev_in_lt q)
      · rcases Nat.lt_or_ge (ev_sx (xs 1)) 2147483652 with q2 | q2
        · exact lw_c9b C0 X hl ha hm hao hW ⟨q, Nat.le_of_lt_succ q2⟩
        · exact lw_c9c C0 X hl ha hm hao hW hfl (ev_in_ge q2)
  | 10, _, hk =>
    refine lv_tableIn (dflt := 696) (lo := 0) (hi := 16) (offs := #[84, 157, 182, 207, 220, 269, 282, 305, 318, 379, 435, 460, 485, 510, 535, 591, 671]) (len := 84) (off := 435) (tgt := 475) X.1.1 X.1.2.1 (by decide +kernel) (by omega) (by omega) (by rw [hk]; rfl) (by decide) ?_
    · exact lw_c10 C0 X hl ha hm hW
  | 11, _, hk =>
    refine lv_tableIn (dflt := 696) (lo := 0) (hi := 16) (offs := #[84, 157, 182, 207, 220, 269, 282, 305, 318, 379, 435, 460, 485, 510, 535, 591, 671]) (len := 84) (off := 460) (tgt := 500) X.1.1 X.1.2.1 (by decide +kernel) (by omega) (by omega) (by rw [hk]; rfl) (by decide) ?_
    · exact lw_c11 C0 X hl ha hm hW
  | 12, _, hk =>
    refine lv_tableIn (dflt := 696) (lo := 0) (hi := 16) (offs := #[84, 157, 182, 207, 220, 269, 282, 305, 318, 379, 435, 460, 485, 510, 535, 591, 671]) (len := 84) (off := 485) (tgt := 525) X.1.1 X.1.2.1 (by decide +kernel) (by omega) (by omega) (by rw [hk]; rfl) (by decide) ?_
    · exact lw_c12 C0 X hl ha hm hW
  | 13, _, hk =>
    refine lv_tableIn (dflt := 696) (lo := 0) (hi := 16) (offs := #[84, 157, 182, 207, 220, 269, 282, 305, 318, 379, 435, 460, 485, 510, 535, 591, 671]) (len := 84) (off := 510) (tgt := 550) X.1.1 X.1.2.1 (by decide +kernel) (by omega) (by omega) (by rw [hk]; rfl) (by decide) ?_
    · exact lw_c13 C0 X hl ha hm hW
  | 14, _, hk =>
    refine lv_tableIn (dflt := 696) (lo := 0) (hi := 16) (offs := #[84, 157, 182, 207, 220, 269, 282, 305, 318, 379, 435, 460, 485, 510, 535, 591, 671]) (len := 84) (off := 535) (tgt := 575) X.1.1 X.1.2.1 (by decide +kernel) (by omega) (by omega) (by rw [hk]; rfl) (by decide) ?_
    · rcases Nat.lt_or_ge (ev_sx (xs 1)) 2147483648 with q | q
      · exact lw_c14a C0 X hl ha hm hao hW hfl (ev_in_lt q)
      · rcases Nat.lt_or_ge (ev_sx (xs 1)) 2147483664 with q2 | q2
        · exact lw_c14b C0 X hl ha hm hao hW ⟨q, Nat.le_of_lt_succ q2⟩
        · rcases Nat.lt_or_ge (ev_sx (xs 1)) 2147483666 with q3 | q3
          · have q4 : ev_sx (xs 1) = 2147483664 ∨ ev_sx (xs 1) = 2147483665 := by omega
            rcases q4 with q4 | q4
            · exact lw_c14d C0 X hl ha hm hao hW (ev_in_eq q4)
            · exact lw_c14e C0 X hl ha hm hao hW (ev_in_eq q4)
          · exact lw_c14c C0 X hl ha hm hao hW hfl (ev_in_ge q3)
  | 15, _, hk =>
    refine lv_tableIn (dflt := 696) (lo := 0) (hi := 16) (offs := #[84, 157, 182, 207, 220, 269, 282, 305, 318, 379, 435, 460, 485, 510, 535, 591, 671]) (len := 84) (off := 591) (tgt := 631) X.1.1 X.1.2.1 (by decide +kernel) (by omega) (by omega) (by rw [hk]; rfl) (by decide) ?_
    · rcases Nat.lt_or_ge (ev_sx (xs 1)) 2147483648 with q | q
      · exact lw_c15a C0 X hl ha hm hao hW hfl (ev_in_lt q)
      · rcases Nat.lt_or_ge (ev_sx (xs 1)) 2147483712 with q2 | q2
        · rcases Nat.lt_or_ge (ev_sx (xs 2)) 2147483648 with q3 | q3
          · exact lw_c15c C0 X hl ha hm hao hW hfl ⟨q, Nat.le_of_lt_succ q2⟩ (ev_in_lt q3)
          · rcases Nat.lt_or_ge (ev_sx (xs 2)) 2147483904 with q4 | q4
            · exact lw_c15e C0 X hl ha hm hao hW ⟨q, Nat.le_of_lt_succ q2⟩ ⟨q3, Nat.le_of_lt_succ q4⟩
            · exact lw_c15d C0 X hl ha hm hao hW hfl ⟨q, Nat.le_of_lt_succ q2⟩ (ev_in_ge q4)
        · exact lw_c15b C0 X hl ha hm hao hW hfl (ev_in_ge q2)
  | 16, _, hk =>
    refine lv_tableIn (dflt := 696) (lo := 0) (hi := 16) (offs := #[84, 157, 182, 207, 220, 269, 282, 305, 318, 379, 435, 460, 485, 510, 535, 591, 671]) (len := 84) (off := 671) (tgt := 711) X.1.1 X.1.2.1 (by decide +kernel) (by omega) (by omega) (by rw [hk]; rfl) (by decide) ?_
    · rcases Nat.lt_or_ge (ev_sx (xs 1)) 2147483648 with q | q
      · exact lw_c16a C0 X hl ha hm hW (ev_in_lt q)
      · rcases Nat.lt_or_ge (ev_sx (xs 1)) 2147483712 with q2 | q2
        · exact lw_c16b C0 X hl ha hm hW ⟨q, Nat.le_of_lt_succ q2⟩
        · exact lw_c16c C0 X hl ha hm hW (ev_in_ge q2)
  | k + 17, h, _ => omega
