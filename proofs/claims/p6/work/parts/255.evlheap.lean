/-! Rows of the small machine: arrays of longs and of booleans, copies -/
theorem ev_zo_in (x : Int32) : ev_in (0, 2147483648, 2147483649) (vp_nar .boolean x) := by
  have e : vp_nar .boolean x = nI 0 ∨ vp_nar .boolean x = nI 1 := by
    have h : vp_nar .boolean x = x &&& 1 := by first | rfl | simp [vp_nar, narrow]
    rw [h]
    have hb : (x &&& 1).toBitVec.toNat = x.toBitVec.toNat % 2 := by
      rw [Int32.toBitVec_and, BitVec.toNat_and]
      exact Nat.and_one_is_mod _
    rcases Nat.mod_two_eq_zero_or_one x.toBitVec.toNat with q | q
    · left
      apply ev_sx_inj
      rw [ev_sx_bv (by omega), ev_sx_nI (by omega), hb, q]
    · right
      apply ev_sx_inj
      rw [ev_sx_bv (by omega), ev_sx_nI (by omega), hb, q]
  rcases e with e | e
  · rw [e]; exact ⟨by decide +kernel, by decide +kernel⟩
  · rw [e]; exact ⟨by decide +kernel, by decide +kernel⟩
/-- a number within bounds from 0 on, as a place -/
theorem ev_in_nat {v : ev_V} {i : Int32} (h : ev_in v i) (h1 : 2147483648 ≤ v.2.1) : ¬ i < 0 ∧ i.toNatClampNeg + 2147483648 ≤ v.2.2 := by
  obtain ⟨a, b⟩ := h
  have h3 := ev_sx_eq i
  have h4 : (0 : Int) ≤ i.toInt := by omega
  refine ⟨fun q => ?_, ?_⟩
  · have q := Int32.lt_iff_toInt_lt.mp q
    have : (0 : Int32).toInt = 0 := by decide +kernel
    omega
  · have : i.toNatClampNeg = i.toInt.toNat := rfl
    omega
/-- elements within bounds of a byte fit a byte; any fit an int -/
def ev_cfit (ty : FieldType) (b : ev_V) : Bool := match ty with
  | .int => true
  | .byte => decide (2147483520 ≤ b.2.1 ∧ b.2.2 ≤ 2147483775)
  | _ => false
theorem ev_cfit_r {ty : FieldType} {b : ev_V} (h : ev_cfit ty b = true) {i : Int32} (hi : ev_in b i) : fits ty (.int i) = true := by
  unfold ev_cfit at h
  split at h
  · rfl
  · have h := of_decide_eq_true h
    obtain ⟨a1, a2⟩ := hi
    have h3 := ev_sx_eq i
    have m1 : (-128 : Int32).toInt = -128 := by decide +kernel
    have m2 : (127 : Int32).toInt = 127 := by decide +kernel
    have q1 : (-128 : Int32) ≤ i := Int32.le_iff_toInt_le.mpr (by omega)
    have q2 : i ≤ (127 : Int32) := Int32.le_iff_toInt_le.mpr (by omega)
    show (decide ((-128 : Int32) ≤ i) && decide (i ≤ (127 : Int32))) = true
    rw [Bool.and_eq_true]
    exact ⟨decide_eq_true q1, decide_eq_true q2⟩
  · exact absurd h (by decide)
section EV3L
variable {p : Program} {l : Launch} {e : Env} {R : Room} {s : State} {m : MethodId} {args : Array Value} {below : List Frame} {meth : Method} {c : Code} {Q : State → Prop}
variable {D : va_G} {cl : List vw_C} {dA : Nat → ClassId} {kt : List FieldType} {A : Nat → Prop} {ws0 : va_W} {Gs : List Cond} {own : String} {cc : ByteArray} {nL : Nat} {cd : ev_Cd}
variable {ix nc ns : Nat} {L : List (Nat × (Nat × Nat × Nat))} {S : List (Nat × Nat × Nat)} {w : List ev_C}
theorem ev_s_lald (X : ev_X p s m args c D cl dA kt A Gs own cc nL) {kd n i y9 : Nat} {x : ev_V} {z : List (Nat × Nat × Nat)} (hkt : kt[kd]? = some .long) (hd : decode cc (ev_pc cd ix) = .ok (.laload, 1)) (hn : ev_pc cd (ix + 1) = ev_pc cd ix + 1) (hw : w[i]? = some (3, kd, n, z)) (hx : x.1 = 0) (hx1 : 2147483648 ≤ x.2.1) (hx2 : x.2.2 < 2147483648 + n)
    (k : ev_G p l e R s m args below meth c Q D cl dA A ws0 nL cd (ix + 1, L, ev_lng :: S, w, nc, ns)) : ev_G p l e R s m args below meth c Q D cl dA A ws0 nL cd (ix, L, x :: (2, i, y9) :: S, w, nc, ns) := by
  intro H locs ls vs lv ws h1 h2 h3 h4 h5 h6 h7 h8
  have h3q := h3.cons
  clear h3
  obtain ⟨y, ys, rfl, hy, h3⟩ := h3q
  obtain ⟨i1, rfl, hi⟩ := hy.int hx
  have h3q := h3.cons
  clear h3
  obtain ⟨x, zs, rfl, hx, h3⟩ := h3q
  obtain ⟨a, ha, rfl⟩ := hx.ref rfl
  obtain ⟨E, hE, hr⟩ := h4.at hw ha
  rcases hr with ⟨hr, -⟩ | ⟨hr, -⟩ | ⟨hr, -⟩ | ⟨hr, f, rfl⟩ | hr
  case inr.inr.inr.inl => exact va_lald X.1.1 X.1.2.1 X.2.1.1 h6 i kd hE (ev_tys_at hkt) (ev_in_at hi hx1 hx2) hd (ev_go k hn h1 h2 ⟨ev_lng_r _ _, h3⟩ h4 h5 h6 h7 h8)
  all_goals exact absurd hr (by simp)
theorem ev_s_last (X : ev_X p s m args c D cl dA kt A Gs own cc nL) {kd n i y9 : Nat} {x v : ev_V} {z : List (Nat × Nat × Nat)} (hkt : kt[kd]? = some .long) (hd : decode cc (ev_pc cd ix) = .ok (.lastore, 1)) (hn : ev_pc cd (ix + 1) = ev_pc cd ix + 1) (hw : w[i]? = some (3, kd, n, z)) (hx : x.1 = 0) (hx1 : 2147483648 ≤ x.2.1) (hx2 : x.2.2 < 2147483648 + n) (hv : v.1 = 1)
    (k : ev_G p l e R s m args below meth c Q D cl dA A ws0 nL cd (ix + 1, L, S, w, nc, ns)) : ev_G p l e R s m args below meth c Q D cl dA A ws0 nL cd (ix, L, v :: x :: (2, i, y9) :: S, w, nc, ns) := by
  intro H locs ls vs lv ws h1 h2 h3 h4 h5 h6 h7 h8
  have h3q := h3.cons
  clear h3
  obtain ⟨y0, ys, rfl, hy0, h3⟩ := h3q
  obtain ⟨x0, rfl⟩ := hy0.long hv
  have h3q := h3.cons
  clear h3
  obtain ⟨y, ys, rfl, hy, h3⟩ := h3q
  obtain ⟨i1, rfl, hi⟩ := hy.int hx
  have h3q := h3.cons
  clear h3
  obtain ⟨x, zs, rfl, hx, h3⟩ := h3q
  obtain ⟨a, ha, rfl⟩ := hx.ref rfl
  obtain ⟨E, hE, hr⟩ := h4.at hw ha
  rcases hr with ⟨hr, -⟩ | ⟨hr, -⟩ | ⟨hr, -⟩ | ⟨hr, f, rfl⟩ | hr
  case inr.inr.inr.inl =>
    refine va_last X.1.1 X.1.2.1 X.2.1.1 h6 h7 h8 i kd hE (ev_tys_at hkt) (ev_in_at hi hx1 hx2) hd (fun H1 locs1 g6 g7 g8 => ?_)
    have em := ev_map_set (e := .inl (dA kd, n, .inr (.inl (vp_updL f i1.toNatClampNeg x0)))) hE
    have h4' := h4.set hE (c := (3, kd, n, z)) (e := .inl (dA kd, n, .inr (.inl (vp_updL f i1.toNatClampNeg x0)))) (Or.inr (Or.inr (Or.inr (Or.inl ⟨rfl, _, rfl⟩))))
    have h5' := h5.set (c := (3, kd, n, z)) (e := .inl (dA kd, n, .inr (.inl (vp_updL f i1.toNatClampNeg x0)))) hE (by simp)
    have hsame : w.set i (3, kd, n, z) = w := by
      apply List.ext_getElem?
      intro j
      by_cases hj : i = j
      · subst hj
        rw [List.getElem?_set_self (List.getElem?_eq_some_iff.mp hw).1, hw]
      · rw [List.getElem?_set_ne hj]
    rw [hsame] at h4' h5'
    exact ev_go k hn h1 (by rw [em]; exact h2) (by rw [em]; exact h3) h4' h5' g6 g7 g8
  all_goals exact absurd hr (by simp)
theorem ev_s_zast (X : ev_X p s m args c D cl dA kt A Gs own cc nL) {kd n i y9 : Nat} {x b v : ev_V} {z : List (Nat × Nat × Nat)} (hkt : kt[kd]? = some .boolean) (hd : decode cc (ev_pc cd ix) = .ok (.bastore, 1)) (hn : ev_pc cd (ix + 1) = ev_pc cd ix + 1) (hw : w[i]? = some (2, kd, n, z)) (hz : z[0]? = some b) (hx : x.1 = 0) (hx1 : 2147483648 ≤ x.2.1) (hx2 : x.2.2 < 2147483648 + n) (hv : v.1 = 0)
    (k : ev_G p l e R s m args below meth c Q D cl dA A ws0 nL cd (ix + 1, L, S, w.set i (2, kd, n, [ev_hull b (0, 2147483648, 2147483649)]), nc, ns)) : ev_G p l e R s m args below meth c Q D cl dA A ws0 nL cd (ix, L, v :: x :: (2, i, y9) :: S, w, nc, ns) := by
  intro H locs ls vs lv ws h1 h2 h3 h4 h5 h6 h7 h8
  have h3q := h3.cons
  clear h3
  obtain ⟨y0, ys, rfl, hy0, h3⟩ := h3q
  obtain ⟨x0, rfl, hx0⟩ := hy0.int hv
  have h3q := h3.cons
  clear h3
  obtain ⟨y, ys, rfl, hy, h3⟩ := h3q
  obtain ⟨i1, rfl, hi⟩ := hy.int hx
  have h3q := h3.cons
  clear h3
  obtain ⟨x, zs, rfl, hx, h3⟩ := h3q
  obtain ⟨a, ha, rfl⟩ := hx.ref rfl
  obtain ⟨E, hE, hr⟩ := h4.at hw ha
  rcases hr with ⟨hr, -⟩ | ⟨hr, -⟩ | ⟨hr, f, rfl, hf⟩ | ⟨hr, -⟩ | hr
  case inr.inr.inl =>
    refine va_zast X.1.1 X.1.2.1 X.2.1.1 h6 h7 h8 i kd hE (ev_tys_at hkt) (ev_in_at hi hx1 hx2) hd (fun H1 locs1 g6 g7 g8 => ?_)
    have em := ev_map_set (e := .inl (dA kd, n, .inl (upd f i1.toNatClampNeg (vp_nar .boolean x0)))) hE
    refine ev_go k hn h1 (by rw [em]; exact h2) (by rw [em]; exact h3) (h4.set hE (Or.inr (Or.inr (Or.inl ⟨rfl, _, rfl, fun u hu j => ?_⟩)))) (h5.set hE (by simp)) g6 g7 g8
    obtain rfl : ev_hull b (0, 2147483648, 2147483649) = u := Option.some.inj hu
    by_cases hj : j = i1.toNatClampNeg
    · rw [hj, pk_us]
      exact ev_hull_r (ev_zo_in x0)
    · rw [pk_un hj]
      exact ev_hull_l (hf b hz j)
  all_goals exact absurd hr (by simp)
/-- System.arraycopy between arrays of bytes, or of ints -/
theorem ev_s_copy (X : ev_X p s m args c D cl dA kt A Gs own cc nL) {idx tg kd k0 k1 n0 n1 y8 y9 : Nat} {ty : FieldType} {sp dp nn b0 b1 : ev_V} {z0 z1 : List (Nat × Nat × Nat)} (hkt : kt[kd]? = some ty) (hlk : Cond.methodLink own idx arraycopyName ∈ Gs) (hnat : Cond.native arraycopyName ∈ Gs) (hst : Cond.static arraycopyName ∈ Gs) (hini : Cond.initialized "java/lang/System" ∈ Gs) (htg : tg = 2 ∨ tg = 9) (hw0 : w[k0]? = some (tg, kd, n0, z0)) (hw1 : w[k1]? = some (2, kd, n1, z1)) (hz0 : z0[0]? = some b0) (hz1 : z1[0]? = some b1) (hfit : ev_cfit ty b0 = true) (hprim : refKind ty = false) (hsp : sp.1 = 0) (hdp : dp.1 = 0) (hnn : nn.1 = 0) (h1' : 2147483648 ≤ sp.2.1) (h2' : 2147483648 ≤ dp.2.1) (h3' : 2147483648 ≤ nn.2.1) (h4' : sp.2.2 + nn.2.2 ≤ n0 + 4294967296) (h5' : dp.2.2 + nn.2.2 ≤ n1 + 4294967296) (hRf : 1 ≤ R.frames) (hRl : 26 ≤ R.locals) (hcs : ev_cs S ≤ 8) (hd : decode cc (ev_pc cd ix) = .ok (.invokestatic idx, 3)) (hn : ev_pc cd (ix + 1) = ev_pc cd ix + 3)
    (k : ev_G p l e R s m args below meth c Q D cl dA A ws0 nL cd (ix + 1, L, S, w.set k1 (2, kd, n1, [ev_hull b1 b0]), nc, ns)) : ev_G p l e R s m args below meth c Q D cl dA A ws0 nL cd (ix, L, nn :: dp :: (2, k1, y9) :: sp :: (2, k0, y8) :: S, w, nc, ns) := by
  intro H locs ls vs lv ws h1 h2 h3 h4 h5 h6 h7 h8
  have h3q := h3.cons
  clear h3
  obtain ⟨v1, ys, rfl, hv1, h3⟩ := h3q
  obtain ⟨jn, rfl, hjn⟩ := hv1.int hnn
  have h3q := h3.cons
  clear h3
  obtain ⟨v2, ys, rfl, hv2, h3⟩ := h3q
  obtain ⟨jd, rfl, hjd⟩ := hv2.int hdp
  have h3q := h3.cons
  clear h3
  obtain ⟨v3, ys, rfl, hv3, h3⟩ := h3q
  obtain ⟨a1, ha1, rfl⟩ := hv3.ref rfl
  have h3q := h3.cons
  clear h3
  obtain ⟨v4, ys, rfl, hv4, h3⟩ := h3q
  obtain ⟨js, rfl, hjs⟩ := hv4.int hsp
  have h3q := h3.cons
  clear h3
  obtain ⟨v5, ys, rfl, hv5, h3⟩ := h3q
  obtain ⟨a0, ha0, rfl⟩ := hv5.ref rfl
  obtain ⟨E0, hE0, hr0⟩ := h4.at hw0 ha0
  obtain ⟨E1, hE1, hr1⟩ := h4.at hw1 ha1
  obtain ⟨f, rfl, hf⟩ := hr0.ints htg hz0
  · rcases hr1 with ⟨hr, -⟩ | ⟨hr, -⟩ | ⟨-, g, rfl, hg⟩ | ⟨hr, -⟩ | hr
    case inr.inr.inl =>
      obtain ⟨q1, q1'⟩ := ev_in_nat hjs h1'
      obtain ⟨q2, q2'⟩ := ev_in_nat hjd h2'
      obtain ⟨q3, q3'⟩ := ev_in_nat hjn h3'
      refine va_copyi X.1.1 X.1.2.1 (X.1.2.2.1.trans h1.1.symm) X.1.2.2.2.1 (X.1.2.2.2.2 _ hlk) (X.1.2.2.2.2 _ hnat) (X.1.2.2.2.2 _ hst) (X.1.2.2.2.2 _ hini) X.2.1.1 h6 h7 h8 k0 k1 kd kd hE0 hE1 (ev_tys_at hkt) (ev_tys_at hkt) hprim q1 q2 q3 (by show _ ≤ n0; omega) (by show _ ≤ n1; omega) (fun i _ => ev_cfit_r hfit (hf _)) hRf (by rw [h3.cs]; show _ + (7 + 11) ≤ _; omega) hd (fun H1 locs1 g6 g7 g8 => ?_)
      have em := ev_map_set (e := .inl (dA kd, n1, .inl (va_cpy f g js.toNatClampNeg jd.toNatClampNeg jn.toNatClampNeg))) hE1
      refine ev_go k hn h1 (by rw [em]; exact h2) (by rw [em]; exact h3) (h4.set hE1 (Or.inr (Or.inr (Or.inl ⟨rfl, _, rfl, fun u hu j => ?_⟩)))) (h5.set hE1 (by simp)) g6 g7 g8
      obtain rfl : ev_hull b1 b0 = u := Option.some.inj hu
      unfold va_cpy
      split
      · exact ev_hull_r (hf _)
      · exact ev_hull_l (hg b1 hz1 j)
    all_goals exact absurd hr (by simp)
end EV3L
