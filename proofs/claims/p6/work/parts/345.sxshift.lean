/-! Shifts by a number -/
theorem sx_nI {y : Int32} {k : Nat} (h : y.toInt = (k : Int)) : y = nI k := by
  apply Int32.toInt_inj.mp
  have := ev_hi y
  rw [h, nI_toInt (by omega)]
theorem sx_sm : ∀ k : Fin 32, ((nI k.1 &&& 31 : Int32).toBitVec.smod 32).toNat = k.1 := by decide +kernel
theorem sx_two : ∀ k : Fin 31, (nI (2 ^ k.1)).toBitVec = BitVec.twoPow 32 k.1 ∧ (nI (2 ^ k.1)).toInt = ((2 ^ k.1 : Nat) : Int) := by decide +kernel
theorem sx_um : ∀ k : Fin 32, (((nI k.1).toUInt32 &&& Int32.toUInt32 31).toNat % 32) = k.1 := by decide +kernel
theorem sx_shr {i j : Int32} {k : Nat} (hk : k < 32) (hj : j.toInt = (k : Int)) : (i >>> (j &&& 31)).toInt = i.toInt / ((2 ^ k : Nat) : Int) := by
  rw [sx_nI hj]
  have h1 := sx_sm ⟨k, hk⟩
  show (i >>> (nI k &&& 31)).toBitVec.toInt = _
  rw [Int32.toBitVec_shiftRight, BitVec.sshiftRight', h1, BitVec.toInt_sshiftRight, Int.shiftRight_eq_div_pow]
  rfl
theorem sx_shl {i j : Int32} {k : Nat} (hk : k < 31) (hj : j.toInt = (k : Int)) : (i <<< (j &&& 31)).toInt = (i.toInt * ((2 ^ k : Nat) : Int)).bmod 4294967296 := by
  rw [sx_nI hj]
  have h1 := sx_sm ⟨k, by omega⟩
  obtain ⟨t1, t2⟩ := sx_two ⟨k, hk⟩
  have e : i <<< (nI k &&& 31) = i * nI (2 ^ k) := by
    apply Int32.toBitVec_inj.mp
    rw [Int32.toBitVec_shiftLeft, Int32.toBitVec_mul, t1, ← BitVec.shiftLeft_eq_mul_twoPow]
    show i.toBitVec <<< ((nI k &&& 31 : Int32).toBitVec.smod 32) = _
    rw [BitVec.shiftLeft_eq', h1]
  rw [e, Int32.toInt_mul, t2]
theorem sx_ushr {i j : Int32} {k : Nat} (hk : k < 32) (hj : j.toInt = (k : Int)) : (i.toUInt32 >>> (j.toUInt32 &&& Int32.toUInt32 31)).toInt32.toBitVec.toNat = i.toBitVec.toNat / 2 ^ k := by
  rw [sx_nI hj]
  have h1 := sx_um ⟨k, hk⟩
  show (i.toUInt32 >>> ((nI k).toUInt32 &&& Int32.toUInt32 31)).toNat = _
  rw [UInt32.toNat_shiftRight, h1, Nat.shiftRight_eq_div_pow]
  rfl
section SXB
variable {B : List (Int × Int)} {r x y : List Int} {i j : Int32}
def sx_fshr (B : List (Int × Int)) (x y : List Int) : sx_A := match sx_cn y with
  | some k => if 0 ≤ k ∧ k < 32 ∧ x.length ≤ B.length + 1 then (sx_sy B.length, sx_quo B x ((2 ^ k.toNat : Nat) : Int)) else sx_fullA B
  | none => sx_fullA B
theorem sx_fshr_ok (hb : sx_b B r) (hi : i.toInt = sx_ev x r) (hj : j.toInt = sx_ev y r) : sx_aok r (sx_fshr B x y) (i >>> (j &&& 31)).toInt := by
  unfold sx_fshr
  split
  · next k hk =>
    have ek := sx_cn_ok hk r
    split
    · next hc =>
      have hp : 0 < ((2 ^ k.toNat : Nat) : Int) := by have := Nat.two_pow_pos k.toNat; omega
      obtain ⟨q1, q2, q3, q4⟩ := sx_quo_ok hb (d := ((2 ^ k.toNat : Nat) : Int)) (z := i.toInt) hp hc.2.2 hi
      refine ⟨[i.toInt / ((2 ^ k.toNat : Nat) : Int)], q1, q2, ?_⟩
      show _ = sx_ev (sx_sy B.length) _
      rw [q3, sx_shr (k := k.toNat) (by omega) (by omega)]
    · exact sx_fullA_ok hb _
  · exact sx_fullA_ok hb _
def sx_fshl (B : List (Int × Int)) (x y : List Int) : sx_A := match sx_cn y with
  | some k => if 0 ≤ k ∧ k < 31 then sx_keep B (sx_mul ((2 ^ k.toNat : Nat) : Int) x) else sx_fullA B
  | none => sx_fullA B
theorem sx_fshl_ok (hb : sx_b B r) (hi : i.toInt = sx_ev x r) (hj : j.toInt = sx_ev y r) : sx_aok r (sx_fshl B x y) (i <<< (j &&& 31)).toInt := by
  unfold sx_fshl
  split
  · next k hk =>
    have ek := sx_cn_ok hk r
    split
    · next hc => exact sx_keep_ok hb (by rw [sx_shl (k := k.toNat) (by omega) (by omega), sx_ev_mul, hi, Int.mul_comm])
    · exact sx_fullA_ok hb _
  · exact sx_fullA_ok hb _
def sx_fushr (B : List (Int × Int)) (x y : List Int) : sx_A := match sx_cn y with
  | some k => if 0 < k ∧ k < 32 then (if 0 ≤ sx_lo x B ∧ x.length ≤ B.length + 1 then (sx_sy B.length, sx_quo B x ((2 ^ k.toNat : Nat) : Int)) else sx_new B 0 (((2 ^ (32 - k.toNat) : Nat) : Int) - 1)) else sx_fullA B
  | none => sx_fullA B
theorem sx_fushr_ok (hb : sx_b B r) (hi : i.toInt = sx_ev x r) (hj : j.toInt = sx_ev y r) : sx_aok r (sx_fushr B x y) (i.toUInt32 >>> (j.toUInt32 &&& Int32.toUInt32 31)).toInt32.toInt := by
  have a1 := sx_lo_ok (f := x) hb
  have hlt : i.toBitVec.toNat < 2 ^ 32 := i.toBitVec.isLt
  unfold sx_fushr
  split
  · next k hk =>
    have ek := sx_cn_ok hk r
    split
    · next hc =>
      have e := sx_ushr (i := i) (j := j) (k := k.toNat) (by omega) (by omega)
      have hp : 0 < 2 ^ k.toNat := Nat.two_pow_pos k.toNat
      have hpow : 2 ^ (32 - k.toNat) * 2 ^ k.toNat = 2 ^ 32 := by rw [← Nat.pow_add]; congr 1; omega
      have hq : i.toBitVec.toNat / 2 ^ k.toNat < 2 ^ (32 - k.toNat) := Nat.div_lt_of_lt_mul (by rw [Nat.mul_comm, hpow]; exact hlt)
      have hq2 : 2 ^ (32 - k.toNat) ≤ 2 ^ 31 := Nat.pow_le_pow_right (by omega) (by omega)
      have e2 := sx_unbits e (by omega)
      split
      · next hx =>
        obtain ⟨q1, q2, q3, q4⟩ := sx_quo_ok hb (d := ((2 ^ k.toNat : Nat) : Int)) (z := i.toInt) (by omega) hx.2 hi
        refine ⟨[i.toInt / ((2 ^ k.toNat : Nat) : Int)], q1, q2, ?_⟩
        show _ = sx_ev (sx_sy B.length) _
        rw [q3, e2, sx_bits (by omega), Int.natCast_ediv, Int.toNat_of_nonneg (by omega)]
      · exact sx_new_ok hb (by omega) (by omega)
    · exact sx_fullA_ok hb _
  · exact sx_fullA_ok hb _
/-- narrower ints -/
def sx_fi2b (B : List (Int × Int)) (x : List Int) : sx_A := if -128 ≤ sx_lo x B ∧ sx_hi x B ≤ 127 then (x, [], []) else sx_new B (-128) 127
theorem sx_fi2b_ok (hb : sx_b B r) (hi : i.toInt = sx_ev x r) : sx_aok r (sx_fi2b B x) i.toInt8.toInt32.toInt := by
  have a1 := sx_lo_ok (f := x) hb
  have a2 := sx_hi_ok (f := x) hb
  have h1 := Int8.le_toInt i.toInt8
  have h2 := Int8.toInt_lt i.toInt8
  unfold sx_fi2b
  split
  · next hc =>
    refine sx_old_ok ?_
    rw [Int8.toInt_toInt32, ← hi]
    show (i.toInt8).toInt = _
    rw [Int32.toInt_toInt8]
    show Int.bmod _ 256 = _
    simp only [Int.bmod]
    split <;> omega
  · rw [Int8.toInt_toInt32]
    exact sx_new_ok hb (by omega) (by omega)
def sx_fi2s (B : List (Int × Int)) (x : List Int) : sx_A := if -32768 ≤ sx_lo x B ∧ sx_hi x B ≤ 32767 then (x, [], []) else sx_new B (-32768) 32767
theorem sx_fi2s_ok (hb : sx_b B r) (hi : i.toInt = sx_ev x r) : sx_aok r (sx_fi2s B x) i.toInt16.toInt32.toInt := by
  have a1 := sx_lo_ok (f := x) hb
  have a2 := sx_hi_ok (f := x) hb
  have h1 := Int16.le_toInt i.toInt16
  have h2 := Int16.toInt_lt i.toInt16
  unfold sx_fi2s
  split
  · next hc =>
    refine sx_old_ok ?_
    rw [Int16.toInt_toInt32, ← hi]
    rw [Int32.toInt_toInt16]
    show Int.bmod _ 65536 = _
    simp only [Int.bmod]
    split <;> omega
  · rw [Int16.toInt_toInt32]
    exact sx_new_ok hb (by omega) (by omega)
end SXB
/-! Longs: a value (1, ..) of which nothing is known, or a form, with the numbers that it brings -/
def sx_wide (B : List (Int × Int)) (f : List Int) : Bool := decide (-4611686018427387904 ≤ sx_lo f B ∧ sx_hi f B ≤ 4611686018427387903)
def sx_lkeep (B : List (Int × Int)) (f : List Int) : sx_V := if sx_wide B f then (4, 0, f) else (1, 0, [])
theorem sx_bm64 {z : Int} (h1 : -4611686018427387904 ≤ z) (h2 : z ≤ 4611686018427387903) : z.bmod 18446744073709551616 = z := by
  simp only [Int.bmod]
  split <;> omega
theorem sx_lkeep_ok {B : List (Int × Int)} {r f : List Int} (hb : sx_b B r) {kd : List (Nat × Nat)} {ad : List Nat} {i : Int64} (h : i.toInt = (sx_ev f r).bmod 18446744073709551616) : sx_vr r kd ad (sx_lkeep B f) (.long i) := by
  unfold sx_lkeep
  split
  · next hc =>
    have hc := of_decide_eq_true hc
    have h1 := sx_lo_ok (f := f) hb
    have h2 := sx_hi_ok (f := f) hb
    exact sx_vr.ll (by rw [h, sx_bm64 (by omega) (by omega)])
  · exact sx_vr.lg _ _ _
section SXC
variable {B : List (Int × Int)} {r : List Int} {kd : List (Nat × Nat)} {ad : List Nat} {x y : sx_V} {i j : Int64}
def sx_ladd (B : List (Int × Int)) (x y : sx_V) : sx_V := if x.1 = 4 ∧ y.1 = 4 then sx_lkeep B (sx_add x.2.2 y.2.2) else (1, 0, [])
def sx_lsub (B : List (Int × Int)) (x y : sx_V) : sx_V := if x.1 = 4 ∧ y.1 = 4 then sx_lkeep B (sx_sub x.2.2 y.2.2) else (1, 0, [])
def sx_lmul (B : List (Int × Int)) (x y : sx_V) : sx_V := if x.1 = 4 ∧ y.1 = 4 then (match sx_cn y.2.2 with
  | some k => sx_lkeep B (sx_mul k x.2.2)
  | none => match sx_cn x.2.2 with
    | some k => sx_lkeep B (sx_mul k y.2.2)
    | none => (1, 0, [])) else (1, 0, [])
theorem sx_lform {v : sx_V} {i : Int64} (h : sx_vr r kd ad v (.long i)) (hv : v.1 = 4) : i.toInt = sx_ev v.2.2 r := by
  obtain ⟨j, hj, he⟩ := h.longf hv
  cases hj
  exact he
theorem sx_ladd_ok (hb : sx_b B r) (hi : sx_vr r kd ad x (.long i)) (hj : sx_vr r kd ad y (.long j)) : sx_vr r kd ad (sx_ladd B x y) (.long (i + j)) := by
  unfold sx_ladd
  split
  · next hc => exact sx_lkeep_ok hb (by rw [Int64.toInt_add, sx_ev_add, sx_lform hi hc.1, sx_lform hj hc.2])
  · exact sx_vr.lg _ _ _
theorem sx_lsub_ok (hb : sx_b B r) (hi : sx_vr r kd ad x (.long i)) (hj : sx_vr r kd ad y (.long j)) : sx_vr r kd ad (sx_lsub B x y) (.long (i - j)) := by
  unfold sx_lsub
  split
  · next hc => exact sx_lkeep_ok hb (by rw [Int64.toInt_sub, sx_ev_sub, sx_lform hi hc.1, sx_lform hj hc.2])
  · exact sx_vr.lg _ _ _
theorem sx_lmul_ok (hb : sx_b B r) (hi : sx_vr r kd ad x (.long i)) (hj : sx_vr r kd ad y (.long j)) : sx_vr r kd ad (sx_lmul B x y) (.long (i * j)) := by
  unfold sx_lmul
  split
  · next hc =>
    split
    · next k hk => exact sx_lkeep_ok hb (by rw [Int64.toInt_mul, sx_ev_mul, sx_lform hi hc.1, sx_lform hj hc.2, sx_cn_ok hk r, Int.mul_comm])
    · split
      · next k hk => exact sx_lkeep_ok hb (by rw [Int64.toInt_mul, sx_ev_mul, sx_lform hi hc.1, sx_lform hj hc.2, sx_cn_ok hk r])
      · exact sx_vr.lg _ _ _
  · exact sx_vr.lg _ _ _
theorem sx_sgn (i j : Int64) : sx_sg (i.toInt - j.toInt) (lg_cmp i j) := by
  unfold lg_cmp
  split
  · next h =>
    first
      | (have h := Int64.lt_iff_toInt_lt.mp h; exact ⟨fun _ => by first | rfl | (exfalso; omega), fun _ => by first | rfl | (exfalso; omega), fun _ => by first | rfl | (exfalso; omega)⟩)
      | (subst h; exact ⟨fun _ => by first | rfl | (exfalso; omega), fun _ => by first | rfl | (exfalso; omega), fun _ => by first | rfl | (exfalso; omega)⟩)
  · next h0 =>
    split
    · next h =>
      first
        | (have h := Int64.lt_iff_toInt_lt.mp h; exact ⟨fun _ => by first | rfl | (exfalso; omega), fun _ => by first | rfl | (exfalso; omega), fun _ => by first | rfl | (exfalso; omega)⟩)
        | (subst h; exact ⟨fun _ => by first | rfl | (exfalso; omega), fun _ => by first | rfl | (exfalso; omega), fun _ => by first | rfl | (exfalso; omega)⟩)
    · next h1 =>
      have a0 : ¬ i = j → i.toInt ≠ j.toInt := fun h e => h (Int64.toInt_inj.mp e)
      have a1 : ¬ i < j → ¬ i.toInt < j.toInt := fun h e => h (Int64.lt_iff_toInt_lt.mpr e)
      have a2 : ¬ j < i → ¬ j.toInt < i.toInt := fun h e => h (Int64.lt_iff_toInt_lt.mpr e)
      refine ⟨fun _ => ?_, fun _ => ?_, fun _ => ?_⟩ <;> first | rfl | (exfalso; simp_all; omega) | (exfalso; have := a0 h0; have := a1 h1; omega) | (exfalso; have := a1 h0; have := a2 h1; omega) | (exfalso; have := a2 h0; have := a1 h1; omega) | (exfalso; have := a1 h0; have := a0 h1; omega) | (exfalso; have := a2 h0; have := a0 h1; omega)
end SXC
section SXD
variable {B : List (Int × Int)} {F : List (List Int)} {r x y : List Int} {i j : Int32}
/-- or, where no bit stands in both, by sums -/
def sx_dih (B : List (Int × Int)) (F : List (List Int)) (u v : List Int) (k : Int) (hs : List (List (List Int))) : Option (List (List (List Int))) := if u.all (fun c => decide (c % ((2 ^ k.toNat : Nat) : Int) = 0)) = true ∧ 0 ≤ sx_lo u B ∧ sx_hi u B + ((2 ^ k.toNat : Nat) : Int) ≤ 2147483648 then sx_posA B F [v, sx_sub [((2 ^ k.toNat : Nat) : Int) - 1] v] hs else none
theorem sx_dih_ok {u v : List Int} {k : Int} {hs hs' : List (List (List Int))} (hb : sx_b B r) (hF : sx_fs F r) (hi : i.toInt = sx_ev u r) (hj : j.toInt = sx_ev v r) (h : sx_dih B F u v k hs = some hs') : (i ||| j).toInt = sx_ev (sx_add u v) r := by
  unfold sx_dih at h
  split at h
  · next h0 =>
    obtain ⟨h1, h2, h3⟩ := h0
    have a1 := sx_lo_ok (f := u) hb
    have a2 := sx_hi_ok (f := u) hb
    have p0 := sx_posA_ok hb hF _ _ _ h
    have p1 := p0 _ List.mem_cons_self
    have p2 := p0 _ (List.mem_cons_of_mem _ List.mem_cons_self)
    rw [sx_ev_sub, sx_ev_c] at p2
    rw [sx_ev_add]
    obtain ⟨q, hq⟩ := sx_dvd (d := ((2 ^ k.toNat : Nat) : Int)) r (fun c hc => of_decide_eq_true (List.all_eq_true.mp h1 c hc))
    have hp0 : 0 < 2 ^ k.toNat := Nat.pow_pos (by omega)
    have hq0 : 0 ≤ q := by
      rcases Int.lt_or_le q 0 with e | e
      · have := Int.mul_neg_of_pos_of_neg (show (0 : Int) < ((2 ^ k.toNat : Nat) : Int) by omega) e
        omega
      · exact e
    have e1 := sx_bits (i := i) (by omega)
    have e2 := sx_bits (i := j) (by omega)
    have f1 : i.toInt.toNat = 2 ^ k.toNat * q.toNat := by
      have : ((2 ^ k.toNat * q.toNat : Nat) : Int) = ((2 ^ k.toNat : Nat) : Int) * q := by rw [Int.natCast_mul, Int.toNat_of_nonneg hq0]
      omega
    have f2 : j.toInt.toNat < 2 ^ k.toNat := by omega
    have e3 : (i ||| j).toBitVec.toNat = i.toInt.toNat + j.toInt.toNat := by
      rw [Int32.toBitVec_or, BitVec.toNat_or, e1, e2, f1, ← Nat.two_pow_add_eq_or_of_lt f2]
    have e4 := sx_unbits e3 (by omega)
    rw [e4]
    omega
  · cases h
def sx_foh (B : List (Int × Int)) (F : List (List Int)) (x y : List Int) (hs : List (List (List Int))) : Option (sx_A × List (List (List Int))) := match hs with
  | [[-3, k]] :: hs1 => (match sx_dih B F x y k hs1 with
    | some hs2 => some ((sx_add x y, [], []), hs2)
    | none => none)
  | [[-2, k]] :: hs1 => (match sx_dih B F y x k hs1 with
    | some hs2 => some ((sx_add y x, [], []), hs2)
    | none => none)
  | _ => some (sx_fio B x y, hs)
theorem sx_foh_ok {a : sx_A} {hs hs' : List (List (List Int))} (hb : sx_b B r) (hF : sx_fs F r) (hi : i.toInt = sx_ev x r) (hj : j.toInt = sx_ev y r) (h : sx_foh B F x y hs = some (a, hs')) : sx_aok r a (i ||| j).toInt := by
  unfold sx_foh at h
  split at h
  · split at h
    · next hp =>
      have e := (Prod.mk.inj (Option.some.inj h)).1
      rw [← e]
      exact sx_old_ok (sx_dih_ok hb hF hi hj hp)
    · cases h
  · split at h
    · next hp =>
      have e := (Prod.mk.inj (Option.some.inj h)).1
      rw [← e]
      exact sx_old_ok (by rw [sx_or_comm]; exact sx_dih_ok hb hF hj hi hp)
    · cases h
  · have e := (Prod.mk.inj (Option.some.inj h)).1
    rw [← e]
    exact sx_fio_ok hb hi hj
end SXD
