/-! What the second machine reckons: a form, bounds of new numbers, sums not below 0 -/
abbrev sx_A : Type := List Int × List (Int × Int) × List (List Int)
def sx_new (B : List (Int × Int)) (lo hi : Int) : sx_A := (sx_sy B.length, [(lo, hi)], [])
/-- what comes is as told, whatever the numbers are -/
def sx_aok (r : List Int) (a : sx_A) (v : Int) : Prop := ∃ x1 : List Int, sx_b a.2.1 x1 ∧ sx_fs a.2.2 (r ++ x1) ∧ v = sx_ev a.1 (r ++ x1)
theorem sx_new_ok {B : List (Int × Int)} {r : List Int} (hb : sx_b B r) {lo hi v : Int} (h1 : lo ≤ v) (h2 : v ≤ hi) : sx_aok r (sx_new B lo hi) v :=
  ⟨[v], sx_b_one h1 h2, fun _ h => (by cases h), by
    refine (sx_ev_sy (n := B.length) ?_).symm
    rw [sx_b_len hb, List.getElem?_append_right (Nat.le_refl _)]
    simp⟩
theorem sx_old_ok {r f : List Int} {v : Int} (h : v = sx_ev f r) : sx_aok r (f, [], []) v := ⟨[], trivial, fun _ h => (by cases h), by rw [List.append_nil]; exact h⟩
def sx_fullA (B : List (Int × Int)) : sx_A := sx_new B (-2147483648) 2147483647
theorem sx_fullA_ok {B : List (Int × Int)} {r : List Int} (hb : sx_b B r) (i : Int32) : sx_aok r (sx_fullA B) i.toInt := sx_new_ok hb (ev_lo i) (by have := ev_hi i; omega)
/-- a form, if it stays an int -/
def sx_keep (B : List (Int × Int)) (f : List Int) : sx_A := if -2147483648 ≤ sx_lo f B ∧ sx_hi f B ≤ 2147483647 then (f, [], []) else sx_fullA B
theorem sx_bm {z : Int} (h1 : -2147483648 ≤ z) (h2 : z ≤ 2147483647) : z.bmod 4294967296 = z := ev_bm h1 (by omega)
theorem sx_keep_ok {B : List (Int × Int)} {r : List Int} (hb : sx_b B r) {f : List Int} {i : Int32} (h : i.toInt = (sx_ev f r).bmod 4294967296) : sx_aok r (sx_keep B f) i.toInt := by
  unfold sx_keep
  split
  · next hc =>
    have h1 := sx_lo_ok (f := f) hb
    have h2 := sx_hi_ok (f := f) hb
    exact sx_old_ok (by rw [h, sx_bm (by omega) (by omega)])
  · exact sx_fullA_ok hb i
def sx_fadd (B : List (Int × Int)) (x y : List Int) : sx_A := sx_keep B (sx_add x y)
def sx_fsub (B : List (Int × Int)) (x y : List Int) : sx_A := sx_keep B (sx_sub x y)
section SXA
variable {B : List (Int × Int)} {r x y : List Int} {i j : Int32}
theorem sx_fadd_ok (hb : sx_b B r) (hi : i.toInt = sx_ev x r) (hj : j.toInt = sx_ev y r) : sx_aok r (sx_fadd B x y) (i + j).toInt := sx_keep_ok hb (by rw [Int32.toInt_add, sx_ev_add, hi, hj])
theorem sx_fsub_ok (hb : sx_b B r) (hi : i.toInt = sx_ev x r) (hj : j.toInt = sx_ev y r) : sx_aok r (sx_fsub B x y) (i - j).toInt := sx_keep_ok hb (by rw [Int32.toInt_sub, sx_ev_sub, hi, hj])
def sx_fmul (B : List (Int × Int)) (x y : List Int) : sx_A := match sx_cn y with
  | some k => sx_keep B (sx_mul k x)
  | none => match sx_cn x with
    | some k => sx_keep B (sx_mul k y)
    | none => if 0 ≤ sx_lo x B ∧ 0 ≤ sx_lo y B ∧ sx_hi x B * sx_hi y B ≤ 2147483647 then sx_new B 0 (sx_hi x B * sx_hi y B) else sx_fullA B
theorem sx_fmul_ok (hb : sx_b B r) (hi : i.toInt = sx_ev x r) (hj : j.toInt = sx_ev y r) : sx_aok r (sx_fmul B x y) (i * j).toInt := by
  unfold sx_fmul
  split
  · next k hk => exact sx_keep_ok hb (by rw [Int32.toInt_mul, sx_ev_mul, hi, hj, sx_cn_ok hk r, Int.mul_comm])
  · split
    · next k hk => exact sx_keep_ok hb (by rw [Int32.toInt_mul, sx_ev_mul, hi, hj, sx_cn_ok hk r])
    · split
      · next hc =>
        have a1 := sx_lo_ok (f := x) hb
        have a2 := sx_hi_ok (f := x) hb
        have b1 := sx_lo_ok (f := y) hb
        have b2 := sx_hi_ok (f := y) hb
        have m0 : 0 ≤ i.toInt * j.toInt := Int.mul_nonneg (by omega) (by omega)
        have m1 : i.toInt * j.toInt ≤ sx_hi x B * sx_hi y B := Int.mul_le_mul (by omega) (by omega) (by omega) (by omega)
        have e : (i * j).toInt = i.toInt * j.toInt := by rw [Int32.toInt_mul]; exact sx_bm (by omega) (by omega)
        exact sx_new_ok hb (by omega) (by omega)
      · exact sx_fullA_ok hb _
/-- the quotient of a form by d as a new number -/
def sx_quo (B : List (Int × Int)) (x : List Int) (d : Int) : List (Int × Int) × List (List Int) :=
  ([(sx_lo x B / d, sx_hi x B / d)], [sx_sub x (sx_mul d (sx_sy B.length)), sx_sub [d - 1] (sx_sub x (sx_mul d (sx_sy B.length)))])
theorem sx_quo_ok (hb : sx_b B r) {d z : Int} (hd : 0 < d) (hx : x.length ≤ B.length + 1) (hz : z = sx_ev x r) : sx_b (sx_quo B x d).1 [z / d] ∧ sx_fs (sx_quo B x d).2 (r ++ [z / d]) ∧ sx_ev (sx_sy B.length) (r ++ [z / d]) = z / d ∧ sx_ev x (r ++ [z / d]) = z := by
  have hl := sx_b_len hb
  have e1 : sx_ev (sx_sy B.length) (r ++ [z / d]) = z / d := sx_ev_sy (by rw [hl, List.getElem?_append_right (Nat.le_refl _)]; simp)
  have e2 : sx_ev x (r ++ [z / d]) = z := by rw [sx_ev_app (by omega)]; exact hz.symm
  have m1 := Int.emod_nonneg z (show d ≠ 0 by omega)
  have m2 := Int.emod_lt_of_pos z hd
  have m3 := Int.mul_ediv_add_emod z d
  have a1 := sx_lo_ok (f := x) hb
  have a2 := sx_hi_ok (f := x) hb
  refine ⟨sx_b_one (Int.ediv_le_ediv hd (by omega)) (Int.ediv_le_ediv hd (by omega)), fun f hf => ?_, e1, e2⟩
  simp only [sx_quo, List.mem_cons, List.not_mem_nil, or_false] at hf
  rcases hf with rfl | rfl
  · rw [sx_ev_sub, sx_ev_mul, e1, e2]
    omega
  · rw [sx_ev_sub, sx_ev_sub, sx_ev_mul, e1, e2, sx_ev_c]
    omega
/-- k with 2 ^ k = d -/
def sx_lg (d : Int) : Option Nat := (List.range 31).find? (fun k => decide (((2 ^ k : Nat) : Int) = d))
theorem sx_lg_ok {d : Int} {k : Nat} (h : sx_lg d = some k) : ((2 ^ k : Nat) : Int) = d ∧ k < 31 := by
  have h1 := List.find?_some h
  have h2 := List.mem_of_find?_eq_some h
  exact ⟨of_decide_eq_true h1, List.mem_range.mp h2⟩
theorem sx_and_nat (hi : 0 ≤ i.toInt) (hj : 0 ≤ j.toInt) : (i &&& j).toInt = ((i.toInt.toNat &&& j.toInt.toNat : Nat) : Int) := by
  have e1 := ev_bv_sx (i := i) (by have := ev_sx_eq i; omega)
  have e2 := ev_bv_sx (i := j) (by have := ev_sx_eq j; omega)
  have hb : (i &&& j).toBitVec.toNat = i.toBitVec.toNat &&& j.toBitVec.toNat := by rw [Int32.toBitVec_and, BitVec.toNat_and]
  have l1 : (i.toBitVec.toNat &&& j.toBitVec.toNat) ≤ i.toBitVec.toNat := Nat.and_le_left
  have s1 := ev_sx_eq i
  have s2 := ev_sx_eq j
  have s3 := ev_sx_lt i
  have e3 := ev_sx_bv (i := i &&& j) (by omega)
  have s4 := ev_sx_eq (i &&& j)
  have f1 : i.toBitVec.toNat = i.toInt.toNat := by omega
  have f2 : j.toBitVec.toNat = j.toInt.toNat := by omega
  rw [← f1, ← f2]
  omega
/-- and: of something not below 0 -/
theorem sx_and_le (hj : 0 ≤ j.toInt) : 0 ≤ (i &&& j).toInt ∧ (i &&& j).toInt ≤ j.toInt := by
  have h := ev_fand_in (x := ev_full) (y := (0, ev_sx j, ev_sx j)) (ev_full_in i) (ev_in_eq (i := j) rfl)
  have s2 := ev_sx_eq j
  have s3 := ev_sx_eq (i &&& j)
  unfold ev_fand ev_full at h
  rw [if_neg (by show ¬ (2147483648 ≤ 0 ∧ _); omega), if_pos (by show 2147483648 ≤ ev_sx j; omega)] at h
  obtain ⟨h1, h2⟩ := h
  have h1 : 2147483648 ≤ ev_sx (i &&& j) := h1
  have h2 : ev_sx (i &&& j) ≤ ev_sx j := h2
  omega
theorem sx_and_comm (i j : Int32) : i &&& j = j &&& i := by
  apply Int32.toBitVec_inj.mp
  rw [Int32.toBitVec_and, Int32.toBitVec_and, BitVec.and_comm]
theorem sx_and_mod {k : Nat} (hk : k < 31) (hj : j.toInt = ((2 ^ k : Nat) : Int) - 1) : (i &&& j).toInt = i.toInt % ((2 ^ k : Nat) : Int) := by
  have hp : 2 ^ k ≤ 2 ^ 30 := Nat.pow_le_pow_right (by omega) (by omega)
  have hp0 : 0 < 2 ^ k := Nat.pow_pos (by omega)
  have hb : (i &&& j).toBitVec.toNat = i.toBitVec.toNat &&& j.toBitVec.toNat := by rw [Int32.toBitVec_and, BitVec.toNat_and]
  have s2 := ev_sx_eq j
  have e2 := ev_bv_sx (i := j) (by omega)
  have ej : j.toBitVec.toNat = 2 ^ k - 1 := by omega
  rw [ej, Nat.and_two_pow_sub_one_eq_mod] at hb
  have hlt : i.toBitVec.toNat % 2 ^ k < 2 ^ k := Nat.mod_lt _ hp0
  have e3 := ev_sx_bv (i := i &&& j) (by omega)
  have s4 := ev_sx_eq (i &&& j)
  have e1 : (i &&& j).toInt = ((i.toBitVec.toNat % 2 ^ k : Nat) : Int) := by omega
  have e0 : i.toInt = if 2 * i.toBitVec.toNat < 2 ^ 32 then (i.toBitVec.toNat : Int) else (i.toBitVec.toNat : Int) - (2 ^ 32 : Nat) := by
    show i.toBitVec.toInt = _
    rw [BitVec.toInt_eq_toNat_cond]
  rw [e1, e0, Int.natCast_emod]
  split
  · rfl
  · have hd : ((2 ^ k : Nat) : Int) ∣ ((2 ^ 32 : Nat) : Int) := Int.natCast_dvd_natCast.mpr (Nat.pow_dvd_pow 2 (by omega))
    obtain ⟨q, hq⟩ := hd
    rw [hq]
    exact (Int.sub_mul_emod_self_left _ _ _).symm
theorem sx_bits {i : Int32} (h : 0 ≤ i.toInt) : i.toBitVec.toNat = i.toInt.toNat := by
  have e1 := ev_bv_sx (i := i) (by have := ev_sx_eq i; omega)
  have s1 := ev_sx_eq i
  omega
theorem sx_unbits {i : Int32} {n : Nat} (h : i.toBitVec.toNat = n) (hn : n < 2147483648) : i.toInt = (n : Int) := by
  have e3 := ev_sx_bv (i := i) (by omega)
  have s4 := ev_sx_eq i
  omega
theorem sx_mask (n k : Nat) (hk : k ≤ 32) (hn : n < 2 ^ 32) : n &&& (2 ^ k * (2 ^ (32 - k) - 1)) = 2 ^ k * (n / 2 ^ k) := by
  apply Nat.eq_of_testBit_eq
  intro q
  rw [Nat.testBit_and, Nat.testBit_two_pow_mul, Nat.testBit_two_pow_mul, Nat.testBit_two_pow_sub_one, Nat.testBit_div_two_pow]
  by_cases h1 : q ≥ k
  · have e : k + (q - k) = q := by omega
    have e' : q - k + k = q := by omega
    by_cases h2 : q < 32
    · have h3 : q - k < 32 - k := by omega
      simp [h1, h3, e, e']
    · have h4 : n.testBit q = false := Nat.testBit_lt_two_pow (Nat.lt_of_lt_of_le hn (Nat.pow_le_pow_right (by omega) (by omega)))
      simp [h1, h4, e, e']
  · simp [h1]
theorem sx_and_neg {k : Nat} (hk : k < 31) (hi : 0 ≤ i.toInt) (hj : j.toInt = -((2 ^ k : Nat) : Int)) : (i &&& j).toInt = ((2 ^ k : Nat) : Int) * (i.toInt / ((2 ^ k : Nat) : Int)) := by
  have hp : 2 ^ k ≤ 2 ^ 30 := Nat.pow_le_pow_right (by omega) (by omega)
  have hp0 : 0 < 2 ^ k := Nat.pow_pos (by omega)
  have hb : (i &&& j).toBitVec.toNat = i.toBitVec.toNat &&& j.toBitVec.toNat := by rw [Int32.toBitVec_and, BitVec.toNat_and]
  have e0 : j.toInt = if 2 * j.toBitVec.toNat < 2 ^ 32 then (j.toBitVec.toNat : Int) else (j.toBitVec.toNat : Int) - (2 ^ 32 : Nat) := by
    show j.toBitVec.toInt = _
    rw [BitVec.toInt_eq_toNat_cond]
  have hlt : j.toBitVec.toNat < 2 ^ 32 := j.toBitVec.isLt
  have hm : 2 ^ k * (2 ^ (32 - k) - 1) = 2 ^ 32 - 2 ^ k := by
    rw [Nat.mul_sub, ← Nat.pow_add, Nat.mul_one, show k + (32 - k) = 32 by omega]
  have ej : j.toBitVec.toNat = 2 ^ k * (2 ^ (32 - k) - 1) := by
    rw [hm]
    split at e0 <;> omega
  have ei := sx_bits (i := i) hi
  have i2 := ev_hi i
  rw [ej, sx_mask _ _ (by omega) i.toBitVec.isLt, ei] at hb
  have hd := Nat.mul_div_le i.toInt.toNat (2 ^ k)
  have e4 := sx_unbits hb (by omega)
  rw [e4, Int.natCast_mul, Int.natCast_ediv, Int.toNat_of_nonneg hi]
def sx_fand (B : List (Int × Int)) (x y : List Int) : sx_A := match sx_cn y with
  | some m => if 0 ≤ m then (if 0 ≤ sx_lo x B ∧ x.length ≤ B.length + 1 then (match sx_lg (m + 1) with
    | some _ => if sx_hi x B ≤ m then (x, [], []) else (sx_sub x (sx_mul (m + 1) (sx_sy B.length)), sx_quo B x (m + 1))
    | none => sx_new B 0 m) else (match sx_lg (m + 1) with
      | some _ => if sx_hi x B < 0 ∧ -(m + 1) ≤ sx_lo x B then (sx_add x [m + 1], [], []) else sx_new B 0 m
      | none => sx_new B 0 m)) else (match sx_lg (-m) with
    | some _ => if 0 ≤ sx_lo x B ∧ x.length ≤ B.length + 1 then (sx_mul (-m) (sx_sy B.length), sx_quo B x (-m)) else sx_fullA B
    | none => sx_fullA B)
  | none => if 0 ≤ sx_lo y B then sx_new B 0 (sx_hi y B) else if 0 ≤ sx_lo x B then sx_new B 0 (sx_hi x B) else sx_fullA B
theorem sx_fand_ok (hb : sx_b B r) (hi : i.toInt = sx_ev x r) (hj : j.toInt = sx_ev y r) : sx_aok r (sx_fand B x y) (i &&& j).toInt := by
  have a1 := sx_lo_ok (f := x) hb
  have a2 := sx_hi_ok (f := x) hb
  have b1 := sx_lo_ok (f := y) hb
  have b2 := sx_hi_ok (f := y) hb
  unfold sx_fand
  split
  · next m hm =>
    have em := sx_cn_ok hm r
    split
    · next h0 =>
      have hle := sx_and_le (i := i) (j := j) (by omega)
      split
      · next hx =>
        split
        · next k hk =>
          obtain ⟨p1, p2⟩ := sx_lg_ok hk
          have e0 := sx_and_nat (i := i) (j := j) (by omega) (by omega)
          have ej : j.toInt.toNat = 2 ^ k - 1 := by omega
          rw [ej, Nat.and_two_pow_sub_one_eq_mod] at e0
          have e1 : (i &&& j).toInt = i.toInt % (m + 1) := by
            rw [e0, ← p1, Int.natCast_emod, Int.toNat_of_nonneg (by omega)]
          split
          · exact sx_old_ok (by rw [e1, Int.emod_eq_of_lt (by omega) (by omega)]; exact hi)
          · obtain ⟨q1, q2, q3, q4⟩ := sx_quo_ok hb (d := m + 1) (z := i.toInt) (by omega) hx.2 hi
            refine ⟨[i.toInt / (m + 1)], q1, q2, ?_⟩
            show _ = sx_ev (sx_sub x (sx_mul (m + 1) (sx_sy B.length))) _
            rw [sx_ev_sub, sx_ev_mul, q3, q4, e1]
            have := Int.mul_ediv_add_emod i.toInt (m + 1)
            omega
        · exact sx_new_ok hb (by omega) (by omega)
      · split
        · next k hk =>
          obtain ⟨p1, p2⟩ := sx_lg_ok hk
          split
          · next hn =>
            have e0 := sx_and_mod (i := i) (j := j) p2 (by omega)
            refine sx_old_ok ?_
            rw [sx_ev_add, sx_ev_c, e0, p1, ← hi]
            have hn1 := hn.1
            have hn2 := hn.2
            have q1 : (i.toInt + (m + 1)) % (m + 1) = i.toInt + (m + 1) := Int.emod_eq_of_lt (by omega) (by omega)
            rw [Int.add_emod_right] at q1
            exact q1
          · exact sx_new_ok hb (by omega) (by omega)
        · exact sx_new_ok hb (by omega) (by omega)
    · split
      · next k hk =>
        obtain ⟨p1, p2⟩ := sx_lg_ok hk
        split
        · next hx =>
          have e0 := sx_and_neg (i := i) (j := j) p2 (by omega) (by omega)
          obtain ⟨q1, q2, q3, q4⟩ := sx_quo_ok hb (d := -m) (z := i.toInt) (by omega) hx.2 hi
          refine ⟨[i.toInt / -m], q1, q2, ?_⟩
          show _ = sx_ev (sx_mul (-m) (sx_sy B.length)) _
          rw [sx_ev_mul, q3, e0, p1]
        · exact sx_fullA_ok hb _
      · exact sx_fullA_ok hb _
  · split
    · have hle := sx_and_le (i := i) (j := j) (by omega)
      exact sx_new_ok hb (by omega) (by omega)
    · split
      · have hle := sx_and_le (i := j) (j := i) (by omega)
        rw [sx_and_comm] at hle
        exact sx_new_ok hb (by omega) (by omega)
      · exact sx_fullA_ok hb _
/-- or, xor of numbers from 0 on -/
def sx_cap (n : Int) : Int := match (List.range 31).find? (fun k => decide (n < ((2 ^ k : Nat) : Int))) with
  | some k => ((2 ^ k : Nat) : Int) - 1
  | none => 2147483647
def sx_for (B : List (Int × Int)) (x y : List Int) : sx_A := if 0 ≤ sx_lo x B ∧ 0 ≤ sx_lo y B then sx_new B 0 (sx_cap (max (sx_hi x B) (sx_hi y B))) else sx_fullA B
theorem sx_cap_ok {n : Int} {a b : Nat} (f : Nat → Nat → Nat) (hf : ∀ k a b, a < 2 ^ k → b < 2 ^ k → f a b < 2 ^ k) (ha : (a : Int) ≤ n) (hb : (b : Int) ≤ n) (h1 : a < 2147483648) (h2 : b < 2147483648) : ((f a b : Nat) : Int) ≤ sx_cap n ∧ f a b < 2147483648 := by
  have h31 : f a b < 2 ^ 31 := hf 31 a b (by omega) (by omega)
  refine ⟨?_, by omega⟩
  unfold sx_cap
  split
  · next k hk =>
    have g0 := List.find?_some hk
    have g1 : n < ((2 ^ k : Nat) : Int) := of_decide_eq_true g0
    have g2 := hf k a b (by omega) (by omega)
    omega
  · omega
theorem sx_for_ok (hb : sx_b B r) (hi : i.toInt = sx_ev x r) (hj : j.toInt = sx_ev y r) : sx_aok r (sx_for B x y) (i ||| j).toInt ∧ sx_aok r (sx_for B x y) (i ^^^ j).toInt := by
  have a1 := sx_lo_ok (f := x) hb
  have a2 := sx_hi_ok (f := x) hb
  have b1 := sx_lo_ok (f := y) hb
  have b2 := sx_hi_ok (f := y) hb
  have i2 := ev_hi i
  have j2 := ev_hi j
  unfold sx_for
  split
  · next hc =>
    have e1 := sx_bits (i := i) (by omega)
    have e2 := sx_bits (i := j) (by omega)
    constructor
    · obtain ⟨c1, c2⟩ := sx_cap_ok (n := max (sx_hi x B) (sx_hi y B)) (a := i.toInt.toNat) (b := j.toInt.toNat) (fun a b => a ||| b) (fun k a b h1 h2 => Nat.or_lt_two_pow h1 h2) (by omega) (by omega) (by omega) (by omega)
      have e3 : (i ||| j).toBitVec.toNat = i.toInt.toNat ||| j.toInt.toNat := by rw [Int32.toBitVec_or, BitVec.toNat_or, e1, e2]
      have e4 := sx_unbits e3 c2
      exact sx_new_ok hb (by omega) (by rw [e4]; exact c1)
    · obtain ⟨c1, c2⟩ := sx_cap_ok (n := max (sx_hi x B) (sx_hi y B)) (a := i.toInt.toNat) (b := j.toInt.toNat) (fun a b => a ^^^ b) (fun k a b h1 h2 => Nat.xor_lt_two_pow h1 h2) (by omega) (by omega) (by omega) (by omega)
      have e3 : (i ^^^ j).toBitVec.toNat = i.toInt.toNat ^^^ j.toInt.toNat := by rw [Int32.toBitVec_xor, BitVec.toNat_xor, e1, e2]
      have e4 := sx_unbits e3 c2
      exact sx_new_ok hb (by omega) (by rw [e4]; exact c1)
  · exact ⟨sx_fullA_ok hb _, sx_fullA_ok hb _⟩
/-- or, where no bit stands in both: u is a multiple of 2 ^ k, v is below -/
def sx_dis (B : List (Int × Int)) (u v : List Int) : Bool := decide (0 ≤ sx_lo u B ∧ 0 ≤ sx_lo v B ∧ sx_hi (sx_add u v) B ≤ 2147483647) && (match (List.range 31).find? (fun k => decide (sx_hi v B < ((2 ^ k : Nat) : Int))) with
  | some k => u.all (fun c => decide (c % ((2 ^ k : Nat) : Int) = 0))
  | none => false)
theorem sx_dvd_d {d : Int} : ∀ {f : List Int} (r : List Int), (∀ c ∈ f, c % d = 0) → d ∣ sx_dot f r
  | [], r, _ => by rw [sx_dot_nil]; exact Int.dvd_zero d
  | c :: cs, [], _ => Int.dvd_zero d
  | c :: cs, x :: r, h => by
    simp only [sx_dot]
    exact Int.dvd_add (Int.dvd_trans (Int.dvd_of_emod_eq_zero (h c List.mem_cons_self)) (Int.dvd_mul_right c x)) (sx_dvd_d r (fun c' hc => h c' (List.mem_cons_of_mem _ hc)))
theorem sx_dvd {d : Int} {f : List Int} (r : List Int) (h : ∀ c ∈ f, c % d = 0) : d ∣ sx_ev f r := by
  cases f with
  | nil => exact Int.dvd_zero d
  | cons c cs => exact Int.dvd_add (Int.dvd_of_emod_eq_zero (h c List.mem_cons_self)) (sx_dvd_d r (fun c' hc => h c' (List.mem_cons_of_mem _ hc)))
theorem sx_dis_ok {u v : List Int} (hb : sx_b B r) (hi : i.toInt = sx_ev u r) (hj : j.toInt = sx_ev v r) (h : sx_dis B u v = true) : (i ||| j).toInt = sx_ev (sx_add u v) r := by
  unfold sx_dis at h
  rw [Bool.and_eq_true] at h
  obtain ⟨h0, h1⟩ := h
  have h0 := of_decide_eq_true h0
  have a1 := sx_lo_ok (f := u) hb
  have b1 := sx_lo_ok (f := v) hb
  have b2 := sx_hi_ok (f := v) hb
  have c2 := sx_hi_ok (f := sx_add u v) hb
  rw [sx_ev_add] at c2 ⊢
  split at h1
  · next k hk =>
    have g0 := List.find?_some hk
    have g1 : sx_hi v B < ((2 ^ k : Nat) : Int) := of_decide_eq_true g0
    obtain ⟨q, hq⟩ := sx_dvd (d := ((2 ^ k : Nat) : Int)) r (fun c hc => of_decide_eq_true (List.all_eq_true.mp h1 c hc))
    have hp0 : 0 < 2 ^ k := Nat.pow_pos (by omega)
    have hq0 : 0 ≤ q := by
      rcases Int.lt_or_le q 0 with e | e
      · have := Int.mul_neg_of_pos_of_neg (show (0 : Int) < ((2 ^ k : Nat) : Int) by omega) e
        omega
      · exact e
    have e1 := sx_bits (i := i) (by omega)
    have e2 := sx_bits (i := j) (by omega)
    have f1 : i.toInt.toNat = 2 ^ k * q.toNat := by
      have : ((2 ^ k * q.toNat : Nat) : Int) = ((2 ^ k : Nat) : Int) * q := by rw [Int.natCast_mul, Int.toNat_of_nonneg hq0]
      omega
    have f2 : j.toInt.toNat < 2 ^ k := by omega
    have e3 : (i ||| j).toBitVec.toNat = i.toInt.toNat + j.toInt.toNat := by
      rw [Int32.toBitVec_or, BitVec.toNat_or, e1, e2, f1, ← Nat.two_pow_add_eq_or_of_lt f2]
    have e4 := sx_unbits e3 (by omega)
    rw [e4]
    omega
  · cases h1
theorem sx_or_comm (i j : Int32) : i ||| j = j ||| i := by
  apply Int32.toBitVec_inj.mp
  rw [Int32.toBitVec_or, Int32.toBitVec_or, BitVec.or_comm]
def sx_fio (B : List (Int × Int)) (x y : List Int) : sx_A := if sx_dis B x y then (sx_add x y, [], []) else if sx_dis B y x then (sx_add y x, [], []) else sx_for B x y
theorem sx_fio_ok (hb : sx_b B r) (hi : i.toInt = sx_ev x r) (hj : j.toInt = sx_ev y r) : sx_aok r (sx_fio B x y) (i ||| j).toInt := by
  unfold sx_fio
  split
  · next h => exact sx_old_ok (sx_dis_ok hb hi hj h)
  · split
    · next h => exact sx_old_ok (by rw [sx_or_comm]; exact sx_dis_ok hb hj hi h)
    · exact (sx_for_ok hb hi hj).1
/-- quotient and rest of numbers from 0 on by a number -/
def sx_fdiv (B : List (Int × Int)) (x y : List Int) : sx_A := match sx_cn y with
  | some d => if 0 < d ∧ 0 ≤ sx_lo x B ∧ x.length ≤ B.length + 1 then (sx_sy B.length, sx_quo B x d) else sx_fullA B
  | none => sx_fullA B
theorem sx_div {i j : Int32} (hi : 0 ≤ i.toInt) (hj : 0 < j.toInt) : (i / j).toInt = i.toInt / j.toInt := by
  have e := ev_div_nat (i := i) (j := j) (a := i.toInt.toNat) (b := j.toInt.toNat) (by omega) (by omega)
  rw [e, Int.natCast_ediv, Int.toNat_of_nonneg hi, Int.toNat_of_nonneg (by omega)]
theorem sx_fdiv_ok (hb : sx_b B r) (hi : i.toInt = sx_ev x r) (hj : j.toInt = sx_ev y r) : sx_aok r (sx_fdiv B x y) (i / j).toInt := by
  have a1 := sx_lo_ok (f := x) hb
  unfold sx_fdiv
  split
  · next d hd =>
    have ed := sx_cn_ok hd r
    split
    · next hc =>
      obtain ⟨q1, q2, q3, q4⟩ := sx_quo_ok hb (d := d) (z := i.toInt) (by omega) hc.2.2 hi
      refine ⟨[i.toInt / d], q1, q2, ?_⟩
      show _ = sx_ev (sx_sy B.length) _
      rw [q3, sx_div (by omega) (by omega), hj, ed]
    · exact sx_fullA_ok hb _
  · exact sx_fullA_ok hb _
def sx_frem (B : List (Int × Int)) (x y : List Int) : sx_A := match sx_cn y with
  | some d => if 0 < d ∧ 0 ≤ sx_lo x B ∧ x.length ≤ B.length + 1 then (sx_sub x (sx_mul d (sx_sy B.length)), sx_quo B x d) else sx_fullA B
  | none => sx_fullA B
theorem sx_rem {i j : Int32} (hi : 0 ≤ i.toInt) (hj : 0 < j.toInt) : (i - i / j * j).toInt = i.toInt - j.toInt * (i.toInt / j.toInt) := by
  have e := sx_div hi hj
  have i2 := ev_hi i
  have m1 := Int.emod_nonneg i.toInt (show j.toInt ≠ 0 by omega)
  have m3 := Int.mul_ediv_add_emod i.toInt j.toInt
  have m4 : 0 ≤ i.toInt / j.toInt := Int.ediv_nonneg hi (by omega)
  have m5 : 0 ≤ j.toInt * (i.toInt / j.toInt) := Int.mul_nonneg (by omega) m4
  have e2 : (i / j * j).toInt = j.toInt * (i.toInt / j.toInt) := by
    rw [Int32.toInt_mul, e, Int.mul_comm (i.toInt / j.toInt)]
    exact sx_bm (by omega) (by omega)
  rw [Int32.toInt_sub, e2]
  exact sx_bm (by omega) (by omega)
theorem sx_frem_ok (hb : sx_b B r) (hi : i.toInt = sx_ev x r) (hj : j.toInt = sx_ev y r) : sx_aok r (sx_frem B x y) (i - i / j * j).toInt := by
  have a1 := sx_lo_ok (f := x) hb
  unfold sx_frem
  split
  · next d hd =>
    have ed := sx_cn_ok hd r
    split
    · next hc =>
      obtain ⟨q1, q2, q3, q4⟩ := sx_quo_ok hb (d := d) (z := i.toInt) (by omega) hc.2.2 hi
      refine ⟨[i.toInt / d], q1, q2, ?_⟩
      show _ = sx_ev (sx_sub x (sx_mul d (sx_sy B.length))) _
      rw [sx_ev_sub, sx_ev_mul, q3, q4, sx_rem (by omega) (by omega), hj, ed]
    · exact sx_fullA_ok hb _
  · exact sx_fullA_ok hb _
end SXA
