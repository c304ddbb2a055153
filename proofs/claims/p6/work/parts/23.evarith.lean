/-! What the small machine reckons with bounds -/
def ev_full : ev_V := (0, 0, 4294967295)
theorem ev_full_in (i : Int32) : ev_in ev_full i := ⟨Nat.zero_le _, by have h := ev_sx_lt i; show ev_sx i ≤ 4294967295; omega⟩
theorem ev_sx_bv {i : Int32} (h : i.toBitVec.toNat < 2147483648) : ev_sx i = i.toBitVec.toNat + 2147483648 := by
  have h1 := ev_sx_eq i
  have h2 : i.toInt = (i.toBitVec.toNat : Int) := by
    show i.toBitVec.toInt = _
    rw [BitVec.toInt_eq_toNat_cond, if_pos (by omega)]
  omega
theorem ev_bv_sx {i : Int32} (h : 2147483648 ≤ ev_sx i) : i.toBitVec.toNat = ev_sx i - 2147483648 := by
  have h1 := ev_sx_eq i
  have h2 : i.toInt = if 2 * i.toBitVec.toNat < 2 ^ 32 then (i.toBitVec.toNat : Int) else (i.toBitVec.toNat : Int) - (2 ^ 32 : Nat) := by
    show i.toBitVec.toInt = _
    rw [BitVec.toInt_eq_toNat_cond]
  have h3 : i.toBitVec.toNat < 2 ^ 32 := i.toBitVec.isLt
  split at h2 <;> omega
def ev_fadd (x y : ev_V) : ev_V := if 2147483648 ≤ x.2.1 + y.2.1 ∧ x.2.2 + y.2.2 < 6442450944 then (0, x.2.1 + y.2.1 - 2147483648, x.2.2 + y.2.2 - 2147483648) else ev_full
theorem ev_fadd_in {x y : ev_V} {i j : Int32} (hi : ev_in x i) (hj : ev_in y j) : ev_in (ev_fadd x y) (i + j) := by
  unfold ev_fadd
  split
  · next h =>
    obtain ⟨a1, a2⟩ := hi
    obtain ⟨b1, b2⟩ := hj
    have h3 := ev_add (i := i) (j := j) (by omega) (by omega)
    show _ ≤ _ ∧ _ ≤ _
    dsimp only
    omega
  · exact ev_full_in _
def ev_fsub (x y : ev_V) : ev_V := if y.2.2 ≤ x.2.1 + 2147483648 ∧ x.2.2 < y.2.1 + 2147483648 then (0, x.2.1 + 2147483648 - y.2.2, x.2.2 + 2147483648 - y.2.1) else ev_full
theorem ev_fsub_in {x y : ev_V} {i j : Int32} (hi : ev_in x i) (hj : ev_in y j) : ev_in (ev_fsub x y) (i - j) := by
  unfold ev_fsub
  split
  · next h =>
    obtain ⟨a1, a2⟩ := hi
    obtain ⟨b1, b2⟩ := hj
    have h3 := ev_sub (i := i) (j := j) (by omega) (by omega)
    show _ ≤ _ ∧ _ ≤ _
    dsimp only
    omega
  · exact ev_full_in _
def ev_fmul (x y : ev_V) : ev_V := if 2147483648 ≤ x.2.1 ∧ 2147483648 ≤ y.2.1 ∧ (x.2.2 - 2147483648) * (y.2.2 - 2147483648) < 2147483648 then (0, (x.2.1 - 2147483648) * (y.2.1 - 2147483648) + 2147483648, (x.2.2 - 2147483648) * (y.2.2 - 2147483648) + 2147483648) else ev_full
theorem ev_fmul_in {x y : ev_V} {i j : Int32} (hi : ev_in x i) (hj : ev_in y j) : ev_in (ev_fmul x y) (i * j) := by
  unfold ev_fmul
  split
  · next h =>
    obtain ⟨a1, a2⟩ := hi
    obtain ⟨b1, b2⟩ := hj
    obtain ⟨h1, h2, h3⟩ := h
    have c1 := ev_sx_eq i
    have c2 := ev_sx_eq j
    have c3 := ev_sx_eq (i * j)
    obtain ⟨m, hm⟩ : ∃ m : Nat, m = ev_sx i - 2147483648 := ⟨_, rfl⟩
    obtain ⟨n, hn⟩ : ∃ n : Nat, n = ev_sx j - 2147483648 := ⟨_, rfl⟩
    have hl : (x.2.1 - 2147483648) * (y.2.1 - 2147483648) ≤ m * n := Nat.mul_le_mul (by omega) (by omega)
    have hu : m * n ≤ (x.2.2 - 2147483648) * (y.2.2 - 2147483648) := Nat.mul_le_mul (by omega) (by omega)
    have hp : i.toInt * j.toInt = ((m * n : Nat) : Int) := by
      rw [Int.natCast_mul, show i.toInt = (m : Int) by omega, show j.toInt = (n : Int) by omega]
    have c4 : (i * j).toInt = ((m * n : Nat) : Int) := by
      rw [Int32.toInt_mul, hp]
      exact ev_bm (by omega) (by omega)
    show _ ≤ _ ∧ _ ≤ _
    dsimp only
    omega
  · exact ev_full_in _
def ev_fand (x y : ev_V) : ev_V :=
  if 2147483648 ≤ x.2.1 ∧ x.2.1 = x.2.2 ∧ 2147483648 ≤ y.2.1 ∧ y.2.1 = y.2.2 then (0, (x.2.1 - 2147483648 &&& y.2.1 - 2147483648) + 2147483648, (x.2.1 - 2147483648 &&& y.2.1 - 2147483648) + 2147483648)
  else if 2147483648 ≤ y.2.1 then (0, 2147483648, y.2.2) else if 2147483648 ≤ x.2.1 then (0, 2147483648, x.2.2) else ev_full
theorem ev_fand_in {x y : ev_V} {i j : Int32} (hi : ev_in x i) (hj : ev_in y j) : ev_in (ev_fand x y) (i &&& j) := by
  have hb : (i &&& j).toBitVec.toNat = i.toBitVec.toNat &&& j.toBitVec.toNat := by rw [Int32.toBitVec_and, BitVec.toNat_and]
  have l1 : (i.toBitVec.toNat &&& j.toBitVec.toNat) ≤ i.toBitVec.toNat := Nat.and_le_left
  have l2 : (i.toBitVec.toNat &&& j.toBitVec.toNat) ≤ j.toBitVec.toNat := Nat.and_le_right
  obtain ⟨a1, a2⟩ := hi
  obtain ⟨b1, b2⟩ := hj
  have z1 := ev_sx_lt i
  have z2 := ev_sx_lt j
  unfold ev_fand
  split
  · next h =>
    have e1 := ev_bv_sx (i := i) (by omega)
    have e2 := ev_bv_sx (i := j) (by omega)
    have e3 := ev_sx_bv (i := i &&& j) (by omega)
    have f1 : ev_sx i = x.2.1 := by omega
    have f2 : ev_sx j = y.2.1 := by omega
    rw [hb, e1, e2, f1, f2] at e3
    show _ ≤ _ ∧ _ ≤ _
    dsimp only
    omega
  · split
    · have e2 := ev_bv_sx (i := j) (by omega)
      have e3 := ev_sx_bv (i := i &&& j) (by omega)
      show _ ≤ _ ∧ _ ≤ _
      dsimp only
      omega
    · split
      · have e2 := ev_bv_sx (i := i) (by omega)
        have e3 := ev_sx_bv (i := i &&& j) (by omega)
        show _ ≤ _ ∧ _ ≤ _
        dsimp only
        omega
      · exact ev_full_in _
/-- bounds that hold both -/
def ev_hull (x y : ev_V) : ev_V := (0, min x.2.1 y.2.1, max x.2.2 y.2.2)
theorem ev_hull_l {x y : ev_V} {i : Int32} (h : ev_in x i) : ev_in (ev_hull x y) i := ⟨Nat.le_trans (Nat.min_le_left _ _) h.1, Nat.le_trans h.2 (Nat.le_max_left _ _)⟩
theorem ev_hull_r {x y : ev_V} {i : Int32} (h : ev_in y i) : ev_in (ev_hull x y) i := ⟨Nat.le_trans (Nat.min_le_right _ _) h.1, Nat.le_trans h.2 (Nat.le_max_right _ _)⟩
/-- a place in an array of n -/
theorem ev_in_at {v : ev_V} {i : Int32} {n : Nat} (h : ev_in v i) (h1 : 2147483648 ≤ v.2.1) (h2 : v.2.2 < 2147483648 + n) : vp_in i n := by
  apply vp_in_iff.mpr
  have h3 := ev_sx_eq i
  obtain ⟨a, b⟩ := h
  omega
/-- a known number from 0 on -/
theorem ev_in_nI {n : Nat} {i : Int32} (h : ev_in (0, n + 2147483648, n + 2147483648) i) (hn : n < 2147483648) : i = nI n := by
  apply ev_sx_inj
  rw [ev_sx_nI hn]
  obtain ⟨a, b⟩ := h
  dsimp only at a b
  omega
