/-! Numbers of the small machine: an int is told by bounds, both moved up by 2 to the 31 -/
def ev_sx (i : Int32) : Nat := (i.toInt + 2147483648).toNat
theorem ev_lo (i : Int32) : -2147483648 ≤ i.toInt := by
  have h := Int32.le_toInt i
  omega
theorem ev_hi (i : Int32) : i.toInt < 2147483648 := by
  have h := Int32.toInt_lt i
  omega
theorem ev_sx_eq (i : Int32) : (ev_sx i : Int) = i.toInt + 2147483648 := by
  have := ev_lo i
  unfold ev_sx
  omega
theorem ev_sx_lt (i : Int32) : ev_sx i < 4294967296 := by
  have h1 := ev_sx_eq i
  have h2 := ev_hi i
  omega
theorem ev_sx_inj {i j : Int32} (h : ev_sx i = ev_sx j) : i = j := by
  apply Int32.toInt_inj.mp
  have h1 := ev_sx_eq i
  have h2 := ev_sx_eq j
  omega
theorem ev_sx_nI {n : Nat} (h : n < 2147483648) : ev_sx (nI n) = n + 2147483648 := by
  have h1 := ev_sx_eq (nI n)
  have h2 := nI_toInt (n := n) (by omega)
  omega
theorem ev_bm {z : Int} (h1 : -2147483648 ≤ z) (h2 : z < 2147483648) : z.bmod 4294967296 = z := by
  simp only [Int.bmod]
  split <;> omega
theorem ev_add {i j : Int32} (h1 : 2147483648 ≤ ev_sx i + ev_sx j) (h2 : ev_sx i + ev_sx j < 6442450944) : ev_sx (i + j) = ev_sx i + ev_sx j - 2147483648 := by
  have a1 := ev_sx_eq i
  have a2 := ev_sx_eq j
  have a3 := ev_sx_eq (i + j)
  have a4 : (i + j).toInt = i.toInt + j.toInt := by
    rw [Int32.toInt_add]
    exact ev_bm (by omega) (by omega)
  omega
theorem ev_sub {i j : Int32} (h1 : ev_sx j ≤ ev_sx i + 2147483648) (h2 : ev_sx i < ev_sx j + 2147483648) : ev_sx (i - j) = ev_sx i + 2147483648 - ev_sx j := by
  have a1 := ev_sx_eq i
  have a2 := ev_sx_eq j
  have a3 := ev_sx_eq (i - j)
  have a4 : (i - j).toInt = i.toInt - j.toInt := by
    rw [Int32.toInt_sub]
    exact ev_bm (by omega) (by omega)
  omega
