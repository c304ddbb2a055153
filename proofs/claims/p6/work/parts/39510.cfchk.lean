/-! The instructions of the constructors, looked at by bytes. Written by a program (wip/start/gen42f.py). -/
def cf_k1 (Gc : List (List Cond)) (Ct : List ev_Ct) (kt : List FieldType) (Pg : List ev_Mt) (sm : ev_Sm) (bs : List (List Nat)) (own nm : String) (cc : ByteArray) (nL : Nat) (ret : Option FieldType) (cd : ev_Cd) (ix : Nat) (i : ev_I) : Bool := (sy_i1 bs (ev_pc cd ix) (i.2.2.1 + 3 - 2147483648) && (Nat.ble 2147483647 i.2.2.1 && Nat.ble i.2.2.1 2147483653)) && decide (ev_pc cd (ix + 1) = ev_pc cd ix + 1) && decide (ev_sx (Int32.ofInt (((i.2.2.1 : Nat) : Int) - 2147483648)) = i.2.2.1)
theorem cf_l1 {Gc : List (List Cond)} {Ct : List ev_Ct} {kt : List FieldType} {Pg : List ev_Mt} {sm : ev_Sm} {bs : List (List Nat)} {own nm : String} {cc : ByteArray} {nL : Nat} {ret : Option FieldType} {cd : ev_Cd} {ix : Nat} {i : ev_I} (hb : sy_By cc bs) (h : cf_k1 Gc Ct kt Pg sm bs own nm cc nL ret cd ix i = true) : ev_k1 Gc Ct kt Pg sm own nm cc nL ret cd ix i = true := by
  unfold cf_k1 at h
  have hD : (sy_i1 bs (ev_pc cd ix) (i.2.2.1 + 3 - 2147483648) && (Nat.ble 2147483647 i.2.2.1 && Nat.ble i.2.2.1 2147483653)) = true → decode cc (ev_pc cd ix) = .ok (.iconst (((i.2.2.1 : Nat) : Int) - 2147483648), 1) := fun q => by
    simp only [Bool.and_eq_true] at q
    have q2 : 2147483647 ≤ i.2.2.1 := Nat.le_of_ble_eq_true q.2.1
    have q3 : i.2.2.1 ≤ 2147483653 := Nat.le_of_ble_eq_true q.2.2
    have q1 := sy_i1_r hb q.1
    have h6 : i.2.2.1 = 2147483647 ∨ i.2.2.1 = 2147483648 ∨ i.2.2.1 = 2147483649 ∨ i.2.2.1 = 2147483650 ∨ i.2.2.1 = 2147483651 ∨ i.2.2.1 = 2147483652 ∨ i.2.2.1 = 2147483653 := by omega
    rcases h6 with h6 | h6 | h6 | h6 | h6 | h6 | h6 <;> rw [h6] at q1 ⊢
    · exact sy_d2 q1
    · exact sy_d3 q1
    · exact sy_d4 q1
    · exact sy_d5 q1
    · exact sy_d6 q1
    · exact sy_d7 q1
    · exact sy_d8 q1
  cases hC : (sy_i1 bs (ev_pc cd ix) (i.2.2.1 + 3 - 2147483648) && (Nat.ble 2147483647 i.2.2.1 && Nat.ble i.2.2.1 2147483653)) with
  | false =>
    rw [hC] at h
    exact absurd h (by simp)
  | true =>
    have hd := hD hC
    unfold ev_k1
    have e : ev_dn cc (ev_pc cd ix) = ((i.2.2.1 : Nat) : Int) - 2147483648 := by
      unfold ev_dn
      rw [hd]
    rw [e]
    rw [decide_eq_true hd]
    rw [hC] at h
    exact h
def cf_k2 (Gc : List (List Cond)) (Ct : List ev_Ct) (kt : List FieldType) (Pg : List ev_Mt) (sm : ev_Sm) (bs : List (List Nat)) (own nm : String) (cc : ByteArray) (nL : Nat) (ret : Option FieldType) (cd : ev_Cd) (ix : Nat) (i : ev_I) : Bool := (sy_i1 bs (ev_pc cd ix) 16 && sy_i1 bs ((ev_pc cd ix) + 1) (i.2.2.1 % 256)) && decide (ev_pc cd (ix + 1) = ev_pc cd ix + 2) && decide (ev_sx (Int8.ofInt (Reader.signed 8 (i.2.2.1 % 256))).toInt32 = i.2.2.1)
theorem cf_l2 {Gc : List (List Cond)} {Ct : List ev_Ct} {kt : List FieldType} {Pg : List ev_Mt} {sm : ev_Sm} {bs : List (List Nat)} {own nm : String} {cc : ByteArray} {nL : Nat} {ret : Option FieldType} {cd : ev_Cd} {ix : Nat} {i : ev_I} (hb : sy_By cc bs) (h : cf_k2 Gc Ct kt Pg sm bs own nm cc nL ret cd ix i = true) : ev_k2 Gc Ct kt Pg sm own nm cc nL ret cd ix i = true := by
  unfold cf_k2 at h
  have hD : (sy_i1 bs (ev_pc cd ix) 16 && sy_i1 bs ((ev_pc cd ix) + 1) (i.2.2.1 % 256)) = true → decode cc (ev_pc cd ix) = .ok (.bipush (Reader.signed 8 (i.2.2.1 % 256)), 2) := fun q => sy_d16 (sy_i1_r hb ((Bool.and_eq_true _ _).mp q).1) (sy_s1 (sy_i1_r hb ((Bool.and_eq_true _ _).mp q).2))
  cases hC : (sy_i1 bs (ev_pc cd ix) 16 && sy_i1 bs ((ev_pc cd ix) + 1) (i.2.2.1 % 256)) with
  | false =>
    rw [hC] at h
    exact absurd h (by simp)
  | true =>
    have hd := hD hC
    unfold ev_k2
    have e : ev_dn cc (ev_pc cd ix) = Reader.signed 8 (i.2.2.1 % 256) := by
      unfold ev_dn
      rw [hd]
    rw [e]
    rw [decide_eq_true hd]
    rw [hC] at h
    exact h
def cf_k3 (Gc : List (List Cond)) (Ct : List ev_Ct) (kt : List FieldType) (Pg : List ev_Mt) (sm : ev_Sm) (bs : List (List Nat)) (own nm : String) (cc : ByteArray) (nL : Nat) (ret : Option FieldType) (cd : ev_Cd) (ix : Nat) (i : ev_I) : Bool := sy_b3 bs (ev_pc cd ix) 17 (i.2.2.1 % 65536) && decide (ev_pc cd (ix + 1) = ev_pc cd ix + 3) && decide (ev_sx (Int16.ofInt (Reader.signed 16 (i.2.2.1 % 65536))).toInt32 = i.2.2.1)
theorem cf_l3 {Gc : List (List Cond)} {Ct : List ev_Ct} {kt : List FieldType} {Pg : List ev_Mt} {sm : ev_Sm} {bs : List (List Nat)} {own nm : String} {cc : ByteArray} {nL : Nat} {ret : Option FieldType} {cd : ev_Cd} {ix : Nat} {i : ev_I} (hb : sy_By cc bs) (h : cf_k3 Gc Ct kt Pg sm bs own nm cc nL ret cd ix i = true) : ev_k3 Gc Ct kt Pg sm own nm cc nL ret cd ix i = true := by
  unfold cf_k3 at h
  have hD : sy_b3 bs (ev_pc cd ix) 17 (i.2.2.1 % 65536) = true → decode cc (ev_pc cd ix) = .ok (.sipush (Reader.signed 16 (i.2.2.1 % 65536)), 3) := fun q => sy_d17 (sy_b3_r hb q).1 (sy_s2 (sy_b3_r hb q).2)
  cases hC : sy_b3 bs (ev_pc cd ix) 17 (i.2.2.1 % 65536) with
  | false =>
    rw [hC] at h
    exact absurd h (by simp)
  | true =>
    have hd := hD hC
    unfold ev_k3
    have e : ev_dn cc (ev_pc cd ix) = Reader.signed 16 (i.2.2.1 % 65536) := by
      unfold ev_dn
      rw [hd]
    rw [e]
    rw [decide_eq_true hd]
    rw [hC] at h
    exact h
def cf_k4 (Gc : List (List Cond)) (Ct : List ev_Ct) (kt : List FieldType) (Pg : List ev_Mt) (sm : ev_Sm) (bs : List (List Nat)) (own nm : String) (cc : ByteArray) (nL : Nat) (ret : Option FieldType) (cd : ev_Cd) (ix : Nat) (i : ev_I) : Bool := (sy_i1 bs (ev_pc cd ix) 18 && sy_i1 bs ((ev_pc cd ix) + 1) i.2.2.2.2.1) && decide (ev_pc cd (ix + 1) = ev_pc cd ix + 2) && decide (ev_hg Gc (i.2.2.2.2.2.2) = some (Cond.constant own i.2.2.2.2.1 (ev_un i.2.2.1))) && decide (ev_sx (ev_un i.2.2.1) = i.2.2.1)
theorem cf_l4 {Gc : List (List Cond)} {Ct : List ev_Ct} {kt : List FieldType} {Pg : List ev_Mt} {sm : ev_Sm} {bs : List (List Nat)} {own nm : String} {cc : ByteArray} {nL : Nat} {ret : Option FieldType} {cd : ev_Cd} {ix : Nat} {i : ev_I} (hb : sy_By cc bs) (h : cf_k4 Gc Ct kt Pg sm bs own nm cc nL ret cd ix i = true) : ev_k4 Gc Ct kt Pg sm own nm cc nL ret cd ix i = true := by
  unfold cf_k4 at h
  have hD : (sy_i1 bs (ev_pc cd ix) 18 && sy_i1 bs ((ev_pc cd ix) + 1) i.2.2.2.2.1) = true → decode cc (ev_pc cd ix) = .ok (.ldc i.2.2.2.2.1, 2) := fun q => sy_d18 (sy_i1_r hb ((Bool.and_eq_true _ _).mp q).1) (sy_i1_r hb ((Bool.and_eq_true _ _).mp q).2)
  cases hC : (sy_i1 bs (ev_pc cd ix) 18 && sy_i1 bs ((ev_pc cd ix) + 1) i.2.2.2.2.1) with
  | false =>
    rw [hC] at h
    exact absurd h (by simp)
  | true =>
    have hd := hD hC
    unfold ev_k4
    rw [decide_eq_true hd]
    rw [hC] at h
    exact h
def cf_k5 (Gc : List (List Cond)) (Ct : List ev_Ct) (kt : List FieldType) (Pg : List ev_Mt) (sm : ev_Sm) (bs : List (List Nat)) (own nm : String) (cc : ByteArray) (nL : Nat) (ret : Option FieldType) (cd : ev_Cd) (ix : Nat) (i : ev_I) : Bool := sy_b3 bs (ev_pc cd ix) 19 i.2.2.2.2.1 && decide (ev_pc cd (ix + 1) = ev_pc cd ix + 3) && decide (ev_hg Gc (i.2.2.2.2.2.2) = some (Cond.constant own i.2.2.2.2.1 (ev_un i.2.2.1))) && decide (ev_sx (ev_un i.2.2.1) = i.2.2.1)
theorem cf_l5 {Gc : List (List Cond)} {Ct : List ev_Ct} {kt : List FieldType} {Pg : List ev_Mt} {sm : ev_Sm} {bs : List (List Nat)} {own nm : String} {cc : ByteArray} {nL : Nat} {ret : Option FieldType} {cd : ev_Cd} {ix : Nat} {i : ev_I} (hb : sy_By cc bs) (h : cf_k5 Gc Ct kt Pg sm bs own nm cc nL ret cd ix i = true) : ev_k5 Gc Ct kt Pg sm own nm cc nL ret cd ix i = true := by
  unfold cf_k5 at h
  have hD : sy_b3 bs (ev_pc cd ix) 19 i.2.2.2.2.1 = true → decode cc (ev_pc cd ix) = .ok (.ldc_w i.2.2.2.2.1, 3) := fun q => sy_d19 (sy_b3_r hb q).1 (sy_b3_r hb q).2
  cases hC : sy_b3 bs (ev_pc cd ix) 19 i.2.2.2.2.1 with
  | false =>
    rw [hC] at h
    exact absurd h (by simp)
  | true =>
    have hd := hD hC
    unfold ev_k5
    rw [decide_eq_true hd]
    rw [hC] at h
    exact h
def cf_k6 (Gc : List (List Cond)) (Ct : List ev_Ct) (kt : List FieldType) (Pg : List ev_Mt) (sm : ev_Sm) (bs : List (List Nat)) (own nm : String) (cc : ByteArray) (nL : Nat) (ret : Option FieldType) (cd : ev_Cd) (ix : Nat) (i : ev_I) : Bool := (sy_i1 bs (ev_pc cd ix) (26 + i.2.2.1) && Nat.ble i.2.2.1 3) && decide (ev_pc cd (ix + 1) = ev_pc cd ix + 1) && decide (i.2.2.1 < 4)
theorem cf_l6 {Gc : List (List Cond)} {Ct : List ev_Ct} {kt : List FieldType} {Pg : List ev_Mt} {sm : ev_Sm} {bs : List (List Nat)} {own nm : String} {cc : ByteArray} {nL : Nat} {ret : Option FieldType} {cd : ev_Cd} {ix : Nat} {i : ev_I} (hb : sy_By cc bs) (h : cf_k6 Gc Ct kt Pg sm bs own nm cc nL ret cd ix i = true) : ev_k6 Gc Ct kt Pg sm own nm cc nL ret cd ix i = true := by
  unfold cf_k6 at h
  have hD : (sy_i1 bs (ev_pc cd ix) (26 + i.2.2.1) && Nat.ble i.2.2.1 3) = true → decode cc (ev_pc cd ix) = .ok (.iload_n (Fin.ofNat 4 i.2.2.1), 1) := fun q => by
    rw [Bool.and_eq_true] at q
    have q2 : i.2.2.1 ≤ 3 := Nat.le_of_ble_eq_true q.2
    have q1 := sy_i1_r hb q.1
    have h6 : i.2.2.1 = 0 ∨ i.2.2.1 = 1 ∨ i.2.2.1 = 2 ∨ i.2.2.1 = 3 := by omega
    rcases h6 with h6 | h6 | h6 | h6 <;> rw [h6] at q1 ⊢
    · exact sy_d26 q1
    · exact sy_d27 q1
    · exact sy_d28 q1
    · exact sy_d29 q1
  cases hC : (sy_i1 bs (ev_pc cd ix) (26 + i.2.2.1) && Nat.ble i.2.2.1 3) with
  | false =>
    rw [hC] at h
    exact absurd h (by simp)
  | true =>
    have hd := hD hC
    unfold ev_k6
    rw [decide_eq_true hd]
    rw [hC] at h
    exact h
def cf_k7 (Gc : List (List Cond)) (Ct : List ev_Ct) (kt : List FieldType) (Pg : List ev_Mt) (sm : ev_Sm) (bs : List (List Nat)) (own nm : String) (cc : ByteArray) (nL : Nat) (ret : Option FieldType) (cd : ev_Cd) (ix : Nat) (i : ev_I) : Bool := (sy_i1 bs (ev_pc cd ix) 21 && sy_i1 bs ((ev_pc cd ix) + 1) i.2.2.1) && decide (ev_pc cd (ix + 1) = ev_pc cd ix + 2)
theorem cf_l7 {Gc : List (List Cond)} {Ct : List ev_Ct} {kt : List FieldType} {Pg : List ev_Mt} {sm : ev_Sm} {bs : List (List Nat)} {own nm : String} {cc : ByteArray} {nL : Nat} {ret : Option FieldType} {cd : ev_Cd} {ix : Nat} {i : ev_I} (hb : sy_By cc bs) (h : cf_k7 Gc Ct kt Pg sm bs own nm cc nL ret cd ix i = true) : ev_k7 Gc Ct kt Pg sm own nm cc nL ret cd ix i = true := by
  unfold cf_k7 at h
  have hD : (sy_i1 bs (ev_pc cd ix) 21 && sy_i1 bs ((ev_pc cd ix) + 1) i.2.2.1) = true → decode cc (ev_pc cd ix) = .ok (.iload i.2.2.1, 2) := fun q => sy_d21 (sy_i1_r hb ((Bool.and_eq_true _ _).mp q).1) (sy_i1_r hb ((Bool.and_eq_true _ _).mp q).2)
  cases hC : (sy_i1 bs (ev_pc cd ix) 21 && sy_i1 bs ((ev_pc cd ix) + 1) i.2.2.1) with
  | false =>
    rw [hC] at h
    exact absurd h (by simp)
  | true =>
    have hd := hD hC
    unfold ev_k7
    rw [decide_eq_true hd]
    rw [hC] at h
    exact h
def cf_k8 (Gc : List (List Cond)) (Ct : List ev_Ct) (kt : List FieldType) (Pg : List ev_Mt) (sm : ev_Sm) (bs : List (List Nat)) (own nm : String) (cc : ByteArray) (nL : Nat) (ret : Option FieldType) (cd : ev_Cd) (ix : Nat) (i : ev_I) : Bool := (sy_i1 bs (ev_pc cd ix) (42 + i.2.2.1) && Nat.ble i.2.2.1 3) && decide (ev_pc cd (ix + 1) = ev_pc cd ix + 1) && decide (i.2.2.1 < 4)
theorem cf_l8 {Gc : List (List Cond)} {Ct : List ev_Ct} {kt : List FieldType} {Pg : List ev_Mt} {sm : ev_Sm} {bs : List (List Nat)} {own nm : String} {cc : ByteArray} {nL : Nat} {ret : Option FieldType} {cd : ev_Cd} {ix : Nat} {i : ev_I} (hb : sy_By cc bs) (h : cf_k8 Gc Ct kt Pg sm bs own nm cc nL ret cd ix i = true) : ev_k8 Gc Ct kt Pg sm own nm cc nL ret cd ix i = true := by
  unfold cf_k8 at h
  have hD : (sy_i1 bs (ev_pc cd ix) (42 + i.2.2.1) && Nat.ble i.2.2.1 3) = true → decode cc (ev_pc cd ix) = .ok (.aload_n (Fin.ofNat 4 i.2.2.1), 1) := fun q => by
    rw [Bool.and_eq_true] at q
    have q2 : i.2.2.1 ≤ 3 := Nat.le_of_ble_eq_true q.2
    have q1 := sy_i1_r hb q.1
    have h6 : i.2.2.1 = 0 ∨ i.2.2.1 = 1 ∨ i.2.2.1 = 2 ∨ i.2.2.1 = 3 := by omega
    rcases h6 with h6 | h6 | h6 | h6 <;> rw [h6] at q1 ⊢
    · exact sy_d42 q1
    · exact sy_d43 q1
    · exact sy_d44 q1
    · exact sy_d45 q1
  cases hC : (sy_i1 bs (ev_pc cd ix) (42 + i.2.2.1) && Nat.ble i.2.2.1 3) with
  | false =>
    rw [hC] at h
    exact absurd h (by simp)
  | true =>
    have hd := hD hC
    unfold ev_k8
    rw [decide_eq_true hd]
    rw [hC] at h
    exact h
def cf_k9 (Gc : List (List Cond)) (Ct : List ev_Ct) (kt : List FieldType) (Pg : List ev_Mt) (sm : ev_Sm) (bs : List (List Nat)) (own nm : String) (cc : ByteArray) (nL : Nat) (ret : Option FieldType) (cd : ev_Cd) (ix : Nat) (i : ev_I) : Bool := (sy_i1 bs (ev_pc cd ix) 25 && sy_i1 bs ((ev_pc cd ix) + 1) i.2.2.1) && decide (ev_pc cd (ix + 1) = ev_pc cd ix + 2)
theorem cf_l9 {Gc : List (List Cond)} {Ct : List ev_Ct} {kt : List FieldType} {Pg : List ev_Mt} {sm : ev_Sm} {bs : List (List Nat)} {own nm : String} {cc : ByteArray} {nL : Nat} {ret : Option FieldType} {cd : ev_Cd} {ix : Nat} {i : ev_I} (hb : sy_By cc bs) (h : cf_k9 Gc Ct kt Pg sm bs own nm cc nL ret cd ix i = true) : ev_k9 Gc Ct kt Pg sm own nm cc nL ret cd ix i = true := by
  unfold cf_k9 at h
  have hD : (sy_i1 bs (ev_pc cd ix) 25 && sy_i1 bs ((ev_pc cd ix) + 1) i.2.2.1) = true → decode cc (ev_pc cd ix) = .ok (.aload i.2.2.1, 2) := fun q => sy_d25 (sy_i1_r hb ((Bool.and_eq_true _ _).mp q).1) (sy_i1_r hb ((Bool.and_eq_true _ _).mp q).2)
  cases hC : (sy_i1 bs (ev_pc cd ix) 25 && sy_i1 bs ((ev_pc cd ix) + 1) i.2.2.1) with
  | false =>
    rw [hC] at h
    exact absurd h (by simp)
  | true =>
    have hd := hD hC
    unfold ev_k9
    rw [decide_eq_true hd]
    rw [hC] at h
    exact h
def cf_k10 (Gc : List (List Cond)) (Ct : List ev_Ct) (kt : List FieldType) (Pg : List ev_Mt) (sm : ev_Sm) (bs : List (List Nat)) (own nm : String) (cc : ByteArray) (nL : Nat) (ret : Option FieldType) (cd : ev_Cd) (ix : Nat) (i : ev_I) : Bool := (sy_i1 bs (ev_pc cd ix) (59 + i.2.2.1) && Nat.ble i.2.2.1 3) && decide (ev_pc cd (ix + 1) = ev_pc cd ix + 1) && decide (i.2.2.1 < 4) && decide (i.2.2.1 < nL)
theorem cf_l10 {Gc : List (List Cond)} {Ct : List ev_Ct} {kt : List FieldType} {Pg : List ev_Mt} {sm : ev_Sm} {bs : List (List Nat)} {own nm : String} {cc : ByteArray} {nL : Nat} {ret : Option FieldType} {cd : ev_Cd} {ix : Nat} {i : ev_I} (hb : sy_By cc bs) (h : cf_k10 Gc Ct kt Pg sm bs own nm cc nL ret cd ix i = true) : ev_k10 Gc Ct kt Pg sm own nm cc nL ret cd ix i = true := by
  unfold cf_k10 at h
  have hD : (sy_i1 bs (ev_pc cd ix) (59 + i.2.2.1) && Nat.ble i.2.2.1 3) = true → decode cc (ev_pc cd ix) = .ok (.istore_n (Fin.ofNat 4 i.2.2.1), 1) := fun q => by
    rw [Bool.and_eq_true] at q
    have q2 : i.2.2.1 ≤ 3 := Nat.le_of_ble_eq_true q.2
    have q1 := sy_i1_r hb q.1
    have h6 : i.2.2.1 = 0 ∨ i.2.2.1 = 1 ∨ i.2.2.1 = 2 ∨ i.2.2.1 = 3 := by omega
    rcases h6 with h6 | h6 | h6 | h6 <;> rw [h6] at q1 ⊢
    · exact sy_d59 q1
    · exact sy_d60 q1
    · exact sy_d61 q1
    · exact sy_d62 q1
  cases hC : (sy_i1 bs (ev_pc cd ix) (59 + i.2.2.1) && Nat.ble i.2.2.1 3) with
  | false =>
    rw [hC] at h
    exact absurd h (by simp)
  | true =>
    have hd := hD hC
    unfold ev_k10
    rw [decide_eq_true hd]
    rw [hC] at h
    exact h
def cf_k11 (Gc : List (List Cond)) (Ct : List ev_Ct) (kt : List FieldType) (Pg : List ev_Mt) (sm : ev_Sm) (bs : List (List Nat)) (own nm : String) (cc : ByteArray) (nL : Nat) (ret : Option FieldType) (cd : ev_Cd) (ix : Nat) (i : ev_I) : Bool := (sy_i1 bs (ev_pc cd ix) 54 && sy_i1 bs ((ev_pc cd ix) + 1) i.2.2.1) && decide (ev_pc cd (ix + 1) = ev_pc cd ix + 2) && decide (i.2.2.1 < nL)
theorem cf_l11 {Gc : List (List Cond)} {Ct : List ev_Ct} {kt : List FieldType} {Pg : List ev_Mt} {sm : ev_Sm} {bs : List (List Nat)} {own nm : String} {cc : ByteArray} {nL : Nat} {ret : Option FieldType} {cd : ev_Cd} {ix : Nat} {i : ev_I} (hb : sy_By cc bs) (h : cf_k11 Gc Ct kt Pg sm bs own nm cc nL ret cd ix i = true) : ev_k11 Gc Ct kt Pg sm own nm cc nL ret cd ix i = true := by
  unfold cf_k11 at h
  have hD : (sy_i1 bs (ev_pc cd ix) 54 && sy_i1 bs ((ev_pc cd ix) + 1) i.2.2.1) = true → decode cc (ev_pc cd ix) = .ok (.istore i.2.2.1, 2) := fun q => sy_d54 (sy_i1_r hb ((Bool.and_eq_true _ _).mp q).1) (sy_i1_r hb ((Bool.and_eq_true _ _).mp q).2)
  cases hC : (sy_i1 bs (ev_pc cd ix) 54 && sy_i1 bs ((ev_pc cd ix) + 1) i.2.2.1) with
  | false =>
    rw [hC] at h
    exact absurd h (by simp)
  | true =>
    have hd := hD hC
    unfold ev_k11
    rw [decide_eq_true hd]
    rw [hC] at h
    exact h
def cf_k12 (Gc : List (List Cond)) (Ct : List ev_Ct) (kt : List FieldType) (Pg : List ev_Mt) (sm : ev_Sm) (bs : List (List Nat)) (own nm : String) (cc : ByteArray) (nL : Nat) (ret : Option FieldType) (cd : ev_Cd) (ix : Nat) (i : ev_I) : Bool := (sy_i1 bs (ev_pc cd ix) (75 + i.2.2.1) && Nat.ble i.2.2.1 3) && decide (ev_pc cd (ix + 1) = ev_pc cd ix + 1) && decide (i.2.2.1 < 4) && decide (i.2.2.1 < nL)
theorem cf_l12 {Gc : List (List Cond)} {Ct : List ev_Ct} {kt : List FieldType} {Pg : List ev_Mt} {sm : ev_Sm} {bs : List (List Nat)} {own nm : String} {cc : ByteArray} {nL : Nat} {ret : Option FieldType} {cd : ev_Cd} {ix : Nat} {i : ev_I} (hb : sy_By cc bs) (h : cf_k12 Gc Ct kt Pg sm bs own nm cc nL ret cd ix i = true) : ev_k12 Gc Ct kt Pg sm own nm cc nL ret cd ix i = true := by
  unfold cf_k12 at h
  have hD : (sy_i1 bs (ev_pc cd ix) (75 + i.2.2.1) && Nat.ble i.2.2.1 3) = true → decode cc (ev_pc cd ix) = .ok (.astore_n (Fin.ofNat 4 i.2.2.1), 1) := fun q => by
    rw [Bool.and_eq_true] at q
    have q2 : i.2.2.1 ≤ 3 := Nat.le_of_ble_eq_true q.2
    have q1 := sy_i1_r hb q.1
    have h6 : i.2.2.1 = 0 ∨ i.2.2.1 = 1 ∨ i.2.2.1 = 2 ∨ i.2.2.1 = 3 := by omega
    rcases h6 with h6 | h6 | h6 | h6 <;> rw [h6] at q1 ⊢
    · exact sy_d75 q1
    · exact sy_d76 q1
    · exact sy_d77 q1
    · exact sy_d78 q1
  cases hC : (sy_i1 bs (ev_pc cd ix) (75 + i.2.2.1) && Nat.ble i.2.2.1 3) with
  | false =>
    rw [hC] at h
    exact absurd h (by simp)
  | true =>
    have hd := hD hC
    unfold ev_k12
    rw [decide_eq_true hd]
    rw [hC] at h
    exact h
def cf_k14 (Gc : List (List Cond)) (Ct : List ev_Ct) (kt : List FieldType) (Pg : List ev_Mt) (sm : ev_Sm) (bs : List (List Nat)) (own nm : String) (cc : ByteArray) (nL : Nat) (ret : Option FieldType) (cd : ev_Cd) (ix : Nat) (i : ev_I) : Bool := (sy_i1 bs (ev_pc cd ix) 132 && (sy_i1 bs ((ev_pc cd ix) + 1) i.2.2.1 && sy_i1 bs ((ev_pc cd ix) + 2) (i.2.2.2.1 % 256))) && decide (ev_pc cd (ix + 1) = ev_pc cd ix + 3) && decide (ev_sx (Int32.ofInt (Reader.signed 8 (i.2.2.2.1 % 256))) = i.2.2.2.1) && decide (i.2.2.1 < nL)
theorem cf_l14 {Gc : List (List Cond)} {Ct : List ev_Ct} {kt : List FieldType} {Pg : List ev_Mt} {sm : ev_Sm} {bs : List (List Nat)} {own nm : String} {cc : ByteArray} {nL : Nat} {ret : Option FieldType} {cd : ev_Cd} {ix : Nat} {i : ev_I} (hb : sy_By cc bs) (h : cf_k14 Gc Ct kt Pg sm bs own nm cc nL ret cd ix i = true) : ev_k14 Gc Ct kt Pg sm own nm cc nL ret cd ix i = true := by
  unfold cf_k14 at h
  have hD : (sy_i1 bs (ev_pc cd ix) 132 && (sy_i1 bs ((ev_pc cd ix) + 1) i.2.2.1 && sy_i1 bs ((ev_pc cd ix) + 2) (i.2.2.2.1 % 256))) = true → decode cc (ev_pc cd ix) = .ok (.iinc i.2.2.1 (Reader.signed 8 (i.2.2.2.1 % 256)), 3) := fun q => sy_d132 (sy_i1_r hb ((Bool.and_eq_true _ _).mp q).1) (sy_i1_r hb ((Bool.and_eq_true _ _).mp ((Bool.and_eq_true _ _).mp q).2).1) (sy_s1 (sy_i1_r hb ((Bool.and_eq_true _ _).mp ((Bool.and_eq_true _ _).mp q).2).2))
  cases hC : (sy_i1 bs (ev_pc cd ix) 132 && (sy_i1 bs ((ev_pc cd ix) + 1) i.2.2.1 && sy_i1 bs ((ev_pc cd ix) + 2) (i.2.2.2.1 % 256))) with
  | false =>
    rw [hC] at h
    exact absurd h (by simp)
  | true =>
    have hd := hD hC
    unfold ev_k14
    have e : ev_dn cc (ev_pc cd ix) = Reader.signed 8 (i.2.2.2.1 % 256) := by
      unfold ev_dn
      rw [hd]
    rw [e]
    rw [decide_eq_true hd]
    rw [hC] at h
    exact h
def cf_k15 (Gc : List (List Cond)) (Ct : List ev_Ct) (kt : List FieldType) (Pg : List ev_Mt) (sm : ev_Sm) (bs : List (List Nat)) (own nm : String) (cc : ByteArray) (nL : Nat) (ret : Option FieldType) (cd : ev_Cd) (ix : Nat) (i : ev_I) : Bool := sy_i1 bs (ev_pc cd ix) 96 && decide (ev_pc cd (ix + 1) = ev_pc cd ix + 1)
theorem cf_l15 {Gc : List (List Cond)} {Ct : List ev_Ct} {kt : List FieldType} {Pg : List ev_Mt} {sm : ev_Sm} {bs : List (List Nat)} {own nm : String} {cc : ByteArray} {nL : Nat} {ret : Option FieldType} {cd : ev_Cd} {ix : Nat} {i : ev_I} (hb : sy_By cc bs) (h : cf_k15 Gc Ct kt Pg sm bs own nm cc nL ret cd ix i = true) : ev_k15 Gc Ct kt Pg sm own nm cc nL ret cd ix i = true := by
  unfold cf_k15 at h
  have hD : sy_i1 bs (ev_pc cd ix) 96 = true → decode cc (ev_pc cd ix) = .ok (.iadd, 1) := fun q => sy_d96 (sy_i1_r hb q)
  cases hC : sy_i1 bs (ev_pc cd ix) 96 with
  | false =>
    rw [hC] at h
    exact absurd h (by simp)
  | true =>
    have hd := hD hC
    unfold ev_k15
    rw [decide_eq_true hd]
    rw [hC] at h
    exact h
def cf_k16 (Gc : List (List Cond)) (Ct : List ev_Ct) (kt : List FieldType) (Pg : List ev_Mt) (sm : ev_Sm) (bs : List (List Nat)) (own nm : String) (cc : ByteArray) (nL : Nat) (ret : Option FieldType) (cd : ev_Cd) (ix : Nat) (i : ev_I) : Bool := sy_i1 bs (ev_pc cd ix) 100 && decide (ev_pc cd (ix + 1) = ev_pc cd ix + 1)
theorem cf_l16 {Gc : List (List Cond)} {Ct : List ev_Ct} {kt : List FieldType} {Pg : List ev_Mt} {sm : ev_Sm} {bs : List (List Nat)} {own nm : String} {cc : ByteArray} {nL : Nat} {ret : Option FieldType} {cd : ev_Cd} {ix : Nat} {i : ev_I} (hb : sy_By cc bs) (h : cf_k16 Gc Ct kt Pg sm bs own nm cc nL ret cd ix i = true) : ev_k16 Gc Ct kt Pg sm own nm cc nL ret cd ix i = true := by
  unfold cf_k16 at h
  have hD : sy_i1 bs (ev_pc cd ix) 100 = true → decode cc (ev_pc cd ix) = .ok (.isub, 1) := fun q => sy_d100 (sy_i1_r hb q)
  cases hC : sy_i1 bs (ev_pc cd ix) 100 with
  | false =>
    rw [hC] at h
    exact absurd h (by simp)
  | true =>
    have hd := hD hC
    unfold ev_k16
    rw [decide_eq_true hd]
    rw [hC] at h
    exact h
def cf_k17 (Gc : List (List Cond)) (Ct : List ev_Ct) (kt : List FieldType) (Pg : List ev_Mt) (sm : ev_Sm) (bs : List (List Nat)) (own nm : String) (cc : ByteArray) (nL : Nat) (ret : Option FieldType) (cd : ev_Cd) (ix : Nat) (i : ev_I) : Bool := sy_i1 bs (ev_pc cd ix) 104 && decide (ev_pc cd (ix + 1) = ev_pc cd ix + 1)
theorem cf_l17 {Gc : List (List Cond)} {Ct : List ev_Ct} {kt : List FieldType} {Pg : List ev_Mt} {sm : ev_Sm} {bs : List (List Nat)} {own nm : String} {cc : ByteArray} {nL : Nat} {ret : Option FieldType} {cd : ev_Cd} {ix : Nat} {i : ev_I} (hb : sy_By cc bs) (h : cf_k17 Gc Ct kt Pg sm bs own nm cc nL ret cd ix i = true) : ev_k17 Gc Ct kt Pg sm own nm cc nL ret cd ix i = true := by
  unfold cf_k17 at h
  have hD : sy_i1 bs (ev_pc cd ix) 104 = true → decode cc (ev_pc cd ix) = .ok (.imul, 1) := fun q => sy_d104 (sy_i1_r hb q)
  cases hC : sy_i1 bs (ev_pc cd ix) 104 with
  | false =>
    rw [hC] at h
    exact absurd h (by simp)
  | true =>
    have hd := hD hC
    unfold ev_k17
    rw [decide_eq_true hd]
    rw [hC] at h
    exact h
def cf_k18 (Gc : List (List Cond)) (Ct : List ev_Ct) (kt : List FieldType) (Pg : List ev_Mt) (sm : ev_Sm) (bs : List (List Nat)) (own nm : String) (cc : ByteArray) (nL : Nat) (ret : Option FieldType) (cd : ev_Cd) (ix : Nat) (i : ev_I) : Bool := sy_i1 bs (ev_pc cd ix) 126 && decide (ev_pc cd (ix + 1) = ev_pc cd ix + 1)
theorem cf_l18 {Gc : List (List Cond)} {Ct : List ev_Ct} {kt : List FieldType} {Pg : List ev_Mt} {sm : ev_Sm} {bs : List (List Nat)} {own nm : String} {cc : ByteArray} {nL : Nat} {ret : Option FieldType} {cd : ev_Cd} {ix : Nat} {i : ev_I} (hb : sy_By cc bs) (h : cf_k18 Gc Ct kt Pg sm bs own nm cc nL ret cd ix i = true) : ev_k18 Gc Ct kt Pg sm own nm cc nL ret cd ix i = true := by
  unfold cf_k18 at h
  have hD : sy_i1 bs (ev_pc cd ix) 126 = true → decode cc (ev_pc cd ix) = .ok (.iand, 1) := fun q => sy_d126 (sy_i1_r hb q)
  cases hC : sy_i1 bs (ev_pc cd ix) 126 with
  | false =>
    rw [hC] at h
    exact absurd h (by simp)
  | true =>
    have hd := hD hC
    unfold ev_k18
    rw [decide_eq_true hd]
    rw [hC] at h
    exact h
def cf_k19 (Gc : List (List Cond)) (Ct : List ev_Ct) (kt : List FieldType) (Pg : List ev_Mt) (sm : ev_Sm) (bs : List (List Nat)) (own nm : String) (cc : ByteArray) (nL : Nat) (ret : Option FieldType) (cd : ev_Cd) (ix : Nat) (i : ev_I) : Bool := sy_i1 bs (ev_pc cd ix) 128 && decide (ev_pc cd (ix + 1) = ev_pc cd ix + 1)
theorem cf_l19 {Gc : List (List Cond)} {Ct : List ev_Ct} {kt : List FieldType} {Pg : List ev_Mt} {sm : ev_Sm} {bs : List (List Nat)} {own nm : String} {cc : ByteArray} {nL : Nat} {ret : Option FieldType} {cd : ev_Cd} {ix : Nat} {i : ev_I} (hb : sy_By cc bs) (h : cf_k19 Gc Ct kt Pg sm bs own nm cc nL ret cd ix i = true) : ev_k19 Gc Ct kt Pg sm own nm cc nL ret cd ix i = true := by
  unfold cf_k19 at h
  have hD : sy_i1 bs (ev_pc cd ix) 128 = true → decode cc (ev_pc cd ix) = .ok (.ior, 1) := fun q => sy_d128 (sy_i1_r hb q)
  cases hC : sy_i1 bs (ev_pc cd ix) 128 with
  | false =>
    rw [hC] at h
    exact absurd h (by simp)
  | true =>
    have hd := hD hC
    unfold ev_k19
    rw [decide_eq_true hd]
    rw [hC] at h
    exact h
def cf_k20 (Gc : List (List Cond)) (Ct : List ev_Ct) (kt : List FieldType) (Pg : List ev_Mt) (sm : ev_Sm) (bs : List (List Nat)) (own nm : String) (cc : ByteArray) (nL : Nat) (ret : Option FieldType) (cd : ev_Cd) (ix : Nat) (i : ev_I) : Bool := sy_i1 bs (ev_pc cd ix) 130 && decide (ev_pc cd (ix + 1) = ev_pc cd ix + 1)
theorem cf_l20 {Gc : List (List Cond)} {Ct : List ev_Ct} {kt : List FieldType} {Pg : List ev_Mt} {sm : ev_Sm} {bs : List (List Nat)} {own nm : String} {cc : ByteArray} {nL : Nat} {ret : Option FieldType} {cd : ev_Cd} {ix : Nat} {i : ev_I} (hb : sy_By cc bs) (h : cf_k20 Gc Ct kt Pg sm bs own nm cc nL ret cd ix i = true) : ev_k20 Gc Ct kt Pg sm own nm cc nL ret cd ix i = true := by
  unfold cf_k20 at h
  have hD : sy_i1 bs (ev_pc cd ix) 130 = true → decode cc (ev_pc cd ix) = .ok (.ixor, 1) := fun q => sy_d130 (sy_i1_r hb q)
  cases hC : sy_i1 bs (ev_pc cd ix) 130 with
  | false =>
    rw [hC] at h
    exact absurd h (by simp)
  | true =>
    have hd := hD hC
    unfold ev_k20
    rw [decide_eq_true hd]
    rw [hC] at h
    exact h
def cf_k21 (Gc : List (List Cond)) (Ct : List ev_Ct) (kt : List FieldType) (Pg : List ev_Mt) (sm : ev_Sm) (bs : List (List Nat)) (own nm : String) (cc : ByteArray) (nL : Nat) (ret : Option FieldType) (cd : ev_Cd) (ix : Nat) (i : ev_I) : Bool := sy_i1 bs (ev_pc cd ix) 120 && decide (ev_pc cd (ix + 1) = ev_pc cd ix + 1)
theorem cf_l21 {Gc : List (List Cond)} {Ct : List ev_Ct} {kt : List FieldType} {Pg : List ev_Mt} {sm : ev_Sm} {bs : List (List Nat)} {own nm : String} {cc : ByteArray} {nL : Nat} {ret : Option FieldType} {cd : ev_Cd} {ix : Nat} {i : ev_I} (hb : sy_By cc bs) (h : cf_k21 Gc Ct kt Pg sm bs own nm cc nL ret cd ix i = true) : ev_k21 Gc Ct kt Pg sm own nm cc nL ret cd ix i = true := by
  unfold cf_k21 at h
  have hD : sy_i1 bs (ev_pc cd ix) 120 = true → decode cc (ev_pc cd ix) = .ok (.ishl, 1) := fun q => sy_d120 (sy_i1_r hb q)
  cases hC : sy_i1 bs (ev_pc cd ix) 120 with
  | false =>
    rw [hC] at h
    exact absurd h (by simp)
  | true =>
    have hd := hD hC
    unfold ev_k21
    rw [decide_eq_true hd]
    rw [hC] at h
    exact h
def cf_k22 (Gc : List (List Cond)) (Ct : List ev_Ct) (kt : List FieldType) (Pg : List ev_Mt) (sm : ev_Sm) (bs : List (List Nat)) (own nm : String) (cc : ByteArray) (nL : Nat) (ret : Option FieldType) (cd : ev_Cd) (ix : Nat) (i : ev_I) : Bool := sy_i1 bs (ev_pc cd ix) 89 && decide (ev_pc cd (ix + 1) = ev_pc cd ix + 1)
theorem cf_l22 {Gc : List (List Cond)} {Ct : List ev_Ct} {kt : List FieldType} {Pg : List ev_Mt} {sm : ev_Sm} {bs : List (List Nat)} {own nm : String} {cc : ByteArray} {nL : Nat} {ret : Option FieldType} {cd : ev_Cd} {ix : Nat} {i : ev_I} (hb : sy_By cc bs) (h : cf_k22 Gc Ct kt Pg sm bs own nm cc nL ret cd ix i = true) : ev_k22 Gc Ct kt Pg sm own nm cc nL ret cd ix i = true := by
  unfold cf_k22 at h
  have hD : sy_i1 bs (ev_pc cd ix) 89 = true → decode cc (ev_pc cd ix) = .ok (.dup, 1) := fun q => sy_d89 (sy_i1_r hb q)
  cases hC : sy_i1 bs (ev_pc cd ix) 89 with
  | false =>
    rw [hC] at h
    exact absurd h (by simp)
  | true =>
    have hd := hD hC
    unfold ev_k22
    rw [decide_eq_true hd]
    rw [hC] at h
    exact h
def cf_k24 (Gc : List (List Cond)) (Ct : List ev_Ct) (kt : List FieldType) (Pg : List ev_Mt) (sm : ev_Sm) (bs : List (List Nat)) (own nm : String) (cc : ByteArray) (nL : Nat) (ret : Option FieldType) (cd : ev_Cd) (ix : Nat) (i : ev_I) : Bool := sy_i1 bs (ev_pc cd ix) 92 && decide (ev_pc cd (ix + 1) = ev_pc cd ix + 1)
theorem cf_l24 {Gc : List (List Cond)} {Ct : List ev_Ct} {kt : List FieldType} {Pg : List ev_Mt} {sm : ev_Sm} {bs : List (List Nat)} {own nm : String} {cc : ByteArray} {nL : Nat} {ret : Option FieldType} {cd : ev_Cd} {ix : Nat} {i : ev_I} (hb : sy_By cc bs) (h : cf_k24 Gc Ct kt Pg sm bs own nm cc nL ret cd ix i = true) : ev_k24 Gc Ct kt Pg sm own nm cc nL ret cd ix i = true := by
  unfold cf_k24 at h
  have hD : sy_i1 bs (ev_pc cd ix) 92 = true → decode cc (ev_pc cd ix) = .ok (.dup2, 1) := fun q => sy_d92 (sy_i1_r hb q)
  cases hC : sy_i1 bs (ev_pc cd ix) 92 with
  | false =>
    rw [hC] at h
    exact absurd h (by simp)
  | true =>
    have hd := hD hC
    unfold ev_k24
    rw [decide_eq_true hd]
    rw [hC] at h
    exact h
def cf_k28 (Gc : List (List Cond)) (Ct : List ev_Ct) (kt : List FieldType) (Pg : List ev_Mt) (sm : ev_Sm) (bs : List (List Nat)) (own nm : String) (cc : ByteArray) (nL : Nat) (ret : Option FieldType) (cd : ev_Cd) (ix : Nat) (i : ev_I) : Bool := sy_b3 bs (ev_pc cd ix) 180 i.2.2.2.2.1 && decide (ev_pc cd (ix + 1) = ev_pc cd ix + 3) && (match Ct[i.2.2.2.1]? with
    | some q => decide (i.2.2.1 < q.1.2.2) && decide (ev_hg Gc (i.2.2.2.2.2.2) = some (Cond.fieldLink own i.2.2.2.2.1 (q.1.2.1 i.2.2.1).1 (q.1.2.1 i.2.2.1).2.1 (q.1.2.1 i.2.2.1).2.2.1))
    | none => false)
theorem cf_l28 {Gc : List (List Cond)} {Ct : List ev_Ct} {kt : List FieldType} {Pg : List ev_Mt} {sm : ev_Sm} {bs : List (List Nat)} {own nm : String} {cc : ByteArray} {nL : Nat} {ret : Option FieldType} {cd : ev_Cd} {ix : Nat} {i : ev_I} (hb : sy_By cc bs) (h : cf_k28 Gc Ct kt Pg sm bs own nm cc nL ret cd ix i = true) : ev_k28 Gc Ct kt Pg sm own nm cc nL ret cd ix i = true := by
  unfold cf_k28 at h
  have hD : sy_b3 bs (ev_pc cd ix) 180 i.2.2.2.2.1 = true → decode cc (ev_pc cd ix) = .ok (.getfield i.2.2.2.2.1, 3) := fun q => sy_d180 (sy_b3_r hb q).1 (sy_b3_r hb q).2
  cases hC : sy_b3 bs (ev_pc cd ix) 180 i.2.2.2.2.1 with
  | false =>
    rw [hC] at h
    exact absurd h (by simp)
  | true =>
    have hd := hD hC
    unfold ev_k28
    rw [decide_eq_true hd]
    rw [hC] at h
    exact h
def cf_k29 (Gc : List (List Cond)) (Ct : List ev_Ct) (kt : List FieldType) (Pg : List ev_Mt) (sm : ev_Sm) (bs : List (List Nat)) (own nm : String) (cc : ByteArray) (nL : Nat) (ret : Option FieldType) (cd : ev_Cd) (ix : Nat) (i : ev_I) : Bool := sy_b3 bs (ev_pc cd ix) 181 i.2.2.2.2.1 && decide (ev_pc cd (ix + 1) = ev_pc cd ix + 3) && (match Ct[i.2.2.2.1]? with
    | some q => decide (i.2.2.1 < q.1.2.2) && decide (ev_hg Gc (i.2.2.2.2.2.2) = some (Cond.fieldLink own i.2.2.2.2.1 (q.1.2.1 i.2.2.1).1 (q.1.2.1 i.2.2.1).2.1 (q.1.2.1 i.2.2.1).2.2.1)) && decide ((q.1.2.1 i.2.2.1).2.2.2 = false)
    | none => false)
theorem cf_l29 {Gc : List (List Cond)} {Ct : List ev_Ct} {kt : List FieldType} {Pg : List ev_Mt} {sm : ev_Sm} {bs : List (List Nat)} {own nm : String} {cc : ByteArray} {nL : Nat} {ret : Option FieldType} {cd : ev_Cd} {ix : Nat} {i : ev_I} (hb : sy_By cc bs) (h : cf_k29 Gc Ct kt Pg sm bs own nm cc nL ret cd ix i = true) : ev_k29 Gc Ct kt Pg sm own nm cc nL ret cd ix i = true := by
  unfold cf_k29 at h
  have hD : sy_b3 bs (ev_pc cd ix) 181 i.2.2.2.2.1 = true → decode cc (ev_pc cd ix) = .ok (.putfield i.2.2.2.2.1, 3) := fun q => sy_d181 (sy_b3_r hb q).1 (sy_b3_r hb q).2
  cases hC : sy_b3 bs (ev_pc cd ix) 181 i.2.2.2.2.1 with
  | false =>
    rw [hC] at h
    exact absurd h (by simp)
  | true =>
    have hd := hD hC
    unfold ev_k29
    rw [decide_eq_true hd]
    rw [hC] at h
    exact h
def cf_k30 (Gc : List (List Cond)) (Ct : List ev_Ct) (kt : List FieldType) (Pg : List ev_Mt) (sm : ev_Sm) (bs : List (List Nat)) (own nm : String) (cc : ByteArray) (nL : Nat) (ret : Option FieldType) (cd : ev_Cd) (ix : Nat) (i : ev_I) : Bool := sy_b3 bs (ev_pc cd ix) 181 i.2.2.2.2.1 && decide (ev_pc cd (ix + 1) = ev_pc cd ix + 3) && (match Ct[i.2.2.2.1]? with
    | some q => decide (i.2.2.1 < q.1.2.2) && decide (ev_hg Gc (i.2.2.2.2.2.2) = some (Cond.fieldLink own i.2.2.2.2.1 (q.1.2.1 i.2.2.1).1 (q.1.2.1 i.2.2.1).2.1 (q.1.2.1 i.2.2.1).2.2.1)) && decide ((q.1.2.1 i.2.2.1).2.2.2 = true) && decide (nm = "<init>") && decide ((q.1.2.1 i.2.2.1).1 = own)
    | none => false)
theorem cf_l30 {Gc : List (List Cond)} {Ct : List ev_Ct} {kt : List FieldType} {Pg : List ev_Mt} {sm : ev_Sm} {bs : List (List Nat)} {own nm : String} {cc : ByteArray} {nL : Nat} {ret : Option FieldType} {cd : ev_Cd} {ix : Nat} {i : ev_I} (hb : sy_By cc bs) (h : cf_k30 Gc Ct kt Pg sm bs own nm cc nL ret cd ix i = true) : ev_k30 Gc Ct kt Pg sm own nm cc nL ret cd ix i = true := by
  unfold cf_k30 at h
  have hD : sy_b3 bs (ev_pc cd ix) 181 i.2.2.2.2.1 = true → decode cc (ev_pc cd ix) = .ok (.putfield i.2.2.2.2.1, 3) := fun q => sy_d181 (sy_b3_r hb q).1 (sy_b3_r hb q).2
  cases hC : sy_b3 bs (ev_pc cd ix) 181 i.2.2.2.2.1 with
  | false =>
    rw [hC] at h
    exact absurd h (by simp)
  | true =>
    have hd := hD hC
    unfold ev_k30
    rw [decide_eq_true hd]
    rw [hC] at h
    exact h
def cf_k31 (Gc : List (List Cond)) (Ct : List ev_Ct) (kt : List FieldType) (Pg : List ev_Mt) (sm : ev_Sm) (bs : List (List Nat)) (own nm : String) (cc : ByteArray) (nL : Nat) (ret : Option FieldType) (cd : ev_Cd) (ix : Nat) (i : ev_I) : Bool := sy_b3 bs (ev_pc cd ix) 187 i.2.2.2.2.1 && decide (ev_pc cd (ix + 1) = ev_pc cd ix + 3) && (match Ct[i.2.2.2.1]? with
    | some q => decide (ev_hg Gc (i.2.2.2.2.2.2) = some (Cond.classLink own i.2.2.2.2.1 q.1.1))
    | none => false)
theorem cf_l31 {Gc : List (List Cond)} {Ct : List ev_Ct} {kt : List FieldType} {Pg : List ev_Mt} {sm : ev_Sm} {bs : List (List Nat)} {own nm : String} {cc : ByteArray} {nL : Nat} {ret : Option FieldType} {cd : ev_Cd} {ix : Nat} {i : ev_I} (hb : sy_By cc bs) (h : cf_k31 Gc Ct kt Pg sm bs own nm cc nL ret cd ix i = true) : ev_k31 Gc Ct kt Pg sm own nm cc nL ret cd ix i = true := by
  unfold cf_k31 at h
  have hD : sy_b3 bs (ev_pc cd ix) 187 i.2.2.2.2.1 = true → decode cc (ev_pc cd ix) = .ok (.new i.2.2.2.2.1, 3) := fun q => sy_d187 (sy_b3_r hb q).1 (sy_b3_r hb q).2
  cases hC : sy_b3 bs (ev_pc cd ix) 187 i.2.2.2.2.1 with
  | false =>
    rw [hC] at h
    exact absurd h (by simp)
  | true =>
    have hd := hD hC
    unfold ev_k31
    rw [decide_eq_true hd]
    rw [hC] at h
    exact h
def cf_k34 (Gc : List (List Cond)) (Ct : List ev_Ct) (kt : List FieldType) (Pg : List ev_Mt) (sm : ev_Sm) (bs : List (List Nat)) (own nm : String) (cc : ByteArray) (nL : Nat) (ret : Option FieldType) (cd : ev_Cd) (ix : Nat) (i : ev_I) : Bool := sy_b3 bs (ev_pc cd ix) 189 i.2.2.2.2.1 && decide (ev_pc cd (ix + 1) = ev_pc cd ix + 3) && (match kt[i.2.2.1]? with
    | some (.object C) => decide (ev_hg Gc (i.2.2.2.2.2.2) = some (Cond.classLink own i.2.2.2.2.1 C))
    | _ => false)
theorem cf_l34 {Gc : List (List Cond)} {Ct : List ev_Ct} {kt : List FieldType} {Pg : List ev_Mt} {sm : ev_Sm} {bs : List (List Nat)} {own nm : String} {cc : ByteArray} {nL : Nat} {ret : Option FieldType} {cd : ev_Cd} {ix : Nat} {i : ev_I} (hb : sy_By cc bs) (h : cf_k34 Gc Ct kt Pg sm bs own nm cc nL ret cd ix i = true) : ev_k34 Gc Ct kt Pg sm own nm cc nL ret cd ix i = true := by
  unfold cf_k34 at h
  have hD : sy_b3 bs (ev_pc cd ix) 189 i.2.2.2.2.1 = true → decode cc (ev_pc cd ix) = .ok (.anewarray i.2.2.2.2.1, 3) := fun q => sy_d189 (sy_b3_r hb q).1 (sy_b3_r hb q).2
  cases hC : sy_b3 bs (ev_pc cd ix) 189 i.2.2.2.2.1 with
  | false =>
    rw [hC] at h
    exact absurd h (by simp)
  | true =>
    have hd := hD hC
    unfold ev_k34
    rw [decide_eq_true hd]
    rw [hC] at h
    exact h
def cf_k37 (Gc : List (List Cond)) (Ct : List ev_Ct) (kt : List FieldType) (Pg : List ev_Mt) (sm : ev_Sm) (bs : List (List Nat)) (own nm : String) (cc : ByteArray) (nL : Nat) (ret : Option FieldType) (cd : ev_Cd) (ix : Nat) (i : ev_I) : Bool := (sy_i1 bs (ev_pc cd ix) 22 && sy_i1 bs ((ev_pc cd ix) + 1) i.2.2.1) && decide (ev_pc cd (ix + 1) = ev_pc cd ix + 2)
theorem cf_l37 {Gc : List (List Cond)} {Ct : List ev_Ct} {kt : List FieldType} {Pg : List ev_Mt} {sm : ev_Sm} {bs : List (List Nat)} {own nm : String} {cc : ByteArray} {nL : Nat} {ret : Option FieldType} {cd : ev_Cd} {ix : Nat} {i : ev_I} (hb : sy_By cc bs) (h : cf_k37 Gc Ct kt Pg sm bs own nm cc nL ret cd ix i = true) : ev_k37 Gc Ct kt Pg sm own nm cc nL ret cd ix i = true := by
  unfold cf_k37 at h
  have hD : (sy_i1 bs (ev_pc cd ix) 22 && sy_i1 bs ((ev_pc cd ix) + 1) i.2.2.1) = true → decode cc (ev_pc cd ix) = .ok (.lload i.2.2.1, 2) := fun q => sy_d22 (sy_i1_r hb ((Bool.and_eq_true _ _).mp q).1) (sy_i1_r hb ((Bool.and_eq_true _ _).mp q).2)
  cases hC : (sy_i1 bs (ev_pc cd ix) 22 && sy_i1 bs ((ev_pc cd ix) + 1) i.2.2.1) with
  | false =>
    rw [hC] at h
    exact absurd h (by simp)
  | true =>
    have hd := hD hC
    unfold ev_k37
    rw [decide_eq_true hd]
    rw [hC] at h
    exact h
def cf_k39 (Gc : List (List Cond)) (Ct : List ev_Ct) (kt : List FieldType) (Pg : List ev_Mt) (sm : ev_Sm) (bs : List (List Nat)) (own nm : String) (cc : ByteArray) (nL : Nat) (ret : Option FieldType) (cd : ev_Cd) (ix : Nat) (i : ev_I) : Bool := (sy_i1 bs (ev_pc cd ix) 55 && sy_i1 bs ((ev_pc cd ix) + 1) i.2.2.1) && decide (ev_pc cd (ix + 1) = ev_pc cd ix + 2) && decide (i.2.2.1 + 1 < nL)
theorem cf_l39 {Gc : List (List Cond)} {Ct : List ev_Ct} {kt : List FieldType} {Pg : List ev_Mt} {sm : ev_Sm} {bs : List (List Nat)} {own nm : String} {cc : ByteArray} {nL : Nat} {ret : Option FieldType} {cd : ev_Cd} {ix : Nat} {i : ev_I} (hb : sy_By cc bs) (h : cf_k39 Gc Ct kt Pg sm bs own nm cc nL ret cd ix i = true) : ev_k39 Gc Ct kt Pg sm own nm cc nL ret cd ix i = true := by
  unfold cf_k39 at h
  have hD : (sy_i1 bs (ev_pc cd ix) 55 && sy_i1 bs ((ev_pc cd ix) + 1) i.2.2.1) = true → decode cc (ev_pc cd ix) = .ok (.lstore i.2.2.1, 2) := fun q => sy_d55 (sy_i1_r hb ((Bool.and_eq_true _ _).mp q).1) (sy_i1_r hb ((Bool.and_eq_true _ _).mp q).2)
  cases hC : (sy_i1 bs (ev_pc cd ix) 55 && sy_i1 bs ((ev_pc cd ix) + 1) i.2.2.1) with
  | false =>
    rw [hC] at h
    exact absurd h (by simp)
  | true =>
    have hd := hD hC
    unfold ev_k39
    rw [decide_eq_true hd]
    rw [hC] at h
    exact h
def cf_k40 (Gc : List (List Cond)) (Ct : List ev_Ct) (kt : List FieldType) (Pg : List ev_Mt) (sm : ev_Sm) (bs : List (List Nat)) (own nm : String) (cc : ByteArray) (nL : Nat) (ret : Option FieldType) (cd : ev_Cd) (ix : Nat) (i : ev_I) : Bool := sy_i1 bs (ev_pc cd ix) 190 && decide (ev_pc cd (ix + 1) = ev_pc cd ix + 1) && (match kt[i.2.2.1]? with
    | some _ => true
    | none => false)
theorem cf_l40 {Gc : List (List Cond)} {Ct : List ev_Ct} {kt : List FieldType} {Pg : List ev_Mt} {sm : ev_Sm} {bs : List (List Nat)} {own nm : String} {cc : ByteArray} {nL : Nat} {ret : Option FieldType} {cd : ev_Cd} {ix : Nat} {i : ev_I} (hb : sy_By cc bs) (h : cf_k40 Gc Ct kt Pg sm bs own nm cc nL ret cd ix i = true) : ev_k40 Gc Ct kt Pg sm own nm cc nL ret cd ix i = true := by
  unfold cf_k40 at h
  have hD : sy_i1 bs (ev_pc cd ix) 190 = true → decode cc (ev_pc cd ix) = .ok (.arraylength, 1) := fun q => sy_d190 (sy_i1_r hb q)
  cases hC : sy_i1 bs (ev_pc cd ix) 190 with
  | false =>
    rw [hC] at h
    exact absurd h (by simp)
  | true =>
    have hd := hD hC
    unfold ev_k40
    rw [decide_eq_true hd]
    rw [hC] at h
    exact h
def cf_k42 (Gc : List (List Cond)) (Ct : List ev_Ct) (kt : List FieldType) (Pg : List ev_Mt) (sm : ev_Sm) (bs : List (List Nat)) (own nm : String) (cc : ByteArray) (nL : Nat) (ret : Option FieldType) (cd : ev_Cd) (ix : Nat) (i : ev_I) : Bool := sy_i1 bs (ev_pc cd ix) 50 && decide (ev_pc cd (ix + 1) = ev_pc cd ix + 1) && (match kt[i.2.2.1]? with
    | some ty => ty.isReference
    | none => false)
theorem cf_l42 {Gc : List (List Cond)} {Ct : List ev_Ct} {kt : List FieldType} {Pg : List ev_Mt} {sm : ev_Sm} {bs : List (List Nat)} {own nm : String} {cc : ByteArray} {nL : Nat} {ret : Option FieldType} {cd : ev_Cd} {ix : Nat} {i : ev_I} (hb : sy_By cc bs) (h : cf_k42 Gc Ct kt Pg sm bs own nm cc nL ret cd ix i = true) : ev_k42 Gc Ct kt Pg sm own nm cc nL ret cd ix i = true := by
  unfold cf_k42 at h
  have hD : sy_i1 bs (ev_pc cd ix) 50 = true → decode cc (ev_pc cd ix) = .ok (.aaload, 1) := fun q => sy_d50 (sy_i1_r hb q)
  cases hC : sy_i1 bs (ev_pc cd ix) 50 with
  | false =>
    rw [hC] at h
    exact absurd h (by simp)
  | true =>
    have hd := hD hC
    unfold ev_k42
    rw [decide_eq_true hd]
    rw [hC] at h
    exact h
def cf_k43 (Gc : List (List Cond)) (Ct : List ev_Ct) (kt : List FieldType) (Pg : List ev_Mt) (sm : ev_Sm) (bs : List (List Nat)) (own nm : String) (cc : ByteArray) (nL : Nat) (ret : Option FieldType) (cd : ev_Cd) (ix : Nat) (i : ev_I) : Bool := sy_i1 bs (ev_pc cd ix) 83 && decide (ev_pc cd (ix + 1) = ev_pc cd ix + 1) && (match Ct[i.2.2.2.1]? with
    | some q => decide (kt[i.2.2.1]? = some (.object q.1.1))
    | none => false)
theorem cf_l43 {Gc : List (List Cond)} {Ct : List ev_Ct} {kt : List FieldType} {Pg : List ev_Mt} {sm : ev_Sm} {bs : List (List Nat)} {own nm : String} {cc : ByteArray} {nL : Nat} {ret : Option FieldType} {cd : ev_Cd} {ix : Nat} {i : ev_I} (hb : sy_By cc bs) (h : cf_k43 Gc Ct kt Pg sm bs own nm cc nL ret cd ix i = true) : ev_k43 Gc Ct kt Pg sm own nm cc nL ret cd ix i = true := by
  unfold cf_k43 at h
  have hD : sy_i1 bs (ev_pc cd ix) 83 = true → decode cc (ev_pc cd ix) = .ok (.aastore, 1) := fun q => sy_d83 (sy_i1_r hb q)
  cases hC : sy_i1 bs (ev_pc cd ix) 83 with
  | false =>
    rw [hC] at h
    exact absurd h (by simp)
  | true =>
    have hd := hD hC
    unfold ev_k43
    rw [decide_eq_true hd]
    rw [hC] at h
    exact h
def cf_k44 (Gc : List (List Cond)) (Ct : List ev_Ct) (kt : List FieldType) (Pg : List ev_Mt) (sm : ev_Sm) (bs : List (List Nat)) (own nm : String) (cc : ByteArray) (nL : Nat) (ret : Option FieldType) (cd : ev_Cd) (ix : Nat) (i : ev_I) : Bool := (sy_i1 bs (ev_pc cd ix) (9 + i.2.2.1) && Nat.ble i.2.2.1 1) && decide (ev_pc cd (ix + 1) = ev_pc cd ix + 1)
theorem cf_l44 {Gc : List (List Cond)} {Ct : List ev_Ct} {kt : List FieldType} {Pg : List ev_Mt} {sm : ev_Sm} {bs : List (List Nat)} {own nm : String} {cc : ByteArray} {nL : Nat} {ret : Option FieldType} {cd : ev_Cd} {ix : Nat} {i : ev_I} (hb : sy_By cc bs) (h : cf_k44 Gc Ct kt Pg sm bs own nm cc nL ret cd ix i = true) : ev_k44 Gc Ct kt Pg sm own nm cc nL ret cd ix i = true := by
  unfold cf_k44 at h
  have hD : (sy_i1 bs (ev_pc cd ix) (9 + i.2.2.1) && Nat.ble i.2.2.1 1) = true → decode cc (ev_pc cd ix) = .ok (.lconst (Fin.ofNat 2 i.2.2.1), 1) := fun q => by
    rw [Bool.and_eq_true] at q
    have q2 : i.2.2.1 ≤ 1 := Nat.le_of_ble_eq_true q.2
    have q1 := sy_i1_r hb q.1
    have h6 : i.2.2.1 = 0 ∨ i.2.2.1 = 1 := by omega
    rcases h6 with h6 | h6 <;> rw [h6] at q1 ⊢
    · exact sy_d9 q1
    · exact sy_d10 q1
  cases hC : (sy_i1 bs (ev_pc cd ix) (9 + i.2.2.1) && Nat.ble i.2.2.1 1) with
  | false =>
    rw [hC] at h
    exact absurd h (by simp)
  | true =>
    have hd := hD hC
    unfold ev_k44
    rw [decide_eq_true hd]
    rw [hC] at h
    exact h
def cf_k46 (Gc : List (List Cond)) (Ct : List ev_Ct) (kt : List FieldType) (Pg : List ev_Mt) (sm : ev_Sm) (bs : List (List Nat)) (own nm : String) (cc : ByteArray) (nL : Nat) (ret : Option FieldType) (cd : ev_Cd) (ix : Nat) (i : ev_I) : Bool := sy_b3 bs (ev_pc cd ix) 183 i.2.2.2.2.1 && decide (ev_pc cd (ix + 1) = ev_pc cd ix + 3) && decide (ev_hg Gc (i.2.2.2.2.2.2) = some (Cond.methodLink own i.2.2.2.2.1 objectInit)) && decide (ev_hg Gc (i.2.2.1) = some (Cond.instanceMethod objectInit)) && decide (ev_hg Gc (i.2.2.1 + 1) = some (Cond.code objectInit ⟨#[0xb1]⟩ 1 none))
theorem cf_l46 {Gc : List (List Cond)} {Ct : List ev_Ct} {kt : List FieldType} {Pg : List ev_Mt} {sm : ev_Sm} {bs : List (List Nat)} {own nm : String} {cc : ByteArray} {nL : Nat} {ret : Option FieldType} {cd : ev_Cd} {ix : Nat} {i : ev_I} (hb : sy_By cc bs) (h : cf_k46 Gc Ct kt Pg sm bs own nm cc nL ret cd ix i = true) : ev_k46 Gc Ct kt Pg sm own nm cc nL ret cd ix i = true := by
  unfold cf_k46 at h
  have hD : sy_b3 bs (ev_pc cd ix) 183 i.2.2.2.2.1 = true → decode cc (ev_pc cd ix) = .ok (.invokespecial i.2.2.2.2.1, 3) := fun q => sy_d183 (sy_b3_r hb q).1 (sy_b3_r hb q).2
  cases hC : sy_b3 bs (ev_pc cd ix) 183 i.2.2.2.2.1 with
  | false =>
    rw [hC] at h
    exact absurd h (by simp)
  | true =>
    have hd := hD hC
    unfold ev_k46
    rw [decide_eq_true hd]
    rw [hC] at h
    exact h
def cf_k47 (Gc : List (List Cond)) (Ct : List ev_Ct) (kt : List FieldType) (Pg : List ev_Mt) (sm : ev_Sm) (bs : List (List Nat)) (own nm : String) (cc : ByteArray) (nL : Nat) (ret : Option FieldType) (cd : ev_Cd) (ix : Nat) (i : ev_I) : Bool := sy_b3 bs (ev_pc cd ix) 20 i.2.2.2.2.1 && decide (ev_pc cd (ix + 1) = ev_pc cd ix + 3) && decide (ev_hg Gc (i.2.2.2.2.2.2) = some (Cond.constantLong own i.2.2.2.2.1 (Int64.ofNat i.2.2.1)))
theorem cf_l47 {Gc : List (List Cond)} {Ct : List ev_Ct} {kt : List FieldType} {Pg : List ev_Mt} {sm : ev_Sm} {bs : List (List Nat)} {own nm : String} {cc : ByteArray} {nL : Nat} {ret : Option FieldType} {cd : ev_Cd} {ix : Nat} {i : ev_I} (hb : sy_By cc bs) (h : cf_k47 Gc Ct kt Pg sm bs own nm cc nL ret cd ix i = true) : ev_k47 Gc Ct kt Pg sm own nm cc nL ret cd ix i = true := by
  unfold cf_k47 at h
  have hD : sy_b3 bs (ev_pc cd ix) 20 i.2.2.2.2.1 = true → decode cc (ev_pc cd ix) = .ok (.ldc2_w i.2.2.2.2.1, 3) := fun q => sy_d20 (sy_b3_r hb q).1 (sy_b3_r hb q).2
  cases hC : sy_b3 bs (ev_pc cd ix) 20 i.2.2.2.2.1 with
  | false =>
    rw [hC] at h
    exact absurd h (by simp)
  | true =>
    have hd := hD hC
    unfold ev_k47
    rw [decide_eq_true hd]
    rw [hC] at h
    exact h
def cf_k48 (Gc : List (List Cond)) (Ct : List ev_Ct) (kt : List FieldType) (Pg : List ev_Mt) (sm : ev_Sm) (bs : List (List Nat)) (own nm : String) (cc : ByteArray) (nL : Nat) (ret : Option FieldType) (cd : ev_Cd) (ix : Nat) (i : ev_I) : Bool := sy_i1 bs (ev_pc cd ix) 173
theorem cf_l48 {Gc : List (List Cond)} {Ct : List ev_Ct} {kt : List FieldType} {Pg : List ev_Mt} {sm : ev_Sm} {bs : List (List Nat)} {own nm : String} {cc : ByteArray} {nL : Nat} {ret : Option FieldType} {cd : ev_Cd} {ix : Nat} {i : ev_I} (hb : sy_By cc bs) (h : cf_k48 Gc Ct kt Pg sm bs own nm cc nL ret cd ix i = true) : ev_k48 Gc Ct kt Pg sm own nm cc nL ret cd ix i = true := by
  unfold cf_k48 at h
  have hD : sy_i1 bs (ev_pc cd ix) 173 = true → decode cc (ev_pc cd ix) = .ok (.lreturn, 1) := fun q => sy_d173 (sy_i1_r hb q)
  cases hC : sy_i1 bs (ev_pc cd ix) 173 with
  | false =>
    rw [hC] at h
    exact absurd h (by simp)
  | true =>
    have hd := hD hC
    unfold ev_k48
    rw [decide_eq_true hd]
def cf_k49 (Gc : List (List Cond)) (Ct : List ev_Ct) (kt : List FieldType) (Pg : List ev_Mt) (sm : ev_Sm) (bs : List (List Nat)) (own nm : String) (cc : ByteArray) (nL : Nat) (ret : Option FieldType) (cd : ev_Cd) (ix : Nat) (i : ev_I) : Bool := sy_i1 bs (ev_pc cd ix) 177 && decide (ret = none)
theorem cf_l49 {Gc : List (List Cond)} {Ct : List ev_Ct} {kt : List FieldType} {Pg : List ev_Mt} {sm : ev_Sm} {bs : List (List Nat)} {own nm : String} {cc : ByteArray} {nL : Nat} {ret : Option FieldType} {cd : ev_Cd} {ix : Nat} {i : ev_I} (hb : sy_By cc bs) (h : cf_k49 Gc Ct kt Pg sm bs own nm cc nL ret cd ix i = true) : ev_k49 Gc Ct kt Pg sm own nm cc nL ret cd ix i = true := by
  unfold cf_k49 at h
  have hD : sy_i1 bs (ev_pc cd ix) 177 = true → decode cc (ev_pc cd ix) = .ok (.return_, 1) := fun q => sy_d177 (sy_i1_r hb q)
  cases hC : sy_i1 bs (ev_pc cd ix) 177 with
  | false =>
    rw [hC] at h
    exact absurd h (by simp)
  | true =>
    have hd := hD hC
    unfold ev_k49
    rw [decide_eq_true hd]
    rw [hC] at h
    exact h
def cf_k50 (Gc : List (List Cond)) (Ct : List ev_Ct) (kt : List FieldType) (Pg : List ev_Mt) (sm : ev_Sm) (bs : List (List Nat)) (own nm : String) (cc : ByteArray) (nL : Nat) (ret : Option FieldType) (cd : ev_Cd) (ix : Nat) (i : ev_I) : Bool := sy_i1 bs (ev_pc cd ix) 172
theorem cf_l50 {Gc : List (List Cond)} {Ct : List ev_Ct} {kt : List FieldType} {Pg : List ev_Mt} {sm : ev_Sm} {bs : List (List Nat)} {own nm : String} {cc : ByteArray} {nL : Nat} {ret : Option FieldType} {cd : ev_Cd} {ix : Nat} {i : ev_I} (hb : sy_By cc bs) (h : cf_k50 Gc Ct kt Pg sm bs own nm cc nL ret cd ix i = true) : ev_k50 Gc Ct kt Pg sm own nm cc nL ret cd ix i = true := by
  unfold cf_k50 at h
  have hD : sy_i1 bs (ev_pc cd ix) 172 = true → decode cc (ev_pc cd ix) = .ok (.ireturn, 1) := fun q => sy_d172 (sy_i1_r hb q)
  cases hC : sy_i1 bs (ev_pc cd ix) 172 with
  | false =>
    rw [hC] at h
    exact absurd h (by simp)
  | true =>
    have hd := hD hC
    unfold ev_k50
    rw [decide_eq_true hd]
def cf_k51 (Gc : List (List Cond)) (Ct : List ev_Ct) (kt : List FieldType) (Pg : List ev_Mt) (sm : ev_Sm) (bs : List (List Nat)) (own nm : String) (cc : ByteArray) (nL : Nat) (ret : Option FieldType) (cd : ev_Cd) (ix : Nat) (i : ev_I) : Bool := sy_i1 bs (ev_pc cd ix) 46 && decide (ev_pc cd (ix + 1) = ev_pc cd ix + 1) && decide (kt[i.2.2.1]? = some .int)
theorem cf_l51 {Gc : List (List Cond)} {Ct : List ev_Ct} {kt : List FieldType} {Pg : List ev_Mt} {sm : ev_Sm} {bs : List (List Nat)} {own nm : String} {cc : ByteArray} {nL : Nat} {ret : Option FieldType} {cd : ev_Cd} {ix : Nat} {i : ev_I} (hb : sy_By cc bs) (h : cf_k51 Gc Ct kt Pg sm bs own nm cc nL ret cd ix i = true) : ev_k51 Gc Ct kt Pg sm own nm cc nL ret cd ix i = true := by
  unfold cf_k51 at h
  have hD : sy_i1 bs (ev_pc cd ix) 46 = true → decode cc (ev_pc cd ix) = .ok (.iaload, 1) := fun q => sy_d46 (sy_i1_r hb q)
  cases hC : sy_i1 bs (ev_pc cd ix) 46 with
  | false =>
    rw [hC] at h
    exact absurd h (by simp)
  | true =>
    have hd := hD hC
    unfold ev_k51
    rw [decide_eq_true hd]
    rw [hC] at h
    exact h
def cf_k52 (Gc : List (List Cond)) (Ct : List ev_Ct) (kt : List FieldType) (Pg : List ev_Mt) (sm : ev_Sm) (bs : List (List Nat)) (own nm : String) (cc : ByteArray) (nL : Nat) (ret : Option FieldType) (cd : ev_Cd) (ix : Nat) (i : ev_I) : Bool := sy_i1 bs (ev_pc cd ix) 51 && decide (ev_pc cd (ix + 1) = ev_pc cd ix + 1) && decide (kt[i.2.2.1]? = some .byte)
theorem cf_l52 {Gc : List (List Cond)} {Ct : List ev_Ct} {kt : List FieldType} {Pg : List ev_Mt} {sm : ev_Sm} {bs : List (List Nat)} {own nm : String} {cc : ByteArray} {nL : Nat} {ret : Option FieldType} {cd : ev_Cd} {ix : Nat} {i : ev_I} (hb : sy_By cc bs) (h : cf_k52 Gc Ct kt Pg sm bs own nm cc nL ret cd ix i = true) : ev_k52 Gc Ct kt Pg sm own nm cc nL ret cd ix i = true := by
  unfold cf_k52 at h
  have hD : sy_i1 bs (ev_pc cd ix) 51 = true → decode cc (ev_pc cd ix) = .ok (.baload, 1) := fun q => sy_d51 (sy_i1_r hb q)
  cases hC : sy_i1 bs (ev_pc cd ix) 51 with
  | false =>
    rw [hC] at h
    exact absurd h (by simp)
  | true =>
    have hd := hD hC
    unfold ev_k52
    rw [decide_eq_true hd]
    rw [hC] at h
    exact h
def cf_k54 (Gc : List (List Cond)) (Ct : List ev_Ct) (kt : List FieldType) (Pg : List ev_Mt) (sm : ev_Sm) (bs : List (List Nat)) (own nm : String) (cc : ByteArray) (nL : Nat) (ret : Option FieldType) (cd : ev_Cd) (ix : Nat) (i : ev_I) : Bool := sy_i1 bs (ev_pc cd ix) 47 && decide (ev_pc cd (ix + 1) = ev_pc cd ix + 1) && decide (kt[i.2.2.1]? = some .long)
theorem cf_l54 {Gc : List (List Cond)} {Ct : List ev_Ct} {kt : List FieldType} {Pg : List ev_Mt} {sm : ev_Sm} {bs : List (List Nat)} {own nm : String} {cc : ByteArray} {nL : Nat} {ret : Option FieldType} {cd : ev_Cd} {ix : Nat} {i : ev_I} (hb : sy_By cc bs) (h : cf_k54 Gc Ct kt Pg sm bs own nm cc nL ret cd ix i = true) : ev_k54 Gc Ct kt Pg sm own nm cc nL ret cd ix i = true := by
  unfold cf_k54 at h
  have hD : sy_i1 bs (ev_pc cd ix) 47 = true → decode cc (ev_pc cd ix) = .ok (.laload, 1) := fun q => sy_d47 (sy_i1_r hb q)
  cases hC : sy_i1 bs (ev_pc cd ix) 47 with
  | false =>
    rw [hC] at h
    exact absurd h (by simp)
  | true =>
    have hd := hD hC
    unfold ev_k54
    rw [decide_eq_true hd]
    rw [hC] at h
    exact h
def cf_k55 (Gc : List (List Cond)) (Ct : List ev_Ct) (kt : List FieldType) (Pg : List ev_Mt) (sm : ev_Sm) (bs : List (List Nat)) (own nm : String) (cc : ByteArray) (nL : Nat) (ret : Option FieldType) (cd : ev_Cd) (ix : Nat) (i : ev_I) : Bool := sy_b3 bs (ev_pc cd ix) 183 i.2.2.2.2.1 && decide (ev_pc cd (ix + 1) = ev_pc cd ix + 3) && (match Pg[i.2.2.2.2.2.1]? with
    | some ((y, bytes, maxL, rt), _) => decide (ev_hg Gc (i.2.2.2.2.2.2) = some (Cond.methodLink own i.2.2.2.2.1 y)) && decide (maxL ≤ maxL) && decide (ev_hg Gc (i.2.2.1 + 1) = some (Cond.initialized y.cls)) && decide (ev_hg Gc (i.2.2.1 + 2) = some (Cond.instanceMethod y)) && decide (y.name = "<init>") && decide (rt = none) && decide (y.cls ≠ "java/lang/invoke/MethodHandle" ∧ y.cls ≠ "java/lang/invoke/VarHandle" ∧ (parseMethodDescriptor y.desc).map (fun d => d.parameters.length) = some i.2.2.2.1) && decide (maxL ≤ 71)
    | _ => false)
theorem cf_l55 {Gc : List (List Cond)} {Ct : List ev_Ct} {kt : List FieldType} {Pg : List ev_Mt} {sm : ev_Sm} {bs : List (List Nat)} {own nm : String} {cc : ByteArray} {nL : Nat} {ret : Option FieldType} {cd : ev_Cd} {ix : Nat} {i : ev_I} (hb : sy_By cc bs) (h : cf_k55 Gc Ct kt Pg sm bs own nm cc nL ret cd ix i = true) : ev_k55 Gc Ct kt Pg sm own nm cc nL ret cd ix i = true := by
  unfold cf_k55 at h
  have hD : sy_b3 bs (ev_pc cd ix) 183 i.2.2.2.2.1 = true → decode cc (ev_pc cd ix) = .ok (.invokespecial i.2.2.2.2.1, 3) := fun q => sy_d183 (sy_b3_r hb q).1 (sy_b3_r hb q).2
  cases hC : sy_b3 bs (ev_pc cd ix) 183 i.2.2.2.2.1 with
  | false =>
    rw [hC] at h
    exact absurd h (by simp)
  | true =>
    have hd := hD hC
    unfold ev_k55
    rw [decide_eq_true hd]
    rw [hC] at h
    exact h
def cf_k56 (Gc : List (List Cond)) (Ct : List ev_Ct) (kt : List FieldType) (Pg : List ev_Mt) (sm : ev_Sm) (bs : List (List Nat)) (own nm : String) (cc : ByteArray) (nL : Nat) (ret : Option FieldType) (cd : ev_Cd) (ix : Nat) (i : ev_I) : Bool := sy_b3 bs (ev_pc cd ix) 182 i.2.2.2.2.1 && decide (ev_pc cd (ix + 1) = ev_pc cd ix + 3) && (match Pg[i.2.2.2.2.2.1]? with
    | some ((y, bytes, maxL, rt), _) => decide (ev_hg Gc (i.2.2.2.2.2.2 / 64) = some (Cond.methodLink own i.2.2.2.2.1 y)) && decide (maxL ≤ maxL) && decide (ev_hg Gc (i.2.2.1 + 1) = some (Cond.initialized y.cls)) && decide (ev_hg Gc (i.2.2.1 + 2) = some (Cond.instanceMethod y)) && decide (ev_hg Gc (i.2.2.1 + 3) = some (Cond.selects y.cls y y)) && (match Ct[i.2.2.2.2.2.2 % 64]? with
      | some q => decide (q.1.1 = y.cls)
      | none => false) && decide (y.cls ≠ "java/lang/invoke/MethodHandle" ∧ y.cls ≠ "java/lang/invoke/VarHandle" ∧ (parseMethodDescriptor y.desc).map (fun d => d.parameters.length) = some i.2.2.2.1) && decide (maxL ≤ 71)
    | _ => false)
theorem cf_l56 {Gc : List (List Cond)} {Ct : List ev_Ct} {kt : List FieldType} {Pg : List ev_Mt} {sm : ev_Sm} {bs : List (List Nat)} {own nm : String} {cc : ByteArray} {nL : Nat} {ret : Option FieldType} {cd : ev_Cd} {ix : Nat} {i : ev_I} (hb : sy_By cc bs) (h : cf_k56 Gc Ct kt Pg sm bs own nm cc nL ret cd ix i = true) : ev_k56 Gc Ct kt Pg sm own nm cc nL ret cd ix i = true := by
  unfold cf_k56 at h
  have hD : sy_b3 bs (ev_pc cd ix) 182 i.2.2.2.2.1 = true → decode cc (ev_pc cd ix) = .ok (.invokevirtual i.2.2.2.2.1, 3) := fun q => sy_d182 (sy_b3_r hb q).1 (sy_b3_r hb q).2
  cases hC : sy_b3 bs (ev_pc cd ix) 182 i.2.2.2.2.1 with
  | false =>
    rw [hC] at h
    exact absurd h (by simp)
  | true =>
    have hd := hD hC
    unfold ev_k56
    rw [decide_eq_true hd]
    rw [hC] at h
    exact h
def cf_k57 (Gc : List (List Cond)) (Ct : List ev_Ct) (kt : List FieldType) (Pg : List ev_Mt) (sm : ev_Sm) (bs : List (List Nat)) (own nm : String) (cc : ByteArray) (nL : Nat) (ret : Option FieldType) (cd : ev_Cd) (ix : Nat) (i : ev_I) : Bool := sy_b3 bs (ev_pc cd ix) 184 i.2.2.2.2.1 && decide (ev_pc cd (ix + 1) = ev_pc cd ix + 3) && (match Pg[i.2.2.2.2.2.1]? with
    | some ((y, bytes, maxL, rt), _) => decide (ev_hg Gc (i.2.2.2.2.2.2) = some (Cond.methodLink own i.2.2.2.2.1 y)) && decide (maxL ≤ maxL) && decide (ev_hg Gc (i.2.2.1 + 1) = some (Cond.initialized y.cls)) && decide (ev_hg Gc (i.2.2.1 + 2) = some (Cond.static y)) && decide (y.cls ≠ "java/lang/invoke/MethodHandle" ∧ y.cls ≠ "java/lang/invoke/VarHandle" ∧ (parseMethodDescriptor y.desc).map (fun d => d.parameters.length) = some i.2.2.2.1) && decide (maxL ≤ 71)
    | _ => false)
theorem cf_l57 {Gc : List (List Cond)} {Ct : List ev_Ct} {kt : List FieldType} {Pg : List ev_Mt} {sm : ev_Sm} {bs : List (List Nat)} {own nm : String} {cc : ByteArray} {nL : Nat} {ret : Option FieldType} {cd : ev_Cd} {ix : Nat} {i : ev_I} (hb : sy_By cc bs) (h : cf_k57 Gc Ct kt Pg sm bs own nm cc nL ret cd ix i = true) : ev_k57 Gc Ct kt Pg sm own nm cc nL ret cd ix i = true := by
  unfold cf_k57 at h
  have hD : sy_b3 bs (ev_pc cd ix) 184 i.2.2.2.2.1 = true → decode cc (ev_pc cd ix) = .ok (.invokestatic i.2.2.2.2.1, 3) := fun q => sy_d184 (sy_b3_r hb q).1 (sy_b3_r hb q).2
  cases hC : sy_b3 bs (ev_pc cd ix) 184 i.2.2.2.2.1 with
  | false =>
    rw [hC] at h
    exact absurd h (by simp)
  | true =>
    have hd := hD hC
    unfold ev_k57
    rw [decide_eq_true hd]
    rw [hC] at h
    exact h
def cf_k58 (Gc : List (List Cond)) (Ct : List ev_Ct) (kt : List FieldType) (Pg : List ev_Mt) (sm : ev_Sm) (bs : List (List Nat)) (own nm : String) (cc : ByteArray) (nL : Nat) (ret : Option FieldType) (cd : ev_Cd) (ix : Nat) (i : ev_I) : Bool := sy_b3 bs (ev_pc cd ix) 184 i.2.2.2.2.1 && decide (ev_pc cd (ix + 1) = ev_pc cd ix + 3) && (match Pg[i.2.2.2.2.2.1]? with
    | some ((y, bytes, maxL, rt), _) => decide (ev_hg Gc (i.2.2.2.2.2.2) = some (Cond.methodLink own i.2.2.2.2.1 y)) && decide (maxL ≤ maxL) && decide (ev_hg Gc (i.2.2.1 + 1) = some (Cond.initialized y.cls)) && decide (ev_hg Gc (i.2.2.1 + 2) = some (Cond.static y)) && decide (y.cls ≠ "java/lang/invoke/MethodHandle" ∧ y.cls ≠ "java/lang/invoke/VarHandle" ∧ (parseMethodDescriptor y.desc).map (fun d => d.parameters.length) = some i.2.2.2.1) && decide (maxL ≤ 71)
    | _ => false)
theorem cf_l58 {Gc : List (List Cond)} {Ct : List ev_Ct} {kt : List FieldType} {Pg : List ev_Mt} {sm : ev_Sm} {bs : List (List Nat)} {own nm : String} {cc : ByteArray} {nL : Nat} {ret : Option FieldType} {cd : ev_Cd} {ix : Nat} {i : ev_I} (hb : sy_By cc bs) (h : cf_k58 Gc Ct kt Pg sm bs own nm cc nL ret cd ix i = true) : ev_k58 Gc Ct kt Pg sm own nm cc nL ret cd ix i = true := by
  unfold cf_k58 at h
  have hD : sy_b3 bs (ev_pc cd ix) 184 i.2.2.2.2.1 = true → decode cc (ev_pc cd ix) = .ok (.invokestatic i.2.2.2.2.1, 3) := fun q => sy_d184 (sy_b3_r hb q).1 (sy_b3_r hb q).2
  cases hC : sy_b3 bs (ev_pc cd ix) 184 i.2.2.2.2.1 with
  | false =>
    rw [hC] at h
    exact absurd h (by simp)
  | true =>
    have hd := hD hC
    unfold ev_k58
    rw [decide_eq_true hd]
    rw [hC] at h
    exact h
def cf_k59 (Gc : List (List Cond)) (Ct : List ev_Ct) (kt : List FieldType) (Pg : List ev_Mt) (sm : ev_Sm) (bs : List (List Nat)) (own nm : String) (cc : ByteArray) (nL : Nat) (ret : Option FieldType) (cd : ev_Cd) (ix : Nat) (i : ev_I) : Bool := sy_i1 bs (ev_pc cd ix) 79 && decide (ev_pc cd (ix + 1) = ev_pc cd ix + 1) && decide (kt[i.2.2.1]? = some .int)
theorem cf_l59 {Gc : List (List Cond)} {Ct : List ev_Ct} {kt : List FieldType} {Pg : List ev_Mt} {sm : ev_Sm} {bs : List (List Nat)} {own nm : String} {cc : ByteArray} {nL : Nat} {ret : Option FieldType} {cd : ev_Cd} {ix : Nat} {i : ev_I} (hb : sy_By cc bs) (h : cf_k59 Gc Ct kt Pg sm bs own nm cc nL ret cd ix i = true) : ev_k59 Gc Ct kt Pg sm own nm cc nL ret cd ix i = true := by
  unfold cf_k59 at h
  have hD : sy_i1 bs (ev_pc cd ix) 79 = true → decode cc (ev_pc cd ix) = .ok (.iastore, 1) := fun q => sy_d79 (sy_i1_r hb q)
  cases hC : sy_i1 bs (ev_pc cd ix) 79 with
  | false =>
    rw [hC] at h
    exact absurd h (by simp)
  | true =>
    have hd := hD hC
    unfold ev_k59
    rw [decide_eq_true hd]
    rw [hC] at h
    exact h
def cf_k60 (Gc : List (List Cond)) (Ct : List ev_Ct) (kt : List FieldType) (Pg : List ev_Mt) (sm : ev_Sm) (bs : List (List Nat)) (own nm : String) (cc : ByteArray) (nL : Nat) (ret : Option FieldType) (cd : ev_Cd) (ix : Nat) (i : ev_I) : Bool := sy_i1 bs (ev_pc cd ix) 84 && decide (ev_pc cd (ix + 1) = ev_pc cd ix + 1) && decide (kt[i.2.2.1]? = some .byte)
theorem cf_l60 {Gc : List (List Cond)} {Ct : List ev_Ct} {kt : List FieldType} {Pg : List ev_Mt} {sm : ev_Sm} {bs : List (List Nat)} {own nm : String} {cc : ByteArray} {nL : Nat} {ret : Option FieldType} {cd : ev_Cd} {ix : Nat} {i : ev_I} (hb : sy_By cc bs) (h : cf_k60 Gc Ct kt Pg sm bs own nm cc nL ret cd ix i = true) : ev_k60 Gc Ct kt Pg sm own nm cc nL ret cd ix i = true := by
  unfold cf_k60 at h
  have hD : sy_i1 bs (ev_pc cd ix) 84 = true → decode cc (ev_pc cd ix) = .ok (.bastore, 1) := fun q => sy_d84 (sy_i1_r hb q)
  cases hC : sy_i1 bs (ev_pc cd ix) 84 with
  | false =>
    rw [hC] at h
    exact absurd h (by simp)
  | true =>
    have hd := hD hC
    unfold ev_k60
    rw [decide_eq_true hd]
    rw [hC] at h
    exact h
def cf_k62 (Gc : List (List Cond)) (Ct : List ev_Ct) (kt : List FieldType) (Pg : List ev_Mt) (sm : ev_Sm) (bs : List (List Nat)) (own nm : String) (cc : ByteArray) (nL : Nat) (ret : Option FieldType) (cd : ev_Cd) (ix : Nat) (i : ev_I) : Bool := sy_i1 bs (ev_pc cd ix) 80 && decide (ev_pc cd (ix + 1) = ev_pc cd ix + 1) && decide (kt[i.2.2.1]? = some .long)
theorem cf_l62 {Gc : List (List Cond)} {Ct : List ev_Ct} {kt : List FieldType} {Pg : List ev_Mt} {sm : ev_Sm} {bs : List (List Nat)} {own nm : String} {cc : ByteArray} {nL : Nat} {ret : Option FieldType} {cd : ev_Cd} {ix : Nat} {i : ev_I} (hb : sy_By cc bs) (h : cf_k62 Gc Ct kt Pg sm bs own nm cc nL ret cd ix i = true) : ev_k62 Gc Ct kt Pg sm own nm cc nL ret cd ix i = true := by
  unfold cf_k62 at h
  have hD : sy_i1 bs (ev_pc cd ix) 80 = true → decode cc (ev_pc cd ix) = .ok (.lastore, 1) := fun q => sy_d80 (sy_i1_r hb q)
  cases hC : sy_i1 bs (ev_pc cd ix) 80 with
  | false =>
    rw [hC] at h
    exact absurd h (by simp)
  | true =>
    have hd := hD hC
    unfold ev_k62
    rw [decide_eq_true hd]
    rw [hC] at h
    exact h
def cf_k63 (Gc : List (List Cond)) (Ct : List ev_Ct) (kt : List FieldType) (Pg : List ev_Mt) (sm : ev_Sm) (bs : List (List Nat)) (own nm : String) (cc : ByteArray) (nL : Nat) (ret : Option FieldType) (cd : ev_Cd) (ix : Nat) (i : ev_I) : Bool := sy_b3 bs (ev_pc cd ix) 184 i.2.2.2.2.1 && decide (ev_pc cd (ix + 1) = ev_pc cd ix + 3) && decide (kt[i.2.2.1]? = some (ev_ty i.2.2.2.2.2.1)) && decide (refKind (ev_ty i.2.2.2.2.2.1) = false) && decide (ev_hg Gc (i.2.2.2.2.2.2) = some (Cond.methodLink own i.2.2.2.2.1 arraycopyName)) && decide (ev_hg Gc (i.2.2.2.1) = some (Cond.native arraycopyName)) && decide (ev_hg Gc (i.2.2.2.1 + 1) = some (Cond.static arraycopyName)) && decide (ev_hg Gc (i.2.2.2.1 + 2) = some (Cond.initialized "java/lang/System"))
theorem cf_l63 {Gc : List (List Cond)} {Ct : List ev_Ct} {kt : List FieldType} {Pg : List ev_Mt} {sm : ev_Sm} {bs : List (List Nat)} {own nm : String} {cc : ByteArray} {nL : Nat} {ret : Option FieldType} {cd : ev_Cd} {ix : Nat} {i : ev_I} (hb : sy_By cc bs) (h : cf_k63 Gc Ct kt Pg sm bs own nm cc nL ret cd ix i = true) : ev_k63 Gc Ct kt Pg sm own nm cc nL ret cd ix i = true := by
  unfold cf_k63 at h
  have hD : sy_b3 bs (ev_pc cd ix) 184 i.2.2.2.2.1 = true → decode cc (ev_pc cd ix) = .ok (.invokestatic i.2.2.2.2.1, 3) := fun q => sy_d184 (sy_b3_r hb q).1 (sy_b3_r hb q).2
  cases hC : sy_b3 bs (ev_pc cd ix) 184 i.2.2.2.2.1 with
  | false =>
    rw [hC] at h
    exact absurd h (by simp)
  | true =>
    have hd := hD hC
    unfold ev_k63
    rw [decide_eq_true hd]
    rw [hC] at h
    exact h
def cf_k66 (Gc : List (List Cond)) (Ct : List ev_Ct) (kt : List FieldType) (Pg : List ev_Mt) (sm : ev_Sm) (bs : List (List Nat)) (own nm : String) (cc : ByteArray) (nL : Nat) (ret : Option FieldType) (cd : ev_Cd) (ix : Nat) (i : ev_I) : Bool := sy_i1 bs (ev_pc cd ix) 97 && decide (ev_pc cd (ix + 1) = ev_pc cd ix + 1)
theorem cf_l66 {Gc : List (List Cond)} {Ct : List ev_Ct} {kt : List FieldType} {Pg : List ev_Mt} {sm : ev_Sm} {bs : List (List Nat)} {own nm : String} {cc : ByteArray} {nL : Nat} {ret : Option FieldType} {cd : ev_Cd} {ix : Nat} {i : ev_I} (hb : sy_By cc bs) (h : cf_k66 Gc Ct kt Pg sm bs own nm cc nL ret cd ix i = true) : ev_k66 Gc Ct kt Pg sm own nm cc nL ret cd ix i = true := by
  unfold cf_k66 at h
  have hD : sy_i1 bs (ev_pc cd ix) 97 = true → decode cc (ev_pc cd ix) = .ok (.ladd, 1) := fun q => sy_d97 (sy_i1_r hb q)
  cases hC : sy_i1 bs (ev_pc cd ix) 97 with
  | false =>
    rw [hC] at h
    exact absurd h (by simp)
  | true =>
    have hd := hD hC
    unfold ev_k66
    rw [decide_eq_true hd]
    rw [hC] at h
    exact h
def cf_k68 (Gc : List (List Cond)) (Ct : List ev_Ct) (kt : List FieldType) (Pg : List ev_Mt) (sm : ev_Sm) (bs : List (List Nat)) (own nm : String) (cc : ByteArray) (nL : Nat) (ret : Option FieldType) (cd : ev_Cd) (ix : Nat) (i : ev_I) : Bool := sy_i1 bs (ev_pc cd ix) 105 && decide (ev_pc cd (ix + 1) = ev_pc cd ix + 1)
theorem cf_l68 {Gc : List (List Cond)} {Ct : List ev_Ct} {kt : List FieldType} {Pg : List ev_Mt} {sm : ev_Sm} {bs : List (List Nat)} {own nm : String} {cc : ByteArray} {nL : Nat} {ret : Option FieldType} {cd : ev_Cd} {ix : Nat} {i : ev_I} (hb : sy_By cc bs) (h : cf_k68 Gc Ct kt Pg sm bs own nm cc nL ret cd ix i = true) : ev_k68 Gc Ct kt Pg sm own nm cc nL ret cd ix i = true := by
  unfold cf_k68 at h
  have hD : sy_i1 bs (ev_pc cd ix) 105 = true → decode cc (ev_pc cd ix) = .ok (.lmul, 1) := fun q => sy_d105 (sy_i1_r hb q)
  cases hC : sy_i1 bs (ev_pc cd ix) 105 with
  | false =>
    rw [hC] at h
    exact absurd h (by simp)
  | true =>
    have hd := hD hC
    unfold ev_k68
    rw [decide_eq_true hd]
    rw [hC] at h
    exact h
def cf_k69 (Gc : List (List Cond)) (Ct : List ev_Ct) (kt : List FieldType) (Pg : List ev_Mt) (sm : ev_Sm) (bs : List (List Nat)) (own nm : String) (cc : ByteArray) (nL : Nat) (ret : Option FieldType) (cd : ev_Cd) (ix : Nat) (i : ev_I) : Bool := sy_i1 bs (ev_pc cd ix) 127 && decide (ev_pc cd (ix + 1) = ev_pc cd ix + 1)
theorem cf_l69 {Gc : List (List Cond)} {Ct : List ev_Ct} {kt : List FieldType} {Pg : List ev_Mt} {sm : ev_Sm} {bs : List (List Nat)} {own nm : String} {cc : ByteArray} {nL : Nat} {ret : Option FieldType} {cd : ev_Cd} {ix : Nat} {i : ev_I} (hb : sy_By cc bs) (h : cf_k69 Gc Ct kt Pg sm bs own nm cc nL ret cd ix i = true) : ev_k69 Gc Ct kt Pg sm own nm cc nL ret cd ix i = true := by
  unfold cf_k69 at h
  have hD : sy_i1 bs (ev_pc cd ix) 127 = true → decode cc (ev_pc cd ix) = .ok (.land, 1) := fun q => sy_d127 (sy_i1_r hb q)
  cases hC : sy_i1 bs (ev_pc cd ix) 127 with
  | false =>
    rw [hC] at h
    exact absurd h (by simp)
  | true =>
    have hd := hD hC
    unfold ev_k69
    rw [decide_eq_true hd]
    rw [hC] at h
    exact h
def cf_k70 (Gc : List (List Cond)) (Ct : List ev_Ct) (kt : List FieldType) (Pg : List ev_Mt) (sm : ev_Sm) (bs : List (List Nat)) (own nm : String) (cc : ByteArray) (nL : Nat) (ret : Option FieldType) (cd : ev_Cd) (ix : Nat) (i : ev_I) : Bool := sy_i1 bs (ev_pc cd ix) 129 && decide (ev_pc cd (ix + 1) = ev_pc cd ix + 1)
theorem cf_l70 {Gc : List (List Cond)} {Ct : List ev_Ct} {kt : List FieldType} {Pg : List ev_Mt} {sm : ev_Sm} {bs : List (List Nat)} {own nm : String} {cc : ByteArray} {nL : Nat} {ret : Option FieldType} {cd : ev_Cd} {ix : Nat} {i : ev_I} (hb : sy_By cc bs) (h : cf_k70 Gc Ct kt Pg sm bs own nm cc nL ret cd ix i = true) : ev_k70 Gc Ct kt Pg sm own nm cc nL ret cd ix i = true := by
  unfold cf_k70 at h
  have hD : sy_i1 bs (ev_pc cd ix) 129 = true → decode cc (ev_pc cd ix) = .ok (.lor, 1) := fun q => sy_d129 (sy_i1_r hb q)
  cases hC : sy_i1 bs (ev_pc cd ix) 129 with
  | false =>
    rw [hC] at h
    exact absurd h (by simp)
  | true =>
    have hd := hD hC
    unfold ev_k70
    rw [decide_eq_true hd]
    rw [hC] at h
    exact h
def cf_k71 (Gc : List (List Cond)) (Ct : List ev_Ct) (kt : List FieldType) (Pg : List ev_Mt) (sm : ev_Sm) (bs : List (List Nat)) (own nm : String) (cc : ByteArray) (nL : Nat) (ret : Option FieldType) (cd : ev_Cd) (ix : Nat) (i : ev_I) : Bool := sy_i1 bs (ev_pc cd ix) 131 && decide (ev_pc cd (ix + 1) = ev_pc cd ix + 1)
theorem cf_l71 {Gc : List (List Cond)} {Ct : List ev_Ct} {kt : List FieldType} {Pg : List ev_Mt} {sm : ev_Sm} {bs : List (List Nat)} {own nm : String} {cc : ByteArray} {nL : Nat} {ret : Option FieldType} {cd : ev_Cd} {ix : Nat} {i : ev_I} (hb : sy_By cc bs) (h : cf_k71 Gc Ct kt Pg sm bs own nm cc nL ret cd ix i = true) : ev_k71 Gc Ct kt Pg sm own nm cc nL ret cd ix i = true := by
  unfold cf_k71 at h
  have hD : sy_i1 bs (ev_pc cd ix) 131 = true → decode cc (ev_pc cd ix) = .ok (.lxor, 1) := fun q => sy_d131 (sy_i1_r hb q)
  cases hC : sy_i1 bs (ev_pc cd ix) 131 with
  | false =>
    rw [hC] at h
    exact absurd h (by simp)
  | true =>
    have hd := hD hC
    unfold ev_k71
    rw [decide_eq_true hd]
    rw [hC] at h
    exact h
def cf_k72 (Gc : List (List Cond)) (Ct : List ev_Ct) (kt : List FieldType) (Pg : List ev_Mt) (sm : ev_Sm) (bs : List (List Nat)) (own nm : String) (cc : ByteArray) (nL : Nat) (ret : Option FieldType) (cd : ev_Cd) (ix : Nat) (i : ev_I) : Bool := sy_i1 bs (ev_pc cd ix) 121 && decide (ev_pc cd (ix + 1) = ev_pc cd ix + 1)
theorem cf_l72 {Gc : List (List Cond)} {Ct : List ev_Ct} {kt : List FieldType} {Pg : List ev_Mt} {sm : ev_Sm} {bs : List (List Nat)} {own nm : String} {cc : ByteArray} {nL : Nat} {ret : Option FieldType} {cd : ev_Cd} {ix : Nat} {i : ev_I} (hb : sy_By cc bs) (h : cf_k72 Gc Ct kt Pg sm bs own nm cc nL ret cd ix i = true) : ev_k72 Gc Ct kt Pg sm own nm cc nL ret cd ix i = true := by
  unfold cf_k72 at h
  have hD : sy_i1 bs (ev_pc cd ix) 121 = true → decode cc (ev_pc cd ix) = .ok (.lshl, 1) := fun q => sy_d121 (sy_i1_r hb q)
  cases hC : sy_i1 bs (ev_pc cd ix) 121 with
  | false =>
    rw [hC] at h
    exact absurd h (by simp)
  | true =>
    have hd := hD hC
    unfold ev_k72
    rw [decide_eq_true hd]
    rw [hC] at h
    exact h
def cf_k73 (Gc : List (List Cond)) (Ct : List ev_Ct) (kt : List FieldType) (Pg : List ev_Mt) (sm : ev_Sm) (bs : List (List Nat)) (own nm : String) (cc : ByteArray) (nL : Nat) (ret : Option FieldType) (cd : ev_Cd) (ix : Nat) (i : ev_I) : Bool := sy_i1 bs (ev_pc cd ix) 123 && decide (ev_pc cd (ix + 1) = ev_pc cd ix + 1)
theorem cf_l73 {Gc : List (List Cond)} {Ct : List ev_Ct} {kt : List FieldType} {Pg : List ev_Mt} {sm : ev_Sm} {bs : List (List Nat)} {own nm : String} {cc : ByteArray} {nL : Nat} {ret : Option FieldType} {cd : ev_Cd} {ix : Nat} {i : ev_I} (hb : sy_By cc bs) (h : cf_k73 Gc Ct kt Pg sm bs own nm cc nL ret cd ix i = true) : ev_k73 Gc Ct kt Pg sm own nm cc nL ret cd ix i = true := by
  unfold cf_k73 at h
  have hD : sy_i1 bs (ev_pc cd ix) 123 = true → decode cc (ev_pc cd ix) = .ok (.lshr, 1) := fun q => sy_d123 (sy_i1_r hb q)
  cases hC : sy_i1 bs (ev_pc cd ix) 123 with
  | false =>
    rw [hC] at h
    exact absurd h (by simp)
  | true =>
    have hd := hD hC
    unfold ev_k73
    rw [decide_eq_true hd]
    rw [hC] at h
    exact h
def cf_k75 (Gc : List (List Cond)) (Ct : List ev_Ct) (kt : List FieldType) (Pg : List ev_Mt) (sm : ev_Sm) (bs : List (List Nat)) (own nm : String) (cc : ByteArray) (nL : Nat) (ret : Option FieldType) (cd : ev_Cd) (ix : Nat) (i : ev_I) : Bool := sy_i1 bs (ev_pc cd ix) 148 && decide (ev_pc cd (ix + 1) = ev_pc cd ix + 1)
theorem cf_l75 {Gc : List (List Cond)} {Ct : List ev_Ct} {kt : List FieldType} {Pg : List ev_Mt} {sm : ev_Sm} {bs : List (List Nat)} {own nm : String} {cc : ByteArray} {nL : Nat} {ret : Option FieldType} {cd : ev_Cd} {ix : Nat} {i : ev_I} (hb : sy_By cc bs) (h : cf_k75 Gc Ct kt Pg sm bs own nm cc nL ret cd ix i = true) : ev_k75 Gc Ct kt Pg sm own nm cc nL ret cd ix i = true := by
  unfold cf_k75 at h
  have hD : sy_i1 bs (ev_pc cd ix) 148 = true → decode cc (ev_pc cd ix) = .ok (.lcmp, 1) := fun q => sy_d148 (sy_i1_r hb q)
  cases hC : sy_i1 bs (ev_pc cd ix) 148 with
  | false =>
    rw [hC] at h
    exact absurd h (by simp)
  | true =>
    have hd := hD hC
    unfold ev_k75
    rw [decide_eq_true hd]
    rw [hC] at h
    exact h
def cf_k76 (Gc : List (List Cond)) (Ct : List ev_Ct) (kt : List FieldType) (Pg : List ev_Mt) (sm : ev_Sm) (bs : List (List Nat)) (own nm : String) (cc : ByteArray) (nL : Nat) (ret : Option FieldType) (cd : ev_Cd) (ix : Nat) (i : ev_I) : Bool := sy_i1 bs (ev_pc cd ix) 133 && decide (ev_pc cd (ix + 1) = ev_pc cd ix + 1)
theorem cf_l76 {Gc : List (List Cond)} {Ct : List ev_Ct} {kt : List FieldType} {Pg : List ev_Mt} {sm : ev_Sm} {bs : List (List Nat)} {own nm : String} {cc : ByteArray} {nL : Nat} {ret : Option FieldType} {cd : ev_Cd} {ix : Nat} {i : ev_I} (hb : sy_By cc bs) (h : cf_k76 Gc Ct kt Pg sm bs own nm cc nL ret cd ix i = true) : ev_k76 Gc Ct kt Pg sm own nm cc nL ret cd ix i = true := by
  unfold cf_k76 at h
  have hD : sy_i1 bs (ev_pc cd ix) 133 = true → decode cc (ev_pc cd ix) = .ok (.i2l, 1) := fun q => sy_d133 (sy_i1_r hb q)
  cases hC : sy_i1 bs (ev_pc cd ix) 133 with
  | false =>
    rw [hC] at h
    exact absurd h (by simp)
  | true =>
    have hd := hD hC
    unfold ev_k76
    rw [decide_eq_true hd]
    rw [hC] at h
    exact h
def cf_k78 (Gc : List (List Cond)) (Ct : List ev_Ct) (kt : List FieldType) (Pg : List ev_Mt) (sm : ev_Sm) (bs : List (List Nat)) (own nm : String) (cc : ByteArray) (nL : Nat) (ret : Option FieldType) (cd : ev_Cd) (ix : Nat) (i : ev_I) : Bool := sy_i1 bs (ev_pc cd ix) 145 && decide (ev_pc cd (ix + 1) = ev_pc cd ix + 1)
theorem cf_l78 {Gc : List (List Cond)} {Ct : List ev_Ct} {kt : List FieldType} {Pg : List ev_Mt} {sm : ev_Sm} {bs : List (List Nat)} {own nm : String} {cc : ByteArray} {nL : Nat} {ret : Option FieldType} {cd : ev_Cd} {ix : Nat} {i : ev_I} (hb : sy_By cc bs) (h : cf_k78 Gc Ct kt Pg sm bs own nm cc nL ret cd ix i = true) : ev_k78 Gc Ct kt Pg sm own nm cc nL ret cd ix i = true := by
  unfold cf_k78 at h
  have hD : sy_i1 bs (ev_pc cd ix) 145 = true → decode cc (ev_pc cd ix) = .ok (.i2b, 1) := fun q => sy_d145 (sy_i1_r hb q)
  cases hC : sy_i1 bs (ev_pc cd ix) 145 with
  | false =>
    rw [hC] at h
    exact absurd h (by simp)
  | true =>
    have hd := hD hC
    unfold ev_k78
    rw [decide_eq_true hd]
    rw [hC] at h
    exact h
def cf_k79 (Gc : List (List Cond)) (Ct : List ev_Ct) (kt : List FieldType) (Pg : List ev_Mt) (sm : ev_Sm) (bs : List (List Nat)) (own nm : String) (cc : ByteArray) (nL : Nat) (ret : Option FieldType) (cd : ev_Cd) (ix : Nat) (i : ev_I) : Bool := sy_i1 bs (ev_pc cd ix) 108 && decide (ev_pc cd (ix + 1) = ev_pc cd ix + 1)
theorem cf_l79 {Gc : List (List Cond)} {Ct : List ev_Ct} {kt : List FieldType} {Pg : List ev_Mt} {sm : ev_Sm} {bs : List (List Nat)} {own nm : String} {cc : ByteArray} {nL : Nat} {ret : Option FieldType} {cd : ev_Cd} {ix : Nat} {i : ev_I} (hb : sy_By cc bs) (h : cf_k79 Gc Ct kt Pg sm bs own nm cc nL ret cd ix i = true) : ev_k79 Gc Ct kt Pg sm own nm cc nL ret cd ix i = true := by
  unfold cf_k79 at h
  have hD : sy_i1 bs (ev_pc cd ix) 108 = true → decode cc (ev_pc cd ix) = .ok (.idiv, 1) := fun q => sy_d108 (sy_i1_r hb q)
  cases hC : sy_i1 bs (ev_pc cd ix) 108 with
  | false =>
    rw [hC] at h
    exact absurd h (by simp)
  | true =>
    have hd := hD hC
    unfold ev_k79
    rw [decide_eq_true hd]
    rw [hC] at h
    exact h
def cf_k80 (Gc : List (List Cond)) (Ct : List ev_Ct) (kt : List FieldType) (Pg : List ev_Mt) (sm : ev_Sm) (bs : List (List Nat)) (own nm : String) (cc : ByteArray) (nL : Nat) (ret : Option FieldType) (cd : ev_Cd) (ix : Nat) (i : ev_I) : Bool := sy_i1 bs (ev_pc cd ix) 112 && decide (ev_pc cd (ix + 1) = ev_pc cd ix + 1)
theorem cf_l80 {Gc : List (List Cond)} {Ct : List ev_Ct} {kt : List FieldType} {Pg : List ev_Mt} {sm : ev_Sm} {bs : List (List Nat)} {own nm : String} {cc : ByteArray} {nL : Nat} {ret : Option FieldType} {cd : ev_Cd} {ix : Nat} {i : ev_I} (hb : sy_By cc bs) (h : cf_k80 Gc Ct kt Pg sm bs own nm cc nL ret cd ix i = true) : ev_k80 Gc Ct kt Pg sm own nm cc nL ret cd ix i = true := by
  unfold cf_k80 at h
  have hD : sy_i1 bs (ev_pc cd ix) 112 = true → decode cc (ev_pc cd ix) = .ok (.irem, 1) := fun q => sy_d112 (sy_i1_r hb q)
  cases hC : sy_i1 bs (ev_pc cd ix) 112 with
  | false =>
    rw [hC] at h
    exact absurd h (by simp)
  | true =>
    have hd := hD hC
    unfold ev_k80
    rw [decide_eq_true hd]
    rw [hC] at h
    exact h
def cf_k82 (Gc : List (List Cond)) (Ct : List ev_Ct) (kt : List FieldType) (Pg : List ev_Mt) (sm : ev_Sm) (bs : List (List Nat)) (own nm : String) (cc : ByteArray) (nL : Nat) (ret : Option FieldType) (cd : ev_Cd) (ix : Nat) (i : ev_I) : Bool := sy_i1 bs (ev_pc cd ix) 124 && decide (ev_pc cd (ix + 1) = ev_pc cd ix + 1)
theorem cf_l82 {Gc : List (List Cond)} {Ct : List ev_Ct} {kt : List FieldType} {Pg : List ev_Mt} {sm : ev_Sm} {bs : List (List Nat)} {own nm : String} {cc : ByteArray} {nL : Nat} {ret : Option FieldType} {cd : ev_Cd} {ix : Nat} {i : ev_I} (hb : sy_By cc bs) (h : cf_k82 Gc Ct kt Pg sm bs own nm cc nL ret cd ix i = true) : ev_k82 Gc Ct kt Pg sm own nm cc nL ret cd ix i = true := by
  unfold cf_k82 at h
  have hD : sy_i1 bs (ev_pc cd ix) 124 = true → decode cc (ev_pc cd ix) = .ok (.iushr, 1) := fun q => sy_d124 (sy_i1_r hb q)
  cases hC : sy_i1 bs (ev_pc cd ix) 124 with
  | false =>
    rw [hC] at h
    exact absurd h (by simp)
  | true =>
    have hd := hD hC
    unfold ev_k82
    rw [decide_eq_true hd]
    rw [hC] at h
    exact h
def cf_k25 (Gc : List (List Cond)) (Ct : List ev_Ct) (kt : List FieldType) (Pg : List ev_Mt) (sm : ev_Sm) (bs : List (List Nat)) (own nm : String) (cc : ByteArray) (nL : Nat) (ret : Option FieldType) (cd : ev_Cd) (ix : Nat) (i : ev_I) : Bool := sy_bj bs (ev_pc cd ix) 167 (ev_pc cd i.2.2.1)
theorem cf_l25 {Gc : List (List Cond)} {Ct : List ev_Ct} {kt : List FieldType} {Pg : List ev_Mt} {sm : ev_Sm} {bs : List (List Nat)} {own nm : String} {cc : ByteArray} {nL : Nat} {ret : Option FieldType} {cd : ev_Cd} {ix : Nat} {i : ev_I} (hb : sy_By cc bs) (h : cf_k25 Gc Ct kt Pg sm bs own nm cc nL ret cd ix i = true) : ev_k25 Gc Ct kt Pg sm own nm cc nL ret cd ix i = true := by
  unfold cf_k25 at h
  unfold ev_k25
  simp only [Bool.and_eq_true, decide_eq_true_eq] at h ⊢
  obtain ⟨q1, q2⟩ := sy_bj_r hb h
  have hd := sy_d167 q1 q2
  have e : ev_dn cc (ev_pc cd ix) = ((ev_pc cd i.2.2.1 : Nat) : Int) - ((ev_pc cd ix : Nat) : Int) := by
    unfold ev_dn
    rw [hd]
  rw [e]
  exact ⟨hd, by omega⟩
def cf_k26 (Gc : List (List Cond)) (Ct : List ev_Ct) (kt : List FieldType) (Pg : List ev_Mt) (sm : ev_Sm) (bs : List (List Nat)) (own nm : String) (cc : ByteArray) (nL : Nat) (ret : Option FieldType) (cd : ev_Cd) (ix : Nat) (i : ev_I) : Bool := (sy_bj bs (ev_pc cd ix) (159 + i.2.2.2.2.2.1) (ev_pc cd i.2.2.1) && Nat.ble i.2.2.2.2.2.1 5) && decide (ev_pc cd (ix + 1) = ev_pc cd ix + 3)
theorem cf_l26 {Gc : List (List Cond)} {Ct : List ev_Ct} {kt : List FieldType} {Pg : List ev_Mt} {sm : ev_Sm} {bs : List (List Nat)} {own nm : String} {cc : ByteArray} {nL : Nat} {ret : Option FieldType} {cd : ev_Cd} {ix : Nat} {i : ev_I} (hb : sy_By cc bs) (h : cf_k26 Gc Ct kt Pg sm bs own nm cc nL ret cd ix i = true) : ev_k26 Gc Ct kt Pg sm own nm cc nL ret cd ix i = true := by
  unfold cf_k26 at h
  unfold ev_k26
  simp only [Bool.and_eq_true, decide_eq_true_eq] at h ⊢
  obtain ⟨⟨h0, h5⟩, h1⟩ := h
  obtain ⟨q1, q2⟩ := sy_bj_r hb h0
  have h5 : i.2.2.2.2.2.1 ≤ 5 := Nat.le_of_ble_eq_true h5
  have hd : decode cc (ev_pc cd ix) = .ok (.if_icmp (ev_cn i.2.2.2.2.2.1) (((ev_pc cd i.2.2.1 : Nat) : Int) - ((ev_pc cd ix : Nat) : Int)), 3) := by
    have h6 : i.2.2.2.2.2.1 = 0 ∨ i.2.2.2.2.2.1 = 1 ∨ i.2.2.2.2.2.1 = 2 ∨ i.2.2.2.2.2.1 = 3 ∨ i.2.2.2.2.2.1 = 4 ∨ i.2.2.2.2.2.1 = 5 := by omega
    rcases h6 with h6 | h6 | h6 | h6 | h6 | h6 <;> rw [h6] at q1 ⊢
    · exact sy_d159 q1 q2
    · exact sy_d160 q1 q2
    · exact sy_d161 q1 q2
    · exact sy_d162 q1 q2
    · exact sy_d163 q1 q2
    · exact sy_d164 q1 q2
  have e : ev_dn cc (ev_pc cd ix) = ((ev_pc cd i.2.2.1 : Nat) : Int) - ((ev_pc cd ix : Nat) : Int) := by
    unfold ev_dn
    rw [hd]
  rw [e]
  exact ⟨⟨hd, h1⟩, by omega⟩
def cf_k27 (Gc : List (List Cond)) (Ct : List ev_Ct) (kt : List FieldType) (Pg : List ev_Mt) (sm : ev_Sm) (bs : List (List Nat)) (own nm : String) (cc : ByteArray) (nL : Nat) (ret : Option FieldType) (cd : ev_Cd) (ix : Nat) (i : ev_I) : Bool := (sy_bj bs (ev_pc cd ix) (153 + i.2.2.2.2.2.1) (ev_pc cd i.2.2.1) && Nat.ble i.2.2.2.2.2.1 5) && decide (ev_pc cd (ix + 1) = ev_pc cd ix + 3)
theorem cf_l27 {Gc : List (List Cond)} {Ct : List ev_Ct} {kt : List FieldType} {Pg : List ev_Mt} {sm : ev_Sm} {bs : List (List Nat)} {own nm : String} {cc : ByteArray} {nL : Nat} {ret : Option FieldType} {cd : ev_Cd} {ix : Nat} {i : ev_I} (hb : sy_By cc bs) (h : cf_k27 Gc Ct kt Pg sm bs own nm cc nL ret cd ix i = true) : ev_k27 Gc Ct kt Pg sm own nm cc nL ret cd ix i = true := by
  unfold cf_k27 at h
  unfold ev_k27
  simp only [Bool.and_eq_true, decide_eq_true_eq] at h ⊢
  obtain ⟨⟨h0, h5⟩, h1⟩ := h
  obtain ⟨q1, q2⟩ := sy_bj_r hb h0
  have h5 : i.2.2.2.2.2.1 ≤ 5 := Nat.le_of_ble_eq_true h5
  have hd : decode cc (ev_pc cd ix) = .ok (.ifCond (ev_cn i.2.2.2.2.2.1) (((ev_pc cd i.2.2.1 : Nat) : Int) - ((ev_pc cd ix : Nat) : Int)), 3) := by
    have h6 : i.2.2.2.2.2.1 = 0 ∨ i.2.2.2.2.2.1 = 1 ∨ i.2.2.2.2.2.1 = 2 ∨ i.2.2.2.2.2.1 = 3 ∨ i.2.2.2.2.2.1 = 4 ∨ i.2.2.2.2.2.1 = 5 := by omega
    rcases h6 with h6 | h6 | h6 | h6 | h6 | h6 <;> rw [h6] at q1 ⊢
    · exact sy_d153 q1 q2
    · exact sy_d154 q1 q2
    · exact sy_d155 q1 q2
    · exact sy_d156 q1 q2
    · exact sy_d157 q1 q2
    · exact sy_d158 q1 q2
  have e : ev_dn cc (ev_pc cd ix) = ((ev_pc cd i.2.2.1 : Nat) : Int) - ((ev_pc cd ix : Nat) : Int) := by
    unfold ev_dn
    rw [hd]
  rw [e]
  exact ⟨⟨hd, h1⟩, by omega⟩
def cf_ok (Gc : List (List Cond)) (Ct : List ev_Ct) (kt : List FieldType) (Pg : List ev_Mt) (sm : ev_Sm) (bs : List (List Nat)) (own nm : String) (cc : ByteArray) (nL : Nat) (ret : Option FieldType) (cd : ev_Cd) (ix : Nat) (i : ev_I) : Bool := (if i.2.1 < 42 then (if i.2.1 < 20 then (if i.2.1 < 10 then (if i.2.1 < 5 then (if i.2.1 < 2 then (if i.2.1 < 1 then (if i.2.1 = 0 then ev_k0 Gc Ct kt Pg sm own nm cc nL ret cd ix i else false) else (if i.2.1 = 1 then cf_k1 Gc Ct kt Pg sm bs own nm cc nL ret cd ix i else false)) else (if i.2.1 < 3 then (if i.2.1 = 2 then cf_k2 Gc Ct kt Pg sm bs own nm cc nL ret cd ix i else false) else (if i.2.1 < 4 then (if i.2.1 = 3 then cf_k3 Gc Ct kt Pg sm bs own nm cc nL ret cd ix i else false) else (if i.2.1 = 4 then cf_k4 Gc Ct kt Pg sm bs own nm cc nL ret cd ix i else false)))) else (if i.2.1 < 7 then (if i.2.1 < 6 then (if i.2.1 = 5 then cf_k5 Gc Ct kt Pg sm bs own nm cc nL ret cd ix i else false) else (if i.2.1 = 6 then cf_k6 Gc Ct kt Pg sm bs own nm cc nL ret cd ix i else false)) else (if i.2.1 < 8 then (if i.2.1 = 7 then cf_k7 Gc Ct kt Pg sm bs own nm cc nL ret cd ix i else false) else (if i.2.1 < 9 then (if i.2.1 = 8 then cf_k8 Gc Ct kt Pg sm bs own nm cc nL ret cd ix i else false) else (if i.2.1 = 9 then cf_k9 Gc Ct kt Pg sm bs own nm cc nL ret cd ix i else false))))) else (if i.2.1 < 15 then (if i.2.1 < 12 then (if i.2.1 < 11 then (if i.2.1 = 10 then cf_k10 Gc Ct kt Pg sm bs own nm cc nL ret cd ix i else false) else (if i.2.1 = 11 then cf_k11 Gc Ct kt Pg sm bs own nm cc nL ret cd ix i else false)) else (if i.2.1 < 13 then (if i.2.1 = 12 then cf_k12 Gc Ct kt Pg sm bs own nm cc nL ret cd ix i else false) else (if i.2.1 < 14 then (if i.2.1 = 13 then ev_k13 Gc Ct kt Pg sm own nm cc nL ret cd ix i else false) else (if i.2.1 = 14 then cf_k14 Gc Ct kt Pg sm bs own nm cc nL ret cd ix i else false)))) else (if i.2.1 < 17 then (if i.2.1 < 16 then (if i.2.1 = 15 then cf_k15 Gc Ct kt Pg sm bs own nm cc nL ret cd ix i else false) else (if i.2.1 = 16 then cf_k16 Gc Ct kt Pg sm bs own nm cc nL ret cd ix i else false)) else (if i.2.1 < 18 then (if i.2.1 = 17 then cf_k17 Gc Ct kt Pg sm bs own nm cc nL ret cd ix i else false) else (if i.2.1 < 19 then (if i.2.1 = 18 then cf_k18 Gc Ct kt Pg sm bs own nm cc nL ret cd ix i else false) else (if i.2.1 = 19 then cf_k19 Gc Ct kt Pg sm bs own nm cc nL ret cd ix i else false)))))) else (if i.2.1 < 30 then (if i.2.1 < 25 then (if i.2.1 < 22 then (if i.2.1 < 21 then (if i.2.1 = 20 then cf_k20 Gc Ct kt Pg sm bs own nm cc nL ret cd ix i else false) else (if i.2.1 = 21 then cf_k21 Gc Ct kt Pg sm bs own nm cc nL ret cd ix i else false)) else (if i.2.1 < 23 then (if i.2.1 = 22 then cf_k22 Gc Ct kt Pg sm bs own nm cc nL ret cd ix i else false) else (if i.2.1 < 24 then (if i.2.1 = 23 then ev_k23 Gc Ct kt Pg sm own nm cc nL ret cd ix i else false) else (if i.2.1 = 24 then cf_k24 Gc Ct kt Pg sm bs own nm cc nL ret cd ix i else false)))) else (if i.2.1 < 27 then (if i.2.1 < 26 then (if i.2.1 = 25 then cf_k25 Gc Ct kt Pg sm bs own nm cc nL ret cd ix i else false) else (if i.2.1 = 26 then cf_k26 Gc Ct kt Pg sm bs own nm cc nL ret cd ix i else false)) else (if i.2.1 < 28 then (if i.2.1 = 27 then cf_k27 Gc Ct kt Pg sm bs own nm cc nL ret cd ix i else false) else (if i.2.1 < 29 then (if i.2.1 = 28 then cf_k28 Gc Ct kt Pg sm bs own nm cc nL ret cd ix i else false) else (if i.2.1 = 29 then cf_k29 Gc Ct kt Pg sm bs own nm cc nL ret cd ix i else false))))) else (if i.2.1 < 35 then (if i.2.1 < 32 then (if i.2.1 < 31 then (if i.2.1 = 30 then cf_k30 Gc Ct kt Pg sm bs own nm cc nL ret cd ix i else false) else (if i.2.1 = 31 then cf_k31 Gc Ct kt Pg sm bs own nm cc nL ret cd ix i else false)) else (if i.2.1 < 33 then (if i.2.1 = 32 then ev_k32 Gc Ct kt Pg sm own nm cc nL ret cd ix i else false) else (if i.2.1 < 34 then (if i.2.1 = 33 then ev_k33 Gc Ct kt Pg sm own nm cc nL ret cd ix i else false) else (if i.2.1 = 34 then cf_k34 Gc Ct kt Pg sm bs own nm cc nL ret cd ix i else false)))) else (if i.2.1 < 38 then (if i.2.1 < 36 then (if i.2.1 = 35 then ev_k35 Gc Ct kt Pg sm own nm cc nL ret cd ix i else false) else (if i.2.1 < 37 then (if i.2.1 = 36 then ev_k36 Gc Ct kt Pg sm own nm cc nL ret cd ix i else false) else (if i.2.1 = 37 then cf_k37 Gc Ct kt Pg sm bs own nm cc nL ret cd ix i else false))) else (if i.2.1 < 39 then (if i.2.1 = 38 then ev_k38 Gc Ct kt Pg sm own nm cc nL ret cd ix i else false) else (if i.2.1 < 40 then (if i.2.1 = 39 then cf_k39 Gc Ct kt Pg sm bs own nm cc nL ret cd ix i else false) else (if i.2.1 = 40 then cf_k40 Gc Ct kt Pg sm bs own nm cc nL ret cd ix i else false))))))) else (if i.2.1 < 63 then (if i.2.1 < 53 then (if i.2.1 < 48 then (if i.2.1 < 44 then (if i.2.1 < 43 then (if i.2.1 = 42 then cf_k42 Gc Ct kt Pg sm bs own nm cc nL ret cd ix i else false) else (if i.2.1 = 43 then cf_k43 Gc Ct kt Pg sm bs own nm cc nL ret cd ix i else false)) else (if i.2.1 < 46 then (if i.2.1 = 44 then cf_k44 Gc Ct kt Pg sm bs own nm cc nL ret cd ix i else false) else (if i.2.1 < 47 then (if i.2.1 = 46 then cf_k46 Gc Ct kt Pg sm bs own nm cc nL ret cd ix i else false) else (if i.2.1 = 47 then cf_k47 Gc Ct kt Pg sm bs own nm cc nL ret cd ix i else false)))) else (if i.2.1 < 50 then (if i.2.1 < 49 then (if i.2.1 = 48 then cf_k48 Gc Ct kt Pg sm bs own nm cc nL ret cd ix i else false) else (if i.2.1 = 49 then cf_k49 Gc Ct kt Pg sm bs own nm cc nL ret cd ix i else false)) else (if i.2.1 < 51 then (if i.2.1 = 50 then cf_k50 Gc Ct kt Pg sm bs own nm cc nL ret cd ix i else false) else (if i.2.1 < 52 then (if i.2.1 = 51 then cf_k51 Gc Ct kt Pg sm bs own nm cc nL ret cd ix i else false) else (if i.2.1 = 52 then cf_k52 Gc Ct kt Pg sm bs own nm cc nL ret cd ix i else false))))) else (if i.2.1 < 58 then (if i.2.1 < 55 then (if i.2.1 < 54 then (if i.2.1 = 53 then ev_k53 Gc Ct kt Pg sm own nm cc nL ret cd ix i else false) else (if i.2.1 = 54 then cf_k54 Gc Ct kt Pg sm bs own nm cc nL ret cd ix i else false)) else (if i.2.1 < 56 then (if i.2.1 = 55 then cf_k55 Gc Ct kt Pg sm bs own nm cc nL ret cd ix i else false) else (if i.2.1 < 57 then (if i.2.1 = 56 then cf_k56 Gc Ct kt Pg sm bs own nm cc nL ret cd ix i else false) else (if i.2.1 = 57 then cf_k57 Gc Ct kt Pg sm bs own nm cc nL ret cd ix i else false)))) else (if i.2.1 < 60 then (if i.2.1 < 59 then (if i.2.1 = 58 then cf_k58 Gc Ct kt Pg sm bs own nm cc nL ret cd ix i else false) else (if i.2.1 = 59 then cf_k59 Gc Ct kt Pg sm bs own nm cc nL ret cd ix i else false)) else (if i.2.1 < 61 then (if i.2.1 = 60 then cf_k60 Gc Ct kt Pg sm bs own nm cc nL ret cd ix i else false) else (if i.2.1 < 62 then (if i.2.1 = 61 then ev_k61 Gc Ct kt Pg sm own nm cc nL ret cd ix i else false) else (if i.2.1 = 62 then cf_k62 Gc Ct kt Pg sm bs own nm cc nL ret cd ix i else false)))))) else (if i.2.1 < 73 then (if i.2.1 < 68 then (if i.2.1 < 65 then (if i.2.1 < 64 then (if i.2.1 = 63 then cf_k63 Gc Ct kt Pg sm bs own nm cc nL ret cd ix i else false) else (if i.2.1 = 64 then ev_k64 Gc Ct kt Pg sm own nm cc nL ret cd ix i else false)) else (if i.2.1 < 66 then (if i.2.1 = 65 then ev_k65 Gc Ct kt Pg sm own nm cc nL ret cd ix i else false) else (if i.2.1 < 67 then (if i.2.1 = 66 then cf_k66 Gc Ct kt Pg sm bs own nm cc nL ret cd ix i else false) else (if i.2.1 = 67 then ev_k67 Gc Ct kt Pg sm own nm cc nL ret cd ix i else false)))) else (if i.2.1 < 70 then (if i.2.1 < 69 then (if i.2.1 = 68 then cf_k68 Gc Ct kt Pg sm bs own nm cc nL ret cd ix i else false) else (if i.2.1 = 69 then cf_k69 Gc Ct kt Pg sm bs own nm cc nL ret cd ix i else false)) else (if i.2.1 < 71 then (if i.2.1 = 70 then cf_k70 Gc Ct kt Pg sm bs own nm cc nL ret cd ix i else false) else (if i.2.1 < 72 then (if i.2.1 = 71 then cf_k71 Gc Ct kt Pg sm bs own nm cc nL ret cd ix i else false) else (if i.2.1 = 72 then cf_k72 Gc Ct kt Pg sm bs own nm cc nL ret cd ix i else false))))) else (if i.2.1 < 78 then (if i.2.1 < 75 then (if i.2.1 < 74 then (if i.2.1 = 73 then cf_k73 Gc Ct kt Pg sm bs own nm cc nL ret cd ix i else false) else (if i.2.1 = 74 then ev_k74 Gc Ct kt Pg sm own nm cc nL ret cd ix i else false)) else (if i.2.1 < 76 then (if i.2.1 = 75 then cf_k75 Gc Ct kt Pg sm bs own nm cc nL ret cd ix i else false) else (if i.2.1 < 77 then (if i.2.1 = 76 then cf_k76 Gc Ct kt Pg sm bs own nm cc nL ret cd ix i else false) else (if i.2.1 = 77 then ev_k77 Gc Ct kt Pg sm own nm cc nL ret cd ix i else false)))) else (if i.2.1 < 81 then (if i.2.1 < 79 then (if i.2.1 = 78 then cf_k78 Gc Ct kt Pg sm bs own nm cc nL ret cd ix i else false) else (if i.2.1 < 80 then (if i.2.1 = 79 then cf_k79 Gc Ct kt Pg sm bs own nm cc nL ret cd ix i else false) else (if i.2.1 = 80 then cf_k80 Gc Ct kt Pg sm bs own nm cc nL ret cd ix i else false))) else (if i.2.1 < 82 then (if i.2.1 = 81 then ev_k81 Gc Ct kt Pg sm own nm cc nL ret cd ix i else false) else (if i.2.1 < 83 then (if i.2.1 = 82 then cf_k82 Gc Ct kt Pg sm bs own nm cc nL ret cd ix i else false) else (if i.2.1 = 83 then ev_k83 Gc Ct kt Pg sm own nm cc nL ret cd ix i else false))))))))
theorem cf_ok_r {Gc : List (List Cond)} {Ct : List ev_Ct} {kt : List FieldType} {Pg : List ev_Mt} {sm : ev_Sm} {bs : List (List Nat)} {own nm : String} {cc : ByteArray} {nL : Nat} {ret : Option FieldType} {cd : ev_Cd} {ix : Nat} {i : ev_I} (hb : sy_By cc bs) (h : cf_ok Gc Ct kt Pg sm bs own nm cc nL ret cd ix i = true) : ev_ok Gc Ct kt Pg sm own nm cc nL ret cd ix i = true := by
  unfold cf_ok at h
  unfold ev_ok
  by_cases hlt : i.2.1 < 42
  · rw [if_pos hlt] at h ⊢
    by_cases hlt : i.2.1 < 20
    · rw [if_pos hlt] at h ⊢
      by_cases hlt : i.2.1 < 10
      · rw [if_pos hlt] at h ⊢
        by_cases hlt : i.2.1 < 5
        · rw [if_pos hlt] at h ⊢
          by_cases hlt : i.2.1 < 2
          · rw [if_pos hlt] at h ⊢
            by_cases hlt : i.2.1 < 1
            · rw [if_pos hlt] at h ⊢
              by_cases hop : i.2.1 = 0
              · rw [if_pos hop] at h ⊢
                exact h
              · rw [if_neg hop] at h
                cases h
            · rw [if_neg hlt] at h ⊢
              by_cases hop : i.2.1 = 1
              · rw [if_pos hop] at h ⊢
                exact cf_l1 hb h
              · rw [if_neg hop] at h
                cases h
          · rw [if_neg hlt] at h ⊢
            by_cases hlt : i.2.1 < 3
            · rw [if_pos hlt] at h ⊢
              by_cases hop : i.2.1 = 2
              · rw [if_pos hop] at h ⊢
                exact cf_l2 hb h
              · rw [if_neg hop] at h
                cases h
            · rw [if_neg hlt] at h ⊢
              by_cases hlt : i.2.1 < 4
              · rw [if_pos hlt] at h ⊢
                by_cases hop : i.2.1 = 3
                · rw [if_pos hop] at h ⊢
                  exact cf_l3 hb h
                · rw [if_neg hop] at h
                  cases h
              · rw [if_neg hlt] at h ⊢
                by_cases hop : i.2.1 = 4
                · rw [if_pos hop] at h ⊢
                  exact cf_l4 hb h
                · rw [if_neg hop] at h
                  cases h
        · rw [if_neg hlt] at h ⊢
          by_cases hlt : i.2.1 < 7
          · rw [if_pos hlt] at h ⊢
            by_cases hlt : i.2.1 < 6
            · rw [if_pos hlt] at h ⊢
              by_cases hop : i.2.1 = 5
              · rw [if_pos hop] at h ⊢
                exact cf_l5 hb h
              · rw [if_neg hop] at h
                cases h
            · rw [if_neg hlt] at h ⊢
              by_cases hop : i.2.1 = 6
              · rw [if_pos hop] at h ⊢
                exact cf_l6 hb h
              · rw [if_neg hop] at h
                cases h
          · rw [if_neg hlt] at h ⊢
            by_cases hlt : i.2.1 < 8
            · rw [if_pos hlt] at h ⊢
              by_cases hop : i.2.1 = 7
              · rw [if_pos hop] at h ⊢
                exact cf_l7 hb h
              · rw [if_neg hop] at h
                cases h
            · rw [if_neg hlt] at h ⊢
              by_cases hlt : i.2.1 < 9
              · rw [if_pos hlt] at h ⊢
                by_cases hop : i.2.1 = 8
                · rw [if_pos hop] at h ⊢
                  exact cf_l8 hb h
                · rw [if_neg hop] at h
                  cases h
              · rw [if_neg hlt] at h ⊢
                by_cases hop : i.2.1 = 9
                · rw [if_pos hop] at h ⊢
                  exact cf_l9 hb h
                · rw [if_neg hop] at h
                  cases h
      · rw [if_neg hlt] at h ⊢
        by_cases hlt : i.2.1 < 15
        · rw [if_pos hlt] at h ⊢
          by_cases hlt : i.2.1 < 12
          · rw [if_pos hlt] at h ⊢
            by_cases hlt : i.2.1 < 11
            · rw [if_pos hlt] at h ⊢
              by_cases hop : i.2.1 = 10
              · rw [if_pos hop] at h ⊢
                exact cf_l10 hb h
              · rw [if_neg hop] at h
                cases h
            · rw [if_neg hlt] at h ⊢
              by_cases hop : i.2.1 = 11
              · rw [if_pos hop] at h ⊢
                exact cf_l11 hb h
              · rw [if_neg hop] at h
                cases h
          · rw [if_neg hlt] at h ⊢
            by_cases hlt : i.2.1 < 13
            · rw [if_pos hlt] at h ⊢
              by_cases hop : i.2.1 = 12
              · rw [if_pos hop] at h ⊢
                exact cf_l12 hb h
              · rw [if_neg hop] at h
                cases h
            · rw [if_neg hlt] at h ⊢
              by_cases hlt : i.2.1 < 14
              · rw [if_pos hlt] at h ⊢
                by_cases hop : i.2.1 = 13
                · rw [if_pos hop] at h ⊢
                  exact h
                · rw [if_neg hop] at h
                  cases h
              · rw [if_neg hlt] at h ⊢
                by_cases hop : i.2.1 = 14
                · rw [if_pos hop] at h ⊢
                  exact cf_l14 hb h
                · rw [if_neg hop] at h
                  cases h
        · rw [if_neg hlt] at h ⊢
          by_cases hlt : i.2.1 < 17
          · rw [if_pos hlt] at h ⊢
            by_cases hlt : i.2.1 < 16
            · rw [if_pos hlt] at h ⊢
              by_cases hop : i.2.1 = 15
              · rw [if_pos hop] at h ⊢
                exact cf_l15 hb h
              · rw [if_neg hop] at h
                cases h
            · rw [if_neg hlt] at h ⊢
              by_cases hop : i.2.1 = 16
              · rw [if_pos hop] at h ⊢
                exact cf_l16 hb h
              · rw [if_neg hop] at h
                cases h
          · rw [if_neg hlt] at h ⊢
            by_cases hlt : i.2.1 < 18
            · rw [if_pos hlt] at h ⊢
              by_cases hop : i.2.1 = 17
              · rw [if_pos hop] at h ⊢
                exact cf_l17 hb h
              · rw [if_neg hop] at h
                cases h
            · rw [if_neg hlt] at h ⊢
              by_cases hlt : i.2.1 < 19
              · rw [if_pos hlt] at h ⊢
                by_cases hop : i.2.1 = 18
                · rw [if_pos hop] at h ⊢
                  exact cf_l18 hb h
                · rw [if_neg hop] at h
                  cases h
              · rw [if_neg hlt] at h ⊢
                by_cases hop : i.2.1 = 19
                · rw [if_pos hop] at h ⊢
                  exact cf_l19 hb h
                · rw [if_neg hop] at h
                  cases h
    · rw [if_neg hlt] at h ⊢
      by_cases hlt : i.2.1 < 30
      · rw [if_pos hlt] at h ⊢
        by_cases hlt : i.2.1 < 25
        · rw [if_pos hlt] at h ⊢
          by_cases hlt : i.2.1 < 22
          · rw [if_pos hlt] at h ⊢
            by_cases hlt : i.2.1 < 21
            · rw [if_pos hlt] at h ⊢
              by_cases hop : i.2.1 = 20
              · rw [if_pos hop] at h ⊢
                exact cf_l20 hb h
              · rw [if_neg hop] at h
                cases h
            · rw [if_neg hlt] at h ⊢
              by_cases hop : i.2.1 = 21
              · rw [if_pos hop] at h ⊢
                exact cf_l21 hb h
              · rw [if_neg hop] at h
                cases h
          · rw [if_neg hlt] at h ⊢
            by_cases hlt : i.2.1 < 23
            · rw [if_pos hlt] at h ⊢
              by_cases hop : i.2.1 = 22
              · rw [if_pos hop] at h ⊢
                exact cf_l22 hb h
              · rw [if_neg hop] at h
                cases h
            · rw [if_neg hlt] at h ⊢
              by_cases hlt : i.2.1 < 24
              · rw [if_pos hlt] at h ⊢
                by_cases hop : i.2.1 = 23
                · rw [if_pos hop] at h ⊢
                  exact h
                · rw [if_neg hop] at h
                  cases h
              · rw [if_neg hlt] at h ⊢
                by_cases hop : i.2.1 = 24
                · rw [if_pos hop] at h ⊢
                  exact cf_l24 hb h
                · rw [if_neg hop] at h
                  cases h
        · rw [if_neg hlt] at h ⊢
          by_cases hlt : i.2.1 < 27
          · rw [if_pos hlt] at h ⊢
            by_cases hlt : i.2.1 < 26
            · rw [if_pos hlt] at h ⊢
              by_cases hop : i.2.1 = 25
              · rw [if_pos hop] at h ⊢
                exact cf_l25 hb h
              · rw [if_neg hop] at h
                cases h
            · rw [if_neg hlt] at h ⊢
              by_cases hop : i.2.1 = 26
              · rw [if_pos hop] at h ⊢
                exact cf_l26 hb h
              · rw [if_neg hop] at h
                cases h
          · rw [if_neg hlt] at h ⊢
            by_cases hlt : i.2.1 < 28
            · rw [if_pos hlt] at h ⊢
              by_cases hop : i.2.1 = 27
              · rw [if_pos hop] at h ⊢
                exact cf_l27 hb h
              · rw [if_neg hop] at h
                cases h
            · rw [if_neg hlt] at h ⊢
              by_cases hlt : i.2.1 < 29
              · rw [if_pos hlt] at h ⊢
                by_cases hop : i.2.1 = 28
                · rw [if_pos hop] at h ⊢
                  exact cf_l28 hb h
                · rw [if_neg hop] at h
                  cases h
              · rw [if_neg hlt] at h ⊢
                by_cases hop : i.2.1 = 29
                · rw [if_pos hop] at h ⊢
                  exact cf_l29 hb h
                · rw [if_neg hop] at h
                  cases h
      · rw [if_neg hlt] at h ⊢
        by_cases hlt : i.2.1 < 35
        · rw [if_pos hlt] at h ⊢
          by_cases hlt : i.2.1 < 32
          · rw [if_pos hlt] at h ⊢
            by_cases hlt : i.2.1 < 31
            · rw [if_pos hlt] at h ⊢
              by_cases hop : i.2.1 = 30
              · rw [if_pos hop] at h ⊢
                exact cf_l30 hb h
              · rw [if_neg hop] at h
                cases h
            · rw [if_neg hlt] at h ⊢
              by_cases hop : i.2.1 = 31
              · rw [if_pos hop] at h ⊢
                exact cf_l31 hb h
              · rw [if_neg hop] at h
                cases h
          · rw [if_neg hlt] at h ⊢
            by_cases hlt : i.2.1 < 33
            · rw [if_pos hlt] at h ⊢
              by_cases hop : i.2.1 = 32
              · rw [if_pos hop] at h ⊢
                exact h
              · rw [if_neg hop] at h
                cases h
            · rw [if_neg hlt] at h ⊢
              by_cases hlt : i.2.1 < 34
              · rw [if_pos hlt] at h ⊢
                by_cases hop : i.2.1 = 33
                · rw [if_pos hop] at h ⊢
                  exact h
                · rw [if_neg hop] at h
                  cases h
              · rw [if_neg hlt] at h ⊢
                by_cases hop : i.2.1 = 34
                · rw [if_pos hop] at h ⊢
                  exact cf_l34 hb h
                · rw [if_neg hop] at h
                  cases h
        · rw [if_neg hlt] at h ⊢
          by_cases hlt : i.2.1 < 38
          · rw [if_pos hlt] at h ⊢
            by_cases hlt : i.2.1 < 36
            · rw [if_pos hlt] at h ⊢
              by_cases hop : i.2.1 = 35
              · rw [if_pos hop] at h ⊢
                exact h
              · rw [if_neg hop] at h
                cases h
            · rw [if_neg hlt] at h ⊢
              by_cases hlt : i.2.1 < 37
              · rw [if_pos hlt] at h ⊢
                by_cases hop : i.2.1 = 36
                · rw [if_pos hop] at h ⊢
                  exact h
                · rw [if_neg hop] at h
                  cases h
              · rw [if_neg hlt] at h ⊢
                by_cases hop : i.2.1 = 37
                · rw [if_pos hop] at h ⊢
                  exact cf_l37 hb h
                · rw [if_neg hop] at h
                  cases h
          · rw [if_neg hlt] at h ⊢
            by_cases hlt : i.2.1 < 39
            · rw [if_pos hlt] at h ⊢
              by_cases hop : i.2.1 = 38
              · rw [if_pos hop] at h ⊢
                exact h
              · rw [if_neg hop] at h
                cases h
            · rw [if_neg hlt] at h ⊢
              by_cases hlt : i.2.1 < 40
              · rw [if_pos hlt] at h ⊢
                by_cases hop : i.2.1 = 39
                · rw [if_pos hop] at h ⊢
                  exact cf_l39 hb h
                · rw [if_neg hop] at h
                  cases h
              · rw [if_neg hlt] at h ⊢
                by_cases hop : i.2.1 = 40
                · rw [if_pos hop] at h ⊢
                  exact cf_l40 hb h
                · rw [if_neg hop] at h
                  cases h
  · rw [if_neg hlt] at h ⊢
    by_cases hlt : i.2.1 < 63
    · rw [if_pos hlt] at h ⊢
      by_cases hlt : i.2.1 < 53
      · rw [if_pos hlt] at h ⊢
        by_cases hlt : i.2.1 < 48
        · rw [if_pos hlt] at h ⊢
          by_cases hlt : i.2.1 < 44
          · rw [if_pos hlt] at h ⊢
            by_cases hlt : i.2.1 < 43
            · rw [if_pos hlt] at h ⊢
              by_cases hop : i.2.1 = 42
              · rw [if_pos hop] at h ⊢
                exact cf_l42 hb h
              · rw [if_neg hop] at h
                cases h
            · rw [if_neg hlt] at h ⊢
              by_cases hop : i.2.1 = 43
              · rw [if_pos hop] at h ⊢
                exact cf_l43 hb h
              · rw [if_neg hop] at h
                cases h
          · rw [if_neg hlt] at h ⊢
            by_cases hlt : i.2.1 < 46
            · rw [if_pos hlt] at h ⊢
              by_cases hop : i.2.1 = 44
              · rw [if_pos hop] at h ⊢
                exact cf_l44 hb h
              · rw [if_neg hop] at h
                cases h
            · rw [if_neg hlt] at h ⊢
              by_cases hlt : i.2.1 < 47
              · rw [if_pos hlt] at h ⊢
                by_cases hop : i.2.1 = 46
                · rw [if_pos hop] at h ⊢
                  exact cf_l46 hb h
                · rw [if_neg hop] at h
                  cases h
              · rw [if_neg hlt] at h ⊢
                by_cases hop : i.2.1 = 47
                · rw [if_pos hop] at h ⊢
                  exact cf_l47 hb h
                · rw [if_neg hop] at h
                  cases h
        · rw [if_neg hlt] at h ⊢
          by_cases hlt : i.2.1 < 50
          · rw [if_pos hlt] at h ⊢
            by_cases hlt : i.2.1 < 49
            · rw [if_pos hlt] at h ⊢
              by_cases hop : i.2.1 = 48
              · rw [if_pos hop] at h ⊢
                exact cf_l48 hb h
              · rw [if_neg hop] at h
                cases h
            · rw [if_neg hlt] at h ⊢
              by_cases hop : i.2.1 = 49
              · rw [if_pos hop] at h ⊢
                exact cf_l49 hb h
              · rw [if_neg hop] at h
                cases h
          · rw [if_neg hlt] at h ⊢
            by_cases hlt : i.2.1 < 51
            · rw [if_pos hlt] at h ⊢
              by_cases hop : i.2.1 = 50
              · rw [if_pos hop] at h ⊢
                exact cf_l50 hb h
              · rw [if_neg hop] at h
                cases h
            · rw [if_neg hlt] at h ⊢
              by_cases hlt : i.2.1 < 52
              · rw [if_pos hlt] at h ⊢
                by_cases hop : i.2.1 = 51
                · rw [if_pos hop] at h ⊢
                  exact cf_l51 hb h
                · rw [if_neg hop] at h
                  cases h
              · rw [if_neg hlt] at h ⊢
                by_cases hop : i.2.1 = 52
                · rw [if_pos hop] at h ⊢
                  exact cf_l52 hb h
                · rw [if_neg hop] at h
                  cases h
      · rw [if_neg hlt] at h ⊢
        by_cases hlt : i.2.1 < 58
        · rw [if_pos hlt] at h ⊢
          by_cases hlt : i.2.1 < 55
          · rw [if_pos hlt] at h ⊢
            by_cases hlt : i.2.1 < 54
            · rw [if_pos hlt] at h ⊢
              by_cases hop : i.2.1 = 53
              · rw [if_pos hop] at h ⊢
                exact h
              · rw [if_neg hop] at h
                cases h
            · rw [if_neg hlt] at h ⊢
              by_cases hop : i.2.1 = 54
              · rw [if_pos hop] at h ⊢
                exact cf_l54 hb h
              · rw [if_neg hop] at h
                cases h
          · rw [if_neg hlt] at h ⊢
            by_cases hlt : i.2.1 < 56
            · rw [if_pos hlt] at h ⊢
              by_cases hop : i.2.1 = 55
              · rw [if_pos hop] at h ⊢
                exact cf_l55 hb h
              · rw [if_neg hop] at h
                cases h
            · rw [if_neg hlt] at h ⊢
              by_cases hlt : i.2.1 < 57
              · rw [if_pos hlt] at h ⊢
                by_cases hop : i.2.1 = 56
                · rw [if_pos hop] at h ⊢
                  exact cf_l56 hb h
                · rw [if_neg hop] at h
                  cases h
              · rw [if_neg hlt] at h ⊢
                by_cases hop : i.2.1 = 57
                · rw [if_pos hop] at h ⊢
                  exact cf_l57 hb h
                · rw [if_neg hop] at h
                  cases h
        · rw [if_neg hlt] at h ⊢
          by_cases hlt : i.2.1 < 60
          · rw [if_pos hlt] at h ⊢
            by_cases hlt : i.2.1 < 59
            · rw [if_pos hlt] at h ⊢
              by_cases hop : i.2.1 = 58
              · rw [if_pos hop] at h ⊢
                exact cf_l58 hb h
              · rw [if_neg hop] at h
                cases h
            · rw [if_neg hlt] at h ⊢
              by_cases hop : i.2.1 = 59
              · rw [if_pos hop] at h ⊢
                exact cf_l59 hb h
              · rw [if_neg hop] at h
                cases h
          · rw [if_neg hlt] at h ⊢
            by_cases hlt : i.2.1 < 61
            · rw [if_pos hlt] at h ⊢
              by_cases hop : i.2.1 = 60
              · rw [if_pos hop] at h ⊢
                exact cf_l60 hb h
              · rw [if_neg hop] at h
                cases h
            · rw [if_neg hlt] at h ⊢
              by_cases hlt : i.2.1 < 62
              · rw [if_pos hlt] at h ⊢
                by_cases hop : i.2.1 = 61
                · rw [if_pos hop] at h ⊢
                  exact h
                · rw [if_neg hop] at h
                  cases h
              · rw [if_neg hlt] at h ⊢
                by_cases hop : i.2.1 = 62
                · rw [if_pos hop] at h ⊢
                  exact cf_l62 hb h
                · rw [if_neg hop] at h
                  cases h
    · rw [if_neg hlt] at h ⊢
      by_cases hlt : i.2.1 < 73
      · rw [if_pos hlt] at h ⊢
        by_cases hlt : i.2.1 < 68
        · rw [if_pos hlt] at h ⊢
          by_cases hlt : i.2.1 < 65
          · rw [if_pos hlt] at h ⊢
            by_cases hlt : i.2.1 < 64
            · rw [if_pos hlt] at h ⊢
              by_cases hop : i.2.1 = 63
              · rw [if_pos hop] at h ⊢
                exact cf_l63 hb h
              · rw [if_neg hop] at h
                cases h
            · rw [if_neg hlt] at h ⊢
              by_cases hop : i.2.1 = 64
              · rw [if_pos hop] at h ⊢
                exact h
              · rw [if_neg hop] at h
                cases h
          · rw [if_neg hlt] at h ⊢
            by_cases hlt : i.2.1 < 66
            · rw [if_pos hlt] at h ⊢
              by_cases hop : i.2.1 = 65
              · rw [if_pos hop] at h ⊢
                exact h
              · rw [if_neg hop] at h
                cases h
            · rw [if_neg hlt] at h ⊢
              by_cases hlt : i.2.1 < 67
              · rw [if_pos hlt] at h ⊢
                by_cases hop : i.2.1 = 66
                · rw [if_pos hop] at h ⊢
                  exact cf_l66 hb h
                · rw [if_neg hop] at h
                  cases h
              · rw [if_neg hlt] at h ⊢
                by_cases hop : i.2.1 = 67
                · rw [if_pos hop] at h ⊢
                  exact h
                · rw [if_neg hop] at h
                  cases h
        · rw [if_neg hlt] at h ⊢
          by_cases hlt : i.2.1 < 70
          · rw [if_pos hlt] at h ⊢
            by_cases hlt : i.2.1 < 69
            · rw [if_pos hlt] at h ⊢
              by_cases hop : i.2.1 = 68
              · rw [if_pos hop] at h ⊢
                exact cf_l68 hb h
              · rw [if_neg hop] at h
                cases h
            · rw [if_neg hlt] at h ⊢
              by_cases hop : i.2.1 = 69
              · rw [if_pos hop] at h ⊢
                exact cf_l69 hb h
              · rw [if_neg hop] at h
                cases h
          · rw [if_neg hlt] at h ⊢
            by_cases hlt : i.2.1 < 71
            · rw [if_pos hlt] at h ⊢
              by_cases hop : i.2.1 = 70
              · rw [if_pos hop] at h ⊢
                exact cf_l70 hb h
              · rw [if_neg hop] at h
                cases h
            · rw [if_neg hlt] at h ⊢
              by_cases hlt : i.2.1 < 72
              · rw [if_pos hlt] at h ⊢
                by_cases hop : i.2.1 = 71
                · rw [if_pos hop] at h ⊢
                  exact cf_l71 hb h
                · rw [if_neg hop] at h
                  cases h
              · rw [if_neg hlt] at h ⊢
                by_cases hop : i.2.1 = 72
                · rw [if_pos hop] at h ⊢
                  exact cf_l72 hb h
                · rw [if_neg hop] at h
                  cases h
      · rw [if_neg hlt] at h ⊢
        by_cases hlt : i.2.1 < 78
        · rw [if_pos hlt] at h ⊢
          by_cases hlt : i.2.1 < 75
          · rw [if_pos hlt] at h ⊢
            by_cases hlt : i.2.1 < 74
            · rw [if_pos hlt] at h ⊢
              by_cases hop : i.2.1 = 73
              · rw [if_pos hop] at h ⊢
                exact cf_l73 hb h
              · rw [if_neg hop] at h
                cases h
            · rw [if_neg hlt] at h ⊢
              by_cases hop : i.2.1 = 74
              · rw [if_pos hop] at h ⊢
                exact h
              · rw [if_neg hop] at h
                cases h
          · rw [if_neg hlt] at h ⊢
            by_cases hlt : i.2.1 < 76
            · rw [if_pos hlt] at h ⊢
              by_cases hop : i.2.1 = 75
              · rw [if_pos hop] at h ⊢
                exact cf_l75 hb h
              · rw [if_neg hop] at h
                cases h
            · rw [if_neg hlt] at h ⊢
              by_cases hlt : i.2.1 < 77
              · rw [if_pos hlt] at h ⊢
                by_cases hop : i.2.1 = 76
                · rw [if_pos hop] at h ⊢
                  exact cf_l76 hb h
                · rw [if_neg hop] at h
                  cases h
              · rw [if_neg hlt] at h ⊢
                by_cases hop : i.2.1 = 77
                · rw [if_pos hop] at h ⊢
                  exact h
                · rw [if_neg hop] at h
                  cases h
        · rw [if_neg hlt] at h ⊢
          by_cases hlt : i.2.1 < 81
          · rw [if_pos hlt] at h ⊢
            by_cases hlt : i.2.1 < 79
            · rw [if_pos hlt] at h ⊢
              by_cases hop : i.2.1 = 78
              · rw [if_pos hop] at h ⊢
                exact cf_l78 hb h
              · rw [if_neg hop] at h
                cases h
            · rw [if_neg hlt] at h ⊢
              by_cases hlt : i.2.1 < 80
              · rw [if_pos hlt] at h ⊢
                by_cases hop : i.2.1 = 79
                · rw [if_pos hop] at h ⊢
                  exact cf_l79 hb h
                · rw [if_neg hop] at h
                  cases h
              · rw [if_neg hlt] at h ⊢
                by_cases hop : i.2.1 = 80
                · rw [if_pos hop] at h ⊢
                  exact cf_l80 hb h
                · rw [if_neg hop] at h
                  cases h
          · rw [if_neg hlt] at h ⊢
            by_cases hlt : i.2.1 < 82
            · rw [if_pos hlt] at h ⊢
              by_cases hop : i.2.1 = 81
              · rw [if_pos hop] at h ⊢
                exact h
              · rw [if_neg hop] at h
                cases h
            · rw [if_neg hlt] at h ⊢
              by_cases hlt : i.2.1 < 83
              · rw [if_pos hlt] at h ⊢
                by_cases hop : i.2.1 = 82
                · rw [if_pos hop] at h ⊢
                  exact cf_l82 hb h
                · rw [if_neg hop] at h
                  cases h
              · rw [if_neg hlt] at h ⊢
                by_cases hop : i.2.1 = 83
                · rw [if_pos hop] at h ⊢
                  exact h
                · rw [if_neg hop] at h
                  cases h
def cf_okM (Gc : List (List Cond)) (Ct : List ev_Ct) (kt : List FieldType) (Pg : List ev_Mt) (y : MethodName) (bytes : ByteArray) (maxL : Nat) (rt : Option FieldType) (cd : ev_Cd) (bs : List (List Nat)) (lo n : Nat) : Bool := (List.range n).all (fun j => match cd[lo + j]? with
  | some i => cf_ok Gc Ct kt Pg [] bs y.cls y.name bytes maxL rt cd (lo + j) i
  | none => true)
theorem cf_okM_r {Gc : List (List Cond)} {Ct : List ev_Ct} {kt : List FieldType} {Pg : List ev_Mt} {sm : ev_Sm} {y : MethodName} {bytes : ByteArray} {maxL : Nat} {rt : Option FieldType} {cd : ev_Cd} {bs : List (List Nat)} {lo n : Nat} (hb : sy_By bytes bs) (h : cf_okM Gc Ct kt Pg y bytes maxL rt cd bs lo n = true) {ix : Nat} {i : ev_I} (h1 : lo ≤ ix) (h2 : ix < lo + n) (hi : cd[ix]? = some i) : ev_ok Gc Ct kt Pg sm y.cls y.name bytes maxL rt cd ix i = true := by
  have h3 := List.all_eq_true.mp h (ix - lo) (List.mem_range.mpr (by omega))
  rw [show lo + (ix - lo) = ix by omega, hi] at h3
  exact cf_ok_r (sm := sm) hb h3
def cf_bs0 : List (List Nat) := [[42, 183, 0, 1, 42, 187, 0, 7, 89, 183, 0, 9, 181, 0, 10, 42], [187, 0, 16, 89, 183, 0, 18, 181, 0, 19, 42, 187, 0, 23, 89, 183], [0, 25, 181, 0, 26, 42, 187, 0, 30, 89, 42, 180, 0, 19, 42, 180], [0, 26, 183, 0, 32, 181, 0, 35, 42, 16, 8, 189, 0, 39, 181, 0], [41, 3, 60, 27, 16, 8, 162, 0, 27, 42, 180, 0, 41, 27, 187, 0], [39, 89, 27, 42, 180, 0, 10, 183, 0, 45, 83, 132, 1, 1, 167, 255], [229, 187, 0, 48, 89, 42, 180, 0, 19, 42, 180, 0, 26, 180, 0, 50], [183, 0, 54, 76, 42, 187, 0, 57, 89, 42, 180, 0, 41, 42, 180, 0], [19, 42, 180, 0, 26, 42, 180, 0, 35, 43, 183, 0, 59, 181, 0, 62], [42, 187, 0, 66, 89, 42, 180, 0, 10, 42, 180, 0, 41, 42, 180, 0], [19, 42, 180, 0, 35, 43, 42, 180, 0, 62, 183, 0, 68, 181, 0, 71], [42, 17, 4, 76, 188, 8, 181, 0, 75, 42, 16, 16, 188, 10, 181, 0], [78, 177]]
theorem cf_by0 : sy_By prog_1_method_1_code cf_bs0 := sy_bc_r (by decide +kernel)
def cf_bs1 : List (List Nat) := [[42, 183, 0, 3, 42, 17, 32, 0, 188, 8, 181, 0, 11, 42, 16, 32], [188, 10, 181, 0, 15, 177]]
theorem cf_by1 : sy_By prog_6_method_1_code cf_bs1 := sy_bc_r (by decide +kernel)
def cf_bs2 : List (List Nat) := [[42, 183, 0, 1, 42, 16, 8, 188, 10, 181, 0, 7, 42, 16, 64, 188], [10, 181, 0, 13, 42, 17, 0, 128, 188, 8, 181, 0, 16, 42, 16, 64], [188, 8, 181, 0, 20, 42, 16, 32, 188, 8, 181, 0, 23, 177]]
theorem cf_by2 : sy_By prog_10_method_1_code cf_bs2 := sy_bc_r (by decide +kernel)
def cf_bs3 : List (List Nat) := [[42, 183, 0, 1, 42, 16, 32, 188, 8, 181, 0, 7, 42, 16, 12, 188], [8, 181, 0, 13, 42, 16, 16, 188, 10, 181, 0, 16, 42, 16, 16, 188], [10, 181, 0, 20, 42, 16, 32, 188, 8, 181, 0, 23, 42, 17, 2, 48], [188, 8, 181, 0, 26, 42, 16, 16, 188, 8, 181, 0, 29, 42, 8, 188], [11, 181, 0, 32, 42, 8, 188, 11, 181, 0, 36, 177]]
theorem cf_by3 : sy_By prog_3_method_1_code cf_bs3 := sy_bc_r (by decide +kernel)
def cf_bs4 : List (List Nat) := [[42, 183, 0, 3, 42, 16, 64, 17, 1, 0, 197, 0, 11, 2, 181, 0], [13, 42, 16, 64, 17, 1, 0, 197, 0, 11, 2, 181, 0, 16, 42, 16], [64, 16, 32, 197, 0, 11, 2, 181, 0, 19, 42, 16, 64, 188, 10, 181], [0, 22, 42, 17, 0, 255, 181, 0, 26, 42, 16, 32, 188, 8, 181, 0], [30, 42, 16, 8, 188, 10, 181, 0, 34, 42, 2, 181, 0, 37, 42, 4], [181, 0, 40, 42, 16, 64, 188, 10, 181, 0, 44, 42, 16, 7, 188, 10], [181, 0, 47, 42, 16, 49, 188, 10, 181, 0, 50, 42, 7, 188, 10, 181], [0, 55, 42, 17, 1, 0, 188, 8, 181, 0, 58, 42, 43, 181, 0, 61], [42, 44, 181, 0, 65, 16, 32, 188, 8, 78, 43, 17, 1, 0, 188, 8], [3, 17, 1, 0, 3, 45, 3, 182, 0, 69, 3, 54, 4, 21, 4, 16], [64, 162, 0, 24, 45, 3, 42, 180, 0, 19, 21, 4, 50, 3, 16, 32], [184, 0, 75, 132, 4, 1, 167, 255, 231, 177]]
theorem cf_by4 : sy_By prog_12_method_1_code cf_bs4 := sy_bc_r (by decide +kernel)
def cf_bs5 : List (List Nat) := [[42, 183, 0, 3, 42, 7, 16, 16, 197, 0, 11, 2, 181, 0, 13, 42], [7, 188, 10, 181, 0, 16, 42, 7, 188, 10, 181, 0, 20, 42, 7, 17], [2, 0, 197, 0, 11, 2, 181, 0, 23, 177]]
theorem cf_by5 : sy_By prog_8_method_1_code cf_bs5 := sy_bc_r (by decide +kernel)
def cf_bs6 : List (List Nat) := [[42, 183, 0, 3, 42, 16, 32, 188, 8, 181, 0, 9, 42, 2, 181, 0], [15, 42, 16, 8, 188, 10, 181, 0, 19, 42, 17, 4, 0, 188, 8, 181], [0, 23, 42, 16, 8, 188, 10, 181, 0, 26, 42, 2, 181, 0, 29, 42], [16, 64, 188, 10, 181, 0, 32, 42, 16, 16, 188, 10, 181, 0, 35, 42], [187, 0, 38, 89, 183, 0, 40, 181, 0, 41, 42, 27, 181, 0, 45, 42], [44, 181, 0, 48, 42, 27, 181, 0, 52, 177]]
theorem cf_by6 : sy_By prog_2_method_1_code cf_bs6 := sy_bc_r (by decide +kernel)
def cf_bs7 : List (List Nat) := [[42, 183, 0, 3, 42, 7, 188, 10, 181, 0, 11, 42, 2, 181, 0, 15], [42, 7, 188, 10, 181, 0, 19, 42, 7, 188, 10, 181, 0, 22, 42, 7], [188, 10, 181, 0, 25, 42, 7, 17, 1, 0, 197, 0, 28, 2, 181, 0], [30, 42, 27, 181, 0, 33, 42, 44, 181, 0, 36, 177]]
theorem cf_by7 : sy_By prog_9_method_1_code cf_bs7 := sy_bc_r (by decide +kernel)
def cf_bs8 : List (List Nat) := [[42, 183, 0, 1, 42, 16, 7, 16, 10, 197, 0, 7, 2, 181, 0, 9], [42, 8, 16, 10, 197, 0, 7, 2, 181, 0, 14, 42, 16, 64, 16, 10], [197, 0, 7, 2, 181, 0, 17, 42, 6, 16, 10, 197, 0, 7, 2, 181], [0, 20, 42, 8, 16, 10, 197, 0, 7, 2, 181, 0, 23, 42, 16, 32], [188, 8, 181, 0, 26, 177]]
theorem cf_by8 : sy_By prog_5_method_1_code cf_bs8 := sy_bc_r (by decide +kernel)
def cf_bs9 : List (List Nat) := [[42, 183, 0, 1, 42, 187, 0, 7, 89, 183, 0, 9, 181, 0, 10, 42], [16, 32, 188, 8, 181, 0, 16, 42, 16, 64, 188, 8, 181, 0, 20, 42], [16, 64, 188, 8, 181, 0, 23, 42, 16, 64, 188, 8, 181, 0, 26, 42], [17, 2, 64, 188, 8, 181, 0, 29, 42, 17, 1, 0, 188, 8, 181, 0], [32, 42, 16, 8, 188, 11, 181, 0, 35, 42, 16, 80, 188, 11, 181, 0], [39, 42, 16, 64, 188, 11, 181, 0, 42, 42, 16, 32, 188, 8, 181, 0], [45, 42, 7, 16, 10, 197, 0, 48, 2, 181, 0, 50, 42, 7, 16, 10], [197, 0, 48, 2, 181, 0, 53, 42, 43, 181, 0, 56, 42, 44, 181, 0], [60, 177]]
theorem cf_by9 : sy_By prog_11_method_1_code cf_bs9 := sy_bc_r (by decide +kernel)
def cf_bs10 : List (List Nat) := [[42, 183, 0, 5, 42, 187, 0, 11, 89, 183, 0, 13, 181, 0, 14, 42], [16, 16, 188, 8, 181, 0, 18, 42, 17, 8, 0, 188, 8, 181, 0, 22], [42, 16, 64, 188, 8, 181, 0, 25, 42, 43, 181, 0, 28, 42, 44, 181], [0, 32, 42, 45, 181, 0, 36, 42, 25, 4, 181, 0, 40, 42, 25, 5], [181, 0, 44, 42, 43, 3, 50, 181, 0, 48, 42, 187, 0, 52, 89, 2], [43, 183, 0, 54, 181, 0, 57, 177]]
theorem cf_by10 : sy_By prog_4_method_1_code cf_bs10 := sy_bc_r (by decide +kernel)
def cf_bs11 : List (List Nat) := [[42, 183, 0, 3, 42, 16, 16, 189, 0, 9, 181, 0, 11, 42, 7, 188], [10, 181, 0, 17, 42, 17, 0, 128, 188, 8, 181, 0, 21, 42, 43, 181], [0, 25, 42, 44, 181, 0, 29, 42, 45, 181, 0, 33, 42, 25, 4, 181], [0, 37, 42, 25, 5, 181, 0, 41, 42, 25, 6, 181, 0, 45, 3, 54], [7, 21, 7, 16, 16, 162, 0, 26, 42, 180, 0, 11, 21, 7, 187, 0], [9, 89, 21, 7, 44, 183, 0, 49, 83, 132, 7, 1, 167, 255, 229, 42], [42, 180, 0, 11, 3, 50, 181, 0, 52, 177]]
theorem cf_by11 : sy_By prog_7_method_1_code cf_bs11 := sy_bc_r (by decide +kernel)
set_option maxRecDepth 100000 in
def cf_bs12 : List (List Nat) := [[42, 183, 0, 1, 42, 17, 4, 76, 188, 8, 181, 0, 7, 42, 20, 0], [13, 181, 0, 15, 42, 16, 32, 188, 8, 181, 0, 19, 42, 17, 1, 0], [188, 8, 181, 0, 22, 42, 16, 8, 188, 10, 181, 0, 25, 42, 16, 8], [188, 10, 181, 0, 29, 42, 16, 8, 188, 10, 181, 0, 32, 42, 17, 32], [0, 188, 8, 181, 0, 35, 42, 16, 32, 188, 4, 181, 0, 38, 42, 16], [32, 188, 10, 181, 0, 42, 42, 17, 64, 0, 188, 8, 181, 0, 45, 42], [17, 64, 0, 188, 8, 181, 0, 48, 42, 17, 0, 255, 181, 0, 51, 42], [16, 32, 188, 8, 181, 0, 55, 42, 16, 8, 188, 10, 181, 0, 58, 42], [16, 8, 188, 4, 181, 0, 61, 42, 17, 32, 0, 188, 8, 181, 0, 64], [42, 16, 8, 188, 10, 181, 0, 67, 42, 16, 64, 188, 10, 181, 0, 70], [42, 16, 8, 188, 10, 181, 0, 73, 42, 16, 64, 188, 10, 181, 0, 76], [42, 16, 8, 188, 10, 181, 0, 79, 42, 16, 8, 188, 10, 181, 0, 82], [42, 16, 16, 188, 4, 181, 0, 85, 42, 16, 16, 188, 10, 181, 0, 88], [42, 16, 16, 188, 4, 181, 0, 91, 42, 16, 16, 188, 4, 181, 0, 94], [42, 16, 16, 188, 10, 181, 0, 97, 42, 16, 16, 188, 10, 181, 0, 100], [42, 16, 16, 188, 10, 181, 0, 103, 42, 16, 64, 188, 10, 181, 0, 106], [42, 16, 64, 188, 10, 181, 0, 109, 42, 16, 64, 188, 10, 181, 0, 112], [42, 16, 64, 188, 10, 181, 0, 115, 42, 17, 16, 0, 188, 10, 181, 0], [118, 42, 17, 4, 0, 188, 10, 181, 0, 121, 42, 16, 64, 188, 10, 181], [0, 124, 42, 16, 64, 188, 10, 181, 0, 127, 42, 16, 64, 188, 10, 181], [0, 130, 42, 16, 64, 188, 10, 181, 0, 133, 42, 17, 64, 0, 188, 8], [181, 0, 136, 42, 16, 16, 188, 10, 181, 0, 139, 42, 16, 16, 188, 10], [181, 0, 142, 42, 16, 16, 188, 10, 181, 0, 145, 42, 17, 4, 0, 188], [8, 181, 0, 148, 42, 16, 64, 188, 10, 181, 0, 151, 42, 16, 64, 188], [4, 181, 0, 154, 42, 16, 64, 188, 10, 181, 0, 157, 42, 18, 160, 188], [8, 181, 0, 161, 42, 7, 188, 10, 181, 0, 164, 42, 16, 32, 188, 8], [181, 0, 167, 42, 16, 64, 188, 10, 181, 0, 170, 42, 16, 8, 188, 10], [181, 0, 173, 42, 16, 64, 188, 10, 89, 3, 18, 176, 79, 89, 4, 18], [177, 79, 89, 5, 18, 178, 79, 89, 6, 18, 179, 79, 89, 7, 18, 180], [79, 89, 8, 18, 181, 79, 89, 16, 6, 18, 182, 79, 89, 16, 7, 18], [183, 79, 89, 16, 8, 18, 184, 79, 89, 16, 9, 18, 185, 79, 89, 16], [10, 18, 186, 79, 89, 16, 11, 18, 187, 79, 89, 16, 12, 18, 188, 79], [89, 16, 13, 18, 189, 79, 89, 16, 14, 18, 190, 79, 89, 16, 15, 18], [191, 79, 89, 16, 16, 18, 192, 79, 89, 16, 17, 18, 193, 79, 89, 16], [18, 18, 194, 79, 89, 16, 19, 18, 195, 79, 89, 16, 20, 18, 196, 79], [89, 16, 21, 18, 197, 79, 89, 16, 22, 18, 198, 79, 89, 16, 23, 18], [199, 79, 89, 16, 24, 18, 200, 79, 89, 16, 25, 18, 201, 79, 89, 16], [26, 18, 202, 79, 89, 16, 27, 18, 203, 79, 89, 16, 28, 18, 204, 79], [89, 16, 29, 18, 205, 79, 89, 16, 30, 18, 206, 79, 89, 16, 31, 18], [207, 79, 89, 16, 32, 18, 208, 79, 89, 16, 33, 18, 209, 79, 89, 16], [34, 18, 210, 79, 89, 16, 35, 18, 211, 79, 89, 16, 36, 18, 212, 79], [89, 16, 37, 18, 213, 79, 89, 16, 38, 18, 214, 79, 89, 16, 39, 18], [215, 79, 89, 16, 40, 18, 216, 79, 89, 16, 41, 18, 217, 79, 89, 16], [42, 18, 218, 79, 89, 16, 43, 18, 219, 79, 89, 16, 44, 18, 220, 79], [89, 16, 45, 18, 221, 79, 89, 16, 46, 18, 222, 79, 89, 16, 47, 18], [223, 79, 89, 16, 48, 18, 224, 79, 89, 16, 49, 18, 225, 79, 89, 16], [50, 18, 226, 79, 89, 16, 51, 18, 227, 79, 89, 16, 52, 18, 228, 79], [89, 16, 53, 18, 229, 79, 89, 16, 54, 18, 230, 79, 89, 16, 55, 18], [231, 79, 89, 16, 56, 18, 232, 79, 89, 16, 57, 18, 233, 79, 89, 16], [58, 18, 234, 79, 89, 16, 59, 18, 235, 79, 89, 16, 60, 18, 236, 79], [89, 16, 61, 18, 237, 79, 89, 16, 62, 18, 238, 79, 89, 16, 63, 18], [239, 79, 181, 0, 240, 42, 16, 8, 188, 10, 89, 3, 18, 243, 79, 89], [4, 18, 244, 79, 89, 5, 18, 245, 79, 89, 6, 18, 246, 79, 89, 7], [18, 247, 79, 89, 8, 18, 248, 79, 89, 16, 6, 18, 249, 79, 89, 16], [7, 18, 250, 79, 181, 0, 251, 42, 16, 8, 188, 11, 181, 0, 254, 42], [16, 80, 188, 11, 181, 1, 2, 42, 16, 80, 188, 11, 181, 1, 5, 42], [16, 8, 188, 11, 181, 1, 8, 42, 16, 64, 188, 8, 181, 1, 11, 42], [16, 24, 188, 11, 181, 1, 14, 42, 16, 24, 188, 11, 181, 1, 17, 42], [16, 6, 188, 11, 181, 1, 20, 42, 17, 9, 96, 188, 8, 181, 1, 23], [42, 16, 32, 188, 8, 181, 1, 26, 42, 17, 1, 224, 188, 11, 181, 1], [29, 42, 16, 31, 188, 11, 181, 1, 32, 42, 16, 80, 188, 10, 89, 3], [17, 120, 163, 79, 89, 4, 17, 19, 89, 79, 89, 5, 17, 77, 202, 79], [89, 6, 17, 117, 235, 79, 89, 7, 19, 1, 35, 79, 89, 8, 17, 65], [65, 79, 89, 16, 6, 17, 10, 77, 79, 89, 16, 7, 16, 112, 79, 89], [16, 8, 19, 1, 36, 79, 89, 16, 9, 17, 119, 121, 79, 89, 16, 10], [17, 64, 121, 79, 89, 16, 11, 19, 1, 37, 79, 89, 16, 12, 19, 1], [38, 79, 89, 16, 13, 17, 43, 111, 79, 89, 16, 14, 17, 108, 238, 79], [89, 16, 15, 17, 82, 3, 79, 89, 16, 16, 19, 1, 39, 79, 89, 16], [17, 17, 38, 178, 79, 89, 16, 18, 19, 1, 40, 79, 89, 16, 19, 19], [1, 41, 79, 89, 16, 20, 19, 1, 42, 79, 89, 16, 21, 19, 1, 43], [79, 89, 16, 22, 17, 20, 154, 79, 89, 16, 23, 17, 0, 224, 79, 89], [16, 24, 19, 1, 44, 79, 89, 16, 25, 19, 1, 45, 79, 89, 16, 26], [19, 1, 46, 79, 89, 16, 27, 17, 25, 142, 79, 89, 16, 28, 19, 1], [47, 79, 89, 16, 29, 17, 86, 223, 79, 89, 16, 30, 19, 1, 48, 79], [89, 16, 31, 17, 36, 6, 79, 89, 16, 32, 19, 1, 49, 79, 89, 16], [33, 19, 1, 50, 79, 89, 16, 34, 17, 45, 96, 79, 89, 16, 35, 19], [1, 51, 79, 89, 16, 36, 19, 1, 52, 79, 89, 16, 37, 19, 1, 53], [79, 89, 16, 38, 19, 1, 54, 79, 89, 16, 39, 17, 105, 44, 79, 89], [16, 40, 19, 1, 55, 79, 89, 16, 41, 19, 1, 56, 79, 89, 16, 42], [19, 1, 57, 79, 89, 16, 43, 19, 1, 58, 79, 89, 16, 44, 17, 83], [254, 79, 89, 16, 45, 19, 1, 59, 79, 89, 16, 46, 17, 54, 211, 79], [89, 16, 47, 17, 33, 105, 79, 89, 16, 48, 17, 102, 88, 79, 89, 16], [49, 17, 102, 102, 79, 89, 16, 50, 17, 102, 102, 79, 89, 16, 51, 17], [102, 102, 79, 89, 16, 52, 17, 102, 102, 79, 89, 16, 53, 17, 102, 102], [79, 89, 16, 54, 17, 102, 102, 79, 89, 16, 55, 17, 102, 102, 79, 89], [16, 56, 17, 102, 102, 79, 89, 16, 57, 17, 102, 102, 79, 89, 16, 58], [17, 102, 102, 79, 89, 16, 59, 17, 102, 102, 79, 89, 16, 60, 17, 102], [102, 79, 89, 16, 61, 17, 102, 102, 79, 89, 16, 62, 17, 102, 102, 79], [89, 16, 63, 17, 102, 102, 79, 89, 16, 64, 19, 1, 60, 79, 89, 16], [65, 17, 74, 14, 79, 89, 16, 66, 17, 27, 39, 79, 89, 16, 67, 19], [1, 61, 79, 89, 16, 68, 19, 1, 62, 79, 89, 16, 69, 19, 1, 63], [79, 89, 16, 70, 17, 24, 6, 79, 89, 16, 71, 17, 47, 67, 79, 89], [16, 72, 19, 1, 64, 79, 89, 16, 73, 17, 61, 251, 79, 89, 16, 74], [17, 0, 153, 79, 89, 16, 75, 17, 43, 77, 79, 89, 16, 76, 19, 1], [65, 79, 89, 16, 77, 17, 79, 193, 79, 89, 16, 78, 17, 36, 128, 79], [89, 16, 79, 17, 43, 131, 79, 181, 1, 66, 42, 16, 32, 188, 10, 89], [3, 17, 0, 237, 79, 89, 4, 17, 0, 211, 79, 89, 5, 17, 0, 245], [79, 89, 6, 16, 92, 79, 89, 7, 16, 26, 79, 89, 8, 16, 99, 79], [89, 16, 6, 16, 18, 79, 89, 16, 7, 16, 88, 79, 89, 16, 8, 17], [0, 214, 79, 89, 16, 9, 17, 0, 156, 79, 89, 16, 10, 17, 0, 247], [79, 89, 16, 11, 17, 0, 162, 79, 89, 16, 12, 17, 0, 222, 79, 89], [16, 13, 17, 0, 249, 79, 89, 16, 14, 17, 0, 222, 79, 89, 16, 15], [16, 20, 79, 89, 16, 16, 3, 79, 89, 16, 17, 3, 79, 89, 16, 18], [3, 79, 89, 16, 19, 3, 79, 89, 16, 20, 3, 79, 89, 16, 21, 3], [79, 89, 16, 22, 3, 79, 89, 16, 23, 3, 79, 89, 16, 24, 3, 79], [89, 16, 25, 3, 79, 89, 16, 26, 3, 79, 89, 16, 27, 3, 79, 89], [16, 28, 3, 79, 89, 16, 29, 3, 79, 89, 16, 30, 3, 79, 89, 16], [31, 16, 16, 79, 181, 1, 69, 42, 16, 32, 188, 8, 181, 1, 72, 42], [16, 32, 188, 8, 181, 1, 75, 42, 16, 64, 188, 8, 181, 1, 78, 42], [16, 32, 188, 8, 181, 1, 81, 42, 17, 10, 40, 188, 8, 181, 1, 84], [42, 16, 64, 188, 11, 181, 1, 87, 42, 16, 32, 188, 8, 181, 1, 90], [42, 4, 188, 8, 89, 3, 4, 84, 181, 1, 93, 42, 16, 64, 188, 8], [181, 1, 96, 42, 16, 32, 188, 8, 181, 1, 99, 42, 17, 10, 40, 188], [8, 181, 1, 102, 42, 16, 64, 188, 11, 181, 1, 105, 42, 16, 32, 188], [8, 181, 1, 108, 42, 16, 16, 188, 8, 181, 1, 111, 42, 16, 17, 188], [11, 181, 1, 114, 42, 16, 17, 188, 11, 181, 1, 117, 42, 16, 17, 188], [11, 181, 1, 120, 42, 16, 12, 188, 8, 181, 1, 123, 42, 16, 16, 188], [10, 181, 1, 126, 42, 16, 16, 188, 10, 181, 1, 129, 42, 17, 1, 0], [188, 8, 181, 1, 132, 42, 16, 64, 188, 4, 181, 1, 135, 42, 16, 16], [188, 8, 181, 1, 138, 42, 17, 1, 0, 188, 8, 181, 1, 141, 42, 17], [1, 0, 188, 8, 181, 1, 144, 42, 16, 49, 188, 10, 181, 1, 147, 42], [16, 7, 188, 4, 181, 1, 150, 42, 7, 188, 10, 181, 1, 153, 42, 17], [0, 128, 188, 8, 181, 1, 156, 42, 16, 7, 188, 10, 181, 1, 159, 42], [17, 0, 224, 188, 8, 181, 1, 162, 42, 16, 18, 188, 10, 181, 1, 165], [42, 182, 1, 168, 3, 60, 27, 16, 80, 162, 0, 26, 42, 180, 1, 29], [17, 1, 128, 27, 96, 42, 180, 1, 66, 27, 46, 133, 80, 132, 1, 1], [167, 255, 230, 3, 60, 27, 16, 8, 162, 0, 16, 42, 180, 0, 29, 27], [27, 79, 132, 1, 1, 167, 255, 240, 177]]
set_option maxRecDepth 100000 in
theorem cf_by12 : sy_By prog_14_method_1_code cf_bs12 := sy_bc_r (by decide +kernel)
def cf_bs13 : List (List Nat) := [[42, 27, 28, 16, 24, 124, 145, 84, 42, 27, 4, 96, 28, 16, 16, 124], [145, 84, 42, 27, 5, 96, 28, 16, 8, 124, 145, 84, 42, 27, 6, 96], [28, 145, 84, 177]]
theorem cf_by13 : sy_By prog_10_method_3_code cf_bs13 := sy_bc_r (by decide +kernel)
def cf_bs14 : List (List Nat) := [[21, 4, 154, 0, 17, 178, 0, 26, 3, 42, 180, 0, 7, 3, 16, 8], [184, 0, 29, 29, 16, 63, 126, 54, 7, 29, 21, 7, 100, 54, 8, 3], [54, 9, 21, 9, 21, 8, 162, 0, 18, 42, 43, 28, 21, 9, 96, 182], [0, 35, 132, 9, 64, 167, 255, 237, 42, 180, 0, 16, 3, 184, 0, 39], [21, 7, 158, 0, 18, 43, 28, 21, 8, 96, 42, 180, 0, 16, 3, 21], [7, 184, 0, 29, 42, 180, 0, 16, 21, 7, 16, 128, 84, 21, 7, 16], [56, 162, 0, 7, 3, 167, 0, 5, 16, 64, 54, 9, 42, 180, 0, 16], [21, 9, 16, 60, 96, 16, 8, 21, 4, 29, 96, 104, 184, 0, 45, 42], [42, 180, 0, 16, 3, 182, 0, 35, 21, 9, 158, 0, 13, 42, 42, 180], [0, 16, 21, 9, 182, 0, 35, 3, 54, 10, 21, 10, 16, 8, 162, 0], [28, 25, 5, 21, 6, 7, 21, 10, 104, 96, 42, 180, 0, 7, 21, 10], [46, 184, 0, 45, 132, 10, 1, 167, 255, 227, 177]]
theorem cf_by14 : sy_By prog_10_method_4_code cf_bs14 := sy_bc_r (by decide +kernel)
def cf_bs15 : List (List Nat) := [[42, 180, 0, 13, 78, 3, 54, 4, 21, 4, 16, 16, 162, 0, 71, 28], [7, 21, 4, 104, 96, 54, 5, 45, 21, 4, 43, 21, 5, 51, 17, 0], [255, 126, 16, 24, 120, 43, 21, 5, 4, 96, 51, 17, 0, 255, 126, 16], [16, 120, 128, 43, 21, 5, 5, 96, 51, 17, 0, 255, 126, 16, 8, 120], [128, 43, 21, 5, 6, 96, 51, 17, 0, 255, 126, 128, 79, 132, 4, 1], [167, 255, 184, 16, 16, 54, 4, 21, 4, 16, 64, 162, 0, 104, 45, 21], [4, 16, 15, 100, 46, 54, 5, 45, 21, 4, 5, 100, 46, 54, 6, 45], [21, 4, 45, 21, 4, 16, 16, 100, 46, 45, 21, 4, 16, 7, 100, 46], [96, 21, 5, 16, 7, 124, 21, 5, 16, 25, 120, 128, 21, 5, 16, 18], [124, 21, 5, 16, 14, 120, 128, 130, 21, 5, 6, 124, 130, 96, 21, 6], [16, 17, 124, 21, 6, 16, 15, 120, 128, 21, 6, 16, 19, 124, 21, 6], [16, 13, 120, 128, 130, 21, 6, 16, 10, 124, 130, 96, 79, 132, 4, 1], [167, 255, 151, 42, 180, 0, 7, 3, 46, 54, 4, 42, 180, 0, 7, 4], [46, 54, 5, 42, 180, 0, 7, 5, 46, 54, 6, 42, 180, 0, 7, 6], [46, 54, 7, 42, 180, 0, 7, 7, 46, 54, 8, 42, 180, 0, 7, 8], [46, 54, 9, 42, 180, 0, 7, 16, 6, 46, 54, 10, 42, 180, 0, 7], [16, 7, 46, 54, 11, 3, 54, 12, 21, 12, 16, 64, 162, 0, 162, 21], [11, 21, 8, 16, 6, 124, 21, 8, 16, 26, 120, 128, 21, 8, 16, 11], [124, 21, 8, 16, 21, 120, 128, 130, 21, 8, 16, 25, 124, 21, 8, 16], [7, 120, 128, 130, 96, 21, 10, 21, 8, 21, 9, 21, 10, 130, 126, 130], [96, 178, 0, 53, 21, 12, 46, 96, 45, 21, 12, 46, 96, 54, 13, 21], [4, 5, 124, 21, 4, 16, 30, 120, 128, 21, 4, 16, 13, 124, 21, 4], [16, 19, 120, 128, 130, 21, 4, 16, 22, 124, 21, 4, 16, 10, 120, 128], [130, 21, 4, 21, 5, 126, 21, 6, 21, 4, 21, 5, 128, 126, 128, 96], [54, 14, 21, 10, 54, 11, 21, 9, 54, 10, 21, 8, 54, 9, 21, 7], [21, 13, 96, 54, 8, 21, 6, 54, 7, 21, 5, 54, 6, 21, 4, 54], [5, 21, 13, 21, 14, 96, 54, 4, 132, 12, 1, 167, 255, 93, 42, 180], [0, 7, 3, 92, 46, 21, 4, 96, 79, 42, 180, 0, 7, 4, 92, 46], [21, 5, 96, 79, 42, 180, 0, 7, 5, 92, 46, 21, 6, 96, 79, 42], [180, 0, 7, 6, 92, 46, 21, 7, 96, 79, 42, 180, 0, 7, 7, 92], [46, 21, 8, 96, 79, 42, 180, 0, 7, 8, 92, 46, 21, 9, 96, 79], [42, 180, 0, 7, 16, 6, 92, 46, 21, 10, 96, 79, 42, 180, 0, 7], [16, 7, 92, 46, 21, 11, 96, 79, 177]]
theorem cf_by15 : sy_By prog_10_method_6_code cf_bs15 := sy_bc_r (by decide +kernel)
def cf_bs16 : List (List Nat) := [[3, 62, 29, 16, 6, 162, 0, 16, 42, 180, 1, 20, 29, 9, 80, 132], [3, 1, 167, 255, 240, 16, 68, 62, 29, 155, 0, 58, 42, 180, 1, 20], [29, 16, 16, 108, 92, 47, 10, 29, 16, 16, 112, 121, 129, 80, 42, 27], [28, 182, 1, 214, 154, 0, 25, 42, 180, 1, 20, 29, 16, 16, 108, 92], [47, 10, 29, 16, 16, 112, 121, 20, 0, 13, 131, 127, 80, 132, 3, 255], [167, 255, 200, 42, 180, 1, 20, 6, 47, 16, 48, 121, 42, 180, 1, 20], [5, 47, 16, 32, 121, 129, 42, 180, 1, 20, 4, 47, 16, 16, 121, 129], [42, 180, 1, 20, 3, 47, 129, 173]]
theorem cf_by16 : sy_By prog_14_method_17_code cf_bs16 := sy_bc_r (by decide +kernel)
def cf_bs17 : List (List Nat) := [[3, 62, 29, 16, 24, 162, 0, 24, 42, 180, 1, 14, 29, 29, 154, 0], [7, 10, 167, 0, 4, 9, 80, 132, 3, 1, 167, 255, 232, 3, 62, 29], [28, 162, 0, 182, 3, 54, 4, 21, 4, 16, 24, 162, 0, 17, 42, 180], [1, 17, 21, 4, 9, 80, 132, 4, 1, 167, 255, 238, 3, 54, 4, 21], [4, 16, 18, 162, 0, 112, 9, 55, 5, 3, 54, 7, 21, 7, 16, 6], [162, 0, 63, 22, 5, 42, 180, 1, 17, 21, 4, 21, 7, 96, 47, 42], [180, 1, 14, 21, 4, 47, 42, 180, 1, 20, 21, 7, 47, 105, 97, 97], [55, 5, 42, 180, 1, 17, 21, 4, 21, 7, 96, 22, 5, 20, 1, 218], [127, 80, 22, 5, 16, 16, 123, 55, 5, 132, 7, 1, 167, 255, 192, 42], [180, 1, 17, 21, 4, 16, 6, 96, 16, 24, 162, 0, 11, 21, 4, 16], [6, 96, 167, 0, 5, 16, 23, 92, 47, 22, 5, 97, 80, 132, 4, 1], [167, 255, 143, 3, 54, 4, 21, 4, 16, 24, 162, 0, 23, 42, 180, 1], [14, 21, 4, 42, 180, 1, 17, 21, 4, 47, 80, 132, 4, 1, 167, 255], [232, 132, 3, 1, 167, 255, 75, 7, 28, 104, 62, 9, 55, 4, 16, 23], [54, 6, 21, 6, 29, 161, 0, 24, 22, 4, 16, 16, 121, 42, 180, 1], [14, 21, 6, 47, 129, 55, 4, 132, 6, 255, 167, 255, 232, 22, 4, 27], [133, 148, 153, 0, 17, 22, 4, 27, 133, 148, 156, 0, 7, 4, 167, 0], [4, 3, 172, 3, 54, 6, 21, 6, 29, 162, 0, 23, 42, 180, 1, 14], [21, 6, 47, 9, 148, 153, 0, 5, 3, 172, 132, 6, 1, 167, 255, 233], [4, 172]]
theorem cf_by17 : sy_By prog_14_method_18_code cf_bs17 := sy_bc_r (by decide +kernel)
def cf_bs18 : List (List Nat) := [[5, 60, 27, 27, 104, 26, 163, 0, 17, 26, 27, 112, 154, 0, 5, 3], [172, 132, 1, 1, 167, 255, 238, 4, 172]]
theorem cf_by18 : sy_By prog_14_method_19_code cf_bs18 := sy_bc_r (by decide +kernel)
def cf_bs19 : List (List Nat) := [[4, 60, 3, 61, 28, 16, 80, 162, 0, 55, 132, 1, 1, 27, 184, 1], [220, 154, 0, 9, 132, 1, 1, 167, 255, 246, 42, 180, 1, 5, 28, 42], [27, 6, 182, 1, 224, 80, 28, 16, 8, 162, 0, 15, 42, 180, 1, 8], [28, 42, 27, 5, 182, 1, 224, 80, 132, 2, 1, 167, 255, 201, 177]]
theorem cf_by19 : sy_By prog_14_method_20_code cf_bs19 := sy_bc_r (by decide +kernel)
def cf_bs20 : List (List Nat) := [[3, 61, 42, 190, 62, 28, 29, 162, 0, 13, 42, 28, 27, 84, 132, 2], [1, 167, 255, 244, 177]]
theorem cf_by20 : sy_By prog_29_method_109_code cf_bs20 := sy_bc_r (by decide +kernel)
def cf_bs21 : List (List Nat) := [[3, 61, 42, 190, 62, 28, 29, 162, 0, 13, 42, 28, 27, 79, 132, 2], [1, 167, 255, 244, 177]]
theorem cf_by21 : sy_By prog_29_method_103_code cf_bs21 := sy_bc_r (by decide +kernel)
