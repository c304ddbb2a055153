/-! Rows of the small machine for longs, shifts, divisions -/
def ev_put2 (L : List (Nat × (Nat × Nat × Nat))) (i : Nat) (v : ev_V) : List (Nat × (Nat × Nat × Nat)) := (i, v) :: L.filter (fun q => !(q.1 == i) && (!(q.1 == i + 1) && !(q.1 + 1 == i && q.2.1 == 1)))
theorem ev_lr.filter2 {ad : List Nat} (i : Nat) : ∀ {L : List (Nat × (Nat × Nat × Nat))} {lv : List (Nat × Value)}, ev_lr ad L lv → ev_lr ad (L.filter (fun q => !(q.1 == i) && (!(q.1 == i + 1) && !(q.1 + 1 == i && q.2.1 == 1)))) (lv.filter (fun q => !(q.1 == i) && (!(q.1 == i + 1) && !(q.1 + 1 == i && q.2.category == 2))))
  | [], [], _ => trivial
  | q :: L, y :: lv, h => by
    have ih := ev_lr.filter2 i h.2.2
    have e : (!(y.1 == i) && (!(y.1 == i + 1) && !(y.1 + 1 == i && y.2.category == 2))) = (!(q.1 == i) && (!(q.1 == i + 1) && !(q.1 + 1 == i && q.2.1 == 1))) := by rw [h.2.1.cat, h.1]
    rw [List.filter_cons, List.filter_cons, e]
    split
    · exact ⟨h.1, h.2.1, ih⟩
    · exact ih
  | [], _ :: _, h => h.elim
  | _ :: _, [], h => h.elim
theorem ev_lr.put2 {ad : List Nat} {L : List (Nat × (Nat × Nat × Nat))} {lv : List (Nat × Value)} (h : ev_lr ad L lv) {i : Nat} {v : ev_V} {x : Value} (hv : ev_vr ad v x) : ev_lr ad (ev_put2 L i v) ((i, x) :: lv.filter (fun q => !(q.1 == i) && (!(q.1 == i + 1) && !(q.1 + 1 == i && q.2.category == 2)))) := ⟨rfl, hv, h.filter2 i⟩
def ev_lng : ev_V := (1, 0, 0)
theorem ev_lng_r (ad : List Nat) (j : Int64) : ev_vr ad ev_lng (.long j) := ev_vr.lg ad 0 0 j
/-- bounds of a quotient and of a rest: of numbers from 0 on -/
def ev_fdiv (x y : ev_V) : ev_V := if 2147483648 ≤ x.2.1 ∧ 2147483648 < y.2.1 ∧ y.2.1 = y.2.2 then (0, (x.2.1 - 2147483648) / (y.2.1 - 2147483648) + 2147483648, (x.2.2 - 2147483648) / (y.2.1 - 2147483648) + 2147483648) else ev_full
theorem ev_sx_toInt {i : Int32} {n : Nat} (h : ev_sx i = n + 2147483648) : i.toInt = (n : Int) := by
  have h1 := ev_sx_eq i
  omega
theorem ev_sx_of {i : Int32} {n : Nat} (h : i.toInt = (n : Int)) : ev_sx i = n + 2147483648 := by
  have h1 := ev_sx_eq i
  omega
theorem ev_div_nat {i j : Int32} {a b : Nat} (hi : i.toInt = (a : Int)) (hj : j.toInt = (b : Int)) : (i / j).toInt = ((a / b : Nat) : Int) := by
  have ha : (a : Int) < 2147483648 := by rw [← hi]; exact ev_hi i
  have hle : a / b ≤ a := Nat.div_le_self a b
  have e : Int.tdiv (a : Int) (b : Int) = ((a / b : Nat) : Int) := by
    rw [Int.tdiv_eq_ediv_of_nonneg (by omega)]
    rfl
  have e0 : (i / j).toInt = (Int.tdiv i.toInt j.toInt).bmod (2 ^ 32) := Int32.toInt_div i j
  rw [e0, hi, hj, e]
  generalize a / b = q at hle ⊢
  exact ev_bm (by omega) (by omega)
theorem ev_fdiv_in {x y : ev_V} {i j : Int32} (hi : ev_in x i) (hj : ev_in y j) : ev_in (ev_fdiv x y) (i / j) := by
  unfold ev_fdiv
  split
  · next h =>
    obtain ⟨a1, a2⟩ := hi
    obtain ⟨b1, b2⟩ := hj
    obtain ⟨h1, h3, h4⟩ := h
    have e1 : i.toInt = ((ev_sx i - 2147483648 : Nat) : Int) := ev_sx_toInt (by omega)
    have e2 : j.toInt = ((y.2.1 - 2147483648 : Nat) : Int) := ev_sx_toInt (by omega)
    have e3 := ev_sx_of (ev_div_nat e1 e2)
    have m1 : (x.2.1 - 2147483648) / (y.2.1 - 2147483648) ≤ (ev_sx i - 2147483648) / (y.2.1 - 2147483648) := Nat.div_le_div_right (by omega)
    have m2 : (ev_sx i - 2147483648) / (y.2.1 - 2147483648) ≤ (x.2.2 - 2147483648) / (y.2.1 - 2147483648) := Nat.div_le_div_right (by omega)
    constructor
    · show (x.2.1 - 2147483648) / (y.2.1 - 2147483648) + 2147483648 ≤ ev_sx (i / j)
      rw [e3]
      exact Nat.add_le_add_right m1 _
    · show ev_sx (i / j) ≤ (x.2.2 - 2147483648) / (y.2.1 - 2147483648) + 2147483648
      rw [e3]
      exact Nat.add_le_add_right m2 _
  · exact ev_full_in _
def ev_frem (x y : ev_V) : ev_V := if 2147483648 ≤ x.2.1 ∧ x.2.1 = x.2.2 ∧ 2147483648 < y.2.1 ∧ y.2.1 = y.2.2 then (0, (x.2.1 - 2147483648) % (y.2.1 - 2147483648) + 2147483648, (x.2.1 - 2147483648) % (y.2.1 - 2147483648) + 2147483648) else ev_full
theorem ev_frem_in {x y : ev_V} {i j : Int32} (hi : ev_in x i) (hj : ev_in y j) : ev_in (ev_frem x y) (i - i / j * j) := by
  unfold ev_frem
  split
  · next h =>
    obtain ⟨a1, a2⟩ := hi
    obtain ⟨b1, b2⟩ := hj
    obtain ⟨h1, h2, h3, h4⟩ := h
    obtain ⟨a, ha⟩ : ∃ a : Nat, a = x.2.1 - 2147483648 := ⟨_, rfl⟩
    obtain ⟨b, hb⟩ : ∃ b : Nat, b = y.2.1 - 2147483648 := ⟨_, rfl⟩
    rw [← ha, ← hb]
    have e1 : i.toInt = (a : Int) := ev_sx_toInt (by omega)
    have e2 : j.toInt = (b : Int) := ev_sx_toInt (by omega)
    have e3 := ev_div_nat e1 e2
    have hlt : (a : Int) < 2147483648 := by rw [← e1]; exact ev_hi i
    have hm : a / b * b ≤ a := Nat.div_mul_le_self a b
    have e4 : (i / j * j).toInt = ((a / b * b : Nat) : Int) := by
      rw [Int32.toInt_mul, e3, e2, ← Int.natCast_mul]
      exact ev_bm (by omega) (by omega)
    have hd : a / b * b + a % b = a := by rw [Nat.mul_comm]; exact Nat.div_add_mod a b
    have e5 : (i - i / j * j).toInt = ((a % b : Nat) : Int) := by
      rw [Int32.toInt_sub, e1, e4, ev_bm (by omega) (by omega)]
      omega
    exact ev_in_eq (ev_sx_of e5)
  · exact ev_full_in _
theorem ev_ne0 {y : ev_V} {j : Int32} (hj : ev_in y j) (h : 2147483648 < y.2.1) : ¬ j = 0 := by
  intro e
  subst e
  obtain ⟨b1, -⟩ := hj
  have : ev_sx (0 : Int32) = 2147483648 := by decide +kernel
  omega
theorem ev_cmp_in (x y : Int64) : ev_in (0, 2147483647, 2147483649) (lg_cmp x y) := by
  unfold lg_cmp
  split
  · exact ⟨by decide +kernel, by decide +kernel⟩
  · split
    · exact ⟨by decide +kernel, by decide +kernel⟩
    · exact ⟨by decide +kernel, by decide +kernel⟩
theorem ev_i2b_in (x : Int32) : ev_in (0, 2147483520, 2147483775) x.toInt8.toInt32 := by
  have h1 := Int8.le_toInt x.toInt8
  have h2 := Int8.toInt_lt x.toInt8
  have h3 := ev_sx_eq x.toInt8.toInt32
  rw [Int8.toInt_toInt32] at h3
  show 2147483520 ≤ _ ∧ _ ≤ 2147483775
  omega
section EVL
variable {p : Program} {l : Launch} {e : Env} {R : Room} {s : State} {m : MethodId} {args : Array Value} {below : List Frame} {meth : Method} {c : Code} {Q : State → Prop}
variable {D : va_G} {cl : List vw_C} {dA : Nat → ClassId} {kt : List FieldType} {A : Nat → Prop} {ws0 : va_W} {Gs : List Cond} {own : String} {cc : ByteArray} {nL : Nat} {cd : ev_Cd}
variable {ix nc ns : Nat} {L : List (Nat × (Nat × Nat × Nat))} {S : List (Nat × Nat × Nat)} {w : List ev_C}
/-- an instruction that works on the stack alone -/
theorem ev_s_op {S1 S2 : List (Nat × Nat × Nat)} {len : Nat} (hn : ev_pc cd (ix + 1) = ev_pc cd ix + len)
    (row : ∀ (ad : List Nat) (xs : List Value), ev_sr ad S1 xs → ∃ ys : List Value, ev_sr ad S2 ys ∧ ∀ {H : Heap} {locs : List Loc} {ls : Array Slot} {vs : List Value}, W p l e R s m args below meth c H locs nc ns Q (F0 m (ev_pc cd ix + len) ls (ys ++ vs)) → W p l e R s m args below meth c H locs nc ns Q (F0 m (ev_pc cd ix) ls (xs ++ vs)))
    (k : ev_G p l e R s m args below meth c Q D cl dA A ws0 nL cd (ix + 1, L, S2 ++ S, w, nc, ns)) : ev_G p l e R s m args below meth c Q D cl dA A ws0 nL cd (ix, L, S1 ++ S, w, nc, ns) := by
  intro H locs ls vs lv ws h1 h2 h3 h4 h5 h6 h7 h8
  obtain ⟨xs, zs, rfl, hl, g1, g2⟩ := ev_sr.split S1.length h3 (by simp)
  rw [List.take_left' rfl] at g1
  rw [List.drop_left' rfl] at g2
  obtain ⟨ys, hy, hr⟩ := row _ _ g1
  exact hr (ev_go k hn h1 h2 (ev_sr.app hy g2) h4 h5 h6 h7 h8)
theorem ev_s_lload_n (X : ev_X p s m args c D cl dA kt A Gs own cc nL) {a : Nat} {kk : Fin 4} {v : ev_V} (hd : decode cc (ev_pc cd ix) = .ok (.lload_n kk, 1)) (ha : (kk : Nat) = a) (hn : ev_pc cd (ix + 1) = ev_pc cd ix + 1) (hg : ev_get L a = some v) (hv : v.1 = 1)
    (k : ev_G p l e R s m args below meth c Q D cl dA A ws0 nL cd (ix + 1, L, v :: S, w, nc, ns)) : ev_G p l e R s m args below meth c Q D cl dA A ws0 nL cd (ix, L, S, w, nc, ns) := by
  intro H locs ls vs lv ws h1 h2 h3 h4 h5 h6 h7 h8
  obtain ⟨j, x, hj, hx⟩ := h2.get hg
  obtain ⟨i, rfl⟩ := hx.long hv
  exact lv_lload_n X.1.1 X.1.2.1 hd ha (lv_at h1 j hj) (ev_go k hn h1 h2 ⟨hx, h3⟩ h4 h5 h6 h7 h8)
theorem ev_s_lload (X : ev_X p s m args c D cl dA kt A Gs own cc nL) {a : Nat} {v : ev_V} (hd : decode cc (ev_pc cd ix) = .ok (.lload a, 2)) (hn : ev_pc cd (ix + 1) = ev_pc cd ix + 2) (hg : ev_get L a = some v) (hv : v.1 = 1)
    (k : ev_G p l e R s m args below meth c Q D cl dA A ws0 nL cd (ix + 1, L, v :: S, w, nc, ns)) : ev_G p l e R s m args below meth c Q D cl dA A ws0 nL cd (ix, L, S, w, nc, ns) := by
  intro H locs ls vs lv ws h1 h2 h3 h4 h5 h6 h7 h8
  obtain ⟨j, x, hj, hx⟩ := h2.get hg
  obtain ⟨i, rfl⟩ := hx.long hv
  exact lv_lload X.1.1 X.1.2.1 hd (lv_at h1 j hj) (ev_go k hn h1 h2 ⟨hx, h3⟩ h4 h5 h6 h7 h8)
theorem ev_s_lstore_n (X : ev_X p s m args c D cl dA kt A Gs own cc nL) {a : Nat} {kk : Fin 4} {v : ev_V} (hd : decode cc (ev_pc cd ix) = .ok (.lstore_n kk, 1)) (ha : (kk : Nat) = a) (hn : ev_pc cd (ix + 1) = ev_pc cd ix + 1) (hL : a + 1 < nL) (hv : v.1 = 1)
    (k : ev_G p l e R s m args below meth c Q D cl dA A ws0 nL cd (ix + 1, ev_put2 L a v, S, w, nc, ns)) : ev_G p l e R s m args below meth c Q D cl dA A ws0 nL cd (ix, L, v :: S, w, nc, ns) := by
  intro H locs ls vs lv ws h1 h2 h3 h4 h5 h6 h7 h8
  have h3q := h3.cons
  clear h3
  obtain ⟨x, ys, rfl, hx, h3⟩ := h3q
  obtain ⟨i, rfl⟩ := hx.long hv
  exact lv_lstore_n X.1.1 X.1.2.1 hd ha h1 hL rfl (fun ls' hl => ev_go k hn hl (h2.put2 hx) h3 h4 h5 h6 h7 h8)
theorem ev_s_lstore (X : ev_X p s m args c D cl dA kt A Gs own cc nL) {a : Nat} {v : ev_V} (hd : decode cc (ev_pc cd ix) = .ok (.lstore a, 2)) (hn : ev_pc cd (ix + 1) = ev_pc cd ix + 2) (hL : a + 1 < nL) (hv : v.1 = 1)
    (k : ev_G p l e R s m args below meth c Q D cl dA A ws0 nL cd (ix + 1, ev_put2 L a v, S, w, nc, ns)) : ev_G p l e R s m args below meth c Q D cl dA A ws0 nL cd (ix, L, v :: S, w, nc, ns) := by
  intro H locs ls vs lv ws h1 h2 h3 h4 h5 h6 h7 h8
  have h3q := h3.cons
  clear h3
  obtain ⟨x, ys, rfl, hx, h3⟩ := h3q
  obtain ⟨i, rfl⟩ := hx.long hv
  exact lv_lstore X.1.1 X.1.2.1 hd h1 hL rfl (fun ls' hl => ev_go k hn hl (h2.put2 hx) h3 h4 h5 h6 h7 h8)
/-- constants, and what is made of one or two numbers: of longs nothing is known -/
theorem ev_s_lconst (X : ev_X p s m args c D cl dA kt A Gs own cc nL) {kk : Fin 2} (hd : decode cc (ev_pc cd ix) = .ok (.lconst kk, 1)) (hn : ev_pc cd (ix + 1) = ev_pc cd ix + 1)
    (k : ev_G p l e R s m args below meth c Q D cl dA A ws0 nL cd (ix + 1, L, ev_lng :: S, w, nc, ns)) : ev_G p l e R s m args below meth c Q D cl dA A ws0 nL cd (ix, L, S, w, nc, ns) := by
  intro H locs ls vs lv ws h1 h2 h3 h4 h5 h6 h7 h8
  exact lv_lconst X.1.1 X.1.2.1 hd rfl (ev_go k hn h1 h2 ⟨ev_lng_r _ _, h3⟩ h4 h5 h6 h7 h8)
theorem ev_s_ldc2 (X : ev_X p s m args c D cl dA kt A Gs own cc nL) {idx : Nat} {x : Int64} (hd : decode cc (ev_pc cd ix) = .ok (.ldc2_w idx, 3)) (hc : Cond.constantLong own idx x ∈ Gs) (hn : ev_pc cd (ix + 1) = ev_pc cd ix + 3)
    (k : ev_G p l e R s m args below meth c Q D cl dA A ws0 nL cd (ix + 1, L, ev_lng :: S, w, nc, ns)) : ev_G p l e R s m args below meth c Q D cl dA A ws0 nL cd (ix, L, S, w, nc, ns) := by
  intro H locs ls vs lv ws h1 h2 h3 h4 h5 h6 h7 h8
  exact lv_ldc2 X.1.1 X.1.2.1 X.1.2.2.2.1 (X.1.2.2.2.2 _ hc) hd (ev_go k hn h1 h2 ⟨ev_lng_r _ _, h3⟩ h4 h5 h6 h7 h8)
theorem ev_s_ldcw (X : ev_X p s m args c D cl dA kt A Gs own cc nL) {idx a : Nat} {x : Int32} (hd : decode cc (ev_pc cd ix) = .ok (.ldc_w idx, 3)) (hc : Cond.constant own idx x ∈ Gs) (hv : ev_sx x = a) (hn : ev_pc cd (ix + 1) = ev_pc cd ix + 3)
    (k : ev_G p l e R s m args below meth c Q D cl dA A ws0 nL cd (ix + 1, L, (0, a, a) :: S, w, nc, ns)) : ev_G p l e R s m args below meth c Q D cl dA A ws0 nL cd (ix, L, S, w, nc, ns) := by
  intro H locs ls vs lv ws h1 h2 h3 h4 h5 h6 h7 h8
  exact lv_ldcw X.1.1 X.1.2.1 X.1.2.2.2.1 (X.1.2.2.2.2 _ hc) hd (ev_go k hn h1 h2 ⟨ev_vr.it rfl (ev_in_eq hv), h3⟩ h4 h5 h6 h7 h8)
/-- two longs become one -/
theorem ev_s_l2 {g : Int64 → Int64 → Int64} {x y : ev_V} (hx : x.1 = 1) (hy : y.1 = 1) (hn : ev_pc cd (ix + 1) = ev_pc cd ix + 1)
    (row : ∀ {H : Heap} {locs : List Loc} {ls : Array Slot} {vs : List Value} (i j : Int64), W p l e R s m args below meth c H locs nc ns Q (F0 m (ev_pc cd ix + 1) ls (.long (g i j) :: vs)) → W p l e R s m args below meth c H locs nc ns Q (F0 m (ev_pc cd ix) ls (.long j :: .long i :: vs)))
    (k : ev_G p l e R s m args below meth c Q D cl dA A ws0 nL cd (ix + 1, L, ev_lng :: S, w, nc, ns)) : ev_G p l e R s m args below meth c Q D cl dA A ws0 nL cd (ix, L, y :: x :: S, w, nc, ns) := by
  refine ev_s_op (S1 := [y, x]) (S2 := [ev_lng]) hn (fun ad xs hs => ?_) k
  obtain ⟨u, us, rfl, hu, hs⟩ := hs.cons
  obtain ⟨v, vs, rfl, hv, hs⟩ := hs.cons
  obtain rfl := hs.nil
  obtain ⟨j, rfl⟩ := hu.long hy
  obtain ⟨i, rfl⟩ := hv.long hx
  exact ⟨[.long (g i j)], ⟨ev_lng_r _ _, trivial⟩, fun h => row i j h⟩
/-- a long is moved by an int -/
theorem ev_s_li {g : Int64 → Int32 → Int64} {x y : ev_V} (hx : x.1 = 1) (hy : y.1 = 0) (hn : ev_pc cd (ix + 1) = ev_pc cd ix + 1)
    (row : ∀ {H : Heap} {locs : List Loc} {ls : Array Slot} {vs : List Value} (i : Int64) (j : Int32), W p l e R s m args below meth c H locs nc ns Q (F0 m (ev_pc cd ix + 1) ls (.long (g i j) :: vs)) → W p l e R s m args below meth c H locs nc ns Q (F0 m (ev_pc cd ix) ls (.int j :: .long i :: vs)))
    (k : ev_G p l e R s m args below meth c Q D cl dA A ws0 nL cd (ix + 1, L, ev_lng :: S, w, nc, ns)) : ev_G p l e R s m args below meth c Q D cl dA A ws0 nL cd (ix, L, y :: x :: S, w, nc, ns) := by
  refine ev_s_op (S1 := [y, x]) (S2 := [ev_lng]) hn (fun ad xs hs => ?_) k
  obtain ⟨u, us, rfl, hu, hs⟩ := hs.cons
  obtain ⟨v, vs, rfl, hv, hs⟩ := hs.cons
  obtain rfl := hs.nil
  obtain ⟨j, rfl, -⟩ := hu.int hy
  obtain ⟨i, rfl⟩ := hv.long hx
  exact ⟨[.long (g i j)], ⟨ev_lng_r _ _, trivial⟩, fun h => row i j h⟩
theorem ev_s_lcmp (X : ev_X p s m args c D cl dA kt A Gs own cc nL) {x y : ev_V} (hx : x.1 = 1) (hy : y.1 = 1) (hd : decode cc (ev_pc cd ix) = .ok (.lcmp, 1)) (hn : ev_pc cd (ix + 1) = ev_pc cd ix + 1)
    (k : ev_G p l e R s m args below meth c Q D cl dA A ws0 nL cd (ix + 1, L, (0, 2147483647, 2147483649) :: S, w, nc, ns)) : ev_G p l e R s m args below meth c Q D cl dA A ws0 nL cd (ix, L, y :: x :: S, w, nc, ns) := by
  refine ev_s_op (S1 := [y, x]) (S2 := [(0, 2147483647, 2147483649)]) hn (fun ad xs hs => ?_) k
  obtain ⟨u, us, rfl, hu, hs⟩ := hs.cons
  obtain ⟨v, vs, rfl, hv, hs⟩ := hs.cons
  obtain rfl := hs.nil
  obtain ⟨j, rfl⟩ := hu.long hy
  obtain ⟨i, rfl⟩ := hv.long hx
  exact ⟨[.int (lg_cmp i j)], ⟨ev_vr.it rfl (ev_cmp_in i j), trivial⟩, fun h => W.lcmp X.1.1 X.1.2.1 hd h⟩
theorem ev_s_i2l (X : ev_X p s m args c D cl dA kt A Gs own cc nL) {x : ev_V} (hx : x.1 = 0) (hd : decode cc (ev_pc cd ix) = .ok (.i2l, 1)) (hn : ev_pc cd (ix + 1) = ev_pc cd ix + 1)
    (k : ev_G p l e R s m args below meth c Q D cl dA A ws0 nL cd (ix + 1, L, ev_lng :: S, w, nc, ns)) : ev_G p l e R s m args below meth c Q D cl dA A ws0 nL cd (ix, L, x :: S, w, nc, ns) := by
  refine ev_s_op (S1 := [x]) (S2 := [ev_lng]) hn (fun ad xs hs => ?_) k
  obtain ⟨u, us, rfl, hu, hs⟩ := hs.cons
  obtain rfl := hs.nil
  obtain ⟨j, rfl, -⟩ := hu.int hx
  exact ⟨[.long j.toInt64], ⟨ev_lng_r _ _, trivial⟩, fun h => lv_i2l X.1.1 X.1.2.1 hd rfl h⟩
theorem ev_s_l2i (X : ev_X p s m args c D cl dA kt A Gs own cc nL) {x : ev_V} (hx : x.1 = 1) (hd : decode cc (ev_pc cd ix) = .ok (.l2i, 1)) (hn : ev_pc cd (ix + 1) = ev_pc cd ix + 1)
    (k : ev_G p l e R s m args below meth c Q D cl dA A ws0 nL cd (ix + 1, L, ev_full :: S, w, nc, ns)) : ev_G p l e R s m args below meth c Q D cl dA A ws0 nL cd (ix, L, x :: S, w, nc, ns) := by
  refine ev_s_op (S1 := [x]) (S2 := [ev_full]) hn (fun ad xs hs => ?_) k
  obtain ⟨u, us, rfl, hu, hs⟩ := hs.cons
  obtain rfl := hs.nil
  obtain ⟨j, rfl⟩ := hu.long hx
  exact ⟨[.int j.toInt32], ⟨ev_vr.it rfl (ev_full_in _), trivial⟩, fun h => lv_l2i X.1.1 X.1.2.1 hd rfl h⟩
/-- a division by what is not 0 -/
theorem ev_s_idiv (X : ev_X p s m args c D cl dA kt A Gs own cc nL) {x y : ev_V} (hx : x.1 = 0) (hy : y.1 = 0) (hy1 : 2147483648 < y.2.1) (h0 : (ev_fdiv x y).1 = 0) (hd : decode cc (ev_pc cd ix) = .ok (.idiv, 1)) (hn : ev_pc cd (ix + 1) = ev_pc cd ix + 1)
    (k : ev_G p l e R s m args below meth c Q D cl dA A ws0 nL cd (ix + 1, L, ev_fdiv x y :: S, w, nc, ns)) : ev_G p l e R s m args below meth c Q D cl dA A ws0 nL cd (ix, L, y :: x :: S, w, nc, ns) := by
  refine ev_s_op (S1 := [y, x]) (S2 := [ev_fdiv x y]) hn (fun ad xs hs => ?_) k
  obtain ⟨u, us, rfl, hu, hs⟩ := hs.cons
  obtain ⟨v, vs, rfl, hv, hs⟩ := hs.cons
  obtain rfl := hs.nil
  obtain ⟨j, rfl, hj⟩ := hu.int hy
  obtain ⟨i, rfl, hi⟩ := hv.int hx
  exact ⟨[.int (i / j)], ⟨ev_vr.it h0 (ev_fdiv_in hi hj), trivial⟩, fun h => lv_idiv X.1.1 X.1.2.1 hd (ev_ne0 hj hy1) h⟩
theorem ev_s_irem (X : ev_X p s m args c D cl dA kt A Gs own cc nL) {x y : ev_V} (hx : x.1 = 0) (hy : y.1 = 0) (hy1 : 2147483648 < y.2.1) (h0 : (ev_frem x y).1 = 0) (hd : decode cc (ev_pc cd ix) = .ok (.irem, 1)) (hn : ev_pc cd (ix + 1) = ev_pc cd ix + 1)
    (k : ev_G p l e R s m args below meth c Q D cl dA A ws0 nL cd (ix + 1, L, ev_frem x y :: S, w, nc, ns)) : ev_G p l e R s m args below meth c Q D cl dA A ws0 nL cd (ix, L, y :: x :: S, w, nc, ns) := by
  refine ev_s_op (S1 := [y, x]) (S2 := [ev_frem x y]) hn (fun ad xs hs => ?_) k
  obtain ⟨u, us, rfl, hu, hs⟩ := hs.cons
  obtain ⟨v, vs, rfl, hv, hs⟩ := hs.cons
  obtain rfl := hs.nil
  obtain ⟨j, rfl, hj⟩ := hu.int hy
  obtain ⟨i, rfl, hi⟩ := hv.int hx
  exact ⟨[.int (i - i / j * j)], ⟨ev_vr.it h0 (ev_frem_in hi hj), trivial⟩, fun h => lv_irem X.1.1 X.1.2.1 hd (ev_ne0 hj hy1) h⟩


/-- an iinc in its wide form -/
theorem ev_s_iincw (X : ev_X p s m args c D cl dA kt A Gs own cc nL) {a : Nat} {n : Int} {v b : ev_V} (hd : decode cc (ev_pc cd ix) = .ok (.iinc a n, 6)) (hb : ev_in b (Int32.ofInt n)) (hn : ev_pc cd (ix + 1) = ev_pc cd ix + 6) (hL : a < nL) (hg : ev_get L a = some v) (hv : v.1 = 0) (h0 : (ev_fadd v b).1 = 0)
    (k : ev_G p l e R s m args below meth c Q D cl dA A ws0 nL cd (ix + 1, ev_put L a (ev_fadd v b), S, w, nc, ns)) : ev_G p l e R s m args below meth c Q D cl dA A ws0 nL cd (ix, L, S, w, nc, ns) := by
  intro H locs ls vs lv ws h1 h2 h3 h4 h5 h6 h7 h8
  obtain ⟨j, x, hj, hx⟩ := h2.get hg
  obtain ⟨i, rfl, hi⟩ := hx.int hv
  have hexec := X.1.1
  have hcode := X.1.2.1
  have hat := lv_at h1 j hj
  obtain ⟨ls', e', h'⟩ := lv_store1 (v := .int (i + Int32.ofInt n)) h1 hL rfl
  intro T hT Y
  obtain ⟨t, a1, b1⟩ := ev_go k hn h' (h2.put (ev_vr.it h0 (ev_fadd_in hi hb))) h3 h4 h5 h6 h7 h8 T hT Y
  refine ⟨t, ?_, b1⟩
  jvm_step Y.here [Y.here.top, ↓top_set Y.here.top, hexec, hcode, hd, hat, e']
  exact a1
end EVL
