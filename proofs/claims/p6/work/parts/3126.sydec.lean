/-! The codes' bytes in rows of sixteen, and what three of them tell. Written by a program (wip/eng/gend.py). -/
def sy_lk (bs : List (List Nat)) (k : Nat) : Option Nat := match bs[k / 16]? with
  | some r => r[k % 16]?
  | none => none
def sy_br : List UInt8 → List Nat → Option (List UInt8)
  | l, [] => some l
  | [], _ :: _ => none
  | a :: l, v :: r => if Nat.beq a.toNat v then sy_br l r else none
def sy_bc : List UInt8 → List (List Nat) → Bool
  | _, [] => true
  | l, r :: bs => match sy_br l r with
    | some l' => (Nat.beq r.length 16 || bs.isEmpty) && sy_bc l' bs
    | none => false
theorem sy_br_r : ∀ {r : List Nat} {l l' : List UInt8}, sy_br l r = some l' → ∃ t : List UInt8, l = t ++ l' ∧ t.map UInt8.toNat = r
  | [], l, l', h => ⟨[], by cases l <;> exact (Option.some.inj h), rfl⟩
  | v :: r, [], l', h => by cases h
  | v :: r, a :: l, l', h => by
    unfold sy_br at h
    split at h
    · next hv =>
      obtain ⟨t, e1, e2⟩ := sy_br_r h
      exact ⟨a :: t, by rw [e1]; rfl, by rw [List.map_cons, e2, Nat.eq_of_beq_eq_true hv]⟩
    · cases h
theorem sy_bc_r : ∀ {bs : List (List Nat)} {l : List UInt8}, sy_bc l bs = true → ∀ {k v : Nat}, sy_lk bs k = some v → ∃ a : UInt8, l[k]? = some a ∧ a.toNat = v
  | [], l, _, k, v, h => by
    unfold sy_lk at h
    simp at h
  | r :: bs, l, hc, k, v, h => by
    unfold sy_bc at hc
    split at hc
    · next l' hr =>
      rw [Bool.and_eq_true, Bool.or_eq_true] at hc
      obtain ⟨t, e1, e2⟩ := sy_br_r hr
      have ht : t.length = r.length := by rw [← e2, List.length_map]
      rcases Nat.lt_or_ge k 16 with hk | hk
      · unfold sy_lk at h
        rw [Nat.div_eq_of_lt hk, Nat.mod_eq_of_lt hk] at h
        have h : r[k]? = some v := h
        rw [← e2, List.getElem?_map] at h
        cases ha : t[k]? with
        | none => rw [ha] at h; cases h
        | some a =>
          rw [ha] at h
          refine ⟨a, ?_, Option.some.inj h⟩
          rw [e1, List.getElem?_append_left (List.getElem?_eq_some_iff.mp ha).1]
          exact ha
      · have hl : sy_lk bs (k - 16) = some v := by
          unfold sy_lk at h ⊢
          have e3 : k / 16 = (k - 16) / 16 + 1 := by omega
          have e4 : k % 16 = (k - 16) % 16 := by omega
          rw [e3, e4, List.getElem?_cons_succ] at h
          exact h
        rcases hc.1 with h16 | h16
        · obtain ⟨a, h1, h2⟩ := sy_bc_r hc.2 hl
          refine ⟨a, ?_, h2⟩
          have : r.length = 16 := Nat.eq_of_beq_eq_true h16
          rw [e1, List.getElem?_append_right (by omega), ht, this]
          exact h1
        · cases bs with
          | nil => unfold sy_lk at hl; simp at hl
          | cons x y => cases h16
    · cases hc
/-- the code's bytes -/
def sy_By (cc : ByteArray) (bs : List (List Nat)) : Prop := ∀ {k v : Nat}, sy_lk bs k = some v → ∃ a : UInt8, cc.data.toList[k]? = some a ∧ a.toNat = v
theorem sy_u1 {cc : ByteArray} {k : Nat} {a : UInt8} (h : cc.data.toList[k]? = some a) : (Reader.u1 : Decoder Nat) cc k = .ok (a.toNat, k + 1) := by
  obtain ⟨hl, e⟩ := List.getElem?_eq_some_iff.mp h
  have hs : k < cc.size := by
    rw [Array.length_toList] at hl
    exact hl
  have e2 : cc[k] = a := by
    rw [← e, Array.getElem_toList]
    rfl
  show (dite (k < cc.size) (fun h => (do set (k + 1); Pure.pure cc[k].toNat : Decoder Nat)) (fun _ => throw (HasTruncated.truncated k))) cc k = _
  rw [dif_pos hs, e2]
  rfl
theorem sy_u2 {cc : ByteArray} {k x y : Nat} (h1 : (Reader.u1 : Decoder Nat) cc k = .ok (x, k + 1)) (h2 : (Reader.u1 : Decoder Nat) cc (k + 1) = .ok (y, k + 2)) : (Reader.u2 : Decoder Nat) cc k = .ok (x * 256 + y, k + 2) := by
  show Except.bind ((Reader.u1 : Decoder Nat) cc k) (fun q => Except.bind ((Reader.u1 : Decoder Nat) cc q.2) (fun z => .ok (q.1 * 256 + z.1, z.2))) = _
  rw [h1]
  show Except.bind ((Reader.u1 : Decoder Nat) cc (k + 1)) (fun z => .ok (x * 256 + z.1, z.2)) = _
  rw [h2]
  rfl
theorem sy_s2 {cc : ByteArray} {k n p : Nat} (h1 : (Reader.u2 : Decoder Nat) cc k = .ok (n, p)) : (Reader.s2 : Decoder Int) cc k = .ok (Reader.signed 16 n, p) := by
  show Except.bind ((Reader.u2 : Decoder Nat) cc k) (fun q => .ok (Reader.signed 16 q.1, q.2)) = _
  rw [h1]
  rfl
theorem sy_fd96 (pc : Nat) : ∃ F : Nat → Decoder Instr, Decoder.instr pc = (Reader.u1 >>= F) ∧ F 96 = Pure.pure (.iadd) := ⟨_, rfl, rfl⟩
theorem sy_d96 {cc : ByteArray} {k : Nat} (h0 : (Reader.u1 : Decoder Nat) cc k = .ok (96, k + 1)) : decode cc k = .ok (.iadd, 1) := by
  obtain ⟨F, hF, h2⟩ := sy_fd96 k
  unfold decode Reader.runAt
  rw [hF]
  show Except.bind (Except.bind ((Reader.u1 : Decoder Nat) cc k) (fun q => F q.1 cc q.2)) (fun q => .ok (q.1, q.2 - k)) = _
  rw [h0]
  show Except.bind (F 96 cc (k + 1)) (fun q => .ok (q.1, q.2 - k)) = _
  rw [h2]
  show Except.ok ((.iadd : Instr), k + 1 - k) = _
  rw [Nat.add_sub_cancel_left]
theorem sy_fd100 (pc : Nat) : ∃ F : Nat → Decoder Instr, Decoder.instr pc = (Reader.u1 >>= F) ∧ F 100 = Pure.pure (.isub) := ⟨_, rfl, rfl⟩
theorem sy_d100 {cc : ByteArray} {k : Nat} (h0 : (Reader.u1 : Decoder Nat) cc k = .ok (100, k + 1)) : decode cc k = .ok (.isub, 1) := by
  obtain ⟨F, hF, h2⟩ := sy_fd100 k
  unfold decode Reader.runAt
  rw [hF]
  show Except.bind (Except.bind ((Reader.u1 : Decoder Nat) cc k) (fun q => F q.1 cc q.2)) (fun q => .ok (q.1, q.2 - k)) = _
  rw [h0]
  show Except.bind (F 100 cc (k + 1)) (fun q => .ok (q.1, q.2 - k)) = _
  rw [h2]
  show Except.ok ((.isub : Instr), k + 1 - k) = _
  rw [Nat.add_sub_cancel_left]
theorem sy_fd104 (pc : Nat) : ∃ F : Nat → Decoder Instr, Decoder.instr pc = (Reader.u1 >>= F) ∧ F 104 = Pure.pure (.imul) := ⟨_, rfl, rfl⟩
theorem sy_d104 {cc : ByteArray} {k : Nat} (h0 : (Reader.u1 : Decoder Nat) cc k = .ok (104, k + 1)) : decode cc k = .ok (.imul, 1) := by
  obtain ⟨F, hF, h2⟩ := sy_fd104 k
  unfold decode Reader.runAt
  rw [hF]
  show Except.bind (Except.bind ((Reader.u1 : Decoder Nat) cc k) (fun q => F q.1 cc q.2)) (fun q => .ok (q.1, q.2 - k)) = _
  rw [h0]
  show Except.bind (F 104 cc (k + 1)) (fun q => .ok (q.1, q.2 - k)) = _
  rw [h2]
  show Except.ok ((.imul : Instr), k + 1 - k) = _
  rw [Nat.add_sub_cancel_left]
theorem sy_fd126 (pc : Nat) : ∃ F : Nat → Decoder Instr, Decoder.instr pc = (Reader.u1 >>= F) ∧ F 126 = Pure.pure (.iand) := ⟨_, rfl, rfl⟩
theorem sy_d126 {cc : ByteArray} {k : Nat} (h0 : (Reader.u1 : Decoder Nat) cc k = .ok (126, k + 1)) : decode cc k = .ok (.iand, 1) := by
  obtain ⟨F, hF, h2⟩ := sy_fd126 k
  unfold decode Reader.runAt
  rw [hF]
  show Except.bind (Except.bind ((Reader.u1 : Decoder Nat) cc k) (fun q => F q.1 cc q.2)) (fun q => .ok (q.1, q.2 - k)) = _
  rw [h0]
  show Except.bind (F 126 cc (k + 1)) (fun q => .ok (q.1, q.2 - k)) = _
  rw [h2]
  show Except.ok ((.iand : Instr), k + 1 - k) = _
  rw [Nat.add_sub_cancel_left]
theorem sy_fd128 (pc : Nat) : ∃ F : Nat → Decoder Instr, Decoder.instr pc = (Reader.u1 >>= F) ∧ F 128 = Pure.pure (.ior) := ⟨_, rfl, rfl⟩
theorem sy_d128 {cc : ByteArray} {k : Nat} (h0 : (Reader.u1 : Decoder Nat) cc k = .ok (128, k + 1)) : decode cc k = .ok (.ior, 1) := by
  obtain ⟨F, hF, h2⟩ := sy_fd128 k
  unfold decode Reader.runAt
  rw [hF]
  show Except.bind (Except.bind ((Reader.u1 : Decoder Nat) cc k) (fun q => F q.1 cc q.2)) (fun q => .ok (q.1, q.2 - k)) = _
  rw [h0]
  show Except.bind (F 128 cc (k + 1)) (fun q => .ok (q.1, q.2 - k)) = _
  rw [h2]
  show Except.ok ((.ior : Instr), k + 1 - k) = _
  rw [Nat.add_sub_cancel_left]
theorem sy_fd130 (pc : Nat) : ∃ F : Nat → Decoder Instr, Decoder.instr pc = (Reader.u1 >>= F) ∧ F 130 = Pure.pure (.ixor) := ⟨_, rfl, rfl⟩
theorem sy_d130 {cc : ByteArray} {k : Nat} (h0 : (Reader.u1 : Decoder Nat) cc k = .ok (130, k + 1)) : decode cc k = .ok (.ixor, 1) := by
  obtain ⟨F, hF, h2⟩ := sy_fd130 k
  unfold decode Reader.runAt
  rw [hF]
  show Except.bind (Except.bind ((Reader.u1 : Decoder Nat) cc k) (fun q => F q.1 cc q.2)) (fun q => .ok (q.1, q.2 - k)) = _
  rw [h0]
  show Except.bind (F 130 cc (k + 1)) (fun q => .ok (q.1, q.2 - k)) = _
  rw [h2]
  show Except.ok ((.ixor : Instr), k + 1 - k) = _
  rw [Nat.add_sub_cancel_left]
theorem sy_fd120 (pc : Nat) : ∃ F : Nat → Decoder Instr, Decoder.instr pc = (Reader.u1 >>= F) ∧ F 120 = Pure.pure (.ishl) := ⟨_, rfl, rfl⟩
theorem sy_d120 {cc : ByteArray} {k : Nat} (h0 : (Reader.u1 : Decoder Nat) cc k = .ok (120, k + 1)) : decode cc k = .ok (.ishl, 1) := by
  obtain ⟨F, hF, h2⟩ := sy_fd120 k
  unfold decode Reader.runAt
  rw [hF]
  show Except.bind (Except.bind ((Reader.u1 : Decoder Nat) cc k) (fun q => F q.1 cc q.2)) (fun q => .ok (q.1, q.2 - k)) = _
  rw [h0]
  show Except.bind (F 120 cc (k + 1)) (fun q => .ok (q.1, q.2 - k)) = _
  rw [h2]
  show Except.ok ((.ishl : Instr), k + 1 - k) = _
  rw [Nat.add_sub_cancel_left]
theorem sy_fd89 (pc : Nat) : ∃ F : Nat → Decoder Instr, Decoder.instr pc = (Reader.u1 >>= F) ∧ F 89 = Pure.pure (.dup) := ⟨_, rfl, rfl⟩
theorem sy_d89 {cc : ByteArray} {k : Nat} (h0 : (Reader.u1 : Decoder Nat) cc k = .ok (89, k + 1)) : decode cc k = .ok (.dup, 1) := by
  obtain ⟨F, hF, h2⟩ := sy_fd89 k
  unfold decode Reader.runAt
  rw [hF]
  show Except.bind (Except.bind ((Reader.u1 : Decoder Nat) cc k) (fun q => F q.1 cc q.2)) (fun q => .ok (q.1, q.2 - k)) = _
  rw [h0]
  show Except.bind (F 89 cc (k + 1)) (fun q => .ok (q.1, q.2 - k)) = _
  rw [h2]
  show Except.ok ((.dup : Instr), k + 1 - k) = _
  rw [Nat.add_sub_cancel_left]
theorem sy_fd87 (pc : Nat) : ∃ F : Nat → Decoder Instr, Decoder.instr pc = (Reader.u1 >>= F) ∧ F 87 = Pure.pure (.pop) := ⟨_, rfl, rfl⟩
theorem sy_d87 {cc : ByteArray} {k : Nat} (h0 : (Reader.u1 : Decoder Nat) cc k = .ok (87, k + 1)) : decode cc k = .ok (.pop, 1) := by
  obtain ⟨F, hF, h2⟩ := sy_fd87 k
  unfold decode Reader.runAt
  rw [hF]
  show Except.bind (Except.bind ((Reader.u1 : Decoder Nat) cc k) (fun q => F q.1 cc q.2)) (fun q => .ok (q.1, q.2 - k)) = _
  rw [h0]
  show Except.bind (F 87 cc (k + 1)) (fun q => .ok (q.1, q.2 - k)) = _
  rw [h2]
  show Except.ok ((.pop : Instr), k + 1 - k) = _
  rw [Nat.add_sub_cancel_left]
theorem sy_fd92 (pc : Nat) : ∃ F : Nat → Decoder Instr, Decoder.instr pc = (Reader.u1 >>= F) ∧ F 92 = Pure.pure (.dup2) := ⟨_, rfl, rfl⟩
theorem sy_d92 {cc : ByteArray} {k : Nat} (h0 : (Reader.u1 : Decoder Nat) cc k = .ok (92, k + 1)) : decode cc k = .ok (.dup2, 1) := by
  obtain ⟨F, hF, h2⟩ := sy_fd92 k
  unfold decode Reader.runAt
  rw [hF]
  show Except.bind (Except.bind ((Reader.u1 : Decoder Nat) cc k) (fun q => F q.1 cc q.2)) (fun q => .ok (q.1, q.2 - k)) = _
  rw [h0]
  show Except.bind (F 92 cc (k + 1)) (fun q => .ok (q.1, q.2 - k)) = _
  rw [h2]
  show Except.ok ((.dup2 : Instr), k + 1 - k) = _
  rw [Nat.add_sub_cancel_left]
theorem sy_fd190 (pc : Nat) : ∃ F : Nat → Decoder Instr, Decoder.instr pc = (Reader.u1 >>= F) ∧ F 190 = Pure.pure (.arraylength) := ⟨_, rfl, rfl⟩
theorem sy_d190 {cc : ByteArray} {k : Nat} (h0 : (Reader.u1 : Decoder Nat) cc k = .ok (190, k + 1)) : decode cc k = .ok (.arraylength, 1) := by
  obtain ⟨F, hF, h2⟩ := sy_fd190 k
  unfold decode Reader.runAt
  rw [hF]
  show Except.bind (Except.bind ((Reader.u1 : Decoder Nat) cc k) (fun q => F q.1 cc q.2)) (fun q => .ok (q.1, q.2 - k)) = _
  rw [h0]
  show Except.bind (F 190 cc (k + 1)) (fun q => .ok (q.1, q.2 - k)) = _
  rw [h2]
  show Except.ok ((.arraylength : Instr), k + 1 - k) = _
  rw [Nat.add_sub_cancel_left]
theorem sy_fd50 (pc : Nat) : ∃ F : Nat → Decoder Instr, Decoder.instr pc = (Reader.u1 >>= F) ∧ F 50 = Pure.pure (.aaload) := ⟨_, rfl, rfl⟩
theorem sy_d50 {cc : ByteArray} {k : Nat} (h0 : (Reader.u1 : Decoder Nat) cc k = .ok (50, k + 1)) : decode cc k = .ok (.aaload, 1) := by
  obtain ⟨F, hF, h2⟩ := sy_fd50 k
  unfold decode Reader.runAt
  rw [hF]
  show Except.bind (Except.bind ((Reader.u1 : Decoder Nat) cc k) (fun q => F q.1 cc q.2)) (fun q => .ok (q.1, q.2 - k)) = _
  rw [h0]
  show Except.bind (F 50 cc (k + 1)) (fun q => .ok (q.1, q.2 - k)) = _
  rw [h2]
  show Except.ok ((.aaload : Instr), k + 1 - k) = _
  rw [Nat.add_sub_cancel_left]
theorem sy_fd83 (pc : Nat) : ∃ F : Nat → Decoder Instr, Decoder.instr pc = (Reader.u1 >>= F) ∧ F 83 = Pure.pure (.aastore) := ⟨_, rfl, rfl⟩
theorem sy_d83 {cc : ByteArray} {k : Nat} (h0 : (Reader.u1 : Decoder Nat) cc k = .ok (83, k + 1)) : decode cc k = .ok (.aastore, 1) := by
  obtain ⟨F, hF, h2⟩ := sy_fd83 k
  unfold decode Reader.runAt
  rw [hF]
  show Except.bind (Except.bind ((Reader.u1 : Decoder Nat) cc k) (fun q => F q.1 cc q.2)) (fun q => .ok (q.1, q.2 - k)) = _
  rw [h0]
  show Except.bind (F 83 cc (k + 1)) (fun q => .ok (q.1, q.2 - k)) = _
  rw [h2]
  show Except.ok ((.aastore : Instr), k + 1 - k) = _
  rw [Nat.add_sub_cancel_left]
theorem sy_fd173 (pc : Nat) : ∃ F : Nat → Decoder Instr, Decoder.instr pc = (Reader.u1 >>= F) ∧ F 173 = Pure.pure (.lreturn) := ⟨_, rfl, rfl⟩
theorem sy_d173 {cc : ByteArray} {k : Nat} (h0 : (Reader.u1 : Decoder Nat) cc k = .ok (173, k + 1)) : decode cc k = .ok (.lreturn, 1) := by
  obtain ⟨F, hF, h2⟩ := sy_fd173 k
  unfold decode Reader.runAt
  rw [hF]
  show Except.bind (Except.bind ((Reader.u1 : Decoder Nat) cc k) (fun q => F q.1 cc q.2)) (fun q => .ok (q.1, q.2 - k)) = _
  rw [h0]
  show Except.bind (F 173 cc (k + 1)) (fun q => .ok (q.1, q.2 - k)) = _
  rw [h2]
  show Except.ok ((.lreturn : Instr), k + 1 - k) = _
  rw [Nat.add_sub_cancel_left]
theorem sy_fd177 (pc : Nat) : ∃ F : Nat → Decoder Instr, Decoder.instr pc = (Reader.u1 >>= F) ∧ F 177 = Pure.pure (.return_) := ⟨_, rfl, rfl⟩
theorem sy_d177 {cc : ByteArray} {k : Nat} (h0 : (Reader.u1 : Decoder Nat) cc k = .ok (177, k + 1)) : decode cc k = .ok (.return_, 1) := by
  obtain ⟨F, hF, h2⟩ := sy_fd177 k
  unfold decode Reader.runAt
  rw [hF]
  show Except.bind (Except.bind ((Reader.u1 : Decoder Nat) cc k) (fun q => F q.1 cc q.2)) (fun q => .ok (q.1, q.2 - k)) = _
  rw [h0]
  show Except.bind (F 177 cc (k + 1)) (fun q => .ok (q.1, q.2 - k)) = _
  rw [h2]
  show Except.ok ((.return_ : Instr), k + 1 - k) = _
  rw [Nat.add_sub_cancel_left]
theorem sy_fd172 (pc : Nat) : ∃ F : Nat → Decoder Instr, Decoder.instr pc = (Reader.u1 >>= F) ∧ F 172 = Pure.pure (.ireturn) := ⟨_, rfl, rfl⟩
theorem sy_d172 {cc : ByteArray} {k : Nat} (h0 : (Reader.u1 : Decoder Nat) cc k = .ok (172, k + 1)) : decode cc k = .ok (.ireturn, 1) := by
  obtain ⟨F, hF, h2⟩ := sy_fd172 k
  unfold decode Reader.runAt
  rw [hF]
  show Except.bind (Except.bind ((Reader.u1 : Decoder Nat) cc k) (fun q => F q.1 cc q.2)) (fun q => .ok (q.1, q.2 - k)) = _
  rw [h0]
  show Except.bind (F 172 cc (k + 1)) (fun q => .ok (q.1, q.2 - k)) = _
  rw [h2]
  show Except.ok ((.ireturn : Instr), k + 1 - k) = _
  rw [Nat.add_sub_cancel_left]
theorem sy_fd46 (pc : Nat) : ∃ F : Nat → Decoder Instr, Decoder.instr pc = (Reader.u1 >>= F) ∧ F 46 = Pure.pure (.iaload) := ⟨_, rfl, rfl⟩
theorem sy_d46 {cc : ByteArray} {k : Nat} (h0 : (Reader.u1 : Decoder Nat) cc k = .ok (46, k + 1)) : decode cc k = .ok (.iaload, 1) := by
  obtain ⟨F, hF, h2⟩ := sy_fd46 k
  unfold decode Reader.runAt
  rw [hF]
  show Except.bind (Except.bind ((Reader.u1 : Decoder Nat) cc k) (fun q => F q.1 cc q.2)) (fun q => .ok (q.1, q.2 - k)) = _
  rw [h0]
  show Except.bind (F 46 cc (k + 1)) (fun q => .ok (q.1, q.2 - k)) = _
  rw [h2]
  show Except.ok ((.iaload : Instr), k + 1 - k) = _
  rw [Nat.add_sub_cancel_left]
theorem sy_fd51 (pc : Nat) : ∃ F : Nat → Decoder Instr, Decoder.instr pc = (Reader.u1 >>= F) ∧ F 51 = Pure.pure (.baload) := ⟨_, rfl, rfl⟩
theorem sy_d51 {cc : ByteArray} {k : Nat} (h0 : (Reader.u1 : Decoder Nat) cc k = .ok (51, k + 1)) : decode cc k = .ok (.baload, 1) := by
  obtain ⟨F, hF, h2⟩ := sy_fd51 k
  unfold decode Reader.runAt
  rw [hF]
  show Except.bind (Except.bind ((Reader.u1 : Decoder Nat) cc k) (fun q => F q.1 cc q.2)) (fun q => .ok (q.1, q.2 - k)) = _
  rw [h0]
  show Except.bind (F 51 cc (k + 1)) (fun q => .ok (q.1, q.2 - k)) = _
  rw [h2]
  show Except.ok ((.baload : Instr), k + 1 - k) = _
  rw [Nat.add_sub_cancel_left]
theorem sy_fd47 (pc : Nat) : ∃ F : Nat → Decoder Instr, Decoder.instr pc = (Reader.u1 >>= F) ∧ F 47 = Pure.pure (.laload) := ⟨_, rfl, rfl⟩
theorem sy_d47 {cc : ByteArray} {k : Nat} (h0 : (Reader.u1 : Decoder Nat) cc k = .ok (47, k + 1)) : decode cc k = .ok (.laload, 1) := by
  obtain ⟨F, hF, h2⟩ := sy_fd47 k
  unfold decode Reader.runAt
  rw [hF]
  show Except.bind (Except.bind ((Reader.u1 : Decoder Nat) cc k) (fun q => F q.1 cc q.2)) (fun q => .ok (q.1, q.2 - k)) = _
  rw [h0]
  show Except.bind (F 47 cc (k + 1)) (fun q => .ok (q.1, q.2 - k)) = _
  rw [h2]
  show Except.ok ((.laload : Instr), k + 1 - k) = _
  rw [Nat.add_sub_cancel_left]
theorem sy_fd79 (pc : Nat) : ∃ F : Nat → Decoder Instr, Decoder.instr pc = (Reader.u1 >>= F) ∧ F 79 = Pure.pure (.iastore) := ⟨_, rfl, rfl⟩
theorem sy_d79 {cc : ByteArray} {k : Nat} (h0 : (Reader.u1 : Decoder Nat) cc k = .ok (79, k + 1)) : decode cc k = .ok (.iastore, 1) := by
  obtain ⟨F, hF, h2⟩ := sy_fd79 k
  unfold decode Reader.runAt
  rw [hF]
  show Except.bind (Except.bind ((Reader.u1 : Decoder Nat) cc k) (fun q => F q.1 cc q.2)) (fun q => .ok (q.1, q.2 - k)) = _
  rw [h0]
  show Except.bind (F 79 cc (k + 1)) (fun q => .ok (q.1, q.2 - k)) = _
  rw [h2]
  show Except.ok ((.iastore : Instr), k + 1 - k) = _
  rw [Nat.add_sub_cancel_left]
theorem sy_fd84 (pc : Nat) : ∃ F : Nat → Decoder Instr, Decoder.instr pc = (Reader.u1 >>= F) ∧ F 84 = Pure.pure (.bastore) := ⟨_, rfl, rfl⟩
theorem sy_d84 {cc : ByteArray} {k : Nat} (h0 : (Reader.u1 : Decoder Nat) cc k = .ok (84, k + 1)) : decode cc k = .ok (.bastore, 1) := by
  obtain ⟨F, hF, h2⟩ := sy_fd84 k
  unfold decode Reader.runAt
  rw [hF]
  show Except.bind (Except.bind ((Reader.u1 : Decoder Nat) cc k) (fun q => F q.1 cc q.2)) (fun q => .ok (q.1, q.2 - k)) = _
  rw [h0]
  show Except.bind (F 84 cc (k + 1)) (fun q => .ok (q.1, q.2 - k)) = _
  rw [h2]
  show Except.ok ((.bastore : Instr), k + 1 - k) = _
  rw [Nat.add_sub_cancel_left]
theorem sy_fd80 (pc : Nat) : ∃ F : Nat → Decoder Instr, Decoder.instr pc = (Reader.u1 >>= F) ∧ F 80 = Pure.pure (.lastore) := ⟨_, rfl, rfl⟩
theorem sy_d80 {cc : ByteArray} {k : Nat} (h0 : (Reader.u1 : Decoder Nat) cc k = .ok (80, k + 1)) : decode cc k = .ok (.lastore, 1) := by
  obtain ⟨F, hF, h2⟩ := sy_fd80 k
  unfold decode Reader.runAt
  rw [hF]
  show Except.bind (Except.bind ((Reader.u1 : Decoder Nat) cc k) (fun q => F q.1 cc q.2)) (fun q => .ok (q.1, q.2 - k)) = _
  rw [h0]
  show Except.bind (F 80 cc (k + 1)) (fun q => .ok (q.1, q.2 - k)) = _
  rw [h2]
  show Except.ok ((.lastore : Instr), k + 1 - k) = _
  rw [Nat.add_sub_cancel_left]
theorem sy_fd97 (pc : Nat) : ∃ F : Nat → Decoder Instr, Decoder.instr pc = (Reader.u1 >>= F) ∧ F 97 = Pure.pure (.ladd) := ⟨_, rfl, rfl⟩
theorem sy_d97 {cc : ByteArray} {k : Nat} (h0 : (Reader.u1 : Decoder Nat) cc k = .ok (97, k + 1)) : decode cc k = .ok (.ladd, 1) := by
  obtain ⟨F, hF, h2⟩ := sy_fd97 k
  unfold decode Reader.runAt
  rw [hF]
  show Except.bind (Except.bind ((Reader.u1 : Decoder Nat) cc k) (fun q => F q.1 cc q.2)) (fun q => .ok (q.1, q.2 - k)) = _
  rw [h0]
  show Except.bind (F 97 cc (k + 1)) (fun q => .ok (q.1, q.2 - k)) = _
  rw [h2]
  show Except.ok ((.ladd : Instr), k + 1 - k) = _
  rw [Nat.add_sub_cancel_left]
theorem sy_fd101 (pc : Nat) : ∃ F : Nat → Decoder Instr, Decoder.instr pc = (Reader.u1 >>= F) ∧ F 101 = Pure.pure (.lsub) := ⟨_, rfl, rfl⟩
theorem sy_d101 {cc : ByteArray} {k : Nat} (h0 : (Reader.u1 : Decoder Nat) cc k = .ok (101, k + 1)) : decode cc k = .ok (.lsub, 1) := by
  obtain ⟨F, hF, h2⟩ := sy_fd101 k
  unfold decode Reader.runAt
  rw [hF]
  show Except.bind (Except.bind ((Reader.u1 : Decoder Nat) cc k) (fun q => F q.1 cc q.2)) (fun q => .ok (q.1, q.2 - k)) = _
  rw [h0]
  show Except.bind (F 101 cc (k + 1)) (fun q => .ok (q.1, q.2 - k)) = _
  rw [h2]
  show Except.ok ((.lsub : Instr), k + 1 - k) = _
  rw [Nat.add_sub_cancel_left]
theorem sy_fd105 (pc : Nat) : ∃ F : Nat → Decoder Instr, Decoder.instr pc = (Reader.u1 >>= F) ∧ F 105 = Pure.pure (.lmul) := ⟨_, rfl, rfl⟩
theorem sy_d105 {cc : ByteArray} {k : Nat} (h0 : (Reader.u1 : Decoder Nat) cc k = .ok (105, k + 1)) : decode cc k = .ok (.lmul, 1) := by
  obtain ⟨F, hF, h2⟩ := sy_fd105 k
  unfold decode Reader.runAt
  rw [hF]
  show Except.bind (Except.bind ((Reader.u1 : Decoder Nat) cc k) (fun q => F q.1 cc q.2)) (fun q => .ok (q.1, q.2 - k)) = _
  rw [h0]
  show Except.bind (F 105 cc (k + 1)) (fun q => .ok (q.1, q.2 - k)) = _
  rw [h2]
  show Except.ok ((.lmul : Instr), k + 1 - k) = _
  rw [Nat.add_sub_cancel_left]
theorem sy_fd127 (pc : Nat) : ∃ F : Nat → Decoder Instr, Decoder.instr pc = (Reader.u1 >>= F) ∧ F 127 = Pure.pure (.land) := ⟨_, rfl, rfl⟩
theorem sy_d127 {cc : ByteArray} {k : Nat} (h0 : (Reader.u1 : Decoder Nat) cc k = .ok (127, k + 1)) : decode cc k = .ok (.land, 1) := by
  obtain ⟨F, hF, h2⟩ := sy_fd127 k
  unfold decode Reader.runAt
  rw [hF]
  show Except.bind (Except.bind ((Reader.u1 : Decoder Nat) cc k) (fun q => F q.1 cc q.2)) (fun q => .ok (q.1, q.2 - k)) = _
  rw [h0]
  show Except.bind (F 127 cc (k + 1)) (fun q => .ok (q.1, q.2 - k)) = _
  rw [h2]
  show Except.ok ((.land : Instr), k + 1 - k) = _
  rw [Nat.add_sub_cancel_left]
theorem sy_fd129 (pc : Nat) : ∃ F : Nat → Decoder Instr, Decoder.instr pc = (Reader.u1 >>= F) ∧ F 129 = Pure.pure (.lor) := ⟨_, rfl, rfl⟩
theorem sy_d129 {cc : ByteArray} {k : Nat} (h0 : (Reader.u1 : Decoder Nat) cc k = .ok (129, k + 1)) : decode cc k = .ok (.lor, 1) := by
  obtain ⟨F, hF, h2⟩ := sy_fd129 k
  unfold decode Reader.runAt
  rw [hF]
  show Except.bind (Except.bind ((Reader.u1 : Decoder Nat) cc k) (fun q => F q.1 cc q.2)) (fun q => .ok (q.1, q.2 - k)) = _
  rw [h0]
  show Except.bind (F 129 cc (k + 1)) (fun q => .ok (q.1, q.2 - k)) = _
  rw [h2]
  show Except.ok ((.lor : Instr), k + 1 - k) = _
  rw [Nat.add_sub_cancel_left]
theorem sy_fd131 (pc : Nat) : ∃ F : Nat → Decoder Instr, Decoder.instr pc = (Reader.u1 >>= F) ∧ F 131 = Pure.pure (.lxor) := ⟨_, rfl, rfl⟩
theorem sy_d131 {cc : ByteArray} {k : Nat} (h0 : (Reader.u1 : Decoder Nat) cc k = .ok (131, k + 1)) : decode cc k = .ok (.lxor, 1) := by
  obtain ⟨F, hF, h2⟩ := sy_fd131 k
  unfold decode Reader.runAt
  rw [hF]
  show Except.bind (Except.bind ((Reader.u1 : Decoder Nat) cc k) (fun q => F q.1 cc q.2)) (fun q => .ok (q.1, q.2 - k)) = _
  rw [h0]
  show Except.bind (F 131 cc (k + 1)) (fun q => .ok (q.1, q.2 - k)) = _
  rw [h2]
  show Except.ok ((.lxor : Instr), k + 1 - k) = _
  rw [Nat.add_sub_cancel_left]
theorem sy_fd121 (pc : Nat) : ∃ F : Nat → Decoder Instr, Decoder.instr pc = (Reader.u1 >>= F) ∧ F 121 = Pure.pure (.lshl) := ⟨_, rfl, rfl⟩
theorem sy_d121 {cc : ByteArray} {k : Nat} (h0 : (Reader.u1 : Decoder Nat) cc k = .ok (121, k + 1)) : decode cc k = .ok (.lshl, 1) := by
  obtain ⟨F, hF, h2⟩ := sy_fd121 k
  unfold decode Reader.runAt
  rw [hF]
  show Except.bind (Except.bind ((Reader.u1 : Decoder Nat) cc k) (fun q => F q.1 cc q.2)) (fun q => .ok (q.1, q.2 - k)) = _
  rw [h0]
  show Except.bind (F 121 cc (k + 1)) (fun q => .ok (q.1, q.2 - k)) = _
  rw [h2]
  show Except.ok ((.lshl : Instr), k + 1 - k) = _
  rw [Nat.add_sub_cancel_left]
theorem sy_fd123 (pc : Nat) : ∃ F : Nat → Decoder Instr, Decoder.instr pc = (Reader.u1 >>= F) ∧ F 123 = Pure.pure (.lshr) := ⟨_, rfl, rfl⟩
theorem sy_d123 {cc : ByteArray} {k : Nat} (h0 : (Reader.u1 : Decoder Nat) cc k = .ok (123, k + 1)) : decode cc k = .ok (.lshr, 1) := by
  obtain ⟨F, hF, h2⟩ := sy_fd123 k
  unfold decode Reader.runAt
  rw [hF]
  show Except.bind (Except.bind ((Reader.u1 : Decoder Nat) cc k) (fun q => F q.1 cc q.2)) (fun q => .ok (q.1, q.2 - k)) = _
  rw [h0]
  show Except.bind (F 123 cc (k + 1)) (fun q => .ok (q.1, q.2 - k)) = _
  rw [h2]
  show Except.ok ((.lshr : Instr), k + 1 - k) = _
  rw [Nat.add_sub_cancel_left]
theorem sy_fd125 (pc : Nat) : ∃ F : Nat → Decoder Instr, Decoder.instr pc = (Reader.u1 >>= F) ∧ F 125 = Pure.pure (.lushr) := ⟨_, rfl, rfl⟩
theorem sy_d125 {cc : ByteArray} {k : Nat} (h0 : (Reader.u1 : Decoder Nat) cc k = .ok (125, k + 1)) : decode cc k = .ok (.lushr, 1) := by
  obtain ⟨F, hF, h2⟩ := sy_fd125 k
  unfold decode Reader.runAt
  rw [hF]
  show Except.bind (Except.bind ((Reader.u1 : Decoder Nat) cc k) (fun q => F q.1 cc q.2)) (fun q => .ok (q.1, q.2 - k)) = _
  rw [h0]
  show Except.bind (F 125 cc (k + 1)) (fun q => .ok (q.1, q.2 - k)) = _
  rw [h2]
  show Except.ok ((.lushr : Instr), k + 1 - k) = _
  rw [Nat.add_sub_cancel_left]
theorem sy_fd148 (pc : Nat) : ∃ F : Nat → Decoder Instr, Decoder.instr pc = (Reader.u1 >>= F) ∧ F 148 = Pure.pure (.lcmp) := ⟨_, rfl, rfl⟩
theorem sy_d148 {cc : ByteArray} {k : Nat} (h0 : (Reader.u1 : Decoder Nat) cc k = .ok (148, k + 1)) : decode cc k = .ok (.lcmp, 1) := by
  obtain ⟨F, hF, h2⟩ := sy_fd148 k
  unfold decode Reader.runAt
  rw [hF]
  show Except.bind (Except.bind ((Reader.u1 : Decoder Nat) cc k) (fun q => F q.1 cc q.2)) (fun q => .ok (q.1, q.2 - k)) = _
  rw [h0]
  show Except.bind (F 148 cc (k + 1)) (fun q => .ok (q.1, q.2 - k)) = _
  rw [h2]
  show Except.ok ((.lcmp : Instr), k + 1 - k) = _
  rw [Nat.add_sub_cancel_left]
theorem sy_fd133 (pc : Nat) : ∃ F : Nat → Decoder Instr, Decoder.instr pc = (Reader.u1 >>= F) ∧ F 133 = Pure.pure (.i2l) := ⟨_, rfl, rfl⟩
theorem sy_d133 {cc : ByteArray} {k : Nat} (h0 : (Reader.u1 : Decoder Nat) cc k = .ok (133, k + 1)) : decode cc k = .ok (.i2l, 1) := by
  obtain ⟨F, hF, h2⟩ := sy_fd133 k
  unfold decode Reader.runAt
  rw [hF]
  show Except.bind (Except.bind ((Reader.u1 : Decoder Nat) cc k) (fun q => F q.1 cc q.2)) (fun q => .ok (q.1, q.2 - k)) = _
  rw [h0]
  show Except.bind (F 133 cc (k + 1)) (fun q => .ok (q.1, q.2 - k)) = _
  rw [h2]
  show Except.ok ((.i2l : Instr), k + 1 - k) = _
  rw [Nat.add_sub_cancel_left]
theorem sy_fd136 (pc : Nat) : ∃ F : Nat → Decoder Instr, Decoder.instr pc = (Reader.u1 >>= F) ∧ F 136 = Pure.pure (.l2i) := ⟨_, rfl, rfl⟩
theorem sy_d136 {cc : ByteArray} {k : Nat} (h0 : (Reader.u1 : Decoder Nat) cc k = .ok (136, k + 1)) : decode cc k = .ok (.l2i, 1) := by
  obtain ⟨F, hF, h2⟩ := sy_fd136 k
  unfold decode Reader.runAt
  rw [hF]
  show Except.bind (Except.bind ((Reader.u1 : Decoder Nat) cc k) (fun q => F q.1 cc q.2)) (fun q => .ok (q.1, q.2 - k)) = _
  rw [h0]
  show Except.bind (F 136 cc (k + 1)) (fun q => .ok (q.1, q.2 - k)) = _
  rw [h2]
  show Except.ok ((.l2i : Instr), k + 1 - k) = _
  rw [Nat.add_sub_cancel_left]
theorem sy_fd145 (pc : Nat) : ∃ F : Nat → Decoder Instr, Decoder.instr pc = (Reader.u1 >>= F) ∧ F 145 = Pure.pure (.i2b) := ⟨_, rfl, rfl⟩
theorem sy_d145 {cc : ByteArray} {k : Nat} (h0 : (Reader.u1 : Decoder Nat) cc k = .ok (145, k + 1)) : decode cc k = .ok (.i2b, 1) := by
  obtain ⟨F, hF, h2⟩ := sy_fd145 k
  unfold decode Reader.runAt
  rw [hF]
  show Except.bind (Except.bind ((Reader.u1 : Decoder Nat) cc k) (fun q => F q.1 cc q.2)) (fun q => .ok (q.1, q.2 - k)) = _
  rw [h0]
  show Except.bind (F 145 cc (k + 1)) (fun q => .ok (q.1, q.2 - k)) = _
  rw [h2]
  show Except.ok ((.i2b : Instr), k + 1 - k) = _
  rw [Nat.add_sub_cancel_left]
theorem sy_fd108 (pc : Nat) : ∃ F : Nat → Decoder Instr, Decoder.instr pc = (Reader.u1 >>= F) ∧ F 108 = Pure.pure (.idiv) := ⟨_, rfl, rfl⟩
theorem sy_d108 {cc : ByteArray} {k : Nat} (h0 : (Reader.u1 : Decoder Nat) cc k = .ok (108, k + 1)) : decode cc k = .ok (.idiv, 1) := by
  obtain ⟨F, hF, h2⟩ := sy_fd108 k
  unfold decode Reader.runAt
  rw [hF]
  show Except.bind (Except.bind ((Reader.u1 : Decoder Nat) cc k) (fun q => F q.1 cc q.2)) (fun q => .ok (q.1, q.2 - k)) = _
  rw [h0]
  show Except.bind (F 108 cc (k + 1)) (fun q => .ok (q.1, q.2 - k)) = _
  rw [h2]
  show Except.ok ((.idiv : Instr), k + 1 - k) = _
  rw [Nat.add_sub_cancel_left]
theorem sy_fd112 (pc : Nat) : ∃ F : Nat → Decoder Instr, Decoder.instr pc = (Reader.u1 >>= F) ∧ F 112 = Pure.pure (.irem) := ⟨_, rfl, rfl⟩
theorem sy_d112 {cc : ByteArray} {k : Nat} (h0 : (Reader.u1 : Decoder Nat) cc k = .ok (112, k + 1)) : decode cc k = .ok (.irem, 1) := by
  obtain ⟨F, hF, h2⟩ := sy_fd112 k
  unfold decode Reader.runAt
  rw [hF]
  show Except.bind (Except.bind ((Reader.u1 : Decoder Nat) cc k) (fun q => F q.1 cc q.2)) (fun q => .ok (q.1, q.2 - k)) = _
  rw [h0]
  show Except.bind (F 112 cc (k + 1)) (fun q => .ok (q.1, q.2 - k)) = _
  rw [h2]
  show Except.ok ((.irem : Instr), k + 1 - k) = _
  rw [Nat.add_sub_cancel_left]
theorem sy_fd122 (pc : Nat) : ∃ F : Nat → Decoder Instr, Decoder.instr pc = (Reader.u1 >>= F) ∧ F 122 = Pure.pure (.ishr) := ⟨_, rfl, rfl⟩
theorem sy_d122 {cc : ByteArray} {k : Nat} (h0 : (Reader.u1 : Decoder Nat) cc k = .ok (122, k + 1)) : decode cc k = .ok (.ishr, 1) := by
  obtain ⟨F, hF, h2⟩ := sy_fd122 k
  unfold decode Reader.runAt
  rw [hF]
  show Except.bind (Except.bind ((Reader.u1 : Decoder Nat) cc k) (fun q => F q.1 cc q.2)) (fun q => .ok (q.1, q.2 - k)) = _
  rw [h0]
  show Except.bind (F 122 cc (k + 1)) (fun q => .ok (q.1, q.2 - k)) = _
  rw [h2]
  show Except.ok ((.ishr : Instr), k + 1 - k) = _
  rw [Nat.add_sub_cancel_left]
theorem sy_fd124 (pc : Nat) : ∃ F : Nat → Decoder Instr, Decoder.instr pc = (Reader.u1 >>= F) ∧ F 124 = Pure.pure (.iushr) := ⟨_, rfl, rfl⟩
theorem sy_d124 {cc : ByteArray} {k : Nat} (h0 : (Reader.u1 : Decoder Nat) cc k = .ok (124, k + 1)) : decode cc k = .ok (.iushr, 1) := by
  obtain ⟨F, hF, h2⟩ := sy_fd124 k
  unfold decode Reader.runAt
  rw [hF]
  show Except.bind (Except.bind ((Reader.u1 : Decoder Nat) cc k) (fun q => F q.1 cc q.2)) (fun q => .ok (q.1, q.2 - k)) = _
  rw [h0]
  show Except.bind (F 124 cc (k + 1)) (fun q => .ok (q.1, q.2 - k)) = _
  rw [h2]
  show Except.ok ((.iushr : Instr), k + 1 - k) = _
  rw [Nat.add_sub_cancel_left]
theorem sy_fd147 (pc : Nat) : ∃ F : Nat → Decoder Instr, Decoder.instr pc = (Reader.u1 >>= F) ∧ F 147 = Pure.pure (.i2s) := ⟨_, rfl, rfl⟩
theorem sy_d147 {cc : ByteArray} {k : Nat} (h0 : (Reader.u1 : Decoder Nat) cc k = .ok (147, k + 1)) : decode cc k = .ok (.i2s, 1) := by
  obtain ⟨F, hF, h2⟩ := sy_fd147 k
  unfold decode Reader.runAt
  rw [hF]
  show Except.bind (Except.bind ((Reader.u1 : Decoder Nat) cc k) (fun q => F q.1 cc q.2)) (fun q => .ok (q.1, q.2 - k)) = _
  rw [h0]
  show Except.bind (F 147 cc (k + 1)) (fun q => .ok (q.1, q.2 - k)) = _
  rw [h2]
  show Except.ok ((.i2s : Instr), k + 1 - k) = _
  rw [Nat.add_sub_cancel_left]
theorem sy_fd109 (pc : Nat) : ∃ F : Nat → Decoder Instr, Decoder.instr pc = (Reader.u1 >>= F) ∧ F 109 = Pure.pure (.ldiv) := ⟨_, rfl, rfl⟩
theorem sy_d109 {cc : ByteArray} {k : Nat} (h0 : (Reader.u1 : Decoder Nat) cc k = .ok (109, k + 1)) : decode cc k = .ok (.ldiv, 1) := by
  obtain ⟨F, hF, h2⟩ := sy_fd109 k
  unfold decode Reader.runAt
  rw [hF]
  show Except.bind (Except.bind ((Reader.u1 : Decoder Nat) cc k) (fun q => F q.1 cc q.2)) (fun q => .ok (q.1, q.2 - k)) = _
  rw [h0]
  show Except.bind (F 109 cc (k + 1)) (fun q => .ok (q.1, q.2 - k)) = _
  rw [h2]
  show Except.ok ((.ldiv : Instr), k + 1 - k) = _
  rw [Nat.add_sub_cancel_left]
theorem sy_fd117 (pc : Nat) : ∃ F : Nat → Decoder Instr, Decoder.instr pc = (Reader.u1 >>= F) ∧ F 117 = Pure.pure (.lneg) := ⟨_, rfl, rfl⟩
theorem sy_d117 {cc : ByteArray} {k : Nat} (h0 : (Reader.u1 : Decoder Nat) cc k = .ok (117, k + 1)) : decode cc k = .ok (.lneg, 1) := by
  obtain ⟨F, hF, h2⟩ := sy_fd117 k
  unfold decode Reader.runAt
  rw [hF]
  show Except.bind (Except.bind ((Reader.u1 : Decoder Nat) cc k) (fun q => F q.1 cc q.2)) (fun q => .ok (q.1, q.2 - k)) = _
  rw [h0]
  show Except.bind (F 117 cc (k + 1)) (fun q => .ok (q.1, q.2 - k)) = _
  rw [h2]
  show Except.ok ((.lneg : Instr), k + 1 - k) = _
  rw [Nat.add_sub_cancel_left]
theorem sy_fd26 (pc : Nat) : ∃ F : Nat → Decoder Instr, Decoder.instr pc = (Reader.u1 >>= F) ∧ F 26 = Pure.pure (.iload_n 0) := ⟨_, rfl, rfl⟩
theorem sy_d26 {cc : ByteArray} {k : Nat} (h0 : (Reader.u1 : Decoder Nat) cc k = .ok (26, k + 1)) : decode cc k = .ok (.iload_n 0, 1) := by
  obtain ⟨F, hF, h2⟩ := sy_fd26 k
  unfold decode Reader.runAt
  rw [hF]
  show Except.bind (Except.bind ((Reader.u1 : Decoder Nat) cc k) (fun q => F q.1 cc q.2)) (fun q => .ok (q.1, q.2 - k)) = _
  rw [h0]
  show Except.bind (F 26 cc (k + 1)) (fun q => .ok (q.1, q.2 - k)) = _
  rw [h2]
  show Except.ok ((.iload_n 0 : Instr), k + 1 - k) = _
  rw [Nat.add_sub_cancel_left]
theorem sy_fd27 (pc : Nat) : ∃ F : Nat → Decoder Instr, Decoder.instr pc = (Reader.u1 >>= F) ∧ F 27 = Pure.pure (.iload_n 1) := ⟨_, rfl, rfl⟩
theorem sy_d27 {cc : ByteArray} {k : Nat} (h0 : (Reader.u1 : Decoder Nat) cc k = .ok (27, k + 1)) : decode cc k = .ok (.iload_n 1, 1) := by
  obtain ⟨F, hF, h2⟩ := sy_fd27 k
  unfold decode Reader.runAt
  rw [hF]
  show Except.bind (Except.bind ((Reader.u1 : Decoder Nat) cc k) (fun q => F q.1 cc q.2)) (fun q => .ok (q.1, q.2 - k)) = _
  rw [h0]
  show Except.bind (F 27 cc (k + 1)) (fun q => .ok (q.1, q.2 - k)) = _
  rw [h2]
  show Except.ok ((.iload_n 1 : Instr), k + 1 - k) = _
  rw [Nat.add_sub_cancel_left]
theorem sy_fd28 (pc : Nat) : ∃ F : Nat → Decoder Instr, Decoder.instr pc = (Reader.u1 >>= F) ∧ F 28 = Pure.pure (.iload_n 2) := ⟨_, rfl, rfl⟩
theorem sy_d28 {cc : ByteArray} {k : Nat} (h0 : (Reader.u1 : Decoder Nat) cc k = .ok (28, k + 1)) : decode cc k = .ok (.iload_n 2, 1) := by
  obtain ⟨F, hF, h2⟩ := sy_fd28 k
  unfold decode Reader.runAt
  rw [hF]
  show Except.bind (Except.bind ((Reader.u1 : Decoder Nat) cc k) (fun q => F q.1 cc q.2)) (fun q => .ok (q.1, q.2 - k)) = _
  rw [h0]
  show Except.bind (F 28 cc (k + 1)) (fun q => .ok (q.1, q.2 - k)) = _
  rw [h2]
  show Except.ok ((.iload_n 2 : Instr), k + 1 - k) = _
  rw [Nat.add_sub_cancel_left]
theorem sy_fd29 (pc : Nat) : ∃ F : Nat → Decoder Instr, Decoder.instr pc = (Reader.u1 >>= F) ∧ F 29 = Pure.pure (.iload_n 3) := ⟨_, rfl, rfl⟩
theorem sy_d29 {cc : ByteArray} {k : Nat} (h0 : (Reader.u1 : Decoder Nat) cc k = .ok (29, k + 1)) : decode cc k = .ok (.iload_n 3, 1) := by
  obtain ⟨F, hF, h2⟩ := sy_fd29 k
  unfold decode Reader.runAt
  rw [hF]
  show Except.bind (Except.bind ((Reader.u1 : Decoder Nat) cc k) (fun q => F q.1 cc q.2)) (fun q => .ok (q.1, q.2 - k)) = _
  rw [h0]
  show Except.bind (F 29 cc (k + 1)) (fun q => .ok (q.1, q.2 - k)) = _
  rw [h2]
  show Except.ok ((.iload_n 3 : Instr), k + 1 - k) = _
  rw [Nat.add_sub_cancel_left]
theorem sy_fd42 (pc : Nat) : ∃ F : Nat → Decoder Instr, Decoder.instr pc = (Reader.u1 >>= F) ∧ F 42 = Pure.pure (.aload_n 0) := ⟨_, rfl, rfl⟩
theorem sy_d42 {cc : ByteArray} {k : Nat} (h0 : (Reader.u1 : Decoder Nat) cc k = .ok (42, k + 1)) : decode cc k = .ok (.aload_n 0, 1) := by
  obtain ⟨F, hF, h2⟩ := sy_fd42 k
  unfold decode Reader.runAt
  rw [hF]
  show Except.bind (Except.bind ((Reader.u1 : Decoder Nat) cc k) (fun q => F q.1 cc q.2)) (fun q => .ok (q.1, q.2 - k)) = _
  rw [h0]
  show Except.bind (F 42 cc (k + 1)) (fun q => .ok (q.1, q.2 - k)) = _
  rw [h2]
  show Except.ok ((.aload_n 0 : Instr), k + 1 - k) = _
  rw [Nat.add_sub_cancel_left]
theorem sy_fd43 (pc : Nat) : ∃ F : Nat → Decoder Instr, Decoder.instr pc = (Reader.u1 >>= F) ∧ F 43 = Pure.pure (.aload_n 1) := ⟨_, rfl, rfl⟩
theorem sy_d43 {cc : ByteArray} {k : Nat} (h0 : (Reader.u1 : Decoder Nat) cc k = .ok (43, k + 1)) : decode cc k = .ok (.aload_n 1, 1) := by
  obtain ⟨F, hF, h2⟩ := sy_fd43 k
  unfold decode Reader.runAt
  rw [hF]
  show Except.bind (Except.bind ((Reader.u1 : Decoder Nat) cc k) (fun q => F q.1 cc q.2)) (fun q => .ok (q.1, q.2 - k)) = _
  rw [h0]
  show Except.bind (F 43 cc (k + 1)) (fun q => .ok (q.1, q.2 - k)) = _
  rw [h2]
  show Except.ok ((.aload_n 1 : Instr), k + 1 - k) = _
  rw [Nat.add_sub_cancel_left]
theorem sy_fd44 (pc : Nat) : ∃ F : Nat → Decoder Instr, Decoder.instr pc = (Reader.u1 >>= F) ∧ F 44 = Pure.pure (.aload_n 2) := ⟨_, rfl, rfl⟩
theorem sy_d44 {cc : ByteArray} {k : Nat} (h0 : (Reader.u1 : Decoder Nat) cc k = .ok (44, k + 1)) : decode cc k = .ok (.aload_n 2, 1) := by
  obtain ⟨F, hF, h2⟩ := sy_fd44 k
  unfold decode Reader.runAt
  rw [hF]
  show Except.bind (Except.bind ((Reader.u1 : Decoder Nat) cc k) (fun q => F q.1 cc q.2)) (fun q => .ok (q.1, q.2 - k)) = _
  rw [h0]
  show Except.bind (F 44 cc (k + 1)) (fun q => .ok (q.1, q.2 - k)) = _
  rw [h2]
  show Except.ok ((.aload_n 2 : Instr), k + 1 - k) = _
  rw [Nat.add_sub_cancel_left]
theorem sy_fd45 (pc : Nat) : ∃ F : Nat → Decoder Instr, Decoder.instr pc = (Reader.u1 >>= F) ∧ F 45 = Pure.pure (.aload_n 3) := ⟨_, rfl, rfl⟩
theorem sy_d45 {cc : ByteArray} {k : Nat} (h0 : (Reader.u1 : Decoder Nat) cc k = .ok (45, k + 1)) : decode cc k = .ok (.aload_n 3, 1) := by
  obtain ⟨F, hF, h2⟩ := sy_fd45 k
  unfold decode Reader.runAt
  rw [hF]
  show Except.bind (Except.bind ((Reader.u1 : Decoder Nat) cc k) (fun q => F q.1 cc q.2)) (fun q => .ok (q.1, q.2 - k)) = _
  rw [h0]
  show Except.bind (F 45 cc (k + 1)) (fun q => .ok (q.1, q.2 - k)) = _
  rw [h2]
  show Except.ok ((.aload_n 3 : Instr), k + 1 - k) = _
  rw [Nat.add_sub_cancel_left]
theorem sy_fd59 (pc : Nat) : ∃ F : Nat → Decoder Instr, Decoder.instr pc = (Reader.u1 >>= F) ∧ F 59 = Pure.pure (.istore_n 0) := ⟨_, rfl, rfl⟩
theorem sy_d59 {cc : ByteArray} {k : Nat} (h0 : (Reader.u1 : Decoder Nat) cc k = .ok (59, k + 1)) : decode cc k = .ok (.istore_n 0, 1) := by
  obtain ⟨F, hF, h2⟩ := sy_fd59 k
  unfold decode Reader.runAt
  rw [hF]
  show Except.bind (Except.bind ((Reader.u1 : Decoder Nat) cc k) (fun q => F q.1 cc q.2)) (fun q => .ok (q.1, q.2 - k)) = _
  rw [h0]
  show Except.bind (F 59 cc (k + 1)) (fun q => .ok (q.1, q.2 - k)) = _
  rw [h2]
  show Except.ok ((.istore_n 0 : Instr), k + 1 - k) = _
  rw [Nat.add_sub_cancel_left]
theorem sy_fd60 (pc : Nat) : ∃ F : Nat → Decoder Instr, Decoder.instr pc = (Reader.u1 >>= F) ∧ F 60 = Pure.pure (.istore_n 1) := ⟨_, rfl, rfl⟩
theorem sy_d60 {cc : ByteArray} {k : Nat} (h0 : (Reader.u1 : Decoder Nat) cc k = .ok (60, k + 1)) : decode cc k = .ok (.istore_n 1, 1) := by
  obtain ⟨F, hF, h2⟩ := sy_fd60 k
  unfold decode Reader.runAt
  rw [hF]
  show Except.bind (Except.bind ((Reader.u1 : Decoder Nat) cc k) (fun q => F q.1 cc q.2)) (fun q => .ok (q.1, q.2 - k)) = _
  rw [h0]
  show Except.bind (F 60 cc (k + 1)) (fun q => .ok (q.1, q.2 - k)) = _
  rw [h2]
  show Except.ok ((.istore_n 1 : Instr), k + 1 - k) = _
  rw [Nat.add_sub_cancel_left]
theorem sy_fd61 (pc : Nat) : ∃ F : Nat → Decoder Instr, Decoder.instr pc = (Reader.u1 >>= F) ∧ F 61 = Pure.pure (.istore_n 2) := ⟨_, rfl, rfl⟩
theorem sy_d61 {cc : ByteArray} {k : Nat} (h0 : (Reader.u1 : Decoder Nat) cc k = .ok (61, k + 1)) : decode cc k = .ok (.istore_n 2, 1) := by
  obtain ⟨F, hF, h2⟩ := sy_fd61 k
  unfold decode Reader.runAt
  rw [hF]
  show Except.bind (Except.bind ((Reader.u1 : Decoder Nat) cc k) (fun q => F q.1 cc q.2)) (fun q => .ok (q.1, q.2 - k)) = _
  rw [h0]
  show Except.bind (F 61 cc (k + 1)) (fun q => .ok (q.1, q.2 - k)) = _
  rw [h2]
  show Except.ok ((.istore_n 2 : Instr), k + 1 - k) = _
  rw [Nat.add_sub_cancel_left]
theorem sy_fd62 (pc : Nat) : ∃ F : Nat → Decoder Instr, Decoder.instr pc = (Reader.u1 >>= F) ∧ F 62 = Pure.pure (.istore_n 3) := ⟨_, rfl, rfl⟩
theorem sy_d62 {cc : ByteArray} {k : Nat} (h0 : (Reader.u1 : Decoder Nat) cc k = .ok (62, k + 1)) : decode cc k = .ok (.istore_n 3, 1) := by
  obtain ⟨F, hF, h2⟩ := sy_fd62 k
  unfold decode Reader.runAt
  rw [hF]
  show Except.bind (Except.bind ((Reader.u1 : Decoder Nat) cc k) (fun q => F q.1 cc q.2)) (fun q => .ok (q.1, q.2 - k)) = _
  rw [h0]
  show Except.bind (F 62 cc (k + 1)) (fun q => .ok (q.1, q.2 - k)) = _
  rw [h2]
  show Except.ok ((.istore_n 3 : Instr), k + 1 - k) = _
  rw [Nat.add_sub_cancel_left]
theorem sy_fd75 (pc : Nat) : ∃ F : Nat → Decoder Instr, Decoder.instr pc = (Reader.u1 >>= F) ∧ F 75 = Pure.pure (.astore_n 0) := ⟨_, rfl, rfl⟩
theorem sy_d75 {cc : ByteArray} {k : Nat} (h0 : (Reader.u1 : Decoder Nat) cc k = .ok (75, k + 1)) : decode cc k = .ok (.astore_n 0, 1) := by
  obtain ⟨F, hF, h2⟩ := sy_fd75 k
  unfold decode Reader.runAt
  rw [hF]
  show Except.bind (Except.bind ((Reader.u1 : Decoder Nat) cc k) (fun q => F q.1 cc q.2)) (fun q => .ok (q.1, q.2 - k)) = _
  rw [h0]
  show Except.bind (F 75 cc (k + 1)) (fun q => .ok (q.1, q.2 - k)) = _
  rw [h2]
  show Except.ok ((.astore_n 0 : Instr), k + 1 - k) = _
  rw [Nat.add_sub_cancel_left]
theorem sy_fd76 (pc : Nat) : ∃ F : Nat → Decoder Instr, Decoder.instr pc = (Reader.u1 >>= F) ∧ F 76 = Pure.pure (.astore_n 1) := ⟨_, rfl, rfl⟩
theorem sy_d76 {cc : ByteArray} {k : Nat} (h0 : (Reader.u1 : Decoder Nat) cc k = .ok (76, k + 1)) : decode cc k = .ok (.astore_n 1, 1) := by
  obtain ⟨F, hF, h2⟩ := sy_fd76 k
  unfold decode Reader.runAt
  rw [hF]
  show Except.bind (Except.bind ((Reader.u1 : Decoder Nat) cc k) (fun q => F q.1 cc q.2)) (fun q => .ok (q.1, q.2 - k)) = _
  rw [h0]
  show Except.bind (F 76 cc (k + 1)) (fun q => .ok (q.1, q.2 - k)) = _
  rw [h2]
  show Except.ok ((.astore_n 1 : Instr), k + 1 - k) = _
  rw [Nat.add_sub_cancel_left]
theorem sy_fd77 (pc : Nat) : ∃ F : Nat → Decoder Instr, Decoder.instr pc = (Reader.u1 >>= F) ∧ F 77 = Pure.pure (.astore_n 2) := ⟨_, rfl, rfl⟩
theorem sy_d77 {cc : ByteArray} {k : Nat} (h0 : (Reader.u1 : Decoder Nat) cc k = .ok (77, k + 1)) : decode cc k = .ok (.astore_n 2, 1) := by
  obtain ⟨F, hF, h2⟩ := sy_fd77 k
  unfold decode Reader.runAt
  rw [hF]
  show Except.bind (Except.bind ((Reader.u1 : Decoder Nat) cc k) (fun q => F q.1 cc q.2)) (fun q => .ok (q.1, q.2 - k)) = _
  rw [h0]
  show Except.bind (F 77 cc (k + 1)) (fun q => .ok (q.1, q.2 - k)) = _
  rw [h2]
  show Except.ok ((.astore_n 2 : Instr), k + 1 - k) = _
  rw [Nat.add_sub_cancel_left]
theorem sy_fd78 (pc : Nat) : ∃ F : Nat → Decoder Instr, Decoder.instr pc = (Reader.u1 >>= F) ∧ F 78 = Pure.pure (.astore_n 3) := ⟨_, rfl, rfl⟩
theorem sy_d78 {cc : ByteArray} {k : Nat} (h0 : (Reader.u1 : Decoder Nat) cc k = .ok (78, k + 1)) : decode cc k = .ok (.astore_n 3, 1) := by
  obtain ⟨F, hF, h2⟩ := sy_fd78 k
  unfold decode Reader.runAt
  rw [hF]
  show Except.bind (Except.bind ((Reader.u1 : Decoder Nat) cc k) (fun q => F q.1 cc q.2)) (fun q => .ok (q.1, q.2 - k)) = _
  rw [h0]
  show Except.bind (F 78 cc (k + 1)) (fun q => .ok (q.1, q.2 - k)) = _
  rw [h2]
  show Except.ok ((.astore_n 3 : Instr), k + 1 - k) = _
  rw [Nat.add_sub_cancel_left]
theorem sy_fd30 (pc : Nat) : ∃ F : Nat → Decoder Instr, Decoder.instr pc = (Reader.u1 >>= F) ∧ F 30 = Pure.pure (.lload_n 0) := ⟨_, rfl, rfl⟩
theorem sy_d30 {cc : ByteArray} {k : Nat} (h0 : (Reader.u1 : Decoder Nat) cc k = .ok (30, k + 1)) : decode cc k = .ok (.lload_n 0, 1) := by
  obtain ⟨F, hF, h2⟩ := sy_fd30 k
  unfold decode Reader.runAt
  rw [hF]
  show Except.bind (Except.bind ((Reader.u1 : Decoder Nat) cc k) (fun q => F q.1 cc q.2)) (fun q => .ok (q.1, q.2 - k)) = _
  rw [h0]
  show Except.bind (F 30 cc (k + 1)) (fun q => .ok (q.1, q.2 - k)) = _
  rw [h2]
  show Except.ok ((.lload_n 0 : Instr), k + 1 - k) = _
  rw [Nat.add_sub_cancel_left]
theorem sy_fd31 (pc : Nat) : ∃ F : Nat → Decoder Instr, Decoder.instr pc = (Reader.u1 >>= F) ∧ F 31 = Pure.pure (.lload_n 1) := ⟨_, rfl, rfl⟩
theorem sy_d31 {cc : ByteArray} {k : Nat} (h0 : (Reader.u1 : Decoder Nat) cc k = .ok (31, k + 1)) : decode cc k = .ok (.lload_n 1, 1) := by
  obtain ⟨F, hF, h2⟩ := sy_fd31 k
  unfold decode Reader.runAt
  rw [hF]
  show Except.bind (Except.bind ((Reader.u1 : Decoder Nat) cc k) (fun q => F q.1 cc q.2)) (fun q => .ok (q.1, q.2 - k)) = _
  rw [h0]
  show Except.bind (F 31 cc (k + 1)) (fun q => .ok (q.1, q.2 - k)) = _
  rw [h2]
  show Except.ok ((.lload_n 1 : Instr), k + 1 - k) = _
  rw [Nat.add_sub_cancel_left]
theorem sy_fd32 (pc : Nat) : ∃ F : Nat → Decoder Instr, Decoder.instr pc = (Reader.u1 >>= F) ∧ F 32 = Pure.pure (.lload_n 2) := ⟨_, rfl, rfl⟩
theorem sy_d32 {cc : ByteArray} {k : Nat} (h0 : (Reader.u1 : Decoder Nat) cc k = .ok (32, k + 1)) : decode cc k = .ok (.lload_n 2, 1) := by
  obtain ⟨F, hF, h2⟩ := sy_fd32 k
  unfold decode Reader.runAt
  rw [hF]
  show Except.bind (Except.bind ((Reader.u1 : Decoder Nat) cc k) (fun q => F q.1 cc q.2)) (fun q => .ok (q.1, q.2 - k)) = _
  rw [h0]
  show Except.bind (F 32 cc (k + 1)) (fun q => .ok (q.1, q.2 - k)) = _
  rw [h2]
  show Except.ok ((.lload_n 2 : Instr), k + 1 - k) = _
  rw [Nat.add_sub_cancel_left]
theorem sy_fd33 (pc : Nat) : ∃ F : Nat → Decoder Instr, Decoder.instr pc = (Reader.u1 >>= F) ∧ F 33 = Pure.pure (.lload_n 3) := ⟨_, rfl, rfl⟩
theorem sy_d33 {cc : ByteArray} {k : Nat} (h0 : (Reader.u1 : Decoder Nat) cc k = .ok (33, k + 1)) : decode cc k = .ok (.lload_n 3, 1) := by
  obtain ⟨F, hF, h2⟩ := sy_fd33 k
  unfold decode Reader.runAt
  rw [hF]
  show Except.bind (Except.bind ((Reader.u1 : Decoder Nat) cc k) (fun q => F q.1 cc q.2)) (fun q => .ok (q.1, q.2 - k)) = _
  rw [h0]
  show Except.bind (F 33 cc (k + 1)) (fun q => .ok (q.1, q.2 - k)) = _
  rw [h2]
  show Except.ok ((.lload_n 3 : Instr), k + 1 - k) = _
  rw [Nat.add_sub_cancel_left]
theorem sy_fd63 (pc : Nat) : ∃ F : Nat → Decoder Instr, Decoder.instr pc = (Reader.u1 >>= F) ∧ F 63 = Pure.pure (.lstore_n 0) := ⟨_, rfl, rfl⟩
theorem sy_d63 {cc : ByteArray} {k : Nat} (h0 : (Reader.u1 : Decoder Nat) cc k = .ok (63, k + 1)) : decode cc k = .ok (.lstore_n 0, 1) := by
  obtain ⟨F, hF, h2⟩ := sy_fd63 k
  unfold decode Reader.runAt
  rw [hF]
  show Except.bind (Except.bind ((Reader.u1 : Decoder Nat) cc k) (fun q => F q.1 cc q.2)) (fun q => .ok (q.1, q.2 - k)) = _
  rw [h0]
  show Except.bind (F 63 cc (k + 1)) (fun q => .ok (q.1, q.2 - k)) = _
  rw [h2]
  show Except.ok ((.lstore_n 0 : Instr), k + 1 - k) = _
  rw [Nat.add_sub_cancel_left]
theorem sy_fd64 (pc : Nat) : ∃ F : Nat → Decoder Instr, Decoder.instr pc = (Reader.u1 >>= F) ∧ F 64 = Pure.pure (.lstore_n 1) := ⟨_, rfl, rfl⟩
theorem sy_d64 {cc : ByteArray} {k : Nat} (h0 : (Reader.u1 : Decoder Nat) cc k = .ok (64, k + 1)) : decode cc k = .ok (.lstore_n 1, 1) := by
  obtain ⟨F, hF, h2⟩ := sy_fd64 k
  unfold decode Reader.runAt
  rw [hF]
  show Except.bind (Except.bind ((Reader.u1 : Decoder Nat) cc k) (fun q => F q.1 cc q.2)) (fun q => .ok (q.1, q.2 - k)) = _
  rw [h0]
  show Except.bind (F 64 cc (k + 1)) (fun q => .ok (q.1, q.2 - k)) = _
  rw [h2]
  show Except.ok ((.lstore_n 1 : Instr), k + 1 - k) = _
  rw [Nat.add_sub_cancel_left]
theorem sy_fd65 (pc : Nat) : ∃ F : Nat → Decoder Instr, Decoder.instr pc = (Reader.u1 >>= F) ∧ F 65 = Pure.pure (.lstore_n 2) := ⟨_, rfl, rfl⟩
theorem sy_d65 {cc : ByteArray} {k : Nat} (h0 : (Reader.u1 : Decoder Nat) cc k = .ok (65, k + 1)) : decode cc k = .ok (.lstore_n 2, 1) := by
  obtain ⟨F, hF, h2⟩ := sy_fd65 k
  unfold decode Reader.runAt
  rw [hF]
  show Except.bind (Except.bind ((Reader.u1 : Decoder Nat) cc k) (fun q => F q.1 cc q.2)) (fun q => .ok (q.1, q.2 - k)) = _
  rw [h0]
  show Except.bind (F 65 cc (k + 1)) (fun q => .ok (q.1, q.2 - k)) = _
  rw [h2]
  show Except.ok ((.lstore_n 2 : Instr), k + 1 - k) = _
  rw [Nat.add_sub_cancel_left]
theorem sy_fd66 (pc : Nat) : ∃ F : Nat → Decoder Instr, Decoder.instr pc = (Reader.u1 >>= F) ∧ F 66 = Pure.pure (.lstore_n 3) := ⟨_, rfl, rfl⟩
theorem sy_d66 {cc : ByteArray} {k : Nat} (h0 : (Reader.u1 : Decoder Nat) cc k = .ok (66, k + 1)) : decode cc k = .ok (.lstore_n 3, 1) := by
  obtain ⟨F, hF, h2⟩ := sy_fd66 k
  unfold decode Reader.runAt
  rw [hF]
  show Except.bind (Except.bind ((Reader.u1 : Decoder Nat) cc k) (fun q => F q.1 cc q.2)) (fun q => .ok (q.1, q.2 - k)) = _
  rw [h0]
  show Except.bind (F 66 cc (k + 1)) (fun q => .ok (q.1, q.2 - k)) = _
  rw [h2]
  show Except.ok ((.lstore_n 3 : Instr), k + 1 - k) = _
  rw [Nat.add_sub_cancel_left]
theorem sy_fd9 (pc : Nat) : ∃ F : Nat → Decoder Instr, Decoder.instr pc = (Reader.u1 >>= F) ∧ F 9 = Pure.pure (.lconst 0) := ⟨_, rfl, rfl⟩
theorem sy_d9 {cc : ByteArray} {k : Nat} (h0 : (Reader.u1 : Decoder Nat) cc k = .ok (9, k + 1)) : decode cc k = .ok (.lconst 0, 1) := by
  obtain ⟨F, hF, h2⟩ := sy_fd9 k
  unfold decode Reader.runAt
  rw [hF]
  show Except.bind (Except.bind ((Reader.u1 : Decoder Nat) cc k) (fun q => F q.1 cc q.2)) (fun q => .ok (q.1, q.2 - k)) = _
  rw [h0]
  show Except.bind (F 9 cc (k + 1)) (fun q => .ok (q.1, q.2 - k)) = _
  rw [h2]
  show Except.ok ((.lconst 0 : Instr), k + 1 - k) = _
  rw [Nat.add_sub_cancel_left]
theorem sy_fd10 (pc : Nat) : ∃ F : Nat → Decoder Instr, Decoder.instr pc = (Reader.u1 >>= F) ∧ F 10 = Pure.pure (.lconst 1) := ⟨_, rfl, rfl⟩
theorem sy_d10 {cc : ByteArray} {k : Nat} (h0 : (Reader.u1 : Decoder Nat) cc k = .ok (10, k + 1)) : decode cc k = .ok (.lconst 1, 1) := by
  obtain ⟨F, hF, h2⟩ := sy_fd10 k
  unfold decode Reader.runAt
  rw [hF]
  show Except.bind (Except.bind ((Reader.u1 : Decoder Nat) cc k) (fun q => F q.1 cc q.2)) (fun q => .ok (q.1, q.2 - k)) = _
  rw [h0]
  show Except.bind (F 10 cc (k + 1)) (fun q => .ok (q.1, q.2 - k)) = _
  rw [h2]
  show Except.ok ((.lconst 1 : Instr), k + 1 - k) = _
  rw [Nat.add_sub_cancel_left]
theorem sy_fd2 (pc : Nat) : ∃ F : Nat → Decoder Instr, Decoder.instr pc = (Reader.u1 >>= F) ∧ F 2 = Pure.pure (.iconst (-1)) := ⟨_, rfl, rfl⟩
theorem sy_d2 {cc : ByteArray} {k : Nat} (h0 : (Reader.u1 : Decoder Nat) cc k = .ok (2, k + 1)) : decode cc k = .ok (.iconst (-1), 1) := by
  obtain ⟨F, hF, h2⟩ := sy_fd2 k
  unfold decode Reader.runAt
  rw [hF]
  show Except.bind (Except.bind ((Reader.u1 : Decoder Nat) cc k) (fun q => F q.1 cc q.2)) (fun q => .ok (q.1, q.2 - k)) = _
  rw [h0]
  show Except.bind (F 2 cc (k + 1)) (fun q => .ok (q.1, q.2 - k)) = _
  rw [h2]
  show Except.ok ((.iconst (-1) : Instr), k + 1 - k) = _
  rw [Nat.add_sub_cancel_left]
theorem sy_fd3 (pc : Nat) : ∃ F : Nat → Decoder Instr, Decoder.instr pc = (Reader.u1 >>= F) ∧ F 3 = Pure.pure (.iconst (0)) := ⟨_, rfl, rfl⟩
theorem sy_d3 {cc : ByteArray} {k : Nat} (h0 : (Reader.u1 : Decoder Nat) cc k = .ok (3, k + 1)) : decode cc k = .ok (.iconst (0), 1) := by
  obtain ⟨F, hF, h2⟩ := sy_fd3 k
  unfold decode Reader.runAt
  rw [hF]
  show Except.bind (Except.bind ((Reader.u1 : Decoder Nat) cc k) (fun q => F q.1 cc q.2)) (fun q => .ok (q.1, q.2 - k)) = _
  rw [h0]
  show Except.bind (F 3 cc (k + 1)) (fun q => .ok (q.1, q.2 - k)) = _
  rw [h2]
  show Except.ok ((.iconst (0) : Instr), k + 1 - k) = _
  rw [Nat.add_sub_cancel_left]
theorem sy_fd4 (pc : Nat) : ∃ F : Nat → Decoder Instr, Decoder.instr pc = (Reader.u1 >>= F) ∧ F 4 = Pure.pure (.iconst (1)) := ⟨_, rfl, rfl⟩
theorem sy_d4 {cc : ByteArray} {k : Nat} (h0 : (Reader.u1 : Decoder Nat) cc k = .ok (4, k + 1)) : decode cc k = .ok (.iconst (1), 1) := by
  obtain ⟨F, hF, h2⟩ := sy_fd4 k
  unfold decode Reader.runAt
  rw [hF]
  show Except.bind (Except.bind ((Reader.u1 : Decoder Nat) cc k) (fun q => F q.1 cc q.2)) (fun q => .ok (q.1, q.2 - k)) = _
  rw [h0]
  show Except.bind (F 4 cc (k + 1)) (fun q => .ok (q.1, q.2 - k)) = _
  rw [h2]
  show Except.ok ((.iconst (1) : Instr), k + 1 - k) = _
  rw [Nat.add_sub_cancel_left]
theorem sy_fd5 (pc : Nat) : ∃ F : Nat → Decoder Instr, Decoder.instr pc = (Reader.u1 >>= F) ∧ F 5 = Pure.pure (.iconst (2)) := ⟨_, rfl, rfl⟩
theorem sy_d5 {cc : ByteArray} {k : Nat} (h0 : (Reader.u1 : Decoder Nat) cc k = .ok (5, k + 1)) : decode cc k = .ok (.iconst (2), 1) := by
  obtain ⟨F, hF, h2⟩ := sy_fd5 k
  unfold decode Reader.runAt
  rw [hF]
  show Except.bind (Except.bind ((Reader.u1 : Decoder Nat) cc k) (fun q => F q.1 cc q.2)) (fun q => .ok (q.1, q.2 - k)) = _
  rw [h0]
  show Except.bind (F 5 cc (k + 1)) (fun q => .ok (q.1, q.2 - k)) = _
  rw [h2]
  show Except.ok ((.iconst (2) : Instr), k + 1 - k) = _
  rw [Nat.add_sub_cancel_left]
theorem sy_fd6 (pc : Nat) : ∃ F : Nat → Decoder Instr, Decoder.instr pc = (Reader.u1 >>= F) ∧ F 6 = Pure.pure (.iconst (3)) := ⟨_, rfl, rfl⟩
theorem sy_d6 {cc : ByteArray} {k : Nat} (h0 : (Reader.u1 : Decoder Nat) cc k = .ok (6, k + 1)) : decode cc k = .ok (.iconst (3), 1) := by
  obtain ⟨F, hF, h2⟩ := sy_fd6 k
  unfold decode Reader.runAt
  rw [hF]
  show Except.bind (Except.bind ((Reader.u1 : Decoder Nat) cc k) (fun q => F q.1 cc q.2)) (fun q => .ok (q.1, q.2 - k)) = _
  rw [h0]
  show Except.bind (F 6 cc (k + 1)) (fun q => .ok (q.1, q.2 - k)) = _
  rw [h2]
  show Except.ok ((.iconst (3) : Instr), k + 1 - k) = _
  rw [Nat.add_sub_cancel_left]
theorem sy_fd7 (pc : Nat) : ∃ F : Nat → Decoder Instr, Decoder.instr pc = (Reader.u1 >>= F) ∧ F 7 = Pure.pure (.iconst (4)) := ⟨_, rfl, rfl⟩
theorem sy_d7 {cc : ByteArray} {k : Nat} (h0 : (Reader.u1 : Decoder Nat) cc k = .ok (7, k + 1)) : decode cc k = .ok (.iconst (4), 1) := by
  obtain ⟨F, hF, h2⟩ := sy_fd7 k
  unfold decode Reader.runAt
  rw [hF]
  show Except.bind (Except.bind ((Reader.u1 : Decoder Nat) cc k) (fun q => F q.1 cc q.2)) (fun q => .ok (q.1, q.2 - k)) = _
  rw [h0]
  show Except.bind (F 7 cc (k + 1)) (fun q => .ok (q.1, q.2 - k)) = _
  rw [h2]
  show Except.ok ((.iconst (4) : Instr), k + 1 - k) = _
  rw [Nat.add_sub_cancel_left]
theorem sy_fd8 (pc : Nat) : ∃ F : Nat → Decoder Instr, Decoder.instr pc = (Reader.u1 >>= F) ∧ F 8 = Pure.pure (.iconst (5)) := ⟨_, rfl, rfl⟩
theorem sy_d8 {cc : ByteArray} {k : Nat} (h0 : (Reader.u1 : Decoder Nat) cc k = .ok (8, k + 1)) : decode cc k = .ok (.iconst (5), 1) := by
  obtain ⟨F, hF, h2⟩ := sy_fd8 k
  unfold decode Reader.runAt
  rw [hF]
  show Except.bind (Except.bind ((Reader.u1 : Decoder Nat) cc k) (fun q => F q.1 cc q.2)) (fun q => .ok (q.1, q.2 - k)) = _
  rw [h0]
  show Except.bind (F 8 cc (k + 1)) (fun q => .ok (q.1, q.2 - k)) = _
  rw [h2]
  show Except.ok ((.iconst (5) : Instr), k + 1 - k) = _
  rw [Nat.add_sub_cancel_left]
theorem sy_s1 {cc : ByteArray} {k n p : Nat} (h1 : (Reader.u1 : Decoder Nat) cc k = .ok (n, p)) : (Reader.s1 : Decoder Int) cc k = .ok (Reader.signed 8 n, p) := by
  show Except.bind ((Reader.u1 : Decoder Nat) cc k) (fun q => .ok (Reader.signed 8 q.1, q.2)) = _
  rw [h1]
  rfl
theorem sy_fd132 (pc : Nat) : ∃ F : Nat → Decoder Instr, Decoder.instr pc = (Reader.u1 >>= F) ∧ F 132 = (Reader.u1 >>= fun a => Reader.s1 >>= fun n => Pure.pure (.iinc a n)) := ⟨_, rfl, rfl⟩
theorem sy_d132 {cc : ByteArray} {k a : Nat} {n : Int} (h0 : (Reader.u1 : Decoder Nat) cc k = .ok (132, k + 1)) (h1 : (Reader.u1 : Decoder Nat) cc (k + 1) = .ok (a, k + 2)) (h3 : (Reader.s1 : Decoder Int) cc (k + 2) = .ok (n, k + 3)) : decode cc k = .ok (.iinc a n, 3) := by
  obtain ⟨F, hF, h2⟩ := sy_fd132 k
  unfold decode Reader.runAt
  rw [hF]
  show Except.bind (Except.bind ((Reader.u1 : Decoder Nat) cc k) (fun q => F q.1 cc q.2)) (fun q => .ok (q.1, q.2 - k)) = _
  rw [h0]
  show Except.bind (F 132 cc (k + 1)) (fun q => .ok (q.1, q.2 - k)) = _
  rw [h2]
  show Except.bind (Except.bind ((Reader.u1 : Decoder Nat) cc (k + 1)) (fun q => Except.bind ((Reader.s1 : Decoder Int) cc q.2) (fun z => .ok (Instr.iinc q.1 z.1, z.2)))) (fun q => .ok (q.1, q.2 - k)) = _
  rw [h1]
  show Except.bind (Except.bind ((Reader.s1 : Decoder Int) cc (k + 2)) (fun z => .ok (Instr.iinc a z.1, z.2))) (fun q => .ok (q.1, q.2 - k)) = _
  rw [h3]
  show Except.ok (Instr.iinc a n, k + 3 - k) = _
  rw [Nat.add_sub_cancel_left]
theorem sy_fd19 (pc : Nat) : ∃ F : Nat → Decoder Instr, Decoder.instr pc = (Reader.u1 >>= F) ∧ F 19 = (Reader.u2 >>= fun n => Pure.pure (.ldc_w n)) := ⟨_, rfl, rfl⟩
theorem sy_d19 {cc : ByteArray} {k : Nat} {n : Nat} (h0 : (Reader.u1 : Decoder Nat) cc k = .ok (19, k + 1)) (h1 : (Reader.u2 : Decoder Nat) cc (k + 1) = .ok (n, k + 3)) : decode cc k = .ok (.ldc_w n, 3) := by
  obtain ⟨F, hF, h2⟩ := sy_fd19 k
  unfold decode Reader.runAt
  rw [hF]
  show Except.bind (Except.bind ((Reader.u1 : Decoder Nat) cc k) (fun q => F q.1 cc q.2)) (fun q => .ok (q.1, q.2 - k)) = _
  rw [h0]
  show Except.bind (F 19 cc (k + 1)) (fun q => .ok (q.1, q.2 - k)) = _
  rw [h2]
  show Except.bind (Except.bind ((Reader.u2 : Decoder Nat) cc (k + 1)) (fun q => .ok ((fun n => (.ldc_w n : Instr)) q.1, q.2))) (fun q => .ok (q.1, q.2 - k)) = _
  rw [h1]
  show Except.ok ((.ldc_w n : Instr), k + 3 - k) = _
  rw [Nat.add_sub_cancel_left]
theorem sy_fd20 (pc : Nat) : ∃ F : Nat → Decoder Instr, Decoder.instr pc = (Reader.u1 >>= F) ∧ F 20 = (Reader.u2 >>= fun n => Pure.pure (.ldc2_w n)) := ⟨_, rfl, rfl⟩
theorem sy_d20 {cc : ByteArray} {k : Nat} {n : Nat} (h0 : (Reader.u1 : Decoder Nat) cc k = .ok (20, k + 1)) (h1 : (Reader.u2 : Decoder Nat) cc (k + 1) = .ok (n, k + 3)) : decode cc k = .ok (.ldc2_w n, 3) := by
  obtain ⟨F, hF, h2⟩ := sy_fd20 k
  unfold decode Reader.runAt
  rw [hF]
  show Except.bind (Except.bind ((Reader.u1 : Decoder Nat) cc k) (fun q => F q.1 cc q.2)) (fun q => .ok (q.1, q.2 - k)) = _
  rw [h0]
  show Except.bind (F 20 cc (k + 1)) (fun q => .ok (q.1, q.2 - k)) = _
  rw [h2]
  show Except.bind (Except.bind ((Reader.u2 : Decoder Nat) cc (k + 1)) (fun q => .ok ((fun n => (.ldc2_w n : Instr)) q.1, q.2))) (fun q => .ok (q.1, q.2 - k)) = _
  rw [h1]
  show Except.ok ((.ldc2_w n : Instr), k + 3 - k) = _
  rw [Nat.add_sub_cancel_left]
theorem sy_fd178 (pc : Nat) : ∃ F : Nat → Decoder Instr, Decoder.instr pc = (Reader.u1 >>= F) ∧ F 178 = (Reader.u2 >>= fun n => Pure.pure (.getstatic n)) := ⟨_, rfl, rfl⟩
theorem sy_d178 {cc : ByteArray} {k : Nat} {n : Nat} (h0 : (Reader.u1 : Decoder Nat) cc k = .ok (178, k + 1)) (h1 : (Reader.u2 : Decoder Nat) cc (k + 1) = .ok (n, k + 3)) : decode cc k = .ok (.getstatic n, 3) := by
  obtain ⟨F, hF, h2⟩ := sy_fd178 k
  unfold decode Reader.runAt
  rw [hF]
  show Except.bind (Except.bind ((Reader.u1 : Decoder Nat) cc k) (fun q => F q.1 cc q.2)) (fun q => .ok (q.1, q.2 - k)) = _
  rw [h0]
  show Except.bind (F 178 cc (k + 1)) (fun q => .ok (q.1, q.2 - k)) = _
  rw [h2]
  show Except.bind (Except.bind ((Reader.u2 : Decoder Nat) cc (k + 1)) (fun q => .ok ((fun n => (.getstatic n : Instr)) q.1, q.2))) (fun q => .ok (q.1, q.2 - k)) = _
  rw [h1]
  show Except.ok ((.getstatic n : Instr), k + 3 - k) = _
  rw [Nat.add_sub_cancel_left]
theorem sy_fd180 (pc : Nat) : ∃ F : Nat → Decoder Instr, Decoder.instr pc = (Reader.u1 >>= F) ∧ F 180 = (Reader.u2 >>= fun n => Pure.pure (.getfield n)) := ⟨_, rfl, rfl⟩
theorem sy_d180 {cc : ByteArray} {k : Nat} {n : Nat} (h0 : (Reader.u1 : Decoder Nat) cc k = .ok (180, k + 1)) (h1 : (Reader.u2 : Decoder Nat) cc (k + 1) = .ok (n, k + 3)) : decode cc k = .ok (.getfield n, 3) := by
  obtain ⟨F, hF, h2⟩ := sy_fd180 k
  unfold decode Reader.runAt
  rw [hF]
  show Except.bind (Except.bind ((Reader.u1 : Decoder Nat) cc k) (fun q => F q.1 cc q.2)) (fun q => .ok (q.1, q.2 - k)) = _
  rw [h0]
  show Except.bind (F 180 cc (k + 1)) (fun q => .ok (q.1, q.2 - k)) = _
  rw [h2]
  show Except.bind (Except.bind ((Reader.u2 : Decoder Nat) cc (k + 1)) (fun q => .ok ((fun n => (.getfield n : Instr)) q.1, q.2))) (fun q => .ok (q.1, q.2 - k)) = _
  rw [h1]
  show Except.ok ((.getfield n : Instr), k + 3 - k) = _
  rw [Nat.add_sub_cancel_left]
theorem sy_fd181 (pc : Nat) : ∃ F : Nat → Decoder Instr, Decoder.instr pc = (Reader.u1 >>= F) ∧ F 181 = (Reader.u2 >>= fun n => Pure.pure (.putfield n)) := ⟨_, rfl, rfl⟩
theorem sy_d181 {cc : ByteArray} {k : Nat} {n : Nat} (h0 : (Reader.u1 : Decoder Nat) cc k = .ok (181, k + 1)) (h1 : (Reader.u2 : Decoder Nat) cc (k + 1) = .ok (n, k + 3)) : decode cc k = .ok (.putfield n, 3) := by
  obtain ⟨F, hF, h2⟩ := sy_fd181 k
  unfold decode Reader.runAt
  rw [hF]
  show Except.bind (Except.bind ((Reader.u1 : Decoder Nat) cc k) (fun q => F q.1 cc q.2)) (fun q => .ok (q.1, q.2 - k)) = _
  rw [h0]
  show Except.bind (F 181 cc (k + 1)) (fun q => .ok (q.1, q.2 - k)) = _
  rw [h2]
  show Except.bind (Except.bind ((Reader.u2 : Decoder Nat) cc (k + 1)) (fun q => .ok ((fun n => (.putfield n : Instr)) q.1, q.2))) (fun q => .ok (q.1, q.2 - k)) = _
  rw [h1]
  show Except.ok ((.putfield n : Instr), k + 3 - k) = _
  rw [Nat.add_sub_cancel_left]
theorem sy_fd182 (pc : Nat) : ∃ F : Nat → Decoder Instr, Decoder.instr pc = (Reader.u1 >>= F) ∧ F 182 = (Reader.u2 >>= fun n => Pure.pure (.invokevirtual n)) := ⟨_, rfl, rfl⟩
theorem sy_d182 {cc : ByteArray} {k : Nat} {n : Nat} (h0 : (Reader.u1 : Decoder Nat) cc k = .ok (182, k + 1)) (h1 : (Reader.u2 : Decoder Nat) cc (k + 1) = .ok (n, k + 3)) : decode cc k = .ok (.invokevirtual n, 3) := by
  obtain ⟨F, hF, h2⟩ := sy_fd182 k
  unfold decode Reader.runAt
  rw [hF]
  show Except.bind (Except.bind ((Reader.u1 : Decoder Nat) cc k) (fun q => F q.1 cc q.2)) (fun q => .ok (q.1, q.2 - k)) = _
  rw [h0]
  show Except.bind (F 182 cc (k + 1)) (fun q => .ok (q.1, q.2 - k)) = _
  rw [h2]
  show Except.bind (Except.bind ((Reader.u2 : Decoder Nat) cc (k + 1)) (fun q => .ok ((fun n => (.invokevirtual n : Instr)) q.1, q.2))) (fun q => .ok (q.1, q.2 - k)) = _
  rw [h1]
  show Except.ok ((.invokevirtual n : Instr), k + 3 - k) = _
  rw [Nat.add_sub_cancel_left]
theorem sy_fd183 (pc : Nat) : ∃ F : Nat → Decoder Instr, Decoder.instr pc = (Reader.u1 >>= F) ∧ F 183 = (Reader.u2 >>= fun n => Pure.pure (.invokespecial n)) := ⟨_, rfl, rfl⟩
theorem sy_d183 {cc : ByteArray} {k : Nat} {n : Nat} (h0 : (Reader.u1 : Decoder Nat) cc k = .ok (183, k + 1)) (h1 : (Reader.u2 : Decoder Nat) cc (k + 1) = .ok (n, k + 3)) : decode cc k = .ok (.invokespecial n, 3) := by
  obtain ⟨F, hF, h2⟩ := sy_fd183 k
  unfold decode Reader.runAt
  rw [hF]
  show Except.bind (Except.bind ((Reader.u1 : Decoder Nat) cc k) (fun q => F q.1 cc q.2)) (fun q => .ok (q.1, q.2 - k)) = _
  rw [h0]
  show Except.bind (F 183 cc (k + 1)) (fun q => .ok (q.1, q.2 - k)) = _
  rw [h2]
  show Except.bind (Except.bind ((Reader.u2 : Decoder Nat) cc (k + 1)) (fun q => .ok ((fun n => (.invokespecial n : Instr)) q.1, q.2))) (fun q => .ok (q.1, q.2 - k)) = _
  rw [h1]
  show Except.ok ((.invokespecial n : Instr), k + 3 - k) = _
  rw [Nat.add_sub_cancel_left]
theorem sy_fd184 (pc : Nat) : ∃ F : Nat → Decoder Instr, Decoder.instr pc = (Reader.u1 >>= F) ∧ F 184 = (Reader.u2 >>= fun n => Pure.pure (.invokestatic n)) := ⟨_, rfl, rfl⟩
theorem sy_d184 {cc : ByteArray} {k : Nat} {n : Nat} (h0 : (Reader.u1 : Decoder Nat) cc k = .ok (184, k + 1)) (h1 : (Reader.u2 : Decoder Nat) cc (k + 1) = .ok (n, k + 3)) : decode cc k = .ok (.invokestatic n, 3) := by
  obtain ⟨F, hF, h2⟩ := sy_fd184 k
  unfold decode Reader.runAt
  rw [hF]
  show Except.bind (Except.bind ((Reader.u1 : Decoder Nat) cc k) (fun q => F q.1 cc q.2)) (fun q => .ok (q.1, q.2 - k)) = _
  rw [h0]
  show Except.bind (F 184 cc (k + 1)) (fun q => .ok (q.1, q.2 - k)) = _
  rw [h2]
  show Except.bind (Except.bind ((Reader.u2 : Decoder Nat) cc (k + 1)) (fun q => .ok ((fun n => (.invokestatic n : Instr)) q.1, q.2))) (fun q => .ok (q.1, q.2 - k)) = _
  rw [h1]
  show Except.ok ((.invokestatic n : Instr), k + 3 - k) = _
  rw [Nat.add_sub_cancel_left]
theorem sy_fd187 (pc : Nat) : ∃ F : Nat → Decoder Instr, Decoder.instr pc = (Reader.u1 >>= F) ∧ F 187 = (Reader.u2 >>= fun n => Pure.pure (.new n)) := ⟨_, rfl, rfl⟩
theorem sy_d187 {cc : ByteArray} {k : Nat} {n : Nat} (h0 : (Reader.u1 : Decoder Nat) cc k = .ok (187, k + 1)) (h1 : (Reader.u2 : Decoder Nat) cc (k + 1) = .ok (n, k + 3)) : decode cc k = .ok (.new n, 3) := by
  obtain ⟨F, hF, h2⟩ := sy_fd187 k
  unfold decode Reader.runAt
  rw [hF]
  show Except.bind (Except.bind ((Reader.u1 : Decoder Nat) cc k) (fun q => F q.1 cc q.2)) (fun q => .ok (q.1, q.2 - k)) = _
  rw [h0]
  show Except.bind (F 187 cc (k + 1)) (fun q => .ok (q.1, q.2 - k)) = _
  rw [h2]
  show Except.bind (Except.bind ((Reader.u2 : Decoder Nat) cc (k + 1)) (fun q => .ok ((fun n => (.new n : Instr)) q.1, q.2))) (fun q => .ok (q.1, q.2 - k)) = _
  rw [h1]
  show Except.ok ((.new n : Instr), k + 3 - k) = _
  rw [Nat.add_sub_cancel_left]
theorem sy_fd189 (pc : Nat) : ∃ F : Nat → Decoder Instr, Decoder.instr pc = (Reader.u1 >>= F) ∧ F 189 = (Reader.u2 >>= fun n => Pure.pure (.anewarray n)) := ⟨_, rfl, rfl⟩
theorem sy_d189 {cc : ByteArray} {k : Nat} {n : Nat} (h0 : (Reader.u1 : Decoder Nat) cc k = .ok (189, k + 1)) (h1 : (Reader.u2 : Decoder Nat) cc (k + 1) = .ok (n, k + 3)) : decode cc k = .ok (.anewarray n, 3) := by
  obtain ⟨F, hF, h2⟩ := sy_fd189 k
  unfold decode Reader.runAt
  rw [hF]
  show Except.bind (Except.bind ((Reader.u1 : Decoder Nat) cc k) (fun q => F q.1 cc q.2)) (fun q => .ok (q.1, q.2 - k)) = _
  rw [h0]
  show Except.bind (F 189 cc (k + 1)) (fun q => .ok (q.1, q.2 - k)) = _
  rw [h2]
  show Except.bind (Except.bind ((Reader.u2 : Decoder Nat) cc (k + 1)) (fun q => .ok ((fun n => (.anewarray n : Instr)) q.1, q.2))) (fun q => .ok (q.1, q.2 - k)) = _
  rw [h1]
  show Except.ok ((.anewarray n : Instr), k + 3 - k) = _
  rw [Nat.add_sub_cancel_left]
theorem sy_fd17 (pc : Nat) : ∃ F : Nat → Decoder Instr, Decoder.instr pc = (Reader.u1 >>= F) ∧ F 17 = (Reader.s2 >>= fun n => Pure.pure (.sipush n)) := ⟨_, rfl, rfl⟩
theorem sy_d17 {cc : ByteArray} {k : Nat} {n : Int} (h0 : (Reader.u1 : Decoder Nat) cc k = .ok (17, k + 1)) (h1 : (Reader.s2 : Decoder Int) cc (k + 1) = .ok (n, k + 3)) : decode cc k = .ok (.sipush n, 3) := by
  obtain ⟨F, hF, h2⟩ := sy_fd17 k
  unfold decode Reader.runAt
  rw [hF]
  show Except.bind (Except.bind ((Reader.u1 : Decoder Nat) cc k) (fun q => F q.1 cc q.2)) (fun q => .ok (q.1, q.2 - k)) = _
  rw [h0]
  show Except.bind (F 17 cc (k + 1)) (fun q => .ok (q.1, q.2 - k)) = _
  rw [h2]
  show Except.bind (Except.bind ((Reader.s2 : Decoder Int) cc (k + 1)) (fun q => .ok ((fun n => (.sipush n : Instr)) q.1, q.2))) (fun q => .ok (q.1, q.2 - k)) = _
  rw [h1]
  show Except.ok ((.sipush n : Instr), k + 3 - k) = _
  rw [Nat.add_sub_cancel_left]
theorem sy_fd167 (pc : Nat) : ∃ F : Nat → Decoder Instr, Decoder.instr pc = (Reader.u1 >>= F) ∧ F 167 = (Reader.s2 >>= fun n => Pure.pure (.goto n)) := ⟨_, rfl, rfl⟩
theorem sy_d167 {cc : ByteArray} {k : Nat} {n : Int} (h0 : (Reader.u1 : Decoder Nat) cc k = .ok (167, k + 1)) (h1 : (Reader.s2 : Decoder Int) cc (k + 1) = .ok (n, k + 3)) : decode cc k = .ok (.goto n, 3) := by
  obtain ⟨F, hF, h2⟩ := sy_fd167 k
  unfold decode Reader.runAt
  rw [hF]
  show Except.bind (Except.bind ((Reader.u1 : Decoder Nat) cc k) (fun q => F q.1 cc q.2)) (fun q => .ok (q.1, q.2 - k)) = _
  rw [h0]
  show Except.bind (F 167 cc (k + 1)) (fun q => .ok (q.1, q.2 - k)) = _
  rw [h2]
  show Except.bind (Except.bind ((Reader.s2 : Decoder Int) cc (k + 1)) (fun q => .ok ((fun n => (.goto n : Instr)) q.1, q.2))) (fun q => .ok (q.1, q.2 - k)) = _
  rw [h1]
  show Except.ok ((.goto n : Instr), k + 3 - k) = _
  rw [Nat.add_sub_cancel_left]
theorem sy_fd153 (pc : Nat) : ∃ F : Nat → Decoder Instr, Decoder.instr pc = (Reader.u1 >>= F) ∧ F 153 = (Reader.s2 >>= fun n => Pure.pure (.ifCond .eq n)) := ⟨_, rfl, rfl⟩
theorem sy_d153 {cc : ByteArray} {k : Nat} {n : Int} (h0 : (Reader.u1 : Decoder Nat) cc k = .ok (153, k + 1)) (h1 : (Reader.s2 : Decoder Int) cc (k + 1) = .ok (n, k + 3)) : decode cc k = .ok (.ifCond .eq n, 3) := by
  obtain ⟨F, hF, h2⟩ := sy_fd153 k
  unfold decode Reader.runAt
  rw [hF]
  show Except.bind (Except.bind ((Reader.u1 : Decoder Nat) cc k) (fun q => F q.1 cc q.2)) (fun q => .ok (q.1, q.2 - k)) = _
  rw [h0]
  show Except.bind (F 153 cc (k + 1)) (fun q => .ok (q.1, q.2 - k)) = _
  rw [h2]
  show Except.bind (Except.bind ((Reader.s2 : Decoder Int) cc (k + 1)) (fun q => .ok ((fun n => (.ifCond .eq n : Instr)) q.1, q.2))) (fun q => .ok (q.1, q.2 - k)) = _
  rw [h1]
  show Except.ok ((.ifCond .eq n : Instr), k + 3 - k) = _
  rw [Nat.add_sub_cancel_left]
theorem sy_fd159 (pc : Nat) : ∃ F : Nat → Decoder Instr, Decoder.instr pc = (Reader.u1 >>= F) ∧ F 159 = (Reader.s2 >>= fun n => Pure.pure (.if_icmp .eq n)) := ⟨_, rfl, rfl⟩
theorem sy_d159 {cc : ByteArray} {k : Nat} {n : Int} (h0 : (Reader.u1 : Decoder Nat) cc k = .ok (159, k + 1)) (h1 : (Reader.s2 : Decoder Int) cc (k + 1) = .ok (n, k + 3)) : decode cc k = .ok (.if_icmp .eq n, 3) := by
  obtain ⟨F, hF, h2⟩ := sy_fd159 k
  unfold decode Reader.runAt
  rw [hF]
  show Except.bind (Except.bind ((Reader.u1 : Decoder Nat) cc k) (fun q => F q.1 cc q.2)) (fun q => .ok (q.1, q.2 - k)) = _
  rw [h0]
  show Except.bind (F 159 cc (k + 1)) (fun q => .ok (q.1, q.2 - k)) = _
  rw [h2]
  show Except.bind (Except.bind ((Reader.s2 : Decoder Int) cc (k + 1)) (fun q => .ok ((fun n => (.if_icmp .eq n : Instr)) q.1, q.2))) (fun q => .ok (q.1, q.2 - k)) = _
  rw [h1]
  show Except.ok ((.if_icmp .eq n : Instr), k + 3 - k) = _
  rw [Nat.add_sub_cancel_left]
theorem sy_fd154 (pc : Nat) : ∃ F : Nat → Decoder Instr, Decoder.instr pc = (Reader.u1 >>= F) ∧ F 154 = (Reader.s2 >>= fun n => Pure.pure (.ifCond .ne n)) := ⟨_, rfl, rfl⟩
theorem sy_d154 {cc : ByteArray} {k : Nat} {n : Int} (h0 : (Reader.u1 : Decoder Nat) cc k = .ok (154, k + 1)) (h1 : (Reader.s2 : Decoder Int) cc (k + 1) = .ok (n, k + 3)) : decode cc k = .ok (.ifCond .ne n, 3) := by
  obtain ⟨F, hF, h2⟩ := sy_fd154 k
  unfold decode Reader.runAt
  rw [hF]
  show Except.bind (Except.bind ((Reader.u1 : Decoder Nat) cc k) (fun q => F q.1 cc q.2)) (fun q => .ok (q.1, q.2 - k)) = _
  rw [h0]
  show Except.bind (F 154 cc (k + 1)) (fun q => .ok (q.1, q.2 - k)) = _
  rw [h2]
  show Except.bind (Except.bind ((Reader.s2 : Decoder Int) cc (k + 1)) (fun q => .ok ((fun n => (.ifCond .ne n : Instr)) q.1, q.2))) (fun q => .ok (q.1, q.2 - k)) = _
  rw [h1]
  show Except.ok ((.ifCond .ne n : Instr), k + 3 - k) = _
  rw [Nat.add_sub_cancel_left]
theorem sy_fd160 (pc : Nat) : ∃ F : Nat → Decoder Instr, Decoder.instr pc = (Reader.u1 >>= F) ∧ F 160 = (Reader.s2 >>= fun n => Pure.pure (.if_icmp .ne n)) := ⟨_, rfl, rfl⟩
theorem sy_d160 {cc : ByteArray} {k : Nat} {n : Int} (h0 : (Reader.u1 : Decoder Nat) cc k = .ok (160, k + 1)) (h1 : (Reader.s2 : Decoder Int) cc (k + 1) = .ok (n, k + 3)) : decode cc k = .ok (.if_icmp .ne n, 3) := by
  obtain ⟨F, hF, h2⟩ := sy_fd160 k
  unfold decode Reader.runAt
  rw [hF]
  show Except.bind (Except.bind ((Reader.u1 : Decoder Nat) cc k) (fun q => F q.1 cc q.2)) (fun q => .ok (q.1, q.2 - k)) = _
  rw [h0]
  show Except.bind (F 160 cc (k + 1)) (fun q => .ok (q.1, q.2 - k)) = _
  rw [h2]
  show Except.bind (Except.bind ((Reader.s2 : Decoder Int) cc (k + 1)) (fun q => .ok ((fun n => (.if_icmp .ne n : Instr)) q.1, q.2))) (fun q => .ok (q.1, q.2 - k)) = _
  rw [h1]
  show Except.ok ((.if_icmp .ne n : Instr), k + 3 - k) = _
  rw [Nat.add_sub_cancel_left]
theorem sy_fd155 (pc : Nat) : ∃ F : Nat → Decoder Instr, Decoder.instr pc = (Reader.u1 >>= F) ∧ F 155 = (Reader.s2 >>= fun n => Pure.pure (.ifCond .lt n)) := ⟨_, rfl, rfl⟩
theorem sy_d155 {cc : ByteArray} {k : Nat} {n : Int} (h0 : (Reader.u1 : Decoder Nat) cc k = .ok (155, k + 1)) (h1 : (Reader.s2 : Decoder Int) cc (k + 1) = .ok (n, k + 3)) : decode cc k = .ok (.ifCond .lt n, 3) := by
  obtain ⟨F, hF, h2⟩ := sy_fd155 k
  unfold decode Reader.runAt
  rw [hF]
  show Except.bind (Except.bind ((Reader.u1 : Decoder Nat) cc k) (fun q => F q.1 cc q.2)) (fun q => .ok (q.1, q.2 - k)) = _
  rw [h0]
  show Except.bind (F 155 cc (k + 1)) (fun q => .ok (q.1, q.2 - k)) = _
  rw [h2]
  show Except.bind (Except.bind ((Reader.s2 : Decoder Int) cc (k + 1)) (fun q => .ok ((fun n => (.ifCond .lt n : Instr)) q.1, q.2))) (fun q => .ok (q.1, q.2 - k)) = _
  rw [h1]
  show Except.ok ((.ifCond .lt n : Instr), k + 3 - k) = _
  rw [Nat.add_sub_cancel_left]
theorem sy_fd161 (pc : Nat) : ∃ F : Nat → Decoder Instr, Decoder.instr pc = (Reader.u1 >>= F) ∧ F 161 = (Reader.s2 >>= fun n => Pure.pure (.if_icmp .lt n)) := ⟨_, rfl, rfl⟩
theorem sy_d161 {cc : ByteArray} {k : Nat} {n : Int} (h0 : (Reader.u1 : Decoder Nat) cc k = .ok (161, k + 1)) (h1 : (Reader.s2 : Decoder Int) cc (k + 1) = .ok (n, k + 3)) : decode cc k = .ok (.if_icmp .lt n, 3) := by
  obtain ⟨F, hF, h2⟩ := sy_fd161 k
  unfold decode Reader.runAt
  rw [hF]
  show Except.bind (Except.bind ((Reader.u1 : Decoder Nat) cc k) (fun q => F q.1 cc q.2)) (fun q => .ok (q.1, q.2 - k)) = _
  rw [h0]
  show Except.bind (F 161 cc (k + 1)) (fun q => .ok (q.1, q.2 - k)) = _
  rw [h2]
  show Except.bind (Except.bind ((Reader.s2 : Decoder Int) cc (k + 1)) (fun q => .ok ((fun n => (.if_icmp .lt n : Instr)) q.1, q.2))) (fun q => .ok (q.1, q.2 - k)) = _
  rw [h1]
  show Except.ok ((.if_icmp .lt n : Instr), k + 3 - k) = _
  rw [Nat.add_sub_cancel_left]
theorem sy_fd156 (pc : Nat) : ∃ F : Nat → Decoder Instr, Decoder.instr pc = (Reader.u1 >>= F) ∧ F 156 = (Reader.s2 >>= fun n => Pure.pure (.ifCond .ge n)) := ⟨_, rfl, rfl⟩
theorem sy_d156 {cc : ByteArray} {k : Nat} {n : Int} (h0 : (Reader.u1 : Decoder Nat) cc k = .ok (156, k + 1)) (h1 : (Reader.s2 : Decoder Int) cc (k + 1) = .ok (n, k + 3)) : decode cc k = .ok (.ifCond .ge n, 3) := by
  obtain ⟨F, hF, h2⟩ := sy_fd156 k
  unfold decode Reader.runAt
  rw [hF]
  show Except.bind (Except.bind ((Reader.u1 : Decoder Nat) cc k) (fun q => F q.1 cc q.2)) (fun q => .ok (q.1, q.2 - k)) = _
  rw [h0]
  show Except.bind (F 156 cc (k + 1)) (fun q => .ok (q.1, q.2 - k)) = _
  rw [h2]
  show Except.bind (Except.bind ((Reader.s2 : Decoder Int) cc (k + 1)) (fun q => .ok ((fun n => (.ifCond .ge n : Instr)) q.1, q.2))) (fun q => .ok (q.1, q.2 - k)) = _
  rw [h1]
  show Except.ok ((.ifCond .ge n : Instr), k + 3 - k) = _
  rw [Nat.add_sub_cancel_left]
theorem sy_fd162 (pc : Nat) : ∃ F : Nat → Decoder Instr, Decoder.instr pc = (Reader.u1 >>= F) ∧ F 162 = (Reader.s2 >>= fun n => Pure.pure (.if_icmp .ge n)) := ⟨_, rfl, rfl⟩
theorem sy_d162 {cc : ByteArray} {k : Nat} {n : Int} (h0 : (Reader.u1 : Decoder Nat) cc k = .ok (162, k + 1)) (h1 : (Reader.s2 : Decoder Int) cc (k + 1) = .ok (n, k + 3)) : decode cc k = .ok (.if_icmp .ge n, 3) := by
  obtain ⟨F, hF, h2⟩ := sy_fd162 k
  unfold decode Reader.runAt
  rw [hF]
  show Except.bind (Except.bind ((Reader.u1 : Decoder Nat) cc k) (fun q => F q.1 cc q.2)) (fun q => .ok (q.1, q.2 - k)) = _
  rw [h0]
  show Except.bind (F 162 cc (k + 1)) (fun q => .ok (q.1, q.2 - k)) = _
  rw [h2]
  show Except.bind (Except.bind ((Reader.s2 : Decoder Int) cc (k + 1)) (fun q => .ok ((fun n => (.if_icmp .ge n : Instr)) q.1, q.2))) (fun q => .ok (q.1, q.2 - k)) = _
  rw [h1]
  show Except.ok ((.if_icmp .ge n : Instr), k + 3 - k) = _
  rw [Nat.add_sub_cancel_left]
theorem sy_fd157 (pc : Nat) : ∃ F : Nat → Decoder Instr, Decoder.instr pc = (Reader.u1 >>= F) ∧ F 157 = (Reader.s2 >>= fun n => Pure.pure (.ifCond .gt n)) := ⟨_, rfl, rfl⟩
theorem sy_d157 {cc : ByteArray} {k : Nat} {n : Int} (h0 : (Reader.u1 : Decoder Nat) cc k = .ok (157, k + 1)) (h1 : (Reader.s2 : Decoder Int) cc (k + 1) = .ok (n, k + 3)) : decode cc k = .ok (.ifCond .gt n, 3) := by
  obtain ⟨F, hF, h2⟩ := sy_fd157 k
  unfold decode Reader.runAt
  rw [hF]
  show Except.bind (Except.bind ((Reader.u1 : Decoder Nat) cc k) (fun q => F q.1 cc q.2)) (fun q => .ok (q.1, q.2 - k)) = _
  rw [h0]
  show Except.bind (F 157 cc (k + 1)) (fun q => .ok (q.1, q.2 - k)) = _
  rw [h2]
  show Except.bind (Except.bind ((Reader.s2 : Decoder Int) cc (k + 1)) (fun q => .ok ((fun n => (.ifCond .gt n : Instr)) q.1, q.2))) (fun q => .ok (q.1, q.2 - k)) = _
  rw [h1]
  show Except.ok ((.ifCond .gt n : Instr), k + 3 - k) = _
  rw [Nat.add_sub_cancel_left]
theorem sy_fd163 (pc : Nat) : ∃ F : Nat → Decoder Instr, Decoder.instr pc = (Reader.u1 >>= F) ∧ F 163 = (Reader.s2 >>= fun n => Pure.pure (.if_icmp .gt n)) := ⟨_, rfl, rfl⟩
theorem sy_d163 {cc : ByteArray} {k : Nat} {n : Int} (h0 : (Reader.u1 : Decoder Nat) cc k = .ok (163, k + 1)) (h1 : (Reader.s2 : Decoder Int) cc (k + 1) = .ok (n, k + 3)) : decode cc k = .ok (.if_icmp .gt n, 3) := by
  obtain ⟨F, hF, h2⟩ := sy_fd163 k
  unfold decode Reader.runAt
  rw [hF]
  show Except.bind (Except.bind ((Reader.u1 : Decoder Nat) cc k) (fun q => F q.1 cc q.2)) (fun q => .ok (q.1, q.2 - k)) = _
  rw [h0]
  show Except.bind (F 163 cc (k + 1)) (fun q => .ok (q.1, q.2 - k)) = _
  rw [h2]
  show Except.bind (Except.bind ((Reader.s2 : Decoder Int) cc (k + 1)) (fun q => .ok ((fun n => (.if_icmp .gt n : Instr)) q.1, q.2))) (fun q => .ok (q.1, q.2 - k)) = _
  rw [h1]
  show Except.ok ((.if_icmp .gt n : Instr), k + 3 - k) = _
  rw [Nat.add_sub_cancel_left]
theorem sy_fd158 (pc : Nat) : ∃ F : Nat → Decoder Instr, Decoder.instr pc = (Reader.u1 >>= F) ∧ F 158 = (Reader.s2 >>= fun n => Pure.pure (.ifCond .le n)) := ⟨_, rfl, rfl⟩
theorem sy_d158 {cc : ByteArray} {k : Nat} {n : Int} (h0 : (Reader.u1 : Decoder Nat) cc k = .ok (158, k + 1)) (h1 : (Reader.s2 : Decoder Int) cc (k + 1) = .ok (n, k + 3)) : decode cc k = .ok (.ifCond .le n, 3) := by
  obtain ⟨F, hF, h2⟩ := sy_fd158 k
  unfold decode Reader.runAt
  rw [hF]
  show Except.bind (Except.bind ((Reader.u1 : Decoder Nat) cc k) (fun q => F q.1 cc q.2)) (fun q => .ok (q.1, q.2 - k)) = _
  rw [h0]
  show Except.bind (F 158 cc (k + 1)) (fun q => .ok (q.1, q.2 - k)) = _
  rw [h2]
  show Except.bind (Except.bind ((Reader.s2 : Decoder Int) cc (k + 1)) (fun q => .ok ((fun n => (.ifCond .le n : Instr)) q.1, q.2))) (fun q => .ok (q.1, q.2 - k)) = _
  rw [h1]
  show Except.ok ((.ifCond .le n : Instr), k + 3 - k) = _
  rw [Nat.add_sub_cancel_left]
theorem sy_fd164 (pc : Nat) : ∃ F : Nat → Decoder Instr, Decoder.instr pc = (Reader.u1 >>= F) ∧ F 164 = (Reader.s2 >>= fun n => Pure.pure (.if_icmp .le n)) := ⟨_, rfl, rfl⟩
theorem sy_d164 {cc : ByteArray} {k : Nat} {n : Int} (h0 : (Reader.u1 : Decoder Nat) cc k = .ok (164, k + 1)) (h1 : (Reader.s2 : Decoder Int) cc (k + 1) = .ok (n, k + 3)) : decode cc k = .ok (.if_icmp .le n, 3) := by
  obtain ⟨F, hF, h2⟩ := sy_fd164 k
  unfold decode Reader.runAt
  rw [hF]
  show Except.bind (Except.bind ((Reader.u1 : Decoder Nat) cc k) (fun q => F q.1 cc q.2)) (fun q => .ok (q.1, q.2 - k)) = _
  rw [h0]
  show Except.bind (F 164 cc (k + 1)) (fun q => .ok (q.1, q.2 - k)) = _
  rw [h2]
  show Except.bind (Except.bind ((Reader.s2 : Decoder Int) cc (k + 1)) (fun q => .ok ((fun n => (.if_icmp .le n : Instr)) q.1, q.2))) (fun q => .ok (q.1, q.2 - k)) = _
  rw [h1]
  show Except.ok ((.if_icmp .le n : Instr), k + 3 - k) = _
  rw [Nat.add_sub_cancel_left]
theorem sy_fd18 (pc : Nat) : ∃ F : Nat → Decoder Instr, Decoder.instr pc = (Reader.u1 >>= F) ∧ F 18 = (Reader.u1 >>= fun n => Pure.pure (.ldc n)) := ⟨_, rfl, rfl⟩
theorem sy_d18 {cc : ByteArray} {k : Nat} {n : Nat} (h0 : (Reader.u1 : Decoder Nat) cc k = .ok (18, k + 1)) (h1 : (Reader.u1 : Decoder Nat) cc (k + 1) = .ok (n, k + 2)) : decode cc k = .ok (.ldc n, 2) := by
  obtain ⟨F, hF, h2⟩ := sy_fd18 k
  unfold decode Reader.runAt
  rw [hF]
  show Except.bind (Except.bind ((Reader.u1 : Decoder Nat) cc k) (fun q => F q.1 cc q.2)) (fun q => .ok (q.1, q.2 - k)) = _
  rw [h0]
  show Except.bind (F 18 cc (k + 1)) (fun q => .ok (q.1, q.2 - k)) = _
  rw [h2]
  show Except.bind (Except.bind ((Reader.u1 : Decoder Nat) cc (k + 1)) (fun q => .ok ((fun n => (.ldc n : Instr)) q.1, q.2))) (fun q => .ok (q.1, q.2 - k)) = _
  rw [h1]
  show Except.ok ((.ldc n : Instr), k + 2 - k) = _
  rw [Nat.add_sub_cancel_left]
theorem sy_fd21 (pc : Nat) : ∃ F : Nat → Decoder Instr, Decoder.instr pc = (Reader.u1 >>= F) ∧ F 21 = (Reader.u1 >>= fun n => Pure.pure (.iload n)) := ⟨_, rfl, rfl⟩
theorem sy_d21 {cc : ByteArray} {k : Nat} {n : Nat} (h0 : (Reader.u1 : Decoder Nat) cc k = .ok (21, k + 1)) (h1 : (Reader.u1 : Decoder Nat) cc (k + 1) = .ok (n, k + 2)) : decode cc k = .ok (.iload n, 2) := by
  obtain ⟨F, hF, h2⟩ := sy_fd21 k
  unfold decode Reader.runAt
  rw [hF]
  show Except.bind (Except.bind ((Reader.u1 : Decoder Nat) cc k) (fun q => F q.1 cc q.2)) (fun q => .ok (q.1, q.2 - k)) = _
  rw [h0]
  show Except.bind (F 21 cc (k + 1)) (fun q => .ok (q.1, q.2 - k)) = _
  rw [h2]
  show Except.bind (Except.bind ((Reader.u1 : Decoder Nat) cc (k + 1)) (fun q => .ok ((fun n => (.iload n : Instr)) q.1, q.2))) (fun q => .ok (q.1, q.2 - k)) = _
  rw [h1]
  show Except.ok ((.iload n : Instr), k + 2 - k) = _
  rw [Nat.add_sub_cancel_left]
theorem sy_fd22 (pc : Nat) : ∃ F : Nat → Decoder Instr, Decoder.instr pc = (Reader.u1 >>= F) ∧ F 22 = (Reader.u1 >>= fun n => Pure.pure (.lload n)) := ⟨_, rfl, rfl⟩
theorem sy_d22 {cc : ByteArray} {k : Nat} {n : Nat} (h0 : (Reader.u1 : Decoder Nat) cc k = .ok (22, k + 1)) (h1 : (Reader.u1 : Decoder Nat) cc (k + 1) = .ok (n, k + 2)) : decode cc k = .ok (.lload n, 2) := by
  obtain ⟨F, hF, h2⟩ := sy_fd22 k
  unfold decode Reader.runAt
  rw [hF]
  show Except.bind (Except.bind ((Reader.u1 : Decoder Nat) cc k) (fun q => F q.1 cc q.2)) (fun q => .ok (q.1, q.2 - k)) = _
  rw [h0]
  show Except.bind (F 22 cc (k + 1)) (fun q => .ok (q.1, q.2 - k)) = _
  rw [h2]
  show Except.bind (Except.bind ((Reader.u1 : Decoder Nat) cc (k + 1)) (fun q => .ok ((fun n => (.lload n : Instr)) q.1, q.2))) (fun q => .ok (q.1, q.2 - k)) = _
  rw [h1]
  show Except.ok ((.lload n : Instr), k + 2 - k) = _
  rw [Nat.add_sub_cancel_left]
theorem sy_fd25 (pc : Nat) : ∃ F : Nat → Decoder Instr, Decoder.instr pc = (Reader.u1 >>= F) ∧ F 25 = (Reader.u1 >>= fun n => Pure.pure (.aload n)) := ⟨_, rfl, rfl⟩
theorem sy_d25 {cc : ByteArray} {k : Nat} {n : Nat} (h0 : (Reader.u1 : Decoder Nat) cc k = .ok (25, k + 1)) (h1 : (Reader.u1 : Decoder Nat) cc (k + 1) = .ok (n, k + 2)) : decode cc k = .ok (.aload n, 2) := by
  obtain ⟨F, hF, h2⟩ := sy_fd25 k
  unfold decode Reader.runAt
  rw [hF]
  show Except.bind (Except.bind ((Reader.u1 : Decoder Nat) cc k) (fun q => F q.1 cc q.2)) (fun q => .ok (q.1, q.2 - k)) = _
  rw [h0]
  show Except.bind (F 25 cc (k + 1)) (fun q => .ok (q.1, q.2 - k)) = _
  rw [h2]
  show Except.bind (Except.bind ((Reader.u1 : Decoder Nat) cc (k + 1)) (fun q => .ok ((fun n => (.aload n : Instr)) q.1, q.2))) (fun q => .ok (q.1, q.2 - k)) = _
  rw [h1]
  show Except.ok ((.aload n : Instr), k + 2 - k) = _
  rw [Nat.add_sub_cancel_left]
theorem sy_fd54 (pc : Nat) : ∃ F : Nat → Decoder Instr, Decoder.instr pc = (Reader.u1 >>= F) ∧ F 54 = (Reader.u1 >>= fun n => Pure.pure (.istore n)) := ⟨_, rfl, rfl⟩
theorem sy_d54 {cc : ByteArray} {k : Nat} {n : Nat} (h0 : (Reader.u1 : Decoder Nat) cc k = .ok (54, k + 1)) (h1 : (Reader.u1 : Decoder Nat) cc (k + 1) = .ok (n, k + 2)) : decode cc k = .ok (.istore n, 2) := by
  obtain ⟨F, hF, h2⟩ := sy_fd54 k
  unfold decode Reader.runAt
  rw [hF]
  show Except.bind (Except.bind ((Reader.u1 : Decoder Nat) cc k) (fun q => F q.1 cc q.2)) (fun q => .ok (q.1, q.2 - k)) = _
  rw [h0]
  show Except.bind (F 54 cc (k + 1)) (fun q => .ok (q.1, q.2 - k)) = _
  rw [h2]
  show Except.bind (Except.bind ((Reader.u1 : Decoder Nat) cc (k + 1)) (fun q => .ok ((fun n => (.istore n : Instr)) q.1, q.2))) (fun q => .ok (q.1, q.2 - k)) = _
  rw [h1]
  show Except.ok ((.istore n : Instr), k + 2 - k) = _
  rw [Nat.add_sub_cancel_left]
theorem sy_fd55 (pc : Nat) : ∃ F : Nat → Decoder Instr, Decoder.instr pc = (Reader.u1 >>= F) ∧ F 55 = (Reader.u1 >>= fun n => Pure.pure (.lstore n)) := ⟨_, rfl, rfl⟩
theorem sy_d55 {cc : ByteArray} {k : Nat} {n : Nat} (h0 : (Reader.u1 : Decoder Nat) cc k = .ok (55, k + 1)) (h1 : (Reader.u1 : Decoder Nat) cc (k + 1) = .ok (n, k + 2)) : decode cc k = .ok (.lstore n, 2) := by
  obtain ⟨F, hF, h2⟩ := sy_fd55 k
  unfold decode Reader.runAt
  rw [hF]
  show Except.bind (Except.bind ((Reader.u1 : Decoder Nat) cc k) (fun q => F q.1 cc q.2)) (fun q => .ok (q.1, q.2 - k)) = _
  rw [h0]
  show Except.bind (F 55 cc (k + 1)) (fun q => .ok (q.1, q.2 - k)) = _
  rw [h2]
  show Except.bind (Except.bind ((Reader.u1 : Decoder Nat) cc (k + 1)) (fun q => .ok ((fun n => (.lstore n : Instr)) q.1, q.2))) (fun q => .ok (q.1, q.2 - k)) = _
  rw [h1]
  show Except.ok ((.lstore n : Instr), k + 2 - k) = _
  rw [Nat.add_sub_cancel_left]
theorem sy_fd58 (pc : Nat) : ∃ F : Nat → Decoder Instr, Decoder.instr pc = (Reader.u1 >>= F) ∧ F 58 = (Reader.u1 >>= fun n => Pure.pure (.astore n)) := ⟨_, rfl, rfl⟩
theorem sy_d58 {cc : ByteArray} {k : Nat} {n : Nat} (h0 : (Reader.u1 : Decoder Nat) cc k = .ok (58, k + 1)) (h1 : (Reader.u1 : Decoder Nat) cc (k + 1) = .ok (n, k + 2)) : decode cc k = .ok (.astore n, 2) := by
  obtain ⟨F, hF, h2⟩ := sy_fd58 k
  unfold decode Reader.runAt
  rw [hF]
  show Except.bind (Except.bind ((Reader.u1 : Decoder Nat) cc k) (fun q => F q.1 cc q.2)) (fun q => .ok (q.1, q.2 - k)) = _
  rw [h0]
  show Except.bind (F 58 cc (k + 1)) (fun q => .ok (q.1, q.2 - k)) = _
  rw [h2]
  show Except.bind (Except.bind ((Reader.u1 : Decoder Nat) cc (k + 1)) (fun q => .ok ((fun n => (.astore n : Instr)) q.1, q.2))) (fun q => .ok (q.1, q.2 - k)) = _
  rw [h1]
  show Except.ok ((.astore n : Instr), k + 2 - k) = _
  rw [Nat.add_sub_cancel_left]
theorem sy_fd16 (pc : Nat) : ∃ F : Nat → Decoder Instr, Decoder.instr pc = (Reader.u1 >>= F) ∧ F 16 = (Reader.s1 >>= fun n => Pure.pure (.bipush n)) := ⟨_, rfl, rfl⟩
theorem sy_d16 {cc : ByteArray} {k : Nat} {n : Int} (h0 : (Reader.u1 : Decoder Nat) cc k = .ok (16, k + 1)) (h1 : (Reader.s1 : Decoder Int) cc (k + 1) = .ok (n, k + 2)) : decode cc k = .ok (.bipush n, 2) := by
  obtain ⟨F, hF, h2⟩ := sy_fd16 k
  unfold decode Reader.runAt
  rw [hF]
  show Except.bind (Except.bind ((Reader.u1 : Decoder Nat) cc k) (fun q => F q.1 cc q.2)) (fun q => .ok (q.1, q.2 - k)) = _
  rw [h0]
  show Except.bind (F 16 cc (k + 1)) (fun q => .ok (q.1, q.2 - k)) = _
  rw [h2]
  show Except.bind (Except.bind ((Reader.s1 : Decoder Int) cc (k + 1)) (fun q => .ok ((fun n => (.bipush n : Instr)) q.1, q.2))) (fun q => .ok (q.1, q.2 - k)) = _
  rw [h1]
  show Except.ok ((.bipush n : Instr), k + 2 - k) = _
  rw [Nat.add_sub_cancel_left]
def sy_i1 (bs : List (List Nat)) (k v : Nat) : Bool := match sy_lk bs k with
  | some x => Nat.beq x v
  | none => false
def sy_b3 (bs : List (List Nat)) (k op n : Nat) : Bool := sy_i1 bs k op && (sy_i1 bs (k + 1) (n / 256) && sy_i1 bs (k + 2) (n % 256))
def sy_bj (bs : List (List Nat)) (k op t : Nat) : Bool := sy_b3 bs k op ((t + 65536 - k) % 65536) && (Nat.ble k 32767 && Nat.ble t 32767)
theorem sy_i1_r {cc : ByteArray} {bs : List (List Nat)} (hb : sy_By cc bs) {k v : Nat} (h : sy_i1 bs k v = true) : (Reader.u1 : Decoder Nat) cc k = .ok (v, k + 1) := by
  unfold sy_i1 at h
  split at h
  · next x hx =>
    obtain ⟨a, h1, h2⟩ := hb hx
    rw [sy_u1 h1, h2, Nat.eq_of_beq_eq_true h]
  · cases h
theorem sy_b3_r {cc : ByteArray} {bs : List (List Nat)} (hb : sy_By cc bs) {k op n : Nat} (h : sy_b3 bs k op n = true) : (Reader.u1 : Decoder Nat) cc k = .ok (op, k + 1) ∧ (Reader.u2 : Decoder Nat) cc (k + 1) = .ok (n, k + 3) := by
  unfold sy_b3 at h
  simp only [Bool.and_eq_true] at h
  refine ⟨sy_i1_r hb h.1, ?_⟩
  have e := sy_u2 (sy_i1_r hb h.2.1) (sy_i1_r hb h.2.2)
  rw [Nat.div_add_mod'] at e
  exact e
theorem sy_bj_r {cc : ByteArray} {bs : List (List Nat)} (hb : sy_By cc bs) {k op t : Nat} (h : sy_bj bs k op t = true) : (Reader.u1 : Decoder Nat) cc k = .ok (op, k + 1) ∧ (Reader.s2 : Decoder Int) cc (k + 1) = .ok ((t : Int) - (k : Int), k + 3) := by
  unfold sy_bj at h
  simp only [Bool.and_eq_true, Nat.ble_eq] at h
  obtain ⟨h1, h2⟩ := sy_b3_r hb h.1
  refine ⟨h1, ?_⟩
  rw [sy_s2 h2]
  have e : Reader.signed 16 ((t + 65536 - k) % 65536) = (t : Int) - (k : Int) := by
    unfold Reader.signed
    have e1 : (2 : Nat) ^ (16 - 1) = 32768 := by decide
    have e2 : (2 : Nat) ^ 16 = 65536 := by decide
    rw [e1, e2]
    split <;> omega
  rw [e]
