/-! The second machine's steps: what touches no cell -/
section SXP
variable {p : Program} {l : Launch} {e : Env} {R : Room} {s : State} {m : MethodId} {args : Array Value} {below : List Frame} {meth : Method} {c : Code} {Q : State → Prop}
variable {D : va_G} {cl : List vw_C} {dA : Nat → ClassId} {kt : List FieldType} {A : Nat → Prop} {hh0 : sx_H} {Gs : List Cond} {own : String} {cc : ByteArray} {nL : Nat} {cd : ev_Cd}
variable {T : List sx_K} {kd : List (Nat × Nat)} {ad : List Nat} {Md : List (Nat × Nat)} {tt : List (String × String × String × Nat)} {Y : sx_Y} {r : List Int}
variable {ix : Nat} {L : List (Nat × (Nat × Nat × List Int))} {S S1 : List (Nat × Nat × List Int)} {B : List (Int × Int)} {F : List (List Int)} {G : sx_Gt} {hs hs' : List (List (List Int))} {out : List sx_S}
variable {Gc : List (List Cond)} {Ct : List ev_Ct} {Pg : List ev_Mt} {sm : ev_Sm} {nm : String} {ret : Option FieldType} {i : ev_I} {st : sx_S}
theorem sx_kz {st : sx_S} (k : ∀ x1, sx_g p l e R s m args below meth c Q D cl dA T Y kd ad A hh0 Md nL cd st (r ++ x1)) : sx_g p l e R s m args below meth c Q D cl dA T Y kd ad A hh0 Md nL cd st r := by
  have k1 := k []
  rwa [List.append_nil] at k1
theorem sx_k1 {st : sx_S} (k : ∀ t ∈ [st], ∀ x1, sx_g p l e R s m args below meth c Q D cl dA T Y kd ad A hh0 Md nL cd t (r ++ x1)) : sx_g p l e R s m args below meth c Q D cl dA T Y kd ad A hh0 Md nL cd st r := sx_kz (k st (List.mem_singleton.mpr rfl))
theorem sx_ne0 {j : Int32} (h : 0 < j.toInt) : ¬ j = 0 := by
  intro e
  subst e
  have : (0 : Int32).toInt = 0 := by decide +kernel
  omega
theorem sx_vr.cmp0 {x : sx_V} {xv : Value} (h : sx_vr r kd ad x xv) (hv : x.1 = 0 ∨ x.1 = 5) : ∃ i9 : Int32, xv = .int i9 ∧ ∀ t, ev_cp t i9 0 → sx_cp t (sx_ev x.2.2 r) := by
  rcases hv with hv | hv
  · obtain ⟨i9, rfl, hi⟩ := h.int hv
    refine ⟨i9, rfl, fun t ht => ?_⟩
    have := sx_cp_of ht
    have m0 : (0 : Int32).toInt = 0 := by decide +kernel
    rw [m0, hi, Int.sub_zero] at this
    exact this
  · obtain ⟨i9, rfl, hi⟩ := h.sign hv
    exact ⟨i9, rfl, fun t ht => sx_sg_cp hi ht⟩
theorem sx_iincw {pc a k : Nat} {n : Int} {x v : Int32} {ls : Array Slot} {lv lv' : List (Nat × Value)} {H : Heap} {locs : List Loc} {rest : List Value} (hexec : p.tables.exec = Jvm.exec) (hcode : c.code = cc) (hd : decode cc pc = .ok (.iinc a n, 6)) (h : lv_has ls nL lv) (hk : lv[k]? = some (a, .int x)) (hv : x + Int32.ofInt n = v) (hn : a < nL) (hl : (a, Value.int v) :: lv.filter (fun q => !(q.1 == a) && !(q.1 + 1 == a && q.2.category == 2)) = lv')
    (k9 : ∀ ls', lv_has ls' nL lv' → W p l e R s m args below meth c H locs 0 0 Q (F0 m (pc + 6) ls' rest)) : W p l e R s m args below meth c H locs 0 0 Q (F0 m pc ls rest) := by
  have hat := lv_at h k hk
  subst hv
  obtain ⟨ls', e', h'⟩ := lv_store1 (v := .int (x + Int32.ofInt n)) h hn rfl
  subst hl
  intro T hT Y
  obtain ⟨t, a1, b1⟩ := k9 ls' h' T hT Y
  refine ⟨t, ?_, b1⟩
  jvm_step Y.here [Y.here.top, ↓top_set Y.here.top, hexec, hcode, hd, hat, e']
  exact a1
theorem sx_lc : ∀ k : Fin 2, (Int64.ofNat k.1).toInt = ((k.1 : Nat) : Int) := by decide +kernel
theorem sx_cmp1 (i j : Int64) : -1 ≤ (lg_cmp i j).toInt ∧ (lg_cmp i j).toInt ≤ 1 := by
  obtain ⟨s1, s2, s3⟩ := sx_sgn i j
  have m0 : (0 : Int32).toInt = 0 := by decide +kernel
  have m1 : (1 : Int32).toInt = 1 := by decide +kernel
  have m2 : (-1 : Int32).toInt = -1 := by decide +kernel
  rcases Int.lt_trichotomy (i.toInt - j.toInt) 0 with q | q | q
  · rw [s3 q, m2]; omega
  · rw [s2 q, m0]; omega
  · rw [s1 q, m1]; omega
/-- an int comes into a local -/
def sx_il (st : sx_S) (a0 : Nat) (a : sx_A) (hs : List (List (List Int))) : Option (List sx_S × List (List (List Int))) := if a.2.1.isEmpty || sx_wf st.2.2.2.1.length st.2.1 st.2.2.1 st.2.2.2.2.1 st.2.2.2.2.2 then some ([(st.1 + 1, sx_put st.2.1 a0 (0, 0, a.1), st.2.2.1, st.2.2.2.1 ++ a.2.1, st.2.2.2.2.1 ++ a.2.2, st.2.2.2.2.2)], hs) else none
theorem sx_il_ok {a : sx_A} {a0 : Nat} (hp : sx_il (ix, L, S, B, F, G) a0 a hs = some (out, hs')) (k : ∀ t ∈ out, ∀ x1, sx_g p l e R s m args below meth c Q D cl dA T Y kd ad A hh0 Md nL cd t (r ++ x1)) {i : Int32} (ha : sx_aok r a i.toInt) {pc : Nat} (hn : ev_pc cd (ix + 1) = pc) {H : Heap} {locs : List Loc} {ls : Array Slot} {vs : List Value} {lv : List (Nat × Value)} {ws : va_W} {hh : sx_H} (h1 : sx_b B r) (h2 : sx_fs F r) (h3 : sx_gr Y r hh G) (h4 : lv_has ls nL ((a0, .int i) :: lv.filter (fun q => !(q.1 == a0) && !(q.1 + 1 == a0 && q.2.category == 2)))) (h5 : sx_lr r kd ad L lv) (h6 : sx_sr r kd ad S vs) (h7 : sx_wr T kd ad dA ws hh) (h8 : sx_fr Md hh0 hh) (h9 : va_P D cl ws H) (h10 : va_D A ws) (h11 : va_S A s.heap H locs) : W p l e R s m args below meth c H locs 0 0 Q (F0 m pc ls vs) := by
  unfold sx_il at hp
  split at hp
  · next hc =>
    obtain ⟨x1, b1, f1, e1⟩ := ha
    have hp := (Prod.mk.inj (Option.some.inj hp)).1
    subst hp
    have k' := k _ (List.mem_singleton.mpr rfl) x1
    have hw : x1 = [] ∨ sx_wf B.length L S F G = true := by
      rcases Bool.or_eq_true _ _ |>.mp hc with hc | hc
      · have hc := List.isEmpty_iff.mp hc
        rw [hc] at b1
        cases x1 with
        | nil => exact Or.inl rfl
        | cons _ _ => exact b1.elim
      · exact Or.inr hc
    have hF : sx_fs (F ++ a.2.2) (r ++ x1) := fun f hf => by
      rcases List.mem_append.mp hf with hf | hf
      · rcases hw with rfl | hw
        · rw [List.append_nil]; exact h2 f hf
        · unfold sx_wf at hw
          simp only [Bool.and_eq_true] at hw
          exact h2.row (sx_b_len h1) hw.2.2.1 f hf
      · exact f1 f hf
    rcases hw with rfl | hw
    · rw [List.append_nil] at k' hF e1
      exact sx_go k' hn (by have := sx_b_app h1 b1; rwa [List.append_nil] at this) hF h3 h4 (h5.put (sx_vr.it e1)) h6 h7 h8 h9 h10 h11
    · unfold sx_wf at hw
      simp only [Bool.and_eq_true] at hw
      have hl := sx_b_len h1
      exact sx_go k' hn (sx_b_app h1 b1) hF (h3.row hl hw.2.2.2) h4 ((h5.row hl hw.1).put (sx_vr.it e1)) (h6.row hl hw.2.1) h7 h8 h9 h10 h11
  · cases hp
/-- and of longs: a number from 0 on -/
def sx_lg6 (d : Int) : Option Nat := (List.range 63).find? (fun k => decide (((2 ^ k : Nat) : Int) = d))
def sx_lan (st : sx_S) (S1 : List (Nat × Nat × List Int)) (x y : sx_V) (hs : List (List (List Int))) : Option (List sx_S × List (List (List Int))) := match (if y.1 = 4 then sx_cn y.2.2 else none) with
  | some m => if x.1 = 4 ∧ (sx_lg6 (m + 1)).isSome = true ∧ 0 ≤ sx_lo x.2.2 st.2.2.2.1 ∧ sx_hi x.2.2 st.2.2.2.1 ≤ m then some ([(st.1 + 1, st.2.1, x :: S1, st.2.2.2)], hs) else if x.1 = 4 ∧ (sx_lg6 (m + 1)).isSome = true ∧ sx_hi x.2.2 st.2.2.2.1 < 0 ∧ -(m + 1) ≤ sx_lo x.2.2 st.2.2.2.1 then some ([(st.1 + 1, st.2.1, (4, 0, sx_add x.2.2 [m + 1]) :: S1, st.2.2.2)], hs) else if 0 ≤ m ∧ sx_wf st.2.2.2.1.length st.2.1 S1 st.2.2.2.2.1 st.2.2.2.2.2 = true then some ([(st.1 + 1, st.2.1, (4, 0, sx_sy st.2.2.2.1.length) :: S1, st.2.2.2.1 ++ [(0, m)], st.2.2.2.2.1, st.2.2.2.2.2)], hs) else some ([(st.1 + 1, st.2.1, (1, 0, []) :: S1, st.2.2.2)], hs)
  | none => some ([(st.1 + 1, st.2.1, (1, 0, []) :: S1, st.2.2.2)], hs)
theorem sx_landm {i j : Int64} {k : Nat} (hk : k < 63) (hj : j.toInt = ((2 ^ k : Nat) : Int) - 1) : (i &&& j).toInt = i.toInt % ((2 ^ k : Nat) : Int) := by
  have hp : 2 ^ k ≤ 2 ^ 62 := Nat.pow_le_pow_right (by omega) (by omega)
  have hp0 : 0 < 2 ^ k := Nat.pow_pos (by omega)
  have hb : (i &&& j).toBitVec.toNat = i.toBitVec.toNat &&& j.toBitVec.toNat := by rw [Int64.toBitVec_and, BitVec.toNat_and]
  have e1 : j.toInt = if 2 * j.toBitVec.toNat < 2 ^ 64 then (j.toBitVec.toNat : Int) else (j.toBitVec.toNat : Int) - (2 ^ 64 : Nat) := by
    show j.toBitVec.toInt = _
    rw [BitVec.toInt_eq_toNat_cond]
  have l3 : j.toBitVec.toNat < 2 ^ 64 := j.toBitVec.isLt
  have ej : j.toBitVec.toNat = 2 ^ k - 1 := by split at e1 <;> omega
  rw [ej, Nat.and_two_pow_sub_one_eq_mod] at hb
  have hlt : i.toBitVec.toNat % 2 ^ k < 2 ^ k := Nat.mod_lt _ hp0
  have e2 : (i &&& j).toInt = if 2 * (i &&& j).toBitVec.toNat < 2 ^ 64 then ((i &&& j).toBitVec.toNat : Int) else ((i &&& j).toBitVec.toNat : Int) - (2 ^ 64 : Nat) := by
    show (i &&& j).toBitVec.toInt = _
    rw [BitVec.toInt_eq_toNat_cond]
  rw [hb, if_pos (by omega)] at e2
  have e0 : i.toInt = if 2 * i.toBitVec.toNat < 2 ^ 64 then (i.toBitVec.toNat : Int) else (i.toBitVec.toNat : Int) - (2 ^ 64 : Nat) := by
    show i.toBitVec.toInt = _
    rw [BitVec.toInt_eq_toNat_cond]
  rw [e2, e0, Int.natCast_emod]
  split
  · rfl
  · have hd : ((2 ^ k : Nat) : Int) ∣ ((2 ^ 64 : Nat) : Int) := Int.natCast_dvd_natCast.mpr (Nat.pow_dvd_pow 2 (by omega))
    obtain ⟨q, hq⟩ := hd
    rw [hq]
    exact (Int.sub_mul_emod_self_left _ _ _).symm
theorem sx_lg6_ok {d : Int} (h : (sx_lg6 d).isSome = true) : ∃ k : Nat, ((2 ^ k : Nat) : Int) = d ∧ k < 63 := by
  cases hk : sx_lg6 d with
  | none => rw [hk] at h; cases h
  | some k =>
    have h1 := List.find?_some hk
    have h2 := List.mem_of_find?_eq_some hk
    exact ⟨k, of_decide_eq_true h1, List.mem_range.mp h2⟩
theorem sx_land {i j : Int64} (hj : 0 ≤ j.toInt) : 0 ≤ (i &&& j).toInt ∧ (i &&& j).toInt ≤ j.toInt := by
  have hb : (i &&& j).toBitVec.toNat = i.toBitVec.toNat &&& j.toBitVec.toNat := by rw [Int64.toBitVec_and, BitVec.toNat_and]
  have l2 : (i.toBitVec.toNat &&& j.toBitVec.toNat) ≤ j.toBitVec.toNat := Nat.and_le_right
  have e1 : j.toInt = if 2 * j.toBitVec.toNat < 2 ^ 64 then (j.toBitVec.toNat : Int) else (j.toBitVec.toNat : Int) - (2 ^ 64 : Nat) := by
    show j.toBitVec.toInt = _
    rw [BitVec.toInt_eq_toNat_cond]
  have e2 : (i &&& j).toInt = if 2 * (i &&& j).toBitVec.toNat < 2 ^ 64 then ((i &&& j).toBitVec.toNat : Int) else ((i &&& j).toBitVec.toNat : Int) - (2 ^ 64 : Nat) := by
    show (i &&& j).toBitVec.toInt = _
    rw [BitVec.toInt_eq_toNat_cond]
  have l3 : j.toBitVec.toNat < 2 ^ 64 := j.toBitVec.isLt
  rw [hb] at e2
  split at e1 <;> split at e2 <;> omega
theorem sx_lan_ok {x y : sx_V} {i j : Int64} (hp : sx_lan (ix, L, S, B, F, G) S1 x y hs = some (out, hs')) (k : ∀ t ∈ out, ∀ x1, sx_g p l e R s m args below meth c Q D cl dA T Y kd ad A hh0 Md nL cd t (r ++ x1)) (hx : sx_vr r kd ad x (.long i)) (hy : sx_vr r kd ad y (.long j)) {pc : Nat} (hn : ev_pc cd (ix + 1) = pc) {H : Heap} {locs : List Loc} {ls : Array Slot} {vs : List Value} {lv : List (Nat × Value)} {ws : va_W} {hh : sx_H} (h1 : sx_b B r) (h2 : sx_fs F r) (h3 : sx_gr Y r hh G) (h4 : lv_has ls nL lv) (h5 : sx_lr r kd ad L lv) (h6 : sx_sr r kd ad S1 vs) (h7 : sx_wr T kd ad dA ws hh) (h8 : sx_fr Md hh0 hh) (h9 : va_P D cl ws H) (h10 : va_D A ws) (h11 : va_S A s.heap H locs) : W p l e R s m args below meth c H locs 0 0 Q (F0 m pc ls (.long (i &&& j) :: vs)) := by
  unfold sx_lan at hp
  split at hp
  · next m0 hm =>
    have hy4 : y.1 = 4 ∧ sx_cn y.2.2 = some m0 := by
      split at hm
      · next q => exact ⟨q, hm⟩
      · cases hm
    have ej := sx_lform hy hy4.1
    rw [sx_cn_ok hy4.2 r] at ej
    split at hp
    · next hc =>
      have hp := (Prod.mk.inj (Option.some.inj hp)).1
      subst hp
      obtain ⟨c1, c2, c3, c4⟩ := hc
      obtain ⟨kk, p1, p2⟩ := sx_lg6_ok c2
      have e0 := sx_landm (i := i) (j := j) p2 (by omega)
      have ei := sx_lform hx c1
      have a1 := sx_lo_ok (f := x.2.2) h1
      have a2 := sx_hi_ok (f := x.2.2) h1
      dsimp only at c3 c4
      rw [p1, Int.emod_eq_of_lt (by omega) (by omega)] at e0
      exact sx_go (sx_k1 k) hn h1 h2 h3 h4 h5 ⟨Or.inr (Or.inr (Or.inr (Or.inr (Or.inl ⟨c1, _, rfl, by rw [e0]; exact ei⟩)))), h6⟩ h7 h8 h9 h10 h11
    · split at hp
      · next hc =>
        have hp := (Prod.mk.inj (Option.some.inj hp)).1
        subst hp
        obtain ⟨c1, c2, c3, c4⟩ := hc
        obtain ⟨kk, p1, p2⟩ := sx_lg6_ok c2
        have e0 := sx_landm (i := i) (j := j) p2 (by omega)
        have ei := sx_lform hx c1
        have a1 := sx_lo_ok (f := x.2.2) h1
        have a2 := sx_hi_ok (f := x.2.2) h1
        dsimp only at c3 c4
        have q1 : (i.toInt + (m0 + 1)) % (m0 + 1) = i.toInt + (m0 + 1) := Int.emod_eq_of_lt (by omega) (by omega)
        rw [Int.add_emod_right, ← p1, ← e0] at q1
        exact sx_go (sx_k1 k) hn h1 h2 h3 h4 h5 ⟨sx_vr.ll (by rw [sx_ev_add, sx_ev_c, q1, ← ei]; omega), h6⟩ h7 h8 h9 h10 h11
      · split at hp
        · next hc =>
          have hp := (Prod.mk.inj (Option.some.inj hp)).1
          subst hp
          have hl := sx_land (i := i) (j := j) (by omega)
          have k' := k _ (List.mem_singleton.mpr rfl) [(i &&& j).toInt]
          refine sx_gon (ys := [.long (i &&& j)]) (S2 := [(4, 0, sx_sy B.length)]) (F1 := []) (B1 := [(0, m0)]) (Or.inr hc.2) (sx_b_one hl.1 (by omega)) (fun _ h => by cases h) ⟨sx_vr.ll (sx_ev_sy (by rw [sx_b_len h1, List.getElem?_append_right (Nat.le_refl _)]; simp)).symm, trivial⟩ (by rw [List.append_nil]; exact k') hn h1 h2 h3 h4 h5 h6 h7 h8 h9 h10 h11
        · have hp := (Prod.mk.inj (Option.some.inj hp)).1
          subst hp
          exact sx_go (sx_k1 k) hn h1 h2 h3 h4 h5 ⟨sx_vr.lg _ _ _, h6⟩ h7 h8 h9 h10 h11
  · have hp := (Prod.mk.inj (Option.some.inj hp)).1
    subst hp
    exact sx_go (sx_k1 k) hn h1 h2 h3 h4 h5 ⟨sx_vr.lg _ _ _, h6⟩ h7 h8 h9 h10 h11
/-- the quotient of longs -/
def sx_ldv (st : sx_S) (S1 : List (Nat × Nat × List Int)) (x : sx_V) (d : Int) (hs : List (List (List Int))) : Option (List sx_S × List (List (List Int))) := if x.1 = 4 ∧ 0 ≤ sx_lo x.2.2 st.2.2.2.1 ∧ x.2.2.length ≤ st.2.2.2.1.length + 1 ∧ sx_wf st.2.2.2.1.length st.2.1 S1 st.2.2.2.2.1 st.2.2.2.2.2 = true then some ([(st.1 + 1, st.2.1, (4, 0, sx_sy st.2.2.2.1.length) :: S1, st.2.2.2.1 ++ (sx_quo st.2.2.2.1 x.2.2 d).1, st.2.2.2.2.1 ++ (sx_quo st.2.2.2.1 x.2.2 d).2, st.2.2.2.2.2)], hs) else some ([(st.1 + 1, st.2.1, (1, 0, []) :: S1, st.2.2.2)], hs)
theorem sx_div6 {i j : Int64} (hi : 0 ≤ i.toInt) (hj : 0 < j.toInt) : (i / j).toInt = i.toInt / j.toInt := by
  rw [Int64.toInt_div, Int.tdiv_eq_ediv_of_nonneg hi]
  have h1 := Int.ediv_nonneg hi (Int.le_of_lt hj)
  have h2 := Int.ediv_le_self j.toInt hi
  have h3 := Int64.toInt_lt i
  exact Int.bmod_eq_of_le (by omega) (by omega)
theorem sx_ldv_ok {x : sx_V} {i j : Int64} (hp : sx_ldv (ix, L, S, B, F, G) S1 x j.toInt hs = some (out, hs')) (hj : 0 < j.toInt) (k : ∀ t ∈ out, ∀ x1, sx_g p l e R s m args below meth c Q D cl dA T Y kd ad A hh0 Md nL cd t (r ++ x1)) (hx : sx_vr r kd ad x (.long i)) {pc : Nat} (hn : ev_pc cd (ix + 1) = pc) {H : Heap} {locs : List Loc} {ls : Array Slot} {vs : List Value} {lv : List (Nat × Value)} {ws : va_W} {hh : sx_H} (h1 : sx_b B r) (h2 : sx_fs F r) (h3 : sx_gr Y r hh G) (h4 : lv_has ls nL lv) (h5 : sx_lr r kd ad L lv) (h6 : sx_sr r kd ad S1 vs) (h7 : sx_wr T kd ad dA ws hh) (h8 : sx_fr Md hh0 hh) (h9 : va_P D cl ws H) (h10 : va_D A ws) (h11 : va_S A s.heap H locs) : W p l e R s m args below meth c H locs 0 0 Q (F0 m pc ls (.long (i / j) :: vs)) := by
  unfold sx_ldv at hp
  split at hp
  · next hc =>
    have hp := (Prod.mk.inj (Option.some.inj hp)).1
    subst hp
    obtain ⟨c1, c2, c3, c4⟩ := hc
    have ei := sx_lform hx c1
    have a1 := sx_lo_ok (f := x.2.2) h1
    dsimp only at c2 c3 c4
    obtain ⟨q1, q2, q3, q4⟩ := sx_quo_ok h1 (d := j.toInt) (z := i.toInt) hj c3 ei
    have k' := k _ (List.mem_singleton.mpr rfl) [i.toInt / j.toInt]
    exact sx_gon (ys := [.long (i / j)]) (S2 := [(4, 0, sx_sy B.length)]) (Or.inr c4) q1 q2 ⟨sx_vr.ll (by rw [q3]; exact sx_div6 (by omega) hj), trivial⟩ k' hn h1 h2 h3 h4 h5 h6 h7 h8 h9 h10 h11
  · have hp := (Prod.mk.inj (Option.some.inj hp)).1
    subst hp
    exact sx_go (sx_k1 k) hn h1 h2 h3 h4 h5 ⟨sx_vr.lg _ _ _, h6⟩ h7 h8 h9 h10 h11
def sx_o1 (i : ev_I) (st : sx_S) (hs : List (List (List Int))) : Option (List sx_S × List (List (List Int))) := some ([(st.1 + 1, st.2.1, (0, 0, [(i.2.2.1 : Int) - 2147483648]) :: st.2.2.1, st.2.2.2)], hs)
def sx_o2 (i : ev_I) (st : sx_S) (hs : List (List (List Int))) : Option (List sx_S × List (List (List Int))) := some ([(st.1 + 1, st.2.1, (0, 0, [(i.2.2.1 : Int) - 2147483648]) :: st.2.2.1, st.2.2.2)], hs)
def sx_o3 (i : ev_I) (st : sx_S) (hs : List (List (List Int))) : Option (List sx_S × List (List (List Int))) := some ([(st.1 + 1, st.2.1, (0, 0, [(i.2.2.1 : Int) - 2147483648]) :: st.2.2.1, st.2.2.2)], hs)
def sx_o4 (i : ev_I) (st : sx_S) (hs : List (List (List Int))) : Option (List sx_S × List (List (List Int))) := some ([(st.1 + 1, st.2.1, (0, 0, [(i.2.2.1 : Int) - 2147483648]) :: st.2.2.1, st.2.2.2)], hs)
def sx_o5 (i : ev_I) (st : sx_S) (hs : List (List (List Int))) : Option (List sx_S × List (List (List Int))) := some ([(st.1 + 1, st.2.1, (0, 0, [(i.2.2.1 : Int) - 2147483648]) :: st.2.2.1, st.2.2.2)], hs)
def sx_o6 (i : ev_I) (st : sx_S) (hs : List (List (List Int))) : Option (List sx_S × List (List (List Int))) := match sx_get st.2.1 i.2.2.1 with
    | some v => if v.1 = 0 ∨ v.1 = 5 then some ([(st.1 + 1, st.2.1, v :: st.2.2.1, st.2.2.2)], hs) else none
    | none => none
def sx_o7 (i : ev_I) (st : sx_S) (hs : List (List (List Int))) : Option (List sx_S × List (List (List Int))) := match sx_get st.2.1 i.2.2.1 with
    | some v => if v.1 = 0 ∨ v.1 = 5 then some ([(st.1 + 1, st.2.1, v :: st.2.2.1, st.2.2.2)], hs) else none
    | none => none
def sx_o8 (i : ev_I) (st : sx_S) (hs : List (List (List Int))) : Option (List sx_S × List (List (List Int))) := match sx_get st.2.1 i.2.2.1 with
    | some v => if v.1 = 2 then some ([(st.1 + 1, st.2.1, v :: st.2.2.1, st.2.2.2)], hs) else none
    | none => none
def sx_o9 (i : ev_I) (st : sx_S) (hs : List (List (List Int))) : Option (List sx_S × List (List (List Int))) := match sx_get st.2.1 i.2.2.1 with
    | some v => if v.1 = 2 then some ([(st.1 + 1, st.2.1, v :: st.2.2.1, st.2.2.2)], hs) else none
    | none => none
def sx_o10 (i : ev_I) (st : sx_S) (hs : List (List (List Int))) : Option (List sx_S × List (List (List Int))) := match st.2.2.1 with
    | v :: S1 => if v.1 = 0 ∨ v.1 = 5 then some ([(st.1 + 1, sx_put st.2.1 i.2.2.1 v, S1, st.2.2.2)], hs) else none
    | [] => none
def sx_o11 (i : ev_I) (st : sx_S) (hs : List (List (List Int))) : Option (List sx_S × List (List (List Int))) := match st.2.2.1 with
    | v :: S1 => if v.1 = 0 ∨ v.1 = 5 then some ([(st.1 + 1, sx_put st.2.1 i.2.2.1 v, S1, st.2.2.2)], hs) else none
    | [] => none
def sx_o12 (i : ev_I) (st : sx_S) (hs : List (List (List Int))) : Option (List sx_S × List (List (List Int))) := match st.2.2.1 with
    | v :: S1 => if v.1 = 2 then some ([(st.1 + 1, sx_put st.2.1 i.2.2.1 v, S1, st.2.2.2)], hs) else none
    | [] => none
def sx_o13 (i : ev_I) (st : sx_S) (hs : List (List (List Int))) : Option (List sx_S × List (List (List Int))) := match st.2.2.1 with
    | v :: S1 => if v.1 = 2 then some ([(st.1 + 1, sx_put st.2.1 i.2.2.1 v, S1, st.2.2.2)], hs) else none
    | [] => none
def sx_o14 (i : ev_I) (st : sx_S) (hs : List (List (List Int))) : Option (List sx_S × List (List (List Int))) := match sx_get st.2.1 i.2.2.1 with
    | some v => if v.1 = 0 then sx_il st i.2.2.1 (sx_fadd st.2.2.2.1 v.2.2 [(i.2.2.2.1 : Int) - 2147483648]) hs else none
    | none => none
def sx_o15 (i : ev_I) (st : sx_S) (hs : List (List (List Int))) : Option (List sx_S × List (List (List Int))) := match st.2.2.1 with
    | y :: x :: S1 => if x.1 = 0 ∧ y.1 = 0 then sx_pu st S1 (sx_fadd st.2.2.2.1 x.2.2 y.2.2) hs else none
    | _ => none
def sx_o16 (i : ev_I) (st : sx_S) (hs : List (List (List Int))) : Option (List sx_S × List (List (List Int))) := match st.2.2.1 with
    | y :: x :: S1 => if x.1 = 0 ∧ y.1 = 0 then sx_pu st S1 (sx_fsub st.2.2.2.1 x.2.2 y.2.2) hs else none
    | _ => none
def sx_o17 (i : ev_I) (st : sx_S) (hs : List (List (List Int))) : Option (List sx_S × List (List (List Int))) := match st.2.2.1 with
    | y :: x :: S1 => if x.1 = 0 ∧ y.1 = 0 then sx_pu st S1 (sx_fmul st.2.2.2.1 x.2.2 y.2.2) hs else none
    | _ => none
def sx_o18 (i : ev_I) (st : sx_S) (hs : List (List (List Int))) : Option (List sx_S × List (List (List Int))) := match st.2.2.1 with
    | y :: x :: S1 => if x.1 = 0 ∧ y.1 = 0 then sx_pu st S1 (sx_fand st.2.2.2.1 x.2.2 y.2.2) hs else none
    | _ => none
def sx_o19 (i : ev_I) (st : sx_S) (hs : List (List (List Int))) : Option (List sx_S × List (List (List Int))) := match st.2.2.1 with
    | y :: x :: S1 => if x.1 = 0 ∧ y.1 = 0 then (match sx_foh st.2.2.2.1 st.2.2.2.2.1 x.2.2 y.2.2 hs with
      | some (a9, hs1) => sx_pu st S1 a9 hs1
      | none => none) else none
    | _ => none
def sx_o20 (i : ev_I) (st : sx_S) (hs : List (List (List Int))) : Option (List sx_S × List (List (List Int))) := match st.2.2.1 with
    | y :: x :: S1 => if x.1 = 0 ∧ y.1 = 0 then sx_pu st S1 (sx_for st.2.2.2.1 x.2.2 y.2.2) hs else none
    | _ => none
def sx_o21 (i : ev_I) (st : sx_S) (hs : List (List (List Int))) : Option (List sx_S × List (List (List Int))) := match st.2.2.1 with
    | y :: x :: S1 => if x.1 = 0 ∧ y.1 = 0 then sx_pu st S1 (sx_fshl st.2.2.2.1 x.2.2 y.2.2) hs else none
    | _ => none
def sx_o22 (i : ev_I) (st : sx_S) (hs : List (List (List Int))) : Option (List sx_S × List (List (List Int))) := match st.2.2.1 with
    | v :: S1 => if sx_l v = false then some ([(st.1 + 1, st.2.1, v :: v :: S1, st.2.2.2)], hs) else none
    | [] => none
def sx_o23 (i : ev_I) (st : sx_S) (hs : List (List (List Int))) : Option (List sx_S × List (List (List Int))) := match st.2.2.1 with
    | v :: S1 => if sx_l v = false then some ([(st.1 + 1, st.2.1, S1, st.2.2.2)], hs) else none
    | [] => none
def sx_o24 (i : ev_I) (st : sx_S) (hs : List (List (List Int))) : Option (List sx_S × List (List (List Int))) := match st.2.2.1 with
    | u :: v :: S1 => if sx_l u = false ∧ sx_l v = false then some ([(st.1 + 1, st.2.1, u :: v :: u :: v :: S1, st.2.2.2)], hs) else none
    | _ => none
def sx_o25 (i : ev_I) (st : sx_S) (hs : List (List (List Int))) : Option (List sx_S × List (List (List Int))) := some ([(i.2.2.1, st.2)], hs)
def sx_o26 (i : ev_I) (st : sx_S) (hs : List (List (List Int))) : Option (List sx_S × List (List (List Int))) := match st.2.2.1 with
    | y :: x :: S1 => if x.1 = 0 ∧ y.1 = 0 then (match sx_cfh i.2.2.2.2.2.1 (sx_sub x.2.2 y.2.2) st.2.2.2.1 st.2.2.2.2.1 hs with
      | some (f1, hs1) => (match sx_cfh (ev_ng i.2.2.2.2.2.1) (sx_sub x.2.2 y.2.2) st.2.2.2.1 st.2.2.2.2.1 hs1 with
        | some (f2, hs2) => some (sx_br i.2.2.1 st.2.1 S1 st.2.2.2.1 st.2.2.2.2.1 st.2.2.2.2.2 f1 ++ sx_br (st.1 + 1) st.2.1 S1 st.2.2.2.1 st.2.2.2.2.1 st.2.2.2.2.2 f2, hs2)
        | none => none)
      | none => none) else none
    | _ => none
def sx_o27 (i : ev_I) (st : sx_S) (hs : List (List (List Int))) : Option (List sx_S × List (List (List Int))) := match st.2.2.1 with
    | x :: S1 => if x.1 = 0 ∨ x.1 = 5 then (match sx_cfh i.2.2.2.2.2.1 x.2.2 st.2.2.2.1 st.2.2.2.2.1 hs with
      | some (f1, hs1) => (match sx_cfh (ev_ng i.2.2.2.2.2.1) x.2.2 st.2.2.2.1 st.2.2.2.2.1 hs1 with
        | some (f2, hs2) => some (sx_br i.2.2.1 st.2.1 S1 st.2.2.2.1 st.2.2.2.2.1 st.2.2.2.2.2 f1 ++ sx_br (st.1 + 1) st.2.1 S1 st.2.2.2.1 st.2.2.2.2.1 st.2.2.2.2.2 f2, hs2)
        | none => none)
      | none => none) else none
    | _ => none
def sx_o36 (i : ev_I) (st : sx_S) (hs : List (List (List Int))) : Option (List sx_S × List (List (List Int))) := match sx_get st.2.1 i.2.2.1 with
    | some v => if v.1 = 1 ∨ v.1 = 4 then some ([(st.1 + 1, st.2.1, v :: st.2.2.1, st.2.2.2)], hs) else none
    | none => none
def sx_o37 (i : ev_I) (st : sx_S) (hs : List (List (List Int))) : Option (List sx_S × List (List (List Int))) := match sx_get st.2.1 i.2.2.1 with
    | some v => if v.1 = 1 ∨ v.1 = 4 then some ([(st.1 + 1, st.2.1, v :: st.2.2.1, st.2.2.2)], hs) else none
    | none => none
def sx_o38 (i : ev_I) (st : sx_S) (hs : List (List (List Int))) : Option (List sx_S × List (List (List Int))) := match st.2.2.1 with
    | v :: S1 => if v.1 = 1 ∨ v.1 = 4 then some ([(st.1 + 1, sx_put2 st.2.1 i.2.2.1 v, S1, st.2.2.2)], hs) else none
    | [] => none
def sx_o39 (i : ev_I) (st : sx_S) (hs : List (List (List Int))) : Option (List sx_S × List (List (List Int))) := match st.2.2.1 with
    | v :: S1 => if v.1 = 1 ∨ v.1 = 4 then some ([(st.1 + 1, sx_put2 st.2.1 i.2.2.1 v, S1, st.2.2.2)], hs) else none
    | [] => none
def sx_o44 (i : ev_I) (st : sx_S) (hs : List (List (List Int))) : Option (List sx_S × List (List (List Int))) := some ([(st.1 + 1, st.2.1, (4, 0, [(i.2.2.1 % 2 : Nat)]) :: st.2.2.1, st.2.2.2)], hs)
def sx_o47 (i : ev_I) (st : sx_S) (hs : List (List (List Int))) : Option (List sx_S × List (List (List Int))) := some ([(st.1 + 1, st.2.1, (4, 0, [(Int64.ofNat i.2.2.1).toInt]) :: st.2.2.1, st.2.2.2)], hs)
def sx_o66 (i : ev_I) (st : sx_S) (hs : List (List (List Int))) : Option (List sx_S × List (List (List Int))) := match st.2.2.1 with
    | y :: x :: S1 => if (x.1 = 1 ∨ x.1 = 4) ∧ (y.1 = 1 ∨ y.1 = 4) then some ([(st.1 + 1, st.2.1, sx_ladd st.2.2.2.1 x y :: S1, st.2.2.2)], hs) else none
    | _ => none
def sx_o67 (i : ev_I) (st : sx_S) (hs : List (List (List Int))) : Option (List sx_S × List (List (List Int))) := match st.2.2.1 with
    | y :: x :: S1 => if (x.1 = 1 ∨ x.1 = 4) ∧ (y.1 = 1 ∨ y.1 = 4) then some ([(st.1 + 1, st.2.1, sx_lsub st.2.2.2.1 x y :: S1, st.2.2.2)], hs) else none
    | _ => none
def sx_o68 (i : ev_I) (st : sx_S) (hs : List (List (List Int))) : Option (List sx_S × List (List (List Int))) := match st.2.2.1 with
    | y :: x :: S1 => if (x.1 = 1 ∨ x.1 = 4) ∧ (y.1 = 1 ∨ y.1 = 4) then some ([(st.1 + 1, st.2.1, sx_lmul st.2.2.2.1 x y :: S1, st.2.2.2)], hs) else none
    | _ => none
def sx_o69 (i : ev_I) (st : sx_S) (hs : List (List (List Int))) : Option (List sx_S × List (List (List Int))) := match st.2.2.1 with
    | y :: x :: S1 => if (x.1 = 1 ∨ x.1 = 4) ∧ (y.1 = 1 ∨ y.1 = 4) then sx_lan st S1 x y hs else none
    | _ => none
def sx_o70 (i : ev_I) (st : sx_S) (hs : List (List (List Int))) : Option (List sx_S × List (List (List Int))) := match st.2.2.1 with
    | y :: x :: S1 => if (x.1 = 1 ∨ x.1 = 4) ∧ (y.1 = 1 ∨ y.1 = 4) then some ([(st.1 + 1, st.2.1, (1, 0, []) :: S1, st.2.2.2)], hs) else none
    | _ => none
def sx_o71 (i : ev_I) (st : sx_S) (hs : List (List (List Int))) : Option (List sx_S × List (List (List Int))) := match st.2.2.1 with
    | y :: x :: S1 => if (x.1 = 1 ∨ x.1 = 4) ∧ (y.1 = 1 ∨ y.1 = 4) then some ([(st.1 + 1, st.2.1, (1, 0, []) :: S1, st.2.2.2)], hs) else none
    | _ => none
def sx_o72 (i : ev_I) (st : sx_S) (hs : List (List (List Int))) : Option (List sx_S × List (List (List Int))) := match st.2.2.1 with
    | y :: x :: S1 => if (x.1 = 1 ∨ x.1 = 4) ∧ y.1 = 0 then some ([(st.1 + 1, st.2.1, (1, 0, []) :: S1, st.2.2.2)], hs) else none
    | _ => none
def sx_o73 (i : ev_I) (st : sx_S) (hs : List (List (List Int))) : Option (List sx_S × List (List (List Int))) := match st.2.2.1 with
    | y :: x :: S1 => if (x.1 = 1 ∨ x.1 = 4) ∧ y.1 = 0 then some ([(st.1 + 1, st.2.1, (1, 0, []) :: S1, st.2.2.2)], hs) else none
    | _ => none
def sx_o74 (i : ev_I) (st : sx_S) (hs : List (List (List Int))) : Option (List sx_S × List (List (List Int))) := match st.2.2.1 with
    | y :: x :: S1 => if (x.1 = 1 ∨ x.1 = 4) ∧ y.1 = 0 then some ([(st.1 + 1, st.2.1, (1, 0, []) :: S1, st.2.2.2)], hs) else none
    | _ => none
def sx_o75 (i : ev_I) (st : sx_S) (hs : List (List (List Int))) : Option (List sx_S × List (List (List Int))) := match st.2.2.1 with
    | y :: x :: S1 => if (x.1 = 1 ∨ x.1 = 4) ∧ (y.1 = 1 ∨ y.1 = 4) then (if x.1 = 4 ∧ y.1 = 4 then some ([(st.1 + 1, st.2.1, (5, 0, sx_sub x.2.2 y.2.2) :: S1, st.2.2.2)], hs) else sx_pu st S1 (sx_new st.2.2.2.1 (-1) 1) hs) else none
    | _ => none
def sx_o76 (i : ev_I) (st : sx_S) (hs : List (List (List Int))) : Option (List sx_S × List (List (List Int))) := match st.2.2.1 with
    | x :: S1 => if x.1 = 0 then some ([(st.1 + 1, st.2.1, (4, 0, x.2.2) :: S1, st.2.2.2)], hs) else none
    | _ => none
def sx_o77 (i : ev_I) (st : sx_S) (hs : List (List (List Int))) : Option (List sx_S × List (List (List Int))) := match st.2.2.1 with
    | x :: S1 => if x.1 = 4 then sx_pu st S1 (sx_keep st.2.2.2.1 x.2.2) hs else if x.1 = 1 then sx_pu st S1 (sx_fullA st.2.2.2.1) hs else none
    | _ => none
def sx_o78 (i : ev_I) (st : sx_S) (hs : List (List (List Int))) : Option (List sx_S × List (List (List Int))) := match st.2.2.1 with
    | x :: S1 => if x.1 = 0 then sx_pu st S1 (sx_fi2b st.2.2.2.1 x.2.2) hs else none
    | _ => none
def sx_o79 (i : ev_I) (st : sx_S) (hs : List (List (List Int))) : Option (List sx_S × List (List (List Int))) := match st.2.2.1 with
    | y :: x :: S1 => if x.1 = 0 ∧ y.1 = 0 ∧ 0 < sx_lo y.2.2 st.2.2.2.1 then sx_pu st S1 (sx_fdiv st.2.2.2.1 x.2.2 y.2.2) hs else none
    | _ => none
def sx_o80 (i : ev_I) (st : sx_S) (hs : List (List (List Int))) : Option (List sx_S × List (List (List Int))) := match st.2.2.1 with
    | y :: x :: S1 => if x.1 = 0 ∧ y.1 = 0 ∧ 0 < sx_lo y.2.2 st.2.2.2.1 then sx_pu st S1 (sx_frem st.2.2.2.1 x.2.2 y.2.2) hs else none
    | _ => none
def sx_o81 (i : ev_I) (st : sx_S) (hs : List (List (List Int))) : Option (List sx_S × List (List (List Int))) := match st.2.2.1 with
    | y :: x :: S1 => if x.1 = 0 ∧ y.1 = 0 then sx_pu st S1 (sx_fshr st.2.2.2.1 x.2.2 y.2.2) hs else none
    | _ => none
def sx_o82 (i : ev_I) (st : sx_S) (hs : List (List (List Int))) : Option (List sx_S × List (List (List Int))) := match st.2.2.1 with
    | y :: x :: S1 => if x.1 = 0 ∧ y.1 = 0 then sx_pu st S1 (sx_fushr st.2.2.2.1 x.2.2 y.2.2) hs else none
    | _ => none
def sx_o83 (i : ev_I) (st : sx_S) (hs : List (List (List Int))) : Option (List sx_S × List (List (List Int))) := match sx_get st.2.1 i.2.2.1 with
    | some v => if v.1 = 0 then sx_il st i.2.2.1 (sx_fadd st.2.2.2.1 v.2.2 [(i.2.2.2.1 : Int) - 2147483648]) hs else none
    | none => none
def sx_o87 (i : ev_I) (st : sx_S) (hs : List (List (List Int))) : Option (List sx_S × List (List (List Int))) := match st.2.2.1 with
    | x :: S1 => if x.1 = 0 then sx_pu st S1 (sx_fi2s st.2.2.2.1 x.2.2) hs else none
    | _ => none
def sx_o88 (i : ev_I) (st : sx_S) (hs : List (List (List Int))) : Option (List sx_S × List (List (List Int))) := match st.2.2.1 with
    | y :: x :: S1 => if (x.1 = 1 ∨ x.1 = 4) ∧ y.1 = 4 then (match sx_cn y.2.2 with
      | some d => if 0 < d then sx_ldv st S1 x d hs else none
      | none => none) else none
    | _ => none
def sx_o89 (i : ev_I) (st : sx_S) (hs : List (List (List Int))) : Option (List sx_S × List (List (List Int))) := match st.2.2.1 with
    | x :: S1 => if x.1 = 1 ∨ x.1 = 4 then some ([(st.1 + 1, st.2.1, (1, 0, []) :: S1, st.2.2.2)], hs) else none
    | _ => none
theorem sx_p1 (X : sx_X p s m args c D cl dA kt T tt kd ad A Gs own cc nL) (hGc : ∀ (h : Nat) (w : Cond), ev_hg Gc h = some w → w ∈ Gs) (hT : ev_okD Gs cl Ct Pg) (hok : ev_k1 Gc Ct kt Pg sm own nm cc nL ret cd st.1 i = true) (h : sx_o1 i st hs = some (out, hs')) (k : ∀ t ∈ out, ∀ x1, sx_g p l e R s m args below meth c Q D cl dA T Y kd ad A hh0 Md nL cd t (r ++ x1)) : sx_g p l e R s m args below meth c Q D cl dA T Y kd ad A hh0 Md nL cd st r := by
  obtain ⟨ix, L, S, B, F, G⟩ := st
  have X0 := X.1
  unfold ev_k1 at hok
  simp only [Bool.and_eq_true, decide_eq_true_eq] at hok
  unfold sx_o1 at h
  try dsimp only at hok
  obtain ⟨rfl, rfl⟩ := Prod.mk.inj (Option.some.inj h)
  have k1 := sx_k1 k
  intro H locs ls vs lv ws hh h1 h2 h3 h4 h5 h6 h7 h8 h9 h10 h11
  exact lv_iconst X0.1.1 X0.1.2.1 hok.1.1 rfl (sx_go k1 hok.1.2 h1 h2 h3 h4 h5 ⟨sx_vr.it (by rw [sx_ev_c, ← hok.2, ev_sx_eq]; omega), h6⟩ h7 h8 h9 h10 h11)
theorem sx_p2 (X : sx_X p s m args c D cl dA kt T tt kd ad A Gs own cc nL) (hGc : ∀ (h : Nat) (w : Cond), ev_hg Gc h = some w → w ∈ Gs) (hT : ev_okD Gs cl Ct Pg) (hok : ev_k2 Gc Ct kt Pg sm own nm cc nL ret cd st.1 i = true) (h : sx_o2 i st hs = some (out, hs')) (k : ∀ t ∈ out, ∀ x1, sx_g p l e R s m args below meth c Q D cl dA T Y kd ad A hh0 Md nL cd t (r ++ x1)) : sx_g p l e R s m args below meth c Q D cl dA T Y kd ad A hh0 Md nL cd st r := by
  obtain ⟨ix, L, S, B, F, G⟩ := st
  have X0 := X.1
  unfold ev_k2 at hok
  simp only [Bool.and_eq_true, decide_eq_true_eq] at hok
  unfold sx_o2 at h
  try dsimp only at hok
  obtain ⟨rfl, rfl⟩ := Prod.mk.inj (Option.some.inj h)
  have k1 := sx_k1 k
  intro H locs ls vs lv ws hh h1 h2 h3 h4 h5 h6 h7 h8 h9 h10 h11
  exact lv_bipush X0.1.1 X0.1.2.1 hok.1.1 rfl (sx_go k1 hok.1.2 h1 h2 h3 h4 h5 ⟨sx_vr.it (by rw [sx_ev_c, ← hok.2, ev_sx_eq]; omega), h6⟩ h7 h8 h9 h10 h11)
theorem sx_p3 (X : sx_X p s m args c D cl dA kt T tt kd ad A Gs own cc nL) (hGc : ∀ (h : Nat) (w : Cond), ev_hg Gc h = some w → w ∈ Gs) (hT : ev_okD Gs cl Ct Pg) (hok : ev_k3 Gc Ct kt Pg sm own nm cc nL ret cd st.1 i = true) (h : sx_o3 i st hs = some (out, hs')) (k : ∀ t ∈ out, ∀ x1, sx_g p l e R s m args below meth c Q D cl dA T Y kd ad A hh0 Md nL cd t (r ++ x1)) : sx_g p l e R s m args below meth c Q D cl dA T Y kd ad A hh0 Md nL cd st r := by
  obtain ⟨ix, L, S, B, F, G⟩ := st
  have X0 := X.1
  unfold ev_k3 at hok
  simp only [Bool.and_eq_true, decide_eq_true_eq] at hok
  unfold sx_o3 at h
  try dsimp only at hok
  obtain ⟨rfl, rfl⟩ := Prod.mk.inj (Option.some.inj h)
  have k1 := sx_k1 k
  intro H locs ls vs lv ws hh h1 h2 h3 h4 h5 h6 h7 h8 h9 h10 h11
  exact lv_sipush X0.1.1 X0.1.2.1 hok.1.1 rfl (sx_go k1 hok.1.2 h1 h2 h3 h4 h5 ⟨sx_vr.it (by rw [sx_ev_c, ← hok.2, ev_sx_eq]; omega), h6⟩ h7 h8 h9 h10 h11)
theorem sx_p4 (X : sx_X p s m args c D cl dA kt T tt kd ad A Gs own cc nL) (hGc : ∀ (h : Nat) (w : Cond), ev_hg Gc h = some w → w ∈ Gs) (hT : ev_okD Gs cl Ct Pg) (hok : ev_k4 Gc Ct kt Pg sm own nm cc nL ret cd st.1 i = true) (h : sx_o4 i st hs = some (out, hs')) (k : ∀ t ∈ out, ∀ x1, sx_g p l e R s m args below meth c Q D cl dA T Y kd ad A hh0 Md nL cd t (r ++ x1)) : sx_g p l e R s m args below meth c Q D cl dA T Y kd ad A hh0 Md nL cd st r := by
  obtain ⟨ix, L, S, B, F, G⟩ := st
  have X0 := X.1
  unfold ev_k4 at hok
  simp only [Bool.and_eq_true, decide_eq_true_eq] at hok
  unfold sx_o4 at h
  try dsimp only at hok
  obtain ⟨rfl, rfl⟩ := Prod.mk.inj (Option.some.inj h)
  have k1 := sx_k1 k
  intro H locs ls vs lv ws hh h1 h2 h3 h4 h5 h6 h7 h8 h9 h10 h11
  exact lv_ldc X0.1.1 X0.1.2.1 X0.1.2.2.2.1 (X0.1.2.2.2.2 _ (hGc _ _ hok.1.2)) hok.1.1.1 (sx_go k1 hok.1.1.2 h1 h2 h3 h4 h5 ⟨sx_vr.it (by have hq := ev_sx_eq (ev_un i.2.2.1); rw [hok.2] at hq; rw [sx_ev_c]; omega), h6⟩ h7 h8 h9 h10 h11)
theorem sx_p5 (X : sx_X p s m args c D cl dA kt T tt kd ad A Gs own cc nL) (hGc : ∀ (h : Nat) (w : Cond), ev_hg Gc h = some w → w ∈ Gs) (hT : ev_okD Gs cl Ct Pg) (hok : ev_k5 Gc Ct kt Pg sm own nm cc nL ret cd st.1 i = true) (h : sx_o5 i st hs = some (out, hs')) (k : ∀ t ∈ out, ∀ x1, sx_g p l e R s m args below meth c Q D cl dA T Y kd ad A hh0 Md nL cd t (r ++ x1)) : sx_g p l e R s m args below meth c Q D cl dA T Y kd ad A hh0 Md nL cd st r := by
  obtain ⟨ix, L, S, B, F, G⟩ := st
  have X0 := X.1
  unfold ev_k5 at hok
  simp only [Bool.and_eq_true, decide_eq_true_eq] at hok
  unfold sx_o5 at h
  try dsimp only at hok
  obtain ⟨rfl, rfl⟩ := Prod.mk.inj (Option.some.inj h)
  have k1 := sx_k1 k
  intro H locs ls vs lv ws hh h1 h2 h3 h4 h5 h6 h7 h8 h9 h10 h11
  exact lv_ldcw X0.1.1 X0.1.2.1 X0.1.2.2.2.1 (X0.1.2.2.2.2 _ (hGc _ _ hok.1.2)) hok.1.1.1 (sx_go k1 hok.1.1.2 h1 h2 h3 h4 h5 ⟨sx_vr.it (by have hq := ev_sx_eq (ev_un i.2.2.1); rw [hok.2] at hq; rw [sx_ev_c]; omega), h6⟩ h7 h8 h9 h10 h11)
theorem sx_p6 (X : sx_X p s m args c D cl dA kt T tt kd ad A Gs own cc nL) (hGc : ∀ (h : Nat) (w : Cond), ev_hg Gc h = some w → w ∈ Gs) (hT : ev_okD Gs cl Ct Pg) (hok : ev_k6 Gc Ct kt Pg sm own nm cc nL ret cd st.1 i = true) (h : sx_o6 i st hs = some (out, hs')) (k : ∀ t ∈ out, ∀ x1, sx_g p l e R s m args below meth c Q D cl dA T Y kd ad A hh0 Md nL cd t (r ++ x1)) : sx_g p l e R s m args below meth c Q D cl dA T Y kd ad A hh0 Md nL cd st r := by
  obtain ⟨ix, L, S, B, F, G⟩ := st
  have X0 := X.1
  unfold ev_k6 at hok
  simp only [Bool.and_eq_true, decide_eq_true_eq] at hok
  unfold sx_o6 at h
  try dsimp only at hok
  split at h
  · next v hg =>
    split at h
    · next hv =>
      obtain ⟨rfl, rfl⟩ := Prod.mk.inj (Option.some.inj h)
      have k1 := sx_k1 k
      intro H locs ls vs lv ws hh h1 h2 h3 h4 h5 h6 h7 h8 h9 h10 h11
      obtain ⟨j, x, hj, hx⟩ := h5.get hg
      obtain ⟨i9, rfl⟩ := hx.int5 hv
      exact lv_iload_n X0.1.1 X0.1.2.1 hok.1.1 (Nat.mod_eq_of_lt hok.2) (lv_at h4 j hj) (sx_go k1 hok.1.2 h1 h2 h3 h4 h5 ⟨hx, h6⟩ h7 h8 h9 h10 h11)
    · cases h
  · cases h
theorem sx_p7 (X : sx_X p s m args c D cl dA kt T tt kd ad A Gs own cc nL) (hGc : ∀ (h : Nat) (w : Cond), ev_hg Gc h = some w → w ∈ Gs) (hT : ev_okD Gs cl Ct Pg) (hok : ev_k7 Gc Ct kt Pg sm own nm cc nL ret cd st.1 i = true) (h : sx_o7 i st hs = some (out, hs')) (k : ∀ t ∈ out, ∀ x1, sx_g p l e R s m args below meth c Q D cl dA T Y kd ad A hh0 Md nL cd t (r ++ x1)) : sx_g p l e R s m args below meth c Q D cl dA T Y kd ad A hh0 Md nL cd st r := by
  obtain ⟨ix, L, S, B, F, G⟩ := st
  have X0 := X.1
  unfold ev_k7 at hok
  simp only [Bool.and_eq_true, decide_eq_true_eq] at hok
  unfold sx_o7 at h
  try dsimp only at hok
  split at h
  · next v hg =>
    split at h
    · next hv =>
      obtain ⟨rfl, rfl⟩ := Prod.mk.inj (Option.some.inj h)
      have k1 := sx_k1 k
      intro H locs ls vs lv ws hh h1 h2 h3 h4 h5 h6 h7 h8 h9 h10 h11
      obtain ⟨j, x, hj, hx⟩ := h5.get hg
      obtain ⟨i9, rfl⟩ := hx.int5 hv
      exact lv_iload X0.1.1 X0.1.2.1 hok.1 (lv_at h4 j hj) (sx_go k1 hok.2 h1 h2 h3 h4 h5 ⟨hx, h6⟩ h7 h8 h9 h10 h11)
    · cases h
  · cases h
theorem sx_p8 (X : sx_X p s m args c D cl dA kt T tt kd ad A Gs own cc nL) (hGc : ∀ (h : Nat) (w : Cond), ev_hg Gc h = some w → w ∈ Gs) (hT : ev_okD Gs cl Ct Pg) (hok : ev_k8 Gc Ct kt Pg sm own nm cc nL ret cd st.1 i = true) (h : sx_o8 i st hs = some (out, hs')) (k : ∀ t ∈ out, ∀ x1, sx_g p l e R s m args below meth c Q D cl dA T Y kd ad A hh0 Md nL cd t (r ++ x1)) : sx_g p l e R s m args below meth c Q D cl dA T Y kd ad A hh0 Md nL cd st r := by
  obtain ⟨ix, L, S, B, F, G⟩ := st
  have X0 := X.1
  unfold ev_k8 at hok
  simp only [Bool.and_eq_true, decide_eq_true_eq] at hok
  unfold sx_o8 at h
  try dsimp only at hok
  split at h
  · next v hg =>
    split at h
    · next hv =>
      obtain ⟨rfl, rfl⟩ := Prod.mk.inj (Option.some.inj h)
      have k1 := sx_k1 k
      intro H locs ls vs lv ws hh h1 h2 h3 h4 h5 h6 h7 h8 h9 h10 h11
      obtain ⟨j, x, hj, hx⟩ := h5.get hg
      obtain ⟨j9, c9, a9, g1, gi, g2, rfl⟩ := hx.ref hv
      exact lv_aload_n X0.1.1 X0.1.2.1 hok.1.1 (Nat.mod_eq_of_lt hok.2) (lv_at h4 j hj) (sx_go k1 hok.1.2 h1 h2 h3 h4 h5 ⟨hx, h6⟩ h7 h8 h9 h10 h11)
    · cases h
  · cases h
theorem sx_p9 (X : sx_X p s m args c D cl dA kt T tt kd ad A Gs own cc nL) (hGc : ∀ (h : Nat) (w : Cond), ev_hg Gc h = some w → w ∈ Gs) (hT : ev_okD Gs cl Ct Pg) (hok : ev_k9 Gc Ct kt Pg sm own nm cc nL ret cd st.1 i = true) (h : sx_o9 i st hs = some (out, hs')) (k : ∀ t ∈ out, ∀ x1, sx_g p l e R s m args below meth c Q D cl dA T Y kd ad A hh0 Md nL cd t (r ++ x1)) : sx_g p l e R s m args below meth c Q D cl dA T Y kd ad A hh0 Md nL cd st r := by
  obtain ⟨ix, L, S, B, F, G⟩ := st
  have X0 := X.1
  unfold ev_k9 at hok
  simp only [Bool.and_eq_true, decide_eq_true_eq] at hok
  unfold sx_o9 at h
  try dsimp only at hok
  split at h
  · next v hg =>
    split at h
    · next hv =>
      obtain ⟨rfl, rfl⟩ := Prod.mk.inj (Option.some.inj h)
      have k1 := sx_k1 k
      intro H locs ls vs lv ws hh h1 h2 h3 h4 h5 h6 h7 h8 h9 h10 h11
      obtain ⟨j, x, hj, hx⟩ := h5.get hg
      obtain ⟨j9, c9, a9, g1, gi, g2, rfl⟩ := hx.ref hv
      exact lv_aload X0.1.1 X0.1.2.1 hok.1 (lv_at h4 j hj) (sx_go k1 hok.2 h1 h2 h3 h4 h5 ⟨hx, h6⟩ h7 h8 h9 h10 h11)
    · cases h
  · cases h
theorem sx_p10 (X : sx_X p s m args c D cl dA kt T tt kd ad A Gs own cc nL) (hGc : ∀ (h : Nat) (w : Cond), ev_hg Gc h = some w → w ∈ Gs) (hT : ev_okD Gs cl Ct Pg) (hok : ev_k10 Gc Ct kt Pg sm own nm cc nL ret cd st.1 i = true) (h : sx_o10 i st hs = some (out, hs')) (k : ∀ t ∈ out, ∀ x1, sx_g p l e R s m args below meth c Q D cl dA T Y kd ad A hh0 Md nL cd t (r ++ x1)) : sx_g p l e R s m args below meth c Q D cl dA T Y kd ad A hh0 Md nL cd st r := by
  obtain ⟨ix, L, S, B, F, G⟩ := st
  have X0 := X.1
  unfold ev_k10 at hok
  simp only [Bool.and_eq_true, decide_eq_true_eq] at hok
  unfold sx_o10 at h
  try dsimp only at hok
  split at h
  · next v S1 hS =>
    have hS : S = v :: S1 := hS
    subst hS
    split at h
    · next hv =>
      obtain ⟨rfl, rfl⟩ := Prod.mk.inj (Option.some.inj h)
      have k1 := sx_k1 k
      intro H locs ls vs lv ws hh h1 h2 h3 h4 h5 h6 h7 h8 h9 h10 h11
      have h6q := h6.cons
      clear h6
      obtain ⟨x, ys, rfl, hx, h6⟩ := h6q
      obtain ⟨i9, rfl⟩ := hx.int5 hv
      exact lv_istore_n X0.1.1 X0.1.2.1 hok.1.1.1 (Nat.mod_eq_of_lt hok.1.2) h4 hok.2 rfl (fun ls1 hl => sx_go k1 hok.1.1.2 h1 h2 h3 hl (h5.put hx) h6 h7 h8 h9 h10 h11)
    · cases h
  · cases h
theorem sx_p11 (X : sx_X p s m args c D cl dA kt T tt kd ad A Gs own cc nL) (hGc : ∀ (h : Nat) (w : Cond), ev_hg Gc h = some w → w ∈ Gs) (hT : ev_okD Gs cl Ct Pg) (hok : ev_k11 Gc Ct kt Pg sm own nm cc nL ret cd st.1 i = true) (h : sx_o11 i st hs = some (out, hs')) (k : ∀ t ∈ out, ∀ x1, sx_g p l e R s m args below meth c Q D cl dA T Y kd ad A hh0 Md nL cd t (r ++ x1)) : sx_g p l e R s m args below meth c Q D cl dA T Y kd ad A hh0 Md nL cd st r := by
  obtain ⟨ix, L, S, B, F, G⟩ := st
  have X0 := X.1
  unfold ev_k11 at hok
  simp only [Bool.and_eq_true, decide_eq_true_eq] at hok
  unfold sx_o11 at h
  try dsimp only at hok
  split at h
  · next v S1 hS =>
    have hS : S = v :: S1 := hS
    subst hS
    split at h
    · next hv =>
      obtain ⟨rfl, rfl⟩ := Prod.mk.inj (Option.some.inj h)
      have k1 := sx_k1 k
      intro H locs ls vs lv ws hh h1 h2 h3 h4 h5 h6 h7 h8 h9 h10 h11
      have h6q := h6.cons
      clear h6
      obtain ⟨x, ys, rfl, hx, h6⟩ := h6q
      obtain ⟨i9, rfl⟩ := hx.int5 hv
      exact lv_istore X0.1.1 X0.1.2.1 hok.1.1 h4 hok.2 rfl (fun ls1 hl => sx_go k1 hok.1.2 h1 h2 h3 hl (h5.put hx) h6 h7 h8 h9 h10 h11)
    · cases h
  · cases h
theorem sx_p12 (X : sx_X p s m args c D cl dA kt T tt kd ad A Gs own cc nL) (hGc : ∀ (h : Nat) (w : Cond), ev_hg Gc h = some w → w ∈ Gs) (hT : ev_okD Gs cl Ct Pg) (hok : ev_k12 Gc Ct kt Pg sm own nm cc nL ret cd st.1 i = true) (h : sx_o12 i st hs = some (out, hs')) (k : ∀ t ∈ out, ∀ x1, sx_g p l e R s m args below meth c Q D cl dA T Y kd ad A hh0 Md nL cd t (r ++ x1)) : sx_g p l e R s m args below meth c Q D cl dA T Y kd ad A hh0 Md nL cd st r := by
  obtain ⟨ix, L, S, B, F, G⟩ := st
  have X0 := X.1
  unfold ev_k12 at hok
  simp only [Bool.and_eq_true, decide_eq_true_eq] at hok
  unfold sx_o12 at h
  try dsimp only at hok
  split at h
  · next v S1 hS =>
    have hS : S = v :: S1 := hS
    subst hS
    split at h
    · next hv =>
      obtain ⟨rfl, rfl⟩ := Prod.mk.inj (Option.some.inj h)
      have k1 := sx_k1 k
      intro H locs ls vs lv ws hh h1 h2 h3 h4 h5 h6 h7 h8 h9 h10 h11
      have h6q := h6.cons
      clear h6
      obtain ⟨x, ys, rfl, hx, h6⟩ := h6q
      obtain ⟨j9, c9, a9, g1, gi, g2, rfl⟩ := hx.ref hv
      exact lv_astore_n X0.1.1 X0.1.2.1 hok.1.1.1 (Nat.mod_eq_of_lt hok.1.2) h4 hok.2 rfl (fun ls1 hl => sx_go k1 hok.1.1.2 h1 h2 h3 hl (h5.put hx) h6 h7 h8 h9 h10 h11)
    · cases h
  · cases h
theorem sx_p13 (X : sx_X p s m args c D cl dA kt T tt kd ad A Gs own cc nL) (hGc : ∀ (h : Nat) (w : Cond), ev_hg Gc h = some w → w ∈ Gs) (hT : ev_okD Gs cl Ct Pg) (hok : ev_k13 Gc Ct kt Pg sm own nm cc nL ret cd st.1 i = true) (h : sx_o13 i st hs = some (out, hs')) (k : ∀ t ∈ out, ∀ x1, sx_g p l e R s m args below meth c Q D cl dA T Y kd ad A hh0 Md nL cd t (r ++ x1)) : sx_g p l e R s m args below meth c Q D cl dA T Y kd ad A hh0 Md nL cd st r := by
  obtain ⟨ix, L, S, B, F, G⟩ := st
  have X0 := X.1
  unfold ev_k13 at hok
  simp only [Bool.and_eq_true, decide_eq_true_eq] at hok
  unfold sx_o13 at h
  try dsimp only at hok
  split at h
  · next v S1 hS =>
    have hS : S = v :: S1 := hS
    subst hS
    split at h
    · next hv =>
      obtain ⟨rfl, rfl⟩ := Prod.mk.inj (Option.some.inj h)
      have k1 := sx_k1 k
      intro H locs ls vs lv ws hh h1 h2 h3 h4 h5 h6 h7 h8 h9 h10 h11
      have h6q := h6.cons
      clear h6
      obtain ⟨x, ys, rfl, hx, h6⟩ := h6q
      obtain ⟨j9, c9, a9, g1, gi, g2, rfl⟩ := hx.ref hv
      exact lv_astore X0.1.1 X0.1.2.1 hok.1.1 h4 hok.2 rfl (fun ls1 hl => sx_go k1 hok.1.2 h1 h2 h3 hl (h5.put hx) h6 h7 h8 h9 h10 h11)
    · cases h
  · cases h
theorem sx_p14 (X : sx_X p s m args c D cl dA kt T tt kd ad A Gs own cc nL) (hGc : ∀ (h : Nat) (w : Cond), ev_hg Gc h = some w → w ∈ Gs) (hT : ev_okD Gs cl Ct Pg) (hok : ev_k14 Gc Ct kt Pg sm own nm cc nL ret cd st.1 i = true) (h : sx_o14 i st hs = some (out, hs')) (k : ∀ t ∈ out, ∀ x1, sx_g p l e R s m args below meth c Q D cl dA T Y kd ad A hh0 Md nL cd t (r ++ x1)) : sx_g p l e R s m args below meth c Q D cl dA T Y kd ad A hh0 Md nL cd st r := by
  obtain ⟨ix, L, S, B, F, G⟩ := st
  have X0 := X.1
  unfold ev_k14 at hok
  simp only [Bool.and_eq_true, decide_eq_true_eq] at hok
  unfold sx_o14 at h
  try dsimp only at hok
  split at h
  · next v hg =>
    split at h
    · next hv =>
      intro H locs ls vs lv ws hh h1 h2 h3 h4 h5 h6 h7 h8 h9 h10 h11
      obtain ⟨j, x, hj, hx⟩ := h5.get hg
      obtain ⟨i9, rfl, hi9⟩ := hx.int hv
      exact lv_iinc X0.1.1 X0.1.2.1 hok.1.1.1 h4 hj rfl hok.2 rfl (fun ls1 hl => sx_il_ok h k (sx_fadd_ok h1 hi9 (by rw [sx_ev_c, ← hok.1.2, ev_sx_eq]; omega)) hok.1.1.2 h1 h2 h3 hl h5 h6 h7 h8 h9 h10 h11)
    · cases h
  · cases h
theorem sx_p15 (X : sx_X p s m args c D cl dA kt T tt kd ad A Gs own cc nL) (hGc : ∀ (h : Nat) (w : Cond), ev_hg Gc h = some w → w ∈ Gs) (hT : ev_okD Gs cl Ct Pg) (hok : ev_k15 Gc Ct kt Pg sm own nm cc nL ret cd st.1 i = true) (h : sx_o15 i st hs = some (out, hs')) (k : ∀ t ∈ out, ∀ x1, sx_g p l e R s m args below meth c Q D cl dA T Y kd ad A hh0 Md nL cd t (r ++ x1)) : sx_g p l e R s m args below meth c Q D cl dA T Y kd ad A hh0 Md nL cd st r := by
  obtain ⟨ix, L, S, B, F, G⟩ := st
  have X0 := X.1
  unfold ev_k15 at hok
  simp only [Bool.and_eq_true, decide_eq_true_eq] at hok
  unfold sx_o15 at h
  try dsimp only at hok
  split at h
  · next y x S1 hS =>
    have hS : S = y :: x :: S1 := hS
    subst hS
    split at h
    · next hv =>
      intro H locs ls vs lv ws hh h1 h2 h3 h4 h5 h6 h7 h8 h9 h10 h11
      have h6q := h6.cons
      clear h6
      obtain ⟨yv, ys, rfl, hy, h6⟩ := h6q
      have h6q := h6.cons
      clear h6
      obtain ⟨xv, zs, rfl, hx, h6⟩ := h6q
      obtain ⟨j, rfl, hj⟩ := hy.int hv.2
      obtain ⟨i9, rfl, hi⟩ := hx.int hv.1
      exact lv_iadd X0.1.1 X0.1.2.1 hok.1 (sx_pu_ok h k (sx_fadd_ok h1 hi hj) hok.2 h1 h2 h3 h4 h5 h6 h7 h8 h9 h10 h11)
    · cases h
  · cases h
theorem sx_p16 (X : sx_X p s m args c D cl dA kt T tt kd ad A Gs own cc nL) (hGc : ∀ (h : Nat) (w : Cond), ev_hg Gc h = some w → w ∈ Gs) (hT : ev_okD Gs cl Ct Pg) (hok : ev_k16 Gc Ct kt Pg sm own nm cc nL ret cd st.1 i = true) (h : sx_o16 i st hs = some (out, hs')) (k : ∀ t ∈ out, ∀ x1, sx_g p l e R s m args below meth c Q D cl dA T Y kd ad A hh0 Md nL cd t (r ++ x1)) : sx_g p l e R s m args below meth c Q D cl dA T Y kd ad A hh0 Md nL cd st r := by
  obtain ⟨ix, L, S, B, F, G⟩ := st
  have X0 := X.1
  unfold ev_k16 at hok
  simp only [Bool.and_eq_true, decide_eq_true_eq] at hok
  unfold sx_o16 at h
  try dsimp only at hok
  split at h
  · next y x S1 hS =>
    have hS : S = y :: x :: S1 := hS
    subst hS
    split at h
    · next hv =>
      intro H locs ls vs lv ws hh h1 h2 h3 h4 h5 h6 h7 h8 h9 h10 h11
      have h6q := h6.cons
      clear h6
      obtain ⟨yv, ys, rfl, hy, h6⟩ := h6q
      have h6q := h6.cons
      clear h6
      obtain ⟨xv, zs, rfl, hx, h6⟩ := h6q
      obtain ⟨j, rfl, hj⟩ := hy.int hv.2
      obtain ⟨i9, rfl, hi⟩ := hx.int hv.1
      exact lv_isub X0.1.1 X0.1.2.1 hok.1 (sx_pu_ok h k (sx_fsub_ok h1 hi hj) hok.2 h1 h2 h3 h4 h5 h6 h7 h8 h9 h10 h11)
    · cases h
  · cases h
theorem sx_p17 (X : sx_X p s m args c D cl dA kt T tt kd ad A Gs own cc nL) (hGc : ∀ (h : Nat) (w : Cond), ev_hg Gc h = some w → w ∈ Gs) (hT : ev_okD Gs cl Ct Pg) (hok : ev_k17 Gc Ct kt Pg sm own nm cc nL ret cd st.1 i = true) (h : sx_o17 i st hs = some (out, hs')) (k : ∀ t ∈ out, ∀ x1, sx_g p l e R s m args below meth c Q D cl dA T Y kd ad A hh0 Md nL cd t (r ++ x1)) : sx_g p l e R s m args below meth c Q D cl dA T Y kd ad A hh0 Md nL cd st r := by
  obtain ⟨ix, L, S, B, F, G⟩ := st
  have X0 := X.1
  unfold ev_k17 at hok
  simp only [Bool.and_eq_true, decide_eq_true_eq] at hok
  unfold sx_o17 at h
  try dsimp only at hok
  split at h
  · next y x S1 hS =>
    have hS : S = y :: x :: S1 := hS
    subst hS
    split at h
    · next hv =>
      intro H locs ls vs lv ws hh h1 h2 h3 h4 h5 h6 h7 h8 h9 h10 h11
      have h6q := h6.cons
      clear h6
      obtain ⟨yv, ys, rfl, hy, h6⟩ := h6q
      have h6q := h6.cons
      clear h6
      obtain ⟨xv, zs, rfl, hx, h6⟩ := h6q
      obtain ⟨j, rfl, hj⟩ := hy.int hv.2
      obtain ⟨i9, rfl, hi⟩ := hx.int hv.1
      exact lv_imul X0.1.1 X0.1.2.1 hok.1 (sx_pu_ok h k (sx_fmul_ok h1 hi hj) hok.2 h1 h2 h3 h4 h5 h6 h7 h8 h9 h10 h11)
    · cases h
  · cases h
theorem sx_p18 (X : sx_X p s m args c D cl dA kt T tt kd ad A Gs own cc nL) (hGc : ∀ (h : Nat) (w : Cond), ev_hg Gc h = some w → w ∈ Gs) (hT : ev_okD Gs cl Ct Pg) (hok : ev_k18 Gc Ct kt Pg sm own nm cc nL ret cd st.1 i = true) (h : sx_o18 i st hs = some (out, hs')) (k : ∀ t ∈ out, ∀ x1, sx_g p l e R s m args below meth c Q D cl dA T Y kd ad A hh0 Md nL cd t (r ++ x1)) : sx_g p l e R s m args below meth c Q D cl dA T Y kd ad A hh0 Md nL cd st r := by
  obtain ⟨ix, L, S, B, F, G⟩ := st
  have X0 := X.1
  unfold ev_k18 at hok
  simp only [Bool.and_eq_true, decide_eq_true_eq] at hok
  unfold sx_o18 at h
  try dsimp only at hok
  split at h
  · next y x S1 hS =>
    have hS : S = y :: x :: S1 := hS
    subst hS
    split at h
    · next hv =>
      intro H locs ls vs lv ws hh h1 h2 h3 h4 h5 h6 h7 h8 h9 h10 h11
      have h6q := h6.cons
      clear h6
      obtain ⟨yv, ys, rfl, hy, h6⟩ := h6q
      have h6q := h6.cons
      clear h6
      obtain ⟨xv, zs, rfl, hx, h6⟩ := h6q
      obtain ⟨j, rfl, hj⟩ := hy.int hv.2
      obtain ⟨i9, rfl, hi⟩ := hx.int hv.1
      exact lv_iand X0.1.1 X0.1.2.1 hok.1 (sx_pu_ok h k (sx_fand_ok h1 hi hj) hok.2 h1 h2 h3 h4 h5 h6 h7 h8 h9 h10 h11)
    · cases h
  · cases h
theorem sx_p19 (X : sx_X p s m args c D cl dA kt T tt kd ad A Gs own cc nL) (hGc : ∀ (h : Nat) (w : Cond), ev_hg Gc h = some w → w ∈ Gs) (hT : ev_okD Gs cl Ct Pg) (hok : ev_k19 Gc Ct kt Pg sm own nm cc nL ret cd st.1 i = true) (h : sx_o19 i st hs = some (out, hs')) (k : ∀ t ∈ out, ∀ x1, sx_g p l e R s m args below meth c Q D cl dA T Y kd ad A hh0 Md nL cd t (r ++ x1)) : sx_g p l e R s m args below meth c Q D cl dA T Y kd ad A hh0 Md nL cd st r := by
  obtain ⟨ix, L, S, B, F, G⟩ := st
  have X0 := X.1
  unfold ev_k19 at hok
  simp only [Bool.and_eq_true, decide_eq_true_eq] at hok
  unfold sx_o19 at h
  try dsimp only at hok
  split at h
  · next y x S1 hS =>
    have hS : S = y :: x :: S1 := hS
    subst hS
    split at h
    · next hv =>
      split at h
      · next a9 hs1 hf9 =>
        intro H locs ls vs lv ws hh h1 h2 h3 h4 h5 h6 h7 h8 h9 h10 h11
        have h6q := h6.cons
        clear h6
        obtain ⟨yv, ys, rfl, hy, h6⟩ := h6q
        have h6q := h6.cons
        clear h6
        obtain ⟨xv, zs, rfl, hx, h6⟩ := h6q
        obtain ⟨j, rfl, hj⟩ := hy.int hv.2
        obtain ⟨i9, rfl, hi⟩ := hx.int hv.1
        exact lv_ior X0.1.1 X0.1.2.1 hok.1 (sx_pu_ok h k (sx_foh_ok h1 h2 hi hj hf9) hok.2 h1 h2 h3 h4 h5 h6 h7 h8 h9 h10 h11)
      · cases h
    · cases h
  · cases h
theorem sx_p20 (X : sx_X p s m args c D cl dA kt T tt kd ad A Gs own cc nL) (hGc : ∀ (h : Nat) (w : Cond), ev_hg Gc h = some w → w ∈ Gs) (hT : ev_okD Gs cl Ct Pg) (hok : ev_k20 Gc Ct kt Pg sm own nm cc nL ret cd st.1 i = true) (h : sx_o20 i st hs = some (out, hs')) (k : ∀ t ∈ out, ∀ x1, sx_g p l e R s m args below meth c Q D cl dA T Y kd ad A hh0 Md nL cd t (r ++ x1)) : sx_g p l e R s m args below meth c Q D cl dA T Y kd ad A hh0 Md nL cd st r := by
  obtain ⟨ix, L, S, B, F, G⟩ := st
  have X0 := X.1
  unfold ev_k20 at hok
  simp only [Bool.and_eq_true, decide_eq_true_eq] at hok
  unfold sx_o20 at h
  try dsimp only at hok
  split at h
  · next y x S1 hS =>
    have hS : S = y :: x :: S1 := hS
    subst hS
    split at h
    · next hv =>
      intro H locs ls vs lv ws hh h1 h2 h3 h4 h5 h6 h7 h8 h9 h10 h11
      have h6q := h6.cons
      clear h6
      obtain ⟨yv, ys, rfl, hy, h6⟩ := h6q
      have h6q := h6.cons
      clear h6
      obtain ⟨xv, zs, rfl, hx, h6⟩ := h6q
      obtain ⟨j, rfl, hj⟩ := hy.int hv.2
      obtain ⟨i9, rfl, hi⟩ := hx.int hv.1
      exact lv_ixor X0.1.1 X0.1.2.1 hok.1 (sx_pu_ok h k ((sx_for_ok h1 hi hj).2) hok.2 h1 h2 h3 h4 h5 h6 h7 h8 h9 h10 h11)
    · cases h
  · cases h
theorem sx_p21 (X : sx_X p s m args c D cl dA kt T tt kd ad A Gs own cc nL) (hGc : ∀ (h : Nat) (w : Cond), ev_hg Gc h = some w → w ∈ Gs) (hT : ev_okD Gs cl Ct Pg) (hok : ev_k21 Gc Ct kt Pg sm own nm cc nL ret cd st.1 i = true) (h : sx_o21 i st hs = some (out, hs')) (k : ∀ t ∈ out, ∀ x1, sx_g p l e R s m args below meth c Q D cl dA T Y kd ad A hh0 Md nL cd t (r ++ x1)) : sx_g p l e R s m args below meth c Q D cl dA T Y kd ad A hh0 Md nL cd st r := by
  obtain ⟨ix, L, S, B, F, G⟩ := st
  have X0 := X.1
  unfold ev_k21 at hok
  simp only [Bool.and_eq_true, decide_eq_true_eq] at hok
  unfold sx_o21 at h
  try dsimp only at hok
  split at h
  · next y x S1 hS =>
    have hS : S = y :: x :: S1 := hS
    subst hS
    split at h
    · next hv =>
      intro H locs ls vs lv ws hh h1 h2 h3 h4 h5 h6 h7 h8 h9 h10 h11
      have h6q := h6.cons
      clear h6
      obtain ⟨yv, ys, rfl, hy, h6⟩ := h6q
      have h6q := h6.cons
      clear h6
      obtain ⟨xv, zs, rfl, hx, h6⟩ := h6q
      obtain ⟨j, rfl, hj⟩ := hy.int hv.2
      obtain ⟨i9, rfl, hi⟩ := hx.int hv.1
      exact lv_ishl X0.1.1 X0.1.2.1 hok.1 (sx_pu_ok h k (sx_fshl_ok h1 hi hj) hok.2 h1 h2 h3 h4 h5 h6 h7 h8 h9 h10 h11)
    · cases h
  · cases h
theorem sx_p22 (X : sx_X p s m args c D cl dA kt T tt kd ad A Gs own cc nL) (hGc : ∀ (h : Nat) (w : Cond), ev_hg Gc h = some w → w ∈ Gs) (hT : ev_okD Gs cl Ct Pg) (hok : ev_k22 Gc Ct kt Pg sm own nm cc nL ret cd st.1 i = true) (h : sx_o22 i st hs = some (out, hs')) (k : ∀ t ∈ out, ∀ x1, sx_g p l e R s m args below meth c Q D cl dA T Y kd ad A hh0 Md nL cd t (r ++ x1)) : sx_g p l e R s m args below meth c Q D cl dA T Y kd ad A hh0 Md nL cd st r := by
  obtain ⟨ix, L, S, B, F, G⟩ := st
  have X0 := X.1
  unfold ev_k22 at hok
  simp only [Bool.and_eq_true, decide_eq_true_eq] at hok
  unfold sx_o22 at h
  try dsimp only at hok
  split at h
  · next v S1 hS =>
    have hS : S = v :: S1 := hS
    subst hS
    split at h
    · next hv =>
      obtain ⟨rfl, rfl⟩ := Prod.mk.inj (Option.some.inj h)
      have k1 := sx_k1 k
      intro H locs ls vs lv ws hh h1 h2 h3 h4 h5 h6 h7 h8 h9 h10 h11
      have h6q := h6.cons
      clear h6
      obtain ⟨x, ys, rfl, hx, h6⟩ := h6q
      exact lv_dup X0.1.1 X0.1.2.1 hok.1 (hx.cat1 hv) (sx_go k1 hok.2 h1 h2 h3 h4 h5 ⟨hx, hx, h6⟩ h7 h8 h9 h10 h11)
    · cases h
  · cases h
theorem sx_p23 (X : sx_X p s m args c D cl dA kt T tt kd ad A Gs own cc nL) (hGc : ∀ (h : Nat) (w : Cond), ev_hg Gc h = some w → w ∈ Gs) (hT : ev_okD Gs cl Ct Pg) (hok : ev_k23 Gc Ct kt Pg sm own nm cc nL ret cd st.1 i = true) (h : sx_o23 i st hs = some (out, hs')) (k : ∀ t ∈ out, ∀ x1, sx_g p l e R s m args below meth c Q D cl dA T Y kd ad A hh0 Md nL cd t (r ++ x1)) : sx_g p l e R s m args below meth c Q D cl dA T Y kd ad A hh0 Md nL cd st r := by
  obtain ⟨ix, L, S, B, F, G⟩ := st
  have X0 := X.1
  unfold ev_k23 at hok
  simp only [Bool.and_eq_true, decide_eq_true_eq] at hok
  unfold sx_o23 at h
  try dsimp only at hok
  split at h
  · next v S1 hS =>
    have hS : S = v :: S1 := hS
    subst hS
    split at h
    · next hv =>
      obtain ⟨rfl, rfl⟩ := Prod.mk.inj (Option.some.inj h)
      have k1 := sx_k1 k
      intro H locs ls vs lv ws hh h1 h2 h3 h4 h5 h6 h7 h8 h9 h10 h11
      have h6q := h6.cons
      clear h6
      obtain ⟨x, ys, rfl, hx, h6⟩ := h6q
      exact lv_pop X0.1.1 X0.1.2.1 hok.1 (hx.cat1 hv) (sx_go k1 hok.2 h1 h2 h3 h4 h5 h6 h7 h8 h9 h10 h11)
    · cases h
  · cases h
theorem sx_p24 (X : sx_X p s m args c D cl dA kt T tt kd ad A Gs own cc nL) (hGc : ∀ (h : Nat) (w : Cond), ev_hg Gc h = some w → w ∈ Gs) (hT : ev_okD Gs cl Ct Pg) (hok : ev_k24 Gc Ct kt Pg sm own nm cc nL ret cd st.1 i = true) (h : sx_o24 i st hs = some (out, hs')) (k : ∀ t ∈ out, ∀ x1, sx_g p l e R s m args below meth c Q D cl dA T Y kd ad A hh0 Md nL cd t (r ++ x1)) : sx_g p l e R s m args below meth c Q D cl dA T Y kd ad A hh0 Md nL cd st r := by
  obtain ⟨ix, L, S, B, F, G⟩ := st
  have X0 := X.1
  unfold ev_k24 at hok
  simp only [Bool.and_eq_true, decide_eq_true_eq] at hok
  unfold sx_o24 at h
  try dsimp only at hok
  split at h
  · next u v S1 hS =>
    have hS : S = u :: v :: S1 := hS
    subst hS
    split at h
    · next hv =>
      obtain ⟨rfl, rfl⟩ := Prod.mk.inj (Option.some.inj h)
      have k1 := sx_k1 k
      intro H locs ls vs lv ws hh h1 h2 h3 h4 h5 h6 h7 h8 h9 h10 h11
      have h6q := h6.cons
      clear h6
      obtain ⟨x, ys, rfl, hx, h6⟩ := h6q
      have h6q := h6.cons
      clear h6
      obtain ⟨y, zs, rfl, hy, h6⟩ := h6q
      exact lv_dup2_11 X0.1.1 X0.1.2.1 hok.1 (hx.cat1 hv.1) (hy.cat1 hv.2) (sx_go k1 hok.2 h1 h2 h3 h4 h5 ⟨hx, hy, hx, hy, h6⟩ h7 h8 h9 h10 h11)
    · cases h
  · cases h
theorem sx_p25 (X : sx_X p s m args c D cl dA kt T tt kd ad A Gs own cc nL) (hGc : ∀ (h : Nat) (w : Cond), ev_hg Gc h = some w → w ∈ Gs) (hT : ev_okD Gs cl Ct Pg) (hok : ev_k25 Gc Ct kt Pg sm own nm cc nL ret cd st.1 i = true) (h : sx_o25 i st hs = some (out, hs')) (k : ∀ t ∈ out, ∀ x1, sx_g p l e R s m args below meth c Q D cl dA T Y kd ad A hh0 Md nL cd t (r ++ x1)) : sx_g p l e R s m args below meth c Q D cl dA T Y kd ad A hh0 Md nL cd st r := by
  obtain ⟨ix, L, S, B, F, G⟩ := st
  have X0 := X.1
  unfold ev_k25 at hok
  simp only [Bool.and_eq_true, decide_eq_true_eq] at hok
  unfold sx_o25 at h
  try dsimp only at hok
  obtain ⟨rfl, rfl⟩ := Prod.mk.inj (Option.some.inj h)
  have k1 := sx_k1 k
  intro H locs ls vs lv ws hh h1 h2 h3 h4 h5 h6 h7 h8 h9 h10 h11
  exact lv_goto X0.1.1 X0.1.2.1 hok.1 hok.2 (sx_go k1 rfl h1 h2 h3 h4 h5 h6 h7 h8 h9 h10 h11)
theorem sx_p26 (X : sx_X p s m args c D cl dA kt T tt kd ad A Gs own cc nL) (hGc : ∀ (h : Nat) (w : Cond), ev_hg Gc h = some w → w ∈ Gs) (hT : ev_okD Gs cl Ct Pg) (hok : ev_k26 Gc Ct kt Pg sm own nm cc nL ret cd st.1 i = true) (h : sx_o26 i st hs = some (out, hs')) (k : ∀ t ∈ out, ∀ x1, sx_g p l e R s m args below meth c Q D cl dA T Y kd ad A hh0 Md nL cd t (r ++ x1)) : sx_g p l e R s m args below meth c Q D cl dA T Y kd ad A hh0 Md nL cd st r := by
  obtain ⟨ix, L, S, B, F, G⟩ := st
  have X0 := X.1
  unfold ev_k26 at hok
  simp only [Bool.and_eq_true, decide_eq_true_eq] at hok
  unfold sx_o26 at h
  try dsimp only at hok
  split at h
  · next y x S1 hS =>
    have hS : S = y :: x :: S1 := hS
    subst hS
    split at h
    · next hv =>
      split at h
      · next f1 hs1 hf1 =>
        split at h
        · next f2 hs2 hf2 =>
          obtain ⟨rfl, rfl⟩ := Prod.mk.inj (Option.some.inj h)
          intro H locs ls vs lv ws hh h1 h2 h3 h4 h5 h6 h7 h8 h9 h10 h11
          have h6q := h6.cons
          clear h6
          obtain ⟨yv, ys, rfl, hy, h6⟩ := h6q
          have h6q := h6.cons
          clear h6
          obtain ⟨xv, zs, rfl, hx, h6⟩ := h6q
          obtain ⟨j, rfl, hj⟩ := hy.int hv.2
          obtain ⟨i9, rfl, hi⟩ := hx.int hv.1
          exact ev_row_icmp X0 hok.1.1 hok.2 i9 j (fun hp => sx_br_ok (fun t ht => sx_kz (k t (List.mem_append_left _ ht))) (sx_cfh_ok h1 h2 hf1 (by rw [sx_ev_sub, ← hi, ← hj]; exact sx_cp_of hp)) rfl h1 h2 h3 h4 h5 h6 h7 h8 h9 h10 h11) (fun hp => sx_br_ok (fun t ht => sx_kz (k t (List.mem_append_right _ ht))) (sx_cfh_ok h1 h2 hf2 (by rw [sx_ev_sub, ← hi, ← hj]; exact sx_cp_of (sx_cp_no hp))) hok.1.2 h1 h2 h3 h4 h5 h6 h7 h8 h9 h10 h11)
        · cases h
      · cases h
    · cases h
  · cases h
theorem sx_p27 (X : sx_X p s m args c D cl dA kt T tt kd ad A Gs own cc nL) (hGc : ∀ (h : Nat) (w : Cond), ev_hg Gc h = some w → w ∈ Gs) (hT : ev_okD Gs cl Ct Pg) (hok : ev_k27 Gc Ct kt Pg sm own nm cc nL ret cd st.1 i = true) (h : sx_o27 i st hs = some (out, hs')) (k : ∀ t ∈ out, ∀ x1, sx_g p l e R s m args below meth c Q D cl dA T Y kd ad A hh0 Md nL cd t (r ++ x1)) : sx_g p l e R s m args below meth c Q D cl dA T Y kd ad A hh0 Md nL cd st r := by
  obtain ⟨ix, L, S, B, F, G⟩ := st
  have X0 := X.1
  unfold ev_k27 at hok
  simp only [Bool.and_eq_true, decide_eq_true_eq] at hok
  unfold sx_o27 at h
  try dsimp only at hok
  split at h
  · next x S1 hS =>
    have hS : S = x :: S1 := hS
    subst hS
    split at h
    · next hv =>
      split at h
      · next f1 hs1 hf1 =>
        split at h
        · next f2 hs2 hf2 =>
          obtain ⟨rfl, rfl⟩ := Prod.mk.inj (Option.some.inj h)
          intro H locs ls vs lv ws hh h1 h2 h3 h4 h5 h6 h7 h8 h9 h10 h11
          have h6q := h6.cons
          clear h6
          obtain ⟨xv, zs, rfl, hx, h6⟩ := h6q
          obtain ⟨i9, rfl, hz⟩ := sx_vr.cmp0 hx hv
          exact ev_row_if0 X0 hok.1.1 hok.2 i9 (fun hp => sx_br_ok (fun t ht => sx_kz (k t (List.mem_append_left _ ht))) (sx_cfh_ok h1 h2 hf1 (hz _ hp)) rfl h1 h2 h3 h4 h5 h6 h7 h8 h9 h10 h11) (fun hp => sx_br_ok (fun t ht => sx_kz (k t (List.mem_append_right _ ht))) (sx_cfh_ok h1 h2 hf2 (hz _ (sx_cp_no hp))) hok.1.2 h1 h2 h3 h4 h5 h6 h7 h8 h9 h10 h11)
        · cases h
      · cases h
    · cases h
  · cases h
theorem sx_p36 (X : sx_X p s m args c D cl dA kt T tt kd ad A Gs own cc nL) (hGc : ∀ (h : Nat) (w : Cond), ev_hg Gc h = some w → w ∈ Gs) (hT : ev_okD Gs cl Ct Pg) (hok : ev_k36 Gc Ct kt Pg sm own nm cc nL ret cd st.1 i = true) (h : sx_o36 i st hs = some (out, hs')) (k : ∀ t ∈ out, ∀ x1, sx_g p l e R s m args below meth c Q D cl dA T Y kd ad A hh0 Md nL cd t (r ++ x1)) : sx_g p l e R s m args below meth c Q D cl dA T Y kd ad A hh0 Md nL cd st r := by
  obtain ⟨ix, L, S, B, F, G⟩ := st
  have X0 := X.1
  unfold ev_k36 at hok
  simp only [Bool.and_eq_true, decide_eq_true_eq] at hok
  unfold sx_o36 at h
  try dsimp only at hok
  split at h
  · next v hg =>
    split at h
    · next hv =>
      obtain ⟨rfl, rfl⟩ := Prod.mk.inj (Option.some.inj h)
      have k1 := sx_k1 k
      intro H locs ls vs lv ws hh h1 h2 h3 h4 h5 h6 h7 h8 h9 h10 h11
      obtain ⟨j, x, hj, hx⟩ := h5.get hg
      obtain ⟨i9, rfl⟩ := hx.long hv
      exact lv_lload_n X0.1.1 X0.1.2.1 hok.1.1 (Nat.mod_eq_of_lt hok.2) (lv_at h4 j hj) (sx_go k1 hok.1.2 h1 h2 h3 h4 h5 ⟨hx, h6⟩ h7 h8 h9 h10 h11)
    · cases h
  · cases h
theorem sx_p37 (X : sx_X p s m args c D cl dA kt T tt kd ad A Gs own cc nL) (hGc : ∀ (h : Nat) (w : Cond), ev_hg Gc h = some w → w ∈ Gs) (hT : ev_okD Gs cl Ct Pg) (hok : ev_k37 Gc Ct kt Pg sm own nm cc nL ret cd st.1 i = true) (h : sx_o37 i st hs = some (out, hs')) (k : ∀ t ∈ out, ∀ x1, sx_g p l e R s m args below meth c Q D cl dA T Y kd ad A hh0 Md nL cd t (r ++ x1)) : sx_g p l e R s m args below meth c Q D cl dA T Y kd ad A hh0 Md nL cd st r := by
  obtain ⟨ix, L, S, B, F, G⟩ := st
  have X0 := X.1
  unfold ev_k37 at hok
  simp only [Bool.and_eq_true, decide_eq_true_eq] at hok
  unfold sx_o37 at h
  try dsimp only at hok
  split at h
  · next v hg =>
    split at h
    · next hv =>
      obtain ⟨rfl, rfl⟩ := Prod.mk.inj (Option.some.inj h)
      have k1 := sx_k1 k
      intro H locs ls vs lv ws hh h1 h2 h3 h4 h5 h6 h7 h8 h9 h10 h11
      obtain ⟨j, x, hj, hx⟩ := h5.get hg
      obtain ⟨i9, rfl⟩ := hx.long hv
      exact lv_lload X0.1.1 X0.1.2.1 hok.1 (lv_at h4 j hj) (sx_go k1 hok.2 h1 h2 h3 h4 h5 ⟨hx, h6⟩ h7 h8 h9 h10 h11)
    · cases h
  · cases h
theorem sx_p38 (X : sx_X p s m args c D cl dA kt T tt kd ad A Gs own cc nL) (hGc : ∀ (h : Nat) (w : Cond), ev_hg Gc h = some w → w ∈ Gs) (hT : ev_okD Gs cl Ct Pg) (hok : ev_k38 Gc Ct kt Pg sm own nm cc nL ret cd st.1 i = true) (h : sx_o38 i st hs = some (out, hs')) (k : ∀ t ∈ out, ∀ x1, sx_g p l e R s m args below meth c Q D cl dA T Y kd ad A hh0 Md nL cd t (r ++ x1)) : sx_g p l e R s m args below meth c Q D cl dA T Y kd ad A hh0 Md nL cd st r := by
  obtain ⟨ix, L, S, B, F, G⟩ := st
  have X0 := X.1
  unfold ev_k38 at hok
  simp only [Bool.and_eq_true, decide_eq_true_eq] at hok
  unfold sx_o38 at h
  try dsimp only at hok
  split at h
  · next v S1 hS =>
    have hS : S = v :: S1 := hS
    subst hS
    split at h
    · next hv =>
      obtain ⟨rfl, rfl⟩ := Prod.mk.inj (Option.some.inj h)
      have k1 := sx_k1 k
      intro H locs ls vs lv ws hh h1 h2 h3 h4 h5 h6 h7 h8 h9 h10 h11
      have h6q := h6.cons
      clear h6
      obtain ⟨x, ys, rfl, hx, h6⟩ := h6q
      obtain ⟨i9, rfl⟩ := hx.long hv
      exact lv_lstore_n X0.1.1 X0.1.2.1 hok.1.1.1 (Nat.mod_eq_of_lt hok.1.2) h4 hok.2 rfl (fun ls1 hl => sx_go k1 hok.1.1.2 h1 h2 h3 hl (h5.put2 hx) h6 h7 h8 h9 h10 h11)
    · cases h
  · cases h
theorem sx_p39 (X : sx_X p s m args c D cl dA kt T tt kd ad A Gs own cc nL) (hGc : ∀ (h : Nat) (w : Cond), ev_hg Gc h = some w → w ∈ Gs) (hT : ev_okD Gs cl Ct Pg) (hok : ev_k39 Gc Ct kt Pg sm own nm cc nL ret cd st.1 i = true) (h : sx_o39 i st hs = some (out, hs')) (k : ∀ t ∈ out, ∀ x1, sx_g p l e R s m args below meth c Q D cl dA T Y kd ad A hh0 Md nL cd t (r ++ x1)) : sx_g p l e R s m args below meth c Q D cl dA T Y kd ad A hh0 Md nL cd st r := by
  obtain ⟨ix, L, S, B, F, G⟩ := st
  have X0 := X.1
  unfold ev_k39 at hok
  simp only [Bool.and_eq_true, decide_eq_true_eq] at hok
  unfold sx_o39 at h
  try dsimp only at hok
  split at h
  · next v S1 hS =>
    have hS : S = v :: S1 := hS
    subst hS
    split at h
    · next hv =>
      obtain ⟨rfl, rfl⟩ := Prod.mk.inj (Option.some.inj h)
      have k1 := sx_k1 k
      intro H locs ls vs lv ws hh h1 h2 h3 h4 h5 h6 h7 h8 h9 h10 h11
      have h6q := h6.cons
      clear h6
      obtain ⟨x, ys, rfl, hx, h6⟩ := h6q
      obtain ⟨i9, rfl⟩ := hx.long hv
      exact lv_lstore X0.1.1 X0.1.2.1 hok.1.1 h4 hok.2 rfl (fun ls1 hl => sx_go k1 hok.1.2 h1 h2 h3 hl (h5.put2 hx) h6 h7 h8 h9 h10 h11)
    · cases h
  · cases h
theorem sx_p44 (X : sx_X p s m args c D cl dA kt T tt kd ad A Gs own cc nL) (hGc : ∀ (h : Nat) (w : Cond), ev_hg Gc h = some w → w ∈ Gs) (hT : ev_okD Gs cl Ct Pg) (hok : ev_k44 Gc Ct kt Pg sm own nm cc nL ret cd st.1 i = true) (h : sx_o44 i st hs = some (out, hs')) (k : ∀ t ∈ out, ∀ x1, sx_g p l e R s m args below meth c Q D cl dA T Y kd ad A hh0 Md nL cd t (r ++ x1)) : sx_g p l e R s m args below meth c Q D cl dA T Y kd ad A hh0 Md nL cd st r := by
  obtain ⟨ix, L, S, B, F, G⟩ := st
  have X0 := X.1
  unfold ev_k44 at hok
  simp only [Bool.and_eq_true, decide_eq_true_eq] at hok
  unfold sx_o44 at h
  try dsimp only at hok
  obtain ⟨rfl, rfl⟩ := Prod.mk.inj (Option.some.inj h)
  have k1 := sx_k1 k
  intro H locs ls vs lv ws hh h1 h2 h3 h4 h5 h6 h7 h8 h9 h10 h11
  exact lv_lconst X0.1.1 X0.1.2.1 hok.1 rfl (sx_go k1 hok.2 h1 h2 h3 h4 h5 ⟨sx_vr.ll (by rw [sx_ev_c]; exact sx_lc _), h6⟩ h7 h8 h9 h10 h11)
theorem sx_p47 (X : sx_X p s m args c D cl dA kt T tt kd ad A Gs own cc nL) (hGc : ∀ (h : Nat) (w : Cond), ev_hg Gc h = some w → w ∈ Gs) (hT : ev_okD Gs cl Ct Pg) (hok : ev_k47 Gc Ct kt Pg sm own nm cc nL ret cd st.1 i = true) (h : sx_o47 i st hs = some (out, hs')) (k : ∀ t ∈ out, ∀ x1, sx_g p l e R s m args below meth c Q D cl dA T Y kd ad A hh0 Md nL cd t (r ++ x1)) : sx_g p l e R s m args below meth c Q D cl dA T Y kd ad A hh0 Md nL cd st r := by
  obtain ⟨ix, L, S, B, F, G⟩ := st
  have X0 := X.1
  unfold ev_k47 at hok
  simp only [Bool.and_eq_true, decide_eq_true_eq] at hok
  unfold sx_o47 at h
  try dsimp only at hok
  obtain ⟨rfl, rfl⟩ := Prod.mk.inj (Option.some.inj h)
  have k1 := sx_k1 k
  intro H locs ls vs lv ws hh h1 h2 h3 h4 h5 h6 h7 h8 h9 h10 h11
  exact lv_ldc2 X0.1.1 X0.1.2.1 X0.1.2.2.2.1 (X0.1.2.2.2.2 _ (hGc _ _ hok.2)) hok.1.1 (sx_go k1 hok.1.2 h1 h2 h3 h4 h5 ⟨sx_vr.ll (by rw [sx_ev_c]), h6⟩ h7 h8 h9 h10 h11)
theorem sx_p66 (X : sx_X p s m args c D cl dA kt T tt kd ad A Gs own cc nL) (hGc : ∀ (h : Nat) (w : Cond), ev_hg Gc h = some w → w ∈ Gs) (hT : ev_okD Gs cl Ct Pg) (hok : ev_k66 Gc Ct kt Pg sm own nm cc nL ret cd st.1 i = true) (h : sx_o66 i st hs = some (out, hs')) (k : ∀ t ∈ out, ∀ x1, sx_g p l e R s m args below meth c Q D cl dA T Y kd ad A hh0 Md nL cd t (r ++ x1)) : sx_g p l e R s m args below meth c Q D cl dA T Y kd ad A hh0 Md nL cd st r := by
  obtain ⟨ix, L, S, B, F, G⟩ := st
  have X0 := X.1
  unfold ev_k66 at hok
  simp only [Bool.and_eq_true, decide_eq_true_eq] at hok
  unfold sx_o66 at h
  try dsimp only at hok
  split at h
  · next y x S1 hS =>
    have hS : S = y :: x :: S1 := hS
    subst hS
    split at h
    · next hv =>
      obtain ⟨rfl, rfl⟩ := Prod.mk.inj (Option.some.inj h)
      have k1 := sx_k1 k
      intro H locs ls vs lv ws hh h1 h2 h3 h4 h5 h6 h7 h8 h9 h10 h11
      have h6q := h6.cons
      clear h6
      obtain ⟨yv, ys, rfl, hy, h6⟩ := h6q
      have h6q := h6.cons
      clear h6
      obtain ⟨xv, zs, rfl, hx, h6⟩ := h6q
      obtain ⟨j, rfl⟩ := hy.long hv.2
      obtain ⟨i9, rfl⟩ := hx.long hv.1
      exact lv_ladd X0.1.1 X0.1.2.1 hok.1 (sx_go k1 hok.2 h1 h2 h3 h4 h5 ⟨sx_ladd_ok h1 hx hy, h6⟩ h7 h8 h9 h10 h11)
    · cases h
  · cases h
theorem sx_p67 (X : sx_X p s m args c D cl dA kt T tt kd ad A Gs own cc nL) (hGc : ∀ (h : Nat) (w : Cond), ev_hg Gc h = some w → w ∈ Gs) (hT : ev_okD Gs cl Ct Pg) (hok : ev_k67 Gc Ct kt Pg sm own nm cc nL ret cd st.1 i = true) (h : sx_o67 i st hs = some (out, hs')) (k : ∀ t ∈ out, ∀ x1, sx_g p l e R s m args below meth c Q D cl dA T Y kd ad A hh0 Md nL cd t (r ++ x1)) : sx_g p l e R s m args below meth c Q D cl dA T Y kd ad A hh0 Md nL cd st r := by
  obtain ⟨ix, L, S, B, F, G⟩ := st
  have X0 := X.1
  unfold ev_k67 at hok
  simp only [Bool.and_eq_true, decide_eq_true_eq] at hok
  unfold sx_o67 at h
  try dsimp only at hok
  split at h
  · next y x S1 hS =>
    have hS : S = y :: x :: S1 := hS
    subst hS
    split at h
    · next hv =>
      obtain ⟨rfl, rfl⟩ := Prod.mk.inj (Option.some.inj h)
      have k1 := sx_k1 k
      intro H locs ls vs lv ws hh h1 h2 h3 h4 h5 h6 h7 h8 h9 h10 h11
      have h6q := h6.cons
      clear h6
      obtain ⟨yv, ys, rfl, hy, h6⟩ := h6q
      have h6q := h6.cons
      clear h6
      obtain ⟨xv, zs, rfl, hx, h6⟩ := h6q
      obtain ⟨j, rfl⟩ := hy.long hv.2
      obtain ⟨i9, rfl⟩ := hx.long hv.1
      exact lv_lsub X0.1.1 X0.1.2.1 hok.1 (sx_go k1 hok.2 h1 h2 h3 h4 h5 ⟨sx_lsub_ok h1 hx hy, h6⟩ h7 h8 h9 h10 h11)
    · cases h
  · cases h
theorem sx_p68 (X : sx_X p s m args c D cl dA kt T tt kd ad A Gs own cc nL) (hGc : ∀ (h : Nat) (w : Cond), ev_hg Gc h = some w → w ∈ Gs) (hT : ev_okD Gs cl Ct Pg) (hok : ev_k68 Gc Ct kt Pg sm own nm cc nL ret cd st.1 i = true) (h : sx_o68 i st hs = some (out, hs')) (k : ∀ t ∈ out, ∀ x1, sx_g p l e R s m args below meth c Q D cl dA T Y kd ad A hh0 Md nL cd t (r ++ x1)) : sx_g p l e R s m args below meth c Q D cl dA T Y kd ad A hh0 Md nL cd st r := by
  obtain ⟨ix, L, S, B, F, G⟩ := st
  have X0 := X.1
  unfold ev_k68 at hok
  simp only [Bool.and_eq_true, decide_eq_true_eq] at hok
  unfold sx_o68 at h
  try dsimp only at hok
  split at h
  · next y x S1 hS =>
    have hS : S = y :: x :: S1 := hS
    subst hS
    split at h
    · next hv =>
      obtain ⟨rfl, rfl⟩ := Prod.mk.inj (Option.some.inj h)
      have k1 := sx_k1 k
      intro H locs ls vs lv ws hh h1 h2 h3 h4 h5 h6 h7 h8 h9 h10 h11
      have h6q := h6.cons
      clear h6
      obtain ⟨yv, ys, rfl, hy, h6⟩ := h6q
      have h6q := h6.cons
      clear h6
      obtain ⟨xv, zs, rfl, hx, h6⟩ := h6q
      obtain ⟨j, rfl⟩ := hy.long hv.2
      obtain ⟨i9, rfl⟩ := hx.long hv.1
      exact lv_lmul X0.1.1 X0.1.2.1 hok.1 (sx_go k1 hok.2 h1 h2 h3 h4 h5 ⟨sx_lmul_ok h1 hx hy, h6⟩ h7 h8 h9 h10 h11)
    · cases h
  · cases h
theorem sx_p69 (X : sx_X p s m args c D cl dA kt T tt kd ad A Gs own cc nL) (hGc : ∀ (h : Nat) (w : Cond), ev_hg Gc h = some w → w ∈ Gs) (hT : ev_okD Gs cl Ct Pg) (hok : ev_k69 Gc Ct kt Pg sm own nm cc nL ret cd st.1 i = true) (h : sx_o69 i st hs = some (out, hs')) (k : ∀ t ∈ out, ∀ x1, sx_g p l e R s m args below meth c Q D cl dA T Y kd ad A hh0 Md nL cd t (r ++ x1)) : sx_g p l e R s m args below meth c Q D cl dA T Y kd ad A hh0 Md nL cd st r := by
  obtain ⟨ix, L, S, B, F, G⟩ := st
  have X0 := X.1
  unfold ev_k69 at hok
  simp only [Bool.and_eq_true, decide_eq_true_eq] at hok
  unfold sx_o69 at h
  try dsimp only at hok
  split at h
  · next y x S1 hS =>
    have hS : S = y :: x :: S1 := hS
    subst hS
    split at h
    · next hv =>
      intro H locs ls vs lv ws hh h1 h2 h3 h4 h5 h6 h7 h8 h9 h10 h11
      have h6q := h6.cons
      clear h6
      obtain ⟨yv, ys, rfl, hy, h6⟩ := h6q
      have h6q := h6.cons
      clear h6
      obtain ⟨xv, zs, rfl, hx, h6⟩ := h6q
      obtain ⟨j, rfl⟩ := hy.long hv.2
      obtain ⟨i9, rfl⟩ := hx.long hv.1
      exact lv_land X0.1.1 X0.1.2.1 hok.1 (sx_lan_ok h k hx hy hok.2 h1 h2 h3 h4 h5 h6 h7 h8 h9 h10 h11)
    · cases h
  · cases h
theorem sx_p70 (X : sx_X p s m args c D cl dA kt T tt kd ad A Gs own cc nL) (hGc : ∀ (h : Nat) (w : Cond), ev_hg Gc h = some w → w ∈ Gs) (hT : ev_okD Gs cl Ct Pg) (hok : ev_k70 Gc Ct kt Pg sm own nm cc nL ret cd st.1 i = true) (h : sx_o70 i st hs = some (out, hs')) (k : ∀ t ∈ out, ∀ x1, sx_g p l e R s m args below meth c Q D cl dA T Y kd ad A hh0 Md nL cd t (r ++ x1)) : sx_g p l e R s m args below meth c Q D cl dA T Y kd ad A hh0 Md nL cd st r := by
  obtain ⟨ix, L, S, B, F, G⟩ := st
  have X0 := X.1
  unfold ev_k70 at hok
  simp only [Bool.and_eq_true, decide_eq_true_eq] at hok
  unfold sx_o70 at h
  try dsimp only at hok
  split at h
  · next y x S1 hS =>
    have hS : S = y :: x :: S1 := hS
    subst hS
    split at h
    · next hv =>
      obtain ⟨rfl, rfl⟩ := Prod.mk.inj (Option.some.inj h)
      have k1 := sx_k1 k
      intro H locs ls vs lv ws hh h1 h2 h3 h4 h5 h6 h7 h8 h9 h10 h11
      have h6q := h6.cons
      clear h6
      obtain ⟨yv, ys, rfl, hy, h6⟩ := h6q
      have h6q := h6.cons
      clear h6
      obtain ⟨xv, zs, rfl, hx, h6⟩ := h6q
      obtain ⟨j, rfl⟩ := hy.long hv.2
      obtain ⟨i9, rfl⟩ := hx.long hv.1
      exact lv_lor X0.1.1 X0.1.2.1 hok.1 (sx_go k1 hok.2 h1 h2 h3 h4 h5 ⟨sx_vr.lg _ _ _, h6⟩ h7 h8 h9 h10 h11)
    · cases h
  · cases h
theorem sx_p71 (X : sx_X p s m args c D cl dA kt T tt kd ad A Gs own cc nL) (hGc : ∀ (h : Nat) (w : Cond), ev_hg Gc h = some w → w ∈ Gs) (hT : ev_okD Gs cl Ct Pg) (hok : ev_k71 Gc Ct kt Pg sm own nm cc nL ret cd st.1 i = true) (h : sx_o71 i st hs = some (out, hs')) (k : ∀ t ∈ out, ∀ x1, sx_g p l e R s m args below meth c Q D cl dA T Y kd ad A hh0 Md nL cd t (r ++ x1)) : sx_g p l e R s m args below meth c Q D cl dA T Y kd ad A hh0 Md nL cd st r := by
  obtain ⟨ix, L, S, B, F, G⟩ := st
  have X0 := X.1
  unfold ev_k71 at hok
  simp only [Bool.and_eq_true, decide_eq_true_eq] at hok
  unfold sx_o71 at h
  try dsimp only at hok
  split at h
  · next y x S1 hS =>
    have hS : S = y :: x :: S1 := hS
    subst hS
    split at h
    · next hv =>
      obtain ⟨rfl, rfl⟩ := Prod.mk.inj (Option.some.inj h)
      have k1 := sx_k1 k
      intro H locs ls vs lv ws hh h1 h2 h3 h4 h5 h6 h7 h8 h9 h10 h11
      have h6q := h6.cons
      clear h6
      obtain ⟨yv, ys, rfl, hy, h6⟩ := h6q
      have h6q := h6.cons
      clear h6
      obtain ⟨xv, zs, rfl, hx, h6⟩ := h6q
      obtain ⟨j, rfl⟩ := hy.long hv.2
      obtain ⟨i9, rfl⟩ := hx.long hv.1
      exact lv_lxor X0.1.1 X0.1.2.1 hok.1 (sx_go k1 hok.2 h1 h2 h3 h4 h5 ⟨sx_vr.lg _ _ _, h6⟩ h7 h8 h9 h10 h11)
    · cases h
  · cases h
theorem sx_p72 (X : sx_X p s m args c D cl dA kt T tt kd ad A Gs own cc nL) (hGc : ∀ (h : Nat) (w : Cond), ev_hg Gc h = some w → w ∈ Gs) (hT : ev_okD Gs cl Ct Pg) (hok : ev_k72 Gc Ct kt Pg sm own nm cc nL ret cd st.1 i = true) (h : sx_o72 i st hs = some (out, hs')) (k : ∀ t ∈ out, ∀ x1, sx_g p l e R s m args below meth c Q D cl dA T Y kd ad A hh0 Md nL cd t (r ++ x1)) : sx_g p l e R s m args below meth c Q D cl dA T Y kd ad A hh0 Md nL cd st r := by
  obtain ⟨ix, L, S, B, F, G⟩ := st
  have X0 := X.1
  unfold ev_k72 at hok
  simp only [Bool.and_eq_true, decide_eq_true_eq] at hok
  unfold sx_o72 at h
  try dsimp only at hok
  split at h
  · next y x S1 hS =>
    have hS : S = y :: x :: S1 := hS
    subst hS
    split at h
    · next hv =>
      obtain ⟨rfl, rfl⟩ := Prod.mk.inj (Option.some.inj h)
      have k1 := sx_k1 k
      intro H locs ls vs lv ws hh h1 h2 h3 h4 h5 h6 h7 h8 h9 h10 h11
      have h6q := h6.cons
      clear h6
      obtain ⟨yv, ys, rfl, hy, h6⟩ := h6q
      have h6q := h6.cons
      clear h6
      obtain ⟨xv, zs, rfl, hx, h6⟩ := h6q
      obtain ⟨j, rfl, -⟩ := hy.int hv.2
      obtain ⟨i9, rfl⟩ := hx.long hv.1
      exact lv_lshl X0.1.1 X0.1.2.1 hok.1 rfl (sx_go k1 hok.2 h1 h2 h3 h4 h5 ⟨sx_vr.lg _ _ _, h6⟩ h7 h8 h9 h10 h11)
    · cases h
  · cases h
theorem sx_p73 (X : sx_X p s m args c D cl dA kt T tt kd ad A Gs own cc nL) (hGc : ∀ (h : Nat) (w : Cond), ev_hg Gc h = some w → w ∈ Gs) (hT : ev_okD Gs cl Ct Pg) (hok : ev_k73 Gc Ct kt Pg sm own nm cc nL ret cd st.1 i = true) (h : sx_o73 i st hs = some (out, hs')) (k : ∀ t ∈ out, ∀ x1, sx_g p l e R s m args below meth c Q D cl dA T Y kd ad A hh0 Md nL cd t (r ++ x1)) : sx_g p l e R s m args below meth c Q D cl dA T Y kd ad A hh0 Md nL cd st r := by
  obtain ⟨ix, L, S, B, F, G⟩ := st
  have X0 := X.1
  unfold ev_k73 at hok
  simp only [Bool.and_eq_true, decide_eq_true_eq] at hok
  unfold sx_o73 at h
  try dsimp only at hok
  split at h
  · next y x S1 hS =>
    have hS : S = y :: x :: S1 := hS
    subst hS
    split at h
    · next hv =>
      obtain ⟨rfl, rfl⟩ := Prod.mk.inj (Option.some.inj h)
      have k1 := sx_k1 k
      intro H locs ls vs lv ws hh h1 h2 h3 h4 h5 h6 h7 h8 h9 h10 h11
      have h6q := h6.cons
      clear h6
      obtain ⟨yv, ys, rfl, hy, h6⟩ := h6q
      have h6q := h6.cons
      clear h6
      obtain ⟨xv, zs, rfl, hx, h6⟩ := h6q
      obtain ⟨j, rfl, -⟩ := hy.int hv.2
      obtain ⟨i9, rfl⟩ := hx.long hv.1
      exact lv_lshr X0.1.1 X0.1.2.1 hok.1 rfl (sx_go k1 hok.2 h1 h2 h3 h4 h5 ⟨sx_vr.lg _ _ _, h6⟩ h7 h8 h9 h10 h11)
    · cases h
  · cases h
theorem sx_p74 (X : sx_X p s m args c D cl dA kt T tt kd ad A Gs own cc nL) (hGc : ∀ (h : Nat) (w : Cond), ev_hg Gc h = some w → w ∈ Gs) (hT : ev_okD Gs cl Ct Pg) (hok : ev_k74 Gc Ct kt Pg sm own nm cc nL ret cd st.1 i = true) (h : sx_o74 i st hs = some (out, hs')) (k : ∀ t ∈ out, ∀ x1, sx_g p l e R s m args below meth c Q D cl dA T Y kd ad A hh0 Md nL cd t (r ++ x1)) : sx_g p l e R s m args below meth c Q D cl dA T Y kd ad A hh0 Md nL cd st r := by
  obtain ⟨ix, L, S, B, F, G⟩ := st
  have X0 := X.1
  unfold ev_k74 at hok
  simp only [Bool.and_eq_true, decide_eq_true_eq] at hok
  unfold sx_o74 at h
  try dsimp only at hok
  split at h
  · next y x S1 hS =>
    have hS : S = y :: x :: S1 := hS
    subst hS
    split at h
    · next hv =>
      obtain ⟨rfl, rfl⟩ := Prod.mk.inj (Option.some.inj h)
      have k1 := sx_k1 k
      intro H locs ls vs lv ws hh h1 h2 h3 h4 h5 h6 h7 h8 h9 h10 h11
      have h6q := h6.cons
      clear h6
      obtain ⟨yv, ys, rfl, hy, h6⟩ := h6q
      have h6q := h6.cons
      clear h6
      obtain ⟨xv, zs, rfl, hx, h6⟩ := h6q
      obtain ⟨j, rfl, -⟩ := hy.int hv.2
      obtain ⟨i9, rfl⟩ := hx.long hv.1
      exact lv_lushr X0.1.1 X0.1.2.1 hok.1 rfl (sx_go k1 hok.2 h1 h2 h3 h4 h5 ⟨sx_vr.lg _ _ _, h6⟩ h7 h8 h9 h10 h11)
    · cases h
  · cases h
theorem sx_p75 (X : sx_X p s m args c D cl dA kt T tt kd ad A Gs own cc nL) (hGc : ∀ (h : Nat) (w : Cond), ev_hg Gc h = some w → w ∈ Gs) (hT : ev_okD Gs cl Ct Pg) (hok : ev_k75 Gc Ct kt Pg sm own nm cc nL ret cd st.1 i = true) (h : sx_o75 i st hs = some (out, hs')) (k : ∀ t ∈ out, ∀ x1, sx_g p l e R s m args below meth c Q D cl dA T Y kd ad A hh0 Md nL cd t (r ++ x1)) : sx_g p l e R s m args below meth c Q D cl dA T Y kd ad A hh0 Md nL cd st r := by
  obtain ⟨ix, L, S, B, F, G⟩ := st
  have X0 := X.1
  unfold ev_k75 at hok
  simp only [Bool.and_eq_true, decide_eq_true_eq] at hok
  unfold sx_o75 at h
  try dsimp only at hok
  split at h
  · next y x S1 hS =>
    have hS : S = y :: x :: S1 := hS
    subst hS
    split at h
    · next hv =>
      split at h
      · next h4q =>
        obtain ⟨rfl, rfl⟩ := Prod.mk.inj (Option.some.inj h)
        have k1 := sx_k1 k
        intro H locs ls vs lv ws hh h1 h2 h3 h4 h5 h6 h7 h8 h9 h10 h11
        have h6q := h6.cons
        clear h6
        obtain ⟨yv, ys, rfl, hy, h6⟩ := h6q
        have h6q := h6.cons
        clear h6
        obtain ⟨xv, zs, rfl, hx, h6⟩ := h6q
        obtain ⟨j, rfl, hj⟩ := hy.longf h4q.2
        obtain ⟨i9, rfl, hi⟩ := hx.longf h4q.1
        exact W.lcmp X0.1.1 X0.1.2.1 hok.1 (sx_go k1 hok.2 h1 h2 h3 h4 h5 ⟨sx_vr.sg (by rw [sx_ev_sub, ← hi, ← hj]; exact sx_sgn _ _), h6⟩ h7 h8 h9 h10 h11)
      · intro H locs ls vs lv ws hh h1 h2 h3 h4 h5 h6 h7 h8 h9 h10 h11
        have h6q := h6.cons
        clear h6
        obtain ⟨yv, ys, rfl, hy, h6⟩ := h6q
        have h6q := h6.cons
        clear h6
        obtain ⟨xv, zs, rfl, hx, h6⟩ := h6q
        obtain ⟨j, rfl⟩ := hy.long hv.2
        obtain ⟨i9, rfl⟩ := hx.long hv.1
        exact W.lcmp X0.1.1 X0.1.2.1 hok.1 (sx_pu_ok h k (sx_new_ok h1 (sx_cmp1 _ _).1 (sx_cmp1 _ _).2) hok.2 h1 h2 h3 h4 h5 h6 h7 h8 h9 h10 h11)
    · cases h
  · cases h
theorem sx_p76 (X : sx_X p s m args c D cl dA kt T tt kd ad A Gs own cc nL) (hGc : ∀ (h : Nat) (w : Cond), ev_hg Gc h = some w → w ∈ Gs) (hT : ev_okD Gs cl Ct Pg) (hok : ev_k76 Gc Ct kt Pg sm own nm cc nL ret cd st.1 i = true) (h : sx_o76 i st hs = some (out, hs')) (k : ∀ t ∈ out, ∀ x1, sx_g p l e R s m args below meth c Q D cl dA T Y kd ad A hh0 Md nL cd t (r ++ x1)) : sx_g p l e R s m args below meth c Q D cl dA T Y kd ad A hh0 Md nL cd st r := by
  obtain ⟨ix, L, S, B, F, G⟩ := st
  have X0 := X.1
  unfold ev_k76 at hok
  simp only [Bool.and_eq_true, decide_eq_true_eq] at hok
  unfold sx_o76 at h
  try dsimp only at hok
  split at h
  · next x S1 hS =>
    have hS : S = x :: S1 := hS
    subst hS
    split at h
    · next hv =>
      obtain ⟨rfl, rfl⟩ := Prod.mk.inj (Option.some.inj h)
      have k1 := sx_k1 k
      intro H locs ls vs lv ws hh h1 h2 h3 h4 h5 h6 h7 h8 h9 h10 h11
      have h6q := h6.cons
      clear h6
      obtain ⟨xv, zs, rfl, hx, h6⟩ := h6q
      obtain ⟨i9, rfl, hi⟩ := hx.int hv
      exact lv_i2l X0.1.1 X0.1.2.1 hok.1 rfl (sx_go k1 hok.2 h1 h2 h3 h4 h5 ⟨sx_vr.ll (by rw [Int32.toInt_toInt64]; exact hi), h6⟩ h7 h8 h9 h10 h11)
    · cases h
  · cases h
theorem sx_p77 (X : sx_X p s m args c D cl dA kt T tt kd ad A Gs own cc nL) (hGc : ∀ (h : Nat) (w : Cond), ev_hg Gc h = some w → w ∈ Gs) (hT : ev_okD Gs cl Ct Pg) (hok : ev_k77 Gc Ct kt Pg sm own nm cc nL ret cd st.1 i = true) (h : sx_o77 i st hs = some (out, hs')) (k : ∀ t ∈ out, ∀ x1, sx_g p l e R s m args below meth c Q D cl dA T Y kd ad A hh0 Md nL cd t (r ++ x1)) : sx_g p l e R s m args below meth c Q D cl dA T Y kd ad A hh0 Md nL cd st r := by
  obtain ⟨ix, L, S, B, F, G⟩ := st
  have X0 := X.1
  unfold ev_k77 at hok
  simp only [Bool.and_eq_true, decide_eq_true_eq] at hok
  unfold sx_o77 at h
  try dsimp only at hok
  split at h
  · next x S1 hS =>
    have hS : S = x :: S1 := hS
    subst hS
    split at h
    · next hv =>
      intro H locs ls vs lv ws hh h1 h2 h3 h4 h5 h6 h7 h8 h9 h10 h11
      have h6q := h6.cons
      clear h6
      obtain ⟨xv, zs, rfl, hx, h6⟩ := h6q
      obtain ⟨i9, rfl, hi⟩ := hx.longf hv
      exact lv_l2i X0.1.1 X0.1.2.1 hok.1 rfl (sx_pu_ok h k (sx_keep_ok h1 (by rw [Int64.toInt_toInt32, hi])) hok.2 h1 h2 h3 h4 h5 h6 h7 h8 h9 h10 h11)
    · split at h
      · next hv =>
        intro H locs ls vs lv ws hh h1 h2 h3 h4 h5 h6 h7 h8 h9 h10 h11
        have h6q := h6.cons
        clear h6
        obtain ⟨xv, zs, rfl, hx, h6⟩ := h6q
        obtain ⟨i9, rfl⟩ := hx.long (Or.inl hv)
        exact lv_l2i X0.1.1 X0.1.2.1 hok.1 rfl (sx_pu_ok h k (sx_fullA_ok h1 _) hok.2 h1 h2 h3 h4 h5 h6 h7 h8 h9 h10 h11)
      · cases h
  · cases h
theorem sx_p78 (X : sx_X p s m args c D cl dA kt T tt kd ad A Gs own cc nL) (hGc : ∀ (h : Nat) (w : Cond), ev_hg Gc h = some w → w ∈ Gs) (hT : ev_okD Gs cl Ct Pg) (hok : ev_k78 Gc Ct kt Pg sm own nm cc nL ret cd st.1 i = true) (h : sx_o78 i st hs = some (out, hs')) (k : ∀ t ∈ out, ∀ x1, sx_g p l e R s m args below meth c Q D cl dA T Y kd ad A hh0 Md nL cd t (r ++ x1)) : sx_g p l e R s m args below meth c Q D cl dA T Y kd ad A hh0 Md nL cd st r := by
  obtain ⟨ix, L, S, B, F, G⟩ := st
  have X0 := X.1
  unfold ev_k78 at hok
  simp only [Bool.and_eq_true, decide_eq_true_eq] at hok
  unfold sx_o78 at h
  try dsimp only at hok
  split at h
  · next x S1 hS =>
    have hS : S = x :: S1 := hS
    subst hS
    split at h
    · next hv =>
      intro H locs ls vs lv ws hh h1 h2 h3 h4 h5 h6 h7 h8 h9 h10 h11
      have h6q := h6.cons
      clear h6
      obtain ⟨xv, zs, rfl, hx, h6⟩ := h6q
      obtain ⟨i9, rfl, hi⟩ := hx.int hv
      exact lv_i2b X0.1.1 X0.1.2.1 hok.1 rfl (sx_pu_ok h k (sx_fi2b_ok h1 hi) hok.2 h1 h2 h3 h4 h5 h6 h7 h8 h9 h10 h11)
    · cases h
  · cases h
theorem sx_p79 (X : sx_X p s m args c D cl dA kt T tt kd ad A Gs own cc nL) (hGc : ∀ (h : Nat) (w : Cond), ev_hg Gc h = some w → w ∈ Gs) (hT : ev_okD Gs cl Ct Pg) (hok : ev_k79 Gc Ct kt Pg sm own nm cc nL ret cd st.1 i = true) (h : sx_o79 i st hs = some (out, hs')) (k : ∀ t ∈ out, ∀ x1, sx_g p l e R s m args below meth c Q D cl dA T Y kd ad A hh0 Md nL cd t (r ++ x1)) : sx_g p l e R s m args below meth c Q D cl dA T Y kd ad A hh0 Md nL cd st r := by
  obtain ⟨ix, L, S, B, F, G⟩ := st
  have X0 := X.1
  unfold ev_k79 at hok
  simp only [Bool.and_eq_true, decide_eq_true_eq] at hok
  unfold sx_o79 at h
  try dsimp only at hok
  split at h
  · next y x S1 hS =>
    have hS : S = y :: x :: S1 := hS
    subst hS
    split at h
    · next hv =>
      intro H locs ls vs lv ws hh h1 h2 h3 h4 h5 h6 h7 h8 h9 h10 h11
      have h6q := h6.cons
      clear h6
      obtain ⟨yv, ys, rfl, hy, h6⟩ := h6q
      have h6q := h6.cons
      clear h6
      obtain ⟨xv, zs, rfl, hx, h6⟩ := h6q
      obtain ⟨j, rfl, hj⟩ := hy.int hv.2.1
      obtain ⟨i9, rfl, hi⟩ := hx.int hv.1
      have hj0 : ¬ j = 0 := sx_ne0 (by have := sx_lo_ok (f := y.2.2) h1; have := hv.2.2; dsimp only at this; omega)
      exact lv_idiv X0.1.1 X0.1.2.1 hok.1 hj0 (sx_pu_ok h k (sx_fdiv_ok h1 hi hj) hok.2 h1 h2 h3 h4 h5 h6 h7 h8 h9 h10 h11)
    · cases h
  · cases h
theorem sx_p80 (X : sx_X p s m args c D cl dA kt T tt kd ad A Gs own cc nL) (hGc : ∀ (h : Nat) (w : Cond), ev_hg Gc h = some w → w ∈ Gs) (hT : ev_okD Gs cl Ct Pg) (hok : ev_k80 Gc Ct kt Pg sm own nm cc nL ret cd st.1 i = true) (h : sx_o80 i st hs = some (out, hs')) (k : ∀ t ∈ out, ∀ x1, sx_g p l e R s m args below meth c Q D cl dA T Y kd ad A hh0 Md nL cd t (r ++ x1)) : sx_g p l e R s m args below meth c Q D cl dA T Y kd ad A hh0 Md nL cd st r := by
  obtain ⟨ix, L, S, B, F, G⟩ := st
  have X0 := X.1
  unfold ev_k80 at hok
  simp only [Bool.and_eq_true, decide_eq_true_eq] at hok
  unfold sx_o80 at h
  try dsimp only at hok
  split at h
  · next y x S1 hS =>
    have hS : S = y :: x :: S1 := hS
    subst hS
    split at h
    · next hv =>
      intro H locs ls vs lv ws hh h1 h2 h3 h4 h5 h6 h7 h8 h9 h10 h11
      have h6q := h6.cons
      clear h6
      obtain ⟨yv, ys, rfl, hy, h6⟩ := h6q
      have h6q := h6.cons
      clear h6
      obtain ⟨xv, zs, rfl, hx, h6⟩ := h6q
      obtain ⟨j, rfl, hj⟩ := hy.int hv.2.1
      obtain ⟨i9, rfl, hi⟩ := hx.int hv.1
      have hj0 : ¬ j = 0 := sx_ne0 (by have := sx_lo_ok (f := y.2.2) h1; have := hv.2.2; dsimp only at this; omega)
      exact lv_irem X0.1.1 X0.1.2.1 hok.1 hj0 (sx_pu_ok h k (sx_frem_ok h1 hi hj) hok.2 h1 h2 h3 h4 h5 h6 h7 h8 h9 h10 h11)
    · cases h
  · cases h
theorem sx_p81 (X : sx_X p s m args c D cl dA kt T tt kd ad A Gs own cc nL) (hGc : ∀ (h : Nat) (w : Cond), ev_hg Gc h = some w → w ∈ Gs) (hT : ev_okD Gs cl Ct Pg) (hok : ev_k81 Gc Ct kt Pg sm own nm cc nL ret cd st.1 i = true) (h : sx_o81 i st hs = some (out, hs')) (k : ∀ t ∈ out, ∀ x1, sx_g p l e R s m args below meth c Q D cl dA T Y kd ad A hh0 Md nL cd t (r ++ x1)) : sx_g p l e R s m args below meth c Q D cl dA T Y kd ad A hh0 Md nL cd st r := by
  obtain ⟨ix, L, S, B, F, G⟩ := st
  have X0 := X.1
  unfold ev_k81 at hok
  simp only [Bool.and_eq_true, decide_eq_true_eq] at hok
  unfold sx_o81 at h
  try dsimp only at hok
  split at h
  · next y x S1 hS =>
    have hS : S = y :: x :: S1 := hS
    subst hS
    split at h
    · next hv =>
      intro H locs ls vs lv ws hh h1 h2 h3 h4 h5 h6 h7 h8 h9 h10 h11
      have h6q := h6.cons
      clear h6
      obtain ⟨yv, ys, rfl, hy, h6⟩ := h6q
      have h6q := h6.cons
      clear h6
      obtain ⟨xv, zs, rfl, hx, h6⟩ := h6q
      obtain ⟨j, rfl, hj⟩ := hy.int hv.2
      obtain ⟨i9, rfl, hi⟩ := hx.int hv.1
      exact lv_ishr X0.1.1 X0.1.2.1 hok.1 (sx_pu_ok h k (sx_fshr_ok h1 hi hj) hok.2 h1 h2 h3 h4 h5 h6 h7 h8 h9 h10 h11)
    · cases h
  · cases h
theorem sx_p82 (X : sx_X p s m args c D cl dA kt T tt kd ad A Gs own cc nL) (hGc : ∀ (h : Nat) (w : Cond), ev_hg Gc h = some w → w ∈ Gs) (hT : ev_okD Gs cl Ct Pg) (hok : ev_k82 Gc Ct kt Pg sm own nm cc nL ret cd st.1 i = true) (h : sx_o82 i st hs = some (out, hs')) (k : ∀ t ∈ out, ∀ x1, sx_g p l e R s m args below meth c Q D cl dA T Y kd ad A hh0 Md nL cd t (r ++ x1)) : sx_g p l e R s m args below meth c Q D cl dA T Y kd ad A hh0 Md nL cd st r := by
  obtain ⟨ix, L, S, B, F, G⟩ := st
  have X0 := X.1
  unfold ev_k82 at hok
  simp only [Bool.and_eq_true, decide_eq_true_eq] at hok
  unfold sx_o82 at h
  try dsimp only at hok
  split at h
  · next y x S1 hS =>
    have hS : S = y :: x :: S1 := hS
    subst hS
    split at h
    · next hv =>
      intro H locs ls vs lv ws hh h1 h2 h3 h4 h5 h6 h7 h8 h9 h10 h11
      have h6q := h6.cons
      clear h6
      obtain ⟨yv, ys, rfl, hy, h6⟩ := h6q
      have h6q := h6.cons
      clear h6
      obtain ⟨xv, zs, rfl, hx, h6⟩ := h6q
      obtain ⟨j, rfl, hj⟩ := hy.int hv.2
      obtain ⟨i9, rfl, hi⟩ := hx.int hv.1
      exact lv_iushr X0.1.1 X0.1.2.1 hok.1 rfl (sx_pu_ok h k (sx_fushr_ok h1 hi hj) hok.2 h1 h2 h3 h4 h5 h6 h7 h8 h9 h10 h11)
    · cases h
  · cases h
theorem sx_p83 (X : sx_X p s m args c D cl dA kt T tt kd ad A Gs own cc nL) (hGc : ∀ (h : Nat) (w : Cond), ev_hg Gc h = some w → w ∈ Gs) (hT : ev_okD Gs cl Ct Pg) (hok : ev_k83 Gc Ct kt Pg sm own nm cc nL ret cd st.1 i = true) (h : sx_o83 i st hs = some (out, hs')) (k : ∀ t ∈ out, ∀ x1, sx_g p l e R s m args below meth c Q D cl dA T Y kd ad A hh0 Md nL cd t (r ++ x1)) : sx_g p l e R s m args below meth c Q D cl dA T Y kd ad A hh0 Md nL cd st r := by
  obtain ⟨ix, L, S, B, F, G⟩ := st
  have X0 := X.1
  unfold ev_k83 at hok
  simp only [Bool.and_eq_true, decide_eq_true_eq] at hok
  unfold sx_o83 at h
  try dsimp only at hok
  split at h
  · next v hg =>
    split at h
    · next hv =>
      intro H locs ls vs lv ws hh h1 h2 h3 h4 h5 h6 h7 h8 h9 h10 h11
      obtain ⟨j, x, hj, hx⟩ := h5.get hg
      obtain ⟨i9, rfl, hi9⟩ := hx.int hv
      exact sx_iincw X0.1.1 X0.1.2.1 hok.1.1.1 h4 hj rfl hok.2 rfl (fun ls1 hl => sx_il_ok h k (sx_fadd_ok h1 hi9 (by rw [sx_ev_c, ← hok.1.2, ev_sx_eq]; omega)) hok.1.1.2 h1 h2 h3 hl h5 h6 h7 h8 h9 h10 h11)
    · cases h
  · cases h
theorem sx_p87 (X : sx_X p s m args c D cl dA kt T tt kd ad A Gs own cc nL) (hGc : ∀ (h : Nat) (w : Cond), ev_hg Gc h = some w → w ∈ Gs) (hT : ev_okD Gs cl Ct Pg) (hok : sx_k87 cc cd st.1 = true) (h : sx_o87 i st hs = some (out, hs')) (k : ∀ t ∈ out, ∀ x1, sx_g p l e R s m args below meth c Q D cl dA T Y kd ad A hh0 Md nL cd t (r ++ x1)) : sx_g p l e R s m args below meth c Q D cl dA T Y kd ad A hh0 Md nL cd st r := by
  obtain ⟨ix, L, S, B, F, G⟩ := st
  have X0 := X.1
  unfold sx_k87 at hok
  simp only [Bool.and_eq_true, decide_eq_true_eq] at hok
  unfold sx_o87 at h
  try dsimp only at hok
  split at h
  · next x S1 hS =>
    have hS : S = x :: S1 := hS
    subst hS
    split at h
    · next hv =>
      intro H locs ls vs lv ws hh h1 h2 h3 h4 h5 h6 h7 h8 h9 h10 h11
      have h6q := h6.cons
      clear h6
      obtain ⟨xv, zs, rfl, hx, h6⟩ := h6q
      obtain ⟨i9, rfl, hi⟩ := hx.int hv
      exact lv_i2s X0.1.1 X0.1.2.1 hok.1 rfl (sx_pu_ok h k (sx_fi2s_ok h1 hi) hok.2 h1 h2 h3 h4 h5 h6 h7 h8 h9 h10 h11)
    · cases h
  · cases h
theorem sx_p88 (X : sx_X p s m args c D cl dA kt T tt kd ad A Gs own cc nL) (hGc : ∀ (h : Nat) (w : Cond), ev_hg Gc h = some w → w ∈ Gs) (hT : ev_okD Gs cl Ct Pg) (hok : sx_k88 cc cd st.1 = true) (h : sx_o88 i st hs = some (out, hs')) (k : ∀ t ∈ out, ∀ x1, sx_g p l e R s m args below meth c Q D cl dA T Y kd ad A hh0 Md nL cd t (r ++ x1)) : sx_g p l e R s m args below meth c Q D cl dA T Y kd ad A hh0 Md nL cd st r := by
  obtain ⟨ix, L, S, B, F, G⟩ := st
  have X0 := X.1
  unfold sx_k88 at hok
  simp only [Bool.and_eq_true, decide_eq_true_eq] at hok
  unfold sx_o88 at h
  try dsimp only at hok
  split at h
  · next y x S1 hS =>
    have hS : S = y :: x :: S1 := hS
    subst hS
    split at h
    · next hv =>
      split at h
      · next d hd0 =>
        split at h
        · next hdp =>
          intro H locs ls vs lv ws hh h1 h2 h3 h4 h5 h6 h7 h8 h9 h10 h11
          have h6q := h6.cons
          clear h6
          obtain ⟨yv, ys, rfl, hy, h6⟩ := h6q
          have h6q := h6.cons
          clear h6
          obtain ⟨xv, zs, rfl, hx, h6⟩ := h6q
          obtain ⟨j, rfl, hj⟩ := hy.longf hv.2
          obtain ⟨i9, rfl⟩ := hx.long hv.1
          rw [sx_cn_ok hd0 r] at hj
          have m0 : (0 : Int64).toInt = 0 := by decide +kernel
          have hj0 : ¬ j = 0 := by
            intro e
            rw [e, m0] at hj
            omega
          rw [← hj] at h hdp
          exact lv_ldiv X0.1.1 X0.1.2.1 hok.1 hj0 (sx_ldv_ok h hdp k hx hok.2 h1 h2 h3 h4 h5 h6 h7 h8 h9 h10 h11)
        · cases h
      · cases h
    · cases h
  · cases h
theorem sx_p89 (X : sx_X p s m args c D cl dA kt T tt kd ad A Gs own cc nL) (hGc : ∀ (h : Nat) (w : Cond), ev_hg Gc h = some w → w ∈ Gs) (hT : ev_okD Gs cl Ct Pg) (hok : sx_k89 cc cd st.1 = true) (h : sx_o89 i st hs = some (out, hs')) (k : ∀ t ∈ out, ∀ x1, sx_g p l e R s m args below meth c Q D cl dA T Y kd ad A hh0 Md nL cd t (r ++ x1)) : sx_g p l e R s m args below meth c Q D cl dA T Y kd ad A hh0 Md nL cd st r := by
  obtain ⟨ix, L, S, B, F, G⟩ := st
  have X0 := X.1
  unfold sx_k89 at hok
  simp only [Bool.and_eq_true, decide_eq_true_eq] at hok
  unfold sx_o89 at h
  try dsimp only at hok
  split at h
  · next x S1 hS =>
    have hS : S = x :: S1 := hS
    subst hS
    split at h
    · next hv =>
      obtain ⟨rfl, rfl⟩ := Prod.mk.inj (Option.some.inj h)
      have k1 := sx_k1 k
      intro H locs ls vs lv ws hh h1 h2 h3 h4 h5 h6 h7 h8 h9 h10 h11
      have h6q := h6.cons
      clear h6
      obtain ⟨xv, zs, rfl, hx, h6⟩ := h6q
      obtain ⟨i9, rfl⟩ := hx.long hv
      exact lv_lneg X0.1.1 X0.1.2.1 hok.1 (sx_go k1 hok.2 h1 h2 h3 h4 h5 ⟨sx_vr.lg _ _ _, h6⟩ h7 h8 h9 h10 h11)
    · cases h
  · cases h
end SXP
