/-! The second machine's steps -/
/-- tables that nobody writes: class, name, descriptor, kind -/
def sx_Tb (T : List sx_K) (tt : List (String × String × String × Nat)) (kd : List (Nat × Nat)) (ad : List Nat) (A : Nat → Prop) (U : State) (H : Heap) : Prop := ∀ q ∈ tt, ∃ (j t : Nat) (K : sx_K), kd[j]? = some (q.2.2.2, 0) ∧ ad[j]? = some t ∧ (∀ j' c, kd[j']? = some (q.2.2.2, c) → j' = j) ∧ T[q.2.2.2]? = some K ∧ K.1 = 7 ∧ va_Z q.1 q.2.1 q.2.2.1 (.ref t) A U H ∧
  ((K.2.1 = 0 ∧ ∃ f : Nat → Int32, va_T .int t K.2.2.1 (fun j => .int (f j)) A U H ∧ (∀ y : sx_T, K.2.2.2.length = 1 → K.2.2.2[0]? = some y → ∀ j, j < K.2.2.1 → y.2.2.1 ≤ (f j).toInt ∧ (f j).toInt ≤ y.2.2.2) ∧ ∀ (j : Nat) (y : sx_T), K.2.2.2.length ≠ 1 → j < K.2.2.1 → K.2.2.2[j]? = some y → y.2.2.1 = (f j).toInt) ∨ (K.2.1 = 1 ∧ ∃ f : Nat → Int64, va_T .long t K.2.2.1 (fun j => .long (f j)) A U H))
theorem sx_Tb.moved {T : List sx_K} {tt : List (String × String × String × Nat)} {kd : List (Nat × Nat)} {ad : List Nat} {A : Nat → Prop} {u U : State} {H : Heap} (hvm : u.vm.Alike U.vm) (h : sx_Tb T tt kd ad A u H) : sx_Tb T tt kd ad A U H := fun q hq => by
  obtain ⟨j, t, K, a1, a2, a3, a4, a5, a6, a7⟩ := h q hq
  refine ⟨j, t, K, a1, a2, a3, a4, a5, va_Z.moved hvm a6, ?_⟩
  rcases a7 with ⟨b1, f, b2, b3⟩ | ⟨b1, f, b2⟩
  · exact Or.inl ⟨b1, f, va_T.moved hvm b2, b3⟩
  · exact Or.inr ⟨b1, f, va_T.moved hvm b2⟩
theorem sx_Tb.kept {T : List sx_K} {tt : List (String × String × String × Nat)} {kd : List (Nat × Nat)} {ad : List Nat} {A : Nat → Prop} {U : State} {H H1 : Heap} (h : sx_Tb T tt kd ad A U H) (hk : ∀ a : Nat, a < H.size → ¬ A a → H1[a]? = H[a]?) : sx_Tb T tt kd ad A U H1 := fun q hq => by
  obtain ⟨j, t, K, a1, a2, a3, a4, a5, a6, a7⟩ := h q hq
  refine ⟨j, t, K, a1, a2, a3, a4, a5, a6.kept hk, ?_⟩
  rcases a7 with ⟨b1, f, b2, b3⟩ | ⟨b1, f, b2⟩
  · exact Or.inl ⟨b1, f, b2.kept hk, b3⟩
  · exact Or.inr ⟨b1, f, b2.kept hk⟩
theorem sx_Tb.narrow {T : List sx_K} {tt : List (String × String × String × Nat)} {kd : List (Nat × Nat)} {ad : List Nat} {A A' : Nat → Prop} {U : State} {H : Heap} (h : sx_Tb T tt kd ad A U H) (hA : ∀ q, A' q → A q) : sx_Tb T tt kd ad A' U H := fun q hq => by
  obtain ⟨j, t, K, a1, a2, a3, a4, a5, a6, a7⟩ := h q hq
  refine ⟨j, t, K, a1, a2, a3, a4, a5, a6.narrow hA, ?_⟩
  rcases a7 with ⟨b1, f, b2, b3⟩ | ⟨b1, f, b2⟩
  · exact Or.inl ⟨b1, f, b2.narrow hA, b3⟩
  · exact Or.inr ⟨b1, f, b2.narrow hA⟩
def sx_X (p : Program) (s : State) (m : MethodId) (args : Array Value) (c : Code) (D : va_G) (cl : List vw_C) (dA : Nat → ClassId) (kt : List FieldType) (T : List sx_K) (tt : List (String × String × String × Nat)) (kd : List (Nat × Nat)) (ad : List Nat) (A : Nat → Prop) (Gs : List Cond) (own : String) (cc : ByteArray) (nL : Nat) : Prop :=
  ev_X p s m args c D cl dA kt A Gs own cc nL ∧ sx_Tb T tt kd ad A s s.heap ∧ sx_Sg kd
def sx_g (p : Program) (l : Launch) (e : Env) (R : Room) (s : State) (m : MethodId) (args : Array Value) (below : List Frame) (meth : Method) (c : Code) (Q : State → Prop) (D : va_G) (cl : List vw_C) (dA : Nat → ClassId) (T : List sx_K) (Y : sx_Y) (kd : List (Nat × Nat)) (ad : List Nat) (A : Nat → Prop) (hh0 : sx_H) (Md : List (Nat × Nat)) (nL : Nat) (cd : ev_Cd) (st : sx_S) (r : List Int) : Prop :=
  ∀ (H : Heap) (locs : List Loc) (ls : Array Slot) (vs : List Value) (lv : List (Nat × Value)) (ws : va_W) (hh : sx_H), sx_b st.2.2.2.1 r → sx_fs st.2.2.2.2.1 r → sx_gr Y r hh st.2.2.2.2.2 → lv_has ls nL lv → sx_lr r kd ad st.2.1 lv → sx_sr r kd ad st.2.2.1 vs → sx_wr T kd ad dA ws hh → sx_fr Md hh0 hh → va_P D cl ws H → va_D A ws → va_S A s.heap H locs → W p l e R s m args below meth c H locs 0 0 Q (F0 m (ev_pc cd st.1) ls vs)
def sx_wf (n : Nat) (L : List (Nat × (Nat × Nat × List Int))) (S : List (Nat × Nat × List Int)) (F : List (List Int)) (G : sx_Gt) : Bool := sx_wL n L && (sx_wS n S && (sx_wF n F && sx_wG n G))
section SXO
variable {p : Program} {l : Launch} {e : Env} {R : Room} {s : State} {m : MethodId} {args : Array Value} {below : List Frame} {meth : Method} {c : Code} {Q : State → Prop}
variable {D : va_G} {cl : List vw_C} {dA : Nat → ClassId} {kt : List FieldType} {A : Nat → Prop} {hh0 : sx_H} {Gs : List Cond} {own : String} {cc : ByteArray} {nL : Nat} {cd : ev_Cd}
variable {T : List sx_K} {kd : List (Nat × Nat)} {ad : List Nat} {Md : List (Nat × Nat)} {tt : List (String × String × String × Nat)} {Y : sx_Y} {r : List Int}
variable {ix : Nat} {L : List (Nat × (Nat × Nat × List Int))} {S S1 : List (Nat × Nat × List Int)} {B : List (Int × Int)} {F : List (List Int)} {G : sx_Gt} {hs hs' : List (List (List Int))} {out : List sx_S}
theorem sx_go (k : sx_g p l e R s m args below meth c Q D cl dA T Y kd ad A hh0 Md nL cd (ix, L, S, B, F, G) r) {pc : Nat} (hn : ev_pc cd ix = pc) {H : Heap} {locs : List Loc} {ls : Array Slot} {vs : List Value} {lv : List (Nat × Value)} {ws : va_W} {hh : sx_H} (h1 : sx_b B r) (h2 : sx_fs F r) (h3 : sx_gr Y r hh G) (h4 : lv_has ls nL lv) (h5 : sx_lr r kd ad L lv) (h6 : sx_sr r kd ad S vs) (h7 : sx_wr T kd ad dA ws hh) (h8 : sx_fr Md hh0 hh) (h9 : va_P D cl ws H) (h10 : va_D A ws) (h11 : va_S A s.heap H locs) : W p l e R s m args below meth c H locs 0 0 Q (F0 m pc ls vs) := by
  subst hn
  exact k H locs ls vs lv ws hh h1 h2 h3 h4 h5 h6 h7 h8 h9 h10 h11
/-- as it was, with more numbers -/
theorem sx_gon {x1 : List Int} {B1 : List (Int × Int)} {F1 : List (List Int)} {S2 : List (Nat × Nat × List Int)} {ys : List Value} (hw : B1 = [] ∨ sx_wf B.length L S F G = true) (b1 : sx_b B1 x1) (f1 : sx_fs F1 (r ++ x1)) (s2 : sx_sr (r ++ x1) kd ad S2 ys) (k : sx_g p l e R s m args below meth c Q D cl dA T Y kd ad A hh0 Md nL cd (ix, L, S2 ++ S, B ++ B1, F ++ F1, G) (r ++ x1)) {pc : Nat} (hn : ev_pc cd ix = pc) {H : Heap} {locs : List Loc} {ls : Array Slot} {vs : List Value} {lv : List (Nat × Value)} {ws : va_W} {hh : sx_H} (h1 : sx_b B r) (h2 : sx_fs F r) (h3 : sx_gr Y r hh G) (h4 : lv_has ls nL lv) (h5 : sx_lr r kd ad L lv) (h6 : sx_sr r kd ad S vs) (h7 : sx_wr T kd ad dA ws hh) (h8 : sx_fr Md hh0 hh) (h9 : va_P D cl ws H) (h10 : va_D A ws) (h11 : va_S A s.heap H locs) : W p l e R s m args below meth c H locs 0 0 Q (F0 m pc ls (ys ++ vs)) := by
  rcases hw with rfl | hw
  · have e : x1 = [] := by
      cases x1 with
      | nil => rfl
      | cons _ _ => exact b1.elim
    subst e
    rw [List.append_nil] at f1 s2 k
    rw [List.append_nil] at k
    refine sx_go k hn h1 (fun f hf => ?_) h3 h4 h5 (sx_sr.app s2 h6) h7 h8 h9 h10 h11
    rcases List.mem_append.mp hf with hf | hf
    · exact h2 f hf
    · exact f1 f hf
  · have hl := sx_b_len h1
    unfold sx_wf at hw
    simp only [Bool.and_eq_true] at hw
    refine sx_go k hn (sx_b_app h1 b1) (fun f hf => ?_) (h3.row hl hw.2.2.2) h4 (h5.row hl hw.1) (sx_sr.app s2 (h6.row hl hw.2.1)) h7 h8 h9 h10 h11
    rcases List.mem_append.mp hf with hf | hf
    · exact h2.row hl hw.2.2.1 f hf
    · exact f1 f hf
/-- an int comes onto the stack -/
def sx_pu (st : sx_S) (S1 : List (Nat × Nat × List Int)) (a : sx_A) (hs : List (List (List Int))) : Option (List sx_S × List (List (List Int))) := if a.2.1.isEmpty || sx_wf st.2.2.2.1.length st.2.1 S1 st.2.2.2.2.1 st.2.2.2.2.2 then some ([(st.1 + 1, st.2.1, (0, 0, a.1) :: S1, st.2.2.2.1 ++ a.2.1, st.2.2.2.2.1 ++ a.2.2, st.2.2.2.2.2)], hs) else none
theorem sx_pu_ok {a : sx_A} (hp : sx_pu (ix, L, S, B, F, G) S1 a hs = some (out, hs')) (k : ∀ t ∈ out, ∀ x1, sx_g p l e R s m args below meth c Q D cl dA T Y kd ad A hh0 Md nL cd t (r ++ x1)) {i : Int32} (ha : sx_aok r a i.toInt) {pc : Nat} (hn : ev_pc cd (ix + 1) = pc) {H : Heap} {locs : List Loc} {ls : Array Slot} {vs : List Value} {lv : List (Nat × Value)} {ws : va_W} {hh : sx_H} (h1 : sx_b B r) (h2 : sx_fs F r) (h3 : sx_gr Y r hh G) (h4 : lv_has ls nL lv) (h5 : sx_lr r kd ad L lv) (h6 : sx_sr r kd ad S1 vs) (h7 : sx_wr T kd ad dA ws hh) (h8 : sx_fr Md hh0 hh) (h9 : va_P D cl ws H) (h10 : va_D A ws) (h11 : va_S A s.heap H locs) : W p l e R s m args below meth c H locs 0 0 Q (F0 m pc ls (.int i :: vs)) := by
  unfold sx_pu at hp
  split at hp
  · next hc =>
    obtain ⟨x1, b1, f1, e1⟩ := ha
    have hp := (Prod.mk.inj (Option.some.inj hp)).1
    subst hp
    have k' := k _ (List.mem_singleton.mpr rfl) x1
    refine sx_gon (ys := [.int i]) (S2 := [(0, 0, a.1)]) ?_ b1 f1 ⟨sx_vr.it e1, trivial⟩ k' hn h1 h2 h3 h4 h5 h6 h7 h8 h9 h10 h11
    rcases Bool.or_eq_true _ _ |>.mp hc with hc | hc
    · exact Or.inl (List.isEmpty_iff.mp hc)
    · exact Or.inr hc
  · cases hp
/-- what is known with some sums more -/
def sx_kn (B : List (Int × Int)) (F : List (List Int)) : List (List Int) → List (Int × Int) × List (List Int)
  | [] => (B, F)
  | f :: fs => sx_kn (sx_know B F f).1 (sx_know B F f).2 fs
theorem sx_kn_ok {r : List Int} : ∀ (fs : List (List Int)) {B : List (Int × Int)} {F : List (List Int)}, sx_b B r → sx_fs F r → sx_fs fs r → sx_b (sx_kn B F fs).1 r ∧ sx_fs (sx_kn B F fs).2 r
  | [], _, _, hb, hF, _ => ⟨hb, hF⟩
  | f :: fs, B, F, hb, hF, h => by
    obtain ⟨a, b⟩ := sx_know_ok hb hF (h f List.mem_cons_self)
    exact sx_kn_ok fs a b (fun g hg => h g (List.mem_cons_of_mem _ hg))
/-- going on at a place with some sums more -/
def sx_br (ix : Nat) (L : List (Nat × (Nat × Nat × List Int))) (S : List (Nat × Nat × List Int)) (B : List (Int × Int)) (F : List (List Int)) (G : sx_Gt) (fs : List (List Int)) : List sx_S := if sx_no (sx_kn B F fs).1 || fs.any (fun f => decide (sx_hi f B < 0)) then [] else [(ix, L, S, (sx_kn B F fs).1, (sx_kn B F fs).2, G)]
theorem sx_br_ok {fs : List (List Int)} (k : ∀ t ∈ sx_br ix L S B F G fs, sx_g p l e R s m args below meth c Q D cl dA T Y kd ad A hh0 Md nL cd t r) (hf : sx_fs fs r) {pc : Nat} (hn : ev_pc cd ix = pc) {H : Heap} {locs : List Loc} {ls : Array Slot} {vs : List Value} {lv : List (Nat × Value)} {ws : va_W} {hh : sx_H} (h1 : sx_b B r) (h2 : sx_fs F r) (h3 : sx_gr Y r hh G) (h4 : lv_has ls nL lv) (h5 : sx_lr r kd ad L lv) (h6 : sx_sr r kd ad S vs) (h7 : sx_wr T kd ad dA ws hh) (h8 : sx_fr Md hh0 hh) (h9 : va_P D cl ws H) (h10 : va_D A ws) (h11 : va_S A s.heap H locs) : W p l e R s m args below meth c H locs 0 0 Q (F0 m pc ls vs) := by
  obtain ⟨b1, b2⟩ := sx_kn_ok fs h1 h2 hf
  unfold sx_br at k
  have hno : (sx_no (sx_kn B F fs).1 || fs.any (fun f => decide (sx_hi f B < 0))) = false := by
    rw [sx_no_r b1, Bool.false_or]
    cases hA : fs.any (fun f => decide (sx_hi f B < 0)) with
    | false => rfl
    | true =>
      obtain ⟨f, q1, q2⟩ := List.any_eq_true.mp hA
      have q2 := of_decide_eq_true q2
      have q3 := sx_hi_ok (f := f) h1
      have q4 := hf f q1
      omega
  rw [if_neg (by rw [hno]; decide)] at k
  exact sx_go (k _ (List.mem_singleton.mpr rfl)) hn b1 b2 h3 h4 h5 h6 h7 h8 h9 h10 h11
/-- what a comparison of d with 0 tells -/
def sx_cp (t : Nat) (z : Int) : Prop := match t with
  | 0 => z = 0
  | 1 => ¬ z = 0
  | 2 => z < 0
  | 3 => 0 ≤ z
  | 4 => 0 < z
  | _ => z ≤ 0
def sx_cf (t : Nat) (d : List Int) (B : List (Int × Int)) : List (List Int) := match t with
  | 0 => [d, sx_mul (-1) d]
  | 1 => if 0 ≤ sx_lo d B then [sx_sub d [1]] else if sx_hi d B ≤ 0 then [sx_sub [-1] d] else []
  | 2 => [sx_sub [-1] d]
  | 3 => [d]
  | 4 => [sx_sub d [1]]
  | _ => [sx_mul (-1) d]
theorem sx_cf_ok {t : Nat} {d : List Int} (hb : sx_b B r) (h : sx_cp t (sx_ev d r)) : sx_fs (sx_cf t d B) r := by
  have a1 := sx_lo_ok (f := d) hb
  have a2 := sx_hi_ok (f := d) hb
  unfold sx_cp at h
  unfold sx_cf
  intro f hf
  split at h <;> simp only at hf
  · rcases List.mem_cons.mp hf with rfl | hf
    · omega
    · rw [List.mem_singleton.mp hf, sx_ev_mul]; omega
  · split at hf
    · rw [List.mem_singleton.mp hf, sx_ev_sub, sx_ev_c]; omega
    · split at hf
      · rw [List.mem_singleton.mp hf, sx_ev_sub, sx_ev_c]; omega
      · cases hf
  · rw [List.mem_singleton.mp hf, sx_ev_sub, sx_ev_c]; omega
  · rw [List.mem_singleton.mp hf]; omega
  · rw [List.mem_singleton.mp hf, sx_ev_sub, sx_ev_c]; omega
  · next n0 n1 n2 n3 n4 =>
    rw [List.mem_singleton.mp hf, sx_ev_mul]; omega
/-- unequal, where a hint says which is the less -/
def sx_cfh (t : Nat) (d : List Int) (B : List (Int × Int)) (F : List (List Int)) (hs : List (List (List Int))) : Option (List (List Int) × List (List (List Int))) := if t = 1 then (if 0 ≤ sx_lo d B then some ([sx_sub d [1]], hs) else if sx_hi d B ≤ 0 then some ([sx_sub [-1] d], hs) else match hs with
  | [[-5]] :: hs1 => (match sx_pos B F d hs1 with
    | some hs2 => some ([sx_sub d [1]], hs2)
    | none => none)
  | [[-6]] :: hs1 => (match sx_pos B F (sx_mul (-1) d) hs1 with
    | some hs2 => some ([sx_sub [-1] d], hs2)
    | none => none)
  | _ => some ([], hs)) else some (sx_cf t d B, hs)
theorem sx_cfh_ok {t : Nat} {d : List Int} {fs : List (List Int)} (hb : sx_b B r) (hF : sx_fs F r) (h : sx_cfh t d B F hs = some (fs, hs')) (hc : sx_cp t (sx_ev d r)) : sx_fs fs r := by
  have a1 := sx_lo_ok (f := d) hb
  have a2 := sx_hi_ok (f := d) hb
  unfold sx_cfh at h
  split at h
  · next ht =>
    subst ht
    have hc : ¬ sx_ev d r = 0 := hc
    split at h
    · have e := (Prod.mk.inj (Option.some.inj h)).1
      rw [← e]
      intro f hf
      rw [List.mem_singleton.mp hf, sx_ev_sub, sx_ev_c]; omega
    · split at h
      · have e := (Prod.mk.inj (Option.some.inj h)).1
        rw [← e]
        intro f hf
        rw [List.mem_singleton.mp hf, sx_ev_sub, sx_ev_c]; omega
      · split at h
        · split at h
          · next hs2 hp =>
            have p1 := sx_pos_ok hb hF hp
            have e := (Prod.mk.inj (Option.some.inj h)).1
            rw [← e]
            intro f hf
            rw [List.mem_singleton.mp hf, sx_ev_sub, sx_ev_c]; omega
          · cases h
        · split at h
          · next hs2 hp =>
            have p1 := sx_pos_ok hb hF hp
            rw [sx_ev_mul] at p1
            have e := (Prod.mk.inj (Option.some.inj h)).1
            rw [← e]
            intro f hf
            rw [List.mem_singleton.mp hf, sx_ev_sub, sx_ev_c]; omega
          · cases h
        · have e := (Prod.mk.inj (Option.some.inj h)).1
          rw [← e]
          intro f hf
          cases hf
  · have e := (Prod.mk.inj (Option.some.inj h)).1
    rw [← e]
    exact sx_cf_ok hb hc
theorem sx_cp_of {t : Nat} {i j : Int32} (h : ev_cp t i j) : sx_cp t (i.toInt - j.toInt) := by
  unfold ev_cp at h
  unfold sx_cp
  split at h
  · subst h; show _ - _ = (0 : Int); omega
  · show ¬ _ = (0 : Int); intro q; exact h (Int32.toInt_inj.mp (by omega))
  · have := Int32.lt_iff_toInt_lt.mp h; show _ < (0 : Int); omega
  · have := Int32.le_iff_toInt_le.mp h; show (0 : Int) ≤ _; omega
  · have := Int32.lt_iff_toInt_lt.mp h; show (0 : Int) < _; omega
  · next n0 n1 n2 n3 n4 =>
    have := Int32.le_iff_toInt_le.mp h
    split
    all_goals first | (exfalso; first | exact n0 rfl | exact n1 rfl | exact n2 rfl | exact n3 rfl | exact n4 rfl) | omega
theorem sx_cp_no {t : Nat} {i j : Int32} (h : ¬ ev_cp t i j) : ev_cp (ev_ng t) i j := by
  unfold ev_cp at h
  split at h
  · exact h
  · exact Classical.not_not.mp h
  · show j ≤ i
    rw [Int32.le_iff_toInt_le]
    rw [Int32.lt_iff_toInt_lt] at h
    omega
  · show i < j
    rw [Int32.lt_iff_toInt_lt]
    rw [Int32.le_iff_toInt_le] at h
    omega
  · show i ≤ j
    rw [Int32.le_iff_toInt_le]
    rw [Int32.lt_iff_toInt_lt] at h
    omega
  · have h9 : ev_ng t = 4 := by
      unfold ev_ng
      split
      all_goals first | rfl | (exfalso; simp_all; done)
    rw [h9]
    show j < i
    rw [Int32.lt_iff_toInt_lt]
    rw [Int32.le_iff_toInt_le] at h
    omega
theorem sx_sg_cp {t : Nat} {z : Int} {i : Int32} (hs : sx_sg z i) (h : ev_cp t i 0) : sx_cp t z := by
  have m0 : (0 : Int32).toInt = 0 := by decide +kernel
  have m1 : (1 : Int32).toInt = 1 := by decide +kernel
  have m2 : (-1 : Int32).toInt = -1 := by decide +kernel
  have h := sx_cp_of h
  obtain ⟨s1, s2, s3⟩ := hs
  have hz : (0 < z ∧ i.toInt = 1) ∨ (z = 0 ∧ i.toInt = 0) ∨ (z < 0 ∧ i.toInt = -1) := by
    rcases Int.lt_trichotomy z 0 with q | q | q
    · exact Or.inr (Or.inr ⟨q, by rw [s3 q, m2]⟩)
    · exact Or.inr (Or.inl ⟨q, by rw [s2 q, m0]⟩)
    · exact Or.inl ⟨q, by rw [s1 q, m1]⟩
  rw [m0] at h
  unfold sx_cp at h ⊢
  split at h
  · show z = 0; omega
  · show ¬ z = 0; omega
  · show z < 0; omega
  · show 0 ≤ z; omega
  · show 0 < z; omega
  · next n0 n1 n2 n3 n4 =>
    first
      | omega
      | (split
         all_goals first | (exfalso; first | exact n0 rfl | exact n1 rfl | exact n2 rfl | exact n3 rfl | exact n4 rfl) | omega)
end SXO
