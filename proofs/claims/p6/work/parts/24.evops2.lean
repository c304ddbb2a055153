section EV2
variable {p : Program} {l : Launch} {e : Env} {R : Room} {s : State} {m : MethodId} {args : Array Value} {below : List Frame} {meth : Method} {c : Code} {Q : State → Prop}
variable {D : va_G} {cl : List vw_C} {dA : Nat → ClassId} {kt : List FieldType} {A : Nat → Prop} {ws0 : va_W} {Gs : List Cond} {own : String} {cc : ByteArray} {nL : Nat} {cd : ev_Cd}
variable {ix nc ns : Nat} {L : List (Nat × (Nat × Nat × Nat))} {S : List (Nat × Nat × Nat)} {w : List ev_C}
theorem ev_s_iinc (X : ev_X p s m args c D cl dA kt A Gs own cc nL) {a : Nat} {n : Int} {v b : ev_V} (hd : decode cc (ev_pc cd ix) = .ok (.iinc a n, 3)) (hb : ev_in b (Int32.ofInt n)) (hn : ev_pc cd (ix + 1) = ev_pc cd ix + 3) (hL : a < nL) (hg : ev_get L a = some v) (hv : v.1 = 0) (h0 : (ev_fadd v b).1 = 0)
    (k : ev_G p l e R s m args below meth c Q D cl dA A ws0 nL cd (ix + 1, ev_put L a (ev_fadd v b), S, w, nc, ns)) : ev_G p l e R s m args below meth c Q D cl dA A ws0 nL cd (ix, L, S, w, nc, ns) := by
  intro H locs ls vs lv ws h1 h2 h3 h4 h5 h6 h7 h8
  obtain ⟨j, x, hj, hx⟩ := h2.get hg
  obtain ⟨i, rfl, hi⟩ := hx.int hv
  exact lv_iinc X.1.1 X.1.2.1 hd h1 hj rfl hL rfl (fun ls' hl => ev_go k hn hl (h2.put (ev_vr.it h0 (ev_fadd_in hi hb))) h3 h4 h5 h6 h7 h8)
/-- two ints become one -/
theorem ev_s_bin {g : Int32 → Int32 → Int32} {x y z : ev_V} (hx : x.1 = 0) (hy : y.1 = 0) (hz : z.1 = 0) (hfg : ∀ i j, ev_in x i → ev_in y j → ev_in z (g i j)) (hn : ev_pc cd (ix + 1) = ev_pc cd ix + 1)
    (row : ∀ {H : Heap} {locs : List Loc} {ls : Array Slot} {vs : List Value} (i j : Int32), W p l e R s m args below meth c H locs nc ns Q (F0 m (ev_pc cd ix + 1) ls (.int (g i j) :: vs)) → W p l e R s m args below meth c H locs nc ns Q (F0 m (ev_pc cd ix) ls (.int j :: .int i :: vs)))
    (k : ev_G p l e R s m args below meth c Q D cl dA A ws0 nL cd (ix + 1, L, z :: S, w, nc, ns)) : ev_G p l e R s m args below meth c Q D cl dA A ws0 nL cd (ix, L, y :: x :: S, w, nc, ns) := by
  intro H locs ls vs lv ws h1 h2 h3 h4 h5 h6 h7 h8
  have h3q := h3.cons
  clear h3
  obtain ⟨v1, ys, rfl, hv1, h3⟩ := h3q
  have h3q := h3.cons
  clear h3
  obtain ⟨v2, zs, rfl, hv2, h3⟩ := h3q
  obtain ⟨j, rfl, hj⟩ := hv1.int hy
  obtain ⟨i, rfl, hi⟩ := hv2.int hx
  exact row i j (ev_go k hn h1 h2 ⟨ev_vr.it hz (hfg i j hi hj), h3⟩ h4 h5 h6 h7 h8)
/-- an int becomes one -/
theorem ev_s_un {g : Int32 → Int32} {x z : ev_V} (hx : x.1 = 0) (hz : z.1 = 0) (hfg : ∀ i, ev_in x i → ev_in z (g i)) (hn : ev_pc cd (ix + 1) = ev_pc cd ix + 1)
    (row : ∀ {H : Heap} {locs : List Loc} {ls : Array Slot} {vs : List Value} (i : Int32), W p l e R s m args below meth c H locs nc ns Q (F0 m (ev_pc cd ix + 1) ls (.int (g i) :: vs)) → W p l e R s m args below meth c H locs nc ns Q (F0 m (ev_pc cd ix) ls (.int i :: vs)))
    (k : ev_G p l e R s m args below meth c Q D cl dA A ws0 nL cd (ix + 1, L, z :: S, w, nc, ns)) : ev_G p l e R s m args below meth c Q D cl dA A ws0 nL cd (ix, L, x :: S, w, nc, ns) := by
  intro H locs ls vs lv ws h1 h2 h3 h4 h5 h6 h7 h8
  have h3q := h3.cons
  clear h3
  obtain ⟨v1, ys, rfl, hv1, h3⟩ := h3q
  obtain ⟨i, rfl, hi⟩ := hv1.int hx
  exact row i (ev_go k hn h1 h2 ⟨ev_vr.it hz (hfg i hi), h3⟩ h4 h5 h6 h7 h8)
theorem ev_s_dup (X : ev_X p s m args c D cl dA kt A Gs own cc nL) {v : ev_V} (hd : decode cc (ev_pc cd ix) = .ok (.dup, 1)) (hn : ev_pc cd (ix + 1) = ev_pc cd ix + 1) (hv : v.1 ≠ 1)
    (k : ev_G p l e R s m args below meth c Q D cl dA A ws0 nL cd (ix + 1, L, v :: v :: S, w, nc, ns)) : ev_G p l e R s m args below meth c Q D cl dA A ws0 nL cd (ix, L, v :: S, w, nc, ns) := by
  intro H locs ls vs lv ws h1 h2 h3 h4 h5 h6 h7 h8
  have h3q := h3.cons
  clear h3
  obtain ⟨x, ys, rfl, hx, h3⟩ := h3q
  exact lv_dup X.1.1 X.1.2.1 hd (hx.cat1 hv) (ev_go k hn h1 h2 ⟨hx, hx, h3⟩ h4 h5 h6 h7 h8)
theorem ev_s_pop (X : ev_X p s m args c D cl dA kt A Gs own cc nL) {v : ev_V} (hd : decode cc (ev_pc cd ix) = .ok (.pop, 1)) (hn : ev_pc cd (ix + 1) = ev_pc cd ix + 1) (hv : v.1 ≠ 1)
    (k : ev_G p l e R s m args below meth c Q D cl dA A ws0 nL cd (ix + 1, L, S, w, nc, ns)) : ev_G p l e R s m args below meth c Q D cl dA A ws0 nL cd (ix, L, v :: S, w, nc, ns) := by
  intro H locs ls vs lv ws h1 h2 h3 h4 h5 h6 h7 h8
  have h3q := h3.cons
  clear h3
  obtain ⟨x, ys, rfl, hx, h3⟩ := h3q
  exact lv_pop X.1.1 X.1.2.1 hd (hx.cat1 hv) (ev_go k hn h1 h2 h3 h4 h5 h6 h7 h8)
theorem ev_s_dup2 (X : ev_X p s m args c D cl dA kt A Gs own cc nL) {u v : ev_V} (hd : decode cc (ev_pc cd ix) = .ok (.dup2, 1)) (hn : ev_pc cd (ix + 1) = ev_pc cd ix + 1) (hu : u.1 ≠ 1) (hv : v.1 ≠ 1)
    (k : ev_G p l e R s m args below meth c Q D cl dA A ws0 nL cd (ix + 1, L, u :: v :: u :: v :: S, w, nc, ns)) : ev_G p l e R s m args below meth c Q D cl dA A ws0 nL cd (ix, L, u :: v :: S, w, nc, ns) := by
  intro H locs ls vs lv ws h1 h2 h3 h4 h5 h6 h7 h8
  have h3q := h3.cons
  clear h3
  obtain ⟨x, ys, rfl, hx, h3⟩ := h3q
  have h3q := h3.cons
  clear h3
  obtain ⟨y, zs, rfl, hy, h3⟩ := h3q
  exact lv_dup2_11 X.1.1 X.1.2.1 hd (hx.cat1 hu) (hy.cat1 hv) (ev_go k hn h1 h2 ⟨hx, hy, hx, hy, h3⟩ h4 h5 h6 h7 h8)
theorem ev_s_goto (X : ev_X p s m args c D cl dA kt A Gs own cc nL) {off : Int} {t : Nat} (hd : decode cc (ev_pc cd ix) = .ok (.goto off, 3)) (ht : (ev_pc cd ix : Int) + off = (ev_pc cd t : Int))
    (k : ev_G p l e R s m args below meth c Q D cl dA A ws0 nL cd (t, L, S, w, nc, ns)) : ev_G p l e R s m args below meth c Q D cl dA A ws0 nL cd (ix, L, S, w, nc, ns) := by
  intro H locs ls vs lv ws h1 h2 h3 h4 h5 h6 h7 h8
  exact lv_goto X.1.1 X.1.2.1 hd ht (ev_go k rfl h1 h2 h3 h4 h5 h6 h7 h8)
/-- two ints are compared: the ways that their bounds leave -/
theorem ev_s_icmp {P : Int32 → Int32 → Prop} {x y : ev_V} {t : Nat} (hx : x.1 = 0) (hy : y.1 = 0) (hn : ev_pc cd (ix + 1) = ev_pc cd ix + 3)
    (row : ∀ {H : Heap} {locs : List Loc} {ls : Array Slot} {vs : List Value} (i j : Int32), (P i j → W p l e R s m args below meth c H locs nc ns Q (F0 m (ev_pc cd t) ls vs)) → (¬ P i j → W p l e R s m args below meth c H locs nc ns Q (F0 m (ev_pc cd ix + 3) ls vs)) → W p l e R s m args below meth c H locs nc ns Q (F0 m (ev_pc cd ix) ls (.int j :: .int i :: vs)))
    (kt : (∃ i j, ev_in x i ∧ ev_in y j ∧ P i j) → ev_G p l e R s m args below meth c Q D cl dA A ws0 nL cd (t, L, S, w, nc, ns)) (kf : (∃ i j, ev_in x i ∧ ev_in y j ∧ ¬ P i j) → ev_G p l e R s m args below meth c Q D cl dA A ws0 nL cd (ix + 1, L, S, w, nc, ns)) : ev_G p l e R s m args below meth c Q D cl dA A ws0 nL cd (ix, L, y :: x :: S, w, nc, ns) := by
  intro H locs ls vs lv ws h1 h2 h3 h4 h5 h6 h7 h8
  have h3q := h3.cons
  clear h3
  obtain ⟨v1, ys, rfl, hv1, h3⟩ := h3q
  have h3q := h3.cons
  clear h3
  obtain ⟨v2, zs, rfl, hv2, h3⟩ := h3q
  obtain ⟨j, rfl, hj⟩ := hv1.int hy
  obtain ⟨i, rfl, hi⟩ := hv2.int hx
  exact row i j (fun h => ev_go (kt ⟨i, j, hi, hj, h⟩) rfl h1 h2 h3 h4 h5 h6 h7 h8) (fun h => ev_go (kf ⟨i, j, hi, hj, h⟩) hn h1 h2 h3 h4 h5 h6 h7 h8)
/-- an int is compared with 0 -/
theorem ev_s_if0 {P : Int32 → Prop} {x : ev_V} {t : Nat} (hx : x.1 = 0) (hn : ev_pc cd (ix + 1) = ev_pc cd ix + 3)
    (row : ∀ {H : Heap} {locs : List Loc} {ls : Array Slot} {vs : List Value} (i : Int32), (P i → W p l e R s m args below meth c H locs nc ns Q (F0 m (ev_pc cd t) ls vs)) → (¬ P i → W p l e R s m args below meth c H locs nc ns Q (F0 m (ev_pc cd ix + 3) ls vs)) → W p l e R s m args below meth c H locs nc ns Q (F0 m (ev_pc cd ix) ls (.int i :: vs)))
    (kt : (∃ i, ev_in x i ∧ P i) → ev_G p l e R s m args below meth c Q D cl dA A ws0 nL cd (t, L, S, w, nc, ns)) (kf : (∃ i, ev_in x i ∧ ¬ P i) → ev_G p l e R s m args below meth c Q D cl dA A ws0 nL cd (ix + 1, L, S, w, nc, ns)) : ev_G p l e R s m args below meth c Q D cl dA A ws0 nL cd (ix, L, x :: S, w, nc, ns) := by
  intro H locs ls vs lv ws h1 h2 h3 h4 h5 h6 h7 h8
  have h3q := h3.cons
  clear h3
  obtain ⟨v1, ys, rfl, hv1, h3⟩ := h3q
  obtain ⟨i, rfl, hi⟩ := hv1.int hx
  exact row i (fun h => ev_go (kt ⟨i, hi, h⟩) rfl h1 h2 h3 h4 h5 h6 h7 h8) (fun h => ev_go (kf ⟨i, hi, h⟩) hn h1 h2 h3 h4 h5 h6 h7 h8)
-- fields
theorem ev_s_getf (X : ev_X p s m args c D cl dA kt A Gs own cc nL) {C : String} {T : u_T} {N ci z idx kf i y9 : Nat} {fs : List (Nat × Nat × Nat)} {v : ev_V} (hin : ∀ w ∈ u_ws C T N, w ∈ Gs) (hc : cl[ci]? = some (C, T, N)) (hk : kf < N) (hlk : Cond.fieldLink own idx (T kf).1 (T kf).2.1 (T kf).2.2.1 ∈ Gs) (hd : decode cc (ev_pc cd ix) = .ok (.getfield idx, 3)) (hn : ev_pc cd (ix + 1) = ev_pc cd ix + 3) (hw : w[i]? = some (0, ci, z, fs)) (hf : fs[kf]? = some v)
    (k : ev_G p l e R s m args below meth c Q D cl dA A ws0 nL cd (ix + 1, L, v :: S, w, nc, ns)) : ev_G p l e R s m args below meth c Q D cl dA A ws0 nL cd (ix, L, (2, i, y9) :: S, w, nc, ns) := by
  intro H locs ls vs lv ws h1 h2 h3 h4 h5 h6 h7 h8
  have h3q := h3.cons
  clear h3
  obtain ⟨x, ys, rfl, hx, h3⟩ := h3q
  obtain ⟨a, ha, rfl⟩ := hx.ref rfl
  obtain ⟨E, hE, hr⟩ := h4.at hw ha
  rcases hr with ⟨-, gs, rfl, hg⟩ | ⟨hr, -⟩ | ⟨hr, -⟩ | ⟨hr, -⟩ | hr
  · obtain ⟨y, hy, hvy⟩ := hg.at hf
    exact va_get X.1.1 X.1.2.1 X.1.2.2.2.2 hin X.1.2.2.2.1 X.2.1.1 h6 i hE hc kf hk (X.1.2.2.2.2 _ hlk) (fun _ h9 => h9) hy hd (ev_go k hn h1 h2 ⟨hvy, h3⟩ h4 h5 h6 h7 h8)
  all_goals exact absurd hr (by simp)
end EV2
