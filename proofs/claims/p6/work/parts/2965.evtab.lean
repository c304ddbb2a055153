/-! A table of ints is copied into an array -/
section EVT
variable {p : Program} {l : Launch} {e : Env} {R : Room} {s : State} {m : MethodId} {args : Array Value} {below : List Frame} {meth : Method} {c : Code} {Q : State → Prop}
variable {D : va_G} {cl : List vw_C} {dA : Nat → ClassId} {kt : List FieldType} {A : Nat → Prop} {ws0 : va_W} {Gs : List Cond} {own : String} {cc : ByteArray} {nL : Nat} {cd : ev_Cd}
variable {ix nc ns : Nat} {L : List (Nat × (Nat × Nat × Nat))} {S : List (Nat × Nat × Nat)} {w : List ev_C}
/-- the first n ints of the table at t come to the front of the array at a -/
theorem ev_tcopy (X : ev_X p s m args c D cl dA kt A Gs own cc nL) {idx kd k1 a t N n n1 pc : Nat} {f g : Nat → Int32} {H : Heap} {locs : List Loc} {ls : Array Slot} {rest : List Value} {ws : va_W} (hkt : kt[kd]? = some .int) (hlk : Cond.methodLink own idx arraycopyName ∈ Gs) (hnat : Cond.native arraycopyName ∈ Gs) (hst : Cond.static arraycopyName ∈ Gs) (hini : Cond.initialized "java/lang/System" ∈ Gs) (hT : va_T .int t N (fun j => .int (f j)) A s s.heap) (hls : ls.size = nL) (h6 : va_P D cl ws H) (h7 : va_D A ws) (h8 : va_S A s.heap H locs) (hE : ws[k1]? = some (a, .inl (dA kd, n1, .inl g))) (hn2 : n < 2147483648) (hN : n ≤ N) (hN1 : n ≤ n1) (hRf : 1 ≤ R.frames) (hRl : (rest.map fun v => v.category).sum + 18 ≤ R.locals) (hd : decode cc pc = .ok (.invokestatic idx, 3))
    (kk : ∀ (H1 : Heap) (locs1 : List Loc), va_P D cl (ws.set k1 (a, .inl (dA kd, n1, .inl (va_cpy f g 0 0 n)))) H1 → va_D A (ws.set k1 (a, .inl (dA kd, n1, .inl (va_cpy f g 0 0 n)))) → va_S A s.heap H1 locs1 → W p l e R s m args below meth c H1 locs1 nc ns Q (F0 m (pc + 3) ls rest)) : W p l e R s m args below meth c H locs nc ns Q (F0 m pc ls (.int (nI n) :: .int 0 :: .ref a :: .int 0 :: .ref t :: rest)) := by
  intro T0 hT0 Y
  obtain ⟨src, t1, t2, t3, t4, -, t5, t6⟩ := hT
  have z0 : (0 : Int32).toNatClampNeg = 0 := by decide +kernel
  have zi : (0 : Int32).toInt = 0 := by decide +kernel
  have zn : (nI n).toNatClampNeg = n := nI_clamp hn2
  have zni : (nI n).toInt = (n : Int) := nI_toInt (by omega)
  have hsrc : H[t]? = some src := by rw [h8.2.1 t (Array.getElem?_eq_some_iff.mp t1).1 t6]; exact t1
  have hdst : H[a]? = some (vp_cell (dA kd) (n1, .inl g)) := h6 k1 _ hE
  have hlt : a < H.size := (Array.getElem?_eq_some_iff.mp hdst).1
  obtain ⟨u1, kS, u2, cS, u3⟩ := t2
  obtain ⟨-, kD, u4, cD, u5⟩ := (X.2.1.1.2 kd _ (ev_tys_at hkt)).1 n1 (fun j => .int (g j))
  obtain ⟨vm', Y', step⟩ := Y.arraycopy X.1.1 X.1.2.2.2.1 (X.1.2.2.2.2 _ hlk) (X.1.2.2.2.2 _ hnat) (X.1.2.2.2.2 _ hst) (X.1.2.2.2.2 _ hini) (src := t) (dst := a) (cs := src) (cd := vp_cell (dA kd) (n1, .inl g)) (srcPos := 0) (destPos := 0) (n := nI n) (by rw [hT0]; exact hsrc) (by rw [hT0]; exact hdst) u1 (fun _ h => by cases h) t3 (fun h => by cases h) u2 u4 u3 u5 (by simp [refKind]) (by decide) (by decide) (fun q => by have q := Int32.lt_iff_toInt_lt.mp q; omega)
    (by rw [zi, zni]; omega)
    (by rw [zi, zni]; show ¬ _ > ((arrV (dA kd) n1 (fun j => .int (g j))).slots.size : Int); rw [arrV_size]; omega)
    (fun _ _ i hi => by
      rw [zn] at hi
      have e9 : src.slots.getD ((0 : Int32).toNatClampNeg + i) .null = .int (f i) := by
        rw [z0, Nat.zero_add, Array.getD_eq_getD_getElem?, t5 _ (by omega)]
        rfl
      rw [e9]
      exact ⟨rfl, trivial⟩)
    (g := F0 m pc ls (.int (nI n) :: .int 0 :: .ref a :: .int 0 :: .ref t :: rest)) rfl (by rw [X.1.2.2.1]; exact hls) (rest := rest) rfl (by rw [X.1.2.1]; exact hd) hRf (by show 2 * 0 + _ + (7 + 11) ≤ _; omega)
  have ec : copied src (vp_cell (dA kd) (n1, .inl g)) 0 0 (nI n) = vp_cell (dA kd) (n1, .inl (va_cpy f g (0 : Int32).toNatClampNeg (0 : Int32).toNatClampNeg (nI n).toNatClampNeg)) := va_copiedX (fun z : Int32 => Value.int z) src (dA kd) f g t5 (by rw [z0, zn]; omega)
  rw [z0, zn] at ec
  rw [ec] at Y' step
  have other : ∀ q : Nat, q ≠ a → (H.setIfInBounds a (vp_cell (dA kd) (n1, .inl (va_cpy f g 0 0 n))))[q]? = H[q]? := fun q hq => by simp [Array.getElem?_setIfInBounds, Ne.symm hq]
  have hsz : (H.setIfInBounds a (vp_cell (dA kd) (n1, .inl (va_cpy f g 0 0 n)))).size = H.size := by simp
  obtain ⟨t9, b1, b2⟩ := kk (H.setIfInBounds a (vp_cell (dA kd) (n1, .inl (va_cpy f g 0 0 n)))) _ (h6.set h7 hE (show (H.setIfInBounds a _)[a]? = some _ by simp [Array.getElem?_setIfInBounds, hlt]) other) (h7.set hE) ⟨by rw [hsz]; exact h8.1, fun q g1 g2 => by
      rw [other q (fun e => g2 (by rw [e]; exact h7.2 k1 _ hE))]
      exact h8.2.1 q g1 g2, fun q hq => by
      rcases List.mem_append.mp hq with h | h
      · exact h8.2.2 q h
      · obtain ⟨z, -, hz⟩ := List.mem_map.mp h
        rw [← hz]
        exact h7.2 k1 _ hE⟩ _ (by rw [← hT0]; rfl) Y'
  exact ⟨t9, step t9 b1, b2⟩
/-- seven instructions: the table's n ints come into an array that this object has -/
theorem ev_s_tcp (X : ev_X p s m args c D cl dA kt A Gs own cc nL) {idx idx2 idx3 kf ci z o z9 y9 kd k1 N n n1 NN : Nat} {C nm CC : String} {T : u_T} {fs z1 : List (Nat × Nat × Nat)} (hq : (C, nm, N) ∈ ev_tb) (hlk : Cond.fieldLink own idx C nm "[I" ∈ Gs) (hin : ∀ w ∈ u_ws CC T NN, w ∈ Gs) (hc : cl[ci]? = some (CC, T, NN)) (hk : kf < NN) (hlk2 : Cond.fieldLink own idx2 (T kf).1 (T kf).2.1 (T kf).2.2.1 ∈ Gs) (hkt : kt[kd]? = some .int) (hlk3 : Cond.methodLink own idx3 arraycopyName ∈ Gs) (hnat : Cond.native arraycopyName ∈ Gs) (hst : Cond.static arraycopyName ∈ Gs) (hini : Cond.initialized "java/lang/System" ∈ Gs)
    (hd1 : decode cc (ev_pc cd ix) = .ok (.getstatic idx, 3)) (hd2 : decode cc (ev_pc cd ix + 3) = .ok (.iconst 0, 1)) (hd3 : decode cc (ev_pc cd ix + 4) = .ok (.aload_n 0, 1)) (hd4 : decode cc (ev_pc cd ix + 5) = .ok (.getfield idx2, 3)) (hd5 : decode cc (ev_pc cd ix + 8) = .ok (.iconst 0, 1)) (hd6 : decode cc (ev_pc cd ix + 9) = .ok (.bipush (n : Int), 2)) (hd7 : decode cc (ev_pc cd ix + 11) = .ok (.invokestatic idx3, 3)) (hn : ev_pc cd (ix + 7) = ev_pc cd ix + 14)
    (hn2 : n < 128) (hN : n ≤ N) (hN1 : n ≤ n1) (hg : ev_get L 0 = some (2, o, z9)) (hw : w[o]? = some (0, ci, z, fs)) (hf : fs[kf]? = some (2, k1, y9)) (hw1 : w[k1]? = some (2, kd, n1, z1)) (hRf : 1 ≤ R.frames) (hRl : 26 ≤ R.locals) (hcs : ev_cs S ≤ 8)
    (k : ev_G p l e R s m args below meth c Q D cl dA A ws0 nL cd (ix + 7, L, S, w.set k1 (2, kd, n1, [ev_full]), nc, ns)) : ev_G p l e R s m args below meth c Q D cl dA A ws0 nL cd (ix, L, S, w, nc, ns) := by
  intro H locs ls vs lv ws h1 h2 h3 h4 h5 h6 h7 h8
  have h3 : ev_sr (ws.map Prod.fst) S vs := h3
  obtain ⟨t, f, hZ, hT⟩ := X.2.2.2 _ hq
  obtain ⟨j, x, hj, hx⟩ := h2.get hg
  obtain ⟨b, hb, rfl⟩ := hx.ref rfl
  obtain ⟨E, hE, hr⟩ := h4.at hw hb
  rcases hr with ⟨-, gs, rfl, hgs⟩ | ⟨hr, -⟩ | ⟨hr, -⟩ | ⟨hr, -⟩ | hr
  · obtain ⟨yv, hyv, hvy⟩ := hgs.at hf
    obtain ⟨a, ha, rfl⟩ := hvy.ref rfl
    obtain ⟨E1, hE1, hr1⟩ := h4.at hw1 ha
    rcases hr1 with ⟨hr, -⟩ | ⟨hr, -⟩ | ⟨-, g, rfl, hg9⟩ | ⟨hr, -⟩ | hr
    case inr.inr.inl =>
      refine va_gets X.1.1 X.1.2.1 hZ h8 X.1.2.2.2.1 (X.1.2.2.2.2 _ hlk) (fun _ h9 => h9) hd1 ?_
      refine lv_iconst (v := 0) X.1.1 X.1.2.1 hd2 (by decide +kernel) ?_
      refine lv_aload_n X.1.1 X.1.2.1 hd3 rfl (lv_at h1 j hj) ?_
      refine va_get X.1.1 X.1.2.1 X.1.2.2.2.2 hin X.1.2.2.2.1 X.2.1.1 h6 o hE hc kf hk (X.1.2.2.2.2 _ hlk2) (fun _ h9 => h9) hyv hd4 ?_
      refine lv_iconst (v := 0) X.1.1 X.1.2.1 hd5 (by decide +kernel) ?_
      have eb : (Int8.ofInt (n : Int)).toInt32 = nI n := by
        apply Int32.toInt_inj.mp
        rw [Int8.toInt_toInt32, nI_toInt (by omega), Int8.toInt_ofInt]
        show Int.bmod _ 256 = _
        simp only [Int.bmod]
        split <;> omega
      refine lv_bipush (v := nI n) X.1.1 X.1.2.1 hd6 eb ?_
      refine ev_tcopy X hkt hlk3 hnat hst hini hT h1.1 h6 h7 h8 hE1 (by omega) hN hN1 hRf (by rw [h3.cs]; omega) hd7 (fun H1 locs1 g6 g7 g8 => ?_)
      have em := ev_map_set (e := .inl (dA kd, n1, .inl (va_cpy f g 0 0 n))) hE1
      refine ev_go k hn h1 (by rw [em]; exact h2) (by rw [em]; exact h3) (h4.set hE1 (Or.inr (Or.inr (Or.inl ⟨rfl, _, rfl, fun u hu j => ?_⟩)))) (h5.set hE1 (by simp)) g6 g7 g8
      obtain rfl : ev_full = u := Option.some.inj hu
      exact ev_full_in _
    all_goals exact absurd hr (by simp)
  all_goals exact absurd hr (by simp)
end EVT
