/-! What booted, down, fed and the rights say in the class, and booted, up, taped and entries in the reference. Written by a program (wip/start/gen4116.py). -/
def jT : sx_H → Option (Int × Int) → Prop
  | hh, none => hh 91 0 9 = 1
  | hh, some q => hh 91 0 9 = 0 ∧ hh 85 0 11 = 1 ∧ hh 91 0 8 = q.1 ∧ (0 ≤ q.1 ∧ q.1 ≤ 1100) ∧ (0 ≤ q.2 ∧ q.2 ≤ 8) ∧ ∀ j : Int, 0 ≤ j → j < 8 → (j < q.2 → 0 ≤ hh 87 j 3 ∧ hh 87 j 3 ≤ 7) ∧ (q.2 ≤ j → hh 87 j 3 = -1)
def jR : sx_H → Option (Int × Int) → Prop
  | hh, none => hh 92 0 4 = 1
  | hh, some q => hh 92 0 4 = 0 ∧ hh 92 0 3 = 0 ∧ hh 92 0 2 = q.1 ∧ hh 92 0 11 = q.2
def jS : List (Nat × Nat) := [(91, 9), (91, 8), (85, 11), (87, 3)]
def jU : List (Nat × Nat) := [(92, 4), (92, 3), (92, 2), (92, 11)]
theorem j_eq {su Mc : List (Nat × Nat)} (hk : sx_kp su Mc = true) {hh hu : sx_H} (hf : sx_fr Mc hh hu) {k : Nat} {f : Int} (hi : sx_in su k f = true) (i : Int) : hu k i f = hh k i f := hf k i f (sx_kp_ok hk hi)
theorem jT_co {hh hu : sx_H} (e1 : hu 91 0 9 = hh 91 0 9) (e2 : hu 91 0 8 = hh 91 0 8) (e3 : hu 85 0 11 = hh 85 0 11) (e4 : ∀ i, hu 87 i 3 = hh 87 i 3) : ∀ {o : Option (Int × Int)}, jT hh o → jT hu o
  | none, h => by
    have h : hh 91 0 9 = 1 := h
    show hu 91 0 9 = 1
    omega
  | some q, h => by
    obtain ⟨a1, a2, a3, a4, a5, a6⟩ := h
    exact ⟨by omega, by omega, by omega, a4, a5, fun j h0 h8 => by rw [e4]; exact a6 j h0 h8⟩
theorem jR_co {hh hu : sx_H} (e1 : hu 92 0 4 = hh 92 0 4) (e2 : hu 92 0 3 = hh 92 0 3) (e3 : hu 92 0 2 = hh 92 0 2) (e4 : hu 92 0 11 = hh 92 0 11) : ∀ {o : Option (Int × Int)}, jR hh o → jR hu o
  | none, h => by
    have h : hh 92 0 4 = 1 := h
    show hu 92 0 4 = 1
    omega
  | some q, h => by
    obtain ⟨a1, a2, a3, a4⟩ := h
    exact ⟨by omega, by omega, by omega, by omega⟩
theorem jT_fr {Mc : List (Nat × Nat)} (hk : sx_kp jS Mc = true) {hh hu : sx_H} (hf : sx_fr Mc hh hu) {o : Option (Int × Int)} (h : jT hh o) : jT hu o := jT_co (j_eq hk hf (by decide) 0) (j_eq hk hf (by decide) 0) (j_eq hk hf (by decide) 0) (fun i => j_eq hk hf (by decide) i) h
theorem jR_fr {Mc : List (Nat × Nat)} (hk : sx_kp jU Mc = true) {hh hu : sx_H} (hf : sx_fr Mc hh hu) {o : Option (Int × Int)} (h : jR hh o) : jR hu o := jR_co (j_eq hk hf (by decide) 0) (j_eq hk hf (by decide) 0) (j_eq hk hf (by decide) 0) (j_eq hk hf (by decide) 0) h
theorem jT_frA {Mc : List (Nat × Nat)} (hk : sx_kp [(91, 9)] Mc = true) {hh hu : sx_H} (hf : sx_fr Mc hh hu) (h : jT hh none) : jT hu none := by
  have h : hh 91 0 9 = 1 := h
  have e := j_eq hk hf (k := 91) (f := 9) (by decide) 0
  show hu 91 0 9 = 1
  omega
theorem jR_frA {Mc : List (Nat × Nat)} (hk : sx_kp [(92, 4)] Mc = true) {hh hu : sx_H} (hf : sx_fr Mc hh hu) (h : jR hh none) : jR hu none := by
  have h : hh 92 0 4 = 1 := h
  have e := j_eq hk hf (k := 92) (f := 4) (by decide) 0
  show hu 92 0 4 = 1
  omega
def jn_id (o : Option (Int × Int)) : Option (Int × Int) := o
def jn_feed : Option (Int × Int) → Option (Int × Int)
  | none => none
  | some q => some (if q.1 ≤ 1080 then q.1 + 20 else q.1, q.2)
def jn_end (x : Int) : Option (Int × Int) → Option (Int × Int)
  | none => none
  | some q => some (if 0 ≤ x ∧ x ≤ q.1 then x else q.1, q.2)
def jn_burn (r : Int) : Option (Int × Int) → Option (Int × Int)
  | none => none
  | some q => some (q.1, if 0 ≤ r ∧ r ≤ 7 ∧ q.2 < 8 then q.2 + 1 else q.2)
def jn_key : Option (Int × Int) → Option (Int × Int)
  | none => none
  | some q => some (if 32 ≤ q.1 then 0 else q.1, q.2)
def jn_boot (_ : Option (Int × Int)) : Option (Int × Int) := none
def ja_burn (r : Int) : Option (Int × Int) → Int
  | none => -1
  | some q => if 0 ≤ r ∧ r ≤ 7 ∧ q.2 < 8 then q.2 else -1
def ja_key : Option (Int × Int) → Int
  | none => 0
  | some q => if 32 ≤ q.1 then 1 else 0
def ja_product (e p v : Int) : Option (Int × Int) → Int
  | none => 0
  | some q => if 0 ≤ e ∧ e < q.2 ∧ 0 ≤ p ∧ p ≤ 7 ∧ 0 ≤ v ∧ v ≤ 9999 then 1 else 0
def ja_replay (x : Int) (_ : Option (Int × Int)) : Int := if 0 ≤ x ∧ x ≤ 63 then 1 else 0
theorem jT_z {hh : sx_H} : ∀ {o : Option (Int × Int)}, jT hh o → ∀ q, o = some q → (0 ≤ q.1 ∧ q.1 ≤ 1100) ∧ (0 ≤ q.2 ∧ q.2 ≤ 8)
  | none, _, q, e => by cases e
  | some _, h, q, e => by
    obtain rfl := Option.some.inj e
    exact ⟨h.2.2.2.1, h.2.2.2.2.1⟩
/-- what holds between calls -/
def sw_K (hh : sx_H) : Prop := sw_I hh ∧ ∃ o : Option (Int × Int), jT hh o ∧ jR hh o
/-- a call that may be made, by some contract, and what holds behind it -/
def sw_Ok (l : Launch) (D : va_G) (dA : Nat → ClassId) (ad : List Nat) (R : Room) (y : MethodName) (bytes : ByteArray) (maxL : Nat) (ret : Option FieldType) (vs : List Value) (hh : sx_H) (post : Option Value → sx_H → Prop) : Prop :=
  ∃ (q : sx_C) (r0 : List Int), sx_Met l D ct_cl dA ct_kt sz_T sy_tb sz_Y sy_gs y bytes maxL ret q ∧ (q.2.1 + 1 ≤ R.frames ∧ 8 + (maxL + 11) + q.2.2.1 ≤ R.locals) ∧ sx_b q.2.2.2.2.1 r0 ∧ sx_fs q.2.2.2.2.2.1 r0 ∧ sx_sr r0 sw_kd ad q.2.2.2.2.2.2.1 vs ∧ sx_gr sz_Y r0 hh q.2.2.2.2.2.2.2.1 ∧ ∀ (rv : Option Value) (hu : sx_H), sx_res sz_Y r0 sw_kd ad hu q.2.2.2.2.2.2.2.2.2 rv → sx_fr q.2.2.2.2.2.2.2.2.1 hh hu → post rv hu
def sw_gP (G : sx_Gt) : Bool := G.2.all (fun q => q.2.isEmpty && sw_ids.contains q.1)
theorem sw_gP_ok {G : sx_Gt} (h : sw_gP G = true) {hh : sx_H} (hI : sw_I hh) {r0 : List Int} : ∀ q ∈ G.2, sz_Y.pr q.1 (q.2.map (sx_ev · r0)) hh := fun q hq => by
  have h1 := List.all_eq_true.mp h q hq
  rw [Bool.and_eq_true] at h1
  have h2 := List.isEmpty_iff.mp h1.1
  rw [h2]
  exact hI.pr (List.contains_iff_mem.mp h1.2)
theorem sw_rri {r : List Int} {kd : List (Nat × Nat)} {ad : List Nat} {z : Nat} {f : List Int} : ∀ {rv : Option Value}, sx_rr r kd ad (some (0, z, f)) rv → ∃ v : Int32, rv = some (.int v) ∧ v.toInt = sx_ev f r
  | none, h => h.elim
  | some x, h => by
    obtain ⟨i, e, h⟩ := sx_vr.int (v := (0, z, f)) h rfl
    exact ⟨i, by rw [e], h⟩
section SWP
variable {p : Program} {l : Launch} {e : Env} {R : Room} {s : State} {m : MethodId} {args : Array Value} {below : List Frame} {meth : Method} {c : Code} {Q : State → Prop}
variable {D : va_G} {dA : Nat → ClassId} {A : Nat → Prop} {own : String} {cc : ByteArray} {nL : Nat} {ad : List Nat} {H : Heap} {locs : List Loc} {ls : Array Slot} {ws : va_W} {hh : sx_H} {cells slots pc : Nat}
theorem sw_VP (X : sx_X p s m args c D ct_cl dA ct_kt sz_T sy_tb sw_kd ad A sy_gs own cc nL) {y : MethodName} {bytes : ByteArray} {ret : Option FieldType} {maxL idx n : Nat} {ys rs : List Value} {post : Option Value → sx_H → Prop} {j9 c9 k9 ci z8 b : Nat} {ts : List sx_T} {qc : vw_C} (hO : sw_Ok l D dA ad R y bytes maxL ret (.ref b :: ys.reverse) hh post) (hcode : Cond.code y bytes maxL ret ∈ sy_gs) (hini : Cond.initialized y.cls ∈ sy_gs) (hlk : (Cond.methodLink own idx y).before args s = true) (hins : Cond.instanceMethod y ∈ sy_gs) (hsel : Cond.selects y.cls y y ∈ sy_gs)
    (hy : y.cls ≠ "java/lang/invoke/MethodHandle" ∧ y.cls ≠ "java/lang/invoke/VarHandle" ∧ (parseMethodDescriptor y.desc).map (fun d => d.parameters.length) = some n) (hkd : sw_kd[j9]? = some (k9, c9)) (had : ad[j9]? = some b) (hK : sz_T[k9]? = some (0, ci, z8, ts)) (hcl : ct_cl[ci]? = some qc) (hqc : qc.1 = y.cls) (hWd : sw_Wd D dA ad A s ws hh H locs) (hn : ys.length = n) (hls : ls.size = nL) (hcs : (rs.map fun v => v.category).sum ≤ 8) (hd : decode cc pc = .ok (.invokevirtual idx, 3)) (hf : cells ≤ R.cells ∧ slots ≤ R.slots)
    (kk : ∀ (rv : Option Value) (u : va_W) (hu : sx_H) (H1 : Heap) (locs1 : List Loc), post rv hu → sw_Wd D dA ad A s u hu H1 locs1 → W p l e R s m args below meth c H1 locs1 cells slots Q (F0 m (pc + 3) ls (rv.toList ++ rs))) : W p l e R s m args below meth c H locs cells slots Q (F0 m pc ls (ys ++ .ref b :: rs)) := by
  obtain ⟨q, r0, h1, h2, h3, h4, h5, h6, h7⟩ := hO
  exact sw_V (q := q) (r0 := r0) X h1 hcode hini hlk hins hsel hy h2 hkd had hK hcl hqc h3 h4 h5 h6 hWd hn hls hcs hd hf (fun rv u hu H1 locs1 b c d => kk rv u hu H1 locs1 (h7 rv hu b c) d)
end SWP
/-- a field's number at the start -/
theorem sw_kf {T : List sx_K} {kd : List (Nat × Nat)} {ad : List Nat} {dA : Nat → ClassId} {ws : va_W} {w : List ev_C} {hp : sx_H} (hw : sx_wr T kd ad dA ws hp) (he : ev_wr dA w ws) {j k c f n : Nat} {K : sx_K} {t : sx_T} {cc : ev_C} (hk : kd[j]? = some (k, c)) (hK : T[k]? = some K) (h0 : K.1 = 0) (ht : K.2.2.2[f]? = some t) (h2 : t.1 = 0) (hc : w[j]? = some cc) (hc0 : cc.1 = 0) (hv : cc.2.2.2[f]? = some (0, n, n)) : hp k (c : Int) (f : Int) = (n : Int) - 2147483648 := by
  obtain ⟨K', e1, e2⟩ := hw j k c hk
  rw [hK] at e1
  obtain rfl := Option.some.inj e1
  rcases e2 with e2 | ⟨a, E, g1, g2, g3⟩
  · omega
  · obtain ⟨p, hp1, hr⟩ := he.2 j cc hc
    rw [g2] at hp1
    obtain rfl := Option.some.inj hp1
    rcases g3 with ⟨-, fs, b1, b2, b3⟩ | ⟨b1, -⟩ | ⟨b1, -⟩ | ⟨b1, -⟩
    · rcases hr with ⟨-, fs', d1, d2⟩ | ⟨d1, -⟩ | ⟨d1, -⟩ | ⟨d1, -⟩ | ⟨d1, -⟩
      · have d1 : E = .inr (cc.2.1, fs') := d1
        rw [b1] at d1
        have d3 := Sum.inr.inj d1
        have d4 : fs = fs' := congrArg Prod.snd d3
        subst d4
        obtain ⟨x, x1, x2⟩ := b3 f t ht
        obtain ⟨x', y1, y2⟩ := d2.at hv
        rw [x1] at y1
        obtain rfl := Option.some.inj y1
        rcases x2 with ⟨-, i, z1, z2, -⟩ | ⟨z1, -⟩ | ⟨z1, -⟩ | ⟨z1, -⟩ | ⟨z1, -⟩
        · rcases y2 with ⟨-, i', w1, w2⟩ | ⟨w1, -⟩ | ⟨w1, -⟩ | ⟨w1, -⟩
          · rw [z1] at w1
            have w1 : i = i' := by injection w1
            subst w1
            have q1 := ev_sx_eq i
            have q2 : n ≤ ev_sx i := w2.1
            have q3 : ev_sx i ≤ n := w2.2
            omega
          · cases w1
          · cases w1
          · cases w1
        · omega
        · omega
        · omega
        · omega
      · omega
      · omega
      · omega
      · omega
    · omega
    · omega
    · omega
def sw_kx (T : List sx_K) (kd : List (Nat × Nat)) (w : List ev_C) (j k c f n : Nat) : Bool := (match kd[j]? with
  | some q => decide (q = (k, c))
  | none => false) && ((match T[k]? with
  | some K => decide (K.1 = 0) && (match K.2.2.2[f]? with
    | some t => decide (t.1 = 0)
    | none => false)
  | none => false) && (match w[j]? with
  | some cc => decide (cc.1 = 0) && (match cc.2.2.2[f]? with
    | some v => decide (v = (0, n, n))
    | none => false)
  | none => false))
theorem sw_kx_ok {T : List sx_K} {kd : List (Nat × Nat)} {ad : List Nat} {dA : Nat → ClassId} {ws : va_W} {w : List ev_C} {hp : sx_H} (hw : sx_wr T kd ad dA ws hp) (he : ev_wr dA w ws) (j k c f n : Nat) (h : sw_kx T kd w j k c f n = true) : hp k (c : Int) (f : Int) = (n : Int) - 2147483648 := by
  unfold sw_kx at h
  rw [Bool.and_eq_true, Bool.and_eq_true] at h
  obtain ⟨h1, h2, h3⟩ := h
  split at h1
  · next q hq =>
    obtain rfl := of_decide_eq_true h1
    split at h2
    · next K hK =>
      rw [Bool.and_eq_true] at h2
      obtain ⟨h4, h5⟩ := h2
      split at h5
      · next t ht =>
        split at h3
        · next cc hc =>
          rw [Bool.and_eq_true] at h3
          obtain ⟨h6, h7⟩ := h3
          split at h7
          · next v hv =>
            obtain rfl := of_decide_eq_true h7
            exact sw_kf hw he hq hK (of_decide_eq_true h4) ht (of_decide_eq_true h5) hc (of_decide_eq_true h6) hv
          · cases h7
        · cases h3
      · cases h5
    · cases h2
  · cases h1
set_option maxRecDepth 100000 in
theorem sw_kx0 : sw_kx sz_T sw_kd ct_lw 0 91 0 9 2147483648 = true := by decide +kernel
set_option maxRecDepth 100000 in
theorem sw_kx1 : sw_kx sz_T sw_kd ct_lw 20 85 0 11 2147483649 = true := by decide +kernel
set_option maxRecDepth 100000 in
theorem sw_kx2 : sw_kx sz_T sw_kd ct_lw 0 91 0 8 2147483648 = true := by decide +kernel
set_option maxRecDepth 100000 in
theorem sw_kx3 : sw_kx sz_T sw_kd ct_lw 692 92 0 4 2147483648 = true := by decide +kernel
set_option maxRecDepth 100000 in
theorem sw_kx4 : sw_kx sz_T sw_kd ct_lw 692 92 0 3 2147483648 = true := by decide +kernel
set_option maxRecDepth 100000 in
theorem sw_kx5 : sw_kx sz_T sw_kd ct_lw 692 92 0 2 2147483648 = true := by decide +kernel
set_option maxRecDepth 100000 in
theorem sw_kx6 : sw_kx sz_T sw_kd ct_lw 692 92 0 11 2147483648 = true := by decide +kernel
set_option maxRecDepth 100000 in
theorem sw_kx7 : sw_kx sz_T sw_kd ct_lw 227 87 0 3 2147483647 = true := by decide +kernel
set_option maxRecDepth 100000 in
theorem sw_kx8 : sw_kx sz_T sw_kd ct_lw 247 87 1 3 2147483647 = true := by decide +kernel
set_option maxRecDepth 100000 in
theorem sw_kx9 : sw_kx sz_T sw_kd ct_lw 267 87 2 3 2147483647 = true := by decide +kernel
set_option maxRecDepth 100000 in
theorem sw_kx10 : sw_kx sz_T sw_kd ct_lw 287 87 3 3 2147483647 = true := by decide +kernel
set_option maxRecDepth 100000 in
theorem sw_kx11 : sw_kx sz_T sw_kd ct_lw 307 87 4 3 2147483647 = true := by decide +kernel
set_option maxRecDepth 100000 in
theorem sw_kx12 : sw_kx sz_T sw_kd ct_lw 327 87 5 3 2147483647 = true := by decide +kernel
set_option maxRecDepth 100000 in
theorem sw_kx13 : sw_kx sz_T sw_kd ct_lw 347 87 6 3 2147483647 = true := by decide +kernel
set_option maxRecDepth 100000 in
theorem sw_kx14 : sw_kx sz_T sw_kd ct_lw 367 87 7 3 2147483647 = true := by decide +kernel
theorem sw_K0 {ad : List Nat} {dA : Nat → ClassId} {ws : va_W} {hp : sx_H} (hw : sx_wr sz_T sw_kd ad dA ws hp) (he : ev_wr dA ct_lw ws) (hI : sw_I hp) : sw_K hp := by
  have e0 : hp 91 0 9 = 0 := sw_kx_ok hw he 0 91 0 9 2147483648 sw_kx0
  have e1 : hp 85 0 11 = 1 := sw_kx_ok hw he 20 85 0 11 2147483649 sw_kx1
  have e2 : hp 91 0 8 = 0 := sw_kx_ok hw he 0 91 0 8 2147483648 sw_kx2
  have e3 : hp 92 0 4 = 0 := sw_kx_ok hw he 692 92 0 4 2147483648 sw_kx3
  have e4 : hp 92 0 3 = 0 := sw_kx_ok hw he 692 92 0 3 2147483648 sw_kx4
  have e5 : hp 92 0 2 = 0 := sw_kx_ok hw he 692 92 0 2 2147483648 sw_kx5
  have e6 : hp 92 0 11 = 0 := sw_kx_ok hw he 692 92 0 11 2147483648 sw_kx6
  have e7 : hp 87 0 3 = -1 := sw_kx_ok hw he 227 87 0 3 2147483647 sw_kx7
  have e8 : hp 87 1 3 = -1 := sw_kx_ok hw he 247 87 1 3 2147483647 sw_kx8
  have e9 : hp 87 2 3 = -1 := sw_kx_ok hw he 267 87 2 3 2147483647 sw_kx9
  have e10 : hp 87 3 3 = -1 := sw_kx_ok hw he 287 87 3 3 2147483647 sw_kx10
  have e11 : hp 87 4 3 = -1 := sw_kx_ok hw he 307 87 4 3 2147483647 sw_kx11
  have e12 : hp 87 5 3 = -1 := sw_kx_ok hw he 327 87 5 3 2147483647 sw_kx12
  have e13 : hp 87 6 3 = -1 := sw_kx_ok hw he 347 87 6 3 2147483647 sw_kx13
  have e14 : hp 87 7 3 = -1 := sw_kx_ok hw he 367 87 7 3 2147483647 sw_kx14
  refine ⟨hI, some (0, 0), ⟨e0, e1, e2, ⟨by decide, by decide⟩, ⟨by decide, by decide⟩, fun j h0 h8 => ⟨fun h => ?_, fun _ => ?_⟩⟩, e3, e4, e5, e6⟩
  · have h : j < 0 := h
    omega
  · have hj : j = 0 ∨ j = 1 ∨ j = 2 ∨ j = 3 ∨ j = 4 ∨ j = 5 ∨ j = 6 ∨ j = 7 := by omega
    rcases hj with rfl | rfl | rfl | rfl | rfl | rfl | rfl | rfl
    · exact e7
    · exact e8
    · exact e9
    · exact e10
    · exact e11
    · exact e12
    · exact e13
    · exact e14
