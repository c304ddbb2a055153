/-! The byte of the disk that is edited: rows for walks by hand, and Vault.edit with its answer. Written by a program (wip/tools/gen86.py). -/
theorem th_b8 (x : Int32) : x.toInt8.toInt32 &&& 255 = x &&& 255 := by
  apply Int32.toBitVec_inj.mp
  rw [Int32.toBitVec_and, Int32.toBitVec_and, Int8.toBitVec_toInt32, Int32.toBitVec_toInt8]
  apply BitVec.eq_of_getLsbD_eq
  intro i hi
  rw [BitVec.getLsbD_and, BitVec.getLsbD_and]
  have hm : ∀ i < 32, 8 ≤ i → (255 : Int32).toBitVec.getLsbD i = false := by decide
  rcases Nat.lt_or_ge i 8 with z | z
  · rw [BitVec.getLsbD_signExtend, BitVec.getLsbD_signExtend, if_pos z, if_pos hi]
    simp only [z, hi, decide_true, Bool.true_and]
  · rw [hm i hi z]; simp
/-- what both programs answer -/
def th_v (x : Int32) : Int32 := x.toInt8.toInt32 &&& nI 255
theorem th_nat {i : Int32} {n : Nat} (hn : n < 2147483648) (h : ev_in (0, 2147483648, 2147483648 + n) i) : ∃ j : Nat, j ≤ n ∧ i = nI j := by
  obtain ⟨a, b⟩ := h
  have a : 2147483648 ≤ ev_sx i := a
  have b : ev_sx i ≤ 2147483648 + n := b
  exact ⟨ev_sx i - 2147483648, by omega, ev_in_nI (ev_in_eq (by omega)) (by omega)⟩
theorem th_zero {i : Int32} (h : ev_in (0, 2147483648, 2147483648) i) : i = 0 := ev_in_nI (n := 0) h (by decide)
section LWY
variable {p : Program} {l : Launch} {e : Env} {R : Room} {s : State} {m : MethodId} {args : Array Value} {below : List Frame} {meth : Method} {c : Code} {Q : State → Prop}
variable {D : va_G} {cl : List vw_C} {dA : Nat → ClassId} {kt : List FieldType} {A : Nat → Prop} {Gs : List Cond} {own : String} {cc : ByteArray} {nL : Nat}
variable {w : List ev_C} {H : Heap} {locs : List Loc} {ls : Array Slot} {ws : va_W} {nc ns pc : Nat} {rs : List Value}
theorem ev_w_getf (X : ev_X p s m args c D cl dA kt A Gs own cc nL) {C : String} {T : u_T} {N ci z idx kf o b : Nat} {fs : List (Nat × Nat × Nat)} {v : ev_V} (hin : ∀ w ∈ u_ws C T N, w ∈ Gs) (hc : cl[ci]? = some (C, T, N)) (hk : kf < N) (hlk : Cond.fieldLink own idx (T kf).1 (T kf).2.1 (T kf).2.2.1 ∈ Gs) (hd : decode cc pc = .ok (.getfield idx, 3)) (hWd : ev_Wd D cl dA A s w ws H locs) (hw : w[o]? = some (0, ci, z, fs)) (hf : fs[kf]? = some v) (hb : (ws.map Prod.fst)[o]? = some b)
    (kk : ∀ y : Value, ev_vr (ws.map Prod.fst) v y → W p l e R s m args below meth c H locs nc ns Q (F0 m (pc + 3) ls (y :: rs))) : W p l e R s m args below meth c H locs nc ns Q (F0 m pc ls (.ref b :: rs)) := by
  obtain ⟨h4, h6, h7, h8⟩ := hWd
  obtain ⟨E, hE, hr⟩ := h4.at hw hb
  rcases hr with ⟨-, gs, rfl, hg⟩ | ⟨hr, -⟩ | ⟨hr, -⟩ | ⟨hr, -⟩ | hr
  · obtain ⟨y, hy, hvy⟩ := hg.at hf
    exact va_get X.1.1 X.1.2.1 X.1.2.2.2.2 hin X.1.2.2.2.1 X.2.1.1 h6 o hE hc kf hk (X.1.2.2.2.2 _ hlk) (fun _ h9 => h9) hy hd (kk y hvy)
  all_goals exact absurd hr (by simp)
theorem ev_w_putf (X : ev_X p s m args c D cl dA kt A Gs own cc nL) {C : String} {T : u_T} {N ci z idx kf o b : Nat} {fs : List (Nat × Nat × Nat)} {v : ev_V} {y : Value} (hin : ∀ w ∈ u_ws C T N, w ∈ Gs) (ty0 : Nat → FieldType) (hty : ∀ k, k < N → parseFieldDescriptor (T k).2.2.1 = some (ty0 k)) (hnm : ∀ a, a < N → ∀ b, b < N → a ≠ b → (T a).2.1 ≠ (T b).2.1) (hc : cl[ci]? = some (C, T, N)) (hk : kf < N) (hlk : Cond.fieldLink own idx (T kf).1 (T kf).2.1 (T kf).2.2.1 ∈ Gs) (hfin : (T kf).2.2.2 = false) (hd : decode cc pc = .ok (.putfield idx, 3)) (hWd : ev_Wd D cl dA A s w ws H locs) (hw : w[o]? = some (0, ci, z, fs)) (hl : kf < fs.length) (hv : ev_fit (ty0 kf) v = true) (hb : (ws.map Prod.fst)[o]? = some b) (hy : ev_vr (ws.map Prod.fst) v y)
    (kk : ∀ (ws1 : va_W) (H1 : Heap) (locs1 : List Loc), ws1.map Prod.fst = ws.map Prod.fst → (∀ k : Nat, k ≠ o → ws1[k]? = ws[k]?) → ev_Wd D cl dA A s (w.set o (0, ci, z, fs.set kf v)) ws1 H1 locs1 → W p l e R s m args below meth c H1 locs1 nc ns Q (F0 m (pc + 3) ls rs)) : W p l e R s m args below meth c H locs nc ns Q (F0 m pc ls (y :: .ref b :: rs)) := by
  obtain ⟨h4, h6, h7, h8⟩ := hWd
  obtain ⟨E, hE, hr⟩ := h4.at hw hb
  rcases hr with ⟨-, gs, rfl, hg⟩ | ⟨hr, -⟩ | ⟨hr, -⟩ | ⟨hr, -⟩ | hr
  · obtain ⟨hf1, hf2⟩ := ev_fit_ok hv hy
    have hg : ev_sr (ws.map Prod.fst) fs gs := hg
    refine va_put X.1.1 X.1.2.1 X.1.2.2.2.2 hin ty0 hty hnm X.1.2.2.2.1 X.2.1.1 h6 h7 h8 o hE hc kf hk (X.1.2.2.2.2 _ hlk) (fun _ h9 => h9) hfin (hty kf hk) hf1 hf2 (by rw [← hg.len]; exact hl) hd (fun H1 locs1 g6 g7 g8 => ?_)
    exact kk _ H1 locs1 (ev_map_set hE) (fun k hk => List.getElem?_set_ne (Ne.symm hk)) ⟨h4.set hE (Or.inl ⟨rfl, _, rfl, hg.set hy kf⟩), g6, g7, g8⟩
  all_goals exact absurd hr (by simp)
theorem ev_w_aald (X : ev_X p s m args c D cl dA kt A Gs own cc nL) {kd n o j b : Nat} {ty : FieldType} {es : List (Nat × Nat × Nat)} {v : ev_V} (hkt : kt[kd]? = some ty) (hrt : ty.isReference = true) (hd : decode cc pc = .ok (.aaload, 1)) (hWd : ev_Wd D cl dA A s w ws H locs) (hw : w[o]? = some (1, kd, n, es)) (hj : j < n) (hN : n < 2147483648) (hv : es[j]? = some v) (hb : (ws.map Prod.fst)[o]? = some b)
    (kk : ∀ y : Value, ev_vr (ws.map Prod.fst) v y → W p l e R s m args below meth c H locs nc ns Q (F0 m (pc + 1) ls (y :: rs))) : W p l e R s m args below meth c H locs nc ns Q (F0 m pc ls (.int (nI j) :: .ref b :: rs)) := by
  obtain ⟨h4, h6, h7, h8⟩ := hWd
  obtain ⟨E, hE, hr⟩ := h4.at hw hb
  rcases hr with ⟨hr, -⟩ | ⟨hr, f, rfl, hf⟩ | ⟨hr, -⟩ | ⟨hr, -⟩ | hr
  case inr.inl =>
    have hc : (nI j).toNatClampNeg = j := nI_clamp (by omega)
    have hin : vp_in (nI j) n := vp_in_nI hj hN
    exact W.aald (v := va_rf (f j)) (ty := ty) X.1.1 X.1.2.1 (h6 o _ hE) ((X.2.1.1.2 kd _ (ev_tys_at hkt)).1 n (fun j => va_rf (f j))) hrt (fun q => by cases q) (by show ¬ (nI j < 0 ∨ (arrV _ _ _).slots.size ≤ _); rw [arrV_size]; exact hin) (by show (arrV _ _ _).slots[_]? = _; rw [hc, arrV_read _ _ hj]) rfl rfl hd (kk _ (hf j v hv))
  all_goals exact absurd hr (by simp)
/-- a load out of an array of bytes: its contents are told -/
theorem ev_w_bald (X : ev_X p s m args c D cl dA kt A Gs own cc nL) {kd n o k b : Nat} {f : Nat → Int32} (hkt : kt[kd]? = some .byte) (hd : decode cc pc = .ok (.baload, 1)) (hWd : ev_Wd D cl dA A s w ws H locs) (hE : ws[o]? = some (b, .inl (dA kd, n, .inl f))) (hk : k < n) (hN : n < 2147483648)
    (kk : W p l e R s m args below meth c H locs nc ns Q (F0 m (pc + 1) ls (.int (f k) :: rs))) : W p l e R s m args below meth c H locs nc ns Q (F0 m pc ls (.int (nI k) :: .ref b :: rs)) := by
  have hc : (nI k).toNatClampNeg = k := nI_clamp (by omega)
  refine va_bald X.1.1 X.1.2.1 X.2.1.1 hWd.2.1 o kd hE (ev_tys_at hkt) (vp_in_nI hk hN) hd ?_
  rw [hc]
  exact kk
/-- and a store -/
theorem ev_w_bast (X : ev_X p s m args c D cl dA kt A Gs own cc nL) {kd n o k b : Nat} {f : Nat → Int32} {x : Int32} {z : ev_V} {zs : List (Nat × Nat × Nat)} (hkt : kt[kd]? = some .byte) (hd : decode cc pc = .ok (.bastore, 1)) (hWd : ev_Wd D cl dA A s w ws H locs) (hw : w[o]? = some (2, kd, n, z :: zs)) (hE : ws[o]? = some (b, .inl (dA kd, n, .inl f))) (hk : k < n) (hN : n < 2147483648)
    (kk : ∀ (ws1 : va_W) (H1 : Heap) (locs1 : List Loc), ws1.map Prod.fst = ws.map Prod.fst → (∀ j : Nat, j ≠ o → ws1[j]? = ws[j]?) → ws1[o]? = some (b, .inl (dA kd, n, .inl (upd f k (vp_nar .byte x)))) → ev_Wd D cl dA A s (w.set o (2, kd, n, [ev_hull z ev_byte])) ws1 H1 locs1 → W p l e R s m args below meth c H1 locs1 nc ns Q (F0 m (pc + 1) ls rs)) : W p l e R s m args below meth c H locs nc ns Q (F0 m pc ls (.int x :: .int (nI k) :: .ref b :: rs)) := by
  obtain ⟨h4, h6, h7, h8⟩ := hWd
  have hc : (nI k).toNatClampNeg = k := nI_clamp (by omega)
  obtain ⟨q9, hq9, hcr⟩ := h4.2 o _ hw
  obtain rfl : q9 = (b, .inl (dA kd, n, .inl f)) := Option.some.inj (hq9.symm.trans hE)
  obtain ⟨f', hf', hj'⟩ := hcr.ints (Or.inl rfl) rfl
  have hff : f' = f := by
    have h9 := hf'
    simp only [Sum.inl.injEq, Prod.mk.injEq, true_and] at h9
    exact h9.symm
  subst hff
  refine va_bast X.1.1 X.1.2.1 X.2.1.1 h6 h7 h8 o kd hE (ev_tys_at hkt) (vp_in_nI hk hN) hd (fun H1 locs1 g6 g7 g8 => ?_)
  rw [hc] at g6 g7
  refine kk _ H1 locs1 (ev_map_set hE) (fun j hj => List.getElem?_set_ne (Ne.symm hj)) (List.getElem?_set_self (List.getElem?_eq_some_iff.mp hE).1) ⟨h4.set hE (Or.inr (Or.inr (Or.inl ⟨rfl, _, rfl, fun u hu j => ?_⟩))), g6, g7, g8⟩
  obtain rfl : ev_hull z ev_byte = u := Option.some.inj hu
  by_cases hj : j = k
  · rw [hj, pk_us]
    exact ev_hull_r (ev_byte_in x)
  · rw [pk_un hj]
    exact ev_hull_l (hj' j)
end LWY
def th_we : List ev_C := [(0, 4, 0, [(2, 1, 0), (2, 2, 0), (2, 3, 0), (2, 4, 0), (2, 5, 0), (2, 6, 0), (0, 2147483648, 2147483648), (0, 2147483903, 2147483903), (2, 7, 0), (2, 8, 0), (0, 2147483647, 2147483647), (0, 2147483649, 2147483649), (2, 9, 0), (2, 10, 0), (2, 11, 0), (2, 12, 0), (2, 13, 0), (0, 2147483648, 2147483648), (0, 2147483648, 2147483648), (0, 2147483648, 2147483648)]), (0, 2, 0, [(2, 14, 0), (2, 15, 0), (2, 16, 0), (2, 17, 0), (2, 18, 0)]), (9, 0, 0, []), (1, 6, 64, [(2, 19, 0), (2, 20, 0), (2, 21, 0), (2, 22, 0), (2, 23, 0), (2, 24, 0), (2, 25, 0), (2, 26, 0), (2, 27, 0), (2, 28, 0), (2, 29, 0), (2, 30, 0), (2, 31, 0), (2, 32, 0), (2, 33, 0), (2, 34, 0), (2, 35, 0), (2, 36, 0), (2, 37, 0), (2, 38, 0), (2, 39, 0), (2, 40, 0), (2, 41, 0), (2, 42, 0), (2, 43, 0), (2, 44, 0), (2, 45, 0), (2, 46, 0), (2, 47, 0), (2, 48, 0), (2, 49, 0), (2, 50, 0), (2, 51, 0), (2, 52, 0), (2, 53, 0), (2, 54, 0), (2, 55, 0), (2, 56, 0), (2, 57, 0), (2, 58, 0), (2, 59, 0), (2, 60, 0), (2, 61, 0), (2, 62, 0), (2, 63, 0), (2, 64, 0), (2, 65, 0), (2, 66, 0), (2, 67, 0), (2, 68, 0), (2, 69, 0), (2, 70, 0), (2, 71, 0), (2, 72, 0), (2, 73, 0), (2, 74, 0), (2, 75, 0), (2, 76, 0), (2, 77, 0), (2, 78, 0), (2, 79, 0), (2, 80, 0), (2, 81, 0), (2, 82, 0)]), (9, 0, 0, []), (1, 6, 64, [(2, 83, 0), (2, 84, 0), (2, 85, 0), (2, 86, 0), (2, 87, 0), (2, 88, 0), (2, 89, 0), (2, 90, 0), (2, 91, 0), (2, 92, 0), (2, 93, 0), (2, 94, 0), (2, 95, 0), (2, 96, 0), (2, 97, 0), (2, 98, 0), (2, 99, 0), (2, 100, 0), (2, 101, 0), (2, 102, 0), (2, 103, 0), (2, 104, 0), (2, 105, 0), (2, 106, 0), (2, 107, 0), (2, 108, 0), (2, 109, 0), (2, 110, 0), (2, 111, 0), (2, 112, 0), (2, 113, 0), (2, 114, 0), (2, 115, 0), (2, 116, 0), (2, 117, 0), (2, 118, 0), (2, 119, 0), (2, 120, 0), (2, 121, 0), (2, 122, 0), (2, 123, 0), (2, 124, 0), (2, 125, 0), (2, 126, 0), (2, 127, 0), (2, 128, 0), (2, 129, 0), (2, 130, 0), (2, 131, 0), (2, 132, 0), (2, 133, 0), (2, 134, 0), (2, 135, 0), (2, 136, 0), (2, 137, 0), (2, 138, 0), (2, 139, 0), (2, 140, 0), (2, 141, 0), (2, 142, 0), (2, 143, 0), (2, 144, 0), (2, 145, 0), (2, 146, 0)]), (2, 1, 64, [(0, 2147483648, 2147483648)]), (9, 0, 0, []), (9, 0, 0, []), (9, 0, 0, []), (9, 0, 0, []), (9, 0, 0, []), (9, 0, 0, []), (9, 0, 0, []), (2, 1, 8, [(0, 0, 4294967295)]), (2, 1, 64, [(0, 0, 4294967295)]), (2, 0, 128, [(0, 2147483520, 2147483775)]), (9, 0, 0, []), (9, 0, 0, []), (2, 0, 256, [(0, 2147483648, 2147483648)]), (2, 0, 256, [(0, 2147483648, 2147483648)]), (2, 0, 256, [(0, 2147483648, 2147483648)]), (2, 0, 256, [(0, 2147483648, 2147483648)]), (2, 0, 256, [(0, 2147483648, 2147483648)]), (2, 0, 256, [(0, 2147483648, 2147483648)]), (2, 0, 256, [(0, 2147483648, 2147483648)]), (2, 0, 256, [(0, 2147483648, 2147483648)]), (2, 0, 256, [(0, 2147483648, 2147483648)]), (2, 0, 256, [(0, 2147483648, 2147483648)]), (2, 0, 256, [(0, 2147483648, 2147483648)]), (2, 0, 256, [(0, 2147483648, 2147483648)]), (2, 0, 256, [(0, 2147483648, 2147483648)]), (2, 0, 256, [(0, 2147483648, 2147483648)]), (2, 0, 256, [(0, 2147483648, 2147483648)]), (2, 0, 256, [(0, 2147483648, 2147483648)]), (2, 0, 256, [(0, 2147483648, 2147483648)]), (2, 0, 256, [(0, 2147483648, 2147483648)]), (2, 0, 256, [(0, 2147483648, 2147483648)]), (2, 0, 256, [(0, 2147483648, 2147483648)]), (2, 0, 256, [(0, 2147483648, 2147483648)]), (2, 0, 256, [(0, 2147483648, 2147483648)]), (2, 0, 256, [(0, 2147483648, 2147483648)]), (2, 0, 256, [(0, 2147483648, 2147483648)]), (2, 0, 256, [(0, 2147483648, 2147483648)]), (2, 0, 256, [(0, 2147483648, 2147483648)]), (2, 0, 256, [(0, 2147483648, 2147483648)]), (2, 0, 256, [(0, 2147483648, 2147483648)]), (2, 0, 256, [(0, 2147483648, 2147483648)]), (2, 0, 256, [(0, 2147483648, 2147483648)]), (2, 0, 256, [(0, 2147483648, 2147483648)]), (2, 0, 256, [(0, 2147483648, 2147483648)]), (2, 0, 256, [(0, 2147483648, 2147483648)]), (2, 0, 256, [(0, 2147483648, 2147483648)]), (2, 0, 256, [(0, 2147483648, 2147483648)]), (2, 0, 256, [(0, 2147483648, 2147483648)]), (2, 0, 256, [(0, 2147483648, 2147483648)]), (2, 0, 256, [(0, 2147483648, 2147483648)]), (2, 0, 256, [(0, 2147483648, 2147483648)]), (2, 0, 256, [(0, 2147483648, 2147483648)]), (2, 0, 256, [(0, 2147483648, 2147483648)]), (2, 0, 256, [(0, 2147483648, 2147483648)]), (2, 0, 256, [(0, 2147483648, 2147483648)]), (2, 0, 256, [(0, 2147483648, 2147483648)]), (2, 0, 256, [(0, 2147483648, 2147483648)]), (2, 0, 256, [(0, 2147483648, 2147483648)]), (2, 0, 256, [(0, 2147483648, 2147483648)]), (2, 0, 256, [(0, 2147483648, 2147483648)]), (2, 0, 256, [(0, 2147483648, 2147483648)]), (2, 0, 256, [(0, 2147483648, 2147483648)]), (2, 0, 256, [(0, 2147483648, 2147483648)]), (2, 0, 256, [(0, 2147483648, 2147483648)]), (2, 0, 256, [(0, 2147483648, 2147483648)]), (2, 0, 256, [(0, 2147483648, 2147483648)]), (2, 0, 256, [(0, 2147483648, 2147483648)]), (2, 0, 256, [(0, 2147483648, 2147483648)]), (2, 0, 256, [(0, 2147483648, 2147483648)]), (2, 0, 256, [(0, 2147483648, 2147483648)]), (2, 0, 256, [(0, 2147483648, 2147483648)]), (2, 0, 256, [(0, 2147483648, 2147483648)]), (2, 0, 256, [(0, 2147483648, 2147483648)]), (2, 0, 256, [(0, 2147483648, 2147483648)]), (2, 0, 256, [(0, 2147483648, 2147483648)]), (2, 0, 256, [(0, 2147483648, 2147483648)]), (2, 0, 32, [(0, 2147483520, 2147483775)]), (2, 0, 32, [(0, 2147483520, 2147483775)]), (2, 0, 32, [(0, 2147483520, 2147483775)]), (2, 0, 32, [(0, 2147483520, 2147483775)]), (2, 0, 32, [(0, 2147483520, 2147483775)]), (2, 0, 32, [(0, 2147483520, 2147483775)]), (2, 0, 32, [(0, 2147483520, 2147483775)]), (2, 0, 32, [(0, 2147483520, 2147483775)]), (2, 0, 32, [(0, 2147483520, 2147483775)]), (2, 0, 32, [(0, 2147483520, 2147483775)]), (2, 0, 32, [(0, 2147483520, 2147483775)]), (2, 0, 32, [(0, 2147483520, 2147483775)]), (2, 0, 32, [(0, 2147483520, 2147483775)]), (2, 0, 32, [(0, 2147483520, 2147483775)]), (2, 0, 32, [(0, 2147483520, 2147483775)]), (2, 0, 32, [(0, 2147483520, 2147483775)]), (2, 0, 32, [(0, 2147483520, 2147483775)]), (2, 0, 32, [(0, 2147483520, 2147483775)]), (2, 0, 32, [(0, 2147483520, 2147483775)]), (2, 0, 32, [(0, 2147483520, 2147483775)]), (2, 0, 32, [(0, 2147483520, 2147483775)]), (2, 0, 32, [(0, 2147483520, 2147483775)]), (2, 0, 32, [(0, 2147483520, 2147483775)]), (2, 0, 32, [(0, 2147483520, 2147483775)]), (2, 0, 32, [(0, 2147483520, 2147483775)]), (2, 0, 32, [(0, 2147483520, 2147483775)]), (2, 0, 32, [(0, 2147483520, 2147483775)]), (2, 0, 32, [(0, 2147483520, 2147483775)]), (2, 0, 32, [(0, 2147483520, 2147483775)]), (2, 0, 32, [(0, 2147483520, 2147483775)]), (2, 0, 32, [(0, 2147483520, 2147483775)]), (2, 0, 32, [(0, 2147483520, 2147483775)]), (2, 0, 32, [(0, 2147483520, 2147483775)]), (2, 0, 32, [(0, 2147483520, 2147483775)]), (2, 0, 32, [(0, 2147483520, 2147483775)]), (2, 0, 32, [(0, 2147483520, 2147483775)]), (2, 0, 32, [(0, 2147483520, 2147483775)]), (2, 0, 32, [(0, 2147483520, 2147483775)]), (2, 0, 32, [(0, 2147483520, 2147483775)]), (2, 0, 32, [(0, 2147483520, 2147483775)]), (2, 0, 32, [(0, 2147483520, 2147483775)]), (2, 0, 32, [(0, 2147483520, 2147483775)]), (2, 0, 32, [(0, 2147483520, 2147483775)]), (2, 0, 32, [(0, 2147483520, 2147483775)]), (2, 0, 32, [(0, 2147483520, 2147483775)]), (2, 0, 32, [(0, 2147483520, 2147483775)]), (2, 0, 32, [(0, 2147483520, 2147483775)]), (2, 0, 32, [(0, 2147483520, 2147483775)]), (2, 0, 32, [(0, 2147483520, 2147483775)]), (2, 0, 32, [(0, 2147483520, 2147483775)]), (2, 0, 32, [(0, 2147483520, 2147483775)]), (2, 0, 32, [(0, 2147483520, 2147483775)]), (2, 0, 32, [(0, 2147483520, 2147483775)]), (2, 0, 32, [(0, 2147483520, 2147483775)]), (2, 0, 32, [(0, 2147483520, 2147483775)]), (2, 0, 32, [(0, 2147483520, 2147483775)]), (2, 0, 32, [(0, 2147483520, 2147483775)]), (2, 0, 32, [(0, 2147483520, 2147483775)]), (2, 0, 32, [(0, 2147483520, 2147483775)]), (2, 0, 32, [(0, 2147483520, 2147483775)]), (2, 0, 32, [(0, 2147483520, 2147483775)]), (2, 0, 32, [(0, 2147483520, 2147483775)]), (2, 0, 32, [(0, 2147483520, 2147483775)]), (2, 0, 32, [(0, 2147483520, 2147483775)])]
def th_we1 : List ev_C := [(0, 4, 0, [(2, 1, 0), (2, 2, 0), (2, 3, 0), (2, 4, 0), (2, 5, 0), (2, 6, 0), (0, 2147483648, 2147483648), (0, 2147483903, 2147483903), (2, 7, 0), (2, 8, 0), (0, 2147483647, 2147483647), (0, 2147483649, 2147483649), (2, 9, 0), (2, 10, 0), (2, 11, 0), (2, 12, 0), (2, 13, 0), (0, 2147483648, 2147483648), (0, 2147483648, 2147483648), (0, 2147483648, 2147483648)]), (0, 2, 0, [(2, 14, 0), (2, 15, 0), (2, 16, 0), (2, 17, 0), (2, 18, 0)]), (9, 0, 0, []), (1, 6, 64, [(2, 19, 0), (2, 20, 0), (2, 21, 0), (2, 22, 0), (2, 23, 0), (2, 24, 0), (2, 25, 0), (2, 26, 0), (2, 27, 0), (2, 28, 0), (2, 29, 0), (2, 30, 0), (2, 31, 0), (2, 32, 0), (2, 33, 0), (2, 34, 0), (2, 35, 0), (2, 36, 0), (2, 37, 0), (2, 38, 0), (2, 39, 0), (2, 40, 0), (2, 41, 0), (2, 42, 0), (2, 43, 0), (2, 44, 0), (2, 45, 0), (2, 46, 0), (2, 47, 0), (2, 48, 0), (2, 49, 0), (2, 50, 0), (2, 51, 0), (2, 52, 0), (2, 53, 0), (2, 54, 0), (2, 55, 0), (2, 56, 0), (2, 57, 0), (2, 58, 0), (2, 59, 0), (2, 60, 0), (2, 61, 0), (2, 62, 0), (2, 63, 0), (2, 64, 0), (2, 65, 0), (2, 66, 0), (2, 67, 0), (2, 68, 0), (2, 69, 0), (2, 70, 0), (2, 71, 0), (2, 72, 0), (2, 73, 0), (2, 74, 0), (2, 75, 0), (2, 76, 0), (2, 77, 0), (2, 78, 0), (2, 79, 0), (2, 80, 0), (2, 81, 0), (2, 82, 0)]), (9, 0, 0, []), (1, 6, 64, [(2, 83, 0), (2, 84, 0), (2, 85, 0), (2, 86, 0), (2, 87, 0), (2, 88, 0), (2, 89, 0), (2, 90, 0), (2, 91, 0), (2, 92, 0), (2, 93, 0), (2, 94, 0), (2, 95, 0), (2, 96, 0), (2, 97, 0), (2, 98, 0), (2, 99, 0), (2, 100, 0), (2, 101, 0), (2, 102, 0), (2, 103, 0), (2, 104, 0), (2, 105, 0), (2, 106, 0), (2, 107, 0), (2, 108, 0), (2, 109, 0), (2, 110, 0), (2, 111, 0), (2, 112, 0), (2, 113, 0), (2, 114, 0), (2, 115, 0), (2, 116, 0), (2, 117, 0), (2, 118, 0), (2, 119, 0), (2, 120, 0), (2, 121, 0), (2, 122, 0), (2, 123, 0), (2, 124, 0), (2, 125, 0), (2, 126, 0), (2, 127, 0), (2, 128, 0), (2, 129, 0), (2, 130, 0), (2, 131, 0), (2, 132, 0), (2, 133, 0), (2, 134, 0), (2, 135, 0), (2, 136, 0), (2, 137, 0), (2, 138, 0), (2, 139, 0), (2, 140, 0), (2, 141, 0), (2, 142, 0), (2, 143, 0), (2, 144, 0), (2, 145, 0), (2, 146, 0)]), (2, 1, 64, [(0, 2147483648, 2147483648)]), (9, 0, 0, []), (9, 0, 0, []), (9, 0, 0, []), (9, 0, 0, []), (9, 0, 0, []), (9, 0, 0, []), (9, 0, 0, []), (2, 1, 8, [(0, 0, 4294967295)]), (2, 1, 64, [(0, 0, 4294967295)]), (2, 0, 128, [(0, 2147483520, 2147483775)]), (9, 0, 0, []), (9, 0, 0, []), (2, 0, 256, [(0, 2147483520, 2147483775)]), (2, 0, 256, [(0, 2147483520, 2147483775)]), (2, 0, 256, [(0, 2147483520, 2147483775)]), (2, 0, 256, [(0, 2147483520, 2147483775)]), (2, 0, 256, [(0, 2147483520, 2147483775)]), (2, 0, 256, [(0, 2147483520, 2147483775)]), (2, 0, 256, [(0, 2147483520, 2147483775)]), (2, 0, 256, [(0, 2147483520, 2147483775)]), (2, 0, 256, [(0, 2147483520, 2147483775)]), (2, 0, 256, [(0, 2147483520, 2147483775)]), (2, 0, 256, [(0, 2147483520, 2147483775)]), (2, 0, 256, [(0, 2147483520, 2147483775)]), (2, 0, 256, [(0, 2147483520, 2147483775)]), (2, 0, 256, [(0, 2147483520, 2147483775)]), (2, 0, 256, [(0, 2147483520, 2147483775)]), (2, 0, 256, [(0, 2147483520, 2147483775)]), (2, 0, 256, [(0, 2147483520, 2147483775)]), (2, 0, 256, [(0, 2147483520, 2147483775)]), (2, 0, 256, [(0, 2147483520, 2147483775)]), (2, 0, 256, [(0, 2147483520, 2147483775)]), (2, 0, 256, [(0, 2147483520, 2147483775)]), (2, 0, 256, [(0, 2147483520, 2147483775)]), (2, 0, 256, [(0, 2147483520, 2147483775)]), (2, 0, 256, [(0, 2147483520, 2147483775)]), (2, 0, 256, [(0, 2147483520, 2147483775)]), (2, 0, 256, [(0, 2147483520, 2147483775)]), (2, 0, 256, [(0, 2147483520, 2147483775)]), (2, 0, 256, [(0, 2147483520, 2147483775)]), (2, 0, 256, [(0, 2147483520, 2147483775)]), (2, 0, 256, [(0, 2147483520, 2147483775)]), (2, 0, 256, [(0, 2147483520, 2147483775)]), (2, 0, 256, [(0, 2147483520, 2147483775)]), (2, 0, 256, [(0, 2147483520, 2147483775)]), (2, 0, 256, [(0, 2147483520, 2147483775)]), (2, 0, 256, [(0, 2147483520, 2147483775)]), (2, 0, 256, [(0, 2147483520, 2147483775)]), (2, 0, 256, [(0, 2147483520, 2147483775)]), (2, 0, 256, [(0, 2147483520, 2147483775)]), (2, 0, 256, [(0, 2147483520, 2147483775)]), (2, 0, 256, [(0, 2147483520, 2147483775)]), (2, 0, 256, [(0, 2147483520, 2147483775)]), (2, 0, 256, [(0, 2147483520, 2147483775)]), (2, 0, 256, [(0, 2147483520, 2147483775)]), (2, 0, 256, [(0, 2147483520, 2147483775)]), (2, 0, 256, [(0, 2147483520, 2147483775)]), (2, 0, 256, [(0, 2147483520, 2147483775)]), (2, 0, 256, [(0, 2147483520, 2147483775)]), (2, 0, 256, [(0, 2147483520, 2147483775)]), (2, 0, 256, [(0, 2147483520, 2147483775)]), (2, 0, 256, [(0, 2147483520, 2147483775)]), (2, 0, 256, [(0, 2147483520, 2147483775)]), (2, 0, 256, [(0, 2147483520, 2147483775)]), (2, 0, 256, [(0, 2147483520, 2147483775)]), (2, 0, 256, [(0, 2147483520, 2147483775)]), (2, 0, 256, [(0, 2147483520, 2147483775)]), (2, 0, 256, [(0, 2147483520, 2147483775)]), (2, 0, 256, [(0, 2147483520, 2147483775)]), (2, 0, 256, [(0, 2147483520, 2147483775)]), (2, 0, 256, [(0, 2147483520, 2147483775)]), (2, 0, 256, [(0, 2147483520, 2147483775)]), (2, 0, 256, [(0, 2147483520, 2147483775)]), (2, 0, 256, [(0, 2147483520, 2147483775)]), (2, 0, 256, [(0, 2147483520, 2147483775)]), (2, 0, 256, [(0, 2147483520, 2147483775)]), (2, 0, 32, [(0, 2147483520, 2147483775)]), (2, 0, 32, [(0, 2147483520, 2147483775)]), (2, 0, 32, [(0, 2147483520, 2147483775)]), (2, 0, 32, [(0, 2147483520, 2147483775)]), (2, 0, 32, [(0, 2147483520, 2147483775)]), (2, 0, 32, [(0, 2147483520, 2147483775)]), (2, 0, 32, [(0, 2147483520, 2147483775)]), (2, 0, 32, [(0, 2147483520, 2147483775)]), (2, 0, 32, [(0, 2147483520, 2147483775)]), (2, 0, 32, [(0, 2147483520, 2147483775)]), (2, 0, 32, [(0, 2147483520, 2147483775)]), (2, 0, 32, [(0, 2147483520, 2147483775)]), (2, 0, 32, [(0, 2147483520, 2147483775)]), (2, 0, 32, [(0, 2147483520, 2147483775)]), (2, 0, 32, [(0, 2147483520, 2147483775)]), (2, 0, 32, [(0, 2147483520, 2147483775)]), (2, 0, 32, [(0, 2147483520, 2147483775)]), (2, 0, 32, [(0, 2147483520, 2147483775)]), (2, 0, 32, [(0, 2147483520, 2147483775)]), (2, 0, 32, [(0, 2147483520, 2147483775)]), (2, 0, 32, [(0, 2147483520, 2147483775)]), (2, 0, 32, [(0, 2147483520, 2147483775)]), (2, 0, 32, [(0, 2147483520, 2147483775)]), (2, 0, 32, [(0, 2147483520, 2147483775)]), (2, 0, 32, [(0, 2147483520, 2147483775)]), (2, 0, 32, [(0, 2147483520, 2147483775)]), (2, 0, 32, [(0, 2147483520, 2147483775)]), (2, 0, 32, [(0, 2147483520, 2147483775)]), (2, 0, 32, [(0, 2147483520, 2147483775)]), (2, 0, 32, [(0, 2147483520, 2147483775)]), (2, 0, 32, [(0, 2147483520, 2147483775)]), (2, 0, 32, [(0, 2147483520, 2147483775)]), (2, 0, 32, [(0, 2147483520, 2147483775)]), (2, 0, 32, [(0, 2147483520, 2147483775)]), (2, 0, 32, [(0, 2147483520, 2147483775)]), (2, 0, 32, [(0, 2147483520, 2147483775)]), (2, 0, 32, [(0, 2147483520, 2147483775)]), (2, 0, 32, [(0, 2147483520, 2147483775)]), (2, 0, 32, [(0, 2147483520, 2147483775)]), (2, 0, 32, [(0, 2147483520, 2147483775)]), (2, 0, 32, [(0, 2147483520, 2147483775)]), (2, 0, 32, [(0, 2147483520, 2147483775)]), (2, 0, 32, [(0, 2147483520, 2147483775)]), (2, 0, 32, [(0, 2147483520, 2147483775)]), (2, 0, 32, [(0, 2147483520, 2147483775)]), (2, 0, 32, [(0, 2147483520, 2147483775)]), (2, 0, 32, [(0, 2147483520, 2147483775)]), (2, 0, 32, [(0, 2147483520, 2147483775)]), (2, 0, 32, [(0, 2147483520, 2147483775)]), (2, 0, 32, [(0, 2147483520, 2147483775)]), (2, 0, 32, [(0, 2147483520, 2147483775)]), (2, 0, 32, [(0, 2147483520, 2147483775)]), (2, 0, 32, [(0, 2147483520, 2147483775)]), (2, 0, 32, [(0, 2147483520, 2147483775)]), (2, 0, 32, [(0, 2147483520, 2147483775)]), (2, 0, 32, [(0, 2147483520, 2147483775)]), (2, 0, 32, [(0, 2147483520, 2147483775)]), (2, 0, 32, [(0, 2147483520, 2147483775)]), (2, 0, 32, [(0, 2147483520, 2147483775)]), (2, 0, 32, [(0, 2147483520, 2147483775)]), (2, 0, 32, [(0, 2147483520, 2147483775)]), (2, 0, 32, [(0, 2147483520, 2147483775)]), (2, 0, 32, [(0, 2147483520, 2147483775)]), (2, 0, 32, [(0, 2147483520, 2147483775)])]
def th_es : List (Nat × Nat × Nat) := [(2, 19, 0), (2, 20, 0), (2, 21, 0), (2, 22, 0), (2, 23, 0), (2, 24, 0), (2, 25, 0), (2, 26, 0), (2, 27, 0), (2, 28, 0), (2, 29, 0), (2, 30, 0), (2, 31, 0), (2, 32, 0), (2, 33, 0), (2, 34, 0), (2, 35, 0), (2, 36, 0), (2, 37, 0), (2, 38, 0), (2, 39, 0), (2, 40, 0), (2, 41, 0), (2, 42, 0), (2, 43, 0), (2, 44, 0), (2, 45, 0), (2, 46, 0), (2, 47, 0), (2, 48, 0), (2, 49, 0), (2, 50, 0), (2, 51, 0), (2, 52, 0), (2, 53, 0), (2, 54, 0), (2, 55, 0), (2, 56, 0), (2, 57, 0), (2, 58, 0), (2, 59, 0), (2, 60, 0), (2, 61, 0), (2, 62, 0), (2, 63, 0), (2, 64, 0), (2, 65, 0), (2, 66, 0), (2, 67, 0), (2, 68, 0), (2, 69, 0), (2, 70, 0), (2, 71, 0), (2, 72, 0), (2, 73, 0), (2, 74, 0), (2, 75, 0), (2, 76, 0), (2, 77, 0), (2, 78, 0), (2, 79, 0), (2, 80, 0), (2, 81, 0), (2, 82, 0)]
theorem th_es_at : ∀ j, j < 64 → th_es[j]? = some (2, 19 + j, 0) := by decide +kernel
theorem ev_atW {w : List ev_C} {k : Nat} {c : ev_C} (h : (match w[k]? with
  | some d => ev_eqW [d] [c]
  | none => false) = true) : w[k]? = some c := by
  cases hk : w[k]? with
  | none => rw [hk] at h; cases h
  | some d =>
    rw [hk] at h
    rw [(List.cons.inj (ev_eqW_r h)).1]
theorem th_we_at : ∀ j, j < 64 → th_we[19 + j]? = some (2, 0, 256, [(0, 2147483648, 2147483648)]) := by
  have h : (List.range 64).all (fun j => match th_we[19 + j]? with
    | some d => ev_eqW [d] [(2, 0, 256, [(0, 2147483648, 2147483648)])]
    | none => false) = true := by decide +kernel
  exact fun j hj => ev_atW (List.all_eq_true.mp h j (List.mem_range.mpr hj))
theorem th_we_le : ∀ j, j < 64 → ev_leW (th_we.set (19 + j) (2, 0, 256, [ev_hull (0, 2147483648, 2147483648) ev_byte])) th_we1 = true := by decide +kernel
theorem th_we_le0 : ev_leW th_we th_we1 = true := by decide +kernel
def th_is : List Nat := List.range 147
def th_q145 : Nat × Nat × List (Nat × Nat) × List (Nat × Nat × Nat) × List ev_C × ev_R := (36, 3, [(0, 0), (1, 0), (1, 1), (1, 2), (1, 3), (1, 4), (1, 5), (1, 8), (1, 9), (1, 12), (1, 13), (1, 14), (1, 15), (1, 16), (2, 0), (2, 1), (2, 2), (2, 3), (2, 4), (4, 0), (4, 1), (4, 2), (4, 3), (4, 4), (4, 5), (4, 6), (4, 7), (4, 8), (4, 9), (4, 10), (4, 11), (4, 12), (4, 13), (4, 14), (4, 15), (4, 16), (4, 17), (4, 18), (4, 19), (4, 20), (4, 21), (4, 22), (4, 23), (4, 24), (4, 25), (4, 26), (4, 27), (4, 28), (4, 29), (4, 30), (4, 31), (4, 32), (4, 33), (4, 34), (4, 35), (4, 36), (4, 37), (4, 38), (4, 39), (4, 40), (4, 41), (4, 42), (4, 43), (4, 44), (4, 45), (4, 46), (4, 47), (4, 48), (4, 49), (4, 50), (4, 51), (4, 52), (4, 53), (4, 54), (4, 55), (4, 56), (4, 57), (4, 58), (4, 59), (4, 60), (4, 61), (4, 62), (4, 63), (6, 0), (6, 1), (6, 2), (6, 3), (6, 4), (6, 5), (6, 6), (6, 7), (6, 8), (6, 9), (6, 10), (6, 11), (6, 12), (6, 13), (6, 14), (6, 15), (6, 16), (6, 17), (6, 18), (6, 19), (6, 20), (6, 21), (6, 22), (6, 23), (6, 24), (6, 25), (6, 26), (6, 27), (6, 28), (6, 29), (6, 30), (6, 31), (6, 32), (6, 33), (6, 34), (6, 35), (6, 36), (6, 37), (6, 38), (6, 39), (6, 40), (6, 41), (6, 42), (6, 43), (6, 44), (6, 45), (6, 46), (6, 47), (6, 48), (6, 49), (6, 50), (6, 51), (6, 52), (6, 53), (6, 54), (6, 55), (6, 56), (6, 57), (6, 58), (6, 59), (6, 60), (6, 61), (6, 62), (6, 63)], [(2, 0, 0), (0, 2147483648, 2147483711)], ct_w145, ct_r145)
set_option maxRecDepth 100000 in
theorem th_ck145 : ev_ckx th_q145 3 th_we1 [(2, 0, 0), (0, 2147483648, 2147483711)] 0 4 none 0 0 th_is = true := by decide +kernel
set_option maxRecDepth 100000 in
theorem th_af145 : ev_afx th_q145 th_we1 th_is = th_we1 := ev_eqW_r (by decide +kernel)
theorem th_9 : ∀ j, j < 64 → 19 + j < ct_r145.2.1.length ∧ th_is[19 + j]? = some (19 + j) ∧ (ct_w145.getD (19 + j) ev_c0).1 = 9 := by decide +kernel
theorem th_99 : ∀ j, j < 147 → (th_we1.getD j ev_c0).1 = 9 → j < ct_r145.2.1.length ∧ th_is[j]? = some j ∧ (ct_w145.getD j ev_c0).1 = 9 ∧ ¬ (19 ≤ j ∧ j < 83) := by decide +kernel
theorem th_edit (l : Launch) (D : va_G) (dA : Nat → ClassId) (x : Int32) : ev_Met l D ct_cl dA ct_kt ct_gs ⟨"TrustedMachine$Vault", "edit", "(III)I"⟩ prog_12_method_2_code 4 (some .int) 4 [(2, 0, 0), (0, 2147483648, 2147483711), (0, 2147483648, 2147483903), (0, ev_sx x, ev_sx x)] th_we (some (0, ev_sx (th_v x), ev_sx (th_v x)), th_we1, 0, 0) := by
  intro av ws sz hsr hwr
  obtain ⟨b, i, k, hav, hb0, hi, hk⟩ : ∃ (b : Nat) (i k : Int32), av = [Value.ref b, Value.int i, Value.int k, Value.int x] ∧ (ws.map Prod.fst)[0]? = some b ∧ ev_in (0, 2147483648, 2147483711) i ∧ ev_in (0, 2147483648, 2147483903) k := by
    match av, hsr with
    | [x0, x1, x2, x3], h =>
      obtain ⟨g0, g1, g2, g3, -⟩ := h
      obtain ⟨b, hb, rfl⟩ := g0.ref rfl
      obtain ⟨i, rfl, hi⟩ := g1.int rfl
      obtain ⟨k, rfl, hk⟩ := g2.int rfl
      obtain ⟨x', rfl, hx⟩ := g3.int rfl
      have hxx : x' = x := ev_sx_inj (Nat.le_antisymm hx.2 hx.1)
      exact ⟨b, i, k, by rw [hxx], hb, hi, hk⟩
    | [], h => exact h.elim
    | [_], h => exact h.2.elim
    | [_, _], h => exact h.2.2.elim
    | [_, _, _], h => exact h.2.2.2.elim
    | _ :: _ :: _ :: _ :: _ :: _, h => exact h.2.2.2.2.elim
  subst hav
  obtain ⟨j, hj, rfl⟩ := th_nat (n := 63) (by decide) hi
  obtain ⟨k, hk, rfl⟩ := th_nat (n := 255) (by decide) hk
  have hj : j < 64 := by omega
  have hk : k < 256 := by omega
  refine Met.ofW (cc := prog_12_method_2_code) (maxL := 4) (ret := some .int) (by decide) rfl ?_
  intro p e s m args below meth c s₁ B hml hv
  obtain ⟨rfl, hsz, hPs, hK, hD0, hTb⟩ := hv
  have hts := atoms_spec (ws := _ :: ct_gs) B.pre
  have hown : s.vm.findClass "TrustedMachine$Vault" = some m.cls := findClass_of_methodNamed B.named
  subst hsz
  have hD := hD0.self (sz := s.heap.size)
  have hl := lv_entry [Value.ref b, Value.int (nI j), Value.int (nI k), Value.int x] (n := 4) (Nat.le_of_ble_eq_true rfl)
  rw [lg_entry_eq]
  generalize (lg_sl [Value.ref b, Value.int (nI j), Value.int (nI k), Value.int x] ++ List.replicate (4 - (lg_sl [Value.ref b, Value.int (nI j), Value.int (nI k), Value.int x]).length) Slot.unset).toArray = ls at hl ⊢
  have X : ev_X p s m [Value.ref b, Value.int (nI j), Value.int (nI k), Value.int x].toArray c D ct_cl dA ct_kt (va_A ws s.heap.size) ct_gs "TrustedMachine$Vault" prog_12_method_2_code 4 := ⟨⟨B.exec, B.bytes, hml, hown, fun w hw => hts w (List.mem_cons_of_mem _ hw)⟩, hK, fun q hq => Or.inr hq, hTb⟩
  have hW0 : ev_Wd D ct_cl dA (va_A ws s.heap.size) s th_we ws s.heap [] := ⟨hwr, hPs, hD, va_S.rf⟩
  refine lv_iload_n (k := 3) B.exec B.bytes (by decide +kernel) rfl (lv_at hl 3 rfl) ?_
  refine lv_sipush (n := 255) (v := nI 255) B.exec B.bytes (by decide +kernel) (by decide +kernel) ?_
  refine lv_iand B.exec B.bytes (by decide +kernel) ?_
  have h255 : nI 255 = (255 : Int32) := by decide +kernel
  refine lv_if_eq (off := 22) (tgt := 27) B.exec B.bytes (by decide +kernel) (by decide) (fun hm => ?_) (fun _ => ?_)
  · have hv0 : th_v x = 0 := by
      unfold th_v
      rw [h255, th_b8, ← h255]
      exact hm
    refine lv_aload_n (k := 0) B.exec B.bytes (by decide +kernel) rfl (lv_at hl 0 rfl) ?_
    refine ev_w_getf (o := 0) (ci := 4) (kf := 2) (v := (2, 3, 0)) (idx := 13) X ct_s4.1 ct_s4.2.1 (by decide) (ct_hg 397 _ rfl) (by decide +kernel) hW0 (show th_we[0]? = some (0, 4, 0, [(2, 1, 0), (2, 2, 0), (2, 3, 0), (2, 4, 0), (2, 5, 0), (2, 6, 0), (0, 2147483648, 2147483648), (0, 2147483903, 2147483903), (2, 7, 0), (2, 8, 0), (0, 2147483647, 2147483647), (0, 2147483649, 2147483649), (2, 9, 0), (2, 10, 0), (2, 11, 0), (2, 12, 0), (2, 13, 0), (0, 2147483648, 2147483648), (0, 2147483648, 2147483648), (0, 2147483648, 2147483648)]) from rfl) rfl hb0 (fun y1 hy1 => ?_)
    obtain ⟨d1, hd1, rfl⟩ := hy1.ref rfl
    refine lv_iload_n (k := 1) B.exec B.bytes (by decide +kernel) rfl (lv_at hl 1 rfl) ?_
    refine ev_w_aald (o := 3) (kd := 6) (n := 64) (es := th_es) (v := (2, 19 + j, 0)) (ty := .array .byte) X rfl rfl (by decide +kernel) hW0 (show th_we[3]? = some (1, 6, 64, th_es) from rfl) hj (by decide) (th_es_at j hj) hd1 (fun z1 hz1 => ?_)
    obtain ⟨r1, hr1, rfl⟩ := hz1.ref rfl
    have hr1 : (ws.map Prod.fst)[19 + j]? = some r1 := hr1
    obtain ⟨E1, hE1, hcr1⟩ := hW0.1.at (th_we_at j hj) hr1
    obtain ⟨f, rfl, hf⟩ := hcr1.ints (Or.inl rfl) rfl
    refine lv_iload_n (k := 2) B.exec B.bytes (by decide +kernel) rfl (lv_at hl 2 rfl) ?_
    refine ev_w_bald (kd := 0) (n := 256) (o := 19 + j) X rfl (by decide +kernel) hW0 hE1 hk (by decide) ?_
    rw [th_zero (hf k)]
    refine lv_sipush (n := 255) (v := nI 255) B.exec B.bytes (by decide +kernel) (by decide +kernel) ?_
    refine lv_iand B.exec B.bytes (by decide +kernel) ?_
    refine W.iret B.exec B.bytes B.returns (fun t ht hwm => ⟨⟨_, ws, rfl, ev_vr.it rfl (ev_in_eq ?_), ⟨ev_ext.rf _, fun _ _ _ _ => rfl⟩, ev_leW_r th_we_le0 hwr, by rw [ht]; exact hPs, ?_, hD⟩, va_S.rf.F ht⟩) (fun q hq => by cases hq) (by decide +kernel) B.notSynchronized
    · rw [hv0]
      rfl
    · exact ev_K.moved hwm.alike hK
  · refine lv_aload_n (k := 0) B.exec B.bytes (by decide +kernel) rfl (lv_at hl 0 rfl) ?_
    refine ev_w_getf (o := 0) (ci := 4) (kf := 2) (v := (2, 3, 0)) (idx := 13) X ct_s4.1 ct_s4.2.1 (by decide) (ct_hg 397 _ rfl) (by decide +kernel) hW0 (show th_we[0]? = some (0, 4, 0, [(2, 1, 0), (2, 2, 0), (2, 3, 0), (2, 4, 0), (2, 5, 0), (2, 6, 0), (0, 2147483648, 2147483648), (0, 2147483903, 2147483903), (2, 7, 0), (2, 8, 0), (0, 2147483647, 2147483647), (0, 2147483649, 2147483649), (2, 9, 0), (2, 10, 0), (2, 11, 0), (2, 12, 0), (2, 13, 0), (0, 2147483648, 2147483648), (0, 2147483648, 2147483648), (0, 2147483648, 2147483648)]) from rfl) rfl hb0 (fun y1 hy1 => ?_)
    obtain ⟨d1, hd1, rfl⟩ := hy1.ref rfl
    refine lv_iload_n (k := 1) B.exec B.bytes (by decide +kernel) rfl (lv_at hl 1 rfl) ?_
    refine ev_w_aald (o := 3) (kd := 6) (n := 64) (es := th_es) (v := (2, 19 + j, 0)) (ty := .array .byte) X rfl rfl (by decide +kernel) hW0 (show th_we[3]? = some (1, 6, 64, th_es) from rfl) hj (by decide) (th_es_at j hj) hd1 (fun z1 hz1 => ?_)
    obtain ⟨r1, hr1, rfl⟩ := hz1.ref rfl
    have hr1 : (ws.map Prod.fst)[19 + j]? = some r1 := hr1
    obtain ⟨E1, hE1, hcr1⟩ := hW0.1.at (th_we_at j hj) hr1
    obtain ⟨f, rfl, hf⟩ := hcr1.ints (Or.inl rfl) rfl
    refine lv_iload_n (k := 2) B.exec B.bytes (by decide +kernel) rfl (lv_at hl 2 rfl) ?_
    refine lv_dup2_11 B.exec B.bytes (by decide +kernel) rfl rfl ?_
    refine ev_w_bald (kd := 0) (n := 256) (o := 19 + j) X rfl (by decide +kernel) hW0 hE1 hk (by decide) ?_
    rw [th_zero (hf k)]
    refine lv_iload_n (k := 3) B.exec B.bytes (by decide +kernel) rfl (lv_at hl 3 rfl) ?_
    refine lv_i2b (v := x.toInt8.toInt32) B.exec B.bytes (by decide +kernel) rfl ?_
    refine lv_ixor B.exec B.bytes (by decide +kernel) ?_
    rw [Int32.zero_xor]
    refine lv_i2b (v := x.toInt8.toInt32) B.exec B.bytes (by decide +kernel) (by simp) ?_
    refine ev_w_bast (kd := 0) (n := 256) (o := 19 + j) X rfl (by decide +kernel) hW0 (th_we_at j hj) hE1 hk (by decide) (fun ws1 H1 locs1 em1 ho1 hE2 hW1 => ?_)
    rw [pk_vb] at hE2
    have hW1 : ev_Wd D ct_cl dA (va_A ws s.heap.size) s th_we1 ws1 H1 locs1 := ⟨ev_leW_r (th_we_le j hj) hW1.1, hW1.2⟩
    have hb1 : (ws1.map Prod.fst)[0]? = some b := by rw [em1]; exact hb0
    refine lv_aload_n (k := 0) B.exec B.bytes (by decide +kernel) rfl (lv_at hl 0 rfl) ?_
    refine lv_iload_n (k := 1) B.exec B.bytes (by decide +kernel) rfl (lv_at hl 1 rfl) ?_
    refine ev_w_cX (sm := ct_S149) (kc := 3) (qc := th_q145) (dd := 3) (o := 0) (ci := 4) (S1 := [(0, 2147483648, 2147483711)]) (is := th_is) (ys := [.int (nI j)]) (rs := []) (r := none) (mc := 0) (ms := 0) (n := 1) (idx := 81) X ct_good (ct_SM149 l D dA) rfl (cdm := ct_c36) rfl th_ck145 rfl rfl rfl (ct_hg 135 _ rfl) (ct_hg 136 _ rfl) (X.1.2.2.2.2 _ (ct_hg 761 _ rfl)) (ct_hg 137 _ rfl) (ct_hg 138 _ rfl) (by decide +kernel) (by decide) ⟨Nat.le_of_ble_eq_true rfl, Nat.le_of_ble_eq_true rfl⟩ hW1 ⟨ev_vr.it rfl hi, trivial⟩ hb1 hl.1 (Nat.le_of_ble_eq_true rfl) ⟨Nat.le_of_ble_eq_true rfl, Nat.le_of_ble_eq_true rfl⟩ (by decide +kernel) (fun rv ws2 H2 locs2 hx2 hr2 hW2 _ hn2 => ?_)
    cases rv with
    | some y => exact hr2.elim
    | none =>
    rw [th_af145] at hW2
    show W p l e (ev_rm 4 0 0) s m _ below meth c H2 locs2 0 0 _ (F0 m 27 ls [])
    have hE3 : ws2[19 + j]? = ws1[19 + j]? := hn2 (19 + j) (19 + j) (th_9 j hj).1 (th_9 j hj).2.1 (th_9 j hj).2.2
    rw [hE2] at hE3
    refine lv_aload_n (k := 0) B.exec B.bytes (by decide +kernel) rfl (lv_at hl 0 rfl) ?_
    refine ev_w_getf (o := 0) (ci := 4) (kf := 2) (v := (2, 3, 0)) (idx := 13) X ct_s4.1 ct_s4.2.1 (by decide) (ct_hg 397 _ rfl) (by decide +kernel) hW2 (show th_we1[0]? = some (0, 4, 0, [(2, 1, 0), (2, 2, 0), (2, 3, 0), (2, 4, 0), (2, 5, 0), (2, 6, 0), (0, 2147483648, 2147483648), (0, 2147483903, 2147483903), (2, 7, 0), (2, 8, 0), (0, 2147483647, 2147483647), (0, 2147483649, 2147483649), (2, 9, 0), (2, 10, 0), (2, 11, 0), (2, 12, 0), (2, 13, 0), (0, 2147483648, 2147483648), (0, 2147483648, 2147483648), (0, 2147483648, 2147483648)]) from rfl) rfl (hx2 _ _ hb1) (fun y3 hy3 => ?_)
    obtain ⟨d3, hd3, rfl⟩ := hy3.ref rfl
    refine lv_iload_n (k := 1) B.exec B.bytes (by decide +kernel) rfl (lv_at hl 1 rfl) ?_
    refine ev_w_aald (o := 3) (kd := 6) (n := 64) (es := th_es) (v := (2, 19 + j, 0)) (ty := .array .byte) X rfl rfl (by decide +kernel) hW2 (show th_we1[3]? = some (1, 6, 64, th_es) from rfl) hj (by decide) (th_es_at j hj) hd3 (fun z3 hz3 => ?_)
    obtain ⟨r3, hr3, rfl⟩ := hz3.ref rfl
    have hr3 : (ws2.map Prod.fst)[19 + j]? = some r3 := hr3
    obtain rfl : r1 = r3 := by
      rw [List.getElem?_map, hE3] at hr3
      exact Option.some.inj hr3
    refine lv_iload_n (k := 2) B.exec B.bytes (by decide +kernel) rfl (lv_at hl 2 rfl) ?_
    refine ev_w_bald (kd := 0) (n := 256) (o := 19 + j) X rfl (by decide +kernel) hW2 hE3 hk (by decide) ?_
    rw [pk_us]
    refine lv_sipush (n := 255) (v := nI 255) B.exec B.bytes (by decide +kernel) (by decide +kernel) ?_
    refine lv_iand B.exec B.bytes (by decide +kernel) ?_
    refine W.iret B.exec B.bytes B.returns (fun t ht hwm => ⟨⟨_, ws2, rfl, ev_vr.it rfl (ev_in_eq rfl), ⟨?_, fun q cq hq h9 => ?_⟩, hW2.1, by rw [ht]; exact hW2.2.1, ev_K.moved hwm.alike hK, hW2.2.2.1⟩, hW2.2.2.2.F ht⟩) (fun q hq => hW2.2.2.2.2.2 q hq) (by decide +kernel) B.notSynchronized
    · rw [← em1]
      exact hx2
    · have hq1 : q < 147 := by
        have h8 : q < th_we1.length := (List.getElem?_eq_some_iff.mp hq).1
        have h7 : th_we1.length = 147 := by decide +kernel
        omega
      have hq2 : (th_we1.getD q ev_c0).1 = 9 := by rw [ev_getD hq]; exact h9
      obtain ⟨a1, a2, a3, a4⟩ := th_99 q hq1 hq2
      rw [hn2 q q a1 a2 a3]
      exact ho1 q (fun e9 => a4 (by omega))
