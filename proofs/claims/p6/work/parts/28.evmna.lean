/-! Arrays of two dimensions in the small machine -/
theorem ev_wr.pushes {dA : Nat → ClassId} {w cs : List ev_C} {ws qs : va_W} (h : ev_wr dA w ws) (hl : cs.length = qs.length) (hc : ∀ (k : Nat) (c : ev_C), cs[k]? = some c → ∃ q : Nat × va_E, qs[k]? = some q ∧ ev_cr (ws.map Prod.fst ++ qs.map Prod.fst) dA c q.2) : ev_wr dA (w ++ cs) (ws ++ qs) := by
  refine ⟨by rw [List.length_append, List.length_append, h.1, hl], fun j c' hj => ?_⟩
  rw [List.map_append]
  by_cases hlt : j < w.length
  · rw [List.getElem?_append_left hlt] at hj
    obtain ⟨q, h1, h2⟩ := h.2 j c' hj
    exact ⟨q, by rw [List.getElem?_append_left (by rw [← h.1]; exact hlt)]; exact h1, h2.mono (ev_ext.app _ _)⟩
  · rw [List.getElem?_append_right (by omega)] at hj
    obtain ⟨q, h1, h2⟩ := hc _ c' hj
    exact ⟨q, by rw [List.getElem?_append_right (by rw [← h.1]; omega), ← h.1]; exact h1, h2⟩
theorem ev_rows {l : List Nat} {f : Nat → va_E} {E : va_E} : va_pl l (vr_up f l E) = l.map (fun a => (a, E)) := by
  unfold va_pl
  apply List.map_congr_left
  intro a ha
  rw [vr_up_in ha]
section EV6
variable {p : Program} {l : Launch} {e : Env} {R : Room} {s : State} {m : MethodId} {args : Array Value} {below : List Frame} {meth : Method} {c : Code} {Q : State → Prop}
variable {D : va_G} {cl : List vw_C} {dA : Nat → ClassId} {kt : List FieldType} {A : Nat → Prop} {ws0 : va_W} {Gs : List Cond} {own : String} {cc : ByteArray} {nL : Nat} {cd : ev_Cd}
variable {ix nc ns : Nat} {L : List (Nat × (Nat × Nat × Nat))} {S : List (Nat × Nat × Nat)} {w : List ev_C}
theorem ev_s_mna (X : ev_X p s m args c D cl dA kt A Gs own cc nL) {idx kO kI n k : Nat} {ty : FieldType} {z : vp_A} {cI : ev_C} (hO : kt[kO]? = some (.array ty)) (hI : kt[kI]? = some ty) (hprim : ∀ C, ty ≠ .object C) (hstr : (FieldType.array ty).toString = "[" ++ ty.toString) (hcl : Cond.classLink own idx ("[" ++ (FieldType.array ty).toString) ∈ Gs) (harr : Cond.arrayClass ty ∈ Gs) (hn0 : n < 2147483648) (hk0 : k < 2147483648)
    (hb1 : n * 4 ≤ 536870912) (hb2 : k * componentBytes ty ≤ 536870912) (hb3 : k ≤ 536870912) (hdf : fits ty (defaultValue ty) = true) (hdd : (defaultValue ty).isDefault = true) (hz : ∀ c : ClassId, Jvm.Free.Multi.innerC c k (defaultValue ty) = vp_cell c z) (hcI : ∀ ad, ev_cr ad dA cI (.inl (dA kI, z))) (hcI9 : cI.1 ≠ 9) (hd : decode cc (ev_pc cd ix) = .ok (.multianewarray idx 2, 4)) (hn : ev_pc cd (ix + 1) = ev_pc cd ix + 4) (hR : nc + (1 + n) ≤ R.cells) (hR2 : ns + (n + n * k) ≤ R.slots)
    (kk : ev_G p l e R s m args below meth c Q D cl dA A ws0 nL cd (ix + 1, L, (2, w.length, 0) :: S, w ++ ((1, kO, n, (List.range n).map (fun i => (2, w.length + 1 + i, 0))) :: List.replicate n cI), nc + (1 + n), ns + (n + n * k))) : ev_G p l e R s m args below meth c Q D cl dA A ws0 nL cd (ix, L, (0, k + 2147483648, k + 2147483648) :: (0, n + 2147483648, n + 2147483648) :: S, w, nc, ns) := by
  intro H locs ls vs lv ws h1 h2 h3 h4 h5 h6 h7 h8
  have h3q := h3.cons
  clear h3
  obtain ⟨y, ys, rfl, hy, h3⟩ := h3q
  obtain ⟨i, rfl, hi⟩ := hy.int rfl
  obtain rfl := ev_in_nI hi hk0
  have h3q := h3.cons
  clear h3
  obtain ⟨y2, zs, rfl, hy2, h3⟩ := h3q
  obtain ⟨i2, rfl, hi2⟩ := hy2.int rfl
  obtain rfl := ev_in_nI hi2 hn0
  have hra := (X.2.1.1.2 kI (dA kI, ty) (ev_tys_at hI)).2
  have hcy : s.vm.findClass (FieldType.array ty).toString = some (dA kI) := by
    rw [hstr]
    cases ty with
    | object C => exact absurd rfl (hprim C)
    | _ => exact hra
  refine va_mna (X := ws) (L := []) (f := fun _ => .inl (dA kI, z)) (N' := n) (K' := k) (z := z) (cy := dA kI) X.1.1 X.1.2.1 X.1.2.2.2.1 (X.1.2.2.2.2 _ hcl) (X.2.1.2.2 kO ty hO) (X.1.2.2.2.2 _ harr) hcy X.2.1.1 (by rw [show va_pl [] (fun _ => (.inl (dA kI, z) : va_E)) = [] from rfl, List.append_nil]; exact h6) (by rw [show va_pl [] (fun _ => (.inl (dA kI, z) : va_E)) = [] from rfl, List.append_nil]; exact h7) h8 X.2.2.1 (nI_pos hn0) (nI_pos hk0) (nI_clamp hn0) (nI_clamp hk0) hb1 hb2 hb3 hdf hdd hR hR2 hz hd (fun q r cA H1 g1 g2 gK g6 g7 g8 => ?_)
  have hA : cA = dA kO := ev_RA_inj (gK.2 (ev_tys dA kt).length (cA, .array ty) (by simp)).2 (X.2.1.1.2 kO (dA kO, .array ty) (ev_tys_at hO)).2
  subst hA
  rw [List.nil_append, ev_rows, List.append_assoc] at g6 g7
  generalize hqs : ([(q, .inl (dA kO, n, .inr (.inr (.inr (.inr (fun i => if i < n then some (r i) else none))))))] ++ ((List.range n).map r).map (fun a => ((a, .inl (dA kI, z)) : Nat × va_E)) : va_W) = qs at g6 g7
  have hfst : qs.map Prod.fst = q :: (List.range n).map r := by
    rw [← hqs]
    simp [Function.comp_def]
  have em : (ws ++ qs).map Prod.fst = ws.map Prod.fst ++ (q :: (List.range n).map r) := by rw [List.map_append, hfst]
  have hx : ev_ext (ws.map Prod.fst) ((ws ++ qs).map Prod.fst) := by rw [em]; exact ev_ext.app _ _
  have hlen : (ws.map Prod.fst).length = w.length := by rw [List.length_map, h4.1]
  have hat : ∀ i, i < n → ((ws ++ qs).map Prod.fst)[w.length + 1 + i]? = some (r i) := fun i hi => by
    rw [em, List.getElem?_append_right (by omega), hlen, show w.length + 1 + i - w.length = i + 1 by omega, List.getElem?_cons_succ, List.getElem?_map, List.getElem?_range hi]
    rfl
  have hW := ev_go (nc := nc + (1 + n)) (ns := ns + (n + n * k)) kk hn (vs := .ref q :: zs) (H := H1) (locs := locs) h1 (h2.mono hx) ⟨ev_vr.rf (by rw [em, List.getElem?_append_right (by omega), hlen, Nat.sub_self]; rfl), h3.mono hx⟩ (h4.pushes (qs := qs) (by rw [← hqs]; simp) (fun j c' hj => ?_)) (h5.pushes h4.1 (fun c hc => by rcases List.mem_cons.mp hc with rfl | hc; exact (by simp); rw [List.eq_of_mem_replicate hc]; exact hcI9)) g6 g7 g8
  · rw [show nc + 1 + n = nc + (1 + n) by omega, show ns + n + n * k = ns + (n + n * k) by omega]
    exact hW
  · cases j with
    | zero =>
      rw [List.getElem?_cons_zero] at hj
      obtain rfl := Option.some.inj hj
      refine ⟨_, by rw [← hqs]; rfl, Or.inr (Or.inl ⟨rfl, _, rfl, fun a v hv => ?_⟩)⟩
      have hv : ((List.range n).map (fun i => ((2, w.length + 1 + i, 0) : ev_V)))[a]? = some v := hv
      rw [List.getElem?_map] at hv
      by_cases ha : a < n
      · rw [List.getElem?_range ha] at hv
        obtain rfl := Option.some.inj hv
        show ev_vr _ _ (va_rf (if a < n then some (r a) else none))
        rw [if_pos ha]
        refine ev_vr.rf ?_
        rw [← List.map_append]
        exact hat a ha
      · rw [List.getElem?_eq_none (by rw [List.length_range]; omega)] at hv
        cases hv
    | succ j =>
      rw [List.getElem?_cons_succ] at hj
      have hc' := List.eq_of_mem_replicate (List.mem_of_getElem? hj)
      have hjn : j < n := by
        have := (List.getElem?_eq_some_iff.mp hj).1
        rwa [List.length_replicate] at this
      subst hc'
      refine ⟨(r j, .inl (dA kI, z)), ?_, hcI _⟩
      rw [← hqs]
      show (((List.range n).map r).map (fun a => ((a, .inl (dA kI, z)) : Nat × va_E)))[j]? = _
      rw [List.getElem?_map, List.getElem?_map, List.getElem?_range hjn]
      rfl
end EV6
