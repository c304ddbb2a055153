/-! The caller's row behind a call over some of its cells -/
def ev_d0 : Nat × va_E := (0, .inr (0, []))
def ev_c0 : ev_C := (3, 0, 0, [])
/-- the cells at the places is -/
def ev_wl (ws : va_W) (is : List Nat) : va_W := is.map (fun k => ws.getD k ev_d0)
theorem ev_wl_at {ws : va_W} {is : List Nat} {j k : Nat} {q : Nat × va_E} (h : is[j]? = some k) (hq : ws[k]? = some q) : (ev_wl ws is)[j]? = some q := by
  unfold ev_wl
  rw [List.getElem?_map, h]
  show some (ws.getD k ev_d0) = _
  rw [ev_getD hq]
theorem ev_wl_of {ws : va_W} {is : List Nat} (hlt : ∀ k ∈ is, k < ws.length) {j : Nat} {q : Nat × va_E} (h : (ev_wl ws is)[j]? = some q) : ∃ k, is[j]? = some k ∧ ws[k]? = some q := by
  unfold ev_wl at h
  rw [List.getElem?_map] at h
  cases hk : is[j]? with
  | none => rw [hk] at h; cases h
  | some k =>
    rw [hk] at h
    have h : ws.getD k ev_d0 = q := Option.some.inj h
    exact ⟨k, rfl, by rw [ev_getD_some (d0 := ev_d0) (hlt k (List.mem_of_getElem? hk)), h]⟩
section EVF
variable {D : va_G} {cl : List vw_C} {dA : Nat → ClassId} {A : Nat → Prop} {ws u : va_W} {is : List Nat} {w wL w1 : List ev_C} {H H1 : Heap}
/-- what is known of a call over the places is -/
def ev_F (D : va_G) (cl : List vw_C) (dA : Nat → ClassId) (A : Nat → Prop) (ws u : va_W) (is : List Nat) (w w1 : List ev_C) (H H1 : Heap) : Prop :=
  (∀ a b k : Nat, is[a]? = some k → is[b]? = some k → a = b) ∧ (∀ k ∈ is, k < ws.length) ∧ ev_wr dA w ws ∧ va_P D cl ws H ∧ va_D A ws ∧ ev_E (ev_wl ws is) w1 u ∧ ev_wr dA w1 u ∧ va_P D cl u H1 ∧ va_D (va_A (ev_wl ws is) H.size) u ∧ (∀ q : Nat, q < H.size → ¬ va_A (ev_wl ws is) H.size q → H1[q]? = H[q]?) ∧ (∀ q, va_A (ev_wl ws is) H.size q → A q)
theorem ev_F_at (F : ev_F D cl dA A ws u is w w1 H H1) {j k : Nat} (hj : is[j]? = some k) : ∃ q x, ws[k]? = some q ∧ u[j]? = some x ∧ x.1 = q.1 := by
  obtain ⟨hd, hlt, -, -, -, hx, -⟩ := F
  have hk := hlt k (List.mem_of_getElem? hj)
  have hq := ev_getD_some (d0 := ev_d0) hk
  have h1 := ev_wl_at hj hq
  have h2 := hx.1 j (ws.getD k ev_d0).1 (by rw [List.getElem?_map, h1]; rfl)
  rw [List.getElem?_map] at h2
  cases hu : u[j]? with
  | none => rw [hu] at h2; cases h2
  | some x => rw [hu] at h2; exact ⟨_, x, hq, rfl, Option.some.inj h2⟩
theorem ev_F_len (F : ev_F D cl dA A ws u is w w1 H H1) : is.length ≤ u.length := by
  rcases Nat.lt_or_ge 0 is.length with h | h
  · have hj : is[is.length - 1]? = some (is[is.length - 1]'(by omega)) := List.getElem?_eq_getElem (by omega)
    obtain ⟨q, x, -, hx, -⟩ := ev_F_at F hj
    have := (List.getElem?_eq_some_iff.mp hx).1
    omega
  · omega
/-- each cell of the new row is one of the callee's, or an old one that the callee had not -/
theorem ev_F_from (F : ev_F D cl dA A ws u is w w1 H H1) {k : Nat} {x : Nat × va_E} (h : (ev_up ev_d0 ws u is)[k]? = some x) : (∃ j, u[j]? = some x ∧ k = ev_rn is ws.length j) ∨ (ws[k]? = some x ∧ ∀ j : Nat, is[j]? ≠ some k) := by
  have hlen := ev_F_len F
  have hk : k < ws.length + (u.length - is.length) := by
    have := (List.getElem?_eq_some_iff.mp h).1
    rwa [ev_up_len] at this
  rw [ev_up_at hk] at h
  have h := Option.some.inj h
  unfold ev_pick at h
  split at h
  · next hlt =>
    split at h
    · next j hj =>
      obtain ⟨-, h2⟩ := ev_ixo_some hj
      rw [Nat.sub_zero] at h2
      obtain ⟨q, y, hq, hy, -⟩ := ev_F_at F h2
      rw [ev_getD hy] at h
      subst h
      refine Or.inl ⟨j, hy, ?_⟩
      unfold ev_rn
      rw [h2]
    · next hn =>
      exact Or.inr ⟨by rw [ev_getD_some (d0 := ev_d0) hlt, h], ev_ixo_none hn⟩
  · next hge =>
    have hj : is.length + (k - ws.length) < u.length := by omega
    refine Or.inl ⟨is.length + (k - ws.length), by rw [ev_getD_some (d0 := ev_d0) hj, h], ?_⟩
    unfold ev_rn
    rw [List.getElem?_eq_none (by omega)]
    show k = ws.length + (is.length + (k - ws.length) - is.length)
    omega
theorem ev_F_rn (F : ev_F D cl dA A ws u is w w1 H H1) {k : Nat} {x : Nat × va_E} (h : u[k]? = some x) : (ev_up ev_d0 ws u is)[ev_rn is ws.length k]? = some x := by
  have hlen := ev_F_len F
  have hku := (List.getElem?_eq_some_iff.mp h).1
  unfold ev_rn
  cases hk : is[k]? with
  | some g =>
    have hg := F.2.1 g (List.mem_of_getElem? hk)
    show (ev_up ev_d0 ws u is)[g]? = _
    rw [ev_up_at (by omega)]
    unfold ev_pick
    rw [if_pos hg, ev_ixo_at (fun a b ha hb => F.1 a b g ha hb) hk, Nat.zero_add]
    show some (u.getD k ev_d0) = _
    rw [ev_getD h]
  | none =>
    have hr : is.length ≤ k := by
      rcases Nat.lt_or_ge k is.length with q | q
      · rw [List.getElem?_eq_getElem q] at hk; cases hk
      · exact q
    show (ev_up ev_d0 ws u is)[ws.length + (k - is.length)]? = _
    rw [ev_up_at (by omega)]
    unfold ev_pick
    rw [if_neg (by omega), show is.length + (ws.length + (k - is.length) - ws.length) = k by omega, ev_getD h]
theorem ev_F_old (F : ev_F D cl dA A ws u is w w1 H H1) : ev_ext (ws.map Prod.fst) ((ev_up ev_d0 ws u is).map Prod.fst) := by
  intro k a h
  rw [List.getElem?_map] at h
  cases hq : ws[k]? with
  | none => rw [hq] at h; cases h
  | some q =>
    rw [hq] at h
    have h : q.1 = a := Option.some.inj h
    have hk := (List.getElem?_eq_some_iff.mp hq).1
    rw [List.getElem?_map, ev_up_at (by omega)]
    unfold ev_pick
    rw [if_pos hk]
    cases hi : ev_ixo is k 0 with
    | none =>
      show some (ws.getD k ev_d0).1 = _
      rw [ev_getD hq, h]
    | some j =>
      obtain ⟨-, h2⟩ := ev_ixo_some hi
      rw [Nat.sub_zero] at h2
      obtain ⟨q', y, hq', hy, e⟩ := ev_F_at F h2
      rw [hq] at hq'
      obtain rfl := Option.some.inj hq'
      show some (u.getD j ev_d0).1 = _
      rw [ev_getD hy, e, h]
theorem ev_F_new (F : ev_F D cl dA A ws u is w w1 H H1) : ∀ k a : Nat, (u.map Prod.fst)[k]? = some a → ((ev_up ev_d0 ws u is).map Prod.fst)[ev_rn is ws.length k]? = some a := by
  intro k a h
  rw [List.getElem?_map] at h
  cases hq : u[k]? with
  | none => rw [hq] at h; cases h
  | some q => rw [hq] at h; rw [List.getElem?_map, ev_F_rn F hq]; exact h
theorem ev_F_apart (F : ev_F D cl dA A ws u is w w1 H H1) {j k : Nat} {x y : Nat × va_E} (hx : u[j]? = some x) (hy : ws[k]? = some y) (hn : ∀ j : Nat, is[j]? ≠ some k) : x.1 ≠ y.1 := by
  intro he
  obtain ⟨f1, f2, f3, f4, f5, f6, f7, f8, f9, f10, f11⟩ := id F
  rcases f9.2 j x hx with ⟨i, E, hi⟩ | hge
  · obtain ⟨g, hg, hwg⟩ := ev_wl_of f2 hi
    have := f5.1 g k _ _ hwg hy he
    subst this
    exact hn i hg
  · have := (f4 k y hy).lt
    omega
theorem ev_F_D (F : ev_F D cl dA A ws u is w w1 H H1) : va_D A (ev_up ev_d0 ws u is) := by
  obtain ⟨f1, f2, f3, f4, f5, f6, f7, f8, f9, f10, f11⟩ := id F
  refine ⟨fun i j p q hp hq he => ?_, fun k q hq => ?_⟩
  · rcases ev_F_from F hp with ⟨a, ha, rfl⟩ | ⟨ha, hna⟩
    · rcases ev_F_from F hq with ⟨b, hb, rfl⟩ | ⟨hb, hnb⟩
      · rw [f9.1 a b p q ha hb he]
      · exact absurd he (ev_F_apart F ha hb hnb)
    · rcases ev_F_from F hq with ⟨b, hb, rfl⟩ | ⟨hb, hnb⟩
      · exact absurd he.symm (ev_F_apart F hb ha hna)
      · exact f5.1 i j p q ha hb he
  · rcases ev_F_from F hq with ⟨a, ha, rfl⟩ | ⟨ha, hna⟩
    · exact f11 _ (f9.2 a q ha)
    · exact f5.2 k q ha
theorem ev_F_P (F : ev_F D cl dA A ws u is w w1 H H1) : va_P D cl (ev_up ev_d0 ws u is) H1 := by
  obtain ⟨f1, f2, f3, f4, f5, f6, f7, f8, f9, f10, f11⟩ := id F
  intro k q hq
  rcases ev_F_from F hq with ⟨a, ha, rfl⟩ | ⟨ha, hna⟩
  · exact f8 a q ha
  · have hlt := (f4 k q ha).lt
    refine (f4 k q ha).kept (f10 q.1 hlt (fun hA => ?_))
    rcases hA with ⟨i, E, hi⟩ | hge
    · obtain ⟨g, hg, hwg⟩ := ev_wl_of f2 hi
      have := f5.1 g k _ _ hwg ha rfl
      subst this
      exact hna i hg
    · omega
/-- of a row of ints the bound is one of an int -/
def ev_wok (w : List ev_C) : Bool := w.all (fun c => !(c.1 == 2) || (match c.2.2.2[0]? with
  | some v => !(v.1 == 2)
  | none => true))
/-- the callee's cells as the caller sees them: those that were not touched as they were -/
def ev_mix (w wL w1 : List ev_C) (is : List Nat) : List ev_C := (List.range w1.length).map (fun j => if (wL.getD j ev_c0).1 = 9 then w.getD (is.getD j 0) ev_c0 else ev_rnC is w.length (w1.getD j ev_c0))
theorem ev_mix_len {w wL w1 : List ev_C} {is : List Nat} : (ev_mix w wL w1 is).length = w1.length := by
  unfold ev_mix
  rw [List.length_map, List.length_range]
theorem ev_mix_at {w wL w1 : List ev_C} {is : List Nat} {j : Nat} (h : j < w1.length) : (ev_mix w wL w1 is).getD j ev_c0 = if (wL.getD j ev_c0).1 = 9 then w.getD (is.getD j 0) ev_c0 else ev_rnC is w.length (w1.getD j ev_c0) := by
  apply ev_getD
  unfold ev_mix
  rw [List.getElem?_map, List.getElem?_range h]
  rfl
/-- the same cells are not touched ahead of the call and behind it -/
def ev_fzz (wL w1 : List ev_C) : Bool := decide (wL.length ≤ w1.length) && (List.range w1.length).all (fun j => ((w1.getD j ev_c0).1 == 9) == ((wL.getD j ev_c0).1 == 9))
theorem ev_fzz_r {wL w1 : List ev_C} (h : ev_fzz wL w1 = true) {j : Nat} (hj : j < w1.length) : (w1.getD j ev_c0).1 = 9 ↔ (wL.getD j ev_c0).1 = 9 := by
  unfold ev_fzz at h
  rw [Bool.and_eq_true] at h
  have h1 := List.all_eq_true.mp h.2 j (List.mem_range.mpr hj)
  have h2 := eq_of_beq h1
  constructor
  · intro q
    rw [q] at h2
    simpa using h2.symm
  · intro q
    rw [q] at h2
    simpa using h2
theorem ev_c9 {wL : List ev_C} {j : Nat} (h : (wL.getD j ev_c0).1 = 9) : j < wL.length := by
  rcases Nat.lt_or_ge j wL.length with q | q
  · exact q
  · rw [List.getD_eq_getElem?_getD, List.getElem?_eq_none q] at h
    exact absurd h (by decide)
/-- a cell that was not touched is the caller's own -/
theorem ev_F_fz (F : ev_F D cl dA A ws u is w w1 H H1) (hz : ev_fzz wL w1 = true) (hlen : is.length = wL.length) {j : Nat} (hj : j < w1.length) (h9 : (wL.getD j ev_c0).1 = 9) : ∃ k q, is[j]? = some k ∧ ws[k]? = some q ∧ u[j]? = some q := by
  obtain ⟨f1, f2, f3, f4, f5, f6, f7, f8, f9, f10, f11⟩ := id F
  have hjl := ev_c9 h9
  have hk : is[j]? = some (is[j]'(by omega)) := List.getElem?_eq_getElem (by omega)
  have hw := ev_getD_some (d0 := ev_d0) (f2 _ (List.mem_of_getElem? hk))
  have h1 := ev_wl_at hk hw
  have h2 := f6.2 j _ (ev_getD_some (d0 := ev_c0) hj) ((ev_fzz_r hz hj).mpr h9)
  exact ⟨_, _, hk, hw, by rw [h2]; exact h1⟩
theorem ev_F_W (F : ev_F D cl dA A ws u is w w1 H H1) (hok : ev_wok w1 = true) (hz : ev_fzz wL w1 = true) (hil : is.length = wL.length) : ev_wr dA (ev_up ev_c0 w (ev_mix w wL w1 is) is) (ev_up ev_d0 ws u is) := by
  obtain ⟨f1, f2, f3, f4, f5, f6, f7, f8, f9, f10, f11⟩ := id F
  have hlen := ev_F_len F
  refine ⟨by rw [ev_up_len, ev_up_len, ev_mix_len, f3.1, f7.1], fun k c hc => ?_⟩
  have hk : k < w.length + ((ev_mix w wL w1 is).length - is.length) := by
    have := (List.getElem?_eq_some_iff.mp hc).1
    rwa [ev_up_len] at this
  rw [ev_up_at hk] at hc
  have hc := Option.some.inj hc
  rw [ev_mix_len, f3.1, f7.1] at hk
  have old := ev_F_old F
  have new := ev_F_new F
  have hcell : ∀ (j : Nat), j < w1.length → ∃ y, u[j]? = some y ∧ ev_cr ((ev_up ev_d0 ws u is).map Prod.fst) dA ((ev_mix w wL w1 is).getD j ev_c0) y.2 := fun j hj => by
    rw [ev_mix_at hj]
    split
    · next h9 =>
      obtain ⟨k, q, hk, hq, hu⟩ := ev_F_fz F hz hil hj h9
      have hkl : k < w.length := by rw [f3.1]; exact f2 k (List.mem_of_getElem? hk)
      obtain ⟨q', hq', hr⟩ := f3.2 k _ (ev_getD_some (d0 := ev_c0) hkl)
      rw [hq] at hq'
      obtain rfl := Option.some.inj hq'
      refine ⟨q, hu, ?_⟩
      rw [ev_getD (d0 := 0) hk]
      exact hr.mono old
    · have h1 : w1[j]? = some (w1.getD j ev_c0) := ev_getD_some hj
      obtain ⟨y, hy, hr⟩ := f7.2 j _ h1
      refine ⟨y, hy, ?_⟩
      rw [f3.1]
      refine ev_rnC_r new (fun h0 v hv => ?_) hr
      have h3 := List.all_eq_true.mp hok _ (List.mem_of_getElem? h1)
      rw [h0, hv] at h3
      simpa using h3
  rw [ev_up_at hk]
  refine ⟨_, rfl, ?_⟩
  unfold ev_pick at hc ⊢
  by_cases hlt : k < ws.length
  · rw [if_pos (by rw [f3.1]; exact hlt)] at hc
    rw [if_pos hlt]
    cases hi : ev_ixo is k 0 with
    | none =>
      rw [hi] at hc
      have hc : w.getD k ev_c0 = c := hc
      obtain ⟨q, hq, hr⟩ := f3.2 k c (by rw [ev_getD_some (d0 := ev_c0) (by rw [f3.1]; exact hlt), hc])
      show ev_cr _ dA c (ws.getD k ev_d0).2
      rw [ev_getD hq]
      exact hr.mono old
    | some j =>
      rw [hi] at hc
      obtain ⟨-, h2⟩ := ev_ixo_some hi
      rw [Nat.sub_zero] at h2
      have hjr := (List.getElem?_eq_some_iff.mp h2).1
      obtain ⟨y, hy, hr⟩ := hcell j (by rw [f7.1]; omega)
      show ev_cr _ dA c (u.getD j ev_d0).2
      rw [ev_getD hy, ← hc]
      exact hr
  · rw [if_neg (by rw [f3.1]; exact hlt), f3.1] at hc
    rw [if_neg hlt]
    obtain ⟨y, hy, hr⟩ := hcell (is.length + (k - ws.length)) (by rw [f7.1]; omega)
    rw [ev_getD hy, ← hc]
    exact hr
theorem ev_F_E {ws0 : va_W} (F : ev_F D cl dA A ws u is w w1 H H1) (hz : ev_fzz wL w1 = true) (hil : is.length = wL.length) (h5 : ev_E ws0 w ws) : ev_E ws0 (ev_up ev_c0 w (ev_mix w wL w1 is) is) (ev_up ev_d0 ws u is) := by
  obtain ⟨f1, f2, f3, f4, f5, f6, f7, f8, f9, f10, f11⟩ := id F
  have hlen := ev_F_len F
  refine ⟨h5.1.tr (ev_F_old F), fun k c hc h9 => ?_⟩
  have hk : k < w.length + ((ev_mix w wL w1 is).length - is.length) := by
    have := (List.getElem?_eq_some_iff.mp hc).1
    rwa [ev_up_len] at this
  rw [ev_up_at hk] at hc
  have hc := Option.some.inj hc
  rw [ev_mix_len, f3.1, f7.1] at hk
  rw [ev_up_at hk]
  unfold ev_pick at hc ⊢
  by_cases hlt : k < ws.length
  · rw [if_pos (by rw [f3.1]; exact hlt)] at hc
    rw [if_pos hlt]
    have hws := ev_getD_some (d0 := ev_d0) hlt
    have hwk := ev_getD_some (d0 := ev_c0) (show k < w.length by rw [f3.1]; exact hlt)
    cases hi : ev_ixo is k 0 with
    | none =>
      rw [hi] at hc
      have hc : w.getD k ev_c0 = c := hc
      rw [← h5.2 k c (by rw [hwk, hc]) h9]
      exact hws.symm
    | some j =>
      rw [hi] at hc
      have hc : (ev_mix w wL w1 is).getD j ev_c0 = c := hc
      obtain ⟨-, h2⟩ := ev_ixo_some hi
      rw [Nat.sub_zero] at h2
      have hjr := (List.getElem?_eq_some_iff.mp h2).1
      have hj1 : j < w1.length := by rw [f7.1]; omega
      rw [ev_mix_at hj1] at hc
      split at hc
      · next hL9 =>
        obtain ⟨k', q, hk', hq, hu⟩ := ev_F_fz F hz hil hj1 hL9
        rw [h2] at hk'
        obtain rfl := Option.some.inj hk'
        rw [ev_getD (d0 := 0) h2] at hc
        show some (u.getD j ev_d0) = _
        rw [ev_getD hu, ← hq]
        exact h5.2 k c (by rw [hwk, hc]) h9
      · next hL9 =>
        have : (w1.getD j ev_c0).1 = 9 := by
          have h8 : (ev_rnC is w.length (w1.getD j ev_c0)).1 = 9 := by rw [hc]; exact h9
          exact h8
        exact absurd ((ev_fzz_r hz hj1).mp this) hL9
  · rw [if_neg (by rw [f3.1]; exact hlt), f3.1] at hc
    have hj1 : is.length + (k - ws.length) < w1.length := by rw [f7.1]; omega
    rw [ev_mix_at hj1] at hc
    split at hc
    · next hL9 =>
      have := ev_c9 hL9
      omega
    · next hL9 =>
      have : (w1.getD (is.length + (k - ws.length)) ev_c0).1 = 9 := by
        have h8 : (ev_rnC is w.length (w1.getD (is.length + (k - ws.length)) ev_c0)).1 = 9 := by rw [hc]; exact h9
        exact h8
      exact absurd ((ev_fzz_r hz hj1).mp this) hL9
end EVF
/-- the callee's view of the caller's cells -/
def ev_lerW (w : List ev_C) (is0 : List Nat) : List Nat → List ev_C → Bool
  | [], [] => true
  | k :: ks, c' :: cs => (match w[k]? with
    | some c => ev_lerC is0 c c'
    | none => false) && ev_lerW w is0 ks cs
  | _, _ => false
theorem ev_lerW_at {w : List ev_C} {is0 : List Nat} : ∀ {is : List Nat} {wL : List ev_C}, ev_lerW w is0 is wL = true → is.length = wL.length ∧ (∀ k ∈ is, k < w.length) ∧ ∀ (j : Nat) (c' : ev_C), wL[j]? = some c' → ∃ k c, is[j]? = some k ∧ w[k]? = some c ∧ ev_lerC is0 c c' = true
  | [], [], _ => ⟨rfl, (fun k h => by cases h), (fun j c' h => by simp at h)⟩
  | [], _ :: _, h => by simp [ev_lerW] at h
  | _ :: _, [], h => by simp [ev_lerW] at h
  | k :: ks, c0 :: cs, h => by
    simp only [ev_lerW, Bool.and_eq_true] at h
    obtain ⟨h1, h2⟩ := h
    obtain ⟨a1, a2, a3⟩ := ev_lerW_at h2
    cases hc : w[k]? with
    | none => rw [hc] at h1; cases h1
    | some c =>
      rw [hc] at h1
      refine ⟨by simp [a1], fun q hq => ?_, fun j c' hj => ?_⟩
      · rcases List.mem_cons.mp hq with rfl | hq
        · exact (List.getElem?_eq_some_iff.mp hc).1
        · exact a2 q hq
      · cases j with
        | zero =>
          rw [List.getElem?_cons_zero] at hj
          obtain rfl := Option.some.inj hj
          exact ⟨k, c, rfl, hc, h1⟩
        | succ j =>
          rw [List.getElem?_cons_succ] at hj
          obtain ⟨g, d, b1, b2, b3⟩ := a3 j c' hj
          exact ⟨g, d, by rw [List.getElem?_cons_succ]; exact b1, b2, b3⟩
section EVH
variable {p : Program} {l : Launch} {e : Env} {R : Room} {s : State} {m : MethodId} {args : Array Value} {below : List Frame} {meth : Method} {c : Code} {Q : State → Prop}
variable {D : va_G} {cl : List vw_C} {dA : Nat → ClassId} {kt : List FieldType} {A : Nat → Prop} {ws0 : va_W} {Gs : List Cond} {own : String} {cc : ByteArray} {nL : Nat} {cd : ev_Cd}
variable {ix nc ns : Nat} {L : List (Nat × (Nat × Nat × Nat))} {S : List (Nat × Nat × Nat)} {w : List ev_C}
variable {H H0 : Heap} {locs : List Loc} {pc cells slots mc ms : Nat} {ls : Array Slot} {rest st0 : List Value} {a : Array Value} {A0 A1 : Nat → Prop} {free : Addr → Prop}
theorem ev_callf {wc : va_W} {r : Option (Nat × Nat × Nat)} {w1 : List ev_C} (hr : va_Run p l e R s m args below meth c H locs cells slots mc ms (F0 m pc ls st0) rest (ev_Q D cl dA kt wc A1 r w1 a) free) (hS : va_S A0 H0 H locs) (hA : ∀ q, q < H.size → A1 q → A0 q) (hf : ∀ q, free q → A0 q)
    (kk : ∀ (rv : Option Value) (u : va_W) (H1 : Heap) (locs1 : List Loc), ev_rr (u.map Prod.fst) r rv → ev_E wc w1 u → ev_wr dA w1 u → va_P D cl u H1 → va_D A1 u → (∀ q : Nat, q < H.size → ¬ A1 q → H1[q]? = H[q]?) → va_S A0 H0 H1 locs1 → W p l e R s m args below meth c H1 locs1 (cells + mc) (slots + ms) Q (F0 m (pc + 3) ls (rv.toList ++ rest))) : W p l e R s m args below meth c H locs cells slots Q (F0 m pc ls st0) := by
  intro T hT X
  obtain ⟨v, st₀, t, T', L, h0, X', hL, e1, e2, ⟨⟨rv, u, hv, b1, b2, b3, b4, b5, b6⟩, hz, hk⟩, st⟩ := hr T hT X
  cases hv
  rw [h0] at hz hk
  obtain ⟨t2, a1, c1⟩ := kk v u T'.heap (locs ++ L) b1 b2 b3 (by rw [e1]; exact b4) b6 (fun q h1 h2 => by rw [e1]; exact hk q h1 h2)
    ⟨Nat.le_trans hS.1 (by rw [e1]; exact hz), fun q g1 g2 => by rw [e1, hk q (Nat.lt_of_lt_of_le g1 hS.1) (fun z => g2 (hA q (Nat.lt_of_lt_of_le g1 hS.1) z))]; exact hS.2.1 q g1 g2, fun q hq => by
      rcases List.mem_append.mp hq with h | h
      · exact hS.2.2 q h
      · exact hf _ (hL q h)⟩ T' rfl X'
  exact ⟨t2, st t2 a1, c1⟩
/-- the callee's cells out of the caller's -/
theorem ev_subw {ws : va_W} {is : List Nat} {wL : List ev_C} (hd : ∀ a b k : Nat, is[a]? = some k → is[b]? = some k → a = b) (hW : ev_lerW w is is wL = true) (h4 : ev_wr dA w ws) (h6 : va_P D cl ws H) (h7 : va_D A ws) : (∀ k ∈ is, k < ws.length) ∧ (∀ k g b : Nat, is[k]? = some g → (ws.map Prod.fst)[g]? = some b → ((ev_wl ws is).map Prod.fst)[k]? = some b) ∧ ev_wr dA wL (ev_wl ws is) ∧ va_P D cl (ev_wl ws is) H ∧ va_D A (ev_wl ws is) := by
  obtain ⟨a1, a2, a3⟩ := ev_lerW_at hW
  have hlt : ∀ k ∈ is, k < ws.length := fun k hk => by rw [← h4.1]; exact a2 k hk
  have hrel : ∀ k g b : Nat, is[k]? = some g → (ws.map Prod.fst)[g]? = some b → ((ev_wl ws is).map Prod.fst)[k]? = some b := fun k g b hk hb => by
    rw [List.getElem?_map] at hb
    cases hq : ws[g]? with
    | none => rw [hq] at hb; cases hb
    | some q => rw [hq] at hb; rw [List.getElem?_map, ev_wl_at hk hq]; exact hb
  refine ⟨hlt, hrel, ⟨by unfold ev_wl; rw [List.length_map, a1], fun j c' hj => ?_⟩, fun j q hq => ?_, fun i j x y hx hy he => ?_, fun j q hq => ?_⟩
  · obtain ⟨k, c, hk, hc, hle⟩ := a3 j c' hj
    obtain ⟨q, hq, hr⟩ := h4.2 k c hc
    exact ⟨q, ev_wl_at hk hq, ev_lerC_r hrel hle hr⟩
  · obtain ⟨k, -, hk⟩ := ev_wl_of hlt hq
    exact h6 k q hk
  · obtain ⟨k, hk, hwk⟩ := ev_wl_of hlt hx
    obtain ⟨g, hg, hwg⟩ := ev_wl_of hlt hy
    have := h7.1 k g x y hwk hwg he
    subst this
    exact hd i j k hk hg
  · obtain ⟨k, -, hk⟩ := ev_wl_of hlt hq
    exact h7.2 k q hk
theorem ev_s_fI (X : ev_X p s m args c D cl dA kt A Gs own cc nL) (hG : ∀ w ∈ Gs, (w.onTables && w.keeps) = true ∨ ∃ ty, w = .arrayClass ty) {y : MethodName} {bytes : ByteArray} {maxL idx n d o z9 mc ms : Nat} {S1 S2 asL : List (Nat × Nat × Nat)} {w1 wL : List ev_C} {is : List Nat} (hM : ev_Met l D cl dA kt Gs y bytes maxL none d asL wL (none, w1, mc, ms)) (hdis : ∀ a b k : Nat, is[a]? = some k → is[b]? = some k → a = b) (hcells : ev_lerW w is is wL = true) (hargs : ev_lerS is ((2, o, z9) :: S1.reverse) asL = true) (hwok : ev_wok w1 = true) (hz : ev_fzz wL w1 = true) (hS1 : S1.length = n) (hcode : Cond.code y bytes maxL none ∈ Gs) (hini : Cond.initialized y.cls ∈ Gs) (hlk : Cond.methodLink own idx y ∈ Gs) (hins : Cond.instanceMethod y ∈ Gs) (hy1 : y.name = "<init>")
    (hy : y.cls ≠ "java/lang/invoke/MethodHandle" ∧ y.cls ≠ "java/lang/invoke/VarHandle" ∧ (parseMethodDescriptor y.desc).map (fun d => d.parameters.length) = some n) (hR : d + 1 ≤ R.frames ∧ 8 + (maxL + 11) + 90 * d ≤ R.locals) (hcs : ev_cs S2 ≤ 8) (hf : nc + mc ≤ R.cells ∧ ns + ms ≤ R.slots) (hd : decode cc (ev_pc cd ix) = .ok (.invokespecial idx, 3)) (hn : ev_pc cd (ix + 1) = ev_pc cd ix + 3)
    (k : ev_G p l e R s m args below meth c Q D cl dA A ws0 nL cd (ix + 1, L, S2, ev_up ev_c0 w (ev_mix w wL w1 is) is, nc + mc, ns + ms)) : ev_G p l e R s m args below meth c Q D cl dA A ws0 nL cd (ix, L, S1 ++ (2, o, z9) :: S2, w, nc, ns) := by
  intro H locs ls vs lv ws h1 h2 h3 h4 h5 h6 h7 h8
  obtain ⟨ys, zs, rfl, hl, g1, g2⟩ := ev_sr.split n h3 (by simp; omega)
  rw [List.take_left' hS1] at g1
  rw [List.drop_left' hS1] at g2
  have g2q := g2.cons
  clear g2
  obtain ⟨x, rs, rfl, hx, g2⟩ := g2q
  obtain ⟨b, hb, rfl⟩ := hx.ref rfl
  obtain ⟨s1, s2, s3, s4, s5⟩ := ev_subw hdis hcells h4 h6 h7
  have hfr := ev_free s5 h8 X.2.2.1
  have hav : ev_sr ((ev_wl ws is).map Prod.fst) asL (.ref b :: ys.reverse) := ev_lerS_r s2 hargs ⟨hx, g1.rev⟩
  refine ev_callf (va_runI (As := ys.reverse) (rest := rs) X.1 (hM (.ref b :: ys.reverse) (ev_wl ws is) H.size hav s3) (cwI n X.1.2.2.2.2 (ev_goodIn hG hcode) rfl rfl rfl (X.1.2.2.2.2 _ hini) (X.1.2.2.2.2 _ hlk) (X.1.2.2.2.2 _ hins) hy1 hy hR) ⟨ev_P_blind, fun U hU hW => ⟨rfl, by rw [hU], by rw [hU]; exact s4, ev_K.moved hW.alike X.2.1, s5.weaken (fun _ _ _ _ => trivial), by rw [hU]; exact ev_tbc X h8 hW.alike hfr⟩⟩ rfl (by rw [List.length_reverse]; exact hl) h1.1 (by rw [List.reverse_reverse]) (lv_room (by rw [g2.cs]; exact hcs)) hd hf) h8 (fun q _ h => hfr q h) hfr (fun rv u H1 locs1 b1 b2 b3 b4 b6 b7 b8 => ?_)
  have F : ev_F D cl dA A ws u is w w1 H H1 := ⟨hdis, s1, h4, h6, h7, b2, b3, b4, b6, b7, hfr⟩
  have old := ev_F_old F
  cases rv with
  | some x => exact b1.elim
  | none => exact ev_go k hn h1 (h2.mono old) (g2.mono old) (ev_F_W F hwok hz (ev_lerW_at hcells).1) (ev_F_E F hz (ev_lerW_at hcells).1 h5) (ev_F_P F) (ev_F_D F) b8
end EVH
