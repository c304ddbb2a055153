/-! A world of the small machine, as the second machine sees it: cells by kinds -/
def sw_i (v : ev_V) (lo hi : Int) : Bool := decide (v.1 = 0) && (decide (lo ≤ (v.2.1 : Int) - 2147483648) && decide ((v.2.2 : Int) - 2147483648 ≤ hi))
def sw_f (kd : List (Nat × Nat)) (t : sx_T) (c z : Nat) (v : ev_V) : Bool :=
  if t.1 = 0 then sw_i v t.2.2.1 t.2.2.2
  else if t.1 = 1 then decide (v.1 = 1)
  else if t.1 = 2 then decide (v.1 = 2) && (match kd[v.2.1]? with
    | some q => decide (q.1 = t.2.1) && (decide (t.2.2.1 ≤ (q.2 : Int)) && decide ((q.2 : Int) ≤ t.2.2.2))
    | none => false)
  else if t.1 = 3 then decide (v.1 = 2) && (match kd[v.2.1]? with
    | some q => decide (q.1 = t.2.1) && decide ((q.2 : Int) = t.2.2.1 + t.2.2.2 * (c : Int) + (z : Int))
    | none => false)
  else if t.1 = 4 then sw_i v (t.2.2.1 + t.2.2.2 * (c : Int)) (t.2.2.1 + t.2.2.2 * (c : Int))
  else false
/-- the number that stands for a value -/
def sw_v (kd : List (Nat × Nat)) (v : ev_V) (x : Value) : Int := if v.1 = 2 then (match kd[v.2.1]? with
    | some q => (q.2 : Int)
    | none => 0) else (match x with
    | .int i => i.toInt
    | _ => 0)
theorem sw_i_ok {v : ev_V} {lo hi : Int} (h : sw_i v lo hi = true) {ad : List Nat} {x : Value} (hx : ev_vr ad v x) : v.1 = 0 ∧ ∃ i : Int32, x = .int i ∧ lo ≤ i.toInt ∧ i.toInt ≤ hi := by
  unfold sw_i at h
  simp only [Bool.and_eq_true, decide_eq_true_eq] at h
  obtain ⟨h0, h1, h2⟩ := h
  rcases hx with ⟨-, i, e, b1, b2⟩ | ⟨e, -⟩ | ⟨e, -⟩ | ⟨e, -⟩
  · have := ev_sx_eq i
    exact ⟨h0, i, e, by omega, by omega⟩
  · omega
  · omega
  · omega
theorem sw_rf {kd : List (Nat × Nat)} {ad ad' : List Nat} (he : ev_ext ad ad') {v : ev_V} {x : Value} (h2 : v.1 = 2) (hx : ev_vr ad v x) {q : Nat × Nat} (hq : kd[v.2.1]? = some q) : sx_rf kd ad' q.1 (sw_v kd v x) x := by
  rcases hx with ⟨e, -⟩ | ⟨e, -⟩ | ⟨-, a, e1, e2⟩ | ⟨e, -⟩
  · omega
  · omega
  · refine ⟨v.2.1, q.2, a, hq, ?_, he _ _ e1, e2⟩
    unfold sw_v
    rw [if_pos h2, hq]
  · omega
theorem sw_f_ok {kd : List (Nat × Nat)} {ad ad' : List Nat} (he : ev_ext ad ad') {t : sx_T} {c z : Nat} {v : ev_V} (h : sw_f kd t c z v = true) {x : Value} (hx : ev_vr ad v x) : sx_tr kd ad' t c z (sw_v kd v x) x := by
  unfold sw_f at h
  by_cases h0 : t.1 = 0
  · rw [if_pos h0] at h
    obtain ⟨e0, i, rfl, b1, b2⟩ := sw_i_ok h hx
    have e : sw_v kd v (.int i) = i.toInt := by
      unfold sw_v
      rw [if_neg (by omega)]
    rw [e]
    exact Or.inl ⟨h0, i, rfl, rfl, b1, b2⟩
  · rw [if_neg h0] at h
    by_cases h1 : t.1 = 1
    · rw [if_pos h1] at h
      have h : v.1 = 1 := of_decide_eq_true h
      rcases hx with ⟨e, -⟩ | ⟨-, j, e⟩ | ⟨e, -⟩ | ⟨e, -⟩
      · omega
      · exact Or.inr (Or.inl ⟨h1, j, e⟩)
      · omega
      · omega
    · rw [if_neg h1] at h
      by_cases h2 : t.1 = 2
      · rw [if_pos h2, Bool.and_eq_true] at h
        obtain ⟨ha, hb⟩ := h
        have ha : v.1 = 2 := of_decide_eq_true ha
        split at hb
        · next q hq =>
          simp only [Bool.and_eq_true, decide_eq_true_eq] at hb
          have hr := sw_rf he ha hx hq
          rw [hb.1] at hr
          have e : sw_v kd v x = (q.2 : Int) := by
            unfold sw_v
            rw [if_pos ha, hq]
          refine Or.inr (Or.inr (Or.inl ⟨h2, hr, ?_, ?_⟩))
          · rw [e]; exact hb.2.1
          · rw [e]; exact hb.2.2
        · cases hb
      · rw [if_neg h2] at h
        by_cases h3 : t.1 = 3
        · rw [if_pos h3, Bool.and_eq_true] at h
          obtain ⟨ha, hb⟩ := h
          have ha : v.1 = 2 := of_decide_eq_true ha
          split at hb
          · next q hq =>
            simp only [Bool.and_eq_true, decide_eq_true_eq] at hb
            have hr := sw_rf he ha hx hq
            rw [hb.1] at hr
            have e : sw_v kd v x = (q.2 : Int) := by
              unfold sw_v
              rw [if_pos ha, hq]
            refine Or.inr (Or.inr (Or.inr (Or.inl ⟨h3, hr, ?_⟩)))
            rw [e]
            exact hb.2
          · cases hb
        · rw [if_neg h3] at h
          by_cases h4 : t.1 = 4
          · rw [if_pos h4] at h
            obtain ⟨e0, i, rfl, b1, b2⟩ := sw_i_ok h hx
            have e : sw_v kd v (.int i) = i.toInt := by
              unfold sw_v
              rw [if_neg (by omega)]
            rw [e]
            exact Or.inr (Or.inr (Or.inr (Or.inr ⟨h4, i, rfl, rfl, by omega⟩)))
          · rw [if_neg h4] at h
            cases h
def sw_a2 (kd : List (Nat × Nat)) (c : Nat) : List sx_T → List ev_V → Bool
  | [], [] => true
  | t :: ts, v :: vs => sw_f kd t c 0 v && sw_a2 kd c ts vs
  | _, _ => false
def sw_ix (kd : List (Nat × Nat)) (t : sx_T) (c : Nat) : Nat → List ev_V → Bool
  | _, [] => true
  | z, v :: vs => sw_f kd t c z v && sw_ix kd t c (z + 1) vs
theorem sw_a2_ok {kd : List (Nat × Nat)} {c : Nat} : ∀ {ts : List sx_T} {vs : List ev_V}, sw_a2 kd c ts vs = true → ts.length = vs.length ∧ ∀ (j : Nat) (t : sx_T), ts[j]? = some t → ∃ v, vs[j]? = some v ∧ sw_f kd t c 0 v = true
  | [], [], _ => ⟨rfl, fun j t h => by simp at h⟩
  | t :: ts, v :: vs, h => by
    unfold sw_a2 at h
    rw [Bool.and_eq_true] at h
    obtain ⟨h1, h2⟩ := sw_a2_ok h.2
    refine ⟨by simp [h1], fun j t' hj => ?_⟩
    cases j with
    | zero =>
      obtain rfl : t = t' := Option.some.inj hj
      exact ⟨v, rfl, h.1⟩
    | succ j => exact h2 j t' hj
  | [], _ :: _, h => by cases h
  | _ :: _, [], h => by cases h
theorem sw_ix_ok {kd : List (Nat × Nat)} {t : sx_T} {c : Nat} : ∀ {vs : List ev_V} {z : Nat}, sw_ix kd t c z vs = true → ∀ (j : Nat) (v : ev_V), vs[j]? = some v → sw_f kd t c (z + j) v = true
  | [], z, _, j, v, h => by simp at h
  | u :: vs, z, h, j, v, hj => by
    unfold sw_ix at h
    rw [Bool.and_eq_true] at h
    cases j with
    | zero =>
      obtain rfl : u = v := Option.some.inj hj
      exact h.1
    | succ j =>
      have := sw_ix_ok h.2 j v hj
      rw [show z + 1 + j = z + (j + 1) by omega] at this
      exact this
def sw_c (kd : List (Nat × Nat)) (K : sx_K) (c : Nat) (w : ev_C) : Bool :=
  if K.1 = 0 then decide (w.1 = 0 ∧ w.2.1 = K.2.1) && sw_a2 kd c K.2.2.2 w.2.2.2
  else if K.1 = 1 then decide (w.1 = 1 ∧ w.2.1 = K.2.1 ∧ w.2.2.1 = K.2.2.1 ∧ w.2.2.2.length = K.2.2.1) && (match K.2.2.2 with
    | [t] => sw_ix kd t c 0 w.2.2.2
    | _ => false)
  else if K.1 = 2 then decide (w.1 = 2 ∧ w.2.1 = K.2.1 ∧ w.2.2.1 = K.2.2.1) && (match K.2.2.2, w.2.2.2 with
    | [t], [v] => decide (t.2.2.1 ≤ (v.2.1 : Int) - 2147483648) && decide ((v.2.2 : Int) - 2147483648 ≤ t.2.2.2)
    | _, _ => false)
  else if K.1 = 3 then decide (w.1 = 3 ∧ w.2.1 = K.2.1 ∧ w.2.2.1 = K.2.2.1)
  else decide (K.1 = 7)
/-- what is surely zero of a cell -/
def sw_z (w : ev_C) (f : Int) : Bool := (decide (w.1 = 0 ∧ 0 ≤ f) && (match w.2.2.2[f.toNat]? with
  | some v => decide (v = (0, 2147483648, 2147483648))
  | none => false)) || (decide (w.1 = 2) && (match w.2.2.2[0]? with
  | some v => decide (v = (0, 2147483648, 2147483648))
  | none => false))
theorem sw_in0 {i : Int32} (h : ev_in (0, 2147483648, 2147483648) i) : i.toInt = 0 := by
  have := ev_sx_eq i
  have h1 : 2147483648 ≤ ev_sx i := h.1
  have h2 : ev_sx i ≤ 2147483648 := h.2
  omega
theorem sw_cell {kd : List (Nat × Nat)} {ad ad' : List Nat} {dA : Nat → ClassId} (he : ev_ext ad ad') {K : sx_K} {c : Nat} {w : ev_C} {E : va_E} (hc : sw_c kd K c w = true) (hE : ev_cr ad dA w E) : ∃ h : Int → Int, (K.1 = 7 ∨ sx_cr kd ad' dA K c h E) ∧ ∀ f : Int, sw_z w f = true → h f = 0 := by
  unfold sw_c at hc
  by_cases k0 : K.1 = 0
  · rw [if_pos k0, Bool.and_eq_true, decide_eq_true_eq] at hc
    obtain ⟨⟨c1, c2⟩, c3⟩ := hc
    rcases hE with ⟨-, fs, e, hs⟩ | ⟨e, -⟩ | ⟨e, -⟩ | ⟨e, -⟩ | ⟨e, -⟩
    · obtain ⟨l1, l2⟩ := sw_a2_ok c3
      refine ⟨fun f => if f < 0 then 0 else (match w.2.2.2[f.toNat]?, fs[f.toNat]? with
        | some v, some x => sw_v kd v x
        | _, _ => 0), Or.inr (Or.inl ⟨k0, fs, by rw [e, c2], by rw [← hs.len, l1], fun j t hj => ?_⟩), fun f hf => ?_⟩
      · obtain ⟨v, hv, hf⟩ := l2 j t hj
        obtain ⟨x, hx, hr⟩ := hs.at hv
        refine ⟨x, hx, ?_⟩
        have e9 : ((j : Int)).toNat = j := by omega
        show sx_tr kd ad' t c 0 (if (j : Int) < 0 then 0 else (match w.2.2.2[((j : Int)).toNat]?, fs[((j : Int)).toNat]? with
          | some v, some x => sw_v kd v x
          | _, _ => 0)) x
        rw [if_neg (by omega), e9, hv, hx]
        exact sw_f_ok he hf hr
      · unfold sw_z at hf
        rw [Bool.or_eq_true, Bool.and_eq_true, Bool.and_eq_true] at hf
        rcases hf with ⟨g1, g2⟩ | ⟨g1, -⟩
        · have g1 := of_decide_eq_true g1
          split at g2
          · next v hv =>
            have g2 := of_decide_eq_true g2
            obtain ⟨x, hx, hr⟩ := hs.at hv
            show (if f < 0 then 0 else (match w.2.2.2[f.toNat]?, fs[f.toNat]? with
              | some v, some x => sw_v kd v x
              | _, _ => 0)) = 0
            rw [if_neg (by omega), hv, hx]
            show sw_v kd v x = 0
            subst g2
            rcases hr with ⟨-, i, e1, e2⟩ | ⟨e1, -⟩ | ⟨e1, -⟩ | ⟨e1, -⟩
            · subst e1
              exact sw_in0 e2
            · cases e1
            · cases e1
            · cases e1
          · cases g2
        · have g1 := of_decide_eq_true g1
          omega
    · omega
    · omega
    · omega
    · omega
  · rw [if_neg k0] at hc
    by_cases k1 : K.1 = 1
    · rw [if_pos k1, Bool.and_eq_true, decide_eq_true_eq] at hc
      obtain ⟨⟨c1, c2, c3, c4⟩, c5⟩ := hc
      rcases hE with ⟨e, -⟩ | ⟨-, g, e, hs⟩ | ⟨e, -⟩ | ⟨e, -⟩ | ⟨e, -⟩
      · omega
      · split at c5
        · next t ht =>
          refine ⟨fun f => (match w.2.2.2[f.toNat]? with
            | some v => sw_v kd v (va_rf (g f.toNat))
            | _ => 0), Or.inr (Or.inr (Or.inl ⟨k1, g, by rw [e, c2, c3], fun t' ht' j hj => ?_⟩)), fun f hf => ?_⟩
          · rw [ht] at ht'
            obtain rfl : t = t' := Option.some.inj ht'
            have hl : j < w.2.2.2.length := by omega
            have hv : w.2.2.2[j]? = some w.2.2.2[j] := List.getElem?_eq_getElem hl
            have e9 : ((j : Int)).toNat = j := by omega
            show sx_tr kd ad' t c j (match w.2.2.2[((j : Int)).toNat]? with
              | some v => sw_v kd v (va_rf (g ((j : Int)).toNat))
              | _ => 0) (va_rf (g j))
            rw [e9, hv]
            have := sw_ix_ok c5 j _ hv
            rw [Nat.zero_add] at this
            exact sw_f_ok he this (hs j _ hv)
          · unfold sw_z at hf
            rw [Bool.or_eq_true, Bool.and_eq_true, Bool.and_eq_true] at hf
            rcases hf with ⟨g1, -⟩ | ⟨g1, -⟩
            · have g1 := of_decide_eq_true g1
              omega
            · have g1 := of_decide_eq_true g1
              omega
        · cases c5
      · omega
      · omega
      · omega
    · rw [if_neg k1] at hc
      by_cases k2 : K.1 = 2
      · rw [if_pos k2, Bool.and_eq_true, decide_eq_true_eq] at hc
        obtain ⟨⟨c1, c2, c3⟩, c5⟩ := hc
        rcases hE with ⟨e, -⟩ | ⟨e, -⟩ | ⟨-, g, e, hs⟩ | ⟨e, -⟩ | ⟨e, -⟩
        · omega
        · omega
        · split at c5
          · next t v ht hv =>
            rw [Bool.and_eq_true, decide_eq_true_eq, decide_eq_true_eq] at c5
            have hs := hs v (by rw [hv]; rfl)
            refine ⟨fun f => if f < 0 then 0 else (g f.toNat).toInt, Or.inr (Or.inr (Or.inr (Or.inl ⟨k2, g, by rw [e, c2, c3], fun t' ht' j => ?_⟩))), fun f hf => ?_⟩
            · rw [ht] at ht'
              obtain rfl : t = t' := Option.some.inj ht'
              have e9 : ((j : Int)).toNat = j := by omega
              have h1 := hs j
              have h2 := ev_sx_eq (g j)
              have h3 : v.2.1 ≤ ev_sx (g j) := h1.1
              have h4 : ev_sx (g j) ≤ v.2.2 := h1.2
              refine ⟨?_, by omega, by omega⟩
              show (g j).toInt = (if (j : Int) < 0 then 0 else (g ((j : Int)).toNat).toInt)
              rw [if_neg (by omega), e9]
            · unfold sw_z at hf
              rw [Bool.or_eq_true, Bool.and_eq_true, Bool.and_eq_true] at hf
              rcases hf with ⟨g1, -⟩ | ⟨-, g2⟩
              · have g1 := of_decide_eq_true g1
                omega
              · rw [hv] at g2
                have g2 : decide (v = (0, 2147483648, 2147483648)) = true := g2
                have g2 := of_decide_eq_true g2
                subst g2
                show (if f < 0 then 0 else (g f.toNat).toInt) = 0
                split
                · rfl
                · exact sw_in0 (hs f.toNat)
          · cases c5
        · omega
        · omega
      · rw [if_neg k2] at hc
        by_cases k3 : K.1 = 3
        · rw [if_pos k3, decide_eq_true_eq] at hc
          obtain ⟨c1, c2, c3⟩ := hc
          rcases hE with ⟨e, -⟩ | ⟨e, -⟩ | ⟨e, -⟩ | ⟨-, g, e⟩ | ⟨e, -⟩
          · omega
          · omega
          · omega
          · refine ⟨fun _ => 0, Or.inr (Or.inr (Or.inr (Or.inr ⟨k3, g, by rw [e, c2, c3]⟩))), fun f _ => rfl⟩
          · omega
        · rw [if_neg k3] at hc
          exact ⟨fun _ => 0, Or.inl (of_decide_eq_true hc), fun f _ => rfl⟩
/-- all places, told with their cells; places without one are tables -/
def sw_go (T : List sx_K) (kd : List (Nat × Nat)) : List (Nat × Nat) → List ev_C → Bool
  | [], _ => true
  | q :: qs, w :: ws => (match T[q.1]? with
    | some K => sw_c kd K q.2 w
    | none => false) && sw_go T kd qs ws
  | q :: qs, [] => (match T[q.1]? with
    | some K => decide (K.1 = 7)
    | none => false) && sw_go T kd qs []
theorem sw_go_ok {T : List sx_K} {kd : List (Nat × Nat)} : ∀ {qs : List (Nat × Nat)} {ws : List ev_C}, sw_go T kd qs ws = true → ∀ (j : Nat) (q : Nat × Nat), qs[j]? = some q → ∃ K, T[q.1]? = some K ∧ ((∃ w, ws[j]? = some w ∧ sw_c kd K q.2 w = true) ∨ (ws[j]? = none ∧ K.1 = 7))
  | [], ws, _, j, q, h => by simp at h
  | p :: qs, w :: ws, h, j, q, hj => by
    unfold sw_go at h
    rw [Bool.and_eq_true] at h
    obtain ⟨h1, h2⟩ := h
    cases j with
    | zero =>
      obtain rfl : p = q := Option.some.inj hj
      split at h1
      · next K hK => exact ⟨K, hK, Or.inl ⟨w, rfl, h1⟩⟩
      · cases h1
    | succ j => exact sw_go_ok h2 j q hj
  | p :: qs, [], h, j, q, hj => by
    unfold sw_go at h
    rw [Bool.and_eq_true] at h
    obtain ⟨h1, h2⟩ := h
    cases j with
    | zero =>
      obtain rfl : p = q := Option.some.inj hj
      split at h1
      · next K hK => exact ⟨K, hK, Or.inr ⟨rfl, of_decide_eq_true h1⟩⟩
      · cases h1
    | succ j => exact sw_go_ok h2 j q hj
/-- a field of a kind is zero in all its cells -/
def sw_zk (k : Nat) (f : Int) : List (Nat × Nat) → List ev_C → Bool
  | [], _ => true
  | q :: qs, w :: ws => (!(q.1 == k) || sw_z w f) && sw_zk k f qs ws
  | q :: qs, [] => !(q.1 == k) && sw_zk k f qs []
theorem sw_zk_ok {k : Nat} {f : Int} : ∀ {qs : List (Nat × Nat)} {ws : List ev_C}, sw_zk k f qs ws = true → ∀ (j c : Nat), qs[j]? = some (k, c) → ∃ w, ws[j]? = some w ∧ sw_z w f = true
  | [], ws, _, j, c, h => by simp at h
  | p :: qs, w :: ws, h, j, c, hj => by
    unfold sw_zk at h
    rw [Bool.and_eq_true] at h
    obtain ⟨h1, h2⟩ := h
    cases j with
    | zero =>
      obtain rfl : p = (k, c) := Option.some.inj hj
      refine ⟨w, rfl, ?_⟩
      simpa using h1
    | succ j => exact sw_zk_ok h2 j c hj
  | p :: qs, [], h, j, c, hj => by
    unfold sw_zk at h
    rw [Bool.and_eq_true] at h
    obtain ⟨h1, h2⟩ := h
    cases j with
    | zero =>
      obtain rfl : p = (k, c) := Option.some.inj hj
      simp at h1
    | succ j => exact sw_zk_ok h2 j c hj
theorem sw_world {T : List sx_K} {kd : List (Nat × Nat)} {ad : List Nat} {dA : Nat → ClassId} {w : List ev_C} {ws : va_W} (hs : sx_Sg kd) (hck : sw_go T kd kd w = true) (h : ev_wr dA w ws) (he : ev_ext (ws.map Prod.fst) ad) : ∃ hp : sx_H, sx_wr T kd ad dA ws hp ∧ ∀ (k : Nat) (f : Int), sw_zk k f kd w = true → ∀ c : Int, hp k c f = 0 := by
  have h1 : ∀ j : Nat, ∃ g : Int → Int, ∀ (k c : Nat), kd[j]? = some (k, c) → ∃ K : sx_K, T[k]? = some K ∧ (K.1 = 7 ∨ ∃ (a : Nat) (E : va_E), ad[j]? = some a ∧ ws[j]? = some (a, E) ∧ sx_cr kd ad dA K c g E) ∧ ∀ (wj : ev_C) (f : Int), w[j]? = some wj → sw_z wj f = true → g f = 0 := by
    intro j
    cases hj : kd[j]? with
    | none => exact ⟨fun _ => 0, fun k c hk => by cases hk⟩
    | some q =>
      obtain ⟨K, hK, hc⟩ := sw_go_ok hck j q hj
      rcases hc with ⟨wj, hw, hc⟩ | ⟨hw, h7⟩
      · obtain ⟨p, hp, hr⟩ := h.2 j wj hw
        obtain ⟨g, g1, g2⟩ := sw_cell he hc hr
        refine ⟨g, fun k c hk => ?_⟩
        obtain rfl := Option.some.inj hk
        refine ⟨K, hK, g1.imp id (fun g1 => ⟨p.1, p.2, he _ _ ?_, hp, g1⟩), fun wj' f hw' hz => ?_⟩
        · rw [List.getElem?_map, hp]
          rfl
        · rw [hw] at hw'
          obtain rfl := Option.some.inj hw'
          exact g2 f hz
      · refine ⟨fun _ => 0, fun k c hk => ?_⟩
        obtain rfl := Option.some.inj hk
        exact ⟨K, hK, Or.inl h7, fun wj' f hw' hz => rfl⟩
  obtain ⟨H, hH⟩ := Classical.axiomOfChoice h1
  let hp : sx_H := fun k c f => @dite Int (∃ j : Nat, kd[j]? = some (k, c.toNat) ∧ 0 ≤ c) (Classical.propDecidable _) (fun hx => H (Classical.choose hx) f) (fun _ => 0)
  have e1 : ∀ (j k c : Nat), kd[j]? = some (k, c) → hp k (c : Int) = H j := by
    intro j k c hk
    funext f
    have e9 : ((c : Int)).toNat = c := by omega
    have hx : ∃ j : Nat, kd[j]? = some (k, ((c : Int)).toNat) ∧ 0 ≤ (c : Int) := ⟨j, by rw [e9]; exact hk, by omega⟩
    have hy := (Classical.choose_spec hx).1
    have e2 : Classical.choose hx = j := hs (k, ((c : Int)).toNat) _ _ hy (by rw [e9]; exact hk)
    show @dite Int (∃ j : Nat, kd[j]? = some (k, ((c : Int)).toNat) ∧ 0 ≤ (c : Int)) (Classical.propDecidable _) (fun hx => H (Classical.choose hx) f) (fun _ => 0) = H j f
    rw [dif_pos hx, e2]
  refine ⟨hp, fun j k c hk => ?_, fun k f hz c => ?_⟩
  · obtain ⟨K, a1, a2, -⟩ := hH j k c hk
    refine ⟨K, a1, ?_⟩
    rw [e1 j k c hk]
    exact a2
  · by_cases hx : ∃ j : Nat, kd[j]? = some (k, c.toNat) ∧ 0 ≤ c
    · obtain ⟨j, hj, hc⟩ := hx
      obtain ⟨wj, hw, hz'⟩ := sw_zk_ok hz j c.toNat hj
      obtain ⟨K, -, -, a3⟩ := hH j k c.toNat hj
      have e3 : c = ((c.toNat : Nat) : Int) := by omega
      rw [e3, e1 j k c.toNat hj]
      exact a3 wj f hw hz'
    · show @dite Int (∃ j : Nat, kd[j]? = some (k, c.toNat) ∧ 0 ≤ c) (Classical.propDecidable _) (fun hx => H (Classical.choose hx) f) (fun _ => 0) = 0
      rw [dif_neg hx]
