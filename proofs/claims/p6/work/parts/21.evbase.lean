/-! A small machine of my own (ev_): cells are told by their places in a list, ints by bounds; what it comes to, the machine comes to. Values: (0, lo, hi) an int within bounds (moved up by 2 to the 31), (1, _, _) a long, (2, k, _) the cell at place k, (3, _, _) null. Cells: (0, sort, _, fields), (1, kind, length, elements) of references, (2, kind, length, [v]) of ints, each within v, (3, kind, length, _) of longs, (9, ..) one that is not touched. -/
abbrev ev_V : Type := Nat × Nat × Nat
abbrev ev_C : Type := Nat × Nat × Nat × List (Nat × Nat × Nat)
abbrev ev_I : Type := Nat × Nat × Nat × Nat × Nat × Nat × Nat
abbrev ev_Cd : Type := List (Nat × Nat × Nat × Nat × Nat × Nat × Nat)
abbrev ev_S : Type := Nat × List (Nat × (Nat × Nat × Nat)) × List (Nat × Nat × Nat) × List ev_C × Nat × Nat
abbrev ev_R : Type := Option (Nat × Nat × Nat) × List ev_C × Nat × Nat
/-- the int x within v's bounds -/
def ev_in (v : ev_V) (i : Int32) : Prop := v.2.1 ≤ ev_sx i ∧ ev_sx i ≤ v.2.2
def ev_vr (ad : List Nat) (v : ev_V) (x : Value) : Prop :=
  (v.1 = 0 ∧ ∃ i : Int32, x = .int i ∧ ev_in v i) ∨ (v.1 = 1 ∧ ∃ j : Int64, x = .long j) ∨ (v.1 = 2 ∧ ∃ a : Nat, ad[v.2.1]? = some a ∧ x = .ref a) ∨ (v.1 = 3 ∧ x = .null)
def ev_ext (ad ad' : List Nat) : Prop := ∀ (k a : Nat), ad[k]? = some a → ad'[k]? = some a
theorem ev_ext.rf (ad : List Nat) : ev_ext ad ad := fun _ _ h => h
theorem ev_ext.tr {a b c : List Nat} (h1 : ev_ext a b) (h2 : ev_ext b c) : ev_ext a c := fun k x h => h2 k x (h1 k x h)
theorem ev_ext.app (a b : List Nat) : ev_ext a (a ++ b) := fun k x h => by
  have hk : k < a.length := (List.getElem?_eq_some_iff.mp h).1
  rw [List.getElem?_append_left hk]; exact h
theorem ev_vr.mono {ad ad' : List Nat} {v : ev_V} {x : Value} (h : ev_vr ad v x) (he : ev_ext ad ad') : ev_vr ad' v x := by
  rcases h with h | h | ⟨h, a, h1, h2⟩ | h
  · exact Or.inl h
  · exact Or.inr (Or.inl h)
  · exact Or.inr (Or.inr (Or.inl ⟨h, a, he _ _ h1, h2⟩))
  · exact Or.inr (Or.inr (Or.inr h))
theorem ev_vr.it {ad : List Nat} {v : ev_V} {i : Int32} (h0 : v.1 = 0) (h : ev_in v i) : ev_vr ad v (.int i) := Or.inl ⟨h0, i, rfl, h⟩
theorem ev_vr.rf {ad : List Nat} {k a z : Nat} (h : ad[k]? = some a) : ev_vr ad (2, k, z) (.ref a) := Or.inr (Or.inr (Or.inl ⟨rfl, a, h, rfl⟩))
theorem ev_vr.nu (ad : List Nat) (n z : Nat) : ev_vr ad (3, n, z) .null := Or.inr (Or.inr (Or.inr ⟨rfl, rfl⟩))
theorem ev_vr.lg (ad : List Nat) (n z : Nat) (j : Int64) : ev_vr ad (1, n, z) (.long j) := Or.inr (Or.inl ⟨rfl, j, rfl⟩)
theorem ev_vr.int {ad : List Nat} {v : ev_V} {x : Value} (h : ev_vr ad v x) (hv : v.1 = 0) : ∃ i : Int32, x = .int i ∧ ev_in v i := by
  rcases h with ⟨-, h⟩ | ⟨h, -⟩ | ⟨h, -⟩ | ⟨h, -⟩
  · exact h
  all_goals omega
theorem ev_vr.ref {ad : List Nat} {v : ev_V} {x : Value} (h : ev_vr ad v x) (hv : v.1 = 2) : ∃ a : Nat, ad[v.2.1]? = some a ∧ x = .ref a := by
  rcases h with ⟨h, -⟩ | ⟨h, -⟩ | ⟨-, h⟩ | ⟨h, -⟩
  case inr.inr.inl => exact h
  all_goals omega
theorem ev_vr.long {ad : List Nat} {v : ev_V} {x : Value} (h : ev_vr ad v x) (hv : v.1 = 1) : ∃ j : Int64, x = .long j := by
  rcases h with ⟨h, -⟩ | ⟨-, h⟩ | ⟨h, -⟩ | ⟨h, -⟩
  case inr.inl => exact h
  all_goals omega
theorem ev_vr.null {ad : List Nat} {v : ev_V} {x : Value} (h : ev_vr ad v x) (hv : v.1 = 3) : x = .null := by
  rcases h with ⟨h, -⟩ | ⟨h, -⟩ | ⟨h, -⟩ | ⟨-, h⟩
  case inr.inr.inr => exact h
  all_goals omega
theorem ev_vr.cat {ad : List Nat} {v : ev_V} {x : Value} (h : ev_vr ad v x) : (x.category == 2) = (v.1 == 1) := by
  rcases h with ⟨h, i, rfl, -⟩ | ⟨h, j, rfl⟩ | ⟨h, a, -, rfl⟩ | ⟨h, rfl⟩ <;> (rw [h]; rfl)
theorem ev_vr.cat1 {ad : List Nat} {v : ev_V} {x : Value} (h : ev_vr ad v x) (hv : v.1 ≠ 1) : x.category = 1 := by
  rcases h with ⟨h, i, rfl, -⟩ | ⟨h, j, rfl⟩ | ⟨h, a, -, rfl⟩ | ⟨h, rfl⟩
  case inr.inl => exact absurd h hv
  all_goals rfl
def ev_sr (ad : List Nat) : List (Nat × Nat × Nat) → List Value → Prop
  | [], [] => True
  | v :: vs, x :: xs => ev_vr ad v x ∧ ev_sr ad vs xs
  | _, _ => False
theorem ev_sr.mono {ad ad' : List Nat} (he : ev_ext ad ad') : ∀ {vs : List (Nat × Nat × Nat)} {xs : List Value}, ev_sr ad vs xs → ev_sr ad' vs xs
  | [], [], _ => trivial
  | _ :: _, _ :: _, h => ⟨h.1.mono he, ev_sr.mono he h.2⟩
  | [], _ :: _, h => h.elim
  | _ :: _, [], h => h.elim
theorem ev_sr.cons {ad : List Nat} {v : ev_V} {vs : List (Nat × Nat × Nat)} {xs : List Value} (h : ev_sr ad (v :: vs) xs) : ∃ x ys, xs = x :: ys ∧ ev_vr ad v x ∧ ev_sr ad vs ys := by
  cases xs with
  | nil => exact h.elim
  | cons x ys => exact ⟨x, ys, rfl, h.1, h.2⟩
theorem ev_sr.nil {ad : List Nat} {xs : List Value} (h : ev_sr ad [] xs) : xs = [] := by
  cases xs with
  | nil => rfl
  | cons x ys => exact h.elim
theorem ev_sr.len {ad : List Nat} : ∀ {vs : List (Nat × Nat × Nat)} {xs : List Value}, ev_sr ad vs xs → vs.length = xs.length
  | [], [], _ => rfl
  | _ :: _, _ :: _, h => by simp [ev_sr.len h.2]
  | [], _ :: _, h => h.elim
  | _ :: _, [], h => h.elim
theorem ev_sr.at {ad : List Nat} : ∀ {vs : List (Nat × Nat × Nat)} {xs : List Value} {k : Nat} {v : ev_V}, ev_sr ad vs xs → vs[k]? = some v → ∃ x, xs[k]? = some x ∧ ev_vr ad v x
  | [], _, k, v, _, h => by simp at h
  | _ :: _, [], _, _, h, _ => h.elim
  | u :: us, y :: ys, 0, v, h, hk => by
    simp at hk; subst hk; exact ⟨y, by simp, h.1⟩
  | u :: us, y :: ys, k + 1, v, h, hk => by
    simp at hk; obtain ⟨x, h1, h2⟩ := ev_sr.at h.2 hk; exact ⟨x, by simpa using h1, h2⟩
theorem ev_sr.set {ad : List Nat} {v : ev_V} {x : Value} (hv : ev_vr ad v x) : ∀ {vs : List (Nat × Nat × Nat)} {xs : List Value} (k : Nat), ev_sr ad vs xs → ev_sr ad (vs.set k v) (xs.set k x)
  | [], [], _, _ => trivial
  | [], _ :: _, _, h => h.elim
  | _ :: _, [], _, h => h.elim
  | _ :: _, _ :: _, 0, h => ⟨hv, h.2⟩
  | _ :: _, _ :: _, k + 1, h => ⟨h.1, ev_sr.set hv k h.2⟩
theorem ev_sr.app {ad : List Nat} : ∀ {vs us : List (Nat × Nat × Nat)} {xs ys : List Value}, ev_sr ad vs xs → ev_sr ad us ys → ev_sr ad (vs ++ us) (xs ++ ys)
  | [], _, [], _, _, h => h
  | _ :: _, _, _ :: _, _, h, h2 => ⟨h.1, ev_sr.app h.2 h2⟩
  | [], _, _ :: _, _, h, _ => h.elim
  | _ :: _, _, [], _, h, _ => h.elim
theorem ev_sr.rev {ad : List Nat} : ∀ {vs : List (Nat × Nat × Nat)} {xs : List Value}, ev_sr ad vs xs → ev_sr ad vs.reverse xs.reverse
  | [], [], _ => trivial
  | v :: vs, x :: xs, h => by
    rw [List.reverse_cons, List.reverse_cons]
    exact ev_sr.app (ev_sr.rev h.2) ⟨h.1, trivial⟩
  | [], _ :: _, h => h.elim
  | _ :: _, [], h => h.elim
/-- the first n of a stack, and what is below them -/
theorem ev_sr.split {ad : List Nat} : ∀ (n : Nat) {vs : List (Nat × Nat × Nat)} {xs : List Value}, ev_sr ad vs xs → n ≤ vs.length → ∃ ys zs, xs = ys ++ zs ∧ ys.length = n ∧ ev_sr ad (vs.take n) ys ∧ ev_sr ad (vs.drop n) zs
  | 0, vs, xs, h, _ => ⟨[], xs, rfl, rfl, by simp [ev_sr], by simpa using h⟩
  | n + 1, [], _, _, hn => by simp at hn
  | n + 1, _ :: _, [], h, _ => h.elim
  | n + 1, v :: vs, x :: xs, h, hn => by
    obtain ⟨ys, zs, e1, e2, e3, e4⟩ := ev_sr.split n h.2 (by simpa using hn)
    exact ⟨x :: ys, zs, by rw [e1]; rfl, by simp [e2], ⟨h.1, e3⟩, by simpa using e4⟩
/-- the words that a stack's rest takes -/
def ev_cs (vs : List (Nat × Nat × Nat)) : Nat := (vs.map fun v => if v.1 = 1 then 2 else 1).sum
theorem ev_sr.cs {ad : List Nat} : ∀ {vs : List (Nat × Nat × Nat)} {xs : List Value}, ev_sr ad vs xs → (xs.map fun v => v.category).sum = ev_cs vs
  | [], [], _ => rfl
  | v :: vs, x :: xs, h => by
    have h1 := ev_sr.cs h.2
    have h2 : x.category = if v.1 = 1 then 2 else 1 := by
      rcases h.1 with ⟨h9, i, rfl, -⟩ | ⟨h9, j, rfl⟩ | ⟨h9, a, -, rfl⟩ | ⟨h9, rfl⟩ <;> (rw [h9]; rfl)
    unfold ev_cs at h1 ⊢
    simp only [List.map_cons, List.sum_cons, h1, h2]
  | [], _ :: _, h => h.elim
  | _ :: _, [], h => h.elim
-- locals
def ev_lr (ad : List Nat) : List (Nat × (Nat × Nat × Nat)) → List (Nat × Value) → Prop
  | [], [] => True
  | q :: L, x :: lv => q.1 = x.1 ∧ ev_vr ad q.2 x.2 ∧ ev_lr ad L lv
  | _, _ => False
theorem ev_lr.mono {ad ad' : List Nat} (he : ev_ext ad ad') : ∀ {L : List (Nat × (Nat × Nat × Nat))} {lv : List (Nat × Value)}, ev_lr ad L lv → ev_lr ad' L lv
  | [], [], _ => trivial
  | _ :: _, _ :: _, h => ⟨h.1, h.2.1.mono he, ev_lr.mono he h.2.2⟩
  | [], _ :: _, h => h.elim
  | _ :: _, [], h => h.elim
def ev_get : List (Nat × (Nat × Nat × Nat)) → Nat → Option (Nat × Nat × Nat)
  | [], _ => none
  | q :: L, i => if q.1 = i then some q.2 else ev_get L i
theorem ev_lr.get {ad : List Nat} {i : Nat} {v : ev_V} : ∀ {L : List (Nat × (Nat × Nat × Nat))} {lv : List (Nat × Value)}, ev_lr ad L lv → ev_get L i = some v → ∃ (k : Nat) (x : Value), lv[k]? = some (i, x) ∧ ev_vr ad v x
  | [], _, _, h => by simp [ev_get] at h
  | _ :: _, [], h, _ => h.elim
  | q :: L, y :: lv, h, hg => by
    unfold ev_get at hg
    by_cases hq : q.1 = i
    · rw [if_pos hq] at hg
      obtain rfl := Option.some.inj hg
      exact ⟨0, y.2, by rw [← hq, h.1]; rfl, h.2.1⟩
    · rw [if_neg hq] at hg
      obtain ⟨k, x, h1, h2⟩ := ev_lr.get h.2.2 hg
      exact ⟨k + 1, x, by simpa using h1, h2⟩
def ev_put (L : List (Nat × (Nat × Nat × Nat))) (i : Nat) (v : ev_V) : List (Nat × (Nat × Nat × Nat)) := (i, v) :: L.filter (fun q => !(q.1 == i) && !(q.1 + 1 == i && q.2.1 == 1))
theorem ev_lr.filter {ad : List Nat} (i : Nat) : ∀ {L : List (Nat × (Nat × Nat × Nat))} {lv : List (Nat × Value)}, ev_lr ad L lv → ev_lr ad (L.filter (fun q => !(q.1 == i) && !(q.1 + 1 == i && q.2.1 == 1))) (lv.filter (fun q => !(q.1 == i) && !(q.1 + 1 == i && q.2.category == 2)))
  | [], [], _ => trivial
  | q :: L, y :: lv, h => by
    have ih := ev_lr.filter i h.2.2
    have e : (!(y.1 == i) && !(y.1 + 1 == i && y.2.category == 2)) = (!(q.1 == i) && !(q.1 + 1 == i && q.2.1 == 1)) := by rw [h.2.1.cat, h.1]
    rw [List.filter_cons, List.filter_cons, e]
    split
    · exact ⟨h.1, h.2.1, ih⟩
    · exact ih
  | [], _ :: _, h => h.elim
  | _ :: _, [], h => h.elim
theorem ev_lr.put {ad : List Nat} {L : List (Nat × (Nat × Nat × Nat))} {lv : List (Nat × Value)} (h : ev_lr ad L lv) {i : Nat} {v : ev_V} {x : Value} (hv : ev_vr ad v x) : ev_lr ad (ev_put L i v) ((i, x) :: lv.filter (fun q => !(q.1 == i) && !(q.1 + 1 == i && q.2.category == 2))) := ⟨rfl, hv, h.filter i⟩
-- cells
def ev_cr (ad : List Nat) (dA : Nat → ClassId) (c : ev_C) (E : va_E) : Prop :=
  (c.1 = 0 ∧ ∃ fs : List Value, E = .inr (c.2.1, fs) ∧ ev_sr ad c.2.2.2 fs) ∨
  (c.1 = 1 ∧ ∃ f : Nat → Option Nat, E = .inl (dA c.2.1, c.2.2.1, .inr (.inr (.inr (.inr f)))) ∧ ∀ (k : Nat) (v : ev_V), c.2.2.2[k]? = some v → ev_vr ad v (va_rf (f k))) ∨
  (c.1 = 2 ∧ ∃ f : Nat → Int32, E = .inl (dA c.2.1, c.2.2.1, .inl f) ∧ ∀ v : ev_V, c.2.2.2[0]? = some v → ∀ j, ev_in v (f j)) ∨
  (c.1 = 3 ∧ ∃ f : Nat → Int64, E = .inl (dA c.2.1, c.2.2.1, .inr (.inl f))) ∨
  (c.1 = 9 ∧ ∀ v : ev_V, c.2.2.2[0]? = some v → v.1 = 0 ∧ ∃ f : Nat → Int32, E = .inl (dA c.2.1, c.2.2.1, .inl f) ∧ ∀ j, ev_in v (f j))
/-- what an array of ints holds, also one that may be read alone -/
theorem ev_cr.ints {ad : List Nat} {dA : Nat → ClassId} {tg kd n : Nat} {z : List (Nat × Nat × Nat)} {E : va_E} {b : ev_V} (h : ev_cr ad dA (tg, kd, n, z) E) (ht : tg = 2 ∨ tg = 9) (hz : z[0]? = some b) : ∃ f : Nat → Int32, E = .inl (dA kd, n, .inl f) ∧ ∀ j, ev_in b (f j) := by
  rcases h with ⟨h, -⟩ | ⟨h, -⟩ | ⟨-, f, h1, h2⟩ | ⟨h, -⟩ | ⟨-, h1⟩
  · have h : tg = 0 := h
    omega
  · have h : tg = 1 := h
    omega
  · exact ⟨f, h1, h2 b hz⟩
  · have h : tg = 3 := h
    omega
  · exact (h1 b hz).2
theorem ev_cr.mono {ad ad' : List Nat} {dA : Nat → ClassId} {c : ev_C} {E : va_E} (h : ev_cr ad dA c E) (he : ev_ext ad ad') : ev_cr ad' dA c E := by
  rcases h with ⟨h, fs, h1, h2⟩ | ⟨h, f, h1, h2⟩ | h | h | h
  · exact Or.inl ⟨h, fs, h1, h2.mono he⟩
  · exact Or.inr (Or.inl ⟨h, f, h1, fun k v hk => (h2 k v hk).mono he⟩)
  · exact Or.inr (Or.inr (Or.inl h))
  · exact Or.inr (Or.inr (Or.inr (Or.inl h)))
  · exact Or.inr (Or.inr (Or.inr (Or.inr h)))
def ev_wr (dA : Nat → ClassId) (w : List ev_C) (ws : va_W) : Prop := w.length = ws.length ∧ ∀ (k : Nat) (c : ev_C), w[k]? = some c → ∃ q : Nat × va_E, ws[k]? = some q ∧ ev_cr (ws.map Prod.fst) dA c q.2
theorem ev_map_set {ws : va_W} {k a : Nat} {e0 e : va_E} (h : ws[k]? = some (a, e0)) : (ws.set k (a, e)).map Prod.fst = ws.map Prod.fst := by
  rw [List.map_set]
  have h1 : (ws.map Prod.fst)[k]? = some a := by rw [List.getElem?_map, h]; rfl
  apply List.ext_getElem?
  intro j
  by_cases hj : k = j
  · subst hj
    rw [List.getElem?_set_self (List.getElem?_eq_some_iff.mp h1).1, h1]
  · rw [List.getElem?_set_ne hj]
theorem ev_wr.ad {dA : Nat → ClassId} {w : List ev_C} {ws : va_W} {k a : Nat} (h : (ws.map Prod.fst)[k]? = some a) : ∃ e : va_E, ws[k]? = some (a, e) := by
  rw [List.getElem?_map] at h
  cases hk : ws[k]? with
  | none => rw [hk] at h; cases h
  | some q => rw [hk] at h; obtain rfl := Option.some.inj h; exact ⟨q.2, rfl⟩
/-- the cell at a place that a value names -/
theorem ev_wr.at {dA : Nat → ClassId} {w : List ev_C} {ws : va_W} (h : ev_wr dA w ws) {k a : Nat} {c : ev_C} (hc : w[k]? = some c) (ha : (ws.map Prod.fst)[k]? = some a) : ∃ e : va_E, ws[k]? = some (a, e) ∧ ev_cr (ws.map Prod.fst) dA c e := by
  obtain ⟨e, he⟩ := ev_wr.ad (dA := dA) (w := w) ha
  obtain ⟨q, hq, hr⟩ := h.2 k c hc
  rw [he] at hq
  obtain rfl := Option.some.inj hq
  exact ⟨e, he, hr⟩
theorem ev_wr.set {dA : Nat → ClassId} {w : List ev_C} {ws : va_W} (h : ev_wr dA w ws) {k a : Nat} {c : ev_C} {e0 e : va_E} (he : ws[k]? = some (a, e0)) (hc : ev_cr (ws.map Prod.fst) dA c e) : ev_wr dA (w.set k c) (ws.set k (a, e)) := by
  refine ⟨by rw [List.length_set, List.length_set]; exact h.1, fun j c' hj => ?_⟩
  rw [ev_map_set he]
  by_cases hjk : k = j
  · subst hjk
    have hl : k < ws.length := (List.getElem?_eq_some_iff.mp he).1
    rw [List.getElem?_set_self (by rw [h.1]; exact hl)] at hj
    obtain rfl := Option.some.inj hj
    exact ⟨(a, e), by rw [List.getElem?_set_self hl], hc⟩
  · rw [List.getElem?_set_ne hjk] at hj
    obtain ⟨q, h1, h2⟩ := h.2 j c' hj
    exact ⟨q, by rw [List.getElem?_set_ne hjk]; exact h1, h2⟩
theorem ev_wr.push {dA : Nat → ClassId} {w : List ev_C} {ws : va_W} (h : ev_wr dA w ws) {a : Nat} {c : ev_C} {e : va_E} (hc : ev_cr (ws.map Prod.fst ++ [a]) dA c e) : ev_wr dA (w ++ [c]) (ws ++ [(a, e)]) := by
  have em : (ws ++ [(a, e)]).map Prod.fst = ws.map Prod.fst ++ [a] := by simp
  refine ⟨by simp [h.1], fun j c' hj => ?_⟩
  rw [em]
  by_cases hl : j < w.length
  · rw [List.getElem?_append_left hl] at hj
    obtain ⟨q, h1, h2⟩ := h.2 j c' hj
    exact ⟨q, by rw [List.getElem?_append_left (by rw [← h.1]; exact hl)]; exact h1, h2.mono (ev_ext.app _ _)⟩
  · rw [List.getElem?_append_right (by omega)] at hj
    have hz : j - w.length < 1 := (List.getElem?_eq_some_iff.mp hj).1
    have hj0 : j = w.length := by omega
    subst hj0
    simp at hj
    subst hj
    exact ⟨(a, e), by rw [h.1, List.getElem?_append_right (Nat.le_refl _)]; simp, hc⟩
/-- the places of ws0 stay, and the cells that are not touched stay as they were in it -/
def ev_E (ws0 : va_W) (w : List ev_C) (ws : va_W) : Prop := ev_ext (ws0.map Prod.fst) (ws.map Prod.fst) ∧ ∀ (j : Nat) (c : ev_C), w[j]? = some c → c.1 = 9 → ws[j]? = ws0[j]?
theorem ev_E.rf (w : List ev_C) (ws : va_W) : ev_E ws w ws := ⟨ev_ext.rf _, fun _ _ _ _ => rfl⟩
theorem ev_E.set {ws0 ws : va_W} {w : List ev_C} (h : ev_E ws0 w ws) {k a : Nat} {e0 e : va_E} {c : ev_C} (he : ws[k]? = some (a, e0)) (hc : c.1 ≠ 9) : ev_E ws0 (w.set k c) (ws.set k (a, e)) := by
  refine ⟨by rw [ev_map_set he]; exact h.1, fun j c' hj h9 => ?_⟩
  by_cases hjk : k = j
  · subst hjk
    rw [List.getElem?_set] at hj
    simp only [if_true] at hj
    split at hj
    · obtain rfl := Option.some.inj hj
      exact absurd h9 hc
    · cases hj
  · rw [List.getElem?_set_ne hjk] at hj ⊢
    exact h.2 j c' hj h9
theorem ev_E.pushes {ws0 ws qs : va_W} {w cs : List ev_C} (h : ev_E ws0 w ws) (hl : w.length = ws.length) (hc : ∀ c ∈ cs, c.1 ≠ 9) : ev_E ws0 (w ++ cs) (ws ++ qs) := by
  refine ⟨h.1.tr (by rw [List.map_append]; exact ev_ext.app _ _), fun j c' hj h9 => ?_⟩
  by_cases hlt : j < w.length
  · rw [List.getElem?_append_left hlt] at hj
    rw [List.getElem?_append_left (by rw [← hl]; exact hlt)]
    exact h.2 j c' hj h9
  · rw [List.getElem?_append_right (by omega)] at hj
    exact absurd h9 (hc _ (List.mem_of_getElem? hj))
/-- what is not touched behind a call was not ahead of it -/
def ev_fz : List ev_C → List ev_C → Bool
  | _, [] => true
  | [], c :: cs => !(c.1 == 9) && ev_fz [] cs
  | d :: ds, c :: cs => (!(c.1 == 9) || d.1 == 9) && ev_fz ds cs
theorem ev_fz_r : ∀ {w w1 : List ev_C}, ev_fz w w1 = true → ∀ (j : Nat) (c : ev_C), w1[j]? = some c → c.1 = 9 → ∃ d, w[j]? = some d ∧ d.1 = 9
  | _, [], _, j, c, h, _ => by simp at h
  | [], c0 :: cs, hf, j, c, h, h9 => by
    simp only [ev_fz, Bool.and_eq_true] at hf
    cases j with
    | zero =>
      rw [List.getElem?_cons_zero] at h
      obtain rfl := Option.some.inj h
      rw [h9] at hf
      exact absurd hf.1 (by decide)
    | succ j =>
      rw [List.getElem?_cons_succ] at h
      obtain ⟨d, hd, -⟩ := ev_fz_r hf.2 j c h h9
      simp at hd
  | d0 :: ds, c0 :: cs, hf, j, c, h, h9 => by
    simp only [ev_fz, Bool.and_eq_true] at hf
    cases j with
    | zero =>
      rw [List.getElem?_cons_zero] at h
      obtain rfl := Option.some.inj h
      rw [h9] at hf
      have h1 := hf.1
      simp at h1
      exact ⟨d0, rfl, h1⟩
    | succ j =>
      rw [List.getElem?_cons_succ] at h ⊢
      exact ev_fz_r hf.2 j c h h9
theorem ev_E.tr {ws0 ws u : va_W} {w w1 : List ev_C} (h : ev_E ws0 w ws) (h2 : ev_E ws w1 u) (hf : ev_fz w w1 = true) : ev_E ws0 w1 u := by
  refine ⟨h.1.tr h2.1, fun j c hj h9 => ?_⟩
  obtain ⟨d, hd, hd9⟩ := ev_fz_r hf j c hj h9
  rw [h2.2 j c hj h9]
  exact h.2 j d hd hd9
