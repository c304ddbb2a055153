/-! Values of the second machine: (0, _, f) an int that is f, (1, _, _) a long, (2, k, f) the cell f of the kind k, (3, _, _) null, (4, _, f) a long that is f, (5, _, f) an int that is the sign of f -/
abbrev sx_V : Type := Nat × Nat × List Int
/-- of a kind's fields: (0, _, lo, hi) an int within bounds, (1, ..) a long, (2, k, lo, hi) a cell of the kind k, its number within bounds, (3, k, c, d) the cell c + d * (own number) (+ place in an array) of the kind k, (4, _, c, d) the int c + d * (own number) -/
abbrev sx_T : Type := Nat × Nat × Int × Int
/-- kinds: (0, sort, _, fields), (1, array's kind, length, [of each]) of references, (2, .., .., [of each]) of ints, (3, .., .., _) of longs -/
abbrev sx_K : Type := Nat × Nat × Nat × List (Nat × Nat × Int × Int)
/-- the heap as numbers: kind, cell, field or place -/
abbrev sx_H : Type := Nat → Int → Int → Int
/-- what is known of the heap: (kind, cell, field, value), and predicates -/
abbrev sx_Gt : Type := List (Nat × List Int × List Int × List Int) × List (Nat × List (List Int))
/-- where it is; locals; stack; bounds of the numbers; sums not below 0; what is known of the heap -/
abbrev sx_S : Type := Nat × List (Nat × (Nat × Nat × List Int)) × List (Nat × Nat × List Int) × List (Int × Int) × List (List Int) × sx_Gt
/-- the cell z of a kind -/
def sx_rf (kd : List (Nat × Nat)) (ad : List Nat) (k : Nat) (z : Int) (x : Value) : Prop := ∃ j c a : Nat, kd[j]? = some (k, c) ∧ (c : Int) = z ∧ ad[j]? = some a ∧ x = .ref a
def sx_sg (z : Int) (i : Int32) : Prop := (0 < z → i = 1) ∧ (z = 0 → i = 0) ∧ (z < 0 → i = -1)
def sx_vr (r : List Int) (kd : List (Nat × Nat)) (ad : List Nat) (v : sx_V) (x : Value) : Prop :=
  (v.1 = 0 ∧ ∃ i : Int32, x = .int i ∧ i.toInt = sx_ev v.2.2 r) ∨ (v.1 = 1 ∧ ∃ j : Int64, x = .long j) ∨ (v.1 = 2 ∧ sx_rf kd ad v.2.1 (sx_ev v.2.2 r) x) ∨ (v.1 = 3 ∧ x = .null) ∨ (v.1 = 4 ∧ ∃ j : Int64, x = .long j ∧ j.toInt = sx_ev v.2.2 r) ∨ (v.1 = 5 ∧ ∃ i : Int32, x = .int i ∧ sx_sg (sx_ev v.2.2 r) i)
section SX1
variable {r : List Int} {kd : List (Nat × Nat)} {ad : List Nat} {v : sx_V} {x : Value}
theorem sx_vr.it {f : List Int} {i : Int32} {z : Nat} (h : i.toInt = sx_ev f r) : sx_vr r kd ad (0, z, f) (.int i) := Or.inl ⟨rfl, i, rfl, h⟩
theorem sx_vr.lg (z : Nat) (f : List Int) (j : Int64) : sx_vr r kd ad (1, z, f) (.long j) := Or.inr (Or.inl ⟨rfl, j, rfl⟩)
theorem sx_vr.rf {k : Nat} {f : List Int} (h : sx_rf kd ad k (sx_ev f r) x) : sx_vr r kd ad (2, k, f) x := Or.inr (Or.inr (Or.inl ⟨rfl, h⟩))
theorem sx_vr.nu (z : Nat) (f : List Int) : sx_vr r kd ad (3, z, f) .null := Or.inr (Or.inr (Or.inr (Or.inl ⟨rfl, rfl⟩)))
theorem sx_vr.ll {f : List Int} {j : Int64} {z : Nat} (h : j.toInt = sx_ev f r) : sx_vr r kd ad (4, z, f) (.long j) := Or.inr (Or.inr (Or.inr (Or.inr (Or.inl ⟨rfl, j, rfl, h⟩))))
theorem sx_vr.sg {f : List Int} {i : Int32} {z : Nat} (h : sx_sg (sx_ev f r) i) : sx_vr r kd ad (5, z, f) (.int i) := Or.inr (Or.inr (Or.inr (Or.inr (Or.inr ⟨rfl, i, rfl, h⟩))))
theorem sx_vr.int (h : sx_vr r kd ad v x) (hv : v.1 = 0) : ∃ i : Int32, x = .int i ∧ i.toInt = sx_ev v.2.2 r := by
  rcases h with ⟨-, h⟩ | ⟨h, -⟩ | ⟨h, -⟩ | ⟨h, -⟩ | ⟨h, -⟩ | ⟨h, -⟩
  · exact h
  all_goals omega
theorem sx_vr.long (h : sx_vr r kd ad v x) (hv : v.1 = 1 ∨ v.1 = 4) : ∃ j : Int64, x = .long j := by
  rcases h with ⟨h, -⟩ | ⟨-, h⟩ | ⟨h, -⟩ | ⟨h, -⟩ | ⟨-, j, h, -⟩ | ⟨h, -⟩
  case inr.inl => exact h
  case inr.inr.inr.inr.inl => exact ⟨j, h⟩
  all_goals omega
theorem sx_vr.longf (h : sx_vr r kd ad v x) (hv : v.1 = 4) : ∃ j : Int64, x = .long j ∧ j.toInt = sx_ev v.2.2 r := by
  rcases h with ⟨h, -⟩ | ⟨h, -⟩ | ⟨h, -⟩ | ⟨h, -⟩ | ⟨-, h⟩ | ⟨h, -⟩
  case inr.inr.inr.inr.inl => exact h
  all_goals omega
theorem sx_vr.ref (h : sx_vr r kd ad v x) (hv : v.1 = 2) : sx_rf kd ad v.2.1 (sx_ev v.2.2 r) x := by
  rcases h with ⟨h, -⟩ | ⟨h, -⟩ | ⟨-, h⟩ | ⟨h, -⟩ | ⟨h, -⟩ | ⟨h, -⟩
  case inr.inr.inl => exact h
  all_goals omega
theorem sx_vr.null (h : sx_vr r kd ad v x) (hv : v.1 = 3) : x = .null := by
  rcases h with ⟨h, -⟩ | ⟨h, -⟩ | ⟨h, -⟩ | ⟨-, h⟩ | ⟨h, -⟩ | ⟨h, -⟩
  case inr.inr.inr.inl => exact h
  all_goals omega
theorem sx_vr.sign (h : sx_vr r kd ad v x) (hv : v.1 = 5) : ∃ i : Int32, x = .int i ∧ sx_sg (sx_ev v.2.2 r) i := by
  rcases h with ⟨h, -⟩ | ⟨h, -⟩ | ⟨h, -⟩ | ⟨h, -⟩ | ⟨h, -⟩ | ⟨-, h⟩
  case inr.inr.inr.inr.inr => exact h
  all_goals omega
theorem sx_vr.int5 (h : sx_vr r kd ad v x) (hv : v.1 = 0 ∨ v.1 = 5) : ∃ i : Int32, x = .int i := by
  rcases hv with hv | hv
  · obtain ⟨i, h, -⟩ := h.int hv; exact ⟨i, h⟩
  · obtain ⟨i, h, -⟩ := h.sign hv; exact ⟨i, h⟩
/-- a long takes two -/
def sx_l (v : sx_V) : Bool := v.1 == 1 || v.1 == 4
theorem sx_vr.cat (h : sx_vr r kd ad v x) : (x.category == 2) = sx_l v := by
  unfold sx_l
  rcases h with ⟨h, i, rfl, -⟩ | ⟨h, j, rfl⟩ | ⟨h, k, c, a, -, -, -, rfl⟩ | ⟨h, rfl⟩ | ⟨h, j, rfl, -⟩ | ⟨h, i, rfl, -⟩ <;> (rw [h]; rfl)
theorem sx_vr.cat1 (h : sx_vr r kd ad v x) (hv : sx_l v = false) : x.category = 1 := by
  unfold sx_l at hv
  rcases h with ⟨h, i, rfl, -⟩ | ⟨h, j, rfl⟩ | ⟨h, k, c, a, -, -, -, rfl⟩ | ⟨h, rfl⟩ | ⟨h, j, rfl, -⟩ | ⟨h, i, rfl, -⟩
  case inr.inl => rw [h] at hv; exact absurd hv (by decide)
  case inr.inr.inr.inr.inl => rw [h] at hv; exact absurd hv (by decide)
  all_goals rfl
/-- the row may grow -/
theorem sx_vr.app {x1 : List Int} (h : sx_vr r kd ad v x) (hw : v.2.2.length ≤ r.length + 1) : sx_vr (r ++ x1) kd ad v x := by
  unfold sx_vr
  rw [sx_ev_app hw]
  exact h
end SX1
def sx_sr (r : List Int) (kd : List (Nat × Nat)) (ad : List Nat) : List sx_V → List Value → Prop
  | [], [] => True
  | v :: vs, x :: xs => sx_vr r kd ad v x ∧ sx_sr r kd ad vs xs
  | [], _ :: _ => False
  | _ :: _, [] => False
section SX2
variable {r : List Int} {kd : List (Nat × Nat)} {ad : List Nat}
theorem sx_sr.cons {v : sx_V} {vs : List sx_V} {xs : List Value} (h : sx_sr r kd ad (v :: vs) xs) : ∃ x ys, xs = x :: ys ∧ sx_vr r kd ad v x ∧ sx_sr r kd ad vs ys := by
  cases xs with
  | nil => exact h.elim
  | cons x ys => exact ⟨x, ys, rfl, h.1, h.2⟩
theorem sx_sr.nil {xs : List Value} (h : sx_sr r kd ad [] xs) : xs = [] := by
  cases xs with
  | nil => rfl
  | cons x ys => exact h.elim
theorem sx_sr.len : ∀ {vs : List sx_V} {xs : List Value}, sx_sr r kd ad vs xs → vs.length = xs.length
  | [], [], _ => rfl
  | _ :: _, _ :: _, h => by simp [sx_sr.len h.2]
  | [], _ :: _, h => h.elim
  | _ :: _, [], h => h.elim
theorem sx_sr.app : ∀ {vs us : List sx_V} {xs ys : List Value}, sx_sr r kd ad vs xs → sx_sr r kd ad us ys → sx_sr r kd ad (vs ++ us) (xs ++ ys)
  | [], _, [], _, _, h => h
  | _ :: _, _, _ :: _, _, h, h2 => ⟨h.1, sx_sr.app h.2 h2⟩
  | [], _, _ :: _, _, h, _ => h.elim
  | _ :: _, _, [], _, h, _ => h.elim
theorem sx_sr.rev : ∀ {vs : List sx_V} {xs : List Value}, sx_sr r kd ad vs xs → sx_sr r kd ad vs.reverse xs.reverse
  | [], [], _ => trivial
  | v :: vs, x :: xs, h => by
    rw [List.reverse_cons, List.reverse_cons]
    exact sx_sr.app (sx_sr.rev h.2) ⟨h.1, trivial⟩
  | [], _ :: _, h => h.elim
  | _ :: _, [], h => h.elim
theorem sx_sr.split : ∀ (n : Nat) {vs : List sx_V} {xs : List Value}, sx_sr r kd ad vs xs → n ≤ vs.length → ∃ ys zs, xs = ys ++ zs ∧ ys.length = n ∧ sx_sr r kd ad (vs.take n) ys ∧ sx_sr r kd ad (vs.drop n) zs
  | 0, vs, xs, h, _ => ⟨[], xs, rfl, rfl, by simp [sx_sr], by simpa using h⟩
  | n + 1, [], _, _, hn => by simp at hn
  | n + 1, _ :: _, [], h, _ => h.elim
  | n + 1, v :: vs, x :: xs, h, hn => by
    obtain ⟨ys, zs, e1, e2, e3, e4⟩ := sx_sr.split n h.2 (by simpa using hn)
    exact ⟨x :: ys, zs, by rw [e1]; rfl, by simp [e2], ⟨h.1, e3⟩, by simpa using e4⟩
def sx_cs (vs : List sx_V) : Nat := (vs.map fun v => if sx_l v then 2 else 1).sum
theorem sx_sr.cs : ∀ {vs : List sx_V} {xs : List Value}, sx_sr r kd ad vs xs → (xs.map fun v => v.category).sum = sx_cs vs
  | [], [], _ => rfl
  | v :: vs, x :: xs, h => by
    have h1 := sx_sr.cs h.2
    have h2 : x.category = if sx_l v then 2 else 1 := by
      rcases h.1 with ⟨h9, i, rfl, -⟩ | ⟨h9, j, rfl⟩ | ⟨h9, k, c, a, -, -, -, rfl⟩ | ⟨h9, rfl⟩ | ⟨h9, j, rfl, -⟩ | ⟨h9, i, rfl, -⟩ <;> (unfold sx_l; rw [h9]; rfl)
    unfold sx_cs at h1 ⊢
    simp only [List.map_cons, List.sum_cons, h1, h2]
  | [], _ :: _, h => h.elim
  | _ :: _, [], h => h.elim
/-- forms that are not longer than the row -/
def sx_wS (n : Nat) (S : List sx_V) : Bool := S.all (fun v => decide (v.2.2.length ≤ n + 1))
theorem sx_sr.row {x1 : List Int} {n : Nat} (hn : n = r.length) : ∀ {vs : List sx_V} {xs : List Value}, sx_wS n vs = true → sx_sr r kd ad vs xs → sx_sr (r ++ x1) kd ad vs xs
  | [], [], _, _ => trivial
  | v :: vs, x :: xs, hw, h => by
    unfold sx_wS at hw
    rw [List.all_cons, Bool.and_eq_true] at hw
    exact ⟨h.1.app (by rw [← hn]; exact of_decide_eq_true hw.1), sx_sr.row hn hw.2 h.2⟩
  | [], _ :: _, _, h => h.elim
  | _ :: _, [], _, h => h.elim
-- locals
end SX2
def sx_lr (r : List Int) (kd : List (Nat × Nat)) (ad : List Nat) : List (Nat × sx_V) → List (Nat × Value) → Prop
  | [], [] => True
  | q :: L, x :: lv => q.1 = x.1 ∧ sx_vr r kd ad q.2 x.2 ∧ sx_lr r kd ad L lv
  | [], _ :: _ => False
  | _ :: _, [] => False
def sx_get : List (Nat × sx_V) → Nat → Option sx_V
  | [], _ => none
  | q :: L, i => if q.1 = i then some q.2 else sx_get L i
def sx_put (L : List (Nat × sx_V)) (i : Nat) (v : sx_V) : List (Nat × sx_V) := (i, v) :: L.filter (fun q => !(q.1 == i) && !(q.1 + 1 == i && sx_l q.2))
def sx_put2 (L : List (Nat × sx_V)) (i : Nat) (v : sx_V) : List (Nat × sx_V) := (i, v) :: L.filter (fun q => !(q.1 == i) && (!(q.1 == i + 1) && !(q.1 + 1 == i && sx_l q.2)))
def sx_wL (n : Nat) (L : List (Nat × sx_V)) : Bool := L.all (fun q => decide (q.2.2.2.length ≤ n + 1))
section SX3
variable {r : List Int} {kd : List (Nat × Nat)} {ad : List Nat}
theorem sx_lr.get {i : Nat} {v : sx_V} : ∀ {L : List (Nat × sx_V)} {lv : List (Nat × Value)}, sx_lr r kd ad L lv → sx_get L i = some v → ∃ (k : Nat) (x : Value), lv[k]? = some (i, x) ∧ sx_vr r kd ad v x
  | [], _, _, h => by simp [sx_get] at h
  | _ :: _, [], h, _ => h.elim
  | q :: L, y :: lv, h, hg => by
    unfold sx_get at hg
    by_cases hq : q.1 = i
    · rw [if_pos hq] at hg
      obtain rfl := Option.some.inj hg
      exact ⟨0, y.2, by rw [← hq, h.1]; rfl, h.2.1⟩
    · rw [if_neg hq] at hg
      obtain ⟨k, x, h1, h2⟩ := sx_lr.get h.2.2 hg
      exact ⟨k + 1, x, by simpa using h1, h2⟩
theorem sx_lr.filter (i : Nat) : ∀ {L : List (Nat × sx_V)} {lv : List (Nat × Value)}, sx_lr r kd ad L lv → sx_lr r kd ad (L.filter (fun q => !(q.1 == i) && !(q.1 + 1 == i && sx_l q.2))) (lv.filter (fun q => !(q.1 == i) && !(q.1 + 1 == i && q.2.category == 2)))
  | [], [], _ => trivial
  | q :: L, y :: lv, h => by
    have ih := sx_lr.filter i h.2.2
    have e : (!(y.1 == i) && !(y.1 + 1 == i && y.2.category == 2)) = (!(q.1 == i) && !(q.1 + 1 == i && sx_l q.2)) := by rw [h.2.1.cat, h.1]
    rw [List.filter_cons, List.filter_cons, e]
    split
    · exact ⟨h.1, h.2.1, ih⟩
    · exact ih
  | [], _ :: _, h => h.elim
  | _ :: _, [], h => h.elim
theorem sx_lr.put {L : List (Nat × sx_V)} {lv : List (Nat × Value)} (h : sx_lr r kd ad L lv) {i : Nat} {v : sx_V} {x : Value} (hv : sx_vr r kd ad v x) : sx_lr r kd ad (sx_put L i v) ((i, x) :: lv.filter (fun q => !(q.1 == i) && !(q.1 + 1 == i && q.2.category == 2))) := ⟨rfl, hv, h.filter i⟩
theorem sx_lr.filter2 (i : Nat) : ∀ {L : List (Nat × sx_V)} {lv : List (Nat × Value)}, sx_lr r kd ad L lv → sx_lr r kd ad (L.filter (fun q => !(q.1 == i) && (!(q.1 == i + 1) && !(q.1 + 1 == i && sx_l q.2)))) (lv.filter (fun q => !(q.1 == i) && (!(q.1 == i + 1) && !(q.1 + 1 == i && q.2.category == 2))))
  | [], [], _ => trivial
  | q :: L, y :: lv, h => by
    have ih := sx_lr.filter2 i h.2.2
    have e : (!(y.1 == i) && (!(y.1 == i + 1) && !(y.1 + 1 == i && y.2.category == 2))) = (!(q.1 == i) && (!(q.1 == i + 1) && !(q.1 + 1 == i && sx_l q.2))) := by rw [h.2.1.cat, h.1]
    rw [List.filter_cons, List.filter_cons, e]
    split
    · exact ⟨h.1, h.2.1, ih⟩
    · exact ih
  | [], _ :: _, h => h.elim
  | _ :: _, [], h => h.elim
theorem sx_lr.put2 {L : List (Nat × sx_V)} {lv : List (Nat × Value)} (h : sx_lr r kd ad L lv) {i : Nat} {v : sx_V} {x : Value} (hv : sx_vr r kd ad v x) : sx_lr r kd ad (sx_put2 L i v) ((i, x) :: lv.filter (fun q => !(q.1 == i) && (!(q.1 == i + 1) && !(q.1 + 1 == i && q.2.category == 2)))) := ⟨rfl, hv, h.filter2 i⟩
theorem sx_lr.row {x1 : List Int} {n : Nat} (hn : n = r.length) : ∀ {L : List (Nat × sx_V)} {lv : List (Nat × Value)}, sx_wL n L = true → sx_lr r kd ad L lv → sx_lr (r ++ x1) kd ad L lv
  | [], [], _, _ => trivial
  | q :: L, x :: lv, hw, h => by
    unfold sx_wL at hw
    rw [List.all_cons, Bool.and_eq_true] at hw
    exact ⟨h.1, h.2.1.app (by rw [← hn]; exact of_decide_eq_true hw.1), sx_lr.row hn hw.2 h.2.2⟩
  | [], _ :: _, _, h => h.elim
  | _ :: _, [], _, h => h.elim
end SX3
-- cells
def sx_in (Md : List (Nat × Nat)) (k : Nat) (f : Int) : Bool := Md.any (fun q => q.1 == k && (q.2 == 999 || decide ((q.2 : Int) = f)))
/-- a cell is written -/
def sx_up (hp : sx_H) (k : Nat) (c : Int) (h : Int → Int) : sx_H := fun k' c' => if k' = k ∧ c' = c then h else hp k' c'
theorem sx_up_s {hp : sx_H} {k : Nat} {c : Int} {h : Int → Int} : sx_up hp k c h k c = h := by unfold sx_up; rw [if_pos ⟨rfl, rfl⟩]
theorem sx_up_n {hp : sx_H} {k k' : Nat} {c c' : Int} {h : Int → Int} (e : ¬ (k' = k ∧ c' = c)) : sx_up hp k c h k' c' = hp k' c' := by unfold sx_up; rw [if_neg e]
theorem sx_up_id {hp : sx_H} {k : Nat} {c : Int} : sx_up hp k c (hp k c) = hp := by
  funext k' c'
  by_cases e : k' = k ∧ c' = c
  · obtain ⟨rfl, rfl⟩ := e; rw [sx_up_s]
  · rw [sx_up_n e]
/-- a write: (0, ..) none, (1, kind, cell, field, value), (2, kind, cell, ..) all of the cell -/
abbrev sx_Wt : Type := Nat × Nat × List Int × List Int × List Int
def sx_wl (r : List Int) (hh hh' : sx_H) (w : sx_Wt) : Prop := (w.1 = 0 ∧ hh' = hh) ∨ (w.1 = 1 ∧ hh' = sx_up hh w.2.1 (sx_ev w.2.2.1 r) (fun f => if f = sx_ev w.2.2.2.1 r then sx_ev w.2.2.2.2 r else hh w.2.1 (sx_ev w.2.2.1 r) f)) ∨ (w.1 = 2 ∧ ∃ g, hh' = sx_up hh w.2.1 (sx_ev w.2.2.1 r) g)
/-- a rule: bounds of its numbers, sums, what must be known, the write, sums that follow, predicates that follow -/
abbrev sx_Ru : Type := List (Int × Int) × List (List Int) × sx_Gt × (Nat × Nat × List Int × List Int × List Int) × List (List Int) × List (Nat × List (List Int))
def sx_Rk (pr : Nat → List Int → sx_H → Prop) (u : sx_Ru) : Prop := ∀ (r : List Int) (hh hh' : sx_H), sx_b u.1 r → sx_fs u.2.1 r → (∀ g ∈ u.2.2.1.1, hh g.1 (sx_ev g.2.1 r) (sx_ev g.2.2.1 r) = sx_ev g.2.2.2 r) → (∀ q ∈ u.2.2.1.2, pr q.1 (q.2.map (sx_ev · r)) hh) → sx_wl r hh hh' u.2.2.2.1 → sx_fs u.2.2.2.2.1 r ∧ ∀ q ∈ u.2.2.2.2.2, pr q.1 (q.2.map (sx_ev · r)) hh'
/-- predicates of the heap: what each says, what it looks at; kinds whose cells are remembered; rules -/
def sx_Yk (d : (Nat → List Int → sx_H → Prop) × (Nat → List (Nat × Nat)) × List Nat × List sx_Ru) : Prop := (∀ u ∈ d.2.2.2, sx_Rk d.1 u) ∧ ∀ (id : Nat) (a : List Int) (h h' : sx_H), (∀ (k : Nat) (i f : Int), sx_in (d.2.1 id) k f = true → h' k i f = h k i f) → d.1 id a h → d.1 id a h'
def sx_Y : Type := Subtype sx_Yk
def sx_Y.pr (Y : sx_Y) : Nat → List Int → sx_H → Prop := (Subtype.val (p := sx_Yk) Y).1
def sx_Y.su (Y : sx_Y) : Nat → List (Nat × Nat) := (Subtype.val (p := sx_Yk) Y).2.1
def sx_Y.tk (Y : sx_Y) : List Nat := (Subtype.val (p := sx_Yk) Y).2.2.1
def sx_Y.ru (Y : sx_Y) : List sx_Ru := (Subtype.val (p := sx_Yk) Y).2.2.2
theorem sx_Y.rok (Y : sx_Y) : ∀ u ∈ Y.ru, sx_Rk Y.pr u := (Subtype.property (p := sx_Yk) Y).1
theorem sx_Y.ok (Y : sx_Y) : ∀ (id : Nat) (a : List Int) (h h' : sx_H), (∀ (k : Nat) (i f : Int), sx_in (Y.su id) k f = true → h' k i f = h k i f) → Y.pr id a h → Y.pr id a h' := (Subtype.property (p := sx_Yk) Y).2
def sx_tr (kd : List (Nat × Nat)) (ad : List Nat) (t : sx_T) (c z v : Int) (x : Value) : Prop :=
  (t.1 = 0 ∧ ∃ i : Int32, x = .int i ∧ i.toInt = v ∧ t.2.2.1 ≤ v ∧ v ≤ t.2.2.2) ∨ (t.1 = 1 ∧ ∃ j : Int64, x = .long j) ∨ (t.1 = 2 ∧ sx_rf kd ad t.2.1 v x ∧ t.2.2.1 ≤ v ∧ v ≤ t.2.2.2) ∨ (t.1 = 3 ∧ sx_rf kd ad t.2.1 v x ∧ v = t.2.2.1 + t.2.2.2 * c + z) ∨ (t.1 = 4 ∧ ∃ i : Int32, x = .int i ∧ i.toInt = v ∧ v = t.2.2.1 + t.2.2.2 * c)
def sx_cr (kd : List (Nat × Nat)) (ad : List Nat) (dA : Nat → ClassId) (K : sx_K) (c : Int) (h : Int → Int) (E : va_E) : Prop :=
  (K.1 = 0 ∧ ∃ fs : List Value, E = .inr (K.2.1, fs) ∧ fs.length = K.2.2.2.length ∧ ∀ (j : Nat) (t : sx_T), K.2.2.2[j]? = some t → ∃ x, fs[j]? = some x ∧ sx_tr kd ad t c 0 (h j) x) ∨
  (K.1 = 1 ∧ ∃ f : Nat → Option Nat, E = .inl (dA K.2.1, K.2.2.1, .inr (.inr (.inr (.inr f)))) ∧ ∀ t : sx_T, K.2.2.2[0]? = some t → ∀ j : Nat, j < K.2.2.1 → sx_tr kd ad t c j (h j) (va_rf (f j))) ∨
  (K.1 = 2 ∧ ∃ f : Nat → Int32, E = .inl (dA K.2.1, K.2.2.1, .inl f) ∧ ∀ t : sx_T, K.2.2.2[0]? = some t → ∀ j : Nat, (f j).toInt = h j ∧ t.2.2.1 ≤ (f j).toInt ∧ (f j).toInt ≤ t.2.2.2) ∨
  (K.1 = 3 ∧ ∃ f : Nat → Int64, E = .inl (dA K.2.1, K.2.2.1, .inr (.inl f)))
/-- cells by their kinds; of a kind 7 (tables that nobody writes) nothing here -/
def sx_wr (T : List sx_K) (kd : List (Nat × Nat)) (ad : List Nat) (dA : Nat → ClassId) (ws : va_W) (hp : sx_H) : Prop := ∀ j k c : Nat, kd[j]? = some (k, c) → ∃ K : sx_K, T[k]? = some K ∧ (K.1 = 7 ∨ ∃ (a : Nat) (E : va_E), ad[j]? = some a ∧ ws[j]? = some (a, E) ∧ sx_cr kd ad dA K c (hp k c) E)
theorem sx_wr.at {T : List sx_K} {kd : List (Nat × Nat)} {ad : List Nat} {dA : Nat → ClassId} {ws : va_W} {hp : sx_H} (h : sx_wr T kd ad dA ws hp) {j k c a : Nat} {K : sx_K} (hk : kd[j]? = some (k, c)) (hK : T[k]? = some K) (h7 : K.1 ≠ 7) (ha : ad[j]? = some a) : ∃ E : va_E, ws[j]? = some (a, E) ∧ sx_cr kd ad dA K c (hp k c) E := by
  obtain ⟨K', h1, h2⟩ := h j k c hk
  rw [hK] at h1
  obtain rfl := Option.some.inj h1
  rcases h2 with h2 | ⟨b, E, g1, g2, g3⟩
  · exact absurd h2 h7
  · rw [ha] at g1
    obtain rfl := Option.some.inj g1
    exact ⟨E, g2, g3⟩
/-- each cell has one place -/
def sx_Sg (kd : List (Nat × Nat)) : Prop := ∀ (q : Nat × Nat) (i j : Nat), kd[i]? = some q → kd[j]? = some q → i = j
theorem sx_wr.set {T : List sx_K} {kd : List (Nat × Nat)} {ad : List Nat} {dA : Nat → ClassId} {ws : va_W} {hp : sx_H} (hs : sx_Sg kd) (h : sx_wr T kd ad dA ws hp) {j k c a : Nat} {K : sx_K} {E0 E : va_E} {g : Int → Int} (hk : kd[j]? = some (k, c)) (hK : T[k]? = some K) (ha : ad[j]? = some a) (he : ws[j]? = some (a, E0)) (hc : sx_cr kd ad dA K c g E) : sx_wr T kd ad dA (ws.set j (a, E)) (sx_up hp k c g) := by
  intro i k' c' hi
  by_cases hij : j = i
  · subst hij
    rw [hk] at hi
    obtain ⟨rfl, rfl⟩ := Prod.mk.inj (Option.some.inj hi)
    exact ⟨K, hK, Or.inr ⟨a, E, ha, by rw [List.getElem?_set_self (List.getElem?_eq_some_iff.mp he).1], by rw [sx_up_s]; exact hc⟩⟩
  · obtain ⟨K', h1, h2⟩ := h i k' c' hi
    have hne : ¬ (k' = k ∧ (c' : Int) = (c : Int)) := fun e => by
      obtain ⟨rfl, e2⟩ := e
      obtain rfl : c' = c := by omega
      exact hij (hs _ _ _ hk hi)
    refine ⟨K', h1, h2.imp id (fun ⟨b, E', g1, g2, g3⟩ => ⟨b, E', g1, by rw [List.getElem?_set_ne hij]; exact g2, by rw [sx_up_n hne]; exact g3⟩)⟩
/-- what is known -/
def sx_gr (Y : sx_Y) (r : List Int) (hp : sx_H) (G : sx_Gt) : Prop := (∀ g ∈ G.1, hp g.1 (sx_ev g.2.1 r) (sx_ev g.2.2.1 r) = sx_ev g.2.2.2 r) ∧ ∀ q ∈ G.2, Y.pr q.1 (q.2.map (sx_ev · r)) hp
def sx_wG (n : Nat) (G : sx_Gt) : Bool := G.1.all (fun g => decide (g.2.1.length ≤ n + 1) && (decide (g.2.2.1.length ≤ n + 1) && decide (g.2.2.2.length ≤ n + 1))) && G.2.all (fun q => q.2.all (fun f => decide (f.length ≤ n + 1)))
theorem sx_gr.row {Y : sx_Y} {r x1 : List Int} {hp : sx_H} {G : sx_Gt} {n : Nat} (hn : n = r.length) (hw : sx_wG n G = true) (h : sx_gr Y r hp G) : sx_gr Y (r ++ x1) hp G := by
  unfold sx_wG at hw
  rw [Bool.and_eq_true] at hw
  subst hn
  constructor
  · intro g hg
    have h0 := List.all_eq_true.mp hw.1 g hg
    simp only [Bool.and_eq_true, decide_eq_true_eq] at h0
    rw [sx_ev_app h0.1, sx_ev_app h0.2.1, sx_ev_app h0.2.2]
    exact h.1 g hg
  · intro q hq
    have h0 := List.all_eq_true.mp hw.2 q hq
    have e : q.2.map (sx_ev · (r ++ x1)) = q.2.map (sx_ev · r) := List.map_congr_left (fun f hf => sx_ev_app (of_decide_eq_true (List.all_eq_true.mp h0 f hf)))
    rw [e]
    exact h.2 q hq
def sx_wF (n : Nat) (F : List (List Int)) : Bool := F.all (fun f => decide (f.length ≤ n + 1))
theorem sx_fs.row {r x1 : List Int} {F : List (List Int)} {n : Nat} (hn : n = r.length) (hw : sx_wF n F = true) (h : sx_fs F r) : sx_fs F (r ++ x1) := fun f hf => by
  rw [sx_ev_app (by rw [← hn]; exact of_decide_eq_true (List.all_eq_true.mp hw f hf))]
  exact h f hf
/-- what may have changed: kind and field (of arrays 999) -/
def sx_fr (Md : List (Nat × Nat)) (hp0 hp : sx_H) : Prop := ∀ (k : Nat) (i f : Int), sx_in Md k f = false → hp k i f = hp0 k i f
theorem sx_fr.rf (Md : List (Nat × Nat)) (hp : sx_H) : sx_fr Md hp hp := fun _ _ _ _ => rfl
theorem sx_fr.tr {Md : List (Nat × Nat)} {h0 h1 h2 : sx_H} (a : sx_fr Md h0 h1) (b : sx_fr Md h1 h2) : sx_fr Md h0 h2 := fun k i f h => (b k i f h).trans (a k i f h)
theorem sx_in_sub {Md Md' : List (Nat × Nat)} (hs : ∀ q ∈ Md', q ∈ Md) {k : Nat} {f : Int} (h : sx_in Md k f = false) : sx_in Md' k f = false := by
  cases h' : sx_in Md' k f with
  | false => rfl
  | true =>
    obtain ⟨q, hq, e⟩ := List.any_eq_true.mp h'
    have : sx_in Md k f = true := List.any_eq_true.mpr ⟨q, hs q hq, e⟩
    rw [h] at this
    cases this
theorem sx_fr.sub {Md Md' : List (Nat × Nat)} (hs : ∀ q ∈ Md', q ∈ Md) {h0 h1 : sx_H} (h : sx_fr Md' h0 h1) : sx_fr Md h0 h1 := fun k i f e => h k i f (sx_in_sub hs e)
theorem sx_fr.arr {Md : List (Nat × Nat)} {hp : sx_H} {k : Nat} {c : Int} {g : Int → Int} (hm : (k, 999) ∈ Md) : sx_fr Md hp (sx_up hp k c g) := fun k' i f e => by
  by_cases h : k' = k ∧ i = c
  · obtain ⟨rfl, rfl⟩ := h
    have : sx_in Md k' f = true := List.any_eq_true.mpr ⟨_, hm, by simp⟩
    rw [e] at this
    cases this
  · rw [sx_up_n h]
theorem sx_fr.fld {Md : List (Nat × Nat)} {hp : sx_H} {k a : Nat} {c v : Int} (hm : (k, a) ∈ Md) : sx_fr Md hp (sx_up hp k c (fun f => if f = (a : Int) then v else hp k c f)) := fun k' i f e => by
  by_cases h : k' = k ∧ i = c
  · obtain ⟨rfl, rfl⟩ := h
    rw [sx_up_s]
    by_cases hf : f = (a : Int)
    · have : sx_in Md k' f = true := List.any_eq_true.mpr ⟨_, hm, by simp [hf]⟩
      rw [e] at this
      cases this
    · rw [if_neg hf]
  · rw [sx_up_n h]
/-- a known value stands over what may change -/
def sx_kg (Mc : List (Nat × Nat)) (g : Nat × List Int × List Int × List Int) : Bool := Mc.all (fun m => !(m.1 == g.1) || (!(m.2 == 999) && (match sx_cn g.2.2.1 with
  | some c => !(decide ((m.2 : Int) = c))
  | none => false)))
def sx_kp (su : List (Nat × Nat)) (Mc : List (Nat × Nat)) : Bool := su.all (fun q => Mc.all (fun m => !(m.1 == q.1) || (!(m.2 == 999) && (!(q.2 == 999) && !(m.2 == q.2)))))
def sx_kept (Y : sx_Y) (Mc : List (Nat × Nat)) (G : sx_Gt) : sx_Gt := (G.1.filter (sx_kg Mc), G.2.filter (fun q => sx_kp (Y.su q.1) Mc))
theorem sx_kg_ok {Mc : List (Nat × Nat)} {g : Nat × List Int × List Int × List Int} (r : List Int) (h : sx_kg Mc g = true) : sx_in Mc g.1 (sx_ev g.2.2.1 r) = false := by
  cases h' : sx_in Mc g.1 (sx_ev g.2.2.1 r) with
  | false => rfl
  | true =>
    obtain ⟨m, hm, e⟩ := List.any_eq_true.mp h'
    have h0 := List.all_eq_true.mp h m hm
    simp only [Bool.and_eq_true, Bool.or_eq_true, beq_iff_eq, decide_eq_true_eq] at e
    rw [Bool.or_eq_true] at h0
    rcases h0 with h0 | h0
    · rw [e.1] at h0
      simp at h0
    · rw [Bool.and_eq_true] at h0
      obtain ⟨a1, a2⟩ := h0
      rcases e.2 with e2 | e2
      · rw [e2] at a1
        simp at a1
      · split at a2
        · next c hc =>
          rw [sx_cn_ok hc r] at e2
          simp [e2] at a2
        · cases a2
theorem sx_kp_ok {su Mc : List (Nat × Nat)} (h : sx_kp su Mc = true) {k : Nat} {f : Int} (hi : sx_in su k f = true) : sx_in Mc k f = false := by
  cases h' : sx_in Mc k f with
  | false => rfl
  | true =>
    obtain ⟨q, hq, e⟩ := List.any_eq_true.mp hi
    obtain ⟨m, hm, e'⟩ := List.any_eq_true.mp h'
    have h0 := List.all_eq_true.mp (List.all_eq_true.mp h q hq) m hm
    simp only [Bool.and_eq_true, Bool.or_eq_true, beq_iff_eq, decide_eq_true_eq, Bool.not_eq_true', beq_eq_false_iff_ne, ne_eq] at e e' h0
    omega
theorem sx_gr.kept {Y : sx_Y} {r : List Int} {Mc : List (Nat × Nat)} {h0 h1 : sx_H} {G : sx_Gt} (h : sx_gr Y r h0 G) (hf : sx_fr Mc h0 h1) : sx_gr Y r h1 (sx_kept Y Mc G) := by
  constructor
  · intro g hg
    obtain ⟨hg, hm⟩ := List.mem_filter.mp hg
    rw [hf _ _ _ (sx_kg_ok r hm)]
    exact h.1 g hg
  · intro q hq
    obtain ⟨hq, hm⟩ := List.mem_filter.mp hq
    exact Y.ok _ _ _ _ (fun k i f hi => hf _ _ _ (sx_kp_ok hm hi)) (h.2 q hq)
