/-! The second machine's steps: what touches cells -/
section SXTR
variable {kd : List (Nat × Nat)} {ad : List Nat} {t : sx_T} {c z v : Int} {x : Value}
theorem sx_tr.int (h : sx_tr kd ad t c z v x) (ht : t.1 = 0) : ∃ i : Int32, x = .int i ∧ i.toInt = v ∧ t.2.2.1 ≤ v ∧ v ≤ t.2.2.2 := by
  rcases h with ⟨-, h⟩ | ⟨h, -⟩ | ⟨h, -⟩ | ⟨h, -⟩ | ⟨h, -⟩
  · exact h
  all_goals omega
theorem sx_tr.long (h : sx_tr kd ad t c z v x) (ht : t.1 = 1) : ∃ j : Int64, x = .long j := by
  rcases h with ⟨h, -⟩ | ⟨-, h⟩ | ⟨h, -⟩ | ⟨h, -⟩ | ⟨h, -⟩
  case inr.inl => exact h
  all_goals omega
theorem sx_tr.rf (h : sx_tr kd ad t c z v x) (ht : t.1 = 2) : sx_rf kd ad t.2.1 v x ∧ t.2.2.1 ≤ v ∧ v ≤ t.2.2.2 := by
  rcases h with ⟨h, -⟩ | ⟨h, -⟩ | ⟨-, h⟩ | ⟨h, -⟩ | ⟨h, -⟩
  case inr.inr.inl => exact h
  all_goals omega
theorem sx_tr.rfx (h : sx_tr kd ad t c z v x) (ht : t.1 = 3) : sx_rf kd ad t.2.1 v x ∧ v = t.2.2.1 + t.2.2.2 * c + z := by
  rcases h with ⟨h, -⟩ | ⟨h, -⟩ | ⟨h, -⟩ | ⟨-, h⟩ | ⟨h, -⟩
  case inr.inr.inr.inl => exact h
  all_goals omega
theorem sx_tr.intx (h : sx_tr kd ad t c z v x) (ht : t.1 = 4) : ∃ i : Int32, x = .int i ∧ i.toInt = v ∧ v = t.2.2.1 + t.2.2.2 * c := by
  rcases h with ⟨h, -⟩ | ⟨h, -⟩ | ⟨h, -⟩ | ⟨h, -⟩ | ⟨-, h⟩
  case inr.inr.inr.inr => exact h
  all_goals omega
end SXTR
section SXCR
variable {kd : List (Nat × Nat)} {ad : List Nat} {dA : Nat → ClassId} {K : sx_K} {E : va_E} {c : Int} {h : Int → Int}
theorem sx_cr.obj (g : sx_cr kd ad dA K c h E) (hK : K.1 = 0) : ∃ fs : List Value, E = .inr (K.2.1, fs) ∧ fs.length = K.2.2.2.length ∧ ∀ (j : Nat) (t : sx_T), K.2.2.2[j]? = some t → ∃ x, fs[j]? = some x ∧ sx_tr kd ad t c 0 (h j) x := by
  rcases g with ⟨-, g⟩ | ⟨g, -⟩ | ⟨g, -⟩ | ⟨g, -⟩
  · exact g
  all_goals omega
theorem sx_cr.refs (g : sx_cr kd ad dA K c h E) (hK : K.1 = 1) : ∃ f : Nat → Option Nat, E = .inl (dA K.2.1, K.2.2.1, .inr (.inr (.inr (.inr f)))) ∧ ∀ t : sx_T, K.2.2.2[0]? = some t → ∀ j : Nat, j < K.2.2.1 → sx_tr kd ad t c j (h j) (va_rf (f j)) := by
  rcases g with ⟨g, -⟩ | ⟨-, g⟩ | ⟨g, -⟩ | ⟨g, -⟩
  case inr.inl => exact g
  all_goals omega
theorem sx_cr.ints (g : sx_cr kd ad dA K c h E) (hK : K.1 = 2) : ∃ f : Nat → Int32, E = .inl (dA K.2.1, K.2.2.1, .inl f) ∧ ∀ t : sx_T, K.2.2.2[0]? = some t → ∀ j : Nat, (f j).toInt = h j ∧ t.2.2.1 ≤ (f j).toInt ∧ (f j).toInt ≤ t.2.2.2 := by
  rcases g with ⟨g, -⟩ | ⟨g, -⟩ | ⟨-, g⟩ | ⟨g, -⟩
  case inr.inr.inl => exact g
  all_goals omega
theorem sx_cr.longs (g : sx_cr kd ad dA K c h E) (hK : K.1 = 3) : ∃ f : Nat → Int64, E = .inl (dA K.2.1, K.2.2.1, .inr (.inl f)) := by
  rcases g with ⟨g, -⟩ | ⟨g, -⟩ | ⟨g, -⟩ | ⟨-, g⟩
  case inr.inr.inr => exact g
  all_goals omega
theorem sx_cr.ofints {f : Nat → Int32} (hK : K.1 = 2) (g : ∀ t : sx_T, K.2.2.2[0]? = some t → ∀ j : Nat, (f j).toInt = h j ∧ t.2.2.1 ≤ (f j).toInt ∧ (f j).toInt ≤ t.2.2.2) : sx_cr kd ad dA K c h (.inl (dA K.2.1, K.2.2.1, .inl f)) := Or.inr (Or.inr (Or.inl ⟨hK, f, rfl, g⟩))
theorem sx_cr.oflongs {f : Nat → Int64} (hK : K.1 = 3) : sx_cr kd ad dA K c h (.inl (dA K.2.1, K.2.2.1, .inr (.inl f))) := Or.inr (Or.inr (Or.inr ⟨hK, f, rfl⟩))
/-- a field is written -/
theorem sx_cr.put {a ci : Nat} {t : sx_T} {fs : List Value} {x : Value} {v : Int} (hK : K.1 = 0) (hc : K.2.1 = ci) (hl : fs.length = K.2.2.2.length) (hf : ∀ (j : Nat) (t : sx_T), K.2.2.2[j]? = some t → ∃ x, fs[j]? = some x ∧ sx_tr kd ad t c 0 (h j) x) (ht : K.2.2.2[a]? = some t) (hx : sx_tr kd ad t c 0 v x) : sx_cr kd ad dA K c (fun f => if f = (a : Int) then v else h f) (.inr (ci, fs.set a x)) := by
  refine Or.inl ⟨hK, fs.set a x, by rw [hc], by rw [List.length_set]; exact hl, fun j t' hj => ?_⟩
  by_cases hja : a = j
  · subst hja
    rw [ht] at hj
    obtain rfl := Option.some.inj hj
    exact ⟨x, by rw [List.getElem?_set_self (by rw [hl]; exact (List.getElem?_eq_some_iff.mp ht).1)], by show sx_tr kd ad t c 0 (if ((a : Nat) : Int) = (a : Int) then v else h a) x; rw [if_pos rfl]; exact hx⟩
  · rw [List.getElem?_set_ne hja]
    obtain ⟨x', q1, q2⟩ := hf j t' hj
    exact ⟨x', q1, by show sx_tr kd ad t' c 0 (if ((j : Nat) : Int) = (a : Int) then v else h j) x'; rw [if_neg (by omega)]; exact q2⟩
theorem sx_cr.putl {a ci : Nat} {t : sx_T} {fs : List Value} {x : Value} (hK : K.1 = 0) (hc : K.2.1 = ci) (hl : fs.length = K.2.2.2.length) (hf : ∀ (j : Nat) (t : sx_T), K.2.2.2[j]? = some t → ∃ x, fs[j]? = some x ∧ sx_tr kd ad t c 0 (h j) x) (ht : K.2.2.2[a]? = some t) (h1 : t.1 = 1) (hx : ∃ j : Int64, x = .long j) : sx_cr kd ad dA K c h (.inr (ci, fs.set a x)) := by
  refine Or.inl ⟨hK, fs.set a x, by rw [hc], by rw [List.length_set]; exact hl, fun j t' hj => ?_⟩
  by_cases hja : a = j
  · subst hja
    rw [ht] at hj
    obtain rfl := Option.some.inj hj
    exact ⟨x, by rw [List.getElem?_set_self (by rw [hl]; exact (List.getElem?_eq_some_iff.mp ht).1)], Or.inr (Or.inl ⟨h1, hx⟩)⟩
  · rw [List.getElem?_set_ne hja]
    exact hf j t' hj
end SXCR
def sx_ty (T : List sx_K) (k ci a : Nat) : Option sx_T := match T[k]? with
  | some (0, c, _, ts) => if c = ci then ts[a]? else none
  | _ => none
theorem sx_ty_r {T : List sx_K} {k ci a : Nat} {t : sx_T} (h : sx_ty T k ci a = some t) : ∃ (K : sx_K) (ts : List sx_T), T[k]? = some K ∧ K.1 = 0 ∧ K.2.1 = ci ∧ K.2.2.2[a]? = some t := by
  unfold sx_ty at h
  split at h
  · next c z ts hK =>
    split at h
    · next hc => exact ⟨_, ts, hK, rfl, hc, h⟩
    · cases h
  · cases h
/-- a known value -/
def sx_gf : List (Nat × List Int × List Int × List Int) → Nat → List Int → List Int → Option (List Int)
  | [], _, _, _ => none
  | g :: G, k, i, f => if g.1 = k ∧ sx_eq g.2.1 i = true ∧ sx_eq g.2.2.1 f = true then some g.2.2.2 else sx_gf G k i f
theorem sx_gf_ok {hh : sx_H} {r : List Int} : ∀ {G : List (Nat × List Int × List Int × List Int)} {k : Nat} {i f v : List Int}, (∀ g ∈ G, hh g.1 (sx_ev g.2.1 r) (sx_ev g.2.2.1 r) = sx_ev g.2.2.2 r) → sx_gf G k i f = some v → hh k (sx_ev i r) (sx_ev f r) = sx_ev v r
  | [], _, _, _, _, _, h => by cases h
  | g :: G, k, i, f, v, hG, h => by
    unfold sx_gf at h
    split at h
    · next hg =>
      obtain rfl := Option.some.inj h
      have := hG g List.mem_cons_self
      rw [hg.1, sx_eq_ok r hg.2.1, sx_eq_ok r hg.2.2] at this
      exact this
    · exact sx_gf_ok (fun g' hg' => hG g' (List.mem_cons_of_mem _ hg')) h
/-- two forms are surely two numbers -/
def sx_df (a b : List Int) : Bool := match sx_cn (sx_sub a b) with
  | some c => !(decide (c = 0))
  | none => false
theorem sx_df_ok {a b : List Int} (r : List Int) (h : sx_df a b = true) : sx_ev a r ≠ sx_ev b r := by
  unfold sx_df at h
  split at h
  · next c hc =>
    have := sx_cn_ok hc r
    rw [sx_ev_sub] at this
    intro e
    have : c = 0 := by omega
    simp [this] at h
  · cases h
/-- what stays known over a write, and what comes -/
def sx_kw (Y : sx_Y) (G : List (Nat × List Int × List Int × List Int)) (w : sx_Wt) : List (Nat × List Int × List Int × List Int) := if w.1 = 1 then (if Y.tk.contains w.2.1 then [(w.2.1, w.2.2.1, w.2.2.2.1, w.2.2.2.2)] else []) ++ G.filter (fun g => !(g.1 == w.2.1) || (sx_df g.2.1 w.2.2.1 || sx_df g.2.2.1 w.2.2.2.1)) else if w.1 = 2 then G.filter (fun g => !(g.1 == w.2.1) || sx_df g.2.1 w.2.2.1) else G
theorem sx_kw_ok {Y : sx_Y} {r : List Int} {hh hh' : sx_H} {G : List (Nat × List Int × List Int × List Int)} {w : sx_Wt} (hw : sx_wl r hh hh' w) (hG : ∀ g ∈ G, hh g.1 (sx_ev g.2.1 r) (sx_ev g.2.2.1 r) = sx_ev g.2.2.2 r) : ∀ g ∈ sx_kw Y G w, hh' g.1 (sx_ev g.2.1 r) (sx_ev g.2.2.1 r) = sx_ev g.2.2.2 r := by
  intro g hg
  unfold sx_kw at hg
  rcases hw with ⟨h0, rfl⟩ | ⟨h0, rfl⟩ | ⟨h0, g9, rfl⟩
  · rw [if_neg (by omega), if_neg (by omega)] at hg
    exact hG g hg
  · rw [if_pos h0] at hg
    rcases List.mem_append.mp hg with hg | hg
    · split at hg
      · rw [List.mem_singleton.mp hg]
        show sx_up hh w.2.1 (sx_ev w.2.2.1 r) _ w.2.1 (sx_ev w.2.2.1 r) (sx_ev w.2.2.2.1 r) = _
        rw [sx_up_s, if_pos rfl]
      · cases hg
    · obtain ⟨hg, hn⟩ := List.mem_filter.mp hg
      by_cases e : g.1 = w.2.1 ∧ sx_ev g.2.1 r = sx_ev w.2.2.1 r
      · have h9 := hG g hg
        rw [e.1, e.2] at h9 ⊢
        rw [sx_up_s]
        rw [e.1] at hn
        simp only [beq_self_eq_true, Bool.not_true, Bool.false_or, Bool.or_eq_true] at hn
        rcases hn with hn | hn
        · exact absurd e.2 (sx_df_ok r hn)
        · rw [if_neg (sx_df_ok r hn)]
          exact h9
      · rw [sx_up_n e]
        exact hG g hg
  · rw [if_neg (by omega), if_pos h0] at hg
    obtain ⟨hg, hn⟩ := List.mem_filter.mp hg
    rw [sx_up_n (fun e => ?_)]
    · exact hG g hg
    · rw [e.1] at hn
      simp only [beq_self_eq_true, Bool.not_true, Bool.false_or] at hn
      exact sx_df_ok r hn e.2
/-- a predicate that does not look at what is written -/
def sx_pk (su : List (Nat × Nat)) (k fc : Nat) : Bool := su.all (fun q => !(q.1 == k) || (!(fc == 999) && (!(q.2 == 999) && !(q.2 == fc))))
theorem sx_pk_ok {su : List (Nat × Nat)} {k fc : Nat} (h : sx_pk su k fc = true) {k' : Nat} {f : Int} (hi : sx_in su k' f = true) : k' = k → fc ≠ 999 ∧ f ≠ (fc : Int) := by
  intro e
  subst e
  obtain ⟨q, hq, e⟩ := List.any_eq_true.mp hi
  have h0 := List.all_eq_true.mp h q hq
  simp only [Bool.and_eq_true, Bool.or_eq_true, beq_iff_eq, decide_eq_true_eq, Bool.not_eq_true', beq_eq_false_iff_ne, ne_eq] at e h0
  omega
/-- what is told of fc beside the write -/
def sx_wfc (r : List Int) (w : sx_Wt) (fc : Nat) : Prop := (w.1 = 1 ∧ sx_ev w.2.2.2.1 r = (fc : Int) ∧ fc ≠ 999) ∨ fc = 999
theorem sx_pk_wl {Y : sx_Y} {r : List Int} {hh hh' : sx_H} {w : sx_Wt} {fc id : Nat} {a : List Int} (hw : sx_wl r hh hh' w) (hfc : sx_wfc r w fc) (h0 : w.1 ≠ 0 ∨ True) (hk : sx_pk (Y.su id) w.2.1 fc = true) (hp : Y.pr id a hh) : Y.pr id a hh' := by
  refine Y.ok id a hh hh' (fun k i f hi => ?_) hp
  have hq := sx_pk_ok hk hi
  rcases hw with ⟨h0, rfl⟩ | ⟨h0, rfl⟩ | ⟨h0, g9, rfl⟩
  · rfl
  · by_cases e : k = w.2.1 ∧ i = sx_ev w.2.2.1 r
    · obtain ⟨q1, q2⟩ := hq e.1
      rw [e.1, e.2, sx_up_s]
      rcases hfc with ⟨-, c1, -⟩ | c1
      · rw [if_neg (by rw [c1]; exact q2)]
      · exact absurd c1 q1
    · rw [sx_up_n e]
  · by_cases e : k = w.2.1 ∧ i = sx_ev w.2.2.1 r
    · obtain ⟨q1, q2⟩ := hq e.1
      rcases hfc with ⟨c0, -⟩ | c1
      · omega
      · exact absurd c1 q1
    · rw [sx_up_n e]
/-- known things of another's, found among ours -/
def sx_gm (ss : List (List Int)) (G PG : sx_Gt) : Bool := PG.1.all (fun q => match sx_gf G.1 q.1 (sx_st q.2.1 ss) (sx_st q.2.2.1 ss) with
  | some g => sx_eq (sx_st q.2.2.2 ss) g
  | none => false) && PG.2.all (fun q => G.2.any (fun p => p.1 == q.1 && (decide (p.2.length = q.2.length) && (List.zip p.2 q.2).all (fun x => sx_eq x.1 (sx_st x.2 ss)))))
theorem sx_zipm {r : List Int} {ss : List (List Int)} : ∀ {ps qs : List (List Int)}, ps.length = qs.length → (List.zip ps qs).all (fun x => sx_eq x.1 (sx_st x.2 ss)) = true → ps.map (sx_ev · r) = qs.map (sx_ev · (ss.map (sx_ev · r)))
  | [], [], _, _ => rfl
  | p :: ps, q :: qs, hl, h => by
    rw [List.zip_cons_cons, List.all_cons, Bool.and_eq_true] at h
    rw [List.map_cons, List.map_cons, sx_zipm (by simpa using hl) h.2, sx_eq_ok r h.1, sx_st_ok]
  | [], _ :: _, hl, _ => by simp at hl
  | _ :: _, [], hl, _ => by simp at hl
theorem sx_gm_ok {Y : sx_Y} {r : List Int} {ss : List (List Int)} {G PG : sx_Gt} {hh : sx_H} (h : sx_gm ss G PG = true) (hg : sx_gr Y r hh G) : sx_gr Y (ss.map (sx_ev · r)) hh PG := by
  unfold sx_gm at h
  rw [Bool.and_eq_true] at h
  constructor
  · intro q hq
    have h0 := List.all_eq_true.mp h.1 q hq
    split at h0
    · next g hgf =>
      have h1 := sx_gf_ok hg.1 hgf
      have h2 := sx_eq_ok r h0
      rw [sx_st_ok] at h2
      rw [sx_st_ok, sx_st_ok] at h1
      rw [h1, h2]
    · cases h0
  · intro q hq
    have h0 := List.all_eq_true.mp h.2 q hq
    obtain ⟨p, hp, e⟩ := List.any_eq_true.mp h0
    simp only [Bool.and_eq_true, decide_eq_true_eq, beq_iff_eq] at e
    have h1 := hg.2 p hp
    rw [sx_zipm e.2.1 e.2.2, e.1] at h1
    exact h1
/-- the sums that say that forms keep bounds -/
def sx_bf : List (Int × Int) → List (List Int) → List (List Int)
  | q :: B, f :: fs => sx_sub f [q.1] :: sx_sub [q.2] f :: sx_bf B fs
  | [], [] => []
  | _, _ => [[-1]]
theorem sx_bf_ok {r : List Int} : ∀ {B : List (Int × Int)} {fs : List (List Int)}, sx_fs (sx_bf B fs) r → sx_b B (fs.map (sx_ev · r))
  | [], [], _ => trivial
  | q :: B, f :: fs, h => by
    have a1 := h _ List.mem_cons_self
    have a2 := h _ (List.mem_cons_of_mem _ List.mem_cons_self)
    rw [sx_ev_sub, sx_ev_c] at a1 a2
    exact ⟨by show q.1 ≤ sx_ev f r; omega, by show sx_ev f r ≤ q.2; omega, sx_bf_ok (fun g hg => h g (List.mem_cons_of_mem _ (List.mem_cons_of_mem _ hg)))⟩
  | [], f :: fs, h => by
    have a := h [-1] (by simp [sx_bf])
    rw [sx_ev_c] at a
    omega
  | q :: B, [], h => by
    have a := h [-1] (by simp [sx_bf])
    rw [sx_ev_c] at a
    omega
theorem sx_fst_ok {r : List Int} {ss : List (List Int)} {F : List (List Int)} (h : sx_fs (F.map (sx_st · ss)) r) : sx_fs F (ss.map (sx_ev · r)) := fun f hf => by
  have := h _ (List.mem_map.mpr ⟨f, hf, rfl⟩)
  rwa [sx_st_ok] at this
/-- the write of a rule is this one -/
def sx_wm (ss : List (List Int)) (u w : sx_Wt) : Bool := decide (u.1 = w.1) && (decide (w.1 = 0) || (decide (u.2.1 = w.2.1) && (sx_eq (sx_st u.2.2.1 ss) w.2.2.1 && (decide (w.1 = 2) || (sx_eq (sx_st u.2.2.2.1 ss) w.2.2.2.1 && sx_eq (sx_st u.2.2.2.2 ss) w.2.2.2.2)))))
theorem sx_wm_ok {r : List Int} {ss : List (List Int)} {u w : sx_Wt} {hh hh' : sx_H} (h : sx_wm ss u w = true) (hw : sx_wl r hh hh' w) : sx_wl (ss.map (sx_ev · r)) hh hh' u := by
  unfold sx_wm at h
  simp only [Bool.and_eq_true, Bool.or_eq_true, decide_eq_true_eq] at h
  obtain ⟨h0, h1⟩ := h
  rcases hw with ⟨w0, rfl⟩ | ⟨w0, rfl⟩ | ⟨w0, g, rfl⟩
  · exact Or.inl ⟨h0.trans w0, rfl⟩
  · rcases h1 with h1 | ⟨h1, h2, h3⟩
    · omega
    · rcases h3 with h3 | ⟨h3, h4⟩
      · omega
      · have e1 := sx_eq_ok r h2
        have e2 := sx_eq_ok r h3
        have e3 := sx_eq_ok r h4
        rw [sx_st_ok] at e1 e2 e3
        exact Or.inr (Or.inl ⟨h0.trans w0, by rw [h1, e1, e2, e3]⟩)
  · rcases h1 with h1 | ⟨h1, h2, h3⟩
    · omega
    · have e1 := sx_eq_ok r h2
      rw [sx_st_ok] at e1
      exact Or.inr (Or.inr ⟨h0.trans w0, g, by rw [h1, e1]⟩)
/-- rules, one after the other: each hint has the rule's number and its numbers as forms; a number below 0 ends -/
def sx_rs (Y : sx_Y) (w : sx_Wt) (B : List (Int × Int)) (F : List (List Int)) (G : sx_Gt) : Nat → List (List (List Int)) → Option (List (List Int) × List (Nat × List (List Int)) × List (List (List Int)))
  | 0, _ => none
  | m + 1, ([n] :: ss) :: hs => if n < 0 then some ([], [], hs) else (match Y.ru[n.toNat]? with
    | some u => if sx_wm ss u.2.2.2.1 w = true ∧ sx_gm ss G u.2.2.1 = true then (match sx_posA B F (sx_bf u.1 ss ++ u.2.1.map (sx_st · ss)) hs with
      | some hs1 => (match sx_rs Y w B F G m hs1 with
        | some (fs, ps, hs2) => some (u.2.2.2.2.1.map (sx_st · ss) ++ fs, u.2.2.2.2.2.map (fun q => (q.1, q.2.map (sx_st · ss))) ++ ps, hs2)
        | none => none)
      | none => none) else none
    | none => none)
  | _ + 1, _ => none
theorem sx_rs_ok {Y : sx_Y} {w : sx_Wt} {B : List (Int × Int)} {F : List (List Int)} {G : sx_Gt} {r : List Int} {hh hh' : sx_H} (h1 : sx_b B r) (h2 : sx_fs F r) (h3 : sx_gr Y r hh G) (hw : sx_wl r hh hh' w) : ∀ (m : Nat) (hs hs' : List (List (List Int))) (fs : List (List Int)) (ps : List (Nat × List (List Int))), sx_rs Y w B F G m hs = some (fs, ps, hs') → sx_fs fs r ∧ ∀ q ∈ ps, Y.pr q.1 (q.2.map (sx_ev · r)) hh' := by
  intro m
  induction m with
  | zero => intro hs hs' fs ps h; cases h
  | succ m ih =>
    intro hs hs' fs ps h
    unfold sx_rs at h
    split at h
    · cases h
    · next m9 n ss hs9 em =>
      obtain rfl : m = m9 := Nat.succ.inj em
      split at h
      · have e9 := Option.some.inj h
        obtain ⟨e1, e2⟩ := Prod.mk.inj e9
        obtain ⟨e3, -⟩ := Prod.mk.inj e2
        rw [← e1, ← e3]
        exact ⟨fun _ h => (by cases h), fun _ h => (by cases h)⟩
      · split at h
        · next u hu =>
          split at h
          · next hc =>
            split at h
            · next hs1 hp =>
              split at h
              · next fs1 ps1 hs2 hr =>
                have e9 := Option.some.inj h
                obtain ⟨e1, e2⟩ := Prod.mk.inj e9
                obtain ⟨e3, -⟩ := Prod.mk.inj e2
                rw [← e1, ← e3]
                obtain ⟨i1, i2⟩ := ih _ _ _ _ hr
                have hP := sx_posA_ok h1 h2 _ _ _ hp
                obtain ⟨g1, g2⟩ := sx_gm_ok hc.2 h3
                obtain ⟨k1, k2⟩ := Y.rok u (List.mem_of_getElem? hu) (ss.map (sx_ev · r)) hh hh' (sx_bf_ok (fun f hf => hP f (List.mem_append_left _ hf))) (sx_fst_ok (fun f hf => hP f (List.mem_append_right _ hf))) g1 g2 (sx_wm_ok hc.1 hw)
                constructor
                · intro f hf
                  rcases List.mem_append.mp hf with hf | hf
                  · obtain ⟨f0, hf0, rfl⟩ := List.mem_map.mp hf
                    show 0 ≤ sx_ev (sx_st f0 ss) r
                    rw [sx_st_ok]
                    exact k1 f0 hf0
                  · exact i1 f hf
                · intro q hq
                  rcases List.mem_append.mp hq with hq | hq
                  · obtain ⟨q0, hq0, rfl⟩ := List.mem_map.mp hq
                    have := k2 q0 hq0
                    show Y.pr q0.1 ((q0.2.map (sx_st · ss)).map (sx_ev · r)) hh'
                    rw [List.map_map]
                    have e : (List.map ((fun x => sx_ev x r) ∘ fun x => sx_st x ss) q0.2) = q0.2.map (sx_ev · (ss.map (sx_ev · r))) := List.map_congr_left (fun f _ => sx_st_ok r f ss)
                    rw [e]
                    exact this
                  · exact i2 q hq
              · cases h
            · cases h
          · cases h
        · cases h
    · cases h
/-- what a field takes -/
def sx_fk (Ct : List ev_Ct) (b a : Nat) (lo hi : Int) : Bool := match Ct[b]? with
  | some q => (match q.2.1 a with
    | .int => true
    | .boolean => decide (0 ≤ lo ∧ hi ≤ 1)
    | _ => false)
  | none => false
theorem sx_fk_ok {Ct : List ev_Ct} {b a : Nat} {lo hi : Int} {q : ev_Ct} {i : Int32} (hC : Ct[b]? = some q) (h : sx_fk Ct b a lo hi = true) (h1 : lo ≤ i.toInt) (h2 : i.toInt ≤ hi) : narrow (q.2.1 a) (.int i) = .int i ∧ fits (q.2.1 a) (.int i) = true := by
  unfold sx_fk at h
  rw [hC] at h
  dsimp only at h
  split at h
  · next hq => rw [hq]; exact ⟨rfl, rfl⟩
  · next hq =>
    have h := of_decide_eq_true h
    have s1 := ev_sx_eq i
    rw [hq]
    exact ev_fit_ok (ty := .boolean) (v := (0, 2147483648, 2147483649)) (by decide) (ad := []) (ev_vr.it rfl ⟨by show 2147483648 ≤ _; omega, by show _ ≤ 2147483649; omega⟩)
  · cases h
def sx_fl (Ct : List ev_Ct) (b a : Nat) : Bool := match Ct[b]? with
  | some q => (match q.2.1 a with
    | .long => true
    | _ => false)
  | none => false
theorem sx_fl_ok {Ct : List ev_Ct} {b a : Nat} {q : ev_Ct} {i : Int64} (hC : Ct[b]? = some q) (h : sx_fl Ct b a = true) : narrow (q.2.1 a) (.long i) = .long i ∧ fits (q.2.1 a) (.long i) = true := by
  unfold sx_fl at h
  rw [hC] at h
  dsimp only at h
  split at h
  · next hq => rw [hq]; exact ⟨rfl, rfl⟩
  · cases h
def sx_fo (Ct : List ev_Ct) (b a : Nat) : Bool := match Ct[b]? with
  | some q => (match q.2.1 a with
    | .object _ => true
    | .array _ => true
    | _ => false)
  | none => false
theorem sx_fo_ok {Ct : List ev_Ct} {b a a0 : Nat} {q : ev_Ct} (hC : Ct[b]? = some q) (h : sx_fo Ct b a = true) : narrow (q.2.1 a) (.ref a0) = .ref a0 ∧ fits (q.2.1 a) (.ref a0) = true := by
  unfold sx_fo at h
  rw [hC] at h
  dsimp only at h
  split at h
  · next hq => rw [hq]; exact ⟨rfl, rfl⟩
  · next hq => rw [hq]; exact ⟨rfl, rfl⟩
  · cases h
theorem sx_nat {i : Int32} (h : 0 ≤ i.toInt) : ¬ i < 0 ∧ (i.toNatClampNeg : Int) = i.toInt := by
  have m0 : (0 : Int32).toInt = 0 := by decide +kernel
  refine ⟨fun q => ?_, ?_⟩
  · have := Int32.lt_iff_toInt_lt.mp q
    omega
  · rw [Int32.toNatClampNeg]
    omega
theorem sx_nb (v : Int32) {lo hi : Int} (h : lo ≤ -128 ∧ 127 ≤ hi) : lo ≤ (vp_nar .byte v).toInt ∧ (vp_nar .byte v).toInt ≤ hi := by
  have h1 := Int8.le_toInt v.toInt8
  have h2 := Int8.toInt_lt v.toInt8
  show lo ≤ (v.toInt8.toInt32).toInt ∧ (v.toInt8.toInt32).toInt ≤ hi
  rw [Int8.toInt_toInt32]
  omega
theorem sx_nz (v : Int32) {lo hi : Int} (h : lo ≤ 0 ∧ 1 ≤ hi) : lo ≤ (vp_nar .boolean v).toInt ∧ (vp_nar .boolean v).toInt ≤ hi := by
  have h1 := ev_zo_in v
  have s1 := ev_sx_eq (vp_nar .boolean v)
  obtain ⟨a, b⟩ := h1
  have a : 2147483648 ≤ ev_sx (vp_nar .boolean v) := a
  have b : ev_sx (vp_nar .boolean v) ≤ 2147483649 := b
  omega
theorem sx_cfit {t : Nat} {lo hi : Int} (h0 : t = 0 → -128 ≤ lo ∧ hi ≤ 127) (h1 : t ≤ 1) {i : Int32} (hi9 : lo ≤ i.toInt ∧ i.toInt ≤ hi) : fits (ev_ty t) (.int i) = true := by
  have s1 := ev_sx_eq i
  rcases (show t = 0 ∨ t = 1 by omega) with rfl | rfl
  · have := h0 rfl
    exact ev_cfit_r (ty := .byte) (b := (0, 2147483520, 2147483775)) (by decide) ⟨by show 2147483520 ≤ _; omega, by show _ ≤ 2147483775; omega⟩
  · rfl
theorem sx_nb_id (v : Int32) (h1 : -128 ≤ v.toInt) (h2 : v.toInt ≤ 127) : vp_nar .byte v = v := by
  apply Int32.toInt_inj.mp
  show (v.toInt8.toInt32).toInt = v.toInt
  rw [Int8.toInt_toInt32, Int32.toInt_toInt8]
  exact Int.bmod_eq_of_le (by omega) (by omega)
theorem sx_nz_id (v : Int32) (h1 : 0 ≤ v.toInt) (h2 : v.toInt ≤ 1) : vp_nar .boolean v = v := by
  have hv : v = 0 ∨ v = 1 := by
    rcases (show v.toInt = 0 ∨ v.toInt = 1 by omega) with e | e
    · exact Or.inl (Int32.toInt_inj.mp (by rw [e]; rfl))
    · exact Or.inr (Int32.toInt_inj.mp (by rw [e]; rfl))
  rcases hv with rfl | rfl <;> decide +kernel
section SXH
variable {p : Program} {l : Launch} {e : Env} {R : Room} {s : State} {m : MethodId} {args : Array Value} {below : List Frame} {meth : Method} {c : Code} {Q : State → Prop}
variable {D : va_G} {cl : List vw_C} {dA : Nat → ClassId} {kt : List FieldType} {A : Nat → Prop} {hh0 : sx_H} {Gs : List Cond} {own : String} {cc : ByteArray} {nL : Nat} {cd : ev_Cd}
variable {T : List sx_K} {kd : List (Nat × Nat)} {ad : List Nat} {Md : List (Nat × Nat)} {tt : List (String × String × String × Nat)} {Y : sx_Y} {r : List Int}
variable {ix : Nat} {L : List (Nat × (Nat × Nat × List Int))} {S S1 : List (Nat × Nat × List Int)} {B : List (Int × Int)} {F : List (List Int)} {G : sx_Gt} {hs hs' : List (List (List Int))} {out : List sx_S}
variable {Gc : List (List Cond)} {Ct : List ev_Ct} {Pg : List ev_Mt} {sm : ev_Sm} {nm : String} {ret : Option FieldType} {i : ev_I} {st : sx_S}
/-- the first n longs of a table come to the front of an array -/
theorem sx_tcopyl (X : ev_X p s m args c D cl dA kt A Gs own cc nL) {idx kd k1 a t N n n1 pc : Nat} {f g : Nat → Int64} {H : Heap} {locs : List Loc} {ls : Array Slot} {rest : List Value} {ws : va_W} (hkt : kt[kd]? = some .long) (hlk : Cond.methodLink own idx arraycopyName ∈ Gs) (hnat : Cond.native arraycopyName ∈ Gs) (hst : Cond.static arraycopyName ∈ Gs) (hini : Cond.initialized "java/lang/System" ∈ Gs) (hT : va_T .long t N (fun j => .long (f j)) A s s.heap) (hls : ls.size = nL) (h6 : va_P D cl ws H) (h7 : va_D A ws) (h8 : va_S A s.heap H locs) (hE : ws[k1]? = some (a, .inl (dA kd, n1, .inr (.inl g)))) (hn2 : n < 2147483648) (hN : n ≤ N) (hN1 : n ≤ n1) (hRf : 1 ≤ R.frames) (hRl : (rest.map fun v => v.category).sum + 18 ≤ R.locals) (hd : decode cc pc = .ok (.invokestatic idx, 3))
    (kk : ∀ (H1 : Heap) (locs1 : List Loc), va_P D cl (ws.set k1 (a, .inl (dA kd, n1, .inr (.inl (va_cpy f g 0 0 n))))) H1 → va_D A (ws.set k1 (a, .inl (dA kd, n1, .inr (.inl (va_cpy f g 0 0 n))))) → va_S A s.heap H1 locs1 → W p l e R s m args below meth c H1 locs1 0 0 Q (F0 m (pc + 3) ls rest)) : W p l e R s m args below meth c H locs 0 0 Q (F0 m pc ls (.int (nI n) :: .int 0 :: .ref a :: .int 0 :: .ref t :: rest)) := by
  intro T0 hT0 Y
  obtain ⟨src, t1, t2, t3, t4, -, t5, t6⟩ := hT
  have z0 : (0 : Int32).toNatClampNeg = 0 := by decide +kernel
  have zi : (0 : Int32).toInt = 0 := by decide +kernel
  have zn : (nI n).toNatClampNeg = n := nI_clamp hn2
  have zni : (nI n).toInt = (n : Int) := nI_toInt (by omega)
  have hsrc : H[t]? = some src := by rw [h8.2.1 t (Array.getElem?_eq_some_iff.mp t1).1 t6]; exact t1
  have hdst : H[a]? = some (vp_cell (dA kd) (n1, .inr (.inl g))) := h6 k1 _ hE
  have hlt : a < H.size := (Array.getElem?_eq_some_iff.mp hdst).1
  obtain ⟨u1, kS, u2, cS, u3⟩ := t2
  obtain ⟨-, kD, u4, cD, u5⟩ := (X.2.1.1.2 kd _ (ev_tys_at hkt)).1 n1 (fun j => .long (g j))
  obtain ⟨vm', Y', step⟩ := Y.arraycopy X.1.1 X.1.2.2.2.1 (X.1.2.2.2.2 _ hlk) (X.1.2.2.2.2 _ hnat) (X.1.2.2.2.2 _ hst) (X.1.2.2.2.2 _ hini) (src := t) (dst := a) (cs := src) (cd := vp_cell (dA kd) (n1, .inr (.inl g))) (srcPos := 0) (destPos := 0) (n := nI n) (by rw [hT0]; exact hsrc) (by rw [hT0]; exact hdst) u1 (fun _ h => by cases h) t3 (fun h => by cases h) u2 u4 u3 u5 (by simp [refKind]) (by decide) (by decide) (fun q => by have q := Int32.lt_iff_toInt_lt.mp q; omega)
    (by rw [zi, zni]; omega)
    (by rw [zi, zni]; show ¬ _ > ((arrV (dA kd) n1 (fun j => .long (g j))).slots.size : Int); rw [arrV_size]; omega)
    (fun _ _ i hi => by
      rw [zn] at hi
      have e9 : src.slots.getD ((0 : Int32).toNatClampNeg + i) .null = .long (f i) := by
        rw [z0, Nat.zero_add, Array.getD_eq_getD_getElem?, t5 _ (by omega)]
        rfl
      rw [e9]
      exact ⟨rfl, trivial⟩)
    (g := F0 m pc ls (.int (nI n) :: .int 0 :: .ref a :: .int 0 :: .ref t :: rest)) rfl (by rw [X.1.2.2.1]; exact hls) (rest := rest) rfl (by rw [X.1.2.1]; exact hd) hRf (by show 2 * 0 + _ + (7 + 11) ≤ _; omega)
  have ec : copied src (vp_cell (dA kd) (n1, .inr (.inl g))) 0 0 (nI n) = vp_cell (dA kd) (n1, .inr (.inl (va_cpy f g (0 : Int32).toNatClampNeg (0 : Int32).toNatClampNeg (nI n).toNatClampNeg))) := va_copiedX (fun z : Int64 => Value.long z) src (dA kd) f g t5 (by rw [z0, zn]; omega)
  rw [z0, zn] at ec
  rw [ec] at Y' step
  have other : ∀ q : Nat, q ≠ a → (H.setIfInBounds a (vp_cell (dA kd) (n1, .inr (.inl (va_cpy f g 0 0 n)))))[q]? = H[q]? := fun q hq => by simp [Array.getElem?_setIfInBounds, Ne.symm hq]
  have hsz : (H.setIfInBounds a (vp_cell (dA kd) (n1, .inr (.inl (va_cpy f g 0 0 n))))).size = H.size := by simp
  obtain ⟨t9, b1, b2⟩ := kk (H.setIfInBounds a (vp_cell (dA kd) (n1, .inr (.inl (va_cpy f g 0 0 n))))) _ (h6.set h7 hE (show (H.setIfInBounds a _)[a]? = some _ by simp [Array.getElem?_setIfInBounds, hlt]) other) (h7.set hE) ⟨by rw [hsz]; exact h8.1, fun q g1 g2 => by
      rw [other q (fun e => g2 (by rw [e]; exact h7.2 k1 _ hE))]
      exact h8.2.1 q g1 g2, fun q hq => by
      rcases List.mem_append.mp hq with h | h
      · exact h8.2.2 q h
      · obtain ⟨z, -, hz⟩ := List.mem_map.mp h
        rw [← hz]
        exact h7.2 k1 _ hE⟩ _ (by rw [← hT0]; rfl) Y'
  exact ⟨t9, step t9 b1, b2⟩
/-- a value out of the heap -/
def sx_rdv (Y : sx_Y) (st : sx_S) (S1 : List (Nat × Nat × List Int)) (tg kk k : Nat) (z f : List Int) (lo hi : Int) (hs : List (List (List Int))) : Option (List sx_S × List (List (List Int))) := match sx_gf st.2.2.2.2.2.1 k z f with
  | some v => some ([(st.1 + 1, st.2.1, (tg, kk, v) :: S1, st.2.2.2)], hs)
  | none => if lo = hi then some ([(st.1 + 1, st.2.1, (tg, kk, [lo]) :: S1, st.2.2.2)], hs) else if sx_wf st.2.2.2.1.length st.2.1 S1 st.2.2.2.2.1 st.2.2.2.2.2 = true ∧ z.length ≤ st.2.2.2.1.length + 1 ∧ f.length ≤ st.2.2.2.1.length + 1 then some ([(st.1 + 1, st.2.1, (tg, kk, sx_sy st.2.2.2.1.length) :: S1, st.2.2.2.1 ++ [(lo, hi)], st.2.2.2.2.1, ((if Y.tk.contains k then [(k, z, f, sx_sy st.2.2.2.1.length)] else []) ++ st.2.2.2.2.2.1, st.2.2.2.2.2.2))], hs) else none
theorem sx_rdv_ok {tg kk k9 : Nat} {z f : List Int} {lo hi zf : Int} {xv : Value} (hp : sx_rdv Y (ix, L, S, B, F, G) S1 tg kk k9 z f lo hi hs = some (out, hs')) (k : ∀ t ∈ out, ∀ x1, sx_g p l e R s m args below meth c Q D cl dA T Y kd ad A hh0 Md nL cd t (r ++ x1)) {H : Heap} {locs : List Loc} {ls : Array Slot} {vs : List Value} {lv : List (Nat × Value)} {ws : va_W} {hh : sx_H} (hzf : sx_ev f r = zf) (v1 : lo ≤ hh k9 (sx_ev z r) zf) (v2 : hh k9 (sx_ev z r) zf ≤ hi) (mk : ∀ (r9 f9 : List Int), sx_ev f9 r9 = hh k9 (sx_ev z r) zf → sx_vr r9 kd ad (tg, kk, f9) xv) {pc : Nat} (hn : ev_pc cd (ix + 1) = pc) (h1 : sx_b B r) (h2 : sx_fs F r) (h3 : sx_gr Y r hh G) (h4 : lv_has ls nL lv) (h5 : sx_lr r kd ad L lv) (h6 : sx_sr r kd ad S1 vs) (h7 : sx_wr T kd ad dA ws hh) (h8 : sx_fr Md hh0 hh) (h9 : va_P D cl ws H) (h10 : va_D A ws) (h11 : va_S A s.heap H locs) : W p l e R s m args below meth c H locs 0 0 Q (F0 m pc ls (xv :: vs)) := by
  unfold sx_rdv at hp
  subst hzf
  split at hp
  · next v hg =>
    have hp := (Prod.mk.inj (Option.some.inj hp)).1
    subst hp
    exact sx_go (sx_k1 k) hn h1 h2 h3 h4 h5 ⟨mk r v (sx_gf_ok h3.1 hg).symm, h6⟩ h7 h8 h9 h10 h11
  · split at hp
    · next he =>
      have hp := (Prod.mk.inj (Option.some.inj hp)).1
      subst hp
      exact sx_go (sx_k1 k) hn h1 h2 h3 h4 h5 ⟨mk r [lo] (by rw [sx_ev_c]; omega), h6⟩ h7 h8 h9 h10 h11
    · split at hp
      · next hw =>
        have hp := (Prod.mk.inj (Option.some.inj hp)).1
        subst hp
        obtain ⟨hw, wz, wf⟩ := hw
        have hl := sx_b_len h1
        have wz : z.length ≤ r.length + 1 := by rw [← hl]; exact wz
        have wf : f.length ≤ r.length + 1 := by rw [← hl]; exact wf
        have k' := k _ (List.mem_singleton.mpr rfl) [hh k9 (sx_ev z r) (sx_ev f r)]
        unfold sx_wf at hw
        simp only [Bool.and_eq_true] at hw
        have e1 : hh k9 (sx_ev z r) (sx_ev f r) = sx_ev (sx_sy B.length) (r ++ [hh k9 (sx_ev z r) (sx_ev f r)]) := (sx_ev_sy (by rw [hl, List.getElem?_append_right (Nat.le_refl _)]; simp)).symm
        have h3' := h3.row (x1 := [hh k9 (sx_ev z r) (sx_ev f r)]) hl hw.2.2.2
        refine sx_go k' hn (sx_b_app h1 (sx_b_one v1 v2)) (h2.row hl hw.2.2.1) ⟨fun q hq => ?_, h3'.2⟩ h4 (h5.row hl hw.1) ⟨mk _ _ e1.symm, h6.row hl hw.2.1⟩ h7 h8 h9 h10 h11
        rcases List.mem_append.mp hq with hq | hq
        · split at hq
          · rw [List.mem_singleton.mp hq]
            show hh k9 (sx_ev z _) (sx_ev f _) = _
            rw [sx_ev_app wz, sx_ev_app wf]
            exact e1
          · cases hq
        · exact h3'.1 q hq
      · cases hp
/-- a write to the heap -/
def sx_wt (Y : sx_Y) (st : sx_S) (S1 : List (Nat × Nat × List Int)) (w : sx_Wt) (fc : Nat) (hs : List (List (List Int))) : Option (List sx_S × List (List (List Int))) := if st.2.2.2.2.2.2.any (fun q => !(sx_pk (Y.su q.1) w.2.1 fc)) then (match sx_rs Y w st.2.2.2.1 st.2.2.2.2.1 st.2.2.2.2.2 12 hs with
  | some (fs, ps, hs1) => some (sx_br (st.1 + 1) st.2.1 S1 st.2.2.2.1 st.2.2.2.2.1 (sx_kw Y st.2.2.2.2.2.1 w, st.2.2.2.2.2.2.filter (fun q => sx_pk (Y.su q.1) w.2.1 fc) ++ ps) fs, hs1)
  | none => none) else some ([(st.1 + 1, st.2.1, S1, st.2.2.2.1, st.2.2.2.2.1, sx_kw Y st.2.2.2.2.2.1 w, st.2.2.2.2.2.2)], hs)
theorem sx_wt_ok {w : sx_Wt} {fc : Nat} (hp : sx_wt Y (ix, L, S, B, F, G) S1 w fc hs = some (out, hs')) (k : ∀ t ∈ out, ∀ x1, sx_g p l e R s m args below meth c Q D cl dA T Y kd ad A hh0 Md nL cd t (r ++ x1)) {H : Heap} {locs : List Loc} {ls : Array Slot} {vs : List Value} {lv : List (Nat × Value)} {ws : va_W} {hh : sx_H} {hh' : sx_H} (hw : (w.1 = 1 ∧ hh' = sx_up hh w.2.1 (sx_ev w.2.2.1 r) (fun f => if f = sx_ev w.2.2.2.1 r then sx_ev w.2.2.2.2 r else hh w.2.1 (sx_ev w.2.2.1 r) f)) ∨ (w.1 = 2 ∧ ∃ g, hh' = sx_up hh w.2.1 (sx_ev w.2.2.1 r) g)) (hfc : sx_wfc r w fc) {pc : Nat} (hn : ev_pc cd (ix + 1) = pc) (h1 : sx_b B r) (h2 : sx_fs F r) (h3 : sx_gr Y r hh G) (h4 : lv_has ls nL lv) (h5 : sx_lr r kd ad L lv) (h6 : sx_sr r kd ad S1 vs) (h7 : sx_wr T kd ad dA ws hh') (h8 : sx_fr Md hh0 hh') (h9 : va_P D cl ws H) (h10 : va_D A ws) (h11 : va_S A s.heap H locs) : W p l e R s m args below meth c H locs 0 0 Q (F0 m pc ls vs) := by
  have hw : sx_wl r hh hh' w := Or.inr hw
  unfold sx_wt at hp
  split at hp
  · split at hp
    · next fs ps hs1 hr =>
      have hp := (Prod.mk.inj (Option.some.inj hp)).1
      subst hp
      obtain ⟨r1, r2⟩ := sx_rs_ok h1 h2 h3 hw _ _ _ _ _ hr
      refine sx_br_ok (fun t ht => sx_kz (k t ht)) r1 hn h1 h2 ⟨sx_kw_ok hw h3.1, fun q hq => ?_⟩ h4 h5 h6 h7 h8 h9 h10 h11
      rcases List.mem_append.mp hq with hq | hq
      · obtain ⟨hq, hk⟩ := List.mem_filter.mp hq
        exact sx_pk_wl hw hfc (Or.inr trivial) hk (h3.2 q hq)
      · exact r2 q hq
    · cases hp
  · next hany =>
    have hp := (Prod.mk.inj (Option.some.inj hp)).1
    subst hp
    refine sx_go (sx_k1 k) hn h1 h2 ⟨sx_kw_ok hw h3.1, fun q hq => sx_pk_wl hw hfc (Or.inr trivial) ?_ (h3.2 q hq)⟩ h4 h5 h6 h7 h8 h9 h10 h11
    cases hk : sx_pk (Y.su q.1) w.2.1 fc with
    | true => rfl
    | false => exact absurd (List.any_eq_true.mpr ⟨q, hq, by rw [hk]; rfl⟩) hany
def sx_o28 (Ct : List ev_Ct) (T : List sx_K) (tt : List (String × String × String × Nat)) (Y : sx_Y) (Md : List (Nat × Nat)) (i : ev_I) (st : sx_S) (hs : List (List (List Int))) : Option (List sx_S × List (List (List Int))) := match st.2.2.1 with
    | (2, k9, z9) :: S1 => (match sx_ty T k9 i.2.2.2.1 i.2.2.1 with
      | some (0, _, lo, hi) => sx_rdv Y st S1 0 0 k9 z9 [(i.2.2.1 : Int)] lo hi hs
      | some (1, _, _, _) => some ([(st.1 + 1, st.2.1, (1, 0, []) :: S1, st.2.2.2)], hs)
      | some (2, k8, lo, hi) => sx_rdv Y st S1 2 k8 k9 z9 [(i.2.2.1 : Int)] lo hi hs
      | some (3, k8, c0, c1) => some ([(st.1 + 1, st.2.1, (2, k8, sx_add [c0] (sx_mul c1 z9)) :: S1, st.2.2.2)], hs)
      | some (4, _, c0, c1) => some ([(st.1 + 1, st.2.1, (0, 0, sx_add [c0] (sx_mul c1 z9)) :: S1, st.2.2.2)], hs)
      | _ => none)
    | _ => none
def sx_o29 (Ct : List ev_Ct) (T : List sx_K) (tt : List (String × String × String × Nat)) (Y : sx_Y) (Md : List (Nat × Nat)) (i : ev_I) (st : sx_S) (hs : List (List (List Int))) : Option (List sx_S × List (List (List Int))) := match st.2.2.1 with
    | v :: (2, k9, z9) :: S1 => if (k9, i.2.2.1) ∈ Md ∧ i.2.2.1 ≠ 999 then (match sx_ty T k9 i.2.2.2.1 i.2.2.1 with
      | some (0, _, lo, hi) => if v.1 = 0 ∧ sx_fk Ct i.2.2.2.1 i.2.2.1 lo hi = true then (match sx_posA st.2.2.2.1 st.2.2.2.2.1 [sx_sub v.2.2 [lo], sx_sub [hi] v.2.2] hs with
        | some hs1 => sx_wt Y st S1 (1, k9, z9, [(i.2.2.1 : Int)], v.2.2) i.2.2.1 hs1
        | none => none) else none
      | some (1, _, _, _) => if (v.1 = 1 ∨ v.1 = 4) ∧ sx_fl Ct i.2.2.2.1 i.2.2.1 = true then some ([(st.1 + 1, st.2.1, S1, st.2.2.2)], hs) else none
      | some (2, k8, lo, hi) => if v.1 = 2 ∧ v.2.1 = k8 ∧ sx_fo Ct i.2.2.2.1 i.2.2.1 = true then (match sx_posA st.2.2.2.1 st.2.2.2.2.1 [sx_sub v.2.2 [lo], sx_sub [hi] v.2.2] hs with
        | some hs1 => sx_wt Y st S1 (1, k9, z9, [(i.2.2.1 : Int)], v.2.2) i.2.2.1 hs1
        | none => none) else none
      | _ => none) else none
    | _ => none
def sx_o40 (Ct : List ev_Ct) (T : List sx_K) (tt : List (String × String × String × Nat)) (Y : sx_Y) (Md : List (Nat × Nat)) (i : ev_I) (st : sx_S) (hs : List (List (List Int))) : Option (List sx_S × List (List (List Int))) := match st.2.2.1 with
    | (2, k9, _) :: S1 => (match T[k9]? with
      | some (tg, ka, n, _) => if (((tg = 1 ∨ tg = 2 ∨ tg = 3) ∧ ka = i.2.2.1) ∨ (tg = 7 ∧ tt.any (fun q => q.2.2.2 == k9) = true)) ∧ n < 2147483648 then some ([(st.1 + 1, st.2.1, (0, 0, [((n : Nat) : Int)]) :: S1, st.2.2.2)], hs) else none
      | _ => none)
    | _ => none
def sx_o42 (Ct : List ev_Ct) (T : List sx_K) (tt : List (String × String × String × Nat)) (Y : sx_Y) (Md : List (Nat × Nat)) (i : ev_I) (st : sx_S) (hs : List (List (List Int))) : Option (List sx_S × List (List (List Int))) := match st.2.2.1 with
    | x :: (2, k9, z9) :: S1 => (match T[k9]? with
      | some (1, ka, n, (2, k8, lo, hi) :: _) => if x.1 = 0 ∧ ka = i.2.2.1 then (match sx_posA st.2.2.2.1 st.2.2.2.2.1 [x.2.2, sx_sub [((n : Nat) : Int) - 1] x.2.2] hs with
        | some hs1 => sx_rdv Y st S1 2 k8 k9 z9 x.2.2 lo hi hs1
        | none => none) else none
      | some (1, ka, n, (3, k8, c0, c1) :: _) => if x.1 = 0 ∧ ka = i.2.2.1 then (match sx_posA st.2.2.2.1 st.2.2.2.2.1 [x.2.2, sx_sub [((n : Nat) : Int) - 1] x.2.2] hs with
        | some hs1 => some ([(st.1 + 1, st.2.1, (2, k8, sx_add (sx_add [c0] (sx_mul c1 z9)) x.2.2) :: S1, st.2.2.2)], hs1)
        | none => none) else none
      | _ => none)
    | _ => none
def sx_o51 (Ct : List ev_Ct) (T : List sx_K) (tt : List (String × String × String × Nat)) (Y : sx_Y) (Md : List (Nat × Nat)) (i : ev_I) (st : sx_S) (hs : List (List (List Int))) : Option (List sx_S × List (List (List Int))) := match st.2.2.1 with
    | x :: (2, k9, z9) :: S1 => (match T[k9]? with
      | some (2, ka, n, (0, _, lo, hi) :: _) => if x.1 = 0 ∧ ka = i.2.2.1 then (match sx_posA st.2.2.2.1 st.2.2.2.2.1 [x.2.2, sx_sub [((n : Nat) : Int) - 1] x.2.2] hs with
        | some hs1 => sx_rdv Y st S1 0 0 k9 z9 x.2.2 lo hi hs1
        | none => none) else none
      | some (7, 0, n, ys) => if x.1 = 0 ∧ tt.any (fun q => q.2.2.2 == k9) = true then (match sx_posA st.2.2.2.1 st.2.2.2.2.1 [x.2.2, sx_sub [((n : Nat) : Int) - 1] x.2.2] hs with
        | some hs1 => if ys.length = 1 then (match ys with
            | (_, _, lo, hi) :: _ => sx_pu st S1 (sx_new st.2.2.2.1 lo hi) hs1
            | [] => none) else if ys.length = n then some ((List.range n).flatMap (fun j => match ys[j]? with
            | some y => sx_br (st.1 + 1) st.2.1 ((0, 0, [y.2.2.1]) :: S1) st.2.2.2.1 st.2.2.2.2.1 st.2.2.2.2.2 (sx_cf 0 (sx_sub x.2.2 [(j : Int)]) st.2.2.2.1)
            | none => []), hs1) else none
        | none => none) else none
      | _ => none)
    | _ => none
def sx_o52 (Ct : List ev_Ct) (T : List sx_K) (tt : List (String × String × String × Nat)) (Y : sx_Y) (Md : List (Nat × Nat)) (i : ev_I) (st : sx_S) (hs : List (List (List Int))) : Option (List sx_S × List (List (List Int))) := match st.2.2.1 with
    | x :: (2, k9, z9) :: S1 => (match T[k9]? with
      | some (2, ka, n, (0, _, lo, hi) :: _) => if x.1 = 0 ∧ ka = i.2.2.1 then (match sx_posA st.2.2.2.1 st.2.2.2.2.1 [x.2.2, sx_sub [((n : Nat) : Int) - 1] x.2.2] hs with
        | some hs1 => sx_rdv Y st S1 0 0 k9 z9 x.2.2 lo hi hs1
        | none => none) else none
      | _ => none)
    | _ => none
def sx_o53 (Ct : List ev_Ct) (T : List sx_K) (tt : List (String × String × String × Nat)) (Y : sx_Y) (Md : List (Nat × Nat)) (i : ev_I) (st : sx_S) (hs : List (List (List Int))) : Option (List sx_S × List (List (List Int))) := match st.2.2.1 with
    | x :: (2, k9, z9) :: S1 => (match T[k9]? with
      | some (2, ka, n, (0, _, lo, hi) :: _) => if x.1 = 0 ∧ ka = i.2.2.1 then (match sx_posA st.2.2.2.1 st.2.2.2.2.1 [x.2.2, sx_sub [((n : Nat) : Int) - 1] x.2.2] hs with
        | some hs1 => sx_rdv Y st S1 0 0 k9 z9 x.2.2 lo hi hs1
        | none => none) else none
      | _ => none)
    | _ => none
def sx_o54 (Ct : List ev_Ct) (T : List sx_K) (tt : List (String × String × String × Nat)) (Y : sx_Y) (Md : List (Nat × Nat)) (i : ev_I) (st : sx_S) (hs : List (List (List Int))) : Option (List sx_S × List (List (List Int))) := match st.2.2.1 with
    | x :: (2, k9, _) :: S1 => (match T[k9]? with
      | some (tg, ka, n, _) => if x.1 = 0 ∧ ((tg = 3 ∧ ka = i.2.2.1) ∨ (tg = 7 ∧ ka = 1 ∧ tt.any (fun q => q.2.2.2 == k9) = true)) then (match sx_posA st.2.2.2.1 st.2.2.2.2.1 [x.2.2, sx_sub [((n : Nat) : Int) - 1] x.2.2] hs with
        | some hs1 => some ([(st.1 + 1, st.2.1, (1, 0, []) :: S1, st.2.2.2)], hs1)
        | none => none) else none
      | _ => none)
    | _ => none
def sx_o59 (Ct : List ev_Ct) (T : List sx_K) (tt : List (String × String × String × Nat)) (Y : sx_Y) (Md : List (Nat × Nat)) (i : ev_I) (st : sx_S) (hs : List (List (List Int))) : Option (List sx_S × List (List (List Int))) := match st.2.2.1 with
    | v :: x :: (2, k9, z9) :: S1 => (match T[k9]? with
      | some (2, ka, n, (0, _, lo, hi) :: _) => if v.1 = 0 ∧ x.1 = 0 ∧ (k9, 999) ∈ Md ∧ ka = i.2.2.1 then (match sx_posA st.2.2.2.1 st.2.2.2.2.1 [x.2.2, sx_sub [((n : Nat) : Int) - 1] x.2.2] hs with
        | some hs1 => (match sx_posA st.2.2.2.1 st.2.2.2.2.1 [sx_sub v.2.2 [lo], sx_sub [hi] v.2.2] hs1 with
          | some hs2 => sx_wt Y st S1 (1, k9, z9, x.2.2, v.2.2) 999 hs2
          | none => none)
        | none => none) else none
      | _ => none)
    | _ => none
def sx_o60 (Ct : List ev_Ct) (T : List sx_K) (tt : List (String × String × String × Nat)) (Y : sx_Y) (Md : List (Nat × Nat)) (i : ev_I) (st : sx_S) (hs : List (List (List Int))) : Option (List sx_S × List (List (List Int))) := match st.2.2.1 with
    | v :: x :: (2, k9, z9) :: S1 => (match T[k9]? with
      | some (2, ka, n, (0, _, lo, hi) :: _) => if v.1 = 0 ∧ x.1 = 0 ∧ (k9, 999) ∈ Md ∧ ka = i.2.2.1 ∧ lo ≤ -128 ∧ 127 ≤ hi then (match sx_posA st.2.2.2.1 st.2.2.2.2.1 [x.2.2, sx_sub [((n : Nat) : Int) - 1] x.2.2] hs with
        | some hs1 => if -128 ≤ sx_lo v.2.2 st.2.2.2.1 ∧ sx_hi v.2.2 st.2.2.2.1 ≤ 127 then sx_wt Y st S1 (1, k9, z9, x.2.2, v.2.2) 999 hs1 else sx_wt Y st S1 (2, k9, z9, [], []) 999 hs1
        | none => none) else none
      | _ => none)
    | _ => none
def sx_o61 (Ct : List ev_Ct) (T : List sx_K) (tt : List (String × String × String × Nat)) (Y : sx_Y) (Md : List (Nat × Nat)) (i : ev_I) (st : sx_S) (hs : List (List (List Int))) : Option (List sx_S × List (List (List Int))) := match st.2.2.1 with
    | v :: x :: (2, k9, z9) :: S1 => (match T[k9]? with
      | some (2, ka, n, (0, _, lo, hi) :: _) => if v.1 = 0 ∧ x.1 = 0 ∧ (k9, 999) ∈ Md ∧ ka = i.2.2.1 ∧ lo ≤ 0 ∧ 1 ≤ hi then (match sx_posA st.2.2.2.1 st.2.2.2.2.1 [x.2.2, sx_sub [((n : Nat) : Int) - 1] x.2.2] hs with
        | some hs1 => if 0 ≤ sx_lo v.2.2 st.2.2.2.1 ∧ sx_hi v.2.2 st.2.2.2.1 ≤ 1 then sx_wt Y st S1 (1, k9, z9, x.2.2, v.2.2) 999 hs1 else sx_wt Y st S1 (2, k9, z9, [], []) 999 hs1
        | none => none) else none
      | _ => none)
    | _ => none
def sx_o62 (Ct : List ev_Ct) (T : List sx_K) (tt : List (String × String × String × Nat)) (Y : sx_Y) (Md : List (Nat × Nat)) (i : ev_I) (st : sx_S) (hs : List (List (List Int))) : Option (List sx_S × List (List (List Int))) := match st.2.2.1 with
    | v :: x :: (2, k9, _) :: S1 => (match T[k9]? with
      | some (3, ka, n, _) => if (v.1 = 1 ∨ v.1 = 4) ∧ x.1 = 0 ∧ ka = i.2.2.1 then (match sx_posA st.2.2.2.1 st.2.2.2.2.1 [x.2.2, sx_sub [((n : Nat) : Int) - 1] x.2.2] hs with
        | some hs1 => some ([(st.1 + 1, st.2.1, S1, st.2.2.2)], hs1)
        | none => none) else none
      | _ => none)
    | _ => none
def sx_o63 (Ct : List ev_Ct) (T : List sx_K) (tt : List (String × String × String × Nat)) (Y : sx_Y) (Md : List (Nat × Nat)) (i : ev_I) (st : sx_S) (hs : List (List (List Int))) : Option (List sx_S × List (List (List Int))) := match st.2.2.1 with
    | nn :: dp :: (2, k1, z1) :: sp :: (2, k0, _) :: S1 => (match T[k0]?, T[k1]? with
      | some (2, ka0, n0, (0, _, lo0, hi0) :: _), some (2, ka1, n1, (0, _, lo1, hi1) :: _) => if nn.1 = 0 ∧ dp.1 = 0 ∧ sp.1 = 0 ∧ ka0 = i.2.2.1 ∧ ka1 = i.2.2.1 ∧ (k1, 999) ∈ Md ∧ lo1 ≤ lo0 ∧ hi0 ≤ hi1 ∧ (i.2.2.2.2.2.1 = 0 → -128 ≤ lo0 ∧ hi0 ≤ 127) ∧ i.2.2.2.2.2.1 ≤ 1 ∧ sx_cs S1 ≤ 8 then (match sx_posA st.2.2.2.1 st.2.2.2.2.1 [sp.2.2, dp.2.2, nn.2.2, sx_sub [((n0 : Nat) : Int)] (sx_add sp.2.2 nn.2.2), sx_sub [((n1 : Nat) : Int)] (sx_add dp.2.2 nn.2.2)] hs with
        | some hs1 => sx_wt Y st S1 (2, k1, z1, [], []) 999 hs1
        | none => none) else none
      | some (7, 0, n0, (0, _, lo0, hi0) :: zt), some (2, ka1, n1, (0, _, lo1, hi1) :: _) => if nn.1 = 0 ∧ dp.1 = 0 ∧ sp.1 = 0 ∧ ka1 = i.2.2.1 ∧ (k1, 999) ∈ Md ∧ zt = [] ∧ lo1 ≤ lo0 ∧ hi0 ≤ hi1 ∧ i.2.2.2.2.2.1 = 1 ∧ sx_cs S1 ≤ 8 ∧ tt.any (fun q => q.2.2.2 == k0) = true ∧ sx_cn dp.2.2 = some 0 ∧ sx_cn sp.2.2 = some 0 then (match sx_cn nn.2.2 with
        | some n => if 0 ≤ n ∧ n ≤ (n0 : Int) ∧ n ≤ (n1 : Int) ∧ n < 2147483648 then sx_wt Y st S1 (2, k1, z1, [], []) 999 hs else none
        | none => none) else none
      | _, _ => none)
    | _ => none
def sx_o86 (Ct : List ev_Ct) (T : List sx_K) (tt : List (String × String × String × Nat)) (Y : sx_Y) (Md : List (Nat × Nat)) (i : ev_I) (st : sx_S) (hs : List (List (List Int))) : Option (List sx_S × List (List (List Int))) := match tt[i.2.2.1]? with
    | some q => some ([(st.1 + 1, st.2.1, (2, q.2.2.2, [0]) :: st.2.2.1, st.2.2.2)], hs)
    | none => none
def sx_o90 (Ct : List ev_Ct) (T : List sx_K) (tt : List (String × String × String × Nat)) (Y : sx_Y) (Md : List (Nat × Nat)) (i : ev_I) (st : sx_S) (hs : List (List (List Int))) : Option (List sx_S × List (List (List Int))) := match st.2.2.1 with
    | nn :: dp :: (2, k1, z1) :: sp :: (2, k0, _) :: S1 => (match T[k0]?, T[k1]? with
      | some (3, ka0, n0, _), some (3, ka1, n1, _) => if nn.1 = 0 ∧ dp.1 = 0 ∧ sp.1 = 0 ∧ ka0 = i.2.2.1 ∧ ka1 = i.2.2.1 ∧ sx_cs S1 ≤ 8 then (match sx_posA st.2.2.2.1 st.2.2.2.2.1 [sp.2.2, dp.2.2, nn.2.2, sx_sub [((n0 : Nat) : Int)] (sx_add sp.2.2 nn.2.2), sx_sub [((n1 : Nat) : Int)] (sx_add dp.2.2 nn.2.2)] hs with
        | some hs1 => some ([(st.1 + 1, st.2.1, S1, st.2.2.2)], hs1)
        | none => none) else none
      | some (7, 1, n0, _), some (3, ka1, n1, _) => if nn.1 = 0 ∧ dp.1 = 0 ∧ sp.1 = 0 ∧ ka1 = i.2.2.1 ∧ sx_cs S1 ≤ 8 ∧ tt.any (fun q => q.2.2.2 == k0) = true ∧ sx_cn dp.2.2 = some 0 ∧ sx_cn sp.2.2 = some 0 then (match sx_cn nn.2.2 with
        | some n => if 0 ≤ n ∧ n ≤ (n0 : Int) ∧ n ≤ (n1 : Int) ∧ n < 2147483648 then some ([(st.1 + 1, st.2.1, S1, st.2.2.2)], hs) else none
        | none => none) else none
      | _, _ => none)
    | _ => none
def sx_o91 (Ct : List ev_Ct) (T : List sx_K) (tt : List (String × String × String × Nat)) (Y : sx_Y) (Md : List (Nat × Nat)) (i : ev_I) (st : sx_S) (hs : List (List (List Int))) : Option (List sx_S × List (List (List Int))) := match st.2.2.1 with
    | y :: x :: S1 => if x.1 = 0 ∧ y.1 = 0 ∧ sx_cs S1 ≤ 8 then some (sx_br (st.1 + 1) st.2.1 (y :: S1) st.2.2.2.1 st.2.2.2.2.1 st.2.2.2.2.2 [sx_sub [-1] (sx_sub y.2.2 x.2.2)] ++ sx_br (st.1 + 1) st.2.1 (x :: S1) st.2.2.2.1 st.2.2.2.2.1 st.2.2.2.2.2 [sx_sub y.2.2 x.2.2], hs) else none
    | _ => none
theorem sx_p28 (X : sx_X p s m args c D cl dA kt T tt kd ad A Gs own cc nL) (hGc : ∀ (h : Nat) (w : Cond), ev_hg Gc h = some w → w ∈ Gs) (hT : ev_okD Gs cl Ct Pg) (hRf : 1 ≤ R.frames) (hRl : 26 ≤ R.locals) (hok : ev_k28 Gc Ct kt Pg sm own nm cc nL ret cd st.1 i = true) (h : sx_o28 Ct T tt Y Md i st hs = some (out, hs')) (k : ∀ t ∈ out, ∀ x1, sx_g p l e R s m args below meth c Q D cl dA T Y kd ad A hh0 Md nL cd t (r ++ x1)) : sx_g p l e R s m args below meth c Q D cl dA T Y kd ad A hh0 Md nL cd st r := by
  obtain ⟨ix, L, S, B, F, G⟩ := st
  have X0 := X.1
  unfold ev_k28 at hok
  simp only [Bool.and_eq_true, decide_eq_true_eq] at hok
  unfold sx_o28 at h
  try dsimp only at hok
  split at h
  · next k9 z9 S1 hS =>
    have hS : S = (2, k9, z9) :: S1 := hS
    subst hS
    split at h
    · next z lo hi hty =>
      intro H locs ls vs lv ws hh h1 h2 h3 h4 h5 h6 h7 h8 h9 h10 h11
      have h6q := h6.cons
      clear h6
      obtain ⟨xr, ys, rfl, hr9, h6⟩ := h6q
      obtain ⟨j9, c9, a9, g1, gi, g2, rfl⟩ := hr9.ref rfl
      obtain ⟨K, ts, hK, hK0, hc9, hts⟩ := sx_ty_r hty
      obtain ⟨E, hE, hr⟩ := h7.at g1 hK (by rw [hK0]; decide) g2
      obtain ⟨fs, rfl, hl9, hf⟩ := hr.obj hK0
      obtain ⟨x9, hx9, ht9⟩ := hf _ _ hts
      rw [gi] at ht9
      obtain ⟨⟨hd, hn⟩, hq⟩ := hok
      cases hC : Ct[i.2.2.2.1]? with
      | none => rw [hC] at hq; cases hq
      | some q =>
        rw [hC] at hq
        simp only [Bool.and_eq_true, decide_eq_true_eq] at hq
        obtain ⟨v9, rfl, v1, v2, v3⟩ := ht9.int rfl
        exact va_get X0.1.1 X0.1.2.1 X0.1.2.2.2.2 (hT.1 _ _ hC).1 X0.1.2.2.2.1 X0.2.1.1 h9 j9 (by rw [hc9] at hE; exact hE) (hT.1 _ _ hC).2.1 _ hq.1 (X0.1.2.2.2.2 _ (hGc _ _ hq.2)) (fun _ h9 => h9) hx9 hd (sx_rdv_ok (xv := _) h k (by rw [sx_ev_c]) v2 v3 (fun r9 f9 e9 => sx_vr.it (by rw [v1]; exact e9.symm)) hn h1 h2 h3 h4 h5 h6 h7 h8 h9 h10 h11)
    · next z lo hi hty =>
      obtain ⟨rfl, rfl⟩ := Prod.mk.inj (Option.some.inj h)
      have k1 := sx_k1 k
      intro H locs ls vs lv ws hh h1 h2 h3 h4 h5 h6 h7 h8 h9 h10 h11
      have h6q := h6.cons
      clear h6
      obtain ⟨xr, ys, rfl, hr9, h6⟩ := h6q
      obtain ⟨j9, c9, a9, g1, gi, g2, rfl⟩ := hr9.ref rfl
      obtain ⟨K, ts, hK, hK0, hc9, hts⟩ := sx_ty_r hty
      obtain ⟨E, hE, hr⟩ := h7.at g1 hK (by rw [hK0]; decide) g2
      obtain ⟨fs, rfl, hl9, hf⟩ := hr.obj hK0
      obtain ⟨x9, hx9, ht9⟩ := hf _ _ hts
      rw [gi] at ht9
      obtain ⟨⟨hd, hn⟩, hq⟩ := hok
      cases hC : Ct[i.2.2.2.1]? with
      | none => rw [hC] at hq; cases hq
      | some q =>
        rw [hC] at hq
        simp only [Bool.and_eq_true, decide_eq_true_eq] at hq
        obtain ⟨v9, rfl⟩ := ht9.long rfl
        exact va_get X0.1.1 X0.1.2.1 X0.1.2.2.2.2 (hT.1 _ _ hC).1 X0.1.2.2.2.1 X0.2.1.1 h9 j9 (by rw [hc9] at hE; exact hE) (hT.1 _ _ hC).2.1 _ hq.1 (X0.1.2.2.2.2 _ (hGc _ _ hq.2)) (fun _ h9 => h9) hx9 hd (sx_go k1 hn h1 h2 h3 h4 h5 ⟨sx_vr.lg _ _ _, h6⟩ h7 h8 h9 h10 h11)
    · next k8 lo hi hty =>
      intro H locs ls vs lv ws hh h1 h2 h3 h4 h5 h6 h7 h8 h9 h10 h11
      have h6q := h6.cons
      clear h6
      obtain ⟨xr, ys, rfl, hr9, h6⟩ := h6q
      obtain ⟨j9, c9, a9, g1, gi, g2, rfl⟩ := hr9.ref rfl
      obtain ⟨K, ts, hK, hK0, hc9, hts⟩ := sx_ty_r hty
      obtain ⟨E, hE, hr⟩ := h7.at g1 hK (by rw [hK0]; decide) g2
      obtain ⟨fs, rfl, hl9, hf⟩ := hr.obj hK0
      obtain ⟨x9, hx9, ht9⟩ := hf _ _ hts
      rw [gi] at ht9
      obtain ⟨⟨hd, hn⟩, hq⟩ := hok
      cases hC : Ct[i.2.2.2.1]? with
      | none => rw [hC] at hq; cases hq
      | some q =>
        rw [hC] at hq
        simp only [Bool.and_eq_true, decide_eq_true_eq] at hq
        obtain ⟨v1, v2, v3⟩ := ht9.rf rfl
        exact va_get X0.1.1 X0.1.2.1 X0.1.2.2.2.2 (hT.1 _ _ hC).1 X0.1.2.2.2.1 X0.2.1.1 h9 j9 (by rw [hc9] at hE; exact hE) (hT.1 _ _ hC).2.1 _ hq.1 (X0.1.2.2.2.2 _ (hGc _ _ hq.2)) (fun _ h9 => h9) hx9 hd (sx_rdv_ok (xv := _) h k (by rw [sx_ev_c]) v2 v3 (fun r9 f9 e9 => sx_vr.rf (by rw [e9]; exact v1)) hn h1 h2 h3 h4 h5 h6 h7 h8 h9 h10 h11)
    · next k8 c0 c1 hty =>
      obtain ⟨rfl, rfl⟩ := Prod.mk.inj (Option.some.inj h)
      have k1 := sx_k1 k
      intro H locs ls vs lv ws hh h1 h2 h3 h4 h5 h6 h7 h8 h9 h10 h11
      have h6q := h6.cons
      clear h6
      obtain ⟨xr, ys, rfl, hr9, h6⟩ := h6q
      obtain ⟨j9, c9, a9, g1, gi, g2, rfl⟩ := hr9.ref rfl
      obtain ⟨K, ts, hK, hK0, hc9, hts⟩ := sx_ty_r hty
      obtain ⟨E, hE, hr⟩ := h7.at g1 hK (by rw [hK0]; decide) g2
      obtain ⟨fs, rfl, hl9, hf⟩ := hr.obj hK0
      obtain ⟨x9, hx9, ht9⟩ := hf _ _ hts
      rw [gi] at ht9
      obtain ⟨⟨hd, hn⟩, hq⟩ := hok
      cases hC : Ct[i.2.2.2.1]? with
      | none => rw [hC] at hq; cases hq
      | some q =>
        rw [hC] at hq
        simp only [Bool.and_eq_true, decide_eq_true_eq] at hq
        obtain ⟨v1, v2⟩ := ht9.rfx rfl
        rw [v2] at v1
        exact va_get X0.1.1 X0.1.2.1 X0.1.2.2.2.2 (hT.1 _ _ hC).1 X0.1.2.2.2.1 X0.2.1.1 h9 j9 (by rw [hc9] at hE; exact hE) (hT.1 _ _ hC).2.1 _ hq.1 (X0.1.2.2.2.2 _ (hGc _ _ hq.2)) (fun _ h9 => h9) hx9 hd (sx_go k1 hn h1 h2 h3 h4 h5 ⟨sx_vr.rf (by rw [sx_ev_add, sx_ev_c, sx_ev_mul]; rw [Int.add_zero] at v1; exact v1), h6⟩ h7 h8 h9 h10 h11)
    · next z c0 c1 hty =>
      obtain ⟨rfl, rfl⟩ := Prod.mk.inj (Option.some.inj h)
      have k1 := sx_k1 k
      intro H locs ls vs lv ws hh h1 h2 h3 h4 h5 h6 h7 h8 h9 h10 h11
      have h6q := h6.cons
      clear h6
      obtain ⟨xr, ys, rfl, hr9, h6⟩ := h6q
      obtain ⟨j9, c9, a9, g1, gi, g2, rfl⟩ := hr9.ref rfl
      obtain ⟨K, ts, hK, hK0, hc9, hts⟩ := sx_ty_r hty
      obtain ⟨E, hE, hr⟩ := h7.at g1 hK (by rw [hK0]; decide) g2
      obtain ⟨fs, rfl, hl9, hf⟩ := hr.obj hK0
      obtain ⟨x9, hx9, ht9⟩ := hf _ _ hts
      rw [gi] at ht9
      obtain ⟨⟨hd, hn⟩, hq⟩ := hok
      cases hC : Ct[i.2.2.2.1]? with
      | none => rw [hC] at hq; cases hq
      | some q =>
        rw [hC] at hq
        simp only [Bool.and_eq_true, decide_eq_true_eq] at hq
        obtain ⟨v9, rfl, v1, v2⟩ := ht9.intx rfl
        exact va_get X0.1.1 X0.1.2.1 X0.1.2.2.2.2 (hT.1 _ _ hC).1 X0.1.2.2.2.1 X0.2.1.1 h9 j9 (by rw [hc9] at hE; exact hE) (hT.1 _ _ hC).2.1 _ hq.1 (X0.1.2.2.2.2 _ (hGc _ _ hq.2)) (fun _ h9 => h9) hx9 hd (sx_go k1 hn h1 h2 h3 h4 h5 ⟨sx_vr.it (by rw [sx_ev_add, sx_ev_c, sx_ev_mul, v1, v2]), h6⟩ h7 h8 h9 h10 h11)
    · cases h
  · cases h
theorem sx_p29 (X : sx_X p s m args c D cl dA kt T tt kd ad A Gs own cc nL) (hGc : ∀ (h : Nat) (w : Cond), ev_hg Gc h = some w → w ∈ Gs) (hT : ev_okD Gs cl Ct Pg) (hRf : 1 ≤ R.frames) (hRl : 26 ≤ R.locals) (hok : ev_k29 Gc Ct kt Pg sm own nm cc nL ret cd st.1 i = true) (h : sx_o29 Ct T tt Y Md i st hs = some (out, hs')) (k : ∀ t ∈ out, ∀ x1, sx_g p l e R s m args below meth c Q D cl dA T Y kd ad A hh0 Md nL cd t (r ++ x1)) : sx_g p l e R s m args below meth c Q D cl dA T Y kd ad A hh0 Md nL cd st r := by
  obtain ⟨ix, L, S, B, F, G⟩ := st
  have X0 := X.1
  unfold ev_k29 at hok
  simp only [Bool.and_eq_true, decide_eq_true_eq] at hok
  unfold sx_o29 at h
  try dsimp only at hok
  split at h
  · next v k9 z9 S1 hS =>
    have hS : S = v :: (2, k9, z9) :: S1 := hS
    subst hS
    split at h
    · next hm =>
      split at h
      · next z lo hi hty =>
        split at h
        · next hv =>
          split at h
          · next hs1 hp =>
            intro H locs ls vs lv ws hh h1 h2 h3 h4 h5 h6 h7 h8 h9 h10 h11
            have h6q := h6.cons
            clear h6
            obtain ⟨xv, ys, rfl, hx, h6⟩ := h6q
            have h6q := h6.cons
            clear h6
            obtain ⟨xr, zs, rfl, hr9, h6⟩ := h6q
            obtain ⟨j9, c9, a9, g1, gi, g2, rfl⟩ := hr9.ref rfl
            obtain ⟨K, ts, hK, hK0, hc9, hts⟩ := sx_ty_r hty
            obtain ⟨E, hE, hr⟩ := h7.at g1 hK (by rw [hK0]; decide) g2
            obtain ⟨fs, rfl, hl9, hf⟩ := hr.obj hK0
            obtain ⟨x9, hx9, ht9⟩ := hf _ _ hts
            have p0 := sx_posA_ok h1 h2 _ _ _ hp
            have p1 := p0 _ List.mem_cons_self
            have p2 := p0 _ (List.mem_cons_of_mem _ List.mem_cons_self)
            rw [sx_ev_sub, sx_ev_c] at p1
            rw [sx_ev_sub, sx_ev_c] at p2
            obtain ⟨v9, rfl, hv9⟩ := hx.int hv.1
            have vt9 : sx_tr kd ad (0, z, lo, hi) c9 0 (sx_ev v.2.2 r) (.int v9) := Or.inl ⟨rfl, v9, rfl, hv9, by show lo ≤ _; omega, by show _ ≤ hi; omega⟩
            obtain ⟨⟨hd, hn⟩, hq⟩ := hok
            cases hC : Ct[i.2.2.2.1]? with
            | none => rw [hC] at hq; cases hq
            | some q =>
              rw [hC] at hq
              simp only [Bool.and_eq_true, decide_eq_true_eq] at hq
              obtain ⟨n1, n2⟩ := sx_fk_ok (i := v9) hC hv.2 (by omega) (by omega)
              rw [hc9] at hE
              refine va_put X0.1.1 X0.1.2.1 X0.1.2.2.2.2 (hT.1 _ _ hC).1 q.2.1 (hT.1 _ _ hC).2.2.1 (hT.1 _ _ hC).2.2.2.1 X0.1.2.2.2.1 X0.2.1.1 h9 h10 h11 j9 hE (hT.1 _ _ hC).2.1 _ hq.1.1 (X0.1.2.2.2.2 _ (hGc _ _ hq.1.2)) (fun _ h9 => h9) hq.2 ((hT.1 _ _ hC).2.2.1 _ hq.1.1) n1 n2 (List.getElem?_eq_some_iff.mp hx9).1 hd (fun H1 locs1 e9 e10 e11 => ?_)
              have hcr := sx_cr.put (dA := dA) hK0 hc9 hl9 hf hts vt9
              have h7' := h7.set X.2.2 g1 hK g2 hE hcr
              rw [gi] at h7'
              exact sx_wt_ok h k (Or.inl ⟨rfl, by show _ = sx_up hh k9 (sx_ev z9 r) (fun f => if f = sx_ev [((i.2.2.1 : Nat) : Int)] r then sx_ev v.2.2 r else hh k9 (sx_ev z9 r) f); rw [sx_ev_c]⟩) (Or.inl ⟨rfl, sx_ev_c _ _, hm.2⟩) hn h1 h2 h3 h4 h5 h6 h7' (h8.tr (sx_fr.fld hm.1)) e9 e10 e11
          · cases h
        · cases h
      · next z lo hi hty =>
        split at h
        · next hv =>
          obtain ⟨rfl, rfl⟩ := Prod.mk.inj (Option.some.inj h)
          have k1 := sx_k1 k
          intro H locs ls vs lv ws hh h1 h2 h3 h4 h5 h6 h7 h8 h9 h10 h11
          have h6q := h6.cons
          clear h6
          obtain ⟨xv, ys, rfl, hx, h6⟩ := h6q
          have h6q := h6.cons
          clear h6
          obtain ⟨xr, zs, rfl, hr9, h6⟩ := h6q
          obtain ⟨j9, c9, a9, g1, gi, g2, rfl⟩ := hr9.ref rfl
          obtain ⟨K, ts, hK, hK0, hc9, hts⟩ := sx_ty_r hty
          obtain ⟨E, hE, hr⟩ := h7.at g1 hK (by rw [hK0]; decide) g2
          obtain ⟨fs, rfl, hl9, hf⟩ := hr.obj hK0
          obtain ⟨x9, hx9, ht9⟩ := hf _ _ hts
          obtain ⟨v9, rfl⟩ := hx.long hv.1
          obtain ⟨⟨hd, hn⟩, hq⟩ := hok
          cases hC : Ct[i.2.2.2.1]? with
          | none => rw [hC] at hq; cases hq
          | some q =>
            rw [hC] at hq
            simp only [Bool.and_eq_true, decide_eq_true_eq] at hq
            obtain ⟨n1, n2⟩ := sx_fl_ok (i := v9) hC hv.2
            rw [hc9] at hE
            refine va_put X0.1.1 X0.1.2.1 X0.1.2.2.2.2 (hT.1 _ _ hC).1 q.2.1 (hT.1 _ _ hC).2.2.1 (hT.1 _ _ hC).2.2.2.1 X0.1.2.2.2.1 X0.2.1.1 h9 h10 h11 j9 hE (hT.1 _ _ hC).2.1 _ hq.1.1 (X0.1.2.2.2.2 _ (hGc _ _ hq.1.2)) (fun _ h9 => h9) hq.2 ((hT.1 _ _ hC).2.2.1 _ hq.1.1) n1 n2 (List.getElem?_eq_some_iff.mp hx9).1 hd (fun H1 locs1 e9 e10 e11 => ?_)
            have hcr := sx_cr.putl (dA := dA) hK0 hc9 hl9 hf hts rfl (x := .long v9) ⟨v9, rfl⟩
            have h7' := h7.set X.2.2 g1 hK g2 hE hcr
            rw [sx_up_id] at h7'
            exact sx_go k1 hn h1 h2 h3 h4 h5 h6 h7' h8 e9 e10 e11
        · cases h
      · next k8 lo hi hty =>
        split at h
        · next hv =>
          split at h
          · next hs1 hp =>
            intro H locs ls vs lv ws hh h1 h2 h3 h4 h5 h6 h7 h8 h9 h10 h11
            have h6q := h6.cons
            clear h6
            obtain ⟨xv, ys, rfl, hx, h6⟩ := h6q
            have h6q := h6.cons
            clear h6
            obtain ⟨xr, zs, rfl, hr9, h6⟩ := h6q
            obtain ⟨j9, c9, a9, g1, gi, g2, rfl⟩ := hr9.ref rfl
            obtain ⟨K, ts, hK, hK0, hc9, hts⟩ := sx_ty_r hty
            obtain ⟨E, hE, hr⟩ := h7.at g1 hK (by rw [hK0]; decide) g2
            obtain ⟨fs, rfl, hl9, hf⟩ := hr.obj hK0
            obtain ⟨x9, hx9, ht9⟩ := hf _ _ hts
            have p0 := sx_posA_ok h1 h2 _ _ _ hp
            have p1 := p0 _ List.mem_cons_self
            have p2 := p0 _ (List.mem_cons_of_mem _ List.mem_cons_self)
            rw [sx_ev_sub, sx_ev_c] at p1
            rw [sx_ev_sub, sx_ev_c] at p2
            have q8 := hx.ref hv.1
            rw [hv.2.1] at q8
            have vt9 : sx_tr kd ad (2, k8, lo, hi) c9 0 (sx_ev v.2.2 r) xv := Or.inr (Or.inr (Or.inl ⟨rfl, q8, by show lo ≤ _; omega, by show _ ≤ hi; omega⟩))
            obtain ⟨j7, c7, a7, g7, gj, g8, rfl⟩ := q8
            obtain ⟨⟨hd, hn⟩, hq⟩ := hok
            cases hC : Ct[i.2.2.2.1]? with
            | none => rw [hC] at hq; cases hq
            | some q =>
              rw [hC] at hq
              simp only [Bool.and_eq_true, decide_eq_true_eq] at hq
              obtain ⟨n1, n2⟩ := sx_fo_ok (a0 := a7) hC hv.2.2
              rw [hc9] at hE
              refine va_put X0.1.1 X0.1.2.1 X0.1.2.2.2.2 (hT.1 _ _ hC).1 q.2.1 (hT.1 _ _ hC).2.2.1 (hT.1 _ _ hC).2.2.2.1 X0.1.2.2.2.1 X0.2.1.1 h9 h10 h11 j9 hE (hT.1 _ _ hC).2.1 _ hq.1.1 (X0.1.2.2.2.2 _ (hGc _ _ hq.1.2)) (fun _ h9 => h9) hq.2 ((hT.1 _ _ hC).2.2.1 _ hq.1.1) n1 n2 (List.getElem?_eq_some_iff.mp hx9).1 hd (fun H1 locs1 e9 e10 e11 => ?_)
              have hcr := sx_cr.put (dA := dA) hK0 hc9 hl9 hf hts vt9
              have h7' := h7.set X.2.2 g1 hK g2 hE hcr
              rw [gi] at h7'
              exact sx_wt_ok h k (Or.inl ⟨rfl, by show _ = sx_up hh k9 (sx_ev z9 r) (fun f => if f = sx_ev [((i.2.2.1 : Nat) : Int)] r then sx_ev v.2.2 r else hh k9 (sx_ev z9 r) f); rw [sx_ev_c]⟩) (Or.inl ⟨rfl, sx_ev_c _ _, hm.2⟩) hn h1 h2 h3 h4 h5 h6 h7' (h8.tr (sx_fr.fld hm.1)) e9 e10 e11
          · cases h
        · cases h
      · cases h
    · cases h
  · cases h
theorem sx_p40 (X : sx_X p s m args c D cl dA kt T tt kd ad A Gs own cc nL) (hGc : ∀ (h : Nat) (w : Cond), ev_hg Gc h = some w → w ∈ Gs) (hT : ev_okD Gs cl Ct Pg) (hRf : 1 ≤ R.frames) (hRl : 26 ≤ R.locals) (hok : ev_k40 Gc Ct kt Pg sm own nm cc nL ret cd st.1 i = true) (h : sx_o40 Ct T tt Y Md i st hs = some (out, hs')) (k : ∀ t ∈ out, ∀ x1, sx_g p l e R s m args below meth c Q D cl dA T Y kd ad A hh0 Md nL cd t (r ++ x1)) : sx_g p l e R s m args below meth c Q D cl dA T Y kd ad A hh0 Md nL cd st r := by
  obtain ⟨ix, L, S, B, F, G⟩ := st
  have X0 := X.1
  unfold ev_k40 at hok
  simp only [Bool.and_eq_true, decide_eq_true_eq] at hok
  unfold sx_o40 at h
  try dsimp only at hok
  split at h
  · next k9 z9 S1 hS =>
    have hS : S = (2, k9, z9) :: S1 := hS
    subst hS
    split at h
    · next tg ka n ts hK =>
      split at h
      · next hv =>
        obtain ⟨rfl, rfl⟩ := Prod.mk.inj (Option.some.inj h)
        have k1 := sx_k1 k
        intro H locs ls vs lv ws hh h1 h2 h3 h4 h5 h6 h7 h8 h9 h10 h11
        have h6q := h6.cons
        clear h6
        obtain ⟨xr, zs, rfl, hr9, h6⟩ := h6q
        obtain ⟨j9, c9, a9, g1, gi, g2, rfl⟩ := hr9.ref rfl
        obtain ⟨hv1, hv3⟩ := hv
        obtain ⟨⟨hd, hn⟩, hq⟩ := hok
        have e9 : (nI n).toInt = sx_ev [((n : Nat) : Int)] r := by rw [sx_ev_c, nI_toInt (by omega)]
        rcases hv1 with ⟨hv1, rfl⟩ | ⟨rfl, ht⟩
        · obtain ⟨E, hE, hr⟩ := h7.at g1 hK (by show tg ≠ 7; omega) g2
          cases hK9 : kt[i.2.2.1]? with
          | none => rw [hK9] at hq; cases hq
          | some ty =>
            rcases hr with ⟨hr, -⟩ | ⟨-, f, rfl, -⟩ | ⟨-, f, rfl, -⟩ | ⟨-, f, rfl⟩
            · have hr : tg = 0 := hr
              omega
            all_goals exact va_alen (v := nI n) X0.1.1 X0.1.2.1 X0.2.1.1 h9 j9 _ hE (ev_tys_at hK9) rfl hd (sx_go k1 hn h1 h2 h3 h4 h5 ⟨sx_vr.it e9, h6⟩ h7 h8 h9 h10 h11)
        · obtain ⟨q, hq1, hq2⟩ := List.any_eq_true.mp ht
          have hq2 : q.2.2.2 = k9 := eq_of_beq hq2
          obtain ⟨j, t9, K, a1, a2, a3, a4, a5, a6, a7⟩ := X.2.1 q hq1
          rw [hq2] at a1 a3 a4
          rw [hK] at a4
          obtain rfl := Option.some.inj a4
          obtain rfl := a3 j9 c9 g1
          rw [g2] at a2
          obtain rfl := Option.some.inj a2
          rcases a7 with ⟨-, f, b2, -⟩ | ⟨-, f, b2⟩
          · exact va_tlen (v := nI n) X0.1.1 X0.1.2.1 b2 h11 rfl hd (sx_go k1 hn h1 h2 h3 h4 h5 ⟨sx_vr.it e9, h6⟩ h7 h8 h9 h10 h11)
          · exact va_tlen (v := nI n) X0.1.1 X0.1.2.1 b2 h11 rfl hd (sx_go k1 hn h1 h2 h3 h4 h5 ⟨sx_vr.it e9, h6⟩ h7 h8 h9 h10 h11)
      · cases h
    · cases h
  · cases h
theorem sx_p42 (X : sx_X p s m args c D cl dA kt T tt kd ad A Gs own cc nL) (hGc : ∀ (h : Nat) (w : Cond), ev_hg Gc h = some w → w ∈ Gs) (hT : ev_okD Gs cl Ct Pg) (hRf : 1 ≤ R.frames) (hRl : 26 ≤ R.locals) (hok : ev_k42 Gc Ct kt Pg sm own nm cc nL ret cd st.1 i = true) (h : sx_o42 Ct T tt Y Md i st hs = some (out, hs')) (k : ∀ t ∈ out, ∀ x1, sx_g p l e R s m args below meth c Q D cl dA T Y kd ad A hh0 Md nL cd t (r ++ x1)) : sx_g p l e R s m args below meth c Q D cl dA T Y kd ad A hh0 Md nL cd st r := by
  obtain ⟨ix, L, S, B, F, G⟩ := st
  have X0 := X.1
  unfold ev_k42 at hok
  simp only [Bool.and_eq_true, decide_eq_true_eq] at hok
  unfold sx_o42 at h
  try dsimp only at hok
  split at h
  · next x k9 z9 S1 hS =>
    have hS : S = x :: (2, k9, z9) :: S1 := hS
    subst hS
    split at h
    · next ka n k8 lo hi zs9 hK =>
      split at h
      · next hv =>
        split at h
        · next hs1 hp =>
          intro H locs ls vs lv ws hh h1 h2 h3 h4 h5 h6 h7 h8 h9 h10 h11
          have h6q := h6.cons
          clear h6
          obtain ⟨xv, ys, rfl, hx, h6⟩ := h6q
          have h6q := h6.cons
          clear h6
          obtain ⟨xr, zs, rfl, hr9, h6⟩ := h6q
          obtain ⟨j9, c9, a9, g1, gi, g2, rfl⟩ := hr9.ref rfl
          obtain rfl := hv.2
          obtain ⟨i9, rfl, hi9⟩ := hx.int hv.1
          have p0 := sx_posA_ok h1 h2 _ _ _ hp
          have p1 := p0 _ List.mem_cons_self
          have p2 := p0 _ (List.mem_cons_of_mem _ List.mem_cons_self)
          rw [← hi9] at p1
          rw [sx_ev_sub, sx_ev_c, ← hi9] at p2
          have hin : vp_in i9 n := vp_in_iff.mpr (by omega)
          obtain ⟨E, hE, hr⟩ := h7.at g1 hK (by simp) g2
          obtain ⟨f, rfl, hf⟩ := hr.refs rfl
          obtain ⟨⟨hd, hn⟩, hq⟩ := hok
          cases hK9 : kt[i.2.2.1]? with
          | none => rw [hK9] at hq; cases hq
          | some ty =>
            rw [hK9] at hq
            have hlt : i9.toNatClampNeg < n := by rw [Int32.toNatClampNeg]; omega
            have ei : ((i9.toNatClampNeg : Nat) : Int) = sx_ev x.2.2 r := by rw [(sx_nat p1).2]; exact hi9
            obtain ⟨v1, v2, v3⟩ := (hf _ rfl _ hlt).rf rfl
            rw [gi, ei] at v1 v2 v3
            refine W.aald (v := va_rf (f i9.toNatClampNeg)) (ty := ty) X0.1.1 X0.1.2.1 (h9 j9 _ hE) ((X0.2.1.1.2 i.2.2.1 _ (ev_tys_at hK9)).1 n (fun j => va_rf (f j))) hq (fun q => by cases q) (by show ¬ (i9 < 0 ∨ (arrV _ _ _).slots.size ≤ _); rw [arrV_size]; exact hin) (by show (arrV _ _ _).slots[_]? = _; rw [arrV_read _ _ hlt]) rfl rfl hd ?_
            exact sx_rdv_ok h k rfl v2 v3 (fun r9 f9 e9 => sx_vr.rf (by rw [e9]; exact v1)) hn h1 h2 h3 h4 h5 h6 h7 h8 h9 h10 h11
        · cases h
      · cases h
    · next ka n k8 c0 c1 zs9 hK =>
      split at h
      · next hv =>
        split at h
        · next hs1 hp =>
          obtain ⟨rfl, rfl⟩ := Prod.mk.inj (Option.some.inj h)
          have k1 := sx_k1 k
          intro H locs ls vs lv ws hh h1 h2 h3 h4 h5 h6 h7 h8 h9 h10 h11
          have h6q := h6.cons
          clear h6
          obtain ⟨xv, ys, rfl, hx, h6⟩ := h6q
          have h6q := h6.cons
          clear h6
          obtain ⟨xr, zs, rfl, hr9, h6⟩ := h6q
          obtain ⟨j9, c9, a9, g1, gi, g2, rfl⟩ := hr9.ref rfl
          obtain rfl := hv.2
          obtain ⟨i9, rfl, hi9⟩ := hx.int hv.1
          have p0 := sx_posA_ok h1 h2 _ _ _ hp
          have p1 := p0 _ List.mem_cons_self
          have p2 := p0 _ (List.mem_cons_of_mem _ List.mem_cons_self)
          rw [← hi9] at p1
          rw [sx_ev_sub, sx_ev_c, ← hi9] at p2
          have hin : vp_in i9 n := vp_in_iff.mpr (by omega)
          obtain ⟨E, hE, hr⟩ := h7.at g1 hK (by simp) g2
          obtain ⟨f, rfl, hf⟩ := hr.refs rfl
          obtain ⟨⟨hd, hn⟩, hq⟩ := hok
          cases hK9 : kt[i.2.2.1]? with
          | none => rw [hK9] at hq; cases hq
          | some ty =>
            rw [hK9] at hq
            have hlt : i9.toNatClampNeg < n := by rw [Int32.toNatClampNeg]; omega
            have ei : ((i9.toNatClampNeg : Nat) : Int) = sx_ev x.2.2 r := by rw [(sx_nat p1).2]; exact hi9
            obtain ⟨v1, v2⟩ := (hf _ rfl _ hlt).rfx rfl
            rw [v2, gi, ei] at v1
            refine W.aald (v := va_rf (f i9.toNatClampNeg)) (ty := ty) X0.1.1 X0.1.2.1 (h9 j9 _ hE) ((X0.2.1.1.2 i.2.2.1 _ (ev_tys_at hK9)).1 n (fun j => va_rf (f j))) hq (fun q => by cases q) (by show ¬ (i9 < 0 ∨ (arrV _ _ _).slots.size ≤ _); rw [arrV_size]; exact hin) (by show (arrV _ _ _).slots[_]? = _; rw [arrV_read _ _ hlt]) rfl rfl hd ?_
            exact sx_go k1 hn h1 h2 h3 h4 h5 ⟨sx_vr.rf (by rw [sx_ev_add, sx_ev_add, sx_ev_c, sx_ev_mul]; exact v1), h6⟩ h7 h8 h9 h10 h11
        · cases h
      · cases h
    · cases h
  · cases h
theorem sx_p51 (X : sx_X p s m args c D cl dA kt T tt kd ad A Gs own cc nL) (hGc : ∀ (h : Nat) (w : Cond), ev_hg Gc h = some w → w ∈ Gs) (hT : ev_okD Gs cl Ct Pg) (hRf : 1 ≤ R.frames) (hRl : 26 ≤ R.locals) (hok : ev_k51 Gc Ct kt Pg sm own nm cc nL ret cd st.1 i = true) (h : sx_o51 Ct T tt Y Md i st hs = some (out, hs')) (k : ∀ t ∈ out, ∀ x1, sx_g p l e R s m args below meth c Q D cl dA T Y kd ad A hh0 Md nL cd t (r ++ x1)) : sx_g p l e R s m args below meth c Q D cl dA T Y kd ad A hh0 Md nL cd st r := by
  obtain ⟨ix, L, S, B, F, G⟩ := st
  have X0 := X.1
  unfold ev_k51 at hok
  simp only [Bool.and_eq_true, decide_eq_true_eq] at hok
  unfold sx_o51 at h
  try dsimp only at hok
  split at h
  · next x k9 z9 S1 hS =>
    have hS : S = x :: (2, k9, z9) :: S1 := hS
    subst hS
    split at h
    · next ka n z lo hi zs9 hK =>
      split at h
      · next hv =>
        split at h
        · next hs1 hp =>
          intro H locs ls vs lv ws hh h1 h2 h3 h4 h5 h6 h7 h8 h9 h10 h11
          have h6q := h6.cons
          clear h6
          obtain ⟨xv, ys, rfl, hx, h6⟩ := h6q
          have h6q := h6.cons
          clear h6
          obtain ⟨xr, zs, rfl, hr9, h6⟩ := h6q
          obtain ⟨j9, c9, a9, g1, gi, g2, rfl⟩ := hr9.ref rfl
          obtain ⟨i9, rfl, hi9⟩ := hx.int hv.1
          have p0 := sx_posA_ok h1 h2 _ _ _ hp
          have p1 := p0 _ List.mem_cons_self
          have p2 := p0 _ (List.mem_cons_of_mem _ List.mem_cons_self)
          rw [← hi9] at p1
          rw [sx_ev_sub, sx_ev_c, ← hi9] at p2
          have hin : vp_in i9 n := vp_in_iff.mpr (by omega)
          obtain ⟨-, rfl⟩ := hv
          obtain ⟨E, hE, hr⟩ := h7.at g1 hK (by simp) g2
          obtain ⟨f, rfl, hf⟩ := hr.ints rfl
          obtain ⟨v1, v2, v3⟩ := hf _ rfl i9.toNatClampNeg
          have ei : ((i9.toNatClampNeg : Nat) : Int) = sx_ev x.2.2 r := by rw [(sx_nat p1).2]; exact hi9
          rw [gi, ei] at v1
          rw [v1] at v2 v3
          exact va_iald X0.1.1 X0.1.2.1 X0.2.1.1 h9 j9 _ hE (ev_tys_at hok.2) hin hok.1.1 (sx_rdv_ok h k rfl v2 v3 (fun r9 f9 e9 => sx_vr.it (by rw [v1]; exact e9.symm)) hok.1.2 h1 h2 h3 h4 h5 h6 h7 h8 h9 h10 h11)
        · cases h
      · cases h
    · next n ys hK =>
      split at h
      · next hv =>
        split at h
        · next hs1 hp =>
          split at h
          · next hy1 =>
            split at h
            · next q1 q2 lo hi ys9 =>
              intro H locs ls vs lv ws hh h1 h2 h3 h4 h5 h6 h7 h8 h9 h10 h11
              have h6q := h6.cons
              clear h6
              obtain ⟨xv, ys, rfl, hx, h6⟩ := h6q
              have h6q := h6.cons
              clear h6
              obtain ⟨xr, zs, rfl, hr9, h6⟩ := h6q
              obtain ⟨j9, c9, a9, g1, gi, g2, rfl⟩ := hr9.ref rfl
              obtain ⟨i9, rfl, hi9⟩ := hx.int hv.1
              have p0 := sx_posA_ok h1 h2 _ _ _ hp
              have p1 := p0 _ List.mem_cons_self
              have p2 := p0 _ (List.mem_cons_of_mem _ List.mem_cons_self)
              rw [← hi9] at p1
              rw [sx_ev_sub, sx_ev_c, ← hi9] at p2
              have hin : vp_in i9 n := vp_in_iff.mpr (by omega)
              obtain ⟨-, ht⟩ := hv
              obtain ⟨q, hq1, hq2⟩ := List.any_eq_true.mp ht
              have hq2 : q.2.2.2 = k9 := eq_of_beq hq2
              obtain ⟨j, t9, K, a1, a2, a3, a4, a5, a6, a7⟩ := X.2.1 q hq1
              rw [hq2] at a1 a3 a4
              rw [hK] at a4
              obtain rfl := Option.some.inj a4
              obtain rfl := a3 j9 c9 g1
              rw [g2] at a2
              obtain rfl := Option.some.inj a2
              rcases a7 with ⟨-, f, b2, b3, -⟩ | ⟨b1, -⟩
              · have hlt : i9.toNatClampNeg < n := by rw [Int32.toNatClampNeg]; omega
                exact va_ti X0.1.1 X0.1.2.1 b2 h11 hin rfl hok.1.1 (sx_pu_ok h k (sx_new_ok h1 (b3 _ hy1 rfl _ hlt).1 (b3 _ hy1 rfl _ hlt).2) hok.1.2 h1 h2 h3 h4 h5 h6 h7 h8 h9 h10 h11)
              · exact absurd b1 (by simp)
            · cases h
          · next hy1 =>
            split at h
            · next hy2 =>
              obtain ⟨rfl, rfl⟩ := Prod.mk.inj (Option.some.inj h)
              intro H locs ls vs lv ws hh h1 h2 h3 h4 h5 h6 h7 h8 h9 h10 h11
              have h6q := h6.cons
              clear h6
              obtain ⟨xv, ys, rfl, hx, h6⟩ := h6q
              have h6q := h6.cons
              clear h6
              obtain ⟨xr, zs, rfl, hr9, h6⟩ := h6q
              obtain ⟨j9, c9, a9, g1, gi, g2, rfl⟩ := hr9.ref rfl
              obtain ⟨i9, rfl, hi9⟩ := hx.int hv.1
              have p0 := sx_posA_ok h1 h2 _ _ _ hp
              have p1 := p0 _ List.mem_cons_self
              have p2 := p0 _ (List.mem_cons_of_mem _ List.mem_cons_self)
              rw [← hi9] at p1
              rw [sx_ev_sub, sx_ev_c, ← hi9] at p2
              have hin : vp_in i9 n := vp_in_iff.mpr (by omega)
              obtain ⟨-, ht⟩ := hv
              obtain ⟨q, hq1, hq2⟩ := List.any_eq_true.mp ht
              have hq2 : q.2.2.2 = k9 := eq_of_beq hq2
              obtain ⟨j, t9, K, a1, a2, a3, a4, a5, a6, a7⟩ := X.2.1 q hq1
              rw [hq2] at a1 a3 a4
              rw [hK] at a4
              obtain rfl := Option.some.inj a4
              obtain rfl := a3 j9 c9 g1
              rw [g2] at a2
              obtain rfl := Option.some.inj a2
              rcases a7 with ⟨-, f, b2, -, b3⟩ | ⟨b1, -⟩
              · have hlt : i9.toNatClampNeg < n := by rw [Int32.toNatClampNeg]; omega
                have hgy : ys[i9.toNatClampNeg]? = some ys[i9.toNatClampNeg] := List.getElem?_eq_getElem (by omega)
                refine va_ti X0.1.1 X0.1.2.1 b2 h11 hin rfl hok.1.1 (sx_br_ok (S := (0, 0, [(ys[i9.toNatClampNeg]).2.2.1]) :: S1) (fun t ht => sx_kz (k t (List.mem_flatMap.mpr ⟨i9.toNatClampNeg, List.mem_range.mpr hlt, by rw [hgy]; exact ht⟩))) (sx_cf_ok h1 ?_) hok.1.2 h1 h2 h3 h4 h5 ⟨sx_vr.it (by rw [sx_ev_c]; exact (b3 _ _ hy1 hlt hgy).symm), h6⟩ h7 h8 h9 h10 h11)
                show sx_ev _ r = 0
                rw [sx_ev_sub, sx_ev_c, (sx_nat p1).2, hi9]
                omega
              · exact absurd b1 (by simp)
            · cases h
        · cases h
      · cases h
    · cases h
  · cases h
theorem sx_p52 (X : sx_X p s m args c D cl dA kt T tt kd ad A Gs own cc nL) (hGc : ∀ (h : Nat) (w : Cond), ev_hg Gc h = some w → w ∈ Gs) (hT : ev_okD Gs cl Ct Pg) (hRf : 1 ≤ R.frames) (hRl : 26 ≤ R.locals) (hok : ev_k52 Gc Ct kt Pg sm own nm cc nL ret cd st.1 i = true) (h : sx_o52 Ct T tt Y Md i st hs = some (out, hs')) (k : ∀ t ∈ out, ∀ x1, sx_g p l e R s m args below meth c Q D cl dA T Y kd ad A hh0 Md nL cd t (r ++ x1)) : sx_g p l e R s m args below meth c Q D cl dA T Y kd ad A hh0 Md nL cd st r := by
  obtain ⟨ix, L, S, B, F, G⟩ := st
  have X0 := X.1
  unfold ev_k52 at hok
  simp only [Bool.and_eq_true, decide_eq_true_eq] at hok
  unfold sx_o52 at h
  try dsimp only at hok
  split at h
  · next x k9 z9 S1 hS =>
    have hS : S = x :: (2, k9, z9) :: S1 := hS
    subst hS
    split at h
    · next ka n z lo hi zs9 hK =>
      split at h
      · next hv =>
        split at h
        · next hs1 hp =>
          intro H locs ls vs lv ws hh h1 h2 h3 h4 h5 h6 h7 h8 h9 h10 h11
          have h6q := h6.cons
          clear h6
          obtain ⟨xv, ys, rfl, hx, h6⟩ := h6q
          have h6q := h6.cons
          clear h6
          obtain ⟨xr, zs, rfl, hr9, h6⟩ := h6q
          obtain ⟨j9, c9, a9, g1, gi, g2, rfl⟩ := hr9.ref rfl
          obtain ⟨i9, rfl, hi9⟩ := hx.int hv.1
          have p0 := sx_posA_ok h1 h2 _ _ _ hp
          have p1 := p0 _ List.mem_cons_self
          have p2 := p0 _ (List.mem_cons_of_mem _ List.mem_cons_self)
          rw [← hi9] at p1
          rw [sx_ev_sub, sx_ev_c, ← hi9] at p2
          have hin : vp_in i9 n := vp_in_iff.mpr (by omega)
          obtain ⟨-, rfl⟩ := hv
          obtain ⟨E, hE, hr⟩ := h7.at g1 hK (by simp) g2
          obtain ⟨f, rfl, hf⟩ := hr.ints rfl
          obtain ⟨v1, v2, v3⟩ := hf _ rfl i9.toNatClampNeg
          have ei : ((i9.toNatClampNeg : Nat) : Int) = sx_ev x.2.2 r := by rw [(sx_nat p1).2]; exact hi9
          rw [gi, ei] at v1
          rw [v1] at v2 v3
          exact va_bald X0.1.1 X0.1.2.1 X0.2.1.1 h9 j9 _ hE (ev_tys_at hok.2) hin hok.1.1 (sx_rdv_ok h k rfl v2 v3 (fun r9 f9 e9 => sx_vr.it (by rw [v1]; exact e9.symm)) hok.1.2 h1 h2 h3 h4 h5 h6 h7 h8 h9 h10 h11)
        · cases h
      · cases h
    · cases h
  · cases h
theorem sx_p53 (X : sx_X p s m args c D cl dA kt T tt kd ad A Gs own cc nL) (hGc : ∀ (h : Nat) (w : Cond), ev_hg Gc h = some w → w ∈ Gs) (hT : ev_okD Gs cl Ct Pg) (hRf : 1 ≤ R.frames) (hRl : 26 ≤ R.locals) (hok : ev_k53 Gc Ct kt Pg sm own nm cc nL ret cd st.1 i = true) (h : sx_o53 Ct T tt Y Md i st hs = some (out, hs')) (k : ∀ t ∈ out, ∀ x1, sx_g p l e R s m args below meth c Q D cl dA T Y kd ad A hh0 Md nL cd t (r ++ x1)) : sx_g p l e R s m args below meth c Q D cl dA T Y kd ad A hh0 Md nL cd st r := by
  obtain ⟨ix, L, S, B, F, G⟩ := st
  have X0 := X.1
  unfold ev_k53 at hok
  simp only [Bool.and_eq_true, decide_eq_true_eq] at hok
  unfold sx_o53 at h
  try dsimp only at hok
  split at h
  · next x k9 z9 S1 hS =>
    have hS : S = x :: (2, k9, z9) :: S1 := hS
    subst hS
    split at h
    · next ka n z lo hi zs9 hK =>
      split at h
      · next hv =>
        split at h
        · next hs1 hp =>
          intro H locs ls vs lv ws hh h1 h2 h3 h4 h5 h6 h7 h8 h9 h10 h11
          have h6q := h6.cons
          clear h6
          obtain ⟨xv, ys, rfl, hx, h6⟩ := h6q
          have h6q := h6.cons
          clear h6
          obtain ⟨xr, zs, rfl, hr9, h6⟩ := h6q
          obtain ⟨j9, c9, a9, g1, gi, g2, rfl⟩ := hr9.ref rfl
          obtain ⟨i9, rfl, hi9⟩ := hx.int hv.1
          have p0 := sx_posA_ok h1 h2 _ _ _ hp
          have p1 := p0 _ List.mem_cons_self
          have p2 := p0 _ (List.mem_cons_of_mem _ List.mem_cons_self)
          rw [← hi9] at p1
          rw [sx_ev_sub, sx_ev_c, ← hi9] at p2
          have hin : vp_in i9 n := vp_in_iff.mpr (by omega)
          obtain ⟨-, rfl⟩ := hv
          obtain ⟨E, hE, hr⟩ := h7.at g1 hK (by simp) g2
          obtain ⟨f, rfl, hf⟩ := hr.ints rfl
          obtain ⟨v1, v2, v3⟩ := hf _ rfl i9.toNatClampNeg
          have ei : ((i9.toNatClampNeg : Nat) : Int) = sx_ev x.2.2 r := by rw [(sx_nat p1).2]; exact hi9
          rw [gi, ei] at v1
          rw [v1] at v2 v3
          exact va_zald X0.1.1 X0.1.2.1 X0.2.1.1 h9 j9 _ hE (ev_tys_at hok.2) hin hok.1.1 (sx_rdv_ok h k rfl v2 v3 (fun r9 f9 e9 => sx_vr.it (by rw [v1]; exact e9.symm)) hok.1.2 h1 h2 h3 h4 h5 h6 h7 h8 h9 h10 h11)
        · cases h
      · cases h
    · cases h
  · cases h
theorem sx_p54 (X : sx_X p s m args c D cl dA kt T tt kd ad A Gs own cc nL) (hGc : ∀ (h : Nat) (w : Cond), ev_hg Gc h = some w → w ∈ Gs) (hT : ev_okD Gs cl Ct Pg) (hRf : 1 ≤ R.frames) (hRl : 26 ≤ R.locals) (hok : ev_k54 Gc Ct kt Pg sm own nm cc nL ret cd st.1 i = true) (h : sx_o54 Ct T tt Y Md i st hs = some (out, hs')) (k : ∀ t ∈ out, ∀ x1, sx_g p l e R s m args below meth c Q D cl dA T Y kd ad A hh0 Md nL cd t (r ++ x1)) : sx_g p l e R s m args below meth c Q D cl dA T Y kd ad A hh0 Md nL cd st r := by
  obtain ⟨ix, L, S, B, F, G⟩ := st
  have X0 := X.1
  unfold ev_k54 at hok
  simp only [Bool.and_eq_true, decide_eq_true_eq] at hok
  unfold sx_o54 at h
  try dsimp only at hok
  split at h
  · next x k9 z9 S1 hS =>
    have hS : S = x :: (2, k9, z9) :: S1 := hS
    subst hS
    split at h
    · next tg ka n ts hK =>
      split at h
      · next hv =>
        split at h
        · next hs1 hp =>
          obtain ⟨rfl, rfl⟩ := Prod.mk.inj (Option.some.inj h)
          have k1 := sx_k1 k
          intro H locs ls vs lv ws hh h1 h2 h3 h4 h5 h6 h7 h8 h9 h10 h11
          have h6q := h6.cons
          clear h6
          obtain ⟨xv, ys, rfl, hx, h6⟩ := h6q
          have h6q := h6.cons
          clear h6
          obtain ⟨xr, zs, rfl, hr9, h6⟩ := h6q
          obtain ⟨j9, c9, a9, g1, gi, g2, rfl⟩ := hr9.ref rfl
          obtain ⟨i9, rfl, hi9⟩ := hx.int hv.1
          have p0 := sx_posA_ok h1 h2 _ _ _ hp
          have p1 := p0 _ List.mem_cons_self
          have p2 := p0 _ (List.mem_cons_of_mem _ List.mem_cons_self)
          rw [← hi9] at p1
          rw [sx_ev_sub, sx_ev_c, ← hi9] at p2
          have hin : vp_in i9 n := vp_in_iff.mpr (by omega)
          rcases hv.2 with ⟨rfl, rfl⟩ | ⟨rfl, rfl, ht⟩
          · obtain ⟨E, hE, hr⟩ := h7.at g1 hK (by simp) g2
            obtain ⟨f, rfl⟩ := hr.longs rfl
            exact va_lald X0.1.1 X0.1.2.1 X0.2.1.1 h9 j9 _ hE (ev_tys_at hok.2) hin hok.1.1 (sx_go k1 hok.1.2 h1 h2 h3 h4 h5 ⟨sx_vr.lg _ _ _, h6⟩ h7 h8 h9 h10 h11)
          · obtain ⟨q, hq1, hq2⟩ := List.any_eq_true.mp ht
            have hq2 : q.2.2.2 = k9 := eq_of_beq hq2
            obtain ⟨j, t9, K, a1, a2, a3, a4, a5, a6, a7⟩ := X.2.1 q hq1
            rw [hq2] at a1 a3 a4
            rw [hK] at a4
            obtain rfl := Option.some.inj a4
            obtain rfl := a3 j9 c9 g1
            rw [g2] at a2
            obtain rfl := Option.some.inj a2
            rcases a7 with ⟨b1, -⟩ | ⟨-, f, b2⟩
            · exact absurd b1 (by simp)
            · exact va_tl X0.1.1 X0.1.2.1 b2 h11 hin rfl hok.1.1 (sx_go k1 hok.1.2 h1 h2 h3 h4 h5 ⟨sx_vr.lg _ _ _, h6⟩ h7 h8 h9 h10 h11)
        · cases h
      · cases h
    · cases h
  · cases h
theorem sx_p59 (X : sx_X p s m args c D cl dA kt T tt kd ad A Gs own cc nL) (hGc : ∀ (h : Nat) (w : Cond), ev_hg Gc h = some w → w ∈ Gs) (hT : ev_okD Gs cl Ct Pg) (hRf : 1 ≤ R.frames) (hRl : 26 ≤ R.locals) (hok : ev_k59 Gc Ct kt Pg sm own nm cc nL ret cd st.1 i = true) (h : sx_o59 Ct T tt Y Md i st hs = some (out, hs')) (k : ∀ t ∈ out, ∀ x1, sx_g p l e R s m args below meth c Q D cl dA T Y kd ad A hh0 Md nL cd t (r ++ x1)) : sx_g p l e R s m args below meth c Q D cl dA T Y kd ad A hh0 Md nL cd st r := by
  obtain ⟨ix, L, S, B, F, G⟩ := st
  have X0 := X.1
  unfold ev_k59 at hok
  simp only [Bool.and_eq_true, decide_eq_true_eq] at hok
  unfold sx_o59 at h
  try dsimp only at hok
  split at h
  · next v x k9 z9 S1 hS =>
    have hS : S = v :: x :: (2, k9, z9) :: S1 := hS
    subst hS
    split at h
    · next ka n z lo hi zs9 hK =>
      split at h
      · next hv =>
        split at h
        · next hs1 hp =>
          split at h
          · next hs2 hp2 =>
            intro H locs ls vs lv ws hh h1 h2 h3 h4 h5 h6 h7 h8 h9 h10 h11
            have h6q := h6.cons
            clear h6
            obtain ⟨vv, ys, rfl, hw9, h6⟩ := h6q
            have h6q := h6.cons
            clear h6
            obtain ⟨xv, zs, rfl, hx, h6⟩ := h6q
            have h6q := h6.cons
            clear h6
            obtain ⟨xr, us, rfl, hr9, h6⟩ := h6q
            obtain ⟨j9, c9, a9, g1, gi, g2, rfl⟩ := hr9.ref rfl
            obtain ⟨v9, rfl, hv9⟩ := hw9.int hv.1
            obtain rfl := hv.2.2.2
            obtain ⟨i9, rfl, hi9⟩ := hx.int hv.2.1
            have p0 := sx_posA_ok h1 h2 _ _ _ hp
            have p1 := p0 _ List.mem_cons_self
            have p2 := p0 _ (List.mem_cons_of_mem _ List.mem_cons_self)
            rw [← hi9] at p1
            rw [sx_ev_sub, sx_ev_c, ← hi9] at p2
            have hin : vp_in i9 n := vp_in_iff.mpr (by omega)
            have q0 := sx_posA_ok h1 h2 _ _ _ hp2
            have q1 := q0 _ List.mem_cons_self
            have q2 := q0 _ (List.mem_cons_of_mem _ List.mem_cons_self)
            rw [sx_ev_sub, sx_ev_c] at q1
            rw [sx_ev_sub, sx_ev_c] at q2
            have hnv : v9.toInt = sx_ev v.2.2 r := hv9
            obtain ⟨E, hE, hr⟩ := h7.at g1 hK (by simp) g2
            obtain ⟨f, rfl, hf⟩ := hr.ints rfl
            have ei : ((i9.toNatClampNeg : Nat) : Int) = sx_ev x.2.2 r := by rw [(sx_nat p1).2]; exact hi9
            refine va_iast X0.1.1 X0.1.2.1 X0.2.1.1 h9 h10 h11 j9 _ hE (ev_tys_at hok.2) hin hok.1.1 (fun H1 locs1 e9 e10 e11 => ?_)
            have h7' := h7.set (g := fun z' => if z' = sx_ev x.2.2 r then sx_ev v.2.2 r else hh k9 c9 z') X.2.2 g1 hK g2 hE (sx_cr.ofints (f := upd f i9.toNatClampNeg v9) rfl (fun y hy j => ?_))
            · rw [gi] at h7'
              exact sx_wt_ok h k (Or.inl ⟨rfl, rfl⟩) (Or.inr rfl) hok.1.2 h1 h2 h3 h4 h5 h6 h7' (h8.tr (sx_fr.arr hv.2.2.1)) e9 e10 e11
            · obtain rfl : (0, z, lo, hi) = y := Option.some.inj hy
              by_cases hj : j = i9.toNatClampNeg
              · subst hj
                rw [pk_us, if_pos ei]
                exact ⟨by first | exact hnv | (rw [hnv]), by show lo ≤ _; omega, by show _ ≤ hi; omega⟩
              · rw [pk_un hj, if_neg (by omega)]
                exact hf _ rfl j
          · cases h
        · cases h
      · cases h
    · cases h
  · cases h
theorem sx_p60 (X : sx_X p s m args c D cl dA kt T tt kd ad A Gs own cc nL) (hGc : ∀ (h : Nat) (w : Cond), ev_hg Gc h = some w → w ∈ Gs) (hT : ev_okD Gs cl Ct Pg) (hRf : 1 ≤ R.frames) (hRl : 26 ≤ R.locals) (hok : ev_k60 Gc Ct kt Pg sm own nm cc nL ret cd st.1 i = true) (h : sx_o60 Ct T tt Y Md i st hs = some (out, hs')) (k : ∀ t ∈ out, ∀ x1, sx_g p l e R s m args below meth c Q D cl dA T Y kd ad A hh0 Md nL cd t (r ++ x1)) : sx_g p l e R s m args below meth c Q D cl dA T Y kd ad A hh0 Md nL cd st r := by
  obtain ⟨ix, L, S, B, F, G⟩ := st
  have X0 := X.1
  unfold ev_k60 at hok
  simp only [Bool.and_eq_true, decide_eq_true_eq] at hok
  unfold sx_o60 at h
  try dsimp only at hok
  split at h
  · next v x k9 z9 S1 hS =>
    have hS : S = v :: x :: (2, k9, z9) :: S1 := hS
    subst hS
    split at h
    · next ka n z lo hi zs9 hK =>
      split at h
      · next hv =>
        split at h
        · next hs1 hp =>
          split at h
          · next hb =>
            intro H locs ls vs lv ws hh h1 h2 h3 h4 h5 h6 h7 h8 h9 h10 h11
            have h6q := h6.cons
            clear h6
            obtain ⟨vv, ys, rfl, hw9, h6⟩ := h6q
            have h6q := h6.cons
            clear h6
            obtain ⟨xv, zs, rfl, hx, h6⟩ := h6q
            have h6q := h6.cons
            clear h6
            obtain ⟨xr, us, rfl, hr9, h6⟩ := h6q
            obtain ⟨j9, c9, a9, g1, gi, g2, rfl⟩ := hr9.ref rfl
            obtain ⟨v9, rfl, hv9⟩ := hw9.int hv.1
            obtain rfl := hv.2.2.2.1
            obtain ⟨i9, rfl, hi9⟩ := hx.int hv.2.1
            have p0 := sx_posA_ok h1 h2 _ _ _ hp
            have p1 := p0 _ List.mem_cons_self
            have p2 := p0 _ (List.mem_cons_of_mem _ List.mem_cons_self)
            rw [← hi9] at p1
            rw [sx_ev_sub, sx_ev_c, ← hi9] at p2
            have hin : vp_in i9 n := vp_in_iff.mpr (by omega)
            have q1 := sx_lo_ok (f := v.2.2) h1
            have q2 := sx_hi_ok (f := v.2.2) h1
            have hb1 := hb.1
            have hb2 := hb.2
            have hb3 := hv.2.2.2.2
            dsimp only at hb1 hb2 q1 q2
            have hnv : (vp_nar .byte v9).toInt = sx_ev v.2.2 r := by rw [sx_nb_id v9 (by omega) (by omega)]; exact hv9
            obtain ⟨E, hE, hr⟩ := h7.at g1 hK (by simp) g2
            obtain ⟨f, rfl, hf⟩ := hr.ints rfl
            have ei : ((i9.toNatClampNeg : Nat) : Int) = sx_ev x.2.2 r := by rw [(sx_nat p1).2]; exact hi9
            refine va_bast X0.1.1 X0.1.2.1 X0.2.1.1 h9 h10 h11 j9 _ hE (ev_tys_at hok.2) hin hok.1.1 (fun H1 locs1 e9 e10 e11 => ?_)
            have h7' := h7.set (g := fun z' => if z' = sx_ev x.2.2 r then sx_ev v.2.2 r else hh k9 c9 z') X.2.2 g1 hK g2 hE (sx_cr.ofints (f := upd f i9.toNatClampNeg (vp_nar .byte v9)) rfl (fun y hy j => ?_))
            · rw [gi] at h7'
              exact sx_wt_ok h k (Or.inl ⟨rfl, rfl⟩) (Or.inr rfl) hok.1.2 h1 h2 h3 h4 h5 h6 h7' (h8.tr (sx_fr.arr hv.2.2.1)) e9 e10 e11
            · obtain rfl : (0, z, lo, hi) = y := Option.some.inj hy
              by_cases hj : j = i9.toNatClampNeg
              · subst hj
                rw [pk_us, if_pos ei]
                exact ⟨by first | exact hnv | (rw [hnv]), by show lo ≤ _; omega, by show _ ≤ hi; omega⟩
              · rw [pk_un hj, if_neg (by omega)]
                exact hf _ rfl j
          · intro H locs ls vs lv ws hh h1 h2 h3 h4 h5 h6 h7 h8 h9 h10 h11
            have h6q := h6.cons
            clear h6
            obtain ⟨vv, ys, rfl, hw9, h6⟩ := h6q
            have h6q := h6.cons
            clear h6
            obtain ⟨xv, zs, rfl, hx, h6⟩ := h6q
            have h6q := h6.cons
            clear h6
            obtain ⟨xr, us, rfl, hr9, h6⟩ := h6q
            obtain ⟨j9, c9, a9, g1, gi, g2, rfl⟩ := hr9.ref rfl
            obtain ⟨v9, rfl, hv9⟩ := hw9.int hv.1
            obtain rfl := hv.2.2.2.1
            obtain ⟨i9, rfl, hi9⟩ := hx.int hv.2.1
            have p0 := sx_posA_ok h1 h2 _ _ _ hp
            have p1 := p0 _ List.mem_cons_self
            have p2 := p0 _ (List.mem_cons_of_mem _ List.mem_cons_self)
            rw [← hi9] at p1
            rw [sx_ev_sub, sx_ev_c, ← hi9] at p2
            have hin : vp_in i9 n := vp_in_iff.mpr (by omega)
            obtain ⟨E, hE, hr⟩ := h7.at g1 hK (by simp) g2
            obtain ⟨f, rfl, hf⟩ := hr.ints rfl
            refine va_bast X0.1.1 X0.1.2.1 X0.2.1.1 h9 h10 h11 j9 _ hE (ev_tys_at hok.2) hin hok.1.1 (fun H1 locs1 e9 e10 e11 => ?_)
            have h7' := h7.set (g := fun z' => (upd f i9.toNatClampNeg (vp_nar .byte v9) z'.toNat).toInt) X.2.2 g1 hK g2 hE (sx_cr.ofints (f := upd f i9.toNatClampNeg (vp_nar .byte v9)) rfl (fun y hy j => ⟨by rw [Int.toNat_natCast], ?_⟩))
            · rw [gi] at h7'
              exact sx_wt_ok h k (Or.inr ⟨rfl, _, rfl⟩) (Or.inr rfl) hok.1.2 h1 h2 h3 h4 h5 h6 h7' (h8.tr (sx_fr.arr hv.2.2.1)) e9 e10 e11
            · obtain rfl : (0, z, lo, hi) = y := Option.some.inj hy
              by_cases hj : j = i9.toNatClampNeg
              · rw [hj, pk_us]
                exact sx_nb v9 hv.2.2.2.2
              · rw [pk_un hj]
                exact (hf _ rfl j).2
        · cases h
      · cases h
    · cases h
  · cases h
theorem sx_p61 (X : sx_X p s m args c D cl dA kt T tt kd ad A Gs own cc nL) (hGc : ∀ (h : Nat) (w : Cond), ev_hg Gc h = some w → w ∈ Gs) (hT : ev_okD Gs cl Ct Pg) (hRf : 1 ≤ R.frames) (hRl : 26 ≤ R.locals) (hok : ev_k61 Gc Ct kt Pg sm own nm cc nL ret cd st.1 i = true) (h : sx_o61 Ct T tt Y Md i st hs = some (out, hs')) (k : ∀ t ∈ out, ∀ x1, sx_g p l e R s m args below meth c Q D cl dA T Y kd ad A hh0 Md nL cd t (r ++ x1)) : sx_g p l e R s m args below meth c Q D cl dA T Y kd ad A hh0 Md nL cd st r := by
  obtain ⟨ix, L, S, B, F, G⟩ := st
  have X0 := X.1
  unfold ev_k61 at hok
  simp only [Bool.and_eq_true, decide_eq_true_eq] at hok
  unfold sx_o61 at h
  try dsimp only at hok
  split at h
  · next v x k9 z9 S1 hS =>
    have hS : S = v :: x :: (2, k9, z9) :: S1 := hS
    subst hS
    split at h
    · next ka n z lo hi zs9 hK =>
      split at h
      · next hv =>
        split at h
        · next hs1 hp =>
          split at h
          · next hb =>
            intro H locs ls vs lv ws hh h1 h2 h3 h4 h5 h6 h7 h8 h9 h10 h11
            have h6q := h6.cons
            clear h6
            obtain ⟨vv, ys, rfl, hw9, h6⟩ := h6q
            have h6q := h6.cons
            clear h6
            obtain ⟨xv, zs, rfl, hx, h6⟩ := h6q
            have h6q := h6.cons
            clear h6
            obtain ⟨xr, us, rfl, hr9, h6⟩ := h6q
            obtain ⟨j9, c9, a9, g1, gi, g2, rfl⟩ := hr9.ref rfl
            obtain ⟨v9, rfl, hv9⟩ := hw9.int hv.1
            obtain rfl := hv.2.2.2.1
            obtain ⟨i9, rfl, hi9⟩ := hx.int hv.2.1
            have p0 := sx_posA_ok h1 h2 _ _ _ hp
            have p1 := p0 _ List.mem_cons_self
            have p2 := p0 _ (List.mem_cons_of_mem _ List.mem_cons_self)
            rw [← hi9] at p1
            rw [sx_ev_sub, sx_ev_c, ← hi9] at p2
            have hin : vp_in i9 n := vp_in_iff.mpr (by omega)
            have q1 := sx_lo_ok (f := v.2.2) h1
            have q2 := sx_hi_ok (f := v.2.2) h1
            have hb1 := hb.1
            have hb2 := hb.2
            have hb3 := hv.2.2.2.2
            dsimp only at hb1 hb2 q1 q2
            have hnv : (vp_nar .boolean v9).toInt = sx_ev v.2.2 r := by rw [sx_nz_id v9 (by omega) (by omega)]; exact hv9
            obtain ⟨E, hE, hr⟩ := h7.at g1 hK (by simp) g2
            obtain ⟨f, rfl, hf⟩ := hr.ints rfl
            have ei : ((i9.toNatClampNeg : Nat) : Int) = sx_ev x.2.2 r := by rw [(sx_nat p1).2]; exact hi9
            refine va_zast X0.1.1 X0.1.2.1 X0.2.1.1 h9 h10 h11 j9 _ hE (ev_tys_at hok.2) hin hok.1.1 (fun H1 locs1 e9 e10 e11 => ?_)
            have h7' := h7.set (g := fun z' => if z' = sx_ev x.2.2 r then sx_ev v.2.2 r else hh k9 c9 z') X.2.2 g1 hK g2 hE (sx_cr.ofints (f := upd f i9.toNatClampNeg (vp_nar .boolean v9)) rfl (fun y hy j => ?_))
            · rw [gi] at h7'
              exact sx_wt_ok h k (Or.inl ⟨rfl, rfl⟩) (Or.inr rfl) hok.1.2 h1 h2 h3 h4 h5 h6 h7' (h8.tr (sx_fr.arr hv.2.2.1)) e9 e10 e11
            · obtain rfl : (0, z, lo, hi) = y := Option.some.inj hy
              by_cases hj : j = i9.toNatClampNeg
              · subst hj
                rw [pk_us, if_pos ei]
                exact ⟨by first | exact hnv | (rw [hnv]), by show lo ≤ _; omega, by show _ ≤ hi; omega⟩
              · rw [pk_un hj, if_neg (by omega)]
                exact hf _ rfl j
          · intro H locs ls vs lv ws hh h1 h2 h3 h4 h5 h6 h7 h8 h9 h10 h11
            have h6q := h6.cons
            clear h6
            obtain ⟨vv, ys, rfl, hw9, h6⟩ := h6q
            have h6q := h6.cons
            clear h6
            obtain ⟨xv, zs, rfl, hx, h6⟩ := h6q
            have h6q := h6.cons
            clear h6
            obtain ⟨xr, us, rfl, hr9, h6⟩ := h6q
            obtain ⟨j9, c9, a9, g1, gi, g2, rfl⟩ := hr9.ref rfl
            obtain ⟨v9, rfl, hv9⟩ := hw9.int hv.1
            obtain rfl := hv.2.2.2.1
            obtain ⟨i9, rfl, hi9⟩ := hx.int hv.2.1
            have p0 := sx_posA_ok h1 h2 _ _ _ hp
            have p1 := p0 _ List.mem_cons_self
            have p2 := p0 _ (List.mem_cons_of_mem _ List.mem_cons_self)
            rw [← hi9] at p1
            rw [sx_ev_sub, sx_ev_c, ← hi9] at p2
            have hin : vp_in i9 n := vp_in_iff.mpr (by omega)
            obtain ⟨E, hE, hr⟩ := h7.at g1 hK (by simp) g2
            obtain ⟨f, rfl, hf⟩ := hr.ints rfl
            refine va_zast X0.1.1 X0.1.2.1 X0.2.1.1 h9 h10 h11 j9 _ hE (ev_tys_at hok.2) hin hok.1.1 (fun H1 locs1 e9 e10 e11 => ?_)
            have h7' := h7.set (g := fun z' => (upd f i9.toNatClampNeg (vp_nar .boolean v9) z'.toNat).toInt) X.2.2 g1 hK g2 hE (sx_cr.ofints (f := upd f i9.toNatClampNeg (vp_nar .boolean v9)) rfl (fun y hy j => ⟨by rw [Int.toNat_natCast], ?_⟩))
            · rw [gi] at h7'
              exact sx_wt_ok h k (Or.inr ⟨rfl, _, rfl⟩) (Or.inr rfl) hok.1.2 h1 h2 h3 h4 h5 h6 h7' (h8.tr (sx_fr.arr hv.2.2.1)) e9 e10 e11
            · obtain rfl : (0, z, lo, hi) = y := Option.some.inj hy
              by_cases hj : j = i9.toNatClampNeg
              · rw [hj, pk_us]
                exact sx_nz v9 hv.2.2.2.2
              · rw [pk_un hj]
                exact (hf _ rfl j).2
        · cases h
      · cases h
    · cases h
  · cases h
theorem sx_p62 (X : sx_X p s m args c D cl dA kt T tt kd ad A Gs own cc nL) (hGc : ∀ (h : Nat) (w : Cond), ev_hg Gc h = some w → w ∈ Gs) (hT : ev_okD Gs cl Ct Pg) (hRf : 1 ≤ R.frames) (hRl : 26 ≤ R.locals) (hok : ev_k62 Gc Ct kt Pg sm own nm cc nL ret cd st.1 i = true) (h : sx_o62 Ct T tt Y Md i st hs = some (out, hs')) (k : ∀ t ∈ out, ∀ x1, sx_g p l e R s m args below meth c Q D cl dA T Y kd ad A hh0 Md nL cd t (r ++ x1)) : sx_g p l e R s m args below meth c Q D cl dA T Y kd ad A hh0 Md nL cd st r := by
  obtain ⟨ix, L, S, B, F, G⟩ := st
  have X0 := X.1
  unfold ev_k62 at hok
  simp only [Bool.and_eq_true, decide_eq_true_eq] at hok
  unfold sx_o62 at h
  try dsimp only at hok
  split at h
  · next v x k9 z9 S1 hS =>
    have hS : S = v :: x :: (2, k9, z9) :: S1 := hS
    subst hS
    split at h
    · next ka n ts hK =>
      split at h
      · next hv =>
        split at h
        · next hs1 hp =>
          obtain ⟨rfl, rfl⟩ := Prod.mk.inj (Option.some.inj h)
          have k1 := sx_k1 k
          intro H locs ls vs lv ws hh h1 h2 h3 h4 h5 h6 h7 h8 h9 h10 h11
          have h6q := h6.cons
          clear h6
          obtain ⟨vv, ys, rfl, hw9, h6⟩ := h6q
          have h6q := h6.cons
          clear h6
          obtain ⟨xv, zs, rfl, hx, h6⟩ := h6q
          have h6q := h6.cons
          clear h6
          obtain ⟨xr, us, rfl, hr9, h6⟩ := h6q
          obtain ⟨j9, c9, a9, g1, gi, g2, rfl⟩ := hr9.ref rfl
          obtain ⟨v9, rfl⟩ := hw9.long hv.1
          obtain rfl := hv.2.2
          obtain ⟨i9, rfl, hi9⟩ := hx.int hv.2.1
          have p0 := sx_posA_ok h1 h2 _ _ _ hp
          have p1 := p0 _ List.mem_cons_self
          have p2 := p0 _ (List.mem_cons_of_mem _ List.mem_cons_self)
          rw [← hi9] at p1
          rw [sx_ev_sub, sx_ev_c, ← hi9] at p2
          have hin : vp_in i9 n := vp_in_iff.mpr (by omega)
          obtain ⟨E, hE, hr⟩ := h7.at g1 hK (by simp) g2
          obtain ⟨f, rfl⟩ := hr.longs rfl
          refine va_last X0.1.1 X0.1.2.1 X0.2.1.1 h9 h10 h11 j9 _ hE (ev_tys_at hok.2) hin hok.1.1 (fun H1 locs1 e9 e10 e11 => ?_)
          have h7' := h7.set (g := hh k9 c9) X.2.2 g1 hK g2 hE (sx_cr.oflongs (f := vp_updL f i9.toNatClampNeg v9) rfl)
          rw [sx_up_id] at h7'
          exact sx_go k1 hok.1.2 h1 h2 h3 h4 h5 h6 h7' h8 e9 e10 e11
        · cases h
      · cases h
    · cases h
  · cases h
theorem sx_p63 (X : sx_X p s m args c D cl dA kt T tt kd ad A Gs own cc nL) (hGc : ∀ (h : Nat) (w : Cond), ev_hg Gc h = some w → w ∈ Gs) (hT : ev_okD Gs cl Ct Pg) (hRf : 1 ≤ R.frames) (hRl : 26 ≤ R.locals) (hok : ev_k63 Gc Ct kt Pg sm own nm cc nL ret cd st.1 i = true) (h : sx_o63 Ct T tt Y Md i st hs = some (out, hs')) (k : ∀ t ∈ out, ∀ x1, sx_g p l e R s m args below meth c Q D cl dA T Y kd ad A hh0 Md nL cd t (r ++ x1)) : sx_g p l e R s m args below meth c Q D cl dA T Y kd ad A hh0 Md nL cd st r := by
  obtain ⟨ix, L, S, B, F, G⟩ := st
  have X0 := X.1
  unfold ev_k63 at hok
  simp only [Bool.and_eq_true, decide_eq_true_eq] at hok
  unfold sx_o63 at h
  try dsimp only at hok
  split at h
  · next nn dp k1 z1 sp k0 y8 S1 hS =>
    have hS : S = nn :: dp :: (2, k1, z1) :: sp :: (2, k0, y8) :: S1 := hS
    subst hS
    split at h
    · next ka0 n0 z0 lo0 hi0 zs0 ka1 n1 z3 lo1 hi1 zs1 hK0 hK1 =>
      split at h
      · next hv =>
        split at h
        · next hs1 hp =>
          intro H locs ls vs lv ws hh h1 h2 h3 h4 h5 h6 h7 h8 h9 h10 h11
          have h6q := h6.cons
          clear h6
          obtain ⟨v1, ys, rfl, hv1, h6⟩ := h6q
          have h6q := h6.cons
          clear h6
          obtain ⟨v2, ys, rfl, hv2, h6⟩ := h6q
          have h6q := h6.cons
          clear h6
          obtain ⟨v3, ys, rfl, hv3, h6⟩ := h6q
          have h6q := h6.cons
          clear h6
          obtain ⟨v4, ys, rfl, hv4, h6⟩ := h6q
          have h6q := h6.cons
          clear h6
          obtain ⟨v5, ys, rfl, hv5, h6⟩ := h6q
          obtain ⟨c1, c2, c3, rfl, rfl, c6, c7, c8, c9, c10, c11⟩ := hv
          obtain ⟨jn, rfl, hjn⟩ := hv1.int c1
          obtain ⟨jd, rfl, hjd⟩ := hv2.int c2
          obtain ⟨js, rfl, hjs⟩ := hv4.int c3
          obtain ⟨j1, d1, a1, g1, gi, g2, rfl⟩ := hv3.ref rfl
          obtain ⟨j0, d0, a0, g3, gj, g4, rfl⟩ := hv5.ref rfl
          have p0 := sx_posA_ok h1 h2 _ _ _ hp
          have p1 := p0 _ List.mem_cons_self
          have p2 := p0 _ (List.mem_cons_of_mem _ List.mem_cons_self)
          have p3 := p0 _ (List.mem_cons_of_mem _ (List.mem_cons_of_mem _ List.mem_cons_self))
          have p4 := p0 _ (List.mem_cons_of_mem _ (List.mem_cons_of_mem _ (List.mem_cons_of_mem _ List.mem_cons_self)))
          have p5 := p0 _ (List.mem_cons_of_mem _ (List.mem_cons_of_mem _ (List.mem_cons_of_mem _ (List.mem_cons_of_mem _ List.mem_cons_self))))
          rw [← hjs] at p1
          rw [← hjd] at p2
          rw [← hjn] at p3
          rw [sx_ev_sub, sx_ev_add, sx_ev_c, ← hjs, ← hjn] at p4
          rw [sx_ev_sub, sx_ev_add, sx_ev_c, ← hjd, ← hjn] at p5
          obtain ⟨E0, hE0, hr0⟩ := h7.at g3 hK0 (by simp) g4
          obtain ⟨E1, hE1, hr1⟩ := h7.at g1 hK1 (by simp) g2
          obtain ⟨f, rfl, hf⟩ := hr0.ints rfl
          obtain ⟨f1, rfl, hf1⟩ := hr1.ints rfl
          obtain ⟨⟨⟨⟨⟨⟨⟨hd, hn⟩, q1⟩, q2⟩, q3⟩, q4⟩, q5⟩, q6⟩ := hok
          obtain ⟨s1, s1'⟩ := sx_nat p1
          obtain ⟨s2, s2'⟩ := sx_nat p2
          obtain ⟨s3, s3'⟩ := sx_nat p3
          refine va_copyi X0.1.1 X0.1.2.1 (X0.1.2.2.1.trans h4.1.symm) X0.1.2.2.2.1 (X0.1.2.2.2.2 _ (hGc _ _ q3)) (X0.1.2.2.2.2 _ (hGc _ _ q4)) (X0.1.2.2.2.2 _ (hGc _ _ q5)) (X0.1.2.2.2.2 _ (hGc _ _ q6)) X0.2.1.1 h9 h10 h11 j0 j1 _ _ hE0 hE1 (ev_tys_at q1) (ev_tys_at q1) q2 s1 s2 s3 (by show _ ≤ n0; omega) (by show _ ≤ n1; omega) (fun i9 _ => sx_cfit c9 c10 (hf _ rfl _).2) hRf (by rw [h6.cs]; show _ + (7 + 11) ≤ _; omega) hd (fun H1 locs1 e9 e10 e11 => ?_)
          have h7' := h7.set (g := fun z' => (va_cpy f f1 js.toNatClampNeg jd.toNatClampNeg jn.toNatClampNeg z'.toNat).toInt) X.2.2 g1 hK1 g2 hE1 (sx_cr.ofints (f := va_cpy f f1 js.toNatClampNeg jd.toNatClampNeg jn.toNatClampNeg) rfl (fun y hy j => ⟨by rw [Int.toNat_natCast], ?_⟩))
          · rw [gi] at h7'
            exact sx_wt_ok h k (Or.inr ⟨rfl, _, rfl⟩) (Or.inr rfl) hn h1 h2 h3 h4 h5 h6 h7' (h8.tr (sx_fr.arr c6)) e9 e10 e11
          · obtain rfl : (0, z3, lo1, hi1) = y := Option.some.inj hy
            unfold va_cpy
            split
            · have q9 : ∀ q, lo0 ≤ (f q).toInt ∧ (f q).toInt ≤ hi0 := fun q => (hf _ rfl q).2
              exact ⟨Int.le_trans c7 (q9 _).1, Int.le_trans (q9 _).2 c8⟩
            · exact (hf1 _ rfl j).2
        · cases h
      · cases h
    · next n0 z0 lo0 hi0 zt ka1 n1 z3 lo1 hi1 zs1 hK0 hK1 =>
      split at h
      · next hv =>
        split at h
        · next n hn9 =>
          split at h
          · next hb9 =>
            intro H locs ls vs lv ws hh h1 h2 h3 h4 h5 h6 h7 h8 h9 h10 h11
            have h6q := h6.cons
            clear h6
            obtain ⟨v1, ys, rfl, hv1, h6⟩ := h6q
            have h6q := h6.cons
            clear h6
            obtain ⟨v2, ys, rfl, hv2, h6⟩ := h6q
            have h6q := h6.cons
            clear h6
            obtain ⟨v3, ys, rfl, hv3, h6⟩ := h6q
            have h6q := h6.cons
            clear h6
            obtain ⟨v4, ys, rfl, hv4, h6⟩ := h6q
            have h6q := h6.cons
            clear h6
            obtain ⟨v5, ys, rfl, hv5, h6⟩ := h6q
            obtain ⟨c1, c2, c3, rfl, c6, rfl, c7, c8, c9, c11, ht, cz1, cz2⟩ := hv
            obtain ⟨jn, rfl, hjn⟩ := hv1.int c1
            obtain ⟨jd, rfl, hjd⟩ := hv2.int c2
            obtain ⟨js, rfl, hjs⟩ := hv4.int c3
            obtain ⟨j1, d1, a1, g1, gi, g2, rfl⟩ := hv3.ref rfl
            obtain ⟨j0, d0, a0, g3, gj, g4, rfl⟩ := hv5.ref rfl
            rw [sx_cn_ok cz1 r] at hjd
            rw [sx_cn_ok cz2 r] at hjs
            rw [sx_cn_ok hn9 r] at hjn
            have ed : jd = 0 := Int32.toInt_inj.mp (by rw [hjd]; decide +kernel)
            have es : js = 0 := Int32.toInt_inj.mp (by rw [hjs]; decide +kernel)
            have en : jn = nI n.toNat := Int32.toInt_inj.mp (by rw [hjn, nI_toInt (by omega)]; omega)
            subst ed es en
            obtain ⟨E1, hE1, hr1⟩ := h7.at g1 hK1 (by simp) g2
            obtain ⟨f1, rfl, hf1⟩ := hr1.ints rfl
            obtain ⟨⟨⟨⟨⟨⟨⟨hd, hn⟩, q1⟩, q2⟩, q3⟩, q4⟩, q5⟩, q6⟩ := hok
            obtain ⟨q, hq1, hq2⟩ := List.any_eq_true.mp ht
            have hq2 : q.2.2.2 = k0 := eq_of_beq hq2
            obtain ⟨j, t9, K, b1, b2, b3, b4, b5, b6, b7⟩ := X.2.1 q hq1
            rw [hq2] at b1 b3 b4
            rw [hK0] at b4
            obtain rfl := Option.some.inj b4
            obtain rfl := b3 j0 d0 g3
            rw [g4] at b2
            obtain rfl := Option.some.inj b2
            rcases b7 with ⟨-, f, u2, u3, -⟩ | ⟨u1, -⟩
            · have q1' : kt[i.2.2.1]? = some .int := by rw [q1, c9]; rfl
              refine ev_tcopy X0 q1' (hGc _ _ q3) (hGc _ _ q4) (hGc _ _ q5) (hGc _ _ q6) u2 h4.1 h9 h10 h11 hE1 (by omega) (by show n.toNat ≤ n0; omega) (by show n.toNat ≤ n1; omega) hRf (by rw [h6.cs]; omega) hd (fun H1 locs1 e9 e10 e11 => ?_)
              have h7' := h7.set (g := fun z' => (va_cpy f f1 0 0 n.toNat z'.toNat).toInt) X.2.2 g1 hK1 g2 hE1 (sx_cr.ofints (f := va_cpy f f1 0 0 n.toNat) rfl (fun y hy j => ⟨by rw [Int.toNat_natCast], ?_⟩))
              · rw [gi] at h7'
                exact sx_wt_ok h k (Or.inr ⟨rfl, _, rfl⟩) (Or.inr rfl) hn h1 h2 h3 h4 h5 h6 h7' (h8.tr (sx_fr.arr c6)) e9 e10 e11
              · obtain rfl : (0, z3, lo1, hi1) = y := Option.some.inj hy
                unfold va_cpy
                split
                · next hj9 =>
                  have q9 := u3 _ rfl rfl (0 + (j - 0)) (by show _ < n0; omega)
                  exact ⟨Int.le_trans c7 q9.1, Int.le_trans q9.2 c8⟩
                · exact (hf1 _ rfl j).2
            · exact absurd u1 (by simp)
          · cases h
        · cases h
      · cases h
    · cases h
  · cases h
theorem sx_p86 (X : sx_X p s m args c D cl dA kt T tt kd ad A Gs own cc nL) (hGc : ∀ (h : Nat) (w : Cond), ev_hg Gc h = some w → w ∈ Gs) (hT : ev_okD Gs cl Ct Pg) (hRf : 1 ≤ R.frames) (hRl : 26 ≤ R.locals) (hok : sx_k86 Gc tt own cc cd st.1 i = true) (h : sx_o86 Ct T tt Y Md i st hs = some (out, hs')) (k : ∀ t ∈ out, ∀ x1, sx_g p l e R s m args below meth c Q D cl dA T Y kd ad A hh0 Md nL cd t (r ++ x1)) : sx_g p l e R s m args below meth c Q D cl dA T Y kd ad A hh0 Md nL cd st r := by
  obtain ⟨ix, L, S, B, F, G⟩ := st
  have X0 := X.1
  unfold sx_k86 at hok
  simp only [Bool.and_eq_true, decide_eq_true_eq] at hok
  unfold sx_o86 at h
  try dsimp only at hok
  split at h
  · next q hq =>
    obtain ⟨rfl, rfl⟩ := Prod.mk.inj (Option.some.inj h)
    have k1 := sx_k1 k
    intro H locs ls vs lv ws hh h1 h2 h3 h4 h5 h6 h7 h8 h9 h10 h11
    obtain ⟨⟨hd, hn⟩, hw⟩ := hok
    rw [hq] at hw
    have hw := of_decide_eq_true hw
    obtain ⟨j, t9, K, a1, a2, a3, a4, a5, a6, a7⟩ := X.2.1 q (List.mem_of_getElem? hq)
    exact va_gets X0.1.1 X0.1.2.1 a6 h11 X0.1.2.2.2.1 (X0.1.2.2.2.2 _ (hGc _ _ hw)) (fun _ h9 => h9) hd (sx_go k1 hn h1 h2 h3 h4 h5 ⟨sx_vr.rf ⟨j, 0, t9, a1, by rw [sx_ev_c]; rfl, a2, rfl⟩, h6⟩ h7 h8 h9 h10 h11)
  · cases h
theorem sx_p90 (X : sx_X p s m args c D cl dA kt T tt kd ad A Gs own cc nL) (hGc : ∀ (h : Nat) (w : Cond), ev_hg Gc h = some w → w ∈ Gs) (hT : ev_okD Gs cl Ct Pg) (hRf : 1 ≤ R.frames) (hRl : 26 ≤ R.locals) (hok : sx_k90 Gc kt own cc cd st.1 i = true) (h : sx_o90 Ct T tt Y Md i st hs = some (out, hs')) (k : ∀ t ∈ out, ∀ x1, sx_g p l e R s m args below meth c Q D cl dA T Y kd ad A hh0 Md nL cd t (r ++ x1)) : sx_g p l e R s m args below meth c Q D cl dA T Y kd ad A hh0 Md nL cd st r := by
  obtain ⟨ix, L, S, B, F, G⟩ := st
  have X0 := X.1
  unfold sx_k90 at hok
  simp only [Bool.and_eq_true, decide_eq_true_eq] at hok
  unfold sx_o90 at h
  try dsimp only at hok
  split at h
  · next nn dp k1 z1 sp k0 y8 S1 hS =>
    have hS : S = nn :: dp :: (2, k1, z1) :: sp :: (2, k0, y8) :: S1 := hS
    subst hS
    split at h
    · next ka0 n0 ts0 ka1 n1 ts1 hK0 hK1 =>
      split at h
      · next hv =>
        split at h
        · next hs1 hp =>
          obtain ⟨rfl, rfl⟩ := Prod.mk.inj (Option.some.inj h)
          have kk := sx_k1 k
          intro H locs ls vs lv ws hh h1 h2 h3 h4 h5 h6 h7 h8 h9 h10 h11
          have h6q := h6.cons
          clear h6
          obtain ⟨v1, ys, rfl, hv1, h6⟩ := h6q
          have h6q := h6.cons
          clear h6
          obtain ⟨v2, ys, rfl, hv2, h6⟩ := h6q
          have h6q := h6.cons
          clear h6
          obtain ⟨v3, ys, rfl, hv3, h6⟩ := h6q
          have h6q := h6.cons
          clear h6
          obtain ⟨v4, ys, rfl, hv4, h6⟩ := h6q
          have h6q := h6.cons
          clear h6
          obtain ⟨v5, ys, rfl, hv5, h6⟩ := h6q
          obtain ⟨c1, c2, c3, rfl, rfl, c11⟩ := hv
          obtain ⟨jn, rfl, hjn⟩ := hv1.int c1
          obtain ⟨jd, rfl, hjd⟩ := hv2.int c2
          obtain ⟨js, rfl, hjs⟩ := hv4.int c3
          obtain ⟨j1, d1, a1, g1, gi, g2, rfl⟩ := hv3.ref rfl
          obtain ⟨j0, d0, a0, g3, gj, g4, rfl⟩ := hv5.ref rfl
          have p0 := sx_posA_ok h1 h2 _ _ _ hp
          have p1 := p0 _ List.mem_cons_self
          have p2 := p0 _ (List.mem_cons_of_mem _ List.mem_cons_self)
          have p3 := p0 _ (List.mem_cons_of_mem _ (List.mem_cons_of_mem _ List.mem_cons_self))
          have p4 := p0 _ (List.mem_cons_of_mem _ (List.mem_cons_of_mem _ (List.mem_cons_of_mem _ List.mem_cons_self)))
          have p5 := p0 _ (List.mem_cons_of_mem _ (List.mem_cons_of_mem _ (List.mem_cons_of_mem _ (List.mem_cons_of_mem _ List.mem_cons_self))))
          rw [← hjs] at p1
          rw [← hjd] at p2
          rw [← hjn] at p3
          rw [sx_ev_sub, sx_ev_add, sx_ev_c, ← hjs, ← hjn] at p4
          rw [sx_ev_sub, sx_ev_add, sx_ev_c, ← hjd, ← hjn] at p5
          obtain ⟨E0, hE0, hr0⟩ := h7.at g3 hK0 (by simp) g4
          obtain ⟨E1, hE1, hr1⟩ := h7.at g1 hK1 (by simp) g2
          obtain ⟨f, rfl⟩ := hr0.longs rfl
          obtain ⟨f1, rfl⟩ := hr1.longs rfl
          obtain ⟨⟨⟨⟨⟨⟨hd, hn⟩, q1⟩, q3⟩, q4⟩, q5⟩, q6⟩ := hok
          obtain ⟨s1, s1'⟩ := sx_nat p1
          obtain ⟨s2, s2'⟩ := sx_nat p2
          obtain ⟨s3, s3'⟩ := sx_nat p3
          refine va_copyl X0.1.1 X0.1.2.1 (X0.1.2.2.1.trans h4.1.symm) X0.1.2.2.2.1 (X0.1.2.2.2.2 _ (hGc _ _ q3)) (X0.1.2.2.2.2 _ (hGc _ _ q4)) (X0.1.2.2.2.2 _ (hGc _ _ q5)) (X0.1.2.2.2.2 _ (hGc _ _ q6)) X0.2.1.1 h9 h10 h11 j0 j1 _ _ hE0 hE1 (ev_tys_at q1) (ev_tys_at q1) rfl s1 s2 s3 (by show _ ≤ n0; omega) (by show _ ≤ n1; omega) (fun i9 _ => rfl) hRf (by rw [h6.cs]; show _ + (7 + 11) ≤ _; omega) hd (fun H1 locs1 e9 e10 e11 => ?_)
          have h7' := h7.set (g := hh k1 d1) X.2.2 g1 hK1 g2 hE1 (sx_cr.oflongs (f := va_cpy f f1 js.toNatClampNeg jd.toNatClampNeg jn.toNatClampNeg) rfl)
          rw [sx_up_id] at h7'
          exact sx_go kk hn h1 h2 h3 h4 h5 h6 h7' h8 e9 e10 e11
        · cases h
      · cases h
    · next n0 ts0 ka1 n1 ts1 hK0 hK1 =>
      split at h
      · next hv =>
        split at h
        · next n hn9 =>
          split at h
          · next hb9 =>
            obtain ⟨rfl, rfl⟩ := Prod.mk.inj (Option.some.inj h)
            have kk := sx_k1 k
            intro H locs ls vs lv ws hh h1 h2 h3 h4 h5 h6 h7 h8 h9 h10 h11
            have h6q := h6.cons
            clear h6
            obtain ⟨v1, ys, rfl, hv1, h6⟩ := h6q
            have h6q := h6.cons
            clear h6
            obtain ⟨v2, ys, rfl, hv2, h6⟩ := h6q
            have h6q := h6.cons
            clear h6
            obtain ⟨v3, ys, rfl, hv3, h6⟩ := h6q
            have h6q := h6.cons
            clear h6
            obtain ⟨v4, ys, rfl, hv4, h6⟩ := h6q
            have h6q := h6.cons
            clear h6
            obtain ⟨v5, ys, rfl, hv5, h6⟩ := h6q
            obtain ⟨c1, c2, c3, rfl, c11, ht, cz1, cz2⟩ := hv
            obtain ⟨jn, rfl, hjn⟩ := hv1.int c1
            obtain ⟨jd, rfl, hjd⟩ := hv2.int c2
            obtain ⟨js, rfl, hjs⟩ := hv4.int c3
            obtain ⟨j1, d1, a1, g1, gi, g2, rfl⟩ := hv3.ref rfl
            obtain ⟨j0, d0, a0, g3, gj, g4, rfl⟩ := hv5.ref rfl
            rw [sx_cn_ok cz1 r] at hjd
            rw [sx_cn_ok cz2 r] at hjs
            rw [sx_cn_ok hn9 r] at hjn
            have ed : jd = 0 := Int32.toInt_inj.mp (by rw [hjd]; decide +kernel)
            have es : js = 0 := Int32.toInt_inj.mp (by rw [hjs]; decide +kernel)
            have en : jn = nI n.toNat := Int32.toInt_inj.mp (by rw [hjn, nI_toInt (by omega)]; omega)
            subst ed es en
            obtain ⟨E1, hE1, hr1⟩ := h7.at g1 hK1 (by simp) g2
            obtain ⟨f1, rfl⟩ := hr1.longs rfl
            obtain ⟨⟨⟨⟨⟨⟨hd, hn⟩, q1⟩, q3⟩, q4⟩, q5⟩, q6⟩ := hok
            obtain ⟨q, hq1, hq2⟩ := List.any_eq_true.mp ht
            have hq2 : q.2.2.2 = k0 := eq_of_beq hq2
            obtain ⟨j, t9, K, b1, b2, b3, b4, b5, b6, b7⟩ := X.2.1 q hq1
            rw [hq2] at b1 b3 b4
            rw [hK0] at b4
            obtain rfl := Option.some.inj b4
            obtain rfl := b3 j0 d0 g3
            rw [g4] at b2
            obtain rfl := Option.some.inj b2
            rcases b7 with ⟨u1, -⟩ | ⟨-, f, u2⟩
            · exact absurd u1 (by simp)
            · refine sx_tcopyl X0 q1 (hGc _ _ q3) (hGc _ _ q4) (hGc _ _ q5) (hGc _ _ q6) u2 h4.1 h9 h10 h11 hE1 (by omega) (by show n.toNat ≤ n0; omega) (by show n.toNat ≤ n1; omega) hRf (by rw [h6.cs]; omega) hd (fun H1 locs1 e9 e10 e11 => ?_)
              have h7' := h7.set (g := hh k1 d1) X.2.2 g1 hK1 g2 hE1 (sx_cr.oflongs (f := va_cpy f f1 0 0 n.toNat) rfl)
              rw [sx_up_id] at h7'
              exact sx_go kk hn h1 h2 h3 h4 h5 h6 h7' h8 e9 e10 e11
          · cases h
        · cases h
      · cases h
    · cases h
  · cases h
theorem sx_p91 (X : sx_X p s m args c D cl dA kt T tt kd ad A Gs own cc nL) (hGc : ∀ (h : Nat) (w : Cond), ev_hg Gc h = some w → w ∈ Gs) (hT : ev_okD Gs cl Ct Pg) (hRf : 1 ≤ R.frames) (hRl : 26 ≤ R.locals) (hok : sx_k91 Gc own cc cd st.1 i = true) (h : sx_o91 Ct T tt Y Md i st hs = some (out, hs')) (k : ∀ t ∈ out, ∀ x1, sx_g p l e R s m args below meth c Q D cl dA T Y kd ad A hh0 Md nL cd t (r ++ x1)) : sx_g p l e R s m args below meth c Q D cl dA T Y kd ad A hh0 Md nL cd st r := by
  obtain ⟨ix, L, S, B, F, G⟩ := st
  have X0 := X.1
  unfold sx_k91 at hok
  simp only [Bool.and_eq_true, decide_eq_true_eq] at hok
  unfold sx_o91 at h
  try dsimp only at hok
  split at h
  · next y x S1 hS =>
    have hS : S = y :: x :: S1 := hS
    subst hS
    split at h
    · next hv =>
      obtain ⟨rfl, rfl⟩ := Prod.mk.inj (Option.some.inj h)
      intro H locs ls vs lv ws hh h1 h2 h3 h4 h5 h6 h7 h8 h9 h10 h11
      have h6q := h6.cons
      clear h6
      obtain ⟨yv, ys, rfl, hy, h6⟩ := h6q
      have h6q := h6.cons
      clear h6
      obtain ⟨xv, zs, rfl, hx, h6⟩ := h6q
      obtain ⟨j, rfl, hj⟩ := hy.int hv.2.1
      obtain ⟨i9, rfl, hi⟩ := hx.int hv.1
      obtain ⟨⟨⟨⟨⟨hd, hn⟩, q3⟩, q4⟩, q5⟩, q6⟩ := hok
      refine va_mmin X0.1.1 X0.1.2.1 (X0.1.2.2.1.trans h4.1.symm) X0.1.2.2.2.1 (X0.1.2.2.2.2 _ (hGc _ _ q3)) (X0.1.2.2.2.2 _ (hGc _ _ q4)) (X0.1.2.2.2.2 _ (hGc _ _ q5)) (X0.1.2.2.2.2 _ (hGc _ _ q6)) hRf (by rw [h6.cs]; have := hv.2.2; omega) (Nat.zero_le _) (Nat.zero_le _) hd ?_
      split
      · next hlt =>
        have hlt := Int32.lt_iff_toInt_lt.mp hlt
        exact sx_br_ok (S := y :: S1) (fun t ht => sx_kz (k t (List.mem_append_left _ ht))) (fun f hf => by rw [List.mem_singleton.mp hf, sx_ev_sub, sx_ev_sub, sx_ev_c, ← hi, ← hj]; omega) hn h1 h2 h3 h4 h5 ⟨hy, h6⟩ h7 h8 h9 h10 h11
      · next hlt =>
        have hlt : ¬ j.toInt < i9.toInt := fun e => hlt (Int32.lt_iff_toInt_lt.mpr e)
        exact sx_br_ok (S := x :: S1) (fun t ht => sx_kz (k t (List.mem_append_right _ ht))) (fun f hf => by rw [List.mem_singleton.mp hf, sx_ev_sub, ← hi, ← hj]; omega) hn h1 h2 h3 h4 h5 ⟨hx, h6⟩ h7 h8 h9 h10 h11
    · cases h
  · cases h
end SXH
