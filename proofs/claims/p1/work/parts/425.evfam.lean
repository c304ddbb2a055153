/-! One contract out of many that differ in an int alone -/
theorem ev_sr_pick {ad : List Nat} {a : Nat × Nat × Nat} {lo n : Nat} {as2 : List (Nat × Nat × Nat)} {av : List Value} (h : ev_sr ad (a :: (0, lo, lo + n) :: as2) av) : ∃ j, j < n + 1 ∧ ev_sr ad (a :: (0, lo + j, lo + j) :: as2) av := by
  match av, h with
  | x :: y :: ys, h =>
    obtain ⟨h1, h2, h3⟩ := h
    obtain ⟨i, rfl, hi⟩ := h2.int rfl
    obtain ⟨b1, b2⟩ := hi
    have b1 : lo ≤ ev_sx i := b1
    have b2 : ev_sx i ≤ lo + n := b2
    exact ⟨ev_sx i - lo, by omega, h1, ev_vr.it rfl (ev_in_eq (by omega)), h3⟩
  | [_], h => exact h.2.elim
  | [], h => exact h.elim
theorem ev_SM_addF {Gs : List Cond} {Gc : List (List Cond)} {Ct : List ev_Ct} {kt : List FieldType} {Pg : List ev_Mt} {Ck : List (List ev_Cd)} {sm : ev_Sm} {cl : List vw_C} (hGc : ∀ (h : Nat) (w : Cond), ev_hg Gc h = some w → w ∈ Gs) (hG : ∀ w ∈ Gs, (w.onTables && w.keeps) = true ∨ ∃ ty, w = .arrayClass ty) (hT : ev_okD Gs cl Ct Pg) (hP : ∀ sm, ev_okP Gc Ct kt Pg sm) (hCk : ev_okK Pg Ck) {l : Launch} {D : va_G} {dA : Nat → ClassId} (hsm : ev_SM l D cl dA kt Gs Pg sm) {N k d n lo nn : Nat} {ps : List (Nat × Nat)} {a : Nat × Nat × Nat} {as2 : List (Nat × Nat × Nat)} {w : List ev_C} {r : ev_R} {q0 : ev_Mt} {cs : List ev_Cd} (hk0 : Pg[k]? = some q0) (hcsk : Ck[k]? = some cs) (hcs : ∀ j, ev_cs (a :: (0, lo + j, lo + j) :: as2) ≤ q0.1.2.2.1) (hrun : ∀ j, j < nn + 1 → ev_go2 (ev_stp2 Ct q0.1.2.2.2 sm d (ev_call2 Pg Ck Ct sm N d) cs) N n (0, ev_la 0 (a :: (0, lo + j, lo + j) :: as2), [], w, 0, 0) = some (.inr r)) (hrf : ev_leR r r = true) : ev_SM l D cl dA kt Gs Pg ((k, d + 1, ps, a :: (0, lo, lo + nn) :: as2, w, r) :: sm) := fun q hq y bytes maxL rt cdm hk => by
  rcases List.mem_cons.mp hq with rfl | hq
  · have hk : Pg[k]? = some ((y, bytes, maxL, rt), cdm) := hk
    rw [hk0] at hk
    obtain rfl := Option.some.inj hk
    intro av ws sz hsr hwr
    obtain ⟨j, hj, hsr2⟩ := ev_sr_pick hsr
    exact ev_seg_ok hGc hG hT (hP sm) hCk l D dA hsm N hk0 hcsk (hcs j) (hrun j hj) hrf av ws sz hsr2 hwr
  · exact hsm q hq y bytes maxL rt cdm hk
theorem ev_fam_r {f : Nat → Option (ev_S ⊕ ev_R)} {r : ev_R} {n : Nat} (h : (List.range n).all (fun j => ev_sameR (f j) r) = true) : ∀ j, j < n → f j = some (.inr r) := fun j hj => ev_sameR_r (List.all_eq_true.mp h j (List.mem_range.mpr hj))
