/-! A family in rows of eight -/
theorem ev_fam8 {f : Nat → Option (ev_S ⊕ ev_R)} {r : ev_R} {n : Nat} (h : ∀ c, c < n → (List.range 8).all (fun j => ev_sameR (f (8 * c + j)) r) = true) : ∀ j, j < 8 * n → f j = some (.inr r) := fun j hj => by
  have h1 := ev_fam_r (f := fun i => f (8 * (j / 8) + i)) (h (j / 8) (by omega)) (j % 8) (by omega)
  have e1 : 8 * (j / 8) + j % 8 = j := by omega
  simpa only [e1] using h1
