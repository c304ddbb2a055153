/-! What was looked at by numbers. Written by a program (wip/eng). -/
theorem sy_l4 {kt : List FieldType} {sm0 : ev_Sm} {o : Nat} {nm : String} {cc : ByteArray} {nL : Nat} {ret : Option FieldType} {cd : ev_Cd} {ix : Nat} {i : ev_I} (h : sy_k4 kt sy_pg o nm cc nL ret cd ix i = true) : ev_k4 sy_gc ct_all kt sy_pg sm0 (sy_nm o) nm cc nL ret cd ix i = true := by
  unfold sy_k4 at h
  unfold ev_k4
  simp only [Bool.and_eq_true, decide_eq_true_eq] at h ⊢
  exact ⟨⟨h.1.1, sy_is_ok h.1.2⟩, h.2⟩
theorem sy_l5 {kt : List FieldType} {sm0 : ev_Sm} {o : Nat} {nm : String} {cc : ByteArray} {nL : Nat} {ret : Option FieldType} {cd : ev_Cd} {ix : Nat} {i : ev_I} (h : sy_k5 kt sy_pg o nm cc nL ret cd ix i = true) : ev_k5 sy_gc ct_all kt sy_pg sm0 (sy_nm o) nm cc nL ret cd ix i = true := by
  unfold sy_k5 at h
  unfold ev_k5
  simp only [Bool.and_eq_true, decide_eq_true_eq] at h ⊢
  exact ⟨⟨h.1.1, sy_is_ok h.1.2⟩, h.2⟩
theorem sy_l47 {kt : List FieldType} {sm0 : ev_Sm} {o : Nat} {nm : String} {cc : ByteArray} {nL : Nat} {ret : Option FieldType} {cd : ev_Cd} {ix : Nat} {i : ev_I} (h : sy_k47 kt sy_pg o nm cc nL ret cd ix i = true) : ev_k47 sy_gc ct_all kt sy_pg sm0 (sy_nm o) nm cc nL ret cd ix i = true := by
  unfold sy_k47 at h
  unfold ev_k47
  simp only [Bool.and_eq_true, decide_eq_true_eq] at h ⊢
  exact ⟨h.1, sy_is_ok h.2⟩
theorem sy_l28 {kt : List FieldType} {sm0 : ev_Sm} {o : Nat} {nm : String} {cc : ByteArray} {nL : Nat} {ret : Option FieldType} {cd : ev_Cd} {ix : Nat} {i : ev_I} (h : sy_k28 kt sy_pg o nm cc nL ret cd ix i = true) : ev_k28 sy_gc ct_all kt sy_pg sm0 (sy_nm o) nm cc nL ret cd ix i = true := by
  unfold sy_k28 at h
  unfold ev_k28
  simp only [Bool.and_eq_true, decide_eq_true_eq] at h ⊢
  obtain ⟨hd, hf⟩ := h
  split at hf
  · next g hg =>
    split at hf
    · next x hx =>
      obtain ⟨q, q1, q2, q3, q4, q5⟩ := sy_fall _ _ g x hg hx
      have hw := sy_is_ok hf
      refine ⟨hd, ?_⟩
      rw [q1]
      simp only [Bool.and_eq_true, decide_eq_true_eq]
      exact ⟨q2, by rw [hw, q3, q4, q5]; rfl⟩
    · cases hf
  · cases hf
theorem sy_l29 {kt : List FieldType} {sm0 : ev_Sm} {o : Nat} {nm : String} {cc : ByteArray} {nL : Nat} {ret : Option FieldType} {cd : ev_Cd} {ix : Nat} {i : ev_I} (h : sy_k29 kt sy_pg o nm cc nL ret cd ix i = true) : ev_k29 sy_gc ct_all kt sy_pg sm0 (sy_nm o) nm cc nL ret cd ix i = true := by
  unfold sy_k29 at h
  unfold ev_k29
  simp only [Bool.and_eq_true, decide_eq_true_eq] at h ⊢
  obtain ⟨⟨hd, hf⟩, hz⟩ := h
  split at hf
  · next g hg =>
    split at hf
    · next x hx =>
      obtain ⟨q, q1, q2, q3, q4, q5⟩ := sy_fall _ _ g x hg hx
      have hw := sy_is_ok hf
      refine ⟨hd, ?_⟩
      rw [q1] at hz ⊢
      simp only [Bool.and_eq_true, decide_eq_true_eq]
      exact ⟨⟨q2, by rw [hw, q3, q4, q5]; rfl⟩, by simpa using hz⟩
    · cases hf
  · cases hf
theorem sy_l56 {kt : List FieldType} {sm0 : ev_Sm} {o : Nat} {nm : String} {cc : ByteArray} {nL : Nat} {ret : Option FieldType} {cd : ev_Cd} {ix : Nat} {i : ev_I} (h : sy_k56 kt sy_pg o nm cc nL ret cd ix i = true) : ev_k56 sy_gc ct_all kt sy_pg sm0 (sy_nm o) nm cc nL ret cd ix i = true := by
  unfold sy_k56 at h
  unfold ev_k56
  simp only [Bool.and_eq_true, decide_eq_true_eq] at h ⊢
  obtain ⟨hd, hf⟩ := h
  split at hf
  · next x hx =>
    simp only [Bool.and_eq_true, decide_eq_true_eq] at hf
    obtain ⟨⟨f1, f2, f3, f4, f5⟩, f6⟩ := hf
    obtain ⟨bytes, maxL, rt, cdm, p1, p2, p3, p4, p5⟩ : sy_mp _ x := by
      have := sy_al_r sy_mal _ x hx
      rwa [Nat.zero_add] at this
    refine ⟨hd, ?_⟩
    rw [p1]
    simp only [Bool.and_eq_true, decide_eq_true_eq]
    rcases p5 with ⟨p5, -⟩ | ⟨-, p5⟩
    · omega
    · rcases p5 with p5 | ⟨p5, p6, q, p7, p8⟩
      · have e1 := sy_is_ok p5
        rw [sy_is_ok f6] at e1
        exact absurd (Option.some.inj e1) (by intro e; cases e)
      · rw [f4, p7, f2, f3]
        refine ⟨⟨⟨⟨⟨⟨⟨sy_is_ok f1, Nat.le_refl _⟩, sy_is_ok p2⟩, sy_is_ok p5⟩, sy_is_ok p6⟩, ?_⟩, ?_⟩, p4⟩
        · exact decide_eq_true p8
        · exact p3
  · cases hf
theorem sy_l57 {kt : List FieldType} {sm0 : ev_Sm} {o : Nat} {nm : String} {cc : ByteArray} {nL : Nat} {ret : Option FieldType} {cd : ev_Cd} {ix : Nat} {i : ev_I} (h : sy_k57 kt sy_pg o nm cc nL ret cd ix i = true) : ev_k57 sy_gc ct_all kt sy_pg sm0 (sy_nm o) nm cc nL ret cd ix i = true := by
  unfold sy_k57 at h
  unfold ev_k57
  simp only [Bool.and_eq_true, decide_eq_true_eq] at h ⊢
  obtain ⟨hd, hf⟩ := h
  split at hf
  · next x hx =>
    simp only [Bool.and_eq_true, decide_eq_true_eq] at hf
    obtain ⟨⟨f1, f2, f3⟩, f6⟩ := hf
    obtain ⟨bytes, maxL, rt, cdm, p1, p2, p3, p4, -⟩ : sy_mp _ x := by
      have := sy_al_r sy_mal _ x hx
      rwa [Nat.zero_add] at this
    refine ⟨hd, ?_⟩
    rw [p1]
    simp only [Bool.and_eq_true, decide_eq_true_eq]
    rw [f2, f3]
    exact ⟨⟨⟨⟨⟨sy_is_ok f1, Nat.le_refl _⟩, sy_is_ok p2⟩, sy_is_ok f6⟩, p3⟩, p4⟩
  · cases hf
theorem sy_l63 {kt : List FieldType} {sm0 : ev_Sm} {o : Nat} {nm : String} {cc : ByteArray} {nL : Nat} {ret : Option FieldType} {cd : ev_Cd} {ix : Nat} {i : ev_I} (h : sy_k63 kt sy_pg o nm cc nL ret cd ix i = true) : ev_k63 sy_gc ct_all kt sy_pg sm0 (sy_nm o) nm cc nL ret cd ix i = true := by
  unfold sy_k63 at h
  unfold ev_k63
  simp only [Bool.and_eq_true, decide_eq_true_eq] at h ⊢
  obtain ⟨⟨⟨⟨⟨⟨h1, h2⟩, h3⟩, h4⟩, h5⟩, h6⟩, h7⟩ := h
  exact ⟨⟨⟨⟨⟨⟨h1, h2⟩, h3⟩, sy_is_ok h4⟩, sy_is_ok h5⟩, sy_is_ok h6⟩, sy_is_ok h7⟩
theorem sy_l90 {kt : List FieldType} {sm0 : ev_Sm} {o : Nat} {nm : String} {cc : ByteArray} {nL : Nat} {ret : Option FieldType} {cd : ev_Cd} {ix : Nat} {i : ev_I} (h : sy_k90 kt sy_pg o nm cc nL ret cd ix i = true) : sx_k90 sy_gc kt (sy_nm o) cc cd ix i = true := by
  unfold sy_k90 at h
  unfold sx_k90
  simp only [Bool.and_eq_true, decide_eq_true_eq] at h ⊢
  obtain ⟨⟨⟨⟨⟨h1, h3⟩, h4⟩, h5⟩, h6⟩, h7⟩ := h
  exact ⟨⟨⟨⟨⟨h1, h3⟩, sy_is_ok h4⟩, sy_is_ok h5⟩, sy_is_ok h6⟩, sy_is_ok h7⟩
theorem sy_l91 {kt : List FieldType} {sm0 : ev_Sm} {o : Nat} {nm : String} {cc : ByteArray} {nL : Nat} {ret : Option FieldType} {cd : ev_Cd} {ix : Nat} {i : ev_I} (h : sy_k91 kt sy_pg o nm cc nL ret cd ix i = true) : sx_k91 sy_gc (sy_nm o) cc cd ix i = true := by
  unfold sy_k91 at h
  unfold sx_k91
  simp only [Bool.and_eq_true, decide_eq_true_eq] at h ⊢
  obtain ⟨⟨⟨⟨h1, h4⟩, h5⟩, h6⟩, h7⟩ := h
  exact ⟨⟨⟨⟨h1, sy_is_ok h4⟩, sy_is_ok h5⟩, sy_is_ok h6⟩, sy_is_ok h7⟩
theorem sy_l86 {kt : List FieldType} {sm0 : ev_Sm} {o : Nat} {nm : String} {cc : ByteArray} {nL : Nat} {ret : Option FieldType} {cd : ev_Cd} {ix : Nat} {i : ev_I} (h : sy_k86 kt sy_pg o nm cc nL ret cd ix i = true) : sx_k86 sy_gc sy_tb (sy_nm o) cc cd ix i = true := by
  unfold sy_k86 at h
  unfold sx_k86
  simp only [Bool.and_eq_true, decide_eq_true_eq] at h ⊢
  obtain ⟨hd, hf⟩ := h
  split at hf
  · next q hq =>
    refine ⟨hd, ?_⟩
    unfold sy_tb
    rw [List.getElem?_map, hq]
    exact decide_eq_true (sy_is_ok hf)
  · cases hf
theorem sy_ok_r {kt : List FieldType} {o : Nat} {nm : String} {cc : ByteArray} {nL : Nat} {ret : Option FieldType} {cd : ev_Cd} {ix : Nat} {i : ev_I} (h : sy_ok kt o nm cc nL ret cd ix i = true) : sx_ok sy_gc ct_all kt sy_pg [] sy_tb (sy_nm o) nm cc nL ret cd ix i = true := by
  unfold sy_ok at h
  unfold sx_ok
  by_cases hlt : i.2.1 < 48
  · rw [if_pos hlt] at h ⊢
    by_cases hlt : i.2.1 < 19
    · rw [if_pos hlt] at h ⊢
      by_cases hlt : i.2.1 < 9
      · rw [if_pos hlt] at h ⊢
        by_cases hlt : i.2.1 < 4
        · rw [if_pos hlt] at h ⊢
          by_cases hlt : i.2.1 < 2
          · rw [if_pos hlt] at h ⊢
            by_cases hlt : i.2.1 < 1
            · rw [if_pos hlt] at h ⊢
              by_cases hop : i.2.1 = 0
              · rw [if_pos hop]
              · rw [if_neg hop] at h
                cases h
            · rw [if_neg hlt] at h ⊢
              by_cases hop : i.2.1 = 1
              · rw [if_pos hop] at h ⊢
                exact h
              · rw [if_neg hop] at h
                cases h
          · rw [if_neg hlt] at h ⊢
            by_cases hlt : i.2.1 < 3
            · rw [if_pos hlt] at h ⊢
              by_cases hop : i.2.1 = 2
              · rw [if_pos hop] at h ⊢
                exact h
              · rw [if_neg hop] at h
                cases h
            · rw [if_neg hlt] at h ⊢
              by_cases hop : i.2.1 = 3
              · rw [if_pos hop] at h ⊢
                exact h
              · rw [if_neg hop] at h
                cases h
        · rw [if_neg hlt] at h ⊢
          by_cases hlt : i.2.1 < 6
          · rw [if_pos hlt] at h ⊢
            by_cases hlt : i.2.1 < 5
            · rw [if_pos hlt] at h ⊢
              by_cases hop : i.2.1 = 4
              · rw [if_pos hop] at h ⊢
                exact sy_l4 (sm0 := []) h
              · rw [if_neg hop] at h
                cases h
            · rw [if_neg hlt] at h ⊢
              by_cases hop : i.2.1 = 5
              · rw [if_pos hop] at h ⊢
                exact sy_l5 (sm0 := []) h
              · rw [if_neg hop] at h
                cases h
          · rw [if_neg hlt] at h ⊢
            by_cases hlt : i.2.1 < 7
            · rw [if_pos hlt] at h ⊢
              by_cases hop : i.2.1 = 6
              · rw [if_pos hop] at h ⊢
                exact h
              · rw [if_neg hop] at h
                cases h
            · rw [if_neg hlt] at h ⊢
              by_cases hlt : i.2.1 < 8
              · rw [if_pos hlt] at h ⊢
                by_cases hop : i.2.1 = 7
                · rw [if_pos hop] at h ⊢
                  exact h
                · rw [if_neg hop] at h
                  cases h
              · rw [if_neg hlt] at h ⊢
                by_cases hop : i.2.1 = 8
                · rw [if_pos hop] at h ⊢
                  exact h
                · rw [if_neg hop] at h
                  cases h
      · rw [if_neg hlt] at h ⊢
        by_cases hlt : i.2.1 < 14
        · rw [if_pos hlt] at h ⊢
          by_cases hlt : i.2.1 < 11
          · rw [if_pos hlt] at h ⊢
            by_cases hlt : i.2.1 < 10
            · rw [if_pos hlt] at h ⊢
              by_cases hop : i.2.1 = 9
              · rw [if_pos hop] at h ⊢
                exact h
              · rw [if_neg hop] at h
                cases h
            · rw [if_neg hlt] at h ⊢
              by_cases hop : i.2.1 = 10
              · rw [if_pos hop] at h ⊢
                exact h
              · rw [if_neg hop] at h
                cases h
          · rw [if_neg hlt] at h ⊢
            by_cases hlt : i.2.1 < 12
            · rw [if_pos hlt] at h ⊢
              by_cases hop : i.2.1 = 11
              · rw [if_pos hop] at h ⊢
                exact h
              · rw [if_neg hop] at h
                cases h
            · rw [if_neg hlt] at h ⊢
              by_cases hlt : i.2.1 < 13
              · rw [if_pos hlt] at h ⊢
                by_cases hop : i.2.1 = 12
                · rw [if_pos hop] at h ⊢
                  exact h
                · rw [if_neg hop] at h
                  cases h
              · rw [if_neg hlt] at h ⊢
                by_cases hop : i.2.1 = 13
                · rw [if_pos hop] at h ⊢
                  exact h
                · rw [if_neg hop] at h
                  cases h
        · rw [if_neg hlt] at h ⊢
          by_cases hlt : i.2.1 < 16
          · rw [if_pos hlt] at h ⊢
            by_cases hlt : i.2.1 < 15
            · rw [if_pos hlt] at h ⊢
              by_cases hop : i.2.1 = 14
              · rw [if_pos hop] at h ⊢
                exact h
              · rw [if_neg hop] at h
                cases h
            · rw [if_neg hlt] at h ⊢
              by_cases hop : i.2.1 = 15
              · rw [if_pos hop] at h ⊢
                exact h
              · rw [if_neg hop] at h
                cases h
          · rw [if_neg hlt] at h ⊢
            by_cases hlt : i.2.1 < 17
            · rw [if_pos hlt] at h ⊢
              by_cases hop : i.2.1 = 16
              · rw [if_pos hop] at h ⊢
                exact h
              · rw [if_neg hop] at h
                cases h
            · rw [if_neg hlt] at h ⊢
              by_cases hlt : i.2.1 < 18
              · rw [if_pos hlt] at h ⊢
                by_cases hop : i.2.1 = 17
                · rw [if_pos hop] at h ⊢
                  exact h
                · rw [if_neg hop] at h
                  cases h
              · rw [if_neg hlt] at h ⊢
                by_cases hop : i.2.1 = 18
                · rw [if_pos hop] at h ⊢
                  exact h
                · rw [if_neg hop] at h
                  cases h
    · rw [if_neg hlt] at h ⊢
      by_cases hlt : i.2.1 < 28
      · rw [if_pos hlt] at h ⊢
        by_cases hlt : i.2.1 < 23
        · rw [if_pos hlt] at h ⊢
          by_cases hlt : i.2.1 < 21
          · rw [if_pos hlt] at h ⊢
            by_cases hlt : i.2.1 < 20
            · rw [if_pos hlt] at h ⊢
              by_cases hop : i.2.1 = 19
              · rw [if_pos hop] at h ⊢
                exact h
              · rw [if_neg hop] at h
                cases h
            · rw [if_neg hlt] at h ⊢
              by_cases hop : i.2.1 = 20
              · rw [if_pos hop] at h ⊢
                exact h
              · rw [if_neg hop] at h
                cases h
          · rw [if_neg hlt] at h ⊢
            by_cases hlt : i.2.1 < 22
            · rw [if_pos hlt] at h ⊢
              by_cases hop : i.2.1 = 21
              · rw [if_pos hop] at h ⊢
                exact h
              · rw [if_neg hop] at h
                cases h
            · rw [if_neg hlt] at h ⊢
              by_cases hop : i.2.1 = 22
              · rw [if_pos hop] at h ⊢
                exact h
              · rw [if_neg hop] at h
                cases h
        · rw [if_neg hlt] at h ⊢
          by_cases hlt : i.2.1 < 25
          · rw [if_pos hlt] at h ⊢
            by_cases hlt : i.2.1 < 24
            · rw [if_pos hlt] at h ⊢
              by_cases hop : i.2.1 = 23
              · rw [if_pos hop] at h ⊢
                exact h
              · rw [if_neg hop] at h
                cases h
            · rw [if_neg hlt] at h ⊢
              by_cases hop : i.2.1 = 24
              · rw [if_pos hop] at h ⊢
                exact h
              · rw [if_neg hop] at h
                cases h
          · rw [if_neg hlt] at h ⊢
            by_cases hlt : i.2.1 < 26
            · rw [if_pos hlt] at h ⊢
              by_cases hop : i.2.1 = 25
              · rw [if_pos hop] at h ⊢
                exact h
              · rw [if_neg hop] at h
                cases h
            · rw [if_neg hlt] at h ⊢
              by_cases hlt : i.2.1 < 27
              · rw [if_pos hlt] at h ⊢
                by_cases hop : i.2.1 = 26
                · rw [if_pos hop] at h ⊢
                  exact h
                · rw [if_neg hop] at h
                  cases h
              · rw [if_neg hlt] at h ⊢
                by_cases hop : i.2.1 = 27
                · rw [if_pos hop] at h ⊢
                  exact h
                · rw [if_neg hop] at h
                  cases h
      · rw [if_neg hlt] at h ⊢
        by_cases hlt : i.2.1 < 39
        · rw [if_pos hlt] at h ⊢
          by_cases hlt : i.2.1 < 36
          · rw [if_pos hlt] at h ⊢
            by_cases hlt : i.2.1 < 29
            · rw [if_pos hlt] at h ⊢
              by_cases hop : i.2.1 = 28
              · rw [if_pos hop] at h ⊢
                exact sy_l28 (sm0 := []) h
              · rw [if_neg hop] at h
                cases h
            · rw [if_neg hlt] at h ⊢
              by_cases hop : i.2.1 = 29
              · rw [if_pos hop] at h ⊢
                exact sy_l29 (sm0 := []) h
              · rw [if_neg hop] at h
                cases h
          · rw [if_neg hlt] at h ⊢
            by_cases hlt : i.2.1 < 37
            · rw [if_pos hlt] at h ⊢
              by_cases hop : i.2.1 = 36
              · rw [if_pos hop] at h ⊢
                exact h
              · rw [if_neg hop] at h
                cases h
            · rw [if_neg hlt] at h ⊢
              by_cases hlt : i.2.1 < 38
              · rw [if_pos hlt] at h ⊢
                by_cases hop : i.2.1 = 37
                · rw [if_pos hop] at h ⊢
                  exact h
                · rw [if_neg hop] at h
                  cases h
              · rw [if_neg hlt] at h ⊢
                by_cases hop : i.2.1 = 38
                · rw [if_pos hop] at h ⊢
                  exact h
                · rw [if_neg hop] at h
                  cases h
        · rw [if_neg hlt] at h ⊢
          by_cases hlt : i.2.1 < 42
          · rw [if_pos hlt] at h ⊢
            by_cases hlt : i.2.1 < 40
            · rw [if_pos hlt] at h ⊢
              by_cases hop : i.2.1 = 39
              · rw [if_pos hop] at h ⊢
                exact h
              · rw [if_neg hop] at h
                cases h
            · rw [if_neg hlt] at h ⊢
              by_cases hop : i.2.1 = 40
              · rw [if_pos hop] at h ⊢
                exact h
              · rw [if_neg hop] at h
                cases h
          · rw [if_neg hlt] at h ⊢
            by_cases hlt : i.2.1 < 44
            · rw [if_pos hlt] at h ⊢
              by_cases hop : i.2.1 = 42
              · rw [if_pos hop] at h ⊢
                exact h
              · rw [if_neg hop] at h
                cases h
            · rw [if_neg hlt] at h ⊢
              by_cases hlt : i.2.1 < 47
              · rw [if_pos hlt] at h ⊢
                by_cases hop : i.2.1 = 44
                · rw [if_pos hop] at h ⊢
                  exact h
                · rw [if_neg hop] at h
                  cases h
              · rw [if_neg hlt] at h ⊢
                by_cases hop : i.2.1 = 47
                · rw [if_pos hop] at h ⊢
                  exact sy_l47 (sm0 := []) h
                · rw [if_neg hop] at h
                  cases h
  · rw [if_neg hlt] at h ⊢
    by_cases hlt : i.2.1 < 71
    · rw [if_pos hlt] at h ⊢
      by_cases hlt : i.2.1 < 59
      · rw [if_pos hlt] at h ⊢
        by_cases hlt : i.2.1 < 52
        · rw [if_pos hlt] at h ⊢
          by_cases hlt : i.2.1 < 50
          · rw [if_pos hlt] at h ⊢
            by_cases hlt : i.2.1 < 49
            · rw [if_pos hlt] at h ⊢
              by_cases hop : i.2.1 = 48
              · rw [if_pos hop] at h ⊢
                exact h
              · rw [if_neg hop] at h
                cases h
            · rw [if_neg hlt] at h ⊢
              by_cases hop : i.2.1 = 49
              · rw [if_pos hop] at h ⊢
                exact h
              · rw [if_neg hop] at h
                cases h
          · rw [if_neg hlt] at h ⊢
            by_cases hlt : i.2.1 < 51
            · rw [if_pos hlt] at h ⊢
              by_cases hop : i.2.1 = 50
              · rw [if_pos hop] at h ⊢
                exact h
              · rw [if_neg hop] at h
                cases h
            · rw [if_neg hlt] at h ⊢
              by_cases hop : i.2.1 = 51
              · rw [if_pos hop] at h ⊢
                exact h
              · rw [if_neg hop] at h
                cases h
        · rw [if_neg hlt] at h ⊢
          by_cases hlt : i.2.1 < 54
          · rw [if_pos hlt] at h ⊢
            by_cases hlt : i.2.1 < 53
            · rw [if_pos hlt] at h ⊢
              by_cases hop : i.2.1 = 52
              · rw [if_pos hop] at h ⊢
                exact h
              · rw [if_neg hop] at h
                cases h
            · rw [if_neg hlt] at h ⊢
              by_cases hop : i.2.1 = 53
              · rw [if_pos hop] at h ⊢
                exact h
              · rw [if_neg hop] at h
                cases h
          · rw [if_neg hlt] at h ⊢
            by_cases hlt : i.2.1 < 56
            · rw [if_pos hlt] at h ⊢
              by_cases hop : i.2.1 = 54
              · rw [if_pos hop] at h ⊢
                exact h
              · rw [if_neg hop] at h
                cases h
            · rw [if_neg hlt] at h ⊢
              by_cases hlt : i.2.1 < 57
              · rw [if_pos hlt] at h ⊢
                by_cases hop : i.2.1 = 56
                · rw [if_pos hop] at h ⊢
                  exact sy_l56 (sm0 := []) h
                · rw [if_neg hop] at h
                  cases h
              · rw [if_neg hlt] at h ⊢
                by_cases hop : i.2.1 = 57
                · rw [if_pos hop] at h ⊢
                  exact sy_l57 (sm0 := []) h
                · rw [if_neg hop] at h
                  cases h
      · rw [if_neg hlt] at h ⊢
        by_cases hlt : i.2.1 < 66
        · rw [if_pos hlt] at h ⊢
          by_cases hlt : i.2.1 < 61
          · rw [if_pos hlt] at h ⊢
            by_cases hlt : i.2.1 < 60
            · rw [if_pos hlt] at h ⊢
              by_cases hop : i.2.1 = 59
              · rw [if_pos hop] at h ⊢
                exact h
              · rw [if_neg hop] at h
                cases h
            · rw [if_neg hlt] at h ⊢
              by_cases hop : i.2.1 = 60
              · rw [if_pos hop] at h ⊢
                exact h
              · rw [if_neg hop] at h
                cases h
          · rw [if_neg hlt] at h ⊢
            by_cases hlt : i.2.1 < 62
            · rw [if_pos hlt] at h ⊢
              by_cases hop : i.2.1 = 61
              · rw [if_pos hop] at h ⊢
                exact h
              · rw [if_neg hop] at h
                cases h
            · rw [if_neg hlt] at h ⊢
              by_cases hlt : i.2.1 < 63
              · rw [if_pos hlt] at h ⊢
                by_cases hop : i.2.1 = 62
                · rw [if_pos hop] at h ⊢
                  exact h
                · rw [if_neg hop] at h
                  cases h
              · rw [if_neg hlt] at h ⊢
                by_cases hop : i.2.1 = 63
                · rw [if_pos hop] at h ⊢
                  exact sy_l63 (sm0 := []) h
                · rw [if_neg hop] at h
                  cases h
        · rw [if_neg hlt] at h ⊢
          by_cases hlt : i.2.1 < 68
          · rw [if_pos hlt] at h ⊢
            by_cases hlt : i.2.1 < 67
            · rw [if_pos hlt] at h ⊢
              by_cases hop : i.2.1 = 66
              · rw [if_pos hop] at h ⊢
                exact h
              · rw [if_neg hop] at h
                cases h
            · rw [if_neg hlt] at h ⊢
              by_cases hop : i.2.1 = 67
              · rw [if_pos hop] at h ⊢
                exact h
              · rw [if_neg hop] at h
                cases h
          · rw [if_neg hlt] at h ⊢
            by_cases hlt : i.2.1 < 69
            · rw [if_pos hlt] at h ⊢
              by_cases hop : i.2.1 = 68
              · rw [if_pos hop] at h ⊢
                exact h
              · rw [if_neg hop] at h
                cases h
            · rw [if_neg hlt] at h ⊢
              by_cases hlt : i.2.1 < 70
              · rw [if_pos hlt] at h ⊢
                by_cases hop : i.2.1 = 69
                · rw [if_pos hop] at h ⊢
                  exact h
                · rw [if_neg hop] at h
                  cases h
              · rw [if_neg hlt] at h ⊢
                by_cases hop : i.2.1 = 70
                · rw [if_pos hop] at h ⊢
                  exact h
                · rw [if_neg hop] at h
                  cases h
    · rw [if_neg hlt] at h ⊢
      by_cases hlt : i.2.1 < 81
      · rw [if_pos hlt] at h ⊢
        by_cases hlt : i.2.1 < 76
        · rw [if_pos hlt] at h ⊢
          by_cases hlt : i.2.1 < 73
          · rw [if_pos hlt] at h ⊢
            by_cases hlt : i.2.1 < 72
            · rw [if_pos hlt] at h ⊢
              by_cases hop : i.2.1 = 71
              · rw [if_pos hop] at h ⊢
                exact h
              · rw [if_neg hop] at h
                cases h
            · rw [if_neg hlt] at h ⊢
              by_cases hop : i.2.1 = 72
              · rw [if_pos hop] at h ⊢
                exact h
              · rw [if_neg hop] at h
                cases h
          · rw [if_neg hlt] at h ⊢
            by_cases hlt : i.2.1 < 74
            · rw [if_pos hlt] at h ⊢
              by_cases hop : i.2.1 = 73
              · rw [if_pos hop] at h ⊢
                exact h
              · rw [if_neg hop] at h
                cases h
            · rw [if_neg hlt] at h ⊢
              by_cases hlt : i.2.1 < 75
              · rw [if_pos hlt] at h ⊢
                by_cases hop : i.2.1 = 74
                · rw [if_pos hop] at h ⊢
                  exact h
                · rw [if_neg hop] at h
                  cases h
              · rw [if_neg hlt] at h ⊢
                by_cases hop : i.2.1 = 75
                · rw [if_pos hop] at h ⊢
                  exact h
                · rw [if_neg hop] at h
                  cases h
        · rw [if_neg hlt] at h ⊢
          by_cases hlt : i.2.1 < 78
          · rw [if_pos hlt] at h ⊢
            by_cases hlt : i.2.1 < 77
            · rw [if_pos hlt] at h ⊢
              by_cases hop : i.2.1 = 76
              · rw [if_pos hop] at h ⊢
                exact h
              · rw [if_neg hop] at h
                cases h
            · rw [if_neg hlt] at h ⊢
              by_cases hop : i.2.1 = 77
              · rw [if_pos hop] at h ⊢
                exact h
              · rw [if_neg hop] at h
                cases h
          · rw [if_neg hlt] at h ⊢
            by_cases hlt : i.2.1 < 79
            · rw [if_pos hlt] at h ⊢
              by_cases hop : i.2.1 = 78
              · rw [if_pos hop] at h ⊢
                exact h
              · rw [if_neg hop] at h
                cases h
            · rw [if_neg hlt] at h ⊢
              by_cases hlt : i.2.1 < 80
              · rw [if_pos hlt] at h ⊢
                by_cases hop : i.2.1 = 79
                · rw [if_pos hop] at h ⊢
                  exact h
                · rw [if_neg hop] at h
                  cases h
              · rw [if_neg hlt] at h ⊢
                by_cases hop : i.2.1 = 80
                · rw [if_pos hop] at h ⊢
                  exact h
                · rw [if_neg hop] at h
                  cases h
      · rw [if_neg hlt] at h ⊢
        by_cases hlt : i.2.1 < 87
        · rw [if_pos hlt] at h ⊢
          by_cases hlt : i.2.1 < 83
          · rw [if_pos hlt] at h ⊢
            by_cases hlt : i.2.1 < 82
            · rw [if_pos hlt] at h ⊢
              by_cases hop : i.2.1 = 81
              · rw [if_pos hop] at h ⊢
                exact h
              · rw [if_neg hop] at h
                cases h
            · rw [if_neg hlt] at h ⊢
              by_cases hop : i.2.1 = 82
              · rw [if_pos hop] at h ⊢
                exact h
              · rw [if_neg hop] at h
                cases h
          · rw [if_neg hlt] at h ⊢
            by_cases hlt : i.2.1 < 85
            · rw [if_pos hlt] at h ⊢
              by_cases hop : i.2.1 = 83
              · rw [if_pos hop] at h ⊢
                exact h
              · rw [if_neg hop] at h
                cases h
            · rw [if_neg hlt] at h ⊢
              by_cases hlt : i.2.1 < 86
              · rw [if_pos hlt] at h ⊢
                by_cases hop : i.2.1 = 85
                · rw [if_pos hop] at h ⊢
                  exact h
                · rw [if_neg hop] at h
                  cases h
              · rw [if_neg hlt] at h ⊢
                by_cases hop : i.2.1 = 86
                · rw [if_pos hop] at h ⊢
                  exact sy_l86 (sm0 := []) h
                · rw [if_neg hop] at h
                  cases h
        · rw [if_neg hlt] at h ⊢
          by_cases hlt : i.2.1 < 89
          · rw [if_pos hlt] at h ⊢
            by_cases hlt : i.2.1 < 88
            · rw [if_pos hlt] at h ⊢
              by_cases hop : i.2.1 = 87
              · rw [if_pos hop] at h ⊢
                exact h
              · rw [if_neg hop] at h
                cases h
            · rw [if_neg hlt] at h ⊢
              by_cases hop : i.2.1 = 88
              · rw [if_pos hop] at h ⊢
                exact h
              · rw [if_neg hop] at h
                cases h
          · rw [if_neg hlt] at h ⊢
            by_cases hlt : i.2.1 < 90
            · rw [if_pos hlt] at h ⊢
              by_cases hop : i.2.1 = 89
              · rw [if_pos hop] at h ⊢
                exact h
              · rw [if_neg hop] at h
                cases h
            · rw [if_neg hlt] at h ⊢
              by_cases hlt : i.2.1 < 91
              · rw [if_pos hlt] at h ⊢
                by_cases hop : i.2.1 = 90
                · rw [if_pos hop] at h ⊢
                  exact sy_l90 (sm0 := []) h
                · rw [if_neg hop] at h
                  cases h
              · rw [if_neg hlt] at h ⊢
                by_cases hop : i.2.1 = 91
                · rw [if_pos hop] at h ⊢
                  exact sy_l91 (sm0 := []) h
                · rw [if_neg hop] at h
                  cases h
theorem sy_okM_r {o : Nat} {y : MethodName} {bytes : ByteArray} {maxL : Nat} {rt : Option FieldType} {cd : ev_Cd} {lo n : Nat} (h : sy_okM o y bytes maxL rt cd lo n = true) {ix : Nat} {i : ev_I} (h1 : lo ≤ ix) (h2 : ix < lo + n) (hi : cd[ix]? = some i) : sx_ok sy_gc ct_all ct_kt sy_pg [] sy_tb (sy_nm o) y.name bytes maxL rt cd ix i = true := by
  have h3 := List.all_eq_true.mp h (ix - lo) (List.mem_range.mpr (by omega))
  rw [show lo + (ix - lo) = ix by omega, hi] at h3
  exact sy_ok_r h3
theorem sy_okC : ev_okC sy_gs ct_cl ct_all := fun k q hq => by
  have hm : ∀ w ∈ ct_gs, w ∈ sy_gs := fun w hw => by
    unfold sy_gs sy_gc
    rw [List.flatten_append]
    refine List.mem_append_right _ ?_
    rw [List.flatten_cons]
    exact List.mem_append_right _ hw
  obtain ⟨a1, a2, a3, a4, a5, a6, a7, a8⟩ := ct_okC k q hq
  exact ⟨fun w hw => hm w (a1 w hw), a2, a3, a4, hm _ a5, hm _ a6, a7, a8⟩
theorem sy_incw : ∀ w ∈ sy_cw, w ∈ sy_gs := fun w hw => by
  unfold sy_gs sy_gc
  rw [List.flatten_append]
  refine List.mem_append_right _ ?_
  rw [List.flatten_cons]
  exact List.mem_append_left _ hw
set_option maxRecDepth 100000 in
theorem sy_cwe : sy_cw = sy_pg.map (fun q => Cond.code q.1.1 q.1.2.1 q.1.2.2.1 q.1.2.2.2) := rfl
theorem sy_cwat : ∀ k : Nat, sy_cw[k]? = (sy_pg[k]?).map (fun q => Cond.code q.1.1 q.1.2.1 q.1.2.2.1 q.1.2.2.2) := fun k => by
  rw [sy_cwe, List.getElem?_map]
theorem sy_okDD : ev_okD sy_gs ct_cl ct_all sy_pg := ⟨sy_okC, fun k y bytes maxL rt cd hk => by
  refine sy_incw _ (List.mem_of_getElem? (i := k) ?_)
  rw [sy_cwat, hk]
  rfl⟩
