/-! What was looked at by numbers. Written by a program (wip/eng). -/
theorem sy_l4 {kt : List FieldType} {sm0 : ev_Sm} {bs : List (List Nat)} {o : Nat} {nm : String} {cc : ByteArray} {nL : Nat} {ret : Option FieldType} {cd : ev_Cd} {ix : Nat} {i : ev_I} (hb : sy_By cc bs) (h : sy_k4 kt sy_pg bs o nm cc nL ret cd ix i = true) : ev_k4 sy_gc ct_all kt sy_pg sm0 (sy_nm o) nm cc nL ret cd ix i = true := by
  unfold sy_k4 at h
  unfold ev_k4
  simp only [Bool.and_eq_true, decide_eq_true_eq] at h ⊢
  exact ⟨⟨h.1.1, sy_is_ok h.1.2⟩, h.2⟩
theorem sy_l5 {kt : List FieldType} {sm0 : ev_Sm} {bs : List (List Nat)} {o : Nat} {nm : String} {cc : ByteArray} {nL : Nat} {ret : Option FieldType} {cd : ev_Cd} {ix : Nat} {i : ev_I} (hb : sy_By cc bs) (h : sy_k5 kt sy_pg bs o nm cc nL ret cd ix i = true) : ev_k5 sy_gc ct_all kt sy_pg sm0 (sy_nm o) nm cc nL ret cd ix i = true := by
  unfold sy_k5 at h
  unfold ev_k5
  simp only [Bool.and_eq_true, decide_eq_true_eq] at h ⊢
  have hD : ∀ {k n : Nat}, sy_b3 bs k 19 n = true → decode cc k = .ok (.ldc_w n, 3) := fun q => sy_d19 (sy_b3_r hb q).1 (sy_b3_r hb q).2
  exact ⟨⟨⟨hD h.1.1.1, h.1.1.2⟩, sy_is_ok h.1.2⟩, h.2⟩
theorem sy_l47 {kt : List FieldType} {sm0 : ev_Sm} {bs : List (List Nat)} {o : Nat} {nm : String} {cc : ByteArray} {nL : Nat} {ret : Option FieldType} {cd : ev_Cd} {ix : Nat} {i : ev_I} (hb : sy_By cc bs) (h : sy_k47 kt sy_pg bs o nm cc nL ret cd ix i = true) : ev_k47 sy_gc ct_all kt sy_pg sm0 (sy_nm o) nm cc nL ret cd ix i = true := by
  unfold sy_k47 at h
  unfold ev_k47
  simp only [Bool.and_eq_true, decide_eq_true_eq] at h ⊢
  have hD : ∀ {k n : Nat}, sy_b3 bs k 20 n = true → decode cc k = .ok (.ldc2_w n, 3) := fun q => sy_d20 (sy_b3_r hb q).1 (sy_b3_r hb q).2
  exact ⟨⟨hD h.1.1, h.1.2⟩, sy_is_ok h.2⟩
theorem sy_l28 {kt : List FieldType} {sm0 : ev_Sm} {bs : List (List Nat)} {o : Nat} {nm : String} {cc : ByteArray} {nL : Nat} {ret : Option FieldType} {cd : ev_Cd} {ix : Nat} {i : ev_I} (hb : sy_By cc bs) (h : sy_k28 kt sy_pg bs o nm cc nL ret cd ix i = true) : ev_k28 sy_gc ct_all kt sy_pg sm0 (sy_nm o) nm cc nL ret cd ix i = true := by
  unfold sy_k28 at h
  unfold ev_k28
  simp only [Bool.and_eq_true, decide_eq_true_eq] at h ⊢
  have hD : ∀ {k n : Nat}, sy_b3 bs k 180 n = true → decode cc k = .ok (.getfield n, 3) := fun q => sy_d180 (sy_b3_r hb q).1 (sy_b3_r hb q).2
  obtain ⟨⟨hd0, hd1⟩, hf⟩ := h
  have hd := And.intro (hD hd0) hd1
  split at hf
  · next g hg =>
    split at hf
    · next x hx =>
      obtain ⟨q, q1, q2, q3, q4, q5⟩ := sy_fall _ _ g x hg hx
      have hw := sy_is_ok hf
      refine ⟨hd, ?_⟩
      rw [q1]
      simp only [Bool.and_eq_true, decide_eq_true_eq]
      exact ⟨q2, by rw [hw, q3, q4, q5]; rfl⟩
    · cases hf
  · cases hf
theorem sy_l29 {kt : List FieldType} {sm0 : ev_Sm} {bs : List (List Nat)} {o : Nat} {nm : String} {cc : ByteArray} {nL : Nat} {ret : Option FieldType} {cd : ev_Cd} {ix : Nat} {i : ev_I} (hb : sy_By cc bs) (h : sy_k29 kt sy_pg bs o nm cc nL ret cd ix i = true) : ev_k29 sy_gc ct_all kt sy_pg sm0 (sy_nm o) nm cc nL ret cd ix i = true := by
  unfold sy_k29 at h
  unfold ev_k29
  simp only [Bool.and_eq_true, decide_eq_true_eq] at h ⊢
  have hD : ∀ {k n : Nat}, sy_b3 bs k 181 n = true → decode cc k = .ok (.putfield n, 3) := fun q => sy_d181 (sy_b3_r hb q).1 (sy_b3_r hb q).2
  obtain ⟨⟨⟨hd0, hd1⟩, hf⟩, hz⟩ := h
  have hd := And.intro (hD hd0) hd1
  split at hf
  · next g hg =>
    split at hf
    · next x hx =>
      obtain ⟨q, q1, q2, q3, q4, q5⟩ := sy_fall _ _ g x hg hx
      have hw := sy_is_ok hf
      refine ⟨hd, ?_⟩
      rw [q1] at hz ⊢
      simp only [Bool.and_eq_true, decide_eq_true_eq]
      exact ⟨⟨q2, by rw [hw, q3, q4, q5]; rfl⟩, by simpa using hz⟩
    · cases hf
  · cases hf
theorem sy_l56 {kt : List FieldType} {sm0 : ev_Sm} {bs : List (List Nat)} {o : Nat} {nm : String} {cc : ByteArray} {nL : Nat} {ret : Option FieldType} {cd : ev_Cd} {ix : Nat} {i : ev_I} (hb : sy_By cc bs) (h : sy_k56 kt sy_pg bs o nm cc nL ret cd ix i = true) : ev_k56 sy_gc ct_all kt sy_pg sm0 (sy_nm o) nm cc nL ret cd ix i = true := by
  unfold sy_k56 at h
  unfold ev_k56
  simp only [Bool.and_eq_true, decide_eq_true_eq] at h ⊢
  have hD : ∀ {k n : Nat}, sy_b3 bs k 182 n = true → decode cc k = .ok (.invokevirtual n, 3) := fun q => sy_d182 (sy_b3_r hb q).1 (sy_b3_r hb q).2
  obtain ⟨⟨hd0, hd1⟩, hf⟩ := h
  have hd := And.intro (hD hd0) hd1
  split at hf
  · next x hx =>
    simp only [Bool.and_eq_true, decide_eq_true_eq] at hf
    obtain ⟨⟨f1, f2, f3, f4, f5⟩, f6⟩ := hf
    obtain ⟨bytes, maxL, rt, cdm, p1, p2, p3, p4, p5⟩ : sy_mp _ x := by
      have := sy_al_r sy_mal _ x hx
      rwa [Nat.zero_add] at this
    refine ⟨hd, ?_⟩
    rw [p1]
    simp only [Bool.and_eq_true, decide_eq_true_eq]
    rcases p5 with ⟨p5, -⟩ | ⟨-, p5⟩
    · omega
    · rcases p5 with p5 | ⟨p5, p6, q, p7, p8⟩
      · have e1 := sy_is_ok p5
        rw [sy_is_ok f6] at e1
        exact absurd (Option.some.inj e1) (by intro e; cases e)
      · rw [f4, p7, f2, f3]
        refine ⟨⟨⟨⟨⟨⟨⟨sy_is_ok f1, Nat.le_refl _⟩, sy_is_ok p2⟩, sy_is_ok p5⟩, sy_is_ok p6⟩, ?_⟩, ?_⟩, p4⟩
        · exact decide_eq_true p8
        · exact p3
  · cases hf
theorem sy_l57 {kt : List FieldType} {sm0 : ev_Sm} {bs : List (List Nat)} {o : Nat} {nm : String} {cc : ByteArray} {nL : Nat} {ret : Option FieldType} {cd : ev_Cd} {ix : Nat} {i : ev_I} (hb : sy_By cc bs) (h : sy_k57 kt sy_pg bs o nm cc nL ret cd ix i = true) : ev_k57 sy_gc ct_all kt sy_pg sm0 (sy_nm o) nm cc nL ret cd ix i = true := by
  unfold sy_k57 at h
  unfold ev_k57
  simp only [Bool.and_eq_true, decide_eq_true_eq] at h ⊢
  have hD : ∀ {k n : Nat}, sy_b3 bs k 184 n = true → decode cc k = .ok (.invokestatic n, 3) := fun q => sy_d184 (sy_b3_r hb q).1 (sy_b3_r hb q).2
  obtain ⟨⟨hd0, hd1⟩, hf⟩ := h
  have hd := And.intro (hD hd0) hd1
  split at hf
  · next x hx =>
    simp only [Bool.and_eq_true, decide_eq_true_eq] at hf
    obtain ⟨⟨f1, f2, f3⟩, f6⟩ := hf
    obtain ⟨bytes, maxL, rt, cdm, p1, p2, p3, p4, -⟩ : sy_mp _ x := by
      have := sy_al_r sy_mal _ x hx
      rwa [Nat.zero_add] at this
    refine ⟨hd, ?_⟩
    rw [p1]
    simp only [Bool.and_eq_true, decide_eq_true_eq]
    rw [f2, f3]
    exact ⟨⟨⟨⟨⟨sy_is_ok f1, Nat.le_refl _⟩, sy_is_ok p2⟩, sy_is_ok f6⟩, p3⟩, p4⟩
  · cases hf
theorem sy_l63 {kt : List FieldType} {sm0 : ev_Sm} {bs : List (List Nat)} {o : Nat} {nm : String} {cc : ByteArray} {nL : Nat} {ret : Option FieldType} {cd : ev_Cd} {ix : Nat} {i : ev_I} (hb : sy_By cc bs) (h : sy_k63 kt sy_pg bs o nm cc nL ret cd ix i = true) : ev_k63 sy_gc ct_all kt sy_pg sm0 (sy_nm o) nm cc nL ret cd ix i = true := by
  unfold sy_k63 at h
  unfold ev_k63
  simp only [Bool.and_eq_true, decide_eq_true_eq] at h ⊢
  have hD : ∀ {k n : Nat}, sy_b3 bs k 184 n = true → decode cc k = .ok (.invokestatic n, 3) := fun q => sy_d184 (sy_b3_r hb q).1 (sy_b3_r hb q).2
  obtain ⟨⟨⟨⟨⟨⟨⟨h0, h1⟩, h2⟩, h3⟩, h4⟩, h5⟩, h6⟩, h7⟩ := h
  exact ⟨⟨⟨⟨⟨⟨⟨hD h0, h1⟩, h2⟩, h3⟩, sy_is_ok h4⟩, sy_is_ok h5⟩, sy_is_ok h6⟩, sy_is_ok h7⟩
theorem sy_l90 {kt : List FieldType} {sm0 : ev_Sm} {bs : List (List Nat)} {o : Nat} {nm : String} {cc : ByteArray} {nL : Nat} {ret : Option FieldType} {cd : ev_Cd} {ix : Nat} {i : ev_I} (hb : sy_By cc bs) (h : sy_k90 kt sy_pg bs o nm cc nL ret cd ix i = true) : sx_k90 sy_gc kt (sy_nm o) cc cd ix i = true := by
  unfold sy_k90 at h
  unfold sx_k90
  simp only [Bool.and_eq_true, decide_eq_true_eq] at h ⊢
  have hD : ∀ {k n : Nat}, sy_b3 bs k 184 n = true → decode cc k = .ok (.invokestatic n, 3) := fun q => sy_d184 (sy_b3_r hb q).1 (sy_b3_r hb q).2
  obtain ⟨⟨⟨⟨⟨⟨h0, h1⟩, h3⟩, h4⟩, h5⟩, h6⟩, h7⟩ := h
  exact ⟨⟨⟨⟨⟨⟨hD h0, h1⟩, h3⟩, sy_is_ok h4⟩, sy_is_ok h5⟩, sy_is_ok h6⟩, sy_is_ok h7⟩
theorem sy_l91 {kt : List FieldType} {sm0 : ev_Sm} {bs : List (List Nat)} {o : Nat} {nm : String} {cc : ByteArray} {nL : Nat} {ret : Option FieldType} {cd : ev_Cd} {ix : Nat} {i : ev_I} (hb : sy_By cc bs) (h : sy_k91 kt sy_pg bs o nm cc nL ret cd ix i = true) : sx_k91 sy_gc (sy_nm o) cc cd ix i = true := by
  unfold sy_k91 at h
  unfold sx_k91
  simp only [Bool.and_eq_true, decide_eq_true_eq] at h ⊢
  have hD : ∀ {k n : Nat}, sy_b3 bs k 184 n = true → decode cc k = .ok (.invokestatic n, 3) := fun q => sy_d184 (sy_b3_r hb q).1 (sy_b3_r hb q).2
  obtain ⟨⟨⟨⟨⟨h0, h1⟩, h4⟩, h5⟩, h6⟩, h7⟩ := h
  exact ⟨⟨⟨⟨⟨hD h0, h1⟩, sy_is_ok h4⟩, sy_is_ok h5⟩, sy_is_ok h6⟩, sy_is_ok h7⟩
theorem sy_l86 {kt : List FieldType} {sm0 : ev_Sm} {bs : List (List Nat)} {o : Nat} {nm : String} {cc : ByteArray} {nL : Nat} {ret : Option FieldType} {cd : ev_Cd} {ix : Nat} {i : ev_I} (hb : sy_By cc bs) (h : sy_k86 kt sy_pg bs o nm cc nL ret cd ix i = true) : sx_k86 sy_gc sy_tb (sy_nm o) cc cd ix i = true := by
  unfold sy_k86 at h
  unfold sx_k86
  simp only [Bool.and_eq_true, decide_eq_true_eq] at h ⊢
  have hD : ∀ {k n : Nat}, sy_b3 bs k 178 n = true → decode cc k = .ok (.getstatic n, 3) := fun q => sy_d178 (sy_b3_r hb q).1 (sy_b3_r hb q).2
  obtain ⟨⟨hd0, hd1⟩, hf⟩ := h
  have hd := And.intro (hD hd0) hd1
  split at hf
  · next q hq =>
    refine ⟨hd, ?_⟩
    unfold sy_tb
    rw [List.getElem?_map, hq]
    exact decide_eq_true (sy_is_ok hf)
  · cases hf
theorem sy_l25 {kt : List FieldType} {sm0 : ev_Sm} {bs : List (List Nat)} {o : Nat} {nm : String} {cc : ByteArray} {nL : Nat} {ret : Option FieldType} {cd : ev_Cd} {ix : Nat} {i : ev_I} (hb : sy_By cc bs) (h : sy_k25 kt sy_pg bs o nm cc nL ret cd ix i = true) : ev_k25 sy_gc ct_all kt sy_pg sm0 (sy_nm o) nm cc nL ret cd ix i = true := by
  unfold sy_k25 at h
  unfold ev_k25
  simp only [Bool.and_eq_true, decide_eq_true_eq] at h ⊢
  obtain ⟨q1, q2⟩ := sy_bj_r hb h
  have hd := sy_d167 q1 q2
  have e : ev_dn cc (ev_pc cd ix) = ((ev_pc cd i.2.2.1 : Nat) : Int) - ((ev_pc cd ix : Nat) : Int) := by
    unfold ev_dn
    rw [hd]
  rw [e]
  exact ⟨hd, by omega⟩
theorem sy_l26 {kt : List FieldType} {sm0 : ev_Sm} {bs : List (List Nat)} {o : Nat} {nm : String} {cc : ByteArray} {nL : Nat} {ret : Option FieldType} {cd : ev_Cd} {ix : Nat} {i : ev_I} (hb : sy_By cc bs) (h : sy_k26 kt sy_pg bs o nm cc nL ret cd ix i = true) : ev_k26 sy_gc ct_all kt sy_pg sm0 (sy_nm o) nm cc nL ret cd ix i = true := by
  unfold sy_k26 at h
  unfold ev_k26
  simp only [Bool.and_eq_true, decide_eq_true_eq] at h ⊢
  obtain ⟨⟨h0, h5⟩, h1⟩ := h
  obtain ⟨q1, q2⟩ := sy_bj_r hb h0
  have h5 : i.2.2.2.2.2.1 ≤ 5 := Nat.le_of_ble_eq_true h5
  have hd : decode cc (ev_pc cd ix) = .ok (.if_icmp (ev_cn i.2.2.2.2.2.1) (((ev_pc cd i.2.2.1 : Nat) : Int) - ((ev_pc cd ix : Nat) : Int)), 3) := by
    have h6 : i.2.2.2.2.2.1 = 0 ∨ i.2.2.2.2.2.1 = 1 ∨ i.2.2.2.2.2.1 = 2 ∨ i.2.2.2.2.2.1 = 3 ∨ i.2.2.2.2.2.1 = 4 ∨ i.2.2.2.2.2.1 = 5 := by omega
    rcases h6 with h6 | h6 | h6 | h6 | h6 | h6 <;> rw [h6] at q1 ⊢
    · exact sy_d159 q1 q2
    · exact sy_d160 q1 q2
    · exact sy_d161 q1 q2
    · exact sy_d162 q1 q2
    · exact sy_d163 q1 q2
    · exact sy_d164 q1 q2
  have e : ev_dn cc (ev_pc cd ix) = ((ev_pc cd i.2.2.1 : Nat) : Int) - ((ev_pc cd ix : Nat) : Int) := by
    unfold ev_dn
    rw [hd]
  rw [e]
  exact ⟨⟨hd, h1⟩, by omega⟩
theorem sy_l27 {kt : List FieldType} {sm0 : ev_Sm} {bs : List (List Nat)} {o : Nat} {nm : String} {cc : ByteArray} {nL : Nat} {ret : Option FieldType} {cd : ev_Cd} {ix : Nat} {i : ev_I} (hb : sy_By cc bs) (h : sy_k27 kt sy_pg bs o nm cc nL ret cd ix i = true) : ev_k27 sy_gc ct_all kt sy_pg sm0 (sy_nm o) nm cc nL ret cd ix i = true := by
  unfold sy_k27 at h
  unfold ev_k27
  simp only [Bool.and_eq_true, decide_eq_true_eq] at h ⊢
  obtain ⟨⟨h0, h5⟩, h1⟩ := h
  obtain ⟨q1, q2⟩ := sy_bj_r hb h0
  have h5 : i.2.2.2.2.2.1 ≤ 5 := Nat.le_of_ble_eq_true h5
  have hd : decode cc (ev_pc cd ix) = .ok (.ifCond (ev_cn i.2.2.2.2.2.1) (((ev_pc cd i.2.2.1 : Nat) : Int) - ((ev_pc cd ix : Nat) : Int)), 3) := by
    have h6 : i.2.2.2.2.2.1 = 0 ∨ i.2.2.2.2.2.1 = 1 ∨ i.2.2.2.2.2.1 = 2 ∨ i.2.2.2.2.2.1 = 3 ∨ i.2.2.2.2.2.1 = 4 ∨ i.2.2.2.2.2.1 = 5 := by omega
    rcases h6 with h6 | h6 | h6 | h6 | h6 | h6 <;> rw [h6] at q1 ⊢
    · exact sy_d153 q1 q2
    · exact sy_d154 q1 q2
    · exact sy_d155 q1 q2
    · exact sy_d156 q1 q2
    · exact sy_d157 q1 q2
    · exact sy_d158 q1 q2
  have e : ev_dn cc (ev_pc cd ix) = ((ev_pc cd i.2.2.1 : Nat) : Int) - ((ev_pc cd ix : Nat) : Int) := by
    unfold ev_dn
    rw [hd]
  rw [e]
  exact ⟨⟨hd, h1⟩, by omega⟩
theorem sy_l3 {kt : List FieldType} {sm0 : ev_Sm} {bs : List (List Nat)} {o : Nat} {nm : String} {cc : ByteArray} {nL : Nat} {ret : Option FieldType} {cd : ev_Cd} {ix : Nat} {i : ev_I} (hb : sy_By cc bs) (h : sy_k3 kt sy_pg bs o nm cc nL ret cd ix i = true) : ev_k3 sy_gc ct_all kt sy_pg sm0 (sy_nm o) nm cc nL ret cd ix i = true := by
  unfold sy_k3 at h
  unfold ev_k3
  simp only [Bool.and_eq_true, decide_eq_true_eq] at h ⊢
  obtain ⟨⟨h0, h1⟩, h2⟩ := h
  obtain ⟨q1, q2⟩ := sy_b3_r hb h0
  have hd := sy_d17 q1 (sy_s2 q2)
  have e : ev_dn cc (ev_pc cd ix) = Reader.signed 16 (i.2.2.1 % 65536) := by
    unfold ev_dn
    rw [hd]
  rw [e]
  exact ⟨⟨hd, h1⟩, h2⟩
theorem sy_l15 {kt : List FieldType} {sm0 : ev_Sm} {bs : List (List Nat)} {o : Nat} {nm : String} {cc : ByteArray} {nL : Nat} {ret : Option FieldType} {cd : ev_Cd} {ix : Nat} {i : ev_I} (hb : sy_By cc bs) (h : sy_k15 kt sy_pg bs o nm cc nL ret cd ix i = true) : ev_k15 sy_gc ct_all kt sy_pg sm0 (sy_nm o) nm cc nL ret cd ix i = true := by
  unfold sy_k15 at h
  have hD : sy_i1 bs (ev_pc cd ix) 96 = true → decode cc (ev_pc cd ix) = .ok (.iadd, 1) := fun q => sy_d96 (sy_i1_r hb q)
  cases hC : sy_i1 bs (ev_pc cd ix) 96 with
  | false =>
    rw [hC] at h
    exact absurd h (by simp)
  | true =>
    have hd := hD hC
    unfold ev_k15
    rw [decide_eq_true hd]
    rw [hC] at h
    exact h
theorem sy_l16 {kt : List FieldType} {sm0 : ev_Sm} {bs : List (List Nat)} {o : Nat} {nm : String} {cc : ByteArray} {nL : Nat} {ret : Option FieldType} {cd : ev_Cd} {ix : Nat} {i : ev_I} (hb : sy_By cc bs) (h : sy_k16 kt sy_pg bs o nm cc nL ret cd ix i = true) : ev_k16 sy_gc ct_all kt sy_pg sm0 (sy_nm o) nm cc nL ret cd ix i = true := by
  unfold sy_k16 at h
  have hD : sy_i1 bs (ev_pc cd ix) 100 = true → decode cc (ev_pc cd ix) = .ok (.isub, 1) := fun q => sy_d100 (sy_i1_r hb q)
  cases hC : sy_i1 bs (ev_pc cd ix) 100 with
  | false =>
    rw [hC] at h
    exact absurd h (by simp)
  | true =>
    have hd := hD hC
    unfold ev_k16
    rw [decide_eq_true hd]
    rw [hC] at h
    exact h
theorem sy_l17 {kt : List FieldType} {sm0 : ev_Sm} {bs : List (List Nat)} {o : Nat} {nm : String} {cc : ByteArray} {nL : Nat} {ret : Option FieldType} {cd : ev_Cd} {ix : Nat} {i : ev_I} (hb : sy_By cc bs) (h : sy_k17 kt sy_pg bs o nm cc nL ret cd ix i = true) : ev_k17 sy_gc ct_all kt sy_pg sm0 (sy_nm o) nm cc nL ret cd ix i = true := by
  unfold sy_k17 at h
  have hD : sy_i1 bs (ev_pc cd ix) 104 = true → decode cc (ev_pc cd ix) = .ok (.imul, 1) := fun q => sy_d104 (sy_i1_r hb q)
  cases hC : sy_i1 bs (ev_pc cd ix) 104 with
  | false =>
    rw [hC] at h
    exact absurd h (by simp)
  | true =>
    have hd := hD hC
    unfold ev_k17
    rw [decide_eq_true hd]
    rw [hC] at h
    exact h
theorem sy_l18 {kt : List FieldType} {sm0 : ev_Sm} {bs : List (List Nat)} {o : Nat} {nm : String} {cc : ByteArray} {nL : Nat} {ret : Option FieldType} {cd : ev_Cd} {ix : Nat} {i : ev_I} (hb : sy_By cc bs) (h : sy_k18 kt sy_pg bs o nm cc nL ret cd ix i = true) : ev_k18 sy_gc ct_all kt sy_pg sm0 (sy_nm o) nm cc nL ret cd ix i = true := by
  unfold sy_k18 at h
  have hD : sy_i1 bs (ev_pc cd ix) 126 = true → decode cc (ev_pc cd ix) = .ok (.iand, 1) := fun q => sy_d126 (sy_i1_r hb q)
  cases hC : sy_i1 bs (ev_pc cd ix) 126 with
  | false =>
    rw [hC] at h
    exact absurd h (by simp)
  | true =>
    have hd := hD hC
    unfold ev_k18
    rw [decide_eq_true hd]
    rw [hC] at h
    exact h
theorem sy_l19 {kt : List FieldType} {sm0 : ev_Sm} {bs : List (List Nat)} {o : Nat} {nm : String} {cc : ByteArray} {nL : Nat} {ret : Option FieldType} {cd : ev_Cd} {ix : Nat} {i : ev_I} (hb : sy_By cc bs) (h : sy_k19 kt sy_pg bs o nm cc nL ret cd ix i = true) : ev_k19 sy_gc ct_all kt sy_pg sm0 (sy_nm o) nm cc nL ret cd ix i = true := by
  unfold sy_k19 at h
  have hD : sy_i1 bs (ev_pc cd ix) 128 = true → decode cc (ev_pc cd ix) = .ok (.ior, 1) := fun q => sy_d128 (sy_i1_r hb q)
  cases hC : sy_i1 bs (ev_pc cd ix) 128 with
  | false =>
    rw [hC] at h
    exact absurd h (by simp)
  | true =>
    have hd := hD hC
    unfold ev_k19
    rw [decide_eq_true hd]
    rw [hC] at h
    exact h
theorem sy_l20 {kt : List FieldType} {sm0 : ev_Sm} {bs : List (List Nat)} {o : Nat} {nm : String} {cc : ByteArray} {nL : Nat} {ret : Option FieldType} {cd : ev_Cd} {ix : Nat} {i : ev_I} (hb : sy_By cc bs) (h : sy_k20 kt sy_pg bs o nm cc nL ret cd ix i = true) : ev_k20 sy_gc ct_all kt sy_pg sm0 (sy_nm o) nm cc nL ret cd ix i = true := by
  unfold sy_k20 at h
  have hD : sy_i1 bs (ev_pc cd ix) 130 = true → decode cc (ev_pc cd ix) = .ok (.ixor, 1) := fun q => sy_d130 (sy_i1_r hb q)
  cases hC : sy_i1 bs (ev_pc cd ix) 130 with
  | false =>
    rw [hC] at h
    exact absurd h (by simp)
  | true =>
    have hd := hD hC
    unfold ev_k20
    rw [decide_eq_true hd]
    rw [hC] at h
    exact h
theorem sy_l21 {kt : List FieldType} {sm0 : ev_Sm} {bs : List (List Nat)} {o : Nat} {nm : String} {cc : ByteArray} {nL : Nat} {ret : Option FieldType} {cd : ev_Cd} {ix : Nat} {i : ev_I} (hb : sy_By cc bs) (h : sy_k21 kt sy_pg bs o nm cc nL ret cd ix i = true) : ev_k21 sy_gc ct_all kt sy_pg sm0 (sy_nm o) nm cc nL ret cd ix i = true := by
  unfold sy_k21 at h
  have hD : sy_i1 bs (ev_pc cd ix) 120 = true → decode cc (ev_pc cd ix) = .ok (.ishl, 1) := fun q => sy_d120 (sy_i1_r hb q)
  cases hC : sy_i1 bs (ev_pc cd ix) 120 with
  | false =>
    rw [hC] at h
    exact absurd h (by simp)
  | true =>
    have hd := hD hC
    unfold ev_k21
    rw [decide_eq_true hd]
    rw [hC] at h
    exact h
theorem sy_l22 {kt : List FieldType} {sm0 : ev_Sm} {bs : List (List Nat)} {o : Nat} {nm : String} {cc : ByteArray} {nL : Nat} {ret : Option FieldType} {cd : ev_Cd} {ix : Nat} {i : ev_I} (hb : sy_By cc bs) (h : sy_k22 kt sy_pg bs o nm cc nL ret cd ix i = true) : ev_k22 sy_gc ct_all kt sy_pg sm0 (sy_nm o) nm cc nL ret cd ix i = true := by
  unfold sy_k22 at h
  have hD : sy_i1 bs (ev_pc cd ix) 89 = true → decode cc (ev_pc cd ix) = .ok (.dup, 1) := fun q => sy_d89 (sy_i1_r hb q)
  cases hC : sy_i1 bs (ev_pc cd ix) 89 with
  | false =>
    rw [hC] at h
    exact absurd h (by simp)
  | true =>
    have hd := hD hC
    unfold ev_k22
    rw [decide_eq_true hd]
    rw [hC] at h
    exact h
theorem sy_l23 {kt : List FieldType} {sm0 : ev_Sm} {bs : List (List Nat)} {o : Nat} {nm : String} {cc : ByteArray} {nL : Nat} {ret : Option FieldType} {cd : ev_Cd} {ix : Nat} {i : ev_I} (hb : sy_By cc bs) (h : sy_k23 kt sy_pg bs o nm cc nL ret cd ix i = true) : ev_k23 sy_gc ct_all kt sy_pg sm0 (sy_nm o) nm cc nL ret cd ix i = true := by
  unfold sy_k23 at h
  have hD : sy_i1 bs (ev_pc cd ix) 87 = true → decode cc (ev_pc cd ix) = .ok (.pop, 1) := fun q => sy_d87 (sy_i1_r hb q)
  cases hC : sy_i1 bs (ev_pc cd ix) 87 with
  | false =>
    rw [hC] at h
    exact absurd h (by simp)
  | true =>
    have hd := hD hC
    unfold ev_k23
    rw [decide_eq_true hd]
    rw [hC] at h
    exact h
theorem sy_l24 {kt : List FieldType} {sm0 : ev_Sm} {bs : List (List Nat)} {o : Nat} {nm : String} {cc : ByteArray} {nL : Nat} {ret : Option FieldType} {cd : ev_Cd} {ix : Nat} {i : ev_I} (hb : sy_By cc bs) (h : sy_k24 kt sy_pg bs o nm cc nL ret cd ix i = true) : ev_k24 sy_gc ct_all kt sy_pg sm0 (sy_nm o) nm cc nL ret cd ix i = true := by
  unfold sy_k24 at h
  have hD : sy_i1 bs (ev_pc cd ix) 92 = true → decode cc (ev_pc cd ix) = .ok (.dup2, 1) := fun q => sy_d92 (sy_i1_r hb q)
  cases hC : sy_i1 bs (ev_pc cd ix) 92 with
  | false =>
    rw [hC] at h
    exact absurd h (by simp)
  | true =>
    have hd := hD hC
    unfold ev_k24
    rw [decide_eq_true hd]
    rw [hC] at h
    exact h
theorem sy_l40 {kt : List FieldType} {sm0 : ev_Sm} {bs : List (List Nat)} {o : Nat} {nm : String} {cc : ByteArray} {nL : Nat} {ret : Option FieldType} {cd : ev_Cd} {ix : Nat} {i : ev_I} (hb : sy_By cc bs) (h : sy_k40 kt sy_pg bs o nm cc nL ret cd ix i = true) : ev_k40 sy_gc ct_all kt sy_pg sm0 (sy_nm o) nm cc nL ret cd ix i = true := by
  unfold sy_k40 at h
  have hD : sy_i1 bs (ev_pc cd ix) 190 = true → decode cc (ev_pc cd ix) = .ok (.arraylength, 1) := fun q => sy_d190 (sy_i1_r hb q)
  cases hC : sy_i1 bs (ev_pc cd ix) 190 with
  | false =>
    rw [hC] at h
    exact absurd h (by simp)
  | true =>
    have hd := hD hC
    unfold ev_k40
    rw [decide_eq_true hd]
    rw [hC] at h
    exact h
theorem sy_l42 {kt : List FieldType} {sm0 : ev_Sm} {bs : List (List Nat)} {o : Nat} {nm : String} {cc : ByteArray} {nL : Nat} {ret : Option FieldType} {cd : ev_Cd} {ix : Nat} {i : ev_I} (hb : sy_By cc bs) (h : sy_k42 kt sy_pg bs o nm cc nL ret cd ix i = true) : ev_k42 sy_gc ct_all kt sy_pg sm0 (sy_nm o) nm cc nL ret cd ix i = true := by
  unfold sy_k42 at h
  have hD : sy_i1 bs (ev_pc cd ix) 50 = true → decode cc (ev_pc cd ix) = .ok (.aaload, 1) := fun q => sy_d50 (sy_i1_r hb q)
  cases hC : sy_i1 bs (ev_pc cd ix) 50 with
  | false =>
    rw [hC] at h
    exact absurd h (by simp)
  | true =>
    have hd := hD hC
    unfold ev_k42
    rw [decide_eq_true hd]
    rw [hC] at h
    exact h
theorem sy_l48 {kt : List FieldType} {sm0 : ev_Sm} {bs : List (List Nat)} {o : Nat} {nm : String} {cc : ByteArray} {nL : Nat} {ret : Option FieldType} {cd : ev_Cd} {ix : Nat} {i : ev_I} (hb : sy_By cc bs) (h : sy_k48 kt sy_pg bs o nm cc nL ret cd ix i = true) : ev_k48 sy_gc ct_all kt sy_pg sm0 (sy_nm o) nm cc nL ret cd ix i = true := by
  unfold sy_k48 at h
  have hD : sy_i1 bs (ev_pc cd ix) 173 = true → decode cc (ev_pc cd ix) = .ok (.lreturn, 1) := fun q => sy_d173 (sy_i1_r hb q)
  cases hC : sy_i1 bs (ev_pc cd ix) 173 with
  | false =>
    rw [hC] at h
    exact absurd h (by simp)
  | true =>
    have hd := hD hC
    unfold ev_k48
    rw [decide_eq_true hd]
theorem sy_l49 {kt : List FieldType} {sm0 : ev_Sm} {bs : List (List Nat)} {o : Nat} {nm : String} {cc : ByteArray} {nL : Nat} {ret : Option FieldType} {cd : ev_Cd} {ix : Nat} {i : ev_I} (hb : sy_By cc bs) (h : sy_k49 kt sy_pg bs o nm cc nL ret cd ix i = true) : ev_k49 sy_gc ct_all kt sy_pg sm0 (sy_nm o) nm cc nL ret cd ix i = true := by
  unfold sy_k49 at h
  have hD : sy_i1 bs (ev_pc cd ix) 177 = true → decode cc (ev_pc cd ix) = .ok (.return_, 1) := fun q => sy_d177 (sy_i1_r hb q)
  cases hC : sy_i1 bs (ev_pc cd ix) 177 with
  | false =>
    rw [hC] at h
    exact absurd h (by simp)
  | true =>
    have hd := hD hC
    unfold ev_k49
    rw [decide_eq_true hd]
    rw [hC] at h
    exact h
theorem sy_l50 {kt : List FieldType} {sm0 : ev_Sm} {bs : List (List Nat)} {o : Nat} {nm : String} {cc : ByteArray} {nL : Nat} {ret : Option FieldType} {cd : ev_Cd} {ix : Nat} {i : ev_I} (hb : sy_By cc bs) (h : sy_k50 kt sy_pg bs o nm cc nL ret cd ix i = true) : ev_k50 sy_gc ct_all kt sy_pg sm0 (sy_nm o) nm cc nL ret cd ix i = true := by
  unfold sy_k50 at h
  have hD : sy_i1 bs (ev_pc cd ix) 172 = true → decode cc (ev_pc cd ix) = .ok (.ireturn, 1) := fun q => sy_d172 (sy_i1_r hb q)
  cases hC : sy_i1 bs (ev_pc cd ix) 172 with
  | false =>
    rw [hC] at h
    exact absurd h (by simp)
  | true =>
    have hd := hD hC
    unfold ev_k50
    rw [decide_eq_true hd]
theorem sy_l51 {kt : List FieldType} {sm0 : ev_Sm} {bs : List (List Nat)} {o : Nat} {nm : String} {cc : ByteArray} {nL : Nat} {ret : Option FieldType} {cd : ev_Cd} {ix : Nat} {i : ev_I} (hb : sy_By cc bs) (h : sy_k51 kt sy_pg bs o nm cc nL ret cd ix i = true) : ev_k51 sy_gc ct_all kt sy_pg sm0 (sy_nm o) nm cc nL ret cd ix i = true := by
  unfold sy_k51 at h
  have hD : sy_i1 bs (ev_pc cd ix) 46 = true → decode cc (ev_pc cd ix) = .ok (.iaload, 1) := fun q => sy_d46 (sy_i1_r hb q)
  cases hC : sy_i1 bs (ev_pc cd ix) 46 with
  | false =>
    rw [hC] at h
    exact absurd h (by simp)
  | true =>
    have hd := hD hC
    unfold ev_k51
    rw [decide_eq_true hd]
    rw [hC] at h
    exact h
theorem sy_l52 {kt : List FieldType} {sm0 : ev_Sm} {bs : List (List Nat)} {o : Nat} {nm : String} {cc : ByteArray} {nL : Nat} {ret : Option FieldType} {cd : ev_Cd} {ix : Nat} {i : ev_I} (hb : sy_By cc bs) (h : sy_k52 kt sy_pg bs o nm cc nL ret cd ix i = true) : ev_k52 sy_gc ct_all kt sy_pg sm0 (sy_nm o) nm cc nL ret cd ix i = true := by
  unfold sy_k52 at h
  have hD : sy_i1 bs (ev_pc cd ix) 51 = true → decode cc (ev_pc cd ix) = .ok (.baload, 1) := fun q => sy_d51 (sy_i1_r hb q)
  cases hC : sy_i1 bs (ev_pc cd ix) 51 with
  | false =>
    rw [hC] at h
    exact absurd h (by simp)
  | true =>
    have hd := hD hC
    unfold ev_k52
    rw [decide_eq_true hd]
    rw [hC] at h
    exact h
theorem sy_l53 {kt : List FieldType} {sm0 : ev_Sm} {bs : List (List Nat)} {o : Nat} {nm : String} {cc : ByteArray} {nL : Nat} {ret : Option FieldType} {cd : ev_Cd} {ix : Nat} {i : ev_I} (hb : sy_By cc bs) (h : sy_k53 kt sy_pg bs o nm cc nL ret cd ix i = true) : ev_k53 sy_gc ct_all kt sy_pg sm0 (sy_nm o) nm cc nL ret cd ix i = true := by
  unfold sy_k53 at h
  have hD : sy_i1 bs (ev_pc cd ix) 51 = true → decode cc (ev_pc cd ix) = .ok (.baload, 1) := fun q => sy_d51 (sy_i1_r hb q)
  cases hC : sy_i1 bs (ev_pc cd ix) 51 with
  | false =>
    rw [hC] at h
    exact absurd h (by simp)
  | true =>
    have hd := hD hC
    unfold ev_k53
    rw [decide_eq_true hd]
    rw [hC] at h
    exact h
theorem sy_l54 {kt : List FieldType} {sm0 : ev_Sm} {bs : List (List Nat)} {o : Nat} {nm : String} {cc : ByteArray} {nL : Nat} {ret : Option FieldType} {cd : ev_Cd} {ix : Nat} {i : ev_I} (hb : sy_By cc bs) (h : sy_k54 kt sy_pg bs o nm cc nL ret cd ix i = true) : ev_k54 sy_gc ct_all kt sy_pg sm0 (sy_nm o) nm cc nL ret cd ix i = true := by
  unfold sy_k54 at h
  have hD : sy_i1 bs (ev_pc cd ix) 47 = true → decode cc (ev_pc cd ix) = .ok (.laload, 1) := fun q => sy_d47 (sy_i1_r hb q)
  cases hC : sy_i1 bs (ev_pc cd ix) 47 with
  | false =>
    rw [hC] at h
    exact absurd h (by simp)
  | true =>
    have hd := hD hC
    unfold ev_k54
    rw [decide_eq_true hd]
    rw [hC] at h
    exact h
theorem sy_l59 {kt : List FieldType} {sm0 : ev_Sm} {bs : List (List Nat)} {o : Nat} {nm : String} {cc : ByteArray} {nL : Nat} {ret : Option FieldType} {cd : ev_Cd} {ix : Nat} {i : ev_I} (hb : sy_By cc bs) (h : sy_k59 kt sy_pg bs o nm cc nL ret cd ix i = true) : ev_k59 sy_gc ct_all kt sy_pg sm0 (sy_nm o) nm cc nL ret cd ix i = true := by
  unfold sy_k59 at h
  have hD : sy_i1 bs (ev_pc cd ix) 79 = true → decode cc (ev_pc cd ix) = .ok (.iastore, 1) := fun q => sy_d79 (sy_i1_r hb q)
  cases hC : sy_i1 bs (ev_pc cd ix) 79 with
  | false =>
    rw [hC] at h
    exact absurd h (by simp)
  | true =>
    have hd := hD hC
    unfold ev_k59
    rw [decide_eq_true hd]
    rw [hC] at h
    exact h
theorem sy_l60 {kt : List FieldType} {sm0 : ev_Sm} {bs : List (List Nat)} {o : Nat} {nm : String} {cc : ByteArray} {nL : Nat} {ret : Option FieldType} {cd : ev_Cd} {ix : Nat} {i : ev_I} (hb : sy_By cc bs) (h : sy_k60 kt sy_pg bs o nm cc nL ret cd ix i = true) : ev_k60 sy_gc ct_all kt sy_pg sm0 (sy_nm o) nm cc nL ret cd ix i = true := by
  unfold sy_k60 at h
  have hD : sy_i1 bs (ev_pc cd ix) 84 = true → decode cc (ev_pc cd ix) = .ok (.bastore, 1) := fun q => sy_d84 (sy_i1_r hb q)
  cases hC : sy_i1 bs (ev_pc cd ix) 84 with
  | false =>
    rw [hC] at h
    exact absurd h (by simp)
  | true =>
    have hd := hD hC
    unfold ev_k60
    rw [decide_eq_true hd]
    rw [hC] at h
    exact h
theorem sy_l61 {kt : List FieldType} {sm0 : ev_Sm} {bs : List (List Nat)} {o : Nat} {nm : String} {cc : ByteArray} {nL : Nat} {ret : Option FieldType} {cd : ev_Cd} {ix : Nat} {i : ev_I} (hb : sy_By cc bs) (h : sy_k61 kt sy_pg bs o nm cc nL ret cd ix i = true) : ev_k61 sy_gc ct_all kt sy_pg sm0 (sy_nm o) nm cc nL ret cd ix i = true := by
  unfold sy_k61 at h
  have hD : sy_i1 bs (ev_pc cd ix) 84 = true → decode cc (ev_pc cd ix) = .ok (.bastore, 1) := fun q => sy_d84 (sy_i1_r hb q)
  cases hC : sy_i1 bs (ev_pc cd ix) 84 with
  | false =>
    rw [hC] at h
    exact absurd h (by simp)
  | true =>
    have hd := hD hC
    unfold ev_k61
    rw [decide_eq_true hd]
    rw [hC] at h
    exact h
theorem sy_l62 {kt : List FieldType} {sm0 : ev_Sm} {bs : List (List Nat)} {o : Nat} {nm : String} {cc : ByteArray} {nL : Nat} {ret : Option FieldType} {cd : ev_Cd} {ix : Nat} {i : ev_I} (hb : sy_By cc bs) (h : sy_k62 kt sy_pg bs o nm cc nL ret cd ix i = true) : ev_k62 sy_gc ct_all kt sy_pg sm0 (sy_nm o) nm cc nL ret cd ix i = true := by
  unfold sy_k62 at h
  have hD : sy_i1 bs (ev_pc cd ix) 80 = true → decode cc (ev_pc cd ix) = .ok (.lastore, 1) := fun q => sy_d80 (sy_i1_r hb q)
  cases hC : sy_i1 bs (ev_pc cd ix) 80 with
  | false =>
    rw [hC] at h
    exact absurd h (by simp)
  | true =>
    have hd := hD hC
    unfold ev_k62
    rw [decide_eq_true hd]
    rw [hC] at h
    exact h
theorem sy_l66 {kt : List FieldType} {sm0 : ev_Sm} {bs : List (List Nat)} {o : Nat} {nm : String} {cc : ByteArray} {nL : Nat} {ret : Option FieldType} {cd : ev_Cd} {ix : Nat} {i : ev_I} (hb : sy_By cc bs) (h : sy_k66 kt sy_pg bs o nm cc nL ret cd ix i = true) : ev_k66 sy_gc ct_all kt sy_pg sm0 (sy_nm o) nm cc nL ret cd ix i = true := by
  unfold sy_k66 at h
  have hD : sy_i1 bs (ev_pc cd ix) 97 = true → decode cc (ev_pc cd ix) = .ok (.ladd, 1) := fun q => sy_d97 (sy_i1_r hb q)
  cases hC : sy_i1 bs (ev_pc cd ix) 97 with
  | false =>
    rw [hC] at h
    exact absurd h (by simp)
  | true =>
    have hd := hD hC
    unfold ev_k66
    rw [decide_eq_true hd]
    rw [hC] at h
    exact h
theorem sy_l67 {kt : List FieldType} {sm0 : ev_Sm} {bs : List (List Nat)} {o : Nat} {nm : String} {cc : ByteArray} {nL : Nat} {ret : Option FieldType} {cd : ev_Cd} {ix : Nat} {i : ev_I} (hb : sy_By cc bs) (h : sy_k67 kt sy_pg bs o nm cc nL ret cd ix i = true) : ev_k67 sy_gc ct_all kt sy_pg sm0 (sy_nm o) nm cc nL ret cd ix i = true := by
  unfold sy_k67 at h
  have hD : sy_i1 bs (ev_pc cd ix) 101 = true → decode cc (ev_pc cd ix) = .ok (.lsub, 1) := fun q => sy_d101 (sy_i1_r hb q)
  cases hC : sy_i1 bs (ev_pc cd ix) 101 with
  | false =>
    rw [hC] at h
    exact absurd h (by simp)
  | true =>
    have hd := hD hC
    unfold ev_k67
    rw [decide_eq_true hd]
    rw [hC] at h
    exact h
theorem sy_l68 {kt : List FieldType} {sm0 : ev_Sm} {bs : List (List Nat)} {o : Nat} {nm : String} {cc : ByteArray} {nL : Nat} {ret : Option FieldType} {cd : ev_Cd} {ix : Nat} {i : ev_I} (hb : sy_By cc bs) (h : sy_k68 kt sy_pg bs o nm cc nL ret cd ix i = true) : ev_k68 sy_gc ct_all kt sy_pg sm0 (sy_nm o) nm cc nL ret cd ix i = true := by
  unfold sy_k68 at h
  have hD : sy_i1 bs (ev_pc cd ix) 105 = true → decode cc (ev_pc cd ix) = .ok (.lmul, 1) := fun q => sy_d105 (sy_i1_r hb q)
  cases hC : sy_i1 bs (ev_pc cd ix) 105 with
  | false =>
    rw [hC] at h
    exact absurd h (by simp)
  | true =>
    have hd := hD hC
    unfold ev_k68
    rw [decide_eq_true hd]
    rw [hC] at h
    exact h
theorem sy_l69 {kt : List FieldType} {sm0 : ev_Sm} {bs : List (List Nat)} {o : Nat} {nm : String} {cc : ByteArray} {nL : Nat} {ret : Option FieldType} {cd : ev_Cd} {ix : Nat} {i : ev_I} (hb : sy_By cc bs) (h : sy_k69 kt sy_pg bs o nm cc nL ret cd ix i = true) : ev_k69 sy_gc ct_all kt sy_pg sm0 (sy_nm o) nm cc nL ret cd ix i = true := by
  unfold sy_k69 at h
  have hD : sy_i1 bs (ev_pc cd ix) 127 = true → decode cc (ev_pc cd ix) = .ok (.land, 1) := fun q => sy_d127 (sy_i1_r hb q)
  cases hC : sy_i1 bs (ev_pc cd ix) 127 with
  | false =>
    rw [hC] at h
    exact absurd h (by simp)
  | true =>
    have hd := hD hC
    unfold ev_k69
    rw [decide_eq_true hd]
    rw [hC] at h
    exact h
theorem sy_l70 {kt : List FieldType} {sm0 : ev_Sm} {bs : List (List Nat)} {o : Nat} {nm : String} {cc : ByteArray} {nL : Nat} {ret : Option FieldType} {cd : ev_Cd} {ix : Nat} {i : ev_I} (hb : sy_By cc bs) (h : sy_k70 kt sy_pg bs o nm cc nL ret cd ix i = true) : ev_k70 sy_gc ct_all kt sy_pg sm0 (sy_nm o) nm cc nL ret cd ix i = true := by
  unfold sy_k70 at h
  have hD : sy_i1 bs (ev_pc cd ix) 129 = true → decode cc (ev_pc cd ix) = .ok (.lor, 1) := fun q => sy_d129 (sy_i1_r hb q)
  cases hC : sy_i1 bs (ev_pc cd ix) 129 with
  | false =>
    rw [hC] at h
    exact absurd h (by simp)
  | true =>
    have hd := hD hC
    unfold ev_k70
    rw [decide_eq_true hd]
    rw [hC] at h
    exact h
theorem sy_l71 {kt : List FieldType} {sm0 : ev_Sm} {bs : List (List Nat)} {o : Nat} {nm : String} {cc : ByteArray} {nL : Nat} {ret : Option FieldType} {cd : ev_Cd} {ix : Nat} {i : ev_I} (hb : sy_By cc bs) (h : sy_k71 kt sy_pg bs o nm cc nL ret cd ix i = true) : ev_k71 sy_gc ct_all kt sy_pg sm0 (sy_nm o) nm cc nL ret cd ix i = true := by
  unfold sy_k71 at h
  have hD : sy_i1 bs (ev_pc cd ix) 131 = true → decode cc (ev_pc cd ix) = .ok (.lxor, 1) := fun q => sy_d131 (sy_i1_r hb q)
  cases hC : sy_i1 bs (ev_pc cd ix) 131 with
  | false =>
    rw [hC] at h
    exact absurd h (by simp)
  | true =>
    have hd := hD hC
    unfold ev_k71
    rw [decide_eq_true hd]
    rw [hC] at h
    exact h
theorem sy_l72 {kt : List FieldType} {sm0 : ev_Sm} {bs : List (List Nat)} {o : Nat} {nm : String} {cc : ByteArray} {nL : Nat} {ret : Option FieldType} {cd : ev_Cd} {ix : Nat} {i : ev_I} (hb : sy_By cc bs) (h : sy_k72 kt sy_pg bs o nm cc nL ret cd ix i = true) : ev_k72 sy_gc ct_all kt sy_pg sm0 (sy_nm o) nm cc nL ret cd ix i = true := by
  unfold sy_k72 at h
  have hD : sy_i1 bs (ev_pc cd ix) 121 = true → decode cc (ev_pc cd ix) = .ok (.lshl, 1) := fun q => sy_d121 (sy_i1_r hb q)
  cases hC : sy_i1 bs (ev_pc cd ix) 121 with
  | false =>
    rw [hC] at h
    exact absurd h (by simp)
  | true =>
    have hd := hD hC
    unfold ev_k72
    rw [decide_eq_true hd]
    rw [hC] at h
    exact h
theorem sy_l73 {kt : List FieldType} {sm0 : ev_Sm} {bs : List (List Nat)} {o : Nat} {nm : String} {cc : ByteArray} {nL : Nat} {ret : Option FieldType} {cd : ev_Cd} {ix : Nat} {i : ev_I} (hb : sy_By cc bs) (h : sy_k73 kt sy_pg bs o nm cc nL ret cd ix i = true) : ev_k73 sy_gc ct_all kt sy_pg sm0 (sy_nm o) nm cc nL ret cd ix i = true := by
  unfold sy_k73 at h
  have hD : sy_i1 bs (ev_pc cd ix) 123 = true → decode cc (ev_pc cd ix) = .ok (.lshr, 1) := fun q => sy_d123 (sy_i1_r hb q)
  cases hC : sy_i1 bs (ev_pc cd ix) 123 with
  | false =>
    rw [hC] at h
    exact absurd h (by simp)
  | true =>
    have hd := hD hC
    unfold ev_k73
    rw [decide_eq_true hd]
    rw [hC] at h
    exact h
theorem sy_l74 {kt : List FieldType} {sm0 : ev_Sm} {bs : List (List Nat)} {o : Nat} {nm : String} {cc : ByteArray} {nL : Nat} {ret : Option FieldType} {cd : ev_Cd} {ix : Nat} {i : ev_I} (hb : sy_By cc bs) (h : sy_k74 kt sy_pg bs o nm cc nL ret cd ix i = true) : ev_k74 sy_gc ct_all kt sy_pg sm0 (sy_nm o) nm cc nL ret cd ix i = true := by
  unfold sy_k74 at h
  have hD : sy_i1 bs (ev_pc cd ix) 125 = true → decode cc (ev_pc cd ix) = .ok (.lushr, 1) := fun q => sy_d125 (sy_i1_r hb q)
  cases hC : sy_i1 bs (ev_pc cd ix) 125 with
  | false =>
    rw [hC] at h
    exact absurd h (by simp)
  | true =>
    have hd := hD hC
    unfold ev_k74
    rw [decide_eq_true hd]
    rw [hC] at h
    exact h
theorem sy_l75 {kt : List FieldType} {sm0 : ev_Sm} {bs : List (List Nat)} {o : Nat} {nm : String} {cc : ByteArray} {nL : Nat} {ret : Option FieldType} {cd : ev_Cd} {ix : Nat} {i : ev_I} (hb : sy_By cc bs) (h : sy_k75 kt sy_pg bs o nm cc nL ret cd ix i = true) : ev_k75 sy_gc ct_all kt sy_pg sm0 (sy_nm o) nm cc nL ret cd ix i = true := by
  unfold sy_k75 at h
  have hD : sy_i1 bs (ev_pc cd ix) 148 = true → decode cc (ev_pc cd ix) = .ok (.lcmp, 1) := fun q => sy_d148 (sy_i1_r hb q)
  cases hC : sy_i1 bs (ev_pc cd ix) 148 with
  | false =>
    rw [hC] at h
    exact absurd h (by simp)
  | true =>
    have hd := hD hC
    unfold ev_k75
    rw [decide_eq_true hd]
    rw [hC] at h
    exact h
theorem sy_l76 {kt : List FieldType} {sm0 : ev_Sm} {bs : List (List Nat)} {o : Nat} {nm : String} {cc : ByteArray} {nL : Nat} {ret : Option FieldType} {cd : ev_Cd} {ix : Nat} {i : ev_I} (hb : sy_By cc bs) (h : sy_k76 kt sy_pg bs o nm cc nL ret cd ix i = true) : ev_k76 sy_gc ct_all kt sy_pg sm0 (sy_nm o) nm cc nL ret cd ix i = true := by
  unfold sy_k76 at h
  have hD : sy_i1 bs (ev_pc cd ix) 133 = true → decode cc (ev_pc cd ix) = .ok (.i2l, 1) := fun q => sy_d133 (sy_i1_r hb q)
  cases hC : sy_i1 bs (ev_pc cd ix) 133 with
  | false =>
    rw [hC] at h
    exact absurd h (by simp)
  | true =>
    have hd := hD hC
    unfold ev_k76
    rw [decide_eq_true hd]
    rw [hC] at h
    exact h
theorem sy_l77 {kt : List FieldType} {sm0 : ev_Sm} {bs : List (List Nat)} {o : Nat} {nm : String} {cc : ByteArray} {nL : Nat} {ret : Option FieldType} {cd : ev_Cd} {ix : Nat} {i : ev_I} (hb : sy_By cc bs) (h : sy_k77 kt sy_pg bs o nm cc nL ret cd ix i = true) : ev_k77 sy_gc ct_all kt sy_pg sm0 (sy_nm o) nm cc nL ret cd ix i = true := by
  unfold sy_k77 at h
  have hD : sy_i1 bs (ev_pc cd ix) 136 = true → decode cc (ev_pc cd ix) = .ok (.l2i, 1) := fun q => sy_d136 (sy_i1_r hb q)
  cases hC : sy_i1 bs (ev_pc cd ix) 136 with
  | false =>
    rw [hC] at h
    exact absurd h (by simp)
  | true =>
    have hd := hD hC
    unfold ev_k77
    rw [decide_eq_true hd]
    rw [hC] at h
    exact h
theorem sy_l78 {kt : List FieldType} {sm0 : ev_Sm} {bs : List (List Nat)} {o : Nat} {nm : String} {cc : ByteArray} {nL : Nat} {ret : Option FieldType} {cd : ev_Cd} {ix : Nat} {i : ev_I} (hb : sy_By cc bs) (h : sy_k78 kt sy_pg bs o nm cc nL ret cd ix i = true) : ev_k78 sy_gc ct_all kt sy_pg sm0 (sy_nm o) nm cc nL ret cd ix i = true := by
  unfold sy_k78 at h
  have hD : sy_i1 bs (ev_pc cd ix) 145 = true → decode cc (ev_pc cd ix) = .ok (.i2b, 1) := fun q => sy_d145 (sy_i1_r hb q)
  cases hC : sy_i1 bs (ev_pc cd ix) 145 with
  | false =>
    rw [hC] at h
    exact absurd h (by simp)
  | true =>
    have hd := hD hC
    unfold ev_k78
    rw [decide_eq_true hd]
    rw [hC] at h
    exact h
theorem sy_l79 {kt : List FieldType} {sm0 : ev_Sm} {bs : List (List Nat)} {o : Nat} {nm : String} {cc : ByteArray} {nL : Nat} {ret : Option FieldType} {cd : ev_Cd} {ix : Nat} {i : ev_I} (hb : sy_By cc bs) (h : sy_k79 kt sy_pg bs o nm cc nL ret cd ix i = true) : ev_k79 sy_gc ct_all kt sy_pg sm0 (sy_nm o) nm cc nL ret cd ix i = true := by
  unfold sy_k79 at h
  have hD : sy_i1 bs (ev_pc cd ix) 108 = true → decode cc (ev_pc cd ix) = .ok (.idiv, 1) := fun q => sy_d108 (sy_i1_r hb q)
  cases hC : sy_i1 bs (ev_pc cd ix) 108 with
  | false =>
    rw [hC] at h
    exact absurd h (by simp)
  | true =>
    have hd := hD hC
    unfold ev_k79
    rw [decide_eq_true hd]
    rw [hC] at h
    exact h
theorem sy_l80 {kt : List FieldType} {sm0 : ev_Sm} {bs : List (List Nat)} {o : Nat} {nm : String} {cc : ByteArray} {nL : Nat} {ret : Option FieldType} {cd : ev_Cd} {ix : Nat} {i : ev_I} (hb : sy_By cc bs) (h : sy_k80 kt sy_pg bs o nm cc nL ret cd ix i = true) : ev_k80 sy_gc ct_all kt sy_pg sm0 (sy_nm o) nm cc nL ret cd ix i = true := by
  unfold sy_k80 at h
  have hD : sy_i1 bs (ev_pc cd ix) 112 = true → decode cc (ev_pc cd ix) = .ok (.irem, 1) := fun q => sy_d112 (sy_i1_r hb q)
  cases hC : sy_i1 bs (ev_pc cd ix) 112 with
  | false =>
    rw [hC] at h
    exact absurd h (by simp)
  | true =>
    have hd := hD hC
    unfold ev_k80
    rw [decide_eq_true hd]
    rw [hC] at h
    exact h
theorem sy_l81 {kt : List FieldType} {sm0 : ev_Sm} {bs : List (List Nat)} {o : Nat} {nm : String} {cc : ByteArray} {nL : Nat} {ret : Option FieldType} {cd : ev_Cd} {ix : Nat} {i : ev_I} (hb : sy_By cc bs) (h : sy_k81 kt sy_pg bs o nm cc nL ret cd ix i = true) : ev_k81 sy_gc ct_all kt sy_pg sm0 (sy_nm o) nm cc nL ret cd ix i = true := by
  unfold sy_k81 at h
  have hD : sy_i1 bs (ev_pc cd ix) 122 = true → decode cc (ev_pc cd ix) = .ok (.ishr, 1) := fun q => sy_d122 (sy_i1_r hb q)
  cases hC : sy_i1 bs (ev_pc cd ix) 122 with
  | false =>
    rw [hC] at h
    exact absurd h (by simp)
  | true =>
    have hd := hD hC
    unfold ev_k81
    rw [decide_eq_true hd]
    rw [hC] at h
    exact h
theorem sy_l82 {kt : List FieldType} {sm0 : ev_Sm} {bs : List (List Nat)} {o : Nat} {nm : String} {cc : ByteArray} {nL : Nat} {ret : Option FieldType} {cd : ev_Cd} {ix : Nat} {i : ev_I} (hb : sy_By cc bs) (h : sy_k82 kt sy_pg bs o nm cc nL ret cd ix i = true) : ev_k82 sy_gc ct_all kt sy_pg sm0 (sy_nm o) nm cc nL ret cd ix i = true := by
  unfold sy_k82 at h
  have hD : sy_i1 bs (ev_pc cd ix) 124 = true → decode cc (ev_pc cd ix) = .ok (.iushr, 1) := fun q => sy_d124 (sy_i1_r hb q)
  cases hC : sy_i1 bs (ev_pc cd ix) 124 with
  | false =>
    rw [hC] at h
    exact absurd h (by simp)
  | true =>
    have hd := hD hC
    unfold ev_k82
    rw [decide_eq_true hd]
    rw [hC] at h
    exact h
theorem sy_l87 {kt : List FieldType} {sm0 : ev_Sm} {bs : List (List Nat)} {o : Nat} {nm : String} {cc : ByteArray} {nL : Nat} {ret : Option FieldType} {cd : ev_Cd} {ix : Nat} {i : ev_I} (hb : sy_By cc bs) (h : sy_k87 kt sy_pg bs o nm cc nL ret cd ix i = true) : sx_k87 cc cd ix = true := by
  unfold sy_k87 at h
  have hD : sy_i1 bs (ev_pc cd ix) 147 = true → decode cc (ev_pc cd ix) = .ok (.i2s, 1) := fun q => sy_d147 (sy_i1_r hb q)
  cases hC : sy_i1 bs (ev_pc cd ix) 147 with
  | false =>
    rw [hC] at h
    exact absurd h (by simp)
  | true =>
    have hd := hD hC
    unfold sx_k87
    rw [decide_eq_true hd]
    rw [hC] at h
    exact h
theorem sy_l88 {kt : List FieldType} {sm0 : ev_Sm} {bs : List (List Nat)} {o : Nat} {nm : String} {cc : ByteArray} {nL : Nat} {ret : Option FieldType} {cd : ev_Cd} {ix : Nat} {i : ev_I} (hb : sy_By cc bs) (h : sy_k88 kt sy_pg bs o nm cc nL ret cd ix i = true) : sx_k88 cc cd ix = true := by
  unfold sy_k88 at h
  have hD : sy_i1 bs (ev_pc cd ix) 109 = true → decode cc (ev_pc cd ix) = .ok (.ldiv, 1) := fun q => sy_d109 (sy_i1_r hb q)
  cases hC : sy_i1 bs (ev_pc cd ix) 109 with
  | false =>
    rw [hC] at h
    exact absurd h (by simp)
  | true =>
    have hd := hD hC
    unfold sx_k88
    rw [decide_eq_true hd]
    rw [hC] at h
    exact h
theorem sy_l89 {kt : List FieldType} {sm0 : ev_Sm} {bs : List (List Nat)} {o : Nat} {nm : String} {cc : ByteArray} {nL : Nat} {ret : Option FieldType} {cd : ev_Cd} {ix : Nat} {i : ev_I} (hb : sy_By cc bs) (h : sy_k89 kt sy_pg bs o nm cc nL ret cd ix i = true) : sx_k89 cc cd ix = true := by
  unfold sy_k89 at h
  have hD : sy_i1 bs (ev_pc cd ix) 117 = true → decode cc (ev_pc cd ix) = .ok (.lneg, 1) := fun q => sy_d117 (sy_i1_r hb q)
  cases hC : sy_i1 bs (ev_pc cd ix) 117 with
  | false =>
    rw [hC] at h
    exact absurd h (by simp)
  | true =>
    have hd := hD hC
    unfold sx_k89
    rw [decide_eq_true hd]
    rw [hC] at h
    exact h
theorem sy_l6 {kt : List FieldType} {sm0 : ev_Sm} {bs : List (List Nat)} {o : Nat} {nm : String} {cc : ByteArray} {nL : Nat} {ret : Option FieldType} {cd : ev_Cd} {ix : Nat} {i : ev_I} (hb : sy_By cc bs) (h : sy_k6 kt sy_pg bs o nm cc nL ret cd ix i = true) : ev_k6 sy_gc ct_all kt sy_pg sm0 (sy_nm o) nm cc nL ret cd ix i = true := by
  unfold sy_k6 at h
  have hD : (sy_i1 bs (ev_pc cd ix) (26 + i.2.2.1) && Nat.ble i.2.2.1 3) = true → decode cc (ev_pc cd ix) = .ok (.iload_n (Fin.ofNat 4 i.2.2.1), 1) := fun q => by
    rw [Bool.and_eq_true] at q
    have q2 : i.2.2.1 ≤ 3 := Nat.le_of_ble_eq_true q.2
    have q1 := sy_i1_r hb q.1
    have h6 : i.2.2.1 = 0 ∨ i.2.2.1 = 1 ∨ i.2.2.1 = 2 ∨ i.2.2.1 = 3 := by omega
    rcases h6 with h6 | h6 | h6 | h6 <;> rw [h6] at q1 ⊢
    · exact sy_d26 q1
    · exact sy_d27 q1
    · exact sy_d28 q1
    · exact sy_d29 q1
  cases hC : (sy_i1 bs (ev_pc cd ix) (26 + i.2.2.1) && Nat.ble i.2.2.1 3) with
  | false =>
    rw [hC] at h
    exact absurd h (by simp)
  | true =>
    have hd := hD hC
    unfold ev_k6
    rw [decide_eq_true hd]
    rw [hC] at h
    exact h
theorem sy_l8 {kt : List FieldType} {sm0 : ev_Sm} {bs : List (List Nat)} {o : Nat} {nm : String} {cc : ByteArray} {nL : Nat} {ret : Option FieldType} {cd : ev_Cd} {ix : Nat} {i : ev_I} (hb : sy_By cc bs) (h : sy_k8 kt sy_pg bs o nm cc nL ret cd ix i = true) : ev_k8 sy_gc ct_all kt sy_pg sm0 (sy_nm o) nm cc nL ret cd ix i = true := by
  unfold sy_k8 at h
  have hD : (sy_i1 bs (ev_pc cd ix) (42 + i.2.2.1) && Nat.ble i.2.2.1 3) = true → decode cc (ev_pc cd ix) = .ok (.aload_n (Fin.ofNat 4 i.2.2.1), 1) := fun q => by
    rw [Bool.and_eq_true] at q
    have q2 : i.2.2.1 ≤ 3 := Nat.le_of_ble_eq_true q.2
    have q1 := sy_i1_r hb q.1
    have h6 : i.2.2.1 = 0 ∨ i.2.2.1 = 1 ∨ i.2.2.1 = 2 ∨ i.2.2.1 = 3 := by omega
    rcases h6 with h6 | h6 | h6 | h6 <;> rw [h6] at q1 ⊢
    · exact sy_d42 q1
    · exact sy_d43 q1
    · exact sy_d44 q1
    · exact sy_d45 q1
  cases hC : (sy_i1 bs (ev_pc cd ix) (42 + i.2.2.1) && Nat.ble i.2.2.1 3) with
  | false =>
    rw [hC] at h
    exact absurd h (by simp)
  | true =>
    have hd := hD hC
    unfold ev_k8
    rw [decide_eq_true hd]
    rw [hC] at h
    exact h
theorem sy_l10 {kt : List FieldType} {sm0 : ev_Sm} {bs : List (List Nat)} {o : Nat} {nm : String} {cc : ByteArray} {nL : Nat} {ret : Option FieldType} {cd : ev_Cd} {ix : Nat} {i : ev_I} (hb : sy_By cc bs) (h : sy_k10 kt sy_pg bs o nm cc nL ret cd ix i = true) : ev_k10 sy_gc ct_all kt sy_pg sm0 (sy_nm o) nm cc nL ret cd ix i = true := by
  unfold sy_k10 at h
  have hD : (sy_i1 bs (ev_pc cd ix) (59 + i.2.2.1) && Nat.ble i.2.2.1 3) = true → decode cc (ev_pc cd ix) = .ok (.istore_n (Fin.ofNat 4 i.2.2.1), 1) := fun q => by
    rw [Bool.and_eq_true] at q
    have q2 : i.2.2.1 ≤ 3 := Nat.le_of_ble_eq_true q.2
    have q1 := sy_i1_r hb q.1
    have h6 : i.2.2.1 = 0 ∨ i.2.2.1 = 1 ∨ i.2.2.1 = 2 ∨ i.2.2.1 = 3 := by omega
    rcases h6 with h6 | h6 | h6 | h6 <;> rw [h6] at q1 ⊢
    · exact sy_d59 q1
    · exact sy_d60 q1
    · exact sy_d61 q1
    · exact sy_d62 q1
  cases hC : (sy_i1 bs (ev_pc cd ix) (59 + i.2.2.1) && Nat.ble i.2.2.1 3) with
  | false =>
    rw [hC] at h
    exact absurd h (by simp)
  | true =>
    have hd := hD hC
    unfold ev_k10
    rw [decide_eq_true hd]
    rw [hC] at h
    exact h
theorem sy_l12 {kt : List FieldType} {sm0 : ev_Sm} {bs : List (List Nat)} {o : Nat} {nm : String} {cc : ByteArray} {nL : Nat} {ret : Option FieldType} {cd : ev_Cd} {ix : Nat} {i : ev_I} (hb : sy_By cc bs) (h : sy_k12 kt sy_pg bs o nm cc nL ret cd ix i = true) : ev_k12 sy_gc ct_all kt sy_pg sm0 (sy_nm o) nm cc nL ret cd ix i = true := by
  unfold sy_k12 at h
  have hD : (sy_i1 bs (ev_pc cd ix) (75 + i.2.2.1) && Nat.ble i.2.2.1 3) = true → decode cc (ev_pc cd ix) = .ok (.astore_n (Fin.ofNat 4 i.2.2.1), 1) := fun q => by
    rw [Bool.and_eq_true] at q
    have q2 : i.2.2.1 ≤ 3 := Nat.le_of_ble_eq_true q.2
    have q1 := sy_i1_r hb q.1
    have h6 : i.2.2.1 = 0 ∨ i.2.2.1 = 1 ∨ i.2.2.1 = 2 ∨ i.2.2.1 = 3 := by omega
    rcases h6 with h6 | h6 | h6 | h6 <;> rw [h6] at q1 ⊢
    · exact sy_d75 q1
    · exact sy_d76 q1
    · exact sy_d77 q1
    · exact sy_d78 q1
  cases hC : (sy_i1 bs (ev_pc cd ix) (75 + i.2.2.1) && Nat.ble i.2.2.1 3) with
  | false =>
    rw [hC] at h
    exact absurd h (by simp)
  | true =>
    have hd := hD hC
    unfold ev_k12
    rw [decide_eq_true hd]
    rw [hC] at h
    exact h
theorem sy_l36 {kt : List FieldType} {sm0 : ev_Sm} {bs : List (List Nat)} {o : Nat} {nm : String} {cc : ByteArray} {nL : Nat} {ret : Option FieldType} {cd : ev_Cd} {ix : Nat} {i : ev_I} (hb : sy_By cc bs) (h : sy_k36 kt sy_pg bs o nm cc nL ret cd ix i = true) : ev_k36 sy_gc ct_all kt sy_pg sm0 (sy_nm o) nm cc nL ret cd ix i = true := by
  unfold sy_k36 at h
  have hD : (sy_i1 bs (ev_pc cd ix) (30 + i.2.2.1) && Nat.ble i.2.2.1 3) = true → decode cc (ev_pc cd ix) = .ok (.lload_n (Fin.ofNat 4 i.2.2.1), 1) := fun q => by
    rw [Bool.and_eq_true] at q
    have q2 : i.2.2.1 ≤ 3 := Nat.le_of_ble_eq_true q.2
    have q1 := sy_i1_r hb q.1
    have h6 : i.2.2.1 = 0 ∨ i.2.2.1 = 1 ∨ i.2.2.1 = 2 ∨ i.2.2.1 = 3 := by omega
    rcases h6 with h6 | h6 | h6 | h6 <;> rw [h6] at q1 ⊢
    · exact sy_d30 q1
    · exact sy_d31 q1
    · exact sy_d32 q1
    · exact sy_d33 q1
  cases hC : (sy_i1 bs (ev_pc cd ix) (30 + i.2.2.1) && Nat.ble i.2.2.1 3) with
  | false =>
    rw [hC] at h
    exact absurd h (by simp)
  | true =>
    have hd := hD hC
    unfold ev_k36
    rw [decide_eq_true hd]
    rw [hC] at h
    exact h
theorem sy_l38 {kt : List FieldType} {sm0 : ev_Sm} {bs : List (List Nat)} {o : Nat} {nm : String} {cc : ByteArray} {nL : Nat} {ret : Option FieldType} {cd : ev_Cd} {ix : Nat} {i : ev_I} (hb : sy_By cc bs) (h : sy_k38 kt sy_pg bs o nm cc nL ret cd ix i = true) : ev_k38 sy_gc ct_all kt sy_pg sm0 (sy_nm o) nm cc nL ret cd ix i = true := by
  unfold sy_k38 at h
  have hD : (sy_i1 bs (ev_pc cd ix) (63 + i.2.2.1) && Nat.ble i.2.2.1 3) = true → decode cc (ev_pc cd ix) = .ok (.lstore_n (Fin.ofNat 4 i.2.2.1), 1) := fun q => by
    rw [Bool.and_eq_true] at q
    have q2 : i.2.2.1 ≤ 3 := Nat.le_of_ble_eq_true q.2
    have q1 := sy_i1_r hb q.1
    have h6 : i.2.2.1 = 0 ∨ i.2.2.1 = 1 ∨ i.2.2.1 = 2 ∨ i.2.2.1 = 3 := by omega
    rcases h6 with h6 | h6 | h6 | h6 <;> rw [h6] at q1 ⊢
    · exact sy_d63 q1
    · exact sy_d64 q1
    · exact sy_d65 q1
    · exact sy_d66 q1
  cases hC : (sy_i1 bs (ev_pc cd ix) (63 + i.2.2.1) && Nat.ble i.2.2.1 3) with
  | false =>
    rw [hC] at h
    exact absurd h (by simp)
  | true =>
    have hd := hD hC
    unfold ev_k38
    rw [decide_eq_true hd]
    rw [hC] at h
    exact h
theorem sy_l44 {kt : List FieldType} {sm0 : ev_Sm} {bs : List (List Nat)} {o : Nat} {nm : String} {cc : ByteArray} {nL : Nat} {ret : Option FieldType} {cd : ev_Cd} {ix : Nat} {i : ev_I} (hb : sy_By cc bs) (h : sy_k44 kt sy_pg bs o nm cc nL ret cd ix i = true) : ev_k44 sy_gc ct_all kt sy_pg sm0 (sy_nm o) nm cc nL ret cd ix i = true := by
  unfold sy_k44 at h
  have hD : (sy_i1 bs (ev_pc cd ix) (9 + i.2.2.1) && Nat.ble i.2.2.1 1) = true → decode cc (ev_pc cd ix) = .ok (.lconst (Fin.ofNat 2 i.2.2.1), 1) := fun q => by
    rw [Bool.and_eq_true] at q
    have q2 : i.2.2.1 ≤ 1 := Nat.le_of_ble_eq_true q.2
    have q1 := sy_i1_r hb q.1
    have h6 : i.2.2.1 = 0 ∨ i.2.2.1 = 1 := by omega
    rcases h6 with h6 | h6 <;> rw [h6] at q1 ⊢
    · exact sy_d9 q1
    · exact sy_d10 q1
  cases hC : (sy_i1 bs (ev_pc cd ix) (9 + i.2.2.1) && Nat.ble i.2.2.1 1) with
  | false =>
    rw [hC] at h
    exact absurd h (by simp)
  | true =>
    have hd := hD hC
    unfold ev_k44
    rw [decide_eq_true hd]
    rw [hC] at h
    exact h
theorem sy_l7 {kt : List FieldType} {sm0 : ev_Sm} {bs : List (List Nat)} {o : Nat} {nm : String} {cc : ByteArray} {nL : Nat} {ret : Option FieldType} {cd : ev_Cd} {ix : Nat} {i : ev_I} (hb : sy_By cc bs) (h : sy_k7 kt sy_pg bs o nm cc nL ret cd ix i = true) : ev_k7 sy_gc ct_all kt sy_pg sm0 (sy_nm o) nm cc nL ret cd ix i = true := by
  unfold sy_k7 at h
  have hD : (sy_i1 bs (ev_pc cd ix) 21 && sy_i1 bs ((ev_pc cd ix) + 1) i.2.2.1) = true → decode cc (ev_pc cd ix) = .ok (.iload i.2.2.1, 2) := fun q => sy_d21 (sy_i1_r hb ((Bool.and_eq_true _ _).mp q).1) (sy_i1_r hb ((Bool.and_eq_true _ _).mp q).2)
  cases hC : (sy_i1 bs (ev_pc cd ix) 21 && sy_i1 bs ((ev_pc cd ix) + 1) i.2.2.1) with
  | false =>
    rw [hC] at h
    exact absurd h (by simp)
  | true =>
    have hd := hD hC
    unfold ev_k7
    rw [decide_eq_true hd]
    rw [hC] at h
    exact h
theorem sy_l9 {kt : List FieldType} {sm0 : ev_Sm} {bs : List (List Nat)} {o : Nat} {nm : String} {cc : ByteArray} {nL : Nat} {ret : Option FieldType} {cd : ev_Cd} {ix : Nat} {i : ev_I} (hb : sy_By cc bs) (h : sy_k9 kt sy_pg bs o nm cc nL ret cd ix i = true) : ev_k9 sy_gc ct_all kt sy_pg sm0 (sy_nm o) nm cc nL ret cd ix i = true := by
  unfold sy_k9 at h
  have hD : (sy_i1 bs (ev_pc cd ix) 25 && sy_i1 bs ((ev_pc cd ix) + 1) i.2.2.1) = true → decode cc (ev_pc cd ix) = .ok (.aload i.2.2.1, 2) := fun q => sy_d25 (sy_i1_r hb ((Bool.and_eq_true _ _).mp q).1) (sy_i1_r hb ((Bool.and_eq_true _ _).mp q).2)
  cases hC : (sy_i1 bs (ev_pc cd ix) 25 && sy_i1 bs ((ev_pc cd ix) + 1) i.2.2.1) with
  | false =>
    rw [hC] at h
    exact absurd h (by simp)
  | true =>
    have hd := hD hC
    unfold ev_k9
    rw [decide_eq_true hd]
    rw [hC] at h
    exact h
theorem sy_l11 {kt : List FieldType} {sm0 : ev_Sm} {bs : List (List Nat)} {o : Nat} {nm : String} {cc : ByteArray} {nL : Nat} {ret : Option FieldType} {cd : ev_Cd} {ix : Nat} {i : ev_I} (hb : sy_By cc bs) (h : sy_k11 kt sy_pg bs o nm cc nL ret cd ix i = true) : ev_k11 sy_gc ct_all kt sy_pg sm0 (sy_nm o) nm cc nL ret cd ix i = true := by
  unfold sy_k11 at h
  have hD : (sy_i1 bs (ev_pc cd ix) 54 && sy_i1 bs ((ev_pc cd ix) + 1) i.2.2.1) = true → decode cc (ev_pc cd ix) = .ok (.istore i.2.2.1, 2) := fun q => sy_d54 (sy_i1_r hb ((Bool.and_eq_true _ _).mp q).1) (sy_i1_r hb ((Bool.and_eq_true _ _).mp q).2)
  cases hC : (sy_i1 bs (ev_pc cd ix) 54 && sy_i1 bs ((ev_pc cd ix) + 1) i.2.2.1) with
  | false =>
    rw [hC] at h
    exact absurd h (by simp)
  | true =>
    have hd := hD hC
    unfold ev_k11
    rw [decide_eq_true hd]
    rw [hC] at h
    exact h
theorem sy_l13 {kt : List FieldType} {sm0 : ev_Sm} {bs : List (List Nat)} {o : Nat} {nm : String} {cc : ByteArray} {nL : Nat} {ret : Option FieldType} {cd : ev_Cd} {ix : Nat} {i : ev_I} (hb : sy_By cc bs) (h : sy_k13 kt sy_pg bs o nm cc nL ret cd ix i = true) : ev_k13 sy_gc ct_all kt sy_pg sm0 (sy_nm o) nm cc nL ret cd ix i = true := by
  unfold sy_k13 at h
  have hD : (sy_i1 bs (ev_pc cd ix) 58 && sy_i1 bs ((ev_pc cd ix) + 1) i.2.2.1) = true → decode cc (ev_pc cd ix) = .ok (.astore i.2.2.1, 2) := fun q => sy_d58 (sy_i1_r hb ((Bool.and_eq_true _ _).mp q).1) (sy_i1_r hb ((Bool.and_eq_true _ _).mp q).2)
  cases hC : (sy_i1 bs (ev_pc cd ix) 58 && sy_i1 bs ((ev_pc cd ix) + 1) i.2.2.1) with
  | false =>
    rw [hC] at h
    exact absurd h (by simp)
  | true =>
    have hd := hD hC
    unfold ev_k13
    rw [decide_eq_true hd]
    rw [hC] at h
    exact h
theorem sy_l37 {kt : List FieldType} {sm0 : ev_Sm} {bs : List (List Nat)} {o : Nat} {nm : String} {cc : ByteArray} {nL : Nat} {ret : Option FieldType} {cd : ev_Cd} {ix : Nat} {i : ev_I} (hb : sy_By cc bs) (h : sy_k37 kt sy_pg bs o nm cc nL ret cd ix i = true) : ev_k37 sy_gc ct_all kt sy_pg sm0 (sy_nm o) nm cc nL ret cd ix i = true := by
  unfold sy_k37 at h
  have hD : (sy_i1 bs (ev_pc cd ix) 22 && sy_i1 bs ((ev_pc cd ix) + 1) i.2.2.1) = true → decode cc (ev_pc cd ix) = .ok (.lload i.2.2.1, 2) := fun q => sy_d22 (sy_i1_r hb ((Bool.and_eq_true _ _).mp q).1) (sy_i1_r hb ((Bool.and_eq_true _ _).mp q).2)
  cases hC : (sy_i1 bs (ev_pc cd ix) 22 && sy_i1 bs ((ev_pc cd ix) + 1) i.2.2.1) with
  | false =>
    rw [hC] at h
    exact absurd h (by simp)
  | true =>
    have hd := hD hC
    unfold ev_k37
    rw [decide_eq_true hd]
    rw [hC] at h
    exact h
theorem sy_l39 {kt : List FieldType} {sm0 : ev_Sm} {bs : List (List Nat)} {o : Nat} {nm : String} {cc : ByteArray} {nL : Nat} {ret : Option FieldType} {cd : ev_Cd} {ix : Nat} {i : ev_I} (hb : sy_By cc bs) (h : sy_k39 kt sy_pg bs o nm cc nL ret cd ix i = true) : ev_k39 sy_gc ct_all kt sy_pg sm0 (sy_nm o) nm cc nL ret cd ix i = true := by
  unfold sy_k39 at h
  have hD : (sy_i1 bs (ev_pc cd ix) 55 && sy_i1 bs ((ev_pc cd ix) + 1) i.2.2.1) = true → decode cc (ev_pc cd ix) = .ok (.lstore i.2.2.1, 2) := fun q => sy_d55 (sy_i1_r hb ((Bool.and_eq_true _ _).mp q).1) (sy_i1_r hb ((Bool.and_eq_true _ _).mp q).2)
  cases hC : (sy_i1 bs (ev_pc cd ix) 55 && sy_i1 bs ((ev_pc cd ix) + 1) i.2.2.1) with
  | false =>
    rw [hC] at h
    exact absurd h (by simp)
  | true =>
    have hd := hD hC
    unfold ev_k39
    rw [decide_eq_true hd]
    rw [hC] at h
    exact h
theorem sy_l1 {kt : List FieldType} {sm0 : ev_Sm} {bs : List (List Nat)} {o : Nat} {nm : String} {cc : ByteArray} {nL : Nat} {ret : Option FieldType} {cd : ev_Cd} {ix : Nat} {i : ev_I} (hb : sy_By cc bs) (h : sy_k1 kt sy_pg bs o nm cc nL ret cd ix i = true) : ev_k1 sy_gc ct_all kt sy_pg sm0 (sy_nm o) nm cc nL ret cd ix i = true := by
  unfold sy_k1 at h
  have hD : (sy_i1 bs (ev_pc cd ix) (i.2.2.1 + 3 - 2147483648) && (Nat.ble 2147483647 i.2.2.1 && Nat.ble i.2.2.1 2147483653)) = true → decode cc (ev_pc cd ix) = .ok (.iconst (((i.2.2.1 : Nat) : Int) - 2147483648), 1) := fun q => by
    simp only [Bool.and_eq_true] at q
    have q2 : 2147483647 ≤ i.2.2.1 := Nat.le_of_ble_eq_true q.2.1
    have q3 : i.2.2.1 ≤ 2147483653 := Nat.le_of_ble_eq_true q.2.2
    have q1 := sy_i1_r hb q.1
    have h6 : i.2.2.1 = 2147483647 ∨ i.2.2.1 = 2147483648 ∨ i.2.2.1 = 2147483649 ∨ i.2.2.1 = 2147483650 ∨ i.2.2.1 = 2147483651 ∨ i.2.2.1 = 2147483652 ∨ i.2.2.1 = 2147483653 := by omega
    rcases h6 with h6 | h6 | h6 | h6 | h6 | h6 | h6 <;> rw [h6] at q1 ⊢
    · exact sy_d2 q1
    · exact sy_d3 q1
    · exact sy_d4 q1
    · exact sy_d5 q1
    · exact sy_d6 q1
    · exact sy_d7 q1
    · exact sy_d8 q1
  cases hC : (sy_i1 bs (ev_pc cd ix) (i.2.2.1 + 3 - 2147483648) && (Nat.ble 2147483647 i.2.2.1 && Nat.ble i.2.2.1 2147483653)) with
  | false =>
    rw [hC] at h
    exact absurd h (by simp)
  | true =>
    have hd := hD hC
    unfold ev_k1
    have e : ev_dn cc (ev_pc cd ix) = ((i.2.2.1 : Nat) : Int) - 2147483648 := by
      unfold ev_dn
      rw [hd]
    rw [e]
    rw [decide_eq_true hd]
    rw [hC] at h
    exact h
theorem sy_l2 {kt : List FieldType} {sm0 : ev_Sm} {bs : List (List Nat)} {o : Nat} {nm : String} {cc : ByteArray} {nL : Nat} {ret : Option FieldType} {cd : ev_Cd} {ix : Nat} {i : ev_I} (hb : sy_By cc bs) (h : sy_k2 kt sy_pg bs o nm cc nL ret cd ix i = true) : ev_k2 sy_gc ct_all kt sy_pg sm0 (sy_nm o) nm cc nL ret cd ix i = true := by
  unfold sy_k2 at h
  have hD : (sy_i1 bs (ev_pc cd ix) 16 && sy_i1 bs ((ev_pc cd ix) + 1) (i.2.2.1 % 256)) = true → decode cc (ev_pc cd ix) = .ok (.bipush (Reader.signed 8 (i.2.2.1 % 256)), 2) := fun q => sy_d16 (sy_i1_r hb ((Bool.and_eq_true _ _).mp q).1) (sy_s1 (sy_i1_r hb ((Bool.and_eq_true _ _).mp q).2))
  cases hC : (sy_i1 bs (ev_pc cd ix) 16 && sy_i1 bs ((ev_pc cd ix) + 1) (i.2.2.1 % 256)) with
  | false =>
    rw [hC] at h
    exact absurd h (by simp)
  | true =>
    have hd := hD hC
    unfold ev_k2
    have e : ev_dn cc (ev_pc cd ix) = Reader.signed 8 (i.2.2.1 % 256) := by
      unfold ev_dn
      rw [hd]
    rw [e]
    rw [decide_eq_true hd]
    rw [hC] at h
    exact h
theorem sy_l14 {kt : List FieldType} {sm0 : ev_Sm} {bs : List (List Nat)} {o : Nat} {nm : String} {cc : ByteArray} {nL : Nat} {ret : Option FieldType} {cd : ev_Cd} {ix : Nat} {i : ev_I} (hb : sy_By cc bs) (h : sy_k14 kt sy_pg bs o nm cc nL ret cd ix i = true) : ev_k14 sy_gc ct_all kt sy_pg sm0 (sy_nm o) nm cc nL ret cd ix i = true := by
  unfold sy_k14 at h
  have hD : (sy_i1 bs (ev_pc cd ix) 132 && (sy_i1 bs ((ev_pc cd ix) + 1) i.2.2.1 && sy_i1 bs ((ev_pc cd ix) + 2) (i.2.2.2.1 % 256))) = true → decode cc (ev_pc cd ix) = .ok (.iinc i.2.2.1 (Reader.signed 8 (i.2.2.2.1 % 256)), 3) := fun q => sy_d132 (sy_i1_r hb ((Bool.and_eq_true _ _).mp q).1) (sy_i1_r hb ((Bool.and_eq_true _ _).mp ((Bool.and_eq_true _ _).mp q).2).1) (sy_s1 (sy_i1_r hb ((Bool.and_eq_true _ _).mp ((Bool.and_eq_true _ _).mp q).2).2))
  cases hC : (sy_i1 bs (ev_pc cd ix) 132 && (sy_i1 bs ((ev_pc cd ix) + 1) i.2.2.1 && sy_i1 bs ((ev_pc cd ix) + 2) (i.2.2.2.1 % 256))) with
  | false =>
    rw [hC] at h
    exact absurd h (by simp)
  | true =>
    have hd := hD hC
    unfold ev_k14
    have e : ev_dn cc (ev_pc cd ix) = Reader.signed 8 (i.2.2.2.1 % 256) := by
      unfold ev_dn
      rw [hd]
    rw [e]
    rw [decide_eq_true hd]
    rw [hC] at h
    exact h
theorem sy_ok_r {kt : List FieldType} {bs : List (List Nat)} {o : Nat} {nm : String} {cc : ByteArray} {nL : Nat} {ret : Option FieldType} {cd : ev_Cd} {ix : Nat} {i : ev_I} (hb : sy_By cc bs) (h : sy_ok kt bs o nm cc nL ret cd ix i = true) : sx_ok sy_gc ct_all kt sy_pg [] sy_tb (sy_nm o) nm cc nL ret cd ix i = true := by
  unfold sy_ok at h
  unfold sx_ok
  by_cases hlt : i.2.1 < 48
  · rw [if_pos hlt] at h ⊢
    by_cases hlt : i.2.1 < 19
    · rw [if_pos hlt] at h ⊢
      by_cases hlt : i.2.1 < 9
      · rw [if_pos hlt] at h ⊢
        by_cases hlt : i.2.1 < 4
        · rw [if_pos hlt] at h ⊢
          by_cases hlt : i.2.1 < 2
          · rw [if_pos hlt] at h ⊢
            by_cases hlt : i.2.1 < 1
            · rw [if_pos hlt] at h ⊢
              by_cases hop : i.2.1 = 0
              · rw [if_pos hop]
              · rw [if_neg hop] at h
                cases h
            · rw [if_neg hlt] at h ⊢
              by_cases hop : i.2.1 = 1
              · rw [if_pos hop] at h ⊢
                exact sy_l1 (sm0 := []) hb h
              · rw [if_neg hop] at h
                cases h
          · rw [if_neg hlt] at h ⊢
            by_cases hlt : i.2.1 < 3
            · rw [if_pos hlt] at h ⊢
              by_cases hop : i.2.1 = 2
              · rw [if_pos hop] at h ⊢
                exact sy_l2 (sm0 := []) hb h
              · rw [if_neg hop] at h
                cases h
            · rw [if_neg hlt] at h ⊢
              by_cases hop : i.2.1 = 3
              · rw [if_pos hop] at h ⊢
                exact sy_l3 (sm0 := []) hb h
              · rw [if_neg hop] at h
                cases h
        · rw [if_neg hlt] at h ⊢
          by_cases hlt : i.2.1 < 6
          · rw [if_pos hlt] at h ⊢
            by_cases hlt : i.2.1 < 5
            · rw [if_pos hlt] at h ⊢
              by_cases hop : i.2.1 = 4
              · rw [if_pos hop] at h ⊢
                exact sy_l4 (sm0 := []) hb h
              · rw [if_neg hop] at h
                cases h
            · rw [if_neg hlt] at h ⊢
              by_cases hop : i.2.1 = 5
              · rw [if_pos hop] at h ⊢
                exact sy_l5 (sm0 := []) hb h
              · rw [if_neg hop] at h
                cases h
          · rw [if_neg hlt] at h ⊢
            by_cases hlt : i.2.1 < 7
            · rw [if_pos hlt] at h ⊢
              by_cases hop : i.2.1 = 6
              · rw [if_pos hop] at h ⊢
                exact sy_l6 (sm0 := []) hb h
              · rw [if_neg hop] at h
                cases h
            · rw [if_neg hlt] at h ⊢
              by_cases hlt : i.2.1 < 8
              · rw [if_pos hlt] at h ⊢
                by_cases hop : i.2.1 = 7
                · rw [if_pos hop] at h ⊢
                  exact sy_l7 (sm0 := []) hb h
                · rw [if_neg hop] at h
                  cases h
              · rw [if_neg hlt] at h ⊢
                by_cases hop : i.2.1 = 8
                · rw [if_pos hop] at h ⊢
                  exact sy_l8 (sm0 := []) hb h
                · rw [if_neg hop] at h
                  cases h
      · rw [if_neg hlt] at h ⊢
        by_cases hlt : i.2.1 < 14
        · rw [if_pos hlt] at h ⊢
          by_cases hlt : i.2.1 < 11
          · rw [if_pos hlt] at h ⊢
            by_cases hlt : i.2.1 < 10
            · rw [if_pos hlt] at h ⊢
              by_cases hop : i.2.1 = 9
              · rw [if_pos hop] at h ⊢
                exact sy_l9 (sm0 := []) hb h
              · rw [if_neg hop] at h
                cases h
            · rw [if_neg hlt] at h ⊢
              by_cases hop : i.2.1 = 10
              · rw [if_pos hop] at h ⊢
                exact sy_l10 (sm0 := []) hb h
              · rw [if_neg hop] at h
                cases h
          · rw [if_neg hlt] at h ⊢
            by_cases hlt : i.2.1 < 12
            · rw [if_pos hlt] at h ⊢
              by_cases hop : i.2.1 = 11
              · rw [if_pos hop] at h ⊢
                exact sy_l11 (sm0 := []) hb h
              · rw [if_neg hop] at h
                cases h
            · rw [if_neg hlt] at h ⊢
              by_cases hlt : i.2.1 < 13
              · rw [if_pos hlt] at h ⊢
                by_cases hop : i.2.1 = 12
                · rw [if_pos hop] at h ⊢
                  exact sy_l12 (sm0 := []) hb h
                · rw [if_neg hop] at h
                  cases h
              · rw [if_neg hlt] at h ⊢
                by_cases hop : i.2.1 = 13
                · rw [if_pos hop] at h ⊢
                  exact sy_l13 (sm0 := []) hb h
                · rw [if_neg hop] at h
                  cases h
        · rw [if_neg hlt] at h ⊢
          by_cases hlt : i.2.1 < 16
          · rw [if_pos hlt] at h ⊢
            by_cases hlt : i.2.1 < 15
            · rw [if_pos hlt] at h ⊢
              by_cases hop : i.2.1 = 14
              · rw [if_pos hop] at h ⊢
                exact sy_l14 (sm0 := []) hb h
              · rw [if_neg hop] at h
                cases h
            · rw [if_neg hlt] at h ⊢
              by_cases hop : i.2.1 = 15
              · rw [if_pos hop] at h ⊢
                exact sy_l15 (sm0 := []) hb h
              · rw [if_neg hop] at h
                cases h
          · rw [if_neg hlt] at h ⊢
            by_cases hlt : i.2.1 < 17
            · rw [if_pos hlt] at h ⊢
              by_cases hop : i.2.1 = 16
              · rw [if_pos hop] at h ⊢
                exact sy_l16 (sm0 := []) hb h
              · rw [if_neg hop] at h
                cases h
            · rw [if_neg hlt] at h ⊢
              by_cases hlt : i.2.1 < 18
              · rw [if_pos hlt] at h ⊢
                by_cases hop : i.2.1 = 17
                · rw [if_pos hop] at h ⊢
                  exact sy_l17 (sm0 := []) hb h
                · rw [if_neg hop] at h
                  cases h
              · rw [if_neg hlt] at h ⊢
                by_cases hop : i.2.1 = 18
                · rw [if_pos hop] at h ⊢
                  exact sy_l18 (sm0 := []) hb h
                · rw [if_neg hop] at h
                  cases h
    · rw [if_neg hlt] at h ⊢
      by_cases hlt : i.2.1 < 28
      · rw [if_pos hlt] at h ⊢
        by_cases hlt : i.2.1 < 23
        · rw [if_pos hlt] at h ⊢
          by_cases hlt : i.2.1 < 21
          · rw [if_pos hlt] at h ⊢
            by_cases hlt : i.2.1 < 20
            · rw [if_pos hlt] at h ⊢
              by_cases hop : i.2.1 = 19
              · rw [if_pos hop] at h ⊢
                exact sy_l19 (sm0 := []) hb h
              · rw [if_neg hop] at h
                cases h
            · rw [if_neg hlt] at h ⊢
              by_cases hop : i.2.1 = 20
              · rw [if_pos hop] at h ⊢
                exact sy_l20 (sm0 := []) hb h
              · rw [if_neg hop] at h
                cases h
          · rw [if_neg hlt] at h ⊢
            by_cases hlt : i.2.1 < 22
            · rw [if_pos hlt] at h ⊢
              by_cases hop : i.2.1 = 21
              · rw [if_pos hop] at h ⊢
                exact sy_l21 (sm0 := []) hb h
              · rw [if_neg hop] at h
                cases h
            · rw [if_neg hlt] at h ⊢
              by_cases hop : i.2.1 = 22
              · rw [if_pos hop] at h ⊢
                exact sy_l22 (sm0 := []) hb h
              · rw [if_neg hop] at h
                cases h
        · rw [if_neg hlt] at h ⊢
          by_cases hlt : i.2.1 < 25
          · rw [if_pos hlt] at h ⊢
            by_cases hlt : i.2.1 < 24
            · rw [if_pos hlt] at h ⊢
              by_cases hop : i.2.1 = 23
              · rw [if_pos hop] at h ⊢
                exact sy_l23 (sm0 := []) hb h
              · rw [if_neg hop] at h
                cases h
            · rw [if_neg hlt] at h ⊢
              by_cases hop : i.2.1 = 24
              · rw [if_pos hop] at h ⊢
                exact sy_l24 (sm0 := []) hb h
              · rw [if_neg hop] at h
                cases h
          · rw [if_neg hlt] at h ⊢
            by_cases hlt : i.2.1 < 26
            · rw [if_pos hlt] at h ⊢
              by_cases hop : i.2.1 = 25
              · rw [if_pos hop] at h ⊢
                exact sy_l25 (sm0 := []) hb h
              · rw [if_neg hop] at h
                cases h
            · rw [if_neg hlt] at h ⊢
              by_cases hlt : i.2.1 < 27
              · rw [if_pos hlt] at h ⊢
                by_cases hop : i.2.1 = 26
                · rw [if_pos hop] at h ⊢
                  exact sy_l26 (sm0 := []) hb h
                · rw [if_neg hop] at h
                  cases h
              · rw [if_neg hlt] at h ⊢
                by_cases hop : i.2.1 = 27
                · rw [if_pos hop] at h ⊢
                  exact sy_l27 (sm0 := []) hb h
                · rw [if_neg hop] at h
                  cases h
      · rw [if_neg hlt] at h ⊢
        by_cases hlt : i.2.1 < 39
        · rw [if_pos hlt] at h ⊢
          by_cases hlt : i.2.1 < 36
          · rw [if_pos hlt] at h ⊢
            by_cases hlt : i.2.1 < 29
            · rw [if_pos hlt] at h ⊢
              by_cases hop : i.2.1 = 28
              · rw [if_pos hop] at h ⊢
                exact sy_l28 (sm0 := []) hb h
              · rw [if_neg hop] at h
                cases h
            · rw [if_neg hlt] at h ⊢
              by_cases hop : i.2.1 = 29
              · rw [if_pos hop] at h ⊢
                exact sy_l29 (sm0 := []) hb h
              · rw [if_neg hop] at h
                cases h
          · rw [if_neg hlt] at h ⊢
            by_cases hlt : i.2.1 < 37
            · rw [if_pos hlt] at h ⊢
              by_cases hop : i.2.1 = 36
              · rw [if_pos hop] at h ⊢
                exact sy_l36 (sm0 := []) hb h
              · rw [if_neg hop] at h
                cases h
            · rw [if_neg hlt] at h ⊢
              by_cases hlt : i.2.1 < 38
              · rw [if_pos hlt] at h ⊢
                by_cases hop : i.2.1 = 37
                · rw [if_pos hop] at h ⊢
                  exact sy_l37 (sm0 := []) hb h
                · rw [if_neg hop] at h
                  cases h
              · rw [if_neg hlt] at h ⊢
                by_cases hop : i.2.1 = 38
                · rw [if_pos hop] at h ⊢
                  exact sy_l38 (sm0 := []) hb h
                · rw [if_neg hop] at h
                  cases h
        · rw [if_neg hlt] at h ⊢
          by_cases hlt : i.2.1 < 42
          · rw [if_pos hlt] at h ⊢
            by_cases hlt : i.2.1 < 40
            · rw [if_pos hlt] at h ⊢
              by_cases hop : i.2.1 = 39
              · rw [if_pos hop] at h ⊢
                exact sy_l39 (sm0 := []) hb h
              · rw [if_neg hop] at h
                cases h
            · rw [if_neg hlt] at h ⊢
              by_cases hop : i.2.1 = 40
              · rw [if_pos hop] at h ⊢
                exact sy_l40 (sm0 := []) hb h
              · rw [if_neg hop] at h
                cases h
          · rw [if_neg hlt] at h ⊢
            by_cases hlt : i.2.1 < 44
            · rw [if_pos hlt] at h ⊢
              by_cases hop : i.2.1 = 42
              · rw [if_pos hop] at h ⊢
                exact sy_l42 (sm0 := []) hb h
              · rw [if_neg hop] at h
                cases h
            · rw [if_neg hlt] at h ⊢
              by_cases hlt : i.2.1 < 47
              · rw [if_pos hlt] at h ⊢
                by_cases hop : i.2.1 = 44
                · rw [if_pos hop] at h ⊢
                  exact sy_l44 (sm0 := []) hb h
                · rw [if_neg hop] at h
                  cases h
              · rw [if_neg hlt] at h ⊢
                by_cases hop : i.2.1 = 47
                · rw [if_pos hop] at h ⊢
                  exact sy_l47 (sm0 := []) hb h
                · rw [if_neg hop] at h
                  cases h
  · rw [if_neg hlt] at h ⊢
    by_cases hlt : i.2.1 < 71
    · rw [if_pos hlt] at h ⊢
      by_cases hlt : i.2.1 < 59
      · rw [if_pos hlt] at h ⊢
        by_cases hlt : i.2.1 < 52
        · rw [if_pos hlt] at h ⊢
          by_cases hlt : i.2.1 < 50
          · rw [if_pos hlt] at h ⊢
            by_cases hlt : i.2.1 < 49
            · rw [if_pos hlt] at h ⊢
              by_cases hop : i.2.1 = 48
              · rw [if_pos hop] at h ⊢
                exact sy_l48 (sm0 := []) hb h
              · rw [if_neg hop] at h
                cases h
            · rw [if_neg hlt] at h ⊢
              by_cases hop : i.2.1 = 49
              · rw [if_pos hop] at h ⊢
                exact sy_l49 (sm0 := []) hb h
              · rw [if_neg hop] at h
                cases h
          · rw [if_neg hlt] at h ⊢
            by_cases hlt : i.2.1 < 51
            · rw [if_pos hlt] at h ⊢
              by_cases hop : i.2.1 = 50
              · rw [if_pos hop] at h ⊢
                exact sy_l50 (sm0 := []) hb h
              · rw [if_neg hop] at h
                cases h
            · rw [if_neg hlt] at h ⊢
              by_cases hop : i.2.1 = 51
              · rw [if_pos hop] at h ⊢
                exact sy_l51 (sm0 := []) hb h
              · rw [if_neg hop] at h
                cases h
        · rw [if_neg hlt] at h ⊢
          by_cases hlt : i.2.1 < 54
          · rw [if_pos hlt] at h ⊢
            by_cases hlt : i.2.1 < 53
            · rw [if_pos hlt] at h ⊢
              by_cases hop : i.2.1 = 52
              · rw [if_pos hop] at h ⊢
                exact sy_l52 (sm0 := []) hb h
              · rw [if_neg hop] at h
                cases h
            · rw [if_neg hlt] at h ⊢
              by_cases hop : i.2.1 = 53
              · rw [if_pos hop] at h ⊢
                exact sy_l53 (sm0 := []) hb h
              · rw [if_neg hop] at h
                cases h
          · rw [if_neg hlt] at h ⊢
            by_cases hlt : i.2.1 < 56
            · rw [if_pos hlt] at h ⊢
              by_cases hop : i.2.1 = 54
              · rw [if_pos hop] at h ⊢
                exact sy_l54 (sm0 := []) hb h
              · rw [if_neg hop] at h
                cases h
            · rw [if_neg hlt] at h ⊢
              by_cases hlt : i.2.1 < 57
              · rw [if_pos hlt] at h ⊢
                by_cases hop : i.2.1 = 56
                · rw [if_pos hop] at h ⊢
                  exact sy_l56 (sm0 := []) hb h
                · rw [if_neg hop] at h
                  cases h
              · rw [if_neg hlt] at h ⊢
                by_cases hop : i.2.1 = 57
                · rw [if_pos hop] at h ⊢
                  exact sy_l57 (sm0 := []) hb h
                · rw [if_neg hop] at h
                  cases h
      · rw [if_neg hlt] at h ⊢
        by_cases hlt : i.2.1 < 66
        · rw [if_pos hlt] at h ⊢
          by_cases hlt : i.2.1 < 61
          · rw [if_pos hlt] at h ⊢
            by_cases hlt : i.2.1 < 60
            · rw [if_pos hlt] at h ⊢
              by_cases hop : i.2.1 = 59
              · rw [if_pos hop] at h ⊢
                exact sy_l59 (sm0 := []) hb h
              · rw [if_neg hop] at h
                cases h
            · rw [if_neg hlt] at h ⊢
              by_cases hop : i.2.1 = 60
              · rw [if_pos hop] at h ⊢
                exact sy_l60 (sm0 := []) hb h
              · rw [if_neg hop] at h
                cases h
          · rw [if_neg hlt] at h ⊢
            by_cases hlt : i.2.1 < 62
            · rw [if_pos hlt] at h ⊢
              by_cases hop : i.2.1 = 61
              · rw [if_pos hop] at h ⊢
                exact sy_l61 (sm0 := []) hb h
              · rw [if_neg hop] at h
                cases h
            · rw [if_neg hlt] at h ⊢
              by_cases hlt : i.2.1 < 63
              · rw [if_pos hlt] at h ⊢
                by_cases hop : i.2.1 = 62
                · rw [if_pos hop] at h ⊢
                  exact sy_l62 (sm0 := []) hb h
                · rw [if_neg hop] at h
                  cases h
              · rw [if_neg hlt] at h ⊢
                by_cases hop : i.2.1 = 63
                · rw [if_pos hop] at h ⊢
                  exact sy_l63 (sm0 := []) hb h
                · rw [if_neg hop] at h
                  cases h
        · rw [if_neg hlt] at h ⊢
          by_cases hlt : i.2.1 < 68
          · rw [if_pos hlt] at h ⊢
            by_cases hlt : i.2.1 < 67
            · rw [if_pos hlt] at h ⊢
              by_cases hop : i.2.1 = 66
              · rw [if_pos hop] at h ⊢
                exact sy_l66 (sm0 := []) hb h
              · rw [if_neg hop] at h
                cases h
            · rw [if_neg hlt] at h ⊢
              by_cases hop : i.2.1 = 67
              · rw [if_pos hop] at h ⊢
                exact sy_l67 (sm0 := []) hb h
              · rw [if_neg hop] at h
                cases h
          · rw [if_neg hlt] at h ⊢
            by_cases hlt : i.2.1 < 69
            · rw [if_pos hlt] at h ⊢
              by_cases hop : i.2.1 = 68
              · rw [if_pos hop] at h ⊢
                exact sy_l68 (sm0 := []) hb h
              · rw [if_neg hop] at h
                cases h
            · rw [if_neg hlt] at h ⊢
              by_cases hlt : i.2.1 < 70
              · rw [if_pos hlt] at h ⊢
                by_cases hop : i.2.1 = 69
                · rw [if_pos hop] at h ⊢
                  exact sy_l69 (sm0 := []) hb h
                · rw [if_neg hop] at h
                  cases h
              · rw [if_neg hlt] at h ⊢
                by_cases hop : i.2.1 = 70
                · rw [if_pos hop] at h ⊢
                  exact sy_l70 (sm0 := []) hb h
                · rw [if_neg hop] at h
                  cases h
    · rw [if_neg hlt] at h ⊢
      by_cases hlt : i.2.1 < 81
      · rw [if_pos hlt] at h ⊢
        by_cases hlt : i.2.1 < 76
        · rw [if_pos hlt] at h ⊢
          by_cases hlt : i.2.1 < 73
          · rw [if_pos hlt] at h ⊢
            by_cases hlt : i.2.1 < 72
            · rw [if_pos hlt] at h ⊢
              by_cases hop : i.2.1 = 71
              · rw [if_pos hop] at h ⊢
                exact sy_l71 (sm0 := []) hb h
              · rw [if_neg hop] at h
                cases h
            · rw [if_neg hlt] at h ⊢
              by_cases hop : i.2.1 = 72
              · rw [if_pos hop] at h ⊢
                exact sy_l72 (sm0 := []) hb h
              · rw [if_neg hop] at h
                cases h
          · rw [if_neg hlt] at h ⊢
            by_cases hlt : i.2.1 < 74
            · rw [if_pos hlt] at h ⊢
              by_cases hop : i.2.1 = 73
              · rw [if_pos hop] at h ⊢
                exact sy_l73 (sm0 := []) hb h
              · rw [if_neg hop] at h
                cases h
            · rw [if_neg hlt] at h ⊢
              by_cases hlt : i.2.1 < 75
              · rw [if_pos hlt] at h ⊢
                by_cases hop : i.2.1 = 74
                · rw [if_pos hop] at h ⊢
                  exact sy_l74 (sm0 := []) hb h
                · rw [if_neg hop] at h
                  cases h
              · rw [if_neg hlt] at h ⊢
                by_cases hop : i.2.1 = 75
                · rw [if_pos hop] at h ⊢
                  exact sy_l75 (sm0 := []) hb h
                · rw [if_neg hop] at h
                  cases h
        · rw [if_neg hlt] at h ⊢
          by_cases hlt : i.2.1 < 78
          · rw [if_pos hlt] at h ⊢
            by_cases hlt : i.2.1 < 77
            · rw [if_pos hlt] at h ⊢
              by_cases hop : i.2.1 = 76
              · rw [if_pos hop] at h ⊢
                exact sy_l76 (sm0 := []) hb h
              · rw [if_neg hop] at h
                cases h
            · rw [if_neg hlt] at h ⊢
              by_cases hop : i.2.1 = 77
              · rw [if_pos hop] at h ⊢
                exact sy_l77 (sm0 := []) hb h
              · rw [if_neg hop] at h
                cases h
          · rw [if_neg hlt] at h ⊢
            by_cases hlt : i.2.1 < 79
            · rw [if_pos hlt] at h ⊢
              by_cases hop : i.2.1 = 78
              · rw [if_pos hop] at h ⊢
                exact sy_l78 (sm0 := []) hb h
              · rw [if_neg hop] at h
                cases h
            · rw [if_neg hlt] at h ⊢
              by_cases hlt : i.2.1 < 80
              · rw [if_pos hlt] at h ⊢
                by_cases hop : i.2.1 = 79
                · rw [if_pos hop] at h ⊢
                  exact sy_l79 (sm0 := []) hb h
                · rw [if_neg hop] at h
                  cases h
              · rw [if_neg hlt] at h ⊢
                by_cases hop : i.2.1 = 80
                · rw [if_pos hop] at h ⊢
                  exact sy_l80 (sm0 := []) hb h
                · rw [if_neg hop] at h
                  cases h
      · rw [if_neg hlt] at h ⊢
        by_cases hlt : i.2.1 < 87
        · rw [if_pos hlt] at h ⊢
          by_cases hlt : i.2.1 < 83
          · rw [if_pos hlt] at h ⊢
            by_cases hlt : i.2.1 < 82
            · rw [if_pos hlt] at h ⊢
              by_cases hop : i.2.1 = 81
              · rw [if_pos hop] at h ⊢
                exact sy_l81 (sm0 := []) hb h
              · rw [if_neg hop] at h
                cases h
            · rw [if_neg hlt] at h ⊢
              by_cases hop : i.2.1 = 82
              · rw [if_pos hop] at h ⊢
                exact sy_l82 (sm0 := []) hb h
              · rw [if_neg hop] at h
                cases h
          · rw [if_neg hlt] at h ⊢
            by_cases hlt : i.2.1 < 85
            · rw [if_pos hlt] at h ⊢
              by_cases hop : i.2.1 = 83
              · rw [if_pos hop] at h ⊢
                exact h
              · rw [if_neg hop] at h
                cases h
            · rw [if_neg hlt] at h ⊢
              by_cases hlt : i.2.1 < 86
              · rw [if_pos hlt] at h ⊢
                by_cases hop : i.2.1 = 85
                · rw [if_pos hop] at h ⊢
                  exact h
                · rw [if_neg hop] at h
                  cases h
              · rw [if_neg hlt] at h ⊢
                by_cases hop : i.2.1 = 86
                · rw [if_pos hop] at h ⊢
                  exact sy_l86 (sm0 := []) hb h
                · rw [if_neg hop] at h
                  cases h
        · rw [if_neg hlt] at h ⊢
          by_cases hlt : i.2.1 < 89
          · rw [if_pos hlt] at h ⊢
            by_cases hlt : i.2.1 < 88
            · rw [if_pos hlt] at h ⊢
              by_cases hop : i.2.1 = 87
              · rw [if_pos hop] at h ⊢
                exact sy_l87 (sm0 := []) hb h
              · rw [if_neg hop] at h
                cases h
            · rw [if_neg hlt] at h ⊢
              by_cases hop : i.2.1 = 88
              · rw [if_pos hop] at h ⊢
                exact sy_l88 (sm0 := []) hb h
              · rw [if_neg hop] at h
                cases h
          · rw [if_neg hlt] at h ⊢
            by_cases hlt : i.2.1 < 90
            · rw [if_pos hlt] at h ⊢
              by_cases hop : i.2.1 = 89
              · rw [if_pos hop] at h ⊢
                exact sy_l89 (sm0 := []) hb h
              · rw [if_neg hop] at h
                cases h
            · rw [if_neg hlt] at h ⊢
              by_cases hlt : i.2.1 < 91
              · rw [if_pos hlt] at h ⊢
                by_cases hop : i.2.1 = 90
                · rw [if_pos hop] at h ⊢
                  exact sy_l90 (sm0 := []) hb h
                · rw [if_neg hop] at h
                  cases h
              · rw [if_neg hlt] at h ⊢
                by_cases hop : i.2.1 = 91
                · rw [if_pos hop] at h ⊢
                  exact sy_l91 (sm0 := []) hb h
                · rw [if_neg hop] at h
                  cases h
theorem sy_okM_r {o : Nat} {y : MethodName} {bytes : ByteArray} {maxL : Nat} {rt : Option FieldType} {cd : ev_Cd} {bs : List (List Nat)} {lo n : Nat} (hb : sy_By bytes bs) (h : sy_okM o y bytes maxL rt cd bs lo n = true) {ix : Nat} {i : ev_I} (h1 : lo ≤ ix) (h2 : ix < lo + n) (hi : cd[ix]? = some i) : sx_ok sy_gc ct_all ct_kt sy_pg [] sy_tb (sy_nm o) y.name bytes maxL rt cd ix i = true := by
  have h3 := List.all_eq_true.mp h (ix - lo) (List.mem_range.mpr (by omega))
  rw [show lo + (ix - lo) = ix by omega, hi] at h3
  exact sy_ok_r hb h3
theorem sy_okC : ev_okC sy_gs ct_cl ct_all := fun k q hq => by
  have hm : ∀ w ∈ ct_gs, w ∈ sy_gs := fun w hw => by
    unfold sy_gs sy_gc
    rw [List.flatten_append]
    refine List.mem_append_right _ ?_
    rw [List.flatten_cons]
    exact List.mem_append_right _ hw
  obtain ⟨a1, a2, a3, a4, a5, a6, a7, a8⟩ := ct_okC k q hq
  exact ⟨fun w hw => hm w (a1 w hw), a2, a3, a4, hm _ a5, hm _ a6, a7, a8⟩
theorem sy_incw : ∀ w ∈ sy_cw, w ∈ sy_gs := fun w hw => by
  unfold sy_gs sy_gc
  rw [List.flatten_append]
  refine List.mem_append_right _ ?_
  rw [List.flatten_cons]
  exact List.mem_append_left _ hw
set_option maxRecDepth 100000 in
theorem sy_cwe : sy_cw = sy_pg.map (fun q => Cond.code q.1.1 q.1.2.1 q.1.2.2.1 q.1.2.2.2) := rfl
theorem sy_cwat : ∀ k : Nat, sy_cw[k]? = (sy_pg[k]?).map (fun q => Cond.code q.1.1 q.1.2.1 q.1.2.2.1 q.1.2.2.2) := fun k => by
  rw [sy_cwe, List.getElem?_map]
theorem sy_okDD : ev_okD sy_gs ct_cl ct_all sy_pg := ⟨sy_okC, fun k y bytes maxL rt cd hk => by
  refine sy_incw _ (List.mem_of_getElem? (i := k) ?_)
  rw [sy_cwat, hk]
  rfl⟩
