/-! A second small machine (sx_): ints are told as sums of unknown numbers, what is known of these as bounds and as sums that are not below 0. A form [c, c0, c1, ..] is c + c0 * r0 + c1 * r1 + .. over the row r of numbers -/
def sx_dot : List Int → List Int → Int
  | c :: cs, r :: rs => c * r + sx_dot cs rs
  | [], _ => 0
  | _ :: _, [] => 0
def sx_ev (f : List Int) (r : List Int) : Int := match f with
  | [] => 0
  | c :: cs => c + sx_dot cs r
def sx_add : List Int → List Int → List Int
  | a :: as, b :: bs => (a + b) :: sx_add as bs
  | [], bs => bs
  | a :: as, [] => a :: as
def sx_mul (k : Int) : List Int → List Int
  | [] => []
  | c :: cs => k * c :: sx_mul k cs
theorem sx_dot_nil (r : List Int) : sx_dot [] r = 0 := by cases r <;> rfl
theorem sx_dot_add : ∀ (f g r : List Int), sx_dot (sx_add f g) r = sx_dot f r + sx_dot g r
  | [], g, r => by simp [sx_add, sx_dot_nil]
  | a :: as, [], r => by simp [sx_add, sx_dot_nil]
  | a :: as, b :: bs, [] => by simp [sx_add, sx_dot]
  | a :: as, b :: bs, x :: r => by
    simp only [sx_add, sx_dot, sx_dot_add as bs r, Int.add_mul]
    omega
theorem sx_ev_add (f g r : List Int) : sx_ev (sx_add f g) r = sx_ev f r + sx_ev g r := by
  cases f with
  | nil => simp [sx_add, sx_ev]
  | cons a as =>
    cases g with
    | nil => simp [sx_add, sx_ev]
    | cons b bs =>
      simp only [sx_add, sx_ev, sx_dot_add]
      omega
theorem sx_dot_mul (k : Int) : ∀ (f r : List Int), sx_dot (sx_mul k f) r = k * sx_dot f r
  | [], r => by simp [sx_mul, sx_dot_nil]
  | a :: as, [] => by simp [sx_mul, sx_dot]
  | a :: as, x :: r => by
    simp only [sx_mul, sx_dot, sx_dot_mul k as r, Int.mul_add, Int.mul_assoc]
theorem sx_ev_mul (k : Int) (f r : List Int) : sx_ev (sx_mul k f) r = k * sx_ev f r := by
  cases f with
  | nil => simp [sx_mul, sx_ev]
  | cons a as => simp only [sx_mul, sx_ev, sx_dot_mul, Int.mul_add]
def sx_sub (f g : List Int) : List Int := sx_add f (sx_mul (-1) g)
theorem sx_ev_sub (f g r : List Int) : sx_ev (sx_sub f g) r = sx_ev f r - sx_ev g r := by
  unfold sx_sub
  rw [sx_ev_add, sx_ev_mul]
  omega
theorem sx_ev_c (c : Int) (r : List Int) : sx_ev [c] r = c := by simp [sx_ev, sx_dot_nil]
/-- more numbers behind the row change nothing of a form that is not longer -/
theorem sx_dot_app : ∀ (cs r x : List Int), cs.length ≤ r.length → sx_dot cs (r ++ x) = sx_dot cs r
  | [], r, x, _ => by rw [sx_dot_nil, sx_dot_nil]
  | c :: cs, [], x, h => by simp at h
  | c :: cs, y :: r, x, h => by
    simp only [List.cons_append, sx_dot]
    rw [sx_dot_app cs r x (by simpa using h)]
theorem sx_ev_app {f r x : List Int} (h : f.length ≤ r.length + 1) : sx_ev f (r ++ x) = sx_ev f r := by
  cases f with
  | nil => rfl
  | cons c cs =>
    simp only [sx_ev]
    rw [sx_dot_app cs r x (by simpa using h)]
/-- the number at place n as a form -/
def sx_zr : Nat → List Int
  | 0 => [1]
  | n + 1 => 0 :: sx_zr n
def sx_sy (n : Nat) : List Int := 0 :: sx_zr n
theorem sx_dot_zr : ∀ (n : Nat) (r : List Int) (v : Int), r[n]? = some v → sx_dot (sx_zr n) r = v
  | 0, x :: r, v, h => by
    simp at h
    simp [sx_zr, sx_dot, sx_dot_nil, h]
  | n + 1, x :: r, v, h => by
    simp at h
    simp [sx_zr, sx_dot, sx_dot_zr n r v h]
  | 0, [], v, h => by simp at h
  | n + 1, [], v, h => by simp at h
theorem sx_ev_sy {n : Nat} {r : List Int} {v : Int} (h : r[n]? = some v) : sx_ev (sx_sy n) r = v := by
  simp only [sx_sy, sx_ev, sx_dot_zr n r v h]
  omega
/-- bounds of the row's numbers -/
def sx_b : List (Int × Int) → List Int → Prop
  | [], [] => True
  | q :: B, x :: r => q.1 ≤ x ∧ x ≤ q.2 ∧ sx_b B r
  | [], _ :: _ => False
  | _ :: _, [] => False
theorem sx_b_len : ∀ {B : List (Int × Int)} {r : List Int}, sx_b B r → B.length = r.length
  | [], [], _ => rfl
  | _ :: _, _ :: _, h => by simp [sx_b_len h.2.2]
  | [], _ :: _, h => h.elim
  | _ :: _, [], h => h.elim
theorem sx_b_app : ∀ {B C : List (Int × Int)} {r x : List Int}, sx_b B r → sx_b C x → sx_b (B ++ C) (r ++ x)
  | [], _, [], _, _, h => h
  | _ :: _, _, _ :: _, _, h, g => ⟨h.1, h.2.1, sx_b_app h.2.2 g⟩
  | [], _, _ :: _, _, h, _ => h.elim
  | _ :: _, _, [], _, h, _ => h.elim
theorem sx_b_one {lo hi v : Int} (h1 : lo ≤ v) (h2 : v ≤ hi) : sx_b [(lo, hi)] [v] := ⟨h1, h2, trivial⟩
theorem sx_b_at : ∀ {B : List (Int × Int)} {r : List Int} {k : Nat} {q : Int × Int}, sx_b B r → B[k]? = some q → ∃ x, r[k]? = some x ∧ q.1 ≤ x ∧ x ≤ q.2
  | [], _, k, q, _, h => by simp at h
  | _ :: _, [], _, _, h, _ => h.elim
  | u :: us, y :: ys, 0, q, h, hk => by
    simp at hk; subst hk; exact ⟨y, by simp, h.1, h.2.1⟩
  | u :: us, y :: ys, k + 1, q, h, hk => by
    simp at hk; obtain ⟨x, h1, h2⟩ := sx_b_at h.2.2 hk; exact ⟨x, by simpa using h1, h2⟩
/-- the least that a sum can be within the bounds, and the most -/
def sx_lod : List Int → List (Int × Int) → Int
  | c :: cs, q :: B => (if 0 ≤ c then c * q.1 else c * q.2) + sx_lod cs B
  | [], _ => 0
  | _ :: _, [] => 0
def sx_hid : List Int → List (Int × Int) → Int
  | c :: cs, q :: B => (if 0 ≤ c then c * q.2 else c * q.1) + sx_hid cs B
  | [], _ => 0
  | _ :: _, [] => 0
theorem sx_mle {c a b : Int} (hc : 0 ≤ c) (h : a ≤ b) : c * a ≤ c * b := Int.mul_le_mul_of_nonneg_left h hc
theorem sx_mge {c a b : Int} (hc : ¬ 0 ≤ c) (h : a ≤ b) : c * b ≤ c * a := Int.mul_le_mul_of_nonpos_left (by omega) h
theorem sx_lod_ok : ∀ (cs : List Int) (B : List (Int × Int)) (r : List Int), sx_b B r → sx_lod cs B ≤ sx_dot cs r
  | [], B, r, _ => by rw [sx_dot_nil]; cases B <;> exact Int.le_refl _
  | c :: cs, [], [], _ => by simp [sx_lod, sx_dot]
  | c :: cs, [], _ :: _, h => h.elim
  | c :: cs, _ :: _, [], h => h.elim
  | c :: cs, q :: B, x :: r, h => by
    have ih := sx_lod_ok cs B r h.2.2
    simp only [sx_lod, sx_dot]
    split
    · next hc => have := sx_mle hc h.1; omega
    · next hc => have := sx_mge hc h.2.1; omega
theorem sx_hid_ok : ∀ (cs : List Int) (B : List (Int × Int)) (r : List Int), sx_b B r → sx_dot cs r ≤ sx_hid cs B
  | [], B, r, _ => by rw [sx_dot_nil]; cases B <;> exact Int.le_refl _
  | c :: cs, [], [], _ => by simp [sx_hid, sx_dot]
  | c :: cs, [], _ :: _, h => h.elim
  | c :: cs, _ :: _, [], h => h.elim
  | c :: cs, q :: B, x :: r, h => by
    have ih := sx_hid_ok cs B r h.2.2
    simp only [sx_hid, sx_dot]
    split
    · next hc => have := sx_mle hc h.2.1; omega
    · next hc => have := sx_mge hc h.1; omega
def sx_lo (f : List Int) (B : List (Int × Int)) : Int := match f with
  | [] => 0
  | c :: cs => c + sx_lod cs B
def sx_hi (f : List Int) (B : List (Int × Int)) : Int := match f with
  | [] => 0
  | c :: cs => c + sx_hid cs B
theorem sx_lo_ok {f : List Int} {B : List (Int × Int)} {r : List Int} (h : sx_b B r) : sx_lo f B ≤ sx_ev f r := by
  cases f with
  | nil => exact Int.le_refl _
  | cons c cs =>
    have := sx_lod_ok cs B r h
    simp only [sx_lo, sx_ev]
    omega
theorem sx_hi_ok {f : List Int} {B : List (Int × Int)} {r : List Int} (h : sx_b B r) : sx_ev f r ≤ sx_hi f B := by
  cases f with
  | nil => exact Int.le_refl _
  | cons c cs =>
    have := sx_hid_ok cs B r h
    simp only [sx_hi, sx_ev]
    omega
/-- a sum that is not below 0 draws the bounds closer: U is the most that it can be -/
def sx_pr : List Int → List (Int × Int) → Int → List (Int × Int)
  | c :: cs, q :: B, U => (if 0 < c then (max q.1 (q.2 - U / c), q.2) else if c < 0 then (q.1, min q.2 (q.1 + U / (-c))) else q) :: sx_pr cs B U
  | [], B, _ => B
  | _ :: _, [], _ => []
theorem sx_pr_ok : ∀ (cs : List Int) (B : List (Int × Int)) (r : List Int) (U : Int), sx_b B r → sx_hid cs B - sx_dot cs r ≤ U → sx_b (sx_pr cs B U) r
  | [], B, r, U, h, _ => by cases B <;> exact h
  | c :: cs, [], r, U, h, _ => h
  | c :: cs, _ :: _, [], U, h, _ => h.elim
  | c :: cs, q :: B, x :: r, U, h, hu => by
    have ht := sx_hid_ok cs B r h.2.2
    simp only [sx_hid, sx_dot] at hu
    have ih : sx_hid cs B - sx_dot cs r ≤ U := by
      split at hu
      · next hc => have := sx_mle hc h.2.1; omega
      · next hc => have := sx_mge hc h.1; omega
    refine ⟨?_, ?_, sx_pr_ok cs B r U h.2.2 ih⟩
    · split
      · next hc =>
        rw [if_pos (by omega)] at hu
        have e : (q.2 - x) * c ≤ U := by rw [Int.mul_comm, Int.mul_sub]; omega
        have := (Int.le_ediv_iff_mul_le hc).mpr e
        show max q.1 (q.2 - U / c) ≤ x
        have := h.1
        omega
      · split
        · exact h.1
        · exact h.1
    · split
      · exact h.2.1
      · split
        · next hc0 hc =>
          rw [if_neg (by omega)] at hu
          have e : (x - q.1) * (-c) ≤ U := by rw [Int.mul_comm, Int.mul_sub, Int.neg_mul, Int.neg_mul]; omega
          have := (Int.le_ediv_iff_mul_le (show 0 < -c by omega)).mpr e
          show x ≤ min q.2 (q.1 + U / (-c))
          have := h.2.1
          omega
        · exact h.2.1
/-- bounds that leave nothing -/
def sx_no : List (Int × Int) → Bool
  | [] => false
  | q :: B => decide (q.2 < q.1) || sx_no B
theorem sx_no_r : ∀ {B : List (Int × Int)} {r : List Int}, sx_b B r → sx_no B = false
  | [], [], _ => rfl
  | q :: B, x :: r, h => by
    have h1 := h.1
    have h2 := h.2.1
    simp only [sx_no, sx_no_r h.2.2, Bool.or_false, decide_eq_false_iff_not]
    omega
  | [], _ :: _, h => h.elim
  | _ :: _, [], h => h.elim
/-- how many numbers a sum has -/
def sx_ct : List Int → Nat
  | [] => 0
  | c :: cs => (if c = 0 then 0 else 1) + sx_ct cs
def sx_fs (F : List (List Int)) (r : List Int) : Prop := ∀ f ∈ F, 0 ≤ sx_ev f r
/-- what is known with one sum more -/
def sx_know (B : List (Int × Int)) (F : List (List Int)) (f : List Int) : List (Int × Int) × List (List Int) :=
  (sx_pr f.tail B (sx_hi f B), if sx_ct f.tail ≤ 1 then F else F ++ [f])
theorem sx_know_ok {B : List (Int × Int)} {F : List (List Int)} {f r : List Int} (hb : sx_b B r) (hf : sx_fs F r) (h : 0 ≤ sx_ev f r) : sx_b (sx_know B F f).1 r ∧ sx_fs (sx_know B F f).2 r := by
  constructor
  · apply sx_pr_ok _ _ _ _ hb
    cases f with
    | nil =>
      show sx_hid [] B - sx_dot [] r ≤ 0
      rw [sx_dot_nil]
      cases B <;> exact Int.le_refl _
    | cons c cs =>
      simp only [sx_ev] at h
      simp only [List.tail_cons, sx_hi]
      omega
  · intro g hg
    simp only [sx_know] at hg
    split at hg
    · exact hf g hg
    · rcases List.mem_append.mp hg with hg | hg
      · exact hf g hg
      · rw [List.mem_singleton.mp hg]
        exact h
/-- the form, less some of the known sums, as often as told -/
def sx_less (F : List (List Int)) : List (List Int) → List Int → List Int
  | [k, n] :: hs, f => (match F[k.toNat]? with
    | some g => if 0 ≤ n then sx_less F hs (sx_sub f (sx_mul n g)) else f
    | none => f)
  | _, f => f
theorem sx_less_ok {F : List (List Int)} {r : List Int} (hF : sx_fs F r) : ∀ (hs : List (List Int)) (f : List Int), sx_ev (sx_less F hs f) r ≤ sx_ev f r
  | [k, n] :: hs, f => by
    simp only [sx_less]
    split
    · next g hg =>
      split
      · next hn =>
        have h1 := sx_less_ok hF hs (sx_sub f (sx_mul n g))
        rw [sx_ev_sub, sx_ev_mul] at h1
        have h2 := hF g (List.mem_of_getElem? hg)
        have h3 := Int.mul_nonneg hn h2
        omega
      · exact Int.le_refl _
    · exact Int.le_refl _
  | [], f => Int.le_refl _
  | [] :: _, f => Int.le_refl _
  | [_] :: _, f => Int.le_refl _
  | (_ :: _ :: _ :: _) :: _, f => Int.le_refl _
/-- a form is not below 0: by the bounds alone, or by the next hint -/
def sx_pos (B : List (Int × Int)) (F : List (List Int)) (f : List Int) (hs : List (List (List Int))) : Option (List (List (List Int))) :=
  if 0 ≤ sx_lo f B then some hs else match hs with
  | ([k, g] :: h) :: hs => if k = -1 then (if 0 < g ∧ 0 ≤ sx_lo (sx_less F h (sx_add (sx_mul g f) [g - 1])) B then some hs else none) else (if 0 ≤ sx_lo (sx_less F ([k, g] :: h) f) B then some hs else none)
  | _ => none
theorem sx_scale {g v : Int} (hg : 0 < g) (h : 0 ≤ g * v + (g - 1)) : 0 ≤ v := by
  rcases Int.lt_or_le v 0 with hv | hv
  · have h1 : v ≤ -1 := by omega
    have h2 := Int.mul_le_mul_of_nonneg_left h1 (Int.le_of_lt hg)
    rw [Int.mul_neg, Int.mul_one] at h2
    omega
  · exact hv
theorem sx_pos_ok {B : List (Int × Int)} {F : List (List Int)} {f r : List Int} {hs hs' : List (List (List Int))} (hb : sx_b B r) (hF : sx_fs F r) (h : sx_pos B F f hs = some hs') : 0 ≤ sx_ev f r := by
  unfold sx_pos at h
  split at h
  · have := sx_lo_ok (f := f) hb
    omega
  · split at h
    · next k g t ts =>
      split at h
      · split at h
        · next hc =>
          have h1 := sx_lo_ok (f := sx_less F t (sx_add (sx_mul g f) [g - 1])) hb
          have h2 := sx_less_ok hF t (sx_add (sx_mul g f) [g - 1])
          rw [sx_ev_add, sx_ev_mul, sx_ev_c] at h2
          exact sx_scale hc.1 (by omega)
        · cases h
      · split at h
        · have h1 := sx_lo_ok (f := sx_less F ([k, g] :: t) f) hb
          have h2 := sx_less_ok hF ([k, g] :: t) f
          omega
        · cases h
    · cases h
/-- all of them are not below 0 -/
def sx_posA (B : List (Int × Int)) (F : List (List Int)) : List (List Int) → List (List (List Int)) → Option (List (List (List Int)))
  | [], hs => some hs
  | f :: fs, hs => (match sx_pos B F f hs with
    | some hs1 => sx_posA B F fs hs1
    | none => none)
theorem sx_posA_ok {B : List (Int × Int)} {F : List (List Int)} {r : List Int} (hb : sx_b B r) (hF : sx_fs F r) : ∀ (fs : List (List Int)) (hs hs' : List (List (List Int))), sx_posA B F fs hs = some hs' → sx_fs fs r
  | [], _, _, _ => fun _ h => by cases h
  | f :: fs, hs, hs', h => by
    simp only [sx_posA] at h
    split at h
    · next hs1 h1 =>
      intro g hg
      rcases List.mem_cons.mp hg with rfl | hg
      · exact sx_pos_ok hb hF h1
      · exact sx_posA_ok hb hF fs hs1 hs' h g hg
    · cases h
/-- a form of forms -/
def sx_std : List Int → List (List Int) → List Int
  | c :: cs, s :: ss => sx_add (sx_mul c s) (sx_std cs ss)
  | [], _ => []
  | _ :: _, [] => []
def sx_st (f : List Int) (ss : List (List Int)) : List Int := match f with
  | [] => []
  | c :: cs => sx_add [c] (sx_std cs ss)
theorem sx_ev_nil (r : List Int) : sx_ev [] r = 0 := rfl
theorem sx_std_ok (r : List Int) : ∀ (cs : List Int) (ss : List (List Int)), sx_ev (sx_std cs ss) r = sx_dot cs (ss.map (sx_ev · r))
  | [], ss => by rw [sx_dot_nil]; cases ss <;> rfl
  | c :: cs, [] => rfl
  | c :: cs, s :: ss => by
    simp only [sx_std, sx_ev_add, sx_ev_mul, List.map_cons, sx_dot, sx_std_ok r cs ss]
theorem sx_st_ok (r f : List Int) (ss : List (List Int)) : sx_ev (sx_st f ss) r = sx_ev f (ss.map (sx_ev · r)) := by
  cases f with
  | nil => rfl
  | cons c cs =>
    simp only [sx_st, sx_ev_add, sx_ev_c, sx_std_ok]
    rfl
/-- two forms are one -/
def sx_zero : List Int → Bool
  | [] => true
  | c :: cs => decide (c = 0) && sx_zero cs
theorem sx_zero_d : ∀ {f : List Int} (r : List Int), sx_zero f = true → sx_dot f r = 0
  | [], r, _ => sx_dot_nil r
  | c :: cs, [], _ => rfl
  | c :: cs, x :: r, h => by
    simp only [sx_zero, Bool.and_eq_true, decide_eq_true_eq] at h
    simp only [sx_dot, sx_zero_d r h.2, h.1]
    omega
def sx_eq (f g : List Int) : Bool := sx_zero (sx_sub f g)
theorem sx_eq_ok {f g : List Int} (r : List Int) (h : sx_eq f g = true) : sx_ev f r = sx_ev g r := by
  have h1 := sx_ev_sub f g r
  unfold sx_eq at h
  have h2 : sx_ev (sx_sub f g) r = 0 := by
    cases hf : sx_sub f g with
    | nil => rfl
    | cons c cs =>
      rw [hf] at h
      simp only [sx_zero, Bool.and_eq_true, decide_eq_true_eq] at h
      simp only [sx_ev, sx_zero_d r h.2, h.1]
      omega
  omega
/-- a number that a form is, if it is one -/
def sx_cn : List Int → Option Int
  | [] => some 0
  | c :: cs => if sx_zero cs then some c else none
theorem sx_cn_ok {f : List Int} {k : Int} (h : sx_cn f = some k) (r : List Int) : sx_ev f r = k := by
  cases f with
  | nil => exact (Option.some.inj h)
  | cons c cs =>
    simp only [sx_cn] at h
    split at h
    · next hz =>
      have := Option.some.inj h
      simp only [sx_ev, sx_zero_d r hz]
      omega
    · cases h
