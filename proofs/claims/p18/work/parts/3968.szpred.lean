/-! Predicates of the heap and their rules. Written by a program (wip/eng/gen445.py). -/
/-- sessions: who runs for which, who waits, who owns -/
def zJa (hh : sx_H) : Prop := ∀ s i : Int, 0 ≤ s → s ≤ 16 → 0 ≤ i → i < hh 88 s 6 → hh 87 (hh 14 s i) 13 = s - 1 ∧ hh 87 (hh 14 s i) 6 = 1
def zJb (hh : sx_H) : Prop := ∀ s i j : Int, 0 ≤ s → s ≤ 16 → 0 ≤ i → i < j → j < hh 88 s 6 → ¬ hh 14 s i = hh 14 s j
def zJc (hh : sx_H) : Prop := ∀ s i : Int, 0 ≤ s → s ≤ 16 → 0 ≤ i → i + 1 < hh 88 s 6 → hh 87 (hh 14 s i) 15 ≤ 62
def zJcz (z : Int) (hh : sx_H) : Prop := ∀ s i : Int, 0 ≤ s → s ≤ 16 → 0 ≤ i → i + 1 < hh 88 s 6 → ¬ hh 14 s i = z → hh 87 (hh 14 s i) 15 ≤ 62
def zJd (hh : sx_H) : Prop := ∀ s : Int, 0 ≤ s → s ≤ 16 → hh 88 s 2 = 1 → hh 87 (hh 88 s 3) 6 = 1
def zJdt (t : Int) (hh : sx_H) : Prop := ∀ s : Int, 0 ≤ s → s ≤ 16 → ¬ s = t → hh 88 s 2 = 1 → hh 87 (hh 88 s 3) 6 = 1
def zJe (hh : sx_H) : Prop := ∀ s : Int, 0 ≤ s → s ≤ 16 → 0 < hh 88 s 6 → hh 88 s 2 = 1
def zJg (hh : sx_H) : Prop := hh 88 0 6 = 0 ∧ ¬ hh 88 0 2 = 1
def zJS (hh : sx_H) : Prop := zJa hh ∧ zJb hh ∧ zJc hh ∧ zJd hh ∧ zJe hh ∧ zJg hh
def zJE (z : Int) (hh : sx_H) : Prop := zJa hh ∧ zJb hh ∧ zJcz z hh ∧ zJd hh ∧ zJe hh ∧ zJg hh
def zJO (t : Int) (hh : sx_H) : Prop := zJa hh ∧ zJb hh ∧ zJc hh ∧ zJdt t hh ∧ zJe hh ∧ zJg hh
/-- the applet z does not wait -/
def zNW (z : Int) (hh : sx_H) : Prop := ∀ s i : Int, 0 ≤ s → s ≤ 16 → 0 ≤ i → i < hh 88 s 6 → hh 14 s i = z → i + 1 = hh 88 s 6
def zTP (s z : Int) (hh : sx_H) : Prop := 1 ≤ hh 88 s 6 ∧ hh 14 s (hh 88 s 6 - 1) = z
def zJF (x : Int) (hh : sx_H) : Prop := ∀ s i : Int, 0 ≤ s → s ≤ 16 → 0 ≤ i → i < hh 88 s 6 → ¬ hh 14 s i = x
def zJL (s q : Int) (hh : sx_H) : Prop := zJF (hh 14 s q) hh
def zJD (s : Int) (hh : sx_H) : Prop := 1 ≤ hh 88 s 6 → hh 87 (hh 14 s (hh 88 s 6 - 1)) 15 ≤ 62
def zJV (x i : Int) (hh : sx_H) : Prop := ∀ s : Int, 0 ≤ s → s ≤ i → hh 88 s 2 = 1 → ¬ hh 88 s 3 = x
def zJX (x : Int) (hh : sx_H) : Prop := hh 87 x 13 = -1 ∨ hh 88 (hh 87 x 13 + 1) 3 = x
def zJW (i : Int) (hh : sx_H) : Prop := ∀ s : Int, 0 ≤ s → s ≤ i → ¬ hh 88 s 2 = 1
/-- an applet that is in has at most 8 pages and commands -/
def zJA (hh : sx_H) : Prop := ∀ z : Int, hh 87 z 6 = 1 → hh 87 z 8 ≤ 8 ∧ hh 87 z 12 ≤ 8
def zPCB (z : Int) (hh : sx_H) : Prop := hh 87 z 8 ≤ 8
def zNI (u y : Int) (hh : sx_H) : Prop := ∀ j : Int, 0 ≤ j → j < y → hh 87 j 6 = 0 ∨ ¬ hh 87 j 4 = u
/-- parameters that are rows of bytes -/
def zPS (hh : sx_H) : Prop := ∀ s k : Int, 4 ≤ hh 15 s k → 0 ≤ hh 17 s k ∧ hh 17 s k ≤ 256 ∧ (1 ≤ hh 17 s k → 0 ≤ hh 16 s k ∧ hh 16 s k + hh 17 s k ≤ 8192)
def zPX (s' k' : Int) (hh : sx_H) : Prop := ∀ s k : Int, ¬ (s = s' ∧ k = k') → 4 ≤ hh 15 s k → 0 ≤ hh 17 s k ∧ hh 17 s k ≤ 256 ∧ (1 ≤ hh 17 s k → 0 ≤ hh 16 s k ∧ hh 16 s k + hh 17 s k ≤ 8192)
/-- a block that is an OBJECT has at most 512 bytes -/
def zOB (b : Int) (hh : sx_H) : Prop := 0 ≤ hh 20 b 18 ∧ (hh 20 b 18 ≤ 1 ∨ (hh 20 b 18 = 2 ∧ hh 20 b 19 = 0))
def zFO (hh : sx_H) : Prop := ∀ b : Int, hh 26 0 b = 2 → zOB b hh
def zFX (t : Int) (hh : sx_H) : Prop := ∀ b : Int, ¬ b = t → hh 26 0 b = 2 → zOB b hh
/-- pages that are free, counted -/
def zcf (g : Int → Int) : Nat → Int
  | 0 => 0
  | n + 1 => zcf g n + (if g (n : Int) = 1 then 1 else 0)
def zCF (j e : Int) (hh : sx_H) : Prop := e ≤ zcf (hh 1 0) j.toNat
def zNF (j : Int) (hh : sx_H) : Prop := ∀ i : Int, 0 ≤ i → i < j → ¬ hh 1 0 i = 1
theorem zcf_ext (g g' : Int → Int) : ∀ n : Nat, (∀ i : Int, 0 ≤ i → i < n → g' i = g i) → zcf g' n = zcf g n
  | 0, _ => rfl
  | n + 1, h => by
    simp only [zcf]
    rw [zcf_ext g g' n (fun i a b => h i a (by omega)), h n (by omega) (by omega)]
theorem zcf_up (g g' : Int → Int) (b : Int) : ∀ n : Nat, (∀ i : Int, ¬ i = b → g' i = g i) → zcf g n - 1 ≤ zcf g' n
  | 0, _ => by simp [zcf]
  | n + 1, h => by
    simp only [zcf]
    by_cases hb : (n : Int) = b
    · rw [zcf_ext g g' n (fun i a c => h i (by omega))]
      split <;> split <;> omega
    · have := zcf_up g g' b n h
      rw [h n hb]
      omega
theorem zcf_none (g : Int → Int) : ∀ n : Nat, (∀ i : Int, 0 ≤ i → i < n → ¬ g i = 1) → zcf g n = 0
  | 0, _ => rfl
  | n + 1, h => by
    simp only [zcf]
    rw [zcf_none g n (fun i a b => h i a (by omega)), if_neg (h n (by omega) (by omega))]
    rfl
def sz_pr (id : Nat) (a : List Int) (hh : sx_H) : Prop := match id, a with
  | 0, [] => zJS hh
  | 1, [x0] => zNW x0 hh
  | 2, [x0, x1] => zTP x0 x1 hh
  | 3, [x0] => zJF x0 hh
  | 4, [x0, x1] => zJL x0 x1 hh
  | 5, [x0] => zJD x0 hh
  | 6, [x0] => zJE x0 hh
  | 7, [x0] => zJO x0 hh
  | 8, [x0, x1] => zJV x0 x1 hh
  | 9, [x0] => zJX x0 hh
  | 10, [x0] => zJW x0 hh
  | 11, [] => zJA hh
  | 12, [x0] => zPCB x0 hh
  | 13, [x0, x1] => zNI x0 x1 hh
  | 14, [] => zPS hh
  | 15, [x0, x1] => zPX x0 x1 hh
  | 16, [] => zFO hh
  | 17, [x0] => zFX x0 hh
  | 18, [x0] => zOB x0 hh
  | 19, [x0, x1] => zCF x0 x1 hh
  | 20, [x0] => zNF x0 hh
  | _, _ => False
def sz_su : Nat → List (Nat × Nat)
  | 0 => [(87, 6), (87, 13), (87, 15), (88, 2), (88, 3), (88, 6), (14, 999)]
  | 1 => [(88, 6), (14, 999)]
  | 2 => [(88, 6), (14, 999)]
  | 3 => [(88, 6), (14, 999)]
  | 4 => [(88, 6), (14, 999)]
  | 5 => [(88, 6), (14, 999), (87, 15)]
  | 6 => [(87, 6), (87, 13), (87, 15), (88, 2), (88, 3), (88, 6), (14, 999)]
  | 7 => [(87, 6), (87, 13), (87, 15), (88, 2), (88, 3), (88, 6), (14, 999)]
  | 8 => [(88, 2), (88, 3)]
  | 9 => [(87, 13), (88, 3)]
  | 10 => [(88, 2)]
  | 11 => [(87, 6), (87, 8), (87, 12)]
  | 12 => [(87, 8)]
  | 13 => [(87, 6), (87, 4)]
  | 14 => [(15, 999), (16, 999), (17, 999)]
  | 15 => [(15, 999), (16, 999), (17, 999)]
  | 16 => [(26, 999), (20, 999)]
  | 17 => [(26, 999), (20, 999)]
  | 18 => [(20, 999)]
  | 19 => [(1, 999)]
  | 20 => [(1, 999)]
  | _ => []
theorem sz_bc {q : Int × Int} {B : List (Int × Int)} {r : List Int} (h : sx_b (q :: B) r) : ∃ x r', r = x :: r' ∧ q.1 ≤ x ∧ x ≤ q.2 ∧ sx_b B r' := by
  cases r with
  | nil => exact h.elim
  | cons x r' => exact ⟨x, r', rfl, h⟩
theorem sz_bn {r : List Int} (h : sx_b [] r) : r = [] := by
  cases r with
  | nil => rfl
  | cons x r' => exact h.elim
theorem sz_w0 {r : List Int} {hh hh' : sx_H} {K : Nat} {i f v : List Int} (h : sx_wl r hh hh' (0, K, i, f, v)) : hh' = hh := by
  rcases h with ⟨-, h⟩ | ⟨h, -⟩ | ⟨h, -⟩
  · exact h
  · cases h
  · cases h
theorem sz_w1 {r : List Int} {hh hh' : sx_H} {K : Nat} {i f v : List Int} (h : sx_wl r hh hh' (1, K, i, f, v)) : ∀ (k : Nat) (c g : Int), hh' k c g = if k = K ∧ c = sx_ev i r ∧ g = sx_ev f r then sx_ev v r else hh k c g := by
  rcases h with ⟨h, -⟩ | ⟨-, h⟩ | ⟨h, -⟩
  · cases h
  · intro k c g
    rw [h]
    unfold sx_up
    dsimp only
    by_cases h1 : k = K ∧ c = sx_ev i r
    · rw [if_pos h1]
      obtain ⟨rfl, rfl⟩ := h1
      by_cases h2 : g = sx_ev f r
      · rw [if_pos h2, if_pos ⟨rfl, rfl, h2⟩]
      · rw [if_neg h2, if_neg (fun q => h2 q.2.2)]
    · rw [if_neg h1, if_neg (fun q => h1 ⟨q.1, q.2.1⟩)]
  · cases h
theorem sz_w2 {r : List Int} {hh hh' : sx_H} {K : Nat} {i f v : List Int} (h : sx_wl r hh hh' (2, K, i, f, v)) : ∀ (k : Nat) (c g : Int), ¬ (k = K ∧ c = sx_ev i r) → hh' k c g = hh k c g := by
  rcases h with ⟨h, -⟩ | ⟨h, -⟩ | ⟨-, q, h⟩
  · cases h
  · cases h
  · intro k c g hn
    rw [h, sx_up_n hn]
theorem zs_tp {hh : sx_H} {x0 x1 x2 : Int} (l0 : 0 ≤ x0) (u0 : x0 ≤ 16) (l1 : 0 ≤ x1) (u1 : x1 ≤ 4) (l2 : 0 ≤ x2) (u2 : x2 ≤ 7) (f0 : 0 ≤ x1 - 1) (g0 : hh 88 x0 6 = x1) (g1 : hh 14 x0 (x1 - 1) = x2) (p0 : zJS hh) : zTP x0 x2 hh ∧ zNW x2 hh := by
  grind [zNW, zTP, zJF, zJL, zJD, zJV, zJX, zJW, zJA, zPCB, zNI, zPS, zPX, zOB, zFO, zFX, zNF, zJS, zJE, zJO, zJa, zJb, zJc, zJcz, zJd, zJdt, zJe, zJg]
def sz_u0 : sx_Ru := ([(0, 16), (0, 4), (0, 7)], [[-1, 0, 1]], ([(88, [0, 1], [6], [0, 0, 1]), (14, [0, 1], [-1, 0, 1], [0, 0, 0, 1])], [(0, [])]), (0, 0, [], [], []), [], [(2, [[0, 1], [0, 0, 0, 1]]), (1, [[0, 0, 0, 1]])])
theorem zs_tp_r {hh : sx_H} {x0 x1 x2 : Int} (l0 : 0 ≤ x0) (u0 : x0 ≤ 16) (l1 : 0 ≤ x1) (u1 : x1 ≤ 7) (l2 : 0 ≤ x2) (u2 : x2 ≤ 4) (g0 : hh 88 x0 6 = x2) (p0 : zTP x0 x1 hh) : 0 ≤ x2 - 1 := by
  grind [zNW, zTP, zJF, zJL, zJD, zJV, zJX, zJW, zJA, zPCB, zNI, zPS, zPX, zOB, zFO, zFX, zNF, zJS, zJE, zJO, zJa, zJb, zJc, zJcz, zJd, zJdt, zJe, zJg]
def sz_u1 : sx_Ru := ([(0, 16), (0, 7), (0, 4)], [], ([(88, [0, 1], [6], [0, 0, 0, 1])], [(2, [[0, 1], [0, 0, 1]])]), (0, 0, [], [], []), [[-1, 0, 0, 1]], [])
theorem zs_pcb {hh : sx_H} {x0 x1 : Int} (l0 : 0 ≤ x0) (u0 : x0 ≤ 16) (l1 : 0 ≤ x1) (u1 : x1 ≤ 7) (p0 : zJS hh) (p1 : zJA hh) (p2 : zTP x0 x1 hh) : zPCB x1 hh := by
  grind [zNW, zTP, zJF, zJL, zJD, zJV, zJX, zJW, zJA, zPCB, zNI, zPS, zPX, zOB, zFO, zFX, zNF, zJS, zJE, zJO, zJa, zJb, zJc, zJcz, zJd, zJdt, zJe, zJg]
def sz_u2 : sx_Ru := ([(0, 16), (0, 7)], [], ([], [(0, []), (11, []), (2, [[0, 1], [0, 0, 1]])]), (0, 0, [], [], []), [], [(12, [[0, 0, 1]])])
theorem zs_spos {hh : sx_H} {x0 x1 : Int} (l0 : 0 ≤ x0) (u0 : x0 ≤ 16) (l1 : 0 ≤ x1) (u1 : x1 ≤ 4) (f0 : 0 ≤ x1 - 1) (g0 : hh 88 x0 6 = x1) (p0 : zJS hh) : 0 ≤ x0 - 1 := by
  grind [zNW, zTP, zJF, zJL, zJD, zJV, zJX, zJW, zJA, zPCB, zNI, zPS, zPX, zOB, zFO, zFX, zNF, zJS, zJE, zJO, zJa, zJb, zJc, zJcz, zJd, zJdt, zJe, zJg]
def sz_u3 : sx_Ru := ([(0, 16), (0, 4)], [[-1, 0, 1]], ([(88, [0, 1], [6], [0, 0, 1])], [(0, [])]), (0, 0, [], [], []), [[-1, 1]], [])
theorem zs_w_dep {hh hh' : sx_H} {x0 x1 : Int} (l0 : 0 ≤ x0) (u0 : x0 ≤ 7) (l1 : -2147483648 ≤ x1) (u1 : x1 ≤ 2147483647) (p0 : zJS hh) (p1 : zNW x0 hh) (a0 : ∀ c : Int, hh' 87 c 6 = hh 87 c 6) (a1 : ∀ c : Int, hh' 87 c 13 = hh 87 c 13) (a2 : ∀ c : Int, hh' 87 c 15 = if c = x0 then x1 else hh 87 c 15) (a3 : ∀ c : Int, hh' 88 c 2 = hh 88 c 2) (a4 : ∀ c : Int, hh' 88 c 3 = hh 88 c 3) (a5 : ∀ c : Int, hh' 88 c 6 = hh 88 c 6) (a6 : ∀ c g : Int, hh' 14 c g = hh 14 c g) : zJS hh' := by
  obtain ⟨pa, pb, pc, pd, pe, pg⟩ := p0
  refine ⟨?_, ?_, ?_, ?_, ?_, ?_⟩
  · intro s i h1 h2 h3 h4
    rw [a5] at h4
    rw [a6, a1, a0]
    exact pa s i h1 h2 h3 h4
  · intro s i j h1 h2 h3 h4 h5
    rw [a5] at h5
    rw [a6, a6]
    exact pb s i j h1 h2 h3 h4 h5
  · intro s i h1 h2 h3 h4
    rw [a5] at h4
    rw [a6, a2]
    split
    · next h =>
      have := p1 s i h1 h2 h3 (by omega) h
      omega
    · exact pc s i h1 h2 h3 h4
  · intro s h1 h2 h3
    rw [a3] at h3
    rw [a4, a0]
    exact pd s h1 h2 h3
  · intro s h1 h2 h3
    rw [a5] at h3
    rw [a3]
    exact pe s h1 h2 h3
  · exact ⟨by rw [a5]; exact pg.1, by rw [a3]; exact pg.2⟩
def sz_u4 : sx_Ru := ([(0, 7), (-2147483648, 2147483647)], [], ([], [(0, []), (1, [[0, 1]])]), (1, 87, [0, 1], [15], [0, 0, 1]), [], [(0, [])])
theorem zs_jf_ses {hh : sx_H} {x0 x1 : Int} (l0 : 0 ≤ x0) (u0 : x0 ≤ 7) (l1 : -1 ≤ x1) (u1 : x1 ≤ -1) (g0 : hh 87 x0 13 = x1) (p0 : zJS hh) : zJF x0 hh ∧ zNW x0 hh := by
  grind [zNW, zTP, zJF, zJL, zJD, zJV, zJX, zJW, zJA, zPCB, zNI, zPS, zPX, zOB, zFO, zFX, zNF, zJS, zJE, zJO, zJa, zJb, zJc, zJcz, zJd, zJdt, zJe, zJg]
def sz_u5 : sx_Ru := ([(0, 7), (-1, -1)], [], ([(87, [0, 1], [13], [0, 0, 1])], [(0, [])]), (0, 0, [], [], []), [], [(3, [[0, 1]]), (1, [[0, 1]])])
theorem zs_jf_in {hh : sx_H} {x0 x1 : Int} (l0 : 0 ≤ x0) (u0 : x0 ≤ 7) (l1 : 0 ≤ x1) (u1 : x1 ≤ 0) (g0 : hh 87 x0 6 = x1) (p0 : zJS hh) : zJF x0 hh := by
  grind [zNW, zTP, zJF, zJL, zJD, zJV, zJX, zJW, zJA, zPCB, zNI, zPS, zPX, zOB, zFO, zFX, zNF, zJS, zJE, zJO, zJa, zJb, zJc, zJcz, zJd, zJdt, zJe, zJg]
def sz_u6 : sx_Ru := ([(0, 7), (0, 0)], [], ([(87, [0, 1], [6], [0, 0, 1])], [(0, [])]), (0, 0, [], [], []), [], [(3, [[0, 1]])])
theorem zs_w_ses {hh hh' : sx_H} {x0 x1 : Int} (l0 : 0 ≤ x0) (u0 : x0 ≤ 7) (l1 : -2147483648 ≤ x1) (u1 : x1 ≤ 2147483647) (p0 : zJS hh) (p1 : zJF x0 hh) (a0 : ∀ c : Int, hh' 87 c 6 = hh 87 c 6) (a1 : ∀ c : Int, hh' 87 c 13 = if c = x0 then x1 else hh 87 c 13) (a2 : ∀ c : Int, hh' 87 c 15 = hh 87 c 15) (a3 : ∀ c : Int, hh' 88 c 2 = hh 88 c 2) (a4 : ∀ c : Int, hh' 88 c 3 = hh 88 c 3) (a5 : ∀ c : Int, hh' 88 c 6 = hh 88 c 6) (a6 : ∀ c g : Int, hh' 14 c g = hh 14 c g) : zJS hh' := by
  grind [zNW, zTP, zJF, zJL, zJD, zJV, zJX, zJW, zJA, zPCB, zNI, zPS, zPX, zOB, zFO, zFX, zNF, zJS, zJE, zJO, zJa, zJb, zJc, zJcz, zJd, zJdt, zJe, zJg]
def sz_u7 : sx_Ru := ([(0, 7), (-2147483648, 2147483647)], [], ([], [(0, []), (3, [[0, 1]])]), (1, 87, [0, 1], [13], [0, 0, 1]), [], [(0, [])])
theorem zs_w_chain {hh hh' : sx_H} {x0 x1 x2 x3 : Int} (l0 : 0 ≤ x0) (u0 : x0 ≤ 16) (l1 : 0 ≤ x1) (u1 : x1 ≤ 4) (l2 : 0 ≤ x2) (u2 : x2 ≤ 7) (l3 : -2147483648 ≤ x3) (u3 : x3 ≤ 2147483647) (g0 : hh 88 x0 6 = x1) (p0 : zJS hh) (p1 : zJF x2 hh) (a0 : ∀ c : Int, hh' 87 c 6 = hh 87 c 6) (a1 : ∀ c : Int, hh' 87 c 13 = hh 87 c 13) (a2 : ∀ c : Int, hh' 87 c 15 = hh 87 c 15) (a3 : ∀ c : Int, hh' 88 c 2 = hh 88 c 2) (a4 : ∀ c : Int, hh' 88 c 3 = hh 88 c 3) (a5 : ∀ c : Int, hh' 88 c 6 = hh 88 c 6) (a6 : ∀ c g : Int, hh' 14 c g = if c = x0 ∧ g = x1 then x3 else hh 14 c g) : zJS hh' ∧ zJF x2 hh' := by
  obtain ⟨pa, pb, pc, pd, pe, pg⟩ := p0
  have hC : ∀ s i : Int, i < hh 88 s 6 → hh' 14 s i = hh 14 s i := fun s i h => by
    rw [a6]
    refine if_neg (fun q => ?_)
    obtain ⟨e1, e2⟩ := q
    subst e1
    omega
  refine ⟨⟨?_, ?_, ?_, ?_, ?_, ?_⟩, ?_⟩
  · intro s i h1 h2 h3 h4
    rw [a5] at h4
    rw [hC s i h4, a1, a0]
    exact pa s i h1 h2 h3 h4
  · intro s i j h1 h2 h3 h4 h5
    rw [a5] at h5
    rw [hC s i (by omega), hC s j h5]
    exact pb s i j h1 h2 h3 h4 h5
  · intro s i h1 h2 h3 h4
    rw [a5] at h4
    rw [hC s i (by omega), a2]
    exact pc s i h1 h2 h3 h4
  · intro s h1 h2 h3
    rw [a3] at h3
    rw [a4, a0]
    exact pd s h1 h2 h3
  · intro s h1 h2 h3
    rw [a5] at h3
    rw [a3]
    exact pe s h1 h2 h3
  · exact ⟨by rw [a5]; exact pg.1, by rw [a3]; exact pg.2⟩
  · intro s i h1 h2 h3 h4
    rw [a5] at h4
    rw [hC s i h4]
    exact p1 s i h1 h2 h3 h4
def sz_u8 : sx_Ru := ([(0, 16), (0, 4), (0, 7), (-2147483648, 2147483647)], [], ([(88, [0, 1], [6], [0, 0, 1])], [(0, []), (3, [[0, 0, 0, 1]])]), (1, 14, [0, 1], [0, 0, 1], [0, 0, 0, 0, 1]), [], [(0, []), (3, [[0, 0, 0, 1]])])
theorem zs_w_chtp {hh hh' : sx_H} {x0 x1 x2 x3 : Int} (l0 : 0 ≤ x0) (u0 : x0 ≤ 16) (l1 : 0 ≤ x1) (u1 : x1 ≤ 4) (l2 : 0 ≤ x2) (u2 : x2 ≤ 7) (l3 : -2147483648 ≤ x3) (u3 : x3 ≤ 2147483647) (g0 : hh 88 x0 6 = x1) (p0 : zTP x0 x2 hh) (a0 : ∀ c : Int, hh' 88 c 6 = hh 88 c 6) (a1 : ∀ c g : Int, hh' 14 c g = if c = x0 ∧ g = x1 then x3 else hh 14 c g) : zTP x0 x2 hh' := by
  grind [zNW, zTP, zJF, zJL, zJD, zJV, zJX, zJW, zJA, zPCB, zNI, zPS, zPX, zOB, zFO, zFX, zNF, zJS, zJE, zJO, zJa, zJb, zJc, zJcz, zJd, zJdt, zJe, zJg]
def sz_u9 : sx_Ru := ([(0, 16), (0, 4), (0, 7), (-2147483648, 2147483647)], [], ([(88, [0, 1], [6], [0, 0, 1])], [(2, [[0, 1], [0, 0, 0, 1]])]), (1, 14, [0, 1], [0, 0, 1], [0, 0, 0, 0, 1]), [], [(2, [[0, 1], [0, 0, 0, 1]])])
theorem zs_w_run0 {hh hh' : sx_H} {x0 x1 x2 x3 x4 : Int} (l0 : 1 ≤ x0) (u0 : x0 ≤ 16) (l1 : 0 ≤ x1) (u1 : x1 ≤ 7) (l2 : 0 ≤ x2) (u2 : x2 ≤ 0) (l3 : 1 ≤ x3) (u3 : x3 ≤ 1) (l4 : 1 ≤ x4) (u4 : x4 ≤ 1) (g0 : hh 88 x0 6 = x2) (g1 : hh 14 x0 x2 = x1) (g2 : hh 87 x1 13 = x0 - 1) (g3 : hh 87 x1 6 = x3) (g4 : hh 88 x0 2 = x4) (p0 : zJS hh) (p1 : zJF x1 hh) (a0 : ∀ c : Int, hh' 87 c 6 = hh 87 c 6) (a1 : ∀ c : Int, hh' 87 c 13 = hh 87 c 13) (a2 : ∀ c : Int, hh' 87 c 15 = hh 87 c 15) (a3 : ∀ c : Int, hh' 88 c 2 = hh 88 c 2) (a4 : ∀ c : Int, hh' 88 c 3 = hh 88 c 3) (a5 : ∀ c : Int, hh' 88 c 6 = if c = x0 then x2 + 1 else hh 88 c 6) (a6 : ∀ c g : Int, hh' 14 c g = hh 14 c g) : zJS hh' := by
  obtain ⟨pa, pb, pc, pd, pe, pg⟩ := p0
  refine ⟨?_, ?_, ?_, ?_, ?_, ?_⟩
  · intro s i h1 h2 h3 h4
    rw [a5] at h4
    rw [a6, a1, a0]
    split at h4
    · next h =>
      subst h
      obtain rfl : i = x2 := by omega
      rw [g1]
      exact ⟨g2, by omega⟩
    · exact pa s i h1 h2 h3 h4
  · intro s i j h1 h2 h3 h4 h5
    rw [a5] at h5
    rw [a6, a6]
    split at h5
    · omega
    · exact pb s i j h1 h2 h3 h4 h5
  · intro s i h1 h2 h3 h4
    rw [a5] at h4
    rw [a6, a2]
    split at h4
    · omega
    · exact pc s i h1 h2 h3 h4
  · intro s h1 h2 h3
    rw [a3] at h3
    rw [a4, a0]
    exact pd s h1 h2 h3
  · intro s h1 h2 h3
    rw [a5] at h3
    rw [a3]
    split at h3
    · next h =>
      subst h
      omega
    · exact pe s h1 h2 h3
  · exact ⟨by rw [a5, if_neg (by omega)]; exact pg.1, by rw [a3]; exact pg.2⟩
def sz_u10 : sx_Ru := ([(1, 16), (0, 7), (0, 0), (1, 1), (1, 1)], [], ([(88, [0, 1], [6], [0, 0, 0, 1]), (14, [0, 1], [0, 0, 0, 1], [0, 0, 1]), (87, [0, 0, 1], [13], [-1, 1]), (87, [0, 0, 1], [6], [0, 0, 0, 0, 1]), (88, [0, 1], [2], [0, 0, 0, 0, 0, 1])], [(0, []), (3, [[0, 0, 1]])]), (1, 88, [0, 1], [6], [1, 0, 0, 1]), [], [(0, [])])
theorem zs_w_run1 {hh hh' : sx_H} {x0 x1 x2 x3 x4 : Int} (l0 : 1 ≤ x0) (u0 : x0 ≤ 16) (l1 : 0 ≤ x1) (u1 : x1 ≤ 4) (l2 : 0 ≤ x2) (u2 : x2 ≤ 7) (l3 : 0 ≤ x3) (u3 : x3 ≤ 7) (l4 : 1 ≤ x4) (u4 : x4 ≤ 1) (f0 : 0 ≤ x1 - 1) (g0 : hh 88 x0 6 = x1) (g1 : hh 14 x0 x1 = x2) (g2 : hh 87 x2 13 = x0 - 1) (g3 : hh 87 x2 6 = x4) (p0 : zJS hh) (p1 : zJF x2 hh) (p2 : zTP x0 x3 hh) (a0 : ∀ c : Int, hh' 87 c 6 = hh 87 c 6) (a1 : ∀ c : Int, hh' 87 c 13 = hh 87 c 13) (a2 : ∀ c : Int, hh' 87 c 15 = hh 87 c 15) (a3 : ∀ c : Int, hh' 88 c 2 = hh 88 c 2) (a4 : ∀ c : Int, hh' 88 c 3 = hh 88 c 3) (a5 : ∀ c : Int, hh' 88 c 6 = if c = x0 then x1 + 1 else hh 88 c 6) (a6 : ∀ c g : Int, hh' 14 c g = hh 14 c g) : zJE x3 hh' := by
  obtain ⟨pa, pb, pc, pd, pe, pg⟩ := p0
  obtain ⟨t1, t2⟩ := p2
  rw [g0] at t2
  refine ⟨?_, ?_, ?_, ?_, ?_, ?_⟩
  · intro s i h1 h2 h3 h4
    rw [a5] at h4
    rw [a6, a1, a0]
    split at h4
    · next h =>
      subst h
      by_cases hi : i = x1
      · subst hi
        rw [g1]
        exact ⟨g2, by omega⟩
      · exact pa s i h1 h2 h3 (by omega)
    · exact pa s i h1 h2 h3 h4
  · intro s i j h1 h2 h3 h4 h5
    rw [a5] at h5
    rw [a6, a6]
    split at h5
    · next h =>
      subst h
      by_cases hj : j = x1
      · subst hj
        rw [g1]
        exact p1 s i h1 h2 h3 (by omega)
      · exact pb s i j h1 h2 h3 h4 (by omega)
    · exact pb s i j h1 h2 h3 h4 h5
  · intro s i h1 h2 h3 h4 h5
    rw [a5] at h4
    rw [a6] at h5 ⊢
    rw [a2]
    split at h4
    · next h =>
      subst h
      by_cases hi : i = x1 - 1
      · subst hi
        exact absurd t2 h5
      · exact pc s i h1 h2 h3 (by omega)
    · exact pc s i h1 h2 h3 h4
  · intro s h1 h2 h3
    rw [a3] at h3
    rw [a4, a0]
    exact pd s h1 h2 h3
  · intro s h1 h2 h3
    rw [a5] at h3
    rw [a3]
    split at h3
    · next h =>
      subst h
      exact pe s h1 h2 (by omega)
    · exact pe s h1 h2 h3
  · exact ⟨by rw [a5, if_neg (by omega)]; exact pg.1, by rw [a3]; exact pg.2⟩
def sz_u11 : sx_Ru := ([(1, 16), (0, 4), (0, 7), (0, 7), (1, 1)], [[-1, 0, 1]], ([(88, [0, 1], [6], [0, 0, 1]), (14, [0, 1], [0, 0, 1], [0, 0, 0, 1]), (87, [0, 0, 0, 1], [13], [-1, 1]), (87, [0, 0, 0, 1], [6], [0, 0, 0, 0, 0, 1])], [(0, []), (3, [[0, 0, 0, 1]]), (2, [[0, 1], [0, 0, 0, 0, 1]])]), (1, 88, [0, 1], [6], [1, 0, 1]), [], [(6, [[0, 0, 0, 0, 1]])])
theorem zs_je_dep {hh hh' : sx_H} {x0 x1 : Int} (l0 : 0 ≤ x0) (u0 : x0 ≤ 7) (l1 : -2147483648 ≤ x1) (u1 : x1 ≤ 2147483647) (f0 : 0 ≤ -x1 + 62) (p0 : zJE x0 hh) (a0 : ∀ c : Int, hh' 87 c 6 = hh 87 c 6) (a1 : ∀ c : Int, hh' 87 c 13 = hh 87 c 13) (a2 : ∀ c : Int, hh' 87 c 15 = if c = x0 then x1 else hh 87 c 15) (a3 : ∀ c : Int, hh' 88 c 2 = hh 88 c 2) (a4 : ∀ c : Int, hh' 88 c 3 = hh 88 c 3) (a5 : ∀ c : Int, hh' 88 c 6 = hh 88 c 6) (a6 : ∀ c g : Int, hh' 14 c g = hh 14 c g) : zJS hh' := by
  grind [zNW, zTP, zJF, zJL, zJD, zJV, zJX, zJW, zJA, zPCB, zNI, zPS, zPX, zOB, zFO, zFX, zNF, zJS, zJE, zJO, zJa, zJb, zJc, zJcz, zJd, zJdt, zJe, zJg]
def sz_u12 : sx_Ru := ([(0, 7), (-2147483648, 2147483647)], [[62, 0, -1]], ([], [(6, [[0, 1]])]), (1, 87, [0, 1], [15], [0, 0, 1]), [], [(0, [])])
theorem zs_w_leave {hh hh' : sx_H} {x0 x1 : Int} (l0 : 0 ≤ x0) (u0 : x0 ≤ 16) (l1 : 0 ≤ x1) (u1 : x1 ≤ 4) (f0 : 0 ≤ x1 - 1) (g0 : hh 88 x0 6 = x1) (p0 : zJS hh) (a0 : ∀ c : Int, hh' 87 c 6 = hh 87 c 6) (a1 : ∀ c : Int, hh' 87 c 13 = hh 87 c 13) (a2 : ∀ c : Int, hh' 87 c 15 = hh 87 c 15) (a3 : ∀ c : Int, hh' 88 c 2 = hh 88 c 2) (a4 : ∀ c : Int, hh' 88 c 3 = hh 88 c 3) (a5 : ∀ c : Int, hh' 88 c 6 = if c = x0 then x1 - 1 else hh 88 c 6) (a6 : ∀ c g : Int, hh' 14 c g = hh 14 c g) : zJS hh' ∧ zJL x0 (x1 - 1) hh' ∧ zJD x0 hh' := by
  obtain ⟨pa, pb, pc, pd, pe, pg⟩ := p0
  refine ⟨⟨?_, ?_, ?_, ?_, ?_, ?_⟩, ?_, ?_⟩
  · intro s i h1 h2 h3 h4
    rw [a5] at h4
    rw [a6, a1, a0]
    split at h4
    · next h =>
      subst h
      exact pa s i h1 h2 h3 (by omega)
    · exact pa s i h1 h2 h3 h4
  · intro s i j h1 h2 h3 h4 h5
    rw [a5] at h5
    rw [a6, a6]
    split at h5
    · next h =>
      subst h
      exact pb s i j h1 h2 h3 h4 (by omega)
    · exact pb s i j h1 h2 h3 h4 h5
  · intro s i h1 h2 h3 h4
    rw [a5] at h4
    rw [a6, a2]
    split at h4
    · next h =>
      subst h
      exact pc s i h1 h2 h3 (by omega)
    · exact pc s i h1 h2 h3 h4
  · intro s h1 h2 h3
    rw [a3] at h3
    rw [a4, a0]
    exact pd s h1 h2 h3
  · intro s h1 h2 h3
    rw [a5] at h3
    rw [a3]
    split at h3
    · next h =>
      subst h
      exact pe s h1 h2 (by omega)
    · exact pe s h1 h2 h3
  · refine ⟨?_, by rw [a3]; exact pg.2⟩
    rw [a5]
    split
    · next h =>
      rw [← h] at g0
      have := pg.1
      omega
    · exact pg.1
  · intro s i h1 h2 h3 h4 h5
    rw [a5] at h4
    rw [a6, a6] at h5
    split at h4
    · next h =>
      subst h
      exact pb s i (x1 - 1) h1 h2 h3 (by omega) (by omega) h5
    · next h =>
      have e1 := (pa s i h1 h2 h3 h4).1
      have e2 := (pa x0 (x1 - 1) l0 u0 (by omega) (by omega)).1
      rw [h5, e2] at e1
      omega
  · intro h
    rw [a5, if_pos rfl] at h
    rw [a5, if_pos rfl, a6, a2]
    exact pc x0 (x1 - 1 - 1) l0 u0 (by omega) (by omega)
def sz_u13 : sx_Ru := ([(0, 16), (0, 4)], [[-1, 0, 1]], ([(88, [0, 1], [6], [0, 0, 1])], [(0, [])]), (1, 88, [0, 1], [6], [-1, 0, 1]), [], [(0, []), (4, [[0, 1], [-1, 0, 1]]), (5, [[0, 1]])])
theorem zs_jl_jf {hh : sx_H} {x0 x1 x2 : Int} (l0 : 0 ≤ x0) (u0 : x0 ≤ 16) (l1 : 0 ≤ x1) (u1 : x1 ≤ 4) (l2 : 0 ≤ x2) (u2 : x2 ≤ 7) (g0 : hh 14 x0 x1 = x2) (p0 : zJL x0 x1 hh) : zJF x2 hh := by
  grind [zNW, zTP, zJF, zJL, zJD, zJV, zJX, zJW, zJA, zPCB, zNI, zPS, zPX, zOB, zFO, zFX, zNF, zJS, zJE, zJO, zJa, zJb, zJc, zJcz, zJd, zJdt, zJe, zJg]
def sz_u14 : sx_Ru := ([(0, 16), (0, 4), (0, 7)], [], ([(14, [0, 1], [0, 0, 1], [0, 0, 0, 1])], [(4, [[0, 1], [0, 0, 1]])]), (0, 0, [], [], []), [], [(3, [[0, 0, 0, 1]])])
theorem zs_jd_use {hh : sx_H} {x0 x1 x2 x3 : Int} (l0 : 0 ≤ x0) (u0 : x0 ≤ 16) (l1 : 0 ≤ x1) (u1 : x1 ≤ 4) (l2 : 0 ≤ x2) (u2 : x2 ≤ 7) (l3 : 0 ≤ x3) (u3 : x3 ≤ 64) (f0 : 0 ≤ x1 - 1) (g0 : hh 88 x0 6 = x1) (g1 : hh 14 x0 (x1 - 1) = x2) (g2 : hh 87 x2 15 = x3) (p0 : zJD x0 hh) : 0 ≤ -x3 + 62 := by
  grind [zNW, zTP, zJF, zJL, zJD, zJV, zJX, zJW, zJA, zPCB, zNI, zPS, zPX, zOB, zFO, zFX, zNF, zJS, zJE, zJO, zJa, zJb, zJc, zJcz, zJd, zJdt, zJe, zJg]
def sz_u15 : sx_Ru := ([(0, 16), (0, 4), (0, 7), (0, 64)], [[-1, 0, 1]], ([(88, [0, 1], [6], [0, 0, 1]), (14, [0, 1], [-1, 0, 1], [0, 0, 0, 1]), (87, [0, 0, 0, 1], [15], [0, 0, 0, 0, 1])], [(5, [[0, 1]])]), (0, 0, [], [], []), [[62, 0, 0, 0, -1]], [])
theorem zs_w_open0 {hh hh' : sx_H} {x0 x1 : Int} (l0 : 0 ≤ x0) (u0 : x0 ≤ 16) (l1 : 0 ≤ x1) (u1 : x1 ≤ 0) (g0 : hh 88 x0 6 = x1) (p0 : zJS hh) (a0 : ∀ c : Int, hh' 87 c 6 = hh 87 c 6) (a1 : ∀ c : Int, hh' 87 c 13 = hh 87 c 13) (a2 : ∀ c : Int, hh' 87 c 15 = hh 87 c 15) (a3 : ∀ c : Int, hh' 88 c 2 = if c = x0 then 0 else hh 88 c 2) (a4 : ∀ c : Int, hh' 88 c 3 = hh 88 c 3) (a5 : ∀ c : Int, hh' 88 c 6 = hh 88 c 6) (a6 : ∀ c g : Int, hh' 14 c g = hh 14 c g) : zJS hh' := by
  grind [zNW, zTP, zJF, zJL, zJD, zJV, zJX, zJW, zJA, zPCB, zNI, zPS, zPX, zOB, zFO, zFX, zNF, zJS, zJE, zJO, zJa, zJb, zJc, zJcz, zJd, zJdt, zJe, zJg]
def sz_u16 : sx_Ru := ([(0, 16), (0, 0)], [], ([(88, [0, 1], [6], [0, 0, 1])], [(0, [])]), (1, 88, [0, 1], [2], []), [], [(0, [])])
theorem zs_w_open1 {hh hh' : sx_H} {x0 : Int} (l0 : 1 ≤ x0) (u0 : x0 ≤ 16) (p0 : zJS hh) (a0 : ∀ c : Int, hh' 87 c 6 = hh 87 c 6) (a1 : ∀ c : Int, hh' 87 c 13 = hh 87 c 13) (a2 : ∀ c : Int, hh' 87 c 15 = hh 87 c 15) (a3 : ∀ c : Int, hh' 88 c 2 = if c = x0 then 1 else hh 88 c 2) (a4 : ∀ c : Int, hh' 88 c 3 = hh 88 c 3) (a5 : ∀ c : Int, hh' 88 c 6 = hh 88 c 6) (a6 : ∀ c g : Int, hh' 14 c g = hh 14 c g) : zJO x0 hh' := by
  grind [zNW, zTP, zJF, zJL, zJD, zJV, zJX, zJW, zJA, zPCB, zNI, zPS, zPX, zOB, zFO, zFX, zNF, zJS, zJE, zJO, zJa, zJb, zJc, zJcz, zJd, zJdt, zJe, zJg]
def sz_u17 : sx_Ru := ([(1, 16)], [], ([], [(0, [])]), (1, 88, [0, 1], [2], [1]), [], [(7, [[0, 1]])])
theorem zs_w_owner {hh hh' : sx_H} {x0 x1 x2 : Int} (l0 : 1 ≤ x0) (u0 : x0 ≤ 16) (l1 : 0 ≤ x1) (u1 : x1 ≤ 7) (l2 : 1 ≤ x2) (u2 : x2 ≤ 1) (g0 : hh 87 x1 6 = x2) (p0 : zJO x0 hh) (a0 : ∀ c : Int, hh' 87 c 6 = hh 87 c 6) (a1 : ∀ c : Int, hh' 87 c 13 = hh 87 c 13) (a2 : ∀ c : Int, hh' 87 c 15 = hh 87 c 15) (a3 : ∀ c : Int, hh' 88 c 2 = hh 88 c 2) (a4 : ∀ c : Int, hh' 88 c 3 = if c = x0 then x1 else hh 88 c 3) (a5 : ∀ c : Int, hh' 88 c 6 = hh 88 c 6) (a6 : ∀ c g : Int, hh' 14 c g = hh 14 c g) : zJS hh' := by
  grind [zNW, zTP, zJF, zJL, zJD, zJV, zJX, zJW, zJA, zPCB, zNI, zPS, zPX, zOB, zFO, zFX, zNF, zJS, zJE, zJO, zJa, zJb, zJc, zJcz, zJd, zJdt, zJe, zJg]
def sz_u18 : sx_Ru := ([(1, 16), (0, 7), (1, 1)], [], ([(87, [0, 0, 1], [6], [0, 0, 0, 1])], [(7, [[0, 1]])]), (1, 88, [0, 1], [3], [0, 0, 1]), [], [(0, [])])
theorem zs_w_in1 {hh hh' : sx_H} {x0 : Int} (l0 : 0 ≤ x0) (u0 : x0 ≤ 7) (p0 : zJS hh) (a0 : ∀ c : Int, hh' 87 c 6 = if c = x0 then 1 else hh 87 c 6) (a1 : ∀ c : Int, hh' 87 c 13 = hh 87 c 13) (a2 : ∀ c : Int, hh' 87 c 15 = hh 87 c 15) (a3 : ∀ c : Int, hh' 88 c 2 = hh 88 c 2) (a4 : ∀ c : Int, hh' 88 c 3 = hh 88 c 3) (a5 : ∀ c : Int, hh' 88 c 6 = hh 88 c 6) (a6 : ∀ c g : Int, hh' 14 c g = hh 14 c g) : zJS hh' := by
  grind [zNW, zTP, zJF, zJL, zJD, zJV, zJX, zJW, zJA, zPCB, zNI, zPS, zPX, zOB, zFO, zFX, zNF, zJS, zJE, zJO, zJa, zJb, zJc, zJcz, zJd, zJdt, zJe, zJg]
def sz_u19 : sx_Ru := ([(0, 7)], [], ([], [(0, [])]), (1, 87, [0, 1], [6], [1]), [], [(0, [])])
theorem zs_w_in0 {hh hh' : sx_H} {x0 x1 : Int} (l0 : 0 ≤ x0) (u0 : x0 ≤ 7) (l1 : 16 ≤ x1) (u1 : x1 ≤ 16) (p0 : zJS hh) (p1 : zJF x0 hh) (p2 : zJV x0 x1 hh) (a0 : ∀ c : Int, hh' 87 c 6 = if c = x0 then 0 else hh 87 c 6) (a1 : ∀ c : Int, hh' 87 c 13 = hh 87 c 13) (a2 : ∀ c : Int, hh' 87 c 15 = hh 87 c 15) (a3 : ∀ c : Int, hh' 88 c 2 = hh 88 c 2) (a4 : ∀ c : Int, hh' 88 c 3 = hh 88 c 3) (a5 : ∀ c : Int, hh' 88 c 6 = hh 88 c 6) (a6 : ∀ c g : Int, hh' 14 c g = hh 14 c g) : zJS hh' := by
  grind [zNW, zTP, zJF, zJL, zJD, zJV, zJX, zJW, zJA, zPCB, zNI, zPS, zPX, zOB, zFO, zFX, zNF, zJS, zJE, zJO, zJa, zJb, zJc, zJcz, zJd, zJdt, zJe, zJg]
def sz_u20 : sx_Ru := ([(0, 7), (16, 16)], [], ([], [(0, []), (3, [[0, 1]]), (8, [[0, 1], [0, 0, 1]])]), (1, 87, [0, 1], [6], []), [], [(0, [])])
theorem zs_w_in0w {hh hh' : sx_H} {x0 x1 : Int} (l0 : 0 ≤ x0) (u0 : x0 ≤ 7) (l1 : 16 ≤ x1) (u1 : x1 ≤ 16) (p0 : zJS hh) (p1 : zJW x1 hh) (a0 : ∀ c : Int, hh' 87 c 6 = if c = x0 then 0 else hh 87 c 6) (a1 : ∀ c : Int, hh' 87 c 13 = hh 87 c 13) (a2 : ∀ c : Int, hh' 87 c 15 = hh 87 c 15) (a3 : ∀ c : Int, hh' 88 c 2 = hh 88 c 2) (a4 : ∀ c : Int, hh' 88 c 3 = hh 88 c 3) (a5 : ∀ c : Int, hh' 88 c 6 = hh 88 c 6) (a6 : ∀ c g : Int, hh' 14 c g = hh 14 c g) : zJS hh' := by
  grind [zNW, zTP, zJF, zJL, zJD, zJV, zJX, zJW, zJA, zPCB, zNI, zPS, zPX, zOB, zFO, zFX, zNF, zJS, zJE, zJO, zJa, zJb, zJc, zJcz, zJd, zJdt, zJe, zJg]
def sz_u21 : sx_Ru := ([(0, 7), (16, 16)], [], ([], [(0, []), (10, [[0, 0, 1]])]), (1, 87, [0, 1], [6], []), [], [(0, [])])
theorem zs_jx0 {hh : sx_H} {x0 x1 : Int} (l0 : 0 ≤ x0) (u0 : x0 ≤ 7) (l1 : -1 ≤ x1) (u1 : x1 ≤ -1) (g0 : hh 87 x0 13 = x1) : zJX x0 hh := by
  grind [zNW, zTP, zJF, zJL, zJD, zJV, zJX, zJW, zJA, zPCB, zNI, zPS, zPX, zOB, zFO, zFX, zNF, zJS, zJE, zJO, zJa, zJb, zJc, zJcz, zJd, zJdt, zJe, zJg]
def sz_u22 : sx_Ru := ([(0, 7), (-1, -1)], [], ([(87, [0, 1], [13], [0, 0, 1])], []), (0, 0, [], [], []), [], [(9, [[0, 1]])])
theorem zs_jx1 {hh : sx_H} {x0 x1 x2 : Int} (l0 : 0 ≤ x0) (u0 : x0 ≤ 7) (l1 : -1 ≤ x1) (u1 : x1 ≤ 15) (l2 : 0 ≤ x2) (u2 : x2 ≤ 7) (f0 : 0 ≤ x0 - x2) (f1 : 0 ≤ -x0 + x2) (g0 : hh 87 x0 13 = x1) (g1 : hh 88 (x1 + 1) 3 = x2) : zJX x0 hh := by
  grind [zNW, zTP, zJF, zJL, zJD, zJV, zJX, zJW, zJA, zPCB, zNI, zPS, zPX, zOB, zFO, zFX, zNF, zJS, zJE, zJO, zJa, zJb, zJc, zJcz, zJd, zJdt, zJe, zJg]
def sz_u23 : sx_Ru := ([(0, 7), (-1, 15), (0, 7)], [[0, 1, 0, -1], [0, -1, 0, 1]], ([(87, [0, 1], [13], [0, 0, 1]), (88, [1, 0, 1], [3], [0, 0, 0, 1])], []), (0, 0, [], [], []), [], [(9, [[0, 1]])])
theorem zs_jx_w {hh hh' : sx_H} {x0 x1 : Int} (l0 : 0 ≤ x0) (u0 : x0 ≤ 7) (l1 : 0 ≤ x1) (u1 : x1 ≤ 7) (p0 : zJX x0 hh) (a0 : ∀ c : Int, hh' 87 c 13 = if c = x1 then -1 else hh 87 c 13) (a1 : ∀ c : Int, hh' 88 c 3 = hh 88 c 3) : zJX x0 hh' := by
  grind [zNW, zTP, zJF, zJL, zJD, zJV, zJX, zJW, zJA, zPCB, zNI, zPS, zPX, zOB, zFO, zFX, zNF, zJS, zJE, zJO, zJa, zJb, zJc, zJcz, zJd, zJdt, zJe, zJg]
def sz_u24 : sx_Ru := ([(0, 7), (0, 7)], [], ([], [(9, [[0, 1]])]), (1, 87, [0, 0, 1], [13], [-1]), [], [(9, [[0, 1]])])
theorem zs_jv0 {hh : sx_H} {x0 : Int} (l0 : 0 ≤ x0) (u0 : x0 ≤ 7) (p0 : zJS hh) : zJV x0 0 hh := by
  grind [zNW, zTP, zJF, zJL, zJD, zJV, zJX, zJW, zJA, zPCB, zNI, zPS, zPX, zOB, zFO, zFX, zNF, zJS, zJE, zJO, zJa, zJb, zJc, zJcz, zJd, zJdt, zJe, zJg]
def sz_u25 : sx_Ru := ([(0, 7)], [], ([], [(0, [])]), (0, 0, [], [], []), [], [(8, [[0, 1], []])])
theorem zs_jv_w {hh hh' : sx_H} {x0 x1 x2 : Int} (l0 : 0 ≤ x0) (u0 : x0 ≤ 7) (l1 : 0 ≤ x1) (u1 : x1 ≤ 16) (l2 : 0 ≤ x2) (u2 : x2 ≤ 16) (p0 : zJV x0 x1 hh) (a0 : ∀ c : Int, hh' 88 c 2 = if c = x2 then 0 else hh 88 c 2) (a1 : ∀ c : Int, hh' 88 c 3 = hh 88 c 3) : zJV x0 x1 hh' := by
  grind [zNW, zTP, zJF, zJL, zJD, zJV, zJX, zJW, zJA, zPCB, zNI, zPS, zPX, zOB, zFO, zFX, zNF, zJS, zJE, zJO, zJa, zJb, zJc, zJcz, zJd, zJdt, zJe, zJg]
def sz_u26 : sx_Ru := ([(0, 7), (0, 16), (0, 16)], [], ([], [(8, [[0, 1], [0, 0, 1]])]), (1, 88, [0, 0, 0, 1], [2], []), [], [(8, [[0, 1], [0, 0, 1]])])
theorem zs_jv_n0 {hh : sx_H} {x0 x1 x2 : Int} (l0 : 0 ≤ x0) (u0 : x0 ≤ 7) (l1 : 0 ≤ x1) (u1 : x1 ≤ 16) (l2 : 0 ≤ x2) (u2 : x2 ≤ 0) (g0 : hh 88 (x1 + 1) 2 = x2) (p0 : zJV x0 x1 hh) : zJV x0 (x1 + 1) hh := by
  grind [zNW, zTP, zJF, zJL, zJD, zJV, zJX, zJW, zJA, zPCB, zNI, zPS, zPX, zOB, zFO, zFX, zNF, zJS, zJE, zJO, zJa, zJb, zJc, zJcz, zJd, zJdt, zJe, zJg]
def sz_u27 : sx_Ru := ([(0, 7), (0, 16), (0, 0)], [], ([(88, [1, 0, 1], [2], [0, 0, 0, 1])], [(8, [[0, 1], [0, 0, 1]])]), (0, 0, [], [], []), [], [(8, [[0, 1], [1, 0, 1]])])
theorem zs_jv_n1 {hh : sx_H} {x0 x1 x2 : Int} (l0 : 0 ≤ x0) (u0 : x0 ≤ 7) (l1 : 0 ≤ x1) (u1 : x1 ≤ 16) (l2 : 0 ≤ x2) (u2 : x2 ≤ 7) (f0 : 0 ≤ x0 - x2 - 1) (g0 : hh 88 (x1 + 1) 3 = x2) (p0 : zJV x0 x1 hh) : zJV x0 (x1 + 1) hh := by
  grind [zNW, zTP, zJF, zJL, zJD, zJV, zJX, zJW, zJA, zPCB, zNI, zPS, zPX, zOB, zFO, zFX, zNF, zJS, zJE, zJO, zJa, zJb, zJc, zJcz, zJd, zJdt, zJe, zJg]
def sz_u28 : sx_Ru := ([(0, 7), (0, 16), (0, 7)], [[-1, 1, 0, -1]], ([(88, [1, 0, 1], [3], [0, 0, 0, 1])], [(8, [[0, 1], [0, 0, 1]])]), (0, 0, [], [], []), [], [(8, [[0, 1], [1, 0, 1]])])
theorem zs_jv_n2 {hh : sx_H} {x0 x1 x2 : Int} (l0 : 0 ≤ x0) (u0 : x0 ≤ 7) (l1 : 0 ≤ x1) (u1 : x1 ≤ 16) (l2 : 0 ≤ x2) (u2 : x2 ≤ 7) (f0 : 0 ≤ -x0 + x2 - 1) (g0 : hh 88 (x1 + 1) 3 = x2) (p0 : zJV x0 x1 hh) : zJV x0 (x1 + 1) hh := by
  grind [zNW, zTP, zJF, zJL, zJD, zJV, zJX, zJW, zJA, zPCB, zNI, zPS, zPX, zOB, zFO, zFX, zNF, zJS, zJE, zJO, zJa, zJb, zJc, zJcz, zJd, zJdt, zJe, zJg]
def sz_u29 : sx_Ru := ([(0, 7), (0, 16), (0, 7)], [[-1, -1, 0, 1]], ([(88, [1, 0, 1], [3], [0, 0, 0, 1])], [(8, [[0, 1], [0, 0, 1]])]), (0, 0, [], [], []), [], [(8, [[0, 1], [1, 0, 1]])])
theorem zs_jf_v {hh : sx_H} {x0 x1 : Int} (l0 : 0 ≤ x0) (u0 : x0 ≤ 7) (l1 : 16 ≤ x1) (u1 : x1 ≤ 16) (p0 : zJS hh) (p1 : zJV x0 x1 hh) (p2 : zJX x0 hh) : zJF x0 hh := by
  grind [zNW, zTP, zJF, zJL, zJD, zJV, zJX, zJW, zJA, zPCB, zNI, zPS, zPX, zOB, zFO, zFX, zNF, zJS, zJE, zJO, zJa, zJb, zJc, zJcz, zJd, zJdt, zJe, zJg]
def sz_u30 : sx_Ru := ([(0, 7), (16, 16)], [], ([], [(0, []), (8, [[0, 1], [0, 0, 1]]), (9, [[0, 1]])]), (0, 0, [], [], []), [], [(3, [[0, 1]])])
theorem zs_jw0 {hh : sx_H} (p0 : zJS hh) : zJW 0 hh := by
  grind [zNW, zTP, zJF, zJL, zJD, zJV, zJX, zJW, zJA, zPCB, zNI, zPS, zPX, zOB, zFO, zFX, zNF, zJS, zJE, zJO, zJa, zJb, zJc, zJcz, zJd, zJdt, zJe, zJg]
def sz_u31 : sx_Ru := ([], [], ([], [(0, [])]), (0, 0, [], [], []), [], [(10, [[]])])
theorem zs_jw_w {hh hh' : sx_H} {x0 x1 : Int} (l0 : 0 ≤ x0) (u0 : x0 ≤ 16) (l1 : 0 ≤ x1) (u1 : x1 ≤ 16) (p0 : zJW x0 hh) (a0 : ∀ c : Int, hh' 88 c 2 = if c = x1 then 0 else hh 88 c 2) : zJW x0 hh' := by
  grind [zNW, zTP, zJF, zJL, zJD, zJV, zJX, zJW, zJA, zPCB, zNI, zPS, zPX, zOB, zFO, zFX, zNF, zJS, zJE, zJO, zJa, zJb, zJc, zJcz, zJd, zJdt, zJe, zJg]
def sz_u32 : sx_Ru := ([(0, 16), (0, 16)], [], ([], [(10, [[0, 1]])]), (1, 88, [0, 0, 1], [2], []), [], [(10, [[0, 1]])])
theorem zs_jw_n {hh : sx_H} {x0 x1 : Int} (l0 : 0 ≤ x0) (u0 : x0 ≤ 16) (l1 : 0 ≤ x1) (u1 : x1 ≤ 0) (g0 : hh 88 (x0 + 1) 2 = x1) (p0 : zJW x0 hh) : zJW (x0 + 1) hh := by
  grind [zNW, zTP, zJF, zJL, zJD, zJV, zJX, zJW, zJA, zPCB, zNI, zPS, zPX, zOB, zFO, zFX, zNF, zJS, zJE, zJO, zJa, zJb, zJc, zJcz, zJd, zJdt, zJe, zJg]
def sz_u33 : sx_Ru := ([(0, 16), (0, 0)], [], ([(88, [1, 1], [2], [0, 0, 1])], [(10, [[0, 1]])]), (0, 0, [], [], []), [], [(10, [[1, 1]])])
theorem zs_own {hh : sx_H} {x0 x1 x2 x3 : Int} (l0 : 0 ≤ x0) (u0 : x0 ≤ 16) (l1 : 0 ≤ x1) (u1 : x1 ≤ 7) (l2 : 0 ≤ x2) (u2 : x2 ≤ 1) (l3 : 1 ≤ x3) (u3 : x3 ≤ 1) (g0 : hh 88 x0 2 = x3) (g1 : hh 88 x0 3 = x1) (g2 : hh 87 x1 6 = x2) (p0 : zJS hh) : 0 ≤ x2 - 1 := by
  grind [zNW, zTP, zJF, zJL, zJD, zJV, zJX, zJW, zJA, zPCB, zNI, zPS, zPX, zOB, zFO, zFX, zNF, zJS, zJE, zJO, zJa, zJb, zJc, zJcz, zJd, zJdt, zJe, zJg]
def sz_u34 : sx_Ru := ([(0, 16), (0, 7), (0, 1), (1, 1)], [], ([(88, [0, 1], [2], [0, 0, 0, 0, 1]), (88, [0, 1], [3], [0, 0, 1]), (87, [0, 0, 1], [6], [0, 0, 0, 1])], [(0, [])]), (0, 0, [], [], []), [[-1, 0, 0, 1]], [])
theorem zs_ja_in1 {hh hh' : sx_H} {x0 x1 x2 : Int} (l0 : 0 ≤ x0) (u0 : x0 ≤ 7) (l1 : 0 ≤ x1) (u1 : x1 ≤ 255) (l2 : 0 ≤ x2) (u2 : x2 ≤ 255) (f0 : 0 ≤ -x1 + 8) (f1 : 0 ≤ -x2 + 8) (g0 : hh 87 x0 8 = x1) (g1 : hh 87 x0 12 = x2) (p0 : zJA hh) (a0 : ∀ c : Int, hh' 87 c 6 = if c = x0 then 1 else hh 87 c 6) (a1 : ∀ c : Int, hh' 87 c 8 = hh 87 c 8) (a2 : ∀ c : Int, hh' 87 c 12 = hh 87 c 12) : zJA hh' := by
  grind [zNW, zTP, zJF, zJL, zJD, zJV, zJX, zJW, zJA, zPCB, zNI, zPS, zPX, zOB, zFO, zFX, zNF, zJS, zJE, zJO, zJa, zJb, zJc, zJcz, zJd, zJdt, zJe, zJg]
def sz_u35 : sx_Ru := ([(0, 7), (0, 255), (0, 255)], [[8, 0, -1], [8, 0, 0, -1]], ([(87, [0, 1], [8], [0, 0, 1]), (87, [0, 1], [12], [0, 0, 0, 1])], [(11, [])]), (1, 87, [0, 1], [6], [1]), [], [(11, [])])
theorem zs_ja_in0 {hh hh' : sx_H} {x0 : Int} (l0 : 0 ≤ x0) (u0 : x0 ≤ 7) (p0 : zJA hh) (a0 : ∀ c : Int, hh' 87 c 6 = if c = x0 then 0 else hh 87 c 6) (a1 : ∀ c : Int, hh' 87 c 8 = hh 87 c 8) (a2 : ∀ c : Int, hh' 87 c 12 = hh 87 c 12) : zJA hh' := by
  grind [zNW, zTP, zJF, zJL, zJD, zJV, zJX, zJW, zJA, zPCB, zNI, zPS, zPX, zOB, zFO, zFX, zNF, zJS, zJE, zJO, zJa, zJb, zJc, zJcz, zJd, zJdt, zJe, zJg]
def sz_u36 : sx_Ru := ([(0, 7)], [], ([], [(11, [])]), (1, 87, [0, 1], [6], []), [], [(11, [])])
theorem zs_ja_pc {hh hh' : sx_H} {x0 x1 x2 : Int} (l0 : 0 ≤ x0) (u0 : x0 ≤ 7) (l1 : -2147483648 ≤ x1) (u1 : x1 ≤ 2147483647) (l2 : 0 ≤ x2) (u2 : x2 ≤ 0) (g0 : hh 87 x0 6 = x2) (p0 : zJA hh) (a0 : ∀ c : Int, hh' 87 c 6 = hh 87 c 6) (a1 : ∀ c : Int, hh' 87 c 8 = if c = x0 then x1 else hh 87 c 8) (a2 : ∀ c : Int, hh' 87 c 12 = hh 87 c 12) : zJA hh' := by
  grind [zNW, zTP, zJF, zJL, zJD, zJV, zJX, zJW, zJA, zPCB, zNI, zPS, zPX, zOB, zFO, zFX, zNF, zJS, zJE, zJO, zJa, zJb, zJc, zJcz, zJd, zJdt, zJe, zJg]
def sz_u37 : sx_Ru := ([(0, 7), (-2147483648, 2147483647), (0, 0)], [], ([(87, [0, 1], [6], [0, 0, 0, 1])], [(11, [])]), (1, 87, [0, 1], [8], [0, 0, 1]), [], [(11, [])])
theorem zs_ja_cm {hh hh' : sx_H} {x0 x1 x2 : Int} (l0 : 0 ≤ x0) (u0 : x0 ≤ 7) (l1 : -2147483648 ≤ x1) (u1 : x1 ≤ 2147483647) (l2 : 0 ≤ x2) (u2 : x2 ≤ 0) (g0 : hh 87 x0 6 = x2) (p0 : zJA hh) (a0 : ∀ c : Int, hh' 87 c 6 = hh 87 c 6) (a1 : ∀ c : Int, hh' 87 c 8 = hh 87 c 8) (a2 : ∀ c : Int, hh' 87 c 12 = if c = x0 then x1 else hh 87 c 12) : zJA hh' := by
  grind [zNW, zTP, zJF, zJL, zJD, zJV, zJX, zJW, zJA, zPCB, zNI, zPS, zPX, zOB, zFO, zFX, zNF, zJS, zJE, zJO, zJa, zJb, zJc, zJcz, zJd, zJdt, zJe, zJg]
def sz_u38 : sx_Ru := ([(0, 7), (-2147483648, 2147483647), (0, 0)], [], ([(87, [0, 1], [6], [0, 0, 0, 1])], [(11, [])]), (1, 87, [0, 1], [12], [0, 0, 1]), [], [(11, [])])
theorem zs_ja_pc8 {hh hh' : sx_H} {x0 x1 : Int} (l0 : 0 ≤ x0) (u0 : x0 ≤ 7) (l1 : -2147483648 ≤ x1) (u1 : x1 ≤ 2147483647) (f0 : 0 ≤ -x1 + 8) (p0 : zJA hh) (a0 : ∀ c : Int, hh' 87 c 6 = hh 87 c 6) (a1 : ∀ c : Int, hh' 87 c 8 = if c = x0 then x1 else hh 87 c 8) (a2 : ∀ c : Int, hh' 87 c 12 = hh 87 c 12) : zJA hh' := by
  grind [zNW, zTP, zJF, zJL, zJD, zJV, zJX, zJW, zJA, zPCB, zNI, zPS, zPX, zOB, zFO, zFX, zNF, zJS, zJE, zJO, zJa, zJb, zJc, zJcz, zJd, zJdt, zJe, zJg]
def sz_u39 : sx_Ru := ([(0, 7), (-2147483648, 2147483647)], [[8, 0, -1]], ([], [(11, [])]), (1, 87, [0, 1], [8], [0, 0, 1]), [], [(11, [])])
theorem zs_pcb_w {hh hh' : sx_H} {x0 x1 : Int} (l0 : 0 ≤ x0) (u0 : x0 ≤ 7) (l1 : -2147483648 ≤ x1) (u1 : x1 ≤ 2147483647) (f0 : 0 ≤ -x1 + 8) (p0 : zPCB x0 hh) (a0 : ∀ c : Int, hh' 87 c 8 = if c = x0 then x1 else hh 87 c 8) : zPCB x0 hh' := by
  grind [zNW, zTP, zJF, zJL, zJD, zJV, zJX, zJW, zJA, zPCB, zNI, zPS, zPX, zOB, zFO, zFX, zNF, zJS, zJE, zJO, zJa, zJb, zJc, zJcz, zJd, zJdt, zJe, zJg]
def sz_u40 : sx_Ru := ([(0, 7), (-2147483648, 2147483647)], [[8, 0, -1]], ([], [(12, [[0, 1]])]), (1, 87, [0, 1], [8], [0, 0, 1]), [], [(12, [[0, 1]])])
theorem zs_ja_upc {hh : sx_H} {x0 x1 x2 : Int} (l0 : 0 ≤ x0) (u0 : x0 ≤ 7) (l1 : 0 ≤ x1) (u1 : x1 ≤ 255) (l2 : 1 ≤ x2) (u2 : x2 ≤ 1) (g0 : hh 87 x0 6 = x2) (g1 : hh 87 x0 8 = x1) (p0 : zJA hh) : 0 ≤ -x1 + 8 := by
  grind [zNW, zTP, zJF, zJL, zJD, zJV, zJX, zJW, zJA, zPCB, zNI, zPS, zPX, zOB, zFO, zFX, zNF, zJS, zJE, zJO, zJa, zJb, zJc, zJcz, zJd, zJdt, zJe, zJg]
def sz_u41 : sx_Ru := ([(0, 7), (0, 255), (1, 1)], [], ([(87, [0, 1], [6], [0, 0, 0, 1]), (87, [0, 1], [8], [0, 0, 1])], [(11, [])]), (0, 0, [], [], []), [[8, 0, -1]], [])
theorem zs_ja_ucm {hh : sx_H} {x0 x1 x2 : Int} (l0 : 0 ≤ x0) (u0 : x0 ≤ 7) (l1 : 0 ≤ x1) (u1 : x1 ≤ 255) (l2 : 1 ≤ x2) (u2 : x2 ≤ 1) (g0 : hh 87 x0 6 = x2) (g1 : hh 87 x0 12 = x1) (p0 : zJA hh) : 0 ≤ -x1 + 8 := by
  grind [zNW, zTP, zJF, zJL, zJD, zJV, zJX, zJW, zJA, zPCB, zNI, zPS, zPX, zOB, zFO, zFX, zNF, zJS, zJE, zJO, zJa, zJb, zJc, zJcz, zJd, zJdt, zJe, zJg]
def sz_u42 : sx_Ru := ([(0, 7), (0, 255), (1, 1)], [], ([(87, [0, 1], [6], [0, 0, 0, 1]), (87, [0, 1], [12], [0, 0, 1])], [(11, [])]), (0, 0, [], [], []), [[8, 0, -1]], [])
theorem zs_pcb_use {hh : sx_H} {x0 x1 : Int} (l0 : 0 ≤ x0) (u0 : x0 ≤ 7) (l1 : 0 ≤ x1) (u1 : x1 ≤ 255) (g0 : hh 87 x0 8 = x1) (p0 : zPCB x0 hh) : 0 ≤ -x1 + 8 := by
  grind [zNW, zTP, zJF, zJL, zJD, zJV, zJX, zJW, zJA, zPCB, zNI, zPS, zPX, zOB, zFO, zFX, zNF, zJS, zJE, zJO, zJa, zJb, zJc, zJcz, zJd, zJdt, zJe, zJg]
def sz_u43 : sx_Ru := ([(0, 7), (0, 255)], [], ([(87, [0, 1], [8], [0, 0, 1])], [(12, [[0, 1]])]), (0, 0, [], [], []), [[8, 0, -1]], [])
theorem zs_ni0 {hh : sx_H} {x0 : Int} (l0 : 0 ≤ x0) (u0 : x0 ≤ 7) : zNI x0 0 hh := by
  grind [zNW, zTP, zJF, zJL, zJD, zJV, zJX, zJW, zJA, zPCB, zNI, zPS, zPX, zOB, zFO, zFX, zNF, zJS, zJE, zJO, zJa, zJb, zJc, zJcz, zJd, zJdt, zJe, zJg]
def sz_u44 : sx_Ru := ([(0, 7)], [], ([], []), (0, 0, [], [], []), [], [(13, [[0, 1], []])])
theorem zs_ni_in {hh : sx_H} {x0 x1 x2 : Int} (l0 : 0 ≤ x0) (u0 : x0 ≤ 7) (l1 : 0 ≤ x1) (u1 : x1 ≤ 8) (l2 : 0 ≤ x2) (u2 : x2 ≤ 0) (g0 : hh 87 x1 6 = x2) (p0 : zNI x0 x1 hh) : zNI x0 (x1 + 1) hh := by
  grind [zNW, zTP, zJF, zJL, zJD, zJV, zJX, zJW, zJA, zPCB, zNI, zPS, zPX, zOB, zFO, zFX, zNF, zJS, zJE, zJO, zJa, zJb, zJc, zJcz, zJd, zJdt, zJe, zJg]
def sz_u45 : sx_Ru := ([(0, 7), (0, 8), (0, 0)], [], ([(87, [0, 0, 1], [6], [0, 0, 0, 1])], [(13, [[0, 1], [0, 0, 1]])]), (0, 0, [], [], []), [], [(13, [[0, 1], [1, 0, 1]])])
theorem zs_ni_p1 {hh : sx_H} {x0 x1 x2 : Int} (l0 : 0 ≤ x0) (u0 : x0 ≤ 7) (l1 : 0 ≤ x1) (u1 : x1 ≤ 8) (l2 : 0 ≤ x2) (u2 : x2 ≤ 7) (f0 : 0 ≤ x0 - x2 - 1) (g0 : hh 87 x1 4 = x2) (p0 : zNI x0 x1 hh) : zNI x0 (x1 + 1) hh := by
  grind [zNW, zTP, zJF, zJL, zJD, zJV, zJX, zJW, zJA, zPCB, zNI, zPS, zPX, zOB, zFO, zFX, zNF, zJS, zJE, zJO, zJa, zJb, zJc, zJcz, zJd, zJdt, zJe, zJg]
def sz_u46 : sx_Ru := ([(0, 7), (0, 8), (0, 7)], [[-1, 1, 0, -1]], ([(87, [0, 0, 1], [4], [0, 0, 0, 1])], [(13, [[0, 1], [0, 0, 1]])]), (0, 0, [], [], []), [], [(13, [[0, 1], [1, 0, 1]])])
theorem zs_ni_p2 {hh : sx_H} {x0 x1 x2 : Int} (l0 : 0 ≤ x0) (u0 : x0 ≤ 7) (l1 : 0 ≤ x1) (u1 : x1 ≤ 8) (l2 : 0 ≤ x2) (u2 : x2 ≤ 7) (f0 : 0 ≤ -x0 + x2 - 1) (g0 : hh 87 x1 4 = x2) (p0 : zNI x0 x1 hh) : zNI x0 (x1 + 1) hh := by
  grind [zNW, zTP, zJF, zJL, zJD, zJV, zJX, zJW, zJA, zPCB, zNI, zPS, zPX, zOB, zFO, zFX, zNF, zJS, zJE, zJO, zJa, zJb, zJc, zJcz, zJd, zJdt, zJe, zJg]
def sz_u47 : sx_Ru := ([(0, 7), (0, 8), (0, 7)], [[-1, -1, 0, 1]], ([(87, [0, 0, 1], [4], [0, 0, 0, 1])], [(13, [[0, 1], [0, 0, 1]])]), (0, 0, [], [], []), [], [(13, [[0, 1], [1, 0, 1]])])
theorem zs_ni_use {hh : sx_H} {x0 x1 x2 x3 : Int} (l0 : 0 ≤ x0) (u0 : x0 ≤ 7) (l1 : 0 ≤ x1) (u1 : x1 ≤ 7) (l2 : 0 ≤ x2) (u2 : x2 ≤ 1) (l3 : 8 ≤ x3) (u3 : x3 ≤ 8) (g0 : hh 87 x1 4 = x0) (g1 : hh 87 x1 6 = x2) (p0 : zNI x0 x3 hh) : 0 ≤ -x2 := by
  grind [zNW, zTP, zJF, zJL, zJD, zJV, zJX, zJW, zJA, zPCB, zNI, zPS, zPX, zOB, zFO, zFX, zNF, zJS, zJE, zJO, zJa, zJb, zJc, zJcz, zJd, zJdt, zJe, zJg]
def sz_u48 : sx_Ru := ([(0, 7), (0, 7), (0, 1), (8, 8)], [], ([(87, [0, 0, 1], [4], [0, 1]), (87, [0, 0, 1], [6], [0, 0, 0, 1])], [(13, [[0, 1], [0, 0, 0, 0, 1]])]), (0, 0, [], [], []), [[0, 0, 0, -1]], [])
theorem zs_ni8 {hh : sx_H} {x0 x1 : Int} (l0 : 0 ≤ x0) (u0 : x0 ≤ 7) (l1 : 8 ≤ x1) (u1 : x1 ≤ 8) (p0 : zNI x0 x1 hh) : zNI x0 8 hh := by
  grind [zNW, zTP, zJF, zJL, zJD, zJV, zJX, zJW, zJA, zPCB, zNI, zPS, zPX, zOB, zFO, zFX, zNF, zJS, zJE, zJO, zJa, zJb, zJc, zJcz, zJd, zJdt, zJe, zJg]
def sz_u49 : sx_Ru := ([(0, 7), (8, 8)], [], ([], [(13, [[0, 1], [0, 0, 1]])]), (0, 0, [], [], []), [], [(13, [[0, 1], [8]])])
theorem zs_ps_so {hh hh' : sx_H} {x0 x1 x2 : Int} (l0 : 0 ≤ x0) (u0 : x0 ≤ 16) (l1 : 0 ≤ x1) (u1 : x1 ≤ 3) (l2 : -2147483648 ≤ x2) (u2 : x2 ≤ 2147483647) (p0 : zPS hh) (a0 : ∀ c g : Int, hh' 15 c g = if c = x0 ∧ g = x1 then x2 else hh 15 c g) (a1 : ∀ c g : Int, hh' 16 c g = hh 16 c g) (a2 : ∀ c g : Int, hh' 17 c g = hh 17 c g) : zPX x0 x1 hh' := by
  grind [zNW, zTP, zJF, zJL, zJD, zJV, zJX, zJW, zJA, zPCB, zNI, zPS, zPX, zOB, zFO, zFX, zNF, zJS, zJE, zJO, zJa, zJb, zJc, zJcz, zJd, zJdt, zJe, zJg]
def sz_u50 : sx_Ru := ([(0, 16), (0, 3), (-2147483648, 2147483647)], [], ([], [(14, [])]), (1, 15, [0, 1], [0, 0, 1], [0, 0, 0, 1]), [], [(15, [[0, 1], [0, 0, 1]])])
theorem zs_px_fi {hh hh' : sx_H} {x0 x1 x2 : Int} (l0 : 0 ≤ x0) (u0 : x0 ≤ 16) (l1 : 0 ≤ x1) (u1 : x1 ≤ 3) (l2 : -2147483648 ≤ x2) (u2 : x2 ≤ 2147483647) (p0 : zPX x0 x1 hh) (a0 : ∀ c g : Int, hh' 15 c g = hh 15 c g) (a1 : ∀ c g : Int, hh' 16 c g = if c = x0 ∧ g = x1 then x2 else hh 16 c g) (a2 : ∀ c g : Int, hh' 17 c g = hh 17 c g) : zPX x0 x1 hh' := by
  grind [zNW, zTP, zJF, zJL, zJD, zJV, zJX, zJW, zJA, zPCB, zNI, zPS, zPX, zOB, zFO, zFX, zNF, zJS, zJE, zJO, zJa, zJb, zJc, zJcz, zJd, zJdt, zJe, zJg]
def sz_u51 : sx_Ru := ([(0, 16), (0, 3), (-2147483648, 2147483647)], [], ([], [(15, [[0, 1], [0, 0, 1]])]), (1, 16, [0, 1], [0, 0, 1], [0, 0, 0, 1]), [], [(15, [[0, 1], [0, 0, 1]])])
theorem zs_px_se {hh hh' : sx_H} {x0 x1 x2 x3 : Int} (l0 : 0 ≤ x0) (u0 : x0 ≤ 16) (l1 : 0 ≤ x1) (u1 : x1 ≤ 3) (l2 : -2147483648 ≤ x2) (u2 : x2 ≤ 2147483647) (l3 : -2147483648 ≤ x3) (u3 : x3 ≤ 2147483647) (f0 : 0 ≤ -x2 + 3) (g0 : hh 15 x0 x1 = x2) (p0 : zPX x0 x1 hh) (a0 : ∀ c g : Int, hh' 15 c g = hh 15 c g) (a1 : ∀ c g : Int, hh' 16 c g = hh 16 c g) (a2 : ∀ c g : Int, hh' 17 c g = if c = x0 ∧ g = x1 then x3 else hh 17 c g) : zPS hh' := by
  grind [zNW, zTP, zJF, zJL, zJD, zJV, zJX, zJW, zJA, zPCB, zNI, zPS, zPX, zOB, zFO, zFX, zNF, zJS, zJE, zJO, zJa, zJb, zJc, zJcz, zJd, zJdt, zJe, zJg]
def sz_u52 : sx_Ru := ([(0, 16), (0, 3), (-2147483648, 2147483647), (-2147483648, 2147483647)], [[3, 0, 0, -1]], ([(15, [0, 1], [0, 0, 1], [0, 0, 0, 1])], [(15, [[0, 1], [0, 0, 1]])]), (1, 17, [0, 1], [0, 0, 1], [0, 0, 0, 0, 1]), [], [(14, [])])
theorem zs_px_se0 {hh hh' : sx_H} {x0 x1 x2 : Int} (l0 : 0 ≤ x0) (u0 : x0 ≤ 16) (l1 : 0 ≤ x1) (u1 : x1 ≤ 3) (l2 : 0 ≤ x2) (u2 : x2 ≤ 0) (p0 : zPX x0 x1 hh) (a0 : ∀ c g : Int, hh' 15 c g = hh 15 c g) (a1 : ∀ c g : Int, hh' 16 c g = hh 16 c g) (a2 : ∀ c g : Int, hh' 17 c g = if c = x0 ∧ g = x1 then x2 else hh 17 c g) : zPS hh' := by
  grind [zNW, zTP, zJF, zJL, zJD, zJV, zJX, zJW, zJA, zPCB, zNI, zPS, zPX, zOB, zFO, zFX, zNF, zJS, zJE, zJO, zJa, zJb, zJc, zJcz, zJd, zJdt, zJe, zJg]
def sz_u53 : sx_Ru := ([(0, 16), (0, 3), (0, 0)], [], ([], [(15, [[0, 1], [0, 0, 1]])]), (1, 17, [0, 1], [0, 0, 1], [0, 0, 0, 1]), [], [(14, [])])
theorem zs_px_se4 {hh hh' : sx_H} {x0 x1 x2 x3 : Int} (l0 : 0 ≤ x0) (u0 : x0 ≤ 16) (l1 : 0 ≤ x1) (u1 : x1 ≤ 3) (l2 : -2147483648 ≤ x2) (u2 : x2 ≤ 2147483647) (l3 : -2147483648 ≤ x3) (u3 : x3 ≤ 2147483647) (f0 : 0 ≤ x3) (f1 : 0 ≤ -x3 + 256) (f2 : 0 ≤ x2) (f3 : 0 ≤ -x2 - x3 + 8192) (g0 : hh 16 x0 x1 = x2) (p0 : zPX x0 x1 hh) (a0 : ∀ c g : Int, hh' 15 c g = hh 15 c g) (a1 : ∀ c g : Int, hh' 16 c g = hh 16 c g) (a2 : ∀ c g : Int, hh' 17 c g = if c = x0 ∧ g = x1 then x3 else hh 17 c g) : zPS hh' := by
  grind [zNW, zTP, zJF, zJL, zJD, zJV, zJX, zJW, zJA, zPCB, zNI, zPS, zPX, zOB, zFO, zFX, zNF, zJS, zJE, zJO, zJa, zJb, zJc, zJcz, zJd, zJdt, zJe, zJg]
def sz_u54 : sx_Ru := ([(0, 16), (0, 3), (-2147483648, 2147483647), (-2147483648, 2147483647)], [[0, 0, 0, 0, 1], [256, 0, 0, 0, -1], [0, 0, 0, 1], [8192, 0, 0, -1, -1]], ([(16, [0, 1], [0, 0, 1], [0, 0, 0, 1])], [(15, [[0, 1], [0, 0, 1]])]), (1, 17, [0, 1], [0, 0, 1], [0, 0, 0, 0, 1]), [], [(14, [])])
theorem zs_ps_fi {hh hh' : sx_H} {x0 x1 x2 x3 : Int} (l0 : 0 ≤ x0) (u0 : x0 ≤ 16) (l1 : 0 ≤ x1) (u1 : x1 ≤ 3) (l2 : -2147483648 ≤ x2) (u2 : x2 ≤ 2147483647) (l3 : -2147483648 ≤ x3) (u3 : x3 ≤ 2147483647) (f0 : 0 ≤ -x2 + 3) (g0 : hh 15 x0 x1 = x2) (p0 : zPS hh) (a0 : ∀ c g : Int, hh' 15 c g = hh 15 c g) (a1 : ∀ c g : Int, hh' 16 c g = if c = x0 ∧ g = x1 then x3 else hh 16 c g) (a2 : ∀ c g : Int, hh' 17 c g = hh 17 c g) : zPS hh' := by
  grind [zNW, zTP, zJF, zJL, zJD, zJV, zJX, zJW, zJA, zPCB, zNI, zPS, zPX, zOB, zFO, zFX, zNF, zJS, zJE, zJO, zJa, zJb, zJc, zJcz, zJd, zJdt, zJe, zJg]
def sz_u55 : sx_Ru := ([(0, 16), (0, 3), (-2147483648, 2147483647), (-2147483648, 2147483647)], [[3, 0, 0, -1]], ([(15, [0, 1], [0, 0, 1], [0, 0, 0, 1])], [(14, [])]), (1, 16, [0, 1], [0, 0, 1], [0, 0, 0, 0, 1]), [], [(14, [])])
theorem zs_ps_se {hh hh' : sx_H} {x0 x1 x2 x3 : Int} (l0 : 0 ≤ x0) (u0 : x0 ≤ 16) (l1 : 0 ≤ x1) (u1 : x1 ≤ 3) (l2 : -2147483648 ≤ x2) (u2 : x2 ≤ 2147483647) (l3 : -2147483648 ≤ x3) (u3 : x3 ≤ 2147483647) (f0 : 0 ≤ -x2 + 3) (g0 : hh 15 x0 x1 = x2) (p0 : zPS hh) (a0 : ∀ c g : Int, hh' 15 c g = hh 15 c g) (a1 : ∀ c g : Int, hh' 16 c g = hh 16 c g) (a2 : ∀ c g : Int, hh' 17 c g = if c = x0 ∧ g = x1 then x3 else hh 17 c g) : zPS hh' := by
  grind [zNW, zTP, zJF, zJL, zJD, zJV, zJX, zJW, zJA, zPCB, zNI, zPS, zPX, zOB, zFO, zFX, zNF, zJS, zJE, zJO, zJa, zJb, zJc, zJcz, zJd, zJdt, zJe, zJg]
def sz_u56 : sx_Ru := ([(0, 16), (0, 3), (-2147483648, 2147483647), (-2147483648, 2147483647)], [[3, 0, 0, -1]], ([(15, [0, 1], [0, 0, 1], [0, 0, 0, 1])], [(14, [])]), (1, 17, [0, 1], [0, 0, 1], [0, 0, 0, 0, 1]), [], [(14, [])])
theorem zs_ps_u {hh : sx_H} {x0 x1 x2 x3 : Int} (l0 : 0 ≤ x0) (u0 : x0 ≤ 16) (l1 : 0 ≤ x1) (u1 : x1 ≤ 3) (l2 : -2147483648 ≤ x2) (u2 : x2 ≤ 2147483647) (l3 : -2147483648 ≤ x3) (u3 : x3 ≤ 2147483647) (f0 : 0 ≤ x2 - 4) (g0 : hh 15 x0 x1 = x2) (g1 : hh 17 x0 x1 = x3) (p0 : zPS hh) : 0 ≤ x3 ∧ 0 ≤ -x3 + 256 := by
  grind [zNW, zTP, zJF, zJL, zJD, zJV, zJX, zJW, zJA, zPCB, zNI, zPS, zPX, zOB, zFO, zFX, zNF, zJS, zJE, zJO, zJa, zJb, zJc, zJcz, zJd, zJdt, zJe, zJg]
def sz_u57 : sx_Ru := ([(0, 16), (0, 3), (-2147483648, 2147483647), (-2147483648, 2147483647)], [[-4, 0, 0, 1]], ([(15, [0, 1], [0, 0, 1], [0, 0, 0, 1]), (17, [0, 1], [0, 0, 1], [0, 0, 0, 0, 1])], [(14, [])]), (0, 0, [], [], []), [[0, 0, 0, 0, 1], [256, 0, 0, 0, -1]], [])
theorem zs_ps_u2 {hh : sx_H} {x0 x1 x2 x3 x4 : Int} (l0 : 0 ≤ x0) (u0 : x0 ≤ 16) (l1 : 0 ≤ x1) (u1 : x1 ≤ 3) (l2 : -2147483648 ≤ x2) (u2 : x2 ≤ 2147483647) (l3 : -2147483648 ≤ x3) (u3 : x3 ≤ 2147483647) (l4 : -2147483648 ≤ x4) (u4 : x4 ≤ 2147483647) (f0 : 0 ≤ x2 - 4) (f1 : 0 ≤ x3 - 1) (g0 : hh 15 x0 x1 = x2) (g1 : hh 17 x0 x1 = x3) (g2 : hh 16 x0 x1 = x4) (p0 : zPS hh) : 0 ≤ x4 ∧ 0 ≤ -x3 - x4 + 8192 := by
  grind [zNW, zTP, zJF, zJL, zJD, zJV, zJX, zJW, zJA, zPCB, zNI, zPS, zPX, zOB, zFO, zFX, zNF, zJS, zJE, zJO, zJa, zJb, zJc, zJcz, zJd, zJdt, zJe, zJg]
def sz_u58 : sx_Ru := ([(0, 16), (0, 3), (-2147483648, 2147483647), (-2147483648, 2147483647), (-2147483648, 2147483647)], [[-4, 0, 0, 1], [-1, 0, 0, 0, 1]], ([(15, [0, 1], [0, 0, 1], [0, 0, 0, 1]), (17, [0, 1], [0, 0, 1], [0, 0, 0, 0, 1]), (16, [0, 1], [0, 0, 1], [0, 0, 0, 0, 0, 1])], [(14, [])]), (0, 0, [], [], []), [[0, 0, 0, 0, 0, 1], [8192, 0, 0, 0, -1, -1]], [])
theorem zs_fo_d1 {hh hh' : sx_H} {x0 x1 x2 : Int} (l0 : 0 ≤ x0) (u0 : x0 ≤ 63) (l1 : 0 ≤ x1) (u1 : x1 ≤ 255) (l2 : -2147483648 ≤ x2) (u2 : x2 ≤ 2147483647) (p0 : zFO hh) (a0 : ∀ c g : Int, hh' 26 c g = hh 26 c g) (a1 : ∀ c g : Int, hh' 20 c g = if c = x0 ∧ g = x1 then x2 else hh 20 c g) : zFX x0 hh' := by
  grind [zNW, zTP, zJF, zJL, zJD, zJV, zJX, zJW, zJA, zPCB, zNI, zPS, zPX, zOB, zFO, zFX, zNF, zJS, zJE, zJO, zJa, zJb, zJc, zJcz, zJd, zJdt, zJe, zJg]
def sz_u59 : sx_Ru := ([(0, 63), (0, 255), (-2147483648, 2147483647)], [], ([], [(16, [])]), (1, 20, [0, 1], [0, 0, 1], [0, 0, 0, 1]), [], [(17, [[0, 1]])])
theorem zs_fo_d2 {hh hh' : sx_H} {x0 : Int} (l0 : 0 ≤ x0) (u0 : x0 ≤ 63) (p0 : zFO hh) (a0 : ∀ c g : Int, hh' 26 c g = hh 26 c g) (a1 : ∀ c g : Int, ¬ c = x0 → hh' 20 c g = hh 20 c g) : zFX x0 hh' := by
  grind [zNW, zTP, zJF, zJL, zJD, zJV, zJX, zJW, zJA, zPCB, zNI, zPS, zPX, zOB, zFO, zFX, zNF, zJS, zJE, zJO, zJa, zJb, zJc, zJcz, zJd, zJdt, zJe, zJg]
def sz_u60 : sx_Ru := ([(0, 63)], [], ([], [(16, [])]), (2, 20, [0, 1], [], []), [], [(17, [[0, 1]])])
theorem zs_fx_d2 {hh hh' : sx_H} {x0 : Int} (l0 : 0 ≤ x0) (u0 : x0 ≤ 63) (p0 : zFX x0 hh) (a0 : ∀ c g : Int, hh' 26 c g = hh 26 c g) (a1 : ∀ c g : Int, ¬ c = x0 → hh' 20 c g = hh 20 c g) : zFX x0 hh' := by
  grind [zNW, zTP, zJF, zJL, zJD, zJV, zJX, zJW, zJA, zPCB, zNI, zPS, zPX, zOB, zFO, zFX, zNF, zJS, zJE, zJO, zJa, zJb, zJc, zJcz, zJd, zJdt, zJe, zJg]
def sz_u61 : sx_Ru := ([(0, 63)], [], ([], [(17, [[0, 1]])]), (2, 20, [0, 1], [], []), [], [(17, [[0, 1]])])
theorem zs_fx_f {hh hh' : sx_H} {x0 : Int} (l0 : 0 ≤ x0) (u0 : x0 ≤ 63) (p0 : zFX x0 hh) (a0 : ∀ c g : Int, hh' 26 c g = if c = 0 ∧ g = x0 then 0 else hh 26 c g) (a1 : ∀ c g : Int, hh' 20 c g = hh 20 c g) : zFO hh' := by
  grind [zNW, zTP, zJF, zJL, zJD, zJV, zJX, zJW, zJA, zPCB, zNI, zPS, zPX, zOB, zFO, zFX, zNF, zJS, zJE, zJO, zJa, zJb, zJc, zJcz, zJd, zJdt, zJe, zJg]
def sz_u62 : sx_Ru := ([(0, 63)], [], ([], [(17, [[0, 1]])]), (1, 26, [], [0, 1], []), [], [(16, [])])
theorem zs_fo_f {hh hh' : sx_H} {x0 x1 : Int} (l0 : 0 ≤ x0) (u0 : x0 ≤ 63) (l1 : -2147483648 ≤ x1) (u1 : x1 ≤ 2147483647) (p0 : zFO hh) (p1 : zOB x0 hh) (a0 : ∀ c g : Int, hh' 26 c g = if c = 0 ∧ g = x0 then x1 else hh 26 c g) (a1 : ∀ c g : Int, hh' 20 c g = hh 20 c g) : zFO hh' := by
  grind [zNW, zTP, zJF, zJL, zJD, zJV, zJX, zJW, zJA, zPCB, zNI, zPS, zPX, zOB, zFO, zFX, zNF, zJS, zJE, zJO, zJa, zJb, zJc, zJcz, zJd, zJdt, zJe, zJg]
def sz_u63 : sx_Ru := ([(0, 63), (-2147483648, 2147483647)], [], ([], [(16, []), (18, [[0, 1]])]), (1, 26, [], [0, 1], [0, 0, 1]), [], [(16, [])])
theorem zs_fo_f1 {hh hh' : sx_H} {x0 x1 : Int} (l0 : 0 ≤ x0) (u0 : x0 ≤ 63) (l1 : -2147483648 ≤ x1) (u1 : x1 ≤ 2147483647) (f0 : 0 ≤ -x1 + 1) (p0 : zFO hh) (a0 : ∀ c g : Int, hh' 26 c g = if c = 0 ∧ g = x0 then x1 else hh 26 c g) (a1 : ∀ c g : Int, hh' 20 c g = hh 20 c g) : zFO hh' := by
  grind [zNW, zTP, zJF, zJL, zJD, zJV, zJX, zJW, zJA, zPCB, zNI, zPS, zPX, zOB, zFO, zFX, zNF, zJS, zJE, zJO, zJa, zJb, zJc, zJcz, zJd, zJdt, zJe, zJg]
def sz_u64 : sx_Ru := ([(0, 63), (-2147483648, 2147483647)], [[1, 0, -1]], ([], [(16, [])]), (1, 26, [], [0, 1], [0, 0, 1]), [], [(16, [])])
theorem zs_fo_use {hh : sx_H} {x0 x1 : Int} (l0 : 0 ≤ x0) (u0 : x0 ≤ 63) (l1 : -2147483648 ≤ x1) (u1 : x1 ≤ 2147483647) (f0 : 0 ≤ x1 - 2) (f1 : 0 ≤ -x1 + 2) (g0 : hh 26 0 x0 = x1) (p0 : zFO hh) : zOB x0 hh := by
  grind [zNW, zTP, zJF, zJL, zJD, zJV, zJX, zJW, zJA, zPCB, zNI, zPS, zPX, zOB, zFO, zFX, zNF, zJS, zJE, zJO, zJa, zJb, zJc, zJcz, zJd, zJdt, zJe, zJg]
def sz_u65 : sx_Ru := ([(0, 63), (-2147483648, 2147483647)], [[-2, 0, 1], [2, 0, -1]], ([(26, [], [0, 1], [0, 0, 1])], [(16, [])]), (0, 0, [], [], []), [], [(18, [[0, 1]])])
theorem zs_ob_m1 {hh : sx_H} {x0 x1 x2 : Int} (l0 : 0 ≤ x0) (u0 : x0 ≤ 63) (l1 : -128 ≤ x1) (u1 : x1 ≤ 127) (l2 : -128 ≤ x2) (u2 : x2 ≤ 127) (f0 : 0 ≤ x1) (f1 : 0 ≤ -(256 * x1) - x2 + 512) (f2 : 0 ≤ x2) (g0 : hh 20 x0 18 = x1) (g1 : hh 20 x0 19 = x2) : zOB x0 hh := by
  grind [zNW, zTP, zJF, zJL, zJD, zJV, zJX, zJW, zJA, zPCB, zNI, zPS, zPX, zOB, zFO, zFX, zNF, zJS, zJE, zJO, zJa, zJb, zJc, zJcz, zJd, zJdt, zJe, zJg]
def sz_u66 : sx_Ru := ([(0, 63), (-128, 127), (-128, 127)], [[0, 0, 1], [512, 0, -256, -1], [0, 0, 0, 1]], ([(20, [0, 1], [18], [0, 0, 1]), (20, [0, 1], [19], [0, 0, 0, 1])], []), (0, 0, [], [], []), [], [(18, [[0, 1]])])
theorem zs_ob_m2 {hh : sx_H} {x0 x1 x2 : Int} (l0 : 0 ≤ x0) (u0 : x0 ≤ 63) (l1 : -128 ≤ x1) (u1 : x1 ≤ 127) (l2 : -128 ≤ x2) (u2 : x2 ≤ 127) (f0 : 0 ≤ x1) (f1 : 0 ≤ -(256 * x1) - x2 + 256) (f2 : 0 ≤ -x2 - 1) (g0 : hh 20 x0 18 = x1) (g1 : hh 20 x0 19 = x2) : zOB x0 hh := by
  grind [zNW, zTP, zJF, zJL, zJD, zJV, zJX, zJW, zJA, zPCB, zNI, zPS, zPX, zOB, zFO, zFX, zNF, zJS, zJE, zJO, zJa, zJb, zJc, zJcz, zJd, zJdt, zJe, zJg]
def sz_u67 : sx_Ru := ([(0, 63), (-128, 127), (-128, 127)], [[0, 0, 1], [256, 0, -256, -1], [-1, 0, 0, -1]], ([(20, [0, 1], [18], [0, 0, 1]), (20, [0, 1], [19], [0, 0, 0, 1])], []), (0, 0, [], [], []), [], [(18, [[0, 1]])])
theorem zs_ob_h {hh : sx_H} {x0 x1 : Int} (l0 : 0 ≤ x0) (u0 : x0 ≤ 63) (l1 : -128 ≤ x1) (u1 : x1 ≤ 127) (g0 : hh 20 x0 18 = x1) (p0 : zOB x0 hh) : 0 ≤ x1 ∧ 0 ≤ -x1 + 2 := by
  grind [zNW, zTP, zJF, zJL, zJD, zJV, zJX, zJW, zJA, zPCB, zNI, zPS, zPX, zOB, zFO, zFX, zNF, zJS, zJE, zJO, zJa, zJb, zJc, zJcz, zJd, zJdt, zJe, zJg]
def sz_u68 : sx_Ru := ([(0, 63), (-128, 127)], [], ([(20, [0, 1], [18], [0, 0, 1])], [(18, [[0, 1]])]), (0, 0, [], [], []), [[0, 0, 1], [2, 0, -1]], [])
theorem zs_ob_l {hh : sx_H} {x0 x1 x2 : Int} (l0 : 0 ≤ x0) (u0 : x0 ≤ 63) (l1 : -128 ≤ x1) (u1 : x1 ≤ 127) (l2 : -128 ≤ x2) (u2 : x2 ≤ 127) (f0 : 0 ≤ x2) (g0 : hh 20 x0 18 = x1) (g1 : hh 20 x0 19 = x2) (p0 : zOB x0 hh) : 0 ≤ -(256 * x1) - x2 + 512 := by
  grind [zNW, zTP, zJF, zJL, zJD, zJV, zJX, zJW, zJA, zPCB, zNI, zPS, zPX, zOB, zFO, zFX, zNF, zJS, zJE, zJO, zJa, zJb, zJc, zJcz, zJd, zJdt, zJe, zJg]
def sz_u69 : sx_Ru := ([(0, 63), (-128, 127), (-128, 127)], [[0, 0, 0, 1]], ([(20, [0, 1], [18], [0, 0, 1]), (20, [0, 1], [19], [0, 0, 0, 1])], [(18, [[0, 1]])]), (0, 0, [], [], []), [[512, 0, -256, -1]], [])
theorem zs_ob_l2 {hh : sx_H} {x0 x1 x2 : Int} (l0 : 0 ≤ x0) (u0 : x0 ≤ 63) (l1 : -128 ≤ x1) (u1 : x1 ≤ 127) (l2 : -128 ≤ x2) (u2 : x2 ≤ 127) (f0 : 0 ≤ -x2 - 1) (g0 : hh 20 x0 18 = x1) (g1 : hh 20 x0 19 = x2) (p0 : zOB x0 hh) : 0 ≤ -x1 + 1 := by
  grind [zNW, zTP, zJF, zJL, zJD, zJV, zJX, zJW, zJA, zPCB, zNI, zPS, zPX, zOB, zFO, zFX, zNF, zJS, zJE, zJO, zJa, zJb, zJc, zJcz, zJd, zJdt, zJe, zJg]
def sz_u70 : sx_Ru := ([(0, 63), (-128, 127), (-128, 127)], [[-1, 0, 0, -1]], ([(20, [0, 1], [18], [0, 0, 1]), (20, [0, 1], [19], [0, 0, 0, 1])], [(18, [[0, 1]])]), (0, 0, [], [], []), [[1, 0, -1]], [])
theorem zs_cf0 {hh : sx_H} : zCF 0 0 hh := by
  unfold zCF
  simp [zcf]
def sz_u71 : sx_Ru := ([], [], ([], []), (0, 0, [], [], []), [], [(19, [[], []])])
theorem zs_cf_1 {hh : sx_H} {x0 x1 x2 : Int} (l0 : 0 ≤ x0) (u0 : x0 ≤ 32) (l1 : 0 ≤ x1) (u1 : x1 ≤ 32) (l2 : 1 ≤ x2) (u2 : x2 ≤ 1) (g0 : hh 1 0 x0 = x2) (p0 : zCF x0 x1 hh) : zCF (x0 + 1) (x1 + 1) hh := by
  unfold zCF at *
  have e : (x0 + 1).toNat = x0.toNat + 1 := by omega
  rw [e]
  simp only [zcf]
  have h : ((x0.toNat : Nat) : Int) = x0 := by omega
  rw [h, if_pos (by omega)]
  omega
def sz_u72 : sx_Ru := ([(0, 32), (0, 32), (1, 1)], [], ([(1, [], [0, 1], [0, 0, 0, 1])], [(19, [[0, 1], [0, 0, 1]])]), (0, 0, [], [], []), [], [(19, [[1, 1], [1, 0, 1]])])
theorem zs_cf_0 {hh : sx_H} {x0 x1 x2 : Int} (l0 : 0 ≤ x0) (u0 : x0 ≤ 32) (l1 : 0 ≤ x1) (u1 : x1 ≤ 32) (l2 : 0 ≤ x2) (u2 : x2 ≤ 3) (g0 : hh 1 0 x0 = x2) (p0 : zCF x0 x1 hh) : zCF (x0 + 1) x1 hh := by
  unfold zCF at *
  have e : (x0 + 1).toNat = x0.toNat + 1 := by omega
  rw [e]
  simp only [zcf]
  split <;> omega
def sz_u73 : sx_Ru := ([(0, 32), (0, 32), (0, 3)], [], ([(1, [], [0, 1], [0, 0, 0, 1])], [(19, [[0, 1], [0, 0, 1]])]), (0, 0, [], [], []), [], [(19, [[1, 1], [0, 0, 1]])])
theorem zs_cf_le {hh : sx_H} {x0 x1 x2 : Int} (l0 : 0 ≤ x0) (u0 : x0 ≤ 32) (l1 : 0 ≤ x1) (u1 : x1 ≤ 32) (l2 : 32 ≤ x2) (u2 : x2 ≤ 32) (f0 : 0 ≤ x0 - x1) (p0 : zCF x2 x0 hh) : zCF 32 x1 hh := by
  obtain rfl : x2 = 32 := by omega
  unfold zCF at *
  omega
def sz_u74 : sx_Ru := ([(0, 32), (0, 32), (32, 32)], [[0, 1, -1]], ([], [(19, [[0, 0, 0, 1], [0, 1]])]), (0, 0, [], [], []), [], [(19, [[32], [0, 0, 1]])])
theorem zs_cf_w {hh hh' : sx_H} {x0 x1 x2 x3 : Int} (l0 : 0 ≤ x0) (u0 : x0 ≤ 32) (l1 : 0 ≤ x1) (u1 : x1 ≤ 32) (l2 : 0 ≤ x2) (u2 : x2 ≤ 3) (l3 : 32 ≤ x3) (u3 : x3 ≤ 32) (f0 : 0 ≤ -x1 + 31) (p0 : zCF x3 x0 hh) (a0 : ∀ c g : Int, hh' 1 c g = if c = 0 ∧ g = x1 then x2 else hh 1 c g) : zCF x3 (x0 - 1) hh' := by
  unfold zCF at *
  have := zcf_up (hh 1 0) (hh' 1 0) x1 x3.toNat (fun i hi => by rw [a0]; exact if_neg (fun q => hi q.2))
  omega
def sz_u75 : sx_Ru := ([(0, 32), (0, 32), (0, 3), (32, 32)], [[31, 0, -1]], ([], [(19, [[0, 0, 0, 0, 1], [0, 1]])]), (1, 1, [], [0, 0, 1], [0, 0, 0, 1]), [], [(19, [[0, 0, 0, 0, 1], [-1, 1]])])
theorem zs_nf0 {hh : sx_H} : zNF 0 hh := by
  grind [zNW, zTP, zJF, zJL, zJD, zJV, zJX, zJW, zJA, zPCB, zNI, zPS, zPX, zOB, zFO, zFX, zNF, zJS, zJE, zJO, zJa, zJb, zJc, zJcz, zJd, zJdt, zJe, zJg]
def sz_u76 : sx_Ru := ([], [], ([], []), (0, 0, [], [], []), [], [(20, [[]])])
theorem zs_nf_1 {hh : sx_H} {x0 x1 : Int} (l0 : 0 ≤ x0) (u0 : x0 ≤ 32) (l1 : 0 ≤ x1) (u1 : x1 ≤ 3) (f0 : 0 ≤ x1 - 2) (g0 : hh 1 0 x0 = x1) (p0 : zNF x0 hh) : zNF (x0 + 1) hh := by
  grind [zNW, zTP, zJF, zJL, zJD, zJV, zJX, zJW, zJA, zPCB, zNI, zPS, zPX, zOB, zFO, zFX, zNF, zJS, zJE, zJO, zJa, zJb, zJc, zJcz, zJd, zJdt, zJe, zJg]
def sz_u77 : sx_Ru := ([(0, 32), (0, 3)], [[-2, 0, 1]], ([(1, [], [0, 1], [0, 0, 1])], [(20, [[0, 1]])]), (0, 0, [], [], []), [], [(20, [[1, 1]])])
theorem zs_nf_2 {hh : sx_H} {x0 x1 : Int} (l0 : 0 ≤ x0) (u0 : x0 ≤ 32) (l1 : 0 ≤ x1) (u1 : x1 ≤ 3) (f0 : 0 ≤ -x1) (g0 : hh 1 0 x0 = x1) (p0 : zNF x0 hh) : zNF (x0 + 1) hh := by
  grind [zNW, zTP, zJF, zJL, zJD, zJV, zJX, zJW, zJA, zPCB, zNI, zPS, zPX, zOB, zFO, zFX, zNF, zJS, zJE, zJO, zJa, zJb, zJc, zJcz, zJd, zJdt, zJe, zJg]
def sz_u78 : sx_Ru := ([(0, 32), (0, 3)], [[0, 0, -1]], ([(1, [], [0, 1], [0, 0, 1])], [(20, [[0, 1]])]), (0, 0, [], [], []), [], [(20, [[1, 1]])])
theorem zs_nf_use {hh : sx_H} {x0 x1 x2 : Int} (l0 : 0 ≤ x0) (u0 : x0 ≤ 32) (l1 : 32 ≤ x1) (u1 : x1 ≤ 32) (l2 : 32 ≤ x2) (u2 : x2 ≤ 32) (f0 : 0 ≤ x0 - 1) (p0 : zNF x1 hh) (p1 : zCF x2 x0 hh) : 0 ≤ -1 := by
  unfold zCF at p1
  have := zcf_none (hh 1 0) x2.toNat (fun i a b => p0 i a (by omega))
  omega
def sz_u79 : sx_Ru := ([(0, 32), (32, 32), (32, 32)], [[-1, 1]], ([], [(20, [[0, 0, 1]]), (19, [[0, 0, 0, 1], [0, 1]])]), (0, 0, [], [], []), [[-1]], [])
theorem sz_k0 : sx_Rk sz_pr sz_u0 := by
  intro r hh hh' hb hF hG hP hw
  obtain ⟨x0, r0, e0, l0, u0, hb⟩ := sz_bc hb
  obtain ⟨x1, r1, e1, l1, u1, hb⟩ := sz_bc hb
  obtain ⟨x2, r2, e2, l2, u2, hb⟩ := sz_bc hb
  have hbn := sz_bn hb
  subst hbn
  subst e2
  subst e1
  subst e0
  have E0 : sx_ev [-1, 0, 1] [x0, x1, x2] = x1 - 1 := by simp [sx_ev, sx_dot] <;> omega
  have E1 : sx_ev [0, 1] [x0, x1, x2] = x0 := by simp [sx_ev, sx_dot] <;> omega
  have E2 : sx_ev [6] [x0, x1, x2] = 6 := by simp [sx_ev, sx_dot] <;> omega
  have E3 : sx_ev [0, 0, 1] [x0, x1, x2] = x1 := by simp [sx_ev, sx_dot] <;> omega
  have E4 : sx_ev [0, 0, 0, 1] [x0, x1, x2] = x2 := by simp [sx_ev, sx_dot] <;> omega
  have f0 := hF [-1, 0, 1] List.mem_cons_self
  rw [E0] at f0
  have g0 := hG (88, [0, 1], [6], [0, 0, 1]) List.mem_cons_self
  dsimp only at g0
  rw [E1, E2, E3] at g0
  have g1 := hG (14, [0, 1], [-1, 0, 1], [0, 0, 0, 1]) (List.mem_cons_of_mem _ List.mem_cons_self)
  dsimp only at g1
  rw [E1, E0, E4] at g1
  have p0 := hP (0, []) List.mem_cons_self
  have p0 : sz_pr 0 [] hh := p0
  have hw := sz_w0 hw
  rw [hw]
  have hz := zs_tp (hh := hh) l0 u0 l1 u1 l2 u2 f0 g0 g1 p0
  refine ⟨fun f hf => ?_, fun q hq => ?_⟩
  · cases hf
  · rcases List.mem_cons.mp hq with rfl | hq
    · show sz_pr 2 [sx_ev [0, 1] [x0, x1, x2], sx_ev [0, 0, 0, 1] [x0, x1, x2]] _
      rw [E1, E4]
      exact hz.1
    obtain rfl := List.mem_singleton.mp hq
    show sz_pr 1 [sx_ev [0, 0, 0, 1] [x0, x1, x2]] _
    rw [E4]
    exact hz.2
theorem sz_k1 : sx_Rk sz_pr sz_u1 := by
  intro r hh hh' hb hF hG hP hw
  obtain ⟨x0, r0, e0, l0, u0, hb⟩ := sz_bc hb
  obtain ⟨x1, r1, e1, l1, u1, hb⟩ := sz_bc hb
  obtain ⟨x2, r2, e2, l2, u2, hb⟩ := sz_bc hb
  have hbn := sz_bn hb
  subst hbn
  subst e2
  subst e1
  subst e0
  have E0 : sx_ev [0, 1] [x0, x1, x2] = x0 := by simp [sx_ev, sx_dot] <;> omega
  have E1 : sx_ev [6] [x0, x1, x2] = 6 := by simp [sx_ev, sx_dot] <;> omega
  have E2 : sx_ev [0, 0, 0, 1] [x0, x1, x2] = x2 := by simp [sx_ev, sx_dot] <;> omega
  have E3 : sx_ev [0, 0, 1] [x0, x1, x2] = x1 := by simp [sx_ev, sx_dot] <;> omega
  have E4 : sx_ev [-1, 0, 0, 1] [x0, x1, x2] = x2 - 1 := by simp [sx_ev, sx_dot] <;> omega
  have g0 := hG (88, [0, 1], [6], [0, 0, 0, 1]) List.mem_cons_self
  dsimp only at g0
  rw [E0, E1, E2] at g0
  have p0 := hP (2, [[0, 1], [0, 0, 1]]) List.mem_cons_self
  have p0 : sz_pr 2 [sx_ev [0, 1] [x0, x1, x2], sx_ev [0, 0, 1] [x0, x1, x2]] hh := p0
  rw [E0, E3] at p0
  have hw := sz_w0 hw
  rw [hw]
  have hz := zs_tp_r (hh := hh) l0 u0 l1 u1 l2 u2 g0 p0
  refine ⟨fun f hf => ?_, fun q hq => ?_⟩
  · rw [List.mem_singleton.mp hf, E4]
    exact hz
  · cases hq
theorem sz_k2 : sx_Rk sz_pr sz_u2 := by
  intro r hh hh' hb hF hG hP hw
  obtain ⟨x0, r0, e0, l0, u0, hb⟩ := sz_bc hb
  obtain ⟨x1, r1, e1, l1, u1, hb⟩ := sz_bc hb
  have hbn := sz_bn hb
  subst hbn
  subst e1
  subst e0
  have E0 : sx_ev [0, 1] [x0, x1] = x0 := by simp [sx_ev, sx_dot] <;> omega
  have E1 : sx_ev [0, 0, 1] [x0, x1] = x1 := by simp [sx_ev, sx_dot] <;> omega
  have p0 := hP (0, []) List.mem_cons_self
  have p0 : sz_pr 0 [] hh := p0
  have p1 := hP (11, []) (List.mem_cons_of_mem _ List.mem_cons_self)
  have p1 : sz_pr 11 [] hh := p1
  have p2 := hP (2, [[0, 1], [0, 0, 1]]) (List.mem_cons_of_mem _ (List.mem_cons_of_mem _ List.mem_cons_self))
  have p2 : sz_pr 2 [sx_ev [0, 1] [x0, x1], sx_ev [0, 0, 1] [x0, x1]] hh := p2
  rw [E0, E1] at p2
  have hw := sz_w0 hw
  rw [hw]
  have hz := zs_pcb (hh := hh) l0 u0 l1 u1 p0 p1 p2
  refine ⟨fun f hf => ?_, fun q hq => ?_⟩
  · cases hf
  · obtain rfl := List.mem_singleton.mp hq
    show sz_pr 12 [sx_ev [0, 0, 1] [x0, x1]] _
    rw [E1]
    exact hz
theorem sz_k3 : sx_Rk sz_pr sz_u3 := by
  intro r hh hh' hb hF hG hP hw
  obtain ⟨x0, r0, e0, l0, u0, hb⟩ := sz_bc hb
  obtain ⟨x1, r1, e1, l1, u1, hb⟩ := sz_bc hb
  have hbn := sz_bn hb
  subst hbn
  subst e1
  subst e0
  have E0 : sx_ev [-1, 0, 1] [x0, x1] = x1 - 1 := by simp [sx_ev, sx_dot] <;> omega
  have E1 : sx_ev [0, 1] [x0, x1] = x0 := by simp [sx_ev, sx_dot] <;> omega
  have E2 : sx_ev [6] [x0, x1] = 6 := by simp [sx_ev, sx_dot] <;> omega
  have E3 : sx_ev [0, 0, 1] [x0, x1] = x1 := by simp [sx_ev, sx_dot] <;> omega
  have E4 : sx_ev [-1, 1] [x0, x1] = x0 - 1 := by simp [sx_ev, sx_dot] <;> omega
  have f0 := hF [-1, 0, 1] List.mem_cons_self
  rw [E0] at f0
  have g0 := hG (88, [0, 1], [6], [0, 0, 1]) List.mem_cons_self
  dsimp only at g0
  rw [E1, E2, E3] at g0
  have p0 := hP (0, []) List.mem_cons_self
  have p0 : sz_pr 0 [] hh := p0
  have hw := sz_w0 hw
  rw [hw]
  have hz := zs_spos (hh := hh) l0 u0 l1 u1 f0 g0 p0
  refine ⟨fun f hf => ?_, fun q hq => ?_⟩
  · rw [List.mem_singleton.mp hf, E4]
    exact hz
  · cases hq
theorem sz_k4 : sx_Rk sz_pr sz_u4 := by
  intro r hh hh' hb hF hG hP hw
  obtain ⟨x0, r0, e0, l0, u0, hb⟩ := sz_bc hb
  obtain ⟨x1, r1, e1, l1, u1, hb⟩ := sz_bc hb
  have hbn := sz_bn hb
  subst hbn
  subst e1
  subst e0
  have E0 : sx_ev [0, 1] [x0, x1] = x0 := by simp [sx_ev, sx_dot] <;> omega
  have E1 : sx_ev [15] [x0, x1] = 15 := by simp [sx_ev, sx_dot] <;> omega
  have E2 : sx_ev [0, 0, 1] [x0, x1] = x1 := by simp [sx_ev, sx_dot] <;> omega
  have p0 := hP (0, []) List.mem_cons_self
  have p0 : sz_pr 0 [] hh := p0
  have p1 := hP (1, [[0, 1]]) (List.mem_cons_of_mem _ List.mem_cons_self)
  have p1 : sz_pr 1 [sx_ev [0, 1] [x0, x1]] hh := p1
  rw [E0] at p1
  have hu := sz_w1 hw
  rw [E0, E1, E2] at hu
  have hz := zs_w_dep (hh := hh) (hh' := hh') l0 u0 l1 u1 p0 p1 (fun c => by rw [hu]; exact if_neg (by omega)) (fun c => by rw [hu]; exact if_neg (by omega)) (fun c => by rw [hu]; simp) (fun c => by rw [hu]; exact if_neg (by omega)) (fun c => by rw [hu]; exact if_neg (by omega)) (fun c => by rw [hu]; exact if_neg (by omega)) (fun c g => by rw [hu]; exact if_neg (by omega))
  refine ⟨fun f hf => ?_, fun q hq => ?_⟩
  · cases hf
  · obtain rfl := List.mem_singleton.mp hq
    show sz_pr 0 [] _
    exact hz
theorem sz_k5 : sx_Rk sz_pr sz_u5 := by
  intro r hh hh' hb hF hG hP hw
  obtain ⟨x0, r0, e0, l0, u0, hb⟩ := sz_bc hb
  obtain ⟨x1, r1, e1, l1, u1, hb⟩ := sz_bc hb
  have hbn := sz_bn hb
  subst hbn
  subst e1
  subst e0
  have E0 : sx_ev [0, 1] [x0, x1] = x0 := by simp [sx_ev, sx_dot] <;> omega
  have E1 : sx_ev [13] [x0, x1] = 13 := by simp [sx_ev, sx_dot] <;> omega
  have E2 : sx_ev [0, 0, 1] [x0, x1] = x1 := by simp [sx_ev, sx_dot] <;> omega
  have g0 := hG (87, [0, 1], [13], [0, 0, 1]) List.mem_cons_self
  dsimp only at g0
  rw [E0, E1, E2] at g0
  have p0 := hP (0, []) List.mem_cons_self
  have p0 : sz_pr 0 [] hh := p0
  have hw := sz_w0 hw
  rw [hw]
  have hz := zs_jf_ses (hh := hh) l0 u0 l1 u1 g0 p0
  refine ⟨fun f hf => ?_, fun q hq => ?_⟩
  · cases hf
  · rcases List.mem_cons.mp hq with rfl | hq
    · show sz_pr 3 [sx_ev [0, 1] [x0, x1]] _
      rw [E0]
      exact hz.1
    obtain rfl := List.mem_singleton.mp hq
    show sz_pr 1 [sx_ev [0, 1] [x0, x1]] _
    rw [E0]
    exact hz.2
theorem sz_k6 : sx_Rk sz_pr sz_u6 := by
  intro r hh hh' hb hF hG hP hw
  obtain ⟨x0, r0, e0, l0, u0, hb⟩ := sz_bc hb
  obtain ⟨x1, r1, e1, l1, u1, hb⟩ := sz_bc hb
  have hbn := sz_bn hb
  subst hbn
  subst e1
  subst e0
  have E0 : sx_ev [0, 1] [x0, x1] = x0 := by simp [sx_ev, sx_dot] <;> omega
  have E1 : sx_ev [6] [x0, x1] = 6 := by simp [sx_ev, sx_dot] <;> omega
  have E2 : sx_ev [0, 0, 1] [x0, x1] = x1 := by simp [sx_ev, sx_dot] <;> omega
  have g0 := hG (87, [0, 1], [6], [0, 0, 1]) List.mem_cons_self
  dsimp only at g0
  rw [E0, E1, E2] at g0
  have p0 := hP (0, []) List.mem_cons_self
  have p0 : sz_pr 0 [] hh := p0
  have hw := sz_w0 hw
  rw [hw]
  have hz := zs_jf_in (hh := hh) l0 u0 l1 u1 g0 p0
  refine ⟨fun f hf => ?_, fun q hq => ?_⟩
  · cases hf
  · obtain rfl := List.mem_singleton.mp hq
    show sz_pr 3 [sx_ev [0, 1] [x0, x1]] _
    rw [E0]
    exact hz
theorem sz_k7 : sx_Rk sz_pr sz_u7 := by
  intro r hh hh' hb hF hG hP hw
  obtain ⟨x0, r0, e0, l0, u0, hb⟩ := sz_bc hb
  obtain ⟨x1, r1, e1, l1, u1, hb⟩ := sz_bc hb
  have hbn := sz_bn hb
  subst hbn
  subst e1
  subst e0
  have E0 : sx_ev [0, 1] [x0, x1] = x0 := by simp [sx_ev, sx_dot] <;> omega
  have E1 : sx_ev [13] [x0, x1] = 13 := by simp [sx_ev, sx_dot] <;> omega
  have E2 : sx_ev [0, 0, 1] [x0, x1] = x1 := by simp [sx_ev, sx_dot] <;> omega
  have p0 := hP (0, []) List.mem_cons_self
  have p0 : sz_pr 0 [] hh := p0
  have p1 := hP (3, [[0, 1]]) (List.mem_cons_of_mem _ List.mem_cons_self)
  have p1 : sz_pr 3 [sx_ev [0, 1] [x0, x1]] hh := p1
  rw [E0] at p1
  have hu := sz_w1 hw
  rw [E0, E1, E2] at hu
  have hz := zs_w_ses (hh := hh) (hh' := hh') l0 u0 l1 u1 p0 p1 (fun c => by rw [hu]; exact if_neg (by omega)) (fun c => by rw [hu]; simp) (fun c => by rw [hu]; exact if_neg (by omega)) (fun c => by rw [hu]; exact if_neg (by omega)) (fun c => by rw [hu]; exact if_neg (by omega)) (fun c => by rw [hu]; exact if_neg (by omega)) (fun c g => by rw [hu]; exact if_neg (by omega))
  refine ⟨fun f hf => ?_, fun q hq => ?_⟩
  · cases hf
  · obtain rfl := List.mem_singleton.mp hq
    show sz_pr 0 [] _
    exact hz
theorem sz_k8 : sx_Rk sz_pr sz_u8 := by
  intro r hh hh' hb hF hG hP hw
  obtain ⟨x0, r0, e0, l0, u0, hb⟩ := sz_bc hb
  obtain ⟨x1, r1, e1, l1, u1, hb⟩ := sz_bc hb
  obtain ⟨x2, r2, e2, l2, u2, hb⟩ := sz_bc hb
  obtain ⟨x3, r3, e3, l3, u3, hb⟩ := sz_bc hb
  have hbn := sz_bn hb
  subst hbn
  subst e3
  subst e2
  subst e1
  subst e0
  have E0 : sx_ev [0, 1] [x0, x1, x2, x3] = x0 := by simp [sx_ev, sx_dot] <;> omega
  have E1 : sx_ev [6] [x0, x1, x2, x3] = 6 := by simp [sx_ev, sx_dot] <;> omega
  have E2 : sx_ev [0, 0, 1] [x0, x1, x2, x3] = x1 := by simp [sx_ev, sx_dot] <;> omega
  have E3 : sx_ev [0, 0, 0, 1] [x0, x1, x2, x3] = x2 := by simp [sx_ev, sx_dot] <;> omega
  have E4 : sx_ev [0, 0, 0, 0, 1] [x0, x1, x2, x3] = x3 := by simp [sx_ev, sx_dot] <;> omega
  have g0 := hG (88, [0, 1], [6], [0, 0, 1]) List.mem_cons_self
  dsimp only at g0
  rw [E0, E1, E2] at g0
  have p0 := hP (0, []) List.mem_cons_self
  have p0 : sz_pr 0 [] hh := p0
  have p1 := hP (3, [[0, 0, 0, 1]]) (List.mem_cons_of_mem _ List.mem_cons_self)
  have p1 : sz_pr 3 [sx_ev [0, 0, 0, 1] [x0, x1, x2, x3]] hh := p1
  rw [E3] at p1
  have hu := sz_w1 hw
  rw [E0, E2, E4] at hu
  have hz := zs_w_chain (hh := hh) (hh' := hh') l0 u0 l1 u1 l2 u2 l3 u3 g0 p0 p1 (fun c => by rw [hu]; exact if_neg (by omega)) (fun c => by rw [hu]; exact if_neg (by omega)) (fun c => by rw [hu]; exact if_neg (by omega)) (fun c => by rw [hu]; exact if_neg (by omega)) (fun c => by rw [hu]; exact if_neg (by omega)) (fun c => by rw [hu]; exact if_neg (by omega)) (fun c g => by rw [hu]; simp)
  refine ⟨fun f hf => ?_, fun q hq => ?_⟩
  · cases hf
  · rcases List.mem_cons.mp hq with rfl | hq
    · show sz_pr 0 [] _
      exact hz.1
    obtain rfl := List.mem_singleton.mp hq
    show sz_pr 3 [sx_ev [0, 0, 0, 1] [x0, x1, x2, x3]] _
    rw [E3]
    exact hz.2
theorem sz_k9 : sx_Rk sz_pr sz_u9 := by
  intro r hh hh' hb hF hG hP hw
  obtain ⟨x0, r0, e0, l0, u0, hb⟩ := sz_bc hb
  obtain ⟨x1, r1, e1, l1, u1, hb⟩ := sz_bc hb
  obtain ⟨x2, r2, e2, l2, u2, hb⟩ := sz_bc hb
  obtain ⟨x3, r3, e3, l3, u3, hb⟩ := sz_bc hb
  have hbn := sz_bn hb
  subst hbn
  subst e3
  subst e2
  subst e1
  subst e0
  have E0 : sx_ev [0, 1] [x0, x1, x2, x3] = x0 := by simp [sx_ev, sx_dot] <;> omega
  have E1 : sx_ev [6] [x0, x1, x2, x3] = 6 := by simp [sx_ev, sx_dot] <;> omega
  have E2 : sx_ev [0, 0, 1] [x0, x1, x2, x3] = x1 := by simp [sx_ev, sx_dot] <;> omega
  have E3 : sx_ev [0, 0, 0, 1] [x0, x1, x2, x3] = x2 := by simp [sx_ev, sx_dot] <;> omega
  have E4 : sx_ev [0, 0, 0, 0, 1] [x0, x1, x2, x3] = x3 := by simp [sx_ev, sx_dot] <;> omega
  have g0 := hG (88, [0, 1], [6], [0, 0, 1]) List.mem_cons_self
  dsimp only at g0
  rw [E0, E1, E2] at g0
  have p0 := hP (2, [[0, 1], [0, 0, 0, 1]]) List.mem_cons_self
  have p0 : sz_pr 2 [sx_ev [0, 1] [x0, x1, x2, x3], sx_ev [0, 0, 0, 1] [x0, x1, x2, x3]] hh := p0
  rw [E0, E3] at p0
  have hu := sz_w1 hw
  rw [E0, E2, E4] at hu
  have hz := zs_w_chtp (hh := hh) (hh' := hh') l0 u0 l1 u1 l2 u2 l3 u3 g0 p0 (fun c => by rw [hu]; exact if_neg (by omega)) (fun c g => by rw [hu]; simp)
  refine ⟨fun f hf => ?_, fun q hq => ?_⟩
  · cases hf
  · obtain rfl := List.mem_singleton.mp hq
    show sz_pr 2 [sx_ev [0, 1] [x0, x1, x2, x3], sx_ev [0, 0, 0, 1] [x0, x1, x2, x3]] _
    rw [E0, E3]
    exact hz
theorem sz_k10 : sx_Rk sz_pr sz_u10 := by
  intro r hh hh' hb hF hG hP hw
  obtain ⟨x0, r0, e0, l0, u0, hb⟩ := sz_bc hb
  obtain ⟨x1, r1, e1, l1, u1, hb⟩ := sz_bc hb
  obtain ⟨x2, r2, e2, l2, u2, hb⟩ := sz_bc hb
  obtain ⟨x3, r3, e3, l3, u3, hb⟩ := sz_bc hb
  obtain ⟨x4, r4, e4, l4, u4, hb⟩ := sz_bc hb
  have hbn := sz_bn hb
  subst hbn
  subst e4
  subst e3
  subst e2
  subst e1
  subst e0
  have E0 : sx_ev [0, 1] [x0, x1, x2, x3, x4] = x0 := by simp [sx_ev, sx_dot] <;> omega
  have E1 : sx_ev [6] [x0, x1, x2, x3, x4] = 6 := by simp [sx_ev, sx_dot] <;> omega
  have E2 : sx_ev [0, 0, 0, 1] [x0, x1, x2, x3, x4] = x2 := by simp [sx_ev, sx_dot] <;> omega
  have E3 : sx_ev [0, 0, 1] [x0, x1, x2, x3, x4] = x1 := by simp [sx_ev, sx_dot] <;> omega
  have E4 : sx_ev [13] [x0, x1, x2, x3, x4] = 13 := by simp [sx_ev, sx_dot] <;> omega
  have E5 : sx_ev [-1, 1] [x0, x1, x2, x3, x4] = x0 - 1 := by simp [sx_ev, sx_dot] <;> omega
  have E6 : sx_ev [0, 0, 0, 0, 1] [x0, x1, x2, x3, x4] = x3 := by simp [sx_ev, sx_dot] <;> omega
  have E7 : sx_ev [2] [x0, x1, x2, x3, x4] = 2 := by simp [sx_ev, sx_dot] <;> omega
  have E8 : sx_ev [0, 0, 0, 0, 0, 1] [x0, x1, x2, x3, x4] = x4 := by simp [sx_ev, sx_dot] <;> omega
  have E9 : sx_ev [1, 0, 0, 1] [x0, x1, x2, x3, x4] = x2 + 1 := by simp [sx_ev, sx_dot] <;> omega
  have g0 := hG (88, [0, 1], [6], [0, 0, 0, 1]) List.mem_cons_self
  dsimp only at g0
  rw [E0, E1, E2] at g0
  have g1 := hG (14, [0, 1], [0, 0, 0, 1], [0, 0, 1]) (List.mem_cons_of_mem _ List.mem_cons_self)
  dsimp only at g1
  rw [E0, E2, E3] at g1
  have g2 := hG (87, [0, 0, 1], [13], [-1, 1]) (List.mem_cons_of_mem _ (List.mem_cons_of_mem _ List.mem_cons_self))
  dsimp only at g2
  rw [E3, E4, E5] at g2
  have g3 := hG (87, [0, 0, 1], [6], [0, 0, 0, 0, 1]) (List.mem_cons_of_mem _ (List.mem_cons_of_mem _ (List.mem_cons_of_mem _ List.mem_cons_self)))
  dsimp only at g3
  rw [E3, E1, E6] at g3
  have g4 := hG (88, [0, 1], [2], [0, 0, 0, 0, 0, 1]) (List.mem_cons_of_mem _ (List.mem_cons_of_mem _ (List.mem_cons_of_mem _ (List.mem_cons_of_mem _ List.mem_cons_self))))
  dsimp only at g4
  rw [E0, E7, E8] at g4
  have p0 := hP (0, []) List.mem_cons_self
  have p0 : sz_pr 0 [] hh := p0
  have p1 := hP (3, [[0, 0, 1]]) (List.mem_cons_of_mem _ List.mem_cons_self)
  have p1 : sz_pr 3 [sx_ev [0, 0, 1] [x0, x1, x2, x3, x4]] hh := p1
  rw [E3] at p1
  have hu := sz_w1 hw
  rw [E0, E1, E9] at hu
  have hz := zs_w_run0 (hh := hh) (hh' := hh') l0 u0 l1 u1 l2 u2 l3 u3 l4 u4 g0 g1 g2 g3 g4 p0 p1 (fun c => by rw [hu]; exact if_neg (by omega)) (fun c => by rw [hu]; exact if_neg (by omega)) (fun c => by rw [hu]; exact if_neg (by omega)) (fun c => by rw [hu]; exact if_neg (by omega)) (fun c => by rw [hu]; exact if_neg (by omega)) (fun c => by rw [hu]; simp) (fun c g => by rw [hu]; exact if_neg (by omega))
  refine ⟨fun f hf => ?_, fun q hq => ?_⟩
  · cases hf
  · obtain rfl := List.mem_singleton.mp hq
    show sz_pr 0 [] _
    exact hz
theorem sz_k11 : sx_Rk sz_pr sz_u11 := by
  intro r hh hh' hb hF hG hP hw
  obtain ⟨x0, r0, e0, l0, u0, hb⟩ := sz_bc hb
  obtain ⟨x1, r1, e1, l1, u1, hb⟩ := sz_bc hb
  obtain ⟨x2, r2, e2, l2, u2, hb⟩ := sz_bc hb
  obtain ⟨x3, r3, e3, l3, u3, hb⟩ := sz_bc hb
  obtain ⟨x4, r4, e4, l4, u4, hb⟩ := sz_bc hb
  have hbn := sz_bn hb
  subst hbn
  subst e4
  subst e3
  subst e2
  subst e1
  subst e0
  have E0 : sx_ev [-1, 0, 1] [x0, x1, x2, x3, x4] = x1 - 1 := by simp [sx_ev, sx_dot] <;> omega
  have E1 : sx_ev [0, 1] [x0, x1, x2, x3, x4] = x0 := by simp [sx_ev, sx_dot] <;> omega
  have E2 : sx_ev [6] [x0, x1, x2, x3, x4] = 6 := by simp [sx_ev, sx_dot] <;> omega
  have E3 : sx_ev [0, 0, 1] [x0, x1, x2, x3, x4] = x1 := by simp [sx_ev, sx_dot] <;> omega
  have E4 : sx_ev [0, 0, 0, 1] [x0, x1, x2, x3, x4] = x2 := by simp [sx_ev, sx_dot] <;> omega
  have E5 : sx_ev [13] [x0, x1, x2, x3, x4] = 13 := by simp [sx_ev, sx_dot] <;> omega
  have E6 : sx_ev [-1, 1] [x0, x1, x2, x3, x4] = x0 - 1 := by simp [sx_ev, sx_dot] <;> omega
  have E7 : sx_ev [0, 0, 0, 0, 0, 1] [x0, x1, x2, x3, x4] = x4 := by simp [sx_ev, sx_dot] <;> omega
  have E8 : sx_ev [0, 0, 0, 0, 1] [x0, x1, x2, x3, x4] = x3 := by simp [sx_ev, sx_dot] <;> omega
  have E9 : sx_ev [1, 0, 1] [x0, x1, x2, x3, x4] = x1 + 1 := by simp [sx_ev, sx_dot] <;> omega
  have f0 := hF [-1, 0, 1] List.mem_cons_self
  rw [E0] at f0
  have g0 := hG (88, [0, 1], [6], [0, 0, 1]) List.mem_cons_self
  dsimp only at g0
  rw [E1, E2, E3] at g0
  have g1 := hG (14, [0, 1], [0, 0, 1], [0, 0, 0, 1]) (List.mem_cons_of_mem _ List.mem_cons_self)
  dsimp only at g1
  rw [E1, E3, E4] at g1
  have g2 := hG (87, [0, 0, 0, 1], [13], [-1, 1]) (List.mem_cons_of_mem _ (List.mem_cons_of_mem _ List.mem_cons_self))
  dsimp only at g2
  rw [E4, E5, E6] at g2
  have g3 := hG (87, [0, 0, 0, 1], [6], [0, 0, 0, 0, 0, 1]) (List.mem_cons_of_mem _ (List.mem_cons_of_mem _ (List.mem_cons_of_mem _ List.mem_cons_self)))
  dsimp only at g3
  rw [E4, E2, E7] at g3
  have p0 := hP (0, []) List.mem_cons_self
  have p0 : sz_pr 0 [] hh := p0
  have p1 := hP (3, [[0, 0, 0, 1]]) (List.mem_cons_of_mem _ List.mem_cons_self)
  have p1 : sz_pr 3 [sx_ev [0, 0, 0, 1] [x0, x1, x2, x3, x4]] hh := p1
  rw [E4] at p1
  have p2 := hP (2, [[0, 1], [0, 0, 0, 0, 1]]) (List.mem_cons_of_mem _ (List.mem_cons_of_mem _ List.mem_cons_self))
  have p2 : sz_pr 2 [sx_ev [0, 1] [x0, x1, x2, x3, x4], sx_ev [0, 0, 0, 0, 1] [x0, x1, x2, x3, x4]] hh := p2
  rw [E1, E8] at p2
  have hu := sz_w1 hw
  rw [E1, E2, E9] at hu
  have hz := zs_w_run1 (hh := hh) (hh' := hh') l0 u0 l1 u1 l2 u2 l3 u3 l4 u4 f0 g0 g1 g2 g3 p0 p1 p2 (fun c => by rw [hu]; exact if_neg (by omega)) (fun c => by rw [hu]; exact if_neg (by omega)) (fun c => by rw [hu]; exact if_neg (by omega)) (fun c => by rw [hu]; exact if_neg (by omega)) (fun c => by rw [hu]; exact if_neg (by omega)) (fun c => by rw [hu]; simp) (fun c g => by rw [hu]; exact if_neg (by omega))
  refine ⟨fun f hf => ?_, fun q hq => ?_⟩
  · cases hf
  · obtain rfl := List.mem_singleton.mp hq
    show sz_pr 6 [sx_ev [0, 0, 0, 0, 1] [x0, x1, x2, x3, x4]] _
    rw [E8]
    exact hz
theorem sz_k12 : sx_Rk sz_pr sz_u12 := by
  intro r hh hh' hb hF hG hP hw
  obtain ⟨x0, r0, e0, l0, u0, hb⟩ := sz_bc hb
  obtain ⟨x1, r1, e1, l1, u1, hb⟩ := sz_bc hb
  have hbn := sz_bn hb
  subst hbn
  subst e1
  subst e0
  have E0 : sx_ev [62, 0, -1] [x0, x1] = -x1 + 62 := by simp [sx_ev, sx_dot] <;> omega
  have E1 : sx_ev [0, 1] [x0, x1] = x0 := by simp [sx_ev, sx_dot] <;> omega
  have E2 : sx_ev [15] [x0, x1] = 15 := by simp [sx_ev, sx_dot] <;> omega
  have E3 : sx_ev [0, 0, 1] [x0, x1] = x1 := by simp [sx_ev, sx_dot] <;> omega
  have f0 := hF [62, 0, -1] List.mem_cons_self
  rw [E0] at f0
  have p0 := hP (6, [[0, 1]]) List.mem_cons_self
  have p0 : sz_pr 6 [sx_ev [0, 1] [x0, x1]] hh := p0
  rw [E1] at p0
  have hu := sz_w1 hw
  rw [E1, E2, E3] at hu
  have hz := zs_je_dep (hh := hh) (hh' := hh') l0 u0 l1 u1 f0 p0 (fun c => by rw [hu]; exact if_neg (by omega)) (fun c => by rw [hu]; exact if_neg (by omega)) (fun c => by rw [hu]; simp) (fun c => by rw [hu]; exact if_neg (by omega)) (fun c => by rw [hu]; exact if_neg (by omega)) (fun c => by rw [hu]; exact if_neg (by omega)) (fun c g => by rw [hu]; exact if_neg (by omega))
  refine ⟨fun f hf => ?_, fun q hq => ?_⟩
  · cases hf
  · obtain rfl := List.mem_singleton.mp hq
    show sz_pr 0 [] _
    exact hz
theorem sz_k13 : sx_Rk sz_pr sz_u13 := by
  intro r hh hh' hb hF hG hP hw
  obtain ⟨x0, r0, e0, l0, u0, hb⟩ := sz_bc hb
  obtain ⟨x1, r1, e1, l1, u1, hb⟩ := sz_bc hb
  have hbn := sz_bn hb
  subst hbn
  subst e1
  subst e0
  have E0 : sx_ev [-1, 0, 1] [x0, x1] = x1 - 1 := by simp [sx_ev, sx_dot] <;> omega
  have E1 : sx_ev [0, 1] [x0, x1] = x0 := by simp [sx_ev, sx_dot] <;> omega
  have E2 : sx_ev [6] [x0, x1] = 6 := by simp [sx_ev, sx_dot] <;> omega
  have E3 : sx_ev [0, 0, 1] [x0, x1] = x1 := by simp [sx_ev, sx_dot] <;> omega
  have f0 := hF [-1, 0, 1] List.mem_cons_self
  rw [E0] at f0
  have g0 := hG (88, [0, 1], [6], [0, 0, 1]) List.mem_cons_self
  dsimp only at g0
  rw [E1, E2, E3] at g0
  have p0 := hP (0, []) List.mem_cons_self
  have p0 : sz_pr 0 [] hh := p0
  have hu := sz_w1 hw
  rw [E1, E2, E0] at hu
  have hz := zs_w_leave (hh := hh) (hh' := hh') l0 u0 l1 u1 f0 g0 p0 (fun c => by rw [hu]; exact if_neg (by omega)) (fun c => by rw [hu]; exact if_neg (by omega)) (fun c => by rw [hu]; exact if_neg (by omega)) (fun c => by rw [hu]; exact if_neg (by omega)) (fun c => by rw [hu]; exact if_neg (by omega)) (fun c => by rw [hu]; simp) (fun c g => by rw [hu]; exact if_neg (by omega))
  refine ⟨fun f hf => ?_, fun q hq => ?_⟩
  · cases hf
  · rcases List.mem_cons.mp hq with rfl | hq
    · show sz_pr 0 [] _
      exact hz.1
    rcases List.mem_cons.mp hq with rfl | hq
    · show sz_pr 4 [sx_ev [0, 1] [x0, x1], sx_ev [-1, 0, 1] [x0, x1]] _
      rw [E1, E0]
      exact hz.2.1
    obtain rfl := List.mem_singleton.mp hq
    show sz_pr 5 [sx_ev [0, 1] [x0, x1]] _
    rw [E1]
    exact hz.2.2
theorem sz_k14 : sx_Rk sz_pr sz_u14 := by
  intro r hh hh' hb hF hG hP hw
  obtain ⟨x0, r0, e0, l0, u0, hb⟩ := sz_bc hb
  obtain ⟨x1, r1, e1, l1, u1, hb⟩ := sz_bc hb
  obtain ⟨x2, r2, e2, l2, u2, hb⟩ := sz_bc hb
  have hbn := sz_bn hb
  subst hbn
  subst e2
  subst e1
  subst e0
  have E0 : sx_ev [0, 1] [x0, x1, x2] = x0 := by simp [sx_ev, sx_dot] <;> omega
  have E1 : sx_ev [0, 0, 1] [x0, x1, x2] = x1 := by simp [sx_ev, sx_dot] <;> omega
  have E2 : sx_ev [0, 0, 0, 1] [x0, x1, x2] = x2 := by simp [sx_ev, sx_dot] <;> omega
  have g0 := hG (14, [0, 1], [0, 0, 1], [0, 0, 0, 1]) List.mem_cons_self
  dsimp only at g0
  rw [E0, E1, E2] at g0
  have p0 := hP (4, [[0, 1], [0, 0, 1]]) List.mem_cons_self
  have p0 : sz_pr 4 [sx_ev [0, 1] [x0, x1, x2], sx_ev [0, 0, 1] [x0, x1, x2]] hh := p0
  rw [E0, E1] at p0
  have hw := sz_w0 hw
  rw [hw]
  have hz := zs_jl_jf (hh := hh) l0 u0 l1 u1 l2 u2 g0 p0
  refine ⟨fun f hf => ?_, fun q hq => ?_⟩
  · cases hf
  · obtain rfl := List.mem_singleton.mp hq
    show sz_pr 3 [sx_ev [0, 0, 0, 1] [x0, x1, x2]] _
    rw [E2]
    exact hz
theorem sz_k15 : sx_Rk sz_pr sz_u15 := by
  intro r hh hh' hb hF hG hP hw
  obtain ⟨x0, r0, e0, l0, u0, hb⟩ := sz_bc hb
  obtain ⟨x1, r1, e1, l1, u1, hb⟩ := sz_bc hb
  obtain ⟨x2, r2, e2, l2, u2, hb⟩ := sz_bc hb
  obtain ⟨x3, r3, e3, l3, u3, hb⟩ := sz_bc hb
  have hbn := sz_bn hb
  subst hbn
  subst e3
  subst e2
  subst e1
  subst e0
  have E0 : sx_ev [-1, 0, 1] [x0, x1, x2, x3] = x1 - 1 := by simp [sx_ev, sx_dot] <;> omega
  have E1 : sx_ev [0, 1] [x0, x1, x2, x3] = x0 := by simp [sx_ev, sx_dot] <;> omega
  have E2 : sx_ev [6] [x0, x1, x2, x3] = 6 := by simp [sx_ev, sx_dot] <;> omega
  have E3 : sx_ev [0, 0, 1] [x0, x1, x2, x3] = x1 := by simp [sx_ev, sx_dot] <;> omega
  have E4 : sx_ev [0, 0, 0, 1] [x0, x1, x2, x3] = x2 := by simp [sx_ev, sx_dot] <;> omega
  have E5 : sx_ev [15] [x0, x1, x2, x3] = 15 := by simp [sx_ev, sx_dot] <;> omega
  have E6 : sx_ev [0, 0, 0, 0, 1] [x0, x1, x2, x3] = x3 := by simp [sx_ev, sx_dot] <;> omega
  have E7 : sx_ev [62, 0, 0, 0, -1] [x0, x1, x2, x3] = -x3 + 62 := by simp [sx_ev, sx_dot] <;> omega
  have f0 := hF [-1, 0, 1] List.mem_cons_self
  rw [E0] at f0
  have g0 := hG (88, [0, 1], [6], [0, 0, 1]) List.mem_cons_self
  dsimp only at g0
  rw [E1, E2, E3] at g0
  have g1 := hG (14, [0, 1], [-1, 0, 1], [0, 0, 0, 1]) (List.mem_cons_of_mem _ List.mem_cons_self)
  dsimp only at g1
  rw [E1, E0, E4] at g1
  have g2 := hG (87, [0, 0, 0, 1], [15], [0, 0, 0, 0, 1]) (List.mem_cons_of_mem _ (List.mem_cons_of_mem _ List.mem_cons_self))
  dsimp only at g2
  rw [E4, E5, E6] at g2
  have p0 := hP (5, [[0, 1]]) List.mem_cons_self
  have p0 : sz_pr 5 [sx_ev [0, 1] [x0, x1, x2, x3]] hh := p0
  rw [E1] at p0
  have hw := sz_w0 hw
  rw [hw]
  have hz := zs_jd_use (hh := hh) l0 u0 l1 u1 l2 u2 l3 u3 f0 g0 g1 g2 p0
  refine ⟨fun f hf => ?_, fun q hq => ?_⟩
  · rw [List.mem_singleton.mp hf, E7]
    exact hz
  · cases hq
theorem sz_k16 : sx_Rk sz_pr sz_u16 := by
  intro r hh hh' hb hF hG hP hw
  obtain ⟨x0, r0, e0, l0, u0, hb⟩ := sz_bc hb
  obtain ⟨x1, r1, e1, l1, u1, hb⟩ := sz_bc hb
  have hbn := sz_bn hb
  subst hbn
  subst e1
  subst e0
  have E0 : sx_ev [0, 1] [x0, x1] = x0 := by simp [sx_ev, sx_dot] <;> omega
  have E1 : sx_ev [6] [x0, x1] = 6 := by simp [sx_ev, sx_dot] <;> omega
  have E2 : sx_ev [0, 0, 1] [x0, x1] = x1 := by simp [sx_ev, sx_dot] <;> omega
  have E3 : sx_ev [2] [x0, x1] = 2 := by simp [sx_ev, sx_dot] <;> omega
  have E4 : sx_ev [] [x0, x1] = 0 := by simp [sx_ev, sx_dot] <;> omega
  have g0 := hG (88, [0, 1], [6], [0, 0, 1]) List.mem_cons_self
  dsimp only at g0
  rw [E0, E1, E2] at g0
  have p0 := hP (0, []) List.mem_cons_self
  have p0 : sz_pr 0 [] hh := p0
  have hu := sz_w1 hw
  rw [E0, E3, E4] at hu
  have hz := zs_w_open0 (hh := hh) (hh' := hh') l0 u0 l1 u1 g0 p0 (fun c => by rw [hu]; exact if_neg (by omega)) (fun c => by rw [hu]; exact if_neg (by omega)) (fun c => by rw [hu]; exact if_neg (by omega)) (fun c => by rw [hu]; simp) (fun c => by rw [hu]; exact if_neg (by omega)) (fun c => by rw [hu]; exact if_neg (by omega)) (fun c g => by rw [hu]; exact if_neg (by omega))
  refine ⟨fun f hf => ?_, fun q hq => ?_⟩
  · cases hf
  · obtain rfl := List.mem_singleton.mp hq
    show sz_pr 0 [] _
    exact hz
theorem sz_k17 : sx_Rk sz_pr sz_u17 := by
  intro r hh hh' hb hF hG hP hw
  obtain ⟨x0, r0, e0, l0, u0, hb⟩ := sz_bc hb
  have hbn := sz_bn hb
  subst hbn
  subst e0
  have E0 : sx_ev [0, 1] [x0] = x0 := by simp [sx_ev, sx_dot] <;> omega
  have E1 : sx_ev [2] [x0] = 2 := by simp [sx_ev, sx_dot] <;> omega
  have E2 : sx_ev [1] [x0] = 1 := by simp [sx_ev, sx_dot] <;> omega
  have p0 := hP (0, []) List.mem_cons_self
  have p0 : sz_pr 0 [] hh := p0
  have hu := sz_w1 hw
  rw [E0, E1, E2] at hu
  have hz := zs_w_open1 (hh := hh) (hh' := hh') l0 u0 p0 (fun c => by rw [hu]; exact if_neg (by omega)) (fun c => by rw [hu]; exact if_neg (by omega)) (fun c => by rw [hu]; exact if_neg (by omega)) (fun c => by rw [hu]; simp) (fun c => by rw [hu]; exact if_neg (by omega)) (fun c => by rw [hu]; exact if_neg (by omega)) (fun c g => by rw [hu]; exact if_neg (by omega))
  refine ⟨fun f hf => ?_, fun q hq => ?_⟩
  · cases hf
  · obtain rfl := List.mem_singleton.mp hq
    show sz_pr 7 [sx_ev [0, 1] [x0]] _
    rw [E0]
    exact hz
theorem sz_k18 : sx_Rk sz_pr sz_u18 := by
  intro r hh hh' hb hF hG hP hw
  obtain ⟨x0, r0, e0, l0, u0, hb⟩ := sz_bc hb
  obtain ⟨x1, r1, e1, l1, u1, hb⟩ := sz_bc hb
  obtain ⟨x2, r2, e2, l2, u2, hb⟩ := sz_bc hb
  have hbn := sz_bn hb
  subst hbn
  subst e2
  subst e1
  subst e0
  have E0 : sx_ev [0, 0, 1] [x0, x1, x2] = x1 := by simp [sx_ev, sx_dot] <;> omega
  have E1 : sx_ev [6] [x0, x1, x2] = 6 := by simp [sx_ev, sx_dot] <;> omega
  have E2 : sx_ev [0, 0, 0, 1] [x0, x1, x2] = x2 := by simp [sx_ev, sx_dot] <;> omega
  have E3 : sx_ev [0, 1] [x0, x1, x2] = x0 := by simp [sx_ev, sx_dot] <;> omega
  have E4 : sx_ev [3] [x0, x1, x2] = 3 := by simp [sx_ev, sx_dot] <;> omega
  have g0 := hG (87, [0, 0, 1], [6], [0, 0, 0, 1]) List.mem_cons_self
  dsimp only at g0
  rw [E0, E1, E2] at g0
  have p0 := hP (7, [[0, 1]]) List.mem_cons_self
  have p0 : sz_pr 7 [sx_ev [0, 1] [x0, x1, x2]] hh := p0
  rw [E3] at p0
  have hu := sz_w1 hw
  rw [E3, E4, E0] at hu
  have hz := zs_w_owner (hh := hh) (hh' := hh') l0 u0 l1 u1 l2 u2 g0 p0 (fun c => by rw [hu]; exact if_neg (by omega)) (fun c => by rw [hu]; exact if_neg (by omega)) (fun c => by rw [hu]; exact if_neg (by omega)) (fun c => by rw [hu]; exact if_neg (by omega)) (fun c => by rw [hu]; simp) (fun c => by rw [hu]; exact if_neg (by omega)) (fun c g => by rw [hu]; exact if_neg (by omega))
  refine ⟨fun f hf => ?_, fun q hq => ?_⟩
  · cases hf
  · obtain rfl := List.mem_singleton.mp hq
    show sz_pr 0 [] _
    exact hz
theorem sz_k19 : sx_Rk sz_pr sz_u19 := by
  intro r hh hh' hb hF hG hP hw
  obtain ⟨x0, r0, e0, l0, u0, hb⟩ := sz_bc hb
  have hbn := sz_bn hb
  subst hbn
  subst e0
  have E0 : sx_ev [0, 1] [x0] = x0 := by simp [sx_ev, sx_dot] <;> omega
  have E1 : sx_ev [6] [x0] = 6 := by simp [sx_ev, sx_dot] <;> omega
  have E2 : sx_ev [1] [x0] = 1 := by simp [sx_ev, sx_dot] <;> omega
  have p0 := hP (0, []) List.mem_cons_self
  have p0 : sz_pr 0 [] hh := p0
  have hu := sz_w1 hw
  rw [E0, E1, E2] at hu
  have hz := zs_w_in1 (hh := hh) (hh' := hh') l0 u0 p0 (fun c => by rw [hu]; simp) (fun c => by rw [hu]; exact if_neg (by omega)) (fun c => by rw [hu]; exact if_neg (by omega)) (fun c => by rw [hu]; exact if_neg (by omega)) (fun c => by rw [hu]; exact if_neg (by omega)) (fun c => by rw [hu]; exact if_neg (by omega)) (fun c g => by rw [hu]; exact if_neg (by omega))
  refine ⟨fun f hf => ?_, fun q hq => ?_⟩
  · cases hf
  · obtain rfl := List.mem_singleton.mp hq
    show sz_pr 0 [] _
    exact hz
theorem sz_k20 : sx_Rk sz_pr sz_u20 := by
  intro r hh hh' hb hF hG hP hw
  obtain ⟨x0, r0, e0, l0, u0, hb⟩ := sz_bc hb
  obtain ⟨x1, r1, e1, l1, u1, hb⟩ := sz_bc hb
  have hbn := sz_bn hb
  subst hbn
  subst e1
  subst e0
  have E0 : sx_ev [0, 1] [x0, x1] = x0 := by simp [sx_ev, sx_dot] <;> omega
  have E1 : sx_ev [0, 0, 1] [x0, x1] = x1 := by simp [sx_ev, sx_dot] <;> omega
  have E2 : sx_ev [6] [x0, x1] = 6 := by simp [sx_ev, sx_dot] <;> omega
  have E3 : sx_ev [] [x0, x1] = 0 := by simp [sx_ev, sx_dot] <;> omega
  have p0 := hP (0, []) List.mem_cons_self
  have p0 : sz_pr 0 [] hh := p0
  have p1 := hP (3, [[0, 1]]) (List.mem_cons_of_mem _ List.mem_cons_self)
  have p1 : sz_pr 3 [sx_ev [0, 1] [x0, x1]] hh := p1
  rw [E0] at p1
  have p2 := hP (8, [[0, 1], [0, 0, 1]]) (List.mem_cons_of_mem _ (List.mem_cons_of_mem _ List.mem_cons_self))
  have p2 : sz_pr 8 [sx_ev [0, 1] [x0, x1], sx_ev [0, 0, 1] [x0, x1]] hh := p2
  rw [E0, E1] at p2
  have hu := sz_w1 hw
  rw [E0, E2, E3] at hu
  have hz := zs_w_in0 (hh := hh) (hh' := hh') l0 u0 l1 u1 p0 p1 p2 (fun c => by rw [hu]; simp) (fun c => by rw [hu]; exact if_neg (by omega)) (fun c => by rw [hu]; exact if_neg (by omega)) (fun c => by rw [hu]; exact if_neg (by omega)) (fun c => by rw [hu]; exact if_neg (by omega)) (fun c => by rw [hu]; exact if_neg (by omega)) (fun c g => by rw [hu]; exact if_neg (by omega))
  refine ⟨fun f hf => ?_, fun q hq => ?_⟩
  · cases hf
  · obtain rfl := List.mem_singleton.mp hq
    show sz_pr 0 [] _
    exact hz
theorem sz_k21 : sx_Rk sz_pr sz_u21 := by
  intro r hh hh' hb hF hG hP hw
  obtain ⟨x0, r0, e0, l0, u0, hb⟩ := sz_bc hb
  obtain ⟨x1, r1, e1, l1, u1, hb⟩ := sz_bc hb
  have hbn := sz_bn hb
  subst hbn
  subst e1
  subst e0
  have E0 : sx_ev [0, 0, 1] [x0, x1] = x1 := by simp [sx_ev, sx_dot] <;> omega
  have E1 : sx_ev [0, 1] [x0, x1] = x0 := by simp [sx_ev, sx_dot] <;> omega
  have E2 : sx_ev [6] [x0, x1] = 6 := by simp [sx_ev, sx_dot] <;> omega
  have E3 : sx_ev [] [x0, x1] = 0 := by simp [sx_ev, sx_dot] <;> omega
  have p0 := hP (0, []) List.mem_cons_self
  have p0 : sz_pr 0 [] hh := p0
  have p1 := hP (10, [[0, 0, 1]]) (List.mem_cons_of_mem _ List.mem_cons_self)
  have p1 : sz_pr 10 [sx_ev [0, 0, 1] [x0, x1]] hh := p1
  rw [E0] at p1
  have hu := sz_w1 hw
  rw [E1, E2, E3] at hu
  have hz := zs_w_in0w (hh := hh) (hh' := hh') l0 u0 l1 u1 p0 p1 (fun c => by rw [hu]; simp) (fun c => by rw [hu]; exact if_neg (by omega)) (fun c => by rw [hu]; exact if_neg (by omega)) (fun c => by rw [hu]; exact if_neg (by omega)) (fun c => by rw [hu]; exact if_neg (by omega)) (fun c => by rw [hu]; exact if_neg (by omega)) (fun c g => by rw [hu]; exact if_neg (by omega))
  refine ⟨fun f hf => ?_, fun q hq => ?_⟩
  · cases hf
  · obtain rfl := List.mem_singleton.mp hq
    show sz_pr 0 [] _
    exact hz
theorem sz_k22 : sx_Rk sz_pr sz_u22 := by
  intro r hh hh' hb hF hG hP hw
  obtain ⟨x0, r0, e0, l0, u0, hb⟩ := sz_bc hb
  obtain ⟨x1, r1, e1, l1, u1, hb⟩ := sz_bc hb
  have hbn := sz_bn hb
  subst hbn
  subst e1
  subst e0
  have E0 : sx_ev [0, 1] [x0, x1] = x0 := by simp [sx_ev, sx_dot] <;> omega
  have E1 : sx_ev [13] [x0, x1] = 13 := by simp [sx_ev, sx_dot] <;> omega
  have E2 : sx_ev [0, 0, 1] [x0, x1] = x1 := by simp [sx_ev, sx_dot] <;> omega
  have g0 := hG (87, [0, 1], [13], [0, 0, 1]) List.mem_cons_self
  dsimp only at g0
  rw [E0, E1, E2] at g0
  have hw := sz_w0 hw
  rw [hw]
  have hz := zs_jx0 (hh := hh) l0 u0 l1 u1 g0
  refine ⟨fun f hf => ?_, fun q hq => ?_⟩
  · cases hf
  · obtain rfl := List.mem_singleton.mp hq
    show sz_pr 9 [sx_ev [0, 1] [x0, x1]] _
    rw [E0]
    exact hz
theorem sz_k23 : sx_Rk sz_pr sz_u23 := by
  intro r hh hh' hb hF hG hP hw
  obtain ⟨x0, r0, e0, l0, u0, hb⟩ := sz_bc hb
  obtain ⟨x1, r1, e1, l1, u1, hb⟩ := sz_bc hb
  obtain ⟨x2, r2, e2, l2, u2, hb⟩ := sz_bc hb
  have hbn := sz_bn hb
  subst hbn
  subst e2
  subst e1
  subst e0
  have E0 : sx_ev [0, 1, 0, -1] [x0, x1, x2] = x0 - x2 := by simp [sx_ev, sx_dot] <;> omega
  have E1 : sx_ev [0, -1, 0, 1] [x0, x1, x2] = -x0 + x2 := by simp [sx_ev, sx_dot] <;> omega
  have E2 : sx_ev [0, 1] [x0, x1, x2] = x0 := by simp [sx_ev, sx_dot] <;> omega
  have E3 : sx_ev [13] [x0, x1, x2] = 13 := by simp [sx_ev, sx_dot] <;> omega
  have E4 : sx_ev [0, 0, 1] [x0, x1, x2] = x1 := by simp [sx_ev, sx_dot] <;> omega
  have E5 : sx_ev [1, 0, 1] [x0, x1, x2] = x1 + 1 := by simp [sx_ev, sx_dot] <;> omega
  have E6 : sx_ev [3] [x0, x1, x2] = 3 := by simp [sx_ev, sx_dot] <;> omega
  have E7 : sx_ev [0, 0, 0, 1] [x0, x1, x2] = x2 := by simp [sx_ev, sx_dot] <;> omega
  have f0 := hF [0, 1, 0, -1] List.mem_cons_self
  rw [E0] at f0
  have f1 := hF [0, -1, 0, 1] (List.mem_cons_of_mem _ List.mem_cons_self)
  rw [E1] at f1
  have g0 := hG (87, [0, 1], [13], [0, 0, 1]) List.mem_cons_self
  dsimp only at g0
  rw [E2, E3, E4] at g0
  have g1 := hG (88, [1, 0, 1], [3], [0, 0, 0, 1]) (List.mem_cons_of_mem _ List.mem_cons_self)
  dsimp only at g1
  rw [E5, E6, E7] at g1
  have hw := sz_w0 hw
  rw [hw]
  have hz := zs_jx1 (hh := hh) l0 u0 l1 u1 l2 u2 f0 f1 g0 g1
  refine ⟨fun f hf => ?_, fun q hq => ?_⟩
  · cases hf
  · obtain rfl := List.mem_singleton.mp hq
    show sz_pr 9 [sx_ev [0, 1] [x0, x1, x2]] _
    rw [E2]
    exact hz
theorem sz_k24 : sx_Rk sz_pr sz_u24 := by
  intro r hh hh' hb hF hG hP hw
  obtain ⟨x0, r0, e0, l0, u0, hb⟩ := sz_bc hb
  obtain ⟨x1, r1, e1, l1, u1, hb⟩ := sz_bc hb
  have hbn := sz_bn hb
  subst hbn
  subst e1
  subst e0
  have E0 : sx_ev [0, 1] [x0, x1] = x0 := by simp [sx_ev, sx_dot] <;> omega
  have E1 : sx_ev [0, 0, 1] [x0, x1] = x1 := by simp [sx_ev, sx_dot] <;> omega
  have E2 : sx_ev [13] [x0, x1] = 13 := by simp [sx_ev, sx_dot] <;> omega
  have E3 : sx_ev [-1] [x0, x1] = -1 := by simp [sx_ev, sx_dot] <;> omega
  have p0 := hP (9, [[0, 1]]) List.mem_cons_self
  have p0 : sz_pr 9 [sx_ev [0, 1] [x0, x1]] hh := p0
  rw [E0] at p0
  have hu := sz_w1 hw
  rw [E1, E2, E3] at hu
  have hz := zs_jx_w (hh := hh) (hh' := hh') l0 u0 l1 u1 p0 (fun c => by rw [hu]; simp) (fun c => by rw [hu]; exact if_neg (by omega))
  refine ⟨fun f hf => ?_, fun q hq => ?_⟩
  · cases hf
  · obtain rfl := List.mem_singleton.mp hq
    show sz_pr 9 [sx_ev [0, 1] [x0, x1]] _
    rw [E0]
    exact hz
theorem sz_k25 : sx_Rk sz_pr sz_u25 := by
  intro r hh hh' hb hF hG hP hw
  obtain ⟨x0, r0, e0, l0, u0, hb⟩ := sz_bc hb
  have hbn := sz_bn hb
  subst hbn
  subst e0
  have E0 : sx_ev [0, 1] [x0] = x0 := by simp [sx_ev, sx_dot] <;> omega
  have E1 : sx_ev [] [x0] = 0 := by simp [sx_ev, sx_dot] <;> omega
  have p0 := hP (0, []) List.mem_cons_self
  have p0 : sz_pr 0 [] hh := p0
  have hw := sz_w0 hw
  rw [hw]
  have hz := zs_jv0 (hh := hh) l0 u0 p0
  refine ⟨fun f hf => ?_, fun q hq => ?_⟩
  · cases hf
  · obtain rfl := List.mem_singleton.mp hq
    show sz_pr 8 [sx_ev [0, 1] [x0], sx_ev [] [x0]] _
    rw [E0, E1]
    exact hz
theorem sz_k26 : sx_Rk sz_pr sz_u26 := by
  intro r hh hh' hb hF hG hP hw
  obtain ⟨x0, r0, e0, l0, u0, hb⟩ := sz_bc hb
  obtain ⟨x1, r1, e1, l1, u1, hb⟩ := sz_bc hb
  obtain ⟨x2, r2, e2, l2, u2, hb⟩ := sz_bc hb
  have hbn := sz_bn hb
  subst hbn
  subst e2
  subst e1
  subst e0
  have E0 : sx_ev [0, 1] [x0, x1, x2] = x0 := by simp [sx_ev, sx_dot] <;> omega
  have E1 : sx_ev [0, 0, 1] [x0, x1, x2] = x1 := by simp [sx_ev, sx_dot] <;> omega
  have E2 : sx_ev [0, 0, 0, 1] [x0, x1, x2] = x2 := by simp [sx_ev, sx_dot] <;> omega
  have E3 : sx_ev [2] [x0, x1, x2] = 2 := by simp [sx_ev, sx_dot] <;> omega
  have E4 : sx_ev [] [x0, x1, x2] = 0 := by simp [sx_ev, sx_dot] <;> omega
  have p0 := hP (8, [[0, 1], [0, 0, 1]]) List.mem_cons_self
  have p0 : sz_pr 8 [sx_ev [0, 1] [x0, x1, x2], sx_ev [0, 0, 1] [x0, x1, x2]] hh := p0
  rw [E0, E1] at p0
  have hu := sz_w1 hw
  rw [E2, E3, E4] at hu
  have hz := zs_jv_w (hh := hh) (hh' := hh') l0 u0 l1 u1 l2 u2 p0 (fun c => by rw [hu]; simp) (fun c => by rw [hu]; exact if_neg (by omega))
  refine ⟨fun f hf => ?_, fun q hq => ?_⟩
  · cases hf
  · obtain rfl := List.mem_singleton.mp hq
    show sz_pr 8 [sx_ev [0, 1] [x0, x1, x2], sx_ev [0, 0, 1] [x0, x1, x2]] _
    rw [E0, E1]
    exact hz
theorem sz_k27 : sx_Rk sz_pr sz_u27 := by
  intro r hh hh' hb hF hG hP hw
  obtain ⟨x0, r0, e0, l0, u0, hb⟩ := sz_bc hb
  obtain ⟨x1, r1, e1, l1, u1, hb⟩ := sz_bc hb
  obtain ⟨x2, r2, e2, l2, u2, hb⟩ := sz_bc hb
  have hbn := sz_bn hb
  subst hbn
  subst e2
  subst e1
  subst e0
  have E0 : sx_ev [1, 0, 1] [x0, x1, x2] = x1 + 1 := by simp [sx_ev, sx_dot] <;> omega
  have E1 : sx_ev [2] [x0, x1, x2] = 2 := by simp [sx_ev, sx_dot] <;> omega
  have E2 : sx_ev [0, 0, 0, 1] [x0, x1, x2] = x2 := by simp [sx_ev, sx_dot] <;> omega
  have E3 : sx_ev [0, 1] [x0, x1, x2] = x0 := by simp [sx_ev, sx_dot] <;> omega
  have E4 : sx_ev [0, 0, 1] [x0, x1, x2] = x1 := by simp [sx_ev, sx_dot] <;> omega
  have g0 := hG (88, [1, 0, 1], [2], [0, 0, 0, 1]) List.mem_cons_self
  dsimp only at g0
  rw [E0, E1, E2] at g0
  have p0 := hP (8, [[0, 1], [0, 0, 1]]) List.mem_cons_self
  have p0 : sz_pr 8 [sx_ev [0, 1] [x0, x1, x2], sx_ev [0, 0, 1] [x0, x1, x2]] hh := p0
  rw [E3, E4] at p0
  have hw := sz_w0 hw
  rw [hw]
  have hz := zs_jv_n0 (hh := hh) l0 u0 l1 u1 l2 u2 g0 p0
  refine ⟨fun f hf => ?_, fun q hq => ?_⟩
  · cases hf
  · obtain rfl := List.mem_singleton.mp hq
    show sz_pr 8 [sx_ev [0, 1] [x0, x1, x2], sx_ev [1, 0, 1] [x0, x1, x2]] _
    rw [E3, E0]
    exact hz
theorem sz_k28 : sx_Rk sz_pr sz_u28 := by
  intro r hh hh' hb hF hG hP hw
  obtain ⟨x0, r0, e0, l0, u0, hb⟩ := sz_bc hb
  obtain ⟨x1, r1, e1, l1, u1, hb⟩ := sz_bc hb
  obtain ⟨x2, r2, e2, l2, u2, hb⟩ := sz_bc hb
  have hbn := sz_bn hb
  subst hbn
  subst e2
  subst e1
  subst e0
  have E0 : sx_ev [-1, 1, 0, -1] [x0, x1, x2] = x0 - x2 - 1 := by simp [sx_ev, sx_dot] <;> omega
  have E1 : sx_ev [1, 0, 1] [x0, x1, x2] = x1 + 1 := by simp [sx_ev, sx_dot] <;> omega
  have E2 : sx_ev [3] [x0, x1, x2] = 3 := by simp [sx_ev, sx_dot] <;> omega
  have E3 : sx_ev [0, 0, 0, 1] [x0, x1, x2] = x2 := by simp [sx_ev, sx_dot] <;> omega
  have E4 : sx_ev [0, 1] [x0, x1, x2] = x0 := by simp [sx_ev, sx_dot] <;> omega
  have E5 : sx_ev [0, 0, 1] [x0, x1, x2] = x1 := by simp [sx_ev, sx_dot] <;> omega
  have f0 := hF [-1, 1, 0, -1] List.mem_cons_self
  rw [E0] at f0
  have g0 := hG (88, [1, 0, 1], [3], [0, 0, 0, 1]) List.mem_cons_self
  dsimp only at g0
  rw [E1, E2, E3] at g0
  have p0 := hP (8, [[0, 1], [0, 0, 1]]) List.mem_cons_self
  have p0 : sz_pr 8 [sx_ev [0, 1] [x0, x1, x2], sx_ev [0, 0, 1] [x0, x1, x2]] hh := p0
  rw [E4, E5] at p0
  have hw := sz_w0 hw
  rw [hw]
  have hz := zs_jv_n1 (hh := hh) l0 u0 l1 u1 l2 u2 f0 g0 p0
  refine ⟨fun f hf => ?_, fun q hq => ?_⟩
  · cases hf
  · obtain rfl := List.mem_singleton.mp hq
    show sz_pr 8 [sx_ev [0, 1] [x0, x1, x2], sx_ev [1, 0, 1] [x0, x1, x2]] _
    rw [E4, E1]
    exact hz
theorem sz_k29 : sx_Rk sz_pr sz_u29 := by
  intro r hh hh' hb hF hG hP hw
  obtain ⟨x0, r0, e0, l0, u0, hb⟩ := sz_bc hb
  obtain ⟨x1, r1, e1, l1, u1, hb⟩ := sz_bc hb
  obtain ⟨x2, r2, e2, l2, u2, hb⟩ := sz_bc hb
  have hbn := sz_bn hb
  subst hbn
  subst e2
  subst e1
  subst e0
  have E0 : sx_ev [-1, -1, 0, 1] [x0, x1, x2] = -x0 + x2 - 1 := by simp [sx_ev, sx_dot] <;> omega
  have E1 : sx_ev [1, 0, 1] [x0, x1, x2] = x1 + 1 := by simp [sx_ev, sx_dot] <;> omega
  have E2 : sx_ev [3] [x0, x1, x2] = 3 := by simp [sx_ev, sx_dot] <;> omega
  have E3 : sx_ev [0, 0, 0, 1] [x0, x1, x2] = x2 := by simp [sx_ev, sx_dot] <;> omega
  have E4 : sx_ev [0, 1] [x0, x1, x2] = x0 := by simp [sx_ev, sx_dot] <;> omega
  have E5 : sx_ev [0, 0, 1] [x0, x1, x2] = x1 := by simp [sx_ev, sx_dot] <;> omega
  have f0 := hF [-1, -1, 0, 1] List.mem_cons_self
  rw [E0] at f0
  have g0 := hG (88, [1, 0, 1], [3], [0, 0, 0, 1]) List.mem_cons_self
  dsimp only at g0
  rw [E1, E2, E3] at g0
  have p0 := hP (8, [[0, 1], [0, 0, 1]]) List.mem_cons_self
  have p0 : sz_pr 8 [sx_ev [0, 1] [x0, x1, x2], sx_ev [0, 0, 1] [x0, x1, x2]] hh := p0
  rw [E4, E5] at p0
  have hw := sz_w0 hw
  rw [hw]
  have hz := zs_jv_n2 (hh := hh) l0 u0 l1 u1 l2 u2 f0 g0 p0
  refine ⟨fun f hf => ?_, fun q hq => ?_⟩
  · cases hf
  · obtain rfl := List.mem_singleton.mp hq
    show sz_pr 8 [sx_ev [0, 1] [x0, x1, x2], sx_ev [1, 0, 1] [x0, x1, x2]] _
    rw [E4, E1]
    exact hz
theorem sz_k30 : sx_Rk sz_pr sz_u30 := by
  intro r hh hh' hb hF hG hP hw
  obtain ⟨x0, r0, e0, l0, u0, hb⟩ := sz_bc hb
  obtain ⟨x1, r1, e1, l1, u1, hb⟩ := sz_bc hb
  have hbn := sz_bn hb
  subst hbn
  subst e1
  subst e0
  have E0 : sx_ev [0, 1] [x0, x1] = x0 := by simp [sx_ev, sx_dot] <;> omega
  have E1 : sx_ev [0, 0, 1] [x0, x1] = x1 := by simp [sx_ev, sx_dot] <;> omega
  have p0 := hP (0, []) List.mem_cons_self
  have p0 : sz_pr 0 [] hh := p0
  have p1 := hP (8, [[0, 1], [0, 0, 1]]) (List.mem_cons_of_mem _ List.mem_cons_self)
  have p1 : sz_pr 8 [sx_ev [0, 1] [x0, x1], sx_ev [0, 0, 1] [x0, x1]] hh := p1
  rw [E0, E1] at p1
  have p2 := hP (9, [[0, 1]]) (List.mem_cons_of_mem _ (List.mem_cons_of_mem _ List.mem_cons_self))
  have p2 : sz_pr 9 [sx_ev [0, 1] [x0, x1]] hh := p2
  rw [E0] at p2
  have hw := sz_w0 hw
  rw [hw]
  have hz := zs_jf_v (hh := hh) l0 u0 l1 u1 p0 p1 p2
  refine ⟨fun f hf => ?_, fun q hq => ?_⟩
  · cases hf
  · obtain rfl := List.mem_singleton.mp hq
    show sz_pr 3 [sx_ev [0, 1] [x0, x1]] _
    rw [E0]
    exact hz
theorem sz_k31 : sx_Rk sz_pr sz_u31 := by
  intro r hh hh' hb hF hG hP hw
  have hbn := sz_bn hb
  subst hbn
  have E0 : sx_ev [] [] = 0 := by simp [sx_ev, sx_dot] <;> omega
  have p0 := hP (0, []) List.mem_cons_self
  have p0 : sz_pr 0 [] hh := p0
  have hw := sz_w0 hw
  rw [hw]
  have hz := zs_jw0 (hh := hh) p0
  refine ⟨fun f hf => ?_, fun q hq => ?_⟩
  · cases hf
  · obtain rfl := List.mem_singleton.mp hq
    show sz_pr 10 [sx_ev [] []] _
    rw [E0]
    exact hz
theorem sz_k32 : sx_Rk sz_pr sz_u32 := by
  intro r hh hh' hb hF hG hP hw
  obtain ⟨x0, r0, e0, l0, u0, hb⟩ := sz_bc hb
  obtain ⟨x1, r1, e1, l1, u1, hb⟩ := sz_bc hb
  have hbn := sz_bn hb
  subst hbn
  subst e1
  subst e0
  have E0 : sx_ev [0, 1] [x0, x1] = x0 := by simp [sx_ev, sx_dot] <;> omega
  have E1 : sx_ev [0, 0, 1] [x0, x1] = x1 := by simp [sx_ev, sx_dot] <;> omega
  have E2 : sx_ev [2] [x0, x1] = 2 := by simp [sx_ev, sx_dot] <;> omega
  have E3 : sx_ev [] [x0, x1] = 0 := by simp [sx_ev, sx_dot] <;> omega
  have p0 := hP (10, [[0, 1]]) List.mem_cons_self
  have p0 : sz_pr 10 [sx_ev [0, 1] [x0, x1]] hh := p0
  rw [E0] at p0
  have hu := sz_w1 hw
  rw [E1, E2, E3] at hu
  have hz := zs_jw_w (hh := hh) (hh' := hh') l0 u0 l1 u1 p0 (fun c => by rw [hu]; simp)
  refine ⟨fun f hf => ?_, fun q hq => ?_⟩
  · cases hf
  · obtain rfl := List.mem_singleton.mp hq
    show sz_pr 10 [sx_ev [0, 1] [x0, x1]] _
    rw [E0]
    exact hz
theorem sz_k33 : sx_Rk sz_pr sz_u33 := by
  intro r hh hh' hb hF hG hP hw
  obtain ⟨x0, r0, e0, l0, u0, hb⟩ := sz_bc hb
  obtain ⟨x1, r1, e1, l1, u1, hb⟩ := sz_bc hb
  have hbn := sz_bn hb
  subst hbn
  subst e1
  subst e0
  have E0 : sx_ev [1, 1] [x0, x1] = x0 + 1 := by simp [sx_ev, sx_dot] <;> omega
  have E1 : sx_ev [2] [x0, x1] = 2 := by simp [sx_ev, sx_dot] <;> omega
  have E2 : sx_ev [0, 0, 1] [x0, x1] = x1 := by simp [sx_ev, sx_dot] <;> omega
  have E3 : sx_ev [0, 1] [x0, x1] = x0 := by simp [sx_ev, sx_dot] <;> omega
  have g0 := hG (88, [1, 1], [2], [0, 0, 1]) List.mem_cons_self
  dsimp only at g0
  rw [E0, E1, E2] at g0
  have p0 := hP (10, [[0, 1]]) List.mem_cons_self
  have p0 : sz_pr 10 [sx_ev [0, 1] [x0, x1]] hh := p0
  rw [E3] at p0
  have hw := sz_w0 hw
  rw [hw]
  have hz := zs_jw_n (hh := hh) l0 u0 l1 u1 g0 p0
  refine ⟨fun f hf => ?_, fun q hq => ?_⟩
  · cases hf
  · obtain rfl := List.mem_singleton.mp hq
    show sz_pr 10 [sx_ev [1, 1] [x0, x1]] _
    rw [E0]
    exact hz
theorem sz_k34 : sx_Rk sz_pr sz_u34 := by
  intro r hh hh' hb hF hG hP hw
  obtain ⟨x0, r0, e0, l0, u0, hb⟩ := sz_bc hb
  obtain ⟨x1, r1, e1, l1, u1, hb⟩ := sz_bc hb
  obtain ⟨x2, r2, e2, l2, u2, hb⟩ := sz_bc hb
  obtain ⟨x3, r3, e3, l3, u3, hb⟩ := sz_bc hb
  have hbn := sz_bn hb
  subst hbn
  subst e3
  subst e2
  subst e1
  subst e0
  have E0 : sx_ev [0, 1] [x0, x1, x2, x3] = x0 := by simp [sx_ev, sx_dot] <;> omega
  have E1 : sx_ev [2] [x0, x1, x2, x3] = 2 := by simp [sx_ev, sx_dot] <;> omega
  have E2 : sx_ev [0, 0, 0, 0, 1] [x0, x1, x2, x3] = x3 := by simp [sx_ev, sx_dot] <;> omega
  have E3 : sx_ev [3] [x0, x1, x2, x3] = 3 := by simp [sx_ev, sx_dot] <;> omega
  have E4 : sx_ev [0, 0, 1] [x0, x1, x2, x3] = x1 := by simp [sx_ev, sx_dot] <;> omega
  have E5 : sx_ev [6] [x0, x1, x2, x3] = 6 := by simp [sx_ev, sx_dot] <;> omega
  have E6 : sx_ev [0, 0, 0, 1] [x0, x1, x2, x3] = x2 := by simp [sx_ev, sx_dot] <;> omega
  have E7 : sx_ev [-1, 0, 0, 1] [x0, x1, x2, x3] = x2 - 1 := by simp [sx_ev, sx_dot] <;> omega
  have g0 := hG (88, [0, 1], [2], [0, 0, 0, 0, 1]) List.mem_cons_self
  dsimp only at g0
  rw [E0, E1, E2] at g0
  have g1 := hG (88, [0, 1], [3], [0, 0, 1]) (List.mem_cons_of_mem _ List.mem_cons_self)
  dsimp only at g1
  rw [E0, E3, E4] at g1
  have g2 := hG (87, [0, 0, 1], [6], [0, 0, 0, 1]) (List.mem_cons_of_mem _ (List.mem_cons_of_mem _ List.mem_cons_self))
  dsimp only at g2
  rw [E4, E5, E6] at g2
  have p0 := hP (0, []) List.mem_cons_self
  have p0 : sz_pr 0 [] hh := p0
  have hw := sz_w0 hw
  rw [hw]
  have hz := zs_own (hh := hh) l0 u0 l1 u1 l2 u2 l3 u3 g0 g1 g2 p0
  refine ⟨fun f hf => ?_, fun q hq => ?_⟩
  · rw [List.mem_singleton.mp hf, E7]
    exact hz
  · cases hq
theorem sz_k35 : sx_Rk sz_pr sz_u35 := by
  intro r hh hh' hb hF hG hP hw
  obtain ⟨x0, r0, e0, l0, u0, hb⟩ := sz_bc hb
  obtain ⟨x1, r1, e1, l1, u1, hb⟩ := sz_bc hb
  obtain ⟨x2, r2, e2, l2, u2, hb⟩ := sz_bc hb
  have hbn := sz_bn hb
  subst hbn
  subst e2
  subst e1
  subst e0
  have E0 : sx_ev [8, 0, -1] [x0, x1, x2] = -x1 + 8 := by simp [sx_ev, sx_dot] <;> omega
  have E1 : sx_ev [8, 0, 0, -1] [x0, x1, x2] = -x2 + 8 := by simp [sx_ev, sx_dot] <;> omega
  have E2 : sx_ev [0, 1] [x0, x1, x2] = x0 := by simp [sx_ev, sx_dot] <;> omega
  have E3 : sx_ev [8] [x0, x1, x2] = 8 := by simp [sx_ev, sx_dot] <;> omega
  have E4 : sx_ev [0, 0, 1] [x0, x1, x2] = x1 := by simp [sx_ev, sx_dot] <;> omega
  have E5 : sx_ev [12] [x0, x1, x2] = 12 := by simp [sx_ev, sx_dot] <;> omega
  have E6 : sx_ev [0, 0, 0, 1] [x0, x1, x2] = x2 := by simp [sx_ev, sx_dot] <;> omega
  have E7 : sx_ev [6] [x0, x1, x2] = 6 := by simp [sx_ev, sx_dot] <;> omega
  have E8 : sx_ev [1] [x0, x1, x2] = 1 := by simp [sx_ev, sx_dot] <;> omega
  have f0 := hF [8, 0, -1] List.mem_cons_self
  rw [E0] at f0
  have f1 := hF [8, 0, 0, -1] (List.mem_cons_of_mem _ List.mem_cons_self)
  rw [E1] at f1
  have g0 := hG (87, [0, 1], [8], [0, 0, 1]) List.mem_cons_self
  dsimp only at g0
  rw [E2, E3, E4] at g0
  have g1 := hG (87, [0, 1], [12], [0, 0, 0, 1]) (List.mem_cons_of_mem _ List.mem_cons_self)
  dsimp only at g1
  rw [E2, E5, E6] at g1
  have p0 := hP (11, []) List.mem_cons_self
  have p0 : sz_pr 11 [] hh := p0
  have hu := sz_w1 hw
  rw [E2, E7, E8] at hu
  have hz := zs_ja_in1 (hh := hh) (hh' := hh') l0 u0 l1 u1 l2 u2 f0 f1 g0 g1 p0 (fun c => by rw [hu]; simp) (fun c => by rw [hu]; exact if_neg (by omega)) (fun c => by rw [hu]; exact if_neg (by omega))
  refine ⟨fun f hf => ?_, fun q hq => ?_⟩
  · cases hf
  · obtain rfl := List.mem_singleton.mp hq
    show sz_pr 11 [] _
    exact hz
theorem sz_k36 : sx_Rk sz_pr sz_u36 := by
  intro r hh hh' hb hF hG hP hw
  obtain ⟨x0, r0, e0, l0, u0, hb⟩ := sz_bc hb
  have hbn := sz_bn hb
  subst hbn
  subst e0
  have E0 : sx_ev [0, 1] [x0] = x0 := by simp [sx_ev, sx_dot] <;> omega
  have E1 : sx_ev [6] [x0] = 6 := by simp [sx_ev, sx_dot] <;> omega
  have E2 : sx_ev [] [x0] = 0 := by simp [sx_ev, sx_dot] <;> omega
  have p0 := hP (11, []) List.mem_cons_self
  have p0 : sz_pr 11 [] hh := p0
  have hu := sz_w1 hw
  rw [E0, E1, E2] at hu
  have hz := zs_ja_in0 (hh := hh) (hh' := hh') l0 u0 p0 (fun c => by rw [hu]; simp) (fun c => by rw [hu]; exact if_neg (by omega)) (fun c => by rw [hu]; exact if_neg (by omega))
  refine ⟨fun f hf => ?_, fun q hq => ?_⟩
  · cases hf
  · obtain rfl := List.mem_singleton.mp hq
    show sz_pr 11 [] _
    exact hz
theorem sz_k37 : sx_Rk sz_pr sz_u37 := by
  intro r hh hh' hb hF hG hP hw
  obtain ⟨x0, r0, e0, l0, u0, hb⟩ := sz_bc hb
  obtain ⟨x1, r1, e1, l1, u1, hb⟩ := sz_bc hb
  obtain ⟨x2, r2, e2, l2, u2, hb⟩ := sz_bc hb
  have hbn := sz_bn hb
  subst hbn
  subst e2
  subst e1
  subst e0
  have E0 : sx_ev [0, 1] [x0, x1, x2] = x0 := by simp [sx_ev, sx_dot] <;> omega
  have E1 : sx_ev [6] [x0, x1, x2] = 6 := by simp [sx_ev, sx_dot] <;> omega
  have E2 : sx_ev [0, 0, 0, 1] [x0, x1, x2] = x2 := by simp [sx_ev, sx_dot] <;> omega
  have E3 : sx_ev [8] [x0, x1, x2] = 8 := by simp [sx_ev, sx_dot] <;> omega
  have E4 : sx_ev [0, 0, 1] [x0, x1, x2] = x1 := by simp [sx_ev, sx_dot] <;> omega
  have g0 := hG (87, [0, 1], [6], [0, 0, 0, 1]) List.mem_cons_self
  dsimp only at g0
  rw [E0, E1, E2] at g0
  have p0 := hP (11, []) List.mem_cons_self
  have p0 : sz_pr 11 [] hh := p0
  have hu := sz_w1 hw
  rw [E0, E3, E4] at hu
  have hz := zs_ja_pc (hh := hh) (hh' := hh') l0 u0 l1 u1 l2 u2 g0 p0 (fun c => by rw [hu]; exact if_neg (by omega)) (fun c => by rw [hu]; simp) (fun c => by rw [hu]; exact if_neg (by omega))
  refine ⟨fun f hf => ?_, fun q hq => ?_⟩
  · cases hf
  · obtain rfl := List.mem_singleton.mp hq
    show sz_pr 11 [] _
    exact hz
theorem sz_k38 : sx_Rk sz_pr sz_u38 := by
  intro r hh hh' hb hF hG hP hw
  obtain ⟨x0, r0, e0, l0, u0, hb⟩ := sz_bc hb
  obtain ⟨x1, r1, e1, l1, u1, hb⟩ := sz_bc hb
  obtain ⟨x2, r2, e2, l2, u2, hb⟩ := sz_bc hb
  have hbn := sz_bn hb
  subst hbn
  subst e2
  subst e1
  subst e0
  have E0 : sx_ev [0, 1] [x0, x1, x2] = x0 := by simp [sx_ev, sx_dot] <;> omega
  have E1 : sx_ev [6] [x0, x1, x2] = 6 := by simp [sx_ev, sx_dot] <;> omega
  have E2 : sx_ev [0, 0, 0, 1] [x0, x1, x2] = x2 := by simp [sx_ev, sx_dot] <;> omega
  have E3 : sx_ev [12] [x0, x1, x2] = 12 := by simp [sx_ev, sx_dot] <;> omega
  have E4 : sx_ev [0, 0, 1] [x0, x1, x2] = x1 := by simp [sx_ev, sx_dot] <;> omega
  have g0 := hG (87, [0, 1], [6], [0, 0, 0, 1]) List.mem_cons_self
  dsimp only at g0
  rw [E0, E1, E2] at g0
  have p0 := hP (11, []) List.mem_cons_self
  have p0 : sz_pr 11 [] hh := p0
  have hu := sz_w1 hw
  rw [E0, E3, E4] at hu
  have hz := zs_ja_cm (hh := hh) (hh' := hh') l0 u0 l1 u1 l2 u2 g0 p0 (fun c => by rw [hu]; exact if_neg (by omega)) (fun c => by rw [hu]; exact if_neg (by omega)) (fun c => by rw [hu]; simp)
  refine ⟨fun f hf => ?_, fun q hq => ?_⟩
  · cases hf
  · obtain rfl := List.mem_singleton.mp hq
    show sz_pr 11 [] _
    exact hz
theorem sz_k39 : sx_Rk sz_pr sz_u39 := by
  intro r hh hh' hb hF hG hP hw
  obtain ⟨x0, r0, e0, l0, u0, hb⟩ := sz_bc hb
  obtain ⟨x1, r1, e1, l1, u1, hb⟩ := sz_bc hb
  have hbn := sz_bn hb
  subst hbn
  subst e1
  subst e0
  have E0 : sx_ev [8, 0, -1] [x0, x1] = -x1 + 8 := by simp [sx_ev, sx_dot] <;> omega
  have E1 : sx_ev [0, 1] [x0, x1] = x0 := by simp [sx_ev, sx_dot] <;> omega
  have E2 : sx_ev [8] [x0, x1] = 8 := by simp [sx_ev, sx_dot] <;> omega
  have E3 : sx_ev [0, 0, 1] [x0, x1] = x1 := by simp [sx_ev, sx_dot] <;> omega
  have f0 := hF [8, 0, -1] List.mem_cons_self
  rw [E0] at f0
  have p0 := hP (11, []) List.mem_cons_self
  have p0 : sz_pr 11 [] hh := p0
  have hu := sz_w1 hw
  rw [E1, E2, E3] at hu
  have hz := zs_ja_pc8 (hh := hh) (hh' := hh') l0 u0 l1 u1 f0 p0 (fun c => by rw [hu]; exact if_neg (by omega)) (fun c => by rw [hu]; simp) (fun c => by rw [hu]; exact if_neg (by omega))
  refine ⟨fun f hf => ?_, fun q hq => ?_⟩
  · cases hf
  · obtain rfl := List.mem_singleton.mp hq
    show sz_pr 11 [] _
    exact hz
theorem sz_k40 : sx_Rk sz_pr sz_u40 := by
  intro r hh hh' hb hF hG hP hw
  obtain ⟨x0, r0, e0, l0, u0, hb⟩ := sz_bc hb
  obtain ⟨x1, r1, e1, l1, u1, hb⟩ := sz_bc hb
  have hbn := sz_bn hb
  subst hbn
  subst e1
  subst e0
  have E0 : sx_ev [8, 0, -1] [x0, x1] = -x1 + 8 := by simp [sx_ev, sx_dot] <;> omega
  have E1 : sx_ev [0, 1] [x0, x1] = x0 := by simp [sx_ev, sx_dot] <;> omega
  have E2 : sx_ev [8] [x0, x1] = 8 := by simp [sx_ev, sx_dot] <;> omega
  have E3 : sx_ev [0, 0, 1] [x0, x1] = x1 := by simp [sx_ev, sx_dot] <;> omega
  have f0 := hF [8, 0, -1] List.mem_cons_self
  rw [E0] at f0
  have p0 := hP (12, [[0, 1]]) List.mem_cons_self
  have p0 : sz_pr 12 [sx_ev [0, 1] [x0, x1]] hh := p0
  rw [E1] at p0
  have hu := sz_w1 hw
  rw [E1, E2, E3] at hu
  have hz := zs_pcb_w (hh := hh) (hh' := hh') l0 u0 l1 u1 f0 p0 (fun c => by rw [hu]; simp)
  refine ⟨fun f hf => ?_, fun q hq => ?_⟩
  · cases hf
  · obtain rfl := List.mem_singleton.mp hq
    show sz_pr 12 [sx_ev [0, 1] [x0, x1]] _
    rw [E1]
    exact hz
theorem sz_k41 : sx_Rk sz_pr sz_u41 := by
  intro r hh hh' hb hF hG hP hw
  obtain ⟨x0, r0, e0, l0, u0, hb⟩ := sz_bc hb
  obtain ⟨x1, r1, e1, l1, u1, hb⟩ := sz_bc hb
  obtain ⟨x2, r2, e2, l2, u2, hb⟩ := sz_bc hb
  have hbn := sz_bn hb
  subst hbn
  subst e2
  subst e1
  subst e0
  have E0 : sx_ev [0, 1] [x0, x1, x2] = x0 := by simp [sx_ev, sx_dot] <;> omega
  have E1 : sx_ev [6] [x0, x1, x2] = 6 := by simp [sx_ev, sx_dot] <;> omega
  have E2 : sx_ev [0, 0, 0, 1] [x0, x1, x2] = x2 := by simp [sx_ev, sx_dot] <;> omega
  have E3 : sx_ev [8] [x0, x1, x2] = 8 := by simp [sx_ev, sx_dot] <;> omega
  have E4 : sx_ev [0, 0, 1] [x0, x1, x2] = x1 := by simp [sx_ev, sx_dot] <;> omega
  have E5 : sx_ev [8, 0, -1] [x0, x1, x2] = -x1 + 8 := by simp [sx_ev, sx_dot] <;> omega
  have g0 := hG (87, [0, 1], [6], [0, 0, 0, 1]) List.mem_cons_self
  dsimp only at g0
  rw [E0, E1, E2] at g0
  have g1 := hG (87, [0, 1], [8], [0, 0, 1]) (List.mem_cons_of_mem _ List.mem_cons_self)
  dsimp only at g1
  rw [E0, E3, E4] at g1
  have p0 := hP (11, []) List.mem_cons_self
  have p0 : sz_pr 11 [] hh := p0
  have hw := sz_w0 hw
  rw [hw]
  have hz := zs_ja_upc (hh := hh) l0 u0 l1 u1 l2 u2 g0 g1 p0
  refine ⟨fun f hf => ?_, fun q hq => ?_⟩
  · rw [List.mem_singleton.mp hf, E5]
    exact hz
  · cases hq
theorem sz_k42 : sx_Rk sz_pr sz_u42 := by
  intro r hh hh' hb hF hG hP hw
  obtain ⟨x0, r0, e0, l0, u0, hb⟩ := sz_bc hb
  obtain ⟨x1, r1, e1, l1, u1, hb⟩ := sz_bc hb
  obtain ⟨x2, r2, e2, l2, u2, hb⟩ := sz_bc hb
  have hbn := sz_bn hb
  subst hbn
  subst e2
  subst e1
  subst e0
  have E0 : sx_ev [0, 1] [x0, x1, x2] = x0 := by simp [sx_ev, sx_dot] <;> omega
  have E1 : sx_ev [6] [x0, x1, x2] = 6 := by simp [sx_ev, sx_dot] <;> omega
  have E2 : sx_ev [0, 0, 0, 1] [x0, x1, x2] = x2 := by simp [sx_ev, sx_dot] <;> omega
  have E3 : sx_ev [12] [x0, x1, x2] = 12 := by simp [sx_ev, sx_dot] <;> omega
  have E4 : sx_ev [0, 0, 1] [x0, x1, x2] = x1 := by simp [sx_ev, sx_dot] <;> omega
  have E5 : sx_ev [8, 0, -1] [x0, x1, x2] = -x1 + 8 := by simp [sx_ev, sx_dot] <;> omega
  have g0 := hG (87, [0, 1], [6], [0, 0, 0, 1]) List.mem_cons_self
  dsimp only at g0
  rw [E0, E1, E2] at g0
  have g1 := hG (87, [0, 1], [12], [0, 0, 1]) (List.mem_cons_of_mem _ List.mem_cons_self)
  dsimp only at g1
  rw [E0, E3, E4] at g1
  have p0 := hP (11, []) List.mem_cons_self
  have p0 : sz_pr 11 [] hh := p0
  have hw := sz_w0 hw
  rw [hw]
  have hz := zs_ja_ucm (hh := hh) l0 u0 l1 u1 l2 u2 g0 g1 p0
  refine ⟨fun f hf => ?_, fun q hq => ?_⟩
  · rw [List.mem_singleton.mp hf, E5]
    exact hz
  · cases hq
theorem sz_k43 : sx_Rk sz_pr sz_u43 := by
  intro r hh hh' hb hF hG hP hw
  obtain ⟨x0, r0, e0, l0, u0, hb⟩ := sz_bc hb
  obtain ⟨x1, r1, e1, l1, u1, hb⟩ := sz_bc hb
  have hbn := sz_bn hb
  subst hbn
  subst e1
  subst e0
  have E0 : sx_ev [0, 1] [x0, x1] = x0 := by simp [sx_ev, sx_dot] <;> omega
  have E1 : sx_ev [8] [x0, x1] = 8 := by simp [sx_ev, sx_dot] <;> omega
  have E2 : sx_ev [0, 0, 1] [x0, x1] = x1 := by simp [sx_ev, sx_dot] <;> omega
  have E3 : sx_ev [8, 0, -1] [x0, x1] = -x1 + 8 := by simp [sx_ev, sx_dot] <;> omega
  have g0 := hG (87, [0, 1], [8], [0, 0, 1]) List.mem_cons_self
  dsimp only at g0
  rw [E0, E1, E2] at g0
  have p0 := hP (12, [[0, 1]]) List.mem_cons_self
  have p0 : sz_pr 12 [sx_ev [0, 1] [x0, x1]] hh := p0
  rw [E0] at p0
  have hw := sz_w0 hw
  rw [hw]
  have hz := zs_pcb_use (hh := hh) l0 u0 l1 u1 g0 p0
  refine ⟨fun f hf => ?_, fun q hq => ?_⟩
  · rw [List.mem_singleton.mp hf, E3]
    exact hz
  · cases hq
theorem sz_k44 : sx_Rk sz_pr sz_u44 := by
  intro r hh hh' hb hF hG hP hw
  obtain ⟨x0, r0, e0, l0, u0, hb⟩ := sz_bc hb
  have hbn := sz_bn hb
  subst hbn
  subst e0
  have E0 : sx_ev [0, 1] [x0] = x0 := by simp [sx_ev, sx_dot] <;> omega
  have E1 : sx_ev [] [x0] = 0 := by simp [sx_ev, sx_dot] <;> omega
  have hw := sz_w0 hw
  rw [hw]
  have hz := zs_ni0 (hh := hh) l0 u0
  refine ⟨fun f hf => ?_, fun q hq => ?_⟩
  · cases hf
  · obtain rfl := List.mem_singleton.mp hq
    show sz_pr 13 [sx_ev [0, 1] [x0], sx_ev [] [x0]] _
    rw [E0, E1]
    exact hz
theorem sz_k45 : sx_Rk sz_pr sz_u45 := by
  intro r hh hh' hb hF hG hP hw
  obtain ⟨x0, r0, e0, l0, u0, hb⟩ := sz_bc hb
  obtain ⟨x1, r1, e1, l1, u1, hb⟩ := sz_bc hb
  obtain ⟨x2, r2, e2, l2, u2, hb⟩ := sz_bc hb
  have hbn := sz_bn hb
  subst hbn
  subst e2
  subst e1
  subst e0
  have E0 : sx_ev [0, 0, 1] [x0, x1, x2] = x1 := by simp [sx_ev, sx_dot] <;> omega
  have E1 : sx_ev [6] [x0, x1, x2] = 6 := by simp [sx_ev, sx_dot] <;> omega
  have E2 : sx_ev [0, 0, 0, 1] [x0, x1, x2] = x2 := by simp [sx_ev, sx_dot] <;> omega
  have E3 : sx_ev [0, 1] [x0, x1, x2] = x0 := by simp [sx_ev, sx_dot] <;> omega
  have E4 : sx_ev [1, 0, 1] [x0, x1, x2] = x1 + 1 := by simp [sx_ev, sx_dot] <;> omega
  have g0 := hG (87, [0, 0, 1], [6], [0, 0, 0, 1]) List.mem_cons_self
  dsimp only at g0
  rw [E0, E1, E2] at g0
  have p0 := hP (13, [[0, 1], [0, 0, 1]]) List.mem_cons_self
  have p0 : sz_pr 13 [sx_ev [0, 1] [x0, x1, x2], sx_ev [0, 0, 1] [x0, x1, x2]] hh := p0
  rw [E3, E0] at p0
  have hw := sz_w0 hw
  rw [hw]
  have hz := zs_ni_in (hh := hh) l0 u0 l1 u1 l2 u2 g0 p0
  refine ⟨fun f hf => ?_, fun q hq => ?_⟩
  · cases hf
  · obtain rfl := List.mem_singleton.mp hq
    show sz_pr 13 [sx_ev [0, 1] [x0, x1, x2], sx_ev [1, 0, 1] [x0, x1, x2]] _
    rw [E3, E4]
    exact hz
theorem sz_k46 : sx_Rk sz_pr sz_u46 := by
  intro r hh hh' hb hF hG hP hw
  obtain ⟨x0, r0, e0, l0, u0, hb⟩ := sz_bc hb
  obtain ⟨x1, r1, e1, l1, u1, hb⟩ := sz_bc hb
  obtain ⟨x2, r2, e2, l2, u2, hb⟩ := sz_bc hb
  have hbn := sz_bn hb
  subst hbn
  subst e2
  subst e1
  subst e0
  have E0 : sx_ev [-1, 1, 0, -1] [x0, x1, x2] = x0 - x2 - 1 := by simp [sx_ev, sx_dot] <;> omega
  have E1 : sx_ev [0, 0, 1] [x0, x1, x2] = x1 := by simp [sx_ev, sx_dot] <;> omega
  have E2 : sx_ev [4] [x0, x1, x2] = 4 := by simp [sx_ev, sx_dot] <;> omega
  have E3 : sx_ev [0, 0, 0, 1] [x0, x1, x2] = x2 := by simp [sx_ev, sx_dot] <;> omega
  have E4 : sx_ev [0, 1] [x0, x1, x2] = x0 := by simp [sx_ev, sx_dot] <;> omega
  have E5 : sx_ev [1, 0, 1] [x0, x1, x2] = x1 + 1 := by simp [sx_ev, sx_dot] <;> omega
  have f0 := hF [-1, 1, 0, -1] List.mem_cons_self
  rw [E0] at f0
  have g0 := hG (87, [0, 0, 1], [4], [0, 0, 0, 1]) List.mem_cons_self
  dsimp only at g0
  rw [E1, E2, E3] at g0
  have p0 := hP (13, [[0, 1], [0, 0, 1]]) List.mem_cons_self
  have p0 : sz_pr 13 [sx_ev [0, 1] [x0, x1, x2], sx_ev [0, 0, 1] [x0, x1, x2]] hh := p0
  rw [E4, E1] at p0
  have hw := sz_w0 hw
  rw [hw]
  have hz := zs_ni_p1 (hh := hh) l0 u0 l1 u1 l2 u2 f0 g0 p0
  refine ⟨fun f hf => ?_, fun q hq => ?_⟩
  · cases hf
  · obtain rfl := List.mem_singleton.mp hq
    show sz_pr 13 [sx_ev [0, 1] [x0, x1, x2], sx_ev [1, 0, 1] [x0, x1, x2]] _
    rw [E4, E5]
    exact hz
theorem sz_k47 : sx_Rk sz_pr sz_u47 := by
  intro r hh hh' hb hF hG hP hw
  obtain ⟨x0, r0, e0, l0, u0, hb⟩ := sz_bc hb
  obtain ⟨x1, r1, e1, l1, u1, hb⟩ := sz_bc hb
  obtain ⟨x2, r2, e2, l2, u2, hb⟩ := sz_bc hb
  have hbn := sz_bn hb
  subst hbn
  subst e2
  subst e1
  subst e0
  have E0 : sx_ev [-1, -1, 0, 1] [x0, x1, x2] = -x0 + x2 - 1 := by simp [sx_ev, sx_dot] <;> omega
  have E1 : sx_ev [0, 0, 1] [x0, x1, x2] = x1 := by simp [sx_ev, sx_dot] <;> omega
  have E2 : sx_ev [4] [x0, x1, x2] = 4 := by simp [sx_ev, sx_dot] <;> omega
  have E3 : sx_ev [0, 0, 0, 1] [x0, x1, x2] = x2 := by simp [sx_ev, sx_dot] <;> omega
  have E4 : sx_ev [0, 1] [x0, x1, x2] = x0 := by simp [sx_ev, sx_dot] <;> omega
  have E5 : sx_ev [1, 0, 1] [x0, x1, x2] = x1 + 1 := by simp [sx_ev, sx_dot] <;> omega
  have f0 := hF [-1, -1, 0, 1] List.mem_cons_self
  rw [E0] at f0
  have g0 := hG (87, [0, 0, 1], [4], [0, 0, 0, 1]) List.mem_cons_self
  dsimp only at g0
  rw [E1, E2, E3] at g0
  have p0 := hP (13, [[0, 1], [0, 0, 1]]) List.mem_cons_self
  have p0 : sz_pr 13 [sx_ev [0, 1] [x0, x1, x2], sx_ev [0, 0, 1] [x0, x1, x2]] hh := p0
  rw [E4, E1] at p0
  have hw := sz_w0 hw
  rw [hw]
  have hz := zs_ni_p2 (hh := hh) l0 u0 l1 u1 l2 u2 f0 g0 p0
  refine ⟨fun f hf => ?_, fun q hq => ?_⟩
  · cases hf
  · obtain rfl := List.mem_singleton.mp hq
    show sz_pr 13 [sx_ev [0, 1] [x0, x1, x2], sx_ev [1, 0, 1] [x0, x1, x2]] _
    rw [E4, E5]
    exact hz
theorem sz_k48 : sx_Rk sz_pr sz_u48 := by
  intro r hh hh' hb hF hG hP hw
  obtain ⟨x0, r0, e0, l0, u0, hb⟩ := sz_bc hb
  obtain ⟨x1, r1, e1, l1, u1, hb⟩ := sz_bc hb
  obtain ⟨x2, r2, e2, l2, u2, hb⟩ := sz_bc hb
  obtain ⟨x3, r3, e3, l3, u3, hb⟩ := sz_bc hb
  have hbn := sz_bn hb
  subst hbn
  subst e3
  subst e2
  subst e1
  subst e0
  have E0 : sx_ev [0, 0, 1] [x0, x1, x2, x3] = x1 := by simp [sx_ev, sx_dot] <;> omega
  have E1 : sx_ev [4] [x0, x1, x2, x3] = 4 := by simp [sx_ev, sx_dot] <;> omega
  have E2 : sx_ev [0, 1] [x0, x1, x2, x3] = x0 := by simp [sx_ev, sx_dot] <;> omega
  have E3 : sx_ev [6] [x0, x1, x2, x3] = 6 := by simp [sx_ev, sx_dot] <;> omega
  have E4 : sx_ev [0, 0, 0, 1] [x0, x1, x2, x3] = x2 := by simp [sx_ev, sx_dot] <;> omega
  have E5 : sx_ev [0, 0, 0, 0, 1] [x0, x1, x2, x3] = x3 := by simp [sx_ev, sx_dot] <;> omega
  have E6 : sx_ev [0, 0, 0, -1] [x0, x1, x2, x3] = -x2 := by simp [sx_ev, sx_dot] <;> omega
  have g0 := hG (87, [0, 0, 1], [4], [0, 1]) List.mem_cons_self
  dsimp only at g0
  rw [E0, E1, E2] at g0
  have g1 := hG (87, [0, 0, 1], [6], [0, 0, 0, 1]) (List.mem_cons_of_mem _ List.mem_cons_self)
  dsimp only at g1
  rw [E0, E3, E4] at g1
  have p0 := hP (13, [[0, 1], [0, 0, 0, 0, 1]]) List.mem_cons_self
  have p0 : sz_pr 13 [sx_ev [0, 1] [x0, x1, x2, x3], sx_ev [0, 0, 0, 0, 1] [x0, x1, x2, x3]] hh := p0
  rw [E2, E5] at p0
  have hw := sz_w0 hw
  rw [hw]
  have hz := zs_ni_use (hh := hh) l0 u0 l1 u1 l2 u2 l3 u3 g0 g1 p0
  refine ⟨fun f hf => ?_, fun q hq => ?_⟩
  · rw [List.mem_singleton.mp hf, E6]
    exact hz
  · cases hq
theorem sz_k49 : sx_Rk sz_pr sz_u49 := by
  intro r hh hh' hb hF hG hP hw
  obtain ⟨x0, r0, e0, l0, u0, hb⟩ := sz_bc hb
  obtain ⟨x1, r1, e1, l1, u1, hb⟩ := sz_bc hb
  have hbn := sz_bn hb
  subst hbn
  subst e1
  subst e0
  have E0 : sx_ev [0, 1] [x0, x1] = x0 := by simp [sx_ev, sx_dot] <;> omega
  have E1 : sx_ev [0, 0, 1] [x0, x1] = x1 := by simp [sx_ev, sx_dot] <;> omega
  have E2 : sx_ev [8] [x0, x1] = 8 := by simp [sx_ev, sx_dot] <;> omega
  have p0 := hP (13, [[0, 1], [0, 0, 1]]) List.mem_cons_self
  have p0 : sz_pr 13 [sx_ev [0, 1] [x0, x1], sx_ev [0, 0, 1] [x0, x1]] hh := p0
  rw [E0, E1] at p0
  have hw := sz_w0 hw
  rw [hw]
  have hz := zs_ni8 (hh := hh) l0 u0 l1 u1 p0
  refine ⟨fun f hf => ?_, fun q hq => ?_⟩
  · cases hf
  · obtain rfl := List.mem_singleton.mp hq
    show sz_pr 13 [sx_ev [0, 1] [x0, x1], sx_ev [8] [x0, x1]] _
    rw [E0, E2]
    exact hz
theorem sz_k50 : sx_Rk sz_pr sz_u50 := by
  intro r hh hh' hb hF hG hP hw
  obtain ⟨x0, r0, e0, l0, u0, hb⟩ := sz_bc hb
  obtain ⟨x1, r1, e1, l1, u1, hb⟩ := sz_bc hb
  obtain ⟨x2, r2, e2, l2, u2, hb⟩ := sz_bc hb
  have hbn := sz_bn hb
  subst hbn
  subst e2
  subst e1
  subst e0
  have E0 : sx_ev [0, 1] [x0, x1, x2] = x0 := by simp [sx_ev, sx_dot] <;> omega
  have E1 : sx_ev [0, 0, 1] [x0, x1, x2] = x1 := by simp [sx_ev, sx_dot] <;> omega
  have E2 : sx_ev [0, 0, 0, 1] [x0, x1, x2] = x2 := by simp [sx_ev, sx_dot] <;> omega
  have p0 := hP (14, []) List.mem_cons_self
  have p0 : sz_pr 14 [] hh := p0
  have hu := sz_w1 hw
  rw [E0, E1, E2] at hu
  have hz := zs_ps_so (hh := hh) (hh' := hh') l0 u0 l1 u1 l2 u2 p0 (fun c g => by rw [hu]; simp) (fun c g => by rw [hu]; exact if_neg (by omega)) (fun c g => by rw [hu]; exact if_neg (by omega))
  refine ⟨fun f hf => ?_, fun q hq => ?_⟩
  · cases hf
  · obtain rfl := List.mem_singleton.mp hq
    show sz_pr 15 [sx_ev [0, 1] [x0, x1, x2], sx_ev [0, 0, 1] [x0, x1, x2]] _
    rw [E0, E1]
    exact hz
theorem sz_k51 : sx_Rk sz_pr sz_u51 := by
  intro r hh hh' hb hF hG hP hw
  obtain ⟨x0, r0, e0, l0, u0, hb⟩ := sz_bc hb
  obtain ⟨x1, r1, e1, l1, u1, hb⟩ := sz_bc hb
  obtain ⟨x2, r2, e2, l2, u2, hb⟩ := sz_bc hb
  have hbn := sz_bn hb
  subst hbn
  subst e2
  subst e1
  subst e0
  have E0 : sx_ev [0, 1] [x0, x1, x2] = x0 := by simp [sx_ev, sx_dot] <;> omega
  have E1 : sx_ev [0, 0, 1] [x0, x1, x2] = x1 := by simp [sx_ev, sx_dot] <;> omega
  have E2 : sx_ev [0, 0, 0, 1] [x0, x1, x2] = x2 := by simp [sx_ev, sx_dot] <;> omega
  have p0 := hP (15, [[0, 1], [0, 0, 1]]) List.mem_cons_self
  have p0 : sz_pr 15 [sx_ev [0, 1] [x0, x1, x2], sx_ev [0, 0, 1] [x0, x1, x2]] hh := p0
  rw [E0, E1] at p0
  have hu := sz_w1 hw
  rw [E0, E1, E2] at hu
  have hz := zs_px_fi (hh := hh) (hh' := hh') l0 u0 l1 u1 l2 u2 p0 (fun c g => by rw [hu]; exact if_neg (by omega)) (fun c g => by rw [hu]; simp) (fun c g => by rw [hu]; exact if_neg (by omega))
  refine ⟨fun f hf => ?_, fun q hq => ?_⟩
  · cases hf
  · obtain rfl := List.mem_singleton.mp hq
    show sz_pr 15 [sx_ev [0, 1] [x0, x1, x2], sx_ev [0, 0, 1] [x0, x1, x2]] _
    rw [E0, E1]
    exact hz
theorem sz_k52 : sx_Rk sz_pr sz_u52 := by
  intro r hh hh' hb hF hG hP hw
  obtain ⟨x0, r0, e0, l0, u0, hb⟩ := sz_bc hb
  obtain ⟨x1, r1, e1, l1, u1, hb⟩ := sz_bc hb
  obtain ⟨x2, r2, e2, l2, u2, hb⟩ := sz_bc hb
  obtain ⟨x3, r3, e3, l3, u3, hb⟩ := sz_bc hb
  have hbn := sz_bn hb
  subst hbn
  subst e3
  subst e2
  subst e1
  subst e0
  have E0 : sx_ev [3, 0, 0, -1] [x0, x1, x2, x3] = -x2 + 3 := by simp [sx_ev, sx_dot] <;> omega
  have E1 : sx_ev [0, 1] [x0, x1, x2, x3] = x0 := by simp [sx_ev, sx_dot] <;> omega
  have E2 : sx_ev [0, 0, 1] [x0, x1, x2, x3] = x1 := by simp [sx_ev, sx_dot] <;> omega
  have E3 : sx_ev [0, 0, 0, 1] [x0, x1, x2, x3] = x2 := by simp [sx_ev, sx_dot] <;> omega
  have E4 : sx_ev [0, 0, 0, 0, 1] [x0, x1, x2, x3] = x3 := by simp [sx_ev, sx_dot] <;> omega
  have f0 := hF [3, 0, 0, -1] List.mem_cons_self
  rw [E0] at f0
  have g0 := hG (15, [0, 1], [0, 0, 1], [0, 0, 0, 1]) List.mem_cons_self
  dsimp only at g0
  rw [E1, E2, E3] at g0
  have p0 := hP (15, [[0, 1], [0, 0, 1]]) List.mem_cons_self
  have p0 : sz_pr 15 [sx_ev [0, 1] [x0, x1, x2, x3], sx_ev [0, 0, 1] [x0, x1, x2, x3]] hh := p0
  rw [E1, E2] at p0
  have hu := sz_w1 hw
  rw [E1, E2, E4] at hu
  have hz := zs_px_se (hh := hh) (hh' := hh') l0 u0 l1 u1 l2 u2 l3 u3 f0 g0 p0 (fun c g => by rw [hu]; exact if_neg (by omega)) (fun c g => by rw [hu]; exact if_neg (by omega)) (fun c g => by rw [hu]; simp)
  refine ⟨fun f hf => ?_, fun q hq => ?_⟩
  · cases hf
  · obtain rfl := List.mem_singleton.mp hq
    show sz_pr 14 [] _
    exact hz
theorem sz_k53 : sx_Rk sz_pr sz_u53 := by
  intro r hh hh' hb hF hG hP hw
  obtain ⟨x0, r0, e0, l0, u0, hb⟩ := sz_bc hb
  obtain ⟨x1, r1, e1, l1, u1, hb⟩ := sz_bc hb
  obtain ⟨x2, r2, e2, l2, u2, hb⟩ := sz_bc hb
  have hbn := sz_bn hb
  subst hbn
  subst e2
  subst e1
  subst e0
  have E0 : sx_ev [0, 1] [x0, x1, x2] = x0 := by simp [sx_ev, sx_dot] <;> omega
  have E1 : sx_ev [0, 0, 1] [x0, x1, x2] = x1 := by simp [sx_ev, sx_dot] <;> omega
  have E2 : sx_ev [0, 0, 0, 1] [x0, x1, x2] = x2 := by simp [sx_ev, sx_dot] <;> omega
  have p0 := hP (15, [[0, 1], [0, 0, 1]]) List.mem_cons_self
  have p0 : sz_pr 15 [sx_ev [0, 1] [x0, x1, x2], sx_ev [0, 0, 1] [x0, x1, x2]] hh := p0
  rw [E0, E1] at p0
  have hu := sz_w1 hw
  rw [E0, E1, E2] at hu
  have hz := zs_px_se0 (hh := hh) (hh' := hh') l0 u0 l1 u1 l2 u2 p0 (fun c g => by rw [hu]; exact if_neg (by omega)) (fun c g => by rw [hu]; exact if_neg (by omega)) (fun c g => by rw [hu]; simp)
  refine ⟨fun f hf => ?_, fun q hq => ?_⟩
  · cases hf
  · obtain rfl := List.mem_singleton.mp hq
    show sz_pr 14 [] _
    exact hz
theorem sz_k54 : sx_Rk sz_pr sz_u54 := by
  intro r hh hh' hb hF hG hP hw
  obtain ⟨x0, r0, e0, l0, u0, hb⟩ := sz_bc hb
  obtain ⟨x1, r1, e1, l1, u1, hb⟩ := sz_bc hb
  obtain ⟨x2, r2, e2, l2, u2, hb⟩ := sz_bc hb
  obtain ⟨x3, r3, e3, l3, u3, hb⟩ := sz_bc hb
  have hbn := sz_bn hb
  subst hbn
  subst e3
  subst e2
  subst e1
  subst e0
  have E0 : sx_ev [0, 0, 0, 0, 1] [x0, x1, x2, x3] = x3 := by simp [sx_ev, sx_dot] <;> omega
  have E1 : sx_ev [256, 0, 0, 0, -1] [x0, x1, x2, x3] = -x3 + 256 := by simp [sx_ev, sx_dot] <;> omega
  have E2 : sx_ev [0, 0, 0, 1] [x0, x1, x2, x3] = x2 := by simp [sx_ev, sx_dot] <;> omega
  have E3 : sx_ev [8192, 0, 0, -1, -1] [x0, x1, x2, x3] = -x2 - x3 + 8192 := by simp [sx_ev, sx_dot] <;> omega
  have E4 : sx_ev [0, 1] [x0, x1, x2, x3] = x0 := by simp [sx_ev, sx_dot] <;> omega
  have E5 : sx_ev [0, 0, 1] [x0, x1, x2, x3] = x1 := by simp [sx_ev, sx_dot] <;> omega
  have f0 := hF [0, 0, 0, 0, 1] List.mem_cons_self
  rw [E0] at f0
  have f1 := hF [256, 0, 0, 0, -1] (List.mem_cons_of_mem _ List.mem_cons_self)
  rw [E1] at f1
  have f2 := hF [0, 0, 0, 1] (List.mem_cons_of_mem _ (List.mem_cons_of_mem _ List.mem_cons_self))
  rw [E2] at f2
  have f3 := hF [8192, 0, 0, -1, -1] (List.mem_cons_of_mem _ (List.mem_cons_of_mem _ (List.mem_cons_of_mem _ List.mem_cons_self)))
  rw [E3] at f3
  have g0 := hG (16, [0, 1], [0, 0, 1], [0, 0, 0, 1]) List.mem_cons_self
  dsimp only at g0
  rw [E4, E5, E2] at g0
  have p0 := hP (15, [[0, 1], [0, 0, 1]]) List.mem_cons_self
  have p0 : sz_pr 15 [sx_ev [0, 1] [x0, x1, x2, x3], sx_ev [0, 0, 1] [x0, x1, x2, x3]] hh := p0
  rw [E4, E5] at p0
  have hu := sz_w1 hw
  rw [E4, E5, E0] at hu
  have hz := zs_px_se4 (hh := hh) (hh' := hh') l0 u0 l1 u1 l2 u2 l3 u3 f0 f1 f2 f3 g0 p0 (fun c g => by rw [hu]; exact if_neg (by omega)) (fun c g => by rw [hu]; exact if_neg (by omega)) (fun c g => by rw [hu]; simp)
  refine ⟨fun f hf => ?_, fun q hq => ?_⟩
  · cases hf
  · obtain rfl := List.mem_singleton.mp hq
    show sz_pr 14 [] _
    exact hz
theorem sz_k55 : sx_Rk sz_pr sz_u55 := by
  intro r hh hh' hb hF hG hP hw
  obtain ⟨x0, r0, e0, l0, u0, hb⟩ := sz_bc hb
  obtain ⟨x1, r1, e1, l1, u1, hb⟩ := sz_bc hb
  obtain ⟨x2, r2, e2, l2, u2, hb⟩ := sz_bc hb
  obtain ⟨x3, r3, e3, l3, u3, hb⟩ := sz_bc hb
  have hbn := sz_bn hb
  subst hbn
  subst e3
  subst e2
  subst e1
  subst e0
  have E0 : sx_ev [3, 0, 0, -1] [x0, x1, x2, x3] = -x2 + 3 := by simp [sx_ev, sx_dot] <;> omega
  have E1 : sx_ev [0, 1] [x0, x1, x2, x3] = x0 := by simp [sx_ev, sx_dot] <;> omega
  have E2 : sx_ev [0, 0, 1] [x0, x1, x2, x3] = x1 := by simp [sx_ev, sx_dot] <;> omega
  have E3 : sx_ev [0, 0, 0, 1] [x0, x1, x2, x3] = x2 := by simp [sx_ev, sx_dot] <;> omega
  have E4 : sx_ev [0, 0, 0, 0, 1] [x0, x1, x2, x3] = x3 := by simp [sx_ev, sx_dot] <;> omega
  have f0 := hF [3, 0, 0, -1] List.mem_cons_self
  rw [E0] at f0
  have g0 := hG (15, [0, 1], [0, 0, 1], [0, 0, 0, 1]) List.mem_cons_self
  dsimp only at g0
  rw [E1, E2, E3] at g0
  have p0 := hP (14, []) List.mem_cons_self
  have p0 : sz_pr 14 [] hh := p0
  have hu := sz_w1 hw
  rw [E1, E2, E4] at hu
  have hz := zs_ps_fi (hh := hh) (hh' := hh') l0 u0 l1 u1 l2 u2 l3 u3 f0 g0 p0 (fun c g => by rw [hu]; exact if_neg (by omega)) (fun c g => by rw [hu]; simp) (fun c g => by rw [hu]; exact if_neg (by omega))
  refine ⟨fun f hf => ?_, fun q hq => ?_⟩
  · cases hf
  · obtain rfl := List.mem_singleton.mp hq
    show sz_pr 14 [] _
    exact hz
theorem sz_k56 : sx_Rk sz_pr sz_u56 := by
  intro r hh hh' hb hF hG hP hw
  obtain ⟨x0, r0, e0, l0, u0, hb⟩ := sz_bc hb
  obtain ⟨x1, r1, e1, l1, u1, hb⟩ := sz_bc hb
  obtain ⟨x2, r2, e2, l2, u2, hb⟩ := sz_bc hb
  obtain ⟨x3, r3, e3, l3, u3, hb⟩ := sz_bc hb
  have hbn := sz_bn hb
  subst hbn
  subst e3
  subst e2
  subst e1
  subst e0
  have E0 : sx_ev [3, 0, 0, -1] [x0, x1, x2, x3] = -x2 + 3 := by simp [sx_ev, sx_dot] <;> omega
  have E1 : sx_ev [0, 1] [x0, x1, x2, x3] = x0 := by simp [sx_ev, sx_dot] <;> omega
  have E2 : sx_ev [0, 0, 1] [x0, x1, x2, x3] = x1 := by simp [sx_ev, sx_dot] <;> omega
  have E3 : sx_ev [0, 0, 0, 1] [x0, x1, x2, x3] = x2 := by simp [sx_ev, sx_dot] <;> omega
  have E4 : sx_ev [0, 0, 0, 0, 1] [x0, x1, x2, x3] = x3 := by simp [sx_ev, sx_dot] <;> omega
  have f0 := hF [3, 0, 0, -1] List.mem_cons_self
  rw [E0] at f0
  have g0 := hG (15, [0, 1], [0, 0, 1], [0, 0, 0, 1]) List.mem_cons_self
  dsimp only at g0
  rw [E1, E2, E3] at g0
  have p0 := hP (14, []) List.mem_cons_self
  have p0 : sz_pr 14 [] hh := p0
  have hu := sz_w1 hw
  rw [E1, E2, E4] at hu
  have hz := zs_ps_se (hh := hh) (hh' := hh') l0 u0 l1 u1 l2 u2 l3 u3 f0 g0 p0 (fun c g => by rw [hu]; exact if_neg (by omega)) (fun c g => by rw [hu]; exact if_neg (by omega)) (fun c g => by rw [hu]; simp)
  refine ⟨fun f hf => ?_, fun q hq => ?_⟩
  · cases hf
  · obtain rfl := List.mem_singleton.mp hq
    show sz_pr 14 [] _
    exact hz
theorem sz_k57 : sx_Rk sz_pr sz_u57 := by
  intro r hh hh' hb hF hG hP hw
  obtain ⟨x0, r0, e0, l0, u0, hb⟩ := sz_bc hb
  obtain ⟨x1, r1, e1, l1, u1, hb⟩ := sz_bc hb
  obtain ⟨x2, r2, e2, l2, u2, hb⟩ := sz_bc hb
  obtain ⟨x3, r3, e3, l3, u3, hb⟩ := sz_bc hb
  have hbn := sz_bn hb
  subst hbn
  subst e3
  subst e2
  subst e1
  subst e0
  have E0 : sx_ev [-4, 0, 0, 1] [x0, x1, x2, x3] = x2 - 4 := by simp [sx_ev, sx_dot] <;> omega
  have E1 : sx_ev [0, 1] [x0, x1, x2, x3] = x0 := by simp [sx_ev, sx_dot] <;> omega
  have E2 : sx_ev [0, 0, 1] [x0, x1, x2, x3] = x1 := by simp [sx_ev, sx_dot] <;> omega
  have E3 : sx_ev [0, 0, 0, 1] [x0, x1, x2, x3] = x2 := by simp [sx_ev, sx_dot] <;> omega
  have E4 : sx_ev [0, 0, 0, 0, 1] [x0, x1, x2, x3] = x3 := by simp [sx_ev, sx_dot] <;> omega
  have E5 : sx_ev [256, 0, 0, 0, -1] [x0, x1, x2, x3] = -x3 + 256 := by simp [sx_ev, sx_dot] <;> omega
  have f0 := hF [-4, 0, 0, 1] List.mem_cons_self
  rw [E0] at f0
  have g0 := hG (15, [0, 1], [0, 0, 1], [0, 0, 0, 1]) List.mem_cons_self
  dsimp only at g0
  rw [E1, E2, E3] at g0
  have g1 := hG (17, [0, 1], [0, 0, 1], [0, 0, 0, 0, 1]) (List.mem_cons_of_mem _ List.mem_cons_self)
  dsimp only at g1
  rw [E1, E2, E4] at g1
  have p0 := hP (14, []) List.mem_cons_self
  have p0 : sz_pr 14 [] hh := p0
  have hw := sz_w0 hw
  rw [hw]
  have hz := zs_ps_u (hh := hh) l0 u0 l1 u1 l2 u2 l3 u3 f0 g0 g1 p0
  refine ⟨fun f hf => ?_, fun q hq => ?_⟩
  · rcases List.mem_cons.mp hf with rfl | hf
    · rw [E4]
      exact hz.1
    rw [List.mem_singleton.mp hf, E5]
    exact hz.2
  · cases hq
theorem sz_k58 : sx_Rk sz_pr sz_u58 := by
  intro r hh hh' hb hF hG hP hw
  obtain ⟨x0, r0, e0, l0, u0, hb⟩ := sz_bc hb
  obtain ⟨x1, r1, e1, l1, u1, hb⟩ := sz_bc hb
  obtain ⟨x2, r2, e2, l2, u2, hb⟩ := sz_bc hb
  obtain ⟨x3, r3, e3, l3, u3, hb⟩ := sz_bc hb
  obtain ⟨x4, r4, e4, l4, u4, hb⟩ := sz_bc hb
  have hbn := sz_bn hb
  subst hbn
  subst e4
  subst e3
  subst e2
  subst e1
  subst e0
  have E0 : sx_ev [-4, 0, 0, 1] [x0, x1, x2, x3, x4] = x2 - 4 := by simp [sx_ev, sx_dot] <;> omega
  have E1 : sx_ev [-1, 0, 0, 0, 1] [x0, x1, x2, x3, x4] = x3 - 1 := by simp [sx_ev, sx_dot] <;> omega
  have E2 : sx_ev [0, 1] [x0, x1, x2, x3, x4] = x0 := by simp [sx_ev, sx_dot] <;> omega
  have E3 : sx_ev [0, 0, 1] [x0, x1, x2, x3, x4] = x1 := by simp [sx_ev, sx_dot] <;> omega
  have E4 : sx_ev [0, 0, 0, 1] [x0, x1, x2, x3, x4] = x2 := by simp [sx_ev, sx_dot] <;> omega
  have E5 : sx_ev [0, 0, 0, 0, 1] [x0, x1, x2, x3, x4] = x3 := by simp [sx_ev, sx_dot] <;> omega
  have E6 : sx_ev [0, 0, 0, 0, 0, 1] [x0, x1, x2, x3, x4] = x4 := by simp [sx_ev, sx_dot] <;> omega
  have E7 : sx_ev [8192, 0, 0, 0, -1, -1] [x0, x1, x2, x3, x4] = -x3 - x4 + 8192 := by simp [sx_ev, sx_dot] <;> omega
  have f0 := hF [-4, 0, 0, 1] List.mem_cons_self
  rw [E0] at f0
  have f1 := hF [-1, 0, 0, 0, 1] (List.mem_cons_of_mem _ List.mem_cons_self)
  rw [E1] at f1
  have g0 := hG (15, [0, 1], [0, 0, 1], [0, 0, 0, 1]) List.mem_cons_self
  dsimp only at g0
  rw [E2, E3, E4] at g0
  have g1 := hG (17, [0, 1], [0, 0, 1], [0, 0, 0, 0, 1]) (List.mem_cons_of_mem _ List.mem_cons_self)
  dsimp only at g1
  rw [E2, E3, E5] at g1
  have g2 := hG (16, [0, 1], [0, 0, 1], [0, 0, 0, 0, 0, 1]) (List.mem_cons_of_mem _ (List.mem_cons_of_mem _ List.mem_cons_self))
  dsimp only at g2
  rw [E2, E3, E6] at g2
  have p0 := hP (14, []) List.mem_cons_self
  have p0 : sz_pr 14 [] hh := p0
  have hw := sz_w0 hw
  rw [hw]
  have hz := zs_ps_u2 (hh := hh) l0 u0 l1 u1 l2 u2 l3 u3 l4 u4 f0 f1 g0 g1 g2 p0
  refine ⟨fun f hf => ?_, fun q hq => ?_⟩
  · rcases List.mem_cons.mp hf with rfl | hf
    · rw [E6]
      exact hz.1
    rw [List.mem_singleton.mp hf, E7]
    exact hz.2
  · cases hq
theorem sz_k59 : sx_Rk sz_pr sz_u59 := by
  intro r hh hh' hb hF hG hP hw
  obtain ⟨x0, r0, e0, l0, u0, hb⟩ := sz_bc hb
  obtain ⟨x1, r1, e1, l1, u1, hb⟩ := sz_bc hb
  obtain ⟨x2, r2, e2, l2, u2, hb⟩ := sz_bc hb
  have hbn := sz_bn hb
  subst hbn
  subst e2
  subst e1
  subst e0
  have E0 : sx_ev [0, 1] [x0, x1, x2] = x0 := by simp [sx_ev, sx_dot] <;> omega
  have E1 : sx_ev [0, 0, 1] [x0, x1, x2] = x1 := by simp [sx_ev, sx_dot] <;> omega
  have E2 : sx_ev [0, 0, 0, 1] [x0, x1, x2] = x2 := by simp [sx_ev, sx_dot] <;> omega
  have p0 := hP (16, []) List.mem_cons_self
  have p0 : sz_pr 16 [] hh := p0
  have hu := sz_w1 hw
  rw [E0, E1, E2] at hu
  have hz := zs_fo_d1 (hh := hh) (hh' := hh') l0 u0 l1 u1 l2 u2 p0 (fun c g => by rw [hu]; exact if_neg (by omega)) (fun c g => by rw [hu]; simp)
  refine ⟨fun f hf => ?_, fun q hq => ?_⟩
  · cases hf
  · obtain rfl := List.mem_singleton.mp hq
    show sz_pr 17 [sx_ev [0, 1] [x0, x1, x2]] _
    rw [E0]
    exact hz
theorem sz_k60 : sx_Rk sz_pr sz_u60 := by
  intro r hh hh' hb hF hG hP hw
  obtain ⟨x0, r0, e0, l0, u0, hb⟩ := sz_bc hb
  have hbn := sz_bn hb
  subst hbn
  subst e0
  have E0 : sx_ev [0, 1] [x0] = x0 := by simp [sx_ev, sx_dot] <;> omega
  have p0 := hP (16, []) List.mem_cons_self
  have p0 : sz_pr 16 [] hh := p0
  have hu := sz_w2 hw
  rw [E0] at hu
  have hz := zs_fo_d2 (hh := hh) (hh' := hh') l0 u0 p0 (fun c g => hu _ _ _ (by omega)) (fun c g h => hu _ _ _ (by omega))
  refine ⟨fun f hf => ?_, fun q hq => ?_⟩
  · cases hf
  · obtain rfl := List.mem_singleton.mp hq
    show sz_pr 17 [sx_ev [0, 1] [x0]] _
    rw [E0]
    exact hz
theorem sz_k61 : sx_Rk sz_pr sz_u61 := by
  intro r hh hh' hb hF hG hP hw
  obtain ⟨x0, r0, e0, l0, u0, hb⟩ := sz_bc hb
  have hbn := sz_bn hb
  subst hbn
  subst e0
  have E0 : sx_ev [0, 1] [x0] = x0 := by simp [sx_ev, sx_dot] <;> omega
  have p0 := hP (17, [[0, 1]]) List.mem_cons_self
  have p0 : sz_pr 17 [sx_ev [0, 1] [x0]] hh := p0
  rw [E0] at p0
  have hu := sz_w2 hw
  rw [E0] at hu
  have hz := zs_fx_d2 (hh := hh) (hh' := hh') l0 u0 p0 (fun c g => hu _ _ _ (by omega)) (fun c g h => hu _ _ _ (by omega))
  refine ⟨fun f hf => ?_, fun q hq => ?_⟩
  · cases hf
  · obtain rfl := List.mem_singleton.mp hq
    show sz_pr 17 [sx_ev [0, 1] [x0]] _
    rw [E0]
    exact hz
theorem sz_k62 : sx_Rk sz_pr sz_u62 := by
  intro r hh hh' hb hF hG hP hw
  obtain ⟨x0, r0, e0, l0, u0, hb⟩ := sz_bc hb
  have hbn := sz_bn hb
  subst hbn
  subst e0
  have E0 : sx_ev [0, 1] [x0] = x0 := by simp [sx_ev, sx_dot] <;> omega
  have E1 : sx_ev [] [x0] = 0 := by simp [sx_ev, sx_dot] <;> omega
  have p0 := hP (17, [[0, 1]]) List.mem_cons_self
  have p0 : sz_pr 17 [sx_ev [0, 1] [x0]] hh := p0
  rw [E0] at p0
  have hu := sz_w1 hw
  rw [E1, E0] at hu
  have hz := zs_fx_f (hh := hh) (hh' := hh') l0 u0 p0 (fun c g => by rw [hu]; simp) (fun c g => by rw [hu]; exact if_neg (by omega))
  refine ⟨fun f hf => ?_, fun q hq => ?_⟩
  · cases hf
  · obtain rfl := List.mem_singleton.mp hq
    show sz_pr 16 [] _
    exact hz
theorem sz_k63 : sx_Rk sz_pr sz_u63 := by
  intro r hh hh' hb hF hG hP hw
  obtain ⟨x0, r0, e0, l0, u0, hb⟩ := sz_bc hb
  obtain ⟨x1, r1, e1, l1, u1, hb⟩ := sz_bc hb
  have hbn := sz_bn hb
  subst hbn
  subst e1
  subst e0
  have E0 : sx_ev [0, 1] [x0, x1] = x0 := by simp [sx_ev, sx_dot] <;> omega
  have E1 : sx_ev [] [x0, x1] = 0 := by simp [sx_ev, sx_dot] <;> omega
  have E2 : sx_ev [0, 0, 1] [x0, x1] = x1 := by simp [sx_ev, sx_dot] <;> omega
  have p0 := hP (16, []) List.mem_cons_self
  have p0 : sz_pr 16 [] hh := p0
  have p1 := hP (18, [[0, 1]]) (List.mem_cons_of_mem _ List.mem_cons_self)
  have p1 : sz_pr 18 [sx_ev [0, 1] [x0, x1]] hh := p1
  rw [E0] at p1
  have hu := sz_w1 hw
  rw [E1, E0, E2] at hu
  have hz := zs_fo_f (hh := hh) (hh' := hh') l0 u0 l1 u1 p0 p1 (fun c g => by rw [hu]; simp) (fun c g => by rw [hu]; exact if_neg (by omega))
  refine ⟨fun f hf => ?_, fun q hq => ?_⟩
  · cases hf
  · obtain rfl := List.mem_singleton.mp hq
    show sz_pr 16 [] _
    exact hz
theorem sz_k64 : sx_Rk sz_pr sz_u64 := by
  intro r hh hh' hb hF hG hP hw
  obtain ⟨x0, r0, e0, l0, u0, hb⟩ := sz_bc hb
  obtain ⟨x1, r1, e1, l1, u1, hb⟩ := sz_bc hb
  have hbn := sz_bn hb
  subst hbn
  subst e1
  subst e0
  have E0 : sx_ev [1, 0, -1] [x0, x1] = -x1 + 1 := by simp [sx_ev, sx_dot] <;> omega
  have E1 : sx_ev [] [x0, x1] = 0 := by simp [sx_ev, sx_dot] <;> omega
  have E2 : sx_ev [0, 1] [x0, x1] = x0 := by simp [sx_ev, sx_dot] <;> omega
  have E3 : sx_ev [0, 0, 1] [x0, x1] = x1 := by simp [sx_ev, sx_dot] <;> omega
  have f0 := hF [1, 0, -1] List.mem_cons_self
  rw [E0] at f0
  have p0 := hP (16, []) List.mem_cons_self
  have p0 : sz_pr 16 [] hh := p0
  have hu := sz_w1 hw
  rw [E1, E2, E3] at hu
  have hz := zs_fo_f1 (hh := hh) (hh' := hh') l0 u0 l1 u1 f0 p0 (fun c g => by rw [hu]; simp) (fun c g => by rw [hu]; exact if_neg (by omega))
  refine ⟨fun f hf => ?_, fun q hq => ?_⟩
  · cases hf
  · obtain rfl := List.mem_singleton.mp hq
    show sz_pr 16 [] _
    exact hz
theorem sz_k65 : sx_Rk sz_pr sz_u65 := by
  intro r hh hh' hb hF hG hP hw
  obtain ⟨x0, r0, e0, l0, u0, hb⟩ := sz_bc hb
  obtain ⟨x1, r1, e1, l1, u1, hb⟩ := sz_bc hb
  have hbn := sz_bn hb
  subst hbn
  subst e1
  subst e0
  have E0 : sx_ev [-2, 0, 1] [x0, x1] = x1 - 2 := by simp [sx_ev, sx_dot] <;> omega
  have E1 : sx_ev [2, 0, -1] [x0, x1] = -x1 + 2 := by simp [sx_ev, sx_dot] <;> omega
  have E2 : sx_ev [] [x0, x1] = 0 := by simp [sx_ev, sx_dot] <;> omega
  have E3 : sx_ev [0, 1] [x0, x1] = x0 := by simp [sx_ev, sx_dot] <;> omega
  have E4 : sx_ev [0, 0, 1] [x0, x1] = x1 := by simp [sx_ev, sx_dot] <;> omega
  have f0 := hF [-2, 0, 1] List.mem_cons_self
  rw [E0] at f0
  have f1 := hF [2, 0, -1] (List.mem_cons_of_mem _ List.mem_cons_self)
  rw [E1] at f1
  have g0 := hG (26, [], [0, 1], [0, 0, 1]) List.mem_cons_self
  dsimp only at g0
  rw [E2, E3, E4] at g0
  have p0 := hP (16, []) List.mem_cons_self
  have p0 : sz_pr 16 [] hh := p0
  have hw := sz_w0 hw
  rw [hw]
  have hz := zs_fo_use (hh := hh) l0 u0 l1 u1 f0 f1 g0 p0
  refine ⟨fun f hf => ?_, fun q hq => ?_⟩
  · cases hf
  · obtain rfl := List.mem_singleton.mp hq
    show sz_pr 18 [sx_ev [0, 1] [x0, x1]] _
    rw [E3]
    exact hz
theorem sz_k66 : sx_Rk sz_pr sz_u66 := by
  intro r hh hh' hb hF hG hP hw
  obtain ⟨x0, r0, e0, l0, u0, hb⟩ := sz_bc hb
  obtain ⟨x1, r1, e1, l1, u1, hb⟩ := sz_bc hb
  obtain ⟨x2, r2, e2, l2, u2, hb⟩ := sz_bc hb
  have hbn := sz_bn hb
  subst hbn
  subst e2
  subst e1
  subst e0
  have E0 : sx_ev [0, 0, 1] [x0, x1, x2] = x1 := by simp [sx_ev, sx_dot] <;> omega
  have E1 : sx_ev [512, 0, -256, -1] [x0, x1, x2] = -(256 * x1) - x2 + 512 := by simp [sx_ev, sx_dot] <;> omega
  have E2 : sx_ev [0, 0, 0, 1] [x0, x1, x2] = x2 := by simp [sx_ev, sx_dot] <;> omega
  have E3 : sx_ev [0, 1] [x0, x1, x2] = x0 := by simp [sx_ev, sx_dot] <;> omega
  have E4 : sx_ev [18] [x0, x1, x2] = 18 := by simp [sx_ev, sx_dot] <;> omega
  have E5 : sx_ev [19] [x0, x1, x2] = 19 := by simp [sx_ev, sx_dot] <;> omega
  have f0 := hF [0, 0, 1] List.mem_cons_self
  rw [E0] at f0
  have f1 := hF [512, 0, -256, -1] (List.mem_cons_of_mem _ List.mem_cons_self)
  rw [E1] at f1
  have f2 := hF [0, 0, 0, 1] (List.mem_cons_of_mem _ (List.mem_cons_of_mem _ List.mem_cons_self))
  rw [E2] at f2
  have g0 := hG (20, [0, 1], [18], [0, 0, 1]) List.mem_cons_self
  dsimp only at g0
  rw [E3, E4, E0] at g0
  have g1 := hG (20, [0, 1], [19], [0, 0, 0, 1]) (List.mem_cons_of_mem _ List.mem_cons_self)
  dsimp only at g1
  rw [E3, E5, E2] at g1
  have hw := sz_w0 hw
  rw [hw]
  have hz := zs_ob_m1 (hh := hh) l0 u0 l1 u1 l2 u2 f0 f1 f2 g0 g1
  refine ⟨fun f hf => ?_, fun q hq => ?_⟩
  · cases hf
  · obtain rfl := List.mem_singleton.mp hq
    show sz_pr 18 [sx_ev [0, 1] [x0, x1, x2]] _
    rw [E3]
    exact hz
theorem sz_k67 : sx_Rk sz_pr sz_u67 := by
  intro r hh hh' hb hF hG hP hw
  obtain ⟨x0, r0, e0, l0, u0, hb⟩ := sz_bc hb
  obtain ⟨x1, r1, e1, l1, u1, hb⟩ := sz_bc hb
  obtain ⟨x2, r2, e2, l2, u2, hb⟩ := sz_bc hb
  have hbn := sz_bn hb
  subst hbn
  subst e2
  subst e1
  subst e0
  have E0 : sx_ev [0, 0, 1] [x0, x1, x2] = x1 := by simp [sx_ev, sx_dot] <;> omega
  have E1 : sx_ev [256, 0, -256, -1] [x0, x1, x2] = -(256 * x1) - x2 + 256 := by simp [sx_ev, sx_dot] <;> omega
  have E2 : sx_ev [-1, 0, 0, -1] [x0, x1, x2] = -x2 - 1 := by simp [sx_ev, sx_dot] <;> omega
  have E3 : sx_ev [0, 1] [x0, x1, x2] = x0 := by simp [sx_ev, sx_dot] <;> omega
  have E4 : sx_ev [18] [x0, x1, x2] = 18 := by simp [sx_ev, sx_dot] <;> omega
  have E5 : sx_ev [19] [x0, x1, x2] = 19 := by simp [sx_ev, sx_dot] <;> omega
  have E6 : sx_ev [0, 0, 0, 1] [x0, x1, x2] = x2 := by simp [sx_ev, sx_dot] <;> omega
  have f0 := hF [0, 0, 1] List.mem_cons_self
  rw [E0] at f0
  have f1 := hF [256, 0, -256, -1] (List.mem_cons_of_mem _ List.mem_cons_self)
  rw [E1] at f1
  have f2 := hF [-1, 0, 0, -1] (List.mem_cons_of_mem _ (List.mem_cons_of_mem _ List.mem_cons_self))
  rw [E2] at f2
  have g0 := hG (20, [0, 1], [18], [0, 0, 1]) List.mem_cons_self
  dsimp only at g0
  rw [E3, E4, E0] at g0
  have g1 := hG (20, [0, 1], [19], [0, 0, 0, 1]) (List.mem_cons_of_mem _ List.mem_cons_self)
  dsimp only at g1
  rw [E3, E5, E6] at g1
  have hw := sz_w0 hw
  rw [hw]
  have hz := zs_ob_m2 (hh := hh) l0 u0 l1 u1 l2 u2 f0 f1 f2 g0 g1
  refine ⟨fun f hf => ?_, fun q hq => ?_⟩
  · cases hf
  · obtain rfl := List.mem_singleton.mp hq
    show sz_pr 18 [sx_ev [0, 1] [x0, x1, x2]] _
    rw [E3]
    exact hz
theorem sz_k68 : sx_Rk sz_pr sz_u68 := by
  intro r hh hh' hb hF hG hP hw
  obtain ⟨x0, r0, e0, l0, u0, hb⟩ := sz_bc hb
  obtain ⟨x1, r1, e1, l1, u1, hb⟩ := sz_bc hb
  have hbn := sz_bn hb
  subst hbn
  subst e1
  subst e0
  have E0 : sx_ev [0, 1] [x0, x1] = x0 := by simp [sx_ev, sx_dot] <;> omega
  have E1 : sx_ev [18] [x0, x1] = 18 := by simp [sx_ev, sx_dot] <;> omega
  have E2 : sx_ev [0, 0, 1] [x0, x1] = x1 := by simp [sx_ev, sx_dot] <;> omega
  have E3 : sx_ev [2, 0, -1] [x0, x1] = -x1 + 2 := by simp [sx_ev, sx_dot] <;> omega
  have g0 := hG (20, [0, 1], [18], [0, 0, 1]) List.mem_cons_self
  dsimp only at g0
  rw [E0, E1, E2] at g0
  have p0 := hP (18, [[0, 1]]) List.mem_cons_self
  have p0 : sz_pr 18 [sx_ev [0, 1] [x0, x1]] hh := p0
  rw [E0] at p0
  have hw := sz_w0 hw
  rw [hw]
  have hz := zs_ob_h (hh := hh) l0 u0 l1 u1 g0 p0
  refine ⟨fun f hf => ?_, fun q hq => ?_⟩
  · rcases List.mem_cons.mp hf with rfl | hf
    · rw [E2]
      exact hz.1
    rw [List.mem_singleton.mp hf, E3]
    exact hz.2
  · cases hq
theorem sz_k69 : sx_Rk sz_pr sz_u69 := by
  intro r hh hh' hb hF hG hP hw
  obtain ⟨x0, r0, e0, l0, u0, hb⟩ := sz_bc hb
  obtain ⟨x1, r1, e1, l1, u1, hb⟩ := sz_bc hb
  obtain ⟨x2, r2, e2, l2, u2, hb⟩ := sz_bc hb
  have hbn := sz_bn hb
  subst hbn
  subst e2
  subst e1
  subst e0
  have E0 : sx_ev [0, 0, 0, 1] [x0, x1, x2] = x2 := by simp [sx_ev, sx_dot] <;> omega
  have E1 : sx_ev [0, 1] [x0, x1, x2] = x0 := by simp [sx_ev, sx_dot] <;> omega
  have E2 : sx_ev [18] [x0, x1, x2] = 18 := by simp [sx_ev, sx_dot] <;> omega
  have E3 : sx_ev [0, 0, 1] [x0, x1, x2] = x1 := by simp [sx_ev, sx_dot] <;> omega
  have E4 : sx_ev [19] [x0, x1, x2] = 19 := by simp [sx_ev, sx_dot] <;> omega
  have E5 : sx_ev [512, 0, -256, -1] [x0, x1, x2] = -(256 * x1) - x2 + 512 := by simp [sx_ev, sx_dot] <;> omega
  have f0 := hF [0, 0, 0, 1] List.mem_cons_self
  rw [E0] at f0
  have g0 := hG (20, [0, 1], [18], [0, 0, 1]) List.mem_cons_self
  dsimp only at g0
  rw [E1, E2, E3] at g0
  have g1 := hG (20, [0, 1], [19], [0, 0, 0, 1]) (List.mem_cons_of_mem _ List.mem_cons_self)
  dsimp only at g1
  rw [E1, E4, E0] at g1
  have p0 := hP (18, [[0, 1]]) List.mem_cons_self
  have p0 : sz_pr 18 [sx_ev [0, 1] [x0, x1, x2]] hh := p0
  rw [E1] at p0
  have hw := sz_w0 hw
  rw [hw]
  have hz := zs_ob_l (hh := hh) l0 u0 l1 u1 l2 u2 f0 g0 g1 p0
  refine ⟨fun f hf => ?_, fun q hq => ?_⟩
  · rw [List.mem_singleton.mp hf, E5]
    exact hz
  · cases hq
theorem sz_k70 : sx_Rk sz_pr sz_u70 := by
  intro r hh hh' hb hF hG hP hw
  obtain ⟨x0, r0, e0, l0, u0, hb⟩ := sz_bc hb
  obtain ⟨x1, r1, e1, l1, u1, hb⟩ := sz_bc hb
  obtain ⟨x2, r2, e2, l2, u2, hb⟩ := sz_bc hb
  have hbn := sz_bn hb
  subst hbn
  subst e2
  subst e1
  subst e0
  have E0 : sx_ev [-1, 0, 0, -1] [x0, x1, x2] = -x2 - 1 := by simp [sx_ev, sx_dot] <;> omega
  have E1 : sx_ev [0, 1] [x0, x1, x2] = x0 := by simp [sx_ev, sx_dot] <;> omega
  have E2 : sx_ev [18] [x0, x1, x2] = 18 := by simp [sx_ev, sx_dot] <;> omega
  have E3 : sx_ev [0, 0, 1] [x0, x1, x2] = x1 := by simp [sx_ev, sx_dot] <;> omega
  have E4 : sx_ev [19] [x0, x1, x2] = 19 := by simp [sx_ev, sx_dot] <;> omega
  have E5 : sx_ev [0, 0, 0, 1] [x0, x1, x2] = x2 := by simp [sx_ev, sx_dot] <;> omega
  have E6 : sx_ev [1, 0, -1] [x0, x1, x2] = -x1 + 1 := by simp [sx_ev, sx_dot] <;> omega
  have f0 := hF [-1, 0, 0, -1] List.mem_cons_self
  rw [E0] at f0
  have g0 := hG (20, [0, 1], [18], [0, 0, 1]) List.mem_cons_self
  dsimp only at g0
  rw [E1, E2, E3] at g0
  have g1 := hG (20, [0, 1], [19], [0, 0, 0, 1]) (List.mem_cons_of_mem _ List.mem_cons_self)
  dsimp only at g1
  rw [E1, E4, E5] at g1
  have p0 := hP (18, [[0, 1]]) List.mem_cons_self
  have p0 : sz_pr 18 [sx_ev [0, 1] [x0, x1, x2]] hh := p0
  rw [E1] at p0
  have hw := sz_w0 hw
  rw [hw]
  have hz := zs_ob_l2 (hh := hh) l0 u0 l1 u1 l2 u2 f0 g0 g1 p0
  refine ⟨fun f hf => ?_, fun q hq => ?_⟩
  · rw [List.mem_singleton.mp hf, E6]
    exact hz
  · cases hq
theorem sz_k71 : sx_Rk sz_pr sz_u71 := by
  intro r hh hh' hb hF hG hP hw
  have hbn := sz_bn hb
  subst hbn
  have E0 : sx_ev [] [] = 0 := by simp [sx_ev, sx_dot] <;> omega
  have hw := sz_w0 hw
  rw [hw]
  have hz := zs_cf0 (hh := hh)
  refine ⟨fun f hf => ?_, fun q hq => ?_⟩
  · cases hf
  · obtain rfl := List.mem_singleton.mp hq
    show sz_pr 19 [sx_ev [] [], sx_ev [] []] _
    rw [E0]
    exact hz
theorem sz_k72 : sx_Rk sz_pr sz_u72 := by
  intro r hh hh' hb hF hG hP hw
  obtain ⟨x0, r0, e0, l0, u0, hb⟩ := sz_bc hb
  obtain ⟨x1, r1, e1, l1, u1, hb⟩ := sz_bc hb
  obtain ⟨x2, r2, e2, l2, u2, hb⟩ := sz_bc hb
  have hbn := sz_bn hb
  subst hbn
  subst e2
  subst e1
  subst e0
  have E0 : sx_ev [] [x0, x1, x2] = 0 := by simp [sx_ev, sx_dot] <;> omega
  have E1 : sx_ev [0, 1] [x0, x1, x2] = x0 := by simp [sx_ev, sx_dot] <;> omega
  have E2 : sx_ev [0, 0, 0, 1] [x0, x1, x2] = x2 := by simp [sx_ev, sx_dot] <;> omega
  have E3 : sx_ev [0, 0, 1] [x0, x1, x2] = x1 := by simp [sx_ev, sx_dot] <;> omega
  have E4 : sx_ev [1, 1] [x0, x1, x2] = x0 + 1 := by simp [sx_ev, sx_dot] <;> omega
  have E5 : sx_ev [1, 0, 1] [x0, x1, x2] = x1 + 1 := by simp [sx_ev, sx_dot] <;> omega
  have g0 := hG (1, [], [0, 1], [0, 0, 0, 1]) List.mem_cons_self
  dsimp only at g0
  rw [E0, E1, E2] at g0
  have p0 := hP (19, [[0, 1], [0, 0, 1]]) List.mem_cons_self
  have p0 : sz_pr 19 [sx_ev [0, 1] [x0, x1, x2], sx_ev [0, 0, 1] [x0, x1, x2]] hh := p0
  rw [E1, E3] at p0
  have hw := sz_w0 hw
  rw [hw]
  have hz := zs_cf_1 (hh := hh) l0 u0 l1 u1 l2 u2 g0 p0
  refine ⟨fun f hf => ?_, fun q hq => ?_⟩
  · cases hf
  · obtain rfl := List.mem_singleton.mp hq
    show sz_pr 19 [sx_ev [1, 1] [x0, x1, x2], sx_ev [1, 0, 1] [x0, x1, x2]] _
    rw [E4, E5]
    exact hz
theorem sz_k73 : sx_Rk sz_pr sz_u73 := by
  intro r hh hh' hb hF hG hP hw
  obtain ⟨x0, r0, e0, l0, u0, hb⟩ := sz_bc hb
  obtain ⟨x1, r1, e1, l1, u1, hb⟩ := sz_bc hb
  obtain ⟨x2, r2, e2, l2, u2, hb⟩ := sz_bc hb
  have hbn := sz_bn hb
  subst hbn
  subst e2
  subst e1
  subst e0
  have E0 : sx_ev [] [x0, x1, x2] = 0 := by simp [sx_ev, sx_dot] <;> omega
  have E1 : sx_ev [0, 1] [x0, x1, x2] = x0 := by simp [sx_ev, sx_dot] <;> omega
  have E2 : sx_ev [0, 0, 0, 1] [x0, x1, x2] = x2 := by simp [sx_ev, sx_dot] <;> omega
  have E3 : sx_ev [0, 0, 1] [x0, x1, x2] = x1 := by simp [sx_ev, sx_dot] <;> omega
  have E4 : sx_ev [1, 1] [x0, x1, x2] = x0 + 1 := by simp [sx_ev, sx_dot] <;> omega
  have g0 := hG (1, [], [0, 1], [0, 0, 0, 1]) List.mem_cons_self
  dsimp only at g0
  rw [E0, E1, E2] at g0
  have p0 := hP (19, [[0, 1], [0, 0, 1]]) List.mem_cons_self
  have p0 : sz_pr 19 [sx_ev [0, 1] [x0, x1, x2], sx_ev [0, 0, 1] [x0, x1, x2]] hh := p0
  rw [E1, E3] at p0
  have hw := sz_w0 hw
  rw [hw]
  have hz := zs_cf_0 (hh := hh) l0 u0 l1 u1 l2 u2 g0 p0
  refine ⟨fun f hf => ?_, fun q hq => ?_⟩
  · cases hf
  · obtain rfl := List.mem_singleton.mp hq
    show sz_pr 19 [sx_ev [1, 1] [x0, x1, x2], sx_ev [0, 0, 1] [x0, x1, x2]] _
    rw [E4, E3]
    exact hz
theorem sz_k74 : sx_Rk sz_pr sz_u74 := by
  intro r hh hh' hb hF hG hP hw
  obtain ⟨x0, r0, e0, l0, u0, hb⟩ := sz_bc hb
  obtain ⟨x1, r1, e1, l1, u1, hb⟩ := sz_bc hb
  obtain ⟨x2, r2, e2, l2, u2, hb⟩ := sz_bc hb
  have hbn := sz_bn hb
  subst hbn
  subst e2
  subst e1
  subst e0
  have E0 : sx_ev [0, 1, -1] [x0, x1, x2] = x0 - x1 := by simp [sx_ev, sx_dot] <;> omega
  have E1 : sx_ev [0, 0, 0, 1] [x0, x1, x2] = x2 := by simp [sx_ev, sx_dot] <;> omega
  have E2 : sx_ev [0, 1] [x0, x1, x2] = x0 := by simp [sx_ev, sx_dot] <;> omega
  have E3 : sx_ev [32] [x0, x1, x2] = 32 := by simp [sx_ev, sx_dot] <;> omega
  have E4 : sx_ev [0, 0, 1] [x0, x1, x2] = x1 := by simp [sx_ev, sx_dot] <;> omega
  have f0 := hF [0, 1, -1] List.mem_cons_self
  rw [E0] at f0
  have p0 := hP (19, [[0, 0, 0, 1], [0, 1]]) List.mem_cons_self
  have p0 : sz_pr 19 [sx_ev [0, 0, 0, 1] [x0, x1, x2], sx_ev [0, 1] [x0, x1, x2]] hh := p0
  rw [E1, E2] at p0
  have hw := sz_w0 hw
  rw [hw]
  have hz := zs_cf_le (hh := hh) l0 u0 l1 u1 l2 u2 f0 p0
  refine ⟨fun f hf => ?_, fun q hq => ?_⟩
  · cases hf
  · obtain rfl := List.mem_singleton.mp hq
    show sz_pr 19 [sx_ev [32] [x0, x1, x2], sx_ev [0, 0, 1] [x0, x1, x2]] _
    rw [E3, E4]
    exact hz
theorem sz_k75 : sx_Rk sz_pr sz_u75 := by
  intro r hh hh' hb hF hG hP hw
  obtain ⟨x0, r0, e0, l0, u0, hb⟩ := sz_bc hb
  obtain ⟨x1, r1, e1, l1, u1, hb⟩ := sz_bc hb
  obtain ⟨x2, r2, e2, l2, u2, hb⟩ := sz_bc hb
  obtain ⟨x3, r3, e3, l3, u3, hb⟩ := sz_bc hb
  have hbn := sz_bn hb
  subst hbn
  subst e3
  subst e2
  subst e1
  subst e0
  have E0 : sx_ev [31, 0, -1] [x0, x1, x2, x3] = -x1 + 31 := by simp [sx_ev, sx_dot] <;> omega
  have E1 : sx_ev [0, 0, 0, 0, 1] [x0, x1, x2, x3] = x3 := by simp [sx_ev, sx_dot] <;> omega
  have E2 : sx_ev [0, 1] [x0, x1, x2, x3] = x0 := by simp [sx_ev, sx_dot] <;> omega
  have E3 : sx_ev [] [x0, x1, x2, x3] = 0 := by simp [sx_ev, sx_dot] <;> omega
  have E4 : sx_ev [0, 0, 1] [x0, x1, x2, x3] = x1 := by simp [sx_ev, sx_dot] <;> omega
  have E5 : sx_ev [0, 0, 0, 1] [x0, x1, x2, x3] = x2 := by simp [sx_ev, sx_dot] <;> omega
  have E6 : sx_ev [-1, 1] [x0, x1, x2, x3] = x0 - 1 := by simp [sx_ev, sx_dot] <;> omega
  have f0 := hF [31, 0, -1] List.mem_cons_self
  rw [E0] at f0
  have p0 := hP (19, [[0, 0, 0, 0, 1], [0, 1]]) List.mem_cons_self
  have p0 : sz_pr 19 [sx_ev [0, 0, 0, 0, 1] [x0, x1, x2, x3], sx_ev [0, 1] [x0, x1, x2, x3]] hh := p0
  rw [E1, E2] at p0
  have hu := sz_w1 hw
  rw [E3, E4, E5] at hu
  have hz := zs_cf_w (hh := hh) (hh' := hh') l0 u0 l1 u1 l2 u2 l3 u3 f0 p0 (fun c g => by rw [hu]; simp)
  refine ⟨fun f hf => ?_, fun q hq => ?_⟩
  · cases hf
  · obtain rfl := List.mem_singleton.mp hq
    show sz_pr 19 [sx_ev [0, 0, 0, 0, 1] [x0, x1, x2, x3], sx_ev [-1, 1] [x0, x1, x2, x3]] _
    rw [E1, E6]
    exact hz
theorem sz_k76 : sx_Rk sz_pr sz_u76 := by
  intro r hh hh' hb hF hG hP hw
  have hbn := sz_bn hb
  subst hbn
  have E0 : sx_ev [] [] = 0 := by simp [sx_ev, sx_dot] <;> omega
  have hw := sz_w0 hw
  rw [hw]
  have hz := zs_nf0 (hh := hh)
  refine ⟨fun f hf => ?_, fun q hq => ?_⟩
  · cases hf
  · obtain rfl := List.mem_singleton.mp hq
    show sz_pr 20 [sx_ev [] []] _
    rw [E0]
    exact hz
theorem sz_k77 : sx_Rk sz_pr sz_u77 := by
  intro r hh hh' hb hF hG hP hw
  obtain ⟨x0, r0, e0, l0, u0, hb⟩ := sz_bc hb
  obtain ⟨x1, r1, e1, l1, u1, hb⟩ := sz_bc hb
  have hbn := sz_bn hb
  subst hbn
  subst e1
  subst e0
  have E0 : sx_ev [-2, 0, 1] [x0, x1] = x1 - 2 := by simp [sx_ev, sx_dot] <;> omega
  have E1 : sx_ev [] [x0, x1] = 0 := by simp [sx_ev, sx_dot] <;> omega
  have E2 : sx_ev [0, 1] [x0, x1] = x0 := by simp [sx_ev, sx_dot] <;> omega
  have E3 : sx_ev [0, 0, 1] [x0, x1] = x1 := by simp [sx_ev, sx_dot] <;> omega
  have E4 : sx_ev [1, 1] [x0, x1] = x0 + 1 := by simp [sx_ev, sx_dot] <;> omega
  have f0 := hF [-2, 0, 1] List.mem_cons_self
  rw [E0] at f0
  have g0 := hG (1, [], [0, 1], [0, 0, 1]) List.mem_cons_self
  dsimp only at g0
  rw [E1, E2, E3] at g0
  have p0 := hP (20, [[0, 1]]) List.mem_cons_self
  have p0 : sz_pr 20 [sx_ev [0, 1] [x0, x1]] hh := p0
  rw [E2] at p0
  have hw := sz_w0 hw
  rw [hw]
  have hz := zs_nf_1 (hh := hh) l0 u0 l1 u1 f0 g0 p0
  refine ⟨fun f hf => ?_, fun q hq => ?_⟩
  · cases hf
  · obtain rfl := List.mem_singleton.mp hq
    show sz_pr 20 [sx_ev [1, 1] [x0, x1]] _
    rw [E4]
    exact hz
theorem sz_k78 : sx_Rk sz_pr sz_u78 := by
  intro r hh hh' hb hF hG hP hw
  obtain ⟨x0, r0, e0, l0, u0, hb⟩ := sz_bc hb
  obtain ⟨x1, r1, e1, l1, u1, hb⟩ := sz_bc hb
  have hbn := sz_bn hb
  subst hbn
  subst e1
  subst e0
  have E0 : sx_ev [0, 0, -1] [x0, x1] = -x1 := by simp [sx_ev, sx_dot] <;> omega
  have E1 : sx_ev [] [x0, x1] = 0 := by simp [sx_ev, sx_dot] <;> omega
  have E2 : sx_ev [0, 1] [x0, x1] = x0 := by simp [sx_ev, sx_dot] <;> omega
  have E3 : sx_ev [0, 0, 1] [x0, x1] = x1 := by simp [sx_ev, sx_dot] <;> omega
  have E4 : sx_ev [1, 1] [x0, x1] = x0 + 1 := by simp [sx_ev, sx_dot] <;> omega
  have f0 := hF [0, 0, -1] List.mem_cons_self
  rw [E0] at f0
  have g0 := hG (1, [], [0, 1], [0, 0, 1]) List.mem_cons_self
  dsimp only at g0
  rw [E1, E2, E3] at g0
  have p0 := hP (20, [[0, 1]]) List.mem_cons_self
  have p0 : sz_pr 20 [sx_ev [0, 1] [x0, x1]] hh := p0
  rw [E2] at p0
  have hw := sz_w0 hw
  rw [hw]
  have hz := zs_nf_2 (hh := hh) l0 u0 l1 u1 f0 g0 p0
  refine ⟨fun f hf => ?_, fun q hq => ?_⟩
  · cases hf
  · obtain rfl := List.mem_singleton.mp hq
    show sz_pr 20 [sx_ev [1, 1] [x0, x1]] _
    rw [E4]
    exact hz
theorem sz_k79 : sx_Rk sz_pr sz_u79 := by
  intro r hh hh' hb hF hG hP hw
  obtain ⟨x0, r0, e0, l0, u0, hb⟩ := sz_bc hb
  obtain ⟨x1, r1, e1, l1, u1, hb⟩ := sz_bc hb
  obtain ⟨x2, r2, e2, l2, u2, hb⟩ := sz_bc hb
  have hbn := sz_bn hb
  subst hbn
  subst e2
  subst e1
  subst e0
  have E0 : sx_ev [-1, 1] [x0, x1, x2] = x0 - 1 := by simp [sx_ev, sx_dot] <;> omega
  have E1 : sx_ev [0, 0, 1] [x0, x1, x2] = x1 := by simp [sx_ev, sx_dot] <;> omega
  have E2 : sx_ev [0, 0, 0, 1] [x0, x1, x2] = x2 := by simp [sx_ev, sx_dot] <;> omega
  have E3 : sx_ev [0, 1] [x0, x1, x2] = x0 := by simp [sx_ev, sx_dot] <;> omega
  have E4 : sx_ev [-1] [x0, x1, x2] = -1 := by simp [sx_ev, sx_dot] <;> omega
  have f0 := hF [-1, 1] List.mem_cons_self
  rw [E0] at f0
  have p0 := hP (20, [[0, 0, 1]]) List.mem_cons_self
  have p0 : sz_pr 20 [sx_ev [0, 0, 1] [x0, x1, x2]] hh := p0
  rw [E1] at p0
  have p1 := hP (19, [[0, 0, 0, 1], [0, 1]]) (List.mem_cons_of_mem _ List.mem_cons_self)
  have p1 : sz_pr 19 [sx_ev [0, 0, 0, 1] [x0, x1, x2], sx_ev [0, 1] [x0, x1, x2]] hh := p1
  rw [E2, E3] at p1
  have hw := sz_w0 hw
  rw [hw]
  have hz := zs_nf_use (hh := hh) l0 u0 l1 u1 l2 u2 f0 p0 p1
  refine ⟨fun f hf => ?_, fun q hq => ?_⟩
  · rw [List.mem_singleton.mp hf, E4]
    exact hz
  · cases hq
def sz_rus : List sx_Ru := [sz_u0, sz_u1, sz_u2, sz_u3, sz_u4, sz_u5, sz_u6, sz_u7, sz_u8, sz_u9, sz_u10, sz_u11, sz_u12, sz_u13, sz_u14, sz_u15, sz_u16, sz_u17, sz_u18, sz_u19, sz_u20, sz_u21, sz_u22, sz_u23, sz_u24, sz_u25, sz_u26, sz_u27, sz_u28, sz_u29, sz_u30, sz_u31, sz_u32, sz_u33, sz_u34, sz_u35, sz_u36, sz_u37, sz_u38, sz_u39, sz_u40, sz_u41, sz_u42, sz_u43, sz_u44, sz_u45, sz_u46, sz_u47, sz_u48, sz_u49, sz_u50, sz_u51, sz_u52, sz_u53, sz_u54, sz_u55, sz_u56, sz_u57, sz_u58, sz_u59, sz_u60, sz_u61, sz_u62, sz_u63, sz_u64, sz_u65, sz_u66, sz_u67, sz_u68, sz_u69, sz_u70, sz_u71, sz_u72, sz_u73, sz_u74, sz_u75, sz_u76, sz_u77, sz_u78, sz_u79]
theorem sz_rk : ∀ u ∈ sz_rus, sx_Rk sz_pr u := by
  intro u hu
  unfold sz_rus at hu
  simp only [List.mem_cons, List.not_mem_nil, or_false] at hu
  rcases hu with rfl | rfl | rfl | rfl | rfl | rfl | rfl | rfl | rfl | rfl | rfl | rfl | rfl | rfl | rfl | rfl | rfl | rfl | rfl | rfl | rfl | rfl | rfl | rfl | rfl | rfl | rfl | rfl | rfl | rfl | rfl | rfl | rfl | rfl | rfl | rfl | rfl | rfl | rfl | rfl | rfl | rfl | rfl | rfl | rfl | rfl | rfl | rfl | rfl | rfl | rfl | rfl | rfl | rfl | rfl | rfl | rfl | rfl | rfl | rfl | rfl | rfl | rfl | rfl | rfl | rfl | rfl | rfl | rfl | rfl | rfl | rfl | rfl | rfl | rfl | rfl | rfl | rfl | rfl | rfl
  · exact sz_k0
  · exact sz_k1
  · exact sz_k2
  · exact sz_k3
  · exact sz_k4
  · exact sz_k5
  · exact sz_k6
  · exact sz_k7
  · exact sz_k8
  · exact sz_k9
  · exact sz_k10
  · exact sz_k11
  · exact sz_k12
  · exact sz_k13
  · exact sz_k14
  · exact sz_k15
  · exact sz_k16
  · exact sz_k17
  · exact sz_k18
  · exact sz_k19
  · exact sz_k20
  · exact sz_k21
  · exact sz_k22
  · exact sz_k23
  · exact sz_k24
  · exact sz_k25
  · exact sz_k26
  · exact sz_k27
  · exact sz_k28
  · exact sz_k29
  · exact sz_k30
  · exact sz_k31
  · exact sz_k32
  · exact sz_k33
  · exact sz_k34
  · exact sz_k35
  · exact sz_k36
  · exact sz_k37
  · exact sz_k38
  · exact sz_k39
  · exact sz_k40
  · exact sz_k41
  · exact sz_k42
  · exact sz_k43
  · exact sz_k44
  · exact sz_k45
  · exact sz_k46
  · exact sz_k47
  · exact sz_k48
  · exact sz_k49
  · exact sz_k50
  · exact sz_k51
  · exact sz_k52
  · exact sz_k53
  · exact sz_k54
  · exact sz_k55
  · exact sz_k56
  · exact sz_k57
  · exact sz_k58
  · exact sz_k59
  · exact sz_k60
  · exact sz_k61
  · exact sz_k62
  · exact sz_k63
  · exact sz_k64
  · exact sz_k65
  · exact sz_k66
  · exact sz_k67
  · exact sz_k68
  · exact sz_k69
  · exact sz_k70
  · exact sz_k71
  · exact sz_k72
  · exact sz_k73
  · exact sz_k74
  · exact sz_k75
  · exact sz_k76
  · exact sz_k77
  · exact sz_k78
  · exact sz_k79
theorem sz_fo : ∀ (id : Nat) (a : List Int) (h h' : sx_H), (∀ (k : Nat) (i f : Int), sx_in (sz_su id) k f = true → h' k i f = h k i f) → sz_pr id a h → sz_pr id a h' := by
  intro id a h h' he hp
  unfold sz_pr at hp
  split at hp
  · have a0 : ∀ c : Int, h' 87 c 6 = h 87 c 6 := fun c => he _ _ _ (by simp [sz_su, sx_in])
    have a1 : ∀ c : Int, h' 87 c 13 = h 87 c 13 := fun c => he _ _ _ (by simp [sz_su, sx_in])
    have a2 : ∀ c : Int, h' 87 c 15 = h 87 c 15 := fun c => he _ _ _ (by simp [sz_su, sx_in])
    have a3 : ∀ c : Int, h' 88 c 2 = h 88 c 2 := fun c => he _ _ _ (by simp [sz_su, sx_in])
    have a4 : ∀ c : Int, h' 88 c 3 = h 88 c 3 := fun c => he _ _ _ (by simp [sz_su, sx_in])
    have a5 : ∀ c : Int, h' 88 c 6 = h 88 c 6 := fun c => he _ _ _ (by simp [sz_su, sx_in])
    have a6 : ∀ c g : Int, h' 14 c g = h 14 c g := fun c g => he _ _ _ (by simp [sz_su, sx_in])
    unfold sz_pr
    simp only [zNW, zTP, zJF, zJL, zJD, zJV, zJX, zJW, zJA, zPCB, zNI, zPS, zPX, zOB, zFO, zFX, zNF, zJS, zJE, zJO, zJa, zJb, zJc, zJcz, zJd, zJdt, zJe, zJg, a0, a1, a2, a3, a4, a5, a6]
    simp only [zNW, zTP, zJF, zJL, zJD, zJV, zJX, zJW, zJA, zPCB, zNI, zPS, zPX, zOB, zFO, zFX, zNF, zJS, zJE, zJO, zJa, zJb, zJc, zJcz, zJd, zJdt, zJe, zJg] at hp
    exact hp
  · have a0 : ∀ c : Int, h' 88 c 6 = h 88 c 6 := fun c => he _ _ _ (by simp [sz_su, sx_in])
    have a1 : ∀ c g : Int, h' 14 c g = h 14 c g := fun c g => he _ _ _ (by simp [sz_su, sx_in])
    unfold sz_pr
    simp only [zNW, zTP, zJF, zJL, zJD, zJV, zJX, zJW, zJA, zPCB, zNI, zPS, zPX, zOB, zFO, zFX, zNF, zJS, zJE, zJO, zJa, zJb, zJc, zJcz, zJd, zJdt, zJe, zJg, a0, a1]
    simp only [zNW, zTP, zJF, zJL, zJD, zJV, zJX, zJW, zJA, zPCB, zNI, zPS, zPX, zOB, zFO, zFX, zNF, zJS, zJE, zJO, zJa, zJb, zJc, zJcz, zJd, zJdt, zJe, zJg] at hp
    exact hp
  · have a0 : ∀ c : Int, h' 88 c 6 = h 88 c 6 := fun c => he _ _ _ (by simp [sz_su, sx_in])
    have a1 : ∀ c g : Int, h' 14 c g = h 14 c g := fun c g => he _ _ _ (by simp [sz_su, sx_in])
    unfold sz_pr
    simp only [zNW, zTP, zJF, zJL, zJD, zJV, zJX, zJW, zJA, zPCB, zNI, zPS, zPX, zOB, zFO, zFX, zNF, zJS, zJE, zJO, zJa, zJb, zJc, zJcz, zJd, zJdt, zJe, zJg, a0, a1]
    simp only [zNW, zTP, zJF, zJL, zJD, zJV, zJX, zJW, zJA, zPCB, zNI, zPS, zPX, zOB, zFO, zFX, zNF, zJS, zJE, zJO, zJa, zJb, zJc, zJcz, zJd, zJdt, zJe, zJg] at hp
    exact hp
  · have a0 : ∀ c : Int, h' 88 c 6 = h 88 c 6 := fun c => he _ _ _ (by simp [sz_su, sx_in])
    have a1 : ∀ c g : Int, h' 14 c g = h 14 c g := fun c g => he _ _ _ (by simp [sz_su, sx_in])
    unfold sz_pr
    simp only [zNW, zTP, zJF, zJL, zJD, zJV, zJX, zJW, zJA, zPCB, zNI, zPS, zPX, zOB, zFO, zFX, zNF, zJS, zJE, zJO, zJa, zJb, zJc, zJcz, zJd, zJdt, zJe, zJg, a0, a1]
    simp only [zNW, zTP, zJF, zJL, zJD, zJV, zJX, zJW, zJA, zPCB, zNI, zPS, zPX, zOB, zFO, zFX, zNF, zJS, zJE, zJO, zJa, zJb, zJc, zJcz, zJd, zJdt, zJe, zJg] at hp
    exact hp
  · have a0 : ∀ c : Int, h' 88 c 6 = h 88 c 6 := fun c => he _ _ _ (by simp [sz_su, sx_in])
    have a1 : ∀ c g : Int, h' 14 c g = h 14 c g := fun c g => he _ _ _ (by simp [sz_su, sx_in])
    unfold sz_pr
    simp only [zNW, zTP, zJF, zJL, zJD, zJV, zJX, zJW, zJA, zPCB, zNI, zPS, zPX, zOB, zFO, zFX, zNF, zJS, zJE, zJO, zJa, zJb, zJc, zJcz, zJd, zJdt, zJe, zJg, a0, a1]
    simp only [zNW, zTP, zJF, zJL, zJD, zJV, zJX, zJW, zJA, zPCB, zNI, zPS, zPX, zOB, zFO, zFX, zNF, zJS, zJE, zJO, zJa, zJb, zJc, zJcz, zJd, zJdt, zJe, zJg] at hp
    exact hp
  · have a0 : ∀ c : Int, h' 88 c 6 = h 88 c 6 := fun c => he _ _ _ (by simp [sz_su, sx_in])
    have a1 : ∀ c g : Int, h' 14 c g = h 14 c g := fun c g => he _ _ _ (by simp [sz_su, sx_in])
    have a2 : ∀ c : Int, h' 87 c 15 = h 87 c 15 := fun c => he _ _ _ (by simp [sz_su, sx_in])
    unfold sz_pr
    simp only [zNW, zTP, zJF, zJL, zJD, zJV, zJX, zJW, zJA, zPCB, zNI, zPS, zPX, zOB, zFO, zFX, zNF, zJS, zJE, zJO, zJa, zJb, zJc, zJcz, zJd, zJdt, zJe, zJg, a0, a1, a2]
    simp only [zNW, zTP, zJF, zJL, zJD, zJV, zJX, zJW, zJA, zPCB, zNI, zPS, zPX, zOB, zFO, zFX, zNF, zJS, zJE, zJO, zJa, zJb, zJc, zJcz, zJd, zJdt, zJe, zJg] at hp
    exact hp
  · have a0 : ∀ c : Int, h' 87 c 6 = h 87 c 6 := fun c => he _ _ _ (by simp [sz_su, sx_in])
    have a1 : ∀ c : Int, h' 87 c 13 = h 87 c 13 := fun c => he _ _ _ (by simp [sz_su, sx_in])
    have a2 : ∀ c : Int, h' 87 c 15 = h 87 c 15 := fun c => he _ _ _ (by simp [sz_su, sx_in])
    have a3 : ∀ c : Int, h' 88 c 2 = h 88 c 2 := fun c => he _ _ _ (by simp [sz_su, sx_in])
    have a4 : ∀ c : Int, h' 88 c 3 = h 88 c 3 := fun c => he _ _ _ (by simp [sz_su, sx_in])
    have a5 : ∀ c : Int, h' 88 c 6 = h 88 c 6 := fun c => he _ _ _ (by simp [sz_su, sx_in])
    have a6 : ∀ c g : Int, h' 14 c g = h 14 c g := fun c g => he _ _ _ (by simp [sz_su, sx_in])
    unfold sz_pr
    simp only [zNW, zTP, zJF, zJL, zJD, zJV, zJX, zJW, zJA, zPCB, zNI, zPS, zPX, zOB, zFO, zFX, zNF, zJS, zJE, zJO, zJa, zJb, zJc, zJcz, zJd, zJdt, zJe, zJg, a0, a1, a2, a3, a4, a5, a6]
    simp only [zNW, zTP, zJF, zJL, zJD, zJV, zJX, zJW, zJA, zPCB, zNI, zPS, zPX, zOB, zFO, zFX, zNF, zJS, zJE, zJO, zJa, zJb, zJc, zJcz, zJd, zJdt, zJe, zJg] at hp
    exact hp
  · have a0 : ∀ c : Int, h' 87 c 6 = h 87 c 6 := fun c => he _ _ _ (by simp [sz_su, sx_in])
    have a1 : ∀ c : Int, h' 87 c 13 = h 87 c 13 := fun c => he _ _ _ (by simp [sz_su, sx_in])
    have a2 : ∀ c : Int, h' 87 c 15 = h 87 c 15 := fun c => he _ _ _ (by simp [sz_su, sx_in])
    have a3 : ∀ c : Int, h' 88 c 2 = h 88 c 2 := fun c => he _ _ _ (by simp [sz_su, sx_in])
    have a4 : ∀ c : Int, h' 88 c 3 = h 88 c 3 := fun c => he _ _ _ (by simp [sz_su, sx_in])
    have a5 : ∀ c : Int, h' 88 c 6 = h 88 c 6 := fun c => he _ _ _ (by simp [sz_su, sx_in])
    have a6 : ∀ c g : Int, h' 14 c g = h 14 c g := fun c g => he _ _ _ (by simp [sz_su, sx_in])
    unfold sz_pr
    simp only [zNW, zTP, zJF, zJL, zJD, zJV, zJX, zJW, zJA, zPCB, zNI, zPS, zPX, zOB, zFO, zFX, zNF, zJS, zJE, zJO, zJa, zJb, zJc, zJcz, zJd, zJdt, zJe, zJg, a0, a1, a2, a3, a4, a5, a6]
    simp only [zNW, zTP, zJF, zJL, zJD, zJV, zJX, zJW, zJA, zPCB, zNI, zPS, zPX, zOB, zFO, zFX, zNF, zJS, zJE, zJO, zJa, zJb, zJc, zJcz, zJd, zJdt, zJe, zJg] at hp
    exact hp
  · have a0 : ∀ c : Int, h' 88 c 2 = h 88 c 2 := fun c => he _ _ _ (by simp [sz_su, sx_in])
    have a1 : ∀ c : Int, h' 88 c 3 = h 88 c 3 := fun c => he _ _ _ (by simp [sz_su, sx_in])
    unfold sz_pr
    simp only [zNW, zTP, zJF, zJL, zJD, zJV, zJX, zJW, zJA, zPCB, zNI, zPS, zPX, zOB, zFO, zFX, zNF, zJS, zJE, zJO, zJa, zJb, zJc, zJcz, zJd, zJdt, zJe, zJg, a0, a1]
    simp only [zNW, zTP, zJF, zJL, zJD, zJV, zJX, zJW, zJA, zPCB, zNI, zPS, zPX, zOB, zFO, zFX, zNF, zJS, zJE, zJO, zJa, zJb, zJc, zJcz, zJd, zJdt, zJe, zJg] at hp
    exact hp
  · have a0 : ∀ c : Int, h' 87 c 13 = h 87 c 13 := fun c => he _ _ _ (by simp [sz_su, sx_in])
    have a1 : ∀ c : Int, h' 88 c 3 = h 88 c 3 := fun c => he _ _ _ (by simp [sz_su, sx_in])
    unfold sz_pr
    simp only [zNW, zTP, zJF, zJL, zJD, zJV, zJX, zJW, zJA, zPCB, zNI, zPS, zPX, zOB, zFO, zFX, zNF, zJS, zJE, zJO, zJa, zJb, zJc, zJcz, zJd, zJdt, zJe, zJg, a0, a1]
    simp only [zNW, zTP, zJF, zJL, zJD, zJV, zJX, zJW, zJA, zPCB, zNI, zPS, zPX, zOB, zFO, zFX, zNF, zJS, zJE, zJO, zJa, zJb, zJc, zJcz, zJd, zJdt, zJe, zJg] at hp
    exact hp
  · have a0 : ∀ c : Int, h' 88 c 2 = h 88 c 2 := fun c => he _ _ _ (by simp [sz_su, sx_in])
    unfold sz_pr
    simp only [zNW, zTP, zJF, zJL, zJD, zJV, zJX, zJW, zJA, zPCB, zNI, zPS, zPX, zOB, zFO, zFX, zNF, zJS, zJE, zJO, zJa, zJb, zJc, zJcz, zJd, zJdt, zJe, zJg, a0]
    simp only [zNW, zTP, zJF, zJL, zJD, zJV, zJX, zJW, zJA, zPCB, zNI, zPS, zPX, zOB, zFO, zFX, zNF, zJS, zJE, zJO, zJa, zJb, zJc, zJcz, zJd, zJdt, zJe, zJg] at hp
    exact hp
  · have a0 : ∀ c : Int, h' 87 c 6 = h 87 c 6 := fun c => he _ _ _ (by simp [sz_su, sx_in])
    have a1 : ∀ c : Int, h' 87 c 8 = h 87 c 8 := fun c => he _ _ _ (by simp [sz_su, sx_in])
    have a2 : ∀ c : Int, h' 87 c 12 = h 87 c 12 := fun c => he _ _ _ (by simp [sz_su, sx_in])
    unfold sz_pr
    simp only [zNW, zTP, zJF, zJL, zJD, zJV, zJX, zJW, zJA, zPCB, zNI, zPS, zPX, zOB, zFO, zFX, zNF, zJS, zJE, zJO, zJa, zJb, zJc, zJcz, zJd, zJdt, zJe, zJg, a0, a1, a2]
    simp only [zNW, zTP, zJF, zJL, zJD, zJV, zJX, zJW, zJA, zPCB, zNI, zPS, zPX, zOB, zFO, zFX, zNF, zJS, zJE, zJO, zJa, zJb, zJc, zJcz, zJd, zJdt, zJe, zJg] at hp
    exact hp
  · have a0 : ∀ c : Int, h' 87 c 8 = h 87 c 8 := fun c => he _ _ _ (by simp [sz_su, sx_in])
    unfold sz_pr
    simp only [zNW, zTP, zJF, zJL, zJD, zJV, zJX, zJW, zJA, zPCB, zNI, zPS, zPX, zOB, zFO, zFX, zNF, zJS, zJE, zJO, zJa, zJb, zJc, zJcz, zJd, zJdt, zJe, zJg, a0]
    simp only [zNW, zTP, zJF, zJL, zJD, zJV, zJX, zJW, zJA, zPCB, zNI, zPS, zPX, zOB, zFO, zFX, zNF, zJS, zJE, zJO, zJa, zJb, zJc, zJcz, zJd, zJdt, zJe, zJg] at hp
    exact hp
  · have a0 : ∀ c : Int, h' 87 c 6 = h 87 c 6 := fun c => he _ _ _ (by simp [sz_su, sx_in])
    have a1 : ∀ c : Int, h' 87 c 4 = h 87 c 4 := fun c => he _ _ _ (by simp [sz_su, sx_in])
    unfold sz_pr
    simp only [zNW, zTP, zJF, zJL, zJD, zJV, zJX, zJW, zJA, zPCB, zNI, zPS, zPX, zOB, zFO, zFX, zNF, zJS, zJE, zJO, zJa, zJb, zJc, zJcz, zJd, zJdt, zJe, zJg, a0, a1]
    simp only [zNW, zTP, zJF, zJL, zJD, zJV, zJX, zJW, zJA, zPCB, zNI, zPS, zPX, zOB, zFO, zFX, zNF, zJS, zJE, zJO, zJa, zJb, zJc, zJcz, zJd, zJdt, zJe, zJg] at hp
    exact hp
  · have a0 : ∀ c g : Int, h' 15 c g = h 15 c g := fun c g => he _ _ _ (by simp [sz_su, sx_in])
    have a1 : ∀ c g : Int, h' 16 c g = h 16 c g := fun c g => he _ _ _ (by simp [sz_su, sx_in])
    have a2 : ∀ c g : Int, h' 17 c g = h 17 c g := fun c g => he _ _ _ (by simp [sz_su, sx_in])
    unfold sz_pr
    simp only [zNW, zTP, zJF, zJL, zJD, zJV, zJX, zJW, zJA, zPCB, zNI, zPS, zPX, zOB, zFO, zFX, zNF, zJS, zJE, zJO, zJa, zJb, zJc, zJcz, zJd, zJdt, zJe, zJg, a0, a1, a2]
    simp only [zNW, zTP, zJF, zJL, zJD, zJV, zJX, zJW, zJA, zPCB, zNI, zPS, zPX, zOB, zFO, zFX, zNF, zJS, zJE, zJO, zJa, zJb, zJc, zJcz, zJd, zJdt, zJe, zJg] at hp
    exact hp
  · have a0 : ∀ c g : Int, h' 15 c g = h 15 c g := fun c g => he _ _ _ (by simp [sz_su, sx_in])
    have a1 : ∀ c g : Int, h' 16 c g = h 16 c g := fun c g => he _ _ _ (by simp [sz_su, sx_in])
    have a2 : ∀ c g : Int, h' 17 c g = h 17 c g := fun c g => he _ _ _ (by simp [sz_su, sx_in])
    unfold sz_pr
    simp only [zNW, zTP, zJF, zJL, zJD, zJV, zJX, zJW, zJA, zPCB, zNI, zPS, zPX, zOB, zFO, zFX, zNF, zJS, zJE, zJO, zJa, zJb, zJc, zJcz, zJd, zJdt, zJe, zJg, a0, a1, a2]
    simp only [zNW, zTP, zJF, zJL, zJD, zJV, zJX, zJW, zJA, zPCB, zNI, zPS, zPX, zOB, zFO, zFX, zNF, zJS, zJE, zJO, zJa, zJb, zJc, zJcz, zJd, zJdt, zJe, zJg] at hp
    exact hp
  · have a0 : ∀ c g : Int, h' 26 c g = h 26 c g := fun c g => he _ _ _ (by simp [sz_su, sx_in])
    have a1 : ∀ c g : Int, h' 20 c g = h 20 c g := fun c g => he _ _ _ (by simp [sz_su, sx_in])
    unfold sz_pr
    simp only [zNW, zTP, zJF, zJL, zJD, zJV, zJX, zJW, zJA, zPCB, zNI, zPS, zPX, zOB, zFO, zFX, zNF, zJS, zJE, zJO, zJa, zJb, zJc, zJcz, zJd, zJdt, zJe, zJg, a0, a1]
    simp only [zNW, zTP, zJF, zJL, zJD, zJV, zJX, zJW, zJA, zPCB, zNI, zPS, zPX, zOB, zFO, zFX, zNF, zJS, zJE, zJO, zJa, zJb, zJc, zJcz, zJd, zJdt, zJe, zJg] at hp
    exact hp
  · have a0 : ∀ c g : Int, h' 26 c g = h 26 c g := fun c g => he _ _ _ (by simp [sz_su, sx_in])
    have a1 : ∀ c g : Int, h' 20 c g = h 20 c g := fun c g => he _ _ _ (by simp [sz_su, sx_in])
    unfold sz_pr
    simp only [zNW, zTP, zJF, zJL, zJD, zJV, zJX, zJW, zJA, zPCB, zNI, zPS, zPX, zOB, zFO, zFX, zNF, zJS, zJE, zJO, zJa, zJb, zJc, zJcz, zJd, zJdt, zJe, zJg, a0, a1]
    simp only [zNW, zTP, zJF, zJL, zJD, zJV, zJX, zJW, zJA, zPCB, zNI, zPS, zPX, zOB, zFO, zFX, zNF, zJS, zJE, zJO, zJa, zJb, zJc, zJcz, zJd, zJdt, zJe, zJg] at hp
    exact hp
  · have a0 : ∀ c g : Int, h' 20 c g = h 20 c g := fun c g => he _ _ _ (by simp [sz_su, sx_in])
    unfold sz_pr
    simp only [zNW, zTP, zJF, zJL, zJD, zJV, zJX, zJW, zJA, zPCB, zNI, zPS, zPX, zOB, zFO, zFX, zNF, zJS, zJE, zJO, zJa, zJb, zJc, zJcz, zJd, zJdt, zJe, zJg, a0]
    simp only [zNW, zTP, zJF, zJL, zJD, zJV, zJX, zJW, zJA, zPCB, zNI, zPS, zPX, zOB, zFO, zFX, zNF, zJS, zJE, zJO, zJa, zJb, zJc, zJcz, zJd, zJdt, zJe, zJg] at hp
    exact hp
  · have a0 : ∀ c g : Int, h' 1 c g = h 1 c g := fun c g => he _ _ _ (by simp [sz_su, sx_in])
    unfold sz_pr
    simp only [zCF] at hp ⊢
    rw [zcf_ext (h 1 0) (h' 1 0) _ (fun i _ _ => a0 0 i)]
    exact hp
  · have a0 : ∀ c g : Int, h' 1 c g = h 1 c g := fun c g => he _ _ _ (by simp [sz_su, sx_in])
    unfold sz_pr
    simp only [zNW, zTP, zJF, zJL, zJD, zJV, zJX, zJW, zJA, zPCB, zNI, zPS, zPX, zOB, zFO, zFX, zNF, zJS, zJE, zJO, zJa, zJb, zJc, zJcz, zJd, zJdt, zJe, zJg, a0]
    simp only [zNW, zTP, zJF, zJL, zJD, zJV, zJX, zJW, zJA, zPCB, zNI, zPS, zPX, zOB, zFO, zFX, zNF, zJS, zJE, zJO, zJa, zJb, zJc, zJcz, zJd, zJdt, zJe, zJg] at hp
    exact hp
  · exact hp.elim
