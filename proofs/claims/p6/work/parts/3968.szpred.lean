/-! Predicates of the heap and their rules. Written by a program (wip/eng/gen445.py). -/
/-- sessions: who runs for which, who waits, who owns -/
def zJa (hh : sx_H) : Prop := ∀ s i : Int, 0 ≤ s → s ≤ 16 → 0 ≤ i → i < hh 88 s 6 → hh 87 (hh 14 s i) 13 = s - 1 ∧ hh 87 (hh 14 s i) 6 = 1
def zJb (hh : sx_H) : Prop := ∀ s i j : Int, 0 ≤ s → s ≤ 16 → 0 ≤ i → i < j → j < hh 88 s 6 → ¬ hh 14 s i = hh 14 s j
def zJc (hh : sx_H) : Prop := ∀ s i : Int, 0 ≤ s → s ≤ 16 → 0 ≤ i → i + 1 < hh 88 s 6 → hh 87 (hh 14 s i) 15 ≤ 62
def zJcz (z : Int) (hh : sx_H) : Prop := ∀ s i : Int, 0 ≤ s → s ≤ 16 → 0 ≤ i → i + 1 < hh 88 s 6 → ¬ hh 14 s i = z → hh 87 (hh 14 s i) 15 ≤ 62
def zJd (hh : sx_H) : Prop := ∀ s : Int, 0 ≤ s → s ≤ 16 → hh 88 s 2 = 1 → hh 87 (hh 88 s 3) 6 = 1
def zJdt (t : Int) (hh : sx_H) : Prop := ∀ s : Int, 0 ≤ s → s ≤ 16 → ¬ s = t → hh 88 s 2 = 1 → hh 87 (hh 88 s 3) 6 = 1
def zJe (hh : sx_H) : Prop := ∀ s : Int, 0 ≤ s → s ≤ 16 → 0 < hh 88 s 6 → hh 88 s 2 = 1
def zJg (hh : sx_H) : Prop := hh 88 0 6 = 0 ∧ ¬ hh 88 0 2 = 1
def zJS (hh : sx_H) : Prop := zJa hh ∧ zJb hh ∧ zJc hh ∧ zJd hh ∧ zJe hh ∧ zJg hh
def zJE (z : Int) (hh : sx_H) : Prop := zJa hh ∧ zJb hh ∧ zJcz z hh ∧ zJd hh ∧ zJe hh ∧ zJg hh
def zJO (t : Int) (hh : sx_H) : Prop := zJa hh ∧ zJb hh ∧ zJc hh ∧ zJdt t hh ∧ zJe hh ∧ zJg hh
/-- the applet z does not wait -/
def zNW (z : Int) (hh : sx_H) : Prop := ∀ s i : Int, 0 ≤ s → s ≤ 16 → 0 ≤ i → i < hh 88 s 6 → hh 14 s i = z → i + 1 = hh 88 s 6
def zTP (s z : Int) (hh : sx_H) : Prop := 1 ≤ hh 88 s 6 ∧ hh 14 s (hh 88 s 6 - 1) = z
def zJF (x : Int) (hh : sx_H) : Prop := ∀ s i : Int, 0 ≤ s → s ≤ 16 → 0 ≤ i → i < hh 88 s 6 → ¬ hh 14 s i = x
def zJL (s q : Int) (hh : sx_H) : Prop := zJF (hh 14 s q) hh
def zJD (s : Int) (hh : sx_H) : Prop := 1 ≤ hh 88 s 6 → hh 87 (hh 14 s (hh 88 s 6 - 1)) 15 ≤ 62
def zJV (x i : Int) (hh : sx_H) : Prop := ∀ s : Int, 0 ≤ s → s ≤ i → hh 88 s 2 = 1 → ¬ hh 88 s 3 = x
def zJX (x : Int) (hh : sx_H) : Prop := hh 87 x 13 = -1 ∨ hh 88 (hh 87 x 13 + 1) 3 = x
def zJW (i : Int) (hh : sx_H) : Prop := ∀ s : Int, 0 ≤ s → s ≤ i → ¬ hh 88 s 2 = 1
/-- an applet that is in has at most 8 pages and commands -/
def zJA (hh : sx_H) : Prop := ∀ z : Int, hh 87 z 6 = 1 → hh 87 z 8 ≤ 8 ∧ hh 87 z 12 ≤ 8
def zPCB (z : Int) (hh : sx_H) : Prop := hh 87 z 8 ≤ 8
def zNI (u y : Int) (hh : sx_H) : Prop := ∀ j : Int, 0 ≤ j → j < y → hh 87 j 6 = 0 ∨ ¬ hh 87 j 4 = u
/-- parameters that are rows of bytes -/
def zPS (hh : sx_H) : Prop := ∀ s k : Int, 4 ≤ hh 15 s k → 0 ≤ hh 17 s k ∧ hh 17 s k ≤ 256 ∧ (1 ≤ hh 17 s k → 0 ≤ hh 16 s k ∧ hh 16 s k + hh 17 s k ≤ 8192)
def zPX (s' k' : Int) (hh : sx_H) : Prop := ∀ s k : Int, ¬ (s = s' ∧ k = k') → 4 ≤ hh 15 s k → 0 ≤ hh 17 s k ∧ hh 17 s k ≤ 256 ∧ (1 ≤ hh 17 s k → 0 ≤ hh 16 s k ∧ hh 16 s k + hh 17 s k ≤ 8192)
/-- a block that is an OBJECT has at most 512 bytes -/
def zOB (b : Int) (hh : sx_H) : Prop := 0 ≤ hh 20 b 18 ∧ (hh 20 b 18 ≤ 1 ∨ (hh 20 b 18 = 2 ∧ hh 20 b 19 = 0))
def zFO (hh : sx_H) : Prop := ∀ b : Int, hh 26 0 b = 2 → zOB b hh
def zFX (t : Int) (hh : sx_H) : Prop := ∀ b : Int, ¬ b = t → hh 26 0 b = 2 → zOB b hh
/-- pages that are free, counted -/
def zcf (g : Int → Int) : Nat → Int
  | 0 => 0
  | n + 1 => zcf g n + (if g (n : Int) = 1 then 1 else 0)
def zCF (j e : Int) (hh : sx_H) : Prop := e ≤ zcf (hh 1 0) j.toNat
def zNF (j : Int) (hh : sx_H) : Prop := ∀ i : Int, 0 ≤ i → i < j → ¬ hh 1 0 i = 1
theorem zcf_ext (g g' : Int → Int) : ∀ n : Nat, (∀ i : Int, 0 ≤ i → i < n → g' i = g i) → zcf g' n = zcf g n
  | 0, _ => rfl
  | n + 1, h => by
    simp only [zcf]
    rw [zcf_ext g g' n (fun i a b => h i a (by omega)), h n (by omega) (by omega)]
theorem zcf_up (g g' : Int → Int) (b : Int) : ∀ n : Nat, (∀ i : Int, ¬ i = b → g' i = g i) → zcf g n - 1 ≤ zcf g' n
  | 0, _ => by simp [zcf]
  | n + 1, h => by
    simp only [zcf]
    by_cases hb : (n : Int) = b
    · rw [zcf_ext g g' n (fun i a c => h i (by omega))]
      split <;> split <;> omega
    · have := zcf_up g g' b n h
      rw [h n hb]
      omega
theorem zcf_none (g : Int → Int) : ∀ n : Nat, (∀ i : Int, 0 ≤ i → i < n → ¬ g i = 1) → zcf g n = 0
  | 0, _ => rfl
  | n + 1, h => by
    simp only [zcf]
    rw [zcf_none g n (fun i a b => h i a (by omega)), if_neg (h n (by omega) (by omega))]
    rfl
/-- blocks in use, counted -/
def zcu (g : Int → Int) : Nat → Int
  | 0 => 0
  | n + 1 => zcu g n + (if g (n : Int) = 0 then 0 else 1)
theorem zcu_ext (g g' : Int → Int) : ∀ n : Nat, (∀ i : Int, 0 ≤ i → i < n → g' i = g i) → zcu g' n = zcu g n
  | 0, _ => rfl
  | n + 1, h => by
    simp only [zcu]
    rw [zcu_ext g g' n (fun i a b => h i a (by omega)), h n (by omega) (by omega)]
theorem zcu_nn (g : Int → Int) : ∀ n : Nat, 0 ≤ zcu g n ∧ zcu g n ≤ n
  | 0 => ⟨by simp [zcu], by simp [zcu]⟩
  | n + 1 => by
    have := zcu_nn g n
    simp only [zcu]
    split <;> omega
theorem zcu_up (g g' : Int → Int) (b : Int) : ∀ n : Nat, (∀ i : Int, ¬ i = b → g' i = g i) → zcu g' n ≤ zcu g n + 1
  | 0, _ => by simp [zcu]
  | n + 1, h => by
    simp only [zcu]
    by_cases hb : (n : Int) = b
    · rw [zcu_ext g g' n (fun i a c => h i (by omega))]
      split <;> split <;> omega
    · have := zcu_up g g' b n h
      rw [h n hb]
      omega
theorem zcu_one (g g' : Int → Int) (b : Int) (h0 : g b = 0) (h1 : ¬ g' b = 0) : ∀ n : Nat, (∀ i : Int, ¬ i = b → g' i = g i) → 0 ≤ b → b < n → zcu g' n = zcu g n + 1
  | 0, _, _, hb => by omega
  | n + 1, h, hb0, hb => by
    simp only [zcu]
    by_cases e : (n : Int) = b
    · rw [zcu_ext g g' n (fun i a c => h i (by omega)), e, if_pos h0, if_neg h1]
      omega
    · rw [zcu_one g g' b h0 h1 n h hb0 (by omega), h n e]
      omega
theorem zcu_same (g g' : Int → Int) : ∀ n : Nat, (∀ i : Int, g' i = 0 ↔ g i = 0) → zcu g' n = zcu g n
  | 0, _ => rfl
  | n + 1, h => by
    simp only [zcu]
    rw [zcu_same g g' n h]
    by_cases e : g n = 0
    · rw [if_pos e, if_pos ((h n).mpr e)]
    · rw [if_neg e, if_neg (fun q => e ((h n).mp q))]
theorem zcu_all (g : Int → Int) : ∀ n : Nat, (∀ i : Int, 0 ≤ i → i < n → ¬ g i = 0) → zcu g n = n
  | 0, _ => rfl
  | n + 1, h => by
    simp only [zcu]
    rw [zcu_all g n (fun i a b => h i a (by omega)), if_neg (h n (by omega) (by omega))]
    omega
theorem zcu_none (g : Int → Int) : ∀ n : Nat, (∀ i : Int, 0 ≤ i → i < n → g i = 0) → zcu g n = 0
  | 0, _ => rfl
  | n + 1, h => by
    simp only [zcu]
    rw [zcu_none g n (fun i a b => h i a (by omega)), if_pos (h n (by omega) (by omega))]
    rfl
theorem zcu_mono (g : Int → Int) : ∀ n m : Nat, zcu g n ≤ zcu g (n + m)
  | n, 0 => Int.le_refl _
  | n, m + 1 => by
    have := zcu_mono g n m
    have e : zcu g (n + (m + 1)) = zcu g (n + m) + (if g ((n + m : Nat) : Int) = 0 then 0 else 1) := rfl
    rw [e]
    split <;> omega
def zUE (m : Int) (hh : sx_H) : Prop := zcu (hh 183 0) 64 = m
def zw (hh : sx_H) (q : Int) : Int := if hh 139 0 q = 0 then 0 else 1 + (((hh 140 0 q + 255) / 256).toNat : Int)
def zt (hh : sx_H) (s j : Int) : Int := if j < hh 136 0 s then zw hh (4 * s + j) else 0
def zn (hh : sx_H) (s k : Int) : Int := (if k ≤ 0 then zt hh s 0 else 0) + ((if k ≤ 1 then zt hh s 1 else 0) + ((if k ≤ 2 then zt hh s 2 else 0) + (if k ≤ 3 then zt hh s 3 else 0)))
def zh (hh : sx_H) (p : Int) : Prop := hh 187 0 (7 * p) = 255 ∧ hh 187 0 (7 * p + 1) = 255 ∧ hh 187 0 (7 * p + 2) = 255 ∧ hh 187 0 (7 * p + 3) = 255 ∧ hh 187 0 (7 * p + 4) = 255 ∧ hh 187 0 (7 * p + 5) = 255 ∧ hh 187 0 (7 * p + 6) = 255
def zu (hh : sx_H) (p : Int) : Int := if hh 188 0 p = 0 then 0 else if hh 187 0 (7 * p) = 255 ∧ hh 187 0 (7 * p + 1) = 255 ∧ hh 187 0 (7 * p + 2) = 255 ∧ hh 187 0 (7 * p + 3) = 255 ∧ hh 187 0 (7 * p + 4) = 255 ∧ hh 187 0 (7 * p + 5) = 255 ∧ hh 187 0 (7 * p + 6) = 255 then 0 else 1
def zr (hh : sx_H) (p : Int) : Int := (if p ≤ 0 then zu hh 0 else 0) + ((if p ≤ 1 then zu hh 1 else 0) + ((if p ≤ 2 then zu hh 2 else 0) + ((if p ≤ 3 then zu hh 3 else 0) + ((if p ≤ 4 then zu hh 4 else 0) + ((if p ≤ 5 then zu hh 5 else 0) + (if p ≤ 6 then zu hh 6 else 0))))))
def zq (hh : sx_H) (p : Int) : Int := (if 0 < p then zu hh 0 else 0) + ((if 1 < p then zu hh 1 else 0) + ((if 2 < p then zu hh 2 else 0) + ((if 3 < p then zu hh 3 else 0) + ((if 4 < p then zu hh 4 else 0) + ((if 5 < p then zu hh 5 else 0) + (if 6 < p then zu hh 6 else 0))))))
def zUR (s k p m x : Int) (hh : sx_H) : Prop := zcu (hh 183 0) 64 + x + zn hh s k + zr hh p ≤ m
def zNU (b : Int) (hh : sx_H) : Prop := ∀ j : Int, 0 ≤ j → j < b → hh 183 0 j = 0
def zAU (b : Int) (hh : sx_H) : Prop := ∀ j : Int, 0 ≤ j → j < b → ¬ hh 183 0 j = 0
def zAQ (s k n : Int) (hh : sx_H) : Prop := (if 0 < k then zw hh (4 * s) else 0) + ((if 1 < k then zw hh (4 * s + 1) else 0) + ((if 2 < k then zw hh (4 * s + 2) else 0) + (if 3 < k then zw hh (4 * s + 3) else 0))) ≤ n
def zBQ (s p n : Int) (hh : sx_H) : Prop := zn hh s 0 + zq hh p ≤ n
def zHZ (p q : Int) (hh : sx_H) : Prop := ∀ j : Int, 0 ≤ j → j < q → hh 187 0 (7 * p + j) = 255
def zHN (p : Int) (hh : sx_H) : Prop := ¬ zh hh p
def zRN (b p : Int) (hh : sx_H) : Prop := ∀ j : Int, 0 ≤ j → j < p → hh 104 0 (256 * b + 33 * j) = -1 ∨ (0 ≤ hh 104 0 (256 * b + 33 * j) ∧ hh 104 0 (256 * b + 33 * j) ≤ 63)
def zUS (b : Int) (hh : sx_H) : Prop := ¬ hh 183 0 b = 0
def zNE (x y : Int) (_ : sx_H) : Prop := ¬ x = y
/-- free pages of the reference -/
def zrc (f g : Int → Int) : Nat → Int
  | 0 => 0
  | n + 1 => zrc f g n + (if ¬ f (8 + (n : Int)) = 0 ∧ g (8 + (n : Int)) < 0 then 1 else 0)
def zRC (p n : Int) (hh : sx_H) : Prop := n ≤ zrc (hh 102 0) (hh 103 0) (p - 8).toNat
def zNP (p : Int) (hh : sx_H) : Prop := ∀ j : Int, 8 ≤ j → j < p → hh 102 0 j = 0 ∨ 0 ≤ hh 103 0 j
def zLS (hh : sx_H) : Prop := ∀ s l : Int, 0 ≤ l → l ≤ 3 → l < hh 122 0 s → hh 125 0 (4 * s + l) ≤ 62
def zLD (s : Int) (hh : sx_H) : Prop := hh 125 0 (4 * s + hh 122 0 s) ≤ 62
def zPV (s k : Int) (hh : sx_H) : Prop := ∀ i : Int, 0 ≤ i → i ≤ 3 → i < k → 4 ≤ hh 129 0 (4 * s + i) → 0 ≤ hh 131 0 (4 * s + i) ∧ hh 131 0 (4 * s + i) ≤ 256 ∧ (1 ≤ hh 131 0 (4 * s + i) → 0 ≤ hh 132 0 (4 * s + i) ∧ hh 132 0 (4 * s + i) + hh 131 0 (4 * s + i) ≤ 8192)
def zPR (hh : sx_H) : Prop := ∀ s : Int, hh 119 0 s = 1 → zPV s 4 hh
def zOR (b : Int) (hh : sx_H) : Prop := 0 ≤ hh 104 0 (256 * b + 18) ∧ (hh 104 0 (256 * b + 18) ≤ 1 ∨ (hh 104 0 (256 * b + 18) = 2 ∧ hh 104 0 (256 * b + 19) = 0))
def zRR (hh : sx_H) : Prop := hh 92 0 18 = 255 ∨ (0 ≤ hh 92 0 18 ∧ hh 92 0 18 ≤ 63 ∧ zRN (hh 92 0 18) 7 hh ∧ zUS (hh 92 0 18) hh)
def zDN (b p : Int) (hh : sx_H) : Prop := ∀ j : Int, 0 ≤ j → j < p → 0 ≤ hh 104 0 (256 * b + 33 * j + 28) ∧ hh 104 0 (256 * b + 33 * j + 28) ≤ 63
def zOJ (hh : sx_H) : Prop := 0 ≤ hh 92 0 107 → zOR (hh 92 0 107) hh
def sz_pr (id : Nat) (a : List Int) (hh : sx_H) : Prop := match id, a with
  | 0, [] => zJS hh
  | 1, [x0] => zNW x0 hh
  | 2, [x0, x1] => zTP x0 x1 hh
  | 3, [x0] => zJF x0 hh
  | 4, [x0, x1] => zJL x0 x1 hh
  | 5, [x0] => zJD x0 hh
  | 6, [x0] => zJE x0 hh
  | 7, [x0] => zJO x0 hh
  | 8, [x0, x1] => zJV x0 x1 hh
  | 9, [x0] => zJX x0 hh
  | 10, [x0] => zJW x0 hh
  | 11, [] => zJA hh
  | 12, [x0] => zPCB x0 hh
  | 13, [x0, x1] => zNI x0 x1 hh
  | 14, [] => zPS hh
  | 15, [x0, x1] => zPX x0 x1 hh
  | 16, [] => zFO hh
  | 17, [x0] => zFX x0 hh
  | 18, [x0] => zOB x0 hh
  | 19, [x0, x1] => zCF x0 x1 hh
  | 20, [x0] => zNF x0 hh
  | 21, [x0] => zUE x0 hh
  | 22, [x0, x1, x2, x3, x4] => zUR x0 x1 x2 x3 x4 hh
  | 23, [x0] => zNU x0 hh
  | 24, [x0] => zAU x0 hh
  | 25, [x0, x1, x2] => zAQ x0 x1 x2 hh
  | 26, [x0, x1, x2] => zBQ x0 x1 x2 hh
  | 27, [x0, x1] => zHZ x0 x1 hh
  | 28, [x0] => zHN x0 hh
  | 29, [x0, x1] => zRN x0 x1 hh
  | 30, [x0] => zUS x0 hh
  | 31, [x0, x1] => zNE x0 x1 hh
  | 32, [x0, x1] => zRC x0 x1 hh
  | 33, [x0] => zNP x0 hh
  | 34, [] => zLS hh
  | 35, [x0] => zLD x0 hh
  | 36, [] => zPR hh
  | 37, [x0, x1] => zPV x0 x1 hh
  | 38, [x0] => zOR x0 hh
  | 39, [] => zOJ hh
  | 40, [] => zRR hh
  | 41, [x0, x1] => zDN x0 x1 hh
  | _, _ => False
def sz_su : Nat → List (Nat × Nat)
  | 0 => [(87, 6), (87, 13), (87, 15), (88, 2), (88, 3), (88, 6), (14, 999)]
  | 1 => [(88, 6), (14, 999)]
  | 2 => [(88, 6), (14, 999)]
  | 3 => [(88, 6), (14, 999)]
  | 4 => [(88, 6), (14, 999)]
  | 5 => [(88, 6), (14, 999), (87, 15)]
  | 6 => [(87, 6), (87, 13), (87, 15), (88, 2), (88, 3), (88, 6), (14, 999)]
  | 7 => [(87, 6), (87, 13), (87, 15), (88, 2), (88, 3), (88, 6), (14, 999)]
  | 8 => [(88, 2), (88, 3)]
  | 9 => [(87, 13), (88, 3)]
  | 10 => [(88, 2)]
  | 11 => [(87, 6), (87, 8), (87, 12)]
  | 12 => [(87, 8)]
  | 13 => [(87, 6), (87, 4)]
  | 14 => [(15, 999), (16, 999), (17, 999)]
  | 15 => [(15, 999), (16, 999), (17, 999)]
  | 16 => [(26, 999), (20, 999)]
  | 17 => [(26, 999), (20, 999)]
  | 18 => [(20, 999)]
  | 19 => [(1, 999)]
  | 20 => [(1, 999)]
  | 21 => [(183, 999)]
  | 22 => [(183, 999), (136, 999), (139, 999), (140, 999), (187, 999), (188, 999)]
  | 23 => [(183, 999)]
  | 24 => [(183, 999)]
  | 25 => [(139, 999), (140, 999)]
  | 26 => [(136, 999), (139, 999), (140, 999), (187, 999), (188, 999)]
  | 27 => [(187, 999)]
  | 28 => [(187, 999)]
  | 29 => [(104, 999)]
  | 30 => [(183, 999)]
  | 31 => []
  | 32 => [(102, 999), (103, 999)]
  | 33 => [(102, 999), (103, 999)]
  | 34 => [(122, 999), (125, 999)]
  | 35 => [(122, 999), (125, 999)]
  | 36 => [(119, 999), (129, 999), (131, 999), (132, 999)]
  | 37 => [(129, 999), (131, 999), (132, 999)]
  | 38 => [(104, 999)]
  | 39 => [(92, 107), (104, 999)]
  | 40 => [(92, 18), (104, 999), (183, 999)]
  | 41 => [(104, 999)]
  | _ => []
theorem sz_bc {q : Int × Int} {B : List (Int × Int)} {r : List Int} (h : sx_b (q :: B) r) : ∃ x r', r = x :: r' ∧ q.1 ≤ x ∧ x ≤ q.2 ∧ sx_b B r' := by
  cases r with
  | nil => exact h.elim
  | cons x r' => exact ⟨x, r', rfl, h⟩
theorem sz_bn {r : List Int} (h : sx_b [] r) : r = [] := by
  cases r with
  | nil => rfl
  | cons x r' => exact h.elim
theorem sz_w0 {r : List Int} {hh hh' : sx_H} {K : Nat} {i f v : List Int} (h : sx_wl r hh hh' (0, K, i, f, v)) : hh' = hh := by
  rcases h with ⟨-, h⟩ | ⟨h, -⟩ | ⟨h, -⟩
  · exact h
  · cases h
  · cases h
theorem sz_w1 {r : List Int} {hh hh' : sx_H} {K : Nat} {i f v : List Int} (h : sx_wl r hh hh' (1, K, i, f, v)) : ∀ (k : Nat) (c g : Int), hh' k c g = if k = K ∧ c = sx_ev i r ∧ g = sx_ev f r then sx_ev v r else hh k c g := by
  rcases h with ⟨h, -⟩ | ⟨-, h⟩ | ⟨h, -⟩
  · cases h
  · intro k c g
    rw [h]
    unfold sx_up
    dsimp only
    by_cases h1 : k = K ∧ c = sx_ev i r
    · rw [if_pos h1]
      obtain ⟨rfl, rfl⟩ := h1
      by_cases h2 : g = sx_ev f r
      · rw [if_pos h2, if_pos ⟨rfl, rfl, h2⟩]
      · rw [if_neg h2, if_neg (fun q => h2 q.2.2)]
    · rw [if_neg h1, if_neg (fun q => h1 ⟨q.1, q.2.1⟩)]
  · cases h
theorem sz_w2 {r : List Int} {hh hh' : sx_H} {K : Nat} {i f v : List Int} (h : sx_wl r hh hh' (2, K, i, f, v)) : ∀ (k : Nat) (c g : Int), ¬ (k = K ∧ c = sx_ev i r) → hh' k c g = hh k c g := by
  rcases h with ⟨h, -⟩ | ⟨h, -⟩ | ⟨-, q, h⟩
  · cases h
  · cases h
  · intro k c g hn
    rw [h, sx_up_n hn]
theorem zcu_lt (g : Int → Int) (b : Int) (h0 : g b = 0) (hb : 0 ≤ b) : ∀ n : Nat, b < n → zcu g n ≤ n - 1
  | 0, h => by omega
  | n + 1, h => by
    simp only [zcu]
    by_cases e : (n : Int) = b
    · have := (zcu_nn g n).2
      rw [e, if_pos h0]
      omega
    · have := zcu_lt g b h0 hb n (by omega)
      split <;> omega
theorem zrc_ext (f g f' g' : Int → Int) : ∀ n : Nat, (∀ i : Int, f' i = f i) → (∀ i : Int, g' i = g i) → zrc f' g' n = zrc f g n
  | 0, _, _ => rfl
  | n + 1, h, k => by
    simp only [zrc]
    rw [zrc_ext f g f' g' n h k, h, k]
theorem zrc_nn (f g : Int → Int) : ∀ n : Nat, 0 ≤ zrc f g n
  | 0 => by simp [zrc]
  | n + 1 => by
    have := zrc_nn f g n
    simp only [zrc]
    split <;> omega
theorem zrc_exl (f g g' : Int → Int) : ∀ n : Nat, (∀ i : Int, i < 8 + (n : Int) → g' i = g i) → zrc f g' n = zrc f g n
  | 0, _ => rfl
  | n + 1, k => by
    simp only [zrc]
    rw [zrc_exl f g g' n (fun i h => k i (by omega)), k _ (by omega)]
theorem zrc_up (f g g' : Int → Int) (b : Int) : ∀ n : Nat, (∀ i : Int, ¬ i = b → g' i = g i) → zrc f g n - 1 ≤ zrc f g' n
  | 0, _ => by simp [zrc]
  | n + 1, h => by
    simp only [zrc]
    by_cases hb : 8 + (n : Int) = b
    · rw [zrc_exl f g g' n (fun i c => h i (by omega))]
      split <;> split <;> omega
    · have := zrc_up f g g' b n h
      rw [h _ hb]
      omega
theorem zrc_none (f g : Int → Int) : ∀ n : Nat, (∀ i : Int, 8 ≤ i → i < 8 + (n : Int) → f i = 0 ∨ 0 ≤ g i) → zrc f g n = 0
  | 0, _ => rfl
  | n + 1, h => by
    simp only [zrc]
    rw [zrc_none f g n (fun i a b => h i a (by omega)), if_neg]
    · rfl
    · intro q
      have := h (8 + (n : Int)) (by omega) (by omega)
      omega
theorem zrc_one (f g : Int → Int) (b : Int) (h0 : ¬ f b = 0) (h1 : g b < 0) (hb : 8 ≤ b) : ∀ n : Nat, b < 8 + (n : Int) → 1 ≤ zrc f g n
  | 0, h => by omega
  | n + 1, h => by
    simp only [zrc]
    by_cases e : 8 + (n : Int) = b
    · rw [e, if_pos ⟨h0, h1⟩]
      have := zrc_nn f g n
      omega
    · have := zrc_one f g b h0 h1 hb n (by omega)
      split <;> omega
theorem zw_nn (hh : sx_H) (q : Int) : 0 ≤ zw hh q := by
  unfold zw
  split <;> omega
theorem zw_0 {hh : sx_H} {q v : Int} (g : hh 139 0 q = v) (h : v ≤ 0) (h' : 0 ≤ v) : zw hh q = 0 := by
  unfold zw
  rw [if_pos (by omega)]
theorem zw_1 {hh : sx_H} {q v l p : Int} (g : hh 139 0 q = v) (h : 1 ≤ v) (g' : hh 140 0 q = l) (h1 : 0 ≤ l + 255 - 256 * p) (h2 : 0 ≤ -l + 256 * p) (h3 : 0 ≤ p) : zw hh q = 1 + p := by
  unfold zw
  rw [if_neg (by omega), g']
  omega
theorem zt_nn (hh : sx_H) (s j : Int) : 0 ≤ zt hh s j := by
  unfold zt
  split
  · exact zw_nn _ _
  · omega
theorem zn_4 (hh : sx_H) (s k : Int) (h : 4 ≤ k) : zn hh s k = 0 := by
  unfold zn
  rw [if_neg (by omega), if_neg (by omega), if_neg (by omega), if_neg (by omega)]
  rfl
theorem zn_dn (hh : sx_H) (s k : Int) (h : 0 ≤ k) (h' : k ≤ 3) : zn hh s k = zt hh s k + zn hh s (k + 1) := by
  have hk : k = 0 ∨ k = 1 ∨ k = 2 ∨ k = 3 := by omega
  rcases hk with rfl | rfl | rfl | rfl <;> simp [zn]
theorem zn_nn (hh : sx_H) (s k : Int) : 0 ≤ zn hh s k := by
  have h0 := zt_nn hh s 0
  have h1 := zt_nn hh s 1
  have h2 := zt_nn hh s 2
  have h3 := zt_nn hh s 3
  unfold zn
  split <;> split <;> split <;> split <;> omega
theorem zn_ext {hh hh' : sx_H} (s k : Int) (h1 : ∀ c g : Int, hh' 136 c g = hh 136 c g) (h2 : ∀ c g : Int, hh' 139 c g = hh 139 c g) (h3 : ∀ c g : Int, hh' 140 c g = hh 140 c g) : zn hh' s k = zn hh s k := by
  simp only [zn, zt, zw, h1, h2, h3]
theorem zu_nn (hh : sx_H) (p : Int) : 0 ≤ zu hh p ∧ zu hh p ≤ 1 := by
  unfold zu
  split
  · omega
  · split <;> omega
theorem zu_c {hh : sx_H} {p v : Int} (g : hh 188 0 p = v) (h : v ≤ 0) (h' : 0 ≤ v) : zu hh p = 0 := by
  unfold zu
  rw [if_pos (by omega)]
theorem zu_h {hh : sx_H} {p : Int} (g : zh hh p) : zu hh p = 0 := by
  unfold zu
  split
  · rfl
  · exact if_pos g
theorem zu_1 {hh : sx_H} {p v : Int} (g : hh 188 0 p = v) (h : 1 ≤ v) (n : ¬ zh hh p) : zu hh p = 1 := by
  unfold zu
  rw [if_neg (by omega)]
  exact if_neg n
theorem zr_7 (hh : sx_H) (p : Int) (h : 7 ≤ p) : zr hh p = 0 := by
  unfold zr
  rw [if_neg (by omega), if_neg (by omega), if_neg (by omega), if_neg (by omega), if_neg (by omega), if_neg (by omega), if_neg (by omega)]
  rfl
theorem zr_dn (hh : sx_H) (p : Int) (h : 0 ≤ p) (h' : p ≤ 6) : zr hh p = zu hh p + zr hh (p + 1) := by
  have hk : p = 0 ∨ p = 1 ∨ p = 2 ∨ p = 3 ∨ p = 4 ∨ p = 5 ∨ p = 6 := by omega
  rcases hk with rfl | rfl | rfl | rfl | rfl | rfl | rfl <;> simp [zr]
theorem zr_nn (hh : sx_H) (p : Int) : 0 ≤ zr hh p := by
  have h0 := (zu_nn hh 0).1
  have h1 := (zu_nn hh 1).1
  have h2 := (zu_nn hh 2).1
  have h3 := (zu_nn hh 3).1
  have h4 := (zu_nn hh 4).1
  have h5 := (zu_nn hh 5).1
  have h6 := (zu_nn hh 6).1
  have e : ∀ (c : Prop) [Decidable c] (a : Int), 0 ≤ a → 0 ≤ (if c then a else 0) := fun c _ a h => by
    split
    · exact h
    · exact Int.le_refl _
  unfold zr
  have i0 := e (p ≤ 0) _ h0
  have i1 := e (p ≤ 1) _ h1
  have i2 := e (p ≤ 2) _ h2
  have i3 := e (p ≤ 3) _ h3
  have i4 := e (p ≤ 4) _ h4
  have i5 := e (p ≤ 5) _ h5
  have i6 := e (p ≤ 6) _ h6
  exact Int.add_nonneg i0 (Int.add_nonneg i1 (Int.add_nonneg i2 (Int.add_nonneg i3 (Int.add_nonneg i4 (Int.add_nonneg i5 i6)))))
theorem zr_ext {hh hh' : sx_H} (p : Int) (h1 : ∀ c g : Int, hh' 187 c g = hh 187 c g) (h2 : ∀ c g : Int, hh' 188 c g = hh 188 c g) : zr hh' p = zr hh p := by
  simp only [zr, zu, h1, h2]
theorem zq_up (hh : sx_H) (p : Int) (h : 0 ≤ p) (h' : p ≤ 6) : zq hh (p + 1) = zq hh p + zu hh p := by
  have hk : p = 0 ∨ p = 1 ∨ p = 2 ∨ p = 3 ∨ p = 4 ∨ p = 5 ∨ p = 6 := by omega
  rcases hk with rfl | rfl | rfl | rfl | rfl | rfl | rfl <;> simp [zq] <;> omega
theorem zh_hz {hh : sx_H} {p q : Int} (h : 7 ≤ q) (hz : zHZ p q hh) : zh hh p := by
  refine ⟨?_, hz 1 (by omega) (by omega), hz 2 (by omega) (by omega), hz 3 (by omega) (by omega), hz 4 (by omega) (by omega), hz 5 (by omega) (by omega), hz 6 (by omega) (by omega)⟩
  have := hz 0 (by omega) (by omega)
  rw [Int.add_zero] at this
  exact this
theorem zh_no {hh : sx_H} {p q v : Int} (l : 0 ≤ q) (u : q ≤ 6) (g : hh 187 0 (7 * p + q) = v) (hv : ¬ v = 255) : ¬ zh hh p := by
  intro ⟨h0, h1, h2, h3, h4, h5, h6⟩
  have hk : q = 0 ∨ q = 1 ∨ q = 2 ∨ q = 3 ∨ q = 4 ∨ q = 5 ∨ q = 6 := by omega
  rcases hk with rfl | rfl | rfl | rfl | rfl | rfl | rfl
  · rw [Int.add_zero] at g
    omega
  · omega
  · omega
  · omega
  · omega
  · omega
  · omega
theorem zs_tp {hh : sx_H} {x0 x1 x2 : Int} (l0 : 0 ≤ x0) (u0 : x0 ≤ 16) (l1 : 0 ≤ x1) (u1 : x1 ≤ 4) (l2 : 0 ≤ x2) (u2 : x2 ≤ 7) (f0 : 0 ≤ x1 - 1) (g0 : hh 88 x0 6 = x1) (g1 : hh 14 x0 (x1 - 1) = x2) (p0 : zJS hh) : zTP x0 x2 hh ∧ zNW x2 hh := by
  grind [zNW, zTP, zJF, zJL, zJD, zJV, zJX, zJW, zJA, zPCB, zNI, zPS, zPX, zOB, zFO, zFX, zNF, zJS, zJE, zJO, zJa, zJb, zJc, zJcz, zJd, zJdt, zJe, zJg]
def sz_u0 : sx_Ru := ([(0, 16), (0, 4), (0, 7)], [[-1, 0, 1]], ([(88, [0, 1], [6], [0, 0, 1]), (14, [0, 1], [-1, 0, 1], [0, 0, 0, 1])], [(0, [])]), (0, 0, [], [], []), [], [(2, [[0, 1], [0, 0, 0, 1]]), (1, [[0, 0, 0, 1]])])
theorem zs_tp_r {hh : sx_H} {x0 x1 x2 : Int} (l0 : 0 ≤ x0) (u0 : x0 ≤ 16) (l1 : 0 ≤ x1) (u1 : x1 ≤ 7) (l2 : 0 ≤ x2) (u2 : x2 ≤ 4) (g0 : hh 88 x0 6 = x2) (p0 : zTP x0 x1 hh) : 0 ≤ x2 - 1 := by
  grind [zNW, zTP, zJF, zJL, zJD, zJV, zJX, zJW, zJA, zPCB, zNI, zPS, zPX, zOB, zFO, zFX, zNF, zJS, zJE, zJO, zJa, zJb, zJc, zJcz, zJd, zJdt, zJe, zJg]
def sz_u1 : sx_Ru := ([(0, 16), (0, 7), (0, 4)], [], ([(88, [0, 1], [6], [0, 0, 0, 1])], [(2, [[0, 1], [0, 0, 1]])]), (0, 0, [], [], []), [[-1, 0, 0, 1]], [])
theorem zs_pcb {hh : sx_H} {x0 x1 : Int} (l0 : 0 ≤ x0) (u0 : x0 ≤ 16) (l1 : 0 ≤ x1) (u1 : x1 ≤ 7) (p0 : zJS hh) (p1 : zJA hh) (p2 : zTP x0 x1 hh) : zPCB x1 hh := by
  grind [zNW, zTP, zJF, zJL, zJD, zJV, zJX, zJW, zJA, zPCB, zNI, zPS, zPX, zOB, zFO, zFX, zNF, zJS, zJE, zJO, zJa, zJb, zJc, zJcz, zJd, zJdt, zJe, zJg]
def sz_u2 : sx_Ru := ([(0, 16), (0, 7)], [], ([], [(0, []), (11, []), (2, [[0, 1], [0, 0, 1]])]), (0, 0, [], [], []), [], [(12, [[0, 0, 1]])])
theorem zs_spos {hh : sx_H} {x0 x1 : Int} (l0 : 0 ≤ x0) (u0 : x0 ≤ 16) (l1 : 0 ≤ x1) (u1 : x1 ≤ 4) (f0 : 0 ≤ x1 - 1) (g0 : hh 88 x0 6 = x1) (p0 : zJS hh) : 0 ≤ x0 - 1 := by
  grind [zNW, zTP, zJF, zJL, zJD, zJV, zJX, zJW, zJA, zPCB, zNI, zPS, zPX, zOB, zFO, zFX, zNF, zJS, zJE, zJO, zJa, zJb, zJc, zJcz, zJd, zJdt, zJe, zJg]
def sz_u3 : sx_Ru := ([(0, 16), (0, 4)], [[-1, 0, 1]], ([(88, [0, 1], [6], [0, 0, 1])], [(0, [])]), (0, 0, [], [], []), [[-1, 1]], [])
theorem zs_w_dep {hh hh' : sx_H} {x0 x1 : Int} (l0 : 0 ≤ x0) (u0 : x0 ≤ 7) (l1 : -2147483648 ≤ x1) (u1 : x1 ≤ 2147483647) (p0 : zJS hh) (p1 : zNW x0 hh) (a0 : ∀ c : Int, hh' 87 c 6 = hh 87 c 6) (a1 : ∀ c : Int, hh' 87 c 13 = hh 87 c 13) (a2 : ∀ c : Int, hh' 87 c 15 = if c = x0 then x1 else hh 87 c 15) (a3 : ∀ c : Int, hh' 88 c 2 = hh 88 c 2) (a4 : ∀ c : Int, hh' 88 c 3 = hh 88 c 3) (a5 : ∀ c : Int, hh' 88 c 6 = hh 88 c 6) (a6 : ∀ c g : Int, hh' 14 c g = hh 14 c g) : zJS hh' := by
  obtain ⟨pa, pb, pc, pd, pe, pg⟩ := p0
  refine ⟨?_, ?_, ?_, ?_, ?_, ?_⟩
  · intro s i h1 h2 h3 h4
    rw [a5] at h4
    rw [a6, a1, a0]
    exact pa s i h1 h2 h3 h4
  · intro s i j h1 h2 h3 h4 h5
    rw [a5] at h5
    rw [a6, a6]
    exact pb s i j h1 h2 h3 h4 h5
  · intro s i h1 h2 h3 h4
    rw [a5] at h4
    rw [a6, a2]
    split
    · next h =>
      have := p1 s i h1 h2 h3 (by omega) h
      omega
    · exact pc s i h1 h2 h3 h4
  · intro s h1 h2 h3
    rw [a3] at h3
    rw [a4, a0]
    exact pd s h1 h2 h3
  · intro s h1 h2 h3
    rw [a5] at h3
    rw [a3]
    exact pe s h1 h2 h3
  · exact ⟨by rw [a5]; exact pg.1, by rw [a3]; exact pg.2⟩
def sz_u4 : sx_Ru := ([(0, 7), (-2147483648, 2147483647)], [], ([], [(0, []), (1, [[0, 1]])]), (1, 87, [0, 1], [15], [0, 0, 1]), [], [(0, [])])
theorem zs_jf_ses {hh : sx_H} {x0 x1 : Int} (l0 : 0 ≤ x0) (u0 : x0 ≤ 7) (l1 : -1 ≤ x1) (u1 : x1 ≤ -1) (g0 : hh 87 x0 13 = x1) (p0 : zJS hh) : zJF x0 hh ∧ zNW x0 hh := by
  grind [zNW, zTP, zJF, zJL, zJD, zJV, zJX, zJW, zJA, zPCB, zNI, zPS, zPX, zOB, zFO, zFX, zNF, zJS, zJE, zJO, zJa, zJb, zJc, zJcz, zJd, zJdt, zJe, zJg]
def sz_u5 : sx_Ru := ([(0, 7), (-1, -1)], [], ([(87, [0, 1], [13], [0, 0, 1])], [(0, [])]), (0, 0, [], [], []), [], [(3, [[0, 1]]), (1, [[0, 1]])])
theorem zs_jf_in {hh : sx_H} {x0 x1 : Int} (l0 : 0 ≤ x0) (u0 : x0 ≤ 7) (l1 : 0 ≤ x1) (u1 : x1 ≤ 0) (g0 : hh 87 x0 6 = x1) (p0 : zJS hh) : zJF x0 hh := by
  grind [zNW, zTP, zJF, zJL, zJD, zJV, zJX, zJW, zJA, zPCB, zNI, zPS, zPX, zOB, zFO, zFX, zNF, zJS, zJE, zJO, zJa, zJb, zJc, zJcz, zJd, zJdt, zJe, zJg]
def sz_u6 : sx_Ru := ([(0, 7), (0, 0)], [], ([(87, [0, 1], [6], [0, 0, 1])], [(0, [])]), (0, 0, [], [], []), [], [(3, [[0, 1]])])
theorem zs_w_ses {hh hh' : sx_H} {x0 x1 : Int} (l0 : 0 ≤ x0) (u0 : x0 ≤ 7) (l1 : -2147483648 ≤ x1) (u1 : x1 ≤ 2147483647) (p0 : zJS hh) (p1 : zJF x0 hh) (a0 : ∀ c : Int, hh' 87 c 6 = hh 87 c 6) (a1 : ∀ c : Int, hh' 87 c 13 = if c = x0 then x1 else hh 87 c 13) (a2 : ∀ c : Int, hh' 87 c 15 = hh 87 c 15) (a3 : ∀ c : Int, hh' 88 c 2 = hh 88 c 2) (a4 : ∀ c : Int, hh' 88 c 3 = hh 88 c 3) (a5 : ∀ c : Int, hh' 88 c 6 = hh 88 c 6) (a6 : ∀ c g : Int, hh' 14 c g = hh 14 c g) : zJS hh' := by
  grind [zNW, zTP, zJF, zJL, zJD, zJV, zJX, zJW, zJA, zPCB, zNI, zPS, zPX, zOB, zFO, zFX, zNF, zJS, zJE, zJO, zJa, zJb, zJc, zJcz, zJd, zJdt, zJe, zJg]
def sz_u7 : sx_Ru := ([(0, 7), (-2147483648, 2147483647)], [], ([], [(0, []), (3, [[0, 1]])]), (1, 87, [0, 1], [13], [0, 0, 1]), [], [(0, [])])
theorem zs_w_chain {hh hh' : sx_H} {x0 x1 x2 x3 : Int} (l0 : 0 ≤ x0) (u0 : x0 ≤ 16) (l1 : 0 ≤ x1) (u1 : x1 ≤ 4) (l2 : 0 ≤ x2) (u2 : x2 ≤ 7) (l3 : -2147483648 ≤ x3) (u3 : x3 ≤ 2147483647) (g0 : hh 88 x0 6 = x1) (p0 : zJS hh) (p1 : zJF x2 hh) (a0 : ∀ c : Int, hh' 87 c 6 = hh 87 c 6) (a1 : ∀ c : Int, hh' 87 c 13 = hh 87 c 13) (a2 : ∀ c : Int, hh' 87 c 15 = hh 87 c 15) (a3 : ∀ c : Int, hh' 88 c 2 = hh 88 c 2) (a4 : ∀ c : Int, hh' 88 c 3 = hh 88 c 3) (a5 : ∀ c : Int, hh' 88 c 6 = hh 88 c 6) (a6 : ∀ c g : Int, hh' 14 c g = if c = x0 ∧ g = x1 then x3 else hh 14 c g) : zJS hh' ∧ zJF x2 hh' := by
  obtain ⟨pa, pb, pc, pd, pe, pg⟩ := p0
  have hC : ∀ s i : Int, i < hh 88 s 6 → hh' 14 s i = hh 14 s i := fun s i h => by
    rw [a6]
    refine if_neg (fun q => ?_)
    obtain ⟨e1, e2⟩ := q
    subst e1
    omega
  refine ⟨⟨?_, ?_, ?_, ?_, ?_, ?_⟩, ?_⟩
  · intro s i h1 h2 h3 h4
    rw [a5] at h4
    rw [hC s i h4, a1, a0]
    exact pa s i h1 h2 h3 h4
  · intro s i j h1 h2 h3 h4 h5
    rw [a5] at h5
    rw [hC s i (by omega), hC s j h5]
    exact pb s i j h1 h2 h3 h4 h5
  · intro s i h1 h2 h3 h4
    rw [a5] at h4
    rw [hC s i (by omega), a2]
    exact pc s i h1 h2 h3 h4
  · intro s h1 h2 h3
    rw [a3] at h3
    rw [a4, a0]
    exact pd s h1 h2 h3
  · intro s h1 h2 h3
    rw [a5] at h3
    rw [a3]
    exact pe s h1 h2 h3
  · exact ⟨by rw [a5]; exact pg.1, by rw [a3]; exact pg.2⟩
  · intro s i h1 h2 h3 h4
    rw [a5] at h4
    rw [hC s i h4]
    exact p1 s i h1 h2 h3 h4
def sz_u8 : sx_Ru := ([(0, 16), (0, 4), (0, 7), (-2147483648, 2147483647)], [], ([(88, [0, 1], [6], [0, 0, 1])], [(0, []), (3, [[0, 0, 0, 1]])]), (1, 14, [0, 1], [0, 0, 1], [0, 0, 0, 0, 1]), [], [(0, []), (3, [[0, 0, 0, 1]])])
theorem zs_w_chtp {hh hh' : sx_H} {x0 x1 x2 x3 : Int} (l0 : 0 ≤ x0) (u0 : x0 ≤ 16) (l1 : 0 ≤ x1) (u1 : x1 ≤ 4) (l2 : 0 ≤ x2) (u2 : x2 ≤ 7) (l3 : -2147483648 ≤ x3) (u3 : x3 ≤ 2147483647) (g0 : hh 88 x0 6 = x1) (p0 : zTP x0 x2 hh) (a0 : ∀ c : Int, hh' 88 c 6 = hh 88 c 6) (a1 : ∀ c g : Int, hh' 14 c g = if c = x0 ∧ g = x1 then x3 else hh 14 c g) : zTP x0 x2 hh' := by
  grind [zNW, zTP, zJF, zJL, zJD, zJV, zJX, zJW, zJA, zPCB, zNI, zPS, zPX, zOB, zFO, zFX, zNF, zJS, zJE, zJO, zJa, zJb, zJc, zJcz, zJd, zJdt, zJe, zJg]
def sz_u9 : sx_Ru := ([(0, 16), (0, 4), (0, 7), (-2147483648, 2147483647)], [], ([(88, [0, 1], [6], [0, 0, 1])], [(2, [[0, 1], [0, 0, 0, 1]])]), (1, 14, [0, 1], [0, 0, 1], [0, 0, 0, 0, 1]), [], [(2, [[0, 1], [0, 0, 0, 1]])])
theorem zs_w_run0 {hh hh' : sx_H} {x0 x1 x2 x3 x4 : Int} (l0 : 1 ≤ x0) (u0 : x0 ≤ 16) (l1 : 0 ≤ x1) (u1 : x1 ≤ 7) (l2 : 0 ≤ x2) (u2 : x2 ≤ 0) (l3 : 1 ≤ x3) (u3 : x3 ≤ 1) (l4 : 1 ≤ x4) (u4 : x4 ≤ 1) (g0 : hh 88 x0 6 = x2) (g1 : hh 14 x0 x2 = x1) (g2 : hh 87 x1 13 = x0 - 1) (g3 : hh 87 x1 6 = x3) (g4 : hh 88 x0 2 = x4) (p0 : zJS hh) (p1 : zJF x1 hh) (a0 : ∀ c : Int, hh' 87 c 6 = hh 87 c 6) (a1 : ∀ c : Int, hh' 87 c 13 = hh 87 c 13) (a2 : ∀ c : Int, hh' 87 c 15 = hh 87 c 15) (a3 : ∀ c : Int, hh' 88 c 2 = hh 88 c 2) (a4 : ∀ c : Int, hh' 88 c 3 = hh 88 c 3) (a5 : ∀ c : Int, hh' 88 c 6 = if c = x0 then x2 + 1 else hh 88 c 6) (a6 : ∀ c g : Int, hh' 14 c g = hh 14 c g) : zJS hh' := by
  obtain ⟨pa, pb, pc, pd, pe, pg⟩ := p0
  refine ⟨?_, ?_, ?_, ?_, ?_, ?_⟩
  · intro s i h1 h2 h3 h4
    rw [a5] at h4
    rw [a6, a1, a0]
    split at h4
    · next h =>
      subst h
      obtain rfl : i = x2 := by omega
      rw [g1]
      exact ⟨g2, by omega⟩
    · exact pa s i h1 h2 h3 h4
  · intro s i j h1 h2 h3 h4 h5
    rw [a5] at h5
    rw [a6, a6]
    split at h5
    · omega
    · exact pb s i j h1 h2 h3 h4 h5
  · intro s i h1 h2 h3 h4
    rw [a5] at h4
    rw [a6, a2]
    split at h4
    · omega
    · exact pc s i h1 h2 h3 h4
  · intro s h1 h2 h3
    rw [a3] at h3
    rw [a4, a0]
    exact pd s h1 h2 h3
  · intro s h1 h2 h3
    rw [a5] at h3
    rw [a3]
    split at h3
    · next h =>
      subst h
      omega
    · exact pe s h1 h2 h3
  · exact ⟨by rw [a5, if_neg (by omega)]; exact pg.1, by rw [a3]; exact pg.2⟩
def sz_u10 : sx_Ru := ([(1, 16), (0, 7), (0, 0), (1, 1), (1, 1)], [], ([(88, [0, 1], [6], [0, 0, 0, 1]), (14, [0, 1], [0, 0, 0, 1], [0, 0, 1]), (87, [0, 0, 1], [13], [-1, 1]), (87, [0, 0, 1], [6], [0, 0, 0, 0, 1]), (88, [0, 1], [2], [0, 0, 0, 0, 0, 1])], [(0, []), (3, [[0, 0, 1]])]), (1, 88, [0, 1], [6], [1, 0, 0, 1]), [], [(0, [])])
theorem zs_w_run1 {hh hh' : sx_H} {x0 x1 x2 x3 x4 : Int} (l0 : 1 ≤ x0) (u0 : x0 ≤ 16) (l1 : 0 ≤ x1) (u1 : x1 ≤ 4) (l2 : 0 ≤ x2) (u2 : x2 ≤ 7) (l3 : 0 ≤ x3) (u3 : x3 ≤ 7) (l4 : 1 ≤ x4) (u4 : x4 ≤ 1) (f0 : 0 ≤ x1 - 1) (g0 : hh 88 x0 6 = x1) (g1 : hh 14 x0 x1 = x2) (g2 : hh 87 x2 13 = x0 - 1) (g3 : hh 87 x2 6 = x4) (p0 : zJS hh) (p1 : zJF x2 hh) (p2 : zTP x0 x3 hh) (a0 : ∀ c : Int, hh' 87 c 6 = hh 87 c 6) (a1 : ∀ c : Int, hh' 87 c 13 = hh 87 c 13) (a2 : ∀ c : Int, hh' 87 c 15 = hh 87 c 15) (a3 : ∀ c : Int, hh' 88 c 2 = hh 88 c 2) (a4 : ∀ c : Int, hh' 88 c 3 = hh 88 c 3) (a5 : ∀ c : Int, hh' 88 c 6 = if c = x0 then x1 + 1 else hh 88 c 6) (a6 : ∀ c g : Int, hh' 14 c g = hh 14 c g) : zJE x3 hh' := by
  obtain ⟨pa, pb, pc, pd, pe, pg⟩ := p0
  obtain ⟨t1, t2⟩ := p2
  rw [g0] at t2
  refine ⟨?_, ?_, ?_, ?_, ?_, ?_⟩
  · intro s i h1 h2 h3 h4
    rw [a5] at h4
    rw [a6, a1, a0]
    split at h4
    · next h =>
      subst h
      by_cases hi : i = x1
      · subst hi
        rw [g1]
        exact ⟨g2, by omega⟩
      · exact pa s i h1 h2 h3 (by omega)
    · exact pa s i h1 h2 h3 h4
  · intro s i j h1 h2 h3 h4 h5
    rw [a5] at h5
    rw [a6, a6]
    split at h5
    · next h =>
      subst h
      by_cases hj : j = x1
      · subst hj
        rw [g1]
        exact p1 s i h1 h2 h3 (by omega)
      · exact pb s i j h1 h2 h3 h4 (by omega)
    · exact pb s i j h1 h2 h3 h4 h5
  · intro s i h1 h2 h3 h4 h5
    rw [a5] at h4
    rw [a6] at h5 ⊢
    rw [a2]
    split at h4
    · next h =>
      subst h
      by_cases hi : i = x1 - 1
      · subst hi
        exact absurd t2 h5
      · exact pc s i h1 h2 h3 (by omega)
    · exact pc s i h1 h2 h3 h4
  · intro s h1 h2 h3
    rw [a3] at h3
    rw [a4, a0]
    exact pd s h1 h2 h3
  · intro s h1 h2 h3
    rw [a5] at h3
    rw [a3]
    split at h3
    · next h =>
      subst h
      exact pe s h1 h2 (by omega)
    · exact pe s h1 h2 h3
  · exact ⟨by rw [a5, if_neg (by omega)]; exact pg.1, by rw [a3]; exact pg.2⟩
def sz_u11 : sx_Ru := ([(1, 16), (0, 4), (0, 7), (0, 7), (1, 1)], [[-1, 0, 1]], ([(88, [0, 1], [6], [0, 0, 1]), (14, [0, 1], [0, 0, 1], [0, 0, 0, 1]), (87, [0, 0, 0, 1], [13], [-1, 1]), (87, [0, 0, 0, 1], [6], [0, 0, 0, 0, 0, 1])], [(0, []), (3, [[0, 0, 0, 1]]), (2, [[0, 1], [0, 0, 0, 0, 1]])]), (1, 88, [0, 1], [6], [1, 0, 1]), [], [(6, [[0, 0, 0, 0, 1]])])
theorem zs_je_dep {hh hh' : sx_H} {x0 x1 : Int} (l0 : 0 ≤ x0) (u0 : x0 ≤ 7) (l1 : -2147483648 ≤ x1) (u1 : x1 ≤ 2147483647) (f0 : 0 ≤ -x1 + 62) (p0 : zJE x0 hh) (a0 : ∀ c : Int, hh' 87 c 6 = hh 87 c 6) (a1 : ∀ c : Int, hh' 87 c 13 = hh 87 c 13) (a2 : ∀ c : Int, hh' 87 c 15 = if c = x0 then x1 else hh 87 c 15) (a3 : ∀ c : Int, hh' 88 c 2 = hh 88 c 2) (a4 : ∀ c : Int, hh' 88 c 3 = hh 88 c 3) (a5 : ∀ c : Int, hh' 88 c 6 = hh 88 c 6) (a6 : ∀ c g : Int, hh' 14 c g = hh 14 c g) : zJS hh' := by
  grind [zNW, zTP, zJF, zJL, zJD, zJV, zJX, zJW, zJA, zPCB, zNI, zPS, zPX, zOB, zFO, zFX, zNF, zJS, zJE, zJO, zJa, zJb, zJc, zJcz, zJd, zJdt, zJe, zJg]
def sz_u12 : sx_Ru := ([(0, 7), (-2147483648, 2147483647)], [[62, 0, -1]], ([], [(6, [[0, 1]])]), (1, 87, [0, 1], [15], [0, 0, 1]), [], [(0, [])])
theorem zs_w_leave {hh hh' : sx_H} {x0 x1 : Int} (l0 : 0 ≤ x0) (u0 : x0 ≤ 16) (l1 : 0 ≤ x1) (u1 : x1 ≤ 4) (f0 : 0 ≤ x1 - 1) (g0 : hh 88 x0 6 = x1) (p0 : zJS hh) (a0 : ∀ c : Int, hh' 87 c 6 = hh 87 c 6) (a1 : ∀ c : Int, hh' 87 c 13 = hh 87 c 13) (a2 : ∀ c : Int, hh' 87 c 15 = hh 87 c 15) (a3 : ∀ c : Int, hh' 88 c 2 = hh 88 c 2) (a4 : ∀ c : Int, hh' 88 c 3 = hh 88 c 3) (a5 : ∀ c : Int, hh' 88 c 6 = if c = x0 then x1 - 1 else hh 88 c 6) (a6 : ∀ c g : Int, hh' 14 c g = hh 14 c g) : zJS hh' ∧ zJL x0 (x1 - 1) hh' ∧ zJD x0 hh' := by
  obtain ⟨pa, pb, pc, pd, pe, pg⟩ := p0
  refine ⟨⟨?_, ?_, ?_, ?_, ?_, ?_⟩, ?_, ?_⟩
  · intro s i h1 h2 h3 h4
    rw [a5] at h4
    rw [a6, a1, a0]
    split at h4
    · next h =>
      subst h
      exact pa s i h1 h2 h3 (by omega)
    · exact pa s i h1 h2 h3 h4
  · intro s i j h1 h2 h3 h4 h5
    rw [a5] at h5
    rw [a6, a6]
    split at h5
    · next h =>
      subst h
      exact pb s i j h1 h2 h3 h4 (by omega)
    · exact pb s i j h1 h2 h3 h4 h5
  · intro s i h1 h2 h3 h4
    rw [a5] at h4
    rw [a6, a2]
    split at h4
    · next h =>
      subst h
      exact pc s i h1 h2 h3 (by omega)
    · exact pc s i h1 h2 h3 h4
  · intro s h1 h2 h3
    rw [a3] at h3
    rw [a4, a0]
    exact pd s h1 h2 h3
  · intro s h1 h2 h3
    rw [a5] at h3
    rw [a3]
    split at h3
    · next h =>
      subst h
      exact pe s h1 h2 (by omega)
    · exact pe s h1 h2 h3
  · refine ⟨?_, by rw [a3]; exact pg.2⟩
    rw [a5]
    split
    · next h =>
      rw [← h] at g0
      have := pg.1
      omega
    · exact pg.1
  · intro s i h1 h2 h3 h4 h5
    rw [a5] at h4
    rw [a6, a6] at h5
    split at h4
    · next h =>
      subst h
      exact pb s i (x1 - 1) h1 h2 h3 (by omega) (by omega) h5
    · next h =>
      have e1 := (pa s i h1 h2 h3 h4).1
      have e2 := (pa x0 (x1 - 1) l0 u0 (by omega) (by omega)).1
      rw [h5, e2] at e1
      omega
  · intro h
    rw [a5, if_pos rfl] at h
    rw [a5, if_pos rfl, a6, a2]
    exact pc x0 (x1 - 1 - 1) l0 u0 (by omega) (by omega)
def sz_u13 : sx_Ru := ([(0, 16), (0, 4)], [[-1, 0, 1]], ([(88, [0, 1], [6], [0, 0, 1])], [(0, [])]), (1, 88, [0, 1], [6], [-1, 0, 1]), [], [(0, []), (4, [[0, 1], [-1, 0, 1]]), (5, [[0, 1]])])
theorem zs_jl_jf {hh : sx_H} {x0 x1 x2 : Int} (l0 : 0 ≤ x0) (u0 : x0 ≤ 16) (l1 : 0 ≤ x1) (u1 : x1 ≤ 4) (l2 : 0 ≤ x2) (u2 : x2 ≤ 7) (g0 : hh 14 x0 x1 = x2) (p0 : zJL x0 x1 hh) : zJF x2 hh := by
  grind [zNW, zTP, zJF, zJL, zJD, zJV, zJX, zJW, zJA, zPCB, zNI, zPS, zPX, zOB, zFO, zFX, zNF, zJS, zJE, zJO, zJa, zJb, zJc, zJcz, zJd, zJdt, zJe, zJg]
def sz_u14 : sx_Ru := ([(0, 16), (0, 4), (0, 7)], [], ([(14, [0, 1], [0, 0, 1], [0, 0, 0, 1])], [(4, [[0, 1], [0, 0, 1]])]), (0, 0, [], [], []), [], [(3, [[0, 0, 0, 1]])])
theorem zs_jd_use {hh : sx_H} {x0 x1 x2 x3 : Int} (l0 : 0 ≤ x0) (u0 : x0 ≤ 16) (l1 : 0 ≤ x1) (u1 : x1 ≤ 4) (l2 : 0 ≤ x2) (u2 : x2 ≤ 7) (l3 : 0 ≤ x3) (u3 : x3 ≤ 64) (f0 : 0 ≤ x1 - 1) (g0 : hh 88 x0 6 = x1) (g1 : hh 14 x0 (x1 - 1) = x2) (g2 : hh 87 x2 15 = x3) (p0 : zJD x0 hh) : 0 ≤ -x3 + 62 := by
  grind [zNW, zTP, zJF, zJL, zJD, zJV, zJX, zJW, zJA, zPCB, zNI, zPS, zPX, zOB, zFO, zFX, zNF, zJS, zJE, zJO, zJa, zJb, zJc, zJcz, zJd, zJdt, zJe, zJg]
def sz_u15 : sx_Ru := ([(0, 16), (0, 4), (0, 7), (0, 64)], [[-1, 0, 1]], ([(88, [0, 1], [6], [0, 0, 1]), (14, [0, 1], [-1, 0, 1], [0, 0, 0, 1]), (87, [0, 0, 0, 1], [15], [0, 0, 0, 0, 1])], [(5, [[0, 1]])]), (0, 0, [], [], []), [[62, 0, 0, 0, -1]], [])
theorem zs_w_open0 {hh hh' : sx_H} {x0 x1 : Int} (l0 : 0 ≤ x0) (u0 : x0 ≤ 16) (l1 : 0 ≤ x1) (u1 : x1 ≤ 0) (g0 : hh 88 x0 6 = x1) (p0 : zJS hh) (a0 : ∀ c : Int, hh' 87 c 6 = hh 87 c 6) (a1 : ∀ c : Int, hh' 87 c 13 = hh 87 c 13) (a2 : ∀ c : Int, hh' 87 c 15 = hh 87 c 15) (a3 : ∀ c : Int, hh' 88 c 2 = if c = x0 then 0 else hh 88 c 2) (a4 : ∀ c : Int, hh' 88 c 3 = hh 88 c 3) (a5 : ∀ c : Int, hh' 88 c 6 = hh 88 c 6) (a6 : ∀ c g : Int, hh' 14 c g = hh 14 c g) : zJS hh' := by
  grind [zNW, zTP, zJF, zJL, zJD, zJV, zJX, zJW, zJA, zPCB, zNI, zPS, zPX, zOB, zFO, zFX, zNF, zJS, zJE, zJO, zJa, zJb, zJc, zJcz, zJd, zJdt, zJe, zJg]
def sz_u16 : sx_Ru := ([(0, 16), (0, 0)], [], ([(88, [0, 1], [6], [0, 0, 1])], [(0, [])]), (1, 88, [0, 1], [2], []), [], [(0, [])])
theorem zs_w_open1 {hh hh' : sx_H} {x0 : Int} (l0 : 1 ≤ x0) (u0 : x0 ≤ 16) (p0 : zJS hh) (a0 : ∀ c : Int, hh' 87 c 6 = hh 87 c 6) (a1 : ∀ c : Int, hh' 87 c 13 = hh 87 c 13) (a2 : ∀ c : Int, hh' 87 c 15 = hh 87 c 15) (a3 : ∀ c : Int, hh' 88 c 2 = if c = x0 then 1 else hh 88 c 2) (a4 : ∀ c : Int, hh' 88 c 3 = hh 88 c 3) (a5 : ∀ c : Int, hh' 88 c 6 = hh 88 c 6) (a6 : ∀ c g : Int, hh' 14 c g = hh 14 c g) : zJO x0 hh' := by
  grind [zNW, zTP, zJF, zJL, zJD, zJV, zJX, zJW, zJA, zPCB, zNI, zPS, zPX, zOB, zFO, zFX, zNF, zJS, zJE, zJO, zJa, zJb, zJc, zJcz, zJd, zJdt, zJe, zJg]
def sz_u17 : sx_Ru := ([(1, 16)], [], ([], [(0, [])]), (1, 88, [0, 1], [2], [1]), [], [(7, [[0, 1]])])
theorem zs_w_owner {hh hh' : sx_H} {x0 x1 x2 : Int} (l0 : 1 ≤ x0) (u0 : x0 ≤ 16) (l1 : 0 ≤ x1) (u1 : x1 ≤ 7) (l2 : 1 ≤ x2) (u2 : x2 ≤ 1) (g0 : hh 87 x1 6 = x2) (p0 : zJO x0 hh) (a0 : ∀ c : Int, hh' 87 c 6 = hh 87 c 6) (a1 : ∀ c : Int, hh' 87 c 13 = hh 87 c 13) (a2 : ∀ c : Int, hh' 87 c 15 = hh 87 c 15) (a3 : ∀ c : Int, hh' 88 c 2 = hh 88 c 2) (a4 : ∀ c : Int, hh' 88 c 3 = if c = x0 then x1 else hh 88 c 3) (a5 : ∀ c : Int, hh' 88 c 6 = hh 88 c 6) (a6 : ∀ c g : Int, hh' 14 c g = hh 14 c g) : zJS hh' := by
  grind [zNW, zTP, zJF, zJL, zJD, zJV, zJX, zJW, zJA, zPCB, zNI, zPS, zPX, zOB, zFO, zFX, zNF, zJS, zJE, zJO, zJa, zJb, zJc, zJcz, zJd, zJdt, zJe, zJg]
def sz_u18 : sx_Ru := ([(1, 16), (0, 7), (1, 1)], [], ([(87, [0, 0, 1], [6], [0, 0, 0, 1])], [(7, [[0, 1]])]), (1, 88, [0, 1], [3], [0, 0, 1]), [], [(0, [])])
theorem zs_w_in1 {hh hh' : sx_H} {x0 : Int} (l0 : 0 ≤ x0) (u0 : x0 ≤ 7) (p0 : zJS hh) (a0 : ∀ c : Int, hh' 87 c 6 = if c = x0 then 1 else hh 87 c 6) (a1 : ∀ c : Int, hh' 87 c 13 = hh 87 c 13) (a2 : ∀ c : Int, hh' 87 c 15 = hh 87 c 15) (a3 : ∀ c : Int, hh' 88 c 2 = hh 88 c 2) (a4 : ∀ c : Int, hh' 88 c 3 = hh 88 c 3) (a5 : ∀ c : Int, hh' 88 c 6 = hh 88 c 6) (a6 : ∀ c g : Int, hh' 14 c g = hh 14 c g) : zJS hh' := by
  grind [zNW, zTP, zJF, zJL, zJD, zJV, zJX, zJW, zJA, zPCB, zNI, zPS, zPX, zOB, zFO, zFX, zNF, zJS, zJE, zJO, zJa, zJb, zJc, zJcz, zJd, zJdt, zJe, zJg]
def sz_u19 : sx_Ru := ([(0, 7)], [], ([], [(0, [])]), (1, 87, [0, 1], [6], [1]), [], [(0, [])])
theorem zs_w_in0 {hh hh' : sx_H} {x0 x1 : Int} (l0 : 0 ≤ x0) (u0 : x0 ≤ 7) (l1 : 16 ≤ x1) (u1 : x1 ≤ 16) (p0 : zJS hh) (p1 : zJF x0 hh) (p2 : zJV x0 x1 hh) (a0 : ∀ c : Int, hh' 87 c 6 = if c = x0 then 0 else hh 87 c 6) (a1 : ∀ c : Int, hh' 87 c 13 = hh 87 c 13) (a2 : ∀ c : Int, hh' 87 c 15 = hh 87 c 15) (a3 : ∀ c : Int, hh' 88 c 2 = hh 88 c 2) (a4 : ∀ c : Int, hh' 88 c 3 = hh 88 c 3) (a5 : ∀ c : Int, hh' 88 c 6 = hh 88 c 6) (a6 : ∀ c g : Int, hh' 14 c g = hh 14 c g) : zJS hh' := by
  grind [zNW, zTP, zJF, zJL, zJD, zJV, zJX, zJW, zJA, zPCB, zNI, zPS, zPX, zOB, zFO, zFX, zNF, zJS, zJE, zJO, zJa, zJb, zJc, zJcz, zJd, zJdt, zJe, zJg]
def sz_u20 : sx_Ru := ([(0, 7), (16, 16)], [], ([], [(0, []), (3, [[0, 1]]), (8, [[0, 1], [0, 0, 1]])]), (1, 87, [0, 1], [6], []), [], [(0, [])])
theorem zs_w_in0w {hh hh' : sx_H} {x0 x1 : Int} (l0 : 0 ≤ x0) (u0 : x0 ≤ 7) (l1 : 16 ≤ x1) (u1 : x1 ≤ 16) (p0 : zJS hh) (p1 : zJW x1 hh) (a0 : ∀ c : Int, hh' 87 c 6 = if c = x0 then 0 else hh 87 c 6) (a1 : ∀ c : Int, hh' 87 c 13 = hh 87 c 13) (a2 : ∀ c : Int, hh' 87 c 15 = hh 87 c 15) (a3 : ∀ c : Int, hh' 88 c 2 = hh 88 c 2) (a4 : ∀ c : Int, hh' 88 c 3 = hh 88 c 3) (a5 : ∀ c : Int, hh' 88 c 6 = hh 88 c 6) (a6 : ∀ c g : Int, hh' 14 c g = hh 14 c g) : zJS hh' := by
  grind [zNW, zTP, zJF, zJL, zJD, zJV, zJX, zJW, zJA, zPCB, zNI, zPS, zPX, zOB, zFO, zFX, zNF, zJS, zJE, zJO, zJa, zJb, zJc, zJcz, zJd, zJdt, zJe, zJg]
def sz_u21 : sx_Ru := ([(0, 7), (16, 16)], [], ([], [(0, []), (10, [[0, 0, 1]])]), (1, 87, [0, 1], [6], []), [], [(0, [])])
theorem zs_jx0 {hh : sx_H} {x0 x1 : Int} (l0 : 0 ≤ x0) (u0 : x0 ≤ 7) (l1 : -1 ≤ x1) (u1 : x1 ≤ -1) (g0 : hh 87 x0 13 = x1) : zJX x0 hh := by
  grind [zNW, zTP, zJF, zJL, zJD, zJV, zJX, zJW, zJA, zPCB, zNI, zPS, zPX, zOB, zFO, zFX, zNF, zJS, zJE, zJO, zJa, zJb, zJc, zJcz, zJd, zJdt, zJe, zJg]
def sz_u22 : sx_Ru := ([(0, 7), (-1, -1)], [], ([(87, [0, 1], [13], [0, 0, 1])], []), (0, 0, [], [], []), [], [(9, [[0, 1]])])
theorem zs_jx1 {hh : sx_H} {x0 x1 x2 : Int} (l0 : 0 ≤ x0) (u0 : x0 ≤ 7) (l1 : -1 ≤ x1) (u1 : x1 ≤ 15) (l2 : 0 ≤ x2) (u2 : x2 ≤ 7) (f0 : 0 ≤ x0 - x2) (f1 : 0 ≤ -x0 + x2) (g0 : hh 87 x0 13 = x1) (g1 : hh 88 (x1 + 1) 3 = x2) : zJX x0 hh := by
  grind [zNW, zTP, zJF, zJL, zJD, zJV, zJX, zJW, zJA, zPCB, zNI, zPS, zPX, zOB, zFO, zFX, zNF, zJS, zJE, zJO, zJa, zJb, zJc, zJcz, zJd, zJdt, zJe, zJg]
def sz_u23 : sx_Ru := ([(0, 7), (-1, 15), (0, 7)], [[0, 1, 0, -1], [0, -1, 0, 1]], ([(87, [0, 1], [13], [0, 0, 1]), (88, [1, 0, 1], [3], [0, 0, 0, 1])], []), (0, 0, [], [], []), [], [(9, [[0, 1]])])
theorem zs_jx_w {hh hh' : sx_H} {x0 x1 : Int} (l0 : 0 ≤ x0) (u0 : x0 ≤ 7) (l1 : 0 ≤ x1) (u1 : x1 ≤ 7) (p0 : zJX x0 hh) (a0 : ∀ c : Int, hh' 87 c 13 = if c = x1 then -1 else hh 87 c 13) (a1 : ∀ c : Int, hh' 88 c 3 = hh 88 c 3) : zJX x0 hh' := by
  grind [zNW, zTP, zJF, zJL, zJD, zJV, zJX, zJW, zJA, zPCB, zNI, zPS, zPX, zOB, zFO, zFX, zNF, zJS, zJE, zJO, zJa, zJb, zJc, zJcz, zJd, zJdt, zJe, zJg]
def sz_u24 : sx_Ru := ([(0, 7), (0, 7)], [], ([], [(9, [[0, 1]])]), (1, 87, [0, 0, 1], [13], [-1]), [], [(9, [[0, 1]])])
theorem zs_jv0 {hh : sx_H} {x0 : Int} (l0 : 0 ≤ x0) (u0 : x0 ≤ 7) (p0 : zJS hh) : zJV x0 0 hh := by
  grind [zNW, zTP, zJF, zJL, zJD, zJV, zJX, zJW, zJA, zPCB, zNI, zPS, zPX, zOB, zFO, zFX, zNF, zJS, zJE, zJO, zJa, zJb, zJc, zJcz, zJd, zJdt, zJe, zJg]
def sz_u25 : sx_Ru := ([(0, 7)], [], ([], [(0, [])]), (0, 0, [], [], []), [], [(8, [[0, 1], []])])
theorem zs_jv_w {hh hh' : sx_H} {x0 x1 x2 : Int} (l0 : 0 ≤ x0) (u0 : x0 ≤ 7) (l1 : 0 ≤ x1) (u1 : x1 ≤ 16) (l2 : 0 ≤ x2) (u2 : x2 ≤ 16) (p0 : zJV x0 x1 hh) (a0 : ∀ c : Int, hh' 88 c 2 = if c = x2 then 0 else hh 88 c 2) (a1 : ∀ c : Int, hh' 88 c 3 = hh 88 c 3) : zJV x0 x1 hh' := by
  grind [zNW, zTP, zJF, zJL, zJD, zJV, zJX, zJW, zJA, zPCB, zNI, zPS, zPX, zOB, zFO, zFX, zNF, zJS, zJE, zJO, zJa, zJb, zJc, zJcz, zJd, zJdt, zJe, zJg]
def sz_u26 : sx_Ru := ([(0, 7), (0, 16), (0, 16)], [], ([], [(8, [[0, 1], [0, 0, 1]])]), (1, 88, [0, 0, 0, 1], [2], []), [], [(8, [[0, 1], [0, 0, 1]])])
theorem zs_jv_n0 {hh : sx_H} {x0 x1 x2 : Int} (l0 : 0 ≤ x0) (u0 : x0 ≤ 7) (l1 : 0 ≤ x1) (u1 : x1 ≤ 16) (l2 : 0 ≤ x2) (u2 : x2 ≤ 0) (g0 : hh 88 (x1 + 1) 2 = x2) (p0 : zJV x0 x1 hh) : zJV x0 (x1 + 1) hh := by
  grind [zNW, zTP, zJF, zJL, zJD, zJV, zJX, zJW, zJA, zPCB, zNI, zPS, zPX, zOB, zFO, zFX, zNF, zJS, zJE, zJO, zJa, zJb, zJc, zJcz, zJd, zJdt, zJe, zJg]
def sz_u27 : sx_Ru := ([(0, 7), (0, 16), (0, 0)], [], ([(88, [1, 0, 1], [2], [0, 0, 0, 1])], [(8, [[0, 1], [0, 0, 1]])]), (0, 0, [], [], []), [], [(8, [[0, 1], [1, 0, 1]])])
theorem zs_jv_n1 {hh : sx_H} {x0 x1 x2 : Int} (l0 : 0 ≤ x0) (u0 : x0 ≤ 7) (l1 : 0 ≤ x1) (u1 : x1 ≤ 16) (l2 : 0 ≤ x2) (u2 : x2 ≤ 7) (f0 : 0 ≤ x0 - x2 - 1) (g0 : hh 88 (x1 + 1) 3 = x2) (p0 : zJV x0 x1 hh) : zJV x0 (x1 + 1) hh := by
  grind [zNW, zTP, zJF, zJL, zJD, zJV, zJX, zJW, zJA, zPCB, zNI, zPS, zPX, zOB, zFO, zFX, zNF, zJS, zJE, zJO, zJa, zJb, zJc, zJcz, zJd, zJdt, zJe, zJg]
def sz_u28 : sx_Ru := ([(0, 7), (0, 16), (0, 7)], [[-1, 1, 0, -1]], ([(88, [1, 0, 1], [3], [0, 0, 0, 1])], [(8, [[0, 1], [0, 0, 1]])]), (0, 0, [], [], []), [], [(8, [[0, 1], [1, 0, 1]])])
theorem zs_jv_n2 {hh : sx_H} {x0 x1 x2 : Int} (l0 : 0 ≤ x0) (u0 : x0 ≤ 7) (l1 : 0 ≤ x1) (u1 : x1 ≤ 16) (l2 : 0 ≤ x2) (u2 : x2 ≤ 7) (f0 : 0 ≤ -x0 + x2 - 1) (g0 : hh 88 (x1 + 1) 3 = x2) (p0 : zJV x0 x1 hh) : zJV x0 (x1 + 1) hh := by
  grind [zNW, zTP, zJF, zJL, zJD, zJV, zJX, zJW, zJA, zPCB, zNI, zPS, zPX, zOB, zFO, zFX, zNF, zJS, zJE, zJO, zJa, zJb, zJc, zJcz, zJd, zJdt, zJe, zJg]
def sz_u29 : sx_Ru := ([(0, 7), (0, 16), (0, 7)], [[-1, -1, 0, 1]], ([(88, [1, 0, 1], [3], [0, 0, 0, 1])], [(8, [[0, 1], [0, 0, 1]])]), (0, 0, [], [], []), [], [(8, [[0, 1], [1, 0, 1]])])
theorem zs_jf_v {hh : sx_H} {x0 x1 : Int} (l0 : 0 ≤ x0) (u0 : x0 ≤ 7) (l1 : 16 ≤ x1) (u1 : x1 ≤ 16) (p0 : zJS hh) (p1 : zJV x0 x1 hh) (p2 : zJX x0 hh) : zJF x0 hh := by
  grind [zNW, zTP, zJF, zJL, zJD, zJV, zJX, zJW, zJA, zPCB, zNI, zPS, zPX, zOB, zFO, zFX, zNF, zJS, zJE, zJO, zJa, zJb, zJc, zJcz, zJd, zJdt, zJe, zJg]
def sz_u30 : sx_Ru := ([(0, 7), (16, 16)], [], ([], [(0, []), (8, [[0, 1], [0, 0, 1]]), (9, [[0, 1]])]), (0, 0, [], [], []), [], [(3, [[0, 1]])])
theorem zs_jw0 {hh : sx_H} (p0 : zJS hh) : zJW 0 hh := by
  grind [zNW, zTP, zJF, zJL, zJD, zJV, zJX, zJW, zJA, zPCB, zNI, zPS, zPX, zOB, zFO, zFX, zNF, zJS, zJE, zJO, zJa, zJb, zJc, zJcz, zJd, zJdt, zJe, zJg]
def sz_u31 : sx_Ru := ([], [], ([], [(0, [])]), (0, 0, [], [], []), [], [(10, [[]])])
theorem zs_jw_w {hh hh' : sx_H} {x0 x1 : Int} (l0 : 0 ≤ x0) (u0 : x0 ≤ 16) (l1 : 0 ≤ x1) (u1 : x1 ≤ 16) (p0 : zJW x0 hh) (a0 : ∀ c : Int, hh' 88 c 2 = if c = x1 then 0 else hh 88 c 2) : zJW x0 hh' := by
  grind [zNW, zTP, zJF, zJL, zJD, zJV, zJX, zJW, zJA, zPCB, zNI, zPS, zPX, zOB, zFO, zFX, zNF, zJS, zJE, zJO, zJa, zJb, zJc, zJcz, zJd, zJdt, zJe, zJg]
def sz_u32 : sx_Ru := ([(0, 16), (0, 16)], [], ([], [(10, [[0, 1]])]), (1, 88, [0, 0, 1], [2], []), [], [(10, [[0, 1]])])
theorem zs_jw_n {hh : sx_H} {x0 x1 : Int} (l0 : 0 ≤ x0) (u0 : x0 ≤ 16) (l1 : 0 ≤ x1) (u1 : x1 ≤ 0) (g0 : hh 88 (x0 + 1) 2 = x1) (p0 : zJW x0 hh) : zJW (x0 + 1) hh := by
  grind [zNW, zTP, zJF, zJL, zJD, zJV, zJX, zJW, zJA, zPCB, zNI, zPS, zPX, zOB, zFO, zFX, zNF, zJS, zJE, zJO, zJa, zJb, zJc, zJcz, zJd, zJdt, zJe, zJg]
def sz_u33 : sx_Ru := ([(0, 16), (0, 0)], [], ([(88, [1, 1], [2], [0, 0, 1])], [(10, [[0, 1]])]), (0, 0, [], [], []), [], [(10, [[1, 1]])])
theorem zs_own {hh : sx_H} {x0 x1 x2 x3 : Int} (l0 : 0 ≤ x0) (u0 : x0 ≤ 16) (l1 : 0 ≤ x1) (u1 : x1 ≤ 7) (l2 : 0 ≤ x2) (u2 : x2 ≤ 1) (l3 : 1 ≤ x3) (u3 : x3 ≤ 1) (g0 : hh 88 x0 2 = x3) (g1 : hh 88 x0 3 = x1) (g2 : hh 87 x1 6 = x2) (p0 : zJS hh) : 0 ≤ x2 - 1 := by
  grind [zNW, zTP, zJF, zJL, zJD, zJV, zJX, zJW, zJA, zPCB, zNI, zPS, zPX, zOB, zFO, zFX, zNF, zJS, zJE, zJO, zJa, zJb, zJc, zJcz, zJd, zJdt, zJe, zJg]
def sz_u34 : sx_Ru := ([(0, 16), (0, 7), (0, 1), (1, 1)], [], ([(88, [0, 1], [2], [0, 0, 0, 0, 1]), (88, [0, 1], [3], [0, 0, 1]), (87, [0, 0, 1], [6], [0, 0, 0, 1])], [(0, [])]), (0, 0, [], [], []), [[-1, 0, 0, 1]], [])
theorem zs_ja_in1 {hh hh' : sx_H} {x0 x1 x2 : Int} (l0 : 0 ≤ x0) (u0 : x0 ≤ 7) (l1 : 0 ≤ x1) (u1 : x1 ≤ 255) (l2 : 0 ≤ x2) (u2 : x2 ≤ 255) (f0 : 0 ≤ -x1 + 8) (f1 : 0 ≤ -x2 + 8) (g0 : hh 87 x0 8 = x1) (g1 : hh 87 x0 12 = x2) (p0 : zJA hh) (a0 : ∀ c : Int, hh' 87 c 6 = if c = x0 then 1 else hh 87 c 6) (a1 : ∀ c : Int, hh' 87 c 8 = hh 87 c 8) (a2 : ∀ c : Int, hh' 87 c 12 = hh 87 c 12) : zJA hh' := by
  grind [zNW, zTP, zJF, zJL, zJD, zJV, zJX, zJW, zJA, zPCB, zNI, zPS, zPX, zOB, zFO, zFX, zNF, zJS, zJE, zJO, zJa, zJb, zJc, zJcz, zJd, zJdt, zJe, zJg]
def sz_u35 : sx_Ru := ([(0, 7), (0, 255), (0, 255)], [[8, 0, -1], [8, 0, 0, -1]], ([(87, [0, 1], [8], [0, 0, 1]), (87, [0, 1], [12], [0, 0, 0, 1])], [(11, [])]), (1, 87, [0, 1], [6], [1]), [], [(11, [])])
theorem zs_ja_in0 {hh hh' : sx_H} {x0 : Int} (l0 : 0 ≤ x0) (u0 : x0 ≤ 7) (p0 : zJA hh) (a0 : ∀ c : Int, hh' 87 c 6 = if c = x0 then 0 else hh 87 c 6) (a1 : ∀ c : Int, hh' 87 c 8 = hh 87 c 8) (a2 : ∀ c : Int, hh' 87 c 12 = hh 87 c 12) : zJA hh' := by
  grind [zNW, zTP, zJF, zJL, zJD, zJV, zJX, zJW, zJA, zPCB, zNI, zPS, zPX, zOB, zFO, zFX, zNF, zJS, zJE, zJO, zJa, zJb, zJc, zJcz, zJd, zJdt, zJe, zJg]
def sz_u36 : sx_Ru := ([(0, 7)], [], ([], [(11, [])]), (1, 87, [0, 1], [6], []), [], [(11, [])])
theorem zs_ja_pc {hh hh' : sx_H} {x0 x1 x2 : Int} (l0 : 0 ≤ x0) (u0 : x0 ≤ 7) (l1 : -2147483648 ≤ x1) (u1 : x1 ≤ 2147483647) (l2 : 0 ≤ x2) (u2 : x2 ≤ 0) (g0 : hh 87 x0 6 = x2) (p0 : zJA hh) (a0 : ∀ c : Int, hh' 87 c 6 = hh 87 c 6) (a1 : ∀ c : Int, hh' 87 c 8 = if c = x0 then x1 else hh 87 c 8) (a2 : ∀ c : Int, hh' 87 c 12 = hh 87 c 12) : zJA hh' := by
  grind [zNW, zTP, zJF, zJL, zJD, zJV, zJX, zJW, zJA, zPCB, zNI, zPS, zPX, zOB, zFO, zFX, zNF, zJS, zJE, zJO, zJa, zJb, zJc, zJcz, zJd, zJdt, zJe, zJg]
def sz_u37 : sx_Ru := ([(0, 7), (-2147483648, 2147483647), (0, 0)], [], ([(87, [0, 1], [6], [0, 0, 0, 1])], [(11, [])]), (1, 87, [0, 1], [8], [0, 0, 1]), [], [(11, [])])
theorem zs_ja_cm {hh hh' : sx_H} {x0 x1 x2 : Int} (l0 : 0 ≤ x0) (u0 : x0 ≤ 7) (l1 : -2147483648 ≤ x1) (u1 : x1 ≤ 2147483647) (l2 : 0 ≤ x2) (u2 : x2 ≤ 0) (g0 : hh 87 x0 6 = x2) (p0 : zJA hh) (a0 : ∀ c : Int, hh' 87 c 6 = hh 87 c 6) (a1 : ∀ c : Int, hh' 87 c 8 = hh 87 c 8) (a2 : ∀ c : Int, hh' 87 c 12 = if c = x0 then x1 else hh 87 c 12) : zJA hh' := by
  grind [zNW, zTP, zJF, zJL, zJD, zJV, zJX, zJW, zJA, zPCB, zNI, zPS, zPX, zOB, zFO, zFX, zNF, zJS, zJE, zJO, zJa, zJb, zJc, zJcz, zJd, zJdt, zJe, zJg]
def sz_u38 : sx_Ru := ([(0, 7), (-2147483648, 2147483647), (0, 0)], [], ([(87, [0, 1], [6], [0, 0, 0, 1])], [(11, [])]), (1, 87, [0, 1], [12], [0, 0, 1]), [], [(11, [])])
theorem zs_ja_pc8 {hh hh' : sx_H} {x0 x1 : Int} (l0 : 0 ≤ x0) (u0 : x0 ≤ 7) (l1 : -2147483648 ≤ x1) (u1 : x1 ≤ 2147483647) (f0 : 0 ≤ -x1 + 8) (p0 : zJA hh) (a0 : ∀ c : Int, hh' 87 c 6 = hh 87 c 6) (a1 : ∀ c : Int, hh' 87 c 8 = if c = x0 then x1 else hh 87 c 8) (a2 : ∀ c : Int, hh' 87 c 12 = hh 87 c 12) : zJA hh' := by
  grind [zNW, zTP, zJF, zJL, zJD, zJV, zJX, zJW, zJA, zPCB, zNI, zPS, zPX, zOB, zFO, zFX, zNF, zJS, zJE, zJO, zJa, zJb, zJc, zJcz, zJd, zJdt, zJe, zJg]
def sz_u39 : sx_Ru := ([(0, 7), (-2147483648, 2147483647)], [[8, 0, -1]], ([], [(11, [])]), (1, 87, [0, 1], [8], [0, 0, 1]), [], [(11, [])])
theorem zs_pcb_w {hh hh' : sx_H} {x0 x1 : Int} (l0 : 0 ≤ x0) (u0 : x0 ≤ 7) (l1 : -2147483648 ≤ x1) (u1 : x1 ≤ 2147483647) (f0 : 0 ≤ -x1 + 8) (p0 : zPCB x0 hh) (a0 : ∀ c : Int, hh' 87 c 8 = if c = x0 then x1 else hh 87 c 8) : zPCB x0 hh' := by
  grind [zNW, zTP, zJF, zJL, zJD, zJV, zJX, zJW, zJA, zPCB, zNI, zPS, zPX, zOB, zFO, zFX, zNF, zJS, zJE, zJO, zJa, zJb, zJc, zJcz, zJd, zJdt, zJe, zJg]
def sz_u40 : sx_Ru := ([(0, 7), (-2147483648, 2147483647)], [[8, 0, -1]], ([], [(12, [[0, 1]])]), (1, 87, [0, 1], [8], [0, 0, 1]), [], [(12, [[0, 1]])])
theorem zs_ja_upc {hh : sx_H} {x0 x1 x2 : Int} (l0 : 0 ≤ x0) (u0 : x0 ≤ 7) (l1 : 0 ≤ x1) (u1 : x1 ≤ 255) (l2 : 1 ≤ x2) (u2 : x2 ≤ 1) (g0 : hh 87 x0 6 = x2) (g1 : hh 87 x0 8 = x1) (p0 : zJA hh) : 0 ≤ -x1 + 8 := by
  grind [zNW, zTP, zJF, zJL, zJD, zJV, zJX, zJW, zJA, zPCB, zNI, zPS, zPX, zOB, zFO, zFX, zNF, zJS, zJE, zJO, zJa, zJb, zJc, zJcz, zJd, zJdt, zJe, zJg]
def sz_u41 : sx_Ru := ([(0, 7), (0, 255), (1, 1)], [], ([(87, [0, 1], [6], [0, 0, 0, 1]), (87, [0, 1], [8], [0, 0, 1])], [(11, [])]), (0, 0, [], [], []), [[8, 0, -1]], [])
theorem zs_ja_ucm {hh : sx_H} {x0 x1 x2 : Int} (l0 : 0 ≤ x0) (u0 : x0 ≤ 7) (l1 : 0 ≤ x1) (u1 : x1 ≤ 255) (l2 : 1 ≤ x2) (u2 : x2 ≤ 1) (g0 : hh 87 x0 6 = x2) (g1 : hh 87 x0 12 = x1) (p0 : zJA hh) : 0 ≤ -x1 + 8 := by
  grind [zNW, zTP, zJF, zJL, zJD, zJV, zJX, zJW, zJA, zPCB, zNI, zPS, zPX, zOB, zFO, zFX, zNF, zJS, zJE, zJO, zJa, zJb, zJc, zJcz, zJd, zJdt, zJe, zJg]
def sz_u42 : sx_Ru := ([(0, 7), (0, 255), (1, 1)], [], ([(87, [0, 1], [6], [0, 0, 0, 1]), (87, [0, 1], [12], [0, 0, 1])], [(11, [])]), (0, 0, [], [], []), [[8, 0, -1]], [])
theorem zs_pcb_use {hh : sx_H} {x0 x1 : Int} (l0 : 0 ≤ x0) (u0 : x0 ≤ 7) (l1 : 0 ≤ x1) (u1 : x1 ≤ 255) (g0 : hh 87 x0 8 = x1) (p0 : zPCB x0 hh) : 0 ≤ -x1 + 8 := by
  grind [zNW, zTP, zJF, zJL, zJD, zJV, zJX, zJW, zJA, zPCB, zNI, zPS, zPX, zOB, zFO, zFX, zNF, zJS, zJE, zJO, zJa, zJb, zJc, zJcz, zJd, zJdt, zJe, zJg]
def sz_u43 : sx_Ru := ([(0, 7), (0, 255)], [], ([(87, [0, 1], [8], [0, 0, 1])], [(12, [[0, 1]])]), (0, 0, [], [], []), [[8, 0, -1]], [])
theorem zs_ni0 {hh : sx_H} {x0 : Int} (l0 : 0 ≤ x0) (u0 : x0 ≤ 7) : zNI x0 0 hh := by
  grind [zNW, zTP, zJF, zJL, zJD, zJV, zJX, zJW, zJA, zPCB, zNI, zPS, zPX, zOB, zFO, zFX, zNF, zJS, zJE, zJO, zJa, zJb, zJc, zJcz, zJd, zJdt, zJe, zJg]
def sz_u44 : sx_Ru := ([(0, 7)], [], ([], []), (0, 0, [], [], []), [], [(13, [[0, 1], []])])
theorem zs_ni_in {hh : sx_H} {x0 x1 x2 : Int} (l0 : 0 ≤ x0) (u0 : x0 ≤ 7) (l1 : 0 ≤ x1) (u1 : x1 ≤ 8) (l2 : 0 ≤ x2) (u2 : x2 ≤ 0) (g0 : hh 87 x1 6 = x2) (p0 : zNI x0 x1 hh) : zNI x0 (x1 + 1) hh := by
  grind [zNW, zTP, zJF, zJL, zJD, zJV, zJX, zJW, zJA, zPCB, zNI, zPS, zPX, zOB, zFO, zFX, zNF, zJS, zJE, zJO, zJa, zJb, zJc, zJcz, zJd, zJdt, zJe, zJg]
def sz_u45 : sx_Ru := ([(0, 7), (0, 8), (0, 0)], [], ([(87, [0, 0, 1], [6], [0, 0, 0, 1])], [(13, [[0, 1], [0, 0, 1]])]), (0, 0, [], [], []), [], [(13, [[0, 1], [1, 0, 1]])])
theorem zs_ni_p1 {hh : sx_H} {x0 x1 x2 : Int} (l0 : 0 ≤ x0) (u0 : x0 ≤ 7) (l1 : 0 ≤ x1) (u1 : x1 ≤ 8) (l2 : 0 ≤ x2) (u2 : x2 ≤ 7) (f0 : 0 ≤ x0 - x2 - 1) (g0 : hh 87 x1 4 = x2) (p0 : zNI x0 x1 hh) : zNI x0 (x1 + 1) hh := by
  grind [zNW, zTP, zJF, zJL, zJD, zJV, zJX, zJW, zJA, zPCB, zNI, zPS, zPX, zOB, zFO, zFX, zNF, zJS, zJE, zJO, zJa, zJb, zJc, zJcz, zJd, zJdt, zJe, zJg]
def sz_u46 : sx_Ru := ([(0, 7), (0, 8), (0, 7)], [[-1, 1, 0, -1]], ([(87, [0, 0, 1], [4], [0, 0, 0, 1])], [(13, [[0, 1], [0, 0, 1]])]), (0, 0, [], [], []), [], [(13, [[0, 1], [1, 0, 1]])])
theorem zs_ni_p2 {hh : sx_H} {x0 x1 x2 : Int} (l0 : 0 ≤ x0) (u0 : x0 ≤ 7) (l1 : 0 ≤ x1) (u1 : x1 ≤ 8) (l2 : 0 ≤ x2) (u2 : x2 ≤ 7) (f0 : 0 ≤ -x0 + x2 - 1) (g0 : hh 87 x1 4 = x2) (p0 : zNI x0 x1 hh) : zNI x0 (x1 + 1) hh := by
  grind [zNW, zTP, zJF, zJL, zJD, zJV, zJX, zJW, zJA, zPCB, zNI, zPS, zPX, zOB, zFO, zFX, zNF, zJS, zJE, zJO, zJa, zJb, zJc, zJcz, zJd, zJdt, zJe, zJg]
def sz_u47 : sx_Ru := ([(0, 7), (0, 8), (0, 7)], [[-1, -1, 0, 1]], ([(87, [0, 0, 1], [4], [0, 0, 0, 1])], [(13, [[0, 1], [0, 0, 1]])]), (0, 0, [], [], []), [], [(13, [[0, 1], [1, 0, 1]])])
theorem zs_ni_use {hh : sx_H} {x0 x1 x2 x3 : Int} (l0 : 0 ≤ x0) (u0 : x0 ≤ 7) (l1 : 0 ≤ x1) (u1 : x1 ≤ 7) (l2 : 0 ≤ x2) (u2 : x2 ≤ 1) (l3 : 8 ≤ x3) (u3 : x3 ≤ 8) (g0 : hh 87 x1 4 = x0) (g1 : hh 87 x1 6 = x2) (p0 : zNI x0 x3 hh) : 0 ≤ -x2 := by
  grind [zNW, zTP, zJF, zJL, zJD, zJV, zJX, zJW, zJA, zPCB, zNI, zPS, zPX, zOB, zFO, zFX, zNF, zJS, zJE, zJO, zJa, zJb, zJc, zJcz, zJd, zJdt, zJe, zJg]
def sz_u48 : sx_Ru := ([(0, 7), (0, 7), (0, 1), (8, 8)], [], ([(87, [0, 0, 1], [4], [0, 1]), (87, [0, 0, 1], [6], [0, 0, 0, 1])], [(13, [[0, 1], [0, 0, 0, 0, 1]])]), (0, 0, [], [], []), [[0, 0, 0, -1]], [])
theorem zs_ni8 {hh : sx_H} {x0 x1 : Int} (l0 : 0 ≤ x0) (u0 : x0 ≤ 7) (l1 : 8 ≤ x1) (u1 : x1 ≤ 8) (p0 : zNI x0 x1 hh) : zNI x0 8 hh := by
  grind [zNW, zTP, zJF, zJL, zJD, zJV, zJX, zJW, zJA, zPCB, zNI, zPS, zPX, zOB, zFO, zFX, zNF, zJS, zJE, zJO, zJa, zJb, zJc, zJcz, zJd, zJdt, zJe, zJg]
def sz_u49 : sx_Ru := ([(0, 7), (8, 8)], [], ([], [(13, [[0, 1], [0, 0, 1]])]), (0, 0, [], [], []), [], [(13, [[0, 1], [8]])])
theorem zs_ps_so {hh hh' : sx_H} {x0 x1 x2 : Int} (l0 : 0 ≤ x0) (u0 : x0 ≤ 16) (l1 : 0 ≤ x1) (u1 : x1 ≤ 3) (l2 : -2147483648 ≤ x2) (u2 : x2 ≤ 2147483647) (p0 : zPS hh) (a0 : ∀ c g : Int, hh' 15 c g = if c = x0 ∧ g = x1 then x2 else hh 15 c g) (a1 : ∀ c g : Int, hh' 16 c g = hh 16 c g) (a2 : ∀ c g : Int, hh' 17 c g = hh 17 c g) : zPX x0 x1 hh' := by
  grind [zNW, zTP, zJF, zJL, zJD, zJV, zJX, zJW, zJA, zPCB, zNI, zPS, zPX, zOB, zFO, zFX, zNF, zJS, zJE, zJO, zJa, zJb, zJc, zJcz, zJd, zJdt, zJe, zJg]
def sz_u50 : sx_Ru := ([(0, 16), (0, 3), (-2147483648, 2147483647)], [], ([], [(14, [])]), (1, 15, [0, 1], [0, 0, 1], [0, 0, 0, 1]), [], [(15, [[0, 1], [0, 0, 1]])])
theorem zs_px_fi {hh hh' : sx_H} {x0 x1 x2 : Int} (l0 : 0 ≤ x0) (u0 : x0 ≤ 16) (l1 : 0 ≤ x1) (u1 : x1 ≤ 3) (l2 : -2147483648 ≤ x2) (u2 : x2 ≤ 2147483647) (p0 : zPX x0 x1 hh) (a0 : ∀ c g : Int, hh' 15 c g = hh 15 c g) (a1 : ∀ c g : Int, hh' 16 c g = if c = x0 ∧ g = x1 then x2 else hh 16 c g) (a2 : ∀ c g : Int, hh' 17 c g = hh 17 c g) : zPX x0 x1 hh' := by
  grind [zNW, zTP, zJF, zJL, zJD, zJV, zJX, zJW, zJA, zPCB, zNI, zPS, zPX, zOB, zFO, zFX, zNF, zJS, zJE, zJO, zJa, zJb, zJc, zJcz, zJd, zJdt, zJe, zJg]
def sz_u51 : sx_Ru := ([(0, 16), (0, 3), (-2147483648, 2147483647)], [], ([], [(15, [[0, 1], [0, 0, 1]])]), (1, 16, [0, 1], [0, 0, 1], [0, 0, 0, 1]), [], [(15, [[0, 1], [0, 0, 1]])])
theorem zs_px_se {hh hh' : sx_H} {x0 x1 x2 x3 : Int} (l0 : 0 ≤ x0) (u0 : x0 ≤ 16) (l1 : 0 ≤ x1) (u1 : x1 ≤ 3) (l2 : -2147483648 ≤ x2) (u2 : x2 ≤ 2147483647) (l3 : -2147483648 ≤ x3) (u3 : x3 ≤ 2147483647) (f0 : 0 ≤ -x2 + 3) (g0 : hh 15 x0 x1 = x2) (p0 : zPX x0 x1 hh) (a0 : ∀ c g : Int, hh' 15 c g = hh 15 c g) (a1 : ∀ c g : Int, hh' 16 c g = hh 16 c g) (a2 : ∀ c g : Int, hh' 17 c g = if c = x0 ∧ g = x1 then x3 else hh 17 c g) : zPS hh' := by
  grind [zNW, zTP, zJF, zJL, zJD, zJV, zJX, zJW, zJA, zPCB, zNI, zPS, zPX, zOB, zFO, zFX, zNF, zJS, zJE, zJO, zJa, zJb, zJc, zJcz, zJd, zJdt, zJe, zJg]
def sz_u52 : sx_Ru := ([(0, 16), (0, 3), (-2147483648, 2147483647), (-2147483648, 2147483647)], [[3, 0, 0, -1]], ([(15, [0, 1], [0, 0, 1], [0, 0, 0, 1])], [(15, [[0, 1], [0, 0, 1]])]), (1, 17, [0, 1], [0, 0, 1], [0, 0, 0, 0, 1]), [], [(14, [])])
theorem zs_px_se0 {hh hh' : sx_H} {x0 x1 x2 : Int} (l0 : 0 ≤ x0) (u0 : x0 ≤ 16) (l1 : 0 ≤ x1) (u1 : x1 ≤ 3) (l2 : 0 ≤ x2) (u2 : x2 ≤ 0) (p0 : zPX x0 x1 hh) (a0 : ∀ c g : Int, hh' 15 c g = hh 15 c g) (a1 : ∀ c g : Int, hh' 16 c g = hh 16 c g) (a2 : ∀ c g : Int, hh' 17 c g = if c = x0 ∧ g = x1 then x2 else hh 17 c g) : zPS hh' := by
  grind [zNW, zTP, zJF, zJL, zJD, zJV, zJX, zJW, zJA, zPCB, zNI, zPS, zPX, zOB, zFO, zFX, zNF, zJS, zJE, zJO, zJa, zJb, zJc, zJcz, zJd, zJdt, zJe, zJg]
def sz_u53 : sx_Ru := ([(0, 16), (0, 3), (0, 0)], [], ([], [(15, [[0, 1], [0, 0, 1]])]), (1, 17, [0, 1], [0, 0, 1], [0, 0, 0, 1]), [], [(14, [])])
theorem zs_px_se4 {hh hh' : sx_H} {x0 x1 x2 x3 : Int} (l0 : 0 ≤ x0) (u0 : x0 ≤ 16) (l1 : 0 ≤ x1) (u1 : x1 ≤ 3) (l2 : -2147483648 ≤ x2) (u2 : x2 ≤ 2147483647) (l3 : -2147483648 ≤ x3) (u3 : x3 ≤ 2147483647) (f0 : 0 ≤ x3) (f1 : 0 ≤ -x3 + 256) (f2 : 0 ≤ x2) (f3 : 0 ≤ -x2 - x3 + 8192) (g0 : hh 16 x0 x1 = x2) (p0 : zPX x0 x1 hh) (a0 : ∀ c g : Int, hh' 15 c g = hh 15 c g) (a1 : ∀ c g : Int, hh' 16 c g = hh 16 c g) (a2 : ∀ c g : Int, hh' 17 c g = if c = x0 ∧ g = x1 then x3 else hh 17 c g) : zPS hh' := by
  grind [zNW, zTP, zJF, zJL, zJD, zJV, zJX, zJW, zJA, zPCB, zNI, zPS, zPX, zOB, zFO, zFX, zNF, zJS, zJE, zJO, zJa, zJb, zJc, zJcz, zJd, zJdt, zJe, zJg]
def sz_u54 : sx_Ru := ([(0, 16), (0, 3), (-2147483648, 2147483647), (-2147483648, 2147483647)], [[0, 0, 0, 0, 1], [256, 0, 0, 0, -1], [0, 0, 0, 1], [8192, 0, 0, -1, -1]], ([(16, [0, 1], [0, 0, 1], [0, 0, 0, 1])], [(15, [[0, 1], [0, 0, 1]])]), (1, 17, [0, 1], [0, 0, 1], [0, 0, 0, 0, 1]), [], [(14, [])])
theorem zs_ps_fi {hh hh' : sx_H} {x0 x1 x2 x3 : Int} (l0 : 0 ≤ x0) (u0 : x0 ≤ 16) (l1 : 0 ≤ x1) (u1 : x1 ≤ 3) (l2 : -2147483648 ≤ x2) (u2 : x2 ≤ 2147483647) (l3 : -2147483648 ≤ x3) (u3 : x3 ≤ 2147483647) (f0 : 0 ≤ -x2 + 3) (g0 : hh 15 x0 x1 = x2) (p0 : zPS hh) (a0 : ∀ c g : Int, hh' 15 c g = hh 15 c g) (a1 : ∀ c g : Int, hh' 16 c g = if c = x0 ∧ g = x1 then x3 else hh 16 c g) (a2 : ∀ c g : Int, hh' 17 c g = hh 17 c g) : zPS hh' := by
  grind [zNW, zTP, zJF, zJL, zJD, zJV, zJX, zJW, zJA, zPCB, zNI, zPS, zPX, zOB, zFO, zFX, zNF, zJS, zJE, zJO, zJa, zJb, zJc, zJcz, zJd, zJdt, zJe, zJg]
def sz_u55 : sx_Ru := ([(0, 16), (0, 3), (-2147483648, 2147483647), (-2147483648, 2147483647)], [[3, 0, 0, -1]], ([(15, [0, 1], [0, 0, 1], [0, 0, 0, 1])], [(14, [])]), (1, 16, [0, 1], [0, 0, 1], [0, 0, 0, 0, 1]), [], [(14, [])])
theorem zs_ps_se {hh hh' : sx_H} {x0 x1 x2 x3 : Int} (l0 : 0 ≤ x0) (u0 : x0 ≤ 16) (l1 : 0 ≤ x1) (u1 : x1 ≤ 3) (l2 : -2147483648 ≤ x2) (u2 : x2 ≤ 2147483647) (l3 : -2147483648 ≤ x3) (u3 : x3 ≤ 2147483647) (f0 : 0 ≤ -x2 + 3) (g0 : hh 15 x0 x1 = x2) (p0 : zPS hh) (a0 : ∀ c g : Int, hh' 15 c g = hh 15 c g) (a1 : ∀ c g : Int, hh' 16 c g = hh 16 c g) (a2 : ∀ c g : Int, hh' 17 c g = if c = x0 ∧ g = x1 then x3 else hh 17 c g) : zPS hh' := by
  grind [zNW, zTP, zJF, zJL, zJD, zJV, zJX, zJW, zJA, zPCB, zNI, zPS, zPX, zOB, zFO, zFX, zNF, zJS, zJE, zJO, zJa, zJb, zJc, zJcz, zJd, zJdt, zJe, zJg]
def sz_u56 : sx_Ru := ([(0, 16), (0, 3), (-2147483648, 2147483647), (-2147483648, 2147483647)], [[3, 0, 0, -1]], ([(15, [0, 1], [0, 0, 1], [0, 0, 0, 1])], [(14, [])]), (1, 17, [0, 1], [0, 0, 1], [0, 0, 0, 0, 1]), [], [(14, [])])
theorem zs_ps_u {hh : sx_H} {x0 x1 x2 x3 : Int} (l0 : 0 ≤ x0) (u0 : x0 ≤ 16) (l1 : 0 ≤ x1) (u1 : x1 ≤ 3) (l2 : -2147483648 ≤ x2) (u2 : x2 ≤ 2147483647) (l3 : -2147483648 ≤ x3) (u3 : x3 ≤ 2147483647) (f0 : 0 ≤ x2 - 4) (g0 : hh 15 x0 x1 = x2) (g1 : hh 17 x0 x1 = x3) (p0 : zPS hh) : 0 ≤ x3 ∧ 0 ≤ -x3 + 256 := by
  grind [zNW, zTP, zJF, zJL, zJD, zJV, zJX, zJW, zJA, zPCB, zNI, zPS, zPX, zOB, zFO, zFX, zNF, zJS, zJE, zJO, zJa, zJb, zJc, zJcz, zJd, zJdt, zJe, zJg]
def sz_u57 : sx_Ru := ([(0, 16), (0, 3), (-2147483648, 2147483647), (-2147483648, 2147483647)], [[-4, 0, 0, 1]], ([(15, [0, 1], [0, 0, 1], [0, 0, 0, 1]), (17, [0, 1], [0, 0, 1], [0, 0, 0, 0, 1])], [(14, [])]), (0, 0, [], [], []), [[0, 0, 0, 0, 1], [256, 0, 0, 0, -1]], [])
theorem zs_ps_u2 {hh : sx_H} {x0 x1 x2 x3 x4 : Int} (l0 : 0 ≤ x0) (u0 : x0 ≤ 16) (l1 : 0 ≤ x1) (u1 : x1 ≤ 3) (l2 : -2147483648 ≤ x2) (u2 : x2 ≤ 2147483647) (l3 : -2147483648 ≤ x3) (u3 : x3 ≤ 2147483647) (l4 : -2147483648 ≤ x4) (u4 : x4 ≤ 2147483647) (f0 : 0 ≤ x2 - 4) (f1 : 0 ≤ x3 - 1) (g0 : hh 15 x0 x1 = x2) (g1 : hh 17 x0 x1 = x3) (g2 : hh 16 x0 x1 = x4) (p0 : zPS hh) : 0 ≤ x4 ∧ 0 ≤ -x3 - x4 + 8192 := by
  grind [zNW, zTP, zJF, zJL, zJD, zJV, zJX, zJW, zJA, zPCB, zNI, zPS, zPX, zOB, zFO, zFX, zNF, zJS, zJE, zJO, zJa, zJb, zJc, zJcz, zJd, zJdt, zJe, zJg]
def sz_u58 : sx_Ru := ([(0, 16), (0, 3), (-2147483648, 2147483647), (-2147483648, 2147483647), (-2147483648, 2147483647)], [[-4, 0, 0, 1], [-1, 0, 0, 0, 1]], ([(15, [0, 1], [0, 0, 1], [0, 0, 0, 1]), (17, [0, 1], [0, 0, 1], [0, 0, 0, 0, 1]), (16, [0, 1], [0, 0, 1], [0, 0, 0, 0, 0, 1])], [(14, [])]), (0, 0, [], [], []), [[0, 0, 0, 0, 0, 1], [8192, 0, 0, 0, -1, -1]], [])
theorem zs_fo_d1 {hh hh' : sx_H} {x0 x1 x2 : Int} (l0 : 0 ≤ x0) (u0 : x0 ≤ 63) (l1 : 0 ≤ x1) (u1 : x1 ≤ 255) (l2 : -2147483648 ≤ x2) (u2 : x2 ≤ 2147483647) (p0 : zFO hh) (a0 : ∀ c g : Int, hh' 26 c g = hh 26 c g) (a1 : ∀ c g : Int, hh' 20 c g = if c = x0 ∧ g = x1 then x2 else hh 20 c g) : zFX x0 hh' := by
  grind [zNW, zTP, zJF, zJL, zJD, zJV, zJX, zJW, zJA, zPCB, zNI, zPS, zPX, zOB, zFO, zFX, zNF, zJS, zJE, zJO, zJa, zJb, zJc, zJcz, zJd, zJdt, zJe, zJg]
def sz_u59 : sx_Ru := ([(0, 63), (0, 255), (-2147483648, 2147483647)], [], ([], [(16, [])]), (1, 20, [0, 1], [0, 0, 1], [0, 0, 0, 1]), [], [(17, [[0, 1]])])
theorem zs_fo_d2 {hh hh' : sx_H} {x0 : Int} (l0 : 0 ≤ x0) (u0 : x0 ≤ 63) (p0 : zFO hh) (a0 : ∀ c g : Int, hh' 26 c g = hh 26 c g) (a1 : ∀ c g : Int, ¬ c = x0 → hh' 20 c g = hh 20 c g) : zFX x0 hh' := by
  grind [zNW, zTP, zJF, zJL, zJD, zJV, zJX, zJW, zJA, zPCB, zNI, zPS, zPX, zOB, zFO, zFX, zNF, zJS, zJE, zJO, zJa, zJb, zJc, zJcz, zJd, zJdt, zJe, zJg]
def sz_u60 : sx_Ru := ([(0, 63)], [], ([], [(16, [])]), (2, 20, [0, 1], [], []), [], [(17, [[0, 1]])])
theorem zs_fx_d2 {hh hh' : sx_H} {x0 : Int} (l0 : 0 ≤ x0) (u0 : x0 ≤ 63) (p0 : zFX x0 hh) (a0 : ∀ c g : Int, hh' 26 c g = hh 26 c g) (a1 : ∀ c g : Int, ¬ c = x0 → hh' 20 c g = hh 20 c g) : zFX x0 hh' := by
  grind [zNW, zTP, zJF, zJL, zJD, zJV, zJX, zJW, zJA, zPCB, zNI, zPS, zPX, zOB, zFO, zFX, zNF, zJS, zJE, zJO, zJa, zJb, zJc, zJcz, zJd, zJdt, zJe, zJg]
def sz_u61 : sx_Ru := ([(0, 63)], [], ([], [(17, [[0, 1]])]), (2, 20, [0, 1], [], []), [], [(17, [[0, 1]])])
theorem zs_fx_f {hh hh' : sx_H} {x0 : Int} (l0 : 0 ≤ x0) (u0 : x0 ≤ 63) (p0 : zFX x0 hh) (a0 : ∀ c g : Int, hh' 26 c g = if c = 0 ∧ g = x0 then 0 else hh 26 c g) (a1 : ∀ c g : Int, hh' 20 c g = hh 20 c g) : zFO hh' := by
  grind [zNW, zTP, zJF, zJL, zJD, zJV, zJX, zJW, zJA, zPCB, zNI, zPS, zPX, zOB, zFO, zFX, zNF, zJS, zJE, zJO, zJa, zJb, zJc, zJcz, zJd, zJdt, zJe, zJg]
def sz_u62 : sx_Ru := ([(0, 63)], [], ([], [(17, [[0, 1]])]), (1, 26, [], [0, 1], []), [], [(16, [])])
theorem zs_fo_f {hh hh' : sx_H} {x0 x1 : Int} (l0 : 0 ≤ x0) (u0 : x0 ≤ 63) (l1 : -2147483648 ≤ x1) (u1 : x1 ≤ 2147483647) (p0 : zFO hh) (p1 : zOB x0 hh) (a0 : ∀ c g : Int, hh' 26 c g = if c = 0 ∧ g = x0 then x1 else hh 26 c g) (a1 : ∀ c g : Int, hh' 20 c g = hh 20 c g) : zFO hh' := by
  grind [zNW, zTP, zJF, zJL, zJD, zJV, zJX, zJW, zJA, zPCB, zNI, zPS, zPX, zOB, zFO, zFX, zNF, zJS, zJE, zJO, zJa, zJb, zJc, zJcz, zJd, zJdt, zJe, zJg]
def sz_u63 : sx_Ru := ([(0, 63), (-2147483648, 2147483647)], [], ([], [(16, []), (18, [[0, 1]])]), (1, 26, [], [0, 1], [0, 0, 1]), [], [(16, [])])
theorem zs_fo_f1 {hh hh' : sx_H} {x0 x1 : Int} (l0 : 0 ≤ x0) (u0 : x0 ≤ 63) (l1 : -2147483648 ≤ x1) (u1 : x1 ≤ 2147483647) (f0 : 0 ≤ -x1 + 1) (p0 : zFO hh) (a0 : ∀ c g : Int, hh' 26 c g = if c = 0 ∧ g = x0 then x1 else hh 26 c g) (a1 : ∀ c g : Int, hh' 20 c g = hh 20 c g) : zFO hh' := by
  grind [zNW, zTP, zJF, zJL, zJD, zJV, zJX, zJW, zJA, zPCB, zNI, zPS, zPX, zOB, zFO, zFX, zNF, zJS, zJE, zJO, zJa, zJb, zJc, zJcz, zJd, zJdt, zJe, zJg]
def sz_u64 : sx_Ru := ([(0, 63), (-2147483648, 2147483647)], [[1, 0, -1]], ([], [(16, [])]), (1, 26, [], [0, 1], [0, 0, 1]), [], [(16, [])])
theorem zs_fo_use {hh : sx_H} {x0 x1 : Int} (l0 : 0 ≤ x0) (u0 : x0 ≤ 63) (l1 : -2147483648 ≤ x1) (u1 : x1 ≤ 2147483647) (f0 : 0 ≤ x1 - 2) (f1 : 0 ≤ -x1 + 2) (g0 : hh 26 0 x0 = x1) (p0 : zFO hh) : zOB x0 hh := by
  grind [zNW, zTP, zJF, zJL, zJD, zJV, zJX, zJW, zJA, zPCB, zNI, zPS, zPX, zOB, zFO, zFX, zNF, zJS, zJE, zJO, zJa, zJb, zJc, zJcz, zJd, zJdt, zJe, zJg]
def sz_u65 : sx_Ru := ([(0, 63), (-2147483648, 2147483647)], [[-2, 0, 1], [2, 0, -1]], ([(26, [], [0, 1], [0, 0, 1])], [(16, [])]), (0, 0, [], [], []), [], [(18, [[0, 1]])])
theorem zs_ob_m1 {hh : sx_H} {x0 x1 x2 : Int} (l0 : 0 ≤ x0) (u0 : x0 ≤ 63) (l1 : -128 ≤ x1) (u1 : x1 ≤ 127) (l2 : -128 ≤ x2) (u2 : x2 ≤ 127) (f0 : 0 ≤ x1) (f1 : 0 ≤ -(256 * x1) - x2 + 512) (f2 : 0 ≤ x2) (g0 : hh 20 x0 18 = x1) (g1 : hh 20 x0 19 = x2) : zOB x0 hh := by
  grind [zNW, zTP, zJF, zJL, zJD, zJV, zJX, zJW, zJA, zPCB, zNI, zPS, zPX, zOB, zFO, zFX, zNF, zJS, zJE, zJO, zJa, zJb, zJc, zJcz, zJd, zJdt, zJe, zJg]
def sz_u66 : sx_Ru := ([(0, 63), (-128, 127), (-128, 127)], [[0, 0, 1], [512, 0, -256, -1], [0, 0, 0, 1]], ([(20, [0, 1], [18], [0, 0, 1]), (20, [0, 1], [19], [0, 0, 0, 1])], []), (0, 0, [], [], []), [], [(18, [[0, 1]])])
theorem zs_ob_m2 {hh : sx_H} {x0 x1 x2 : Int} (l0 : 0 ≤ x0) (u0 : x0 ≤ 63) (l1 : -128 ≤ x1) (u1 : x1 ≤ 127) (l2 : -128 ≤ x2) (u2 : x2 ≤ 127) (f0 : 0 ≤ x1) (f1 : 0 ≤ -(256 * x1) - x2 + 256) (f2 : 0 ≤ -x2 - 1) (g0 : hh 20 x0 18 = x1) (g1 : hh 20 x0 19 = x2) : zOB x0 hh := by
  grind [zNW, zTP, zJF, zJL, zJD, zJV, zJX, zJW, zJA, zPCB, zNI, zPS, zPX, zOB, zFO, zFX, zNF, zJS, zJE, zJO, zJa, zJb, zJc, zJcz, zJd, zJdt, zJe, zJg]
def sz_u67 : sx_Ru := ([(0, 63), (-128, 127), (-128, 127)], [[0, 0, 1], [256, 0, -256, -1], [-1, 0, 0, -1]], ([(20, [0, 1], [18], [0, 0, 1]), (20, [0, 1], [19], [0, 0, 0, 1])], []), (0, 0, [], [], []), [], [(18, [[0, 1]])])
theorem zs_ob_h {hh : sx_H} {x0 x1 : Int} (l0 : 0 ≤ x0) (u0 : x0 ≤ 63) (l1 : -128 ≤ x1) (u1 : x1 ≤ 127) (g0 : hh 20 x0 18 = x1) (p0 : zOB x0 hh) : 0 ≤ x1 ∧ 0 ≤ -x1 + 2 := by
  grind [zNW, zTP, zJF, zJL, zJD, zJV, zJX, zJW, zJA, zPCB, zNI, zPS, zPX, zOB, zFO, zFX, zNF, zJS, zJE, zJO, zJa, zJb, zJc, zJcz, zJd, zJdt, zJe, zJg]
def sz_u68 : sx_Ru := ([(0, 63), (-128, 127)], [], ([(20, [0, 1], [18], [0, 0, 1])], [(18, [[0, 1]])]), (0, 0, [], [], []), [[0, 0, 1], [2, 0, -1]], [])
theorem zs_ob_l {hh : sx_H} {x0 x1 x2 : Int} (l0 : 0 ≤ x0) (u0 : x0 ≤ 63) (l1 : -128 ≤ x1) (u1 : x1 ≤ 127) (l2 : -128 ≤ x2) (u2 : x2 ≤ 127) (f0 : 0 ≤ x2) (g0 : hh 20 x0 18 = x1) (g1 : hh 20 x0 19 = x2) (p0 : zOB x0 hh) : 0 ≤ -(256 * x1) - x2 + 512 := by
  grind [zNW, zTP, zJF, zJL, zJD, zJV, zJX, zJW, zJA, zPCB, zNI, zPS, zPX, zOB, zFO, zFX, zNF, zJS, zJE, zJO, zJa, zJb, zJc, zJcz, zJd, zJdt, zJe, zJg]
def sz_u69 : sx_Ru := ([(0, 63), (-128, 127), (-128, 127)], [[0, 0, 0, 1]], ([(20, [0, 1], [18], [0, 0, 1]), (20, [0, 1], [19], [0, 0, 0, 1])], [(18, [[0, 1]])]), (0, 0, [], [], []), [[512, 0, -256, -1]], [])
theorem zs_ob_l2 {hh : sx_H} {x0 x1 x2 : Int} (l0 : 0 ≤ x0) (u0 : x0 ≤ 63) (l1 : -128 ≤ x1) (u1 : x1 ≤ 127) (l2 : -128 ≤ x2) (u2 : x2 ≤ 127) (f0 : 0 ≤ -x2 - 1) (g0 : hh 20 x0 18 = x1) (g1 : hh 20 x0 19 = x2) (p0 : zOB x0 hh) : 0 ≤ -x1 + 1 := by
  grind [zNW, zTP, zJF, zJL, zJD, zJV, zJX, zJW, zJA, zPCB, zNI, zPS, zPX, zOB, zFO, zFX, zNF, zJS, zJE, zJO, zJa, zJb, zJc, zJcz, zJd, zJdt, zJe, zJg]
def sz_u70 : sx_Ru := ([(0, 63), (-128, 127), (-128, 127)], [[-1, 0, 0, -1]], ([(20, [0, 1], [18], [0, 0, 1]), (20, [0, 1], [19], [0, 0, 0, 1])], [(18, [[0, 1]])]), (0, 0, [], [], []), [[1, 0, -1]], [])
theorem zs_cf0 {hh : sx_H} : zCF 0 0 hh := by
  unfold zCF
  simp [zcf]
def sz_u71 : sx_Ru := ([], [], ([], []), (0, 0, [], [], []), [], [(19, [[], []])])
theorem zs_cf_1 {hh : sx_H} {x0 x1 x2 : Int} (l0 : 0 ≤ x0) (u0 : x0 ≤ 32) (l1 : 0 ≤ x1) (u1 : x1 ≤ 32) (l2 : 1 ≤ x2) (u2 : x2 ≤ 1) (g0 : hh 1 0 x0 = x2) (p0 : zCF x0 x1 hh) : zCF (x0 + 1) (x1 + 1) hh := by
  unfold zCF at *
  have e : (x0 + 1).toNat = x0.toNat + 1 := by omega
  rw [e]
  simp only [zcf]
  have h : ((x0.toNat : Nat) : Int) = x0 := by omega
  rw [h, if_pos (by omega)]
  omega
def sz_u72 : sx_Ru := ([(0, 32), (0, 32), (1, 1)], [], ([(1, [], [0, 1], [0, 0, 0, 1])], [(19, [[0, 1], [0, 0, 1]])]), (0, 0, [], [], []), [], [(19, [[1, 1], [1, 0, 1]])])
theorem zs_cf_0 {hh : sx_H} {x0 x1 x2 : Int} (l0 : 0 ≤ x0) (u0 : x0 ≤ 32) (l1 : 0 ≤ x1) (u1 : x1 ≤ 32) (l2 : 0 ≤ x2) (u2 : x2 ≤ 3) (g0 : hh 1 0 x0 = x2) (p0 : zCF x0 x1 hh) : zCF (x0 + 1) x1 hh := by
  unfold zCF at *
  have e : (x0 + 1).toNat = x0.toNat + 1 := by omega
  rw [e]
  simp only [zcf]
  split <;> omega
def sz_u73 : sx_Ru := ([(0, 32), (0, 32), (0, 3)], [], ([(1, [], [0, 1], [0, 0, 0, 1])], [(19, [[0, 1], [0, 0, 1]])]), (0, 0, [], [], []), [], [(19, [[1, 1], [0, 0, 1]])])
theorem zs_cf_le {hh : sx_H} {x0 x1 x2 : Int} (l0 : 0 ≤ x0) (u0 : x0 ≤ 32) (l1 : 0 ≤ x1) (u1 : x1 ≤ 32) (l2 : 32 ≤ x2) (u2 : x2 ≤ 32) (f0 : 0 ≤ x0 - x1) (p0 : zCF x2 x0 hh) : zCF 32 x1 hh := by
  obtain rfl : x2 = 32 := by omega
  unfold zCF at *
  omega
def sz_u74 : sx_Ru := ([(0, 32), (0, 32), (32, 32)], [[0, 1, -1]], ([], [(19, [[0, 0, 0, 1], [0, 1]])]), (0, 0, [], [], []), [], [(19, [[32], [0, 0, 1]])])
theorem zs_cf_w {hh hh' : sx_H} {x0 x1 x2 x3 : Int} (l0 : 0 ≤ x0) (u0 : x0 ≤ 32) (l1 : 0 ≤ x1) (u1 : x1 ≤ 32) (l2 : 0 ≤ x2) (u2 : x2 ≤ 3) (l3 : 32 ≤ x3) (u3 : x3 ≤ 32) (f0 : 0 ≤ -x1 + 31) (p0 : zCF x3 x0 hh) (a0 : ∀ c g : Int, hh' 1 c g = if c = 0 ∧ g = x1 then x2 else hh 1 c g) : zCF x3 (x0 - 1) hh' := by
  unfold zCF at *
  have := zcf_up (hh 1 0) (hh' 1 0) x1 x3.toNat (fun i hi => by rw [a0]; exact if_neg (fun q => hi q.2))
  omega
def sz_u75 : sx_Ru := ([(0, 32), (0, 32), (0, 3), (32, 32)], [[31, 0, -1]], ([], [(19, [[0, 0, 0, 0, 1], [0, 1]])]), (1, 1, [], [0, 0, 1], [0, 0, 0, 1]), [], [(19, [[0, 0, 0, 0, 1], [-1, 1]])])
theorem zs_nf0 {hh : sx_H} : zNF 0 hh := by
  grind [zNW, zTP, zJF, zJL, zJD, zJV, zJX, zJW, zJA, zPCB, zNI, zPS, zPX, zOB, zFO, zFX, zNF, zJS, zJE, zJO, zJa, zJb, zJc, zJcz, zJd, zJdt, zJe, zJg]
def sz_u76 : sx_Ru := ([], [], ([], []), (0, 0, [], [], []), [], [(20, [[]])])
theorem zs_nf_1 {hh : sx_H} {x0 x1 : Int} (l0 : 0 ≤ x0) (u0 : x0 ≤ 32) (l1 : 0 ≤ x1) (u1 : x1 ≤ 3) (f0 : 0 ≤ x1 - 2) (g0 : hh 1 0 x0 = x1) (p0 : zNF x0 hh) : zNF (x0 + 1) hh := by
  grind [zNW, zTP, zJF, zJL, zJD, zJV, zJX, zJW, zJA, zPCB, zNI, zPS, zPX, zOB, zFO, zFX, zNF, zJS, zJE, zJO, zJa, zJb, zJc, zJcz, zJd, zJdt, zJe, zJg]
def sz_u77 : sx_Ru := ([(0, 32), (0, 3)], [[-2, 0, 1]], ([(1, [], [0, 1], [0, 0, 1])], [(20, [[0, 1]])]), (0, 0, [], [], []), [], [(20, [[1, 1]])])
theorem zs_nf_2 {hh : sx_H} {x0 x1 : Int} (l0 : 0 ≤ x0) (u0 : x0 ≤ 32) (l1 : 0 ≤ x1) (u1 : x1 ≤ 3) (f0 : 0 ≤ -x1) (g0 : hh 1 0 x0 = x1) (p0 : zNF x0 hh) : zNF (x0 + 1) hh := by
  grind [zNW, zTP, zJF, zJL, zJD, zJV, zJX, zJW, zJA, zPCB, zNI, zPS, zPX, zOB, zFO, zFX, zNF, zJS, zJE, zJO, zJa, zJb, zJc, zJcz, zJd, zJdt, zJe, zJg]
def sz_u78 : sx_Ru := ([(0, 32), (0, 3)], [[0, 0, -1]], ([(1, [], [0, 1], [0, 0, 1])], [(20, [[0, 1]])]), (0, 0, [], [], []), [], [(20, [[1, 1]])])
theorem zs_nf_use {hh : sx_H} {x0 x1 x2 : Int} (l0 : 0 ≤ x0) (u0 : x0 ≤ 32) (l1 : 32 ≤ x1) (u1 : x1 ≤ 32) (l2 : 32 ≤ x2) (u2 : x2 ≤ 32) (f0 : 0 ≤ x0 - 1) (p0 : zNF x1 hh) (p1 : zCF x2 x0 hh) : 0 ≤ -1 := by
  unfold zCF at p1
  have := zcf_none (hh 1 0) x2.toNat (fun i a b => p0 i a (by omega))
  omega
def sz_u79 : sx_Ru := ([(0, 32), (32, 32), (32, 32)], [[-1, 1]], ([], [(20, [[0, 0, 1]]), (19, [[0, 0, 0, 1], [0, 1]])]), (0, 0, [], [], []), [[-1]], [])
theorem zs_nu0 {hh : sx_H} : zNU 0 hh := by
  intro j h1 h2
  omega
def sz_u80 : sx_Ru := ([], [], ([], []), (0, 0, [], [], []), [], [(23, [[]])])
theorem zs_nu_w {hh hh' : sx_H} {x0 x1 : Int} (l0 : 0 ≤ x0) (u0 : x0 ≤ 64) (l1 : 0 ≤ x1) (u1 : x1 ≤ 0) (p0 : zNU x0 hh) (a0 : ∀ c g : Int, hh' 183 c g = if c = 0 ∧ g = x0 then x1 else hh 183 c g) : zNU (x0 + 1) hh' := by
  intro j h1 h2
  rw [a0]
  split
  · omega
  · exact p0 j h1 (by omega)
def sz_u81 : sx_Ru := ([(0, 64), (0, 0)], [], ([], [(23, [[0, 1]])]), (1, 183, [], [0, 1], [0, 0, 1]), [], [(23, [[1, 1]])])
theorem zs_ue_n {hh : sx_H} {x0 : Int} (l0 : 64 ≤ x0) (u0 : x0 ≤ 64) (p0 : zNU x0 hh) : zUE 0 hh := by
  exact zcu_none _ 64 (fun i a b => p0 i a (by omega))
def sz_u82 : sx_Ru := ([(64, 64)], [], ([], [(23, [[0, 1]])]), (0, 0, [], [], []), [], [(21, [[]])])
theorem zs_ue_ro {hh : sx_H} {x0 x1 x2 : Int} (l0 : 0 ≤ x0) (u0 : x0 ≤ 64) (l1 : 0 ≤ x1) (u1 : x1 ≤ 63) (l2 : 0 ≤ x2) (u2 : x2 ≤ 0) (g0 : hh 183 0 x1 = x2) (p0 : zUE x0 hh) : 0 ≤ -x0 + 63 := by
  have := zcu_lt (hh 183 0) x1 (by rw [g0]; omega) l1 64 (by omega)
  unfold zUE at p0
  omega
def sz_u83 : sx_Ru := ([(0, 64), (0, 63), (0, 0)], [], ([(183, [], [0, 0, 1], [0, 0, 0, 1])], [(21, [[0, 1]])]), (0, 0, [], [], []), [[63, -1]], [])
theorem zs_ue_w1 {hh hh' : sx_H} {x0 x1 x2 x3 : Int} (l0 : 0 ≤ x0) (u0 : x0 ≤ 64) (l1 : 0 ≤ x1) (u1 : x1 ≤ 63) (l2 : 0 ≤ x2) (u2 : x2 ≤ 0) (l3 : 1 ≤ x3) (u3 : x3 ≤ 1) (g0 : hh 183 0 x1 = x2) (p0 : zUE x0 hh) (a0 : ∀ c g : Int, hh' 183 c g = if c = 0 ∧ g = x1 then x3 else hh 183 c g) : zUE (x0 + 1) hh' := by
  unfold zUE at *
  rw [zcu_one (hh 183 0) (hh' 183 0) x1 (by rw [g0]; omega) (by rw [a0, if_pos ⟨rfl, rfl⟩]; omega) 64 (fun i hi => by rw [a0, if_neg (fun q => hi q.2)]) l1 (by omega)]
  omega
def sz_u84 : sx_Ru := ([(0, 64), (0, 63), (0, 0), (1, 1)], [], ([(183, [], [0, 0, 1], [0, 0, 0, 1])], [(21, [[0, 1]])]), (1, 183, [], [0, 0, 1], [0, 0, 0, 0, 1]), [], [(21, [[1, 1]])])
theorem zs_ue_w0 {hh hh' : sx_H} {x0 x1 x2 x3 : Int} (l0 : 0 ≤ x0) (u0 : x0 ≤ 64) (l1 : 0 ≤ x1) (u1 : x1 ≤ 63) (l2 : 1 ≤ x2) (u2 : x2 ≤ 1) (l3 : 1 ≤ x3) (u3 : x3 ≤ 1) (g0 : hh 183 0 x1 = x2) (p0 : zUE x0 hh) (a0 : ∀ c g : Int, hh' 183 c g = if c = 0 ∧ g = x1 then x3 else hh 183 c g) : zUE x0 hh' := by
  unfold zUE at *
  rw [zcu_same (hh 183 0) (hh' 183 0) 64 (fun i => ?_)]
  · exact p0
  · rw [a0]
    split
    · next h =>
      rw [h.2, g0]
      omega
    · exact Iff.rfl
def sz_u85 : sx_Ru := ([(0, 64), (0, 63), (1, 1), (1, 1)], [], ([(183, [], [0, 0, 1], [0, 0, 0, 1])], [(21, [[0, 1]])]), (1, 183, [], [0, 0, 1], [0, 0, 0, 0, 1]), [], [(21, [[0, 1]])])
theorem zs_ur_ue {hh : sx_H} {x0 : Int} (l0 : 0 ≤ x0) (u0 : x0 ≤ 64) (p0 : zUE x0 hh) : zUR 0 4 7 64 (-x0 + 64) hh := by
  unfold zUR zUE at *
  rw [zn_4 _ _ _ (by omega), zr_7 _ _ (by omega)]
  omega
def sz_u86 : sx_Ru := ([(0, 64)], [], ([], [(21, [[0, 1]])]), (0, 0, [], [], []), [], [(22, [[], [4], [7], [64], [64, -1]])])
theorem zs_ur_w {hh hh' : sx_H} {x0 x1 x2 x3 x4 x5 x6 : Int} (l0 : 0 ≤ x0) (u0 : x0 ≤ 15) (l1 : 0 ≤ x1) (u1 : x1 ≤ 4) (l2 : 0 ≤ x2) (u2 : x2 ≤ 7) (l3 : 0 ≤ x3) (u3 : x3 ≤ 2000) (l4 : 0 ≤ x4) (u4 : x4 ≤ 2000) (l5 : 0 ≤ x5) (u5 : x5 ≤ 63) (l6 : 1 ≤ x6) (u6 : x6 ≤ 1) (f0 : 0 ≤ x4 - 1) (p0 : zUR x0 x1 x2 x3 x4 hh) (a0 : ∀ c g : Int, hh' 183 c g = if c = 0 ∧ g = x5 then x6 else hh 183 c g) (a1 : ∀ c g : Int, hh' 136 c g = hh 136 c g) (a2 : ∀ c g : Int, hh' 139 c g = hh 139 c g) (a3 : ∀ c g : Int, hh' 140 c g = hh 140 c g) (a4 : ∀ c g : Int, hh' 187 c g = hh 187 c g) (a5 : ∀ c g : Int, hh' 188 c g = hh 188 c g) : zUR x0 x1 x2 x3 (x4 - 1) hh' := by
  unfold zUR at *
  have := zcu_up (hh 183 0) (hh' 183 0) x5 64 (fun i hi => by rw [a0, if_neg (fun q => hi q.2)])
  rw [zn_ext x0 x1 a1 a2 a3, zr_ext x2 a4 a5]
  omega
def sz_u87 : sx_Ru := ([(0, 15), (0, 4), (0, 7), (0, 2000), (0, 2000), (0, 63), (1, 1)], [[-1, 0, 0, 0, 0, 1]], ([], [(22, [[0, 1], [0, 0, 1], [0, 0, 0, 1], [0, 0, 0, 0, 1], [0, 0, 0, 0, 0, 1]])]), (1, 183, [], [0, 0, 0, 0, 0, 0, 1], [0, 0, 0, 0, 0, 0, 0, 1]), [], [(22, [[0, 1], [0, 0, 1], [0, 0, 0, 1], [0, 0, 0, 0, 1], [-1, 0, 0, 0, 0, 1]])])
theorem zs_au0 {hh : sx_H} : zAU 0 hh := by
  intro j h1 h2
  omega
def sz_u88 : sx_Ru := ([], [], ([], []), (0, 0, [], [], []), [], [(24, [[]])])
theorem zs_au_n {hh : sx_H} {x0 x1 : Int} (l0 : 0 ≤ x0) (u0 : x0 ≤ 64) (l1 : 1 ≤ x1) (u1 : x1 ≤ 1) (g0 : hh 183 0 x0 = x1) (p0 : zAU x0 hh) : zAU (x0 + 1) hh := by
  intro j h1 h2
  by_cases e : j = x0
  · rw [e, g0]
    omega
  · exact p0 j h1 (by omega)
def sz_u89 : sx_Ru := ([(0, 64), (1, 1)], [], ([(183, [], [0, 1], [0, 0, 1])], [(24, [[0, 1]])]), (0, 0, [], [], []), [], [(24, [[1, 1]])])
theorem zs_ur_b {hh : sx_H} {x0 x1 x2 x3 x4 x5 : Int} (l0 : 0 ≤ x0) (u0 : x0 ≤ 15) (l1 : 0 ≤ x1) (u1 : x1 ≤ 4) (l2 : 0 ≤ x2) (u2 : x2 ≤ 7) (l3 : 0 ≤ x3) (u3 : x3 ≤ 2000) (l4 : 0 ≤ x4) (u4 : x4 ≤ 2000) (l5 : 0 ≤ x5) (u5 : x5 ≤ 64) (f0 : 0 ≤ x4 - 1) (f1 : 0 ≤ -x3 + 64) (p0 : zUR x0 x1 x2 x3 x4 hh) (p1 : zAU x5 hh) : 0 ≤ -x5 + 63 := by
  have h1 := zn_nn hh x0 x1
  have h2 := zr_nn hh x2
  unfold zUR at p0
  by_cases e : x5 = 64
  · have := zcu_all (hh 183 0) 64 (fun i a b => p1 i a (by omega))
    omega
  · omega
def sz_u90 : sx_Ru := ([(0, 15), (0, 4), (0, 7), (0, 2000), (0, 2000), (0, 64)], [[-1, 0, 0, 0, 0, 1], [64, 0, 0, 0, -1]], ([], [(22, [[0, 1], [0, 0, 1], [0, 0, 0, 1], [0, 0, 0, 0, 1], [0, 0, 0, 0, 0, 1]]), (24, [[0, 0, 0, 0, 0, 0, 1]])]), (0, 0, [], [], []), [[63, 0, 0, 0, 0, 0, -1]], [])
theorem zs_aq0 {hh : sx_H} {x0 : Int} (l0 : 0 ≤ x0) (u0 : x0 ≤ 15) : zAQ x0 0 0 hh := by
  simp [zAQ]
def sz_u91 : sx_Ru := ([(0, 15)], [], ([], []), (0, 0, [], [], []), [], [(25, [[0, 1], [], []])])
theorem zs_aq_p {hh : sx_H} {x0 x1 x2 x3 x4 x5 : Int} (l0 : 0 ≤ x0) (u0 : x0 ≤ 15) (l1 : 0 ≤ x1) (u1 : x1 ≤ 3) (l2 : -2147483648 ≤ x2) (u2 : x2 ≤ 2147483647) (l3 : 1 ≤ x3) (u3 : x3 ≤ 1) (l4 : 0 ≤ x4) (u4 : x4 ≤ 512) (l5 : 0 ≤ x5) (u5 : x5 ≤ 2) (f0 : 0 ≤ x4 - 256 * x5 + 255) (f1 : 0 ≤ -x4 + 256 * x5) (g0 : hh 139 0 (4 * x0 + x1) = x3) (g1 : hh 140 0 (4 * x0 + x1) = x4) (p0 : zAQ x0 x1 x2 hh) : zAQ x0 (x1 + 1) (x2 + x5 + 1) hh := by
  have hw := zw_1 (p := x5) g0 l3 g1 (by omega) (by omega) (by omega)
  have hk : x1 = 0 ∨ x1 = 1 ∨ x1 = 2 ∨ x1 = 3 := by omega
  rcases hk with rfl | rfl | rfl | rfl <;> simp [zAQ] at p0 ⊢ <;> (try simp at hw) <;> omega
def sz_u92 : sx_Ru := ([(0, 15), (0, 3), (-2147483648, 2147483647), (1, 1), (0, 512), (0, 2)], [[255, 0, 0, 0, 0, 1, -256], [0, 0, 0, 0, 0, -1, 256]], ([(139, [], [0, 4, 1], [0, 0, 0, 0, 1]), (140, [], [0, 4, 1], [0, 0, 0, 0, 0, 1])], [(25, [[0, 1], [0, 0, 1], [0, 0, 0, 1]])]), (0, 0, [], [], []), [], [(25, [[0, 1], [1, 0, 1], [1, 0, 0, 1, 0, 0, 1]])])
theorem zs_aq_n {hh : sx_H} {x0 x1 x2 x3 : Int} (l0 : 0 ≤ x0) (u0 : x0 ≤ 15) (l1 : 0 ≤ x1) (u1 : x1 ≤ 3) (l2 : -2147483648 ≤ x2) (u2 : x2 ≤ 2147483647) (l3 : 0 ≤ x3) (u3 : x3 ≤ 0) (g0 : hh 139 0 (4 * x0 + x1) = x3) (p0 : zAQ x0 x1 x2 hh) : zAQ x0 (x1 + 1) x2 hh := by
  have hw := zw_0 g0 u3 l3
  have hk : x1 = 0 ∨ x1 = 1 ∨ x1 = 2 ∨ x1 = 3 := by omega
  rcases hk with rfl | rfl | rfl | rfl <;> simp [zAQ] at p0 ⊢ <;> (try simp at hw) <;> omega
def sz_u93 : sx_Ru := ([(0, 15), (0, 3), (-2147483648, 2147483647), (0, 0)], [], ([(139, [], [0, 4, 1], [0, 0, 0, 0, 1])], [(25, [[0, 1], [0, 0, 1], [0, 0, 0, 1]])]), (0, 0, [], [], []), [], [(25, [[0, 1], [1, 0, 1], [0, 0, 0, 1]])])
theorem zs_bq0 {hh : sx_H} {x0 x1 x2 x3 : Int} (l0 : 0 ≤ x0) (u0 : x0 ≤ 15) (l1 : 0 ≤ x1) (u1 : x1 ≤ 4) (l2 : -2147483648 ≤ x2) (u2 : x2 ≤ 2147483647) (l3 : 0 ≤ x3) (u3 : x3 ≤ 4) (f0 : 0 ≤ x1 - x3) (g0 : hh 136 0 x0 = x3) (p0 : zAQ x0 x1 x2 hh) : zBQ x0 0 x2 hh := by
  have n0 := zw_nn hh (4 * x0)
  have n1 := zw_nn hh (4 * x0 + 1)
  have n2 := zw_nn hh (4 * x0 + 2)
  have n3 := zw_nn hh (4 * x0 + 3)
  have e : ∀ (c d : Prop) [Decidable c] [Decidable d] (a : Int), 0 ≤ a → (c → d) → (if c then a else 0) ≤ (if d then a else 0) := fun c d _ _ a h i => by
    by_cases hc : c
    · rw [if_pos hc, if_pos (i hc)]
      exact Int.le_refl _
    · rw [if_neg hc]
      split <;> omega
  have i0 := e (0 < hh 136 0 x0) (0 < x1) _ n0 (by omega)
  have i1 := e (1 < hh 136 0 x0) (1 < x1) _ n1 (by omega)
  have i2 := e (2 < hh 136 0 x0) (2 < x1) _ n2 (by omega)
  have i3 := e (3 < hh 136 0 x0) (3 < x1) _ n3 (by omega)
  have z1 : zn hh x0 0 = (if 0 < hh 136 0 x0 then zw hh (4 * x0) else 0) + ((if 1 < hh 136 0 x0 then zw hh (4 * x0 + 1) else 0) + ((if 2 < hh 136 0 x0 then zw hh (4 * x0 + 2) else 0) + (if 3 < hh 136 0 x0 then zw hh (4 * x0 + 3) else 0))) := by
    simp [zn, zt]
  have z2 : zq hh 0 = 0 := by simp [zq]
  unfold zBQ
  unfold zAQ at p0
  rw [z1, z2]
  refine Int.le_trans ?_ p0
  rw [Int.add_zero]
  exact Int.add_le_add i0 (Int.add_le_add i1 (Int.add_le_add i2 i3))
def sz_u94 : sx_Ru := ([(0, 15), (0, 4), (-2147483648, 2147483647), (0, 4)], [[0, 0, 1, 0, -1]], ([(136, [], [0, 1], [0, 0, 0, 0, 1])], [(25, [[0, 1], [0, 0, 1], [0, 0, 0, 1]])]), (0, 0, [], [], []), [], [(26, [[0, 1], [], [0, 0, 0, 1]])])
theorem zs_bq_1 {hh : sx_H} {x0 x1 x2 x3 : Int} (l0 : 0 ≤ x0) (u0 : x0 ≤ 15) (l1 : 0 ≤ x1) (u1 : x1 ≤ 6) (l2 : -2147483648 ≤ x2) (u2 : x2 ≤ 2147483647) (l3 : 1 ≤ x3) (u3 : x3 ≤ 1) (g0 : hh 188 0 x1 = x3) (p0 : zBQ x0 x1 x2 hh) (p1 : zHN x1 hh) : zBQ x0 (x1 + 1) (x2 + 1) hh := by
  unfold zBQ at *
  rw [zq_up _ _ l1 u1]
  have := (zu_nn hh x1).2
  omega
def sz_u95 : sx_Ru := ([(0, 15), (0, 6), (-2147483648, 2147483647), (1, 1)], [], ([(188, [], [0, 0, 1], [0, 0, 0, 0, 1])], [(26, [[0, 1], [0, 0, 1], [0, 0, 0, 1]]), (28, [[0, 0, 1]])]), (0, 0, [], [], []), [], [(26, [[0, 1], [1, 0, 1], [1, 0, 0, 1]])])
theorem zs_bq_c {hh : sx_H} {x0 x1 x2 x3 : Int} (l0 : 0 ≤ x0) (u0 : x0 ≤ 15) (l1 : 0 ≤ x1) (u1 : x1 ≤ 6) (l2 : -2147483648 ≤ x2) (u2 : x2 ≤ 2147483647) (l3 : 0 ≤ x3) (u3 : x3 ≤ 0) (g0 : hh 188 0 x1 = x3) (p0 : zBQ x0 x1 x2 hh) : zBQ x0 (x1 + 1) x2 hh := by
  unfold zBQ at *
  rw [zq_up _ _ l1 u1, zu_c g0 u3 l3]
  omega
def sz_u96 : sx_Ru := ([(0, 15), (0, 6), (-2147483648, 2147483647), (0, 0)], [], ([(188, [], [0, 0, 1], [0, 0, 0, 0, 1])], [(26, [[0, 1], [0, 0, 1], [0, 0, 0, 1]])]), (0, 0, [], [], []), [], [(26, [[0, 1], [1, 0, 1], [0, 0, 0, 1]])])
theorem zs_bq_h {hh : sx_H} {x0 x1 x2 x3 : Int} (l0 : 0 ≤ x0) (u0 : x0 ≤ 15) (l1 : 0 ≤ x1) (u1 : x1 ≤ 6) (l2 : -2147483648 ≤ x2) (u2 : x2 ≤ 2147483647) (l3 : 7 ≤ x3) (u3 : x3 ≤ 7) (p0 : zBQ x0 x1 x2 hh) (p1 : zHZ x1 x3 hh) : zBQ x0 (x1 + 1) x2 hh := by
  unfold zBQ at *
  rw [zq_up _ _ l1 u1, zu_h (zh_hz l3 p1)]
  omega
def sz_u97 : sx_Ru := ([(0, 15), (0, 6), (-2147483648, 2147483647), (7, 7)], [], ([], [(26, [[0, 1], [0, 0, 1], [0, 0, 0, 1]]), (27, [[0, 0, 1], [0, 0, 0, 0, 1]])]), (0, 0, [], [], []), [], [(26, [[0, 1], [1, 0, 1], [0, 0, 0, 1]])])
theorem zs_ur_bq {hh : sx_H} {x0 x1 x2 x3 : Int} (l0 : 0 ≤ x0) (u0 : x0 ≤ 15) (l1 : 7 ≤ x1) (u1 : x1 ≤ 7) (l2 : -2147483648 ≤ x2) (u2 : x2 ≤ 2147483647) (l3 : 0 ≤ x3) (u3 : x3 ≤ 64) (p0 : zBQ x0 x1 x2 hh) (p1 : zUE x3 hh) : zUR x0 0 0 (x2 + x3) 0 hh := by
  have e : zr hh 0 = zq hh x1 := by
    obtain rfl : x1 = 7 := by omega
    simp [zr, zq]
  unfold zUR zBQ zUE at *
  rw [e]
  omega
def sz_u98 : sx_Ru := ([(0, 15), (7, 7), (-2147483648, 2147483647), (0, 64)], [], ([], [(26, [[0, 1], [0, 0, 1], [0, 0, 0, 1]]), (21, [[0, 0, 0, 0, 1]])]), (0, 0, [], [], []), [], [(22, [[0, 1], [], [], [0, 0, 0, 1, 1], []])])
theorem zs_hz0 {hh : sx_H} {x0 : Int} (l0 : 0 ≤ x0) (u0 : x0 ≤ 6) : zHZ x0 0 hh := by
  intro j h1 h2
  omega
def sz_u99 : sx_Ru := ([(0, 6)], [], ([], []), (0, 0, [], [], []), [], [(27, [[0, 1], []])])
theorem zs_hz_n {hh : sx_H} {x0 x1 x2 : Int} (l0 : 0 ≤ x0) (u0 : x0 ≤ 6) (l1 : 0 ≤ x1) (u1 : x1 ≤ 6) (l2 : 255 ≤ x2) (u2 : x2 ≤ 255) (g0 : hh 187 0 (7 * x0 + x1) = x2) (p0 : zHZ x0 x1 hh) : zHZ x0 (x1 + 1) hh := by
  intro j h1 h2
  by_cases e : j = x1
  · rw [e, g0]
    omega
  · exact p0 j h1 (by omega)
def sz_u100 : sx_Ru := ([(0, 6), (0, 6), (255, 255)], [], ([(187, [], [0, 7, 1], [0, 0, 0, 1])], [(27, [[0, 1], [0, 0, 1]])]), (0, 0, [], [], []), [], [(27, [[0, 1], [1, 0, 1]])])
theorem zs_hz7 {hh : sx_H} {x0 x1 : Int} (l0 : 0 ≤ x0) (u0 : x0 ≤ 6) (l1 : 7 ≤ x1) (u1 : x1 ≤ 7) (p0 : zHZ x0 x1 hh) : zHZ x0 7 hh := by
  intro j h1 h2
  exact p0 j h1 (by omega)
def sz_u101 : sx_Ru := ([(0, 6), (7, 7)], [], ([], [(27, [[0, 1], [0, 0, 1]])]), (0, 0, [], [], []), [], [(27, [[0, 1], [7]])])
theorem zs_hn1 {hh : sx_H} {x0 x1 x2 : Int} (l0 : 0 ≤ x0) (u0 : x0 ≤ 6) (l1 : 0 ≤ x1) (u1 : x1 ≤ 6) (l2 : 0 ≤ x2) (u2 : x2 ≤ 254) (g0 : hh 187 0 (7 * x0 + x1) = x2) (p0 : zHZ x0 x1 hh) : zHN x0 hh := by
  exact zh_no l1 u1 g0 (by omega)
def sz_u102 : sx_Ru := ([(0, 6), (0, 6), (0, 254)], [], ([(187, [], [0, 7, 1], [0, 0, 0, 1])], [(27, [[0, 1], [0, 0, 1]])]), (0, 0, [], [], []), [], [(28, [[0, 1]])])
theorem zs_hn2 {hh : sx_H} {x0 x1 x2 : Int} (l0 : 0 ≤ x0) (u0 : x0 ≤ 6) (l1 : 0 ≤ x1) (u1 : x1 ≤ 6) (l2 : 256 ≤ x2) (u2 : x2 ≤ 300) (g0 : hh 187 0 (7 * x0 + x1) = x2) (p0 : zHZ x0 x1 hh) : zHN x0 hh := by
  exact zh_no l1 u1 g0 (by omega)
def sz_u103 : sx_Ru := ([(0, 6), (0, 6), (256, 300)], [], ([(187, [], [0, 7, 1], [0, 0, 0, 1])], [(27, [[0, 1], [0, 0, 1]])]), (0, 0, [], [], []), [], [(28, [[0, 1]])])
theorem zs_ur_p {hh : sx_H} {x0 x1 x2 x3 x4 x5 x6 x7 x8 : Int} (l0 : 0 ≤ x0) (u0 : x0 ≤ 15) (l1 : 0 ≤ x1) (u1 : x1 ≤ 3) (l2 : 0 ≤ x2) (u2 : x2 ≤ 7) (l3 : 0 ≤ x3) (u3 : x3 ≤ 2000) (l4 : 0 ≤ x4) (u4 : x4 ≤ 2000) (l5 : 0 ≤ x5) (u5 : x5 ≤ 4) (l6 : 1 ≤ x6) (u6 : x6 ≤ 1) (l7 : 0 ≤ x7) (u7 : x7 ≤ 512) (l8 : 0 ≤ x8) (u8 : x8 ≤ 2) (f0 : 0 ≤ -x1 + x5 - 1) (f1 : 0 ≤ x7 - 256 * x8 + 255) (f2 : 0 ≤ -x7 + 256 * x8) (g0 : hh 136 0 x0 = x5) (g1 : hh 139 0 (4 * x0 + x1) = x6) (g2 : hh 140 0 (4 * x0 + x1) = x7) (p0 : zUR x0 x1 x2 x3 x4 hh) : zUR x0 (x1 + 1) x2 x3 (x4 + x8 + 1) hh := by
  have hw := zw_1 (p := x8) g1 l6 g2 (by omega) (by omega) (by omega)
  have e : zt hh x0 x1 = zw hh (4 * x0 + x1) := by
    unfold zt
    rw [if_pos (by omega)]
  unfold zUR at *
  rw [zn_dn _ _ _ l1 u1, e, hw] at p0
  omega
def sz_u104 : sx_Ru := ([(0, 15), (0, 3), (0, 7), (0, 2000), (0, 2000), (0, 4), (1, 1), (0, 512), (0, 2)], [[-1, 0, -1, 0, 0, 0, 1], [255, 0, 0, 0, 0, 0, 0, 0, 1, -256], [0, 0, 0, 0, 0, 0, 0, 0, -1, 256]], ([(136, [], [0, 1], [0, 0, 0, 0, 0, 0, 1]), (139, [], [0, 4, 1], [0, 0, 0, 0, 0, 0, 0, 1]), (140, [], [0, 4, 1], [0, 0, 0, 0, 0, 0, 0, 0, 1])], [(22, [[0, 1], [0, 0, 1], [0, 0, 0, 1], [0, 0, 0, 0, 1], [0, 0, 0, 0, 0, 1]])]), (0, 0, [], [], []), [], [(22, [[0, 1], [1, 0, 1], [0, 0, 0, 1], [0, 0, 0, 0, 1], [1, 0, 0, 0, 0, 1, 0, 0, 0, 1]])])
theorem zs_ur_n {hh : sx_H} {x0 x1 x2 x3 x4 x5 : Int} (l0 : 0 ≤ x0) (u0 : x0 ≤ 15) (l1 : 0 ≤ x1) (u1 : x1 ≤ 3) (l2 : 0 ≤ x2) (u2 : x2 ≤ 7) (l3 : 0 ≤ x3) (u3 : x3 ≤ 2000) (l4 : 0 ≤ x4) (u4 : x4 ≤ 2000) (l5 : 0 ≤ x5) (u5 : x5 ≤ 0) (g0 : hh 139 0 (4 * x0 + x1) = x5) (p0 : zUR x0 x1 x2 x3 x4 hh) : zUR x0 (x1 + 1) x2 x3 x4 hh := by
  have hw := zw_0 g0 u5 l5
  have e : zt hh x0 x1 = 0 := by
    unfold zt
    rw [hw]
    split <;> rfl
  unfold zUR at *
  rw [zn_dn _ _ _ l1 u1, e] at p0
  omega
def sz_u105 : sx_Ru := ([(0, 15), (0, 3), (0, 7), (0, 2000), (0, 2000), (0, 0)], [], ([(139, [], [0, 4, 1], [0, 0, 0, 0, 0, 0, 1])], [(22, [[0, 1], [0, 0, 1], [0, 0, 0, 1], [0, 0, 0, 0, 1], [0, 0, 0, 0, 0, 1]])]), (0, 0, [], [], []), [], [(22, [[0, 1], [1, 0, 1], [0, 0, 0, 1], [0, 0, 0, 0, 1], [0, 0, 0, 0, 0, 1]])])
theorem zs_ur_e {hh : sx_H} {x0 x1 x2 x3 x4 x5 : Int} (l0 : 0 ≤ x0) (u0 : x0 ≤ 15) (l1 : 0 ≤ x1) (u1 : x1 ≤ 4) (l2 : 0 ≤ x2) (u2 : x2 ≤ 7) (l3 : 0 ≤ x3) (u3 : x3 ≤ 2000) (l4 : 0 ≤ x4) (u4 : x4 ≤ 2000) (l5 : 0 ≤ x5) (u5 : x5 ≤ 4) (f0 : 0 ≤ x1 - x5) (g0 : hh 136 0 x0 = x5) (p0 : zUR x0 x1 x2 x3 x4 hh) : zUR x0 4 x2 x3 x4 hh := by
  have := zn_nn hh x0 x1
  unfold zUR at *
  rw [zn_4 _ _ 4 (by omega)]
  omega
def sz_u106 : sx_Ru := ([(0, 15), (0, 4), (0, 7), (0, 2000), (0, 2000), (0, 4)], [[0, 0, 1, 0, 0, 0, -1]], ([(136, [], [0, 1], [0, 0, 0, 0, 0, 0, 1])], [(22, [[0, 1], [0, 0, 1], [0, 0, 0, 1], [0, 0, 0, 0, 1], [0, 0, 0, 0, 0, 1]])]), (0, 0, [], [], []), [], [(22, [[0, 1], [4], [0, 0, 0, 1], [0, 0, 0, 0, 1], [0, 0, 0, 0, 0, 1]])])
theorem zs_ur_h {hh : sx_H} {x0 x1 x2 x3 x4 x5 : Int} (l0 : 0 ≤ x0) (u0 : x0 ≤ 15) (l1 : 0 ≤ x1) (u1 : x1 ≤ 4) (l2 : 0 ≤ x2) (u2 : x2 ≤ 6) (l3 : 0 ≤ x3) (u3 : x3 ≤ 2000) (l4 : 0 ≤ x4) (u4 : x4 ≤ 2000) (l5 : 1 ≤ x5) (u5 : x5 ≤ 1) (g0 : hh 188 0 x2 = x5) (p0 : zUR x0 x1 x2 x3 x4 hh) (p1 : zHN x2 hh) : zUR x0 x1 (x2 + 1) x3 (x4 + 1) hh := by
  have hu := zu_1 g0 l5 p1
  unfold zUR at *
  rw [zr_dn _ _ l2 u2, hu] at p0
  omega
def sz_u107 : sx_Ru := ([(0, 15), (0, 4), (0, 6), (0, 2000), (0, 2000), (1, 1)], [], ([(188, [], [0, 0, 0, 1], [0, 0, 0, 0, 0, 0, 1])], [(22, [[0, 1], [0, 0, 1], [0, 0, 0, 1], [0, 0, 0, 0, 1], [0, 0, 0, 0, 0, 1]]), (28, [[0, 0, 0, 1]])]), (0, 0, [], [], []), [], [(22, [[0, 1], [0, 0, 1], [1, 0, 0, 1], [0, 0, 0, 0, 1], [1, 0, 0, 0, 0, 1]])])
theorem zs_ur_c {hh : sx_H} {x0 x1 x2 x3 x4 : Int} (l0 : 0 ≤ x0) (u0 : x0 ≤ 15) (l1 : 0 ≤ x1) (u1 : x1 ≤ 4) (l2 : 0 ≤ x2) (u2 : x2 ≤ 6) (l3 : 0 ≤ x3) (u3 : x3 ≤ 2000) (l4 : 0 ≤ x4) (u4 : x4 ≤ 2000) (p0 : zUR x0 x1 x2 x3 x4 hh) : zUR x0 x1 (x2 + 1) x3 x4 hh := by
  have hu := (zu_nn hh x2).1
  unfold zUR at *
  rw [zr_dn _ _ l2 u2] at p0
  omega
def sz_u108 : sx_Ru := ([(0, 15), (0, 4), (0, 6), (0, 2000), (0, 2000)], [], ([], [(22, [[0, 1], [0, 0, 1], [0, 0, 0, 1], [0, 0, 0, 0, 1], [0, 0, 0, 0, 0, 1]])]), (0, 0, [], [], []), [], [(22, [[0, 1], [0, 0, 1], [1, 0, 0, 1], [0, 0, 0, 0, 1], [0, 0, 0, 0, 0, 1]])])
theorem zs_ur_64 {hh : sx_H} {x0 x1 x2 x3 x4 : Int} (l0 : 0 ≤ x0) (u0 : x0 ≤ 15) (l1 : 0 ≤ x1) (u1 : x1 ≤ 4) (l2 : 0 ≤ x2) (u2 : x2 ≤ 7) (l3 : 0 ≤ x3) (u3 : x3 ≤ 2000) (l4 : 0 ≤ x4) (u4 : x4 ≤ 2000) (f0 : 0 ≤ -x3 + 64) (p0 : zUR x0 x1 x2 x3 x4 hh) : zUR x0 x1 x2 64 (-x3 + x4 + 64) hh := by
  unfold zUR at *
  omega
def sz_u109 : sx_Ru := ([(0, 15), (0, 4), (0, 7), (0, 2000), (0, 2000)], [[64, 0, 0, 0, -1]], ([], [(22, [[0, 1], [0, 0, 1], [0, 0, 0, 1], [0, 0, 0, 0, 1], [0, 0, 0, 0, 0, 1]])]), (0, 0, [], [], []), [], [(22, [[0, 1], [0, 0, 1], [0, 0, 0, 1], [64], [64, 0, 0, 0, -1, 1]])])
theorem zs_rn0 {hh : sx_H} {x0 : Int} (l0 : 0 ≤ x0) (u0 : x0 ≤ 63) : zRN x0 0 hh := by
  intro j h1 h2
  omega
def sz_u110 : sx_Ru := ([(0, 63)], [], ([], []), (0, 0, [], [], []), [], [(29, [[0, 1], []])])
theorem zs_rn_1 {hh : sx_H} {x0 x1 x2 : Int} (l0 : 0 ≤ x0) (u0 : x0 ≤ 63) (l1 : 0 ≤ x1) (u1 : x1 ≤ 6) (l2 : -1 ≤ x2) (u2 : x2 ≤ -1) (g0 : hh 104 0 (256 * x0 + 33 * x1) = x2) (p0 : zRN x0 x1 hh) : zRN x0 (x1 + 1) hh := by
  intro j h1 h2
  by_cases e : j = x1
  · rw [e, g0]
    omega
  · exact p0 j h1 (by omega)
def sz_u111 : sx_Ru := ([(0, 63), (0, 6), (-1, -1)], [], ([(104, [], [0, 256, 33], [0, 0, 0, 1])], [(29, [[0, 1], [0, 0, 1]])]), (0, 0, [], [], []), [], [(29, [[0, 1], [1, 0, 1]])])
theorem zs_rn_2 {hh : sx_H} {x0 x1 x2 : Int} (l0 : 0 ≤ x0) (u0 : x0 ≤ 63) (l1 : 0 ≤ x1) (u1 : x1 ≤ 6) (l2 : 0 ≤ x2) (u2 : x2 ≤ 63) (g0 : hh 104 0 (256 * x0 + 33 * x1) = x2) (p0 : zRN x0 x1 hh) : zRN x0 (x1 + 1) hh := by
  intro j h1 h2
  by_cases e : j = x1
  · rw [e, g0]
    omega
  · exact p0 j h1 (by omega)
def sz_u112 : sx_Ru := ([(0, 63), (0, 6), (0, 63)], [], ([(104, [], [0, 256, 33], [0, 0, 0, 1])], [(29, [[0, 1], [0, 0, 1]])]), (0, 0, [], [], []), [], [(29, [[0, 1], [1, 0, 1]])])
theorem zs_rn7 {hh : sx_H} {x0 x1 : Int} (l0 : 0 ≤ x0) (u0 : x0 ≤ 63) (l1 : 7 ≤ x1) (u1 : x1 ≤ 7) (p0 : zRN x0 x1 hh) : zRN x0 7 hh := by
  intro j h1 h2
  exact p0 j h1 (by omega)
def sz_u113 : sx_Ru := ([(0, 63), (7, 7)], [], ([], [(29, [[0, 1], [0, 0, 1]])]), (0, 0, [], [], []), [], [(29, [[0, 1], [7]])])
theorem zs_rn_u1 {hh : sx_H} {x0 x1 x2 : Int} (l0 : 0 ≤ x0) (u0 : x0 ≤ 63) (l1 : 0 ≤ x1) (u1 : x1 ≤ 6) (l2 : 0 ≤ x2) (u2 : x2 ≤ 127) (g0 : hh 104 0 (256 * x0 + 33 * x1) = x2) (p0 : zRN x0 7 hh) : 0 ≤ -x2 + 63 := by
  have := p0 x1 l1 (by omega)
  rw [g0] at this
  omega
def sz_u114 : sx_Ru := ([(0, 63), (0, 6), (0, 127)], [], ([(104, [], [0, 256, 33], [0, 0, 0, 1])], [(29, [[0, 1], [7]])]), (0, 0, [], [], []), [[63, 0, 0, -1]], [])
theorem zs_rn_u2 {hh : sx_H} {x0 x1 x2 : Int} (l0 : 0 ≤ x0) (u0 : x0 ≤ 63) (l1 : 0 ≤ x1) (u1 : x1 ≤ 6) (l2 : -128 ≤ x2) (u2 : x2 ≤ -1) (g0 : hh 104 0 (256 * x0 + 33 * x1) = x2) (p0 : zRN x0 7 hh) : 0 ≤ x2 + 1 := by
  have := p0 x1 l1 (by omega)
  rw [g0] at this
  omega
def sz_u115 : sx_Ru := ([(0, 63), (0, 6), (-128, -1)], [], ([(104, [], [0, 256, 33], [0, 0, 0, 1])], [(29, [[0, 1], [7]])]), (0, 0, [], [], []), [[1, 0, 0, 1]], [])
theorem zs_us_mk {hh : sx_H} {x0 x1 : Int} (l0 : 0 ≤ x0) (u0 : x0 ≤ 63) (l1 : 1 ≤ x1) (u1 : x1 ≤ 1) (g0 : hh 183 0 x0 = x1) : zUS x0 hh := by
  unfold zUS
  rw [g0]
  omega
def sz_u116 : sx_Ru := ([(0, 63), (1, 1)], [], ([(183, [], [0, 1], [0, 0, 1])], []), (0, 0, [], [], []), [], [(30, [[0, 1]])])
theorem zs_us_w {hh hh' : sx_H} {x0 x1 x2 : Int} (l0 : 0 ≤ x0) (u0 : x0 ≤ 63) (l1 : 0 ≤ x1) (u1 : x1 ≤ 63) (l2 : 1 ≤ x2) (u2 : x2 ≤ 1) (p0 : zUS x0 hh) (a0 : ∀ c g : Int, hh' 183 c g = if c = 0 ∧ g = x1 then x2 else hh 183 c g) : zUS x0 hh' := by
  unfold zUS at *
  rw [a0]
  split
  · omega
  · exact p0
def sz_u117 : sx_Ru := ([(0, 63), (0, 63), (1, 1)], [], ([], [(30, [[0, 1]])]), (1, 183, [], [0, 0, 1], [0, 0, 0, 1]), [], [(30, [[0, 1]])])
theorem zs_ne_mk {hh : sx_H} {x0 x1 x2 : Int} (l0 : 0 ≤ x0) (u0 : x0 ≤ 63) (l1 : 0 ≤ x1) (u1 : x1 ≤ 63) (l2 : 0 ≤ x2) (u2 : x2 ≤ 0) (g0 : hh 183 0 x1 = x2) (p0 : zUS x0 hh) : zNE x0 x1 hh := by
  unfold zUS at p0
  unfold zNE
  intro e
  rw [e, g0] at p0
  omega
def sz_u118 : sx_Ru := ([(0, 63), (0, 63), (0, 0)], [], ([(183, [], [0, 0, 1], [0, 0, 0, 1])], [(30, [[0, 1]])]), (0, 0, [], [], []), [], [(31, [[0, 1], [0, 0, 1]])])
theorem zs_rn_w {hh hh' : sx_H} {x0 x1 x2 x3 x4 : Int} (l0 : 0 ≤ x0) (u0 : x0 ≤ 63) (l1 : 0 ≤ x1) (u1 : x1 ≤ 7) (l2 : 0 ≤ x2) (u2 : x2 ≤ 63) (l3 : 0 ≤ x3) (u3 : x3 ≤ 255) (l4 : -2147483648 ≤ x4) (u4 : x4 ≤ 2147483647) (p0 : zRN x0 x1 hh) (p1 : zNE x0 x2 hh) (a0 : ∀ c g : Int, hh' 104 c g = if c = 0 ∧ g = 256 * x2 + x3 then x4 else hh 104 c g) : zRN x0 x1 hh' := by
  unfold zNE at p1
  intro j h1 h2
  rw [a0, if_neg (by omega)]
  exact p0 j h1 h2
def sz_u119 : sx_Ru := ([(0, 63), (0, 7), (0, 63), (0, 255), (-2147483648, 2147483647)], [], ([], [(29, [[0, 1], [0, 0, 1]]), (31, [[0, 1], [0, 0, 0, 1]])]), (1, 104, [], [0, 0, 0, 256, 1], [0, 0, 0, 0, 0, 1]), [], [(29, [[0, 1], [0, 0, 1]])])
theorem zs_rc0 {hh : sx_H} : zRC 8 0 hh := by
  unfold zRC
  exact zrc_nn _ _ _
def sz_u120 : sx_Ru := ([], [], ([], []), (0, 0, [], [], []), [], [(32, [[8], []])])
theorem zs_rc_1 {hh : sx_H} {x0 x1 x2 x3 : Int} (l0 : 8 ≤ x0) (u0 : x0 ≤ 23) (l1 : 0 ≤ x1) (u1 : x1 ≤ 24) (l2 : 1 ≤ x2) (u2 : x2 ≤ 1) (l3 : -1 ≤ x3) (u3 : x3 ≤ -1) (g0 : hh 102 0 x0 = x2) (g1 : hh 103 0 x0 = x3) (p0 : zRC x0 x1 hh) : zRC (x0 + 1) (x1 + 1) hh := by
  unfold zRC at *
  have e : (x0 + 1 - 8).toNat = (x0 - 8).toNat + 1 := by omega
  rw [e]
  simp only [zrc]
  have h : 8 + (((x0 - 8).toNat : Nat) : Int) = x0 := by omega
  rw [h, if_pos (by omega)]
  omega
def sz_u121 : sx_Ru := ([(8, 23), (0, 24), (1, 1), (-1, -1)], [], ([(102, [], [0, 1], [0, 0, 0, 1]), (103, [], [0, 1], [0, 0, 0, 0, 1])], [(32, [[0, 1], [0, 0, 1]])]), (0, 0, [], [], []), [], [(32, [[1, 1], [1, 0, 1]])])
theorem zs_rc_0 {hh : sx_H} {x0 x1 x2 : Int} (l0 : 8 ≤ x0) (u0 : x0 ≤ 23) (l1 : 0 ≤ x1) (u1 : x1 ≤ 24) (l2 : 0 ≤ x2) (u2 : x2 ≤ 1) (g0 : hh 102 0 x0 = x2) (p0 : zRC x0 x1 hh) : zRC (x0 + 1) x1 hh := by
  unfold zRC at *
  have e : (x0 + 1 - 8).toNat = (x0 - 8).toNat + 1 := by omega
  rw [e]
  simp only [zrc]
  split <;> omega
def sz_u122 : sx_Ru := ([(8, 23), (0, 24), (0, 1)], [], ([(102, [], [0, 1], [0, 0, 0, 1])], [(32, [[0, 1], [0, 0, 1]])]), (0, 0, [], [], []), [], [(32, [[1, 1], [0, 0, 1]])])
theorem zs_rc_le {hh : sx_H} {x0 x1 x2 : Int} (l0 : 24 ≤ x0) (u0 : x0 ≤ 24) (l1 : 0 ≤ x1) (u1 : x1 ≤ 24) (l2 : 0 ≤ x2) (u2 : x2 ≤ 24) (f0 : 0 ≤ x1 - x2) (p0 : zRC x0 x1 hh) : zRC 24 x2 hh := by
  obtain rfl : x0 = 24 := by omega
  unfold zRC at *
  omega
def sz_u123 : sx_Ru := ([(24, 24), (0, 24), (0, 24)], [[0, 0, 1, -1]], ([], [(32, [[0, 1], [0, 0, 1]])]), (0, 0, [], [], []), [], [(32, [[24], [0, 0, 0, 1]])])
theorem zs_np0 {hh : sx_H} : zNP 8 hh := by
  intro j h1 h2
  omega
def sz_u124 : sx_Ru := ([], [], ([], []), (0, 0, [], [], []), [], [(33, [[8]])])
theorem zs_np_s {hh : sx_H} {x0 x1 : Int} (l0 : 8 ≤ x0) (u0 : x0 ≤ 23) (l1 : 0 ≤ x1) (u1 : x1 ≤ 0) (g0 : hh 102 0 x0 = x1) (p0 : zNP x0 hh) : zNP (x0 + 1) hh := by
  intro j h1 h2
  by_cases e : j = x0
  · rw [e, g0]
    omega
  · exact p0 j h1 (by omega)
def sz_u125 : sx_Ru := ([(8, 23), (0, 0)], [], ([(102, [], [0, 1], [0, 0, 1])], [(33, [[0, 1]])]), (0, 0, [], [], []), [], [(33, [[1, 1]])])
theorem zs_np_o {hh : sx_H} {x0 x1 : Int} (l0 : 8 ≤ x0) (u0 : x0 ≤ 23) (l1 : 0 ≤ x1) (u1 : x1 ≤ 7) (g0 : hh 103 0 x0 = x1) (p0 : zNP x0 hh) : zNP (x0 + 1) hh := by
  intro j h1 h2
  by_cases e : j = x0
  · rw [e, g0]
    omega
  · exact p0 j h1 (by omega)
def sz_u126 : sx_Ru := ([(8, 23), (0, 7)], [], ([(103, [], [0, 1], [0, 0, 1])], [(33, [[0, 1]])]), (0, 0, [], [], []), [], [(33, [[1, 1]])])
theorem zs_np_u {hh : sx_H} {x0 x1 x2 : Int} (l0 : 24 ≤ x0) (u0 : x0 ≤ 24) (l1 : 24 ≤ x1) (u1 : x1 ≤ 24) (l2 : 1 ≤ x2) (u2 : x2 ≤ 24) (p0 : zNP x0 hh) (p1 : zRC x1 x2 hh) : 0 ≤ -1 := by
  unfold zRC at p1
  have := zrc_none (hh 102 0) (hh 103 0) (x1 - 8).toNat (fun i a b => p0 i a (by omega))
  omega
def sz_u127 : sx_Ru := ([(24, 24), (24, 24), (1, 24)], [], ([], [(33, [[0, 1]]), (32, [[0, 0, 1], [0, 0, 0, 1]])]), (0, 0, [], [], []), [[-1]], [])
theorem zs_rc_f {hh : sx_H} {x0 x1 x2 : Int} (l0 : 8 ≤ x0) (u0 : x0 ≤ 23) (l1 : 1 ≤ x1) (u1 : x1 ≤ 1) (l2 : -1 ≤ x2) (u2 : x2 ≤ -1) (g0 : hh 102 0 x0 = x1) (g1 : hh 103 0 x0 = x2) : zRC 24 1 hh := by
  unfold zRC
  exact zrc_one _ _ x0 (by rw [g0]; omega) (by rw [g1]; omega) l0 _ (by omega)
def sz_u128 : sx_Ru := ([(8, 23), (1, 1), (-1, -1)], [], ([(102, [], [0, 1], [0, 0, 1]), (103, [], [0, 1], [0, 0, 0, 1])], []), (0, 0, [], [], []), [], [(32, [[24], [1]])])
theorem zs_rc_w {hh hh' : sx_H} {x0 x1 x2 x3 : Int} (l0 : 24 ≤ x0) (u0 : x0 ≤ 24) (l1 : 0 ≤ x1) (u1 : x1 ≤ 24) (l2 : 0 ≤ x2) (u2 : x2 ≤ 31) (l3 : -1 ≤ x3) (u3 : x3 ≤ 7) (p0 : zRC x0 x1 hh) (a0 : ∀ c g : Int, hh' 102 c g = hh 102 c g) (a1 : ∀ c g : Int, hh' 103 c g = if c = 0 ∧ g = x2 then x3 else hh 103 c g) : zRC x0 (x1 - 1) hh' := by
  unfold zRC at *
  have h := zrc_up (hh 102 0) (hh 103 0) (hh' 103 0) x2 (x0 - 8).toNat (fun i hi => by rw [a1]; exact if_neg (fun q => hi q.2))
  have e : zrc (hh' 102 0) (hh' 103 0) (x0 - 8).toNat = zrc (hh 102 0) (hh' 103 0) (x0 - 8).toNat := zrc_ext _ _ _ _ _ (fun i => a0 0 i) (fun _ => rfl)
  rw [e]
  omega
def sz_u129 : sx_Ru := ([(24, 24), (0, 24), (0, 31), (-1, 7)], [], ([], [(32, [[0, 1], [0, 0, 1]])]), (1, 103, [], [0, 0, 0, 1], [0, 0, 0, 0, 1]), [], [(32, [[0, 1], [-1, 0, 1]])])
theorem zs_ls_sp {hh hh' : sx_H} {x0 x1 x2 : Int} (l0 : 0 ≤ x0) (u0 : x0 ≤ 15) (l1 : 0 ≤ x1) (u1 : x1 ≤ 3) (l2 : -2147483648 ≤ x2) (u2 : x2 ≤ 2147483647) (g0 : hh 122 0 x0 = x1) (p0 : zLS hh) (a0 : ∀ c g : Int, hh' 122 c g = hh 122 c g) (a1 : ∀ c g : Int, hh' 125 c g = if c = 0 ∧ g = 4 * x0 + x1 then x2 else hh 125 c g) : zLS hh' := by
  intro s l h1 h2 h3
  rw [a0] at h3
  rw [a1]
  split
  · obtain rfl : s = x0 := by omega
    rw [g0] at h3
    omega
  · exact p0 s l h1 h2 h3
def sz_u130 : sx_Ru := ([(0, 15), (0, 3), (-2147483648, 2147483647)], [], ([(122, [], [0, 1], [0, 0, 1])], [(34, [])]), (1, 125, [], [0, 4, 1], [0, 0, 0, 1]), [], [(34, [])])
theorem zs_ls_62 {hh hh' : sx_H} {x0 x1 : Int} (l0 : 0 ≤ x0) (u0 : x0 ≤ 63) (l1 : -2147483648 ≤ x1) (u1 : x1 ≤ 2147483647) (f0 : 0 ≤ -x1 + 62) (p0 : zLS hh) (a0 : ∀ c g : Int, hh' 122 c g = hh 122 c g) (a1 : ∀ c g : Int, hh' 125 c g = if c = 0 ∧ g = x0 then x1 else hh 125 c g) : zLS hh' := by
  intro s l h1 h2 h3
  rw [a0] at h3
  rw [a1]
  split
  · omega
  · exact p0 s l h1 h2 h3
def sz_u131 : sx_Ru := ([(0, 63), (-2147483648, 2147483647)], [[62, 0, -1]], ([], [(34, [])]), (1, 125, [], [0, 1], [0, 0, 1]), [], [(34, [])])
theorem zs_ls_up {hh hh' : sx_H} {x0 x1 x2 : Int} (l0 : 0 ≤ x0) (u0 : x0 ≤ 15) (l1 : 0 ≤ x1) (u1 : x1 ≤ 3) (l2 : -2147483648 ≤ x2) (u2 : x2 ≤ 2147483647) (f0 : 0 ≤ -x2 + 62) (g0 : hh 122 0 x0 = x1) (g1 : hh 125 0 (4 * x0 + x1) = x2) (p0 : zLS hh) (a0 : ∀ c g : Int, hh' 122 c g = if c = 0 ∧ g = x0 then x1 + 1 else hh 122 c g) (a1 : ∀ c g : Int, hh' 125 c g = hh 125 c g) : zLS hh' := by
  intro s l h1 h2 h3
  rw [a0] at h3
  rw [a1]
  split at h3
  · next h =>
    obtain rfl := h.2
    by_cases e : l = x1
    · rw [e, g1]
      omega
    · exact p0 s l h1 h2 (by omega)
  · exact p0 s l h1 h2 h3
def sz_u132 : sx_Ru := ([(0, 15), (0, 3), (-2147483648, 2147483647)], [[62, 0, 0, -1]], ([(122, [], [0, 1], [0, 0, 1]), (125, [], [0, 4, 1], [0, 0, 0, 1])], [(34, [])]), (1, 122, [], [0, 1], [1, 0, 1]), [], [(34, [])])
theorem zs_ls_dn {hh hh' : sx_H} {x0 x1 : Int} (l0 : 0 ≤ x0) (u0 : x0 ≤ 15) (l1 : 1 ≤ x1) (u1 : x1 ≤ 3) (g0 : hh 122 0 x0 = x1) (p0 : zLS hh) (a0 : ∀ c g : Int, hh' 122 c g = if c = 0 ∧ g = x0 then x1 - 1 else hh 122 c g) (a1 : ∀ c g : Int, hh' 125 c g = hh 125 c g) : zLS hh' ∧ zLD x0 hh' := by
  refine ⟨?_, ?_⟩
  · intro s l h1 h2 h3
    rw [a0] at h3
    rw [a1]
    split at h3
    · next h =>
      obtain rfl := h.2
      exact p0 s l h1 h2 (by omega)
    · exact p0 s l h1 h2 h3
  · unfold zLD
    rw [a0, if_pos ⟨rfl, rfl⟩, a1]
    exact p0 x0 (x1 - 1) (by omega) (by omega) (by omega)
def sz_u133 : sx_Ru := ([(0, 15), (1, 3)], [], ([(122, [], [0, 1], [0, 0, 1])], [(34, [])]), (1, 122, [], [0, 1], [-1, 0, 1]), [], [(34, []), (35, [[0, 1]])])
theorem zs_ls_0 {hh hh' : sx_H} {x0 x1 : Int} (l0 : 0 ≤ x0) (u0 : x0 ≤ 15) (l1 : 0 ≤ x1) (u1 : x1 ≤ 0) (p0 : zLS hh) (a0 : ∀ c g : Int, hh' 122 c g = if c = 0 ∧ g = x0 then x1 else hh 122 c g) (a1 : ∀ c g : Int, hh' 125 c g = hh 125 c g) : zLS hh' := by
  intro s l h1 h2 h3
  rw [a0] at h3
  rw [a1]
  split at h3
  · omega
  · exact p0 s l h1 h2 h3
def sz_u134 : sx_Ru := ([(0, 15), (0, 0)], [], ([], [(34, [])]), (1, 122, [], [0, 1], [0, 0, 1]), [], [(34, [])])
theorem zs_ld_u {hh : sx_H} {x0 x1 x2 : Int} (l0 : 0 ≤ x0) (u0 : x0 ≤ 15) (l1 : 0 ≤ x1) (u1 : x1 ≤ 3) (l2 : -2147483648 ≤ x2) (u2 : x2 ≤ 2147483647) (g0 : hh 122 0 x0 = x1) (g1 : hh 125 0 (4 * x0 + x1) = x2) (p0 : zLD x0 hh) : 0 ≤ -x2 + 62 := by
  unfold zLD at p0
  rw [g0, g1] at p0
  omega
def sz_u135 : sx_Ru := ([(0, 15), (0, 3), (-2147483648, 2147483647)], [], ([(122, [], [0, 1], [0, 0, 1]), (125, [], [0, 4, 1], [0, 0, 0, 1])], [(35, [[0, 1]])]), (0, 0, [], [], []), [[62, 0, 0, -1]], [])
theorem zs_pr_so {hh hh' : sx_H} {x0 x1 x2 x3 : Int} (l0 : 0 ≤ x0) (u0 : x0 ≤ 15) (l1 : 0 ≤ x1) (u1 : x1 ≤ 3) (l2 : -2147483648 ≤ x2) (u2 : x2 ≤ 2147483647) (l3 : 0 ≤ x3) (u3 : x3 ≤ 0) (g0 : hh 119 0 x0 = x3) (p0 : zPR hh) (a0 : ∀ c g : Int, hh' 119 c g = hh 119 c g) (a1 : ∀ c g : Int, hh' 129 c g = if c = 0 ∧ g = 4 * x0 + x1 then x2 else hh 129 c g) (a2 : ∀ c g : Int, hh' 131 c g = hh 131 c g) (a3 : ∀ c g : Int, hh' 132 c g = hh 132 c g) : zPR hh' := by
  intro s hm i h1 h2 h3 h4
  rw [a0] at hm
  have hs : ¬ s = x0 := fun e => by
    rw [e, g0] at hm
    omega
  rw [a1, if_neg (by omega)] at h4
  rw [a2, a3]
  exact p0 s hm i h1 h2 h3 h4
def sz_u136 : sx_Ru := ([(0, 15), (0, 3), (-2147483648, 2147483647), (0, 0)], [], ([(119, [], [0, 1], [0, 0, 0, 0, 1])], [(36, [])]), (1, 129, [], [0, 4, 1], [0, 0, 0, 1]), [], [(36, [])])
theorem zs_pv_so {hh hh' : sx_H} {x0 x1 x2 : Int} (l0 : 0 ≤ x0) (u0 : x0 ≤ 15) (l1 : 0 ≤ x1) (u1 : x1 ≤ 3) (l2 : -2147483648 ≤ x2) (u2 : x2 ≤ 2147483647) (p0 : zPV x0 x1 hh) (a0 : ∀ c g : Int, hh' 129 c g = if c = 0 ∧ g = 4 * x0 + x1 then x2 else hh 129 c g) (a1 : ∀ c g : Int, hh' 131 c g = hh 131 c g) (a2 : ∀ c g : Int, hh' 132 c g = hh 132 c g) : zPV x0 x1 hh' := by
  intro i h1 h2 h3 h4
  rw [a0, if_neg (by omega)] at h4
  rw [a1, a2]
  exact p0 i h1 h2 h3 h4
def sz_u137 : sx_Ru := ([(0, 15), (0, 3), (-2147483648, 2147483647)], [], ([], [(37, [[0, 1], [0, 0, 1]])]), (1, 129, [], [0, 4, 1], [0, 0, 0, 1]), [], [(37, [[0, 1], [0, 0, 1]])])
theorem zs_pr_tw {hh hh' : sx_H} {x0 x1 x2 x3 : Int} (l0 : 0 ≤ x0) (u0 : x0 ≤ 15) (l1 : 0 ≤ x1) (u1 : x1 ≤ 3) (l2 : -2147483648 ≤ x2) (u2 : x2 ≤ 2147483647) (l3 : 0 ≤ x3) (u3 : x3 ≤ 0) (g0 : hh 119 0 x0 = x3) (p0 : zPR hh) (a0 : ∀ c g : Int, hh' 119 c g = hh 119 c g) (a1 : ∀ c g : Int, hh' 129 c g = hh 129 c g) (a2 : ∀ c g : Int, hh' 131 c g = if c = 0 ∧ g = 4 * x0 + x1 then x2 else hh 131 c g) (a3 : ∀ c g : Int, hh' 132 c g = hh 132 c g) : zPR hh' := by
  intro s hm i h1 h2 h3 h4
  rw [a0] at hm
  have hs : ¬ s = x0 := fun e => by
    rw [e, g0] at hm
    omega
  rw [a1] at h4
  rw [a2, if_neg (by omega), a3]
  exact p0 s hm i h1 h2 h3 h4
def sz_u138 : sx_Ru := ([(0, 15), (0, 3), (-2147483648, 2147483647), (0, 0)], [], ([(119, [], [0, 1], [0, 0, 0, 0, 1])], [(36, [])]), (1, 131, [], [0, 4, 1], [0, 0, 0, 1]), [], [(36, [])])
theorem zs_pv_tw {hh hh' : sx_H} {x0 x1 x2 : Int} (l0 : 0 ≤ x0) (u0 : x0 ≤ 15) (l1 : 0 ≤ x1) (u1 : x1 ≤ 3) (l2 : -2147483648 ≤ x2) (u2 : x2 ≤ 2147483647) (p0 : zPV x0 x1 hh) (a0 : ∀ c g : Int, hh' 129 c g = hh 129 c g) (a1 : ∀ c g : Int, hh' 131 c g = if c = 0 ∧ g = 4 * x0 + x1 then x2 else hh 131 c g) (a2 : ∀ c g : Int, hh' 132 c g = hh 132 c g) : zPV x0 x1 hh' := by
  intro i h1 h2 h3 h4
  rw [a0] at h4
  rw [a1, if_neg (by omega), a2]
  exact p0 i h1 h2 h3 h4
def sz_u139 : sx_Ru := ([(0, 15), (0, 3), (-2147483648, 2147483647)], [], ([], [(37, [[0, 1], [0, 0, 1]])]), (1, 131, [], [0, 4, 1], [0, 0, 0, 1]), [], [(37, [[0, 1], [0, 0, 1]])])
theorem zs_pr_at {hh hh' : sx_H} {x0 x1 x2 x3 : Int} (l0 : 0 ≤ x0) (u0 : x0 ≤ 15) (l1 : 0 ≤ x1) (u1 : x1 ≤ 3) (l2 : -2147483648 ≤ x2) (u2 : x2 ≤ 2147483647) (l3 : 0 ≤ x3) (u3 : x3 ≤ 0) (g0 : hh 119 0 x0 = x3) (p0 : zPR hh) (a0 : ∀ c g : Int, hh' 119 c g = hh 119 c g) (a1 : ∀ c g : Int, hh' 129 c g = hh 129 c g) (a2 : ∀ c g : Int, hh' 131 c g = hh 131 c g) (a3 : ∀ c g : Int, hh' 132 c g = if c = 0 ∧ g = 4 * x0 + x1 then x2 else hh 132 c g) : zPR hh' := by
  intro s hm i h1 h2 h3 h4
  rw [a0] at hm
  have hs : ¬ s = x0 := fun e => by
    rw [e, g0] at hm
    omega
  rw [a1] at h4
  rw [a2, a3, if_neg (by omega)]
  exact p0 s hm i h1 h2 h3 h4
def sz_u140 : sx_Ru := ([(0, 15), (0, 3), (-2147483648, 2147483647), (0, 0)], [], ([(119, [], [0, 1], [0, 0, 0, 0, 1])], [(36, [])]), (1, 132, [], [0, 4, 1], [0, 0, 0, 1]), [], [(36, [])])
theorem zs_pv_at {hh hh' : sx_H} {x0 x1 x2 : Int} (l0 : 0 ≤ x0) (u0 : x0 ≤ 15) (l1 : 0 ≤ x1) (u1 : x1 ≤ 3) (l2 : -2147483648 ≤ x2) (u2 : x2 ≤ 2147483647) (p0 : zPV x0 x1 hh) (a0 : ∀ c g : Int, hh' 129 c g = hh 129 c g) (a1 : ∀ c g : Int, hh' 131 c g = hh 131 c g) (a2 : ∀ c g : Int, hh' 132 c g = if c = 0 ∧ g = 4 * x0 + x1 then x2 else hh 132 c g) : zPV x0 x1 hh' := by
  intro i h1 h2 h3 h4
  rw [a0] at h4
  rw [a1, a2, if_neg (by omega)]
  exact p0 i h1 h2 h3 h4
def sz_u141 : sx_Ru := ([(0, 15), (0, 3), (-2147483648, 2147483647)], [], ([], [(37, [[0, 1], [0, 0, 1]])]), (1, 132, [], [0, 4, 1], [0, 0, 0, 1]), [], [(37, [[0, 1], [0, 0, 1]])])
theorem zs_pv0 {hh : sx_H} {x0 : Int} (l0 : 0 ≤ x0) (u0 : x0 ≤ 15) : zPV x0 0 hh := by
  intro i h1 h2 h3
  omega
def sz_u142 : sx_Ru := ([(0, 15)], [], ([], []), (0, 0, [], [], []), [], [(37, [[0, 1], []])])
theorem zs_pv_n1 {hh : sx_H} {x0 x1 x2 : Int} (l0 : 0 ≤ x0) (u0 : x0 ≤ 15) (l1 : 0 ≤ x1) (u1 : x1 ≤ 3) (l2 : -2147483648 ≤ x2) (u2 : x2 ≤ 2147483647) (f0 : 0 ≤ -x2 + 3) (g0 : hh 129 0 (4 * x0 + x1) = x2) (p0 : zPV x0 x1 hh) : zPV x0 (x1 + 1) hh := by
  intro i h1 h2 h3 h4
  by_cases e : i = x1
  · subst e
    rw [g0] at h4
    omega
  · exact p0 i h1 h2 (by omega) h4
def sz_u143 : sx_Ru := ([(0, 15), (0, 3), (-2147483648, 2147483647)], [[3, 0, 0, -1]], ([(129, [], [0, 4, 1], [0, 0, 0, 1])], [(37, [[0, 1], [0, 0, 1]])]), (0, 0, [], [], []), [], [(37, [[0, 1], [1, 0, 1]])])
theorem zs_pv_n2 {hh : sx_H} {x0 x1 x2 : Int} (l0 : 0 ≤ x0) (u0 : x0 ≤ 15) (l1 : 0 ≤ x1) (u1 : x1 ≤ 3) (l2 : 0 ≤ x2) (u2 : x2 ≤ 0) (g0 : hh 131 0 (4 * x0 + x1) = x2) (p0 : zPV x0 x1 hh) : zPV x0 (x1 + 1) hh := by
  intro i h1 h2 h3 h4
  by_cases e : i = x1
  · subst e
    rw [g0]
    omega
  · exact p0 i h1 h2 (by omega) h4
def sz_u144 : sx_Ru := ([(0, 15), (0, 3), (0, 0)], [], ([(131, [], [0, 4, 1], [0, 0, 0, 1])], [(37, [[0, 1], [0, 0, 1]])]), (0, 0, [], [], []), [], [(37, [[0, 1], [1, 0, 1]])])
theorem zs_pv_n3 {hh : sx_H} {x0 x1 x2 x3 : Int} (l0 : 0 ≤ x0) (u0 : x0 ≤ 15) (l1 : 0 ≤ x1) (u1 : x1 ≤ 3) (l2 : 0 ≤ x2) (u2 : x2 ≤ 256) (l3 : -2147483648 ≤ x3) (u3 : x3 ≤ 2147483647) (f0 : 0 ≤ x3) (f1 : 0 ≤ -x2 - x3 + 8192) (g0 : hh 131 0 (4 * x0 + x1) = x2) (g1 : hh 132 0 (4 * x0 + x1) = x3) (p0 : zPV x0 x1 hh) : zPV x0 (x1 + 1) hh := by
  intro i h1 h2 h3 h4
  by_cases e : i = x1
  · subst e
    rw [g0, g1]
    omega
  · exact p0 i h1 h2 (by omega) h4
def sz_u145 : sx_Ru := ([(0, 15), (0, 3), (0, 256), (-2147483648, 2147483647)], [[0, 0, 0, 0, 1], [8192, 0, 0, -1, -1]], ([(131, [], [0, 4, 1], [0, 0, 0, 1]), (132, [], [0, 4, 1], [0, 0, 0, 0, 1])], [(37, [[0, 1], [0, 0, 1]])]), (0, 0, [], [], []), [], [(37, [[0, 1], [1, 0, 1]])])
theorem zs_pv_4 {hh : sx_H} {x0 x1 : Int} (l0 : 0 ≤ x0) (u0 : x0 ≤ 15) (l1 : 4 ≤ x1) (u1 : x1 ≤ 4) (p0 : zPV x0 x1 hh) : zPV x0 4 hh := by
  intro i h1 h2 h3 h4
  exact p0 i h1 h2 (by omega) h4
def sz_u146 : sx_Ru := ([(0, 15), (4, 4)], [], ([], [(37, [[0, 1], [0, 0, 1]])]), (0, 0, [], [], []), [], [(37, [[0, 1], [4]])])
theorem zs_pv_w0 {hh hh' : sx_H} {x0 x1 x2 : Int} (l0 : 0 ≤ x0) (u0 : x0 ≤ 15) (l1 : 0 ≤ x1) (u1 : x1 ≤ 63) (l2 : 0 ≤ x2) (u2 : x2 ≤ 0) (p0 : zPV x0 4 hh) (a0 : ∀ c g : Int, hh' 129 c g = hh 129 c g) (a1 : ∀ c g : Int, hh' 131 c g = if c = 0 ∧ g = x1 then x2 else hh 131 c g) (a2 : ∀ c g : Int, hh' 132 c g = hh 132 c g) : zPV x0 4 hh' := by
  intro i h1 h2 h3 h4
  rw [a0] at h4
  rw [a1, a2]
  split
  · omega
  · exact p0 i h1 h2 h3 h4
def sz_u147 : sx_Ru := ([(0, 15), (0, 63), (0, 0)], [], ([], [(37, [[0, 1], [4]])]), (1, 131, [], [0, 0, 1], [0, 0, 0, 1]), [], [(37, [[0, 1], [4]])])
theorem zs_pr_m1 {hh hh' : sx_H} {x0 x1 : Int} (l0 : 0 ≤ x0) (u0 : x0 ≤ 15) (l1 : 1 ≤ x1) (u1 : x1 ≤ 1) (p0 : zPR hh) (p1 : zPV x0 4 hh) (a0 : ∀ c g : Int, hh' 119 c g = if c = 0 ∧ g = x0 then x1 else hh 119 c g) (a1 : ∀ c g : Int, hh' 129 c g = hh 129 c g) (a2 : ∀ c g : Int, hh' 131 c g = hh 131 c g) (a3 : ∀ c g : Int, hh' 132 c g = hh 132 c g) : zPR hh' := by
  intro s hm i h1 h2 h3 h4
  rw [a0] at hm
  rw [a1] at h4
  rw [a2, a3]
  split at hm
  · next h =>
    obtain rfl := h.2
    exact p1 i h1 h2 h3 h4
  · exact p0 s hm i h1 h2 h3 h4
def sz_u148 : sx_Ru := ([(0, 15), (1, 1)], [], ([], [(36, []), (37, [[0, 1], [4]])]), (1, 119, [], [0, 1], [0, 0, 1]), [], [(36, [])])
theorem zs_pr_m0 {hh hh' : sx_H} {x0 x1 : Int} (l0 : 0 ≤ x0) (u0 : x0 ≤ 15) (l1 : 0 ≤ x1) (u1 : x1 ≤ 0) (p0 : zPR hh) (a0 : ∀ c g : Int, hh' 119 c g = if c = 0 ∧ g = x0 then x1 else hh 119 c g) (a1 : ∀ c g : Int, hh' 129 c g = hh 129 c g) (a2 : ∀ c g : Int, hh' 131 c g = hh 131 c g) (a3 : ∀ c g : Int, hh' 132 c g = hh 132 c g) : zPR hh' := by
  intro s hm i h1 h2 h3 h4
  rw [a0] at hm
  rw [a1] at h4
  rw [a2, a3]
  split at hm
  · omega
  · exact p0 s hm i h1 h2 h3 h4
def sz_u149 : sx_Ru := ([(0, 15), (0, 0)], [], ([], [(36, [])]), (1, 119, [], [0, 1], [0, 0, 1]), [], [(36, [])])
theorem zs_pv_mk {hh : sx_H} {x0 x1 : Int} (l0 : 0 ≤ x0) (u0 : x0 ≤ 15) (l1 : 1 ≤ x1) (u1 : x1 ≤ 1) (g0 : hh 119 0 x0 = x1) (p0 : zPR hh) : zPV x0 4 hh := by
  exact p0 x0 (by omega)
def sz_u150 : sx_Ru := ([(0, 15), (1, 1)], [], ([(119, [], [0, 1], [0, 0, 1])], [(36, [])]), (0, 0, [], [], []), [], [(37, [[0, 1], [4]])])
theorem zs_pv_ws {hh hh' : sx_H} {x0 x1 x2 x3 : Int} (l0 : 0 ≤ x0) (u0 : x0 ≤ 15) (l1 : 0 ≤ x1) (u1 : x1 ≤ 3) (l2 : -2147483648 ≤ x2) (u2 : x2 ≤ 2147483647) (l3 : -2147483648 ≤ x3) (u3 : x3 ≤ 2147483647) (f0 : 0 ≤ -x2 + 3) (g0 : hh 129 0 (4 * x0 + x1) = x2) (p0 : zPV x0 4 hh) (a0 : ∀ c g : Int, hh' 129 c g = hh 129 c g) (a1 : ∀ c g : Int, hh' 131 c g = if c = 0 ∧ g = 4 * x0 + x1 then x3 else hh 131 c g) (a2 : ∀ c g : Int, hh' 132 c g = hh 132 c g) : zPV x0 4 hh' := by
  intro i h1 h2 h3 h4
  rw [a0] at h4
  rw [a1, a2]
  split
  · obtain rfl : i = x1 := by omega
    rw [g0] at h4
    omega
  · exact p0 i h1 h2 h3 h4
def sz_u151 : sx_Ru := ([(0, 15), (0, 3), (-2147483648, 2147483647), (-2147483648, 2147483647)], [[3, 0, 0, -1]], ([(129, [], [0, 4, 1], [0, 0, 0, 1])], [(37, [[0, 1], [4]])]), (1, 131, [], [0, 4, 1], [0, 0, 0, 0, 1]), [], [(37, [[0, 1], [4]])])
theorem zs_pr_ws {hh hh' : sx_H} {x0 x1 x2 x3 : Int} (l0 : 0 ≤ x0) (u0 : x0 ≤ 15) (l1 : 0 ≤ x1) (u1 : x1 ≤ 3) (l2 : -2147483648 ≤ x2) (u2 : x2 ≤ 2147483647) (l3 : -2147483648 ≤ x3) (u3 : x3 ≤ 2147483647) (f0 : 0 ≤ -x2 + 3) (g0 : hh 129 0 (4 * x0 + x1) = x2) (p0 : zPR hh) (p1 : zPV x0 4 hh) (a0 : ∀ c g : Int, hh' 119 c g = hh 119 c g) (a1 : ∀ c g : Int, hh' 129 c g = hh 129 c g) (a2 : ∀ c g : Int, hh' 131 c g = if c = 0 ∧ g = 4 * x0 + x1 then x3 else hh 131 c g) (a3 : ∀ c g : Int, hh' 132 c g = hh 132 c g) : zPR hh' := by
  intro s hm i h1 h2 h3 h4
  rw [a0] at hm
  rw [a1] at h4
  rw [a2, a3]
  split
  · obtain rfl : s = x0 := by omega
    obtain rfl : i = x1 := by omega
    rw [g0] at h4
    omega
  · exact p0 s hm i h1 h2 h3 h4
def sz_u152 : sx_Ru := ([(0, 15), (0, 3), (-2147483648, 2147483647), (-2147483648, 2147483647)], [[3, 0, 0, -1]], ([(129, [], [0, 4, 1], [0, 0, 0, 1])], [(36, []), (37, [[0, 1], [4]])]), (1, 131, [], [0, 4, 1], [0, 0, 0, 0, 1]), [], [(36, [])])
theorem zs_pv_u {hh : sx_H} {x0 x1 x2 x3 : Int} (l0 : 0 ≤ x0) (u0 : x0 ≤ 15) (l1 : 0 ≤ x1) (u1 : x1 ≤ 3) (l2 : -2147483648 ≤ x2) (u2 : x2 ≤ 2147483647) (l3 : -2147483648 ≤ x3) (u3 : x3 ≤ 2147483647) (f0 : 0 ≤ x2 - 4) (g0 : hh 129 0 (4 * x0 + x1) = x2) (g1 : hh 131 0 (4 * x0 + x1) = x3) (p0 : zPV x0 4 hh) : 0 ≤ x3 ∧ 0 ≤ -x3 + 256 := by
  have h := p0 x1 l1 u1 (by omega) (by omega)
  rw [g1] at h
  omega
def sz_u153 : sx_Ru := ([(0, 15), (0, 3), (-2147483648, 2147483647), (-2147483648, 2147483647)], [[-4, 0, 0, 1]], ([(129, [], [0, 4, 1], [0, 0, 0, 1]), (131, [], [0, 4, 1], [0, 0, 0, 0, 1])], [(37, [[0, 1], [4]])]), (0, 0, [], [], []), [[0, 0, 0, 0, 1], [256, 0, 0, 0, -1]], [])
theorem zs_pv_u2 {hh : sx_H} {x0 x1 x2 x3 x4 : Int} (l0 : 0 ≤ x0) (u0 : x0 ≤ 15) (l1 : 0 ≤ x1) (u1 : x1 ≤ 3) (l2 : -2147483648 ≤ x2) (u2 : x2 ≤ 2147483647) (l3 : -2147483648 ≤ x3) (u3 : x3 ≤ 2147483647) (l4 : -2147483648 ≤ x4) (u4 : x4 ≤ 2147483647) (f0 : 0 ≤ x2 - 4) (f1 : 0 ≤ x3 - 1) (g0 : hh 129 0 (4 * x0 + x1) = x2) (g1 : hh 131 0 (4 * x0 + x1) = x3) (g2 : hh 132 0 (4 * x0 + x1) = x4) (p0 : zPV x0 4 hh) : 0 ≤ x4 ∧ 0 ≤ -x3 - x4 + 8192 := by
  have h := p0 x1 l1 u1 (by omega) (by omega)
  rw [g1, g2] at h
  omega
def sz_u154 : sx_Ru := ([(0, 15), (0, 3), (-2147483648, 2147483647), (-2147483648, 2147483647), (-2147483648, 2147483647)], [[-4, 0, 0, 1], [-1, 0, 0, 0, 1]], ([(129, [], [0, 4, 1], [0, 0, 0, 1]), (131, [], [0, 4, 1], [0, 0, 0, 0, 1]), (132, [], [0, 4, 1], [0, 0, 0, 0, 0, 1])], [(37, [[0, 1], [4]])]), (0, 0, [], [], []), [[0, 0, 0, 0, 0, 1], [8192, 0, 0, 0, -1, -1]], [])
theorem zs_or_m1 {hh : sx_H} {x0 x1 x2 : Int} (l0 : 0 ≤ x0) (u0 : x0 ≤ 63) (l1 : -128 ≤ x1) (u1 : x1 ≤ 127) (l2 : -128 ≤ x2) (u2 : x2 ≤ 127) (f0 : 0 ≤ x1) (f1 : 0 ≤ -(256 * x1) - x2 + 512) (f2 : 0 ≤ x2) (g0 : hh 104 0 (256 * x0 + 18) = x1) (g1 : hh 104 0 (256 * x0 + 19) = x2) : zOR x0 hh := by
  unfold zOR
  rw [g0, g1]
  omega
def sz_u155 : sx_Ru := ([(0, 63), (-128, 127), (-128, 127)], [[0, 0, 1], [512, 0, -256, -1], [0, 0, 0, 1]], ([(104, [], [18, 256], [0, 0, 1]), (104, [], [19, 256], [0, 0, 0, 1])], []), (0, 0, [], [], []), [], [(38, [[0, 1]])])
theorem zs_or_m2 {hh : sx_H} {x0 x1 x2 : Int} (l0 : 0 ≤ x0) (u0 : x0 ≤ 63) (l1 : -128 ≤ x1) (u1 : x1 ≤ 127) (l2 : -128 ≤ x2) (u2 : x2 ≤ 127) (f0 : 0 ≤ x1) (f1 : 0 ≤ -(256 * x1) - x2 + 256) (f2 : 0 ≤ -x2 - 1) (g0 : hh 104 0 (256 * x0 + 18) = x1) (g1 : hh 104 0 (256 * x0 + 19) = x2) : zOR x0 hh := by
  unfold zOR
  rw [g0, g1]
  omega
def sz_u156 : sx_Ru := ([(0, 63), (-128, 127), (-128, 127)], [[0, 0, 1], [256, 0, -256, -1], [-1, 0, 0, -1]], ([(104, [], [18, 256], [0, 0, 1]), (104, [], [19, 256], [0, 0, 0, 1])], []), (0, 0, [], [], []), [], [(38, [[0, 1]])])
theorem zs_or_h {hh : sx_H} {x0 x1 : Int} (l0 : 0 ≤ x0) (u0 : x0 ≤ 63) (l1 : -128 ≤ x1) (u1 : x1 ≤ 127) (g0 : hh 104 0 (256 * x0 + 18) = x1) (p0 : zOR x0 hh) : 0 ≤ x1 ∧ 0 ≤ -x1 + 2 := by
  unfold zOR at p0
  rw [g0] at p0
  omega
def sz_u157 : sx_Ru := ([(0, 63), (-128, 127)], [], ([(104, [], [18, 256], [0, 0, 1])], [(38, [[0, 1]])]), (0, 0, [], [], []), [[0, 0, 1], [2, 0, -1]], [])
theorem zs_or_l {hh : sx_H} {x0 x1 x2 : Int} (l0 : 0 ≤ x0) (u0 : x0 ≤ 63) (l1 : -128 ≤ x1) (u1 : x1 ≤ 127) (l2 : -128 ≤ x2) (u2 : x2 ≤ 127) (f0 : 0 ≤ x2) (g0 : hh 104 0 (256 * x0 + 18) = x1) (g1 : hh 104 0 (256 * x0 + 19) = x2) (p0 : zOR x0 hh) : 0 ≤ -(256 * x1) - x2 + 512 := by
  unfold zOR at p0
  rw [g0, g1] at p0
  omega
def sz_u158 : sx_Ru := ([(0, 63), (-128, 127), (-128, 127)], [[0, 0, 0, 1]], ([(104, [], [18, 256], [0, 0, 1]), (104, [], [19, 256], [0, 0, 0, 1])], [(38, [[0, 1]])]), (0, 0, [], [], []), [[512, 0, -256, -1]], [])
theorem zs_or_l2 {hh : sx_H} {x0 x1 x2 : Int} (l0 : 0 ≤ x0) (u0 : x0 ≤ 63) (l1 : -128 ≤ x1) (u1 : x1 ≤ 127) (l2 : -128 ≤ x2) (u2 : x2 ≤ 127) (f0 : 0 ≤ -x2 - 1) (g0 : hh 104 0 (256 * x0 + 18) = x1) (g1 : hh 104 0 (256 * x0 + 19) = x2) (p0 : zOR x0 hh) : 0 ≤ -x1 + 1 := by
  unfold zOR at p0
  rw [g0, g1] at p0
  omega
def sz_u159 : sx_Ru := ([(0, 63), (-128, 127), (-128, 127)], [[-1, 0, 0, -1]], ([(104, [], [18, 256], [0, 0, 1]), (104, [], [19, 256], [0, 0, 0, 1])], [(38, [[0, 1]])]), (0, 0, [], [], []), [[1, 0, -1]], [])
theorem zs_oj_0 {hh hh' : sx_H} {x0 : Int} (l0 : -1 ≤ x0) (u0 : x0 ≤ -1) (a0 : ∀ c : Int, hh' 92 c 107 = if c = 0 then x0 else hh 92 c 107) (a1 : ∀ c g : Int, hh' 104 c g = hh 104 c g) : zOJ hh' := by
  intro h
  rw [a0, if_pos rfl] at h
  omega
def sz_u160 : sx_Ru := ([(-1, -1)], [], ([], []), (1, 92, [], [107], [0, 1]), [], [(39, [])])
theorem zs_oj_w {hh hh' : sx_H} {x0 : Int} (l0 : 0 ≤ x0) (u0 : x0 ≤ 63) (p0 : zOR x0 hh) (a0 : ∀ c g : Int, hh' 104 c g = hh 104 c g) (a1 : ∀ c : Int, hh' 92 c 107 = if c = 0 then x0 else hh 92 c 107) : zOJ hh' := by
  intro h
  rw [a1, if_pos rfl]
  unfold zOR at *
  rw [a0, a0]
  exact p0
def sz_u161 : sx_Ru := ([(0, 63)], [], ([], [(38, [[0, 1]])]), (1, 92, [], [107], [0, 1]), [], [(39, [])])
theorem zs_oj_u {hh : sx_H} {x0 : Int} (l0 : 0 ≤ x0) (u0 : x0 ≤ 63) (g0 : hh 92 0 107 = x0) (p0 : zOJ hh) : zOR x0 hh := by
  unfold zOJ at p0
  rw [g0] at p0
  exact p0 l0
def sz_u162 : sx_Ru := ([(0, 63)], [], ([(92, [], [107], [0, 1])], [(39, [])]), (0, 0, [], [], []), [], [(38, [[0, 1]])])
theorem zs_ur_p0 {hh : sx_H} {x0 x1 x2 x3 x4 x5 x6 x7 : Int} (l0 : 0 ≤ x0) (u0 : x0 ≤ 15) (l1 : 0 ≤ x1) (u1 : x1 ≤ 3) (l2 : 0 ≤ x2) (u2 : x2 ≤ 7) (l3 : 0 ≤ x3) (u3 : x3 ≤ 2000) (l4 : 0 ≤ x4) (u4 : x4 ≤ 2000) (l5 : 0 ≤ x5) (u5 : x5 ≤ 4) (l6 : 1 ≤ x6) (u6 : x6 ≤ 1) (l7 : 0 ≤ x7) (u7 : x7 ≤ 0) (f0 : 0 ≤ -x1 + x5 - 1) (g0 : hh 136 0 x0 = x5) (g1 : hh 139 0 (4 * x0 + x1) = x6) (g2 : hh 140 0 (4 * x0 + x1) = x7) (p0 : zUR x0 x1 x2 x3 x4 hh) : zUR x0 (x1 + 1) x2 x3 (x4 + 1) hh := by
  have hw := zw_1 (p := 0) g1 l6 g2 (by omega) (by omega) (by omega)
  have e : zt hh x0 x1 = zw hh (4 * x0 + x1) := by
    unfold zt
    rw [if_pos (by omega)]
  unfold zUR at *
  rw [zn_dn _ _ _ l1 u1, e, hw] at p0
  omega
def sz_u163 : sx_Ru := ([(0, 15), (0, 3), (0, 7), (0, 2000), (0, 2000), (0, 4), (1, 1), (0, 0)], [[-1, 0, -1, 0, 0, 0, 1]], ([(136, [], [0, 1], [0, 0, 0, 0, 0, 0, 1]), (139, [], [0, 4, 1], [0, 0, 0, 0, 0, 0, 0, 1]), (140, [], [0, 4, 1], [0, 0, 0, 0, 0, 0, 0, 0, 1])], [(22, [[0, 1], [0, 0, 1], [0, 0, 0, 1], [0, 0, 0, 0, 1], [0, 0, 0, 0, 0, 1]])]), (0, 0, [], [], []), [], [(22, [[0, 1], [1, 0, 1], [0, 0, 0, 1], [0, 0, 0, 0, 1], [1, 0, 0, 0, 0, 1]])])
theorem zs_ur_p1 {hh : sx_H} {x0 x1 x2 x3 x4 x5 x6 x7 : Int} (l0 : 0 ≤ x0) (u0 : x0 ≤ 15) (l1 : 0 ≤ x1) (u1 : x1 ≤ 3) (l2 : 0 ≤ x2) (u2 : x2 ≤ 7) (l3 : 0 ≤ x3) (u3 : x3 ≤ 2000) (l4 : 0 ≤ x4) (u4 : x4 ≤ 2000) (l5 : 0 ≤ x5) (u5 : x5 ≤ 4) (l6 : 1 ≤ x6) (u6 : x6 ≤ 1) (l7 : 1 ≤ x7) (u7 : x7 ≤ 256) (f0 : 0 ≤ -x1 + x5 - 1) (g0 : hh 136 0 x0 = x5) (g1 : hh 139 0 (4 * x0 + x1) = x6) (g2 : hh 140 0 (4 * x0 + x1) = x7) (p0 : zUR x0 x1 x2 x3 x4 hh) : zUR x0 (x1 + 1) x2 x3 (x4 + 2) hh := by
  have hw := zw_1 (p := 1) g1 l6 g2 (by omega) (by omega) (by omega)
  have e : zt hh x0 x1 = zw hh (4 * x0 + x1) := by
    unfold zt
    rw [if_pos (by omega)]
  unfold zUR at *
  rw [zn_dn _ _ _ l1 u1, e, hw] at p0
  omega
def sz_u164 : sx_Ru := ([(0, 15), (0, 3), (0, 7), (0, 2000), (0, 2000), (0, 4), (1, 1), (1, 256)], [[-1, 0, -1, 0, 0, 0, 1]], ([(136, [], [0, 1], [0, 0, 0, 0, 0, 0, 1]), (139, [], [0, 4, 1], [0, 0, 0, 0, 0, 0, 0, 1]), (140, [], [0, 4, 1], [0, 0, 0, 0, 0, 0, 0, 0, 1])], [(22, [[0, 1], [0, 0, 1], [0, 0, 0, 1], [0, 0, 0, 0, 1], [0, 0, 0, 0, 0, 1]])]), (0, 0, [], [], []), [], [(22, [[0, 1], [1, 0, 1], [0, 0, 0, 1], [0, 0, 0, 0, 1], [2, 0, 0, 0, 0, 1]])])
theorem zs_ur_p2 {hh : sx_H} {x0 x1 x2 x3 x4 x5 x6 x7 : Int} (l0 : 0 ≤ x0) (u0 : x0 ≤ 15) (l1 : 0 ≤ x1) (u1 : x1 ≤ 3) (l2 : 0 ≤ x2) (u2 : x2 ≤ 7) (l3 : 0 ≤ x3) (u3 : x3 ≤ 2000) (l4 : 0 ≤ x4) (u4 : x4 ≤ 2000) (l5 : 0 ≤ x5) (u5 : x5 ≤ 4) (l6 : 1 ≤ x6) (u6 : x6 ≤ 1) (l7 : 257 ≤ x7) (u7 : x7 ≤ 512) (f0 : 0 ≤ -x1 + x5 - 1) (g0 : hh 136 0 x0 = x5) (g1 : hh 139 0 (4 * x0 + x1) = x6) (g2 : hh 140 0 (4 * x0 + x1) = x7) (p0 : zUR x0 x1 x2 x3 x4 hh) : zUR x0 (x1 + 1) x2 x3 (x4 + 3) hh := by
  have hw := zw_1 (p := 2) g1 l6 g2 (by omega) (by omega) (by omega)
  have e : zt hh x0 x1 = zw hh (4 * x0 + x1) := by
    unfold zt
    rw [if_pos (by omega)]
  unfold zUR at *
  rw [zn_dn _ _ _ l1 u1, e, hw] at p0
  omega
def sz_u165 : sx_Ru := ([(0, 15), (0, 3), (0, 7), (0, 2000), (0, 2000), (0, 4), (1, 1), (257, 512)], [[-1, 0, -1, 0, 0, 0, 1]], ([(136, [], [0, 1], [0, 0, 0, 0, 0, 0, 1]), (139, [], [0, 4, 1], [0, 0, 0, 0, 0, 0, 0, 1]), (140, [], [0, 4, 1], [0, 0, 0, 0, 0, 0, 0, 0, 1])], [(22, [[0, 1], [0, 0, 1], [0, 0, 0, 1], [0, 0, 0, 0, 1], [0, 0, 0, 0, 0, 1]])]), (0, 0, [], [], []), [], [(22, [[0, 1], [1, 0, 1], [0, 0, 0, 1], [0, 0, 0, 0, 1], [3, 0, 0, 0, 0, 1]])])
theorem zs_ur_x0 {hh : sx_H} {x0 x1 x2 x3 x4 : Int} (l0 : 0 ≤ x0) (u0 : x0 ≤ 15) (l1 : 0 ≤ x1) (u1 : x1 ≤ 4) (l2 : 0 ≤ x2) (u2 : x2 ≤ 7) (l3 : 0 ≤ x3) (u3 : x3 ≤ 2000) (l4 : 0 ≤ x4) (u4 : x4 ≤ 2000) (p0 : zUR x0 x1 x2 x3 x4 hh) : zUR x0 x1 x2 x3 0 hh := by
  unfold zUR at *
  omega
def sz_u166 : sx_Ru := ([(0, 15), (0, 4), (0, 7), (0, 2000), (0, 2000)], [], ([], [(22, [[0, 1], [0, 0, 1], [0, 0, 0, 1], [0, 0, 0, 0, 1], [0, 0, 0, 0, 0, 1]])]), (0, 0, [], [], []), [], [(22, [[0, 1], [0, 0, 1], [0, 0, 0, 1], [0, 0, 0, 0, 1], []])])
theorem zs_ur_x1 {hh : sx_H} {x0 x1 x2 x3 x4 : Int} (l0 : 0 ≤ x0) (u0 : x0 ≤ 15) (l1 : 0 ≤ x1) (u1 : x1 ≤ 4) (l2 : 0 ≤ x2) (u2 : x2 ≤ 7) (l3 : 0 ≤ x3) (u3 : x3 ≤ 2000) (l4 : 0 ≤ x4) (u4 : x4 ≤ 2000) (f0 : 0 ≤ x4 - 1) (p0 : zUR x0 x1 x2 x3 x4 hh) : zUR x0 x1 x2 x3 1 hh := by
  unfold zUR at *
  omega
def sz_u167 : sx_Ru := ([(0, 15), (0, 4), (0, 7), (0, 2000), (0, 2000)], [[-1, 0, 0, 0, 0, 1]], ([], [(22, [[0, 1], [0, 0, 1], [0, 0, 0, 1], [0, 0, 0, 0, 1], [0, 0, 0, 0, 0, 1]])]), (0, 0, [], [], []), [], [(22, [[0, 1], [0, 0, 1], [0, 0, 0, 1], [0, 0, 0, 0, 1], [1]])])
theorem zs_ur_u62 {hh : sx_H} {x0 : Int} (l0 : 0 ≤ x0) (u0 : x0 ≤ 62) (p0 : zUE x0 hh) : zUR 0 4 7 62 (-x0 + 62) hh := by
  unfold zUR zUE at *
  rw [zn_4 _ _ _ (by omega), zr_7 _ _ (by omega)]
  omega
def sz_u168 : sx_Ru := ([(0, 62)], [], ([], [(21, [[0, 1]])]), (0, 0, [], [], []), [], [(22, [[], [4], [7], [62], [62, -1]])])
theorem zs_ur_f {hh : sx_H} {x0 x1 x2 x3 x4 : Int} (l0 : 0 ≤ x0) (u0 : x0 ≤ 15) (l1 : 4 ≤ x1) (u1 : x1 ≤ 4) (l2 : 7 ≤ x2) (u2 : x2 ≤ 7) (l3 : 0 ≤ x3) (u3 : x3 ≤ 2000) (l4 : 0 ≤ x4) (u4 : x4 ≤ 2000) (f0 : 0 ≤ -x3 + 64) (p0 : zUR x0 x1 x2 x3 x4 hh) : zUR x0 4 7 64 (-x3 + x4 + 64) hh := by
  have h1 := zn_nn hh x0 x1
  have h2 := zr_nn hh x2
  unfold zUR at *
  rw [zn_4 _ _ 4 (by omega), zr_7 _ 7 (by omega)]
  omega
def sz_u169 : sx_Ru := ([(0, 15), (4, 4), (7, 7), (0, 2000), (0, 2000)], [[64, 0, 0, 0, -1]], ([], [(22, [[0, 1], [0, 0, 1], [0, 0, 0, 1], [0, 0, 0, 0, 1], [0, 0, 0, 0, 0, 1]])]), (0, 0, [], [], []), [], [(22, [[0, 1], [4], [7], [64], [64, 0, 0, 0, -1, 1]])])
theorem zs_rr_e {hh : sx_H} {x0 : Int} (l0 : 255 ≤ x0) (u0 : x0 ≤ 255) (g0 : hh 92 0 18 = x0) : zRR hh := by
  unfold zRR
  rw [g0]
  exact Or.inl (by omega)
def sz_u170 : sx_Ru := ([(255, 255)], [], ([(92, [], [18], [0, 1])], []), (0, 0, [], [], []), [], [(40, [])])
theorem zs_rr_m {hh : sx_H} {x0 : Int} (l0 : 0 ≤ x0) (u0 : x0 ≤ 63) (g0 : hh 92 0 18 = x0) (p0 : zRN x0 7 hh) (p1 : zUS x0 hh) : zRR hh := by
  unfold zRR
  rw [g0]
  exact Or.inr ⟨l0, u0, p0, p1⟩
def sz_u171 : sx_Ru := ([(0, 63)], [], ([(92, [], [18], [0, 1])], [(29, [[0, 1], [7]]), (30, [[0, 1]])]), (0, 0, [], [], []), [], [(40, [])])
theorem zs_rr_u {hh : sx_H} {x0 : Int} (l0 : 0 ≤ x0) (u0 : x0 ≤ 254) (g0 : hh 92 0 18 = x0) (p0 : zRR hh) : 0 ≤ -x0 + 63 ∧ zRN x0 7 hh ∧ zUS x0 hh := by
  unfold zRR at p0
  rw [g0] at p0
  rcases p0 with h | ⟨h1, h2, h3, h4⟩
  · omega
  · exact ⟨by omega, h3, h4⟩
def sz_u172 : sx_Ru := ([(0, 254)], [], ([(92, [], [18], [0, 1])], [(40, [])]), (0, 0, [], [], []), [[63, -1]], [(29, [[0, 1], [7]]), (30, [[0, 1]])])
theorem zs_oj_n {hh : sx_H} {x0 : Int} (l0 : -1 ≤ x0) (u0 : x0 ≤ -1) (g0 : hh 92 0 107 = x0) : zOJ hh := by
  intro h
  rw [g0] at h
  omega
def sz_u173 : sx_Ru := ([(-1, -1)], [], ([(92, [], [107], [0, 1])], []), (0, 0, [], [], []), [], [(39, [])])
theorem zs_dn0 {hh : sx_H} {x0 : Int} (l0 : 0 ≤ x0) (u0 : x0 ≤ 63) : zDN x0 0 hh := by
  intro j h1 h2
  omega
def sz_u174 : sx_Ru := ([(0, 63)], [], ([], []), (0, 0, [], [], []), [], [(41, [[0, 1], []])])
theorem zs_dn_1 {hh : sx_H} {x0 x1 x2 : Int} (l0 : 0 ≤ x0) (u0 : x0 ≤ 63) (l1 : 0 ≤ x1) (u1 : x1 ≤ 5) (l2 : 0 ≤ x2) (u2 : x2 ≤ 63) (g0 : hh 104 0 (256 * x0 + 33 * x1 + 28) = x2) (p0 : zDN x0 x1 hh) : zDN x0 (x1 + 1) hh := by
  intro j h1 h2
  by_cases e : j = x1
  · rw [e, g0]
    omega
  · exact p0 j h1 (by omega)
def sz_u175 : sx_Ru := ([(0, 63), (0, 5), (0, 63)], [], ([(104, [], [28, 256, 33], [0, 0, 0, 1])], [(41, [[0, 1], [0, 0, 1]])]), (0, 0, [], [], []), [], [(41, [[0, 1], [1, 0, 1]])])
theorem zs_dn_u {hh : sx_H} {x0 x1 x2 x3 : Int} (l0 : 0 ≤ x0) (u0 : x0 ≤ 63) (l1 : 0 ≤ x1) (u1 : x1 ≤ 6) (l2 : 0 ≤ x2) (u2 : x2 ≤ 5) (l3 : -128 ≤ x3) (u3 : x3 ≤ 127) (f0 : 0 ≤ x1 - x2 - 1) (g0 : hh 104 0 (256 * x0 + 33 * x2 + 28) = x3) (p0 : zDN x0 x1 hh) : 0 ≤ x3 ∧ 0 ≤ -x3 + 63 := by
  have h := p0 x2 l2 (by omega)
  rw [g0] at h
  omega
def sz_u176 : sx_Ru := ([(0, 63), (0, 6), (0, 5), (-128, 127)], [[-1, 0, 1, -1]], ([(104, [], [28, 256, 0, 33], [0, 0, 0, 0, 1])], [(41, [[0, 1], [0, 0, 1]])]), (0, 0, [], [], []), [[0, 0, 0, 0, 1], [63, 0, 0, 0, -1]], [])
theorem zs_dn_le {hh : sx_H} {x0 x1 x2 : Int} (l0 : 0 ≤ x0) (u0 : x0 ≤ 63) (l1 : 0 ≤ x1) (u1 : x1 ≤ 6) (l2 : 0 ≤ x2) (u2 : x2 ≤ 6) (f0 : 0 ≤ x1 - x2) (p0 : zDN x0 x1 hh) : zDN x0 x2 hh := by
  intro j h1 h2
  exact p0 j h1 (by omega)
def sz_u177 : sx_Ru := ([(0, 63), (0, 6), (0, 6)], [[0, 0, 1, -1]], ([], [(41, [[0, 1], [0, 0, 1]])]), (0, 0, [], [], []), [], [(41, [[0, 1], [0, 0, 0, 1]])])
theorem zs_pr_w0 {hh hh' : sx_H} {x0 x1 : Int} (l0 : 0 ≤ x0) (u0 : x0 ≤ 63) (l1 : 0 ≤ x1) (u1 : x1 ≤ 0) (p0 : zPR hh) (a0 : ∀ c g : Int, hh' 119 c g = hh 119 c g) (a1 : ∀ c g : Int, hh' 129 c g = hh 129 c g) (a2 : ∀ c g : Int, hh' 131 c g = if c = 0 ∧ g = x0 then x1 else hh 131 c g) (a3 : ∀ c g : Int, hh' 132 c g = hh 132 c g) : zPR hh' := by
  intro s hm i h1 h2 h3 h4
  rw [a0] at hm
  rw [a1] at h4
  rw [a2, a3]
  split
  · omega
  · exact p0 s hm i h1 h2 h3 h4
def sz_u178 : sx_Ru := ([(0, 63), (0, 0)], [], ([], [(36, [])]), (1, 131, [], [0, 1], [0, 0, 1]), [], [(36, [])])
theorem sz_k0 : sx_Rk sz_pr sz_u0 := by
  intro r hh hh' hb hF hG hP hw
  obtain ⟨x0, r0, e0, l0, u0, hb⟩ := sz_bc hb
  obtain ⟨x1, r1, e1, l1, u1, hb⟩ := sz_bc hb
  obtain ⟨x2, r2, e2, l2, u2, hb⟩ := sz_bc hb
  have hbn := sz_bn hb
  subst hbn
  subst e2
  subst e1
  subst e0
  have E0 : sx_ev [-1, 0, 1] [x0, x1, x2] = x1 - 1 := by simp [sx_ev, sx_dot] <;> omega
  have E1 : sx_ev [0, 1] [x0, x1, x2] = x0 := by simp [sx_ev, sx_dot] <;> omega
  have E2 : sx_ev [6] [x0, x1, x2] = 6 := by simp [sx_ev, sx_dot] <;> omega
  have E3 : sx_ev [0, 0, 1] [x0, x1, x2] = x1 := by simp [sx_ev, sx_dot] <;> omega
  have E4 : sx_ev [0, 0, 0, 1] [x0, x1, x2] = x2 := by simp [sx_ev, sx_dot] <;> omega
  have f0 := hF [-1, 0, 1] List.mem_cons_self
  rw [E0] at f0
  have g0 := hG (88, [0, 1], [6], [0, 0, 1]) List.mem_cons_self
  dsimp only at g0
  rw [E1, E2, E3] at g0
  have g1 := hG (14, [0, 1], [-1, 0, 1], [0, 0, 0, 1]) (List.mem_cons_of_mem _ List.mem_cons_self)
  dsimp only at g1
  rw [E1, E0, E4] at g1
  have p0 := hP (0, []) List.mem_cons_self
  have p0 : sz_pr 0 [] hh := p0
  have hw := sz_w0 hw
  rw [hw]
  have hz := zs_tp (hh := hh) l0 u0 l1 u1 l2 u2 f0 g0 g1 p0
  refine ⟨fun f hf => ?_, fun q hq => ?_⟩
  · cases hf
  · rcases List.mem_cons.mp hq with rfl | hq
    · show sz_pr 2 [sx_ev [0, 1] [x0, x1, x2], sx_ev [0, 0, 0, 1] [x0, x1, x2]] _
      rw [E1, E4]
      exact hz.1
    obtain rfl := List.mem_singleton.mp hq
    show sz_pr 1 [sx_ev [0, 0, 0, 1] [x0, x1, x2]] _
    rw [E4]
    exact hz.2
theorem sz_k1 : sx_Rk sz_pr sz_u1 := by
  intro r hh hh' hb hF hG hP hw
  obtain ⟨x0, r0, e0, l0, u0, hb⟩ := sz_bc hb
  obtain ⟨x1, r1, e1, l1, u1, hb⟩ := sz_bc hb
  obtain ⟨x2, r2, e2, l2, u2, hb⟩ := sz_bc hb
  have hbn := sz_bn hb
  subst hbn
  subst e2
  subst e1
  subst e0
  have E0 : sx_ev [0, 1] [x0, x1, x2] = x0 := by simp [sx_ev, sx_dot] <;> omega
  have E1 : sx_ev [6] [x0, x1, x2] = 6 := by simp [sx_ev, sx_dot] <;> omega
  have E2 : sx_ev [0, 0, 0, 1] [x0, x1, x2] = x2 := by simp [sx_ev, sx_dot] <;> omega
  have E3 : sx_ev [0, 0, 1] [x0, x1, x2] = x1 := by simp [sx_ev, sx_dot] <;> omega
  have E4 : sx_ev [-1, 0, 0, 1] [x0, x1, x2] = x2 - 1 := by simp [sx_ev, sx_dot] <;> omega
  have g0 := hG (88, [0, 1], [6], [0, 0, 0, 1]) List.mem_cons_self
  dsimp only at g0
  rw [E0, E1, E2] at g0
  have p0 := hP (2, [[0, 1], [0, 0, 1]]) List.mem_cons_self
  have p0 : sz_pr 2 [sx_ev [0, 1] [x0, x1, x2], sx_ev [0, 0, 1] [x0, x1, x2]] hh := p0
  rw [E0, E3] at p0
  have hw := sz_w0 hw
  rw [hw]
  have hz := zs_tp_r (hh := hh) l0 u0 l1 u1 l2 u2 g0 p0
  refine ⟨fun f hf => ?_, fun q hq => ?_⟩
  · rw [List.mem_singleton.mp hf, E4]
    exact hz
  · cases hq
theorem sz_k2 : sx_Rk sz_pr sz_u2 := by
  intro r hh hh' hb hF hG hP hw
  obtain ⟨x0, r0, e0, l0, u0, hb⟩ := sz_bc hb
  obtain ⟨x1, r1, e1, l1, u1, hb⟩ := sz_bc hb
  have hbn := sz_bn hb
  subst hbn
  subst e1
  subst e0
  have E0 : sx_ev [0, 1] [x0, x1] = x0 := by simp [sx_ev, sx_dot] <;> omega
  have E1 : sx_ev [0, 0, 1] [x0, x1] = x1 := by simp [sx_ev, sx_dot] <;> omega
  have p0 := hP (0, []) List.mem_cons_self
  have p0 : sz_pr 0 [] hh := p0
  have p1 := hP (11, []) (List.mem_cons_of_mem _ List.mem_cons_self)
  have p1 : sz_pr 11 [] hh := p1
  have p2 := hP (2, [[0, 1], [0, 0, 1]]) (List.mem_cons_of_mem _ (List.mem_cons_of_mem _ List.mem_cons_self))
  have p2 : sz_pr 2 [sx_ev [0, 1] [x0, x1], sx_ev [0, 0, 1] [x0, x1]] hh := p2
  rw [E0, E1] at p2
  have hw := sz_w0 hw
  rw [hw]
  have hz := zs_pcb (hh := hh) l0 u0 l1 u1 p0 p1 p2
  refine ⟨fun f hf => ?_, fun q hq => ?_⟩
  · cases hf
  · obtain rfl := List.mem_singleton.mp hq
    show sz_pr 12 [sx_ev [0, 0, 1] [x0, x1]] _
    rw [E1]
    exact hz
theorem sz_k3 : sx_Rk sz_pr sz_u3 := by
  intro r hh hh' hb hF hG hP hw
  obtain ⟨x0, r0, e0, l0, u0, hb⟩ := sz_bc hb
  obtain ⟨x1, r1, e1, l1, u1, hb⟩ := sz_bc hb
  have hbn := sz_bn hb
  subst hbn
  subst e1
  subst e0
  have E0 : sx_ev [-1, 0, 1] [x0, x1] = x1 - 1 := by simp [sx_ev, sx_dot] <;> omega
  have E1 : sx_ev [0, 1] [x0, x1] = x0 := by simp [sx_ev, sx_dot] <;> omega
  have E2 : sx_ev [6] [x0, x1] = 6 := by simp [sx_ev, sx_dot] <;> omega
  have E3 : sx_ev [0, 0, 1] [x0, x1] = x1 := by simp [sx_ev, sx_dot] <;> omega
  have E4 : sx_ev [-1, 1] [x0, x1] = x0 - 1 := by simp [sx_ev, sx_dot] <;> omega
  have f0 := hF [-1, 0, 1] List.mem_cons_self
  rw [E0] at f0
  have g0 := hG (88, [0, 1], [6], [0, 0, 1]) List.mem_cons_self
  dsimp only at g0
  rw [E1, E2, E3] at g0
  have p0 := hP (0, []) List.mem_cons_self
  have p0 : sz_pr 0 [] hh := p0
  have hw := sz_w0 hw
  rw [hw]
  have hz := zs_spos (hh := hh) l0 u0 l1 u1 f0 g0 p0
  refine ⟨fun f hf => ?_, fun q hq => ?_⟩
  · rw [List.mem_singleton.mp hf, E4]
    exact hz
  · cases hq
theorem sz_k4 : sx_Rk sz_pr sz_u4 := by
  intro r hh hh' hb hF hG hP hw
  obtain ⟨x0, r0, e0, l0, u0, hb⟩ := sz_bc hb
  obtain ⟨x1, r1, e1, l1, u1, hb⟩ := sz_bc hb
  have hbn := sz_bn hb
  subst hbn
  subst e1
  subst e0
  have E0 : sx_ev [0, 1] [x0, x1] = x0 := by simp [sx_ev, sx_dot] <;> omega
  have E1 : sx_ev [15] [x0, x1] = 15 := by simp [sx_ev, sx_dot] <;> omega
  have E2 : sx_ev [0, 0, 1] [x0, x1] = x1 := by simp [sx_ev, sx_dot] <;> omega
  have p0 := hP (0, []) List.mem_cons_self
  have p0 : sz_pr 0 [] hh := p0
  have p1 := hP (1, [[0, 1]]) (List.mem_cons_of_mem _ List.mem_cons_self)
  have p1 : sz_pr 1 [sx_ev [0, 1] [x0, x1]] hh := p1
  rw [E0] at p1
  have hu := sz_w1 hw
  rw [E0, E1, E2] at hu
  have hz := zs_w_dep (hh := hh) (hh' := hh') l0 u0 l1 u1 p0 p1 (fun c => by rw [hu]; exact if_neg (by omega)) (fun c => by rw [hu]; exact if_neg (by omega)) (fun c => by rw [hu]; simp) (fun c => by rw [hu]; exact if_neg (by omega)) (fun c => by rw [hu]; exact if_neg (by omega)) (fun c => by rw [hu]; exact if_neg (by omega)) (fun c g => by rw [hu]; exact if_neg (by omega))
  refine ⟨fun f hf => ?_, fun q hq => ?_⟩
  · cases hf
  · obtain rfl := List.mem_singleton.mp hq
    show sz_pr 0 [] _
    exact hz
theorem sz_k5 : sx_Rk sz_pr sz_u5 := by
  intro r hh hh' hb hF hG hP hw
  obtain ⟨x0, r0, e0, l0, u0, hb⟩ := sz_bc hb
  obtain ⟨x1, r1, e1, l1, u1, hb⟩ := sz_bc hb
  have hbn := sz_bn hb
  subst hbn
  subst e1
  subst e0
  have E0 : sx_ev [0, 1] [x0, x1] = x0 := by simp [sx_ev, sx_dot] <;> omega
  have E1 : sx_ev [13] [x0, x1] = 13 := by simp [sx_ev, sx_dot] <;> omega
  have E2 : sx_ev [0, 0, 1] [x0, x1] = x1 := by simp [sx_ev, sx_dot] <;> omega
  have g0 := hG (87, [0, 1], [13], [0, 0, 1]) List.mem_cons_self
  dsimp only at g0
  rw [E0, E1, E2] at g0
  have p0 := hP (0, []) List.mem_cons_self
  have p0 : sz_pr 0 [] hh := p0
  have hw := sz_w0 hw
  rw [hw]
  have hz := zs_jf_ses (hh := hh) l0 u0 l1 u1 g0 p0
  refine ⟨fun f hf => ?_, fun q hq => ?_⟩
  · cases hf
  · rcases List.mem_cons.mp hq with rfl | hq
    · show sz_pr 3 [sx_ev [0, 1] [x0, x1]] _
      rw [E0]
      exact hz.1
    obtain rfl := List.mem_singleton.mp hq
    show sz_pr 1 [sx_ev [0, 1] [x0, x1]] _
    rw [E0]
    exact hz.2
theorem sz_k6 : sx_Rk sz_pr sz_u6 := by
  intro r hh hh' hb hF hG hP hw
  obtain ⟨x0, r0, e0, l0, u0, hb⟩ := sz_bc hb
  obtain ⟨x1, r1, e1, l1, u1, hb⟩ := sz_bc hb
  have hbn := sz_bn hb
  subst hbn
  subst e1
  subst e0
  have E0 : sx_ev [0, 1] [x0, x1] = x0 := by simp [sx_ev, sx_dot] <;> omega
  have E1 : sx_ev [6] [x0, x1] = 6 := by simp [sx_ev, sx_dot] <;> omega
  have E2 : sx_ev [0, 0, 1] [x0, x1] = x1 := by simp [sx_ev, sx_dot] <;> omega
  have g0 := hG (87, [0, 1], [6], [0, 0, 1]) List.mem_cons_self
  dsimp only at g0
  rw [E0, E1, E2] at g0
  have p0 := hP (0, []) List.mem_cons_self
  have p0 : sz_pr 0 [] hh := p0
  have hw := sz_w0 hw
  rw [hw]
  have hz := zs_jf_in (hh := hh) l0 u0 l1 u1 g0 p0
  refine ⟨fun f hf => ?_, fun q hq => ?_⟩
  · cases hf
  · obtain rfl := List.mem_singleton.mp hq
    show sz_pr 3 [sx_ev [0, 1] [x0, x1]] _
    rw [E0]
    exact hz
theorem sz_k7 : sx_Rk sz_pr sz_u7 := by
  intro r hh hh' hb hF hG hP hw
  obtain ⟨x0, r0, e0, l0, u0, hb⟩ := sz_bc hb
  obtain ⟨x1, r1, e1, l1, u1, hb⟩ := sz_bc hb
  have hbn := sz_bn hb
  subst hbn
  subst e1
  subst e0
  have E0 : sx_ev [0, 1] [x0, x1] = x0 := by simp [sx_ev, sx_dot] <;> omega
  have E1 : sx_ev [13] [x0, x1] = 13 := by simp [sx_ev, sx_dot] <;> omega
  have E2 : sx_ev [0, 0, 1] [x0, x1] = x1 := by simp [sx_ev, sx_dot] <;> omega
  have p0 := hP (0, []) List.mem_cons_self
  have p0 : sz_pr 0 [] hh := p0
  have p1 := hP (3, [[0, 1]]) (List.mem_cons_of_mem _ List.mem_cons_self)
  have p1 : sz_pr 3 [sx_ev [0, 1] [x0, x1]] hh := p1
  rw [E0] at p1
  have hu := sz_w1 hw
  rw [E0, E1, E2] at hu
  have hz := zs_w_ses (hh := hh) (hh' := hh') l0 u0 l1 u1 p0 p1 (fun c => by rw [hu]; exact if_neg (by omega)) (fun c => by rw [hu]; simp) (fun c => by rw [hu]; exact if_neg (by omega)) (fun c => by rw [hu]; exact if_neg (by omega)) (fun c => by rw [hu]; exact if_neg (by omega)) (fun c => by rw [hu]; exact if_neg (by omega)) (fun c g => by rw [hu]; exact if_neg (by omega))
  refine ⟨fun f hf => ?_, fun q hq => ?_⟩
  · cases hf
  · obtain rfl := List.mem_singleton.mp hq
    show sz_pr 0 [] _
    exact hz
theorem sz_k8 : sx_Rk sz_pr sz_u8 := by
  intro r hh hh' hb hF hG hP hw
  obtain ⟨x0, r0, e0, l0, u0, hb⟩ := sz_bc hb
  obtain ⟨x1, r1, e1, l1, u1, hb⟩ := sz_bc hb
  obtain ⟨x2, r2, e2, l2, u2, hb⟩ := sz_bc hb
  obtain ⟨x3, r3, e3, l3, u3, hb⟩ := sz_bc hb
  have hbn := sz_bn hb
  subst hbn
  subst e3
  subst e2
  subst e1
  subst e0
  have E0 : sx_ev [0, 1] [x0, x1, x2, x3] = x0 := by simp [sx_ev, sx_dot] <;> omega
  have E1 : sx_ev [6] [x0, x1, x2, x3] = 6 := by simp [sx_ev, sx_dot] <;> omega
  have E2 : sx_ev [0, 0, 1] [x0, x1, x2, x3] = x1 := by simp [sx_ev, sx_dot] <;> omega
  have E3 : sx_ev [0, 0, 0, 1] [x0, x1, x2, x3] = x2 := by simp [sx_ev, sx_dot] <;> omega
  have E4 : sx_ev [0, 0, 0, 0, 1] [x0, x1, x2, x3] = x3 := by simp [sx_ev, sx_dot] <;> omega
  have g0 := hG (88, [0, 1], [6], [0, 0, 1]) List.mem_cons_self
  dsimp only at g0
  rw [E0, E1, E2] at g0
  have p0 := hP (0, []) List.mem_cons_self
  have p0 : sz_pr 0 [] hh := p0
  have p1 := hP (3, [[0, 0, 0, 1]]) (List.mem_cons_of_mem _ List.mem_cons_self)
  have p1 : sz_pr 3 [sx_ev [0, 0, 0, 1] [x0, x1, x2, x3]] hh := p1
  rw [E3] at p1
  have hu := sz_w1 hw
  rw [E0, E2, E4] at hu
  have hz := zs_w_chain (hh := hh) (hh' := hh') l0 u0 l1 u1 l2 u2 l3 u3 g0 p0 p1 (fun c => by rw [hu]; exact if_neg (by omega)) (fun c => by rw [hu]; exact if_neg (by omega)) (fun c => by rw [hu]; exact if_neg (by omega)) (fun c => by rw [hu]; exact if_neg (by omega)) (fun c => by rw [hu]; exact if_neg (by omega)) (fun c => by rw [hu]; exact if_neg (by omega)) (fun c g => by rw [hu]; simp)
  refine ⟨fun f hf => ?_, fun q hq => ?_⟩
  · cases hf
  · rcases List.mem_cons.mp hq with rfl | hq
    · show sz_pr 0 [] _
      exact hz.1
    obtain rfl := List.mem_singleton.mp hq
    show sz_pr 3 [sx_ev [0, 0, 0, 1] [x0, x1, x2, x3]] _
    rw [E3]
    exact hz.2
theorem sz_k9 : sx_Rk sz_pr sz_u9 := by
  intro r hh hh' hb hF hG hP hw
  obtain ⟨x0, r0, e0, l0, u0, hb⟩ := sz_bc hb
  obtain ⟨x1, r1, e1, l1, u1, hb⟩ := sz_bc hb
  obtain ⟨x2, r2, e2, l2, u2, hb⟩ := sz_bc hb
  obtain ⟨x3, r3, e3, l3, u3, hb⟩ := sz_bc hb
  have hbn := sz_bn hb
  subst hbn
  subst e3
  subst e2
  subst e1
  subst e0
  have E0 : sx_ev [0, 1] [x0, x1, x2, x3] = x0 := by simp [sx_ev, sx_dot] <;> omega
  have E1 : sx_ev [6] [x0, x1, x2, x3] = 6 := by simp [sx_ev, sx_dot] <;> omega
  have E2 : sx_ev [0, 0, 1] [x0, x1, x2, x3] = x1 := by simp [sx_ev, sx_dot] <;> omega
  have E3 : sx_ev [0, 0, 0, 1] [x0, x1, x2, x3] = x2 := by simp [sx_ev, sx_dot] <;> omega
  have E4 : sx_ev [0, 0, 0, 0, 1] [x0, x1, x2, x3] = x3 := by simp [sx_ev, sx_dot] <;> omega
  have g0 := hG (88, [0, 1], [6], [0, 0, 1]) List.mem_cons_self
  dsimp only at g0
  rw [E0, E1, E2] at g0
  have p0 := hP (2, [[0, 1], [0, 0, 0, 1]]) List.mem_cons_self
  have p0 : sz_pr 2 [sx_ev [0, 1] [x0, x1, x2, x3], sx_ev [0, 0, 0, 1] [x0, x1, x2, x3]] hh := p0
  rw [E0, E3] at p0
  have hu := sz_w1 hw
  rw [E0, E2, E4] at hu
  have hz := zs_w_chtp (hh := hh) (hh' := hh') l0 u0 l1 u1 l2 u2 l3 u3 g0 p0 (fun c => by rw [hu]; exact if_neg (by omega)) (fun c g => by rw [hu]; simp)
  refine ⟨fun f hf => ?_, fun q hq => ?_⟩
  · cases hf
  · obtain rfl := List.mem_singleton.mp hq
    show sz_pr 2 [sx_ev [0, 1] [x0, x1, x2, x3], sx_ev [0, 0, 0, 1] [x0, x1, x2, x3]] _
    rw [E0, E3]
    exact hz
theorem sz_k10 : sx_Rk sz_pr sz_u10 := by
  intro r hh hh' hb hF hG hP hw
  obtain ⟨x0, r0, e0, l0, u0, hb⟩ := sz_bc hb
  obtain ⟨x1, r1, e1, l1, u1, hb⟩ := sz_bc hb
  obtain ⟨x2, r2, e2, l2, u2, hb⟩ := sz_bc hb
  obtain ⟨x3, r3, e3, l3, u3, hb⟩ := sz_bc hb
  obtain ⟨x4, r4, e4, l4, u4, hb⟩ := sz_bc hb
  have hbn := sz_bn hb
  subst hbn
  subst e4
  subst e3
  subst e2
  subst e1
  subst e0
  have E0 : sx_ev [0, 1] [x0, x1, x2, x3, x4] = x0 := by simp [sx_ev, sx_dot] <;> omega
  have E1 : sx_ev [6] [x0, x1, x2, x3, x4] = 6 := by simp [sx_ev, sx_dot] <;> omega
  have E2 : sx_ev [0, 0, 0, 1] [x0, x1, x2, x3, x4] = x2 := by simp [sx_ev, sx_dot] <;> omega
  have E3 : sx_ev [0, 0, 1] [x0, x1, x2, x3, x4] = x1 := by simp [sx_ev, sx_dot] <;> omega
  have E4 : sx_ev [13] [x0, x1, x2, x3, x4] = 13 := by simp [sx_ev, sx_dot] <;> omega
  have E5 : sx_ev [-1, 1] [x0, x1, x2, x3, x4] = x0 - 1 := by simp [sx_ev, sx_dot] <;> omega
  have E6 : sx_ev [0, 0, 0, 0, 1] [x0, x1, x2, x3, x4] = x3 := by simp [sx_ev, sx_dot] <;> omega
  have E7 : sx_ev [2] [x0, x1, x2, x3, x4] = 2 := by simp [sx_ev, sx_dot] <;> omega
  have E8 : sx_ev [0, 0, 0, 0, 0, 1] [x0, x1, x2, x3, x4] = x4 := by simp [sx_ev, sx_dot] <;> omega
  have E9 : sx_ev [1, 0, 0, 1] [x0, x1, x2, x3, x4] = x2 + 1 := by simp [sx_ev, sx_dot] <;> omega
  have g0 := hG (88, [0, 1], [6], [0, 0, 0, 1]) List.mem_cons_self
  dsimp only at g0
  rw [E0, E1, E2] at g0
  have g1 := hG (14, [0, 1], [0, 0, 0, 1], [0, 0, 1]) (List.mem_cons_of_mem _ List.mem_cons_self)
  dsimp only at g1
  rw [E0, E2, E3] at g1
  have g2 := hG (87, [0, 0, 1], [13], [-1, 1]) (List.mem_cons_of_mem _ (List.mem_cons_of_mem _ List.mem_cons_self))
  dsimp only at g2
  rw [E3, E4, E5] at g2
  have g3 := hG (87, [0, 0, 1], [6], [0, 0, 0, 0, 1]) (List.mem_cons_of_mem _ (List.mem_cons_of_mem _ (List.mem_cons_of_mem _ List.mem_cons_self)))
  dsimp only at g3
  rw [E3, E1, E6] at g3
  have g4 := hG (88, [0, 1], [2], [0, 0, 0, 0, 0, 1]) (List.mem_cons_of_mem _ (List.mem_cons_of_mem _ (List.mem_cons_of_mem _ (List.mem_cons_of_mem _ List.mem_cons_self))))
  dsimp only at g4
  rw [E0, E7, E8] at g4
  have p0 := hP (0, []) List.mem_cons_self
  have p0 : sz_pr 0 [] hh := p0
  have p1 := hP (3, [[0, 0, 1]]) (List.mem_cons_of_mem _ List.mem_cons_self)
  have p1 : sz_pr 3 [sx_ev [0, 0, 1] [x0, x1, x2, x3, x4]] hh := p1
  rw [E3] at p1
  have hu := sz_w1 hw
  rw [E0, E1, E9] at hu
  have hz := zs_w_run0 (hh := hh) (hh' := hh') l0 u0 l1 u1 l2 u2 l3 u3 l4 u4 g0 g1 g2 g3 g4 p0 p1 (fun c => by rw [hu]; exact if_neg (by omega)) (fun c => by rw [hu]; exact if_neg (by omega)) (fun c => by rw [hu]; exact if_neg (by omega)) (fun c => by rw [hu]; exact if_neg (by omega)) (fun c => by rw [hu]; exact if_neg (by omega)) (fun c => by rw [hu]; simp) (fun c g => by rw [hu]; exact if_neg (by omega))
  refine ⟨fun f hf => ?_, fun q hq => ?_⟩
  · cases hf
  · obtain rfl := List.mem_singleton.mp hq
    show sz_pr 0 [] _
    exact hz
theorem sz_k11 : sx_Rk sz_pr sz_u11 := by
  intro r hh hh' hb hF hG hP hw
  obtain ⟨x0, r0, e0, l0, u0, hb⟩ := sz_bc hb
  obtain ⟨x1, r1, e1, l1, u1, hb⟩ := sz_bc hb
  obtain ⟨x2, r2, e2, l2, u2, hb⟩ := sz_bc hb
  obtain ⟨x3, r3, e3, l3, u3, hb⟩ := sz_bc hb
  obtain ⟨x4, r4, e4, l4, u4, hb⟩ := sz_bc hb
  have hbn := sz_bn hb
  subst hbn
  subst e4
  subst e3
  subst e2
  subst e1
  subst e0
  have E0 : sx_ev [-1, 0, 1] [x0, x1, x2, x3, x4] = x1 - 1 := by simp [sx_ev, sx_dot] <;> omega
  have E1 : sx_ev [0, 1] [x0, x1, x2, x3, x4] = x0 := by simp [sx_ev, sx_dot] <;> omega
  have E2 : sx_ev [6] [x0, x1, x2, x3, x4] = 6 := by simp [sx_ev, sx_dot] <;> omega
  have E3 : sx_ev [0, 0, 1] [x0, x1, x2, x3, x4] = x1 := by simp [sx_ev, sx_dot] <;> omega
  have E4 : sx_ev [0, 0, 0, 1] [x0, x1, x2, x3, x4] = x2 := by simp [sx_ev, sx_dot] <;> omega
  have E5 : sx_ev [13] [x0, x1, x2, x3, x4] = 13 := by simp [sx_ev, sx_dot] <;> omega
  have E6 : sx_ev [-1, 1] [x0, x1, x2, x3, x4] = x0 - 1 := by simp [sx_ev, sx_dot] <;> omega
  have E7 : sx_ev [0, 0, 0, 0, 0, 1] [x0, x1, x2, x3, x4] = x4 := by simp [sx_ev, sx_dot] <;> omega
  have E8 : sx_ev [0, 0, 0, 0, 1] [x0, x1, x2, x3, x4] = x3 := by simp [sx_ev, sx_dot] <;> omega
  have E9 : sx_ev [1, 0, 1] [x0, x1, x2, x3, x4] = x1 + 1 := by simp [sx_ev, sx_dot] <;> omega
  have f0 := hF [-1, 0, 1] List.mem_cons_self
  rw [E0] at f0
  have g0 := hG (88, [0, 1], [6], [0, 0, 1]) List.mem_cons_self
  dsimp only at g0
  rw [E1, E2, E3] at g0
  have g1 := hG (14, [0, 1], [0, 0, 1], [0, 0, 0, 1]) (List.mem_cons_of_mem _ List.mem_cons_self)
  dsimp only at g1
  rw [E1, E3, E4] at g1
  have g2 := hG (87, [0, 0, 0, 1], [13], [-1, 1]) (List.mem_cons_of_mem _ (List.mem_cons_of_mem _ List.mem_cons_self))
  dsimp only at g2
  rw [E4, E5, E6] at g2
  have g3 := hG (87, [0, 0, 0, 1], [6], [0, 0, 0, 0, 0, 1]) (List.mem_cons_of_mem _ (List.mem_cons_of_mem _ (List.mem_cons_of_mem _ List.mem_cons_self)))
  dsimp only at g3
  rw [E4, E2, E7] at g3
  have p0 := hP (0, []) List.mem_cons_self
  have p0 : sz_pr 0 [] hh := p0
  have p1 := hP (3, [[0, 0, 0, 1]]) (List.mem_cons_of_mem _ List.mem_cons_self)
  have p1 : sz_pr 3 [sx_ev [0, 0, 0, 1] [x0, x1, x2, x3, x4]] hh := p1
  rw [E4] at p1
  have p2 := hP (2, [[0, 1], [0, 0, 0, 0, 1]]) (List.mem_cons_of_mem _ (List.mem_cons_of_mem _ List.mem_cons_self))
  have p2 : sz_pr 2 [sx_ev [0, 1] [x0, x1, x2, x3, x4], sx_ev [0, 0, 0, 0, 1] [x0, x1, x2, x3, x4]] hh := p2
  rw [E1, E8] at p2
  have hu := sz_w1 hw
  rw [E1, E2, E9] at hu
  have hz := zs_w_run1 (hh := hh) (hh' := hh') l0 u0 l1 u1 l2 u2 l3 u3 l4 u4 f0 g0 g1 g2 g3 p0 p1 p2 (fun c => by rw [hu]; exact if_neg (by omega)) (fun c => by rw [hu]; exact if_neg (by omega)) (fun c => by rw [hu]; exact if_neg (by omega)) (fun c => by rw [hu]; exact if_neg (by omega)) (fun c => by rw [hu]; exact if_neg (by omega)) (fun c => by rw [hu]; simp) (fun c g => by rw [hu]; exact if_neg (by omega))
  refine ⟨fun f hf => ?_, fun q hq => ?_⟩
  · cases hf
  · obtain rfl := List.mem_singleton.mp hq
    show sz_pr 6 [sx_ev [0, 0, 0, 0, 1] [x0, x1, x2, x3, x4]] _
    rw [E8]
    exact hz
theorem sz_k12 : sx_Rk sz_pr sz_u12 := by
  intro r hh hh' hb hF hG hP hw
  obtain ⟨x0, r0, e0, l0, u0, hb⟩ := sz_bc hb
  obtain ⟨x1, r1, e1, l1, u1, hb⟩ := sz_bc hb
  have hbn := sz_bn hb
  subst hbn
  subst e1
  subst e0
  have E0 : sx_ev [62, 0, -1] [x0, x1] = -x1 + 62 := by simp [sx_ev, sx_dot] <;> omega
  have E1 : sx_ev [0, 1] [x0, x1] = x0 := by simp [sx_ev, sx_dot] <;> omega
  have E2 : sx_ev [15] [x0, x1] = 15 := by simp [sx_ev, sx_dot] <;> omega
  have E3 : sx_ev [0, 0, 1] [x0, x1] = x1 := by simp [sx_ev, sx_dot] <;> omega
  have f0 := hF [62, 0, -1] List.mem_cons_self
  rw [E0] at f0
  have p0 := hP (6, [[0, 1]]) List.mem_cons_self
  have p0 : sz_pr 6 [sx_ev [0, 1] [x0, x1]] hh := p0
  rw [E1] at p0
  have hu := sz_w1 hw
  rw [E1, E2, E3] at hu
  have hz := zs_je_dep (hh := hh) (hh' := hh') l0 u0 l1 u1 f0 p0 (fun c => by rw [hu]; exact if_neg (by omega)) (fun c => by rw [hu]; exact if_neg (by omega)) (fun c => by rw [hu]; simp) (fun c => by rw [hu]; exact if_neg (by omega)) (fun c => by rw [hu]; exact if_neg (by omega)) (fun c => by rw [hu]; exact if_neg (by omega)) (fun c g => by rw [hu]; exact if_neg (by omega))
  refine ⟨fun f hf => ?_, fun q hq => ?_⟩
  · cases hf
  · obtain rfl := List.mem_singleton.mp hq
    show sz_pr 0 [] _
    exact hz
theorem sz_k13 : sx_Rk sz_pr sz_u13 := by
  intro r hh hh' hb hF hG hP hw
  obtain ⟨x0, r0, e0, l0, u0, hb⟩ := sz_bc hb
  obtain ⟨x1, r1, e1, l1, u1, hb⟩ := sz_bc hb
  have hbn := sz_bn hb
  subst hbn
  subst e1
  subst e0
  have E0 : sx_ev [-1, 0, 1] [x0, x1] = x1 - 1 := by simp [sx_ev, sx_dot] <;> omega
  have E1 : sx_ev [0, 1] [x0, x1] = x0 := by simp [sx_ev, sx_dot] <;> omega
  have E2 : sx_ev [6] [x0, x1] = 6 := by simp [sx_ev, sx_dot] <;> omega
  have E3 : sx_ev [0, 0, 1] [x0, x1] = x1 := by simp [sx_ev, sx_dot] <;> omega
  have f0 := hF [-1, 0, 1] List.mem_cons_self
  rw [E0] at f0
  have g0 := hG (88, [0, 1], [6], [0, 0, 1]) List.mem_cons_self
  dsimp only at g0
  rw [E1, E2, E3] at g0
  have p0 := hP (0, []) List.mem_cons_self
  have p0 : sz_pr 0 [] hh := p0
  have hu := sz_w1 hw
  rw [E1, E2, E0] at hu
  have hz := zs_w_leave (hh := hh) (hh' := hh') l0 u0 l1 u1 f0 g0 p0 (fun c => by rw [hu]; exact if_neg (by omega)) (fun c => by rw [hu]; exact if_neg (by omega)) (fun c => by rw [hu]; exact if_neg (by omega)) (fun c => by rw [hu]; exact if_neg (by omega)) (fun c => by rw [hu]; exact if_neg (by omega)) (fun c => by rw [hu]; simp) (fun c g => by rw [hu]; exact if_neg (by omega))
  refine ⟨fun f hf => ?_, fun q hq => ?_⟩
  · cases hf
  · rcases List.mem_cons.mp hq with rfl | hq
    · show sz_pr 0 [] _
      exact hz.1
    rcases List.mem_cons.mp hq with rfl | hq
    · show sz_pr 4 [sx_ev [0, 1] [x0, x1], sx_ev [-1, 0, 1] [x0, x1]] _
      rw [E1, E0]
      exact hz.2.1
    obtain rfl := List.mem_singleton.mp hq
    show sz_pr 5 [sx_ev [0, 1] [x0, x1]] _
    rw [E1]
    exact hz.2.2
theorem sz_k14 : sx_Rk sz_pr sz_u14 := by
  intro r hh hh' hb hF hG hP hw
  obtain ⟨x0, r0, e0, l0, u0, hb⟩ := sz_bc hb
  obtain ⟨x1, r1, e1, l1, u1, hb⟩ := sz_bc hb
  obtain ⟨x2, r2, e2, l2, u2, hb⟩ := sz_bc hb
  have hbn := sz_bn hb
  subst hbn
  subst e2
  subst e1
  subst e0
  have E0 : sx_ev [0, 1] [x0, x1, x2] = x0 := by simp [sx_ev, sx_dot] <;> omega
  have E1 : sx_ev [0, 0, 1] [x0, x1, x2] = x1 := by simp [sx_ev, sx_dot] <;> omega
  have E2 : sx_ev [0, 0, 0, 1] [x0, x1, x2] = x2 := by simp [sx_ev, sx_dot] <;> omega
  have g0 := hG (14, [0, 1], [0, 0, 1], [0, 0, 0, 1]) List.mem_cons_self
  dsimp only at g0
  rw [E0, E1, E2] at g0
  have p0 := hP (4, [[0, 1], [0, 0, 1]]) List.mem_cons_self
  have p0 : sz_pr 4 [sx_ev [0, 1] [x0, x1, x2], sx_ev [0, 0, 1] [x0, x1, x2]] hh := p0
  rw [E0, E1] at p0
  have hw := sz_w0 hw
  rw [hw]
  have hz := zs_jl_jf (hh := hh) l0 u0 l1 u1 l2 u2 g0 p0
  refine ⟨fun f hf => ?_, fun q hq => ?_⟩
  · cases hf
  · obtain rfl := List.mem_singleton.mp hq
    show sz_pr 3 [sx_ev [0, 0, 0, 1] [x0, x1, x2]] _
    rw [E2]
    exact hz
theorem sz_k15 : sx_Rk sz_pr sz_u15 := by
  intro r hh hh' hb hF hG hP hw
  obtain ⟨x0, r0, e0, l0, u0, hb⟩ := sz_bc hb
  obtain ⟨x1, r1, e1, l1, u1, hb⟩ := sz_bc hb
  obtain ⟨x2, r2, e2, l2, u2, hb⟩ := sz_bc hb
  obtain ⟨x3, r3, e3, l3, u3, hb⟩ := sz_bc hb
  have hbn := sz_bn hb
  subst hbn
  subst e3
  subst e2
  subst e1
  subst e0
  have E0 : sx_ev [-1, 0, 1] [x0, x1, x2, x3] = x1 - 1 := by simp [sx_ev, sx_dot] <;> omega
  have E1 : sx_ev [0, 1] [x0, x1, x2, x3] = x0 := by simp [sx_ev, sx_dot] <;> omega
  have E2 : sx_ev [6] [x0, x1, x2, x3] = 6 := by simp [sx_ev, sx_dot] <;> omega
  have E3 : sx_ev [0, 0, 1] [x0, x1, x2, x3] = x1 := by simp [sx_ev, sx_dot] <;> omega
  have E4 : sx_ev [0, 0, 0, 1] [x0, x1, x2, x3] = x2 := by simp [sx_ev, sx_dot] <;> omega
  have E5 : sx_ev [15] [x0, x1, x2, x3] = 15 := by simp [sx_ev, sx_dot] <;> omega
  have E6 : sx_ev [0, 0, 0, 0, 1] [x0, x1, x2, x3] = x3 := by simp [sx_ev, sx_dot] <;> omega
  have E7 : sx_ev [62, 0, 0, 0, -1] [x0, x1, x2, x3] = -x3 + 62 := by simp [sx_ev, sx_dot] <;> omega
  have f0 := hF [-1, 0, 1] List.mem_cons_self
  rw [E0] at f0
  have g0 := hG (88, [0, 1], [6], [0, 0, 1]) List.mem_cons_self
  dsimp only at g0
  rw [E1, E2, E3] at g0
  have g1 := hG (14, [0, 1], [-1, 0, 1], [0, 0, 0, 1]) (List.mem_cons_of_mem _ List.mem_cons_self)
  dsimp only at g1
  rw [E1, E0, E4] at g1
  have g2 := hG (87, [0, 0, 0, 1], [15], [0, 0, 0, 0, 1]) (List.mem_cons_of_mem _ (List.mem_cons_of_mem _ List.mem_cons_self))
  dsimp only at g2
  rw [E4, E5, E6] at g2
  have p0 := hP (5, [[0, 1]]) List.mem_cons_self
  have p0 : sz_pr 5 [sx_ev [0, 1] [x0, x1, x2, x3]] hh := p0
  rw [E1] at p0
  have hw := sz_w0 hw
  rw [hw]
  have hz := zs_jd_use (hh := hh) l0 u0 l1 u1 l2 u2 l3 u3 f0 g0 g1 g2 p0
  refine ⟨fun f hf => ?_, fun q hq => ?_⟩
  · rw [List.mem_singleton.mp hf, E7]
    exact hz
  · cases hq
theorem sz_k16 : sx_Rk sz_pr sz_u16 := by
  intro r hh hh' hb hF hG hP hw
  obtain ⟨x0, r0, e0, l0, u0, hb⟩ := sz_bc hb
  obtain ⟨x1, r1, e1, l1, u1, hb⟩ := sz_bc hb
  have hbn := sz_bn hb
  subst hbn
  subst e1
  subst e0
  have E0 : sx_ev [0, 1] [x0, x1] = x0 := by simp [sx_ev, sx_dot] <;> omega
  have E1 : sx_ev [6] [x0, x1] = 6 := by simp [sx_ev, sx_dot] <;> omega
  have E2 : sx_ev [0, 0, 1] [x0, x1] = x1 := by simp [sx_ev, sx_dot] <;> omega
  have E3 : sx_ev [2] [x0, x1] = 2 := by simp [sx_ev, sx_dot] <;> omega
  have E4 : sx_ev [] [x0, x1] = 0 := by simp [sx_ev, sx_dot] <;> omega
  have g0 := hG (88, [0, 1], [6], [0, 0, 1]) List.mem_cons_self
  dsimp only at g0
  rw [E0, E1, E2] at g0
  have p0 := hP (0, []) List.mem_cons_self
  have p0 : sz_pr 0 [] hh := p0
  have hu := sz_w1 hw
  rw [E0, E3, E4] at hu
  have hz := zs_w_open0 (hh := hh) (hh' := hh') l0 u0 l1 u1 g0 p0 (fun c => by rw [hu]; exact if_neg (by omega)) (fun c => by rw [hu]; exact if_neg (by omega)) (fun c => by rw [hu]; exact if_neg (by omega)) (fun c => by rw [hu]; simp) (fun c => by rw [hu]; exact if_neg (by omega)) (fun c => by rw [hu]; exact if_neg (by omega)) (fun c g => by rw [hu]; exact if_neg (by omega))
  refine ⟨fun f hf => ?_, fun q hq => ?_⟩
  · cases hf
  · obtain rfl := List.mem_singleton.mp hq
    show sz_pr 0 [] _
    exact hz
theorem sz_k17 : sx_Rk sz_pr sz_u17 := by
  intro r hh hh' hb hF hG hP hw
  obtain ⟨x0, r0, e0, l0, u0, hb⟩ := sz_bc hb
  have hbn := sz_bn hb
  subst hbn
  subst e0
  have E0 : sx_ev [0, 1] [x0] = x0 := by simp [sx_ev, sx_dot] <;> omega
  have E1 : sx_ev [2] [x0] = 2 := by simp [sx_ev, sx_dot] <;> omega
  have E2 : sx_ev [1] [x0] = 1 := by simp [sx_ev, sx_dot] <;> omega
  have p0 := hP (0, []) List.mem_cons_self
  have p0 : sz_pr 0 [] hh := p0
  have hu := sz_w1 hw
  rw [E0, E1, E2] at hu
  have hz := zs_w_open1 (hh := hh) (hh' := hh') l0 u0 p0 (fun c => by rw [hu]; exact if_neg (by omega)) (fun c => by rw [hu]; exact if_neg (by omega)) (fun c => by rw [hu]; exact if_neg (by omega)) (fun c => by rw [hu]; simp) (fun c => by rw [hu]; exact if_neg (by omega)) (fun c => by rw [hu]; exact if_neg (by omega)) (fun c g => by rw [hu]; exact if_neg (by omega))
  refine ⟨fun f hf => ?_, fun q hq => ?_⟩
  · cases hf
  · obtain rfl := List.mem_singleton.mp hq
    show sz_pr 7 [sx_ev [0, 1] [x0]] _
    rw [E0]
    exact hz
theorem sz_k18 : sx_Rk sz_pr sz_u18 := by
  intro r hh hh' hb hF hG hP hw
  obtain ⟨x0, r0, e0, l0, u0, hb⟩ := sz_bc hb
  obtain ⟨x1, r1, e1, l1, u1, hb⟩ := sz_bc hb
  obtain ⟨x2, r2, e2, l2, u2, hb⟩ := sz_bc hb
  have hbn := sz_bn hb
  subst hbn
  subst e2
  subst e1
  subst e0
  have E0 : sx_ev [0, 0, 1] [x0, x1, x2] = x1 := by simp [sx_ev, sx_dot] <;> omega
  have E1 : sx_ev [6] [x0, x1, x2] = 6 := by simp [sx_ev, sx_dot] <;> omega
  have E2 : sx_ev [0, 0, 0, 1] [x0, x1, x2] = x2 := by simp [sx_ev, sx_dot] <;> omega
  have E3 : sx_ev [0, 1] [x0, x1, x2] = x0 := by simp [sx_ev, sx_dot] <;> omega
  have E4 : sx_ev [3] [x0, x1, x2] = 3 := by simp [sx_ev, sx_dot] <;> omega
  have g0 := hG (87, [0, 0, 1], [6], [0, 0, 0, 1]) List.mem_cons_self
  dsimp only at g0
  rw [E0, E1, E2] at g0
  have p0 := hP (7, [[0, 1]]) List.mem_cons_self
  have p0 : sz_pr 7 [sx_ev [0, 1] [x0, x1, x2]] hh := p0
  rw [E3] at p0
  have hu := sz_w1 hw
  rw [E3, E4, E0] at hu
  have hz := zs_w_owner (hh := hh) (hh' := hh') l0 u0 l1 u1 l2 u2 g0 p0 (fun c => by rw [hu]; exact if_neg (by omega)) (fun c => by rw [hu]; exact if_neg (by omega)) (fun c => by rw [hu]; exact if_neg (by omega)) (fun c => by rw [hu]; exact if_neg (by omega)) (fun c => by rw [hu]; simp) (fun c => by rw [hu]; exact if_neg (by omega)) (fun c g => by rw [hu]; exact if_neg (by omega))
  refine ⟨fun f hf => ?_, fun q hq => ?_⟩
  · cases hf
  · obtain rfl := List.mem_singleton.mp hq
    show sz_pr 0 [] _
    exact hz
theorem sz_k19 : sx_Rk sz_pr sz_u19 := by
  intro r hh hh' hb hF hG hP hw
  obtain ⟨x0, r0, e0, l0, u0, hb⟩ := sz_bc hb
  have hbn := sz_bn hb
  subst hbn
  subst e0
  have E0 : sx_ev [0, 1] [x0] = x0 := by simp [sx_ev, sx_dot] <;> omega
  have E1 : sx_ev [6] [x0] = 6 := by simp [sx_ev, sx_dot] <;> omega
  have E2 : sx_ev [1] [x0] = 1 := by simp [sx_ev, sx_dot] <;> omega
  have p0 := hP (0, []) List.mem_cons_self
  have p0 : sz_pr 0 [] hh := p0
  have hu := sz_w1 hw
  rw [E0, E1, E2] at hu
  have hz := zs_w_in1 (hh := hh) (hh' := hh') l0 u0 p0 (fun c => by rw [hu]; simp) (fun c => by rw [hu]; exact if_neg (by omega)) (fun c => by rw [hu]; exact if_neg (by omega)) (fun c => by rw [hu]; exact if_neg (by omega)) (fun c => by rw [hu]; exact if_neg (by omega)) (fun c => by rw [hu]; exact if_neg (by omega)) (fun c g => by rw [hu]; exact if_neg (by omega))
  refine ⟨fun f hf => ?_, fun q hq => ?_⟩
  · cases hf
  · obtain rfl := List.mem_singleton.mp hq
    show sz_pr 0 [] _
    exact hz
theorem sz_k20 : sx_Rk sz_pr sz_u20 := by
  intro r hh hh' hb hF hG hP hw
  obtain ⟨x0, r0, e0, l0, u0, hb⟩ := sz_bc hb
  obtain ⟨x1, r1, e1, l1, u1, hb⟩ := sz_bc hb
  have hbn := sz_bn hb
  subst hbn
  subst e1
  subst e0
  have E0 : sx_ev [0, 1] [x0, x1] = x0 := by simp [sx_ev, sx_dot] <;> omega
  have E1 : sx_ev [0, 0, 1] [x0, x1] = x1 := by simp [sx_ev, sx_dot] <;> omega
  have E2 : sx_ev [6] [x0, x1] = 6 := by simp [sx_ev, sx_dot] <;> omega
  have E3 : sx_ev [] [x0, x1] = 0 := by simp [sx_ev, sx_dot] <;> omega
  have p0 := hP (0, []) List.mem_cons_self
  have p0 : sz_pr 0 [] hh := p0
  have p1 := hP (3, [[0, 1]]) (List.mem_cons_of_mem _ List.mem_cons_self)
  have p1 : sz_pr 3 [sx_ev [0, 1] [x0, x1]] hh := p1
  rw [E0] at p1
  have p2 := hP (8, [[0, 1], [0, 0, 1]]) (List.mem_cons_of_mem _ (List.mem_cons_of_mem _ List.mem_cons_self))
  have p2 : sz_pr 8 [sx_ev [0, 1] [x0, x1], sx_ev [0, 0, 1] [x0, x1]] hh := p2
  rw [E0, E1] at p2
  have hu := sz_w1 hw
  rw [E0, E2, E3] at hu
  have hz := zs_w_in0 (hh := hh) (hh' := hh') l0 u0 l1 u1 p0 p1 p2 (fun c => by rw [hu]; simp) (fun c => by rw [hu]; exact if_neg (by omega)) (fun c => by rw [hu]; exact if_neg (by omega)) (fun c => by rw [hu]; exact if_neg (by omega)) (fun c => by rw [hu]; exact if_neg (by omega)) (fun c => by rw [hu]; exact if_neg (by omega)) (fun c g => by rw [hu]; exact if_neg (by omega))
  refine ⟨fun f hf => ?_, fun q hq => ?_⟩
  · cases hf
  · obtain rfl := List.mem_singleton.mp hq
    show sz_pr 0 [] _
    exact hz
theorem sz_k21 : sx_Rk sz_pr sz_u21 := by
  intro r hh hh' hb hF hG hP hw
  obtain ⟨x0, r0, e0, l0, u0, hb⟩ := sz_bc hb
  obtain ⟨x1, r1, e1, l1, u1, hb⟩ := sz_bc hb
  have hbn := sz_bn hb
  subst hbn
  subst e1
  subst e0
  have E0 : sx_ev [0, 0, 1] [x0, x1] = x1 := by simp [sx_ev, sx_dot] <;> omega
  have E1 : sx_ev [0, 1] [x0, x1] = x0 := by simp [sx_ev, sx_dot] <;> omega
  have E2 : sx_ev [6] [x0, x1] = 6 := by simp [sx_ev, sx_dot] <;> omega
  have E3 : sx_ev [] [x0, x1] = 0 := by simp [sx_ev, sx_dot] <;> omega
  have p0 := hP (0, []) List.mem_cons_self
  have p0 : sz_pr 0 [] hh := p0
  have p1 := hP (10, [[0, 0, 1]]) (List.mem_cons_of_mem _ List.mem_cons_self)
  have p1 : sz_pr 10 [sx_ev [0, 0, 1] [x0, x1]] hh := p1
  rw [E0] at p1
  have hu := sz_w1 hw
  rw [E1, E2, E3] at hu
  have hz := zs_w_in0w (hh := hh) (hh' := hh') l0 u0 l1 u1 p0 p1 (fun c => by rw [hu]; simp) (fun c => by rw [hu]; exact if_neg (by omega)) (fun c => by rw [hu]; exact if_neg (by omega)) (fun c => by rw [hu]; exact if_neg (by omega)) (fun c => by rw [hu]; exact if_neg (by omega)) (fun c => by rw [hu]; exact if_neg (by omega)) (fun c g => by rw [hu]; exact if_neg (by omega))
  refine ⟨fun f hf => ?_, fun q hq => ?_⟩
  · cases hf
  · obtain rfl := List.mem_singleton.mp hq
    show sz_pr 0 [] _
    exact hz
theorem sz_k22 : sx_Rk sz_pr sz_u22 := by
  intro r hh hh' hb hF hG hP hw
  obtain ⟨x0, r0, e0, l0, u0, hb⟩ := sz_bc hb
  obtain ⟨x1, r1, e1, l1, u1, hb⟩ := sz_bc hb
  have hbn := sz_bn hb
  subst hbn
  subst e1
  subst e0
  have E0 : sx_ev [0, 1] [x0, x1] = x0 := by simp [sx_ev, sx_dot] <;> omega
  have E1 : sx_ev [13] [x0, x1] = 13 := by simp [sx_ev, sx_dot] <;> omega
  have E2 : sx_ev [0, 0, 1] [x0, x1] = x1 := by simp [sx_ev, sx_dot] <;> omega
  have g0 := hG (87, [0, 1], [13], [0, 0, 1]) List.mem_cons_self
  dsimp only at g0
  rw [E0, E1, E2] at g0
  have hw := sz_w0 hw
  rw [hw]
  have hz := zs_jx0 (hh := hh) l0 u0 l1 u1 g0
  refine ⟨fun f hf => ?_, fun q hq => ?_⟩
  · cases hf
  · obtain rfl := List.mem_singleton.mp hq
    show sz_pr 9 [sx_ev [0, 1] [x0, x1]] _
    rw [E0]
    exact hz
theorem sz_k23 : sx_Rk sz_pr sz_u23 := by
  intro r hh hh' hb hF hG hP hw
  obtain ⟨x0, r0, e0, l0, u0, hb⟩ := sz_bc hb
  obtain ⟨x1, r1, e1, l1, u1, hb⟩ := sz_bc hb
  obtain ⟨x2, r2, e2, l2, u2, hb⟩ := sz_bc hb
  have hbn := sz_bn hb
  subst hbn
  subst e2
  subst e1
  subst e0
  have E0 : sx_ev [0, 1, 0, -1] [x0, x1, x2] = x0 - x2 := by simp [sx_ev, sx_dot] <;> omega
  have E1 : sx_ev [0, -1, 0, 1] [x0, x1, x2] = -x0 + x2 := by simp [sx_ev, sx_dot] <;> omega
  have E2 : sx_ev [0, 1] [x0, x1, x2] = x0 := by simp [sx_ev, sx_dot] <;> omega
  have E3 : sx_ev [13] [x0, x1, x2] = 13 := by simp [sx_ev, sx_dot] <;> omega
  have E4 : sx_ev [0, 0, 1] [x0, x1, x2] = x1 := by simp [sx_ev, sx_dot] <;> omega
  have E5 : sx_ev [1, 0, 1] [x0, x1, x2] = x1 + 1 := by simp [sx_ev, sx_dot] <;> omega
  have E6 : sx_ev [3] [x0, x1, x2] = 3 := by simp [sx_ev, sx_dot] <;> omega
  have E7 : sx_ev [0, 0, 0, 1] [x0, x1, x2] = x2 := by simp [sx_ev, sx_dot] <;> omega
  have f0 := hF [0, 1, 0, -1] List.mem_cons_self
  rw [E0] at f0
  have f1 := hF [0, -1, 0, 1] (List.mem_cons_of_mem _ List.mem_cons_self)
  rw [E1] at f1
  have g0 := hG (87, [0, 1], [13], [0, 0, 1]) List.mem_cons_self
  dsimp only at g0
  rw [E2, E3, E4] at g0
  have g1 := hG (88, [1, 0, 1], [3], [0, 0, 0, 1]) (List.mem_cons_of_mem _ List.mem_cons_self)
  dsimp only at g1
  rw [E5, E6, E7] at g1
  have hw := sz_w0 hw
  rw [hw]
  have hz := zs_jx1 (hh := hh) l0 u0 l1 u1 l2 u2 f0 f1 g0 g1
  refine ⟨fun f hf => ?_, fun q hq => ?_⟩
  · cases hf
  · obtain rfl := List.mem_singleton.mp hq
    show sz_pr 9 [sx_ev [0, 1] [x0, x1, x2]] _
    rw [E2]
    exact hz
theorem sz_k24 : sx_Rk sz_pr sz_u24 := by
  intro r hh hh' hb hF hG hP hw
  obtain ⟨x0, r0, e0, l0, u0, hb⟩ := sz_bc hb
  obtain ⟨x1, r1, e1, l1, u1, hb⟩ := sz_bc hb
  have hbn := sz_bn hb
  subst hbn
  subst e1
  subst e0
  have E0 : sx_ev [0, 1] [x0, x1] = x0 := by simp [sx_ev, sx_dot] <;> omega
  have E1 : sx_ev [0, 0, 1] [x0, x1] = x1 := by simp [sx_ev, sx_dot] <;> omega
  have E2 : sx_ev [13] [x0, x1] = 13 := by simp [sx_ev, sx_dot] <;> omega
  have E3 : sx_ev [-1] [x0, x1] = -1 := by simp [sx_ev, sx_dot] <;> omega
  have p0 := hP (9, [[0, 1]]) List.mem_cons_self
  have p0 : sz_pr 9 [sx_ev [0, 1] [x0, x1]] hh := p0
  rw [E0] at p0
  have hu := sz_w1 hw
  rw [E1, E2, E3] at hu
  have hz := zs_jx_w (hh := hh) (hh' := hh') l0 u0 l1 u1 p0 (fun c => by rw [hu]; simp) (fun c => by rw [hu]; exact if_neg (by omega))
  refine ⟨fun f hf => ?_, fun q hq => ?_⟩
  · cases hf
  · obtain rfl := List.mem_singleton.mp hq
    show sz_pr 9 [sx_ev [0, 1] [x0, x1]] _
    rw [E0]
    exact hz
theorem sz_k25 : sx_Rk sz_pr sz_u25 := by
  intro r hh hh' hb hF hG hP hw
  obtain ⟨x0, r0, e0, l0, u0, hb⟩ := sz_bc hb
  have hbn := sz_bn hb
  subst hbn
  subst e0
  have E0 : sx_ev [0, 1] [x0] = x0 := by simp [sx_ev, sx_dot] <;> omega
  have E1 : sx_ev [] [x0] = 0 := by simp [sx_ev, sx_dot] <;> omega
  have p0 := hP (0, []) List.mem_cons_self
  have p0 : sz_pr 0 [] hh := p0
  have hw := sz_w0 hw
  rw [hw]
  have hz := zs_jv0 (hh := hh) l0 u0 p0
  refine ⟨fun f hf => ?_, fun q hq => ?_⟩
  · cases hf
  · obtain rfl := List.mem_singleton.mp hq
    show sz_pr 8 [sx_ev [0, 1] [x0], sx_ev [] [x0]] _
    rw [E0, E1]
    exact hz
theorem sz_k26 : sx_Rk sz_pr sz_u26 := by
  intro r hh hh' hb hF hG hP hw
  obtain ⟨x0, r0, e0, l0, u0, hb⟩ := sz_bc hb
  obtain ⟨x1, r1, e1, l1, u1, hb⟩ := sz_bc hb
  obtain ⟨x2, r2, e2, l2, u2, hb⟩ := sz_bc hb
  have hbn := sz_bn hb
  subst hbn
  subst e2
  subst e1
  subst e0
  have E0 : sx_ev [0, 1] [x0, x1, x2] = x0 := by simp [sx_ev, sx_dot] <;> omega
  have E1 : sx_ev [0, 0, 1] [x0, x1, x2] = x1 := by simp [sx_ev, sx_dot] <;> omega
  have E2 : sx_ev [0, 0, 0, 1] [x0, x1, x2] = x2 := by simp [sx_ev, sx_dot] <;> omega
  have E3 : sx_ev [2] [x0, x1, x2] = 2 := by simp [sx_ev, sx_dot] <;> omega
  have E4 : sx_ev [] [x0, x1, x2] = 0 := by simp [sx_ev, sx_dot] <;> omega
  have p0 := hP (8, [[0, 1], [0, 0, 1]]) List.mem_cons_self
  have p0 : sz_pr 8 [sx_ev [0, 1] [x0, x1, x2], sx_ev [0, 0, 1] [x0, x1, x2]] hh := p0
  rw [E0, E1] at p0
  have hu := sz_w1 hw
  rw [E2, E3, E4] at hu
  have hz := zs_jv_w (hh := hh) (hh' := hh') l0 u0 l1 u1 l2 u2 p0 (fun c => by rw [hu]; simp) (fun c => by rw [hu]; exact if_neg (by omega))
  refine ⟨fun f hf => ?_, fun q hq => ?_⟩
  · cases hf
  · obtain rfl := List.mem_singleton.mp hq
    show sz_pr 8 [sx_ev [0, 1] [x0, x1, x2], sx_ev [0, 0, 1] [x0, x1, x2]] _
    rw [E0, E1]
    exact hz
theorem sz_k27 : sx_Rk sz_pr sz_u27 := by
  intro r hh hh' hb hF hG hP hw
  obtain ⟨x0, r0, e0, l0, u0, hb⟩ := sz_bc hb
  obtain ⟨x1, r1, e1, l1, u1, hb⟩ := sz_bc hb
  obtain ⟨x2, r2, e2, l2, u2, hb⟩ := sz_bc hb
  have hbn := sz_bn hb
  subst hbn
  subst e2
  subst e1
  subst e0
  have E0 : sx_ev [1, 0, 1] [x0, x1, x2] = x1 + 1 := by simp [sx_ev, sx_dot] <;> omega
  have E1 : sx_ev [2] [x0, x1, x2] = 2 := by simp [sx_ev, sx_dot] <;> omega
  have E2 : sx_ev [0, 0, 0, 1] [x0, x1, x2] = x2 := by simp [sx_ev, sx_dot] <;> omega
  have E3 : sx_ev [0, 1] [x0, x1, x2] = x0 := by simp [sx_ev, sx_dot] <;> omega
  have E4 : sx_ev [0, 0, 1] [x0, x1, x2] = x1 := by simp [sx_ev, sx_dot] <;> omega
  have g0 := hG (88, [1, 0, 1], [2], [0, 0, 0, 1]) List.mem_cons_self
  dsimp only at g0
  rw [E0, E1, E2] at g0
  have p0 := hP (8, [[0, 1], [0, 0, 1]]) List.mem_cons_self
  have p0 : sz_pr 8 [sx_ev [0, 1] [x0, x1, x2], sx_ev [0, 0, 1] [x0, x1, x2]] hh := p0
  rw [E3, E4] at p0
  have hw := sz_w0 hw
  rw [hw]
  have hz := zs_jv_n0 (hh := hh) l0 u0 l1 u1 l2 u2 g0 p0
  refine ⟨fun f hf => ?_, fun q hq => ?_⟩
  · cases hf
  · obtain rfl := List.mem_singleton.mp hq
    show sz_pr 8 [sx_ev [0, 1] [x0, x1, x2], sx_ev [1, 0, 1] [x0, x1, x2]] _
    rw [E3, E0]
    exact hz
theorem sz_k28 : sx_Rk sz_pr sz_u28 := by
  intro r hh hh' hb hF hG hP hw
  obtain ⟨x0, r0, e0, l0, u0, hb⟩ := sz_bc hb
  obtain ⟨x1, r1, e1, l1, u1, hb⟩ := sz_bc hb
  obtain ⟨x2, r2, e2, l2, u2, hb⟩ := sz_bc hb
  have hbn := sz_bn hb
  subst hbn
  subst e2
  subst e1
  subst e0
  have E0 : sx_ev [-1, 1, 0, -1] [x0, x1, x2] = x0 - x2 - 1 := by simp [sx_ev, sx_dot] <;> omega
  have E1 : sx_ev [1, 0, 1] [x0, x1, x2] = x1 + 1 := by simp [sx_ev, sx_dot] <;> omega
  have E2 : sx_ev [3] [x0, x1, x2] = 3 := by simp [sx_ev, sx_dot] <;> omega
  have E3 : sx_ev [0, 0, 0, 1] [x0, x1, x2] = x2 := by simp [sx_ev, sx_dot] <;> omega
  have E4 : sx_ev [0, 1] [x0, x1, x2] = x0 := by simp [sx_ev, sx_dot] <;> omega
  have E5 : sx_ev [0, 0, 1] [x0, x1, x2] = x1 := by simp [sx_ev, sx_dot] <;> omega
  have f0 := hF [-1, 1, 0, -1] List.mem_cons_self
  rw [E0] at f0
  have g0 := hG (88, [1, 0, 1], [3], [0, 0, 0, 1]) List.mem_cons_self
  dsimp only at g0
  rw [E1, E2, E3] at g0
  have p0 := hP (8, [[0, 1], [0, 0, 1]]) List.mem_cons_self
  have p0 : sz_pr 8 [sx_ev [0, 1] [x0, x1, x2], sx_ev [0, 0, 1] [x0, x1, x2]] hh := p0
  rw [E4, E5] at p0
  have hw := sz_w0 hw
  rw [hw]
  have hz := zs_jv_n1 (hh := hh) l0 u0 l1 u1 l2 u2 f0 g0 p0
  refine ⟨fun f hf => ?_, fun q hq => ?_⟩
  · cases hf
  · obtain rfl := List.mem_singleton.mp hq
    show sz_pr 8 [sx_ev [0, 1] [x0, x1, x2], sx_ev [1, 0, 1] [x0, x1, x2]] _
    rw [E4, E1]
    exact hz
theorem sz_k29 : sx_Rk sz_pr sz_u29 := by
  intro r hh hh' hb hF hG hP hw
  obtain ⟨x0, r0, e0, l0, u0, hb⟩ := sz_bc hb
  obtain ⟨x1, r1, e1, l1, u1, hb⟩ := sz_bc hb
  obtain ⟨x2, r2, e2, l2, u2, hb⟩ := sz_bc hb
  have hbn := sz_bn hb
  subst hbn
  subst e2
  subst e1
  subst e0
  have E0 : sx_ev [-1, -1, 0, 1] [x0, x1, x2] = -x0 + x2 - 1 := by simp [sx_ev, sx_dot] <;> omega
  have E1 : sx_ev [1, 0, 1] [x0, x1, x2] = x1 + 1 := by simp [sx_ev, sx_dot] <;> omega
  have E2 : sx_ev [3] [x0, x1, x2] = 3 := by simp [sx_ev, sx_dot] <;> omega
  have E3 : sx_ev [0, 0, 0, 1] [x0, x1, x2] = x2 := by simp [sx_ev, sx_dot] <;> omega
  have E4 : sx_ev [0, 1] [x0, x1, x2] = x0 := by simp [sx_ev, sx_dot] <;> omega
  have E5 : sx_ev [0, 0, 1] [x0, x1, x2] = x1 := by simp [sx_ev, sx_dot] <;> omega
  have f0 := hF [-1, -1, 0, 1] List.mem_cons_self
  rw [E0] at f0
  have g0 := hG (88, [1, 0, 1], [3], [0, 0, 0, 1]) List.mem_cons_self
  dsimp only at g0
  rw [E1, E2, E3] at g0
  have p0 := hP (8, [[0, 1], [0, 0, 1]]) List.mem_cons_self
  have p0 : sz_pr 8 [sx_ev [0, 1] [x0, x1, x2], sx_ev [0, 0, 1] [x0, x1, x2]] hh := p0
  rw [E4, E5] at p0
  have hw := sz_w0 hw
  rw [hw]
  have hz := zs_jv_n2 (hh := hh) l0 u0 l1 u1 l2 u2 f0 g0 p0
  refine ⟨fun f hf => ?_, fun q hq => ?_⟩
  · cases hf
  · obtain rfl := List.mem_singleton.mp hq
    show sz_pr 8 [sx_ev [0, 1] [x0, x1, x2], sx_ev [1, 0, 1] [x0, x1, x2]] _
    rw [E4, E1]
    exact hz
theorem sz_k30 : sx_Rk sz_pr sz_u30 := by
  intro r hh hh' hb hF hG hP hw
  obtain ⟨x0, r0, e0, l0, u0, hb⟩ := sz_bc hb
  obtain ⟨x1, r1, e1, l1, u1, hb⟩ := sz_bc hb
  have hbn := sz_bn hb
  subst hbn
  subst e1
  subst e0
  have E0 : sx_ev [0, 1] [x0, x1] = x0 := by simp [sx_ev, sx_dot] <;> omega
  have E1 : sx_ev [0, 0, 1] [x0, x1] = x1 := by simp [sx_ev, sx_dot] <;> omega
  have p0 := hP (0, []) List.mem_cons_self
  have p0 : sz_pr 0 [] hh := p0
  have p1 := hP (8, [[0, 1], [0, 0, 1]]) (List.mem_cons_of_mem _ List.mem_cons_self)
  have p1 : sz_pr 8 [sx_ev [0, 1] [x0, x1], sx_ev [0, 0, 1] [x0, x1]] hh := p1
  rw [E0, E1] at p1
  have p2 := hP (9, [[0, 1]]) (List.mem_cons_of_mem _ (List.mem_cons_of_mem _ List.mem_cons_self))
  have p2 : sz_pr 9 [sx_ev [0, 1] [x0, x1]] hh := p2
  rw [E0] at p2
  have hw := sz_w0 hw
  rw [hw]
  have hz := zs_jf_v (hh := hh) l0 u0 l1 u1 p0 p1 p2
  refine ⟨fun f hf => ?_, fun q hq => ?_⟩
  · cases hf
  · obtain rfl := List.mem_singleton.mp hq
    show sz_pr 3 [sx_ev [0, 1] [x0, x1]] _
    rw [E0]
    exact hz
theorem sz_k31 : sx_Rk sz_pr sz_u31 := by
  intro r hh hh' hb hF hG hP hw
  have hbn := sz_bn hb
  subst hbn
  have E0 : sx_ev [] [] = 0 := by simp [sx_ev, sx_dot] <;> omega
  have p0 := hP (0, []) List.mem_cons_self
  have p0 : sz_pr 0 [] hh := p0
  have hw := sz_w0 hw
  rw [hw]
  have hz := zs_jw0 (hh := hh) p0
  refine ⟨fun f hf => ?_, fun q hq => ?_⟩
  · cases hf
  · obtain rfl := List.mem_singleton.mp hq
    show sz_pr 10 [sx_ev [] []] _
    rw [E0]
    exact hz
theorem sz_k32 : sx_Rk sz_pr sz_u32 := by
  intro r hh hh' hb hF hG hP hw
  obtain ⟨x0, r0, e0, l0, u0, hb⟩ := sz_bc hb
  obtain ⟨x1, r1, e1, l1, u1, hb⟩ := sz_bc hb
  have hbn := sz_bn hb
  subst hbn
  subst e1
  subst e0
  have E0 : sx_ev [0, 1] [x0, x1] = x0 := by simp [sx_ev, sx_dot] <;> omega
  have E1 : sx_ev [0, 0, 1] [x0, x1] = x1 := by simp [sx_ev, sx_dot] <;> omega
  have E2 : sx_ev [2] [x0, x1] = 2 := by simp [sx_ev, sx_dot] <;> omega
  have E3 : sx_ev [] [x0, x1] = 0 := by simp [sx_ev, sx_dot] <;> omega
  have p0 := hP (10, [[0, 1]]) List.mem_cons_self
  have p0 : sz_pr 10 [sx_ev [0, 1] [x0, x1]] hh := p0
  rw [E0] at p0
  have hu := sz_w1 hw
  rw [E1, E2, E3] at hu
  have hz := zs_jw_w (hh := hh) (hh' := hh') l0 u0 l1 u1 p0 (fun c => by rw [hu]; simp)
  refine ⟨fun f hf => ?_, fun q hq => ?_⟩
  · cases hf
  · obtain rfl := List.mem_singleton.mp hq
    show sz_pr 10 [sx_ev [0, 1] [x0, x1]] _
    rw [E0]
    exact hz
theorem sz_k33 : sx_Rk sz_pr sz_u33 := by
  intro r hh hh' hb hF hG hP hw
  obtain ⟨x0, r0, e0, l0, u0, hb⟩ := sz_bc hb
  obtain ⟨x1, r1, e1, l1, u1, hb⟩ := sz_bc hb
  have hbn := sz_bn hb
  subst hbn
  subst e1
  subst e0
  have E0 : sx_ev [1, 1] [x0, x1] = x0 + 1 := by simp [sx_ev, sx_dot] <;> omega
  have E1 : sx_ev [2] [x0, x1] = 2 := by simp [sx_ev, sx_dot] <;> omega
  have E2 : sx_ev [0, 0, 1] [x0, x1] = x1 := by simp [sx_ev, sx_dot] <;> omega
  have E3 : sx_ev [0, 1] [x0, x1] = x0 := by simp [sx_ev, sx_dot] <;> omega
  have g0 := hG (88, [1, 1], [2], [0, 0, 1]) List.mem_cons_self
  dsimp only at g0
  rw [E0, E1, E2] at g0
  have p0 := hP (10, [[0, 1]]) List.mem_cons_self
  have p0 : sz_pr 10 [sx_ev [0, 1] [x0, x1]] hh := p0
  rw [E3] at p0
  have hw := sz_w0 hw
  rw [hw]
  have hz := zs_jw_n (hh := hh) l0 u0 l1 u1 g0 p0
  refine ⟨fun f hf => ?_, fun q hq => ?_⟩
  · cases hf
  · obtain rfl := List.mem_singleton.mp hq
    show sz_pr 10 [sx_ev [1, 1] [x0, x1]] _
    rw [E0]
    exact hz
theorem sz_k34 : sx_Rk sz_pr sz_u34 := by
  intro r hh hh' hb hF hG hP hw
  obtain ⟨x0, r0, e0, l0, u0, hb⟩ := sz_bc hb
  obtain ⟨x1, r1, e1, l1, u1, hb⟩ := sz_bc hb
  obtain ⟨x2, r2, e2, l2, u2, hb⟩ := sz_bc hb
  obtain ⟨x3, r3, e3, l3, u3, hb⟩ := sz_bc hb
  have hbn := sz_bn hb
  subst hbn
  subst e3
  subst e2
  subst e1
  subst e0
  have E0 : sx_ev [0, 1] [x0, x1, x2, x3] = x0 := by simp [sx_ev, sx_dot] <;> omega
  have E1 : sx_ev [2] [x0, x1, x2, x3] = 2 := by simp [sx_ev, sx_dot] <;> omega
  have E2 : sx_ev [0, 0, 0, 0, 1] [x0, x1, x2, x3] = x3 := by simp [sx_ev, sx_dot] <;> omega
  have E3 : sx_ev [3] [x0, x1, x2, x3] = 3 := by simp [sx_ev, sx_dot] <;> omega
  have E4 : sx_ev [0, 0, 1] [x0, x1, x2, x3] = x1 := by simp [sx_ev, sx_dot] <;> omega
  have E5 : sx_ev [6] [x0, x1, x2, x3] = 6 := by simp [sx_ev, sx_dot] <;> omega
  have E6 : sx_ev [0, 0, 0, 1] [x0, x1, x2, x3] = x2 := by simp [sx_ev, sx_dot] <;> omega
  have E7 : sx_ev [-1, 0, 0, 1] [x0, x1, x2, x3] = x2 - 1 := by simp [sx_ev, sx_dot] <;> omega
  have g0 := hG (88, [0, 1], [2], [0, 0, 0, 0, 1]) List.mem_cons_self
  dsimp only at g0
  rw [E0, E1, E2] at g0
  have g1 := hG (88, [0, 1], [3], [0, 0, 1]) (List.mem_cons_of_mem _ List.mem_cons_self)
  dsimp only at g1
  rw [E0, E3, E4] at g1
  have g2 := hG (87, [0, 0, 1], [6], [0, 0, 0, 1]) (List.mem_cons_of_mem _ (List.mem_cons_of_mem _ List.mem_cons_self))
  dsimp only at g2
  rw [E4, E5, E6] at g2
  have p0 := hP (0, []) List.mem_cons_self
  have p0 : sz_pr 0 [] hh := p0
  have hw := sz_w0 hw
  rw [hw]
  have hz := zs_own (hh := hh) l0 u0 l1 u1 l2 u2 l3 u3 g0 g1 g2 p0
  refine ⟨fun f hf => ?_, fun q hq => ?_⟩
  · rw [List.mem_singleton.mp hf, E7]
    exact hz
  · cases hq
theorem sz_k35 : sx_Rk sz_pr sz_u35 := by
  intro r hh hh' hb hF hG hP hw
  obtain ⟨x0, r0, e0, l0, u0, hb⟩ := sz_bc hb
  obtain ⟨x1, r1, e1, l1, u1, hb⟩ := sz_bc hb
  obtain ⟨x2, r2, e2, l2, u2, hb⟩ := sz_bc hb
  have hbn := sz_bn hb
  subst hbn
  subst e2
  subst e1
  subst e0
  have E0 : sx_ev [8, 0, -1] [x0, x1, x2] = -x1 + 8 := by simp [sx_ev, sx_dot] <;> omega
  have E1 : sx_ev [8, 0, 0, -1] [x0, x1, x2] = -x2 + 8 := by simp [sx_ev, sx_dot] <;> omega
  have E2 : sx_ev [0, 1] [x0, x1, x2] = x0 := by simp [sx_ev, sx_dot] <;> omega
  have E3 : sx_ev [8] [x0, x1, x2] = 8 := by simp [sx_ev, sx_dot] <;> omega
  have E4 : sx_ev [0, 0, 1] [x0, x1, x2] = x1 := by simp [sx_ev, sx_dot] <;> omega
  have E5 : sx_ev [12] [x0, x1, x2] = 12 := by simp [sx_ev, sx_dot] <;> omega
  have E6 : sx_ev [0, 0, 0, 1] [x0, x1, x2] = x2 := by simp [sx_ev, sx_dot] <;> omega
  have E7 : sx_ev [6] [x0, x1, x2] = 6 := by simp [sx_ev, sx_dot] <;> omega
  have E8 : sx_ev [1] [x0, x1, x2] = 1 := by simp [sx_ev, sx_dot] <;> omega
  have f0 := hF [8, 0, -1] List.mem_cons_self
  rw [E0] at f0
  have f1 := hF [8, 0, 0, -1] (List.mem_cons_of_mem _ List.mem_cons_self)
  rw [E1] at f1
  have g0 := hG (87, [0, 1], [8], [0, 0, 1]) List.mem_cons_self
  dsimp only at g0
  rw [E2, E3, E4] at g0
  have g1 := hG (87, [0, 1], [12], [0, 0, 0, 1]) (List.mem_cons_of_mem _ List.mem_cons_self)
  dsimp only at g1
  rw [E2, E5, E6] at g1
  have p0 := hP (11, []) List.mem_cons_self
  have p0 : sz_pr 11 [] hh := p0
  have hu := sz_w1 hw
  rw [E2, E7, E8] at hu
  have hz := zs_ja_in1 (hh := hh) (hh' := hh') l0 u0 l1 u1 l2 u2 f0 f1 g0 g1 p0 (fun c => by rw [hu]; simp) (fun c => by rw [hu]; exact if_neg (by omega)) (fun c => by rw [hu]; exact if_neg (by omega))
  refine ⟨fun f hf => ?_, fun q hq => ?_⟩
  · cases hf
  · obtain rfl := List.mem_singleton.mp hq
    show sz_pr 11 [] _
    exact hz
theorem sz_k36 : sx_Rk sz_pr sz_u36 := by
  intro r hh hh' hb hF hG hP hw
  obtain ⟨x0, r0, e0, l0, u0, hb⟩ := sz_bc hb
  have hbn := sz_bn hb
  subst hbn
  subst e0
  have E0 : sx_ev [0, 1] [x0] = x0 := by simp [sx_ev, sx_dot] <;> omega
  have E1 : sx_ev [6] [x0] = 6 := by simp [sx_ev, sx_dot] <;> omega
  have E2 : sx_ev [] [x0] = 0 := by simp [sx_ev, sx_dot] <;> omega
  have p0 := hP (11, []) List.mem_cons_self
  have p0 : sz_pr 11 [] hh := p0
  have hu := sz_w1 hw
  rw [E0, E1, E2] at hu
  have hz := zs_ja_in0 (hh := hh) (hh' := hh') l0 u0 p0 (fun c => by rw [hu]; simp) (fun c => by rw [hu]; exact if_neg (by omega)) (fun c => by rw [hu]; exact if_neg (by omega))
  refine ⟨fun f hf => ?_, fun q hq => ?_⟩
  · cases hf
  · obtain rfl := List.mem_singleton.mp hq
    show sz_pr 11 [] _
    exact hz
theorem sz_k37 : sx_Rk sz_pr sz_u37 := by
  intro r hh hh' hb hF hG hP hw
  obtain ⟨x0, r0, e0, l0, u0, hb⟩ := sz_bc hb
  obtain ⟨x1, r1, e1, l1, u1, hb⟩ := sz_bc hb
  obtain ⟨x2, r2, e2, l2, u2, hb⟩ := sz_bc hb
  have hbn := sz_bn hb
  subst hbn
  subst e2
  subst e1
  subst e0
  have E0 : sx_ev [0, 1] [x0, x1, x2] = x0 := by simp [sx_ev, sx_dot] <;> omega
  have E1 : sx_ev [6] [x0, x1, x2] = 6 := by simp [sx_ev, sx_dot] <;> omega
  have E2 : sx_ev [0, 0, 0, 1] [x0, x1, x2] = x2 := by simp [sx_ev, sx_dot] <;> omega
  have E3 : sx_ev [8] [x0, x1, x2] = 8 := by simp [sx_ev, sx_dot] <;> omega
  have E4 : sx_ev [0, 0, 1] [x0, x1, x2] = x1 := by simp [sx_ev, sx_dot] <;> omega
  have g0 := hG (87, [0, 1], [6], [0, 0, 0, 1]) List.mem_cons_self
  dsimp only at g0
  rw [E0, E1, E2] at g0
  have p0 := hP (11, []) List.mem_cons_self
  have p0 : sz_pr 11 [] hh := p0
  have hu := sz_w1 hw
  rw [E0, E3, E4] at hu
  have hz := zs_ja_pc (hh := hh) (hh' := hh') l0 u0 l1 u1 l2 u2 g0 p0 (fun c => by rw [hu]; exact if_neg (by omega)) (fun c => by rw [hu]; simp) (fun c => by rw [hu]; exact if_neg (by omega))
  refine ⟨fun f hf => ?_, fun q hq => ?_⟩
  · cases hf
  · obtain rfl := List.mem_singleton.mp hq
    show sz_pr 11 [] _
    exact hz
theorem sz_k38 : sx_Rk sz_pr sz_u38 := by
  intro r hh hh' hb hF hG hP hw
  obtain ⟨x0, r0, e0, l0, u0, hb⟩ := sz_bc hb
  obtain ⟨x1, r1, e1, l1, u1, hb⟩ := sz_bc hb
  obtain ⟨x2, r2, e2, l2, u2, hb⟩ := sz_bc hb
  have hbn := sz_bn hb
  subst hbn
  subst e2
  subst e1
  subst e0
  have E0 : sx_ev [0, 1] [x0, x1, x2] = x0 := by simp [sx_ev, sx_dot] <;> omega
  have E1 : sx_ev [6] [x0, x1, x2] = 6 := by simp [sx_ev, sx_dot] <;> omega
  have E2 : sx_ev [0, 0, 0, 1] [x0, x1, x2] = x2 := by simp [sx_ev, sx_dot] <;> omega
  have E3 : sx_ev [12] [x0, x1, x2] = 12 := by simp [sx_ev, sx_dot] <;> omega
  have E4 : sx_ev [0, 0, 1] [x0, x1, x2] = x1 := by simp [sx_ev, sx_dot] <;> omega
  have g0 := hG (87, [0, 1], [6], [0, 0, 0, 1]) List.mem_cons_self
  dsimp only at g0
  rw [E0, E1, E2] at g0
  have p0 := hP (11, []) List.mem_cons_self
  have p0 : sz_pr 11 [] hh := p0
  have hu := sz_w1 hw
  rw [E0, E3, E4] at hu
  have hz := zs_ja_cm (hh := hh) (hh' := hh') l0 u0 l1 u1 l2 u2 g0 p0 (fun c => by rw [hu]; exact if_neg (by omega)) (fun c => by rw [hu]; exact if_neg (by omega)) (fun c => by rw [hu]; simp)
  refine ⟨fun f hf => ?_, fun q hq => ?_⟩
  · cases hf
  · obtain rfl := List.mem_singleton.mp hq
    show sz_pr 11 [] _
    exact hz
theorem sz_k39 : sx_Rk sz_pr sz_u39 := by
  intro r hh hh' hb hF hG hP hw
  obtain ⟨x0, r0, e0, l0, u0, hb⟩ := sz_bc hb
  obtain ⟨x1, r1, e1, l1, u1, hb⟩ := sz_bc hb
  have hbn := sz_bn hb
  subst hbn
  subst e1
  subst e0
  have E0 : sx_ev [8, 0, -1] [x0, x1] = -x1 + 8 := by simp [sx_ev, sx_dot] <;> omega
  have E1 : sx_ev [0, 1] [x0, x1] = x0 := by simp [sx_ev, sx_dot] <;> omega
  have E2 : sx_ev [8] [x0, x1] = 8 := by simp [sx_ev, sx_dot] <;> omega
  have E3 : sx_ev [0, 0, 1] [x0, x1] = x1 := by simp [sx_ev, sx_dot] <;> omega
  have f0 := hF [8, 0, -1] List.mem_cons_self
  rw [E0] at f0
  have p0 := hP (11, []) List.mem_cons_self
  have p0 : sz_pr 11 [] hh := p0
  have hu := sz_w1 hw
  rw [E1, E2, E3] at hu
  have hz := zs_ja_pc8 (hh := hh) (hh' := hh') l0 u0 l1 u1 f0 p0 (fun c => by rw [hu]; exact if_neg (by omega)) (fun c => by rw [hu]; simp) (fun c => by rw [hu]; exact if_neg (by omega))
  refine ⟨fun f hf => ?_, fun q hq => ?_⟩
  · cases hf
  · obtain rfl := List.mem_singleton.mp hq
    show sz_pr 11 [] _
    exact hz
theorem sz_k40 : sx_Rk sz_pr sz_u40 := by
  intro r hh hh' hb hF hG hP hw
  obtain ⟨x0, r0, e0, l0, u0, hb⟩ := sz_bc hb
  obtain ⟨x1, r1, e1, l1, u1, hb⟩ := sz_bc hb
  have hbn := sz_bn hb
  subst hbn
  subst e1
  subst e0
  have E0 : sx_ev [8, 0, -1] [x0, x1] = -x1 + 8 := by simp [sx_ev, sx_dot] <;> omega
  have E1 : sx_ev [0, 1] [x0, x1] = x0 := by simp [sx_ev, sx_dot] <;> omega
  have E2 : sx_ev [8] [x0, x1] = 8 := by simp [sx_ev, sx_dot] <;> omega
  have E3 : sx_ev [0, 0, 1] [x0, x1] = x1 := by simp [sx_ev, sx_dot] <;> omega
  have f0 := hF [8, 0, -1] List.mem_cons_self
  rw [E0] at f0
  have p0 := hP (12, [[0, 1]]) List.mem_cons_self
  have p0 : sz_pr 12 [sx_ev [0, 1] [x0, x1]] hh := p0
  rw [E1] at p0
  have hu := sz_w1 hw
  rw [E1, E2, E3] at hu
  have hz := zs_pcb_w (hh := hh) (hh' := hh') l0 u0 l1 u1 f0 p0 (fun c => by rw [hu]; simp)
  refine ⟨fun f hf => ?_, fun q hq => ?_⟩
  · cases hf
  · obtain rfl := List.mem_singleton.mp hq
    show sz_pr 12 [sx_ev [0, 1] [x0, x1]] _
    rw [E1]
    exact hz
theorem sz_k41 : sx_Rk sz_pr sz_u41 := by
  intro r hh hh' hb hF hG hP hw
  obtain ⟨x0, r0, e0, l0, u0, hb⟩ := sz_bc hb
  obtain ⟨x1, r1, e1, l1, u1, hb⟩ := sz_bc hb
  obtain ⟨x2, r2, e2, l2, u2, hb⟩ := sz_bc hb
  have hbn := sz_bn hb
  subst hbn
  subst e2
  subst e1
  subst e0
  have E0 : sx_ev [0, 1] [x0, x1, x2] = x0 := by simp [sx_ev, sx_dot] <;> omega
  have E1 : sx_ev [6] [x0, x1, x2] = 6 := by simp [sx_ev, sx_dot] <;> omega
  have E2 : sx_ev [0, 0, 0, 1] [x0, x1, x2] = x2 := by simp [sx_ev, sx_dot] <;> omega
  have E3 : sx_ev [8] [x0, x1, x2] = 8 := by simp [sx_ev, sx_dot] <;> omega
  have E4 : sx_ev [0, 0, 1] [x0, x1, x2] = x1 := by simp [sx_ev, sx_dot] <;> omega
  have E5 : sx_ev [8, 0, -1] [x0, x1, x2] = -x1 + 8 := by simp [sx_ev, sx_dot] <;> omega
  have g0 := hG (87, [0, 1], [6], [0, 0, 0, 1]) List.mem_cons_self
  dsimp only at g0
  rw [E0, E1, E2] at g0
  have g1 := hG (87, [0, 1], [8], [0, 0, 1]) (List.mem_cons_of_mem _ List.mem_cons_self)
  dsimp only at g1
  rw [E0, E3, E4] at g1
  have p0 := hP (11, []) List.mem_cons_self
  have p0 : sz_pr 11 [] hh := p0
  have hw := sz_w0 hw
  rw [hw]
  have hz := zs_ja_upc (hh := hh) l0 u0 l1 u1 l2 u2 g0 g1 p0
  refine ⟨fun f hf => ?_, fun q hq => ?_⟩
  · rw [List.mem_singleton.mp hf, E5]
    exact hz
  · cases hq
theorem sz_k42 : sx_Rk sz_pr sz_u42 := by
  intro r hh hh' hb hF hG hP hw
  obtain ⟨x0, r0, e0, l0, u0, hb⟩ := sz_bc hb
  obtain ⟨x1, r1, e1, l1, u1, hb⟩ := sz_bc hb
  obtain ⟨x2, r2, e2, l2, u2, hb⟩ := sz_bc hb
  have hbn := sz_bn hb
  subst hbn
  subst e2
  subst e1
  subst e0
  have E0 : sx_ev [0, 1] [x0, x1, x2] = x0 := by simp [sx_ev, sx_dot] <;> omega
  have E1 : sx_ev [6] [x0, x1, x2] = 6 := by simp [sx_ev, sx_dot] <;> omega
  have E2 : sx_ev [0, 0, 0, 1] [x0, x1, x2] = x2 := by simp [sx_ev, sx_dot] <;> omega
  have E3 : sx_ev [12] [x0, x1, x2] = 12 := by simp [sx_ev, sx_dot] <;> omega
  have E4 : sx_ev [0, 0, 1] [x0, x1, x2] = x1 := by simp [sx_ev, sx_dot] <;> omega
  have E5 : sx_ev [8, 0, -1] [x0, x1, x2] = -x1 + 8 := by simp [sx_ev, sx_dot] <;> omega
  have g0 := hG (87, [0, 1], [6], [0, 0, 0, 1]) List.mem_cons_self
  dsimp only at g0
  rw [E0, E1, E2] at g0
  have g1 := hG (87, [0, 1], [12], [0, 0, 1]) (List.mem_cons_of_mem _ List.mem_cons_self)
  dsimp only at g1
  rw [E0, E3, E4] at g1
  have p0 := hP (11, []) List.mem_cons_self
  have p0 : sz_pr 11 [] hh := p0
  have hw := sz_w0 hw
  rw [hw]
  have hz := zs_ja_ucm (hh := hh) l0 u0 l1 u1 l2 u2 g0 g1 p0
  refine ⟨fun f hf => ?_, fun q hq => ?_⟩
  · rw [List.mem_singleton.mp hf, E5]
    exact hz
  · cases hq
theorem sz_k43 : sx_Rk sz_pr sz_u43 := by
  intro r hh hh' hb hF hG hP hw
  obtain ⟨x0, r0, e0, l0, u0, hb⟩ := sz_bc hb
  obtain ⟨x1, r1, e1, l1, u1, hb⟩ := sz_bc hb
  have hbn := sz_bn hb
  subst hbn
  subst e1
  subst e0
  have E0 : sx_ev [0, 1] [x0, x1] = x0 := by simp [sx_ev, sx_dot] <;> omega
  have E1 : sx_ev [8] [x0, x1] = 8 := by simp [sx_ev, sx_dot] <;> omega
  have E2 : sx_ev [0, 0, 1] [x0, x1] = x1 := by simp [sx_ev, sx_dot] <;> omega
  have E3 : sx_ev [8, 0, -1] [x0, x1] = -x1 + 8 := by simp [sx_ev, sx_dot] <;> omega
  have g0 := hG (87, [0, 1], [8], [0, 0, 1]) List.mem_cons_self
  dsimp only at g0
  rw [E0, E1, E2] at g0
  have p0 := hP (12, [[0, 1]]) List.mem_cons_self
  have p0 : sz_pr 12 [sx_ev [0, 1] [x0, x1]] hh := p0
  rw [E0] at p0
  have hw := sz_w0 hw
  rw [hw]
  have hz := zs_pcb_use (hh := hh) l0 u0 l1 u1 g0 p0
  refine ⟨fun f hf => ?_, fun q hq => ?_⟩
  · rw [List.mem_singleton.mp hf, E3]
    exact hz
  · cases hq
theorem sz_k44 : sx_Rk sz_pr sz_u44 := by
  intro r hh hh' hb hF hG hP hw
  obtain ⟨x0, r0, e0, l0, u0, hb⟩ := sz_bc hb
  have hbn := sz_bn hb
  subst hbn
  subst e0
  have E0 : sx_ev [0, 1] [x0] = x0 := by simp [sx_ev, sx_dot] <;> omega
  have E1 : sx_ev [] [x0] = 0 := by simp [sx_ev, sx_dot] <;> omega
  have hw := sz_w0 hw
  rw [hw]
  have hz := zs_ni0 (hh := hh) l0 u0
  refine ⟨fun f hf => ?_, fun q hq => ?_⟩
  · cases hf
  · obtain rfl := List.mem_singleton.mp hq
    show sz_pr 13 [sx_ev [0, 1] [x0], sx_ev [] [x0]] _
    rw [E0, E1]
    exact hz
theorem sz_k45 : sx_Rk sz_pr sz_u45 := by
  intro r hh hh' hb hF hG hP hw
  obtain ⟨x0, r0, e0, l0, u0, hb⟩ := sz_bc hb
  obtain ⟨x1, r1, e1, l1, u1, hb⟩ := sz_bc hb
  obtain ⟨x2, r2, e2, l2, u2, hb⟩ := sz_bc hb
  have hbn := sz_bn hb
  subst hbn
  subst e2
  subst e1
  subst e0
  have E0 : sx_ev [0, 0, 1] [x0, x1, x2] = x1 := by simp [sx_ev, sx_dot] <;> omega
  have E1 : sx_ev [6] [x0, x1, x2] = 6 := by simp [sx_ev, sx_dot] <;> omega
  have E2 : sx_ev [0, 0, 0, 1] [x0, x1, x2] = x2 := by simp [sx_ev, sx_dot] <;> omega
  have E3 : sx_ev [0, 1] [x0, x1, x2] = x0 := by simp [sx_ev, sx_dot] <;> omega
  have E4 : sx_ev [1, 0, 1] [x0, x1, x2] = x1 + 1 := by simp [sx_ev, sx_dot] <;> omega
  have g0 := hG (87, [0, 0, 1], [6], [0, 0, 0, 1]) List.mem_cons_self
  dsimp only at g0
  rw [E0, E1, E2] at g0
  have p0 := hP (13, [[0, 1], [0, 0, 1]]) List.mem_cons_self
  have p0 : sz_pr 13 [sx_ev [0, 1] [x0, x1, x2], sx_ev [0, 0, 1] [x0, x1, x2]] hh := p0
  rw [E3, E0] at p0
  have hw := sz_w0 hw
  rw [hw]
  have hz := zs_ni_in (hh := hh) l0 u0 l1 u1 l2 u2 g0 p0
  refine ⟨fun f hf => ?_, fun q hq => ?_⟩
  · cases hf
  · obtain rfl := List.mem_singleton.mp hq
    show sz_pr 13 [sx_ev [0, 1] [x0, x1, x2], sx_ev [1, 0, 1] [x0, x1, x2]] _
    rw [E3, E4]
    exact hz
theorem sz_k46 : sx_Rk sz_pr sz_u46 := by
  intro r hh hh' hb hF hG hP hw
  obtain ⟨x0, r0, e0, l0, u0, hb⟩ := sz_bc hb
  obtain ⟨x1, r1, e1, l1, u1, hb⟩ := sz_bc hb
  obtain ⟨x2, r2, e2, l2, u2, hb⟩ := sz_bc hb
  have hbn := sz_bn hb
  subst hbn
  subst e2
  subst e1
  subst e0
  have E0 : sx_ev [-1, 1, 0, -1] [x0, x1, x2] = x0 - x2 - 1 := by simp [sx_ev, sx_dot] <;> omega
  have E1 : sx_ev [0, 0, 1] [x0, x1, x2] = x1 := by simp [sx_ev, sx_dot] <;> omega
  have E2 : sx_ev [4] [x0, x1, x2] = 4 := by simp [sx_ev, sx_dot] <;> omega
  have E3 : sx_ev [0, 0, 0, 1] [x0, x1, x2] = x2 := by simp [sx_ev, sx_dot] <;> omega
  have E4 : sx_ev [0, 1] [x0, x1, x2] = x0 := by simp [sx_ev, sx_dot] <;> omega
  have E5 : sx_ev [1, 0, 1] [x0, x1, x2] = x1 + 1 := by simp [sx_ev, sx_dot] <;> omega
  have f0 := hF [-1, 1, 0, -1] List.mem_cons_self
  rw [E0] at f0
  have g0 := hG (87, [0, 0, 1], [4], [0, 0, 0, 1]) List.mem_cons_self
  dsimp only at g0
  rw [E1, E2, E3] at g0
  have p0 := hP (13, [[0, 1], [0, 0, 1]]) List.mem_cons_self
  have p0 : sz_pr 13 [sx_ev [0, 1] [x0, x1, x2], sx_ev [0, 0, 1] [x0, x1, x2]] hh := p0
  rw [E4, E1] at p0
  have hw := sz_w0 hw
  rw [hw]
  have hz := zs_ni_p1 (hh := hh) l0 u0 l1 u1 l2 u2 f0 g0 p0
  refine ⟨fun f hf => ?_, fun q hq => ?_⟩
  · cases hf
  · obtain rfl := List.mem_singleton.mp hq
    show sz_pr 13 [sx_ev [0, 1] [x0, x1, x2], sx_ev [1, 0, 1] [x0, x1, x2]] _
    rw [E4, E5]
    exact hz
theorem sz_k47 : sx_Rk sz_pr sz_u47 := by
  intro r hh hh' hb hF hG hP hw
  obtain ⟨x0, r0, e0, l0, u0, hb⟩ := sz_bc hb
  obtain ⟨x1, r1, e1, l1, u1, hb⟩ := sz_bc hb
  obtain ⟨x2, r2, e2, l2, u2, hb⟩ := sz_bc hb
  have hbn := sz_bn hb
  subst hbn
  subst e2
  subst e1
  subst e0
  have E0 : sx_ev [-1, -1, 0, 1] [x0, x1, x2] = -x0 + x2 - 1 := by simp [sx_ev, sx_dot] <;> omega
  have E1 : sx_ev [0, 0, 1] [x0, x1, x2] = x1 := by simp [sx_ev, sx_dot] <;> omega
  have E2 : sx_ev [4] [x0, x1, x2] = 4 := by simp [sx_ev, sx_dot] <;> omega
  have E3 : sx_ev [0, 0, 0, 1] [x0, x1, x2] = x2 := by simp [sx_ev, sx_dot] <;> omega
  have E4 : sx_ev [0, 1] [x0, x1, x2] = x0 := by simp [sx_ev, sx_dot] <;> omega
  have E5 : sx_ev [1, 0, 1] [x0, x1, x2] = x1 + 1 := by simp [sx_ev, sx_dot] <;> omega
  have f0 := hF [-1, -1, 0, 1] List.mem_cons_self
  rw [E0] at f0
  have g0 := hG (87, [0, 0, 1], [4], [0, 0, 0, 1]) List.mem_cons_self
  dsimp only at g0
  rw [E1, E2, E3] at g0
  have p0 := hP (13, [[0, 1], [0, 0, 1]]) List.mem_cons_self
  have p0 : sz_pr 13 [sx_ev [0, 1] [x0, x1, x2], sx_ev [0, 0, 1] [x0, x1, x2]] hh := p0
  rw [E4, E1] at p0
  have hw := sz_w0 hw
  rw [hw]
  have hz := zs_ni_p2 (hh := hh) l0 u0 l1 u1 l2 u2 f0 g0 p0
  refine ⟨fun f hf => ?_, fun q hq => ?_⟩
  · cases hf
  · obtain rfl := List.mem_singleton.mp hq
    show sz_pr 13 [sx_ev [0, 1] [x0, x1, x2], sx_ev [1, 0, 1] [x0, x1, x2]] _
    rw [E4, E5]
    exact hz
theorem sz_k48 : sx_Rk sz_pr sz_u48 := by
  intro r hh hh' hb hF hG hP hw
  obtain ⟨x0, r0, e0, l0, u0, hb⟩ := sz_bc hb
  obtain ⟨x1, r1, e1, l1, u1, hb⟩ := sz_bc hb
  obtain ⟨x2, r2, e2, l2, u2, hb⟩ := sz_bc hb
  obtain ⟨x3, r3, e3, l3, u3, hb⟩ := sz_bc hb
  have hbn := sz_bn hb
  subst hbn
  subst e3
  subst e2
  subst e1
  subst e0
  have E0 : sx_ev [0, 0, 1] [x0, x1, x2, x3] = x1 := by simp [sx_ev, sx_dot] <;> omega
  have E1 : sx_ev [4] [x0, x1, x2, x3] = 4 := by simp [sx_ev, sx_dot] <;> omega
  have E2 : sx_ev [0, 1] [x0, x1, x2, x3] = x0 := by simp [sx_ev, sx_dot] <;> omega
  have E3 : sx_ev [6] [x0, x1, x2, x3] = 6 := by simp [sx_ev, sx_dot] <;> omega
  have E4 : sx_ev [0, 0, 0, 1] [x0, x1, x2, x3] = x2 := by simp [sx_ev, sx_dot] <;> omega
  have E5 : sx_ev [0, 0, 0, 0, 1] [x0, x1, x2, x3] = x3 := by simp [sx_ev, sx_dot] <;> omega
  have E6 : sx_ev [0, 0, 0, -1] [x0, x1, x2, x3] = -x2 := by simp [sx_ev, sx_dot] <;> omega
  have g0 := hG (87, [0, 0, 1], [4], [0, 1]) List.mem_cons_self
  dsimp only at g0
  rw [E0, E1, E2] at g0
  have g1 := hG (87, [0, 0, 1], [6], [0, 0, 0, 1]) (List.mem_cons_of_mem _ List.mem_cons_self)
  dsimp only at g1
  rw [E0, E3, E4] at g1
  have p0 := hP (13, [[0, 1], [0, 0, 0, 0, 1]]) List.mem_cons_self
  have p0 : sz_pr 13 [sx_ev [0, 1] [x0, x1, x2, x3], sx_ev [0, 0, 0, 0, 1] [x0, x1, x2, x3]] hh := p0
  rw [E2, E5] at p0
  have hw := sz_w0 hw
  rw [hw]
  have hz := zs_ni_use (hh := hh) l0 u0 l1 u1 l2 u2 l3 u3 g0 g1 p0
  refine ⟨fun f hf => ?_, fun q hq => ?_⟩
  · rw [List.mem_singleton.mp hf, E6]
    exact hz
  · cases hq
theorem sz_k49 : sx_Rk sz_pr sz_u49 := by
  intro r hh hh' hb hF hG hP hw
  obtain ⟨x0, r0, e0, l0, u0, hb⟩ := sz_bc hb
  obtain ⟨x1, r1, e1, l1, u1, hb⟩ := sz_bc hb
  have hbn := sz_bn hb
  subst hbn
  subst e1
  subst e0
  have E0 : sx_ev [0, 1] [x0, x1] = x0 := by simp [sx_ev, sx_dot] <;> omega
  have E1 : sx_ev [0, 0, 1] [x0, x1] = x1 := by simp [sx_ev, sx_dot] <;> omega
  have E2 : sx_ev [8] [x0, x1] = 8 := by simp [sx_ev, sx_dot] <;> omega
  have p0 := hP (13, [[0, 1], [0, 0, 1]]) List.mem_cons_self
  have p0 : sz_pr 13 [sx_ev [0, 1] [x0, x1], sx_ev [0, 0, 1] [x0, x1]] hh := p0
  rw [E0, E1] at p0
  have hw := sz_w0 hw
  rw [hw]
  have hz := zs_ni8 (hh := hh) l0 u0 l1 u1 p0
  refine ⟨fun f hf => ?_, fun q hq => ?_⟩
  · cases hf
  · obtain rfl := List.mem_singleton.mp hq
    show sz_pr 13 [sx_ev [0, 1] [x0, x1], sx_ev [8] [x0, x1]] _
    rw [E0, E2]
    exact hz
theorem sz_k50 : sx_Rk sz_pr sz_u50 := by
  intro r hh hh' hb hF hG hP hw
  obtain ⟨x0, r0, e0, l0, u0, hb⟩ := sz_bc hb
  obtain ⟨x1, r1, e1, l1, u1, hb⟩ := sz_bc hb
  obtain ⟨x2, r2, e2, l2, u2, hb⟩ := sz_bc hb
  have hbn := sz_bn hb
  subst hbn
  subst e2
  subst e1
  subst e0
  have E0 : sx_ev [0, 1] [x0, x1, x2] = x0 := by simp [sx_ev, sx_dot] <;> omega
  have E1 : sx_ev [0, 0, 1] [x0, x1, x2] = x1 := by simp [sx_ev, sx_dot] <;> omega
  have E2 : sx_ev [0, 0, 0, 1] [x0, x1, x2] = x2 := by simp [sx_ev, sx_dot] <;> omega
  have p0 := hP (14, []) List.mem_cons_self
  have p0 : sz_pr 14 [] hh := p0
  have hu := sz_w1 hw
  rw [E0, E1, E2] at hu
  have hz := zs_ps_so (hh := hh) (hh' := hh') l0 u0 l1 u1 l2 u2 p0 (fun c g => by rw [hu]; simp) (fun c g => by rw [hu]; exact if_neg (by omega)) (fun c g => by rw [hu]; exact if_neg (by omega))
  refine ⟨fun f hf => ?_, fun q hq => ?_⟩
  · cases hf
  · obtain rfl := List.mem_singleton.mp hq
    show sz_pr 15 [sx_ev [0, 1] [x0, x1, x2], sx_ev [0, 0, 1] [x0, x1, x2]] _
    rw [E0, E1]
    exact hz
theorem sz_k51 : sx_Rk sz_pr sz_u51 := by
  intro r hh hh' hb hF hG hP hw
  obtain ⟨x0, r0, e0, l0, u0, hb⟩ := sz_bc hb
  obtain ⟨x1, r1, e1, l1, u1, hb⟩ := sz_bc hb
  obtain ⟨x2, r2, e2, l2, u2, hb⟩ := sz_bc hb
  have hbn := sz_bn hb
  subst hbn
  subst e2
  subst e1
  subst e0
  have E0 : sx_ev [0, 1] [x0, x1, x2] = x0 := by simp [sx_ev, sx_dot] <;> omega
  have E1 : sx_ev [0, 0, 1] [x0, x1, x2] = x1 := by simp [sx_ev, sx_dot] <;> omega
  have E2 : sx_ev [0, 0, 0, 1] [x0, x1, x2] = x2 := by simp [sx_ev, sx_dot] <;> omega
  have p0 := hP (15, [[0, 1], [0, 0, 1]]) List.mem_cons_self
  have p0 : sz_pr 15 [sx_ev [0, 1] [x0, x1, x2], sx_ev [0, 0, 1] [x0, x1, x2]] hh := p0
  rw [E0, E1] at p0
  have hu := sz_w1 hw
  rw [E0, E1, E2] at hu
  have hz := zs_px_fi (hh := hh) (hh' := hh') l0 u0 l1 u1 l2 u2 p0 (fun c g => by rw [hu]; exact if_neg (by omega)) (fun c g => by rw [hu]; simp) (fun c g => by rw [hu]; exact if_neg (by omega))
  refine ⟨fun f hf => ?_, fun q hq => ?_⟩
  · cases hf
  · obtain rfl := List.mem_singleton.mp hq
    show sz_pr 15 [sx_ev [0, 1] [x0, x1, x2], sx_ev [0, 0, 1] [x0, x1, x2]] _
    rw [E0, E1]
    exact hz
theorem sz_k52 : sx_Rk sz_pr sz_u52 := by
  intro r hh hh' hb hF hG hP hw
  obtain ⟨x0, r0, e0, l0, u0, hb⟩ := sz_bc hb
  obtain ⟨x1, r1, e1, l1, u1, hb⟩ := sz_bc hb
  obtain ⟨x2, r2, e2, l2, u2, hb⟩ := sz_bc hb
  obtain ⟨x3, r3, e3, l3, u3, hb⟩ := sz_bc hb
  have hbn := sz_bn hb
  subst hbn
  subst e3
  subst e2
  subst e1
  subst e0
  have E0 : sx_ev [3, 0, 0, -1] [x0, x1, x2, x3] = -x2 + 3 := by simp [sx_ev, sx_dot] <;> omega
  have E1 : sx_ev [0, 1] [x0, x1, x2, x3] = x0 := by simp [sx_ev, sx_dot] <;> omega
  have E2 : sx_ev [0, 0, 1] [x0, x1, x2, x3] = x1 := by simp [sx_ev, sx_dot] <;> omega
  have E3 : sx_ev [0, 0, 0, 1] [x0, x1, x2, x3] = x2 := by simp [sx_ev, sx_dot] <;> omega
  have E4 : sx_ev [0, 0, 0, 0, 1] [x0, x1, x2, x3] = x3 := by simp [sx_ev, sx_dot] <;> omega
  have f0 := hF [3, 0, 0, -1] List.mem_cons_self
  rw [E0] at f0
  have g0 := hG (15, [0, 1], [0, 0, 1], [0, 0, 0, 1]) List.mem_cons_self
  dsimp only at g0
  rw [E1, E2, E3] at g0
  have p0 := hP (15, [[0, 1], [0, 0, 1]]) List.mem_cons_self
  have p0 : sz_pr 15 [sx_ev [0, 1] [x0, x1, x2, x3], sx_ev [0, 0, 1] [x0, x1, x2, x3]] hh := p0
  rw [E1, E2] at p0
  have hu := sz_w1 hw
  rw [E1, E2, E4] at hu
  have hz := zs_px_se (hh := hh) (hh' := hh') l0 u0 l1 u1 l2 u2 l3 u3 f0 g0 p0 (fun c g => by rw [hu]; exact if_neg (by omega)) (fun c g => by rw [hu]; exact if_neg (by omega)) (fun c g => by rw [hu]; simp)
  refine ⟨fun f hf => ?_, fun q hq => ?_⟩
  · cases hf
  · obtain rfl := List.mem_singleton.mp hq
    show sz_pr 14 [] _
    exact hz
theorem sz_k53 : sx_Rk sz_pr sz_u53 := by
  intro r hh hh' hb hF hG hP hw
  obtain ⟨x0, r0, e0, l0, u0, hb⟩ := sz_bc hb
  obtain ⟨x1, r1, e1, l1, u1, hb⟩ := sz_bc hb
  obtain ⟨x2, r2, e2, l2, u2, hb⟩ := sz_bc hb
  have hbn := sz_bn hb
  subst hbn
  subst e2
  subst e1
  subst e0
  have E0 : sx_ev [0, 1] [x0, x1, x2] = x0 := by simp [sx_ev, sx_dot] <;> omega
  have E1 : sx_ev [0, 0, 1] [x0, x1, x2] = x1 := by simp [sx_ev, sx_dot] <;> omega
  have E2 : sx_ev [0, 0, 0, 1] [x0, x1, x2] = x2 := by simp [sx_ev, sx_dot] <;> omega
  have p0 := hP (15, [[0, 1], [0, 0, 1]]) List.mem_cons_self
  have p0 : sz_pr 15 [sx_ev [0, 1] [x0, x1, x2], sx_ev [0, 0, 1] [x0, x1, x2]] hh := p0
  rw [E0, E1] at p0
  have hu := sz_w1 hw
  rw [E0, E1, E2] at hu
  have hz := zs_px_se0 (hh := hh) (hh' := hh') l0 u0 l1 u1 l2 u2 p0 (fun c g => by rw [hu]; exact if_neg (by omega)) (fun c g => by rw [hu]; exact if_neg (by omega)) (fun c g => by rw [hu]; simp)
  refine ⟨fun f hf => ?_, fun q hq => ?_⟩
  · cases hf
  · obtain rfl := List.mem_singleton.mp hq
    show sz_pr 14 [] _
    exact hz
theorem sz_k54 : sx_Rk sz_pr sz_u54 := by
  intro r hh hh' hb hF hG hP hw
  obtain ⟨x0, r0, e0, l0, u0, hb⟩ := sz_bc hb
  obtain ⟨x1, r1, e1, l1, u1, hb⟩ := sz_bc hb
  obtain ⟨x2, r2, e2, l2, u2, hb⟩ := sz_bc hb
  obtain ⟨x3, r3, e3, l3, u3, hb⟩ := sz_bc hb
  have hbn := sz_bn hb
  subst hbn
  subst e3
  subst e2
  subst e1
  subst e0
  have E0 : sx_ev [0, 0, 0, 0, 1] [x0, x1, x2, x3] = x3 := by simp [sx_ev, sx_dot] <;> omega
  have E1 : sx_ev [256, 0, 0, 0, -1] [x0, x1, x2, x3] = -x3 + 256 := by simp [sx_ev, sx_dot] <;> omega
  have E2 : sx_ev [0, 0, 0, 1] [x0, x1, x2, x3] = x2 := by simp [sx_ev, sx_dot] <;> omega
  have E3 : sx_ev [8192, 0, 0, -1, -1] [x0, x1, x2, x3] = -x2 - x3 + 8192 := by simp [sx_ev, sx_dot] <;> omega
  have E4 : sx_ev [0, 1] [x0, x1, x2, x3] = x0 := by simp [sx_ev, sx_dot] <;> omega
  have E5 : sx_ev [0, 0, 1] [x0, x1, x2, x3] = x1 := by simp [sx_ev, sx_dot] <;> omega
  have f0 := hF [0, 0, 0, 0, 1] List.mem_cons_self
  rw [E0] at f0
  have f1 := hF [256, 0, 0, 0, -1] (List.mem_cons_of_mem _ List.mem_cons_self)
  rw [E1] at f1
  have f2 := hF [0, 0, 0, 1] (List.mem_cons_of_mem _ (List.mem_cons_of_mem _ List.mem_cons_self))
  rw [E2] at f2
  have f3 := hF [8192, 0, 0, -1, -1] (List.mem_cons_of_mem _ (List.mem_cons_of_mem _ (List.mem_cons_of_mem _ List.mem_cons_self)))
  rw [E3] at f3
  have g0 := hG (16, [0, 1], [0, 0, 1], [0, 0, 0, 1]) List.mem_cons_self
  dsimp only at g0
  rw [E4, E5, E2] at g0
  have p0 := hP (15, [[0, 1], [0, 0, 1]]) List.mem_cons_self
  have p0 : sz_pr 15 [sx_ev [0, 1] [x0, x1, x2, x3], sx_ev [0, 0, 1] [x0, x1, x2, x3]] hh := p0
  rw [E4, E5] at p0
  have hu := sz_w1 hw
  rw [E4, E5, E0] at hu
  have hz := zs_px_se4 (hh := hh) (hh' := hh') l0 u0 l1 u1 l2 u2 l3 u3 f0 f1 f2 f3 g0 p0 (fun c g => by rw [hu]; exact if_neg (by omega)) (fun c g => by rw [hu]; exact if_neg (by omega)) (fun c g => by rw [hu]; simp)
  refine ⟨fun f hf => ?_, fun q hq => ?_⟩
  · cases hf
  · obtain rfl := List.mem_singleton.mp hq
    show sz_pr 14 [] _
    exact hz
theorem sz_k55 : sx_Rk sz_pr sz_u55 := by
  intro r hh hh' hb hF hG hP hw
  obtain ⟨x0, r0, e0, l0, u0, hb⟩ := sz_bc hb
  obtain ⟨x1, r1, e1, l1, u1, hb⟩ := sz_bc hb
  obtain ⟨x2, r2, e2, l2, u2, hb⟩ := sz_bc hb
  obtain ⟨x3, r3, e3, l3, u3, hb⟩ := sz_bc hb
  have hbn := sz_bn hb
  subst hbn
  subst e3
  subst e2
  subst e1
  subst e0
  have E0 : sx_ev [3, 0, 0, -1] [x0, x1, x2, x3] = -x2 + 3 := by simp [sx_ev, sx_dot] <;> omega
  have E1 : sx_ev [0, 1] [x0, x1, x2, x3] = x0 := by simp [sx_ev, sx_dot] <;> omega
  have E2 : sx_ev [0, 0, 1] [x0, x1, x2, x3] = x1 := by simp [sx_ev, sx_dot] <;> omega
  have E3 : sx_ev [0, 0, 0, 1] [x0, x1, x2, x3] = x2 := by simp [sx_ev, sx_dot] <;> omega
  have E4 : sx_ev [0, 0, 0, 0, 1] [x0, x1, x2, x3] = x3 := by simp [sx_ev, sx_dot] <;> omega
  have f0 := hF [3, 0, 0, -1] List.mem_cons_self
  rw [E0] at f0
  have g0 := hG (15, [0, 1], [0, 0, 1], [0, 0, 0, 1]) List.mem_cons_self
  dsimp only at g0
  rw [E1, E2, E3] at g0
  have p0 := hP (14, []) List.mem_cons_self
  have p0 : sz_pr 14 [] hh := p0
  have hu := sz_w1 hw
  rw [E1, E2, E4] at hu
  have hz := zs_ps_fi (hh := hh) (hh' := hh') l0 u0 l1 u1 l2 u2 l3 u3 f0 g0 p0 (fun c g => by rw [hu]; exact if_neg (by omega)) (fun c g => by rw [hu]; simp) (fun c g => by rw [hu]; exact if_neg (by omega))
  refine ⟨fun f hf => ?_, fun q hq => ?_⟩
  · cases hf
  · obtain rfl := List.mem_singleton.mp hq
    show sz_pr 14 [] _
    exact hz
theorem sz_k56 : sx_Rk sz_pr sz_u56 := by
  intro r hh hh' hb hF hG hP hw
  obtain ⟨x0, r0, e0, l0, u0, hb⟩ := sz_bc hb
  obtain ⟨x1, r1, e1, l1, u1, hb⟩ := sz_bc hb
  obtain ⟨x2, r2, e2, l2, u2, hb⟩ := sz_bc hb
  obtain ⟨x3, r3, e3, l3, u3, hb⟩ := sz_bc hb
  have hbn := sz_bn hb
  subst hbn
  subst e3
  subst e2
  subst e1
  subst e0
  have E0 : sx_ev [3, 0, 0, -1] [x0, x1, x2, x3] = -x2 + 3 := by simp [sx_ev, sx_dot] <;> omega
  have E1 : sx_ev [0, 1] [x0, x1, x2, x3] = x0 := by simp [sx_ev, sx_dot] <;> omega
  have E2 : sx_ev [0, 0, 1] [x0, x1, x2, x3] = x1 := by simp [sx_ev, sx_dot] <;> omega
  have E3 : sx_ev [0, 0, 0, 1] [x0, x1, x2, x3] = x2 := by simp [sx_ev, sx_dot] <;> omega
  have E4 : sx_ev [0, 0, 0, 0, 1] [x0, x1, x2, x3] = x3 := by simp [sx_ev, sx_dot] <;> omega
  have f0 := hF [3, 0, 0, -1] List.mem_cons_self
  rw [E0] at f0
  have g0 := hG (15, [0, 1], [0, 0, 1], [0, 0, 0, 1]) List.mem_cons_self
  dsimp only at g0
  rw [E1, E2, E3] at g0
  have p0 := hP (14, []) List.mem_cons_self
  have p0 : sz_pr 14 [] hh := p0
  have hu := sz_w1 hw
  rw [E1, E2, E4] at hu
  have hz := zs_ps_se (hh := hh) (hh' := hh') l0 u0 l1 u1 l2 u2 l3 u3 f0 g0 p0 (fun c g => by rw [hu]; exact if_neg (by omega)) (fun c g => by rw [hu]; exact if_neg (by omega)) (fun c g => by rw [hu]; simp)
  refine ⟨fun f hf => ?_, fun q hq => ?_⟩
  · cases hf
  · obtain rfl := List.mem_singleton.mp hq
    show sz_pr 14 [] _
    exact hz
theorem sz_k57 : sx_Rk sz_pr sz_u57 := by
  intro r hh hh' hb hF hG hP hw
  obtain ⟨x0, r0, e0, l0, u0, hb⟩ := sz_bc hb
  obtain ⟨x1, r1, e1, l1, u1, hb⟩ := sz_bc hb
  obtain ⟨x2, r2, e2, l2, u2, hb⟩ := sz_bc hb
  obtain ⟨x3, r3, e3, l3, u3, hb⟩ := sz_bc hb
  have hbn := sz_bn hb
  subst hbn
  subst e3
  subst e2
  subst e1
  subst e0
  have E0 : sx_ev [-4, 0, 0, 1] [x0, x1, x2, x3] = x2 - 4 := by simp [sx_ev, sx_dot] <;> omega
  have E1 : sx_ev [0, 1] [x0, x1, x2, x3] = x0 := by simp [sx_ev, sx_dot] <;> omega
  have E2 : sx_ev [0, 0, 1] [x0, x1, x2, x3] = x1 := by simp [sx_ev, sx_dot] <;> omega
  have E3 : sx_ev [0, 0, 0, 1] [x0, x1, x2, x3] = x2 := by simp [sx_ev, sx_dot] <;> omega
  have E4 : sx_ev [0, 0, 0, 0, 1] [x0, x1, x2, x3] = x3 := by simp [sx_ev, sx_dot] <;> omega
  have E5 : sx_ev [256, 0, 0, 0, -1] [x0, x1, x2, x3] = -x3 + 256 := by simp [sx_ev, sx_dot] <;> omega
  have f0 := hF [-4, 0, 0, 1] List.mem_cons_self
  rw [E0] at f0
  have g0 := hG (15, [0, 1], [0, 0, 1], [0, 0, 0, 1]) List.mem_cons_self
  dsimp only at g0
  rw [E1, E2, E3] at g0
  have g1 := hG (17, [0, 1], [0, 0, 1], [0, 0, 0, 0, 1]) (List.mem_cons_of_mem _ List.mem_cons_self)
  dsimp only at g1
  rw [E1, E2, E4] at g1
  have p0 := hP (14, []) List.mem_cons_self
  have p0 : sz_pr 14 [] hh := p0
  have hw := sz_w0 hw
  rw [hw]
  have hz := zs_ps_u (hh := hh) l0 u0 l1 u1 l2 u2 l3 u3 f0 g0 g1 p0
  refine ⟨fun f hf => ?_, fun q hq => ?_⟩
  · rcases List.mem_cons.mp hf with rfl | hf
    · rw [E4]
      exact hz.1
    rw [List.mem_singleton.mp hf, E5]
    exact hz.2
  · cases hq
theorem sz_k58 : sx_Rk sz_pr sz_u58 := by
  intro r hh hh' hb hF hG hP hw
  obtain ⟨x0, r0, e0, l0, u0, hb⟩ := sz_bc hb
  obtain ⟨x1, r1, e1, l1, u1, hb⟩ := sz_bc hb
  obtain ⟨x2, r2, e2, l2, u2, hb⟩ := sz_bc hb
  obtain ⟨x3, r3, e3, l3, u3, hb⟩ := sz_bc hb
  obtain ⟨x4, r4, e4, l4, u4, hb⟩ := sz_bc hb
  have hbn := sz_bn hb
  subst hbn
  subst e4
  subst e3
  subst e2
  subst e1
  subst e0
  have E0 : sx_ev [-4, 0, 0, 1] [x0, x1, x2, x3, x4] = x2 - 4 := by simp [sx_ev, sx_dot] <;> omega
  have E1 : sx_ev [-1, 0, 0, 0, 1] [x0, x1, x2, x3, x4] = x3 - 1 := by simp [sx_ev, sx_dot] <;> omega
  have E2 : sx_ev [0, 1] [x0, x1, x2, x3, x4] = x0 := by simp [sx_ev, sx_dot] <;> omega
  have E3 : sx_ev [0, 0, 1] [x0, x1, x2, x3, x4] = x1 := by simp [sx_ev, sx_dot] <;> omega
  have E4 : sx_ev [0, 0, 0, 1] [x0, x1, x2, x3, x4] = x2 := by simp [sx_ev, sx_dot] <;> omega
  have E5 : sx_ev [0, 0, 0, 0, 1] [x0, x1, x2, x3, x4] = x3 := by simp [sx_ev, sx_dot] <;> omega
  have E6 : sx_ev [0, 0, 0, 0, 0, 1] [x0, x1, x2, x3, x4] = x4 := by simp [sx_ev, sx_dot] <;> omega
  have E7 : sx_ev [8192, 0, 0, 0, -1, -1] [x0, x1, x2, x3, x4] = -x3 - x4 + 8192 := by simp [sx_ev, sx_dot] <;> omega
  have f0 := hF [-4, 0, 0, 1] List.mem_cons_self
  rw [E0] at f0
  have f1 := hF [-1, 0, 0, 0, 1] (List.mem_cons_of_mem _ List.mem_cons_self)
  rw [E1] at f1
  have g0 := hG (15, [0, 1], [0, 0, 1], [0, 0, 0, 1]) List.mem_cons_self
  dsimp only at g0
  rw [E2, E3, E4] at g0
  have g1 := hG (17, [0, 1], [0, 0, 1], [0, 0, 0, 0, 1]) (List.mem_cons_of_mem _ List.mem_cons_self)
  dsimp only at g1
  rw [E2, E3, E5] at g1
  have g2 := hG (16, [0, 1], [0, 0, 1], [0, 0, 0, 0, 0, 1]) (List.mem_cons_of_mem _ (List.mem_cons_of_mem _ List.mem_cons_self))
  dsimp only at g2
  rw [E2, E3, E6] at g2
  have p0 := hP (14, []) List.mem_cons_self
  have p0 : sz_pr 14 [] hh := p0
  have hw := sz_w0 hw
  rw [hw]
  have hz := zs_ps_u2 (hh := hh) l0 u0 l1 u1 l2 u2 l3 u3 l4 u4 f0 f1 g0 g1 g2 p0
  refine ⟨fun f hf => ?_, fun q hq => ?_⟩
  · rcases List.mem_cons.mp hf with rfl | hf
    · rw [E6]
      exact hz.1
    rw [List.mem_singleton.mp hf, E7]
    exact hz.2
  · cases hq
theorem sz_k59 : sx_Rk sz_pr sz_u59 := by
  intro r hh hh' hb hF hG hP hw
  obtain ⟨x0, r0, e0, l0, u0, hb⟩ := sz_bc hb
  obtain ⟨x1, r1, e1, l1, u1, hb⟩ := sz_bc hb
  obtain ⟨x2, r2, e2, l2, u2, hb⟩ := sz_bc hb
  have hbn := sz_bn hb
  subst hbn
  subst e2
  subst e1
  subst e0
  have E0 : sx_ev [0, 1] [x0, x1, x2] = x0 := by simp [sx_ev, sx_dot] <;> omega
  have E1 : sx_ev [0, 0, 1] [x0, x1, x2] = x1 := by simp [sx_ev, sx_dot] <;> omega
  have E2 : sx_ev [0, 0, 0, 1] [x0, x1, x2] = x2 := by simp [sx_ev, sx_dot] <;> omega
  have p0 := hP (16, []) List.mem_cons_self
  have p0 : sz_pr 16 [] hh := p0
  have hu := sz_w1 hw
  rw [E0, E1, E2] at hu
  have hz := zs_fo_d1 (hh := hh) (hh' := hh') l0 u0 l1 u1 l2 u2 p0 (fun c g => by rw [hu]; exact if_neg (by omega)) (fun c g => by rw [hu]; simp)
  refine ⟨fun f hf => ?_, fun q hq => ?_⟩
  · cases hf
  · obtain rfl := List.mem_singleton.mp hq
    show sz_pr 17 [sx_ev [0, 1] [x0, x1, x2]] _
    rw [E0]
    exact hz
theorem sz_k60 : sx_Rk sz_pr sz_u60 := by
  intro r hh hh' hb hF hG hP hw
  obtain ⟨x0, r0, e0, l0, u0, hb⟩ := sz_bc hb
  have hbn := sz_bn hb
  subst hbn
  subst e0
  have E0 : sx_ev [0, 1] [x0] = x0 := by simp [sx_ev, sx_dot] <;> omega
  have p0 := hP (16, []) List.mem_cons_self
  have p0 : sz_pr 16 [] hh := p0
  have hu := sz_w2 hw
  rw [E0] at hu
  have hz := zs_fo_d2 (hh := hh) (hh' := hh') l0 u0 p0 (fun c g => hu _ _ _ (by omega)) (fun c g h => hu _ _ _ (by omega))
  refine ⟨fun f hf => ?_, fun q hq => ?_⟩
  · cases hf
  · obtain rfl := List.mem_singleton.mp hq
    show sz_pr 17 [sx_ev [0, 1] [x0]] _
    rw [E0]
    exact hz
theorem sz_k61 : sx_Rk sz_pr sz_u61 := by
  intro r hh hh' hb hF hG hP hw
  obtain ⟨x0, r0, e0, l0, u0, hb⟩ := sz_bc hb
  have hbn := sz_bn hb
  subst hbn
  subst e0
  have E0 : sx_ev [0, 1] [x0] = x0 := by simp [sx_ev, sx_dot] <;> omega
  have p0 := hP (17, [[0, 1]]) List.mem_cons_self
  have p0 : sz_pr 17 [sx_ev [0, 1] [x0]] hh := p0
  rw [E0] at p0
  have hu := sz_w2 hw
  rw [E0] at hu
  have hz := zs_fx_d2 (hh := hh) (hh' := hh') l0 u0 p0 (fun c g => hu _ _ _ (by omega)) (fun c g h => hu _ _ _ (by omega))
  refine ⟨fun f hf => ?_, fun q hq => ?_⟩
  · cases hf
  · obtain rfl := List.mem_singleton.mp hq
    show sz_pr 17 [sx_ev [0, 1] [x0]] _
    rw [E0]
    exact hz
theorem sz_k62 : sx_Rk sz_pr sz_u62 := by
  intro r hh hh' hb hF hG hP hw
  obtain ⟨x0, r0, e0, l0, u0, hb⟩ := sz_bc hb
  have hbn := sz_bn hb
  subst hbn
  subst e0
  have E0 : sx_ev [0, 1] [x0] = x0 := by simp [sx_ev, sx_dot] <;> omega
  have E1 : sx_ev [] [x0] = 0 := by simp [sx_ev, sx_dot] <;> omega
  have p0 := hP (17, [[0, 1]]) List.mem_cons_self
  have p0 : sz_pr 17 [sx_ev [0, 1] [x0]] hh := p0
  rw [E0] at p0
  have hu := sz_w1 hw
  rw [E1, E0] at hu
  have hz := zs_fx_f (hh := hh) (hh' := hh') l0 u0 p0 (fun c g => by rw [hu]; simp) (fun c g => by rw [hu]; exact if_neg (by omega))
  refine ⟨fun f hf => ?_, fun q hq => ?_⟩
  · cases hf
  · obtain rfl := List.mem_singleton.mp hq
    show sz_pr 16 [] _
    exact hz
theorem sz_k63 : sx_Rk sz_pr sz_u63 := by
  intro r hh hh' hb hF hG hP hw
  obtain ⟨x0, r0, e0, l0, u0, hb⟩ := sz_bc hb
  obtain ⟨x1, r1, e1, l1, u1, hb⟩ := sz_bc hb
  have hbn := sz_bn hb
  subst hbn
  subst e1
  subst e0
  have E0 : sx_ev [0, 1] [x0, x1] = x0 := by simp [sx_ev, sx_dot] <;> omega
  have E1 : sx_ev [] [x0, x1] = 0 := by simp [sx_ev, sx_dot] <;> omega
  have E2 : sx_ev [0, 0, 1] [x0, x1] = x1 := by simp [sx_ev, sx_dot] <;> omega
  have p0 := hP (16, []) List.mem_cons_self
  have p0 : sz_pr 16 [] hh := p0
  have p1 := hP (18, [[0, 1]]) (List.mem_cons_of_mem _ List.mem_cons_self)
  have p1 : sz_pr 18 [sx_ev [0, 1] [x0, x1]] hh := p1
  rw [E0] at p1
  have hu := sz_w1 hw
  rw [E1, E0, E2] at hu
  have hz := zs_fo_f (hh := hh) (hh' := hh') l0 u0 l1 u1 p0 p1 (fun c g => by rw [hu]; simp) (fun c g => by rw [hu]; exact if_neg (by omega))
  refine ⟨fun f hf => ?_, fun q hq => ?_⟩
  · cases hf
  · obtain rfl := List.mem_singleton.mp hq
    show sz_pr 16 [] _
    exact hz
theorem sz_k64 : sx_Rk sz_pr sz_u64 := by
  intro r hh hh' hb hF hG hP hw
  obtain ⟨x0, r0, e0, l0, u0, hb⟩ := sz_bc hb
  obtain ⟨x1, r1, e1, l1, u1, hb⟩ := sz_bc hb
  have hbn := sz_bn hb
  subst hbn
  subst e1
  subst e0
  have E0 : sx_ev [1, 0, -1] [x0, x1] = -x1 + 1 := by simp [sx_ev, sx_dot] <;> omega
  have E1 : sx_ev [] [x0, x1] = 0 := by simp [sx_ev, sx_dot] <;> omega
  have E2 : sx_ev [0, 1] [x0, x1] = x0 := by simp [sx_ev, sx_dot] <;> omega
  have E3 : sx_ev [0, 0, 1] [x0, x1] = x1 := by simp [sx_ev, sx_dot] <;> omega
  have f0 := hF [1, 0, -1] List.mem_cons_self
  rw [E0] at f0
  have p0 := hP (16, []) List.mem_cons_self
  have p0 : sz_pr 16 [] hh := p0
  have hu := sz_w1 hw
  rw [E1, E2, E3] at hu
  have hz := zs_fo_f1 (hh := hh) (hh' := hh') l0 u0 l1 u1 f0 p0 (fun c g => by rw [hu]; simp) (fun c g => by rw [hu]; exact if_neg (by omega))
  refine ⟨fun f hf => ?_, fun q hq => ?_⟩
  · cases hf
  · obtain rfl := List.mem_singleton.mp hq
    show sz_pr 16 [] _
    exact hz
theorem sz_k65 : sx_Rk sz_pr sz_u65 := by
  intro r hh hh' hb hF hG hP hw
  obtain ⟨x0, r0, e0, l0, u0, hb⟩ := sz_bc hb
  obtain ⟨x1, r1, e1, l1, u1, hb⟩ := sz_bc hb
  have hbn := sz_bn hb
  subst hbn
  subst e1
  subst e0
  have E0 : sx_ev [-2, 0, 1] [x0, x1] = x1 - 2 := by simp [sx_ev, sx_dot] <;> omega
  have E1 : sx_ev [2, 0, -1] [x0, x1] = -x1 + 2 := by simp [sx_ev, sx_dot] <;> omega
  have E2 : sx_ev [] [x0, x1] = 0 := by simp [sx_ev, sx_dot] <;> omega
  have E3 : sx_ev [0, 1] [x0, x1] = x0 := by simp [sx_ev, sx_dot] <;> omega
  have E4 : sx_ev [0, 0, 1] [x0, x1] = x1 := by simp [sx_ev, sx_dot] <;> omega
  have f0 := hF [-2, 0, 1] List.mem_cons_self
  rw [E0] at f0
  have f1 := hF [2, 0, -1] (List.mem_cons_of_mem _ List.mem_cons_self)
  rw [E1] at f1
  have g0 := hG (26, [], [0, 1], [0, 0, 1]) List.mem_cons_self
  dsimp only at g0
  rw [E2, E3, E4] at g0
  have p0 := hP (16, []) List.mem_cons_self
  have p0 : sz_pr 16 [] hh := p0
  have hw := sz_w0 hw
  rw [hw]
  have hz := zs_fo_use (hh := hh) l0 u0 l1 u1 f0 f1 g0 p0
  refine ⟨fun f hf => ?_, fun q hq => ?_⟩
  · cases hf
  · obtain rfl := List.mem_singleton.mp hq
    show sz_pr 18 [sx_ev [0, 1] [x0, x1]] _
    rw [E3]
    exact hz
theorem sz_k66 : sx_Rk sz_pr sz_u66 := by
  intro r hh hh' hb hF hG hP hw
  obtain ⟨x0, r0, e0, l0, u0, hb⟩ := sz_bc hb
  obtain ⟨x1, r1, e1, l1, u1, hb⟩ := sz_bc hb
  obtain ⟨x2, r2, e2, l2, u2, hb⟩ := sz_bc hb
  have hbn := sz_bn hb
  subst hbn
  subst e2
  subst e1
  subst e0
  have E0 : sx_ev [0, 0, 1] [x0, x1, x2] = x1 := by simp [sx_ev, sx_dot] <;> omega
  have E1 : sx_ev [512, 0, -256, -1] [x0, x1, x2] = -(256 * x1) - x2 + 512 := by simp [sx_ev, sx_dot] <;> omega
  have E2 : sx_ev [0, 0, 0, 1] [x0, x1, x2] = x2 := by simp [sx_ev, sx_dot] <;> omega
  have E3 : sx_ev [0, 1] [x0, x1, x2] = x0 := by simp [sx_ev, sx_dot] <;> omega
  have E4 : sx_ev [18] [x0, x1, x2] = 18 := by simp [sx_ev, sx_dot] <;> omega
  have E5 : sx_ev [19] [x0, x1, x2] = 19 := by simp [sx_ev, sx_dot] <;> omega
  have f0 := hF [0, 0, 1] List.mem_cons_self
  rw [E0] at f0
  have f1 := hF [512, 0, -256, -1] (List.mem_cons_of_mem _ List.mem_cons_self)
  rw [E1] at f1
  have f2 := hF [0, 0, 0, 1] (List.mem_cons_of_mem _ (List.mem_cons_of_mem _ List.mem_cons_self))
  rw [E2] at f2
  have g0 := hG (20, [0, 1], [18], [0, 0, 1]) List.mem_cons_self
  dsimp only at g0
  rw [E3, E4, E0] at g0
  have g1 := hG (20, [0, 1], [19], [0, 0, 0, 1]) (List.mem_cons_of_mem _ List.mem_cons_self)
  dsimp only at g1
  rw [E3, E5, E2] at g1
  have hw := sz_w0 hw
  rw [hw]
  have hz := zs_ob_m1 (hh := hh) l0 u0 l1 u1 l2 u2 f0 f1 f2 g0 g1
  refine ⟨fun f hf => ?_, fun q hq => ?_⟩
  · cases hf
  · obtain rfl := List.mem_singleton.mp hq
    show sz_pr 18 [sx_ev [0, 1] [x0, x1, x2]] _
    rw [E3]
    exact hz
theorem sz_k67 : sx_Rk sz_pr sz_u67 := by
  intro r hh hh' hb hF hG hP hw
  obtain ⟨x0, r0, e0, l0, u0, hb⟩ := sz_bc hb
  obtain ⟨x1, r1, e1, l1, u1, hb⟩ := sz_bc hb
  obtain ⟨x2, r2, e2, l2, u2, hb⟩ := sz_bc hb
  have hbn := sz_bn hb
  subst hbn
  subst e2
  subst e1
  subst e0
  have E0 : sx_ev [0, 0, 1] [x0, x1, x2] = x1 := by simp [sx_ev, sx_dot] <;> omega
  have E1 : sx_ev [256, 0, -256, -1] [x0, x1, x2] = -(256 * x1) - x2 + 256 := by simp [sx_ev, sx_dot] <;> omega
  have E2 : sx_ev [-1, 0, 0, -1] [x0, x1, x2] = -x2 - 1 := by simp [sx_ev, sx_dot] <;> omega
  have E3 : sx_ev [0, 1] [x0, x1, x2] = x0 := by simp [sx_ev, sx_dot] <;> omega
  have E4 : sx_ev [18] [x0, x1, x2] = 18 := by simp [sx_ev, sx_dot] <;> omega
  have E5 : sx_ev [19] [x0, x1, x2] = 19 := by simp [sx_ev, sx_dot] <;> omega
  have E6 : sx_ev [0, 0, 0, 1] [x0, x1, x2] = x2 := by simp [sx_ev, sx_dot] <;> omega
  have f0 := hF [0, 0, 1] List.mem_cons_self
  rw [E0] at f0
  have f1 := hF [256, 0, -256, -1] (List.mem_cons_of_mem _ List.mem_cons_self)
  rw [E1] at f1
  have f2 := hF [-1, 0, 0, -1] (List.mem_cons_of_mem _ (List.mem_cons_of_mem _ List.mem_cons_self))
  rw [E2] at f2
  have g0 := hG (20, [0, 1], [18], [0, 0, 1]) List.mem_cons_self
  dsimp only at g0
  rw [E3, E4, E0] at g0
  have g1 := hG (20, [0, 1], [19], [0, 0, 0, 1]) (List.mem_cons_of_mem _ List.mem_cons_self)
  dsimp only at g1
  rw [E3, E5, E6] at g1
  have hw := sz_w0 hw
  rw [hw]
  have hz := zs_ob_m2 (hh := hh) l0 u0 l1 u1 l2 u2 f0 f1 f2 g0 g1
  refine ⟨fun f hf => ?_, fun q hq => ?_⟩
  · cases hf
  · obtain rfl := List.mem_singleton.mp hq
    show sz_pr 18 [sx_ev [0, 1] [x0, x1, x2]] _
    rw [E3]
    exact hz
theorem sz_k68 : sx_Rk sz_pr sz_u68 := by
  intro r hh hh' hb hF hG hP hw
  obtain ⟨x0, r0, e0, l0, u0, hb⟩ := sz_bc hb
  obtain ⟨x1, r1, e1, l1, u1, hb⟩ := sz_bc hb
  have hbn := sz_bn hb
  subst hbn
  subst e1
  subst e0
  have E0 : sx_ev [0, 1] [x0, x1] = x0 := by simp [sx_ev, sx_dot] <;> omega
  have E1 : sx_ev [18] [x0, x1] = 18 := by simp [sx_ev, sx_dot] <;> omega
  have E2 : sx_ev [0, 0, 1] [x0, x1] = x1 := by simp [sx_ev, sx_dot] <;> omega
  have E3 : sx_ev [2, 0, -1] [x0, x1] = -x1 + 2 := by simp [sx_ev, sx_dot] <;> omega
  have g0 := hG (20, [0, 1], [18], [0, 0, 1]) List.mem_cons_self
  dsimp only at g0
  rw [E0, E1, E2] at g0
  have p0 := hP (18, [[0, 1]]) List.mem_cons_self
  have p0 : sz_pr 18 [sx_ev [0, 1] [x0, x1]] hh := p0
  rw [E0] at p0
  have hw := sz_w0 hw
  rw [hw]
  have hz := zs_ob_h (hh := hh) l0 u0 l1 u1 g0 p0
  refine ⟨fun f hf => ?_, fun q hq => ?_⟩
  · rcases List.mem_cons.mp hf with rfl | hf
    · rw [E2]
      exact hz.1
    rw [List.mem_singleton.mp hf, E3]
    exact hz.2
  · cases hq
theorem sz_k69 : sx_Rk sz_pr sz_u69 := by
  intro r hh hh' hb hF hG hP hw
  obtain ⟨x0, r0, e0, l0, u0, hb⟩ := sz_bc hb
  obtain ⟨x1, r1, e1, l1, u1, hb⟩ := sz_bc hb
  obtain ⟨x2, r2, e2, l2, u2, hb⟩ := sz_bc hb
  have hbn := sz_bn hb
  subst hbn
  subst e2
  subst e1
  subst e0
  have E0 : sx_ev [0, 0, 0, 1] [x0, x1, x2] = x2 := by simp [sx_ev, sx_dot] <;> omega
  have E1 : sx_ev [0, 1] [x0, x1, x2] = x0 := by simp [sx_ev, sx_dot] <;> omega
  have E2 : sx_ev [18] [x0, x1, x2] = 18 := by simp [sx_ev, sx_dot] <;> omega
  have E3 : sx_ev [0, 0, 1] [x0, x1, x2] = x1 := by simp [sx_ev, sx_dot] <;> omega
  have E4 : sx_ev [19] [x0, x1, x2] = 19 := by simp [sx_ev, sx_dot] <;> omega
  have E5 : sx_ev [512, 0, -256, -1] [x0, x1, x2] = -(256 * x1) - x2 + 512 := by simp [sx_ev, sx_dot] <;> omega
  have f0 := hF [0, 0, 0, 1] List.mem_cons_self
  rw [E0] at f0
  have g0 := hG (20, [0, 1], [18], [0, 0, 1]) List.mem_cons_self
  dsimp only at g0
  rw [E1, E2, E3] at g0
  have g1 := hG (20, [0, 1], [19], [0, 0, 0, 1]) (List.mem_cons_of_mem _ List.mem_cons_self)
  dsimp only at g1
  rw [E1, E4, E0] at g1
  have p0 := hP (18, [[0, 1]]) List.mem_cons_self
  have p0 : sz_pr 18 [sx_ev [0, 1] [x0, x1, x2]] hh := p0
  rw [E1] at p0
  have hw := sz_w0 hw
  rw [hw]
  have hz := zs_ob_l (hh := hh) l0 u0 l1 u1 l2 u2 f0 g0 g1 p0
  refine ⟨fun f hf => ?_, fun q hq => ?_⟩
  · rw [List.mem_singleton.mp hf, E5]
    exact hz
  · cases hq
theorem sz_k70 : sx_Rk sz_pr sz_u70 := by
  intro r hh hh' hb hF hG hP hw
  obtain ⟨x0, r0, e0, l0, u0, hb⟩ := sz_bc hb
  obtain ⟨x1, r1, e1, l1, u1, hb⟩ := sz_bc hb
  obtain ⟨x2, r2, e2, l2, u2, hb⟩ := sz_bc hb
  have hbn := sz_bn hb
  subst hbn
  subst e2
  subst e1
  subst e0
  have E0 : sx_ev [-1, 0, 0, -1] [x0, x1, x2] = -x2 - 1 := by simp [sx_ev, sx_dot] <;> omega
  have E1 : sx_ev [0, 1] [x0, x1, x2] = x0 := by simp [sx_ev, sx_dot] <;> omega
  have E2 : sx_ev [18] [x0, x1, x2] = 18 := by simp [sx_ev, sx_dot] <;> omega
  have E3 : sx_ev [0, 0, 1] [x0, x1, x2] = x1 := by simp [sx_ev, sx_dot] <;> omega
  have E4 : sx_ev [19] [x0, x1, x2] = 19 := by simp [sx_ev, sx_dot] <;> omega
  have E5 : sx_ev [0, 0, 0, 1] [x0, x1, x2] = x2 := by simp [sx_ev, sx_dot] <;> omega
  have E6 : sx_ev [1, 0, -1] [x0, x1, x2] = -x1 + 1 := by simp [sx_ev, sx_dot] <;> omega
  have f0 := hF [-1, 0, 0, -1] List.mem_cons_self
  rw [E0] at f0
  have g0 := hG (20, [0, 1], [18], [0, 0, 1]) List.mem_cons_self
  dsimp only at g0
  rw [E1, E2, E3] at g0
  have g1 := hG (20, [0, 1], [19], [0, 0, 0, 1]) (List.mem_cons_of_mem _ List.mem_cons_self)
  dsimp only at g1
  rw [E1, E4, E5] at g1
  have p0 := hP (18, [[0, 1]]) List.mem_cons_self
  have p0 : sz_pr 18 [sx_ev [0, 1] [x0, x1, x2]] hh := p0
  rw [E1] at p0
  have hw := sz_w0 hw
  rw [hw]
  have hz := zs_ob_l2 (hh := hh) l0 u0 l1 u1 l2 u2 f0 g0 g1 p0
  refine ⟨fun f hf => ?_, fun q hq => ?_⟩
  · rw [List.mem_singleton.mp hf, E6]
    exact hz
  · cases hq
theorem sz_k71 : sx_Rk sz_pr sz_u71 := by
  intro r hh hh' hb hF hG hP hw
  have hbn := sz_bn hb
  subst hbn
  have E0 : sx_ev [] [] = 0 := by simp [sx_ev, sx_dot] <;> omega
  have hw := sz_w0 hw
  rw [hw]
  have hz := zs_cf0 (hh := hh)
  refine ⟨fun f hf => ?_, fun q hq => ?_⟩
  · cases hf
  · obtain rfl := List.mem_singleton.mp hq
    show sz_pr 19 [sx_ev [] [], sx_ev [] []] _
    rw [E0]
    exact hz
theorem sz_k72 : sx_Rk sz_pr sz_u72 := by
  intro r hh hh' hb hF hG hP hw
  obtain ⟨x0, r0, e0, l0, u0, hb⟩ := sz_bc hb
  obtain ⟨x1, r1, e1, l1, u1, hb⟩ := sz_bc hb
  obtain ⟨x2, r2, e2, l2, u2, hb⟩ := sz_bc hb
  have hbn := sz_bn hb
  subst hbn
  subst e2
  subst e1
  subst e0
  have E0 : sx_ev [] [x0, x1, x2] = 0 := by simp [sx_ev, sx_dot] <;> omega
  have E1 : sx_ev [0, 1] [x0, x1, x2] = x0 := by simp [sx_ev, sx_dot] <;> omega
  have E2 : sx_ev [0, 0, 0, 1] [x0, x1, x2] = x2 := by simp [sx_ev, sx_dot] <;> omega
  have E3 : sx_ev [0, 0, 1] [x0, x1, x2] = x1 := by simp [sx_ev, sx_dot] <;> omega
  have E4 : sx_ev [1, 1] [x0, x1, x2] = x0 + 1 := by simp [sx_ev, sx_dot] <;> omega
  have E5 : sx_ev [1, 0, 1] [x0, x1, x2] = x1 + 1 := by simp [sx_ev, sx_dot] <;> omega
  have g0 := hG (1, [], [0, 1], [0, 0, 0, 1]) List.mem_cons_self
  dsimp only at g0
  rw [E0, E1, E2] at g0
  have p0 := hP (19, [[0, 1], [0, 0, 1]]) List.mem_cons_self
  have p0 : sz_pr 19 [sx_ev [0, 1] [x0, x1, x2], sx_ev [0, 0, 1] [x0, x1, x2]] hh := p0
  rw [E1, E3] at p0
  have hw := sz_w0 hw
  rw [hw]
  have hz := zs_cf_1 (hh := hh) l0 u0 l1 u1 l2 u2 g0 p0
  refine ⟨fun f hf => ?_, fun q hq => ?_⟩
  · cases hf
  · obtain rfl := List.mem_singleton.mp hq
    show sz_pr 19 [sx_ev [1, 1] [x0, x1, x2], sx_ev [1, 0, 1] [x0, x1, x2]] _
    rw [E4, E5]
    exact hz
theorem sz_k73 : sx_Rk sz_pr sz_u73 := by
  intro r hh hh' hb hF hG hP hw
  obtain ⟨x0, r0, e0, l0, u0, hb⟩ := sz_bc hb
  obtain ⟨x1, r1, e1, l1, u1, hb⟩ := sz_bc hb
  obtain ⟨x2, r2, e2, l2, u2, hb⟩ := sz_bc hb
  have hbn := sz_bn hb
  subst hbn
  subst e2
  subst e1
  subst e0
  have E0 : sx_ev [] [x0, x1, x2] = 0 := by simp [sx_ev, sx_dot] <;> omega
  have E1 : sx_ev [0, 1] [x0, x1, x2] = x0 := by simp [sx_ev, sx_dot] <;> omega
  have E2 : sx_ev [0, 0, 0, 1] [x0, x1, x2] = x2 := by simp [sx_ev, sx_dot] <;> omega
  have E3 : sx_ev [0, 0, 1] [x0, x1, x2] = x1 := by simp [sx_ev, sx_dot] <;> omega
  have E4 : sx_ev [1, 1] [x0, x1, x2] = x0 + 1 := by simp [sx_ev, sx_dot] <;> omega
  have g0 := hG (1, [], [0, 1], [0, 0, 0, 1]) List.mem_cons_self
  dsimp only at g0
  rw [E0, E1, E2] at g0
  have p0 := hP (19, [[0, 1], [0, 0, 1]]) List.mem_cons_self
  have p0 : sz_pr 19 [sx_ev [0, 1] [x0, x1, x2], sx_ev [0, 0, 1] [x0, x1, x2]] hh := p0
  rw [E1, E3] at p0
  have hw := sz_w0 hw
  rw [hw]
  have hz := zs_cf_0 (hh := hh) l0 u0 l1 u1 l2 u2 g0 p0
  refine ⟨fun f hf => ?_, fun q hq => ?_⟩
  · cases hf
  · obtain rfl := List.mem_singleton.mp hq
    show sz_pr 19 [sx_ev [1, 1] [x0, x1, x2], sx_ev [0, 0, 1] [x0, x1, x2]] _
    rw [E4, E3]
    exact hz
theorem sz_k74 : sx_Rk sz_pr sz_u74 := by
  intro r hh hh' hb hF hG hP hw
  obtain ⟨x0, r0, e0, l0, u0, hb⟩ := sz_bc hb
  obtain ⟨x1, r1, e1, l1, u1, hb⟩ := sz_bc hb
  obtain ⟨x2, r2, e2, l2, u2, hb⟩ := sz_bc hb
  have hbn := sz_bn hb
  subst hbn
  subst e2
  subst e1
  subst e0
  have E0 : sx_ev [0, 1, -1] [x0, x1, x2] = x0 - x1 := by simp [sx_ev, sx_dot] <;> omega
  have E1 : sx_ev [0, 0, 0, 1] [x0, x1, x2] = x2 := by simp [sx_ev, sx_dot] <;> omega
  have E2 : sx_ev [0, 1] [x0, x1, x2] = x0 := by simp [sx_ev, sx_dot] <;> omega
  have E3 : sx_ev [32] [x0, x1, x2] = 32 := by simp [sx_ev, sx_dot] <;> omega
  have E4 : sx_ev [0, 0, 1] [x0, x1, x2] = x1 := by simp [sx_ev, sx_dot] <;> omega
  have f0 := hF [0, 1, -1] List.mem_cons_self
  rw [E0] at f0
  have p0 := hP (19, [[0, 0, 0, 1], [0, 1]]) List.mem_cons_self
  have p0 : sz_pr 19 [sx_ev [0, 0, 0, 1] [x0, x1, x2], sx_ev [0, 1] [x0, x1, x2]] hh := p0
  rw [E1, E2] at p0
  have hw := sz_w0 hw
  rw [hw]
  have hz := zs_cf_le (hh := hh) l0 u0 l1 u1 l2 u2 f0 p0
  refine ⟨fun f hf => ?_, fun q hq => ?_⟩
  · cases hf
  · obtain rfl := List.mem_singleton.mp hq
    show sz_pr 19 [sx_ev [32] [x0, x1, x2], sx_ev [0, 0, 1] [x0, x1, x2]] _
    rw [E3, E4]
    exact hz
theorem sz_k75 : sx_Rk sz_pr sz_u75 := by
  intro r hh hh' hb hF hG hP hw
  obtain ⟨x0, r0, e0, l0, u0, hb⟩ := sz_bc hb
  obtain ⟨x1, r1, e1, l1, u1, hb⟩ := sz_bc hb
  obtain ⟨x2, r2, e2, l2, u2, hb⟩ := sz_bc hb
  obtain ⟨x3, r3, e3, l3, u3, hb⟩ := sz_bc hb
  have hbn := sz_bn hb
  subst hbn
  subst e3
  subst e2
  subst e1
  subst e0
  have E0 : sx_ev [31, 0, -1] [x0, x1, x2, x3] = -x1 + 31 := by simp [sx_ev, sx_dot] <;> omega
  have E1 : sx_ev [0, 0, 0, 0, 1] [x0, x1, x2, x3] = x3 := by simp [sx_ev, sx_dot] <;> omega
  have E2 : sx_ev [0, 1] [x0, x1, x2, x3] = x0 := by simp [sx_ev, sx_dot] <;> omega
  have E3 : sx_ev [] [x0, x1, x2, x3] = 0 := by simp [sx_ev, sx_dot] <;> omega
  have E4 : sx_ev [0, 0, 1] [x0, x1, x2, x3] = x1 := by simp [sx_ev, sx_dot] <;> omega
  have E5 : sx_ev [0, 0, 0, 1] [x0, x1, x2, x3] = x2 := by simp [sx_ev, sx_dot] <;> omega
  have E6 : sx_ev [-1, 1] [x0, x1, x2, x3] = x0 - 1 := by simp [sx_ev, sx_dot] <;> omega
  have f0 := hF [31, 0, -1] List.mem_cons_self
  rw [E0] at f0
  have p0 := hP (19, [[0, 0, 0, 0, 1], [0, 1]]) List.mem_cons_self
  have p0 : sz_pr 19 [sx_ev [0, 0, 0, 0, 1] [x0, x1, x2, x3], sx_ev [0, 1] [x0, x1, x2, x3]] hh := p0
  rw [E1, E2] at p0
  have hu := sz_w1 hw
  rw [E3, E4, E5] at hu
  have hz := zs_cf_w (hh := hh) (hh' := hh') l0 u0 l1 u1 l2 u2 l3 u3 f0 p0 (fun c g => by rw [hu]; simp)
  refine ⟨fun f hf => ?_, fun q hq => ?_⟩
  · cases hf
  · obtain rfl := List.mem_singleton.mp hq
    show sz_pr 19 [sx_ev [0, 0, 0, 0, 1] [x0, x1, x2, x3], sx_ev [-1, 1] [x0, x1, x2, x3]] _
    rw [E1, E6]
    exact hz
theorem sz_k76 : sx_Rk sz_pr sz_u76 := by
  intro r hh hh' hb hF hG hP hw
  have hbn := sz_bn hb
  subst hbn
  have E0 : sx_ev [] [] = 0 := by simp [sx_ev, sx_dot] <;> omega
  have hw := sz_w0 hw
  rw [hw]
  have hz := zs_nf0 (hh := hh)
  refine ⟨fun f hf => ?_, fun q hq => ?_⟩
  · cases hf
  · obtain rfl := List.mem_singleton.mp hq
    show sz_pr 20 [sx_ev [] []] _
    rw [E0]
    exact hz
theorem sz_k77 : sx_Rk sz_pr sz_u77 := by
  intro r hh hh' hb hF hG hP hw
  obtain ⟨x0, r0, e0, l0, u0, hb⟩ := sz_bc hb
  obtain ⟨x1, r1, e1, l1, u1, hb⟩ := sz_bc hb
  have hbn := sz_bn hb
  subst hbn
  subst e1
  subst e0
  have E0 : sx_ev [-2, 0, 1] [x0, x1] = x1 - 2 := by simp [sx_ev, sx_dot] <;> omega
  have E1 : sx_ev [] [x0, x1] = 0 := by simp [sx_ev, sx_dot] <;> omega
  have E2 : sx_ev [0, 1] [x0, x1] = x0 := by simp [sx_ev, sx_dot] <;> omega
  have E3 : sx_ev [0, 0, 1] [x0, x1] = x1 := by simp [sx_ev, sx_dot] <;> omega
  have E4 : sx_ev [1, 1] [x0, x1] = x0 + 1 := by simp [sx_ev, sx_dot] <;> omega
  have f0 := hF [-2, 0, 1] List.mem_cons_self
  rw [E0] at f0
  have g0 := hG (1, [], [0, 1], [0, 0, 1]) List.mem_cons_self
  dsimp only at g0
  rw [E1, E2, E3] at g0
  have p0 := hP (20, [[0, 1]]) List.mem_cons_self
  have p0 : sz_pr 20 [sx_ev [0, 1] [x0, x1]] hh := p0
  rw [E2] at p0
  have hw := sz_w0 hw
  rw [hw]
  have hz := zs_nf_1 (hh := hh) l0 u0 l1 u1 f0 g0 p0
  refine ⟨fun f hf => ?_, fun q hq => ?_⟩
  · cases hf
  · obtain rfl := List.mem_singleton.mp hq
    show sz_pr 20 [sx_ev [1, 1] [x0, x1]] _
    rw [E4]
    exact hz
theorem sz_k78 : sx_Rk sz_pr sz_u78 := by
  intro r hh hh' hb hF hG hP hw
  obtain ⟨x0, r0, e0, l0, u0, hb⟩ := sz_bc hb
  obtain ⟨x1, r1, e1, l1, u1, hb⟩ := sz_bc hb
  have hbn := sz_bn hb
  subst hbn
  subst e1
  subst e0
  have E0 : sx_ev [0, 0, -1] [x0, x1] = -x1 := by simp [sx_ev, sx_dot] <;> omega
  have E1 : sx_ev [] [x0, x1] = 0 := by simp [sx_ev, sx_dot] <;> omega
  have E2 : sx_ev [0, 1] [x0, x1] = x0 := by simp [sx_ev, sx_dot] <;> omega
  have E3 : sx_ev [0, 0, 1] [x0, x1] = x1 := by simp [sx_ev, sx_dot] <;> omega
  have E4 : sx_ev [1, 1] [x0, x1] = x0 + 1 := by simp [sx_ev, sx_dot] <;> omega
  have f0 := hF [0, 0, -1] List.mem_cons_self
  rw [E0] at f0
  have g0 := hG (1, [], [0, 1], [0, 0, 1]) List.mem_cons_self
  dsimp only at g0
  rw [E1, E2, E3] at g0
  have p0 := hP (20, [[0, 1]]) List.mem_cons_self
  have p0 : sz_pr 20 [sx_ev [0, 1] [x0, x1]] hh := p0
  rw [E2] at p0
  have hw := sz_w0 hw
  rw [hw]
  have hz := zs_nf_2 (hh := hh) l0 u0 l1 u1 f0 g0 p0
  refine ⟨fun f hf => ?_, fun q hq => ?_⟩
  · cases hf
  · obtain rfl := List.mem_singleton.mp hq
    show sz_pr 20 [sx_ev [1, 1] [x0, x1]] _
    rw [E4]
    exact hz
theorem sz_k79 : sx_Rk sz_pr sz_u79 := by
  intro r hh hh' hb hF hG hP hw
  obtain ⟨x0, r0, e0, l0, u0, hb⟩ := sz_bc hb
  obtain ⟨x1, r1, e1, l1, u1, hb⟩ := sz_bc hb
  obtain ⟨x2, r2, e2, l2, u2, hb⟩ := sz_bc hb
  have hbn := sz_bn hb
  subst hbn
  subst e2
  subst e1
  subst e0
  have E0 : sx_ev [-1, 1] [x0, x1, x2] = x0 - 1 := by simp [sx_ev, sx_dot] <;> omega
  have E1 : sx_ev [0, 0, 1] [x0, x1, x2] = x1 := by simp [sx_ev, sx_dot] <;> omega
  have E2 : sx_ev [0, 0, 0, 1] [x0, x1, x2] = x2 := by simp [sx_ev, sx_dot] <;> omega
  have E3 : sx_ev [0, 1] [x0, x1, x2] = x0 := by simp [sx_ev, sx_dot] <;> omega
  have E4 : sx_ev [-1] [x0, x1, x2] = -1 := by simp [sx_ev, sx_dot] <;> omega
  have f0 := hF [-1, 1] List.mem_cons_self
  rw [E0] at f0
  have p0 := hP (20, [[0, 0, 1]]) List.mem_cons_self
  have p0 : sz_pr 20 [sx_ev [0, 0, 1] [x0, x1, x2]] hh := p0
  rw [E1] at p0
  have p1 := hP (19, [[0, 0, 0, 1], [0, 1]]) (List.mem_cons_of_mem _ List.mem_cons_self)
  have p1 : sz_pr 19 [sx_ev [0, 0, 0, 1] [x0, x1, x2], sx_ev [0, 1] [x0, x1, x2]] hh := p1
  rw [E2, E3] at p1
  have hw := sz_w0 hw
  rw [hw]
  have hz := zs_nf_use (hh := hh) l0 u0 l1 u1 l2 u2 f0 p0 p1
  refine ⟨fun f hf => ?_, fun q hq => ?_⟩
  · rw [List.mem_singleton.mp hf, E4]
    exact hz
  · cases hq
theorem sz_k80 : sx_Rk sz_pr sz_u80 := by
  intro r hh hh' hb hF hG hP hw
  have hbn := sz_bn hb
  subst hbn
  have E0 : sx_ev [] [] = 0 := by simp [sx_ev, sx_dot] <;> omega
  have hw := sz_w0 hw
  rw [hw]
  have hz := zs_nu0 (hh := hh)
  refine ⟨fun f hf => ?_, fun q hq => ?_⟩
  · cases hf
  · obtain rfl := List.mem_singleton.mp hq
    show sz_pr 23 [sx_ev [] []] _
    rw [E0]
    exact hz
theorem sz_k81 : sx_Rk sz_pr sz_u81 := by
  intro r hh hh' hb hF hG hP hw
  obtain ⟨x0, r0, e0, l0, u0, hb⟩ := sz_bc hb
  obtain ⟨x1, r1, e1, l1, u1, hb⟩ := sz_bc hb
  have hbn := sz_bn hb
  subst hbn
  subst e1
  subst e0
  have E0 : sx_ev [0, 1] [x0, x1] = x0 := by simp [sx_ev, sx_dot] <;> omega
  have E1 : sx_ev [] [x0, x1] = 0 := by simp [sx_ev, sx_dot] <;> omega
  have E2 : sx_ev [0, 0, 1] [x0, x1] = x1 := by simp [sx_ev, sx_dot] <;> omega
  have E3 : sx_ev [1, 1] [x0, x1] = x0 + 1 := by simp [sx_ev, sx_dot] <;> omega
  have p0 := hP (23, [[0, 1]]) List.mem_cons_self
  have p0 : sz_pr 23 [sx_ev [0, 1] [x0, x1]] hh := p0
  rw [E0] at p0
  have hu := sz_w1 hw
  rw [E1, E0, E2] at hu
  have hz := zs_nu_w (hh := hh) (hh' := hh') l0 u0 l1 u1 p0 (fun c g => by rw [hu]; simp)
  refine ⟨fun f hf => ?_, fun q hq => ?_⟩
  · cases hf
  · obtain rfl := List.mem_singleton.mp hq
    show sz_pr 23 [sx_ev [1, 1] [x0, x1]] _
    rw [E3]
    exact hz
theorem sz_k82 : sx_Rk sz_pr sz_u82 := by
  intro r hh hh' hb hF hG hP hw
  obtain ⟨x0, r0, e0, l0, u0, hb⟩ := sz_bc hb
  have hbn := sz_bn hb
  subst hbn
  subst e0
  have E0 : sx_ev [0, 1] [x0] = x0 := by simp [sx_ev, sx_dot] <;> omega
  have E1 : sx_ev [] [x0] = 0 := by simp [sx_ev, sx_dot] <;> omega
  have p0 := hP (23, [[0, 1]]) List.mem_cons_self
  have p0 : sz_pr 23 [sx_ev [0, 1] [x0]] hh := p0
  rw [E0] at p0
  have hw := sz_w0 hw
  rw [hw]
  have hz := zs_ue_n (hh := hh) l0 u0 p0
  refine ⟨fun f hf => ?_, fun q hq => ?_⟩
  · cases hf
  · obtain rfl := List.mem_singleton.mp hq
    show sz_pr 21 [sx_ev [] [x0]] _
    rw [E1]
    exact hz
theorem sz_k83 : sx_Rk sz_pr sz_u83 := by
  intro r hh hh' hb hF hG hP hw
  obtain ⟨x0, r0, e0, l0, u0, hb⟩ := sz_bc hb
  obtain ⟨x1, r1, e1, l1, u1, hb⟩ := sz_bc hb
  obtain ⟨x2, r2, e2, l2, u2, hb⟩ := sz_bc hb
  have hbn := sz_bn hb
  subst hbn
  subst e2
  subst e1
  subst e0
  have E0 : sx_ev [] [x0, x1, x2] = 0 := by simp [sx_ev, sx_dot] <;> omega
  have E1 : sx_ev [0, 0, 1] [x0, x1, x2] = x1 := by simp [sx_ev, sx_dot] <;> omega
  have E2 : sx_ev [0, 0, 0, 1] [x0, x1, x2] = x2 := by simp [sx_ev, sx_dot] <;> omega
  have E3 : sx_ev [0, 1] [x0, x1, x2] = x0 := by simp [sx_ev, sx_dot] <;> omega
  have E4 : sx_ev [63, -1] [x0, x1, x2] = -x0 + 63 := by simp [sx_ev, sx_dot] <;> omega
  have g0 := hG (183, [], [0, 0, 1], [0, 0, 0, 1]) List.mem_cons_self
  dsimp only at g0
  rw [E0, E1, E2] at g0
  have p0 := hP (21, [[0, 1]]) List.mem_cons_self
  have p0 : sz_pr 21 [sx_ev [0, 1] [x0, x1, x2]] hh := p0
  rw [E3] at p0
  have hw := sz_w0 hw
  rw [hw]
  have hz := zs_ue_ro (hh := hh) l0 u0 l1 u1 l2 u2 g0 p0
  refine ⟨fun f hf => ?_, fun q hq => ?_⟩
  · rw [List.mem_singleton.mp hf, E4]
    exact hz
  · cases hq
theorem sz_k84 : sx_Rk sz_pr sz_u84 := by
  intro r hh hh' hb hF hG hP hw
  obtain ⟨x0, r0, e0, l0, u0, hb⟩ := sz_bc hb
  obtain ⟨x1, r1, e1, l1, u1, hb⟩ := sz_bc hb
  obtain ⟨x2, r2, e2, l2, u2, hb⟩ := sz_bc hb
  obtain ⟨x3, r3, e3, l3, u3, hb⟩ := sz_bc hb
  have hbn := sz_bn hb
  subst hbn
  subst e3
  subst e2
  subst e1
  subst e0
  have E0 : sx_ev [] [x0, x1, x2, x3] = 0 := by simp [sx_ev, sx_dot] <;> omega
  have E1 : sx_ev [0, 0, 1] [x0, x1, x2, x3] = x1 := by simp [sx_ev, sx_dot] <;> omega
  have E2 : sx_ev [0, 0, 0, 1] [x0, x1, x2, x3] = x2 := by simp [sx_ev, sx_dot] <;> omega
  have E3 : sx_ev [0, 1] [x0, x1, x2, x3] = x0 := by simp [sx_ev, sx_dot] <;> omega
  have E4 : sx_ev [0, 0, 0, 0, 1] [x0, x1, x2, x3] = x3 := by simp [sx_ev, sx_dot] <;> omega
  have E5 : sx_ev [1, 1] [x0, x1, x2, x3] = x0 + 1 := by simp [sx_ev, sx_dot] <;> omega
  have g0 := hG (183, [], [0, 0, 1], [0, 0, 0, 1]) List.mem_cons_self
  dsimp only at g0
  rw [E0, E1, E2] at g0
  have p0 := hP (21, [[0, 1]]) List.mem_cons_self
  have p0 : sz_pr 21 [sx_ev [0, 1] [x0, x1, x2, x3]] hh := p0
  rw [E3] at p0
  have hu := sz_w1 hw
  rw [E0, E1, E4] at hu
  have hz := zs_ue_w1 (hh := hh) (hh' := hh') l0 u0 l1 u1 l2 u2 l3 u3 g0 p0 (fun c g => by rw [hu]; simp)
  refine ⟨fun f hf => ?_, fun q hq => ?_⟩
  · cases hf
  · obtain rfl := List.mem_singleton.mp hq
    show sz_pr 21 [sx_ev [1, 1] [x0, x1, x2, x3]] _
    rw [E5]
    exact hz
theorem sz_k85 : sx_Rk sz_pr sz_u85 := by
  intro r hh hh' hb hF hG hP hw
  obtain ⟨x0, r0, e0, l0, u0, hb⟩ := sz_bc hb
  obtain ⟨x1, r1, e1, l1, u1, hb⟩ := sz_bc hb
  obtain ⟨x2, r2, e2, l2, u2, hb⟩ := sz_bc hb
  obtain ⟨x3, r3, e3, l3, u3, hb⟩ := sz_bc hb
  have hbn := sz_bn hb
  subst hbn
  subst e3
  subst e2
  subst e1
  subst e0
  have E0 : sx_ev [] [x0, x1, x2, x3] = 0 := by simp [sx_ev, sx_dot] <;> omega
  have E1 : sx_ev [0, 0, 1] [x0, x1, x2, x3] = x1 := by simp [sx_ev, sx_dot] <;> omega
  have E2 : sx_ev [0, 0, 0, 1] [x0, x1, x2, x3] = x2 := by simp [sx_ev, sx_dot] <;> omega
  have E3 : sx_ev [0, 1] [x0, x1, x2, x3] = x0 := by simp [sx_ev, sx_dot] <;> omega
  have E4 : sx_ev [0, 0, 0, 0, 1] [x0, x1, x2, x3] = x3 := by simp [sx_ev, sx_dot] <;> omega
  have g0 := hG (183, [], [0, 0, 1], [0, 0, 0, 1]) List.mem_cons_self
  dsimp only at g0
  rw [E0, E1, E2] at g0
  have p0 := hP (21, [[0, 1]]) List.mem_cons_self
  have p0 : sz_pr 21 [sx_ev [0, 1] [x0, x1, x2, x3]] hh := p0
  rw [E3] at p0
  have hu := sz_w1 hw
  rw [E0, E1, E4] at hu
  have hz := zs_ue_w0 (hh := hh) (hh' := hh') l0 u0 l1 u1 l2 u2 l3 u3 g0 p0 (fun c g => by rw [hu]; simp)
  refine ⟨fun f hf => ?_, fun q hq => ?_⟩
  · cases hf
  · obtain rfl := List.mem_singleton.mp hq
    show sz_pr 21 [sx_ev [0, 1] [x0, x1, x2, x3]] _
    rw [E3]
    exact hz
theorem sz_k86 : sx_Rk sz_pr sz_u86 := by
  intro r hh hh' hb hF hG hP hw
  obtain ⟨x0, r0, e0, l0, u0, hb⟩ := sz_bc hb
  have hbn := sz_bn hb
  subst hbn
  subst e0
  have E0 : sx_ev [0, 1] [x0] = x0 := by simp [sx_ev, sx_dot] <;> omega
  have E1 : sx_ev [] [x0] = 0 := by simp [sx_ev, sx_dot] <;> omega
  have E2 : sx_ev [4] [x0] = 4 := by simp [sx_ev, sx_dot] <;> omega
  have E3 : sx_ev [7] [x0] = 7 := by simp [sx_ev, sx_dot] <;> omega
  have E4 : sx_ev [64] [x0] = 64 := by simp [sx_ev, sx_dot] <;> omega
  have E5 : sx_ev [64, -1] [x0] = -x0 + 64 := by simp [sx_ev, sx_dot] <;> omega
  have p0 := hP (21, [[0, 1]]) List.mem_cons_self
  have p0 : sz_pr 21 [sx_ev [0, 1] [x0]] hh := p0
  rw [E0] at p0
  have hw := sz_w0 hw
  rw [hw]
  have hz := zs_ur_ue (hh := hh) l0 u0 p0
  refine ⟨fun f hf => ?_, fun q hq => ?_⟩
  · cases hf
  · obtain rfl := List.mem_singleton.mp hq
    show sz_pr 22 [sx_ev [] [x0], sx_ev [4] [x0], sx_ev [7] [x0], sx_ev [64] [x0], sx_ev [64, -1] [x0]] _
    rw [E1, E2, E3, E4, E5]
    exact hz
theorem sz_k87 : sx_Rk sz_pr sz_u87 := by
  intro r hh hh' hb hF hG hP hw
  obtain ⟨x0, r0, e0, l0, u0, hb⟩ := sz_bc hb
  obtain ⟨x1, r1, e1, l1, u1, hb⟩ := sz_bc hb
  obtain ⟨x2, r2, e2, l2, u2, hb⟩ := sz_bc hb
  obtain ⟨x3, r3, e3, l3, u3, hb⟩ := sz_bc hb
  obtain ⟨x4, r4, e4, l4, u4, hb⟩ := sz_bc hb
  obtain ⟨x5, r5, e5, l5, u5, hb⟩ := sz_bc hb
  obtain ⟨x6, r6, e6, l6, u6, hb⟩ := sz_bc hb
  have hbn := sz_bn hb
  subst hbn
  subst e6
  subst e5
  subst e4
  subst e3
  subst e2
  subst e1
  subst e0
  have E0 : sx_ev [-1, 0, 0, 0, 0, 1] [x0, x1, x2, x3, x4, x5, x6] = x4 - 1 := by simp [sx_ev, sx_dot] <;> omega
  have E1 : sx_ev [0, 1] [x0, x1, x2, x3, x4, x5, x6] = x0 := by simp [sx_ev, sx_dot] <;> omega
  have E2 : sx_ev [0, 0, 1] [x0, x1, x2, x3, x4, x5, x6] = x1 := by simp [sx_ev, sx_dot] <;> omega
  have E3 : sx_ev [0, 0, 0, 1] [x0, x1, x2, x3, x4, x5, x6] = x2 := by simp [sx_ev, sx_dot] <;> omega
  have E4 : sx_ev [0, 0, 0, 0, 1] [x0, x1, x2, x3, x4, x5, x6] = x3 := by simp [sx_ev, sx_dot] <;> omega
  have E5 : sx_ev [0, 0, 0, 0, 0, 1] [x0, x1, x2, x3, x4, x5, x6] = x4 := by simp [sx_ev, sx_dot] <;> omega
  have E6 : sx_ev [] [x0, x1, x2, x3, x4, x5, x6] = 0 := by simp [sx_ev, sx_dot] <;> omega
  have E7 : sx_ev [0, 0, 0, 0, 0, 0, 1] [x0, x1, x2, x3, x4, x5, x6] = x5 := by simp [sx_ev, sx_dot] <;> omega
  have E8 : sx_ev [0, 0, 0, 0, 0, 0, 0, 1] [x0, x1, x2, x3, x4, x5, x6] = x6 := by simp [sx_ev, sx_dot] <;> omega
  have f0 := hF [-1, 0, 0, 0, 0, 1] List.mem_cons_self
  rw [E0] at f0
  have p0 := hP (22, [[0, 1], [0, 0, 1], [0, 0, 0, 1], [0, 0, 0, 0, 1], [0, 0, 0, 0, 0, 1]]) List.mem_cons_self
  have p0 : sz_pr 22 [sx_ev [0, 1] [x0, x1, x2, x3, x4, x5, x6], sx_ev [0, 0, 1] [x0, x1, x2, x3, x4, x5, x6], sx_ev [0, 0, 0, 1] [x0, x1, x2, x3, x4, x5, x6], sx_ev [0, 0, 0, 0, 1] [x0, x1, x2, x3, x4, x5, x6], sx_ev [0, 0, 0, 0, 0, 1] [x0, x1, x2, x3, x4, x5, x6]] hh := p0
  rw [E1, E2, E3, E4, E5] at p0
  have hu := sz_w1 hw
  rw [E6, E7, E8] at hu
  have hz := zs_ur_w (hh := hh) (hh' := hh') l0 u0 l1 u1 l2 u2 l3 u3 l4 u4 l5 u5 l6 u6 f0 p0 (fun c g => by rw [hu]; simp) (fun c g => by rw [hu]; exact if_neg (by omega)) (fun c g => by rw [hu]; exact if_neg (by omega)) (fun c g => by rw [hu]; exact if_neg (by omega)) (fun c g => by rw [hu]; exact if_neg (by omega)) (fun c g => by rw [hu]; exact if_neg (by omega))
  refine ⟨fun f hf => ?_, fun q hq => ?_⟩
  · cases hf
  · obtain rfl := List.mem_singleton.mp hq
    show sz_pr 22 [sx_ev [0, 1] [x0, x1, x2, x3, x4, x5, x6], sx_ev [0, 0, 1] [x0, x1, x2, x3, x4, x5, x6], sx_ev [0, 0, 0, 1] [x0, x1, x2, x3, x4, x5, x6], sx_ev [0, 0, 0, 0, 1] [x0, x1, x2, x3, x4, x5, x6], sx_ev [-1, 0, 0, 0, 0, 1] [x0, x1, x2, x3, x4, x5, x6]] _
    rw [E1, E2, E3, E4, E0]
    exact hz
theorem sz_k88 : sx_Rk sz_pr sz_u88 := by
  intro r hh hh' hb hF hG hP hw
  have hbn := sz_bn hb
  subst hbn
  have E0 : sx_ev [] [] = 0 := by simp [sx_ev, sx_dot] <;> omega
  have hw := sz_w0 hw
  rw [hw]
  have hz := zs_au0 (hh := hh)
  refine ⟨fun f hf => ?_, fun q hq => ?_⟩
  · cases hf
  · obtain rfl := List.mem_singleton.mp hq
    show sz_pr 24 [sx_ev [] []] _
    rw [E0]
    exact hz
theorem sz_k89 : sx_Rk sz_pr sz_u89 := by
  intro r hh hh' hb hF hG hP hw
  obtain ⟨x0, r0, e0, l0, u0, hb⟩ := sz_bc hb
  obtain ⟨x1, r1, e1, l1, u1, hb⟩ := sz_bc hb
  have hbn := sz_bn hb
  subst hbn
  subst e1
  subst e0
  have E0 : sx_ev [] [x0, x1] = 0 := by simp [sx_ev, sx_dot] <;> omega
  have E1 : sx_ev [0, 1] [x0, x1] = x0 := by simp [sx_ev, sx_dot] <;> omega
  have E2 : sx_ev [0, 0, 1] [x0, x1] = x1 := by simp [sx_ev, sx_dot] <;> omega
  have E3 : sx_ev [1, 1] [x0, x1] = x0 + 1 := by simp [sx_ev, sx_dot] <;> omega
  have g0 := hG (183, [], [0, 1], [0, 0, 1]) List.mem_cons_self
  dsimp only at g0
  rw [E0, E1, E2] at g0
  have p0 := hP (24, [[0, 1]]) List.mem_cons_self
  have p0 : sz_pr 24 [sx_ev [0, 1] [x0, x1]] hh := p0
  rw [E1] at p0
  have hw := sz_w0 hw
  rw [hw]
  have hz := zs_au_n (hh := hh) l0 u0 l1 u1 g0 p0
  refine ⟨fun f hf => ?_, fun q hq => ?_⟩
  · cases hf
  · obtain rfl := List.mem_singleton.mp hq
    show sz_pr 24 [sx_ev [1, 1] [x0, x1]] _
    rw [E3]
    exact hz
theorem sz_k90 : sx_Rk sz_pr sz_u90 := by
  intro r hh hh' hb hF hG hP hw
  obtain ⟨x0, r0, e0, l0, u0, hb⟩ := sz_bc hb
  obtain ⟨x1, r1, e1, l1, u1, hb⟩ := sz_bc hb
  obtain ⟨x2, r2, e2, l2, u2, hb⟩ := sz_bc hb
  obtain ⟨x3, r3, e3, l3, u3, hb⟩ := sz_bc hb
  obtain ⟨x4, r4, e4, l4, u4, hb⟩ := sz_bc hb
  obtain ⟨x5, r5, e5, l5, u5, hb⟩ := sz_bc hb
  have hbn := sz_bn hb
  subst hbn
  subst e5
  subst e4
  subst e3
  subst e2
  subst e1
  subst e0
  have E0 : sx_ev [-1, 0, 0, 0, 0, 1] [x0, x1, x2, x3, x4, x5] = x4 - 1 := by simp [sx_ev, sx_dot] <;> omega
  have E1 : sx_ev [64, 0, 0, 0, -1] [x0, x1, x2, x3, x4, x5] = -x3 + 64 := by simp [sx_ev, sx_dot] <;> omega
  have E2 : sx_ev [0, 1] [x0, x1, x2, x3, x4, x5] = x0 := by simp [sx_ev, sx_dot] <;> omega
  have E3 : sx_ev [0, 0, 1] [x0, x1, x2, x3, x4, x5] = x1 := by simp [sx_ev, sx_dot] <;> omega
  have E4 : sx_ev [0, 0, 0, 1] [x0, x1, x2, x3, x4, x5] = x2 := by simp [sx_ev, sx_dot] <;> omega
  have E5 : sx_ev [0, 0, 0, 0, 1] [x0, x1, x2, x3, x4, x5] = x3 := by simp [sx_ev, sx_dot] <;> omega
  have E6 : sx_ev [0, 0, 0, 0, 0, 1] [x0, x1, x2, x3, x4, x5] = x4 := by simp [sx_ev, sx_dot] <;> omega
  have E7 : sx_ev [0, 0, 0, 0, 0, 0, 1] [x0, x1, x2, x3, x4, x5] = x5 := by simp [sx_ev, sx_dot] <;> omega
  have E8 : sx_ev [63, 0, 0, 0, 0, 0, -1] [x0, x1, x2, x3, x4, x5] = -x5 + 63 := by simp [sx_ev, sx_dot] <;> omega
  have f0 := hF [-1, 0, 0, 0, 0, 1] List.mem_cons_self
  rw [E0] at f0
  have f1 := hF [64, 0, 0, 0, -1] (List.mem_cons_of_mem _ List.mem_cons_self)
  rw [E1] at f1
  have p0 := hP (22, [[0, 1], [0, 0, 1], [0, 0, 0, 1], [0, 0, 0, 0, 1], [0, 0, 0, 0, 0, 1]]) List.mem_cons_self
  have p0 : sz_pr 22 [sx_ev [0, 1] [x0, x1, x2, x3, x4, x5], sx_ev [0, 0, 1] [x0, x1, x2, x3, x4, x5], sx_ev [0, 0, 0, 1] [x0, x1, x2, x3, x4, x5], sx_ev [0, 0, 0, 0, 1] [x0, x1, x2, x3, x4, x5], sx_ev [0, 0, 0, 0, 0, 1] [x0, x1, x2, x3, x4, x5]] hh := p0
  rw [E2, E3, E4, E5, E6] at p0
  have p1 := hP (24, [[0, 0, 0, 0, 0, 0, 1]]) (List.mem_cons_of_mem _ List.mem_cons_self)
  have p1 : sz_pr 24 [sx_ev [0, 0, 0, 0, 0, 0, 1] [x0, x1, x2, x3, x4, x5]] hh := p1
  rw [E7] at p1
  have hw := sz_w0 hw
  rw [hw]
  have hz := zs_ur_b (hh := hh) l0 u0 l1 u1 l2 u2 l3 u3 l4 u4 l5 u5 f0 f1 p0 p1
  refine ⟨fun f hf => ?_, fun q hq => ?_⟩
  · rw [List.mem_singleton.mp hf, E8]
    exact hz
  · cases hq
theorem sz_k91 : sx_Rk sz_pr sz_u91 := by
  intro r hh hh' hb hF hG hP hw
  obtain ⟨x0, r0, e0, l0, u0, hb⟩ := sz_bc hb
  have hbn := sz_bn hb
  subst hbn
  subst e0
  have E0 : sx_ev [0, 1] [x0] = x0 := by simp [sx_ev, sx_dot] <;> omega
  have E1 : sx_ev [] [x0] = 0 := by simp [sx_ev, sx_dot] <;> omega
  have hw := sz_w0 hw
  rw [hw]
  have hz := zs_aq0 (hh := hh) l0 u0
  refine ⟨fun f hf => ?_, fun q hq => ?_⟩
  · cases hf
  · obtain rfl := List.mem_singleton.mp hq
    show sz_pr 25 [sx_ev [0, 1] [x0], sx_ev [] [x0], sx_ev [] [x0]] _
    rw [E0, E1]
    exact hz
theorem sz_k92 : sx_Rk sz_pr sz_u92 := by
  intro r hh hh' hb hF hG hP hw
  obtain ⟨x0, r0, e0, l0, u0, hb⟩ := sz_bc hb
  obtain ⟨x1, r1, e1, l1, u1, hb⟩ := sz_bc hb
  obtain ⟨x2, r2, e2, l2, u2, hb⟩ := sz_bc hb
  obtain ⟨x3, r3, e3, l3, u3, hb⟩ := sz_bc hb
  obtain ⟨x4, r4, e4, l4, u4, hb⟩ := sz_bc hb
  obtain ⟨x5, r5, e5, l5, u5, hb⟩ := sz_bc hb
  have hbn := sz_bn hb
  subst hbn
  subst e5
  subst e4
  subst e3
  subst e2
  subst e1
  subst e0
  have E0 : sx_ev [255, 0, 0, 0, 0, 1, -256] [x0, x1, x2, x3, x4, x5] = x4 - 256 * x5 + 255 := by simp [sx_ev, sx_dot] <;> omega
  have E1 : sx_ev [0, 0, 0, 0, 0, -1, 256] [x0, x1, x2, x3, x4, x5] = -x4 + 256 * x5 := by simp [sx_ev, sx_dot] <;> omega
  have E2 : sx_ev [] [x0, x1, x2, x3, x4, x5] = 0 := by simp [sx_ev, sx_dot] <;> omega
  have E3 : sx_ev [0, 4, 1] [x0, x1, x2, x3, x4, x5] = 4 * x0 + x1 := by simp [sx_ev, sx_dot] <;> omega
  have E4 : sx_ev [0, 0, 0, 0, 1] [x0, x1, x2, x3, x4, x5] = x3 := by simp [sx_ev, sx_dot] <;> omega
  have E5 : sx_ev [0, 0, 0, 0, 0, 1] [x0, x1, x2, x3, x4, x5] = x4 := by simp [sx_ev, sx_dot] <;> omega
  have E6 : sx_ev [0, 1] [x0, x1, x2, x3, x4, x5] = x0 := by simp [sx_ev, sx_dot] <;> omega
  have E7 : sx_ev [0, 0, 1] [x0, x1, x2, x3, x4, x5] = x1 := by simp [sx_ev, sx_dot] <;> omega
  have E8 : sx_ev [0, 0, 0, 1] [x0, x1, x2, x3, x4, x5] = x2 := by simp [sx_ev, sx_dot] <;> omega
  have E9 : sx_ev [1, 0, 1] [x0, x1, x2, x3, x4, x5] = x1 + 1 := by simp [sx_ev, sx_dot] <;> omega
  have E10 : sx_ev [1, 0, 0, 1, 0, 0, 1] [x0, x1, x2, x3, x4, x5] = x2 + x5 + 1 := by simp [sx_ev, sx_dot] <;> omega
  have f0 := hF [255, 0, 0, 0, 0, 1, -256] List.mem_cons_self
  rw [E0] at f0
  have f1 := hF [0, 0, 0, 0, 0, -1, 256] (List.mem_cons_of_mem _ List.mem_cons_self)
  rw [E1] at f1
  have g0 := hG (139, [], [0, 4, 1], [0, 0, 0, 0, 1]) List.mem_cons_self
  dsimp only at g0
  rw [E2, E3, E4] at g0
  have g1 := hG (140, [], [0, 4, 1], [0, 0, 0, 0, 0, 1]) (List.mem_cons_of_mem _ List.mem_cons_self)
  dsimp only at g1
  rw [E2, E3, E5] at g1
  have p0 := hP (25, [[0, 1], [0, 0, 1], [0, 0, 0, 1]]) List.mem_cons_self
  have p0 : sz_pr 25 [sx_ev [0, 1] [x0, x1, x2, x3, x4, x5], sx_ev [0, 0, 1] [x0, x1, x2, x3, x4, x5], sx_ev [0, 0, 0, 1] [x0, x1, x2, x3, x4, x5]] hh := p0
  rw [E6, E7, E8] at p0
  have hw := sz_w0 hw
  rw [hw]
  have hz := zs_aq_p (hh := hh) l0 u0 l1 u1 l2 u2 l3 u3 l4 u4 l5 u5 f0 f1 g0 g1 p0
  refine ⟨fun f hf => ?_, fun q hq => ?_⟩
  · cases hf
  · obtain rfl := List.mem_singleton.mp hq
    show sz_pr 25 [sx_ev [0, 1] [x0, x1, x2, x3, x4, x5], sx_ev [1, 0, 1] [x0, x1, x2, x3, x4, x5], sx_ev [1, 0, 0, 1, 0, 0, 1] [x0, x1, x2, x3, x4, x5]] _
    rw [E6, E9, E10]
    exact hz
theorem sz_k93 : sx_Rk sz_pr sz_u93 := by
  intro r hh hh' hb hF hG hP hw
  obtain ⟨x0, r0, e0, l0, u0, hb⟩ := sz_bc hb
  obtain ⟨x1, r1, e1, l1, u1, hb⟩ := sz_bc hb
  obtain ⟨x2, r2, e2, l2, u2, hb⟩ := sz_bc hb
  obtain ⟨x3, r3, e3, l3, u3, hb⟩ := sz_bc hb
  have hbn := sz_bn hb
  subst hbn
  subst e3
  subst e2
  subst e1
  subst e0
  have E0 : sx_ev [] [x0, x1, x2, x3] = 0 := by simp [sx_ev, sx_dot] <;> omega
  have E1 : sx_ev [0, 4, 1] [x0, x1, x2, x3] = 4 * x0 + x1 := by simp [sx_ev, sx_dot] <;> omega
  have E2 : sx_ev [0, 0, 0, 0, 1] [x0, x1, x2, x3] = x3 := by simp [sx_ev, sx_dot] <;> omega
  have E3 : sx_ev [0, 1] [x0, x1, x2, x3] = x0 := by simp [sx_ev, sx_dot] <;> omega
  have E4 : sx_ev [0, 0, 1] [x0, x1, x2, x3] = x1 := by simp [sx_ev, sx_dot] <;> omega
  have E5 : sx_ev [0, 0, 0, 1] [x0, x1, x2, x3] = x2 := by simp [sx_ev, sx_dot] <;> omega
  have E6 : sx_ev [1, 0, 1] [x0, x1, x2, x3] = x1 + 1 := by simp [sx_ev, sx_dot] <;> omega
  have g0 := hG (139, [], [0, 4, 1], [0, 0, 0, 0, 1]) List.mem_cons_self
  dsimp only at g0
  rw [E0, E1, E2] at g0
  have p0 := hP (25, [[0, 1], [0, 0, 1], [0, 0, 0, 1]]) List.mem_cons_self
  have p0 : sz_pr 25 [sx_ev [0, 1] [x0, x1, x2, x3], sx_ev [0, 0, 1] [x0, x1, x2, x3], sx_ev [0, 0, 0, 1] [x0, x1, x2, x3]] hh := p0
  rw [E3, E4, E5] at p0
  have hw := sz_w0 hw
  rw [hw]
  have hz := zs_aq_n (hh := hh) l0 u0 l1 u1 l2 u2 l3 u3 g0 p0
  refine ⟨fun f hf => ?_, fun q hq => ?_⟩
  · cases hf
  · obtain rfl := List.mem_singleton.mp hq
    show sz_pr 25 [sx_ev [0, 1] [x0, x1, x2, x3], sx_ev [1, 0, 1] [x0, x1, x2, x3], sx_ev [0, 0, 0, 1] [x0, x1, x2, x3]] _
    rw [E3, E6, E5]
    exact hz
theorem sz_k94 : sx_Rk sz_pr sz_u94 := by
  intro r hh hh' hb hF hG hP hw
  obtain ⟨x0, r0, e0, l0, u0, hb⟩ := sz_bc hb
  obtain ⟨x1, r1, e1, l1, u1, hb⟩ := sz_bc hb
  obtain ⟨x2, r2, e2, l2, u2, hb⟩ := sz_bc hb
  obtain ⟨x3, r3, e3, l3, u3, hb⟩ := sz_bc hb
  have hbn := sz_bn hb
  subst hbn
  subst e3
  subst e2
  subst e1
  subst e0
  have E0 : sx_ev [0, 0, 1, 0, -1] [x0, x1, x2, x3] = x1 - x3 := by simp [sx_ev, sx_dot] <;> omega
  have E1 : sx_ev [] [x0, x1, x2, x3] = 0 := by simp [sx_ev, sx_dot] <;> omega
  have E2 : sx_ev [0, 1] [x0, x1, x2, x3] = x0 := by simp [sx_ev, sx_dot] <;> omega
  have E3 : sx_ev [0, 0, 0, 0, 1] [x0, x1, x2, x3] = x3 := by simp [sx_ev, sx_dot] <;> omega
  have E4 : sx_ev [0, 0, 1] [x0, x1, x2, x3] = x1 := by simp [sx_ev, sx_dot] <;> omega
  have E5 : sx_ev [0, 0, 0, 1] [x0, x1, x2, x3] = x2 := by simp [sx_ev, sx_dot] <;> omega
  have f0 := hF [0, 0, 1, 0, -1] List.mem_cons_self
  rw [E0] at f0
  have g0 := hG (136, [], [0, 1], [0, 0, 0, 0, 1]) List.mem_cons_self
  dsimp only at g0
  rw [E1, E2, E3] at g0
  have p0 := hP (25, [[0, 1], [0, 0, 1], [0, 0, 0, 1]]) List.mem_cons_self
  have p0 : sz_pr 25 [sx_ev [0, 1] [x0, x1, x2, x3], sx_ev [0, 0, 1] [x0, x1, x2, x3], sx_ev [0, 0, 0, 1] [x0, x1, x2, x3]] hh := p0
  rw [E2, E4, E5] at p0
  have hw := sz_w0 hw
  rw [hw]
  have hz := zs_bq0 (hh := hh) l0 u0 l1 u1 l2 u2 l3 u3 f0 g0 p0
  refine ⟨fun f hf => ?_, fun q hq => ?_⟩
  · cases hf
  · obtain rfl := List.mem_singleton.mp hq
    show sz_pr 26 [sx_ev [0, 1] [x0, x1, x2, x3], sx_ev [] [x0, x1, x2, x3], sx_ev [0, 0, 0, 1] [x0, x1, x2, x3]] _
    rw [E2, E1, E5]
    exact hz
theorem sz_k95 : sx_Rk sz_pr sz_u95 := by
  intro r hh hh' hb hF hG hP hw
  obtain ⟨x0, r0, e0, l0, u0, hb⟩ := sz_bc hb
  obtain ⟨x1, r1, e1, l1, u1, hb⟩ := sz_bc hb
  obtain ⟨x2, r2, e2, l2, u2, hb⟩ := sz_bc hb
  obtain ⟨x3, r3, e3, l3, u3, hb⟩ := sz_bc hb
  have hbn := sz_bn hb
  subst hbn
  subst e3
  subst e2
  subst e1
  subst e0
  have E0 : sx_ev [] [x0, x1, x2, x3] = 0 := by simp [sx_ev, sx_dot] <;> omega
  have E1 : sx_ev [0, 0, 1] [x0, x1, x2, x3] = x1 := by simp [sx_ev, sx_dot] <;> omega
  have E2 : sx_ev [0, 0, 0, 0, 1] [x0, x1, x2, x3] = x3 := by simp [sx_ev, sx_dot] <;> omega
  have E3 : sx_ev [0, 1] [x0, x1, x2, x3] = x0 := by simp [sx_ev, sx_dot] <;> omega
  have E4 : sx_ev [0, 0, 0, 1] [x0, x1, x2, x3] = x2 := by simp [sx_ev, sx_dot] <;> omega
  have E5 : sx_ev [1, 0, 1] [x0, x1, x2, x3] = x1 + 1 := by simp [sx_ev, sx_dot] <;> omega
  have E6 : sx_ev [1, 0, 0, 1] [x0, x1, x2, x3] = x2 + 1 := by simp [sx_ev, sx_dot] <;> omega
  have g0 := hG (188, [], [0, 0, 1], [0, 0, 0, 0, 1]) List.mem_cons_self
  dsimp only at g0
  rw [E0, E1, E2] at g0
  have p0 := hP (26, [[0, 1], [0, 0, 1], [0, 0, 0, 1]]) List.mem_cons_self
  have p0 : sz_pr 26 [sx_ev [0, 1] [x0, x1, x2, x3], sx_ev [0, 0, 1] [x0, x1, x2, x3], sx_ev [0, 0, 0, 1] [x0, x1, x2, x3]] hh := p0
  rw [E3, E1, E4] at p0
  have p1 := hP (28, [[0, 0, 1]]) (List.mem_cons_of_mem _ List.mem_cons_self)
  have p1 : sz_pr 28 [sx_ev [0, 0, 1] [x0, x1, x2, x3]] hh := p1
  rw [E1] at p1
  have hw := sz_w0 hw
  rw [hw]
  have hz := zs_bq_1 (hh := hh) l0 u0 l1 u1 l2 u2 l3 u3 g0 p0 p1
  refine ⟨fun f hf => ?_, fun q hq => ?_⟩
  · cases hf
  · obtain rfl := List.mem_singleton.mp hq
    show sz_pr 26 [sx_ev [0, 1] [x0, x1, x2, x3], sx_ev [1, 0, 1] [x0, x1, x2, x3], sx_ev [1, 0, 0, 1] [x0, x1, x2, x3]] _
    rw [E3, E5, E6]
    exact hz
theorem sz_k96 : sx_Rk sz_pr sz_u96 := by
  intro r hh hh' hb hF hG hP hw
  obtain ⟨x0, r0, e0, l0, u0, hb⟩ := sz_bc hb
  obtain ⟨x1, r1, e1, l1, u1, hb⟩ := sz_bc hb
  obtain ⟨x2, r2, e2, l2, u2, hb⟩ := sz_bc hb
  obtain ⟨x3, r3, e3, l3, u3, hb⟩ := sz_bc hb
  have hbn := sz_bn hb
  subst hbn
  subst e3
  subst e2
  subst e1
  subst e0
  have E0 : sx_ev [] [x0, x1, x2, x3] = 0 := by simp [sx_ev, sx_dot] <;> omega
  have E1 : sx_ev [0, 0, 1] [x0, x1, x2, x3] = x1 := by simp [sx_ev, sx_dot] <;> omega
  have E2 : sx_ev [0, 0, 0, 0, 1] [x0, x1, x2, x3] = x3 := by simp [sx_ev, sx_dot] <;> omega
  have E3 : sx_ev [0, 1] [x0, x1, x2, x3] = x0 := by simp [sx_ev, sx_dot] <;> omega
  have E4 : sx_ev [0, 0, 0, 1] [x0, x1, x2, x3] = x2 := by simp [sx_ev, sx_dot] <;> omega
  have E5 : sx_ev [1, 0, 1] [x0, x1, x2, x3] = x1 + 1 := by simp [sx_ev, sx_dot] <;> omega
  have g0 := hG (188, [], [0, 0, 1], [0, 0, 0, 0, 1]) List.mem_cons_self
  dsimp only at g0
  rw [E0, E1, E2] at g0
  have p0 := hP (26, [[0, 1], [0, 0, 1], [0, 0, 0, 1]]) List.mem_cons_self
  have p0 : sz_pr 26 [sx_ev [0, 1] [x0, x1, x2, x3], sx_ev [0, 0, 1] [x0, x1, x2, x3], sx_ev [0, 0, 0, 1] [x0, x1, x2, x3]] hh := p0
  rw [E3, E1, E4] at p0
  have hw := sz_w0 hw
  rw [hw]
  have hz := zs_bq_c (hh := hh) l0 u0 l1 u1 l2 u2 l3 u3 g0 p0
  refine ⟨fun f hf => ?_, fun q hq => ?_⟩
  · cases hf
  · obtain rfl := List.mem_singleton.mp hq
    show sz_pr 26 [sx_ev [0, 1] [x0, x1, x2, x3], sx_ev [1, 0, 1] [x0, x1, x2, x3], sx_ev [0, 0, 0, 1] [x0, x1, x2, x3]] _
    rw [E3, E5, E4]
    exact hz
theorem sz_k97 : sx_Rk sz_pr sz_u97 := by
  intro r hh hh' hb hF hG hP hw
  obtain ⟨x0, r0, e0, l0, u0, hb⟩ := sz_bc hb
  obtain ⟨x1, r1, e1, l1, u1, hb⟩ := sz_bc hb
  obtain ⟨x2, r2, e2, l2, u2, hb⟩ := sz_bc hb
  obtain ⟨x3, r3, e3, l3, u3, hb⟩ := sz_bc hb
  have hbn := sz_bn hb
  subst hbn
  subst e3
  subst e2
  subst e1
  subst e0
  have E0 : sx_ev [0, 1] [x0, x1, x2, x3] = x0 := by simp [sx_ev, sx_dot] <;> omega
  have E1 : sx_ev [0, 0, 1] [x0, x1, x2, x3] = x1 := by simp [sx_ev, sx_dot] <;> omega
  have E2 : sx_ev [0, 0, 0, 1] [x0, x1, x2, x3] = x2 := by simp [sx_ev, sx_dot] <;> omega
  have E3 : sx_ev [0, 0, 0, 0, 1] [x0, x1, x2, x3] = x3 := by simp [sx_ev, sx_dot] <;> omega
  have E4 : sx_ev [1, 0, 1] [x0, x1, x2, x3] = x1 + 1 := by simp [sx_ev, sx_dot] <;> omega
  have p0 := hP (26, [[0, 1], [0, 0, 1], [0, 0, 0, 1]]) List.mem_cons_self
  have p0 : sz_pr 26 [sx_ev [0, 1] [x0, x1, x2, x3], sx_ev [0, 0, 1] [x0, x1, x2, x3], sx_ev [0, 0, 0, 1] [x0, x1, x2, x3]] hh := p0
  rw [E0, E1, E2] at p0
  have p1 := hP (27, [[0, 0, 1], [0, 0, 0, 0, 1]]) (List.mem_cons_of_mem _ List.mem_cons_self)
  have p1 : sz_pr 27 [sx_ev [0, 0, 1] [x0, x1, x2, x3], sx_ev [0, 0, 0, 0, 1] [x0, x1, x2, x3]] hh := p1
  rw [E1, E3] at p1
  have hw := sz_w0 hw
  rw [hw]
  have hz := zs_bq_h (hh := hh) l0 u0 l1 u1 l2 u2 l3 u3 p0 p1
  refine ⟨fun f hf => ?_, fun q hq => ?_⟩
  · cases hf
  · obtain rfl := List.mem_singleton.mp hq
    show sz_pr 26 [sx_ev [0, 1] [x0, x1, x2, x3], sx_ev [1, 0, 1] [x0, x1, x2, x3], sx_ev [0, 0, 0, 1] [x0, x1, x2, x3]] _
    rw [E0, E4, E2]
    exact hz
theorem sz_k98 : sx_Rk sz_pr sz_u98 := by
  intro r hh hh' hb hF hG hP hw
  obtain ⟨x0, r0, e0, l0, u0, hb⟩ := sz_bc hb
  obtain ⟨x1, r1, e1, l1, u1, hb⟩ := sz_bc hb
  obtain ⟨x2, r2, e2, l2, u2, hb⟩ := sz_bc hb
  obtain ⟨x3, r3, e3, l3, u3, hb⟩ := sz_bc hb
  have hbn := sz_bn hb
  subst hbn
  subst e3
  subst e2
  subst e1
  subst e0
  have E0 : sx_ev [0, 1] [x0, x1, x2, x3] = x0 := by simp [sx_ev, sx_dot] <;> omega
  have E1 : sx_ev [0, 0, 1] [x0, x1, x2, x3] = x1 := by simp [sx_ev, sx_dot] <;> omega
  have E2 : sx_ev [0, 0, 0, 1] [x0, x1, x2, x3] = x2 := by simp [sx_ev, sx_dot] <;> omega
  have E3 : sx_ev [0, 0, 0, 0, 1] [x0, x1, x2, x3] = x3 := by simp [sx_ev, sx_dot] <;> omega
  have E4 : sx_ev [] [x0, x1, x2, x3] = 0 := by simp [sx_ev, sx_dot] <;> omega
  have E5 : sx_ev [0, 0, 0, 1, 1] [x0, x1, x2, x3] = x2 + x3 := by simp [sx_ev, sx_dot] <;> omega
  have p0 := hP (26, [[0, 1], [0, 0, 1], [0, 0, 0, 1]]) List.mem_cons_self
  have p0 : sz_pr 26 [sx_ev [0, 1] [x0, x1, x2, x3], sx_ev [0, 0, 1] [x0, x1, x2, x3], sx_ev [0, 0, 0, 1] [x0, x1, x2, x3]] hh := p0
  rw [E0, E1, E2] at p0
  have p1 := hP (21, [[0, 0, 0, 0, 1]]) (List.mem_cons_of_mem _ List.mem_cons_self)
  have p1 : sz_pr 21 [sx_ev [0, 0, 0, 0, 1] [x0, x1, x2, x3]] hh := p1
  rw [E3] at p1
  have hw := sz_w0 hw
  rw [hw]
  have hz := zs_ur_bq (hh := hh) l0 u0 l1 u1 l2 u2 l3 u3 p0 p1
  refine ⟨fun f hf => ?_, fun q hq => ?_⟩
  · cases hf
  · obtain rfl := List.mem_singleton.mp hq
    show sz_pr 22 [sx_ev [0, 1] [x0, x1, x2, x3], sx_ev [] [x0, x1, x2, x3], sx_ev [] [x0, x1, x2, x3], sx_ev [0, 0, 0, 1, 1] [x0, x1, x2, x3], sx_ev [] [x0, x1, x2, x3]] _
    rw [E0, E4, E5]
    exact hz
theorem sz_k99 : sx_Rk sz_pr sz_u99 := by
  intro r hh hh' hb hF hG hP hw
  obtain ⟨x0, r0, e0, l0, u0, hb⟩ := sz_bc hb
  have hbn := sz_bn hb
  subst hbn
  subst e0
  have E0 : sx_ev [0, 1] [x0] = x0 := by simp [sx_ev, sx_dot] <;> omega
  have E1 : sx_ev [] [x0] = 0 := by simp [sx_ev, sx_dot] <;> omega
  have hw := sz_w0 hw
  rw [hw]
  have hz := zs_hz0 (hh := hh) l0 u0
  refine ⟨fun f hf => ?_, fun q hq => ?_⟩
  · cases hf
  · obtain rfl := List.mem_singleton.mp hq
    show sz_pr 27 [sx_ev [0, 1] [x0], sx_ev [] [x0]] _
    rw [E0, E1]
    exact hz
theorem sz_k100 : sx_Rk sz_pr sz_u100 := by
  intro r hh hh' hb hF hG hP hw
  obtain ⟨x0, r0, e0, l0, u0, hb⟩ := sz_bc hb
  obtain ⟨x1, r1, e1, l1, u1, hb⟩ := sz_bc hb
  obtain ⟨x2, r2, e2, l2, u2, hb⟩ := sz_bc hb
  have hbn := sz_bn hb
  subst hbn
  subst e2
  subst e1
  subst e0
  have E0 : sx_ev [] [x0, x1, x2] = 0 := by simp [sx_ev, sx_dot] <;> omega
  have E1 : sx_ev [0, 7, 1] [x0, x1, x2] = 7 * x0 + x1 := by simp [sx_ev, sx_dot] <;> omega
  have E2 : sx_ev [0, 0, 0, 1] [x0, x1, x2] = x2 := by simp [sx_ev, sx_dot] <;> omega
  have E3 : sx_ev [0, 1] [x0, x1, x2] = x0 := by simp [sx_ev, sx_dot] <;> omega
  have E4 : sx_ev [0, 0, 1] [x0, x1, x2] = x1 := by simp [sx_ev, sx_dot] <;> omega
  have E5 : sx_ev [1, 0, 1] [x0, x1, x2] = x1 + 1 := by simp [sx_ev, sx_dot] <;> omega
  have g0 := hG (187, [], [0, 7, 1], [0, 0, 0, 1]) List.mem_cons_self
  dsimp only at g0
  rw [E0, E1, E2] at g0
  have p0 := hP (27, [[0, 1], [0, 0, 1]]) List.mem_cons_self
  have p0 : sz_pr 27 [sx_ev [0, 1] [x0, x1, x2], sx_ev [0, 0, 1] [x0, x1, x2]] hh := p0
  rw [E3, E4] at p0
  have hw := sz_w0 hw
  rw [hw]
  have hz := zs_hz_n (hh := hh) l0 u0 l1 u1 l2 u2 g0 p0
  refine ⟨fun f hf => ?_, fun q hq => ?_⟩
  · cases hf
  · obtain rfl := List.mem_singleton.mp hq
    show sz_pr 27 [sx_ev [0, 1] [x0, x1, x2], sx_ev [1, 0, 1] [x0, x1, x2]] _
    rw [E3, E5]
    exact hz
theorem sz_k101 : sx_Rk sz_pr sz_u101 := by
  intro r hh hh' hb hF hG hP hw
  obtain ⟨x0, r0, e0, l0, u0, hb⟩ := sz_bc hb
  obtain ⟨x1, r1, e1, l1, u1, hb⟩ := sz_bc hb
  have hbn := sz_bn hb
  subst hbn
  subst e1
  subst e0
  have E0 : sx_ev [0, 1] [x0, x1] = x0 := by simp [sx_ev, sx_dot] <;> omega
  have E1 : sx_ev [0, 0, 1] [x0, x1] = x1 := by simp [sx_ev, sx_dot] <;> omega
  have E2 : sx_ev [7] [x0, x1] = 7 := by simp [sx_ev, sx_dot] <;> omega
  have p0 := hP (27, [[0, 1], [0, 0, 1]]) List.mem_cons_self
  have p0 : sz_pr 27 [sx_ev [0, 1] [x0, x1], sx_ev [0, 0, 1] [x0, x1]] hh := p0
  rw [E0, E1] at p0
  have hw := sz_w0 hw
  rw [hw]
  have hz := zs_hz7 (hh := hh) l0 u0 l1 u1 p0
  refine ⟨fun f hf => ?_, fun q hq => ?_⟩
  · cases hf
  · obtain rfl := List.mem_singleton.mp hq
    show sz_pr 27 [sx_ev [0, 1] [x0, x1], sx_ev [7] [x0, x1]] _
    rw [E0, E2]
    exact hz
theorem sz_k102 : sx_Rk sz_pr sz_u102 := by
  intro r hh hh' hb hF hG hP hw
  obtain ⟨x0, r0, e0, l0, u0, hb⟩ := sz_bc hb
  obtain ⟨x1, r1, e1, l1, u1, hb⟩ := sz_bc hb
  obtain ⟨x2, r2, e2, l2, u2, hb⟩ := sz_bc hb
  have hbn := sz_bn hb
  subst hbn
  subst e2
  subst e1
  subst e0
  have E0 : sx_ev [] [x0, x1, x2] = 0 := by simp [sx_ev, sx_dot] <;> omega
  have E1 : sx_ev [0, 7, 1] [x0, x1, x2] = 7 * x0 + x1 := by simp [sx_ev, sx_dot] <;> omega
  have E2 : sx_ev [0, 0, 0, 1] [x0, x1, x2] = x2 := by simp [sx_ev, sx_dot] <;> omega
  have E3 : sx_ev [0, 1] [x0, x1, x2] = x0 := by simp [sx_ev, sx_dot] <;> omega
  have E4 : sx_ev [0, 0, 1] [x0, x1, x2] = x1 := by simp [sx_ev, sx_dot] <;> omega
  have g0 := hG (187, [], [0, 7, 1], [0, 0, 0, 1]) List.mem_cons_self
  dsimp only at g0
  rw [E0, E1, E2] at g0
  have p0 := hP (27, [[0, 1], [0, 0, 1]]) List.mem_cons_self
  have p0 : sz_pr 27 [sx_ev [0, 1] [x0, x1, x2], sx_ev [0, 0, 1] [x0, x1, x2]] hh := p0
  rw [E3, E4] at p0
  have hw := sz_w0 hw
  rw [hw]
  have hz := zs_hn1 (hh := hh) l0 u0 l1 u1 l2 u2 g0 p0
  refine ⟨fun f hf => ?_, fun q hq => ?_⟩
  · cases hf
  · obtain rfl := List.mem_singleton.mp hq
    show sz_pr 28 [sx_ev [0, 1] [x0, x1, x2]] _
    rw [E3]
    exact hz
theorem sz_k103 : sx_Rk sz_pr sz_u103 := by
  intro r hh hh' hb hF hG hP hw
  obtain ⟨x0, r0, e0, l0, u0, hb⟩ := sz_bc hb
  obtain ⟨x1, r1, e1, l1, u1, hb⟩ := sz_bc hb
  obtain ⟨x2, r2, e2, l2, u2, hb⟩ := sz_bc hb
  have hbn := sz_bn hb
  subst hbn
  subst e2
  subst e1
  subst e0
  have E0 : sx_ev [] [x0, x1, x2] = 0 := by simp [sx_ev, sx_dot] <;> omega
  have E1 : sx_ev [0, 7, 1] [x0, x1, x2] = 7 * x0 + x1 := by simp [sx_ev, sx_dot] <;> omega
  have E2 : sx_ev [0, 0, 0, 1] [x0, x1, x2] = x2 := by simp [sx_ev, sx_dot] <;> omega
  have E3 : sx_ev [0, 1] [x0, x1, x2] = x0 := by simp [sx_ev, sx_dot] <;> omega
  have E4 : sx_ev [0, 0, 1] [x0, x1, x2] = x1 := by simp [sx_ev, sx_dot] <;> omega
  have g0 := hG (187, [], [0, 7, 1], [0, 0, 0, 1]) List.mem_cons_self
  dsimp only at g0
  rw [E0, E1, E2] at g0
  have p0 := hP (27, [[0, 1], [0, 0, 1]]) List.mem_cons_self
  have p0 : sz_pr 27 [sx_ev [0, 1] [x0, x1, x2], sx_ev [0, 0, 1] [x0, x1, x2]] hh := p0
  rw [E3, E4] at p0
  have hw := sz_w0 hw
  rw [hw]
  have hz := zs_hn2 (hh := hh) l0 u0 l1 u1 l2 u2 g0 p0
  refine ⟨fun f hf => ?_, fun q hq => ?_⟩
  · cases hf
  · obtain rfl := List.mem_singleton.mp hq
    show sz_pr 28 [sx_ev [0, 1] [x0, x1, x2]] _
    rw [E3]
    exact hz
theorem sz_k104 : sx_Rk sz_pr sz_u104 := by
  intro r hh hh' hb hF hG hP hw
  obtain ⟨x0, r0, e0, l0, u0, hb⟩ := sz_bc hb
  obtain ⟨x1, r1, e1, l1, u1, hb⟩ := sz_bc hb
  obtain ⟨x2, r2, e2, l2, u2, hb⟩ := sz_bc hb
  obtain ⟨x3, r3, e3, l3, u3, hb⟩ := sz_bc hb
  obtain ⟨x4, r4, e4, l4, u4, hb⟩ := sz_bc hb
  obtain ⟨x5, r5, e5, l5, u5, hb⟩ := sz_bc hb
  obtain ⟨x6, r6, e6, l6, u6, hb⟩ := sz_bc hb
  obtain ⟨x7, r7, e7, l7, u7, hb⟩ := sz_bc hb
  obtain ⟨x8, r8, e8, l8, u8, hb⟩ := sz_bc hb
  have hbn := sz_bn hb
  subst hbn
  subst e8
  subst e7
  subst e6
  subst e5
  subst e4
  subst e3
  subst e2
  subst e1
  subst e0
  have E0 : sx_ev [-1, 0, -1, 0, 0, 0, 1] [x0, x1, x2, x3, x4, x5, x6, x7, x8] = -x1 + x5 - 1 := by simp [sx_ev, sx_dot] <;> omega
  have E1 : sx_ev [255, 0, 0, 0, 0, 0, 0, 0, 1, -256] [x0, x1, x2, x3, x4, x5, x6, x7, x8] = x7 - 256 * x8 + 255 := by simp [sx_ev, sx_dot] <;> omega
  have E2 : sx_ev [0, 0, 0, 0, 0, 0, 0, 0, -1, 256] [x0, x1, x2, x3, x4, x5, x6, x7, x8] = -x7 + 256 * x8 := by simp [sx_ev, sx_dot] <;> omega
  have E3 : sx_ev [] [x0, x1, x2, x3, x4, x5, x6, x7, x8] = 0 := by simp [sx_ev, sx_dot] <;> omega
  have E4 : sx_ev [0, 1] [x0, x1, x2, x3, x4, x5, x6, x7, x8] = x0 := by simp [sx_ev, sx_dot] <;> omega
  have E5 : sx_ev [0, 0, 0, 0, 0, 0, 1] [x0, x1, x2, x3, x4, x5, x6, x7, x8] = x5 := by simp [sx_ev, sx_dot] <;> omega
  have E6 : sx_ev [0, 4, 1] [x0, x1, x2, x3, x4, x5, x6, x7, x8] = 4 * x0 + x1 := by simp [sx_ev, sx_dot] <;> omega
  have E7 : sx_ev [0, 0, 0, 0, 0, 0, 0, 1] [x0, x1, x2, x3, x4, x5, x6, x7, x8] = x6 := by simp [sx_ev, sx_dot] <;> omega
  have E8 : sx_ev [0, 0, 0, 0, 0, 0, 0, 0, 1] [x0, x1, x2, x3, x4, x5, x6, x7, x8] = x7 := by simp [sx_ev, sx_dot] <;> omega
  have E9 : sx_ev [0, 0, 1] [x0, x1, x2, x3, x4, x5, x6, x7, x8] = x1 := by simp [sx_ev, sx_dot] <;> omega
  have E10 : sx_ev [0, 0, 0, 1] [x0, x1, x2, x3, x4, x5, x6, x7, x8] = x2 := by simp [sx_ev, sx_dot] <;> omega
  have E11 : sx_ev [0, 0, 0, 0, 1] [x0, x1, x2, x3, x4, x5, x6, x7, x8] = x3 := by simp [sx_ev, sx_dot] <;> omega
  have E12 : sx_ev [0, 0, 0, 0, 0, 1] [x0, x1, x2, x3, x4, x5, x6, x7, x8] = x4 := by simp [sx_ev, sx_dot] <;> omega
  have E13 : sx_ev [1, 0, 1] [x0, x1, x2, x3, x4, x5, x6, x7, x8] = x1 + 1 := by simp [sx_ev, sx_dot] <;> omega
  have E14 : sx_ev [1, 0, 0, 0, 0, 1, 0, 0, 0, 1] [x0, x1, x2, x3, x4, x5, x6, x7, x8] = x4 + x8 + 1 := by simp [sx_ev, sx_dot] <;> omega
  have f0 := hF [-1, 0, -1, 0, 0, 0, 1] List.mem_cons_self
  rw [E0] at f0
  have f1 := hF [255, 0, 0, 0, 0, 0, 0, 0, 1, -256] (List.mem_cons_of_mem _ List.mem_cons_self)
  rw [E1] at f1
  have f2 := hF [0, 0, 0, 0, 0, 0, 0, 0, -1, 256] (List.mem_cons_of_mem _ (List.mem_cons_of_mem _ List.mem_cons_self))
  rw [E2] at f2
  have g0 := hG (136, [], [0, 1], [0, 0, 0, 0, 0, 0, 1]) List.mem_cons_self
  dsimp only at g0
  rw [E3, E4, E5] at g0
  have g1 := hG (139, [], [0, 4, 1], [0, 0, 0, 0, 0, 0, 0, 1]) (List.mem_cons_of_mem _ List.mem_cons_self)
  dsimp only at g1
  rw [E3, E6, E7] at g1
  have g2 := hG (140, [], [0, 4, 1], [0, 0, 0, 0, 0, 0, 0, 0, 1]) (List.mem_cons_of_mem _ (List.mem_cons_of_mem _ List.mem_cons_self))
  dsimp only at g2
  rw [E3, E6, E8] at g2
  have p0 := hP (22, [[0, 1], [0, 0, 1], [0, 0, 0, 1], [0, 0, 0, 0, 1], [0, 0, 0, 0, 0, 1]]) List.mem_cons_self
  have p0 : sz_pr 22 [sx_ev [0, 1] [x0, x1, x2, x3, x4, x5, x6, x7, x8], sx_ev [0, 0, 1] [x0, x1, x2, x3, x4, x5, x6, x7, x8], sx_ev [0, 0, 0, 1] [x0, x1, x2, x3, x4, x5, x6, x7, x8], sx_ev [0, 0, 0, 0, 1] [x0, x1, x2, x3, x4, x5, x6, x7, x8], sx_ev [0, 0, 0, 0, 0, 1] [x0, x1, x2, x3, x4, x5, x6, x7, x8]] hh := p0
  rw [E4, E9, E10, E11, E12] at p0
  have hw := sz_w0 hw
  rw [hw]
  have hz := zs_ur_p (hh := hh) l0 u0 l1 u1 l2 u2 l3 u3 l4 u4 l5 u5 l6 u6 l7 u7 l8 u8 f0 f1 f2 g0 g1 g2 p0
  refine ⟨fun f hf => ?_, fun q hq => ?_⟩
  · cases hf
  · obtain rfl := List.mem_singleton.mp hq
    show sz_pr 22 [sx_ev [0, 1] [x0, x1, x2, x3, x4, x5, x6, x7, x8], sx_ev [1, 0, 1] [x0, x1, x2, x3, x4, x5, x6, x7, x8], sx_ev [0, 0, 0, 1] [x0, x1, x2, x3, x4, x5, x6, x7, x8], sx_ev [0, 0, 0, 0, 1] [x0, x1, x2, x3, x4, x5, x6, x7, x8], sx_ev [1, 0, 0, 0, 0, 1, 0, 0, 0, 1] [x0, x1, x2, x3, x4, x5, x6, x7, x8]] _
    rw [E4, E13, E10, E11, E14]
    exact hz
theorem sz_k105 : sx_Rk sz_pr sz_u105 := by
  intro r hh hh' hb hF hG hP hw
  obtain ⟨x0, r0, e0, l0, u0, hb⟩ := sz_bc hb
  obtain ⟨x1, r1, e1, l1, u1, hb⟩ := sz_bc hb
  obtain ⟨x2, r2, e2, l2, u2, hb⟩ := sz_bc hb
  obtain ⟨x3, r3, e3, l3, u3, hb⟩ := sz_bc hb
  obtain ⟨x4, r4, e4, l4, u4, hb⟩ := sz_bc hb
  obtain ⟨x5, r5, e5, l5, u5, hb⟩ := sz_bc hb
  have hbn := sz_bn hb
  subst hbn
  subst e5
  subst e4
  subst e3
  subst e2
  subst e1
  subst e0
  have E0 : sx_ev [] [x0, x1, x2, x3, x4, x5] = 0 := by simp [sx_ev, sx_dot] <;> omega
  have E1 : sx_ev [0, 4, 1] [x0, x1, x2, x3, x4, x5] = 4 * x0 + x1 := by simp [sx_ev, sx_dot] <;> omega
  have E2 : sx_ev [0, 0, 0, 0, 0, 0, 1] [x0, x1, x2, x3, x4, x5] = x5 := by simp [sx_ev, sx_dot] <;> omega
  have E3 : sx_ev [0, 1] [x0, x1, x2, x3, x4, x5] = x0 := by simp [sx_ev, sx_dot] <;> omega
  have E4 : sx_ev [0, 0, 1] [x0, x1, x2, x3, x4, x5] = x1 := by simp [sx_ev, sx_dot] <;> omega
  have E5 : sx_ev [0, 0, 0, 1] [x0, x1, x2, x3, x4, x5] = x2 := by simp [sx_ev, sx_dot] <;> omega
  have E6 : sx_ev [0, 0, 0, 0, 1] [x0, x1, x2, x3, x4, x5] = x3 := by simp [sx_ev, sx_dot] <;> omega
  have E7 : sx_ev [0, 0, 0, 0, 0, 1] [x0, x1, x2, x3, x4, x5] = x4 := by simp [sx_ev, sx_dot] <;> omega
  have E8 : sx_ev [1, 0, 1] [x0, x1, x2, x3, x4, x5] = x1 + 1 := by simp [sx_ev, sx_dot] <;> omega
  have g0 := hG (139, [], [0, 4, 1], [0, 0, 0, 0, 0, 0, 1]) List.mem_cons_self
  dsimp only at g0
  rw [E0, E1, E2] at g0
  have p0 := hP (22, [[0, 1], [0, 0, 1], [0, 0, 0, 1], [0, 0, 0, 0, 1], [0, 0, 0, 0, 0, 1]]) List.mem_cons_self
  have p0 : sz_pr 22 [sx_ev [0, 1] [x0, x1, x2, x3, x4, x5], sx_ev [0, 0, 1] [x0, x1, x2, x3, x4, x5], sx_ev [0, 0, 0, 1] [x0, x1, x2, x3, x4, x5], sx_ev [0, 0, 0, 0, 1] [x0, x1, x2, x3, x4, x5], sx_ev [0, 0, 0, 0, 0, 1] [x0, x1, x2, x3, x4, x5]] hh := p0
  rw [E3, E4, E5, E6, E7] at p0
  have hw := sz_w0 hw
  rw [hw]
  have hz := zs_ur_n (hh := hh) l0 u0 l1 u1 l2 u2 l3 u3 l4 u4 l5 u5 g0 p0
  refine ⟨fun f hf => ?_, fun q hq => ?_⟩
  · cases hf
  · obtain rfl := List.mem_singleton.mp hq
    show sz_pr 22 [sx_ev [0, 1] [x0, x1, x2, x3, x4, x5], sx_ev [1, 0, 1] [x0, x1, x2, x3, x4, x5], sx_ev [0, 0, 0, 1] [x0, x1, x2, x3, x4, x5], sx_ev [0, 0, 0, 0, 1] [x0, x1, x2, x3, x4, x5], sx_ev [0, 0, 0, 0, 0, 1] [x0, x1, x2, x3, x4, x5]] _
    rw [E3, E8, E5, E6, E7]
    exact hz
theorem sz_k106 : sx_Rk sz_pr sz_u106 := by
  intro r hh hh' hb hF hG hP hw
  obtain ⟨x0, r0, e0, l0, u0, hb⟩ := sz_bc hb
  obtain ⟨x1, r1, e1, l1, u1, hb⟩ := sz_bc hb
  obtain ⟨x2, r2, e2, l2, u2, hb⟩ := sz_bc hb
  obtain ⟨x3, r3, e3, l3, u3, hb⟩ := sz_bc hb
  obtain ⟨x4, r4, e4, l4, u4, hb⟩ := sz_bc hb
  obtain ⟨x5, r5, e5, l5, u5, hb⟩ := sz_bc hb
  have hbn := sz_bn hb
  subst hbn
  subst e5
  subst e4
  subst e3
  subst e2
  subst e1
  subst e0
  have E0 : sx_ev [0, 0, 1, 0, 0, 0, -1] [x0, x1, x2, x3, x4, x5] = x1 - x5 := by simp [sx_ev, sx_dot] <;> omega
  have E1 : sx_ev [] [x0, x1, x2, x3, x4, x5] = 0 := by simp [sx_ev, sx_dot] <;> omega
  have E2 : sx_ev [0, 1] [x0, x1, x2, x3, x4, x5] = x0 := by simp [sx_ev, sx_dot] <;> omega
  have E3 : sx_ev [0, 0, 0, 0, 0, 0, 1] [x0, x1, x2, x3, x4, x5] = x5 := by simp [sx_ev, sx_dot] <;> omega
  have E4 : sx_ev [0, 0, 1] [x0, x1, x2, x3, x4, x5] = x1 := by simp [sx_ev, sx_dot] <;> omega
  have E5 : sx_ev [0, 0, 0, 1] [x0, x1, x2, x3, x4, x5] = x2 := by simp [sx_ev, sx_dot] <;> omega
  have E6 : sx_ev [0, 0, 0, 0, 1] [x0, x1, x2, x3, x4, x5] = x3 := by simp [sx_ev, sx_dot] <;> omega
  have E7 : sx_ev [0, 0, 0, 0, 0, 1] [x0, x1, x2, x3, x4, x5] = x4 := by simp [sx_ev, sx_dot] <;> omega
  have E8 : sx_ev [4] [x0, x1, x2, x3, x4, x5] = 4 := by simp [sx_ev, sx_dot] <;> omega
  have f0 := hF [0, 0, 1, 0, 0, 0, -1] List.mem_cons_self
  rw [E0] at f0
  have g0 := hG (136, [], [0, 1], [0, 0, 0, 0, 0, 0, 1]) List.mem_cons_self
  dsimp only at g0
  rw [E1, E2, E3] at g0
  have p0 := hP (22, [[0, 1], [0, 0, 1], [0, 0, 0, 1], [0, 0, 0, 0, 1], [0, 0, 0, 0, 0, 1]]) List.mem_cons_self
  have p0 : sz_pr 22 [sx_ev [0, 1] [x0, x1, x2, x3, x4, x5], sx_ev [0, 0, 1] [x0, x1, x2, x3, x4, x5], sx_ev [0, 0, 0, 1] [x0, x1, x2, x3, x4, x5], sx_ev [0, 0, 0, 0, 1] [x0, x1, x2, x3, x4, x5], sx_ev [0, 0, 0, 0, 0, 1] [x0, x1, x2, x3, x4, x5]] hh := p0
  rw [E2, E4, E5, E6, E7] at p0
  have hw := sz_w0 hw
  rw [hw]
  have hz := zs_ur_e (hh := hh) l0 u0 l1 u1 l2 u2 l3 u3 l4 u4 l5 u5 f0 g0 p0
  refine ⟨fun f hf => ?_, fun q hq => ?_⟩
  · cases hf
  · obtain rfl := List.mem_singleton.mp hq
    show sz_pr 22 [sx_ev [0, 1] [x0, x1, x2, x3, x4, x5], sx_ev [4] [x0, x1, x2, x3, x4, x5], sx_ev [0, 0, 0, 1] [x0, x1, x2, x3, x4, x5], sx_ev [0, 0, 0, 0, 1] [x0, x1, x2, x3, x4, x5], sx_ev [0, 0, 0, 0, 0, 1] [x0, x1, x2, x3, x4, x5]] _
    rw [E2, E8, E5, E6, E7]
    exact hz
theorem sz_k107 : sx_Rk sz_pr sz_u107 := by
  intro r hh hh' hb hF hG hP hw
  obtain ⟨x0, r0, e0, l0, u0, hb⟩ := sz_bc hb
  obtain ⟨x1, r1, e1, l1, u1, hb⟩ := sz_bc hb
  obtain ⟨x2, r2, e2, l2, u2, hb⟩ := sz_bc hb
  obtain ⟨x3, r3, e3, l3, u3, hb⟩ := sz_bc hb
  obtain ⟨x4, r4, e4, l4, u4, hb⟩ := sz_bc hb
  obtain ⟨x5, r5, e5, l5, u5, hb⟩ := sz_bc hb
  have hbn := sz_bn hb
  subst hbn
  subst e5
  subst e4
  subst e3
  subst e2
  subst e1
  subst e0
  have E0 : sx_ev [] [x0, x1, x2, x3, x4, x5] = 0 := by simp [sx_ev, sx_dot] <;> omega
  have E1 : sx_ev [0, 0, 0, 1] [x0, x1, x2, x3, x4, x5] = x2 := by simp [sx_ev, sx_dot] <;> omega
  have E2 : sx_ev [0, 0, 0, 0, 0, 0, 1] [x0, x1, x2, x3, x4, x5] = x5 := by simp [sx_ev, sx_dot] <;> omega
  have E3 : sx_ev [0, 1] [x0, x1, x2, x3, x4, x5] = x0 := by simp [sx_ev, sx_dot] <;> omega
  have E4 : sx_ev [0, 0, 1] [x0, x1, x2, x3, x4, x5] = x1 := by simp [sx_ev, sx_dot] <;> omega
  have E5 : sx_ev [0, 0, 0, 0, 1] [x0, x1, x2, x3, x4, x5] = x3 := by simp [sx_ev, sx_dot] <;> omega
  have E6 : sx_ev [0, 0, 0, 0, 0, 1] [x0, x1, x2, x3, x4, x5] = x4 := by simp [sx_ev, sx_dot] <;> omega
  have E7 : sx_ev [1, 0, 0, 1] [x0, x1, x2, x3, x4, x5] = x2 + 1 := by simp [sx_ev, sx_dot] <;> omega
  have E8 : sx_ev [1, 0, 0, 0, 0, 1] [x0, x1, x2, x3, x4, x5] = x4 + 1 := by simp [sx_ev, sx_dot] <;> omega
  have g0 := hG (188, [], [0, 0, 0, 1], [0, 0, 0, 0, 0, 0, 1]) List.mem_cons_self
  dsimp only at g0
  rw [E0, E1, E2] at g0
  have p0 := hP (22, [[0, 1], [0, 0, 1], [0, 0, 0, 1], [0, 0, 0, 0, 1], [0, 0, 0, 0, 0, 1]]) List.mem_cons_self
  have p0 : sz_pr 22 [sx_ev [0, 1] [x0, x1, x2, x3, x4, x5], sx_ev [0, 0, 1] [x0, x1, x2, x3, x4, x5], sx_ev [0, 0, 0, 1] [x0, x1, x2, x3, x4, x5], sx_ev [0, 0, 0, 0, 1] [x0, x1, x2, x3, x4, x5], sx_ev [0, 0, 0, 0, 0, 1] [x0, x1, x2, x3, x4, x5]] hh := p0
  rw [E3, E4, E1, E5, E6] at p0
  have p1 := hP (28, [[0, 0, 0, 1]]) (List.mem_cons_of_mem _ List.mem_cons_self)
  have p1 : sz_pr 28 [sx_ev [0, 0, 0, 1] [x0, x1, x2, x3, x4, x5]] hh := p1
  rw [E1] at p1
  have hw := sz_w0 hw
  rw [hw]
  have hz := zs_ur_h (hh := hh) l0 u0 l1 u1 l2 u2 l3 u3 l4 u4 l5 u5 g0 p0 p1
  refine ⟨fun f hf => ?_, fun q hq => ?_⟩
  · cases hf
  · obtain rfl := List.mem_singleton.mp hq
    show sz_pr 22 [sx_ev [0, 1] [x0, x1, x2, x3, x4, x5], sx_ev [0, 0, 1] [x0, x1, x2, x3, x4, x5], sx_ev [1, 0, 0, 1] [x0, x1, x2, x3, x4, x5], sx_ev [0, 0, 0, 0, 1] [x0, x1, x2, x3, x4, x5], sx_ev [1, 0, 0, 0, 0, 1] [x0, x1, x2, x3, x4, x5]] _
    rw [E3, E4, E7, E5, E8]
    exact hz
theorem sz_k108 : sx_Rk sz_pr sz_u108 := by
  intro r hh hh' hb hF hG hP hw
  obtain ⟨x0, r0, e0, l0, u0, hb⟩ := sz_bc hb
  obtain ⟨x1, r1, e1, l1, u1, hb⟩ := sz_bc hb
  obtain ⟨x2, r2, e2, l2, u2, hb⟩ := sz_bc hb
  obtain ⟨x3, r3, e3, l3, u3, hb⟩ := sz_bc hb
  obtain ⟨x4, r4, e4, l4, u4, hb⟩ := sz_bc hb
  have hbn := sz_bn hb
  subst hbn
  subst e4
  subst e3
  subst e2
  subst e1
  subst e0
  have E0 : sx_ev [0, 1] [x0, x1, x2, x3, x4] = x0 := by simp [sx_ev, sx_dot] <;> omega
  have E1 : sx_ev [0, 0, 1] [x0, x1, x2, x3, x4] = x1 := by simp [sx_ev, sx_dot] <;> omega
  have E2 : sx_ev [0, 0, 0, 1] [x0, x1, x2, x3, x4] = x2 := by simp [sx_ev, sx_dot] <;> omega
  have E3 : sx_ev [0, 0, 0, 0, 1] [x0, x1, x2, x3, x4] = x3 := by simp [sx_ev, sx_dot] <;> omega
  have E4 : sx_ev [0, 0, 0, 0, 0, 1] [x0, x1, x2, x3, x4] = x4 := by simp [sx_ev, sx_dot] <;> omega
  have E5 : sx_ev [1, 0, 0, 1] [x0, x1, x2, x3, x4] = x2 + 1 := by simp [sx_ev, sx_dot] <;> omega
  have p0 := hP (22, [[0, 1], [0, 0, 1], [0, 0, 0, 1], [0, 0, 0, 0, 1], [0, 0, 0, 0, 0, 1]]) List.mem_cons_self
  have p0 : sz_pr 22 [sx_ev [0, 1] [x0, x1, x2, x3, x4], sx_ev [0, 0, 1] [x0, x1, x2, x3, x4], sx_ev [0, 0, 0, 1] [x0, x1, x2, x3, x4], sx_ev [0, 0, 0, 0, 1] [x0, x1, x2, x3, x4], sx_ev [0, 0, 0, 0, 0, 1] [x0, x1, x2, x3, x4]] hh := p0
  rw [E0, E1, E2, E3, E4] at p0
  have hw := sz_w0 hw
  rw [hw]
  have hz := zs_ur_c (hh := hh) l0 u0 l1 u1 l2 u2 l3 u3 l4 u4 p0
  refine ⟨fun f hf => ?_, fun q hq => ?_⟩
  · cases hf
  · obtain rfl := List.mem_singleton.mp hq
    show sz_pr 22 [sx_ev [0, 1] [x0, x1, x2, x3, x4], sx_ev [0, 0, 1] [x0, x1, x2, x3, x4], sx_ev [1, 0, 0, 1] [x0, x1, x2, x3, x4], sx_ev [0, 0, 0, 0, 1] [x0, x1, x2, x3, x4], sx_ev [0, 0, 0, 0, 0, 1] [x0, x1, x2, x3, x4]] _
    rw [E0, E1, E5, E3, E4]
    exact hz
theorem sz_k109 : sx_Rk sz_pr sz_u109 := by
  intro r hh hh' hb hF hG hP hw
  obtain ⟨x0, r0, e0, l0, u0, hb⟩ := sz_bc hb
  obtain ⟨x1, r1, e1, l1, u1, hb⟩ := sz_bc hb
  obtain ⟨x2, r2, e2, l2, u2, hb⟩ := sz_bc hb
  obtain ⟨x3, r3, e3, l3, u3, hb⟩ := sz_bc hb
  obtain ⟨x4, r4, e4, l4, u4, hb⟩ := sz_bc hb
  have hbn := sz_bn hb
  subst hbn
  subst e4
  subst e3
  subst e2
  subst e1
  subst e0
  have E0 : sx_ev [64, 0, 0, 0, -1] [x0, x1, x2, x3, x4] = -x3 + 64 := by simp [sx_ev, sx_dot] <;> omega
  have E1 : sx_ev [0, 1] [x0, x1, x2, x3, x4] = x0 := by simp [sx_ev, sx_dot] <;> omega
  have E2 : sx_ev [0, 0, 1] [x0, x1, x2, x3, x4] = x1 := by simp [sx_ev, sx_dot] <;> omega
  have E3 : sx_ev [0, 0, 0, 1] [x0, x1, x2, x3, x4] = x2 := by simp [sx_ev, sx_dot] <;> omega
  have E4 : sx_ev [0, 0, 0, 0, 1] [x0, x1, x2, x3, x4] = x3 := by simp [sx_ev, sx_dot] <;> omega
  have E5 : sx_ev [0, 0, 0, 0, 0, 1] [x0, x1, x2, x3, x4] = x4 := by simp [sx_ev, sx_dot] <;> omega
  have E6 : sx_ev [64] [x0, x1, x2, x3, x4] = 64 := by simp [sx_ev, sx_dot] <;> omega
  have E7 : sx_ev [64, 0, 0, 0, -1, 1] [x0, x1, x2, x3, x4] = -x3 + x4 + 64 := by simp [sx_ev, sx_dot] <;> omega
  have f0 := hF [64, 0, 0, 0, -1] List.mem_cons_self
  rw [E0] at f0
  have p0 := hP (22, [[0, 1], [0, 0, 1], [0, 0, 0, 1], [0, 0, 0, 0, 1], [0, 0, 0, 0, 0, 1]]) List.mem_cons_self
  have p0 : sz_pr 22 [sx_ev [0, 1] [x0, x1, x2, x3, x4], sx_ev [0, 0, 1] [x0, x1, x2, x3, x4], sx_ev [0, 0, 0, 1] [x0, x1, x2, x3, x4], sx_ev [0, 0, 0, 0, 1] [x0, x1, x2, x3, x4], sx_ev [0, 0, 0, 0, 0, 1] [x0, x1, x2, x3, x4]] hh := p0
  rw [E1, E2, E3, E4, E5] at p0
  have hw := sz_w0 hw
  rw [hw]
  have hz := zs_ur_64 (hh := hh) l0 u0 l1 u1 l2 u2 l3 u3 l4 u4 f0 p0
  refine ⟨fun f hf => ?_, fun q hq => ?_⟩
  · cases hf
  · obtain rfl := List.mem_singleton.mp hq
    show sz_pr 22 [sx_ev [0, 1] [x0, x1, x2, x3, x4], sx_ev [0, 0, 1] [x0, x1, x2, x3, x4], sx_ev [0, 0, 0, 1] [x0, x1, x2, x3, x4], sx_ev [64] [x0, x1, x2, x3, x4], sx_ev [64, 0, 0, 0, -1, 1] [x0, x1, x2, x3, x4]] _
    rw [E1, E2, E3, E6, E7]
    exact hz
theorem sz_k110 : sx_Rk sz_pr sz_u110 := by
  intro r hh hh' hb hF hG hP hw
  obtain ⟨x0, r0, e0, l0, u0, hb⟩ := sz_bc hb
  have hbn := sz_bn hb
  subst hbn
  subst e0
  have E0 : sx_ev [0, 1] [x0] = x0 := by simp [sx_ev, sx_dot] <;> omega
  have E1 : sx_ev [] [x0] = 0 := by simp [sx_ev, sx_dot] <;> omega
  have hw := sz_w0 hw
  rw [hw]
  have hz := zs_rn0 (hh := hh) l0 u0
  refine ⟨fun f hf => ?_, fun q hq => ?_⟩
  · cases hf
  · obtain rfl := List.mem_singleton.mp hq
    show sz_pr 29 [sx_ev [0, 1] [x0], sx_ev [] [x0]] _
    rw [E0, E1]
    exact hz
theorem sz_k111 : sx_Rk sz_pr sz_u111 := by
  intro r hh hh' hb hF hG hP hw
  obtain ⟨x0, r0, e0, l0, u0, hb⟩ := sz_bc hb
  obtain ⟨x1, r1, e1, l1, u1, hb⟩ := sz_bc hb
  obtain ⟨x2, r2, e2, l2, u2, hb⟩ := sz_bc hb
  have hbn := sz_bn hb
  subst hbn
  subst e2
  subst e1
  subst e0
  have E0 : sx_ev [] [x0, x1, x2] = 0 := by simp [sx_ev, sx_dot] <;> omega
  have E1 : sx_ev [0, 256, 33] [x0, x1, x2] = 256 * x0 + 33 * x1 := by simp [sx_ev, sx_dot] <;> omega
  have E2 : sx_ev [0, 0, 0, 1] [x0, x1, x2] = x2 := by simp [sx_ev, sx_dot] <;> omega
  have E3 : sx_ev [0, 1] [x0, x1, x2] = x0 := by simp [sx_ev, sx_dot] <;> omega
  have E4 : sx_ev [0, 0, 1] [x0, x1, x2] = x1 := by simp [sx_ev, sx_dot] <;> omega
  have E5 : sx_ev [1, 0, 1] [x0, x1, x2] = x1 + 1 := by simp [sx_ev, sx_dot] <;> omega
  have g0 := hG (104, [], [0, 256, 33], [0, 0, 0, 1]) List.mem_cons_self
  dsimp only at g0
  rw [E0, E1, E2] at g0
  have p0 := hP (29, [[0, 1], [0, 0, 1]]) List.mem_cons_self
  have p0 : sz_pr 29 [sx_ev [0, 1] [x0, x1, x2], sx_ev [0, 0, 1] [x0, x1, x2]] hh := p0
  rw [E3, E4] at p0
  have hw := sz_w0 hw
  rw [hw]
  have hz := zs_rn_1 (hh := hh) l0 u0 l1 u1 l2 u2 g0 p0
  refine ⟨fun f hf => ?_, fun q hq => ?_⟩
  · cases hf
  · obtain rfl := List.mem_singleton.mp hq
    show sz_pr 29 [sx_ev [0, 1] [x0, x1, x2], sx_ev [1, 0, 1] [x0, x1, x2]] _
    rw [E3, E5]
    exact hz
theorem sz_k112 : sx_Rk sz_pr sz_u112 := by
  intro r hh hh' hb hF hG hP hw
  obtain ⟨x0, r0, e0, l0, u0, hb⟩ := sz_bc hb
  obtain ⟨x1, r1, e1, l1, u1, hb⟩ := sz_bc hb
  obtain ⟨x2, r2, e2, l2, u2, hb⟩ := sz_bc hb
  have hbn := sz_bn hb
  subst hbn
  subst e2
  subst e1
  subst e0
  have E0 : sx_ev [] [x0, x1, x2] = 0 := by simp [sx_ev, sx_dot] <;> omega
  have E1 : sx_ev [0, 256, 33] [x0, x1, x2] = 256 * x0 + 33 * x1 := by simp [sx_ev, sx_dot] <;> omega
  have E2 : sx_ev [0, 0, 0, 1] [x0, x1, x2] = x2 := by simp [sx_ev, sx_dot] <;> omega
  have E3 : sx_ev [0, 1] [x0, x1, x2] = x0 := by simp [sx_ev, sx_dot] <;> omega
  have E4 : sx_ev [0, 0, 1] [x0, x1, x2] = x1 := by simp [sx_ev, sx_dot] <;> omega
  have E5 : sx_ev [1, 0, 1] [x0, x1, x2] = x1 + 1 := by simp [sx_ev, sx_dot] <;> omega
  have g0 := hG (104, [], [0, 256, 33], [0, 0, 0, 1]) List.mem_cons_self
  dsimp only at g0
  rw [E0, E1, E2] at g0
  have p0 := hP (29, [[0, 1], [0, 0, 1]]) List.mem_cons_self
  have p0 : sz_pr 29 [sx_ev [0, 1] [x0, x1, x2], sx_ev [0, 0, 1] [x0, x1, x2]] hh := p0
  rw [E3, E4] at p0
  have hw := sz_w0 hw
  rw [hw]
  have hz := zs_rn_2 (hh := hh) l0 u0 l1 u1 l2 u2 g0 p0
  refine ⟨fun f hf => ?_, fun q hq => ?_⟩
  · cases hf
  · obtain rfl := List.mem_singleton.mp hq
    show sz_pr 29 [sx_ev [0, 1] [x0, x1, x2], sx_ev [1, 0, 1] [x0, x1, x2]] _
    rw [E3, E5]
    exact hz
theorem sz_k113 : sx_Rk sz_pr sz_u113 := by
  intro r hh hh' hb hF hG hP hw
  obtain ⟨x0, r0, e0, l0, u0, hb⟩ := sz_bc hb
  obtain ⟨x1, r1, e1, l1, u1, hb⟩ := sz_bc hb
  have hbn := sz_bn hb
  subst hbn
  subst e1
  subst e0
  have E0 : sx_ev [0, 1] [x0, x1] = x0 := by simp [sx_ev, sx_dot] <;> omega
  have E1 : sx_ev [0, 0, 1] [x0, x1] = x1 := by simp [sx_ev, sx_dot] <;> omega
  have E2 : sx_ev [7] [x0, x1] = 7 := by simp [sx_ev, sx_dot] <;> omega
  have p0 := hP (29, [[0, 1], [0, 0, 1]]) List.mem_cons_self
  have p0 : sz_pr 29 [sx_ev [0, 1] [x0, x1], sx_ev [0, 0, 1] [x0, x1]] hh := p0
  rw [E0, E1] at p0
  have hw := sz_w0 hw
  rw [hw]
  have hz := zs_rn7 (hh := hh) l0 u0 l1 u1 p0
  refine ⟨fun f hf => ?_, fun q hq => ?_⟩
  · cases hf
  · obtain rfl := List.mem_singleton.mp hq
    show sz_pr 29 [sx_ev [0, 1] [x0, x1], sx_ev [7] [x0, x1]] _
    rw [E0, E2]
    exact hz
theorem sz_k114 : sx_Rk sz_pr sz_u114 := by
  intro r hh hh' hb hF hG hP hw
  obtain ⟨x0, r0, e0, l0, u0, hb⟩ := sz_bc hb
  obtain ⟨x1, r1, e1, l1, u1, hb⟩ := sz_bc hb
  obtain ⟨x2, r2, e2, l2, u2, hb⟩ := sz_bc hb
  have hbn := sz_bn hb
  subst hbn
  subst e2
  subst e1
  subst e0
  have E0 : sx_ev [] [x0, x1, x2] = 0 := by simp [sx_ev, sx_dot] <;> omega
  have E1 : sx_ev [0, 256, 33] [x0, x1, x2] = 256 * x0 + 33 * x1 := by simp [sx_ev, sx_dot] <;> omega
  have E2 : sx_ev [0, 0, 0, 1] [x0, x1, x2] = x2 := by simp [sx_ev, sx_dot] <;> omega
  have E3 : sx_ev [0, 1] [x0, x1, x2] = x0 := by simp [sx_ev, sx_dot] <;> omega
  have E4 : sx_ev [7] [x0, x1, x2] = 7 := by simp [sx_ev, sx_dot] <;> omega
  have E5 : sx_ev [63, 0, 0, -1] [x0, x1, x2] = -x2 + 63 := by simp [sx_ev, sx_dot] <;> omega
  have g0 := hG (104, [], [0, 256, 33], [0, 0, 0, 1]) List.mem_cons_self
  dsimp only at g0
  rw [E0, E1, E2] at g0
  have p0 := hP (29, [[0, 1], [7]]) List.mem_cons_self
  have p0 : sz_pr 29 [sx_ev [0, 1] [x0, x1, x2], sx_ev [7] [x0, x1, x2]] hh := p0
  rw [E3, E4] at p0
  have hw := sz_w0 hw
  rw [hw]
  have hz := zs_rn_u1 (hh := hh) l0 u0 l1 u1 l2 u2 g0 p0
  refine ⟨fun f hf => ?_, fun q hq => ?_⟩
  · rw [List.mem_singleton.mp hf, E5]
    exact hz
  · cases hq
theorem sz_k115 : sx_Rk sz_pr sz_u115 := by
  intro r hh hh' hb hF hG hP hw
  obtain ⟨x0, r0, e0, l0, u0, hb⟩ := sz_bc hb
  obtain ⟨x1, r1, e1, l1, u1, hb⟩ := sz_bc hb
  obtain ⟨x2, r2, e2, l2, u2, hb⟩ := sz_bc hb
  have hbn := sz_bn hb
  subst hbn
  subst e2
  subst e1
  subst e0
  have E0 : sx_ev [] [x0, x1, x2] = 0 := by simp [sx_ev, sx_dot] <;> omega
  have E1 : sx_ev [0, 256, 33] [x0, x1, x2] = 256 * x0 + 33 * x1 := by simp [sx_ev, sx_dot] <;> omega
  have E2 : sx_ev [0, 0, 0, 1] [x0, x1, x2] = x2 := by simp [sx_ev, sx_dot] <;> omega
  have E3 : sx_ev [0, 1] [x0, x1, x2] = x0 := by simp [sx_ev, sx_dot] <;> omega
  have E4 : sx_ev [7] [x0, x1, x2] = 7 := by simp [sx_ev, sx_dot] <;> omega
  have E5 : sx_ev [1, 0, 0, 1] [x0, x1, x2] = x2 + 1 := by simp [sx_ev, sx_dot] <;> omega
  have g0 := hG (104, [], [0, 256, 33], [0, 0, 0, 1]) List.mem_cons_self
  dsimp only at g0
  rw [E0, E1, E2] at g0
  have p0 := hP (29, [[0, 1], [7]]) List.mem_cons_self
  have p0 : sz_pr 29 [sx_ev [0, 1] [x0, x1, x2], sx_ev [7] [x0, x1, x2]] hh := p0
  rw [E3, E4] at p0
  have hw := sz_w0 hw
  rw [hw]
  have hz := zs_rn_u2 (hh := hh) l0 u0 l1 u1 l2 u2 g0 p0
  refine ⟨fun f hf => ?_, fun q hq => ?_⟩
  · rw [List.mem_singleton.mp hf, E5]
    exact hz
  · cases hq
theorem sz_k116 : sx_Rk sz_pr sz_u116 := by
  intro r hh hh' hb hF hG hP hw
  obtain ⟨x0, r0, e0, l0, u0, hb⟩ := sz_bc hb
  obtain ⟨x1, r1, e1, l1, u1, hb⟩ := sz_bc hb
  have hbn := sz_bn hb
  subst hbn
  subst e1
  subst e0
  have E0 : sx_ev [] [x0, x1] = 0 := by simp [sx_ev, sx_dot] <;> omega
  have E1 : sx_ev [0, 1] [x0, x1] = x0 := by simp [sx_ev, sx_dot] <;> omega
  have E2 : sx_ev [0, 0, 1] [x0, x1] = x1 := by simp [sx_ev, sx_dot] <;> omega
  have g0 := hG (183, [], [0, 1], [0, 0, 1]) List.mem_cons_self
  dsimp only at g0
  rw [E0, E1, E2] at g0
  have hw := sz_w0 hw
  rw [hw]
  have hz := zs_us_mk (hh := hh) l0 u0 l1 u1 g0
  refine ⟨fun f hf => ?_, fun q hq => ?_⟩
  · cases hf
  · obtain rfl := List.mem_singleton.mp hq
    show sz_pr 30 [sx_ev [0, 1] [x0, x1]] _
    rw [E1]
    exact hz
theorem sz_k117 : sx_Rk sz_pr sz_u117 := by
  intro r hh hh' hb hF hG hP hw
  obtain ⟨x0, r0, e0, l0, u0, hb⟩ := sz_bc hb
  obtain ⟨x1, r1, e1, l1, u1, hb⟩ := sz_bc hb
  obtain ⟨x2, r2, e2, l2, u2, hb⟩ := sz_bc hb
  have hbn := sz_bn hb
  subst hbn
  subst e2
  subst e1
  subst e0
  have E0 : sx_ev [0, 1] [x0, x1, x2] = x0 := by simp [sx_ev, sx_dot] <;> omega
  have E1 : sx_ev [] [x0, x1, x2] = 0 := by simp [sx_ev, sx_dot] <;> omega
  have E2 : sx_ev [0, 0, 1] [x0, x1, x2] = x1 := by simp [sx_ev, sx_dot] <;> omega
  have E3 : sx_ev [0, 0, 0, 1] [x0, x1, x2] = x2 := by simp [sx_ev, sx_dot] <;> omega
  have p0 := hP (30, [[0, 1]]) List.mem_cons_self
  have p0 : sz_pr 30 [sx_ev [0, 1] [x0, x1, x2]] hh := p0
  rw [E0] at p0
  have hu := sz_w1 hw
  rw [E1, E2, E3] at hu
  have hz := zs_us_w (hh := hh) (hh' := hh') l0 u0 l1 u1 l2 u2 p0 (fun c g => by rw [hu]; simp)
  refine ⟨fun f hf => ?_, fun q hq => ?_⟩
  · cases hf
  · obtain rfl := List.mem_singleton.mp hq
    show sz_pr 30 [sx_ev [0, 1] [x0, x1, x2]] _
    rw [E0]
    exact hz
theorem sz_k118 : sx_Rk sz_pr sz_u118 := by
  intro r hh hh' hb hF hG hP hw
  obtain ⟨x0, r0, e0, l0, u0, hb⟩ := sz_bc hb
  obtain ⟨x1, r1, e1, l1, u1, hb⟩ := sz_bc hb
  obtain ⟨x2, r2, e2, l2, u2, hb⟩ := sz_bc hb
  have hbn := sz_bn hb
  subst hbn
  subst e2
  subst e1
  subst e0
  have E0 : sx_ev [] [x0, x1, x2] = 0 := by simp [sx_ev, sx_dot] <;> omega
  have E1 : sx_ev [0, 0, 1] [x0, x1, x2] = x1 := by simp [sx_ev, sx_dot] <;> omega
  have E2 : sx_ev [0, 0, 0, 1] [x0, x1, x2] = x2 := by simp [sx_ev, sx_dot] <;> omega
  have E3 : sx_ev [0, 1] [x0, x1, x2] = x0 := by simp [sx_ev, sx_dot] <;> omega
  have g0 := hG (183, [], [0, 0, 1], [0, 0, 0, 1]) List.mem_cons_self
  dsimp only at g0
  rw [E0, E1, E2] at g0
  have p0 := hP (30, [[0, 1]]) List.mem_cons_self
  have p0 : sz_pr 30 [sx_ev [0, 1] [x0, x1, x2]] hh := p0
  rw [E3] at p0
  have hw := sz_w0 hw
  rw [hw]
  have hz := zs_ne_mk (hh := hh) l0 u0 l1 u1 l2 u2 g0 p0
  refine ⟨fun f hf => ?_, fun q hq => ?_⟩
  · cases hf
  · obtain rfl := List.mem_singleton.mp hq
    show sz_pr 31 [sx_ev [0, 1] [x0, x1, x2], sx_ev [0, 0, 1] [x0, x1, x2]] _
    rw [E3, E1]
    exact hz
theorem sz_k119 : sx_Rk sz_pr sz_u119 := by
  intro r hh hh' hb hF hG hP hw
  obtain ⟨x0, r0, e0, l0, u0, hb⟩ := sz_bc hb
  obtain ⟨x1, r1, e1, l1, u1, hb⟩ := sz_bc hb
  obtain ⟨x2, r2, e2, l2, u2, hb⟩ := sz_bc hb
  obtain ⟨x3, r3, e3, l3, u3, hb⟩ := sz_bc hb
  obtain ⟨x4, r4, e4, l4, u4, hb⟩ := sz_bc hb
  have hbn := sz_bn hb
  subst hbn
  subst e4
  subst e3
  subst e2
  subst e1
  subst e0
  have E0 : sx_ev [0, 1] [x0, x1, x2, x3, x4] = x0 := by simp [sx_ev, sx_dot] <;> omega
  have E1 : sx_ev [0, 0, 1] [x0, x1, x2, x3, x4] = x1 := by simp [sx_ev, sx_dot] <;> omega
  have E2 : sx_ev [0, 0, 0, 1] [x0, x1, x2, x3, x4] = x2 := by simp [sx_ev, sx_dot] <;> omega
  have E3 : sx_ev [] [x0, x1, x2, x3, x4] = 0 := by simp [sx_ev, sx_dot] <;> omega
  have E4 : sx_ev [0, 0, 0, 256, 1] [x0, x1, x2, x3, x4] = 256 * x2 + x3 := by simp [sx_ev, sx_dot] <;> omega
  have E5 : sx_ev [0, 0, 0, 0, 0, 1] [x0, x1, x2, x3, x4] = x4 := by simp [sx_ev, sx_dot] <;> omega
  have p0 := hP (29, [[0, 1], [0, 0, 1]]) List.mem_cons_self
  have p0 : sz_pr 29 [sx_ev [0, 1] [x0, x1, x2, x3, x4], sx_ev [0, 0, 1] [x0, x1, x2, x3, x4]] hh := p0
  rw [E0, E1] at p0
  have p1 := hP (31, [[0, 1], [0, 0, 0, 1]]) (List.mem_cons_of_mem _ List.mem_cons_self)
  have p1 : sz_pr 31 [sx_ev [0, 1] [x0, x1, x2, x3, x4], sx_ev [0, 0, 0, 1] [x0, x1, x2, x3, x4]] hh := p1
  rw [E0, E2] at p1
  have hu := sz_w1 hw
  rw [E3, E4, E5] at hu
  have hz := zs_rn_w (hh := hh) (hh' := hh') l0 u0 l1 u1 l2 u2 l3 u3 l4 u4 p0 p1 (fun c g => by rw [hu]; simp)
  refine ⟨fun f hf => ?_, fun q hq => ?_⟩
  · cases hf
  · obtain rfl := List.mem_singleton.mp hq
    show sz_pr 29 [sx_ev [0, 1] [x0, x1, x2, x3, x4], sx_ev [0, 0, 1] [x0, x1, x2, x3, x4]] _
    rw [E0, E1]
    exact hz
theorem sz_k120 : sx_Rk sz_pr sz_u120 := by
  intro r hh hh' hb hF hG hP hw
  have hbn := sz_bn hb
  subst hbn
  have E0 : sx_ev [8] [] = 8 := by simp [sx_ev, sx_dot] <;> omega
  have E1 : sx_ev [] [] = 0 := by simp [sx_ev, sx_dot] <;> omega
  have hw := sz_w0 hw
  rw [hw]
  have hz := zs_rc0 (hh := hh)
  refine ⟨fun f hf => ?_, fun q hq => ?_⟩
  · cases hf
  · obtain rfl := List.mem_singleton.mp hq
    show sz_pr 32 [sx_ev [8] [], sx_ev [] []] _
    rw [E0, E1]
    exact hz
theorem sz_k121 : sx_Rk sz_pr sz_u121 := by
  intro r hh hh' hb hF hG hP hw
  obtain ⟨x0, r0, e0, l0, u0, hb⟩ := sz_bc hb
  obtain ⟨x1, r1, e1, l1, u1, hb⟩ := sz_bc hb
  obtain ⟨x2, r2, e2, l2, u2, hb⟩ := sz_bc hb
  obtain ⟨x3, r3, e3, l3, u3, hb⟩ := sz_bc hb
  have hbn := sz_bn hb
  subst hbn
  subst e3
  subst e2
  subst e1
  subst e0
  have E0 : sx_ev [] [x0, x1, x2, x3] = 0 := by simp [sx_ev, sx_dot] <;> omega
  have E1 : sx_ev [0, 1] [x0, x1, x2, x3] = x0 := by simp [sx_ev, sx_dot] <;> omega
  have E2 : sx_ev [0, 0, 0, 1] [x0, x1, x2, x3] = x2 := by simp [sx_ev, sx_dot] <;> omega
  have E3 : sx_ev [0, 0, 0, 0, 1] [x0, x1, x2, x3] = x3 := by simp [sx_ev, sx_dot] <;> omega
  have E4 : sx_ev [0, 0, 1] [x0, x1, x2, x3] = x1 := by simp [sx_ev, sx_dot] <;> omega
  have E5 : sx_ev [1, 1] [x0, x1, x2, x3] = x0 + 1 := by simp [sx_ev, sx_dot] <;> omega
  have E6 : sx_ev [1, 0, 1] [x0, x1, x2, x3] = x1 + 1 := by simp [sx_ev, sx_dot] <;> omega
  have g0 := hG (102, [], [0, 1], [0, 0, 0, 1]) List.mem_cons_self
  dsimp only at g0
  rw [E0, E1, E2] at g0
  have g1 := hG (103, [], [0, 1], [0, 0, 0, 0, 1]) (List.mem_cons_of_mem _ List.mem_cons_self)
  dsimp only at g1
  rw [E0, E1, E3] at g1
  have p0 := hP (32, [[0, 1], [0, 0, 1]]) List.mem_cons_self
  have p0 : sz_pr 32 [sx_ev [0, 1] [x0, x1, x2, x3], sx_ev [0, 0, 1] [x0, x1, x2, x3]] hh := p0
  rw [E1, E4] at p0
  have hw := sz_w0 hw
  rw [hw]
  have hz := zs_rc_1 (hh := hh) l0 u0 l1 u1 l2 u2 l3 u3 g0 g1 p0
  refine ⟨fun f hf => ?_, fun q hq => ?_⟩
  · cases hf
  · obtain rfl := List.mem_singleton.mp hq
    show sz_pr 32 [sx_ev [1, 1] [x0, x1, x2, x3], sx_ev [1, 0, 1] [x0, x1, x2, x3]] _
    rw [E5, E6]
    exact hz
theorem sz_k122 : sx_Rk sz_pr sz_u122 := by
  intro r hh hh' hb hF hG hP hw
  obtain ⟨x0, r0, e0, l0, u0, hb⟩ := sz_bc hb
  obtain ⟨x1, r1, e1, l1, u1, hb⟩ := sz_bc hb
  obtain ⟨x2, r2, e2, l2, u2, hb⟩ := sz_bc hb
  have hbn := sz_bn hb
  subst hbn
  subst e2
  subst e1
  subst e0
  have E0 : sx_ev [] [x0, x1, x2] = 0 := by simp [sx_ev, sx_dot] <;> omega
  have E1 : sx_ev [0, 1] [x0, x1, x2] = x0 := by simp [sx_ev, sx_dot] <;> omega
  have E2 : sx_ev [0, 0, 0, 1] [x0, x1, x2] = x2 := by simp [sx_ev, sx_dot] <;> omega
  have E3 : sx_ev [0, 0, 1] [x0, x1, x2] = x1 := by simp [sx_ev, sx_dot] <;> omega
  have E4 : sx_ev [1, 1] [x0, x1, x2] = x0 + 1 := by simp [sx_ev, sx_dot] <;> omega
  have g0 := hG (102, [], [0, 1], [0, 0, 0, 1]) List.mem_cons_self
  dsimp only at g0
  rw [E0, E1, E2] at g0
  have p0 := hP (32, [[0, 1], [0, 0, 1]]) List.mem_cons_self
  have p0 : sz_pr 32 [sx_ev [0, 1] [x0, x1, x2], sx_ev [0, 0, 1] [x0, x1, x2]] hh := p0
  rw [E1, E3] at p0
  have hw := sz_w0 hw
  rw [hw]
  have hz := zs_rc_0 (hh := hh) l0 u0 l1 u1 l2 u2 g0 p0
  refine ⟨fun f hf => ?_, fun q hq => ?_⟩
  · cases hf
  · obtain rfl := List.mem_singleton.mp hq
    show sz_pr 32 [sx_ev [1, 1] [x0, x1, x2], sx_ev [0, 0, 1] [x0, x1, x2]] _
    rw [E4, E3]
    exact hz
theorem sz_k123 : sx_Rk sz_pr sz_u123 := by
  intro r hh hh' hb hF hG hP hw
  obtain ⟨x0, r0, e0, l0, u0, hb⟩ := sz_bc hb
  obtain ⟨x1, r1, e1, l1, u1, hb⟩ := sz_bc hb
  obtain ⟨x2, r2, e2, l2, u2, hb⟩ := sz_bc hb
  have hbn := sz_bn hb
  subst hbn
  subst e2
  subst e1
  subst e0
  have E0 : sx_ev [0, 0, 1, -1] [x0, x1, x2] = x1 - x2 := by simp [sx_ev, sx_dot] <;> omega
  have E1 : sx_ev [0, 1] [x0, x1, x2] = x0 := by simp [sx_ev, sx_dot] <;> omega
  have E2 : sx_ev [0, 0, 1] [x0, x1, x2] = x1 := by simp [sx_ev, sx_dot] <;> omega
  have E3 : sx_ev [24] [x0, x1, x2] = 24 := by simp [sx_ev, sx_dot] <;> omega
  have E4 : sx_ev [0, 0, 0, 1] [x0, x1, x2] = x2 := by simp [sx_ev, sx_dot] <;> omega
  have f0 := hF [0, 0, 1, -1] List.mem_cons_self
  rw [E0] at f0
  have p0 := hP (32, [[0, 1], [0, 0, 1]]) List.mem_cons_self
  have p0 : sz_pr 32 [sx_ev [0, 1] [x0, x1, x2], sx_ev [0, 0, 1] [x0, x1, x2]] hh := p0
  rw [E1, E2] at p0
  have hw := sz_w0 hw
  rw [hw]
  have hz := zs_rc_le (hh := hh) l0 u0 l1 u1 l2 u2 f0 p0
  refine ⟨fun f hf => ?_, fun q hq => ?_⟩
  · cases hf
  · obtain rfl := List.mem_singleton.mp hq
    show sz_pr 32 [sx_ev [24] [x0, x1, x2], sx_ev [0, 0, 0, 1] [x0, x1, x2]] _
    rw [E3, E4]
    exact hz
theorem sz_k124 : sx_Rk sz_pr sz_u124 := by
  intro r hh hh' hb hF hG hP hw
  have hbn := sz_bn hb
  subst hbn
  have E0 : sx_ev [8] [] = 8 := by simp [sx_ev, sx_dot] <;> omega
  have hw := sz_w0 hw
  rw [hw]
  have hz := zs_np0 (hh := hh)
  refine ⟨fun f hf => ?_, fun q hq => ?_⟩
  · cases hf
  · obtain rfl := List.mem_singleton.mp hq
    show sz_pr 33 [sx_ev [8] []] _
    rw [E0]
    exact hz
theorem sz_k125 : sx_Rk sz_pr sz_u125 := by
  intro r hh hh' hb hF hG hP hw
  obtain ⟨x0, r0, e0, l0, u0, hb⟩ := sz_bc hb
  obtain ⟨x1, r1, e1, l1, u1, hb⟩ := sz_bc hb
  have hbn := sz_bn hb
  subst hbn
  subst e1
  subst e0
  have E0 : sx_ev [] [x0, x1] = 0 := by simp [sx_ev, sx_dot] <;> omega
  have E1 : sx_ev [0, 1] [x0, x1] = x0 := by simp [sx_ev, sx_dot] <;> omega
  have E2 : sx_ev [0, 0, 1] [x0, x1] = x1 := by simp [sx_ev, sx_dot] <;> omega
  have E3 : sx_ev [1, 1] [x0, x1] = x0 + 1 := by simp [sx_ev, sx_dot] <;> omega
  have g0 := hG (102, [], [0, 1], [0, 0, 1]) List.mem_cons_self
  dsimp only at g0
  rw [E0, E1, E2] at g0
  have p0 := hP (33, [[0, 1]]) List.mem_cons_self
  have p0 : sz_pr 33 [sx_ev [0, 1] [x0, x1]] hh := p0
  rw [E1] at p0
  have hw := sz_w0 hw
  rw [hw]
  have hz := zs_np_s (hh := hh) l0 u0 l1 u1 g0 p0
  refine ⟨fun f hf => ?_, fun q hq => ?_⟩
  · cases hf
  · obtain rfl := List.mem_singleton.mp hq
    show sz_pr 33 [sx_ev [1, 1] [x0, x1]] _
    rw [E3]
    exact hz
theorem sz_k126 : sx_Rk sz_pr sz_u126 := by
  intro r hh hh' hb hF hG hP hw
  obtain ⟨x0, r0, e0, l0, u0, hb⟩ := sz_bc hb
  obtain ⟨x1, r1, e1, l1, u1, hb⟩ := sz_bc hb
  have hbn := sz_bn hb
  subst hbn
  subst e1
  subst e0
  have E0 : sx_ev [] [x0, x1] = 0 := by simp [sx_ev, sx_dot] <;> omega
  have E1 : sx_ev [0, 1] [x0, x1] = x0 := by simp [sx_ev, sx_dot] <;> omega
  have E2 : sx_ev [0, 0, 1] [x0, x1] = x1 := by simp [sx_ev, sx_dot] <;> omega
  have E3 : sx_ev [1, 1] [x0, x1] = x0 + 1 := by simp [sx_ev, sx_dot] <;> omega
  have g0 := hG (103, [], [0, 1], [0, 0, 1]) List.mem_cons_self
  dsimp only at g0
  rw [E0, E1, E2] at g0
  have p0 := hP (33, [[0, 1]]) List.mem_cons_self
  have p0 : sz_pr 33 [sx_ev [0, 1] [x0, x1]] hh := p0
  rw [E1] at p0
  have hw := sz_w0 hw
  rw [hw]
  have hz := zs_np_o (hh := hh) l0 u0 l1 u1 g0 p0
  refine ⟨fun f hf => ?_, fun q hq => ?_⟩
  · cases hf
  · obtain rfl := List.mem_singleton.mp hq
    show sz_pr 33 [sx_ev [1, 1] [x0, x1]] _
    rw [E3]
    exact hz
theorem sz_k127 : sx_Rk sz_pr sz_u127 := by
  intro r hh hh' hb hF hG hP hw
  obtain ⟨x0, r0, e0, l0, u0, hb⟩ := sz_bc hb
  obtain ⟨x1, r1, e1, l1, u1, hb⟩ := sz_bc hb
  obtain ⟨x2, r2, e2, l2, u2, hb⟩ := sz_bc hb
  have hbn := sz_bn hb
  subst hbn
  subst e2
  subst e1
  subst e0
  have E0 : sx_ev [0, 1] [x0, x1, x2] = x0 := by simp [sx_ev, sx_dot] <;> omega
  have E1 : sx_ev [0, 0, 1] [x0, x1, x2] = x1 := by simp [sx_ev, sx_dot] <;> omega
  have E2 : sx_ev [0, 0, 0, 1] [x0, x1, x2] = x2 := by simp [sx_ev, sx_dot] <;> omega
  have E3 : sx_ev [-1] [x0, x1, x2] = -1 := by simp [sx_ev, sx_dot] <;> omega
  have p0 := hP (33, [[0, 1]]) List.mem_cons_self
  have p0 : sz_pr 33 [sx_ev [0, 1] [x0, x1, x2]] hh := p0
  rw [E0] at p0
  have p1 := hP (32, [[0, 0, 1], [0, 0, 0, 1]]) (List.mem_cons_of_mem _ List.mem_cons_self)
  have p1 : sz_pr 32 [sx_ev [0, 0, 1] [x0, x1, x2], sx_ev [0, 0, 0, 1] [x0, x1, x2]] hh := p1
  rw [E1, E2] at p1
  have hw := sz_w0 hw
  rw [hw]
  have hz := zs_np_u (hh := hh) l0 u0 l1 u1 l2 u2 p0 p1
  refine ⟨fun f hf => ?_, fun q hq => ?_⟩
  · rw [List.mem_singleton.mp hf, E3]
    exact hz
  · cases hq
theorem sz_k128 : sx_Rk sz_pr sz_u128 := by
  intro r hh hh' hb hF hG hP hw
  obtain ⟨x0, r0, e0, l0, u0, hb⟩ := sz_bc hb
  obtain ⟨x1, r1, e1, l1, u1, hb⟩ := sz_bc hb
  obtain ⟨x2, r2, e2, l2, u2, hb⟩ := sz_bc hb
  have hbn := sz_bn hb
  subst hbn
  subst e2
  subst e1
  subst e0
  have E0 : sx_ev [] [x0, x1, x2] = 0 := by simp [sx_ev, sx_dot] <;> omega
  have E1 : sx_ev [0, 1] [x0, x1, x2] = x0 := by simp [sx_ev, sx_dot] <;> omega
  have E2 : sx_ev [0, 0, 1] [x0, x1, x2] = x1 := by simp [sx_ev, sx_dot] <;> omega
  have E3 : sx_ev [0, 0, 0, 1] [x0, x1, x2] = x2 := by simp [sx_ev, sx_dot] <;> omega
  have E4 : sx_ev [24] [x0, x1, x2] = 24 := by simp [sx_ev, sx_dot] <;> omega
  have E5 : sx_ev [1] [x0, x1, x2] = 1 := by simp [sx_ev, sx_dot] <;> omega
  have g0 := hG (102, [], [0, 1], [0, 0, 1]) List.mem_cons_self
  dsimp only at g0
  rw [E0, E1, E2] at g0
  have g1 := hG (103, [], [0, 1], [0, 0, 0, 1]) (List.mem_cons_of_mem _ List.mem_cons_self)
  dsimp only at g1
  rw [E0, E1, E3] at g1
  have hw := sz_w0 hw
  rw [hw]
  have hz := zs_rc_f (hh := hh) l0 u0 l1 u1 l2 u2 g0 g1
  refine ⟨fun f hf => ?_, fun q hq => ?_⟩
  · cases hf
  · obtain rfl := List.mem_singleton.mp hq
    show sz_pr 32 [sx_ev [24] [x0, x1, x2], sx_ev [1] [x0, x1, x2]] _
    rw [E4, E5]
    exact hz
theorem sz_k129 : sx_Rk sz_pr sz_u129 := by
  intro r hh hh' hb hF hG hP hw
  obtain ⟨x0, r0, e0, l0, u0, hb⟩ := sz_bc hb
  obtain ⟨x1, r1, e1, l1, u1, hb⟩ := sz_bc hb
  obtain ⟨x2, r2, e2, l2, u2, hb⟩ := sz_bc hb
  obtain ⟨x3, r3, e3, l3, u3, hb⟩ := sz_bc hb
  have hbn := sz_bn hb
  subst hbn
  subst e3
  subst e2
  subst e1
  subst e0
  have E0 : sx_ev [0, 1] [x0, x1, x2, x3] = x0 := by simp [sx_ev, sx_dot] <;> omega
  have E1 : sx_ev [0, 0, 1] [x0, x1, x2, x3] = x1 := by simp [sx_ev, sx_dot] <;> omega
  have E2 : sx_ev [] [x0, x1, x2, x3] = 0 := by simp [sx_ev, sx_dot] <;> omega
  have E3 : sx_ev [0, 0, 0, 1] [x0, x1, x2, x3] = x2 := by simp [sx_ev, sx_dot] <;> omega
  have E4 : sx_ev [0, 0, 0, 0, 1] [x0, x1, x2, x3] = x3 := by simp [sx_ev, sx_dot] <;> omega
  have E5 : sx_ev [-1, 0, 1] [x0, x1, x2, x3] = x1 - 1 := by simp [sx_ev, sx_dot] <;> omega
  have p0 := hP (32, [[0, 1], [0, 0, 1]]) List.mem_cons_self
  have p0 : sz_pr 32 [sx_ev [0, 1] [x0, x1, x2, x3], sx_ev [0, 0, 1] [x0, x1, x2, x3]] hh := p0
  rw [E0, E1] at p0
  have hu := sz_w1 hw
  rw [E2, E3, E4] at hu
  have hz := zs_rc_w (hh := hh) (hh' := hh') l0 u0 l1 u1 l2 u2 l3 u3 p0 (fun c g => by rw [hu]; exact if_neg (by omega)) (fun c g => by rw [hu]; simp)
  refine ⟨fun f hf => ?_, fun q hq => ?_⟩
  · cases hf
  · obtain rfl := List.mem_singleton.mp hq
    show sz_pr 32 [sx_ev [0, 1] [x0, x1, x2, x3], sx_ev [-1, 0, 1] [x0, x1, x2, x3]] _
    rw [E0, E5]
    exact hz
theorem sz_k130 : sx_Rk sz_pr sz_u130 := by
  intro r hh hh' hb hF hG hP hw
  obtain ⟨x0, r0, e0, l0, u0, hb⟩ := sz_bc hb
  obtain ⟨x1, r1, e1, l1, u1, hb⟩ := sz_bc hb
  obtain ⟨x2, r2, e2, l2, u2, hb⟩ := sz_bc hb
  have hbn := sz_bn hb
  subst hbn
  subst e2
  subst e1
  subst e0
  have E0 : sx_ev [] [x0, x1, x2] = 0 := by simp [sx_ev, sx_dot] <;> omega
  have E1 : sx_ev [0, 1] [x0, x1, x2] = x0 := by simp [sx_ev, sx_dot] <;> omega
  have E2 : sx_ev [0, 0, 1] [x0, x1, x2] = x1 := by simp [sx_ev, sx_dot] <;> omega
  have E3 : sx_ev [0, 4, 1] [x0, x1, x2] = 4 * x0 + x1 := by simp [sx_ev, sx_dot] <;> omega
  have E4 : sx_ev [0, 0, 0, 1] [x0, x1, x2] = x2 := by simp [sx_ev, sx_dot] <;> omega
  have g0 := hG (122, [], [0, 1], [0, 0, 1]) List.mem_cons_self
  dsimp only at g0
  rw [E0, E1, E2] at g0
  have p0 := hP (34, []) List.mem_cons_self
  have p0 : sz_pr 34 [] hh := p0
  have hu := sz_w1 hw
  rw [E0, E3, E4] at hu
  have hz := zs_ls_sp (hh := hh) (hh' := hh') l0 u0 l1 u1 l2 u2 g0 p0 (fun c g => by rw [hu]; exact if_neg (by omega)) (fun c g => by rw [hu]; simp)
  refine ⟨fun f hf => ?_, fun q hq => ?_⟩
  · cases hf
  · obtain rfl := List.mem_singleton.mp hq
    show sz_pr 34 [] _
    exact hz
theorem sz_k131 : sx_Rk sz_pr sz_u131 := by
  intro r hh hh' hb hF hG hP hw
  obtain ⟨x0, r0, e0, l0, u0, hb⟩ := sz_bc hb
  obtain ⟨x1, r1, e1, l1, u1, hb⟩ := sz_bc hb
  have hbn := sz_bn hb
  subst hbn
  subst e1
  subst e0
  have E0 : sx_ev [62, 0, -1] [x0, x1] = -x1 + 62 := by simp [sx_ev, sx_dot] <;> omega
  have E1 : sx_ev [] [x0, x1] = 0 := by simp [sx_ev, sx_dot] <;> omega
  have E2 : sx_ev [0, 1] [x0, x1] = x0 := by simp [sx_ev, sx_dot] <;> omega
  have E3 : sx_ev [0, 0, 1] [x0, x1] = x1 := by simp [sx_ev, sx_dot] <;> omega
  have f0 := hF [62, 0, -1] List.mem_cons_self
  rw [E0] at f0
  have p0 := hP (34, []) List.mem_cons_self
  have p0 : sz_pr 34 [] hh := p0
  have hu := sz_w1 hw
  rw [E1, E2, E3] at hu
  have hz := zs_ls_62 (hh := hh) (hh' := hh') l0 u0 l1 u1 f0 p0 (fun c g => by rw [hu]; exact if_neg (by omega)) (fun c g => by rw [hu]; simp)
  refine ⟨fun f hf => ?_, fun q hq => ?_⟩
  · cases hf
  · obtain rfl := List.mem_singleton.mp hq
    show sz_pr 34 [] _
    exact hz
theorem sz_k132 : sx_Rk sz_pr sz_u132 := by
  intro r hh hh' hb hF hG hP hw
  obtain ⟨x0, r0, e0, l0, u0, hb⟩ := sz_bc hb
  obtain ⟨x1, r1, e1, l1, u1, hb⟩ := sz_bc hb
  obtain ⟨x2, r2, e2, l2, u2, hb⟩ := sz_bc hb
  have hbn := sz_bn hb
  subst hbn
  subst e2
  subst e1
  subst e0
  have E0 : sx_ev [62, 0, 0, -1] [x0, x1, x2] = -x2 + 62 := by simp [sx_ev, sx_dot] <;> omega
  have E1 : sx_ev [] [x0, x1, x2] = 0 := by simp [sx_ev, sx_dot] <;> omega
  have E2 : sx_ev [0, 1] [x0, x1, x2] = x0 := by simp [sx_ev, sx_dot] <;> omega
  have E3 : sx_ev [0, 0, 1] [x0, x1, x2] = x1 := by simp [sx_ev, sx_dot] <;> omega
  have E4 : sx_ev [0, 4, 1] [x0, x1, x2] = 4 * x0 + x1 := by simp [sx_ev, sx_dot] <;> omega
  have E5 : sx_ev [0, 0, 0, 1] [x0, x1, x2] = x2 := by simp [sx_ev, sx_dot] <;> omega
  have E6 : sx_ev [1, 0, 1] [x0, x1, x2] = x1 + 1 := by simp [sx_ev, sx_dot] <;> omega
  have f0 := hF [62, 0, 0, -1] List.mem_cons_self
  rw [E0] at f0
  have g0 := hG (122, [], [0, 1], [0, 0, 1]) List.mem_cons_self
  dsimp only at g0
  rw [E1, E2, E3] at g0
  have g1 := hG (125, [], [0, 4, 1], [0, 0, 0, 1]) (List.mem_cons_of_mem _ List.mem_cons_self)
  dsimp only at g1
  rw [E1, E4, E5] at g1
  have p0 := hP (34, []) List.mem_cons_self
  have p0 : sz_pr 34 [] hh := p0
  have hu := sz_w1 hw
  rw [E1, E2, E6] at hu
  have hz := zs_ls_up (hh := hh) (hh' := hh') l0 u0 l1 u1 l2 u2 f0 g0 g1 p0 (fun c g => by rw [hu]; simp) (fun c g => by rw [hu]; exact if_neg (by omega))
  refine ⟨fun f hf => ?_, fun q hq => ?_⟩
  · cases hf
  · obtain rfl := List.mem_singleton.mp hq
    show sz_pr 34 [] _
    exact hz
theorem sz_k133 : sx_Rk sz_pr sz_u133 := by
  intro r hh hh' hb hF hG hP hw
  obtain ⟨x0, r0, e0, l0, u0, hb⟩ := sz_bc hb
  obtain ⟨x1, r1, e1, l1, u1, hb⟩ := sz_bc hb
  have hbn := sz_bn hb
  subst hbn
  subst e1
  subst e0
  have E0 : sx_ev [] [x0, x1] = 0 := by simp [sx_ev, sx_dot] <;> omega
  have E1 : sx_ev [0, 1] [x0, x1] = x0 := by simp [sx_ev, sx_dot] <;> omega
  have E2 : sx_ev [0, 0, 1] [x0, x1] = x1 := by simp [sx_ev, sx_dot] <;> omega
  have E3 : sx_ev [-1, 0, 1] [x0, x1] = x1 - 1 := by simp [sx_ev, sx_dot] <;> omega
  have g0 := hG (122, [], [0, 1], [0, 0, 1]) List.mem_cons_self
  dsimp only at g0
  rw [E0, E1, E2] at g0
  have p0 := hP (34, []) List.mem_cons_self
  have p0 : sz_pr 34 [] hh := p0
  have hu := sz_w1 hw
  rw [E0, E1, E3] at hu
  have hz := zs_ls_dn (hh := hh) (hh' := hh') l0 u0 l1 u1 g0 p0 (fun c g => by rw [hu]; simp) (fun c g => by rw [hu]; exact if_neg (by omega))
  refine ⟨fun f hf => ?_, fun q hq => ?_⟩
  · cases hf
  · rcases List.mem_cons.mp hq with rfl | hq
    · show sz_pr 34 [] _
      exact hz.1
    obtain rfl := List.mem_singleton.mp hq
    show sz_pr 35 [sx_ev [0, 1] [x0, x1]] _
    rw [E1]
    exact hz.2
theorem sz_k134 : sx_Rk sz_pr sz_u134 := by
  intro r hh hh' hb hF hG hP hw
  obtain ⟨x0, r0, e0, l0, u0, hb⟩ := sz_bc hb
  obtain ⟨x1, r1, e1, l1, u1, hb⟩ := sz_bc hb
  have hbn := sz_bn hb
  subst hbn
  subst e1
  subst e0
  have E0 : sx_ev [] [x0, x1] = 0 := by simp [sx_ev, sx_dot] <;> omega
  have E1 : sx_ev [0, 1] [x0, x1] = x0 := by simp [sx_ev, sx_dot] <;> omega
  have E2 : sx_ev [0, 0, 1] [x0, x1] = x1 := by simp [sx_ev, sx_dot] <;> omega
  have p0 := hP (34, []) List.mem_cons_self
  have p0 : sz_pr 34 [] hh := p0
  have hu := sz_w1 hw
  rw [E0, E1, E2] at hu
  have hz := zs_ls_0 (hh := hh) (hh' := hh') l0 u0 l1 u1 p0 (fun c g => by rw [hu]; simp) (fun c g => by rw [hu]; exact if_neg (by omega))
  refine ⟨fun f hf => ?_, fun q hq => ?_⟩
  · cases hf
  · obtain rfl := List.mem_singleton.mp hq
    show sz_pr 34 [] _
    exact hz
theorem sz_k135 : sx_Rk sz_pr sz_u135 := by
  intro r hh hh' hb hF hG hP hw
  obtain ⟨x0, r0, e0, l0, u0, hb⟩ := sz_bc hb
  obtain ⟨x1, r1, e1, l1, u1, hb⟩ := sz_bc hb
  obtain ⟨x2, r2, e2, l2, u2, hb⟩ := sz_bc hb
  have hbn := sz_bn hb
  subst hbn
  subst e2
  subst e1
  subst e0
  have E0 : sx_ev [] [x0, x1, x2] = 0 := by simp [sx_ev, sx_dot] <;> omega
  have E1 : sx_ev [0, 1] [x0, x1, x2] = x0 := by simp [sx_ev, sx_dot] <;> omega
  have E2 : sx_ev [0, 0, 1] [x0, x1, x2] = x1 := by simp [sx_ev, sx_dot] <;> omega
  have E3 : sx_ev [0, 4, 1] [x0, x1, x2] = 4 * x0 + x1 := by simp [sx_ev, sx_dot] <;> omega
  have E4 : sx_ev [0, 0, 0, 1] [x0, x1, x2] = x2 := by simp [sx_ev, sx_dot] <;> omega
  have E5 : sx_ev [62, 0, 0, -1] [x0, x1, x2] = -x2 + 62 := by simp [sx_ev, sx_dot] <;> omega
  have g0 := hG (122, [], [0, 1], [0, 0, 1]) List.mem_cons_self
  dsimp only at g0
  rw [E0, E1, E2] at g0
  have g1 := hG (125, [], [0, 4, 1], [0, 0, 0, 1]) (List.mem_cons_of_mem _ List.mem_cons_self)
  dsimp only at g1
  rw [E0, E3, E4] at g1
  have p0 := hP (35, [[0, 1]]) List.mem_cons_self
  have p0 : sz_pr 35 [sx_ev [0, 1] [x0, x1, x2]] hh := p0
  rw [E1] at p0
  have hw := sz_w0 hw
  rw [hw]
  have hz := zs_ld_u (hh := hh) l0 u0 l1 u1 l2 u2 g0 g1 p0
  refine ⟨fun f hf => ?_, fun q hq => ?_⟩
  · rw [List.mem_singleton.mp hf, E5]
    exact hz
  · cases hq
theorem sz_k136 : sx_Rk sz_pr sz_u136 := by
  intro r hh hh' hb hF hG hP hw
  obtain ⟨x0, r0, e0, l0, u0, hb⟩ := sz_bc hb
  obtain ⟨x1, r1, e1, l1, u1, hb⟩ := sz_bc hb
  obtain ⟨x2, r2, e2, l2, u2, hb⟩ := sz_bc hb
  obtain ⟨x3, r3, e3, l3, u3, hb⟩ := sz_bc hb
  have hbn := sz_bn hb
  subst hbn
  subst e3
  subst e2
  subst e1
  subst e0
  have E0 : sx_ev [] [x0, x1, x2, x3] = 0 := by simp [sx_ev, sx_dot] <;> omega
  have E1 : sx_ev [0, 1] [x0, x1, x2, x3] = x0 := by simp [sx_ev, sx_dot] <;> omega
  have E2 : sx_ev [0, 0, 0, 0, 1] [x0, x1, x2, x3] = x3 := by simp [sx_ev, sx_dot] <;> omega
  have E3 : sx_ev [0, 4, 1] [x0, x1, x2, x3] = 4 * x0 + x1 := by simp [sx_ev, sx_dot] <;> omega
  have E4 : sx_ev [0, 0, 0, 1] [x0, x1, x2, x3] = x2 := by simp [sx_ev, sx_dot] <;> omega
  have g0 := hG (119, [], [0, 1], [0, 0, 0, 0, 1]) List.mem_cons_self
  dsimp only at g0
  rw [E0, E1, E2] at g0
  have p0 := hP (36, []) List.mem_cons_self
  have p0 : sz_pr 36 [] hh := p0
  have hu := sz_w1 hw
  rw [E0, E3, E4] at hu
  have hz := zs_pr_so (hh := hh) (hh' := hh') l0 u0 l1 u1 l2 u2 l3 u3 g0 p0 (fun c g => by rw [hu]; exact if_neg (by omega)) (fun c g => by rw [hu]; simp) (fun c g => by rw [hu]; exact if_neg (by omega)) (fun c g => by rw [hu]; exact if_neg (by omega))
  refine ⟨fun f hf => ?_, fun q hq => ?_⟩
  · cases hf
  · obtain rfl := List.mem_singleton.mp hq
    show sz_pr 36 [] _
    exact hz
theorem sz_k137 : sx_Rk sz_pr sz_u137 := by
  intro r hh hh' hb hF hG hP hw
  obtain ⟨x0, r0, e0, l0, u0, hb⟩ := sz_bc hb
  obtain ⟨x1, r1, e1, l1, u1, hb⟩ := sz_bc hb
  obtain ⟨x2, r2, e2, l2, u2, hb⟩ := sz_bc hb
  have hbn := sz_bn hb
  subst hbn
  subst e2
  subst e1
  subst e0
  have E0 : sx_ev [0, 1] [x0, x1, x2] = x0 := by simp [sx_ev, sx_dot] <;> omega
  have E1 : sx_ev [0, 0, 1] [x0, x1, x2] = x1 := by simp [sx_ev, sx_dot] <;> omega
  have E2 : sx_ev [] [x0, x1, x2] = 0 := by simp [sx_ev, sx_dot] <;> omega
  have E3 : sx_ev [0, 4, 1] [x0, x1, x2] = 4 * x0 + x1 := by simp [sx_ev, sx_dot] <;> omega
  have E4 : sx_ev [0, 0, 0, 1] [x0, x1, x2] = x2 := by simp [sx_ev, sx_dot] <;> omega
  have p0 := hP (37, [[0, 1], [0, 0, 1]]) List.mem_cons_self
  have p0 : sz_pr 37 [sx_ev [0, 1] [x0, x1, x2], sx_ev [0, 0, 1] [x0, x1, x2]] hh := p0
  rw [E0, E1] at p0
  have hu := sz_w1 hw
  rw [E2, E3, E4] at hu
  have hz := zs_pv_so (hh := hh) (hh' := hh') l0 u0 l1 u1 l2 u2 p0 (fun c g => by rw [hu]; simp) (fun c g => by rw [hu]; exact if_neg (by omega)) (fun c g => by rw [hu]; exact if_neg (by omega))
  refine ⟨fun f hf => ?_, fun q hq => ?_⟩
  · cases hf
  · obtain rfl := List.mem_singleton.mp hq
    show sz_pr 37 [sx_ev [0, 1] [x0, x1, x2], sx_ev [0, 0, 1] [x0, x1, x2]] _
    rw [E0, E1]
    exact hz
theorem sz_k138 : sx_Rk sz_pr sz_u138 := by
  intro r hh hh' hb hF hG hP hw
  obtain ⟨x0, r0, e0, l0, u0, hb⟩ := sz_bc hb
  obtain ⟨x1, r1, e1, l1, u1, hb⟩ := sz_bc hb
  obtain ⟨x2, r2, e2, l2, u2, hb⟩ := sz_bc hb
  obtain ⟨x3, r3, e3, l3, u3, hb⟩ := sz_bc hb
  have hbn := sz_bn hb
  subst hbn
  subst e3
  subst e2
  subst e1
  subst e0
  have E0 : sx_ev [] [x0, x1, x2, x3] = 0 := by simp [sx_ev, sx_dot] <;> omega
  have E1 : sx_ev [0, 1] [x0, x1, x2, x3] = x0 := by simp [sx_ev, sx_dot] <;> omega
  have E2 : sx_ev [0, 0, 0, 0, 1] [x0, x1, x2, x3] = x3 := by simp [sx_ev, sx_dot] <;> omega
  have E3 : sx_ev [0, 4, 1] [x0, x1, x2, x3] = 4 * x0 + x1 := by simp [sx_ev, sx_dot] <;> omega
  have E4 : sx_ev [0, 0, 0, 1] [x0, x1, x2, x3] = x2 := by simp [sx_ev, sx_dot] <;> omega
  have g0 := hG (119, [], [0, 1], [0, 0, 0, 0, 1]) List.mem_cons_self
  dsimp only at g0
  rw [E0, E1, E2] at g0
  have p0 := hP (36, []) List.mem_cons_self
  have p0 : sz_pr 36 [] hh := p0
  have hu := sz_w1 hw
  rw [E0, E3, E4] at hu
  have hz := zs_pr_tw (hh := hh) (hh' := hh') l0 u0 l1 u1 l2 u2 l3 u3 g0 p0 (fun c g => by rw [hu]; exact if_neg (by omega)) (fun c g => by rw [hu]; exact if_neg (by omega)) (fun c g => by rw [hu]; simp) (fun c g => by rw [hu]; exact if_neg (by omega))
  refine ⟨fun f hf => ?_, fun q hq => ?_⟩
  · cases hf
  · obtain rfl := List.mem_singleton.mp hq
    show sz_pr 36 [] _
    exact hz
theorem sz_k139 : sx_Rk sz_pr sz_u139 := by
  intro r hh hh' hb hF hG hP hw
  obtain ⟨x0, r0, e0, l0, u0, hb⟩ := sz_bc hb
  obtain ⟨x1, r1, e1, l1, u1, hb⟩ := sz_bc hb
  obtain ⟨x2, r2, e2, l2, u2, hb⟩ := sz_bc hb
  have hbn := sz_bn hb
  subst hbn
  subst e2
  subst e1
  subst e0
  have E0 : sx_ev [0, 1] [x0, x1, x2] = x0 := by simp [sx_ev, sx_dot] <;> omega
  have E1 : sx_ev [0, 0, 1] [x0, x1, x2] = x1 := by simp [sx_ev, sx_dot] <;> omega
  have E2 : sx_ev [] [x0, x1, x2] = 0 := by simp [sx_ev, sx_dot] <;> omega
  have E3 : sx_ev [0, 4, 1] [x0, x1, x2] = 4 * x0 + x1 := by simp [sx_ev, sx_dot] <;> omega
  have E4 : sx_ev [0, 0, 0, 1] [x0, x1, x2] = x2 := by simp [sx_ev, sx_dot] <;> omega
  have p0 := hP (37, [[0, 1], [0, 0, 1]]) List.mem_cons_self
  have p0 : sz_pr 37 [sx_ev [0, 1] [x0, x1, x2], sx_ev [0, 0, 1] [x0, x1, x2]] hh := p0
  rw [E0, E1] at p0
  have hu := sz_w1 hw
  rw [E2, E3, E4] at hu
  have hz := zs_pv_tw (hh := hh) (hh' := hh') l0 u0 l1 u1 l2 u2 p0 (fun c g => by rw [hu]; exact if_neg (by omega)) (fun c g => by rw [hu]; simp) (fun c g => by rw [hu]; exact if_neg (by omega))
  refine ⟨fun f hf => ?_, fun q hq => ?_⟩
  · cases hf
  · obtain rfl := List.mem_singleton.mp hq
    show sz_pr 37 [sx_ev [0, 1] [x0, x1, x2], sx_ev [0, 0, 1] [x0, x1, x2]] _
    rw [E0, E1]
    exact hz
theorem sz_k140 : sx_Rk sz_pr sz_u140 := by
  intro r hh hh' hb hF hG hP hw
  obtain ⟨x0, r0, e0, l0, u0, hb⟩ := sz_bc hb
  obtain ⟨x1, r1, e1, l1, u1, hb⟩ := sz_bc hb
  obtain ⟨x2, r2, e2, l2, u2, hb⟩ := sz_bc hb
  obtain ⟨x3, r3, e3, l3, u3, hb⟩ := sz_bc hb
  have hbn := sz_bn hb
  subst hbn
  subst e3
  subst e2
  subst e1
  subst e0
  have E0 : sx_ev [] [x0, x1, x2, x3] = 0 := by simp [sx_ev, sx_dot] <;> omega
  have E1 : sx_ev [0, 1] [x0, x1, x2, x3] = x0 := by simp [sx_ev, sx_dot] <;> omega
  have E2 : sx_ev [0, 0, 0, 0, 1] [x0, x1, x2, x3] = x3 := by simp [sx_ev, sx_dot] <;> omega
  have E3 : sx_ev [0, 4, 1] [x0, x1, x2, x3] = 4 * x0 + x1 := by simp [sx_ev, sx_dot] <;> omega
  have E4 : sx_ev [0, 0, 0, 1] [x0, x1, x2, x3] = x2 := by simp [sx_ev, sx_dot] <;> omega
  have g0 := hG (119, [], [0, 1], [0, 0, 0, 0, 1]) List.mem_cons_self
  dsimp only at g0
  rw [E0, E1, E2] at g0
  have p0 := hP (36, []) List.mem_cons_self
  have p0 : sz_pr 36 [] hh := p0
  have hu := sz_w1 hw
  rw [E0, E3, E4] at hu
  have hz := zs_pr_at (hh := hh) (hh' := hh') l0 u0 l1 u1 l2 u2 l3 u3 g0 p0 (fun c g => by rw [hu]; exact if_neg (by omega)) (fun c g => by rw [hu]; exact if_neg (by omega)) (fun c g => by rw [hu]; exact if_neg (by omega)) (fun c g => by rw [hu]; simp)
  refine ⟨fun f hf => ?_, fun q hq => ?_⟩
  · cases hf
  · obtain rfl := List.mem_singleton.mp hq
    show sz_pr 36 [] _
    exact hz
theorem sz_k141 : sx_Rk sz_pr sz_u141 := by
  intro r hh hh' hb hF hG hP hw
  obtain ⟨x0, r0, e0, l0, u0, hb⟩ := sz_bc hb
  obtain ⟨x1, r1, e1, l1, u1, hb⟩ := sz_bc hb
  obtain ⟨x2, r2, e2, l2, u2, hb⟩ := sz_bc hb
  have hbn := sz_bn hb
  subst hbn
  subst e2
  subst e1
  subst e0
  have E0 : sx_ev [0, 1] [x0, x1, x2] = x0 := by simp [sx_ev, sx_dot] <;> omega
  have E1 : sx_ev [0, 0, 1] [x0, x1, x2] = x1 := by simp [sx_ev, sx_dot] <;> omega
  have E2 : sx_ev [] [x0, x1, x2] = 0 := by simp [sx_ev, sx_dot] <;> omega
  have E3 : sx_ev [0, 4, 1] [x0, x1, x2] = 4 * x0 + x1 := by simp [sx_ev, sx_dot] <;> omega
  have E4 : sx_ev [0, 0, 0, 1] [x0, x1, x2] = x2 := by simp [sx_ev, sx_dot] <;> omega
  have p0 := hP (37, [[0, 1], [0, 0, 1]]) List.mem_cons_self
  have p0 : sz_pr 37 [sx_ev [0, 1] [x0, x1, x2], sx_ev [0, 0, 1] [x0, x1, x2]] hh := p0
  rw [E0, E1] at p0
  have hu := sz_w1 hw
  rw [E2, E3, E4] at hu
  have hz := zs_pv_at (hh := hh) (hh' := hh') l0 u0 l1 u1 l2 u2 p0 (fun c g => by rw [hu]; exact if_neg (by omega)) (fun c g => by rw [hu]; exact if_neg (by omega)) (fun c g => by rw [hu]; simp)
  refine ⟨fun f hf => ?_, fun q hq => ?_⟩
  · cases hf
  · obtain rfl := List.mem_singleton.mp hq
    show sz_pr 37 [sx_ev [0, 1] [x0, x1, x2], sx_ev [0, 0, 1] [x0, x1, x2]] _
    rw [E0, E1]
    exact hz
theorem sz_k142 : sx_Rk sz_pr sz_u142 := by
  intro r hh hh' hb hF hG hP hw
  obtain ⟨x0, r0, e0, l0, u0, hb⟩ := sz_bc hb
  have hbn := sz_bn hb
  subst hbn
  subst e0
  have E0 : sx_ev [0, 1] [x0] = x0 := by simp [sx_ev, sx_dot] <;> omega
  have E1 : sx_ev [] [x0] = 0 := by simp [sx_ev, sx_dot] <;> omega
  have hw := sz_w0 hw
  rw [hw]
  have hz := zs_pv0 (hh := hh) l0 u0
  refine ⟨fun f hf => ?_, fun q hq => ?_⟩
  · cases hf
  · obtain rfl := List.mem_singleton.mp hq
    show sz_pr 37 [sx_ev [0, 1] [x0], sx_ev [] [x0]] _
    rw [E0, E1]
    exact hz
theorem sz_k143 : sx_Rk sz_pr sz_u143 := by
  intro r hh hh' hb hF hG hP hw
  obtain ⟨x0, r0, e0, l0, u0, hb⟩ := sz_bc hb
  obtain ⟨x1, r1, e1, l1, u1, hb⟩ := sz_bc hb
  obtain ⟨x2, r2, e2, l2, u2, hb⟩ := sz_bc hb
  have hbn := sz_bn hb
  subst hbn
  subst e2
  subst e1
  subst e0
  have E0 : sx_ev [3, 0, 0, -1] [x0, x1, x2] = -x2 + 3 := by simp [sx_ev, sx_dot] <;> omega
  have E1 : sx_ev [] [x0, x1, x2] = 0 := by simp [sx_ev, sx_dot] <;> omega
  have E2 : sx_ev [0, 4, 1] [x0, x1, x2] = 4 * x0 + x1 := by simp [sx_ev, sx_dot] <;> omega
  have E3 : sx_ev [0, 0, 0, 1] [x0, x1, x2] = x2 := by simp [sx_ev, sx_dot] <;> omega
  have E4 : sx_ev [0, 1] [x0, x1, x2] = x0 := by simp [sx_ev, sx_dot] <;> omega
  have E5 : sx_ev [0, 0, 1] [x0, x1, x2] = x1 := by simp [sx_ev, sx_dot] <;> omega
  have E6 : sx_ev [1, 0, 1] [x0, x1, x2] = x1 + 1 := by simp [sx_ev, sx_dot] <;> omega
  have f0 := hF [3, 0, 0, -1] List.mem_cons_self
  rw [E0] at f0
  have g0 := hG (129, [], [0, 4, 1], [0, 0, 0, 1]) List.mem_cons_self
  dsimp only at g0
  rw [E1, E2, E3] at g0
  have p0 := hP (37, [[0, 1], [0, 0, 1]]) List.mem_cons_self
  have p0 : sz_pr 37 [sx_ev [0, 1] [x0, x1, x2], sx_ev [0, 0, 1] [x0, x1, x2]] hh := p0
  rw [E4, E5] at p0
  have hw := sz_w0 hw
  rw [hw]
  have hz := zs_pv_n1 (hh := hh) l0 u0 l1 u1 l2 u2 f0 g0 p0
  refine ⟨fun f hf => ?_, fun q hq => ?_⟩
  · cases hf
  · obtain rfl := List.mem_singleton.mp hq
    show sz_pr 37 [sx_ev [0, 1] [x0, x1, x2], sx_ev [1, 0, 1] [x0, x1, x2]] _
    rw [E4, E6]
    exact hz
theorem sz_k144 : sx_Rk sz_pr sz_u144 := by
  intro r hh hh' hb hF hG hP hw
  obtain ⟨x0, r0, e0, l0, u0, hb⟩ := sz_bc hb
  obtain ⟨x1, r1, e1, l1, u1, hb⟩ := sz_bc hb
  obtain ⟨x2, r2, e2, l2, u2, hb⟩ := sz_bc hb
  have hbn := sz_bn hb
  subst hbn
  subst e2
  subst e1
  subst e0
  have E0 : sx_ev [] [x0, x1, x2] = 0 := by simp [sx_ev, sx_dot] <;> omega
  have E1 : sx_ev [0, 4, 1] [x0, x1, x2] = 4 * x0 + x1 := by simp [sx_ev, sx_dot] <;> omega
  have E2 : sx_ev [0, 0, 0, 1] [x0, x1, x2] = x2 := by simp [sx_ev, sx_dot] <;> omega
  have E3 : sx_ev [0, 1] [x0, x1, x2] = x0 := by simp [sx_ev, sx_dot] <;> omega
  have E4 : sx_ev [0, 0, 1] [x0, x1, x2] = x1 := by simp [sx_ev, sx_dot] <;> omega
  have E5 : sx_ev [1, 0, 1] [x0, x1, x2] = x1 + 1 := by simp [sx_ev, sx_dot] <;> omega
  have g0 := hG (131, [], [0, 4, 1], [0, 0, 0, 1]) List.mem_cons_self
  dsimp only at g0
  rw [E0, E1, E2] at g0
  have p0 := hP (37, [[0, 1], [0, 0, 1]]) List.mem_cons_self
  have p0 : sz_pr 37 [sx_ev [0, 1] [x0, x1, x2], sx_ev [0, 0, 1] [x0, x1, x2]] hh := p0
  rw [E3, E4] at p0
  have hw := sz_w0 hw
  rw [hw]
  have hz := zs_pv_n2 (hh := hh) l0 u0 l1 u1 l2 u2 g0 p0
  refine ⟨fun f hf => ?_, fun q hq => ?_⟩
  · cases hf
  · obtain rfl := List.mem_singleton.mp hq
    show sz_pr 37 [sx_ev [0, 1] [x0, x1, x2], sx_ev [1, 0, 1] [x0, x1, x2]] _
    rw [E3, E5]
    exact hz
theorem sz_k145 : sx_Rk sz_pr sz_u145 := by
  intro r hh hh' hb hF hG hP hw
  obtain ⟨x0, r0, e0, l0, u0, hb⟩ := sz_bc hb
  obtain ⟨x1, r1, e1, l1, u1, hb⟩ := sz_bc hb
  obtain ⟨x2, r2, e2, l2, u2, hb⟩ := sz_bc hb
  obtain ⟨x3, r3, e3, l3, u3, hb⟩ := sz_bc hb
  have hbn := sz_bn hb
  subst hbn
  subst e3
  subst e2
  subst e1
  subst e0
  have E0 : sx_ev [0, 0, 0, 0, 1] [x0, x1, x2, x3] = x3 := by simp [sx_ev, sx_dot] <;> omega
  have E1 : sx_ev [8192, 0, 0, -1, -1] [x0, x1, x2, x3] = -x2 - x3 + 8192 := by simp [sx_ev, sx_dot] <;> omega
  have E2 : sx_ev [] [x0, x1, x2, x3] = 0 := by simp [sx_ev, sx_dot] <;> omega
  have E3 : sx_ev [0, 4, 1] [x0, x1, x2, x3] = 4 * x0 + x1 := by simp [sx_ev, sx_dot] <;> omega
  have E4 : sx_ev [0, 0, 0, 1] [x0, x1, x2, x3] = x2 := by simp [sx_ev, sx_dot] <;> omega
  have E5 : sx_ev [0, 1] [x0, x1, x2, x3] = x0 := by simp [sx_ev, sx_dot] <;> omega
  have E6 : sx_ev [0, 0, 1] [x0, x1, x2, x3] = x1 := by simp [sx_ev, sx_dot] <;> omega
  have E7 : sx_ev [1, 0, 1] [x0, x1, x2, x3] = x1 + 1 := by simp [sx_ev, sx_dot] <;> omega
  have f0 := hF [0, 0, 0, 0, 1] List.mem_cons_self
  rw [E0] at f0
  have f1 := hF [8192, 0, 0, -1, -1] (List.mem_cons_of_mem _ List.mem_cons_self)
  rw [E1] at f1
  have g0 := hG (131, [], [0, 4, 1], [0, 0, 0, 1]) List.mem_cons_self
  dsimp only at g0
  rw [E2, E3, E4] at g0
  have g1 := hG (132, [], [0, 4, 1], [0, 0, 0, 0, 1]) (List.mem_cons_of_mem _ List.mem_cons_self)
  dsimp only at g1
  rw [E2, E3, E0] at g1
  have p0 := hP (37, [[0, 1], [0, 0, 1]]) List.mem_cons_self
  have p0 : sz_pr 37 [sx_ev [0, 1] [x0, x1, x2, x3], sx_ev [0, 0, 1] [x0, x1, x2, x3]] hh := p0
  rw [E5, E6] at p0
  have hw := sz_w0 hw
  rw [hw]
  have hz := zs_pv_n3 (hh := hh) l0 u0 l1 u1 l2 u2 l3 u3 f0 f1 g0 g1 p0
  refine ⟨fun f hf => ?_, fun q hq => ?_⟩
  · cases hf
  · obtain rfl := List.mem_singleton.mp hq
    show sz_pr 37 [sx_ev [0, 1] [x0, x1, x2, x3], sx_ev [1, 0, 1] [x0, x1, x2, x3]] _
    rw [E5, E7]
    exact hz
theorem sz_k146 : sx_Rk sz_pr sz_u146 := by
  intro r hh hh' hb hF hG hP hw
  obtain ⟨x0, r0, e0, l0, u0, hb⟩ := sz_bc hb
  obtain ⟨x1, r1, e1, l1, u1, hb⟩ := sz_bc hb
  have hbn := sz_bn hb
  subst hbn
  subst e1
  subst e0
  have E0 : sx_ev [0, 1] [x0, x1] = x0 := by simp [sx_ev, sx_dot] <;> omega
  have E1 : sx_ev [0, 0, 1] [x0, x1] = x1 := by simp [sx_ev, sx_dot] <;> omega
  have E2 : sx_ev [4] [x0, x1] = 4 := by simp [sx_ev, sx_dot] <;> omega
  have p0 := hP (37, [[0, 1], [0, 0, 1]]) List.mem_cons_self
  have p0 : sz_pr 37 [sx_ev [0, 1] [x0, x1], sx_ev [0, 0, 1] [x0, x1]] hh := p0
  rw [E0, E1] at p0
  have hw := sz_w0 hw
  rw [hw]
  have hz := zs_pv_4 (hh := hh) l0 u0 l1 u1 p0
  refine ⟨fun f hf => ?_, fun q hq => ?_⟩
  · cases hf
  · obtain rfl := List.mem_singleton.mp hq
    show sz_pr 37 [sx_ev [0, 1] [x0, x1], sx_ev [4] [x0, x1]] _
    rw [E0, E2]
    exact hz
theorem sz_k147 : sx_Rk sz_pr sz_u147 := by
  intro r hh hh' hb hF hG hP hw
  obtain ⟨x0, r0, e0, l0, u0, hb⟩ := sz_bc hb
  obtain ⟨x1, r1, e1, l1, u1, hb⟩ := sz_bc hb
  obtain ⟨x2, r2, e2, l2, u2, hb⟩ := sz_bc hb
  have hbn := sz_bn hb
  subst hbn
  subst e2
  subst e1
  subst e0
  have E0 : sx_ev [0, 1] [x0, x1, x2] = x0 := by simp [sx_ev, sx_dot] <;> omega
  have E1 : sx_ev [4] [x0, x1, x2] = 4 := by simp [sx_ev, sx_dot] <;> omega
  have E2 : sx_ev [] [x0, x1, x2] = 0 := by simp [sx_ev, sx_dot] <;> omega
  have E3 : sx_ev [0, 0, 1] [x0, x1, x2] = x1 := by simp [sx_ev, sx_dot] <;> omega
  have E4 : sx_ev [0, 0, 0, 1] [x0, x1, x2] = x2 := by simp [sx_ev, sx_dot] <;> omega
  have p0 := hP (37, [[0, 1], [4]]) List.mem_cons_self
  have p0 : sz_pr 37 [sx_ev [0, 1] [x0, x1, x2], sx_ev [4] [x0, x1, x2]] hh := p0
  rw [E0, E1] at p0
  have hu := sz_w1 hw
  rw [E2, E3, E4] at hu
  have hz := zs_pv_w0 (hh := hh) (hh' := hh') l0 u0 l1 u1 l2 u2 p0 (fun c g => by rw [hu]; exact if_neg (by omega)) (fun c g => by rw [hu]; simp) (fun c g => by rw [hu]; exact if_neg (by omega))
  refine ⟨fun f hf => ?_, fun q hq => ?_⟩
  · cases hf
  · obtain rfl := List.mem_singleton.mp hq
    show sz_pr 37 [sx_ev [0, 1] [x0, x1, x2], sx_ev [4] [x0, x1, x2]] _
    rw [E0, E1]
    exact hz
theorem sz_k148 : sx_Rk sz_pr sz_u148 := by
  intro r hh hh' hb hF hG hP hw
  obtain ⟨x0, r0, e0, l0, u0, hb⟩ := sz_bc hb
  obtain ⟨x1, r1, e1, l1, u1, hb⟩ := sz_bc hb
  have hbn := sz_bn hb
  subst hbn
  subst e1
  subst e0
  have E0 : sx_ev [0, 1] [x0, x1] = x0 := by simp [sx_ev, sx_dot] <;> omega
  have E1 : sx_ev [4] [x0, x1] = 4 := by simp [sx_ev, sx_dot] <;> omega
  have E2 : sx_ev [] [x0, x1] = 0 := by simp [sx_ev, sx_dot] <;> omega
  have E3 : sx_ev [0, 0, 1] [x0, x1] = x1 := by simp [sx_ev, sx_dot] <;> omega
  have p0 := hP (36, []) List.mem_cons_self
  have p0 : sz_pr 36 [] hh := p0
  have p1 := hP (37, [[0, 1], [4]]) (List.mem_cons_of_mem _ List.mem_cons_self)
  have p1 : sz_pr 37 [sx_ev [0, 1] [x0, x1], sx_ev [4] [x0, x1]] hh := p1
  rw [E0, E1] at p1
  have hu := sz_w1 hw
  rw [E2, E0, E3] at hu
  have hz := zs_pr_m1 (hh := hh) (hh' := hh') l0 u0 l1 u1 p0 p1 (fun c g => by rw [hu]; simp) (fun c g => by rw [hu]; exact if_neg (by omega)) (fun c g => by rw [hu]; exact if_neg (by omega)) (fun c g => by rw [hu]; exact if_neg (by omega))
  refine ⟨fun f hf => ?_, fun q hq => ?_⟩
  · cases hf
  · obtain rfl := List.mem_singleton.mp hq
    show sz_pr 36 [] _
    exact hz
theorem sz_k149 : sx_Rk sz_pr sz_u149 := by
  intro r hh hh' hb hF hG hP hw
  obtain ⟨x0, r0, e0, l0, u0, hb⟩ := sz_bc hb
  obtain ⟨x1, r1, e1, l1, u1, hb⟩ := sz_bc hb
  have hbn := sz_bn hb
  subst hbn
  subst e1
  subst e0
  have E0 : sx_ev [] [x0, x1] = 0 := by simp [sx_ev, sx_dot] <;> omega
  have E1 : sx_ev [0, 1] [x0, x1] = x0 := by simp [sx_ev, sx_dot] <;> omega
  have E2 : sx_ev [0, 0, 1] [x0, x1] = x1 := by simp [sx_ev, sx_dot] <;> omega
  have p0 := hP (36, []) List.mem_cons_self
  have p0 : sz_pr 36 [] hh := p0
  have hu := sz_w1 hw
  rw [E0, E1, E2] at hu
  have hz := zs_pr_m0 (hh := hh) (hh' := hh') l0 u0 l1 u1 p0 (fun c g => by rw [hu]; simp) (fun c g => by rw [hu]; exact if_neg (by omega)) (fun c g => by rw [hu]; exact if_neg (by omega)) (fun c g => by rw [hu]; exact if_neg (by omega))
  refine ⟨fun f hf => ?_, fun q hq => ?_⟩
  · cases hf
  · obtain rfl := List.mem_singleton.mp hq
    show sz_pr 36 [] _
    exact hz
theorem sz_k150 : sx_Rk sz_pr sz_u150 := by
  intro r hh hh' hb hF hG hP hw
  obtain ⟨x0, r0, e0, l0, u0, hb⟩ := sz_bc hb
  obtain ⟨x1, r1, e1, l1, u1, hb⟩ := sz_bc hb
  have hbn := sz_bn hb
  subst hbn
  subst e1
  subst e0
  have E0 : sx_ev [] [x0, x1] = 0 := by simp [sx_ev, sx_dot] <;> omega
  have E1 : sx_ev [0, 1] [x0, x1] = x0 := by simp [sx_ev, sx_dot] <;> omega
  have E2 : sx_ev [0, 0, 1] [x0, x1] = x1 := by simp [sx_ev, sx_dot] <;> omega
  have E3 : sx_ev [4] [x0, x1] = 4 := by simp [sx_ev, sx_dot] <;> omega
  have g0 := hG (119, [], [0, 1], [0, 0, 1]) List.mem_cons_self
  dsimp only at g0
  rw [E0, E1, E2] at g0
  have p0 := hP (36, []) List.mem_cons_self
  have p0 : sz_pr 36 [] hh := p0
  have hw := sz_w0 hw
  rw [hw]
  have hz := zs_pv_mk (hh := hh) l0 u0 l1 u1 g0 p0
  refine ⟨fun f hf => ?_, fun q hq => ?_⟩
  · cases hf
  · obtain rfl := List.mem_singleton.mp hq
    show sz_pr 37 [sx_ev [0, 1] [x0, x1], sx_ev [4] [x0, x1]] _
    rw [E1, E3]
    exact hz
theorem sz_k151 : sx_Rk sz_pr sz_u151 := by
  intro r hh hh' hb hF hG hP hw
  obtain ⟨x0, r0, e0, l0, u0, hb⟩ := sz_bc hb
  obtain ⟨x1, r1, e1, l1, u1, hb⟩ := sz_bc hb
  obtain ⟨x2, r2, e2, l2, u2, hb⟩ := sz_bc hb
  obtain ⟨x3, r3, e3, l3, u3, hb⟩ := sz_bc hb
  have hbn := sz_bn hb
  subst hbn
  subst e3
  subst e2
  subst e1
  subst e0
  have E0 : sx_ev [3, 0, 0, -1] [x0, x1, x2, x3] = -x2 + 3 := by simp [sx_ev, sx_dot] <;> omega
  have E1 : sx_ev [] [x0, x1, x2, x3] = 0 := by simp [sx_ev, sx_dot] <;> omega
  have E2 : sx_ev [0, 4, 1] [x0, x1, x2, x3] = 4 * x0 + x1 := by simp [sx_ev, sx_dot] <;> omega
  have E3 : sx_ev [0, 0, 0, 1] [x0, x1, x2, x3] = x2 := by simp [sx_ev, sx_dot] <;> omega
  have E4 : sx_ev [0, 1] [x0, x1, x2, x3] = x0 := by simp [sx_ev, sx_dot] <;> omega
  have E5 : sx_ev [4] [x0, x1, x2, x3] = 4 := by simp [sx_ev, sx_dot] <;> omega
  have E6 : sx_ev [0, 0, 0, 0, 1] [x0, x1, x2, x3] = x3 := by simp [sx_ev, sx_dot] <;> omega
  have f0 := hF [3, 0, 0, -1] List.mem_cons_self
  rw [E0] at f0
  have g0 := hG (129, [], [0, 4, 1], [0, 0, 0, 1]) List.mem_cons_self
  dsimp only at g0
  rw [E1, E2, E3] at g0
  have p0 := hP (37, [[0, 1], [4]]) List.mem_cons_self
  have p0 : sz_pr 37 [sx_ev [0, 1] [x0, x1, x2, x3], sx_ev [4] [x0, x1, x2, x3]] hh := p0
  rw [E4, E5] at p0
  have hu := sz_w1 hw
  rw [E1, E2, E6] at hu
  have hz := zs_pv_ws (hh := hh) (hh' := hh') l0 u0 l1 u1 l2 u2 l3 u3 f0 g0 p0 (fun c g => by rw [hu]; exact if_neg (by omega)) (fun c g => by rw [hu]; simp) (fun c g => by rw [hu]; exact if_neg (by omega))
  refine ⟨fun f hf => ?_, fun q hq => ?_⟩
  · cases hf
  · obtain rfl := List.mem_singleton.mp hq
    show sz_pr 37 [sx_ev [0, 1] [x0, x1, x2, x3], sx_ev [4] [x0, x1, x2, x3]] _
    rw [E4, E5]
    exact hz
theorem sz_k152 : sx_Rk sz_pr sz_u152 := by
  intro r hh hh' hb hF hG hP hw
  obtain ⟨x0, r0, e0, l0, u0, hb⟩ := sz_bc hb
  obtain ⟨x1, r1, e1, l1, u1, hb⟩ := sz_bc hb
  obtain ⟨x2, r2, e2, l2, u2, hb⟩ := sz_bc hb
  obtain ⟨x3, r3, e3, l3, u3, hb⟩ := sz_bc hb
  have hbn := sz_bn hb
  subst hbn
  subst e3
  subst e2
  subst e1
  subst e0
  have E0 : sx_ev [3, 0, 0, -1] [x0, x1, x2, x3] = -x2 + 3 := by simp [sx_ev, sx_dot] <;> omega
  have E1 : sx_ev [] [x0, x1, x2, x3] = 0 := by simp [sx_ev, sx_dot] <;> omega
  have E2 : sx_ev [0, 4, 1] [x0, x1, x2, x3] = 4 * x0 + x1 := by simp [sx_ev, sx_dot] <;> omega
  have E3 : sx_ev [0, 0, 0, 1] [x0, x1, x2, x3] = x2 := by simp [sx_ev, sx_dot] <;> omega
  have E4 : sx_ev [0, 1] [x0, x1, x2, x3] = x0 := by simp [sx_ev, sx_dot] <;> omega
  have E5 : sx_ev [4] [x0, x1, x2, x3] = 4 := by simp [sx_ev, sx_dot] <;> omega
  have E6 : sx_ev [0, 0, 0, 0, 1] [x0, x1, x2, x3] = x3 := by simp [sx_ev, sx_dot] <;> omega
  have f0 := hF [3, 0, 0, -1] List.mem_cons_self
  rw [E0] at f0
  have g0 := hG (129, [], [0, 4, 1], [0, 0, 0, 1]) List.mem_cons_self
  dsimp only at g0
  rw [E1, E2, E3] at g0
  have p0 := hP (36, []) List.mem_cons_self
  have p0 : sz_pr 36 [] hh := p0
  have p1 := hP (37, [[0, 1], [4]]) (List.mem_cons_of_mem _ List.mem_cons_self)
  have p1 : sz_pr 37 [sx_ev [0, 1] [x0, x1, x2, x3], sx_ev [4] [x0, x1, x2, x3]] hh := p1
  rw [E4, E5] at p1
  have hu := sz_w1 hw
  rw [E1, E2, E6] at hu
  have hz := zs_pr_ws (hh := hh) (hh' := hh') l0 u0 l1 u1 l2 u2 l3 u3 f0 g0 p0 p1 (fun c g => by rw [hu]; exact if_neg (by omega)) (fun c g => by rw [hu]; exact if_neg (by omega)) (fun c g => by rw [hu]; simp) (fun c g => by rw [hu]; exact if_neg (by omega))
  refine ⟨fun f hf => ?_, fun q hq => ?_⟩
  · cases hf
  · obtain rfl := List.mem_singleton.mp hq
    show sz_pr 36 [] _
    exact hz
theorem sz_k153 : sx_Rk sz_pr sz_u153 := by
  intro r hh hh' hb hF hG hP hw
  obtain ⟨x0, r0, e0, l0, u0, hb⟩ := sz_bc hb
  obtain ⟨x1, r1, e1, l1, u1, hb⟩ := sz_bc hb
  obtain ⟨x2, r2, e2, l2, u2, hb⟩ := sz_bc hb
  obtain ⟨x3, r3, e3, l3, u3, hb⟩ := sz_bc hb
  have hbn := sz_bn hb
  subst hbn
  subst e3
  subst e2
  subst e1
  subst e0
  have E0 : sx_ev [-4, 0, 0, 1] [x0, x1, x2, x3] = x2 - 4 := by simp [sx_ev, sx_dot] <;> omega
  have E1 : sx_ev [] [x0, x1, x2, x3] = 0 := by simp [sx_ev, sx_dot] <;> omega
  have E2 : sx_ev [0, 4, 1] [x0, x1, x2, x3] = 4 * x0 + x1 := by simp [sx_ev, sx_dot] <;> omega
  have E3 : sx_ev [0, 0, 0, 1] [x0, x1, x2, x3] = x2 := by simp [sx_ev, sx_dot] <;> omega
  have E4 : sx_ev [0, 0, 0, 0, 1] [x0, x1, x2, x3] = x3 := by simp [sx_ev, sx_dot] <;> omega
  have E5 : sx_ev [0, 1] [x0, x1, x2, x3] = x0 := by simp [sx_ev, sx_dot] <;> omega
  have E6 : sx_ev [4] [x0, x1, x2, x3] = 4 := by simp [sx_ev, sx_dot] <;> omega
  have E7 : sx_ev [256, 0, 0, 0, -1] [x0, x1, x2, x3] = -x3 + 256 := by simp [sx_ev, sx_dot] <;> omega
  have f0 := hF [-4, 0, 0, 1] List.mem_cons_self
  rw [E0] at f0
  have g0 := hG (129, [], [0, 4, 1], [0, 0, 0, 1]) List.mem_cons_self
  dsimp only at g0
  rw [E1, E2, E3] at g0
  have g1 := hG (131, [], [0, 4, 1], [0, 0, 0, 0, 1]) (List.mem_cons_of_mem _ List.mem_cons_self)
  dsimp only at g1
  rw [E1, E2, E4] at g1
  have p0 := hP (37, [[0, 1], [4]]) List.mem_cons_self
  have p0 : sz_pr 37 [sx_ev [0, 1] [x0, x1, x2, x3], sx_ev [4] [x0, x1, x2, x3]] hh := p0
  rw [E5, E6] at p0
  have hw := sz_w0 hw
  rw [hw]
  have hz := zs_pv_u (hh := hh) l0 u0 l1 u1 l2 u2 l3 u3 f0 g0 g1 p0
  refine ⟨fun f hf => ?_, fun q hq => ?_⟩
  · rcases List.mem_cons.mp hf with rfl | hf
    · rw [E4]
      exact hz.1
    rw [List.mem_singleton.mp hf, E7]
    exact hz.2
  · cases hq
theorem sz_k154 : sx_Rk sz_pr sz_u154 := by
  intro r hh hh' hb hF hG hP hw
  obtain ⟨x0, r0, e0, l0, u0, hb⟩ := sz_bc hb
  obtain ⟨x1, r1, e1, l1, u1, hb⟩ := sz_bc hb
  obtain ⟨x2, r2, e2, l2, u2, hb⟩ := sz_bc hb
  obtain ⟨x3, r3, e3, l3, u3, hb⟩ := sz_bc hb
  obtain ⟨x4, r4, e4, l4, u4, hb⟩ := sz_bc hb
  have hbn := sz_bn hb
  subst hbn
  subst e4
  subst e3
  subst e2
  subst e1
  subst e0
  have E0 : sx_ev [-4, 0, 0, 1] [x0, x1, x2, x3, x4] = x2 - 4 := by simp [sx_ev, sx_dot] <;> omega
  have E1 : sx_ev [-1, 0, 0, 0, 1] [x0, x1, x2, x3, x4] = x3 - 1 := by simp [sx_ev, sx_dot] <;> omega
  have E2 : sx_ev [] [x0, x1, x2, x3, x4] = 0 := by simp [sx_ev, sx_dot] <;> omega
  have E3 : sx_ev [0, 4, 1] [x0, x1, x2, x3, x4] = 4 * x0 + x1 := by simp [sx_ev, sx_dot] <;> omega
  have E4 : sx_ev [0, 0, 0, 1] [x0, x1, x2, x3, x4] = x2 := by simp [sx_ev, sx_dot] <;> omega
  have E5 : sx_ev [0, 0, 0, 0, 1] [x0, x1, x2, x3, x4] = x3 := by simp [sx_ev, sx_dot] <;> omega
  have E6 : sx_ev [0, 0, 0, 0, 0, 1] [x0, x1, x2, x3, x4] = x4 := by simp [sx_ev, sx_dot] <;> omega
  have E7 : sx_ev [0, 1] [x0, x1, x2, x3, x4] = x0 := by simp [sx_ev, sx_dot] <;> omega
  have E8 : sx_ev [4] [x0, x1, x2, x3, x4] = 4 := by simp [sx_ev, sx_dot] <;> omega
  have E9 : sx_ev [8192, 0, 0, 0, -1, -1] [x0, x1, x2, x3, x4] = -x3 - x4 + 8192 := by simp [sx_ev, sx_dot] <;> omega
  have f0 := hF [-4, 0, 0, 1] List.mem_cons_self
  rw [E0] at f0
  have f1 := hF [-1, 0, 0, 0, 1] (List.mem_cons_of_mem _ List.mem_cons_self)
  rw [E1] at f1
  have g0 := hG (129, [], [0, 4, 1], [0, 0, 0, 1]) List.mem_cons_self
  dsimp only at g0
  rw [E2, E3, E4] at g0
  have g1 := hG (131, [], [0, 4, 1], [0, 0, 0, 0, 1]) (List.mem_cons_of_mem _ List.mem_cons_self)
  dsimp only at g1
  rw [E2, E3, E5] at g1
  have g2 := hG (132, [], [0, 4, 1], [0, 0, 0, 0, 0, 1]) (List.mem_cons_of_mem _ (List.mem_cons_of_mem _ List.mem_cons_self))
  dsimp only at g2
  rw [E2, E3, E6] at g2
  have p0 := hP (37, [[0, 1], [4]]) List.mem_cons_self
  have p0 : sz_pr 37 [sx_ev [0, 1] [x0, x1, x2, x3, x4], sx_ev [4] [x0, x1, x2, x3, x4]] hh := p0
  rw [E7, E8] at p0
  have hw := sz_w0 hw
  rw [hw]
  have hz := zs_pv_u2 (hh := hh) l0 u0 l1 u1 l2 u2 l3 u3 l4 u4 f0 f1 g0 g1 g2 p0
  refine ⟨fun f hf => ?_, fun q hq => ?_⟩
  · rcases List.mem_cons.mp hf with rfl | hf
    · rw [E6]
      exact hz.1
    rw [List.mem_singleton.mp hf, E9]
    exact hz.2
  · cases hq
theorem sz_k155 : sx_Rk sz_pr sz_u155 := by
  intro r hh hh' hb hF hG hP hw
  obtain ⟨x0, r0, e0, l0, u0, hb⟩ := sz_bc hb
  obtain ⟨x1, r1, e1, l1, u1, hb⟩ := sz_bc hb
  obtain ⟨x2, r2, e2, l2, u2, hb⟩ := sz_bc hb
  have hbn := sz_bn hb
  subst hbn
  subst e2
  subst e1
  subst e0
  have E0 : sx_ev [0, 0, 1] [x0, x1, x2] = x1 := by simp [sx_ev, sx_dot] <;> omega
  have E1 : sx_ev [512, 0, -256, -1] [x0, x1, x2] = -(256 * x1) - x2 + 512 := by simp [sx_ev, sx_dot] <;> omega
  have E2 : sx_ev [0, 0, 0, 1] [x0, x1, x2] = x2 := by simp [sx_ev, sx_dot] <;> omega
  have E3 : sx_ev [] [x0, x1, x2] = 0 := by simp [sx_ev, sx_dot] <;> omega
  have E4 : sx_ev [18, 256] [x0, x1, x2] = 256 * x0 + 18 := by simp [sx_ev, sx_dot] <;> omega
  have E5 : sx_ev [19, 256] [x0, x1, x2] = 256 * x0 + 19 := by simp [sx_ev, sx_dot] <;> omega
  have E6 : sx_ev [0, 1] [x0, x1, x2] = x0 := by simp [sx_ev, sx_dot] <;> omega
  have f0 := hF [0, 0, 1] List.mem_cons_self
  rw [E0] at f0
  have f1 := hF [512, 0, -256, -1] (List.mem_cons_of_mem _ List.mem_cons_self)
  rw [E1] at f1
  have f2 := hF [0, 0, 0, 1] (List.mem_cons_of_mem _ (List.mem_cons_of_mem _ List.mem_cons_self))
  rw [E2] at f2
  have g0 := hG (104, [], [18, 256], [0, 0, 1]) List.mem_cons_self
  dsimp only at g0
  rw [E3, E4, E0] at g0
  have g1 := hG (104, [], [19, 256], [0, 0, 0, 1]) (List.mem_cons_of_mem _ List.mem_cons_self)
  dsimp only at g1
  rw [E3, E5, E2] at g1
  have hw := sz_w0 hw
  rw [hw]
  have hz := zs_or_m1 (hh := hh) l0 u0 l1 u1 l2 u2 f0 f1 f2 g0 g1
  refine ⟨fun f hf => ?_, fun q hq => ?_⟩
  · cases hf
  · obtain rfl := List.mem_singleton.mp hq
    show sz_pr 38 [sx_ev [0, 1] [x0, x1, x2]] _
    rw [E6]
    exact hz
theorem sz_k156 : sx_Rk sz_pr sz_u156 := by
  intro r hh hh' hb hF hG hP hw
  obtain ⟨x0, r0, e0, l0, u0, hb⟩ := sz_bc hb
  obtain ⟨x1, r1, e1, l1, u1, hb⟩ := sz_bc hb
  obtain ⟨x2, r2, e2, l2, u2, hb⟩ := sz_bc hb
  have hbn := sz_bn hb
  subst hbn
  subst e2
  subst e1
  subst e0
  have E0 : sx_ev [0, 0, 1] [x0, x1, x2] = x1 := by simp [sx_ev, sx_dot] <;> omega
  have E1 : sx_ev [256, 0, -256, -1] [x0, x1, x2] = -(256 * x1) - x2 + 256 := by simp [sx_ev, sx_dot] <;> omega
  have E2 : sx_ev [-1, 0, 0, -1] [x0, x1, x2] = -x2 - 1 := by simp [sx_ev, sx_dot] <;> omega
  have E3 : sx_ev [] [x0, x1, x2] = 0 := by simp [sx_ev, sx_dot] <;> omega
  have E4 : sx_ev [18, 256] [x0, x1, x2] = 256 * x0 + 18 := by simp [sx_ev, sx_dot] <;> omega
  have E5 : sx_ev [19, 256] [x0, x1, x2] = 256 * x0 + 19 := by simp [sx_ev, sx_dot] <;> omega
  have E6 : sx_ev [0, 0, 0, 1] [x0, x1, x2] = x2 := by simp [sx_ev, sx_dot] <;> omega
  have E7 : sx_ev [0, 1] [x0, x1, x2] = x0 := by simp [sx_ev, sx_dot] <;> omega
  have f0 := hF [0, 0, 1] List.mem_cons_self
  rw [E0] at f0
  have f1 := hF [256, 0, -256, -1] (List.mem_cons_of_mem _ List.mem_cons_self)
  rw [E1] at f1
  have f2 := hF [-1, 0, 0, -1] (List.mem_cons_of_mem _ (List.mem_cons_of_mem _ List.mem_cons_self))
  rw [E2] at f2
  have g0 := hG (104, [], [18, 256], [0, 0, 1]) List.mem_cons_self
  dsimp only at g0
  rw [E3, E4, E0] at g0
  have g1 := hG (104, [], [19, 256], [0, 0, 0, 1]) (List.mem_cons_of_mem _ List.mem_cons_self)
  dsimp only at g1
  rw [E3, E5, E6] at g1
  have hw := sz_w0 hw
  rw [hw]
  have hz := zs_or_m2 (hh := hh) l0 u0 l1 u1 l2 u2 f0 f1 f2 g0 g1
  refine ⟨fun f hf => ?_, fun q hq => ?_⟩
  · cases hf
  · obtain rfl := List.mem_singleton.mp hq
    show sz_pr 38 [sx_ev [0, 1] [x0, x1, x2]] _
    rw [E7]
    exact hz
theorem sz_k157 : sx_Rk sz_pr sz_u157 := by
  intro r hh hh' hb hF hG hP hw
  obtain ⟨x0, r0, e0, l0, u0, hb⟩ := sz_bc hb
  obtain ⟨x1, r1, e1, l1, u1, hb⟩ := sz_bc hb
  have hbn := sz_bn hb
  subst hbn
  subst e1
  subst e0
  have E0 : sx_ev [] [x0, x1] = 0 := by simp [sx_ev, sx_dot] <;> omega
  have E1 : sx_ev [18, 256] [x0, x1] = 256 * x0 + 18 := by simp [sx_ev, sx_dot] <;> omega
  have E2 : sx_ev [0, 0, 1] [x0, x1] = x1 := by simp [sx_ev, sx_dot] <;> omega
  have E3 : sx_ev [0, 1] [x0, x1] = x0 := by simp [sx_ev, sx_dot] <;> omega
  have E4 : sx_ev [2, 0, -1] [x0, x1] = -x1 + 2 := by simp [sx_ev, sx_dot] <;> omega
  have g0 := hG (104, [], [18, 256], [0, 0, 1]) List.mem_cons_self
  dsimp only at g0
  rw [E0, E1, E2] at g0
  have p0 := hP (38, [[0, 1]]) List.mem_cons_self
  have p0 : sz_pr 38 [sx_ev [0, 1] [x0, x1]] hh := p0
  rw [E3] at p0
  have hw := sz_w0 hw
  rw [hw]
  have hz := zs_or_h (hh := hh) l0 u0 l1 u1 g0 p0
  refine ⟨fun f hf => ?_, fun q hq => ?_⟩
  · rcases List.mem_cons.mp hf with rfl | hf
    · rw [E2]
      exact hz.1
    rw [List.mem_singleton.mp hf, E4]
    exact hz.2
  · cases hq
theorem sz_k158 : sx_Rk sz_pr sz_u158 := by
  intro r hh hh' hb hF hG hP hw
  obtain ⟨x0, r0, e0, l0, u0, hb⟩ := sz_bc hb
  obtain ⟨x1, r1, e1, l1, u1, hb⟩ := sz_bc hb
  obtain ⟨x2, r2, e2, l2, u2, hb⟩ := sz_bc hb
  have hbn := sz_bn hb
  subst hbn
  subst e2
  subst e1
  subst e0
  have E0 : sx_ev [0, 0, 0, 1] [x0, x1, x2] = x2 := by simp [sx_ev, sx_dot] <;> omega
  have E1 : sx_ev [] [x0, x1, x2] = 0 := by simp [sx_ev, sx_dot] <;> omega
  have E2 : sx_ev [18, 256] [x0, x1, x2] = 256 * x0 + 18 := by simp [sx_ev, sx_dot] <;> omega
  have E3 : sx_ev [0, 0, 1] [x0, x1, x2] = x1 := by simp [sx_ev, sx_dot] <;> omega
  have E4 : sx_ev [19, 256] [x0, x1, x2] = 256 * x0 + 19 := by simp [sx_ev, sx_dot] <;> omega
  have E5 : sx_ev [0, 1] [x0, x1, x2] = x0 := by simp [sx_ev, sx_dot] <;> omega
  have E6 : sx_ev [512, 0, -256, -1] [x0, x1, x2] = -(256 * x1) - x2 + 512 := by simp [sx_ev, sx_dot] <;> omega
  have f0 := hF [0, 0, 0, 1] List.mem_cons_self
  rw [E0] at f0
  have g0 := hG (104, [], [18, 256], [0, 0, 1]) List.mem_cons_self
  dsimp only at g0
  rw [E1, E2, E3] at g0
  have g1 := hG (104, [], [19, 256], [0, 0, 0, 1]) (List.mem_cons_of_mem _ List.mem_cons_self)
  dsimp only at g1
  rw [E1, E4, E0] at g1
  have p0 := hP (38, [[0, 1]]) List.mem_cons_self
  have p0 : sz_pr 38 [sx_ev [0, 1] [x0, x1, x2]] hh := p0
  rw [E5] at p0
  have hw := sz_w0 hw
  rw [hw]
  have hz := zs_or_l (hh := hh) l0 u0 l1 u1 l2 u2 f0 g0 g1 p0
  refine ⟨fun f hf => ?_, fun q hq => ?_⟩
  · rw [List.mem_singleton.mp hf, E6]
    exact hz
  · cases hq
theorem sz_k159 : sx_Rk sz_pr sz_u159 := by
  intro r hh hh' hb hF hG hP hw
  obtain ⟨x0, r0, e0, l0, u0, hb⟩ := sz_bc hb
  obtain ⟨x1, r1, e1, l1, u1, hb⟩ := sz_bc hb
  obtain ⟨x2, r2, e2, l2, u2, hb⟩ := sz_bc hb
  have hbn := sz_bn hb
  subst hbn
  subst e2
  subst e1
  subst e0
  have E0 : sx_ev [-1, 0, 0, -1] [x0, x1, x2] = -x2 - 1 := by simp [sx_ev, sx_dot] <;> omega
  have E1 : sx_ev [] [x0, x1, x2] = 0 := by simp [sx_ev, sx_dot] <;> omega
  have E2 : sx_ev [18, 256] [x0, x1, x2] = 256 * x0 + 18 := by simp [sx_ev, sx_dot] <;> omega
  have E3 : sx_ev [0, 0, 1] [x0, x1, x2] = x1 := by simp [sx_ev, sx_dot] <;> omega
  have E4 : sx_ev [19, 256] [x0, x1, x2] = 256 * x0 + 19 := by simp [sx_ev, sx_dot] <;> omega
  have E5 : sx_ev [0, 0, 0, 1] [x0, x1, x2] = x2 := by simp [sx_ev, sx_dot] <;> omega
  have E6 : sx_ev [0, 1] [x0, x1, x2] = x0 := by simp [sx_ev, sx_dot] <;> omega
  have E7 : sx_ev [1, 0, -1] [x0, x1, x2] = -x1 + 1 := by simp [sx_ev, sx_dot] <;> omega
  have f0 := hF [-1, 0, 0, -1] List.mem_cons_self
  rw [E0] at f0
  have g0 := hG (104, [], [18, 256], [0, 0, 1]) List.mem_cons_self
  dsimp only at g0
  rw [E1, E2, E3] at g0
  have g1 := hG (104, [], [19, 256], [0, 0, 0, 1]) (List.mem_cons_of_mem _ List.mem_cons_self)
  dsimp only at g1
  rw [E1, E4, E5] at g1
  have p0 := hP (38, [[0, 1]]) List.mem_cons_self
  have p0 : sz_pr 38 [sx_ev [0, 1] [x0, x1, x2]] hh := p0
  rw [E6] at p0
  have hw := sz_w0 hw
  rw [hw]
  have hz := zs_or_l2 (hh := hh) l0 u0 l1 u1 l2 u2 f0 g0 g1 p0
  refine ⟨fun f hf => ?_, fun q hq => ?_⟩
  · rw [List.mem_singleton.mp hf, E7]
    exact hz
  · cases hq
theorem sz_k160 : sx_Rk sz_pr sz_u160 := by
  intro r hh hh' hb hF hG hP hw
  obtain ⟨x0, r0, e0, l0, u0, hb⟩ := sz_bc hb
  have hbn := sz_bn hb
  subst hbn
  subst e0
  have E0 : sx_ev [] [x0] = 0 := by simp [sx_ev, sx_dot] <;> omega
  have E1 : sx_ev [107] [x0] = 107 := by simp [sx_ev, sx_dot] <;> omega
  have E2 : sx_ev [0, 1] [x0] = x0 := by simp [sx_ev, sx_dot] <;> omega
  have hu := sz_w1 hw
  rw [E0, E1, E2] at hu
  have hz := zs_oj_0 (hh := hh) (hh' := hh') l0 u0 (fun c => by rw [hu]; simp) (fun c g => by rw [hu]; exact if_neg (by omega))
  refine ⟨fun f hf => ?_, fun q hq => ?_⟩
  · cases hf
  · obtain rfl := List.mem_singleton.mp hq
    show sz_pr 39 [] _
    exact hz
theorem sz_k161 : sx_Rk sz_pr sz_u161 := by
  intro r hh hh' hb hF hG hP hw
  obtain ⟨x0, r0, e0, l0, u0, hb⟩ := sz_bc hb
  have hbn := sz_bn hb
  subst hbn
  subst e0
  have E0 : sx_ev [0, 1] [x0] = x0 := by simp [sx_ev, sx_dot] <;> omega
  have E1 : sx_ev [] [x0] = 0 := by simp [sx_ev, sx_dot] <;> omega
  have E2 : sx_ev [107] [x0] = 107 := by simp [sx_ev, sx_dot] <;> omega
  have p0 := hP (38, [[0, 1]]) List.mem_cons_self
  have p0 : sz_pr 38 [sx_ev [0, 1] [x0]] hh := p0
  rw [E0] at p0
  have hu := sz_w1 hw
  rw [E1, E2, E0] at hu
  have hz := zs_oj_w (hh := hh) (hh' := hh') l0 u0 p0 (fun c g => by rw [hu]; exact if_neg (by omega)) (fun c => by rw [hu]; simp)
  refine ⟨fun f hf => ?_, fun q hq => ?_⟩
  · cases hf
  · obtain rfl := List.mem_singleton.mp hq
    show sz_pr 39 [] _
    exact hz
theorem sz_k162 : sx_Rk sz_pr sz_u162 := by
  intro r hh hh' hb hF hG hP hw
  obtain ⟨x0, r0, e0, l0, u0, hb⟩ := sz_bc hb
  have hbn := sz_bn hb
  subst hbn
  subst e0
  have E0 : sx_ev [] [x0] = 0 := by simp [sx_ev, sx_dot] <;> omega
  have E1 : sx_ev [107] [x0] = 107 := by simp [sx_ev, sx_dot] <;> omega
  have E2 : sx_ev [0, 1] [x0] = x0 := by simp [sx_ev, sx_dot] <;> omega
  have g0 := hG (92, [], [107], [0, 1]) List.mem_cons_self
  dsimp only at g0
  rw [E0, E1, E2] at g0
  have p0 := hP (39, []) List.mem_cons_self
  have p0 : sz_pr 39 [] hh := p0
  have hw := sz_w0 hw
  rw [hw]
  have hz := zs_oj_u (hh := hh) l0 u0 g0 p0
  refine ⟨fun f hf => ?_, fun q hq => ?_⟩
  · cases hf
  · obtain rfl := List.mem_singleton.mp hq
    show sz_pr 38 [sx_ev [0, 1] [x0]] _
    rw [E2]
    exact hz
theorem sz_k163 : sx_Rk sz_pr sz_u163 := by
  intro r hh hh' hb hF hG hP hw
  obtain ⟨x0, r0, e0, l0, u0, hb⟩ := sz_bc hb
  obtain ⟨x1, r1, e1, l1, u1, hb⟩ := sz_bc hb
  obtain ⟨x2, r2, e2, l2, u2, hb⟩ := sz_bc hb
  obtain ⟨x3, r3, e3, l3, u3, hb⟩ := sz_bc hb
  obtain ⟨x4, r4, e4, l4, u4, hb⟩ := sz_bc hb
  obtain ⟨x5, r5, e5, l5, u5, hb⟩ := sz_bc hb
  obtain ⟨x6, r6, e6, l6, u6, hb⟩ := sz_bc hb
  obtain ⟨x7, r7, e7, l7, u7, hb⟩ := sz_bc hb
  have hbn := sz_bn hb
  subst hbn
  subst e7
  subst e6
  subst e5
  subst e4
  subst e3
  subst e2
  subst e1
  subst e0
  have E0 : sx_ev [-1, 0, -1, 0, 0, 0, 1] [x0, x1, x2, x3, x4, x5, x6, x7] = -x1 + x5 - 1 := by simp [sx_ev, sx_dot] <;> omega
  have E1 : sx_ev [] [x0, x1, x2, x3, x4, x5, x6, x7] = 0 := by simp [sx_ev, sx_dot] <;> omega
  have E2 : sx_ev [0, 1] [x0, x1, x2, x3, x4, x5, x6, x7] = x0 := by simp [sx_ev, sx_dot] <;> omega
  have E3 : sx_ev [0, 0, 0, 0, 0, 0, 1] [x0, x1, x2, x3, x4, x5, x6, x7] = x5 := by simp [sx_ev, sx_dot] <;> omega
  have E4 : sx_ev [0, 4, 1] [x0, x1, x2, x3, x4, x5, x6, x7] = 4 * x0 + x1 := by simp [sx_ev, sx_dot] <;> omega
  have E5 : sx_ev [0, 0, 0, 0, 0, 0, 0, 1] [x0, x1, x2, x3, x4, x5, x6, x7] = x6 := by simp [sx_ev, sx_dot] <;> omega
  have E6 : sx_ev [0, 0, 0, 0, 0, 0, 0, 0, 1] [x0, x1, x2, x3, x4, x5, x6, x7] = x7 := by simp [sx_ev, sx_dot] <;> omega
  have E7 : sx_ev [0, 0, 1] [x0, x1, x2, x3, x4, x5, x6, x7] = x1 := by simp [sx_ev, sx_dot] <;> omega
  have E8 : sx_ev [0, 0, 0, 1] [x0, x1, x2, x3, x4, x5, x6, x7] = x2 := by simp [sx_ev, sx_dot] <;> omega
  have E9 : sx_ev [0, 0, 0, 0, 1] [x0, x1, x2, x3, x4, x5, x6, x7] = x3 := by simp [sx_ev, sx_dot] <;> omega
  have E10 : sx_ev [0, 0, 0, 0, 0, 1] [x0, x1, x2, x3, x4, x5, x6, x7] = x4 := by simp [sx_ev, sx_dot] <;> omega
  have E11 : sx_ev [1, 0, 1] [x0, x1, x2, x3, x4, x5, x6, x7] = x1 + 1 := by simp [sx_ev, sx_dot] <;> omega
  have E12 : sx_ev [1, 0, 0, 0, 0, 1] [x0, x1, x2, x3, x4, x5, x6, x7] = x4 + 1 := by simp [sx_ev, sx_dot] <;> omega
  have f0 := hF [-1, 0, -1, 0, 0, 0, 1] List.mem_cons_self
  rw [E0] at f0
  have g0 := hG (136, [], [0, 1], [0, 0, 0, 0, 0, 0, 1]) List.mem_cons_self
  dsimp only at g0
  rw [E1, E2, E3] at g0
  have g1 := hG (139, [], [0, 4, 1], [0, 0, 0, 0, 0, 0, 0, 1]) (List.mem_cons_of_mem _ List.mem_cons_self)
  dsimp only at g1
  rw [E1, E4, E5] at g1
  have g2 := hG (140, [], [0, 4, 1], [0, 0, 0, 0, 0, 0, 0, 0, 1]) (List.mem_cons_of_mem _ (List.mem_cons_of_mem _ List.mem_cons_self))
  dsimp only at g2
  rw [E1, E4, E6] at g2
  have p0 := hP (22, [[0, 1], [0, 0, 1], [0, 0, 0, 1], [0, 0, 0, 0, 1], [0, 0, 0, 0, 0, 1]]) List.mem_cons_self
  have p0 : sz_pr 22 [sx_ev [0, 1] [x0, x1, x2, x3, x4, x5, x6, x7], sx_ev [0, 0, 1] [x0, x1, x2, x3, x4, x5, x6, x7], sx_ev [0, 0, 0, 1] [x0, x1, x2, x3, x4, x5, x6, x7], sx_ev [0, 0, 0, 0, 1] [x0, x1, x2, x3, x4, x5, x6, x7], sx_ev [0, 0, 0, 0, 0, 1] [x0, x1, x2, x3, x4, x5, x6, x7]] hh := p0
  rw [E2, E7, E8, E9, E10] at p0
  have hw := sz_w0 hw
  rw [hw]
  have hz := zs_ur_p0 (hh := hh) l0 u0 l1 u1 l2 u2 l3 u3 l4 u4 l5 u5 l6 u6 l7 u7 f0 g0 g1 g2 p0
  refine ⟨fun f hf => ?_, fun q hq => ?_⟩
  · cases hf
  · obtain rfl := List.mem_singleton.mp hq
    show sz_pr 22 [sx_ev [0, 1] [x0, x1, x2, x3, x4, x5, x6, x7], sx_ev [1, 0, 1] [x0, x1, x2, x3, x4, x5, x6, x7], sx_ev [0, 0, 0, 1] [x0, x1, x2, x3, x4, x5, x6, x7], sx_ev [0, 0, 0, 0, 1] [x0, x1, x2, x3, x4, x5, x6, x7], sx_ev [1, 0, 0, 0, 0, 1] [x0, x1, x2, x3, x4, x5, x6, x7]] _
    rw [E2, E11, E8, E9, E12]
    exact hz
theorem sz_k164 : sx_Rk sz_pr sz_u164 := by
  intro r hh hh' hb hF hG hP hw
  obtain ⟨x0, r0, e0, l0, u0, hb⟩ := sz_bc hb
  obtain ⟨x1, r1, e1, l1, u1, hb⟩ := sz_bc hb
  obtain ⟨x2, r2, e2, l2, u2, hb⟩ := sz_bc hb
  obtain ⟨x3, r3, e3, l3, u3, hb⟩ := sz_bc hb
  obtain ⟨x4, r4, e4, l4, u4, hb⟩ := sz_bc hb
  obtain ⟨x5, r5, e5, l5, u5, hb⟩ := sz_bc hb
  obtain ⟨x6, r6, e6, l6, u6, hb⟩ := sz_bc hb
  obtain ⟨x7, r7, e7, l7, u7, hb⟩ := sz_bc hb
  have hbn := sz_bn hb
  subst hbn
  subst e7
  subst e6
  subst e5
  subst e4
  subst e3
  subst e2
  subst e1
  subst e0
  have E0 : sx_ev [-1, 0, -1, 0, 0, 0, 1] [x0, x1, x2, x3, x4, x5, x6, x7] = -x1 + x5 - 1 := by simp [sx_ev, sx_dot] <;> omega
  have E1 : sx_ev [] [x0, x1, x2, x3, x4, x5, x6, x7] = 0 := by simp [sx_ev, sx_dot] <;> omega
  have E2 : sx_ev [0, 1] [x0, x1, x2, x3, x4, x5, x6, x7] = x0 := by simp [sx_ev, sx_dot] <;> omega
  have E3 : sx_ev [0, 0, 0, 0, 0, 0, 1] [x0, x1, x2, x3, x4, x5, x6, x7] = x5 := by simp [sx_ev, sx_dot] <;> omega
  have E4 : sx_ev [0, 4, 1] [x0, x1, x2, x3, x4, x5, x6, x7] = 4 * x0 + x1 := by simp [sx_ev, sx_dot] <;> omega
  have E5 : sx_ev [0, 0, 0, 0, 0, 0, 0, 1] [x0, x1, x2, x3, x4, x5, x6, x7] = x6 := by simp [sx_ev, sx_dot] <;> omega
  have E6 : sx_ev [0, 0, 0, 0, 0, 0, 0, 0, 1] [x0, x1, x2, x3, x4, x5, x6, x7] = x7 := by simp [sx_ev, sx_dot] <;> omega
  have E7 : sx_ev [0, 0, 1] [x0, x1, x2, x3, x4, x5, x6, x7] = x1 := by simp [sx_ev, sx_dot] <;> omega
  have E8 : sx_ev [0, 0, 0, 1] [x0, x1, x2, x3, x4, x5, x6, x7] = x2 := by simp [sx_ev, sx_dot] <;> omega
  have E9 : sx_ev [0, 0, 0, 0, 1] [x0, x1, x2, x3, x4, x5, x6, x7] = x3 := by simp [sx_ev, sx_dot] <;> omega
  have E10 : sx_ev [0, 0, 0, 0, 0, 1] [x0, x1, x2, x3, x4, x5, x6, x7] = x4 := by simp [sx_ev, sx_dot] <;> omega
  have E11 : sx_ev [1, 0, 1] [x0, x1, x2, x3, x4, x5, x6, x7] = x1 + 1 := by simp [sx_ev, sx_dot] <;> omega
  have E12 : sx_ev [2, 0, 0, 0, 0, 1] [x0, x1, x2, x3, x4, x5, x6, x7] = x4 + 2 := by simp [sx_ev, sx_dot] <;> omega
  have f0 := hF [-1, 0, -1, 0, 0, 0, 1] List.mem_cons_self
  rw [E0] at f0
  have g0 := hG (136, [], [0, 1], [0, 0, 0, 0, 0, 0, 1]) List.mem_cons_self
  dsimp only at g0
  rw [E1, E2, E3] at g0
  have g1 := hG (139, [], [0, 4, 1], [0, 0, 0, 0, 0, 0, 0, 1]) (List.mem_cons_of_mem _ List.mem_cons_self)
  dsimp only at g1
  rw [E1, E4, E5] at g1
  have g2 := hG (140, [], [0, 4, 1], [0, 0, 0, 0, 0, 0, 0, 0, 1]) (List.mem_cons_of_mem _ (List.mem_cons_of_mem _ List.mem_cons_self))
  dsimp only at g2
  rw [E1, E4, E6] at g2
  have p0 := hP (22, [[0, 1], [0, 0, 1], [0, 0, 0, 1], [0, 0, 0, 0, 1], [0, 0, 0, 0, 0, 1]]) List.mem_cons_self
  have p0 : sz_pr 22 [sx_ev [0, 1] [x0, x1, x2, x3, x4, x5, x6, x7], sx_ev [0, 0, 1] [x0, x1, x2, x3, x4, x5, x6, x7], sx_ev [0, 0, 0, 1] [x0, x1, x2, x3, x4, x5, x6, x7], sx_ev [0, 0, 0, 0, 1] [x0, x1, x2, x3, x4, x5, x6, x7], sx_ev [0, 0, 0, 0, 0, 1] [x0, x1, x2, x3, x4, x5, x6, x7]] hh := p0
  rw [E2, E7, E8, E9, E10] at p0
  have hw := sz_w0 hw
  rw [hw]
  have hz := zs_ur_p1 (hh := hh) l0 u0 l1 u1 l2 u2 l3 u3 l4 u4 l5 u5 l6 u6 l7 u7 f0 g0 g1 g2 p0
  refine ⟨fun f hf => ?_, fun q hq => ?_⟩
  · cases hf
  · obtain rfl := List.mem_singleton.mp hq
    show sz_pr 22 [sx_ev [0, 1] [x0, x1, x2, x3, x4, x5, x6, x7], sx_ev [1, 0, 1] [x0, x1, x2, x3, x4, x5, x6, x7], sx_ev [0, 0, 0, 1] [x0, x1, x2, x3, x4, x5, x6, x7], sx_ev [0, 0, 0, 0, 1] [x0, x1, x2, x3, x4, x5, x6, x7], sx_ev [2, 0, 0, 0, 0, 1] [x0, x1, x2, x3, x4, x5, x6, x7]] _
    rw [E2, E11, E8, E9, E12]
    exact hz
theorem sz_k165 : sx_Rk sz_pr sz_u165 := by
  intro r hh hh' hb hF hG hP hw
  obtain ⟨x0, r0, e0, l0, u0, hb⟩ := sz_bc hb
  obtain ⟨x1, r1, e1, l1, u1, hb⟩ := sz_bc hb
  obtain ⟨x2, r2, e2, l2, u2, hb⟩ := sz_bc hb
  obtain ⟨x3, r3, e3, l3, u3, hb⟩ := sz_bc hb
  obtain ⟨x4, r4, e4, l4, u4, hb⟩ := sz_bc hb
  obtain ⟨x5, r5, e5, l5, u5, hb⟩ := sz_bc hb
  obtain ⟨x6, r6, e6, l6, u6, hb⟩ := sz_bc hb
  obtain ⟨x7, r7, e7, l7, u7, hb⟩ := sz_bc hb
  have hbn := sz_bn hb
  subst hbn
  subst e7
  subst e6
  subst e5
  subst e4
  subst e3
  subst e2
  subst e1
  subst e0
  have E0 : sx_ev [-1, 0, -1, 0, 0, 0, 1] [x0, x1, x2, x3, x4, x5, x6, x7] = -x1 + x5 - 1 := by simp [sx_ev, sx_dot] <;> omega
  have E1 : sx_ev [] [x0, x1, x2, x3, x4, x5, x6, x7] = 0 := by simp [sx_ev, sx_dot] <;> omega
  have E2 : sx_ev [0, 1] [x0, x1, x2, x3, x4, x5, x6, x7] = x0 := by simp [sx_ev, sx_dot] <;> omega
  have E3 : sx_ev [0, 0, 0, 0, 0, 0, 1] [x0, x1, x2, x3, x4, x5, x6, x7] = x5 := by simp [sx_ev, sx_dot] <;> omega
  have E4 : sx_ev [0, 4, 1] [x0, x1, x2, x3, x4, x5, x6, x7] = 4 * x0 + x1 := by simp [sx_ev, sx_dot] <;> omega
  have E5 : sx_ev [0, 0, 0, 0, 0, 0, 0, 1] [x0, x1, x2, x3, x4, x5, x6, x7] = x6 := by simp [sx_ev, sx_dot] <;> omega
  have E6 : sx_ev [0, 0, 0, 0, 0, 0, 0, 0, 1] [x0, x1, x2, x3, x4, x5, x6, x7] = x7 := by simp [sx_ev, sx_dot] <;> omega
  have E7 : sx_ev [0, 0, 1] [x0, x1, x2, x3, x4, x5, x6, x7] = x1 := by simp [sx_ev, sx_dot] <;> omega
  have E8 : sx_ev [0, 0, 0, 1] [x0, x1, x2, x3, x4, x5, x6, x7] = x2 := by simp [sx_ev, sx_dot] <;> omega
  have E9 : sx_ev [0, 0, 0, 0, 1] [x0, x1, x2, x3, x4, x5, x6, x7] = x3 := by simp [sx_ev, sx_dot] <;> omega
  have E10 : sx_ev [0, 0, 0, 0, 0, 1] [x0, x1, x2, x3, x4, x5, x6, x7] = x4 := by simp [sx_ev, sx_dot] <;> omega
  have E11 : sx_ev [1, 0, 1] [x0, x1, x2, x3, x4, x5, x6, x7] = x1 + 1 := by simp [sx_ev, sx_dot] <;> omega
  have E12 : sx_ev [3, 0, 0, 0, 0, 1] [x0, x1, x2, x3, x4, x5, x6, x7] = x4 + 3 := by simp [sx_ev, sx_dot] <;> omega
  have f0 := hF [-1, 0, -1, 0, 0, 0, 1] List.mem_cons_self
  rw [E0] at f0
  have g0 := hG (136, [], [0, 1], [0, 0, 0, 0, 0, 0, 1]) List.mem_cons_self
  dsimp only at g0
  rw [E1, E2, E3] at g0
  have g1 := hG (139, [], [0, 4, 1], [0, 0, 0, 0, 0, 0, 0, 1]) (List.mem_cons_of_mem _ List.mem_cons_self)
  dsimp only at g1
  rw [E1, E4, E5] at g1
  have g2 := hG (140, [], [0, 4, 1], [0, 0, 0, 0, 0, 0, 0, 0, 1]) (List.mem_cons_of_mem _ (List.mem_cons_of_mem _ List.mem_cons_self))
  dsimp only at g2
  rw [E1, E4, E6] at g2
  have p0 := hP (22, [[0, 1], [0, 0, 1], [0, 0, 0, 1], [0, 0, 0, 0, 1], [0, 0, 0, 0, 0, 1]]) List.mem_cons_self
  have p0 : sz_pr 22 [sx_ev [0, 1] [x0, x1, x2, x3, x4, x5, x6, x7], sx_ev [0, 0, 1] [x0, x1, x2, x3, x4, x5, x6, x7], sx_ev [0, 0, 0, 1] [x0, x1, x2, x3, x4, x5, x6, x7], sx_ev [0, 0, 0, 0, 1] [x0, x1, x2, x3, x4, x5, x6, x7], sx_ev [0, 0, 0, 0, 0, 1] [x0, x1, x2, x3, x4, x5, x6, x7]] hh := p0
  rw [E2, E7, E8, E9, E10] at p0
  have hw := sz_w0 hw
  rw [hw]
  have hz := zs_ur_p2 (hh := hh) l0 u0 l1 u1 l2 u2 l3 u3 l4 u4 l5 u5 l6 u6 l7 u7 f0 g0 g1 g2 p0
  refine ⟨fun f hf => ?_, fun q hq => ?_⟩
  · cases hf
  · obtain rfl := List.mem_singleton.mp hq
    show sz_pr 22 [sx_ev [0, 1] [x0, x1, x2, x3, x4, x5, x6, x7], sx_ev [1, 0, 1] [x0, x1, x2, x3, x4, x5, x6, x7], sx_ev [0, 0, 0, 1] [x0, x1, x2, x3, x4, x5, x6, x7], sx_ev [0, 0, 0, 0, 1] [x0, x1, x2, x3, x4, x5, x6, x7], sx_ev [3, 0, 0, 0, 0, 1] [x0, x1, x2, x3, x4, x5, x6, x7]] _
    rw [E2, E11, E8, E9, E12]
    exact hz
theorem sz_k166 : sx_Rk sz_pr sz_u166 := by
  intro r hh hh' hb hF hG hP hw
  obtain ⟨x0, r0, e0, l0, u0, hb⟩ := sz_bc hb
  obtain ⟨x1, r1, e1, l1, u1, hb⟩ := sz_bc hb
  obtain ⟨x2, r2, e2, l2, u2, hb⟩ := sz_bc hb
  obtain ⟨x3, r3, e3, l3, u3, hb⟩ := sz_bc hb
  obtain ⟨x4, r4, e4, l4, u4, hb⟩ := sz_bc hb
  have hbn := sz_bn hb
  subst hbn
  subst e4
  subst e3
  subst e2
  subst e1
  subst e0
  have E0 : sx_ev [0, 1] [x0, x1, x2, x3, x4] = x0 := by simp [sx_ev, sx_dot] <;> omega
  have E1 : sx_ev [0, 0, 1] [x0, x1, x2, x3, x4] = x1 := by simp [sx_ev, sx_dot] <;> omega
  have E2 : sx_ev [0, 0, 0, 1] [x0, x1, x2, x3, x4] = x2 := by simp [sx_ev, sx_dot] <;> omega
  have E3 : sx_ev [0, 0, 0, 0, 1] [x0, x1, x2, x3, x4] = x3 := by simp [sx_ev, sx_dot] <;> omega
  have E4 : sx_ev [0, 0, 0, 0, 0, 1] [x0, x1, x2, x3, x4] = x4 := by simp [sx_ev, sx_dot] <;> omega
  have E5 : sx_ev [] [x0, x1, x2, x3, x4] = 0 := by simp [sx_ev, sx_dot] <;> omega
  have p0 := hP (22, [[0, 1], [0, 0, 1], [0, 0, 0, 1], [0, 0, 0, 0, 1], [0, 0, 0, 0, 0, 1]]) List.mem_cons_self
  have p0 : sz_pr 22 [sx_ev [0, 1] [x0, x1, x2, x3, x4], sx_ev [0, 0, 1] [x0, x1, x2, x3, x4], sx_ev [0, 0, 0, 1] [x0, x1, x2, x3, x4], sx_ev [0, 0, 0, 0, 1] [x0, x1, x2, x3, x4], sx_ev [0, 0, 0, 0, 0, 1] [x0, x1, x2, x3, x4]] hh := p0
  rw [E0, E1, E2, E3, E4] at p0
  have hw := sz_w0 hw
  rw [hw]
  have hz := zs_ur_x0 (hh := hh) l0 u0 l1 u1 l2 u2 l3 u3 l4 u4 p0
  refine ⟨fun f hf => ?_, fun q hq => ?_⟩
  · cases hf
  · obtain rfl := List.mem_singleton.mp hq
    show sz_pr 22 [sx_ev [0, 1] [x0, x1, x2, x3, x4], sx_ev [0, 0, 1] [x0, x1, x2, x3, x4], sx_ev [0, 0, 0, 1] [x0, x1, x2, x3, x4], sx_ev [0, 0, 0, 0, 1] [x0, x1, x2, x3, x4], sx_ev [] [x0, x1, x2, x3, x4]] _
    rw [E0, E1, E2, E3, E5]
    exact hz
theorem sz_k167 : sx_Rk sz_pr sz_u167 := by
  intro r hh hh' hb hF hG hP hw
  obtain ⟨x0, r0, e0, l0, u0, hb⟩ := sz_bc hb
  obtain ⟨x1, r1, e1, l1, u1, hb⟩ := sz_bc hb
  obtain ⟨x2, r2, e2, l2, u2, hb⟩ := sz_bc hb
  obtain ⟨x3, r3, e3, l3, u3, hb⟩ := sz_bc hb
  obtain ⟨x4, r4, e4, l4, u4, hb⟩ := sz_bc hb
  have hbn := sz_bn hb
  subst hbn
  subst e4
  subst e3
  subst e2
  subst e1
  subst e0
  have E0 : sx_ev [-1, 0, 0, 0, 0, 1] [x0, x1, x2, x3, x4] = x4 - 1 := by simp [sx_ev, sx_dot] <;> omega
  have E1 : sx_ev [0, 1] [x0, x1, x2, x3, x4] = x0 := by simp [sx_ev, sx_dot] <;> omega
  have E2 : sx_ev [0, 0, 1] [x0, x1, x2, x3, x4] = x1 := by simp [sx_ev, sx_dot] <;> omega
  have E3 : sx_ev [0, 0, 0, 1] [x0, x1, x2, x3, x4] = x2 := by simp [sx_ev, sx_dot] <;> omega
  have E4 : sx_ev [0, 0, 0, 0, 1] [x0, x1, x2, x3, x4] = x3 := by simp [sx_ev, sx_dot] <;> omega
  have E5 : sx_ev [0, 0, 0, 0, 0, 1] [x0, x1, x2, x3, x4] = x4 := by simp [sx_ev, sx_dot] <;> omega
  have E6 : sx_ev [1] [x0, x1, x2, x3, x4] = 1 := by simp [sx_ev, sx_dot] <;> omega
  have f0 := hF [-1, 0, 0, 0, 0, 1] List.mem_cons_self
  rw [E0] at f0
  have p0 := hP (22, [[0, 1], [0, 0, 1], [0, 0, 0, 1], [0, 0, 0, 0, 1], [0, 0, 0, 0, 0, 1]]) List.mem_cons_self
  have p0 : sz_pr 22 [sx_ev [0, 1] [x0, x1, x2, x3, x4], sx_ev [0, 0, 1] [x0, x1, x2, x3, x4], sx_ev [0, 0, 0, 1] [x0, x1, x2, x3, x4], sx_ev [0, 0, 0, 0, 1] [x0, x1, x2, x3, x4], sx_ev [0, 0, 0, 0, 0, 1] [x0, x1, x2, x3, x4]] hh := p0
  rw [E1, E2, E3, E4, E5] at p0
  have hw := sz_w0 hw
  rw [hw]
  have hz := zs_ur_x1 (hh := hh) l0 u0 l1 u1 l2 u2 l3 u3 l4 u4 f0 p0
  refine ⟨fun f hf => ?_, fun q hq => ?_⟩
  · cases hf
  · obtain rfl := List.mem_singleton.mp hq
    show sz_pr 22 [sx_ev [0, 1] [x0, x1, x2, x3, x4], sx_ev [0, 0, 1] [x0, x1, x2, x3, x4], sx_ev [0, 0, 0, 1] [x0, x1, x2, x3, x4], sx_ev [0, 0, 0, 0, 1] [x0, x1, x2, x3, x4], sx_ev [1] [x0, x1, x2, x3, x4]] _
    rw [E1, E2, E3, E4, E6]
    exact hz
theorem sz_k168 : sx_Rk sz_pr sz_u168 := by
  intro r hh hh' hb hF hG hP hw
  obtain ⟨x0, r0, e0, l0, u0, hb⟩ := sz_bc hb
  have hbn := sz_bn hb
  subst hbn
  subst e0
  have E0 : sx_ev [0, 1] [x0] = x0 := by simp [sx_ev, sx_dot] <;> omega
  have E1 : sx_ev [] [x0] = 0 := by simp [sx_ev, sx_dot] <;> omega
  have E2 : sx_ev [4] [x0] = 4 := by simp [sx_ev, sx_dot] <;> omega
  have E3 : sx_ev [7] [x0] = 7 := by simp [sx_ev, sx_dot] <;> omega
  have E4 : sx_ev [62] [x0] = 62 := by simp [sx_ev, sx_dot] <;> omega
  have E5 : sx_ev [62, -1] [x0] = -x0 + 62 := by simp [sx_ev, sx_dot] <;> omega
  have p0 := hP (21, [[0, 1]]) List.mem_cons_self
  have p0 : sz_pr 21 [sx_ev [0, 1] [x0]] hh := p0
  rw [E0] at p0
  have hw := sz_w0 hw
  rw [hw]
  have hz := zs_ur_u62 (hh := hh) l0 u0 p0
  refine ⟨fun f hf => ?_, fun q hq => ?_⟩
  · cases hf
  · obtain rfl := List.mem_singleton.mp hq
    show sz_pr 22 [sx_ev [] [x0], sx_ev [4] [x0], sx_ev [7] [x0], sx_ev [62] [x0], sx_ev [62, -1] [x0]] _
    rw [E1, E2, E3, E4, E5]
    exact hz
theorem sz_k169 : sx_Rk sz_pr sz_u169 := by
  intro r hh hh' hb hF hG hP hw
  obtain ⟨x0, r0, e0, l0, u0, hb⟩ := sz_bc hb
  obtain ⟨x1, r1, e1, l1, u1, hb⟩ := sz_bc hb
  obtain ⟨x2, r2, e2, l2, u2, hb⟩ := sz_bc hb
  obtain ⟨x3, r3, e3, l3, u3, hb⟩ := sz_bc hb
  obtain ⟨x4, r4, e4, l4, u4, hb⟩ := sz_bc hb
  have hbn := sz_bn hb
  subst hbn
  subst e4
  subst e3
  subst e2
  subst e1
  subst e0
  have E0 : sx_ev [64, 0, 0, 0, -1] [x0, x1, x2, x3, x4] = -x3 + 64 := by simp [sx_ev, sx_dot] <;> omega
  have E1 : sx_ev [0, 1] [x0, x1, x2, x3, x4] = x0 := by simp [sx_ev, sx_dot] <;> omega
  have E2 : sx_ev [0, 0, 1] [x0, x1, x2, x3, x4] = x1 := by simp [sx_ev, sx_dot] <;> omega
  have E3 : sx_ev [0, 0, 0, 1] [x0, x1, x2, x3, x4] = x2 := by simp [sx_ev, sx_dot] <;> omega
  have E4 : sx_ev [0, 0, 0, 0, 1] [x0, x1, x2, x3, x4] = x3 := by simp [sx_ev, sx_dot] <;> omega
  have E5 : sx_ev [0, 0, 0, 0, 0, 1] [x0, x1, x2, x3, x4] = x4 := by simp [sx_ev, sx_dot] <;> omega
  have E6 : sx_ev [4] [x0, x1, x2, x3, x4] = 4 := by simp [sx_ev, sx_dot] <;> omega
  have E7 : sx_ev [7] [x0, x1, x2, x3, x4] = 7 := by simp [sx_ev, sx_dot] <;> omega
  have E8 : sx_ev [64] [x0, x1, x2, x3, x4] = 64 := by simp [sx_ev, sx_dot] <;> omega
  have E9 : sx_ev [64, 0, 0, 0, -1, 1] [x0, x1, x2, x3, x4] = -x3 + x4 + 64 := by simp [sx_ev, sx_dot] <;> omega
  have f0 := hF [64, 0, 0, 0, -1] List.mem_cons_self
  rw [E0] at f0
  have p0 := hP (22, [[0, 1], [0, 0, 1], [0, 0, 0, 1], [0, 0, 0, 0, 1], [0, 0, 0, 0, 0, 1]]) List.mem_cons_self
  have p0 : sz_pr 22 [sx_ev [0, 1] [x0, x1, x2, x3, x4], sx_ev [0, 0, 1] [x0, x1, x2, x3, x4], sx_ev [0, 0, 0, 1] [x0, x1, x2, x3, x4], sx_ev [0, 0, 0, 0, 1] [x0, x1, x2, x3, x4], sx_ev [0, 0, 0, 0, 0, 1] [x0, x1, x2, x3, x4]] hh := p0
  rw [E1, E2, E3, E4, E5] at p0
  have hw := sz_w0 hw
  rw [hw]
  have hz := zs_ur_f (hh := hh) l0 u0 l1 u1 l2 u2 l3 u3 l4 u4 f0 p0
  refine ⟨fun f hf => ?_, fun q hq => ?_⟩
  · cases hf
  · obtain rfl := List.mem_singleton.mp hq
    show sz_pr 22 [sx_ev [0, 1] [x0, x1, x2, x3, x4], sx_ev [4] [x0, x1, x2, x3, x4], sx_ev [7] [x0, x1, x2, x3, x4], sx_ev [64] [x0, x1, x2, x3, x4], sx_ev [64, 0, 0, 0, -1, 1] [x0, x1, x2, x3, x4]] _
    rw [E1, E6, E7, E8, E9]
    exact hz
theorem sz_k170 : sx_Rk sz_pr sz_u170 := by
  intro r hh hh' hb hF hG hP hw
  obtain ⟨x0, r0, e0, l0, u0, hb⟩ := sz_bc hb
  have hbn := sz_bn hb
  subst hbn
  subst e0
  have E0 : sx_ev [] [x0] = 0 := by simp [sx_ev, sx_dot] <;> omega
  have E1 : sx_ev [18] [x0] = 18 := by simp [sx_ev, sx_dot] <;> omega
  have E2 : sx_ev [0, 1] [x0] = x0 := by simp [sx_ev, sx_dot] <;> omega
  have g0 := hG (92, [], [18], [0, 1]) List.mem_cons_self
  dsimp only at g0
  rw [E0, E1, E2] at g0
  have hw := sz_w0 hw
  rw [hw]
  have hz := zs_rr_e (hh := hh) l0 u0 g0
  refine ⟨fun f hf => ?_, fun q hq => ?_⟩
  · cases hf
  · obtain rfl := List.mem_singleton.mp hq
    show sz_pr 40 [] _
    exact hz
theorem sz_k171 : sx_Rk sz_pr sz_u171 := by
  intro r hh hh' hb hF hG hP hw
  obtain ⟨x0, r0, e0, l0, u0, hb⟩ := sz_bc hb
  have hbn := sz_bn hb
  subst hbn
  subst e0
  have E0 : sx_ev [] [x0] = 0 := by simp [sx_ev, sx_dot] <;> omega
  have E1 : sx_ev [18] [x0] = 18 := by simp [sx_ev, sx_dot] <;> omega
  have E2 : sx_ev [0, 1] [x0] = x0 := by simp [sx_ev, sx_dot] <;> omega
  have E3 : sx_ev [7] [x0] = 7 := by simp [sx_ev, sx_dot] <;> omega
  have g0 := hG (92, [], [18], [0, 1]) List.mem_cons_self
  dsimp only at g0
  rw [E0, E1, E2] at g0
  have p0 := hP (29, [[0, 1], [7]]) List.mem_cons_self
  have p0 : sz_pr 29 [sx_ev [0, 1] [x0], sx_ev [7] [x0]] hh := p0
  rw [E2, E3] at p0
  have p1 := hP (30, [[0, 1]]) (List.mem_cons_of_mem _ List.mem_cons_self)
  have p1 : sz_pr 30 [sx_ev [0, 1] [x0]] hh := p1
  rw [E2] at p1
  have hw := sz_w0 hw
  rw [hw]
  have hz := zs_rr_m (hh := hh) l0 u0 g0 p0 p1
  refine ⟨fun f hf => ?_, fun q hq => ?_⟩
  · cases hf
  · obtain rfl := List.mem_singleton.mp hq
    show sz_pr 40 [] _
    exact hz
theorem sz_k172 : sx_Rk sz_pr sz_u172 := by
  intro r hh hh' hb hF hG hP hw
  obtain ⟨x0, r0, e0, l0, u0, hb⟩ := sz_bc hb
  have hbn := sz_bn hb
  subst hbn
  subst e0
  have E0 : sx_ev [] [x0] = 0 := by simp [sx_ev, sx_dot] <;> omega
  have E1 : sx_ev [18] [x0] = 18 := by simp [sx_ev, sx_dot] <;> omega
  have E2 : sx_ev [0, 1] [x0] = x0 := by simp [sx_ev, sx_dot] <;> omega
  have E3 : sx_ev [63, -1] [x0] = -x0 + 63 := by simp [sx_ev, sx_dot] <;> omega
  have E4 : sx_ev [7] [x0] = 7 := by simp [sx_ev, sx_dot] <;> omega
  have g0 := hG (92, [], [18], [0, 1]) List.mem_cons_self
  dsimp only at g0
  rw [E0, E1, E2] at g0
  have p0 := hP (40, []) List.mem_cons_self
  have p0 : sz_pr 40 [] hh := p0
  have hw := sz_w0 hw
  rw [hw]
  have hz := zs_rr_u (hh := hh) l0 u0 g0 p0
  refine ⟨fun f hf => ?_, fun q hq => ?_⟩
  · rw [List.mem_singleton.mp hf, E3]
    exact hz.1
  · rcases List.mem_cons.mp hq with rfl | hq
    · show sz_pr 29 [sx_ev [0, 1] [x0], sx_ev [7] [x0]] _
      rw [E2, E4]
      exact hz.2.1
    obtain rfl := List.mem_singleton.mp hq
    show sz_pr 30 [sx_ev [0, 1] [x0]] _
    rw [E2]
    exact hz.2.2
theorem sz_k173 : sx_Rk sz_pr sz_u173 := by
  intro r hh hh' hb hF hG hP hw
  obtain ⟨x0, r0, e0, l0, u0, hb⟩ := sz_bc hb
  have hbn := sz_bn hb
  subst hbn
  subst e0
  have E0 : sx_ev [] [x0] = 0 := by simp [sx_ev, sx_dot] <;> omega
  have E1 : sx_ev [107] [x0] = 107 := by simp [sx_ev, sx_dot] <;> omega
  have E2 : sx_ev [0, 1] [x0] = x0 := by simp [sx_ev, sx_dot] <;> omega
  have g0 := hG (92, [], [107], [0, 1]) List.mem_cons_self
  dsimp only at g0
  rw [E0, E1, E2] at g0
  have hw := sz_w0 hw
  rw [hw]
  have hz := zs_oj_n (hh := hh) l0 u0 g0
  refine ⟨fun f hf => ?_, fun q hq => ?_⟩
  · cases hf
  · obtain rfl := List.mem_singleton.mp hq
    show sz_pr 39 [] _
    exact hz
theorem sz_k174 : sx_Rk sz_pr sz_u174 := by
  intro r hh hh' hb hF hG hP hw
  obtain ⟨x0, r0, e0, l0, u0, hb⟩ := sz_bc hb
  have hbn := sz_bn hb
  subst hbn
  subst e0
  have E0 : sx_ev [0, 1] [x0] = x0 := by simp [sx_ev, sx_dot] <;> omega
  have E1 : sx_ev [] [x0] = 0 := by simp [sx_ev, sx_dot] <;> omega
  have hw := sz_w0 hw
  rw [hw]
  have hz := zs_dn0 (hh := hh) l0 u0
  refine ⟨fun f hf => ?_, fun q hq => ?_⟩
  · cases hf
  · obtain rfl := List.mem_singleton.mp hq
    show sz_pr 41 [sx_ev [0, 1] [x0], sx_ev [] [x0]] _
    rw [E0, E1]
    exact hz
theorem sz_k175 : sx_Rk sz_pr sz_u175 := by
  intro r hh hh' hb hF hG hP hw
  obtain ⟨x0, r0, e0, l0, u0, hb⟩ := sz_bc hb
  obtain ⟨x1, r1, e1, l1, u1, hb⟩ := sz_bc hb
  obtain ⟨x2, r2, e2, l2, u2, hb⟩ := sz_bc hb
  have hbn := sz_bn hb
  subst hbn
  subst e2
  subst e1
  subst e0
  have E0 : sx_ev [] [x0, x1, x2] = 0 := by simp [sx_ev, sx_dot] <;> omega
  have E1 : sx_ev [28, 256, 33] [x0, x1, x2] = 256 * x0 + 33 * x1 + 28 := by simp [sx_ev, sx_dot] <;> omega
  have E2 : sx_ev [0, 0, 0, 1] [x0, x1, x2] = x2 := by simp [sx_ev, sx_dot] <;> omega
  have E3 : sx_ev [0, 1] [x0, x1, x2] = x0 := by simp [sx_ev, sx_dot] <;> omega
  have E4 : sx_ev [0, 0, 1] [x0, x1, x2] = x1 := by simp [sx_ev, sx_dot] <;> omega
  have E5 : sx_ev [1, 0, 1] [x0, x1, x2] = x1 + 1 := by simp [sx_ev, sx_dot] <;> omega
  have g0 := hG (104, [], [28, 256, 33], [0, 0, 0, 1]) List.mem_cons_self
  dsimp only at g0
  rw [E0, E1, E2] at g0
  have p0 := hP (41, [[0, 1], [0, 0, 1]]) List.mem_cons_self
  have p0 : sz_pr 41 [sx_ev [0, 1] [x0, x1, x2], sx_ev [0, 0, 1] [x0, x1, x2]] hh := p0
  rw [E3, E4] at p0
  have hw := sz_w0 hw
  rw [hw]
  have hz := zs_dn_1 (hh := hh) l0 u0 l1 u1 l2 u2 g0 p0
  refine ⟨fun f hf => ?_, fun q hq => ?_⟩
  · cases hf
  · obtain rfl := List.mem_singleton.mp hq
    show sz_pr 41 [sx_ev [0, 1] [x0, x1, x2], sx_ev [1, 0, 1] [x0, x1, x2]] _
    rw [E3, E5]
    exact hz
theorem sz_k176 : sx_Rk sz_pr sz_u176 := by
  intro r hh hh' hb hF hG hP hw
  obtain ⟨x0, r0, e0, l0, u0, hb⟩ := sz_bc hb
  obtain ⟨x1, r1, e1, l1, u1, hb⟩ := sz_bc hb
  obtain ⟨x2, r2, e2, l2, u2, hb⟩ := sz_bc hb
  obtain ⟨x3, r3, e3, l3, u3, hb⟩ := sz_bc hb
  have hbn := sz_bn hb
  subst hbn
  subst e3
  subst e2
  subst e1
  subst e0
  have E0 : sx_ev [-1, 0, 1, -1] [x0, x1, x2, x3] = x1 - x2 - 1 := by simp [sx_ev, sx_dot] <;> omega
  have E1 : sx_ev [] [x0, x1, x2, x3] = 0 := by simp [sx_ev, sx_dot] <;> omega
  have E2 : sx_ev [28, 256, 0, 33] [x0, x1, x2, x3] = 256 * x0 + 33 * x2 + 28 := by simp [sx_ev, sx_dot] <;> omega
  have E3 : sx_ev [0, 0, 0, 0, 1] [x0, x1, x2, x3] = x3 := by simp [sx_ev, sx_dot] <;> omega
  have E4 : sx_ev [0, 1] [x0, x1, x2, x3] = x0 := by simp [sx_ev, sx_dot] <;> omega
  have E5 : sx_ev [0, 0, 1] [x0, x1, x2, x3] = x1 := by simp [sx_ev, sx_dot] <;> omega
  have E6 : sx_ev [63, 0, 0, 0, -1] [x0, x1, x2, x3] = -x3 + 63 := by simp [sx_ev, sx_dot] <;> omega
  have f0 := hF [-1, 0, 1, -1] List.mem_cons_self
  rw [E0] at f0
  have g0 := hG (104, [], [28, 256, 0, 33], [0, 0, 0, 0, 1]) List.mem_cons_self
  dsimp only at g0
  rw [E1, E2, E3] at g0
  have p0 := hP (41, [[0, 1], [0, 0, 1]]) List.mem_cons_self
  have p0 : sz_pr 41 [sx_ev [0, 1] [x0, x1, x2, x3], sx_ev [0, 0, 1] [x0, x1, x2, x3]] hh := p0
  rw [E4, E5] at p0
  have hw := sz_w0 hw
  rw [hw]
  have hz := zs_dn_u (hh := hh) l0 u0 l1 u1 l2 u2 l3 u3 f0 g0 p0
  refine ⟨fun f hf => ?_, fun q hq => ?_⟩
  · rcases List.mem_cons.mp hf with rfl | hf
    · rw [E3]
      exact hz.1
    rw [List.mem_singleton.mp hf, E6]
    exact hz.2
  · cases hq
theorem sz_k177 : sx_Rk sz_pr sz_u177 := by
  intro r hh hh' hb hF hG hP hw
  obtain ⟨x0, r0, e0, l0, u0, hb⟩ := sz_bc hb
  obtain ⟨x1, r1, e1, l1, u1, hb⟩ := sz_bc hb
  obtain ⟨x2, r2, e2, l2, u2, hb⟩ := sz_bc hb
  have hbn := sz_bn hb
  subst hbn
  subst e2
  subst e1
  subst e0
  have E0 : sx_ev [0, 0, 1, -1] [x0, x1, x2] = x1 - x2 := by simp [sx_ev, sx_dot] <;> omega
  have E1 : sx_ev [0, 1] [x0, x1, x2] = x0 := by simp [sx_ev, sx_dot] <;> omega
  have E2 : sx_ev [0, 0, 1] [x0, x1, x2] = x1 := by simp [sx_ev, sx_dot] <;> omega
  have E3 : sx_ev [0, 0, 0, 1] [x0, x1, x2] = x2 := by simp [sx_ev, sx_dot] <;> omega
  have f0 := hF [0, 0, 1, -1] List.mem_cons_self
  rw [E0] at f0
  have p0 := hP (41, [[0, 1], [0, 0, 1]]) List.mem_cons_self
  have p0 : sz_pr 41 [sx_ev [0, 1] [x0, x1, x2], sx_ev [0, 0, 1] [x0, x1, x2]] hh := p0
  rw [E1, E2] at p0
  have hw := sz_w0 hw
  rw [hw]
  have hz := zs_dn_le (hh := hh) l0 u0 l1 u1 l2 u2 f0 p0
  refine ⟨fun f hf => ?_, fun q hq => ?_⟩
  · cases hf
  · obtain rfl := List.mem_singleton.mp hq
    show sz_pr 41 [sx_ev [0, 1] [x0, x1, x2], sx_ev [0, 0, 0, 1] [x0, x1, x2]] _
    rw [E1, E3]
    exact hz
theorem sz_k178 : sx_Rk sz_pr sz_u178 := by
  intro r hh hh' hb hF hG hP hw
  obtain ⟨x0, r0, e0, l0, u0, hb⟩ := sz_bc hb
  obtain ⟨x1, r1, e1, l1, u1, hb⟩ := sz_bc hb
  have hbn := sz_bn hb
  subst hbn
  subst e1
  subst e0
  have E0 : sx_ev [] [x0, x1] = 0 := by simp [sx_ev, sx_dot] <;> omega
  have E1 : sx_ev [0, 1] [x0, x1] = x0 := by simp [sx_ev, sx_dot] <;> omega
  have E2 : sx_ev [0, 0, 1] [x0, x1] = x1 := by simp [sx_ev, sx_dot] <;> omega
  have p0 := hP (36, []) List.mem_cons_self
  have p0 : sz_pr 36 [] hh := p0
  have hu := sz_w1 hw
  rw [E0, E1, E2] at hu
  have hz := zs_pr_w0 (hh := hh) (hh' := hh') l0 u0 l1 u1 p0 (fun c g => by rw [hu]; exact if_neg (by omega)) (fun c g => by rw [hu]; exact if_neg (by omega)) (fun c g => by rw [hu]; simp) (fun c g => by rw [hu]; exact if_neg (by omega))
  refine ⟨fun f hf => ?_, fun q hq => ?_⟩
  · cases hf
  · obtain rfl := List.mem_singleton.mp hq
    show sz_pr 36 [] _
    exact hz
def sz_rus : List sx_Ru := [sz_u0, sz_u1, sz_u2, sz_u3, sz_u4, sz_u5, sz_u6, sz_u7, sz_u8, sz_u9, sz_u10, sz_u11, sz_u12, sz_u13, sz_u14, sz_u15, sz_u16, sz_u17, sz_u18, sz_u19, sz_u20, sz_u21, sz_u22, sz_u23, sz_u24, sz_u25, sz_u26, sz_u27, sz_u28, sz_u29, sz_u30, sz_u31, sz_u32, sz_u33, sz_u34, sz_u35, sz_u36, sz_u37, sz_u38, sz_u39, sz_u40, sz_u41, sz_u42, sz_u43, sz_u44, sz_u45, sz_u46, sz_u47, sz_u48, sz_u49, sz_u50, sz_u51, sz_u52, sz_u53, sz_u54, sz_u55, sz_u56, sz_u57, sz_u58, sz_u59, sz_u60, sz_u61, sz_u62, sz_u63, sz_u64, sz_u65, sz_u66, sz_u67, sz_u68, sz_u69, sz_u70, sz_u71, sz_u72, sz_u73, sz_u74, sz_u75, sz_u76, sz_u77, sz_u78, sz_u79, sz_u80, sz_u81, sz_u82, sz_u83, sz_u84, sz_u85, sz_u86, sz_u87, sz_u88, sz_u89, sz_u90, sz_u91, sz_u92, sz_u93, sz_u94, sz_u95, sz_u96, sz_u97, sz_u98, sz_u99, sz_u100, sz_u101, sz_u102, sz_u103, sz_u104, sz_u105, sz_u106, sz_u107, sz_u108, sz_u109, sz_u110, sz_u111, sz_u112, sz_u113, sz_u114, sz_u115, sz_u116, sz_u117, sz_u118, sz_u119, sz_u120, sz_u121, sz_u122, sz_u123, sz_u124, sz_u125, sz_u126, sz_u127, sz_u128, sz_u129, sz_u130, sz_u131, sz_u132, sz_u133, sz_u134, sz_u135, sz_u136, sz_u137, sz_u138, sz_u139, sz_u140, sz_u141, sz_u142, sz_u143, sz_u144, sz_u145, sz_u146, sz_u147, sz_u148, sz_u149, sz_u150, sz_u151, sz_u152, sz_u153, sz_u154, sz_u155, sz_u156, sz_u157, sz_u158, sz_u159, sz_u160, sz_u161, sz_u162, sz_u163, sz_u164, sz_u165, sz_u166, sz_u167, sz_u168, sz_u169, sz_u170, sz_u171, sz_u172, sz_u173, sz_u174, sz_u175, sz_u176, sz_u177, sz_u178]
theorem sz_ca {P : sx_Ru → Prop} {a : sx_Ru} {l : List sx_Ru} (h : P a) (hl : ∀ u ∈ l, P u) : ∀ u ∈ a :: l, P u := List.forall_mem_cons.mpr ⟨h, hl⟩
set_option maxRecDepth 100000 in
theorem sz_rk : ∀ u ∈ sz_rus, sx_Rk sz_pr u := sz_ca sz_k0 (sz_ca sz_k1 (sz_ca sz_k2 (sz_ca sz_k3 (sz_ca sz_k4 (sz_ca sz_k5 (sz_ca sz_k6 (sz_ca sz_k7 (sz_ca sz_k8 (sz_ca sz_k9 (sz_ca sz_k10 (sz_ca sz_k11 (sz_ca sz_k12 (sz_ca sz_k13 (sz_ca sz_k14 (sz_ca sz_k15 (sz_ca sz_k16 (sz_ca sz_k17 (sz_ca sz_k18 (sz_ca sz_k19 (sz_ca sz_k20 (sz_ca sz_k21 (sz_ca sz_k22 (sz_ca sz_k23 (sz_ca sz_k24 (sz_ca sz_k25 (sz_ca sz_k26 (sz_ca sz_k27 (sz_ca sz_k28 (sz_ca sz_k29 (sz_ca sz_k30 (sz_ca sz_k31 (sz_ca sz_k32 (sz_ca sz_k33 (sz_ca sz_k34 (sz_ca sz_k35 (sz_ca sz_k36 (sz_ca sz_k37 (sz_ca sz_k38 (sz_ca sz_k39 (sz_ca sz_k40 (sz_ca sz_k41 (sz_ca sz_k42 (sz_ca sz_k43 (sz_ca sz_k44 (sz_ca sz_k45 (sz_ca sz_k46 (sz_ca sz_k47 (sz_ca sz_k48 (sz_ca sz_k49 (sz_ca sz_k50 (sz_ca sz_k51 (sz_ca sz_k52 (sz_ca sz_k53 (sz_ca sz_k54 (sz_ca sz_k55 (sz_ca sz_k56 (sz_ca sz_k57 (sz_ca sz_k58 (sz_ca sz_k59 (sz_ca sz_k60 (sz_ca sz_k61 (sz_ca sz_k62 (sz_ca sz_k63 (sz_ca sz_k64 (sz_ca sz_k65 (sz_ca sz_k66 (sz_ca sz_k67 (sz_ca sz_k68 (sz_ca sz_k69 (sz_ca sz_k70 (sz_ca sz_k71 (sz_ca sz_k72 (sz_ca sz_k73 (sz_ca sz_k74 (sz_ca sz_k75 (sz_ca sz_k76 (sz_ca sz_k77 (sz_ca sz_k78 (sz_ca sz_k79 (sz_ca sz_k80 (sz_ca sz_k81 (sz_ca sz_k82 (sz_ca sz_k83 (sz_ca sz_k84 (sz_ca sz_k85 (sz_ca sz_k86 (sz_ca sz_k87 (sz_ca sz_k88 (sz_ca sz_k89 (sz_ca sz_k90 (sz_ca sz_k91 (sz_ca sz_k92 (sz_ca sz_k93 (sz_ca sz_k94 (sz_ca sz_k95 (sz_ca sz_k96 (sz_ca sz_k97 (sz_ca sz_k98 (sz_ca sz_k99 (sz_ca sz_k100 (sz_ca sz_k101 (sz_ca sz_k102 (sz_ca sz_k103 (sz_ca sz_k104 (sz_ca sz_k105 (sz_ca sz_k106 (sz_ca sz_k107 (sz_ca sz_k108 (sz_ca sz_k109 (sz_ca sz_k110 (sz_ca sz_k111 (sz_ca sz_k112 (sz_ca sz_k113 (sz_ca sz_k114 (sz_ca sz_k115 (sz_ca sz_k116 (sz_ca sz_k117 (sz_ca sz_k118 (sz_ca sz_k119 (sz_ca sz_k120 (sz_ca sz_k121 (sz_ca sz_k122 (sz_ca sz_k123 (sz_ca sz_k124 (sz_ca sz_k125 (sz_ca sz_k126 (sz_ca sz_k127 (sz_ca sz_k128 (sz_ca sz_k129 (sz_ca sz_k130 (sz_ca sz_k131 (sz_ca sz_k132 (sz_ca sz_k133 (sz_ca sz_k134 (sz_ca sz_k135 (sz_ca sz_k136 (sz_ca sz_k137 (sz_ca sz_k138 (sz_ca sz_k139 (sz_ca sz_k140 (sz_ca sz_k141 (sz_ca sz_k142 (sz_ca sz_k143 (sz_ca sz_k144 (sz_ca sz_k145 (sz_ca sz_k146 (sz_ca sz_k147 (sz_ca sz_k148 (sz_ca sz_k149 (sz_ca sz_k150 (sz_ca sz_k151 (sz_ca sz_k152 (sz_ca sz_k153 (sz_ca sz_k154 (sz_ca sz_k155 (sz_ca sz_k156 (sz_ca sz_k157 (sz_ca sz_k158 (sz_ca sz_k159 (sz_ca sz_k160 (sz_ca sz_k161 (sz_ca sz_k162 (sz_ca sz_k163 (sz_ca sz_k164 (sz_ca sz_k165 (sz_ca sz_k166 (sz_ca sz_k167 (sz_ca sz_k168 (sz_ca sz_k169 (sz_ca sz_k170 (sz_ca sz_k171 (sz_ca sz_k172 (sz_ca sz_k173 (sz_ca sz_k174 (sz_ca sz_k175 (sz_ca sz_k176 (sz_ca sz_k177 (sz_ca sz_k178 (fun u hu => nomatch hu)))))))))))))))))))))))))))))))))))))))))))))))))))))))))))))))))))))))))))))))))))))))))))))))))))))))))))))))))))))))))))))))))))))))))))))))))))))))))))))))))))))))))))))))))))
theorem sz_fo : ∀ (id : Nat) (a : List Int) (h h' : sx_H), (∀ (k : Nat) (i f : Int), sx_in (sz_su id) k f = true → h' k i f = h k i f) → sz_pr id a h → sz_pr id a h' := by
  intro id a h h' he hp
  unfold sz_pr at hp
  split at hp
  · have a0 : ∀ c : Int, h' 87 c 6 = h 87 c 6 := fun c => he _ _ _ (by simp [sz_su, sx_in])
    have a1 : ∀ c : Int, h' 87 c 13 = h 87 c 13 := fun c => he _ _ _ (by simp [sz_su, sx_in])
    have a2 : ∀ c : Int, h' 87 c 15 = h 87 c 15 := fun c => he _ _ _ (by simp [sz_su, sx_in])
    have a3 : ∀ c : Int, h' 88 c 2 = h 88 c 2 := fun c => he _ _ _ (by simp [sz_su, sx_in])
    have a4 : ∀ c : Int, h' 88 c 3 = h 88 c 3 := fun c => he _ _ _ (by simp [sz_su, sx_in])
    have a5 : ∀ c : Int, h' 88 c 6 = h 88 c 6 := fun c => he _ _ _ (by simp [sz_su, sx_in])
    have a6 : ∀ c g : Int, h' 14 c g = h 14 c g := fun c g => he _ _ _ (by simp [sz_su, sx_in])
    unfold sz_pr
    simp only [zNW, zTP, zJF, zJL, zJD, zJV, zJX, zJW, zJA, zPCB, zNI, zPS, zPX, zOB, zFO, zFX, zNF, zJS, zJE, zJO, zJa, zJb, zJc, zJcz, zJd, zJdt, zJe, zJg, zUE, zUR, zNU, zAU, zAQ, zBQ, zHZ, zHN, zh, zRN, zUS, zNE, zNP, zLS, zLD, zPV, zPR, zOR, zRR, zOJ, zDN, zw, zt, zn, zu, zr, zq, a0, a1, a2, a3, a4, a5, a6]
    simp only [zNW, zTP, zJF, zJL, zJD, zJV, zJX, zJW, zJA, zPCB, zNI, zPS, zPX, zOB, zFO, zFX, zNF, zJS, zJE, zJO, zJa, zJb, zJc, zJcz, zJd, zJdt, zJe, zJg, zUE, zUR, zNU, zAU, zAQ, zBQ, zHZ, zHN, zh, zRN, zUS, zNE, zNP, zLS, zLD, zPV, zPR, zOR, zRR, zOJ, zDN, zw, zt, zn, zu, zr, zq] at hp
    exact hp
  · have a0 : ∀ c : Int, h' 88 c 6 = h 88 c 6 := fun c => he _ _ _ (by simp [sz_su, sx_in])
    have a1 : ∀ c g : Int, h' 14 c g = h 14 c g := fun c g => he _ _ _ (by simp [sz_su, sx_in])
    unfold sz_pr
    simp only [zNW, zTP, zJF, zJL, zJD, zJV, zJX, zJW, zJA, zPCB, zNI, zPS, zPX, zOB, zFO, zFX, zNF, zJS, zJE, zJO, zJa, zJb, zJc, zJcz, zJd, zJdt, zJe, zJg, zUE, zUR, zNU, zAU, zAQ, zBQ, zHZ, zHN, zh, zRN, zUS, zNE, zNP, zLS, zLD, zPV, zPR, zOR, zRR, zOJ, zDN, zw, zt, zn, zu, zr, zq, a0, a1]
    simp only [zNW, zTP, zJF, zJL, zJD, zJV, zJX, zJW, zJA, zPCB, zNI, zPS, zPX, zOB, zFO, zFX, zNF, zJS, zJE, zJO, zJa, zJb, zJc, zJcz, zJd, zJdt, zJe, zJg, zUE, zUR, zNU, zAU, zAQ, zBQ, zHZ, zHN, zh, zRN, zUS, zNE, zNP, zLS, zLD, zPV, zPR, zOR, zRR, zOJ, zDN, zw, zt, zn, zu, zr, zq] at hp
    exact hp
  · have a0 : ∀ c : Int, h' 88 c 6 = h 88 c 6 := fun c => he _ _ _ (by simp [sz_su, sx_in])
    have a1 : ∀ c g : Int, h' 14 c g = h 14 c g := fun c g => he _ _ _ (by simp [sz_su, sx_in])
    unfold sz_pr
    simp only [zNW, zTP, zJF, zJL, zJD, zJV, zJX, zJW, zJA, zPCB, zNI, zPS, zPX, zOB, zFO, zFX, zNF, zJS, zJE, zJO, zJa, zJb, zJc, zJcz, zJd, zJdt, zJe, zJg, zUE, zUR, zNU, zAU, zAQ, zBQ, zHZ, zHN, zh, zRN, zUS, zNE, zNP, zLS, zLD, zPV, zPR, zOR, zRR, zOJ, zDN, zw, zt, zn, zu, zr, zq, a0, a1]
    simp only [zNW, zTP, zJF, zJL, zJD, zJV, zJX, zJW, zJA, zPCB, zNI, zPS, zPX, zOB, zFO, zFX, zNF, zJS, zJE, zJO, zJa, zJb, zJc, zJcz, zJd, zJdt, zJe, zJg, zUE, zUR, zNU, zAU, zAQ, zBQ, zHZ, zHN, zh, zRN, zUS, zNE, zNP, zLS, zLD, zPV, zPR, zOR, zRR, zOJ, zDN, zw, zt, zn, zu, zr, zq] at hp
    exact hp
  · have a0 : ∀ c : Int, h' 88 c 6 = h 88 c 6 := fun c => he _ _ _ (by simp [sz_su, sx_in])
    have a1 : ∀ c g : Int, h' 14 c g = h 14 c g := fun c g => he _ _ _ (by simp [sz_su, sx_in])
    unfold sz_pr
    simp only [zNW, zTP, zJF, zJL, zJD, zJV, zJX, zJW, zJA, zPCB, zNI, zPS, zPX, zOB, zFO, zFX, zNF, zJS, zJE, zJO, zJa, zJb, zJc, zJcz, zJd, zJdt, zJe, zJg, zUE, zUR, zNU, zAU, zAQ, zBQ, zHZ, zHN, zh, zRN, zUS, zNE, zNP, zLS, zLD, zPV, zPR, zOR, zRR, zOJ, zDN, zw, zt, zn, zu, zr, zq, a0, a1]
    simp only [zNW, zTP, zJF, zJL, zJD, zJV, zJX, zJW, zJA, zPCB, zNI, zPS, zPX, zOB, zFO, zFX, zNF, zJS, zJE, zJO, zJa, zJb, zJc, zJcz, zJd, zJdt, zJe, zJg, zUE, zUR, zNU, zAU, zAQ, zBQ, zHZ, zHN, zh, zRN, zUS, zNE, zNP, zLS, zLD, zPV, zPR, zOR, zRR, zOJ, zDN, zw, zt, zn, zu, zr, zq] at hp
    exact hp
  · have a0 : ∀ c : Int, h' 88 c 6 = h 88 c 6 := fun c => he _ _ _ (by simp [sz_su, sx_in])
    have a1 : ∀ c g : Int, h' 14 c g = h 14 c g := fun c g => he _ _ _ (by simp [sz_su, sx_in])
    unfold sz_pr
    simp only [zNW, zTP, zJF, zJL, zJD, zJV, zJX, zJW, zJA, zPCB, zNI, zPS, zPX, zOB, zFO, zFX, zNF, zJS, zJE, zJO, zJa, zJb, zJc, zJcz, zJd, zJdt, zJe, zJg, zUE, zUR, zNU, zAU, zAQ, zBQ, zHZ, zHN, zh, zRN, zUS, zNE, zNP, zLS, zLD, zPV, zPR, zOR, zRR, zOJ, zDN, zw, zt, zn, zu, zr, zq, a0, a1]
    simp only [zNW, zTP, zJF, zJL, zJD, zJV, zJX, zJW, zJA, zPCB, zNI, zPS, zPX, zOB, zFO, zFX, zNF, zJS, zJE, zJO, zJa, zJb, zJc, zJcz, zJd, zJdt, zJe, zJg, zUE, zUR, zNU, zAU, zAQ, zBQ, zHZ, zHN, zh, zRN, zUS, zNE, zNP, zLS, zLD, zPV, zPR, zOR, zRR, zOJ, zDN, zw, zt, zn, zu, zr, zq] at hp
    exact hp
  · have a0 : ∀ c : Int, h' 88 c 6 = h 88 c 6 := fun c => he _ _ _ (by simp [sz_su, sx_in])
    have a1 : ∀ c g : Int, h' 14 c g = h 14 c g := fun c g => he _ _ _ (by simp [sz_su, sx_in])
    have a2 : ∀ c : Int, h' 87 c 15 = h 87 c 15 := fun c => he _ _ _ (by simp [sz_su, sx_in])
    unfold sz_pr
    simp only [zNW, zTP, zJF, zJL, zJD, zJV, zJX, zJW, zJA, zPCB, zNI, zPS, zPX, zOB, zFO, zFX, zNF, zJS, zJE, zJO, zJa, zJb, zJc, zJcz, zJd, zJdt, zJe, zJg, zUE, zUR, zNU, zAU, zAQ, zBQ, zHZ, zHN, zh, zRN, zUS, zNE, zNP, zLS, zLD, zPV, zPR, zOR, zRR, zOJ, zDN, zw, zt, zn, zu, zr, zq, a0, a1, a2]
    simp only [zNW, zTP, zJF, zJL, zJD, zJV, zJX, zJW, zJA, zPCB, zNI, zPS, zPX, zOB, zFO, zFX, zNF, zJS, zJE, zJO, zJa, zJb, zJc, zJcz, zJd, zJdt, zJe, zJg, zUE, zUR, zNU, zAU, zAQ, zBQ, zHZ, zHN, zh, zRN, zUS, zNE, zNP, zLS, zLD, zPV, zPR, zOR, zRR, zOJ, zDN, zw, zt, zn, zu, zr, zq] at hp
    exact hp
  · have a0 : ∀ c : Int, h' 87 c 6 = h 87 c 6 := fun c => he _ _ _ (by simp [sz_su, sx_in])
    have a1 : ∀ c : Int, h' 87 c 13 = h 87 c 13 := fun c => he _ _ _ (by simp [sz_su, sx_in])
    have a2 : ∀ c : Int, h' 87 c 15 = h 87 c 15 := fun c => he _ _ _ (by simp [sz_su, sx_in])
    have a3 : ∀ c : Int, h' 88 c 2 = h 88 c 2 := fun c => he _ _ _ (by simp [sz_su, sx_in])
    have a4 : ∀ c : Int, h' 88 c 3 = h 88 c 3 := fun c => he _ _ _ (by simp [sz_su, sx_in])
    have a5 : ∀ c : Int, h' 88 c 6 = h 88 c 6 := fun c => he _ _ _ (by simp [sz_su, sx_in])
    have a6 : ∀ c g : Int, h' 14 c g = h 14 c g := fun c g => he _ _ _ (by simp [sz_su, sx_in])
    unfold sz_pr
    simp only [zNW, zTP, zJF, zJL, zJD, zJV, zJX, zJW, zJA, zPCB, zNI, zPS, zPX, zOB, zFO, zFX, zNF, zJS, zJE, zJO, zJa, zJb, zJc, zJcz, zJd, zJdt, zJe, zJg, zUE, zUR, zNU, zAU, zAQ, zBQ, zHZ, zHN, zh, zRN, zUS, zNE, zNP, zLS, zLD, zPV, zPR, zOR, zRR, zOJ, zDN, zw, zt, zn, zu, zr, zq, a0, a1, a2, a3, a4, a5, a6]
    simp only [zNW, zTP, zJF, zJL, zJD, zJV, zJX, zJW, zJA, zPCB, zNI, zPS, zPX, zOB, zFO, zFX, zNF, zJS, zJE, zJO, zJa, zJb, zJc, zJcz, zJd, zJdt, zJe, zJg, zUE, zUR, zNU, zAU, zAQ, zBQ, zHZ, zHN, zh, zRN, zUS, zNE, zNP, zLS, zLD, zPV, zPR, zOR, zRR, zOJ, zDN, zw, zt, zn, zu, zr, zq] at hp
    exact hp
  · have a0 : ∀ c : Int, h' 87 c 6 = h 87 c 6 := fun c => he _ _ _ (by simp [sz_su, sx_in])
    have a1 : ∀ c : Int, h' 87 c 13 = h 87 c 13 := fun c => he _ _ _ (by simp [sz_su, sx_in])
    have a2 : ∀ c : Int, h' 87 c 15 = h 87 c 15 := fun c => he _ _ _ (by simp [sz_su, sx_in])
    have a3 : ∀ c : Int, h' 88 c 2 = h 88 c 2 := fun c => he _ _ _ (by simp [sz_su, sx_in])
    have a4 : ∀ c : Int, h' 88 c 3 = h 88 c 3 := fun c => he _ _ _ (by simp [sz_su, sx_in])
    have a5 : ∀ c : Int, h' 88 c 6 = h 88 c 6 := fun c => he _ _ _ (by simp [sz_su, sx_in])
    have a6 : ∀ c g : Int, h' 14 c g = h 14 c g := fun c g => he _ _ _ (by simp [sz_su, sx_in])
    unfold sz_pr
    simp only [zNW, zTP, zJF, zJL, zJD, zJV, zJX, zJW, zJA, zPCB, zNI, zPS, zPX, zOB, zFO, zFX, zNF, zJS, zJE, zJO, zJa, zJb, zJc, zJcz, zJd, zJdt, zJe, zJg, zUE, zUR, zNU, zAU, zAQ, zBQ, zHZ, zHN, zh, zRN, zUS, zNE, zNP, zLS, zLD, zPV, zPR, zOR, zRR, zOJ, zDN, zw, zt, zn, zu, zr, zq, a0, a1, a2, a3, a4, a5, a6]
    simp only [zNW, zTP, zJF, zJL, zJD, zJV, zJX, zJW, zJA, zPCB, zNI, zPS, zPX, zOB, zFO, zFX, zNF, zJS, zJE, zJO, zJa, zJb, zJc, zJcz, zJd, zJdt, zJe, zJg, zUE, zUR, zNU, zAU, zAQ, zBQ, zHZ, zHN, zh, zRN, zUS, zNE, zNP, zLS, zLD, zPV, zPR, zOR, zRR, zOJ, zDN, zw, zt, zn, zu, zr, zq] at hp
    exact hp
  · have a0 : ∀ c : Int, h' 88 c 2 = h 88 c 2 := fun c => he _ _ _ (by simp [sz_su, sx_in])
    have a1 : ∀ c : Int, h' 88 c 3 = h 88 c 3 := fun c => he _ _ _ (by simp [sz_su, sx_in])
    unfold sz_pr
    simp only [zNW, zTP, zJF, zJL, zJD, zJV, zJX, zJW, zJA, zPCB, zNI, zPS, zPX, zOB, zFO, zFX, zNF, zJS, zJE, zJO, zJa, zJb, zJc, zJcz, zJd, zJdt, zJe, zJg, zUE, zUR, zNU, zAU, zAQ, zBQ, zHZ, zHN, zh, zRN, zUS, zNE, zNP, zLS, zLD, zPV, zPR, zOR, zRR, zOJ, zDN, zw, zt, zn, zu, zr, zq, a0, a1]
    simp only [zNW, zTP, zJF, zJL, zJD, zJV, zJX, zJW, zJA, zPCB, zNI, zPS, zPX, zOB, zFO, zFX, zNF, zJS, zJE, zJO, zJa, zJb, zJc, zJcz, zJd, zJdt, zJe, zJg, zUE, zUR, zNU, zAU, zAQ, zBQ, zHZ, zHN, zh, zRN, zUS, zNE, zNP, zLS, zLD, zPV, zPR, zOR, zRR, zOJ, zDN, zw, zt, zn, zu, zr, zq] at hp
    exact hp
  · have a0 : ∀ c : Int, h' 87 c 13 = h 87 c 13 := fun c => he _ _ _ (by simp [sz_su, sx_in])
    have a1 : ∀ c : Int, h' 88 c 3 = h 88 c 3 := fun c => he _ _ _ (by simp [sz_su, sx_in])
    unfold sz_pr
    simp only [zNW, zTP, zJF, zJL, zJD, zJV, zJX, zJW, zJA, zPCB, zNI, zPS, zPX, zOB, zFO, zFX, zNF, zJS, zJE, zJO, zJa, zJb, zJc, zJcz, zJd, zJdt, zJe, zJg, zUE, zUR, zNU, zAU, zAQ, zBQ, zHZ, zHN, zh, zRN, zUS, zNE, zNP, zLS, zLD, zPV, zPR, zOR, zRR, zOJ, zDN, zw, zt, zn, zu, zr, zq, a0, a1]
    simp only [zNW, zTP, zJF, zJL, zJD, zJV, zJX, zJW, zJA, zPCB, zNI, zPS, zPX, zOB, zFO, zFX, zNF, zJS, zJE, zJO, zJa, zJb, zJc, zJcz, zJd, zJdt, zJe, zJg, zUE, zUR, zNU, zAU, zAQ, zBQ, zHZ, zHN, zh, zRN, zUS, zNE, zNP, zLS, zLD, zPV, zPR, zOR, zRR, zOJ, zDN, zw, zt, zn, zu, zr, zq] at hp
    exact hp
  · have a0 : ∀ c : Int, h' 88 c 2 = h 88 c 2 := fun c => he _ _ _ (by simp [sz_su, sx_in])
    unfold sz_pr
    simp only [zNW, zTP, zJF, zJL, zJD, zJV, zJX, zJW, zJA, zPCB, zNI, zPS, zPX, zOB, zFO, zFX, zNF, zJS, zJE, zJO, zJa, zJb, zJc, zJcz, zJd, zJdt, zJe, zJg, zUE, zUR, zNU, zAU, zAQ, zBQ, zHZ, zHN, zh, zRN, zUS, zNE, zNP, zLS, zLD, zPV, zPR, zOR, zRR, zOJ, zDN, zw, zt, zn, zu, zr, zq, a0]
    simp only [zNW, zTP, zJF, zJL, zJD, zJV, zJX, zJW, zJA, zPCB, zNI, zPS, zPX, zOB, zFO, zFX, zNF, zJS, zJE, zJO, zJa, zJb, zJc, zJcz, zJd, zJdt, zJe, zJg, zUE, zUR, zNU, zAU, zAQ, zBQ, zHZ, zHN, zh, zRN, zUS, zNE, zNP, zLS, zLD, zPV, zPR, zOR, zRR, zOJ, zDN, zw, zt, zn, zu, zr, zq] at hp
    exact hp
  · have a0 : ∀ c : Int, h' 87 c 6 = h 87 c 6 := fun c => he _ _ _ (by simp [sz_su, sx_in])
    have a1 : ∀ c : Int, h' 87 c 8 = h 87 c 8 := fun c => he _ _ _ (by simp [sz_su, sx_in])
    have a2 : ∀ c : Int, h' 87 c 12 = h 87 c 12 := fun c => he _ _ _ (by simp [sz_su, sx_in])
    unfold sz_pr
    simp only [zNW, zTP, zJF, zJL, zJD, zJV, zJX, zJW, zJA, zPCB, zNI, zPS, zPX, zOB, zFO, zFX, zNF, zJS, zJE, zJO, zJa, zJb, zJc, zJcz, zJd, zJdt, zJe, zJg, zUE, zUR, zNU, zAU, zAQ, zBQ, zHZ, zHN, zh, zRN, zUS, zNE, zNP, zLS, zLD, zPV, zPR, zOR, zRR, zOJ, zDN, zw, zt, zn, zu, zr, zq, a0, a1, a2]
    simp only [zNW, zTP, zJF, zJL, zJD, zJV, zJX, zJW, zJA, zPCB, zNI, zPS, zPX, zOB, zFO, zFX, zNF, zJS, zJE, zJO, zJa, zJb, zJc, zJcz, zJd, zJdt, zJe, zJg, zUE, zUR, zNU, zAU, zAQ, zBQ, zHZ, zHN, zh, zRN, zUS, zNE, zNP, zLS, zLD, zPV, zPR, zOR, zRR, zOJ, zDN, zw, zt, zn, zu, zr, zq] at hp
    exact hp
  · have a0 : ∀ c : Int, h' 87 c 8 = h 87 c 8 := fun c => he _ _ _ (by simp [sz_su, sx_in])
    unfold sz_pr
    simp only [zNW, zTP, zJF, zJL, zJD, zJV, zJX, zJW, zJA, zPCB, zNI, zPS, zPX, zOB, zFO, zFX, zNF, zJS, zJE, zJO, zJa, zJb, zJc, zJcz, zJd, zJdt, zJe, zJg, zUE, zUR, zNU, zAU, zAQ, zBQ, zHZ, zHN, zh, zRN, zUS, zNE, zNP, zLS, zLD, zPV, zPR, zOR, zRR, zOJ, zDN, zw, zt, zn, zu, zr, zq, a0]
    simp only [zNW, zTP, zJF, zJL, zJD, zJV, zJX, zJW, zJA, zPCB, zNI, zPS, zPX, zOB, zFO, zFX, zNF, zJS, zJE, zJO, zJa, zJb, zJc, zJcz, zJd, zJdt, zJe, zJg, zUE, zUR, zNU, zAU, zAQ, zBQ, zHZ, zHN, zh, zRN, zUS, zNE, zNP, zLS, zLD, zPV, zPR, zOR, zRR, zOJ, zDN, zw, zt, zn, zu, zr, zq] at hp
    exact hp
  · have a0 : ∀ c : Int, h' 87 c 6 = h 87 c 6 := fun c => he _ _ _ (by simp [sz_su, sx_in])
    have a1 : ∀ c : Int, h' 87 c 4 = h 87 c 4 := fun c => he _ _ _ (by simp [sz_su, sx_in])
    unfold sz_pr
    simp only [zNW, zTP, zJF, zJL, zJD, zJV, zJX, zJW, zJA, zPCB, zNI, zPS, zPX, zOB, zFO, zFX, zNF, zJS, zJE, zJO, zJa, zJb, zJc, zJcz, zJd, zJdt, zJe, zJg, zUE, zUR, zNU, zAU, zAQ, zBQ, zHZ, zHN, zh, zRN, zUS, zNE, zNP, zLS, zLD, zPV, zPR, zOR, zRR, zOJ, zDN, zw, zt, zn, zu, zr, zq, a0, a1]
    simp only [zNW, zTP, zJF, zJL, zJD, zJV, zJX, zJW, zJA, zPCB, zNI, zPS, zPX, zOB, zFO, zFX, zNF, zJS, zJE, zJO, zJa, zJb, zJc, zJcz, zJd, zJdt, zJe, zJg, zUE, zUR, zNU, zAU, zAQ, zBQ, zHZ, zHN, zh, zRN, zUS, zNE, zNP, zLS, zLD, zPV, zPR, zOR, zRR, zOJ, zDN, zw, zt, zn, zu, zr, zq] at hp
    exact hp
  · have a0 : ∀ c g : Int, h' 15 c g = h 15 c g := fun c g => he _ _ _ (by simp [sz_su, sx_in])
    have a1 : ∀ c g : Int, h' 16 c g = h 16 c g := fun c g => he _ _ _ (by simp [sz_su, sx_in])
    have a2 : ∀ c g : Int, h' 17 c g = h 17 c g := fun c g => he _ _ _ (by simp [sz_su, sx_in])
    unfold sz_pr
    simp only [zNW, zTP, zJF, zJL, zJD, zJV, zJX, zJW, zJA, zPCB, zNI, zPS, zPX, zOB, zFO, zFX, zNF, zJS, zJE, zJO, zJa, zJb, zJc, zJcz, zJd, zJdt, zJe, zJg, zUE, zUR, zNU, zAU, zAQ, zBQ, zHZ, zHN, zh, zRN, zUS, zNE, zNP, zLS, zLD, zPV, zPR, zOR, zRR, zOJ, zDN, zw, zt, zn, zu, zr, zq, a0, a1, a2]
    simp only [zNW, zTP, zJF, zJL, zJD, zJV, zJX, zJW, zJA, zPCB, zNI, zPS, zPX, zOB, zFO, zFX, zNF, zJS, zJE, zJO, zJa, zJb, zJc, zJcz, zJd, zJdt, zJe, zJg, zUE, zUR, zNU, zAU, zAQ, zBQ, zHZ, zHN, zh, zRN, zUS, zNE, zNP, zLS, zLD, zPV, zPR, zOR, zRR, zOJ, zDN, zw, zt, zn, zu, zr, zq] at hp
    exact hp
  · have a0 : ∀ c g : Int, h' 15 c g = h 15 c g := fun c g => he _ _ _ (by simp [sz_su, sx_in])
    have a1 : ∀ c g : Int, h' 16 c g = h 16 c g := fun c g => he _ _ _ (by simp [sz_su, sx_in])
    have a2 : ∀ c g : Int, h' 17 c g = h 17 c g := fun c g => he _ _ _ (by simp [sz_su, sx_in])
    unfold sz_pr
    simp only [zNW, zTP, zJF, zJL, zJD, zJV, zJX, zJW, zJA, zPCB, zNI, zPS, zPX, zOB, zFO, zFX, zNF, zJS, zJE, zJO, zJa, zJb, zJc, zJcz, zJd, zJdt, zJe, zJg, zUE, zUR, zNU, zAU, zAQ, zBQ, zHZ, zHN, zh, zRN, zUS, zNE, zNP, zLS, zLD, zPV, zPR, zOR, zRR, zOJ, zDN, zw, zt, zn, zu, zr, zq, a0, a1, a2]
    simp only [zNW, zTP, zJF, zJL, zJD, zJV, zJX, zJW, zJA, zPCB, zNI, zPS, zPX, zOB, zFO, zFX, zNF, zJS, zJE, zJO, zJa, zJb, zJc, zJcz, zJd, zJdt, zJe, zJg, zUE, zUR, zNU, zAU, zAQ, zBQ, zHZ, zHN, zh, zRN, zUS, zNE, zNP, zLS, zLD, zPV, zPR, zOR, zRR, zOJ, zDN, zw, zt, zn, zu, zr, zq] at hp
    exact hp
  · have a0 : ∀ c g : Int, h' 26 c g = h 26 c g := fun c g => he _ _ _ (by simp [sz_su, sx_in])
    have a1 : ∀ c g : Int, h' 20 c g = h 20 c g := fun c g => he _ _ _ (by simp [sz_su, sx_in])
    unfold sz_pr
    simp only [zNW, zTP, zJF, zJL, zJD, zJV, zJX, zJW, zJA, zPCB, zNI, zPS, zPX, zOB, zFO, zFX, zNF, zJS, zJE, zJO, zJa, zJb, zJc, zJcz, zJd, zJdt, zJe, zJg, zUE, zUR, zNU, zAU, zAQ, zBQ, zHZ, zHN, zh, zRN, zUS, zNE, zNP, zLS, zLD, zPV, zPR, zOR, zRR, zOJ, zDN, zw, zt, zn, zu, zr, zq, a0, a1]
    simp only [zNW, zTP, zJF, zJL, zJD, zJV, zJX, zJW, zJA, zPCB, zNI, zPS, zPX, zOB, zFO, zFX, zNF, zJS, zJE, zJO, zJa, zJb, zJc, zJcz, zJd, zJdt, zJe, zJg, zUE, zUR, zNU, zAU, zAQ, zBQ, zHZ, zHN, zh, zRN, zUS, zNE, zNP, zLS, zLD, zPV, zPR, zOR, zRR, zOJ, zDN, zw, zt, zn, zu, zr, zq] at hp
    exact hp
  · have a0 : ∀ c g : Int, h' 26 c g = h 26 c g := fun c g => he _ _ _ (by simp [sz_su, sx_in])
    have a1 : ∀ c g : Int, h' 20 c g = h 20 c g := fun c g => he _ _ _ (by simp [sz_su, sx_in])
    unfold sz_pr
    simp only [zNW, zTP, zJF, zJL, zJD, zJV, zJX, zJW, zJA, zPCB, zNI, zPS, zPX, zOB, zFO, zFX, zNF, zJS, zJE, zJO, zJa, zJb, zJc, zJcz, zJd, zJdt, zJe, zJg, zUE, zUR, zNU, zAU, zAQ, zBQ, zHZ, zHN, zh, zRN, zUS, zNE, zNP, zLS, zLD, zPV, zPR, zOR, zRR, zOJ, zDN, zw, zt, zn, zu, zr, zq, a0, a1]
    simp only [zNW, zTP, zJF, zJL, zJD, zJV, zJX, zJW, zJA, zPCB, zNI, zPS, zPX, zOB, zFO, zFX, zNF, zJS, zJE, zJO, zJa, zJb, zJc, zJcz, zJd, zJdt, zJe, zJg, zUE, zUR, zNU, zAU, zAQ, zBQ, zHZ, zHN, zh, zRN, zUS, zNE, zNP, zLS, zLD, zPV, zPR, zOR, zRR, zOJ, zDN, zw, zt, zn, zu, zr, zq] at hp
    exact hp
  · have a0 : ∀ c g : Int, h' 20 c g = h 20 c g := fun c g => he _ _ _ (by simp [sz_su, sx_in])
    unfold sz_pr
    simp only [zNW, zTP, zJF, zJL, zJD, zJV, zJX, zJW, zJA, zPCB, zNI, zPS, zPX, zOB, zFO, zFX, zNF, zJS, zJE, zJO, zJa, zJb, zJc, zJcz, zJd, zJdt, zJe, zJg, zUE, zUR, zNU, zAU, zAQ, zBQ, zHZ, zHN, zh, zRN, zUS, zNE, zNP, zLS, zLD, zPV, zPR, zOR, zRR, zOJ, zDN, zw, zt, zn, zu, zr, zq, a0]
    simp only [zNW, zTP, zJF, zJL, zJD, zJV, zJX, zJW, zJA, zPCB, zNI, zPS, zPX, zOB, zFO, zFX, zNF, zJS, zJE, zJO, zJa, zJb, zJc, zJcz, zJd, zJdt, zJe, zJg, zUE, zUR, zNU, zAU, zAQ, zBQ, zHZ, zHN, zh, zRN, zUS, zNE, zNP, zLS, zLD, zPV, zPR, zOR, zRR, zOJ, zDN, zw, zt, zn, zu, zr, zq] at hp
    exact hp
  · have a0 : ∀ c g : Int, h' 1 c g = h 1 c g := fun c g => he _ _ _ (by simp [sz_su, sx_in])
    unfold sz_pr
    simp only [zCF] at hp ⊢
    rw [zcf_ext (h 1 0) (h' 1 0) _ (fun i _ _ => a0 0 i)]
    exact hp
  · have a0 : ∀ c g : Int, h' 1 c g = h 1 c g := fun c g => he _ _ _ (by simp [sz_su, sx_in])
    unfold sz_pr
    simp only [zNW, zTP, zJF, zJL, zJD, zJV, zJX, zJW, zJA, zPCB, zNI, zPS, zPX, zOB, zFO, zFX, zNF, zJS, zJE, zJO, zJa, zJb, zJc, zJcz, zJd, zJdt, zJe, zJg, zUE, zUR, zNU, zAU, zAQ, zBQ, zHZ, zHN, zh, zRN, zUS, zNE, zNP, zLS, zLD, zPV, zPR, zOR, zRR, zOJ, zDN, zw, zt, zn, zu, zr, zq, a0]
    simp only [zNW, zTP, zJF, zJL, zJD, zJV, zJX, zJW, zJA, zPCB, zNI, zPS, zPX, zOB, zFO, zFX, zNF, zJS, zJE, zJO, zJa, zJb, zJc, zJcz, zJd, zJdt, zJe, zJg, zUE, zUR, zNU, zAU, zAQ, zBQ, zHZ, zHN, zh, zRN, zUS, zNE, zNP, zLS, zLD, zPV, zPR, zOR, zRR, zOJ, zDN, zw, zt, zn, zu, zr, zq] at hp
    exact hp
  · have a0 : ∀ c g : Int, h' 183 c g = h 183 c g := fun c g => he _ _ _ (by simp [sz_su, sx_in])
    unfold sz_pr
    simp only [zUE] at hp ⊢
    rw [zcu_ext (h 183 0) (h' 183 0) _ (fun i _ _ => a0 0 i)]
    exact hp
  · have a0 : ∀ c g : Int, h' 183 c g = h 183 c g := fun c g => he _ _ _ (by simp [sz_su, sx_in])
    have a1 : ∀ c g : Int, h' 136 c g = h 136 c g := fun c g => he _ _ _ (by simp [sz_su, sx_in])
    have a2 : ∀ c g : Int, h' 139 c g = h 139 c g := fun c g => he _ _ _ (by simp [sz_su, sx_in])
    have a3 : ∀ c g : Int, h' 140 c g = h 140 c g := fun c g => he _ _ _ (by simp [sz_su, sx_in])
    have a4 : ∀ c g : Int, h' 187 c g = h 187 c g := fun c g => he _ _ _ (by simp [sz_su, sx_in])
    have a5 : ∀ c g : Int, h' 188 c g = h 188 c g := fun c g => he _ _ _ (by simp [sz_su, sx_in])
    unfold sz_pr
    simp only [zUR] at hp ⊢
    rw [zcu_ext (h 183 0) (h' 183 0) _ (fun i _ _ => a0 0 i), zn_ext _ _ a1 a2 a3, zr_ext _ a4 a5]
    exact hp
  · have a0 : ∀ c g : Int, h' 183 c g = h 183 c g := fun c g => he _ _ _ (by simp [sz_su, sx_in])
    unfold sz_pr
    simp only [zNW, zTP, zJF, zJL, zJD, zJV, zJX, zJW, zJA, zPCB, zNI, zPS, zPX, zOB, zFO, zFX, zNF, zJS, zJE, zJO, zJa, zJb, zJc, zJcz, zJd, zJdt, zJe, zJg, zUE, zUR, zNU, zAU, zAQ, zBQ, zHZ, zHN, zh, zRN, zUS, zNE, zNP, zLS, zLD, zPV, zPR, zOR, zRR, zOJ, zDN, zw, zt, zn, zu, zr, zq, a0]
    simp only [zNW, zTP, zJF, zJL, zJD, zJV, zJX, zJW, zJA, zPCB, zNI, zPS, zPX, zOB, zFO, zFX, zNF, zJS, zJE, zJO, zJa, zJb, zJc, zJcz, zJd, zJdt, zJe, zJg, zUE, zUR, zNU, zAU, zAQ, zBQ, zHZ, zHN, zh, zRN, zUS, zNE, zNP, zLS, zLD, zPV, zPR, zOR, zRR, zOJ, zDN, zw, zt, zn, zu, zr, zq] at hp
    exact hp
  · have a0 : ∀ c g : Int, h' 183 c g = h 183 c g := fun c g => he _ _ _ (by simp [sz_su, sx_in])
    unfold sz_pr
    simp only [zNW, zTP, zJF, zJL, zJD, zJV, zJX, zJW, zJA, zPCB, zNI, zPS, zPX, zOB, zFO, zFX, zNF, zJS, zJE, zJO, zJa, zJb, zJc, zJcz, zJd, zJdt, zJe, zJg, zUE, zUR, zNU, zAU, zAQ, zBQ, zHZ, zHN, zh, zRN, zUS, zNE, zNP, zLS, zLD, zPV, zPR, zOR, zRR, zOJ, zDN, zw, zt, zn, zu, zr, zq, a0]
    simp only [zNW, zTP, zJF, zJL, zJD, zJV, zJX, zJW, zJA, zPCB, zNI, zPS, zPX, zOB, zFO, zFX, zNF, zJS, zJE, zJO, zJa, zJb, zJc, zJcz, zJd, zJdt, zJe, zJg, zUE, zUR, zNU, zAU, zAQ, zBQ, zHZ, zHN, zh, zRN, zUS, zNE, zNP, zLS, zLD, zPV, zPR, zOR, zRR, zOJ, zDN, zw, zt, zn, zu, zr, zq] at hp
    exact hp
  · have a0 : ∀ c g : Int, h' 139 c g = h 139 c g := fun c g => he _ _ _ (by simp [sz_su, sx_in])
    have a1 : ∀ c g : Int, h' 140 c g = h 140 c g := fun c g => he _ _ _ (by simp [sz_su, sx_in])
    unfold sz_pr
    simp only [zNW, zTP, zJF, zJL, zJD, zJV, zJX, zJW, zJA, zPCB, zNI, zPS, zPX, zOB, zFO, zFX, zNF, zJS, zJE, zJO, zJa, zJb, zJc, zJcz, zJd, zJdt, zJe, zJg, zUE, zUR, zNU, zAU, zAQ, zBQ, zHZ, zHN, zh, zRN, zUS, zNE, zNP, zLS, zLD, zPV, zPR, zOR, zRR, zOJ, zDN, zw, zt, zn, zu, zr, zq, a0, a1]
    simp only [zNW, zTP, zJF, zJL, zJD, zJV, zJX, zJW, zJA, zPCB, zNI, zPS, zPX, zOB, zFO, zFX, zNF, zJS, zJE, zJO, zJa, zJb, zJc, zJcz, zJd, zJdt, zJe, zJg, zUE, zUR, zNU, zAU, zAQ, zBQ, zHZ, zHN, zh, zRN, zUS, zNE, zNP, zLS, zLD, zPV, zPR, zOR, zRR, zOJ, zDN, zw, zt, zn, zu, zr, zq] at hp
    exact hp
  · have a0 : ∀ c g : Int, h' 136 c g = h 136 c g := fun c g => he _ _ _ (by simp [sz_su, sx_in])
    have a1 : ∀ c g : Int, h' 139 c g = h 139 c g := fun c g => he _ _ _ (by simp [sz_su, sx_in])
    have a2 : ∀ c g : Int, h' 140 c g = h 140 c g := fun c g => he _ _ _ (by simp [sz_su, sx_in])
    have a3 : ∀ c g : Int, h' 187 c g = h 187 c g := fun c g => he _ _ _ (by simp [sz_su, sx_in])
    have a4 : ∀ c g : Int, h' 188 c g = h 188 c g := fun c g => he _ _ _ (by simp [sz_su, sx_in])
    unfold sz_pr
    simp only [zNW, zTP, zJF, zJL, zJD, zJV, zJX, zJW, zJA, zPCB, zNI, zPS, zPX, zOB, zFO, zFX, zNF, zJS, zJE, zJO, zJa, zJb, zJc, zJcz, zJd, zJdt, zJe, zJg, zUE, zUR, zNU, zAU, zAQ, zBQ, zHZ, zHN, zh, zRN, zUS, zNE, zNP, zLS, zLD, zPV, zPR, zOR, zRR, zOJ, zDN, zw, zt, zn, zu, zr, zq, a0, a1, a2, a3, a4]
    simp only [zNW, zTP, zJF, zJL, zJD, zJV, zJX, zJW, zJA, zPCB, zNI, zPS, zPX, zOB, zFO, zFX, zNF, zJS, zJE, zJO, zJa, zJb, zJc, zJcz, zJd, zJdt, zJe, zJg, zUE, zUR, zNU, zAU, zAQ, zBQ, zHZ, zHN, zh, zRN, zUS, zNE, zNP, zLS, zLD, zPV, zPR, zOR, zRR, zOJ, zDN, zw, zt, zn, zu, zr, zq] at hp
    exact hp
  · have a0 : ∀ c g : Int, h' 187 c g = h 187 c g := fun c g => he _ _ _ (by simp [sz_su, sx_in])
    unfold sz_pr
    simp only [zNW, zTP, zJF, zJL, zJD, zJV, zJX, zJW, zJA, zPCB, zNI, zPS, zPX, zOB, zFO, zFX, zNF, zJS, zJE, zJO, zJa, zJb, zJc, zJcz, zJd, zJdt, zJe, zJg, zUE, zUR, zNU, zAU, zAQ, zBQ, zHZ, zHN, zh, zRN, zUS, zNE, zNP, zLS, zLD, zPV, zPR, zOR, zRR, zOJ, zDN, zw, zt, zn, zu, zr, zq, a0]
    simp only [zNW, zTP, zJF, zJL, zJD, zJV, zJX, zJW, zJA, zPCB, zNI, zPS, zPX, zOB, zFO, zFX, zNF, zJS, zJE, zJO, zJa, zJb, zJc, zJcz, zJd, zJdt, zJe, zJg, zUE, zUR, zNU, zAU, zAQ, zBQ, zHZ, zHN, zh, zRN, zUS, zNE, zNP, zLS, zLD, zPV, zPR, zOR, zRR, zOJ, zDN, zw, zt, zn, zu, zr, zq] at hp
    exact hp
  · have a0 : ∀ c g : Int, h' 187 c g = h 187 c g := fun c g => he _ _ _ (by simp [sz_su, sx_in])
    unfold sz_pr
    simp only [zNW, zTP, zJF, zJL, zJD, zJV, zJX, zJW, zJA, zPCB, zNI, zPS, zPX, zOB, zFO, zFX, zNF, zJS, zJE, zJO, zJa, zJb, zJc, zJcz, zJd, zJdt, zJe, zJg, zUE, zUR, zNU, zAU, zAQ, zBQ, zHZ, zHN, zh, zRN, zUS, zNE, zNP, zLS, zLD, zPV, zPR, zOR, zRR, zOJ, zDN, zw, zt, zn, zu, zr, zq, a0]
    simp only [zNW, zTP, zJF, zJL, zJD, zJV, zJX, zJW, zJA, zPCB, zNI, zPS, zPX, zOB, zFO, zFX, zNF, zJS, zJE, zJO, zJa, zJb, zJc, zJcz, zJd, zJdt, zJe, zJg, zUE, zUR, zNU, zAU, zAQ, zBQ, zHZ, zHN, zh, zRN, zUS, zNE, zNP, zLS, zLD, zPV, zPR, zOR, zRR, zOJ, zDN, zw, zt, zn, zu, zr, zq] at hp
    exact hp
  · have a0 : ∀ c g : Int, h' 104 c g = h 104 c g := fun c g => he _ _ _ (by simp [sz_su, sx_in])
    unfold sz_pr
    simp only [zNW, zTP, zJF, zJL, zJD, zJV, zJX, zJW, zJA, zPCB, zNI, zPS, zPX, zOB, zFO, zFX, zNF, zJS, zJE, zJO, zJa, zJb, zJc, zJcz, zJd, zJdt, zJe, zJg, zUE, zUR, zNU, zAU, zAQ, zBQ, zHZ, zHN, zh, zRN, zUS, zNE, zNP, zLS, zLD, zPV, zPR, zOR, zRR, zOJ, zDN, zw, zt, zn, zu, zr, zq, a0]
    simp only [zNW, zTP, zJF, zJL, zJD, zJV, zJX, zJW, zJA, zPCB, zNI, zPS, zPX, zOB, zFO, zFX, zNF, zJS, zJE, zJO, zJa, zJb, zJc, zJcz, zJd, zJdt, zJe, zJg, zUE, zUR, zNU, zAU, zAQ, zBQ, zHZ, zHN, zh, zRN, zUS, zNE, zNP, zLS, zLD, zPV, zPR, zOR, zRR, zOJ, zDN, zw, zt, zn, zu, zr, zq] at hp
    exact hp
  · have a0 : ∀ c g : Int, h' 183 c g = h 183 c g := fun c g => he _ _ _ (by simp [sz_su, sx_in])
    unfold sz_pr
    simp only [zNW, zTP, zJF, zJL, zJD, zJV, zJX, zJW, zJA, zPCB, zNI, zPS, zPX, zOB, zFO, zFX, zNF, zJS, zJE, zJO, zJa, zJb, zJc, zJcz, zJd, zJdt, zJe, zJg, zUE, zUR, zNU, zAU, zAQ, zBQ, zHZ, zHN, zh, zRN, zUS, zNE, zNP, zLS, zLD, zPV, zPR, zOR, zRR, zOJ, zDN, zw, zt, zn, zu, zr, zq, a0]
    simp only [zNW, zTP, zJF, zJL, zJD, zJV, zJX, zJW, zJA, zPCB, zNI, zPS, zPX, zOB, zFO, zFX, zNF, zJS, zJE, zJO, zJa, zJb, zJc, zJcz, zJd, zJdt, zJe, zJg, zUE, zUR, zNU, zAU, zAQ, zBQ, zHZ, zHN, zh, zRN, zUS, zNE, zNP, zLS, zLD, zPV, zPR, zOR, zRR, zOJ, zDN, zw, zt, zn, zu, zr, zq] at hp
    exact hp
  ·     exact hp
  · have a0 : ∀ c g : Int, h' 102 c g = h 102 c g := fun c g => he _ _ _ (by simp [sz_su, sx_in])
    have a1 : ∀ c g : Int, h' 103 c g = h 103 c g := fun c g => he _ _ _ (by simp [sz_su, sx_in])
    unfold sz_pr
    simp only [zRC] at hp ⊢
    rw [zrc_ext (h 102 0) (h 103 0) (h' 102 0) (h' 103 0) _ (fun i => a0 0 i) (fun i => a1 0 i)]
    exact hp
  · have a0 : ∀ c g : Int, h' 102 c g = h 102 c g := fun c g => he _ _ _ (by simp [sz_su, sx_in])
    have a1 : ∀ c g : Int, h' 103 c g = h 103 c g := fun c g => he _ _ _ (by simp [sz_su, sx_in])
    unfold sz_pr
    simp only [zNW, zTP, zJF, zJL, zJD, zJV, zJX, zJW, zJA, zPCB, zNI, zPS, zPX, zOB, zFO, zFX, zNF, zJS, zJE, zJO, zJa, zJb, zJc, zJcz, zJd, zJdt, zJe, zJg, zUE, zUR, zNU, zAU, zAQ, zBQ, zHZ, zHN, zh, zRN, zUS, zNE, zNP, zLS, zLD, zPV, zPR, zOR, zRR, zOJ, zDN, zw, zt, zn, zu, zr, zq, a0, a1]
    simp only [zNW, zTP, zJF, zJL, zJD, zJV, zJX, zJW, zJA, zPCB, zNI, zPS, zPX, zOB, zFO, zFX, zNF, zJS, zJE, zJO, zJa, zJb, zJc, zJcz, zJd, zJdt, zJe, zJg, zUE, zUR, zNU, zAU, zAQ, zBQ, zHZ, zHN, zh, zRN, zUS, zNE, zNP, zLS, zLD, zPV, zPR, zOR, zRR, zOJ, zDN, zw, zt, zn, zu, zr, zq] at hp
    exact hp
  · have a0 : ∀ c g : Int, h' 122 c g = h 122 c g := fun c g => he _ _ _ (by simp [sz_su, sx_in])
    have a1 : ∀ c g : Int, h' 125 c g = h 125 c g := fun c g => he _ _ _ (by simp [sz_su, sx_in])
    unfold sz_pr
    simp only [zNW, zTP, zJF, zJL, zJD, zJV, zJX, zJW, zJA, zPCB, zNI, zPS, zPX, zOB, zFO, zFX, zNF, zJS, zJE, zJO, zJa, zJb, zJc, zJcz, zJd, zJdt, zJe, zJg, zUE, zUR, zNU, zAU, zAQ, zBQ, zHZ, zHN, zh, zRN, zUS, zNE, zNP, zLS, zLD, zPV, zPR, zOR, zRR, zOJ, zDN, zw, zt, zn, zu, zr, zq, a0, a1]
    simp only [zNW, zTP, zJF, zJL, zJD, zJV, zJX, zJW, zJA, zPCB, zNI, zPS, zPX, zOB, zFO, zFX, zNF, zJS, zJE, zJO, zJa, zJb, zJc, zJcz, zJd, zJdt, zJe, zJg, zUE, zUR, zNU, zAU, zAQ, zBQ, zHZ, zHN, zh, zRN, zUS, zNE, zNP, zLS, zLD, zPV, zPR, zOR, zRR, zOJ, zDN, zw, zt, zn, zu, zr, zq] at hp
    exact hp
  · have a0 : ∀ c g : Int, h' 122 c g = h 122 c g := fun c g => he _ _ _ (by simp [sz_su, sx_in])
    have a1 : ∀ c g : Int, h' 125 c g = h 125 c g := fun c g => he _ _ _ (by simp [sz_su, sx_in])
    unfold sz_pr
    simp only [zNW, zTP, zJF, zJL, zJD, zJV, zJX, zJW, zJA, zPCB, zNI, zPS, zPX, zOB, zFO, zFX, zNF, zJS, zJE, zJO, zJa, zJb, zJc, zJcz, zJd, zJdt, zJe, zJg, zUE, zUR, zNU, zAU, zAQ, zBQ, zHZ, zHN, zh, zRN, zUS, zNE, zNP, zLS, zLD, zPV, zPR, zOR, zRR, zOJ, zDN, zw, zt, zn, zu, zr, zq, a0, a1]
    simp only [zNW, zTP, zJF, zJL, zJD, zJV, zJX, zJW, zJA, zPCB, zNI, zPS, zPX, zOB, zFO, zFX, zNF, zJS, zJE, zJO, zJa, zJb, zJc, zJcz, zJd, zJdt, zJe, zJg, zUE, zUR, zNU, zAU, zAQ, zBQ, zHZ, zHN, zh, zRN, zUS, zNE, zNP, zLS, zLD, zPV, zPR, zOR, zRR, zOJ, zDN, zw, zt, zn, zu, zr, zq] at hp
    exact hp
  · have a0 : ∀ c g : Int, h' 119 c g = h 119 c g := fun c g => he _ _ _ (by simp [sz_su, sx_in])
    have a1 : ∀ c g : Int, h' 129 c g = h 129 c g := fun c g => he _ _ _ (by simp [sz_su, sx_in])
    have a2 : ∀ c g : Int, h' 131 c g = h 131 c g := fun c g => he _ _ _ (by simp [sz_su, sx_in])
    have a3 : ∀ c g : Int, h' 132 c g = h 132 c g := fun c g => he _ _ _ (by simp [sz_su, sx_in])
    unfold sz_pr
    simp only [zNW, zTP, zJF, zJL, zJD, zJV, zJX, zJW, zJA, zPCB, zNI, zPS, zPX, zOB, zFO, zFX, zNF, zJS, zJE, zJO, zJa, zJb, zJc, zJcz, zJd, zJdt, zJe, zJg, zUE, zUR, zNU, zAU, zAQ, zBQ, zHZ, zHN, zh, zRN, zUS, zNE, zNP, zLS, zLD, zPV, zPR, zOR, zRR, zOJ, zDN, zw, zt, zn, zu, zr, zq, a0, a1, a2, a3]
    simp only [zNW, zTP, zJF, zJL, zJD, zJV, zJX, zJW, zJA, zPCB, zNI, zPS, zPX, zOB, zFO, zFX, zNF, zJS, zJE, zJO, zJa, zJb, zJc, zJcz, zJd, zJdt, zJe, zJg, zUE, zUR, zNU, zAU, zAQ, zBQ, zHZ, zHN, zh, zRN, zUS, zNE, zNP, zLS, zLD, zPV, zPR, zOR, zRR, zOJ, zDN, zw, zt, zn, zu, zr, zq] at hp
    exact hp
  · have a0 : ∀ c g : Int, h' 129 c g = h 129 c g := fun c g => he _ _ _ (by simp [sz_su, sx_in])
    have a1 : ∀ c g : Int, h' 131 c g = h 131 c g := fun c g => he _ _ _ (by simp [sz_su, sx_in])
    have a2 : ∀ c g : Int, h' 132 c g = h 132 c g := fun c g => he _ _ _ (by simp [sz_su, sx_in])
    unfold sz_pr
    simp only [zNW, zTP, zJF, zJL, zJD, zJV, zJX, zJW, zJA, zPCB, zNI, zPS, zPX, zOB, zFO, zFX, zNF, zJS, zJE, zJO, zJa, zJb, zJc, zJcz, zJd, zJdt, zJe, zJg, zUE, zUR, zNU, zAU, zAQ, zBQ, zHZ, zHN, zh, zRN, zUS, zNE, zNP, zLS, zLD, zPV, zPR, zOR, zRR, zOJ, zDN, zw, zt, zn, zu, zr, zq, a0, a1, a2]
    simp only [zNW, zTP, zJF, zJL, zJD, zJV, zJX, zJW, zJA, zPCB, zNI, zPS, zPX, zOB, zFO, zFX, zNF, zJS, zJE, zJO, zJa, zJb, zJc, zJcz, zJd, zJdt, zJe, zJg, zUE, zUR, zNU, zAU, zAQ, zBQ, zHZ, zHN, zh, zRN, zUS, zNE, zNP, zLS, zLD, zPV, zPR, zOR, zRR, zOJ, zDN, zw, zt, zn, zu, zr, zq] at hp
    exact hp
  · have a0 : ∀ c g : Int, h' 104 c g = h 104 c g := fun c g => he _ _ _ (by simp [sz_su, sx_in])
    unfold sz_pr
    simp only [zNW, zTP, zJF, zJL, zJD, zJV, zJX, zJW, zJA, zPCB, zNI, zPS, zPX, zOB, zFO, zFX, zNF, zJS, zJE, zJO, zJa, zJb, zJc, zJcz, zJd, zJdt, zJe, zJg, zUE, zUR, zNU, zAU, zAQ, zBQ, zHZ, zHN, zh, zRN, zUS, zNE, zNP, zLS, zLD, zPV, zPR, zOR, zRR, zOJ, zDN, zw, zt, zn, zu, zr, zq, a0]
    simp only [zNW, zTP, zJF, zJL, zJD, zJV, zJX, zJW, zJA, zPCB, zNI, zPS, zPX, zOB, zFO, zFX, zNF, zJS, zJE, zJO, zJa, zJb, zJc, zJcz, zJd, zJdt, zJe, zJg, zUE, zUR, zNU, zAU, zAQ, zBQ, zHZ, zHN, zh, zRN, zUS, zNE, zNP, zLS, zLD, zPV, zPR, zOR, zRR, zOJ, zDN, zw, zt, zn, zu, zr, zq] at hp
    exact hp
  · have a0 : ∀ c : Int, h' 92 c 107 = h 92 c 107 := fun c => he _ _ _ (by simp [sz_su, sx_in])
    have a1 : ∀ c g : Int, h' 104 c g = h 104 c g := fun c g => he _ _ _ (by simp [sz_su, sx_in])
    unfold sz_pr
    simp only [zNW, zTP, zJF, zJL, zJD, zJV, zJX, zJW, zJA, zPCB, zNI, zPS, zPX, zOB, zFO, zFX, zNF, zJS, zJE, zJO, zJa, zJb, zJc, zJcz, zJd, zJdt, zJe, zJg, zUE, zUR, zNU, zAU, zAQ, zBQ, zHZ, zHN, zh, zRN, zUS, zNE, zNP, zLS, zLD, zPV, zPR, zOR, zRR, zOJ, zDN, zw, zt, zn, zu, zr, zq, a0, a1]
    simp only [zNW, zTP, zJF, zJL, zJD, zJV, zJX, zJW, zJA, zPCB, zNI, zPS, zPX, zOB, zFO, zFX, zNF, zJS, zJE, zJO, zJa, zJb, zJc, zJcz, zJd, zJdt, zJe, zJg, zUE, zUR, zNU, zAU, zAQ, zBQ, zHZ, zHN, zh, zRN, zUS, zNE, zNP, zLS, zLD, zPV, zPR, zOR, zRR, zOJ, zDN, zw, zt, zn, zu, zr, zq] at hp
    exact hp
  · have a0 : ∀ c : Int, h' 92 c 18 = h 92 c 18 := fun c => he _ _ _ (by simp [sz_su, sx_in])
    have a1 : ∀ c g : Int, h' 104 c g = h 104 c g := fun c g => he _ _ _ (by simp [sz_su, sx_in])
    have a2 : ∀ c g : Int, h' 183 c g = h 183 c g := fun c g => he _ _ _ (by simp [sz_su, sx_in])
    unfold sz_pr
    simp only [zNW, zTP, zJF, zJL, zJD, zJV, zJX, zJW, zJA, zPCB, zNI, zPS, zPX, zOB, zFO, zFX, zNF, zJS, zJE, zJO, zJa, zJb, zJc, zJcz, zJd, zJdt, zJe, zJg, zUE, zUR, zNU, zAU, zAQ, zBQ, zHZ, zHN, zh, zRN, zUS, zNE, zNP, zLS, zLD, zPV, zPR, zOR, zRR, zOJ, zDN, zw, zt, zn, zu, zr, zq, a0, a1, a2]
    simp only [zNW, zTP, zJF, zJL, zJD, zJV, zJX, zJW, zJA, zPCB, zNI, zPS, zPX, zOB, zFO, zFX, zNF, zJS, zJE, zJO, zJa, zJb, zJc, zJcz, zJd, zJdt, zJe, zJg, zUE, zUR, zNU, zAU, zAQ, zBQ, zHZ, zHN, zh, zRN, zUS, zNE, zNP, zLS, zLD, zPV, zPR, zOR, zRR, zOJ, zDN, zw, zt, zn, zu, zr, zq] at hp
    exact hp
  · have a0 : ∀ c g : Int, h' 104 c g = h 104 c g := fun c g => he _ _ _ (by simp [sz_su, sx_in])
    unfold sz_pr
    simp only [zNW, zTP, zJF, zJL, zJD, zJV, zJX, zJW, zJA, zPCB, zNI, zPS, zPX, zOB, zFO, zFX, zNF, zJS, zJE, zJO, zJa, zJb, zJc, zJcz, zJd, zJdt, zJe, zJg, zUE, zUR, zNU, zAU, zAQ, zBQ, zHZ, zHN, zh, zRN, zUS, zNE, zNP, zLS, zLD, zPV, zPR, zOR, zRR, zOJ, zDN, zw, zt, zn, zu, zr, zq, a0]
    simp only [zNW, zTP, zJF, zJL, zJD, zJV, zJX, zJW, zJA, zPCB, zNI, zPS, zPX, zOB, zFO, zFX, zNF, zJS, zJE, zJO, zJa, zJb, zJc, zJcz, zJd, zJdt, zJe, zJg, zUE, zUR, zNU, zAU, zAQ, zBQ, zHZ, zHN, zh, zRN, zUS, zNE, zNP, zLS, zLD, zPV, zPR, zOR, zRR, zOJ, zDN, zw, zt, zn, zu, zr, zq] at hp
    exact hp
  · exact hp.elim
