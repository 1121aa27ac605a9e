/-! fold and product over the integers: the product written by wip/gen/ar2.py -/
theorem us_s (a : Nat → Int) (fr k : Nat) : us a fr (k + 1) = us a fr k + a (fr + k) * tp k := rfl
def fzJ (a : Nat → Int) (h : Int) (i : Nat) (wz : Nat → Int) : Nat → (Nat → Int)
  | 0 => a
  | j + 1 => zU (fzJ a h i wz j) (i + j) (fzJ a h i wz j (i + j) + h * wz j)
def fzI (a : Nat → Int) (nw : Nat) (wz : Nat → Int) : Nat → (Nat → Int)
  | 0 => a
  | i + 1 => fzJ (zU (fzI a nw wz i) (10 + i) 0) (fzI a nw wz i (10 + i)) i wz nw
theorem foJ_oF (a : Nat → Int) (h : Int) (i : Nat) (wz : Nat → Int) : ∀ j, foJ (oF a) (Int64.ofInt h) i (oF wz) j = oF (fzJ a h i wz j)
  | 0 => rfl
  | j + 1 => by
    rw [foJ, foJ_oF a h i wz j, fzJ, ← oF_up, Int64.ofInt_add, Int64.ofInt_mul]
    rfl
theorem foI_oF (a : Nat → Int) (nw : Nat) (wz : Nat → Int) : ∀ i, foI (oF a) nw (oF wz) i = oF (fzI a nw wz i)
  | 0 => rfl
  | i + 1 => by
    rw [foI, foI_oF a nw wz i, fzI, ← foJ_oF, ← oF_up]
    rfl
theorem fzJ_at (a : Nat → Int) (h : Int) (i : Nat) (wz : Nat → Int) (x : Nat) : ∀ j, fzJ a h i wz j x = if i ≤ x ∧ x < i + j then a x + h * wz (x - i) else a x
  | 0 => by rw [fzJ, if_neg (by omega)]
  | j + 1 => by
    rw [fzJ]
    by_cases hx : x = i + j
    · subst hx
      rw [zU_s, fzJ_at a h i wz (i + j) j, if_neg (by omega), if_pos (by omega), show i + j - i = j by omega]
    · rw [zU_n _ _ hx, fzJ_at a h i wz x j]
      by_cases h2 : i ≤ x ∧ x < i + j
      · rw [if_pos h2, if_pos (by omega)]
      · rw [if_neg h2, if_neg (by omega)]
theorem fzJ_val (a : Nat → Int) (h : Int) (i : Nat) (wz : Nat → Int) : ∀ j, i + j ≤ 20 → us (fzJ a h i wz j) 0 20 = us a 0 20 + h * tp i * us wz 0 j
  | 0, _ => by simp [fzJ, us]
  | j + 1, hj => by
    have e := us_up (fzJ a h i wz j) 0 (i + j) (fzJ a h i wz j (i + j) + h * wz j) 20 (by omega)
    rw [Nat.zero_add] at e
    rw [fzJ, e, fzJ_val a h i wz j (by omega), us_s wz 0 j, tp_add, Nat.zero_add]
    generalize tp i = s
    generalize tp j = t
    generalize us wz 0 j = u
    generalize us a 0 20 = v
    generalize fzJ a h i wz j (i + j) = y
    clear e
    grind
theorem fzI_far (a : Nat → Int) {nw : Nat} (hn : nw ≤ 9) (wz : Nat → Int) (x : Nat) : ∀ i, 10 + i ≤ x → fzI a nw wz i x = a x
  | 0, _ => rfl
  | i + 1, h => by rw [fzI, fzJ_at, if_neg (by omega), zU_n _ _ (by omega), fzI_far a hn wz x i (by omega)]
theorem fzI_zero (a : Nat → Int) {nw : Nat} (hn : nw ≤ 9) (wz : Nat → Int) (x : Nat) (h10 : 10 ≤ x) : ∀ i, x < 10 + i → i + nw ≤ x + 1 → fzI a nw wz i x = 0
  | 0, h, _ => absurd h (by omega)
  | i + 1, h, h2 => by
    rw [fzI, fzJ_at, if_neg (by omega)]
    by_cases hx : x = 10 + i
    · subst hx
      exact zU_s _ _ _
    · rw [zU_n _ _ hx]
      exact fzI_zero a hn wz x h10 i (by omega) (by omega)
theorem fzI_val (a : Nat → Int) {nw : Nat} (hn : nw ≤ 9) (wz : Nat → Int) : ∀ i, i ≤ 10 → us (fzI a nw wz i) 0 20 = us a 0 20 - (tp 10 - us wz 0 nw) * us a 10 i
  | 0, _ => by simp [fzI, us]
  | i + 1, h => by
    have e := us_up (fzI a nw wz i) 0 (10 + i) 0 20 (by omega)
    rw [Nat.zero_add] at e
    rw [fzI, fzJ_val _ _ _ _ _ (by omega), e, fzI_val a hn wz i (by omega), us_s a 10 i, fzI_far a hn wz (10 + i) i (by omega), tp_add]
    generalize tp i = s
    generalize tp 10 = t
    generalize us wz 0 nw = u
    generalize us a 0 20 = v
    generalize us a 10 i = y
    generalize a (10 + i) = z
    clear e
    grind
/-- the sum of what is folded -/
def sH (a : Nat → Int) : Nat → Int
  | 0 => 0
  | i + 1 => sH a i + (a (10 + i)).natAbs
theorem ab_mul {a b A B : Int} (ha : -A ≤ a ∧ a ≤ A) (hb : -B ≤ b ∧ b ≤ B) : -(A * B) ≤ a * b ∧ a * b ≤ A * B := by
  have hA : 0 ≤ A := by omega
  have hB : 0 ≤ B := by omega
  have h1 : (a * b).natAbs = a.natAbs * b.natAbs := Int.natAbs_mul a b
  have h2 : a.natAbs ≤ A.natAbs := by omega
  have h3 : b.natAbs ≤ B.natAbs := by omega
  have h4 := Nat.mul_le_mul h2 h3
  have h5 : (A * B).natAbs = A.natAbs * B.natAbs := Int.natAbs_mul A B
  have h6 : 0 ≤ A * B := Int.mul_nonneg hA hB
  omega
theorem fzI_bd (a : Nat → Int) {nw : Nat} (hn : nw ≤ 9) (wz : Nat → Int) {A Wm : Int} (hA : ∀ x, x < 20 → -A ≤ a x ∧ a x ≤ A) (hA0 : 0 ≤ A) (hw : ∀ j, j < nw → 0 ≤ wz j ∧ wz j ≤ Wm) (hW0 : 0 ≤ Wm) (x : Nat) (hx : x < 20) : ∀ i, i ≤ 10 → -(A + sH a i * Wm) ≤ fzI a nw wz i x ∧ fzI a nw wz i x ≤ A + sH a i * Wm
  | 0, _ => by
    have := hA x hx
    rw [fzI, sH, Int.zero_mul]
    omega
  | i + 1, h => by
    have ih := fzI_bd a hn wz hA hA0 hw hW0 x hx i (by omega)
    rw [fzI, fzJ_at, fzI_far a hn wz (10 + i) i (by omega), sH, Int.add_mul]
    have hs : 0 ≤ sH a i * Wm := Int.mul_nonneg (by clear ih hA hw h; induction i with
      | zero => exact Int.le_refl 0
      | succ i ih => rw [sH]; omega) hW0
    have ha : 0 ≤ ((a (10 + i)).natAbs : Int) * Wm := Int.mul_nonneg (by omega) hW0
    have hz : -(A + sH a i * Wm) ≤ zU (fzI a nw wz i) (10 + i) 0 x ∧ zU (fzI a nw wz i) (10 + i) 0 x ≤ A + sH a i * Wm := by
      by_cases e : x = 10 + i
      · subst e
        rw [zU_s]
        omega
      · rw [zU_n _ _ e]
        exact ih
    split
    · next hc =>
      have hw2 := hw (x - i) (by omega)
      have := ab_mul (a := a (10 + i)) (A := ((a (10 + i)).natAbs : Int)) (b := wz (x - i)) (B := Wm) (by omega) (by omega)
      omega
    · omega
/-- limbs not beyond B: the sum of the powers -/
theorem us_geo {a : Nat → Int} {fr : Nat} {B : Int} (hB : 0 ≤ B) : ∀ k, (∀ j, j < k → -B ≤ a (fr + j) ∧ a (fr + j) ≤ B) → -(B * (tp k - 1)) ≤ 67108863 * us a fr k ∧ 67108863 * us a fr k ≤ B * (tp k - 1)
  | 0, _ => by simp [us, tp_0]
  | k + 1, h => by
    have ih := us_geo hB k (fun j hj => h j (by omega))
    have h1 := h k (by omega)
    rw [us, tp_s]
    have hp := tp_pos k
    have h2 := ab_mul h1 (b := tp k) (B := tp k) (by omega)
    rw [Int.mul_sub, Int.mul_one] at ih ⊢
    rw [← Int.mul_assoc]
    generalize B * tp k = z at *
    generalize a (fr + k) * tp k = y at *
    generalize us a fr k = u at *
    omega
/-- the bare sums of products, over the integers -/
def prZ (ga gb : Nat → Int) (j : Nat) : Int := match j with
  | 0 => ((ga 0) * (gb 0))
  | 1 => (((ga 0) * (gb 1)) + ((ga 1) * (gb 0)))
  | 2 => ((((ga 0) * (gb 2)) + ((ga 1) * (gb 1))) + ((ga 2) * (gb 0)))
  | 3 => (((((ga 0) * (gb 3)) + ((ga 1) * (gb 2))) + ((ga 2) * (gb 1))) + ((ga 3) * (gb 0)))
  | 4 => ((((((ga 0) * (gb 4)) + ((ga 1) * (gb 3))) + ((ga 2) * (gb 2))) + ((ga 3) * (gb 1))) + ((ga 4) * (gb 0)))
  | 5 => (((((((ga 0) * (gb 5)) + ((ga 1) * (gb 4))) + ((ga 2) * (gb 3))) + ((ga 3) * (gb 2))) + ((ga 4) * (gb 1))) + ((ga 5) * (gb 0)))
  | 6 => ((((((((ga 0) * (gb 6)) + ((ga 1) * (gb 5))) + ((ga 2) * (gb 4))) + ((ga 3) * (gb 3))) + ((ga 4) * (gb 2))) + ((ga 5) * (gb 1))) + ((ga 6) * (gb 0)))
  | 7 => (((((((((ga 0) * (gb 7)) + ((ga 1) * (gb 6))) + ((ga 2) * (gb 5))) + ((ga 3) * (gb 4))) + ((ga 4) * (gb 3))) + ((ga 5) * (gb 2))) + ((ga 6) * (gb 1))) + ((ga 7) * (gb 0)))
  | 8 => ((((((((((ga 0) * (gb 8)) + ((ga 1) * (gb 7))) + ((ga 2) * (gb 6))) + ((ga 3) * (gb 5))) + ((ga 4) * (gb 4))) + ((ga 5) * (gb 3))) + ((ga 6) * (gb 2))) + ((ga 7) * (gb 1))) + ((ga 8) * (gb 0)))
  | 9 => (((((((((((ga 0) * (gb 9)) + ((ga 1) * (gb 8))) + ((ga 2) * (gb 7))) + ((ga 3) * (gb 6))) + ((ga 4) * (gb 5))) + ((ga 5) * (gb 4))) + ((ga 6) * (gb 3))) + ((ga 7) * (gb 2))) + ((ga 8) * (gb 1))) + ((ga 9) * (gb 0)))
  | 10 => ((((((((((ga 1) * (gb 9)) + ((ga 2) * (gb 8))) + ((ga 3) * (gb 7))) + ((ga 4) * (gb 6))) + ((ga 5) * (gb 5))) + ((ga 6) * (gb 4))) + ((ga 7) * (gb 3))) + ((ga 8) * (gb 2))) + ((ga 9) * (gb 1)))
  | 11 => (((((((((ga 2) * (gb 9)) + ((ga 3) * (gb 8))) + ((ga 4) * (gb 7))) + ((ga 5) * (gb 6))) + ((ga 6) * (gb 5))) + ((ga 7) * (gb 4))) + ((ga 8) * (gb 3))) + ((ga 9) * (gb 2)))
  | 12 => ((((((((ga 3) * (gb 9)) + ((ga 4) * (gb 8))) + ((ga 5) * (gb 7))) + ((ga 6) * (gb 6))) + ((ga 7) * (gb 5))) + ((ga 8) * (gb 4))) + ((ga 9) * (gb 3)))
  | 13 => (((((((ga 4) * (gb 9)) + ((ga 5) * (gb 8))) + ((ga 6) * (gb 7))) + ((ga 7) * (gb 6))) + ((ga 8) * (gb 5))) + ((ga 9) * (gb 4)))
  | 14 => ((((((ga 5) * (gb 9)) + ((ga 6) * (gb 8))) + ((ga 7) * (gb 7))) + ((ga 8) * (gb 6))) + ((ga 9) * (gb 5)))
  | 15 => (((((ga 6) * (gb 9)) + ((ga 7) * (gb 8))) + ((ga 8) * (gb 7))) + ((ga 9) * (gb 6)))
  | 16 => ((((ga 7) * (gb 9)) + ((ga 8) * (gb 8))) + ((ga 9) * (gb 7)))
  | 17 => (((ga 8) * (gb 9)) + ((ga 9) * (gb 8)))
  | 18 => ((ga 9) * (gb 9))
  | _ => 0
theorem prF_oF (a b : Nat → Int) : prF (oF a) (oF b) = oF (prZ a b) := by
  funext j
  match j with
  | 0 => simp only [prF, prZ, oF, Int64.ofInt_add, Int64.ofInt_mul]
  | 1 => simp only [prF, prZ, oF, Int64.ofInt_add, Int64.ofInt_mul]
  | 2 => simp only [prF, prZ, oF, Int64.ofInt_add, Int64.ofInt_mul]
  | 3 => simp only [prF, prZ, oF, Int64.ofInt_add, Int64.ofInt_mul]
  | 4 => simp only [prF, prZ, oF, Int64.ofInt_add, Int64.ofInt_mul]
  | 5 => simp only [prF, prZ, oF, Int64.ofInt_add, Int64.ofInt_mul]
  | 6 => simp only [prF, prZ, oF, Int64.ofInt_add, Int64.ofInt_mul]
  | 7 => simp only [prF, prZ, oF, Int64.ofInt_add, Int64.ofInt_mul]
  | 8 => simp only [prF, prZ, oF, Int64.ofInt_add, Int64.ofInt_mul]
  | 9 => simp only [prF, prZ, oF, Int64.ofInt_add, Int64.ofInt_mul]
  | 10 => simp only [prF, prZ, oF, Int64.ofInt_add, Int64.ofInt_mul]
  | 11 => simp only [prF, prZ, oF, Int64.ofInt_add, Int64.ofInt_mul]
  | 12 => simp only [prF, prZ, oF, Int64.ofInt_add, Int64.ofInt_mul]
  | 13 => simp only [prF, prZ, oF, Int64.ofInt_add, Int64.ofInt_mul]
  | 14 => simp only [prF, prZ, oF, Int64.ofInt_add, Int64.ofInt_mul]
  | 15 => simp only [prF, prZ, oF, Int64.ofInt_add, Int64.ofInt_mul]
  | 16 => simp only [prF, prZ, oF, Int64.ofInt_add, Int64.ofInt_mul]
  | 17 => simp only [prF, prZ, oF, Int64.ofInt_add, Int64.ofInt_mul]
  | 18 => simp only [prF, prZ, oF, Int64.ofInt_add, Int64.ofInt_mul]
  | 19 => rfl
  | j + 20 => rfl
set_option maxHeartbeats 4000000 in
theorem pr_poly (t a0 a1 a2 a3 a4 a5 a6 a7 a8 a9 b0 b1 b2 b3 b4 b5 b6 b7 b8 b9 : Int) : ((a0 * b0)) * t ^ 0 + (((a0 * b1) + (a1 * b0))) * t ^ 1 + ((((a0 * b2) + (a1 * b1)) + (a2 * b0))) * t ^ 2 + (((((a0 * b3) + (a1 * b2)) + (a2 * b1)) + (a3 * b0))) * t ^ 3 + ((((((a0 * b4) + (a1 * b3)) + (a2 * b2)) + (a3 * b1)) + (a4 * b0))) * t ^ 4 + (((((((a0 * b5) + (a1 * b4)) + (a2 * b3)) + (a3 * b2)) + (a4 * b1)) + (a5 * b0))) * t ^ 5 + ((((((((a0 * b6) + (a1 * b5)) + (a2 * b4)) + (a3 * b3)) + (a4 * b2)) + (a5 * b1)) + (a6 * b0))) * t ^ 6 + (((((((((a0 * b7) + (a1 * b6)) + (a2 * b5)) + (a3 * b4)) + (a4 * b3)) + (a5 * b2)) + (a6 * b1)) + (a7 * b0))) * t ^ 7 + ((((((((((a0 * b8) + (a1 * b7)) + (a2 * b6)) + (a3 * b5)) + (a4 * b4)) + (a5 * b3)) + (a6 * b2)) + (a7 * b1)) + (a8 * b0))) * t ^ 8 + (((((((((((a0 * b9) + (a1 * b8)) + (a2 * b7)) + (a3 * b6)) + (a4 * b5)) + (a5 * b4)) + (a6 * b3)) + (a7 * b2)) + (a8 * b1)) + (a9 * b0))) * t ^ 9 + ((((((((((a1 * b9) + (a2 * b8)) + (a3 * b7)) + (a4 * b6)) + (a5 * b5)) + (a6 * b4)) + (a7 * b3)) + (a8 * b2)) + (a9 * b1))) * t ^ 10 + (((((((((a2 * b9) + (a3 * b8)) + (a4 * b7)) + (a5 * b6)) + (a6 * b5)) + (a7 * b4)) + (a8 * b3)) + (a9 * b2))) * t ^ 11 + ((((((((a3 * b9) + (a4 * b8)) + (a5 * b7)) + (a6 * b6)) + (a7 * b5)) + (a8 * b4)) + (a9 * b3))) * t ^ 12 + (((((((a4 * b9) + (a5 * b8)) + (a6 * b7)) + (a7 * b6)) + (a8 * b5)) + (a9 * b4))) * t ^ 13 + ((((((a5 * b9) + (a6 * b8)) + (a7 * b7)) + (a8 * b6)) + (a9 * b5))) * t ^ 14 + (((((a6 * b9) + (a7 * b8)) + (a8 * b7)) + (a9 * b6))) * t ^ 15 + ((((a7 * b9) + (a8 * b8)) + (a9 * b7))) * t ^ 16 + (((a8 * b9) + (a9 * b8))) * t ^ 17 + ((a9 * b9)) * t ^ 18 = (a0 * t ^ 0 + a1 * t ^ 1 + a2 * t ^ 2 + a3 * t ^ 3 + a4 * t ^ 4 + a5 * t ^ 5 + a6 * t ^ 6 + a7 * t ^ 7 + a8 * t ^ 8 + a9 * t ^ 9) * (b0 * t ^ 0 + b1 * t ^ 1 + b2 * t ^ 2 + b3 * t ^ 3 + b4 * t ^ 4 + b5 * t ^ 5 + b6 * t ^ 6 + b7 * t ^ 7 + b8 * t ^ 8 + b9 * t ^ 9) := by grind
theorem us_prZ (a b : Nat → Int) : us (prZ a b) 0 20 = us a 0 10 * us b 0 10 := by
  have h := pr_poly 67108864 (a 0) (a 1) (a 2) (a 3) (a 4) (a 5) (a 6) (a 7) (a 8) (a 9) (b 0) (b 1) (b 2) (b 3) (b 4) (b 5) (b 6) (b 7) (b 8) (b 9)
  simp only [us, tp, Nat.zero_add, Int.zero_add] at h ⊢
  rw [← h]
  simp only [prZ, Int.zero_mul, Int.add_zero]
theorem prZ_bd {a b : Nat → Int} {A B : Int} (ha : ∀ j, j < 10 → -A ≤ a j ∧ a j ≤ A) (hb : ∀ j, j < 10 → -B ≤ b j ∧ b j ≤ B) : (∀ j, j < 20 → -(10 * (A * B)) ≤ prZ a b j ∧ prZ a b j ≤ 10 * (A * B)) ∧ (-(A * B) ≤ prZ a b 18 ∧ prZ a b 18 ≤ A * B) ∧ prZ a b 19 = 0 := by
  have q : ∀ i j, i < 10 → j < 10 → -(A * B) ≤ a i * b j ∧ a i * b j ≤ A * B := fun i j hi hj => ab_mul (ha i hi) (hb j hj)
  have q0 : 0 ≤ A * B := by have := q 0 0 (by omega) (by omega); omega
  refine ⟨fun j hj => ?_, q 9 9 (by omega) (by omega), rfl⟩
  match j, hj with
  | 0, _ =>
    have := q 0 0 (by omega) (by omega)
    simp only [prZ]
    omega
  | 1, _ =>
    have := q 0 1 (by omega) (by omega)
    have := q 1 0 (by omega) (by omega)
    simp only [prZ]
    omega
  | 2, _ =>
    have := q 0 2 (by omega) (by omega)
    have := q 1 1 (by omega) (by omega)
    have := q 2 0 (by omega) (by omega)
    simp only [prZ]
    omega
  | 3, _ =>
    have := q 0 3 (by omega) (by omega)
    have := q 1 2 (by omega) (by omega)
    have := q 2 1 (by omega) (by omega)
    have := q 3 0 (by omega) (by omega)
    simp only [prZ]
    omega
  | 4, _ =>
    have := q 0 4 (by omega) (by omega)
    have := q 1 3 (by omega) (by omega)
    have := q 2 2 (by omega) (by omega)
    have := q 3 1 (by omega) (by omega)
    have := q 4 0 (by omega) (by omega)
    simp only [prZ]
    omega
  | 5, _ =>
    have := q 0 5 (by omega) (by omega)
    have := q 1 4 (by omega) (by omega)
    have := q 2 3 (by omega) (by omega)
    have := q 3 2 (by omega) (by omega)
    have := q 4 1 (by omega) (by omega)
    have := q 5 0 (by omega) (by omega)
    simp only [prZ]
    omega
  | 6, _ =>
    have := q 0 6 (by omega) (by omega)
    have := q 1 5 (by omega) (by omega)
    have := q 2 4 (by omega) (by omega)
    have := q 3 3 (by omega) (by omega)
    have := q 4 2 (by omega) (by omega)
    have := q 5 1 (by omega) (by omega)
    have := q 6 0 (by omega) (by omega)
    simp only [prZ]
    omega
  | 7, _ =>
    have := q 0 7 (by omega) (by omega)
    have := q 1 6 (by omega) (by omega)
    have := q 2 5 (by omega) (by omega)
    have := q 3 4 (by omega) (by omega)
    have := q 4 3 (by omega) (by omega)
    have := q 5 2 (by omega) (by omega)
    have := q 6 1 (by omega) (by omega)
    have := q 7 0 (by omega) (by omega)
    simp only [prZ]
    omega
  | 8, _ =>
    have := q 0 8 (by omega) (by omega)
    have := q 1 7 (by omega) (by omega)
    have := q 2 6 (by omega) (by omega)
    have := q 3 5 (by omega) (by omega)
    have := q 4 4 (by omega) (by omega)
    have := q 5 3 (by omega) (by omega)
    have := q 6 2 (by omega) (by omega)
    have := q 7 1 (by omega) (by omega)
    have := q 8 0 (by omega) (by omega)
    simp only [prZ]
    omega
  | 9, _ =>
    have := q 0 9 (by omega) (by omega)
    have := q 1 8 (by omega) (by omega)
    have := q 2 7 (by omega) (by omega)
    have := q 3 6 (by omega) (by omega)
    have := q 4 5 (by omega) (by omega)
    have := q 5 4 (by omega) (by omega)
    have := q 6 3 (by omega) (by omega)
    have := q 7 2 (by omega) (by omega)
    have := q 8 1 (by omega) (by omega)
    have := q 9 0 (by omega) (by omega)
    simp only [prZ]
    omega
  | 10, _ =>
    have := q 1 9 (by omega) (by omega)
    have := q 2 8 (by omega) (by omega)
    have := q 3 7 (by omega) (by omega)
    have := q 4 6 (by omega) (by omega)
    have := q 5 5 (by omega) (by omega)
    have := q 6 4 (by omega) (by omega)
    have := q 7 3 (by omega) (by omega)
    have := q 8 2 (by omega) (by omega)
    have := q 9 1 (by omega) (by omega)
    simp only [prZ]
    omega
  | 11, _ =>
    have := q 2 9 (by omega) (by omega)
    have := q 3 8 (by omega) (by omega)
    have := q 4 7 (by omega) (by omega)
    have := q 5 6 (by omega) (by omega)
    have := q 6 5 (by omega) (by omega)
    have := q 7 4 (by omega) (by omega)
    have := q 8 3 (by omega) (by omega)
    have := q 9 2 (by omega) (by omega)
    simp only [prZ]
    omega
  | 12, _ =>
    have := q 3 9 (by omega) (by omega)
    have := q 4 8 (by omega) (by omega)
    have := q 5 7 (by omega) (by omega)
    have := q 6 6 (by omega) (by omega)
    have := q 7 5 (by omega) (by omega)
    have := q 8 4 (by omega) (by omega)
    have := q 9 3 (by omega) (by omega)
    simp only [prZ]
    omega
  | 13, _ =>
    have := q 4 9 (by omega) (by omega)
    have := q 5 8 (by omega) (by omega)
    have := q 6 7 (by omega) (by omega)
    have := q 7 6 (by omega) (by omega)
    have := q 8 5 (by omega) (by omega)
    have := q 9 4 (by omega) (by omega)
    simp only [prZ]
    omega
  | 14, _ =>
    have := q 5 9 (by omega) (by omega)
    have := q 6 8 (by omega) (by omega)
    have := q 7 7 (by omega) (by omega)
    have := q 8 6 (by omega) (by omega)
    have := q 9 5 (by omega) (by omega)
    simp only [prZ]
    omega
  | 15, _ =>
    have := q 6 9 (by omega) (by omega)
    have := q 7 8 (by omega) (by omega)
    have := q 8 7 (by omega) (by omega)
    have := q 9 6 (by omega) (by omega)
    simp only [prZ]
    omega
  | 16, _ =>
    have := q 7 9 (by omega) (by omega)
    have := q 8 8 (by omega) (by omega)
    have := q 9 7 (by omega) (by omega)
    simp only [prZ]
    omega
  | 17, _ =>
    have := q 8 9 (by omega) (by omega)
    have := q 9 8 (by omega) (by omega)
    simp only [prZ]
    omega
  | 18, _ =>
    have := q 9 9 (by omega) (by omega)
    simp only [prZ]
    omega
  | 19, _ =>
    show -(10 * (A * B)) ≤ 0 ∧ 0 ≤ 10 * (A * B)
    omega
  | j + 20, h => exact absurd h (by omega)
