/-! ARITHMETIC OF THE LIMBS, over the integers -/
def oF (a : Nat → Int) : Nat → Int64 := fun j => Int64.ofInt (a j)
theorem oF_of (g : Nat → Int64) : oF (fun j => (g j).toInt) = g := by
  funext j
  exact Int64.ofInt_toInt _
def tp (k : Nat) : Int := (67108864 : Int) ^ k
theorem tp_0 : tp 0 = 1 := rfl
theorem tp_s (k : Nat) : tp (k + 1) = tp k * 67108864 := Int.pow_succ _ _
theorem tp_add (a b : Nat) : tp (a + b) = tp a * tp b := Int.pow_add _ _ _
theorem tp_pos (k : Nat) : 0 < tp k := Int.pow_pos (by decide)
def zU (a : Nat → Int) (i : Nat) (x : Int) : Nat → Int := fun j => if j = i then x else a j
theorem zU_s (a : Nat → Int) (i : Nat) (x : Int) : zU a i x i = x := if_pos rfl
theorem zU_n (a : Nat → Int) {i j : Nat} (x : Int) (h : j ≠ i) : zU a i x j = a j := if_neg h
theorem oF_up (a : Nat → Int) (i : Nat) (x : Int) : vp_updL (oF a) i (Int64.ofInt x) = oF (zU a i x) := by
  funext j
  simp only [vp_updL, oF, zU]
  split <;> rfl
/-- a number that a long holds -/
def rg (x : Int) : Prop := -9223372036854775808 ≤ x ∧ x < 9223372036854775808
theorem rg_to {x : Int} (h : rg x) : (Int64.ofInt x).toInt = x := Int64.toInt_ofInt_of_le h.1 h.2
theorem ar_shr (x : Int) (h : rg x) : Int64.ofInt x >>> ((26 : Int32).toInt64 &&& 63) = Int64.ofInt (x / 67108864) := by
  apply Int64.toInt_inj.mp
  have e : (Int64.ofInt x >>> ((26 : Int32).toInt64 &&& 63)).toInt = (Int64.ofInt x).toInt >>> (26 : Nat) := by
    show ((Int64.ofInt x).toBitVec.sshiftRight _).toInt = _
    rw [show (((26 : Int32).toInt64 &&& 63).toBitVec.smod 64).toNat = 26 by decide, BitVec.toInt_sshiftRight]
    rfl
  have h2 : rg (x / 67108864) := by unfold rg at *; omega
  rw [e, rg_to h, rg_to h2, Int.shiftRight_eq_div_pow]
  rfl
theorem ar_shr22 (x : Int) (h : rg x) : Int64.ofInt x >>> ((22 : Int32).toInt64 &&& 63) = Int64.ofInt (x / 4194304) := by
  apply Int64.toInt_inj.mp
  have e : (Int64.ofInt x >>> ((22 : Int32).toInt64 &&& 63)).toInt = (Int64.ofInt x).toInt >>> (22 : Nat) := by
    show ((Int64.ofInt x).toBitVec.sshiftRight _).toInt = _
    rw [show (((22 : Int32).toInt64 &&& 63).toBitVec.smod 64).toNat = 22 by decide, BitVec.toInt_sshiftRight]
    rfl
  have h2 : rg (x / 4194304) := by unfold rg at *; omega
  rw [e, rg_to h, rg_to h2, Int.shiftRight_eq_div_pow]
  rfl
theorem ar_shl22 (x : Int) : Int64.ofInt x <<< ((22 : Int32).toInt64 &&& 63) = Int64.ofInt (x * 4194304) := by
  apply Int64.toBitVec_inj.mp
  rw [Int64.ofInt_mul]
  show (Int64.ofInt x).toBitVec <<< ((22 : Int32).toInt64 &&& 63).toBitVec.smod 64 = (Int64.ofInt x).toBitVec * (Int64.ofInt 4194304).toBitVec
  rw [show ((22 : Int32).toInt64 &&& 63).toBitVec.smod 64 = 22#64 by decide]
  apply BitVec.eq_of_toNat_eq
  rw [BitVec.shiftLeft_eq', BitVec.toNat_shiftLeft, BitVec.toNat_mul, Nat.shiftLeft_eq]
  rfl
theorem ar_and (x : Int) : Int64.ofInt x &&& 67108863 = Int64.ofInt (x % 67108864) := by
  apply Int64.toBitVec_inj.mp
  apply BitVec.eq_of_toNat_eq
  show ((Int64.ofInt x).toBitVec &&& (67108863 : Int64).toBitVec).toNat = (BitVec.ofInt 64 (x % 67108864)).toNat
  rw [BitVec.toNat_and, show (67108863 : Int64).toBitVec.toNat = 2 ^ 26 - 1 by decide, Nat.and_two_pow_sub_one_eq_mod]
  show (BitVec.ofInt 64 x).toNat % 2 ^ 26 = _
  rw [BitVec.toNat_ofInt, BitVec.toNat_ofInt]
  simp only [Nat.reducePow]
  omega
/-- limbs fr .. fr + k - 1 as a number -/
def us (a : Nat → Int) (fr : Nat) : Nat → Int
  | 0 => 0
  | k + 1 => us a fr k + a (fr + k) * tp k
theorem us_congr {a b : Nat → Int} {fr : Nat} : ∀ k, (∀ j, j < k → a (fr + j) = b (fr + j)) → us a fr k = us b fr k
  | 0, _ => rfl
  | k + 1, h => by
    rw [us, us, us_congr k (fun j hj => h j (by omega)), h k (by omega)]
theorem us_up (a : Nat → Int) (fr i : Nat) (x : Int) : ∀ k, i < k → us (zU a (fr + i) x) fr k = us a fr k + (x - a (fr + i)) * tp i
  | 0, h => absurd h (Nat.not_lt_zero _)
  | k + 1, h => by
    rcases Nat.lt_or_ge i k with h1 | h1
    · rw [us, us, us_up a fr i x k h1, zU_n _ _ (by omega)]
      omega
    · obtain rfl : i = k := by omega
      rw [us, us, zU_s, us_congr (a := zU a (fr + i) x) (b := a) i (fun j hj => zU_n _ _ (by omega)), Int.sub_mul]
      omega
theorem us_split (a : Nat → Int) (fr n : Nat) : ∀ k, us a fr (n + k) = us a fr n + tp n * us a (fr + n) k
  | 0 => by simp [us]
  | k + 1 => by
    have ih := us_split a fr n k
    show us a fr (n + k) + a (fr + (n + k)) * tp (n + k) = us a fr n + tp n * (us a (fr + n) k + a (fr + n + k) * tp k)
    rw [ih, tp_add, Int.mul_add, Nat.add_assoc, Int.add_assoc]
    congr 2
    rw [Int.mul_left_comm]
/-! carry -/
def czS (a : Nat → Int) (fr : Nat) : Nat → (Nat → Int) × Int
  | 0 => (a, 0)
  | k + 1 => (zU (czS a fr k).1 (fr + k) (((czS a fr k).2 + (czS a fr k).1 (fr + k)) % 67108864), ((czS a fr k).2 + (czS a fr k).1 (fr + k)) / 67108864)
def czF (a : Nat → Int) (fr to : Nat) : Nat → Int := zU (czS a fr (to - fr)).1 to ((czS a fr (to - fr)).1 to + (czS a fr (to - fr)).2)
theorem czS_1 (a : Nat → Int) (fr k : Nat) : (czS a fr (k + 1)).1 = zU (czS a fr k).1 (fr + k) (((czS a fr k).2 + (czS a fr k).1 (fr + k)) % 67108864) := rfl
theorem czS_2 (a : Nat → Int) (fr k : Nat) : (czS a fr (k + 1)).2 = ((czS a fr k).2 + (czS a fr k).1 (fr + k)) / 67108864 := rfl
theorem czS_far (a : Nat → Int) (fr : Nat) : ∀ k j, fr + k ≤ j ∨ j < fr → (czS a fr k).1 j = a j
  | 0, _, _ => rfl
  | k + 1, j, h => by rw [czS_1, zU_n _ _ (by omega), czS_far a fr k j (by omega)]
theorem czS_dig (a : Nat → Int) (fr : Nat) : ∀ k j, fr ≤ j → j < fr + k → 0 ≤ (czS a fr k).1 j ∧ (czS a fr k).1 j < 67108864
  | 0, _, h1, h2 => absurd h2 (by omega)
  | k + 1, j, h1, h2 => by
    rcases Nat.lt_or_ge j (fr + k) with h | h
    · rw [czS_1, zU_n _ _ (by omega)]
      exact czS_dig a fr k j h1 h
    · obtain rfl : j = fr + k := by omega
      rw [czS_1, zU_s]
      omega
theorem czS_val (a : Nat → Int) (fr : Nat) : ∀ k, us (czS a fr k).1 fr k + (czS a fr k).2 * tp k = us a fr k
  | 0 => by simp [us, czS]
  | k + 1 => by
    have ih := czS_val a fr k
    have hf := czS_far a fr k (fr + k) (by omega)
    rw [us, us]
    have e1 : us (czS a fr (k + 1)).1 fr k = us (czS a fr k).1 fr k := us_congr k (fun j hj => by rw [czS_1, zU_n _ _ (by omega)])
    have e2 : (czS a fr (k + 1)).1 (fr + k) = ((czS a fr k).2 + a (fr + k)) % 67108864 := by rw [czS_1, zU_s, hf]
    have e3 : (czS a fr (k + 1)).2 = ((czS a fr k).2 + a (fr + k)) / 67108864 := by rw [czS_2, hf]
    rw [e1, e2, e3, tp_s, ← ih]
    generalize (czS a fr k).2 = c
    generalize a (fr + k) = x
    generalize us (czS a fr k).1 fr k = u
    have h := Int.emod_add_mul_ediv (c + x) 67108864
    generalize (c + x) % 67108864 = r at *
    generalize (c + x) / 67108864 = q at *
    generalize tp k = t
    have : c = r + 67108864 * q - x := by omega
    subst this
    grind
/-- what is carried stays small where the limbs are not beyond B -/
theorem czS_sm {a : Nat → Int} {fr : Nat} {B : Int} (hB : 0 ≤ B) (hB2 : B ≤ 7000000000000000000) : ∀ k, (∀ j, j < k → -B ≤ a (fr + j) ∧ a (fr + j) ≤ B) → -200000000000 ≤ (czS a fr k).2 ∧ (czS a fr k).2 ≤ 200000000000
  | 0, _ => by simp [czS]
  | k + 1, h => by
    have ih := czS_sm hB hB2 k (fun j hj => h j (by omega))
    have h1 := h k (by omega)
    rw [czS_2, czS_far a fr k (fr + k) (by omega)]
    omega
theorem caS_oF {a : Nat → Int} {fr : Nat} : ∀ k, (∀ i, i < k → rg ((czS a fr i).2 + (czS a fr i).1 (fr + i))) → caS (oF a) fr k = (oF (czS a fr k).1, Int64.ofInt (czS a fr k).2)
  | 0, _ => rfl
  | k + 1, h => by
    have ih := caS_oF k (fun i hi => h i (by omega))
    have hr := h k (by omega)
    show (vp_updL (caS (oF a) fr k).1 (fr + k) (((caS (oF a) fr k).2 + (caS (oF a) fr k).1 (fr + k)) &&& 67108863), ((caS (oF a) fr k).2 + (caS (oF a) fr k).1 (fr + k)) >>> ((26 : Int32).toInt64 &&& 63)) = _
    rw [ih]
    simp only
    have e : Int64.ofInt (czS a fr k).2 + oF (czS a fr k).1 (fr + k) = Int64.ofInt ((czS a fr k).2 + (czS a fr k).1 (fr + k)) := (Int64.ofInt_add _ _).symm
    rw [e, ar_and, ar_shr _ hr, oF_up]
    rfl
/-- carry, over the integers: the same number, small limbs -/
theorem caF_ok {a : Nat → Int} {fr to : Nat} {B : Int} (hf : fr ≤ to) (hB : 0 ≤ B) (hB2 : B ≤ 7000000000000000000) (h : ∀ j, fr ≤ j → j < to → -B ≤ a j ∧ a j ≤ B) :
    caF (oF a) fr to = oF (czF a fr to) ∧ (∀ j, fr ≤ j → j < to → 0 ≤ czF a fr to j ∧ czF a fr to j < 67108864) ∧ (∀ j, j < fr ∨ to < j → czF a fr to j = a j) ∧ us (czF a fr to) fr (to - fr + 1) = us a fr (to - fr + 1) := by
  refine ⟨?_, fun j h1 h2 => ?_, fun j hj => ?_, ?_⟩
  · rw [caF, caS_oF (to - fr) (fun i hi => ?_)]
    · simp only
      have e : oF (czS a fr (to - fr)).1 to + Int64.ofInt (czS a fr (to - fr)).2 = Int64.ofInt ((czS a fr (to - fr)).1 to + (czS a fr (to - fr)).2) := (Int64.ofInt_add _ _).symm
      rw [e, oF_up]
      rfl
    · have h1 := czS_sm (a := a) (fr := fr) hB hB2 i (fun j hj => h (fr + j) (by omega) (by omega))
      have h2 := h (fr + i) (by omega) (by omega)
      rw [czS_far a fr i (fr + i) (by omega)]
      unfold rg
      omega
  · rw [czF, zU_n _ _ (by omega)]
    exact czS_dig a fr _ j h1 (by omega)
  · rw [czF, zU_n _ _ (by omega)]
    exact czS_far a fr _ j (by omega)
  · have hv := czS_val a fr (to - fr)
    rw [us, us, ← hv]
    have e1 : us (czF a fr to) fr (to - fr) = us (czS a fr (to - fr)).1 fr (to - fr) := us_congr _ (fun j hj => by rw [czF, zU_n _ _ (by omega)])
    have e2 : fr + (to - fr) = to := by omega
    rw [e1, e2, czF, zU_s, czS_far a fr (to - fr) to (by omega), Int.add_mul]
    omega
/-- k small limbs are a number below tp k -/
theorem us_dig {a : Nat → Int} {fr : Nat} : ∀ k, (∀ j, j < k → 0 ≤ a (fr + j) ∧ a (fr + j) < 67108864) → 0 ≤ us a fr k ∧ us a fr k < tp k
  | 0, _ => by simp [us, tp_0]
  | k + 1, h => by
    have ih := us_dig k (fun j hj => h j (by omega))
    have h1 := h k (by omega)
    rw [us, tp_s]
    have hp := tp_pos k
    generalize tp k = t at *
    generalize us a fr k = u at *
    generalize a (fr + k) = x at *
    have h2 : 0 ≤ x * t := Int.mul_nonneg h1.1 (by omega)
    have h3 : x * t ≤ 67108863 * t := Int.mul_le_mul_of_nonneg_right (by omega) (by omega)
    omega
/-- limbs not beyond B are a number not beyond 2 B tp (k - 1) -/
theorem us_sm {a : Nat → Int} {fr : Nat} {B : Int} (hB : 0 ≤ B) : ∀ k, (∀ j, j < k → -B ≤ a (fr + j) ∧ a (fr + j) ≤ B) → -(B * tp k) ≤ us a fr k ∧ us a fr k ≤ B * tp k
  | 0, _ => by rw [us, tp_0, Int.mul_one]; omega
  | k + 1, h => by
    have ih := us_sm hB k (fun j hj => h j (by omega))
    have h1 := h k (by omega)
    rw [us, tp_s]
    have hp := tp_pos k
    generalize tp k = t at *
    generalize us a fr k = u at *
    generalize a (fr + k) = x at *
    have h2 : x * t ≤ B * t := Int.mul_le_mul_of_nonneg_right h1.2 (by omega)
    have h3 : -B * t ≤ x * t := Int.mul_le_mul_of_nonneg_right h1.1 (by omega)
    have h4 : 0 ≤ B * t := Int.mul_nonneg hB (by omega)
    rw [Int.neg_mul] at h3
    rw [← Int.mul_assoc]
    generalize B * t = z at *
    generalize x * t = y at *
    omega
