/-! PARTS AND LIMBS: the same number; the order of numbers; powers -/
/-- a number in four parts -/
def NV (f : Nat → Int64) : Nat := uN (f 0) + uN (f 1) * 18446744073709551616 + uN (f 2) * 340282366920938463463374607431768211456 + uN (f 3) * 6277101735386680763835789423207666416102355444464034512896
theorem uN_m26 (x : Int64) : (x &&& 67108863).toInt = ((uN x % 67108864 : Nat) : Int) := by
  have h : uN (x &&& 67108863) = uN x % 67108864 := by
    show (x.toUInt64 &&& Int64.toUInt64 67108863).toNat = _
    rw [UInt64.toNat_and]
    exact Nat.and_two_pow_sub_one_eq_mod _ 26
  rw [uN_int, h, if_pos (by omega)]
theorem uN_sh (x : Int64) (k : Nat) (s : Int64) (hs : (s.toBitVec.smod 64).toNat = k) : uN (x <<< s) = uN x * 2 ^ k % 18446744073709551616 := by
  show (x.toBitVec <<< s.toBitVec.smod 64).toNat = x.toBitVec.toNat * 2 ^ k % 18446744073709551616
  rw [BitVec.shiftLeft_eq', BitVec.toNat_shiftLeft, hs, Nat.shiftLeft_eq]
theorem uN_us (x : Int64) (k : Nat) (s : UInt64) (hs : s.toNat % 64 = k) : uN (x.toUInt64 >>> s).toInt64 = uN x / 2 ^ k := by rw [uN_shr, hs]
/-- 'or' of what does not overlap is the sum -/
theorem uN_orp {x y : Int64} (k q : Nat) (hx : uN x < 2 ^ k) (hy : uN y = 2 ^ k * q) : uN (x ||| y) = uN x + uN y := by
  show (x.toUInt64 ||| y.toUInt64).toNat = _
  rw [UInt64.toNat_or]
  show uN x ||| uN y = _
  rw [hy, Nat.or_comm, ← Nat.two_pow_add_eq_or_of_lt hx, Nat.add_comm]
theorem uN_0or (y : Int64) : (0 : Int64) ||| y = y := by
  apply Int64.toBitVec_inj.mp
  show (0#64) ||| y.toBitVec = y.toBitVec
  simp
set_option maxHeartbeats 2000000 in
theorem unF_ok (f : Nat → Int64) : ∃ r : Nat → Int, unF f = oF r ∧ dg9 r ∧ (0 ≤ r 9 ∧ r 9 < 4194304) ∧ us r 0 10 = (NV f : Int) := by
  refine ⟨fun j => (unF f j).toInt, (oF_of _).symm, ?_⟩
  have l0 := uN_lt (f 0)
  have l1 := uN_lt (f 1)
  have l2 := uN_lt (f 2)
  have l3 := uN_lt (f 3)
  have e0 : (unF f 0).toInt = ((uN (f 0) % 67108864 : Nat) : Int) := by
    simp only [unF]
    rw [uN_m26, uN_us _ 0 _ (by decide), Nat.pow_zero, Nat.div_one]
  have e1 : (unF f 1).toInt = ((uN (f 0) / 67108864 % 67108864 : Nat) : Int) := by
    simp only [unF]
    rw [uN_m26, uN_us _ 26 _ (by decide)]
  have e2 : (unF f 2).toInt = ((uN (f 0) / 4503599627370496 + uN (f 1) % 16384 * 4096 : Nat) : Int) := by
    simp only [unF]
    rw [uN_m26, uN_orp 12 (uN (f 1) % 4503599627370496) (by rw [uN_us _ 52 _ (by decide)]; omega) (by rw [uN_sh _ 12 _ (by decide)]; omega), uN_us _ 52 _ (by decide), uN_sh _ 12 _ (by decide)]
    omega
  have e3 : (unF f 3).toInt = ((uN (f 1) / 16384 % 67108864 : Nat) : Int) := by
    simp only [unF]
    rw [uN_m26, uN_us _ 14 _ (by decide)]
  have e4 : (unF f 4).toInt = ((uN (f 1) / 1099511627776 + uN (f 2) % 4 * 16777216 : Nat) : Int) := by
    simp only [unF]
    rw [uN_m26, uN_orp 24 (uN (f 2) % 1099511627776) (by rw [uN_us _ 40 _ (by decide)]; omega) (by rw [uN_sh _ 24 _ (by decide)]; omega), uN_us _ 40 _ (by decide), uN_sh _ 24 _ (by decide)]
    omega
  have e5 : (unF f 5).toInt = ((uN (f 2) / 4 % 67108864 : Nat) : Int) := by
    simp only [unF]
    rw [uN_m26, uN_us _ 2 _ (by decide)]
  have e6 : (unF f 6).toInt = ((uN (f 2) / 268435456 % 67108864 : Nat) : Int) := by
    simp only [unF]
    rw [uN_m26, uN_us _ 28 _ (by decide)]
  have e7 : (unF f 7).toInt = ((uN (f 2) / 18014398509481984 + uN (f 3) % 65536 * 1024 : Nat) : Int) := by
    simp only [unF]
    rw [uN_m26, uN_orp 10 (uN (f 3) % 18014398509481984) (by rw [uN_us _ 54 _ (by decide)]; omega) (by rw [uN_sh _ 10 _ (by decide)]; omega), uN_us _ 54 _ (by decide), uN_sh _ 10 _ (by decide)]
    omega
  have e8 : (unF f 8).toInt = ((uN (f 3) / 65536 % 67108864 : Nat) : Int) := by
    simp only [unF]
    rw [uN_m26, uN_us _ 16 _ (by decide)]
  have e9 : (unF f 9).toInt = ((uN (f 3) / 4398046511104 : Nat) : Int) := by
    simp only [unF]
    rw [uN_m26, uN_us _ 42 _ (by decide)]
    omega
  refine ⟨fun j hj => ?_, ?_, ?_⟩
  · rcases (show j = 0 ∨ j = 1 ∨ j = 2 ∨ j = 3 ∨ j = 4 ∨ j = 5 ∨ j = 6 ∨ j = 7 ∨ j = 8 by omega) with rfl | rfl | rfl | rfl | rfl | rfl | rfl | rfl | rfl <;> simp only [e0, e1, e2, e3, e4, e5, e6, e7, e8] <;> omega
  · simp only [e9]
    omega
  · simp only [us, Nat.zero_add, e0, e1, e2, e3, e4, e5, e6, e7, e8, e9, tp, NV, Int.reducePow]
    generalize uN (f 0) = x0 at *
    generalize uN (f 1) = x1 at *
    generalize uN (f 2) = x2 at *
    generalize uN (f 3) = x3 at *
    have a0 : x0 = x0 % 67108864 + 67108864 * (x0 / 67108864 % 67108864) + 4503599627370496 * (x0 / 4503599627370496) := by omega
    have a1 : x1 = x1 % 16384 + 16384 * (x1 / 16384 % 67108864) + 1099511627776 * (x1 / 1099511627776) := by omega
    have a2 : x2 = x2 % 4 + 4 * (x2 / 4 % 67108864) + 268435456 * (x2 / 268435456 % 67108864) + 18014398509481984 * (x2 / 18014398509481984) := by omega
    have a3 : x3 = x3 % 65536 + 65536 * (x3 / 65536 % 67108864) + 4398046511104 * (x3 / 4398046511104) := by omega
    omega
theorem uN_ofI {x : Int} (h0 : 0 ≤ x) (h1 : x < 18446744073709551616) : (uN (Int64.ofInt x) : Int) = x := by
  show (((BitVec.ofInt 64 x).toNat : Nat) : Int) = x
  rw [BitVec.toNat_ofInt]
  simp only [Nat.reducePow]
  omega
set_option maxHeartbeats 2000000 in
theorem pkF_ok {r : Nat → Int} (hd : dg9 r) (h9 : 0 ≤ r 9 ∧ r 9 < 4194304) : (NV (pkF (oF r)) : Int) = us r 0 10 := by
  have q : ∀ j, j < 10 → (uN (oF r j) : Int) = r j := fun j hj => by
    rcases Nat.lt_or_ge j 9 with h | h
    · exact uN_ofI (hd j h).1 (by have := hd j h; omega)
    · obtain rfl : j = 9 := by omega
      exact uN_ofI h9.1 (by omega)
  have d := fun j hj => hd j hj
  have d0 := d 0 (by omega)
  have d1 := d 1 (by omega)
  have d2 := d 2 (by omega)
  have d3 := d 3 (by omega)
  have d4 := d 4 (by omega)
  have d5 := d 5 (by omega)
  have d6 := d 6 (by omega)
  have d7 := d 7 (by omega)
  have d8 := d 8 (by omega)
  have q0 := q 0 (by omega)
  have q1 := q 1 (by omega)
  have q2 := q 2 (by omega)
  have q3 := q 3 (by omega)
  have q4 := q 4 (by omega)
  have q5 := q 5 (by omega)
  have q6 := q 6 (by omega)
  have q7 := q 7 (by omega)
  have q8 := q 8 (by omega)
  have q9 := q 9 (by omega)
  have p0 : uN (pkF (oF r) 0) = uN (oF r 0) + uN (oF r 1) * 67108864 + uN (oF r 2) % 4096 * 4503599627370496 := by
    have s0 : uN (oF r 0 <<< ((0 : Int32).toInt64 &&& 63)) = uN (oF r 0) := by rw [uN_sh _ 0 _ (by decide), Nat.pow_zero]; omega
    have s1 : uN (oF r 1 <<< ((26 : Int32).toInt64 &&& 63)) = 2 ^ 26 * uN (oF r 1) := by rw [uN_sh _ 26 _ (by decide)]; omega
    have s2 : uN (oF r 2 <<< ((52 : Int32).toInt64 &&& 63)) = 2 ^ 52 * (uN (oF r 2) % 4096) := by rw [uN_sh _ 52 _ (by decide)]; omega
    simp only [pkF, uN_0or]
    have t1 := uN_orp (x := oF r 0 <<< ((0 : Int32).toInt64 &&& 63)) (y := oF r 1 <<< ((26 : Int32).toInt64 &&& 63)) 26 (uN (oF r 1)) (by omega) s1
    rw [uN_orp 52 (uN (oF r 2) % 4096) (by rw [t1]; omega) s2, t1, s0, s1, s2]
    omega
  have p1 : uN (pkF (oF r) 1) = uN (oF r 2) / 4096 + uN (oF r 3) * 16384 + uN (oF r 4) % 16777216 * 1099511627776 := by
    have s0 : uN (((oF r 2)).toUInt64 >>> ((12 : Int32).toInt64.toUInt64 &&& Int64.toUInt64 63)).toInt64 = uN (oF r 2) / 4096 := uN_us _ 12 _ (by decide)
    have s1 : uN (oF r 3 <<< ((14 : Int32).toInt64 &&& 63)) = 2 ^ 14 * uN (oF r 3) := by rw [uN_sh _ 14 _ (by decide)]; omega
    have s2 : uN (oF r 4 <<< ((40 : Int32).toInt64 &&& 63)) = 2 ^ 40 * (uN (oF r 4) % 16777216) := by rw [uN_sh _ 40 _ (by decide)]; omega
    simp only [pkF, uN_0or]
    have t1 := uN_orp (x := (((oF r 2)).toUInt64 >>> ((12 : Int32).toInt64.toUInt64 &&& Int64.toUInt64 63)).toInt64) (y := oF r 3 <<< ((14 : Int32).toInt64 &&& 63)) 14 (uN (oF r 3)) (by omega) s1
    rw [uN_orp 40 (uN (oF r 4) % 16777216) (by rw [t1]; omega) s2, t1, s0, s1, s2]
    omega
  have p2 : uN (pkF (oF r) 2) = uN (oF r 4) / 16777216 + uN (oF r 5) * 4 + uN (oF r 6) * 268435456 + uN (oF r 7) % 1024 * 18014398509481984 := by
    have s0 : uN (((oF r 4)).toUInt64 >>> ((24 : Int32).toInt64.toUInt64 &&& Int64.toUInt64 63)).toInt64 = uN (oF r 4) / 16777216 := uN_us _ 24 _ (by decide)
    have s1 : uN (oF r 5 <<< ((2 : Int32).toInt64 &&& 63)) = 2 ^ 2 * uN (oF r 5) := by rw [uN_sh _ 2 _ (by decide)]; omega
    have s2 : uN (oF r 6 <<< ((28 : Int32).toInt64 &&& 63)) = 2 ^ 28 * uN (oF r 6) := by rw [uN_sh _ 28 _ (by decide)]; omega
    have s3 : uN (oF r 7 <<< ((54 : Int32).toInt64 &&& 63)) = 2 ^ 54 * (uN (oF r 7) % 1024) := by rw [uN_sh _ 54 _ (by decide)]; omega
    simp only [pkF, uN_0or]
    have t1 := uN_orp (x := (((oF r 4)).toUInt64 >>> ((24 : Int32).toInt64.toUInt64 &&& Int64.toUInt64 63)).toInt64) (y := oF r 5 <<< ((2 : Int32).toInt64 &&& 63)) 2 (uN (oF r 5)) (by omega) s1
    have t2 := uN_orp (x := (((oF r 4)).toUInt64 >>> ((24 : Int32).toInt64.toUInt64 &&& Int64.toUInt64 63)).toInt64 ||| (oF r 5 <<< ((2 : Int32).toInt64 &&& 63))) (y := oF r 6 <<< ((28 : Int32).toInt64 &&& 63)) 28 (uN (oF r 6)) (by rw [t1]; omega) s2
    rw [uN_orp 54 (uN (oF r 7) % 1024) (by rw [t2, t1]; omega) s3, t2, t1, s0, s1, s2, s3]
    omega
  have p3 : uN (pkF (oF r) 3) = uN (oF r 7) / 1024 + uN (oF r 8) * 65536 + uN (oF r 9) * 4398046511104 := by
    have s0 : uN (((oF r 7)).toUInt64 >>> ((10 : Int32).toInt64.toUInt64 &&& Int64.toUInt64 63)).toInt64 = uN (oF r 7) / 1024 := uN_us _ 10 _ (by decide)
    have s1 : uN (oF r 8 <<< ((16 : Int32).toInt64 &&& 63)) = 2 ^ 16 * uN (oF r 8) := by rw [uN_sh _ 16 _ (by decide)]; omega
    have s2 : uN (oF r 9 <<< ((42 : Int32).toInt64 &&& 63)) = 2 ^ 42 * uN (oF r 9) := by rw [uN_sh _ 42 _ (by decide)]; omega
    simp only [pkF, uN_0or]
    have t1 := uN_orp (x := (((oF r 7)).toUInt64 >>> ((10 : Int32).toInt64.toUInt64 &&& Int64.toUInt64 63)).toInt64) (y := oF r 8 <<< ((16 : Int32).toInt64 &&& 63)) 16 (uN (oF r 8)) (by omega) s1
    rw [uN_orp 42 (uN (oF r 9)) (by rw [t1]; omega) s2, t1, s0, s1, s2]
    omega
  simp only [NV, p0, p1, p2, p3, us, Nat.zero_add, tp, Int.reducePow]
  omega
/-! the order -/
theorem lgge (x y : Int64) : (0 ≤ lg_cmp (x ^^^ (-9223372036854775808)) (y ^^^ (-9223372036854775808))) ↔ uN y ≤ uN x := by
  rw [lg_cmp_ge, uN_le]
def NVk (f : Nat → Int64) : Nat → Nat
  | 0 => 0
  | i + 1 => NVk f i + uN (f i) * 2 ^ (64 * i)
theorem NVk_lt (f : Nat → Int64) : ∀ i, NVk f i < 2 ^ (64 * i)
  | 0 => by simp [NVk]
  | i + 1 => by
    have ih := NVk_lt f i
    have h := uN_lt (f i)
    rw [NVk, show 64 * (i + 1) = 64 * i + 64 by omega, Nat.pow_add]
    generalize 2 ^ (64 * i) = p at *
    have h2 : uN (f i) * p ≤ (18446744073709551616 - 1) * p := Nat.mul_le_mul_right p (by omega)
    have : p * 2 ^ 64 = (18446744073709551616 - 1) * p + p := by omega
    omega
theorem ordF_ok (f g : Nat → Int64) : ∀ i, (ordF f g i = 0 ↔ NVk f i = NVk g i) ∧ (0 ≤ ordF f g i ↔ NVk g i ≤ NVk f i) ∧ (ordF f g i = 0 ∨ ordF f g i = 1 ∨ ordF f g i = -1)
  | 0 => by simp [ordF, NVk]
  | i + 1 => by
    have ih := ordF_ok f g i
    have a1 := NVk_lt f i
    have a2 := NVk_lt g i
    rw [NVk, NVk]
    generalize hp : 2 ^ (64 * i) = p at *
    rcases Classical.em (lg_cmp (f i) (g i) = 0) with h | h
    · rw [ordF_0 h, (cmp0 _ _).mp h]
      refine ⟨ih.1.trans ⟨fun e => by omega, fun e => by omega⟩, ih.2.1.trans ⟨fun e => by omega, fun e => by omega⟩, ih.2.2⟩
    · have hne : uN (f i) ≠ uN (g i) := fun e => h ((cmp0 _ _).mpr (uN_inj e))
      rcases Classical.em (0 ≤ lg_cmp (f i ^^^ (-9223372036854775808)) (g i ^^^ (-9223372036854775808))) with h2 | h2
      · rw [ordF_1 h h2]
        have h3 := (lgge _ _).mp h2
        have h4 : (uN (g i) + 1) * p ≤ uN (f i) * p := Nat.mul_le_mul_right p (by omega)
        rw [Nat.add_mul, Nat.one_mul] at h4
        refine ⟨⟨fun e => absurd e (by decide), fun e => by omega⟩, ⟨fun _ => by omega, fun _ => by decide⟩, Or.inr (Or.inl rfl)⟩
      · rw [ordF_2 h h2]
        have h3 : ¬ uN (g i) ≤ uN (f i) := fun e => h2 ((lgge _ _).mpr e)
        have h4 : (uN (f i) + 1) * p ≤ uN (g i) * p := Nat.mul_le_mul_right p (by omega)
        rw [Nat.add_mul, Nat.one_mul] at h4
        refine ⟨⟨fun e => absurd e (by decide), fun e => by omega⟩, ⟨fun e => absurd e (by decide), fun e => by omega⟩, Or.inr (Or.inr rfl)⟩
theorem NVk_4 (f : Nat → Int64) : NVk f 4 = NV f := by
  simp only [NVk, NV, Nat.reduceMul, Nat.reducePow, Nat.pow_zero, Nat.mul_one, Nat.zero_add]
theorem NV_bit (f : Nat → Int64) (k : Nat) (hk : k < 256) : NV f / 2 ^ k % 2 = uN (f (k / 64)) / 2 ^ (k % 64) % 2 := by
  have l0 := uN_lt (f 0)
  have l1 := uN_lt (f 1)
  have l2 := uN_lt (f 2)
  have l3 := uN_lt (f 3)
  have key : ∀ (q : Nat) (lo x hi r : Nat), lo < 2 ^ q → r < 64 → (lo + x * 2 ^ q + hi * 2 ^ (q + 64)) / 2 ^ (q + r) % 2 = x / 2 ^ r % 2 := by
    intro q lo x hi r h1 h2
    have e : lo + x * 2 ^ q + hi * 2 ^ (q + 64) = lo + 2 ^ q * (x + hi * 2 ^ 64) := by rw [Nat.pow_add, Nat.mul_add, Nat.mul_comm x]; rw [Nat.mul_left_comm]; omega
    rw [e, Nat.pow_add, ← Nat.div_div_eq_div_mul, Nat.add_mul_div_left _ _ (Nat.two_pow_pos q), Nat.div_eq_of_lt h1, Nat.zero_add]
    have e2 : hi * 2 ^ 64 = 2 ^ r * (hi * 2 ^ (63 - r) * 2) := by
      rw [show (64 : Nat) = r + ((63 - r) + 1) by omega, Nat.pow_add, Nat.pow_succ, Nat.mul_left_comm, Nat.mul_assoc]
    rw [e2, Nat.add_mul_div_left _ _ (Nat.two_pow_pos r), Nat.add_mul_mod_self_right]
  rcases (show k / 64 = 0 ∨ k / 64 = 1 ∨ k / 64 = 2 ∨ k / 64 = 3 by omega) with h | h | h | h
  · rw [h]
    have := key 0 0 (uN (f 0)) (uN (f 1) + uN (f 2) * 18446744073709551616 + uN (f 3) * 340282366920938463463374607431768211456) (k % 64) (by decide) (by omega)
    rw [Nat.zero_add, Nat.zero_add] at this
    rw [← this]
    congr 2
    · simp only [NV, Nat.reducePow]; omega
    · congr 1; omega
  · rw [h]
    have := key 64 (uN (f 0)) (uN (f 1)) (uN (f 2) + uN (f 3) * 18446744073709551616) (k % 64) (by omega) (by omega)
    rw [← this]
    congr 2
    · simp only [NV, Nat.reducePow, Nat.reduceAdd]; omega
    · congr 1; omega
  · rw [h]
    have := key 128 (uN (f 0) + uN (f 1) * 18446744073709551616) (uN (f 2)) (uN (f 3)) (k % 64) (by omega) (by omega)
    rw [← this]
    have e : k = 128 + k % 64 := by omega
    rw [← e]
    rfl
  · rw [h]
    have := key 192 (uN (f 0) + uN (f 1) * 18446744073709551616 + uN (f 2) * 340282366920938463463374607431768211456) (uN (f 3)) 0 (k % 64) (by omega) (by omega)
    rw [← this]
    have e : k = 192 + k % 64 := by omega
    rw [← e, Nat.zero_mul, Nat.add_zero]
    rfl
theorem NV_lt (f : Nat → Int64) : NV f < 2 ^ 256 := by rw [← NVk_4]; exact NVk_lt f 4
