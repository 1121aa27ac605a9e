/-! the reference's calls: what they stand on -/
theorem q8_n {r : Nat} (h : r < 8) : q8 (80 + r) := by
  have q : ∀ r, r < 8 → q8 (80 + r) := by decide
  exact q r h
theorem isQ_p {p : Nat} (h : p < 4) : isQ (115 + 4 * p) := by
  unfold isQ
  omega
theorem isQ_55 : isQ 55 := by unfold isQ; omega
theorem isQ_59 : isQ 59 := by unfold isQ; omega
theorem isQ_63 : isQ 63 := by unfold isQ; omega
theorem isQ_67 : isQ 67 := by unfold isQ; omega
theorem isQ_89 : isQ 89 := by unfold isQ; omega
/-- an int that is one of 0 .. b - 1 -/
def inR (v : Int32) (b : Nat) : Prop := ∃ k, k < b ∧ v = nI k
theorem inR_of {v : Int32} {b : Nat} (hb : b < 2 ^ 31) (h0 : ¬ v < 0) (h1 : v.toInt < (b : Int)) : inR v b := by
  have h0' : 0 ≤ v.toInt := by
    have := Int32.not_lt.mp h0
    exact Int32.le_iff_toInt_le.mp this
  refine ⟨v.toInt.toNat, by omega, ?_⟩
  apply Int32.toInt_inj.mp
  rw [nI_toInt (by omega), Int.toNat_of_nonneg h0']
theorem inR_to {v : Int32} {b : Nat} (hb : b < 2 ^ 31) (h : inR v b) : ¬ v < 0 ∧ v.toInt < (b : Int) := by
  obtain ⟨k, hk, rfl⟩ := h
  refine ⟨nI_pos (by omega), ?_⟩
  rw [nI_toInt (by omega)]
  omega
def lastM (j : Nat) : Prop := j = 54 ∨ (56 ≤ j ∧ j ≤ 58) ∨ (80 ≤ j ∧ j ≤ 87) ∨ (100 ≤ j ∧ j ≤ 103) ∨ (108 ≤ j ∧ j ≤ 111) ∨ (116 ≤ j ∧ j ≤ 130)
theorem lastM.o {j : Nat} (h : lastM j) : j = 54 ∨ (56 ≤ j ∧ j ≤ 58) ∨ (80 ≤ j ∧ j ≤ 87) ∨ (100 ≤ j ∧ j ≤ 103) ∨ (108 ≤ j ∧ j ≤ 111) ∨ (116 ≤ j ∧ j ≤ 130) := h
/-- what lasts stays, but the rows t and u; but the point at o -/
def kMn (t u : Nat) (τ τ' : Nat → Nat → Int32) : Prop := ∀ j, lastM j → j ≠ t → j ≠ u → τ' j = τ j
def kMp (o : Nat) (τ τ' : Nat → Nat → Int32) : Prop := ∀ j, lastM j → ¬ (o < j ∧ j < o + 4) → τ' j = τ j
theorem MV.inj {F : Type} [Lean.Grind.CommRing F] {φ : Int → F} {m : Int} (hf : fm φ m) {Ri : F} (hR : φ (tq 8) * Ri = 1) {g g' : Nat → Int32} {v v' : F} (h : MV φ m g v) (h' : MV φ m g' v') : IV g 8 = IV g' 8 ↔ v = v' := by
  constructor
  · intro e
    have e1 : v * φ (tq 8) = v' * φ (tq 8) := by rw [← h.2, ← h'.2, e]
    have a1 : v = v * φ (tq 8) * Ri := by
      have : v * φ (tq 8) * Ri = v * (φ (tq 8) * Ri) := by grind
      rw [this, hR]
      grind
    have a2 : v' = v' * φ (tq 8) * Ri := by
      have : v' * φ (tq 8) * Ri = v' * (φ (tq 8) * Ri) := by grind
      rw [this, hR]
      grind
    rw [a1, a2, e1]
  · intro e
    have e1 : φ (IV g 8) = φ (IV g' 8) := by rw [h.2, h'.2, e]
    have e2 := (hf.2 _ _).mp e1
    rw [Int.emod_eq_of_lt (by omega) h.1, Int.emod_eq_of_lt (by omega) h'.1] at e2
    omega
/-! a number in words and the same in parts -/
def nmR (g : Nat → Int32) (f : Nat → Int64) : Prop := ∀ j, j < 4 → uN (f j) = wN (g (2 * j)) + wN (g (2 * j + 1)) * 4294967296
theorem nmR.v {g : Nat → Int32} {f : Nat → Int64} (h : nmR g f) : NV f = IV g 8 := by
  have h0 : uN (f 0) = wN (g 0) + wN (g 1) * 4294967296 := h 0 (by decide)
  have h1 : uN (f 1) = wN (g 2) + wN (g 3) * 4294967296 := h 1 (by decide)
  have h2 : uN (f 2) = wN (g 4) + wN (g 5) * 4294967296 := h 2 (by decide)
  have h3 : uN (f 3) = wN (g 6) + wN (g 7) * 4294967296 := h 3 (by decide)
  simp only [NV, IV, tq, h0, h1, h2, h3, Nat.reducePow]
  omega
theorem nmR_PK {g : Nat → Int32} {n : Nat} (h : IV g 8 = n) : nmR g (PK n) := by
  intro j hj
  have w0 := wN_lt (g 0)
  have w1 := wN_lt (g 1)
  have w2 := wN_lt (g 2)
  have w3 := wN_lt (g 3)
  have w4 := wN_lt (g 4)
  have w5 := wN_lt (g 5)
  have w6 := wN_lt (g 6)
  have w7 := wN_lt (g 7)
  rw [uN_PK, ← h]
  simp only [IV, tq, Nat.reducePow]
  rcases (show j = 0 ∨ j = 1 ∨ j = 2 ∨ j = 3 by omega) with rfl | rfl | rfl | rfl
  · show _ = wN (g 0) + wN (g 1) * 4294967296
    simp only [Nat.pow_zero, Nat.div_one]
    omega
  · show _ = wN (g 2) + wN (g 3) * 4294967296
    simp only [Nat.pow_one]
    omega
  · show _ = wN (g 4) + wN (g 5) * 4294967296
    simp only [Nat.reducePow]
    omega
  · show _ = wN (g 6) + wN (g 7) * 4294967296
    simp only [Nat.reducePow]
    omega
theorem nmR.cg {g : Nat → Int32} {f f' : Nat → Int64} (h : nmR g f) (e : ∀ j, j < 4 → f' j = f j) : nmR g f' := fun j hj => by rw [e j hj]; exact h j hj
theorem nmR.set {g : Nat → Int32} {f : Nat → Int64} (h : nmR g f) (q : Nat) (v : Int64) : nmR (upd (upd g (2 * q) v.toInt32) (2 * q + 1) (v.toUInt64 >>> ((32 : Int32).toInt64.toUInt64 &&& Int64.toUInt64 63)).toInt64.toInt32) (vp_updL f q v) := by
  intro j hj
  have hv := uN_lt v
  by_cases e : j = q
  · subst e
    simp only [vp_updL, upd, if_true, show ¬ 2 * j = 2 * j + 1 by omega, if_false]
    rw [i32_v, i32_v, uN_s32]
    omega
  · simp only [vp_updL, upd, e, if_false, show ¬ 2 * j = 2 * q + 1 by omega, show ¬ 2 * j = 2 * q by omega, show ¬ 2 * j + 1 = 2 * q + 1 by omega, show ¬ 2 * j + 1 = 2 * q by omega]
    exact h j hj
theorem nmR.get {g : Nat → Int32} {f : Nat → Int64} (h : nmR g f) {q : Nat} (hq : q < 4) : ((((g (2 * q + 1)).toInt64 &&& 4294967295) <<< ((32 : Int32).toInt64 &&& 63)) ||| ((g (2 * q)).toInt64 &&& 4294967295)) = f q := by
  refine uN_inj ?_
  have w0 := wN_lt (g (2 * q))
  have w1 := wN_lt (g (2 * q + 1))
  have e1 : uN (((g (2 * q + 1)).toInt64 &&& 4294967295) <<< ((32 : Int32).toInt64 &&& 63)) = 2 ^ 32 * wN (g (2 * q + 1)) := by
    rw [uN_sh _ 32 _ (by decide), lo_v]
    omega
  have e2 : ∀ x y : Int64, x ||| y = y ||| x := fun x y => by
    apply Int64.toBitVec_inj.mp
    show x.toBitVec ||| y.toBitVec = y.toBitVec ||| x.toBitVec
    exact BitVec.or_comm _ _
  rw [e2, uN_orp 32 (wN (g (2 * q + 1))) (by rw [lo_v]; exact w0) e1, lo_v, e1, h q hq]
  omega
theorem nI_2 {q : Nat} (h : q < 4) : (2 : Int32) * nI q = nI (2 * q) := by
  have : ∀ q, q < 4 → (2 : Int32) * nI q = nI (2 * q) := by decide
  exact this q h
/-- the parity of a row's number -/
theorem par_i (g : Nat → Int32) : (g 0 &&& 1 = 1) ↔ IV g 8 % 2 = 1 := by
  have h : wN (g 0 &&& 1) = wN (g 0) % 2 := by
    show ((g 0).toBitVec &&& 1#32).toNat = _
    rw [BitVec.toNat_and]
    exact Nat.and_one_is_mod _
  have e : IV g 8 = _ := IV_sh g 7
  constructor
  · intro q
    rw [q] at h
    have : wN 1 = 1 := by decide
    omega
  · intro q
    refine wN_inj ?_
    rw [h, show wN 1 = 1 by decide]
    omega
