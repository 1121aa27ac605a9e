/-! NUMBERS IN WORDS OF 32 BITS -/
def wN (x : Int32) : Nat := x.toUInt32.toNat
theorem wN_lt (x : Int32) : wN x < 4294967296 := x.toUInt32.toNat_lt
theorem wN_inj {x y : Int32} (h : wN x = wN y) : x = y := congrArg UInt32.toInt32 (UInt32.toNat_inj.mp h)
theorem wN_add (x y : Int32) : wN (x + y) = (wN x + wN y) % 4294967296 := UInt32.toNat_add _ _
theorem wN_mul (x y : Int32) : wN (x * y) = (wN x * wN y) % 4294967296 := UInt32.toNat_mul _ _
theorem wN_int (x : Int32) : x.toInt = if 2 * wN x < 4294967296 then (wN x : Int) else (wN x : Int) - 4294967296 := BitVec.toInt_eq_toNat_cond _
theorem lo_v (x : Int32) : uN (x.toInt64 &&& 4294967295) = wN x := by
  rw [uN_lo]
  have h1 := uN_int x.toInt64
  have h2 := wN_int x
  have h3 : x.toInt64.toInt = x.toInt := Int32.toInt_toInt64 x
  have h4 := uN_lt x.toInt64
  have h5 := wN_lt x
  split at h1 <;> split at h2 <;> omega
theorem i32_v (c : Int64) : wN c.toInt32 = uN c % 4294967296 := by
  show (c.toBitVec.signExtend 32).toNat = c.toBitVec.toNat % 4294967296
  rw [BitVec.signExtend_eq_setWidth_of_le _ (by decide), BitVec.toNat_setWidth]
def tq (i : Nat) : Nat := 4294967296 ^ i
theorem tq_0 : tq 0 = 1 := rfl
theorem tq_s (i : Nat) : tq (i + 1) = tq i * 4294967296 := Nat.pow_succ _ _
theorem tq_pos (i : Nat) : 0 < tq i := Nat.pow_pos (by decide)
/-- the number in the first i words -/
def IV (f : Nat → Int32) : Nat → Nat
  | 0 => 0
  | i + 1 => IV f i + wN (f i) * tq i
theorem IV_s (f : Nat → Int32) (i : Nat) : IV f (i + 1) = IV f i + wN (f i) * tq i := rfl
theorem IV_cg {f g : Nat → Int32} : ∀ {k : Nat}, (∀ j, j < k → f j = g j) → IV f k = IV g k
  | 0, _ => rfl
  | k + 1, h => by rw [IV_s, IV_s, IV_cg (fun j hj => h j (by omega)), h k (by omega)]
theorem IV_lt (f : Nat → Int32) : ∀ i, IV f i < tq i
  | 0 => Nat.one_pos
  | i + 1 => by
    have ih := IV_lt f i
    have h := wN_lt (f i)
    rw [IV_s, tq_s]
    generalize tq i = p at *
    have h2 : wN (f i) * p ≤ (4294967296 - 1) * p := Nat.mul_le_mul_right p (by omega)
    omega
theorem IV_up (f : Nat → Int32) (i : Nat) (x : Int32) : IV (upd f i x) (i + 1) = IV f i + wN x * tq i := by
  rw [IV_s, IV_cg (f := upd f i x) (g := f) (fun j hj => by simp [upd, Nat.ne_of_lt hj])]
  simp [upd]
theorem IV_inj {f g : Nat → Int32} : ∀ k, IV f k = IV g k → ∀ j, j < k → f j = g j
  | 0, _, j, hj => by omega
  | k + 1, e, j, hj => by
    rw [IV_s, IV_s] at e
    have a1 := IV_lt f k
    have a2 := IV_lt g k
    have e1 : wN (f k) = wN (g k) := by
      have b1 : (IV f k + wN (f k) * tq k) / tq k = wN (f k) := by rw [Nat.add_mul_div_right _ _ (tq_pos k), Nat.div_eq_of_lt a1, Nat.zero_add]
      have b2 : (IV g k + wN (g k) * tq k) / tq k = wN (g k) := by rw [Nat.add_mul_div_right _ _ (tq_pos k), Nat.div_eq_of_lt a2, Nat.zero_add]
      rw [← b1, ← b2, e]
    rcases Nat.lt_or_ge j k with q | q
    · rw [e1] at e
      exact IV_inj k (by omega) j q
    · obtain rfl : j = k := by omega
      exact wN_inj e1
theorem IV_z (k : Nat) : IV (fun _ => 0) k = 0 := by
  induction k with
  | zero => rfl
  | succ k ih => rw [IV_s, ih, show wN 0 = 0 by decide, Nat.zero_mul]
theorem IV_sh (f : Nat → Int32) : ∀ k, IV f (k + 1) = wN (f 0) + 4294967296 * IV (fun j => f (j + 1)) k
  | 0 => by simp [IV, tq]
  | k + 1 => by
    rw [IV_s f (k + 1), IV_sh f k, IV_s (fun j => f (j + 1)) k, tq_s]
    generalize IV (fun j => f (j + 1)) k = a
    generalize wN (f (k + 1)) = b
    generalize tq k = p
    grind
theorem st_w (A x p : Nat) : A + x % 4294967296 * p + x / 4294967296 * (p * 4294967296) = A + x * p := by
  have h := Nat.div_add_mod x 4294967296
  generalize x / 4294967296 = q at *
  generalize x % 4294967296 = r at *
  subst h
  grind
/-! one step of each loop -/
theorem pl_st {A B P p : Nat} {c : Int64} {x y : Int32} (hc : uN c ≤ 1) (e : A + uN c * p = B) : A + wN (c + ((x.toInt64 &&& 4294967295) + (y.toInt64 &&& 4294967295))).toInt32 * p + uN ((c + ((x.toInt64 &&& 4294967295) + (y.toInt64 &&& 4294967295))).toUInt64 >>> ((32 : Int32).toInt64.toUInt64 &&& Int64.toUInt64 63)).toInt64 * (p * 4294967296) = B + wN x * p + wN y * p ∧ uN ((c + ((x.toInt64 &&& 4294967295) + (y.toInt64 &&& 4294967295))).toUInt64 >>> ((32 : Int32).toInt64.toUInt64 &&& Int64.toUInt64 63)).toInt64 ≤ 1 := by
  have hx := wN_lt x
  have hy := wN_lt y
  have e1 : uN (c + ((x.toInt64 &&& 4294967295) + (y.toInt64 &&& 4294967295))) = uN c + wN x + wN y := by
    rw [uN_add, uN_add, lo_v, lo_v]
    omega
  rw [i32_v, uN_s32, e1, st_w, ← e]
  refine ⟨?_, by omega⟩
  grind
theorem pt_st {A B p : Nat} {c : Int64} {w x y : Int32} (hc : uN c < 4294967296) (e : A + uN c * p = B) : A + wN (c + ((w.toInt64 &&& 4294967295) * (x.toInt64 &&& 4294967295) + (y.toInt64 &&& 4294967295))).toInt32 * p + uN ((c + ((w.toInt64 &&& 4294967295) * (x.toInt64 &&& 4294967295) + (y.toInt64 &&& 4294967295))).toUInt64 >>> ((32 : Int32).toInt64.toUInt64 &&& Int64.toUInt64 63)).toInt64 * (p * 4294967296) = B + wN w * wN x * p + wN y * p ∧ uN ((c + ((w.toInt64 &&& 4294967295) * (x.toInt64 &&& 4294967295) + (y.toInt64 &&& 4294967295))).toUInt64 >>> ((32 : Int32).toInt64.toUInt64 &&& Int64.toUInt64 63)).toInt64 < 4294967296 := by
  have hw := wN_lt w
  have hx := wN_lt x
  have hy := wN_lt y
  have hm : wN w * wN x ≤ 4294967295 * 4294967295 := Nat.mul_le_mul (by omega) (by omega)
  have e1 : uN (c + ((w.toInt64 &&& 4294967295) * (x.toInt64 &&& 4294967295) + (y.toInt64 &&& 4294967295))) = uN c + wN w * wN x + wN y := by
    rw [uN_add, uN_add, uN_mul, lo_v, lo_v, lo_v]
    generalize wN w * wN x = z at *
    omega
  rw [i32_v, uN_s32, e1, st_w, ← e]
  generalize wN w * wN x = z at *
  refine ⟨?_, by omega⟩
  grind
theorem ls_x {c : Int64} {x y : Int32} (hc : uN c ≤ 1) : ((x.toInt64 &&& 4294967295) - (y.toInt64 &&& 4294967295) - c).toInt = (wN x : Int) - wN y - uN c := by
  have hx := wN_lt x
  have hy := wN_lt y
  have a1 : (x.toInt64 &&& 4294967295).toInt = wN x := by rw [uN_int, lo_v, if_pos (by omega)]
  have a2 : (y.toInt64 &&& 4294967295).toInt = wN y := by rw [uN_int, lo_v, if_pos (by omega)]
  have a3 : c.toInt = uN c := by rw [uN_int, if_pos (by omega)]
  have e : (x.toInt64 &&& 4294967295) - (y.toInt64 &&& 4294967295) - c = Int64.ofInt ((wN x : Int) - wN y - uN c) := by
    rw [Int64.ofInt_sub, Int64.ofInt_sub, ← a1, ← a2, ← a3, Int64.ofInt_toInt, Int64.ofInt_toInt, Int64.ofInt_toInt]
  rw [e, Int64.toInt_ofInt_of_le (by omega) (by omega)]
theorem ls_st {A B C p : Nat} {c : Int64} {x y : Int32} (hc : uN c ≤ 1) (e : A + B = C + uN c * p) :
    (0 ≤ lg_cmp ((x.toInt64 &&& 4294967295) - (y.toInt64 &&& 4294967295) - c) 0 → A + wN ((x.toInt64 &&& 4294967295) - (y.toInt64 &&& 4294967295) - c).toInt32 * p + (B + wN y * p) = C + wN x * p + 0 * (p * 4294967296)) ∧
    (¬ 0 ≤ lg_cmp ((x.toInt64 &&& 4294967295) - (y.toInt64 &&& 4294967295) - c) 0 → A + wN ((x.toInt64 &&& 4294967295) - (y.toInt64 &&& 4294967295) - c).toInt32 * p + (B + wN y * p) = C + wN x * p + 1 * (p * 4294967296)) := by
  have h := ls_x (x := x) (y := y) hc
  generalize (x.toInt64 &&& 4294967295) - (y.toInt64 &&& 4294967295) - c = v at *
  have h1 := uN_int v
  have hx := wN_lt x
  have hy := wN_lt y
  have hv := uN_lt v
  have hz : (0 ≤ lg_cmp v 0) ↔ 0 ≤ v.toInt := by
    rw [lg_cmp_ge, Int64.le_iff_toInt_le]
    rfl
  constructor
  · intro q
    have q := hz.mp q
    have e2 : wN v.toInt32 + wN y + uN c = wN x := by
      rw [i32_v]
      split at h1 <;> omega
    rw [← e2]
    grind
  · intro q
    have q : ¬ 0 ≤ v.toInt := fun z => q (hz.mpr z)
    have e2 : wN v.toInt32 + wN y + uN c = wN x + 4294967296 := by
      rw [i32_v]
      split at h1 <;> omega
    have e3 : A + wN v.toInt32 * p + (B + wN y * p) = (A + B) + (wN v.toInt32 + wN y) * p := by grind
    have e4 : C + wN x * p + 1 * (p * 4294967296) = C + (wN x + 4294967296) * p := by grind
    rw [e3, e, e4, ← e2]
    grind
theorem mx_u (i : Nat) (f g : Nat → Int32) (x : Int32) : upd (mx i f g) i x = mx (i + 1) (upd f i x) g := by
  funext j
  simp only [upd, mx]
  by_cases h : j = i
  · subst h
    simp
  · by_cases h2 : j < i
    · simp [h, h2, Nat.lt_succ_of_lt h2]
    · simp [h, h2, show ¬ j < i + 1 by omega]
theorem IA_inj {E : gm_E} {n k : Nat} {f g : Nat → Int32} (h : some (IA E n f) = some (IA E k g)) : n = k ∧ f = g := by
  have h1 := Option.some.inj h
  simp only [IA, Sum.inl.injEq, Prod.mk.injEq, true_and] at h1
  exact h1
theorem rd_mi {E : gm_E} {M : gm_M} {to a n i : Nat} {gt ga : Nat → Int32} (f : Nat → Int32) (ht : M to = some (IA E n gt)) (ha : M a = some (IA E n ga)) : ∃ h, gm_up M to (IA E n (mx i f gt)) a = some (IA E n h) ∧ h i = ga i := by
  rcases Classical.em (a = to) with e | e
  · subst e
    obtain ⟨-, rfl⟩ := IA_inj (ht.symm.trans ha)
    exact ⟨_, gm_up_s _ _ _, mx_ge _ _ (Nat.le_refl i)⟩
  · exact ⟨ga, (gm_up_n _ _ e).trans ha, rfl⟩
theorem gm_IA {E : gm_E} {M : gm_M} {H : Heap} {a n : Nat} {f g : Nat → Int32} (hP : gm_P E (gm_up M a (IA E n f)) H) (h : ∀ j, j < n → g j = f j) : gm_P E (gm_up M a (IA E n g)) H := by
  intro x e hx
  simp only [gm_up] at hx
  split at hx
  · next q =>
    cases hx
    have h1 := hP a (IA E n f) (gm_up_s _ _ _)
    rw [q]
    show H[a]? = some (vp_cell _ _)
    have h2 : H[a]? = some (vp_cell (E.1.2 1) (n, .inl f)) := h1
    rw [h2, vp_cell_i, vp_cell_i]
    congr 1
    unfold arrV
    congr 1
    apply Array.ext
    · simp
    · intro i h3 h4
      simp at h3 h4 ⊢
      rw [h i (by omega)]
  · next q => exact hP x e (by rw [gm_up_n _ _ q]; exact hx)
/-! the order -/
def ordI (f g : Nat → Int32) : Nat → Int32
  | 0 => 0
  | i + 1 => if f i = g i then ordI f g i else if 0 ≤ lg_cmp ((f i).toInt64 &&& 4294967295) ((g i).toInt64 &&& 4294967295) then 1 else -1
theorem ordI_0 {f g : Nat → Int32} {i : Nat} (h : f i = g i) : ordI f g (i + 1) = ordI f g i := by rw [ordI, if_pos h]
theorem ordI_1 {f g : Nat → Int32} {i : Nat} (h : ¬ f i = g i) (h2 : 0 ≤ lg_cmp ((f i).toInt64 &&& 4294967295) ((g i).toInt64 &&& 4294967295)) : ordI f g (i + 1) = 1 := by rw [ordI, if_neg h, if_pos h2]
theorem ordI_2 {f g : Nat → Int32} {i : Nat} (h : ¬ f i = g i) (h2 : ¬ 0 ≤ lg_cmp ((f i).toInt64 &&& 4294967295) ((g i).toInt64 &&& 4294967295)) : ordI f g (i + 1) = -1 := by rw [ordI, if_neg h, if_neg h2]
theorem lo_ge (x y : Int32) : (0 ≤ lg_cmp (x.toInt64 &&& 4294967295) (y.toInt64 &&& 4294967295)) ↔ wN y ≤ wN x := by
  rw [lg_cmp_ge, Int64.le_iff_toInt_le, uN_int, uN_int, lo_v, lo_v]
  have hx := wN_lt x
  have hy := wN_lt y
  rw [if_pos (by omega), if_pos (by omega)]
  omega
theorem ordI_ok (f g : Nat → Int32) : ∀ i, (ordI f g i = 0 ↔ IV f i = IV g i) ∧ (0 ≤ ordI f g i ↔ IV g i ≤ IV f i) ∧ (ordI f g i = 0 ∨ ordI f g i = 1 ∨ ordI f g i = -1)
  | 0 => by simp [ordI, IV]
  | i + 1 => by
    have ih := ordI_ok f g i
    have a1 := IV_lt f i
    have a2 := IV_lt g i
    rw [IV_s, IV_s]
    generalize tq i = p at *
    rcases Classical.em (f i = g i) with h | h
    · rw [ordI_0 h, h]
      refine ⟨ih.1.trans ⟨fun e => by omega, fun e => by omega⟩, ih.2.1.trans ⟨fun e => by omega, fun e => by omega⟩, ih.2.2⟩
    · have hne : wN (f i) ≠ wN (g i) := fun e => h (wN_inj e)
      rcases Classical.em (0 ≤ lg_cmp ((f i).toInt64 &&& 4294967295) ((g i).toInt64 &&& 4294967295)) with h2 | h2
      · rw [ordI_1 h h2]
        have h3 := (lo_ge _ _).mp h2
        have h4 : (wN (g i) + 1) * p ≤ wN (f i) * p := Nat.mul_le_mul_right p (by omega)
        rw [Nat.add_mul, Nat.one_mul] at h4
        refine ⟨⟨fun e => absurd e (by decide), fun e => by omega⟩, ⟨fun _ => by omega, fun _ => by decide⟩, Or.inr (Or.inl rfl)⟩
      · rw [ordI_2 h h2]
        have h3 : ¬ wN (g i) ≤ wN (f i) := fun e => h2 ((lo_ge _ _).mpr e)
        have h4 : (wN (f i) + 1) * p ≤ wN (g i) * p := Nat.mul_le_mul_right p (by omega)
        rw [Nat.add_mul, Nat.one_mul] at h4
        refine ⟨⟨fun e => absurd e (by decide), fun e => by omega⟩, ⟨fun e => absurd e (by decide), fun e => by omega⟩, Or.inr (Or.inr rfl)⟩
