/-! THE RING'S METHODS OVER THE REFERENCE'S MEMORY -/
theorem isR.kp {F : Type} [Lean.Grind.CommRing F] {φ : Int → F} {m : Int} {k : Nat} {τ τ' : Nat → Nat → Int32} (h : isR φ m k τ) (e : ∀ j, k < j → j < k + 5 → τ' j = τ j) : isR φ m k τ' := by
  unfold isR
  rw [e (k + 1) (by omega) (by omega), e (k + 2) (by omega) (by omega), e (k + 3) (by omega) (by omega), e (k + 4) (by omega) (by omega)]
  exact h
section MQ
variable {E : gm_E} {N : gm_M} {τ : Nat → Nat → Int32} {cd : Int32} {k : Nat} {m : Int}
theorem q_copy (l : Launch) {t a : Nat} (ht : q8 t) (ha : q8 a) : cv_ l y_Rng_copy b_Rng_copy 3 none { frames := 0, cells := 0, slots := 0, locals := 0 } E (mW E N τ cd) [.ref (E.2.1 + a), .ref (E.2.1 + t)] (fun M' => ∃ τ', M' = mW E N τ' cd ∧ τ' t = τ a ∧ kt t τ τ') :=
  cv_.mono (c_Rng_copy l E _ (mw_row ht) (cw_ge _) (mw_row ha)) (fun M' h => ⟨_, h.trans (mw_upr _ ht), vu_s, fun j hj => vu_n hj⟩)
theorem q_mul0 {F : Type} [Lean.Grind.CommRing F] {φ : Int → F} (l : Launch) (hp : rPl E k m) (hr : isR φ m k τ) {t a b : Nat} (ht : q8 t) (ha : q8 a) (hb : q8 b) (hne : k + 1 ≠ t) (h2 : (IV (τ b) 8 : Int) < m) : cv_ l y_Rng_multiply b_Rng_multiply 6 none { frames := 1, cells := 0, slots := 0, locals := 27 } E (mW E N τ cd) [.ref (E.2.1 + k), .ref (E.2.1 + a), .ref (E.2.1 + b), .ref (E.2.1 + t)] (fun M' => ∃ τ', M' = mW E N τ' cd ∧ (IV (τ' t) 8 < IV (τ (k + 1)) 8 ∧ IV (τ' t) 8 * tq 8 % IV (τ (k + 1)) 8 = IV (τ a) 8 * IV (τ b) 8 % IV (τ (k + 1)) 8) ∧ ∀ j, j ≠ t → j ≠ k + 5 → τ' j = τ j) := by
  obtain ⟨⟨p1, p2, p3, p4, p5, p6⟩, p7, p8, mi, p9, p10⟩ := hp
  refine cv_.mono (c_Rng_multiply l E _ (p10 _ _ _) (cw_ge _) (mw_row p7) (mw_row p1) ?_ (mw_row ht) (cw_ge _) (cw_ne hne) (mw_row ha) (mw_row hb) ?_) (fun M' h => ?_)
  · have := hr.1
    rw [← this] at p9
    have e : ((wN mi * IV (τ (k + 1)) 8 + 1 : Nat) : Int) % 4294967296 = 0 := by
      rw [Int.natCast_add, Int.natCast_mul]
      exact p9
    omega
  · have := hr.1
    omega
  · obtain ⟨g, h1, h, h3⟩ := h
    rw [mw_upr _ p7, mw_upr _ ht] at h
    refine ⟨_, h, by rw [vu_s]; exact h3, fun j hj hk => ?_⟩
    rw [vu_n hj, vu_n (by omega)]
theorem q_mul {F : Type} [Lean.Grind.CommRing F] {φ : Int → F} (l : Launch) (hp : rPl E k m) (hf : fm φ m) {Ri : F} (hR : φ (tq 8) * Ri = 1) (hr : isR φ m k τ) {t a b : Nat} {v1 v2 : F} (ht : q8 t) (ha : q8 a) (hb : q8 b) (hne : k + 1 ≠ t) (h1 : MV φ m (τ a) v1) (h2 : MV φ m (τ b) v2) : cv_ l y_Rng_multiply b_Rng_multiply 6 none { frames := 1, cells := 0, slots := 0, locals := 27 } E (mW E N τ cd) [.ref (E.2.1 + k), .ref (E.2.1 + a), .ref (E.2.1 + b), .ref (E.2.1 + t)] (fun M' => ∃ τ', M' = mW E N τ' cd ∧ MV φ m (τ' t) (v1 * v2) ∧ kr k t τ τ') :=
  cv_.mono (q_mul0 l hp hr ht ha hb hne h2.1) (fun M' h => by obtain ⟨τ', a1, a2, a3⟩ := h; exact ⟨τ', a1, MV.mul hf hR hr.1 h1 h2 a2.1 a2.2, fun j hj hk => a3 j hj (by omega)⟩)
theorem q_mulS {F : Type} [Lean.Grind.CommRing F] {φ : Int → F} (l : Launch) (hp : rPl E k m) (hf : fm φ m) {Ri : F} (hR : φ (tq 8) * Ri = 1) (hr : isR φ m k τ) {t a b : Nat} {v1 v2 : F} (ht : q8 t) (ha : q8 a) (hb : q8 b) (hne : k + 1 ≠ t) (h1 : MV φ m (τ a) v1) (h2 : MV φ m (τ b) v2) : cv_ l y_Rng_multiply b_Rng_multiply 6 none { frames := 1, cells := 0, slots := 0, locals := 27 } E (mW E N τ cd) [.ref (E.2.1 + k), .ref (E.2.1 + a), .ref (E.2.1 + b), .ref (E.2.1 + t)] (fun M' => ∃ τ', M' = mW E N τ' cd ∧ MV φ m (τ' t) (v1 * v2) ∧ ∀ j, j ≠ t → j ≠ k + 5 → τ' j = τ j) :=
  cv_.mono (q_mul0 l hp hr ht ha hb hne h2.1) (fun M' h => by obtain ⟨τ', a1, a2, a3⟩ := h; exact ⟨τ', a1, MV.mul hf hR hr.1 h1 h2 a2.1 a2.2, a3⟩)
theorem q_add {F : Type} [Lean.Grind.CommRing F] {φ : Int → F} (l : Launch) (hp : rPl E k m) (hf : fm φ m) (hr : isR φ m k τ) {t a b : Nat} {v1 v2 : F} (ht : q8 t) (ha : q8 a) (hb : q8 b) (hne : k + 1 ≠ t) (h1 : MV φ m (τ a) v1) (h2 : MV φ m (τ b) v2) : cv_ l y_Rng_add b_Rng_add 4 none { frames := 1, cells := 0, slots := 0, locals := 27 } E (mW E N τ cd) [.ref (E.2.1 + k), .ref (E.2.1 + a), .ref (E.2.1 + b), .ref (E.2.1 + t)] (fun M' => ∃ τ', M' = mW E N τ' cd ∧ MV φ m (τ' t) (v1 + v2) ∧ kr k t τ τ') := by
  obtain ⟨⟨p1, p2, p3, p4, p5, p6⟩, p7, p8, mi, p9, p10⟩ := hp
  have hm := hr.1
  have b1 := h1.1
  have b2 := h2.1
  refine cv_.mono (c_Rng_add l E _ (p10 _ _ _) (mw_row p1) (mw_row ht) (cw_ge _) (cw_ne hne) (mw_row ha) (mw_row hb) (by omega) (by omega)) (fun M' h => ?_)
  obtain ⟨h3, h, e⟩ := h
  rw [mw_upr _ ht] at h
  exact ⟨_, h, by rw [vu_s]; exact MV.add hf hm (by omega) h1 h2 e, fun j hj hk => vu_n hj⟩
theorem q_subtract {F : Type} [Lean.Grind.CommRing F] {φ : Int → F} (l : Launch) (hp : rPl E k m) (hf : fm φ m) (hr : isR φ m k τ) {t a b : Nat} {v1 v2 : F} (ht : q8 t) (ha : q8 a) (hb : q8 b) (hne : k + 1 ≠ t) (h1 : MV φ m (τ a) v1) (h2 : MV φ m (τ b) v2) : cv_ l y_Rng_subtract b_Rng_subtract 4 none { frames := 1, cells := 0, slots := 0, locals := 27 } E (mW E N τ cd) [.ref (E.2.1 + k), .ref (E.2.1 + a), .ref (E.2.1 + b), .ref (E.2.1 + t)] (fun M' => ∃ τ', M' = mW E N τ' cd ∧ MV φ m (τ' t) (v1 - v2) ∧ kr k t τ τ') := by
  obtain ⟨⟨p1, p2, p3, p4, p5, p6⟩, p7, p8, mi, p9, p10⟩ := hp
  have hm := hr.1
  have b1 := h1.1
  have b2 := h2.1
  refine cv_.mono (c_Rng_subtract l E _ (p10 _ _ _) (mw_row p1) (mw_row ht) (cw_ge _) (cw_ne hne) (mw_row ha) (mw_row hb) (by omega) (by omega)) (fun M' h => ?_)
  obtain ⟨h3, h, e⟩ := h
  rw [mw_upr _ ht] at h
  exact ⟨_, h, by rw [vu_s]; exact MV.sub hf hm (by omega) h1 h2 e, fun j hj hk => vu_n hj⟩
theorem q_enter {F : Type} [Lean.Grind.CommRing F] {φ : Int → F} (l : Launch) (hp : rPl E k m) (hf : fm φ m) {Ri : F} (hR : φ (tq 8) * Ri = 1) (hr : isR φ m k τ) {t a : Nat} (ht : q8 t) (ha : q8 a) (hne : k + 1 ≠ t) : cv_ l y_Rng_enter b_Rng_enter 3 none { frames := 2, cells := 0, slots := 0, locals := 52 } E (mW E N τ cd) [.ref (E.2.1 + k), .ref (E.2.1 + a), .ref (E.2.1 + t)] (fun M' => ∃ τ', M' = mW E N τ' cd ∧ MV φ m (τ' t) (φ (IV (τ a) 8)) ∧ kr k t τ τ') := by
  obtain ⟨⟨p1, p2, p3, p4, p5, p6⟩, p7, p8, mi, p9, p10⟩ := hp
  have hm := hr.1
  have b2 := hr.2.2.1.1
  refine cv_.mono (c_Rng_enter l E _ (p10 _ _ _) (cw_ge _) (mw_row p7) (mw_row p1) ?_ (mw_row ht) (cw_ge _) (cw_ne hne) (mw_row ha) (mw_row p3) (by omega)) (fun M' h => ?_)
  · rw [← hm] at p9
    have e : ((wN mi * IV (τ (k + 1)) 8 + 1 : Nat) : Int) % 4294967296 = 0 := by
      rw [Int.natCast_add, Int.natCast_mul]
      exact p9
    omega
  · obtain ⟨g, h1, h, h3, h4⟩ := h
    rw [mw_upr _ p7, mw_upr _ ht] at h
    refine ⟨_, h, by rw [vu_s]; exact MV.enter hf hR hm hr.2.2.1 h3 h4, fun j hj hk => ?_⟩
    rw [vu_n hj, vu_n (by omega)]
theorem q_leave {F : Type} [Lean.Grind.CommRing F] {φ : Int → F} (l : Launch) (hp : rPl E k m) (hf : fm φ m) {Ri : F} (hR : φ (tq 8) * Ri = 1) (hr : isR φ m k τ) {t a : Nat} {v1 : F} (ht : q8 t) (ha : q8 a) (hne : k + 1 ≠ t) (h1 : MV φ m (τ a) v1) : cv_ l y_Rng_leave b_Rng_leave 3 none { frames := 2, cells := 0, slots := 0, locals := 52 } E (mW E N τ cd) [.ref (E.2.1 + k), .ref (E.2.1 + a), .ref (E.2.1 + t)] (fun M' => ∃ τ', M' = mW E N τ' cd ∧ PV φ m (τ' t) v1 ∧ kr k t τ τ') := by
  obtain ⟨⟨p1, p2, p3, p4, p5, p6⟩, p7, p8, mi, p9, p10⟩ := hp
  have hm := hr.1
  have b2 := hr.2.2.2
  refine cv_.mono (c_Rng_leave l E _ (p10 _ _ _) (cw_ge _) (mw_row p7) (mw_row p1) ?_ (mw_row ht) (cw_ge _) (cw_ne hne) (mw_row ha) (mw_row p4) (by omega)) (fun M' h => ?_)
  · rw [← hm] at p9
    have e : ((wN mi * IV (τ (k + 1)) 8 + 1 : Nat) : Int) % 4294967296 = 0 := by
      rw [Int.natCast_add, Int.natCast_mul]
      exact p9
    omega
  · obtain ⟨g, h3, h, h4, h5⟩ := h
    rw [mw_upr _ p7, mw_upr _ ht] at h
    refine ⟨_, h, by rw [vu_s]; exact PV.leave hf hR hm h1 b2 h4 h5, fun j hj hk => ?_⟩
    rw [vu_n hj, vu_n (by omega)]
theorem q_isZero {F : Type} [Lean.Grind.CommRing F] {φ : Int → F} (l : Launch) (hf : fm φ m) {Ri : F} (hR : φ (tq 8) * Ri = 1) {a : Nat} {v1 : F} (ha : q8 a) (h1 : MV φ m (τ a) v1) : ci_ l y_Rng_isZero b_Rng_isZero 3 (some .boolean) { frames := 0, cells := 0, slots := 0, locals := 0 } E (mW E N τ cd) [.ref (E.2.1 + a)] (fun r M' => M' = mW E N τ cd ∧ ((r = 1 ∧ v1 = 0) ∨ (r = 0 ∧ ¬ v1 = 0))) := by
  refine ci_.mono (c_Rng_isZero l E _ (mw_row ha)) (fun r M' h => ⟨h.1, ?_⟩)
  have q := MV.z hf hR h1
  rcases h.2 with z | z
  · exact Or.inl ⟨z.1, q.mp z.2⟩
  · exact Or.inr ⟨z.1, fun e => z.2 (q.mpr e)⟩
end MQ
/-! bits -/
theorem IV_bit (f : Nat → Int32) : ∀ n b, b < 32 * n → IV f n / 2 ^ b % 2 = wN (f (b / 32)) / 2 ^ (b % 32) % 2
  | 0, b, h => by omega
  | n + 1, b, h => by
    have hA := IV_lt f n
    have ht : tq n = 2 ^ (32 * n) := by rw [tq, show (4294967296 : Nat) = 2 ^ 32 by decide, ← Nat.pow_mul]
    rcases Nat.lt_or_ge b (32 * n) with q | q
    · rw [IV_s, ← IV_bit f n b q, ht, show 2 ^ (32 * n) = 2 ^ b * (2 * 2 ^ (32 * n - b - 1)) by rw [← Nat.pow_succ', ← Nat.pow_add]; congr 1; omega]
      generalize 2 ^ (32 * n - b - 1) = c
      rw [show wN (f n) * (2 ^ b * (2 * c)) = 2 ^ b * (wN (f n) * (2 * c)) by grind, Nat.add_mul_div_left _ _ (Nat.pow_pos (by decide)), show wN (f n) * (2 * c) = 2 * (wN (f n) * c) by grind, Nat.add_mul_mod_self_left]
    · obtain ⟨r, rfl⟩ : ∃ r, b = 32 * n + r := ⟨b - 32 * n, by omega⟩
      rw [show (32 * n + r) / 32 = n by omega, show (32 * n + r) % 32 = r by omega, IV_s, Nat.pow_add, ← ht, ← Nat.div_div_eq_div_mul, Nat.add_mul_div_right _ _ (tq_pos n), Nat.div_eq_of_lt hA, Nat.zero_add]
theorem IV_lt256 (f : Nat → Int32) : IV f 8 < 2 ^ 256 := IV_lt f 8
theorem iv_st0 {f : Nat → Int32} {i : Nat} (hi : i < 256) (h : wN (f ((255 - i) / 32)) / 2 ^ ((255 - i) % 32) % 2 = 0) : IV f 8 / 2 ^ (256 - (i + 1)) = 2 * (IV f 8 / 2 ^ (256 - i)) := by
  rw [← IV_bit f 8 (255 - i) (by omega)] at h
  have hd : IV f 8 / 2 ^ (256 - i) = IV f 8 / 2 ^ (255 - i) / 2 := by rw [show 256 - i = (255 - i) + 1 by omega, Nat.pow_succ, Nat.div_div_eq_div_mul]
  rw [hd, show 256 - (i + 1) = 255 - i by omega]
  generalize IV f 8 / 2 ^ (255 - i) = x at *
  omega
theorem iv_st1 {f : Nat → Int32} {i : Nat} (hi : i < 256) (h : ¬ wN (f ((255 - i) / 32)) / 2 ^ ((255 - i) % 32) % 2 = 0) : IV f 8 / 2 ^ (256 - (i + 1)) = 2 * (IV f 8 / 2 ^ (256 - i)) + 1 := by
  rw [← IV_bit f 8 (255 - i) (by omega)] at h
  have hd : IV f 8 / 2 ^ (256 - i) = IV f 8 / 2 ^ (255 - i) / 2 := by rw [show 256 - i = (255 - i) + 1 by omega, Nat.pow_succ, Nat.div_div_eq_div_mul]
  rw [hd, show 256 - (i + 1) = 255 - i by omega]
  generalize IV f 8 / 2 ^ (255 - i) = x at *
  omega
theorem bt_i (x : Int32) (k : Nat) (hk : k < 32) : ((x >>> (nI k &&& 31)) &&& 1 = 1) ↔ ¬ wN x / 2 ^ k % 2 = 0 := by
  have hs : ((nI k &&& 31).toBitVec.smod 32).toNat = k := by
    have : ∀ k, k < 32 → ((nI k &&& 31).toBitVec.smod 32).toNat = k := by decide
    exact this k hk
  have h1 : ((x >>> (nI k &&& 31)) &&& 1).toBitVec = (x.toBitVec.sshiftRight k) &&& 1#32 := by
    show (x.toBitVec.sshiftRight' ((nI k &&& 31).toBitVec.smod 32)) &&& 1#32 = _
    rw [BitVec.sshiftRight', hs]
  have h2 : wN ((x >>> (nI k &&& 31)) &&& 1) = (x.toBitVec.sshiftRight k).toNat % 2 := by
    show ((x >>> (nI k &&& 31)) &&& 1).toBitVec.toNat = _
    rw [h1, BitVec.toNat_and]
    exact Nat.and_one_is_mod _
  have h3 : (x.toBitVec.sshiftRight k).toNat % 2 = wN x / 2 ^ k % 2 := by
    have a1 : (x.toBitVec.sshiftRight k).getLsbD 0 = x.toBitVec.getLsbD k := by
      rw [BitVec.getLsbD_sshiftRight]
      simp [hk]
    have a2 : (x.toBitVec.sshiftRight k).toNat.testBit 0 = (wN x).testBit k := a1
    rw [Nat.testBit_zero, Nat.testBit_eq_decide_div_mod_eq] at a2
    have := Nat.mod_two_eq_zero_or_one (x.toBitVec.sshiftRight k).toNat
    have := Nat.mod_two_eq_zero_or_one (wN x / 2 ^ k)
    have a3 := decide_eq_decide.mp a2
    omega
  constructor
  · intro e
    rw [e] at h2
    have : wN 1 = 1 := by decide
    omega
  · intro e
    refine wN_inj ?_
    rw [h2, h3, show wN 1 = 1 by decide]
    omega
