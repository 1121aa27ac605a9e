/-! SETTLE over the integers: written by wip/gen/ar4.py -/
theorem fzJ_valn (a : Nat → Int) (h : Int) (i : Nat) (wz : Nat → Int) (n : Nat) : ∀ j, i + j ≤ n → us (fzJ a h i wz j) 0 n = us a 0 n + h * tp i * us wz 0 j
  | 0, _ => by simp [fzJ, us]
  | j + 1, hj => by
    have e := us_up (fzJ a h i wz j) 0 (i + j) (fzJ a h i wz j (i + j) + h * wz j) n (by omega)
    rw [Nat.zero_add] at e
    rw [fzJ, e, fzJ_valn a h i wz n j (by omega), us_s wz 0 j, tp_add, Nat.zero_add]
    generalize tp i = s
    generalize tp j = t
    generalize us wz 0 j = u
    generalize us a 0 n = v
    generalize fzJ a h i wz j (i + j) = y
    clear e
    grind
theorem drJ_fo (g : Nat → Int64) (cn : Int64) (rv : Nat → Int64) : ∀ j, drJ g cn rv j = foJ g cn 0 rv j
  | 0 => rfl
  | j + 1 => by rw [drJ, foJ, drJ_fo g cn rv j, Nat.zero_add]
theorem trJ_fo (g rv : Nat → Int64) : ∀ j, trJ g rv j = foJ g 1 0 rv j
  | 0 => rfl
  | j + 1 => by rw [trJ, foJ, trJ_fo g rv j, Nat.zero_add, Int64.one_mul]
/-- nine short limbs -/
def dg9 (a : Nat → Int) : Prop := ∀ j, j < 9 → 0 ≤ a j ∧ a j < 67108864
theorem dg9_u {a : Nat → Int} (h : dg9 a) : 0 ≤ us a 0 9 ∧ us a 0 9 < tp 9 := us_dig 9 (fun j hj => by rw [Nat.zero_add]; exact h j hj)
theorem us10 (a : Nat → Int) : us a 0 10 = us a 0 9 + a 9 * tp 9 := by rw [us_s a 0 9, Nat.zero_add]
theorem foJ_dg {a rz : Nat → Int} {nr : Nat} {c : Int} (hnr : nr ≤ 9) (hr : ∀ j, j < nr → 0 ≤ rz j ∧ rz j ≤ 67108864) (ha : dg9 a) (hc : -1000000 ≤ c ∧ c ≤ 1000000) :
    ∃ r, caF (oF (fzJ a c 0 rz nr)) 0 9 = oF r ∧ dg9 r ∧ us r 0 10 = us a 0 10 + c * us rz 0 nr := by
  have fb : ∀ j, 0 ≤ j → j < 9 → -100000000000000 ≤ fzJ a c 0 rz nr j ∧ fzJ a c 0 rz nr j ≤ 100000000000000 := fun j _ hj => by
    have h3 := ha j hj
    rw [fzJ_at]
    split
    · next hx =>
      have h4 := hr (j - 0) (by omega)
      have := ab_mul hc (b := rz (j - 0)) (B := 67108864) (by omega)
      omega
    · omega
  obtain ⟨e1, e2, -, e4⟩ := caF_ok (a := fzJ a c 0 rz nr) (fr := 0) (to := 9) (B := 100000000000000) (by omega) (by omega) (by omega) fb
  refine ⟨_, e1, fun j hj => e2 j (by omega) hj, ?_⟩
  have e4' : us (czF (fzJ a c 0 rz nr) 0 9) 0 10 = us (fzJ a c 0 rz nr) 0 10 := e4
  rw [e4', fzJ_valn a c 0 rz 10 nr (by omega), tp_0, Int.mul_one]
theorem t9_22 : tp 9 * 4194304 = 115792089237316195423570985008687907853269984665640564039457584007913129639936 := by decide
theorem dr_ok {a rz : Nat → Int} {nr : Nat} {R : Int} (hnr : nr ≤ 9) (hr : ∀ j, j < nr → 0 ≤ rz j ∧ rz j ≤ 67108864) (hR : us rz 0 nr = R) (ha : dg9 a) (h9 : -1000000000000 ≤ a 9 ∧ a 9 ≤ 1000000000000) :
    ∃ r, drF (oF a) nr (oF rz) = oF r ∧ dg9 r ∧ us r 0 10 = us a 0 10 - (a 9 / 4194304) * (115792089237316195423570985008687907853269984665640564039457584007913129639936 - R) := by
  have hc : drC (oF a) = Int64.ofInt (a 9 / 4194304) := ar_shr22 (a 9) (by unfold rg; omega)
  have hd : dg9 (zU a 9 (a 9 - a 9 / 4194304 * 4194304)) := fun j hj => by rw [zU_n _ _ (by omega)]; exact ha j hj
  obtain ⟨r, r1, r2, r3⟩ := foJ_dg (c := a 9 / 4194304) hnr hr hd (by omega)
  refine ⟨r, ?_, r2, ?_⟩
  · rw [drF, hc, ar_shl22, drJ_fo]
    have e : oF a 9 - Int64.ofInt (a 9 / 4194304 * 4194304) = Int64.ofInt (a 9 - a 9 / 4194304 * 4194304) := (Int64.ofInt_sub _ _).symm
    rw [e, oF_up, foJ_oF, r1]
  · have u := us_up a 0 9 (a 9 - a 9 / 4194304 * 4194304) 10 (by omega)
    rw [Nat.zero_add] at u
    rw [r3, u, hR]
    have t := t9_22
    generalize a 9 / 4194304 = c
    generalize us a 0 10 = v
    generalize a 9 = x
    generalize tp 9 = y at *
    rw [show x - c * 4194304 - x = -(c * 4194304) by omega, Int.neg_mul, Int.mul_assoc, Int.mul_comm 4194304, t, Int.mul_sub]
    omega
/-- a settled row of the modulus m -/
def sett (m : Int) (r : Nat → Int) : Prop := dg9 r ∧ (0 ≤ r 9 ∧ r 9 < 4194304) ∧ us r 0 10 < m
theorem top9 {a : Nat → Int} (h : dg9 a) {v : Int} (hv : us a 0 10 = v) (h0 : 0 ≤ v) (h1 : v < 115792089237316195423570985008687907853269984665640564039457584007913129639936) : 0 ≤ a 9 ∧ a 9 < 4194304 := by
  have u := dg9_u h
  have t := t9_22
  have p := tp_pos 9
  rw [us10] at hv
  constructor
  · rcases Int.lt_or_le (a 9) 0 with h | h
    · have := Int.mul_le_mul_of_nonneg_right (show a 9 ≤ -1 by omega) (show 0 ≤ tp 9 by omega)
      omega
    · exact h
  · rcases Int.lt_or_le (a 9) 4194304 with h | h
    · exact h
    · have := Int.mul_le_mul_of_nonneg_right h (show 0 ≤ tp 9 by omega)
      rw [Int.mul_comm 4194304, t] at this
      omega
/-- how often 2^256 goes into the row -/
theorem div9 {a : Nat → Int} (h : dg9 a) : 0 ≤ us a 0 10 - (a 9 / 4194304) * 115792089237316195423570985008687907853269984665640564039457584007913129639936 ∧ us a 0 10 - (a 9 / 4194304) * 115792089237316195423570985008687907853269984665640564039457584007913129639936 < 115792089237316195423570985008687907853269984665640564039457584007913129639936 := by
  have u := dg9_u h
  have t := t9_22
  have p := tp_pos 9
  rw [us10, ← t]
  have h1 : 0 ≤ a 9 - a 9 / 4194304 * 4194304 ∧ a 9 - a 9 / 4194304 * 4194304 ≤ 4194303 := by omega
  generalize a 9 / 4194304 = c at *
  generalize a 9 = x at *
  generalize us a 0 9 = y at *
  generalize tp 9 = z at *
  have h2 := Int.mul_le_mul_of_nonneg_right h1.2 (show 0 ≤ z by omega)
  have h3 : 0 ≤ (x - c * 4194304) * z := Int.mul_nonneg h1.1 (by omega)
  have e : y + x * z - c * (z * 4194304) = y + (x - c * 4194304) * z := by rw [Int.sub_mul, Int.mul_assoc, Int.mul_comm 4194304]; omega
  rw [e]
  generalize (x - c * 4194304) * z = q at *
  omega
theorem set_ok {a rz : Nat → Int} {nr : Nat} {R m : Int} (hnr : nr ≤ 9) (hr : ∀ j, j < nr → 0 ≤ rz j ∧ rz j ≤ 67108864) (hR : us rz 0 nr = R) (hR2 : 0 < R ∧ R ≤ 1361129467683753853853498429727072845824) (hm : m = 115792089237316195423570985008687907853269984665640564039457584007913129639936 - R) (ha : ∀ j, j < 10 → -6710886400 ≤ a j ∧ a j ≤ 6710886400) :
    ∃ r, seF (oF a) nr (oF rz) = oF r ∧ sett m r ∧ us r 0 10 = us a 0 10 % m := by
  obtain ⟨e1, e2, -, e4⟩ := caF_ok (a := a) (fr := 0) (to := 9) (B := 6710886400) (by omega) (by omega) (by omega) (fun j _ h2 => ha j (by omega))
  have e4' : us (czF a 0 9) 0 10 = us a 0 10 := e4
  have g0 := us_geo (a := a) (fr := 0) (B := 6710886400) (by omega) 10 (fun j hj => by rw [Nat.zero_add]; exact ha j hj)
  generalize czF a 0 9 = b at e1 e2 e4'
  have hb : dg9 b := fun j hj => e2 j (by omega) hj
  have hv : -(6710886600 * tp 9) ≤ us b 0 10 ∧ us b 0 10 ≤ 6710886600 * tp 9 := by
    rw [e4']
    rw [tv10] at g0
    rw [tv9]
    generalize us a 0 10 = z at *
    omega
  have b9 : -1000000000000 ≤ b 9 ∧ b 9 ≤ 1000000000000 := by
    have u := dg9_u hb
    have p := tp_pos 9
    rw [us10] at hv
    rw [tv9] at *
    generalize us b 0 9 = z at *
    omega
  have q1 := div9 hb
  obtain ⟨c, c1, c2, c3⟩ := dr_ok hnr hr hR hb b9
  have k1 : -250000 ≤ b 9 / 4194304 ∧ b 9 / 4194304 ≤ 250000 := by omega
  generalize b 9 / 4194304 = s1 at *
  have m1 := ab_mul k1 (b := R) (B := 1361129467683753853853498429727072845824) (by omega)
  have v1 : us c 0 10 = (us b 0 10 - s1 * 115792089237316195423570985008687907853269984665640564039457584007913129639936) + s1 * R := by rw [c3, Int.mul_sub]; omega
  have cb : -115792089237316195423570985008687907853269984665640564039457584007913129639936 < us c 0 10 ∧ us c 0 10 < 2 * 115792089237316195423570985008687907853269984665640564039457584007913129639936 := by
    generalize s1 * R = z at *
    omega
  have q2 := div9 c2
  have c9 : -1 ≤ c 9 / 4194304 ∧ c 9 / 4194304 ≤ 1 := by omega
  obtain ⟨d, d1, d2, d3⟩ := dr_ok hnr hr hR c2 (by omega)
  generalize c 9 / 4194304 = s2 at *
  have v2 : us d 0 10 = (us c 0 10 - s2 * 115792089237316195423570985008687907853269984665640564039457584007913129639936) + s2 * R := by rw [d3, Int.mul_sub]; omega
  have db : 0 ≤ us d 0 10 ∧ us d 0 10 < 115792089237316195423570985008687907853269984665640564039457584007913129639936 := by
    rcases (show s2 = -1 ∨ s2 = 0 ∨ s2 = 1 by omega) with h | h | h
    · rw [h] at v2 q2
      generalize s1 * R = z at *
      omega
    · rw [h] at v2 q2
      omega
    · rw [h] at v2 q2
      generalize s1 * R = z at *
      omega
  have hA : seA (oF a) nr (oF rz) = oF d := by rw [seA, e1, c1, d1]
  have d9 := top9 d2 rfl db.1 db.2
  have hcong : us d 0 10 = us a 0 10 - (s1 + s2) * m := by
    rw [d3, c3, e4', hm, Int.add_mul]
    omega
  obtain ⟨t, t1, t2, t3⟩ := foJ_dg (c := 1) hnr hr d2 (by omega)
  rw [hR, Int.one_mul] at t3
  have hT : seT (oF a) nr (oF rz) = oF t := by
    rw [seT, hA, trJ_fo, show (1 : Int64) = Int64.ofInt 1 from rfl, foJ_oF, t1]
  have q3 := div9 t2
  have t9 : 0 ≤ t 9 ∧ t 9 < 2 * 4194304 := by
    have := q3
    rw [t3] at this
    omega
  have hC : drC (seT (oF a) nr (oF rz)) = Int64.ofInt (t 9 / 4194304) := by
    rw [hT]
    exact ar_shr22 (t 9) (by unfold rg; omega)
  rcases (show t 9 / 4194304 = 0 ∨ t 9 / 4194304 = 1 by omega) with h | h
  · rw [h] at hC q3
    have hlt : us d 0 10 < m := by omega
    refine ⟨d, ?_, ⟨d2, d9, hlt⟩, ?_⟩
    · rw [seF, if_pos (show drC (seT (oF a) nr (oF rz)) = 0 from hC), hA]
    · have : us a 0 10 = us d 0 10 + (s1 + s2) * m := by omega
      rw [this, Int.add_mul_emod_self_right, Int.emod_eq_of_lt db.1 hlt]
  · rw [h] at hC q3
    have u := us_up t 0 9 (t 9 - 4194304) 10 (by omega)
    rw [Nat.zero_add] at u
    have u2 : us (zU t 9 (t 9 - 4194304)) 0 10 = us d 0 10 - m := by
      rw [u, t3, show t 9 - 4194304 - t 9 = -4194304 by omega, Int.neg_mul, Int.mul_comm, t9_22, hm]
      omega
    have hlt : us d 0 10 - m < m := by omega
    have h0 : 0 ≤ us d 0 10 - m := by omega
    refine ⟨zU t 9 (t 9 - 4194304), ?_, ⟨fun j hj => by rw [zU_n _ _ (by omega)]; exact t2 j hj, ?_, by rw [u2]; exact hlt⟩, ?_⟩
    · rw [seF, if_neg (by rw [hC]; decide), hT, ← oF_up]
      congr 1
      show Int64.ofInt (t 9) - Int64.ofInt 4194304 = _
      exact (Int64.ofInt_sub _ _).symm
    · rw [zU_s]
      omega
    · have : us a 0 10 = (us d 0 10 - m) + (s1 + s2 + 1) * m := by rw [Int.add_mul _ 1]; omega
      rw [u2, this, Int.add_mul_emod_self_right, Int.emod_eq_of_lt h0 hlt]
