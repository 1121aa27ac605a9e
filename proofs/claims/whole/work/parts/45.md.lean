/-! THE TWO MODULI: their static rows; multiply, settle, power for both: written by a program -/
def wzP : Nat → Int := fun j => match j with
  | 0 => 15632
  | _ => 1024
def rzP : Nat → Int := fun j => match j with
  | 0 => 977
  | _ => 64
def wzN : Nat → Int := fun j => match j with
  | 0 => 10218480
  | 1 => 42323135
  | 2 => 63193133
  | 3 => 39071191
  | 4 => 5575217
  | _ => 5
def rzN : Nat → Int := fun j => match j with
  | 0 => 63553215
  | 1 => 57171147
  | 2 => 33309698
  | 3 => 6636253
  | _ => 21319971
def sP : Nat → Int64 := fun j => match j with
  | 0 => (-4294968273)
  | 1 => (-1)
  | 2 => (-1)
  | _ => (-1)
theorem sP_v : NV sP = 115792089237316195423570985008687907853269984665640564039457584007908834671663 := by decide +kernel
def sP2 : Nat → Int64 := fun j => match j with
  | 0 => (-4294968275)
  | 1 => (-1)
  | 2 => (-1)
  | _ => (-1)
theorem sP2_v : NV sP2 = 115792089237316195423570985008687907853269984665640564039457584007908834671661 := by decide +kernel
def sRt : Nat → Int64 := fun j => match j with
  | 0 => (-1073742068)
  | 1 => (-1)
  | 2 => (-1)
  | _ => 4611686018427387903
theorem sRt_v : NV sRt = 28948022309329048855892746252171976963317496166410141009864396001977208667916 := by decide +kernel
def sN : Nat → Int64 := fun j => match j with
  | 0 => (-4624529908474429119)
  | 1 => (-4994812053365940165)
  | 2 => (-2)
  | _ => (-1)
theorem sN_v : NV sN = 115792089237316195423570985008687907852837564279074904382605163141518161494337 := by decide +kernel
def sN2 : Nat → Int64 := fun j => match j with
  | 0 => (-4624529908474429121)
  | 1 => (-4994812053365940165)
  | 2 => (-2)
  | _ => (-1)
theorem sN2_v : NV sN2 = 115792089237316195423570985008687907852837564279074904382605163141518161494335 := by decide +kernel
def sGX : Nat → Int64 := fun j => match j with
  | 0 => 6481385041966929816
  | 1 => 188021827762530521
  | 2 => 6170039885052185351
  | _ => 8772561819708210092
theorem sGX_v : NV sGX = 55066263022277343669578718895168534326250603453777594175500187360389116729240 := by decide +kernel
def sGY : Nat → Int64 := fun j => match j with
  | 0 => (-7185545363635252040)
  | 1 => (-209500633525038055)
  | 2 => 6747795201694173352
  | _ => 5204712524664259685
theorem sGY_v : NV sGY = 32670510020758816978083085130507043184471273380659243275938904335757337482424 := by decide +kernel
def sZ : Nat → Int64 := fun _ => 0
theorem sZ_v : NV sZ = 0 := by decide +kernel
/-- what is known of a modulus -/
def MDs (m : Int) (bb : Int32) (nw : Nat) (wv : Nat → Int64) (nr : Nat) (rv : Nat → Int64) : Prop :=
  (∀ (a b : Nat → Int) (A B : Int), (∀ j, j < 10 → -A ≤ a j ∧ a j ≤ A) → (∀ j, j < 10 → -B ≤ b j ∧ b j ≤ B) → A * B ≤ 450359962737049600 → ∃ r, muW (oF a) (oF b) bb nw wv = oF r ∧ rw1 r ∧ us r 0 10 % m = (us a 0 10 * us b 0 10) % m) ∧
  (∀ a : Nat → Int, (∀ j, j < 10 → -6710886400 ≤ a j ∧ a j ≤ 6710886400) → ∃ r, seF (oF a) nr rv = oF r ∧ sett m r ∧ us r 0 10 = us a 0 10 % m) ∧ nw ≤ 9 ∧ nr ≤ 9 ∧ 2 < m ∧ m < 115792089237316195423570985008687907853269984665640564039457584007913129639936
theorem md_P : MDs nP 0 2 (oF wzP) 2 (oF rzP) := by
  refine ⟨fun a b A B ha hb hAB => ?_, fun a ha => ?_, by omega, by omega, by decide +kernel, by decide +kernel⟩
  · obtain ⟨r, h1, h2, h3⟩ := mul_field (m := nP) (wz := wzP) (fun j hj => by rcases (show j = 0 ∨ j = 1 by omega) with rfl | rfl <;> decide) (WR := us wzP 0 2) rfl (by decide +kernel) (by decide +kernel) ha hb hAB
    exact ⟨r, h1, h2, Int.emod_eq_emod_iff_emod_sub_eq_zero.mpr h3⟩
  · exact set_ok (R := us rzP 0 2) (m := nP) (by omega) (fun j hj => by rcases (show j = 0 ∨ j = 1 by omega) with rfl | rfl <;> decide) rfl (by decide +kernel) (by decide +kernel) ha
theorem md_N : MDs nN 1 6 (oF wzN) 5 (oF rzN) := by
  refine ⟨fun a b A B ha hb hAB => ?_, fun a ha => ?_, by omega, by omega, by decide +kernel, by decide +kernel⟩
  · obtain ⟨r, h1, h2, h3⟩ := mul_order (m := nN) (wz := wzN) (fun j hj => by rcases (show j = 0 ∨ j = 1 ∨ j = 2 ∨ j = 3 ∨ j = 4 ∨ j = 5 by omega) with rfl | rfl | rfl | rfl | rfl | rfl <;> decide) (WR := us wzN 0 6) rfl (by decide +kernel) (by decide +kernel) ha hb hAB
    exact ⟨r, h1, h2, Int.emod_eq_emod_iff_emod_sub_eq_zero.mpr h3⟩
  · exact set_ok (R := us rzN 0 5) (m := nN) (by omega) (fun j hj => by rcases (show j = 0 ∨ j = 1 ∨ j = 2 ∨ j = 3 ∨ j = 4 by omega) with rfl | rfl | rfl | rfl | rfl <;> decide) rfl (by decide +kernel) (by decide +kernel) ha
theorem rw1_b {r : Nat → Int} (h : rw1 r) : ∀ j, j < 10 → -67108864 ≤ r j ∧ r j ≤ 67108864 := fun j hj => by
  rcases Nat.lt_or_ge j 9 with q | q
  · have := h.1 j q
    omega
  · obtain rfl : j = 9 := by omega
    have := h.2
    omega
theorem sett_b {m : Int} {r : Nat → Int} (h : sett m r) : ∀ j, j < 10 → -67108864 ≤ r j ∧ r j ≤ 67108864 := fun j hj => by
  rcases Nat.lt_or_ge j 9 with q | q
  · have := h.1 j q
    omega
  · obtain rfl : j = 9 := by omega
    have := h.2.1
    omega
theorem unF_z : unF sZ = oF (fun _ => 0) := by
  funext j
  match j with
  | 0 | 1 | 2 | 3 | 4 | 5 | 6 | 7 | 8 => decide
  | j + 9 =>
    show (((((0 : Int64)).toUInt64 >>> ((42 : Int32).toInt64.toUInt64 &&& Int64.toUInt64 63)).toInt64) &&& 67108863) = Int64.ofInt 0
    decide
theorem one_row : vp_updL (unF sZ) 0 1 = oF (zU (fun _ => 0) 0 1) := by
  rw [unF_z, ← oF_up]
  rfl
theorem one_us : us (zU (fun _ => 0) 0 1) 0 10 = 1 := by decide
theorem pow_half (A : Int) (n : Nat) : A ^ (2 * n) = A ^ n * A ^ n := by rw [Nat.two_mul, Int.pow_add]
/-- power -/
theorem po_ok {m : Int} {bb : Int32} {nw nr : Nat} {wv rv ev : Nat → Int64} (D : MDs m bb nw wv nr rv) {a : Nat → Int} (ha : ∀ j, j < 10 → -671088640 ≤ a j ∧ a j ≤ 671088640) : ∀ k, k ≤ 256 → ∃ r, poS bb nw wv (oF a) ev sZ k = oF r ∧ (∀ j, j < 10 → -67108864 ≤ r j ∧ r j ≤ 67108864) ∧ us r 0 10 % m = (us a 0 10) ^ (NV ev / 2 ^ (256 - k)) % m ∧ (k ≠ 0 → rw1 r)
  | 0, _ => by
    refine ⟨zU (fun _ => 0) 0 1, one_row, fun j hj => ?_, ?_, fun h => absurd rfl h⟩
    · simp only [zU]
      split <;> omega
    · rw [one_us, Nat.sub_zero, Nat.div_eq_of_lt (NV_lt ev), Int.pow_zero]
  | k + 1, hk => by
    obtain ⟨r, h1, h2, h3, -⟩ := po_ok D ha k (by omega)
    obtain ⟨q, q1, q2, q3⟩ := D.1 r r 67108864 67108864 h2 h2 (by omega)
    have e3 : us q 0 10 % m = (us a 0 10) ^ (2 * (NV ev / 2 ^ (256 - k))) % m := by
      rw [q3, Int.mul_emod, h3, ← Int.mul_emod, pow_half]
    have hb := NV_bit ev (255 - k) (by omega)
    have hd : NV ev / 2 ^ (256 - k) = NV ev / 2 ^ (255 - k) / 2 := by rw [show 256 - k = (255 - k) + 1 by omega, Nat.pow_succ, Nat.div_div_eq_div_mul]
    have hs : 256 - (k + 1) = 255 - k := by omega
    rw [poS, h1, hs]
    rcases Classical.em (uN (ev ((255 - k) / 64)) / 2 ^ ((255 - k) % 64) % 2 = 0) with h | h
    · refine ⟨q, ?_, rw1_b q2, ?_, fun _ => q2⟩
      · rw [if_pos h]
        exact q1
      · rw [e3, hd, show 2 * (NV ev / 2 ^ (255 - k) / 2) = NV ev / 2 ^ (255 - k) by omega]
    · obtain ⟨t, t1, t2, t3⟩ := D.1 q a 67108864 671088640 (rw1_b q2) ha (by omega)
      refine ⟨t, ?_, rw1_b t2, ?_, fun _ => t2⟩
      · rw [if_neg h]
        show muW (muW (oF r) (oF r) bb nw wv) (oF a) bb nw wv = oF t
        rw [q1, t1]
      · have e : NV ev / 2 ^ (255 - k) = 2 * (NV ev / 2 ^ (256 - k)) + 1 := by rw [hd]; omega
        rw [t3, Int.mul_emod, e3, ← Int.mul_emod, e, Int.pow_succ]
