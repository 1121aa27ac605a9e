/-! NUMBER THEORY: binomials, Fermat, Pocklington; the prime of the curve -/
def nt_P (p : Nat) : Prop := 2 ≤ p ∧ ∀ d, d ∣ p → d = 1 ∨ d = p
def nt_ch : Nat → Nat → Nat
  | _, 0 => 1
  | 0, _ + 1 => 0
  | n + 1, k + 1 => nt_ch n k + nt_ch n (k + 1)
theorem nt_ch_0 (n : Nat) : nt_ch n 0 = 1 := by cases n <;> rfl
theorem nt_ch_s (n k : Nat) : nt_ch (n + 1) (k + 1) = nt_ch n k + nt_ch n (k + 1) := rfl
theorem nt_ch_gt : ∀ (n k : Nat), n < k → nt_ch n k = 0
  | _, 0, h => absurd h (Nat.not_lt_zero _)
  | 0, _ + 1, _ => rfl
  | n + 1, k + 1, h => by rw [nt_ch_s, nt_ch_gt n k (by omega), nt_ch_gt n (k + 1) (by omega)]
theorem nt_ch_self : ∀ n, nt_ch n n = 1
  | 0 => rfl
  | n + 1 => by rw [nt_ch_s, nt_ch_self n, nt_ch_gt n (n + 1) (by omega)]
theorem nt_ch_abs : ∀ (n k : Nat), (k + 1) * nt_ch (n + 1) (k + 1) = (n + 1) * nt_ch n k
  | 0, 0 => rfl
  | 0, k + 1 => by rw [nt_ch_gt 1 (k + 1 + 1) (by omega), nt_ch_gt 0 (k + 1) (by omega), Nat.mul_zero, Nat.mul_zero]
  | n + 1, 0 => by
    have h := nt_ch_abs n 0
    rw [nt_ch_s, nt_ch_0]
    rw [nt_ch_0] at h
    simp only [Nat.zero_add, Nat.one_mul, Nat.mul_one] at h ⊢
    rw [h]; omega
  | n + 1, k + 1 => by
    have h1 := nt_ch_abs n k
    have h2 := nt_ch_abs n (k + 1)
    have e2 := nt_ch_s n k
    rw [nt_ch_s (n + 1) (k + 1)]
    generalize nt_ch (n + 1) (k + 1) = D at *
    generalize nt_ch (n + 1) (k + 1 + 1) = C at *
    generalize nt_ch n k = A at *
    generalize nt_ch n (k + 1) = B at *
    subst e2
    rw [Nat.mul_add, h2, Nat.add_mul (k + 1) 1, h1, Nat.one_mul, Nat.add_mul (n + 1) 1, Nat.mul_add, Nat.one_mul]
    omega
def nt_bs (n x : Nat) : Nat → Nat
  | 0 => 0
  | m + 1 => nt_bs n x m + nt_ch n m * x ^ m
theorem nt_bs_s (n x : Nat) : ∀ m, nt_bs (n + 1) x (m + 1) = nt_bs n x (m + 1) + x * nt_bs n x m
  | 0 => by simp [nt_bs, nt_ch_0]
  | m + 1 => by
    have ih := nt_bs_s n x m
    rw [nt_bs, ih, nt_bs, nt_ch_s]
    have e : nt_bs n x (m + 1) = nt_bs n x m + nt_ch n m * x ^ m := rfl
    have e2 : nt_bs n x (m + 1 + 1) = nt_bs n x (m + 1) + nt_ch n (m + 1) * x ^ (m + 1) := rfl
    rw [e2, e, Nat.mul_add x, Nat.add_mul (nt_ch n m)]
    have e3 : x * (nt_ch n m * x ^ m) = nt_ch n m * x ^ (m + 1) := by rw [Nat.pow_succ, Nat.mul_left_comm, Nat.mul_comm x]
    rw [e3]
    omega
theorem nt_binom (x : Nat) : ∀ n, (1 + x) ^ n = nt_bs n x (n + 1)
  | 0 => by simp [nt_bs, nt_ch_0]
  | n + 1 => by
    have ih := nt_binom x n
    rw [nt_bs_s, Nat.pow_succ, ih]
    have e : nt_bs n x (n + 1 + 1) = nt_bs n x (n + 1) + nt_ch n (n + 1) * x ^ (n + 1) := rfl
    rw [e, nt_ch_gt n (n + 1) (by omega), Nat.zero_mul, Nat.mul_add, Nat.mul_one, Nat.mul_comm x]
    rfl
theorem nt_euclid {p a b : Nat} (hp : nt_P p) (h : p ∣ a * b) : p ∣ a ∨ p ∣ b := by
  rcases hp.2 _ (Nat.gcd_dvd_left p a) with h1 | h1
  · exact Or.inr (Nat.Coprime.dvd_of_dvd_mul_left h1 h)
  · left
    rw [← h1]
    exact Nat.gcd_dvd_right p a
theorem nt_ch_dvd {p k : Nat} (hp : nt_P p) (h0 : 0 < k) (hk : k < p) : p ∣ nt_ch p k := by
  obtain ⟨j, rfl⟩ : ∃ j, k = j + 1 := ⟨k - 1, by omega⟩
  obtain ⟨n, rfl⟩ : ∃ n, p = n + 1 := ⟨p - 1, by omega⟩
  have h := nt_ch_abs n j
  have h2 : (n + 1) ∣ (j + 1) * nt_ch (n + 1) (j + 1) := by rw [h]; exact Nat.dvd_mul_right _ _
  rcases nt_euclid hp h2 with h3 | h3
  · exact absurd (Nat.le_of_dvd (by omega) h3) (by omega)
  · exact h3
theorem nt_bs_one {p x : Nat} (hp : nt_P p) : ∀ m, m + 1 ≤ p → ∃ c, nt_bs p x (m + 1) = 1 + p * c
  | 0, _ => ⟨0, by simp [nt_bs, nt_ch_0]⟩
  | m + 1, h => by
    obtain ⟨c, hc⟩ := nt_bs_one (x := x) hp m (by omega)
    obtain ⟨d, hd⟩ := nt_ch_dvd hp (k := m + 1) (by omega) (by omega)
    refine ⟨c + d * x ^ (m + 1), ?_⟩
    have e : nt_bs p x (m + 1 + 1) = nt_bs p x (m + 1) + nt_ch p (m + 1) * x ^ (m + 1) := rfl
    rw [e, hc, hd, Nat.mul_add, Nat.mul_assoc, Nat.add_assoc]
theorem nt_fresh {p : Nat} (hp : nt_P p) (x : Nat) : ∃ c, (1 + x) ^ p = x ^ p + 1 + p * c := by
  have h2 := hp.1
  obtain ⟨c, hc⟩ := nt_bs_one (x := x) hp (p - 1) (by omega)
  rw [show p - 1 + 1 = p by omega] at hc
  refine ⟨c, ?_⟩
  rw [nt_binom]
  have e : nt_bs p x (p + 1) = nt_bs p x p + nt_ch p p * x ^ p := rfl
  rw [e, hc, nt_ch_self, Nat.one_mul]
  omega
theorem nt_fermat0 {p : Nat} (hp : nt_P p) : ∀ x, ∃ c, x ^ p = x + p * c
  | 0 => ⟨0, by rw [Nat.mul_zero, Nat.zero_pow (by have := hp.1; omega)]⟩
  | x + 1 => by
    obtain ⟨c, hc⟩ := nt_fermat0 hp x
    obtain ⟨d, hd⟩ := nt_fresh hp x
    refine ⟨c + d, ?_⟩
    rw [Nat.add_comm x 1, hd, hc, Nat.mul_add]
    omega
theorem nt_fermat {p a : Nat} (hp : nt_P p) (ha : ¬ p ∣ a) : a ^ (p - 1) % p = 1 := by
  have h2 := hp.1
  obtain ⟨c, hc⟩ := nt_fermat0 hp a
  have hs : a ^ p = a * a ^ (p - 1) := by
    rw [← Nat.pow_succ']
    congr 1
    omega
  have h0 : 0 < a := by
    rcases Nat.eq_zero_or_pos a with h | h
    · exact absurd (by rw [h]; exact Nat.dvd_zero p) ha
    · exact h
  have hpos : 0 < a ^ (p - 1) := Nat.pow_pos h0
  obtain ⟨y, hy⟩ : ∃ y, a ^ (p - 1) = y + 1 := ⟨a ^ (p - 1) - 1, by omega⟩
  have h3 : a * y = p * c := by
    rw [hs, hy, Nat.mul_add, Nat.mul_one] at hc
    omega
  rcases nt_euclid hp (show p ∣ a * y from ⟨c, h3⟩) with h4 | ⟨d, hd⟩
  · exact absurd h4 ha
  · rw [hy, hd, Nat.add_comm, Nat.add_mul_mod_self_left, Nat.mod_eq_of_lt (by omega)]
theorem nt_pow_gcd {b r : Nat} (hr : 2 ≤ r) (x y : Nat) : b ^ x % r = 1 → b ^ y % r = 1 → b ^ (Nat.gcd x y) % r = 1 := by
  refine Nat.gcd.induction x y (P := fun x y => b ^ x % r = 1 → b ^ y % r = 1 → b ^ (Nat.gcd x y) % r = 1) ?_ ?_
  · intro n _ h
    rw [Nat.gcd_zero_left]
    exact h
  · intro m n hm ih h1 h2
    rw [Nat.gcd_rec]
    refine ih ?_ h1
    have e : n = m * (n / m) + n % m := (Nat.div_add_mod n m).symm
    rw [e, Nat.pow_add, Nat.pow_mul, Nat.mul_mod, Nat.pow_mod (b ^ m), h1, Nat.one_pow, Nat.mod_eq_of_lt (show 1 < r by omega), Nat.one_mul, Nat.mod_mod] at h2
    exact h2
/-- a ^ e modulo n, by its bits -/
def nt_pm : Nat → Nat → Nat → Nat → Nat
  | 0, _, _, n => 1 % n
  | k + 1, a, e, n => match e % 2 with
    | 0 => nt_pm k (a * a % n) (e / 2) n
    | _ + 1 => a * nt_pm k (a * a % n) (e / 2) n % n
theorem nt_pm_eq : ∀ (k a e n : Nat), e < 2 ^ k → nt_pm k a e n = a ^ e % n
  | 0, a, e, n, h => by
    have : e = 0 := by simpa using h
    subst this
    rfl
  | k + 1, a, e, n, h => by
    have ih := nt_pm_eq k (a * a % n) (e / 2) n (by rw [Nat.pow_succ] at h; omega)
    rw [← Nat.pow_mod, show a * a = a ^ 2 by rw [Nat.pow_succ, Nat.pow_one], ← Nat.pow_mul] at ih
    unfold nt_pm
    rw [show a * a = a ^ 2 by rw [Nat.pow_succ, Nat.pow_one]]
    split
    · next h0 => rw [ih, show 2 * (e / 2) = e by omega]
    · next j h1 =>
      rw [ih, Nat.mul_mod, Nat.mod_mod, ← Nat.mul_mod, ← Nat.pow_succ', show (2 * (e / 2)).succ = e by omega]
theorem nt_pock {n q a f : Nat} (hn : 2 ≤ n) (hf : n < 2 ^ f) (hq : nt_P q) (hqn : (n - 1) % q = 0) (h1 : nt_pm f a (n - 1) n = 1) (h2 : Nat.gcd (nt_pm f a ((n - 1) / q) n + n - 1) n = 1) {r : Nat} (hr : nt_P r) (hrn : r ∣ n) : q ∣ r - 1 := by
  have hq2 := hq.1
  have hr2 := hr.1
  obtain ⟨k, hk⟩ := Nat.dvd_of_mod_eq_zero hqn
  have hdiv : (n - 1) / q = k := by rw [hk]; exact Nat.mul_div_cancel_left k (by omega)
  have hkn : k ≤ n - 1 := by rw [← hdiv]; exact Nat.div_le_self _ _
  rw [hdiv, nt_pm_eq f a k n (by omega)] at h2
  rw [nt_pm_eq f a (n - 1) n (by omega), hk, Nat.pow_mul'] at h1
  generalize a ^ k = b at h1 h2
  have hb : b ^ q % r = 1 := by rw [← Nat.mod_mod_of_dvd _ hrn, h1, Nat.mod_eq_of_lt (by omega)]
  have hnb : ¬ b % r = 1 := by
    intro h
    have h3 : (b % n) % r = 1 := by rw [Nat.mod_mod_of_dvd _ hrn]; exact h
    obtain ⟨z, hz⟩ : ∃ z, b % n = r * z + 1 := ⟨b % n / r, by have := Nat.div_add_mod (b % n) r; omega⟩
    have h4 : r ∣ b % n + n - 1 := by
      rw [hz, show r * z + 1 + n - 1 = r * z + n by omega]
      exact Nat.dvd_add (Nat.dvd_mul_right r z) hrn
    have h5 := Nat.dvd_gcd h4 hrn
    rw [h2] at h5
    exact absurd (Nat.le_of_dvd (by omega) h5) (by omega)
  rcases Classical.em (q ∣ r - 1) with h | h
  · exact h
  · exfalso
    have hcop : Nat.gcd q (r - 1) = 1 := by
      rcases hq.2 _ (Nat.gcd_dvd_left q (r - 1)) with h3 | h3
      · exact h3
      · exact absurd (by have h4 := Nat.gcd_dvd_right q (r - 1); rw [h3] at h4; exact h4) h
    have hrb : ¬ r ∣ b := by
      intro h3
      rw [Nat.pow_mod, Nat.mod_eq_zero_of_dvd h3, Nat.zero_pow (by omega)] at hb
      simp at hb
    have h3 := nt_pow_gcd hr2 q (r - 1) hb (nt_fermat hr hrb)
    rw [hcop, Nat.pow_one] at h3
    exact hnb h3
theorem nt_factor : ∀ (n m : Nat), m ≤ n → 2 ≤ m → ∃ r, nt_P r ∧ r ∣ m
  | 0, m, h, h2 => absurd h2 (by omega)
  | n + 1, m, h, h2 => by
    rcases Classical.em (nt_P m) with hp | hp
    · exact ⟨m, hp, Nat.dvd_refl m⟩
    · have : ∃ d, d ∣ m ∧ ¬ d = 1 ∧ ¬ d = m := Classical.byContradiction fun h3 => hp ⟨h2, fun d hd => Classical.byContradiction fun h4 => h3 ⟨d, hd, fun e => h4 (Or.inl e), fun e => h4 (Or.inr e)⟩⟩
      obtain ⟨d, hd, h1, hm⟩ := this
      have hle := Nat.le_of_dvd (by omega) hd
      have h0 : d ≠ 0 := by
        rintro rfl
        exact absurd (Nat.eq_zero_of_zero_dvd hd) (by omega)
      obtain ⟨r, hr, hrd⟩ := nt_factor n d (by omega) (by omega)
      exact ⟨r, hr, Nat.dvd_trans hrd hd⟩
theorem nt_prime_of {n : Nat} (hn : 2 ≤ n) (h : ∀ r, nt_P r → r ∣ n → n < r * r) : nt_P n := by
  refine ⟨hn, fun d hd => Classical.byContradiction fun h4 => ?_⟩
  have h1 : ¬ d = 1 := fun e => h4 (Or.inl e)
  have hm : ¬ d = n := fun e => h4 (Or.inr e)
  obtain ⟨e, he⟩ := hd
  have h0 : d ≠ 0 := by rintro rfl; omega
  have he0 : e ≠ 0 := by rintro rfl; omega
  have he1 : e ≠ 1 := by rintro rfl; omega
  have key : ∀ x, x ∣ n → 2 ≤ x → x * x ≤ n → False := by
    intro x hx h2 hxx
    obtain ⟨r, hr, hrx⟩ := nt_factor x x (Nat.le_refl x) h2
    have := h r hr (Nat.dvd_trans hrx hx)
    have hle := Nat.le_of_dvd (by omega) hrx
    have := Nat.mul_le_mul hle hle
    omega
  rcases Nat.le_total d e with hde | hde
  · exact key d ⟨e, he⟩ (by omega) (by rw [he]; exact Nat.mul_le_mul_left d hde)
  · exact key e ⟨d, by rw [he, Nat.mul_comm]⟩ (by omega) (by rw [he]; exact Nat.mul_le_mul_right e hde)
/-- no divisor from d on, k of them -/
def nt_tr : Nat → Nat → Nat → Bool
  | 0, _, _ => true
  | k + 1, d, p => match p % d with
    | 0 => false
    | _ + 1 => nt_tr k (d + 1) p
theorem nt_tr_spec : ∀ (k d p : Nat), nt_tr k d p = true → ∀ x, d ≤ x → x < d + k → ¬ p % x = 0
  | 0, d, p, _, x, h1, h2 => absurd h2 (by omega)
  | k + 1, d, p, h, x, h1, h2 => by
    unfold nt_tr at h
    split at h
    · cases h
    · next j hj =>
      rcases Nat.eq_or_lt_of_le h1 with rfl | h3
      · omega
      · exact nt_tr_spec k (d + 1) p h x (by omega) (by omega)
theorem nt_small {p k : Nat} (h2 : 2 ≤ p) (hk : p < (k + 2) * (k + 2)) (h : nt_tr k 2 p = true) : nt_P p := by
  refine nt_prime_of h2 fun r hr hrp => ?_
  rcases Nat.lt_or_ge r (k + 2) with h3 | h3
  · exact absurd (Nat.mod_eq_zero_of_dvd hrp) (nt_tr_spec k 2 p h r hr.1 (by omega))
  · exact Nat.lt_of_lt_of_le hk (Nat.mul_le_mul h3 h3)
def nt_q1 : Nat := 107590001
def nt_q2 : Nat := 7240687
def nt_q3 : Nat := 96557
def nt_r : Nat := 255515944373312847190720520512484175977
def nt_q : Nat := 205115282021455665897114700593932402728804164701536103180137503955397371
def nP : Nat := 115792089237316195423570985008687907853269984665640564039457584007908834671663
def nN : Nat := 115792089237316195423570985008687907852837564279074904382605163141518161494337
set_option maxRecDepth 100000 in
theorem nt_q1_P : nt_P nt_q1 := nt_small (k := 10400) (by decide +kernel) (by decide +kernel) (by decide +kernel)
set_option maxRecDepth 100000 in
theorem nt_q2_P : nt_P nt_q2 := nt_small (k := 2700) (by decide +kernel) (by decide +kernel) (by decide +kernel)
set_option maxRecDepth 100000 in
theorem nt_q3_P : nt_P nt_q3 := nt_small (k := 320) (by decide +kernel) (by decide +kernel) (by decide +kernel)
theorem nt_cop {a b : Nat} (ha : nt_P a) (hb : nt_P b) (h : a ≠ b) : Nat.Coprime a b := by
  rcases ha.2 _ (Nat.gcd_dvd_left a b) with h1 | h1
  · exact h1
  · rcases hb.2 _ (Nat.gcd_dvd_right a b) with h2 | h2
    · exact h2
    · exact absurd (h1.symm.trans h2) h
theorem nt_r_P : nt_P nt_r := by
  refine nt_prime_of (by decide +kernel) fun r hr hrn => ?_
  have a1 : nt_q1 ∣ r - 1 := nt_pock (n := nt_r) (a := 2) (f := 128) (by decide +kernel) (by decide +kernel) nt_q1_P (by decide +kernel) (by decide +kernel) (by decide +kernel) hr hrn
  have a2 : nt_q2 ∣ r - 1 := nt_pock (n := nt_r) (a := 2) (f := 128) (by decide +kernel) (by decide +kernel) nt_q2_P (by decide +kernel) (by decide +kernel) (by decide +kernel) hr hrn
  have a3 : nt_q3 ∣ r - 1 := nt_pock (n := nt_r) (a := 2) (f := 128) (by decide +kernel) (by decide +kernel) nt_q3_P (by decide +kernel) (by decide +kernel) (by decide +kernel) hr hrn
  have c12 := nt_cop nt_q1_P nt_q2_P (by decide +kernel)
  have c13 := nt_cop nt_q1_P nt_q3_P (by decide +kernel)
  have c23 := nt_cop nt_q2_P nt_q3_P (by decide +kernel)
  have h := Nat.Coprime.mul_dvd_of_dvd_of_dvd (Nat.Coprime.mul_left c13 c23) (Nat.Coprime.mul_dvd_of_dvd_of_dvd c12 a1 a2) a3
  have h2 := hr.1
  have hle := Nat.le_of_dvd (by omega) h
  have hb : nt_r < (nt_q1 * nt_q2 * nt_q3) * (nt_q1 * nt_q2 * nt_q3) := by decide +kernel
  refine Nat.lt_of_lt_of_le hb (Nat.mul_le_mul ?_ ?_) <;> omega
theorem nt_q_P : nt_P nt_q := by
  refine nt_prime_of (by decide +kernel) fun r hr hrn => ?_
  have h : nt_r ∣ r - 1 := nt_pock (n := nt_q) (a := 2) (f := 256) (by decide +kernel) (by decide +kernel) nt_r_P (by decide +kernel) (by decide +kernel) (by decide +kernel) hr hrn
  have h2 := hr.1
  have hle := Nat.le_of_dvd (by omega) h
  have hb : nt_q < nt_r * nt_r := by decide +kernel
  refine Nat.lt_of_lt_of_le hb (Nat.mul_le_mul ?_ ?_) <;> omega
theorem nP_P : nt_P nP := by
  refine nt_prime_of (by decide +kernel) fun r hr hrn => ?_
  have h : nt_q ∣ r - 1 := nt_pock (n := nP) (a := 2) (f := 256) (by decide +kernel) (by decide +kernel) nt_q_P (by decide +kernel) (by decide +kernel) (by decide +kernel) hr hrn
  have h2 := hr.1
  have hle := Nat.le_of_dvd (by omega) h
  have hb : nP < nt_q * nt_q := by decide +kernel
  refine Nat.lt_of_lt_of_le hb (Nat.mul_le_mul ?_ ?_) <;> omega
