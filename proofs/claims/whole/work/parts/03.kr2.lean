/-! the relation: a value over Int, a bound of its coefficients, its weights, and the element of the field that it stands for -/
def kr_B (b : Nat) : Nat → Int := fun i => match i with
  | 0 => (b : Int)
  | 1 => (b : Int) ^ 10
  | _ => (b : Int) ^ 130
def kr_t (m : Int × (Nat → Nat)) : Int × Nat := (m.1, m.2 0 + (10 * m.2 1 + 130 * m.2 2))
def kr_g {F : Type} [Lean.Grind.CommRing F] (x : Nat → F) (t : Nat) : F := fp_pw (x 0) (t % 10) * fp_pw (x 1) (t / 10 % 13) * fp_pw (x 2) (t / 130)
theorem kr_Z (b : Nat) : ∀ l : ec_FS, ec_evZ (kr_B b) l = ku_Z (b : Int) (l.map kr_t)
  | [] => rfl
  | m :: l => by
    have ih := kr_Z b l
    simp only [ec_evZ, List.map_cons, ku_Z, ih]
    congr 1
    simp only [ec_tZ, kr_t, kr_B, Int.pow_add, Int.pow_mul, Int.mul_assoc]
theorem kr_n : ∀ l : ec_FS, ku_n (l.map kr_t) = ec_n1 l
  | [] => rfl
  | m :: l => by
    have ih := kr_n l
    simp only [List.map_cons, ku_n, ec_n1, ih, kr_t]
theorem kr_F {F : Type} [Lean.Grind.CommRing F] (φ : Int → F) (x : Nat → F) : ∀ l : ec_FS, (∀ m ∈ l, m.2 0 ≤ 9 ∧ m.2 1 ≤ 12) → ec_evF φ x l = ku_F φ (kr_g x) (l.map kr_t)
  | [], _ => rfl
  | m :: l, h => by
    have ih := kr_F φ x l (fun n hn => h n (List.mem_cons_of_mem _ hn))
    obtain ⟨h0, h1⟩ := h m List.mem_cons_self
    simp only [ec_evF, List.map_cons, ku_F, ih]
    congr 1
    have e0 : (m.2 0 + (10 * m.2 1 + 130 * m.2 2)) % 10 = m.2 0 := by omega
    have e1 : (m.2 0 + (10 * m.2 1 + 130 * m.2 2)) / 10 % 13 = m.2 1 := by omega
    have e2 : (m.2 0 + (10 * m.2 1 + 130 * m.2 2)) / 130 = m.2 2 := by omega
    simp only [ec_tF, kr_t, kr_g, e0, e1, e2]
theorem kr_bd : ∀ l : ec_FS, ∃ K, ∀ m ∈ l.map kr_t, m.2 < K
  | [] => ⟨0, fun m hm => by cases hm⟩
  | m :: l => by
    obtain ⟨K, hK⟩ := kr_bd l
    refine ⟨K + (kr_t m).2 + 1, fun n hn => ?_⟩
    rcases List.mem_cons.mp (by simpa only [List.map_cons] using hn) with rfl | h
    · omega
    · have := hK n h
      omega
def ec_R0 {F : Type} [Lean.Grind.CommRing F] (φ : Int → F) (x : Nat → F) (b : Nat) (v : Int) (n : Nat) (s w : Nat → Nat) (u : F) : Prop := ∃ l : ec_FS, ec_evZ (kr_B b) l = v ∧ ec_n1 l ≤ n ∧ ec_of s w l ∧ ec_evF φ x l = u
def ec_e (i k : Nat) : Nat → Nat := fun j => if j = i then k else 0
/-- what a relation keeps -/
def ec_Cl {α F : Type} [Lean.Grind.CommRing F] (R : α → Nat → (Nat → Nat) → (Nat → Nat) → F → Prop) (ad sb mu : α → α → α) (sm : Int → α → α) (sc : Nat → α → α) (φ : Int → F) (cF : Nat → F) (K : Nat) : Prop :=
  (∀ a b n n' s w u u', R a n s w u → R b n' s w u' → R (ad a b) (n + n') s w (u + u')) ∧
  (∀ a b n n' s w u u', R a n s w u → R b n' s w u' → R (sb a b) (n + n') s w (u - u')) ∧
  (∀ a b n n' s s' w w' u u', R a n s w u → R b n' s' w' u' → R (mu a b) (K * (n * n')) (fun i => s i + s' i) (fun i => w i + w' i) (u * u')) ∧
  (∀ c a n s w u, R a n s w u → R (sm c a) (c.natAbs * n) s w (φ c * u)) ∧
  (∀ i, i < 3 → ∀ a n s w u, R a n (fun j => s j + ec_e i 6 j) w u → R (sc i a) (8 * n) s w (cF i * u)) ∧
  (∀ a n n' s w u, n ≤ n' → R a n s w u → R a n' s w u)
theorem ec_R0_cl {F : Type} [Lean.Grind.CommRing F] {φ : Int → F} (h : ec_hom φ) (x : Nat → F) (b : Nat) : ec_Cl (ec_R0 φ x b) (fun a b => a + b) (fun a b => a - b) (fun a b => a * b) (fun a b => a * b) (fun i a => (kr_B b i * kr_B b i * kr_B b i + 7) * a) φ (fun i => x i * x i * x i + φ 7) 1 := by
  have hsm : ∀ c a n s w u, ec_R0 φ x b a n s w u → ec_R0 φ x b (c * a) (c.natAbs * n) s w (φ c * u) := by
    rintro c a n s w u ⟨l, rfl, h2, h3, rfl⟩
    refine ⟨ec_mul [(c, fun _ => 0)] l, ?_, ?_, ?_, ?_⟩
    · rw [ec_evZ_mul]
      congr 1
      simp [ec_evZ, ec_tZ]
    · rw [ec_n1_mul]
      exact Nat.mul_le_mul (by simp [ec_n1]) h2
    · have := ec_of_mul (s := fun _ => 0) (w := fun _ => 0) h3 [(c, fun _ => 0)] (fun m hm i => by rw [List.mem_singleton.mp hm]; simp)
      simpa using this
    · rw [ec_evF_mul h]
      congr 1
      simp only [ec_evF, ec_tF, fp_pw]
      grind
  have had : ∀ a b' n n' s w u u', ec_R0 φ x b a n s w u → ec_R0 φ x b b' n' s w u' → ec_R0 φ x b (a + b') (n + n') s w (u + u') := by
    rintro a b' n n' s w u u' ⟨l, rfl, h2, h3, rfl⟩ ⟨l', rfl, h2', h3', rfl⟩
    exact ⟨l ++ l', ec_evZ_app _ _ _, by rw [ec_n1_app]; exact Nat.add_le_add h2 h2', ec_of_app h3 h3', ec_evF_app _ _ _ _⟩
  refine ⟨had, ?_, ?_, hsm, ?_, ?_⟩
  · intro a b' n n' s w u u' h1 h2
    have h3 := had _ _ _ _ _ _ _ _ h1 (hsm (-1) _ _ _ _ _ h2)
    have e1 : a + -1 * b' = a - b' := by omega
    have e2 : u + φ (-1) * u' = u - u' := by
      rw [h.ng 1, h.2.2]; grind
    have e3 : n + (-1 : Int).natAbs * n' = n + n' := by simp
    rw [e1, e2, e3] at h3
    exact h3
  · rintro a b' n n' s s' w w' u u' ⟨l, rfl, h2, h3, rfl⟩ ⟨l', rfl, h2', h3', rfl⟩
    exact ⟨ec_mul l l', ec_evZ_mul _ _ _, by rw [ec_n1_mul, Nat.one_mul]; exact Nat.mul_le_mul h2 h2', ec_of_mul h3' l h3, ec_evF_mul h _ _ _⟩
  · rintro i hi a n s w u ⟨l, rfl, h2, h3, rfl⟩
    refine ⟨ec_mul [(1, ec_e i 3), (7, fun _ => 0)] l, ?_, ?_, ?_, ?_⟩
    · rw [ec_evZ_mul]
      congr 1
      rcases (show i = 0 ∨ i = 1 ∨ i = 2 by omega) with rfl | rfl | rfl <;> simp [ec_evZ, ec_tZ, ec_e, Int.pow_succ]
    · rw [ec_n1_mul]
      exact Nat.mul_le_mul (by simp [ec_n1]) h2
    · intro m hm j
      simp only [ec_mul, List.append_nil] at hm
      rcases List.mem_append.mp hm with hm | hm
      · obtain ⟨q, hq, rfl⟩ := List.mem_map.mp hm
        have := h3 q hq j
        simp only [ec_mm, ec_e] at this ⊢
        split at this <;> simp_all <;> omega
      · obtain ⟨q, hq, rfl⟩ := List.mem_map.mp hm
        have := h3 q hq j
        simp only [ec_mm, ec_e] at this ⊢
        split at this <;> simp_all <;> omega
    · rw [ec_evF_mul h]
      congr 1
      rcases (show i = 0 ∨ i = 1 ∨ i = 2 by omega) with rfl | rfl | rfl <;> simp [ec_evF, ec_tF, ec_e, fp_pw, h.2.2] <;> grind
  · rintro a n n' s w u hn ⟨l, rfl, h2, h3, rfl⟩
    exact ⟨l, rfl, Nat.le_trans h2 hn, h3, rfl⟩
/-- a square root y of cF i beside it -/
def ec_L {α F : Type} [Lean.Grind.CommRing F] (R : α → Nat → (Nat → Nat) → (Nat → Nat) → F → Prop) (i : Nat) (y : F) : (α × α) → Nat → (Nat → Nat) → (Nat → Nat) → F → Prop :=
  fun v n s w u => ∃ u1 u2, R v.1 n s w u1 ∧ R v.2 n (fun j => s j + ec_e i 3 j) w u2 ∧ u = u1 + u2 * y
def kl_ad {α : Type} (ad : α → α → α) (a b : α × α) : α × α := (ad a.1 b.1, ad a.2 b.2)
def kl_sm {α : Type} (sm : Int → α → α) (c : Int) (a : α × α) : α × α := (sm c a.1, sm c a.2)
def kl_sc {α : Type} (sc : Nat → α → α) (i : Nat) (a : α × α) : α × α := (sc i a.1, sc i a.2)
def kl_mu {α : Type} (ad mu : α → α → α) (sc : Nat → α → α) (i : Nat) (a b : α × α) : α × α := (ad (mu a.1 b.1) (sc i (mu a.2 b.2)), ad (mu a.1 b.2) (mu a.2 b.1))
theorem ec_L_cl {α F : Type} [Lean.Grind.CommRing F] {R : α → Nat → (Nat → Nat) → (Nat → Nat) → F → Prop} {ad sb mu : α → α → α} {sm : Int → α → α} {sc : Nat → α → α} {φ : Int → F} {cF : Nat → F} {K : Nat} (C : ec_Cl R ad sb mu sm sc φ cF K) {i : Nat} (hi : i < 3) {y : F} (hy : y * y = cF i) :
    ec_Cl (ec_L R i y) (kl_ad ad) (kl_ad sb) (kl_mu ad mu sc i) (kl_sm sm) (kl_sc sc) φ cF (9 * K) := by
  obtain ⟨c1, c2, c3, c4, c5, c6⟩ := C
  refine ⟨?_, ?_, ?_, ?_, ?_, ?_⟩
  · rintro a b n n' s w u u' ⟨u1, u2, h1, h2, rfl⟩ ⟨v1, v2, g1, g2, rfl⟩
    exact ⟨u1 + v1, u2 + v2, c1 _ _ _ _ _ _ _ _ h1 g1, c1 _ _ _ _ _ _ _ _ h2 g2, by grind⟩
  · rintro a b n n' s w u u' ⟨u1, u2, h1, h2, rfl⟩ ⟨v1, v2, g1, g2, rfl⟩
    exact ⟨u1 - v1, u2 - v2, c2 _ _ _ _ _ _ _ _ h1 g1, c2 _ _ _ _ _ _ _ _ h2 g2, by grind⟩
  · rintro a b n n' s s' w w' u u' ⟨u1, u2, h1, h2, rfl⟩ ⟨v1, v2, g1, g2, rfl⟩
    have k1 := c3 _ _ _ _ _ _ _ _ _ _ h1 g1
    have k2 := c3 _ _ _ _ _ _ _ _ _ _ h2 g2
    have k3 := c3 _ _ _ _ _ _ _ _ _ _ h1 g2
    have k4 := c3 _ _ _ _ _ _ _ _ _ _ h2 g1
    have e2 : (fun j => s j + ec_e i 3 j + (s' j + ec_e i 3 j)) = fun j => (s j + s' j) + ec_e i 6 j := by
      funext j; simp only [ec_e]; split <;> omega
    have e3 : (fun j => s j + (s' j + ec_e i 3 j)) = fun j => (s j + s' j) + ec_e i 3 j := by
      funext j; omega
    have e4 : (fun j => s j + ec_e i 3 j + s' j) = fun j => (s j + s' j) + ec_e i 3 j := by
      funext j; omega
    rw [e2] at k2
    rw [e3] at k3
    rw [e4] at k4
    refine ⟨u1 * v1 + cF i * (u2 * v2), u1 * v2 + u2 * v1, ?_, ?_, by rw [← hy]; grind⟩
    · refine c6 _ _ _ _ _ _ ?_ (c1 _ _ _ _ _ _ _ _ k1 (c5 i hi _ _ _ _ _ k2))
      generalize n * n' = q
      rw [Nat.mul_assoc 9]
      omega
    · refine c6 _ _ _ _ _ _ ?_ (c1 _ _ _ _ _ _ _ _ k3 k4)
      generalize n * n' = q
      rw [Nat.mul_assoc 9]
      omega
  · rintro c a n s w u ⟨u1, u2, h1, h2, rfl⟩
    exact ⟨φ c * u1, φ c * u2, c4 _ _ _ _ _ _ h1, c4 _ _ _ _ _ _ h2, by grind⟩
  · rintro k hk a n s w u ⟨u1, u2, h1, h2, rfl⟩
    have e : (fun j => s j + ec_e k 6 j + ec_e i 3 j) = fun j => (s j + ec_e i 3 j) + ec_e k 6 j := by
      funext j; omega
    rw [e] at h2
    exact ⟨cF k * u1, cF k * u2, c5 k hk _ _ _ _ _ h1, c5 k hk _ _ _ _ _ h2, by grind⟩
  · rintro a n n' s w u hn ⟨u1, u2, h1, h2, h3⟩
    exact ⟨u1, u2, c6 _ _ _ _ _ _ hn h1, c6 _ _ _ _ _ _ hn h2, h3⟩
/-! Bosma, Lenstra, Renes, Costello, Batina: one formula for the sum -/
def rc3 {α : Type} (ad sb mu : α → α → α) (sm : Int → α → α) (p q : α × α × α) : α × α × α :=
  (sb (mu (ad (mu p.1 q.2.1) (mu p.2.1 q.1)) (sb (mu p.2.1 q.2.1) (sm 21 (mu p.2.2 q.2.2)))) (sm 21 (mu (ad (mu p.2.1 q.2.2) (mu p.2.2 q.2.1)) (ad (mu p.1 q.2.2) (mu p.2.2 q.1)))),
   ad (mu (ad (mu p.2.1 q.2.1) (sm 21 (mu p.2.2 q.2.2))) (sb (mu p.2.1 q.2.1) (sm 21 (mu p.2.2 q.2.2)))) (sm 63 (mu (mu p.1 q.1) (ad (mu p.1 q.2.2) (mu p.2.2 q.1)))),
   ad (mu (ad (mu p.2.1 q.2.2) (mu p.2.2 q.2.1)) (ad (mu p.2.1 q.2.1) (sm 21 (mu p.2.2 q.2.2)))) (sm 3 (mu (mu p.1 q.1) (ad (mu p.1 q.2.1) (mu p.2.1 q.1)))))
def ec_R3 {α F : Type} (R : α → Nat → (Nat → Nat) → (Nat → Nat) → F → Prop) (v : α × α × α) (n : Nat) (w : Nat → Nat) (u : F × F × F) : Prop :=
  R v.1 n (fun _ => 0) w u.1 ∧ R v.2.1 n (fun _ => 0) w u.2.1 ∧ R v.2.2 n (fun _ => 0) w u.2.2
theorem ec_R3_rc {α F : Type} [Lean.Grind.CommRing F] {R : α → Nat → (Nat → Nat) → (Nat → Nat) → F → Prop} {ad sb mu : α → α → α} {sm : Int → α → α} {sc : Nat → α → α} {φ : Int → F} {cF : Nat → F} {K : Nat} (C : ec_Cl R ad sb mu sm sc φ cF K)
    {p q : α × α × α} {n n' : Nat} {w w' : Nat → Nat} {u u' : F × F × F} (hp : ec_R3 R p n w u) (hq : ec_R3 R q n' w' u') :
    ec_R3 R (rc3 ad sb mu sm p q) (610 * (K * (K * (n * n')) * (K * (n * n')))) (fun i => (w i + w' i) + (w i + w' i)) (rc3 (fun a b => a + b) (fun a b => a - b) (fun a b => a * b) (fun c a => φ c * a) u u') := by
  obtain ⟨c1, c2, c3, c4, c5, c6⟩ := C
  obtain ⟨p1, p2, p3⟩ := hp
  obtain ⟨q1, q2, q3⟩ := hq
  have mu1 := fun {a b : α} {x y : F} (h1 : R a n (fun _ => 0) w x) (h2 : R b n' (fun _ => 0) w' y) => (show R (mu a b) (K * (n * n')) (fun _ => 0) (fun i => w i + w' i) (x * y) from c3 _ _ _ _ _ _ _ _ _ _ h1 h2)
  generalize hQ : K * (n * n') = Q at mu1 ⊢
  have mu2 := fun {a b : α} {k k' : Nat} {x y : F} (h1 : R a k (fun _ => 0) (fun i => w i + w' i) x) (h2 : R b k' (fun _ => 0) (fun i => w i + w' i) y) => (show R (mu a b) (K * (k * k')) (fun _ => 0) (fun i => (w i + w' i) + (w i + w' i)) (x * y) from c3 _ _ _ _ _ _ _ _ _ _ h1 h2)
  have ad1 := fun {a b : α} {k k' : Nat} {v : Nat → Nat} {x y : F} (h1 : R a k (fun _ => 0) v x) (h2 : R b k' (fun _ => 0) v y) => c1 _ _ _ _ _ _ _ _ h1 h2
  have sb1 := fun {a b : α} {k k' : Nat} {v : Nat → Nat} {x y : F} (h1 : R a k (fun _ => 0) v x) (h2 : R b k' (fun _ => 0) v y) => c2 _ _ _ _ _ _ _ _ h1 h2
  have sm1 := fun (z : Int) {a : α} {k : Nat} {v : Nat → Nat} {x : F} (h1 : R a k (fun _ => 0) v x) => c4 z _ _ _ _ _ h1
  have bd : ∀ {a : α} {k : Nat} {v : Nat → Nat} {x : F}, k ≤ 610 * (K * Q * Q) → R a k (fun _ => 0) v x → R a (610 * (K * Q * Q)) (fun _ => 0) v x := fun h1 h2 => c6 _ _ _ _ _ _ h1 h2
  have S1 := ad1 (mu1 p1 q2) (mu1 p2 q1)
  have S2 := ad1 (mu1 p2 q3) (mu1 p3 q2)
  have S3 := ad1 (mu1 p1 q3) (mu1 p3 q1)
  have D := mu1 p2 q2
  have E := sm1 21 (mu1 p3 q3)
  have G := mu1 p1 q1
  have key : ∀ a b, K * ((a * Q) * (b * Q)) = (a * b) * (K * Q * Q) := fun a b => by grind
  have i21 : (21 : Int).natAbs = 21 := rfl
  have i63 : (63 : Int).natAbs = 63 := rfl
  have i3 : (3 : Int).natAbs = 3 := rfl
  refine ⟨bd ?_ (sb1 (mu2 S1 (sb1 D E)) (sm1 21 (mu2 S2 S3))), bd ?_ (ad1 (mu2 (ad1 D E) (sb1 D E)) (sm1 63 (mu2 G S3))), bd ?_ (ad1 (mu2 S2 (ad1 D E)) (sm1 3 (mu2 G S1)))⟩
  · have k1 := key 2 22
    have k2 := key 2 2
    rw [i21, show Q + Q = 2 * Q by omega, show Q + 21 * Q = 22 * Q by omega, k1, k2]
    generalize K * Q * Q = z
    omega
  · have k1 := key 22 22
    have k2 := key 1 2
    rw [i21, i63, show Q + Q = 2 * Q by omega, show Q + 21 * Q = 22 * Q by omega, k1, show K * (Q * (2 * Q)) = K * (1 * Q * (2 * Q)) by rw [Nat.one_mul], k2]
    generalize K * Q * Q = z
    omega
  · have k1 := key 2 22
    have k2 := key 1 2
    rw [i21, i3, show Q + Q = 2 * Q by omega, show Q + 21 * Q = 22 * Q by omega, k1, show K * (Q * (2 * Q)) = K * (1 * Q * (2 * Q)) by rw [Nat.one_mul], k2]
    generalize K * Q * Q = z
    omega
