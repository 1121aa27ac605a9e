/-! POLYNOMIAL IDENTITIES BY ONE BIG EVALUATION: sums of monomials in three letters, evaluated at powers of a large number; square roots y of cubics beside them -/
def fp_pw {F : Type} [Lean.Grind.CommRing F] (x : F) : Nat → F
  | 0 => 1
  | n + 1 => fp_pw x n * x
theorem fp_pw_add {F : Type} [Lean.Grind.CommRing F] (x : F) (a : Nat) : ∀ b, fp_pw x (a + b) = fp_pw x a * fp_pw x b
  | 0 => by simp only [Nat.add_zero, fp_pw]; grind
  | b + 1 => by
    have ih := fp_pw_add x a b
    show fp_pw x (a + b) * x = fp_pw x a * (fp_pw x b * x)
    rw [ih]; grind
def ec_hom {F : Type} [Lean.Grind.CommRing F] (φ : Int → F) : Prop := (∀ a b, φ (a + b) = φ a + φ b) ∧ (∀ a b, φ (a * b) = φ a * φ b) ∧ φ 1 = 1
theorem ec_hom.z {F : Type} [Lean.Grind.CommRing F] {φ : Int → F} (h : ec_hom φ) : φ 0 = 0 := by
  have h1 := h.1 0 0
  rw [Int.add_zero] at h1
  grind
theorem ec_hom.s {F : Type} [Lean.Grind.CommRing F] {φ : Int → F} (h : ec_hom φ) (a b : Int) : φ (a - b) = φ a - φ b := by
  have h1 := h.1 (a - b) b
  rw [Int.sub_add_cancel] at h1
  grind
theorem ec_hom.ng {F : Type} [Lean.Grind.CommRing F] {φ : Int → F} (h : ec_hom φ) (a : Int) : φ (-a) = - φ a := by
  have h1 := h.s 0 a
  rw [Int.zero_sub, h.z] at h1
  grind
/-- monomials: a coefficient and the exponents of three letters -/
abbrev ec_FS : Type := List (Int × (Nat → Nat))
def ec_tZ (B : Nat → Int) (m : Int × (Nat → Nat)) : Int := m.1 * (B 0 ^ m.2 0 * B 1 ^ m.2 1 * B 2 ^ m.2 2)
def ec_tF {F : Type} [Lean.Grind.CommRing F] (φ : Int → F) (x : Nat → F) (m : Int × (Nat → Nat)) : F := φ m.1 * (fp_pw (x 0) (m.2 0) * fp_pw (x 1) (m.2 1) * fp_pw (x 2) (m.2 2))
def ec_evZ (B : Nat → Int) : ec_FS → Int
  | [] => 0
  | m :: l => ec_tZ B m + ec_evZ B l
def ec_evF {F : Type} [Lean.Grind.CommRing F] (φ : Int → F) (x : Nat → F) : ec_FS → F
  | [] => 0
  | m :: l => ec_tF φ x m + ec_evF φ x l
def ec_n1 : ec_FS → Nat
  | [] => 0
  | m :: l => m.1.natAbs + ec_n1 l
def ec_mm (m n : Int × (Nat → Nat)) : Int × (Nat → Nat) := (m.1 * n.1, fun i => m.2 i + n.2 i)
def ec_mul : ec_FS → ec_FS → ec_FS
  | [], _ => []
  | m :: l, r => r.map (ec_mm m) ++ ec_mul l r
theorem ec_tZ_mm (B : Nat → Int) (m n : Int × (Nat → Nat)) : ec_tZ B (ec_mm m n) = ec_tZ B m * ec_tZ B n := by
  simp only [ec_tZ, ec_mm, Int.pow_add]
  generalize B 0 ^ m.2 0 = a0
  generalize B 0 ^ n.2 0 = b0
  generalize B 1 ^ m.2 1 = a1
  generalize B 1 ^ n.2 1 = b1
  generalize B 2 ^ m.2 2 = a2
  generalize B 2 ^ n.2 2 = b2
  grind
theorem ec_tF_mm {F : Type} [Lean.Grind.CommRing F] {φ : Int → F} (h : ec_hom φ) (x : Nat → F) (m n : Int × (Nat → Nat)) : ec_tF φ x (ec_mm m n) = ec_tF φ x m * ec_tF φ x n := by
  simp only [ec_tF, ec_mm, fp_pw_add, h.2.1]
  grind
theorem ec_evZ_app (B : Nat → Int) (r : ec_FS) : ∀ l : ec_FS, ec_evZ B (l ++ r) = ec_evZ B l + ec_evZ B r
  | [] => by simp [ec_evZ]
  | m :: l => by
    have ih := ec_evZ_app B r l
    simp only [List.cons_append, ec_evZ, ih, Int.add_assoc]
theorem ec_evF_app {F : Type} [Lean.Grind.CommRing F] (φ : Int → F) (x : Nat → F) (r : ec_FS) : ∀ l : ec_FS, ec_evF φ x (l ++ r) = ec_evF φ x l + ec_evF φ x r
  | [] => by simp only [List.nil_append, ec_evF]; grind
  | m :: l => by
    have ih := ec_evF_app φ x r l
    simp only [List.cons_append, ec_evF, ih]; grind
theorem ec_n1_app (r : ec_FS) : ∀ l : ec_FS, ec_n1 (l ++ r) = ec_n1 l + ec_n1 r
  | [] => by simp [ec_n1]
  | m :: l => by
    have ih := ec_n1_app r l
    simp only [List.cons_append, ec_n1, ih, Nat.add_assoc]
theorem ec_evZ_map (B : Nat → Int) (m : Int × (Nat → Nat)) : ∀ r : ec_FS, ec_evZ B (r.map (ec_mm m)) = ec_tZ B m * ec_evZ B r
  | [] => by simp [ec_evZ]
  | n :: r => by
    have ih := ec_evZ_map B m r
    simp only [List.map_cons, ec_evZ, ih, ec_tZ_mm, Int.mul_add]
theorem ec_evF_map {F : Type} [Lean.Grind.CommRing F] {φ : Int → F} (h : ec_hom φ) (x : Nat → F) (m : Int × (Nat → Nat)) : ∀ r : ec_FS, ec_evF φ x (r.map (ec_mm m)) = ec_tF φ x m * ec_evF φ x r
  | [] => by simp only [List.map_nil, ec_evF]; grind
  | n :: r => by
    have ih := ec_evF_map h x m r
    simp only [List.map_cons, ec_evF, ih, ec_tF_mm h]; grind
theorem ec_n1_map (m : Int × (Nat → Nat)) : ∀ r : ec_FS, ec_n1 (r.map (ec_mm m)) = m.1.natAbs * ec_n1 r
  | [] => by simp [ec_n1]
  | n :: r => by
    have ih := ec_n1_map m r
    simp only [List.map_cons, ec_n1, ih, ec_mm, Int.natAbs_mul, Nat.mul_add]
theorem ec_evZ_mul (B : Nat → Int) (r : ec_FS) : ∀ l : ec_FS, ec_evZ B (ec_mul l r) = ec_evZ B l * ec_evZ B r
  | [] => by simp [ec_evZ, ec_mul]
  | m :: l => by
    have ih := ec_evZ_mul B r l
    simp only [ec_mul, ec_evZ, ec_evZ_app, ec_evZ_map, ih, Int.add_mul]
theorem ec_evF_mul {F : Type} [Lean.Grind.CommRing F] {φ : Int → F} (h : ec_hom φ) (x : Nat → F) (r : ec_FS) : ∀ l : ec_FS, ec_evF φ x (ec_mul l r) = ec_evF φ x l * ec_evF φ x r
  | [] => by simp only [ec_mul, ec_evF]; grind
  | m :: l => by
    have ih := ec_evF_mul h x r l
    simp only [ec_mul, ec_evF, ec_evF_app, ec_evF_map h, ih]; grind
theorem ec_n1_mul (r : ec_FS) : ∀ l : ec_FS, ec_n1 (ec_mul l r) = ec_n1 l * ec_n1 r
  | [] => by simp [ec_n1, ec_mul]
  | m :: l => by
    have ih := ec_n1_mul r l
    simp only [ec_mul, ec_n1, ec_n1_app, ec_n1_map, ih, Nat.add_mul]
/-- the weights: an offset s, two for each letter, below w -/
def ec_of (s w : Nat → Nat) (l : ec_FS) : Prop := ∀ m ∈ l, ∀ i, s i + 2 * m.2 i ≤ w i
theorem ec_of_app {s w : Nat → Nat} {l r : ec_FS} (h1 : ec_of s w l) (h2 : ec_of s w r) : ec_of s w (l ++ r) := by
  intro m hm
  rcases List.mem_append.mp hm with h | h
  · exact h1 m h
  · exact h2 m h
theorem ec_of_mul {s w s' w' : Nat → Nat} {r : ec_FS} (h2 : ec_of s' w' r) : ∀ l : ec_FS, ec_of s w l → ec_of (fun i => s i + s' i) (fun i => w i + w' i) (ec_mul l r)
  | [], _ => by intro m hm; cases hm
  | m :: l, h1 => by
    refine ec_of_app ?_ (ec_of_mul h2 l (fun n hn => h1 n (List.mem_cons_of_mem _ hn)))
    intro n hn i
    obtain ⟨q, hq, rfl⟩ := List.mem_map.mp hn
    have a1 := h1 m List.mem_cons_self i
    have a2 := h2 q hq i
    simp only [ec_mm]
    omega
/-! one letter: the coefficients of a sum that is 0 at a large number are 0 -/
def ku_F {F : Type} [Lean.Grind.CommRing F] (φ : Int → F) (g : Nat → F) : List (Int × Nat) → F
  | [] => 0
  | m :: l => φ m.1 * g m.2 + ku_F φ g l
def ku_Z (B : Int) : List (Int × Nat) → Int
  | [] => 0
  | m :: l => m.1 * B ^ m.2 + ku_Z B l
def ku_n : List (Int × Nat) → Nat
  | [] => 0
  | m :: l => m.1.natAbs + ku_n l
/-- the sum of the coefficients of exponent 0 -/
def ku_0 : List (Int × Nat) → Int
  | [] => 0
  | m :: l => (match m.2 with
    | 0 => m.1
    | _ + 1 => 0) + ku_0 l
/-- the others, an exponent less each -/
def ku_t : List (Int × Nat) → List (Int × Nat)
  | [] => []
  | m :: l => match m.2 with
    | 0 => ku_t l
    | k + 1 => (m.1, k) :: ku_t l
theorem ku_Z_s (B : Int) : ∀ l, ku_Z B l = ku_0 l + B * ku_Z B (ku_t l)
  | [] => by simp [ku_Z, ku_0, ku_t]
  | (c, 0) :: l => by
    have ih := ku_Z_s B l
    simp only [ku_Z, ku_0, ku_t, ih]
    generalize ku_Z B (ku_t l) = z
    simp only [Int.pow_zero]
    grind
  | (c, k + 1) :: l => by
    have ih := ku_Z_s B l
    simp only [ku_Z, ku_0, ku_t, ih]
    generalize ku_Z B (ku_t l) = z
    rw [Int.pow_succ]
    generalize B ^ k = y
    grind
theorem ku_F_s {F : Type} [Lean.Grind.CommRing F] {φ : Int → F} (h : ec_hom φ) (g : Nat → F) : ∀ l, ku_F φ g l = φ (ku_0 l) * g 0 + ku_F φ (fun i => g (i + 1)) (ku_t l)
  | [] => by simp only [ku_F, ku_0, ku_t, h.z]; grind
  | (c, 0) :: l => by
    have ih := ku_F_s h g l
    simp only [ku_F, ku_0, ku_t, ih, h.1]; grind
  | (c, k + 1) :: l => by
    have ih := ku_F_s h g l
    simp only [ku_F, ku_0, ku_t, ih, h.1, h.z]; grind
theorem ku_n_s : ∀ l, (ku_0 l).natAbs + ku_n (ku_t l) ≤ ku_n l
  | [] => by simp [ku_n, ku_0, ku_t]
  | (c, 0) :: l => by
    have ih := ku_n_s l
    simp only [ku_n, ku_0, ku_t]
    omega
  | (c, k + 1) :: l => by
    have ih := ku_n_s l
    simp only [ku_n, ku_0, ku_t]
    omega
theorem ku_t_lt {K : Nat} : ∀ l, (∀ m ∈ l, m.2 < K + 1) → ∀ m ∈ ku_t l, m.2 < K
  | [], _, m, hm => by cases hm
  | (c, 0) :: l, h, m, hm => ku_t_lt l (fun n hn => h n (List.mem_cons_of_mem _ hn)) m hm
  | (c, k + 1) :: l, h, m, hm => by
    rcases List.mem_cons.mp hm with rfl | h2
    · have := h (c, k + 1) List.mem_cons_self
      simp only at this ⊢
      omega
    · exact ku_t_lt l (fun n hn => h n (List.mem_cons_of_mem _ hn)) m h2
theorem ku_zero {F : Type} [Lean.Grind.CommRing F] {φ : Int → F} (h : ec_hom φ) (B : Nat) : ∀ (K : Nat) (l : List (Int × Nat)), (∀ m ∈ l, m.2 < K) → ku_n l < B → ku_Z (B : Int) l = 0 → ∀ g : Nat → F, ku_F φ g l = 0
  | 0, [], _, _, _, g => rfl
  | 0, m :: l, h1, _, _, g => absurd (h1 m List.mem_cons_self) (Nat.not_lt_zero _)
  | K + 1, l, h1, h2, h3, g => by
    have e1 := ku_Z_s (B : Int) l
    have e2 := ku_n_s l
    rw [h3] at e1
    have hz : ku_Z (B : Int) (ku_t l) = 0 := by
      generalize ku_Z (B : Int) (ku_t l) = z at e1
      generalize ku_0 l = s at e1 e2
      have h4 : s = -((B : Int) * z) := by omega
      have h5 : s.natAbs = B * z.natAbs := by rw [h4, Int.natAbs_neg, Int.natAbs_mul, Int.natAbs_natCast]
      rcases Nat.eq_zero_or_pos z.natAbs with h6 | h6
      · exact Int.natAbs_eq_zero.mp h6
      · have := Nat.le_mul_of_pos_right B h6
        omega
    rw [hz] at e1
    have h0 : ku_0 l = 0 := by omega
    rw [ku_F_s h g l, h0, h.z, ku_zero h B K (ku_t l) (ku_t_lt l h1) (by omega) hz (fun i => g (i + 1))]
    grind
