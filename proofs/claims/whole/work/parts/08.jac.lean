/-! n times a point; the formulas with z -/
theorem ec_nm_OK {F : Type} [Lean.Grind.CommRing F] {φ : Int → F} {inv : F → F} (h : ec_fld φ inv) {p : Option (F × F)} (hp : ec_OK p) : ∀ n, ec_OK (ec_nm inv n p)
  | 0 => fun a ha => by cases ha
  | n + 1 => ec_add_OK h (ec_nm_OK h hp n) hp
theorem ec_nm_add {F : Type} [Lean.Grind.CommRing F] {φ : Int → F} {inv : F → F} (h : ec_fld φ inv) {p : Option (F × F)} (hp : ec_OK p) (m : Nat) : ∀ n, ec_nm inv (m + n) p = ec_add inv (ec_nm inv m p) (ec_nm inv n p)
  | 0 => by
    show ec_nm inv m p = ec_add inv (ec_nm inv m p) none
    rw [ec_none_add]
  | n + 1 => by
    show ec_add inv (ec_nm inv (m + n) p) p = ec_add inv (ec_nm inv m p) (ec_add inv (ec_nm inv n p) p)
    rw [ec_nm_add h hp m n, ec_assoc h (ec_nm_OK h hp m) (ec_nm_OK h hp n) hp]
theorem ec_swap {F : Type} [Lean.Grind.CommRing F] {φ : Int → F} {inv : F → F} (h : ec_fld φ inv) {a b c d : Option (F × F)} (ha : ec_OK a) (hb : ec_OK b) (hc : ec_OK c) (hd : ec_OK d) : ec_add inv (ec_add inv a b) (ec_add inv c d) = ec_add inv (ec_add inv a c) (ec_add inv b d) := by
  rw [ec_assoc h ha hb (ec_add_OK h hc hd), ← ec_assoc h hb hc hd, ec_add_comm h hb hc, ec_assoc h hc hb hd, ← ec_assoc h ha hc (ec_add_OK h hb hd)]
/-- i times p and j times q, doubled; one p more; one q more -/
theorem ec_sh2 {F : Type} [Lean.Grind.CommRing F] {φ : Int → F} {inv : F → F} (h : ec_fld φ inv) {p q : Option (F × F)} (hp : ec_OK p) (hq : ec_OK q) (i j : Nat) : ec_add inv (ec_add inv (ec_nm inv i p) (ec_nm inv j q)) (ec_add inv (ec_nm inv i p) (ec_nm inv j q)) = ec_add inv (ec_nm inv (2 * i) p) (ec_nm inv (2 * j) q) := by
  rw [ec_swap h (ec_nm_OK h hp i) (ec_nm_OK h hq j) (ec_nm_OK h hp i) (ec_nm_OK h hq j), ← ec_nm_add h hp, ← ec_nm_add h hq, Nat.two_mul, Nat.two_mul]
theorem ec_shp {F : Type} [Lean.Grind.CommRing F] {φ : Int → F} {inv : F → F} (h : ec_fld φ inv) {p q : Option (F × F)} (hp : ec_OK p) (hq : ec_OK q) (i j : Nat) : ec_add inv (ec_add inv (ec_nm inv i p) (ec_nm inv j q)) p = ec_add inv (ec_nm inv (i + 1) p) (ec_nm inv j q) := by
  have hi := ec_nm_OK h hp i
  have hj := ec_nm_OK h hq j
  rw [ec_assoc h hi hj hp, ec_add_comm h hj hp, ← ec_assoc h hi hp hj]
  rfl
theorem ec_shq {F : Type} [Lean.Grind.CommRing F] {φ : Int → F} {inv : F → F} (h : ec_fld φ inv) {p q : Option (F × F)} (hp : ec_OK p) (hq : ec_OK q) (i j : Nat) : ec_add inv (ec_add inv (ec_nm inv i p) (ec_nm inv j q)) q = ec_add inv (ec_nm inv i p) (ec_nm inv (j + 1) q) := by
  rw [ec_assoc h (ec_nm_OK h hp i) (ec_nm_OK h hq j) hq]
  rfl
/-- x, y, z stand for the point a -/
def jr {F : Type} [Lean.Grind.CommRing F] (a : F × F) (X Y Z : F) : Prop := Z ≠ 0 ∧ X = a.1 * (Z * Z) ∧ Y = a.2 * (Z * Z * Z)
theorem jr_db {F : Type} [Lean.Grind.CommRing F] {φ : Int → F} {inv : F → F} (h : ec_fld φ inv) {a : F × F} {X Y Z : F} (ha : ec_on a) (j : jr a X Y Z) :
    jr (ec_ch a a (3 * (a.1 * a.1) * inv (2 * a.2))) ((3 * (X * X)) * (3 * (X * X)) - 4 * (X * (Y * Y)) - 4 * (X * (Y * Y))) ((3 * (X * X)) * (4 * (X * (Y * Y)) - ((3 * (X * X)) * (3 * (X * X)) - 4 * (X * (Y * Y)) - 4 * (X * (Y * Y)))) - 8 * ((Y * Y) * (Y * Y))) (2 * (Z * Y)) := by
  have hm := ec_tang h ha
  have hy := ec_y0 h ha
  generalize 3 * (a.1 * a.1) * inv (2 * a.2) = m at hm
  obtain ⟨hz, rfl, rfl⟩ := j
  obtain ⟨x, y⟩ := a
  simp only [ec_ch] at *
  refine ⟨ec_mz h h.2.2.2.1 (ec_mz h hz (ec_mz h hy (ec_mz h (ec_mz h hz hz) hz))), ?_, ?_⟩
  · have e : (m * m - x - x) * (2 * (Z * (y * (Z * Z * Z))) * (2 * (Z * (y * (Z * Z * Z))))) = ((2 * y * m) * (2 * y * m) - (x + x) * (2 * y) * (2 * y)) * (Z * Z * (Z * Z) * (Z * Z * (Z * Z))) := by grind
    rw [e, hm]
    grind
  · have e : (m * (x - (m * m - x - x)) - y) * (2 * (Z * (y * (Z * Z * Z))) * (2 * (Z * (y * (Z * Z * Z)))) * (2 * (Z * (y * (Z * Z * Z))))) = ((2 * y * m) * ((x + x + x) * (2 * y) * (2 * y) - (2 * y * m) * (2 * y * m)) - 8 * (y * y * (y * y))) * (Z * Z * (Z * Z) * (Z * Z * (Z * Z)) * (Z * Z * (Z * Z))) := by grind
    rw [e, hm]
    grind
theorem jr_ad {F : Type} [Lean.Grind.CommRing F] {φ : Int → F} {inv : F → F} (h : ec_fld φ inv) {a b : F × F} {X Y Z U V T : F} (j : jr a X Y Z) (k : jr b U V T) (hne : ¬ a.1 = b.1) {D C B A : F} (hB : B = X * (T * T)) (hA : A = Y * (T * T * T)) (hD : D = U * (Z * Z) - B) (hC : C = V * (Z * Z * Z) - A) :
    jr (ec_ch a b ((b.2 - a.2) * inv (b.1 - a.1))) (C * C - D * D * D - B * (D * D) - B * (D * D)) (C * (B * (D * D) - (C * C - D * D * D - B * (D * D) - B * (D * D))) - A * (D * D * D)) (Z * T * D) := by
  have hm := ec_slope h hne
  have hu := ec_ne hne
  generalize (b.2 - a.2) * inv (b.1 - a.1) = m at hm
  obtain ⟨hz, rfl, rfl⟩ := j
  obtain ⟨ht, rfl, rfl⟩ := k
  obtain ⟨x, y⟩ := a
  obtain ⟨x2, y2⟩ := b
  simp only [ec_ch] at *
  have hD2 : D = (x2 - x) * (Z * Z * (T * T)) := by rw [hD, hB]; grind
  have hC2 : C = (m * (x2 - x)) * (Z * Z * Z * (T * T * T)) := by rw [hC, hA, hm]; grind
  have hB2 : B = x * (Z * Z * (T * T)) := by rw [hB]; grind
  have hA2 : A = y * (Z * Z * Z * (T * T * T)) := by rw [hA]; grind
  clear hD hC hB hA hm
  subst hD2 hC2 hB2 hA2
  refine ⟨ec_mz h (ec_mz h hz ht) (ec_mz h hu (ec_mz h (ec_mz h hz hz) (ec_mz h ht ht))), ?_, ?_⟩ <;> grind
/-- when the second is the first, or its mirror -/
theorem jr_eq {F : Type} [Lean.Grind.CommRing F] {φ : Int → F} {inv : F → F} (h : ec_fld φ inv) {a b : F × F} {X Y Z U V T : F} (j : jr a X Y Z) (k : jr b U V T) : (U * (Z * Z) - X * (T * T) = 0 ↔ a.1 = b.1) ∧ (V * (Z * Z * Z) - Y * (T * T * T) = 0 ↔ a.2 = b.2) := by
  obtain ⟨hz, rfl, rfl⟩ := j
  obtain ⟨ht, rfl, rfl⟩ := k
  refine ⟨⟨fun e => ?_, fun e => ?_⟩, ⟨fun e => ?_, fun e => ?_⟩⟩
  · have e1 : (Z * Z * (T * T)) * (b.1 - a.1) = 0 := by grind
    have := ec_nz h e1 (ec_mz h (ec_mz h hz hz) (ec_mz h ht ht))
    grind
  · rw [e]; grind
  · have e1 : (Z * Z * Z * (T * T * T)) * (b.2 - a.2) = 0 := by grind
    have := ec_nz h e1 (ec_mz h (ec_mz h (ec_mz h hz hz) hz) (ec_mz h (ec_mz h ht ht) ht))
    grind
  · rw [e]; grind
/-- back from z -/
theorem jr_fl {F : Type} [Lean.Grind.CommRing F] {φ : Int → F} {inv : F → F} (h : ec_fld φ inv) {a : F × F} {X Y Z W : F} (j : jr a X Y Z) (hW : Z * W = 1) : X * (W * W) = a.1 ∧ Y * (W * W * W) = a.2 := by
  obtain ⟨hz, rfl, rfl⟩ := j
  constructor
  · have e : a.1 * (Z * Z) * (W * W) = a.1 * ((Z * W) * (Z * W)) := by grind
    rw [e, hW]; grind
  · have e : a.2 * (Z * Z * Z) * (W * W * W) = a.2 * ((Z * W) * (Z * W) * (Z * W)) := by grind
    rw [e, hW]; grind
