/-! THE CURVE y y = x x x + 7 over a field without a root of x x x + 7: its points are a commutative monoid -/
def ec_fld {F : Type} [Lean.Grind.CommRing F] (φ : Int → F) (inv : F → F) : Prop := ec_hom φ ∧ (∀ a : F, a ≠ 0 → a * inv a = 1) ∧ ((1 : F) ≠ 0) ∧ ((2 : F) ≠ 0) ∧ (∀ x : F, ¬ x * x * x + 7 = 0)
theorem ec_hom.nat {F : Type} [Lean.Grind.CommRing F] {φ : Int → F} (h : ec_hom φ) : ∀ n : Nat, φ (n : Int) = OfNat.ofNat (α := F) n
  | 0 => h.z
  | n + 1 => by
    have ih := h.nat n
    rw [show ((n + 1 : Nat) : Int) = (n : Int) + 1 from rfl, h.1, ih, h.2.2, ← Lean.Grind.Semiring.ofNat_succ]
theorem ec_nz {F : Type} [Lean.Grind.CommRing F] {φ : Int → F} {inv : F → F} (h : ec_fld φ inv) {a b : F} (hab : a * b = 0) (ha : a ≠ 0) : b = 0 := by
  have h1 := h.2.1 a ha
  have h2 : b = (a * inv a) * b := by rw [h1]; grind
  rw [h2, show a * inv a * b = inv a * (a * b) by grind, hab]; grind
theorem ec_mz {F : Type} [Lean.Grind.CommRing F] {φ : Int → F} {inv : F → F} (h : ec_fld φ inv) {a b : F} (ha : a ≠ 0) (hb : b ≠ 0) : a * b ≠ 0 := fun e => hb (ec_nz h e ha)
def ec_on {F : Type} [Lean.Grind.CommRing F] (a : F × F) : Prop := a.2 * a.2 = a.1 * a.1 * a.1 + 7
def ec_OK {F : Type} [Lean.Grind.CommRing F] (p : Option (F × F)) : Prop := ∀ a, p = some a → ec_on a
def ec_ch {F : Type} [Lean.Grind.CommRing F] (a b : F × F) (m : F) : F × F := (m * m - a.1 - b.1, m * (a.1 - (m * m - a.1 - b.1)) - a.2)
noncomputable def ec_add {F : Type} [Lean.Grind.CommRing F] (inv : F → F) (p q : Option (F × F)) : Option (F × F) :=
  match p, q with
  | none, q => q
  | some a, none => some a
  | some a, some b => @ite _ (a.1 = b.1) (Classical.propDecidable _) (@ite _ (a.2 = b.2) (Classical.propDecidable _) (some (ec_ch a a (3 * (a.1 * a.1) * inv (2 * a.2)))) none) (some (ec_ch a b ((b.2 - a.2) * inv (b.1 - a.1))))
theorem ec_y0 {F : Type} [Lean.Grind.CommRing F] {φ : Int → F} {inv : F → F} (h : ec_fld φ inv) {a : F × F} (ha : ec_on a) : a.2 ≠ 0 := by
  intro h0
  refine h.2.2.2.2 a.1 ?_
  unfold ec_on at ha
  rw [← ha, h0]; grind
theorem ec_K {F : Type} [Lean.Grind.CommRing F] {φ : Int → F} {inv : F → F} (h : ec_fld φ inv) {a b : F × F} {m : F} (ha : ec_on a) (hb : ec_on b) (hne : b.1 - a.1 ≠ 0) (hm : m * (b.1 - a.1) = b.2 - a.2) : m * (a.2 + b.2) = a.1 * a.1 + a.1 * b.1 + b.1 * b.1 := by
  obtain ⟨x1, y1⟩ := a
  obtain ⟨x2, y2⟩ := b
  simp only [ec_on] at *
  have h1 : (x2 - x1) * (m * (y1 + y2) - (x1 * x1 + x1 * x2 + x2 * x2)) = 0 := by
    have e : (x2 - x1) * (m * (y1 + y2) - (x1 * x1 + x1 * x2 + x2 * x2)) = (m * (x2 - x1)) * (y1 + y2) - (x2 * x2 * x2 - x1 * x1 * x1) := by grind
    rw [e, hm]
    grind
  have h2 := ec_nz h h1 hne
  grind
/-- the third point of a chord is on the curve -/
theorem ec_ch_on {F : Type} [Lean.Grind.CommRing F] {a b : F × F} {m : F} (ha : ec_on a) (hm : m * (b.1 - a.1) = b.2 - a.2) (hK : m * (a.2 + b.2) = a.1 * a.1 + a.1 * b.1 + b.1 * b.1) : ec_on (ec_ch a b m) := by
  obtain ⟨x1, y1⟩ := a
  obtain ⟨x2, y2⟩ := b
  simp only [ec_on, ec_ch] at *
  have hy : y2 = y1 + m * (x2 - x1) := by grind
  subst hy
  generalize hx : m * m - x1 - x2 = x3
  have hx2 : x2 = m * m - x1 - x3 := by
    clear hK hm ha
    grind
  have e : (m * (x1 - x3) - y1) * (m * (x1 - x3) - y1) = m * m * ((x1 - x3) * (x1 - x3)) - (m * (y1 + (y1 + m * (x2 - x1))) - m * m * (x2 - x1)) * (x1 - x3) + y1 * y1 := by grind
  rw [e, hK, ha]
  subst hx2
  grind
theorem ec_db_on {F : Type} [Lean.Grind.CommRing F] {a : F × F} {m : F} (ha : ec_on a) (hm : 2 * a.2 * m = 3 * (a.1 * a.1)) : ec_on (ec_ch a a m) := by
  obtain ⟨x1, y1⟩ := a
  simp only [ec_on, ec_ch] at *
  generalize hx : m * m - x1 - x1 = x3
  have e : (m * (x1 - x3) - y1) * (m * (x1 - x3) - y1) = m * m * ((x1 - x3) * (x1 - x3)) - (2 * y1 * m) * (x1 - x3) + y1 * y1 := by grind
  rw [e, hm, ha]
  have hm2 : m * m = x3 + x1 + x1 := by grind
  rw [hm2]
  grind
def ec_em {F : Type} [Lean.Grind.CommRing F] (p : Option (F × F)) : F × F × F := match p with
  | none => (0, 1, 0)
  | some a => (a.1, a.2, 1)
def rcF {F : Type} [Lean.Grind.CommRing F] (φ : Int → F) : F × F × F → F × F × F → F × F × F := rc3 (fun a b => a + b) (fun a b => a - b) (fun a b => a * b) (fun c a => φ c * a)
def ec_sc {F : Type} [Lean.Grind.CommRing F] (z : F) (p : F × F × F) : F × F × F := (z * p.1, z * p.2.1, z * p.2.2)
theorem ec_rc_sc {F : Type} [Lean.Grind.CommRing F] (φ : Int → F) (y z : F) (p q : F × F × F) : rcF φ (ec_sc y p) (ec_sc z q) = ec_sc ((y * y) * (z * z)) (rcF φ p q) := by
  obtain ⟨x1, y1, z1⟩ := p
  obtain ⟨x2, y2, z2⟩ := q
  simp only [rcF, rc3, ec_sc]
  refine Prod.ext ?_ (Prod.ext ?_ ?_) <;> simp only <;> grind
theorem ec_rc_ch {F : Type} [Lean.Grind.CommRing F] {φ : Int → F} {inv : F → F} (h : ec_fld φ inv) {a b : F × F} {m : F} (ha : ec_on a) (hb : ec_on b) (hne : b.1 - a.1 ≠ 0) (hm : m * (b.1 - a.1) = b.2 - a.2) :
    ∃ z, z ≠ 0 ∧ rcF φ (ec_em (some a)) (ec_em (some b)) = ec_sc z (ec_em (some (ec_ch a b m))) := by
  have hK := ec_K h ha hb hne hm
  have hd := ec_K h (b := (b.1, -b.2)) (m := -(a.2 + b.2) * inv (b.1 - a.1)) ha (by simp only [ec_on] at *; grind) hne (by
    have := h.2.1 _ hne
    simp only
    grind)
  have hd2 : (-(a.2 + b.2) * inv (b.1 - a.1)) * (b.1 - a.1) = -(a.2 + b.2) := by
    have := h.2.1 _ hne
    grind
  have hdo := ec_ch_on (b := (b.1, -b.2)) (m := -(a.2 + b.2) * inv (b.1 - a.1)) ha (by simp only; rw [hd2]; grind) hd
  have hy := ec_y0 h hdo
  have f21 : φ 21 = 21 := h.1.nat 21
  have f63 : φ 63 = 63 := h.1.nat 63
  have f3 : φ 3 = 3 := h.1.nat 3
  generalize -(a.2 + b.2) * inv (b.1 - a.1) = n at hd hd2 hdo hy
  obtain ⟨x1, y1⟩ := a
  obtain ⟨x2, y2⟩ := b
  simp only [ec_on, ec_ch] at *
  refine ⟨(y1 + y2) * (y1 * y2 + 21) + 3 * (x1 * x2) * (x1 * y2 + y1 * x2), ?_, ?_⟩
  · intro h0
    have e : (x2 - x1) * (x2 - x1) * (x2 - x1) * (n * (x1 - (n * n - x1 - x2)) - y1) = 0 := by
      have e1 : (x2 - x1) * (x2 - x1) * (x2 - x1) * (n * (x1 - (n * n - x1 - x2)) - y1) = (n * (x2 - x1)) * ((x2 - x1) * (x2 - x1)) * (x1 + x1 + x2) - (n * (x2 - x1)) * (n * (x2 - x1)) * (n * (x2 - x1)) - (x2 - x1) * (x2 - x1) * (x2 - x1) * y1 := by grind
      rw [e1, hd2, ← h0]
      clear hd hd2 hdo hy hK hm hne h0 e1 f21 f63 f3
      grind
    exact hy (ec_nz h e (ec_mz h (ec_mz h hne hne) hne))
  · have hy2 : y2 = y1 + m * (x2 - x1) := by grind
    have hQ : 2 * (m * y1) = x1 * x1 + x1 * x2 + x2 * x2 - m * m * (x2 - x1) := by grind
    simp only [rcF, rc3, ec_sc, ec_em, f21, f63, f3, ec_ch]
    refine Prod.ext ?_ (Prod.ext ?_ ?_) <;> simp only <;> grind
theorem ec_rc_db {F : Type} [Lean.Grind.CommRing F] {φ : Int → F} {inv : F → F} (h : ec_fld φ inv) {a : F × F} {m : F} (ha : ec_on a) (hm : 2 * a.2 * m = 3 * (a.1 * a.1)) :
    ∃ z, z ≠ 0 ∧ rcF φ (ec_em (some a)) (ec_em (some a)) = ec_sc z (ec_em (some (ec_ch a a m))) := by
  have hy := ec_y0 h ha
  have h2 := h.2.2.2.1
  have f21 : φ 21 = 21 := h.1.nat 21
  have f63 : φ 63 = 63 := h.1.nat 63
  have f3 : φ 3 = 3 := h.1.nat 3
  obtain ⟨x, y⟩ := a
  simp only [ec_on, ec_ch] at *
  refine ⟨(2 * y) * (2 * y) * (2 * y), ec_mz h (ec_mz h (ec_mz h h2 hy) (ec_mz h h2 hy)) (ec_mz h h2 hy), ?_⟩
  simp only [rcF, rc3, ec_sc, ec_em, f21, f63, f3, ec_ch]
  refine Prod.ext ?_ (Prod.ext ?_ ?_) <;> simp only <;> grind
theorem ec_rc_ng {F : Type} [Lean.Grind.CommRing F] {φ : Int → F} {inv : F → F} (h : ec_fld φ inv) {a : F × F} (ha : ec_on a) :
    ∃ z, z ≠ 0 ∧ rcF φ (ec_em (some a)) (ec_em (some (a.1, -a.2))) = ec_sc z (ec_em (none : Option (F × F))) := by
  have hy := ec_y0 h ha
  have h2 := h.2.2.2.1
  have hm := h.2.1 _ (ec_mz h h2 hy)
  have hmm : 2 * a.2 * (3 * (a.1 * a.1) * inv (2 * a.2)) = 3 * (a.1 * a.1) := by grind
  have hd := ec_y0 h (ec_db_on ha hmm)
  have f21 : φ 21 = 21 := h.1.nat 21
  have f63 : φ 63 = 63 := h.1.nat 63
  have f3 : φ 3 = 3 := h.1.nat 3
  generalize 3 * (a.1 * a.1) * inv (2 * a.2) = m at hmm hd
  obtain ⟨x, y⟩ := a
  simp only [ec_on, ec_ch] at *
  refine ⟨(2 * y) * (2 * y) * (2 * y) * (m * (x - (m * m - x - x)) - y), ec_mz h (ec_mz h (ec_mz h (ec_mz h h2 hy) (ec_mz h h2 hy)) (ec_mz h h2 hy)) hd, ?_⟩
  have e1 : (2 * y) * (2 * y) * (2 * y) * (m * (x - (m * m - x - x)) - y) = (2 * y * m) * ((2 * y) * (2 * y)) * (3 * x) - (2 * y * m) * (2 * y * m) * (2 * y * m) - (2 * y) * (2 * y) * (2 * y) * y := by grind
  rw [e1, hmm]
  simp only [rcF, rc3, ec_sc, ec_em, f21, f63, f3]
  refine Prod.ext ?_ (Prod.ext ?_ ?_) <;> simp only <;> grind
