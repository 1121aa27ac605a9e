/-! the points are a commutative monoid -/
theorem ec_add_none {F : Type} [Lean.Grind.CommRing F] (inv : F → F) (q : Option (F × F)) : ec_add inv none q = q := by cases q <;> rfl
theorem ec_none_add {F : Type} [Lean.Grind.CommRing F] (inv : F → F) (q : Option (F × F)) : ec_add inv q none = q := by cases q <;> rfl
theorem ec_add_ne {F : Type} [Lean.Grind.CommRing F] (inv : F → F) {a b : F × F} (h : ¬ a.1 = b.1) : ec_add inv (some a) (some b) = some (ec_ch a b ((b.2 - a.2) * inv (b.1 - a.1))) := by
  simp only [ec_add]
  rw [if_neg h]
theorem ec_add_ng {F : Type} [Lean.Grind.CommRing F] (inv : F → F) {a b : F × F} (h : a.1 = b.1) (h2 : ¬ a.2 = b.2) : ec_add inv (some a) (some b) = none := by
  simp only [ec_add]
  rw [if_pos h, if_neg h2]
theorem ec_add_db {F : Type} [Lean.Grind.CommRing F] (inv : F → F) (a : F × F) : ec_add inv (some a) (some a) = some (ec_ch a a (3 * (a.1 * a.1) * inv (2 * a.2))) := by
  simp only [ec_add]
  rw [if_pos trivial, if_pos trivial]
theorem ec_ne {F : Type} [Lean.Grind.CommRing F] {a b : F} (h : ¬ a = b) : b - a ≠ 0 := fun e => h (by grind)
theorem ec_pm {F : Type} [Lean.Grind.CommRing F] {φ : Int → F} {inv : F → F} (h : ec_fld φ inv) {a b : F × F} (ha : ec_on a) (hb : ec_on b) (hx : a.1 = b.1) (hy : ¬ a.2 = b.2) : b = (a.1, -a.2) := by
  obtain ⟨x1, y1⟩ := a
  obtain ⟨x2, y2⟩ := b
  simp only [ec_on] at *
  subst hx
  have h1 : (y2 - y1) * (y1 + y2) = 0 := by grind
  have h2 := ec_nz h h1 (ec_ne hy)
  have h3 : y2 = -y1 := by grind
  rw [h3]
theorem ec_slope {F : Type} [Lean.Grind.CommRing F] {φ : Int → F} {inv : F → F} (h : ec_fld φ inv) {a b : F × F} (hx : ¬ a.1 = b.1) : ((b.2 - a.2) * inv (b.1 - a.1)) * (b.1 - a.1) = b.2 - a.2 := by
  have := h.2.1 _ (ec_ne hx)
  grind
theorem ec_tang {F : Type} [Lean.Grind.CommRing F] {φ : Int → F} {inv : F → F} (h : ec_fld φ inv) {a : F × F} (ha : ec_on a) : 2 * a.2 * (3 * (a.1 * a.1) * inv (2 * a.2)) = 3 * (a.1 * a.1) := by
  have := h.2.1 _ (ec_mz h h.2.2.2.1 (ec_y0 h ha))
  grind
theorem ec_add_OK {F : Type} [Lean.Grind.CommRing F] {φ : Int → F} {inv : F → F} (h : ec_fld φ inv) {p q : Option (F × F)} (hp : ec_OK p) (hq : ec_OK q) : ec_OK (ec_add inv p q) := by
  cases p with
  | none => rw [ec_add_none]; exact hq
  | some a => cases q with
    | none => rw [ec_none_add]; exact hp
    | some b =>
      have ha := hp a rfl
      have hb := hq b rfl
      rcases Classical.em (a.1 = b.1) with hx | hx
      · rcases Classical.em (a.2 = b.2) with hy | hy
        · have e : a = b := Prod.ext hx hy
          subst e
          rw [ec_add_db]
          intro c hc
          cases hc
          exact ec_db_on ha (ec_tang h ha)
        · rw [ec_add_ng inv hx hy]
          intro c hc
          cases hc
      · rw [ec_add_ne inv hx]
        intro c hc
        cases hc
        exact ec_ch_on ha (ec_slope h hx) (ec_K h ha hb (ec_ne hx) (ec_slope h hx))
theorem ec_rc_add {F : Type} [Lean.Grind.CommRing F] {φ : Int → F} {inv : F → F} (h : ec_fld φ inv) {p q : Option (F × F)} (hp : ec_OK p) (hq : ec_OK q) : ∃ z, z ≠ 0 ∧ rcF φ (ec_em p) (ec_em q) = ec_sc z (ec_em (ec_add inv p q)) := by
  cases p with
  | none => cases q with
    | none =>
      refine ⟨1, h.2.2.1, ?_⟩
      simp only [ec_add, rcF, rc3, ec_sc, ec_em]
      refine Prod.ext ?_ (Prod.ext ?_ ?_) <;> simp only <;> grind
    | some b =>
      refine ⟨b.2, ec_y0 h (hq b rfl), ?_⟩
      simp only [ec_add, rcF, rc3, ec_sc, ec_em]
      refine Prod.ext ?_ (Prod.ext ?_ ?_) <;> simp only <;> grind
  | some a => cases q with
    | none =>
      refine ⟨a.2, ec_y0 h (hp a rfl), ?_⟩
      simp only [ec_add, rcF, rc3, ec_sc, ec_em]
      refine Prod.ext ?_ (Prod.ext ?_ ?_) <;> simp only <;> grind
    | some b =>
      have ha := hp a rfl
      have hb := hq b rfl
      rcases Classical.em (a.1 = b.1) with hx | hx
      · rcases Classical.em (a.2 = b.2) with hy | hy
        · have e : a = b := Prod.ext hx hy
          subst e
          rw [ec_add_db]
          exact ec_rc_db h ha (ec_tang h ha)
        · rw [ec_add_ng inv hx hy, ec_pm h ha hb hx hy]
          exact ec_rc_ng h ha
      · rw [ec_add_ne inv hx]
        exact ec_rc_ch h ha hb (ec_ne hx) (ec_slope h hx)
theorem ec_add_comm {F : Type} [Lean.Grind.CommRing F] {φ : Int → F} {inv : F → F} (h : ec_fld φ inv) {p q : Option (F × F)} (hp : ec_OK p) (hq : ec_OK q) : ec_add inv p q = ec_add inv q p := by
  cases p with
  | none => rw [ec_add_none, ec_none_add]
  | some a => cases q with
    | none => rw [ec_add_none, ec_none_add]
    | some b =>
      rcases Classical.em (a.1 = b.1) with hx | hx
      · rcases Classical.em (a.2 = b.2) with hy | hy
        · rw [show a = b from Prod.ext hx hy]
        · rw [ec_add_ng inv hx hy, ec_add_ng inv hx.symm (fun e => hy e.symm)]
      · rw [ec_add_ne inv hx, ec_add_ne inv (fun e => hx e.symm)]
        have e1 := ec_slope h hx
        have e2 := ec_slope h (a := b) (b := a) (fun e => hx e.symm)
        have e3 : (b.2 - a.2) * inv (b.1 - a.1) = (a.2 - b.2) * inv (a.1 - b.1) := by
          generalize (b.2 - a.2) * inv (b.1 - a.1) = m at e1
          generalize (a.2 - b.2) * inv (a.1 - b.1) = n at e2
          have e4 : (b.1 - a.1) * (m - n) = 0 := by grind
          have := ec_nz h e4 (ec_ne hx)
          grind
        rw [← e3]
        congr 1
        generalize (b.2 - a.2) * inv (b.1 - a.1) = m at e1
        refine Prod.ext ?_ ?_ <;> simp only [ec_ch] <;> grind
theorem ec_em_inj {F : Type} [Lean.Grind.CommRing F] {φ : Int → F} {inv : F → F} (h : ec_fld φ inv) {p q : Option (F × F)} {y z : F} (hy : y ≠ 0) (hz : z ≠ 0) (hc : cr3 (fun x y => x - y) (fun x y => x * y) (ec_sc y (ec_em p)) (ec_sc z (ec_em q)) = (0, 0, 0)) : p = q := by
  have hyz := ec_mz h hy hz
  have c1 := congrArg (fun q => q.1) hc
  have c2 := congrArg (fun q => q.2.1) hc
  simp only [cr3, ec_sc] at c1 c2
  have d1 : (ec_em p).1 * (ec_em q).2.2 - (ec_em p).2.2 * (ec_em q).1 = 0 := ec_nz h (a := y * z) (by grind) hyz
  have d2 : (ec_em p).2.1 * (ec_em q).2.2 - (ec_em p).2.2 * (ec_em q).2.1 = 0 := ec_nz h (a := y * z) (by grind) hyz
  have h1 := h.2.2.1
  cases p with
  | none => cases q with
    | none => rfl
    | some b => simp only [ec_em] at d2; exact absurd (by grind) h1
  | some a => cases q with
    | none => simp only [ec_em] at d2; exact absurd (by grind) h1
    | some b =>
      simp only [ec_em] at d1 d2
      exact congrArg some (Prod.ext (by grind) (by grind))
theorem ec_sc_sc {F : Type} [Lean.Grind.CommRing F] (y z : F) (p : F × F × F) : ec_sc y (ec_sc z p) = ec_sc (y * z) p := by
  refine Prod.ext ?_ (Prod.ext ?_ ?_) <;> simp only [ec_sc] <;> grind
theorem ec_sc_1 {F : Type} [Lean.Grind.CommRing F] (p : F × F × F) : ec_sc 1 p = p := by
  refine Prod.ext ?_ (Prod.ext ?_ ?_) <;> simp only [ec_sc] <;> grind
theorem ec_assoc {F : Type} [Lean.Grind.CommRing F] {φ : Int → F} {inv : F → F} (h : ec_fld φ inv) {p q r : Option (F × F)} (hp : ec_OK p) (hq : ec_OK q) (hr : ec_OK r) : ec_add inv (ec_add inv p q) r = ec_add inv p (ec_add inv q r) := by
  cases p with
  | none => rw [ec_add_none, ec_add_none]
  | some a => cases q with
    | none => rw [ec_add_none, ec_none_add]
    | some b => cases r with
      | none => rw [ec_none_add, ec_none_add]
      | some c =>
        have hpq := ec_add_OK h hp hq
        have hqr := ec_add_OK h hq hr
        obtain ⟨z1, n1, e1⟩ := ec_rc_add h hp hq
        obtain ⟨z2, n2, e2⟩ := ec_rc_add h hpq hr
        obtain ⟨z3, n3, e3⟩ := ec_rc_add h hq hr
        obtain ⟨z4, n4, e4⟩ := ec_rc_add h hp hqr
        have k := ec_as3 h (hp a rfl) (hq b rfl) (hr c rfl)
        have s1 := ec_rc_sc φ z1 1 (ec_em (ec_add inv (some a) (some b))) (ec_em (some c))
        have s2 := ec_rc_sc φ 1 z3 (ec_em (some a)) (ec_em (ec_add inv (some b) (some c)))
        rw [ec_sc_1, e2, ec_sc_sc] at s1
        rw [ec_sc_1, e4, ec_sc_sc] at s2
        rw [e1, e3, s1, s2] at k
        have o1 := h.2.2.1
        exact ec_em_inj h (ec_mz h (ec_mz h (ec_mz h n1 n1) (ec_mz h o1 o1)) n2) (ec_mz h (ec_mz h (ec_mz h o1 o1) (ec_mz h n3 n3)) n4) k
/-! n times a point, by the bits of n from the highest -/
noncomputable def ec_nm {F : Type} [Lean.Grind.CommRing F] (inv : F → F) (n : Nat) (p : Option (F × F)) : Option (F × F) := match n with
  | 0 => none
  | n + 1 => ec_add inv (ec_nm inv n p) p
