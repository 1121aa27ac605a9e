/-! objects of the class by their places; points and the running sum: what they stand for -/
def isP (o : Nat) : Prop := o = 21 ∨ o = 33 ∨ o = 41 ∨ o = 44 ∨ o = 47 ∨ o = 50
theorem isP.x {o : Nat} (h : isP o) : r10 (o + 1) := by rcases h with rfl | rfl | rfl | rfl | rfl | rfl <;> decide
theorem isP.y {o : Nat} (h : isP o) : r10 (o + 2) := by rcases h with rfl | rfl | rfl | rfl | rfl | rfl <;> decide
section KD
variable {E : gm_E} {ad : Nat → Nat} {N : gm_M} {ρ : Nat → Nat → Int64} {fl : Nat → Int32}
theorem o0 : cW E ad N ρ fl (E.2.1 + 0) = some (BO E.2.1) := cw_obj ⟨rfl, by decide⟩ rfl
theorem o11 : cW E ad N ρ fl (E.2.1 + 11) = some (MO (ad 1) (ad 2) (ad 8) (ad 9) 0 (E.2.1 + 12) (E.2.1 + 13) (E.2.1 + 14) (E.2.1 + 15)) := cw_obj ⟨rfl, by decide⟩ rfl
theorem o16 : cW E ad N ρ fl (E.2.1 + 16) = some (MO (ad 4) (ad 5) (ad 10) (ad 11) 1 (E.2.1 + 17) (E.2.1 + 18) (E.2.1 + 19) (E.2.1 + 20)) := cw_obj ⟨rfl, by decide⟩ rfl
theorem o24 : cW E ad N ρ fl (E.2.1 + 24) = some (SO E.2.1 (fl 24)) := cw_obj ⟨rfl, by decide⟩ rfl
theorem oP {o : Nat} (h : isP o) : cW E ad N ρ fl (E.2.1 + o) = some (PO (E.2.1 + (o + 1)) (E.2.1 + (o + 2)) (fl o)) := by
  rcases h with rfl | rfl | rfl | rfl | rfl | rfl <;> exact cw_obj ⟨rfl, by decide⟩ rfl
theorem cw_f24 (v : Int32) : gm_up (cW E ad N ρ fl) (E.2.1 + 24) (SO E.2.1 v) = cW E ad N ρ (va_up fl 24 v) := cw_upf ⟨rfl, by decide⟩ (by
  show some (SO E.2.1 (va_up fl 24 v 24)) = _
  rw [vu_s])
theorem cw_fP {o : Nat} (v : Int32) (h : isP o) : gm_up (cW E ad N ρ fl) (E.2.1 + o) (PO (E.2.1 + (o + 1)) (E.2.1 + (o + 2)) v) = cW E ad N ρ (va_up fl o v) := by
  rcases h with rfl | rfl | rfl | rfl | rfl | rfl
  · exact cw_upf ⟨rfl, by decide⟩ (by show some (PO _ _ (va_up fl 21 v 21)) = _; rw [vu_s])
  · exact cw_upf ⟨rfl, by decide⟩ (by show some (PO _ _ (va_up fl 33 v 33)) = _; rw [vu_s])
  · exact cw_upf ⟨rfl, by decide⟩ (by show some (PO _ _ (va_up fl 41 v 41)) = _; rw [vu_s])
  · exact cw_upf ⟨rfl, by decide⟩ (by show some (PO _ _ (va_up fl 44 v 44)) = _; rw [vu_s])
  · exact cw_upf ⟨rfl, by decide⟩ (by show some (PO _ _ (va_up fl 47 v 47)) = _; rw [vu_s])
  · exact cw_upf ⟨rfl, by decide⟩ (by show some (PO _ _ (va_up fl 50 v 50)) = _; rw [vu_s])
end KD
theorem ph2 {F : Type} [Lean.Grind.CommRing F] {φ : Int → F} (h : ec_hom φ) : φ 2 = 2 := h.nat 2
theorem ph3 {F : Type} [Lean.Grind.CommRing F] {φ : Int → F} (h : ec_hom φ) : φ 3 = 3 := h.nat 3
theorem ph4 {F : Type} [Lean.Grind.CommRing F] {φ : Int → F} (h : ec_hom φ) : φ 4 = 4 := h.nat 4
theorem ph8 {F : Type} [Lean.Grind.CommRing F] {φ : Int → F} (h : ec_hom φ) : φ 8 = 8 := h.nat 8
theorem ph7 {F : Type} [Lean.Grind.CommRing F] {φ : Int → F} (h : ec_hom φ) : φ 7 = 7 := h.nat 7
/-- the sum under way stands for p -/
def sumR {F : Type} [Lean.Grind.CommRing F] (φ : Int → F) (ρ : Nat → Nat → Int64) (fl : Nat → Int32) (p : Option (F × F)) : Prop := match p with
  | none => fl 24 = 1
  | some a => fl 24 = 0 ∧ ec_on a ∧ ∃ X Y Z, RV φ (ρ 25) 9 X ∧ RV φ (ρ 26) 9 Y ∧ RV φ (ρ 27) 2 Z ∧ jr a X Y Z
/-- the point at the place o stands for p -/
def ptR {F : Type} [Lean.Grind.CommRing F] (φ : Int → F) (ρ : Nat → Nat → Int64) (fl : Nat → Int32) (o : Nat) (p : Option (F × F)) : Prop := match p with
  | none => fl o = 1
  | some a => fl o = 0 ∧ ec_on a ∧ ST φ nP (ρ (o + 1)) a.1 ∧ ST φ nP (ρ (o + 2)) a.2
theorem sumR.ok {F : Type} [Lean.Grind.CommRing F] {φ : Int → F} {ρ : Nat → Nat → Int64} {fl : Nat → Int32} {p : Option (F × F)} (h : sumR φ ρ fl p) : ec_OK p := by
  intro a ha
  subst ha
  exact h.2.1
theorem ptR.ok {F : Type} [Lean.Grind.CommRing F] {φ : Int → F} {ρ : Nat → Nat → Int64} {fl : Nat → Int32} {o : Nat} {p : Option (F × F)} (h : ptR φ ρ fl o p) : ec_OK p := by
  intro a ha
  subst ha
  exact h.2.1
theorem ptR.fl {F : Type} [Lean.Grind.CommRing F] {φ : Int → F} {ρ : Nat → Nat → Int64} {fl : Nat → Int32} {o : Nat} {p : Option (F × F)} (h : ptR φ ρ fl o p) : fl o = 0 ∨ fl o = 1 := by
  cases p with
  | none => exact Or.inr h
  | some a => exact Or.inl h.1
theorem sumR.fl {F : Type} [Lean.Grind.CommRing F] {φ : Int → F} {ρ : Nat → Nat → Int64} {fl : Nat → Int32} {p : Option (F × F)} (h : sumR φ ρ fl p) : fl 24 = 0 ∨ fl 24 = 1 := by
  cases p with
  | none => exact Or.inr h
  | some a => exact Or.inl h.1
/-- what the sum's methods leave as it was -/
def kS (ρ ρ' : Nat → Nat → Int64) : Prop := ∀ j, ¬ (12 ≤ j ∧ j ≤ 15 ∨ 25 ≤ j ∧ j ≤ 32) → ρ' j = ρ j
def kF (t : Nat) (fl fl' : Nat → Int32) : Prop := ∀ j, j ≠ t → fl' j = fl j
theorem kS.tr {a b c : Nat → Nat → Int64} (h : kS a b) (h2 : kS b c) : kS a c := fun j hj => (h2 j hj).trans (h j hj)
theorem kS.rf (a : Nat → Nat → Int64) : kS a a := fun _ _ => rfl
theorem kF.tr {t : Nat} {a b c : Nat → Int32} (h : kF t a b) (h2 : kF t b c) : kF t a c := fun j hj => (h2 j hj).trans (h j hj)
theorem kF.rf (t : Nat) (a : Nat → Int32) : kF t a a := fun _ _ => rfl
theorem ptR.kept {F : Type} [Lean.Grind.CommRing F] {φ : Int → F} {ρ ρ' : Nat → Nat → Int64} {fl fl' : Nat → Int32} {o : Nat} {p : Option (F × F)} (h : ptR φ ρ fl o p) (h1 : ρ' (o + 1) = ρ (o + 1)) (h2 : ρ' (o + 2) = ρ (o + 2)) (h3 : fl' o = fl o) : ptR φ ρ' fl' o p := by
  cases p with
  | none => exact h3.trans h
  | some a => exact ⟨h3.trans h.1, h.2.1, by rw [h1]; exact h.2.2.1, by rw [h2]; exact h.2.2.2⟩
theorem isP.o {o : Nat} (h : isP o) : o = 21 ∨ o = 33 ∨ o = 41 ∨ o = 44 ∨ o = 47 ∨ o = 50 := h
theorem ptR.kS {F : Type} [Lean.Grind.CommRing F] {φ : Int → F} {ρ ρ' : Nat → Nat → Int64} {fl fl' : Nat → Int32} {o : Nat} {p : Option (F × F)} (hp : isP o) (h : ptR φ ρ fl o p) (h1 : kS ρ ρ') (h3 : kF 24 fl fl') : ptR φ ρ' fl' o p := by
  have := hp.o
  exact h.kept (h1 _ (by omega)) (h1 _ (by omega)) (h3 _ (by omega))
theorem sumR.jr {F : Type} [Lean.Grind.CommRing F] {φ : Int → F} {ρ : Nat → Nat → Int64} {fl : Nat → Int32} {a : F × F} {X Y Z X' Y' Z' : F} (h0 : fl 24 = 0) (ho : ec_on a) (hX : RV φ (ρ 25) 9 X) (hY : RV φ (ρ 26) 9 Y) (hZ : RV φ (ρ 27) 2 Z) (hj : jr a X' Y' Z') (eX : X = X') (eY : Y = Y') (eZ : Z = Z') : sumR φ ρ fl (some a) := by
  subst eX eY eZ
  exact ⟨h0, ho, _, _, _, hX, hY, hZ, hj⟩
/-- parts that may be read: a number of the class, or a static one -/
def rdK (E : gm_E) (ρ : Nat → Nat → Int64) (x : Nat) (f : Nat → Int64) : Prop := E.2.2.1 x = some (4, f) ∨ ∃ k, x = E.2.1 + k ∧ r4 k ∧ ρ k = f
theorem rdK.rd {E : gm_E} {ad : Nat → Nat} {N : gm_M} {ρ : Nat → Nat → Int64} {fl : Nat → Int32} {x : Nat} {f : Nat → Int64} (h : rdK E ρ x f) : rdL E (cW E ad N ρ fl) x 4 f := by
  rcases h with h | ⟨k, rfl, h, rfl⟩
  · exact Or.inr h
  · exact Or.inl (cw_row h)
theorem r4_d {k : Nat} (h : r4 k) : (2 ≤ k ∧ k ≤ 9) ∨ k = 39 ∨ k = 40 := by
  have q : ∀ k, k < 53 → rk k = 4 → (2 ≤ k ∧ k ≤ 9) ∨ k = 39 ∨ k = 40 := by decide
  exact q k h.2.2 h.1
theorem rdK.kS {E : gm_E} {ρ ρ' : Nat → Nat → Int64} {x : Nat} {f : Nat → Int64} (h : rdK E ρ x f) (h1 : kS ρ ρ') : rdK E ρ' x f := by
  rcases h with h | ⟨k, rfl, h, rfl⟩
  · exact Or.inl h
  · have := r4_d h
    exact Or.inr ⟨k, rfl, h, h1 k (by omega)⟩
