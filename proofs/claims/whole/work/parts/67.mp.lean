/-! points of the reference -/
def isQ (o : Nat) : Prop := o = 55 ∨ o = 59 ∨ o = 63 ∨ o = 67 ∨ o = 89 ∨ o = 115 ∨ o = 119 ∨ o = 123 ∨ o = 127
theorem isQ.o {o : Nat} (h : isQ o) : o = 55 ∨ o = 59 ∨ o = 63 ∨ o = 67 ∨ o = 89 ∨ o = 115 ∨ o = 119 ∨ o = 123 ∨ o = 127 := h
theorem isQ.x {o : Nat} (h : isQ o) : q8 (o + 1) := by rcases h with rfl | rfl | rfl | rfl | rfl | rfl | rfl | rfl | rfl <;> decide
theorem isQ.y {o : Nat} (h : isQ o) : q8 (o + 2) := by rcases h with rfl | rfl | rfl | rfl | rfl | rfl | rfl | rfl | rfl <;> decide
theorem isQ.z {o : Nat} (h : isQ o) : q8 (o + 3) := by rcases h with rfl | rfl | rfl | rfl | rfl | rfl | rfl | rfl | rfl <;> decide
theorem oQ {E : gm_E} {N : gm_M} {τ : Nat → Nat → Int32} {cd : Int32} {o : Nat} (h : isQ o) : mW E N τ cd (E.2.1 + o) = some (QO (E.2.1 + (o + 1)) (E.2.1 + (o + 2)) (E.2.1 + (o + 3))) := by
  rcases h with rfl | rfl | rfl | rfl | rfl | rfl | rfl | rfl | rfl <;> exact mw_obj ⟨rfl, by decide⟩ rfl
theorem m99 {E : gm_E} {N : gm_M} {τ : Nat → Nat → Int32} {cd : Int32} : mW E N τ cd (E.2.1 + 99) = some (RO (E.2.1 + 100) miP (E.2.1 + 101) (E.2.1 + 102) (E.2.1 + 103) (E.2.1 + 104) (E.2.1 + 105) (E.2.1 + 106)) := mw_obj ⟨rfl, by decide⟩ rfl
theorem m107 {E : gm_E} {N : gm_M} {τ : Nat → Nat → Int32} {cd : Int32} : mW E N τ cd (E.2.1 + 107) = some (RO (E.2.1 + 108) miN (E.2.1 + 109) (E.2.1 + 110) (E.2.1 + 111) (E.2.1 + 112) (E.2.1 + 113) (E.2.1 + 114)) := mw_obj ⟨rfl, by decide⟩ rfl
def mpR {F : Type} [Lean.Grind.CommRing F] (φ : Int → F) (τ : Nat → Nat → Int32) (o : Nat) (p : Option (F × F)) : Prop := match p with
  | none => MV φ nP (τ (o + 3)) 0
  | some a => ec_on a ∧ ∃ X Y Z, MV φ nP (τ (o + 1)) X ∧ MV φ nP (τ (o + 2)) Y ∧ MV φ nP (τ (o + 3)) Z ∧ jr a X Y Z
theorem mpR.ok {F : Type} [Lean.Grind.CommRing F] {φ : Int → F} {τ : Nat → Nat → Int32} {o : Nat} {p : Option (F × F)} (h : mpR φ τ o p) : ec_OK p := by
  intro a ha
  subst ha
  exact h.1
theorem mpR.kept {F : Type} [Lean.Grind.CommRing F] {φ : Int → F} {τ τ' : Nat → Nat → Int32} {o t : Nat} {p : Option (F × F)} (h : mpR φ τ o p) (h1 : τ' (t + 1) = τ (o + 1)) (h2 : τ' (t + 2) = τ (o + 2)) (h3 : τ' (t + 3) = τ (o + 3)) : mpR φ τ' t p := by
  cases p with
  | none =>
    show MV φ nP (τ' (t + 3)) 0
    rw [h3]
    exact h
  | some a =>
    obtain ⟨ho, X, Y, Z, a1, a2, a3, a4⟩ := h
    exact ⟨ho, X, Y, Z, by rw [h1]; exact a1, by rw [h2]; exact a2, by rw [h3]; exact a3, a4⟩
theorem mpR.jr {F : Type} [Lean.Grind.CommRing F] {φ : Int → F} {τ : Nat → Nat → Int32} {o : Nat} {a : F × F} {X Y Z X' Y' Z' : F} (ho : ec_on a) (hX : MV φ nP (τ (o + 1)) X) (hY : MV φ nP (τ (o + 2)) Y) (hZ : MV φ nP (τ (o + 3)) Z) (hj : jr a X' Y' Z') (eX : X = X') (eY : Y = Y') (eZ : Z = Z') : mpR φ τ o (some a) := by
  subst eX eY eZ
  exact ⟨ho, _, _, _, hX, hY, hZ, hj⟩
theorem MV.of0 {F : Type} [Lean.Grind.CommRing F] {φ : Int → F} {m : Int} (hf : ec_hom φ) (hm : 0 < m) {g : Nat → Int32} (h : IV g 8 = 0) : MV φ m g 0 := by
  refine ⟨by omega, ?_⟩
  rw [h]
  show φ 0 = 0 * φ (tq 8)
  rw [hf.z]
  grind
/-- what doubled and plus leave as it was -/
def kD (o : Nat) (τ τ' : Nat → Nat → Int32) : Prop := ∀ j, ¬ (71 ≤ j ∧ j ≤ 76) → ¬ (104 ≤ j ∧ j ≤ 106) → ¬ (o < j ∧ j < o + 4) → τ' j = τ j
theorem kD.tr {o : Nat} {a b c : Nat → Nat → Int32} (h : kD o a b) (h2 : kD o b c) : kD o a c := fun j a1 a2 a3 => (h2 j a1 a2 a3).trans (h j a1 a2 a3)
theorem kD.rf (o : Nat) (a : Nat → Nat → Int32) : kD o a a := fun _ _ _ _ => rfl
theorem IV_xp (g : Nat → Int32) (more : Int32) : IV (xpF g more) 8 + IV g 8 % 4294967296 = IV g 8 + (IV g 8 % 4294967296 + wN more) % 4294967296 := by
  have e1 : IV g 8 = _ := IV_sh g 7
  have e2 : IV (xpF g more) 8 = _ := IV_sh (xpF g more) 7
  have e3 : IV (fun j => xpF g more (j + 1)) 7 = IV (fun j => g (j + 1)) 7 := IV_cg (fun j _ => rfl)
  have e4 : wN (xpF g more 0) = (wN (g 0) + wN more) % 4294967296 := wN_add _ _
  rw [e3, e4] at e2
  have hw := wN_lt (g 0)
  have e5 : IV g 8 % 4294967296 = wN (g 0) := by omega
  rw [e5, e2, e1]
  omega
theorem nP_v : nP = 115792089237316195423570985008687907853269984665640564039457584007908834671663 := by decide +kernel
theorem nN_v : nN = 115792089237316195423570985008687907852837564279074904382605163141518161494337 := by decide +kernel
theorem xp_P {F : Type} [Lean.Grind.CommRing F] {φ : Int → F} {τ : Nat → Nat → Int32} (R : isR φ nP 99 τ) : IV (τ (99 + 1)) 8 = 115792089237316195423570985008687907853269984665640564039457584007908834671663 := by
  have h := R.1
  rw [nP_v] at h
  omega
theorem xp_N {F : Type} [Lean.Grind.CommRing F] {φ : Int → F} {τ : Nat → Nat → Int32} (R : isR φ nN 107 τ) : IV (τ (107 + 1)) 8 = 115792089237316195423570985008687907852837564279074904382605163141518161494337 := by
  have h := R.1
  rw [nN_v] at h
  omega
theorem xp_sP2 {F : Type} [Lean.Grind.CommRing F] {φ : Int → F} {τ : Nat → Nat → Int32} (R : isR φ nP 99 τ) : IV (xpF (τ (99 + 1)) (-2)) 8 / 2 ^ 0 = NV sP2 := by
  have e := IV_xp (τ (99 + 1)) (-2)
  rw [xp_P R, show wN (-2) = 4294967294 by decide] at e
  rw [sP2_v, Nat.pow_zero, Nat.div_one]
  omega
theorem xp_sN2 {F : Type} [Lean.Grind.CommRing F] {φ : Int → F} {τ : Nat → Nat → Int32} (R : isR φ nN 107 τ) : IV (xpF (τ (107 + 1)) (-2)) 8 / 2 ^ 0 = NV sN2 := by
  have e := IV_xp (τ (107 + 1)) (-2)
  rw [xp_N R, show wN (-2) = 4294967294 by decide] at e
  rw [sN2_v, Nat.pow_zero, Nat.div_one]
  omega
theorem xp_sRt {F : Type} [Lean.Grind.CommRing F] {φ : Int → F} {τ : Nat → Nat → Int32} (R : isR φ nP 99 τ) : IV (xpF (τ (99 + 1)) 1) 8 / 2 ^ 2 = NV sRt := by
  have e := IV_xp (τ (99 + 1)) 1
  rw [xp_P R, show wN 1 = 1 by decide] at e
  have e2 : IV (xpF (τ (99 + 1)) 1) 8 = 115792089237316195423570985008687907853269984665640564039457584007908834671664 := by omega
  rw [sRt_v, e2]
