/-! THE REFERENCE IN MEMORY: 80 cells from E.2.1 + 53 on -/
def rq (k : Nat) : Nat := match k with
  | 104 | 112 => 10
  | 54 | 56 | 57 | 58 | 60 | 61 | 62 | 64 | 65 | 66 | 68 | 69 | 70 | 71 | 72 | 73 | 74 | 75 | 76 | 77 | 78 | 80 | 81 | 82 | 83 | 84 | 85 | 86 | 87 | 90 | 91 | 92 | 93 | 94 | 95 | 96 | 97 | 98 | 100 | 101 | 102 | 103 | 105 | 106 | 108 | 109 | 110 | 111 | 113 | 114 | 116 | 117 | 118 | 120 | 121 | 122 | 124 | 125 | 126 | 128 | 129 | 130 | 131 | 132 => 8
  | _ => 0
def miP : Int32 := -769313487
def miN : Int32 := 1435021631
def QO (x y z : Nat) : va_E := OB 5 [.ref x, .ref y, .ref z]
def XO (B : Nat) (cd : Int32) : va_E := OB 6 [.ref (B + 99), .ref (B + 107), .ref (B + 54), .ref (B + 55), .ref (B + 59), .ref (B + 63), .ref (B + 67), .ref (B + 71), .ref (B + 72), .ref (B + 73), .ref (B + 74), .ref (B + 75), .ref (B + 76), .ref (B + 77), .ref (B + 78), .ref (B + 79), .ref (B + 88), .ref (B + 89), .ref (B + 93), .ref (B + 94), .ref (B + 95), .ref (B + 96), .int cd]
def mlO (E : gm_E) (cd : Int32) (k : Nat) : Option va_E := match k with
  | 53 => some (XO E.2.1 cd)
  | 55 => some (QO (E.2.1 + 56) (E.2.1 + 57) (E.2.1 + 58))
  | 59 => some (QO (E.2.1 + 60) (E.2.1 + 61) (E.2.1 + 62))
  | 63 => some (QO (E.2.1 + 64) (E.2.1 + 65) (E.2.1 + 66))
  | 67 => some (QO (E.2.1 + 68) (E.2.1 + 69) (E.2.1 + 70))
  | 79 => some (QA E 5 8 (fun i => if i < 8 then some (E.2.1 + (80 + i)) else none))
  | 88 => some (QA E 4 4 (fun i => if i < 4 then some (E.2.1 + (115 + 4 * i)) else none))
  | 89 => some (QO (E.2.1 + 90) (E.2.1 + 91) (E.2.1 + 92))
  | 99 => some (RO (E.2.1 + 100) miP (E.2.1 + 101) (E.2.1 + 102) (E.2.1 + 103) (E.2.1 + 104) (E.2.1 + 105) (E.2.1 + 106))
  | 107 => some (RO (E.2.1 + 108) miN (E.2.1 + 109) (E.2.1 + 110) (E.2.1 + 111) (E.2.1 + 112) (E.2.1 + 113) (E.2.1 + 114))
  | 115 => some (QO (E.2.1 + 116) (E.2.1 + 117) (E.2.1 + 118))
  | 119 => some (QO (E.2.1 + 120) (E.2.1 + 121) (E.2.1 + 122))
  | 123 => some (QO (E.2.1 + 124) (E.2.1 + 125) (E.2.1 + 126))
  | 127 => some (QO (E.2.1 + 128) (E.2.1 + 129) (E.2.1 + 130))
  | _ => none
def ml (E : gm_E) (τ : Nat → Nat → Int32) (cd : Int32) (k : Nat) : Option va_E := if rq k = 0 then mlO E cd k else some (IA E (rq k) (τ k))
/-- the reference over whatever else there is -/
def mW (E : gm_E) (N : gm_M) (τ : Nat → Nat → Int32) (cd : Int32) : gm_M := fun x => if E.2.1 + 53 ≤ x ∧ x < E.2.1 + 133 then ml E τ cd (x - E.2.1) else N x
abbrev q8 (k : Nat) : Prop := rq k = 8 ∧ 8 ≠ 0 ∧ 53 ≤ k ∧ k < 133
section MW
variable {E : gm_E} {N : gm_M} {τ : Nat → Nat → Int32} {cd : Int32}
theorem mw_at {k : Nat} (hk : 53 ≤ k ∧ k < 133) : mW E N τ cd (E.2.1 + k) = ml E τ cd k := by
  rw [mW, if_pos (by omega), Nat.add_sub_cancel_left]
theorem mw_row {k n : Nat} (h : rq k = n ∧ n ≠ 0 ∧ 53 ≤ k ∧ k < 133) : mW E N τ cd (E.2.1 + k) = some (IA E n (τ k)) := by
  obtain ⟨rfl, h1, h2⟩ := h
  rw [mw_at h2, ml, if_neg h1]
theorem mw_obj {k : Nat} {e : va_E} (h : rq k = 0 ∧ 53 ≤ k ∧ k < 133) (he : mlO E cd k = some e) : mW E N τ cd (E.2.1 + k) = some e := by
  rw [mw_at h.2, ml, if_pos h.1, he]
theorem mw_upr {k n : Nat} (f : Nat → Int32) (h : rq k = n ∧ n ≠ 0 ∧ 53 ≤ k ∧ k < 133) : gm_up (mW E N τ cd) (E.2.1 + k) (IA E n f) = mW E N (va_up τ k f) cd := by
  obtain ⟨rfl, h1, h2⟩ := h
  funext x
  simp only [gm_up, mW]
  by_cases hx : x = E.2.1 + k
  · subst hx
    rw [if_pos rfl, if_pos (by omega), Nat.add_sub_cancel_left, ml, if_neg h1, vu_s]
  · rw [if_neg hx]
    by_cases hr : E.2.1 + 53 ≤ x ∧ x < E.2.1 + 133
    · rw [if_pos hr, if_pos hr, ml, ml]
      by_cases h0 : rq (x - E.2.1) = 0
      · rw [if_pos h0, if_pos h0]
      · rw [if_neg h0, if_neg h0, vu_n (by omega)]
    · rw [if_neg hr, if_neg hr]
theorem mlO_cd {k : Nat} (v : Int32) (h : k ≠ 53) : mlO E v k = mlO E cd k := by
  unfold mlO
  split <;> first | rfl | exact absurd rfl h
theorem mw_cd (v : Int32) : gm_up (mW E N τ cd) (E.2.1 + 53) (XO E.2.1 v) = mW E N τ v := by
  funext x
  simp only [gm_up, mW]
  by_cases hx : x = E.2.1 + 53
  · subst hx
    rw [if_pos rfl, if_pos (by omega), Nat.add_sub_cancel_left]
    rfl
  · rw [if_neg hx]
    by_cases hr : E.2.1 + 53 ≤ x ∧ x < E.2.1 + 133
    · rw [if_pos hr, if_pos hr, ml, ml, mlO_cd (cd := v) cd (by omega)]
    · rw [if_neg hr, if_neg hr]
theorem m53 : mW E N τ cd (E.2.1 + 53) = some (XO E.2.1 cd) := mw_obj ⟨rfl, by decide⟩ rfl
theorem m79 : mW E N τ cd (E.2.1 + 79) = some (QA E 5 8 (fun i => if i < 8 then some (E.2.1 + (80 + i)) else none)) := mw_obj ⟨rfl, by decide⟩ rfl
theorem m88 : mW E N τ cd (E.2.1 + 88) = some (QA E 4 4 (fun i => if i < 4 then some (E.2.1 + (115 + 4 * i)) else none)) := mw_obj ⟨rfl, by decide⟩ rfl
end MW
/-- the two memories don't touch -/
theorem cw_mw {E : gm_E} {ad : Nat → Nat} {N : gm_M} {ρ : Nat → Nat → Int64} {fl : Nat → Int32} {τ : Nat → Nat → Int32} {cd : Int32} : cW E ad (mW E N τ cd) ρ fl = mW E (cW E ad N ρ fl) τ cd := by
  funext x
  simp only [cW, mW]
  by_cases h : E.2.1 ≤ x ∧ x < E.2.1 + 53
  · rw [if_pos h, if_neg (by omega), if_pos h]
  · rw [if_neg h]
    by_cases h2 : E.2.1 + 53 ≤ x ∧ x < E.2.1 + 133
    · rw [if_pos h2, if_pos h2]
    · rw [if_neg h2, if_neg h2, if_neg h]
/-! what a row of the reference stands for -/
def MV {F : Type} [Lean.Grind.CommRing F] (φ : Int → F) (m : Int) (g : Nat → Int32) (v : F) : Prop := (IV g 8 : Int) < m ∧ φ (IV g 8) = v * φ (tq 8)
def PV {F : Type} [Lean.Grind.CommRing F] (φ : Int → F) (m : Int) (g : Nat → Int32) (v : F) : Prop := (IV g 8 : Int) < m ∧ φ (IV g 8) = v
/-- a ring at the place k -/
def isR {F : Type} [Lean.Grind.CommRing F] (φ : Int → F) (m : Int) (k : Nat) (τ : Nat → Nat → Int32) : Prop := (IV (τ (k + 1)) 8 : Int) = m ∧ MV φ m (τ (k + 2)) 1 ∧ PV φ m (τ (k + 3)) (φ (tq 8) * φ (tq 8)) ∧ IV (τ (k + 4)) 8 = 1
def rPl (E : gm_E) (k : Nat) (m : Int) : Prop := (q8 (k + 1) ∧ q8 (k + 2) ∧ q8 (k + 3) ∧ q8 (k + 4) ∧ q8 (k + 6) ∧ q8 (k + 7)) ∧ (rq (k + 5) = 10 ∧ 10 ≠ 0 ∧ 53 ≤ k + 5 ∧ k + 5 < 133) ∧ 2 < m ∧ ∃ mi : Int32, ((wN mi : Int) * m + 1) % 4294967296 = 0 ∧ ∀ N τ cd, mW E N τ cd (E.2.1 + k) = some (RO (E.2.1 + (k + 1)) mi (E.2.1 + (k + 2)) (E.2.1 + (k + 3)) (E.2.1 + (k + 4)) (E.2.1 + (k + 5)) (E.2.1 + (k + 6)) (E.2.1 + (k + 7)))
theorem rPl_P (E : gm_E) : rPl E 99 nP := ⟨by decide, by decide, by decide +kernel, miP, by decide +kernel, fun N τ cd => mw_obj ⟨rfl, by decide⟩ rfl⟩
theorem rPl_N (E : gm_E) : rPl E 107 nN := ⟨by decide, by decide, by decide +kernel, miN, by decide +kernel, fun N τ cd => mw_obj ⟨rfl, by decide⟩ rfl⟩
/-- what stays -/
def kr (k t : Nat) (τ τ' : Nat → Nat → Int32) : Prop := ∀ j, j ≠ t → ¬ (k + 4 < j ∧ j < k + 8) → τ' j = τ j
def kt (t : Nat) (τ τ' : Nat → Nat → Int32) : Prop := ∀ j, j ≠ t → τ' j = τ j
theorem ph_md {F : Type} [Lean.Grind.CommRing F] {φ : Int → F} {m : Int} (hf : fm φ m) {x y : Nat} {M : Nat} (hm : (M : Int) = m) (e : x % M = y % M) : φ (x : Int) = φ (y : Int) := by
  refine (hf.2 _ _).mpr ?_
  rw [← hm, ← Int.natCast_emod, ← Int.natCast_emod, e]
theorem MV.mul {F : Type} [Lean.Grind.CommRing F] {φ : Int → F} {m : Int} (hf : fm φ m) {Ri : F} (hR : φ (tq 8) * Ri = 1) {g1 g2 h : Nat → Int32} {v1 v2 : F} {M : Nat} (hm : (M : Int) = m) (h1 : MV φ m g1 v1) (h2 : MV φ m g2 v2) (hl : IV h 8 < M) (e : IV h 8 * tq 8 % M = IV g1 8 * IV g2 8 % M) : MV φ m h (v1 * v2) := by
  refine ⟨by omega, ?_⟩
  have e1 := ph_md hf hm e
  rw [Int.natCast_mul, Int.natCast_mul, hf.1.2.1, hf.1.2.1, h1.2, h2.2] at e1
  have e2 : φ (IV h 8) = φ (IV h 8) * φ (tq 8) * Ri := by
    have : φ (IV h 8) * φ (tq 8) * Ri = φ (IV h 8) * (φ (tq 8) * Ri) := by grind
    rw [this, hR]
    grind
  rw [e2, e1]
  have : v1 * φ (tq 8) * (v2 * φ (tq 8)) * Ri = v1 * v2 * φ (tq 8) * (φ (tq 8) * Ri) := by grind
  rw [this, hR]
  grind
theorem PV.leave {F : Type} [Lean.Grind.CommRing F] {φ : Int → F} {m : Int} (hf : fm φ m) {Ri : F} (hR : φ (tq 8) * Ri = 1) {g1 g2 h : Nat → Int32} {v1 : F} {M : Nat} (hm : (M : Int) = m) (h1 : MV φ m g1 v1) (h2 : IV g2 8 = 1) (hl : IV h 8 < M) (e : IV h 8 * tq 8 % M = IV g1 8 * IV g2 8 % M) : PV φ m h v1 := by
  refine ⟨by omega, ?_⟩
  have e1 := ph_md hf hm e
  rw [h2, Nat.mul_one, Int.natCast_mul, hf.1.2.1, h1.2] at e1
  have e2 : φ (IV h 8) = φ (IV h 8) * φ (tq 8) * Ri := by
    have : φ (IV h 8) * φ (tq 8) * Ri = φ (IV h 8) * (φ (tq 8) * Ri) := by grind
    rw [this, hR]
    grind
  rw [e2, e1]
  have : v1 * φ (tq 8) * Ri = v1 * (φ (tq 8) * Ri) := by grind
  rw [this, hR]
  grind
theorem MV.enter {F : Type} [Lean.Grind.CommRing F] {φ : Int → F} {m : Int} (hf : fm φ m) {Ri : F} (hR : φ (tq 8) * Ri = 1) {g1 g2 h : Nat → Int32} {M : Nat} (hm : (M : Int) = m) (h2 : PV φ m g2 (φ (tq 8) * φ (tq 8))) (hl : IV h 8 < M) (e : IV h 8 * tq 8 % M = IV g1 8 * IV g2 8 % M) : MV φ m h (φ (IV g1 8)) := by
  refine ⟨by omega, ?_⟩
  have e1 := ph_md hf hm e
  rw [Int.natCast_mul, Int.natCast_mul, hf.1.2.1, hf.1.2.1, h2.2] at e1
  have e2 : φ (IV h 8) = φ (IV h 8) * φ (tq 8) * Ri := by
    have : φ (IV h 8) * φ (tq 8) * Ri = φ (IV h 8) * (φ (tq 8) * Ri) := by grind
    rw [this, hR]
    grind
  rw [e2, e1]
  have : φ (IV g1 8) * (φ (tq 8) * φ (tq 8)) * Ri = φ (IV g1 8) * φ (tq 8) * (φ (tq 8) * Ri) := by grind
  rw [this, hR]
  grind
theorem MV.add {F : Type} [Lean.Grind.CommRing F] {φ : Int → F} {m : Int} (hf : fm φ m) {g1 g2 h : Nat → Int32} {v1 v2 : F} {M : Nat} (hm : (M : Int) = m) (h0 : 0 < M) (h1 : MV φ m g1 v1) (h2 : MV φ m g2 v2) (e : IV h 8 = (IV g1 8 + IV g2 8) % M) : MV φ m h (v1 + v2) := by
  have hl : IV h 8 < M := by rw [e]; exact Nat.mod_lt _ h0
  refine ⟨by omega, ?_⟩
  have e1 := ph_md hf hm (x := IV h 8) (y := IV g1 8 + IV g2 8) (by rw [e, Nat.mod_mod])
  rw [e1, Int.natCast_add, hf.1.1, h1.2, h2.2]
  grind
theorem MV.sub {F : Type} [Lean.Grind.CommRing F] {φ : Int → F} {m : Int} (hf : fm φ m) {g1 g2 h : Nat → Int32} {v1 v2 : F} {M : Nat} (hm : (M : Int) = m) (h0 : 0 < M) (h1 : MV φ m g1 v1) (h2 : MV φ m g2 v2) (e : IV h 8 = (IV g1 8 + M - IV g2 8) % M) : MV φ m h (v1 - v2) := by
  have hl : IV h 8 < M := by rw [e]; exact Nat.mod_lt _ h0
  refine ⟨by omega, ?_⟩
  have hl2 := h2.1
  have e1 := ph_md hf hm (x := IV h 8) (y := IV g1 8 + M - IV g2 8) (by rw [e, Nat.mod_mod])
  have hz : φ m = 0 := by
    rw [← hf.1.z]
    exact (hf.2 _ _).mpr (by rw [Int.emod_self, Int.zero_emod])
  rw [e1, show ((IV g1 8 + M - IV g2 8 : Nat) : Int) = (IV g1 8 : Int) + m - IV g2 8 by omega, hf.1.s, hf.1.1, hz, h1.2, h2.2]
  grind
theorem MV.z {F : Type} [Lean.Grind.CommRing F] {φ : Int → F} {m : Int} (hf : fm φ m) {Ri : F} (hR : φ (tq 8) * Ri = 1) {g : Nat → Int32} {v : F} (h : MV φ m g v) : IV g 8 = 0 ↔ v = 0 := by
  constructor
  · intro e
    have e1 := h.2
    rw [e] at e1
    have e2 : v = v * φ (tq 8) * Ri := by
      have : v * φ (tq 8) * Ri = v * (φ (tq 8) * Ri) := by grind
      rw [this, hR]
      grind
    rw [e2, ← e1]
    show φ 0 * Ri = 0
    rw [hf.1.z]
    grind
  · intro e
    have e1 := h.2
    rw [e, show (0 : F) * φ (tq 8) = 0 by grind, ← hf.1.z] at e1
    have e2 := (hf.2 _ _).mp e1
    rw [Int.emod_eq_of_lt (by omega) h.1, Int.zero_emod] at e2
    omega
theorem PV.inj {F : Type} [Lean.Grind.CommRing F] {φ : Int → F} {m : Int} (hf : fm φ m) {g g' : Nat → Int32} {v v' : F} (h : PV φ m g v) (h' : PV φ m g' v') : IV g 8 = IV g' 8 ↔ v = v' := by
  constructor
  · intro e
    rw [← h.2, ← h'.2, e]
  · intro e
    have e1 : φ (IV g 8) = φ (IV g' 8) := by rw [h.2, h'.2, e]
    have e2 := (hf.2 _ _).mp e1
    rw [Int.emod_eq_of_lt (by omega) h.1, Int.emod_eq_of_lt (by omega) h'.1] at e2
    omega
