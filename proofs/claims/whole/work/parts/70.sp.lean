/-! WHAT THE CALLS MEAN, for both sides -/
/-- the number below m that stands for v -/
noncomputable def rp {F : Type} [Lean.Grind.CommRing F] (φ : Int → F) (m : Int) (v : F) : Nat := Classical.epsilon (fun n : Nat => (n : Int) < m ∧ φ (n : Int) = v)
theorem rp_eq {F : Type} [Lean.Grind.CommRing F] {φ : Int → F} {m : Int} (hf : fm φ m) {v : F} {n : Nat} (h : (n : Int) < m) (e : φ (n : Int) = v) : rp φ m v = n := by
  have s : (((rp φ m v : Nat) : Int) < m ∧ φ ((rp φ m v : Nat) : Int) = v) := Classical.epsilon_spec (p := fun n : Nat => (n : Int) < m ∧ φ (n : Int) = v) ⟨n, h, e⟩
  have e1 : φ ((rp φ m v : Nat) : Int) = φ (n : Int) := s.2.trans e.symm
  have e2 := (hf.2 _ _).mp e1
  rw [Int.emod_eq_of_lt (by omega) s.1, Int.emod_eq_of_lt (by omega) h] at e2
  omega
theorem rp_lt {F : Type} [Lean.Grind.CommRing F] {φ : Int → F} {m : Int} {v : F} (n : Nat) (h : (n : Int) < m) (e : φ (n : Int) = v) : ((rp φ m v : Nat) : Int) < m ∧ φ ((rp φ m v : Nat) : Int) = v := Classical.epsilon_spec (p := fun n : Nat => (n : Int) < m ∧ φ (n : Int) = v) ⟨n, h, e⟩
/-- the parts of a number -/
def PK (n j : Nat) : Int64 := (UInt64.ofNat (n / 18446744073709551616 ^ j)).toInt64
theorem uN_PK (n j : Nat) : uN (PK n j) = n / 18446744073709551616 ^ j % 18446744073709551616 := by
  show (UInt64.ofNat (n / 18446744073709551616 ^ j)).toNat = _
  rw [UInt64.toNat_ofNat']
theorem PK_eq {f : Nat → Int64} {n : Nat} (h : NV f = n) : ∀ j, j < 4 → f j = PK n j := by
  intro j hj
  refine uN_inj ?_
  rw [uN_PK, ← h]
  have h0 := uN_lt (f 0)
  have h1 := uN_lt (f 1)
  have h2 := uN_lt (f 2)
  have h3 := uN_lt (f 3)
  unfold NV
  rcases (show j = 0 ∨ j = 1 ∨ j = 2 ∨ j = 3 by omega) with rfl | rfl | rfl | rfl
  · simp only [Nat.pow_zero, Nat.div_one]
    omega
  · simp only [Nat.pow_one]
    omega
  · simp only [Nat.reducePow]
    omega
  · simp only [Nat.reducePow]
    omega
theorem NV_cg {f g : Nat → Int64} (h : ∀ j, j < 4 → f j = g j) : NV f = NV g := by
  unfold NV
  rw [h 0 (by decide), h 1 (by decide), h 2 (by decide), h 3 (by decide)]
theorem NV_PK {f : Nat → Int64} {n : Nat} (h : NV f = n) : NV (PK n) = n := by rw [← h]; exact (NV_cg (PK_eq rfl)).symm
/-- work: when, and what -/
def wkOK (k : Nat) (m : Int) (x y : Nat) : Prop := (x : Int) < m ∧ (if k = 3 then ¬ x = 0 else (y : Int) < m)
def wkV {F : Type} [Lean.Grind.CommRing F] (φ : Int → F) (k e x y : Nat) : F := match k with
  | 0 => φ x + φ y
  | 1 => φ x - φ y
  | 2 => φ x * φ y
  | _ => fp_pw (φ x) e
/-- the square of y over x; the root that lift tries; the one with the parity that is asked for -/
def sqV {F : Type} [Lean.Grind.CommRing F] (x : F) : F := x * x * x + 7
noncomputable def rtV {F : Type} [Lean.Grind.CommRing F] (φ : Int → F) (x : F) (odd : Int32) : F := @ite _ ((rp φ nP (fp_pw (sqV x) (NV sRt)) % 2 = 1) ↔ odd = 1) (Classical.propDecidable _) (fp_pw (sqV x) (NV sRt)) (0 - fp_pw (sqV x) (NV sRt))
/-- the order of two numbers -/
def cmN (x y : Nat) : Int32 := if x = y then 0 else if y ≤ x then 1 else -1
theorem cmN_of {r : Int32} {x y : Nat} (h0 : r = 0 ↔ x = y) (h1 : 0 ≤ r ↔ y ≤ x) (h2 : r = 0 ∨ r = 1 ∨ r = -1) : r = cmN x y := by
  unfold cmN
  rcases h2 with e | e | e
  · rw [if_pos (h0.mp e), e]
  · rw [if_neg (fun z => absurd ((h0.mpr z).symm.trans e) (by decide)), if_pos (h1.mp (by rw [e]; decide)), e]
  · rw [if_neg (fun z => absurd ((h0.mpr z).symm.trans e) (by decide)), if_neg (fun z => absurd (h1.mpr z) (by rw [e]; decide)), e]
theorem ordF_cm (f g : Nat → Int64) : ordF f g 4 = cmN (NV f) (NV g) := by
  have h := ordF_ok f g 4
  rw [NVk_4, NVk_4] at h
  exact cmN_of h.1 h.2.1 h.2.2
theorem ordI_cm (f g : Nat → Int32) : ordI f g 8 = cmN (IV f 8) (IV g 8) := by
  have h := ordI_ok f g 8
  exact cmN_of h.1 h.2.1 h.2.2
/-- a settled row's number -/
theorem ST.rep {F : Type} [Lean.Grind.CommRing F] {φ : Int → F} {m : Int} (hf : fm φ m) {g : Nat → Int64} {v : F} (h : ST φ m g v) : ∃ r : Nat → Int, g = oF r ∧ sett m r ∧ us r 0 10 = (rp φ m v : Int) := by
  obtain ⟨r, h1, h2, h3⟩ := h
  have hn : 0 ≤ us r 0 10 := us_nn (fun j hj => (st_dg h2 j hj).1) 10 (Nat.le_refl _)
  refine ⟨r, h1, h2, ?_⟩
  have : rp φ m v = (us r 0 10).toNat := rp_eq hf (by have := h2.2.2; omega) (by rw [Int.toNat_of_nonneg hn]; exact h3)
  rw [this, Int.toNat_of_nonneg hn]
theorem ST.pkr {F : Type} [Lean.Grind.CommRing F] {φ : Int → F} {m : Int} (hf : fm φ m) {g : Nat → Int64} {v : F} (h : ST φ m g v) : NV (pkF g) = rp φ m v := by
  have q := h.pk hf
  exact (rp_eq hf q.1 q.2).symm
/-- .. seen in the other ring -/
theorem ST.two {F G : Type} [Lean.Grind.CommRing F] [Lean.Grind.CommRing G] {φ : Int → F} {ψ : Int → G} {m : Int} (hf : fm φ m) {g : Nat → Int64} {v : F} (h : ST φ m g v) : RV ψ g 1 (ψ (rp φ m v : Nat)) := by
  obtain ⟨r, h1, h2, h3⟩ := h.rep hf
  refine ⟨r, h1, fun j hj => ?_, by rw [h3]⟩
  have := sett_b h2 j hj
  omega
theorem PV.rep {F : Type} [Lean.Grind.CommRing F] {φ : Int → F} {m : Int} (hf : fm φ m) {g : Nat → Int32} {v : F} (h : PV φ m g v) : IV g 8 = rp φ m v := (rp_eq hf h.1 h.2).symm
