/-! the field of nP elements -/
theorem fz_P : NeZero nP := ⟨by decide +kernel⟩
def fR_P : Lean.Grind.CommRing (Fin nP) := @inferInstance _ (@Lean.Grind.Fin.instCommRingFinOfNeZeroNat nP fz_P)
theorem fP_pos : 0 < nP := by decide +kernel
def fP_φ (x : Int) : Fin nP := ⟨(x % (nP : Int)).toNat, by
  have h1 := Int.emod_nonneg x (show (nP : Int) ≠ 0 by have := fP_pos; omega)
  have h2 := Int.emod_lt_of_pos x (show (0 : Int) < nP by have := fP_pos; omega)
  omega⟩
theorem fP_val (x : Int) : ((fP_φ x).val : Int) = x % (nP : Int) := Int.toNat_of_nonneg (Int.emod_nonneg x (by have := fP_pos; omega))
theorem fP_add (a b : Fin nP) : (@HAdd.hAdd _ _ _ (@instHAdd _ fR_P.toAdd) a b).val = (a.val + b.val) % nP := by cases a; cases b; rfl
theorem fP_mul (a b : Fin nP) : (@HMul.hMul _ _ _ (@instHMul _ fR_P.toMul) a b).val = (a.val * b.val) % nP := by cases a; cases b; rfl
theorem fP_hom : @ec_hom _ fR_P fP_φ := by
  refine ⟨fun a b => ?_, fun a b => ?_, ?_⟩
  · apply Fin.ext
    rw [fP_add]
    have h : ((fP_φ (a + b)).val : Int) = ((((fP_φ a).val + (fP_φ b).val) % nP : Nat) : Int) := by
      rw [fP_val, Int.natCast_emod, Int.natCast_add, fP_val, fP_val, ← Int.add_emod]
    exact Int.ofNat.inj h
  · apply Fin.ext
    rw [fP_mul]
    have h : ((fP_φ (a * b)).val : Int) = ((((fP_φ a).val * (fP_φ b).val) % nP : Nat) : Int) := by
      rw [fP_val, Int.natCast_emod, Int.natCast_mul, fP_val, fP_val, ← Int.mul_emod]
    exact Int.ofNat.inj h
  · apply Fin.ext
    decide +kernel
theorem fP_eq (a b : Int) : fP_φ a = fP_φ b ↔ a % (nP : Int) = b % (nP : Int) := by
  constructor
  · intro h
    rw [← fP_val, ← fP_val, h]
  · intro h
    apply Fin.ext
    have : ((fP_φ a).val : Int) = ((fP_φ b).val : Int) := by rw [fP_val, fP_val, h]
    exact Int.ofNat.inj this
theorem fP_0 : (@OfNat.ofNat (Fin nP) 0 (fR_P.ofNat 0)).val = 0 := by decide +kernel
theorem fP_1 : (@OfNat.ofNat (Fin nP) 1 (fR_P.ofNat 1)).val = 1 := by decide +kernel
theorem fP_pw (a : Fin nP) : ∀ n, (@fp_pw _ fR_P a n).val = a.val ^ n % nP
  | 0 => by
    rw [Nat.pow_zero]
    exact fP_1.trans (by decide +kernel)
  | n + 1 => by
    have ih := fP_pw a n
    show (@HMul.hMul _ _ _ (@instHMul _ fR_P.toMul) (@fp_pw _ fR_P a n) a).val = _
    rw [fP_mul, ih, Nat.pow_succ, Nat.mul_mod, Nat.mod_mod, ← Nat.mul_mod]
theorem fP_nc : ¬ nt_pm 256 (nP - 7) ((nP - 1) / 3) nP = 1 := by decide +kernel
theorem fP_e3 : 3 * ((nP - 1) / 3) = nP - 1 := by decide +kernel
theorem fP_b : (nP - 1) / 3 < 2 ^ 256 := by decide +kernel
theorem fP_2 : 2 ≤ nP := by decide +kernel
theorem fP_8 : 8 < nP := by decide +kernel
theorem fP_root (v : Nat) (hv : v < nP) : ¬ (v * v * v + 7) % nP = 0 := by
  intro h
  have h8 := fP_8
  have hnd : ¬ nP ∣ v := by
    intro hd
    rcases Nat.eq_zero_or_pos v with h0 | h0
    · subst h0
      simp only [Nat.zero_mul, Nat.zero_add] at h
      rw [Nat.mod_eq_of_lt (by omega)] at h
      omega
    · exact absurd (Nat.le_of_dvd h0 hd) (by omega)
  have hf := nt_fermat nP_P hnd
  have h3 : (v * v * v) % nP = nP - 7 := by
    have h4 : (v * v * v) % nP < nP := Nat.mod_lt _ (by omega)
    rw [Nat.add_mod, Nat.mod_eq_of_lt (show 7 < nP by omega)] at h
    rcases Nat.lt_or_ge ((v * v * v) % nP + 7) nP with h5 | h5
    · rw [Nat.mod_eq_of_lt h5] at h
      omega
    · rw [Nat.mod_eq_sub_mod h5, Nat.mod_eq_of_lt (by omega)] at h
      omega
  apply fP_nc
  rw [nt_pm_eq _ _ _ _ fP_b, ← h3, ← Nat.pow_mod]
  have e : (v * v * v) ^ ((nP - 1) / 3) = v ^ (nP - 1) := by
    rw [show v * v * v = v ^ 3 by rw [Nat.pow_succ, Nat.pow_succ, Nat.pow_one], ← Nat.pow_mul, fP_e3]
  rw [e]
  exact hf
theorem fP_iv (n : Nat) (hn : n.succ = nP - 1) (a : Fin nP) (ha : a ≠ @OfNat.ofNat (Fin nP) 0 (fR_P.ofNat 0)) : @HMul.hMul _ _ _ (@instHMul _ fR_P.toMul) a (@fp_pw _ fR_P a n) = @OfNat.ofNat (Fin nP) 1 (fR_P.ofNat 1) := by
  apply Fin.ext
  rw [fP_mul, fP_pw, fP_1, Nat.mul_mod, Nat.mod_mod, ← Nat.mul_mod, ← Nat.pow_succ', hn]
  refine nt_fermat nP_P fun hd => ha ?_
  apply Fin.ext
  rw [fP_0]
  rcases Nat.eq_zero_or_pos a.val with h0 | h0
  · exact h0
  · exact absurd (Nat.le_of_dvd h0 hd) (by have := a.isLt; omega)
theorem fP_10 : ¬ @OfNat.ofNat (Fin nP) 1 (fR_P.ofNat 1) = @OfNat.ofNat (Fin nP) 0 (fR_P.ofNat 0) := by
  intro h
  have := congrArg Fin.val h
  rw [fP_0, fP_1] at this
  omega
theorem fP_v (n : Nat) : (@OfNat.ofNat (Fin nP) n (fR_P.ofNat n)).val = n % nP := by
  have h := congrArg Fin.val (@ec_hom.nat _ fR_P _ fP_hom n)
  rw [← h]
  have h2 := fP_val (n : Int)
  rw [← Int.natCast_emod] at h2
  exact Int.ofNat.inj h2
theorem fP_20 : ¬ @OfNat.ofNat (Fin nP) 2 (fR_P.ofNat 2) = @OfNat.ofNat (Fin nP) 0 (fR_P.ofNat 0) := by
  intro h
  have h1 := congrArg Fin.val h
  rw [fP_0, fP_v, Nat.mod_eq_of_lt (by have := fP_8; omega)] at h1
  omega
theorem fP_rt (x : Fin nP) : ¬ @HAdd.hAdd _ _ _ (@instHAdd _ fR_P.toAdd) (@HMul.hMul _ _ _ (@instHMul _ fR_P.toMul) (@HMul.hMul _ _ _ (@instHMul _ fR_P.toMul) x x) x) (@OfNat.ofNat (Fin nP) 7 (fR_P.ofNat 7)) = @OfNat.ofNat (Fin nP) 0 (fR_P.ofNat 0) := by
  intro hx
  have h1 := congrArg Fin.val hx
  rw [fP_0, fP_add, fP_mul, fP_mul, fP_v] at h1
  apply fP_root x.val x.isLt
  rw [← h1, Nat.add_mod (x.val * x.val * x.val), Nat.add_mod (x.val * x.val % nP * x.val % nP), Nat.mod_mod, Nat.mod_mod, Nat.mul_mod (x.val * x.val % nP), Nat.mod_mod, ← Nat.mul_mod]
theorem fP_fld (n : Nat) (hn : n.succ = nP - 1) : @ec_fld _ fR_P fP_φ (fun a => @fp_pw _ fR_P a n) := ⟨fP_hom, fun a ha => fP_iv n hn a ha, fP_10, fP_20, fP_rt⟩
/-- the field, once and for all -/
theorem fP_all : ∃ (F : Type) (i : Lean.Grind.CommRing F) (φ : Int → F) (inv : F → F), @ec_fld F i φ inv ∧ (∀ a b : Int, φ a = φ b ↔ a % (nP : Int) = b % (nP : Int)) ∧ ∃ n : Nat, n + 2 = nP ∧ ∀ a, inv a = @fp_pw F i a n := by
  obtain ⟨n, hn⟩ : ∃ n, n + 2 = nP := ⟨nP - 2, by have := fP_2; omega⟩
  exact ⟨Fin nP, fR_P, fP_φ, _, fP_fld n (by omega), fP_eq, n, hn, fun _ => rfl⟩
