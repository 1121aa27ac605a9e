/-! THE CLASS IN MEMORY: 53 cells from E.2.1 on, in the order in which its constructor makes them -/
/-- the length of the row at a place; 0: no row -/
def rk (k : Nat) : Nat := match k with
  | 2 | 3 | 4 | 5 | 6 | 7 | 8 | 9 | 39 | 40 => 4
  | 12 | 17 => 20
  | 13 | 14 | 15 | 18 | 19 | 20 | 22 | 23 | 25 | 26 | 27 | 28 | 29 | 30 | 31 | 32 | 34 | 35 | 36 | 37 | 38 | 42 | 43 | 45 | 46 | 48 | 49 | 51 | 52 => 10
  | _ => 0
/-- the static arrays by their places in ad -/
def gE (E : gm_E) (ad : Nat → Nat) : Prop :=
  stA E "ZERO" (ad 0) 4 sZ ∧ stA E "P" (ad 1) 4 sP ∧ stA E "P_LESS_TWO" (ad 2) 4 sP2 ∧ stA E "ROOT_POWER" (ad 3) 4 sRt ∧ stA E "N" (ad 4) 4 sN ∧ stA E "N_LESS_TWO" (ad 5) 4 sN2 ∧ stA E "G_X" (ad 6) 4 sGX ∧ stA E "G_Y" (ad 7) 4 sGY ∧ stA E "P_REST" (ad 8) 2 (oF rzP) ∧ stA E "P_WRAP" (ad 9) 2 (oF wzP) ∧ stA E "N_REST" (ad 10) 5 (oF rzN) ∧ stA E "N_WRAP" (ad 11) 6 (oF wzN)
def PO (x y : Nat) (f : Int32) : va_E := OB 1 [.ref x, .ref y, .int f]
def SO (B : Nat) (f : Int32) : va_E := OB 2 [.ref (B + 11), .int f, .ref (B + 25), .ref (B + 26), .ref (B + 27), .ref (B + 28), .ref (B + 29), .ref (B + 30), .ref (B + 31), .ref (B + 32)]
def BO (B : Nat) : va_E := OB 3 [.ref (B + 1), .ref (B + 10), .ref (B + 11), .ref (B + 16), .ref (B + 21), .ref (B + 24), .ref (B + 33), .ref (B + 36), .ref (B + 37), .ref (B + 38), .ref (B + 39), .ref (B + 40)]
def layO (E : gm_E) (ad : Nat → Nat) (fl : Nat → Int32) (k : Nat) : Option va_E := match k with
  | 0 => some (BO E.2.1)
  | 1 => some (QA E 3 8 (fun i => if i < 8 then some (E.2.1 + (2 + i)) else none))
  | 10 => some (QA E 2 4 (fun i => if i < 4 then some (E.2.1 + (41 + 3 * i)) else none))
  | 11 => some (MO (ad 1) (ad 2) (ad 8) (ad 9) 0 (E.2.1 + 12) (E.2.1 + 13) (E.2.1 + 14) (E.2.1 + 15))
  | 16 => some (MO (ad 4) (ad 5) (ad 10) (ad 11) 1 (E.2.1 + 17) (E.2.1 + 18) (E.2.1 + 19) (E.2.1 + 20))
  | 21 => some (PO (E.2.1 + 22) (E.2.1 + 23) (fl 21))
  | 24 => some (SO E.2.1 (fl 24))
  | 33 => some (PO (E.2.1 + 34) (E.2.1 + 35) (fl 33))
  | 41 => some (PO (E.2.1 + 42) (E.2.1 + 43) (fl 41))
  | 44 => some (PO (E.2.1 + 45) (E.2.1 + 46) (fl 44))
  | 47 => some (PO (E.2.1 + 48) (E.2.1 + 49) (fl 47))
  | 50 => some (PO (E.2.1 + 51) (E.2.1 + 52) (fl 50))
  | _ => none
def lay (E : gm_E) (ad : Nat → Nat) (ρ : Nat → Nat → Int64) (fl : Nat → Int32) (k : Nat) : Option va_E := if rk k = 0 then layO E ad fl k else some (LA E (rk k) (ρ k))
/-- the class over whatever else there is -/
def cW (E : gm_E) (ad : Nat → Nat) (N : gm_M) (ρ : Nat → Nat → Int64) (fl : Nat → Int32) : gm_M := fun x => if E.2.1 ≤ x ∧ x < E.2.1 + 53 then lay E ad ρ fl (x - E.2.1) else N x
theorem vu_n {α : Type} {f : Nat → α} {k j : Nat} {v : α} (h : j ≠ k) : va_up f k v j = f j := if_neg h
theorem vu_s {α : Type} {f : Nat → α} {k : Nat} {v : α} : va_up f k v k = v := if_pos rfl
section CW
variable {E : gm_E} {ad : Nat → Nat} {N : gm_M} {ρ : Nat → Nat → Int64} {fl : Nat → Int32}
theorem cw_at {k : Nat} (hk : k < 53) : cW E ad N ρ fl (E.2.1 + k) = lay E ad ρ fl k := by
  rw [cW, if_pos (by omega), Nat.add_sub_cancel_left]
theorem cw_row {k n : Nat} (h : rk k = n ∧ n ≠ 0 ∧ k < 53) : cW E ad N ρ fl (E.2.1 + k) = some (LA E n (ρ k)) := by
  obtain ⟨rfl, h1, h2⟩ := h
  rw [cw_at h2, lay, if_neg h1]
theorem cw_obj {k : Nat} {e : va_E} (h : rk k = 0 ∧ k < 53) (he : layO E ad fl k = some e) : cW E ad N ρ fl (E.2.1 + k) = some e := by
  rw [cw_at h.2, lay, if_pos h.1, he]
theorem cw_ge (k : Nat) : E.2.1 ≤ E.2.1 + k := Nat.le_add_right _ _
theorem cw_upr {k n : Nat} (f : Nat → Int64) (h : rk k = n ∧ n ≠ 0 ∧ k < 53) : gm_up (cW E ad N ρ fl) (E.2.1 + k) (LA E n f) = cW E ad N (va_up ρ k f) fl := by
  obtain ⟨rfl, h1, h2⟩ := h
  funext x
  simp only [gm_up, cW]
  by_cases hx : x = E.2.1 + k
  · subst hx
    rw [if_pos rfl, if_pos (by omega), Nat.add_sub_cancel_left, lay, if_neg h1, vu_s]
  · rw [if_neg hx]
    by_cases hr : E.2.1 ≤ x ∧ x < E.2.1 + 53
    · rw [if_pos hr, if_pos hr, lay, lay]
      by_cases h0 : rk (x - E.2.1) = 0
      · rw [if_pos h0, if_pos h0]
      · rw [if_neg h0, if_neg h0, vu_n (by omega)]
    · rw [if_neg hr, if_neg hr]
theorem layO_fl {k j : Nat} (v : Int32) (h : j ≠ k) : layO E ad (va_up fl k v) j = layO E ad fl j := by
  unfold layO
  split <;> first | rfl | rw [vu_n h]
theorem cw_upf {k : Nat} {v : Int32} {e : va_E} (h : rk k = 0 ∧ k < 53) (he : layO E ad (va_up fl k v) k = some e) : gm_up (cW E ad N ρ fl) (E.2.1 + k) e = cW E ad N ρ (va_up fl k v) := by
  funext x
  simp only [gm_up, cW]
  by_cases hx : x = E.2.1 + k
  · subst hx
    rw [if_pos rfl, if_pos (by omega), Nat.add_sub_cancel_left, lay, if_pos h.1, he]
  · rw [if_neg hx]
    by_cases hr : E.2.1 ≤ x ∧ x < E.2.1 + 53
    · rw [if_pos hr, if_pos hr, lay, lay, layO_fl v (by omega)]
    · rw [if_neg hr, if_neg hr]
end CW
/-! what a row stands for -/
def RV {F : Type} [Lean.Grind.CommRing F] (φ : Int → F) (g : Nat → Int64) (w : Int) (v : F) : Prop := ∃ r : Nat → Int, g = oF r ∧ (∀ j, j < 10 → -(w * 67108864) ≤ r j ∧ r j ≤ w * 67108864) ∧ φ (us r 0 10) = v
/-- the field, and the integers in it -/
def fk {F : Type} [Lean.Grind.CommRing F] (φ : Int → F) (inv : F → F) : Prop := ec_fld φ inv ∧ (∀ a b : Int, φ a = φ b ↔ a % (nP : Int) = b % (nP : Int)) ∧ ∃ n : Nat, n + 2 = nP ∧ ∀ a, inv a = fp_pw a n
def mP (ga gb : Nat → Int64) : Nat → Int64 := muW ga gb 0 2 (oF wzP)
section RVs
theorem us_lin (a b : Nat → Int) (c d : Int) (fr : Nat) : ∀ k, us (fun j => c * a j + d * b j) fr k = c * us a fr k + d * us b fr k
  | 0 => by simp [us]
  | k + 1 => by
    rw [us_s, us_s, us_s, us_lin a b c d fr k]
    generalize us a fr k = x
    generalize us b fr k = y
    grind
theorem RV.mul {F : Type} [Lean.Grind.CommRing F] {φ : Int → F} {inv : F → F} (h : fk φ inv) {g1 g2 : Nat → Int64} {w1 w2 : Int} {v1 v2 : F} (h1 : RV φ g1 w1 v1) (h2 : RV φ g2 w2 v2) (hw : w1 * w2 ≤ 100) (h0 : 0 ≤ w1 ∧ 0 ≤ w2) : RV φ (mP g1 g2) 1 (v1 * v2) ∧ ∃ r, mP g1 g2 = oF r ∧ rw1 r ∧ φ (us r 0 10) = v1 * v2 := by
  obtain ⟨a, rfl, ha, rfl⟩ := h1
  obtain ⟨b, rfl, hb, rfl⟩ := h2
  obtain ⟨r, r1, r2, r3⟩ := md_P.1 a b (w1 * 67108864) (w2 * 67108864) ha hb (by
    have e : w1 * 67108864 * (w2 * 67108864) = w1 * w2 * 4503599627370496 := by grind
    rw [e]
    omega)
  have e : φ (us r 0 10) = φ (us a 0 10) * φ (us b 0 10) := by
    rw [← h.1.1.2.1]
    exact (h.2.1 _ _).mpr r3
  refine ⟨⟨r, r1, fun j hj => ?_, e⟩, r, r1, r2, e⟩
  have := rw1_b r2 j hj
  omega
theorem RV.sub {F : Type} [Lean.Grind.CommRing F] {φ : Int → F} {inv : F → F} (h : fk φ inv) {g1 g2 : Nat → Int64} {w1 w2 : Int} {v1 v2 : F} (h1 : RV φ g1 w1 v1) (h2 : RV φ g2 w2 v2) : RV φ (fun j => g1 j - g2 j) (w1 + w2) (v1 - v2) := by
  obtain ⟨a, rfl, ha, rfl⟩ := h1
  obtain ⟨b, rfl, hb, rfl⟩ := h2
  refine ⟨fun j => 1 * a j + (-1) * b j, ?_, fun j hj => ?_, ?_⟩
  · funext j
    show Int64.ofInt (a j) - Int64.ofInt (b j) = Int64.ofInt (1 * a j + -1 * b j)
    rw [← Int64.ofInt_sub]
    congr 1
    omega
  · have := ha j hj
    have := hb j hj
    rw [Int.add_mul]
    show _ ≤ 1 * a j + (-1) * b j ∧ 1 * a j + (-1) * b j ≤ _
    omega
  · rw [us_lin, ← h.1.1.s]
    congr 1
    omega
theorem RV.scale {F : Type} [Lean.Grind.CommRing F] {φ : Int → F} {inv : F → F} (h : fk φ inv) {g1 : Nat → Int64} {w1 : Int} {v1 : F} (h1 : RV φ g1 w1 v1) (c : Int) (hc : 0 ≤ c) : RV φ (fun j => g1 j * Int64.ofInt c) (c * w1) (φ c * v1) := by
  obtain ⟨a, rfl, ha, rfl⟩ := h1
  refine ⟨fun j => c * a j + 0 * a j, ?_, fun j hj => ?_, ?_⟩
  · funext j
    show Int64.ofInt (a j) * Int64.ofInt c = Int64.ofInt (c * a j + 0 * a j)
    rw [← Int64.ofInt_mul]
    congr 1
    rw [Int.mul_comm]
    omega
  · have := ha j hj
    have h2 := Int.mul_le_mul_of_nonneg_left this.2 hc
    have h3 := Int.mul_le_mul_of_nonneg_left this.1 hc
    rw [Int.mul_neg] at h3
    rw [Int.mul_assoc]
    show _ ≤ c * a j + 0 * a j ∧ c * a j + 0 * a j ≤ _
    omega
  · rw [us_lin, ← h.1.1.2.1]
    congr 1
    omega
theorem RV.up {F : Type} [Lean.Grind.CommRing F] {φ : Int → F} {g : Nat → Int64} {w w' : Int} {v : F} (h : RV φ g w v) (hw : w ≤ w') : RV φ g w' v := by
  obtain ⟨a, h1, h2, h3⟩ := h
  refine ⟨a, h1, fun j hj => ?_, h3⟩
  have := h2 j hj
  have := Int.mul_le_mul_of_nonneg_right hw (show (0 : Int) ≤ 67108864 by omega)
  omega
theorem RV.of {F : Type} [Lean.Grind.CommRing F] (φ : Int → F) {m : Int} {r : Nat → Int} (h : sett m r) : RV φ (oF r) 1 (φ (us r 0 10)) := ⟨r, rfl, fun j hj => by have := sett_b h j hj; omega, rfl⟩
end RVs
