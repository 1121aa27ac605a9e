/-! THE LEAVES OVER THE CLASS'S MEMORY: rows are named by their places, contents by what they stand for -/
/-- the integers in a ring, modulo m -/
def fm {F : Type} [Lean.Grind.CommRing F] (φ : Int → F) (m : Int) : Prop := ec_hom φ ∧ ∀ a b : Int, φ a = φ b ↔ a % m = b % m
theorem fk.fm {F : Type} [Lean.Grind.CommRing F] {φ : Int → F} {inv : F → F} (h : fk φ inv) : fm φ nP := ⟨h.1.1, h.2.1⟩
def ST {F : Type} [Lean.Grind.CommRing F] (φ : Int → F) (m : Int) (g : Nat → Int64) (v : F) : Prop := ∃ r : Nat → Int, g = oF r ∧ sett m r ∧ φ (us r 0 10) = v
theorem ST.rv {F : Type} [Lean.Grind.CommRing F] {φ : Int → F} {m : Int} {g : Nat → Int64} {v : F} (h : ST φ m g v) : RV φ g 1 v := by
  obtain ⟨r, rfl, h2, rfl⟩ := h
  exact RV.of φ h2
theorem RV.ml {F : Type} [Lean.Grind.CommRing F] {φ : Int → F} {m : Int} {bb : Int32} {nw nr : Nat} {wv rv : Nat → Int64} (D : MDs m bb nw wv nr rv) (h : fm φ m) {g1 g2 : Nat → Int64} {w1 w2 : Int} {v1 v2 : F} (h1 : RV φ g1 w1 v1) (h2 : RV φ g2 w2 v2) (hw : w1 * w2 ≤ 100) : RV φ (muW g1 g2 bb nw wv) 1 (v1 * v2) := by
  obtain ⟨a, rfl, ha, rfl⟩ := h1
  obtain ⟨b, rfl, hb, rfl⟩ := h2
  obtain ⟨r, r1, r2, r3⟩ := D.1 a b (w1 * 67108864) (w2 * 67108864) ha hb (by
    have e : w1 * 67108864 * (w2 * 67108864) = w1 * w2 * 4503599627370496 := by grind
    rw [e]
    omega)
  have e : φ (us r 0 10) = φ (us a 0 10) * φ (us b 0 10) := by
    rw [← h.1.2.1]
    exact (h.2 _ _).mpr r3
  refine ⟨r, r1, fun j hj => ?_, e⟩
  have := rw1_b r2 j hj
  omega
theorem RV.sb {F : Type} [Lean.Grind.CommRing F] {φ : Int → F} (h : ec_hom φ) {g1 g2 : Nat → Int64} {w1 w2 : Int} {v1 v2 : F} (h1 : RV φ g1 w1 v1) (h2 : RV φ g2 w2 v2) : RV φ (fun j => g1 j - g2 j) (w1 + w2) (v1 - v2) := by
  obtain ⟨a, rfl, ha, rfl⟩ := h1
  obtain ⟨b, rfl, hb, rfl⟩ := h2
  refine ⟨fun j => 1 * a j + (-1) * b j, ?_, fun j hj => ?_, ?_⟩
  · funext j
    show Int64.ofInt (a j) - Int64.ofInt (b j) = Int64.ofInt (1 * a j + -1 * b j)
    rw [← Int64.ofInt_sub]
    congr 1
    omega
  · have := ha j hj
    have := hb j hj
    rw [Int.add_mul]
    show _ ≤ 1 * a j + (-1) * b j ∧ 1 * a j + (-1) * b j ≤ _
    omega
  · rw [us_lin, ← h.s]
    congr 1
    omega
theorem RV.ad {F : Type} [Lean.Grind.CommRing F] {φ : Int → F} (h : ec_hom φ) {g1 g2 : Nat → Int64} {w1 w2 : Int} {v1 v2 : F} (h1 : RV φ g1 w1 v1) (h2 : RV φ g2 w2 v2) : RV φ (fun j => g1 j + g2 j) (w1 + w2) (v1 + v2) := by
  obtain ⟨a, rfl, ha, rfl⟩ := h1
  obtain ⟨b, rfl, hb, rfl⟩ := h2
  refine ⟨fun j => 1 * a j + 1 * b j, ?_, fun j hj => ?_, ?_⟩
  · funext j
    show Int64.ofInt (a j) + Int64.ofInt (b j) = Int64.ofInt (1 * a j + 1 * b j)
    rw [← Int64.ofInt_add]
    congr 1
    omega
  · have := ha j hj
    have := hb j hj
    rw [Int.add_mul]
    show _ ≤ 1 * a j + 1 * b j ∧ 1 * a j + 1 * b j ≤ _
    omega
  · rw [us_lin, ← h.1]
    congr 1
    omega
theorem RV.sl {F : Type} [Lean.Grind.CommRing F] {φ : Int → F} (h : ec_hom φ) {g1 : Nat → Int64} {w1 : Int} {v1 : F} (h1 : RV φ g1 w1 v1) (c : Int) (hc : 0 ≤ c) : RV φ (fun j => g1 j * Int64.ofInt c) (c * w1) (φ c * v1) := by
  obtain ⟨a, rfl, ha, rfl⟩ := h1
  refine ⟨fun j => c * a j + 0 * a j, ?_, fun j hj => ?_, ?_⟩
  · funext j
    show Int64.ofInt (a j) * Int64.ofInt c = Int64.ofInt (c * a j + 0 * a j)
    rw [← Int64.ofInt_mul]
    congr 1
    rw [Int.mul_comm]
    omega
  · have := ha j hj
    have h2 := Int.mul_le_mul_of_nonneg_left this.2 hc
    have h3 := Int.mul_le_mul_of_nonneg_left this.1 hc
    rw [Int.mul_neg] at h3
    rw [Int.mul_assoc]
    show _ ≤ c * a j + 0 * a j ∧ c * a j + 0 * a j ≤ _
    omega
  · rw [us_lin, ← h.2.1]
    congr 1
    omega
theorem RV.st {F : Type} [Lean.Grind.CommRing F] {φ : Int → F} {m : Int} {bb : Int32} {nw nr : Nat} {wv rv : Nat → Int64} (D : MDs m bb nw wv nr rv) (h : fm φ m) {g : Nat → Int64} {w : Int} {v : F} (h1 : RV φ g w v) (hw : w ≤ 100) : ST φ m (seF g nr rv) v := by
  obtain ⟨a, rfl, ha, rfl⟩ := h1
  obtain ⟨r, r1, r2, r3⟩ := D.2.1 a (fun j hj => by have := ha j hj; omega)
  refine ⟨r, r1, r2, (h.2 _ _).mpr ?_⟩
  rw [r3, Int.emod_emod]
theorem ph_pow {F : Type} [Lean.Grind.CommRing F] {φ : Int → F} (h : ec_hom φ) (a : Int) : ∀ n : Nat, φ (a ^ n) = fp_pw (φ a) n
  | 0 => by
    rw [Int.pow_zero, h.2.2]
    rfl
  | n + 1 => by
    rw [Int.pow_succ, h.2.1, ph_pow h a n]
    rfl
theorem RV.pw {F : Type} [Lean.Grind.CommRing F] {φ : Int → F} {m : Int} {bb : Int32} {nw nr : Nat} {wv rv ev : Nat → Int64} (D : MDs m bb nw wv nr rv) (h : fm φ m) {g : Nat → Int64} {w : Int} {v : F} (h1 : RV φ g w v) (hw : w ≤ 10) : RV φ (poS bb nw wv g ev sZ 256) 1 (fp_pw v (NV ev)) := by
  obtain ⟨a, rfl, ha, rfl⟩ := h1
  obtain ⟨r, r1, r2, r3, -⟩ := po_ok D (ev := ev) (a := a) (fun j hj => by have := ha j hj; omega) 256 (Nat.le_refl _)
  refine ⟨r, r1, fun j hj => by have := r2 j hj; omega, ?_⟩
  rw [← ph_pow h.1]
  refine (h.2 _ _).mpr ?_
  rw [r3, Nat.sub_self, Nat.pow_zero, Nat.div_one]
theorem st_dg {m : Int} {r : Nat → Int} (h : sett m r) : ∀ j, j < 10 → 0 ≤ r j ∧ r j < 67108864 := fun j hj => by
  rcases Nat.lt_or_ge j 9 with q | q
  · exact h.1 j q
  · obtain rfl : j = 9 := by omega
    have := h.2.1
    omega
theorem of_0 {x : Int} (h : 0 ≤ x ∧ x < 67108864) (e : Int64.ofInt x = 0) : x = 0 := by
  have h1 := congrArg Int64.toInt e
  rw [Int64.toInt_ofInt_of_le (by omega) (by omega)] at h1
  exact h1
theorem us_0 {r : Nat → Int} (h : ∀ j, j < 10 → r j = 0) : ∀ k, k ≤ 10 → us r 0 k = 0
  | 0, _ => rfl
  | k + 1, hk => by
    rw [us_s, us_0 h k (by omega), Nat.zero_add, h k (by omega), Int.zero_mul, Int.add_zero]
theorem us_nn {r : Nat → Int} (h : ∀ j, j < 10 → 0 ≤ r j) : ∀ k, k ≤ 10 → 0 ≤ us r 0 k
  | 0, _ => Int.le_refl _
  | k + 1, hk => by
    rw [us_s, Nat.zero_add]
    exact Int.add_nonneg (us_nn h k (by omega)) (Int.mul_nonneg (h k (by omega)) (Int.le_of_lt (tp_pos k)))
theorem us_z {r : Nat → Int} (h : ∀ j, j < 10 → 0 ≤ r j) : ∀ k, k ≤ 10 → us r 0 k = 0 → ∀ j, j < k → r j = 0
  | 0, _, _, j, hj => by omega
  | k + 1, hk, e, j, hj => by
    rw [us_s, Nat.zero_add] at e
    have h1 := us_nn h k (by omega)
    have h2 := Int.mul_nonneg (h k (by omega)) (Int.le_of_lt (tp_pos k))
    rcases Nat.lt_or_ge j k with q | q
    · exact us_z h k (by omega) (by omega) j q
    · obtain rfl : j = k := by omega
      have h3 : r j * tp j = 0 := by omega
      rcases Int.mul_eq_zero.mp h3 with z | z
      · exact z
      · exact absurd z (Int.ne_of_gt (tp_pos j))
theorem ST.z {F : Type} [Lean.Grind.CommRing F] {φ : Int → F} {m : Int} (h : fm φ m) {g : Nat → Int64} {v : F} (hs : ST φ m g v) : (∀ j, j < 10 → g j = 0) ↔ v = 0 := by
  obtain ⟨r, rfl, h2, rfl⟩ := hs
  have hd := st_dg h2
  have hn := us_nn (fun j hj => (hd j hj).1) 10 (Nat.le_refl _)
  constructor
  · intro e
    have : us r 0 10 = 0 := us_0 (fun j hj => of_0 (hd j hj) (e j hj)) 10 (Nat.le_refl _)
    rw [this, h.1.z]
  · intro e j hj
    rw [← h.1.z] at e
    have e1 := (h.2 _ _).mp e
    rw [Int.emod_eq_of_lt hn h2.2.2, Int.zero_emod] at e1
    show Int64.ofInt (r j) = 0
    rw [us_z (fun j hj => (hd j hj).1) 10 (Nat.le_refl _) e1 j hj]
    decide
/-! places -/
abbrev r10 (k : Nat) : Prop := rk k = 10 ∧ 10 ≠ 0 ∧ k < 53
abbrev r4 (k : Nat) : Prop := rk k = 4 ∧ 4 ≠ 0 ∧ k < 53
/-- what stays: all but the row t and the rows of the modulus at k -/
def kp (k t : Nat) (ρ ρ' : Nat → Nat → Int64) : Prop := ∀ j, j ≠ t → ¬ (k < j ∧ j < k + 5) → ρ' j = ρ j
def kq (t : Nat) (ρ ρ' : Nat → Nat → Int64) : Prop := ∀ j, j ≠ t → ρ' j = ρ j
/-- a modulus at the place k -/
def isM (E : gm_E) (ad : Nat → Nat) (k : Nat) (m : Int) (b : Int32) (nw : Nat) (wv : Nat → Int64) (nr : Nat) (rv pv ev : Nat → Int64) : Prop :=
  ((rk (k + 1) = 20 ∧ 20 ≠ 0 ∧ k + 1 < 53) ∧ r10 (k + 2) ∧ r10 (k + 3) ∧ r10 (k + 4)) ∧ MDs m b nw wv nr rv ∧ ((NV pv : Int) = m ∧ (NV ev : Int) + 2 = m) ∧ stA E "ZERO" (ad 0) 4 sZ ∧ ∃ pa pl re wr, (∀ N ρ fl, cW E ad N ρ fl (E.2.1 + k) = some (MO pa pl re wr b (E.2.1 + (k + 1)) (E.2.1 + (k + 2)) (E.2.1 + (k + 3)) (E.2.1 + (k + 4)))) ∧ E.2.2.1 pa = some (4, pv) ∧ E.2.2.1 pl = some (4, ev) ∧ E.2.2.1 re = some (nr, rv) ∧ E.2.2.1 wr = some (nw, wv)
theorem isM_P {E : gm_E} {ad : Nat → Nat} (h : gE E ad) : isM E ad 11 nP 0 2 (oF wzP) 2 (oF rzP) sP sP2 := by
  obtain ⟨h0, h1, h2, h3, h4, h5, h6, h7, h8, h9, h10, h11⟩ := h
  exact ⟨by decide, md_P, ⟨by rw [sP_v]; decide +kernel, by rw [sP2_v]; decide +kernel⟩, h0, _, _, _, _, fun N ρ fl => cw_obj ⟨rfl, by decide⟩ rfl, h1.2, h2.2, h8.2, h9.2⟩
theorem isM_N {E : gm_E} {ad : Nat → Nat} (h : gE E ad) : isM E ad 16 nN 1 6 (oF wzN) 5 (oF rzN) sN sN2 := by
  obtain ⟨h0, h1, h2, h3, h4, h5, h6, h7, h8, h9, h10, h11⟩ := h
  exact ⟨by decide, md_N, ⟨by rw [sN_v]; decide +kernel, by rw [sN2_v]; decide +kernel⟩, h0, _, _, _, _, fun N ρ fl => cw_obj ⟨rfl, by decide⟩ rfl, h4.2, h5.2, h10.2, h11.2⟩
theorem cw_ne {E : gm_E} {a b : Nat} (h : a ≠ b) : E.2.1 + a ≠ E.2.1 + b := fun q => h (Nat.add_left_cancel q)
/-- weaker words for a contract's end -/
theorem cv_.mono {l : Launch} {y : MethodName} {cc : ByteArray} {maxL : Nat} {ret : Option FieldType} {rm : Room} {E : gm_E} {M : gm_M} {av : List Value} {po po' : gm_M → Prop} (h : cv_ l y cc maxL ret rm E M av po) (hh : ∀ M', po M' → po' M') : cv_ l y cc maxL ret rm E M av po' := by
  intro p e h1 h2 h3 s m args below h4 h5 h6 h7
  obtain ⟨n, o, a1, a2, a3, ⟨⟨u, b1, b2, b3⟩, b4⟩, a5⟩ := h p e h1 h2 h3 s m args below h4 h5 h6 h7
  exact ⟨n, o, a1, a2, a3, ⟨⟨u, b1, hh u b2, b3⟩, b4⟩, a5⟩
theorem ci_.mono {l : Launch} {y : MethodName} {cc : ByteArray} {maxL : Nat} {ret : Option FieldType} {rm : Room} {E : gm_E} {M : gm_M} {av : List Value} {po po' : Int32 → gm_M → Prop} (h : ci_ l y cc maxL ret rm E M av po) (hh : ∀ r M', po r M' → po' r M') : ci_ l y cc maxL ret rm E M av po' := by
  intro p e h1 h2 h3 s m args below h4 h5 h6 h7
  obtain ⟨n, o, a1, a2, a3, ⟨⟨r, u, b1, b2, b3⟩, b4⟩, a5⟩ := h p e h1 h2 h3 s m args below h4 h5 h6 h7
  exact ⟨n, o, a1, a2, a3, ⟨⟨r, u, b1, hh r u b2, b3⟩, b4⟩, a5⟩
section KC
variable {E : gm_E} {ad : Nat → Nat} {N : gm_M} {ρ : Nat → Nat → Int64} {fl : Nat → Int32}
theorem k_copy (l : Launch) {t a : Nat} (ht : r10 t) (ha : r10 a) : cv_ l y_Lim_copy b_Lim_copy 2 none { frames := 1, cells := 0, slots := 0, locals := nativeFrameWords "java/lang/System" "arraycopy" 5 + 11 } E (cW E ad N ρ fl) [.ref (E.2.1 + t), .ref (E.2.1 + a)] (fun M' => ∃ ρ', M' = cW E ad N ρ' fl ∧ ρ' t = ρ a ∧ kq t ρ ρ') :=
  cv_.mono (c_Lim_copy l E _ (cw_row ht) (cw_ge _) (cw_row ha) (by decide)) (fun M' h => ⟨_, h.trans (cw_upr _ ht), vu_s, fun j hj => vu_n hj⟩)
theorem k_minus {F : Type} [Lean.Grind.CommRing F] {φ : Int → F} (l : Launch) (hf : ec_hom φ) {t a b : Nat} {w1 w2 : Int} {v1 v2 : F} (ht : r10 t) (ha : r10 a) (hb : r10 b) (h1 : RV φ (ρ a) w1 v1) (h2 : RV φ (ρ b) w2 v2) : cv_ l y_Lim_minus b_Lim_minus 4 none { frames := 0, cells := 0, slots := 0, locals := 0 } E (cW E ad N ρ fl) [.ref (E.2.1 + t), .ref (E.2.1 + a), .ref (E.2.1 + b)] (fun M' => ∃ ρ', M' = cW E ad N ρ' fl ∧ RV φ (ρ' t) (w1 + w2) (v1 - v2) ∧ kq t ρ ρ') :=
  cv_.mono (c_Lim_minus l E _ (cw_row ht) (cw_ge _) (cw_row ha) (cw_row hb)) (fun M' h => ⟨_, h.trans (cw_upr _ ht), by rw [vu_s]; exact RV.sb hf h1 h2, fun j hj => vu_n hj⟩)
theorem k_plus {F : Type} [Lean.Grind.CommRing F] {φ : Int → F} (l : Launch) (hf : ec_hom φ) {t a b : Nat} {w1 w2 : Int} {v1 v2 : F} (ht : r10 t) (ha : r10 a) (hb : r10 b) (h1 : RV φ (ρ a) w1 v1) (h2 : RV φ (ρ b) w2 v2) : cv_ l y_Lim_plus b_Lim_plus 4 none { frames := 0, cells := 0, slots := 0, locals := 0 } E (cW E ad N ρ fl) [.ref (E.2.1 + t), .ref (E.2.1 + a), .ref (E.2.1 + b)] (fun M' => ∃ ρ', M' = cW E ad N ρ' fl ∧ RV φ (ρ' t) (w1 + w2) (v1 + v2) ∧ kq t ρ ρ') :=
  cv_.mono (c_Lim_plus l E _ (cw_row ht) (cw_ge _) (cw_row ha) (cw_row hb)) (fun M' h => ⟨_, h.trans (cw_upr _ ht), by rw [vu_s]; exact RV.ad hf h1 h2, fun j hj => vu_n hj⟩)
theorem k_scale {F : Type} [Lean.Grind.CommRing F] {φ : Int → F} (l : Launch) (hf : ec_hom φ) {t a : Nat} {w1 : Int} {v1 c' : F} {z : Int64} (c : Int) (hz : z = Int64.ofInt c) (hc : 0 ≤ c) (hc' : φ c = c') (ht : r10 t) (ha : r10 a) (h1 : RV φ (ρ a) w1 v1) : cv_ l y_Lim_scale b_Lim_scale 5 none { frames := 0, cells := 0, slots := 0, locals := 0 } E (cW E ad N ρ fl) [.ref (E.2.1 + t), .ref (E.2.1 + a), .long z] (fun M' => ∃ ρ', M' = cW E ad N ρ' fl ∧ RV φ (ρ' t) (c * w1) (c' * v1) ∧ kq t ρ ρ') := by
  subst hz hc'
  exact cv_.mono (c_Lim_scale l E _ _ (cw_row ht) (cw_ge _) (cw_row ha)) (fun M' h => ⟨_, h.trans (cw_upr _ ht), by rw [vu_s]; exact RV.sl hf h1 c hc, fun j hj => vu_n hj⟩)
theorem k_unpack (l : Launch) {t x : Nat} {f : Nat → Int64} (ht : r10 t) (hp : rdL E (cW E ad N ρ fl) x 4 f) : cv_ l y_Lim_unpack b_Lim_unpack 7 none { frames := 0, cells := 0, slots := 0, locals := 0 } E (cW E ad N ρ fl) [.ref (E.2.1 + t), .ref x] (fun M' => ∃ ρ', M' = cW E ad N ρ' fl ∧ ρ' t = unF f ∧ kq t ρ ρ') :=
  cv_.mono (c_Lim_unpack l E _ (cw_row ht) (cw_ge _) hp) (fun M' h => ⟨_, h.trans (cw_upr _ ht), vu_s, fun j hj => vu_n hj⟩)
theorem k_pack (l : Launch) {t a : Nat} (ht : r4 t) (ha : r10 a) : cv_ l y_Lim_pack b_Lim_pack 5 none { frames := 0, cells := 0, slots := 0, locals := 0 } E (cW E ad N ρ fl) [.ref (E.2.1 + t), .ref (E.2.1 + a)] (fun M' => ∃ ρ', M' = cW E ad N ρ' fl ∧ ρ' t = pkF (ρ a) ∧ kq t ρ ρ') :=
  cv_.mono (c_Lim_pack l E _ (cw_row ht) (cw_ge _) (cw_row ha)) (fun M' h => ⟨_, h.trans (cw_upr _ ht), vu_s, fun j hj => vu_n hj⟩)
theorem RV.un {F : Type} [Lean.Grind.CommRing F] (φ : Int → F) (f : Nat → Int64) : RV φ (unF f) 1 (φ (NV f)) := by
  obtain ⟨r, h1, h2, h3, h4⟩ := unF_ok f
  refine ⟨r, h1, fun j hj => ?_, by rw [h4]⟩
  rcases Nat.lt_or_ge j 9 with q | q
  · have := h2 j q
    omega
  · obtain rfl : j = 9 := by omega
    omega
theorem ST.un {F : Type} [Lean.Grind.CommRing F] (φ : Int → F) {m : Int} {f : Nat → Int64} (h : (NV f : Int) < m) : ST φ m (unF f) (φ (NV f)) := by
  obtain ⟨r, h1, h2, h3, h4⟩ := unF_ok f
  exact ⟨r, h1, ⟨h2, h3, by rw [h4]; exact h⟩, by rw [h4]⟩
/-- what is packed from a settled row -/
theorem ST.pk {F : Type} [Lean.Grind.CommRing F] {φ : Int → F} {m : Int} {g : Nat → Int64} {v : F} (hf : fm φ m) (h : ST φ m g v) : (NV (pkF g) : Int) < m ∧ φ (NV (pkF g)) = v := by
  obtain ⟨r, rfl, h2, rfl⟩ := h
  have := pkF_ok h2.1 h2.2.1
  rw [this]
  exact ⟨h2.2.2, rfl⟩
variable {k : Nat} {m : Int} {bb : Int32} {nw nr : Nat} {wv rv pv ev : Nat → Int64}
theorem k_mul {F : Type} [Lean.Grind.CommRing F] {φ : Int → F} (l : Launch) (I : isM E ad k m bb nw wv nr rv pv ev) (hf : fm φ m) {t a b : Nat} {w1 w2 : Int} {v1 v2 : F} (ht : r10 t) (ha : r10 a) (hb : r10 b) (h1 : RV φ (ρ a) w1 v1) (h2 : RV φ (ρ b) w2 v2) (hw : w1 * w2 ≤ 100) : cv_ l y_Mod_multiply b_Mod_multiply 4 none { frames := 2, cells := 0, slots := 0, locals := 62 } E (cW E ad N ρ fl) [.ref (E.2.1 + k), .ref (E.2.1 + t), .ref (E.2.1 + a), .ref (E.2.1 + b)] (fun M' => ∃ ρ', M' = cW E ad N ρ' fl ∧ RV φ (ρ' t) 1 (v1 * v2) ∧ kp k t ρ ρ') := by
  obtain ⟨⟨i1, i2, i3, i4⟩, D, -, -, pa, pl, re, wr, i5, i6, i7, i8, i9⟩ := I
  refine cv_.mono (c_Mod_multiply l E _ (i5 _ _ _) i9 (cw_ge _) (cw_row i1) D.2.2.1 (cw_row ht) (cw_ge _) (cw_row ha) (cw_row hb)) (fun M' h => ?_)
  rw [cw_upr _ i1, cw_upr _ ht] at h
  refine ⟨_, h, by rw [vu_s]; exact RV.ml D hf h1 h2 hw, fun j hj hk => ?_⟩
  rw [vu_n hj, vu_n (by omega)]
theorem k_settle {F : Type} [Lean.Grind.CommRing F] {φ : Int → F} (l : Launch) (I : isM E ad k m bb nw wv nr rv pv ev) (hf : fm φ m) {t : Nat} {w1 : Int} {v1 : F} (ht : r10 t) (hne : ¬ (k < t ∧ t < k + 5)) (h1 : RV φ (ρ t) w1 v1) (hw : w1 ≤ 100) : cv_ l y_Mod_settle b_Mod_settle 3 none { frames := 2, cells := 0, slots := 0, locals := 49 } E (cW E ad N ρ fl) [.ref (E.2.1 + k), .ref (E.2.1 + t)] (fun M' => ∃ ρ', M' = cW E ad N ρ' fl ∧ ST φ m (ρ' t) v1 ∧ kp k t ρ ρ') := by
  obtain ⟨⟨i1, i2, i3, i4⟩, D, -, -, pa, pl, re, wr, i5, i6, i7, i8, i9⟩ := I
  refine cv_.mono (c_Mod_settle l E _ (i5 _ _ _) i8 (cw_ge _) (cw_row ht) (cw_ge _) (cw_row i2) (cw_ne (by omega)) D.2.2.2.1) (fun M' h => ?_)
  obtain ⟨te, h⟩ := h
  rw [cw_upr _ i2, cw_upr _ ht] at h
  refine ⟨_, h, by rw [vu_s]; exact RV.st D hf h1 hw, fun j hj hk => ?_⟩
  rw [vu_n hj, vu_n (by omega)]
theorem k_power {F : Type} [Lean.Grind.CommRing F] {φ : Int → F} (l : Launch) (I : isM E ad k m bb nw wv nr rv pv ev) (hf : fm φ m) {t a x : Nat} {w1 : Int} {v1 : F} {xv : Nat → Int64} (ht : r10 t) (hne : ¬ (k < t ∧ t < k + 5)) (ha : r10 a) (h1 : RV φ (ρ a) w1 v1) (hw : w1 ≤ 10) (hx : rdL E (cW E ad N ρ fl) x 4 xv) : cv_ l y_Mod_power b_Mod_power 5 none { frames := 3, cells := 0, slots := 0, locals := 85 } E (cW E ad N ρ fl) [.ref (E.2.1 + k), .ref (E.2.1 + t), .ref (E.2.1 + a), .ref x] (fun M' => ∃ ρ', M' = cW E ad N ρ' fl ∧ RV φ (ρ' t) 1 (fp_pw v1 (NV xv)) ∧ kp k t ρ ρ') := by
  obtain ⟨⟨i1, i2, i3, i4⟩, D, -, i0, pa, pl, re, wr, i5, i6, i7, i8, i9⟩ := I
  refine cv_.mono (c_Mod_power l E _ (i5 _ _ _) i9 D.2.2.1 (cw_ge _) (cw_row i1) (cw_ge _) (cw_row ht) (cw_ge _) (cw_row i4) (cw_row ha) (cw_ne (by omega)) hx i0) (fun M' h => ?_)
  obtain ⟨te, h⟩ := h
  rw [cw_upr _ i4, cw_upr _ i1, cw_upr _ ht] at h
  refine ⟨_, h, by rw [vu_s]; exact RV.pw D hf h1 hw, fun j hj hk => ?_⟩
  rw [vu_n hj, vu_n (by omega), vu_n (by omega)]
theorem k_invert {F : Type} [Lean.Grind.CommRing F] {φ : Int → F} (l : Launch) (I : isM E ad k m bb nw wv nr rv pv ev) (hf : fm φ m) {t a : Nat} {w1 : Int} {v1 : F} (ht : r10 t) (hne : ¬ (k < t ∧ t < k + 5)) (ha : r10 a) (h1 : RV φ (ρ a) w1 v1) (hw : w1 ≤ 10) : cv_ l y_Mod_invert b_Mod_invert 3 none { frames := 4, cells := 0, slots := 0, locals := 109 } E (cW E ad N ρ fl) [.ref (E.2.1 + k), .ref (E.2.1 + t), .ref (E.2.1 + a)] (fun M' => ∃ ρ', M' = cW E ad N ρ' fl ∧ RV φ (ρ' t) 1 (fp_pw v1 (NV ev)) ∧ kp k t ρ ρ') := by
  obtain ⟨⟨i1, i2, i3, i4⟩, D, -, i0, pa, pl, re, wr, i5, i6, i7, i8, i9⟩ := I
  refine cv_.mono (c_Mod_invert l E _ (i5 _ _ _) i9 D.2.2.1 (cw_ge _) (cw_row i1) (cw_ge _) (cw_row ht) (cw_ge _) (cw_row i4) (cw_row ha) (cw_ne (by omega)) i7 i0) (fun M' h => ?_)
  obtain ⟨te, h⟩ := h
  rw [cw_upr _ i4, cw_upr _ i1, cw_upr _ ht] at h
  refine ⟨_, h, by rw [vu_s]; exact RV.pw D hf h1 hw, fun j hj hk => ?_⟩
  rw [vu_n hj, vu_n (by omega), vu_n (by omega)]
theorem k_isMultiple {F : Type} [Lean.Grind.CommRing F] {φ : Int → F} (l : Launch) (I : isM E ad k m bb nw wv nr rv pv ev) (hf : fm φ m) {a : Nat} {w1 : Int} {v1 : F} (ha : r10 a) (h1 : RV φ (ρ a) w1 v1) (hw : w1 ≤ 100) : ci_ l y_Mod_isMultiple b_Mod_isMultiple 2 (some .boolean) { frames := 3, cells := 0, slots := 0, locals := 71 } E (cW E ad N ρ fl) [.ref (E.2.1 + k), .ref (E.2.1 + a)] (fun r M' => ∃ ρ', M' = cW E ad N ρ' fl ∧ ((r = 1 ∧ v1 = 0) ∨ (r = 0 ∧ ¬ v1 = 0)) ∧ kp k (k + 1) ρ ρ') := by
  obtain ⟨⟨i1, i2, i3, i4⟩, D, -, i0, pa, pl, re, wr, i5, i6, i7, i8, i9⟩ := I
  refine ci_.mono (c_Mod_isMultiple l E _ (i5 _ _ _) i8 D.2.2.2.1 (cw_ge _) (cw_row i3) (cw_ge _) (cw_row i2) (cw_ne (by omega)) (cw_row ha)) (fun r M' h => ?_)
  obtain ⟨⟨te, ge, h⟩, h2⟩ := h
  rw [cw_upr _ i2, cw_upr _ i3] at h
  have hz := ST.z hf (RV.st D hf h1 hw)
  refine ⟨_, h, ?_, fun j hj hk => ?_⟩
  · rcases h2 with h2 | h2
    · exact Or.inl ⟨h2.1, hz.mp h2.2⟩
    · refine Or.inr ⟨h2.1, fun e => ?_⟩
      obtain ⟨j, hj, hn⟩ := h2.2
      exact hn (hz.mpr e j hj)
  · rw [vu_n (by omega), vu_n (by omega)]
theorem k_areCongruent {F : Type} [Lean.Grind.CommRing F] {φ : Int → F} (l : Launch) (I : isM E ad k m bb nw wv nr rv pv ev) (hf : fm φ m) {a b : Nat} {w1 w2 : Int} {v1 v2 : F} (ha : r10 a) (hb : r10 b) (h1 : RV φ (ρ a) w1 v1) (h2 : RV φ (ρ b) w2 v2) (hw : w1 + w2 ≤ 100) : ci_ l y_Mod_areCongruent b_Mod_areCongruent 3 (some .boolean) { frames := 3, cells := 0, slots := 0, locals := 71 } E (cW E ad N ρ fl) [.ref (E.2.1 + k), .ref (E.2.1 + a), .ref (E.2.1 + b)] (fun r M' => ∃ ρ', M' = cW E ad N ρ' fl ∧ ((r = 1 ∧ v1 = v2) ∨ (r = 0 ∧ ¬ v1 = v2)) ∧ kp k (k + 1) ρ ρ') := by
  obtain ⟨⟨i1, i2, i3, i4⟩, D, -, i0, pa, pl, re, wr, i5, i6, i7, i8, i9⟩ := I
  refine ci_.mono (c_Mod_areCongruent l E _ (i5 _ _ _) i8 D.2.2.2.1 (cw_ge _) (cw_row i3) (cw_ge _) (cw_row i2) (cw_ne (by omega)) (cw_row ha) (cw_row hb)) (fun r M' h => ?_)
  obtain ⟨⟨te, ge, h⟩, h3⟩ := h
  rw [cw_upr _ i2, cw_upr _ i3] at h
  have hz := ST.z hf (RV.st D hf (RV.sb hf.1 h1 h2) hw)
  refine ⟨_, h, ?_, fun j hj hk => ?_⟩
  · rcases h3 with h3 | h3
    · refine Or.inl ⟨h3.1, ?_⟩
      have := hz.mp h3.2
      grind
    · refine Or.inr ⟨h3.1, fun e => ?_⟩
      obtain ⟨j, hj, hn⟩ := h3.2
      exact hn (hz.mpr (by rw [e]; grind) j hj)
  · rw [vu_n (by omega), vu_n (by omega)]
theorem k_isAbove (l : Launch) (I : isM E ad k m bb nw wv nr rv pv ev) {x : Nat} {f : Nat → Int64} (hx : rdL E (cW E ad N ρ fl) x 4 f) : ci_ l y_Mod_isAbove b_Mod_isAbove 2 (some .boolean) { frames := 1, cells := 0, slots := 0, locals := 22 } E (cW E ad N ρ fl) [.ref (E.2.1 + k), .ref x] (fun r M' => M' = cW E ad N ρ fl ∧ ((r = 0 ∧ ¬ (NV f : Int) < m) ∨ (r = 1 ∧ (NV f : Int) < m))) := by
  obtain ⟨⟨i1, i2, i3, i4⟩, D, in1, i0, pa, pl, re, wr, i5, i6, i7, i8, i9⟩ := I
  refine ci_.mono (c_Mod_isAbove l E _ (i5 _ _ _) i6 hx) (fun r M' h => ⟨h.1, ?_⟩)
  have q := (ordF_ok f pv 4).2.1
  rw [NVk_4, NVk_4] at q
  rcases h.2 with h | h
  · refine Or.inl ⟨h.1, ?_⟩
    have := q.mp h.2
    omega
  · refine Or.inr ⟨h.1, ?_⟩
    have : ¬ NV pv ≤ NV f := fun z => h.2 (q.mpr z)
    omega
theorem k_areZero (l : Launch) (hz : stA E "ZERO" (ad 0) 4 sZ) {x : Nat} {f : Nat → Int64} (hx : rdL E (cW E ad N ρ fl) x 4 f) : ci_ l y_Par_areZero b_Par_areZero 1 (some .boolean) { frames := 1, cells := 0, slots := 0, locals := 22 } E (cW E ad N ρ fl) [.ref x] (fun r M' => M' = cW E ad N ρ fl ∧ ((r = 1 ∧ NV f = 0) ∨ (r = 0 ∧ ¬ NV f = 0))) := by
  refine ci_.mono (c_Par_areZero l E _ hx hz) (fun r M' h => ⟨h.1, ?_⟩)
  have q := (ordF_ok f sZ 4).1
  rw [NVk_4, NVk_4, sZ_v] at q
  rcases h.2 with h | h
  · exact Or.inl ⟨h.1, q.mp h.2⟩
  · exact Or.inr ⟨h.1, fun z => h.2 (q.mpr z)⟩
end KC
