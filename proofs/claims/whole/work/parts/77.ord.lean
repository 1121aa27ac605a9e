/-! N IS PRIME; N TIMES G IS NONE; so no number from 1 below N takes G to NONE. The ring of integers modulo N. -/
def np_a : Nat := 341948486974166000522343609283189
def np_b : Nat := 174723607534414371449
def np_c : Nat := 29047611873442575647497758179
def np_d : Nat := 297159362677
def np_1 : Nat := 1627771
def np_2 : Nat := 305873
def np_3 : Nat := 44706919
def np_4 : Nat := 120233
theorem np_1_P : nt_P np_1 := nt_small (k := 1280) (by decide +kernel) (by decide +kernel) (by decide +kernel)
theorem np_2_P : nt_P np_2 := nt_small (k := 560) (by decide +kernel) (by decide +kernel) (by decide +kernel)
set_option maxRecDepth 100000 in
theorem np_3_P : nt_P np_3 := nt_small (k := 6700) (by decide +kernel) (by decide +kernel) (by decide +kernel)
theorem np_4_P : nt_P np_4 := nt_small (k := 350) (by decide +kernel) (by decide +kernel) (by decide +kernel)
/-- one prime that is large enough; two -/
theorem np_one {n q f : Nat} (hn : 2 ≤ n) (hf : n < 2 ^ f) (hq : nt_P q) (hqn : (n - 1) % q = 0) (h1 : nt_pm f 2 (n - 1) n = 1) (h2 : Nat.gcd (nt_pm f 2 ((n - 1) / q) n + n - 1) n = 1) (hb : n < q * q) : nt_P n := by
  refine nt_prime_of hn fun r hr hrn => ?_
  have h := nt_pock (n := n) (a := 2) (f := f) hn hf hq hqn h1 h2 hr hrn
  have h3 := hr.1
  have hle := Nat.le_of_dvd (by omega) h
  refine Nat.lt_of_lt_of_le hb (Nat.mul_le_mul ?_ ?_) <;> omega
theorem np_two {n q w f : Nat} (hn : 2 ≤ n) (hf : n < 2 ^ f) (hq : nt_P q) (hw : nt_P w) (hne : q ≠ w) (hqn : (n - 1) % q = 0) (hwn : (n - 1) % w = 0) (h1 : nt_pm f 2 (n - 1) n = 1) (h2 : Nat.gcd (nt_pm f 2 ((n - 1) / q) n + n - 1) n = 1) (h4 : Nat.gcd (nt_pm f 2 ((n - 1) / w) n + n - 1) n = 1) (hb : n < (q * w) * (q * w)) : nt_P n := by
  refine nt_prime_of hn fun r hr hrn => ?_
  have a1 := nt_pock (n := n) (a := 2) (f := f) hn hf hq hqn h1 h2 hr hrn
  have a2 := nt_pock (n := n) (a := 2) (f := f) hn hf hw hwn h1 h4 hr hrn
  have h := Nat.Coprime.mul_dvd_of_dvd_of_dvd (nt_cop hq hw hne) a1 a2
  have h3 := hr.1
  have hle := Nat.le_of_dvd (by omega) h
  refine Nat.lt_of_lt_of_le hb (Nat.mul_le_mul ?_ ?_) <;> omega
theorem np_d_P : nt_P np_d := np_one (f := 64) (by decide +kernel) (by decide +kernel) np_1_P (by decide +kernel) (by decide +kernel) (by decide +kernel) (by decide +kernel)
theorem np_c_P : nt_P np_c := np_two (f := 128) (by decide +kernel) (by decide +kernel) np_d_P np_2_P (by decide +kernel) (by decide +kernel) (by decide +kernel) (by decide +kernel) (by decide +kernel) (by decide +kernel) (by decide +kernel)
theorem np_a_P : nt_P np_a := np_one (f := 128) (by decide +kernel) (by decide +kernel) np_c_P (by decide +kernel) (by decide +kernel) (by decide +kernel) (by decide +kernel)
theorem np_b_P : nt_P np_b := np_two (f := 128) (by decide +kernel) (by decide +kernel) np_3_P np_4_P (by decide +kernel) (by decide +kernel) (by decide +kernel) (by decide +kernel) (by decide +kernel) (by decide +kernel) (by decide +kernel)
theorem nN_P : nt_P nN := np_two (f := 256) (by decide +kernel) (by decide +kernel) np_a_P np_b_P (by decide +kernel) (by decide +kernel) (by decide +kernel) (by decide +kernel) (by decide +kernel) (by decide +kernel) (by decide +kernel)
theorem np_inv {p n : Nat} (hp : nt_P p) (h : ¬ p ∣ n) : ∃ k c, n * k = 1 + c * p := by
  have h1 := nt_fermat hp h
  have h2 := hp.1
  obtain ⟨e, rfl⟩ : ∃ e, p = e + 2 := ⟨p - 2, by omega⟩
  refine ⟨n ^ e, n ^ (e + 1) / (e + 2), ?_⟩
  have h3 : n ^ (e + 1) = n * n ^ e := Nat.pow_succ'
  have h4 := Nat.div_add_mod (n ^ (e + 1)) (e + 2)
  rw [show e + 2 - 1 = e + 1 by omega] at h1
  rw [h1] at h4
  rw [← h3, Nat.mul_comm (n ^ (e + 1) / (e + 2))]
  omega
theorem ec_nm_z {F : Type} [Lean.Grind.CommRing F] {φ : Int → F} {inv : F → F} (h : ec_fld φ inv) {p : Option (F × F)} (hp : ec_OK p) {n : Nat} (hn : ec_nm inv n p = none) : ∀ k, ec_nm inv (k * n) p = none
  | 0 => by rw [Nat.zero_mul]; rfl
  | k + 1 => by rw [Nat.add_mul, Nat.one_mul, ec_nm_add h hp, ec_nm_z h hp hn k, hn]; rfl
/-- a point that a prime takes to NONE -/
theorem ec_prime {F : Type} [Lean.Grind.CommRing F] {φ : Int → F} {inv : F → F} (h : ec_fld φ inv) {g : F × F} (hg : ec_on g) {q : Nat} (hq : nt_P q) (hz : ec_nm inv q (some g) = none) {n : Nat} (h0 : ¬ n = 0) (hn : n < q) : ∃ a, ec_nm inv n (some g) = some a := by
  have hok : ec_OK (some g) := fun a e => Option.some.inj e ▸ hg
  cases he : ec_nm inv n (some g) with
  | some a => exact ⟨a, rfl⟩
  | none =>
    obtain ⟨k, c, e⟩ := np_inv (n := n) hq (fun d => absurd (Nat.le_of_dvd (by omega) d) (by omega))
    have e1 := ec_nm_z h hok he k
    rw [Nat.mul_comm, e, ec_nm_add h hok, ec_nm_z h hok hz c, ec_none_add] at e1
    exact absurd e1 (by show ¬ ec_add inv none (some g) = none; rw [ec_add_none]; exact fun z => by cases z)
/-! n times G, with numbers -/
abbrev jS : Type := Option (Nat × Nat × Nat)
def jdb (s : jS) : jS := match s with
  | none => none
  | some (x, y, z) =>
    let r := 3 * (x * x) % nP
    let q := y * y % nP
    let m := 4 * (x * q) % nP
    let x3 := (r * r + (nP - m) + (nP - m)) % nP
    some (x3, (r * (m + (nP - x3)) + (nP - 8 * (q * q) % nP)) % nP, 2 * (z * y) % nP)
def jad (gx gy : Nat) (s : jS) : jS := match s with
  | none => some (gx, gy, 1)
  | some (x, y, z) =>
    let q := z * z % nP
    let d := (gx * q + (nP - x)) % nP
    let c := (gy * (q * z % nP) + (nP - y)) % nP
    if d = 0 then (if c = 0 then jdb s else none) else
    let dd := d * d % nP
    let d3 := dd * d % nP
    let m := x * dd % nP
    let x3 := (c * c + (nP - d3) + (nP - m) + (nP - m)) % nP
    some (x3, (c * (m + (nP - x3)) + (nP - y * d3 % nP)) % nP, z * d % nP)
def jst (gx gy : Nat) (b : Nat) (s : jS) : jS := match b with
  | 0 => jdb s
  | _ + 1 => jad gx gy (jdb s)
def jmu (gx gy n : Nat) : Nat → jS
  | 0 => none
  | k + 1 => jst gx gy (n / 2 ^ (255 - k) % 2) (jmu gx gy n k)
def jR {F : Type} [Lean.Grind.CommRing F] (φ : Int → F) (s : jS) (p : Option (F × F)) : Prop := match s, p with
  | none, none => True
  | some (x, y, z), some a => ec_on a ∧ x < nP ∧ y < nP ∧ z < nP ∧ jr a (φ x) (φ y) (φ z)
  | _, _ => False
theorem ph_n {F : Type} [Lean.Grind.CommRing F] {φ : Int → F} (hf : fm φ nP) (x : Nat) : φ ((x % nP : Nat) : Int) = φ (x : Int) := by
  refine (hf.2 _ _).mpr ?_
  rw [Int.natCast_emod, Int.emod_emod]
theorem ph_s {F : Type} [Lean.Grind.CommRing F] {φ : Int → F} (hf : fm φ nP) {x : Nat} (h : x ≤ nP) : φ ((nP - x : Nat) : Int) = 0 - φ (x : Int) := by
  have hz : φ (nP : Int) = 0 := by
    rw [← hf.1.z]
    exact (hf.2 _ _).mpr (by rw [Int.emod_self, Int.zero_emod])
  rw [show ((nP - x : Nat) : Int) = (nP : Int) - x by omega, hf.1.s, hz]
theorem np_lt (x : Nat) : x % nP < nP := Nat.mod_lt _ fP_pos
theorem np_le (x : Nat) : x % nP ≤ nP := Nat.le_of_lt (np_lt x)
theorem jdb_ok {F : Type} [Lean.Grind.CommRing F] {φ : Int → F} {inv : F → F} (h : fk φ inv) {s : jS} {p : Option (F × F)} (hs : jR φ s p) : jR φ (jdb s) (ec_add inv p p) := by
  have hf := h.fm
  match s, p, hs with
  | none, none, _ => trivial
  | some (x, y, z), some a, hs =>
    obtain ⟨ho, hx, hy, hz, hj⟩ := hs
    rw [ec_add_db]
    refine ⟨ec_db_on ho (ec_tang h.1 ho), np_lt _, np_lt _, np_lt _, ?_⟩
    have := jr_db h.1 ho hj
    simp only [ph_n hf, Int.natCast_add, Int.natCast_mul, hf.1.1, hf.1.2.1, ph_s hf (np_le _)]
    rw [show φ ((3 : Nat) : Int) = 3 from hf.1.nat 3, show φ ((4 : Nat) : Int) = 4 from hf.1.nat 4, show φ ((8 : Nat) : Int) = 8 from hf.1.nat 8, show φ ((2 : Nat) : Int) = 2 from hf.1.nat 2]
    obtain ⟨j1, j2, j3⟩ := this
    generalize φ (x : Int) = X at *
    generalize φ (y : Int) = Y at *
    generalize φ (z : Int) = Z at *
    refine ⟨j1, ?_, ?_⟩
    · rw [← j2]
      grind
    · rw [← j3]
      grind
theorem jad_ok {F : Type} [Lean.Grind.CommRing F] {φ : Int → F} {inv : F → F} (h : fk φ inv) {gx gy : Nat} (hx1 : gx < nP) (hy1 : gy < nP) (hg : ec_on (φ gx, φ gy)) {s : jS} {p : Option (F × F)} (hs : jR φ s p) : jR φ (jad gx gy s) (ec_add inv p (some (φ gx, φ gy))) := by
  have hf := h.fm
  have hp1 : 1 < nP := by decide +kernel
  have hB : jr (φ gx, φ gy) (φ gx) (φ gy) 1 := ⟨fun e => h.1.2.2.1 e, by grind, by grind⟩
  match s, p, hs with
  | none, none, _ =>
    rw [ec_add_none]
    exact ⟨hg, hx1, hy1, hp1, by rw [show φ ((1 : Nat) : Int) = 1 from hf.1.2.2]; exact hB⟩
  | some (x, y, z), some a, hs =>
    obtain ⟨ho, hx, hy, hz, hj⟩ := id hs
    have hJ := jr_eq h.1 hj hB
    have eD : φ (((gx * (z * z % nP) + (nP - x)) % nP : Nat) : Int) = φ gx * (φ z * φ z) - φ x * (1 * 1) := by
      simp only [ph_n hf, Int.natCast_add, Int.natCast_mul, hf.1.1, hf.1.2.1, ph_s hf (Nat.le_of_lt hx)]
      grind
    have eC : φ (((gy * (z * z % nP * z % nP) + (nP - y)) % nP : Nat) : Int) = φ gy * (φ z * φ z * φ z) - φ y * (1 * 1 * 1) := by
      simp only [ph_n hf, Int.natCast_add, Int.natCast_mul, hf.1.1, hf.1.2.1, ph_s hf (Nat.le_of_lt hy)]
      grind
    have zi : ∀ w : Nat, w < nP → (w = 0 ↔ φ (w : Int) = 0) := fun w hw => by
      constructor
      · rintro rfl
        exact hf.1.z
      · intro e
        rw [← hf.1.z] at e
        have e2 := (hf.2 _ _).mp e
        rw [Int.emod_eq_of_lt (by omega) (by omega), Int.zero_emod] at e2
        omega
    have zD := zi _ (np_lt (gx * (z * z % nP) + (nP - x)))
    have zC := zi _ (np_lt (gy * (z * z % nP * z % nP) + (nP - y)))
    rw [eD] at zD
    rw [eC] at zC
    show jR φ (if (gx * (z * z % nP) + (nP - x)) % nP = 0 then _ else _) _
    by_cases c1 : (gx * (z * z % nP) + (nP - x)) % nP = 0
    · rw [if_pos c1]
      have e1 := hJ.1.mp (zD.mp c1)
      by_cases c2 : (gy * (z * z % nP * z % nP) + (nP - y)) % nP = 0
      · rw [if_pos c2]
        have e2 := hJ.2.mp (zC.mp c2)
        have e3 : a = (φ gx, φ gy) := Prod.ext e1 e2
        have := jdb_ok h hs
        rw [e3] at this ⊢
        exact this
      · rw [if_neg c2, ec_add_ng inv e1 (fun e => c2 (zC.mpr (hJ.2.mpr e)))]
        trivial
    · rw [if_neg c1]
      have hne : ¬ a.1 = φ gx := fun e => c1 (zD.mpr (hJ.1.mpr e))
      have hok := ec_add_OK h.1 (p := some a) (q := some (φ gx, φ gy)) (fun _ e => Option.some.inj e ▸ ho) (fun _ e => Option.some.inj e ▸ hg) _ (ec_add_ne inv hne)
      rw [ec_add_ne inv hne]
      refine ⟨hok, np_lt _, np_lt _, np_lt _, ?_⟩
      have := jr_ad h.1 hj hB hne (B := φ x) (A := φ y) (by grind) (by grind) rfl rfl
      have eD2 : φ gx * (φ z * φ z) - φ x * (1 * 1) = φ gx * (φ z * φ z) - φ x := by grind
      have eC2 : φ gy * (φ z * φ z * φ z) - φ y * (1 * 1 * 1) = φ gy * (φ z * φ z * φ z) - φ y := by grind
      rw [eD2] at eD
      rw [eC2] at eC
      generalize (gx * (z * z % nP) + (nP - x)) % nP = d at *
      generalize (gy * (z * z % nP * z % nP) + (nP - y)) % nP = c at *
      simp only [ph_n hf, Int.natCast_add, Int.natCast_mul, hf.1.1, hf.1.2.1, ph_s hf (np_le _)]
      rw [← eD, ← eC] at this
      obtain ⟨j1, j2, j3⟩ := this
      generalize φ (x : Int) = X at *
      generalize φ (y : Int) = Y at *
      generalize φ (z : Int) = Z at *
      generalize φ (d : Int) = D at *
      generalize φ (c : Int) = C at *
      refine ⟨fun e => j1 (by rw [← e]; grind), ?_, ?_⟩
      · have e1 : Z * 1 * D = Z * D := by grind
        rw [e1] at j2
        rw [← j2]
        clear j1 j2 j3 e1 zD zC zi hJ eD eC c1 hne hok eD2 eC2
        grind
      · have e1 : Z * 1 * D = Z * D := by grind
        rw [e1] at j3
        rw [← j3]
        clear j1 j2 j3 e1 zD zC zi hJ eD eC c1 hne hok eD2 eC2
        grind
theorem jmu_ok {F : Type} [Lean.Grind.CommRing F] {φ : Int → F} {inv : F → F} (h : fk φ inv) {gx gy : Nat} (hx1 : gx < nP) (hy1 : gy < nP) (hg : ec_on (φ gx, φ gy)) (n : Nat) (hn : n < 2 ^ 256) : ∀ k, k ≤ 256 → jR φ (jmu gx gy n k) (ec_nm inv (n / 2 ^ (256 - k)) (some (φ gx, φ gy)))
  | 0, _ => by
    rw [Nat.sub_zero, Nat.div_eq_of_lt hn]
    trivial
  | k + 1, hk => by
    have hok : ec_OK (some (φ gx, φ gy)) := fun a e => Option.some.inj e ▸ hg
    have ih := jdb_ok h (jmu_ok h hx1 hy1 hg n hn k (by omega))
    rw [ec_db2 h.1 hok] at ih
    have hd : n / 2 ^ (256 - k) = n / 2 ^ (255 - k) / 2 := by rw [show 256 - k = (255 - k) + 1 by omega, Nat.pow_succ, Nat.div_div_eq_div_mul]
    have hs : 256 - (k + 1) = 255 - k := by omega
    rw [hd] at ih
    rw [hs]
    show jR φ (jst gx gy (n / 2 ^ (255 - k) % 2) (jmu gx gy n k)) _
    generalize n / 2 ^ (255 - k) = w at *
    rcases (show w % 2 = 0 ∨ w % 2 = 1 by omega) with q | q
    · rw [q]
      show jR φ (jdb (jmu gx gy n k)) _
      rw [show w = 2 * (w / 2) by omega]
      exact ih
    · rw [q]
      show jR φ (jad gx gy (jdb (jmu gx gy n k))) _
      have := jad_ok h hx1 hy1 hg ih
      rw [ec_nms] at this
      rw [show w = 2 * (w / 2) + 1 by omega]
      exact this
def gXn : Nat := 55066263022277343669578718895168534326250603453777594175500187360389116729240
def gYn : Nat := 32670510020758816978083085130507043184471273380659243275938904335757337482424
theorem g_on {F : Type} [Lean.Grind.CommRing F] {φ : Int → F} (hf : fm φ nP) : ec_on (φ gXn, φ gYn) := by
  show φ gYn * φ gYn = φ gXn * φ gXn * φ gXn + 7
  rw [← ph7 hf.1, ← hf.1.2.1, ← hf.1.2.1, ← hf.1.2.1, ← hf.1.1]
  exact (hf.2 _ _).mpr (by decide +kernel)
set_option maxRecDepth 100000 in
theorem g_N : (jmu gXn gYn nN 256).isNone = true := by decide +kernel
theorem g_R {F : Type} [Lean.Grind.CommRing F] {φ : Int → F} {inv : F → F} (h : fk φ inv) (s : jS) (hs : s.isNone = true) (p : Option (F × F)) (q : jR φ s p) : p = none := by
  match s, hs, p, q with
  | none, _, none, _ => rfl
theorem g_mu {F : Type} [Lean.Grind.CommRing F] {φ : Int → F} {inv : F → F} (h : fk φ inv) {gx gy : Nat} (hx1 : gx < nP) (hy1 : gy < nP) (hg : ec_on (φ gx, φ gy)) {n : Nat} (hn : n < 2 ^ 256) (hz : (jmu gx gy n 256).isNone = true) : ec_nm inv n (some (φ gx, φ gy)) = none := by
  have q := jmu_ok h hx1 hy1 hg n hn 256 (Nat.le_refl _)
  rw [Nat.sub_self, Nat.pow_zero, Nat.div_one] at q
  exact g_R h _ hz _ q
theorem g_ord {F : Type} [Lean.Grind.CommRing F] {φ : Int → F} {inv : F → F} (h : fk φ inv) (n : Nat) (h0 : ¬ n = 0) (hn : (n : Int) < nN) : ∃ a, ec_nm inv n (some (φ gXn, φ gYn)) = some a := by
  refine ec_prime h.1 (g_on h.fm) nN_P ?_ h0 (by omega)
  exact g_mu h (by decide +kernel) (by decide +kernel) (g_on h.fm) (by decide +kernel) g_N
/-! the integers modulo N -/
theorem fz_N : NeZero nN := ⟨by decide +kernel⟩
def fR_N : Lean.Grind.CommRing (Fin nN) := @inferInstance _ (@Lean.Grind.Fin.instCommRingFinOfNeZeroNat nN fz_N)
theorem fN_pos : 0 < nN := by decide +kernel
def fN_φ (x : Int) : Fin nN := ⟨(x % (nN : Int)).toNat, by
  have h1 := Int.emod_nonneg x (show (nN : Int) ≠ 0 by have := fN_pos; omega)
  have h2 := Int.emod_lt_of_pos x (show (0 : Int) < nN by have := fN_pos; omega)
  omega⟩
theorem fN_val (x : Int) : ((fN_φ x).val : Int) = x % (nN : Int) := Int.toNat_of_nonneg (Int.emod_nonneg x (by have := fN_pos; omega))
theorem fN_add (a b : Fin nN) : (@HAdd.hAdd _ _ _ (@instHAdd _ fR_N.toAdd) a b).val = (a.val + b.val) % nN := by cases a; cases b; rfl
theorem fN_mul (a b : Fin nN) : (@HMul.hMul _ _ _ (@instHMul _ fR_N.toMul) a b).val = (a.val * b.val) % nN := by cases a; cases b; rfl
theorem fN_hom : @ec_hom _ fR_N fN_φ := by
  refine ⟨fun a b => ?_, fun a b => ?_, ?_⟩
  · apply Fin.ext
    rw [fN_add]
    have h : ((fN_φ (a + b)).val : Int) = ((((fN_φ a).val + (fN_φ b).val) % nN : Nat) : Int) := by
      rw [fN_val, Int.natCast_emod, Int.natCast_add, fN_val, fN_val, ← Int.add_emod]
    exact Int.ofNat.inj h
  · apply Fin.ext
    rw [fN_mul]
    have h : ((fN_φ (a * b)).val : Int) = ((((fN_φ a).val * (fN_φ b).val) % nN : Nat) : Int) := by
      rw [fN_val, Int.natCast_emod, Int.natCast_mul, fN_val, fN_val, ← Int.mul_emod]
    exact Int.ofNat.inj h
  · apply Fin.ext
    decide +kernel
theorem fN_eq (a b : Int) : fN_φ a = fN_φ b ↔ a % (nN : Int) = b % (nN : Int) := by
  constructor
  · intro h
    rw [← fN_val, ← fN_val, h]
  · intro h
    apply Fin.ext
    have : ((fN_φ a).val : Int) = ((fN_φ b).val : Int) := by rw [fN_val, fN_val, h]
    exact Int.ofNat.inj this
theorem fN_all : ∃ (G : Type) (i : Lean.Grind.CommRing G) (ψ : Int → G), @fm G i ψ nN := ⟨Fin nN, fR_N, fN_φ, fN_hom, fN_eq⟩
theorem ri_P {F : Type} [Lean.Grind.CommRing F] {φ : Int → F} (hf : fm φ nP) : φ (tq 8) * φ 91248989341183975618893650062416139444822672217621753343178995607984094583082 = 1 := by
  rw [← hf.1.2.1, ← hf.1.2.2]
  exact (hf.2 _ _).mpr (by decide +kernel)
theorem ri_N {F : Type} [Lean.Grind.CommRing F] {φ : Int → F} (hf : fm φ nN) : φ (tq 8) * φ 98562742561918706241446412617699626731164144128788972284189895985653995782166 = 1 := by
  rw [← hf.1.2.1, ← hf.1.2.2]
  exact (hf.2 _ _).mpr (by decide +kernel)
