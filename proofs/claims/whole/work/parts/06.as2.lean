/-! the associativity for points of the curve -/
theorem kl_in {α F : Type} [Lean.Grind.CommRing F] {R : α → Nat → (Nat → Nat) → (Nat → Nat) → F → Prop} {z v : α} {n : Nat} {s w : Nat → Nat} {u : F} {i : Nat} {y : F} (hz : ∀ n s w, R z n s w 0) (h : R v n s w u) : ec_L R i y (v, z) n s w u := ⟨u, 0, h, hz _ _ _, by grind⟩
theorem kl_z {α F : Type} [Lean.Grind.CommRing F] {R : α → Nat → (Nat → Nat) → (Nat → Nat) → F → Prop} {z : α} {i : Nat} {y : F} (hz : ∀ n s w, R z n s w 0) (n : Nat) (s w : Nat → Nat) : ec_L R i y (z, z) n s w 0 := ⟨0, 0, hz _ _ _, hz _ _ _, by grind⟩
theorem kl_y {α F : Type} [Lean.Grind.CommRing F] {R : α → Nat → (Nat → Nat) → (Nat → Nat) → F → Prop} {z o : α} {n : Nat} {s w : Nat → Nat} {i : Nat} {y : F} (hz : ∀ n s w, R z n s w 0) (h : R o n (fun j => s j + ec_e i 3 j) w 1) : ec_L R i y (z, o) n s w y := ⟨0, 1, hz _ _ _, h, by grind⟩
theorem k0_z {F : Type} [Lean.Grind.CommRing F] (φ : Int → F) (x : Nat → F) (n : Nat) (s w : Nat → Nat) : ec_R0 φ x kb_ 0 n s w 0 := ⟨[], rfl, Nat.zero_le _, fun m hm => (by cases hm), rfl⟩
theorem k0_o {F : Type} [Lean.Grind.CommRing F] {φ : Int → F} (h : ec_hom φ) (x : Nat → F) {s w : Nat → Nat} (hs : ∀ i, s i ≤ w i) : ec_R0 φ x kb_ 1 1 s w 1 := by
  refine ⟨[(1, fun _ => 0)], by simp [ec_evZ, ec_tZ], by simp [ec_n1], ?_, ?_⟩
  · intro m hm i
    rw [List.mem_singleton.mp hm]
    have := hs i
    simp only
    omega
  · simp only [ec_evF, ec_tF, fp_pw, h.2.2]
    grind
theorem k0_x {F : Type} [Lean.Grind.CommRing F] {φ : Int → F} (h : ec_hom φ) (x : Nat → F) {i : Nat} (hi : i < 3) {w : Nat → Nat} (hw : 2 ≤ w i) : ec_R0 φ x kb_ (kr_B kb_ i) 1 (fun _ => 0) w (x i) := by
  refine ⟨[(1, ec_e i 1)], ?_, by simp [ec_n1], ?_, ?_⟩
  · rcases (show i = 0 ∨ i = 1 ∨ i = 2 by omega) with rfl | rfl | rfl <;> simp [ec_evZ, ec_tZ, ec_e, Int.pow_one]
  · intro m hm j
    rw [List.mem_singleton.mp hm]
    simp only [ec_e]
    split
    · next e => subst e; omega
    · omega
  · rcases (show i = 0 ∨ i = 1 ∨ i = 2 by omega) with rfl | rfl | rfl <;> simp [ec_evF, ec_tF, ec_e, fp_pw, h.2.2] <;> grind
def k_Z {α F : Type} [Lean.Grind.CommRing F] (R : α → Nat → (Nat → Nat) → (Nat → Nat) → F → Prop) (z : α) (n : Nat) (w : Nat → Nat) : Prop := ∀ v s u, R v n s w u → v = z → u = 0
theorem k0_Z {F : Type} [Lean.Grind.CommRing F] {φ : Int → F} (h : ec_hom φ) (x : Nat → F) {n : Nat} {w : Nat → Nat} (hn : n < kb_) (h0 : w 0 ≤ 18) (h1 : w 1 ≤ 24) : k_Z (ec_R0 φ x kb_) 0 n w := by
  rintro v s u ⟨l, e1, e2, e3, rfl⟩ rfl
  have hd : ∀ m ∈ l, m.2 0 ≤ 9 ∧ m.2 1 ≤ 12 := fun m hm => by
    have a0 := e3 m hm 0
    have a1 := e3 m hm 1
    omega
  rw [kr_F φ x l hd]
  obtain ⟨K, hK⟩ := kr_bd l
  exact ku_zero h kb_ K _ hK (by rw [kr_n]; omega) (by rw [← kr_Z]; exact e1) _
theorem kl_Z {α F : Type} [Lean.Grind.CommRing F] {R : α → Nat → (Nat → Nat) → (Nat → Nat) → F → Prop} {z : α} {n : Nat} {w : Nat → Nat} (i : Nat) (y : F) (h : k_Z R z n w) : k_Z (ec_L R i y) (z, z) n w := by
  rintro v s u ⟨u1, u2, h1, h2, rfl⟩ rfl
  rw [h _ _ _ h1 rfl, h _ _ _ h2 rfl]
  grind
def k_nU : Nat := 610 * (729 * (729 * (1 * 1)) * (729 * (1 * 1)))
def k_nA : Nat := 610 * (729 * (729 * (k_nU * 1)) * (729 * (k_nU * 1)))
def k_nB : Nat := 610 * (729 * (729 * (1 * k_nU)) * (729 * (1 * k_nU)))
theorem k_small : 729 * (k_nA * k_nB) + 729 * (k_nA * k_nB) < kb_ := by decide +kernel
set_option maxHeartbeats 2000000 in
theorem ec_as3 {F : Type} [Lean.Grind.CommRing F] {φ : Int → F} {inv : F → F} (h : ec_fld φ inv) {a b c : F × F} (ha : ec_on a) (hb : ec_on b) (hc : ec_on c) :
    cr3 (fun x y => x - y) (fun x y => x * y) (rcF φ (rcF φ (ec_em (some a)) (ec_em (some b))) (ec_em (some c))) (rcF φ (ec_em (some a)) (rcF φ (ec_em (some b)) (ec_em (some c)))) = (0, 0, 0) := by
  have f7 : φ 7 = 7 := h.1.nat 7
  obtain ⟨x, hx⟩ : ∃ x : Nat → F, x = fun i => match i with
    | 0 => a.1
    | 1 => b.1
    | _ => c.1 := ⟨_, rfl⟩
  have x0 : x 0 = a.1 := by rw [hx]; rfl
  have x1 : x 1 = b.1 := by rw [hx]; rfl
  have x2 : x 2 = c.1 := by rw [hx]; rfl
  have C0 : ec_Cl (ec_R0 φ x kb_) (fun a b => a + b) (fun a b => a - b) (fun a b => a * b) (fun a b => a * b) s0_ φ (fun i => x i * x i * x i + φ 7) 1 := ec_R0_cl h.1 x kb_
  have C1 : ec_Cl (ec_L (ec_R0 φ x kb_) 0 a.2) ad1_ sb1_ mu1_ sm1_ sc1_ φ (fun i => x i * x i * x i + φ 7) 9 := ec_L_cl C0 (by omega) (by rw [x0, f7]; exact ha)
  have C2 : ec_Cl (ec_L (ec_L (ec_R0 φ x kb_) 0 a.2) 1 b.2) ad2_ sb2_ mu2_ sm2_ sc2_ φ (fun i => x i * x i * x i + φ 7) 81 := ec_L_cl C1 (by omega) (by rw [x1, f7]; exact hb)
  have C3 : ec_Cl (ec_L (ec_L (ec_L (ec_R0 φ x kb_) 0 a.2) 1 b.2) 2 c.2) ad3_ sb3_ mu3_ sm3_ sc3_ φ (fun i => x i * x i * x i + φ 7) 729 := ec_L_cl C2 (by omega) (by rw [x2, f7]; exact hc)
  have z0 := k0_z φ x
  have z1 := kl_z (i := 0) (y := a.2) z0
  have z2 := kl_z (i := 1) (y := b.2) z1
  have z3 := kl_z (i := 2) (y := c.2) z2
  have one : ∀ w : Nat → Nat, ec_L (ec_L (ec_L (ec_R0 φ x kb_) 0 a.2) 1 b.2) 2 c.2 o3_ 1 (fun _ => 0) w 1 := fun w => kl_in z2 (kl_in z1 (kl_in z0 (k0_o h.1 x (fun i => Nat.zero_le _))))
  have ex : ∀ i, i < 3 → ∀ w : Nat → Nat, 2 ≤ w i → ec_L (ec_L (ec_L (ec_R0 φ x kb_) 0 a.2) 1 b.2) 2 c.2 (x3_ i) 1 (fun _ => 0) w (x i) := fun i hi w hw => kl_in z2 (kl_in z1 (kl_in z0 (k0_x h.1 x hi hw)))
  have ra : ec_R3 (ec_L (ec_L (ec_L (ec_R0 φ x kb_) 0 a.2) 1 b.2) 2 c.2) pa_ 1 (ec_e 0 3) (ec_em (some a)) := by
    refine ⟨?_, ?_, one _⟩
    · have := ex 0 (by omega) (ec_e 0 3) (by simp [ec_e])
      rw [x0] at this
      exact this
    · exact kl_in z2 (kl_in z1 (kl_y z0 (k0_o h.1 x (fun i => by simp))))
  have rb : ec_R3 (ec_L (ec_L (ec_L (ec_R0 φ x kb_) 0 a.2) 1 b.2) 2 c.2) pb_ 1 (ec_e 1 3) (ec_em (some b)) := by
    refine ⟨?_, ?_, one _⟩
    · have := ex 1 (by omega) (ec_e 1 3) (by simp [ec_e])
      rw [x1] at this
      exact this
    · exact kl_in z2 (kl_y z1 (kl_in z0 (k0_o h.1 x (fun i => by simp))))
  have rc : ec_R3 (ec_L (ec_L (ec_L (ec_R0 φ x kb_) 0 a.2) 1 b.2) 2 c.2) pc_ 1 (ec_e 2 3) (ec_em (some c)) := by
    refine ⟨?_, ?_, one _⟩
    · have := ex 2 (by omega) (ec_e 2 3) (by simp [ec_e])
      rw [x2] at this
      exact this
    · exact kl_y z2 (kl_in z1 (kl_in z0 (k0_o h.1 x (fun i => by simp))))
  have hA := ec_R3_rc C3 (ec_R3_rc C3 ra rb) rc
  have hB := ec_R3_rc C3 ra (ec_R3_rc C3 rb rc)
  obtain ⟨-, c2, c3, -⟩ := C3
  have hZ := kl_Z 2 c.2 (kl_Z 1 b.2 (kl_Z 0 a.2 (k0_Z h.1 x k_small (w := fun i => (((ec_e 0 3 i + ec_e 1 3 i) + (ec_e 0 3 i + ec_e 1 3 i) + ec_e 2 3 i) + ((ec_e 0 3 i + ec_e 1 3 i) + (ec_e 0 3 i + ec_e 1 3 i) + ec_e 2 3 i)) + ((ec_e 0 3 i + ((ec_e 1 3 i + ec_e 2 3 i) + (ec_e 1 3 i + ec_e 2 3 i))) + (ec_e 0 3 i + ((ec_e 1 3 i + ec_e 2 3 i) + (ec_e 1 3 i + ec_e 2 3 i))))) (by decide +kernel) (by decide +kernel))))
  have key := as_zero
  have k1 : sb3_ (mu3_ as_A.1 as_B.2.2) (mu3_ as_A.2.2 as_B.1) = z3_ := congrArg (fun q => q.1) key
  have k2 : sb3_ (mu3_ as_A.2.1 as_B.2.2) (mu3_ as_A.2.2 as_B.2.1) = z3_ := congrArg (fun q => q.2.1) key
  have k3 : sb3_ (mu3_ as_A.1 as_B.2.1) (mu3_ as_A.2.1 as_B.1) = z3_ := congrArg (fun q => q.2.2) key
  refine Prod.ext ?_ (Prod.ext ?_ ?_)
  · exact hZ _ _ _ (c2 _ _ _ _ _ _ _ _ (c3 _ _ _ _ _ _ _ _ _ _ hA.1 hB.2.2) (c3 _ _ _ _ _ _ _ _ _ _ hA.2.2 hB.1)) k1
  · exact hZ _ _ _ (c2 _ _ _ _ _ _ _ _ (c3 _ _ _ _ _ _ _ _ _ _ hA.2.1 hB.2.2) (c3 _ _ _ _ _ _ _ _ _ _ hA.2.2 hB.2.1)) k2
  · exact hZ _ _ _ (c2 _ _ _ _ _ _ _ _ (c3 _ _ _ _ _ _ _ _ _ _ hA.1 hB.2.1) (c3 _ _ _ _ _ _ _ _ _ _ hA.2.1 hB.1)) k3
