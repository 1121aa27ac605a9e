/-! WHAT THE CLASS AND THE REFERENCE STAND FOR, TOGETHER: written by wip/gen/rel.py -/
theorem nmR_of {g : Nat → Int32} {f : Nat → Int64} (h : IV g 8 = NV f) : nmR g f := (nmR_PK h).cg (PK_eq rfl)
def RL {F G : Type} [Lean.Grind.CommRing F] [Lean.Grind.CommRing G] (φ : Int → F) (ψ : Int → G) (ρ : Nat → Nat → Int64) (fl : Nat → Int32) (τ : Nat → Nat → Int32) : Prop :=
  (∀ r, r < 8 → nmR (τ (80 + r)) (ρ (2 + r))) ∧ (∀ p, p < 4 → ∃ π, ptR φ ρ fl (41 + 3 * p) π ∧ mpR φ τ (115 + 4 * p) π) ∧ (ptR φ ρ fl 21 (some (φ gXn, φ gYn)) ∧ mpR φ τ 55 (some (φ gXn, φ gYn))) ∧ isR φ nP 99 τ ∧ isR ψ nN 107 τ ∧ MV φ nP (τ 54) 7
theorem RL.num {F G : Type} [Lean.Grind.CommRing F] [Lean.Grind.CommRing G] {φ : Int → F} {ψ : Int → G} {ρ : Nat → Nat → Int64} {fl : Nat → Int32} {τ : Nat → Nat → Int32} (h : RL φ ψ ρ fl τ) {r : Nat} (hr : r < 8) : NV (ρ (2 + r)) = IV (τ (80 + r)) 8 := (h.1 r hr).v
theorem RL.nu {F G : Type} [Lean.Grind.CommRing F] [Lean.Grind.CommRing G] {φ : Int → F} {ψ : Int → G} {ρ ρ' : Nat → Nat → Int64} {fl fl' : Nat → Int32} {τ τ' : Nat → Nat → Int32} {t u T U : Nat} (h : RL φ ψ ρ fl τ) (hc : kNu t u ρ ρ' fl fl') (hm : kMn T U τ τ') (ht : t < 10 ∧ u < 10) (hT : (T < 54 ∨ 80 ≤ T ∧ T ≤ 87) ∧ (U < 54 ∨ 80 ≤ U ∧ U ≤ 87)) (hn : ∀ r, r < 8 → (2 + r = t ∨ 2 + r = u ∨ 80 + r = T ∨ 80 + r = U) → nmR (τ' (80 + r)) (ρ' (2 + r))) : RL φ ψ ρ' fl' τ' := by
  obtain ⟨h1, h2, h3, h4, h5, h6⟩ := h
  refine ⟨fun r hr => ?_, fun p hp => ?_, ⟨?_, ?_⟩, ?_, ?_, ?_⟩
  · by_cases hx : 2 + r = t ∨ 2 + r = u ∨ 80 + r = T ∨ 80 + r = U
    · exact hn r hr hx
    · rw [hc.1 (2 + r) (by omega) (by omega) (by omega), hm (80 + r) (by unfold lastM; omega) (by omega) (by omega)]
      exact h1 r hr
  · obtain ⟨π, a1, a2⟩ := h2 p hp
    exact ⟨π, a1.kept (hc.1 _ (by omega) (by omega) (by omega)) (hc.1 _ (by omega) (by omega) (by omega)) (hc.2 _ (by omega)), a2.kept (hm _ (by unfold lastM; omega) (by omega) (by omega)) (hm _ (by unfold lastM; omega) (by omega) (by omega)) (hm _ (by unfold lastM; omega) (by omega) (by omega))⟩
  · exact h3.1.kept (hc.1 _ (by omega) (by omega) (by omega)) (hc.1 _ (by omega) (by omega) (by omega)) (hc.2 _ (by omega))
  · exact h3.2.kept (hm _ (by unfold lastM; omega) (by omega) (by omega)) (hm _ (by unfold lastM; omega) (by omega) (by omega)) (hm _ (by unfold lastM; omega) (by omega) (by omega))
  · exact h4.kp (fun j g1 g2 => hm j (by unfold lastM; omega) (by omega) (by omega))
  · exact h5.kp (fun j g1 g2 => hm j (by unfold lastM; omega) (by omega) (by omega))
  · rw [hm 54 (by unfold lastM; omega) (by omega) (by omega)]
    exact h6
theorem RL.pt {F G : Type} [Lean.Grind.CommRing F] [Lean.Grind.CommRing G] {φ : Int → F} {ψ : Int → G} {ρ ρ' : Nat → Nat → Int64} {fl fl' : Nat → Int32} {τ τ' : Nat → Nat → Int32} {t : Nat} (h : RL φ ψ ρ fl τ) (ht : t < 4) (hc : kPt (41 + 3 * t) ρ ρ' fl fl') (hm : kMp (115 + 4 * t) τ τ') (hn : ∃ π, ptR φ ρ' fl' (41 + 3 * t) π ∧ mpR φ τ' (115 + 4 * t) π) : RL φ ψ ρ' fl' τ' := by
  obtain ⟨h1, h2, h3, h4, h5, h6⟩ := h
  refine ⟨fun r hr => ?_, fun p hp => ?_, ⟨?_, ?_⟩, ?_, ?_, ?_⟩
  · rw [hc.1 (2 + r) (by omega) (by omega) (by omega), hm (80 + r) (by unfold lastM; omega) (by omega)]
    exact h1 r hr
  · by_cases hx : p = t
    · subst hx
      exact hn
    · obtain ⟨π, a1, a2⟩ := h2 p hp
      exact ⟨π, a1.kept (hc.1 _ (by omega) (by omega) (by omega)) (hc.1 _ (by omega) (by omega) (by omega)) (hc.2 _ (by omega) (by omega)), a2.kept (hm _ (by unfold lastM; omega) (by omega)) (hm _ (by unfold lastM; omega) (by omega)) (hm _ (by unfold lastM; omega) (by omega))⟩
  · exact h3.1.kept (hc.1 _ (by omega) (by omega) (by omega)) (hc.1 _ (by omega) (by omega) (by omega)) (hc.2 _ (by omega) (by omega))
  · exact h3.2.kept (hm _ (by unfold lastM; omega) (by omega)) (hm _ (by unfold lastM; omega) (by omega)) (hm _ (by unfold lastM; omega) (by omega))
  · exact h4.kp (fun j g1 g2 => hm j (by unfold lastM; omega) (by omega))
  · exact h5.kp (fun j g1 g2 => hm j (by unfold lastM; omega) (by omega))
  · rw [hm 54 (by unfold lastM; omega) (by omega)]
    exact h6
set_option maxHeartbeats 1000000 in
theorem rl_work_0 {F G : Type} [Lean.Grind.CommRing F] [Lean.Grind.CommRing G] {φ : Int → F} {inv : F → F} {ψ : Int → G} {ρ ρ' : Nat → Nat → Int64} {fl fl' : Nat → Int32} {τ τ' : Nat → Nat → Int32} (h : RL φ ψ ρ fl τ) {t : Nat} (h_t : t < 8) {a : Nat} (h_a : a < 8) {b : Nat} (h_b : b < 8) {r r' : Int32} (hc : ((r = 0 ∧ ¬ wkOK 0 nP (NV (ρ (2 + a))) (NV (ρ (2 + b))) ∧ kNu 0 0 ρ ρ' fl fl') ∨ (r = 1 ∧ wkOK 0 nP (NV (ρ (2 + a))) (NV (ρ (2 + b))) ∧ NV (ρ' (2 + t)) = rp φ nP (wkV φ 0 (NV sP2) (NV (ρ (2 + a))) (NV (ρ (2 + b)))) ∧ kNu (2 + t) 0 ρ ρ' fl fl'))) (hm : ((r' = 0 ∧ ¬ wkOK 0 nP (IV (τ (80 + a)) 8) (IV (τ (80 + b)) 8) ∧ kMn 0 0 τ τ') ∨ (r' = 1 ∧ wkOK 0 nP (IV (τ (80 + a)) 8) (IV (τ (80 + b)) 8) ∧ IV (τ' (80 + t)) 8 = rp φ nP (wkV φ 0 (NV sP2) (IV (τ (80 + a)) 8) (IV (τ (80 + b)) 8)) ∧ kMn (80 + t) 0 τ τ'))) : r = r' ∧ RL φ ψ ρ' fl' τ' := by
  rw [← h.num h_a, ← h.num h_b] at hm
  rcases hc with ⟨c1, c2, c3⟩ | ⟨c1, c2, c4, c3⟩ <;> rcases hm with ⟨m1, m2, m3⟩ | ⟨m1, m2, m4, m3⟩
  · exact ⟨c1.trans m1.symm, h.nu c3 m3 (by omega) (by omega) (fun j hj hx => absurd hx (by omega))⟩
  · exact absurd m2 c2
  · exact absurd c2 m2
  · refine ⟨c1.trans m1.symm, h.nu c3 m3 (by omega) (by omega) (fun j hj hx => ?_)⟩
    have e : j = t := by omega
    subst e
    exact nmR_of (m4.trans c4.symm)
set_option maxHeartbeats 1000000 in
theorem rl_work_1 {F G : Type} [Lean.Grind.CommRing F] [Lean.Grind.CommRing G] {φ : Int → F} {inv : F → F} {ψ : Int → G} {ρ ρ' : Nat → Nat → Int64} {fl fl' : Nat → Int32} {τ τ' : Nat → Nat → Int32} (h : RL φ ψ ρ fl τ) {t : Nat} (h_t : t < 8) {a : Nat} (h_a : a < 8) {b : Nat} (h_b : b < 8) {r r' : Int32} (hc : ((r = 0 ∧ ¬ wkOK 1 nP (NV (ρ (2 + a))) (NV (ρ (2 + b))) ∧ kNu 0 0 ρ ρ' fl fl') ∨ (r = 1 ∧ wkOK 1 nP (NV (ρ (2 + a))) (NV (ρ (2 + b))) ∧ NV (ρ' (2 + t)) = rp φ nP (wkV φ 1 (NV sP2) (NV (ρ (2 + a))) (NV (ρ (2 + b)))) ∧ kNu (2 + t) 0 ρ ρ' fl fl'))) (hm : ((r' = 0 ∧ ¬ wkOK 1 nP (IV (τ (80 + a)) 8) (IV (τ (80 + b)) 8) ∧ kMn 0 0 τ τ') ∨ (r' = 1 ∧ wkOK 1 nP (IV (τ (80 + a)) 8) (IV (τ (80 + b)) 8) ∧ IV (τ' (80 + t)) 8 = rp φ nP (wkV φ 1 (NV sP2) (IV (τ (80 + a)) 8) (IV (τ (80 + b)) 8)) ∧ kMn (80 + t) 0 τ τ'))) : r = r' ∧ RL φ ψ ρ' fl' τ' := by
  rw [← h.num h_a, ← h.num h_b] at hm
  rcases hc with ⟨c1, c2, c3⟩ | ⟨c1, c2, c4, c3⟩ <;> rcases hm with ⟨m1, m2, m3⟩ | ⟨m1, m2, m4, m3⟩
  · exact ⟨c1.trans m1.symm, h.nu c3 m3 (by omega) (by omega) (fun j hj hx => absurd hx (by omega))⟩
  · exact absurd m2 c2
  · exact absurd c2 m2
  · refine ⟨c1.trans m1.symm, h.nu c3 m3 (by omega) (by omega) (fun j hj hx => ?_)⟩
    have e : j = t := by omega
    subst e
    exact nmR_of (m4.trans c4.symm)
set_option maxHeartbeats 1000000 in
theorem rl_work_2 {F G : Type} [Lean.Grind.CommRing F] [Lean.Grind.CommRing G] {φ : Int → F} {inv : F → F} {ψ : Int → G} {ρ ρ' : Nat → Nat → Int64} {fl fl' : Nat → Int32} {τ τ' : Nat → Nat → Int32} (h : RL φ ψ ρ fl τ) {t : Nat} (h_t : t < 8) {a : Nat} (h_a : a < 8) {b : Nat} (h_b : b < 8) {r r' : Int32} (hc : ((r = 0 ∧ ¬ wkOK 2 nP (NV (ρ (2 + a))) (NV (ρ (2 + b))) ∧ kNu 0 0 ρ ρ' fl fl') ∨ (r = 1 ∧ wkOK 2 nP (NV (ρ (2 + a))) (NV (ρ (2 + b))) ∧ NV (ρ' (2 + t)) = rp φ nP (wkV φ 2 (NV sP2) (NV (ρ (2 + a))) (NV (ρ (2 + b)))) ∧ kNu (2 + t) 0 ρ ρ' fl fl'))) (hm : ((r' = 0 ∧ ¬ wkOK 2 nP (IV (τ (80 + a)) 8) (IV (τ (80 + b)) 8) ∧ kMn 0 0 τ τ') ∨ (r' = 1 ∧ wkOK 2 nP (IV (τ (80 + a)) 8) (IV (τ (80 + b)) 8) ∧ IV (τ' (80 + t)) 8 = rp φ nP (wkV φ 2 (NV sP2) (IV (τ (80 + a)) 8) (IV (τ (80 + b)) 8)) ∧ kMn (80 + t) 0 τ τ'))) : r = r' ∧ RL φ ψ ρ' fl' τ' := by
  rw [← h.num h_a, ← h.num h_b] at hm
  rcases hc with ⟨c1, c2, c3⟩ | ⟨c1, c2, c4, c3⟩ <;> rcases hm with ⟨m1, m2, m3⟩ | ⟨m1, m2, m4, m3⟩
  · exact ⟨c1.trans m1.symm, h.nu c3 m3 (by omega) (by omega) (fun j hj hx => absurd hx (by omega))⟩
  · exact absurd m2 c2
  · exact absurd c2 m2
  · refine ⟨c1.trans m1.symm, h.nu c3 m3 (by omega) (by omega) (fun j hj hx => ?_)⟩
    have e : j = t := by omega
    subst e
    exact nmR_of (m4.trans c4.symm)
set_option maxHeartbeats 1000000 in
theorem rl_work_3 {F G : Type} [Lean.Grind.CommRing F] [Lean.Grind.CommRing G] {φ : Int → F} {inv : F → F} {ψ : Int → G} {ρ ρ' : Nat → Nat → Int64} {fl fl' : Nat → Int32} {τ τ' : Nat → Nat → Int32} (h : RL φ ψ ρ fl τ) {t : Nat} (h_t : t < 8) {a : Nat} (h_a : a < 8) {b : Nat} (h_b : b < 8) {r r' : Int32} (hc : ((r = 0 ∧ ¬ wkOK 3 nP (NV (ρ (2 + a))) (NV (ρ (2 + b))) ∧ kNu 0 0 ρ ρ' fl fl') ∨ (r = 1 ∧ wkOK 3 nP (NV (ρ (2 + a))) (NV (ρ (2 + b))) ∧ NV (ρ' (2 + t)) = rp φ nP (wkV φ 3 (NV sP2) (NV (ρ (2 + a))) (NV (ρ (2 + b)))) ∧ kNu (2 + t) 0 ρ ρ' fl fl'))) (hm : ((r' = 0 ∧ ¬ wkOK 3 nP (IV (τ (80 + a)) 8) (IV (τ (80 + b)) 8) ∧ kMn 0 0 τ τ') ∨ (r' = 1 ∧ wkOK 3 nP (IV (τ (80 + a)) 8) (IV (τ (80 + b)) 8) ∧ IV (τ' (80 + t)) 8 = rp φ nP (wkV φ 3 (NV sP2) (IV (τ (80 + a)) 8) (IV (τ (80 + b)) 8)) ∧ kMn (80 + t) 0 τ τ'))) : r = r' ∧ RL φ ψ ρ' fl' τ' := by
  rw [← h.num h_a, ← h.num h_b] at hm
  rcases hc with ⟨c1, c2, c3⟩ | ⟨c1, c2, c4, c3⟩ <;> rcases hm with ⟨m1, m2, m3⟩ | ⟨m1, m2, m4, m3⟩
  · exact ⟨c1.trans m1.symm, h.nu c3 m3 (by omega) (by omega) (fun j hj hx => absurd hx (by omega))⟩
  · exact absurd m2 c2
  · exact absurd c2 m2
  · refine ⟨c1.trans m1.symm, h.nu c3 m3 (by omega) (by omega) (fun j hj hx => ?_)⟩
    have e : j = t := by omega
    subst e
    exact nmR_of (m4.trans c4.symm)
set_option maxHeartbeats 1000000 in
theorem rl_work_4 {F G : Type} [Lean.Grind.CommRing F] [Lean.Grind.CommRing G] {φ : Int → F} {inv : F → F} {ψ : Int → G} {ρ ρ' : Nat → Nat → Int64} {fl fl' : Nat → Int32} {τ τ' : Nat → Nat → Int32} (h : RL φ ψ ρ fl τ) {t : Nat} (h_t : t < 8) {a : Nat} (h_a : a < 8) {b : Nat} (h_b : b < 8) {r r' : Int32} (hc : ((r = 0 ∧ ¬ wkOK 0 nN (NV (ρ (2 + a))) (NV (ρ (2 + b))) ∧ kNu 0 0 ρ ρ' fl fl') ∨ (r = 1 ∧ wkOK 0 nN (NV (ρ (2 + a))) (NV (ρ (2 + b))) ∧ NV (ρ' (2 + t)) = rp ψ nN (wkV ψ 0 (NV sN2) (NV (ρ (2 + a))) (NV (ρ (2 + b)))) ∧ kNu (2 + t) 0 ρ ρ' fl fl'))) (hm : ((r' = 0 ∧ ¬ wkOK 0 nN (IV (τ (80 + a)) 8) (IV (τ (80 + b)) 8) ∧ kMn 0 0 τ τ') ∨ (r' = 1 ∧ wkOK 0 nN (IV (τ (80 + a)) 8) (IV (τ (80 + b)) 8) ∧ IV (τ' (80 + t)) 8 = rp ψ nN (wkV ψ 0 (NV sN2) (IV (τ (80 + a)) 8) (IV (τ (80 + b)) 8)) ∧ kMn (80 + t) 0 τ τ'))) : r = r' ∧ RL φ ψ ρ' fl' τ' := by
  rw [← h.num h_a, ← h.num h_b] at hm
  rcases hc with ⟨c1, c2, c3⟩ | ⟨c1, c2, c4, c3⟩ <;> rcases hm with ⟨m1, m2, m3⟩ | ⟨m1, m2, m4, m3⟩
  · exact ⟨c1.trans m1.symm, h.nu c3 m3 (by omega) (by omega) (fun j hj hx => absurd hx (by omega))⟩
  · exact absurd m2 c2
  · exact absurd c2 m2
  · refine ⟨c1.trans m1.symm, h.nu c3 m3 (by omega) (by omega) (fun j hj hx => ?_)⟩
    have e : j = t := by omega
    subst e
    exact nmR_of (m4.trans c4.symm)
set_option maxHeartbeats 1000000 in
theorem rl_work_5 {F G : Type} [Lean.Grind.CommRing F] [Lean.Grind.CommRing G] {φ : Int → F} {inv : F → F} {ψ : Int → G} {ρ ρ' : Nat → Nat → Int64} {fl fl' : Nat → Int32} {τ τ' : Nat → Nat → Int32} (h : RL φ ψ ρ fl τ) {t : Nat} (h_t : t < 8) {a : Nat} (h_a : a < 8) {b : Nat} (h_b : b < 8) {r r' : Int32} (hc : ((r = 0 ∧ ¬ wkOK 1 nN (NV (ρ (2 + a))) (NV (ρ (2 + b))) ∧ kNu 0 0 ρ ρ' fl fl') ∨ (r = 1 ∧ wkOK 1 nN (NV (ρ (2 + a))) (NV (ρ (2 + b))) ∧ NV (ρ' (2 + t)) = rp ψ nN (wkV ψ 1 (NV sN2) (NV (ρ (2 + a))) (NV (ρ (2 + b)))) ∧ kNu (2 + t) 0 ρ ρ' fl fl'))) (hm : ((r' = 0 ∧ ¬ wkOK 1 nN (IV (τ (80 + a)) 8) (IV (τ (80 + b)) 8) ∧ kMn 0 0 τ τ') ∨ (r' = 1 ∧ wkOK 1 nN (IV (τ (80 + a)) 8) (IV (τ (80 + b)) 8) ∧ IV (τ' (80 + t)) 8 = rp ψ nN (wkV ψ 1 (NV sN2) (IV (τ (80 + a)) 8) (IV (τ (80 + b)) 8)) ∧ kMn (80 + t) 0 τ τ'))) : r = r' ∧ RL φ ψ ρ' fl' τ' := by
  rw [← h.num h_a, ← h.num h_b] at hm
  rcases hc with ⟨c1, c2, c3⟩ | ⟨c1, c2, c4, c3⟩ <;> rcases hm with ⟨m1, m2, m3⟩ | ⟨m1, m2, m4, m3⟩
  · exact ⟨c1.trans m1.symm, h.nu c3 m3 (by omega) (by omega) (fun j hj hx => absurd hx (by omega))⟩
  · exact absurd m2 c2
  · exact absurd c2 m2
  · refine ⟨c1.trans m1.symm, h.nu c3 m3 (by omega) (by omega) (fun j hj hx => ?_)⟩
    have e : j = t := by omega
    subst e
    exact nmR_of (m4.trans c4.symm)
set_option maxHeartbeats 1000000 in
theorem rl_work_6 {F G : Type} [Lean.Grind.CommRing F] [Lean.Grind.CommRing G] {φ : Int → F} {inv : F → F} {ψ : Int → G} {ρ ρ' : Nat → Nat → Int64} {fl fl' : Nat → Int32} {τ τ' : Nat → Nat → Int32} (h : RL φ ψ ρ fl τ) {t : Nat} (h_t : t < 8) {a : Nat} (h_a : a < 8) {b : Nat} (h_b : b < 8) {r r' : Int32} (hc : ((r = 0 ∧ ¬ wkOK 2 nN (NV (ρ (2 + a))) (NV (ρ (2 + b))) ∧ kNu 0 0 ρ ρ' fl fl') ∨ (r = 1 ∧ wkOK 2 nN (NV (ρ (2 + a))) (NV (ρ (2 + b))) ∧ NV (ρ' (2 + t)) = rp ψ nN (wkV ψ 2 (NV sN2) (NV (ρ (2 + a))) (NV (ρ (2 + b)))) ∧ kNu (2 + t) 0 ρ ρ' fl fl'))) (hm : ((r' = 0 ∧ ¬ wkOK 2 nN (IV (τ (80 + a)) 8) (IV (τ (80 + b)) 8) ∧ kMn 0 0 τ τ') ∨ (r' = 1 ∧ wkOK 2 nN (IV (τ (80 + a)) 8) (IV (τ (80 + b)) 8) ∧ IV (τ' (80 + t)) 8 = rp ψ nN (wkV ψ 2 (NV sN2) (IV (τ (80 + a)) 8) (IV (τ (80 + b)) 8)) ∧ kMn (80 + t) 0 τ τ'))) : r = r' ∧ RL φ ψ ρ' fl' τ' := by
  rw [← h.num h_a, ← h.num h_b] at hm
  rcases hc with ⟨c1, c2, c3⟩ | ⟨c1, c2, c4, c3⟩ <;> rcases hm with ⟨m1, m2, m3⟩ | ⟨m1, m2, m4, m3⟩
  · exact ⟨c1.trans m1.symm, h.nu c3 m3 (by omega) (by omega) (fun j hj hx => absurd hx (by omega))⟩
  · exact absurd m2 c2
  · exact absurd c2 m2
  · refine ⟨c1.trans m1.symm, h.nu c3 m3 (by omega) (by omega) (fun j hj hx => ?_)⟩
    have e : j = t := by omega
    subst e
    exact nmR_of (m4.trans c4.symm)
set_option maxHeartbeats 1000000 in
theorem rl_work_7 {F G : Type} [Lean.Grind.CommRing F] [Lean.Grind.CommRing G] {φ : Int → F} {inv : F → F} {ψ : Int → G} {ρ ρ' : Nat → Nat → Int64} {fl fl' : Nat → Int32} {τ τ' : Nat → Nat → Int32} (h : RL φ ψ ρ fl τ) {t : Nat} (h_t : t < 8) {a : Nat} (h_a : a < 8) {b : Nat} (h_b : b < 8) {r r' : Int32} (hc : ((r = 0 ∧ ¬ wkOK 3 nN (NV (ρ (2 + a))) (NV (ρ (2 + b))) ∧ kNu 0 0 ρ ρ' fl fl') ∨ (r = 1 ∧ wkOK 3 nN (NV (ρ (2 + a))) (NV (ρ (2 + b))) ∧ NV (ρ' (2 + t)) = rp ψ nN (wkV ψ 3 (NV sN2) (NV (ρ (2 + a))) (NV (ρ (2 + b)))) ∧ kNu (2 + t) 0 ρ ρ' fl fl'))) (hm : ((r' = 0 ∧ ¬ wkOK 3 nN (IV (τ (80 + a)) 8) (IV (τ (80 + b)) 8) ∧ kMn 0 0 τ τ') ∨ (r' = 1 ∧ wkOK 3 nN (IV (τ (80 + a)) 8) (IV (τ (80 + b)) 8) ∧ IV (τ' (80 + t)) 8 = rp ψ nN (wkV ψ 3 (NV sN2) (IV (τ (80 + a)) 8) (IV (τ (80 + b)) 8)) ∧ kMn (80 + t) 0 τ τ'))) : r = r' ∧ RL φ ψ ρ' fl' τ' := by
  rw [← h.num h_a, ← h.num h_b] at hm
  rcases hc with ⟨c1, c2, c3⟩ | ⟨c1, c2, c4, c3⟩ <;> rcases hm with ⟨m1, m2, m3⟩ | ⟨m1, m2, m4, m3⟩
  · exact ⟨c1.trans m1.symm, h.nu c3 m3 (by omega) (by omega) (fun j hj hx => absurd hx (by omega))⟩
  · exact absurd m2 c2
  · exact absurd c2 m2
  · refine ⟨c1.trans m1.symm, h.nu c3 m3 (by omega) (by omega) (fun j hj hx => ?_)⟩
    have e : j = t := by omega
    subst e
    exact nmR_of (m4.trans c4.symm)
set_option maxHeartbeats 1000000 in
theorem rl_lay {F G : Type} [Lean.Grind.CommRing F] [Lean.Grind.CommRing G] {φ : Int → F} {inv : F → F} {ψ : Int → G} {ρ ρ' : Nat → Nat → Int64} {fl fl' : Nat → Int32} {τ τ' : Nat → Nat → Int32} (h : RL φ ψ ρ fl τ) {t : Nat} (h_t : t < 4) {a : Nat} (h_a : a < 8) {b : Nat} (h_b : b < 8) {r r' : Int32} (hc : ((r = 0 ∧ ¬ ((NV (ρ (2 + a)) : Int) < nP ∧ (NV (ρ (2 + b)) : Int) < nP ∧ φ (NV (ρ (2 + b))) * φ (NV (ρ (2 + b))) = sqV (φ (NV (ρ (2 + a))))) ∧ kNu 0 0 ρ ρ' fl fl') ∨ (r = 1 ∧ ((NV (ρ (2 + a)) : Int) < nP ∧ (NV (ρ (2 + b)) : Int) < nP ∧ φ (NV (ρ (2 + b))) * φ (NV (ρ (2 + b))) = sqV (φ (NV (ρ (2 + a))))) ∧ ptR φ ρ' fl' (41 + 3 * t) (some (φ (NV (ρ (2 + a))), φ (NV (ρ (2 + b))))) ∧ kPt (41 + 3 * t) ρ ρ' fl fl'))) (hm : ((r' = 0 ∧ ¬ ((IV (τ (80 + a)) 8 : Int) < nP ∧ (IV (τ (80 + b)) 8 : Int) < nP ∧ (φ (IV (τ (80 + b)) 8)) * (φ (IV (τ (80 + b)) 8)) = sqV (φ (IV (τ (80 + a)) 8))) ∧ kMn 0 0 τ τ') ∨ (r' = 1 ∧ ((IV (τ (80 + a)) 8 : Int) < nP ∧ (IV (τ (80 + b)) 8 : Int) < nP ∧ (φ (IV (τ (80 + b)) 8)) * (φ (IV (τ (80 + b)) 8)) = sqV (φ (IV (τ (80 + a)) 8))) ∧ mpR φ τ' (115 + 4 * t) (some ((φ (IV (τ (80 + a)) 8)), (φ (IV (τ (80 + b)) 8)))) ∧ kMp (115 + 4 * t) τ τ'))) : r = r' ∧ RL φ ψ ρ' fl' τ' := by
  rw [← h.num h_a, ← h.num h_b] at hm
  rcases hc with ⟨c1, c2, c3⟩ | ⟨c1, c2, c4, c3⟩ <;> rcases hm with ⟨m1, m2, m3⟩ | ⟨m1, m2, m4, m3⟩
  · exact ⟨c1.trans m1.symm, h.nu c3 m3 (by omega) (by omega) (fun j hj hx => absurd hx (by omega))⟩
  · exact absurd m2 c2
  · exact absurd c2 m2
  · exact ⟨c1.trans m1.symm, h.pt h_t c3 m3 ⟨_, c4, m4⟩⟩
set_option maxHeartbeats 1000000 in
theorem rl_lift {F G : Type} [Lean.Grind.CommRing F] [Lean.Grind.CommRing G] {φ : Int → F} {inv : F → F} {ψ : Int → G} {ρ ρ' : Nat → Nat → Int64} {fl fl' : Nat → Int32} {τ τ' : Nat → Nat → Int32} (h : RL φ ψ ρ fl τ) {t : Nat} (h_t : t < 4) {a : Nat} (h_a : a < 8) {odd : Int32} {r r' : Int32} (hc : ((r = 0 ∧ ¬ ((NV (ρ (2 + a)) : Int) < nP ∧ (fp_pw (sqV (φ (NV (ρ (2 + a))))) (NV sRt)) * (fp_pw (sqV (φ (NV (ρ (2 + a))))) (NV sRt)) = sqV (φ (NV (ρ (2 + a))))) ∧ kNu 0 0 ρ ρ' fl fl') ∨ (r = 1 ∧ ((NV (ρ (2 + a)) : Int) < nP ∧ (fp_pw (sqV (φ (NV (ρ (2 + a))))) (NV sRt)) * (fp_pw (sqV (φ (NV (ρ (2 + a))))) (NV sRt)) = sqV (φ (NV (ρ (2 + a))))) ∧ ptR φ ρ' fl' (41 + 3 * t) (some ((φ (NV (ρ (2 + a)))), rtV φ (φ (NV (ρ (2 + a)))) odd)) ∧ kPt (41 + 3 * t) ρ ρ' fl fl'))) (hm : ((r' = 0 ∧ ¬ ((IV (τ (80 + a)) 8 : Int) < nP ∧ (fp_pw (sqV (φ (IV (τ (80 + a)) 8))) (NV sRt)) * (fp_pw (sqV (φ (IV (τ (80 + a)) 8))) (NV sRt)) = sqV (φ (IV (τ (80 + a)) 8))) ∧ kMn 0 0 τ τ') ∨ (r' = 1 ∧ ((IV (τ (80 + a)) 8 : Int) < nP ∧ (fp_pw (sqV (φ (IV (τ (80 + a)) 8))) (NV sRt)) * (fp_pw (sqV (φ (IV (τ (80 + a)) 8))) (NV sRt)) = sqV (φ (IV (τ (80 + a)) 8))) ∧ mpR φ τ' (115 + 4 * t) (some ((φ (IV (τ (80 + a)) 8)), rtV φ (φ (IV (τ (80 + a)) 8)) odd)) ∧ kMp (115 + 4 * t) τ τ'))) : r = r' ∧ RL φ ψ ρ' fl' τ' := by
  rw [← h.num h_a] at hm
  rcases hc with ⟨c1, c2, c3⟩ | ⟨c1, c2, c4, c3⟩ <;> rcases hm with ⟨m1, m2, m3⟩ | ⟨m1, m2, m4, m3⟩
  · exact ⟨c1.trans m1.symm, h.nu c3 m3 (by omega) (by omega) (fun j hj hx => absurd hx (by omega))⟩
  · exact absurd m2 c2
  · exact absurd c2 m2
  · exact ⟨c1.trans m1.symm, h.pt h_t c3 m3 ⟨_, c4, m4⟩⟩
set_option maxHeartbeats 1000000 in
theorem rl_show {F G : Type} [Lean.Grind.CommRing F] [Lean.Grind.CommRing G] {φ : Int → F} {inv : F → F} {ψ : Int → G} {ρ ρ' : Nat → Nat → Int64} {fl fl' : Nat → Int32} {τ τ' : Nat → Nat → Int32} (h : RL φ ψ ρ fl τ) {t : Nat} (h_t : t < 4) {a : Nat} (h_a : a < 8) {b : Nat} (h_b : b < 8) {pp : Option (F × F)} {r r' : Int32} (hc : ((r = 0 ∧ pp = none ∧ kNu 0 0 ρ ρ' fl fl') ∨ (r = 1 ∧ ∃ a0, pp = some a0 ∧ NV (ρ' (2 + b)) = rp φ nP a0.2 ∧ (a ≠ b → NV (ρ' (2 + a)) = rp φ nP a0.1) ∧ kNu (2 + a) (2 + b) ρ ρ' fl fl'))) (hm : ((r' = 0 ∧ pp = none ∧ kMn 0 0 τ τ') ∨ (r' = 1 ∧ ∃ a0, pp = some a0 ∧ IV (τ' (80 + b)) 8 = rp φ nP a0.2 ∧ (a ≠ b → IV (τ' (80 + a)) 8 = rp φ nP a0.1) ∧ kMn (80 + a) (80 + b) τ τ'))) : r = r' ∧ RL φ ψ ρ' fl' τ' := by
  rcases hc with ⟨c1, c2, c3⟩ | ⟨c1, a0, c2, c4, c5, c3⟩ <;> rcases hm with ⟨m1, m2, m3⟩ | ⟨m1, b0, m2, m4, m5, m3⟩
  · exact ⟨c1.trans m1.symm, h.nu c3 m3 (by omega) (by omega) (fun j hj hx => absurd hx (by omega))⟩
  · rw [c2] at m2
    cases m2
  · rw [m2] at c2
    cases c2
  · have e0 : a0 = b0 := Option.some.inj (c2.symm.trans m2)
    subst e0
    refine ⟨c1.trans m1.symm, h.nu c3 m3 (by omega) (by omega) (fun j hj hx => ?_)⟩
    by_cases e : j = b
    · subst e
      exact nmR_of (m4.trans c4.symm)
    · have e2 : j = a := by omega
      subst e2
      exact nmR_of ((m5 e).trans (c5 e).symm)
set_option maxHeartbeats 1000000 in
theorem rl_sign {F G : Type} [Lean.Grind.CommRing F] [Lean.Grind.CommRing G] {φ : Int → F} {inv : F → F} {ψ : Int → G} {ρ ρ' : Nat → Nat → Int64} {fl fl' : Nat → Int32} {τ τ' : Nat → Nat → Int32} (h : RL φ ψ ρ fl τ) {t : Nat} (h_t : t < 8) {u : Nat} (h_u : u < 8) {a : Nat} (h_a : a < 8) {b : Nat} (h_b : b < 8) {d : Nat} (h_d : d < 8) {g0 : F × F} {r r' : Int32} (hc : ((r = 0 ∧ ¬ (((NV (ρ (2 + a)) : Int) < nN ∧ ¬ NV (ρ (2 + a)) = 0) ∧ ((NV (ρ (2 + b)) : Int) < nN ∧ ¬ NV (ρ (2 + b)) = 0)) ∧ kNu 0 0 ρ ρ' fl fl') ∨ (r = 1 ∧ (((NV (ρ (2 + a)) : Int) < nN ∧ ¬ NV (ρ (2 + a)) = 0) ∧ ((NV (ρ (2 + b)) : Int) < nN ∧ ¬ NV (ρ (2 + b)) = 0)) ∧ ∃ a0, ec_nm inv (NV (ρ (2 + b))) (some g0) = some a0 ∧ NV (ρ' (2 + u)) = rp ψ nN ((ψ (NV (ρ (2 + a))) * (ψ (rp φ nP a0.1 : Nat)) + ψ (NV (ρ (2 + d)))) * fp_pw (ψ (NV (ρ (2 + b)))) (NV sN2)) ∧ (t ≠ u → NV (ρ' (2 + t)) = rp ψ nN (ψ (rp φ nP a0.1 : Nat))) ∧ kNu (2 + t) (2 + u) ρ ρ' fl fl'))) (hm : ((r' = 0 ∧ ¬ (((IV (τ (80 + a)) 8 : Int) < nN ∧ ¬ IV (τ (80 + a)) 8 = 0) ∧ ((IV (τ (80 + b)) 8 : Int) < nN ∧ ¬ IV (τ (80 + b)) 8 = 0)) ∧ kMn 0 0 τ τ') ∨ (r' = 1 ∧ (((IV (τ (80 + a)) 8 : Int) < nN ∧ ¬ IV (τ (80 + a)) 8 = 0) ∧ ((IV (τ (80 + b)) 8 : Int) < nN ∧ ¬ IV (τ (80 + b)) 8 = 0)) ∧ ∃ a0, ec_nm inv (IV (τ (80 + b)) 8) (some g0) = some a0 ∧ IV (τ' (80 + u)) 8 = rp ψ nN ((ψ (IV (τ (80 + a)) 8) * (ψ (rp φ nP a0.1 : Nat)) + ψ (IV (τ (80 + d)) 8)) * fp_pw (ψ (IV (τ (80 + b)) 8)) (NV sN2)) ∧ (t ≠ u → IV (τ' (80 + t)) 8 = rp ψ nN (ψ (rp φ nP a0.1 : Nat))) ∧ kMn (80 + t) (80 + u) τ τ'))) : r = r' ∧ RL φ ψ ρ' fl' τ' := by
  rw [← h.num h_a, ← h.num h_b, ← h.num h_d] at hm
  rcases hc with ⟨c1, c2, c3⟩ | ⟨c1, c2, a0, c6, c4, c5, c3⟩ <;> rcases hm with ⟨m1, m2, m3⟩ | ⟨m1, m2, b0, m6, m4, m5, m3⟩
  · exact ⟨c1.trans m1.symm, h.nu c3 m3 (by omega) (by omega) (fun j hj hx => absurd hx (by omega))⟩
  · exact absurd m2 c2
  · exact absurd c2 m2
  · have e0 : a0 = b0 := Option.some.inj (c6.symm.trans m6)
    subst e0
    refine ⟨c1.trans m1.symm, h.nu c3 m3 (by omega) (by omega) (fun j hj hx => ?_)⟩
    by_cases e : j = u
    · subst e
      exact nmR_of (m4.trans c4.symm)
    · have e2 : j = t := by omega
      subst e2
      exact nmR_of ((m5 e).trans (c5 e).symm)
set_option maxHeartbeats 1000000 in
theorem rl_verify {F G : Type} [Lean.Grind.CommRing F] [Lean.Grind.CommRing G] {φ : Int → F} {inv : F → F} {ψ : Int → G} {ρ ρ' : Nat → Nat → Int64} {fl fl' : Nat → Int32} {τ τ' : Nat → Nat → Int32} (h : RL φ ψ ρ fl τ) {t : Nat} (h_t : t < 4) {d : Nat} (h_d : d < 8) {a : Nat} (h_a : a < 8) {b : Nat} (h_b : b < 8) {g0 : F × F} {pp : Option (F × F)} {r r' : Int32} (hc : (((r = 0 ∧ ¬ (¬ pp = none ∧ ((NV (ρ (2 + a)) : Int) < nN ∧ ¬ NV (ρ (2 + a)) = 0) ∧ ((NV (ρ (2 + b)) : Int) < nN ∧ ¬ NV (ρ (2 + b)) = 0) ∧ ∃ a0, (ec_add inv (ec_nm inv (rp ψ nN (ψ (NV (ρ (2 + d))) * (fp_pw (ψ (NV (ρ (2 + b)))) (NV sN2)))) (some g0)) (ec_nm inv (rp ψ nN (ψ (NV (ρ (2 + a))) * (fp_pw (ψ (NV (ρ (2 + b)))) (NV sN2)))) pp)) = some a0 ∧ ψ (rp φ nP a0.1 : Nat) = ψ (NV (ρ (2 + a))))) ∨ (r = 1 ∧ (¬ pp = none ∧ ((NV (ρ (2 + a)) : Int) < nN ∧ ¬ NV (ρ (2 + a)) = 0) ∧ ((NV (ρ (2 + b)) : Int) < nN ∧ ¬ NV (ρ (2 + b)) = 0) ∧ ∃ a0, (ec_add inv (ec_nm inv (rp ψ nN (ψ (NV (ρ (2 + d))) * (fp_pw (ψ (NV (ρ (2 + b)))) (NV sN2)))) (some g0)) (ec_nm inv (rp ψ nN (ψ (NV (ρ (2 + a))) * (fp_pw (ψ (NV (ρ (2 + b)))) (NV sN2)))) pp)) = some a0 ∧ ψ (rp φ nP a0.1 : Nat) = ψ (NV (ρ (2 + a)))))) ∧ kNu 0 0 ρ ρ' fl fl')) (hm : ((r' = 0 ∧ ¬ (¬ pp = none ∧ ((IV (τ (80 + a)) 8 : Int) < nN ∧ ¬ IV (τ (80 + a)) 8 = 0) ∧ ((IV (τ (80 + b)) 8 : Int) < nN ∧ ¬ IV (τ (80 + b)) 8 = 0) ∧ ∃ a0, (ec_add inv (ec_nm inv (rp ψ nN (ψ (IV (τ (80 + d)) 8) * (fp_pw (ψ (IV (τ (80 + b)) 8)) (NV sN2)))) (some g0)) (ec_nm inv (rp ψ nN (ψ (IV (τ (80 + a)) 8) * (fp_pw (ψ (IV (τ (80 + b)) 8)) (NV sN2)))) pp)) = some a0 ∧ ψ (rp φ nP a0.1 : Nat) = ψ (IV (τ (80 + a)) 8))) ∨ (r' = 1 ∧ (¬ pp = none ∧ ((IV (τ (80 + a)) 8 : Int) < nN ∧ ¬ IV (τ (80 + a)) 8 = 0) ∧ ((IV (τ (80 + b)) 8 : Int) < nN ∧ ¬ IV (τ (80 + b)) 8 = 0) ∧ ∃ a0, (ec_add inv (ec_nm inv (rp ψ nN (ψ (IV (τ (80 + d)) 8) * (fp_pw (ψ (IV (τ (80 + b)) 8)) (NV sN2)))) (some g0)) (ec_nm inv (rp ψ nN (ψ (IV (τ (80 + a)) 8) * (fp_pw (ψ (IV (τ (80 + b)) 8)) (NV sN2)))) pp)) = some a0 ∧ ψ (rp φ nP a0.1 : Nat) = ψ (IV (τ (80 + a)) 8)))) ∧ kMn 0 0 τ τ') : r = r' ∧ RL φ ψ ρ' fl' τ' := by
  rw [← h.num h_a, ← h.num h_b, ← h.num h_d] at hm
  obtain ⟨hc, c3⟩ := hc
  obtain ⟨hm, m3⟩ := hm
  refine ⟨?_, h.nu c3 m3 (by omega) (by omega) (fun j hj hx => absurd hx (by omega))⟩
  rcases hc with ⟨c1, c2⟩ | ⟨c1, c2⟩ <;> rcases hm with ⟨m1, m2⟩ | ⟨m1, m2⟩
  · exact c1.trans m1.symm
  · exact absurd m2 c2
  · exact absurd c2 m2
  · exact c1.trans m1.symm
set_option maxHeartbeats 1000000 in
theorem rl_same {F G : Type} [Lean.Grind.CommRing F] [Lean.Grind.CommRing G] {φ : Int → F} {inv : F → F} {ψ : Int → G} {ρ ρ' : Nat → Nat → Int64} {fl fl' : Nat → Int32} {τ τ' : Nat → Nat → Int32} (h : RL φ ψ ρ fl τ) {a : Nat} (h_a : a < 4) {b : Nat} (h_b : b < 4) {pa pb : Option (F × F)} {r r' : Int32} (hc : (((r = 1 ∧ pa = pb) ∨ (r = 0 ∧ ¬ pa = pb)) ∧ ρ' = ρ ∧ fl' = fl)) (hm : ((r' = 1 ∧ pa = pb) ∨ (r' = 0 ∧ ¬ pa = pb)) ∧ kMn 0 0 τ τ') : r = r' ∧ RL φ ψ ρ' fl' τ' := by
  obtain ⟨hc, rfl, rfl⟩ := hc
  obtain ⟨hm, m3⟩ := hm
  have c3 := kNu.rf 0 0 ρ' fl'
  refine ⟨?_, h.nu c3 m3 (by omega) (by omega) (fun j hj hx => absurd hx (by omega))⟩
  rcases hc with ⟨c1, c2⟩ | ⟨c1, c2⟩ <;> rcases hm with ⟨m1, m2⟩ | ⟨m1, m2⟩
  · exact c1.trans m1.symm
  · exact absurd c2 m2
  · exact absurd m2 c2
  · exact c1.trans m1.symm
set_option maxHeartbeats 1000000 in
theorem rl_compare {F G : Type} [Lean.Grind.CommRing F] [Lean.Grind.CommRing G] {φ : Int → F} {inv : F → F} {ψ : Int → G} {ρ ρ' : Nat → Nat → Int64} {fl fl' : Nat → Int32} {τ τ' : Nat → Nat → Int32} (h : RL φ ψ ρ fl τ) {a : Nat} (h_a : a < 8) {b : Nat} (h_b : b < 8) {r r' : Int32} (hc : (r = cmN (NV (ρ (2 + a))) (NV (ρ (2 + b))) ∧ ρ' = ρ ∧ fl' = fl)) (hm : r' = cmN (IV (τ (80 + a)) 8) (IV (τ (80 + b)) 8) ∧ τ' = τ) : r = r' ∧ RL φ ψ ρ' fl' τ' := by
  obtain ⟨c1, rfl, rfl⟩ := hc
  obtain ⟨m1, rfl⟩ := hm
  exact ⟨by rw [c1, m1, h.num h_a, h.num h_b], h⟩
set_option maxHeartbeats 1000000 in
theorem rl_get {F G : Type} [Lean.Grind.CommRing F] [Lean.Grind.CommRing G] {φ : Int → F} {inv : F → F} {ψ : Int → G} {ρ ρ' : Nat → Nat → Int64} {fl fl' : Nat → Int32} {τ τ' : Nat → Nat → Int32} (h : RL φ ψ ρ fl τ) {a : Nat} (h_a : a < 8) {q : Nat} (h_q : q < 4) {r r' : Int64} (hc : (r = ρ (2 + a) q ∧ ρ' = ρ ∧ fl' = fl)) (hm : r' = ((((τ (80 + a) (2 * q + 1)).toInt64 &&& 4294967295) <<< ((32 : Int32).toInt64 &&& 63)) ||| ((τ (80 + a) (2 * q)).toInt64 &&& 4294967295)) ∧ τ' = τ) : r = r' ∧ RL φ ψ ρ' fl' τ' := by
  obtain ⟨c1, rfl, rfl⟩ := hc
  obtain ⟨m1, rfl⟩ := hm
  exact ⟨by rw [c1, m1]; exact ((h.1 a h_a).get h_q).symm, h⟩
set_option maxHeartbeats 1000000 in
theorem rl_set {F G : Type} [Lean.Grind.CommRing F] [Lean.Grind.CommRing G] {φ : Int → F} {inv : F → F} {ψ : Int → G} {ρ ρ' : Nat → Nat → Int64} {fl fl' : Nat → Int32} {τ τ' : Nat → Nat → Int32} (h : RL φ ψ ρ fl τ) {r : Nat} (h_r : r < 8) {q : Nat} (h_q : q < 4) {v : Int64} (hc : (ρ' = va_up ρ (2 + r) (vp_updL (ρ (2 + r)) q v) ∧ fl' = fl)) (hm : τ' (80 + r) = upd (upd (τ (80 + r)) (2 * q) v.toInt32) (2 * q + 1) (v.toUInt64 >>> ((32 : Int32).toInt64.toUInt64 &&& Int64.toUInt64 63)).toInt64.toInt32 ∧ kt (80 + r) τ τ') : RL φ ψ ρ' fl' τ' := by
  obtain ⟨c1, rfl⟩ := hc
  obtain ⟨m1, m3⟩ := hm
  refine h.nu (t := 2 + r) (u := 0) (T := 80 + r) (U := 0) ⟨fun j _ hj _ => by rw [c1, vu_n hj], fun _ _ => rfl⟩ (fun j _ hj _ => m3 j hj) (by omega) (by omega) (fun j hj hx => ?_)
  have e : j = r := by omega
  subst e
  rw [c1, vu_s, m1]
  exact (h.1 j h_r).set q v
set_option maxHeartbeats 1000000 in
theorem rl_base {F G : Type} [Lean.Grind.CommRing F] [Lean.Grind.CommRing G] {φ : Int → F} {inv : F → F} {ψ : Int → G} {ρ ρ' : Nat → Nat → Int64} {fl fl' : Nat → Int32} {τ τ' : Nat → Nat → Int32} (h : RL φ ψ ρ fl τ) {t : Nat} (h_t : t < 4) {g0 : F × F} (hc : (ptR φ ρ' fl' (41 + 3 * t) (some g0) ∧ kPt (41 + 3 * t) ρ ρ' fl fl')) (hm : mpR φ τ' (115 + 4 * t) (some g0) ∧ kMp (115 + 4 * t) τ τ') : RL φ ψ ρ' fl' τ' := by
  exact h.pt h_t hc.2 hm.2 ⟨_, hc.1, hm.1⟩
set_option maxHeartbeats 1000000 in
theorem rl_none {F G : Type} [Lean.Grind.CommRing F] [Lean.Grind.CommRing G] {φ : Int → F} {inv : F → F} {ψ : Int → G} {ρ ρ' : Nat → Nat → Int64} {fl fl' : Nat → Int32} {τ τ' : Nat → Nat → Int32} (h : RL φ ψ ρ fl τ) {t : Nat} (h_t : t < 4) (hc : (ptR φ ρ' fl' (41 + 3 * t) none ∧ kPt (41 + 3 * t) ρ ρ' fl fl')) (hm : mpR φ τ' (115 + 4 * t) none ∧ kMp (115 + 4 * t) τ τ') : RL φ ψ ρ' fl' τ' := by
  exact h.pt h_t hc.2 hm.2 ⟨_, hc.1, hm.1⟩
set_option maxHeartbeats 1000000 in
theorem rl_add {F G : Type} [Lean.Grind.CommRing F] [Lean.Grind.CommRing G] {φ : Int → F} {inv : F → F} {ψ : Int → G} {ρ ρ' : Nat → Nat → Int64} {fl fl' : Nat → Int32} {τ τ' : Nat → Nat → Int32} (h : RL φ ψ ρ fl τ) {t : Nat} (h_t : t < 4) {a : Nat} (h_a : a < 4) {b : Nat} (h_b : b < 4) {pa pb : Option (F × F)} (hc : (ptR φ ρ' fl' (41 + 3 * t) (ec_add inv pa pb) ∧ kPt (41 + 3 * t) ρ ρ' fl fl')) (hm : mpR φ τ' (115 + 4 * t) (ec_add inv pa pb) ∧ kMp (115 + 4 * t) τ τ') : RL φ ψ ρ' fl' τ' := by
  exact h.pt h_t hc.2 hm.2 ⟨_, hc.1, hm.1⟩
set_option maxHeartbeats 1000000 in
theorem rl_times {F G : Type} [Lean.Grind.CommRing F] [Lean.Grind.CommRing G] {φ : Int → F} {inv : F → F} {ψ : Int → G} {ρ ρ' : Nat → Nat → Int64} {fl fl' : Nat → Int32} {τ τ' : Nat → Nat → Int32} (h : RL φ ψ ρ fl τ) {t : Nat} (h_t : t < 4) {b : Nat} (h_b : b < 8) {a : Nat} (h_a : a < 4) {pa : Option (F × F)} (hc : (ptR φ ρ' fl' (41 + 3 * t) (ec_nm inv (NV (ρ (2 + b))) pa) ∧ kPt (41 + 3 * t) ρ ρ' fl fl')) (hm : mpR φ τ' (115 + 4 * t) (ec_nm inv (IV (τ (80 + b)) 8) pa) ∧ kMp (115 + 4 * t) τ τ') : RL φ ψ ρ' fl' τ' := by
  rw [← h.num h_b] at hm
  exact h.pt h_t hc.2 hm.2 ⟨_, hc.1, hm.1⟩
