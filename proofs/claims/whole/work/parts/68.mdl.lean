/-! PointBenchModel: points: written by wip/gen/mdl.py -/
set_option maxHeartbeats 1000000 in
theorem q_Rpt_take (l : Launch) (E : gm_E) (N : gm_M) (τ : Nat → Nat → Int32) (cd : Int32) {t u : Nat} (hP : isQ t) (hQ : isQ u) : cv_ l y_Rpt_take b_Rpt_take 2 none { frames := 1, cells := 0, slots := 0, locals := 22 } E (mW E N τ cd) [.ref (E.2.1 + t), .ref (E.2.1 + u)] (fun M' => ∃ τ', M' = mW E N τ' cd ∧ (τ' (t + 1) = τ (u + 1) ∧ τ' (t + 2) = τ (u + 2) ∧ τ' (t + 3) = τ (u + 3)) ∧ ∀ j, ¬ (t < j ∧ j < t + 4) → τ' j = τ j) := by
  have hO := hP.o
  have hO2 := hQ.o
  refine gm_met (by decide) (Nat.le_of_ble_eq_true rfl) (fun p e s m below meth c ls hx hb hml hr2 hlk hnm hown hW X hl => ?_)
  have hl : lv_has ls 2 [(0, .ref (E.2.1 + t)), (1, .ref (E.2.1 + u))] := hl
  refine lv_aload_n hx hb d_Rpt_take_0 rfl (lv_at hl 1 rfl) ?_
  refine gm_get hx hb hW hown X u_Rpt (oQ hQ) rfl 0 (by decide) wf_Rpt_7 (v := .ref (E.2.1 + (u + 1))) rfl d_Rpt_take_1 ?_
  refine lv_aload_n hx hb d_Rpt_take_4 rfl (lv_at hl 0 rfl) ?_
  refine gm_get hx hb hW hown X u_Rpt (oQ hP) rfl 0 (by decide) wf_Rpt_7 (v := .ref (E.2.1 + (t + 1))) rfl d_Rpt_take_5 ?_
  refine gm_Sv hx hb hml hown hW X (q_copy l (isQ.x hP) (isQ.x hQ)) (n := 2) ⟨⟨wl_Rpt_19, ws_Rng_copy, winit_Rng, wc_Rng_copy⟩, by decide +kernel, Nat.le_of_ble_eq_true rfl, Nat.le_of_ble_eq_true rfl⟩ rfl hl.1 rfl (Nat.le_of_ble_eq_true rfl) d_Rpt_take_8 ⟨Nat.le_of_ble_eq_true rfl, Nat.le_of_ble_eq_true rfl⟩ (fun M1 H locs hp X => ?_)
  obtain ⟨τ1, rfl, q1, kk1⟩ := hp
  refine lv_aload_n hx hb d_Rpt_take_11 rfl (lv_at hl 1 rfl) ?_
  refine gm_get hx hb hW hown X u_Rpt (oQ hQ) rfl 1 (by decide) wf_Rpt_13 (v := .ref (E.2.1 + (u + 2))) rfl d_Rpt_take_12 ?_
  refine lv_aload_n hx hb d_Rpt_take_15 rfl (lv_at hl 0 rfl) ?_
  refine gm_get hx hb hW hown X u_Rpt (oQ hP) rfl 1 (by decide) wf_Rpt_13 (v := .ref (E.2.1 + (t + 2))) rfl d_Rpt_take_16 ?_
  refine gm_Sv hx hb hml hown hW X (q_copy l (isQ.y hP) (isQ.y hQ)) (n := 2) ⟨⟨wl_Rpt_19, ws_Rng_copy, winit_Rng, wc_Rng_copy⟩, by decide +kernel, Nat.le_of_ble_eq_true rfl, Nat.le_of_ble_eq_true rfl⟩ rfl hl.1 rfl (Nat.le_of_ble_eq_true rfl) d_Rpt_take_19 ⟨Nat.le_of_ble_eq_true rfl, Nat.le_of_ble_eq_true rfl⟩ (fun M1 H locs hp X => ?_)
  obtain ⟨τ2, rfl, q2, kk2⟩ := hp
  refine lv_aload_n hx hb d_Rpt_take_22 rfl (lv_at hl 1 rfl) ?_
  refine gm_get hx hb hW hown X u_Rpt (oQ hQ) rfl 2 (by decide) wf_Rpt_16 (v := .ref (E.2.1 + (u + 3))) rfl d_Rpt_take_23 ?_
  refine lv_aload_n hx hb d_Rpt_take_26 rfl (lv_at hl 0 rfl) ?_
  refine gm_get hx hb hW hown X u_Rpt (oQ hP) rfl 2 (by decide) wf_Rpt_16 (v := .ref (E.2.1 + (t + 3))) rfl d_Rpt_take_27 ?_
  refine gm_Sv hx hb hml hown hW X (q_copy l (isQ.z hP) (isQ.z hQ)) (n := 2) ⟨⟨wl_Rpt_19, ws_Rng_copy, winit_Rng, wc_Rng_copy⟩, by decide +kernel, Nat.le_of_ble_eq_true rfl, Nat.le_of_ble_eq_true rfl⟩ rfl hl.1 rfl (Nat.le_of_ble_eq_true rfl) d_Rpt_take_30 ⟨Nat.le_of_ble_eq_true rfl, Nat.le_of_ble_eq_true rfl⟩ (fun M1 H locs hp X => ?_)
  obtain ⟨τ3, rfl, q3, kk3⟩ := hp
  refine gm_vret hx hb hr2 hlk X ⟨_, rfl, ⟨?_, ?_, ?_⟩, fun j hj => by rw [kk3 j (by omega), kk2 j (by omega), kk1 j (by omega)]⟩ d_Rpt_take_33
  · rw [kk3 (t + 1) (by omega), kk2 (t + 1) (by omega), q1]
  · rw [kk3 (t + 2) (by omega), q2, kk1 (u + 2) (by omega)]
  · rw [q3, kk2 (u + 3) (by omega), kk1 (u + 3) (by omega)]
set_option maxHeartbeats 4000000 in
theorem q_Mdl_doubled {F : Type} [Lean.Grind.CommRing F] {φ : Int → F} {inv : F → F} (l : Launch) (E : gm_E) (N : gm_M) (τ : Nat → Nat → Int32) (cd : Int32) (hk : fk φ inv) {Ri : F} (hR : φ (tq 8) * Ri = 1) (hr : isR φ nP 99 τ) {t : Nat} {p : Option (F × F)} (hT : t = 63 ∨ t = 89) (hs : mpR φ τ t p) : cv_ l y_Mdl_doubled b_Mdl_doubled 2 none { frames := 2, cells := 0, slots := 0, locals := 52 } E (mW E N τ cd) [.ref (E.2.1 + 53), .ref (E.2.1 + t)] (fun M' => ∃ τ', M' = mW E N τ' cd ∧ mpR φ τ' t (ec_add inv p p) ∧ kD t τ τ') := by
  have hP : isQ t := by rcases hT with rfl | rfl <;> simp [isQ]
  cases p with
  | none =>
    have hf := hk.fm
    have hpP := rPl_P E
    refine gm_met (by decide) (Nat.le_of_ble_eq_true rfl) (fun p e s m below meth c ls hx hb hml hr2 hlk hnm hown hW X hl => ?_)
    have hl : lv_has ls 2 [(0, .ref (E.2.1 + 53)), (1, .ref (E.2.1 + t))] := hl
    have h0 : MV φ nP (τ (t + 3)) 0 := hs
    refine lv_aload_n hx hb d_Mdl_doubled_0 rfl (lv_at hl 1 rfl) ?_
    refine gm_getN hx hb hW hown X u_Rpt (oQ hP) rfl 2 (by decide) wfn_Mdl_1 (v := .ref (E.2.1 + (t + 3))) rfl d_Mdl_doubled_1 ?_
    refine gm_Si hx hb hml hown hW X (q_isZero l hf hR (isQ.z hP) h0) (n := 1) ⟨⟨wl_Mdl_7, ws_Rng_isZero, winit_Rng, wc_Rng_isZero⟩, by decide +kernel, Nat.le_of_ble_eq_true rfl, Nat.le_of_ble_eq_true rfl⟩ rfl hl.1 rfl (Nat.le_of_ble_eq_true rfl) d_Mdl_doubled_4 ⟨Nat.le_of_ble_eq_true rfl, Nat.le_of_ble_eq_true rfl⟩ (fun r M1 H locs hp X => ?_)
    rw [hp.1] at X
    have hz : r = 1 := by rcases hp.2 with z | z; exact z.1; exact absurd (rfl : (0 : F) = 0) z.2
    refine lv_if_eq (tgt := 11) hx hb d_Mdl_doubled_7 (by decide) (fun c9 => absurd (hz.symm.trans c9) (by decide)) (fun _ => ?_)
    exact gm_vret hx hb hr2 hlk X ⟨τ, rfl, h0, kD.rf _ _⟩ d_Mdl_doubled_10
  | some a =>
    have hf := hk.fm
    have hpP := rPl_P E
    refine gm_met (by decide) (Nat.le_of_ble_eq_true rfl) (fun p e s m below meth c ls hx hb hml hr2 hlk hnm hown hW X hl => ?_)
    have hl : lv_has ls 2 [(0, .ref (E.2.1 + 53)), (1, .ref (E.2.1 + t))] := hl
    obtain ⟨ho, x, y, z, hX, hY, hZ, hj⟩ := hs
    refine lv_aload_n hx hb d_Mdl_doubled_0 rfl (lv_at hl 1 rfl) ?_
    refine gm_getN hx hb hW hown X u_Rpt (oQ hP) rfl 2 (by decide) wfn_Mdl_1 (v := .ref (E.2.1 + (t + 3))) rfl d_Mdl_doubled_1 ?_
    refine gm_Si hx hb hml hown hW X (q_isZero l hf hR (isQ.z hP) hZ) (n := 1) ⟨⟨wl_Mdl_7, ws_Rng_isZero, winit_Rng, wc_Rng_isZero⟩, by decide +kernel, Nat.le_of_ble_eq_true rfl, Nat.le_of_ble_eq_true rfl⟩ rfl hl.1 rfl (Nat.le_of_ble_eq_true rfl) d_Mdl_doubled_4 ⟨Nat.le_of_ble_eq_true rfl, Nat.le_of_ble_eq_true rfl⟩ (fun r M1 H locs hp X => ?_)
    rw [hp.1] at X
    have hz : r = 0 := by rcases hp.2 with z | z; exact absurd z.2 hj.1; exact z.1
    refine lv_if_eq (tgt := 11) hx hb d_Mdl_doubled_7 (by decide) (fun _ => ?_) (fun c9 => absurd hz c9)
    refine lv_aload_n hx hb d_Mdl_doubled_11 rfl (lv_at hl 0 rfl) ?_
    refine gm_get hx hb hW hown X u_Mdl m53 rfl 0 (by decide) wf_Mdl_13 (v := .ref (E.2.1 + 99)) rfl d_Mdl_doubled_12 ?_
    refine lv_aload_n hx hb d_Mdl_doubled_15 rfl (lv_at hl 1 rfl) ?_
    refine gm_getN hx hb hW hown X u_Rpt (oQ hP) rfl 1 (by decide) wfn_Mdl_19 (v := .ref (E.2.1 + (t + 2))) rfl d_Mdl_doubled_16 ?_
    refine lv_aload_n hx hb d_Mdl_doubled_19 rfl (lv_at hl 1 rfl) ?_
    refine gm_getN hx hb hW hown X u_Rpt (oQ hP) rfl 1 (by decide) wfn_Mdl_19 (v := .ref (E.2.1 + (t + 2))) rfl d_Mdl_doubled_20 ?_
    refine lv_aload_n hx hb d_Mdl_doubled_23 rfl (lv_at hl 0 rfl) ?_
    refine gm_get hx hb hW hown X u_Mdl m53 rfl 7 (by decide) wf_Mdl_22 (v := .ref (E.2.1 + 71)) rfl d_Mdl_doubled_24 ?_
    refine gm_Vv hx hb hml hown hW X m99 (q_mul l hpP hf hR hr (by decide) (isQ.y hP) (isQ.y hP) (by omega) hY hY) (n := 3) ⟨⟨wl_Mdl_25, wi_Rng_multiply, wsel_Rng_multiply, winit_Rng, wc_Rng_multiply⟩, by decide +kernel, ⟨Nat.le_of_ble_eq_true rfl, Nat.le_of_ble_eq_true rfl⟩, _, rfl, rfl⟩ rfl hl.1 rfl (Nat.le_of_ble_eq_true rfl) d_Mdl_doubled_27 ⟨Nat.le_of_ble_eq_true rfl, Nat.le_of_ble_eq_true rfl⟩ (fun M1 H locs hp X => ?_)
    obtain ⟨τ1, rfl, q1, kk1⟩ := hp
    have mt1_1 : MV φ nP (τ1 (t + 1)) x := by rw [kk1 (t + 1) (by omega) (by omega)]; exact hX
    have mt2_1 : MV φ nP (τ1 (t + 2)) y := by rw [kk1 (t + 2) (by omega) (by omega)]; exact hY
    have mt3_1 : MV φ nP (τ1 (t + 3)) z := by rw [kk1 (t + 3) (by omega) (by omega)]; exact hZ
    have R_1 : isR φ nP 99 τ1 := hr.kp (fun j h1 h2 => kk1 j (by omega) (by omega))
    have m71_1 : MV φ nP (τ1 71) (y * y) := q1
    refine lv_aload_n hx hb d_Mdl_doubled_30 rfl (lv_at hl 0 rfl) ?_
    refine gm_get hx hb hW hown X u_Mdl m53 rfl 0 (by decide) wf_Mdl_13 (v := .ref (E.2.1 + 99)) rfl d_Mdl_doubled_31 ?_
    refine lv_aload_n hx hb d_Mdl_doubled_34 rfl (lv_at hl 1 rfl) ?_
    refine gm_getN hx hb hW hown X u_Rpt (oQ hP) rfl 0 (by decide) wfn_Mdl_29 (v := .ref (E.2.1 + (t + 1))) rfl d_Mdl_doubled_35 ?_
    refine lv_aload_n hx hb d_Mdl_doubled_38 rfl (lv_at hl 0 rfl) ?_
    refine gm_get hx hb hW hown X u_Mdl m53 rfl 7 (by decide) wf_Mdl_22 (v := .ref (E.2.1 + 71)) rfl d_Mdl_doubled_39 ?_
    refine lv_aload_n hx hb d_Mdl_doubled_42 rfl (lv_at hl 0 rfl) ?_
    refine gm_get hx hb hW hown X u_Mdl m53 rfl 8 (by decide) wf_Mdl_32 (v := .ref (E.2.1 + 72)) rfl d_Mdl_doubled_43 ?_
    refine gm_Vv hx hb hml hown hW X m99 (q_mul l hpP hf hR R_1 (by decide) (isQ.x hP) (by decide) (by omega) mt1_1 m71_1) (n := 3) ⟨⟨wl_Mdl_25, wi_Rng_multiply, wsel_Rng_multiply, winit_Rng, wc_Rng_multiply⟩, by decide +kernel, ⟨Nat.le_of_ble_eq_true rfl, Nat.le_of_ble_eq_true rfl⟩, _, rfl, rfl⟩ rfl hl.1 rfl (Nat.le_of_ble_eq_true rfl) d_Mdl_doubled_46 ⟨Nat.le_of_ble_eq_true rfl, Nat.le_of_ble_eq_true rfl⟩ (fun M1 H locs hp X => ?_)
    obtain ⟨τ2, rfl, q2, kk2⟩ := hp
    have mt1_2 : MV φ nP (τ2 (t + 1)) x := by rw [kk2 (t + 1) (by omega) (by omega)]; exact mt1_1
    have mt2_2 : MV φ nP (τ2 (t + 2)) y := by rw [kk2 (t + 2) (by omega) (by omega)]; exact mt2_1
    have mt3_2 : MV φ nP (τ2 (t + 3)) z := by rw [kk2 (t + 3) (by omega) (by omega)]; exact mt3_1
    have m71_2 : MV φ nP (τ2 71) (y * y) := by rw [kk2 71 (by omega) (by omega)]; exact m71_1
    have R_2 : isR φ nP 99 τ2 := R_1.kp (fun j h1 h2 => kk2 j (by omega) (by omega))
    have m72_2 : MV φ nP (τ2 72) (x * (y * y)) := q2
    refine lv_aload_n hx hb d_Mdl_doubled_49 rfl (lv_at hl 0 rfl) ?_
    refine gm_get hx hb hW hown X u_Mdl m53 rfl 0 (by decide) wf_Mdl_13 (v := .ref (E.2.1 + 99)) rfl d_Mdl_doubled_50 ?_
    refine lv_aload_n hx hb d_Mdl_doubled_53 rfl (lv_at hl 0 rfl) ?_
    refine gm_get hx hb hW hown X u_Mdl m53 rfl 8 (by decide) wf_Mdl_32 (v := .ref (E.2.1 + 72)) rfl d_Mdl_doubled_54 ?_
    refine lv_aload_n hx hb d_Mdl_doubled_57 rfl (lv_at hl 0 rfl) ?_
    refine gm_get hx hb hW hown X u_Mdl m53 rfl 8 (by decide) wf_Mdl_32 (v := .ref (E.2.1 + 72)) rfl d_Mdl_doubled_58 ?_
    refine lv_aload_n hx hb d_Mdl_doubled_61 rfl (lv_at hl 0 rfl) ?_
    refine gm_get hx hb hW hown X u_Mdl m53 rfl 8 (by decide) wf_Mdl_32 (v := .ref (E.2.1 + 72)) rfl d_Mdl_doubled_62 ?_
    refine gm_Vv hx hb hml hown hW X m99 (q_add l hpP hf R_2 (by decide) (by decide) (by decide) (by omega) m72_2 m72_2) (n := 3) ⟨⟨wl_Mdl_35, wi_Rng_add, wsel_Rng_add, winit_Rng, wc_Rng_add⟩, by decide +kernel, ⟨Nat.le_of_ble_eq_true rfl, Nat.le_of_ble_eq_true rfl⟩, _, rfl, rfl⟩ rfl hl.1 rfl (Nat.le_of_ble_eq_true rfl) d_Mdl_doubled_65 ⟨Nat.le_of_ble_eq_true rfl, Nat.le_of_ble_eq_true rfl⟩ (fun M1 H locs hp X => ?_)
    obtain ⟨τ3, rfl, q3, kk3⟩ := hp
    have mt1_3 : MV φ nP (τ3 (t + 1)) x := by rw [kk3 (t + 1) (by omega) (by omega)]; exact mt1_2
    have mt2_3 : MV φ nP (τ3 (t + 2)) y := by rw [kk3 (t + 2) (by omega) (by omega)]; exact mt2_2
    have mt3_3 : MV φ nP (τ3 (t + 3)) z := by rw [kk3 (t + 3) (by omega) (by omega)]; exact mt3_2
    have m71_3 : MV φ nP (τ3 71) (y * y) := by rw [kk3 71 (by omega) (by omega)]; exact m71_2
    have R_3 : isR φ nP 99 τ3 := R_2.kp (fun j h1 h2 => kk3 j (by omega) (by omega))
    have m72_3 : MV φ nP (τ3 72) ((x * (y * y)) + (x * (y * y))) := q3
    refine lv_aload_n hx hb d_Mdl_doubled_68 rfl (lv_at hl 0 rfl) ?_
    refine gm_get hx hb hW hown X u_Mdl m53 rfl 0 (by decide) wf_Mdl_13 (v := .ref (E.2.1 + 99)) rfl d_Mdl_doubled_69 ?_
    refine lv_aload_n hx hb d_Mdl_doubled_72 rfl (lv_at hl 0 rfl) ?_
    refine gm_get hx hb hW hown X u_Mdl m53 rfl 8 (by decide) wf_Mdl_32 (v := .ref (E.2.1 + 72)) rfl d_Mdl_doubled_73 ?_
    refine lv_aload_n hx hb d_Mdl_doubled_76 rfl (lv_at hl 0 rfl) ?_
    refine gm_get hx hb hW hown X u_Mdl m53 rfl 8 (by decide) wf_Mdl_32 (v := .ref (E.2.1 + 72)) rfl d_Mdl_doubled_77 ?_
    refine lv_aload_n hx hb d_Mdl_doubled_80 rfl (lv_at hl 0 rfl) ?_
    refine gm_get hx hb hW hown X u_Mdl m53 rfl 8 (by decide) wf_Mdl_32 (v := .ref (E.2.1 + 72)) rfl d_Mdl_doubled_81 ?_
    refine gm_Vv hx hb hml hown hW X m99 (q_add l hpP hf R_3 (by decide) (by decide) (by decide) (by omega) m72_3 m72_3) (n := 3) ⟨⟨wl_Mdl_35, wi_Rng_add, wsel_Rng_add, winit_Rng, wc_Rng_add⟩, by decide +kernel, ⟨Nat.le_of_ble_eq_true rfl, Nat.le_of_ble_eq_true rfl⟩, _, rfl, rfl⟩ rfl hl.1 rfl (Nat.le_of_ble_eq_true rfl) d_Mdl_doubled_84 ⟨Nat.le_of_ble_eq_true rfl, Nat.le_of_ble_eq_true rfl⟩ (fun M1 H locs hp X => ?_)
    obtain ⟨τ4, rfl, q4, kk4⟩ := hp
    have mt1_4 : MV φ nP (τ4 (t + 1)) x := by rw [kk4 (t + 1) (by omega) (by omega)]; exact mt1_3
    have mt2_4 : MV φ nP (τ4 (t + 2)) y := by rw [kk4 (t + 2) (by omega) (by omega)]; exact mt2_3
    have mt3_4 : MV φ nP (τ4 (t + 3)) z := by rw [kk4 (t + 3) (by omega) (by omega)]; exact mt3_3
    have m71_4 : MV φ nP (τ4 71) (y * y) := by rw [kk4 71 (by omega) (by omega)]; exact m71_3
    have R_4 : isR φ nP 99 τ4 := R_3.kp (fun j h1 h2 => kk4 j (by omega) (by omega))
    have m72_4 : MV φ nP (τ4 72) (((x * (y * y)) + (x * (y * y))) + ((x * (y * y)) + (x * (y * y)))) := q4
    refine lv_aload_n hx hb d_Mdl_doubled_87 rfl (lv_at hl 0 rfl) ?_
    refine gm_get hx hb hW hown X u_Mdl m53 rfl 0 (by decide) wf_Mdl_13 (v := .ref (E.2.1 + 99)) rfl d_Mdl_doubled_88 ?_
    refine lv_aload_n hx hb d_Mdl_doubled_91 rfl (lv_at hl 0 rfl) ?_
    refine gm_get hx hb hW hown X u_Mdl m53 rfl 7 (by decide) wf_Mdl_22 (v := .ref (E.2.1 + 71)) rfl d_Mdl_doubled_92 ?_
    refine lv_aload_n hx hb d_Mdl_doubled_95 rfl (lv_at hl 0 rfl) ?_
    refine gm_get hx hb hW hown X u_Mdl m53 rfl 7 (by decide) wf_Mdl_22 (v := .ref (E.2.1 + 71)) rfl d_Mdl_doubled_96 ?_
    refine lv_aload_n hx hb d_Mdl_doubled_99 rfl (lv_at hl 0 rfl) ?_
    refine gm_get hx hb hW hown X u_Mdl m53 rfl 9 (by decide) wf_Mdl_38 (v := .ref (E.2.1 + 73)) rfl d_Mdl_doubled_100 ?_
    refine gm_Vv hx hb hml hown hW X m99 (q_mul l hpP hf hR R_4 (by decide) (by decide) (by decide) (by omega) m71_4 m71_4) (n := 3) ⟨⟨wl_Mdl_25, wi_Rng_multiply, wsel_Rng_multiply, winit_Rng, wc_Rng_multiply⟩, by decide +kernel, ⟨Nat.le_of_ble_eq_true rfl, Nat.le_of_ble_eq_true rfl⟩, _, rfl, rfl⟩ rfl hl.1 rfl (Nat.le_of_ble_eq_true rfl) d_Mdl_doubled_103 ⟨Nat.le_of_ble_eq_true rfl, Nat.le_of_ble_eq_true rfl⟩ (fun M1 H locs hp X => ?_)
    obtain ⟨τ5, rfl, q5, kk5⟩ := hp
    have mt1_5 : MV φ nP (τ5 (t + 1)) x := by rw [kk5 (t + 1) (by omega) (by omega)]; exact mt1_4
    have mt2_5 : MV φ nP (τ5 (t + 2)) y := by rw [kk5 (t + 2) (by omega) (by omega)]; exact mt2_4
    have mt3_5 : MV φ nP (τ5 (t + 3)) z := by rw [kk5 (t + 3) (by omega) (by omega)]; exact mt3_4
    have m71_5 : MV φ nP (τ5 71) (y * y) := by rw [kk5 71 (by omega) (by omega)]; exact m71_4
    have m72_5 : MV φ nP (τ5 72) (((x * (y * y)) + (x * (y * y))) + ((x * (y * y)) + (x * (y * y)))) := by rw [kk5 72 (by omega) (by omega)]; exact m72_4
    have R_5 : isR φ nP 99 τ5 := R_4.kp (fun j h1 h2 => kk5 j (by omega) (by omega))
    have m73_5 : MV φ nP (τ5 73) ((y * y) * (y * y)) := q5
    refine lv_aload_n hx hb d_Mdl_doubled_106 rfl (lv_at hl 0 rfl) ?_
    refine gm_get hx hb hW hown X u_Mdl m53 rfl 0 (by decide) wf_Mdl_13 (v := .ref (E.2.1 + 99)) rfl d_Mdl_doubled_107 ?_
    refine lv_aload_n hx hb d_Mdl_doubled_110 rfl (lv_at hl 0 rfl) ?_
    refine gm_get hx hb hW hown X u_Mdl m53 rfl 9 (by decide) wf_Mdl_38 (v := .ref (E.2.1 + 73)) rfl d_Mdl_doubled_111 ?_
    refine lv_aload_n hx hb d_Mdl_doubled_114 rfl (lv_at hl 0 rfl) ?_
    refine gm_get hx hb hW hown X u_Mdl m53 rfl 9 (by decide) wf_Mdl_38 (v := .ref (E.2.1 + 73)) rfl d_Mdl_doubled_115 ?_
    refine lv_aload_n hx hb d_Mdl_doubled_118 rfl (lv_at hl 0 rfl) ?_
    refine gm_get hx hb hW hown X u_Mdl m53 rfl 9 (by decide) wf_Mdl_38 (v := .ref (E.2.1 + 73)) rfl d_Mdl_doubled_119 ?_
    refine gm_Vv hx hb hml hown hW X m99 (q_add l hpP hf R_5 (by decide) (by decide) (by decide) (by omega) m73_5 m73_5) (n := 3) ⟨⟨wl_Mdl_35, wi_Rng_add, wsel_Rng_add, winit_Rng, wc_Rng_add⟩, by decide +kernel, ⟨Nat.le_of_ble_eq_true rfl, Nat.le_of_ble_eq_true rfl⟩, _, rfl, rfl⟩ rfl hl.1 rfl (Nat.le_of_ble_eq_true rfl) d_Mdl_doubled_122 ⟨Nat.le_of_ble_eq_true rfl, Nat.le_of_ble_eq_true rfl⟩ (fun M1 H locs hp X => ?_)
    obtain ⟨τ6, rfl, q6, kk6⟩ := hp
    have mt1_6 : MV φ nP (τ6 (t + 1)) x := by rw [kk6 (t + 1) (by omega) (by omega)]; exact mt1_5
    have mt2_6 : MV φ nP (τ6 (t + 2)) y := by rw [kk6 (t + 2) (by omega) (by omega)]; exact mt2_5
    have mt3_6 : MV φ nP (τ6 (t + 3)) z := by rw [kk6 (t + 3) (by omega) (by omega)]; exact mt3_5
    have m71_6 : MV φ nP (τ6 71) (y * y) := by rw [kk6 71 (by omega) (by omega)]; exact m71_5
    have m72_6 : MV φ nP (τ6 72) (((x * (y * y)) + (x * (y * y))) + ((x * (y * y)) + (x * (y * y)))) := by rw [kk6 72 (by omega) (by omega)]; exact m72_5
    have R_6 : isR φ nP 99 τ6 := R_5.kp (fun j h1 h2 => kk6 j (by omega) (by omega))
    have m73_6 : MV φ nP (τ6 73) (((y * y) * (y * y)) + ((y * y) * (y * y))) := q6
    refine lv_aload_n hx hb d_Mdl_doubled_125 rfl (lv_at hl 0 rfl) ?_
    refine gm_get hx hb hW hown X u_Mdl m53 rfl 0 (by decide) wf_Mdl_13 (v := .ref (E.2.1 + 99)) rfl d_Mdl_doubled_126 ?_
    refine lv_aload_n hx hb d_Mdl_doubled_129 rfl (lv_at hl 0 rfl) ?_
    refine gm_get hx hb hW hown X u_Mdl m53 rfl 9 (by decide) wf_Mdl_38 (v := .ref (E.2.1 + 73)) rfl d_Mdl_doubled_130 ?_
    refine lv_aload_n hx hb d_Mdl_doubled_133 rfl (lv_at hl 0 rfl) ?_
    refine gm_get hx hb hW hown X u_Mdl m53 rfl 9 (by decide) wf_Mdl_38 (v := .ref (E.2.1 + 73)) rfl d_Mdl_doubled_134 ?_
    refine lv_aload_n hx hb d_Mdl_doubled_137 rfl (lv_at hl 0 rfl) ?_
    refine gm_get hx hb hW hown X u_Mdl m53 rfl 9 (by decide) wf_Mdl_38 (v := .ref (E.2.1 + 73)) rfl d_Mdl_doubled_138 ?_
    refine gm_Vv hx hb hml hown hW X m99 (q_add l hpP hf R_6 (by decide) (by decide) (by decide) (by omega) m73_6 m73_6) (n := 3) ⟨⟨wl_Mdl_35, wi_Rng_add, wsel_Rng_add, winit_Rng, wc_Rng_add⟩, by decide +kernel, ⟨Nat.le_of_ble_eq_true rfl, Nat.le_of_ble_eq_true rfl⟩, _, rfl, rfl⟩ rfl hl.1 rfl (Nat.le_of_ble_eq_true rfl) d_Mdl_doubled_141 ⟨Nat.le_of_ble_eq_true rfl, Nat.le_of_ble_eq_true rfl⟩ (fun M1 H locs hp X => ?_)
    obtain ⟨τ7, rfl, q7, kk7⟩ := hp
    have mt1_7 : MV φ nP (τ7 (t + 1)) x := by rw [kk7 (t + 1) (by omega) (by omega)]; exact mt1_6
    have mt2_7 : MV φ nP (τ7 (t + 2)) y := by rw [kk7 (t + 2) (by omega) (by omega)]; exact mt2_6
    have mt3_7 : MV φ nP (τ7 (t + 3)) z := by rw [kk7 (t + 3) (by omega) (by omega)]; exact mt3_6
    have m71_7 : MV φ nP (τ7 71) (y * y) := by rw [kk7 71 (by omega) (by omega)]; exact m71_6
    have m72_7 : MV φ nP (τ7 72) (((x * (y * y)) + (x * (y * y))) + ((x * (y * y)) + (x * (y * y)))) := by rw [kk7 72 (by omega) (by omega)]; exact m72_6
    have R_7 : isR φ nP 99 τ7 := R_6.kp (fun j h1 h2 => kk7 j (by omega) (by omega))
    have m73_7 : MV φ nP (τ7 73) ((((y * y) * (y * y)) + ((y * y) * (y * y))) + (((y * y) * (y * y)) + ((y * y) * (y * y)))) := q7
    refine lv_aload_n hx hb d_Mdl_doubled_144 rfl (lv_at hl 0 rfl) ?_
    refine gm_get hx hb hW hown X u_Mdl m53 rfl 0 (by decide) wf_Mdl_13 (v := .ref (E.2.1 + 99)) rfl d_Mdl_doubled_145 ?_
    refine lv_aload_n hx hb d_Mdl_doubled_148 rfl (lv_at hl 0 rfl) ?_
    refine gm_get hx hb hW hown X u_Mdl m53 rfl 9 (by decide) wf_Mdl_38 (v := .ref (E.2.1 + 73)) rfl d_Mdl_doubled_149 ?_
    refine lv_aload_n hx hb d_Mdl_doubled_152 rfl (lv_at hl 0 rfl) ?_
    refine gm_get hx hb hW hown X u_Mdl m53 rfl 9 (by decide) wf_Mdl_38 (v := .ref (E.2.1 + 73)) rfl d_Mdl_doubled_153 ?_
    refine lv_aload_n hx hb d_Mdl_doubled_156 rfl (lv_at hl 0 rfl) ?_
    refine gm_get hx hb hW hown X u_Mdl m53 rfl 9 (by decide) wf_Mdl_38 (v := .ref (E.2.1 + 73)) rfl d_Mdl_doubled_157 ?_
    refine gm_Vv hx hb hml hown hW X m99 (q_add l hpP hf R_7 (by decide) (by decide) (by decide) (by omega) m73_7 m73_7) (n := 3) ⟨⟨wl_Mdl_35, wi_Rng_add, wsel_Rng_add, winit_Rng, wc_Rng_add⟩, by decide +kernel, ⟨Nat.le_of_ble_eq_true rfl, Nat.le_of_ble_eq_true rfl⟩, _, rfl, rfl⟩ rfl hl.1 rfl (Nat.le_of_ble_eq_true rfl) d_Mdl_doubled_160 ⟨Nat.le_of_ble_eq_true rfl, Nat.le_of_ble_eq_true rfl⟩ (fun M1 H locs hp X => ?_)
    obtain ⟨τ8, rfl, q8, kk8⟩ := hp
    have mt1_8 : MV φ nP (τ8 (t + 1)) x := by rw [kk8 (t + 1) (by omega) (by omega)]; exact mt1_7
    have mt2_8 : MV φ nP (τ8 (t + 2)) y := by rw [kk8 (t + 2) (by omega) (by omega)]; exact mt2_7
    have mt3_8 : MV φ nP (τ8 (t + 3)) z := by rw [kk8 (t + 3) (by omega) (by omega)]; exact mt3_7
    have m71_8 : MV φ nP (τ8 71) (y * y) := by rw [kk8 71 (by omega) (by omega)]; exact m71_7
    have m72_8 : MV φ nP (τ8 72) (((x * (y * y)) + (x * (y * y))) + ((x * (y * y)) + (x * (y * y)))) := by rw [kk8 72 (by omega) (by omega)]; exact m72_7
    have R_8 : isR φ nP 99 τ8 := R_7.kp (fun j h1 h2 => kk8 j (by omega) (by omega))
    have m73_8 : MV φ nP (τ8 73) (((((y * y) * (y * y)) + ((y * y) * (y * y))) + (((y * y) * (y * y)) + ((y * y) * (y * y)))) + ((((y * y) * (y * y)) + ((y * y) * (y * y))) + (((y * y) * (y * y)) + ((y * y) * (y * y))))) := q8
    refine lv_aload_n hx hb d_Mdl_doubled_163 rfl (lv_at hl 0 rfl) ?_
    refine gm_get hx hb hW hown X u_Mdl m53 rfl 0 (by decide) wf_Mdl_13 (v := .ref (E.2.1 + 99)) rfl d_Mdl_doubled_164 ?_
    refine lv_aload_n hx hb d_Mdl_doubled_167 rfl (lv_at hl 1 rfl) ?_
    refine gm_getN hx hb hW hown X u_Rpt (oQ hP) rfl 0 (by decide) wfn_Mdl_29 (v := .ref (E.2.1 + (t + 1))) rfl d_Mdl_doubled_168 ?_
    refine lv_aload_n hx hb d_Mdl_doubled_171 rfl (lv_at hl 1 rfl) ?_
    refine gm_getN hx hb hW hown X u_Rpt (oQ hP) rfl 0 (by decide) wfn_Mdl_29 (v := .ref (E.2.1 + (t + 1))) rfl d_Mdl_doubled_172 ?_
    refine lv_aload_n hx hb d_Mdl_doubled_175 rfl (lv_at hl 0 rfl) ?_
    refine gm_get hx hb hW hown X u_Mdl m53 rfl 10 (by decide) wf_Mdl_41 (v := .ref (E.2.1 + 74)) rfl d_Mdl_doubled_176 ?_
    refine gm_Vv hx hb hml hown hW X m99 (q_mul l hpP hf hR R_8 (by decide) (isQ.x hP) (isQ.x hP) (by omega) mt1_8 mt1_8) (n := 3) ⟨⟨wl_Mdl_25, wi_Rng_multiply, wsel_Rng_multiply, winit_Rng, wc_Rng_multiply⟩, by decide +kernel, ⟨Nat.le_of_ble_eq_true rfl, Nat.le_of_ble_eq_true rfl⟩, _, rfl, rfl⟩ rfl hl.1 rfl (Nat.le_of_ble_eq_true rfl) d_Mdl_doubled_179 ⟨Nat.le_of_ble_eq_true rfl, Nat.le_of_ble_eq_true rfl⟩ (fun M1 H locs hp X => ?_)
    obtain ⟨τ9, rfl, q9, kk9⟩ := hp
    have mt1_9 : MV φ nP (τ9 (t + 1)) x := by rw [kk9 (t + 1) (by omega) (by omega)]; exact mt1_8
    have mt2_9 : MV φ nP (τ9 (t + 2)) y := by rw [kk9 (t + 2) (by omega) (by omega)]; exact mt2_8
    have mt3_9 : MV φ nP (τ9 (t + 3)) z := by rw [kk9 (t + 3) (by omega) (by omega)]; exact mt3_8
    have m71_9 : MV φ nP (τ9 71) (y * y) := by rw [kk9 71 (by omega) (by omega)]; exact m71_8
    have m72_9 : MV φ nP (τ9 72) (((x * (y * y)) + (x * (y * y))) + ((x * (y * y)) + (x * (y * y)))) := by rw [kk9 72 (by omega) (by omega)]; exact m72_8
    have m73_9 : MV φ nP (τ9 73) (((((y * y) * (y * y)) + ((y * y) * (y * y))) + (((y * y) * (y * y)) + ((y * y) * (y * y)))) + ((((y * y) * (y * y)) + ((y * y) * (y * y))) + (((y * y) * (y * y)) + ((y * y) * (y * y))))) := by rw [kk9 73 (by omega) (by omega)]; exact m73_8
    have R_9 : isR φ nP 99 τ9 := R_8.kp (fun j h1 h2 => kk9 j (by omega) (by omega))
    have m74_9 : MV φ nP (τ9 74) (x * x) := q9
    refine lv_aload_n hx hb d_Mdl_doubled_182 rfl (lv_at hl 0 rfl) ?_
    refine gm_get hx hb hW hown X u_Mdl m53 rfl 0 (by decide) wf_Mdl_13 (v := .ref (E.2.1 + 99)) rfl d_Mdl_doubled_183 ?_
    refine lv_aload_n hx hb d_Mdl_doubled_186 rfl (lv_at hl 0 rfl) ?_
    refine gm_get hx hb hW hown X u_Mdl m53 rfl 10 (by decide) wf_Mdl_41 (v := .ref (E.2.1 + 74)) rfl d_Mdl_doubled_187 ?_
    refine lv_aload_n hx hb d_Mdl_doubled_190 rfl (lv_at hl 0 rfl) ?_
    refine gm_get hx hb hW hown X u_Mdl m53 rfl 10 (by decide) wf_Mdl_41 (v := .ref (E.2.1 + 74)) rfl d_Mdl_doubled_191 ?_
    refine lv_aload_n hx hb d_Mdl_doubled_194 rfl (lv_at hl 0 rfl) ?_
    refine gm_get hx hb hW hown X u_Mdl m53 rfl 11 (by decide) wf_Mdl_44 (v := .ref (E.2.1 + 75)) rfl d_Mdl_doubled_195 ?_
    refine gm_Vv hx hb hml hown hW X m99 (q_add l hpP hf R_9 (by decide) (by decide) (by decide) (by omega) m74_9 m74_9) (n := 3) ⟨⟨wl_Mdl_35, wi_Rng_add, wsel_Rng_add, winit_Rng, wc_Rng_add⟩, by decide +kernel, ⟨Nat.le_of_ble_eq_true rfl, Nat.le_of_ble_eq_true rfl⟩, _, rfl, rfl⟩ rfl hl.1 rfl (Nat.le_of_ble_eq_true rfl) d_Mdl_doubled_198 ⟨Nat.le_of_ble_eq_true rfl, Nat.le_of_ble_eq_true rfl⟩ (fun M1 H locs hp X => ?_)
    obtain ⟨τ10, rfl, q10, kk10⟩ := hp
    have mt1_10 : MV φ nP (τ10 (t + 1)) x := by rw [kk10 (t + 1) (by omega) (by omega)]; exact mt1_9
    have mt2_10 : MV φ nP (τ10 (t + 2)) y := by rw [kk10 (t + 2) (by omega) (by omega)]; exact mt2_9
    have mt3_10 : MV φ nP (τ10 (t + 3)) z := by rw [kk10 (t + 3) (by omega) (by omega)]; exact mt3_9
    have m71_10 : MV φ nP (τ10 71) (y * y) := by rw [kk10 71 (by omega) (by omega)]; exact m71_9
    have m72_10 : MV φ nP (τ10 72) (((x * (y * y)) + (x * (y * y))) + ((x * (y * y)) + (x * (y * y)))) := by rw [kk10 72 (by omega) (by omega)]; exact m72_9
    have m73_10 : MV φ nP (τ10 73) (((((y * y) * (y * y)) + ((y * y) * (y * y))) + (((y * y) * (y * y)) + ((y * y) * (y * y)))) + ((((y * y) * (y * y)) + ((y * y) * (y * y))) + (((y * y) * (y * y)) + ((y * y) * (y * y))))) := by rw [kk10 73 (by omega) (by omega)]; exact m73_9
    have m74_10 : MV φ nP (τ10 74) (x * x) := by rw [kk10 74 (by omega) (by omega)]; exact m74_9
    have R_10 : isR φ nP 99 τ10 := R_9.kp (fun j h1 h2 => kk10 j (by omega) (by omega))
    have m75_10 : MV φ nP (τ10 75) ((x * x) + (x * x)) := q10
    refine lv_aload_n hx hb d_Mdl_doubled_201 rfl (lv_at hl 0 rfl) ?_
    refine gm_get hx hb hW hown X u_Mdl m53 rfl 0 (by decide) wf_Mdl_13 (v := .ref (E.2.1 + 99)) rfl d_Mdl_doubled_202 ?_
    refine lv_aload_n hx hb d_Mdl_doubled_205 rfl (lv_at hl 0 rfl) ?_
    refine gm_get hx hb hW hown X u_Mdl m53 rfl 10 (by decide) wf_Mdl_41 (v := .ref (E.2.1 + 74)) rfl d_Mdl_doubled_206 ?_
    refine lv_aload_n hx hb d_Mdl_doubled_209 rfl (lv_at hl 0 rfl) ?_
    refine gm_get hx hb hW hown X u_Mdl m53 rfl 11 (by decide) wf_Mdl_44 (v := .ref (E.2.1 + 75)) rfl d_Mdl_doubled_210 ?_
    refine lv_aload_n hx hb d_Mdl_doubled_213 rfl (lv_at hl 0 rfl) ?_
    refine gm_get hx hb hW hown X u_Mdl m53 rfl 10 (by decide) wf_Mdl_41 (v := .ref (E.2.1 + 74)) rfl d_Mdl_doubled_214 ?_
    refine gm_Vv hx hb hml hown hW X m99 (q_add l hpP hf R_10 (by decide) (by decide) (by decide) (by omega) m74_10 m75_10) (n := 3) ⟨⟨wl_Mdl_35, wi_Rng_add, wsel_Rng_add, winit_Rng, wc_Rng_add⟩, by decide +kernel, ⟨Nat.le_of_ble_eq_true rfl, Nat.le_of_ble_eq_true rfl⟩, _, rfl, rfl⟩ rfl hl.1 rfl (Nat.le_of_ble_eq_true rfl) d_Mdl_doubled_217 ⟨Nat.le_of_ble_eq_true rfl, Nat.le_of_ble_eq_true rfl⟩ (fun M1 H locs hp X => ?_)
    obtain ⟨τ11, rfl, q11, kk11⟩ := hp
    have mt1_11 : MV φ nP (τ11 (t + 1)) x := by rw [kk11 (t + 1) (by omega) (by omega)]; exact mt1_10
    have mt2_11 : MV φ nP (τ11 (t + 2)) y := by rw [kk11 (t + 2) (by omega) (by omega)]; exact mt2_10
    have mt3_11 : MV φ nP (τ11 (t + 3)) z := by rw [kk11 (t + 3) (by omega) (by omega)]; exact mt3_10
    have m71_11 : MV φ nP (τ11 71) (y * y) := by rw [kk11 71 (by omega) (by omega)]; exact m71_10
    have m72_11 : MV φ nP (τ11 72) (((x * (y * y)) + (x * (y * y))) + ((x * (y * y)) + (x * (y * y)))) := by rw [kk11 72 (by omega) (by omega)]; exact m72_10
    have m73_11 : MV φ nP (τ11 73) (((((y * y) * (y * y)) + ((y * y) * (y * y))) + (((y * y) * (y * y)) + ((y * y) * (y * y)))) + ((((y * y) * (y * y)) + ((y * y) * (y * y))) + (((y * y) * (y * y)) + ((y * y) * (y * y))))) := by rw [kk11 73 (by omega) (by omega)]; exact m73_10
    have m75_11 : MV φ nP (τ11 75) ((x * x) + (x * x)) := by rw [kk11 75 (by omega) (by omega)]; exact m75_10
    have R_11 : isR φ nP 99 τ11 := R_10.kp (fun j h1 h2 => kk11 j (by omega) (by omega))
    have m74_11 : MV φ nP (τ11 74) ((x * x) + ((x * x) + (x * x))) := q11
    refine lv_aload_n hx hb d_Mdl_doubled_220 rfl (lv_at hl 0 rfl) ?_
    refine gm_get hx hb hW hown X u_Mdl m53 rfl 0 (by decide) wf_Mdl_13 (v := .ref (E.2.1 + 99)) rfl d_Mdl_doubled_221 ?_
    refine lv_aload_n hx hb d_Mdl_doubled_224 rfl (lv_at hl 1 rfl) ?_
    refine gm_getN hx hb hW hown X u_Rpt (oQ hP) rfl 1 (by decide) wfn_Mdl_19 (v := .ref (E.2.1 + (t + 2))) rfl d_Mdl_doubled_225 ?_
    refine lv_aload_n hx hb d_Mdl_doubled_228 rfl (lv_at hl 1 rfl) ?_
    refine gm_getN hx hb hW hown X u_Rpt (oQ hP) rfl 2 (by decide) wfn_Mdl_1 (v := .ref (E.2.1 + (t + 3))) rfl d_Mdl_doubled_229 ?_
    refine lv_aload_n hx hb d_Mdl_doubled_232 rfl (lv_at hl 1 rfl) ?_
    refine gm_getN hx hb hW hown X u_Rpt (oQ hP) rfl 2 (by decide) wfn_Mdl_1 (v := .ref (E.2.1 + (t + 3))) rfl d_Mdl_doubled_233 ?_
    refine gm_Vv hx hb hml hown hW X m99 (q_mul l hpP hf hR R_11 (isQ.z hP) (isQ.y hP) (isQ.z hP) (by omega) mt2_11 mt3_11) (n := 3) ⟨⟨wl_Mdl_25, wi_Rng_multiply, wsel_Rng_multiply, winit_Rng, wc_Rng_multiply⟩, by decide +kernel, ⟨Nat.le_of_ble_eq_true rfl, Nat.le_of_ble_eq_true rfl⟩, _, rfl, rfl⟩ rfl hl.1 rfl (Nat.le_of_ble_eq_true rfl) d_Mdl_doubled_236 ⟨Nat.le_of_ble_eq_true rfl, Nat.le_of_ble_eq_true rfl⟩ (fun M1 H locs hp X => ?_)
    obtain ⟨τ12, rfl, q12, kk12⟩ := hp
    have mt1_12 : MV φ nP (τ12 (t + 1)) x := by rw [kk12 (t + 1) (by omega) (by omega)]; exact mt1_11
    have mt2_12 : MV φ nP (τ12 (t + 2)) y := by rw [kk12 (t + 2) (by omega) (by omega)]; exact mt2_11
    have m71_12 : MV φ nP (τ12 71) (y * y) := by rw [kk12 71 (by omega) (by omega)]; exact m71_11
    have m72_12 : MV φ nP (τ12 72) (((x * (y * y)) + (x * (y * y))) + ((x * (y * y)) + (x * (y * y)))) := by rw [kk12 72 (by omega) (by omega)]; exact m72_11
    have m73_12 : MV φ nP (τ12 73) (((((y * y) * (y * y)) + ((y * y) * (y * y))) + (((y * y) * (y * y)) + ((y * y) * (y * y)))) + ((((y * y) * (y * y)) + ((y * y) * (y * y))) + (((y * y) * (y * y)) + ((y * y) * (y * y))))) := by rw [kk12 73 (by omega) (by omega)]; exact m73_11
    have m75_12 : MV φ nP (τ12 75) ((x * x) + (x * x)) := by rw [kk12 75 (by omega) (by omega)]; exact m75_11
    have m74_12 : MV φ nP (τ12 74) ((x * x) + ((x * x) + (x * x))) := by rw [kk12 74 (by omega) (by omega)]; exact m74_11
    have R_12 : isR φ nP 99 τ12 := R_11.kp (fun j h1 h2 => kk12 j (by omega) (by omega))
    have mt3_12 : MV φ nP (τ12 (t + 3)) (y * z) := q12
    refine lv_aload_n hx hb d_Mdl_doubled_239 rfl (lv_at hl 0 rfl) ?_
    refine gm_get hx hb hW hown X u_Mdl m53 rfl 0 (by decide) wf_Mdl_13 (v := .ref (E.2.1 + 99)) rfl d_Mdl_doubled_240 ?_
    refine lv_aload_n hx hb d_Mdl_doubled_243 rfl (lv_at hl 1 rfl) ?_
    refine gm_getN hx hb hW hown X u_Rpt (oQ hP) rfl 2 (by decide) wfn_Mdl_1 (v := .ref (E.2.1 + (t + 3))) rfl d_Mdl_doubled_244 ?_
    refine lv_aload_n hx hb d_Mdl_doubled_247 rfl (lv_at hl 1 rfl) ?_
    refine gm_getN hx hb hW hown X u_Rpt (oQ hP) rfl 2 (by decide) wfn_Mdl_1 (v := .ref (E.2.1 + (t + 3))) rfl d_Mdl_doubled_248 ?_
    refine lv_aload_n hx hb d_Mdl_doubled_251 rfl (lv_at hl 1 rfl) ?_
    refine gm_getN hx hb hW hown X u_Rpt (oQ hP) rfl 2 (by decide) wfn_Mdl_1 (v := .ref (E.2.1 + (t + 3))) rfl d_Mdl_doubled_252 ?_
    refine gm_Vv hx hb hml hown hW X m99 (q_add l hpP hf R_12 (isQ.z hP) (isQ.z hP) (isQ.z hP) (by omega) mt3_12 mt3_12) (n := 3) ⟨⟨wl_Mdl_35, wi_Rng_add, wsel_Rng_add, winit_Rng, wc_Rng_add⟩, by decide +kernel, ⟨Nat.le_of_ble_eq_true rfl, Nat.le_of_ble_eq_true rfl⟩, _, rfl, rfl⟩ rfl hl.1 rfl (Nat.le_of_ble_eq_true rfl) d_Mdl_doubled_255 ⟨Nat.le_of_ble_eq_true rfl, Nat.le_of_ble_eq_true rfl⟩ (fun M1 H locs hp X => ?_)
    obtain ⟨τ13, rfl, q13, kk13⟩ := hp
    have mt1_13 : MV φ nP (τ13 (t + 1)) x := by rw [kk13 (t + 1) (by omega) (by omega)]; exact mt1_12
    have mt2_13 : MV φ nP (τ13 (t + 2)) y := by rw [kk13 (t + 2) (by omega) (by omega)]; exact mt2_12
    have m71_13 : MV φ nP (τ13 71) (y * y) := by rw [kk13 71 (by omega) (by omega)]; exact m71_12
    have m72_13 : MV φ nP (τ13 72) (((x * (y * y)) + (x * (y * y))) + ((x * (y * y)) + (x * (y * y)))) := by rw [kk13 72 (by omega) (by omega)]; exact m72_12
    have m73_13 : MV φ nP (τ13 73) (((((y * y) * (y * y)) + ((y * y) * (y * y))) + (((y * y) * (y * y)) + ((y * y) * (y * y)))) + ((((y * y) * (y * y)) + ((y * y) * (y * y))) + (((y * y) * (y * y)) + ((y * y) * (y * y))))) := by rw [kk13 73 (by omega) (by omega)]; exact m73_12
    have m75_13 : MV φ nP (τ13 75) ((x * x) + (x * x)) := by rw [kk13 75 (by omega) (by omega)]; exact m75_12
    have m74_13 : MV φ nP (τ13 74) ((x * x) + ((x * x) + (x * x))) := by rw [kk13 74 (by omega) (by omega)]; exact m74_12
    have R_13 : isR φ nP 99 τ13 := R_12.kp (fun j h1 h2 => kk13 j (by omega) (by omega))
    have mt3_13 : MV φ nP (τ13 (t + 3)) ((y * z) + (y * z)) := q13
    refine lv_aload_n hx hb d_Mdl_doubled_258 rfl (lv_at hl 0 rfl) ?_
    refine gm_get hx hb hW hown X u_Mdl m53 rfl 0 (by decide) wf_Mdl_13 (v := .ref (E.2.1 + 99)) rfl d_Mdl_doubled_259 ?_
    refine lv_aload_n hx hb d_Mdl_doubled_262 rfl (lv_at hl 0 rfl) ?_
    refine gm_get hx hb hW hown X u_Mdl m53 rfl 10 (by decide) wf_Mdl_41 (v := .ref (E.2.1 + 74)) rfl d_Mdl_doubled_263 ?_
    refine lv_aload_n hx hb d_Mdl_doubled_266 rfl (lv_at hl 0 rfl) ?_
    refine gm_get hx hb hW hown X u_Mdl m53 rfl 10 (by decide) wf_Mdl_41 (v := .ref (E.2.1 + 74)) rfl d_Mdl_doubled_267 ?_
    refine lv_aload_n hx hb d_Mdl_doubled_270 rfl (lv_at hl 1 rfl) ?_
    refine gm_getN hx hb hW hown X u_Rpt (oQ hP) rfl 0 (by decide) wfn_Mdl_29 (v := .ref (E.2.1 + (t + 1))) rfl d_Mdl_doubled_271 ?_
    refine gm_Vv hx hb hml hown hW X m99 (q_mul l hpP hf hR R_13 (isQ.x hP) (by decide) (by decide) (by omega) m74_13 m74_13) (n := 3) ⟨⟨wl_Mdl_25, wi_Rng_multiply, wsel_Rng_multiply, winit_Rng, wc_Rng_multiply⟩, by decide +kernel, ⟨Nat.le_of_ble_eq_true rfl, Nat.le_of_ble_eq_true rfl⟩, _, rfl, rfl⟩ rfl hl.1 rfl (Nat.le_of_ble_eq_true rfl) d_Mdl_doubled_274 ⟨Nat.le_of_ble_eq_true rfl, Nat.le_of_ble_eq_true rfl⟩ (fun M1 H locs hp X => ?_)
    obtain ⟨τ14, rfl, q14, kk14⟩ := hp
    have mt2_14 : MV φ nP (τ14 (t + 2)) y := by rw [kk14 (t + 2) (by omega) (by omega)]; exact mt2_13
    have m71_14 : MV φ nP (τ14 71) (y * y) := by rw [kk14 71 (by omega) (by omega)]; exact m71_13
    have m72_14 : MV φ nP (τ14 72) (((x * (y * y)) + (x * (y * y))) + ((x * (y * y)) + (x * (y * y)))) := by rw [kk14 72 (by omega) (by omega)]; exact m72_13
    have m73_14 : MV φ nP (τ14 73) (((((y * y) * (y * y)) + ((y * y) * (y * y))) + (((y * y) * (y * y)) + ((y * y) * (y * y)))) + ((((y * y) * (y * y)) + ((y * y) * (y * y))) + (((y * y) * (y * y)) + ((y * y) * (y * y))))) := by rw [kk14 73 (by omega) (by omega)]; exact m73_13
    have m75_14 : MV φ nP (τ14 75) ((x * x) + (x * x)) := by rw [kk14 75 (by omega) (by omega)]; exact m75_13
    have m74_14 : MV φ nP (τ14 74) ((x * x) + ((x * x) + (x * x))) := by rw [kk14 74 (by omega) (by omega)]; exact m74_13
    have mt3_14 : MV φ nP (τ14 (t + 3)) ((y * z) + (y * z)) := by rw [kk14 (t + 3) (by omega) (by omega)]; exact mt3_13
    have R_14 : isR φ nP 99 τ14 := R_13.kp (fun j h1 h2 => kk14 j (by omega) (by omega))
    have mt1_14 : MV φ nP (τ14 (t + 1)) (((x * x) + ((x * x) + (x * x))) * ((x * x) + ((x * x) + (x * x)))) := q14
    refine lv_aload_n hx hb d_Mdl_doubled_277 rfl (lv_at hl 0 rfl) ?_
    refine gm_get hx hb hW hown X u_Mdl m53 rfl 0 (by decide) wf_Mdl_13 (v := .ref (E.2.1 + 99)) rfl d_Mdl_doubled_278 ?_
    refine lv_aload_n hx hb d_Mdl_doubled_281 rfl (lv_at hl 1 rfl) ?_
    refine gm_getN hx hb hW hown X u_Rpt (oQ hP) rfl 0 (by decide) wfn_Mdl_29 (v := .ref (E.2.1 + (t + 1))) rfl d_Mdl_doubled_282 ?_
    refine lv_aload_n hx hb d_Mdl_doubled_285 rfl (lv_at hl 0 rfl) ?_
    refine gm_get hx hb hW hown X u_Mdl m53 rfl 8 (by decide) wf_Mdl_32 (v := .ref (E.2.1 + 72)) rfl d_Mdl_doubled_286 ?_
    refine lv_aload_n hx hb d_Mdl_doubled_289 rfl (lv_at hl 1 rfl) ?_
    refine gm_getN hx hb hW hown X u_Rpt (oQ hP) rfl 0 (by decide) wfn_Mdl_29 (v := .ref (E.2.1 + (t + 1))) rfl d_Mdl_doubled_290 ?_
    refine gm_Vv hx hb hml hown hW X m99 (q_subtract l hpP hf R_14 (isQ.x hP) (isQ.x hP) (by decide) (by omega) mt1_14 m72_14) (n := 3) ⟨⟨wl_Mdl_47, wi_Rng_subtract, wsel_Rng_subtract, winit_Rng, wc_Rng_subtract⟩, by decide +kernel, ⟨Nat.le_of_ble_eq_true rfl, Nat.le_of_ble_eq_true rfl⟩, _, rfl, rfl⟩ rfl hl.1 rfl (Nat.le_of_ble_eq_true rfl) d_Mdl_doubled_293 ⟨Nat.le_of_ble_eq_true rfl, Nat.le_of_ble_eq_true rfl⟩ (fun M1 H locs hp X => ?_)
    obtain ⟨τ15, rfl, q15, kk15⟩ := hp
    have mt2_15 : MV φ nP (τ15 (t + 2)) y := by rw [kk15 (t + 2) (by omega) (by omega)]; exact mt2_14
    have m71_15 : MV φ nP (τ15 71) (y * y) := by rw [kk15 71 (by omega) (by omega)]; exact m71_14
    have m72_15 : MV φ nP (τ15 72) (((x * (y * y)) + (x * (y * y))) + ((x * (y * y)) + (x * (y * y)))) := by rw [kk15 72 (by omega) (by omega)]; exact m72_14
    have m73_15 : MV φ nP (τ15 73) (((((y * y) * (y * y)) + ((y * y) * (y * y))) + (((y * y) * (y * y)) + ((y * y) * (y * y)))) + ((((y * y) * (y * y)) + ((y * y) * (y * y))) + (((y * y) * (y * y)) + ((y * y) * (y * y))))) := by rw [kk15 73 (by omega) (by omega)]; exact m73_14
    have m75_15 : MV φ nP (τ15 75) ((x * x) + (x * x)) := by rw [kk15 75 (by omega) (by omega)]; exact m75_14
    have m74_15 : MV φ nP (τ15 74) ((x * x) + ((x * x) + (x * x))) := by rw [kk15 74 (by omega) (by omega)]; exact m74_14
    have mt3_15 : MV φ nP (τ15 (t + 3)) ((y * z) + (y * z)) := by rw [kk15 (t + 3) (by omega) (by omega)]; exact mt3_14
    have R_15 : isR φ nP 99 τ15 := R_14.kp (fun j h1 h2 => kk15 j (by omega) (by omega))
    have mt1_15 : MV φ nP (τ15 (t + 1)) ((((x * x) + ((x * x) + (x * x))) * ((x * x) + ((x * x) + (x * x)))) - (((x * (y * y)) + (x * (y * y))) + ((x * (y * y)) + (x * (y * y))))) := q15
    refine lv_aload_n hx hb d_Mdl_doubled_296 rfl (lv_at hl 0 rfl) ?_
    refine gm_get hx hb hW hown X u_Mdl m53 rfl 0 (by decide) wf_Mdl_13 (v := .ref (E.2.1 + 99)) rfl d_Mdl_doubled_297 ?_
    refine lv_aload_n hx hb d_Mdl_doubled_300 rfl (lv_at hl 1 rfl) ?_
    refine gm_getN hx hb hW hown X u_Rpt (oQ hP) rfl 0 (by decide) wfn_Mdl_29 (v := .ref (E.2.1 + (t + 1))) rfl d_Mdl_doubled_301 ?_
    refine lv_aload_n hx hb d_Mdl_doubled_304 rfl (lv_at hl 0 rfl) ?_
    refine gm_get hx hb hW hown X u_Mdl m53 rfl 8 (by decide) wf_Mdl_32 (v := .ref (E.2.1 + 72)) rfl d_Mdl_doubled_305 ?_
    refine lv_aload_n hx hb d_Mdl_doubled_308 rfl (lv_at hl 1 rfl) ?_
    refine gm_getN hx hb hW hown X u_Rpt (oQ hP) rfl 0 (by decide) wfn_Mdl_29 (v := .ref (E.2.1 + (t + 1))) rfl d_Mdl_doubled_309 ?_
    refine gm_Vv hx hb hml hown hW X m99 (q_subtract l hpP hf R_15 (isQ.x hP) (isQ.x hP) (by decide) (by omega) mt1_15 m72_15) (n := 3) ⟨⟨wl_Mdl_47, wi_Rng_subtract, wsel_Rng_subtract, winit_Rng, wc_Rng_subtract⟩, by decide +kernel, ⟨Nat.le_of_ble_eq_true rfl, Nat.le_of_ble_eq_true rfl⟩, _, rfl, rfl⟩ rfl hl.1 rfl (Nat.le_of_ble_eq_true rfl) d_Mdl_doubled_312 ⟨Nat.le_of_ble_eq_true rfl, Nat.le_of_ble_eq_true rfl⟩ (fun M1 H locs hp X => ?_)
    obtain ⟨τ16, rfl, q16, kk16⟩ := hp
    have mt2_16 : MV φ nP (τ16 (t + 2)) y := by rw [kk16 (t + 2) (by omega) (by omega)]; exact mt2_15
    have m71_16 : MV φ nP (τ16 71) (y * y) := by rw [kk16 71 (by omega) (by omega)]; exact m71_15
    have m72_16 : MV φ nP (τ16 72) (((x * (y * y)) + (x * (y * y))) + ((x * (y * y)) + (x * (y * y)))) := by rw [kk16 72 (by omega) (by omega)]; exact m72_15
    have m73_16 : MV φ nP (τ16 73) (((((y * y) * (y * y)) + ((y * y) * (y * y))) + (((y * y) * (y * y)) + ((y * y) * (y * y)))) + ((((y * y) * (y * y)) + ((y * y) * (y * y))) + (((y * y) * (y * y)) + ((y * y) * (y * y))))) := by rw [kk16 73 (by omega) (by omega)]; exact m73_15
    have m75_16 : MV φ nP (τ16 75) ((x * x) + (x * x)) := by rw [kk16 75 (by omega) (by omega)]; exact m75_15
    have m74_16 : MV φ nP (τ16 74) ((x * x) + ((x * x) + (x * x))) := by rw [kk16 74 (by omega) (by omega)]; exact m74_15
    have mt3_16 : MV φ nP (τ16 (t + 3)) ((y * z) + (y * z)) := by rw [kk16 (t + 3) (by omega) (by omega)]; exact mt3_15
    have R_16 : isR φ nP 99 τ16 := R_15.kp (fun j h1 h2 => kk16 j (by omega) (by omega))
    have mt1_16 : MV φ nP (τ16 (t + 1)) (((((x * x) + ((x * x) + (x * x))) * ((x * x) + ((x * x) + (x * x)))) - (((x * (y * y)) + (x * (y * y))) + ((x * (y * y)) + (x * (y * y))))) - (((x * (y * y)) + (x * (y * y))) + ((x * (y * y)) + (x * (y * y))))) := q16
    refine lv_aload_n hx hb d_Mdl_doubled_315 rfl (lv_at hl 0 rfl) ?_
    refine gm_get hx hb hW hown X u_Mdl m53 rfl 0 (by decide) wf_Mdl_13 (v := .ref (E.2.1 + 99)) rfl d_Mdl_doubled_316 ?_
    refine lv_aload_n hx hb d_Mdl_doubled_319 rfl (lv_at hl 0 rfl) ?_
    refine gm_get hx hb hW hown X u_Mdl m53 rfl 8 (by decide) wf_Mdl_32 (v := .ref (E.2.1 + 72)) rfl d_Mdl_doubled_320 ?_
    refine lv_aload_n hx hb d_Mdl_doubled_323 rfl (lv_at hl 1 rfl) ?_
    refine gm_getN hx hb hW hown X u_Rpt (oQ hP) rfl 0 (by decide) wfn_Mdl_29 (v := .ref (E.2.1 + (t + 1))) rfl d_Mdl_doubled_324 ?_
    refine lv_aload_n hx hb d_Mdl_doubled_327 rfl (lv_at hl 0 rfl) ?_
    refine gm_get hx hb hW hown X u_Mdl m53 rfl 8 (by decide) wf_Mdl_32 (v := .ref (E.2.1 + 72)) rfl d_Mdl_doubled_328 ?_
    refine gm_Vv hx hb hml hown hW X m99 (q_subtract l hpP hf R_16 (by decide) (by decide) (isQ.x hP) (by omega) m72_16 mt1_16) (n := 3) ⟨⟨wl_Mdl_47, wi_Rng_subtract, wsel_Rng_subtract, winit_Rng, wc_Rng_subtract⟩, by decide +kernel, ⟨Nat.le_of_ble_eq_true rfl, Nat.le_of_ble_eq_true rfl⟩, _, rfl, rfl⟩ rfl hl.1 rfl (Nat.le_of_ble_eq_true rfl) d_Mdl_doubled_331 ⟨Nat.le_of_ble_eq_true rfl, Nat.le_of_ble_eq_true rfl⟩ (fun M1 H locs hp X => ?_)
    obtain ⟨τ17, rfl, q17, kk17⟩ := hp
    have mt2_17 : MV φ nP (τ17 (t + 2)) y := by rw [kk17 (t + 2) (by omega) (by omega)]; exact mt2_16
    have m71_17 : MV φ nP (τ17 71) (y * y) := by rw [kk17 71 (by omega) (by omega)]; exact m71_16
    have m73_17 : MV φ nP (τ17 73) (((((y * y) * (y * y)) + ((y * y) * (y * y))) + (((y * y) * (y * y)) + ((y * y) * (y * y)))) + ((((y * y) * (y * y)) + ((y * y) * (y * y))) + (((y * y) * (y * y)) + ((y * y) * (y * y))))) := by rw [kk17 73 (by omega) (by omega)]; exact m73_16
    have m75_17 : MV φ nP (τ17 75) ((x * x) + (x * x)) := by rw [kk17 75 (by omega) (by omega)]; exact m75_16
    have m74_17 : MV φ nP (τ17 74) ((x * x) + ((x * x) + (x * x))) := by rw [kk17 74 (by omega) (by omega)]; exact m74_16
    have mt3_17 : MV φ nP (τ17 (t + 3)) ((y * z) + (y * z)) := by rw [kk17 (t + 3) (by omega) (by omega)]; exact mt3_16
    have mt1_17 : MV φ nP (τ17 (t + 1)) (((((x * x) + ((x * x) + (x * x))) * ((x * x) + ((x * x) + (x * x)))) - (((x * (y * y)) + (x * (y * y))) + ((x * (y * y)) + (x * (y * y))))) - (((x * (y * y)) + (x * (y * y))) + ((x * (y * y)) + (x * (y * y))))) := by rw [kk17 (t + 1) (by omega) (by omega)]; exact mt1_16
    have R_17 : isR φ nP 99 τ17 := R_16.kp (fun j h1 h2 => kk17 j (by omega) (by omega))
    have m72_17 : MV φ nP (τ17 72) ((((x * (y * y)) + (x * (y * y))) + ((x * (y * y)) + (x * (y * y)))) - (((((x * x) + ((x * x) + (x * x))) * ((x * x) + ((x * x) + (x * x)))) - (((x * (y * y)) + (x * (y * y))) + ((x * (y * y)) + (x * (y * y))))) - (((x * (y * y)) + (x * (y * y))) + ((x * (y * y)) + (x * (y * y)))))) := q17
    refine lv_aload_n hx hb d_Mdl_doubled_334 rfl (lv_at hl 0 rfl) ?_
    refine gm_get hx hb hW hown X u_Mdl m53 rfl 0 (by decide) wf_Mdl_13 (v := .ref (E.2.1 + 99)) rfl d_Mdl_doubled_335 ?_
    refine lv_aload_n hx hb d_Mdl_doubled_338 rfl (lv_at hl 0 rfl) ?_
    refine gm_get hx hb hW hown X u_Mdl m53 rfl 10 (by decide) wf_Mdl_41 (v := .ref (E.2.1 + 74)) rfl d_Mdl_doubled_339 ?_
    refine lv_aload_n hx hb d_Mdl_doubled_342 rfl (lv_at hl 0 rfl) ?_
    refine gm_get hx hb hW hown X u_Mdl m53 rfl 8 (by decide) wf_Mdl_32 (v := .ref (E.2.1 + 72)) rfl d_Mdl_doubled_343 ?_
    refine lv_aload_n hx hb d_Mdl_doubled_346 rfl (lv_at hl 1 rfl) ?_
    refine gm_getN hx hb hW hown X u_Rpt (oQ hP) rfl 1 (by decide) wfn_Mdl_19 (v := .ref (E.2.1 + (t + 2))) rfl d_Mdl_doubled_347 ?_
    refine gm_Vv hx hb hml hown hW X m99 (q_mul l hpP hf hR R_17 (isQ.y hP) (by decide) (by decide) (by omega) m74_17 m72_17) (n := 3) ⟨⟨wl_Mdl_25, wi_Rng_multiply, wsel_Rng_multiply, winit_Rng, wc_Rng_multiply⟩, by decide +kernel, ⟨Nat.le_of_ble_eq_true rfl, Nat.le_of_ble_eq_true rfl⟩, _, rfl, rfl⟩ rfl hl.1 rfl (Nat.le_of_ble_eq_true rfl) d_Mdl_doubled_350 ⟨Nat.le_of_ble_eq_true rfl, Nat.le_of_ble_eq_true rfl⟩ (fun M1 H locs hp X => ?_)
    obtain ⟨τ18, rfl, q18, kk18⟩ := hp
    have m71_18 : MV φ nP (τ18 71) (y * y) := by rw [kk18 71 (by omega) (by omega)]; exact m71_17
    have m73_18 : MV φ nP (τ18 73) (((((y * y) * (y * y)) + ((y * y) * (y * y))) + (((y * y) * (y * y)) + ((y * y) * (y * y)))) + ((((y * y) * (y * y)) + ((y * y) * (y * y))) + (((y * y) * (y * y)) + ((y * y) * (y * y))))) := by rw [kk18 73 (by omega) (by omega)]; exact m73_17
    have m75_18 : MV φ nP (τ18 75) ((x * x) + (x * x)) := by rw [kk18 75 (by omega) (by omega)]; exact m75_17
    have m74_18 : MV φ nP (τ18 74) ((x * x) + ((x * x) + (x * x))) := by rw [kk18 74 (by omega) (by omega)]; exact m74_17
    have mt3_18 : MV φ nP (τ18 (t + 3)) ((y * z) + (y * z)) := by rw [kk18 (t + 3) (by omega) (by omega)]; exact mt3_17
    have mt1_18 : MV φ nP (τ18 (t + 1)) (((((x * x) + ((x * x) + (x * x))) * ((x * x) + ((x * x) + (x * x)))) - (((x * (y * y)) + (x * (y * y))) + ((x * (y * y)) + (x * (y * y))))) - (((x * (y * y)) + (x * (y * y))) + ((x * (y * y)) + (x * (y * y))))) := by rw [kk18 (t + 1) (by omega) (by omega)]; exact mt1_17
    have m72_18 : MV φ nP (τ18 72) ((((x * (y * y)) + (x * (y * y))) + ((x * (y * y)) + (x * (y * y)))) - (((((x * x) + ((x * x) + (x * x))) * ((x * x) + ((x * x) + (x * x)))) - (((x * (y * y)) + (x * (y * y))) + ((x * (y * y)) + (x * (y * y))))) - (((x * (y * y)) + (x * (y * y))) + ((x * (y * y)) + (x * (y * y)))))) := by rw [kk18 72 (by omega) (by omega)]; exact m72_17
    have R_18 : isR φ nP 99 τ18 := R_17.kp (fun j h1 h2 => kk18 j (by omega) (by omega))
    have mt2_18 : MV φ nP (τ18 (t + 2)) (((x * x) + ((x * x) + (x * x))) * ((((x * (y * y)) + (x * (y * y))) + ((x * (y * y)) + (x * (y * y)))) - (((((x * x) + ((x * x) + (x * x))) * ((x * x) + ((x * x) + (x * x)))) - (((x * (y * y)) + (x * (y * y))) + ((x * (y * y)) + (x * (y * y))))) - (((x * (y * y)) + (x * (y * y))) + ((x * (y * y)) + (x * (y * y))))))) := q18
    refine lv_aload_n hx hb d_Mdl_doubled_353 rfl (lv_at hl 0 rfl) ?_
    refine gm_get hx hb hW hown X u_Mdl m53 rfl 0 (by decide) wf_Mdl_13 (v := .ref (E.2.1 + 99)) rfl d_Mdl_doubled_354 ?_
    refine lv_aload_n hx hb d_Mdl_doubled_357 rfl (lv_at hl 1 rfl) ?_
    refine gm_getN hx hb hW hown X u_Rpt (oQ hP) rfl 1 (by decide) wfn_Mdl_19 (v := .ref (E.2.1 + (t + 2))) rfl d_Mdl_doubled_358 ?_
    refine lv_aload_n hx hb d_Mdl_doubled_361 rfl (lv_at hl 0 rfl) ?_
    refine gm_get hx hb hW hown X u_Mdl m53 rfl 9 (by decide) wf_Mdl_38 (v := .ref (E.2.1 + 73)) rfl d_Mdl_doubled_362 ?_
    refine lv_aload_n hx hb d_Mdl_doubled_365 rfl (lv_at hl 1 rfl) ?_
    refine gm_getN hx hb hW hown X u_Rpt (oQ hP) rfl 1 (by decide) wfn_Mdl_19 (v := .ref (E.2.1 + (t + 2))) rfl d_Mdl_doubled_366 ?_
    refine gm_Vv hx hb hml hown hW X m99 (q_subtract l hpP hf R_18 (isQ.y hP) (isQ.y hP) (by decide) (by omega) mt2_18 m73_18) (n := 3) ⟨⟨wl_Mdl_47, wi_Rng_subtract, wsel_Rng_subtract, winit_Rng, wc_Rng_subtract⟩, by decide +kernel, ⟨Nat.le_of_ble_eq_true rfl, Nat.le_of_ble_eq_true rfl⟩, _, rfl, rfl⟩ rfl hl.1 rfl (Nat.le_of_ble_eq_true rfl) d_Mdl_doubled_369 ⟨Nat.le_of_ble_eq_true rfl, Nat.le_of_ble_eq_true rfl⟩ (fun M1 H locs hp X => ?_)
    obtain ⟨τ19, rfl, q19, kk19⟩ := hp
    have m71_19 : MV φ nP (τ19 71) (y * y) := by rw [kk19 71 (by omega) (by omega)]; exact m71_18
    have m73_19 : MV φ nP (τ19 73) (((((y * y) * (y * y)) + ((y * y) * (y * y))) + (((y * y) * (y * y)) + ((y * y) * (y * y)))) + ((((y * y) * (y * y)) + ((y * y) * (y * y))) + (((y * y) * (y * y)) + ((y * y) * (y * y))))) := by rw [kk19 73 (by omega) (by omega)]; exact m73_18
    have m75_19 : MV φ nP (τ19 75) ((x * x) + (x * x)) := by rw [kk19 75 (by omega) (by omega)]; exact m75_18
    have m74_19 : MV φ nP (τ19 74) ((x * x) + ((x * x) + (x * x))) := by rw [kk19 74 (by omega) (by omega)]; exact m74_18
    have mt3_19 : MV φ nP (τ19 (t + 3)) ((y * z) + (y * z)) := by rw [kk19 (t + 3) (by omega) (by omega)]; exact mt3_18
    have mt1_19 : MV φ nP (τ19 (t + 1)) (((((x * x) + ((x * x) + (x * x))) * ((x * x) + ((x * x) + (x * x)))) - (((x * (y * y)) + (x * (y * y))) + ((x * (y * y)) + (x * (y * y))))) - (((x * (y * y)) + (x * (y * y))) + ((x * (y * y)) + (x * (y * y))))) := by rw [kk19 (t + 1) (by omega) (by omega)]; exact mt1_18
    have m72_19 : MV φ nP (τ19 72) ((((x * (y * y)) + (x * (y * y))) + ((x * (y * y)) + (x * (y * y)))) - (((((x * x) + ((x * x) + (x * x))) * ((x * x) + ((x * x) + (x * x)))) - (((x * (y * y)) + (x * (y * y))) + ((x * (y * y)) + (x * (y * y))))) - (((x * (y * y)) + (x * (y * y))) + ((x * (y * y)) + (x * (y * y)))))) := by rw [kk19 72 (by omega) (by omega)]; exact m72_18
    have R_19 : isR φ nP 99 τ19 := R_18.kp (fun j h1 h2 => kk19 j (by omega) (by omega))
    have mt2_19 : MV φ nP (τ19 (t + 2)) ((((x * x) + ((x * x) + (x * x))) * ((((x * (y * y)) + (x * (y * y))) + ((x * (y * y)) + (x * (y * y)))) - (((((x * x) + ((x * x) + (x * x))) * ((x * x) + ((x * x) + (x * x)))) - (((x * (y * y)) + (x * (y * y))) + ((x * (y * y)) + (x * (y * y))))) - (((x * (y * y)) + (x * (y * y))) + ((x * (y * y)) + (x * (y * y))))))) - (((((y * y) * (y * y)) + ((y * y) * (y * y))) + (((y * y) * (y * y)) + ((y * y) * (y * y)))) + ((((y * y) * (y * y)) + ((y * y) * (y * y))) + (((y * y) * (y * y)) + ((y * y) * (y * y)))))) := q19
    refine gm_vret hx hb hr2 hlk X ⟨_, rfl, ?_, fun j a1 a2 a3 => by rw [kk19 j (by omega) (by omega), kk18 j (by omega) (by omega), kk17 j (by omega) (by omega), kk16 j (by omega) (by omega), kk15 j (by omega) (by omega), kk14 j (by omega) (by omega), kk13 j (by omega) (by omega), kk12 j (by omega) (by omega), kk11 j (by omega) (by omega), kk10 j (by omega) (by omega), kk9 j (by omega) (by omega), kk8 j (by omega) (by omega), kk7 j (by omega) (by omega), kk6 j (by omega) (by omega), kk5 j (by omega) (by omega), kk4 j (by omega) (by omega), kk3 j (by omega) (by omega), kk2 j (by omega) (by omega), kk1 j (by omega) (by omega)]⟩ d_Mdl_doubled_372
    rw [ec_add_db]
    refine mpR.jr (ec_db_on ho (ec_tang hk.1 ho)) mt1_19 mt2_19 mt3_19 (jr_db hk.1 ho hj) ?_ ?_ ?_ <;> grind
set_option maxHeartbeats 1000000 in
theorem lp_Mdl_z {p : Program} {l : Launch} {e : Env} {s : State} {m : MethodId} {args : Array Value} {below : List Frame} {meth : Method} {c : Code} {R : Room} {Q : State → Prop} {cells slots : Nat} {E : gm_E} {N : gm_M} {τ : Nat → Nat → Int32} {cd : Int32} {t u xu : Nat} (hx : p.tables.exec = Jvm.exec) (hb : c.code = b_Mdl_plus) (hown : s.vm.findClass R_Mdl = some m.cls) (hW : ∀ w ∈ WB, w.before args s = true) (hP : isQ t)
    (kk : ∀ (H : Heap) (locs : List Loc) (ls : Array Slot) τ', gx E (mW E N τ' cd) s H locs → IV (τ' (t + 3)) 8 = 0 → kt (t + 3) τ τ' → lv_has ls 4 [(0, .ref (E.2.1 + 53)), (1, .ref (E.2.1 + t)), (2, .ref (E.2.1 + u))] → W p l e R s m args below meth c H locs cells slots Q (F0 m 266 ls [])) :
    ∀ (j k : Nat), k + j = 8 → ∀ (H : Heap) (locs : List Loc) (ls : Array Slot) τ', gx E (mW E N τ' cd) s H locs → (∀ i, i < k → τ' (t + 3) i = 0) → kt (t + 3) τ τ' → lv_has ls 4 [(3, .int (nI k)), (0, .ref (E.2.1 + 53)), (1, .ref (E.2.1 + t)), (2, .ref (E.2.1 + u))] → W p l e R s m args below meth c H locs cells slots Q (F0 m 247 ls []) := by
  intro j
  induction j with
  | zero =>
    intro k hk H locs ls τ' X h0 k0 hl
    refine lv_iload_n hx hb d_Mdl_plus_247 rfl (lv_at hl 0 rfl) ?_
    refine lv_bipush (v := 8) hx hb d_Mdl_plus_248 (by decide) ?_
    refine lv_icmp_ge (tgt := 266) hx hb d_Mdl_plus_250 (by decide) (fun c250 => ?_) (fun c250 => ?_)
    · obtain rfl : k = 8 := by omega
      exact kk H locs ls τ' X (by rw [IV_cg (g := fun _ => 0) h0, IV_z]) k0 (lv_sub hl [1, 2, 3] rfl)
    · exact absurd (i_ge (n := 8) (i := k) (by omega) (by omega)) c250
  | succ j ih =>
    intro k hk H locs ls τ' X h0 k0 hl
    refine lv_iload_n hx hb d_Mdl_plus_247 rfl (lv_at hl 0 rfl) ?_
    refine lv_bipush (v := 8) hx hb d_Mdl_plus_248 (by decide) ?_
    refine lv_icmp_ge (tgt := 266) hx hb d_Mdl_plus_250 (by decide) (fun c250 => ?_) (fun c250 => ?_)
    · exact absurd c250 (i_nge (n := 8) (i := k) (by omega) (by omega))
    · refine lv_aload_n hx hb d_Mdl_plus_253 rfl (lv_at hl 2 rfl) ?_
      refine gm_getN hx hb hW hown X u_Rpt (oQ hP) rfl 2 (by decide) wfn_Mdl_1 (v := .ref (E.2.1 + (t + 3))) rfl d_Mdl_plus_254 ?_
      refine lv_iload_n hx hb d_Mdl_plus_257 rfl (lv_at hl 0 rfl) ?_
      refine lv_iconst (v := 0) hx hb d_Mdl_plus_258 (by decide) ?_
      refine gm_iast hx hb X (k := k) (mw_row hP.z) (cw_ge _) rfl ⟨by omega, by decide⟩ d_Mdl_plus_259 (fun H locs X => ?_)
      rw [mw_upr _ hP.z] at X
      refine lv_iinc (v := (nI (k + 1))) (lv' := [(3, .int (nI (k + 1))), (0, .ref (E.2.1 + 53)), (1, .ref (E.2.1 + t)), (2, .ref (E.2.1 + u))]) hx hb d_Mdl_plus_260 hl (k := 0) rfl (nI_1 k) (by decide) rfl (fun ls hl => ?_)
      refine lv_goto (tgt := 247) hx hb d_Mdl_plus_263 (by decide) ?_
      refine ih (k + 1) (by omega) H locs ls _ X (fun i hi => ?_) (fun j hj => by rw [vu_n hj]; exact k0 j hj) hl
      rw [vu_s]
      by_cases q : i = k
      · simp [upd, q]
      · simp [upd, q]
        exact h0 i (by omega)
set_option maxHeartbeats 4000000 in
theorem q_Mdl_plus {F : Type} [Lean.Grind.CommRing F] {φ : Int → F} {inv : F → F} (l : Launch) (E : gm_E) (N : gm_M) (τ : Nat → Nat → Int32) (cd : Int32) (hk : fk φ inv) {Ri : F} (hR : φ (tq 8) * Ri = 1) (hr : isR φ nP 99 τ) {t u : Nat} {p q : Option (F × F)} (hT : t = 63 ∨ t = 89) (hU : u = 67 ∨ u = 59 ∨ u = 89) (hne : t ≠ u) (hs : mpR φ τ t p) (hq : mpR φ τ u q) : cv_ l y_Mdl_plus b_Mdl_plus 4 none { frames := 3, cells := 0, slots := 0, locals := 73 } E (mW E N τ cd) [.ref (E.2.1 + 53), .ref (E.2.1 + t), .ref (E.2.1 + u)] (fun M' => ∃ τ', M' = mW E N τ' cd ∧ mpR φ τ' t (ec_add inv p q) ∧ kD t τ τ') := by
  have hP : isQ t := by rcases hT with rfl | rfl <;> simp [isQ]
  have hQ : isQ u := by rcases hU with rfl | rfl | rfl <;> simp [isQ]
  cases q with
  | none =>
    have hf := hk.fm
    have hpP := rPl_P E
    refine gm_met (by decide) (Nat.le_of_ble_eq_true rfl) (fun p e s m below meth c ls hx hb hml hr2 hlk hnm hown hW X hl => ?_)
    have hl : lv_has ls 4 [(0, .ref (E.2.1 + 53)), (1, .ref (E.2.1 + t)), (2, .ref (E.2.1 + u))] := hl
    have h0 : MV φ nP (τ (u + 3)) 0 := hq
    refine lv_aload_n hx hb d_Mdl_plus_0 rfl (lv_at hl 2 rfl) ?_
    refine gm_getN hx hb hW hown X u_Rpt (oQ hQ) rfl 2 (by decide) wfn_Mdl_1 (v := .ref (E.2.1 + (u + 3))) rfl d_Mdl_plus_1 ?_
    refine gm_Si hx hb hml hown hW X (q_isZero l hf hR (isQ.z hQ) h0) (n := 1) ⟨⟨wl_Mdl_7, ws_Rng_isZero, winit_Rng, wc_Rng_isZero⟩, by decide +kernel, Nat.le_of_ble_eq_true rfl, Nat.le_of_ble_eq_true rfl⟩ rfl hl.1 rfl (Nat.le_of_ble_eq_true rfl) d_Mdl_plus_4 ⟨Nat.le_of_ble_eq_true rfl, Nat.le_of_ble_eq_true rfl⟩ (fun r M1 H locs hp X => ?_)
    rw [hp.1] at X
    have hz : r = 1 := by rcases hp.2 with z | z; exact z.1; exact absurd (rfl : (0 : F) = 0) z.2
    refine lv_if_eq (tgt := 11) hx hb d_Mdl_plus_7 (by decide) (fun c9 => absurd (hz.symm.trans c9) (by decide)) (fun _ => ?_)
    exact gm_vret hx hb hr2 hlk X ⟨τ, rfl, by rw [ec_none_add]; exact hs, kD.rf _ _⟩ d_Mdl_plus_10
  | some b =>
    cases p with
    | none =>
      have hf := hk.fm
      have hpP := rPl_P E
      refine gm_met (by decide) (Nat.le_of_ble_eq_true rfl) (fun p e s m below meth c ls hx hb hml hr2 hlk hnm hown hW X hl => ?_)
      have hl : lv_has ls 4 [(0, .ref (E.2.1 + 53)), (1, .ref (E.2.1 + t)), (2, .ref (E.2.1 + u))] := hl
      obtain ⟨hqo, ux, uy, uz, hU1, hU2, hU3, hjq⟩ := id hq
      have h0 : MV φ nP (τ (t + 3)) 0 := hs
      refine lv_aload_n hx hb d_Mdl_plus_0 rfl (lv_at hl 2 rfl) ?_
      refine gm_getN hx hb hW hown X u_Rpt (oQ hQ) rfl 2 (by decide) wfn_Mdl_1 (v := .ref (E.2.1 + (u + 3))) rfl d_Mdl_plus_1 ?_
      refine gm_Si hx hb hml hown hW X (q_isZero l hf hR (isQ.z hQ) hU3) (n := 1) ⟨⟨wl_Mdl_7, ws_Rng_isZero, winit_Rng, wc_Rng_isZero⟩, by decide +kernel, Nat.le_of_ble_eq_true rfl, Nat.le_of_ble_eq_true rfl⟩ rfl hl.1 rfl (Nat.le_of_ble_eq_true rfl) d_Mdl_plus_4 ⟨Nat.le_of_ble_eq_true rfl, Nat.le_of_ble_eq_true rfl⟩ (fun r M1 H locs hp X => ?_)
      rw [hp.1] at X
      have hz : r = 0 := by rcases hp.2 with z | z; exact absurd z.2 hjq.1; exact z.1
      refine lv_if_eq (tgt := 11) hx hb d_Mdl_plus_7 (by decide) (fun _ => ?_) (fun c9 => absurd hz c9)
      refine lv_aload_n hx hb d_Mdl_plus_11 rfl (lv_at hl 1 rfl) ?_
      refine gm_getN hx hb hW hown X u_Rpt (oQ hP) rfl 2 (by decide) wfn_Mdl_1 (v := .ref (E.2.1 + (t + 3))) rfl d_Mdl_plus_12 ?_
      refine gm_Si hx hb hml hown hW X (q_isZero l hf hR (isQ.z hP) h0) (n := 1) ⟨⟨wl_Mdl_7, ws_Rng_isZero, winit_Rng, wc_Rng_isZero⟩, by decide +kernel, Nat.le_of_ble_eq_true rfl, Nat.le_of_ble_eq_true rfl⟩ rfl hl.1 rfl (Nat.le_of_ble_eq_true rfl) d_Mdl_plus_15 ⟨Nat.le_of_ble_eq_true rfl, Nat.le_of_ble_eq_true rfl⟩ (fun r2 M1 H locs hp X => ?_)
      rw [hp.1] at X
      have hz : r2 = 1 := by rcases hp.2 with z | z; exact z.1; exact absurd (rfl : (0 : F) = 0) z.2
      refine lv_if_eq (tgt := 27) hx hb d_Mdl_plus_18 (by decide) (fun c9 => absurd (hz.symm.trans c9) (by decide)) (fun _ => ?_)
      refine lv_aload_n hx hb d_Mdl_plus_21 rfl (lv_at hl 1 rfl) ?_
      refine lv_aload_n hx hb d_Mdl_plus_22 rfl (lv_at hl 2 rfl) ?_
      refine gm_Vv hx hb hml hown hW X (oQ hP) (q_Rpt_take l E N τ cd hP hQ) (n := 1) ⟨⟨wl_Mdl_50, wi_Rpt_take, wsel_Rpt_take, winit_Rpt, wc_Rpt_take⟩, by decide +kernel, ⟨Nat.le_of_ble_eq_true rfl, Nat.le_of_ble_eq_true rfl⟩, _, rfl, rfl⟩ rfl hl.1 rfl (Nat.le_of_ble_eq_true rfl) d_Mdl_plus_23 ⟨Nat.le_of_ble_eq_true rfl, Nat.le_of_ble_eq_true rfl⟩ (fun M1 H locs hp X => ?_)
      obtain ⟨τ1, rfl, q1, k1⟩ := hp
      exact gm_vret hx hb hr2 hlk X ⟨_, rfl, hq.kept q1.1 q1.2.1 q1.2.2, fun j a1 a2 a3 => k1 j a3⟩ d_Mdl_plus_26
    | some a =>
      have hf := hk.fm
      have hpP := rPl_P E
      refine gm_met (by decide) (Nat.le_of_ble_eq_true rfl) (fun p e s m below meth c ls hx hb hml hr2 hlk hnm hown hW X hl => ?_)
      have hl : lv_has ls 4 [(0, .ref (E.2.1 + 53)), (1, .ref (E.2.1 + t)), (2, .ref (E.2.1 + u))] := hl
      obtain ⟨hqo, ux, uy, uz, hU1, hU2, hU3, hjq⟩ := id hq
      obtain ⟨ho, x, y, z, hX, hY, hZ, hj⟩ := id hs
      refine lv_aload_n hx hb d_Mdl_plus_0 rfl (lv_at hl 2 rfl) ?_
      refine gm_getN hx hb hW hown X u_Rpt (oQ hQ) rfl 2 (by decide) wfn_Mdl_1 (v := .ref (E.2.1 + (u + 3))) rfl d_Mdl_plus_1 ?_
      refine gm_Si hx hb hml hown hW X (q_isZero l hf hR (isQ.z hQ) hU3) (n := 1) ⟨⟨wl_Mdl_7, ws_Rng_isZero, winit_Rng, wc_Rng_isZero⟩, by decide +kernel, Nat.le_of_ble_eq_true rfl, Nat.le_of_ble_eq_true rfl⟩ rfl hl.1 rfl (Nat.le_of_ble_eq_true rfl) d_Mdl_plus_4 ⟨Nat.le_of_ble_eq_true rfl, Nat.le_of_ble_eq_true rfl⟩ (fun r M1 H locs hp X => ?_)
      rw [hp.1] at X
      have hz : r = 0 := by rcases hp.2 with z | z; exact absurd z.2 hjq.1; exact z.1
      refine lv_if_eq (tgt := 11) hx hb d_Mdl_plus_7 (by decide) (fun _ => ?_) (fun c9 => absurd hz c9)
      refine lv_aload_n hx hb d_Mdl_plus_11 rfl (lv_at hl 1 rfl) ?_
      refine gm_getN hx hb hW hown X u_Rpt (oQ hP) rfl 2 (by decide) wfn_Mdl_1 (v := .ref (E.2.1 + (t + 3))) rfl d_Mdl_plus_12 ?_
      refine gm_Si hx hb hml hown hW X (q_isZero l hf hR (isQ.z hP) hZ) (n := 1) ⟨⟨wl_Mdl_7, ws_Rng_isZero, winit_Rng, wc_Rng_isZero⟩, by decide +kernel, Nat.le_of_ble_eq_true rfl, Nat.le_of_ble_eq_true rfl⟩ rfl hl.1 rfl (Nat.le_of_ble_eq_true rfl) d_Mdl_plus_15 ⟨Nat.le_of_ble_eq_true rfl, Nat.le_of_ble_eq_true rfl⟩ (fun r2 M1 H locs hp X => ?_)
      rw [hp.1] at X
      have hz : r2 = 0 := by rcases hp.2 with z | z; exact absurd z.2 hj.1; exact z.1
      refine lv_if_eq (tgt := 27) hx hb d_Mdl_plus_18 (by decide) (fun _ => ?_) (fun c9 => absurd hz c9)
      refine lv_aload_n hx hb d_Mdl_plus_27 rfl (lv_at hl 0 rfl) ?_
      refine gm_get hx hb hW hown X u_Mdl m53 rfl 0 (by decide) wf_Mdl_13 (v := .ref (E.2.1 + 99)) rfl d_Mdl_plus_28 ?_
      refine lv_aload_n hx hb d_Mdl_plus_31 rfl (lv_at hl 2 rfl) ?_
      refine gm_getN hx hb hW hown X u_Rpt (oQ hQ) rfl 2 (by decide) wfn_Mdl_1 (v := .ref (E.2.1 + (u + 3))) rfl d_Mdl_plus_32 ?_
      refine lv_aload_n hx hb d_Mdl_plus_35 rfl (lv_at hl 2 rfl) ?_
      refine gm_getN hx hb hW hown X u_Rpt (oQ hQ) rfl 2 (by decide) wfn_Mdl_1 (v := .ref (E.2.1 + (u + 3))) rfl d_Mdl_plus_36 ?_
      refine lv_aload_n hx hb d_Mdl_plus_39 rfl (lv_at hl 0 rfl) ?_
      refine gm_get hx hb hW hown X u_Mdl m53 rfl 7 (by decide) wf_Mdl_22 (v := .ref (E.2.1 + 71)) rfl d_Mdl_plus_40 ?_
      refine gm_Vv hx hb hml hown hW X m99 (q_mul l hpP hf hR hr (by decide) (isQ.z hQ) (isQ.z hQ) (by omega) hU3 hU3) (n := 3) ⟨⟨wl_Mdl_25, wi_Rng_multiply, wsel_Rng_multiply, winit_Rng, wc_Rng_multiply⟩, by decide +kernel, ⟨Nat.le_of_ble_eq_true rfl, Nat.le_of_ble_eq_true rfl⟩, _, rfl, rfl⟩ rfl hl.1 rfl (Nat.le_of_ble_eq_true rfl) d_Mdl_plus_43 ⟨Nat.le_of_ble_eq_true rfl, Nat.le_of_ble_eq_true rfl⟩ (fun M1 H locs hp X => ?_)
      obtain ⟨τ1, rfl, q1, kk1⟩ := hp
      have mt1_1 : MV φ nP (τ1 (t + 1)) x := by rw [kk1 (t + 1) (by omega) (by omega)]; exact hX
      have mt2_1 : MV φ nP (τ1 (t + 2)) y := by rw [kk1 (t + 2) (by omega) (by omega)]; exact hY
      have mt3_1 : MV φ nP (τ1 (t + 3)) z := by rw [kk1 (t + 3) (by omega) (by omega)]; exact hZ
      have mu1_1 : MV φ nP (τ1 (u + 1)) ux := by rw [kk1 (u + 1) (by omega) (by omega)]; exact hU1
      have mu2_1 : MV φ nP (τ1 (u + 2)) uy := by rw [kk1 (u + 2) (by omega) (by omega)]; exact hU2
      have mu3_1 : MV φ nP (τ1 (u + 3)) uz := by rw [kk1 (u + 3) (by omega) (by omega)]; exact hU3
      have R_1 : isR φ nP 99 τ1 := hr.kp (fun j h1 h2 => kk1 j (by omega) (by omega))
      have m71_1 : MV φ nP (τ1 71) (uz * uz) := q1
      refine lv_aload_n hx hb d_Mdl_plus_46 rfl (lv_at hl 0 rfl) ?_
      refine gm_get hx hb hW hown X u_Mdl m53 rfl 0 (by decide) wf_Mdl_13 (v := .ref (E.2.1 + 99)) rfl d_Mdl_plus_47 ?_
      refine lv_aload_n hx hb d_Mdl_plus_50 rfl (lv_at hl 1 rfl) ?_
      refine gm_getN hx hb hW hown X u_Rpt (oQ hP) rfl 0 (by decide) wfn_Mdl_29 (v := .ref (E.2.1 + (t + 1))) rfl d_Mdl_plus_51 ?_
      refine lv_aload_n hx hb d_Mdl_plus_54 rfl (lv_at hl 0 rfl) ?_
      refine gm_get hx hb hW hown X u_Mdl m53 rfl 7 (by decide) wf_Mdl_22 (v := .ref (E.2.1 + 71)) rfl d_Mdl_plus_55 ?_
      refine lv_aload_n hx hb d_Mdl_plus_58 rfl (lv_at hl 0 rfl) ?_
      refine gm_get hx hb hW hown X u_Mdl m53 rfl 8 (by decide) wf_Mdl_32 (v := .ref (E.2.1 + 72)) rfl d_Mdl_plus_59 ?_
      refine gm_Vv hx hb hml hown hW X m99 (q_mul l hpP hf hR R_1 (by decide) (isQ.x hP) (by decide) (by omega) mt1_1 m71_1) (n := 3) ⟨⟨wl_Mdl_25, wi_Rng_multiply, wsel_Rng_multiply, winit_Rng, wc_Rng_multiply⟩, by decide +kernel, ⟨Nat.le_of_ble_eq_true rfl, Nat.le_of_ble_eq_true rfl⟩, _, rfl, rfl⟩ rfl hl.1 rfl (Nat.le_of_ble_eq_true rfl) d_Mdl_plus_62 ⟨Nat.le_of_ble_eq_true rfl, Nat.le_of_ble_eq_true rfl⟩ (fun M1 H locs hp X => ?_)
      obtain ⟨τ2, rfl, q2, kk2⟩ := hp
      have mt1_2 : MV φ nP (τ2 (t + 1)) x := by rw [kk2 (t + 1) (by omega) (by omega)]; exact mt1_1
      have mt2_2 : MV φ nP (τ2 (t + 2)) y := by rw [kk2 (t + 2) (by omega) (by omega)]; exact mt2_1
      have mt3_2 : MV φ nP (τ2 (t + 3)) z := by rw [kk2 (t + 3) (by omega) (by omega)]; exact mt3_1
      have mu1_2 : MV φ nP (τ2 (u + 1)) ux := by rw [kk2 (u + 1) (by omega) (by omega)]; exact mu1_1
      have mu2_2 : MV φ nP (τ2 (u + 2)) uy := by rw [kk2 (u + 2) (by omega) (by omega)]; exact mu2_1
      have mu3_2 : MV φ nP (τ2 (u + 3)) uz := by rw [kk2 (u + 3) (by omega) (by omega)]; exact mu3_1
      have m71_2 : MV φ nP (τ2 71) (uz * uz) := by rw [kk2 71 (by omega) (by omega)]; exact m71_1
      have R_2 : isR φ nP 99 τ2 := R_1.kp (fun j h1 h2 => kk2 j (by omega) (by omega))
      have m72_2 : MV φ nP (τ2 72) (x * (uz * uz)) := q2
      refine lv_aload_n hx hb d_Mdl_plus_65 rfl (lv_at hl 0 rfl) ?_
      refine gm_get hx hb hW hown X u_Mdl m53 rfl 0 (by decide) wf_Mdl_13 (v := .ref (E.2.1 + 99)) rfl d_Mdl_plus_66 ?_
      refine lv_aload_n hx hb d_Mdl_plus_69 rfl (lv_at hl 0 rfl) ?_
      refine gm_get hx hb hW hown X u_Mdl m53 rfl 7 (by decide) wf_Mdl_22 (v := .ref (E.2.1 + 71)) rfl d_Mdl_plus_70 ?_
      refine lv_aload_n hx hb d_Mdl_plus_73 rfl (lv_at hl 2 rfl) ?_
      refine gm_getN hx hb hW hown X u_Rpt (oQ hQ) rfl 2 (by decide) wfn_Mdl_1 (v := .ref (E.2.1 + (u + 3))) rfl d_Mdl_plus_74 ?_
      refine lv_aload_n hx hb d_Mdl_plus_77 rfl (lv_at hl 0 rfl) ?_
      refine gm_get hx hb hW hown X u_Mdl m53 rfl 7 (by decide) wf_Mdl_22 (v := .ref (E.2.1 + 71)) rfl d_Mdl_plus_78 ?_
      refine gm_Vv hx hb hml hown hW X m99 (q_mul l hpP hf hR R_2 (by decide) (by decide) (isQ.z hQ) (by omega) m71_2 mu3_2) (n := 3) ⟨⟨wl_Mdl_25, wi_Rng_multiply, wsel_Rng_multiply, winit_Rng, wc_Rng_multiply⟩, by decide +kernel, ⟨Nat.le_of_ble_eq_true rfl, Nat.le_of_ble_eq_true rfl⟩, _, rfl, rfl⟩ rfl hl.1 rfl (Nat.le_of_ble_eq_true rfl) d_Mdl_plus_81 ⟨Nat.le_of_ble_eq_true rfl, Nat.le_of_ble_eq_true rfl⟩ (fun M1 H locs hp X => ?_)
      obtain ⟨τ3, rfl, q3, kk3⟩ := hp
      have mt1_3 : MV φ nP (τ3 (t + 1)) x := by rw [kk3 (t + 1) (by omega) (by omega)]; exact mt1_2
      have mt2_3 : MV φ nP (τ3 (t + 2)) y := by rw [kk3 (t + 2) (by omega) (by omega)]; exact mt2_2
      have mt3_3 : MV φ nP (τ3 (t + 3)) z := by rw [kk3 (t + 3) (by omega) (by omega)]; exact mt3_2
      have mu1_3 : MV φ nP (τ3 (u + 1)) ux := by rw [kk3 (u + 1) (by omega) (by omega)]; exact mu1_2
      have mu2_3 : MV φ nP (τ3 (u + 2)) uy := by rw [kk3 (u + 2) (by omega) (by omega)]; exact mu2_2
      have mu3_3 : MV φ nP (τ3 (u + 3)) uz := by rw [kk3 (u + 3) (by omega) (by omega)]; exact mu3_2
      have m72_3 : MV φ nP (τ3 72) (x * (uz * uz)) := by rw [kk3 72 (by omega) (by omega)]; exact m72_2
      have R_3 : isR φ nP 99 τ3 := R_2.kp (fun j h1 h2 => kk3 j (by omega) (by omega))
      have m71_3 : MV φ nP (τ3 71) ((uz * uz) * uz) := q3
      refine lv_aload_n hx hb d_Mdl_plus_84 rfl (lv_at hl 0 rfl) ?_
      refine gm_get hx hb hW hown X u_Mdl m53 rfl 0 (by decide) wf_Mdl_13 (v := .ref (E.2.1 + 99)) rfl d_Mdl_plus_85 ?_
      refine lv_aload_n hx hb d_Mdl_plus_88 rfl (lv_at hl 1 rfl) ?_
      refine gm_getN hx hb hW hown X u_Rpt (oQ hP) rfl 1 (by decide) wfn_Mdl_19 (v := .ref (E.2.1 + (t + 2))) rfl d_Mdl_plus_89 ?_
      refine lv_aload_n hx hb d_Mdl_plus_92 rfl (lv_at hl 0 rfl) ?_
      refine gm_get hx hb hW hown X u_Mdl m53 rfl 7 (by decide) wf_Mdl_22 (v := .ref (E.2.1 + 71)) rfl d_Mdl_plus_93 ?_
      refine lv_aload_n hx hb d_Mdl_plus_96 rfl (lv_at hl 0 rfl) ?_
      refine gm_get hx hb hW hown X u_Mdl m53 rfl 7 (by decide) wf_Mdl_22 (v := .ref (E.2.1 + 71)) rfl d_Mdl_plus_97 ?_
      refine gm_Vv hx hb hml hown hW X m99 (q_mul l hpP hf hR R_3 (by decide) (isQ.y hP) (by decide) (by omega) mt2_3 m71_3) (n := 3) ⟨⟨wl_Mdl_25, wi_Rng_multiply, wsel_Rng_multiply, winit_Rng, wc_Rng_multiply⟩, by decide +kernel, ⟨Nat.le_of_ble_eq_true rfl, Nat.le_of_ble_eq_true rfl⟩, _, rfl, rfl⟩ rfl hl.1 rfl (Nat.le_of_ble_eq_true rfl) d_Mdl_plus_100 ⟨Nat.le_of_ble_eq_true rfl, Nat.le_of_ble_eq_true rfl⟩ (fun M1 H locs hp X => ?_)
      obtain ⟨τ4, rfl, q4, kk4⟩ := hp
      have mt1_4 : MV φ nP (τ4 (t + 1)) x := by rw [kk4 (t + 1) (by omega) (by omega)]; exact mt1_3
      have mt2_4 : MV φ nP (τ4 (t + 2)) y := by rw [kk4 (t + 2) (by omega) (by omega)]; exact mt2_3
      have mt3_4 : MV φ nP (τ4 (t + 3)) z := by rw [kk4 (t + 3) (by omega) (by omega)]; exact mt3_3
      have mu1_4 : MV φ nP (τ4 (u + 1)) ux := by rw [kk4 (u + 1) (by omega) (by omega)]; exact mu1_3
      have mu2_4 : MV φ nP (τ4 (u + 2)) uy := by rw [kk4 (u + 2) (by omega) (by omega)]; exact mu2_3
      have mu3_4 : MV φ nP (τ4 (u + 3)) uz := by rw [kk4 (u + 3) (by omega) (by omega)]; exact mu3_3
      have m72_4 : MV φ nP (τ4 72) (x * (uz * uz)) := by rw [kk4 72 (by omega) (by omega)]; exact m72_3
      have R_4 : isR φ nP 99 τ4 := R_3.kp (fun j h1 h2 => kk4 j (by omega) (by omega))
      have m71_4 : MV φ nP (τ4 71) (y * ((uz * uz) * uz)) := q4
      refine lv_aload_n hx hb d_Mdl_plus_103 rfl (lv_at hl 0 rfl) ?_
      refine gm_get hx hb hW hown X u_Mdl m53 rfl 0 (by decide) wf_Mdl_13 (v := .ref (E.2.1 + 99)) rfl d_Mdl_plus_104 ?_
      refine lv_aload_n hx hb d_Mdl_plus_107 rfl (lv_at hl 1 rfl) ?_
      refine gm_getN hx hb hW hown X u_Rpt (oQ hP) rfl 2 (by decide) wfn_Mdl_1 (v := .ref (E.2.1 + (t + 3))) rfl d_Mdl_plus_108 ?_
      refine lv_aload_n hx hb d_Mdl_plus_111 rfl (lv_at hl 1 rfl) ?_
      refine gm_getN hx hb hW hown X u_Rpt (oQ hP) rfl 2 (by decide) wfn_Mdl_1 (v := .ref (E.2.1 + (t + 3))) rfl d_Mdl_plus_112 ?_
      refine lv_aload_n hx hb d_Mdl_plus_115 rfl (lv_at hl 0 rfl) ?_
      refine gm_get hx hb hW hown X u_Mdl m53 rfl 9 (by decide) wf_Mdl_38 (v := .ref (E.2.1 + 73)) rfl d_Mdl_plus_116 ?_
      refine gm_Vv hx hb hml hown hW X m99 (q_mul l hpP hf hR R_4 (by decide) (isQ.z hP) (isQ.z hP) (by omega) mt3_4 mt3_4) (n := 3) ⟨⟨wl_Mdl_25, wi_Rng_multiply, wsel_Rng_multiply, winit_Rng, wc_Rng_multiply⟩, by decide +kernel, ⟨Nat.le_of_ble_eq_true rfl, Nat.le_of_ble_eq_true rfl⟩, _, rfl, rfl⟩ rfl hl.1 rfl (Nat.le_of_ble_eq_true rfl) d_Mdl_plus_119 ⟨Nat.le_of_ble_eq_true rfl, Nat.le_of_ble_eq_true rfl⟩ (fun M1 H locs hp X => ?_)
      obtain ⟨τ5, rfl, q5, kk5⟩ := hp
      have mt1_5 : MV φ nP (τ5 (t + 1)) x := by rw [kk5 (t + 1) (by omega) (by omega)]; exact mt1_4
      have mt2_5 : MV φ nP (τ5 (t + 2)) y := by rw [kk5 (t + 2) (by omega) (by omega)]; exact mt2_4
      have mt3_5 : MV φ nP (τ5 (t + 3)) z := by rw [kk5 (t + 3) (by omega) (by omega)]; exact mt3_4
      have mu1_5 : MV φ nP (τ5 (u + 1)) ux := by rw [kk5 (u + 1) (by omega) (by omega)]; exact mu1_4
      have mu2_5 : MV φ nP (τ5 (u + 2)) uy := by rw [kk5 (u + 2) (by omega) (by omega)]; exact mu2_4
      have mu3_5 : MV φ nP (τ5 (u + 3)) uz := by rw [kk5 (u + 3) (by omega) (by omega)]; exact mu3_4
      have m72_5 : MV φ nP (τ5 72) (x * (uz * uz)) := by rw [kk5 72 (by omega) (by omega)]; exact m72_4
      have m71_5 : MV φ nP (τ5 71) (y * ((uz * uz) * uz)) := by rw [kk5 71 (by omega) (by omega)]; exact m71_4
      have R_5 : isR φ nP 99 τ5 := R_4.kp (fun j h1 h2 => kk5 j (by omega) (by omega))
      have m73_5 : MV φ nP (τ5 73) (z * z) := q5
      refine lv_aload_n hx hb d_Mdl_plus_122 rfl (lv_at hl 0 rfl) ?_
      refine gm_get hx hb hW hown X u_Mdl m53 rfl 0 (by decide) wf_Mdl_13 (v := .ref (E.2.1 + 99)) rfl d_Mdl_plus_123 ?_
      refine lv_aload_n hx hb d_Mdl_plus_126 rfl (lv_at hl 2 rfl) ?_
      refine gm_getN hx hb hW hown X u_Rpt (oQ hQ) rfl 0 (by decide) wfn_Mdl_29 (v := .ref (E.2.1 + (u + 1))) rfl d_Mdl_plus_127 ?_
      refine lv_aload_n hx hb d_Mdl_plus_130 rfl (lv_at hl 0 rfl) ?_
      refine gm_get hx hb hW hown X u_Mdl m53 rfl 9 (by decide) wf_Mdl_38 (v := .ref (E.2.1 + 73)) rfl d_Mdl_plus_131 ?_
      refine lv_aload_n hx hb d_Mdl_plus_134 rfl (lv_at hl 0 rfl) ?_
      refine gm_get hx hb hW hown X u_Mdl m53 rfl 10 (by decide) wf_Mdl_41 (v := .ref (E.2.1 + 74)) rfl d_Mdl_plus_135 ?_
      refine gm_Vv hx hb hml hown hW X m99 (q_mul l hpP hf hR R_5 (by decide) (isQ.x hQ) (by decide) (by omega) mu1_5 m73_5) (n := 3) ⟨⟨wl_Mdl_25, wi_Rng_multiply, wsel_Rng_multiply, winit_Rng, wc_Rng_multiply⟩, by decide +kernel, ⟨Nat.le_of_ble_eq_true rfl, Nat.le_of_ble_eq_true rfl⟩, _, rfl, rfl⟩ rfl hl.1 rfl (Nat.le_of_ble_eq_true rfl) d_Mdl_plus_138 ⟨Nat.le_of_ble_eq_true rfl, Nat.le_of_ble_eq_true rfl⟩ (fun M1 H locs hp X => ?_)
      obtain ⟨τ6, rfl, q6, kk6⟩ := hp
      have mt1_6 : MV φ nP (τ6 (t + 1)) x := by rw [kk6 (t + 1) (by omega) (by omega)]; exact mt1_5
      have mt2_6 : MV φ nP (τ6 (t + 2)) y := by rw [kk6 (t + 2) (by omega) (by omega)]; exact mt2_5
      have mt3_6 : MV φ nP (τ6 (t + 3)) z := by rw [kk6 (t + 3) (by omega) (by omega)]; exact mt3_5
      have mu1_6 : MV φ nP (τ6 (u + 1)) ux := by rw [kk6 (u + 1) (by omega) (by omega)]; exact mu1_5
      have mu2_6 : MV φ nP (τ6 (u + 2)) uy := by rw [kk6 (u + 2) (by omega) (by omega)]; exact mu2_5
      have mu3_6 : MV φ nP (τ6 (u + 3)) uz := by rw [kk6 (u + 3) (by omega) (by omega)]; exact mu3_5
      have m72_6 : MV φ nP (τ6 72) (x * (uz * uz)) := by rw [kk6 72 (by omega) (by omega)]; exact m72_5
      have m71_6 : MV φ nP (τ6 71) (y * ((uz * uz) * uz)) := by rw [kk6 71 (by omega) (by omega)]; exact m71_5
      have m73_6 : MV φ nP (τ6 73) (z * z) := by rw [kk6 73 (by omega) (by omega)]; exact m73_5
      have R_6 : isR φ nP 99 τ6 := R_5.kp (fun j h1 h2 => kk6 j (by omega) (by omega))
      have m74_6 : MV φ nP (τ6 74) (ux * (z * z)) := q6
      refine lv_aload_n hx hb d_Mdl_plus_141 rfl (lv_at hl 0 rfl) ?_
      refine gm_get hx hb hW hown X u_Mdl m53 rfl 0 (by decide) wf_Mdl_13 (v := .ref (E.2.1 + 99)) rfl d_Mdl_plus_142 ?_
      refine lv_aload_n hx hb d_Mdl_plus_145 rfl (lv_at hl 0 rfl) ?_
      refine gm_get hx hb hW hown X u_Mdl m53 rfl 9 (by decide) wf_Mdl_38 (v := .ref (E.2.1 + 73)) rfl d_Mdl_plus_146 ?_
      refine lv_aload_n hx hb d_Mdl_plus_149 rfl (lv_at hl 1 rfl) ?_
      refine gm_getN hx hb hW hown X u_Rpt (oQ hP) rfl 2 (by decide) wfn_Mdl_1 (v := .ref (E.2.1 + (t + 3))) rfl d_Mdl_plus_150 ?_
      refine lv_aload_n hx hb d_Mdl_plus_153 rfl (lv_at hl 0 rfl) ?_
      refine gm_get hx hb hW hown X u_Mdl m53 rfl 9 (by decide) wf_Mdl_38 (v := .ref (E.2.1 + 73)) rfl d_Mdl_plus_154 ?_
      refine gm_Vv hx hb hml hown hW X m99 (q_mul l hpP hf hR R_6 (by decide) (by decide) (isQ.z hP) (by omega) m73_6 mt3_6) (n := 3) ⟨⟨wl_Mdl_25, wi_Rng_multiply, wsel_Rng_multiply, winit_Rng, wc_Rng_multiply⟩, by decide +kernel, ⟨Nat.le_of_ble_eq_true rfl, Nat.le_of_ble_eq_true rfl⟩, _, rfl, rfl⟩ rfl hl.1 rfl (Nat.le_of_ble_eq_true rfl) d_Mdl_plus_157 ⟨Nat.le_of_ble_eq_true rfl, Nat.le_of_ble_eq_true rfl⟩ (fun M1 H locs hp X => ?_)
      obtain ⟨τ7, rfl, q7, kk7⟩ := hp
      have mt1_7 : MV φ nP (τ7 (t + 1)) x := by rw [kk7 (t + 1) (by omega) (by omega)]; exact mt1_6
      have mt2_7 : MV φ nP (τ7 (t + 2)) y := by rw [kk7 (t + 2) (by omega) (by omega)]; exact mt2_6
      have mt3_7 : MV φ nP (τ7 (t + 3)) z := by rw [kk7 (t + 3) (by omega) (by omega)]; exact mt3_6
      have mu1_7 : MV φ nP (τ7 (u + 1)) ux := by rw [kk7 (u + 1) (by omega) (by omega)]; exact mu1_6
      have mu2_7 : MV φ nP (τ7 (u + 2)) uy := by rw [kk7 (u + 2) (by omega) (by omega)]; exact mu2_6
      have mu3_7 : MV φ nP (τ7 (u + 3)) uz := by rw [kk7 (u + 3) (by omega) (by omega)]; exact mu3_6
      have m72_7 : MV φ nP (τ7 72) (x * (uz * uz)) := by rw [kk7 72 (by omega) (by omega)]; exact m72_6
      have m71_7 : MV φ nP (τ7 71) (y * ((uz * uz) * uz)) := by rw [kk7 71 (by omega) (by omega)]; exact m71_6
      have m74_7 : MV φ nP (τ7 74) (ux * (z * z)) := by rw [kk7 74 (by omega) (by omega)]; exact m74_6
      have R_7 : isR φ nP 99 τ7 := R_6.kp (fun j h1 h2 => kk7 j (by omega) (by omega))
      have m73_7 : MV φ nP (τ7 73) ((z * z) * z) := q7
      refine lv_aload_n hx hb d_Mdl_plus_160 rfl (lv_at hl 0 rfl) ?_
      refine gm_get hx hb hW hown X u_Mdl m53 rfl 0 (by decide) wf_Mdl_13 (v := .ref (E.2.1 + 99)) rfl d_Mdl_plus_161 ?_
      refine lv_aload_n hx hb d_Mdl_plus_164 rfl (lv_at hl 2 rfl) ?_
      refine gm_getN hx hb hW hown X u_Rpt (oQ hQ) rfl 1 (by decide) wfn_Mdl_19 (v := .ref (E.2.1 + (u + 2))) rfl d_Mdl_plus_165 ?_
      refine lv_aload_n hx hb d_Mdl_plus_168 rfl (lv_at hl 0 rfl) ?_
      refine gm_get hx hb hW hown X u_Mdl m53 rfl 9 (by decide) wf_Mdl_38 (v := .ref (E.2.1 + 73)) rfl d_Mdl_plus_169 ?_
      refine lv_aload_n hx hb d_Mdl_plus_172 rfl (lv_at hl 0 rfl) ?_
      refine gm_get hx hb hW hown X u_Mdl m53 rfl 9 (by decide) wf_Mdl_38 (v := .ref (E.2.1 + 73)) rfl d_Mdl_plus_173 ?_
      refine gm_Vv hx hb hml hown hW X m99 (q_mul l hpP hf hR R_7 (by decide) (isQ.y hQ) (by decide) (by omega) mu2_7 m73_7) (n := 3) ⟨⟨wl_Mdl_25, wi_Rng_multiply, wsel_Rng_multiply, winit_Rng, wc_Rng_multiply⟩, by decide +kernel, ⟨Nat.le_of_ble_eq_true rfl, Nat.le_of_ble_eq_true rfl⟩, _, rfl, rfl⟩ rfl hl.1 rfl (Nat.le_of_ble_eq_true rfl) d_Mdl_plus_176 ⟨Nat.le_of_ble_eq_true rfl, Nat.le_of_ble_eq_true rfl⟩ (fun M1 H locs hp X => ?_)
      obtain ⟨τ8, rfl, q8, kk8⟩ := hp
      have mt1_8 : MV φ nP (τ8 (t + 1)) x := by rw [kk8 (t + 1) (by omega) (by omega)]; exact mt1_7
      have mt2_8 : MV φ nP (τ8 (t + 2)) y := by rw [kk8 (t + 2) (by omega) (by omega)]; exact mt2_7
      have mt3_8 : MV φ nP (τ8 (t + 3)) z := by rw [kk8 (t + 3) (by omega) (by omega)]; exact mt3_7
      have mu1_8 : MV φ nP (τ8 (u + 1)) ux := by rw [kk8 (u + 1) (by omega) (by omega)]; exact mu1_7
      have mu2_8 : MV φ nP (τ8 (u + 2)) uy := by rw [kk8 (u + 2) (by omega) (by omega)]; exact mu2_7
      have mu3_8 : MV φ nP (τ8 (u + 3)) uz := by rw [kk8 (u + 3) (by omega) (by omega)]; exact mu3_7
      have m72_8 : MV φ nP (τ8 72) (x * (uz * uz)) := by rw [kk8 72 (by omega) (by omega)]; exact m72_7
      have m71_8 : MV φ nP (τ8 71) (y * ((uz * uz) * uz)) := by rw [kk8 71 (by omega) (by omega)]; exact m71_7
      have m74_8 : MV φ nP (τ8 74) (ux * (z * z)) := by rw [kk8 74 (by omega) (by omega)]; exact m74_7
      have R_8 : isR φ nP 99 τ8 := R_7.kp (fun j h1 h2 => kk8 j (by omega) (by omega))
      have m73_8 : MV φ nP (τ8 73) (uy * ((z * z) * z)) := q8
      refine lv_aload_n hx hb d_Mdl_plus_179 rfl (lv_at hl 0 rfl) ?_
      refine gm_get hx hb hW hown X u_Mdl m53 rfl 0 (by decide) wf_Mdl_13 (v := .ref (E.2.1 + 99)) rfl d_Mdl_plus_180 ?_
      refine lv_aload_n hx hb d_Mdl_plus_183 rfl (lv_at hl 0 rfl) ?_
      refine gm_get hx hb hW hown X u_Mdl m53 rfl 10 (by decide) wf_Mdl_41 (v := .ref (E.2.1 + 74)) rfl d_Mdl_plus_184 ?_
      refine lv_aload_n hx hb d_Mdl_plus_187 rfl (lv_at hl 0 rfl) ?_
      refine gm_get hx hb hW hown X u_Mdl m53 rfl 8 (by decide) wf_Mdl_32 (v := .ref (E.2.1 + 72)) rfl d_Mdl_plus_188 ?_
      refine lv_aload_n hx hb d_Mdl_plus_191 rfl (lv_at hl 0 rfl) ?_
      refine gm_get hx hb hW hown X u_Mdl m53 rfl 10 (by decide) wf_Mdl_41 (v := .ref (E.2.1 + 74)) rfl d_Mdl_plus_192 ?_
      refine gm_Vv hx hb hml hown hW X m99 (q_subtract l hpP hf R_8 (by decide) (by decide) (by decide) (by omega) m74_8 m72_8) (n := 3) ⟨⟨wl_Mdl_47, wi_Rng_subtract, wsel_Rng_subtract, winit_Rng, wc_Rng_subtract⟩, by decide +kernel, ⟨Nat.le_of_ble_eq_true rfl, Nat.le_of_ble_eq_true rfl⟩, _, rfl, rfl⟩ rfl hl.1 rfl (Nat.le_of_ble_eq_true rfl) d_Mdl_plus_195 ⟨Nat.le_of_ble_eq_true rfl, Nat.le_of_ble_eq_true rfl⟩ (fun M1 H locs hp X => ?_)
      obtain ⟨τ9, rfl, q9, kk9⟩ := hp
      have mt1_9 : MV φ nP (τ9 (t + 1)) x := by rw [kk9 (t + 1) (by omega) (by omega)]; exact mt1_8
      have mt2_9 : MV φ nP (τ9 (t + 2)) y := by rw [kk9 (t + 2) (by omega) (by omega)]; exact mt2_8
      have mt3_9 : MV φ nP (τ9 (t + 3)) z := by rw [kk9 (t + 3) (by omega) (by omega)]; exact mt3_8
      have mu1_9 : MV φ nP (τ9 (u + 1)) ux := by rw [kk9 (u + 1) (by omega) (by omega)]; exact mu1_8
      have mu2_9 : MV φ nP (τ9 (u + 2)) uy := by rw [kk9 (u + 2) (by omega) (by omega)]; exact mu2_8
      have mu3_9 : MV φ nP (τ9 (u + 3)) uz := by rw [kk9 (u + 3) (by omega) (by omega)]; exact mu3_8
      have m72_9 : MV φ nP (τ9 72) (x * (uz * uz)) := by rw [kk9 72 (by omega) (by omega)]; exact m72_8
      have m71_9 : MV φ nP (τ9 71) (y * ((uz * uz) * uz)) := by rw [kk9 71 (by omega) (by omega)]; exact m71_8
      have m73_9 : MV φ nP (τ9 73) (uy * ((z * z) * z)) := by rw [kk9 73 (by omega) (by omega)]; exact m73_8
      have R_9 : isR φ nP 99 τ9 := R_8.kp (fun j h1 h2 => kk9 j (by omega) (by omega))
      have m74_9 : MV φ nP (τ9 74) ((ux * (z * z)) - (x * (uz * uz))) := q9
      refine lv_aload_n hx hb d_Mdl_plus_198 rfl (lv_at hl 0 rfl) ?_
      refine gm_get hx hb hW hown X u_Mdl m53 rfl 0 (by decide) wf_Mdl_13 (v := .ref (E.2.1 + 99)) rfl d_Mdl_plus_199 ?_
      refine lv_aload_n hx hb d_Mdl_plus_202 rfl (lv_at hl 0 rfl) ?_
      refine gm_get hx hb hW hown X u_Mdl m53 rfl 9 (by decide) wf_Mdl_38 (v := .ref (E.2.1 + 73)) rfl d_Mdl_plus_203 ?_
      refine lv_aload_n hx hb d_Mdl_plus_206 rfl (lv_at hl 0 rfl) ?_
      refine gm_get hx hb hW hown X u_Mdl m53 rfl 7 (by decide) wf_Mdl_22 (v := .ref (E.2.1 + 71)) rfl d_Mdl_plus_207 ?_
      refine lv_aload_n hx hb d_Mdl_plus_210 rfl (lv_at hl 0 rfl) ?_
      refine gm_get hx hb hW hown X u_Mdl m53 rfl 9 (by decide) wf_Mdl_38 (v := .ref (E.2.1 + 73)) rfl d_Mdl_plus_211 ?_
      refine gm_Vv hx hb hml hown hW X m99 (q_subtract l hpP hf R_9 (by decide) (by decide) (by decide) (by omega) m73_9 m71_9) (n := 3) ⟨⟨wl_Mdl_47, wi_Rng_subtract, wsel_Rng_subtract, winit_Rng, wc_Rng_subtract⟩, by decide +kernel, ⟨Nat.le_of_ble_eq_true rfl, Nat.le_of_ble_eq_true rfl⟩, _, rfl, rfl⟩ rfl hl.1 rfl (Nat.le_of_ble_eq_true rfl) d_Mdl_plus_214 ⟨Nat.le_of_ble_eq_true rfl, Nat.le_of_ble_eq_true rfl⟩ (fun M1 H locs hp X => ?_)
      obtain ⟨τ10, rfl, q10, kk10⟩ := hp
      have mt1_10 : MV φ nP (τ10 (t + 1)) x := by rw [kk10 (t + 1) (by omega) (by omega)]; exact mt1_9
      have mt2_10 : MV φ nP (τ10 (t + 2)) y := by rw [kk10 (t + 2) (by omega) (by omega)]; exact mt2_9
      have mt3_10 : MV φ nP (τ10 (t + 3)) z := by rw [kk10 (t + 3) (by omega) (by omega)]; exact mt3_9
      have mu1_10 : MV φ nP (τ10 (u + 1)) ux := by rw [kk10 (u + 1) (by omega) (by omega)]; exact mu1_9
      have mu2_10 : MV φ nP (τ10 (u + 2)) uy := by rw [kk10 (u + 2) (by omega) (by omega)]; exact mu2_9
      have mu3_10 : MV φ nP (τ10 (u + 3)) uz := by rw [kk10 (u + 3) (by omega) (by omega)]; exact mu3_9
      have m72_10 : MV φ nP (τ10 72) (x * (uz * uz)) := by rw [kk10 72 (by omega) (by omega)]; exact m72_9
      have m71_10 : MV φ nP (τ10 71) (y * ((uz * uz) * uz)) := by rw [kk10 71 (by omega) (by omega)]; exact m71_9
      have m74_10 : MV φ nP (τ10 74) ((ux * (z * z)) - (x * (uz * uz))) := by rw [kk10 74 (by omega) (by omega)]; exact m74_9
      have R_10 : isR φ nP 99 τ10 := R_9.kp (fun j h1 h2 => kk10 j (by omega) (by omega))
      have m73_10 : MV φ nP (τ10 73) ((uy * ((z * z) * z)) - (y * ((uz * uz) * uz))) := q10
      refine lv_aload_n hx hb d_Mdl_plus_217 rfl (lv_at hl 0 rfl) ?_
      refine gm_get hx hb hW hown X u_Mdl m53 rfl 10 (by decide) wf_Mdl_41 (v := .ref (E.2.1 + 74)) rfl d_Mdl_plus_218 ?_
      have hJ := jr_eq hk.1 hj hjq
      have eU : ((ux * (z * z)) - (x * (uz * uz))) = ux * (z * z) - x * (uz * uz) := by grind
      have eV : ((uy * ((z * z) * z)) - (y * ((uz * uz) * uz))) = uy * (z * z * z) - y * (uz * uz * uz) := by grind
      refine gm_Si hx hb hml hown hW X (q_isZero l hf hR (by decide) m74_10) (n := 1) ⟨⟨wl_Mdl_7, ws_Rng_isZero, winit_Rng, wc_Rng_isZero⟩, by decide +kernel, Nat.le_of_ble_eq_true rfl, Nat.le_of_ble_eq_true rfl⟩ rfl hl.1 rfl (Nat.le_of_ble_eq_true rfl) d_Mdl_plus_221 ⟨Nat.le_of_ble_eq_true rfl, Nat.le_of_ble_eq_true rfl⟩ (fun r3 M1 H locs hp X => ?_)
      rw [hp.1] at X
      have hd := hp.2
      refine lv_if_eq (tgt := 267) hx hb d_Mdl_plus_224 (by decide) (fun c224 => ?_) (fun c224 => ?_)
      · have hu : ¬ a.1 = b.1 := by
          rcases hd with q | q
          · exact absurd (q.1.symm.trans c224) (by decide)
          · exact fun e => q.2 (eU ▸ hJ.1.mpr e)
        refine lv_aload_n hx hb d_Mdl_plus_267 rfl (lv_at hl 0 rfl) ?_
        refine gm_get hx hb hW hown X u_Mdl m53 rfl 0 (by decide) wf_Mdl_13 (v := .ref (E.2.1 + 99)) rfl d_Mdl_plus_268 ?_
        refine lv_aload_n hx hb d_Mdl_plus_271 rfl (lv_at hl 1 rfl) ?_
        refine gm_getN hx hb hW hown X u_Rpt (oQ hP) rfl 2 (by decide) wfn_Mdl_1 (v := .ref (E.2.1 + (t + 3))) rfl d_Mdl_plus_272 ?_
        refine lv_aload_n hx hb d_Mdl_plus_275 rfl (lv_at hl 2 rfl) ?_
        refine gm_getN hx hb hW hown X u_Rpt (oQ hQ) rfl 2 (by decide) wfn_Mdl_1 (v := .ref (E.2.1 + (u + 3))) rfl d_Mdl_plus_276 ?_
        refine lv_aload_n hx hb d_Mdl_plus_279 rfl (lv_at hl 1 rfl) ?_
        refine gm_getN hx hb hW hown X u_Rpt (oQ hP) rfl 2 (by decide) wfn_Mdl_1 (v := .ref (E.2.1 + (t + 3))) rfl d_Mdl_plus_280 ?_
        refine gm_Vv hx hb hml hown hW X m99 (q_mul l hpP hf hR R_10 (isQ.z hP) (isQ.z hP) (isQ.z hQ) (by omega) mt3_10 mu3_10) (n := 3) ⟨⟨wl_Mdl_25, wi_Rng_multiply, wsel_Rng_multiply, winit_Rng, wc_Rng_multiply⟩, by decide +kernel, ⟨Nat.le_of_ble_eq_true rfl, Nat.le_of_ble_eq_true rfl⟩, _, rfl, rfl⟩ rfl hl.1 rfl (Nat.le_of_ble_eq_true rfl) d_Mdl_plus_283 ⟨Nat.le_of_ble_eq_true rfl, Nat.le_of_ble_eq_true rfl⟩ (fun M1 H locs hp X => ?_)
        obtain ⟨τ11, rfl, q11, kk11⟩ := hp
        have mt1_11 : MV φ nP (τ11 (t + 1)) x := by rw [kk11 (t + 1) (by omega) (by omega)]; exact mt1_10
        have mt2_11 : MV φ nP (τ11 (t + 2)) y := by rw [kk11 (t + 2) (by omega) (by omega)]; exact mt2_10
        have mu1_11 : MV φ nP (τ11 (u + 1)) ux := by rw [kk11 (u + 1) (by omega) (by omega)]; exact mu1_10
        have mu2_11 : MV φ nP (τ11 (u + 2)) uy := by rw [kk11 (u + 2) (by omega) (by omega)]; exact mu2_10
        have mu3_11 : MV φ nP (τ11 (u + 3)) uz := by rw [kk11 (u + 3) (by omega) (by omega)]; exact mu3_10
        have m72_11 : MV φ nP (τ11 72) (x * (uz * uz)) := by rw [kk11 72 (by omega) (by omega)]; exact m72_10
        have m71_11 : MV φ nP (τ11 71) (y * ((uz * uz) * uz)) := by rw [kk11 71 (by omega) (by omega)]; exact m71_10
        have m74_11 : MV φ nP (τ11 74) ((ux * (z * z)) - (x * (uz * uz))) := by rw [kk11 74 (by omega) (by omega)]; exact m74_10
        have m73_11 : MV φ nP (τ11 73) ((uy * ((z * z) * z)) - (y * ((uz * uz) * uz))) := by rw [kk11 73 (by omega) (by omega)]; exact m73_10
        have R_11 : isR φ nP 99 τ11 := R_10.kp (fun j h1 h2 => kk11 j (by omega) (by omega))
        have mt3_11 : MV φ nP (τ11 (t + 3)) (z * uz) := q11
        refine lv_aload_n hx hb d_Mdl_plus_286 rfl (lv_at hl 0 rfl) ?_
        refine gm_get hx hb hW hown X u_Mdl m53 rfl 0 (by decide) wf_Mdl_13 (v := .ref (E.2.1 + 99)) rfl d_Mdl_plus_287 ?_
        refine lv_aload_n hx hb d_Mdl_plus_290 rfl (lv_at hl 1 rfl) ?_
        refine gm_getN hx hb hW hown X u_Rpt (oQ hP) rfl 2 (by decide) wfn_Mdl_1 (v := .ref (E.2.1 + (t + 3))) rfl d_Mdl_plus_291 ?_
        refine lv_aload_n hx hb d_Mdl_plus_294 rfl (lv_at hl 0 rfl) ?_
        refine gm_get hx hb hW hown X u_Mdl m53 rfl 10 (by decide) wf_Mdl_41 (v := .ref (E.2.1 + 74)) rfl d_Mdl_plus_295 ?_
        refine lv_aload_n hx hb d_Mdl_plus_298 rfl (lv_at hl 1 rfl) ?_
        refine gm_getN hx hb hW hown X u_Rpt (oQ hP) rfl 2 (by decide) wfn_Mdl_1 (v := .ref (E.2.1 + (t + 3))) rfl d_Mdl_plus_299 ?_
        refine gm_Vv hx hb hml hown hW X m99 (q_mul l hpP hf hR R_11 (isQ.z hP) (isQ.z hP) (by decide) (by omega) mt3_11 m74_11) (n := 3) ⟨⟨wl_Mdl_25, wi_Rng_multiply, wsel_Rng_multiply, winit_Rng, wc_Rng_multiply⟩, by decide +kernel, ⟨Nat.le_of_ble_eq_true rfl, Nat.le_of_ble_eq_true rfl⟩, _, rfl, rfl⟩ rfl hl.1 rfl (Nat.le_of_ble_eq_true rfl) d_Mdl_plus_302 ⟨Nat.le_of_ble_eq_true rfl, Nat.le_of_ble_eq_true rfl⟩ (fun M1 H locs hp X => ?_)
        obtain ⟨τ12, rfl, q12, kk12⟩ := hp
        have mt1_12 : MV φ nP (τ12 (t + 1)) x := by rw [kk12 (t + 1) (by omega) (by omega)]; exact mt1_11
        have mt2_12 : MV φ nP (τ12 (t + 2)) y := by rw [kk12 (t + 2) (by omega) (by omega)]; exact mt2_11
        have mu1_12 : MV φ nP (τ12 (u + 1)) ux := by rw [kk12 (u + 1) (by omega) (by omega)]; exact mu1_11
        have mu2_12 : MV φ nP (τ12 (u + 2)) uy := by rw [kk12 (u + 2) (by omega) (by omega)]; exact mu2_11
        have mu3_12 : MV φ nP (τ12 (u + 3)) uz := by rw [kk12 (u + 3) (by omega) (by omega)]; exact mu3_11
        have m72_12 : MV φ nP (τ12 72) (x * (uz * uz)) := by rw [kk12 72 (by omega) (by omega)]; exact m72_11
        have m71_12 : MV φ nP (τ12 71) (y * ((uz * uz) * uz)) := by rw [kk12 71 (by omega) (by omega)]; exact m71_11
        have m74_12 : MV φ nP (τ12 74) ((ux * (z * z)) - (x * (uz * uz))) := by rw [kk12 74 (by omega) (by omega)]; exact m74_11
        have m73_12 : MV φ nP (τ12 73) ((uy * ((z * z) * z)) - (y * ((uz * uz) * uz))) := by rw [kk12 73 (by omega) (by omega)]; exact m73_11
        have R_12 : isR φ nP 99 τ12 := R_11.kp (fun j h1 h2 => kk12 j (by omega) (by omega))
        have mt3_12 : MV φ nP (τ12 (t + 3)) ((z * uz) * ((ux * (z * z)) - (x * (uz * uz)))) := q12
        refine lv_aload_n hx hb d_Mdl_plus_305 rfl (lv_at hl 0 rfl) ?_
        refine gm_get hx hb hW hown X u_Mdl m53 rfl 0 (by decide) wf_Mdl_13 (v := .ref (E.2.1 + 99)) rfl d_Mdl_plus_306 ?_
        refine lv_aload_n hx hb d_Mdl_plus_309 rfl (lv_at hl 0 rfl) ?_
        refine gm_get hx hb hW hown X u_Mdl m53 rfl 10 (by decide) wf_Mdl_41 (v := .ref (E.2.1 + 74)) rfl d_Mdl_plus_310 ?_
        refine lv_aload_n hx hb d_Mdl_plus_313 rfl (lv_at hl 0 rfl) ?_
        refine gm_get hx hb hW hown X u_Mdl m53 rfl 10 (by decide) wf_Mdl_41 (v := .ref (E.2.1 + 74)) rfl d_Mdl_plus_314 ?_
        refine lv_aload_n hx hb d_Mdl_plus_317 rfl (lv_at hl 0 rfl) ?_
        refine gm_get hx hb hW hown X u_Mdl m53 rfl 11 (by decide) wf_Mdl_44 (v := .ref (E.2.1 + 75)) rfl d_Mdl_plus_318 ?_
        refine gm_Vv hx hb hml hown hW X m99 (q_mul l hpP hf hR R_12 (by decide) (by decide) (by decide) (by omega) m74_12 m74_12) (n := 3) ⟨⟨wl_Mdl_25, wi_Rng_multiply, wsel_Rng_multiply, winit_Rng, wc_Rng_multiply⟩, by decide +kernel, ⟨Nat.le_of_ble_eq_true rfl, Nat.le_of_ble_eq_true rfl⟩, _, rfl, rfl⟩ rfl hl.1 rfl (Nat.le_of_ble_eq_true rfl) d_Mdl_plus_321 ⟨Nat.le_of_ble_eq_true rfl, Nat.le_of_ble_eq_true rfl⟩ (fun M1 H locs hp X => ?_)
        obtain ⟨τ13, rfl, q13, kk13⟩ := hp
        have mt1_13 : MV φ nP (τ13 (t + 1)) x := by rw [kk13 (t + 1) (by omega) (by omega)]; exact mt1_12
        have mt2_13 : MV φ nP (τ13 (t + 2)) y := by rw [kk13 (t + 2) (by omega) (by omega)]; exact mt2_12
        have mu1_13 : MV φ nP (τ13 (u + 1)) ux := by rw [kk13 (u + 1) (by omega) (by omega)]; exact mu1_12
        have mu2_13 : MV φ nP (τ13 (u + 2)) uy := by rw [kk13 (u + 2) (by omega) (by omega)]; exact mu2_12
        have mu3_13 : MV φ nP (τ13 (u + 3)) uz := by rw [kk13 (u + 3) (by omega) (by omega)]; exact mu3_12
        have m72_13 : MV φ nP (τ13 72) (x * (uz * uz)) := by rw [kk13 72 (by omega) (by omega)]; exact m72_12
        have m71_13 : MV φ nP (τ13 71) (y * ((uz * uz) * uz)) := by rw [kk13 71 (by omega) (by omega)]; exact m71_12
        have m74_13 : MV φ nP (τ13 74) ((ux * (z * z)) - (x * (uz * uz))) := by rw [kk13 74 (by omega) (by omega)]; exact m74_12
        have m73_13 : MV φ nP (τ13 73) ((uy * ((z * z) * z)) - (y * ((uz * uz) * uz))) := by rw [kk13 73 (by omega) (by omega)]; exact m73_12
        have mt3_13 : MV φ nP (τ13 (t + 3)) ((z * uz) * ((ux * (z * z)) - (x * (uz * uz)))) := by rw [kk13 (t + 3) (by omega) (by omega)]; exact mt3_12
        have R_13 : isR φ nP 99 τ13 := R_12.kp (fun j h1 h2 => kk13 j (by omega) (by omega))
        have m75_13 : MV φ nP (τ13 75) (((ux * (z * z)) - (x * (uz * uz))) * ((ux * (z * z)) - (x * (uz * uz)))) := q13
        refine lv_aload_n hx hb d_Mdl_plus_324 rfl (lv_at hl 0 rfl) ?_
        refine gm_get hx hb hW hown X u_Mdl m53 rfl 0 (by decide) wf_Mdl_13 (v := .ref (E.2.1 + 99)) rfl d_Mdl_plus_325 ?_
        refine lv_aload_n hx hb d_Mdl_plus_328 rfl (lv_at hl 0 rfl) ?_
        refine gm_get hx hb hW hown X u_Mdl m53 rfl 8 (by decide) wf_Mdl_32 (v := .ref (E.2.1 + 72)) rfl d_Mdl_plus_329 ?_
        refine lv_aload_n hx hb d_Mdl_plus_332 rfl (lv_at hl 0 rfl) ?_
        refine gm_get hx hb hW hown X u_Mdl m53 rfl 11 (by decide) wf_Mdl_44 (v := .ref (E.2.1 + 75)) rfl d_Mdl_plus_333 ?_
        refine lv_aload_n hx hb d_Mdl_plus_336 rfl (lv_at hl 0 rfl) ?_
        refine gm_get hx hb hW hown X u_Mdl m53 rfl 8 (by decide) wf_Mdl_32 (v := .ref (E.2.1 + 72)) rfl d_Mdl_plus_337 ?_
        refine gm_Vv hx hb hml hown hW X m99 (q_mul l hpP hf hR R_13 (by decide) (by decide) (by decide) (by omega) m72_13 m75_13) (n := 3) ⟨⟨wl_Mdl_25, wi_Rng_multiply, wsel_Rng_multiply, winit_Rng, wc_Rng_multiply⟩, by decide +kernel, ⟨Nat.le_of_ble_eq_true rfl, Nat.le_of_ble_eq_true rfl⟩, _, rfl, rfl⟩ rfl hl.1 rfl (Nat.le_of_ble_eq_true rfl) d_Mdl_plus_340 ⟨Nat.le_of_ble_eq_true rfl, Nat.le_of_ble_eq_true rfl⟩ (fun M1 H locs hp X => ?_)
        obtain ⟨τ14, rfl, q14, kk14⟩ := hp
        have mt1_14 : MV φ nP (τ14 (t + 1)) x := by rw [kk14 (t + 1) (by omega) (by omega)]; exact mt1_13
        have mt2_14 : MV φ nP (τ14 (t + 2)) y := by rw [kk14 (t + 2) (by omega) (by omega)]; exact mt2_13
        have mu1_14 : MV φ nP (τ14 (u + 1)) ux := by rw [kk14 (u + 1) (by omega) (by omega)]; exact mu1_13
        have mu2_14 : MV φ nP (τ14 (u + 2)) uy := by rw [kk14 (u + 2) (by omega) (by omega)]; exact mu2_13
        have mu3_14 : MV φ nP (τ14 (u + 3)) uz := by rw [kk14 (u + 3) (by omega) (by omega)]; exact mu3_13
        have m71_14 : MV φ nP (τ14 71) (y * ((uz * uz) * uz)) := by rw [kk14 71 (by omega) (by omega)]; exact m71_13
        have m74_14 : MV φ nP (τ14 74) ((ux * (z * z)) - (x * (uz * uz))) := by rw [kk14 74 (by omega) (by omega)]; exact m74_13
        have m73_14 : MV φ nP (τ14 73) ((uy * ((z * z) * z)) - (y * ((uz * uz) * uz))) := by rw [kk14 73 (by omega) (by omega)]; exact m73_13
        have mt3_14 : MV φ nP (τ14 (t + 3)) ((z * uz) * ((ux * (z * z)) - (x * (uz * uz)))) := by rw [kk14 (t + 3) (by omega) (by omega)]; exact mt3_13
        have m75_14 : MV φ nP (τ14 75) (((ux * (z * z)) - (x * (uz * uz))) * ((ux * (z * z)) - (x * (uz * uz)))) := by rw [kk14 75 (by omega) (by omega)]; exact m75_13
        have R_14 : isR φ nP 99 τ14 := R_13.kp (fun j h1 h2 => kk14 j (by omega) (by omega))
        have m72_14 : MV φ nP (τ14 72) ((x * (uz * uz)) * (((ux * (z * z)) - (x * (uz * uz))) * ((ux * (z * z)) - (x * (uz * uz))))) := q14
        refine lv_aload_n hx hb d_Mdl_plus_343 rfl (lv_at hl 0 rfl) ?_
        refine gm_get hx hb hW hown X u_Mdl m53 rfl 0 (by decide) wf_Mdl_13 (v := .ref (E.2.1 + 99)) rfl d_Mdl_plus_344 ?_
        refine lv_aload_n hx hb d_Mdl_plus_347 rfl (lv_at hl 0 rfl) ?_
        refine gm_get hx hb hW hown X u_Mdl m53 rfl 11 (by decide) wf_Mdl_44 (v := .ref (E.2.1 + 75)) rfl d_Mdl_plus_348 ?_
        refine lv_aload_n hx hb d_Mdl_plus_351 rfl (lv_at hl 0 rfl) ?_
        refine gm_get hx hb hW hown X u_Mdl m53 rfl 10 (by decide) wf_Mdl_41 (v := .ref (E.2.1 + 74)) rfl d_Mdl_plus_352 ?_
        refine lv_aload_n hx hb d_Mdl_plus_355 rfl (lv_at hl 0 rfl) ?_
        refine gm_get hx hb hW hown X u_Mdl m53 rfl 11 (by decide) wf_Mdl_44 (v := .ref (E.2.1 + 75)) rfl d_Mdl_plus_356 ?_
        refine gm_Vv hx hb hml hown hW X m99 (q_mul l hpP hf hR R_14 (by decide) (by decide) (by decide) (by omega) m75_14 m74_14) (n := 3) ⟨⟨wl_Mdl_25, wi_Rng_multiply, wsel_Rng_multiply, winit_Rng, wc_Rng_multiply⟩, by decide +kernel, ⟨Nat.le_of_ble_eq_true rfl, Nat.le_of_ble_eq_true rfl⟩, _, rfl, rfl⟩ rfl hl.1 rfl (Nat.le_of_ble_eq_true rfl) d_Mdl_plus_359 ⟨Nat.le_of_ble_eq_true rfl, Nat.le_of_ble_eq_true rfl⟩ (fun M1 H locs hp X => ?_)
        obtain ⟨τ15, rfl, q15, kk15⟩ := hp
        have mt1_15 : MV φ nP (τ15 (t + 1)) x := by rw [kk15 (t + 1) (by omega) (by omega)]; exact mt1_14
        have mt2_15 : MV φ nP (τ15 (t + 2)) y := by rw [kk15 (t + 2) (by omega) (by omega)]; exact mt2_14
        have mu1_15 : MV φ nP (τ15 (u + 1)) ux := by rw [kk15 (u + 1) (by omega) (by omega)]; exact mu1_14
        have mu2_15 : MV φ nP (τ15 (u + 2)) uy := by rw [kk15 (u + 2) (by omega) (by omega)]; exact mu2_14
        have mu3_15 : MV φ nP (τ15 (u + 3)) uz := by rw [kk15 (u + 3) (by omega) (by omega)]; exact mu3_14
        have m71_15 : MV φ nP (τ15 71) (y * ((uz * uz) * uz)) := by rw [kk15 71 (by omega) (by omega)]; exact m71_14
        have m74_15 : MV φ nP (τ15 74) ((ux * (z * z)) - (x * (uz * uz))) := by rw [kk15 74 (by omega) (by omega)]; exact m74_14
        have m73_15 : MV φ nP (τ15 73) ((uy * ((z * z) * z)) - (y * ((uz * uz) * uz))) := by rw [kk15 73 (by omega) (by omega)]; exact m73_14
        have mt3_15 : MV φ nP (τ15 (t + 3)) ((z * uz) * ((ux * (z * z)) - (x * (uz * uz)))) := by rw [kk15 (t + 3) (by omega) (by omega)]; exact mt3_14
        have m72_15 : MV φ nP (τ15 72) ((x * (uz * uz)) * (((ux * (z * z)) - (x * (uz * uz))) * ((ux * (z * z)) - (x * (uz * uz))))) := by rw [kk15 72 (by omega) (by omega)]; exact m72_14
        have R_15 : isR φ nP 99 τ15 := R_14.kp (fun j h1 h2 => kk15 j (by omega) (by omega))
        have m75_15 : MV φ nP (τ15 75) ((((ux * (z * z)) - (x * (uz * uz))) * ((ux * (z * z)) - (x * (uz * uz)))) * ((ux * (z * z)) - (x * (uz * uz)))) := q15
        refine lv_aload_n hx hb d_Mdl_plus_362 rfl (lv_at hl 0 rfl) ?_
        refine gm_get hx hb hW hown X u_Mdl m53 rfl 0 (by decide) wf_Mdl_13 (v := .ref (E.2.1 + 99)) rfl d_Mdl_plus_363 ?_
        refine lv_aload_n hx hb d_Mdl_plus_366 rfl (lv_at hl 0 rfl) ?_
        refine gm_get hx hb hW hown X u_Mdl m53 rfl 9 (by decide) wf_Mdl_38 (v := .ref (E.2.1 + 73)) rfl d_Mdl_plus_367 ?_
        refine lv_aload_n hx hb d_Mdl_plus_370 rfl (lv_at hl 0 rfl) ?_
        refine gm_get hx hb hW hown X u_Mdl m53 rfl 9 (by decide) wf_Mdl_38 (v := .ref (E.2.1 + 73)) rfl d_Mdl_plus_371 ?_
        refine lv_aload_n hx hb d_Mdl_plus_374 rfl (lv_at hl 1 rfl) ?_
        refine gm_getN hx hb hW hown X u_Rpt (oQ hP) rfl 0 (by decide) wfn_Mdl_29 (v := .ref (E.2.1 + (t + 1))) rfl d_Mdl_plus_375 ?_
        refine gm_Vv hx hb hml hown hW X m99 (q_mul l hpP hf hR R_15 (isQ.x hP) (by decide) (by decide) (by omega) m73_15 m73_15) (n := 3) ⟨⟨wl_Mdl_25, wi_Rng_multiply, wsel_Rng_multiply, winit_Rng, wc_Rng_multiply⟩, by decide +kernel, ⟨Nat.le_of_ble_eq_true rfl, Nat.le_of_ble_eq_true rfl⟩, _, rfl, rfl⟩ rfl hl.1 rfl (Nat.le_of_ble_eq_true rfl) d_Mdl_plus_378 ⟨Nat.le_of_ble_eq_true rfl, Nat.le_of_ble_eq_true rfl⟩ (fun M1 H locs hp X => ?_)
        obtain ⟨τ16, rfl, q16, kk16⟩ := hp
        have mt2_16 : MV φ nP (τ16 (t + 2)) y := by rw [kk16 (t + 2) (by omega) (by omega)]; exact mt2_15
        have mu1_16 : MV φ nP (τ16 (u + 1)) ux := by rw [kk16 (u + 1) (by omega) (by omega)]; exact mu1_15
        have mu2_16 : MV φ nP (τ16 (u + 2)) uy := by rw [kk16 (u + 2) (by omega) (by omega)]; exact mu2_15
        have mu3_16 : MV φ nP (τ16 (u + 3)) uz := by rw [kk16 (u + 3) (by omega) (by omega)]; exact mu3_15
        have m71_16 : MV φ nP (τ16 71) (y * ((uz * uz) * uz)) := by rw [kk16 71 (by omega) (by omega)]; exact m71_15
        have m74_16 : MV φ nP (τ16 74) ((ux * (z * z)) - (x * (uz * uz))) := by rw [kk16 74 (by omega) (by omega)]; exact m74_15
        have m73_16 : MV φ nP (τ16 73) ((uy * ((z * z) * z)) - (y * ((uz * uz) * uz))) := by rw [kk16 73 (by omega) (by omega)]; exact m73_15
        have mt3_16 : MV φ nP (τ16 (t + 3)) ((z * uz) * ((ux * (z * z)) - (x * (uz * uz)))) := by rw [kk16 (t + 3) (by omega) (by omega)]; exact mt3_15
        have m72_16 : MV φ nP (τ16 72) ((x * (uz * uz)) * (((ux * (z * z)) - (x * (uz * uz))) * ((ux * (z * z)) - (x * (uz * uz))))) := by rw [kk16 72 (by omega) (by omega)]; exact m72_15
        have m75_16 : MV φ nP (τ16 75) ((((ux * (z * z)) - (x * (uz * uz))) * ((ux * (z * z)) - (x * (uz * uz)))) * ((ux * (z * z)) - (x * (uz * uz)))) := by rw [kk16 75 (by omega) (by omega)]; exact m75_15
        have R_16 : isR φ nP 99 τ16 := R_15.kp (fun j h1 h2 => kk16 j (by omega) (by omega))
        have mt1_16 : MV φ nP (τ16 (t + 1)) (((uy * ((z * z) * z)) - (y * ((uz * uz) * uz))) * ((uy * ((z * z) * z)) - (y * ((uz * uz) * uz)))) := q16
        refine lv_aload_n hx hb d_Mdl_plus_381 rfl (lv_at hl 0 rfl) ?_
        refine gm_get hx hb hW hown X u_Mdl m53 rfl 0 (by decide) wf_Mdl_13 (v := .ref (E.2.1 + 99)) rfl d_Mdl_plus_382 ?_
        refine lv_aload_n hx hb d_Mdl_plus_385 rfl (lv_at hl 1 rfl) ?_
        refine gm_getN hx hb hW hown X u_Rpt (oQ hP) rfl 0 (by decide) wfn_Mdl_29 (v := .ref (E.2.1 + (t + 1))) rfl d_Mdl_plus_386 ?_
        refine lv_aload_n hx hb d_Mdl_plus_389 rfl (lv_at hl 0 rfl) ?_
        refine gm_get hx hb hW hown X u_Mdl m53 rfl 11 (by decide) wf_Mdl_44 (v := .ref (E.2.1 + 75)) rfl d_Mdl_plus_390 ?_
        refine lv_aload_n hx hb d_Mdl_plus_393 rfl (lv_at hl 1 rfl) ?_
        refine gm_getN hx hb hW hown X u_Rpt (oQ hP) rfl 0 (by decide) wfn_Mdl_29 (v := .ref (E.2.1 + (t + 1))) rfl d_Mdl_plus_394 ?_
        refine gm_Vv hx hb hml hown hW X m99 (q_subtract l hpP hf R_16 (isQ.x hP) (isQ.x hP) (by decide) (by omega) mt1_16 m75_16) (n := 3) ⟨⟨wl_Mdl_47, wi_Rng_subtract, wsel_Rng_subtract, winit_Rng, wc_Rng_subtract⟩, by decide +kernel, ⟨Nat.le_of_ble_eq_true rfl, Nat.le_of_ble_eq_true rfl⟩, _, rfl, rfl⟩ rfl hl.1 rfl (Nat.le_of_ble_eq_true rfl) d_Mdl_plus_397 ⟨Nat.le_of_ble_eq_true rfl, Nat.le_of_ble_eq_true rfl⟩ (fun M1 H locs hp X => ?_)
        obtain ⟨τ17, rfl, q17, kk17⟩ := hp
        have mt2_17 : MV φ nP (τ17 (t + 2)) y := by rw [kk17 (t + 2) (by omega) (by omega)]; exact mt2_16
        have mu1_17 : MV φ nP (τ17 (u + 1)) ux := by rw [kk17 (u + 1) (by omega) (by omega)]; exact mu1_16
        have mu2_17 : MV φ nP (τ17 (u + 2)) uy := by rw [kk17 (u + 2) (by omega) (by omega)]; exact mu2_16
        have mu3_17 : MV φ nP (τ17 (u + 3)) uz := by rw [kk17 (u + 3) (by omega) (by omega)]; exact mu3_16
        have m71_17 : MV φ nP (τ17 71) (y * ((uz * uz) * uz)) := by rw [kk17 71 (by omega) (by omega)]; exact m71_16
        have m74_17 : MV φ nP (τ17 74) ((ux * (z * z)) - (x * (uz * uz))) := by rw [kk17 74 (by omega) (by omega)]; exact m74_16
        have m73_17 : MV φ nP (τ17 73) ((uy * ((z * z) * z)) - (y * ((uz * uz) * uz))) := by rw [kk17 73 (by omega) (by omega)]; exact m73_16
        have mt3_17 : MV φ nP (τ17 (t + 3)) ((z * uz) * ((ux * (z * z)) - (x * (uz * uz)))) := by rw [kk17 (t + 3) (by omega) (by omega)]; exact mt3_16
        have m72_17 : MV φ nP (τ17 72) ((x * (uz * uz)) * (((ux * (z * z)) - (x * (uz * uz))) * ((ux * (z * z)) - (x * (uz * uz))))) := by rw [kk17 72 (by omega) (by omega)]; exact m72_16
        have m75_17 : MV φ nP (τ17 75) ((((ux * (z * z)) - (x * (uz * uz))) * ((ux * (z * z)) - (x * (uz * uz)))) * ((ux * (z * z)) - (x * (uz * uz)))) := by rw [kk17 75 (by omega) (by omega)]; exact m75_16
        have R_17 : isR φ nP 99 τ17 := R_16.kp (fun j h1 h2 => kk17 j (by omega) (by omega))
        have mt1_17 : MV φ nP (τ17 (t + 1)) ((((uy * ((z * z) * z)) - (y * ((uz * uz) * uz))) * ((uy * ((z * z) * z)) - (y * ((uz * uz) * uz)))) - ((((ux * (z * z)) - (x * (uz * uz))) * ((ux * (z * z)) - (x * (uz * uz)))) * ((ux * (z * z)) - (x * (uz * uz))))) := q17
        refine lv_aload_n hx hb d_Mdl_plus_400 rfl (lv_at hl 0 rfl) ?_
        refine gm_get hx hb hW hown X u_Mdl m53 rfl 0 (by decide) wf_Mdl_13 (v := .ref (E.2.1 + 99)) rfl d_Mdl_plus_401 ?_
        refine lv_aload_n hx hb d_Mdl_plus_404 rfl (lv_at hl 1 rfl) ?_
        refine gm_getN hx hb hW hown X u_Rpt (oQ hP) rfl 0 (by decide) wfn_Mdl_29 (v := .ref (E.2.1 + (t + 1))) rfl d_Mdl_plus_405 ?_
        refine lv_aload_n hx hb d_Mdl_plus_408 rfl (lv_at hl 0 rfl) ?_
        refine gm_get hx hb hW hown X u_Mdl m53 rfl 8 (by decide) wf_Mdl_32 (v := .ref (E.2.1 + 72)) rfl d_Mdl_plus_409 ?_
        refine lv_aload_n hx hb d_Mdl_plus_412 rfl (lv_at hl 1 rfl) ?_
        refine gm_getN hx hb hW hown X u_Rpt (oQ hP) rfl 0 (by decide) wfn_Mdl_29 (v := .ref (E.2.1 + (t + 1))) rfl d_Mdl_plus_413 ?_
        refine gm_Vv hx hb hml hown hW X m99 (q_subtract l hpP hf R_17 (isQ.x hP) (isQ.x hP) (by decide) (by omega) mt1_17 m72_17) (n := 3) ⟨⟨wl_Mdl_47, wi_Rng_subtract, wsel_Rng_subtract, winit_Rng, wc_Rng_subtract⟩, by decide +kernel, ⟨Nat.le_of_ble_eq_true rfl, Nat.le_of_ble_eq_true rfl⟩, _, rfl, rfl⟩ rfl hl.1 rfl (Nat.le_of_ble_eq_true rfl) d_Mdl_plus_416 ⟨Nat.le_of_ble_eq_true rfl, Nat.le_of_ble_eq_true rfl⟩ (fun M1 H locs hp X => ?_)
        obtain ⟨τ18, rfl, q18, kk18⟩ := hp
        have mt2_18 : MV φ nP (τ18 (t + 2)) y := by rw [kk18 (t + 2) (by omega) (by omega)]; exact mt2_17
        have mu1_18 : MV φ nP (τ18 (u + 1)) ux := by rw [kk18 (u + 1) (by omega) (by omega)]; exact mu1_17
        have mu2_18 : MV φ nP (τ18 (u + 2)) uy := by rw [kk18 (u + 2) (by omega) (by omega)]; exact mu2_17
        have mu3_18 : MV φ nP (τ18 (u + 3)) uz := by rw [kk18 (u + 3) (by omega) (by omega)]; exact mu3_17
        have m71_18 : MV φ nP (τ18 71) (y * ((uz * uz) * uz)) := by rw [kk18 71 (by omega) (by omega)]; exact m71_17
        have m74_18 : MV φ nP (τ18 74) ((ux * (z * z)) - (x * (uz * uz))) := by rw [kk18 74 (by omega) (by omega)]; exact m74_17
        have m73_18 : MV φ nP (τ18 73) ((uy * ((z * z) * z)) - (y * ((uz * uz) * uz))) := by rw [kk18 73 (by omega) (by omega)]; exact m73_17
        have mt3_18 : MV φ nP (τ18 (t + 3)) ((z * uz) * ((ux * (z * z)) - (x * (uz * uz)))) := by rw [kk18 (t + 3) (by omega) (by omega)]; exact mt3_17
        have m72_18 : MV φ nP (τ18 72) ((x * (uz * uz)) * (((ux * (z * z)) - (x * (uz * uz))) * ((ux * (z * z)) - (x * (uz * uz))))) := by rw [kk18 72 (by omega) (by omega)]; exact m72_17
        have m75_18 : MV φ nP (τ18 75) ((((ux * (z * z)) - (x * (uz * uz))) * ((ux * (z * z)) - (x * (uz * uz)))) * ((ux * (z * z)) - (x * (uz * uz)))) := by rw [kk18 75 (by omega) (by omega)]; exact m75_17
        have R_18 : isR φ nP 99 τ18 := R_17.kp (fun j h1 h2 => kk18 j (by omega) (by omega))
        have mt1_18 : MV φ nP (τ18 (t + 1)) (((((uy * ((z * z) * z)) - (y * ((uz * uz) * uz))) * ((uy * ((z * z) * z)) - (y * ((uz * uz) * uz)))) - ((((ux * (z * z)) - (x * (uz * uz))) * ((ux * (z * z)) - (x * (uz * uz)))) * ((ux * (z * z)) - (x * (uz * uz))))) - ((x * (uz * uz)) * (((ux * (z * z)) - (x * (uz * uz))) * ((ux * (z * z)) - (x * (uz * uz)))))) := q18
        refine lv_aload_n hx hb d_Mdl_plus_419 rfl (lv_at hl 0 rfl) ?_
        refine gm_get hx hb hW hown X u_Mdl m53 rfl 0 (by decide) wf_Mdl_13 (v := .ref (E.2.1 + 99)) rfl d_Mdl_plus_420 ?_
        refine lv_aload_n hx hb d_Mdl_plus_423 rfl (lv_at hl 1 rfl) ?_
        refine gm_getN hx hb hW hown X u_Rpt (oQ hP) rfl 0 (by decide) wfn_Mdl_29 (v := .ref (E.2.1 + (t + 1))) rfl d_Mdl_plus_424 ?_
        refine lv_aload_n hx hb d_Mdl_plus_427 rfl (lv_at hl 0 rfl) ?_
        refine gm_get hx hb hW hown X u_Mdl m53 rfl 8 (by decide) wf_Mdl_32 (v := .ref (E.2.1 + 72)) rfl d_Mdl_plus_428 ?_
        refine lv_aload_n hx hb d_Mdl_plus_431 rfl (lv_at hl 1 rfl) ?_
        refine gm_getN hx hb hW hown X u_Rpt (oQ hP) rfl 0 (by decide) wfn_Mdl_29 (v := .ref (E.2.1 + (t + 1))) rfl d_Mdl_plus_432 ?_
        refine gm_Vv hx hb hml hown hW X m99 (q_subtract l hpP hf R_18 (isQ.x hP) (isQ.x hP) (by decide) (by omega) mt1_18 m72_18) (n := 3) ⟨⟨wl_Mdl_47, wi_Rng_subtract, wsel_Rng_subtract, winit_Rng, wc_Rng_subtract⟩, by decide +kernel, ⟨Nat.le_of_ble_eq_true rfl, Nat.le_of_ble_eq_true rfl⟩, _, rfl, rfl⟩ rfl hl.1 rfl (Nat.le_of_ble_eq_true rfl) d_Mdl_plus_435 ⟨Nat.le_of_ble_eq_true rfl, Nat.le_of_ble_eq_true rfl⟩ (fun M1 H locs hp X => ?_)
        obtain ⟨τ19, rfl, q19, kk19⟩ := hp
        have mt2_19 : MV φ nP (τ19 (t + 2)) y := by rw [kk19 (t + 2) (by omega) (by omega)]; exact mt2_18
        have mu1_19 : MV φ nP (τ19 (u + 1)) ux := by rw [kk19 (u + 1) (by omega) (by omega)]; exact mu1_18
        have mu2_19 : MV φ nP (τ19 (u + 2)) uy := by rw [kk19 (u + 2) (by omega) (by omega)]; exact mu2_18
        have mu3_19 : MV φ nP (τ19 (u + 3)) uz := by rw [kk19 (u + 3) (by omega) (by omega)]; exact mu3_18
        have m71_19 : MV φ nP (τ19 71) (y * ((uz * uz) * uz)) := by rw [kk19 71 (by omega) (by omega)]; exact m71_18
        have m74_19 : MV φ nP (τ19 74) ((ux * (z * z)) - (x * (uz * uz))) := by rw [kk19 74 (by omega) (by omega)]; exact m74_18
        have m73_19 : MV φ nP (τ19 73) ((uy * ((z * z) * z)) - (y * ((uz * uz) * uz))) := by rw [kk19 73 (by omega) (by omega)]; exact m73_18
        have mt3_19 : MV φ nP (τ19 (t + 3)) ((z * uz) * ((ux * (z * z)) - (x * (uz * uz)))) := by rw [kk19 (t + 3) (by omega) (by omega)]; exact mt3_18
        have m72_19 : MV φ nP (τ19 72) ((x * (uz * uz)) * (((ux * (z * z)) - (x * (uz * uz))) * ((ux * (z * z)) - (x * (uz * uz))))) := by rw [kk19 72 (by omega) (by omega)]; exact m72_18
        have m75_19 : MV φ nP (τ19 75) ((((ux * (z * z)) - (x * (uz * uz))) * ((ux * (z * z)) - (x * (uz * uz)))) * ((ux * (z * z)) - (x * (uz * uz)))) := by rw [kk19 75 (by omega) (by omega)]; exact m75_18
        have R_19 : isR φ nP 99 τ19 := R_18.kp (fun j h1 h2 => kk19 j (by omega) (by omega))
        have mt1_19 : MV φ nP (τ19 (t + 1)) ((((((uy * ((z * z) * z)) - (y * ((uz * uz) * uz))) * ((uy * ((z * z) * z)) - (y * ((uz * uz) * uz)))) - ((((ux * (z * z)) - (x * (uz * uz))) * ((ux * (z * z)) - (x * (uz * uz)))) * ((ux * (z * z)) - (x * (uz * uz))))) - ((x * (uz * uz)) * (((ux * (z * z)) - (x * (uz * uz))) * ((ux * (z * z)) - (x * (uz * uz)))))) - ((x * (uz * uz)) * (((ux * (z * z)) - (x * (uz * uz))) * ((ux * (z * z)) - (x * (uz * uz)))))) := q19
        refine lv_aload_n hx hb d_Mdl_plus_438 rfl (lv_at hl 0 rfl) ?_
        refine gm_get hx hb hW hown X u_Mdl m53 rfl 0 (by decide) wf_Mdl_13 (v := .ref (E.2.1 + 99)) rfl d_Mdl_plus_439 ?_
        refine lv_aload_n hx hb d_Mdl_plus_442 rfl (lv_at hl 0 rfl) ?_
        refine gm_get hx hb hW hown X u_Mdl m53 rfl 8 (by decide) wf_Mdl_32 (v := .ref (E.2.1 + 72)) rfl d_Mdl_plus_443 ?_
        refine lv_aload_n hx hb d_Mdl_plus_446 rfl (lv_at hl 1 rfl) ?_
        refine gm_getN hx hb hW hown X u_Rpt (oQ hP) rfl 0 (by decide) wfn_Mdl_29 (v := .ref (E.2.1 + (t + 1))) rfl d_Mdl_plus_447 ?_
        refine lv_aload_n hx hb d_Mdl_plus_450 rfl (lv_at hl 0 rfl) ?_
        refine gm_get hx hb hW hown X u_Mdl m53 rfl 8 (by decide) wf_Mdl_32 (v := .ref (E.2.1 + 72)) rfl d_Mdl_plus_451 ?_
        refine gm_Vv hx hb hml hown hW X m99 (q_subtract l hpP hf R_19 (by decide) (by decide) (isQ.x hP) (by omega) m72_19 mt1_19) (n := 3) ⟨⟨wl_Mdl_47, wi_Rng_subtract, wsel_Rng_subtract, winit_Rng, wc_Rng_subtract⟩, by decide +kernel, ⟨Nat.le_of_ble_eq_true rfl, Nat.le_of_ble_eq_true rfl⟩, _, rfl, rfl⟩ rfl hl.1 rfl (Nat.le_of_ble_eq_true rfl) d_Mdl_plus_454 ⟨Nat.le_of_ble_eq_true rfl, Nat.le_of_ble_eq_true rfl⟩ (fun M1 H locs hp X => ?_)
        obtain ⟨τ20, rfl, q20, kk20⟩ := hp
        have mt2_20 : MV φ nP (τ20 (t + 2)) y := by rw [kk20 (t + 2) (by omega) (by omega)]; exact mt2_19
        have mu1_20 : MV φ nP (τ20 (u + 1)) ux := by rw [kk20 (u + 1) (by omega) (by omega)]; exact mu1_19
        have mu2_20 : MV φ nP (τ20 (u + 2)) uy := by rw [kk20 (u + 2) (by omega) (by omega)]; exact mu2_19
        have mu3_20 : MV φ nP (τ20 (u + 3)) uz := by rw [kk20 (u + 3) (by omega) (by omega)]; exact mu3_19
        have m71_20 : MV φ nP (τ20 71) (y * ((uz * uz) * uz)) := by rw [kk20 71 (by omega) (by omega)]; exact m71_19
        have m74_20 : MV φ nP (τ20 74) ((ux * (z * z)) - (x * (uz * uz))) := by rw [kk20 74 (by omega) (by omega)]; exact m74_19
        have m73_20 : MV φ nP (τ20 73) ((uy * ((z * z) * z)) - (y * ((uz * uz) * uz))) := by rw [kk20 73 (by omega) (by omega)]; exact m73_19
        have mt3_20 : MV φ nP (τ20 (t + 3)) ((z * uz) * ((ux * (z * z)) - (x * (uz * uz)))) := by rw [kk20 (t + 3) (by omega) (by omega)]; exact mt3_19
        have m75_20 : MV φ nP (τ20 75) ((((ux * (z * z)) - (x * (uz * uz))) * ((ux * (z * z)) - (x * (uz * uz)))) * ((ux * (z * z)) - (x * (uz * uz)))) := by rw [kk20 75 (by omega) (by omega)]; exact m75_19
        have mt1_20 : MV φ nP (τ20 (t + 1)) ((((((uy * ((z * z) * z)) - (y * ((uz * uz) * uz))) * ((uy * ((z * z) * z)) - (y * ((uz * uz) * uz)))) - ((((ux * (z * z)) - (x * (uz * uz))) * ((ux * (z * z)) - (x * (uz * uz)))) * ((ux * (z * z)) - (x * (uz * uz))))) - ((x * (uz * uz)) * (((ux * (z * z)) - (x * (uz * uz))) * ((ux * (z * z)) - (x * (uz * uz)))))) - ((x * (uz * uz)) * (((ux * (z * z)) - (x * (uz * uz))) * ((ux * (z * z)) - (x * (uz * uz)))))) := by rw [kk20 (t + 1) (by omega) (by omega)]; exact mt1_19
        have R_20 : isR φ nP 99 τ20 := R_19.kp (fun j h1 h2 => kk20 j (by omega) (by omega))
        have m72_20 : MV φ nP (τ20 72) (((x * (uz * uz)) * (((ux * (z * z)) - (x * (uz * uz))) * ((ux * (z * z)) - (x * (uz * uz))))) - ((((((uy * ((z * z) * z)) - (y * ((uz * uz) * uz))) * ((uy * ((z * z) * z)) - (y * ((uz * uz) * uz)))) - ((((ux * (z * z)) - (x * (uz * uz))) * ((ux * (z * z)) - (x * (uz * uz)))) * ((ux * (z * z)) - (x * (uz * uz))))) - ((x * (uz * uz)) * (((ux * (z * z)) - (x * (uz * uz))) * ((ux * (z * z)) - (x * (uz * uz)))))) - ((x * (uz * uz)) * (((ux * (z * z)) - (x * (uz * uz))) * ((ux * (z * z)) - (x * (uz * uz))))))) := q20
        refine lv_aload_n hx hb d_Mdl_plus_457 rfl (lv_at hl 0 rfl) ?_
        refine gm_get hx hb hW hown X u_Mdl m53 rfl 0 (by decide) wf_Mdl_13 (v := .ref (E.2.1 + 99)) rfl d_Mdl_plus_458 ?_
        refine lv_aload_n hx hb d_Mdl_plus_461 rfl (lv_at hl 0 rfl) ?_
        refine gm_get hx hb hW hown X u_Mdl m53 rfl 9 (by decide) wf_Mdl_38 (v := .ref (E.2.1 + 73)) rfl d_Mdl_plus_462 ?_
        refine lv_aload_n hx hb d_Mdl_plus_465 rfl (lv_at hl 0 rfl) ?_
        refine gm_get hx hb hW hown X u_Mdl m53 rfl 8 (by decide) wf_Mdl_32 (v := .ref (E.2.1 + 72)) rfl d_Mdl_plus_466 ?_
        refine lv_aload_n hx hb d_Mdl_plus_469 rfl (lv_at hl 1 rfl) ?_
        refine gm_getN hx hb hW hown X u_Rpt (oQ hP) rfl 1 (by decide) wfn_Mdl_19 (v := .ref (E.2.1 + (t + 2))) rfl d_Mdl_plus_470 ?_
        refine gm_Vv hx hb hml hown hW X m99 (q_mul l hpP hf hR R_20 (isQ.y hP) (by decide) (by decide) (by omega) m73_20 m72_20) (n := 3) ⟨⟨wl_Mdl_25, wi_Rng_multiply, wsel_Rng_multiply, winit_Rng, wc_Rng_multiply⟩, by decide +kernel, ⟨Nat.le_of_ble_eq_true rfl, Nat.le_of_ble_eq_true rfl⟩, _, rfl, rfl⟩ rfl hl.1 rfl (Nat.le_of_ble_eq_true rfl) d_Mdl_plus_473 ⟨Nat.le_of_ble_eq_true rfl, Nat.le_of_ble_eq_true rfl⟩ (fun M1 H locs hp X => ?_)
        obtain ⟨τ21, rfl, q21, kk21⟩ := hp
        have mu1_21 : MV φ nP (τ21 (u + 1)) ux := by rw [kk21 (u + 1) (by omega) (by omega)]; exact mu1_20
        have mu2_21 : MV φ nP (τ21 (u + 2)) uy := by rw [kk21 (u + 2) (by omega) (by omega)]; exact mu2_20
        have mu3_21 : MV φ nP (τ21 (u + 3)) uz := by rw [kk21 (u + 3) (by omega) (by omega)]; exact mu3_20
        have m71_21 : MV φ nP (τ21 71) (y * ((uz * uz) * uz)) := by rw [kk21 71 (by omega) (by omega)]; exact m71_20
        have m74_21 : MV φ nP (τ21 74) ((ux * (z * z)) - (x * (uz * uz))) := by rw [kk21 74 (by omega) (by omega)]; exact m74_20
        have m73_21 : MV φ nP (τ21 73) ((uy * ((z * z) * z)) - (y * ((uz * uz) * uz))) := by rw [kk21 73 (by omega) (by omega)]; exact m73_20
        have mt3_21 : MV φ nP (τ21 (t + 3)) ((z * uz) * ((ux * (z * z)) - (x * (uz * uz)))) := by rw [kk21 (t + 3) (by omega) (by omega)]; exact mt3_20
        have m75_21 : MV φ nP (τ21 75) ((((ux * (z * z)) - (x * (uz * uz))) * ((ux * (z * z)) - (x * (uz * uz)))) * ((ux * (z * z)) - (x * (uz * uz)))) := by rw [kk21 75 (by omega) (by omega)]; exact m75_20
        have mt1_21 : MV φ nP (τ21 (t + 1)) ((((((uy * ((z * z) * z)) - (y * ((uz * uz) * uz))) * ((uy * ((z * z) * z)) - (y * ((uz * uz) * uz)))) - ((((ux * (z * z)) - (x * (uz * uz))) * ((ux * (z * z)) - (x * (uz * uz)))) * ((ux * (z * z)) - (x * (uz * uz))))) - ((x * (uz * uz)) * (((ux * (z * z)) - (x * (uz * uz))) * ((ux * (z * z)) - (x * (uz * uz)))))) - ((x * (uz * uz)) * (((ux * (z * z)) - (x * (uz * uz))) * ((ux * (z * z)) - (x * (uz * uz)))))) := by rw [kk21 (t + 1) (by omega) (by omega)]; exact mt1_20
        have m72_21 : MV φ nP (τ21 72) (((x * (uz * uz)) * (((ux * (z * z)) - (x * (uz * uz))) * ((ux * (z * z)) - (x * (uz * uz))))) - ((((((uy * ((z * z) * z)) - (y * ((uz * uz) * uz))) * ((uy * ((z * z) * z)) - (y * ((uz * uz) * uz)))) - ((((ux * (z * z)) - (x * (uz * uz))) * ((ux * (z * z)) - (x * (uz * uz)))) * ((ux * (z * z)) - (x * (uz * uz))))) - ((x * (uz * uz)) * (((ux * (z * z)) - (x * (uz * uz))) * ((ux * (z * z)) - (x * (uz * uz)))))) - ((x * (uz * uz)) * (((ux * (z * z)) - (x * (uz * uz))) * ((ux * (z * z)) - (x * (uz * uz))))))) := by rw [kk21 72 (by omega) (by omega)]; exact m72_20
        have R_21 : isR φ nP 99 τ21 := R_20.kp (fun j h1 h2 => kk21 j (by omega) (by omega))
        have mt2_21 : MV φ nP (τ21 (t + 2)) (((uy * ((z * z) * z)) - (y * ((uz * uz) * uz))) * (((x * (uz * uz)) * (((ux * (z * z)) - (x * (uz * uz))) * ((ux * (z * z)) - (x * (uz * uz))))) - ((((((uy * ((z * z) * z)) - (y * ((uz * uz) * uz))) * ((uy * ((z * z) * z)) - (y * ((uz * uz) * uz)))) - ((((ux * (z * z)) - (x * (uz * uz))) * ((ux * (z * z)) - (x * (uz * uz)))) * ((ux * (z * z)) - (x * (uz * uz))))) - ((x * (uz * uz)) * (((ux * (z * z)) - (x * (uz * uz))) * ((ux * (z * z)) - (x * (uz * uz)))))) - ((x * (uz * uz)) * (((ux * (z * z)) - (x * (uz * uz))) * ((ux * (z * z)) - (x * (uz * uz)))))))) := q21
        refine lv_aload_n hx hb d_Mdl_plus_476 rfl (lv_at hl 0 rfl) ?_
        refine gm_get hx hb hW hown X u_Mdl m53 rfl 0 (by decide) wf_Mdl_13 (v := .ref (E.2.1 + 99)) rfl d_Mdl_plus_477 ?_
        refine lv_aload_n hx hb d_Mdl_plus_480 rfl (lv_at hl 0 rfl) ?_
        refine gm_get hx hb hW hown X u_Mdl m53 rfl 7 (by decide) wf_Mdl_22 (v := .ref (E.2.1 + 71)) rfl d_Mdl_plus_481 ?_
        refine lv_aload_n hx hb d_Mdl_plus_484 rfl (lv_at hl 0 rfl) ?_
        refine gm_get hx hb hW hown X u_Mdl m53 rfl 11 (by decide) wf_Mdl_44 (v := .ref (E.2.1 + 75)) rfl d_Mdl_plus_485 ?_
        refine lv_aload_n hx hb d_Mdl_plus_488 rfl (lv_at hl 0 rfl) ?_
        refine gm_get hx hb hW hown X u_Mdl m53 rfl 7 (by decide) wf_Mdl_22 (v := .ref (E.2.1 + 71)) rfl d_Mdl_plus_489 ?_
        refine gm_Vv hx hb hml hown hW X m99 (q_mul l hpP hf hR R_21 (by decide) (by decide) (by decide) (by omega) m71_21 m75_21) (n := 3) ⟨⟨wl_Mdl_25, wi_Rng_multiply, wsel_Rng_multiply, winit_Rng, wc_Rng_multiply⟩, by decide +kernel, ⟨Nat.le_of_ble_eq_true rfl, Nat.le_of_ble_eq_true rfl⟩, _, rfl, rfl⟩ rfl hl.1 rfl (Nat.le_of_ble_eq_true rfl) d_Mdl_plus_492 ⟨Nat.le_of_ble_eq_true rfl, Nat.le_of_ble_eq_true rfl⟩ (fun M1 H locs hp X => ?_)
        obtain ⟨τ22, rfl, q22, kk22⟩ := hp
        have mu1_22 : MV φ nP (τ22 (u + 1)) ux := by rw [kk22 (u + 1) (by omega) (by omega)]; exact mu1_21
        have mu2_22 : MV φ nP (τ22 (u + 2)) uy := by rw [kk22 (u + 2) (by omega) (by omega)]; exact mu2_21
        have mu3_22 : MV φ nP (τ22 (u + 3)) uz := by rw [kk22 (u + 3) (by omega) (by omega)]; exact mu3_21
        have m74_22 : MV φ nP (τ22 74) ((ux * (z * z)) - (x * (uz * uz))) := by rw [kk22 74 (by omega) (by omega)]; exact m74_21
        have m73_22 : MV φ nP (τ22 73) ((uy * ((z * z) * z)) - (y * ((uz * uz) * uz))) := by rw [kk22 73 (by omega) (by omega)]; exact m73_21
        have mt3_22 : MV φ nP (τ22 (t + 3)) ((z * uz) * ((ux * (z * z)) - (x * (uz * uz)))) := by rw [kk22 (t + 3) (by omega) (by omega)]; exact mt3_21
        have m75_22 : MV φ nP (τ22 75) ((((ux * (z * z)) - (x * (uz * uz))) * ((ux * (z * z)) - (x * (uz * uz)))) * ((ux * (z * z)) - (x * (uz * uz)))) := by rw [kk22 75 (by omega) (by omega)]; exact m75_21
        have mt1_22 : MV φ nP (τ22 (t + 1)) ((((((uy * ((z * z) * z)) - (y * ((uz * uz) * uz))) * ((uy * ((z * z) * z)) - (y * ((uz * uz) * uz)))) - ((((ux * (z * z)) - (x * (uz * uz))) * ((ux * (z * z)) - (x * (uz * uz)))) * ((ux * (z * z)) - (x * (uz * uz))))) - ((x * (uz * uz)) * (((ux * (z * z)) - (x * (uz * uz))) * ((ux * (z * z)) - (x * (uz * uz)))))) - ((x * (uz * uz)) * (((ux * (z * z)) - (x * (uz * uz))) * ((ux * (z * z)) - (x * (uz * uz)))))) := by rw [kk22 (t + 1) (by omega) (by omega)]; exact mt1_21
        have m72_22 : MV φ nP (τ22 72) (((x * (uz * uz)) * (((ux * (z * z)) - (x * (uz * uz))) * ((ux * (z * z)) - (x * (uz * uz))))) - ((((((uy * ((z * z) * z)) - (y * ((uz * uz) * uz))) * ((uy * ((z * z) * z)) - (y * ((uz * uz) * uz)))) - ((((ux * (z * z)) - (x * (uz * uz))) * ((ux * (z * z)) - (x * (uz * uz)))) * ((ux * (z * z)) - (x * (uz * uz))))) - ((x * (uz * uz)) * (((ux * (z * z)) - (x * (uz * uz))) * ((ux * (z * z)) - (x * (uz * uz)))))) - ((x * (uz * uz)) * (((ux * (z * z)) - (x * (uz * uz))) * ((ux * (z * z)) - (x * (uz * uz))))))) := by rw [kk22 72 (by omega) (by omega)]; exact m72_21
        have mt2_22 : MV φ nP (τ22 (t + 2)) (((uy * ((z * z) * z)) - (y * ((uz * uz) * uz))) * (((x * (uz * uz)) * (((ux * (z * z)) - (x * (uz * uz))) * ((ux * (z * z)) - (x * (uz * uz))))) - ((((((uy * ((z * z) * z)) - (y * ((uz * uz) * uz))) * ((uy * ((z * z) * z)) - (y * ((uz * uz) * uz)))) - ((((ux * (z * z)) - (x * (uz * uz))) * ((ux * (z * z)) - (x * (uz * uz)))) * ((ux * (z * z)) - (x * (uz * uz))))) - ((x * (uz * uz)) * (((ux * (z * z)) - (x * (uz * uz))) * ((ux * (z * z)) - (x * (uz * uz)))))) - ((x * (uz * uz)) * (((ux * (z * z)) - (x * (uz * uz))) * ((ux * (z * z)) - (x * (uz * uz)))))))) := by rw [kk22 (t + 2) (by omega) (by omega)]; exact mt2_21
        have R_22 : isR φ nP 99 τ22 := R_21.kp (fun j h1 h2 => kk22 j (by omega) (by omega))
        have m71_22 : MV φ nP (τ22 71) ((y * ((uz * uz) * uz)) * ((((ux * (z * z)) - (x * (uz * uz))) * ((ux * (z * z)) - (x * (uz * uz)))) * ((ux * (z * z)) - (x * (uz * uz))))) := q22
        refine lv_aload_n hx hb d_Mdl_plus_495 rfl (lv_at hl 0 rfl) ?_
        refine gm_get hx hb hW hown X u_Mdl m53 rfl 0 (by decide) wf_Mdl_13 (v := .ref (E.2.1 + 99)) rfl d_Mdl_plus_496 ?_
        refine lv_aload_n hx hb d_Mdl_plus_499 rfl (lv_at hl 1 rfl) ?_
        refine gm_getN hx hb hW hown X u_Rpt (oQ hP) rfl 1 (by decide) wfn_Mdl_19 (v := .ref (E.2.1 + (t + 2))) rfl d_Mdl_plus_500 ?_
        refine lv_aload_n hx hb d_Mdl_plus_503 rfl (lv_at hl 0 rfl) ?_
        refine gm_get hx hb hW hown X u_Mdl m53 rfl 7 (by decide) wf_Mdl_22 (v := .ref (E.2.1 + 71)) rfl d_Mdl_plus_504 ?_
        refine lv_aload_n hx hb d_Mdl_plus_507 rfl (lv_at hl 1 rfl) ?_
        refine gm_getN hx hb hW hown X u_Rpt (oQ hP) rfl 1 (by decide) wfn_Mdl_19 (v := .ref (E.2.1 + (t + 2))) rfl d_Mdl_plus_508 ?_
        refine gm_Vv hx hb hml hown hW X m99 (q_subtract l hpP hf R_22 (isQ.y hP) (isQ.y hP) (by decide) (by omega) mt2_22 m71_22) (n := 3) ⟨⟨wl_Mdl_47, wi_Rng_subtract, wsel_Rng_subtract, winit_Rng, wc_Rng_subtract⟩, by decide +kernel, ⟨Nat.le_of_ble_eq_true rfl, Nat.le_of_ble_eq_true rfl⟩, _, rfl, rfl⟩ rfl hl.1 rfl (Nat.le_of_ble_eq_true rfl) d_Mdl_plus_511 ⟨Nat.le_of_ble_eq_true rfl, Nat.le_of_ble_eq_true rfl⟩ (fun M1 H locs hp X => ?_)
        obtain ⟨τ23, rfl, q23, kk23⟩ := hp
        have mu1_23 : MV φ nP (τ23 (u + 1)) ux := by rw [kk23 (u + 1) (by omega) (by omega)]; exact mu1_22
        have mu2_23 : MV φ nP (τ23 (u + 2)) uy := by rw [kk23 (u + 2) (by omega) (by omega)]; exact mu2_22
        have mu3_23 : MV φ nP (τ23 (u + 3)) uz := by rw [kk23 (u + 3) (by omega) (by omega)]; exact mu3_22
        have m74_23 : MV φ nP (τ23 74) ((ux * (z * z)) - (x * (uz * uz))) := by rw [kk23 74 (by omega) (by omega)]; exact m74_22
        have m73_23 : MV φ nP (τ23 73) ((uy * ((z * z) * z)) - (y * ((uz * uz) * uz))) := by rw [kk23 73 (by omega) (by omega)]; exact m73_22
        have mt3_23 : MV φ nP (τ23 (t + 3)) ((z * uz) * ((ux * (z * z)) - (x * (uz * uz)))) := by rw [kk23 (t + 3) (by omega) (by omega)]; exact mt3_22
        have m75_23 : MV φ nP (τ23 75) ((((ux * (z * z)) - (x * (uz * uz))) * ((ux * (z * z)) - (x * (uz * uz)))) * ((ux * (z * z)) - (x * (uz * uz)))) := by rw [kk23 75 (by omega) (by omega)]; exact m75_22
        have mt1_23 : MV φ nP (τ23 (t + 1)) ((((((uy * ((z * z) * z)) - (y * ((uz * uz) * uz))) * ((uy * ((z * z) * z)) - (y * ((uz * uz) * uz)))) - ((((ux * (z * z)) - (x * (uz * uz))) * ((ux * (z * z)) - (x * (uz * uz)))) * ((ux * (z * z)) - (x * (uz * uz))))) - ((x * (uz * uz)) * (((ux * (z * z)) - (x * (uz * uz))) * ((ux * (z * z)) - (x * (uz * uz)))))) - ((x * (uz * uz)) * (((ux * (z * z)) - (x * (uz * uz))) * ((ux * (z * z)) - (x * (uz * uz)))))) := by rw [kk23 (t + 1) (by omega) (by omega)]; exact mt1_22
        have m72_23 : MV φ nP (τ23 72) (((x * (uz * uz)) * (((ux * (z * z)) - (x * (uz * uz))) * ((ux * (z * z)) - (x * (uz * uz))))) - ((((((uy * ((z * z) * z)) - (y * ((uz * uz) * uz))) * ((uy * ((z * z) * z)) - (y * ((uz * uz) * uz)))) - ((((ux * (z * z)) - (x * (uz * uz))) * ((ux * (z * z)) - (x * (uz * uz)))) * ((ux * (z * z)) - (x * (uz * uz))))) - ((x * (uz * uz)) * (((ux * (z * z)) - (x * (uz * uz))) * ((ux * (z * z)) - (x * (uz * uz)))))) - ((x * (uz * uz)) * (((ux * (z * z)) - (x * (uz * uz))) * ((ux * (z * z)) - (x * (uz * uz))))))) := by rw [kk23 72 (by omega) (by omega)]; exact m72_22
        have m71_23 : MV φ nP (τ23 71) ((y * ((uz * uz) * uz)) * ((((ux * (z * z)) - (x * (uz * uz))) * ((ux * (z * z)) - (x * (uz * uz)))) * ((ux * (z * z)) - (x * (uz * uz))))) := by rw [kk23 71 (by omega) (by omega)]; exact m71_22
        have R_23 : isR φ nP 99 τ23 := R_22.kp (fun j h1 h2 => kk23 j (by omega) (by omega))
        have mt2_23 : MV φ nP (τ23 (t + 2)) ((((uy * ((z * z) * z)) - (y * ((uz * uz) * uz))) * (((x * (uz * uz)) * (((ux * (z * z)) - (x * (uz * uz))) * ((ux * (z * z)) - (x * (uz * uz))))) - ((((((uy * ((z * z) * z)) - (y * ((uz * uz) * uz))) * ((uy * ((z * z) * z)) - (y * ((uz * uz) * uz)))) - ((((ux * (z * z)) - (x * (uz * uz))) * ((ux * (z * z)) - (x * (uz * uz)))) * ((ux * (z * z)) - (x * (uz * uz))))) - ((x * (uz * uz)) * (((ux * (z * z)) - (x * (uz * uz))) * ((ux * (z * z)) - (x * (uz * uz)))))) - ((x * (uz * uz)) * (((ux * (z * z)) - (x * (uz * uz))) * ((ux * (z * z)) - (x * (uz * uz)))))))) - ((y * ((uz * uz) * uz)) * ((((ux * (z * z)) - (x * (uz * uz))) * ((ux * (z * z)) - (x * (uz * uz)))) * ((ux * (z * z)) - (x * (uz * uz)))))) := q23
        refine gm_vret hx hb hr2 hlk X ⟨_, rfl, ?_, fun j a1 a2 a3 => by rw [kk23 j (by omega) (by omega), kk22 j (by omega) (by omega), kk21 j (by omega) (by omega), kk20 j (by omega) (by omega), kk19 j (by omega) (by omega), kk18 j (by omega) (by omega), kk17 j (by omega) (by omega), kk16 j (by omega) (by omega), kk15 j (by omega) (by omega), kk14 j (by omega) (by omega), kk13 j (by omega) (by omega), kk12 j (by omega) (by omega), kk11 j (by omega) (by omega), kk10 j (by omega) (by omega), kk9 j (by omega) (by omega), kk8 j (by omega) (by omega), kk7 j (by omega) (by omega), kk6 j (by omega) (by omega), kk5 j (by omega) (by omega), kk4 j (by omega) (by omega), kk3 j (by omega) (by omega), kk2 j (by omega) (by omega), kk1 j (by omega) (by omega)]⟩ d_Mdl_plus_514
        rw [ec_add_ne inv hu]
        refine mpR.jr (ec_add_OK hk.1 (p := some a) (q := some b) (fun _ e => Option.some.inj e ▸ ho) (fun _ e => Option.some.inj e ▸ hqo) _ (ec_add_ne inv hu)) mt1_23 mt2_23 mt3_23 (jr_ad hk.1 hj hjq hu (B := x * (uz * uz)) (A := y * (uz * uz * uz)) rfl rfl rfl rfl) ?_ ?_ ?_
        all_goals (first | (clear hJ eU eV; grind) | skip)
      · have hu : a.1 = b.1 := by
          rcases hd with q | q
          · exact hJ.1.mp (eU ▸ q.2)
          · exact absurd q.1 c224
        have kd0 : kD t τ τ10 := fun j a1 a2 a3 => by rw [kk10 j (by omega) (by omega), kk9 j (by omega) (by omega), kk8 j (by omega) (by omega), kk7 j (by omega) (by omega), kk6 j (by omega) (by omega), kk5 j (by omega) (by omega), kk4 j (by omega) (by omega), kk3 j (by omega) (by omega), kk2 j (by omega) (by omega), kk1 j (by omega) (by omega)]
        refine lv_aload_n hx hb d_Mdl_plus_227 rfl (lv_at hl 0 rfl) ?_
        refine gm_get hx hb hW hown X u_Mdl m53 rfl 9 (by decide) wf_Mdl_38 (v := .ref (E.2.1 + 73)) rfl d_Mdl_plus_228 ?_
        refine gm_Si hx hb hml hown hW X (q_isZero l hf hR (by decide) m73_10) (n := 1) ⟨⟨wl_Mdl_7, ws_Rng_isZero, winit_Rng, wc_Rng_isZero⟩, by decide +kernel, Nat.le_of_ble_eq_true rfl, Nat.le_of_ble_eq_true rfl⟩ rfl hl.1 rfl (Nat.le_of_ble_eq_true rfl) d_Mdl_plus_231 ⟨Nat.le_of_ble_eq_true rfl, Nat.le_of_ble_eq_true rfl⟩ (fun r4 M1 H locs hp X => ?_)
        rw [hp.1] at X
        have hc := hp.2
        refine lv_if_eq (tgt := 245) hx hb d_Mdl_plus_234 (by decide) (fun c234 => ?_) (fun c234 => ?_)
        · have hv : ¬ a.2 = b.2 := by
            rcases hc with q | q
            · exact absurd (q.1.symm.trans c234) (by decide)
            · exact fun e => q.2 (eV ▸ hJ.2.mpr e)
          refine lv_iconst (v := 0) hx hb d_Mdl_plus_245 (by decide) ?_
          refine lv_istore_n (lv' := [(3, .int 0), (0, .ref (E.2.1 + 53)), (1, .ref (E.2.1 + t)), (2, .ref (E.2.1 + u))]) hx hb d_Mdl_plus_246 rfl hl (by decide) rfl (fun ls hl => ?_)
          refine lp_Mdl_z (t := t) (u := u) (xu := 0) hx hb hown hW hP (fun H locs ls τ' X hz0 kz hl => ?_) 8 0 rfl H locs ls τ10 X (fun i hi => absurd hi (by omega)) (fun j hj => rfl) hl
          refine gm_vret hx hb hr2 hlk X ⟨_, rfl, ?_, fun j a1 a2 a3 => (kz j (by omega)).trans (kd0 j a1 a2 a3)⟩ d_Mdl_plus_266
          rw [ec_add_ng inv hu hv]
          exact MV.of0 hf.1 (by decide +kernel) hz0
        · have hv : a = b := by
            rcases hc with q | q
            · exact Prod.ext hu (hJ.2.mp (eV ▸ q.2))
            · exact absurd q.1 c234
          have hs2 : mpR φ τ10 t (some a) := ⟨ho, x, y, z, mt1_10, mt2_10, mt3_10, hj⟩
          refine lv_aload_n hx hb d_Mdl_plus_237 rfl (lv_at hl 0 rfl) ?_
          refine lv_aload_n hx hb d_Mdl_plus_238 rfl (lv_at hl 1 rfl) ?_
          refine gm_Vv hx hb hml hown hW X m53 (q_Mdl_doubled l E N τ10 cd hk hR R_10 hT hs2) (n := 1) ⟨⟨wl_Mdl_54, wi_Mdl_doubled, wsel_Mdl_doubled, winit_Mdl, wc_Mdl_doubled⟩, by decide +kernel, ⟨Nat.le_of_ble_eq_true rfl, Nat.le_of_ble_eq_true rfl⟩, _, rfl, rfl⟩ rfl hl.1 rfl (Nat.le_of_ble_eq_true rfl) d_Mdl_plus_239 ⟨Nat.le_of_ble_eq_true rfl, Nat.le_of_ble_eq_true rfl⟩ (fun M1 H locs hp X => ?_)
          obtain ⟨τz, rfl, qz, oz⟩ := hp
          refine lv_goto (tgt := 266) hx hb d_Mdl_plus_242 (by decide) ?_
          exact gm_vret hx hb hr2 hlk X ⟨_, rfl, by rw [← hv]; exact qz, kd0.tr oz⟩ d_Mdl_plus_266
