/-! PointBench.RunningSum, PointBench.Point: written by wip/gen/sum.py -/
set_option maxHeartbeats 2000000 in
theorem k_Sum_clear {F : Type} [Lean.Grind.CommRing F] {φ : Int → F} {inv : F → F} (l : Launch) (E : gm_E) (ad : Nat → Nat) (N : gm_M) (ρ : Nat → Nat → Int64) (fl : Nat → Int32) (hg : gE E ad) (hk : fk φ inv)  : cv_ l y_Sum_clear b_Sum_clear 1 none { frames := 0, cells := 0, slots := 0, locals := 0 } E (cW E ad N ρ fl) [.ref (E.2.1 + 24)] (fun M' => ∃ fl', M' = cW E ad N ρ fl' ∧ fl' 24 = 1 ∧ kF 24 fl fl') := by
  have hf := hk.fm
  have I := isM_P hg
  refine gm_met (by decide) (Nat.le_of_ble_eq_true rfl) (fun p e s m below meth c ls hx hb hml hr hlk hnm hown hW X hl => ?_)
  have hl : lv_has ls 1 [(0, .ref (E.2.1 + 24))] := hl
  refine lv_aload_n hx hb d_Sum_clear_0 rfl (lv_at hl 0 rfl) ?_
  refine lv_iconst (v := 1) hx hb d_Sum_clear_1 (by decide) ?_
  refine gm_put hx hb hW hown X u_Sum t_Sum t_Sum_ok n_Sum o24 (cw_ge _) rfl 1 (by decide) wf_Sum_9 rfl (ty := .boolean) (v := .int 1) (by decide) rfl rfl (Nat.le_of_ble_eq_true rfl) d_Sum_clear_2 (fun H locs X => ?_)
  have X : gx E (cW E ad N ρ (va_up fl 24 1)) s H locs := by rw [← cw_f24 1]; exact X
  obtain ⟨fl1, hfl1⟩ : ∃ x, x = va_up fl 24 1 := ⟨_, rfl⟩
  rw [← hfl1] at X
  exact gm_vret hx hb hr hlk X ⟨_, rfl, by rw [hfl1, vu_s], fun j hj => by rw [hfl1, vu_n hj]⟩ d_Sum_clear_5
set_option maxHeartbeats 2000000 in
theorem k_Sum_twice {F : Type} [Lean.Grind.CommRing F] {φ : Int → F} {inv : F → F} (l : Launch) (E : gm_E) (ad : Nat → Nat) (N : gm_M) (ρ : Nat → Nat → Int64) (fl : Nat → Int32) (hg : gE E ad) (hk : fk φ inv) {p : Option (F × F)} (hs : sumR φ ρ fl p) : cv_ l y_Sum_twice b_Sum_twice 1 none { frames := 3, cells := 0, slots := 0, locals := 85 } E (cW E ad N ρ fl) [.ref (E.2.1 + 24)] (fun M' => ∃ ρ', M' = cW E ad N ρ' fl ∧ sumR φ ρ' fl (ec_add inv p p) ∧ kS ρ ρ') := by
  cases p with
  | none =>
    have hf := hk.fm
    have I := isM_P hg
    refine gm_met (by decide) (Nat.le_of_ble_eq_true rfl) (fun p e s m below meth c ls hx hb hml hr hlk hnm hown hW X hl => ?_)
    have hl : lv_has ls 1 [(0, .ref (E.2.1 + 24))] := hl
    have h0 : fl 24 = 1 := hs
    refine lv_aload_n hx hb d_Sum_twice_0 rfl (lv_at hl 0 rfl) ?_
    refine gm_get hx hb hW hown X u_Sum o24 rfl 1 (by decide) wf_Sum_9 (v := .int (fl 24)) rfl d_Sum_twice_1 ?_
    refine lv_if_eq (tgt := 8) hx hb d_Sum_twice_4 (by decide) (fun c4 => ?_) (fun c4 => ?_)
    · exact absurd (h0.symm.trans c4) (by decide)
    · exact gm_vret hx hb hr hlk X ⟨ρ, rfl, h0, kS.rf ρ⟩ d_Sum_twice_7
  | some a =>
    have hf := hk.fm
    have I := isM_P hg
    refine gm_met (by decide) (Nat.le_of_ble_eq_true rfl) (fun p e s m below meth c ls hx hb hml hr hlk hnm hown hW X hl => ?_)
    have hl : lv_has ls 1 [(0, .ref (E.2.1 + 24))] := hl
    obtain ⟨h0, ho, x, y, z, hX, hY, hZ, hj⟩ := hs
    refine lv_aload_n hx hb d_Sum_twice_0 rfl (lv_at hl 0 rfl) ?_
    refine gm_get hx hb hW hown X u_Sum o24 rfl 1 (by decide) wf_Sum_9 (v := .int (fl 24)) rfl d_Sum_twice_1 ?_
    refine lv_if_eq (tgt := 8) hx hb d_Sum_twice_4 (by decide) (fun c4 => ?_) (fun c4 => ?_)
    · refine lv_aload_n hx hb d_Sum_twice_8 rfl (lv_at hl 0 rfl) ?_
      refine gm_get hx hb hW hown X u_Sum o24 rfl 0 (by decide) wf_Sum_40 (v := .ref (E.2.1 + 11)) rfl d_Sum_twice_9 ?_
      refine lv_aload_n hx hb d_Sum_twice_12 rfl (lv_at hl 0 rfl) ?_
      refine gm_get hx hb hW hown X u_Sum o24 rfl 4 (by decide) wf_Sum_22 (v := .ref (E.2.1 + 27)) rfl d_Sum_twice_13 ?_
      refine lv_aload_n hx hb d_Sum_twice_16 rfl (lv_at hl 0 rfl) ?_
      refine gm_get hx hb hW hown X u_Sum o24 rfl 4 (by decide) wf_Sum_22 (v := .ref (E.2.1 + 27)) rfl d_Sum_twice_17 ?_
      refine lv_aload_n hx hb d_Sum_twice_20 rfl (lv_at hl 0 rfl) ?_
      refine gm_get hx hb hW hown X u_Sum o24 rfl 3 (by decide) wf_Sum_19 (v := .ref (E.2.1 + 26)) rfl d_Sum_twice_21 ?_
      refine gm_Vv hx hb hml hown hW X o11 (k_mul l I hf (by decide) (by decide) (by decide) hZ hY (by decide)) (n := 3) ⟨⟨wl_Sum_66, wi_Mod_multiply, wsel_Mod_multiply, winit_Mod, wc_Mod_multiply⟩, by decide +kernel, ⟨Nat.le_of_ble_eq_true rfl, Nat.le_of_ble_eq_true rfl⟩, _, rfl, rfl⟩ rfl hl.1 rfl (Nat.le_of_ble_eq_true rfl) d_Sum_twice_24 ⟨Nat.le_of_ble_eq_true rfl, Nat.le_of_ble_eq_true rfl⟩ (fun M1 H locs hp X => ?_)
      obtain ⟨ρ1, rfl, q1, kk1⟩ := hp
      have h25_1 : RV φ (ρ1 25) 9 x := by rw [kk1 25 (by omega) (by omega)]; exact hX
      have h26_1 : RV φ (ρ1 26) 9 y := by rw [kk1 26 (by omega) (by omega)]; exact hY
      have h27_1 : RV φ (ρ1 27) 1 (z * y) := q1
      refine lv_aload_n hx hb d_Sum_twice_27 rfl (lv_at hl 0 rfl) ?_
      refine gm_get hx hb hW hown X u_Sum o24 rfl 4 (by decide) wf_Sum_22 (v := .ref (E.2.1 + 27)) rfl d_Sum_twice_28 ?_
      refine lv_aload_n hx hb d_Sum_twice_31 rfl (lv_at hl 0 rfl) ?_
      refine gm_get hx hb hW hown X u_Sum o24 rfl 4 (by decide) wf_Sum_22 (v := .ref (E.2.1 + 27)) rfl d_Sum_twice_32 ?_
      refine lv_ldc2 (v := 2) hx hb hown (hW _ wk_Sum_96) d_Sum_twice_35 ?_
      refine gm_Sv hx hb hml hown hW X (k_scale l hf.1 2 rfl (by decide) (ph2 hf.1) (by decide) (by decide) h27_1) (n := 3) ⟨⟨wl_Sum_98, ws_Lim_scale, winit_Lim, wc_Lim_scale⟩, by decide +kernel, Nat.le_of_ble_eq_true rfl, Nat.le_of_ble_eq_true rfl⟩ rfl hl.1 rfl (Nat.le_of_ble_eq_true rfl) d_Sum_twice_38 ⟨Nat.le_of_ble_eq_true rfl, Nat.le_of_ble_eq_true rfl⟩ (fun M1 H locs hp X => ?_)
      obtain ⟨ρ2, rfl, q2, kk2⟩ := hp
      have h25_2 : RV φ (ρ2 25) 9 x := by rw [kk2 25 (by omega)]; exact h25_1
      have h26_2 : RV φ (ρ2 26) 9 y := by rw [kk2 26 (by omega)]; exact h26_1
      have h27_2 : RV φ (ρ2 27) 2 (2 * (z * y)) := q2.up (by decide)
      refine lv_aload_n hx hb d_Sum_twice_41 rfl (lv_at hl 0 rfl) ?_
      refine gm_get hx hb hW hown X u_Sum o24 rfl 0 (by decide) wf_Sum_40 (v := .ref (E.2.1 + 11)) rfl d_Sum_twice_42 ?_
      refine lv_aload_n hx hb d_Sum_twice_45 rfl (lv_at hl 0 rfl) ?_
      refine gm_get hx hb hW hown X u_Sum o24 rfl 6 (by decide) wf_Sum_28 (v := .ref (E.2.1 + 29)) rfl d_Sum_twice_46 ?_
      refine lv_aload_n hx hb d_Sum_twice_49 rfl (lv_at hl 0 rfl) ?_
      refine gm_get hx hb hW hown X u_Sum o24 rfl 2 (by decide) wf_Sum_15 (v := .ref (E.2.1 + 25)) rfl d_Sum_twice_50 ?_
      refine lv_aload_n hx hb d_Sum_twice_53 rfl (lv_at hl 0 rfl) ?_
      refine gm_get hx hb hW hown X u_Sum o24 rfl 2 (by decide) wf_Sum_15 (v := .ref (E.2.1 + 25)) rfl d_Sum_twice_54 ?_
      refine gm_Vv hx hb hml hown hW X o11 (k_mul l I hf (by decide) (by decide) (by decide) h25_2 h25_2 (by decide)) (n := 3) ⟨⟨wl_Sum_66, wi_Mod_multiply, wsel_Mod_multiply, winit_Mod, wc_Mod_multiply⟩, by decide +kernel, ⟨Nat.le_of_ble_eq_true rfl, Nat.le_of_ble_eq_true rfl⟩, _, rfl, rfl⟩ rfl hl.1 rfl (Nat.le_of_ble_eq_true rfl) d_Sum_twice_57 ⟨Nat.le_of_ble_eq_true rfl, Nat.le_of_ble_eq_true rfl⟩ (fun M1 H locs hp X => ?_)
      obtain ⟨ρ3, rfl, q3, kk3⟩ := hp
      have h25_3 : RV φ (ρ3 25) 9 x := by rw [kk3 25 (by omega) (by omega)]; exact h25_2
      have h26_3 : RV φ (ρ3 26) 9 y := by rw [kk3 26 (by omega) (by omega)]; exact h26_2
      have h27_3 : RV φ (ρ3 27) 2 (2 * (z * y)) := by rw [kk3 27 (by omega) (by omega)]; exact h27_2
      have h29_3 : RV φ (ρ3 29) 1 (x * x) := q3
      refine lv_aload_n hx hb d_Sum_twice_60 rfl (lv_at hl 0 rfl) ?_
      refine gm_get hx hb hW hown X u_Sum o24 rfl 6 (by decide) wf_Sum_28 (v := .ref (E.2.1 + 29)) rfl d_Sum_twice_61 ?_
      refine lv_aload_n hx hb d_Sum_twice_64 rfl (lv_at hl 0 rfl) ?_
      refine gm_get hx hb hW hown X u_Sum o24 rfl 6 (by decide) wf_Sum_28 (v := .ref (E.2.1 + 29)) rfl d_Sum_twice_65 ?_
      refine lv_ldc2 (v := 3) hx hb hown (hW _ wk_Sum_102) d_Sum_twice_68 ?_
      refine gm_Sv hx hb hml hown hW X (k_scale l hf.1 3 rfl (by decide) (ph3 hf.1) (by decide) (by decide) h29_3) (n := 3) ⟨⟨wl_Sum_98, ws_Lim_scale, winit_Lim, wc_Lim_scale⟩, by decide +kernel, Nat.le_of_ble_eq_true rfl, Nat.le_of_ble_eq_true rfl⟩ rfl hl.1 rfl (Nat.le_of_ble_eq_true rfl) d_Sum_twice_71 ⟨Nat.le_of_ble_eq_true rfl, Nat.le_of_ble_eq_true rfl⟩ (fun M1 H locs hp X => ?_)
      obtain ⟨ρ4, rfl, q4, kk4⟩ := hp
      have h25_4 : RV φ (ρ4 25) 9 x := by rw [kk4 25 (by omega)]; exact h25_3
      have h26_4 : RV φ (ρ4 26) 9 y := by rw [kk4 26 (by omega)]; exact h26_3
      have h27_4 : RV φ (ρ4 27) 2 (2 * (z * y)) := by rw [kk4 27 (by omega)]; exact h27_3
      have h29_4 : RV φ (ρ4 29) 3 (3 * (x * x)) := q4.up (by decide)
      refine lv_aload_n hx hb d_Sum_twice_74 rfl (lv_at hl 0 rfl) ?_
      refine gm_get hx hb hW hown X u_Sum o24 rfl 0 (by decide) wf_Sum_40 (v := .ref (E.2.1 + 11)) rfl d_Sum_twice_75 ?_
      refine lv_aload_n hx hb d_Sum_twice_78 rfl (lv_at hl 0 rfl) ?_
      refine gm_get hx hb hW hown X u_Sum o24 rfl 7 (by decide) wf_Sum_31 (v := .ref (E.2.1 + 30)) rfl d_Sum_twice_79 ?_
      refine lv_aload_n hx hb d_Sum_twice_82 rfl (lv_at hl 0 rfl) ?_
      refine gm_get hx hb hW hown X u_Sum o24 rfl 3 (by decide) wf_Sum_19 (v := .ref (E.2.1 + 26)) rfl d_Sum_twice_83 ?_
      refine lv_aload_n hx hb d_Sum_twice_86 rfl (lv_at hl 0 rfl) ?_
      refine gm_get hx hb hW hown X u_Sum o24 rfl 3 (by decide) wf_Sum_19 (v := .ref (E.2.1 + 26)) rfl d_Sum_twice_87 ?_
      refine gm_Vv hx hb hml hown hW X o11 (k_mul l I hf (by decide) (by decide) (by decide) h26_4 h26_4 (by decide)) (n := 3) ⟨⟨wl_Sum_66, wi_Mod_multiply, wsel_Mod_multiply, winit_Mod, wc_Mod_multiply⟩, by decide +kernel, ⟨Nat.le_of_ble_eq_true rfl, Nat.le_of_ble_eq_true rfl⟩, _, rfl, rfl⟩ rfl hl.1 rfl (Nat.le_of_ble_eq_true rfl) d_Sum_twice_90 ⟨Nat.le_of_ble_eq_true rfl, Nat.le_of_ble_eq_true rfl⟩ (fun M1 H locs hp X => ?_)
      obtain ⟨ρ5, rfl, q5, kk5⟩ := hp
      have h25_5 : RV φ (ρ5 25) 9 x := by rw [kk5 25 (by omega) (by omega)]; exact h25_4
      have h26_5 : RV φ (ρ5 26) 9 y := by rw [kk5 26 (by omega) (by omega)]; exact h26_4
      have h27_5 : RV φ (ρ5 27) 2 (2 * (z * y)) := by rw [kk5 27 (by omega) (by omega)]; exact h27_4
      have h29_5 : RV φ (ρ5 29) 3 (3 * (x * x)) := by rw [kk5 29 (by omega) (by omega)]; exact h29_4
      have h30_5 : RV φ (ρ5 30) 1 (y * y) := q5
      refine lv_aload_n hx hb d_Sum_twice_93 rfl (lv_at hl 0 rfl) ?_
      refine gm_get hx hb hW hown X u_Sum o24 rfl 0 (by decide) wf_Sum_40 (v := .ref (E.2.1 + 11)) rfl d_Sum_twice_94 ?_
      refine lv_aload_n hx hb d_Sum_twice_97 rfl (lv_at hl 0 rfl) ?_
      refine gm_get hx hb hW hown X u_Sum o24 rfl 9 (by decide) wf_Sum_37 (v := .ref (E.2.1 + 32)) rfl d_Sum_twice_98 ?_
      refine lv_aload_n hx hb d_Sum_twice_101 rfl (lv_at hl 0 rfl) ?_
      refine gm_get hx hb hW hown X u_Sum o24 rfl 2 (by decide) wf_Sum_15 (v := .ref (E.2.1 + 25)) rfl d_Sum_twice_102 ?_
      refine lv_aload_n hx hb d_Sum_twice_105 rfl (lv_at hl 0 rfl) ?_
      refine gm_get hx hb hW hown X u_Sum o24 rfl 7 (by decide) wf_Sum_31 (v := .ref (E.2.1 + 30)) rfl d_Sum_twice_106 ?_
      refine gm_Vv hx hb hml hown hW X o11 (k_mul l I hf (by decide) (by decide) (by decide) h25_5 h30_5 (by decide)) (n := 3) ⟨⟨wl_Sum_66, wi_Mod_multiply, wsel_Mod_multiply, winit_Mod, wc_Mod_multiply⟩, by decide +kernel, ⟨Nat.le_of_ble_eq_true rfl, Nat.le_of_ble_eq_true rfl⟩, _, rfl, rfl⟩ rfl hl.1 rfl (Nat.le_of_ble_eq_true rfl) d_Sum_twice_109 ⟨Nat.le_of_ble_eq_true rfl, Nat.le_of_ble_eq_true rfl⟩ (fun M1 H locs hp X => ?_)
      obtain ⟨ρ6, rfl, q6, kk6⟩ := hp
      have h25_6 : RV φ (ρ6 25) 9 x := by rw [kk6 25 (by omega) (by omega)]; exact h25_5
      have h26_6 : RV φ (ρ6 26) 9 y := by rw [kk6 26 (by omega) (by omega)]; exact h26_5
      have h27_6 : RV φ (ρ6 27) 2 (2 * (z * y)) := by rw [kk6 27 (by omega) (by omega)]; exact h27_5
      have h29_6 : RV φ (ρ6 29) 3 (3 * (x * x)) := by rw [kk6 29 (by omega) (by omega)]; exact h29_5
      have h30_6 : RV φ (ρ6 30) 1 (y * y) := by rw [kk6 30 (by omega) (by omega)]; exact h30_5
      have h32_6 : RV φ (ρ6 32) 1 (x * (y * y)) := q6
      refine lv_aload_n hx hb d_Sum_twice_112 rfl (lv_at hl 0 rfl) ?_
      refine gm_get hx hb hW hown X u_Sum o24 rfl 9 (by decide) wf_Sum_37 (v := .ref (E.2.1 + 32)) rfl d_Sum_twice_113 ?_
      refine lv_aload_n hx hb d_Sum_twice_116 rfl (lv_at hl 0 rfl) ?_
      refine gm_get hx hb hW hown X u_Sum o24 rfl 9 (by decide) wf_Sum_37 (v := .ref (E.2.1 + 32)) rfl d_Sum_twice_117 ?_
      refine lv_ldc2 (v := 4) hx hb hown (hW _ wk_Sum_104) d_Sum_twice_120 ?_
      refine gm_Sv hx hb hml hown hW X (k_scale l hf.1 4 rfl (by decide) (ph4 hf.1) (by decide) (by decide) h32_6) (n := 3) ⟨⟨wl_Sum_98, ws_Lim_scale, winit_Lim, wc_Lim_scale⟩, by decide +kernel, Nat.le_of_ble_eq_true rfl, Nat.le_of_ble_eq_true rfl⟩ rfl hl.1 rfl (Nat.le_of_ble_eq_true rfl) d_Sum_twice_123 ⟨Nat.le_of_ble_eq_true rfl, Nat.le_of_ble_eq_true rfl⟩ (fun M1 H locs hp X => ?_)
      obtain ⟨ρ7, rfl, q7, kk7⟩ := hp
      have h25_7 : RV φ (ρ7 25) 9 x := by rw [kk7 25 (by omega)]; exact h25_6
      have h26_7 : RV φ (ρ7 26) 9 y := by rw [kk7 26 (by omega)]; exact h26_6
      have h27_7 : RV φ (ρ7 27) 2 (2 * (z * y)) := by rw [kk7 27 (by omega)]; exact h27_6
      have h29_7 : RV φ (ρ7 29) 3 (3 * (x * x)) := by rw [kk7 29 (by omega)]; exact h29_6
      have h30_7 : RV φ (ρ7 30) 1 (y * y) := by rw [kk7 30 (by omega)]; exact h30_6
      have h32_7 : RV φ (ρ7 32) 4 (4 * (x * (y * y))) := q7.up (by decide)
      refine lv_aload_n hx hb d_Sum_twice_126 rfl (lv_at hl 0 rfl) ?_
      refine gm_get hx hb hW hown X u_Sum o24 rfl 0 (by decide) wf_Sum_40 (v := .ref (E.2.1 + 11)) rfl d_Sum_twice_127 ?_
      refine lv_aload_n hx hb d_Sum_twice_130 rfl (lv_at hl 0 rfl) ?_
      refine gm_get hx hb hW hown X u_Sum o24 rfl 2 (by decide) wf_Sum_15 (v := .ref (E.2.1 + 25)) rfl d_Sum_twice_131 ?_
      refine lv_aload_n hx hb d_Sum_twice_134 rfl (lv_at hl 0 rfl) ?_
      refine gm_get hx hb hW hown X u_Sum o24 rfl 6 (by decide) wf_Sum_28 (v := .ref (E.2.1 + 29)) rfl d_Sum_twice_135 ?_
      refine lv_aload_n hx hb d_Sum_twice_138 rfl (lv_at hl 0 rfl) ?_
      refine gm_get hx hb hW hown X u_Sum o24 rfl 6 (by decide) wf_Sum_28 (v := .ref (E.2.1 + 29)) rfl d_Sum_twice_139 ?_
      refine gm_Vv hx hb hml hown hW X o11 (k_mul l I hf (by decide) (by decide) (by decide) h29_7 h29_7 (by decide)) (n := 3) ⟨⟨wl_Sum_66, wi_Mod_multiply, wsel_Mod_multiply, winit_Mod, wc_Mod_multiply⟩, by decide +kernel, ⟨Nat.le_of_ble_eq_true rfl, Nat.le_of_ble_eq_true rfl⟩, _, rfl, rfl⟩ rfl hl.1 rfl (Nat.le_of_ble_eq_true rfl) d_Sum_twice_142 ⟨Nat.le_of_ble_eq_true rfl, Nat.le_of_ble_eq_true rfl⟩ (fun M1 H locs hp X => ?_)
      obtain ⟨ρ8, rfl, q8, kk8⟩ := hp
      have h26_8 : RV φ (ρ8 26) 9 y := by rw [kk8 26 (by omega) (by omega)]; exact h26_7
      have h27_8 : RV φ (ρ8 27) 2 (2 * (z * y)) := by rw [kk8 27 (by omega) (by omega)]; exact h27_7
      have h29_8 : RV φ (ρ8 29) 3 (3 * (x * x)) := by rw [kk8 29 (by omega) (by omega)]; exact h29_7
      have h30_8 : RV φ (ρ8 30) 1 (y * y) := by rw [kk8 30 (by omega) (by omega)]; exact h30_7
      have h32_8 : RV φ (ρ8 32) 4 (4 * (x * (y * y))) := by rw [kk8 32 (by omega) (by omega)]; exact h32_7
      have h25_8 : RV φ (ρ8 25) 1 ((3 * (x * x)) * (3 * (x * x))) := q8
      refine lv_aload_n hx hb d_Sum_twice_145 rfl (lv_at hl 0 rfl) ?_
      refine gm_get hx hb hW hown X u_Sum o24 rfl 2 (by decide) wf_Sum_15 (v := .ref (E.2.1 + 25)) rfl d_Sum_twice_146 ?_
      refine lv_aload_n hx hb d_Sum_twice_149 rfl (lv_at hl 0 rfl) ?_
      refine gm_get hx hb hW hown X u_Sum o24 rfl 2 (by decide) wf_Sum_15 (v := .ref (E.2.1 + 25)) rfl d_Sum_twice_150 ?_
      refine lv_aload_n hx hb d_Sum_twice_153 rfl (lv_at hl 0 rfl) ?_
      refine gm_get hx hb hW hown X u_Sum o24 rfl 9 (by decide) wf_Sum_37 (v := .ref (E.2.1 + 32)) rfl d_Sum_twice_154 ?_
      refine gm_Sv hx hb hml hown hW X (k_minus l hf.1 (by decide) (by decide) (by decide) h25_8 h32_8) (n := 3) ⟨⟨wl_Sum_73, ws_Lim_minus, winit_Lim, wc_Lim_minus⟩, by decide +kernel, Nat.le_of_ble_eq_true rfl, Nat.le_of_ble_eq_true rfl⟩ rfl hl.1 rfl (Nat.le_of_ble_eq_true rfl) d_Sum_twice_157 ⟨Nat.le_of_ble_eq_true rfl, Nat.le_of_ble_eq_true rfl⟩ (fun M1 H locs hp X => ?_)
      obtain ⟨ρ9, rfl, q9, kk9⟩ := hp
      have h26_9 : RV φ (ρ9 26) 9 y := by rw [kk9 26 (by omega)]; exact h26_8
      have h27_9 : RV φ (ρ9 27) 2 (2 * (z * y)) := by rw [kk9 27 (by omega)]; exact h27_8
      have h29_9 : RV φ (ρ9 29) 3 (3 * (x * x)) := by rw [kk9 29 (by omega)]; exact h29_8
      have h30_9 : RV φ (ρ9 30) 1 (y * y) := by rw [kk9 30 (by omega)]; exact h30_8
      have h32_9 : RV φ (ρ9 32) 4 (4 * (x * (y * y))) := by rw [kk9 32 (by omega)]; exact h32_8
      have h25_9 : RV φ (ρ9 25) 5 (((3 * (x * x)) * (3 * (x * x))) - (4 * (x * (y * y)))) := q9.up (by decide)
      refine lv_aload_n hx hb d_Sum_twice_160 rfl (lv_at hl 0 rfl) ?_
      refine gm_get hx hb hW hown X u_Sum o24 rfl 2 (by decide) wf_Sum_15 (v := .ref (E.2.1 + 25)) rfl d_Sum_twice_161 ?_
      refine lv_aload_n hx hb d_Sum_twice_164 rfl (lv_at hl 0 rfl) ?_
      refine gm_get hx hb hW hown X u_Sum o24 rfl 2 (by decide) wf_Sum_15 (v := .ref (E.2.1 + 25)) rfl d_Sum_twice_165 ?_
      refine lv_aload_n hx hb d_Sum_twice_168 rfl (lv_at hl 0 rfl) ?_
      refine gm_get hx hb hW hown X u_Sum o24 rfl 9 (by decide) wf_Sum_37 (v := .ref (E.2.1 + 32)) rfl d_Sum_twice_169 ?_
      refine gm_Sv hx hb hml hown hW X (k_minus l hf.1 (by decide) (by decide) (by decide) h25_9 h32_9) (n := 3) ⟨⟨wl_Sum_73, ws_Lim_minus, winit_Lim, wc_Lim_minus⟩, by decide +kernel, Nat.le_of_ble_eq_true rfl, Nat.le_of_ble_eq_true rfl⟩ rfl hl.1 rfl (Nat.le_of_ble_eq_true rfl) d_Sum_twice_172 ⟨Nat.le_of_ble_eq_true rfl, Nat.le_of_ble_eq_true rfl⟩ (fun M1 H locs hp X => ?_)
      obtain ⟨ρ10, rfl, q10, kk10⟩ := hp
      have h26_10 : RV φ (ρ10 26) 9 y := by rw [kk10 26 (by omega)]; exact h26_9
      have h27_10 : RV φ (ρ10 27) 2 (2 * (z * y)) := by rw [kk10 27 (by omega)]; exact h27_9
      have h29_10 : RV φ (ρ10 29) 3 (3 * (x * x)) := by rw [kk10 29 (by omega)]; exact h29_9
      have h30_10 : RV φ (ρ10 30) 1 (y * y) := by rw [kk10 30 (by omega)]; exact h30_9
      have h32_10 : RV φ (ρ10 32) 4 (4 * (x * (y * y))) := by rw [kk10 32 (by omega)]; exact h32_9
      have h25_10 : RV φ (ρ10 25) 9 ((((3 * (x * x)) * (3 * (x * x))) - (4 * (x * (y * y)))) - (4 * (x * (y * y)))) := q10.up (by decide)
      refine lv_aload_n hx hb d_Sum_twice_175 rfl (lv_at hl 0 rfl) ?_
      refine gm_get hx hb hW hown X u_Sum o24 rfl 9 (by decide) wf_Sum_37 (v := .ref (E.2.1 + 32)) rfl d_Sum_twice_176 ?_
      refine lv_aload_n hx hb d_Sum_twice_179 rfl (lv_at hl 0 rfl) ?_
      refine gm_get hx hb hW hown X u_Sum o24 rfl 9 (by decide) wf_Sum_37 (v := .ref (E.2.1 + 32)) rfl d_Sum_twice_180 ?_
      refine lv_aload_n hx hb d_Sum_twice_183 rfl (lv_at hl 0 rfl) ?_
      refine gm_get hx hb hW hown X u_Sum o24 rfl 2 (by decide) wf_Sum_15 (v := .ref (E.2.1 + 25)) rfl d_Sum_twice_184 ?_
      refine gm_Sv hx hb hml hown hW X (k_minus l hf.1 (by decide) (by decide) (by decide) h32_10 h25_10) (n := 3) ⟨⟨wl_Sum_73, ws_Lim_minus, winit_Lim, wc_Lim_minus⟩, by decide +kernel, Nat.le_of_ble_eq_true rfl, Nat.le_of_ble_eq_true rfl⟩ rfl hl.1 rfl (Nat.le_of_ble_eq_true rfl) d_Sum_twice_187 ⟨Nat.le_of_ble_eq_true rfl, Nat.le_of_ble_eq_true rfl⟩ (fun M1 H locs hp X => ?_)
      obtain ⟨ρ11, rfl, q11, kk11⟩ := hp
      have h26_11 : RV φ (ρ11 26) 9 y := by rw [kk11 26 (by omega)]; exact h26_10
      have h27_11 : RV φ (ρ11 27) 2 (2 * (z * y)) := by rw [kk11 27 (by omega)]; exact h27_10
      have h29_11 : RV φ (ρ11 29) 3 (3 * (x * x)) := by rw [kk11 29 (by omega)]; exact h29_10
      have h30_11 : RV φ (ρ11 30) 1 (y * y) := by rw [kk11 30 (by omega)]; exact h30_10
      have h25_11 : RV φ (ρ11 25) 9 ((((3 * (x * x)) * (3 * (x * x))) - (4 * (x * (y * y)))) - (4 * (x * (y * y)))) := by rw [kk11 25 (by omega)]; exact h25_10
      have h32_11 : RV φ (ρ11 32) 13 ((4 * (x * (y * y))) - ((((3 * (x * x)) * (3 * (x * x))) - (4 * (x * (y * y)))) - (4 * (x * (y * y))))) := q11.up (by decide)
      refine lv_aload_n hx hb d_Sum_twice_190 rfl (lv_at hl 0 rfl) ?_
      refine gm_get hx hb hW hown X u_Sum o24 rfl 0 (by decide) wf_Sum_40 (v := .ref (E.2.1 + 11)) rfl d_Sum_twice_191 ?_
      refine lv_aload_n hx hb d_Sum_twice_194 rfl (lv_at hl 0 rfl) ?_
      refine gm_get hx hb hW hown X u_Sum o24 rfl 3 (by decide) wf_Sum_19 (v := .ref (E.2.1 + 26)) rfl d_Sum_twice_195 ?_
      refine lv_aload_n hx hb d_Sum_twice_198 rfl (lv_at hl 0 rfl) ?_
      refine gm_get hx hb hW hown X u_Sum o24 rfl 6 (by decide) wf_Sum_28 (v := .ref (E.2.1 + 29)) rfl d_Sum_twice_199 ?_
      refine lv_aload_n hx hb d_Sum_twice_202 rfl (lv_at hl 0 rfl) ?_
      refine gm_get hx hb hW hown X u_Sum o24 rfl 9 (by decide) wf_Sum_37 (v := .ref (E.2.1 + 32)) rfl d_Sum_twice_203 ?_
      refine gm_Vv hx hb hml hown hW X o11 (k_mul l I hf (by decide) (by decide) (by decide) h29_11 h32_11 (by decide)) (n := 3) ⟨⟨wl_Sum_66, wi_Mod_multiply, wsel_Mod_multiply, winit_Mod, wc_Mod_multiply⟩, by decide +kernel, ⟨Nat.le_of_ble_eq_true rfl, Nat.le_of_ble_eq_true rfl⟩, _, rfl, rfl⟩ rfl hl.1 rfl (Nat.le_of_ble_eq_true rfl) d_Sum_twice_206 ⟨Nat.le_of_ble_eq_true rfl, Nat.le_of_ble_eq_true rfl⟩ (fun M1 H locs hp X => ?_)
      obtain ⟨ρ12, rfl, q12, kk12⟩ := hp
      have h27_12 : RV φ (ρ12 27) 2 (2 * (z * y)) := by rw [kk12 27 (by omega) (by omega)]; exact h27_11
      have h29_12 : RV φ (ρ12 29) 3 (3 * (x * x)) := by rw [kk12 29 (by omega) (by omega)]; exact h29_11
      have h30_12 : RV φ (ρ12 30) 1 (y * y) := by rw [kk12 30 (by omega) (by omega)]; exact h30_11
      have h25_12 : RV φ (ρ12 25) 9 ((((3 * (x * x)) * (3 * (x * x))) - (4 * (x * (y * y)))) - (4 * (x * (y * y)))) := by rw [kk12 25 (by omega) (by omega)]; exact h25_11
      have h32_12 : RV φ (ρ12 32) 13 ((4 * (x * (y * y))) - ((((3 * (x * x)) * (3 * (x * x))) - (4 * (x * (y * y)))) - (4 * (x * (y * y))))) := by rw [kk12 32 (by omega) (by omega)]; exact h32_11
      have h26_12 : RV φ (ρ12 26) 1 ((3 * (x * x)) * ((4 * (x * (y * y))) - ((((3 * (x * x)) * (3 * (x * x))) - (4 * (x * (y * y)))) - (4 * (x * (y * y)))))) := q12
      refine lv_aload_n hx hb d_Sum_twice_209 rfl (lv_at hl 0 rfl) ?_
      refine gm_get hx hb hW hown X u_Sum o24 rfl 0 (by decide) wf_Sum_40 (v := .ref (E.2.1 + 11)) rfl d_Sum_twice_210 ?_
      refine lv_aload_n hx hb d_Sum_twice_213 rfl (lv_at hl 0 rfl) ?_
      refine gm_get hx hb hW hown X u_Sum o24 rfl 7 (by decide) wf_Sum_31 (v := .ref (E.2.1 + 30)) rfl d_Sum_twice_214 ?_
      refine lv_aload_n hx hb d_Sum_twice_217 rfl (lv_at hl 0 rfl) ?_
      refine gm_get hx hb hW hown X u_Sum o24 rfl 7 (by decide) wf_Sum_31 (v := .ref (E.2.1 + 30)) rfl d_Sum_twice_218 ?_
      refine lv_aload_n hx hb d_Sum_twice_221 rfl (lv_at hl 0 rfl) ?_
      refine gm_get hx hb hW hown X u_Sum o24 rfl 7 (by decide) wf_Sum_31 (v := .ref (E.2.1 + 30)) rfl d_Sum_twice_222 ?_
      refine gm_Vv hx hb hml hown hW X o11 (k_mul l I hf (by decide) (by decide) (by decide) h30_12 h30_12 (by decide)) (n := 3) ⟨⟨wl_Sum_66, wi_Mod_multiply, wsel_Mod_multiply, winit_Mod, wc_Mod_multiply⟩, by decide +kernel, ⟨Nat.le_of_ble_eq_true rfl, Nat.le_of_ble_eq_true rfl⟩, _, rfl, rfl⟩ rfl hl.1 rfl (Nat.le_of_ble_eq_true rfl) d_Sum_twice_225 ⟨Nat.le_of_ble_eq_true rfl, Nat.le_of_ble_eq_true rfl⟩ (fun M1 H locs hp X => ?_)
      obtain ⟨ρ13, rfl, q13, kk13⟩ := hp
      have h27_13 : RV φ (ρ13 27) 2 (2 * (z * y)) := by rw [kk13 27 (by omega) (by omega)]; exact h27_12
      have h29_13 : RV φ (ρ13 29) 3 (3 * (x * x)) := by rw [kk13 29 (by omega) (by omega)]; exact h29_12
      have h25_13 : RV φ (ρ13 25) 9 ((((3 * (x * x)) * (3 * (x * x))) - (4 * (x * (y * y)))) - (4 * (x * (y * y)))) := by rw [kk13 25 (by omega) (by omega)]; exact h25_12
      have h32_13 : RV φ (ρ13 32) 13 ((4 * (x * (y * y))) - ((((3 * (x * x)) * (3 * (x * x))) - (4 * (x * (y * y)))) - (4 * (x * (y * y))))) := by rw [kk13 32 (by omega) (by omega)]; exact h32_12
      have h26_13 : RV φ (ρ13 26) 1 ((3 * (x * x)) * ((4 * (x * (y * y))) - ((((3 * (x * x)) * (3 * (x * x))) - (4 * (x * (y * y)))) - (4 * (x * (y * y)))))) := by rw [kk13 26 (by omega) (by omega)]; exact h26_12
      have h30_13 : RV φ (ρ13 30) 1 ((y * y) * (y * y)) := q13
      refine lv_aload_n hx hb d_Sum_twice_228 rfl (lv_at hl 0 rfl) ?_
      refine gm_get hx hb hW hown X u_Sum o24 rfl 7 (by decide) wf_Sum_31 (v := .ref (E.2.1 + 30)) rfl d_Sum_twice_229 ?_
      refine lv_aload_n hx hb d_Sum_twice_232 rfl (lv_at hl 0 rfl) ?_
      refine gm_get hx hb hW hown X u_Sum o24 rfl 7 (by decide) wf_Sum_31 (v := .ref (E.2.1 + 30)) rfl d_Sum_twice_233 ?_
      refine lv_ldc2 (v := 8) hx hb hown (hW _ wk_Sum_106) d_Sum_twice_236 ?_
      refine gm_Sv hx hb hml hown hW X (k_scale l hf.1 8 rfl (by decide) (ph8 hf.1) (by decide) (by decide) h30_13) (n := 3) ⟨⟨wl_Sum_98, ws_Lim_scale, winit_Lim, wc_Lim_scale⟩, by decide +kernel, Nat.le_of_ble_eq_true rfl, Nat.le_of_ble_eq_true rfl⟩ rfl hl.1 rfl (Nat.le_of_ble_eq_true rfl) d_Sum_twice_239 ⟨Nat.le_of_ble_eq_true rfl, Nat.le_of_ble_eq_true rfl⟩ (fun M1 H locs hp X => ?_)
      obtain ⟨ρ14, rfl, q14, kk14⟩ := hp
      have h27_14 : RV φ (ρ14 27) 2 (2 * (z * y)) := by rw [kk14 27 (by omega)]; exact h27_13
      have h29_14 : RV φ (ρ14 29) 3 (3 * (x * x)) := by rw [kk14 29 (by omega)]; exact h29_13
      have h25_14 : RV φ (ρ14 25) 9 ((((3 * (x * x)) * (3 * (x * x))) - (4 * (x * (y * y)))) - (4 * (x * (y * y)))) := by rw [kk14 25 (by omega)]; exact h25_13
      have h32_14 : RV φ (ρ14 32) 13 ((4 * (x * (y * y))) - ((((3 * (x * x)) * (3 * (x * x))) - (4 * (x * (y * y)))) - (4 * (x * (y * y))))) := by rw [kk14 32 (by omega)]; exact h32_13
      have h26_14 : RV φ (ρ14 26) 1 ((3 * (x * x)) * ((4 * (x * (y * y))) - ((((3 * (x * x)) * (3 * (x * x))) - (4 * (x * (y * y)))) - (4 * (x * (y * y)))))) := by rw [kk14 26 (by omega)]; exact h26_13
      have h30_14 : RV φ (ρ14 30) 8 (8 * ((y * y) * (y * y))) := q14.up (by decide)
      refine lv_aload_n hx hb d_Sum_twice_242 rfl (lv_at hl 0 rfl) ?_
      refine gm_get hx hb hW hown X u_Sum o24 rfl 3 (by decide) wf_Sum_19 (v := .ref (E.2.1 + 26)) rfl d_Sum_twice_243 ?_
      refine lv_aload_n hx hb d_Sum_twice_246 rfl (lv_at hl 0 rfl) ?_
      refine gm_get hx hb hW hown X u_Sum o24 rfl 3 (by decide) wf_Sum_19 (v := .ref (E.2.1 + 26)) rfl d_Sum_twice_247 ?_
      refine lv_aload_n hx hb d_Sum_twice_250 rfl (lv_at hl 0 rfl) ?_
      refine gm_get hx hb hW hown X u_Sum o24 rfl 7 (by decide) wf_Sum_31 (v := .ref (E.2.1 + 30)) rfl d_Sum_twice_251 ?_
      refine gm_Sv hx hb hml hown hW X (k_minus l hf.1 (by decide) (by decide) (by decide) h26_14 h30_14) (n := 3) ⟨⟨wl_Sum_73, ws_Lim_minus, winit_Lim, wc_Lim_minus⟩, by decide +kernel, Nat.le_of_ble_eq_true rfl, Nat.le_of_ble_eq_true rfl⟩ rfl hl.1 rfl (Nat.le_of_ble_eq_true rfl) d_Sum_twice_254 ⟨Nat.le_of_ble_eq_true rfl, Nat.le_of_ble_eq_true rfl⟩ (fun M1 H locs hp X => ?_)
      obtain ⟨ρ15, rfl, q15, kk15⟩ := hp
      have h27_15 : RV φ (ρ15 27) 2 (2 * (z * y)) := by rw [kk15 27 (by omega)]; exact h27_14
      have h29_15 : RV φ (ρ15 29) 3 (3 * (x * x)) := by rw [kk15 29 (by omega)]; exact h29_14
      have h25_15 : RV φ (ρ15 25) 9 ((((3 * (x * x)) * (3 * (x * x))) - (4 * (x * (y * y)))) - (4 * (x * (y * y)))) := by rw [kk15 25 (by omega)]; exact h25_14
      have h32_15 : RV φ (ρ15 32) 13 ((4 * (x * (y * y))) - ((((3 * (x * x)) * (3 * (x * x))) - (4 * (x * (y * y)))) - (4 * (x * (y * y))))) := by rw [kk15 32 (by omega)]; exact h32_14
      have h30_15 : RV φ (ρ15 30) 8 (8 * ((y * y) * (y * y))) := by rw [kk15 30 (by omega)]; exact h30_14
      have h26_15 : RV φ (ρ15 26) 9 (((3 * (x * x)) * ((4 * (x * (y * y))) - ((((3 * (x * x)) * (3 * (x * x))) - (4 * (x * (y * y)))) - (4 * (x * (y * y)))))) - (8 * ((y * y) * (y * y)))) := q15.up (by decide)
      refine gm_vret hx hb hr hlk X ⟨_, rfl, ?_, ?_⟩ d_Sum_twice_257
      · rw [ec_add_db]
        exact sumR.jr h0 (ec_db_on ho (ec_tang hk.1 ho)) h25_15 (h26_15.up (by decide)) (h27_15.up (by decide)) (jr_db hk.1 ho hj) rfl rfl rfl
      · exact fun j hj => by rw [kk15 j (by omega), kk14 j (by omega), kk13 j (by omega) (by omega), kk12 j (by omega) (by omega), kk11 j (by omega), kk10 j (by omega), kk9 j (by omega), kk8 j (by omega) (by omega), kk7 j (by omega), kk6 j (by omega) (by omega), kk5 j (by omega) (by omega), kk4 j (by omega), kk3 j (by omega) (by omega), kk2 j (by omega), kk1 j (by omega) (by omega)]
    · exact absurd h0 c4
set_option maxHeartbeats 2000000 in
theorem k_Sum_begin {F : Type} [Lean.Grind.CommRing F] {φ : Int → F} {inv : F → F} (l : Launch) (E : gm_E) (ad : Nat → Nat) (N : gm_M) (ρ : Nat → Nat → Int64) (fl : Nat → Int32) (hg : gE E ad) (hk : fk φ inv) {q : Nat} {b : F × F} (hP : isP q) (hq : ptR φ ρ fl q (some b)) : cv_ l y_Sum_begin b_Sum_begin 2 none { frames := 2, cells := 0, slots := 0, locals := 39 } E (cW E ad N ρ fl) [.ref (E.2.1 + 24), .ref (E.2.1 + q)] (fun M' => ∃ ρ' fl', M' = cW E ad N ρ' fl' ∧ sumR φ ρ' fl' (some b) ∧ kS ρ ρ' ∧ kF 24 fl fl') := by
  have hO := hP.o
  obtain ⟨hq0, hqo, hqx, hqy⟩ := hq
  have hf := hk.fm
  have I := isM_P hg
  refine gm_met (by decide) (Nat.le_of_ble_eq_true rfl) (fun p e s m below meth c ls hx hb hml hr hlk hnm hown hW X hl => ?_)
  have hl : lv_has ls 2 [(0, .ref (E.2.1 + 24)), (1, .ref (E.2.1 + q))] := hl
  refine lv_aload_n hx hb d_Sum_begin_0 rfl (lv_at hl 0 rfl) ?_
  refine gm_get hx hb hW hown X u_Sum o24 rfl 2 (by decide) wf_Sum_15 (v := .ref (E.2.1 + 25)) rfl d_Sum_begin_1 ?_
  refine lv_aload_n hx hb d_Sum_begin_4 rfl (lv_at hl 1 rfl) ?_
  refine gm_get hx hb hW hown X u_Pnt (oP hP) rfl 0 (by decide) wf_Sum_72 (v := .ref (E.2.1 + (q + 1))) rfl d_Sum_begin_5 ?_
  refine gm_Sv hx hb hml hown hW X (k_copy l (by decide) (isP.x hP)) (n := 2) ⟨⟨wl_Sum_86, ws_Lim_copy, winit_Lim, wc_Lim_copy⟩, by decide +kernel, Nat.le_of_ble_eq_true rfl, Nat.le_of_ble_eq_true rfl⟩ rfl hl.1 rfl (Nat.le_of_ble_eq_true rfl) d_Sum_begin_8 ⟨Nat.le_of_ble_eq_true rfl, Nat.le_of_ble_eq_true rfl⟩ (fun M1 H locs hp X => ?_)
  obtain ⟨ρ1, rfl, q1, kk1⟩ := hp
  have sq1_1 : ST φ nP (ρ1 (q + 1)) b.1 := by rw [kk1 (q + 1) (by omega)]; exact hqx
  have sq2_1 : ST φ nP (ρ1 (q + 2)) b.2 := by rw [kk1 (q + 2) (by omega)]; exact hqy
  have s25_1 : ST φ nP (ρ1 25) b.1 := by rw [q1]; exact hqx
  refine lv_aload_n hx hb d_Sum_begin_11 rfl (lv_at hl 0 rfl) ?_
  refine gm_get hx hb hW hown X u_Sum o24 rfl 3 (by decide) wf_Sum_19 (v := .ref (E.2.1 + 26)) rfl d_Sum_begin_12 ?_
  refine lv_aload_n hx hb d_Sum_begin_15 rfl (lv_at hl 1 rfl) ?_
  refine gm_get hx hb hW hown X u_Pnt (oP hP) rfl 1 (by decide) wf_Sum_78 (v := .ref (E.2.1 + (q + 2))) rfl d_Sum_begin_16 ?_
  refine gm_Sv hx hb hml hown hW X (k_copy l (by decide) (isP.y hP)) (n := 2) ⟨⟨wl_Sum_86, ws_Lim_copy, winit_Lim, wc_Lim_copy⟩, by decide +kernel, Nat.le_of_ble_eq_true rfl, Nat.le_of_ble_eq_true rfl⟩ rfl hl.1 rfl (Nat.le_of_ble_eq_true rfl) d_Sum_begin_19 ⟨Nat.le_of_ble_eq_true rfl, Nat.le_of_ble_eq_true rfl⟩ (fun M1 H locs hp X => ?_)
  obtain ⟨ρ2, rfl, q2, kk2⟩ := hp
  have sq1_2 : ST φ nP (ρ2 (q + 1)) b.1 := by rw [kk2 (q + 1) (by omega)]; exact sq1_1
  have sq2_2 : ST φ nP (ρ2 (q + 2)) b.2 := by rw [kk2 (q + 2) (by omega)]; exact sq2_1
  have s25_2 : ST φ nP (ρ2 25) b.1 := by rw [kk2 25 (by omega)]; exact s25_1
  have s26_2 : ST φ nP (ρ2 26) b.2 := by rw [q2]; exact sq2_1
  refine lv_aload_n hx hb d_Sum_begin_22 rfl (lv_at hl 0 rfl) ?_
  refine gm_get hx hb hW hown X u_Sum o24 rfl 4 (by decide) wf_Sum_22 (v := .ref (E.2.1 + 27)) rfl d_Sum_begin_23 ?_
  refine gm_getsN hx hb hW hown X hg.1.1 wfn_Sum_90 d_Sum_begin_26 ?_
  refine gm_Sv hx hb hml hown hW X (k_unpack l (by decide) (Or.inr hg.1.2)) (n := 2) ⟨⟨wl_Sum_93, ws_Lim_unpack, winit_Lim, wc_Lim_unpack⟩, by decide +kernel, Nat.le_of_ble_eq_true rfl, Nat.le_of_ble_eq_true rfl⟩ rfl hl.1 rfl (Nat.le_of_ble_eq_true rfl) d_Sum_begin_29 ⟨Nat.le_of_ble_eq_true rfl, Nat.le_of_ble_eq_true rfl⟩ (fun M1 H locs hp X => ?_)
  obtain ⟨ρ3, rfl, q3, kk3⟩ := hp
  have sq1_3 : ST φ nP (ρ3 (q + 1)) b.1 := by rw [kk3 (q + 1) (by omega)]; exact sq1_2
  have sq2_3 : ST φ nP (ρ3 (q + 2)) b.2 := by rw [kk3 (q + 2) (by omega)]; exact sq2_2
  have s25_3 : ST φ nP (ρ3 25) b.1 := by rw [kk3 25 (by omega)]; exact s25_2
  have s26_3 : ST φ nP (ρ3 26) b.2 := by rw [kk3 26 (by omega)]; exact s26_2
  refine lv_aload_n hx hb d_Sum_begin_32 rfl (lv_at hl 0 rfl) ?_
  refine gm_get hx hb hW hown X u_Sum o24 rfl 4 (by decide) wf_Sum_22 (v := .ref (E.2.1 + 27)) rfl d_Sum_begin_33 ?_
  refine lv_iconst (v := 0) hx hb d_Sum_begin_36 (by decide) ?_
  refine lv_lconst (v := 1) hx hb d_Sum_begin_37 (by decide) ?_
  refine gm_last hx hb X (k := 0) (cw_row (n := 10) (by decide)) (cw_ge _) (by decide) ⟨by decide, by decide⟩ d_Sum_begin_38 (fun H locs X => ?_)
  rw [cw_upr (n := 10) _ (by decide)] at X
  obtain ⟨ρ4, e4⟩ : ∃ x, x = va_up ρ3 27 (vp_updL (ρ3 27) 0 1) := ⟨_, rfl⟩
  rw [← e4] at X
  have kk4 : kq 27 ρ3 ρ4 := fun j hj => by rw [e4, vu_n hj]
  have hz : RV φ (ρ4 27) 1 1 := by
    rw [e4, vu_s, q3, one_row]
    refine ⟨_, rfl, fun j hj => ?_, ?_⟩
    · simp only [zU]
      split <;> omega
    · rw [one_us, hf.1.2.2]
  have r25 : RV φ (ρ4 25) 1 b.1 := by rw [kk4 25 (by decide)]; exact s25_3.rv
  have r26 : RV φ (ρ4 26) 1 b.2 := by rw [kk4 26 (by decide)]; exact s26_3.rv
  refine lv_aload_n hx hb d_Sum_begin_39 rfl (lv_at hl 0 rfl) ?_
  refine lv_iconst (v := 0) hx hb d_Sum_begin_40 (by decide) ?_
  refine gm_put hx hb hW hown X u_Sum t_Sum t_Sum_ok n_Sum o24 (cw_ge _) rfl 1 (by decide) wf_Sum_9 rfl (ty := .boolean) (v := .int 0) (by decide) rfl rfl (Nat.le_of_ble_eq_true rfl) d_Sum_begin_41 (fun H locs X => ?_)
  have X : gx E (cW E ad N ρ4 (va_up fl 24 0)) s H locs := by rw [← cw_f24 0]; exact X
  obtain ⟨fl5, hfl5⟩ : ∃ x, x = va_up fl 24 0 := ⟨_, rfl⟩
  rw [← hfl5] at X
  refine gm_vret hx hb hr hlk X ⟨_, _, rfl, ?_, fun j hj => by rw [kk4 j (by omega), kk3 j (by omega), kk2 j (by omega), kk1 j (by omega)], fun j hj => by rw [hfl5, vu_n hj]⟩ d_Sum_begin_44
  exact ⟨by rw [hfl5, vu_s], hqo, _, _, _, r25.up (by decide), r26.up (by decide), hz.up (by decide), fun e => hk.1.2.2.1 e, by grind, by grind⟩
set_option maxHeartbeats 2000000 in
theorem k_Sum_joinAcross {F : Type} [Lean.Grind.CommRing F] {φ : Int → F} {inv : F → F} (l : Launch) (E : gm_E) (ad : Nat → Nat) (N : gm_M) (ρ : Nat → Nat → Int64) (fl : Nat → Int32) (hg : gE E ad) (hk : fk φ inv) {x y z u v : F} (hX : RV φ (ρ 25) 9 x) (hY : RV φ (ρ 26) 9 y) (hZ : RV φ (ρ 27) 2 z) (hU : RV φ (ρ 28) 10 u) (hV : RV φ (ρ 29) 10 v) : cv_ l y_Sum_joinAcross b_Sum_joinAcross 1 none { frames := 3, cells := 0, slots := 0, locals := 85 } E (cW E ad N ρ fl) [.ref (E.2.1 + 24)] (fun M' => ∃ ρ', M' = cW E ad N ρ' fl ∧ RV φ (ρ' 25) 4 (v * v - u * u * u - x * (u * u) - x * (u * u)) ∧ RV φ (ρ' 26) 2 ((x * (u * u) - (v * v - u * u * u - x * (u * u) - x * (u * u))) * v - u * u * u * y) ∧ RV φ (ρ' 27) 1 (z * u) ∧ kS ρ ρ') := by
  have hf := hk.fm
  have I := isM_P hg
  refine gm_met (by decide) (Nat.le_of_ble_eq_true rfl) (fun p e s m below meth c ls hx hb hml hr hlk hnm hown hW X hl => ?_)
  have hl : lv_has ls 1 [(0, .ref (E.2.1 + 24))] := hl
  refine lv_aload_n hx hb d_Sum_joinAcross_0 rfl (lv_at hl 0 rfl) ?_
  refine gm_get hx hb hW hown X u_Sum o24 rfl 0 (by decide) wf_Sum_40 (v := .ref (E.2.1 + 11)) rfl d_Sum_joinAcross_1 ?_
  refine lv_aload_n hx hb d_Sum_joinAcross_4 rfl (lv_at hl 0 rfl) ?_
  refine gm_get hx hb hW hown X u_Sum o24 rfl 4 (by decide) wf_Sum_22 (v := .ref (E.2.1 + 27)) rfl d_Sum_joinAcross_5 ?_
  refine lv_aload_n hx hb d_Sum_joinAcross_8 rfl (lv_at hl 0 rfl) ?_
  refine gm_get hx hb hW hown X u_Sum o24 rfl 4 (by decide) wf_Sum_22 (v := .ref (E.2.1 + 27)) rfl d_Sum_joinAcross_9 ?_
  refine lv_aload_n hx hb d_Sum_joinAcross_12 rfl (lv_at hl 0 rfl) ?_
  refine gm_get hx hb hW hown X u_Sum o24 rfl 5 (by decide) wf_Sum_25 (v := .ref (E.2.1 + 28)) rfl d_Sum_joinAcross_13 ?_
  refine gm_Vv hx hb hml hown hW X o11 (k_mul l I hf (by decide) (by decide) (by decide) hZ hU (by decide)) (n := 3) ⟨⟨wl_Sum_66, wi_Mod_multiply, wsel_Mod_multiply, winit_Mod, wc_Mod_multiply⟩, by decide +kernel, ⟨Nat.le_of_ble_eq_true rfl, Nat.le_of_ble_eq_true rfl⟩, _, rfl, rfl⟩ rfl hl.1 rfl (Nat.le_of_ble_eq_true rfl) d_Sum_joinAcross_16 ⟨Nat.le_of_ble_eq_true rfl, Nat.le_of_ble_eq_true rfl⟩ (fun M1 H locs hp X => ?_)
  obtain ⟨ρ1, rfl, q1, kk1⟩ := hp
  have h25_1 : RV φ (ρ1 25) 9 x := by rw [kk1 25 (by omega) (by omega)]; exact hX
  have h26_1 : RV φ (ρ1 26) 9 y := by rw [kk1 26 (by omega) (by omega)]; exact hY
  have h28_1 : RV φ (ρ1 28) 10 u := by rw [kk1 28 (by omega) (by omega)]; exact hU
  have h29_1 : RV φ (ρ1 29) 10 v := by rw [kk1 29 (by omega) (by omega)]; exact hV
  have h27_1 : RV φ (ρ1 27) 1 (z * u) := q1
  refine lv_aload_n hx hb d_Sum_joinAcross_19 rfl (lv_at hl 0 rfl) ?_
  refine gm_get hx hb hW hown X u_Sum o24 rfl 0 (by decide) wf_Sum_40 (v := .ref (E.2.1 + 11)) rfl d_Sum_joinAcross_20 ?_
  refine lv_aload_n hx hb d_Sum_joinAcross_23 rfl (lv_at hl 0 rfl) ?_
  refine gm_get hx hb hW hown X u_Sum o24 rfl 7 (by decide) wf_Sum_31 (v := .ref (E.2.1 + 30)) rfl d_Sum_joinAcross_24 ?_
  refine lv_aload_n hx hb d_Sum_joinAcross_27 rfl (lv_at hl 0 rfl) ?_
  refine gm_get hx hb hW hown X u_Sum o24 rfl 5 (by decide) wf_Sum_25 (v := .ref (E.2.1 + 28)) rfl d_Sum_joinAcross_28 ?_
  refine lv_aload_n hx hb d_Sum_joinAcross_31 rfl (lv_at hl 0 rfl) ?_
  refine gm_get hx hb hW hown X u_Sum o24 rfl 5 (by decide) wf_Sum_25 (v := .ref (E.2.1 + 28)) rfl d_Sum_joinAcross_32 ?_
  refine gm_Vv hx hb hml hown hW X o11 (k_mul l I hf (by decide) (by decide) (by decide) h28_1 h28_1 (by decide)) (n := 3) ⟨⟨wl_Sum_66, wi_Mod_multiply, wsel_Mod_multiply, winit_Mod, wc_Mod_multiply⟩, by decide +kernel, ⟨Nat.le_of_ble_eq_true rfl, Nat.le_of_ble_eq_true rfl⟩, _, rfl, rfl⟩ rfl hl.1 rfl (Nat.le_of_ble_eq_true rfl) d_Sum_joinAcross_35 ⟨Nat.le_of_ble_eq_true rfl, Nat.le_of_ble_eq_true rfl⟩ (fun M1 H locs hp X => ?_)
  obtain ⟨ρ2, rfl, q2, kk2⟩ := hp
  have h25_2 : RV φ (ρ2 25) 9 x := by rw [kk2 25 (by omega) (by omega)]; exact h25_1
  have h26_2 : RV φ (ρ2 26) 9 y := by rw [kk2 26 (by omega) (by omega)]; exact h26_1
  have h28_2 : RV φ (ρ2 28) 10 u := by rw [kk2 28 (by omega) (by omega)]; exact h28_1
  have h29_2 : RV φ (ρ2 29) 10 v := by rw [kk2 29 (by omega) (by omega)]; exact h29_1
  have h27_2 : RV φ (ρ2 27) 1 (z * u) := by rw [kk2 27 (by omega) (by omega)]; exact h27_1
  have h30_2 : RV φ (ρ2 30) 1 (u * u) := q2
  refine lv_aload_n hx hb d_Sum_joinAcross_38 rfl (lv_at hl 0 rfl) ?_
  refine gm_get hx hb hW hown X u_Sum o24 rfl 0 (by decide) wf_Sum_40 (v := .ref (E.2.1 + 11)) rfl d_Sum_joinAcross_39 ?_
  refine lv_aload_n hx hb d_Sum_joinAcross_42 rfl (lv_at hl 0 rfl) ?_
  refine gm_get hx hb hW hown X u_Sum o24 rfl 8 (by decide) wf_Sum_34 (v := .ref (E.2.1 + 31)) rfl d_Sum_joinAcross_43 ?_
  refine lv_aload_n hx hb d_Sum_joinAcross_46 rfl (lv_at hl 0 rfl) ?_
  refine gm_get hx hb hW hown X u_Sum o24 rfl 7 (by decide) wf_Sum_31 (v := .ref (E.2.1 + 30)) rfl d_Sum_joinAcross_47 ?_
  refine lv_aload_n hx hb d_Sum_joinAcross_50 rfl (lv_at hl 0 rfl) ?_
  refine gm_get hx hb hW hown X u_Sum o24 rfl 5 (by decide) wf_Sum_25 (v := .ref (E.2.1 + 28)) rfl d_Sum_joinAcross_51 ?_
  refine gm_Vv hx hb hml hown hW X o11 (k_mul l I hf (by decide) (by decide) (by decide) h30_2 h28_2 (by decide)) (n := 3) ⟨⟨wl_Sum_66, wi_Mod_multiply, wsel_Mod_multiply, winit_Mod, wc_Mod_multiply⟩, by decide +kernel, ⟨Nat.le_of_ble_eq_true rfl, Nat.le_of_ble_eq_true rfl⟩, _, rfl, rfl⟩ rfl hl.1 rfl (Nat.le_of_ble_eq_true rfl) d_Sum_joinAcross_54 ⟨Nat.le_of_ble_eq_true rfl, Nat.le_of_ble_eq_true rfl⟩ (fun M1 H locs hp X => ?_)
  obtain ⟨ρ3, rfl, q3, kk3⟩ := hp
  have h25_3 : RV φ (ρ3 25) 9 x := by rw [kk3 25 (by omega) (by omega)]; exact h25_2
  have h26_3 : RV φ (ρ3 26) 9 y := by rw [kk3 26 (by omega) (by omega)]; exact h26_2
  have h28_3 : RV φ (ρ3 28) 10 u := by rw [kk3 28 (by omega) (by omega)]; exact h28_2
  have h29_3 : RV φ (ρ3 29) 10 v := by rw [kk3 29 (by omega) (by omega)]; exact h29_2
  have h27_3 : RV φ (ρ3 27) 1 (z * u) := by rw [kk3 27 (by omega) (by omega)]; exact h27_2
  have h30_3 : RV φ (ρ3 30) 1 (u * u) := by rw [kk3 30 (by omega) (by omega)]; exact h30_2
  have h31_3 : RV φ (ρ3 31) 1 ((u * u) * u) := q3
  refine lv_aload_n hx hb d_Sum_joinAcross_57 rfl (lv_at hl 0 rfl) ?_
  refine gm_get hx hb hW hown X u_Sum o24 rfl 0 (by decide) wf_Sum_40 (v := .ref (E.2.1 + 11)) rfl d_Sum_joinAcross_58 ?_
  refine lv_aload_n hx hb d_Sum_joinAcross_61 rfl (lv_at hl 0 rfl) ?_
  refine gm_get hx hb hW hown X u_Sum o24 rfl 9 (by decide) wf_Sum_37 (v := .ref (E.2.1 + 32)) rfl d_Sum_joinAcross_62 ?_
  refine lv_aload_n hx hb d_Sum_joinAcross_65 rfl (lv_at hl 0 rfl) ?_
  refine gm_get hx hb hW hown X u_Sum o24 rfl 2 (by decide) wf_Sum_15 (v := .ref (E.2.1 + 25)) rfl d_Sum_joinAcross_66 ?_
  refine lv_aload_n hx hb d_Sum_joinAcross_69 rfl (lv_at hl 0 rfl) ?_
  refine gm_get hx hb hW hown X u_Sum o24 rfl 7 (by decide) wf_Sum_31 (v := .ref (E.2.1 + 30)) rfl d_Sum_joinAcross_70 ?_
  refine gm_Vv hx hb hml hown hW X o11 (k_mul l I hf (by decide) (by decide) (by decide) h25_3 h30_3 (by decide)) (n := 3) ⟨⟨wl_Sum_66, wi_Mod_multiply, wsel_Mod_multiply, winit_Mod, wc_Mod_multiply⟩, by decide +kernel, ⟨Nat.le_of_ble_eq_true rfl, Nat.le_of_ble_eq_true rfl⟩, _, rfl, rfl⟩ rfl hl.1 rfl (Nat.le_of_ble_eq_true rfl) d_Sum_joinAcross_73 ⟨Nat.le_of_ble_eq_true rfl, Nat.le_of_ble_eq_true rfl⟩ (fun M1 H locs hp X => ?_)
  obtain ⟨ρ4, rfl, q4, kk4⟩ := hp
  have h25_4 : RV φ (ρ4 25) 9 x := by rw [kk4 25 (by omega) (by omega)]; exact h25_3
  have h26_4 : RV φ (ρ4 26) 9 y := by rw [kk4 26 (by omega) (by omega)]; exact h26_3
  have h28_4 : RV φ (ρ4 28) 10 u := by rw [kk4 28 (by omega) (by omega)]; exact h28_3
  have h29_4 : RV φ (ρ4 29) 10 v := by rw [kk4 29 (by omega) (by omega)]; exact h29_3
  have h27_4 : RV φ (ρ4 27) 1 (z * u) := by rw [kk4 27 (by omega) (by omega)]; exact h27_3
  have h30_4 : RV φ (ρ4 30) 1 (u * u) := by rw [kk4 30 (by omega) (by omega)]; exact h30_3
  have h31_4 : RV φ (ρ4 31) 1 ((u * u) * u) := by rw [kk4 31 (by omega) (by omega)]; exact h31_3
  have h32_4 : RV φ (ρ4 32) 1 (x * (u * u)) := q4
  refine lv_aload_n hx hb d_Sum_joinAcross_76 rfl (lv_at hl 0 rfl) ?_
  refine gm_get hx hb hW hown X u_Sum o24 rfl 0 (by decide) wf_Sum_40 (v := .ref (E.2.1 + 11)) rfl d_Sum_joinAcross_77 ?_
  refine lv_aload_n hx hb d_Sum_joinAcross_80 rfl (lv_at hl 0 rfl) ?_
  refine gm_get hx hb hW hown X u_Sum o24 rfl 2 (by decide) wf_Sum_15 (v := .ref (E.2.1 + 25)) rfl d_Sum_joinAcross_81 ?_
  refine lv_aload_n hx hb d_Sum_joinAcross_84 rfl (lv_at hl 0 rfl) ?_
  refine gm_get hx hb hW hown X u_Sum o24 rfl 6 (by decide) wf_Sum_28 (v := .ref (E.2.1 + 29)) rfl d_Sum_joinAcross_85 ?_
  refine lv_aload_n hx hb d_Sum_joinAcross_88 rfl (lv_at hl 0 rfl) ?_
  refine gm_get hx hb hW hown X u_Sum o24 rfl 6 (by decide) wf_Sum_28 (v := .ref (E.2.1 + 29)) rfl d_Sum_joinAcross_89 ?_
  refine gm_Vv hx hb hml hown hW X o11 (k_mul l I hf (by decide) (by decide) (by decide) h29_4 h29_4 (by decide)) (n := 3) ⟨⟨wl_Sum_66, wi_Mod_multiply, wsel_Mod_multiply, winit_Mod, wc_Mod_multiply⟩, by decide +kernel, ⟨Nat.le_of_ble_eq_true rfl, Nat.le_of_ble_eq_true rfl⟩, _, rfl, rfl⟩ rfl hl.1 rfl (Nat.le_of_ble_eq_true rfl) d_Sum_joinAcross_92 ⟨Nat.le_of_ble_eq_true rfl, Nat.le_of_ble_eq_true rfl⟩ (fun M1 H locs hp X => ?_)
  obtain ⟨ρ5, rfl, q5, kk5⟩ := hp
  have h26_5 : RV φ (ρ5 26) 9 y := by rw [kk5 26 (by omega) (by omega)]; exact h26_4
  have h28_5 : RV φ (ρ5 28) 10 u := by rw [kk5 28 (by omega) (by omega)]; exact h28_4
  have h29_5 : RV φ (ρ5 29) 10 v := by rw [kk5 29 (by omega) (by omega)]; exact h29_4
  have h27_5 : RV φ (ρ5 27) 1 (z * u) := by rw [kk5 27 (by omega) (by omega)]; exact h27_4
  have h30_5 : RV φ (ρ5 30) 1 (u * u) := by rw [kk5 30 (by omega) (by omega)]; exact h30_4
  have h31_5 : RV φ (ρ5 31) 1 ((u * u) * u) := by rw [kk5 31 (by omega) (by omega)]; exact h31_4
  have h32_5 : RV φ (ρ5 32) 1 (x * (u * u)) := by rw [kk5 32 (by omega) (by omega)]; exact h32_4
  have h25_5 : RV φ (ρ5 25) 1 (v * v) := q5
  refine lv_aload_n hx hb d_Sum_joinAcross_95 rfl (lv_at hl 0 rfl) ?_
  refine gm_get hx hb hW hown X u_Sum o24 rfl 2 (by decide) wf_Sum_15 (v := .ref (E.2.1 + 25)) rfl d_Sum_joinAcross_96 ?_
  refine lv_aload_n hx hb d_Sum_joinAcross_99 rfl (lv_at hl 0 rfl) ?_
  refine gm_get hx hb hW hown X u_Sum o24 rfl 2 (by decide) wf_Sum_15 (v := .ref (E.2.1 + 25)) rfl d_Sum_joinAcross_100 ?_
  refine lv_aload_n hx hb d_Sum_joinAcross_103 rfl (lv_at hl 0 rfl) ?_
  refine gm_get hx hb hW hown X u_Sum o24 rfl 8 (by decide) wf_Sum_34 (v := .ref (E.2.1 + 31)) rfl d_Sum_joinAcross_104 ?_
  refine gm_Sv hx hb hml hown hW X (k_minus l hf.1 (by decide) (by decide) (by decide) h25_5 h31_5) (n := 3) ⟨⟨wl_Sum_73, ws_Lim_minus, winit_Lim, wc_Lim_minus⟩, by decide +kernel, Nat.le_of_ble_eq_true rfl, Nat.le_of_ble_eq_true rfl⟩ rfl hl.1 rfl (Nat.le_of_ble_eq_true rfl) d_Sum_joinAcross_107 ⟨Nat.le_of_ble_eq_true rfl, Nat.le_of_ble_eq_true rfl⟩ (fun M1 H locs hp X => ?_)
  obtain ⟨ρ6, rfl, q6, kk6⟩ := hp
  have h26_6 : RV φ (ρ6 26) 9 y := by rw [kk6 26 (by omega)]; exact h26_5
  have h28_6 : RV φ (ρ6 28) 10 u := by rw [kk6 28 (by omega)]; exact h28_5
  have h29_6 : RV φ (ρ6 29) 10 v := by rw [kk6 29 (by omega)]; exact h29_5
  have h27_6 : RV φ (ρ6 27) 1 (z * u) := by rw [kk6 27 (by omega)]; exact h27_5
  have h30_6 : RV φ (ρ6 30) 1 (u * u) := by rw [kk6 30 (by omega)]; exact h30_5
  have h31_6 : RV φ (ρ6 31) 1 ((u * u) * u) := by rw [kk6 31 (by omega)]; exact h31_5
  have h32_6 : RV φ (ρ6 32) 1 (x * (u * u)) := by rw [kk6 32 (by omega)]; exact h32_5
  have h25_6 : RV φ (ρ6 25) 2 ((v * v) - ((u * u) * u)) := q6.up (by decide)
  refine lv_aload_n hx hb d_Sum_joinAcross_110 rfl (lv_at hl 0 rfl) ?_
  refine gm_get hx hb hW hown X u_Sum o24 rfl 2 (by decide) wf_Sum_15 (v := .ref (E.2.1 + 25)) rfl d_Sum_joinAcross_111 ?_
  refine lv_aload_n hx hb d_Sum_joinAcross_114 rfl (lv_at hl 0 rfl) ?_
  refine gm_get hx hb hW hown X u_Sum o24 rfl 2 (by decide) wf_Sum_15 (v := .ref (E.2.1 + 25)) rfl d_Sum_joinAcross_115 ?_
  refine lv_aload_n hx hb d_Sum_joinAcross_118 rfl (lv_at hl 0 rfl) ?_
  refine gm_get hx hb hW hown X u_Sum o24 rfl 9 (by decide) wf_Sum_37 (v := .ref (E.2.1 + 32)) rfl d_Sum_joinAcross_119 ?_
  refine gm_Sv hx hb hml hown hW X (k_minus l hf.1 (by decide) (by decide) (by decide) h25_6 h32_6) (n := 3) ⟨⟨wl_Sum_73, ws_Lim_minus, winit_Lim, wc_Lim_minus⟩, by decide +kernel, Nat.le_of_ble_eq_true rfl, Nat.le_of_ble_eq_true rfl⟩ rfl hl.1 rfl (Nat.le_of_ble_eq_true rfl) d_Sum_joinAcross_122 ⟨Nat.le_of_ble_eq_true rfl, Nat.le_of_ble_eq_true rfl⟩ (fun M1 H locs hp X => ?_)
  obtain ⟨ρ7, rfl, q7, kk7⟩ := hp
  have h26_7 : RV φ (ρ7 26) 9 y := by rw [kk7 26 (by omega)]; exact h26_6
  have h28_7 : RV φ (ρ7 28) 10 u := by rw [kk7 28 (by omega)]; exact h28_6
  have h29_7 : RV φ (ρ7 29) 10 v := by rw [kk7 29 (by omega)]; exact h29_6
  have h27_7 : RV φ (ρ7 27) 1 (z * u) := by rw [kk7 27 (by omega)]; exact h27_6
  have h30_7 : RV φ (ρ7 30) 1 (u * u) := by rw [kk7 30 (by omega)]; exact h30_6
  have h31_7 : RV φ (ρ7 31) 1 ((u * u) * u) := by rw [kk7 31 (by omega)]; exact h31_6
  have h32_7 : RV φ (ρ7 32) 1 (x * (u * u)) := by rw [kk7 32 (by omega)]; exact h32_6
  have h25_7 : RV φ (ρ7 25) 3 (((v * v) - ((u * u) * u)) - (x * (u * u))) := q7.up (by decide)
  refine lv_aload_n hx hb d_Sum_joinAcross_125 rfl (lv_at hl 0 rfl) ?_
  refine gm_get hx hb hW hown X u_Sum o24 rfl 2 (by decide) wf_Sum_15 (v := .ref (E.2.1 + 25)) rfl d_Sum_joinAcross_126 ?_
  refine lv_aload_n hx hb d_Sum_joinAcross_129 rfl (lv_at hl 0 rfl) ?_
  refine gm_get hx hb hW hown X u_Sum o24 rfl 2 (by decide) wf_Sum_15 (v := .ref (E.2.1 + 25)) rfl d_Sum_joinAcross_130 ?_
  refine lv_aload_n hx hb d_Sum_joinAcross_133 rfl (lv_at hl 0 rfl) ?_
  refine gm_get hx hb hW hown X u_Sum o24 rfl 9 (by decide) wf_Sum_37 (v := .ref (E.2.1 + 32)) rfl d_Sum_joinAcross_134 ?_
  refine gm_Sv hx hb hml hown hW X (k_minus l hf.1 (by decide) (by decide) (by decide) h25_7 h32_7) (n := 3) ⟨⟨wl_Sum_73, ws_Lim_minus, winit_Lim, wc_Lim_minus⟩, by decide +kernel, Nat.le_of_ble_eq_true rfl, Nat.le_of_ble_eq_true rfl⟩ rfl hl.1 rfl (Nat.le_of_ble_eq_true rfl) d_Sum_joinAcross_137 ⟨Nat.le_of_ble_eq_true rfl, Nat.le_of_ble_eq_true rfl⟩ (fun M1 H locs hp X => ?_)
  obtain ⟨ρ8, rfl, q8, kk8⟩ := hp
  have h26_8 : RV φ (ρ8 26) 9 y := by rw [kk8 26 (by omega)]; exact h26_7
  have h28_8 : RV φ (ρ8 28) 10 u := by rw [kk8 28 (by omega)]; exact h28_7
  have h29_8 : RV φ (ρ8 29) 10 v := by rw [kk8 29 (by omega)]; exact h29_7
  have h27_8 : RV φ (ρ8 27) 1 (z * u) := by rw [kk8 27 (by omega)]; exact h27_7
  have h30_8 : RV φ (ρ8 30) 1 (u * u) := by rw [kk8 30 (by omega)]; exact h30_7
  have h31_8 : RV φ (ρ8 31) 1 ((u * u) * u) := by rw [kk8 31 (by omega)]; exact h31_7
  have h32_8 : RV φ (ρ8 32) 1 (x * (u * u)) := by rw [kk8 32 (by omega)]; exact h32_7
  have h25_8 : RV φ (ρ8 25) 4 ((((v * v) - ((u * u) * u)) - (x * (u * u))) - (x * (u * u))) := q8.up (by decide)
  refine lv_aload_n hx hb d_Sum_joinAcross_140 rfl (lv_at hl 0 rfl) ?_
  refine gm_get hx hb hW hown X u_Sum o24 rfl 0 (by decide) wf_Sum_40 (v := .ref (E.2.1 + 11)) rfl d_Sum_joinAcross_141 ?_
  refine lv_aload_n hx hb d_Sum_joinAcross_144 rfl (lv_at hl 0 rfl) ?_
  refine gm_get hx hb hW hown X u_Sum o24 rfl 8 (by decide) wf_Sum_34 (v := .ref (E.2.1 + 31)) rfl d_Sum_joinAcross_145 ?_
  refine lv_aload_n hx hb d_Sum_joinAcross_148 rfl (lv_at hl 0 rfl) ?_
  refine gm_get hx hb hW hown X u_Sum o24 rfl 8 (by decide) wf_Sum_34 (v := .ref (E.2.1 + 31)) rfl d_Sum_joinAcross_149 ?_
  refine lv_aload_n hx hb d_Sum_joinAcross_152 rfl (lv_at hl 0 rfl) ?_
  refine gm_get hx hb hW hown X u_Sum o24 rfl 3 (by decide) wf_Sum_19 (v := .ref (E.2.1 + 26)) rfl d_Sum_joinAcross_153 ?_
  refine gm_Vv hx hb hml hown hW X o11 (k_mul l I hf (by decide) (by decide) (by decide) h31_8 h26_8 (by decide)) (n := 3) ⟨⟨wl_Sum_66, wi_Mod_multiply, wsel_Mod_multiply, winit_Mod, wc_Mod_multiply⟩, by decide +kernel, ⟨Nat.le_of_ble_eq_true rfl, Nat.le_of_ble_eq_true rfl⟩, _, rfl, rfl⟩ rfl hl.1 rfl (Nat.le_of_ble_eq_true rfl) d_Sum_joinAcross_156 ⟨Nat.le_of_ble_eq_true rfl, Nat.le_of_ble_eq_true rfl⟩ (fun M1 H locs hp X => ?_)
  obtain ⟨ρ9, rfl, q9, kk9⟩ := hp
  have h26_9 : RV φ (ρ9 26) 9 y := by rw [kk9 26 (by omega) (by omega)]; exact h26_8
  have h28_9 : RV φ (ρ9 28) 10 u := by rw [kk9 28 (by omega) (by omega)]; exact h28_8
  have h29_9 : RV φ (ρ9 29) 10 v := by rw [kk9 29 (by omega) (by omega)]; exact h29_8
  have h27_9 : RV φ (ρ9 27) 1 (z * u) := by rw [kk9 27 (by omega) (by omega)]; exact h27_8
  have h30_9 : RV φ (ρ9 30) 1 (u * u) := by rw [kk9 30 (by omega) (by omega)]; exact h30_8
  have h32_9 : RV φ (ρ9 32) 1 (x * (u * u)) := by rw [kk9 32 (by omega) (by omega)]; exact h32_8
  have h25_9 : RV φ (ρ9 25) 4 ((((v * v) - ((u * u) * u)) - (x * (u * u))) - (x * (u * u))) := by rw [kk9 25 (by omega) (by omega)]; exact h25_8
  have h31_9 : RV φ (ρ9 31) 1 (((u * u) * u) * y) := q9
  refine lv_aload_n hx hb d_Sum_joinAcross_159 rfl (lv_at hl 0 rfl) ?_
  refine gm_get hx hb hW hown X u_Sum o24 rfl 9 (by decide) wf_Sum_37 (v := .ref (E.2.1 + 32)) rfl d_Sum_joinAcross_160 ?_
  refine lv_aload_n hx hb d_Sum_joinAcross_163 rfl (lv_at hl 0 rfl) ?_
  refine gm_get hx hb hW hown X u_Sum o24 rfl 9 (by decide) wf_Sum_37 (v := .ref (E.2.1 + 32)) rfl d_Sum_joinAcross_164 ?_
  refine lv_aload_n hx hb d_Sum_joinAcross_167 rfl (lv_at hl 0 rfl) ?_
  refine gm_get hx hb hW hown X u_Sum o24 rfl 2 (by decide) wf_Sum_15 (v := .ref (E.2.1 + 25)) rfl d_Sum_joinAcross_168 ?_
  refine gm_Sv hx hb hml hown hW X (k_minus l hf.1 (by decide) (by decide) (by decide) h32_9 h25_9) (n := 3) ⟨⟨wl_Sum_73, ws_Lim_minus, winit_Lim, wc_Lim_minus⟩, by decide +kernel, Nat.le_of_ble_eq_true rfl, Nat.le_of_ble_eq_true rfl⟩ rfl hl.1 rfl (Nat.le_of_ble_eq_true rfl) d_Sum_joinAcross_171 ⟨Nat.le_of_ble_eq_true rfl, Nat.le_of_ble_eq_true rfl⟩ (fun M1 H locs hp X => ?_)
  obtain ⟨ρ10, rfl, q10, kk10⟩ := hp
  have h26_10 : RV φ (ρ10 26) 9 y := by rw [kk10 26 (by omega)]; exact h26_9
  have h28_10 : RV φ (ρ10 28) 10 u := by rw [kk10 28 (by omega)]; exact h28_9
  have h29_10 : RV φ (ρ10 29) 10 v := by rw [kk10 29 (by omega)]; exact h29_9
  have h27_10 : RV φ (ρ10 27) 1 (z * u) := by rw [kk10 27 (by omega)]; exact h27_9
  have h30_10 : RV φ (ρ10 30) 1 (u * u) := by rw [kk10 30 (by omega)]; exact h30_9
  have h25_10 : RV φ (ρ10 25) 4 ((((v * v) - ((u * u) * u)) - (x * (u * u))) - (x * (u * u))) := by rw [kk10 25 (by omega)]; exact h25_9
  have h31_10 : RV φ (ρ10 31) 1 (((u * u) * u) * y) := by rw [kk10 31 (by omega)]; exact h31_9
  have h32_10 : RV φ (ρ10 32) 5 ((x * (u * u)) - ((((v * v) - ((u * u) * u)) - (x * (u * u))) - (x * (u * u)))) := q10.up (by decide)
  refine lv_aload_n hx hb d_Sum_joinAcross_174 rfl (lv_at hl 0 rfl) ?_
  refine gm_get hx hb hW hown X u_Sum o24 rfl 0 (by decide) wf_Sum_40 (v := .ref (E.2.1 + 11)) rfl d_Sum_joinAcross_175 ?_
  refine lv_aload_n hx hb d_Sum_joinAcross_178 rfl (lv_at hl 0 rfl) ?_
  refine gm_get hx hb hW hown X u_Sum o24 rfl 3 (by decide) wf_Sum_19 (v := .ref (E.2.1 + 26)) rfl d_Sum_joinAcross_179 ?_
  refine lv_aload_n hx hb d_Sum_joinAcross_182 rfl (lv_at hl 0 rfl) ?_
  refine gm_get hx hb hW hown X u_Sum o24 rfl 9 (by decide) wf_Sum_37 (v := .ref (E.2.1 + 32)) rfl d_Sum_joinAcross_183 ?_
  refine lv_aload_n hx hb d_Sum_joinAcross_186 rfl (lv_at hl 0 rfl) ?_
  refine gm_get hx hb hW hown X u_Sum o24 rfl 6 (by decide) wf_Sum_28 (v := .ref (E.2.1 + 29)) rfl d_Sum_joinAcross_187 ?_
  refine gm_Vv hx hb hml hown hW X o11 (k_mul l I hf (by decide) (by decide) (by decide) h32_10 h29_10 (by decide)) (n := 3) ⟨⟨wl_Sum_66, wi_Mod_multiply, wsel_Mod_multiply, winit_Mod, wc_Mod_multiply⟩, by decide +kernel, ⟨Nat.le_of_ble_eq_true rfl, Nat.le_of_ble_eq_true rfl⟩, _, rfl, rfl⟩ rfl hl.1 rfl (Nat.le_of_ble_eq_true rfl) d_Sum_joinAcross_190 ⟨Nat.le_of_ble_eq_true rfl, Nat.le_of_ble_eq_true rfl⟩ (fun M1 H locs hp X => ?_)
  obtain ⟨ρ11, rfl, q11, kk11⟩ := hp
  have h28_11 : RV φ (ρ11 28) 10 u := by rw [kk11 28 (by omega) (by omega)]; exact h28_10
  have h29_11 : RV φ (ρ11 29) 10 v := by rw [kk11 29 (by omega) (by omega)]; exact h29_10
  have h27_11 : RV φ (ρ11 27) 1 (z * u) := by rw [kk11 27 (by omega) (by omega)]; exact h27_10
  have h30_11 : RV φ (ρ11 30) 1 (u * u) := by rw [kk11 30 (by omega) (by omega)]; exact h30_10
  have h25_11 : RV φ (ρ11 25) 4 ((((v * v) - ((u * u) * u)) - (x * (u * u))) - (x * (u * u))) := by rw [kk11 25 (by omega) (by omega)]; exact h25_10
  have h31_11 : RV φ (ρ11 31) 1 (((u * u) * u) * y) := by rw [kk11 31 (by omega) (by omega)]; exact h31_10
  have h32_11 : RV φ (ρ11 32) 5 ((x * (u * u)) - ((((v * v) - ((u * u) * u)) - (x * (u * u))) - (x * (u * u)))) := by rw [kk11 32 (by omega) (by omega)]; exact h32_10
  have h26_11 : RV φ (ρ11 26) 1 (((x * (u * u)) - ((((v * v) - ((u * u) * u)) - (x * (u * u))) - (x * (u * u)))) * v) := q11
  refine lv_aload_n hx hb d_Sum_joinAcross_193 rfl (lv_at hl 0 rfl) ?_
  refine gm_get hx hb hW hown X u_Sum o24 rfl 3 (by decide) wf_Sum_19 (v := .ref (E.2.1 + 26)) rfl d_Sum_joinAcross_194 ?_
  refine lv_aload_n hx hb d_Sum_joinAcross_197 rfl (lv_at hl 0 rfl) ?_
  refine gm_get hx hb hW hown X u_Sum o24 rfl 3 (by decide) wf_Sum_19 (v := .ref (E.2.1 + 26)) rfl d_Sum_joinAcross_198 ?_
  refine lv_aload_n hx hb d_Sum_joinAcross_201 rfl (lv_at hl 0 rfl) ?_
  refine gm_get hx hb hW hown X u_Sum o24 rfl 8 (by decide) wf_Sum_34 (v := .ref (E.2.1 + 31)) rfl d_Sum_joinAcross_202 ?_
  refine gm_Sv hx hb hml hown hW X (k_minus l hf.1 (by decide) (by decide) (by decide) h26_11 h31_11) (n := 3) ⟨⟨wl_Sum_73, ws_Lim_minus, winit_Lim, wc_Lim_minus⟩, by decide +kernel, Nat.le_of_ble_eq_true rfl, Nat.le_of_ble_eq_true rfl⟩ rfl hl.1 rfl (Nat.le_of_ble_eq_true rfl) d_Sum_joinAcross_205 ⟨Nat.le_of_ble_eq_true rfl, Nat.le_of_ble_eq_true rfl⟩ (fun M1 H locs hp X => ?_)
  obtain ⟨ρ12, rfl, q12, kk12⟩ := hp
  have h28_12 : RV φ (ρ12 28) 10 u := by rw [kk12 28 (by omega)]; exact h28_11
  have h29_12 : RV φ (ρ12 29) 10 v := by rw [kk12 29 (by omega)]; exact h29_11
  have h27_12 : RV φ (ρ12 27) 1 (z * u) := by rw [kk12 27 (by omega)]; exact h27_11
  have h30_12 : RV φ (ρ12 30) 1 (u * u) := by rw [kk12 30 (by omega)]; exact h30_11
  have h25_12 : RV φ (ρ12 25) 4 ((((v * v) - ((u * u) * u)) - (x * (u * u))) - (x * (u * u))) := by rw [kk12 25 (by omega)]; exact h25_11
  have h31_12 : RV φ (ρ12 31) 1 (((u * u) * u) * y) := by rw [kk12 31 (by omega)]; exact h31_11
  have h32_12 : RV φ (ρ12 32) 5 ((x * (u * u)) - ((((v * v) - ((u * u) * u)) - (x * (u * u))) - (x * (u * u)))) := by rw [kk12 32 (by omega)]; exact h32_11
  have h26_12 : RV φ (ρ12 26) 2 ((((x * (u * u)) - ((((v * v) - ((u * u) * u)) - (x * (u * u))) - (x * (u * u)))) * v) - (((u * u) * u) * y)) := q12.up (by decide)
  exact gm_vret hx hb hr hlk X ⟨_, rfl, h25_12, h26_12, h27_12, fun j hj => by rw [kk12 j (by omega), kk11 j (by omega) (by omega), kk10 j (by omega), kk9 j (by omega) (by omega), kk8 j (by omega), kk7 j (by omega), kk6 j (by omega), kk5 j (by omega) (by omega), kk4 j (by omega) (by omega), kk3 j (by omega) (by omega), kk2 j (by omega) (by omega), kk1 j (by omega) (by omega)]⟩ d_Sum_joinAcross_208
set_option maxHeartbeats 2000000 in
theorem k_Sum_join {F : Type} [Lean.Grind.CommRing F] {φ : Int → F} {inv : F → F} (l : Launch) (E : gm_E) (ad : Nat → Nat) (N : gm_M) (ρ : Nat → Nat → Int64) (fl : Nat → Int32) (hg : gE E ad) (hk : fk φ inv) {p q : Option (F × F)} {t : Nat} (hP : isP t) (hs : sumR φ ρ fl p) (hq : ptR φ ρ fl t q) : cv_ l y_Sum_join b_Sum_join 2 none { frames := 4, cells := 0, slots := 0, locals := 105 } E (cW E ad N ρ fl) [.ref (E.2.1 + 24), .ref (E.2.1 + t)] (fun M' => ∃ ρ' fl', M' = cW E ad N ρ' fl' ∧ sumR φ ρ' fl' (ec_add inv p q) ∧ kS ρ ρ' ∧ kF 24 fl fl') := by
  have hO := hP.o
  cases q with
  | none =>
    have hf := hk.fm
    have I := isM_P hg
    refine gm_met (by decide) (Nat.le_of_ble_eq_true rfl) (fun p e s m below meth c ls hx hb hml hr hlk hnm hown hW X hl => ?_)
    have hl : lv_has ls 2 [(0, .ref (E.2.1 + 24)), (1, .ref (E.2.1 + t))] := hl
    have h0 : fl t = 1 := hq
    refine lv_aload_n hx hb d_Sum_join_0 rfl (lv_at hl 1 rfl) ?_
    refine gm_get hx hb hW hown X u_Pnt (oP hP) rfl 2 (by decide) wf_Sum_60 (v := .int (fl t)) rfl d_Sum_join_1 ?_
    refine lv_if_eq (tgt := 8) hx hb d_Sum_join_4 (by decide) (fun c4 => ?_) (fun c4 => ?_)
    · exact absurd (h0.symm.trans c4) (by decide)
    · exact gm_vret hx hb hr hlk X ⟨ρ, fl, rfl, by rw [ec_none_add]; exact hs, kS.rf ρ, kF.rf _ _⟩ d_Sum_join_7
  | some b =>
    cases p with
    | none =>
      have hf := hk.fm
      have I := isM_P hg
      refine gm_met (by decide) (Nat.le_of_ble_eq_true rfl) (fun p e s m below meth c ls hx hb hml hr hlk hnm hown hW X hl => ?_)
      have hl : lv_has ls 2 [(0, .ref (E.2.1 + 24)), (1, .ref (E.2.1 + t))] := hl
      have h0 : fl 24 = 1 := hs
      refine lv_aload_n hx hb d_Sum_join_0 rfl (lv_at hl 1 rfl) ?_
      refine gm_get hx hb hW hown X u_Pnt (oP hP) rfl 2 (by decide) wf_Sum_60 (v := .int (fl t)) rfl d_Sum_join_1 ?_
      refine lv_if_eq (tgt := 8) hx hb d_Sum_join_4 (by decide) (fun c4 => ?_) (fun c4 => ?_)
      · refine lv_aload_n hx hb d_Sum_join_8 rfl (lv_at hl 0 rfl) ?_
        refine gm_get hx hb hW hown X u_Sum o24 rfl 1 (by decide) wf_Sum_9 (v := .int (fl 24)) rfl d_Sum_join_9 ?_
        refine lv_if_eq (tgt := 21) hx hb d_Sum_join_12 (by decide) (fun c12 => ?_) (fun c12 => ?_)
        · exact absurd (h0.symm.trans c12) (by decide)
        · refine lv_aload_n hx hb d_Sum_join_15 rfl (lv_at hl 0 rfl) ?_
          refine lv_aload_n hx hb d_Sum_join_16 rfl (lv_at hl 1 rfl) ?_
          refine gm_Vv hx hb hml hown hW X o24 (k_Sum_begin l E ad N ρ fl hg hk hP hq) (n := 1) ⟨⟨wl_Sum_63, wi_Sum_begin, wsel_Sum_begin, winit_Sum, wc_Sum_begin⟩, by decide +kernel, ⟨Nat.le_of_ble_eq_true rfl, Nat.le_of_ble_eq_true rfl⟩, _, rfl, rfl⟩ rfl hl.1 rfl (Nat.le_of_ble_eq_true rfl) d_Sum_join_17 ⟨Nat.le_of_ble_eq_true rfl, Nat.le_of_ble_eq_true rfl⟩ (fun M1 H locs hp X => ?_)
          exact gm_vret hx hb hr hlk X hp d_Sum_join_20
      · exact absurd hq.1 c4
    | some a =>
      have hf := hk.fm
      have I := isM_P hg
      refine gm_met (by decide) (Nat.le_of_ble_eq_true rfl) (fun p e s m below meth c ls hx hb hml hr hlk hnm hown hW X hl => ?_)
      have hl : lv_has ls 2 [(0, .ref (E.2.1 + 24)), (1, .ref (E.2.1 + t))] := hl
      obtain ⟨h0, ho, x, y, z, hX, hY, hZ, hj⟩ := id hs
      obtain ⟨hq0, hqo, hqx, hqy⟩ := id hq
      refine lv_aload_n hx hb d_Sum_join_0 rfl (lv_at hl 1 rfl) ?_
      refine gm_get hx hb hW hown X u_Pnt (oP hP) rfl 2 (by decide) wf_Sum_60 (v := .int (fl t)) rfl d_Sum_join_1 ?_
      refine lv_if_eq (tgt := 8) hx hb d_Sum_join_4 (by decide) (fun c4 => ?_) (fun c4 => ?_)
      · refine lv_aload_n hx hb d_Sum_join_8 rfl (lv_at hl 0 rfl) ?_
        refine gm_get hx hb hW hown X u_Sum o24 rfl 1 (by decide) wf_Sum_9 (v := .int (fl 24)) rfl d_Sum_join_9 ?_
        refine lv_if_eq (tgt := 21) hx hb d_Sum_join_12 (by decide) (fun c12 => ?_) (fun c12 => ?_)
        · refine lv_aload_n hx hb d_Sum_join_21 rfl (lv_at hl 0 rfl) ?_
          refine gm_get hx hb hW hown X u_Sum o24 rfl 0 (by decide) wf_Sum_40 (v := .ref (E.2.1 + 11)) rfl d_Sum_join_22 ?_
          refine lv_aload_n hx hb d_Sum_join_25 rfl (lv_at hl 0 rfl) ?_
          refine gm_get hx hb hW hown X u_Sum o24 rfl 7 (by decide) wf_Sum_31 (v := .ref (E.2.1 + 30)) rfl d_Sum_join_26 ?_
          refine lv_aload_n hx hb d_Sum_join_29 rfl (lv_at hl 0 rfl) ?_
          refine gm_get hx hb hW hown X u_Sum o24 rfl 4 (by decide) wf_Sum_22 (v := .ref (E.2.1 + 27)) rfl d_Sum_join_30 ?_
          refine lv_aload_n hx hb d_Sum_join_33 rfl (lv_at hl 0 rfl) ?_
          refine gm_get hx hb hW hown X u_Sum o24 rfl 4 (by decide) wf_Sum_22 (v := .ref (E.2.1 + 27)) rfl d_Sum_join_34 ?_
          refine gm_Vv hx hb hml hown hW X o11 (k_mul l I hf (by decide) (by decide) (by decide) hZ hZ (by decide)) (n := 3) ⟨⟨wl_Sum_66, wi_Mod_multiply, wsel_Mod_multiply, winit_Mod, wc_Mod_multiply⟩, by decide +kernel, ⟨Nat.le_of_ble_eq_true rfl, Nat.le_of_ble_eq_true rfl⟩, _, rfl, rfl⟩ rfl hl.1 rfl (Nat.le_of_ble_eq_true rfl) d_Sum_join_37 ⟨Nat.le_of_ble_eq_true rfl, Nat.le_of_ble_eq_true rfl⟩ (fun M1 H locs hp X => ?_)
          obtain ⟨ρ1, rfl, q1, kk1⟩ := hp
          have h25_1 : RV φ (ρ1 25) 9 x := by rw [kk1 25 (by omega) (by omega)]; exact hX
          have h26_1 : RV φ (ρ1 26) 9 y := by rw [kk1 26 (by omega) (by omega)]; exact hY
          have h27_1 : RV φ (ρ1 27) 2 z := by rw [kk1 27 (by omega) (by omega)]; exact hZ
          have st1_1 : ST φ nP (ρ1 (t + 1)) b.1 := by rw [kk1 (t + 1) (by omega) (by omega)]; exact hqx
          have st2_1 : ST φ nP (ρ1 (t + 2)) b.2 := by rw [kk1 (t + 2) (by omega) (by omega)]; exact hqy
          have h30_1 : RV φ (ρ1 30) 1 (z * z) := q1
          refine lv_aload_n hx hb d_Sum_join_40 rfl (lv_at hl 0 rfl) ?_
          refine gm_get hx hb hW hown X u_Sum o24 rfl 0 (by decide) wf_Sum_40 (v := .ref (E.2.1 + 11)) rfl d_Sum_join_41 ?_
          refine lv_aload_n hx hb d_Sum_join_44 rfl (lv_at hl 0 rfl) ?_
          refine gm_get hx hb hW hown X u_Sum o24 rfl 5 (by decide) wf_Sum_25 (v := .ref (E.2.1 + 28)) rfl d_Sum_join_45 ?_
          refine lv_aload_n hx hb d_Sum_join_48 rfl (lv_at hl 1 rfl) ?_
          refine gm_get hx hb hW hown X u_Pnt (oP hP) rfl 0 (by decide) wf_Sum_72 (v := .ref (E.2.1 + (t + 1))) rfl d_Sum_join_49 ?_
          refine lv_aload_n hx hb d_Sum_join_52 rfl (lv_at hl 0 rfl) ?_
          refine gm_get hx hb hW hown X u_Sum o24 rfl 7 (by decide) wf_Sum_31 (v := .ref (E.2.1 + 30)) rfl d_Sum_join_53 ?_
          refine gm_Vv hx hb hml hown hW X o11 (k_mul l I hf (by decide) (isP.x hP) (by decide) st1_1.rv h30_1 (by decide)) (n := 3) ⟨⟨wl_Sum_66, wi_Mod_multiply, wsel_Mod_multiply, winit_Mod, wc_Mod_multiply⟩, by decide +kernel, ⟨Nat.le_of_ble_eq_true rfl, Nat.le_of_ble_eq_true rfl⟩, _, rfl, rfl⟩ rfl hl.1 rfl (Nat.le_of_ble_eq_true rfl) d_Sum_join_56 ⟨Nat.le_of_ble_eq_true rfl, Nat.le_of_ble_eq_true rfl⟩ (fun M1 H locs hp X => ?_)
          obtain ⟨ρ2, rfl, q2, kk2⟩ := hp
          have h25_2 : RV φ (ρ2 25) 9 x := by rw [kk2 25 (by omega) (by omega)]; exact h25_1
          have h26_2 : RV φ (ρ2 26) 9 y := by rw [kk2 26 (by omega) (by omega)]; exact h26_1
          have h27_2 : RV φ (ρ2 27) 2 z := by rw [kk2 27 (by omega) (by omega)]; exact h27_1
          have h30_2 : RV φ (ρ2 30) 1 (z * z) := by rw [kk2 30 (by omega) (by omega)]; exact h30_1
          have st1_2 : ST φ nP (ρ2 (t + 1)) b.1 := by rw [kk2 (t + 1) (by omega) (by omega)]; exact st1_1
          have st2_2 : ST φ nP (ρ2 (t + 2)) b.2 := by rw [kk2 (t + 2) (by omega) (by omega)]; exact st2_1
          have h28_2 : RV φ (ρ2 28) 1 (b.1 * (z * z)) := q2
          refine lv_aload_n hx hb d_Sum_join_59 rfl (lv_at hl 0 rfl) ?_
          refine gm_get hx hb hW hown X u_Sum o24 rfl 5 (by decide) wf_Sum_25 (v := .ref (E.2.1 + 28)) rfl d_Sum_join_60 ?_
          refine lv_aload_n hx hb d_Sum_join_63 rfl (lv_at hl 0 rfl) ?_
          refine gm_get hx hb hW hown X u_Sum o24 rfl 5 (by decide) wf_Sum_25 (v := .ref (E.2.1 + 28)) rfl d_Sum_join_64 ?_
          refine lv_aload_n hx hb d_Sum_join_67 rfl (lv_at hl 0 rfl) ?_
          refine gm_get hx hb hW hown X u_Sum o24 rfl 2 (by decide) wf_Sum_15 (v := .ref (E.2.1 + 25)) rfl d_Sum_join_68 ?_
          refine gm_Sv hx hb hml hown hW X (k_minus l hf.1 (by decide) (by decide) (by decide) h28_2 h25_2) (n := 3) ⟨⟨wl_Sum_73, ws_Lim_minus, winit_Lim, wc_Lim_minus⟩, by decide +kernel, Nat.le_of_ble_eq_true rfl, Nat.le_of_ble_eq_true rfl⟩ rfl hl.1 rfl (Nat.le_of_ble_eq_true rfl) d_Sum_join_71 ⟨Nat.le_of_ble_eq_true rfl, Nat.le_of_ble_eq_true rfl⟩ (fun M1 H locs hp X => ?_)
          obtain ⟨ρ3, rfl, q3, kk3⟩ := hp
          have h25_3 : RV φ (ρ3 25) 9 x := by rw [kk3 25 (by omega)]; exact h25_2
          have h26_3 : RV φ (ρ3 26) 9 y := by rw [kk3 26 (by omega)]; exact h26_2
          have h27_3 : RV φ (ρ3 27) 2 z := by rw [kk3 27 (by omega)]; exact h27_2
          have h30_3 : RV φ (ρ3 30) 1 (z * z) := by rw [kk3 30 (by omega)]; exact h30_2
          have st1_3 : ST φ nP (ρ3 (t + 1)) b.1 := by rw [kk3 (t + 1) (by omega)]; exact st1_2
          have st2_3 : ST φ nP (ρ3 (t + 2)) b.2 := by rw [kk3 (t + 2) (by omega)]; exact st2_2
          have h28_3 : RV φ (ρ3 28) 10 ((b.1 * (z * z)) - x) := q3.up (by decide)
          refine lv_aload_n hx hb d_Sum_join_74 rfl (lv_at hl 0 rfl) ?_
          refine gm_get hx hb hW hown X u_Sum o24 rfl 0 (by decide) wf_Sum_40 (v := .ref (E.2.1 + 11)) rfl d_Sum_join_75 ?_
          refine lv_aload_n hx hb d_Sum_join_78 rfl (lv_at hl 0 rfl) ?_
          refine gm_get hx hb hW hown X u_Sum o24 rfl 6 (by decide) wf_Sum_28 (v := .ref (E.2.1 + 29)) rfl d_Sum_join_79 ?_
          refine lv_aload_n hx hb d_Sum_join_82 rfl (lv_at hl 0 rfl) ?_
          refine gm_get hx hb hW hown X u_Sum o24 rfl 7 (by decide) wf_Sum_31 (v := .ref (E.2.1 + 30)) rfl d_Sum_join_83 ?_
          refine lv_aload_n hx hb d_Sum_join_86 rfl (lv_at hl 0 rfl) ?_
          refine gm_get hx hb hW hown X u_Sum o24 rfl 4 (by decide) wf_Sum_22 (v := .ref (E.2.1 + 27)) rfl d_Sum_join_87 ?_
          refine gm_Vv hx hb hml hown hW X o11 (k_mul l I hf (by decide) (by decide) (by decide) h30_3 h27_3 (by decide)) (n := 3) ⟨⟨wl_Sum_66, wi_Mod_multiply, wsel_Mod_multiply, winit_Mod, wc_Mod_multiply⟩, by decide +kernel, ⟨Nat.le_of_ble_eq_true rfl, Nat.le_of_ble_eq_true rfl⟩, _, rfl, rfl⟩ rfl hl.1 rfl (Nat.le_of_ble_eq_true rfl) d_Sum_join_90 ⟨Nat.le_of_ble_eq_true rfl, Nat.le_of_ble_eq_true rfl⟩ (fun M1 H locs hp X => ?_)
          obtain ⟨ρ4, rfl, q4, kk4⟩ := hp
          have h25_4 : RV φ (ρ4 25) 9 x := by rw [kk4 25 (by omega) (by omega)]; exact h25_3
          have h26_4 : RV φ (ρ4 26) 9 y := by rw [kk4 26 (by omega) (by omega)]; exact h26_3
          have h27_4 : RV φ (ρ4 27) 2 z := by rw [kk4 27 (by omega) (by omega)]; exact h27_3
          have h30_4 : RV φ (ρ4 30) 1 (z * z) := by rw [kk4 30 (by omega) (by omega)]; exact h30_3
          have h28_4 : RV φ (ρ4 28) 10 ((b.1 * (z * z)) - x) := by rw [kk4 28 (by omega) (by omega)]; exact h28_3
          have st1_4 : ST φ nP (ρ4 (t + 1)) b.1 := by rw [kk4 (t + 1) (by omega) (by omega)]; exact st1_3
          have st2_4 : ST φ nP (ρ4 (t + 2)) b.2 := by rw [kk4 (t + 2) (by omega) (by omega)]; exact st2_3
          have h29_4 : RV φ (ρ4 29) 1 ((z * z) * z) := q4
          refine lv_aload_n hx hb d_Sum_join_93 rfl (lv_at hl 0 rfl) ?_
          refine gm_get hx hb hW hown X u_Sum o24 rfl 0 (by decide) wf_Sum_40 (v := .ref (E.2.1 + 11)) rfl d_Sum_join_94 ?_
          refine lv_aload_n hx hb d_Sum_join_97 rfl (lv_at hl 0 rfl) ?_
          refine gm_get hx hb hW hown X u_Sum o24 rfl 6 (by decide) wf_Sum_28 (v := .ref (E.2.1 + 29)) rfl d_Sum_join_98 ?_
          refine lv_aload_n hx hb d_Sum_join_101 rfl (lv_at hl 0 rfl) ?_
          refine gm_get hx hb hW hown X u_Sum o24 rfl 6 (by decide) wf_Sum_28 (v := .ref (E.2.1 + 29)) rfl d_Sum_join_102 ?_
          refine lv_aload_n hx hb d_Sum_join_105 rfl (lv_at hl 1 rfl) ?_
          refine gm_get hx hb hW hown X u_Pnt (oP hP) rfl 1 (by decide) wf_Sum_78 (v := .ref (E.2.1 + (t + 2))) rfl d_Sum_join_106 ?_
          refine gm_Vv hx hb hml hown hW X o11 (k_mul l I hf (by decide) (by decide) (isP.y hP) h29_4 st2_4.rv (by decide)) (n := 3) ⟨⟨wl_Sum_66, wi_Mod_multiply, wsel_Mod_multiply, winit_Mod, wc_Mod_multiply⟩, by decide +kernel, ⟨Nat.le_of_ble_eq_true rfl, Nat.le_of_ble_eq_true rfl⟩, _, rfl, rfl⟩ rfl hl.1 rfl (Nat.le_of_ble_eq_true rfl) d_Sum_join_109 ⟨Nat.le_of_ble_eq_true rfl, Nat.le_of_ble_eq_true rfl⟩ (fun M1 H locs hp X => ?_)
          obtain ⟨ρ5, rfl, q5, kk5⟩ := hp
          have h25_5 : RV φ (ρ5 25) 9 x := by rw [kk5 25 (by omega) (by omega)]; exact h25_4
          have h26_5 : RV φ (ρ5 26) 9 y := by rw [kk5 26 (by omega) (by omega)]; exact h26_4
          have h27_5 : RV φ (ρ5 27) 2 z := by rw [kk5 27 (by omega) (by omega)]; exact h27_4
          have h30_5 : RV φ (ρ5 30) 1 (z * z) := by rw [kk5 30 (by omega) (by omega)]; exact h30_4
          have h28_5 : RV φ (ρ5 28) 10 ((b.1 * (z * z)) - x) := by rw [kk5 28 (by omega) (by omega)]; exact h28_4
          have st1_5 : ST φ nP (ρ5 (t + 1)) b.1 := by rw [kk5 (t + 1) (by omega) (by omega)]; exact st1_4
          have st2_5 : ST φ nP (ρ5 (t + 2)) b.2 := by rw [kk5 (t + 2) (by omega) (by omega)]; exact st2_4
          have h29_5 : RV φ (ρ5 29) 1 (((z * z) * z) * b.2) := q5
          refine lv_aload_n hx hb d_Sum_join_112 rfl (lv_at hl 0 rfl) ?_
          refine gm_get hx hb hW hown X u_Sum o24 rfl 6 (by decide) wf_Sum_28 (v := .ref (E.2.1 + 29)) rfl d_Sum_join_113 ?_
          refine lv_aload_n hx hb d_Sum_join_116 rfl (lv_at hl 0 rfl) ?_
          refine gm_get hx hb hW hown X u_Sum o24 rfl 6 (by decide) wf_Sum_28 (v := .ref (E.2.1 + 29)) rfl d_Sum_join_117 ?_
          refine lv_aload_n hx hb d_Sum_join_120 rfl (lv_at hl 0 rfl) ?_
          refine gm_get hx hb hW hown X u_Sum o24 rfl 3 (by decide) wf_Sum_19 (v := .ref (E.2.1 + 26)) rfl d_Sum_join_121 ?_
          refine gm_Sv hx hb hml hown hW X (k_minus l hf.1 (by decide) (by decide) (by decide) h29_5 h26_5) (n := 3) ⟨⟨wl_Sum_73, ws_Lim_minus, winit_Lim, wc_Lim_minus⟩, by decide +kernel, Nat.le_of_ble_eq_true rfl, Nat.le_of_ble_eq_true rfl⟩ rfl hl.1 rfl (Nat.le_of_ble_eq_true rfl) d_Sum_join_124 ⟨Nat.le_of_ble_eq_true rfl, Nat.le_of_ble_eq_true rfl⟩ (fun M1 H locs hp X => ?_)
          obtain ⟨ρ6, rfl, q6, kk6⟩ := hp
          have h25_6 : RV φ (ρ6 25) 9 x := by rw [kk6 25 (by omega)]; exact h25_5
          have h26_6 : RV φ (ρ6 26) 9 y := by rw [kk6 26 (by omega)]; exact h26_5
          have h27_6 : RV φ (ρ6 27) 2 z := by rw [kk6 27 (by omega)]; exact h27_5
          have h30_6 : RV φ (ρ6 30) 1 (z * z) := by rw [kk6 30 (by omega)]; exact h30_5
          have h28_6 : RV φ (ρ6 28) 10 ((b.1 * (z * z)) - x) := by rw [kk6 28 (by omega)]; exact h28_5
          have st1_6 : ST φ nP (ρ6 (t + 1)) b.1 := by rw [kk6 (t + 1) (by omega)]; exact st1_5
          have st2_6 : ST φ nP (ρ6 (t + 2)) b.2 := by rw [kk6 (t + 2) (by omega)]; exact st2_5
          have h29_6 : RV φ (ρ6 29) 10 ((((z * z) * z) * b.2) - y) := q6.up (by decide)
          refine lv_aload_n hx hb d_Sum_join_127 rfl (lv_at hl 0 rfl) ?_
          refine gm_get hx hb hW hown X u_Sum o24 rfl 0 (by decide) wf_Sum_40 (v := .ref (E.2.1 + 11)) rfl d_Sum_join_128 ?_
          refine lv_aload_n hx hb d_Sum_join_131 rfl (lv_at hl 0 rfl) ?_
          refine gm_get hx hb hW hown X u_Sum o24 rfl 5 (by decide) wf_Sum_25 (v := .ref (E.2.1 + 28)) rfl d_Sum_join_132 ?_
          have hB : jr b b.1 b.2 1 := ⟨fun e => hk.1.2.2.1 e, by grind, by grind⟩
          have hJ := jr_eq hk.1 hj hB
          have eU : ((b.1 * (z * z)) - x) = b.1 * (z * z) - x * (1 * 1) := by grind
          have eV : ((((z * z) * z) * b.2) - y) = b.2 * (z * z * z) - y * (1 * 1 * 1) := by grind
          refine gm_Vi hx hb hml hown hW X o11 (k_isMultiple l I hf (by decide) h28_6 (by decide)) (n := 1) ⟨⟨wl_Sum_79, wi_Mod_isMultiple, wsel_Mod_isMultiple, winit_Mod, wc_Mod_isMultiple⟩, by decide +kernel, ⟨Nat.le_of_ble_eq_true rfl, Nat.le_of_ble_eq_true rfl⟩, _, rfl, rfl⟩ rfl hl.1 rfl (Nat.le_of_ble_eq_true rfl) d_Sum_join_135 ⟨Nat.le_of_ble_eq_true rfl, Nat.le_of_ble_eq_true rfl⟩ (fun r M1 H locs hp X => ?_)
          obtain ⟨ρ7, rfl, q7, kk7⟩ := hp
          have h25_7 : RV φ (ρ7 25) 9 x := by rw [kk7 25 (by omega) (by omega)]; exact h25_6
          have h26_7 : RV φ (ρ7 26) 9 y := by rw [kk7 26 (by omega) (by omega)]; exact h26_6
          have h27_7 : RV φ (ρ7 27) 2 z := by rw [kk7 27 (by omega) (by omega)]; exact h27_6
          have h30_7 : RV φ (ρ7 30) 1 (z * z) := by rw [kk7 30 (by omega) (by omega)]; exact h30_6
          have h28_7 : RV φ (ρ7 28) 10 ((b.1 * (z * z)) - x) := by rw [kk7 28 (by omega) (by omega)]; exact h28_6
          have h29_7 : RV φ (ρ7 29) 10 ((((z * z) * z) * b.2) - y) := by rw [kk7 29 (by omega) (by omega)]; exact h29_6
          have st1_7 : ST φ nP (ρ7 (t + 1)) b.1 := by rw [kk7 (t + 1) (by omega) (by omega)]; exact st1_6
          have st2_7 : ST φ nP (ρ7 (t + 2)) b.2 := by rw [kk7 (t + 2) (by omega) (by omega)]; exact st2_6
          refine lv_if_ne (tgt := 148) hx hb d_Sum_join_138 (by decide) (fun c138 => ?_) (fun c138 => ?_)
          · have hu : a.1 = b.1 := by
              rcases q7 with q | q
              · exact hJ.1.mp (eU ▸ q.2)
              · exact absurd q.1 c138
            refine lv_aload_n hx hb d_Sum_join_148 rfl (lv_at hl 0 rfl) ?_
            refine gm_get hx hb hW hown X u_Sum o24 rfl 0 (by decide) wf_Sum_40 (v := .ref (E.2.1 + 11)) rfl d_Sum_join_149 ?_
            refine lv_aload_n hx hb d_Sum_join_152 rfl (lv_at hl 0 rfl) ?_
            refine gm_get hx hb hW hown X u_Sum o24 rfl 6 (by decide) wf_Sum_28 (v := .ref (E.2.1 + 29)) rfl d_Sum_join_153 ?_
            refine gm_Vi hx hb hml hown hW X o11 (k_isMultiple l I hf (by decide) h29_7 (by decide)) (n := 1) ⟨⟨wl_Sum_79, wi_Mod_isMultiple, wsel_Mod_isMultiple, winit_Mod, wc_Mod_isMultiple⟩, by decide +kernel, ⟨Nat.le_of_ble_eq_true rfl, Nat.le_of_ble_eq_true rfl⟩, _, rfl, rfl⟩ rfl hl.1 rfl (Nat.le_of_ble_eq_true rfl) d_Sum_join_156 ⟨Nat.le_of_ble_eq_true rfl, Nat.le_of_ble_eq_true rfl⟩ (fun r M1 H locs hp X => ?_)
            obtain ⟨ρ8, rfl, q8, kk8⟩ := hp
            have h25_8 : RV φ (ρ8 25) 9 x := by rw [kk8 25 (by omega) (by omega)]; exact h25_7
            have h26_8 : RV φ (ρ8 26) 9 y := by rw [kk8 26 (by omega) (by omega)]; exact h26_7
            have h27_8 : RV φ (ρ8 27) 2 z := by rw [kk8 27 (by omega) (by omega)]; exact h27_7
            have h30_8 : RV φ (ρ8 30) 1 (z * z) := by rw [kk8 30 (by omega) (by omega)]; exact h30_7
            have h28_8 : RV φ (ρ8 28) 10 ((b.1 * (z * z)) - x) := by rw [kk8 28 (by omega) (by omega)]; exact h28_7
            have h29_8 : RV φ (ρ8 29) 10 ((((z * z) * z) * b.2) - y) := by rw [kk8 29 (by omega) (by omega)]; exact h29_7
            have st1_8 : ST φ nP (ρ8 (t + 1)) b.1 := by rw [kk8 (t + 1) (by omega) (by omega)]; exact st1_7
            have st2_8 : ST φ nP (ρ8 (t + 2)) b.2 := by rw [kk8 (t + 2) (by omega) (by omega)]; exact st2_7
            refine lv_if_eq (tgt := 169) hx hb d_Sum_join_159 (by decide) (fun c159 => ?_) (fun c159 => ?_)
            · have hv : ¬ a.2 = b.2 := by
                rcases q8 with q | q
                · exact absurd (q.1.symm.trans c159) (by decide)
                · exact fun e => q.2 (eV ▸ hJ.2.mpr e)
              refine lv_aload_n hx hb d_Sum_join_169 rfl (lv_at hl 0 rfl) ?_
              refine lv_iconst (v := 1) hx hb d_Sum_join_170 (by decide) ?_
              refine gm_put hx hb hW hown X u_Sum t_Sum t_Sum_ok n_Sum o24 (cw_ge _) rfl 1 (by decide) wf_Sum_9 rfl (ty := .boolean) (v := .int 1) (by decide) rfl rfl (Nat.le_of_ble_eq_true rfl) d_Sum_join_171 (fun H locs X => ?_)
              have X : gx E (cW E ad N ρ8 (va_up fl 24 1)) s H locs := by rw [← cw_f24 1]; exact X
              obtain ⟨fl9, hfl9⟩ : ∃ x, x = va_up fl 24 1 := ⟨_, rfl⟩
              rw [← hfl9] at X
              exact gm_vret hx hb hr hlk X ⟨_, _, rfl, by rw [ec_add_ng inv hu hv]; show fl9 24 = 1; rw [hfl9, vu_s], fun j hj => by rw [kk8 j (by omega) (by omega), kk7 j (by omega) (by omega), kk6 j (by omega), kk5 j (by omega) (by omega), kk4 j (by omega) (by omega), kk3 j (by omega), kk2 j (by omega) (by omega), kk1 j (by omega) (by omega)], fun j hj => by rw [hfl9, vu_n hj]⟩ d_Sum_join_174
            · have hv : a = b := by
                rcases q8 with q | q
                · exact Prod.ext hu (hJ.2.mp (eV ▸ q.2))
                · exact absurd q.1 c159
              have hk0 : kS ρ ρ8 := fun j hj => by rw [kk8 j (by omega) (by omega), kk7 j (by omega) (by omega), kk6 j (by omega), kk5 j (by omega) (by omega), kk4 j (by omega) (by omega), kk3 j (by omega), kk2 j (by omega) (by omega), kk1 j (by omega) (by omega)]
              have hs2 : sumR φ ρ8 fl (some a) := ⟨h0, ho, x, y, z, h25_8, h26_8, h27_8, hj⟩
              refine lv_aload_n hx hb d_Sum_join_162 rfl (lv_at hl 0 rfl) ?_
              refine gm_Vv hx hb hml hown hW X o24 (k_Sum_twice l E ad N ρ8 fl hg hk hs2) (n := 0) ⟨⟨wl_Sum_47, wi_Sum_twice, wsel_Sum_twice, winit_Sum, wc_Sum_twice⟩, by decide +kernel, ⟨Nat.le_of_ble_eq_true rfl, Nat.le_of_ble_eq_true rfl⟩, _, rfl, rfl⟩ rfl hl.1 rfl (Nat.le_of_ble_eq_true rfl) d_Sum_join_163 ⟨Nat.le_of_ble_eq_true rfl, Nat.le_of_ble_eq_true rfl⟩ (fun M1 H locs hp X => ?_)
              obtain ⟨ρz, rfl, qz, oz⟩ := hp
              refine lv_goto (tgt := 174) hx hb d_Sum_join_166 (by decide) ?_
              exact gm_vret hx hb hr hlk X ⟨_, _, rfl, by rw [← hv]; exact qz, hk0.tr oz, kF.rf _ _⟩ d_Sum_join_174
          · have hu : ¬ a.1 = b.1 := by
              rcases q7 with q | q
              · rw [q.1] at c138
                exact absurd c138 (by decide)
              · exact fun e => q.2 (eU ▸ hJ.1.mpr e)
            have hk0 : kS ρ ρ7 := fun j hj => by rw [kk7 j (by omega) (by omega), kk6 j (by omega), kk5 j (by omega) (by omega), kk4 j (by omega) (by omega), kk3 j (by omega), kk2 j (by omega) (by omega), kk1 j (by omega) (by omega)]
            refine lv_aload_n hx hb d_Sum_join_141 rfl (lv_at hl 0 rfl) ?_
            refine gm_Vv hx hb hml hown hW X o24 (k_Sum_joinAcross l E ad N ρ7 fl hg hk h25_7 h26_7 h27_7 h28_7 h29_7) (n := 0) ⟨⟨wl_Sum_83, wi_Sum_joinAcross, wsel_Sum_joinAcross, winit_Sum, wc_Sum_joinAcross⟩, by decide +kernel, ⟨Nat.le_of_ble_eq_true rfl, Nat.le_of_ble_eq_true rfl⟩, _, rfl, rfl⟩ rfl hl.1 rfl (Nat.le_of_ble_eq_true rfl) d_Sum_join_142 ⟨Nat.le_of_ble_eq_true rfl, Nat.le_of_ble_eq_true rfl⟩ (fun M1 H locs hp X => ?_)
            obtain ⟨ρz, rfl, q25, q26, q27, oz⟩ := hp
            refine lv_goto (tgt := 174) hx hb d_Sum_join_145 (by decide) ?_
            refine gm_vret hx hb hr hlk X ⟨_, _, rfl, ?_, hk0.tr oz, kF.rf _ _⟩ d_Sum_join_174
            rw [ec_add_ne inv hu]
            refine sumR.jr h0 (ec_add_OK hk.1 (p := some a) (q := some b) (fun _ e => Option.some.inj e ▸ ho) (fun _ e => Option.some.inj e ▸ hqo) _ (ec_add_ne inv hu)) (q25.up (by decide)) (q26.up (by decide)) (q27.up (by decide)) (jr_ad hk.1 hj hB hu (B := x) (A := y) (by grind) (by grind) rfl rfl) ?_ ?_ ?_ <;> grind
        · exact absurd h0 c12
      · exact absurd hq.1 c4
