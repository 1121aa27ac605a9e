/-! PointBenchModel: lay, lift, show, add, times, same, sign, verify: written by wip/gen/mdl5.py -/
set_option maxHeartbeats 4000000 in
theorem r_Mdl_lay_ok {F G : Type} [Lean.Grind.CommRing F] [Lean.Grind.CommRing G] {φ : Int → F} {inv : F → F} {ψ : Int → G} (l : Launch) (E : gm_E) (N : gm_M) (τ : Nat → Nat → Int32) (cd : Int32) (hk : fk φ inv) {Ri : F} (hR : φ (tq 8) * Ri = 1) (hgN : fm ψ nN) {Si : G} (hS : ψ (tq 8) * Si = 1) (hr : isR φ nP 99 τ) (hrN : isR ψ nN 107 τ) (h7 : MV φ nP (τ 54) 7) {t : Nat} (h_t : t < 4) {a : Nat} (h_a : a < 8) {b : Nat} (h_b : b < 8)  : ci_ l y_Mdl_lay b_Mdl_lay 4 (some .boolean) { frames := 4, cells := 0, slots := 0, locals := 95 } E (mW E N τ cd) [.ref (E.2.1 + 53), .int (nI t), .int (nI a), .int (nI b)] (fun r M' => ∃ τ', M' = mW E N τ' 0 ∧ ((r = 0 ∧ ¬ ((IV (τ (80 + a)) 8 : Int) < nP ∧ (IV (τ (80 + b)) 8 : Int) < nP ∧ (φ (IV (τ (80 + b)) 8)) * (φ (IV (τ (80 + b)) 8)) = sqV (φ (IV (τ (80 + a)) 8))) ∧ kMn 0 0 τ τ') ∨ (r = 1 ∧ ((IV (τ (80 + a)) 8 : Int) < nP ∧ (IV (τ (80 + b)) 8 : Int) < nP ∧ (φ (IV (τ (80 + b)) 8)) * (φ (IV (τ (80 + b)) 8)) = sqV (φ (IV (τ (80 + a)) 8))) ∧ mpR φ τ' (115 + 4 * t) (some ((φ (IV (τ (80 + a)) 8)), (φ (IV (τ (80 + b)) 8)))) ∧ kMp (115 + 4 * t) τ τ'))) := by
  have hf := hk.fm
  have hpP := rPl_P E
  have hpN := rPl_N E
  refine gm_met (by decide) (Nat.le_of_ble_eq_true rfl) (fun p e s m below meth c ls hx hb hml hr2 hlk hnm hown hW X hl => ?_)
  have hl : lv_has ls 4 [(0, .ref (E.2.1 + 53)), (1, .int (nI t)), (2, .int (nI a)), (3, .int (nI b))] := hl
  refine lv_aload_n hx hb d_Mdl_lay_0 rfl (lv_at hl 0 rfl) ?_
  refine lv_iload_n hx hb d_Mdl_lay_1 rfl (lv_at hl 1 rfl) ?_
  refine lv_iconst (v := 3) hx hb d_Mdl_lay_2 (by decide) ?_
  refine gm_Si hx hb hml hown hW X (r_Mdl_in_4 l E N τ cd) (n := 2) ⟨⟨wl_Mdl_164, ws_Mdl_in, winit_Mdl, wc_Mdl_in⟩, by decide +kernel, Nat.le_of_ble_eq_true rfl, Nat.le_of_ble_eq_true rfl⟩ rfl hl.1 rfl (Nat.le_of_ble_eq_true rfl) d_Mdl_lay_3 ⟨Nat.le_of_ble_eq_true rfl, Nat.le_of_ble_eq_true rfl⟩ (fun r0 M1 H locs hp X => ?_)
  rw [hp.1] at X
  have hz0 : r0 = 1 := by rcases hp.2 with h | h; exact h.1; exact absurd ⟨t, h_t, rfl⟩ h.2
  refine lv_if_eq (tgt := 31) hx hb d_Mdl_lay_6 (by decide) (fun c9 => absurd (hz0.symm.trans c9) (by decide)) (fun _ => ?_)
  refine lv_iload_n hx hb d_Mdl_lay_9 rfl (lv_at hl 2 rfl) ?_
  refine lv_bipush (v := 7) hx hb d_Mdl_lay_10 (by decide) ?_
  refine gm_Si hx hb hml hown hW X (r_Mdl_in_8 l E N τ cd) (n := 2) ⟨⟨wl_Mdl_164, ws_Mdl_in, winit_Mdl, wc_Mdl_in⟩, by decide +kernel, Nat.le_of_ble_eq_true rfl, Nat.le_of_ble_eq_true rfl⟩ rfl hl.1 rfl (Nat.le_of_ble_eq_true rfl) d_Mdl_lay_12 ⟨Nat.le_of_ble_eq_true rfl, Nat.le_of_ble_eq_true rfl⟩ (fun r1 M1 H locs hp X => ?_)
  rw [hp.1] at X
  have hz1 : r1 = 1 := by rcases hp.2 with h | h; exact h.1; exact absurd ⟨a, h_a, rfl⟩ h.2
  refine lv_if_eq (tgt := 31) hx hb d_Mdl_lay_15 (by decide) (fun c9 => absurd (hz1.symm.trans c9) (by decide)) (fun _ => ?_)
  refine lv_iload_n hx hb d_Mdl_lay_18 rfl (lv_at hl 3 rfl) ?_
  refine lv_bipush (v := 7) hx hb d_Mdl_lay_19 (by decide) ?_
  refine gm_Si hx hb hml hown hW X (r_Mdl_in_8 l E N τ cd) (n := 2) ⟨⟨wl_Mdl_164, ws_Mdl_in, winit_Mdl, wc_Mdl_in⟩, by decide +kernel, Nat.le_of_ble_eq_true rfl, Nat.le_of_ble_eq_true rfl⟩ rfl hl.1 rfl (Nat.le_of_ble_eq_true rfl) d_Mdl_lay_21 ⟨Nat.le_of_ble_eq_true rfl, Nat.le_of_ble_eq_true rfl⟩ (fun r2 M1 H locs hp X => ?_)
  rw [hp.1] at X
  have hz2 : r2 = 1 := by rcases hp.2 with h | h; exact h.1; exact absurd ⟨b, h_b, rfl⟩ h.2
  refine lv_if_eq (tgt := 31) hx hb d_Mdl_lay_24 (by decide) (fun c9 => absurd (hz2.symm.trans c9) (by decide)) (fun _ => ?_)
  refine lv_iconst (v := 1) hx hb d_Mdl_lay_27 (by decide) ?_
  refine lv_goto (tgt := 32) hx hb d_Mdl_lay_28 (by decide) ?_
  refine gm_Vi hx hb hml hown hW X m53 (r_Mdl_good_1 l E N τ cd) (n := 1) ⟨⟨wl_Mdl_168, wi_Mdl_good, wsel_Mdl_good, winit_Mdl, wc_Mdl_good⟩, by decide +kernel, ⟨Nat.le_of_ble_eq_true rfl, Nat.le_of_ble_eq_true rfl⟩, _, rfl, rfl⟩ rfl hl.1 rfl (Nat.le_of_ble_eq_true rfl) d_Mdl_lay_32 ⟨Nat.le_of_ble_eq_true rfl, Nat.le_of_ble_eq_true rfl⟩ (fun r9 M1 H locs hp X => ?_)
  rw [hp.1] at X
  have hr9 := hp.2
  refine lv_if_ne (tgt := 40) hx hb d_Mdl_lay_35 (by decide) (fun _ => ?_) (fun c9 => absurd (hr9.symm.trans c9) (by decide))
  have hm : (IV (τ 100) 8 : Int) = nP := hr.1
  refine lv_aload_n hx hb d_Mdl_lay_40 rfl (lv_at hl 0 rfl) ?_
  refine lv_aload_n hx hb d_Mdl_lay_41 rfl (lv_at hl 0 rfl) ?_
  refine gm_get hx hb hW hown X u_Mdl m53 rfl 15 (by decide) wf_Mdl_103 (v := .ref (E.2.1 + 79)) rfl d_Mdl_lay_42 ?_
  refine lv_iload_n hx hb d_Mdl_lay_45 rfl (lv_at hl 2 rfl) ?_
  refine gm_aald2 hx hb X (k := a) (t := E.2.1 + (80 + a)) m79 rfl rfl ⟨h_a, by decide⟩ (if_pos h_a) d_Mdl_lay_46 ?_
  refine gm_Vi hx hb hml hown hW X m53 (r_Mdl_square l E N τ 0 hk hR hgN hS hr hrN h7 (a := 80 + a) (by omega)) (n := 1) ⟨⟨wl_Mdl_181, wi_Mdl_square, wsel_Mdl_square, winit_Mdl, wc_Mdl_square⟩, by decide +kernel, ⟨Nat.le_of_ble_eq_true rfl, Nat.le_of_ble_eq_true rfl⟩, _, rfl, rfl⟩ rfl hl.1 rfl (Nat.le_of_ble_eq_true rfl) d_Mdl_lay_47 ⟨Nat.le_of_ble_eq_true rfl, Nat.le_of_ble_eq_true rfl⟩ (fun rs M1 H locs hp X => ?_)
  obtain ⟨τ1, rfl, q1, kk1⟩ := hp
  have R_1 : isR φ nP 99 τ1 := hr.kp (fun j h1 h2 => kk1 j (by omega) (by omega) (by omega))
  have R2_1 : isR ψ nN 107 τ1 := hrN.kp (fun j h1 h2 => kk1 j (by omega) (by omega) (by omega))
  refine lv_if_eq (tgt := 72) hx hb d_Mdl_lay_50 (by decide) (fun c50 => ?_) (fun c50 => ?_)
  · have hsq : ¬ (IV (τ (80 + a)) 8 : Int) < nP := by rcases q1 with h | h; exact absurd (h.1.symm.trans c50) (by decide); exact h.2
    refine lv_iconst (v := 0) hx hb d_Mdl_lay_72 (by decide) ?_
    exact gm_zret hx hb hr2 hlk X rfl ⟨_, rfl, Or.inl ⟨rfl, fun z => hsq z.1, fun j hj h1 h2 => by have hj := hj.o; rw [kk1 j (by omega) (by omega) (by omega)]⟩⟩ d_Mdl_lay_73
  · have hsq : (IV (τ (80 + a)) 8 : Int) < nP ∧ MV φ nP (τ1 (89 + 1)) (φ (IV (τ (80 + a)) 8)) ∧ MV φ nP (τ1 95) (sqV (φ (IV (τ (80 + a)) 8))) ∧ MV φ nP (τ1 (89 + 3)) 1 := by rcases q1 with h | h; exact h.2; exact absurd h.1 c50
    refine lv_aload_n hx hb d_Mdl_lay_53 rfl (lv_at hl 0 rfl) ?_
    refine gm_get hx hb hW hown X u_Mdl m53 rfl 15 (by decide) wf_Mdl_103 (v := .ref (E.2.1 + 79)) rfl d_Mdl_lay_54 ?_
    refine lv_iload_n hx hb d_Mdl_lay_57 rfl (lv_at hl 3 rfl) ?_
    refine gm_aald2 hx hb X (k := b) (t := E.2.1 + (80 + b)) m79 rfl rfl ⟨h_b, by decide⟩ (if_pos h_b) d_Mdl_lay_58 ?_
    refine lv_aload_n hx hb d_Mdl_lay_59 rfl (lv_at hl 0 rfl) ?_
    refine gm_get hx hb hW hown X u_Mdl m53 rfl 0 (by decide) wf_Mdl_13 (v := .ref (E.2.1 + 99)) rfl d_Mdl_lay_60 ?_
    refine gm_getN hx hb hW hown X u_Rng m99 rfl 0 (by decide) wfn_Mdl_178 (v := .ref (E.2.1 + 100)) rfl d_Mdl_lay_63 ?_
    refine gm_Si hx hb hml hown hW X (c_Rng_compare l E _ (mw_row (q8_n h_b)) (mw_row (k := 100) (by decide))) (n := 2) ⟨⟨wl_Mdl_174, ws_Rng_compare, winit_Rng, wc_Rng_compare⟩, by decide +kernel, Nat.le_of_ble_eq_true rfl, Nat.le_of_ble_eq_true rfl⟩ rfl hl.1 rfl (Nat.le_of_ble_eq_true rfl) d_Mdl_lay_66 ⟨Nat.le_of_ble_eq_true rfl, Nat.le_of_ble_eq_true rfl⟩ (fun rb M1 H locs hp X => ?_)
    rw [hp.1] at X
    have hq_rb := (ordI_ok (τ1 (80 + b)) (τ1 100) 8).2.1
    rw [← hp.2, (show τ1 (80 + b) = τ (80 + b) by rw [kk1 (80 + b) (by omega) (by omega) (by omega)]), (show τ1 100 = τ 100 by rw [kk1 100 (by omega) (by omega) (by omega)])] at hq_rb
    refine lv_if_lt (tgt := 74) hx hb d_Mdl_lay_69 (by decide) (fun c69 => ?_) (fun c69 => ?_)
    · have hlb : (IV (τ (80 + b)) 8 : Int) < nP := by have q : ¬ IV (τ 100) 8 ≤ IV (τ (80 + b)) 8 := fun z => absurd (hq_rb.mpr z) (Int32.not_le.mpr c69); omega
      refine lv_aload_n hx hb d_Mdl_lay_74 rfl (lv_at hl 0 rfl) ?_
      refine gm_get hx hb hW hown X u_Mdl m53 rfl 0 (by decide) wf_Mdl_13 (v := .ref (E.2.1 + 99)) rfl d_Mdl_lay_75 ?_
      refine lv_aload_n hx hb d_Mdl_lay_78 rfl (lv_at hl 0 rfl) ?_
      refine gm_get hx hb hW hown X u_Mdl m53 rfl 15 (by decide) wf_Mdl_103 (v := .ref (E.2.1 + 79)) rfl d_Mdl_lay_79 ?_
      refine lv_iload_n hx hb d_Mdl_lay_82 rfl (lv_at hl 3 rfl) ?_
      refine gm_aald2 hx hb X (k := b) (t := E.2.1 + (80 + b)) m79 rfl rfl ⟨h_b, by decide⟩ (if_pos h_b) d_Mdl_lay_83 ?_
      refine lv_aload_n hx hb d_Mdl_lay_84 rfl (lv_at hl 0 rfl) ?_
      refine gm_get hx hb hW hown X u_Mdl m53 rfl 17 (by decide) wf_Mdl_110 (v := .ref (E.2.1 + 89)) rfl d_Mdl_lay_85 ?_
      refine gm_getN hx hb hW hown X u_Rpt (oQ isQ_89) rfl 1 (by decide) wfn_Mdl_19 (v := .ref (E.2.1 + (89 + 2))) rfl d_Mdl_lay_88 ?_
      have e91 := (show τ1 (80 + b) = τ (80 + b) by rw [kk1 (80 + b) (by omega) (by omega) (by omega)])
      refine gm_Vv hx hb hml hown hW X m99 (q_enter l hpP hf hR R_1 (isQ.y isQ_89) (q8_n h_b) (by omega)) (n := 2) ⟨⟨wl_Mdl_135, wi_Rng_enter, wsel_Rng_enter, winit_Rng, wc_Rng_enter⟩, by decide +kernel, ⟨Nat.le_of_ble_eq_true rfl, Nat.le_of_ble_eq_true rfl⟩, _, rfl, rfl⟩ rfl hl.1 rfl (Nat.le_of_ble_eq_true rfl) d_Mdl_lay_91 ⟨Nat.le_of_ble_eq_true rfl, Nat.le_of_ble_eq_true rfl⟩ (fun M1 H locs hp X => ?_)
      obtain ⟨τ2, rfl, q2, kk2⟩ := hp
      have m891_2 : MV φ nP (τ2 (89 + 1)) (φ (IV (τ (80 + a)) 8)) := by rw [kk2 (89 + 1) (by omega) (by omega)]; exact hsq.2.1
      have m95_2 : MV φ nP (τ2 95) (sqV (φ (IV (τ (80 + a)) 8))) := by rw [kk2 95 (by omega) (by omega)]; exact hsq.2.2.1
      have m893_2 : MV φ nP (τ2 (89 + 3)) 1 := by rw [kk2 (89 + 3) (by omega) (by omega)]; exact hsq.2.2.2
      have R_2 : isR φ nP 99 τ2 := R_1.kp (fun j h1 h2 => kk2 j (by omega) (by omega))
      have R2_2 : isR ψ nN 107 τ2 := R2_1.kp (fun j h1 h2 => kk2 j (by omega) (by omega))
      have m892_2 : MV φ nP (τ2 (89 + 2)) (φ (IV (τ (80 + b)) 8)) := by rw [← e91]; exact q2
      refine lv_aload_n hx hb d_Mdl_lay_94 rfl (lv_at hl 0 rfl) ?_
      refine gm_get hx hb hW hown X u_Mdl m53 rfl 0 (by decide) wf_Mdl_13 (v := .ref (E.2.1 + 99)) rfl d_Mdl_lay_95 ?_
      refine lv_aload_n hx hb d_Mdl_lay_98 rfl (lv_at hl 0 rfl) ?_
      refine gm_get hx hb hW hown X u_Mdl m53 rfl 17 (by decide) wf_Mdl_110 (v := .ref (E.2.1 + 89)) rfl d_Mdl_lay_99 ?_
      refine gm_getN hx hb hW hown X u_Rpt (oQ isQ_89) rfl 1 (by decide) wfn_Mdl_19 (v := .ref (E.2.1 + (89 + 2))) rfl d_Mdl_lay_102 ?_
      refine lv_aload_n hx hb d_Mdl_lay_105 rfl (lv_at hl 0 rfl) ?_
      refine gm_get hx hb hW hown X u_Mdl m53 rfl 17 (by decide) wf_Mdl_110 (v := .ref (E.2.1 + 89)) rfl d_Mdl_lay_106 ?_
      refine gm_getN hx hb hW hown X u_Rpt (oQ isQ_89) rfl 1 (by decide) wfn_Mdl_19 (v := .ref (E.2.1 + (89 + 2))) rfl d_Mdl_lay_109 ?_
      refine lv_aload_n hx hb d_Mdl_lay_112 rfl (lv_at hl 0 rfl) ?_
      refine gm_get hx hb hW hown X u_Mdl m53 rfl 21 (by decide) wf_Mdl_122 (v := .ref (E.2.1 + 96)) rfl d_Mdl_lay_113 ?_
      refine gm_Vv hx hb hml hown hW X m99 (q_mul l hpP hf hR R_2 (by decide) (isQ.y isQ_89) (isQ.y isQ_89) (by omega) m892_2 m892_2) (n := 3) ⟨⟨wl_Mdl_25, wi_Rng_multiply, wsel_Rng_multiply, winit_Rng, wc_Rng_multiply⟩, by decide +kernel, ⟨Nat.le_of_ble_eq_true rfl, Nat.le_of_ble_eq_true rfl⟩, _, rfl, rfl⟩ rfl hl.1 rfl (Nat.le_of_ble_eq_true rfl) d_Mdl_lay_116 ⟨Nat.le_of_ble_eq_true rfl, Nat.le_of_ble_eq_true rfl⟩ (fun M1 H locs hp X => ?_)
      obtain ⟨τ3, rfl, q3, kk3⟩ := hp
      have m891_3 : MV φ nP (τ3 (89 + 1)) (φ (IV (τ (80 + a)) 8)) := by rw [kk3 (89 + 1) (by omega) (by omega)]; exact m891_2
      have m95_3 : MV φ nP (τ3 95) (sqV (φ (IV (τ (80 + a)) 8))) := by rw [kk3 95 (by omega) (by omega)]; exact m95_2
      have m893_3 : MV φ nP (τ3 (89 + 3)) 1 := by rw [kk3 (89 + 3) (by omega) (by omega)]; exact m893_2
      have m892_3 : MV φ nP (τ3 (89 + 2)) (φ (IV (τ (80 + b)) 8)) := by rw [kk3 (89 + 2) (by omega) (by omega)]; exact m892_2
      have R_3 : isR φ nP 99 τ3 := R_2.kp (fun j h1 h2 => kk3 j (by omega) (by omega))
      have R2_3 : isR ψ nN 107 τ3 := R2_2.kp (fun j h1 h2 => kk3 j (by omega) (by omega))
      have m96_3 : MV φ nP (τ3 96) ((φ (IV (τ (80 + b)) 8)) * (φ (IV (τ (80 + b)) 8))) := q3
      refine lv_aload_n hx hb d_Mdl_lay_119 rfl (lv_at hl 0 rfl) ?_
      refine gm_get hx hb hW hown X u_Mdl m53 rfl 20 (by decide) wf_Mdl_119 (v := .ref (E.2.1 + 95)) rfl d_Mdl_lay_120 ?_
      refine lv_aload_n hx hb d_Mdl_lay_123 rfl (lv_at hl 0 rfl) ?_
      refine gm_get hx hb hW hown X u_Mdl m53 rfl 21 (by decide) wf_Mdl_122 (v := .ref (E.2.1 + 96)) rfl d_Mdl_lay_124 ?_
      have hin := MV.inj hf hR m95_3 m96_3
      refine gm_Si hx hb hml hown hW X (c_Rng_same l E _ (mw_row (k := 95) (by decide)) (mw_row (k := 96) (by decide))) (n := 2) ⟨⟨wl_Mdl_184, ws_Rng_same, winit_Rng, wc_Rng_same⟩, by decide +kernel, Nat.le_of_ble_eq_true rfl, Nat.le_of_ble_eq_true rfl⟩ rfl hl.1 rfl (Nat.le_of_ble_eq_true rfl) d_Mdl_lay_127 ⟨Nat.le_of_ble_eq_true rfl, Nat.le_of_ble_eq_true rfl⟩ (fun re M1 H locs hp X => ?_)
      rw [hp.1] at X
      have h_re := hp.2
      refine lv_if_ne (tgt := 135) hx hb d_Mdl_lay_130 (by decide) (fun c130 => ?_) (fun c130 => ?_)
      · have heq : (φ (IV (τ (80 + b)) 8)) * (φ (IV (τ (80 + b)) 8)) = sqV (φ (IV (τ (80 + a)) 8)) := by rcases h_re with h | h; exact (hin.mp h.2).symm; exact absurd h.1 c130
        have hpt : mpR φ τ3 89 (some ((φ (IV (τ (80 + a)) 8)), (φ (IV (τ (80 + b)) 8)))) := ⟨heq, _, _, _, m891_3, m892_3, m893_3, fun e => hk.1.2.2.1 e, by grind, by grind⟩
        refine lv_aload_n hx hb d_Mdl_lay_135 rfl (lv_at hl 0 rfl) ?_
        refine gm_get hx hb hW hown X u_Mdl m53 rfl 16 (by decide) wf_Mdl_106 (v := .ref (E.2.1 + 88)) rfl d_Mdl_lay_136 ?_
        refine lv_iload_n hx hb d_Mdl_lay_139 rfl (lv_at hl 1 rfl) ?_
        refine gm_aald hx hb X (k := t) (t := E.2.1 + (115 + 4 * t)) m88 rfl rfl ⟨h_t, by decide⟩ (if_pos h_t) d_Mdl_lay_140 ?_
        refine lv_aload_n hx hb d_Mdl_lay_141 rfl (lv_at hl 0 rfl) ?_
        refine gm_get hx hb hW hown X u_Mdl m53 rfl 17 (by decide) wf_Mdl_110 (v := .ref (E.2.1 + 89)) rfl d_Mdl_lay_142 ?_
        refine gm_Vv hx hb hml hown hW X (oQ (isQ_p h_t)) (q_Rpt_take l E N τ3 0 (isQ_p h_t) isQ_89) (n := 1) ⟨⟨wl_Mdl_50, wi_Rpt_take, wsel_Rpt_take, winit_Rpt, wc_Rpt_take⟩, by decide +kernel, ⟨Nat.le_of_ble_eq_true rfl, Nat.le_of_ble_eq_true rfl⟩, _, rfl, rfl⟩ rfl hl.1 rfl (Nat.le_of_ble_eq_true rfl) d_Mdl_lay_145 ⟨Nat.le_of_ble_eq_true rfl, Nat.le_of_ble_eq_true rfl⟩ (fun M1 H locs hp X => ?_)
        obtain ⟨τ4, rfl, q4, kk4⟩ := hp
        have m891_4 : MV φ nP (τ4 (89 + 1)) (φ (IV (τ (80 + a)) 8)) := by rw [kk4 (89 + 1) (by omega)]; exact m891_3
        have m95_4 : MV φ nP (τ4 95) (sqV (φ (IV (τ (80 + a)) 8))) := by rw [kk4 95 (by omega)]; exact m95_3
        have m893_4 : MV φ nP (τ4 (89 + 3)) 1 := by rw [kk4 (89 + 3) (by omega)]; exact m893_3
        have m892_4 : MV φ nP (τ4 (89 + 2)) (φ (IV (τ (80 + b)) 8)) := by rw [kk4 (89 + 2) (by omega)]; exact m892_3
        have m96_4 : MV φ nP (τ4 96) ((φ (IV (τ (80 + b)) 8)) * (φ (IV (τ (80 + b)) 8))) := by rw [kk4 96 (by omega)]; exact m96_3
        have R_4 : isR φ nP 99 τ4 := R_3.kp (fun j h1 h2 => kk4 j (by omega))
        have R2_4 : isR ψ nN 107 τ4 := R2_3.kp (fun j h1 h2 => kk4 j (by omega))
        refine lv_iconst (v := 1) hx hb d_Mdl_lay_148 (by decide) ?_
        exact gm_zret hx hb hr2 hlk X rfl ⟨_, rfl, Or.inr ⟨rfl, ⟨hsq.1, hlb, heq⟩, hpt.kept q4.1 q4.2.1 q4.2.2, fun j hj h1 => by have hj := hj.o; rw [kk4 j (by omega), kk3 j (by omega) (by omega), kk2 j (by omega) (by omega), kk1 j (by omega) (by omega) (by omega)]⟩⟩ d_Mdl_lay_149
      · have heq : ¬ (φ (IV (τ (80 + b)) 8)) * (φ (IV (τ (80 + b)) 8)) = sqV (φ (IV (τ (80 + a)) 8)) := by rcases h_re with h | h; exact absurd (h.1.symm.trans c130) (by decide); exact fun e => h.2 (hin.mpr e.symm)
        refine lv_iconst (v := 0) hx hb d_Mdl_lay_133 (by decide) ?_
        exact gm_zret hx hb hr2 hlk X rfl ⟨_, rfl, Or.inl ⟨rfl, fun z => heq z.2.2, fun j hj h1 h2 => by have hj := hj.o; rw [kk3 j (by omega) (by omega), kk2 j (by omega) (by omega), kk1 j (by omega) (by omega) (by omega)]⟩⟩ d_Mdl_lay_134
    · have hlb := hq_rb.mp (Int32.not_lt.mp c69)
      refine lv_iconst (v := 0) hx hb d_Mdl_lay_72 (by decide) ?_
      exact gm_zret hx hb hr2 hlk X rfl ⟨_, rfl, Or.inl ⟨rfl, fun z => by have := z.2.1; omega, fun j hj h1 h2 => by have hj := hj.o; rw [kk1 j (by omega) (by omega) (by omega)]⟩⟩ d_Mdl_lay_73
theorem rtV_on {F : Type} [Lean.Grind.CommRing F] {φ : Int → F} {x : F} {odd : Int32} (h : fp_pw (sqV x) (NV sRt) * fp_pw (sqV x) (NV sRt) = sqV x) : ec_on (x, rtV φ x odd) := rtV_sq h
set_option maxHeartbeats 4000000 in
theorem r_Mdl_lift_ok {F G : Type} [Lean.Grind.CommRing F] [Lean.Grind.CommRing G] {φ : Int → F} {inv : F → F} {ψ : Int → G} (l : Launch) (E : gm_E) (N : gm_M) (τ : Nat → Nat → Int32) (cd : Int32) (hk : fk φ inv) {Ri : F} (hR : φ (tq 8) * Ri = 1) (hgN : fm ψ nN) {Si : G} (hS : ψ (tq 8) * Si = 1) (hr : isR φ nP 99 τ) (hrN : isR ψ nN 107 τ) (h7 : MV φ nP (τ 54) 7) {t : Nat} (h_t : t < 4) {a : Nat} (h_a : a < 8) {odd : Int32} (hodd : odd = 0 ∨ odd = 1) : ci_ l y_Mdl_lift b_Mdl_lift 5 (some .boolean) { frames := 4, cells := 0, slots := 0, locals := 95 } E (mW E N τ cd) [.ref (E.2.1 + 53), .int (nI t), .int (nI a), .int odd] (fun r M' => ∃ τ', M' = mW E N τ' 0 ∧ ((r = 0 ∧ ¬ ((IV (τ (80 + a)) 8 : Int) < nP ∧ (fp_pw (sqV (φ (IV (τ (80 + a)) 8))) (NV sRt)) * (fp_pw (sqV (φ (IV (τ (80 + a)) 8))) (NV sRt)) = sqV (φ (IV (τ (80 + a)) 8))) ∧ kMn 0 0 τ τ') ∨ (r = 1 ∧ ((IV (τ (80 + a)) 8 : Int) < nP ∧ (fp_pw (sqV (φ (IV (τ (80 + a)) 8))) (NV sRt)) * (fp_pw (sqV (φ (IV (τ (80 + a)) 8))) (NV sRt)) = sqV (φ (IV (τ (80 + a)) 8))) ∧ mpR φ τ' (115 + 4 * t) (some ((φ (IV (τ (80 + a)) 8)), rtV φ (φ (IV (τ (80 + a)) 8)) odd)) ∧ kMp (115 + 4 * t) τ τ'))) := by
  have hf := hk.fm
  have hpP := rPl_P E
  have hpN := rPl_N E
  refine gm_met (by decide) (Nat.le_of_ble_eq_true rfl) (fun p e s m below meth c ls hx hb hml hr2 hlk hnm hown hW X hl => ?_)
  have hl : lv_has ls 5 [(0, .ref (E.2.1 + 53)), (1, .int (nI t)), (2, .int (nI a)), (3, .int odd)] := hl
  refine lv_aload_n hx hb d_Mdl_lift_0 rfl (lv_at hl 0 rfl) ?_
  refine lv_iload_n hx hb d_Mdl_lift_1 rfl (lv_at hl 1 rfl) ?_
  refine lv_iconst (v := 3) hx hb d_Mdl_lift_2 (by decide) ?_
  refine gm_Si hx hb hml hown hW X (r_Mdl_in_4 l E N τ cd) (n := 2) ⟨⟨wl_Mdl_164, ws_Mdl_in, winit_Mdl, wc_Mdl_in⟩, by decide +kernel, Nat.le_of_ble_eq_true rfl, Nat.le_of_ble_eq_true rfl⟩ rfl hl.1 rfl (Nat.le_of_ble_eq_true rfl) d_Mdl_lift_3 ⟨Nat.le_of_ble_eq_true rfl, Nat.le_of_ble_eq_true rfl⟩ (fun r0 M1 H locs hp X => ?_)
  rw [hp.1] at X
  have hz0 : r0 = 1 := by rcases hp.2 with h | h; exact h.1; exact absurd ⟨t, h_t, rfl⟩ h.2
  refine lv_if_eq (tgt := 22) hx hb d_Mdl_lift_6 (by decide) (fun c9 => absurd (hz0.symm.trans c9) (by decide)) (fun _ => ?_)
  refine lv_iload_n hx hb d_Mdl_lift_9 rfl (lv_at hl 2 rfl) ?_
  refine lv_bipush (v := 7) hx hb d_Mdl_lift_10 (by decide) ?_
  refine gm_Si hx hb hml hown hW X (r_Mdl_in_8 l E N τ cd) (n := 2) ⟨⟨wl_Mdl_164, ws_Mdl_in, winit_Mdl, wc_Mdl_in⟩, by decide +kernel, Nat.le_of_ble_eq_true rfl, Nat.le_of_ble_eq_true rfl⟩ rfl hl.1 rfl (Nat.le_of_ble_eq_true rfl) d_Mdl_lift_12 ⟨Nat.le_of_ble_eq_true rfl, Nat.le_of_ble_eq_true rfl⟩ (fun r1 M1 H locs hp X => ?_)
  rw [hp.1] at X
  have hz1 : r1 = 1 := by rcases hp.2 with h | h; exact h.1; exact absurd ⟨a, h_a, rfl⟩ h.2
  refine lv_if_eq (tgt := 22) hx hb d_Mdl_lift_15 (by decide) (fun c9 => absurd (hz1.symm.trans c9) (by decide)) (fun _ => ?_)
  refine lv_iconst (v := 1) hx hb d_Mdl_lift_18 (by decide) ?_
  refine lv_goto (tgt := 23) hx hb d_Mdl_lift_19 (by decide) ?_
  refine gm_Vi hx hb hml hown hW X m53 (r_Mdl_good_1 l E N τ cd) (n := 1) ⟨⟨wl_Mdl_168, wi_Mdl_good, wsel_Mdl_good, winit_Mdl, wc_Mdl_good⟩, by decide +kernel, ⟨Nat.le_of_ble_eq_true rfl, Nat.le_of_ble_eq_true rfl⟩, _, rfl, rfl⟩ rfl hl.1 rfl (Nat.le_of_ble_eq_true rfl) d_Mdl_lift_23 ⟨Nat.le_of_ble_eq_true rfl, Nat.le_of_ble_eq_true rfl⟩ (fun r9 M1 H locs hp X => ?_)
  rw [hp.1] at X
  have hr9 := hp.2
  refine lv_if_eq (tgt := 42) hx hb d_Mdl_lift_26 (by decide) (fun c9 => absurd (hr9.symm.trans c9) (by decide)) (fun _ => ?_)
  refine lv_aload_n hx hb d_Mdl_lift_29 rfl (lv_at hl 0 rfl) ?_
  refine lv_aload_n hx hb d_Mdl_lift_30 rfl (lv_at hl 0 rfl) ?_
  refine gm_get hx hb hW hown X u_Mdl m53 rfl 15 (by decide) wf_Mdl_103 (v := .ref (E.2.1 + 79)) rfl d_Mdl_lift_31 ?_
  refine lv_iload_n hx hb d_Mdl_lift_34 rfl (lv_at hl 2 rfl) ?_
  refine gm_aald2 hx hb X (k := a) (t := E.2.1 + (80 + a)) m79 rfl rfl ⟨h_a, by decide⟩ (if_pos h_a) d_Mdl_lift_35 ?_
  refine gm_Vi hx hb hml hown hW X m53 (r_Mdl_square l E N τ 0 hk hR hgN hS hr hrN h7 (a := 80 + a) (by omega)) (n := 1) ⟨⟨wl_Mdl_181, wi_Mdl_square, wsel_Mdl_square, winit_Mdl, wc_Mdl_square⟩, by decide +kernel, ⟨Nat.le_of_ble_eq_true rfl, Nat.le_of_ble_eq_true rfl⟩, _, rfl, rfl⟩ rfl hl.1 rfl (Nat.le_of_ble_eq_true rfl) d_Mdl_lift_36 ⟨Nat.le_of_ble_eq_true rfl, Nat.le_of_ble_eq_true rfl⟩ (fun rs M1 H locs hp X => ?_)
  obtain ⟨τ1, rfl, q1, kk1⟩ := hp
  have R_1 : isR φ nP 99 τ1 := hr.kp (fun j h1 h2 => kk1 j (by omega) (by omega) (by omega))
  have R2_1 : isR ψ nN 107 τ1 := hrN.kp (fun j h1 h2 => kk1 j (by omega) (by omega) (by omega))
  refine lv_if_ne (tgt := 44) hx hb d_Mdl_lift_39 (by decide) (fun c39 => ?_) (fun c39 => ?_)
  · have hsq : (IV (τ (80 + a)) 8 : Int) < nP ∧ MV φ nP (τ1 (89 + 1)) (φ (IV (τ (80 + a)) 8)) ∧ MV φ nP (τ1 95) (sqV (φ (IV (τ (80 + a)) 8))) ∧ MV φ nP (τ1 (89 + 3)) 1 := by rcases q1 with h | h; exact h.2; exact absurd h.1 c39
    refine lv_aload_n hx hb d_Mdl_lift_44 rfl (lv_at hl 0 rfl) ?_
    refine gm_get hx hb hW hown X u_Mdl m53 rfl 0 (by decide) wf_Mdl_13 (v := .ref (E.2.1 + 99)) rfl d_Mdl_lift_45 ?_
    refine lv_aload_n hx hb d_Mdl_lift_48 rfl (lv_at hl 0 rfl) ?_
    refine gm_get hx hb hW hown X u_Mdl m53 rfl 20 (by decide) wf_Mdl_119 (v := .ref (E.2.1 + 95)) rfl d_Mdl_lift_49 ?_
    refine lv_iconst (v := 1) hx hb d_Mdl_lift_52 (by decide) ?_
    refine lv_iconst (v := 2) hx hb d_Mdl_lift_53 (by decide) ?_
    refine lv_aload_n hx hb d_Mdl_lift_54 rfl (lv_at hl 0 rfl) ?_
    refine gm_get hx hb hW hown X u_Mdl m53 rfl 17 (by decide) wf_Mdl_110 (v := .ref (E.2.1 + 89)) rfl d_Mdl_lift_55 ?_
    refine gm_getN hx hb hW hown X u_Rpt (oQ isQ_89) rfl 1 (by decide) wfn_Mdl_19 (v := .ref (E.2.1 + (89 + 2))) rfl d_Mdl_lift_58 ?_
    refine gm_Vv hx hb hml hown hW X m99 (q_power l hpP hf hR R_1 (sh := 2) (by decide) (isQ.y isQ_89) (by decide) (by omega) hsq.2.2.1) (n := 4) ⟨⟨wl_Mdl_61, wi_Rng_power, wsel_Rng_power, winit_Rng, wc_Rng_power⟩, by decide +kernel, ⟨Nat.le_of_ble_eq_true rfl, Nat.le_of_ble_eq_true rfl⟩, _, rfl, rfl⟩ rfl hl.1 rfl (Nat.le_of_ble_eq_true rfl) d_Mdl_lift_61 ⟨Nat.le_of_ble_eq_true rfl, Nat.le_of_ble_eq_true rfl⟩ (fun M1 H locs hp X => ?_)
    obtain ⟨τ2, rfl, q2, kk2⟩ := hp
    have m891_2 : MV φ nP (τ2 (89 + 1)) (φ (IV (τ (80 + a)) 8)) := by rw [kk2 (89 + 1) (by omega) (by omega)]; exact hsq.2.1
    have m95_2 : MV φ nP (τ2 95) (sqV (φ (IV (τ (80 + a)) 8))) := by rw [kk2 95 (by omega) (by omega)]; exact hsq.2.2.1
    have m893_2 : MV φ nP (τ2 (89 + 3)) 1 := by rw [kk2 (89 + 3) (by omega) (by omega)]; exact hsq.2.2.2
    have R_2 : isR φ nP 99 τ2 := R_1.kp (fun j h1 h2 => kk2 j (by omega) (by omega))
    have R2_2 : isR ψ nN 107 τ2 := R2_1.kp (fun j h1 h2 => kk2 j (by omega) (by omega))
    have m892_2 : MV φ nP (τ2 (89 + 2)) (fp_pw (sqV (φ (IV (τ (80 + a)) 8))) (NV sRt)) := by rw [← xp_sRt R_1]; exact q2
    refine lv_aload_n hx hb d_Mdl_lift_64 rfl (lv_at hl 0 rfl) ?_
    refine gm_get hx hb hW hown X u_Mdl m53 rfl 0 (by decide) wf_Mdl_13 (v := .ref (E.2.1 + 99)) rfl d_Mdl_lift_65 ?_
    refine lv_aload_n hx hb d_Mdl_lift_68 rfl (lv_at hl 0 rfl) ?_
    refine gm_get hx hb hW hown X u_Mdl m53 rfl 17 (by decide) wf_Mdl_110 (v := .ref (E.2.1 + 89)) rfl d_Mdl_lift_69 ?_
    refine gm_getN hx hb hW hown X u_Rpt (oQ isQ_89) rfl 1 (by decide) wfn_Mdl_19 (v := .ref (E.2.1 + (89 + 2))) rfl d_Mdl_lift_72 ?_
    refine lv_aload_n hx hb d_Mdl_lift_75 rfl (lv_at hl 0 rfl) ?_
    refine gm_get hx hb hW hown X u_Mdl m53 rfl 17 (by decide) wf_Mdl_110 (v := .ref (E.2.1 + 89)) rfl d_Mdl_lift_76 ?_
    refine gm_getN hx hb hW hown X u_Rpt (oQ isQ_89) rfl 1 (by decide) wfn_Mdl_19 (v := .ref (E.2.1 + (89 + 2))) rfl d_Mdl_lift_79 ?_
    refine lv_aload_n hx hb d_Mdl_lift_82 rfl (lv_at hl 0 rfl) ?_
    refine gm_get hx hb hW hown X u_Mdl m53 rfl 21 (by decide) wf_Mdl_122 (v := .ref (E.2.1 + 96)) rfl d_Mdl_lift_83 ?_
    refine gm_Vv hx hb hml hown hW X m99 (q_mul l hpP hf hR R_2 (by decide) (isQ.y isQ_89) (isQ.y isQ_89) (by omega) m892_2 m892_2) (n := 3) ⟨⟨wl_Mdl_25, wi_Rng_multiply, wsel_Rng_multiply, winit_Rng, wc_Rng_multiply⟩, by decide +kernel, ⟨Nat.le_of_ble_eq_true rfl, Nat.le_of_ble_eq_true rfl⟩, _, rfl, rfl⟩ rfl hl.1 rfl (Nat.le_of_ble_eq_true rfl) d_Mdl_lift_86 ⟨Nat.le_of_ble_eq_true rfl, Nat.le_of_ble_eq_true rfl⟩ (fun M1 H locs hp X => ?_)
    obtain ⟨τ3, rfl, q3, kk3⟩ := hp
    have m891_3 : MV φ nP (τ3 (89 + 1)) (φ (IV (τ (80 + a)) 8)) := by rw [kk3 (89 + 1) (by omega) (by omega)]; exact m891_2
    have m95_3 : MV φ nP (τ3 95) (sqV (φ (IV (τ (80 + a)) 8))) := by rw [kk3 95 (by omega) (by omega)]; exact m95_2
    have m893_3 : MV φ nP (τ3 (89 + 3)) 1 := by rw [kk3 (89 + 3) (by omega) (by omega)]; exact m893_2
    have m892_3 : MV φ nP (τ3 (89 + 2)) (fp_pw (sqV (φ (IV (τ (80 + a)) 8))) (NV sRt)) := by rw [kk3 (89 + 2) (by omega) (by omega)]; exact m892_2
    have R_3 : isR φ nP 99 τ3 := R_2.kp (fun j h1 h2 => kk3 j (by omega) (by omega))
    have R2_3 : isR ψ nN 107 τ3 := R2_2.kp (fun j h1 h2 => kk3 j (by omega) (by omega))
    have m96_3 : MV φ nP (τ3 96) ((fp_pw (sqV (φ (IV (τ (80 + a)) 8))) (NV sRt)) * (fp_pw (sqV (φ (IV (τ (80 + a)) 8))) (NV sRt))) := q3
    refine lv_aload_n hx hb d_Mdl_lift_89 rfl (lv_at hl 0 rfl) ?_
    refine gm_get hx hb hW hown X u_Mdl m53 rfl 20 (by decide) wf_Mdl_119 (v := .ref (E.2.1 + 95)) rfl d_Mdl_lift_90 ?_
    refine lv_aload_n hx hb d_Mdl_lift_93 rfl (lv_at hl 0 rfl) ?_
    refine gm_get hx hb hW hown X u_Mdl m53 rfl 21 (by decide) wf_Mdl_122 (v := .ref (E.2.1 + 96)) rfl d_Mdl_lift_94 ?_
    have hin := MV.inj hf hR m95_3 m96_3
    refine gm_Si hx hb hml hown hW X (c_Rng_same l E _ (mw_row (k := 95) (by decide)) (mw_row (k := 96) (by decide))) (n := 2) ⟨⟨wl_Mdl_184, ws_Rng_same, winit_Rng, wc_Rng_same⟩, by decide +kernel, Nat.le_of_ble_eq_true rfl, Nat.le_of_ble_eq_true rfl⟩ rfl hl.1 rfl (Nat.le_of_ble_eq_true rfl) d_Mdl_lift_97 ⟨Nat.le_of_ble_eq_true rfl, Nat.le_of_ble_eq_true rfl⟩ (fun re M1 H locs hp X => ?_)
    rw [hp.1] at X
    have h_re := hp.2
    refine lv_if_ne (tgt := 105) hx hb d_Mdl_lift_100 (by decide) (fun c100 => ?_) (fun c100 => ?_)
    · have heq : (fp_pw (sqV (φ (IV (τ (80 + a)) 8))) (NV sRt)) * (fp_pw (sqV (φ (IV (τ (80 + a)) 8))) (NV sRt)) = sqV (φ (IV (τ (80 + a)) 8)) := by rcases h_re with h | h; exact (hin.mp h.2).symm; exact absurd h.1 c100
      refine lv_aload_n hx hb d_Mdl_lift_105 rfl (lv_at hl 0 rfl) ?_
      refine gm_get hx hb hW hown X u_Mdl m53 rfl 0 (by decide) wf_Mdl_13 (v := .ref (E.2.1 + 99)) rfl d_Mdl_lift_106 ?_
      refine lv_aload_n hx hb d_Mdl_lift_109 rfl (lv_at hl 0 rfl) ?_
      refine gm_get hx hb hW hown X u_Mdl m53 rfl 17 (by decide) wf_Mdl_110 (v := .ref (E.2.1 + 89)) rfl d_Mdl_lift_110 ?_
      refine gm_getN hx hb hW hown X u_Rpt (oQ isQ_89) rfl 1 (by decide) wfn_Mdl_19 (v := .ref (E.2.1 + (89 + 2))) rfl d_Mdl_lift_113 ?_
      refine lv_aload_n hx hb d_Mdl_lift_116 rfl (lv_at hl 0 rfl) ?_
      refine gm_get hx hb hW hown X u_Mdl m53 rfl 19 (by decide) wf_Mdl_116 (v := .ref (E.2.1 + 94)) rfl d_Mdl_lift_117 ?_
      refine gm_Vv hx hb hml hown hW X m99 (q_leave l hpP hf hR R_3 (by decide) (isQ.y isQ_89) (by omega) m892_3) (n := 2) ⟨⟨wl_Mdl_65, wi_Rng_leave, wsel_Rng_leave, winit_Rng, wc_Rng_leave⟩, by decide +kernel, ⟨Nat.le_of_ble_eq_true rfl, Nat.le_of_ble_eq_true rfl⟩, _, rfl, rfl⟩ rfl hl.1 rfl (Nat.le_of_ble_eq_true rfl) d_Mdl_lift_120 ⟨Nat.le_of_ble_eq_true rfl, Nat.le_of_ble_eq_true rfl⟩ (fun M1 H locs hp X => ?_)
      obtain ⟨τ4, rfl, q4, kk4⟩ := hp
      have m891_4 : MV φ nP (τ4 (89 + 1)) (φ (IV (τ (80 + a)) 8)) := by rw [kk4 (89 + 1) (by omega) (by omega)]; exact m891_3
      have m95_4 : MV φ nP (τ4 95) (sqV (φ (IV (τ (80 + a)) 8))) := by rw [kk4 95 (by omega) (by omega)]; exact m95_3
      have m893_4 : MV φ nP (τ4 (89 + 3)) 1 := by rw [kk4 (89 + 3) (by omega) (by omega)]; exact m893_3
      have m892_4 : MV φ nP (τ4 (89 + 2)) (fp_pw (sqV (φ (IV (τ (80 + a)) 8))) (NV sRt)) := by rw [kk4 (89 + 2) (by omega) (by omega)]; exact m892_3
      have m96_4 : MV φ nP (τ4 96) ((fp_pw (sqV (φ (IV (τ (80 + a)) 8))) (NV sRt)) * (fp_pw (sqV (φ (IV (τ (80 + a)) 8))) (NV sRt))) := by rw [kk4 96 (by omega) (by omega)]; exact m96_3
      have R_4 : isR φ nP 99 τ4 := R_3.kp (fun j h1 h2 => kk4 j (by omega) (by omega))
      have R2_4 : isR ψ nN 107 τ4 := R2_3.kp (fun j h1 h2 => kk4 j (by omega) (by omega))
      have p94_4 : PV φ nP (τ4 94) (fp_pw (sqV (φ (IV (τ (80 + a)) 8))) (NV sRt)) := q4
      refine lv_aload_n hx hb d_Mdl_lift_123 rfl (lv_at hl 0 rfl) ?_
      refine gm_get hx hb hW hown X u_Mdl m53 rfl 19 (by decide) wf_Mdl_116 (v := .ref (E.2.1 + 94)) rfl d_Mdl_lift_124 ?_
      refine lv_iconst (v := 0) hx hb d_Mdl_lift_127 (by decide) ?_
      have er := PV.rep hf p94_4
      have pr := par_i (τ4 94)
      rw [er] at pr
      refine gm_iald hx hb X (k := 0) (mw_row (k := 94) (n := 8) (by decide)) (by decide) ⟨by decide, by decide⟩ d_Mdl_lift_128 ?_
      refine lv_iconst (v := 1) hx hb d_Mdl_lift_129 (by decide) ?_
      refine lv_iand hx hb d_Mdl_lift_130 ?_
      refine lv_iconst (v := 1) hx hb d_Mdl_lift_131 (by decide) ?_
      refine lv_icmp_ne (tgt := 139) hx hb d_Mdl_lift_132 (by decide) (fun c132 => ?_) (fun c132 => ?_)
      · refine lv_iconst (v := 0) hx hb d_Mdl_lift_139 (by decide) ?_
        refine lv_iload_n hx hb d_Mdl_lift_140 rfl (lv_at hl 3 rfl) ?_
        refine lv_icmp_eq (tgt := 193) hx hb d_Mdl_lift_141 (by decide) (fun c141 => ?_) (fun c141 => ?_)
        · have hq : (rp φ nP (fp_pw (sqV (φ (IV (τ (80 + a)) 8))) (NV sRt)) % 2 = 1) ↔ odd = 1 := by
            exact ⟨fun z => absurd (pr.mpr z) c132, fun z => absurd (c141.trans z) (by decide)⟩
          have hy : MV φ nP (τ4 (89 + 2)) (rtV φ (φ (IV (τ (80 + a)) 8)) odd) := by rw [rtV, if_pos hq]; exact m892_4
          have hpt : mpR φ τ4 89 (some ((φ (IV (τ (80 + a)) 8)), rtV φ (φ (IV (τ (80 + a)) 8)) odd)) := ⟨rtV_on heq, _, _, _, m891_4, hy, m893_4, fun e => hk.1.2.2.1 e, by grind, by grind⟩
          refine lv_aload_n hx hb d_Mdl_lift_193 rfl (lv_at hl 0 rfl) ?_
          refine gm_get hx hb hW hown X u_Mdl m53 rfl 16 (by decide) wf_Mdl_106 (v := .ref (E.2.1 + 88)) rfl d_Mdl_lift_194 ?_
          refine lv_iload_n hx hb d_Mdl_lift_197 rfl (lv_at hl 1 rfl) ?_
          refine gm_aald hx hb X (k := t) (t := E.2.1 + (115 + 4 * t)) m88 rfl rfl ⟨h_t, by decide⟩ (if_pos h_t) d_Mdl_lift_198 ?_
          refine lv_aload_n hx hb d_Mdl_lift_199 rfl (lv_at hl 0 rfl) ?_
          refine gm_get hx hb hW hown X u_Mdl m53 rfl 17 (by decide) wf_Mdl_110 (v := .ref (E.2.1 + 89)) rfl d_Mdl_lift_200 ?_
          refine gm_Vv hx hb hml hown hW X (oQ (isQ_p h_t)) (q_Rpt_take l E N τ4 0 (isQ_p h_t) isQ_89) (n := 1) ⟨⟨wl_Mdl_50, wi_Rpt_take, wsel_Rpt_take, winit_Rpt, wc_Rpt_take⟩, by decide +kernel, ⟨Nat.le_of_ble_eq_true rfl, Nat.le_of_ble_eq_true rfl⟩, _, rfl, rfl⟩ rfl hl.1 rfl (Nat.le_of_ble_eq_true rfl) d_Mdl_lift_203 ⟨Nat.le_of_ble_eq_true rfl, Nat.le_of_ble_eq_true rfl⟩ (fun M1 H locs hp X => ?_)
          obtain ⟨τ5, rfl, q5, kk5⟩ := hp
          have m891_5 : MV φ nP (τ5 (89 + 1)) (φ (IV (τ (80 + a)) 8)) := by rw [kk5 (89 + 1) (by omega)]; exact m891_4
          have m95_5 : MV φ nP (τ5 95) (sqV (φ (IV (τ (80 + a)) 8))) := by rw [kk5 95 (by omega)]; exact m95_4
          have m893_5 : MV φ nP (τ5 (89 + 3)) 1 := by rw [kk5 (89 + 3) (by omega)]; exact m893_4
          have m892_5 : MV φ nP (τ5 (89 + 2)) (fp_pw (sqV (φ (IV (τ (80 + a)) 8))) (NV sRt)) := by rw [kk5 (89 + 2) (by omega)]; exact m892_4
          have m96_5 : MV φ nP (τ5 96) ((fp_pw (sqV (φ (IV (τ (80 + a)) 8))) (NV sRt)) * (fp_pw (sqV (φ (IV (τ (80 + a)) 8))) (NV sRt))) := by rw [kk5 96 (by omega)]; exact m96_4
          have p94_5 : PV φ nP (τ5 94) (fp_pw (sqV (φ (IV (τ (80 + a)) 8))) (NV sRt)) := by rw [kk5 94 (by omega)]; exact p94_4
          have R_5 : isR φ nP 99 τ5 := R_4.kp (fun j h1 h2 => kk5 j (by omega))
          have R2_5 : isR ψ nN 107 τ5 := R2_4.kp (fun j h1 h2 => kk5 j (by omega))
          refine lv_iconst (v := 1) hx hb d_Mdl_lift_206 (by decide) ?_
          exact gm_zret hx hb hr2 hlk X rfl ⟨_, rfl, Or.inr ⟨rfl, ⟨hsq.1, heq⟩, hpt.kept q5.1 q5.2.1 q5.2.2, fun j hj h1 => by have hj := hj.o; rw [kk5 j (by omega), kk4 j (by omega) (by omega), kk3 j (by omega) (by omega), kk2 j (by omega) (by omega), kk1 j (by omega) (by omega) (by omega)]⟩⟩ d_Mdl_lift_207
        · have hq : ¬ ((rp φ nP (fp_pw (sqV (φ (IV (τ (80 + a)) 8))) (NV sRt)) % 2 = 1) ↔ odd = 1) := by
            intro q
            rcases hodd with h | h
            · exact c141 h.symm
            · exact c132 (pr.mpr (q.mpr h))
          refine lv_iconst (v := 0) hx hb d_Mdl_lift_144 (by decide) ?_
          refine lv_istore (lv' := [(4, .int 0), (0, .ref (E.2.1 + 53)), (1, .int (nI t)), (2, .int (nI a)), (3, .int odd)]) hx hb d_Mdl_lift_145 hl (by decide) rfl (fun ls hl => ?_)
          refine lv_iload hx hb d_Mdl_lift_147 (lv_at hl 0 rfl) ?_
          refine lv_bipush (v := 8) hx hb d_Mdl_lift_149 (by decide) ?_
          refine lv_icmp_ge (tgt := 168) hx hb d_Mdl_lift_151 (by decide) (fun c9 => absurd c9 (by decide)) (fun _ => ?_)
          refine lv_aload_n hx hb d_Mdl_lift_154 rfl (lv_at hl 1 rfl) ?_
          refine gm_get hx hb hW hown X u_Mdl m53 rfl 21 (by decide) wf_Mdl_122 (v := .ref (E.2.1 + 96)) rfl d_Mdl_lift_155 ?_
          refine lv_iload hx hb d_Mdl_lift_158 (lv_at hl 0 rfl) ?_
          refine lv_iconst (v := 0) hx hb d_Mdl_lift_160 (by decide) ?_
          refine gm_iast hx hb X (k := 0) (mw_row (by decide : q8 96)) (cw_ge _) (by decide) ⟨by decide, by decide⟩ d_Mdl_lift_161 (fun H locs X => ?_)
          rw [mw_upr _ (by decide : q8 96)] at X
          refine lv_iinc (v := 1) (lv' := [(4, .int 1), (0, .ref (E.2.1 + 53)), (1, .int (nI t)), (2, .int (nI a)), (3, .int odd)]) hx hb d_Mdl_lift_162 hl (k := 0) rfl (by decide) (by decide) rfl (fun ls hl => ?_)
          refine lv_goto (tgt := 147) hx hb d_Mdl_lift_165 (by decide) ?_
          refine lv_iload hx hb d_Mdl_lift_147 (lv_at hl 0 rfl) ?_
          refine lv_bipush (v := 8) hx hb d_Mdl_lift_149 (by decide) ?_
          refine lv_icmp_ge (tgt := 168) hx hb d_Mdl_lift_151 (by decide) (fun c9 => absurd c9 (by decide)) (fun _ => ?_)
          refine lv_aload_n hx hb d_Mdl_lift_154 rfl (lv_at hl 1 rfl) ?_
          refine gm_get hx hb hW hown X u_Mdl m53 rfl 21 (by decide) wf_Mdl_122 (v := .ref (E.2.1 + 96)) rfl d_Mdl_lift_155 ?_
          refine lv_iload hx hb d_Mdl_lift_158 (lv_at hl 0 rfl) ?_
          refine lv_iconst (v := 0) hx hb d_Mdl_lift_160 (by decide) ?_
          refine gm_iast hx hb X (k := 1) (mw_row (by decide : q8 96)) (cw_ge _) (by decide) ⟨by decide, by decide⟩ d_Mdl_lift_161 (fun H locs X => ?_)
          rw [mw_upr _ (by decide : q8 96), vu_vu, vu_s] at X
          refine lv_iinc (v := 2) (lv' := [(4, .int 2), (0, .ref (E.2.1 + 53)), (1, .int (nI t)), (2, .int (nI a)), (3, .int odd)]) hx hb d_Mdl_lift_162 hl (k := 0) rfl (by decide) (by decide) rfl (fun ls hl => ?_)
          refine lv_goto (tgt := 147) hx hb d_Mdl_lift_165 (by decide) ?_
          refine lv_iload hx hb d_Mdl_lift_147 (lv_at hl 0 rfl) ?_
          refine lv_bipush (v := 8) hx hb d_Mdl_lift_149 (by decide) ?_
          refine lv_icmp_ge (tgt := 168) hx hb d_Mdl_lift_151 (by decide) (fun c9 => absurd c9 (by decide)) (fun _ => ?_)
          refine lv_aload_n hx hb d_Mdl_lift_154 rfl (lv_at hl 1 rfl) ?_
          refine gm_get hx hb hW hown X u_Mdl m53 rfl 21 (by decide) wf_Mdl_122 (v := .ref (E.2.1 + 96)) rfl d_Mdl_lift_155 ?_
          refine lv_iload hx hb d_Mdl_lift_158 (lv_at hl 0 rfl) ?_
          refine lv_iconst (v := 0) hx hb d_Mdl_lift_160 (by decide) ?_
          refine gm_iast hx hb X (k := 2) (mw_row (by decide : q8 96)) (cw_ge _) (by decide) ⟨by decide, by decide⟩ d_Mdl_lift_161 (fun H locs X => ?_)
          rw [mw_upr _ (by decide : q8 96), vu_vu, vu_s] at X
          refine lv_iinc (v := 3) (lv' := [(4, .int 3), (0, .ref (E.2.1 + 53)), (1, .int (nI t)), (2, .int (nI a)), (3, .int odd)]) hx hb d_Mdl_lift_162 hl (k := 0) rfl (by decide) (by decide) rfl (fun ls hl => ?_)
          refine lv_goto (tgt := 147) hx hb d_Mdl_lift_165 (by decide) ?_
          refine lv_iload hx hb d_Mdl_lift_147 (lv_at hl 0 rfl) ?_
          refine lv_bipush (v := 8) hx hb d_Mdl_lift_149 (by decide) ?_
          refine lv_icmp_ge (tgt := 168) hx hb d_Mdl_lift_151 (by decide) (fun c9 => absurd c9 (by decide)) (fun _ => ?_)
          refine lv_aload_n hx hb d_Mdl_lift_154 rfl (lv_at hl 1 rfl) ?_
          refine gm_get hx hb hW hown X u_Mdl m53 rfl 21 (by decide) wf_Mdl_122 (v := .ref (E.2.1 + 96)) rfl d_Mdl_lift_155 ?_
          refine lv_iload hx hb d_Mdl_lift_158 (lv_at hl 0 rfl) ?_
          refine lv_iconst (v := 0) hx hb d_Mdl_lift_160 (by decide) ?_
          refine gm_iast hx hb X (k := 3) (mw_row (by decide : q8 96)) (cw_ge _) (by decide) ⟨by decide, by decide⟩ d_Mdl_lift_161 (fun H locs X => ?_)
          rw [mw_upr _ (by decide : q8 96), vu_vu, vu_s] at X
          refine lv_iinc (v := 4) (lv' := [(4, .int 4), (0, .ref (E.2.1 + 53)), (1, .int (nI t)), (2, .int (nI a)), (3, .int odd)]) hx hb d_Mdl_lift_162 hl (k := 0) rfl (by decide) (by decide) rfl (fun ls hl => ?_)
          refine lv_goto (tgt := 147) hx hb d_Mdl_lift_165 (by decide) ?_
          refine lv_iload hx hb d_Mdl_lift_147 (lv_at hl 0 rfl) ?_
          refine lv_bipush (v := 8) hx hb d_Mdl_lift_149 (by decide) ?_
          refine lv_icmp_ge (tgt := 168) hx hb d_Mdl_lift_151 (by decide) (fun c9 => absurd c9 (by decide)) (fun _ => ?_)
          refine lv_aload_n hx hb d_Mdl_lift_154 rfl (lv_at hl 1 rfl) ?_
          refine gm_get hx hb hW hown X u_Mdl m53 rfl 21 (by decide) wf_Mdl_122 (v := .ref (E.2.1 + 96)) rfl d_Mdl_lift_155 ?_
          refine lv_iload hx hb d_Mdl_lift_158 (lv_at hl 0 rfl) ?_
          refine lv_iconst (v := 0) hx hb d_Mdl_lift_160 (by decide) ?_
          refine gm_iast hx hb X (k := 4) (mw_row (by decide : q8 96)) (cw_ge _) (by decide) ⟨by decide, by decide⟩ d_Mdl_lift_161 (fun H locs X => ?_)
          rw [mw_upr _ (by decide : q8 96), vu_vu, vu_s] at X
          refine lv_iinc (v := 5) (lv' := [(4, .int 5), (0, .ref (E.2.1 + 53)), (1, .int (nI t)), (2, .int (nI a)), (3, .int odd)]) hx hb d_Mdl_lift_162 hl (k := 0) rfl (by decide) (by decide) rfl (fun ls hl => ?_)
          refine lv_goto (tgt := 147) hx hb d_Mdl_lift_165 (by decide) ?_
          refine lv_iload hx hb d_Mdl_lift_147 (lv_at hl 0 rfl) ?_
          refine lv_bipush (v := 8) hx hb d_Mdl_lift_149 (by decide) ?_
          refine lv_icmp_ge (tgt := 168) hx hb d_Mdl_lift_151 (by decide) (fun c9 => absurd c9 (by decide)) (fun _ => ?_)
          refine lv_aload_n hx hb d_Mdl_lift_154 rfl (lv_at hl 1 rfl) ?_
          refine gm_get hx hb hW hown X u_Mdl m53 rfl 21 (by decide) wf_Mdl_122 (v := .ref (E.2.1 + 96)) rfl d_Mdl_lift_155 ?_
          refine lv_iload hx hb d_Mdl_lift_158 (lv_at hl 0 rfl) ?_
          refine lv_iconst (v := 0) hx hb d_Mdl_lift_160 (by decide) ?_
          refine gm_iast hx hb X (k := 5) (mw_row (by decide : q8 96)) (cw_ge _) (by decide) ⟨by decide, by decide⟩ d_Mdl_lift_161 (fun H locs X => ?_)
          rw [mw_upr _ (by decide : q8 96), vu_vu, vu_s] at X
          refine lv_iinc (v := 6) (lv' := [(4, .int 6), (0, .ref (E.2.1 + 53)), (1, .int (nI t)), (2, .int (nI a)), (3, .int odd)]) hx hb d_Mdl_lift_162 hl (k := 0) rfl (by decide) (by decide) rfl (fun ls hl => ?_)
          refine lv_goto (tgt := 147) hx hb d_Mdl_lift_165 (by decide) ?_
          refine lv_iload hx hb d_Mdl_lift_147 (lv_at hl 0 rfl) ?_
          refine lv_bipush (v := 8) hx hb d_Mdl_lift_149 (by decide) ?_
          refine lv_icmp_ge (tgt := 168) hx hb d_Mdl_lift_151 (by decide) (fun c9 => absurd c9 (by decide)) (fun _ => ?_)
          refine lv_aload_n hx hb d_Mdl_lift_154 rfl (lv_at hl 1 rfl) ?_
          refine gm_get hx hb hW hown X u_Mdl m53 rfl 21 (by decide) wf_Mdl_122 (v := .ref (E.2.1 + 96)) rfl d_Mdl_lift_155 ?_
          refine lv_iload hx hb d_Mdl_lift_158 (lv_at hl 0 rfl) ?_
          refine lv_iconst (v := 0) hx hb d_Mdl_lift_160 (by decide) ?_
          refine gm_iast hx hb X (k := 6) (mw_row (by decide : q8 96)) (cw_ge _) (by decide) ⟨by decide, by decide⟩ d_Mdl_lift_161 (fun H locs X => ?_)
          rw [mw_upr _ (by decide : q8 96), vu_vu, vu_s] at X
          refine lv_iinc (v := 7) (lv' := [(4, .int 7), (0, .ref (E.2.1 + 53)), (1, .int (nI t)), (2, .int (nI a)), (3, .int odd)]) hx hb d_Mdl_lift_162 hl (k := 0) rfl (by decide) (by decide) rfl (fun ls hl => ?_)
          refine lv_goto (tgt := 147) hx hb d_Mdl_lift_165 (by decide) ?_
          refine lv_iload hx hb d_Mdl_lift_147 (lv_at hl 0 rfl) ?_
          refine lv_bipush (v := 8) hx hb d_Mdl_lift_149 (by decide) ?_
          refine lv_icmp_ge (tgt := 168) hx hb d_Mdl_lift_151 (by decide) (fun c9 => absurd c9 (by decide)) (fun _ => ?_)
          refine lv_aload_n hx hb d_Mdl_lift_154 rfl (lv_at hl 1 rfl) ?_
          refine gm_get hx hb hW hown X u_Mdl m53 rfl 21 (by decide) wf_Mdl_122 (v := .ref (E.2.1 + 96)) rfl d_Mdl_lift_155 ?_
          refine lv_iload hx hb d_Mdl_lift_158 (lv_at hl 0 rfl) ?_
          refine lv_iconst (v := 0) hx hb d_Mdl_lift_160 (by decide) ?_
          refine gm_iast hx hb X (k := 7) (mw_row (by decide : q8 96)) (cw_ge _) (by decide) ⟨by decide, by decide⟩ d_Mdl_lift_161 (fun H locs X => ?_)
          rw [mw_upr _ (by decide : q8 96), vu_vu, vu_s] at X
          refine lv_iinc (v := 8) (lv' := [(4, .int 8), (0, .ref (E.2.1 + 53)), (1, .int (nI t)), (2, .int (nI a)), (3, .int odd)]) hx hb d_Mdl_lift_162 hl (k := 0) rfl (by decide) (by decide) rfl (fun ls hl => ?_)
          refine lv_goto (tgt := 147) hx hb d_Mdl_lift_165 (by decide) ?_
          refine lv_iload hx hb d_Mdl_lift_147 (lv_at hl 0 rfl) ?_
          refine lv_bipush (v := 8) hx hb d_Mdl_lift_149 (by decide) ?_
          refine lv_icmp_ge (tgt := 168) hx hb d_Mdl_lift_151 (by decide) (fun _ => ?_) (fun c9 => absurd (by decide) c9)
          obtain ⟨τ6, e6⟩ : ∃ x, x = va_up τ4 96 (upd (upd (upd (upd (upd (upd (upd (upd (τ4 96) 0 0) 1 0) 2 0) 3 0) 4 0) 5 0) 6 0) 7 0) := ⟨_, rfl⟩
          rw [← e6] at X
          have kk6 : kt 96 τ4 τ6 := fun j hj => by rw [e6, vu_n hj]
          have z6 : IV (τ6 96) 8 = 0 := by rw [e6, vu_s]; exact IV_z8 _
          have m891_6 : MV φ nP (τ6 (89 + 1)) (φ (IV (τ (80 + a)) 8)) := by rw [kk6 (89 + 1) (by omega)]; exact m891_4
          have m95_6 : MV φ nP (τ6 95) (sqV (φ (IV (τ (80 + a)) 8))) := by rw [kk6 95 (by omega)]; exact m95_4
          have m893_6 : MV φ nP (τ6 (89 + 3)) 1 := by rw [kk6 (89 + 3) (by omega)]; exact m893_4
          have m892_6 : MV φ nP (τ6 (89 + 2)) (fp_pw (sqV (φ (IV (τ (80 + a)) 8))) (NV sRt)) := by rw [kk6 (89 + 2) (by omega)]; exact m892_4
          have R_6 : isR φ nP 99 τ6 := R_4.kp (fun j h1 h2 => kk6 j (by omega))
          have R2_6 : isR ψ nN 107 τ6 := R2_4.kp (fun j h1 h2 => kk6 j (by omega))
          have m96z : MV φ nP (τ6 96) 0 := MV.of0 hf.1 (by decide +kernel) z6
          refine lv_aload_n hx hb d_Mdl_lift_168 rfl (lv_at hl 1 rfl) ?_
          refine gm_get hx hb hW hown X u_Mdl m53 rfl 0 (by decide) wf_Mdl_13 (v := .ref (E.2.1 + 99)) rfl d_Mdl_lift_169 ?_
          refine lv_aload_n hx hb d_Mdl_lift_172 rfl (lv_at hl 1 rfl) ?_
          refine gm_get hx hb hW hown X u_Mdl m53 rfl 21 (by decide) wf_Mdl_122 (v := .ref (E.2.1 + 96)) rfl d_Mdl_lift_173 ?_
          refine lv_aload_n hx hb d_Mdl_lift_176 rfl (lv_at hl 1 rfl) ?_
          refine gm_get hx hb hW hown X u_Mdl m53 rfl 17 (by decide) wf_Mdl_110 (v := .ref (E.2.1 + 89)) rfl d_Mdl_lift_177 ?_
          refine gm_getN hx hb hW hown X u_Rpt (oQ isQ_89) rfl 1 (by decide) wfn_Mdl_19 (v := .ref (E.2.1 + (89 + 2))) rfl d_Mdl_lift_180 ?_
          refine lv_aload_n hx hb d_Mdl_lift_183 rfl (lv_at hl 1 rfl) ?_
          refine gm_get hx hb hW hown X u_Mdl m53 rfl 17 (by decide) wf_Mdl_110 (v := .ref (E.2.1 + 89)) rfl d_Mdl_lift_184 ?_
          refine gm_getN hx hb hW hown X u_Rpt (oQ isQ_89) rfl 1 (by decide) wfn_Mdl_19 (v := .ref (E.2.1 + (89 + 2))) rfl d_Mdl_lift_187 ?_
          refine gm_Vv hx hb hml hown hW X m99 (q_subtract l hpP hf R_6 (isQ.y isQ_89) (by decide) (isQ.y isQ_89) (by omega) m96z m892_6) (n := 3) ⟨⟨wl_Mdl_47, wi_Rng_subtract, wsel_Rng_subtract, winit_Rng, wc_Rng_subtract⟩, by decide +kernel, ⟨Nat.le_of_ble_eq_true rfl, Nat.le_of_ble_eq_true rfl⟩, _, rfl, rfl⟩ rfl hl.1 rfl (Nat.le_of_ble_eq_true rfl) d_Mdl_lift_190 ⟨Nat.le_of_ble_eq_true rfl, Nat.le_of_ble_eq_true rfl⟩ (fun M1 H locs hp X => ?_)
          obtain ⟨τ7, rfl, q7, kk7⟩ := hp
          have m891_7 : MV φ nP (τ7 (89 + 1)) (φ (IV (τ (80 + a)) 8)) := by rw [kk7 (89 + 1) (by omega) (by omega)]; exact m891_6
          have m95_7 : MV φ nP (τ7 95) (sqV (φ (IV (τ (80 + a)) 8))) := by rw [kk7 95 (by omega) (by omega)]; exact m95_6
          have m893_7 : MV φ nP (τ7 (89 + 3)) 1 := by rw [kk7 (89 + 3) (by omega) (by omega)]; exact m893_6
          have m96_7 : MV φ nP (τ7 96) 0 := by rw [kk7 96 (by omega) (by omega)]; exact m96z
          have R_7 : isR φ nP 99 τ7 := R_6.kp (fun j h1 h2 => kk7 j (by omega) (by omega))
          have R2_7 : isR ψ nN 107 τ7 := R2_6.kp (fun j h1 h2 => kk7 j (by omega) (by omega))
          have m892_7 : MV φ nP (τ7 (89 + 2)) (0 - (fp_pw (sqV (φ (IV (τ (80 + a)) 8))) (NV sRt))) := q7
          have hy : MV φ nP (τ7 (89 + 2)) (rtV φ (φ (IV (τ (80 + a)) 8)) odd) := by rw [rtV, if_neg hq]; exact m892_7
          have hpt : mpR φ τ7 89 (some ((φ (IV (τ (80 + a)) 8)), rtV φ (φ (IV (τ (80 + a)) 8)) odd)) := ⟨rtV_on heq, _, _, _, m891_7, hy, m893_7, fun e => hk.1.2.2.1 e, by grind, by grind⟩
          refine lv_aload_n hx hb d_Mdl_lift_193 rfl (lv_at hl 1 rfl) ?_
          refine gm_get hx hb hW hown X u_Mdl m53 rfl 16 (by decide) wf_Mdl_106 (v := .ref (E.2.1 + 88)) rfl d_Mdl_lift_194 ?_
          refine lv_iload_n hx hb d_Mdl_lift_197 rfl (lv_at hl 2 rfl) ?_
          refine gm_aald hx hb X (k := t) (t := E.2.1 + (115 + 4 * t)) m88 rfl rfl ⟨h_t, by decide⟩ (if_pos h_t) d_Mdl_lift_198 ?_
          refine lv_aload_n hx hb d_Mdl_lift_199 rfl (lv_at hl 1 rfl) ?_
          refine gm_get hx hb hW hown X u_Mdl m53 rfl 17 (by decide) wf_Mdl_110 (v := .ref (E.2.1 + 89)) rfl d_Mdl_lift_200 ?_
          refine gm_Vv hx hb hml hown hW X (oQ (isQ_p h_t)) (q_Rpt_take l E N τ7 0 (isQ_p h_t) isQ_89) (n := 1) ⟨⟨wl_Mdl_50, wi_Rpt_take, wsel_Rpt_take, winit_Rpt, wc_Rpt_take⟩, by decide +kernel, ⟨Nat.le_of_ble_eq_true rfl, Nat.le_of_ble_eq_true rfl⟩, _, rfl, rfl⟩ rfl hl.1 rfl (Nat.le_of_ble_eq_true rfl) d_Mdl_lift_203 ⟨Nat.le_of_ble_eq_true rfl, Nat.le_of_ble_eq_true rfl⟩ (fun M1 H locs hp X => ?_)
          obtain ⟨τ8, rfl, q8, kk8⟩ := hp
          have m891_8 : MV φ nP (τ8 (89 + 1)) (φ (IV (τ (80 + a)) 8)) := by rw [kk8 (89 + 1) (by omega)]; exact m891_7
          have m95_8 : MV φ nP (τ8 95) (sqV (φ (IV (τ (80 + a)) 8))) := by rw [kk8 95 (by omega)]; exact m95_7
          have m893_8 : MV φ nP (τ8 (89 + 3)) 1 := by rw [kk8 (89 + 3) (by omega)]; exact m893_7
          have m96_8 : MV φ nP (τ8 96) 0 := by rw [kk8 96 (by omega)]; exact m96_7
          have m892_8 : MV φ nP (τ8 (89 + 2)) (0 - (fp_pw (sqV (φ (IV (τ (80 + a)) 8))) (NV sRt))) := by rw [kk8 (89 + 2) (by omega)]; exact m892_7
          have R_8 : isR φ nP 99 τ8 := R_7.kp (fun j h1 h2 => kk8 j (by omega))
          have R2_8 : isR ψ nN 107 τ8 := R2_7.kp (fun j h1 h2 => kk8 j (by omega))
          refine lv_iconst (v := 1) hx hb d_Mdl_lift_206 (by decide) ?_
          exact gm_zret hx hb hr2 hlk X rfl ⟨_, rfl, Or.inr ⟨rfl, ⟨hsq.1, heq⟩, hpt.kept q8.1 q8.2.1 q8.2.2, fun j hj h1 => by have hj := hj.o; rw [kk8 j (by omega), kk7 j (by omega) (by omega), kk6 j (by omega), kk4 j (by omega) (by omega), kk3 j (by omega) (by omega), kk2 j (by omega) (by omega), kk1 j (by omega) (by omega) (by omega)]⟩⟩ d_Mdl_lift_207
      · refine lv_iconst (v := 1) hx hb d_Mdl_lift_135 (by decide) ?_
        refine lv_goto (tgt := 140) hx hb d_Mdl_lift_136 (by decide) ?_
        refine lv_iload_n hx hb d_Mdl_lift_140 rfl (lv_at hl 3 rfl) ?_
        refine lv_icmp_eq (tgt := 193) hx hb d_Mdl_lift_141 (by decide) (fun c141 => ?_) (fun c141 => ?_)
        · have hq : (rp φ nP (fp_pw (sqV (φ (IV (τ (80 + a)) 8))) (NV sRt)) % 2 = 1) ↔ odd = 1 := by
            exact ⟨fun _ => c141.symm, fun _ => pr.mp c132⟩
          have hy : MV φ nP (τ4 (89 + 2)) (rtV φ (φ (IV (τ (80 + a)) 8)) odd) := by rw [rtV, if_pos hq]; exact m892_4
          have hpt : mpR φ τ4 89 (some ((φ (IV (τ (80 + a)) 8)), rtV φ (φ (IV (τ (80 + a)) 8)) odd)) := ⟨rtV_on heq, _, _, _, m891_4, hy, m893_4, fun e => hk.1.2.2.1 e, by grind, by grind⟩
          refine lv_aload_n hx hb d_Mdl_lift_193 rfl (lv_at hl 0 rfl) ?_
          refine gm_get hx hb hW hown X u_Mdl m53 rfl 16 (by decide) wf_Mdl_106 (v := .ref (E.2.1 + 88)) rfl d_Mdl_lift_194 ?_
          refine lv_iload_n hx hb d_Mdl_lift_197 rfl (lv_at hl 1 rfl) ?_
          refine gm_aald hx hb X (k := t) (t := E.2.1 + (115 + 4 * t)) m88 rfl rfl ⟨h_t, by decide⟩ (if_pos h_t) d_Mdl_lift_198 ?_
          refine lv_aload_n hx hb d_Mdl_lift_199 rfl (lv_at hl 0 rfl) ?_
          refine gm_get hx hb hW hown X u_Mdl m53 rfl 17 (by decide) wf_Mdl_110 (v := .ref (E.2.1 + 89)) rfl d_Mdl_lift_200 ?_
          refine gm_Vv hx hb hml hown hW X (oQ (isQ_p h_t)) (q_Rpt_take l E N τ4 0 (isQ_p h_t) isQ_89) (n := 1) ⟨⟨wl_Mdl_50, wi_Rpt_take, wsel_Rpt_take, winit_Rpt, wc_Rpt_take⟩, by decide +kernel, ⟨Nat.le_of_ble_eq_true rfl, Nat.le_of_ble_eq_true rfl⟩, _, rfl, rfl⟩ rfl hl.1 rfl (Nat.le_of_ble_eq_true rfl) d_Mdl_lift_203 ⟨Nat.le_of_ble_eq_true rfl, Nat.le_of_ble_eq_true rfl⟩ (fun M1 H locs hp X => ?_)
          obtain ⟨τ9, rfl, q9, kk9⟩ := hp
          have m891_9 : MV φ nP (τ9 (89 + 1)) (φ (IV (τ (80 + a)) 8)) := by rw [kk9 (89 + 1) (by omega)]; exact m891_4
          have m95_9 : MV φ nP (τ9 95) (sqV (φ (IV (τ (80 + a)) 8))) := by rw [kk9 95 (by omega)]; exact m95_4
          have m893_9 : MV φ nP (τ9 (89 + 3)) 1 := by rw [kk9 (89 + 3) (by omega)]; exact m893_4
          have m892_9 : MV φ nP (τ9 (89 + 2)) (fp_pw (sqV (φ (IV (τ (80 + a)) 8))) (NV sRt)) := by rw [kk9 (89 + 2) (by omega)]; exact m892_4
          have m96_9 : MV φ nP (τ9 96) ((fp_pw (sqV (φ (IV (τ (80 + a)) 8))) (NV sRt)) * (fp_pw (sqV (φ (IV (τ (80 + a)) 8))) (NV sRt))) := by rw [kk9 96 (by omega)]; exact m96_4
          have p94_9 : PV φ nP (τ9 94) (fp_pw (sqV (φ (IV (τ (80 + a)) 8))) (NV sRt)) := by rw [kk9 94 (by omega)]; exact p94_4
          have R_9 : isR φ nP 99 τ9 := R_4.kp (fun j h1 h2 => kk9 j (by omega))
          have R2_9 : isR ψ nN 107 τ9 := R2_4.kp (fun j h1 h2 => kk9 j (by omega))
          refine lv_iconst (v := 1) hx hb d_Mdl_lift_206 (by decide) ?_
          exact gm_zret hx hb hr2 hlk X rfl ⟨_, rfl, Or.inr ⟨rfl, ⟨hsq.1, heq⟩, hpt.kept q9.1 q9.2.1 q9.2.2, fun j hj h1 => by have hj := hj.o; rw [kk9 j (by omega), kk4 j (by omega) (by omega), kk3 j (by omega) (by omega), kk2 j (by omega) (by omega), kk1 j (by omega) (by omega) (by omega)]⟩⟩ d_Mdl_lift_207
        · have hq : ¬ ((rp φ nP (fp_pw (sqV (φ (IV (τ (80 + a)) 8))) (NV sRt)) % 2 = 1) ↔ odd = 1) := by
            exact fun q => c141 (q.mp (pr.mp c132)).symm
          refine lv_iconst (v := 0) hx hb d_Mdl_lift_144 (by decide) ?_
          refine lv_istore (lv' := [(4, .int 0), (0, .ref (E.2.1 + 53)), (1, .int (nI t)), (2, .int (nI a)), (3, .int odd)]) hx hb d_Mdl_lift_145 hl (by decide) rfl (fun ls hl => ?_)
          refine lv_iload hx hb d_Mdl_lift_147 (lv_at hl 0 rfl) ?_
          refine lv_bipush (v := 8) hx hb d_Mdl_lift_149 (by decide) ?_
          refine lv_icmp_ge (tgt := 168) hx hb d_Mdl_lift_151 (by decide) (fun c9 => absurd c9 (by decide)) (fun _ => ?_)
          refine lv_aload_n hx hb d_Mdl_lift_154 rfl (lv_at hl 1 rfl) ?_
          refine gm_get hx hb hW hown X u_Mdl m53 rfl 21 (by decide) wf_Mdl_122 (v := .ref (E.2.1 + 96)) rfl d_Mdl_lift_155 ?_
          refine lv_iload hx hb d_Mdl_lift_158 (lv_at hl 0 rfl) ?_
          refine lv_iconst (v := 0) hx hb d_Mdl_lift_160 (by decide) ?_
          refine gm_iast hx hb X (k := 0) (mw_row (by decide : q8 96)) (cw_ge _) (by decide) ⟨by decide, by decide⟩ d_Mdl_lift_161 (fun H locs X => ?_)
          rw [mw_upr _ (by decide : q8 96)] at X
          refine lv_iinc (v := 1) (lv' := [(4, .int 1), (0, .ref (E.2.1 + 53)), (1, .int (nI t)), (2, .int (nI a)), (3, .int odd)]) hx hb d_Mdl_lift_162 hl (k := 0) rfl (by decide) (by decide) rfl (fun ls hl => ?_)
          refine lv_goto (tgt := 147) hx hb d_Mdl_lift_165 (by decide) ?_
          refine lv_iload hx hb d_Mdl_lift_147 (lv_at hl 0 rfl) ?_
          refine lv_bipush (v := 8) hx hb d_Mdl_lift_149 (by decide) ?_
          refine lv_icmp_ge (tgt := 168) hx hb d_Mdl_lift_151 (by decide) (fun c9 => absurd c9 (by decide)) (fun _ => ?_)
          refine lv_aload_n hx hb d_Mdl_lift_154 rfl (lv_at hl 1 rfl) ?_
          refine gm_get hx hb hW hown X u_Mdl m53 rfl 21 (by decide) wf_Mdl_122 (v := .ref (E.2.1 + 96)) rfl d_Mdl_lift_155 ?_
          refine lv_iload hx hb d_Mdl_lift_158 (lv_at hl 0 rfl) ?_
          refine lv_iconst (v := 0) hx hb d_Mdl_lift_160 (by decide) ?_
          refine gm_iast hx hb X (k := 1) (mw_row (by decide : q8 96)) (cw_ge _) (by decide) ⟨by decide, by decide⟩ d_Mdl_lift_161 (fun H locs X => ?_)
          rw [mw_upr _ (by decide : q8 96), vu_vu, vu_s] at X
          refine lv_iinc (v := 2) (lv' := [(4, .int 2), (0, .ref (E.2.1 + 53)), (1, .int (nI t)), (2, .int (nI a)), (3, .int odd)]) hx hb d_Mdl_lift_162 hl (k := 0) rfl (by decide) (by decide) rfl (fun ls hl => ?_)
          refine lv_goto (tgt := 147) hx hb d_Mdl_lift_165 (by decide) ?_
          refine lv_iload hx hb d_Mdl_lift_147 (lv_at hl 0 rfl) ?_
          refine lv_bipush (v := 8) hx hb d_Mdl_lift_149 (by decide) ?_
          refine lv_icmp_ge (tgt := 168) hx hb d_Mdl_lift_151 (by decide) (fun c9 => absurd c9 (by decide)) (fun _ => ?_)
          refine lv_aload_n hx hb d_Mdl_lift_154 rfl (lv_at hl 1 rfl) ?_
          refine gm_get hx hb hW hown X u_Mdl m53 rfl 21 (by decide) wf_Mdl_122 (v := .ref (E.2.1 + 96)) rfl d_Mdl_lift_155 ?_
          refine lv_iload hx hb d_Mdl_lift_158 (lv_at hl 0 rfl) ?_
          refine lv_iconst (v := 0) hx hb d_Mdl_lift_160 (by decide) ?_
          refine gm_iast hx hb X (k := 2) (mw_row (by decide : q8 96)) (cw_ge _) (by decide) ⟨by decide, by decide⟩ d_Mdl_lift_161 (fun H locs X => ?_)
          rw [mw_upr _ (by decide : q8 96), vu_vu, vu_s] at X
          refine lv_iinc (v := 3) (lv' := [(4, .int 3), (0, .ref (E.2.1 + 53)), (1, .int (nI t)), (2, .int (nI a)), (3, .int odd)]) hx hb d_Mdl_lift_162 hl (k := 0) rfl (by decide) (by decide) rfl (fun ls hl => ?_)
          refine lv_goto (tgt := 147) hx hb d_Mdl_lift_165 (by decide) ?_
          refine lv_iload hx hb d_Mdl_lift_147 (lv_at hl 0 rfl) ?_
          refine lv_bipush (v := 8) hx hb d_Mdl_lift_149 (by decide) ?_
          refine lv_icmp_ge (tgt := 168) hx hb d_Mdl_lift_151 (by decide) (fun c9 => absurd c9 (by decide)) (fun _ => ?_)
          refine lv_aload_n hx hb d_Mdl_lift_154 rfl (lv_at hl 1 rfl) ?_
          refine gm_get hx hb hW hown X u_Mdl m53 rfl 21 (by decide) wf_Mdl_122 (v := .ref (E.2.1 + 96)) rfl d_Mdl_lift_155 ?_
          refine lv_iload hx hb d_Mdl_lift_158 (lv_at hl 0 rfl) ?_
          refine lv_iconst (v := 0) hx hb d_Mdl_lift_160 (by decide) ?_
          refine gm_iast hx hb X (k := 3) (mw_row (by decide : q8 96)) (cw_ge _) (by decide) ⟨by decide, by decide⟩ d_Mdl_lift_161 (fun H locs X => ?_)
          rw [mw_upr _ (by decide : q8 96), vu_vu, vu_s] at X
          refine lv_iinc (v := 4) (lv' := [(4, .int 4), (0, .ref (E.2.1 + 53)), (1, .int (nI t)), (2, .int (nI a)), (3, .int odd)]) hx hb d_Mdl_lift_162 hl (k := 0) rfl (by decide) (by decide) rfl (fun ls hl => ?_)
          refine lv_goto (tgt := 147) hx hb d_Mdl_lift_165 (by decide) ?_
          refine lv_iload hx hb d_Mdl_lift_147 (lv_at hl 0 rfl) ?_
          refine lv_bipush (v := 8) hx hb d_Mdl_lift_149 (by decide) ?_
          refine lv_icmp_ge (tgt := 168) hx hb d_Mdl_lift_151 (by decide) (fun c9 => absurd c9 (by decide)) (fun _ => ?_)
          refine lv_aload_n hx hb d_Mdl_lift_154 rfl (lv_at hl 1 rfl) ?_
          refine gm_get hx hb hW hown X u_Mdl m53 rfl 21 (by decide) wf_Mdl_122 (v := .ref (E.2.1 + 96)) rfl d_Mdl_lift_155 ?_
          refine lv_iload hx hb d_Mdl_lift_158 (lv_at hl 0 rfl) ?_
          refine lv_iconst (v := 0) hx hb d_Mdl_lift_160 (by decide) ?_
          refine gm_iast hx hb X (k := 4) (mw_row (by decide : q8 96)) (cw_ge _) (by decide) ⟨by decide, by decide⟩ d_Mdl_lift_161 (fun H locs X => ?_)
          rw [mw_upr _ (by decide : q8 96), vu_vu, vu_s] at X
          refine lv_iinc (v := 5) (lv' := [(4, .int 5), (0, .ref (E.2.1 + 53)), (1, .int (nI t)), (2, .int (nI a)), (3, .int odd)]) hx hb d_Mdl_lift_162 hl (k := 0) rfl (by decide) (by decide) rfl (fun ls hl => ?_)
          refine lv_goto (tgt := 147) hx hb d_Mdl_lift_165 (by decide) ?_
          refine lv_iload hx hb d_Mdl_lift_147 (lv_at hl 0 rfl) ?_
          refine lv_bipush (v := 8) hx hb d_Mdl_lift_149 (by decide) ?_
          refine lv_icmp_ge (tgt := 168) hx hb d_Mdl_lift_151 (by decide) (fun c9 => absurd c9 (by decide)) (fun _ => ?_)
          refine lv_aload_n hx hb d_Mdl_lift_154 rfl (lv_at hl 1 rfl) ?_
          refine gm_get hx hb hW hown X u_Mdl m53 rfl 21 (by decide) wf_Mdl_122 (v := .ref (E.2.1 + 96)) rfl d_Mdl_lift_155 ?_
          refine lv_iload hx hb d_Mdl_lift_158 (lv_at hl 0 rfl) ?_
          refine lv_iconst (v := 0) hx hb d_Mdl_lift_160 (by decide) ?_
          refine gm_iast hx hb X (k := 5) (mw_row (by decide : q8 96)) (cw_ge _) (by decide) ⟨by decide, by decide⟩ d_Mdl_lift_161 (fun H locs X => ?_)
          rw [mw_upr _ (by decide : q8 96), vu_vu, vu_s] at X
          refine lv_iinc (v := 6) (lv' := [(4, .int 6), (0, .ref (E.2.1 + 53)), (1, .int (nI t)), (2, .int (nI a)), (3, .int odd)]) hx hb d_Mdl_lift_162 hl (k := 0) rfl (by decide) (by decide) rfl (fun ls hl => ?_)
          refine lv_goto (tgt := 147) hx hb d_Mdl_lift_165 (by decide) ?_
          refine lv_iload hx hb d_Mdl_lift_147 (lv_at hl 0 rfl) ?_
          refine lv_bipush (v := 8) hx hb d_Mdl_lift_149 (by decide) ?_
          refine lv_icmp_ge (tgt := 168) hx hb d_Mdl_lift_151 (by decide) (fun c9 => absurd c9 (by decide)) (fun _ => ?_)
          refine lv_aload_n hx hb d_Mdl_lift_154 rfl (lv_at hl 1 rfl) ?_
          refine gm_get hx hb hW hown X u_Mdl m53 rfl 21 (by decide) wf_Mdl_122 (v := .ref (E.2.1 + 96)) rfl d_Mdl_lift_155 ?_
          refine lv_iload hx hb d_Mdl_lift_158 (lv_at hl 0 rfl) ?_
          refine lv_iconst (v := 0) hx hb d_Mdl_lift_160 (by decide) ?_
          refine gm_iast hx hb X (k := 6) (mw_row (by decide : q8 96)) (cw_ge _) (by decide) ⟨by decide, by decide⟩ d_Mdl_lift_161 (fun H locs X => ?_)
          rw [mw_upr _ (by decide : q8 96), vu_vu, vu_s] at X
          refine lv_iinc (v := 7) (lv' := [(4, .int 7), (0, .ref (E.2.1 + 53)), (1, .int (nI t)), (2, .int (nI a)), (3, .int odd)]) hx hb d_Mdl_lift_162 hl (k := 0) rfl (by decide) (by decide) rfl (fun ls hl => ?_)
          refine lv_goto (tgt := 147) hx hb d_Mdl_lift_165 (by decide) ?_
          refine lv_iload hx hb d_Mdl_lift_147 (lv_at hl 0 rfl) ?_
          refine lv_bipush (v := 8) hx hb d_Mdl_lift_149 (by decide) ?_
          refine lv_icmp_ge (tgt := 168) hx hb d_Mdl_lift_151 (by decide) (fun c9 => absurd c9 (by decide)) (fun _ => ?_)
          refine lv_aload_n hx hb d_Mdl_lift_154 rfl (lv_at hl 1 rfl) ?_
          refine gm_get hx hb hW hown X u_Mdl m53 rfl 21 (by decide) wf_Mdl_122 (v := .ref (E.2.1 + 96)) rfl d_Mdl_lift_155 ?_
          refine lv_iload hx hb d_Mdl_lift_158 (lv_at hl 0 rfl) ?_
          refine lv_iconst (v := 0) hx hb d_Mdl_lift_160 (by decide) ?_
          refine gm_iast hx hb X (k := 7) (mw_row (by decide : q8 96)) (cw_ge _) (by decide) ⟨by decide, by decide⟩ d_Mdl_lift_161 (fun H locs X => ?_)
          rw [mw_upr _ (by decide : q8 96), vu_vu, vu_s] at X
          refine lv_iinc (v := 8) (lv' := [(4, .int 8), (0, .ref (E.2.1 + 53)), (1, .int (nI t)), (2, .int (nI a)), (3, .int odd)]) hx hb d_Mdl_lift_162 hl (k := 0) rfl (by decide) (by decide) rfl (fun ls hl => ?_)
          refine lv_goto (tgt := 147) hx hb d_Mdl_lift_165 (by decide) ?_
          refine lv_iload hx hb d_Mdl_lift_147 (lv_at hl 0 rfl) ?_
          refine lv_bipush (v := 8) hx hb d_Mdl_lift_149 (by decide) ?_
          refine lv_icmp_ge (tgt := 168) hx hb d_Mdl_lift_151 (by decide) (fun _ => ?_) (fun c9 => absurd (by decide) c9)
          obtain ⟨τ10, e10⟩ : ∃ x, x = va_up τ4 96 (upd (upd (upd (upd (upd (upd (upd (upd (τ4 96) 0 0) 1 0) 2 0) 3 0) 4 0) 5 0) 6 0) 7 0) := ⟨_, rfl⟩
          rw [← e10] at X
          have kk10 : kt 96 τ4 τ10 := fun j hj => by rw [e10, vu_n hj]
          have z10 : IV (τ10 96) 8 = 0 := by rw [e10, vu_s]; exact IV_z8 _
          have m891_10 : MV φ nP (τ10 (89 + 1)) (φ (IV (τ (80 + a)) 8)) := by rw [kk10 (89 + 1) (by omega)]; exact m891_4
          have m95_10 : MV φ nP (τ10 95) (sqV (φ (IV (τ (80 + a)) 8))) := by rw [kk10 95 (by omega)]; exact m95_4
          have m893_10 : MV φ nP (τ10 (89 + 3)) 1 := by rw [kk10 (89 + 3) (by omega)]; exact m893_4
          have m892_10 : MV φ nP (τ10 (89 + 2)) (fp_pw (sqV (φ (IV (τ (80 + a)) 8))) (NV sRt)) := by rw [kk10 (89 + 2) (by omega)]; exact m892_4
          have R_10 : isR φ nP 99 τ10 := R_4.kp (fun j h1 h2 => kk10 j (by omega))
          have R2_10 : isR ψ nN 107 τ10 := R2_4.kp (fun j h1 h2 => kk10 j (by omega))
          have m96z : MV φ nP (τ10 96) 0 := MV.of0 hf.1 (by decide +kernel) z10
          refine lv_aload_n hx hb d_Mdl_lift_168 rfl (lv_at hl 1 rfl) ?_
          refine gm_get hx hb hW hown X u_Mdl m53 rfl 0 (by decide) wf_Mdl_13 (v := .ref (E.2.1 + 99)) rfl d_Mdl_lift_169 ?_
          refine lv_aload_n hx hb d_Mdl_lift_172 rfl (lv_at hl 1 rfl) ?_
          refine gm_get hx hb hW hown X u_Mdl m53 rfl 21 (by decide) wf_Mdl_122 (v := .ref (E.2.1 + 96)) rfl d_Mdl_lift_173 ?_
          refine lv_aload_n hx hb d_Mdl_lift_176 rfl (lv_at hl 1 rfl) ?_
          refine gm_get hx hb hW hown X u_Mdl m53 rfl 17 (by decide) wf_Mdl_110 (v := .ref (E.2.1 + 89)) rfl d_Mdl_lift_177 ?_
          refine gm_getN hx hb hW hown X u_Rpt (oQ isQ_89) rfl 1 (by decide) wfn_Mdl_19 (v := .ref (E.2.1 + (89 + 2))) rfl d_Mdl_lift_180 ?_
          refine lv_aload_n hx hb d_Mdl_lift_183 rfl (lv_at hl 1 rfl) ?_
          refine gm_get hx hb hW hown X u_Mdl m53 rfl 17 (by decide) wf_Mdl_110 (v := .ref (E.2.1 + 89)) rfl d_Mdl_lift_184 ?_
          refine gm_getN hx hb hW hown X u_Rpt (oQ isQ_89) rfl 1 (by decide) wfn_Mdl_19 (v := .ref (E.2.1 + (89 + 2))) rfl d_Mdl_lift_187 ?_
          refine gm_Vv hx hb hml hown hW X m99 (q_subtract l hpP hf R_10 (isQ.y isQ_89) (by decide) (isQ.y isQ_89) (by omega) m96z m892_10) (n := 3) ⟨⟨wl_Mdl_47, wi_Rng_subtract, wsel_Rng_subtract, winit_Rng, wc_Rng_subtract⟩, by decide +kernel, ⟨Nat.le_of_ble_eq_true rfl, Nat.le_of_ble_eq_true rfl⟩, _, rfl, rfl⟩ rfl hl.1 rfl (Nat.le_of_ble_eq_true rfl) d_Mdl_lift_190 ⟨Nat.le_of_ble_eq_true rfl, Nat.le_of_ble_eq_true rfl⟩ (fun M1 H locs hp X => ?_)
          obtain ⟨τ11, rfl, q11, kk11⟩ := hp
          have m891_11 : MV φ nP (τ11 (89 + 1)) (φ (IV (τ (80 + a)) 8)) := by rw [kk11 (89 + 1) (by omega) (by omega)]; exact m891_10
          have m95_11 : MV φ nP (τ11 95) (sqV (φ (IV (τ (80 + a)) 8))) := by rw [kk11 95 (by omega) (by omega)]; exact m95_10
          have m893_11 : MV φ nP (τ11 (89 + 3)) 1 := by rw [kk11 (89 + 3) (by omega) (by omega)]; exact m893_10
          have m96_11 : MV φ nP (τ11 96) 0 := by rw [kk11 96 (by omega) (by omega)]; exact m96z
          have R_11 : isR φ nP 99 τ11 := R_10.kp (fun j h1 h2 => kk11 j (by omega) (by omega))
          have R2_11 : isR ψ nN 107 τ11 := R2_10.kp (fun j h1 h2 => kk11 j (by omega) (by omega))
          have m892_11 : MV φ nP (τ11 (89 + 2)) (0 - (fp_pw (sqV (φ (IV (τ (80 + a)) 8))) (NV sRt))) := q11
          have hy : MV φ nP (τ11 (89 + 2)) (rtV φ (φ (IV (τ (80 + a)) 8)) odd) := by rw [rtV, if_neg hq]; exact m892_11
          have hpt : mpR φ τ11 89 (some ((φ (IV (τ (80 + a)) 8)), rtV φ (φ (IV (τ (80 + a)) 8)) odd)) := ⟨rtV_on heq, _, _, _, m891_11, hy, m893_11, fun e => hk.1.2.2.1 e, by grind, by grind⟩
          refine lv_aload_n hx hb d_Mdl_lift_193 rfl (lv_at hl 1 rfl) ?_
          refine gm_get hx hb hW hown X u_Mdl m53 rfl 16 (by decide) wf_Mdl_106 (v := .ref (E.2.1 + 88)) rfl d_Mdl_lift_194 ?_
          refine lv_iload_n hx hb d_Mdl_lift_197 rfl (lv_at hl 2 rfl) ?_
          refine gm_aald hx hb X (k := t) (t := E.2.1 + (115 + 4 * t)) m88 rfl rfl ⟨h_t, by decide⟩ (if_pos h_t) d_Mdl_lift_198 ?_
          refine lv_aload_n hx hb d_Mdl_lift_199 rfl (lv_at hl 1 rfl) ?_
          refine gm_get hx hb hW hown X u_Mdl m53 rfl 17 (by decide) wf_Mdl_110 (v := .ref (E.2.1 + 89)) rfl d_Mdl_lift_200 ?_
          refine gm_Vv hx hb hml hown hW X (oQ (isQ_p h_t)) (q_Rpt_take l E N τ11 0 (isQ_p h_t) isQ_89) (n := 1) ⟨⟨wl_Mdl_50, wi_Rpt_take, wsel_Rpt_take, winit_Rpt, wc_Rpt_take⟩, by decide +kernel, ⟨Nat.le_of_ble_eq_true rfl, Nat.le_of_ble_eq_true rfl⟩, _, rfl, rfl⟩ rfl hl.1 rfl (Nat.le_of_ble_eq_true rfl) d_Mdl_lift_203 ⟨Nat.le_of_ble_eq_true rfl, Nat.le_of_ble_eq_true rfl⟩ (fun M1 H locs hp X => ?_)
          obtain ⟨τ12, rfl, q12, kk12⟩ := hp
          have m891_12 : MV φ nP (τ12 (89 + 1)) (φ (IV (τ (80 + a)) 8)) := by rw [kk12 (89 + 1) (by omega)]; exact m891_11
          have m95_12 : MV φ nP (τ12 95) (sqV (φ (IV (τ (80 + a)) 8))) := by rw [kk12 95 (by omega)]; exact m95_11
          have m893_12 : MV φ nP (τ12 (89 + 3)) 1 := by rw [kk12 (89 + 3) (by omega)]; exact m893_11
          have m96_12 : MV φ nP (τ12 96) 0 := by rw [kk12 96 (by omega)]; exact m96_11
          have m892_12 : MV φ nP (τ12 (89 + 2)) (0 - (fp_pw (sqV (φ (IV (τ (80 + a)) 8))) (NV sRt))) := by rw [kk12 (89 + 2) (by omega)]; exact m892_11
          have R_12 : isR φ nP 99 τ12 := R_11.kp (fun j h1 h2 => kk12 j (by omega))
          have R2_12 : isR ψ nN 107 τ12 := R2_11.kp (fun j h1 h2 => kk12 j (by omega))
          refine lv_iconst (v := 1) hx hb d_Mdl_lift_206 (by decide) ?_
          exact gm_zret hx hb hr2 hlk X rfl ⟨_, rfl, Or.inr ⟨rfl, ⟨hsq.1, heq⟩, hpt.kept q12.1 q12.2.1 q12.2.2, fun j hj h1 => by have hj := hj.o; rw [kk12 j (by omega), kk11 j (by omega) (by omega), kk10 j (by omega), kk4 j (by omega) (by omega), kk3 j (by omega) (by omega), kk2 j (by omega) (by omega), kk1 j (by omega) (by omega) (by omega)]⟩⟩ d_Mdl_lift_207
    · have heq : ¬ (fp_pw (sqV (φ (IV (τ (80 + a)) 8))) (NV sRt)) * (fp_pw (sqV (φ (IV (τ (80 + a)) 8))) (NV sRt)) = sqV (φ (IV (τ (80 + a)) 8)) := by rcases h_re with h | h; exact absurd (h.1.symm.trans c100) (by decide); exact fun e => h.2 (hin.mpr e.symm)
      refine lv_iconst (v := 0) hx hb d_Mdl_lift_103 (by decide) ?_
      exact gm_zret hx hb hr2 hlk X rfl ⟨_, rfl, Or.inl ⟨rfl, fun z => heq z.2, fun j hj h1 h2 => by have hj := hj.o; rw [kk3 j (by omega) (by omega), kk2 j (by omega) (by omega), kk1 j (by omega) (by omega) (by omega)]⟩⟩ d_Mdl_lift_104
  · have hsq : ¬ (IV (τ (80 + a)) 8 : Int) < nP := by rcases q1 with h | h; exact absurd (h.1.symm.trans c39) (by decide); exact h.2
    refine lv_iconst (v := 0) hx hb d_Mdl_lift_42 (by decide) ?_
    exact gm_zret hx hb hr2 hlk X rfl ⟨_, rfl, Or.inl ⟨rfl, fun z => hsq z.1, fun j hj h1 h2 => by have hj := hj.o; rw [kk1 j (by omega) (by omega) (by omega)]⟩⟩ d_Mdl_lift_43
set_option maxHeartbeats 4000000 in
theorem r_Mdl_show_ok {F G : Type} [Lean.Grind.CommRing F] [Lean.Grind.CommRing G] {φ : Int → F} {inv : F → F} {ψ : Int → G} (l : Launch) (E : gm_E) (N : gm_M) (τ : Nat → Nat → Int32) (cd : Int32) (hk : fk φ inv) {Ri : F} (hR : φ (tq 8) * Ri = 1) (hgN : fm ψ nN) {Si : G} (hS : ψ (tq 8) * Si = 1) (hr : isR φ nP 99 τ) (hrN : isR ψ nN 107 τ) (h7 : MV φ nP (τ 54) 7) {t : Nat} (h_t : t < 4) {a : Nat} (h_a : a < 8) {b : Nat} (h_b : b < 8) {pp : Option (F × F)} (hpp : mpR φ τ (115 + 4 * t) pp) : ci_ l y_Mdl_show b_Mdl_show 4 (some .boolean) { frames := 4, cells := 0, slots := 0, locals := 101 } E (mW E N τ cd) [.ref (E.2.1 + 53), .int (nI t), .int (nI a), .int (nI b)] (fun r M' => ∃ τ', M' = mW E N τ' 0 ∧ ((r = 0 ∧ pp = none ∧ kMn 0 0 τ τ') ∨ (r = 1 ∧ ∃ a0, pp = some a0 ∧ IV (τ' (80 + b)) 8 = rp φ nP a0.2 ∧ (a ≠ b → IV (τ' (80 + a)) 8 = rp φ nP a0.1) ∧ kMn (80 + a) (80 + b) τ τ'))) := by
  have hf := hk.fm
  have hpP := rPl_P E
  have hpN := rPl_N E
  refine gm_met (by decide) (Nat.le_of_ble_eq_true rfl) (fun p e s m below meth c ls hx hb hml hr2 hlk hnm hown hW X hl => ?_)
  have hl : lv_has ls 4 [(0, .ref (E.2.1 + 53)), (1, .int (nI t)), (2, .int (nI a)), (3, .int (nI b))] := hl
  refine lv_aload_n hx hb d_Mdl_show_0 rfl (lv_at hl 0 rfl) ?_
  refine lv_iload_n hx hb d_Mdl_show_1 rfl (lv_at hl 1 rfl) ?_
  refine lv_iconst (v := 3) hx hb d_Mdl_show_2 (by decide) ?_
  refine gm_Si hx hb hml hown hW X (r_Mdl_in_4 l E N τ cd) (n := 2) ⟨⟨wl_Mdl_164, ws_Mdl_in, winit_Mdl, wc_Mdl_in⟩, by decide +kernel, Nat.le_of_ble_eq_true rfl, Nat.le_of_ble_eq_true rfl⟩ rfl hl.1 rfl (Nat.le_of_ble_eq_true rfl) d_Mdl_show_3 ⟨Nat.le_of_ble_eq_true rfl, Nat.le_of_ble_eq_true rfl⟩ (fun r0 M1 H locs hp X => ?_)
  rw [hp.1] at X
  have hz0 : r0 = 1 := by rcases hp.2 with h | h; exact h.1; exact absurd ⟨t, h_t, rfl⟩ h.2
  refine lv_if_eq (tgt := 31) hx hb d_Mdl_show_6 (by decide) (fun c9 => absurd (hz0.symm.trans c9) (by decide)) (fun _ => ?_)
  refine lv_iload_n hx hb d_Mdl_show_9 rfl (lv_at hl 2 rfl) ?_
  refine lv_bipush (v := 7) hx hb d_Mdl_show_10 (by decide) ?_
  refine gm_Si hx hb hml hown hW X (r_Mdl_in_8 l E N τ cd) (n := 2) ⟨⟨wl_Mdl_164, ws_Mdl_in, winit_Mdl, wc_Mdl_in⟩, by decide +kernel, Nat.le_of_ble_eq_true rfl, Nat.le_of_ble_eq_true rfl⟩ rfl hl.1 rfl (Nat.le_of_ble_eq_true rfl) d_Mdl_show_12 ⟨Nat.le_of_ble_eq_true rfl, Nat.le_of_ble_eq_true rfl⟩ (fun r1 M1 H locs hp X => ?_)
  rw [hp.1] at X
  have hz1 : r1 = 1 := by rcases hp.2 with h | h; exact h.1; exact absurd ⟨a, h_a, rfl⟩ h.2
  refine lv_if_eq (tgt := 31) hx hb d_Mdl_show_15 (by decide) (fun c9 => absurd (hz1.symm.trans c9) (by decide)) (fun _ => ?_)
  refine lv_iload_n hx hb d_Mdl_show_18 rfl (lv_at hl 3 rfl) ?_
  refine lv_bipush (v := 7) hx hb d_Mdl_show_19 (by decide) ?_
  refine gm_Si hx hb hml hown hW X (r_Mdl_in_8 l E N τ cd) (n := 2) ⟨⟨wl_Mdl_164, ws_Mdl_in, winit_Mdl, wc_Mdl_in⟩, by decide +kernel, Nat.le_of_ble_eq_true rfl, Nat.le_of_ble_eq_true rfl⟩ rfl hl.1 rfl (Nat.le_of_ble_eq_true rfl) d_Mdl_show_21 ⟨Nat.le_of_ble_eq_true rfl, Nat.le_of_ble_eq_true rfl⟩ (fun r2 M1 H locs hp X => ?_)
  rw [hp.1] at X
  have hz2 : r2 = 1 := by rcases hp.2 with h | h; exact h.1; exact absurd ⟨b, h_b, rfl⟩ h.2
  refine lv_if_eq (tgt := 31) hx hb d_Mdl_show_24 (by decide) (fun c9 => absurd (hz2.symm.trans c9) (by decide)) (fun _ => ?_)
  refine lv_iconst (v := 1) hx hb d_Mdl_show_27 (by decide) ?_
  refine lv_goto (tgt := 32) hx hb d_Mdl_show_28 (by decide) ?_
  refine gm_Vi hx hb hml hown hW X m53 (r_Mdl_good_1 l E N τ cd) (n := 1) ⟨⟨wl_Mdl_168, wi_Mdl_good, wsel_Mdl_good, winit_Mdl, wc_Mdl_good⟩, by decide +kernel, ⟨Nat.le_of_ble_eq_true rfl, Nat.le_of_ble_eq_true rfl⟩, _, rfl, rfl⟩ rfl hl.1 rfl (Nat.le_of_ble_eq_true rfl) d_Mdl_show_32 ⟨Nat.le_of_ble_eq_true rfl, Nat.le_of_ble_eq_true rfl⟩ (fun r9 M1 H locs hp X => ?_)
  rw [hp.1] at X
  have hr9 := hp.2
  refine lv_if_eq (tgt := 53) hx hb d_Mdl_show_35 (by decide) (fun c9 => absurd (hr9.symm.trans c9) (by decide)) (fun _ => ?_)
  refine lv_aload_n hx hb d_Mdl_show_38 rfl (lv_at hl 0 rfl) ?_
  refine gm_get hx hb hW hown X u_Mdl m53 rfl 16 (by decide) wf_Mdl_106 (v := .ref (E.2.1 + 88)) rfl d_Mdl_show_39 ?_
  refine lv_iload_n hx hb d_Mdl_show_42 rfl (lv_at hl 1 rfl) ?_
  refine gm_aald hx hb X (k := t) (t := E.2.1 + (115 + 4 * t)) m88 rfl rfl ⟨h_t, by decide⟩ (if_pos h_t) d_Mdl_show_43 ?_
  refine gm_getN hx hb hW hown X u_Rpt (oQ (isQ_p h_t)) rfl 2 (by decide) wfn_Mdl_1 (v := .ref (E.2.1 + ((115 + 4 * t) + 3))) rfl d_Mdl_show_44 ?_
  cases pp with
  | none =>
    have hz_rz : MV φ nP (τ ((115 + 4 * t) + 3)) 0 := hpp
    refine gm_Si hx hb hml hown hW X (q_isZero l hf hR (isQ.z (isQ_p h_t)) hz_rz) (n := 1) ⟨⟨wl_Mdl_7, ws_Rng_isZero, winit_Rng, wc_Rng_isZero⟩, by decide +kernel, Nat.le_of_ble_eq_true rfl, Nat.le_of_ble_eq_true rfl⟩ rfl hl.1 rfl (Nat.le_of_ble_eq_true rfl) d_Mdl_show_47 ⟨Nat.le_of_ble_eq_true rfl, Nat.le_of_ble_eq_true rfl⟩ (fun rz M1 H locs hp X => ?_)
    rw [hp.1] at X
    have e_rz : rz = 1 := by rcases hp.2 with z | z; exact z.1; exact absurd rfl z.2
    refine lv_if_eq (tgt := 55) hx hb d_Mdl_show_50 (by decide) (fun c9 => absurd (e_rz.symm.trans c9) (by decide)) (fun _ => ?_)
    refine lv_iconst (v := 0) hx hb d_Mdl_show_53 (by decide) ?_
    exact gm_zret hx hb hr2 hlk X rfl ⟨_, rfl, Or.inl ⟨rfl, rfl, fun _ _ _ _ => rfl⟩⟩ d_Mdl_show_54
  | some a0 =>
    obtain ⟨on_rz, x_rz, y_rz, z_rz, mx_rz, my_rz, hz_rz, j_rz⟩ := id hpp
    refine gm_Si hx hb hml hown hW X (q_isZero l hf hR (isQ.z (isQ_p h_t)) hz_rz) (n := 1) ⟨⟨wl_Mdl_7, ws_Rng_isZero, winit_Rng, wc_Rng_isZero⟩, by decide +kernel, Nat.le_of_ble_eq_true rfl, Nat.le_of_ble_eq_true rfl⟩ rfl hl.1 rfl (Nat.le_of_ble_eq_true rfl) d_Mdl_show_47 ⟨Nat.le_of_ble_eq_true rfl, Nat.le_of_ble_eq_true rfl⟩ (fun rz M1 H locs hp X => ?_)
    rw [hp.1] at X
    have e_rz : rz = 0 := by rcases hp.2 with z | z; exact absurd z.2 j_rz.1; exact z.1
    refine lv_if_eq (tgt := 55) hx hb d_Mdl_show_50 (by decide) (fun _ => ?_) (fun c9 => absurd e_rz c9)
    refine lv_aload_n hx hb d_Mdl_show_55 rfl (lv_at hl 0 rfl) ?_
    refine lv_aload_n hx hb d_Mdl_show_56 rfl (lv_at hl 0 rfl) ?_
    refine gm_get hx hb hW hown X u_Mdl m53 rfl 16 (by decide) wf_Mdl_106 (v := .ref (E.2.1 + 88)) rfl d_Mdl_show_57 ?_
    refine lv_iload_n hx hb d_Mdl_show_60 rfl (lv_at hl 1 rfl) ?_
    refine gm_aald hx hb X (k := t) (t := E.2.1 + (115 + 4 * t)) m88 rfl rfl ⟨h_t, by decide⟩ (if_pos h_t) d_Mdl_show_61 ?_
    refine lv_aload_n hx hb d_Mdl_show_62 rfl (lv_at hl 0 rfl) ?_
    refine gm_get hx hb hW hown X u_Mdl m53 rfl 13 (by decide) wf_Mdl_95 (v := .ref (E.2.1 + 77)) rfl d_Mdl_show_63 ?_
    refine lv_aload_n hx hb d_Mdl_show_66 rfl (lv_at hl 0 rfl) ?_
    refine gm_get hx hb hW hown X u_Mdl m53 rfl 14 (by decide) wf_Mdl_98 (v := .ref (E.2.1 + 78)) rfl d_Mdl_show_67 ?_
    refine gm_Vv hx hb hml hown hW X m53 (q_Mdl_flat l E N τ 0 hk hR hr (isQ_p h_t) (xx := 77) (yy := 78) (by omega) hpp) (n := 3) ⟨⟨wl_Mdl_188, wi_Mdl_flat, wsel_Mdl_flat, winit_Mdl, wc_Mdl_flat⟩, by decide +kernel, ⟨Nat.le_of_ble_eq_true rfl, Nat.le_of_ble_eq_true rfl⟩, _, rfl, rfl⟩ rfl hl.1 rfl (Nat.le_of_ble_eq_true rfl) d_Mdl_show_70 ⟨Nat.le_of_ble_eq_true rfl, Nat.le_of_ble_eq_true rfl⟩ (fun M1 H locs hp X => ?_)
    obtain ⟨τ1, rfl, q1, qq1, kk1⟩ := hp
    have R_1 : isR φ nP 99 τ1 := hr.kp (fun j h1 h2 => kk1 j (by omega) (by omega) (by omega) (by omega))
    have R2_1 : isR ψ nN 107 τ1 := hrN.kp (fun j h1 h2 => kk1 j (by omega) (by omega) (by omega) (by omega))
    refine lv_aload_n hx hb d_Mdl_show_73 rfl (lv_at hl 0 rfl) ?_
    refine gm_get hx hb hW hown X u_Mdl m53 rfl 13 (by decide) wf_Mdl_95 (v := .ref (E.2.1 + 77)) rfl d_Mdl_show_74 ?_
    refine lv_aload_n hx hb d_Mdl_show_77 rfl (lv_at hl 0 rfl) ?_
    refine gm_get hx hb hW hown X u_Mdl m53 rfl 15 (by decide) wf_Mdl_103 (v := .ref (E.2.1 + 79)) rfl d_Mdl_show_78 ?_
    refine lv_iload_n hx hb d_Mdl_show_81 rfl (lv_at hl 2 rfl) ?_
    refine gm_aald2 hx hb X (k := a) (t := E.2.1 + (80 + a)) m79 rfl rfl ⟨h_a, by decide⟩ (if_pos h_a) d_Mdl_show_82 ?_
    refine gm_Sv hx hb hml hown hW X (q_copy l (q8_n h_a) (by decide)) (n := 2) ⟨⟨wl_Mdl_157, ws_Rng_copy, winit_Rng, wc_Rng_copy⟩, by decide +kernel, Nat.le_of_ble_eq_true rfl, Nat.le_of_ble_eq_true rfl⟩ rfl hl.1 rfl (Nat.le_of_ble_eq_true rfl) d_Mdl_show_83 ⟨Nat.le_of_ble_eq_true rfl, Nat.le_of_ble_eq_true rfl⟩ (fun M1 H locs hp X => ?_)
    obtain ⟨τ2, rfl, q2, kk2⟩ := hp
    have p77_2 : PV φ nP (τ2 77) a0.1 := by rw [kk2 77 (by omega)]; exact q1
    have p78_2 : PV φ nP (τ2 78) a0.2 := by rw [kk2 78 (by omega)]; exact qq1
    have R_2 : isR φ nP 99 τ2 := R_1.kp (fun j h1 h2 => kk2 j (by omega))
    have R2_2 : isR ψ nN 107 τ2 := R2_1.kp (fun j h1 h2 => kk2 j (by omega))
    refine lv_aload_n hx hb d_Mdl_show_86 rfl (lv_at hl 0 rfl) ?_
    refine gm_get hx hb hW hown X u_Mdl m53 rfl 14 (by decide) wf_Mdl_98 (v := .ref (E.2.1 + 78)) rfl d_Mdl_show_87 ?_
    refine lv_aload_n hx hb d_Mdl_show_90 rfl (lv_at hl 0 rfl) ?_
    refine gm_get hx hb hW hown X u_Mdl m53 rfl 15 (by decide) wf_Mdl_103 (v := .ref (E.2.1 + 79)) rfl d_Mdl_show_91 ?_
    refine lv_iload_n hx hb d_Mdl_show_94 rfl (lv_at hl 3 rfl) ?_
    refine gm_aald2 hx hb X (k := b) (t := E.2.1 + (80 + b)) m79 rfl rfl ⟨h_b, by decide⟩ (if_pos h_b) d_Mdl_show_95 ?_
    refine gm_Sv hx hb hml hown hW X (q_copy l (q8_n h_b) (by decide)) (n := 2) ⟨⟨wl_Mdl_157, ws_Rng_copy, winit_Rng, wc_Rng_copy⟩, by decide +kernel, Nat.le_of_ble_eq_true rfl, Nat.le_of_ble_eq_true rfl⟩ rfl hl.1 rfl (Nat.le_of_ble_eq_true rfl) d_Mdl_show_96 ⟨Nat.le_of_ble_eq_true rfl, Nat.le_of_ble_eq_true rfl⟩ (fun M1 H locs hp X => ?_)
    obtain ⟨τ3, rfl, q3, kk3⟩ := hp
    have p77_3 : PV φ nP (τ3 77) a0.1 := by rw [kk3 77 (by omega)]; exact p77_2
    have p78_3 : PV φ nP (τ3 78) a0.2 := by rw [kk3 78 (by omega)]; exact p78_2
    have R_3 : isR φ nP 99 τ3 := R_2.kp (fun j h1 h2 => kk3 j (by omega))
    have R2_3 : isR ψ nN 107 τ3 := R2_2.kp (fun j h1 h2 => kk3 j (by omega))
    refine lv_iconst (v := 1) hx hb d_Mdl_show_99 (by decide) ?_
    exact gm_zret hx hb hr2 hlk X rfl ⟨_, rfl, Or.inr ⟨rfl, a0, rfl, by rw [q3]; exact PV.rep hf p78_2, fun hne => by rw [kk3 (80 + a) (by omega), q2]; exact PV.rep hf q1, fun j hj h1 h2 => by have hj := hj.o; rw [kk3 j (by omega), kk2 j (by omega), kk1 j (by omega) (by omega) (by omega) (by omega)]⟩⟩ d_Mdl_show_100
set_option maxHeartbeats 4000000 in
theorem r_Mdl_add_ok {F G : Type} [Lean.Grind.CommRing F] [Lean.Grind.CommRing G] {φ : Int → F} {inv : F → F} {ψ : Int → G} (l : Launch) (E : gm_E) (N : gm_M) (τ : Nat → Nat → Int32) (cd : Int32) (hk : fk φ inv) {Ri : F} (hR : φ (tq 8) * Ri = 1) (hgN : fm ψ nN) {Si : G} (hS : ψ (tq 8) * Si = 1) (hr : isR φ nP 99 τ) (hrN : isR ψ nN 107 τ) (h7 : MV φ nP (τ 54) 7) {t : Nat} (h_t : t < 4) {a : Nat} (h_a : a < 4) {b : Nat} (h_b : b < 4) {pa pb : Option (F × F)} (hA : mpR φ τ (115 + 4 * a) pa) (hB : mpR φ τ (115 + 4 * b) pb) : cv_ l y_Mdl_add b_Mdl_add 4 none { frames := 4, cells := 0, slots := 0, locals := 96 } E (mW E N τ cd) [.ref (E.2.1 + 53), .int (nI t), .int (nI a), .int (nI b)] (fun M' => ∃ τ', M' = mW E N τ' 0 ∧ mpR φ τ' (115 + 4 * t) (ec_add inv pa pb) ∧ kMp (115 + 4 * t) τ τ') := by
  have hf := hk.fm
  have hpP := rPl_P E
  have hpN := rPl_N E
  refine gm_met (by decide) (Nat.le_of_ble_eq_true rfl) (fun p e s m below meth c ls hx hb hml hr2 hlk hnm hown hW X hl => ?_)
  have hl : lv_has ls 4 [(0, .ref (E.2.1 + 53)), (1, .int (nI t)), (2, .int (nI a)), (3, .int (nI b))] := hl
  refine lv_aload_n hx hb d_Mdl_add_0 rfl (lv_at hl 0 rfl) ?_
  refine lv_iload_n hx hb d_Mdl_add_1 rfl (lv_at hl 1 rfl) ?_
  refine lv_iconst (v := 3) hx hb d_Mdl_add_2 (by decide) ?_
  refine gm_Si hx hb hml hown hW X (r_Mdl_in_4 l E N τ cd) (n := 2) ⟨⟨wl_Mdl_164, ws_Mdl_in, winit_Mdl, wc_Mdl_in⟩, by decide +kernel, Nat.le_of_ble_eq_true rfl, Nat.le_of_ble_eq_true rfl⟩ rfl hl.1 rfl (Nat.le_of_ble_eq_true rfl) d_Mdl_add_3 ⟨Nat.le_of_ble_eq_true rfl, Nat.le_of_ble_eq_true rfl⟩ (fun r0 M1 H locs hp X => ?_)
  rw [hp.1] at X
  have hz0 : r0 = 1 := by rcases hp.2 with h | h; exact h.1; exact absurd ⟨t, h_t, rfl⟩ h.2
  refine lv_if_eq (tgt := 29) hx hb d_Mdl_add_6 (by decide) (fun c9 => absurd (hz0.symm.trans c9) (by decide)) (fun _ => ?_)
  refine lv_iload_n hx hb d_Mdl_add_9 rfl (lv_at hl 2 rfl) ?_
  refine lv_iconst (v := 3) hx hb d_Mdl_add_10 (by decide) ?_
  refine gm_Si hx hb hml hown hW X (r_Mdl_in_4 l E N τ cd) (n := 2) ⟨⟨wl_Mdl_164, ws_Mdl_in, winit_Mdl, wc_Mdl_in⟩, by decide +kernel, Nat.le_of_ble_eq_true rfl, Nat.le_of_ble_eq_true rfl⟩ rfl hl.1 rfl (Nat.le_of_ble_eq_true rfl) d_Mdl_add_11 ⟨Nat.le_of_ble_eq_true rfl, Nat.le_of_ble_eq_true rfl⟩ (fun r1 M1 H locs hp X => ?_)
  rw [hp.1] at X
  have hz1 : r1 = 1 := by rcases hp.2 with h | h; exact h.1; exact absurd ⟨a, h_a, rfl⟩ h.2
  refine lv_if_eq (tgt := 29) hx hb d_Mdl_add_14 (by decide) (fun c9 => absurd (hz1.symm.trans c9) (by decide)) (fun _ => ?_)
  refine lv_iload_n hx hb d_Mdl_add_17 rfl (lv_at hl 3 rfl) ?_
  refine lv_iconst (v := 3) hx hb d_Mdl_add_18 (by decide) ?_
  refine gm_Si hx hb hml hown hW X (r_Mdl_in_4 l E N τ cd) (n := 2) ⟨⟨wl_Mdl_164, ws_Mdl_in, winit_Mdl, wc_Mdl_in⟩, by decide +kernel, Nat.le_of_ble_eq_true rfl, Nat.le_of_ble_eq_true rfl⟩ rfl hl.1 rfl (Nat.le_of_ble_eq_true rfl) d_Mdl_add_19 ⟨Nat.le_of_ble_eq_true rfl, Nat.le_of_ble_eq_true rfl⟩ (fun r2 M1 H locs hp X => ?_)
  rw [hp.1] at X
  have hz2 : r2 = 1 := by rcases hp.2 with h | h; exact h.1; exact absurd ⟨b, h_b, rfl⟩ h.2
  refine lv_if_eq (tgt := 29) hx hb d_Mdl_add_22 (by decide) (fun c9 => absurd (hz2.symm.trans c9) (by decide)) (fun _ => ?_)
  refine lv_iconst (v := 1) hx hb d_Mdl_add_25 (by decide) ?_
  refine lv_goto (tgt := 30) hx hb d_Mdl_add_26 (by decide) ?_
  refine gm_Vi hx hb hml hown hW X m53 (r_Mdl_good_1 l E N τ cd) (n := 1) ⟨⟨wl_Mdl_168, wi_Mdl_good, wsel_Mdl_good, winit_Mdl, wc_Mdl_good⟩, by decide +kernel, ⟨Nat.le_of_ble_eq_true rfl, Nat.le_of_ble_eq_true rfl⟩, _, rfl, rfl⟩ rfl hl.1 rfl (Nat.le_of_ble_eq_true rfl) d_Mdl_add_30 ⟨Nat.le_of_ble_eq_true rfl, Nat.le_of_ble_eq_true rfl⟩ (fun r9 M1 H locs hp X => ?_)
  rw [hp.1] at X
  have hr9 := hp.2
  refine lv_if_ne (tgt := 37) hx hb d_Mdl_add_33 (by decide) (fun _ => ?_) (fun c9 => absurd (hr9.symm.trans c9) (by decide))
  refine lv_aload_n hx hb d_Mdl_add_37 rfl (lv_at hl 0 rfl) ?_
  refine gm_get hx hb hW hown X u_Mdl m53 rfl 5 (by decide) wf_Mdl_86 (v := .ref (E.2.1 + 63)) rfl d_Mdl_add_38 ?_
  refine lv_aload_n hx hb d_Mdl_add_41 rfl (lv_at hl 0 rfl) ?_
  refine gm_get hx hb hW hown X u_Mdl m53 rfl 16 (by decide) wf_Mdl_106 (v := .ref (E.2.1 + 88)) rfl d_Mdl_add_42 ?_
  refine lv_iload_n hx hb d_Mdl_add_45 rfl (lv_at hl 2 rfl) ?_
  refine gm_aald hx hb X (k := a) (t := E.2.1 + (115 + 4 * a)) m88 rfl rfl ⟨h_a, by decide⟩ (if_pos h_a) d_Mdl_add_46 ?_
  refine gm_Vv hx hb hml hown hW X (oQ isQ_63) (q_Rpt_take l E N τ 0 isQ_63 (isQ_p h_a)) (n := 1) ⟨⟨wl_Mdl_50, wi_Rpt_take, wsel_Rpt_take, winit_Rpt, wc_Rpt_take⟩, by decide +kernel, ⟨Nat.le_of_ble_eq_true rfl, Nat.le_of_ble_eq_true rfl⟩, _, rfl, rfl⟩ rfl hl.1 rfl (Nat.le_of_ble_eq_true rfl) d_Mdl_add_47 ⟨Nat.le_of_ble_eq_true rfl, Nat.le_of_ble_eq_true rfl⟩ (fun M1 H locs hp X => ?_)
  obtain ⟨τ1, rfl, q1, kk1⟩ := hp
  have R_1 : isR φ nP 99 τ1 := hr.kp (fun j h1 h2 => kk1 j (by omega))
  have R2_1 : isR ψ nN 107 τ1 := hrN.kp (fun j h1 h2 => kk1 j (by omega))
  have s1 : mpR φ τ1 63 pa := hA.kept q1.1 q1.2.1 q1.2.2
  have b1 : mpR φ τ1 (115 + 4 * b) pb := (hB).kept (show τ1 ((115 + 4 * b) + 1) = τ ((115 + 4 * b) + 1) by rw [kk1 ((115 + 4 * b) + 1) (by omega)]) (show τ1 ((115 + 4 * b) + 2) = τ ((115 + 4 * b) + 2) by rw [kk1 ((115 + 4 * b) + 2) (by omega)]) (show τ1 ((115 + 4 * b) + 3) = τ ((115 + 4 * b) + 3) by rw [kk1 ((115 + 4 * b) + 3) (by omega)])
  refine lv_aload_n hx hb d_Mdl_add_50 rfl (lv_at hl 0 rfl) ?_
  refine gm_get hx hb hW hown X u_Mdl m53 rfl 6 (by decide) wf_Mdl_89 (v := .ref (E.2.1 + 67)) rfl d_Mdl_add_51 ?_
  refine lv_aload_n hx hb d_Mdl_add_54 rfl (lv_at hl 0 rfl) ?_
  refine gm_get hx hb hW hown X u_Mdl m53 rfl 16 (by decide) wf_Mdl_106 (v := .ref (E.2.1 + 88)) rfl d_Mdl_add_55 ?_
  refine lv_iload_n hx hb d_Mdl_add_58 rfl (lv_at hl 3 rfl) ?_
  refine gm_aald hx hb X (k := b) (t := E.2.1 + (115 + 4 * b)) m88 rfl rfl ⟨h_b, by decide⟩ (if_pos h_b) d_Mdl_add_59 ?_
  refine gm_Vv hx hb hml hown hW X (oQ isQ_67) (q_Rpt_take l E N τ1 0 isQ_67 (isQ_p h_b)) (n := 1) ⟨⟨wl_Mdl_50, wi_Rpt_take, wsel_Rpt_take, winit_Rpt, wc_Rpt_take⟩, by decide +kernel, ⟨Nat.le_of_ble_eq_true rfl, Nat.le_of_ble_eq_true rfl⟩, _, rfl, rfl⟩ rfl hl.1 rfl (Nat.le_of_ble_eq_true rfl) d_Mdl_add_60 ⟨Nat.le_of_ble_eq_true rfl, Nat.le_of_ble_eq_true rfl⟩ (fun M1 H locs hp X => ?_)
  obtain ⟨τ2, rfl, q2, kk2⟩ := hp
  have R_2 : isR φ nP 99 τ2 := R_1.kp (fun j h1 h2 => kk2 j (by omega))
  have R2_2 : isR ψ nN 107 τ2 := R2_1.kp (fun j h1 h2 => kk2 j (by omega))
  have s2 : mpR φ τ2 67 pb := b1.kept q2.1 q2.2.1 q2.2.2
  have s1 : mpR φ τ2 63 pa := s1.kept (kk2 _ (by omega)) (kk2 _ (by omega)) (kk2 _ (by omega))
  refine lv_aload_n hx hb d_Mdl_add_63 rfl (lv_at hl 0 rfl) ?_
  refine lv_aload_n hx hb d_Mdl_add_64 rfl (lv_at hl 0 rfl) ?_
  refine gm_get hx hb hW hown X u_Mdl m53 rfl 5 (by decide) wf_Mdl_86 (v := .ref (E.2.1 + 63)) rfl d_Mdl_add_65 ?_
  refine lv_aload_n hx hb d_Mdl_add_68 rfl (lv_at hl 0 rfl) ?_
  refine gm_get hx hb hW hown X u_Mdl m53 rfl 6 (by decide) wf_Mdl_89 (v := .ref (E.2.1 + 67)) rfl d_Mdl_add_69 ?_
  refine gm_Vv hx hb hml hown hW X m53 (q_Mdl_plus l E N τ2 0 hk hR R_2 (by omega) (by omega) (by omega) s1 s2) (n := 2) ⟨⟨wl_Mdl_57, wi_Mdl_plus, wsel_Mdl_plus, winit_Mdl, wc_Mdl_plus⟩, by decide +kernel, ⟨Nat.le_of_ble_eq_true rfl, Nat.le_of_ble_eq_true rfl⟩, _, rfl, rfl⟩ rfl hl.1 rfl (Nat.le_of_ble_eq_true rfl) d_Mdl_add_72 ⟨Nat.le_of_ble_eq_true rfl, Nat.le_of_ble_eq_true rfl⟩ (fun M1 H locs hp X => ?_)
  obtain ⟨τ3, rfl, q3, kk3⟩ := hp
  have R_3 : isR φ nP 99 τ3 := R_2.kp (fun j h1 h2 => kk3 j (by omega) (by omega) (by omega))
  have R2_3 : isR ψ nN 107 τ3 := R2_2.kp (fun j h1 h2 => kk3 j (by omega) (by omega) (by omega))
  refine lv_aload_n hx hb d_Mdl_add_75 rfl (lv_at hl 0 rfl) ?_
  refine gm_get hx hb hW hown X u_Mdl m53 rfl 16 (by decide) wf_Mdl_106 (v := .ref (E.2.1 + 88)) rfl d_Mdl_add_76 ?_
  refine lv_iload_n hx hb d_Mdl_add_79 rfl (lv_at hl 1 rfl) ?_
  refine gm_aald hx hb X (k := t) (t := E.2.1 + (115 + 4 * t)) m88 rfl rfl ⟨h_t, by decide⟩ (if_pos h_t) d_Mdl_add_80 ?_
  refine lv_aload_n hx hb d_Mdl_add_81 rfl (lv_at hl 0 rfl) ?_
  refine gm_get hx hb hW hown X u_Mdl m53 rfl 5 (by decide) wf_Mdl_86 (v := .ref (E.2.1 + 63)) rfl d_Mdl_add_82 ?_
  refine gm_Vv hx hb hml hown hW X (oQ (isQ_p h_t)) (q_Rpt_take l E N τ3 0 (isQ_p h_t) isQ_63) (n := 1) ⟨⟨wl_Mdl_50, wi_Rpt_take, wsel_Rpt_take, winit_Rpt, wc_Rpt_take⟩, by decide +kernel, ⟨Nat.le_of_ble_eq_true rfl, Nat.le_of_ble_eq_true rfl⟩, _, rfl, rfl⟩ rfl hl.1 rfl (Nat.le_of_ble_eq_true rfl) d_Mdl_add_85 ⟨Nat.le_of_ble_eq_true rfl, Nat.le_of_ble_eq_true rfl⟩ (fun M1 H locs hp X => ?_)
  obtain ⟨τ4, rfl, q4, kk4⟩ := hp
  have R_4 : isR φ nP 99 τ4 := R_3.kp (fun j h1 h2 => kk4 j (by omega))
  have R2_4 : isR ψ nN 107 τ4 := R2_3.kp (fun j h1 h2 => kk4 j (by omega))
  exact gm_vret hx hb hr2 hlk X ⟨_, rfl, q3.kept q4.1 q4.2.1 q4.2.2, fun j hj h1 => by have hj := hj.o; rw [kk4 j (by omega), kk3 j (by omega) (by omega) (by omega), kk2 j (by omega), kk1 j (by omega)]⟩ d_Mdl_add_88
set_option maxHeartbeats 4000000 in
theorem r_Mdl_times_ok {F G : Type} [Lean.Grind.CommRing F] [Lean.Grind.CommRing G] {φ : Int → F} {inv : F → F} {ψ : Int → G} (l : Launch) (E : gm_E) (N : gm_M) (τ : Nat → Nat → Int32) (cd : Int32) (hk : fk φ inv) {Ri : F} (hR : φ (tq 8) * Ri = 1) (hgN : fm ψ nN) {Si : G} (hS : ψ (tq 8) * Si = 1) (hr : isR φ nP 99 τ) (hrN : isR ψ nN 107 τ) (h7 : MV φ nP (τ 54) 7) {t : Nat} (h_t : t < 4) {b : Nat} (h_b : b < 8) {a : Nat} (h_a : a < 4) {pa : Option (F × F)} (hA : mpR φ τ (115 + 4 * a) pa) : cv_ l y_Mdl_times b_Mdl_times 4 none { frames := 5, cells := 0, slots := 0, locals := 120 } E (mW E N τ cd) [.ref (E.2.1 + 53), .int (nI t), .int (nI b), .int (nI a)] (fun M' => ∃ τ', M' = mW E N τ' 0 ∧ mpR φ τ' (115 + 4 * t) (ec_nm inv (IV (τ (80 + b)) 8) pa) ∧ kMp (115 + 4 * t) τ τ') := by
  have hf := hk.fm
  have hpP := rPl_P E
  have hpN := rPl_N E
  refine gm_met (by decide) (Nat.le_of_ble_eq_true rfl) (fun p e s m below meth c ls hx hb hml hr2 hlk hnm hown hW X hl => ?_)
  have hl : lv_has ls 4 [(0, .ref (E.2.1 + 53)), (1, .int (nI t)), (2, .int (nI b)), (3, .int (nI a))] := hl
  refine lv_aload_n hx hb d_Mdl_times_0 rfl (lv_at hl 0 rfl) ?_
  refine lv_iload_n hx hb d_Mdl_times_1 rfl (lv_at hl 1 rfl) ?_
  refine lv_iconst (v := 3) hx hb d_Mdl_times_2 (by decide) ?_
  refine gm_Si hx hb hml hown hW X (r_Mdl_in_4 l E N τ cd) (n := 2) ⟨⟨wl_Mdl_164, ws_Mdl_in, winit_Mdl, wc_Mdl_in⟩, by decide +kernel, Nat.le_of_ble_eq_true rfl, Nat.le_of_ble_eq_true rfl⟩ rfl hl.1 rfl (Nat.le_of_ble_eq_true rfl) d_Mdl_times_3 ⟨Nat.le_of_ble_eq_true rfl, Nat.le_of_ble_eq_true rfl⟩ (fun r0 M1 H locs hp X => ?_)
  rw [hp.1] at X
  have hz0 : r0 = 1 := by rcases hp.2 with h | h; exact h.1; exact absurd ⟨t, h_t, rfl⟩ h.2
  refine lv_if_eq (tgt := 30) hx hb d_Mdl_times_6 (by decide) (fun c9 => absurd (hz0.symm.trans c9) (by decide)) (fun _ => ?_)
  refine lv_iload_n hx hb d_Mdl_times_9 rfl (lv_at hl 2 rfl) ?_
  refine lv_bipush (v := 7) hx hb d_Mdl_times_10 (by decide) ?_
  refine gm_Si hx hb hml hown hW X (r_Mdl_in_8 l E N τ cd) (n := 2) ⟨⟨wl_Mdl_164, ws_Mdl_in, winit_Mdl, wc_Mdl_in⟩, by decide +kernel, Nat.le_of_ble_eq_true rfl, Nat.le_of_ble_eq_true rfl⟩ rfl hl.1 rfl (Nat.le_of_ble_eq_true rfl) d_Mdl_times_12 ⟨Nat.le_of_ble_eq_true rfl, Nat.le_of_ble_eq_true rfl⟩ (fun r1 M1 H locs hp X => ?_)
  rw [hp.1] at X
  have hz1 : r1 = 1 := by rcases hp.2 with h | h; exact h.1; exact absurd ⟨b, h_b, rfl⟩ h.2
  refine lv_if_eq (tgt := 30) hx hb d_Mdl_times_15 (by decide) (fun c9 => absurd (hz1.symm.trans c9) (by decide)) (fun _ => ?_)
  refine lv_iload_n hx hb d_Mdl_times_18 rfl (lv_at hl 3 rfl) ?_
  refine lv_iconst (v := 3) hx hb d_Mdl_times_19 (by decide) ?_
  refine gm_Si hx hb hml hown hW X (r_Mdl_in_4 l E N τ cd) (n := 2) ⟨⟨wl_Mdl_164, ws_Mdl_in, winit_Mdl, wc_Mdl_in⟩, by decide +kernel, Nat.le_of_ble_eq_true rfl, Nat.le_of_ble_eq_true rfl⟩ rfl hl.1 rfl (Nat.le_of_ble_eq_true rfl) d_Mdl_times_20 ⟨Nat.le_of_ble_eq_true rfl, Nat.le_of_ble_eq_true rfl⟩ (fun r2 M1 H locs hp X => ?_)
  rw [hp.1] at X
  have hz2 : r2 = 1 := by rcases hp.2 with h | h; exact h.1; exact absurd ⟨a, h_a, rfl⟩ h.2
  refine lv_if_eq (tgt := 30) hx hb d_Mdl_times_23 (by decide) (fun c9 => absurd (hz2.symm.trans c9) (by decide)) (fun _ => ?_)
  refine lv_iconst (v := 1) hx hb d_Mdl_times_26 (by decide) ?_
  refine lv_goto (tgt := 31) hx hb d_Mdl_times_27 (by decide) ?_
  refine gm_Vi hx hb hml hown hW X m53 (r_Mdl_good_1 l E N τ cd) (n := 1) ⟨⟨wl_Mdl_168, wi_Mdl_good, wsel_Mdl_good, winit_Mdl, wc_Mdl_good⟩, by decide +kernel, ⟨Nat.le_of_ble_eq_true rfl, Nat.le_of_ble_eq_true rfl⟩, _, rfl, rfl⟩ rfl hl.1 rfl (Nat.le_of_ble_eq_true rfl) d_Mdl_times_31 ⟨Nat.le_of_ble_eq_true rfl, Nat.le_of_ble_eq_true rfl⟩ (fun r9 M1 H locs hp X => ?_)
  rw [hp.1] at X
  have hr9 := hp.2
  refine lv_if_ne (tgt := 38) hx hb d_Mdl_times_34 (by decide) (fun _ => ?_) (fun c9 => absurd (hr9.symm.trans c9) (by decide))
  refine lv_aload_n hx hb d_Mdl_times_38 rfl (lv_at hl 0 rfl) ?_
  refine gm_get hx hb hW hown X u_Mdl m53 rfl 6 (by decide) wf_Mdl_89 (v := .ref (E.2.1 + 67)) rfl d_Mdl_times_39 ?_
  refine lv_aload_n hx hb d_Mdl_times_42 rfl (lv_at hl 0 rfl) ?_
  refine gm_get hx hb hW hown X u_Mdl m53 rfl 16 (by decide) wf_Mdl_106 (v := .ref (E.2.1 + 88)) rfl d_Mdl_times_43 ?_
  refine lv_iload_n hx hb d_Mdl_times_46 rfl (lv_at hl 3 rfl) ?_
  refine gm_aald hx hb X (k := a) (t := E.2.1 + (115 + 4 * a)) m88 rfl rfl ⟨h_a, by decide⟩ (if_pos h_a) d_Mdl_times_47 ?_
  refine gm_Vv hx hb hml hown hW X (oQ isQ_67) (q_Rpt_take l E N τ 0 isQ_67 (isQ_p h_a)) (n := 1) ⟨⟨wl_Mdl_50, wi_Rpt_take, wsel_Rpt_take, winit_Rpt, wc_Rpt_take⟩, by decide +kernel, ⟨Nat.le_of_ble_eq_true rfl, Nat.le_of_ble_eq_true rfl⟩, _, rfl, rfl⟩ rfl hl.1 rfl (Nat.le_of_ble_eq_true rfl) d_Mdl_times_48 ⟨Nat.le_of_ble_eq_true rfl, Nat.le_of_ble_eq_true rfl⟩ (fun M1 H locs hp X => ?_)
  obtain ⟨τ1, rfl, q1, kk1⟩ := hp
  have R_1 : isR φ nP 99 τ1 := hr.kp (fun j h1 h2 => kk1 j (by omega))
  have R2_1 : isR ψ nN 107 τ1 := hrN.kp (fun j h1 h2 => kk1 j (by omega))
  have s1 : mpR φ τ1 67 pa := hA.kept q1.1 q1.2.1 q1.2.2
  refine lv_aload_n hx hb d_Mdl_times_51 rfl (lv_at hl 0 rfl) ?_
  refine lv_aload_n hx hb d_Mdl_times_52 rfl (lv_at hl 0 rfl) ?_
  refine gm_get hx hb hW hown X u_Mdl m53 rfl 15 (by decide) wf_Mdl_103 (v := .ref (E.2.1 + 79)) rfl d_Mdl_times_53 ?_
  refine lv_iload_n hx hb d_Mdl_times_56 rfl (lv_at hl 2 rfl) ?_
  refine gm_aald2 hx hb X (k := b) (t := E.2.1 + (80 + b)) m79 rfl rfl ⟨h_b, by decide⟩ (if_pos h_b) d_Mdl_times_57 ?_
  refine lv_aload_n hx hb d_Mdl_times_58 rfl (lv_at hl 0 rfl) ?_
  refine gm_get hx hb hW hown X u_Mdl m53 rfl 6 (by decide) wf_Mdl_89 (v := .ref (E.2.1 + 67)) rfl d_Mdl_times_59 ?_
  refine lv_aload_n hx hb d_Mdl_times_62 rfl (lv_at hl 0 rfl) ?_
  refine gm_get hx hb hW hown X u_Mdl m53 rfl 5 (by decide) wf_Mdl_86 (v := .ref (E.2.1 + 63)) rfl d_Mdl_times_63 ?_
  refine gm_Vv hx hb hml hown hW X m53 (q_Mdl_times_p l E N τ1 0 hk hR R_1 (t := 63) (u := 67) (xu := 80 + b) (by omega) (by omega) (q8_n h_b) (by omega) s1) (n := 3) ⟨⟨wl_Mdl_192, wi_Mdl_times_p, wsel_Mdl_times_p, winit_Mdl, wc_Mdl_times_p⟩, by decide +kernel, ⟨Nat.le_of_ble_eq_true rfl, Nat.le_of_ble_eq_true rfl⟩, _, rfl, rfl⟩ rfl hl.1 rfl (Nat.le_of_ble_eq_true rfl) d_Mdl_times_66 ⟨Nat.le_of_ble_eq_true rfl, Nat.le_of_ble_eq_true rfl⟩ (fun M1 H locs hp X => ?_)
  obtain ⟨τ2, rfl, q2, kk2⟩ := hp
  have R_2 : isR φ nP 99 τ2 := R_1.kp (fun j h1 h2 => kk2 j (by omega) (by omega) (by omega))
  have R2_2 : isR ψ nN 107 τ2 := R2_1.kp (fun j h1 h2 => kk2 j (by omega) (by omega) (by omega))
  rw [kk1 (80 + b) (by omega)] at q2
  refine lv_aload_n hx hb d_Mdl_times_69 rfl (lv_at hl 0 rfl) ?_
  refine gm_get hx hb hW hown X u_Mdl m53 rfl 16 (by decide) wf_Mdl_106 (v := .ref (E.2.1 + 88)) rfl d_Mdl_times_70 ?_
  refine lv_iload_n hx hb d_Mdl_times_73 rfl (lv_at hl 1 rfl) ?_
  refine gm_aald hx hb X (k := t) (t := E.2.1 + (115 + 4 * t)) m88 rfl rfl ⟨h_t, by decide⟩ (if_pos h_t) d_Mdl_times_74 ?_
  refine lv_aload_n hx hb d_Mdl_times_75 rfl (lv_at hl 0 rfl) ?_
  refine gm_get hx hb hW hown X u_Mdl m53 rfl 5 (by decide) wf_Mdl_86 (v := .ref (E.2.1 + 63)) rfl d_Mdl_times_76 ?_
  refine gm_Vv hx hb hml hown hW X (oQ (isQ_p h_t)) (q_Rpt_take l E N τ2 0 (isQ_p h_t) isQ_63) (n := 1) ⟨⟨wl_Mdl_50, wi_Rpt_take, wsel_Rpt_take, winit_Rpt, wc_Rpt_take⟩, by decide +kernel, ⟨Nat.le_of_ble_eq_true rfl, Nat.le_of_ble_eq_true rfl⟩, _, rfl, rfl⟩ rfl hl.1 rfl (Nat.le_of_ble_eq_true rfl) d_Mdl_times_79 ⟨Nat.le_of_ble_eq_true rfl, Nat.le_of_ble_eq_true rfl⟩ (fun M1 H locs hp X => ?_)
  obtain ⟨τ3, rfl, q3, kk3⟩ := hp
  have R_3 : isR φ nP 99 τ3 := R_2.kp (fun j h1 h2 => kk3 j (by omega))
  have R2_3 : isR ψ nN 107 τ3 := R2_2.kp (fun j h1 h2 => kk3 j (by omega))
  exact gm_vret hx hb hr2 hlk X ⟨_, rfl, q2.kept q3.1 q3.2.1 q3.2.2, fun j hj h1 => by have hj := hj.o; rw [kk3 j (by omega), kk2 j (by omega) (by omega) (by omega), kk1 j (by omega)]⟩ d_Mdl_times_82
set_option maxHeartbeats 4000000 in
theorem r_Mdl_same_ok {F G : Type} [Lean.Grind.CommRing F] [Lean.Grind.CommRing G] {φ : Int → F} {inv : F → F} {ψ : Int → G} (l : Launch) (E : gm_E) (N : gm_M) (τ : Nat → Nat → Int32) (cd : Int32) (hk : fk φ inv) {Ri : F} (hR : φ (tq 8) * Ri = 1) (hgN : fm ψ nN) {Si : G} (hS : ψ (tq 8) * Si = 1) (hr : isR φ nP 99 τ) (hrN : isR ψ nN 107 τ) (h7 : MV φ nP (τ 54) 7) {a : Nat} (h_a : a < 4) {b : Nat} (h_b : b < 4) {pa pb : Option (F × F)} (hA : mpR φ τ (115 + 4 * a) pa) (hB : mpR φ τ (115 + 4 * b) pb) : ci_ l y_Mdl_same b_Mdl_same 4 (some .boolean) { frames := 4, cells := 0, slots := 0, locals := 101 } E (mW E N τ cd) [.ref (E.2.1 + 53), .int (nI a), .int (nI b)] (fun r M' => ∃ τ', M' = mW E N τ' 0 ∧ ((r = 1 ∧ pa = pb) ∨ (r = 0 ∧ ¬ pa = pb)) ∧ kMn 0 0 τ τ') := by
  have hf := hk.fm
  have hpP := rPl_P E
  have hpN := rPl_N E
  refine gm_met (by decide) (Nat.le_of_ble_eq_true rfl) (fun p e s m below meth c ls hx hb hml hr2 hlk hnm hown hW X hl => ?_)
  have hl : lv_has ls 4 [(0, .ref (E.2.1 + 53)), (1, .int (nI a)), (2, .int (nI b))] := hl
  refine lv_aload_n hx hb d_Mdl_same_0 rfl (lv_at hl 0 rfl) ?_
  refine lv_iload_n hx hb d_Mdl_same_1 rfl (lv_at hl 1 rfl) ?_
  refine lv_iconst (v := 3) hx hb d_Mdl_same_2 (by decide) ?_
  refine gm_Si hx hb hml hown hW X (r_Mdl_in_4 l E N τ cd) (n := 2) ⟨⟨wl_Mdl_164, ws_Mdl_in, winit_Mdl, wc_Mdl_in⟩, by decide +kernel, Nat.le_of_ble_eq_true rfl, Nat.le_of_ble_eq_true rfl⟩ rfl hl.1 rfl (Nat.le_of_ble_eq_true rfl) d_Mdl_same_3 ⟨Nat.le_of_ble_eq_true rfl, Nat.le_of_ble_eq_true rfl⟩ (fun r0 M1 H locs hp X => ?_)
  rw [hp.1] at X
  have hz0 : r0 = 1 := by rcases hp.2 with h | h; exact h.1; exact absurd ⟨a, h_a, rfl⟩ h.2
  refine lv_if_eq (tgt := 21) hx hb d_Mdl_same_6 (by decide) (fun c9 => absurd (hz0.symm.trans c9) (by decide)) (fun _ => ?_)
  refine lv_iload_n hx hb d_Mdl_same_9 rfl (lv_at hl 2 rfl) ?_
  refine lv_iconst (v := 3) hx hb d_Mdl_same_10 (by decide) ?_
  refine gm_Si hx hb hml hown hW X (r_Mdl_in_4 l E N τ cd) (n := 2) ⟨⟨wl_Mdl_164, ws_Mdl_in, winit_Mdl, wc_Mdl_in⟩, by decide +kernel, Nat.le_of_ble_eq_true rfl, Nat.le_of_ble_eq_true rfl⟩ rfl hl.1 rfl (Nat.le_of_ble_eq_true rfl) d_Mdl_same_11 ⟨Nat.le_of_ble_eq_true rfl, Nat.le_of_ble_eq_true rfl⟩ (fun r1 M1 H locs hp X => ?_)
  rw [hp.1] at X
  have hz1 : r1 = 1 := by rcases hp.2 with h | h; exact h.1; exact absurd ⟨b, h_b, rfl⟩ h.2
  refine lv_if_eq (tgt := 21) hx hb d_Mdl_same_14 (by decide) (fun c9 => absurd (hz1.symm.trans c9) (by decide)) (fun _ => ?_)
  refine lv_iconst (v := 1) hx hb d_Mdl_same_17 (by decide) ?_
  refine lv_goto (tgt := 22) hx hb d_Mdl_same_18 (by decide) ?_
  refine gm_Vi hx hb hml hown hW X m53 (r_Mdl_good_1 l E N τ cd) (n := 1) ⟨⟨wl_Mdl_168, wi_Mdl_good, wsel_Mdl_good, winit_Mdl, wc_Mdl_good⟩, by decide +kernel, ⟨Nat.le_of_ble_eq_true rfl, Nat.le_of_ble_eq_true rfl⟩, _, rfl, rfl⟩ rfl hl.1 rfl (Nat.le_of_ble_eq_true rfl) d_Mdl_same_22 ⟨Nat.le_of_ble_eq_true rfl, Nat.le_of_ble_eq_true rfl⟩ (fun r9 M1 H locs hp X => ?_)
  rw [hp.1] at X
  have hr9 := hp.2
  refine lv_if_ne (tgt := 30) hx hb d_Mdl_same_25 (by decide) (fun _ => ?_) (fun c9 => absurd (hr9.symm.trans c9) (by decide))
  refine lv_aload_n hx hb d_Mdl_same_30 rfl (lv_at hl 0 rfl) ?_
  refine gm_get hx hb hW hown X u_Mdl m53 rfl 16 (by decide) wf_Mdl_106 (v := .ref (E.2.1 + 88)) rfl d_Mdl_same_31 ?_
  refine lv_iload_n hx hb d_Mdl_same_34 rfl (lv_at hl 1 rfl) ?_
  refine gm_aald hx hb X (k := a) (t := E.2.1 + (115 + 4 * a)) m88 rfl rfl ⟨h_a, by decide⟩ (if_pos h_a) d_Mdl_same_35 ?_
  refine gm_getN hx hb hW hown X u_Rpt (oQ (isQ_p h_a)) rfl 2 (by decide) wfn_Mdl_1 (v := .ref (E.2.1 + ((115 + 4 * a) + 3))) rfl d_Mdl_same_36 ?_
  cases pa with
  | none =>
    cases pb with
    | none =>
      have hz_ra : MV φ nP (τ ((115 + 4 * a) + 3)) 0 := hA
      refine gm_Si hx hb hml hown hW X (q_isZero l hf hR (isQ.z (isQ_p h_a)) hz_ra) (n := 1) ⟨⟨wl_Mdl_7, ws_Rng_isZero, winit_Rng, wc_Rng_isZero⟩, by decide +kernel, Nat.le_of_ble_eq_true rfl, Nat.le_of_ble_eq_true rfl⟩ rfl hl.1 rfl (Nat.le_of_ble_eq_true rfl) d_Mdl_same_39 ⟨Nat.le_of_ble_eq_true rfl, Nat.le_of_ble_eq_true rfl⟩ (fun ra M1 H locs hp X => ?_)
      rw [hp.1] at X
      have e_ra : ra = 1 := by rcases hp.2 with z | z; exact z.1; exact absurd rfl z.2
      refine lv_istore_n (lv' := [(3, .int ra), (0, .ref (E.2.1 + 53)), (1, .int (nI a)), (2, .int (nI b))]) hx hb d_Mdl_same_42 rfl hl (by decide) rfl (fun ls hl => ?_)
      refine lv_iload_n hx hb d_Mdl_same_43 rfl (lv_at hl 0 rfl) ?_
      refine lv_if_ne (tgt := 62) hx hb d_Mdl_same_44 (by decide) (fun _ => ?_) (fun c9 => absurd (e_ra.symm.trans c9) (by decide))
      refine lv_iload_n hx hb d_Mdl_same_62 rfl (lv_at hl 0 rfl) ?_
      refine lv_if_eq (tgt := 85) hx hb d_Mdl_same_63 (by decide) (fun c9 => absurd (e_ra.symm.trans c9) (by decide)) (fun _ => ?_)
      refine lv_aload_n hx hb d_Mdl_same_66 rfl (lv_at hl 1 rfl) ?_
      refine gm_get hx hb hW hown X u_Mdl m53 rfl 16 (by decide) wf_Mdl_106 (v := .ref (E.2.1 + 88)) rfl d_Mdl_same_67 ?_
      refine lv_iload_n hx hb d_Mdl_same_70 rfl (lv_at hl 3 rfl) ?_
      refine gm_aald hx hb X (k := b) (t := E.2.1 + (115 + 4 * b)) m88 rfl rfl ⟨h_b, by decide⟩ (if_pos h_b) d_Mdl_same_71 ?_
      refine gm_getN hx hb hW hown X u_Rpt (oQ (isQ_p h_b)) rfl 2 (by decide) wfn_Mdl_1 (v := .ref (E.2.1 + ((115 + 4 * b) + 3))) rfl d_Mdl_same_72 ?_
      have hz_rc : MV φ nP (τ ((115 + 4 * b) + 3)) 0 := hB
      refine gm_Si hx hb hml hown hW X (q_isZero l hf hR (isQ.z (isQ_p h_b)) hz_rc) (n := 1) ⟨⟨wl_Mdl_7, ws_Rng_isZero, winit_Rng, wc_Rng_isZero⟩, by decide +kernel, Nat.le_of_ble_eq_true rfl, Nat.le_of_ble_eq_true rfl⟩ rfl hl.1 rfl (Nat.le_of_ble_eq_true rfl) d_Mdl_same_75 ⟨Nat.le_of_ble_eq_true rfl, Nat.le_of_ble_eq_true rfl⟩ (fun rc M1 H locs hp X => ?_)
      rw [hp.1] at X
      have e_rc : rc = 1 := by rcases hp.2 with z | z; exact z.1; exact absurd rfl z.2
      refine lv_if_eq (tgt := 85) hx hb d_Mdl_same_78 (by decide) (fun c9 => absurd (e_rc.symm.trans c9) (by decide)) (fun _ => ?_)
      refine lv_iconst (v := 1) hx hb d_Mdl_same_81 (by decide) ?_
      refine lv_goto (tgt := 86) hx hb d_Mdl_same_82 (by decide) ?_
      exact gm_zret hx hb hr2 hlk X rfl ⟨_, rfl, Or.inl ⟨rfl, rfl⟩, fun _ _ _ _ => rfl⟩ d_Mdl_same_86
    | some b0 =>
      have hz_ra : MV φ nP (τ ((115 + 4 * a) + 3)) 0 := hA
      refine gm_Si hx hb hml hown hW X (q_isZero l hf hR (isQ.z (isQ_p h_a)) hz_ra) (n := 1) ⟨⟨wl_Mdl_7, ws_Rng_isZero, winit_Rng, wc_Rng_isZero⟩, by decide +kernel, Nat.le_of_ble_eq_true rfl, Nat.le_of_ble_eq_true rfl⟩ rfl hl.1 rfl (Nat.le_of_ble_eq_true rfl) d_Mdl_same_39 ⟨Nat.le_of_ble_eq_true rfl, Nat.le_of_ble_eq_true rfl⟩ (fun ra M1 H locs hp X => ?_)
      rw [hp.1] at X
      have e_ra : ra = 1 := by rcases hp.2 with z | z; exact z.1; exact absurd rfl z.2
      refine lv_istore_n (lv' := [(3, .int ra), (0, .ref (E.2.1 + 53)), (1, .int (nI a)), (2, .int (nI b))]) hx hb d_Mdl_same_42 rfl hl (by decide) rfl (fun ls hl => ?_)
      refine lv_iload_n hx hb d_Mdl_same_43 rfl (lv_at hl 0 rfl) ?_
      refine lv_if_ne (tgt := 62) hx hb d_Mdl_same_44 (by decide) (fun _ => ?_) (fun c9 => absurd (e_ra.symm.trans c9) (by decide))
      refine lv_iload_n hx hb d_Mdl_same_62 rfl (lv_at hl 0 rfl) ?_
      refine lv_if_eq (tgt := 85) hx hb d_Mdl_same_63 (by decide) (fun c9 => absurd (e_ra.symm.trans c9) (by decide)) (fun _ => ?_)
      refine lv_aload_n hx hb d_Mdl_same_66 rfl (lv_at hl 1 rfl) ?_
      refine gm_get hx hb hW hown X u_Mdl m53 rfl 16 (by decide) wf_Mdl_106 (v := .ref (E.2.1 + 88)) rfl d_Mdl_same_67 ?_
      refine lv_iload_n hx hb d_Mdl_same_70 rfl (lv_at hl 3 rfl) ?_
      refine gm_aald hx hb X (k := b) (t := E.2.1 + (115 + 4 * b)) m88 rfl rfl ⟨h_b, by decide⟩ (if_pos h_b) d_Mdl_same_71 ?_
      refine gm_getN hx hb hW hown X u_Rpt (oQ (isQ_p h_b)) rfl 2 (by decide) wfn_Mdl_1 (v := .ref (E.2.1 + ((115 + 4 * b) + 3))) rfl d_Mdl_same_72 ?_
      obtain ⟨on_rc, x_rc, y_rc, z_rc, mx_rc, my_rc, hz_rc, j_rc⟩ := id hB
      refine gm_Si hx hb hml hown hW X (q_isZero l hf hR (isQ.z (isQ_p h_b)) hz_rc) (n := 1) ⟨⟨wl_Mdl_7, ws_Rng_isZero, winit_Rng, wc_Rng_isZero⟩, by decide +kernel, Nat.le_of_ble_eq_true rfl, Nat.le_of_ble_eq_true rfl⟩ rfl hl.1 rfl (Nat.le_of_ble_eq_true rfl) d_Mdl_same_75 ⟨Nat.le_of_ble_eq_true rfl, Nat.le_of_ble_eq_true rfl⟩ (fun rc M1 H locs hp X => ?_)
      rw [hp.1] at X
      have e_rc : rc = 0 := by rcases hp.2 with z | z; exact absurd z.2 j_rc.1; exact z.1
      refine lv_if_eq (tgt := 85) hx hb d_Mdl_same_78 (by decide) (fun _ => ?_) (fun c9 => absurd e_rc c9)
      refine lv_iconst (v := 0) hx hb d_Mdl_same_85 (by decide) ?_
      exact gm_zret hx hb hr2 hlk X rfl ⟨_, rfl, Or.inr ⟨rfl, fun e => by cases e⟩, fun _ _ _ _ => rfl⟩ d_Mdl_same_86
  | some a0 =>
    cases pb with
    | none =>
      obtain ⟨on_ra, x_ra, y_ra, z_ra, mx_ra, my_ra, hz_ra, j_ra⟩ := id hA
      refine gm_Si hx hb hml hown hW X (q_isZero l hf hR (isQ.z (isQ_p h_a)) hz_ra) (n := 1) ⟨⟨wl_Mdl_7, ws_Rng_isZero, winit_Rng, wc_Rng_isZero⟩, by decide +kernel, Nat.le_of_ble_eq_true rfl, Nat.le_of_ble_eq_true rfl⟩ rfl hl.1 rfl (Nat.le_of_ble_eq_true rfl) d_Mdl_same_39 ⟨Nat.le_of_ble_eq_true rfl, Nat.le_of_ble_eq_true rfl⟩ (fun ra M1 H locs hp X => ?_)
      rw [hp.1] at X
      have e_ra : ra = 0 := by rcases hp.2 with z | z; exact absurd z.2 j_ra.1; exact z.1
      refine lv_istore_n (lv' := [(3, .int ra), (0, .ref (E.2.1 + 53)), (1, .int (nI a)), (2, .int (nI b))]) hx hb d_Mdl_same_42 rfl hl (by decide) rfl (fun ls hl => ?_)
      refine lv_iload_n hx hb d_Mdl_same_43 rfl (lv_at hl 0 rfl) ?_
      refine lv_if_ne (tgt := 62) hx hb d_Mdl_same_44 (by decide) (fun c9 => absurd e_ra c9) (fun _ => ?_)
      refine lv_aload_n hx hb d_Mdl_same_47 rfl (lv_at hl 1 rfl) ?_
      refine gm_get hx hb hW hown X u_Mdl m53 rfl 16 (by decide) wf_Mdl_106 (v := .ref (E.2.1 + 88)) rfl d_Mdl_same_48 ?_
      refine lv_iload_n hx hb d_Mdl_same_51 rfl (lv_at hl 3 rfl) ?_
      refine gm_aald hx hb X (k := b) (t := E.2.1 + (115 + 4 * b)) m88 rfl rfl ⟨h_b, by decide⟩ (if_pos h_b) d_Mdl_same_52 ?_
      refine gm_getN hx hb hW hown X u_Rpt (oQ (isQ_p h_b)) rfl 2 (by decide) wfn_Mdl_1 (v := .ref (E.2.1 + ((115 + 4 * b) + 3))) rfl d_Mdl_same_53 ?_
      have hz_rb : MV φ nP (τ ((115 + 4 * b) + 3)) 0 := hB
      refine gm_Si hx hb hml hown hW X (q_isZero l hf hR (isQ.z (isQ_p h_b)) hz_rb) (n := 1) ⟨⟨wl_Mdl_7, ws_Rng_isZero, winit_Rng, wc_Rng_isZero⟩, by decide +kernel, Nat.le_of_ble_eq_true rfl, Nat.le_of_ble_eq_true rfl⟩ rfl hl.1 rfl (Nat.le_of_ble_eq_true rfl) d_Mdl_same_56 ⟨Nat.le_of_ble_eq_true rfl, Nat.le_of_ble_eq_true rfl⟩ (fun rb M1 H locs hp X => ?_)
      rw [hp.1] at X
      have e_rb : rb = 1 := by rcases hp.2 with z | z; exact z.1; exact absurd rfl z.2
      refine lv_if_eq (tgt := 87) hx hb d_Mdl_same_59 (by decide) (fun c9 => absurd (e_rb.symm.trans c9) (by decide)) (fun _ => ?_)
      refine lv_iload_n hx hb d_Mdl_same_62 rfl (lv_at hl 0 rfl) ?_
      refine lv_if_eq (tgt := 85) hx hb d_Mdl_same_63 (by decide) (fun _ => ?_) (fun c9 => absurd e_ra c9)
      refine lv_iconst (v := 0) hx hb d_Mdl_same_85 (by decide) ?_
      exact gm_zret hx hb hr2 hlk X rfl ⟨_, rfl, Or.inr ⟨rfl, fun e => by cases e⟩, fun _ _ _ _ => rfl⟩ d_Mdl_same_86
    | some b0 =>
      obtain ⟨on_ra, x_ra, y_ra, z_ra, mx_ra, my_ra, hz_ra, j_ra⟩ := id hA
      refine gm_Si hx hb hml hown hW X (q_isZero l hf hR (isQ.z (isQ_p h_a)) hz_ra) (n := 1) ⟨⟨wl_Mdl_7, ws_Rng_isZero, winit_Rng, wc_Rng_isZero⟩, by decide +kernel, Nat.le_of_ble_eq_true rfl, Nat.le_of_ble_eq_true rfl⟩ rfl hl.1 rfl (Nat.le_of_ble_eq_true rfl) d_Mdl_same_39 ⟨Nat.le_of_ble_eq_true rfl, Nat.le_of_ble_eq_true rfl⟩ (fun ra M1 H locs hp X => ?_)
      rw [hp.1] at X
      have e_ra : ra = 0 := by rcases hp.2 with z | z; exact absurd z.2 j_ra.1; exact z.1
      refine lv_istore_n (lv' := [(3, .int ra), (0, .ref (E.2.1 + 53)), (1, .int (nI a)), (2, .int (nI b))]) hx hb d_Mdl_same_42 rfl hl (by decide) rfl (fun ls hl => ?_)
      refine lv_iload_n hx hb d_Mdl_same_43 rfl (lv_at hl 0 rfl) ?_
      refine lv_if_ne (tgt := 62) hx hb d_Mdl_same_44 (by decide) (fun c9 => absurd e_ra c9) (fun _ => ?_)
      refine lv_aload_n hx hb d_Mdl_same_47 rfl (lv_at hl 1 rfl) ?_
      refine gm_get hx hb hW hown X u_Mdl m53 rfl 16 (by decide) wf_Mdl_106 (v := .ref (E.2.1 + 88)) rfl d_Mdl_same_48 ?_
      refine lv_iload_n hx hb d_Mdl_same_51 rfl (lv_at hl 3 rfl) ?_
      refine gm_aald hx hb X (k := b) (t := E.2.1 + (115 + 4 * b)) m88 rfl rfl ⟨h_b, by decide⟩ (if_pos h_b) d_Mdl_same_52 ?_
      refine gm_getN hx hb hW hown X u_Rpt (oQ (isQ_p h_b)) rfl 2 (by decide) wfn_Mdl_1 (v := .ref (E.2.1 + ((115 + 4 * b) + 3))) rfl d_Mdl_same_53 ?_
      obtain ⟨on_rb, x_rb, y_rb, z_rb, mx_rb, my_rb, hz_rb, j_rb⟩ := id hB
      refine gm_Si hx hb hml hown hW X (q_isZero l hf hR (isQ.z (isQ_p h_b)) hz_rb) (n := 1) ⟨⟨wl_Mdl_7, ws_Rng_isZero, winit_Rng, wc_Rng_isZero⟩, by decide +kernel, Nat.le_of_ble_eq_true rfl, Nat.le_of_ble_eq_true rfl⟩ rfl hl.1 rfl (Nat.le_of_ble_eq_true rfl) d_Mdl_same_56 ⟨Nat.le_of_ble_eq_true rfl, Nat.le_of_ble_eq_true rfl⟩ (fun rb M1 H locs hp X => ?_)
      rw [hp.1] at X
      have e_rb : rb = 0 := by rcases hp.2 with z | z; exact absurd z.2 j_rb.1; exact z.1
      refine lv_if_eq (tgt := 87) hx hb d_Mdl_same_59 (by decide) (fun _ => ?_) (fun c9 => absurd e_rb c9)
      refine lv_aload_n hx hb d_Mdl_same_87 rfl (lv_at hl 1 rfl) ?_
      refine lv_aload_n hx hb d_Mdl_same_88 rfl (lv_at hl 1 rfl) ?_
      refine gm_get hx hb hW hown X u_Mdl m53 rfl 16 (by decide) wf_Mdl_106 (v := .ref (E.2.1 + 88)) rfl d_Mdl_same_89 ?_
      refine lv_iload_n hx hb d_Mdl_same_92 rfl (lv_at hl 2 rfl) ?_
      refine gm_aald hx hb X (k := a) (t := E.2.1 + (115 + 4 * a)) m88 rfl rfl ⟨h_a, by decide⟩ (if_pos h_a) d_Mdl_same_93 ?_
      refine lv_aload_n hx hb d_Mdl_same_94 rfl (lv_at hl 1 rfl) ?_
      refine gm_get hx hb hW hown X u_Mdl m53 rfl 13 (by decide) wf_Mdl_95 (v := .ref (E.2.1 + 77)) rfl d_Mdl_same_95 ?_
      refine lv_aload_n hx hb d_Mdl_same_98 rfl (lv_at hl 1 rfl) ?_
      refine gm_get hx hb hW hown X u_Mdl m53 rfl 14 (by decide) wf_Mdl_98 (v := .ref (E.2.1 + 78)) rfl d_Mdl_same_99 ?_
      refine gm_Vv hx hb hml hown hW X m53 (q_Mdl_flat l E N τ 0 hk hR hr (isQ_p h_a) (xx := 77) (yy := 78) (by omega) hA) (n := 3) ⟨⟨wl_Mdl_188, wi_Mdl_flat, wsel_Mdl_flat, winit_Mdl, wc_Mdl_flat⟩, by decide +kernel, ⟨Nat.le_of_ble_eq_true rfl, Nat.le_of_ble_eq_true rfl⟩, _, rfl, rfl⟩ rfl hl.1 rfl (Nat.le_of_ble_eq_true rfl) d_Mdl_same_102 ⟨Nat.le_of_ble_eq_true rfl, Nat.le_of_ble_eq_true rfl⟩ (fun M1 H locs hp X => ?_)
      obtain ⟨τ1, rfl, q1, qq1, kk1⟩ := hp
      have R_1 : isR φ nP 99 τ1 := hr.kp (fun j h1 h2 => kk1 j (by omega) (by omega) (by omega) (by omega))
      have R2_1 : isR ψ nN 107 τ1 := hrN.kp (fun j h1 h2 => kk1 j (by omega) (by omega) (by omega) (by omega))
      have b1 : mpR φ τ1 (115 + 4 * b) (some b0) := (hB).kept (show τ1 ((115 + 4 * b) + 1) = τ ((115 + 4 * b) + 1) by rw [kk1 ((115 + 4 * b) + 1) (by omega) (by omega) (by omega) (by omega)]) (show τ1 ((115 + 4 * b) + 2) = τ ((115 + 4 * b) + 2) by rw [kk1 ((115 + 4 * b) + 2) (by omega) (by omega) (by omega) (by omega)]) (show τ1 ((115 + 4 * b) + 3) = τ ((115 + 4 * b) + 3) by rw [kk1 ((115 + 4 * b) + 3) (by omega) (by omega) (by omega) (by omega)])
      refine lv_aload_n hx hb d_Mdl_same_105 rfl (lv_at hl 1 rfl) ?_
      refine lv_aload_n hx hb d_Mdl_same_106 rfl (lv_at hl 1 rfl) ?_
      refine gm_get hx hb hW hown X u_Mdl m53 rfl 16 (by decide) wf_Mdl_106 (v := .ref (E.2.1 + 88)) rfl d_Mdl_same_107 ?_
      refine lv_iload_n hx hb d_Mdl_same_110 rfl (lv_at hl 3 rfl) ?_
      refine gm_aald hx hb X (k := b) (t := E.2.1 + (115 + 4 * b)) m88 rfl rfl ⟨h_b, by decide⟩ (if_pos h_b) d_Mdl_same_111 ?_
      refine lv_aload_n hx hb d_Mdl_same_112 rfl (lv_at hl 1 rfl) ?_
      refine gm_get hx hb hW hown X u_Mdl m53 rfl 18 (by decide) wf_Mdl_113 (v := .ref (E.2.1 + 93)) rfl d_Mdl_same_113 ?_
      refine lv_aload_n hx hb d_Mdl_same_116 rfl (lv_at hl 1 rfl) ?_
      refine gm_get hx hb hW hown X u_Mdl m53 rfl 19 (by decide) wf_Mdl_116 (v := .ref (E.2.1 + 94)) rfl d_Mdl_same_117 ?_
      refine gm_Vv hx hb hml hown hW X m53 (q_Mdl_flat l E N τ1 0 hk hR R_1 (isQ_p h_b) (xx := 93) (yy := 94) (by omega) b1) (n := 3) ⟨⟨wl_Mdl_188, wi_Mdl_flat, wsel_Mdl_flat, winit_Mdl, wc_Mdl_flat⟩, by decide +kernel, ⟨Nat.le_of_ble_eq_true rfl, Nat.le_of_ble_eq_true rfl⟩, _, rfl, rfl⟩ rfl hl.1 rfl (Nat.le_of_ble_eq_true rfl) d_Mdl_same_120 ⟨Nat.le_of_ble_eq_true rfl, Nat.le_of_ble_eq_true rfl⟩ (fun M1 H locs hp X => ?_)
      obtain ⟨τ2, rfl, q2, qq2, kk2⟩ := hp
      have p77_2 : PV φ nP (τ2 77) a0.1 := by rw [kk2 77 (by omega) (by omega) (by omega) (by omega)]; exact q1
      have p78_2 : PV φ nP (τ2 78) a0.2 := by rw [kk2 78 (by omega) (by omega) (by omega) (by omega)]; exact qq1
      have R_2 : isR φ nP 99 τ2 := R_1.kp (fun j h1 h2 => kk2 j (by omega) (by omega) (by omega) (by omega))
      have R2_2 : isR ψ nN 107 τ2 := R2_1.kp (fun j h1 h2 => kk2 j (by omega) (by omega) (by omega) (by omega))
      have ix := PV.inj hf p77_2 q2
      have iy := PV.inj hf p78_2 qq2
      refine lv_aload_n hx hb d_Mdl_same_123 rfl (lv_at hl 1 rfl) ?_
      refine gm_get hx hb hW hown X u_Mdl m53 rfl 13 (by decide) wf_Mdl_95 (v := .ref (E.2.1 + 77)) rfl d_Mdl_same_124 ?_
      refine lv_aload_n hx hb d_Mdl_same_127 rfl (lv_at hl 1 rfl) ?_
      refine gm_get hx hb hW hown X u_Mdl m53 rfl 18 (by decide) wf_Mdl_113 (v := .ref (E.2.1 + 93)) rfl d_Mdl_same_128 ?_
      refine gm_Si hx hb hml hown hW X (c_Rng_same l E _ (mw_row (k := 77) (by decide)) (mw_row (k := 93) (by decide))) (n := 2) ⟨⟨wl_Mdl_184, ws_Rng_same, winit_Rng, wc_Rng_same⟩, by decide +kernel, Nat.le_of_ble_eq_true rfl, Nat.le_of_ble_eq_true rfl⟩ rfl hl.1 rfl (Nat.le_of_ble_eq_true rfl) d_Mdl_same_131 ⟨Nat.le_of_ble_eq_true rfl, Nat.le_of_ble_eq_true rfl⟩ (fun re M1 H locs hp X => ?_)
      rw [hp.1] at X
      have h_re := hp.2
      refine lv_if_eq (tgt := 155) hx hb d_Mdl_same_134 (by decide) (fun c134 => ?_) (fun c134 => ?_)
      · have hne : ¬ a0.1 = b0.1 := by rcases h_re with h | h; exact absurd (h.1.symm.trans c134) (by decide); exact fun e => h.2 (ix.mpr e)
        refine lv_iconst (v := 0) hx hb d_Mdl_same_155 (by decide) ?_
        exact gm_zret hx hb hr2 hlk X rfl ⟨_, rfl, Or.inr ⟨rfl, fun e => hne (by rw [Option.some.inj e])⟩, fun j hj h1 h2 => by have hj := hj.o; rw [kk2 j (by omega) (by omega) (by omega) (by omega), kk1 j (by omega) (by omega) (by omega) (by omega)]⟩ d_Mdl_same_156
      · have hx1 : a0.1 = b0.1 := by rcases h_re with h | h; exact ix.mp h.2; exact absurd h.1 c134
        refine lv_aload_n hx hb d_Mdl_same_137 rfl (lv_at hl 1 rfl) ?_
        refine gm_get hx hb hW hown X u_Mdl m53 rfl 14 (by decide) wf_Mdl_98 (v := .ref (E.2.1 + 78)) rfl d_Mdl_same_138 ?_
        refine lv_aload_n hx hb d_Mdl_same_141 rfl (lv_at hl 1 rfl) ?_
        refine gm_get hx hb hW hown X u_Mdl m53 rfl 19 (by decide) wf_Mdl_116 (v := .ref (E.2.1 + 94)) rfl d_Mdl_same_142 ?_
        refine gm_Si hx hb hml hown hW X (c_Rng_same l E _ (mw_row (k := 78) (by decide)) (mw_row (k := 94) (by decide))) (n := 2) ⟨⟨wl_Mdl_184, ws_Rng_same, winit_Rng, wc_Rng_same⟩, by decide +kernel, Nat.le_of_ble_eq_true rfl, Nat.le_of_ble_eq_true rfl⟩ rfl hl.1 rfl (Nat.le_of_ble_eq_true rfl) d_Mdl_same_145 ⟨Nat.le_of_ble_eq_true rfl, Nat.le_of_ble_eq_true rfl⟩ (fun rf M1 H locs hp X => ?_)
        rw [hp.1] at X
        have h_rf := hp.2
        refine lv_if_eq (tgt := 155) hx hb d_Mdl_same_148 (by decide) (fun c148 => ?_) (fun c148 => ?_)
        · have hne : ¬ a0.2 = b0.2 := by rcases h_rf with h | h; exact absurd (h.1.symm.trans c148) (by decide); exact fun e => h.2 (iy.mpr e)
          refine lv_iconst (v := 0) hx hb d_Mdl_same_155 (by decide) ?_
          exact gm_zret hx hb hr2 hlk X rfl ⟨_, rfl, Or.inr ⟨rfl, fun e => hne (by rw [Option.some.inj e])⟩, fun j hj h1 h2 => by have hj := hj.o; rw [kk2 j (by omega) (by omega) (by omega) (by omega), kk1 j (by omega) (by omega) (by omega) (by omega)]⟩ d_Mdl_same_156
        · have hy1 : a0.2 = b0.2 := by rcases h_rf with h | h; exact iy.mp h.2; exact absurd h.1 c148
          refine lv_iconst (v := 1) hx hb d_Mdl_same_151 (by decide) ?_
          refine lv_goto (tgt := 156) hx hb d_Mdl_same_152 (by decide) ?_
          exact gm_zret hx hb hr2 hlk X rfl ⟨_, rfl, Or.inl ⟨rfl, by rw [show a0 = b0 from Prod.ext hx1 hy1]⟩, fun j hj h1 h2 => by have hj := hj.o; rw [kk2 j (by omega) (by omega) (by omega) (by omega), kk1 j (by omega) (by omega) (by omega) (by omega)]⟩ d_Mdl_same_156
set_option maxHeartbeats 4000000 in
theorem r_Mdl_sign_ok {F G : Type} [Lean.Grind.CommRing F] [Lean.Grind.CommRing G] {φ : Int → F} {inv : F → F} {ψ : Int → G} (l : Launch) (E : gm_E) (N : gm_M) (τ : Nat → Nat → Int32) (cd : Int32) (hk : fk φ inv) {Ri : F} (hR : φ (tq 8) * Ri = 1) (hgN : fm ψ nN) {Si : G} (hS : ψ (tq 8) * Si = 1) (hr : isR φ nP 99 τ) (hrN : isR ψ nN 107 τ) (h7 : MV φ nP (τ 54) 7) {t : Nat} (h_t : t < 8) {u : Nat} (h_u : u < 8) {a : Nat} (h_a : a < 8) {b : Nat} (h_b : b < 8) {d : Nat} (h_d : d < 8) {g0 : F × F} (hG : mpR φ τ 55 (some g0)) (hord : ∀ n : Nat, ¬ n = 0 → (n : Int) < nN → ∃ a, ec_nm inv n (some g0) = some a) : ci_ l y_Mdl_sign b_Mdl_sign 6 (some .boolean) { frames := 5, cells := 0, slots := 0, locals := 120 } E (mW E N τ cd) [.ref (E.2.1 + 53), .int (nI t), .int (nI u), .int (nI a), .int (nI b), .int (nI d)] (fun r M' => ∃ τ', M' = mW E N τ' 0 ∧ ((r = 0 ∧ ¬ (((IV (τ (80 + a)) 8 : Int) < nN ∧ ¬ IV (τ (80 + a)) 8 = 0) ∧ ((IV (τ (80 + b)) 8 : Int) < nN ∧ ¬ IV (τ (80 + b)) 8 = 0)) ∧ kMn 0 0 τ τ') ∨ (r = 1 ∧ (((IV (τ (80 + a)) 8 : Int) < nN ∧ ¬ IV (τ (80 + a)) 8 = 0) ∧ ((IV (τ (80 + b)) 8 : Int) < nN ∧ ¬ IV (τ (80 + b)) 8 = 0)) ∧ ∃ a0, ec_nm inv (IV (τ (80 + b)) 8) (some g0) = some a0 ∧ IV (τ' (80 + u)) 8 = rp ψ nN ((ψ (IV (τ (80 + a)) 8) * (ψ (rp φ nP a0.1 : Nat)) + ψ (IV (τ (80 + d)) 8)) * fp_pw (ψ (IV (τ (80 + b)) 8)) (NV sN2)) ∧ (t ≠ u → IV (τ' (80 + t)) 8 = rp ψ nN (ψ (rp φ nP a0.1 : Nat))) ∧ kMn (80 + t) (80 + u) τ τ'))) := by
  have hf := hk.fm
  have hpP := rPl_P E
  have hpN := rPl_N E
  refine gm_met (by decide) (Nat.le_of_ble_eq_true rfl) (fun p e s m below meth c ls hx hb hml hr2 hlk hnm hown hW X hl => ?_)
  have hl : lv_has ls 6 [(0, .ref (E.2.1 + 53)), (1, .int (nI t)), (2, .int (nI u)), (3, .int (nI a)), (4, .int (nI b)), (5, .int (nI d))] := hl
  refine lv_aload_n hx hb d_Mdl_sign_0 rfl (lv_at hl 0 rfl) ?_
  refine lv_iload_n hx hb d_Mdl_sign_1 rfl (lv_at hl 1 rfl) ?_
  refine lv_bipush (v := 7) hx hb d_Mdl_sign_2 (by decide) ?_
  refine gm_Si hx hb hml hown hW X (r_Mdl_in_8 l E N τ cd) (n := 2) ⟨⟨wl_Mdl_164, ws_Mdl_in, winit_Mdl, wc_Mdl_in⟩, by decide +kernel, Nat.le_of_ble_eq_true rfl, Nat.le_of_ble_eq_true rfl⟩ rfl hl.1 rfl (Nat.le_of_ble_eq_true rfl) d_Mdl_sign_4 ⟨Nat.le_of_ble_eq_true rfl, Nat.le_of_ble_eq_true rfl⟩ (fun r0 M1 H locs hp X => ?_)
  rw [hp.1] at X
  have hz0 : r0 = 1 := by rcases hp.2 with h | h; exact h.1; exact absurd ⟨t, h_t, rfl⟩ h.2
  refine lv_if_eq (tgt := 52) hx hb d_Mdl_sign_7 (by decide) (fun c9 => absurd (hz0.symm.trans c9) (by decide)) (fun _ => ?_)
  refine lv_iload_n hx hb d_Mdl_sign_10 rfl (lv_at hl 2 rfl) ?_
  refine lv_bipush (v := 7) hx hb d_Mdl_sign_11 (by decide) ?_
  refine gm_Si hx hb hml hown hW X (r_Mdl_in_8 l E N τ cd) (n := 2) ⟨⟨wl_Mdl_164, ws_Mdl_in, winit_Mdl, wc_Mdl_in⟩, by decide +kernel, Nat.le_of_ble_eq_true rfl, Nat.le_of_ble_eq_true rfl⟩ rfl hl.1 rfl (Nat.le_of_ble_eq_true rfl) d_Mdl_sign_13 ⟨Nat.le_of_ble_eq_true rfl, Nat.le_of_ble_eq_true rfl⟩ (fun r1 M1 H locs hp X => ?_)
  rw [hp.1] at X
  have hz1 : r1 = 1 := by rcases hp.2 with h | h; exact h.1; exact absurd ⟨u, h_u, rfl⟩ h.2
  refine lv_if_eq (tgt := 52) hx hb d_Mdl_sign_16 (by decide) (fun c9 => absurd (hz1.symm.trans c9) (by decide)) (fun _ => ?_)
  refine lv_iload_n hx hb d_Mdl_sign_19 rfl (lv_at hl 3 rfl) ?_
  refine lv_bipush (v := 7) hx hb d_Mdl_sign_20 (by decide) ?_
  refine gm_Si hx hb hml hown hW X (r_Mdl_in_8 l E N τ cd) (n := 2) ⟨⟨wl_Mdl_164, ws_Mdl_in, winit_Mdl, wc_Mdl_in⟩, by decide +kernel, Nat.le_of_ble_eq_true rfl, Nat.le_of_ble_eq_true rfl⟩ rfl hl.1 rfl (Nat.le_of_ble_eq_true rfl) d_Mdl_sign_22 ⟨Nat.le_of_ble_eq_true rfl, Nat.le_of_ble_eq_true rfl⟩ (fun r2 M1 H locs hp X => ?_)
  rw [hp.1] at X
  have hz2 : r2 = 1 := by rcases hp.2 with h | h; exact h.1; exact absurd ⟨a, h_a, rfl⟩ h.2
  refine lv_if_eq (tgt := 52) hx hb d_Mdl_sign_25 (by decide) (fun c9 => absurd (hz2.symm.trans c9) (by decide)) (fun _ => ?_)
  refine lv_iload hx hb d_Mdl_sign_28 (lv_at hl 4 rfl) ?_
  refine lv_bipush (v := 7) hx hb d_Mdl_sign_30 (by decide) ?_
  refine gm_Si hx hb hml hown hW X (r_Mdl_in_8 l E N τ cd) (n := 2) ⟨⟨wl_Mdl_164, ws_Mdl_in, winit_Mdl, wc_Mdl_in⟩, by decide +kernel, Nat.le_of_ble_eq_true rfl, Nat.le_of_ble_eq_true rfl⟩ rfl hl.1 rfl (Nat.le_of_ble_eq_true rfl) d_Mdl_sign_32 ⟨Nat.le_of_ble_eq_true rfl, Nat.le_of_ble_eq_true rfl⟩ (fun r3 M1 H locs hp X => ?_)
  rw [hp.1] at X
  have hz3 : r3 = 1 := by rcases hp.2 with h | h; exact h.1; exact absurd ⟨b, h_b, rfl⟩ h.2
  refine lv_if_eq (tgt := 52) hx hb d_Mdl_sign_35 (by decide) (fun c9 => absurd (hz3.symm.trans c9) (by decide)) (fun _ => ?_)
  refine lv_iload hx hb d_Mdl_sign_38 (lv_at hl 5 rfl) ?_
  refine lv_bipush (v := 7) hx hb d_Mdl_sign_40 (by decide) ?_
  refine gm_Si hx hb hml hown hW X (r_Mdl_in_8 l E N τ cd) (n := 2) ⟨⟨wl_Mdl_164, ws_Mdl_in, winit_Mdl, wc_Mdl_in⟩, by decide +kernel, Nat.le_of_ble_eq_true rfl, Nat.le_of_ble_eq_true rfl⟩ rfl hl.1 rfl (Nat.le_of_ble_eq_true rfl) d_Mdl_sign_42 ⟨Nat.le_of_ble_eq_true rfl, Nat.le_of_ble_eq_true rfl⟩ (fun r4 M1 H locs hp X => ?_)
  rw [hp.1] at X
  have hz4 : r4 = 1 := by rcases hp.2 with h | h; exact h.1; exact absurd ⟨d, h_d, rfl⟩ h.2
  refine lv_if_eq (tgt := 52) hx hb d_Mdl_sign_45 (by decide) (fun c9 => absurd (hz4.symm.trans c9) (by decide)) (fun _ => ?_)
  refine lv_iconst (v := 1) hx hb d_Mdl_sign_48 (by decide) ?_
  refine lv_goto (tgt := 53) hx hb d_Mdl_sign_49 (by decide) ?_
  refine gm_Vi hx hb hml hown hW X m53 (r_Mdl_good_1 l E N τ cd) (n := 1) ⟨⟨wl_Mdl_168, wi_Mdl_good, wsel_Mdl_good, winit_Mdl, wc_Mdl_good⟩, by decide +kernel, ⟨Nat.le_of_ble_eq_true rfl, Nat.le_of_ble_eq_true rfl⟩, _, rfl, rfl⟩ rfl hl.1 rfl (Nat.le_of_ble_eq_true rfl) d_Mdl_sign_53 ⟨Nat.le_of_ble_eq_true rfl, Nat.le_of_ble_eq_true rfl⟩ (fun r9 M1 H locs hp X => ?_)
  rw [hp.1] at X
  have hr9 := hp.2
  refine lv_if_ne (tgt := 61) hx hb d_Mdl_sign_56 (by decide) (fun _ => ?_) (fun c9 => absurd (hr9.symm.trans c9) (by decide))
  refine lv_aload_n hx hb d_Mdl_sign_61 rfl (lv_at hl 0 rfl) ?_
  refine lv_aload_n hx hb d_Mdl_sign_62 rfl (lv_at hl 0 rfl) ?_
  refine gm_get hx hb hW hown X u_Mdl m53 rfl 15 (by decide) wf_Mdl_103 (v := .ref (E.2.1 + 79)) rfl d_Mdl_sign_63 ?_
  refine lv_iload_n hx hb d_Mdl_sign_66 rfl (lv_at hl 3 rfl) ?_
  refine gm_aald2 hx hb X (k := a) (t := E.2.1 + (80 + a)) m79 rfl rfl ⟨h_a, by decide⟩ (if_pos h_a) d_Mdl_sign_67 ?_
  refine gm_Vi hx hb hml hown hW X m53 (r_Mdl_isPart l E N τ 0 hk hR hgN hS hr hrN h7 (q8_n h_a)) (n := 1) ⟨⟨wl_Mdl_200, wi_Mdl_isPart, wsel_Mdl_isPart, winit_Mdl, wc_Mdl_isPart⟩, by decide +kernel, ⟨Nat.le_of_ble_eq_true rfl, Nat.le_of_ble_eq_true rfl⟩, _, rfl, rfl⟩ rfl hl.1 rfl (Nat.le_of_ble_eq_true rfl) d_Mdl_sign_68 ⟨Nat.le_of_ble_eq_true rfl, Nat.le_of_ble_eq_true rfl⟩ (fun ra M1 H locs hp X => ?_)
  rw [hp.1] at X
  have h1a := hp.2
  refine lv_if_eq (tgt := 88) hx hb d_Mdl_sign_71 (by decide) (fun c71 => ?_) (fun c71 => ?_)
  · have hlt : ¬ ((IV (τ (80 + a)) 8 : Int) < nN ∧ ¬ IV (τ (80 + a)) 8 = 0) := by rcases h1a with h | h; exact absurd (h.1.symm.trans c71) (by decide); exact h.2
    refine lv_iconst (v := 0) hx hb d_Mdl_sign_88 (by decide) ?_
    exact gm_zret hx hb hr2 hlk X rfl ⟨_, rfl, Or.inl ⟨rfl, fun z => hlt z.1, fun _ _ _ _ => rfl⟩⟩ d_Mdl_sign_89
  · have hla : ((IV (τ (80 + a)) 8 : Int) < nN ∧ ¬ IV (τ (80 + a)) 8 = 0) := by rcases h1a with h | h; exact h.2; exact absurd h.1 c71
    refine lv_aload_n hx hb d_Mdl_sign_74 rfl (lv_at hl 0 rfl) ?_
    refine lv_aload_n hx hb d_Mdl_sign_75 rfl (lv_at hl 0 rfl) ?_
    refine gm_get hx hb hW hown X u_Mdl m53 rfl 15 (by decide) wf_Mdl_103 (v := .ref (E.2.1 + 79)) rfl d_Mdl_sign_76 ?_
    refine lv_iload hx hb d_Mdl_sign_79 (lv_at hl 4 rfl) ?_
    refine gm_aald2 hx hb X (k := b) (t := E.2.1 + (80 + b)) m79 rfl rfl ⟨h_b, by decide⟩ (if_pos h_b) d_Mdl_sign_81 ?_
    refine gm_Vi hx hb hml hown hW X m53 (r_Mdl_isPart l E N τ 0 hk hR hgN hS hr hrN h7 (q8_n h_b)) (n := 1) ⟨⟨wl_Mdl_200, wi_Mdl_isPart, wsel_Mdl_isPart, winit_Mdl, wc_Mdl_isPart⟩, by decide +kernel, ⟨Nat.le_of_ble_eq_true rfl, Nat.le_of_ble_eq_true rfl⟩, _, rfl, rfl⟩ rfl hl.1 rfl (Nat.le_of_ble_eq_true rfl) d_Mdl_sign_82 ⟨Nat.le_of_ble_eq_true rfl, Nat.le_of_ble_eq_true rfl⟩ (fun rb M1 H locs hp X => ?_)
    rw [hp.1] at X
    have h1b := hp.2
    refine lv_if_ne (tgt := 90) hx hb d_Mdl_sign_85 (by decide) (fun c85 => ?_) (fun c85 => ?_)
    · have hlb : ((IV (τ (80 + b)) 8 : Int) < nN ∧ ¬ IV (τ (80 + b)) 8 = 0) := by rcases h1b with h | h; exact h.2; exact absurd h.1 c85
      obtain ⟨a0, ha0⟩ := hord _ hlb.2 hlb.1
      refine lv_aload_n hx hb d_Mdl_sign_90 rfl (lv_at hl 0 rfl) ?_
      refine gm_get hx hb hW hown X u_Mdl m53 rfl 6 (by decide) wf_Mdl_89 (v := .ref (E.2.1 + 67)) rfl d_Mdl_sign_91 ?_
      refine lv_aload_n hx hb d_Mdl_sign_94 rfl (lv_at hl 0 rfl) ?_
      refine gm_get hx hb hW hown X u_Mdl m53 rfl 3 (by decide) wf_Mdl_79 (v := .ref (E.2.1 + 55)) rfl d_Mdl_sign_95 ?_
      refine gm_Vv hx hb hml hown hW X (oQ isQ_67) (q_Rpt_take l E N τ 0 isQ_67 isQ_55) (n := 1) ⟨⟨wl_Mdl_50, wi_Rpt_take, wsel_Rpt_take, winit_Rpt, wc_Rpt_take⟩, by decide +kernel, ⟨Nat.le_of_ble_eq_true rfl, Nat.le_of_ble_eq_true rfl⟩, _, rfl, rfl⟩ rfl hl.1 rfl (Nat.le_of_ble_eq_true rfl) d_Mdl_sign_98 ⟨Nat.le_of_ble_eq_true rfl, Nat.le_of_ble_eq_true rfl⟩ (fun M1 H locs hp X => ?_)
      obtain ⟨τ1, rfl, q1, kk1⟩ := hp
      have R_1 : isR φ nP 99 τ1 := hr.kp (fun j h1 h2 => kk1 j (by omega))
      have R2_1 : isR ψ nN 107 τ1 := hrN.kp (fun j h1 h2 => kk1 j (by omega))
      have s1 : mpR φ τ1 67 (some g0) := hG.kept q1.1 q1.2.1 q1.2.2
      refine lv_aload_n hx hb d_Mdl_sign_101 rfl (lv_at hl 0 rfl) ?_
      refine lv_aload_n hx hb d_Mdl_sign_102 rfl (lv_at hl 0 rfl) ?_
      refine gm_get hx hb hW hown X u_Mdl m53 rfl 15 (by decide) wf_Mdl_103 (v := .ref (E.2.1 + 79)) rfl d_Mdl_sign_103 ?_
      refine lv_iload hx hb d_Mdl_sign_106 (lv_at hl 4 rfl) ?_
      refine gm_aald2 hx hb X (k := b) (t := E.2.1 + (80 + b)) m79 rfl rfl ⟨h_b, by decide⟩ (if_pos h_b) d_Mdl_sign_108 ?_
      refine lv_aload_n hx hb d_Mdl_sign_109 rfl (lv_at hl 0 rfl) ?_
      refine gm_get hx hb hW hown X u_Mdl m53 rfl 6 (by decide) wf_Mdl_89 (v := .ref (E.2.1 + 67)) rfl d_Mdl_sign_110 ?_
      refine lv_aload_n hx hb d_Mdl_sign_113 rfl (lv_at hl 0 rfl) ?_
      refine gm_get hx hb hW hown X u_Mdl m53 rfl 5 (by decide) wf_Mdl_86 (v := .ref (E.2.1 + 63)) rfl d_Mdl_sign_114 ?_
      refine gm_Vv hx hb hml hown hW X m53 (q_Mdl_times_p l E N τ1 0 hk hR R_1 (t := 63) (u := 67) (xu := 80 + b) (by omega) (by omega) (q8_n h_b) (by omega) s1) (n := 3) ⟨⟨wl_Mdl_192, wi_Mdl_times_p, wsel_Mdl_times_p, winit_Mdl, wc_Mdl_times_p⟩, by decide +kernel, ⟨Nat.le_of_ble_eq_true rfl, Nat.le_of_ble_eq_true rfl⟩, _, rfl, rfl⟩ rfl hl.1 rfl (Nat.le_of_ble_eq_true rfl) d_Mdl_sign_117 ⟨Nat.le_of_ble_eq_true rfl, Nat.le_of_ble_eq_true rfl⟩ (fun M1 H locs hp X => ?_)
      obtain ⟨τ2, rfl, q2, kk2⟩ := hp
      have R_2 : isR φ nP 99 τ2 := R_1.kp (fun j h1 h2 => kk2 j (by omega) (by omega) (by omega))
      have R2_2 : isR ψ nN 107 τ2 := R2_1.kp (fun j h1 h2 => kk2 j (by omega) (by omega) (by omega))
      rw [kk1 (80 + b) (by omega), ha0] at q2
      refine lv_aload_n hx hb d_Mdl_sign_120 rfl (lv_at hl 0 rfl) ?_
      refine lv_aload_n hx hb d_Mdl_sign_121 rfl (lv_at hl 0 rfl) ?_
      refine gm_get hx hb hW hown X u_Mdl m53 rfl 5 (by decide) wf_Mdl_86 (v := .ref (E.2.1 + 63)) rfl d_Mdl_sign_122 ?_
      refine lv_aload_n hx hb d_Mdl_sign_125 rfl (lv_at hl 0 rfl) ?_
      refine gm_get hx hb hW hown X u_Mdl m53 rfl 13 (by decide) wf_Mdl_95 (v := .ref (E.2.1 + 77)) rfl d_Mdl_sign_126 ?_
      refine lv_aload_n hx hb d_Mdl_sign_129 rfl (lv_at hl 0 rfl) ?_
      refine gm_get hx hb hW hown X u_Mdl m53 rfl 14 (by decide) wf_Mdl_98 (v := .ref (E.2.1 + 78)) rfl d_Mdl_sign_130 ?_
      refine gm_Vv hx hb hml hown hW X m53 (q_Mdl_flat l E N τ2 0 hk hR R_2 isQ_63 (xx := 77) (yy := 78) (by omega) q2) (n := 3) ⟨⟨wl_Mdl_188, wi_Mdl_flat, wsel_Mdl_flat, winit_Mdl, wc_Mdl_flat⟩, by decide +kernel, ⟨Nat.le_of_ble_eq_true rfl, Nat.le_of_ble_eq_true rfl⟩, _, rfl, rfl⟩ rfl hl.1 rfl (Nat.le_of_ble_eq_true rfl) d_Mdl_sign_133 ⟨Nat.le_of_ble_eq_true rfl, Nat.le_of_ble_eq_true rfl⟩ (fun M1 H locs hp X => ?_)
      obtain ⟨τ3, rfl, q3, qq3, kk3⟩ := hp
      have R_3 : isR φ nP 99 τ3 := R_2.kp (fun j h1 h2 => kk3 j (by omega) (by omega) (by omega) (by omega))
      have R2_3 : isR ψ nN 107 τ3 := R2_2.kp (fun j h1 h2 => kk3 j (by omega) (by omega) (by omega) (by omega))
      refine lv_aload_n hx hb d_Mdl_sign_136 rfl (lv_at hl 0 rfl) ?_
      refine lv_aload_n hx hb d_Mdl_sign_137 rfl (lv_at hl 0 rfl) ?_
      refine gm_get hx hb hW hown X u_Mdl m53 rfl 13 (by decide) wf_Mdl_95 (v := .ref (E.2.1 + 77)) rfl d_Mdl_sign_138 ?_
      have hlt77 := q3.1
      have e77 := PV.rep hf q3
      have h7r : MV φ nP (τ3 54) 7 := by rw [(show τ3 54 = τ 54 by rw [kk3 54 (by omega) (by omega) (by omega) (by omega), kk2 54 (by omega) (by omega) (by omega), kk1 54 (by omega)])]; exact h7
      refine gm_Vv hx hb hml hown hW X m53 (r_Mdl_reduce l E N τ3 0 hk hR hgN hS R_3 R2_3 h7r hlt77) (n := 1) ⟨⟨wl_Mdl_203, wi_Mdl_reduce, wsel_Mdl_reduce, winit_Mdl, wc_Mdl_reduce⟩, by decide +kernel, ⟨Nat.le_of_ble_eq_true rfl, Nat.le_of_ble_eq_true rfl⟩, _, rfl, rfl⟩ rfl hl.1 rfl (Nat.le_of_ble_eq_true rfl) d_Mdl_sign_141 ⟨Nat.le_of_ble_eq_true rfl, Nat.le_of_ble_eq_true rfl⟩ (fun M1 H locs hp X => ?_)
      obtain ⟨τ4, rfl, q4, kk4⟩ := hp
      have R_4 : isR φ nP 99 τ4 := R_3.kp (fun j h1 h2 => kk4 j (by omega))
      have R2_4 : isR ψ nN 107 τ4 := R2_3.kp (fun j h1 h2 => kk4 j (by omega))
      rw [e77] at q4
      refine lv_aload_n hx hb d_Mdl_sign_144 rfl (lv_at hl 0 rfl) ?_
      refine gm_get hx hb hW hown X u_Mdl m53 rfl 1 (by decide) wf_Mdl_132 (v := .ref (E.2.1 + 107)) rfl d_Mdl_sign_145 ?_
      refine lv_aload_n hx hb d_Mdl_sign_148 rfl (lv_at hl 0 rfl) ?_
      refine gm_get hx hb hW hown X u_Mdl m53 rfl 13 (by decide) wf_Mdl_95 (v := .ref (E.2.1 + 77)) rfl d_Mdl_sign_149 ?_
      refine lv_aload_n hx hb d_Mdl_sign_152 rfl (lv_at hl 0 rfl) ?_
      refine gm_get hx hb hW hown X u_Mdl m53 rfl 20 (by decide) wf_Mdl_119 (v := .ref (E.2.1 + 95)) rfl d_Mdl_sign_153 ?_
      refine gm_Vv hx hb hml hown hW X m107 (q_enter l hpN hgN hS R2_4 (by decide) (by decide) (by omega)) (n := 2) ⟨⟨wl_Mdl_135, wi_Rng_enter, wsel_Rng_enter, winit_Rng, wc_Rng_enter⟩, by decide +kernel, ⟨Nat.le_of_ble_eq_true rfl, Nat.le_of_ble_eq_true rfl⟩, _, rfl, rfl⟩ rfl hl.1 rfl (Nat.le_of_ble_eq_true rfl) d_Mdl_sign_156 ⟨Nat.le_of_ble_eq_true rfl, Nat.le_of_ble_eq_true rfl⟩ (fun M1 H locs hp X => ?_)
      obtain ⟨τ5, rfl, q5, kk5⟩ := hp
      have p77_5 : PV ψ nN (τ5 77) (ψ (rp φ nP a0.1 : Nat)) := by rw [kk5 77 (by omega) (by omega)]; exact q4
      have R_5 : isR φ nP 99 τ5 := R_4.kp (fun j h1 h2 => kk5 j (by omega) (by omega))
      have R2_5 : isR ψ nN 107 τ5 := R2_4.kp (fun j h1 h2 => kk5 j (by omega) (by omega))
      have m95_5 : MV ψ nN (τ5 95) (ψ (rp φ nP a0.1 : Nat)) := by rw [← q4.2]; exact q5
      refine lv_aload_n hx hb d_Mdl_sign_159 rfl (lv_at hl 0 rfl) ?_
      refine gm_get hx hb hW hown X u_Mdl m53 rfl 1 (by decide) wf_Mdl_132 (v := .ref (E.2.1 + 107)) rfl d_Mdl_sign_160 ?_
      refine lv_aload_n hx hb d_Mdl_sign_163 rfl (lv_at hl 0 rfl) ?_
      refine gm_get hx hb hW hown X u_Mdl m53 rfl 15 (by decide) wf_Mdl_103 (v := .ref (E.2.1 + 79)) rfl d_Mdl_sign_164 ?_
      refine lv_iload_n hx hb d_Mdl_sign_167 rfl (lv_at hl 3 rfl) ?_
      refine gm_aald2 hx hb X (k := a) (t := E.2.1 + (80 + a)) m79 rfl rfl ⟨h_a, by decide⟩ (if_pos h_a) d_Mdl_sign_168 ?_
      refine lv_aload_n hx hb d_Mdl_sign_169 rfl (lv_at hl 0 rfl) ?_
      refine gm_get hx hb hW hown X u_Mdl m53 rfl 21 (by decide) wf_Mdl_122 (v := .ref (E.2.1 + 96)) rfl d_Mdl_sign_170 ?_
      have e173 := (show τ5 (80 + a) = τ (80 + a) by rw [kk5 (80 + a) (by omega) (by omega), kk4 (80 + a) (by omega), kk3 (80 + a) (by omega) (by omega) (by omega) (by omega), kk2 (80 + a) (by omega) (by omega) (by omega), kk1 (80 + a) (by omega)])
      refine gm_Vv hx hb hml hown hW X m107 (q_enter l hpN hgN hS R2_5 (by decide) (q8_n h_a) (by omega)) (n := 2) ⟨⟨wl_Mdl_135, wi_Rng_enter, wsel_Rng_enter, winit_Rng, wc_Rng_enter⟩, by decide +kernel, ⟨Nat.le_of_ble_eq_true rfl, Nat.le_of_ble_eq_true rfl⟩, _, rfl, rfl⟩ rfl hl.1 rfl (Nat.le_of_ble_eq_true rfl) d_Mdl_sign_173 ⟨Nat.le_of_ble_eq_true rfl, Nat.le_of_ble_eq_true rfl⟩ (fun M1 H locs hp X => ?_)
      obtain ⟨τ6, rfl, q6, kk6⟩ := hp
      have m95_6 : MV ψ nN (τ6 95) (ψ (rp φ nP a0.1 : Nat)) := by rw [kk6 95 (by omega) (by omega)]; exact m95_5
      have p77_6 : PV ψ nN (τ6 77) (ψ (rp φ nP a0.1 : Nat)) := by rw [kk6 77 (by omega) (by omega)]; exact p77_5
      have R_6 : isR φ nP 99 τ6 := R_5.kp (fun j h1 h2 => kk6 j (by omega) (by omega))
      have R2_6 : isR ψ nN 107 τ6 := R2_5.kp (fun j h1 h2 => kk6 j (by omega) (by omega))
      have m96_6 : MV ψ nN (τ6 96) (ψ (IV (τ (80 + a)) 8)) := by rw [← e173]; exact q6
      refine lv_aload_n hx hb d_Mdl_sign_176 rfl (lv_at hl 0 rfl) ?_
      refine gm_get hx hb hW hown X u_Mdl m53 rfl 1 (by decide) wf_Mdl_132 (v := .ref (E.2.1 + 107)) rfl d_Mdl_sign_177 ?_
      refine lv_aload_n hx hb d_Mdl_sign_180 rfl (lv_at hl 0 rfl) ?_
      refine gm_get hx hb hW hown X u_Mdl m53 rfl 20 (by decide) wf_Mdl_119 (v := .ref (E.2.1 + 95)) rfl d_Mdl_sign_181 ?_
      refine lv_aload_n hx hb d_Mdl_sign_184 rfl (lv_at hl 0 rfl) ?_
      refine gm_get hx hb hW hown X u_Mdl m53 rfl 21 (by decide) wf_Mdl_122 (v := .ref (E.2.1 + 96)) rfl d_Mdl_sign_185 ?_
      refine lv_aload_n hx hb d_Mdl_sign_188 rfl (lv_at hl 0 rfl) ?_
      refine gm_get hx hb hW hown X u_Mdl m53 rfl 20 (by decide) wf_Mdl_119 (v := .ref (E.2.1 + 95)) rfl d_Mdl_sign_189 ?_
      refine gm_Vv hx hb hml hown hW X m107 (q_mul l hpN hgN hS R2_6 (by decide) (by decide) (by decide) (by omega) m95_6 m96_6) (n := 3) ⟨⟨wl_Mdl_25, wi_Rng_multiply, wsel_Rng_multiply, winit_Rng, wc_Rng_multiply⟩, by decide +kernel, ⟨Nat.le_of_ble_eq_true rfl, Nat.le_of_ble_eq_true rfl⟩, _, rfl, rfl⟩ rfl hl.1 rfl (Nat.le_of_ble_eq_true rfl) d_Mdl_sign_192 ⟨Nat.le_of_ble_eq_true rfl, Nat.le_of_ble_eq_true rfl⟩ (fun M1 H locs hp X => ?_)
      obtain ⟨τ7, rfl, q7, kk7⟩ := hp
      have m96_7 : MV ψ nN (τ7 96) (ψ (IV (τ (80 + a)) 8)) := by rw [kk7 96 (by omega) (by omega)]; exact m96_6
      have p77_7 : PV ψ nN (τ7 77) (ψ (rp φ nP a0.1 : Nat)) := by rw [kk7 77 (by omega) (by omega)]; exact p77_6
      have R_7 : isR φ nP 99 τ7 := R_6.kp (fun j h1 h2 => kk7 j (by omega) (by omega))
      have R2_7 : isR ψ nN 107 τ7 := R2_6.kp (fun j h1 h2 => kk7 j (by omega) (by omega))
      have m95_7 : MV ψ nN (τ7 95) ((ψ (rp φ nP a0.1 : Nat)) * (ψ (IV (τ (80 + a)) 8))) := q7
      refine lv_aload_n hx hb d_Mdl_sign_195 rfl (lv_at hl 0 rfl) ?_
      refine gm_get hx hb hW hown X u_Mdl m53 rfl 1 (by decide) wf_Mdl_132 (v := .ref (E.2.1 + 107)) rfl d_Mdl_sign_196 ?_
      refine lv_aload_n hx hb d_Mdl_sign_199 rfl (lv_at hl 0 rfl) ?_
      refine gm_get hx hb hW hown X u_Mdl m53 rfl 15 (by decide) wf_Mdl_103 (v := .ref (E.2.1 + 79)) rfl d_Mdl_sign_200 ?_
      refine lv_iload hx hb d_Mdl_sign_203 (lv_at hl 5 rfl) ?_
      refine gm_aald2 hx hb X (k := d) (t := E.2.1 + (80 + d)) m79 rfl rfl ⟨h_d, by decide⟩ (if_pos h_d) d_Mdl_sign_205 ?_
      refine lv_aload_n hx hb d_Mdl_sign_206 rfl (lv_at hl 0 rfl) ?_
      refine gm_get hx hb hW hown X u_Mdl m53 rfl 21 (by decide) wf_Mdl_122 (v := .ref (E.2.1 + 96)) rfl d_Mdl_sign_207 ?_
      have e210 := (show τ7 (80 + d) = τ (80 + d) by rw [kk7 (80 + d) (by omega) (by omega), kk6 (80 + d) (by omega) (by omega), kk5 (80 + d) (by omega) (by omega), kk4 (80 + d) (by omega), kk3 (80 + d) (by omega) (by omega) (by omega) (by omega), kk2 (80 + d) (by omega) (by omega) (by omega), kk1 (80 + d) (by omega)])
      refine gm_Vv hx hb hml hown hW X m107 (q_enter l hpN hgN hS R2_7 (by decide) (q8_n h_d) (by omega)) (n := 2) ⟨⟨wl_Mdl_135, wi_Rng_enter, wsel_Rng_enter, winit_Rng, wc_Rng_enter⟩, by decide +kernel, ⟨Nat.le_of_ble_eq_true rfl, Nat.le_of_ble_eq_true rfl⟩, _, rfl, rfl⟩ rfl hl.1 rfl (Nat.le_of_ble_eq_true rfl) d_Mdl_sign_210 ⟨Nat.le_of_ble_eq_true rfl, Nat.le_of_ble_eq_true rfl⟩ (fun M1 H locs hp X => ?_)
      obtain ⟨τ8, rfl, q8, kk8⟩ := hp
      have m95_8 : MV ψ nN (τ8 95) ((ψ (rp φ nP a0.1 : Nat)) * (ψ (IV (τ (80 + a)) 8))) := by rw [kk8 95 (by omega) (by omega)]; exact m95_7
      have p77_8 : PV ψ nN (τ8 77) (ψ (rp φ nP a0.1 : Nat)) := by rw [kk8 77 (by omega) (by omega)]; exact p77_7
      have R_8 : isR φ nP 99 τ8 := R_7.kp (fun j h1 h2 => kk8 j (by omega) (by omega))
      have R2_8 : isR ψ nN 107 τ8 := R2_7.kp (fun j h1 h2 => kk8 j (by omega) (by omega))
      have m96_8 : MV ψ nN (τ8 96) (ψ (IV (τ (80 + d)) 8)) := by rw [← e210]; exact q8
      refine lv_aload_n hx hb d_Mdl_sign_213 rfl (lv_at hl 0 rfl) ?_
      refine gm_get hx hb hW hown X u_Mdl m53 rfl 1 (by decide) wf_Mdl_132 (v := .ref (E.2.1 + 107)) rfl d_Mdl_sign_214 ?_
      refine lv_aload_n hx hb d_Mdl_sign_217 rfl (lv_at hl 0 rfl) ?_
      refine gm_get hx hb hW hown X u_Mdl m53 rfl 20 (by decide) wf_Mdl_119 (v := .ref (E.2.1 + 95)) rfl d_Mdl_sign_218 ?_
      refine lv_aload_n hx hb d_Mdl_sign_221 rfl (lv_at hl 0 rfl) ?_
      refine gm_get hx hb hW hown X u_Mdl m53 rfl 21 (by decide) wf_Mdl_122 (v := .ref (E.2.1 + 96)) rfl d_Mdl_sign_222 ?_
      refine lv_aload_n hx hb d_Mdl_sign_225 rfl (lv_at hl 0 rfl) ?_
      refine gm_get hx hb hW hown X u_Mdl m53 rfl 20 (by decide) wf_Mdl_119 (v := .ref (E.2.1 + 95)) rfl d_Mdl_sign_226 ?_
      refine gm_Vv hx hb hml hown hW X m107 (q_add l hpN hgN R2_8 (by decide) (by decide) (by decide) (by omega) m95_8 m96_8) (n := 3) ⟨⟨wl_Mdl_35, wi_Rng_add, wsel_Rng_add, winit_Rng, wc_Rng_add⟩, by decide +kernel, ⟨Nat.le_of_ble_eq_true rfl, Nat.le_of_ble_eq_true rfl⟩, _, rfl, rfl⟩ rfl hl.1 rfl (Nat.le_of_ble_eq_true rfl) d_Mdl_sign_229 ⟨Nat.le_of_ble_eq_true rfl, Nat.le_of_ble_eq_true rfl⟩ (fun M1 H locs hp X => ?_)
      obtain ⟨τ9, rfl, q9, kk9⟩ := hp
      have m96_9 : MV ψ nN (τ9 96) (ψ (IV (τ (80 + d)) 8)) := by rw [kk9 96 (by omega) (by omega)]; exact m96_8
      have p77_9 : PV ψ nN (τ9 77) (ψ (rp φ nP a0.1 : Nat)) := by rw [kk9 77 (by omega) (by omega)]; exact p77_8
      have R_9 : isR φ nP 99 τ9 := R_8.kp (fun j h1 h2 => kk9 j (by omega) (by omega))
      have R2_9 : isR ψ nN 107 τ9 := R2_8.kp (fun j h1 h2 => kk9 j (by omega) (by omega))
      have m95_9 : MV ψ nN (τ9 95) (((ψ (rp φ nP a0.1 : Nat)) * (ψ (IV (τ (80 + a)) 8))) + (ψ (IV (τ (80 + d)) 8))) := q9
      refine lv_aload_n hx hb d_Mdl_sign_232 rfl (lv_at hl 0 rfl) ?_
      refine gm_get hx hb hW hown X u_Mdl m53 rfl 1 (by decide) wf_Mdl_132 (v := .ref (E.2.1 + 107)) rfl d_Mdl_sign_233 ?_
      refine lv_aload_n hx hb d_Mdl_sign_236 rfl (lv_at hl 0 rfl) ?_
      refine gm_get hx hb hW hown X u_Mdl m53 rfl 15 (by decide) wf_Mdl_103 (v := .ref (E.2.1 + 79)) rfl d_Mdl_sign_237 ?_
      refine lv_iload hx hb d_Mdl_sign_240 (lv_at hl 4 rfl) ?_
      refine gm_aald2 hx hb X (k := b) (t := E.2.1 + (80 + b)) m79 rfl rfl ⟨h_b, by decide⟩ (if_pos h_b) d_Mdl_sign_242 ?_
      refine lv_aload_n hx hb d_Mdl_sign_243 rfl (lv_at hl 0 rfl) ?_
      refine gm_get hx hb hW hown X u_Mdl m53 rfl 21 (by decide) wf_Mdl_122 (v := .ref (E.2.1 + 96)) rfl d_Mdl_sign_244 ?_
      have e247 := (show τ9 (80 + b) = τ (80 + b) by rw [kk9 (80 + b) (by omega) (by omega), kk8 (80 + b) (by omega) (by omega), kk7 (80 + b) (by omega) (by omega), kk6 (80 + b) (by omega) (by omega), kk5 (80 + b) (by omega) (by omega), kk4 (80 + b) (by omega), kk3 (80 + b) (by omega) (by omega) (by omega) (by omega), kk2 (80 + b) (by omega) (by omega) (by omega), kk1 (80 + b) (by omega)])
      refine gm_Vv hx hb hml hown hW X m107 (q_enter l hpN hgN hS R2_9 (by decide) (q8_n h_b) (by omega)) (n := 2) ⟨⟨wl_Mdl_135, wi_Rng_enter, wsel_Rng_enter, winit_Rng, wc_Rng_enter⟩, by decide +kernel, ⟨Nat.le_of_ble_eq_true rfl, Nat.le_of_ble_eq_true rfl⟩, _, rfl, rfl⟩ rfl hl.1 rfl (Nat.le_of_ble_eq_true rfl) d_Mdl_sign_247 ⟨Nat.le_of_ble_eq_true rfl, Nat.le_of_ble_eq_true rfl⟩ (fun M1 H locs hp X => ?_)
      obtain ⟨τ10, rfl, q10, kk10⟩ := hp
      have m95_10 : MV ψ nN (τ10 95) (((ψ (rp φ nP a0.1 : Nat)) * (ψ (IV (τ (80 + a)) 8))) + (ψ (IV (τ (80 + d)) 8))) := by rw [kk10 95 (by omega) (by omega)]; exact m95_9
      have p77_10 : PV ψ nN (τ10 77) (ψ (rp φ nP a0.1 : Nat)) := by rw [kk10 77 (by omega) (by omega)]; exact p77_9
      have R_10 : isR φ nP 99 τ10 := R_9.kp (fun j h1 h2 => kk10 j (by omega) (by omega))
      have R2_10 : isR ψ nN 107 τ10 := R2_9.kp (fun j h1 h2 => kk10 j (by omega) (by omega))
      have m96_10 : MV ψ nN (τ10 96) (ψ (IV (τ (80 + b)) 8)) := by rw [← e247]; exact q10
      refine lv_aload_n hx hb d_Mdl_sign_250 rfl (lv_at hl 0 rfl) ?_
      refine gm_get hx hb hW hown X u_Mdl m53 rfl 1 (by decide) wf_Mdl_132 (v := .ref (E.2.1 + 107)) rfl d_Mdl_sign_251 ?_
      refine lv_aload_n hx hb d_Mdl_sign_254 rfl (lv_at hl 0 rfl) ?_
      refine gm_get hx hb hW hown X u_Mdl m53 rfl 21 (by decide) wf_Mdl_122 (v := .ref (E.2.1 + 96)) rfl d_Mdl_sign_255 ?_
      refine lv_bipush (v := (-2)) hx hb d_Mdl_sign_258 (by decide) ?_
      refine lv_iconst (v := 0) hx hb d_Mdl_sign_260 (by decide) ?_
      refine lv_aload_n hx hb d_Mdl_sign_261 rfl (lv_at hl 0 rfl) ?_
      refine gm_get hx hb hW hown X u_Mdl m53 rfl 21 (by decide) wf_Mdl_122 (v := .ref (E.2.1 + 96)) rfl d_Mdl_sign_262 ?_
      refine gm_Vv hx hb hml hown hW X m107 (q_power l hpN hgN hS R2_10 (sh := 0) (by decide) (by decide) (by decide) (by omega) m96_10) (n := 4) ⟨⟨wl_Mdl_61, wi_Rng_power, wsel_Rng_power, winit_Rng, wc_Rng_power⟩, by decide +kernel, ⟨Nat.le_of_ble_eq_true rfl, Nat.le_of_ble_eq_true rfl⟩, _, rfl, rfl⟩ rfl hl.1 rfl (Nat.le_of_ble_eq_true rfl) d_Mdl_sign_265 ⟨Nat.le_of_ble_eq_true rfl, Nat.le_of_ble_eq_true rfl⟩ (fun M1 H locs hp X => ?_)
      obtain ⟨τ11, rfl, q11, kk11⟩ := hp
      have m95_11 : MV ψ nN (τ11 95) (((ψ (rp φ nP a0.1 : Nat)) * (ψ (IV (τ (80 + a)) 8))) + (ψ (IV (τ (80 + d)) 8))) := by rw [kk11 95 (by omega) (by omega)]; exact m95_10
      have p77_11 : PV ψ nN (τ11 77) (ψ (rp φ nP a0.1 : Nat)) := by rw [kk11 77 (by omega) (by omega)]; exact p77_10
      have R_11 : isR φ nP 99 τ11 := R_10.kp (fun j h1 h2 => kk11 j (by omega) (by omega))
      have R2_11 : isR ψ nN 107 τ11 := R2_10.kp (fun j h1 h2 => kk11 j (by omega) (by omega))
      have m96_11 : MV ψ nN (τ11 96) (fp_pw (ψ (IV (τ (80 + b)) 8)) (NV sN2)) := by rw [← xp_sN2 R2_10]; exact q11
      refine lv_aload_n hx hb d_Mdl_sign_268 rfl (lv_at hl 0 rfl) ?_
      refine gm_get hx hb hW hown X u_Mdl m53 rfl 1 (by decide) wf_Mdl_132 (v := .ref (E.2.1 + 107)) rfl d_Mdl_sign_269 ?_
      refine lv_aload_n hx hb d_Mdl_sign_272 rfl (lv_at hl 0 rfl) ?_
      refine gm_get hx hb hW hown X u_Mdl m53 rfl 20 (by decide) wf_Mdl_119 (v := .ref (E.2.1 + 95)) rfl d_Mdl_sign_273 ?_
      refine lv_aload_n hx hb d_Mdl_sign_276 rfl (lv_at hl 0 rfl) ?_
      refine gm_get hx hb hW hown X u_Mdl m53 rfl 21 (by decide) wf_Mdl_122 (v := .ref (E.2.1 + 96)) rfl d_Mdl_sign_277 ?_
      refine lv_aload_n hx hb d_Mdl_sign_280 rfl (lv_at hl 0 rfl) ?_
      refine gm_get hx hb hW hown X u_Mdl m53 rfl 20 (by decide) wf_Mdl_119 (v := .ref (E.2.1 + 95)) rfl d_Mdl_sign_281 ?_
      refine gm_Vv hx hb hml hown hW X m107 (q_mul l hpN hgN hS R2_11 (by decide) (by decide) (by decide) (by omega) m95_11 m96_11) (n := 3) ⟨⟨wl_Mdl_25, wi_Rng_multiply, wsel_Rng_multiply, winit_Rng, wc_Rng_multiply⟩, by decide +kernel, ⟨Nat.le_of_ble_eq_true rfl, Nat.le_of_ble_eq_true rfl⟩, _, rfl, rfl⟩ rfl hl.1 rfl (Nat.le_of_ble_eq_true rfl) d_Mdl_sign_284 ⟨Nat.le_of_ble_eq_true rfl, Nat.le_of_ble_eq_true rfl⟩ (fun M1 H locs hp X => ?_)
      obtain ⟨τ12, rfl, q12, kk12⟩ := hp
      have m96_12 : MV ψ nN (τ12 96) (fp_pw (ψ (IV (τ (80 + b)) 8)) (NV sN2)) := by rw [kk12 96 (by omega) (by omega)]; exact m96_11
      have p77_12 : PV ψ nN (τ12 77) (ψ (rp φ nP a0.1 : Nat)) := by rw [kk12 77 (by omega) (by omega)]; exact p77_11
      have R_12 : isR φ nP 99 τ12 := R_11.kp (fun j h1 h2 => kk12 j (by omega) (by omega))
      have R2_12 : isR ψ nN 107 τ12 := R2_11.kp (fun j h1 h2 => kk12 j (by omega) (by omega))
      have m95_12 : MV ψ nN (τ12 95) ((((ψ (rp φ nP a0.1 : Nat)) * (ψ (IV (τ (80 + a)) 8))) + (ψ (IV (τ (80 + d)) 8))) * (fp_pw (ψ (IV (τ (80 + b)) 8)) (NV sN2))) := q12
      refine lv_aload_n hx hb d_Mdl_sign_287 rfl (lv_at hl 0 rfl) ?_
      refine gm_get hx hb hW hown X u_Mdl m53 rfl 1 (by decide) wf_Mdl_132 (v := .ref (E.2.1 + 107)) rfl d_Mdl_sign_288 ?_
      refine lv_aload_n hx hb d_Mdl_sign_291 rfl (lv_at hl 0 rfl) ?_
      refine gm_get hx hb hW hown X u_Mdl m53 rfl 20 (by decide) wf_Mdl_119 (v := .ref (E.2.1 + 95)) rfl d_Mdl_sign_292 ?_
      refine lv_aload_n hx hb d_Mdl_sign_295 rfl (lv_at hl 0 rfl) ?_
      refine gm_get hx hb hW hown X u_Mdl m53 rfl 20 (by decide) wf_Mdl_119 (v := .ref (E.2.1 + 95)) rfl d_Mdl_sign_296 ?_
      refine gm_Vv hx hb hml hown hW X m107 (q_leave l hpN hgN hS R2_12 (by decide) (by decide) (by omega) m95_12) (n := 2) ⟨⟨wl_Mdl_65, wi_Rng_leave, wsel_Rng_leave, winit_Rng, wc_Rng_leave⟩, by decide +kernel, ⟨Nat.le_of_ble_eq_true rfl, Nat.le_of_ble_eq_true rfl⟩, _, rfl, rfl⟩ rfl hl.1 rfl (Nat.le_of_ble_eq_true rfl) d_Mdl_sign_299 ⟨Nat.le_of_ble_eq_true rfl, Nat.le_of_ble_eq_true rfl⟩ (fun M1 H locs hp X => ?_)
      obtain ⟨τ13, rfl, q13, kk13⟩ := hp
      have m96_13 : MV ψ nN (τ13 96) (fp_pw (ψ (IV (τ (80 + b)) 8)) (NV sN2)) := by rw [kk13 96 (by omega) (by omega)]; exact m96_12
      have p77_13 : PV ψ nN (τ13 77) (ψ (rp φ nP a0.1 : Nat)) := by rw [kk13 77 (by omega) (by omega)]; exact p77_12
      have R_13 : isR φ nP 99 τ13 := R_12.kp (fun j h1 h2 => kk13 j (by omega) (by omega))
      have R2_13 : isR ψ nN 107 τ13 := R2_12.kp (fun j h1 h2 => kk13 j (by omega) (by omega))
      have p95_13 : PV ψ nN (τ13 95) ((((ψ (rp φ nP a0.1 : Nat)) * (ψ (IV (τ (80 + a)) 8))) + (ψ (IV (τ (80 + d)) 8))) * (fp_pw (ψ (IV (τ (80 + b)) 8)) (NV sN2))) := q13
      refine lv_aload_n hx hb d_Mdl_sign_302 rfl (lv_at hl 0 rfl) ?_
      refine gm_get hx hb hW hown X u_Mdl m53 rfl 13 (by decide) wf_Mdl_95 (v := .ref (E.2.1 + 77)) rfl d_Mdl_sign_303 ?_
      refine lv_aload_n hx hb d_Mdl_sign_306 rfl (lv_at hl 0 rfl) ?_
      refine gm_get hx hb hW hown X u_Mdl m53 rfl 15 (by decide) wf_Mdl_103 (v := .ref (E.2.1 + 79)) rfl d_Mdl_sign_307 ?_
      refine lv_iload_n hx hb d_Mdl_sign_310 rfl (lv_at hl 1 rfl) ?_
      refine gm_aald2 hx hb X (k := t) (t := E.2.1 + (80 + t)) m79 rfl rfl ⟨h_t, by decide⟩ (if_pos h_t) d_Mdl_sign_311 ?_
      refine gm_Sv hx hb hml hown hW X (q_copy l (q8_n h_t) (by decide)) (n := 2) ⟨⟨wl_Mdl_157, ws_Rng_copy, winit_Rng, wc_Rng_copy⟩, by decide +kernel, Nat.le_of_ble_eq_true rfl, Nat.le_of_ble_eq_true rfl⟩ rfl hl.1 rfl (Nat.le_of_ble_eq_true rfl) d_Mdl_sign_312 ⟨Nat.le_of_ble_eq_true rfl, Nat.le_of_ble_eq_true rfl⟩ (fun M1 H locs hp X => ?_)
      obtain ⟨τ14, rfl, q14, kk14⟩ := hp
      have m96_14 : MV ψ nN (τ14 96) (fp_pw (ψ (IV (τ (80 + b)) 8)) (NV sN2)) := by rw [kk14 96 (by omega)]; exact m96_13
      have p77_14 : PV ψ nN (τ14 77) (ψ (rp φ nP a0.1 : Nat)) := by rw [kk14 77 (by omega)]; exact p77_13
      have p95_14 : PV ψ nN (τ14 95) ((((ψ (rp φ nP a0.1 : Nat)) * (ψ (IV (τ (80 + a)) 8))) + (ψ (IV (τ (80 + d)) 8))) * (fp_pw (ψ (IV (τ (80 + b)) 8)) (NV sN2))) := by rw [kk14 95 (by omega)]; exact p95_13
      have R_14 : isR φ nP 99 τ14 := R_13.kp (fun j h1 h2 => kk14 j (by omega))
      have R2_14 : isR ψ nN 107 τ14 := R2_13.kp (fun j h1 h2 => kk14 j (by omega))
      refine lv_aload_n hx hb d_Mdl_sign_315 rfl (lv_at hl 0 rfl) ?_
      refine gm_get hx hb hW hown X u_Mdl m53 rfl 20 (by decide) wf_Mdl_119 (v := .ref (E.2.1 + 95)) rfl d_Mdl_sign_316 ?_
      refine lv_aload_n hx hb d_Mdl_sign_319 rfl (lv_at hl 0 rfl) ?_
      refine gm_get hx hb hW hown X u_Mdl m53 rfl 15 (by decide) wf_Mdl_103 (v := .ref (E.2.1 + 79)) rfl d_Mdl_sign_320 ?_
      refine lv_iload_n hx hb d_Mdl_sign_323 rfl (lv_at hl 2 rfl) ?_
      refine gm_aald2 hx hb X (k := u) (t := E.2.1 + (80 + u)) m79 rfl rfl ⟨h_u, by decide⟩ (if_pos h_u) d_Mdl_sign_324 ?_
      refine gm_Sv hx hb hml hown hW X (q_copy l (q8_n h_u) (by decide)) (n := 2) ⟨⟨wl_Mdl_157, ws_Rng_copy, winit_Rng, wc_Rng_copy⟩, by decide +kernel, Nat.le_of_ble_eq_true rfl, Nat.le_of_ble_eq_true rfl⟩ rfl hl.1 rfl (Nat.le_of_ble_eq_true rfl) d_Mdl_sign_325 ⟨Nat.le_of_ble_eq_true rfl, Nat.le_of_ble_eq_true rfl⟩ (fun M1 H locs hp X => ?_)
      obtain ⟨τ15, rfl, q15, kk15⟩ := hp
      have m96_15 : MV ψ nN (τ15 96) (fp_pw (ψ (IV (τ (80 + b)) 8)) (NV sN2)) := by rw [kk15 96 (by omega)]; exact m96_14
      have p77_15 : PV ψ nN (τ15 77) (ψ (rp φ nP a0.1 : Nat)) := by rw [kk15 77 (by omega)]; exact p77_14
      have p95_15 : PV ψ nN (τ15 95) ((((ψ (rp φ nP a0.1 : Nat)) * (ψ (IV (τ (80 + a)) 8))) + (ψ (IV (τ (80 + d)) 8))) * (fp_pw (ψ (IV (τ (80 + b)) 8)) (NV sN2))) := by rw [kk15 95 (by omega)]; exact p95_14
      have R_15 : isR φ nP 99 τ15 := R_14.kp (fun j h1 h2 => kk15 j (by omega))
      have R2_15 : isR ψ nN 107 τ15 := R2_14.kp (fun j h1 h2 => kk15 j (by omega))
      refine lv_iconst (v := 1) hx hb d_Mdl_sign_328 (by decide) ?_
      have ev : ((((ψ (rp φ nP a0.1 : Nat)) * (ψ (IV (τ (80 + a)) 8))) + (ψ (IV (τ (80 + d)) 8))) * (fp_pw (ψ (IV (τ (80 + b)) 8)) (NV sN2))) = ((ψ (IV (τ (80 + a)) 8) * (ψ (rp φ nP a0.1 : Nat)) + ψ (IV (τ (80 + d)) 8)) * fp_pw (ψ (IV (τ (80 + b)) 8)) (NV sN2)) := by grind
      exact gm_zret hx hb hr2 hlk X rfl ⟨_, rfl, Or.inr ⟨rfl, ⟨hla, hlb⟩, a0, ha0, by rw [q15, ← ev]; exact PV.rep hgN p95_14, fun hne => by rw [kk15 (80 + t) (by omega), q14]; exact PV.rep hgN p77_13, fun j hj h1 h2 => by have hj := hj.o; rw [kk15 j (by omega), kk14 j (by omega), kk13 j (by omega) (by omega), kk12 j (by omega) (by omega), kk11 j (by omega) (by omega), kk10 j (by omega) (by omega), kk9 j (by omega) (by omega), kk8 j (by omega) (by omega), kk7 j (by omega) (by omega), kk6 j (by omega) (by omega), kk5 j (by omega) (by omega), kk4 j (by omega), kk3 j (by omega) (by omega) (by omega) (by omega), kk2 j (by omega) (by omega) (by omega), kk1 j (by omega)]⟩⟩ d_Mdl_sign_329
    · have hlt : ¬ ((IV (τ (80 + b)) 8 : Int) < nN ∧ ¬ IV (τ (80 + b)) 8 = 0) := by rcases h1b with h | h; exact absurd (h.1.symm.trans c85) (by decide); exact h.2
      refine lv_iconst (v := 0) hx hb d_Mdl_sign_88 (by decide) ?_
      exact gm_zret hx hb hr2 hlk X rfl ⟨_, rfl, Or.inl ⟨rfl, fun z => hlt z.2, fun _ _ _ _ => rfl⟩⟩ d_Mdl_sign_89
set_option maxHeartbeats 4000000 in
theorem r_Mdl_verify_ok {F G : Type} [Lean.Grind.CommRing F] [Lean.Grind.CommRing G] {φ : Int → F} {inv : F → F} {ψ : Int → G} (l : Launch) (E : gm_E) (N : gm_M) (τ : Nat → Nat → Int32) (cd : Int32) (hk : fk φ inv) {Ri : F} (hR : φ (tq 8) * Ri = 1) (hgN : fm ψ nN) {Si : G} (hS : ψ (tq 8) * Si = 1) (hr : isR φ nP 99 τ) (hrN : isR ψ nN 107 τ) (h7 : MV φ nP (τ 54) 7) {t : Nat} (h_t : t < 4) {d : Nat} (h_d : d < 8) {a : Nat} (h_a : a < 8) {b : Nat} (h_b : b < 8) {g0 : F × F} {pp : Option (F × F)} (hG : mpR φ τ 55 (some g0)) (hpp : mpR φ τ (115 + 4 * t) pp) : ci_ l y_Mdl_verify b_Mdl_verify 5 (some .boolean) { frames := 5, cells := 0, slots := 0, locals := 120 } E (mW E N τ cd) [.ref (E.2.1 + 53), .int (nI t), .int (nI d), .int (nI a), .int (nI b)] (fun r M' => ∃ τ', M' = mW E N τ' 0 ∧ ((r = 0 ∧ ¬ (¬ pp = none ∧ ((IV (τ (80 + a)) 8 : Int) < nN ∧ ¬ IV (τ (80 + a)) 8 = 0) ∧ ((IV (τ (80 + b)) 8 : Int) < nN ∧ ¬ IV (τ (80 + b)) 8 = 0) ∧ ∃ a0, (ec_add inv (ec_nm inv (rp ψ nN (ψ (IV (τ (80 + d)) 8) * (fp_pw (ψ (IV (τ (80 + b)) 8)) (NV sN2)))) (some g0)) (ec_nm inv (rp ψ nN (ψ (IV (τ (80 + a)) 8) * (fp_pw (ψ (IV (τ (80 + b)) 8)) (NV sN2)))) pp)) = some a0 ∧ ψ (rp φ nP a0.1 : Nat) = ψ (IV (τ (80 + a)) 8))) ∨ (r = 1 ∧ (¬ pp = none ∧ ((IV (τ (80 + a)) 8 : Int) < nN ∧ ¬ IV (τ (80 + a)) 8 = 0) ∧ ((IV (τ (80 + b)) 8 : Int) < nN ∧ ¬ IV (τ (80 + b)) 8 = 0) ∧ ∃ a0, (ec_add inv (ec_nm inv (rp ψ nN (ψ (IV (τ (80 + d)) 8) * (fp_pw (ψ (IV (τ (80 + b)) 8)) (NV sN2)))) (some g0)) (ec_nm inv (rp ψ nN (ψ (IV (τ (80 + a)) 8) * (fp_pw (ψ (IV (τ (80 + b)) 8)) (NV sN2)))) pp)) = some a0 ∧ ψ (rp φ nP a0.1 : Nat) = ψ (IV (τ (80 + a)) 8)))) ∧ kMn 0 0 τ τ') := by
  have hf := hk.fm
  have hpP := rPl_P E
  have hpN := rPl_N E
  refine gm_met (by decide) (Nat.le_of_ble_eq_true rfl) (fun p e s m below meth c ls hx hb hml hr2 hlk hnm hown hW X hl => ?_)
  have hl : lv_has ls 5 [(0, .ref (E.2.1 + 53)), (1, .int (nI t)), (2, .int (nI d)), (3, .int (nI a)), (4, .int (nI b))] := hl
  refine lv_aload_n hx hb d_Mdl_verify_0 rfl (lv_at hl 0 rfl) ?_
  refine lv_iload_n hx hb d_Mdl_verify_1 rfl (lv_at hl 1 rfl) ?_
  refine lv_iconst (v := 3) hx hb d_Mdl_verify_2 (by decide) ?_
  refine gm_Si hx hb hml hown hW X (r_Mdl_in_4 l E N τ cd) (n := 2) ⟨⟨wl_Mdl_164, ws_Mdl_in, winit_Mdl, wc_Mdl_in⟩, by decide +kernel, Nat.le_of_ble_eq_true rfl, Nat.le_of_ble_eq_true rfl⟩ rfl hl.1 rfl (Nat.le_of_ble_eq_true rfl) d_Mdl_verify_3 ⟨Nat.le_of_ble_eq_true rfl, Nat.le_of_ble_eq_true rfl⟩ (fun r0 M1 H locs hp X => ?_)
  rw [hp.1] at X
  have hz0 : r0 = 1 := by rcases hp.2 with h | h; exact h.1; exact absurd ⟨t, h_t, rfl⟩ h.2
  refine lv_if_eq (tgt := 41) hx hb d_Mdl_verify_6 (by decide) (fun c9 => absurd (hz0.symm.trans c9) (by decide)) (fun _ => ?_)
  refine lv_iload_n hx hb d_Mdl_verify_9 rfl (lv_at hl 2 rfl) ?_
  refine lv_bipush (v := 7) hx hb d_Mdl_verify_10 (by decide) ?_
  refine gm_Si hx hb hml hown hW X (r_Mdl_in_8 l E N τ cd) (n := 2) ⟨⟨wl_Mdl_164, ws_Mdl_in, winit_Mdl, wc_Mdl_in⟩, by decide +kernel, Nat.le_of_ble_eq_true rfl, Nat.le_of_ble_eq_true rfl⟩ rfl hl.1 rfl (Nat.le_of_ble_eq_true rfl) d_Mdl_verify_12 ⟨Nat.le_of_ble_eq_true rfl, Nat.le_of_ble_eq_true rfl⟩ (fun r1 M1 H locs hp X => ?_)
  rw [hp.1] at X
  have hz1 : r1 = 1 := by rcases hp.2 with h | h; exact h.1; exact absurd ⟨d, h_d, rfl⟩ h.2
  refine lv_if_eq (tgt := 41) hx hb d_Mdl_verify_15 (by decide) (fun c9 => absurd (hz1.symm.trans c9) (by decide)) (fun _ => ?_)
  refine lv_iload_n hx hb d_Mdl_verify_18 rfl (lv_at hl 3 rfl) ?_
  refine lv_bipush (v := 7) hx hb d_Mdl_verify_19 (by decide) ?_
  refine gm_Si hx hb hml hown hW X (r_Mdl_in_8 l E N τ cd) (n := 2) ⟨⟨wl_Mdl_164, ws_Mdl_in, winit_Mdl, wc_Mdl_in⟩, by decide +kernel, Nat.le_of_ble_eq_true rfl, Nat.le_of_ble_eq_true rfl⟩ rfl hl.1 rfl (Nat.le_of_ble_eq_true rfl) d_Mdl_verify_21 ⟨Nat.le_of_ble_eq_true rfl, Nat.le_of_ble_eq_true rfl⟩ (fun r2 M1 H locs hp X => ?_)
  rw [hp.1] at X
  have hz2 : r2 = 1 := by rcases hp.2 with h | h; exact h.1; exact absurd ⟨a, h_a, rfl⟩ h.2
  refine lv_if_eq (tgt := 41) hx hb d_Mdl_verify_24 (by decide) (fun c9 => absurd (hz2.symm.trans c9) (by decide)) (fun _ => ?_)
  refine lv_iload hx hb d_Mdl_verify_27 (lv_at hl 4 rfl) ?_
  refine lv_bipush (v := 7) hx hb d_Mdl_verify_29 (by decide) ?_
  refine gm_Si hx hb hml hown hW X (r_Mdl_in_8 l E N τ cd) (n := 2) ⟨⟨wl_Mdl_164, ws_Mdl_in, winit_Mdl, wc_Mdl_in⟩, by decide +kernel, Nat.le_of_ble_eq_true rfl, Nat.le_of_ble_eq_true rfl⟩ rfl hl.1 rfl (Nat.le_of_ble_eq_true rfl) d_Mdl_verify_31 ⟨Nat.le_of_ble_eq_true rfl, Nat.le_of_ble_eq_true rfl⟩ (fun r3 M1 H locs hp X => ?_)
  rw [hp.1] at X
  have hz3 : r3 = 1 := by rcases hp.2 with h | h; exact h.1; exact absurd ⟨b, h_b, rfl⟩ h.2
  refine lv_if_eq (tgt := 41) hx hb d_Mdl_verify_34 (by decide) (fun c9 => absurd (hz3.symm.trans c9) (by decide)) (fun _ => ?_)
  refine lv_iconst (v := 1) hx hb d_Mdl_verify_37 (by decide) ?_
  refine lv_goto (tgt := 42) hx hb d_Mdl_verify_38 (by decide) ?_
  refine gm_Vi hx hb hml hown hW X m53 (r_Mdl_good_1 l E N τ cd) (n := 1) ⟨⟨wl_Mdl_168, wi_Mdl_good, wsel_Mdl_good, winit_Mdl, wc_Mdl_good⟩, by decide +kernel, ⟨Nat.le_of_ble_eq_true rfl, Nat.le_of_ble_eq_true rfl⟩, _, rfl, rfl⟩ rfl hl.1 rfl (Nat.le_of_ble_eq_true rfl) d_Mdl_verify_42 ⟨Nat.le_of_ble_eq_true rfl, Nat.le_of_ble_eq_true rfl⟩ (fun r9 M1 H locs hp X => ?_)
  rw [hp.1] at X
  have hr9 := hp.2
  refine lv_if_ne (tgt := 50) hx hb d_Mdl_verify_45 (by decide) (fun _ => ?_) (fun c9 => absurd (hr9.symm.trans c9) (by decide))
  refine lv_aload_n hx hb d_Mdl_verify_50 rfl (lv_at hl 0 rfl) ?_
  refine gm_get hx hb hW hown X u_Mdl m53 rfl 16 (by decide) wf_Mdl_106 (v := .ref (E.2.1 + 88)) rfl d_Mdl_verify_51 ?_
  refine lv_iload_n hx hb d_Mdl_verify_54 rfl (lv_at hl 1 rfl) ?_
  refine gm_aald hx hb X (k := t) (t := E.2.1 + (115 + 4 * t)) m88 rfl rfl ⟨h_t, by decide⟩ (if_pos h_t) d_Mdl_verify_55 ?_
  refine gm_getN hx hb hW hown X u_Rpt (oQ (isQ_p h_t)) rfl 2 (by decide) wfn_Mdl_1 (v := .ref (E.2.1 + ((115 + 4 * t) + 3))) rfl d_Mdl_verify_56 ?_
  have hzz : ∃ z, MV φ nP (τ (115 + 4 * t + 3)) z ∧ (z = 0 ↔ pp = none) := by
    cases pp with
    | none => exact ⟨0, hpp, fun _ => rfl, fun _ => rfl⟩
    | some a1 =>
      obtain ⟨_, _, _, z, _, _, hz, hj⟩ := id hpp
      exact ⟨z, hz, fun e => absurd e hj.1, fun e => by cases e⟩
  obtain ⟨zz, hz1, hz2⟩ := hzz
  refine gm_Si hx hb hml hown hW X (q_isZero l hf hR (isQ.z (isQ_p h_t)) hz1) (n := 1) ⟨⟨wl_Mdl_7, ws_Rng_isZero, winit_Rng, wc_Rng_isZero⟩, by decide +kernel, Nat.le_of_ble_eq_true rfl, Nat.le_of_ble_eq_true rfl⟩ rfl hl.1 rfl (Nat.le_of_ble_eq_true rfl) d_Mdl_verify_59 ⟨Nat.le_of_ble_eq_true rfl, Nat.le_of_ble_eq_true rfl⟩ (fun rz M1 H locs hp X => ?_)
  rw [hp.1] at X
  have h1z := hp.2
  refine lv_if_ne (tgt := 92) hx hb d_Mdl_verify_62 (by decide) (fun c62 => ?_) (fun c62 => ?_)
  · have hnn : pp = none := by rcases h1z with h | h; exact hz2.mp h.2; exact absurd h.1 c62
    refine lv_iconst (v := 0) hx hb d_Mdl_verify_92 (by decide) ?_
    exact gm_zret hx hb hr2 hlk X rfl ⟨_, rfl, Or.inl ⟨rfl, fun z => z.1 hnn⟩, fun _ _ _ _ => rfl⟩ d_Mdl_verify_93
  · have hnn : ¬ pp = none := by rcases h1z with h | h; exact absurd (h.1.symm.trans c62) (by decide); exact fun e => h.2 (hz2.mpr e)
    refine lv_aload_n hx hb d_Mdl_verify_65 rfl (lv_at hl 0 rfl) ?_
    refine lv_aload_n hx hb d_Mdl_verify_66 rfl (lv_at hl 0 rfl) ?_
    refine gm_get hx hb hW hown X u_Mdl m53 rfl 15 (by decide) wf_Mdl_103 (v := .ref (E.2.1 + 79)) rfl d_Mdl_verify_67 ?_
    refine lv_iload_n hx hb d_Mdl_verify_70 rfl (lv_at hl 3 rfl) ?_
    refine gm_aald2 hx hb X (k := a) (t := E.2.1 + (80 + a)) m79 rfl rfl ⟨h_a, by decide⟩ (if_pos h_a) d_Mdl_verify_71 ?_
    refine gm_Vi hx hb hml hown hW X m53 (r_Mdl_isPart l E N τ 0 hk hR hgN hS hr hrN h7 (q8_n h_a)) (n := 1) ⟨⟨wl_Mdl_200, wi_Mdl_isPart, wsel_Mdl_isPart, winit_Mdl, wc_Mdl_isPart⟩, by decide +kernel, ⟨Nat.le_of_ble_eq_true rfl, Nat.le_of_ble_eq_true rfl⟩, _, rfl, rfl⟩ rfl hl.1 rfl (Nat.le_of_ble_eq_true rfl) d_Mdl_verify_72 ⟨Nat.le_of_ble_eq_true rfl, Nat.le_of_ble_eq_true rfl⟩ (fun ra M1 H locs hp X => ?_)
    rw [hp.1] at X
    have h1a := hp.2
    refine lv_if_eq (tgt := 92) hx hb d_Mdl_verify_75 (by decide) (fun c75 => ?_) (fun c75 => ?_)
    · have hlt : ¬ ((IV (τ (80 + a)) 8 : Int) < nN ∧ ¬ IV (τ (80 + a)) 8 = 0) := by rcases h1a with h | h; exact absurd (h.1.symm.trans c75) (by decide); exact h.2
      refine lv_iconst (v := 0) hx hb d_Mdl_verify_92 (by decide) ?_
      exact gm_zret hx hb hr2 hlk X rfl ⟨_, rfl, Or.inl ⟨rfl, fun z => hlt z.2.1⟩, fun _ _ _ _ => rfl⟩ d_Mdl_verify_93
    · have hla : ((IV (τ (80 + a)) 8 : Int) < nN ∧ ¬ IV (τ (80 + a)) 8 = 0) := by rcases h1a with h | h; exact h.2; exact absurd h.1 c75
      refine lv_aload_n hx hb d_Mdl_verify_78 rfl (lv_at hl 0 rfl) ?_
      refine lv_aload_n hx hb d_Mdl_verify_79 rfl (lv_at hl 0 rfl) ?_
      refine gm_get hx hb hW hown X u_Mdl m53 rfl 15 (by decide) wf_Mdl_103 (v := .ref (E.2.1 + 79)) rfl d_Mdl_verify_80 ?_
      refine lv_iload hx hb d_Mdl_verify_83 (lv_at hl 4 rfl) ?_
      refine gm_aald2 hx hb X (k := b) (t := E.2.1 + (80 + b)) m79 rfl rfl ⟨h_b, by decide⟩ (if_pos h_b) d_Mdl_verify_85 ?_
      refine gm_Vi hx hb hml hown hW X m53 (r_Mdl_isPart l E N τ 0 hk hR hgN hS hr hrN h7 (q8_n h_b)) (n := 1) ⟨⟨wl_Mdl_200, wi_Mdl_isPart, wsel_Mdl_isPart, winit_Mdl, wc_Mdl_isPart⟩, by decide +kernel, ⟨Nat.le_of_ble_eq_true rfl, Nat.le_of_ble_eq_true rfl⟩, _, rfl, rfl⟩ rfl hl.1 rfl (Nat.le_of_ble_eq_true rfl) d_Mdl_verify_86 ⟨Nat.le_of_ble_eq_true rfl, Nat.le_of_ble_eq_true rfl⟩ (fun rb M1 H locs hp X => ?_)
      rw [hp.1] at X
      have h1b := hp.2
      refine lv_if_ne (tgt := 94) hx hb d_Mdl_verify_89 (by decide) (fun c89 => ?_) (fun c89 => ?_)
      · have hlb : ((IV (τ (80 + b)) 8 : Int) < nN ∧ ¬ IV (τ (80 + b)) 8 = 0) := by rcases h1b with h | h; exact h.2; exact absurd h.1 c89
        refine lv_aload_n hx hb d_Mdl_verify_94 rfl (lv_at hl 0 rfl) ?_
        refine gm_get hx hb hW hown X u_Mdl m53 rfl 1 (by decide) wf_Mdl_132 (v := .ref (E.2.1 + 107)) rfl d_Mdl_verify_95 ?_
        refine lv_aload_n hx hb d_Mdl_verify_98 rfl (lv_at hl 0 rfl) ?_
        refine gm_get hx hb hW hown X u_Mdl m53 rfl 15 (by decide) wf_Mdl_103 (v := .ref (E.2.1 + 79)) rfl d_Mdl_verify_99 ?_
        refine lv_iload hx hb d_Mdl_verify_102 (lv_at hl 4 rfl) ?_
        refine gm_aald2 hx hb X (k := b) (t := E.2.1 + (80 + b)) m79 rfl rfl ⟨h_b, by decide⟩ (if_pos h_b) d_Mdl_verify_104 ?_
        refine lv_aload_n hx hb d_Mdl_verify_105 rfl (lv_at hl 0 rfl) ?_
        refine gm_get hx hb hW hown X u_Mdl m53 rfl 18 (by decide) wf_Mdl_113 (v := .ref (E.2.1 + 93)) rfl d_Mdl_verify_106 ?_
        refine gm_Vv hx hb hml hown hW X m107 (q_enter l hpN hgN hS hrN (by decide) (q8_n h_b) (by omega)) (n := 2) ⟨⟨wl_Mdl_135, wi_Rng_enter, wsel_Rng_enter, winit_Rng, wc_Rng_enter⟩, by decide +kernel, ⟨Nat.le_of_ble_eq_true rfl, Nat.le_of_ble_eq_true rfl⟩, _, rfl, rfl⟩ rfl hl.1 rfl (Nat.le_of_ble_eq_true rfl) d_Mdl_verify_109 ⟨Nat.le_of_ble_eq_true rfl, Nat.le_of_ble_eq_true rfl⟩ (fun M1 H locs hp X => ?_)
        obtain ⟨τ1, rfl, q1, kk1⟩ := hp
        have R_1 : isR φ nP 99 τ1 := hr.kp (fun j h1 h2 => kk1 j (by omega) (by omega))
        have R2_1 : isR ψ nN 107 τ1 := hrN.kp (fun j h1 h2 => kk1 j (by omega) (by omega))
        have m93_1 : MV ψ nN (τ1 93) (ψ (IV (τ (80 + b)) 8)) := q1
        refine lv_aload_n hx hb d_Mdl_verify_112 rfl (lv_at hl 0 rfl) ?_
        refine gm_get hx hb hW hown X u_Mdl m53 rfl 1 (by decide) wf_Mdl_132 (v := .ref (E.2.1 + 107)) rfl d_Mdl_verify_113 ?_
        refine lv_aload_n hx hb d_Mdl_verify_116 rfl (lv_at hl 0 rfl) ?_
        refine gm_get hx hb hW hown X u_Mdl m53 rfl 18 (by decide) wf_Mdl_113 (v := .ref (E.2.1 + 93)) rfl d_Mdl_verify_117 ?_
        refine lv_bipush (v := (-2)) hx hb d_Mdl_verify_120 (by decide) ?_
        refine lv_iconst (v := 0) hx hb d_Mdl_verify_122 (by decide) ?_
        refine lv_aload_n hx hb d_Mdl_verify_123 rfl (lv_at hl 0 rfl) ?_
        refine gm_get hx hb hW hown X u_Mdl m53 rfl 18 (by decide) wf_Mdl_113 (v := .ref (E.2.1 + 93)) rfl d_Mdl_verify_124 ?_
        refine gm_Vv hx hb hml hown hW X m107 (q_power l hpN hgN hS R2_1 (sh := 0) (by decide) (by decide) (by decide) (by omega) m93_1) (n := 4) ⟨⟨wl_Mdl_61, wi_Rng_power, wsel_Rng_power, winit_Rng, wc_Rng_power⟩, by decide +kernel, ⟨Nat.le_of_ble_eq_true rfl, Nat.le_of_ble_eq_true rfl⟩, _, rfl, rfl⟩ rfl hl.1 rfl (Nat.le_of_ble_eq_true rfl) d_Mdl_verify_127 ⟨Nat.le_of_ble_eq_true rfl, Nat.le_of_ble_eq_true rfl⟩ (fun M1 H locs hp X => ?_)
        obtain ⟨τ2, rfl, q2, kk2⟩ := hp
        have R_2 : isR φ nP 99 τ2 := R_1.kp (fun j h1 h2 => kk2 j (by omega) (by omega))
        have R2_2 : isR ψ nN 107 τ2 := R2_1.kp (fun j h1 h2 => kk2 j (by omega) (by omega))
        have m93_2 : MV ψ nN (τ2 93) (fp_pw (ψ (IV (τ (80 + b)) 8)) (NV sN2)) := by rw [← xp_sN2 R2_1]; exact q2
        refine lv_aload_n hx hb d_Mdl_verify_130 rfl (lv_at hl 0 rfl) ?_
        refine gm_get hx hb hW hown X u_Mdl m53 rfl 1 (by decide) wf_Mdl_132 (v := .ref (E.2.1 + 107)) rfl d_Mdl_verify_131 ?_
        refine lv_aload_n hx hb d_Mdl_verify_134 rfl (lv_at hl 0 rfl) ?_
        refine gm_get hx hb hW hown X u_Mdl m53 rfl 15 (by decide) wf_Mdl_103 (v := .ref (E.2.1 + 79)) rfl d_Mdl_verify_135 ?_
        refine lv_iload_n hx hb d_Mdl_verify_138 rfl (lv_at hl 2 rfl) ?_
        refine gm_aald2 hx hb X (k := d) (t := E.2.1 + (80 + d)) m79 rfl rfl ⟨h_d, by decide⟩ (if_pos h_d) d_Mdl_verify_139 ?_
        refine lv_aload_n hx hb d_Mdl_verify_140 rfl (lv_at hl 0 rfl) ?_
        refine gm_get hx hb hW hown X u_Mdl m53 rfl 20 (by decide) wf_Mdl_119 (v := .ref (E.2.1 + 95)) rfl d_Mdl_verify_141 ?_
        have e144 := (show τ2 (80 + d) = τ (80 + d) by rw [kk2 (80 + d) (by omega) (by omega), kk1 (80 + d) (by omega) (by omega)])
        refine gm_Vv hx hb hml hown hW X m107 (q_enter l hpN hgN hS R2_2 (by decide) (q8_n h_d) (by omega)) (n := 2) ⟨⟨wl_Mdl_135, wi_Rng_enter, wsel_Rng_enter, winit_Rng, wc_Rng_enter⟩, by decide +kernel, ⟨Nat.le_of_ble_eq_true rfl, Nat.le_of_ble_eq_true rfl⟩, _, rfl, rfl⟩ rfl hl.1 rfl (Nat.le_of_ble_eq_true rfl) d_Mdl_verify_144 ⟨Nat.le_of_ble_eq_true rfl, Nat.le_of_ble_eq_true rfl⟩ (fun M1 H locs hp X => ?_)
        obtain ⟨τ3, rfl, q3, kk3⟩ := hp
        have m93_3 : MV ψ nN (τ3 93) (fp_pw (ψ (IV (τ (80 + b)) 8)) (NV sN2)) := by rw [kk3 93 (by omega) (by omega)]; exact m93_2
        have R_3 : isR φ nP 99 τ3 := R_2.kp (fun j h1 h2 => kk3 j (by omega) (by omega))
        have R2_3 : isR ψ nN 107 τ3 := R2_2.kp (fun j h1 h2 => kk3 j (by omega) (by omega))
        have m95_3 : MV ψ nN (τ3 95) (ψ (IV (τ (80 + d)) 8)) := by rw [← e144]; exact q3
        refine lv_aload_n hx hb d_Mdl_verify_147 rfl (lv_at hl 0 rfl) ?_
        refine gm_get hx hb hW hown X u_Mdl m53 rfl 1 (by decide) wf_Mdl_132 (v := .ref (E.2.1 + 107)) rfl d_Mdl_verify_148 ?_
        refine lv_aload_n hx hb d_Mdl_verify_151 rfl (lv_at hl 0 rfl) ?_
        refine gm_get hx hb hW hown X u_Mdl m53 rfl 20 (by decide) wf_Mdl_119 (v := .ref (E.2.1 + 95)) rfl d_Mdl_verify_152 ?_
        refine lv_aload_n hx hb d_Mdl_verify_155 rfl (lv_at hl 0 rfl) ?_
        refine gm_get hx hb hW hown X u_Mdl m53 rfl 18 (by decide) wf_Mdl_113 (v := .ref (E.2.1 + 93)) rfl d_Mdl_verify_156 ?_
        refine lv_aload_n hx hb d_Mdl_verify_159 rfl (lv_at hl 0 rfl) ?_
        refine gm_get hx hb hW hown X u_Mdl m53 rfl 20 (by decide) wf_Mdl_119 (v := .ref (E.2.1 + 95)) rfl d_Mdl_verify_160 ?_
        refine gm_Vv hx hb hml hown hW X m107 (q_mul l hpN hgN hS R2_3 (by decide) (by decide) (by decide) (by omega) m95_3 m93_3) (n := 3) ⟨⟨wl_Mdl_25, wi_Rng_multiply, wsel_Rng_multiply, winit_Rng, wc_Rng_multiply⟩, by decide +kernel, ⟨Nat.le_of_ble_eq_true rfl, Nat.le_of_ble_eq_true rfl⟩, _, rfl, rfl⟩ rfl hl.1 rfl (Nat.le_of_ble_eq_true rfl) d_Mdl_verify_163 ⟨Nat.le_of_ble_eq_true rfl, Nat.le_of_ble_eq_true rfl⟩ (fun M1 H locs hp X => ?_)
        obtain ⟨τ4, rfl, q4, kk4⟩ := hp
        have m93_4 : MV ψ nN (τ4 93) (fp_pw (ψ (IV (τ (80 + b)) 8)) (NV sN2)) := by rw [kk4 93 (by omega) (by omega)]; exact m93_3
        have R_4 : isR φ nP 99 τ4 := R_3.kp (fun j h1 h2 => kk4 j (by omega) (by omega))
        have R2_4 : isR ψ nN 107 τ4 := R2_3.kp (fun j h1 h2 => kk4 j (by omega) (by omega))
        have m95_4 : MV ψ nN (τ4 95) ((ψ (IV (τ (80 + d)) 8)) * (fp_pw (ψ (IV (τ (80 + b)) 8)) (NV sN2))) := q4
        refine lv_aload_n hx hb d_Mdl_verify_166 rfl (lv_at hl 0 rfl) ?_
        refine gm_get hx hb hW hown X u_Mdl m53 rfl 1 (by decide) wf_Mdl_132 (v := .ref (E.2.1 + 107)) rfl d_Mdl_verify_167 ?_
        refine lv_aload_n hx hb d_Mdl_verify_170 rfl (lv_at hl 0 rfl) ?_
        refine gm_get hx hb hW hown X u_Mdl m53 rfl 20 (by decide) wf_Mdl_119 (v := .ref (E.2.1 + 95)) rfl d_Mdl_verify_171 ?_
        refine lv_aload_n hx hb d_Mdl_verify_174 rfl (lv_at hl 0 rfl) ?_
        refine gm_get hx hb hW hown X u_Mdl m53 rfl 20 (by decide) wf_Mdl_119 (v := .ref (E.2.1 + 95)) rfl d_Mdl_verify_175 ?_
        refine gm_Vv hx hb hml hown hW X m107 (q_leave l hpN hgN hS R2_4 (by decide) (by decide) (by omega) m95_4) (n := 2) ⟨⟨wl_Mdl_65, wi_Rng_leave, wsel_Rng_leave, winit_Rng, wc_Rng_leave⟩, by decide +kernel, ⟨Nat.le_of_ble_eq_true rfl, Nat.le_of_ble_eq_true rfl⟩, _, rfl, rfl⟩ rfl hl.1 rfl (Nat.le_of_ble_eq_true rfl) d_Mdl_verify_178 ⟨Nat.le_of_ble_eq_true rfl, Nat.le_of_ble_eq_true rfl⟩ (fun M1 H locs hp X => ?_)
        obtain ⟨τ5, rfl, q5, kk5⟩ := hp
        have m93_5 : MV ψ nN (τ5 93) (fp_pw (ψ (IV (τ (80 + b)) 8)) (NV sN2)) := by rw [kk5 93 (by omega) (by omega)]; exact m93_4
        have R_5 : isR φ nP 99 τ5 := R_4.kp (fun j h1 h2 => kk5 j (by omega) (by omega))
        have R2_5 : isR ψ nN 107 τ5 := R2_4.kp (fun j h1 h2 => kk5 j (by omega) (by omega))
        have p95_5 : PV ψ nN (τ5 95) ((ψ (IV (τ (80 + d)) 8)) * (fp_pw (ψ (IV (τ (80 + b)) 8)) (NV sN2))) := q5
        refine lv_aload_n hx hb d_Mdl_verify_181 rfl (lv_at hl 0 rfl) ?_
        refine gm_get hx hb hW hown X u_Mdl m53 rfl 1 (by decide) wf_Mdl_132 (v := .ref (E.2.1 + 107)) rfl d_Mdl_verify_182 ?_
        refine lv_aload_n hx hb d_Mdl_verify_185 rfl (lv_at hl 0 rfl) ?_
        refine gm_get hx hb hW hown X u_Mdl m53 rfl 15 (by decide) wf_Mdl_103 (v := .ref (E.2.1 + 79)) rfl d_Mdl_verify_186 ?_
        refine lv_iload_n hx hb d_Mdl_verify_189 rfl (lv_at hl 3 rfl) ?_
        refine gm_aald2 hx hb X (k := a) (t := E.2.1 + (80 + a)) m79 rfl rfl ⟨h_a, by decide⟩ (if_pos h_a) d_Mdl_verify_190 ?_
        refine lv_aload_n hx hb d_Mdl_verify_191 rfl (lv_at hl 0 rfl) ?_
        refine gm_get hx hb hW hown X u_Mdl m53 rfl 21 (by decide) wf_Mdl_122 (v := .ref (E.2.1 + 96)) rfl d_Mdl_verify_192 ?_
        have e195 := (show τ5 (80 + a) = τ (80 + a) by rw [kk5 (80 + a) (by omega) (by omega), kk4 (80 + a) (by omega) (by omega), kk3 (80 + a) (by omega) (by omega), kk2 (80 + a) (by omega) (by omega), kk1 (80 + a) (by omega) (by omega)])
        refine gm_Vv hx hb hml hown hW X m107 (q_enter l hpN hgN hS R2_5 (by decide) (q8_n h_a) (by omega)) (n := 2) ⟨⟨wl_Mdl_135, wi_Rng_enter, wsel_Rng_enter, winit_Rng, wc_Rng_enter⟩, by decide +kernel, ⟨Nat.le_of_ble_eq_true rfl, Nat.le_of_ble_eq_true rfl⟩, _, rfl, rfl⟩ rfl hl.1 rfl (Nat.le_of_ble_eq_true rfl) d_Mdl_verify_195 ⟨Nat.le_of_ble_eq_true rfl, Nat.le_of_ble_eq_true rfl⟩ (fun M1 H locs hp X => ?_)
        obtain ⟨τ6, rfl, q6, kk6⟩ := hp
        have m93_6 : MV ψ nN (τ6 93) (fp_pw (ψ (IV (τ (80 + b)) 8)) (NV sN2)) := by rw [kk6 93 (by omega) (by omega)]; exact m93_5
        have p95_6 : PV ψ nN (τ6 95) ((ψ (IV (τ (80 + d)) 8)) * (fp_pw (ψ (IV (τ (80 + b)) 8)) (NV sN2))) := by rw [kk6 95 (by omega) (by omega)]; exact p95_5
        have R_6 : isR φ nP 99 τ6 := R_5.kp (fun j h1 h2 => kk6 j (by omega) (by omega))
        have R2_6 : isR ψ nN 107 τ6 := R2_5.kp (fun j h1 h2 => kk6 j (by omega) (by omega))
        have m96_6 : MV ψ nN (τ6 96) (ψ (IV (τ (80 + a)) 8)) := by rw [← e195]; exact q6
        refine lv_aload_n hx hb d_Mdl_verify_198 rfl (lv_at hl 0 rfl) ?_
        refine gm_get hx hb hW hown X u_Mdl m53 rfl 1 (by decide) wf_Mdl_132 (v := .ref (E.2.1 + 107)) rfl d_Mdl_verify_199 ?_
        refine lv_aload_n hx hb d_Mdl_verify_202 rfl (lv_at hl 0 rfl) ?_
        refine gm_get hx hb hW hown X u_Mdl m53 rfl 21 (by decide) wf_Mdl_122 (v := .ref (E.2.1 + 96)) rfl d_Mdl_verify_203 ?_
        refine lv_aload_n hx hb d_Mdl_verify_206 rfl (lv_at hl 0 rfl) ?_
        refine gm_get hx hb hW hown X u_Mdl m53 rfl 18 (by decide) wf_Mdl_113 (v := .ref (E.2.1 + 93)) rfl d_Mdl_verify_207 ?_
        refine lv_aload_n hx hb d_Mdl_verify_210 rfl (lv_at hl 0 rfl) ?_
        refine gm_get hx hb hW hown X u_Mdl m53 rfl 21 (by decide) wf_Mdl_122 (v := .ref (E.2.1 + 96)) rfl d_Mdl_verify_211 ?_
        refine gm_Vv hx hb hml hown hW X m107 (q_mul l hpN hgN hS R2_6 (by decide) (by decide) (by decide) (by omega) m96_6 m93_6) (n := 3) ⟨⟨wl_Mdl_25, wi_Rng_multiply, wsel_Rng_multiply, winit_Rng, wc_Rng_multiply⟩, by decide +kernel, ⟨Nat.le_of_ble_eq_true rfl, Nat.le_of_ble_eq_true rfl⟩, _, rfl, rfl⟩ rfl hl.1 rfl (Nat.le_of_ble_eq_true rfl) d_Mdl_verify_214 ⟨Nat.le_of_ble_eq_true rfl, Nat.le_of_ble_eq_true rfl⟩ (fun M1 H locs hp X => ?_)
        obtain ⟨τ7, rfl, q7, kk7⟩ := hp
        have m93_7 : MV ψ nN (τ7 93) (fp_pw (ψ (IV (τ (80 + b)) 8)) (NV sN2)) := by rw [kk7 93 (by omega) (by omega)]; exact m93_6
        have p95_7 : PV ψ nN (τ7 95) ((ψ (IV (τ (80 + d)) 8)) * (fp_pw (ψ (IV (τ (80 + b)) 8)) (NV sN2))) := by rw [kk7 95 (by omega) (by omega)]; exact p95_6
        have R_7 : isR φ nP 99 τ7 := R_6.kp (fun j h1 h2 => kk7 j (by omega) (by omega))
        have R2_7 : isR ψ nN 107 τ7 := R2_6.kp (fun j h1 h2 => kk7 j (by omega) (by omega))
        have m96_7 : MV ψ nN (τ7 96) ((ψ (IV (τ (80 + a)) 8)) * (fp_pw (ψ (IV (τ (80 + b)) 8)) (NV sN2))) := q7
        refine lv_aload_n hx hb d_Mdl_verify_217 rfl (lv_at hl 0 rfl) ?_
        refine gm_get hx hb hW hown X u_Mdl m53 rfl 1 (by decide) wf_Mdl_132 (v := .ref (E.2.1 + 107)) rfl d_Mdl_verify_218 ?_
        refine lv_aload_n hx hb d_Mdl_verify_221 rfl (lv_at hl 0 rfl) ?_
        refine gm_get hx hb hW hown X u_Mdl m53 rfl 21 (by decide) wf_Mdl_122 (v := .ref (E.2.1 + 96)) rfl d_Mdl_verify_222 ?_
        refine lv_aload_n hx hb d_Mdl_verify_225 rfl (lv_at hl 0 rfl) ?_
        refine gm_get hx hb hW hown X u_Mdl m53 rfl 21 (by decide) wf_Mdl_122 (v := .ref (E.2.1 + 96)) rfl d_Mdl_verify_226 ?_
        refine gm_Vv hx hb hml hown hW X m107 (q_leave l hpN hgN hS R2_7 (by decide) (by decide) (by omega) m96_7) (n := 2) ⟨⟨wl_Mdl_65, wi_Rng_leave, wsel_Rng_leave, winit_Rng, wc_Rng_leave⟩, by decide +kernel, ⟨Nat.le_of_ble_eq_true rfl, Nat.le_of_ble_eq_true rfl⟩, _, rfl, rfl⟩ rfl hl.1 rfl (Nat.le_of_ble_eq_true rfl) d_Mdl_verify_229 ⟨Nat.le_of_ble_eq_true rfl, Nat.le_of_ble_eq_true rfl⟩ (fun M1 H locs hp X => ?_)
        obtain ⟨τ8, rfl, q8, kk8⟩ := hp
        have m93_8 : MV ψ nN (τ8 93) (fp_pw (ψ (IV (τ (80 + b)) 8)) (NV sN2)) := by rw [kk8 93 (by omega) (by omega)]; exact m93_7
        have p95_8 : PV ψ nN (τ8 95) ((ψ (IV (τ (80 + d)) 8)) * (fp_pw (ψ (IV (τ (80 + b)) 8)) (NV sN2))) := by rw [kk8 95 (by omega) (by omega)]; exact p95_7
        have R_8 : isR φ nP 99 τ8 := R_7.kp (fun j h1 h2 => kk8 j (by omega) (by omega))
        have R2_8 : isR ψ nN 107 τ8 := R2_7.kp (fun j h1 h2 => kk8 j (by omega) (by omega))
        have p96_8 : PV ψ nN (τ8 96) ((ψ (IV (τ (80 + a)) 8)) * (fp_pw (ψ (IV (τ (80 + b)) 8)) (NV sN2))) := q8
        refine lv_aload_n hx hb d_Mdl_verify_232 rfl (lv_at hl 0 rfl) ?_
        refine gm_get hx hb hW hown X u_Mdl m53 rfl 4 (by decide) wf_Mdl_83 (v := .ref (E.2.1 + 59)) rfl d_Mdl_verify_233 ?_
        refine lv_aload_n hx hb d_Mdl_verify_236 rfl (lv_at hl 0 rfl) ?_
        refine gm_get hx hb hW hown X u_Mdl m53 rfl 16 (by decide) wf_Mdl_106 (v := .ref (E.2.1 + 88)) rfl d_Mdl_verify_237 ?_
        refine lv_iload_n hx hb d_Mdl_verify_240 rfl (lv_at hl 1 rfl) ?_
        refine gm_aald hx hb X (k := t) (t := E.2.1 + (115 + 4 * t)) m88 rfl rfl ⟨h_t, by decide⟩ (if_pos h_t) d_Mdl_verify_241 ?_
        have k1 : mpR φ τ8 (115 + 4 * t) pp := (hpp).kept (show τ8 ((115 + 4 * t) + 1) = τ ((115 + 4 * t) + 1) by rw [kk8 ((115 + 4 * t) + 1) (by omega) (by omega), kk7 ((115 + 4 * t) + 1) (by omega) (by omega), kk6 ((115 + 4 * t) + 1) (by omega) (by omega), kk5 ((115 + 4 * t) + 1) (by omega) (by omega), kk4 ((115 + 4 * t) + 1) (by omega) (by omega), kk3 ((115 + 4 * t) + 1) (by omega) (by omega), kk2 ((115 + 4 * t) + 1) (by omega) (by omega), kk1 ((115 + 4 * t) + 1) (by omega) (by omega)]) (show τ8 ((115 + 4 * t) + 2) = τ ((115 + 4 * t) + 2) by rw [kk8 ((115 + 4 * t) + 2) (by omega) (by omega), kk7 ((115 + 4 * t) + 2) (by omega) (by omega), kk6 ((115 + 4 * t) + 2) (by omega) (by omega), kk5 ((115 + 4 * t) + 2) (by omega) (by omega), kk4 ((115 + 4 * t) + 2) (by omega) (by omega), kk3 ((115 + 4 * t) + 2) (by omega) (by omega), kk2 ((115 + 4 * t) + 2) (by omega) (by omega), kk1 ((115 + 4 * t) + 2) (by omega) (by omega)]) (show τ8 ((115 + 4 * t) + 3) = τ ((115 + 4 * t) + 3) by rw [kk8 ((115 + 4 * t) + 3) (by omega) (by omega), kk7 ((115 + 4 * t) + 3) (by omega) (by omega), kk6 ((115 + 4 * t) + 3) (by omega) (by omega), kk5 ((115 + 4 * t) + 3) (by omega) (by omega), kk4 ((115 + 4 * t) + 3) (by omega) (by omega), kk3 ((115 + 4 * t) + 3) (by omega) (by omega), kk2 ((115 + 4 * t) + 3) (by omega) (by omega), kk1 ((115 + 4 * t) + 3) (by omega) (by omega)])
        have g1 : mpR φ τ8 55 (some g0) := (hG).kept (show τ8 (55 + 1) = τ (55 + 1) by rw [kk8 (55 + 1) (by omega) (by omega), kk7 (55 + 1) (by omega) (by omega), kk6 (55 + 1) (by omega) (by omega), kk5 (55 + 1) (by omega) (by omega), kk4 (55 + 1) (by omega) (by omega), kk3 (55 + 1) (by omega) (by omega), kk2 (55 + 1) (by omega) (by omega), kk1 (55 + 1) (by omega) (by omega)]) (show τ8 (55 + 2) = τ (55 + 2) by rw [kk8 (55 + 2) (by omega) (by omega), kk7 (55 + 2) (by omega) (by omega), kk6 (55 + 2) (by omega) (by omega), kk5 (55 + 2) (by omega) (by omega), kk4 (55 + 2) (by omega) (by omega), kk3 (55 + 2) (by omega) (by omega), kk2 (55 + 2) (by omega) (by omega), kk1 (55 + 2) (by omega) (by omega)]) (show τ8 (55 + 3) = τ (55 + 3) by rw [kk8 (55 + 3) (by omega) (by omega), kk7 (55 + 3) (by omega) (by omega), kk6 (55 + 3) (by omega) (by omega), kk5 (55 + 3) (by omega) (by omega), kk4 (55 + 3) (by omega) (by omega), kk3 (55 + 3) (by omega) (by omega), kk2 (55 + 3) (by omega) (by omega), kk1 (55 + 3) (by omega) (by omega)])
        refine gm_Vv hx hb hml hown hW X (oQ isQ_59) (q_Rpt_take l E N τ8 0 isQ_59 (isQ_p h_t)) (n := 1) ⟨⟨wl_Mdl_50, wi_Rpt_take, wsel_Rpt_take, winit_Rpt, wc_Rpt_take⟩, by decide +kernel, ⟨Nat.le_of_ble_eq_true rfl, Nat.le_of_ble_eq_true rfl⟩, _, rfl, rfl⟩ rfl hl.1 rfl (Nat.le_of_ble_eq_true rfl) d_Mdl_verify_242 ⟨Nat.le_of_ble_eq_true rfl, Nat.le_of_ble_eq_true rfl⟩ (fun M1 H locs hp X => ?_)
        obtain ⟨τ9, rfl, q9, kk9⟩ := hp
        have p95_9 : PV ψ nN (τ9 95) ((ψ (IV (τ (80 + d)) 8)) * (fp_pw (ψ (IV (τ (80 + b)) 8)) (NV sN2))) := by rw [kk9 95 (by omega)]; exact p95_8
        have p96_9 : PV ψ nN (τ9 96) ((ψ (IV (τ (80 + a)) 8)) * (fp_pw (ψ (IV (τ (80 + b)) 8)) (NV sN2))) := by rw [kk9 96 (by omega)]; exact p96_8
        have R_9 : isR φ nP 99 τ9 := R_8.kp (fun j h1 h2 => kk9 j (by omega))
        have R2_9 : isR ψ nN 107 τ9 := R2_8.kp (fun j h1 h2 => kk9 j (by omega))
        have k2 : mpR φ τ9 59 pp := k1.kept q9.1 q9.2.1 q9.2.2
        have g2 : mpR φ τ9 55 (some g0) := g1.kept (kk9 _ (by omega)) (kk9 _ (by omega)) (kk9 _ (by omega))
        refine lv_aload_n hx hb d_Mdl_verify_245 rfl (lv_at hl 0 rfl) ?_
        refine gm_get hx hb hW hown X u_Mdl m53 rfl 6 (by decide) wf_Mdl_89 (v := .ref (E.2.1 + 67)) rfl d_Mdl_verify_246 ?_
        refine lv_aload_n hx hb d_Mdl_verify_249 rfl (lv_at hl 0 rfl) ?_
        refine gm_get hx hb hW hown X u_Mdl m53 rfl 3 (by decide) wf_Mdl_79 (v := .ref (E.2.1 + 55)) rfl d_Mdl_verify_250 ?_
        refine gm_Vv hx hb hml hown hW X (oQ isQ_67) (q_Rpt_take l E N τ9 0 isQ_67 isQ_55) (n := 1) ⟨⟨wl_Mdl_50, wi_Rpt_take, wsel_Rpt_take, winit_Rpt, wc_Rpt_take⟩, by decide +kernel, ⟨Nat.le_of_ble_eq_true rfl, Nat.le_of_ble_eq_true rfl⟩, _, rfl, rfl⟩ rfl hl.1 rfl (Nat.le_of_ble_eq_true rfl) d_Mdl_verify_253 ⟨Nat.le_of_ble_eq_true rfl, Nat.le_of_ble_eq_true rfl⟩ (fun M1 H locs hp X => ?_)
        obtain ⟨τ10, rfl, q10, kk10⟩ := hp
        have p95_10 : PV ψ nN (τ10 95) ((ψ (IV (τ (80 + d)) 8)) * (fp_pw (ψ (IV (τ (80 + b)) 8)) (NV sN2))) := by rw [kk10 95 (by omega)]; exact p95_9
        have p96_10 : PV ψ nN (τ10 96) ((ψ (IV (τ (80 + a)) 8)) * (fp_pw (ψ (IV (τ (80 + b)) 8)) (NV sN2))) := by rw [kk10 96 (by omega)]; exact p96_9
        have R_10 : isR φ nP 99 τ10 := R_9.kp (fun j h1 h2 => kk10 j (by omega))
        have R2_10 : isR ψ nN 107 τ10 := R2_9.kp (fun j h1 h2 => kk10 j (by omega))
        have g3 : mpR φ τ10 67 (some g0) := g2.kept q10.1 q10.2.1 q10.2.2
        have k2 : mpR φ τ10 59 pp := k2.kept (kk10 _ (by omega)) (kk10 _ (by omega)) (kk10 _ (by omega))
        have e95 := PV.rep hgN p95_10
        refine lv_aload_n hx hb d_Mdl_verify_256 rfl (lv_at hl 0 rfl) ?_
        refine lv_aload_n hx hb d_Mdl_verify_257 rfl (lv_at hl 0 rfl) ?_
        refine gm_get hx hb hW hown X u_Mdl m53 rfl 20 (by decide) wf_Mdl_119 (v := .ref (E.2.1 + 95)) rfl d_Mdl_verify_258 ?_
        refine lv_aload_n hx hb d_Mdl_verify_261 rfl (lv_at hl 0 rfl) ?_
        refine gm_get hx hb hW hown X u_Mdl m53 rfl 6 (by decide) wf_Mdl_89 (v := .ref (E.2.1 + 67)) rfl d_Mdl_verify_262 ?_
        refine lv_aload_n hx hb d_Mdl_verify_265 rfl (lv_at hl 0 rfl) ?_
        refine gm_get hx hb hW hown X u_Mdl m53 rfl 5 (by decide) wf_Mdl_86 (v := .ref (E.2.1 + 63)) rfl d_Mdl_verify_266 ?_
        refine gm_Vv hx hb hml hown hW X m53 (q_Mdl_times_p l E N τ10 0 hk hR R_10 (t := 63) (u := 67) (xu := 95) (by omega) (by omega) (by decide) (by omega) g3) (n := 3) ⟨⟨wl_Mdl_192, wi_Mdl_times_p, wsel_Mdl_times_p, winit_Mdl, wc_Mdl_times_p⟩, by decide +kernel, ⟨Nat.le_of_ble_eq_true rfl, Nat.le_of_ble_eq_true rfl⟩, _, rfl, rfl⟩ rfl hl.1 rfl (Nat.le_of_ble_eq_true rfl) d_Mdl_verify_269 ⟨Nat.le_of_ble_eq_true rfl, Nat.le_of_ble_eq_true rfl⟩ (fun M1 H locs hp X => ?_)
        obtain ⟨τ11, rfl, q11, kk11⟩ := hp
        have R_11 : isR φ nP 99 τ11 := R_10.kp (fun j h1 h2 => kk11 j (by omega) (by omega) (by omega))
        have R2_11 : isR ψ nN 107 τ11 := R2_10.kp (fun j h1 h2 => kk11 j (by omega) (by omega) (by omega))
        have p95_11 : PV ψ nN (τ11 95) ((ψ (IV (τ (80 + d)) 8)) * (fp_pw (ψ (IV (τ (80 + b)) 8)) (NV sN2))) := by rw [kk11 95 (by omega) (by omega) (by omega)]; exact p95_10
        have p96_11 : PV ψ nN (τ11 96) ((ψ (IV (τ (80 + a)) 8)) * (fp_pw (ψ (IV (τ (80 + b)) 8)) (NV sN2))) := by rw [kk11 96 (by omega) (by omega) (by omega)]; exact p96_10
        rw [e95] at q11
        have k2 : mpR φ τ11 59 pp := k2.kept (kk11 _ (by omega) (by omega) (by omega)) (kk11 _ (by omega) (by omega) (by omega)) (kk11 _ (by omega) (by omega) (by omega))
        have e96 := PV.rep hgN p96_11
        refine lv_aload_n hx hb d_Mdl_verify_272 rfl (lv_at hl 0 rfl) ?_
        refine lv_aload_n hx hb d_Mdl_verify_273 rfl (lv_at hl 0 rfl) ?_
        refine gm_get hx hb hW hown X u_Mdl m53 rfl 21 (by decide) wf_Mdl_122 (v := .ref (E.2.1 + 96)) rfl d_Mdl_verify_274 ?_
        refine lv_aload_n hx hb d_Mdl_verify_277 rfl (lv_at hl 0 rfl) ?_
        refine gm_get hx hb hW hown X u_Mdl m53 rfl 4 (by decide) wf_Mdl_83 (v := .ref (E.2.1 + 59)) rfl d_Mdl_verify_278 ?_
        refine lv_aload_n hx hb d_Mdl_verify_281 rfl (lv_at hl 0 rfl) ?_
        refine gm_get hx hb hW hown X u_Mdl m53 rfl 17 (by decide) wf_Mdl_110 (v := .ref (E.2.1 + 89)) rfl d_Mdl_verify_282 ?_
        refine gm_Vv hx hb hml hown hW X m53 (q_Mdl_times_p l E N τ11 0 hk hR R_11 (t := 89) (u := 59) (xu := 96) (by omega) (by omega) (by decide) (by omega) k2) (n := 3) ⟨⟨wl_Mdl_192, wi_Mdl_times_p, wsel_Mdl_times_p, winit_Mdl, wc_Mdl_times_p⟩, by decide +kernel, ⟨Nat.le_of_ble_eq_true rfl, Nat.le_of_ble_eq_true rfl⟩, _, rfl, rfl⟩ rfl hl.1 rfl (Nat.le_of_ble_eq_true rfl) d_Mdl_verify_285 ⟨Nat.le_of_ble_eq_true rfl, Nat.le_of_ble_eq_true rfl⟩ (fun M1 H locs hp X => ?_)
        obtain ⟨τ12, rfl, q12, kk12⟩ := hp
        have R_12 : isR φ nP 99 τ12 := R_11.kp (fun j h1 h2 => kk12 j (by omega) (by omega) (by omega))
        have R2_12 : isR ψ nN 107 τ12 := R2_11.kp (fun j h1 h2 => kk12 j (by omega) (by omega) (by omega))
        have p95_12 : PV ψ nN (τ12 95) ((ψ (IV (τ (80 + d)) 8)) * (fp_pw (ψ (IV (τ (80 + b)) 8)) (NV sN2))) := by rw [kk12 95 (by omega) (by omega) (by omega)]; exact p95_11
        have p96_12 : PV ψ nN (τ12 96) ((ψ (IV (τ (80 + a)) 8)) * (fp_pw (ψ (IV (τ (80 + b)) 8)) (NV sN2))) := by rw [kk12 96 (by omega) (by omega) (by omega)]; exact p96_11
        rw [e96] at q12
        have s1 : mpR φ τ12 63 _ := q11.kept (kk12 _ (by omega) (by omega) (by omega)) (kk12 _ (by omega) (by omega) (by omega)) (kk12 _ (by omega) (by omega) (by omega))
        refine lv_aload_n hx hb d_Mdl_verify_288 rfl (lv_at hl 0 rfl) ?_
        refine lv_aload_n hx hb d_Mdl_verify_289 rfl (lv_at hl 0 rfl) ?_
        refine gm_get hx hb hW hown X u_Mdl m53 rfl 5 (by decide) wf_Mdl_86 (v := .ref (E.2.1 + 63)) rfl d_Mdl_verify_290 ?_
        refine lv_aload_n hx hb d_Mdl_verify_293 rfl (lv_at hl 0 rfl) ?_
        refine gm_get hx hb hW hown X u_Mdl m53 rfl 17 (by decide) wf_Mdl_110 (v := .ref (E.2.1 + 89)) rfl d_Mdl_verify_294 ?_
        refine gm_Vv hx hb hml hown hW X m53 (q_Mdl_plus l E N τ12 0 hk hR R_12 (by omega) (by omega) (by omega) s1 q12) (n := 2) ⟨⟨wl_Mdl_57, wi_Mdl_plus, wsel_Mdl_plus, winit_Mdl, wc_Mdl_plus⟩, by decide +kernel, ⟨Nat.le_of_ble_eq_true rfl, Nat.le_of_ble_eq_true rfl⟩, _, rfl, rfl⟩ rfl hl.1 rfl (Nat.le_of_ble_eq_true rfl) d_Mdl_verify_297 ⟨Nat.le_of_ble_eq_true rfl, Nat.le_of_ble_eq_true rfl⟩ (fun M1 H locs hp X => ?_)
        obtain ⟨τ13, rfl, q13, kk13⟩ := hp
        have R_13 : isR φ nP 99 τ13 := R_12.kp (fun j h1 h2 => kk13 j (by omega) (by omega) (by omega))
        have R2_13 : isR ψ nN 107 τ13 := R2_12.kp (fun j h1 h2 => kk13 j (by omega) (by omega) (by omega))
        generalize hPP : (ec_add inv (ec_nm inv (rp ψ nN (ψ (IV (τ (80 + d)) 8) * (fp_pw (ψ (IV (τ (80 + b)) 8)) (NV sN2)))) (some g0)) (ec_nm inv (rp ψ nN (ψ (IV (τ (80 + a)) 8) * (fp_pw (ψ (IV (τ (80 + b)) 8)) (NV sN2)))) pp)) = PP at q13
        refine lv_aload_n hx hb d_Mdl_verify_300 rfl (lv_at hl 0 rfl) ?_
        refine gm_get hx hb hW hown X u_Mdl m53 rfl 5 (by decide) wf_Mdl_86 (v := .ref (E.2.1 + 63)) rfl d_Mdl_verify_301 ?_
        refine gm_getN hx hb hW hown X u_Rpt (oQ isQ_63) rfl 2 (by decide) wfn_Mdl_1 (v := .ref (E.2.1 + (63 + 3))) rfl d_Mdl_verify_304 ?_
        cases PP with
        | none =>
          have hz_rw : MV φ nP (τ13 (63 + 3)) 0 := q13
          refine gm_Si hx hb hml hown hW X (q_isZero l hf hR (isQ.z isQ_63) hz_rw) (n := 1) ⟨⟨wl_Mdl_7, ws_Rng_isZero, winit_Rng, wc_Rng_isZero⟩, by decide +kernel, Nat.le_of_ble_eq_true rfl, Nat.le_of_ble_eq_true rfl⟩ rfl hl.1 rfl (Nat.le_of_ble_eq_true rfl) d_Mdl_verify_307 ⟨Nat.le_of_ble_eq_true rfl, Nat.le_of_ble_eq_true rfl⟩ (fun rw M1 H locs hp X => ?_)
          rw [hp.1] at X
          have e_rw : rw = 1 := by rcases hp.2 with z | z; exact z.1; exact absurd rfl z.2
          refine lv_if_eq (tgt := 315) hx hb d_Mdl_verify_310 (by decide) (fun c9 => absurd (e_rw.symm.trans c9) (by decide)) (fun _ => ?_)
          refine lv_iconst (v := 0) hx hb d_Mdl_verify_313 (by decide) ?_
          exact gm_zret hx hb hr2 hlk X rfl ⟨_, rfl, Or.inl ⟨rfl, fun z => by obtain ⟨-, -, -, a1, e1, -⟩ := z; first | cases e1 | (rw [hPP] at e1; cases e1)⟩, fun j hj h1 h2 => by have hj := hj.o; rw [kk13 j (by omega) (by omega) (by omega), kk12 j (by omega) (by omega) (by omega), kk11 j (by omega) (by omega) (by omega), kk10 j (by omega), kk9 j (by omega), kk8 j (by omega) (by omega), kk7 j (by omega) (by omega), kk6 j (by omega) (by omega), kk5 j (by omega) (by omega), kk4 j (by omega) (by omega), kk3 j (by omega) (by omega), kk2 j (by omega) (by omega), kk1 j (by omega) (by omega)]⟩ d_Mdl_verify_314
        | some a0 =>
          obtain ⟨on_rw, x_rw, y_rw, z_rw, mx_rw, my_rw, hz_rw, j_rw⟩ := id q13
          refine gm_Si hx hb hml hown hW X (q_isZero l hf hR (isQ.z isQ_63) hz_rw) (n := 1) ⟨⟨wl_Mdl_7, ws_Rng_isZero, winit_Rng, wc_Rng_isZero⟩, by decide +kernel, Nat.le_of_ble_eq_true rfl, Nat.le_of_ble_eq_true rfl⟩ rfl hl.1 rfl (Nat.le_of_ble_eq_true rfl) d_Mdl_verify_307 ⟨Nat.le_of_ble_eq_true rfl, Nat.le_of_ble_eq_true rfl⟩ (fun rw M1 H locs hp X => ?_)
          rw [hp.1] at X
          have e_rw : rw = 0 := by rcases hp.2 with z | z; exact absurd z.2 j_rw.1; exact z.1
          refine lv_if_eq (tgt := 315) hx hb d_Mdl_verify_310 (by decide) (fun _ => ?_) (fun c9 => absurd e_rw c9)
          refine lv_aload_n hx hb d_Mdl_verify_315 rfl (lv_at hl 0 rfl) ?_
          refine lv_aload_n hx hb d_Mdl_verify_316 rfl (lv_at hl 0 rfl) ?_
          refine gm_get hx hb hW hown X u_Mdl m53 rfl 5 (by decide) wf_Mdl_86 (v := .ref (E.2.1 + 63)) rfl d_Mdl_verify_317 ?_
          refine lv_aload_n hx hb d_Mdl_verify_320 rfl (lv_at hl 0 rfl) ?_
          refine gm_get hx hb hW hown X u_Mdl m53 rfl 13 (by decide) wf_Mdl_95 (v := .ref (E.2.1 + 77)) rfl d_Mdl_verify_321 ?_
          refine lv_aload_n hx hb d_Mdl_verify_324 rfl (lv_at hl 0 rfl) ?_
          refine gm_get hx hb hW hown X u_Mdl m53 rfl 14 (by decide) wf_Mdl_98 (v := .ref (E.2.1 + 78)) rfl d_Mdl_verify_325 ?_
          refine gm_Vv hx hb hml hown hW X m53 (q_Mdl_flat l E N τ13 0 hk hR R_13 isQ_63 (xx := 77) (yy := 78) (by omega) q13) (n := 3) ⟨⟨wl_Mdl_188, wi_Mdl_flat, wsel_Mdl_flat, winit_Mdl, wc_Mdl_flat⟩, by decide +kernel, ⟨Nat.le_of_ble_eq_true rfl, Nat.le_of_ble_eq_true rfl⟩, _, rfl, rfl⟩ rfl hl.1 rfl (Nat.le_of_ble_eq_true rfl) d_Mdl_verify_328 ⟨Nat.le_of_ble_eq_true rfl, Nat.le_of_ble_eq_true rfl⟩ (fun M1 H locs hp X => ?_)
          obtain ⟨τ14, rfl, q14, qq14, kk14⟩ := hp
          have R_14 : isR φ nP 99 τ14 := R_13.kp (fun j h1 h2 => kk14 j (by omega) (by omega) (by omega) (by omega))
          have R2_14 : isR ψ nN 107 τ14 := R2_13.kp (fun j h1 h2 => kk14 j (by omega) (by omega) (by omega) (by omega))
          refine lv_aload_n hx hb d_Mdl_verify_331 rfl (lv_at hl 0 rfl) ?_
          refine lv_aload_n hx hb d_Mdl_verify_332 rfl (lv_at hl 0 rfl) ?_
          refine gm_get hx hb hW hown X u_Mdl m53 rfl 13 (by decide) wf_Mdl_95 (v := .ref (E.2.1 + 77)) rfl d_Mdl_verify_333 ?_
          have hlt77 := q14.1
          have e77 := PV.rep hf q14
          have h7r : MV φ nP (τ14 54) 7 := by rw [(show τ14 54 = τ 54 by rw [kk14 54 (by omega) (by omega) (by omega) (by omega), kk13 54 (by omega) (by omega) (by omega), kk12 54 (by omega) (by omega) (by omega), kk11 54 (by omega) (by omega) (by omega), kk10 54 (by omega), kk9 54 (by omega), kk8 54 (by omega) (by omega), kk7 54 (by omega) (by omega), kk6 54 (by omega) (by omega), kk5 54 (by omega) (by omega), kk4 54 (by omega) (by omega), kk3 54 (by omega) (by omega), kk2 54 (by omega) (by omega), kk1 54 (by omega) (by omega)])]; exact h7
          refine gm_Vv hx hb hml hown hW X m53 (r_Mdl_reduce l E N τ14 0 hk hR hgN hS R_14 R2_14 h7r hlt77) (n := 1) ⟨⟨wl_Mdl_203, wi_Mdl_reduce, wsel_Mdl_reduce, winit_Mdl, wc_Mdl_reduce⟩, by decide +kernel, ⟨Nat.le_of_ble_eq_true rfl, Nat.le_of_ble_eq_true rfl⟩, _, rfl, rfl⟩ rfl hl.1 rfl (Nat.le_of_ble_eq_true rfl) d_Mdl_verify_336 ⟨Nat.le_of_ble_eq_true rfl, Nat.le_of_ble_eq_true rfl⟩ (fun M1 H locs hp X => ?_)
          obtain ⟨τ15, rfl, q15, kk15⟩ := hp
          have R_15 : isR φ nP 99 τ15 := R_14.kp (fun j h1 h2 => kk15 j (by omega))
          have R2_15 : isR ψ nN 107 τ15 := R2_14.kp (fun j h1 h2 => kk15 j (by omega))
          rw [e77] at q15
          refine lv_aload_n hx hb d_Mdl_verify_339 rfl (lv_at hl 0 rfl) ?_
          refine gm_get hx hb hW hown X u_Mdl m53 rfl 13 (by decide) wf_Mdl_95 (v := .ref (E.2.1 + 77)) rfl d_Mdl_verify_340 ?_
          refine lv_aload_n hx hb d_Mdl_verify_343 rfl (lv_at hl 0 rfl) ?_
          refine gm_get hx hb hW hown X u_Mdl m53 rfl 15 (by decide) wf_Mdl_103 (v := .ref (E.2.1 + 79)) rfl d_Mdl_verify_344 ?_
          refine lv_iload_n hx hb d_Mdl_verify_347 rfl (lv_at hl 3 rfl) ?_
          refine gm_aald2 hx hb X (k := a) (t := E.2.1 + (80 + a)) m79 rfl rfl ⟨h_a, by decide⟩ (if_pos h_a) d_Mdl_verify_348 ?_
          have ea := (show τ15 (80 + a) = τ (80 + a) by rw [kk15 (80 + a) (by omega), kk14 (80 + a) (by omega) (by omega) (by omega) (by omega), kk13 (80 + a) (by omega) (by omega) (by omega), kk12 (80 + a) (by omega) (by omega) (by omega), kk11 (80 + a) (by omega) (by omega) (by omega), kk10 (80 + a) (by omega), kk9 (80 + a) (by omega), kk8 (80 + a) (by omega) (by omega), kk7 (80 + a) (by omega) (by omega), kk6 (80 + a) (by omega) (by omega), kk5 (80 + a) (by omega) (by omega), kk4 (80 + a) (by omega) (by omega), kk3 (80 + a) (by omega) (by omega), kk2 (80 + a) (by omega) (by omega), kk1 (80 + a) (by omega) (by omega)])
          have pa : PV ψ nN (τ15 (80 + a)) (ψ (IV (τ (80 + a)) 8)) := by rw [ea]; exact ⟨hla.1, rfl⟩
          have ix := PV.inj hgN q15 pa
          refine gm_Si hx hb hml hown hW X (c_Rng_same l E _ (mw_row (k := 77) (by decide)) (mw_row (q8_n h_a))) (n := 2) ⟨⟨wl_Mdl_184, ws_Rng_same, winit_Rng, wc_Rng_same⟩, by decide +kernel, Nat.le_of_ble_eq_true rfl, Nat.le_of_ble_eq_true rfl⟩ rfl hl.1 rfl (Nat.le_of_ble_eq_true rfl) d_Mdl_verify_349 ⟨Nat.le_of_ble_eq_true rfl, Nat.le_of_ble_eq_true rfl⟩ (fun re M1 H locs hp X => ?_)
          rw [hp.1] at X
          have h_re := hp.2
          refine gm_zret hx hb hr2 hlk X (by rcases h_re with h | h <;> rw [h.1] <;> rfl) ⟨_, rfl, ?_, fun j hj h1 h2 => by have hj := hj.o; rw [kk15 j (by omega), kk14 j (by omega) (by omega) (by omega) (by omega), kk13 j (by omega) (by omega) (by omega), kk12 j (by omega) (by omega) (by omega), kk11 j (by omega) (by omega) (by omega), kk10 j (by omega), kk9 j (by omega), kk8 j (by omega) (by omega), kk7 j (by omega) (by omega), kk6 j (by omega) (by omega), kk5 j (by omega) (by omega), kk4 j (by omega) (by omega), kk3 j (by omega) (by omega), kk2 j (by omega) (by omega), kk1 j (by omega) (by omega)]⟩ d_Mdl_verify_352
          rcases h_re with h | h
          · exact Or.inr ⟨h.1, hnn, hla, hlb, a0, (by first | exact hPP | rfl), ix.mp h.2⟩
          · refine Or.inl ⟨h.1, fun z => ?_⟩
            obtain ⟨-, -, -, a1, e1, e2⟩ := z
            first | (rw [hPP] at e1; cases e1; exact h.2 (ix.mpr e2)) | (cases e1; exact h.2 (ix.mpr e2))
      · have hlt : ¬ ((IV (τ (80 + b)) 8 : Int) < nN ∧ ¬ IV (τ (80 + b)) 8 = 0) := by rcases h1b with h | h; exact absurd (h.1.symm.trans c89) (by decide); exact h.2
        refine lv_iconst (v := 0) hx hb d_Mdl_verify_92 (by decide) ?_
        exact gm_zret hx hb hr2 hlk X rfl ⟨_, rfl, Or.inl ⟨rfl, fun z => hlt z.2.2.1⟩, fun _ _ _ _ => rfl⟩ d_Mdl_verify_93
