/-! PointBenchModel: its calls: written by wip/gen/mdl3.py -/
set_option maxHeartbeats 4000000 in
theorem r_Mdl_in_8  (l : Launch) (E : gm_E) (N : gm_M) (τ : Nat → Nat → Int32) (cd : Int32)  {v : Int32} : ci_ l y_Mdl_in b_Mdl_in 2 (some .boolean) { frames := 0, cells := 0, slots := 0, locals := 0 } E (mW E N τ cd) [.int v, .int 7] (fun r M' => M' = mW E N τ cd ∧ ((r = 1 ∧ inR v 8) ∨ (r = 0 ∧ ¬ inR v 8))) := by
  refine gm_met (by decide) (Nat.le_of_ble_eq_true rfl) (fun p e s m below meth c ls hx hb hml hr2 hlk hnm hown hW X hl => ?_)
  have hl : lv_has ls 2 [(0, .int v), (1, .int 7)] := hl
  refine lv_iload_n hx hb d_Mdl_in_0 rfl (lv_at hl 0 rfl) ?_
  refine lv_if_lt (tgt := 13) hx hb d_Mdl_in_1 (by decide) (fun c1 => ?_) (fun c1 => ?_)
  · refine lv_iconst (v := 0) hx hb d_Mdl_in_13 (by decide) ?_
    exact gm_zret hx hb hr2 hlk X rfl ⟨rfl, Or.inr ⟨rfl, fun z => (inR_to (by decide) z).1 c1⟩⟩ d_Mdl_in_14
  · refine lv_iload_n hx hb d_Mdl_in_4 rfl (lv_at hl 0 rfl) ?_
    refine lv_iload_n hx hb d_Mdl_in_5 rfl (lv_at hl 1 rfl) ?_
    refine lv_icmp_gt (tgt := 13) hx hb d_Mdl_in_6 (by decide) (fun c6 => ?_) (fun c6 => ?_)
    · refine lv_iconst (v := 0) hx hb d_Mdl_in_13 (by decide) ?_
      refine gm_zret hx hb hr2 hlk X rfl ⟨rfl, Or.inr ⟨rfl, fun z => ?_⟩⟩ d_Mdl_in_14
      have h2 := (inR_to (by decide) z).2
      have h3 := Int32.lt_iff_toInt_lt.mp c6
      rw [show (7 : Int32).toInt = 7 by decide] at h3
      omega
    · refine lv_iconst (v := 1) hx hb d_Mdl_in_9 (by decide) ?_
      refine lv_goto (tgt := 14) hx hb d_Mdl_in_10 (by decide) ?_
      refine gm_zret hx hb hr2 hlk X rfl ⟨rfl, Or.inl ⟨rfl, inR_of (by decide) c1 ?_⟩⟩ d_Mdl_in_14
      have h3 := Int32.le_iff_toInt_le.mp (Int32.not_lt.mp c6)
      rw [show (7 : Int32).toInt = 7 by decide] at h3
      omega
set_option maxHeartbeats 4000000 in
theorem r_Mdl_in_4  (l : Launch) (E : gm_E) (N : gm_M) (τ : Nat → Nat → Int32) (cd : Int32)  {v : Int32} : ci_ l y_Mdl_in b_Mdl_in 2 (some .boolean) { frames := 0, cells := 0, slots := 0, locals := 0 } E (mW E N τ cd) [.int v, .int 3] (fun r M' => M' = mW E N τ cd ∧ ((r = 1 ∧ inR v 4) ∨ (r = 0 ∧ ¬ inR v 4))) := by
  refine gm_met (by decide) (Nat.le_of_ble_eq_true rfl) (fun p e s m below meth c ls hx hb hml hr2 hlk hnm hown hW X hl => ?_)
  have hl : lv_has ls 2 [(0, .int v), (1, .int 3)] := hl
  refine lv_iload_n hx hb d_Mdl_in_0 rfl (lv_at hl 0 rfl) ?_
  refine lv_if_lt (tgt := 13) hx hb d_Mdl_in_1 (by decide) (fun c1 => ?_) (fun c1 => ?_)
  · refine lv_iconst (v := 0) hx hb d_Mdl_in_13 (by decide) ?_
    exact gm_zret hx hb hr2 hlk X rfl ⟨rfl, Or.inr ⟨rfl, fun z => (inR_to (by decide) z).1 c1⟩⟩ d_Mdl_in_14
  · refine lv_iload_n hx hb d_Mdl_in_4 rfl (lv_at hl 0 rfl) ?_
    refine lv_iload_n hx hb d_Mdl_in_5 rfl (lv_at hl 1 rfl) ?_
    refine lv_icmp_gt (tgt := 13) hx hb d_Mdl_in_6 (by decide) (fun c6 => ?_) (fun c6 => ?_)
    · refine lv_iconst (v := 0) hx hb d_Mdl_in_13 (by decide) ?_
      refine gm_zret hx hb hr2 hlk X rfl ⟨rfl, Or.inr ⟨rfl, fun z => ?_⟩⟩ d_Mdl_in_14
      have h2 := (inR_to (by decide) z).2
      have h3 := Int32.lt_iff_toInt_lt.mp c6
      rw [show (3 : Int32).toInt = 3 by decide] at h3
      omega
    · refine lv_iconst (v := 1) hx hb d_Mdl_in_9 (by decide) ?_
      refine lv_goto (tgt := 14) hx hb d_Mdl_in_10 (by decide) ?_
      refine gm_zret hx hb hr2 hlk X rfl ⟨rfl, Or.inl ⟨rfl, inR_of (by decide) c1 ?_⟩⟩ d_Mdl_in_14
      have h3 := Int32.le_iff_toInt_le.mp (Int32.not_lt.mp c6)
      rw [show (3 : Int32).toInt = 3 by decide] at h3
      omega
set_option maxHeartbeats 4000000 in
theorem r_Mdl_good_0  (l : Launch) (E : gm_E) (N : gm_M) (τ : Nat → Nat → Int32) (cd : Int32)   : ci_ l y_Mdl_good b_Mdl_good 2 (some .boolean) { frames := 0, cells := 0, slots := 0, locals := 0 } E (mW E N τ cd) [.ref (E.2.1 + 53), .int 0] (fun r M' => M' = mW E N τ 1 ∧ r = 0) := by
  refine gm_met (by decide) (Nat.le_of_ble_eq_true rfl) (fun p e s m below meth c ls hx hb hml hr2 hlk hnm hown hW X hl => ?_)
  have hl : lv_has ls 2 [(0, .ref (E.2.1 + 53)), (1, .int 0)] := hl
  refine lv_aload_n hx hb d_Mdl_good_0 rfl (lv_at hl 0 rfl) ?_
  refine lv_iload_n hx hb d_Mdl_good_1 rfl (lv_at hl 1 rfl) ?_
  refine lv_if_eq (tgt := 9) hx hb d_Mdl_good_2 (by decide) (fun _ => ?_) (fun c9 => absurd (by decide) c9)
  refine lv_iconst (v := 1) hx hb d_Mdl_good_9 (by decide) ?_
  refine gm_put hx hb hW hown X u_Mdl t_Mdl t_Mdl_ok n_Mdl m53 (cw_ge _) rfl 22 (by decide) wf_Mdl_160 rfl (ty := .int) (v := .int 1) (by decide) rfl rfl (Nat.le_of_ble_eq_true rfl) d_Mdl_good_10 (fun H locs X => ?_)
  have X : gx E (mW E N τ 1) s H locs := by rw [← mw_cd (cd := cd)]; exact X
  refine lv_iload_n hx hb d_Mdl_good_13 rfl (lv_at hl 1 rfl) ?_
  exact gm_zret hx hb hr2 hlk X rfl ⟨rfl, rfl⟩ d_Mdl_good_14
set_option maxHeartbeats 4000000 in
theorem r_Mdl_good_1  (l : Launch) (E : gm_E) (N : gm_M) (τ : Nat → Nat → Int32) (cd : Int32)   : ci_ l y_Mdl_good b_Mdl_good 2 (some .boolean) { frames := 0, cells := 0, slots := 0, locals := 0 } E (mW E N τ cd) [.ref (E.2.1 + 53), .int 1] (fun r M' => M' = mW E N τ 0 ∧ r = 1) := by
  refine gm_met (by decide) (Nat.le_of_ble_eq_true rfl) (fun p e s m below meth c ls hx hb hml hr2 hlk hnm hown hW X hl => ?_)
  have hl : lv_has ls 2 [(0, .ref (E.2.1 + 53)), (1, .int 1)] := hl
  refine lv_aload_n hx hb d_Mdl_good_0 rfl (lv_at hl 0 rfl) ?_
  refine lv_iload_n hx hb d_Mdl_good_1 rfl (lv_at hl 1 rfl) ?_
  refine lv_if_eq (tgt := 9) hx hb d_Mdl_good_2 (by decide) (fun c9 => absurd c9 (by decide)) (fun _ => ?_)
  refine lv_iconst (v := 0) hx hb d_Mdl_good_5 (by decide) ?_
  refine lv_goto (tgt := 10) hx hb d_Mdl_good_6 (by decide) ?_
  refine gm_put hx hb hW hown X u_Mdl t_Mdl t_Mdl_ok n_Mdl m53 (cw_ge _) rfl 22 (by decide) wf_Mdl_160 rfl (ty := .int) (v := .int 0) (by decide) rfl rfl (Nat.le_of_ble_eq_true rfl) d_Mdl_good_10 (fun H locs X => ?_)
  have X : gx E (mW E N τ 0) s H locs := by rw [← mw_cd (cd := cd)]; exact X
  refine lv_iload_n hx hb d_Mdl_good_13 rfl (lv_at hl 1 rfl) ?_
  exact gm_zret hx hb hr2 hlk X rfl ⟨rfl, rfl⟩ d_Mdl_good_14
set_option maxHeartbeats 4000000 in
theorem r_Mdl_thrown  (l : Launch) (E : gm_E) (N : gm_M) (τ : Nat → Nat → Int32) (cd : Int32)   : ci_ l y_Mdl_thrown b_Mdl_thrown 1 (some .int) { frames := 0, cells := 0, slots := 0, locals := 0 } E (mW E N τ cd) [.ref (E.2.1 + 53)] (fun r M' => M' = mW E N τ cd ∧ r = cd) := by
  refine gm_met (by decide) (Nat.le_of_ble_eq_true rfl) (fun p e s m below meth c ls hx hb hml hr2 hlk hnm hown hW X hl => ?_)
  have hl : lv_has ls 1 [(0, .ref (E.2.1 + 53))] := hl
  refine lv_aload_n hx hb d_Mdl_thrown_0 rfl (lv_at hl 0 rfl) ?_
  refine gm_get hx hb hW hown X u_Mdl m53 rfl 22 (by decide) wf_Mdl_160 (v := .int cd) rfl d_Mdl_thrown_1 ?_
  exact gm_iret hx hb hr2 hlk X ⟨rfl, rfl⟩ d_Mdl_thrown_4
set_option maxHeartbeats 4000000 in
theorem r_Mdl_isPart {F G : Type} [Lean.Grind.CommRing F] [Lean.Grind.CommRing G] {φ : Int → F} {inv : F → F} {ψ : Int → G} (l : Launch) (E : gm_E) (N : gm_M) (τ : Nat → Nat → Int32) (cd : Int32) (hk : fk φ inv) {Ri : F} (hR : φ (tq 8) * Ri = 1) (hgN : fm ψ nN) {Si : G} (hS : ψ (tq 8) * Si = 1) (hr : isR φ nP 99 τ) (hrN : isR ψ nN 107 τ) (h7 : MV φ nP (τ 54) 7) {a : Nat} (ha : q8 a) : ci_ l y_Mdl_isPart b_Mdl_isPart 2 (some .boolean) { frames := 1, cells := 0, slots := 0, locals := 22 } E (mW E N τ cd) [.ref (E.2.1 + 53), .ref (E.2.1 + a)] (fun r M' => M' = mW E N τ cd ∧ ((r = 1 ∧ (IV (τ a) 8 : Int) < nN ∧ ¬ IV (τ a) 8 = 0) ∨ (r = 0 ∧ ¬ ((IV (τ a) 8 : Int) < nN ∧ ¬ IV (τ a) 8 = 0)))) := by
  have hf := hk.fm
  have hpP := rPl_P E
  have hpN := rPl_N E
  refine gm_met (by decide) (Nat.le_of_ble_eq_true rfl) (fun p e s m below meth c ls hx hb hml hr2 hlk hnm hown hW X hl => ?_)
  have hl : lv_has ls 2 [(0, .ref (E.2.1 + 53)), (1, .ref (E.2.1 + a))] := hl
  refine lv_aload_n hx hb d_Mdl_isPart_0 rfl (lv_at hl 1 rfl) ?_
  refine gm_Si hx hb hml hown hW X (c_Rng_isZero l E _ (mw_row ha)) (n := 1) ⟨⟨wl_Mdl_7, ws_Rng_isZero, winit_Rng, wc_Rng_isZero⟩, by decide +kernel, Nat.le_of_ble_eq_true rfl, Nat.le_of_ble_eq_true rfl⟩ rfl hl.1 rfl (Nat.le_of_ble_eq_true rfl) d_Mdl_isPart_1 ⟨Nat.le_of_ble_eq_true rfl, Nat.le_of_ble_eq_true rfl⟩ (fun r M1 H locs hp X => ?_)
  rw [hp.1] at X
  have h1 := hp.2
  refine lv_if_ne (tgt := 25) hx hb d_Mdl_isPart_4 (by decide) (fun c4 => ?_) (fun c4 => ?_)
  · refine lv_iconst (v := 0) hx hb d_Mdl_isPart_25 (by decide) ?_
    refine gm_zret hx hb hr2 hlk X rfl ⟨rfl, Or.inr ⟨rfl, fun z => ?_⟩⟩ d_Mdl_isPart_26
    rcases h1 with h | h
    · exact z.2 h.2
    · exact c4 h.1
  · have hz : ¬ IV (τ a) 8 = 0 := by rcases h1 with h | h; exact absurd (h.1.symm.trans c4) (by decide); exact h.2
    refine lv_aload_n hx hb d_Mdl_isPart_7 rfl (lv_at hl 1 rfl) ?_
    refine lv_aload_n hx hb d_Mdl_isPart_8 rfl (lv_at hl 0 rfl) ?_
    refine gm_get hx hb hW hown X u_Mdl m53 rfl 1 (by decide) wf_Mdl_132 (v := .ref (E.2.1 + 107)) rfl d_Mdl_isPart_9 ?_
    refine gm_getN hx hb hW hown X u_Rng m107 rfl 0 (by decide) wfn_Mdl_178 (v := .ref (E.2.1 + 108)) rfl d_Mdl_isPart_12 ?_
    refine gm_Si hx hb hml hown hW X (c_Rng_compare l E _ (mw_row ha) (mw_row (k := 108) (by decide))) (n := 2) ⟨⟨wl_Mdl_174, ws_Rng_compare, winit_Rng, wc_Rng_compare⟩, by decide +kernel, Nat.le_of_ble_eq_true rfl, Nat.le_of_ble_eq_true rfl⟩ rfl hl.1 rfl (Nat.le_of_ble_eq_true rfl) d_Mdl_isPart_15 ⟨Nat.le_of_ble_eq_true rfl, Nat.le_of_ble_eq_true rfl⟩ (fun r M1 H locs hp X => ?_)
    rw [hp.1] at X
    have hq2 := (ordI_ok (τ a) (τ 108) 8).2.1
    rw [← hp.2] at hq2
    have hm : (IV (τ 108) 8 : Int) = nN := hrN.1
    refine lv_if_ge (tgt := 25) hx hb d_Mdl_isPart_18 (by decide) (fun c18 => ?_) (fun c18 => ?_)
    · refine lv_iconst (v := 0) hx hb d_Mdl_isPart_25 (by decide) ?_
      refine gm_zret hx hb hr2 hlk X rfl ⟨rfl, Or.inr ⟨rfl, fun z => ?_⟩⟩ d_Mdl_isPart_26
      have := hq2.mp c18
      omega
    · refine lv_iconst (v := 1) hx hb d_Mdl_isPart_21 (by decide) ?_
      refine lv_goto (tgt := 26) hx hb d_Mdl_isPart_22 (by decide) ?_
      refine gm_zret hx hb hr2 hlk X rfl ⟨rfl, Or.inl ⟨rfl, ?_, hz⟩⟩ d_Mdl_isPart_26
      have q : ¬ IV (τ 108) 8 ≤ IV (τ a) 8 := fun z => c18 (hq2.mpr z)
      omega
set_option maxHeartbeats 4000000 in
theorem r_Mdl_reduce {F G : Type} [Lean.Grind.CommRing F] [Lean.Grind.CommRing G] {φ : Int → F} {inv : F → F} {ψ : Int → G} (l : Launch) (E : gm_E) (N : gm_M) (τ : Nat → Nat → Int32) (cd : Int32) (hk : fk φ inv) {Ri : F} (hR : φ (tq 8) * Ri = 1) (hgN : fm ψ nN) {Si : G} (hS : ψ (tq 8) * Si = 1) (hr : isR φ nP 99 τ) (hrN : isR ψ nN 107 τ) (h7 : MV φ nP (τ 54) 7) (hx2 : (IV (τ 77) 8 : Int) < nP) : cv_ l y_Mdl_reduce b_Mdl_reduce 2 none { frames := 1, cells := 0, slots := 0, locals := 27 } E (mW E N τ cd) [.ref (E.2.1 + 53), .ref (E.2.1 + 77)] (fun M' => ∃ τ', M' = mW E N τ' cd ∧ PV ψ nN (τ' 77) (ψ (IV (τ 77) 8)) ∧ kt 77 τ τ') := by
  have hf := hk.fm
  have hpP := rPl_P E
  have hpN := rPl_N E
  refine gm_met (by decide) (Nat.le_of_ble_eq_true rfl) (fun p e s m below meth c ls hx hb hml hr2 hlk hnm hown hW X hl => ?_)
  have hl : lv_has ls 2 [(0, .ref (E.2.1 + 53)), (1, .ref (E.2.1 + 77))] := hl
  have hm : (IV (τ 108) 8 : Int) = nN := hrN.1
  refine lv_aload_n hx hb d_Mdl_reduce_0 rfl (lv_at hl 1 rfl) ?_
  refine lv_aload_n hx hb d_Mdl_reduce_1 rfl (lv_at hl 0 rfl) ?_
  refine gm_get hx hb hW hown X u_Mdl m53 rfl 1 (by decide) wf_Mdl_132 (v := .ref (E.2.1 + 107)) rfl d_Mdl_reduce_2 ?_
  refine gm_getN hx hb hW hown X u_Rng m107 rfl 0 (by decide) wfn_Mdl_178 (v := .ref (E.2.1 + 108)) rfl d_Mdl_reduce_5 ?_
  refine gm_Si hx hb hml hown hW X (c_Rng_compare l E _ (mw_row (k := 77) (by decide)) (mw_row (k := 108) (by decide))) (n := 2) ⟨⟨wl_Mdl_174, ws_Rng_compare, winit_Rng, wc_Rng_compare⟩, by decide +kernel, Nat.le_of_ble_eq_true rfl, Nat.le_of_ble_eq_true rfl⟩ rfl hl.1 rfl (Nat.le_of_ble_eq_true rfl) d_Mdl_reduce_8 ⟨Nat.le_of_ble_eq_true rfl, Nat.le_of_ble_eq_true rfl⟩ (fun r M1 H locs hp X => ?_)
  rw [hp.1] at X
  have hq2 := (ordI_ok (τ 77) (τ 108) 8).2.1
  rw [← hp.2] at hq2
  refine lv_if_lt (tgt := 27) hx hb d_Mdl_reduce_11 (by decide) (fun c11 => ?_) (fun c11 => ?_)
  · have q : ¬ IV (τ 108) 8 ≤ IV (τ 77) 8 := fun z => absurd (hq2.mpr z) (Int32.not_le.mpr c11)
    exact gm_vret hx hb hr2 hlk X ⟨_, rfl, ⟨by omega, rfl⟩, fun j hj => rfl⟩ d_Mdl_reduce_27
  · have q : IV (τ 108) 8 ≤ IV (τ 77) 8 := hq2.mp (Int32.not_lt.mp c11)
    refine lv_aload_n hx hb d_Mdl_reduce_14 rfl (lv_at hl 1 rfl) ?_
    refine lv_aload_n hx hb d_Mdl_reduce_15 rfl (lv_at hl 0 rfl) ?_
    refine gm_get hx hb hW hown X u_Mdl m53 rfl 1 (by decide) wf_Mdl_132 (v := .ref (E.2.1 + 107)) rfl d_Mdl_reduce_16 ?_
    refine gm_getN hx hb hW hown X u_Rng m107 rfl 0 (by decide) wfn_Mdl_178 (v := .ref (E.2.1 + 108)) rfl d_Mdl_reduce_19 ?_
    refine lv_aload_n hx hb d_Mdl_reduce_22 rfl (lv_at hl 1 rfl) ?_
    refine gm_Sl hx hb hml hown hW X (c_Rng_less l E _ (mw_row (k := 77) (by decide)) (cw_ge _) (mw_row (k := 77) (by decide)) (mw_row (k := 108) (by decide))) (n := 3) ⟨⟨wl_Mdl_196, ws_Rng_less, winit_Rng, wc_Rng_less⟩, by decide +kernel, Nat.le_of_ble_eq_true rfl, Nat.le_of_ble_eq_true rfl⟩ rfl hl.1 rfl (Nat.le_of_ble_eq_true rfl) d_Mdl_reduce_23 ⟨Nat.le_of_ble_eq_true rfl, Nat.le_of_ble_eq_true rfl⟩ (fun r M1 H locs hp X => ?_)
    obtain ⟨h3, rfl, e3, hy⟩ := hp
    rw [mw_upr (k := 77) _ (by decide)] at X
    refine lv_pop2_2 hx hb d_Mdl_reduce_26 rfl ?_
    refine gm_vret hx hb hr2 hlk X ⟨_, rfl, ?_, fun j hj => vu_n hj⟩ d_Mdl_reduce_27
    rw [vu_s]
    have a1 := IV_lt (τ 77) 8
    have a2 := IV_lt h3 8
    have y0 : uN r = 0 := by
      rcases (show uN r = 0 ∨ uN r = 1 by omega) with y | y
      · exact y
      · rw [y, Nat.one_mul] at e3
        omega
    rw [y0, Nat.zero_mul, Nat.add_zero] at e3
    rw [nP_v] at hx2
    rw [nN_v] at hm
    refine ⟨by rw [nN_v]; omega, ?_⟩
    refine (hgN.2 _ _).mpr ?_
    rw [nN_v]
    omega
set_option maxHeartbeats 4000000 in
theorem r_Mdl_square {F G : Type} [Lean.Grind.CommRing F] [Lean.Grind.CommRing G] {φ : Int → F} {inv : F → F} {ψ : Int → G} (l : Launch) (E : gm_E) (N : gm_M) (τ : Nat → Nat → Int32) (cd : Int32) (hk : fk φ inv) {Ri : F} (hR : φ (tq 8) * Ri = 1) (hgN : fm ψ nN) {Si : G} (hS : ψ (tq 8) * Si = 1) (hr : isR φ nP 99 τ) (hrN : isR ψ nN 107 τ) (h7 : MV φ nP (τ 54) 7) {a : Nat} (ha : 80 ≤ a ∧ a ≤ 87) : ci_ l y_Mdl_square b_Mdl_square 2 (some .boolean) { frames := 3, cells := 0, slots := 0, locals := 74 } E (mW E N τ cd) [.ref (E.2.1 + 53), .ref (E.2.1 + a)] (fun r M' => ∃ τ', M' = mW E N τ' cd ∧ ((r = 1 ∧ (IV (τ a) 8 : Int) < nP ∧ MV φ nP (τ' (89 + 1)) (φ (IV (τ a) 8)) ∧ MV φ nP (τ' 95) (sqV (φ (IV (τ a) 8))) ∧ MV φ nP (τ' (89 + 3)) 1) ∨ (r = 0 ∧ ¬ (IV (τ a) 8 : Int) < nP)) ∧ ∀ j, ¬ (89 < j ∧ j < 93) → j ≠ 95 → ¬ (104 ≤ j ∧ j ≤ 106) → τ' j = τ j) := by
  have haq : q8 a := by
    have q : ∀ a, a < 88 → 80 ≤ a → q8 a := by decide
    exact q a (by omega) ha.1
  have hf := hk.fm
  have hpP := rPl_P E
  have hpN := rPl_N E
  refine gm_met (by decide) (Nat.le_of_ble_eq_true rfl) (fun p e s m below meth c ls hx hb hml hr2 hlk hnm hown hW X hl => ?_)
  have hl : lv_has ls 2 [(0, .ref (E.2.1 + 53)), (1, .ref (E.2.1 + a))] := hl
  have hm : (IV (τ 100) 8 : Int) = nP := hr.1
  refine lv_aload_n hx hb d_Mdl_square_0 rfl (lv_at hl 1 rfl) ?_
  refine lv_aload_n hx hb d_Mdl_square_1 rfl (lv_at hl 0 rfl) ?_
  refine gm_get hx hb hW hown X u_Mdl m53 rfl 0 (by decide) wf_Mdl_13 (v := .ref (E.2.1 + 99)) rfl d_Mdl_square_2 ?_
  refine gm_getN hx hb hW hown X u_Rng m99 rfl 0 (by decide) wfn_Mdl_178 (v := .ref (E.2.1 + 100)) rfl d_Mdl_square_5 ?_
  refine gm_Si hx hb hml hown hW X (c_Rng_compare l E _ (mw_row haq) (mw_row (k := 100) (by decide))) (n := 2) ⟨⟨wl_Mdl_174, ws_Rng_compare, winit_Rng, wc_Rng_compare⟩, by decide +kernel, Nat.le_of_ble_eq_true rfl, Nat.le_of_ble_eq_true rfl⟩ rfl hl.1 rfl (Nat.le_of_ble_eq_true rfl) d_Mdl_square_8 ⟨Nat.le_of_ble_eq_true rfl, Nat.le_of_ble_eq_true rfl⟩ (fun r M1 H locs hp X => ?_)
  rw [hp.1] at X
  have hq2 := (ordI_ok (τ a) (τ 100) 8).2.1
  rw [← hp.2] at hq2
  refine lv_if_lt (tgt := 16) hx hb d_Mdl_square_11 (by decide) (fun c11 => ?_) (fun c11 => ?_)
  · have q : ¬ IV (τ 100) 8 ≤ IV (τ a) 8 := fun z => absurd (hq2.mpr z) (Int32.not_le.mpr c11)
    refine lv_aload_n hx hb d_Mdl_square_16 rfl (lv_at hl 0 rfl) ?_
    refine gm_get hx hb hW hown X u_Mdl m53 rfl 0 (by decide) wf_Mdl_13 (v := .ref (E.2.1 + 99)) rfl d_Mdl_square_17 ?_
    refine lv_aload_n hx hb d_Mdl_square_20 rfl (lv_at hl 1 rfl) ?_
    refine lv_aload_n hx hb d_Mdl_square_21 rfl (lv_at hl 0 rfl) ?_
    refine gm_get hx hb hW hown X u_Mdl m53 rfl 17 (by decide) wf_Mdl_110 (v := .ref (E.2.1 + 89)) rfl d_Mdl_square_22 ?_
    refine gm_getN hx hb hW hown X u_Rpt (oQ isQ_89) rfl 0 (by decide) wfn_Mdl_29 (v := .ref (E.2.1 + (89 + 1))) rfl d_Mdl_square_25 ?_
    refine gm_Vv hx hb hml hown hW X m99 (q_enter l hpP hf hR hr (isQ.x isQ_89) haq (by omega)) (n := 2) ⟨⟨wl_Mdl_135, wi_Rng_enter, wsel_Rng_enter, winit_Rng, wc_Rng_enter⟩, by decide +kernel, ⟨Nat.le_of_ble_eq_true rfl, Nat.le_of_ble_eq_true rfl⟩, _, rfl, rfl⟩ rfl hl.1 rfl (Nat.le_of_ble_eq_true rfl) d_Mdl_square_28 ⟨Nat.le_of_ble_eq_true rfl, Nat.le_of_ble_eq_true rfl⟩ (fun M1 H locs hp X => ?_)
    obtain ⟨τ1, rfl, q1, kk1⟩ := hp
    have m54_1 : MV φ nP (τ1 54) 7 := by rw [kk1 54 (by omega) (by omega)]; exact h7
    have m101_1 : MV φ nP (τ1 101) 1 := by rw [kk1 101 (by omega) (by omega)]; exact hr.2.1
    have R_1 : isR φ nP 99 τ1 := hr.kp (fun j h1 h2 => kk1 j (by omega) (by omega))
    have R2_1 : isR ψ nN 107 τ1 := hrN.kp (fun j h1 h2 => kk1 j (by omega) (by omega))
    have m891_1 : MV φ nP (τ1 (89 + 1)) (φ (IV (τ a) 8)) := q1
    refine lv_aload_n hx hb d_Mdl_square_31 rfl (lv_at hl 0 rfl) ?_
    refine gm_get hx hb hW hown X u_Mdl m53 rfl 0 (by decide) wf_Mdl_13 (v := .ref (E.2.1 + 99)) rfl d_Mdl_square_32 ?_
    refine lv_aload_n hx hb d_Mdl_square_35 rfl (lv_at hl 0 rfl) ?_
    refine gm_get hx hb hW hown X u_Mdl m53 rfl 17 (by decide) wf_Mdl_110 (v := .ref (E.2.1 + 89)) rfl d_Mdl_square_36 ?_
    refine gm_getN hx hb hW hown X u_Rpt (oQ isQ_89) rfl 0 (by decide) wfn_Mdl_29 (v := .ref (E.2.1 + (89 + 1))) rfl d_Mdl_square_39 ?_
    refine lv_aload_n hx hb d_Mdl_square_42 rfl (lv_at hl 0 rfl) ?_
    refine gm_get hx hb hW hown X u_Mdl m53 rfl 17 (by decide) wf_Mdl_110 (v := .ref (E.2.1 + 89)) rfl d_Mdl_square_43 ?_
    refine gm_getN hx hb hW hown X u_Rpt (oQ isQ_89) rfl 0 (by decide) wfn_Mdl_29 (v := .ref (E.2.1 + (89 + 1))) rfl d_Mdl_square_46 ?_
    refine lv_aload_n hx hb d_Mdl_square_49 rfl (lv_at hl 0 rfl) ?_
    refine gm_get hx hb hW hown X u_Mdl m53 rfl 20 (by decide) wf_Mdl_119 (v := .ref (E.2.1 + 95)) rfl d_Mdl_square_50 ?_
    refine gm_Vv hx hb hml hown hW X m99 (q_mul l hpP hf hR R_1 (by decide) (isQ.x isQ_89) (isQ.x isQ_89) (by omega) m891_1 m891_1) (n := 3) ⟨⟨wl_Mdl_25, wi_Rng_multiply, wsel_Rng_multiply, winit_Rng, wc_Rng_multiply⟩, by decide +kernel, ⟨Nat.le_of_ble_eq_true rfl, Nat.le_of_ble_eq_true rfl⟩, _, rfl, rfl⟩ rfl hl.1 rfl (Nat.le_of_ble_eq_true rfl) d_Mdl_square_53 ⟨Nat.le_of_ble_eq_true rfl, Nat.le_of_ble_eq_true rfl⟩ (fun M1 H locs hp X => ?_)
    obtain ⟨τ2, rfl, q2, kk2⟩ := hp
    have m54_2 : MV φ nP (τ2 54) 7 := by rw [kk2 54 (by omega) (by omega)]; exact m54_1
    have m101_2 : MV φ nP (τ2 101) 1 := by rw [kk2 101 (by omega) (by omega)]; exact m101_1
    have m891_2 : MV φ nP (τ2 (89 + 1)) (φ (IV (τ a) 8)) := by rw [kk2 (89 + 1) (by omega) (by omega)]; exact m891_1
    have R_2 : isR φ nP 99 τ2 := R_1.kp (fun j h1 h2 => kk2 j (by omega) (by omega))
    have R2_2 : isR ψ nN 107 τ2 := R2_1.kp (fun j h1 h2 => kk2 j (by omega) (by omega))
    have m95_2 : MV φ nP (τ2 95) ((φ (IV (τ a) 8)) * (φ (IV (τ a) 8))) := q2
    refine lv_aload_n hx hb d_Mdl_square_56 rfl (lv_at hl 0 rfl) ?_
    refine gm_get hx hb hW hown X u_Mdl m53 rfl 0 (by decide) wf_Mdl_13 (v := .ref (E.2.1 + 99)) rfl d_Mdl_square_57 ?_
    refine lv_aload_n hx hb d_Mdl_square_60 rfl (lv_at hl 0 rfl) ?_
    refine gm_get hx hb hW hown X u_Mdl m53 rfl 20 (by decide) wf_Mdl_119 (v := .ref (E.2.1 + 95)) rfl d_Mdl_square_61 ?_
    refine lv_aload_n hx hb d_Mdl_square_64 rfl (lv_at hl 0 rfl) ?_
    refine gm_get hx hb hW hown X u_Mdl m53 rfl 17 (by decide) wf_Mdl_110 (v := .ref (E.2.1 + 89)) rfl d_Mdl_square_65 ?_
    refine gm_getN hx hb hW hown X u_Rpt (oQ isQ_89) rfl 0 (by decide) wfn_Mdl_29 (v := .ref (E.2.1 + (89 + 1))) rfl d_Mdl_square_68 ?_
    refine lv_aload_n hx hb d_Mdl_square_71 rfl (lv_at hl 0 rfl) ?_
    refine gm_get hx hb hW hown X u_Mdl m53 rfl 20 (by decide) wf_Mdl_119 (v := .ref (E.2.1 + 95)) rfl d_Mdl_square_72 ?_
    refine gm_Vv hx hb hml hown hW X m99 (q_mul l hpP hf hR R_2 (by decide) (by decide) (isQ.x isQ_89) (by omega) m95_2 m891_2) (n := 3) ⟨⟨wl_Mdl_25, wi_Rng_multiply, wsel_Rng_multiply, winit_Rng, wc_Rng_multiply⟩, by decide +kernel, ⟨Nat.le_of_ble_eq_true rfl, Nat.le_of_ble_eq_true rfl⟩, _, rfl, rfl⟩ rfl hl.1 rfl (Nat.le_of_ble_eq_true rfl) d_Mdl_square_75 ⟨Nat.le_of_ble_eq_true rfl, Nat.le_of_ble_eq_true rfl⟩ (fun M1 H locs hp X => ?_)
    obtain ⟨τ3, rfl, q3, kk3⟩ := hp
    have m54_3 : MV φ nP (τ3 54) 7 := by rw [kk3 54 (by omega) (by omega)]; exact m54_2
    have m101_3 : MV φ nP (τ3 101) 1 := by rw [kk3 101 (by omega) (by omega)]; exact m101_2
    have m891_3 : MV φ nP (τ3 (89 + 1)) (φ (IV (τ a) 8)) := by rw [kk3 (89 + 1) (by omega) (by omega)]; exact m891_2
    have R_3 : isR φ nP 99 τ3 := R_2.kp (fun j h1 h2 => kk3 j (by omega) (by omega))
    have R2_3 : isR ψ nN 107 τ3 := R2_2.kp (fun j h1 h2 => kk3 j (by omega) (by omega))
    have m95_3 : MV φ nP (τ3 95) (((φ (IV (τ a) 8)) * (φ (IV (τ a) 8))) * (φ (IV (τ a) 8))) := q3
    refine lv_aload_n hx hb d_Mdl_square_78 rfl (lv_at hl 0 rfl) ?_
    refine gm_get hx hb hW hown X u_Mdl m53 rfl 0 (by decide) wf_Mdl_13 (v := .ref (E.2.1 + 99)) rfl d_Mdl_square_79 ?_
    refine lv_aload_n hx hb d_Mdl_square_82 rfl (lv_at hl 0 rfl) ?_
    refine gm_get hx hb hW hown X u_Mdl m53 rfl 20 (by decide) wf_Mdl_119 (v := .ref (E.2.1 + 95)) rfl d_Mdl_square_83 ?_
    refine lv_aload_n hx hb d_Mdl_square_86 rfl (lv_at hl 0 rfl) ?_
    refine gm_get hx hb hW hown X u_Mdl m53 rfl 2 (by decide) wf_Mdl_75 (v := .ref (E.2.1 + 54)) rfl d_Mdl_square_87 ?_
    refine lv_aload_n hx hb d_Mdl_square_90 rfl (lv_at hl 0 rfl) ?_
    refine gm_get hx hb hW hown X u_Mdl m53 rfl 20 (by decide) wf_Mdl_119 (v := .ref (E.2.1 + 95)) rfl d_Mdl_square_91 ?_
    refine gm_Vv hx hb hml hown hW X m99 (q_add l hpP hf R_3 (by decide) (by decide) (by decide) (by omega) m95_3 m54_3) (n := 3) ⟨⟨wl_Mdl_35, wi_Rng_add, wsel_Rng_add, winit_Rng, wc_Rng_add⟩, by decide +kernel, ⟨Nat.le_of_ble_eq_true rfl, Nat.le_of_ble_eq_true rfl⟩, _, rfl, rfl⟩ rfl hl.1 rfl (Nat.le_of_ble_eq_true rfl) d_Mdl_square_94 ⟨Nat.le_of_ble_eq_true rfl, Nat.le_of_ble_eq_true rfl⟩ (fun M1 H locs hp X => ?_)
    obtain ⟨τ4, rfl, q4, kk4⟩ := hp
    have m54_4 : MV φ nP (τ4 54) 7 := by rw [kk4 54 (by omega) (by omega)]; exact m54_3
    have m101_4 : MV φ nP (τ4 101) 1 := by rw [kk4 101 (by omega) (by omega)]; exact m101_3
    have m891_4 : MV φ nP (τ4 (89 + 1)) (φ (IV (τ a) 8)) := by rw [kk4 (89 + 1) (by omega) (by omega)]; exact m891_3
    have R_4 : isR φ nP 99 τ4 := R_3.kp (fun j h1 h2 => kk4 j (by omega) (by omega))
    have R2_4 : isR ψ nN 107 τ4 := R2_3.kp (fun j h1 h2 => kk4 j (by omega) (by omega))
    have m95_4 : MV φ nP (τ4 95) ((((φ (IV (τ a) 8)) * (φ (IV (τ a) 8))) * (φ (IV (τ a) 8))) + 7) := q4
    refine lv_aload_n hx hb d_Mdl_square_97 rfl (lv_at hl 0 rfl) ?_
    refine gm_get hx hb hW hown X u_Mdl m53 rfl 0 (by decide) wf_Mdl_13 (v := .ref (E.2.1 + 99)) rfl d_Mdl_square_98 ?_
    refine gm_getN hx hb hW hown X u_Rng m99 rfl 2 (by decide) wfn_Mdl_154 (v := .ref (E.2.1 + 101)) rfl d_Mdl_square_101 ?_
    refine lv_aload_n hx hb d_Mdl_square_104 rfl (lv_at hl 0 rfl) ?_
    refine gm_get hx hb hW hown X u_Mdl m53 rfl 17 (by decide) wf_Mdl_110 (v := .ref (E.2.1 + 89)) rfl d_Mdl_square_105 ?_
    refine gm_getN hx hb hW hown X u_Rpt (oQ isQ_89) rfl 2 (by decide) wfn_Mdl_1 (v := .ref (E.2.1 + (89 + 3))) rfl d_Mdl_square_108 ?_
    refine gm_Sv hx hb hml hown hW X (q_copy l (isQ.z isQ_89) (by decide)) (n := 2) ⟨⟨wl_Mdl_157, ws_Rng_copy, winit_Rng, wc_Rng_copy⟩, by decide +kernel, Nat.le_of_ble_eq_true rfl, Nat.le_of_ble_eq_true rfl⟩ rfl hl.1 rfl (Nat.le_of_ble_eq_true rfl) d_Mdl_square_111 ⟨Nat.le_of_ble_eq_true rfl, Nat.le_of_ble_eq_true rfl⟩ (fun M1 H locs hp X => ?_)
    obtain ⟨τ5, rfl, q5, kk5⟩ := hp
    have m54_5 : MV φ nP (τ5 54) 7 := by rw [kk5 54 (by omega)]; exact m54_4
    have m101_5 : MV φ nP (τ5 101) 1 := by rw [kk5 101 (by omega)]; exact m101_4
    have m891_5 : MV φ nP (τ5 (89 + 1)) (φ (IV (τ a) 8)) := by rw [kk5 (89 + 1) (by omega)]; exact m891_4
    have m95_5 : MV φ nP (τ5 95) ((((φ (IV (τ a) 8)) * (φ (IV (τ a) 8))) * (φ (IV (τ a) 8))) + 7) := by rw [kk5 95 (by omega)]; exact m95_4
    have R_5 : isR φ nP 99 τ5 := R_4.kp (fun j h1 h2 => kk5 j (by omega))
    have R2_5 : isR ψ nN 107 τ5 := R2_4.kp (fun j h1 h2 => kk5 j (by omega))
    have m893_5 : MV φ nP (τ5 (89 + 3)) 1 := by rw [q5]; exact m101_4
    refine lv_iconst (v := 1) hx hb d_Mdl_square_114 (by decide) ?_
    exact gm_zret hx hb hr2 hlk X rfl ⟨_, rfl, Or.inl ⟨rfl, by omega, m891_5, m95_5, m893_5⟩, fun j a1 a2 a3 => by rw [kk5 j (by omega), kk4 j (by omega) (by omega), kk3 j (by omega) (by omega), kk2 j (by omega) (by omega), kk1 j (by omega) (by omega)]⟩ d_Mdl_square_115
  · have q : IV (τ 100) 8 ≤ IV (τ a) 8 := hq2.mp (Int32.not_lt.mp c11)
    refine lv_iconst (v := 0) hx hb d_Mdl_square_14 (by decide) ?_
    exact gm_zret hx hb hr2 hlk X rfl ⟨_, rfl, Or.inr ⟨rfl, by omega⟩, fun j a1 a2 a3 => rfl⟩ d_Mdl_square_15
