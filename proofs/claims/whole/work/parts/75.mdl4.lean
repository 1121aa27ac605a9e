/-! PointBenchModel: its calls, refused and taken: written by wip/gen/mdl4.py -/
set_option maxHeartbeats 4000000 in
theorem r_Mdl_set_bad  (l : Launch) (E : gm_E) (N : gm_M) (τ : Nat → Nat → Int32) (cd : Int32)  {p1 p2 : Int32} {v : Int64} (hbad : ¬ (inR p1 8 ∧ inR p2 4)) : cv_ l y_Mdl_set b_Mdl_set 5 none { frames := 1, cells := 0, slots := 0, locals := 21 } E (mW E N τ cd) [.ref (E.2.1 + 53), .int p1, .int p2, .long v] (fun M' => M' = mW E N τ 1) := by
  refine gm_met (by decide) (Nat.le_of_ble_eq_true rfl) (fun p e s m below meth c ls hx hb hml hr2 hlk hnm hown hW X hl => ?_)
  have hl : lv_has ls 5 [(0, .ref (E.2.1 + 53)), (1, .int p1), (2, .int p2), (3, .long v)] := hl
  refine lv_aload_n hx hb d_Mdl_set_0 rfl (lv_at hl 0 rfl) ?_
  refine lv_iload_n hx hb d_Mdl_set_1 rfl (lv_at hl 1 rfl) ?_
  refine lv_bipush (v := 7) hx hb d_Mdl_set_2 (by decide) ?_
  refine gm_Si hx hb hml hown hW X (r_Mdl_in_8 l E N τ cd) (n := 2) ⟨⟨wl_Mdl_164, ws_Mdl_in, winit_Mdl, wc_Mdl_in⟩, by decide +kernel, Nat.le_of_ble_eq_true rfl, Nat.le_of_ble_eq_true rfl⟩ rfl hl.1 rfl (Nat.le_of_ble_eq_true rfl) d_Mdl_set_4 ⟨Nat.le_of_ble_eq_true rfl, Nat.le_of_ble_eq_true rfl⟩ (fun r0 M1 H locs hp X => ?_)
  rw [hp.1] at X
  have hi0 := hp.2
  refine lv_if_eq (tgt := 22) hx hb d_Mdl_set_7 (by decide) (fun c7 => ?_) (fun c7 => ?_)
  · refine lv_iconst (v := 0) hx hb d_Mdl_set_22 (by decide) ?_
    refine gm_Vi hx hb hml hown hW X m53 (r_Mdl_good_0 l E N τ cd) (n := 1) ⟨⟨wl_Mdl_168, wi_Mdl_good, wsel_Mdl_good, winit_Mdl, wc_Mdl_good⟩, by decide +kernel, ⟨Nat.le_of_ble_eq_true rfl, Nat.le_of_ble_eq_true rfl⟩, _, rfl, rfl⟩ rfl hl.1 rfl (Nat.le_of_ble_eq_true rfl) d_Mdl_set_23 ⟨Nat.le_of_ble_eq_true rfl, Nat.le_of_ble_eq_true rfl⟩ (fun r9 M1 H locs hp X => ?_)
    rw [hp.1] at X
    have hr9 := hp.2
    refine lv_if_ne (tgt := 30) hx hb d_Mdl_set_26 (by decide) (fun c9 => absurd hr9 c9) (fun _ => ?_)
    exact gm_vret hx hb hr2 hlk X rfl d_Mdl_set_29
  · have hv0 : inR p1 8 := by rcases hi0 with h | h; exact h.2; exact absurd h.1 c7
    refine lv_iload_n hx hb d_Mdl_set_10 rfl (lv_at hl 2 rfl) ?_
    refine lv_iconst (v := 3) hx hb d_Mdl_set_11 (by decide) ?_
    refine gm_Si hx hb hml hown hW X (r_Mdl_in_4 l E N τ cd) (n := 2) ⟨⟨wl_Mdl_164, ws_Mdl_in, winit_Mdl, wc_Mdl_in⟩, by decide +kernel, Nat.le_of_ble_eq_true rfl, Nat.le_of_ble_eq_true rfl⟩ rfl hl.1 rfl (Nat.le_of_ble_eq_true rfl) d_Mdl_set_12 ⟨Nat.le_of_ble_eq_true rfl, Nat.le_of_ble_eq_true rfl⟩ (fun r1 M1 H locs hp X => ?_)
    rw [hp.1] at X
    have hi1 := hp.2
    refine lv_if_eq (tgt := 22) hx hb d_Mdl_set_15 (by decide) (fun c15 => ?_) (fun c15 => ?_)
    · refine lv_iconst (v := 0) hx hb d_Mdl_set_22 (by decide) ?_
      refine gm_Vi hx hb hml hown hW X m53 (r_Mdl_good_0 l E N τ cd) (n := 1) ⟨⟨wl_Mdl_168, wi_Mdl_good, wsel_Mdl_good, winit_Mdl, wc_Mdl_good⟩, by decide +kernel, ⟨Nat.le_of_ble_eq_true rfl, Nat.le_of_ble_eq_true rfl⟩, _, rfl, rfl⟩ rfl hl.1 rfl (Nat.le_of_ble_eq_true rfl) d_Mdl_set_23 ⟨Nat.le_of_ble_eq_true rfl, Nat.le_of_ble_eq_true rfl⟩ (fun r9 M1 H locs hp X => ?_)
      rw [hp.1] at X
      have hr9 := hp.2
      refine lv_if_ne (tgt := 30) hx hb d_Mdl_set_26 (by decide) (fun c9 => absurd hr9 c9) (fun _ => ?_)
      exact gm_vret hx hb hr2 hlk X rfl d_Mdl_set_29
    · have hv1 : inR p2 4 := by rcases hi1 with h | h; exact h.2; exact absurd h.1 c15
      exact absurd ⟨hv0, hv1⟩ hbad
set_option maxHeartbeats 4000000 in
theorem r_Mdl_get_bad  (l : Launch) (E : gm_E) (N : gm_M) (τ : Nat → Nat → Int32) (cd : Int32)  {p1 p2 : Int32} (hbad : ¬ (inR p1 8 ∧ inR p2 4)) : cl_ l y_Mdl_get b_Mdl_get 3 (some .long) { frames := 1, cells := 0, slots := 0, locals := 21 } E (mW E N τ cd) [.ref (E.2.1 + 53), .int p1, .int p2] (fun r M' => M' = mW E N τ 1) := by
  refine gm_met (by decide) (Nat.le_of_ble_eq_true rfl) (fun p e s m below meth c ls hx hb hml hr2 hlk hnm hown hW X hl => ?_)
  have hl : lv_has ls 3 [(0, .ref (E.2.1 + 53)), (1, .int p1), (2, .int p2)] := hl
  refine lv_aload_n hx hb d_Mdl_get_0 rfl (lv_at hl 0 rfl) ?_
  refine lv_iload_n hx hb d_Mdl_get_1 rfl (lv_at hl 1 rfl) ?_
  refine lv_bipush (v := 7) hx hb d_Mdl_get_2 (by decide) ?_
  refine gm_Si hx hb hml hown hW X (r_Mdl_in_8 l E N τ cd) (n := 2) ⟨⟨wl_Mdl_164, ws_Mdl_in, winit_Mdl, wc_Mdl_in⟩, by decide +kernel, Nat.le_of_ble_eq_true rfl, Nat.le_of_ble_eq_true rfl⟩ rfl hl.1 rfl (Nat.le_of_ble_eq_true rfl) d_Mdl_get_4 ⟨Nat.le_of_ble_eq_true rfl, Nat.le_of_ble_eq_true rfl⟩ (fun r0 M1 H locs hp X => ?_)
  rw [hp.1] at X
  have hi0 := hp.2
  refine lv_if_eq (tgt := 22) hx hb d_Mdl_get_7 (by decide) (fun c7 => ?_) (fun c7 => ?_)
  · refine lv_iconst (v := 0) hx hb d_Mdl_get_22 (by decide) ?_
    refine gm_Vi hx hb hml hown hW X m53 (r_Mdl_good_0 l E N τ cd) (n := 1) ⟨⟨wl_Mdl_168, wi_Mdl_good, wsel_Mdl_good, winit_Mdl, wc_Mdl_good⟩, by decide +kernel, ⟨Nat.le_of_ble_eq_true rfl, Nat.le_of_ble_eq_true rfl⟩, _, rfl, rfl⟩ rfl hl.1 rfl (Nat.le_of_ble_eq_true rfl) d_Mdl_get_23 ⟨Nat.le_of_ble_eq_true rfl, Nat.le_of_ble_eq_true rfl⟩ (fun r9 M1 H locs hp X => ?_)
    rw [hp.1] at X
    have hr9 := hp.2
    refine lv_if_ne (tgt := 31) hx hb d_Mdl_get_26 (by decide) (fun c9 => absurd hr9 c9) (fun _ => ?_)
    refine lv_lconst (v := 0) hx hb d_Mdl_get_29 (by decide) ?_
    exact gm_lret hx hb hr2 hlk X rfl d_Mdl_get_30
  · have hv0 : inR p1 8 := by rcases hi0 with h | h; exact h.2; exact absurd h.1 c7
    refine lv_iload_n hx hb d_Mdl_get_10 rfl (lv_at hl 2 rfl) ?_
    refine lv_iconst (v := 3) hx hb d_Mdl_get_11 (by decide) ?_
    refine gm_Si hx hb hml hown hW X (r_Mdl_in_4 l E N τ cd) (n := 2) ⟨⟨wl_Mdl_164, ws_Mdl_in, winit_Mdl, wc_Mdl_in⟩, by decide +kernel, Nat.le_of_ble_eq_true rfl, Nat.le_of_ble_eq_true rfl⟩ rfl hl.1 rfl (Nat.le_of_ble_eq_true rfl) d_Mdl_get_12 ⟨Nat.le_of_ble_eq_true rfl, Nat.le_of_ble_eq_true rfl⟩ (fun r1 M1 H locs hp X => ?_)
    rw [hp.1] at X
    have hi1 := hp.2
    refine lv_if_eq (tgt := 22) hx hb d_Mdl_get_15 (by decide) (fun c15 => ?_) (fun c15 => ?_)
    · refine lv_iconst (v := 0) hx hb d_Mdl_get_22 (by decide) ?_
      refine gm_Vi hx hb hml hown hW X m53 (r_Mdl_good_0 l E N τ cd) (n := 1) ⟨⟨wl_Mdl_168, wi_Mdl_good, wsel_Mdl_good, winit_Mdl, wc_Mdl_good⟩, by decide +kernel, ⟨Nat.le_of_ble_eq_true rfl, Nat.le_of_ble_eq_true rfl⟩, _, rfl, rfl⟩ rfl hl.1 rfl (Nat.le_of_ble_eq_true rfl) d_Mdl_get_23 ⟨Nat.le_of_ble_eq_true rfl, Nat.le_of_ble_eq_true rfl⟩ (fun r9 M1 H locs hp X => ?_)
      rw [hp.1] at X
      have hr9 := hp.2
      refine lv_if_ne (tgt := 31) hx hb d_Mdl_get_26 (by decide) (fun c9 => absurd hr9 c9) (fun _ => ?_)
      refine lv_lconst (v := 0) hx hb d_Mdl_get_29 (by decide) ?_
      exact gm_lret hx hb hr2 hlk X rfl d_Mdl_get_30
    · have hv1 : inR p2 4 := by rcases hi1 with h | h; exact h.2; exact absurd h.1 c15
      exact absurd ⟨hv0, hv1⟩ hbad
set_option maxHeartbeats 4000000 in
theorem r_Mdl_compare_bad  (l : Launch) (E : gm_E) (N : gm_M) (τ : Nat → Nat → Int32) (cd : Int32)  {p1 p2 : Int32} (hbad : ¬ (inR p1 8 ∧ inR p2 8)) : ci_ l y_Mdl_compare b_Mdl_compare 3 (some .int) { frames := 1, cells := 0, slots := 0, locals := 22 } E (mW E N τ cd) [.ref (E.2.1 + 53), .int p1, .int p2] (fun r M' => M' = mW E N τ 1) := by
  refine gm_met (by decide) (Nat.le_of_ble_eq_true rfl) (fun p e s m below meth c ls hx hb hml hr2 hlk hnm hown hW X hl => ?_)
  have hl : lv_has ls 3 [(0, .ref (E.2.1 + 53)), (1, .int p1), (2, .int p2)] := hl
  refine lv_aload_n hx hb d_Mdl_compare_0 rfl (lv_at hl 0 rfl) ?_
  refine lv_iload_n hx hb d_Mdl_compare_1 rfl (lv_at hl 1 rfl) ?_
  refine lv_bipush (v := 7) hx hb d_Mdl_compare_2 (by decide) ?_
  refine gm_Si hx hb hml hown hW X (r_Mdl_in_8 l E N τ cd) (n := 2) ⟨⟨wl_Mdl_164, ws_Mdl_in, winit_Mdl, wc_Mdl_in⟩, by decide +kernel, Nat.le_of_ble_eq_true rfl, Nat.le_of_ble_eq_true rfl⟩ rfl hl.1 rfl (Nat.le_of_ble_eq_true rfl) d_Mdl_compare_4 ⟨Nat.le_of_ble_eq_true rfl, Nat.le_of_ble_eq_true rfl⟩ (fun r0 M1 H locs hp X => ?_)
  rw [hp.1] at X
  have hi0 := hp.2
  refine lv_if_eq (tgt := 23) hx hb d_Mdl_compare_7 (by decide) (fun c7 => ?_) (fun c7 => ?_)
  · refine lv_iconst (v := 0) hx hb d_Mdl_compare_23 (by decide) ?_
    refine gm_Vi hx hb hml hown hW X m53 (r_Mdl_good_0 l E N τ cd) (n := 1) ⟨⟨wl_Mdl_168, wi_Mdl_good, wsel_Mdl_good, winit_Mdl, wc_Mdl_good⟩, by decide +kernel, ⟨Nat.le_of_ble_eq_true rfl, Nat.le_of_ble_eq_true rfl⟩, _, rfl, rfl⟩ rfl hl.1 rfl (Nat.le_of_ble_eq_true rfl) d_Mdl_compare_24 ⟨Nat.le_of_ble_eq_true rfl, Nat.le_of_ble_eq_true rfl⟩ (fun r9 M1 H locs hp X => ?_)
    rw [hp.1] at X
    have hr9 := hp.2
    refine lv_if_ne (tgt := 32) hx hb d_Mdl_compare_27 (by decide) (fun c9 => absurd hr9 c9) (fun _ => ?_)
    refine lv_iconst (v := 0) hx hb d_Mdl_compare_30 (by decide) ?_
    exact gm_iret hx hb hr2 hlk X rfl d_Mdl_compare_31
  · have hv0 : inR p1 8 := by rcases hi0 with h | h; exact h.2; exact absurd h.1 c7
    refine lv_iload_n hx hb d_Mdl_compare_10 rfl (lv_at hl 2 rfl) ?_
    refine lv_bipush (v := 7) hx hb d_Mdl_compare_11 (by decide) ?_
    refine gm_Si hx hb hml hown hW X (r_Mdl_in_8 l E N τ cd) (n := 2) ⟨⟨wl_Mdl_164, ws_Mdl_in, winit_Mdl, wc_Mdl_in⟩, by decide +kernel, Nat.le_of_ble_eq_true rfl, Nat.le_of_ble_eq_true rfl⟩ rfl hl.1 rfl (Nat.le_of_ble_eq_true rfl) d_Mdl_compare_13 ⟨Nat.le_of_ble_eq_true rfl, Nat.le_of_ble_eq_true rfl⟩ (fun r1 M1 H locs hp X => ?_)
    rw [hp.1] at X
    have hi1 := hp.2
    refine lv_if_eq (tgt := 23) hx hb d_Mdl_compare_16 (by decide) (fun c16 => ?_) (fun c16 => ?_)
    · refine lv_iconst (v := 0) hx hb d_Mdl_compare_23 (by decide) ?_
      refine gm_Vi hx hb hml hown hW X m53 (r_Mdl_good_0 l E N τ cd) (n := 1) ⟨⟨wl_Mdl_168, wi_Mdl_good, wsel_Mdl_good, winit_Mdl, wc_Mdl_good⟩, by decide +kernel, ⟨Nat.le_of_ble_eq_true rfl, Nat.le_of_ble_eq_true rfl⟩, _, rfl, rfl⟩ rfl hl.1 rfl (Nat.le_of_ble_eq_true rfl) d_Mdl_compare_24 ⟨Nat.le_of_ble_eq_true rfl, Nat.le_of_ble_eq_true rfl⟩ (fun r9 M1 H locs hp X => ?_)
      rw [hp.1] at X
      have hr9 := hp.2
      refine lv_if_ne (tgt := 32) hx hb d_Mdl_compare_27 (by decide) (fun c9 => absurd hr9 c9) (fun _ => ?_)
      refine lv_iconst (v := 0) hx hb d_Mdl_compare_30 (by decide) ?_
      exact gm_iret hx hb hr2 hlk X rfl d_Mdl_compare_31
    · have hv1 : inR p2 8 := by rcases hi1 with h | h; exact h.2; exact absurd h.1 c16
      exact absurd ⟨hv0, hv1⟩ hbad
set_option maxHeartbeats 4000000 in
theorem r_Mdl_work_bad  (l : Launch) (E : gm_E) (N : gm_M) (τ : Nat → Nat → Int32) (cd : Int32)  {p1 p2 p3 p4 : Int32} (hbad : ¬ (inR p1 8 ∧ inR p2 8 ∧ inR p3 8 ∧ inR p4 8)) : ci_ l y_Mdl_work b_Mdl_work 7 (some .boolean) { frames := 3, cells := 0, slots := 0, locals := 78 } E (mW E N τ cd) [.ref (E.2.1 + 53), .int p1, .int p2, .int p3, .int p4] (fun r M' => M' = mW E N τ 1) := by
  refine gm_met (by decide) (Nat.le_of_ble_eq_true rfl) (fun p e s m below meth c ls hx hb hml hr2 hlk hnm hown hW X hl => ?_)
  have hl : lv_has ls 7 [(0, .ref (E.2.1 + 53)), (1, .int p1), (2, .int p2), (3, .int p3), (4, .int p4)] := hl
  refine lv_aload_n hx hb d_Mdl_work_0 rfl (lv_at hl 0 rfl) ?_
  refine lv_iload_n hx hb d_Mdl_work_1 rfl (lv_at hl 1 rfl) ?_
  refine lv_bipush (v := 7) hx hb d_Mdl_work_2 (by decide) ?_
  refine gm_Si hx hb hml hown hW X (r_Mdl_in_8 l E N τ cd) (n := 2) ⟨⟨wl_Mdl_164, ws_Mdl_in, winit_Mdl, wc_Mdl_in⟩, by decide +kernel, Nat.le_of_ble_eq_true rfl, Nat.le_of_ble_eq_true rfl⟩ rfl hl.1 rfl (Nat.le_of_ble_eq_true rfl) d_Mdl_work_4 ⟨Nat.le_of_ble_eq_true rfl, Nat.le_of_ble_eq_true rfl⟩ (fun r0 M1 H locs hp X => ?_)
  rw [hp.1] at X
  have hi0 := hp.2
  refine lv_if_eq (tgt := 42) hx hb d_Mdl_work_7 (by decide) (fun c7 => ?_) (fun c7 => ?_)
  · refine lv_iconst (v := 0) hx hb d_Mdl_work_42 (by decide) ?_
    refine gm_Vi hx hb hml hown hW X m53 (r_Mdl_good_0 l E N τ cd) (n := 1) ⟨⟨wl_Mdl_168, wi_Mdl_good, wsel_Mdl_good, winit_Mdl, wc_Mdl_good⟩, by decide +kernel, ⟨Nat.le_of_ble_eq_true rfl, Nat.le_of_ble_eq_true rfl⟩, _, rfl, rfl⟩ rfl hl.1 rfl (Nat.le_of_ble_eq_true rfl) d_Mdl_work_43 ⟨Nat.le_of_ble_eq_true rfl, Nat.le_of_ble_eq_true rfl⟩ (fun r9 M1 H locs hp X => ?_)
    rw [hp.1] at X
    have hr9 := hp.2
    refine lv_if_ne (tgt := 51) hx hb d_Mdl_work_46 (by decide) (fun c9 => absurd hr9 c9) (fun _ => ?_)
    refine lv_iconst (v := 0) hx hb d_Mdl_work_49 (by decide) ?_
    exact gm_zret hx hb hr2 hlk X rfl rfl d_Mdl_work_50
  · have hv0 : inR p1 8 := by rcases hi0 with h | h; exact h.2; exact absurd h.1 c7
    refine lv_iload_n hx hb d_Mdl_work_10 rfl (lv_at hl 2 rfl) ?_
    refine lv_bipush (v := 7) hx hb d_Mdl_work_11 (by decide) ?_
    refine gm_Si hx hb hml hown hW X (r_Mdl_in_8 l E N τ cd) (n := 2) ⟨⟨wl_Mdl_164, ws_Mdl_in, winit_Mdl, wc_Mdl_in⟩, by decide +kernel, Nat.le_of_ble_eq_true rfl, Nat.le_of_ble_eq_true rfl⟩ rfl hl.1 rfl (Nat.le_of_ble_eq_true rfl) d_Mdl_work_13 ⟨Nat.le_of_ble_eq_true rfl, Nat.le_of_ble_eq_true rfl⟩ (fun r1 M1 H locs hp X => ?_)
    rw [hp.1] at X
    have hi1 := hp.2
    refine lv_if_eq (tgt := 42) hx hb d_Mdl_work_16 (by decide) (fun c16 => ?_) (fun c16 => ?_)
    · refine lv_iconst (v := 0) hx hb d_Mdl_work_42 (by decide) ?_
      refine gm_Vi hx hb hml hown hW X m53 (r_Mdl_good_0 l E N τ cd) (n := 1) ⟨⟨wl_Mdl_168, wi_Mdl_good, wsel_Mdl_good, winit_Mdl, wc_Mdl_good⟩, by decide +kernel, ⟨Nat.le_of_ble_eq_true rfl, Nat.le_of_ble_eq_true rfl⟩, _, rfl, rfl⟩ rfl hl.1 rfl (Nat.le_of_ble_eq_true rfl) d_Mdl_work_43 ⟨Nat.le_of_ble_eq_true rfl, Nat.le_of_ble_eq_true rfl⟩ (fun r9 M1 H locs hp X => ?_)
      rw [hp.1] at X
      have hr9 := hp.2
      refine lv_if_ne (tgt := 51) hx hb d_Mdl_work_46 (by decide) (fun c9 => absurd hr9 c9) (fun _ => ?_)
      refine lv_iconst (v := 0) hx hb d_Mdl_work_49 (by decide) ?_
      exact gm_zret hx hb hr2 hlk X rfl rfl d_Mdl_work_50
    · have hv1 : inR p2 8 := by rcases hi1 with h | h; exact h.2; exact absurd h.1 c16
      refine lv_iload_n hx hb d_Mdl_work_19 rfl (lv_at hl 3 rfl) ?_
      refine lv_bipush (v := 7) hx hb d_Mdl_work_20 (by decide) ?_
      refine gm_Si hx hb hml hown hW X (r_Mdl_in_8 l E N τ cd) (n := 2) ⟨⟨wl_Mdl_164, ws_Mdl_in, winit_Mdl, wc_Mdl_in⟩, by decide +kernel, Nat.le_of_ble_eq_true rfl, Nat.le_of_ble_eq_true rfl⟩ rfl hl.1 rfl (Nat.le_of_ble_eq_true rfl) d_Mdl_work_22 ⟨Nat.le_of_ble_eq_true rfl, Nat.le_of_ble_eq_true rfl⟩ (fun r2 M1 H locs hp X => ?_)
      rw [hp.1] at X
      have hi2 := hp.2
      refine lv_if_eq (tgt := 42) hx hb d_Mdl_work_25 (by decide) (fun c25 => ?_) (fun c25 => ?_)
      · refine lv_iconst (v := 0) hx hb d_Mdl_work_42 (by decide) ?_
        refine gm_Vi hx hb hml hown hW X m53 (r_Mdl_good_0 l E N τ cd) (n := 1) ⟨⟨wl_Mdl_168, wi_Mdl_good, wsel_Mdl_good, winit_Mdl, wc_Mdl_good⟩, by decide +kernel, ⟨Nat.le_of_ble_eq_true rfl, Nat.le_of_ble_eq_true rfl⟩, _, rfl, rfl⟩ rfl hl.1 rfl (Nat.le_of_ble_eq_true rfl) d_Mdl_work_43 ⟨Nat.le_of_ble_eq_true rfl, Nat.le_of_ble_eq_true rfl⟩ (fun r9 M1 H locs hp X => ?_)
        rw [hp.1] at X
        have hr9 := hp.2
        refine lv_if_ne (tgt := 51) hx hb d_Mdl_work_46 (by decide) (fun c9 => absurd hr9 c9) (fun _ => ?_)
        refine lv_iconst (v := 0) hx hb d_Mdl_work_49 (by decide) ?_
        exact gm_zret hx hb hr2 hlk X rfl rfl d_Mdl_work_50
      · have hv2 : inR p3 8 := by rcases hi2 with h | h; exact h.2; exact absurd h.1 c25
        refine lv_iload hx hb d_Mdl_work_28 (lv_at hl 4 rfl) ?_
        refine lv_bipush (v := 7) hx hb d_Mdl_work_30 (by decide) ?_
        refine gm_Si hx hb hml hown hW X (r_Mdl_in_8 l E N τ cd) (n := 2) ⟨⟨wl_Mdl_164, ws_Mdl_in, winit_Mdl, wc_Mdl_in⟩, by decide +kernel, Nat.le_of_ble_eq_true rfl, Nat.le_of_ble_eq_true rfl⟩ rfl hl.1 rfl (Nat.le_of_ble_eq_true rfl) d_Mdl_work_32 ⟨Nat.le_of_ble_eq_true rfl, Nat.le_of_ble_eq_true rfl⟩ (fun r3 M1 H locs hp X => ?_)
        rw [hp.1] at X
        have hi3 := hp.2
        refine lv_if_eq (tgt := 42) hx hb d_Mdl_work_35 (by decide) (fun c35 => ?_) (fun c35 => ?_)
        · refine lv_iconst (v := 0) hx hb d_Mdl_work_42 (by decide) ?_
          refine gm_Vi hx hb hml hown hW X m53 (r_Mdl_good_0 l E N τ cd) (n := 1) ⟨⟨wl_Mdl_168, wi_Mdl_good, wsel_Mdl_good, winit_Mdl, wc_Mdl_good⟩, by decide +kernel, ⟨Nat.le_of_ble_eq_true rfl, Nat.le_of_ble_eq_true rfl⟩, _, rfl, rfl⟩ rfl hl.1 rfl (Nat.le_of_ble_eq_true rfl) d_Mdl_work_43 ⟨Nat.le_of_ble_eq_true rfl, Nat.le_of_ble_eq_true rfl⟩ (fun r9 M1 H locs hp X => ?_)
          rw [hp.1] at X
          have hr9 := hp.2
          refine lv_if_ne (tgt := 51) hx hb d_Mdl_work_46 (by decide) (fun c9 => absurd hr9 c9) (fun _ => ?_)
          refine lv_iconst (v := 0) hx hb d_Mdl_work_49 (by decide) ?_
          exact gm_zret hx hb hr2 hlk X rfl rfl d_Mdl_work_50
        · have hv3 : inR p4 8 := by rcases hi3 with h | h; exact h.2; exact absurd h.1 c35
          exact absurd ⟨hv0, hv1, hv2, hv3⟩ hbad
set_option maxHeartbeats 4000000 in
theorem r_Mdl_base_bad  (l : Launch) (E : gm_E) (N : gm_M) (τ : Nat → Nat → Int32) (cd : Int32)  {p1 : Int32} (hbad : ¬ (inR p1 4)) : cv_ l y_Mdl_base b_Mdl_base 2 none { frames := 2, cells := 0, slots := 0, locals := 43 } E (mW E N τ cd) [.ref (E.2.1 + 53), .int p1] (fun M' => M' = mW E N τ 1) := by
  refine gm_met (by decide) (Nat.le_of_ble_eq_true rfl) (fun p e s m below meth c ls hx hb hml hr2 hlk hnm hown hW X hl => ?_)
  have hl : lv_has ls 2 [(0, .ref (E.2.1 + 53)), (1, .int p1)] := hl
  refine lv_aload_n hx hb d_Mdl_base_0 rfl (lv_at hl 0 rfl) ?_
  refine lv_iload_n hx hb d_Mdl_base_1 rfl (lv_at hl 1 rfl) ?_
  refine lv_iconst (v := 3) hx hb d_Mdl_base_2 (by decide) ?_
  refine gm_Si hx hb hml hown hW X (r_Mdl_in_4 l E N τ cd) (n := 2) ⟨⟨wl_Mdl_164, ws_Mdl_in, winit_Mdl, wc_Mdl_in⟩, by decide +kernel, Nat.le_of_ble_eq_true rfl, Nat.le_of_ble_eq_true rfl⟩ rfl hl.1 rfl (Nat.le_of_ble_eq_true rfl) d_Mdl_base_3 ⟨Nat.le_of_ble_eq_true rfl, Nat.le_of_ble_eq_true rfl⟩ (fun r0 M1 H locs hp X => ?_)
  rw [hp.1] at X
  have hi0 := hp.2
  have hz0 : r0 = 0 := by rcases hi0 with h | h; exact absurd h.2 hbad; exact h.1
  rw [hz0]
  refine gm_Vi hx hb hml hown hW X m53 (r_Mdl_good_0 l E N τ cd) (n := 1) ⟨⟨wl_Mdl_168, wi_Mdl_good, wsel_Mdl_good, winit_Mdl, wc_Mdl_good⟩, by decide +kernel, ⟨Nat.le_of_ble_eq_true rfl, Nat.le_of_ble_eq_true rfl⟩, _, rfl, rfl⟩ rfl hl.1 rfl (Nat.le_of_ble_eq_true rfl) d_Mdl_base_6 ⟨Nat.le_of_ble_eq_true rfl, Nat.le_of_ble_eq_true rfl⟩ (fun r9 M1 H locs hp X => ?_)
  rw [hp.1] at X
  have hr9 := hp.2
  refine lv_if_eq (tgt := 25) hx hb d_Mdl_base_9 (by decide) (fun _ => ?_) (fun c9 => absurd hr9 c9)
  exact gm_vret hx hb hr2 hlk X rfl d_Mdl_base_25
set_option maxHeartbeats 4000000 in
theorem r_Mdl_none_bad  (l : Launch) (E : gm_E) (N : gm_M) (τ : Nat → Nat → Int32) (cd : Int32)  {p1 : Int32} (hbad : ¬ (inR p1 4)) : cv_ l y_Mdl_none b_Mdl_none 3 none { frames := 1, cells := 0, slots := 0, locals := 21 } E (mW E N τ cd) [.ref (E.2.1 + 53), .int p1] (fun M' => M' = mW E N τ 1) := by
  refine gm_met (by decide) (Nat.le_of_ble_eq_true rfl) (fun p e s m below meth c ls hx hb hml hr2 hlk hnm hown hW X hl => ?_)
  have hl : lv_has ls 3 [(0, .ref (E.2.1 + 53)), (1, .int p1)] := hl
  refine lv_aload_n hx hb d_Mdl_none_0 rfl (lv_at hl 0 rfl) ?_
  refine lv_iload_n hx hb d_Mdl_none_1 rfl (lv_at hl 1 rfl) ?_
  refine lv_iconst (v := 3) hx hb d_Mdl_none_2 (by decide) ?_
  refine gm_Si hx hb hml hown hW X (r_Mdl_in_4 l E N τ cd) (n := 2) ⟨⟨wl_Mdl_164, ws_Mdl_in, winit_Mdl, wc_Mdl_in⟩, by decide +kernel, Nat.le_of_ble_eq_true rfl, Nat.le_of_ble_eq_true rfl⟩ rfl hl.1 rfl (Nat.le_of_ble_eq_true rfl) d_Mdl_none_3 ⟨Nat.le_of_ble_eq_true rfl, Nat.le_of_ble_eq_true rfl⟩ (fun r0 M1 H locs hp X => ?_)
  rw [hp.1] at X
  have hi0 := hp.2
  have hz0 : r0 = 0 := by rcases hi0 with h | h; exact absurd h.2 hbad; exact h.1
  rw [hz0]
  refine gm_Vi hx hb hml hown hW X m53 (r_Mdl_good_0 l E N τ cd) (n := 1) ⟨⟨wl_Mdl_168, wi_Mdl_good, wsel_Mdl_good, winit_Mdl, wc_Mdl_good⟩, by decide +kernel, ⟨Nat.le_of_ble_eq_true rfl, Nat.le_of_ble_eq_true rfl⟩, _, rfl, rfl⟩ rfl hl.1 rfl (Nat.le_of_ble_eq_true rfl) d_Mdl_none_6 ⟨Nat.le_of_ble_eq_true rfl, Nat.le_of_ble_eq_true rfl⟩ (fun r9 M1 H locs hp X => ?_)
  rw [hp.1] at X
  have hr9 := hp.2
  refine lv_if_ne (tgt := 13) hx hb d_Mdl_none_9 (by decide) (fun c9 => absurd hr9 c9) (fun _ => ?_)
  exact gm_vret hx hb hr2 hlk X rfl d_Mdl_none_12
set_option maxHeartbeats 4000000 in
theorem r_Mdl_lay_bad  (l : Launch) (E : gm_E) (N : gm_M) (τ : Nat → Nat → Int32) (cd : Int32)  {p1 p2 p3 : Int32} (hbad : ¬ (inR p1 4 ∧ inR p2 8 ∧ inR p3 8)) : ci_ l y_Mdl_lay b_Mdl_lay 4 (some .boolean) { frames := 4, cells := 0, slots := 0, locals := 95 } E (mW E N τ cd) [.ref (E.2.1 + 53), .int p1, .int p2, .int p3] (fun r M' => M' = mW E N τ 1) := by
  refine gm_met (by decide) (Nat.le_of_ble_eq_true rfl) (fun p e s m below meth c ls hx hb hml hr2 hlk hnm hown hW X hl => ?_)
  have hl : lv_has ls 4 [(0, .ref (E.2.1 + 53)), (1, .int p1), (2, .int p2), (3, .int p3)] := hl
  refine lv_aload_n hx hb d_Mdl_lay_0 rfl (lv_at hl 0 rfl) ?_
  refine lv_iload_n hx hb d_Mdl_lay_1 rfl (lv_at hl 1 rfl) ?_
  refine lv_iconst (v := 3) hx hb d_Mdl_lay_2 (by decide) ?_
  refine gm_Si hx hb hml hown hW X (r_Mdl_in_4 l E N τ cd) (n := 2) ⟨⟨wl_Mdl_164, ws_Mdl_in, winit_Mdl, wc_Mdl_in⟩, by decide +kernel, Nat.le_of_ble_eq_true rfl, Nat.le_of_ble_eq_true rfl⟩ rfl hl.1 rfl (Nat.le_of_ble_eq_true rfl) d_Mdl_lay_3 ⟨Nat.le_of_ble_eq_true rfl, Nat.le_of_ble_eq_true rfl⟩ (fun r0 M1 H locs hp X => ?_)
  rw [hp.1] at X
  have hi0 := hp.2
  refine lv_if_eq (tgt := 31) hx hb d_Mdl_lay_6 (by decide) (fun c6 => ?_) (fun c6 => ?_)
  · refine lv_iconst (v := 0) hx hb d_Mdl_lay_31 (by decide) ?_
    refine gm_Vi hx hb hml hown hW X m53 (r_Mdl_good_0 l E N τ cd) (n := 1) ⟨⟨wl_Mdl_168, wi_Mdl_good, wsel_Mdl_good, winit_Mdl, wc_Mdl_good⟩, by decide +kernel, ⟨Nat.le_of_ble_eq_true rfl, Nat.le_of_ble_eq_true rfl⟩, _, rfl, rfl⟩ rfl hl.1 rfl (Nat.le_of_ble_eq_true rfl) d_Mdl_lay_32 ⟨Nat.le_of_ble_eq_true rfl, Nat.le_of_ble_eq_true rfl⟩ (fun r9 M1 H locs hp X => ?_)
    rw [hp.1] at X
    have hr9 := hp.2
    refine lv_if_ne (tgt := 40) hx hb d_Mdl_lay_35 (by decide) (fun c9 => absurd hr9 c9) (fun _ => ?_)
    refine lv_iconst (v := 0) hx hb d_Mdl_lay_38 (by decide) ?_
    exact gm_zret hx hb hr2 hlk X rfl rfl d_Mdl_lay_39
  · have hv0 : inR p1 4 := by rcases hi0 with h | h; exact h.2; exact absurd h.1 c6
    refine lv_iload_n hx hb d_Mdl_lay_9 rfl (lv_at hl 2 rfl) ?_
    refine lv_bipush (v := 7) hx hb d_Mdl_lay_10 (by decide) ?_
    refine gm_Si hx hb hml hown hW X (r_Mdl_in_8 l E N τ cd) (n := 2) ⟨⟨wl_Mdl_164, ws_Mdl_in, winit_Mdl, wc_Mdl_in⟩, by decide +kernel, Nat.le_of_ble_eq_true rfl, Nat.le_of_ble_eq_true rfl⟩ rfl hl.1 rfl (Nat.le_of_ble_eq_true rfl) d_Mdl_lay_12 ⟨Nat.le_of_ble_eq_true rfl, Nat.le_of_ble_eq_true rfl⟩ (fun r1 M1 H locs hp X => ?_)
    rw [hp.1] at X
    have hi1 := hp.2
    refine lv_if_eq (tgt := 31) hx hb d_Mdl_lay_15 (by decide) (fun c15 => ?_) (fun c15 => ?_)
    · refine lv_iconst (v := 0) hx hb d_Mdl_lay_31 (by decide) ?_
      refine gm_Vi hx hb hml hown hW X m53 (r_Mdl_good_0 l E N τ cd) (n := 1) ⟨⟨wl_Mdl_168, wi_Mdl_good, wsel_Mdl_good, winit_Mdl, wc_Mdl_good⟩, by decide +kernel, ⟨Nat.le_of_ble_eq_true rfl, Nat.le_of_ble_eq_true rfl⟩, _, rfl, rfl⟩ rfl hl.1 rfl (Nat.le_of_ble_eq_true rfl) d_Mdl_lay_32 ⟨Nat.le_of_ble_eq_true rfl, Nat.le_of_ble_eq_true rfl⟩ (fun r9 M1 H locs hp X => ?_)
      rw [hp.1] at X
      have hr9 := hp.2
      refine lv_if_ne (tgt := 40) hx hb d_Mdl_lay_35 (by decide) (fun c9 => absurd hr9 c9) (fun _ => ?_)
      refine lv_iconst (v := 0) hx hb d_Mdl_lay_38 (by decide) ?_
      exact gm_zret hx hb hr2 hlk X rfl rfl d_Mdl_lay_39
    · have hv1 : inR p2 8 := by rcases hi1 with h | h; exact h.2; exact absurd h.1 c15
      refine lv_iload_n hx hb d_Mdl_lay_18 rfl (lv_at hl 3 rfl) ?_
      refine lv_bipush (v := 7) hx hb d_Mdl_lay_19 (by decide) ?_
      refine gm_Si hx hb hml hown hW X (r_Mdl_in_8 l E N τ cd) (n := 2) ⟨⟨wl_Mdl_164, ws_Mdl_in, winit_Mdl, wc_Mdl_in⟩, by decide +kernel, Nat.le_of_ble_eq_true rfl, Nat.le_of_ble_eq_true rfl⟩ rfl hl.1 rfl (Nat.le_of_ble_eq_true rfl) d_Mdl_lay_21 ⟨Nat.le_of_ble_eq_true rfl, Nat.le_of_ble_eq_true rfl⟩ (fun r2 M1 H locs hp X => ?_)
      rw [hp.1] at X
      have hi2 := hp.2
      refine lv_if_eq (tgt := 31) hx hb d_Mdl_lay_24 (by decide) (fun c24 => ?_) (fun c24 => ?_)
      · refine lv_iconst (v := 0) hx hb d_Mdl_lay_31 (by decide) ?_
        refine gm_Vi hx hb hml hown hW X m53 (r_Mdl_good_0 l E N τ cd) (n := 1) ⟨⟨wl_Mdl_168, wi_Mdl_good, wsel_Mdl_good, winit_Mdl, wc_Mdl_good⟩, by decide +kernel, ⟨Nat.le_of_ble_eq_true rfl, Nat.le_of_ble_eq_true rfl⟩, _, rfl, rfl⟩ rfl hl.1 rfl (Nat.le_of_ble_eq_true rfl) d_Mdl_lay_32 ⟨Nat.le_of_ble_eq_true rfl, Nat.le_of_ble_eq_true rfl⟩ (fun r9 M1 H locs hp X => ?_)
        rw [hp.1] at X
        have hr9 := hp.2
        refine lv_if_ne (tgt := 40) hx hb d_Mdl_lay_35 (by decide) (fun c9 => absurd hr9 c9) (fun _ => ?_)
        refine lv_iconst (v := 0) hx hb d_Mdl_lay_38 (by decide) ?_
        exact gm_zret hx hb hr2 hlk X rfl rfl d_Mdl_lay_39
      · have hv2 : inR p3 8 := by rcases hi2 with h | h; exact h.2; exact absurd h.1 c24
        exact absurd ⟨hv0, hv1, hv2⟩ hbad
set_option maxHeartbeats 4000000 in
theorem r_Mdl_lift_bad  (l : Launch) (E : gm_E) (N : gm_M) (τ : Nat → Nat → Int32) (cd : Int32)  {p1 p2 : Int32} {odd : Int32} (hbad : ¬ (inR p1 4 ∧ inR p2 8)) : ci_ l y_Mdl_lift b_Mdl_lift 5 (some .boolean) { frames := 4, cells := 0, slots := 0, locals := 95 } E (mW E N τ cd) [.ref (E.2.1 + 53), .int p1, .int p2, .int odd] (fun r M' => M' = mW E N τ 1) := by
  refine gm_met (by decide) (Nat.le_of_ble_eq_true rfl) (fun p e s m below meth c ls hx hb hml hr2 hlk hnm hown hW X hl => ?_)
  have hl : lv_has ls 5 [(0, .ref (E.2.1 + 53)), (1, .int p1), (2, .int p2), (3, .int odd)] := hl
  refine lv_aload_n hx hb d_Mdl_lift_0 rfl (lv_at hl 0 rfl) ?_
  refine lv_iload_n hx hb d_Mdl_lift_1 rfl (lv_at hl 1 rfl) ?_
  refine lv_iconst (v := 3) hx hb d_Mdl_lift_2 (by decide) ?_
  refine gm_Si hx hb hml hown hW X (r_Mdl_in_4 l E N τ cd) (n := 2) ⟨⟨wl_Mdl_164, ws_Mdl_in, winit_Mdl, wc_Mdl_in⟩, by decide +kernel, Nat.le_of_ble_eq_true rfl, Nat.le_of_ble_eq_true rfl⟩ rfl hl.1 rfl (Nat.le_of_ble_eq_true rfl) d_Mdl_lift_3 ⟨Nat.le_of_ble_eq_true rfl, Nat.le_of_ble_eq_true rfl⟩ (fun r0 M1 H locs hp X => ?_)
  rw [hp.1] at X
  have hi0 := hp.2
  refine lv_if_eq (tgt := 22) hx hb d_Mdl_lift_6 (by decide) (fun c6 => ?_) (fun c6 => ?_)
  · refine lv_iconst (v := 0) hx hb d_Mdl_lift_22 (by decide) ?_
    refine gm_Vi hx hb hml hown hW X m53 (r_Mdl_good_0 l E N τ cd) (n := 1) ⟨⟨wl_Mdl_168, wi_Mdl_good, wsel_Mdl_good, winit_Mdl, wc_Mdl_good⟩, by decide +kernel, ⟨Nat.le_of_ble_eq_true rfl, Nat.le_of_ble_eq_true rfl⟩, _, rfl, rfl⟩ rfl hl.1 rfl (Nat.le_of_ble_eq_true rfl) d_Mdl_lift_23 ⟨Nat.le_of_ble_eq_true rfl, Nat.le_of_ble_eq_true rfl⟩ (fun r9 M1 H locs hp X => ?_)
    rw [hp.1] at X
    have hr9 := hp.2
    refine lv_if_eq (tgt := 42) hx hb d_Mdl_lift_26 (by decide) (fun _ => ?_) (fun c9 => absurd hr9 c9)
    refine lv_iconst (v := 0) hx hb d_Mdl_lift_42 (by decide) ?_
    exact gm_zret hx hb hr2 hlk X rfl rfl d_Mdl_lift_43
  · have hv0 : inR p1 4 := by rcases hi0 with h | h; exact h.2; exact absurd h.1 c6
    refine lv_iload_n hx hb d_Mdl_lift_9 rfl (lv_at hl 2 rfl) ?_
    refine lv_bipush (v := 7) hx hb d_Mdl_lift_10 (by decide) ?_
    refine gm_Si hx hb hml hown hW X (r_Mdl_in_8 l E N τ cd) (n := 2) ⟨⟨wl_Mdl_164, ws_Mdl_in, winit_Mdl, wc_Mdl_in⟩, by decide +kernel, Nat.le_of_ble_eq_true rfl, Nat.le_of_ble_eq_true rfl⟩ rfl hl.1 rfl (Nat.le_of_ble_eq_true rfl) d_Mdl_lift_12 ⟨Nat.le_of_ble_eq_true rfl, Nat.le_of_ble_eq_true rfl⟩ (fun r1 M1 H locs hp X => ?_)
    rw [hp.1] at X
    have hi1 := hp.2
    refine lv_if_eq (tgt := 22) hx hb d_Mdl_lift_15 (by decide) (fun c15 => ?_) (fun c15 => ?_)
    · refine lv_iconst (v := 0) hx hb d_Mdl_lift_22 (by decide) ?_
      refine gm_Vi hx hb hml hown hW X m53 (r_Mdl_good_0 l E N τ cd) (n := 1) ⟨⟨wl_Mdl_168, wi_Mdl_good, wsel_Mdl_good, winit_Mdl, wc_Mdl_good⟩, by decide +kernel, ⟨Nat.le_of_ble_eq_true rfl, Nat.le_of_ble_eq_true rfl⟩, _, rfl, rfl⟩ rfl hl.1 rfl (Nat.le_of_ble_eq_true rfl) d_Mdl_lift_23 ⟨Nat.le_of_ble_eq_true rfl, Nat.le_of_ble_eq_true rfl⟩ (fun r9 M1 H locs hp X => ?_)
      rw [hp.1] at X
      have hr9 := hp.2
      refine lv_if_eq (tgt := 42) hx hb d_Mdl_lift_26 (by decide) (fun _ => ?_) (fun c9 => absurd hr9 c9)
      refine lv_iconst (v := 0) hx hb d_Mdl_lift_42 (by decide) ?_
      exact gm_zret hx hb hr2 hlk X rfl rfl d_Mdl_lift_43
    · have hv1 : inR p2 8 := by rcases hi1 with h | h; exact h.2; exact absurd h.1 c15
      exact absurd ⟨hv0, hv1⟩ hbad
set_option maxHeartbeats 4000000 in
theorem r_Mdl_show_bad  (l : Launch) (E : gm_E) (N : gm_M) (τ : Nat → Nat → Int32) (cd : Int32)  {p1 p2 p3 : Int32} (hbad : ¬ (inR p1 4 ∧ inR p2 8 ∧ inR p3 8)) : ci_ l y_Mdl_show b_Mdl_show 4 (some .boolean) { frames := 4, cells := 0, slots := 0, locals := 101 } E (mW E N τ cd) [.ref (E.2.1 + 53), .int p1, .int p2, .int p3] (fun r M' => M' = mW E N τ 1) := by
  refine gm_met (by decide) (Nat.le_of_ble_eq_true rfl) (fun p e s m below meth c ls hx hb hml hr2 hlk hnm hown hW X hl => ?_)
  have hl : lv_has ls 4 [(0, .ref (E.2.1 + 53)), (1, .int p1), (2, .int p2), (3, .int p3)] := hl
  refine lv_aload_n hx hb d_Mdl_show_0 rfl (lv_at hl 0 rfl) ?_
  refine lv_iload_n hx hb d_Mdl_show_1 rfl (lv_at hl 1 rfl) ?_
  refine lv_iconst (v := 3) hx hb d_Mdl_show_2 (by decide) ?_
  refine gm_Si hx hb hml hown hW X (r_Mdl_in_4 l E N τ cd) (n := 2) ⟨⟨wl_Mdl_164, ws_Mdl_in, winit_Mdl, wc_Mdl_in⟩, by decide +kernel, Nat.le_of_ble_eq_true rfl, Nat.le_of_ble_eq_true rfl⟩ rfl hl.1 rfl (Nat.le_of_ble_eq_true rfl) d_Mdl_show_3 ⟨Nat.le_of_ble_eq_true rfl, Nat.le_of_ble_eq_true rfl⟩ (fun r0 M1 H locs hp X => ?_)
  rw [hp.1] at X
  have hi0 := hp.2
  refine lv_if_eq (tgt := 31) hx hb d_Mdl_show_6 (by decide) (fun c6 => ?_) (fun c6 => ?_)
  · refine lv_iconst (v := 0) hx hb d_Mdl_show_31 (by decide) ?_
    refine gm_Vi hx hb hml hown hW X m53 (r_Mdl_good_0 l E N τ cd) (n := 1) ⟨⟨wl_Mdl_168, wi_Mdl_good, wsel_Mdl_good, winit_Mdl, wc_Mdl_good⟩, by decide +kernel, ⟨Nat.le_of_ble_eq_true rfl, Nat.le_of_ble_eq_true rfl⟩, _, rfl, rfl⟩ rfl hl.1 rfl (Nat.le_of_ble_eq_true rfl) d_Mdl_show_32 ⟨Nat.le_of_ble_eq_true rfl, Nat.le_of_ble_eq_true rfl⟩ (fun r9 M1 H locs hp X => ?_)
    rw [hp.1] at X
    have hr9 := hp.2
    refine lv_if_eq (tgt := 53) hx hb d_Mdl_show_35 (by decide) (fun _ => ?_) (fun c9 => absurd hr9 c9)
    refine lv_iconst (v := 0) hx hb d_Mdl_show_53 (by decide) ?_
    exact gm_zret hx hb hr2 hlk X rfl rfl d_Mdl_show_54
  · have hv0 : inR p1 4 := by rcases hi0 with h | h; exact h.2; exact absurd h.1 c6
    refine lv_iload_n hx hb d_Mdl_show_9 rfl (lv_at hl 2 rfl) ?_
    refine lv_bipush (v := 7) hx hb d_Mdl_show_10 (by decide) ?_
    refine gm_Si hx hb hml hown hW X (r_Mdl_in_8 l E N τ cd) (n := 2) ⟨⟨wl_Mdl_164, ws_Mdl_in, winit_Mdl, wc_Mdl_in⟩, by decide +kernel, Nat.le_of_ble_eq_true rfl, Nat.le_of_ble_eq_true rfl⟩ rfl hl.1 rfl (Nat.le_of_ble_eq_true rfl) d_Mdl_show_12 ⟨Nat.le_of_ble_eq_true rfl, Nat.le_of_ble_eq_true rfl⟩ (fun r1 M1 H locs hp X => ?_)
    rw [hp.1] at X
    have hi1 := hp.2
    refine lv_if_eq (tgt := 31) hx hb d_Mdl_show_15 (by decide) (fun c15 => ?_) (fun c15 => ?_)
    · refine lv_iconst (v := 0) hx hb d_Mdl_show_31 (by decide) ?_
      refine gm_Vi hx hb hml hown hW X m53 (r_Mdl_good_0 l E N τ cd) (n := 1) ⟨⟨wl_Mdl_168, wi_Mdl_good, wsel_Mdl_good, winit_Mdl, wc_Mdl_good⟩, by decide +kernel, ⟨Nat.le_of_ble_eq_true rfl, Nat.le_of_ble_eq_true rfl⟩, _, rfl, rfl⟩ rfl hl.1 rfl (Nat.le_of_ble_eq_true rfl) d_Mdl_show_32 ⟨Nat.le_of_ble_eq_true rfl, Nat.le_of_ble_eq_true rfl⟩ (fun r9 M1 H locs hp X => ?_)
      rw [hp.1] at X
      have hr9 := hp.2
      refine lv_if_eq (tgt := 53) hx hb d_Mdl_show_35 (by decide) (fun _ => ?_) (fun c9 => absurd hr9 c9)
      refine lv_iconst (v := 0) hx hb d_Mdl_show_53 (by decide) ?_
      exact gm_zret hx hb hr2 hlk X rfl rfl d_Mdl_show_54
    · have hv1 : inR p2 8 := by rcases hi1 with h | h; exact h.2; exact absurd h.1 c15
      refine lv_iload_n hx hb d_Mdl_show_18 rfl (lv_at hl 3 rfl) ?_
      refine lv_bipush (v := 7) hx hb d_Mdl_show_19 (by decide) ?_
      refine gm_Si hx hb hml hown hW X (r_Mdl_in_8 l E N τ cd) (n := 2) ⟨⟨wl_Mdl_164, ws_Mdl_in, winit_Mdl, wc_Mdl_in⟩, by decide +kernel, Nat.le_of_ble_eq_true rfl, Nat.le_of_ble_eq_true rfl⟩ rfl hl.1 rfl (Nat.le_of_ble_eq_true rfl) d_Mdl_show_21 ⟨Nat.le_of_ble_eq_true rfl, Nat.le_of_ble_eq_true rfl⟩ (fun r2 M1 H locs hp X => ?_)
      rw [hp.1] at X
      have hi2 := hp.2
      refine lv_if_eq (tgt := 31) hx hb d_Mdl_show_24 (by decide) (fun c24 => ?_) (fun c24 => ?_)
      · refine lv_iconst (v := 0) hx hb d_Mdl_show_31 (by decide) ?_
        refine gm_Vi hx hb hml hown hW X m53 (r_Mdl_good_0 l E N τ cd) (n := 1) ⟨⟨wl_Mdl_168, wi_Mdl_good, wsel_Mdl_good, winit_Mdl, wc_Mdl_good⟩, by decide +kernel, ⟨Nat.le_of_ble_eq_true rfl, Nat.le_of_ble_eq_true rfl⟩, _, rfl, rfl⟩ rfl hl.1 rfl (Nat.le_of_ble_eq_true rfl) d_Mdl_show_32 ⟨Nat.le_of_ble_eq_true rfl, Nat.le_of_ble_eq_true rfl⟩ (fun r9 M1 H locs hp X => ?_)
        rw [hp.1] at X
        have hr9 := hp.2
        refine lv_if_eq (tgt := 53) hx hb d_Mdl_show_35 (by decide) (fun _ => ?_) (fun c9 => absurd hr9 c9)
        refine lv_iconst (v := 0) hx hb d_Mdl_show_53 (by decide) ?_
        exact gm_zret hx hb hr2 hlk X rfl rfl d_Mdl_show_54
      · have hv2 : inR p3 8 := by rcases hi2 with h | h; exact h.2; exact absurd h.1 c24
        exact absurd ⟨hv0, hv1, hv2⟩ hbad
set_option maxHeartbeats 4000000 in
theorem r_Mdl_add_bad  (l : Launch) (E : gm_E) (N : gm_M) (τ : Nat → Nat → Int32) (cd : Int32)  {p1 p2 p3 : Int32} (hbad : ¬ (inR p1 4 ∧ inR p2 4 ∧ inR p3 4)) : cv_ l y_Mdl_add b_Mdl_add 4 none { frames := 4, cells := 0, slots := 0, locals := 96 } E (mW E N τ cd) [.ref (E.2.1 + 53), .int p1, .int p2, .int p3] (fun M' => M' = mW E N τ 1) := by
  refine gm_met (by decide) (Nat.le_of_ble_eq_true rfl) (fun p e s m below meth c ls hx hb hml hr2 hlk hnm hown hW X hl => ?_)
  have hl : lv_has ls 4 [(0, .ref (E.2.1 + 53)), (1, .int p1), (2, .int p2), (3, .int p3)] := hl
  refine lv_aload_n hx hb d_Mdl_add_0 rfl (lv_at hl 0 rfl) ?_
  refine lv_iload_n hx hb d_Mdl_add_1 rfl (lv_at hl 1 rfl) ?_
  refine lv_iconst (v := 3) hx hb d_Mdl_add_2 (by decide) ?_
  refine gm_Si hx hb hml hown hW X (r_Mdl_in_4 l E N τ cd) (n := 2) ⟨⟨wl_Mdl_164, ws_Mdl_in, winit_Mdl, wc_Mdl_in⟩, by decide +kernel, Nat.le_of_ble_eq_true rfl, Nat.le_of_ble_eq_true rfl⟩ rfl hl.1 rfl (Nat.le_of_ble_eq_true rfl) d_Mdl_add_3 ⟨Nat.le_of_ble_eq_true rfl, Nat.le_of_ble_eq_true rfl⟩ (fun r0 M1 H locs hp X => ?_)
  rw [hp.1] at X
  have hi0 := hp.2
  refine lv_if_eq (tgt := 29) hx hb d_Mdl_add_6 (by decide) (fun c6 => ?_) (fun c6 => ?_)
  · refine lv_iconst (v := 0) hx hb d_Mdl_add_29 (by decide) ?_
    refine gm_Vi hx hb hml hown hW X m53 (r_Mdl_good_0 l E N τ cd) (n := 1) ⟨⟨wl_Mdl_168, wi_Mdl_good, wsel_Mdl_good, winit_Mdl, wc_Mdl_good⟩, by decide +kernel, ⟨Nat.le_of_ble_eq_true rfl, Nat.le_of_ble_eq_true rfl⟩, _, rfl, rfl⟩ rfl hl.1 rfl (Nat.le_of_ble_eq_true rfl) d_Mdl_add_30 ⟨Nat.le_of_ble_eq_true rfl, Nat.le_of_ble_eq_true rfl⟩ (fun r9 M1 H locs hp X => ?_)
    rw [hp.1] at X
    have hr9 := hp.2
    refine lv_if_ne (tgt := 37) hx hb d_Mdl_add_33 (by decide) (fun c9 => absurd hr9 c9) (fun _ => ?_)
    exact gm_vret hx hb hr2 hlk X rfl d_Mdl_add_36
  · have hv0 : inR p1 4 := by rcases hi0 with h | h; exact h.2; exact absurd h.1 c6
    refine lv_iload_n hx hb d_Mdl_add_9 rfl (lv_at hl 2 rfl) ?_
    refine lv_iconst (v := 3) hx hb d_Mdl_add_10 (by decide) ?_
    refine gm_Si hx hb hml hown hW X (r_Mdl_in_4 l E N τ cd) (n := 2) ⟨⟨wl_Mdl_164, ws_Mdl_in, winit_Mdl, wc_Mdl_in⟩, by decide +kernel, Nat.le_of_ble_eq_true rfl, Nat.le_of_ble_eq_true rfl⟩ rfl hl.1 rfl (Nat.le_of_ble_eq_true rfl) d_Mdl_add_11 ⟨Nat.le_of_ble_eq_true rfl, Nat.le_of_ble_eq_true rfl⟩ (fun r1 M1 H locs hp X => ?_)
    rw [hp.1] at X
    have hi1 := hp.2
    refine lv_if_eq (tgt := 29) hx hb d_Mdl_add_14 (by decide) (fun c14 => ?_) (fun c14 => ?_)
    · refine lv_iconst (v := 0) hx hb d_Mdl_add_29 (by decide) ?_
      refine gm_Vi hx hb hml hown hW X m53 (r_Mdl_good_0 l E N τ cd) (n := 1) ⟨⟨wl_Mdl_168, wi_Mdl_good, wsel_Mdl_good, winit_Mdl, wc_Mdl_good⟩, by decide +kernel, ⟨Nat.le_of_ble_eq_true rfl, Nat.le_of_ble_eq_true rfl⟩, _, rfl, rfl⟩ rfl hl.1 rfl (Nat.le_of_ble_eq_true rfl) d_Mdl_add_30 ⟨Nat.le_of_ble_eq_true rfl, Nat.le_of_ble_eq_true rfl⟩ (fun r9 M1 H locs hp X => ?_)
      rw [hp.1] at X
      have hr9 := hp.2
      refine lv_if_ne (tgt := 37) hx hb d_Mdl_add_33 (by decide) (fun c9 => absurd hr9 c9) (fun _ => ?_)
      exact gm_vret hx hb hr2 hlk X rfl d_Mdl_add_36
    · have hv1 : inR p2 4 := by rcases hi1 with h | h; exact h.2; exact absurd h.1 c14
      refine lv_iload_n hx hb d_Mdl_add_17 rfl (lv_at hl 3 rfl) ?_
      refine lv_iconst (v := 3) hx hb d_Mdl_add_18 (by decide) ?_
      refine gm_Si hx hb hml hown hW X (r_Mdl_in_4 l E N τ cd) (n := 2) ⟨⟨wl_Mdl_164, ws_Mdl_in, winit_Mdl, wc_Mdl_in⟩, by decide +kernel, Nat.le_of_ble_eq_true rfl, Nat.le_of_ble_eq_true rfl⟩ rfl hl.1 rfl (Nat.le_of_ble_eq_true rfl) d_Mdl_add_19 ⟨Nat.le_of_ble_eq_true rfl, Nat.le_of_ble_eq_true rfl⟩ (fun r2 M1 H locs hp X => ?_)
      rw [hp.1] at X
      have hi2 := hp.2
      refine lv_if_eq (tgt := 29) hx hb d_Mdl_add_22 (by decide) (fun c22 => ?_) (fun c22 => ?_)
      · refine lv_iconst (v := 0) hx hb d_Mdl_add_29 (by decide) ?_
        refine gm_Vi hx hb hml hown hW X m53 (r_Mdl_good_0 l E N τ cd) (n := 1) ⟨⟨wl_Mdl_168, wi_Mdl_good, wsel_Mdl_good, winit_Mdl, wc_Mdl_good⟩, by decide +kernel, ⟨Nat.le_of_ble_eq_true rfl, Nat.le_of_ble_eq_true rfl⟩, _, rfl, rfl⟩ rfl hl.1 rfl (Nat.le_of_ble_eq_true rfl) d_Mdl_add_30 ⟨Nat.le_of_ble_eq_true rfl, Nat.le_of_ble_eq_true rfl⟩ (fun r9 M1 H locs hp X => ?_)
        rw [hp.1] at X
        have hr9 := hp.2
        refine lv_if_ne (tgt := 37) hx hb d_Mdl_add_33 (by decide) (fun c9 => absurd hr9 c9) (fun _ => ?_)
        exact gm_vret hx hb hr2 hlk X rfl d_Mdl_add_36
      · have hv2 : inR p3 4 := by rcases hi2 with h | h; exact h.2; exact absurd h.1 c22
        exact absurd ⟨hv0, hv1, hv2⟩ hbad
set_option maxHeartbeats 4000000 in
theorem r_Mdl_times_bad  (l : Launch) (E : gm_E) (N : gm_M) (τ : Nat → Nat → Int32) (cd : Int32)  {p1 p2 p3 : Int32} (hbad : ¬ (inR p1 4 ∧ inR p2 8 ∧ inR p3 4)) : cv_ l y_Mdl_times b_Mdl_times 4 none { frames := 5, cells := 0, slots := 0, locals := 120 } E (mW E N τ cd) [.ref (E.2.1 + 53), .int p1, .int p2, .int p3] (fun M' => M' = mW E N τ 1) := by
  refine gm_met (by decide) (Nat.le_of_ble_eq_true rfl) (fun p e s m below meth c ls hx hb hml hr2 hlk hnm hown hW X hl => ?_)
  have hl : lv_has ls 4 [(0, .ref (E.2.1 + 53)), (1, .int p1), (2, .int p2), (3, .int p3)] := hl
  refine lv_aload_n hx hb d_Mdl_times_0 rfl (lv_at hl 0 rfl) ?_
  refine lv_iload_n hx hb d_Mdl_times_1 rfl (lv_at hl 1 rfl) ?_
  refine lv_iconst (v := 3) hx hb d_Mdl_times_2 (by decide) ?_
  refine gm_Si hx hb hml hown hW X (r_Mdl_in_4 l E N τ cd) (n := 2) ⟨⟨wl_Mdl_164, ws_Mdl_in, winit_Mdl, wc_Mdl_in⟩, by decide +kernel, Nat.le_of_ble_eq_true rfl, Nat.le_of_ble_eq_true rfl⟩ rfl hl.1 rfl (Nat.le_of_ble_eq_true rfl) d_Mdl_times_3 ⟨Nat.le_of_ble_eq_true rfl, Nat.le_of_ble_eq_true rfl⟩ (fun r0 M1 H locs hp X => ?_)
  rw [hp.1] at X
  have hi0 := hp.2
  refine lv_if_eq (tgt := 30) hx hb d_Mdl_times_6 (by decide) (fun c6 => ?_) (fun c6 => ?_)
  · refine lv_iconst (v := 0) hx hb d_Mdl_times_30 (by decide) ?_
    refine gm_Vi hx hb hml hown hW X m53 (r_Mdl_good_0 l E N τ cd) (n := 1) ⟨⟨wl_Mdl_168, wi_Mdl_good, wsel_Mdl_good, winit_Mdl, wc_Mdl_good⟩, by decide +kernel, ⟨Nat.le_of_ble_eq_true rfl, Nat.le_of_ble_eq_true rfl⟩, _, rfl, rfl⟩ rfl hl.1 rfl (Nat.le_of_ble_eq_true rfl) d_Mdl_times_31 ⟨Nat.le_of_ble_eq_true rfl, Nat.le_of_ble_eq_true rfl⟩ (fun r9 M1 H locs hp X => ?_)
    rw [hp.1] at X
    have hr9 := hp.2
    refine lv_if_ne (tgt := 38) hx hb d_Mdl_times_34 (by decide) (fun c9 => absurd hr9 c9) (fun _ => ?_)
    exact gm_vret hx hb hr2 hlk X rfl d_Mdl_times_37
  · have hv0 : inR p1 4 := by rcases hi0 with h | h; exact h.2; exact absurd h.1 c6
    refine lv_iload_n hx hb d_Mdl_times_9 rfl (lv_at hl 2 rfl) ?_
    refine lv_bipush (v := 7) hx hb d_Mdl_times_10 (by decide) ?_
    refine gm_Si hx hb hml hown hW X (r_Mdl_in_8 l E N τ cd) (n := 2) ⟨⟨wl_Mdl_164, ws_Mdl_in, winit_Mdl, wc_Mdl_in⟩, by decide +kernel, Nat.le_of_ble_eq_true rfl, Nat.le_of_ble_eq_true rfl⟩ rfl hl.1 rfl (Nat.le_of_ble_eq_true rfl) d_Mdl_times_12 ⟨Nat.le_of_ble_eq_true rfl, Nat.le_of_ble_eq_true rfl⟩ (fun r1 M1 H locs hp X => ?_)
    rw [hp.1] at X
    have hi1 := hp.2
    refine lv_if_eq (tgt := 30) hx hb d_Mdl_times_15 (by decide) (fun c15 => ?_) (fun c15 => ?_)
    · refine lv_iconst (v := 0) hx hb d_Mdl_times_30 (by decide) ?_
      refine gm_Vi hx hb hml hown hW X m53 (r_Mdl_good_0 l E N τ cd) (n := 1) ⟨⟨wl_Mdl_168, wi_Mdl_good, wsel_Mdl_good, winit_Mdl, wc_Mdl_good⟩, by decide +kernel, ⟨Nat.le_of_ble_eq_true rfl, Nat.le_of_ble_eq_true rfl⟩, _, rfl, rfl⟩ rfl hl.1 rfl (Nat.le_of_ble_eq_true rfl) d_Mdl_times_31 ⟨Nat.le_of_ble_eq_true rfl, Nat.le_of_ble_eq_true rfl⟩ (fun r9 M1 H locs hp X => ?_)
      rw [hp.1] at X
      have hr9 := hp.2
      refine lv_if_ne (tgt := 38) hx hb d_Mdl_times_34 (by decide) (fun c9 => absurd hr9 c9) (fun _ => ?_)
      exact gm_vret hx hb hr2 hlk X rfl d_Mdl_times_37
    · have hv1 : inR p2 8 := by rcases hi1 with h | h; exact h.2; exact absurd h.1 c15
      refine lv_iload_n hx hb d_Mdl_times_18 rfl (lv_at hl 3 rfl) ?_
      refine lv_iconst (v := 3) hx hb d_Mdl_times_19 (by decide) ?_
      refine gm_Si hx hb hml hown hW X (r_Mdl_in_4 l E N τ cd) (n := 2) ⟨⟨wl_Mdl_164, ws_Mdl_in, winit_Mdl, wc_Mdl_in⟩, by decide +kernel, Nat.le_of_ble_eq_true rfl, Nat.le_of_ble_eq_true rfl⟩ rfl hl.1 rfl (Nat.le_of_ble_eq_true rfl) d_Mdl_times_20 ⟨Nat.le_of_ble_eq_true rfl, Nat.le_of_ble_eq_true rfl⟩ (fun r2 M1 H locs hp X => ?_)
      rw [hp.1] at X
      have hi2 := hp.2
      refine lv_if_eq (tgt := 30) hx hb d_Mdl_times_23 (by decide) (fun c23 => ?_) (fun c23 => ?_)
      · refine lv_iconst (v := 0) hx hb d_Mdl_times_30 (by decide) ?_
        refine gm_Vi hx hb hml hown hW X m53 (r_Mdl_good_0 l E N τ cd) (n := 1) ⟨⟨wl_Mdl_168, wi_Mdl_good, wsel_Mdl_good, winit_Mdl, wc_Mdl_good⟩, by decide +kernel, ⟨Nat.le_of_ble_eq_true rfl, Nat.le_of_ble_eq_true rfl⟩, _, rfl, rfl⟩ rfl hl.1 rfl (Nat.le_of_ble_eq_true rfl) d_Mdl_times_31 ⟨Nat.le_of_ble_eq_true rfl, Nat.le_of_ble_eq_true rfl⟩ (fun r9 M1 H locs hp X => ?_)
        rw [hp.1] at X
        have hr9 := hp.2
        refine lv_if_ne (tgt := 38) hx hb d_Mdl_times_34 (by decide) (fun c9 => absurd hr9 c9) (fun _ => ?_)
        exact gm_vret hx hb hr2 hlk X rfl d_Mdl_times_37
      · have hv2 : inR p3 4 := by rcases hi2 with h | h; exact h.2; exact absurd h.1 c23
        exact absurd ⟨hv0, hv1, hv2⟩ hbad
set_option maxHeartbeats 4000000 in
theorem r_Mdl_same_bad  (l : Launch) (E : gm_E) (N : gm_M) (τ : Nat → Nat → Int32) (cd : Int32)  {p1 p2 : Int32} (hbad : ¬ (inR p1 4 ∧ inR p2 4)) : ci_ l y_Mdl_same b_Mdl_same 4 (some .boolean) { frames := 4, cells := 0, slots := 0, locals := 101 } E (mW E N τ cd) [.ref (E.2.1 + 53), .int p1, .int p2] (fun r M' => M' = mW E N τ 1) := by
  refine gm_met (by decide) (Nat.le_of_ble_eq_true rfl) (fun p e s m below meth c ls hx hb hml hr2 hlk hnm hown hW X hl => ?_)
  have hl : lv_has ls 4 [(0, .ref (E.2.1 + 53)), (1, .int p1), (2, .int p2)] := hl
  refine lv_aload_n hx hb d_Mdl_same_0 rfl (lv_at hl 0 rfl) ?_
  refine lv_iload_n hx hb d_Mdl_same_1 rfl (lv_at hl 1 rfl) ?_
  refine lv_iconst (v := 3) hx hb d_Mdl_same_2 (by decide) ?_
  refine gm_Si hx hb hml hown hW X (r_Mdl_in_4 l E N τ cd) (n := 2) ⟨⟨wl_Mdl_164, ws_Mdl_in, winit_Mdl, wc_Mdl_in⟩, by decide +kernel, Nat.le_of_ble_eq_true rfl, Nat.le_of_ble_eq_true rfl⟩ rfl hl.1 rfl (Nat.le_of_ble_eq_true rfl) d_Mdl_same_3 ⟨Nat.le_of_ble_eq_true rfl, Nat.le_of_ble_eq_true rfl⟩ (fun r0 M1 H locs hp X => ?_)
  rw [hp.1] at X
  have hi0 := hp.2
  refine lv_if_eq (tgt := 21) hx hb d_Mdl_same_6 (by decide) (fun c6 => ?_) (fun c6 => ?_)
  · refine lv_iconst (v := 0) hx hb d_Mdl_same_21 (by decide) ?_
    refine gm_Vi hx hb hml hown hW X m53 (r_Mdl_good_0 l E N τ cd) (n := 1) ⟨⟨wl_Mdl_168, wi_Mdl_good, wsel_Mdl_good, winit_Mdl, wc_Mdl_good⟩, by decide +kernel, ⟨Nat.le_of_ble_eq_true rfl, Nat.le_of_ble_eq_true rfl⟩, _, rfl, rfl⟩ rfl hl.1 rfl (Nat.le_of_ble_eq_true rfl) d_Mdl_same_22 ⟨Nat.le_of_ble_eq_true rfl, Nat.le_of_ble_eq_true rfl⟩ (fun r9 M1 H locs hp X => ?_)
    rw [hp.1] at X
    have hr9 := hp.2
    refine lv_if_ne (tgt := 30) hx hb d_Mdl_same_25 (by decide) (fun c9 => absurd hr9 c9) (fun _ => ?_)
    refine lv_iconst (v := 0) hx hb d_Mdl_same_28 (by decide) ?_
    exact gm_zret hx hb hr2 hlk X rfl rfl d_Mdl_same_29
  · have hv0 : inR p1 4 := by rcases hi0 with h | h; exact h.2; exact absurd h.1 c6
    refine lv_iload_n hx hb d_Mdl_same_9 rfl (lv_at hl 2 rfl) ?_
    refine lv_iconst (v := 3) hx hb d_Mdl_same_10 (by decide) ?_
    refine gm_Si hx hb hml hown hW X (r_Mdl_in_4 l E N τ cd) (n := 2) ⟨⟨wl_Mdl_164, ws_Mdl_in, winit_Mdl, wc_Mdl_in⟩, by decide +kernel, Nat.le_of_ble_eq_true rfl, Nat.le_of_ble_eq_true rfl⟩ rfl hl.1 rfl (Nat.le_of_ble_eq_true rfl) d_Mdl_same_11 ⟨Nat.le_of_ble_eq_true rfl, Nat.le_of_ble_eq_true rfl⟩ (fun r1 M1 H locs hp X => ?_)
    rw [hp.1] at X
    have hi1 := hp.2
    refine lv_if_eq (tgt := 21) hx hb d_Mdl_same_14 (by decide) (fun c14 => ?_) (fun c14 => ?_)
    · refine lv_iconst (v := 0) hx hb d_Mdl_same_21 (by decide) ?_
      refine gm_Vi hx hb hml hown hW X m53 (r_Mdl_good_0 l E N τ cd) (n := 1) ⟨⟨wl_Mdl_168, wi_Mdl_good, wsel_Mdl_good, winit_Mdl, wc_Mdl_good⟩, by decide +kernel, ⟨Nat.le_of_ble_eq_true rfl, Nat.le_of_ble_eq_true rfl⟩, _, rfl, rfl⟩ rfl hl.1 rfl (Nat.le_of_ble_eq_true rfl) d_Mdl_same_22 ⟨Nat.le_of_ble_eq_true rfl, Nat.le_of_ble_eq_true rfl⟩ (fun r9 M1 H locs hp X => ?_)
      rw [hp.1] at X
      have hr9 := hp.2
      refine lv_if_ne (tgt := 30) hx hb d_Mdl_same_25 (by decide) (fun c9 => absurd hr9 c9) (fun _ => ?_)
      refine lv_iconst (v := 0) hx hb d_Mdl_same_28 (by decide) ?_
      exact gm_zret hx hb hr2 hlk X rfl rfl d_Mdl_same_29
    · have hv1 : inR p2 4 := by rcases hi1 with h | h; exact h.2; exact absurd h.1 c14
      exact absurd ⟨hv0, hv1⟩ hbad
set_option maxHeartbeats 4000000 in
theorem r_Mdl_sign_bad  (l : Launch) (E : gm_E) (N : gm_M) (τ : Nat → Nat → Int32) (cd : Int32)  {p1 p2 p3 p4 p5 : Int32} (hbad : ¬ (inR p1 8 ∧ inR p2 8 ∧ inR p3 8 ∧ inR p4 8 ∧ inR p5 8)) : ci_ l y_Mdl_sign b_Mdl_sign 6 (some .boolean) { frames := 5, cells := 0, slots := 0, locals := 120 } E (mW E N τ cd) [.ref (E.2.1 + 53), .int p1, .int p2, .int p3, .int p4, .int p5] (fun r M' => M' = mW E N τ 1) := by
  refine gm_met (by decide) (Nat.le_of_ble_eq_true rfl) (fun p e s m below meth c ls hx hb hml hr2 hlk hnm hown hW X hl => ?_)
  have hl : lv_has ls 6 [(0, .ref (E.2.1 + 53)), (1, .int p1), (2, .int p2), (3, .int p3), (4, .int p4), (5, .int p5)] := hl
  refine lv_aload_n hx hb d_Mdl_sign_0 rfl (lv_at hl 0 rfl) ?_
  refine lv_iload_n hx hb d_Mdl_sign_1 rfl (lv_at hl 1 rfl) ?_
  refine lv_bipush (v := 7) hx hb d_Mdl_sign_2 (by decide) ?_
  refine gm_Si hx hb hml hown hW X (r_Mdl_in_8 l E N τ cd) (n := 2) ⟨⟨wl_Mdl_164, ws_Mdl_in, winit_Mdl, wc_Mdl_in⟩, by decide +kernel, Nat.le_of_ble_eq_true rfl, Nat.le_of_ble_eq_true rfl⟩ rfl hl.1 rfl (Nat.le_of_ble_eq_true rfl) d_Mdl_sign_4 ⟨Nat.le_of_ble_eq_true rfl, Nat.le_of_ble_eq_true rfl⟩ (fun r0 M1 H locs hp X => ?_)
  rw [hp.1] at X
  have hi0 := hp.2
  refine lv_if_eq (tgt := 52) hx hb d_Mdl_sign_7 (by decide) (fun c7 => ?_) (fun c7 => ?_)
  · refine lv_iconst (v := 0) hx hb d_Mdl_sign_52 (by decide) ?_
    refine gm_Vi hx hb hml hown hW X m53 (r_Mdl_good_0 l E N τ cd) (n := 1) ⟨⟨wl_Mdl_168, wi_Mdl_good, wsel_Mdl_good, winit_Mdl, wc_Mdl_good⟩, by decide +kernel, ⟨Nat.le_of_ble_eq_true rfl, Nat.le_of_ble_eq_true rfl⟩, _, rfl, rfl⟩ rfl hl.1 rfl (Nat.le_of_ble_eq_true rfl) d_Mdl_sign_53 ⟨Nat.le_of_ble_eq_true rfl, Nat.le_of_ble_eq_true rfl⟩ (fun r9 M1 H locs hp X => ?_)
    rw [hp.1] at X
    have hr9 := hp.2
    refine lv_if_ne (tgt := 61) hx hb d_Mdl_sign_56 (by decide) (fun c9 => absurd hr9 c9) (fun _ => ?_)
    refine lv_iconst (v := 0) hx hb d_Mdl_sign_59 (by decide) ?_
    exact gm_zret hx hb hr2 hlk X rfl rfl d_Mdl_sign_60
  · have hv0 : inR p1 8 := by rcases hi0 with h | h; exact h.2; exact absurd h.1 c7
    refine lv_iload_n hx hb d_Mdl_sign_10 rfl (lv_at hl 2 rfl) ?_
    refine lv_bipush (v := 7) hx hb d_Mdl_sign_11 (by decide) ?_
    refine gm_Si hx hb hml hown hW X (r_Mdl_in_8 l E N τ cd) (n := 2) ⟨⟨wl_Mdl_164, ws_Mdl_in, winit_Mdl, wc_Mdl_in⟩, by decide +kernel, Nat.le_of_ble_eq_true rfl, Nat.le_of_ble_eq_true rfl⟩ rfl hl.1 rfl (Nat.le_of_ble_eq_true rfl) d_Mdl_sign_13 ⟨Nat.le_of_ble_eq_true rfl, Nat.le_of_ble_eq_true rfl⟩ (fun r1 M1 H locs hp X => ?_)
    rw [hp.1] at X
    have hi1 := hp.2
    refine lv_if_eq (tgt := 52) hx hb d_Mdl_sign_16 (by decide) (fun c16 => ?_) (fun c16 => ?_)
    · refine lv_iconst (v := 0) hx hb d_Mdl_sign_52 (by decide) ?_
      refine gm_Vi hx hb hml hown hW X m53 (r_Mdl_good_0 l E N τ cd) (n := 1) ⟨⟨wl_Mdl_168, wi_Mdl_good, wsel_Mdl_good, winit_Mdl, wc_Mdl_good⟩, by decide +kernel, ⟨Nat.le_of_ble_eq_true rfl, Nat.le_of_ble_eq_true rfl⟩, _, rfl, rfl⟩ rfl hl.1 rfl (Nat.le_of_ble_eq_true rfl) d_Mdl_sign_53 ⟨Nat.le_of_ble_eq_true rfl, Nat.le_of_ble_eq_true rfl⟩ (fun r9 M1 H locs hp X => ?_)
      rw [hp.1] at X
      have hr9 := hp.2
      refine lv_if_ne (tgt := 61) hx hb d_Mdl_sign_56 (by decide) (fun c9 => absurd hr9 c9) (fun _ => ?_)
      refine lv_iconst (v := 0) hx hb d_Mdl_sign_59 (by decide) ?_
      exact gm_zret hx hb hr2 hlk X rfl rfl d_Mdl_sign_60
    · have hv1 : inR p2 8 := by rcases hi1 with h | h; exact h.2; exact absurd h.1 c16
      refine lv_iload_n hx hb d_Mdl_sign_19 rfl (lv_at hl 3 rfl) ?_
      refine lv_bipush (v := 7) hx hb d_Mdl_sign_20 (by decide) ?_
      refine gm_Si hx hb hml hown hW X (r_Mdl_in_8 l E N τ cd) (n := 2) ⟨⟨wl_Mdl_164, ws_Mdl_in, winit_Mdl, wc_Mdl_in⟩, by decide +kernel, Nat.le_of_ble_eq_true rfl, Nat.le_of_ble_eq_true rfl⟩ rfl hl.1 rfl (Nat.le_of_ble_eq_true rfl) d_Mdl_sign_22 ⟨Nat.le_of_ble_eq_true rfl, Nat.le_of_ble_eq_true rfl⟩ (fun r2 M1 H locs hp X => ?_)
      rw [hp.1] at X
      have hi2 := hp.2
      refine lv_if_eq (tgt := 52) hx hb d_Mdl_sign_25 (by decide) (fun c25 => ?_) (fun c25 => ?_)
      · refine lv_iconst (v := 0) hx hb d_Mdl_sign_52 (by decide) ?_
        refine gm_Vi hx hb hml hown hW X m53 (r_Mdl_good_0 l E N τ cd) (n := 1) ⟨⟨wl_Mdl_168, wi_Mdl_good, wsel_Mdl_good, winit_Mdl, wc_Mdl_good⟩, by decide +kernel, ⟨Nat.le_of_ble_eq_true rfl, Nat.le_of_ble_eq_true rfl⟩, _, rfl, rfl⟩ rfl hl.1 rfl (Nat.le_of_ble_eq_true rfl) d_Mdl_sign_53 ⟨Nat.le_of_ble_eq_true rfl, Nat.le_of_ble_eq_true rfl⟩ (fun r9 M1 H locs hp X => ?_)
        rw [hp.1] at X
        have hr9 := hp.2
        refine lv_if_ne (tgt := 61) hx hb d_Mdl_sign_56 (by decide) (fun c9 => absurd hr9 c9) (fun _ => ?_)
        refine lv_iconst (v := 0) hx hb d_Mdl_sign_59 (by decide) ?_
        exact gm_zret hx hb hr2 hlk X rfl rfl d_Mdl_sign_60
      · have hv2 : inR p3 8 := by rcases hi2 with h | h; exact h.2; exact absurd h.1 c25
        refine lv_iload hx hb d_Mdl_sign_28 (lv_at hl 4 rfl) ?_
        refine lv_bipush (v := 7) hx hb d_Mdl_sign_30 (by decide) ?_
        refine gm_Si hx hb hml hown hW X (r_Mdl_in_8 l E N τ cd) (n := 2) ⟨⟨wl_Mdl_164, ws_Mdl_in, winit_Mdl, wc_Mdl_in⟩, by decide +kernel, Nat.le_of_ble_eq_true rfl, Nat.le_of_ble_eq_true rfl⟩ rfl hl.1 rfl (Nat.le_of_ble_eq_true rfl) d_Mdl_sign_32 ⟨Nat.le_of_ble_eq_true rfl, Nat.le_of_ble_eq_true rfl⟩ (fun r3 M1 H locs hp X => ?_)
        rw [hp.1] at X
        have hi3 := hp.2
        refine lv_if_eq (tgt := 52) hx hb d_Mdl_sign_35 (by decide) (fun c35 => ?_) (fun c35 => ?_)
        · refine lv_iconst (v := 0) hx hb d_Mdl_sign_52 (by decide) ?_
          refine gm_Vi hx hb hml hown hW X m53 (r_Mdl_good_0 l E N τ cd) (n := 1) ⟨⟨wl_Mdl_168, wi_Mdl_good, wsel_Mdl_good, winit_Mdl, wc_Mdl_good⟩, by decide +kernel, ⟨Nat.le_of_ble_eq_true rfl, Nat.le_of_ble_eq_true rfl⟩, _, rfl, rfl⟩ rfl hl.1 rfl (Nat.le_of_ble_eq_true rfl) d_Mdl_sign_53 ⟨Nat.le_of_ble_eq_true rfl, Nat.le_of_ble_eq_true rfl⟩ (fun r9 M1 H locs hp X => ?_)
          rw [hp.1] at X
          have hr9 := hp.2
          refine lv_if_ne (tgt := 61) hx hb d_Mdl_sign_56 (by decide) (fun c9 => absurd hr9 c9) (fun _ => ?_)
          refine lv_iconst (v := 0) hx hb d_Mdl_sign_59 (by decide) ?_
          exact gm_zret hx hb hr2 hlk X rfl rfl d_Mdl_sign_60
        · have hv3 : inR p4 8 := by rcases hi3 with h | h; exact h.2; exact absurd h.1 c35
          refine lv_iload hx hb d_Mdl_sign_38 (lv_at hl 5 rfl) ?_
          refine lv_bipush (v := 7) hx hb d_Mdl_sign_40 (by decide) ?_
          refine gm_Si hx hb hml hown hW X (r_Mdl_in_8 l E N τ cd) (n := 2) ⟨⟨wl_Mdl_164, ws_Mdl_in, winit_Mdl, wc_Mdl_in⟩, by decide +kernel, Nat.le_of_ble_eq_true rfl, Nat.le_of_ble_eq_true rfl⟩ rfl hl.1 rfl (Nat.le_of_ble_eq_true rfl) d_Mdl_sign_42 ⟨Nat.le_of_ble_eq_true rfl, Nat.le_of_ble_eq_true rfl⟩ (fun r4 M1 H locs hp X => ?_)
          rw [hp.1] at X
          have hi4 := hp.2
          refine lv_if_eq (tgt := 52) hx hb d_Mdl_sign_45 (by decide) (fun c45 => ?_) (fun c45 => ?_)
          · refine lv_iconst (v := 0) hx hb d_Mdl_sign_52 (by decide) ?_
            refine gm_Vi hx hb hml hown hW X m53 (r_Mdl_good_0 l E N τ cd) (n := 1) ⟨⟨wl_Mdl_168, wi_Mdl_good, wsel_Mdl_good, winit_Mdl, wc_Mdl_good⟩, by decide +kernel, ⟨Nat.le_of_ble_eq_true rfl, Nat.le_of_ble_eq_true rfl⟩, _, rfl, rfl⟩ rfl hl.1 rfl (Nat.le_of_ble_eq_true rfl) d_Mdl_sign_53 ⟨Nat.le_of_ble_eq_true rfl, Nat.le_of_ble_eq_true rfl⟩ (fun r9 M1 H locs hp X => ?_)
            rw [hp.1] at X
            have hr9 := hp.2
            refine lv_if_ne (tgt := 61) hx hb d_Mdl_sign_56 (by decide) (fun c9 => absurd hr9 c9) (fun _ => ?_)
            refine lv_iconst (v := 0) hx hb d_Mdl_sign_59 (by decide) ?_
            exact gm_zret hx hb hr2 hlk X rfl rfl d_Mdl_sign_60
          · have hv4 : inR p5 8 := by rcases hi4 with h | h; exact h.2; exact absurd h.1 c45
            exact absurd ⟨hv0, hv1, hv2, hv3, hv4⟩ hbad
set_option maxHeartbeats 4000000 in
theorem r_Mdl_verify_bad  (l : Launch) (E : gm_E) (N : gm_M) (τ : Nat → Nat → Int32) (cd : Int32)  {p1 p2 p3 p4 : Int32} (hbad : ¬ (inR p1 4 ∧ inR p2 8 ∧ inR p3 8 ∧ inR p4 8)) : ci_ l y_Mdl_verify b_Mdl_verify 5 (some .boolean) { frames := 5, cells := 0, slots := 0, locals := 120 } E (mW E N τ cd) [.ref (E.2.1 + 53), .int p1, .int p2, .int p3, .int p4] (fun r M' => M' = mW E N τ 1) := by
  refine gm_met (by decide) (Nat.le_of_ble_eq_true rfl) (fun p e s m below meth c ls hx hb hml hr2 hlk hnm hown hW X hl => ?_)
  have hl : lv_has ls 5 [(0, .ref (E.2.1 + 53)), (1, .int p1), (2, .int p2), (3, .int p3), (4, .int p4)] := hl
  refine lv_aload_n hx hb d_Mdl_verify_0 rfl (lv_at hl 0 rfl) ?_
  refine lv_iload_n hx hb d_Mdl_verify_1 rfl (lv_at hl 1 rfl) ?_
  refine lv_iconst (v := 3) hx hb d_Mdl_verify_2 (by decide) ?_
  refine gm_Si hx hb hml hown hW X (r_Mdl_in_4 l E N τ cd) (n := 2) ⟨⟨wl_Mdl_164, ws_Mdl_in, winit_Mdl, wc_Mdl_in⟩, by decide +kernel, Nat.le_of_ble_eq_true rfl, Nat.le_of_ble_eq_true rfl⟩ rfl hl.1 rfl (Nat.le_of_ble_eq_true rfl) d_Mdl_verify_3 ⟨Nat.le_of_ble_eq_true rfl, Nat.le_of_ble_eq_true rfl⟩ (fun r0 M1 H locs hp X => ?_)
  rw [hp.1] at X
  have hi0 := hp.2
  refine lv_if_eq (tgt := 41) hx hb d_Mdl_verify_6 (by decide) (fun c6 => ?_) (fun c6 => ?_)
  · refine lv_iconst (v := 0) hx hb d_Mdl_verify_41 (by decide) ?_
    refine gm_Vi hx hb hml hown hW X m53 (r_Mdl_good_0 l E N τ cd) (n := 1) ⟨⟨wl_Mdl_168, wi_Mdl_good, wsel_Mdl_good, winit_Mdl, wc_Mdl_good⟩, by decide +kernel, ⟨Nat.le_of_ble_eq_true rfl, Nat.le_of_ble_eq_true rfl⟩, _, rfl, rfl⟩ rfl hl.1 rfl (Nat.le_of_ble_eq_true rfl) d_Mdl_verify_42 ⟨Nat.le_of_ble_eq_true rfl, Nat.le_of_ble_eq_true rfl⟩ (fun r9 M1 H locs hp X => ?_)
    rw [hp.1] at X
    have hr9 := hp.2
    refine lv_if_ne (tgt := 50) hx hb d_Mdl_verify_45 (by decide) (fun c9 => absurd hr9 c9) (fun _ => ?_)
    refine lv_iconst (v := 0) hx hb d_Mdl_verify_48 (by decide) ?_
    exact gm_zret hx hb hr2 hlk X rfl rfl d_Mdl_verify_49
  · have hv0 : inR p1 4 := by rcases hi0 with h | h; exact h.2; exact absurd h.1 c6
    refine lv_iload_n hx hb d_Mdl_verify_9 rfl (lv_at hl 2 rfl) ?_
    refine lv_bipush (v := 7) hx hb d_Mdl_verify_10 (by decide) ?_
    refine gm_Si hx hb hml hown hW X (r_Mdl_in_8 l E N τ cd) (n := 2) ⟨⟨wl_Mdl_164, ws_Mdl_in, winit_Mdl, wc_Mdl_in⟩, by decide +kernel, Nat.le_of_ble_eq_true rfl, Nat.le_of_ble_eq_true rfl⟩ rfl hl.1 rfl (Nat.le_of_ble_eq_true rfl) d_Mdl_verify_12 ⟨Nat.le_of_ble_eq_true rfl, Nat.le_of_ble_eq_true rfl⟩ (fun r1 M1 H locs hp X => ?_)
    rw [hp.1] at X
    have hi1 := hp.2
    refine lv_if_eq (tgt := 41) hx hb d_Mdl_verify_15 (by decide) (fun c15 => ?_) (fun c15 => ?_)
    · refine lv_iconst (v := 0) hx hb d_Mdl_verify_41 (by decide) ?_
      refine gm_Vi hx hb hml hown hW X m53 (r_Mdl_good_0 l E N τ cd) (n := 1) ⟨⟨wl_Mdl_168, wi_Mdl_good, wsel_Mdl_good, winit_Mdl, wc_Mdl_good⟩, by decide +kernel, ⟨Nat.le_of_ble_eq_true rfl, Nat.le_of_ble_eq_true rfl⟩, _, rfl, rfl⟩ rfl hl.1 rfl (Nat.le_of_ble_eq_true rfl) d_Mdl_verify_42 ⟨Nat.le_of_ble_eq_true rfl, Nat.le_of_ble_eq_true rfl⟩ (fun r9 M1 H locs hp X => ?_)
      rw [hp.1] at X
      have hr9 := hp.2
      refine lv_if_ne (tgt := 50) hx hb d_Mdl_verify_45 (by decide) (fun c9 => absurd hr9 c9) (fun _ => ?_)
      refine lv_iconst (v := 0) hx hb d_Mdl_verify_48 (by decide) ?_
      exact gm_zret hx hb hr2 hlk X rfl rfl d_Mdl_verify_49
    · have hv1 : inR p2 8 := by rcases hi1 with h | h; exact h.2; exact absurd h.1 c15
      refine lv_iload_n hx hb d_Mdl_verify_18 rfl (lv_at hl 3 rfl) ?_
      refine lv_bipush (v := 7) hx hb d_Mdl_verify_19 (by decide) ?_
      refine gm_Si hx hb hml hown hW X (r_Mdl_in_8 l E N τ cd) (n := 2) ⟨⟨wl_Mdl_164, ws_Mdl_in, winit_Mdl, wc_Mdl_in⟩, by decide +kernel, Nat.le_of_ble_eq_true rfl, Nat.le_of_ble_eq_true rfl⟩ rfl hl.1 rfl (Nat.le_of_ble_eq_true rfl) d_Mdl_verify_21 ⟨Nat.le_of_ble_eq_true rfl, Nat.le_of_ble_eq_true rfl⟩ (fun r2 M1 H locs hp X => ?_)
      rw [hp.1] at X
      have hi2 := hp.2
      refine lv_if_eq (tgt := 41) hx hb d_Mdl_verify_24 (by decide) (fun c24 => ?_) (fun c24 => ?_)
      · refine lv_iconst (v := 0) hx hb d_Mdl_verify_41 (by decide) ?_
        refine gm_Vi hx hb hml hown hW X m53 (r_Mdl_good_0 l E N τ cd) (n := 1) ⟨⟨wl_Mdl_168, wi_Mdl_good, wsel_Mdl_good, winit_Mdl, wc_Mdl_good⟩, by decide +kernel, ⟨Nat.le_of_ble_eq_true rfl, Nat.le_of_ble_eq_true rfl⟩, _, rfl, rfl⟩ rfl hl.1 rfl (Nat.le_of_ble_eq_true rfl) d_Mdl_verify_42 ⟨Nat.le_of_ble_eq_true rfl, Nat.le_of_ble_eq_true rfl⟩ (fun r9 M1 H locs hp X => ?_)
        rw [hp.1] at X
        have hr9 := hp.2
        refine lv_if_ne (tgt := 50) hx hb d_Mdl_verify_45 (by decide) (fun c9 => absurd hr9 c9) (fun _ => ?_)
        refine lv_iconst (v := 0) hx hb d_Mdl_verify_48 (by decide) ?_
        exact gm_zret hx hb hr2 hlk X rfl rfl d_Mdl_verify_49
      · have hv2 : inR p3 8 := by rcases hi2 with h | h; exact h.2; exact absurd h.1 c24
        refine lv_iload hx hb d_Mdl_verify_27 (lv_at hl 4 rfl) ?_
        refine lv_bipush (v := 7) hx hb d_Mdl_verify_29 (by decide) ?_
        refine gm_Si hx hb hml hown hW X (r_Mdl_in_8 l E N τ cd) (n := 2) ⟨⟨wl_Mdl_164, ws_Mdl_in, winit_Mdl, wc_Mdl_in⟩, by decide +kernel, Nat.le_of_ble_eq_true rfl, Nat.le_of_ble_eq_true rfl⟩ rfl hl.1 rfl (Nat.le_of_ble_eq_true rfl) d_Mdl_verify_31 ⟨Nat.le_of_ble_eq_true rfl, Nat.le_of_ble_eq_true rfl⟩ (fun r3 M1 H locs hp X => ?_)
        rw [hp.1] at X
        have hi3 := hp.2
        refine lv_if_eq (tgt := 41) hx hb d_Mdl_verify_34 (by decide) (fun c34 => ?_) (fun c34 => ?_)
        · refine lv_iconst (v := 0) hx hb d_Mdl_verify_41 (by decide) ?_
          refine gm_Vi hx hb hml hown hW X m53 (r_Mdl_good_0 l E N τ cd) (n := 1) ⟨⟨wl_Mdl_168, wi_Mdl_good, wsel_Mdl_good, winit_Mdl, wc_Mdl_good⟩, by decide +kernel, ⟨Nat.le_of_ble_eq_true rfl, Nat.le_of_ble_eq_true rfl⟩, _, rfl, rfl⟩ rfl hl.1 rfl (Nat.le_of_ble_eq_true rfl) d_Mdl_verify_42 ⟨Nat.le_of_ble_eq_true rfl, Nat.le_of_ble_eq_true rfl⟩ (fun r9 M1 H locs hp X => ?_)
          rw [hp.1] at X
          have hr9 := hp.2
          refine lv_if_ne (tgt := 50) hx hb d_Mdl_verify_45 (by decide) (fun c9 => absurd hr9 c9) (fun _ => ?_)
          refine lv_iconst (v := 0) hx hb d_Mdl_verify_48 (by decide) ?_
          exact gm_zret hx hb hr2 hlk X rfl rfl d_Mdl_verify_49
        · have hv3 : inR p4 8 := by rcases hi3 with h | h; exact h.2; exact absurd h.1 c34
          exact absurd ⟨hv0, hv1, hv2, hv3⟩ hbad
set_option maxHeartbeats 4000000 in
theorem r_Mdl_set_ok  (l : Launch) (E : gm_E) (N : gm_M) (τ : Nat → Nat → Int32) (cd : Int32)  {r : Nat} (h_r : r < 8) {q : Nat} (h_q : q < 4) {v : Int64}  : cv_ l y_Mdl_set b_Mdl_set 5 none { frames := 1, cells := 0, slots := 0, locals := 21 } E (mW E N τ cd) [.ref (E.2.1 + 53), .int (nI r), .int (nI q), .long v] (fun M' => ∃ τ', M' = mW E N τ' 0 ∧ τ' (80 + r) = upd (upd (τ (80 + r)) (2 * q) v.toInt32) (2 * q + 1) (v.toUInt64 >>> ((32 : Int32).toInt64.toUInt64 &&& Int64.toUInt64 63)).toInt64.toInt32 ∧ kt (80 + r) τ τ') := by
  refine gm_met (by decide) (Nat.le_of_ble_eq_true rfl) (fun p e s m below meth c ls hx hb hml hr2 hlk hnm hown hW X hl => ?_)
  have hl : lv_has ls 5 [(0, .ref (E.2.1 + 53)), (1, .int (nI r)), (2, .int (nI q)), (3, .long v)] := hl
  refine lv_aload_n hx hb d_Mdl_set_0 rfl (lv_at hl 0 rfl) ?_
  refine lv_iload_n hx hb d_Mdl_set_1 rfl (lv_at hl 1 rfl) ?_
  refine lv_bipush (v := 7) hx hb d_Mdl_set_2 (by decide) ?_
  refine gm_Si hx hb hml hown hW X (r_Mdl_in_8 l E N τ cd) (n := 2) ⟨⟨wl_Mdl_164, ws_Mdl_in, winit_Mdl, wc_Mdl_in⟩, by decide +kernel, Nat.le_of_ble_eq_true rfl, Nat.le_of_ble_eq_true rfl⟩ rfl hl.1 rfl (Nat.le_of_ble_eq_true rfl) d_Mdl_set_4 ⟨Nat.le_of_ble_eq_true rfl, Nat.le_of_ble_eq_true rfl⟩ (fun r0 M1 H locs hp X => ?_)
  rw [hp.1] at X
  have hz0 : r0 = 1 := by rcases hp.2 with h | h; exact h.1; exact absurd ⟨r, h_r, rfl⟩ h.2
  refine lv_if_eq (tgt := 22) hx hb d_Mdl_set_7 (by decide) (fun c9 => absurd (hz0.symm.trans c9) (by decide)) (fun _ => ?_)
  refine lv_iload_n hx hb d_Mdl_set_10 rfl (lv_at hl 2 rfl) ?_
  refine lv_iconst (v := 3) hx hb d_Mdl_set_11 (by decide) ?_
  refine gm_Si hx hb hml hown hW X (r_Mdl_in_4 l E N τ cd) (n := 2) ⟨⟨wl_Mdl_164, ws_Mdl_in, winit_Mdl, wc_Mdl_in⟩, by decide +kernel, Nat.le_of_ble_eq_true rfl, Nat.le_of_ble_eq_true rfl⟩ rfl hl.1 rfl (Nat.le_of_ble_eq_true rfl) d_Mdl_set_12 ⟨Nat.le_of_ble_eq_true rfl, Nat.le_of_ble_eq_true rfl⟩ (fun r1 M1 H locs hp X => ?_)
  rw [hp.1] at X
  have hz1 : r1 = 1 := by rcases hp.2 with h | h; exact h.1; exact absurd ⟨q, h_q, rfl⟩ h.2
  refine lv_if_eq (tgt := 22) hx hb d_Mdl_set_15 (by decide) (fun c9 => absurd (hz1.symm.trans c9) (by decide)) (fun _ => ?_)
  refine lv_iconst (v := 1) hx hb d_Mdl_set_18 (by decide) ?_
  refine lv_goto (tgt := 23) hx hb d_Mdl_set_19 (by decide) ?_
  refine gm_Vi hx hb hml hown hW X m53 (r_Mdl_good_1 l E N τ cd) (n := 1) ⟨⟨wl_Mdl_168, wi_Mdl_good, wsel_Mdl_good, winit_Mdl, wc_Mdl_good⟩, by decide +kernel, ⟨Nat.le_of_ble_eq_true rfl, Nat.le_of_ble_eq_true rfl⟩, _, rfl, rfl⟩ rfl hl.1 rfl (Nat.le_of_ble_eq_true rfl) d_Mdl_set_23 ⟨Nat.le_of_ble_eq_true rfl, Nat.le_of_ble_eq_true rfl⟩ (fun r9 M1 H locs hp X => ?_)
  rw [hp.1] at X
  have hr9 := hp.2
  refine lv_if_ne (tgt := 30) hx hb d_Mdl_set_26 (by decide) (fun _ => ?_) (fun c9 => absurd (hr9.symm.trans c9) (by decide))
  refine lv_aload_n hx hb d_Mdl_set_30 rfl (lv_at hl 0 rfl) ?_
  refine gm_get hx hb hW hown X u_Mdl m53 rfl 15 (by decide) wf_Mdl_103 (v := .ref (E.2.1 + 79)) rfl d_Mdl_set_31 ?_
  refine lv_iload_n hx hb d_Mdl_set_34 rfl (lv_at hl 1 rfl) ?_
  refine gm_aald2 hx hb X (k := r) (t := E.2.1 + (80 + r)) m79 rfl rfl ⟨h_r, by decide⟩ (if_pos h_r) d_Mdl_set_35 ?_
  refine lv_iconst (v := 2) hx hb d_Mdl_set_36 (by decide) ?_
  refine lv_iload_n hx hb d_Mdl_set_37 rfl (lv_at hl 2 rfl) ?_
  refine lv_imul hx hb d_Mdl_set_38 ?_
  rw [nI_2 h_q]
  refine lv_lload_n hx hb d_Mdl_set_39 rfl (lv_at hl 3 rfl) ?_
  refine lv_l2i hx hb d_Mdl_set_40 rfl ?_
  refine gm_iast hx hb X (k := 2 * q) (mw_row (q8_n h_r)) (cw_ge _) rfl ⟨by omega, by decide⟩ d_Mdl_set_41 (fun H locs X => ?_)
  rw [mw_upr _ (q8_n h_r)] at X
  refine lv_aload_n hx hb d_Mdl_set_42 rfl (lv_at hl 0 rfl) ?_
  refine gm_get hx hb hW hown X u_Mdl m53 rfl 15 (by decide) wf_Mdl_103 (v := .ref (E.2.1 + 79)) rfl d_Mdl_set_43 ?_
  refine lv_iload_n hx hb d_Mdl_set_46 rfl (lv_at hl 1 rfl) ?_
  refine gm_aald2 hx hb X (k := r) (t := E.2.1 + (80 + r)) m79 rfl rfl ⟨h_r, by decide⟩ (if_pos h_r) d_Mdl_set_47 ?_
  refine lv_iconst (v := 2) hx hb d_Mdl_set_48 (by decide) ?_
  refine lv_iload_n hx hb d_Mdl_set_49 rfl (lv_at hl 2 rfl) ?_
  refine lv_imul hx hb d_Mdl_set_50 ?_
  rw [nI_2 h_q]
  refine lv_iconst (v := 1) hx hb d_Mdl_set_51 (by decide) ?_
  refine lv_iadd hx hb d_Mdl_set_52 ?_
  rw [nI_s]
  refine lv_lload_n hx hb d_Mdl_set_53 rfl (lv_at hl 3 rfl) ?_
  refine lv_bipush (v := 32) hx hb d_Mdl_set_54 (by decide) ?_
  refine lv_lushr hx hb d_Mdl_set_56 rfl ?_
  refine lv_l2i hx hb d_Mdl_set_57 rfl ?_
  refine gm_iast hx hb X (k := 2 * q + 1) (mw_row (q8_n h_r)) (cw_ge _) rfl ⟨by omega, by decide⟩ d_Mdl_set_58 (fun H locs X => ?_)
  rw [mw_upr _ (q8_n h_r), vu_s] at X
  exact gm_vret hx hb hr2 hlk X ⟨_, rfl, by rw [vu_s], fun j hj => by rw [vu_n hj, vu_n hj]⟩ d_Mdl_set_59
set_option maxHeartbeats 4000000 in
theorem r_Mdl_get_ok  (l : Launch) (E : gm_E) (N : gm_M) (τ : Nat → Nat → Int32) (cd : Int32)  {a : Nat} (h_a : a < 8) {q : Nat} (h_q : q < 4)  : cl_ l y_Mdl_get b_Mdl_get 3 (some .long) { frames := 1, cells := 0, slots := 0, locals := 21 } E (mW E N τ cd) [.ref (E.2.1 + 53), .int (nI a), .int (nI q)] (fun r M' => ∃ τ', M' = mW E N τ' 0 ∧ r = ((((τ (80 + a) (2 * q + 1)).toInt64 &&& 4294967295) <<< ((32 : Int32).toInt64 &&& 63)) ||| ((τ (80 + a) (2 * q)).toInt64 &&& 4294967295)) ∧ τ' = τ) := by
  refine gm_met (by decide) (Nat.le_of_ble_eq_true rfl) (fun p e s m below meth c ls hx hb hml hr2 hlk hnm hown hW X hl => ?_)
  have hl : lv_has ls 3 [(0, .ref (E.2.1 + 53)), (1, .int (nI a)), (2, .int (nI q))] := hl
  refine lv_aload_n hx hb d_Mdl_get_0 rfl (lv_at hl 0 rfl) ?_
  refine lv_iload_n hx hb d_Mdl_get_1 rfl (lv_at hl 1 rfl) ?_
  refine lv_bipush (v := 7) hx hb d_Mdl_get_2 (by decide) ?_
  refine gm_Si hx hb hml hown hW X (r_Mdl_in_8 l E N τ cd) (n := 2) ⟨⟨wl_Mdl_164, ws_Mdl_in, winit_Mdl, wc_Mdl_in⟩, by decide +kernel, Nat.le_of_ble_eq_true rfl, Nat.le_of_ble_eq_true rfl⟩ rfl hl.1 rfl (Nat.le_of_ble_eq_true rfl) d_Mdl_get_4 ⟨Nat.le_of_ble_eq_true rfl, Nat.le_of_ble_eq_true rfl⟩ (fun r0 M1 H locs hp X => ?_)
  rw [hp.1] at X
  have hz0 : r0 = 1 := by rcases hp.2 with h | h; exact h.1; exact absurd ⟨a, h_a, rfl⟩ h.2
  refine lv_if_eq (tgt := 22) hx hb d_Mdl_get_7 (by decide) (fun c9 => absurd (hz0.symm.trans c9) (by decide)) (fun _ => ?_)
  refine lv_iload_n hx hb d_Mdl_get_10 rfl (lv_at hl 2 rfl) ?_
  refine lv_iconst (v := 3) hx hb d_Mdl_get_11 (by decide) ?_
  refine gm_Si hx hb hml hown hW X (r_Mdl_in_4 l E N τ cd) (n := 2) ⟨⟨wl_Mdl_164, ws_Mdl_in, winit_Mdl, wc_Mdl_in⟩, by decide +kernel, Nat.le_of_ble_eq_true rfl, Nat.le_of_ble_eq_true rfl⟩ rfl hl.1 rfl (Nat.le_of_ble_eq_true rfl) d_Mdl_get_12 ⟨Nat.le_of_ble_eq_true rfl, Nat.le_of_ble_eq_true rfl⟩ (fun r1 M1 H locs hp X => ?_)
  rw [hp.1] at X
  have hz1 : r1 = 1 := by rcases hp.2 with h | h; exact h.1; exact absurd ⟨q, h_q, rfl⟩ h.2
  refine lv_if_eq (tgt := 22) hx hb d_Mdl_get_15 (by decide) (fun c9 => absurd (hz1.symm.trans c9) (by decide)) (fun _ => ?_)
  refine lv_iconst (v := 1) hx hb d_Mdl_get_18 (by decide) ?_
  refine lv_goto (tgt := 23) hx hb d_Mdl_get_19 (by decide) ?_
  refine gm_Vi hx hb hml hown hW X m53 (r_Mdl_good_1 l E N τ cd) (n := 1) ⟨⟨wl_Mdl_168, wi_Mdl_good, wsel_Mdl_good, winit_Mdl, wc_Mdl_good⟩, by decide +kernel, ⟨Nat.le_of_ble_eq_true rfl, Nat.le_of_ble_eq_true rfl⟩, _, rfl, rfl⟩ rfl hl.1 rfl (Nat.le_of_ble_eq_true rfl) d_Mdl_get_23 ⟨Nat.le_of_ble_eq_true rfl, Nat.le_of_ble_eq_true rfl⟩ (fun r9 M1 H locs hp X => ?_)
  rw [hp.1] at X
  have hr9 := hp.2
  refine lv_if_ne (tgt := 31) hx hb d_Mdl_get_26 (by decide) (fun _ => ?_) (fun c9 => absurd (hr9.symm.trans c9) (by decide))
  refine lv_aload_n hx hb d_Mdl_get_31 rfl (lv_at hl 0 rfl) ?_
  refine gm_get hx hb hW hown X u_Mdl m53 rfl 15 (by decide) wf_Mdl_103 (v := .ref (E.2.1 + 79)) rfl d_Mdl_get_32 ?_
  refine lv_iload_n hx hb d_Mdl_get_35 rfl (lv_at hl 1 rfl) ?_
  refine gm_aald2 hx hb X (k := a) (t := E.2.1 + (80 + a)) m79 rfl rfl ⟨h_a, by decide⟩ (if_pos h_a) d_Mdl_get_36 ?_
  refine lv_iconst (v := 2) hx hb d_Mdl_get_37 (by decide) ?_
  refine lv_iload_n hx hb d_Mdl_get_38 rfl (lv_at hl 2 rfl) ?_
  refine lv_imul hx hb d_Mdl_get_39 ?_
  rw [nI_2 h_q]
  refine lv_iconst (v := 1) hx hb d_Mdl_get_40 (by decide) ?_
  refine lv_iadd hx hb d_Mdl_get_41 ?_
  rw [nI_s]
  refine gm_iald hx hb X (k := 2 * q + 1) (mw_row (q8_n h_a)) rfl ⟨by omega, by decide⟩ d_Mdl_get_42 ?_
  refine lv_i2l hx hb d_Mdl_get_43 rfl ?_
  refine lv_ldc2 (v := 4294967295) hx hb hown (hW _ wk_Mdl_172) d_Mdl_get_44 ?_
  refine lv_land hx hb d_Mdl_get_47 ?_
  refine lv_bipush (v := 32) hx hb d_Mdl_get_48 (by decide) ?_
  refine lv_lshl hx hb d_Mdl_get_50 rfl ?_
  refine lv_aload_n hx hb d_Mdl_get_51 rfl (lv_at hl 0 rfl) ?_
  refine gm_get hx hb hW hown X u_Mdl m53 rfl 15 (by decide) wf_Mdl_103 (v := .ref (E.2.1 + 79)) rfl d_Mdl_get_52 ?_
  refine lv_iload_n hx hb d_Mdl_get_55 rfl (lv_at hl 1 rfl) ?_
  refine gm_aald2 hx hb X (k := a) (t := E.2.1 + (80 + a)) m79 rfl rfl ⟨h_a, by decide⟩ (if_pos h_a) d_Mdl_get_56 ?_
  refine lv_iconst (v := 2) hx hb d_Mdl_get_57 (by decide) ?_
  refine lv_iload_n hx hb d_Mdl_get_58 rfl (lv_at hl 2 rfl) ?_
  refine lv_imul hx hb d_Mdl_get_59 ?_
  rw [nI_2 h_q]
  refine gm_iald hx hb X (k := 2 * q) (mw_row (q8_n h_a)) rfl ⟨by omega, by decide⟩ d_Mdl_get_60 ?_
  refine lv_i2l hx hb d_Mdl_get_61 rfl ?_
  refine lv_ldc2 (v := 4294967295) hx hb hown (hW _ wk_Mdl_172) d_Mdl_get_62 ?_
  refine lv_land hx hb d_Mdl_get_65 ?_
  refine lv_lor hx hb d_Mdl_get_66 ?_
  exact gm_lret hx hb hr2 hlk X ⟨τ, rfl, rfl, rfl⟩ d_Mdl_get_67
set_option maxHeartbeats 4000000 in
theorem r_Mdl_compare_ok  (l : Launch) (E : gm_E) (N : gm_M) (τ : Nat → Nat → Int32) (cd : Int32)  {a : Nat} (h_a : a < 8) {b : Nat} (h_b : b < 8)  : ci_ l y_Mdl_compare b_Mdl_compare 3 (some .int) { frames := 1, cells := 0, slots := 0, locals := 22 } E (mW E N τ cd) [.ref (E.2.1 + 53), .int (nI a), .int (nI b)] (fun r M' => ∃ τ', M' = mW E N τ' 0 ∧ r = cmN (IV (τ (80 + a)) 8) (IV (τ (80 + b)) 8) ∧ τ' = τ) := by
  refine gm_met (by decide) (Nat.le_of_ble_eq_true rfl) (fun p e s m below meth c ls hx hb hml hr2 hlk hnm hown hW X hl => ?_)
  have hl : lv_has ls 3 [(0, .ref (E.2.1 + 53)), (1, .int (nI a)), (2, .int (nI b))] := hl
  refine lv_aload_n hx hb d_Mdl_compare_0 rfl (lv_at hl 0 rfl) ?_
  refine lv_iload_n hx hb d_Mdl_compare_1 rfl (lv_at hl 1 rfl) ?_
  refine lv_bipush (v := 7) hx hb d_Mdl_compare_2 (by decide) ?_
  refine gm_Si hx hb hml hown hW X (r_Mdl_in_8 l E N τ cd) (n := 2) ⟨⟨wl_Mdl_164, ws_Mdl_in, winit_Mdl, wc_Mdl_in⟩, by decide +kernel, Nat.le_of_ble_eq_true rfl, Nat.le_of_ble_eq_true rfl⟩ rfl hl.1 rfl (Nat.le_of_ble_eq_true rfl) d_Mdl_compare_4 ⟨Nat.le_of_ble_eq_true rfl, Nat.le_of_ble_eq_true rfl⟩ (fun r0 M1 H locs hp X => ?_)
  rw [hp.1] at X
  have hz0 : r0 = 1 := by rcases hp.2 with h | h; exact h.1; exact absurd ⟨a, h_a, rfl⟩ h.2
  refine lv_if_eq (tgt := 23) hx hb d_Mdl_compare_7 (by decide) (fun c9 => absurd (hz0.symm.trans c9) (by decide)) (fun _ => ?_)
  refine lv_iload_n hx hb d_Mdl_compare_10 rfl (lv_at hl 2 rfl) ?_
  refine lv_bipush (v := 7) hx hb d_Mdl_compare_11 (by decide) ?_
  refine gm_Si hx hb hml hown hW X (r_Mdl_in_8 l E N τ cd) (n := 2) ⟨⟨wl_Mdl_164, ws_Mdl_in, winit_Mdl, wc_Mdl_in⟩, by decide +kernel, Nat.le_of_ble_eq_true rfl, Nat.le_of_ble_eq_true rfl⟩ rfl hl.1 rfl (Nat.le_of_ble_eq_true rfl) d_Mdl_compare_13 ⟨Nat.le_of_ble_eq_true rfl, Nat.le_of_ble_eq_true rfl⟩ (fun r1 M1 H locs hp X => ?_)
  rw [hp.1] at X
  have hz1 : r1 = 1 := by rcases hp.2 with h | h; exact h.1; exact absurd ⟨b, h_b, rfl⟩ h.2
  refine lv_if_eq (tgt := 23) hx hb d_Mdl_compare_16 (by decide) (fun c9 => absurd (hz1.symm.trans c9) (by decide)) (fun _ => ?_)
  refine lv_iconst (v := 1) hx hb d_Mdl_compare_19 (by decide) ?_
  refine lv_goto (tgt := 24) hx hb d_Mdl_compare_20 (by decide) ?_
  refine gm_Vi hx hb hml hown hW X m53 (r_Mdl_good_1 l E N τ cd) (n := 1) ⟨⟨wl_Mdl_168, wi_Mdl_good, wsel_Mdl_good, winit_Mdl, wc_Mdl_good⟩, by decide +kernel, ⟨Nat.le_of_ble_eq_true rfl, Nat.le_of_ble_eq_true rfl⟩, _, rfl, rfl⟩ rfl hl.1 rfl (Nat.le_of_ble_eq_true rfl) d_Mdl_compare_24 ⟨Nat.le_of_ble_eq_true rfl, Nat.le_of_ble_eq_true rfl⟩ (fun r9 M1 H locs hp X => ?_)
  rw [hp.1] at X
  have hr9 := hp.2
  refine lv_if_ne (tgt := 32) hx hb d_Mdl_compare_27 (by decide) (fun _ => ?_) (fun c9 => absurd (hr9.symm.trans c9) (by decide))
  refine lv_aload_n hx hb d_Mdl_compare_32 rfl (lv_at hl 0 rfl) ?_
  refine gm_get hx hb hW hown X u_Mdl m53 rfl 15 (by decide) wf_Mdl_103 (v := .ref (E.2.1 + 79)) rfl d_Mdl_compare_33 ?_
  refine lv_iload_n hx hb d_Mdl_compare_36 rfl (lv_at hl 1 rfl) ?_
  refine gm_aald2 hx hb X (k := a) (t := E.2.1 + (80 + a)) m79 rfl rfl ⟨h_a, by decide⟩ (if_pos h_a) d_Mdl_compare_37 ?_
  refine lv_aload_n hx hb d_Mdl_compare_38 rfl (lv_at hl 0 rfl) ?_
  refine gm_get hx hb hW hown X u_Mdl m53 rfl 15 (by decide) wf_Mdl_103 (v := .ref (E.2.1 + 79)) rfl d_Mdl_compare_39 ?_
  refine lv_iload_n hx hb d_Mdl_compare_42 rfl (lv_at hl 2 rfl) ?_
  refine gm_aald2 hx hb X (k := b) (t := E.2.1 + (80 + b)) m79 rfl rfl ⟨h_b, by decide⟩ (if_pos h_b) d_Mdl_compare_43 ?_
  refine gm_Si hx hb hml hown hW X (c_Rng_compare l E _ (mw_row (q8_n h_a)) (mw_row (q8_n h_b))) (n := 2) ⟨⟨wl_Mdl_174, ws_Rng_compare, winit_Rng, wc_Rng_compare⟩, by decide +kernel, Nat.le_of_ble_eq_true rfl, Nat.le_of_ble_eq_true rfl⟩ rfl hl.1 rfl (Nat.le_of_ble_eq_true rfl) d_Mdl_compare_44 ⟨Nat.le_of_ble_eq_true rfl, Nat.le_of_ble_eq_true rfl⟩ (fun r M1 H locs hp X => ?_)
  rw [hp.1] at X
  exact gm_iret hx hb hr2 hlk X ⟨τ, rfl, hp.2.trans (ordI_cm _ _), rfl⟩ d_Mdl_compare_47
set_option maxHeartbeats 4000000 in
theorem r_Mdl_work_ok_0 {F G : Type} [Lean.Grind.CommRing F] [Lean.Grind.CommRing G] {φ : Int → F} {inv : F → F} {ψ : Int → G} (l : Launch) (E : gm_E) (N : gm_M) (τ : Nat → Nat → Int32) (cd : Int32) (hk : fk φ inv) {Ri : F} (hR : φ (tq 8) * Ri = 1) (hgN : fm ψ nN) {Si : G} (hS : ψ (tq 8) * Si = 1) (hr : isR φ nP 99 τ) (hrN : isR ψ nN 107 τ) (h7 : MV φ nP (τ 54) 7) {t : Nat} (h_t : t < 8) {a : Nat} (h_a : a < 8) {b : Nat} (h_b : b < 8)  : ci_ l y_Mdl_work b_Mdl_work 7 (some .boolean) { frames := 3, cells := 0, slots := 0, locals := 78 } E (mW E N τ cd) [.ref (E.2.1 + 53), .int 0, .int (nI t), .int (nI a), .int (nI b)] (fun r M' => ∃ τ', M' = mW E N τ' 0 ∧ ((r = 0 ∧ ¬ wkOK 0 nP (IV (τ (80 + a)) 8) (IV (τ (80 + b)) 8) ∧ kMn 0 0 τ τ') ∨ (r = 1 ∧ wkOK 0 nP (IV (τ (80 + a)) 8) (IV (τ (80 + b)) 8) ∧ IV (τ' (80 + t)) 8 = rp φ nP (wkV φ 0 (NV sP2) (IV (τ (80 + a)) 8) (IV (τ (80 + b)) 8)) ∧ kMn (80 + t) 0 τ τ'))) := by
  have hf := hk.fm
  have hpP := rPl_P E
  have hpN := rPl_N E
  refine gm_met (by decide) (Nat.le_of_ble_eq_true rfl) (fun p e s m below meth c ls hx hb hml hr2 hlk hnm hown hW X hl => ?_)
  have hl : lv_has ls 7 [(0, .ref (E.2.1 + 53)), (1, .int 0), (2, .int (nI t)), (3, .int (nI a)), (4, .int (nI b))] := hl
  refine lv_aload_n hx hb d_Mdl_work_0 rfl (lv_at hl 0 rfl) ?_
  refine lv_iload_n hx hb d_Mdl_work_1 rfl (lv_at hl 1 rfl) ?_
  refine lv_bipush (v := 7) hx hb d_Mdl_work_2 (by decide) ?_
  refine gm_Si hx hb hml hown hW X (r_Mdl_in_8 l E N τ cd) (n := 2) ⟨⟨wl_Mdl_164, ws_Mdl_in, winit_Mdl, wc_Mdl_in⟩, by decide +kernel, Nat.le_of_ble_eq_true rfl, Nat.le_of_ble_eq_true rfl⟩ rfl hl.1 rfl (Nat.le_of_ble_eq_true rfl) d_Mdl_work_4 ⟨Nat.le_of_ble_eq_true rfl, Nat.le_of_ble_eq_true rfl⟩ (fun r0 M1 H locs hp X => ?_)
  rw [hp.1] at X
  have hz0 : r0 = 1 := by rcases hp.2 with h | h; exact h.1; exact absurd ⟨0, by decide, rfl⟩ h.2
  refine lv_if_eq (tgt := 42) hx hb d_Mdl_work_7 (by decide) (fun c9 => absurd (hz0.symm.trans c9) (by decide)) (fun _ => ?_)
  refine lv_iload_n hx hb d_Mdl_work_10 rfl (lv_at hl 2 rfl) ?_
  refine lv_bipush (v := 7) hx hb d_Mdl_work_11 (by decide) ?_
  refine gm_Si hx hb hml hown hW X (r_Mdl_in_8 l E N τ cd) (n := 2) ⟨⟨wl_Mdl_164, ws_Mdl_in, winit_Mdl, wc_Mdl_in⟩, by decide +kernel, Nat.le_of_ble_eq_true rfl, Nat.le_of_ble_eq_true rfl⟩ rfl hl.1 rfl (Nat.le_of_ble_eq_true rfl) d_Mdl_work_13 ⟨Nat.le_of_ble_eq_true rfl, Nat.le_of_ble_eq_true rfl⟩ (fun r1 M1 H locs hp X => ?_)
  rw [hp.1] at X
  have hz1 : r1 = 1 := by rcases hp.2 with h | h; exact h.1; exact absurd ⟨t, h_t, rfl⟩ h.2
  refine lv_if_eq (tgt := 42) hx hb d_Mdl_work_16 (by decide) (fun c9 => absurd (hz1.symm.trans c9) (by decide)) (fun _ => ?_)
  refine lv_iload_n hx hb d_Mdl_work_19 rfl (lv_at hl 3 rfl) ?_
  refine lv_bipush (v := 7) hx hb d_Mdl_work_20 (by decide) ?_
  refine gm_Si hx hb hml hown hW X (r_Mdl_in_8 l E N τ cd) (n := 2) ⟨⟨wl_Mdl_164, ws_Mdl_in, winit_Mdl, wc_Mdl_in⟩, by decide +kernel, Nat.le_of_ble_eq_true rfl, Nat.le_of_ble_eq_true rfl⟩ rfl hl.1 rfl (Nat.le_of_ble_eq_true rfl) d_Mdl_work_22 ⟨Nat.le_of_ble_eq_true rfl, Nat.le_of_ble_eq_true rfl⟩ (fun r2 M1 H locs hp X => ?_)
  rw [hp.1] at X
  have hz2 : r2 = 1 := by rcases hp.2 with h | h; exact h.1; exact absurd ⟨a, h_a, rfl⟩ h.2
  refine lv_if_eq (tgt := 42) hx hb d_Mdl_work_25 (by decide) (fun c9 => absurd (hz2.symm.trans c9) (by decide)) (fun _ => ?_)
  refine lv_iload hx hb d_Mdl_work_28 (lv_at hl 4 rfl) ?_
  refine lv_bipush (v := 7) hx hb d_Mdl_work_30 (by decide) ?_
  refine gm_Si hx hb hml hown hW X (r_Mdl_in_8 l E N τ cd) (n := 2) ⟨⟨wl_Mdl_164, ws_Mdl_in, winit_Mdl, wc_Mdl_in⟩, by decide +kernel, Nat.le_of_ble_eq_true rfl, Nat.le_of_ble_eq_true rfl⟩ rfl hl.1 rfl (Nat.le_of_ble_eq_true rfl) d_Mdl_work_32 ⟨Nat.le_of_ble_eq_true rfl, Nat.le_of_ble_eq_true rfl⟩ (fun r3 M1 H locs hp X => ?_)
  rw [hp.1] at X
  have hz3 : r3 = 1 := by rcases hp.2 with h | h; exact h.1; exact absurd ⟨b, h_b, rfl⟩ h.2
  refine lv_if_eq (tgt := 42) hx hb d_Mdl_work_35 (by decide) (fun c9 => absurd (hz3.symm.trans c9) (by decide)) (fun _ => ?_)
  refine lv_iconst (v := 1) hx hb d_Mdl_work_38 (by decide) ?_
  refine lv_goto (tgt := 43) hx hb d_Mdl_work_39 (by decide) ?_
  refine gm_Vi hx hb hml hown hW X m53 (r_Mdl_good_1 l E N τ cd) (n := 1) ⟨⟨wl_Mdl_168, wi_Mdl_good, wsel_Mdl_good, winit_Mdl, wc_Mdl_good⟩, by decide +kernel, ⟨Nat.le_of_ble_eq_true rfl, Nat.le_of_ble_eq_true rfl⟩, _, rfl, rfl⟩ rfl hl.1 rfl (Nat.le_of_ble_eq_true rfl) d_Mdl_work_43 ⟨Nat.le_of_ble_eq_true rfl, Nat.le_of_ble_eq_true rfl⟩ (fun r9 M1 H locs hp X => ?_)
  rw [hp.1] at X
  have hr9 := hp.2
  refine lv_if_ne (tgt := 51) hx hb d_Mdl_work_46 (by decide) (fun _ => ?_) (fun c9 => absurd (hr9.symm.trans c9) (by decide))
  have hm : (IV (τ 100) 8 : Int) = nP := hr.1
  refine lv_iload_n hx hb d_Mdl_work_51 rfl (lv_at hl 1 rfl) ?_
  refine lv_iconst (v := 4) hx hb d_Mdl_work_52 (by decide) ?_
  refine lv_icmp_ge (tgt := 63) hx hb d_Mdl_work_53 (by decide) (fun c9 => absurd c9 (by decide)) (fun _ => ?_)
  refine lv_aload_n hx hb d_Mdl_work_56 rfl (lv_at hl 0 rfl) ?_
  refine gm_get hx hb hW hown X u_Mdl m53 rfl 0 (by decide) wf_Mdl_13 (v := .ref (E.2.1 + 99)) rfl d_Mdl_work_57 ?_
  refine lv_goto (tgt := 67) hx hb d_Mdl_work_60 (by decide) ?_
  refine lv_astore (lv' := [(5, .ref (E.2.1 + 99)), (0, .ref (E.2.1 + 53)), (1, .int 0), (2, .int (nI t)), (3, .int (nI a)), (4, .int (nI b))]) hx hb d_Mdl_work_67 hl (by decide) rfl (fun ls hl => ?_)
  refine lv_iload_n hx hb d_Mdl_work_69 rfl (lv_at hl 2 rfl) ?_
  refine lv_iconst (v := 3) hx hb d_Mdl_work_70 (by decide) ?_
  refine lv_iand hx hb d_Mdl_work_71 ?_
  refine lv_eqi (v := 0) (by decide) ?_
  refine lv_istore (lv' := [(6, .int 0), (5, .ref (E.2.1 + 99)), (0, .ref (E.2.1 + 53)), (1, .int 0), (2, .int (nI t)), (3, .int (nI a)), (4, .int (nI b))]) hx hb d_Mdl_work_72 hl (by decide) rfl (fun ls hl => ?_)
  refine lv_aload_n hx hb d_Mdl_work_74 rfl (lv_at hl 2 rfl) ?_
  refine gm_get hx hb hW hown X u_Mdl m53 rfl 15 (by decide) wf_Mdl_103 (v := .ref (E.2.1 + 79)) rfl d_Mdl_work_75 ?_
  refine lv_iload_n hx hb d_Mdl_work_78 rfl (lv_at hl 5 rfl) ?_
  refine gm_aald2 hx hb X (k := a) (t := E.2.1 + (80 + a)) m79 rfl rfl ⟨h_a, by decide⟩ (if_pos h_a) d_Mdl_work_79 ?_
  refine lv_aload hx hb d_Mdl_work_80 (lv_at hl 1 rfl) ?_
  refine gm_getN hx hb hW hown X u_Rng m99 rfl 0 (by decide) wfn_Mdl_178 (v := .ref (E.2.1 + 100)) rfl d_Mdl_work_82 ?_
  refine gm_Si hx hb hml hown hW X (c_Rng_compare l E _ (mw_row (q8_n h_a)) (mw_row (k := 100) (by decide))) (n := 2) ⟨⟨wl_Mdl_174, ws_Rng_compare, winit_Rng, wc_Rng_compare⟩, by decide +kernel, Nat.le_of_ble_eq_true rfl, Nat.le_of_ble_eq_true rfl⟩ rfl hl.1 rfl (Nat.le_of_ble_eq_true rfl) d_Mdl_work_85 ⟨Nat.le_of_ble_eq_true rfl, Nat.le_of_ble_eq_true rfl⟩ (fun ra M1 H locs hp X => ?_)
  rw [hp.1] at X
  have hq_ra := (ordI_ok (τ (80 + a)) (τ 100) 8).2.1
  rw [← hp.2] at hq_ra
  refine lv_if_ge (tgt := 133) hx hb d_Mdl_work_88 (by decide) (fun c88 => ?_) (fun c88 => ?_)
  · have hlt := hq_ra.mp c88
    refine lv_iconst (v := 0) hx hb d_Mdl_work_133 (by decide) ?_
    exact gm_zret hx hb hr2 hlk X rfl ⟨τ, rfl, Or.inl ⟨rfl, fun z => by have := z.1; omega, fun _ _ _ _ => rfl⟩⟩ d_Mdl_work_134
  · have hla : (IV (τ (80 + a)) 8 : Int) < nP := by have q : ¬ IV (τ 100) 8 ≤ IV (τ (80 + a)) 8 := fun z => c88 (hq_ra.mpr z); omega
    refine lv_iload hx hb d_Mdl_work_91 (lv_at hl 0 rfl) ?_
    refine lv_iconst (v := 3) hx hb d_Mdl_work_93 (by decide) ?_
    refine lv_icmp_ge (tgt := 115) hx hb d_Mdl_work_94 (by decide) (fun c9 => absurd c9 (by decide)) (fun _ => ?_)
    refine lv_aload_n hx hb d_Mdl_work_97 rfl (lv_at hl 2 rfl) ?_
    refine gm_get hx hb hW hown X u_Mdl m53 rfl 15 (by decide) wf_Mdl_103 (v := .ref (E.2.1 + 79)) rfl d_Mdl_work_98 ?_
    refine lv_iload hx hb d_Mdl_work_101 (lv_at hl 6 rfl) ?_
    refine gm_aald2 hx hb X (k := b) (t := E.2.1 + (80 + b)) m79 rfl rfl ⟨h_b, by decide⟩ (if_pos h_b) d_Mdl_work_103 ?_
    refine lv_aload hx hb d_Mdl_work_104 (lv_at hl 1 rfl) ?_
    refine gm_getN hx hb hW hown X u_Rng m99 rfl 0 (by decide) wfn_Mdl_178 (v := .ref (E.2.1 + 100)) rfl d_Mdl_work_106 ?_
    refine gm_Si hx hb hml hown hW X (c_Rng_compare l E _ (mw_row (q8_n h_b)) (mw_row (k := 100) (by decide))) (n := 2) ⟨⟨wl_Mdl_174, ws_Rng_compare, winit_Rng, wc_Rng_compare⟩, by decide +kernel, Nat.le_of_ble_eq_true rfl, Nat.le_of_ble_eq_true rfl⟩ rfl hl.1 rfl (Nat.le_of_ble_eq_true rfl) d_Mdl_work_109 ⟨Nat.le_of_ble_eq_true rfl, Nat.le_of_ble_eq_true rfl⟩ (fun rb M1 H locs hp X => ?_)
    rw [hp.1] at X
    have hq_rb := (ordI_ok (τ (80 + b)) (τ 100) 8).2.1
    rw [← hp.2] at hq_rb
    refine lv_if_ge (tgt := 133) hx hb d_Mdl_work_112 (by decide) (fun c112 => ?_) (fun c112 => ?_)
    · have hlt := hq_rb.mp c112
      refine lv_iconst (v := 0) hx hb d_Mdl_work_133 (by decide) ?_
      exact gm_zret hx hb hr2 hlk X rfl ⟨τ, rfl, Or.inl ⟨rfl, fun z => by have z2 : (IV (τ (80 + b)) 8 : Int) < nP := z.2; omega, fun _ _ _ _ => rfl⟩⟩ d_Mdl_work_134
    · have hq2 : (IV (τ (80 + b)) 8 : Int) < nP := by have q : ¬ IV (τ 100) 8 ≤ IV (τ (80 + b)) 8 := fun z => c112 (hq_rb.mpr z); omega
      refine lv_iload hx hb d_Mdl_work_115 (lv_at hl 0 rfl) ?_
      refine lv_iconst (v := 3) hx hb d_Mdl_work_117 (by decide) ?_
      refine lv_icmp_ne (tgt := 135) hx hb d_Mdl_work_118 (by decide) (fun _ => ?_) (fun c9 => absurd c9 (by decide))
      refine lv_aload hx hb d_Mdl_work_135 (lv_at hl 1 rfl) ?_
      refine lv_aload_n hx hb d_Mdl_work_137 rfl (lv_at hl 2 rfl) ?_
      refine gm_get hx hb hW hown X u_Mdl m53 rfl 15 (by decide) wf_Mdl_103 (v := .ref (E.2.1 + 79)) rfl d_Mdl_work_138 ?_
      refine lv_iload_n hx hb d_Mdl_work_141 rfl (lv_at hl 5 rfl) ?_
      refine gm_aald2 hx hb X (k := a) (t := E.2.1 + (80 + a)) m79 rfl rfl ⟨h_a, by decide⟩ (if_pos h_a) d_Mdl_work_142 ?_
      refine lv_aload_n hx hb d_Mdl_work_143 rfl (lv_at hl 2 rfl) ?_
      refine gm_get hx hb hW hown X u_Mdl m53 rfl 20 (by decide) wf_Mdl_119 (v := .ref (E.2.1 + 95)) rfl d_Mdl_work_144 ?_
      refine gm_Vv hx hb hml hown hW X m99 (q_enter l hpP hf hR hr (by decide) (q8_n h_a) (by omega)) (n := 2) ⟨⟨wl_Mdl_135, wi_Rng_enter, wsel_Rng_enter, winit_Rng, wc_Rng_enter⟩, by decide +kernel, ⟨Nat.le_of_ble_eq_true rfl, Nat.le_of_ble_eq_true rfl⟩, _, rfl, rfl⟩ rfl hl.1 rfl (Nat.le_of_ble_eq_true rfl) d_Mdl_work_147 ⟨Nat.le_of_ble_eq_true rfl, Nat.le_of_ble_eq_true rfl⟩ (fun M1 H locs hp X => ?_)
      obtain ⟨τ1, rfl, q1, kk1⟩ := hp
      have R_1 : isR φ nP 99 τ1 := hr.kp (fun j h1 h2 => kk1 j (by omega) (by omega))
      have R2_1 : isR ψ nN 107 τ1 := hrN.kp (fun j h1 h2 => kk1 j (by omega) (by omega))
      have m95_1 : MV φ nP (τ1 95) (φ (IV (τ (80 + a)) 8)) := q1
      refine lv_iload hx hb d_Mdl_work_150 (lv_at hl 0 rfl) ?_
      refine lv_iconst (v := 3) hx hb d_Mdl_work_152 (by decide) ?_
      refine lv_icmp_ge (tgt := 172) hx hb d_Mdl_work_153 (by decide) (fun c9 => absurd c9 (by decide)) (fun _ => ?_)
      refine lv_aload hx hb d_Mdl_work_156 (lv_at hl 1 rfl) ?_
      refine lv_aload_n hx hb d_Mdl_work_158 rfl (lv_at hl 2 rfl) ?_
      refine gm_get hx hb hW hown X u_Mdl m53 rfl 15 (by decide) wf_Mdl_103 (v := .ref (E.2.1 + 79)) rfl d_Mdl_work_159 ?_
      refine lv_iload hx hb d_Mdl_work_162 (lv_at hl 6 rfl) ?_
      refine gm_aald2 hx hb X (k := b) (t := E.2.1 + (80 + b)) m79 rfl rfl ⟨h_b, by decide⟩ (if_pos h_b) d_Mdl_work_164 ?_
      refine lv_aload_n hx hb d_Mdl_work_165 rfl (lv_at hl 2 rfl) ?_
      refine gm_get hx hb hW hown X u_Mdl m53 rfl 21 (by decide) wf_Mdl_122 (v := .ref (E.2.1 + 96)) rfl d_Mdl_work_166 ?_
      have e169 := (show τ1 (80 + b) = τ (80 + b) by rw [kk1 (80 + b) (by omega) (by omega)])
      refine gm_Vv hx hb hml hown hW X m99 (q_enter l hpP hf hR R_1 (by decide) (q8_n h_b) (by omega)) (n := 2) ⟨⟨wl_Mdl_135, wi_Rng_enter, wsel_Rng_enter, winit_Rng, wc_Rng_enter⟩, by decide +kernel, ⟨Nat.le_of_ble_eq_true rfl, Nat.le_of_ble_eq_true rfl⟩, _, rfl, rfl⟩ rfl hl.1 rfl (Nat.le_of_ble_eq_true rfl) d_Mdl_work_169 ⟨Nat.le_of_ble_eq_true rfl, Nat.le_of_ble_eq_true rfl⟩ (fun M1 H locs hp X => ?_)
      obtain ⟨τ2, rfl, q2, kk2⟩ := hp
      have m95_2 : MV φ nP (τ2 95) (φ (IV (τ (80 + a)) 8)) := by rw [kk2 95 (by omega) (by omega)]; exact m95_1
      have R_2 : isR φ nP 99 τ2 := R_1.kp (fun j h1 h2 => kk2 j (by omega) (by omega))
      have R2_2 : isR ψ nN 107 τ2 := R2_1.kp (fun j h1 h2 => kk2 j (by omega) (by omega))
      have m96_2 : MV φ nP (τ2 96) (φ (IV (τ (80 + b)) 8)) := by rw [← e169]; exact q2
      refine lv_iload hx hb d_Mdl_work_172 (lv_at hl 0 rfl) ?_
      refine lv_if_ne (tgt := 197) hx hb d_Mdl_work_174 (by decide) (fun c9 => absurd rfl c9) (fun _ => ?_)
      refine lv_aload hx hb d_Mdl_work_177 (lv_at hl 1 rfl) ?_
      refine lv_aload_n hx hb d_Mdl_work_179 rfl (lv_at hl 2 rfl) ?_
      refine gm_get hx hb hW hown X u_Mdl m53 rfl 20 (by decide) wf_Mdl_119 (v := .ref (E.2.1 + 95)) rfl d_Mdl_work_180 ?_
      refine lv_aload_n hx hb d_Mdl_work_183 rfl (lv_at hl 2 rfl) ?_
      refine gm_get hx hb hW hown X u_Mdl m53 rfl 21 (by decide) wf_Mdl_122 (v := .ref (E.2.1 + 96)) rfl d_Mdl_work_184 ?_
      refine lv_aload_n hx hb d_Mdl_work_187 rfl (lv_at hl 2 rfl) ?_
      refine gm_get hx hb hW hown X u_Mdl m53 rfl 20 (by decide) wf_Mdl_119 (v := .ref (E.2.1 + 95)) rfl d_Mdl_work_188 ?_
      refine gm_Vv hx hb hml hown hW X m99 (q_add l hpP hf R_2 (by decide) (by decide) (by decide) (by omega) m95_2 m96_2) (n := 3) ⟨⟨wl_Mdl_35, wi_Rng_add, wsel_Rng_add, winit_Rng, wc_Rng_add⟩, by decide +kernel, ⟨Nat.le_of_ble_eq_true rfl, Nat.le_of_ble_eq_true rfl⟩, _, rfl, rfl⟩ rfl hl.1 rfl (Nat.le_of_ble_eq_true rfl) d_Mdl_work_191 ⟨Nat.le_of_ble_eq_true rfl, Nat.le_of_ble_eq_true rfl⟩ (fun M1 H locs hp X => ?_)
      obtain ⟨τ3, rfl, q3, kk3⟩ := hp
      have m96_3 : MV φ nP (τ3 96) (φ (IV (τ (80 + b)) 8)) := by rw [kk3 96 (by omega) (by omega)]; exact m96_2
      have R_3 : isR φ nP 99 τ3 := R_2.kp (fun j h1 h2 => kk3 j (by omega) (by omega))
      have R2_3 : isR ψ nN 107 τ3 := R2_2.kp (fun j h1 h2 => kk3 j (by omega) (by omega))
      have m95_3 : MV φ nP (τ3 95) ((φ (IV (τ (80 + a)) 8)) + (φ (IV (τ (80 + b)) 8))) := q3
      refine lv_goto (tgt := 265) hx hb d_Mdl_work_194 (by decide) ?_
      refine lv_aload hx hb d_Mdl_work_265 (lv_at hl 1 rfl) ?_
      refine lv_aload_n hx hb d_Mdl_work_267 rfl (lv_at hl 2 rfl) ?_
      refine gm_get hx hb hW hown X u_Mdl m53 rfl 20 (by decide) wf_Mdl_119 (v := .ref (E.2.1 + 95)) rfl d_Mdl_work_268 ?_
      refine lv_aload_n hx hb d_Mdl_work_271 rfl (lv_at hl 2 rfl) ?_
      refine gm_get hx hb hW hown X u_Mdl m53 rfl 15 (by decide) wf_Mdl_103 (v := .ref (E.2.1 + 79)) rfl d_Mdl_work_272 ?_
      refine lv_iload_n hx hb d_Mdl_work_275 rfl (lv_at hl 4 rfl) ?_
      refine gm_aald2 hx hb X (k := t) (t := E.2.1 + (80 + t)) m79 rfl rfl ⟨h_t, by decide⟩ (if_pos h_t) d_Mdl_work_276 ?_
      refine gm_Vv hx hb hml hown hW X m99 (q_leave l hpP hf hR R_3 (q8_n h_t) (by decide) (by omega) m95_3) (n := 2) ⟨⟨wl_Mdl_65, wi_Rng_leave, wsel_Rng_leave, winit_Rng, wc_Rng_leave⟩, by decide +kernel, ⟨Nat.le_of_ble_eq_true rfl, Nat.le_of_ble_eq_true rfl⟩, _, rfl, rfl⟩ rfl hl.1 rfl (Nat.le_of_ble_eq_true rfl) d_Mdl_work_277 ⟨Nat.le_of_ble_eq_true rfl, Nat.le_of_ble_eq_true rfl⟩ (fun M1 H locs hp X => ?_)
      obtain ⟨τ4, rfl, q4, kk4⟩ := hp
      have m96_4 : MV φ nP (τ4 96) (φ (IV (τ (80 + b)) 8)) := by rw [kk4 96 (by omega) (by omega)]; exact m96_3
      have m95_4 : MV φ nP (τ4 95) ((φ (IV (τ (80 + a)) 8)) + (φ (IV (τ (80 + b)) 8))) := by rw [kk4 95 (by omega) (by omega)]; exact m95_3
      have R_4 : isR φ nP 99 τ4 := R_3.kp (fun j h1 h2 => kk4 j (by omega) (by omega))
      have R2_4 : isR ψ nN 107 τ4 := R2_3.kp (fun j h1 h2 => kk4 j (by omega) (by omega))
      have p80t_4 : PV φ nP (τ4 (80 + t)) ((φ (IV (τ (80 + a)) 8)) + (φ (IV (τ (80 + b)) 8))) := q4
      refine lv_iconst (v := 1) hx hb d_Mdl_work_280 (by decide) ?_
      refine gm_zret hx hb hr2 hlk X rfl ⟨_, rfl, Or.inr ⟨rfl, ⟨hla, hq2⟩, ?_, fun j hj h1 h2 => by have hj := hj.o; rw [kk4 j (by omega) (by omega), kk3 j (by omega) (by omega), kk2 j (by omega) (by omega), kk1 j (by omega) (by omega)]⟩⟩ d_Mdl_work_281
      exact PV.rep hf p80t_4
set_option maxHeartbeats 4000000 in
theorem r_Mdl_work_ok_1 {F G : Type} [Lean.Grind.CommRing F] [Lean.Grind.CommRing G] {φ : Int → F} {inv : F → F} {ψ : Int → G} (l : Launch) (E : gm_E) (N : gm_M) (τ : Nat → Nat → Int32) (cd : Int32) (hk : fk φ inv) {Ri : F} (hR : φ (tq 8) * Ri = 1) (hgN : fm ψ nN) {Si : G} (hS : ψ (tq 8) * Si = 1) (hr : isR φ nP 99 τ) (hrN : isR ψ nN 107 τ) (h7 : MV φ nP (τ 54) 7) {t : Nat} (h_t : t < 8) {a : Nat} (h_a : a < 8) {b : Nat} (h_b : b < 8)  : ci_ l y_Mdl_work b_Mdl_work 7 (some .boolean) { frames := 3, cells := 0, slots := 0, locals := 78 } E (mW E N τ cd) [.ref (E.2.1 + 53), .int 1, .int (nI t), .int (nI a), .int (nI b)] (fun r M' => ∃ τ', M' = mW E N τ' 0 ∧ ((r = 0 ∧ ¬ wkOK 1 nP (IV (τ (80 + a)) 8) (IV (τ (80 + b)) 8) ∧ kMn 0 0 τ τ') ∨ (r = 1 ∧ wkOK 1 nP (IV (τ (80 + a)) 8) (IV (τ (80 + b)) 8) ∧ IV (τ' (80 + t)) 8 = rp φ nP (wkV φ 1 (NV sP2) (IV (τ (80 + a)) 8) (IV (τ (80 + b)) 8)) ∧ kMn (80 + t) 0 τ τ'))) := by
  have hf := hk.fm
  have hpP := rPl_P E
  have hpN := rPl_N E
  refine gm_met (by decide) (Nat.le_of_ble_eq_true rfl) (fun p e s m below meth c ls hx hb hml hr2 hlk hnm hown hW X hl => ?_)
  have hl : lv_has ls 7 [(0, .ref (E.2.1 + 53)), (1, .int 1), (2, .int (nI t)), (3, .int (nI a)), (4, .int (nI b))] := hl
  refine lv_aload_n hx hb d_Mdl_work_0 rfl (lv_at hl 0 rfl) ?_
  refine lv_iload_n hx hb d_Mdl_work_1 rfl (lv_at hl 1 rfl) ?_
  refine lv_bipush (v := 7) hx hb d_Mdl_work_2 (by decide) ?_
  refine gm_Si hx hb hml hown hW X (r_Mdl_in_8 l E N τ cd) (n := 2) ⟨⟨wl_Mdl_164, ws_Mdl_in, winit_Mdl, wc_Mdl_in⟩, by decide +kernel, Nat.le_of_ble_eq_true rfl, Nat.le_of_ble_eq_true rfl⟩ rfl hl.1 rfl (Nat.le_of_ble_eq_true rfl) d_Mdl_work_4 ⟨Nat.le_of_ble_eq_true rfl, Nat.le_of_ble_eq_true rfl⟩ (fun r0 M1 H locs hp X => ?_)
  rw [hp.1] at X
  have hz0 : r0 = 1 := by rcases hp.2 with h | h; exact h.1; exact absurd ⟨1, by decide, rfl⟩ h.2
  refine lv_if_eq (tgt := 42) hx hb d_Mdl_work_7 (by decide) (fun c9 => absurd (hz0.symm.trans c9) (by decide)) (fun _ => ?_)
  refine lv_iload_n hx hb d_Mdl_work_10 rfl (lv_at hl 2 rfl) ?_
  refine lv_bipush (v := 7) hx hb d_Mdl_work_11 (by decide) ?_
  refine gm_Si hx hb hml hown hW X (r_Mdl_in_8 l E N τ cd) (n := 2) ⟨⟨wl_Mdl_164, ws_Mdl_in, winit_Mdl, wc_Mdl_in⟩, by decide +kernel, Nat.le_of_ble_eq_true rfl, Nat.le_of_ble_eq_true rfl⟩ rfl hl.1 rfl (Nat.le_of_ble_eq_true rfl) d_Mdl_work_13 ⟨Nat.le_of_ble_eq_true rfl, Nat.le_of_ble_eq_true rfl⟩ (fun r1 M1 H locs hp X => ?_)
  rw [hp.1] at X
  have hz1 : r1 = 1 := by rcases hp.2 with h | h; exact h.1; exact absurd ⟨t, h_t, rfl⟩ h.2
  refine lv_if_eq (tgt := 42) hx hb d_Mdl_work_16 (by decide) (fun c9 => absurd (hz1.symm.trans c9) (by decide)) (fun _ => ?_)
  refine lv_iload_n hx hb d_Mdl_work_19 rfl (lv_at hl 3 rfl) ?_
  refine lv_bipush (v := 7) hx hb d_Mdl_work_20 (by decide) ?_
  refine gm_Si hx hb hml hown hW X (r_Mdl_in_8 l E N τ cd) (n := 2) ⟨⟨wl_Mdl_164, ws_Mdl_in, winit_Mdl, wc_Mdl_in⟩, by decide +kernel, Nat.le_of_ble_eq_true rfl, Nat.le_of_ble_eq_true rfl⟩ rfl hl.1 rfl (Nat.le_of_ble_eq_true rfl) d_Mdl_work_22 ⟨Nat.le_of_ble_eq_true rfl, Nat.le_of_ble_eq_true rfl⟩ (fun r2 M1 H locs hp X => ?_)
  rw [hp.1] at X
  have hz2 : r2 = 1 := by rcases hp.2 with h | h; exact h.1; exact absurd ⟨a, h_a, rfl⟩ h.2
  refine lv_if_eq (tgt := 42) hx hb d_Mdl_work_25 (by decide) (fun c9 => absurd (hz2.symm.trans c9) (by decide)) (fun _ => ?_)
  refine lv_iload hx hb d_Mdl_work_28 (lv_at hl 4 rfl) ?_
  refine lv_bipush (v := 7) hx hb d_Mdl_work_30 (by decide) ?_
  refine gm_Si hx hb hml hown hW X (r_Mdl_in_8 l E N τ cd) (n := 2) ⟨⟨wl_Mdl_164, ws_Mdl_in, winit_Mdl, wc_Mdl_in⟩, by decide +kernel, Nat.le_of_ble_eq_true rfl, Nat.le_of_ble_eq_true rfl⟩ rfl hl.1 rfl (Nat.le_of_ble_eq_true rfl) d_Mdl_work_32 ⟨Nat.le_of_ble_eq_true rfl, Nat.le_of_ble_eq_true rfl⟩ (fun r3 M1 H locs hp X => ?_)
  rw [hp.1] at X
  have hz3 : r3 = 1 := by rcases hp.2 with h | h; exact h.1; exact absurd ⟨b, h_b, rfl⟩ h.2
  refine lv_if_eq (tgt := 42) hx hb d_Mdl_work_35 (by decide) (fun c9 => absurd (hz3.symm.trans c9) (by decide)) (fun _ => ?_)
  refine lv_iconst (v := 1) hx hb d_Mdl_work_38 (by decide) ?_
  refine lv_goto (tgt := 43) hx hb d_Mdl_work_39 (by decide) ?_
  refine gm_Vi hx hb hml hown hW X m53 (r_Mdl_good_1 l E N τ cd) (n := 1) ⟨⟨wl_Mdl_168, wi_Mdl_good, wsel_Mdl_good, winit_Mdl, wc_Mdl_good⟩, by decide +kernel, ⟨Nat.le_of_ble_eq_true rfl, Nat.le_of_ble_eq_true rfl⟩, _, rfl, rfl⟩ rfl hl.1 rfl (Nat.le_of_ble_eq_true rfl) d_Mdl_work_43 ⟨Nat.le_of_ble_eq_true rfl, Nat.le_of_ble_eq_true rfl⟩ (fun r9 M1 H locs hp X => ?_)
  rw [hp.1] at X
  have hr9 := hp.2
  refine lv_if_ne (tgt := 51) hx hb d_Mdl_work_46 (by decide) (fun _ => ?_) (fun c9 => absurd (hr9.symm.trans c9) (by decide))
  have hm : (IV (τ 100) 8 : Int) = nP := hr.1
  refine lv_iload_n hx hb d_Mdl_work_51 rfl (lv_at hl 1 rfl) ?_
  refine lv_iconst (v := 4) hx hb d_Mdl_work_52 (by decide) ?_
  refine lv_icmp_ge (tgt := 63) hx hb d_Mdl_work_53 (by decide) (fun c9 => absurd c9 (by decide)) (fun _ => ?_)
  refine lv_aload_n hx hb d_Mdl_work_56 rfl (lv_at hl 0 rfl) ?_
  refine gm_get hx hb hW hown X u_Mdl m53 rfl 0 (by decide) wf_Mdl_13 (v := .ref (E.2.1 + 99)) rfl d_Mdl_work_57 ?_
  refine lv_goto (tgt := 67) hx hb d_Mdl_work_60 (by decide) ?_
  refine lv_astore (lv' := [(5, .ref (E.2.1 + 99)), (0, .ref (E.2.1 + 53)), (1, .int 1), (2, .int (nI t)), (3, .int (nI a)), (4, .int (nI b))]) hx hb d_Mdl_work_67 hl (by decide) rfl (fun ls hl => ?_)
  refine lv_iload_n hx hb d_Mdl_work_69 rfl (lv_at hl 2 rfl) ?_
  refine lv_iconst (v := 3) hx hb d_Mdl_work_70 (by decide) ?_
  refine lv_iand hx hb d_Mdl_work_71 ?_
  refine lv_eqi (v := 1) (by decide) ?_
  refine lv_istore (lv' := [(6, .int 1), (5, .ref (E.2.1 + 99)), (0, .ref (E.2.1 + 53)), (1, .int 1), (2, .int (nI t)), (3, .int (nI a)), (4, .int (nI b))]) hx hb d_Mdl_work_72 hl (by decide) rfl (fun ls hl => ?_)
  refine lv_aload_n hx hb d_Mdl_work_74 rfl (lv_at hl 2 rfl) ?_
  refine gm_get hx hb hW hown X u_Mdl m53 rfl 15 (by decide) wf_Mdl_103 (v := .ref (E.2.1 + 79)) rfl d_Mdl_work_75 ?_
  refine lv_iload_n hx hb d_Mdl_work_78 rfl (lv_at hl 5 rfl) ?_
  refine gm_aald2 hx hb X (k := a) (t := E.2.1 + (80 + a)) m79 rfl rfl ⟨h_a, by decide⟩ (if_pos h_a) d_Mdl_work_79 ?_
  refine lv_aload hx hb d_Mdl_work_80 (lv_at hl 1 rfl) ?_
  refine gm_getN hx hb hW hown X u_Rng m99 rfl 0 (by decide) wfn_Mdl_178 (v := .ref (E.2.1 + 100)) rfl d_Mdl_work_82 ?_
  refine gm_Si hx hb hml hown hW X (c_Rng_compare l E _ (mw_row (q8_n h_a)) (mw_row (k := 100) (by decide))) (n := 2) ⟨⟨wl_Mdl_174, ws_Rng_compare, winit_Rng, wc_Rng_compare⟩, by decide +kernel, Nat.le_of_ble_eq_true rfl, Nat.le_of_ble_eq_true rfl⟩ rfl hl.1 rfl (Nat.le_of_ble_eq_true rfl) d_Mdl_work_85 ⟨Nat.le_of_ble_eq_true rfl, Nat.le_of_ble_eq_true rfl⟩ (fun ra M1 H locs hp X => ?_)
  rw [hp.1] at X
  have hq_ra := (ordI_ok (τ (80 + a)) (τ 100) 8).2.1
  rw [← hp.2] at hq_ra
  refine lv_if_ge (tgt := 133) hx hb d_Mdl_work_88 (by decide) (fun c88 => ?_) (fun c88 => ?_)
  · have hlt := hq_ra.mp c88
    refine lv_iconst (v := 0) hx hb d_Mdl_work_133 (by decide) ?_
    exact gm_zret hx hb hr2 hlk X rfl ⟨τ, rfl, Or.inl ⟨rfl, fun z => by have := z.1; omega, fun _ _ _ _ => rfl⟩⟩ d_Mdl_work_134
  · have hla : (IV (τ (80 + a)) 8 : Int) < nP := by have q : ¬ IV (τ 100) 8 ≤ IV (τ (80 + a)) 8 := fun z => c88 (hq_ra.mpr z); omega
    refine lv_iload hx hb d_Mdl_work_91 (lv_at hl 0 rfl) ?_
    refine lv_iconst (v := 3) hx hb d_Mdl_work_93 (by decide) ?_
    refine lv_icmp_ge (tgt := 115) hx hb d_Mdl_work_94 (by decide) (fun c9 => absurd c9 (by decide)) (fun _ => ?_)
    refine lv_aload_n hx hb d_Mdl_work_97 rfl (lv_at hl 2 rfl) ?_
    refine gm_get hx hb hW hown X u_Mdl m53 rfl 15 (by decide) wf_Mdl_103 (v := .ref (E.2.1 + 79)) rfl d_Mdl_work_98 ?_
    refine lv_iload hx hb d_Mdl_work_101 (lv_at hl 6 rfl) ?_
    refine gm_aald2 hx hb X (k := b) (t := E.2.1 + (80 + b)) m79 rfl rfl ⟨h_b, by decide⟩ (if_pos h_b) d_Mdl_work_103 ?_
    refine lv_aload hx hb d_Mdl_work_104 (lv_at hl 1 rfl) ?_
    refine gm_getN hx hb hW hown X u_Rng m99 rfl 0 (by decide) wfn_Mdl_178 (v := .ref (E.2.1 + 100)) rfl d_Mdl_work_106 ?_
    refine gm_Si hx hb hml hown hW X (c_Rng_compare l E _ (mw_row (q8_n h_b)) (mw_row (k := 100) (by decide))) (n := 2) ⟨⟨wl_Mdl_174, ws_Rng_compare, winit_Rng, wc_Rng_compare⟩, by decide +kernel, Nat.le_of_ble_eq_true rfl, Nat.le_of_ble_eq_true rfl⟩ rfl hl.1 rfl (Nat.le_of_ble_eq_true rfl) d_Mdl_work_109 ⟨Nat.le_of_ble_eq_true rfl, Nat.le_of_ble_eq_true rfl⟩ (fun rb M1 H locs hp X => ?_)
    rw [hp.1] at X
    have hq_rb := (ordI_ok (τ (80 + b)) (τ 100) 8).2.1
    rw [← hp.2] at hq_rb
    refine lv_if_ge (tgt := 133) hx hb d_Mdl_work_112 (by decide) (fun c112 => ?_) (fun c112 => ?_)
    · have hlt := hq_rb.mp c112
      refine lv_iconst (v := 0) hx hb d_Mdl_work_133 (by decide) ?_
      exact gm_zret hx hb hr2 hlk X rfl ⟨τ, rfl, Or.inl ⟨rfl, fun z => by have z2 : (IV (τ (80 + b)) 8 : Int) < nP := z.2; omega, fun _ _ _ _ => rfl⟩⟩ d_Mdl_work_134
    · have hq2 : (IV (τ (80 + b)) 8 : Int) < nP := by have q : ¬ IV (τ 100) 8 ≤ IV (τ (80 + b)) 8 := fun z => c112 (hq_rb.mpr z); omega
      refine lv_iload hx hb d_Mdl_work_115 (lv_at hl 0 rfl) ?_
      refine lv_iconst (v := 3) hx hb d_Mdl_work_117 (by decide) ?_
      refine lv_icmp_ne (tgt := 135) hx hb d_Mdl_work_118 (by decide) (fun _ => ?_) (fun c9 => absurd c9 (by decide))
      refine lv_aload hx hb d_Mdl_work_135 (lv_at hl 1 rfl) ?_
      refine lv_aload_n hx hb d_Mdl_work_137 rfl (lv_at hl 2 rfl) ?_
      refine gm_get hx hb hW hown X u_Mdl m53 rfl 15 (by decide) wf_Mdl_103 (v := .ref (E.2.1 + 79)) rfl d_Mdl_work_138 ?_
      refine lv_iload_n hx hb d_Mdl_work_141 rfl (lv_at hl 5 rfl) ?_
      refine gm_aald2 hx hb X (k := a) (t := E.2.1 + (80 + a)) m79 rfl rfl ⟨h_a, by decide⟩ (if_pos h_a) d_Mdl_work_142 ?_
      refine lv_aload_n hx hb d_Mdl_work_143 rfl (lv_at hl 2 rfl) ?_
      refine gm_get hx hb hW hown X u_Mdl m53 rfl 20 (by decide) wf_Mdl_119 (v := .ref (E.2.1 + 95)) rfl d_Mdl_work_144 ?_
      refine gm_Vv hx hb hml hown hW X m99 (q_enter l hpP hf hR hr (by decide) (q8_n h_a) (by omega)) (n := 2) ⟨⟨wl_Mdl_135, wi_Rng_enter, wsel_Rng_enter, winit_Rng, wc_Rng_enter⟩, by decide +kernel, ⟨Nat.le_of_ble_eq_true rfl, Nat.le_of_ble_eq_true rfl⟩, _, rfl, rfl⟩ rfl hl.1 rfl (Nat.le_of_ble_eq_true rfl) d_Mdl_work_147 ⟨Nat.le_of_ble_eq_true rfl, Nat.le_of_ble_eq_true rfl⟩ (fun M1 H locs hp X => ?_)
      obtain ⟨τ1, rfl, q1, kk1⟩ := hp
      have R_1 : isR φ nP 99 τ1 := hr.kp (fun j h1 h2 => kk1 j (by omega) (by omega))
      have R2_1 : isR ψ nN 107 τ1 := hrN.kp (fun j h1 h2 => kk1 j (by omega) (by omega))
      have m95_1 : MV φ nP (τ1 95) (φ (IV (τ (80 + a)) 8)) := q1
      refine lv_iload hx hb d_Mdl_work_150 (lv_at hl 0 rfl) ?_
      refine lv_iconst (v := 3) hx hb d_Mdl_work_152 (by decide) ?_
      refine lv_icmp_ge (tgt := 172) hx hb d_Mdl_work_153 (by decide) (fun c9 => absurd c9 (by decide)) (fun _ => ?_)
      refine lv_aload hx hb d_Mdl_work_156 (lv_at hl 1 rfl) ?_
      refine lv_aload_n hx hb d_Mdl_work_158 rfl (lv_at hl 2 rfl) ?_
      refine gm_get hx hb hW hown X u_Mdl m53 rfl 15 (by decide) wf_Mdl_103 (v := .ref (E.2.1 + 79)) rfl d_Mdl_work_159 ?_
      refine lv_iload hx hb d_Mdl_work_162 (lv_at hl 6 rfl) ?_
      refine gm_aald2 hx hb X (k := b) (t := E.2.1 + (80 + b)) m79 rfl rfl ⟨h_b, by decide⟩ (if_pos h_b) d_Mdl_work_164 ?_
      refine lv_aload_n hx hb d_Mdl_work_165 rfl (lv_at hl 2 rfl) ?_
      refine gm_get hx hb hW hown X u_Mdl m53 rfl 21 (by decide) wf_Mdl_122 (v := .ref (E.2.1 + 96)) rfl d_Mdl_work_166 ?_
      have e169 := (show τ1 (80 + b) = τ (80 + b) by rw [kk1 (80 + b) (by omega) (by omega)])
      refine gm_Vv hx hb hml hown hW X m99 (q_enter l hpP hf hR R_1 (by decide) (q8_n h_b) (by omega)) (n := 2) ⟨⟨wl_Mdl_135, wi_Rng_enter, wsel_Rng_enter, winit_Rng, wc_Rng_enter⟩, by decide +kernel, ⟨Nat.le_of_ble_eq_true rfl, Nat.le_of_ble_eq_true rfl⟩, _, rfl, rfl⟩ rfl hl.1 rfl (Nat.le_of_ble_eq_true rfl) d_Mdl_work_169 ⟨Nat.le_of_ble_eq_true rfl, Nat.le_of_ble_eq_true rfl⟩ (fun M1 H locs hp X => ?_)
      obtain ⟨τ2, rfl, q2, kk2⟩ := hp
      have m95_2 : MV φ nP (τ2 95) (φ (IV (τ (80 + a)) 8)) := by rw [kk2 95 (by omega) (by omega)]; exact m95_1
      have R_2 : isR φ nP 99 τ2 := R_1.kp (fun j h1 h2 => kk2 j (by omega) (by omega))
      have R2_2 : isR ψ nN 107 τ2 := R2_1.kp (fun j h1 h2 => kk2 j (by omega) (by omega))
      have m96_2 : MV φ nP (τ2 96) (φ (IV (τ (80 + b)) 8)) := by rw [← e169]; exact q2
      refine lv_iload hx hb d_Mdl_work_172 (lv_at hl 0 rfl) ?_
      refine lv_if_ne (tgt := 197) hx hb d_Mdl_work_174 (by decide) (fun _ => ?_) (fun c9 => absurd c9 (by decide))
      refine lv_iload hx hb d_Mdl_work_197 (lv_at hl 0 rfl) ?_
      refine lv_iconst (v := 1) hx hb d_Mdl_work_199 (by decide) ?_
      refine lv_icmp_ne (tgt := 223) hx hb d_Mdl_work_200 (by decide) (fun c9 => absurd rfl c9) (fun _ => ?_)
      refine lv_aload hx hb d_Mdl_work_203 (lv_at hl 1 rfl) ?_
      refine lv_aload_n hx hb d_Mdl_work_205 rfl (lv_at hl 2 rfl) ?_
      refine gm_get hx hb hW hown X u_Mdl m53 rfl 20 (by decide) wf_Mdl_119 (v := .ref (E.2.1 + 95)) rfl d_Mdl_work_206 ?_
      refine lv_aload_n hx hb d_Mdl_work_209 rfl (lv_at hl 2 rfl) ?_
      refine gm_get hx hb hW hown X u_Mdl m53 rfl 21 (by decide) wf_Mdl_122 (v := .ref (E.2.1 + 96)) rfl d_Mdl_work_210 ?_
      refine lv_aload_n hx hb d_Mdl_work_213 rfl (lv_at hl 2 rfl) ?_
      refine gm_get hx hb hW hown X u_Mdl m53 rfl 20 (by decide) wf_Mdl_119 (v := .ref (E.2.1 + 95)) rfl d_Mdl_work_214 ?_
      refine gm_Vv hx hb hml hown hW X m99 (q_subtract l hpP hf R_2 (by decide) (by decide) (by decide) (by omega) m95_2 m96_2) (n := 3) ⟨⟨wl_Mdl_47, wi_Rng_subtract, wsel_Rng_subtract, winit_Rng, wc_Rng_subtract⟩, by decide +kernel, ⟨Nat.le_of_ble_eq_true rfl, Nat.le_of_ble_eq_true rfl⟩, _, rfl, rfl⟩ rfl hl.1 rfl (Nat.le_of_ble_eq_true rfl) d_Mdl_work_217 ⟨Nat.le_of_ble_eq_true rfl, Nat.le_of_ble_eq_true rfl⟩ (fun M1 H locs hp X => ?_)
      obtain ⟨τ3, rfl, q3, kk3⟩ := hp
      have m96_3 : MV φ nP (τ3 96) (φ (IV (τ (80 + b)) 8)) := by rw [kk3 96 (by omega) (by omega)]; exact m96_2
      have R_3 : isR φ nP 99 τ3 := R_2.kp (fun j h1 h2 => kk3 j (by omega) (by omega))
      have R2_3 : isR ψ nN 107 τ3 := R2_2.kp (fun j h1 h2 => kk3 j (by omega) (by omega))
      have m95_3 : MV φ nP (τ3 95) ((φ (IV (τ (80 + a)) 8)) - (φ (IV (τ (80 + b)) 8))) := q3
      refine lv_goto (tgt := 265) hx hb d_Mdl_work_220 (by decide) ?_
      refine lv_aload hx hb d_Mdl_work_265 (lv_at hl 1 rfl) ?_
      refine lv_aload_n hx hb d_Mdl_work_267 rfl (lv_at hl 2 rfl) ?_
      refine gm_get hx hb hW hown X u_Mdl m53 rfl 20 (by decide) wf_Mdl_119 (v := .ref (E.2.1 + 95)) rfl d_Mdl_work_268 ?_
      refine lv_aload_n hx hb d_Mdl_work_271 rfl (lv_at hl 2 rfl) ?_
      refine gm_get hx hb hW hown X u_Mdl m53 rfl 15 (by decide) wf_Mdl_103 (v := .ref (E.2.1 + 79)) rfl d_Mdl_work_272 ?_
      refine lv_iload_n hx hb d_Mdl_work_275 rfl (lv_at hl 4 rfl) ?_
      refine gm_aald2 hx hb X (k := t) (t := E.2.1 + (80 + t)) m79 rfl rfl ⟨h_t, by decide⟩ (if_pos h_t) d_Mdl_work_276 ?_
      refine gm_Vv hx hb hml hown hW X m99 (q_leave l hpP hf hR R_3 (q8_n h_t) (by decide) (by omega) m95_3) (n := 2) ⟨⟨wl_Mdl_65, wi_Rng_leave, wsel_Rng_leave, winit_Rng, wc_Rng_leave⟩, by decide +kernel, ⟨Nat.le_of_ble_eq_true rfl, Nat.le_of_ble_eq_true rfl⟩, _, rfl, rfl⟩ rfl hl.1 rfl (Nat.le_of_ble_eq_true rfl) d_Mdl_work_277 ⟨Nat.le_of_ble_eq_true rfl, Nat.le_of_ble_eq_true rfl⟩ (fun M1 H locs hp X => ?_)
      obtain ⟨τ4, rfl, q4, kk4⟩ := hp
      have m96_4 : MV φ nP (τ4 96) (φ (IV (τ (80 + b)) 8)) := by rw [kk4 96 (by omega) (by omega)]; exact m96_3
      have m95_4 : MV φ nP (τ4 95) ((φ (IV (τ (80 + a)) 8)) - (φ (IV (τ (80 + b)) 8))) := by rw [kk4 95 (by omega) (by omega)]; exact m95_3
      have R_4 : isR φ nP 99 τ4 := R_3.kp (fun j h1 h2 => kk4 j (by omega) (by omega))
      have R2_4 : isR ψ nN 107 τ4 := R2_3.kp (fun j h1 h2 => kk4 j (by omega) (by omega))
      have p80t_4 : PV φ nP (τ4 (80 + t)) ((φ (IV (τ (80 + a)) 8)) - (φ (IV (τ (80 + b)) 8))) := q4
      refine lv_iconst (v := 1) hx hb d_Mdl_work_280 (by decide) ?_
      refine gm_zret hx hb hr2 hlk X rfl ⟨_, rfl, Or.inr ⟨rfl, ⟨hla, hq2⟩, ?_, fun j hj h1 h2 => by have hj := hj.o; rw [kk4 j (by omega) (by omega), kk3 j (by omega) (by omega), kk2 j (by omega) (by omega), kk1 j (by omega) (by omega)]⟩⟩ d_Mdl_work_281
      exact PV.rep hf p80t_4
set_option maxHeartbeats 4000000 in
theorem r_Mdl_work_ok_2 {F G : Type} [Lean.Grind.CommRing F] [Lean.Grind.CommRing G] {φ : Int → F} {inv : F → F} {ψ : Int → G} (l : Launch) (E : gm_E) (N : gm_M) (τ : Nat → Nat → Int32) (cd : Int32) (hk : fk φ inv) {Ri : F} (hR : φ (tq 8) * Ri = 1) (hgN : fm ψ nN) {Si : G} (hS : ψ (tq 8) * Si = 1) (hr : isR φ nP 99 τ) (hrN : isR ψ nN 107 τ) (h7 : MV φ nP (τ 54) 7) {t : Nat} (h_t : t < 8) {a : Nat} (h_a : a < 8) {b : Nat} (h_b : b < 8)  : ci_ l y_Mdl_work b_Mdl_work 7 (some .boolean) { frames := 3, cells := 0, slots := 0, locals := 78 } E (mW E N τ cd) [.ref (E.2.1 + 53), .int 2, .int (nI t), .int (nI a), .int (nI b)] (fun r M' => ∃ τ', M' = mW E N τ' 0 ∧ ((r = 0 ∧ ¬ wkOK 2 nP (IV (τ (80 + a)) 8) (IV (τ (80 + b)) 8) ∧ kMn 0 0 τ τ') ∨ (r = 1 ∧ wkOK 2 nP (IV (τ (80 + a)) 8) (IV (τ (80 + b)) 8) ∧ IV (τ' (80 + t)) 8 = rp φ nP (wkV φ 2 (NV sP2) (IV (τ (80 + a)) 8) (IV (τ (80 + b)) 8)) ∧ kMn (80 + t) 0 τ τ'))) := by
  have hf := hk.fm
  have hpP := rPl_P E
  have hpN := rPl_N E
  refine gm_met (by decide) (Nat.le_of_ble_eq_true rfl) (fun p e s m below meth c ls hx hb hml hr2 hlk hnm hown hW X hl => ?_)
  have hl : lv_has ls 7 [(0, .ref (E.2.1 + 53)), (1, .int 2), (2, .int (nI t)), (3, .int (nI a)), (4, .int (nI b))] := hl
  refine lv_aload_n hx hb d_Mdl_work_0 rfl (lv_at hl 0 rfl) ?_
  refine lv_iload_n hx hb d_Mdl_work_1 rfl (lv_at hl 1 rfl) ?_
  refine lv_bipush (v := 7) hx hb d_Mdl_work_2 (by decide) ?_
  refine gm_Si hx hb hml hown hW X (r_Mdl_in_8 l E N τ cd) (n := 2) ⟨⟨wl_Mdl_164, ws_Mdl_in, winit_Mdl, wc_Mdl_in⟩, by decide +kernel, Nat.le_of_ble_eq_true rfl, Nat.le_of_ble_eq_true rfl⟩ rfl hl.1 rfl (Nat.le_of_ble_eq_true rfl) d_Mdl_work_4 ⟨Nat.le_of_ble_eq_true rfl, Nat.le_of_ble_eq_true rfl⟩ (fun r0 M1 H locs hp X => ?_)
  rw [hp.1] at X
  have hz0 : r0 = 1 := by rcases hp.2 with h | h; exact h.1; exact absurd ⟨2, by decide, rfl⟩ h.2
  refine lv_if_eq (tgt := 42) hx hb d_Mdl_work_7 (by decide) (fun c9 => absurd (hz0.symm.trans c9) (by decide)) (fun _ => ?_)
  refine lv_iload_n hx hb d_Mdl_work_10 rfl (lv_at hl 2 rfl) ?_
  refine lv_bipush (v := 7) hx hb d_Mdl_work_11 (by decide) ?_
  refine gm_Si hx hb hml hown hW X (r_Mdl_in_8 l E N τ cd) (n := 2) ⟨⟨wl_Mdl_164, ws_Mdl_in, winit_Mdl, wc_Mdl_in⟩, by decide +kernel, Nat.le_of_ble_eq_true rfl, Nat.le_of_ble_eq_true rfl⟩ rfl hl.1 rfl (Nat.le_of_ble_eq_true rfl) d_Mdl_work_13 ⟨Nat.le_of_ble_eq_true rfl, Nat.le_of_ble_eq_true rfl⟩ (fun r1 M1 H locs hp X => ?_)
  rw [hp.1] at X
  have hz1 : r1 = 1 := by rcases hp.2 with h | h; exact h.1; exact absurd ⟨t, h_t, rfl⟩ h.2
  refine lv_if_eq (tgt := 42) hx hb d_Mdl_work_16 (by decide) (fun c9 => absurd (hz1.symm.trans c9) (by decide)) (fun _ => ?_)
  refine lv_iload_n hx hb d_Mdl_work_19 rfl (lv_at hl 3 rfl) ?_
  refine lv_bipush (v := 7) hx hb d_Mdl_work_20 (by decide) ?_
  refine gm_Si hx hb hml hown hW X (r_Mdl_in_8 l E N τ cd) (n := 2) ⟨⟨wl_Mdl_164, ws_Mdl_in, winit_Mdl, wc_Mdl_in⟩, by decide +kernel, Nat.le_of_ble_eq_true rfl, Nat.le_of_ble_eq_true rfl⟩ rfl hl.1 rfl (Nat.le_of_ble_eq_true rfl) d_Mdl_work_22 ⟨Nat.le_of_ble_eq_true rfl, Nat.le_of_ble_eq_true rfl⟩ (fun r2 M1 H locs hp X => ?_)
  rw [hp.1] at X
  have hz2 : r2 = 1 := by rcases hp.2 with h | h; exact h.1; exact absurd ⟨a, h_a, rfl⟩ h.2
  refine lv_if_eq (tgt := 42) hx hb d_Mdl_work_25 (by decide) (fun c9 => absurd (hz2.symm.trans c9) (by decide)) (fun _ => ?_)
  refine lv_iload hx hb d_Mdl_work_28 (lv_at hl 4 rfl) ?_
  refine lv_bipush (v := 7) hx hb d_Mdl_work_30 (by decide) ?_
  refine gm_Si hx hb hml hown hW X (r_Mdl_in_8 l E N τ cd) (n := 2) ⟨⟨wl_Mdl_164, ws_Mdl_in, winit_Mdl, wc_Mdl_in⟩, by decide +kernel, Nat.le_of_ble_eq_true rfl, Nat.le_of_ble_eq_true rfl⟩ rfl hl.1 rfl (Nat.le_of_ble_eq_true rfl) d_Mdl_work_32 ⟨Nat.le_of_ble_eq_true rfl, Nat.le_of_ble_eq_true rfl⟩ (fun r3 M1 H locs hp X => ?_)
  rw [hp.1] at X
  have hz3 : r3 = 1 := by rcases hp.2 with h | h; exact h.1; exact absurd ⟨b, h_b, rfl⟩ h.2
  refine lv_if_eq (tgt := 42) hx hb d_Mdl_work_35 (by decide) (fun c9 => absurd (hz3.symm.trans c9) (by decide)) (fun _ => ?_)
  refine lv_iconst (v := 1) hx hb d_Mdl_work_38 (by decide) ?_
  refine lv_goto (tgt := 43) hx hb d_Mdl_work_39 (by decide) ?_
  refine gm_Vi hx hb hml hown hW X m53 (r_Mdl_good_1 l E N τ cd) (n := 1) ⟨⟨wl_Mdl_168, wi_Mdl_good, wsel_Mdl_good, winit_Mdl, wc_Mdl_good⟩, by decide +kernel, ⟨Nat.le_of_ble_eq_true rfl, Nat.le_of_ble_eq_true rfl⟩, _, rfl, rfl⟩ rfl hl.1 rfl (Nat.le_of_ble_eq_true rfl) d_Mdl_work_43 ⟨Nat.le_of_ble_eq_true rfl, Nat.le_of_ble_eq_true rfl⟩ (fun r9 M1 H locs hp X => ?_)
  rw [hp.1] at X
  have hr9 := hp.2
  refine lv_if_ne (tgt := 51) hx hb d_Mdl_work_46 (by decide) (fun _ => ?_) (fun c9 => absurd (hr9.symm.trans c9) (by decide))
  have hm : (IV (τ 100) 8 : Int) = nP := hr.1
  refine lv_iload_n hx hb d_Mdl_work_51 rfl (lv_at hl 1 rfl) ?_
  refine lv_iconst (v := 4) hx hb d_Mdl_work_52 (by decide) ?_
  refine lv_icmp_ge (tgt := 63) hx hb d_Mdl_work_53 (by decide) (fun c9 => absurd c9 (by decide)) (fun _ => ?_)
  refine lv_aload_n hx hb d_Mdl_work_56 rfl (lv_at hl 0 rfl) ?_
  refine gm_get hx hb hW hown X u_Mdl m53 rfl 0 (by decide) wf_Mdl_13 (v := .ref (E.2.1 + 99)) rfl d_Mdl_work_57 ?_
  refine lv_goto (tgt := 67) hx hb d_Mdl_work_60 (by decide) ?_
  refine lv_astore (lv' := [(5, .ref (E.2.1 + 99)), (0, .ref (E.2.1 + 53)), (1, .int 2), (2, .int (nI t)), (3, .int (nI a)), (4, .int (nI b))]) hx hb d_Mdl_work_67 hl (by decide) rfl (fun ls hl => ?_)
  refine lv_iload_n hx hb d_Mdl_work_69 rfl (lv_at hl 2 rfl) ?_
  refine lv_iconst (v := 3) hx hb d_Mdl_work_70 (by decide) ?_
  refine lv_iand hx hb d_Mdl_work_71 ?_
  refine lv_eqi (v := 2) (by decide) ?_
  refine lv_istore (lv' := [(6, .int 2), (5, .ref (E.2.1 + 99)), (0, .ref (E.2.1 + 53)), (1, .int 2), (2, .int (nI t)), (3, .int (nI a)), (4, .int (nI b))]) hx hb d_Mdl_work_72 hl (by decide) rfl (fun ls hl => ?_)
  refine lv_aload_n hx hb d_Mdl_work_74 rfl (lv_at hl 2 rfl) ?_
  refine gm_get hx hb hW hown X u_Mdl m53 rfl 15 (by decide) wf_Mdl_103 (v := .ref (E.2.1 + 79)) rfl d_Mdl_work_75 ?_
  refine lv_iload_n hx hb d_Mdl_work_78 rfl (lv_at hl 5 rfl) ?_
  refine gm_aald2 hx hb X (k := a) (t := E.2.1 + (80 + a)) m79 rfl rfl ⟨h_a, by decide⟩ (if_pos h_a) d_Mdl_work_79 ?_
  refine lv_aload hx hb d_Mdl_work_80 (lv_at hl 1 rfl) ?_
  refine gm_getN hx hb hW hown X u_Rng m99 rfl 0 (by decide) wfn_Mdl_178 (v := .ref (E.2.1 + 100)) rfl d_Mdl_work_82 ?_
  refine gm_Si hx hb hml hown hW X (c_Rng_compare l E _ (mw_row (q8_n h_a)) (mw_row (k := 100) (by decide))) (n := 2) ⟨⟨wl_Mdl_174, ws_Rng_compare, winit_Rng, wc_Rng_compare⟩, by decide +kernel, Nat.le_of_ble_eq_true rfl, Nat.le_of_ble_eq_true rfl⟩ rfl hl.1 rfl (Nat.le_of_ble_eq_true rfl) d_Mdl_work_85 ⟨Nat.le_of_ble_eq_true rfl, Nat.le_of_ble_eq_true rfl⟩ (fun ra M1 H locs hp X => ?_)
  rw [hp.1] at X
  have hq_ra := (ordI_ok (τ (80 + a)) (τ 100) 8).2.1
  rw [← hp.2] at hq_ra
  refine lv_if_ge (tgt := 133) hx hb d_Mdl_work_88 (by decide) (fun c88 => ?_) (fun c88 => ?_)
  · have hlt := hq_ra.mp c88
    refine lv_iconst (v := 0) hx hb d_Mdl_work_133 (by decide) ?_
    exact gm_zret hx hb hr2 hlk X rfl ⟨τ, rfl, Or.inl ⟨rfl, fun z => by have := z.1; omega, fun _ _ _ _ => rfl⟩⟩ d_Mdl_work_134
  · have hla : (IV (τ (80 + a)) 8 : Int) < nP := by have q : ¬ IV (τ 100) 8 ≤ IV (τ (80 + a)) 8 := fun z => c88 (hq_ra.mpr z); omega
    refine lv_iload hx hb d_Mdl_work_91 (lv_at hl 0 rfl) ?_
    refine lv_iconst (v := 3) hx hb d_Mdl_work_93 (by decide) ?_
    refine lv_icmp_ge (tgt := 115) hx hb d_Mdl_work_94 (by decide) (fun c9 => absurd c9 (by decide)) (fun _ => ?_)
    refine lv_aload_n hx hb d_Mdl_work_97 rfl (lv_at hl 2 rfl) ?_
    refine gm_get hx hb hW hown X u_Mdl m53 rfl 15 (by decide) wf_Mdl_103 (v := .ref (E.2.1 + 79)) rfl d_Mdl_work_98 ?_
    refine lv_iload hx hb d_Mdl_work_101 (lv_at hl 6 rfl) ?_
    refine gm_aald2 hx hb X (k := b) (t := E.2.1 + (80 + b)) m79 rfl rfl ⟨h_b, by decide⟩ (if_pos h_b) d_Mdl_work_103 ?_
    refine lv_aload hx hb d_Mdl_work_104 (lv_at hl 1 rfl) ?_
    refine gm_getN hx hb hW hown X u_Rng m99 rfl 0 (by decide) wfn_Mdl_178 (v := .ref (E.2.1 + 100)) rfl d_Mdl_work_106 ?_
    refine gm_Si hx hb hml hown hW X (c_Rng_compare l E _ (mw_row (q8_n h_b)) (mw_row (k := 100) (by decide))) (n := 2) ⟨⟨wl_Mdl_174, ws_Rng_compare, winit_Rng, wc_Rng_compare⟩, by decide +kernel, Nat.le_of_ble_eq_true rfl, Nat.le_of_ble_eq_true rfl⟩ rfl hl.1 rfl (Nat.le_of_ble_eq_true rfl) d_Mdl_work_109 ⟨Nat.le_of_ble_eq_true rfl, Nat.le_of_ble_eq_true rfl⟩ (fun rb M1 H locs hp X => ?_)
    rw [hp.1] at X
    have hq_rb := (ordI_ok (τ (80 + b)) (τ 100) 8).2.1
    rw [← hp.2] at hq_rb
    refine lv_if_ge (tgt := 133) hx hb d_Mdl_work_112 (by decide) (fun c112 => ?_) (fun c112 => ?_)
    · have hlt := hq_rb.mp c112
      refine lv_iconst (v := 0) hx hb d_Mdl_work_133 (by decide) ?_
      exact gm_zret hx hb hr2 hlk X rfl ⟨τ, rfl, Or.inl ⟨rfl, fun z => by have z2 : (IV (τ (80 + b)) 8 : Int) < nP := z.2; omega, fun _ _ _ _ => rfl⟩⟩ d_Mdl_work_134
    · have hq2 : (IV (τ (80 + b)) 8 : Int) < nP := by have q : ¬ IV (τ 100) 8 ≤ IV (τ (80 + b)) 8 := fun z => c112 (hq_rb.mpr z); omega
      refine lv_iload hx hb d_Mdl_work_115 (lv_at hl 0 rfl) ?_
      refine lv_iconst (v := 3) hx hb d_Mdl_work_117 (by decide) ?_
      refine lv_icmp_ne (tgt := 135) hx hb d_Mdl_work_118 (by decide) (fun _ => ?_) (fun c9 => absurd c9 (by decide))
      refine lv_aload hx hb d_Mdl_work_135 (lv_at hl 1 rfl) ?_
      refine lv_aload_n hx hb d_Mdl_work_137 rfl (lv_at hl 2 rfl) ?_
      refine gm_get hx hb hW hown X u_Mdl m53 rfl 15 (by decide) wf_Mdl_103 (v := .ref (E.2.1 + 79)) rfl d_Mdl_work_138 ?_
      refine lv_iload_n hx hb d_Mdl_work_141 rfl (lv_at hl 5 rfl) ?_
      refine gm_aald2 hx hb X (k := a) (t := E.2.1 + (80 + a)) m79 rfl rfl ⟨h_a, by decide⟩ (if_pos h_a) d_Mdl_work_142 ?_
      refine lv_aload_n hx hb d_Mdl_work_143 rfl (lv_at hl 2 rfl) ?_
      refine gm_get hx hb hW hown X u_Mdl m53 rfl 20 (by decide) wf_Mdl_119 (v := .ref (E.2.1 + 95)) rfl d_Mdl_work_144 ?_
      refine gm_Vv hx hb hml hown hW X m99 (q_enter l hpP hf hR hr (by decide) (q8_n h_a) (by omega)) (n := 2) ⟨⟨wl_Mdl_135, wi_Rng_enter, wsel_Rng_enter, winit_Rng, wc_Rng_enter⟩, by decide +kernel, ⟨Nat.le_of_ble_eq_true rfl, Nat.le_of_ble_eq_true rfl⟩, _, rfl, rfl⟩ rfl hl.1 rfl (Nat.le_of_ble_eq_true rfl) d_Mdl_work_147 ⟨Nat.le_of_ble_eq_true rfl, Nat.le_of_ble_eq_true rfl⟩ (fun M1 H locs hp X => ?_)
      obtain ⟨τ1, rfl, q1, kk1⟩ := hp
      have R_1 : isR φ nP 99 τ1 := hr.kp (fun j h1 h2 => kk1 j (by omega) (by omega))
      have R2_1 : isR ψ nN 107 τ1 := hrN.kp (fun j h1 h2 => kk1 j (by omega) (by omega))
      have m95_1 : MV φ nP (τ1 95) (φ (IV (τ (80 + a)) 8)) := q1
      refine lv_iload hx hb d_Mdl_work_150 (lv_at hl 0 rfl) ?_
      refine lv_iconst (v := 3) hx hb d_Mdl_work_152 (by decide) ?_
      refine lv_icmp_ge (tgt := 172) hx hb d_Mdl_work_153 (by decide) (fun c9 => absurd c9 (by decide)) (fun _ => ?_)
      refine lv_aload hx hb d_Mdl_work_156 (lv_at hl 1 rfl) ?_
      refine lv_aload_n hx hb d_Mdl_work_158 rfl (lv_at hl 2 rfl) ?_
      refine gm_get hx hb hW hown X u_Mdl m53 rfl 15 (by decide) wf_Mdl_103 (v := .ref (E.2.1 + 79)) rfl d_Mdl_work_159 ?_
      refine lv_iload hx hb d_Mdl_work_162 (lv_at hl 6 rfl) ?_
      refine gm_aald2 hx hb X (k := b) (t := E.2.1 + (80 + b)) m79 rfl rfl ⟨h_b, by decide⟩ (if_pos h_b) d_Mdl_work_164 ?_
      refine lv_aload_n hx hb d_Mdl_work_165 rfl (lv_at hl 2 rfl) ?_
      refine gm_get hx hb hW hown X u_Mdl m53 rfl 21 (by decide) wf_Mdl_122 (v := .ref (E.2.1 + 96)) rfl d_Mdl_work_166 ?_
      have e169 := (show τ1 (80 + b) = τ (80 + b) by rw [kk1 (80 + b) (by omega) (by omega)])
      refine gm_Vv hx hb hml hown hW X m99 (q_enter l hpP hf hR R_1 (by decide) (q8_n h_b) (by omega)) (n := 2) ⟨⟨wl_Mdl_135, wi_Rng_enter, wsel_Rng_enter, winit_Rng, wc_Rng_enter⟩, by decide +kernel, ⟨Nat.le_of_ble_eq_true rfl, Nat.le_of_ble_eq_true rfl⟩, _, rfl, rfl⟩ rfl hl.1 rfl (Nat.le_of_ble_eq_true rfl) d_Mdl_work_169 ⟨Nat.le_of_ble_eq_true rfl, Nat.le_of_ble_eq_true rfl⟩ (fun M1 H locs hp X => ?_)
      obtain ⟨τ2, rfl, q2, kk2⟩ := hp
      have m95_2 : MV φ nP (τ2 95) (φ (IV (τ (80 + a)) 8)) := by rw [kk2 95 (by omega) (by omega)]; exact m95_1
      have R_2 : isR φ nP 99 τ2 := R_1.kp (fun j h1 h2 => kk2 j (by omega) (by omega))
      have R2_2 : isR ψ nN 107 τ2 := R2_1.kp (fun j h1 h2 => kk2 j (by omega) (by omega))
      have m96_2 : MV φ nP (τ2 96) (φ (IV (τ (80 + b)) 8)) := by rw [← e169]; exact q2
      refine lv_iload hx hb d_Mdl_work_172 (lv_at hl 0 rfl) ?_
      refine lv_if_ne (tgt := 197) hx hb d_Mdl_work_174 (by decide) (fun _ => ?_) (fun c9 => absurd c9 (by decide))
      refine lv_iload hx hb d_Mdl_work_197 (lv_at hl 0 rfl) ?_
      refine lv_iconst (v := 1) hx hb d_Mdl_work_199 (by decide) ?_
      refine lv_icmp_ne (tgt := 223) hx hb d_Mdl_work_200 (by decide) (fun _ => ?_) (fun c9 => absurd c9 (by decide))
      refine lv_iload hx hb d_Mdl_work_223 (lv_at hl 0 rfl) ?_
      refine lv_iconst (v := 2) hx hb d_Mdl_work_225 (by decide) ?_
      refine lv_icmp_ne (tgt := 249) hx hb d_Mdl_work_226 (by decide) (fun c9 => absurd rfl c9) (fun _ => ?_)
      refine lv_aload hx hb d_Mdl_work_229 (lv_at hl 1 rfl) ?_
      refine lv_aload_n hx hb d_Mdl_work_231 rfl (lv_at hl 2 rfl) ?_
      refine gm_get hx hb hW hown X u_Mdl m53 rfl 20 (by decide) wf_Mdl_119 (v := .ref (E.2.1 + 95)) rfl d_Mdl_work_232 ?_
      refine lv_aload_n hx hb d_Mdl_work_235 rfl (lv_at hl 2 rfl) ?_
      refine gm_get hx hb hW hown X u_Mdl m53 rfl 21 (by decide) wf_Mdl_122 (v := .ref (E.2.1 + 96)) rfl d_Mdl_work_236 ?_
      refine lv_aload_n hx hb d_Mdl_work_239 rfl (lv_at hl 2 rfl) ?_
      refine gm_get hx hb hW hown X u_Mdl m53 rfl 20 (by decide) wf_Mdl_119 (v := .ref (E.2.1 + 95)) rfl d_Mdl_work_240 ?_
      refine gm_Vv hx hb hml hown hW X m99 (q_mul l hpP hf hR R_2 (by decide) (by decide) (by decide) (by omega) m95_2 m96_2) (n := 3) ⟨⟨wl_Mdl_25, wi_Rng_multiply, wsel_Rng_multiply, winit_Rng, wc_Rng_multiply⟩, by decide +kernel, ⟨Nat.le_of_ble_eq_true rfl, Nat.le_of_ble_eq_true rfl⟩, _, rfl, rfl⟩ rfl hl.1 rfl (Nat.le_of_ble_eq_true rfl) d_Mdl_work_243 ⟨Nat.le_of_ble_eq_true rfl, Nat.le_of_ble_eq_true rfl⟩ (fun M1 H locs hp X => ?_)
      obtain ⟨τ3, rfl, q3, kk3⟩ := hp
      have m96_3 : MV φ nP (τ3 96) (φ (IV (τ (80 + b)) 8)) := by rw [kk3 96 (by omega) (by omega)]; exact m96_2
      have R_3 : isR φ nP 99 τ3 := R_2.kp (fun j h1 h2 => kk3 j (by omega) (by omega))
      have R2_3 : isR ψ nN 107 τ3 := R2_2.kp (fun j h1 h2 => kk3 j (by omega) (by omega))
      have m95_3 : MV φ nP (τ3 95) ((φ (IV (τ (80 + a)) 8)) * (φ (IV (τ (80 + b)) 8))) := q3
      refine lv_goto (tgt := 265) hx hb d_Mdl_work_246 (by decide) ?_
      refine lv_aload hx hb d_Mdl_work_265 (lv_at hl 1 rfl) ?_
      refine lv_aload_n hx hb d_Mdl_work_267 rfl (lv_at hl 2 rfl) ?_
      refine gm_get hx hb hW hown X u_Mdl m53 rfl 20 (by decide) wf_Mdl_119 (v := .ref (E.2.1 + 95)) rfl d_Mdl_work_268 ?_
      refine lv_aload_n hx hb d_Mdl_work_271 rfl (lv_at hl 2 rfl) ?_
      refine gm_get hx hb hW hown X u_Mdl m53 rfl 15 (by decide) wf_Mdl_103 (v := .ref (E.2.1 + 79)) rfl d_Mdl_work_272 ?_
      refine lv_iload_n hx hb d_Mdl_work_275 rfl (lv_at hl 4 rfl) ?_
      refine gm_aald2 hx hb X (k := t) (t := E.2.1 + (80 + t)) m79 rfl rfl ⟨h_t, by decide⟩ (if_pos h_t) d_Mdl_work_276 ?_
      refine gm_Vv hx hb hml hown hW X m99 (q_leave l hpP hf hR R_3 (q8_n h_t) (by decide) (by omega) m95_3) (n := 2) ⟨⟨wl_Mdl_65, wi_Rng_leave, wsel_Rng_leave, winit_Rng, wc_Rng_leave⟩, by decide +kernel, ⟨Nat.le_of_ble_eq_true rfl, Nat.le_of_ble_eq_true rfl⟩, _, rfl, rfl⟩ rfl hl.1 rfl (Nat.le_of_ble_eq_true rfl) d_Mdl_work_277 ⟨Nat.le_of_ble_eq_true rfl, Nat.le_of_ble_eq_true rfl⟩ (fun M1 H locs hp X => ?_)
      obtain ⟨τ4, rfl, q4, kk4⟩ := hp
      have m96_4 : MV φ nP (τ4 96) (φ (IV (τ (80 + b)) 8)) := by rw [kk4 96 (by omega) (by omega)]; exact m96_3
      have m95_4 : MV φ nP (τ4 95) ((φ (IV (τ (80 + a)) 8)) * (φ (IV (τ (80 + b)) 8))) := by rw [kk4 95 (by omega) (by omega)]; exact m95_3
      have R_4 : isR φ nP 99 τ4 := R_3.kp (fun j h1 h2 => kk4 j (by omega) (by omega))
      have R2_4 : isR ψ nN 107 τ4 := R2_3.kp (fun j h1 h2 => kk4 j (by omega) (by omega))
      have p80t_4 : PV φ nP (τ4 (80 + t)) ((φ (IV (τ (80 + a)) 8)) * (φ (IV (τ (80 + b)) 8))) := q4
      refine lv_iconst (v := 1) hx hb d_Mdl_work_280 (by decide) ?_
      refine gm_zret hx hb hr2 hlk X rfl ⟨_, rfl, Or.inr ⟨rfl, ⟨hla, hq2⟩, ?_, fun j hj h1 h2 => by have hj := hj.o; rw [kk4 j (by omega) (by omega), kk3 j (by omega) (by omega), kk2 j (by omega) (by omega), kk1 j (by omega) (by omega)]⟩⟩ d_Mdl_work_281
      exact PV.rep hf p80t_4
set_option maxHeartbeats 4000000 in
theorem r_Mdl_work_ok_3 {F G : Type} [Lean.Grind.CommRing F] [Lean.Grind.CommRing G] {φ : Int → F} {inv : F → F} {ψ : Int → G} (l : Launch) (E : gm_E) (N : gm_M) (τ : Nat → Nat → Int32) (cd : Int32) (hk : fk φ inv) {Ri : F} (hR : φ (tq 8) * Ri = 1) (hgN : fm ψ nN) {Si : G} (hS : ψ (tq 8) * Si = 1) (hr : isR φ nP 99 τ) (hrN : isR ψ nN 107 τ) (h7 : MV φ nP (τ 54) 7) {t : Nat} (h_t : t < 8) {a : Nat} (h_a : a < 8) {b : Nat} (h_b : b < 8)  : ci_ l y_Mdl_work b_Mdl_work 7 (some .boolean) { frames := 3, cells := 0, slots := 0, locals := 78 } E (mW E N τ cd) [.ref (E.2.1 + 53), .int 3, .int (nI t), .int (nI a), .int (nI b)] (fun r M' => ∃ τ', M' = mW E N τ' 0 ∧ ((r = 0 ∧ ¬ wkOK 3 nP (IV (τ (80 + a)) 8) (IV (τ (80 + b)) 8) ∧ kMn 0 0 τ τ') ∨ (r = 1 ∧ wkOK 3 nP (IV (τ (80 + a)) 8) (IV (τ (80 + b)) 8) ∧ IV (τ' (80 + t)) 8 = rp φ nP (wkV φ 3 (NV sP2) (IV (τ (80 + a)) 8) (IV (τ (80 + b)) 8)) ∧ kMn (80 + t) 0 τ τ'))) := by
  have hf := hk.fm
  have hpP := rPl_P E
  have hpN := rPl_N E
  refine gm_met (by decide) (Nat.le_of_ble_eq_true rfl) (fun p e s m below meth c ls hx hb hml hr2 hlk hnm hown hW X hl => ?_)
  have hl : lv_has ls 7 [(0, .ref (E.2.1 + 53)), (1, .int 3), (2, .int (nI t)), (3, .int (nI a)), (4, .int (nI b))] := hl
  refine lv_aload_n hx hb d_Mdl_work_0 rfl (lv_at hl 0 rfl) ?_
  refine lv_iload_n hx hb d_Mdl_work_1 rfl (lv_at hl 1 rfl) ?_
  refine lv_bipush (v := 7) hx hb d_Mdl_work_2 (by decide) ?_
  refine gm_Si hx hb hml hown hW X (r_Mdl_in_8 l E N τ cd) (n := 2) ⟨⟨wl_Mdl_164, ws_Mdl_in, winit_Mdl, wc_Mdl_in⟩, by decide +kernel, Nat.le_of_ble_eq_true rfl, Nat.le_of_ble_eq_true rfl⟩ rfl hl.1 rfl (Nat.le_of_ble_eq_true rfl) d_Mdl_work_4 ⟨Nat.le_of_ble_eq_true rfl, Nat.le_of_ble_eq_true rfl⟩ (fun r0 M1 H locs hp X => ?_)
  rw [hp.1] at X
  have hz0 : r0 = 1 := by rcases hp.2 with h | h; exact h.1; exact absurd ⟨3, by decide, rfl⟩ h.2
  refine lv_if_eq (tgt := 42) hx hb d_Mdl_work_7 (by decide) (fun c9 => absurd (hz0.symm.trans c9) (by decide)) (fun _ => ?_)
  refine lv_iload_n hx hb d_Mdl_work_10 rfl (lv_at hl 2 rfl) ?_
  refine lv_bipush (v := 7) hx hb d_Mdl_work_11 (by decide) ?_
  refine gm_Si hx hb hml hown hW X (r_Mdl_in_8 l E N τ cd) (n := 2) ⟨⟨wl_Mdl_164, ws_Mdl_in, winit_Mdl, wc_Mdl_in⟩, by decide +kernel, Nat.le_of_ble_eq_true rfl, Nat.le_of_ble_eq_true rfl⟩ rfl hl.1 rfl (Nat.le_of_ble_eq_true rfl) d_Mdl_work_13 ⟨Nat.le_of_ble_eq_true rfl, Nat.le_of_ble_eq_true rfl⟩ (fun r1 M1 H locs hp X => ?_)
  rw [hp.1] at X
  have hz1 : r1 = 1 := by rcases hp.2 with h | h; exact h.1; exact absurd ⟨t, h_t, rfl⟩ h.2
  refine lv_if_eq (tgt := 42) hx hb d_Mdl_work_16 (by decide) (fun c9 => absurd (hz1.symm.trans c9) (by decide)) (fun _ => ?_)
  refine lv_iload_n hx hb d_Mdl_work_19 rfl (lv_at hl 3 rfl) ?_
  refine lv_bipush (v := 7) hx hb d_Mdl_work_20 (by decide) ?_
  refine gm_Si hx hb hml hown hW X (r_Mdl_in_8 l E N τ cd) (n := 2) ⟨⟨wl_Mdl_164, ws_Mdl_in, winit_Mdl, wc_Mdl_in⟩, by decide +kernel, Nat.le_of_ble_eq_true rfl, Nat.le_of_ble_eq_true rfl⟩ rfl hl.1 rfl (Nat.le_of_ble_eq_true rfl) d_Mdl_work_22 ⟨Nat.le_of_ble_eq_true rfl, Nat.le_of_ble_eq_true rfl⟩ (fun r2 M1 H locs hp X => ?_)
  rw [hp.1] at X
  have hz2 : r2 = 1 := by rcases hp.2 with h | h; exact h.1; exact absurd ⟨a, h_a, rfl⟩ h.2
  refine lv_if_eq (tgt := 42) hx hb d_Mdl_work_25 (by decide) (fun c9 => absurd (hz2.symm.trans c9) (by decide)) (fun _ => ?_)
  refine lv_iload hx hb d_Mdl_work_28 (lv_at hl 4 rfl) ?_
  refine lv_bipush (v := 7) hx hb d_Mdl_work_30 (by decide) ?_
  refine gm_Si hx hb hml hown hW X (r_Mdl_in_8 l E N τ cd) (n := 2) ⟨⟨wl_Mdl_164, ws_Mdl_in, winit_Mdl, wc_Mdl_in⟩, by decide +kernel, Nat.le_of_ble_eq_true rfl, Nat.le_of_ble_eq_true rfl⟩ rfl hl.1 rfl (Nat.le_of_ble_eq_true rfl) d_Mdl_work_32 ⟨Nat.le_of_ble_eq_true rfl, Nat.le_of_ble_eq_true rfl⟩ (fun r3 M1 H locs hp X => ?_)
  rw [hp.1] at X
  have hz3 : r3 = 1 := by rcases hp.2 with h | h; exact h.1; exact absurd ⟨b, h_b, rfl⟩ h.2
  refine lv_if_eq (tgt := 42) hx hb d_Mdl_work_35 (by decide) (fun c9 => absurd (hz3.symm.trans c9) (by decide)) (fun _ => ?_)
  refine lv_iconst (v := 1) hx hb d_Mdl_work_38 (by decide) ?_
  refine lv_goto (tgt := 43) hx hb d_Mdl_work_39 (by decide) ?_
  refine gm_Vi hx hb hml hown hW X m53 (r_Mdl_good_1 l E N τ cd) (n := 1) ⟨⟨wl_Mdl_168, wi_Mdl_good, wsel_Mdl_good, winit_Mdl, wc_Mdl_good⟩, by decide +kernel, ⟨Nat.le_of_ble_eq_true rfl, Nat.le_of_ble_eq_true rfl⟩, _, rfl, rfl⟩ rfl hl.1 rfl (Nat.le_of_ble_eq_true rfl) d_Mdl_work_43 ⟨Nat.le_of_ble_eq_true rfl, Nat.le_of_ble_eq_true rfl⟩ (fun r9 M1 H locs hp X => ?_)
  rw [hp.1] at X
  have hr9 := hp.2
  refine lv_if_ne (tgt := 51) hx hb d_Mdl_work_46 (by decide) (fun _ => ?_) (fun c9 => absurd (hr9.symm.trans c9) (by decide))
  have hm : (IV (τ 100) 8 : Int) = nP := hr.1
  refine lv_iload_n hx hb d_Mdl_work_51 rfl (lv_at hl 1 rfl) ?_
  refine lv_iconst (v := 4) hx hb d_Mdl_work_52 (by decide) ?_
  refine lv_icmp_ge (tgt := 63) hx hb d_Mdl_work_53 (by decide) (fun c9 => absurd c9 (by decide)) (fun _ => ?_)
  refine lv_aload_n hx hb d_Mdl_work_56 rfl (lv_at hl 0 rfl) ?_
  refine gm_get hx hb hW hown X u_Mdl m53 rfl 0 (by decide) wf_Mdl_13 (v := .ref (E.2.1 + 99)) rfl d_Mdl_work_57 ?_
  refine lv_goto (tgt := 67) hx hb d_Mdl_work_60 (by decide) ?_
  refine lv_astore (lv' := [(5, .ref (E.2.1 + 99)), (0, .ref (E.2.1 + 53)), (1, .int 3), (2, .int (nI t)), (3, .int (nI a)), (4, .int (nI b))]) hx hb d_Mdl_work_67 hl (by decide) rfl (fun ls hl => ?_)
  refine lv_iload_n hx hb d_Mdl_work_69 rfl (lv_at hl 2 rfl) ?_
  refine lv_iconst (v := 3) hx hb d_Mdl_work_70 (by decide) ?_
  refine lv_iand hx hb d_Mdl_work_71 ?_
  refine lv_eqi (v := 3) (by decide) ?_
  refine lv_istore (lv' := [(6, .int 3), (5, .ref (E.2.1 + 99)), (0, .ref (E.2.1 + 53)), (1, .int 3), (2, .int (nI t)), (3, .int (nI a)), (4, .int (nI b))]) hx hb d_Mdl_work_72 hl (by decide) rfl (fun ls hl => ?_)
  refine lv_aload_n hx hb d_Mdl_work_74 rfl (lv_at hl 2 rfl) ?_
  refine gm_get hx hb hW hown X u_Mdl m53 rfl 15 (by decide) wf_Mdl_103 (v := .ref (E.2.1 + 79)) rfl d_Mdl_work_75 ?_
  refine lv_iload_n hx hb d_Mdl_work_78 rfl (lv_at hl 5 rfl) ?_
  refine gm_aald2 hx hb X (k := a) (t := E.2.1 + (80 + a)) m79 rfl rfl ⟨h_a, by decide⟩ (if_pos h_a) d_Mdl_work_79 ?_
  refine lv_aload hx hb d_Mdl_work_80 (lv_at hl 1 rfl) ?_
  refine gm_getN hx hb hW hown X u_Rng m99 rfl 0 (by decide) wfn_Mdl_178 (v := .ref (E.2.1 + 100)) rfl d_Mdl_work_82 ?_
  refine gm_Si hx hb hml hown hW X (c_Rng_compare l E _ (mw_row (q8_n h_a)) (mw_row (k := 100) (by decide))) (n := 2) ⟨⟨wl_Mdl_174, ws_Rng_compare, winit_Rng, wc_Rng_compare⟩, by decide +kernel, Nat.le_of_ble_eq_true rfl, Nat.le_of_ble_eq_true rfl⟩ rfl hl.1 rfl (Nat.le_of_ble_eq_true rfl) d_Mdl_work_85 ⟨Nat.le_of_ble_eq_true rfl, Nat.le_of_ble_eq_true rfl⟩ (fun ra M1 H locs hp X => ?_)
  rw [hp.1] at X
  have hq_ra := (ordI_ok (τ (80 + a)) (τ 100) 8).2.1
  rw [← hp.2] at hq_ra
  refine lv_if_ge (tgt := 133) hx hb d_Mdl_work_88 (by decide) (fun c88 => ?_) (fun c88 => ?_)
  · have hlt := hq_ra.mp c88
    refine lv_iconst (v := 0) hx hb d_Mdl_work_133 (by decide) ?_
    exact gm_zret hx hb hr2 hlk X rfl ⟨τ, rfl, Or.inl ⟨rfl, fun z => by have := z.1; omega, fun _ _ _ _ => rfl⟩⟩ d_Mdl_work_134
  · have hla : (IV (τ (80 + a)) 8 : Int) < nP := by have q : ¬ IV (τ 100) 8 ≤ IV (τ (80 + a)) 8 := fun z => c88 (hq_ra.mpr z); omega
    refine lv_iload hx hb d_Mdl_work_91 (lv_at hl 0 rfl) ?_
    refine lv_iconst (v := 3) hx hb d_Mdl_work_93 (by decide) ?_
    refine lv_icmp_ge (tgt := 115) hx hb d_Mdl_work_94 (by decide) (fun _ => ?_) (fun c9 => absurd (by decide) c9)
    refine lv_iload hx hb d_Mdl_work_115 (lv_at hl 0 rfl) ?_
    refine lv_iconst (v := 3) hx hb d_Mdl_work_117 (by decide) ?_
    refine lv_icmp_ne (tgt := 135) hx hb d_Mdl_work_118 (by decide) (fun c9 => absurd rfl c9) (fun _ => ?_)
    refine lv_aload_n hx hb d_Mdl_work_121 rfl (lv_at hl 2 rfl) ?_
    refine gm_get hx hb hW hown X u_Mdl m53 rfl 15 (by decide) wf_Mdl_103 (v := .ref (E.2.1 + 79)) rfl d_Mdl_work_122 ?_
    refine lv_iload_n hx hb d_Mdl_work_125 rfl (lv_at hl 5 rfl) ?_
    refine gm_aald2 hx hb X (k := a) (t := E.2.1 + (80 + a)) m79 rfl rfl ⟨h_a, by decide⟩ (if_pos h_a) d_Mdl_work_126 ?_
    refine gm_Si hx hb hml hown hW X (c_Rng_isZero l E _ (mw_row (q8_n h_a))) (n := 1) ⟨⟨wl_Mdl_7, ws_Rng_isZero, winit_Rng, wc_Rng_isZero⟩, by decide +kernel, Nat.le_of_ble_eq_true rfl, Nat.le_of_ble_eq_true rfl⟩ rfl hl.1 rfl (Nat.le_of_ble_eq_true rfl) d_Mdl_work_127 ⟨Nat.le_of_ble_eq_true rfl, Nat.le_of_ble_eq_true rfl⟩ (fun rz M1 H locs hp X => ?_)
    rw [hp.1] at X
    have h2 := hp.2
    refine lv_if_eq (tgt := 135) hx hb d_Mdl_work_130 (by decide) (fun c130 => ?_) (fun c130 => ?_)
    · have hq2 : ¬ IV (τ (80 + a)) 8 = 0 := by rcases h2 with h | h; exact absurd (h.1.symm.trans c130) (by decide); exact h.2
      refine lv_aload hx hb d_Mdl_work_135 (lv_at hl 1 rfl) ?_
      refine lv_aload_n hx hb d_Mdl_work_137 rfl (lv_at hl 2 rfl) ?_
      refine gm_get hx hb hW hown X u_Mdl m53 rfl 15 (by decide) wf_Mdl_103 (v := .ref (E.2.1 + 79)) rfl d_Mdl_work_138 ?_
      refine lv_iload_n hx hb d_Mdl_work_141 rfl (lv_at hl 5 rfl) ?_
      refine gm_aald2 hx hb X (k := a) (t := E.2.1 + (80 + a)) m79 rfl rfl ⟨h_a, by decide⟩ (if_pos h_a) d_Mdl_work_142 ?_
      refine lv_aload_n hx hb d_Mdl_work_143 rfl (lv_at hl 2 rfl) ?_
      refine gm_get hx hb hW hown X u_Mdl m53 rfl 20 (by decide) wf_Mdl_119 (v := .ref (E.2.1 + 95)) rfl d_Mdl_work_144 ?_
      refine gm_Vv hx hb hml hown hW X m99 (q_enter l hpP hf hR hr (by decide) (q8_n h_a) (by omega)) (n := 2) ⟨⟨wl_Mdl_135, wi_Rng_enter, wsel_Rng_enter, winit_Rng, wc_Rng_enter⟩, by decide +kernel, ⟨Nat.le_of_ble_eq_true rfl, Nat.le_of_ble_eq_true rfl⟩, _, rfl, rfl⟩ rfl hl.1 rfl (Nat.le_of_ble_eq_true rfl) d_Mdl_work_147 ⟨Nat.le_of_ble_eq_true rfl, Nat.le_of_ble_eq_true rfl⟩ (fun M1 H locs hp X => ?_)
      obtain ⟨τ1, rfl, q1, kk1⟩ := hp
      have R_1 : isR φ nP 99 τ1 := hr.kp (fun j h1 h2 => kk1 j (by omega) (by omega))
      have R2_1 : isR ψ nN 107 τ1 := hrN.kp (fun j h1 h2 => kk1 j (by omega) (by omega))
      have m95_1 : MV φ nP (τ1 95) (φ (IV (τ (80 + a)) 8)) := q1
      refine lv_iload hx hb d_Mdl_work_150 (lv_at hl 0 rfl) ?_
      refine lv_iconst (v := 3) hx hb d_Mdl_work_152 (by decide) ?_
      refine lv_icmp_ge (tgt := 172) hx hb d_Mdl_work_153 (by decide) (fun _ => ?_) (fun c9 => absurd (by decide) c9)
      refine lv_iload hx hb d_Mdl_work_172 (lv_at hl 0 rfl) ?_
      refine lv_if_ne (tgt := 197) hx hb d_Mdl_work_174 (by decide) (fun _ => ?_) (fun c9 => absurd c9 (by decide))
      refine lv_iload hx hb d_Mdl_work_197 (lv_at hl 0 rfl) ?_
      refine lv_iconst (v := 1) hx hb d_Mdl_work_199 (by decide) ?_
      refine lv_icmp_ne (tgt := 223) hx hb d_Mdl_work_200 (by decide) (fun _ => ?_) (fun c9 => absurd c9 (by decide))
      refine lv_iload hx hb d_Mdl_work_223 (lv_at hl 0 rfl) ?_
      refine lv_iconst (v := 2) hx hb d_Mdl_work_225 (by decide) ?_
      refine lv_icmp_ne (tgt := 249) hx hb d_Mdl_work_226 (by decide) (fun _ => ?_) (fun c9 => absurd c9 (by decide))
      refine lv_aload hx hb d_Mdl_work_249 (lv_at hl 1 rfl) ?_
      refine lv_aload_n hx hb d_Mdl_work_251 rfl (lv_at hl 2 rfl) ?_
      refine gm_get hx hb hW hown X u_Mdl m53 rfl 20 (by decide) wf_Mdl_119 (v := .ref (E.2.1 + 95)) rfl d_Mdl_work_252 ?_
      refine lv_bipush (v := (-2)) hx hb d_Mdl_work_255 (by decide) ?_
      refine lv_iconst (v := 0) hx hb d_Mdl_work_257 (by decide) ?_
      refine lv_aload_n hx hb d_Mdl_work_258 rfl (lv_at hl 2 rfl) ?_
      refine gm_get hx hb hW hown X u_Mdl m53 rfl 20 (by decide) wf_Mdl_119 (v := .ref (E.2.1 + 95)) rfl d_Mdl_work_259 ?_
      refine gm_Vv hx hb hml hown hW X m99 (q_power l hpP hf hR R_1 (sh := 0) (by decide) (by decide) (by decide) (by omega) m95_1) (n := 4) ⟨⟨wl_Mdl_61, wi_Rng_power, wsel_Rng_power, winit_Rng, wc_Rng_power⟩, by decide +kernel, ⟨Nat.le_of_ble_eq_true rfl, Nat.le_of_ble_eq_true rfl⟩, _, rfl, rfl⟩ rfl hl.1 rfl (Nat.le_of_ble_eq_true rfl) d_Mdl_work_262 ⟨Nat.le_of_ble_eq_true rfl, Nat.le_of_ble_eq_true rfl⟩ (fun M1 H locs hp X => ?_)
      obtain ⟨τ2, rfl, q2, kk2⟩ := hp
      have R_2 : isR φ nP 99 τ2 := R_1.kp (fun j h1 h2 => kk2 j (by omega) (by omega))
      have R2_2 : isR ψ nN 107 τ2 := R2_1.kp (fun j h1 h2 => kk2 j (by omega) (by omega))
      have m95_2 : MV φ nP (τ2 95) (fp_pw (φ (IV (τ (80 + a)) 8)) (NV sP2)) := by rw [← xp_sP2 R_1]; exact q2
      refine lv_aload hx hb d_Mdl_work_265 (lv_at hl 1 rfl) ?_
      refine lv_aload_n hx hb d_Mdl_work_267 rfl (lv_at hl 2 rfl) ?_
      refine gm_get hx hb hW hown X u_Mdl m53 rfl 20 (by decide) wf_Mdl_119 (v := .ref (E.2.1 + 95)) rfl d_Mdl_work_268 ?_
      refine lv_aload_n hx hb d_Mdl_work_271 rfl (lv_at hl 2 rfl) ?_
      refine gm_get hx hb hW hown X u_Mdl m53 rfl 15 (by decide) wf_Mdl_103 (v := .ref (E.2.1 + 79)) rfl d_Mdl_work_272 ?_
      refine lv_iload_n hx hb d_Mdl_work_275 rfl (lv_at hl 4 rfl) ?_
      refine gm_aald2 hx hb X (k := t) (t := E.2.1 + (80 + t)) m79 rfl rfl ⟨h_t, by decide⟩ (if_pos h_t) d_Mdl_work_276 ?_
      refine gm_Vv hx hb hml hown hW X m99 (q_leave l hpP hf hR R_2 (q8_n h_t) (by decide) (by omega) m95_2) (n := 2) ⟨⟨wl_Mdl_65, wi_Rng_leave, wsel_Rng_leave, winit_Rng, wc_Rng_leave⟩, by decide +kernel, ⟨Nat.le_of_ble_eq_true rfl, Nat.le_of_ble_eq_true rfl⟩, _, rfl, rfl⟩ rfl hl.1 rfl (Nat.le_of_ble_eq_true rfl) d_Mdl_work_277 ⟨Nat.le_of_ble_eq_true rfl, Nat.le_of_ble_eq_true rfl⟩ (fun M1 H locs hp X => ?_)
      obtain ⟨τ3, rfl, q3, kk3⟩ := hp
      have m95_3 : MV φ nP (τ3 95) (fp_pw (φ (IV (τ (80 + a)) 8)) (NV sP2)) := by rw [kk3 95 (by omega) (by omega)]; exact m95_2
      have R_3 : isR φ nP 99 τ3 := R_2.kp (fun j h1 h2 => kk3 j (by omega) (by omega))
      have R2_3 : isR ψ nN 107 τ3 := R2_2.kp (fun j h1 h2 => kk3 j (by omega) (by omega))
      have p80t_3 : PV φ nP (τ3 (80 + t)) (fp_pw (φ (IV (τ (80 + a)) 8)) (NV sP2)) := q3
      refine lv_iconst (v := 1) hx hb d_Mdl_work_280 (by decide) ?_
      refine gm_zret hx hb hr2 hlk X rfl ⟨_, rfl, Or.inr ⟨rfl, ⟨hla, hq2⟩, ?_, fun j hj h1 h2 => by have hj := hj.o; rw [kk3 j (by omega) (by omega), kk2 j (by omega) (by omega), kk1 j (by omega) (by omega)]⟩⟩ d_Mdl_work_281
      exact PV.rep hf p80t_3
    · have hq2 : IV (τ (80 + a)) 8 = 0 := by rcases h2 with h | h; exact h.2; exact absurd h.1 c130
      refine lv_iconst (v := 0) hx hb d_Mdl_work_133 (by decide) ?_
      exact gm_zret hx hb hr2 hlk X rfl ⟨τ, rfl, Or.inl ⟨rfl, fun z => z.2 hq2, fun _ _ _ _ => rfl⟩⟩ d_Mdl_work_134
set_option maxHeartbeats 4000000 in
theorem r_Mdl_work_ok_4 {F G : Type} [Lean.Grind.CommRing F] [Lean.Grind.CommRing G] {φ : Int → F} {inv : F → F} {ψ : Int → G} (l : Launch) (E : gm_E) (N : gm_M) (τ : Nat → Nat → Int32) (cd : Int32) (hk : fk φ inv) {Ri : F} (hR : φ (tq 8) * Ri = 1) (hgN : fm ψ nN) {Si : G} (hS : ψ (tq 8) * Si = 1) (hr : isR φ nP 99 τ) (hrN : isR ψ nN 107 τ) (h7 : MV φ nP (τ 54) 7) {t : Nat} (h_t : t < 8) {a : Nat} (h_a : a < 8) {b : Nat} (h_b : b < 8)  : ci_ l y_Mdl_work b_Mdl_work 7 (some .boolean) { frames := 3, cells := 0, slots := 0, locals := 78 } E (mW E N τ cd) [.ref (E.2.1 + 53), .int 4, .int (nI t), .int (nI a), .int (nI b)] (fun r M' => ∃ τ', M' = mW E N τ' 0 ∧ ((r = 0 ∧ ¬ wkOK 0 nN (IV (τ (80 + a)) 8) (IV (τ (80 + b)) 8) ∧ kMn 0 0 τ τ') ∨ (r = 1 ∧ wkOK 0 nN (IV (τ (80 + a)) 8) (IV (τ (80 + b)) 8) ∧ IV (τ' (80 + t)) 8 = rp ψ nN (wkV ψ 0 (NV sN2) (IV (τ (80 + a)) 8) (IV (τ (80 + b)) 8)) ∧ kMn (80 + t) 0 τ τ'))) := by
  have hf := hk.fm
  have hpP := rPl_P E
  have hpN := rPl_N E
  refine gm_met (by decide) (Nat.le_of_ble_eq_true rfl) (fun p e s m below meth c ls hx hb hml hr2 hlk hnm hown hW X hl => ?_)
  have hl : lv_has ls 7 [(0, .ref (E.2.1 + 53)), (1, .int 4), (2, .int (nI t)), (3, .int (nI a)), (4, .int (nI b))] := hl
  refine lv_aload_n hx hb d_Mdl_work_0 rfl (lv_at hl 0 rfl) ?_
  refine lv_iload_n hx hb d_Mdl_work_1 rfl (lv_at hl 1 rfl) ?_
  refine lv_bipush (v := 7) hx hb d_Mdl_work_2 (by decide) ?_
  refine gm_Si hx hb hml hown hW X (r_Mdl_in_8 l E N τ cd) (n := 2) ⟨⟨wl_Mdl_164, ws_Mdl_in, winit_Mdl, wc_Mdl_in⟩, by decide +kernel, Nat.le_of_ble_eq_true rfl, Nat.le_of_ble_eq_true rfl⟩ rfl hl.1 rfl (Nat.le_of_ble_eq_true rfl) d_Mdl_work_4 ⟨Nat.le_of_ble_eq_true rfl, Nat.le_of_ble_eq_true rfl⟩ (fun r0 M1 H locs hp X => ?_)
  rw [hp.1] at X
  have hz0 : r0 = 1 := by rcases hp.2 with h | h; exact h.1; exact absurd ⟨4, by decide, rfl⟩ h.2
  refine lv_if_eq (tgt := 42) hx hb d_Mdl_work_7 (by decide) (fun c9 => absurd (hz0.symm.trans c9) (by decide)) (fun _ => ?_)
  refine lv_iload_n hx hb d_Mdl_work_10 rfl (lv_at hl 2 rfl) ?_
  refine lv_bipush (v := 7) hx hb d_Mdl_work_11 (by decide) ?_
  refine gm_Si hx hb hml hown hW X (r_Mdl_in_8 l E N τ cd) (n := 2) ⟨⟨wl_Mdl_164, ws_Mdl_in, winit_Mdl, wc_Mdl_in⟩, by decide +kernel, Nat.le_of_ble_eq_true rfl, Nat.le_of_ble_eq_true rfl⟩ rfl hl.1 rfl (Nat.le_of_ble_eq_true rfl) d_Mdl_work_13 ⟨Nat.le_of_ble_eq_true rfl, Nat.le_of_ble_eq_true rfl⟩ (fun r1 M1 H locs hp X => ?_)
  rw [hp.1] at X
  have hz1 : r1 = 1 := by rcases hp.2 with h | h; exact h.1; exact absurd ⟨t, h_t, rfl⟩ h.2
  refine lv_if_eq (tgt := 42) hx hb d_Mdl_work_16 (by decide) (fun c9 => absurd (hz1.symm.trans c9) (by decide)) (fun _ => ?_)
  refine lv_iload_n hx hb d_Mdl_work_19 rfl (lv_at hl 3 rfl) ?_
  refine lv_bipush (v := 7) hx hb d_Mdl_work_20 (by decide) ?_
  refine gm_Si hx hb hml hown hW X (r_Mdl_in_8 l E N τ cd) (n := 2) ⟨⟨wl_Mdl_164, ws_Mdl_in, winit_Mdl, wc_Mdl_in⟩, by decide +kernel, Nat.le_of_ble_eq_true rfl, Nat.le_of_ble_eq_true rfl⟩ rfl hl.1 rfl (Nat.le_of_ble_eq_true rfl) d_Mdl_work_22 ⟨Nat.le_of_ble_eq_true rfl, Nat.le_of_ble_eq_true rfl⟩ (fun r2 M1 H locs hp X => ?_)
  rw [hp.1] at X
  have hz2 : r2 = 1 := by rcases hp.2 with h | h; exact h.1; exact absurd ⟨a, h_a, rfl⟩ h.2
  refine lv_if_eq (tgt := 42) hx hb d_Mdl_work_25 (by decide) (fun c9 => absurd (hz2.symm.trans c9) (by decide)) (fun _ => ?_)
  refine lv_iload hx hb d_Mdl_work_28 (lv_at hl 4 rfl) ?_
  refine lv_bipush (v := 7) hx hb d_Mdl_work_30 (by decide) ?_
  refine gm_Si hx hb hml hown hW X (r_Mdl_in_8 l E N τ cd) (n := 2) ⟨⟨wl_Mdl_164, ws_Mdl_in, winit_Mdl, wc_Mdl_in⟩, by decide +kernel, Nat.le_of_ble_eq_true rfl, Nat.le_of_ble_eq_true rfl⟩ rfl hl.1 rfl (Nat.le_of_ble_eq_true rfl) d_Mdl_work_32 ⟨Nat.le_of_ble_eq_true rfl, Nat.le_of_ble_eq_true rfl⟩ (fun r3 M1 H locs hp X => ?_)
  rw [hp.1] at X
  have hz3 : r3 = 1 := by rcases hp.2 with h | h; exact h.1; exact absurd ⟨b, h_b, rfl⟩ h.2
  refine lv_if_eq (tgt := 42) hx hb d_Mdl_work_35 (by decide) (fun c9 => absurd (hz3.symm.trans c9) (by decide)) (fun _ => ?_)
  refine lv_iconst (v := 1) hx hb d_Mdl_work_38 (by decide) ?_
  refine lv_goto (tgt := 43) hx hb d_Mdl_work_39 (by decide) ?_
  refine gm_Vi hx hb hml hown hW X m53 (r_Mdl_good_1 l E N τ cd) (n := 1) ⟨⟨wl_Mdl_168, wi_Mdl_good, wsel_Mdl_good, winit_Mdl, wc_Mdl_good⟩, by decide +kernel, ⟨Nat.le_of_ble_eq_true rfl, Nat.le_of_ble_eq_true rfl⟩, _, rfl, rfl⟩ rfl hl.1 rfl (Nat.le_of_ble_eq_true rfl) d_Mdl_work_43 ⟨Nat.le_of_ble_eq_true rfl, Nat.le_of_ble_eq_true rfl⟩ (fun r9 M1 H locs hp X => ?_)
  rw [hp.1] at X
  have hr9 := hp.2
  refine lv_if_ne (tgt := 51) hx hb d_Mdl_work_46 (by decide) (fun _ => ?_) (fun c9 => absurd (hr9.symm.trans c9) (by decide))
  have hm : (IV (τ 108) 8 : Int) = nN := hrN.1
  refine lv_iload_n hx hb d_Mdl_work_51 rfl (lv_at hl 1 rfl) ?_
  refine lv_iconst (v := 4) hx hb d_Mdl_work_52 (by decide) ?_
  refine lv_icmp_ge (tgt := 63) hx hb d_Mdl_work_53 (by decide) (fun _ => ?_) (fun c9 => absurd (by decide) c9)
  refine lv_aload_n hx hb d_Mdl_work_63 rfl (lv_at hl 0 rfl) ?_
  refine gm_get hx hb hW hown X u_Mdl m53 rfl 1 (by decide) wf_Mdl_132 (v := .ref (E.2.1 + 107)) rfl d_Mdl_work_64 ?_
  refine lv_astore (lv' := [(5, .ref (E.2.1 + 107)), (0, .ref (E.2.1 + 53)), (1, .int 4), (2, .int (nI t)), (3, .int (nI a)), (4, .int (nI b))]) hx hb d_Mdl_work_67 hl (by decide) rfl (fun ls hl => ?_)
  refine lv_iload_n hx hb d_Mdl_work_69 rfl (lv_at hl 2 rfl) ?_
  refine lv_iconst (v := 3) hx hb d_Mdl_work_70 (by decide) ?_
  refine lv_iand hx hb d_Mdl_work_71 ?_
  refine lv_eqi (v := 0) (by decide) ?_
  refine lv_istore (lv' := [(6, .int 0), (5, .ref (E.2.1 + 107)), (0, .ref (E.2.1 + 53)), (1, .int 4), (2, .int (nI t)), (3, .int (nI a)), (4, .int (nI b))]) hx hb d_Mdl_work_72 hl (by decide) rfl (fun ls hl => ?_)
  refine lv_aload_n hx hb d_Mdl_work_74 rfl (lv_at hl 2 rfl) ?_
  refine gm_get hx hb hW hown X u_Mdl m53 rfl 15 (by decide) wf_Mdl_103 (v := .ref (E.2.1 + 79)) rfl d_Mdl_work_75 ?_
  refine lv_iload_n hx hb d_Mdl_work_78 rfl (lv_at hl 5 rfl) ?_
  refine gm_aald2 hx hb X (k := a) (t := E.2.1 + (80 + a)) m79 rfl rfl ⟨h_a, by decide⟩ (if_pos h_a) d_Mdl_work_79 ?_
  refine lv_aload hx hb d_Mdl_work_80 (lv_at hl 1 rfl) ?_
  refine gm_getN hx hb hW hown X u_Rng m107 rfl 0 (by decide) wfn_Mdl_178 (v := .ref (E.2.1 + 108)) rfl d_Mdl_work_82 ?_
  refine gm_Si hx hb hml hown hW X (c_Rng_compare l E _ (mw_row (q8_n h_a)) (mw_row (k := 108) (by decide))) (n := 2) ⟨⟨wl_Mdl_174, ws_Rng_compare, winit_Rng, wc_Rng_compare⟩, by decide +kernel, Nat.le_of_ble_eq_true rfl, Nat.le_of_ble_eq_true rfl⟩ rfl hl.1 rfl (Nat.le_of_ble_eq_true rfl) d_Mdl_work_85 ⟨Nat.le_of_ble_eq_true rfl, Nat.le_of_ble_eq_true rfl⟩ (fun ra M1 H locs hp X => ?_)
  rw [hp.1] at X
  have hq_ra := (ordI_ok (τ (80 + a)) (τ 108) 8).2.1
  rw [← hp.2] at hq_ra
  refine lv_if_ge (tgt := 133) hx hb d_Mdl_work_88 (by decide) (fun c88 => ?_) (fun c88 => ?_)
  · have hlt := hq_ra.mp c88
    refine lv_iconst (v := 0) hx hb d_Mdl_work_133 (by decide) ?_
    exact gm_zret hx hb hr2 hlk X rfl ⟨τ, rfl, Or.inl ⟨rfl, fun z => by have := z.1; omega, fun _ _ _ _ => rfl⟩⟩ d_Mdl_work_134
  · have hla : (IV (τ (80 + a)) 8 : Int) < nN := by have q : ¬ IV (τ 108) 8 ≤ IV (τ (80 + a)) 8 := fun z => c88 (hq_ra.mpr z); omega
    refine lv_iload hx hb d_Mdl_work_91 (lv_at hl 0 rfl) ?_
    refine lv_iconst (v := 3) hx hb d_Mdl_work_93 (by decide) ?_
    refine lv_icmp_ge (tgt := 115) hx hb d_Mdl_work_94 (by decide) (fun c9 => absurd c9 (by decide)) (fun _ => ?_)
    refine lv_aload_n hx hb d_Mdl_work_97 rfl (lv_at hl 2 rfl) ?_
    refine gm_get hx hb hW hown X u_Mdl m53 rfl 15 (by decide) wf_Mdl_103 (v := .ref (E.2.1 + 79)) rfl d_Mdl_work_98 ?_
    refine lv_iload hx hb d_Mdl_work_101 (lv_at hl 6 rfl) ?_
    refine gm_aald2 hx hb X (k := b) (t := E.2.1 + (80 + b)) m79 rfl rfl ⟨h_b, by decide⟩ (if_pos h_b) d_Mdl_work_103 ?_
    refine lv_aload hx hb d_Mdl_work_104 (lv_at hl 1 rfl) ?_
    refine gm_getN hx hb hW hown X u_Rng m107 rfl 0 (by decide) wfn_Mdl_178 (v := .ref (E.2.1 + 108)) rfl d_Mdl_work_106 ?_
    refine gm_Si hx hb hml hown hW X (c_Rng_compare l E _ (mw_row (q8_n h_b)) (mw_row (k := 108) (by decide))) (n := 2) ⟨⟨wl_Mdl_174, ws_Rng_compare, winit_Rng, wc_Rng_compare⟩, by decide +kernel, Nat.le_of_ble_eq_true rfl, Nat.le_of_ble_eq_true rfl⟩ rfl hl.1 rfl (Nat.le_of_ble_eq_true rfl) d_Mdl_work_109 ⟨Nat.le_of_ble_eq_true rfl, Nat.le_of_ble_eq_true rfl⟩ (fun rb M1 H locs hp X => ?_)
    rw [hp.1] at X
    have hq_rb := (ordI_ok (τ (80 + b)) (τ 108) 8).2.1
    rw [← hp.2] at hq_rb
    refine lv_if_ge (tgt := 133) hx hb d_Mdl_work_112 (by decide) (fun c112 => ?_) (fun c112 => ?_)
    · have hlt := hq_rb.mp c112
      refine lv_iconst (v := 0) hx hb d_Mdl_work_133 (by decide) ?_
      exact gm_zret hx hb hr2 hlk X rfl ⟨τ, rfl, Or.inl ⟨rfl, fun z => by have z2 : (IV (τ (80 + b)) 8 : Int) < nN := z.2; omega, fun _ _ _ _ => rfl⟩⟩ d_Mdl_work_134
    · have hq2 : (IV (τ (80 + b)) 8 : Int) < nN := by have q : ¬ IV (τ 108) 8 ≤ IV (τ (80 + b)) 8 := fun z => c112 (hq_rb.mpr z); omega
      refine lv_iload hx hb d_Mdl_work_115 (lv_at hl 0 rfl) ?_
      refine lv_iconst (v := 3) hx hb d_Mdl_work_117 (by decide) ?_
      refine lv_icmp_ne (tgt := 135) hx hb d_Mdl_work_118 (by decide) (fun _ => ?_) (fun c9 => absurd c9 (by decide))
      refine lv_aload hx hb d_Mdl_work_135 (lv_at hl 1 rfl) ?_
      refine lv_aload_n hx hb d_Mdl_work_137 rfl (lv_at hl 2 rfl) ?_
      refine gm_get hx hb hW hown X u_Mdl m53 rfl 15 (by decide) wf_Mdl_103 (v := .ref (E.2.1 + 79)) rfl d_Mdl_work_138 ?_
      refine lv_iload_n hx hb d_Mdl_work_141 rfl (lv_at hl 5 rfl) ?_
      refine gm_aald2 hx hb X (k := a) (t := E.2.1 + (80 + a)) m79 rfl rfl ⟨h_a, by decide⟩ (if_pos h_a) d_Mdl_work_142 ?_
      refine lv_aload_n hx hb d_Mdl_work_143 rfl (lv_at hl 2 rfl) ?_
      refine gm_get hx hb hW hown X u_Mdl m53 rfl 20 (by decide) wf_Mdl_119 (v := .ref (E.2.1 + 95)) rfl d_Mdl_work_144 ?_
      refine gm_Vv hx hb hml hown hW X m107 (q_enter l hpN hgN hS hrN (by decide) (q8_n h_a) (by omega)) (n := 2) ⟨⟨wl_Mdl_135, wi_Rng_enter, wsel_Rng_enter, winit_Rng, wc_Rng_enter⟩, by decide +kernel, ⟨Nat.le_of_ble_eq_true rfl, Nat.le_of_ble_eq_true rfl⟩, _, rfl, rfl⟩ rfl hl.1 rfl (Nat.le_of_ble_eq_true rfl) d_Mdl_work_147 ⟨Nat.le_of_ble_eq_true rfl, Nat.le_of_ble_eq_true rfl⟩ (fun M1 H locs hp X => ?_)
      obtain ⟨τ1, rfl, q1, kk1⟩ := hp
      have R_1 : isR φ nP 99 τ1 := hr.kp (fun j h1 h2 => kk1 j (by omega) (by omega))
      have R2_1 : isR ψ nN 107 τ1 := hrN.kp (fun j h1 h2 => kk1 j (by omega) (by omega))
      have m95_1 : MV ψ nN (τ1 95) (ψ (IV (τ (80 + a)) 8)) := q1
      refine lv_iload hx hb d_Mdl_work_150 (lv_at hl 0 rfl) ?_
      refine lv_iconst (v := 3) hx hb d_Mdl_work_152 (by decide) ?_
      refine lv_icmp_ge (tgt := 172) hx hb d_Mdl_work_153 (by decide) (fun c9 => absurd c9 (by decide)) (fun _ => ?_)
      refine lv_aload hx hb d_Mdl_work_156 (lv_at hl 1 rfl) ?_
      refine lv_aload_n hx hb d_Mdl_work_158 rfl (lv_at hl 2 rfl) ?_
      refine gm_get hx hb hW hown X u_Mdl m53 rfl 15 (by decide) wf_Mdl_103 (v := .ref (E.2.1 + 79)) rfl d_Mdl_work_159 ?_
      refine lv_iload hx hb d_Mdl_work_162 (lv_at hl 6 rfl) ?_
      refine gm_aald2 hx hb X (k := b) (t := E.2.1 + (80 + b)) m79 rfl rfl ⟨h_b, by decide⟩ (if_pos h_b) d_Mdl_work_164 ?_
      refine lv_aload_n hx hb d_Mdl_work_165 rfl (lv_at hl 2 rfl) ?_
      refine gm_get hx hb hW hown X u_Mdl m53 rfl 21 (by decide) wf_Mdl_122 (v := .ref (E.2.1 + 96)) rfl d_Mdl_work_166 ?_
      have e169 := (show τ1 (80 + b) = τ (80 + b) by rw [kk1 (80 + b) (by omega) (by omega)])
      refine gm_Vv hx hb hml hown hW X m107 (q_enter l hpN hgN hS R2_1 (by decide) (q8_n h_b) (by omega)) (n := 2) ⟨⟨wl_Mdl_135, wi_Rng_enter, wsel_Rng_enter, winit_Rng, wc_Rng_enter⟩, by decide +kernel, ⟨Nat.le_of_ble_eq_true rfl, Nat.le_of_ble_eq_true rfl⟩, _, rfl, rfl⟩ rfl hl.1 rfl (Nat.le_of_ble_eq_true rfl) d_Mdl_work_169 ⟨Nat.le_of_ble_eq_true rfl, Nat.le_of_ble_eq_true rfl⟩ (fun M1 H locs hp X => ?_)
      obtain ⟨τ2, rfl, q2, kk2⟩ := hp
      have m95_2 : MV ψ nN (τ2 95) (ψ (IV (τ (80 + a)) 8)) := by rw [kk2 95 (by omega) (by omega)]; exact m95_1
      have R_2 : isR φ nP 99 τ2 := R_1.kp (fun j h1 h2 => kk2 j (by omega) (by omega))
      have R2_2 : isR ψ nN 107 τ2 := R2_1.kp (fun j h1 h2 => kk2 j (by omega) (by omega))
      have m96_2 : MV ψ nN (τ2 96) (ψ (IV (τ (80 + b)) 8)) := by rw [← e169]; exact q2
      refine lv_iload hx hb d_Mdl_work_172 (lv_at hl 0 rfl) ?_
      refine lv_if_ne (tgt := 197) hx hb d_Mdl_work_174 (by decide) (fun c9 => absurd rfl c9) (fun _ => ?_)
      refine lv_aload hx hb d_Mdl_work_177 (lv_at hl 1 rfl) ?_
      refine lv_aload_n hx hb d_Mdl_work_179 rfl (lv_at hl 2 rfl) ?_
      refine gm_get hx hb hW hown X u_Mdl m53 rfl 20 (by decide) wf_Mdl_119 (v := .ref (E.2.1 + 95)) rfl d_Mdl_work_180 ?_
      refine lv_aload_n hx hb d_Mdl_work_183 rfl (lv_at hl 2 rfl) ?_
      refine gm_get hx hb hW hown X u_Mdl m53 rfl 21 (by decide) wf_Mdl_122 (v := .ref (E.2.1 + 96)) rfl d_Mdl_work_184 ?_
      refine lv_aload_n hx hb d_Mdl_work_187 rfl (lv_at hl 2 rfl) ?_
      refine gm_get hx hb hW hown X u_Mdl m53 rfl 20 (by decide) wf_Mdl_119 (v := .ref (E.2.1 + 95)) rfl d_Mdl_work_188 ?_
      refine gm_Vv hx hb hml hown hW X m107 (q_add l hpN hgN R2_2 (by decide) (by decide) (by decide) (by omega) m95_2 m96_2) (n := 3) ⟨⟨wl_Mdl_35, wi_Rng_add, wsel_Rng_add, winit_Rng, wc_Rng_add⟩, by decide +kernel, ⟨Nat.le_of_ble_eq_true rfl, Nat.le_of_ble_eq_true rfl⟩, _, rfl, rfl⟩ rfl hl.1 rfl (Nat.le_of_ble_eq_true rfl) d_Mdl_work_191 ⟨Nat.le_of_ble_eq_true rfl, Nat.le_of_ble_eq_true rfl⟩ (fun M1 H locs hp X => ?_)
      obtain ⟨τ3, rfl, q3, kk3⟩ := hp
      have m96_3 : MV ψ nN (τ3 96) (ψ (IV (τ (80 + b)) 8)) := by rw [kk3 96 (by omega) (by omega)]; exact m96_2
      have R_3 : isR φ nP 99 τ3 := R_2.kp (fun j h1 h2 => kk3 j (by omega) (by omega))
      have R2_3 : isR ψ nN 107 τ3 := R2_2.kp (fun j h1 h2 => kk3 j (by omega) (by omega))
      have m95_3 : MV ψ nN (τ3 95) ((ψ (IV (τ (80 + a)) 8)) + (ψ (IV (τ (80 + b)) 8))) := q3
      refine lv_goto (tgt := 265) hx hb d_Mdl_work_194 (by decide) ?_
      refine lv_aload hx hb d_Mdl_work_265 (lv_at hl 1 rfl) ?_
      refine lv_aload_n hx hb d_Mdl_work_267 rfl (lv_at hl 2 rfl) ?_
      refine gm_get hx hb hW hown X u_Mdl m53 rfl 20 (by decide) wf_Mdl_119 (v := .ref (E.2.1 + 95)) rfl d_Mdl_work_268 ?_
      refine lv_aload_n hx hb d_Mdl_work_271 rfl (lv_at hl 2 rfl) ?_
      refine gm_get hx hb hW hown X u_Mdl m53 rfl 15 (by decide) wf_Mdl_103 (v := .ref (E.2.1 + 79)) rfl d_Mdl_work_272 ?_
      refine lv_iload_n hx hb d_Mdl_work_275 rfl (lv_at hl 4 rfl) ?_
      refine gm_aald2 hx hb X (k := t) (t := E.2.1 + (80 + t)) m79 rfl rfl ⟨h_t, by decide⟩ (if_pos h_t) d_Mdl_work_276 ?_
      refine gm_Vv hx hb hml hown hW X m107 (q_leave l hpN hgN hS R2_3 (q8_n h_t) (by decide) (by omega) m95_3) (n := 2) ⟨⟨wl_Mdl_65, wi_Rng_leave, wsel_Rng_leave, winit_Rng, wc_Rng_leave⟩, by decide +kernel, ⟨Nat.le_of_ble_eq_true rfl, Nat.le_of_ble_eq_true rfl⟩, _, rfl, rfl⟩ rfl hl.1 rfl (Nat.le_of_ble_eq_true rfl) d_Mdl_work_277 ⟨Nat.le_of_ble_eq_true rfl, Nat.le_of_ble_eq_true rfl⟩ (fun M1 H locs hp X => ?_)
      obtain ⟨τ4, rfl, q4, kk4⟩ := hp
      have m96_4 : MV ψ nN (τ4 96) (ψ (IV (τ (80 + b)) 8)) := by rw [kk4 96 (by omega) (by omega)]; exact m96_3
      have m95_4 : MV ψ nN (τ4 95) ((ψ (IV (τ (80 + a)) 8)) + (ψ (IV (τ (80 + b)) 8))) := by rw [kk4 95 (by omega) (by omega)]; exact m95_3
      have R_4 : isR φ nP 99 τ4 := R_3.kp (fun j h1 h2 => kk4 j (by omega) (by omega))
      have R2_4 : isR ψ nN 107 τ4 := R2_3.kp (fun j h1 h2 => kk4 j (by omega) (by omega))
      have p80t_4 : PV ψ nN (τ4 (80 + t)) ((ψ (IV (τ (80 + a)) 8)) + (ψ (IV (τ (80 + b)) 8))) := q4
      refine lv_iconst (v := 1) hx hb d_Mdl_work_280 (by decide) ?_
      refine gm_zret hx hb hr2 hlk X rfl ⟨_, rfl, Or.inr ⟨rfl, ⟨hla, hq2⟩, ?_, fun j hj h1 h2 => by have hj := hj.o; rw [kk4 j (by omega) (by omega), kk3 j (by omega) (by omega), kk2 j (by omega) (by omega), kk1 j (by omega) (by omega)]⟩⟩ d_Mdl_work_281
      exact PV.rep hgN p80t_4
set_option maxHeartbeats 4000000 in
theorem r_Mdl_work_ok_5 {F G : Type} [Lean.Grind.CommRing F] [Lean.Grind.CommRing G] {φ : Int → F} {inv : F → F} {ψ : Int → G} (l : Launch) (E : gm_E) (N : gm_M) (τ : Nat → Nat → Int32) (cd : Int32) (hk : fk φ inv) {Ri : F} (hR : φ (tq 8) * Ri = 1) (hgN : fm ψ nN) {Si : G} (hS : ψ (tq 8) * Si = 1) (hr : isR φ nP 99 τ) (hrN : isR ψ nN 107 τ) (h7 : MV φ nP (τ 54) 7) {t : Nat} (h_t : t < 8) {a : Nat} (h_a : a < 8) {b : Nat} (h_b : b < 8)  : ci_ l y_Mdl_work b_Mdl_work 7 (some .boolean) { frames := 3, cells := 0, slots := 0, locals := 78 } E (mW E N τ cd) [.ref (E.2.1 + 53), .int 5, .int (nI t), .int (nI a), .int (nI b)] (fun r M' => ∃ τ', M' = mW E N τ' 0 ∧ ((r = 0 ∧ ¬ wkOK 1 nN (IV (τ (80 + a)) 8) (IV (τ (80 + b)) 8) ∧ kMn 0 0 τ τ') ∨ (r = 1 ∧ wkOK 1 nN (IV (τ (80 + a)) 8) (IV (τ (80 + b)) 8) ∧ IV (τ' (80 + t)) 8 = rp ψ nN (wkV ψ 1 (NV sN2) (IV (τ (80 + a)) 8) (IV (τ (80 + b)) 8)) ∧ kMn (80 + t) 0 τ τ'))) := by
  have hf := hk.fm
  have hpP := rPl_P E
  have hpN := rPl_N E
  refine gm_met (by decide) (Nat.le_of_ble_eq_true rfl) (fun p e s m below meth c ls hx hb hml hr2 hlk hnm hown hW X hl => ?_)
  have hl : lv_has ls 7 [(0, .ref (E.2.1 + 53)), (1, .int 5), (2, .int (nI t)), (3, .int (nI a)), (4, .int (nI b))] := hl
  refine lv_aload_n hx hb d_Mdl_work_0 rfl (lv_at hl 0 rfl) ?_
  refine lv_iload_n hx hb d_Mdl_work_1 rfl (lv_at hl 1 rfl) ?_
  refine lv_bipush (v := 7) hx hb d_Mdl_work_2 (by decide) ?_
  refine gm_Si hx hb hml hown hW X (r_Mdl_in_8 l E N τ cd) (n := 2) ⟨⟨wl_Mdl_164, ws_Mdl_in, winit_Mdl, wc_Mdl_in⟩, by decide +kernel, Nat.le_of_ble_eq_true rfl, Nat.le_of_ble_eq_true rfl⟩ rfl hl.1 rfl (Nat.le_of_ble_eq_true rfl) d_Mdl_work_4 ⟨Nat.le_of_ble_eq_true rfl, Nat.le_of_ble_eq_true rfl⟩ (fun r0 M1 H locs hp X => ?_)
  rw [hp.1] at X
  have hz0 : r0 = 1 := by rcases hp.2 with h | h; exact h.1; exact absurd ⟨5, by decide, rfl⟩ h.2
  refine lv_if_eq (tgt := 42) hx hb d_Mdl_work_7 (by decide) (fun c9 => absurd (hz0.symm.trans c9) (by decide)) (fun _ => ?_)
  refine lv_iload_n hx hb d_Mdl_work_10 rfl (lv_at hl 2 rfl) ?_
  refine lv_bipush (v := 7) hx hb d_Mdl_work_11 (by decide) ?_
  refine gm_Si hx hb hml hown hW X (r_Mdl_in_8 l E N τ cd) (n := 2) ⟨⟨wl_Mdl_164, ws_Mdl_in, winit_Mdl, wc_Mdl_in⟩, by decide +kernel, Nat.le_of_ble_eq_true rfl, Nat.le_of_ble_eq_true rfl⟩ rfl hl.1 rfl (Nat.le_of_ble_eq_true rfl) d_Mdl_work_13 ⟨Nat.le_of_ble_eq_true rfl, Nat.le_of_ble_eq_true rfl⟩ (fun r1 M1 H locs hp X => ?_)
  rw [hp.1] at X
  have hz1 : r1 = 1 := by rcases hp.2 with h | h; exact h.1; exact absurd ⟨t, h_t, rfl⟩ h.2
  refine lv_if_eq (tgt := 42) hx hb d_Mdl_work_16 (by decide) (fun c9 => absurd (hz1.symm.trans c9) (by decide)) (fun _ => ?_)
  refine lv_iload_n hx hb d_Mdl_work_19 rfl (lv_at hl 3 rfl) ?_
  refine lv_bipush (v := 7) hx hb d_Mdl_work_20 (by decide) ?_
  refine gm_Si hx hb hml hown hW X (r_Mdl_in_8 l E N τ cd) (n := 2) ⟨⟨wl_Mdl_164, ws_Mdl_in, winit_Mdl, wc_Mdl_in⟩, by decide +kernel, Nat.le_of_ble_eq_true rfl, Nat.le_of_ble_eq_true rfl⟩ rfl hl.1 rfl (Nat.le_of_ble_eq_true rfl) d_Mdl_work_22 ⟨Nat.le_of_ble_eq_true rfl, Nat.le_of_ble_eq_true rfl⟩ (fun r2 M1 H locs hp X => ?_)
  rw [hp.1] at X
  have hz2 : r2 = 1 := by rcases hp.2 with h | h; exact h.1; exact absurd ⟨a, h_a, rfl⟩ h.2
  refine lv_if_eq (tgt := 42) hx hb d_Mdl_work_25 (by decide) (fun c9 => absurd (hz2.symm.trans c9) (by decide)) (fun _ => ?_)
  refine lv_iload hx hb d_Mdl_work_28 (lv_at hl 4 rfl) ?_
  refine lv_bipush (v := 7) hx hb d_Mdl_work_30 (by decide) ?_
  refine gm_Si hx hb hml hown hW X (r_Mdl_in_8 l E N τ cd) (n := 2) ⟨⟨wl_Mdl_164, ws_Mdl_in, winit_Mdl, wc_Mdl_in⟩, by decide +kernel, Nat.le_of_ble_eq_true rfl, Nat.le_of_ble_eq_true rfl⟩ rfl hl.1 rfl (Nat.le_of_ble_eq_true rfl) d_Mdl_work_32 ⟨Nat.le_of_ble_eq_true rfl, Nat.le_of_ble_eq_true rfl⟩ (fun r3 M1 H locs hp X => ?_)
  rw [hp.1] at X
  have hz3 : r3 = 1 := by rcases hp.2 with h | h; exact h.1; exact absurd ⟨b, h_b, rfl⟩ h.2
  refine lv_if_eq (tgt := 42) hx hb d_Mdl_work_35 (by decide) (fun c9 => absurd (hz3.symm.trans c9) (by decide)) (fun _ => ?_)
  refine lv_iconst (v := 1) hx hb d_Mdl_work_38 (by decide) ?_
  refine lv_goto (tgt := 43) hx hb d_Mdl_work_39 (by decide) ?_
  refine gm_Vi hx hb hml hown hW X m53 (r_Mdl_good_1 l E N τ cd) (n := 1) ⟨⟨wl_Mdl_168, wi_Mdl_good, wsel_Mdl_good, winit_Mdl, wc_Mdl_good⟩, by decide +kernel, ⟨Nat.le_of_ble_eq_true rfl, Nat.le_of_ble_eq_true rfl⟩, _, rfl, rfl⟩ rfl hl.1 rfl (Nat.le_of_ble_eq_true rfl) d_Mdl_work_43 ⟨Nat.le_of_ble_eq_true rfl, Nat.le_of_ble_eq_true rfl⟩ (fun r9 M1 H locs hp X => ?_)
  rw [hp.1] at X
  have hr9 := hp.2
  refine lv_if_ne (tgt := 51) hx hb d_Mdl_work_46 (by decide) (fun _ => ?_) (fun c9 => absurd (hr9.symm.trans c9) (by decide))
  have hm : (IV (τ 108) 8 : Int) = nN := hrN.1
  refine lv_iload_n hx hb d_Mdl_work_51 rfl (lv_at hl 1 rfl) ?_
  refine lv_iconst (v := 4) hx hb d_Mdl_work_52 (by decide) ?_
  refine lv_icmp_ge (tgt := 63) hx hb d_Mdl_work_53 (by decide) (fun _ => ?_) (fun c9 => absurd (by decide) c9)
  refine lv_aload_n hx hb d_Mdl_work_63 rfl (lv_at hl 0 rfl) ?_
  refine gm_get hx hb hW hown X u_Mdl m53 rfl 1 (by decide) wf_Mdl_132 (v := .ref (E.2.1 + 107)) rfl d_Mdl_work_64 ?_
  refine lv_astore (lv' := [(5, .ref (E.2.1 + 107)), (0, .ref (E.2.1 + 53)), (1, .int 5), (2, .int (nI t)), (3, .int (nI a)), (4, .int (nI b))]) hx hb d_Mdl_work_67 hl (by decide) rfl (fun ls hl => ?_)
  refine lv_iload_n hx hb d_Mdl_work_69 rfl (lv_at hl 2 rfl) ?_
  refine lv_iconst (v := 3) hx hb d_Mdl_work_70 (by decide) ?_
  refine lv_iand hx hb d_Mdl_work_71 ?_
  refine lv_eqi (v := 1) (by decide) ?_
  refine lv_istore (lv' := [(6, .int 1), (5, .ref (E.2.1 + 107)), (0, .ref (E.2.1 + 53)), (1, .int 5), (2, .int (nI t)), (3, .int (nI a)), (4, .int (nI b))]) hx hb d_Mdl_work_72 hl (by decide) rfl (fun ls hl => ?_)
  refine lv_aload_n hx hb d_Mdl_work_74 rfl (lv_at hl 2 rfl) ?_
  refine gm_get hx hb hW hown X u_Mdl m53 rfl 15 (by decide) wf_Mdl_103 (v := .ref (E.2.1 + 79)) rfl d_Mdl_work_75 ?_
  refine lv_iload_n hx hb d_Mdl_work_78 rfl (lv_at hl 5 rfl) ?_
  refine gm_aald2 hx hb X (k := a) (t := E.2.1 + (80 + a)) m79 rfl rfl ⟨h_a, by decide⟩ (if_pos h_a) d_Mdl_work_79 ?_
  refine lv_aload hx hb d_Mdl_work_80 (lv_at hl 1 rfl) ?_
  refine gm_getN hx hb hW hown X u_Rng m107 rfl 0 (by decide) wfn_Mdl_178 (v := .ref (E.2.1 + 108)) rfl d_Mdl_work_82 ?_
  refine gm_Si hx hb hml hown hW X (c_Rng_compare l E _ (mw_row (q8_n h_a)) (mw_row (k := 108) (by decide))) (n := 2) ⟨⟨wl_Mdl_174, ws_Rng_compare, winit_Rng, wc_Rng_compare⟩, by decide +kernel, Nat.le_of_ble_eq_true rfl, Nat.le_of_ble_eq_true rfl⟩ rfl hl.1 rfl (Nat.le_of_ble_eq_true rfl) d_Mdl_work_85 ⟨Nat.le_of_ble_eq_true rfl, Nat.le_of_ble_eq_true rfl⟩ (fun ra M1 H locs hp X => ?_)
  rw [hp.1] at X
  have hq_ra := (ordI_ok (τ (80 + a)) (τ 108) 8).2.1
  rw [← hp.2] at hq_ra
  refine lv_if_ge (tgt := 133) hx hb d_Mdl_work_88 (by decide) (fun c88 => ?_) (fun c88 => ?_)
  · have hlt := hq_ra.mp c88
    refine lv_iconst (v := 0) hx hb d_Mdl_work_133 (by decide) ?_
    exact gm_zret hx hb hr2 hlk X rfl ⟨τ, rfl, Or.inl ⟨rfl, fun z => by have := z.1; omega, fun _ _ _ _ => rfl⟩⟩ d_Mdl_work_134
  · have hla : (IV (τ (80 + a)) 8 : Int) < nN := by have q : ¬ IV (τ 108) 8 ≤ IV (τ (80 + a)) 8 := fun z => c88 (hq_ra.mpr z); omega
    refine lv_iload hx hb d_Mdl_work_91 (lv_at hl 0 rfl) ?_
    refine lv_iconst (v := 3) hx hb d_Mdl_work_93 (by decide) ?_
    refine lv_icmp_ge (tgt := 115) hx hb d_Mdl_work_94 (by decide) (fun c9 => absurd c9 (by decide)) (fun _ => ?_)
    refine lv_aload_n hx hb d_Mdl_work_97 rfl (lv_at hl 2 rfl) ?_
    refine gm_get hx hb hW hown X u_Mdl m53 rfl 15 (by decide) wf_Mdl_103 (v := .ref (E.2.1 + 79)) rfl d_Mdl_work_98 ?_
    refine lv_iload hx hb d_Mdl_work_101 (lv_at hl 6 rfl) ?_
    refine gm_aald2 hx hb X (k := b) (t := E.2.1 + (80 + b)) m79 rfl rfl ⟨h_b, by decide⟩ (if_pos h_b) d_Mdl_work_103 ?_
    refine lv_aload hx hb d_Mdl_work_104 (lv_at hl 1 rfl) ?_
    refine gm_getN hx hb hW hown X u_Rng m107 rfl 0 (by decide) wfn_Mdl_178 (v := .ref (E.2.1 + 108)) rfl d_Mdl_work_106 ?_
    refine gm_Si hx hb hml hown hW X (c_Rng_compare l E _ (mw_row (q8_n h_b)) (mw_row (k := 108) (by decide))) (n := 2) ⟨⟨wl_Mdl_174, ws_Rng_compare, winit_Rng, wc_Rng_compare⟩, by decide +kernel, Nat.le_of_ble_eq_true rfl, Nat.le_of_ble_eq_true rfl⟩ rfl hl.1 rfl (Nat.le_of_ble_eq_true rfl) d_Mdl_work_109 ⟨Nat.le_of_ble_eq_true rfl, Nat.le_of_ble_eq_true rfl⟩ (fun rb M1 H locs hp X => ?_)
    rw [hp.1] at X
    have hq_rb := (ordI_ok (τ (80 + b)) (τ 108) 8).2.1
    rw [← hp.2] at hq_rb
    refine lv_if_ge (tgt := 133) hx hb d_Mdl_work_112 (by decide) (fun c112 => ?_) (fun c112 => ?_)
    · have hlt := hq_rb.mp c112
      refine lv_iconst (v := 0) hx hb d_Mdl_work_133 (by decide) ?_
      exact gm_zret hx hb hr2 hlk X rfl ⟨τ, rfl, Or.inl ⟨rfl, fun z => by have z2 : (IV (τ (80 + b)) 8 : Int) < nN := z.2; omega, fun _ _ _ _ => rfl⟩⟩ d_Mdl_work_134
    · have hq2 : (IV (τ (80 + b)) 8 : Int) < nN := by have q : ¬ IV (τ 108) 8 ≤ IV (τ (80 + b)) 8 := fun z => c112 (hq_rb.mpr z); omega
      refine lv_iload hx hb d_Mdl_work_115 (lv_at hl 0 rfl) ?_
      refine lv_iconst (v := 3) hx hb d_Mdl_work_117 (by decide) ?_
      refine lv_icmp_ne (tgt := 135) hx hb d_Mdl_work_118 (by decide) (fun _ => ?_) (fun c9 => absurd c9 (by decide))
      refine lv_aload hx hb d_Mdl_work_135 (lv_at hl 1 rfl) ?_
      refine lv_aload_n hx hb d_Mdl_work_137 rfl (lv_at hl 2 rfl) ?_
      refine gm_get hx hb hW hown X u_Mdl m53 rfl 15 (by decide) wf_Mdl_103 (v := .ref (E.2.1 + 79)) rfl d_Mdl_work_138 ?_
      refine lv_iload_n hx hb d_Mdl_work_141 rfl (lv_at hl 5 rfl) ?_
      refine gm_aald2 hx hb X (k := a) (t := E.2.1 + (80 + a)) m79 rfl rfl ⟨h_a, by decide⟩ (if_pos h_a) d_Mdl_work_142 ?_
      refine lv_aload_n hx hb d_Mdl_work_143 rfl (lv_at hl 2 rfl) ?_
      refine gm_get hx hb hW hown X u_Mdl m53 rfl 20 (by decide) wf_Mdl_119 (v := .ref (E.2.1 + 95)) rfl d_Mdl_work_144 ?_
      refine gm_Vv hx hb hml hown hW X m107 (q_enter l hpN hgN hS hrN (by decide) (q8_n h_a) (by omega)) (n := 2) ⟨⟨wl_Mdl_135, wi_Rng_enter, wsel_Rng_enter, winit_Rng, wc_Rng_enter⟩, by decide +kernel, ⟨Nat.le_of_ble_eq_true rfl, Nat.le_of_ble_eq_true rfl⟩, _, rfl, rfl⟩ rfl hl.1 rfl (Nat.le_of_ble_eq_true rfl) d_Mdl_work_147 ⟨Nat.le_of_ble_eq_true rfl, Nat.le_of_ble_eq_true rfl⟩ (fun M1 H locs hp X => ?_)
      obtain ⟨τ1, rfl, q1, kk1⟩ := hp
      have R_1 : isR φ nP 99 τ1 := hr.kp (fun j h1 h2 => kk1 j (by omega) (by omega))
      have R2_1 : isR ψ nN 107 τ1 := hrN.kp (fun j h1 h2 => kk1 j (by omega) (by omega))
      have m95_1 : MV ψ nN (τ1 95) (ψ (IV (τ (80 + a)) 8)) := q1
      refine lv_iload hx hb d_Mdl_work_150 (lv_at hl 0 rfl) ?_
      refine lv_iconst (v := 3) hx hb d_Mdl_work_152 (by decide) ?_
      refine lv_icmp_ge (tgt := 172) hx hb d_Mdl_work_153 (by decide) (fun c9 => absurd c9 (by decide)) (fun _ => ?_)
      refine lv_aload hx hb d_Mdl_work_156 (lv_at hl 1 rfl) ?_
      refine lv_aload_n hx hb d_Mdl_work_158 rfl (lv_at hl 2 rfl) ?_
      refine gm_get hx hb hW hown X u_Mdl m53 rfl 15 (by decide) wf_Mdl_103 (v := .ref (E.2.1 + 79)) rfl d_Mdl_work_159 ?_
      refine lv_iload hx hb d_Mdl_work_162 (lv_at hl 6 rfl) ?_
      refine gm_aald2 hx hb X (k := b) (t := E.2.1 + (80 + b)) m79 rfl rfl ⟨h_b, by decide⟩ (if_pos h_b) d_Mdl_work_164 ?_
      refine lv_aload_n hx hb d_Mdl_work_165 rfl (lv_at hl 2 rfl) ?_
      refine gm_get hx hb hW hown X u_Mdl m53 rfl 21 (by decide) wf_Mdl_122 (v := .ref (E.2.1 + 96)) rfl d_Mdl_work_166 ?_
      have e169 := (show τ1 (80 + b) = τ (80 + b) by rw [kk1 (80 + b) (by omega) (by omega)])
      refine gm_Vv hx hb hml hown hW X m107 (q_enter l hpN hgN hS R2_1 (by decide) (q8_n h_b) (by omega)) (n := 2) ⟨⟨wl_Mdl_135, wi_Rng_enter, wsel_Rng_enter, winit_Rng, wc_Rng_enter⟩, by decide +kernel, ⟨Nat.le_of_ble_eq_true rfl, Nat.le_of_ble_eq_true rfl⟩, _, rfl, rfl⟩ rfl hl.1 rfl (Nat.le_of_ble_eq_true rfl) d_Mdl_work_169 ⟨Nat.le_of_ble_eq_true rfl, Nat.le_of_ble_eq_true rfl⟩ (fun M1 H locs hp X => ?_)
      obtain ⟨τ2, rfl, q2, kk2⟩ := hp
      have m95_2 : MV ψ nN (τ2 95) (ψ (IV (τ (80 + a)) 8)) := by rw [kk2 95 (by omega) (by omega)]; exact m95_1
      have R_2 : isR φ nP 99 τ2 := R_1.kp (fun j h1 h2 => kk2 j (by omega) (by omega))
      have R2_2 : isR ψ nN 107 τ2 := R2_1.kp (fun j h1 h2 => kk2 j (by omega) (by omega))
      have m96_2 : MV ψ nN (τ2 96) (ψ (IV (τ (80 + b)) 8)) := by rw [← e169]; exact q2
      refine lv_iload hx hb d_Mdl_work_172 (lv_at hl 0 rfl) ?_
      refine lv_if_ne (tgt := 197) hx hb d_Mdl_work_174 (by decide) (fun _ => ?_) (fun c9 => absurd c9 (by decide))
      refine lv_iload hx hb d_Mdl_work_197 (lv_at hl 0 rfl) ?_
      refine lv_iconst (v := 1) hx hb d_Mdl_work_199 (by decide) ?_
      refine lv_icmp_ne (tgt := 223) hx hb d_Mdl_work_200 (by decide) (fun c9 => absurd rfl c9) (fun _ => ?_)
      refine lv_aload hx hb d_Mdl_work_203 (lv_at hl 1 rfl) ?_
      refine lv_aload_n hx hb d_Mdl_work_205 rfl (lv_at hl 2 rfl) ?_
      refine gm_get hx hb hW hown X u_Mdl m53 rfl 20 (by decide) wf_Mdl_119 (v := .ref (E.2.1 + 95)) rfl d_Mdl_work_206 ?_
      refine lv_aload_n hx hb d_Mdl_work_209 rfl (lv_at hl 2 rfl) ?_
      refine gm_get hx hb hW hown X u_Mdl m53 rfl 21 (by decide) wf_Mdl_122 (v := .ref (E.2.1 + 96)) rfl d_Mdl_work_210 ?_
      refine lv_aload_n hx hb d_Mdl_work_213 rfl (lv_at hl 2 rfl) ?_
      refine gm_get hx hb hW hown X u_Mdl m53 rfl 20 (by decide) wf_Mdl_119 (v := .ref (E.2.1 + 95)) rfl d_Mdl_work_214 ?_
      refine gm_Vv hx hb hml hown hW X m107 (q_subtract l hpN hgN R2_2 (by decide) (by decide) (by decide) (by omega) m95_2 m96_2) (n := 3) ⟨⟨wl_Mdl_47, wi_Rng_subtract, wsel_Rng_subtract, winit_Rng, wc_Rng_subtract⟩, by decide +kernel, ⟨Nat.le_of_ble_eq_true rfl, Nat.le_of_ble_eq_true rfl⟩, _, rfl, rfl⟩ rfl hl.1 rfl (Nat.le_of_ble_eq_true rfl) d_Mdl_work_217 ⟨Nat.le_of_ble_eq_true rfl, Nat.le_of_ble_eq_true rfl⟩ (fun M1 H locs hp X => ?_)
      obtain ⟨τ3, rfl, q3, kk3⟩ := hp
      have m96_3 : MV ψ nN (τ3 96) (ψ (IV (τ (80 + b)) 8)) := by rw [kk3 96 (by omega) (by omega)]; exact m96_2
      have R_3 : isR φ nP 99 τ3 := R_2.kp (fun j h1 h2 => kk3 j (by omega) (by omega))
      have R2_3 : isR ψ nN 107 τ3 := R2_2.kp (fun j h1 h2 => kk3 j (by omega) (by omega))
      have m95_3 : MV ψ nN (τ3 95) ((ψ (IV (τ (80 + a)) 8)) - (ψ (IV (τ (80 + b)) 8))) := q3
      refine lv_goto (tgt := 265) hx hb d_Mdl_work_220 (by decide) ?_
      refine lv_aload hx hb d_Mdl_work_265 (lv_at hl 1 rfl) ?_
      refine lv_aload_n hx hb d_Mdl_work_267 rfl (lv_at hl 2 rfl) ?_
      refine gm_get hx hb hW hown X u_Mdl m53 rfl 20 (by decide) wf_Mdl_119 (v := .ref (E.2.1 + 95)) rfl d_Mdl_work_268 ?_
      refine lv_aload_n hx hb d_Mdl_work_271 rfl (lv_at hl 2 rfl) ?_
      refine gm_get hx hb hW hown X u_Mdl m53 rfl 15 (by decide) wf_Mdl_103 (v := .ref (E.2.1 + 79)) rfl d_Mdl_work_272 ?_
      refine lv_iload_n hx hb d_Mdl_work_275 rfl (lv_at hl 4 rfl) ?_
      refine gm_aald2 hx hb X (k := t) (t := E.2.1 + (80 + t)) m79 rfl rfl ⟨h_t, by decide⟩ (if_pos h_t) d_Mdl_work_276 ?_
      refine gm_Vv hx hb hml hown hW X m107 (q_leave l hpN hgN hS R2_3 (q8_n h_t) (by decide) (by omega) m95_3) (n := 2) ⟨⟨wl_Mdl_65, wi_Rng_leave, wsel_Rng_leave, winit_Rng, wc_Rng_leave⟩, by decide +kernel, ⟨Nat.le_of_ble_eq_true rfl, Nat.le_of_ble_eq_true rfl⟩, _, rfl, rfl⟩ rfl hl.1 rfl (Nat.le_of_ble_eq_true rfl) d_Mdl_work_277 ⟨Nat.le_of_ble_eq_true rfl, Nat.le_of_ble_eq_true rfl⟩ (fun M1 H locs hp X => ?_)
      obtain ⟨τ4, rfl, q4, kk4⟩ := hp
      have m96_4 : MV ψ nN (τ4 96) (ψ (IV (τ (80 + b)) 8)) := by rw [kk4 96 (by omega) (by omega)]; exact m96_3
      have m95_4 : MV ψ nN (τ4 95) ((ψ (IV (τ (80 + a)) 8)) - (ψ (IV (τ (80 + b)) 8))) := by rw [kk4 95 (by omega) (by omega)]; exact m95_3
      have R_4 : isR φ nP 99 τ4 := R_3.kp (fun j h1 h2 => kk4 j (by omega) (by omega))
      have R2_4 : isR ψ nN 107 τ4 := R2_3.kp (fun j h1 h2 => kk4 j (by omega) (by omega))
      have p80t_4 : PV ψ nN (τ4 (80 + t)) ((ψ (IV (τ (80 + a)) 8)) - (ψ (IV (τ (80 + b)) 8))) := q4
      refine lv_iconst (v := 1) hx hb d_Mdl_work_280 (by decide) ?_
      refine gm_zret hx hb hr2 hlk X rfl ⟨_, rfl, Or.inr ⟨rfl, ⟨hla, hq2⟩, ?_, fun j hj h1 h2 => by have hj := hj.o; rw [kk4 j (by omega) (by omega), kk3 j (by omega) (by omega), kk2 j (by omega) (by omega), kk1 j (by omega) (by omega)]⟩⟩ d_Mdl_work_281
      exact PV.rep hgN p80t_4
set_option maxHeartbeats 4000000 in
theorem r_Mdl_work_ok_6 {F G : Type} [Lean.Grind.CommRing F] [Lean.Grind.CommRing G] {φ : Int → F} {inv : F → F} {ψ : Int → G} (l : Launch) (E : gm_E) (N : gm_M) (τ : Nat → Nat → Int32) (cd : Int32) (hk : fk φ inv) {Ri : F} (hR : φ (tq 8) * Ri = 1) (hgN : fm ψ nN) {Si : G} (hS : ψ (tq 8) * Si = 1) (hr : isR φ nP 99 τ) (hrN : isR ψ nN 107 τ) (h7 : MV φ nP (τ 54) 7) {t : Nat} (h_t : t < 8) {a : Nat} (h_a : a < 8) {b : Nat} (h_b : b < 8)  : ci_ l y_Mdl_work b_Mdl_work 7 (some .boolean) { frames := 3, cells := 0, slots := 0, locals := 78 } E (mW E N τ cd) [.ref (E.2.1 + 53), .int 6, .int (nI t), .int (nI a), .int (nI b)] (fun r M' => ∃ τ', M' = mW E N τ' 0 ∧ ((r = 0 ∧ ¬ wkOK 2 nN (IV (τ (80 + a)) 8) (IV (τ (80 + b)) 8) ∧ kMn 0 0 τ τ') ∨ (r = 1 ∧ wkOK 2 nN (IV (τ (80 + a)) 8) (IV (τ (80 + b)) 8) ∧ IV (τ' (80 + t)) 8 = rp ψ nN (wkV ψ 2 (NV sN2) (IV (τ (80 + a)) 8) (IV (τ (80 + b)) 8)) ∧ kMn (80 + t) 0 τ τ'))) := by
  have hf := hk.fm
  have hpP := rPl_P E
  have hpN := rPl_N E
  refine gm_met (by decide) (Nat.le_of_ble_eq_true rfl) (fun p e s m below meth c ls hx hb hml hr2 hlk hnm hown hW X hl => ?_)
  have hl : lv_has ls 7 [(0, .ref (E.2.1 + 53)), (1, .int 6), (2, .int (nI t)), (3, .int (nI a)), (4, .int (nI b))] := hl
  refine lv_aload_n hx hb d_Mdl_work_0 rfl (lv_at hl 0 rfl) ?_
  refine lv_iload_n hx hb d_Mdl_work_1 rfl (lv_at hl 1 rfl) ?_
  refine lv_bipush (v := 7) hx hb d_Mdl_work_2 (by decide) ?_
  refine gm_Si hx hb hml hown hW X (r_Mdl_in_8 l E N τ cd) (n := 2) ⟨⟨wl_Mdl_164, ws_Mdl_in, winit_Mdl, wc_Mdl_in⟩, by decide +kernel, Nat.le_of_ble_eq_true rfl, Nat.le_of_ble_eq_true rfl⟩ rfl hl.1 rfl (Nat.le_of_ble_eq_true rfl) d_Mdl_work_4 ⟨Nat.le_of_ble_eq_true rfl, Nat.le_of_ble_eq_true rfl⟩ (fun r0 M1 H locs hp X => ?_)
  rw [hp.1] at X
  have hz0 : r0 = 1 := by rcases hp.2 with h | h; exact h.1; exact absurd ⟨6, by decide, rfl⟩ h.2
  refine lv_if_eq (tgt := 42) hx hb d_Mdl_work_7 (by decide) (fun c9 => absurd (hz0.symm.trans c9) (by decide)) (fun _ => ?_)
  refine lv_iload_n hx hb d_Mdl_work_10 rfl (lv_at hl 2 rfl) ?_
  refine lv_bipush (v := 7) hx hb d_Mdl_work_11 (by decide) ?_
  refine gm_Si hx hb hml hown hW X (r_Mdl_in_8 l E N τ cd) (n := 2) ⟨⟨wl_Mdl_164, ws_Mdl_in, winit_Mdl, wc_Mdl_in⟩, by decide +kernel, Nat.le_of_ble_eq_true rfl, Nat.le_of_ble_eq_true rfl⟩ rfl hl.1 rfl (Nat.le_of_ble_eq_true rfl) d_Mdl_work_13 ⟨Nat.le_of_ble_eq_true rfl, Nat.le_of_ble_eq_true rfl⟩ (fun r1 M1 H locs hp X => ?_)
  rw [hp.1] at X
  have hz1 : r1 = 1 := by rcases hp.2 with h | h; exact h.1; exact absurd ⟨t, h_t, rfl⟩ h.2
  refine lv_if_eq (tgt := 42) hx hb d_Mdl_work_16 (by decide) (fun c9 => absurd (hz1.symm.trans c9) (by decide)) (fun _ => ?_)
  refine lv_iload_n hx hb d_Mdl_work_19 rfl (lv_at hl 3 rfl) ?_
  refine lv_bipush (v := 7) hx hb d_Mdl_work_20 (by decide) ?_
  refine gm_Si hx hb hml hown hW X (r_Mdl_in_8 l E N τ cd) (n := 2) ⟨⟨wl_Mdl_164, ws_Mdl_in, winit_Mdl, wc_Mdl_in⟩, by decide +kernel, Nat.le_of_ble_eq_true rfl, Nat.le_of_ble_eq_true rfl⟩ rfl hl.1 rfl (Nat.le_of_ble_eq_true rfl) d_Mdl_work_22 ⟨Nat.le_of_ble_eq_true rfl, Nat.le_of_ble_eq_true rfl⟩ (fun r2 M1 H locs hp X => ?_)
  rw [hp.1] at X
  have hz2 : r2 = 1 := by rcases hp.2 with h | h; exact h.1; exact absurd ⟨a, h_a, rfl⟩ h.2
  refine lv_if_eq (tgt := 42) hx hb d_Mdl_work_25 (by decide) (fun c9 => absurd (hz2.symm.trans c9) (by decide)) (fun _ => ?_)
  refine lv_iload hx hb d_Mdl_work_28 (lv_at hl 4 rfl) ?_
  refine lv_bipush (v := 7) hx hb d_Mdl_work_30 (by decide) ?_
  refine gm_Si hx hb hml hown hW X (r_Mdl_in_8 l E N τ cd) (n := 2) ⟨⟨wl_Mdl_164, ws_Mdl_in, winit_Mdl, wc_Mdl_in⟩, by decide +kernel, Nat.le_of_ble_eq_true rfl, Nat.le_of_ble_eq_true rfl⟩ rfl hl.1 rfl (Nat.le_of_ble_eq_true rfl) d_Mdl_work_32 ⟨Nat.le_of_ble_eq_true rfl, Nat.le_of_ble_eq_true rfl⟩ (fun r3 M1 H locs hp X => ?_)
  rw [hp.1] at X
  have hz3 : r3 = 1 := by rcases hp.2 with h | h; exact h.1; exact absurd ⟨b, h_b, rfl⟩ h.2
  refine lv_if_eq (tgt := 42) hx hb d_Mdl_work_35 (by decide) (fun c9 => absurd (hz3.symm.trans c9) (by decide)) (fun _ => ?_)
  refine lv_iconst (v := 1) hx hb d_Mdl_work_38 (by decide) ?_
  refine lv_goto (tgt := 43) hx hb d_Mdl_work_39 (by decide) ?_
  refine gm_Vi hx hb hml hown hW X m53 (r_Mdl_good_1 l E N τ cd) (n := 1) ⟨⟨wl_Mdl_168, wi_Mdl_good, wsel_Mdl_good, winit_Mdl, wc_Mdl_good⟩, by decide +kernel, ⟨Nat.le_of_ble_eq_true rfl, Nat.le_of_ble_eq_true rfl⟩, _, rfl, rfl⟩ rfl hl.1 rfl (Nat.le_of_ble_eq_true rfl) d_Mdl_work_43 ⟨Nat.le_of_ble_eq_true rfl, Nat.le_of_ble_eq_true rfl⟩ (fun r9 M1 H locs hp X => ?_)
  rw [hp.1] at X
  have hr9 := hp.2
  refine lv_if_ne (tgt := 51) hx hb d_Mdl_work_46 (by decide) (fun _ => ?_) (fun c9 => absurd (hr9.symm.trans c9) (by decide))
  have hm : (IV (τ 108) 8 : Int) = nN := hrN.1
  refine lv_iload_n hx hb d_Mdl_work_51 rfl (lv_at hl 1 rfl) ?_
  refine lv_iconst (v := 4) hx hb d_Mdl_work_52 (by decide) ?_
  refine lv_icmp_ge (tgt := 63) hx hb d_Mdl_work_53 (by decide) (fun _ => ?_) (fun c9 => absurd (by decide) c9)
  refine lv_aload_n hx hb d_Mdl_work_63 rfl (lv_at hl 0 rfl) ?_
  refine gm_get hx hb hW hown X u_Mdl m53 rfl 1 (by decide) wf_Mdl_132 (v := .ref (E.2.1 + 107)) rfl d_Mdl_work_64 ?_
  refine lv_astore (lv' := [(5, .ref (E.2.1 + 107)), (0, .ref (E.2.1 + 53)), (1, .int 6), (2, .int (nI t)), (3, .int (nI a)), (4, .int (nI b))]) hx hb d_Mdl_work_67 hl (by decide) rfl (fun ls hl => ?_)
  refine lv_iload_n hx hb d_Mdl_work_69 rfl (lv_at hl 2 rfl) ?_
  refine lv_iconst (v := 3) hx hb d_Mdl_work_70 (by decide) ?_
  refine lv_iand hx hb d_Mdl_work_71 ?_
  refine lv_eqi (v := 2) (by decide) ?_
  refine lv_istore (lv' := [(6, .int 2), (5, .ref (E.2.1 + 107)), (0, .ref (E.2.1 + 53)), (1, .int 6), (2, .int (nI t)), (3, .int (nI a)), (4, .int (nI b))]) hx hb d_Mdl_work_72 hl (by decide) rfl (fun ls hl => ?_)
  refine lv_aload_n hx hb d_Mdl_work_74 rfl (lv_at hl 2 rfl) ?_
  refine gm_get hx hb hW hown X u_Mdl m53 rfl 15 (by decide) wf_Mdl_103 (v := .ref (E.2.1 + 79)) rfl d_Mdl_work_75 ?_
  refine lv_iload_n hx hb d_Mdl_work_78 rfl (lv_at hl 5 rfl) ?_
  refine gm_aald2 hx hb X (k := a) (t := E.2.1 + (80 + a)) m79 rfl rfl ⟨h_a, by decide⟩ (if_pos h_a) d_Mdl_work_79 ?_
  refine lv_aload hx hb d_Mdl_work_80 (lv_at hl 1 rfl) ?_
  refine gm_getN hx hb hW hown X u_Rng m107 rfl 0 (by decide) wfn_Mdl_178 (v := .ref (E.2.1 + 108)) rfl d_Mdl_work_82 ?_
  refine gm_Si hx hb hml hown hW X (c_Rng_compare l E _ (mw_row (q8_n h_a)) (mw_row (k := 108) (by decide))) (n := 2) ⟨⟨wl_Mdl_174, ws_Rng_compare, winit_Rng, wc_Rng_compare⟩, by decide +kernel, Nat.le_of_ble_eq_true rfl, Nat.le_of_ble_eq_true rfl⟩ rfl hl.1 rfl (Nat.le_of_ble_eq_true rfl) d_Mdl_work_85 ⟨Nat.le_of_ble_eq_true rfl, Nat.le_of_ble_eq_true rfl⟩ (fun ra M1 H locs hp X => ?_)
  rw [hp.1] at X
  have hq_ra := (ordI_ok (τ (80 + a)) (τ 108) 8).2.1
  rw [← hp.2] at hq_ra
  refine lv_if_ge (tgt := 133) hx hb d_Mdl_work_88 (by decide) (fun c88 => ?_) (fun c88 => ?_)
  · have hlt := hq_ra.mp c88
    refine lv_iconst (v := 0) hx hb d_Mdl_work_133 (by decide) ?_
    exact gm_zret hx hb hr2 hlk X rfl ⟨τ, rfl, Or.inl ⟨rfl, fun z => by have := z.1; omega, fun _ _ _ _ => rfl⟩⟩ d_Mdl_work_134
  · have hla : (IV (τ (80 + a)) 8 : Int) < nN := by have q : ¬ IV (τ 108) 8 ≤ IV (τ (80 + a)) 8 := fun z => c88 (hq_ra.mpr z); omega
    refine lv_iload hx hb d_Mdl_work_91 (lv_at hl 0 rfl) ?_
    refine lv_iconst (v := 3) hx hb d_Mdl_work_93 (by decide) ?_
    refine lv_icmp_ge (tgt := 115) hx hb d_Mdl_work_94 (by decide) (fun c9 => absurd c9 (by decide)) (fun _ => ?_)
    refine lv_aload_n hx hb d_Mdl_work_97 rfl (lv_at hl 2 rfl) ?_
    refine gm_get hx hb hW hown X u_Mdl m53 rfl 15 (by decide) wf_Mdl_103 (v := .ref (E.2.1 + 79)) rfl d_Mdl_work_98 ?_
    refine lv_iload hx hb d_Mdl_work_101 (lv_at hl 6 rfl) ?_
    refine gm_aald2 hx hb X (k := b) (t := E.2.1 + (80 + b)) m79 rfl rfl ⟨h_b, by decide⟩ (if_pos h_b) d_Mdl_work_103 ?_
    refine lv_aload hx hb d_Mdl_work_104 (lv_at hl 1 rfl) ?_
    refine gm_getN hx hb hW hown X u_Rng m107 rfl 0 (by decide) wfn_Mdl_178 (v := .ref (E.2.1 + 108)) rfl d_Mdl_work_106 ?_
    refine gm_Si hx hb hml hown hW X (c_Rng_compare l E _ (mw_row (q8_n h_b)) (mw_row (k := 108) (by decide))) (n := 2) ⟨⟨wl_Mdl_174, ws_Rng_compare, winit_Rng, wc_Rng_compare⟩, by decide +kernel, Nat.le_of_ble_eq_true rfl, Nat.le_of_ble_eq_true rfl⟩ rfl hl.1 rfl (Nat.le_of_ble_eq_true rfl) d_Mdl_work_109 ⟨Nat.le_of_ble_eq_true rfl, Nat.le_of_ble_eq_true rfl⟩ (fun rb M1 H locs hp X => ?_)
    rw [hp.1] at X
    have hq_rb := (ordI_ok (τ (80 + b)) (τ 108) 8).2.1
    rw [← hp.2] at hq_rb
    refine lv_if_ge (tgt := 133) hx hb d_Mdl_work_112 (by decide) (fun c112 => ?_) (fun c112 => ?_)
    · have hlt := hq_rb.mp c112
      refine lv_iconst (v := 0) hx hb d_Mdl_work_133 (by decide) ?_
      exact gm_zret hx hb hr2 hlk X rfl ⟨τ, rfl, Or.inl ⟨rfl, fun z => by have z2 : (IV (τ (80 + b)) 8 : Int) < nN := z.2; omega, fun _ _ _ _ => rfl⟩⟩ d_Mdl_work_134
    · have hq2 : (IV (τ (80 + b)) 8 : Int) < nN := by have q : ¬ IV (τ 108) 8 ≤ IV (τ (80 + b)) 8 := fun z => c112 (hq_rb.mpr z); omega
      refine lv_iload hx hb d_Mdl_work_115 (lv_at hl 0 rfl) ?_
      refine lv_iconst (v := 3) hx hb d_Mdl_work_117 (by decide) ?_
      refine lv_icmp_ne (tgt := 135) hx hb d_Mdl_work_118 (by decide) (fun _ => ?_) (fun c9 => absurd c9 (by decide))
      refine lv_aload hx hb d_Mdl_work_135 (lv_at hl 1 rfl) ?_
      refine lv_aload_n hx hb d_Mdl_work_137 rfl (lv_at hl 2 rfl) ?_
      refine gm_get hx hb hW hown X u_Mdl m53 rfl 15 (by decide) wf_Mdl_103 (v := .ref (E.2.1 + 79)) rfl d_Mdl_work_138 ?_
      refine lv_iload_n hx hb d_Mdl_work_141 rfl (lv_at hl 5 rfl) ?_
      refine gm_aald2 hx hb X (k := a) (t := E.2.1 + (80 + a)) m79 rfl rfl ⟨h_a, by decide⟩ (if_pos h_a) d_Mdl_work_142 ?_
      refine lv_aload_n hx hb d_Mdl_work_143 rfl (lv_at hl 2 rfl) ?_
      refine gm_get hx hb hW hown X u_Mdl m53 rfl 20 (by decide) wf_Mdl_119 (v := .ref (E.2.1 + 95)) rfl d_Mdl_work_144 ?_
      refine gm_Vv hx hb hml hown hW X m107 (q_enter l hpN hgN hS hrN (by decide) (q8_n h_a) (by omega)) (n := 2) ⟨⟨wl_Mdl_135, wi_Rng_enter, wsel_Rng_enter, winit_Rng, wc_Rng_enter⟩, by decide +kernel, ⟨Nat.le_of_ble_eq_true rfl, Nat.le_of_ble_eq_true rfl⟩, _, rfl, rfl⟩ rfl hl.1 rfl (Nat.le_of_ble_eq_true rfl) d_Mdl_work_147 ⟨Nat.le_of_ble_eq_true rfl, Nat.le_of_ble_eq_true rfl⟩ (fun M1 H locs hp X => ?_)
      obtain ⟨τ1, rfl, q1, kk1⟩ := hp
      have R_1 : isR φ nP 99 τ1 := hr.kp (fun j h1 h2 => kk1 j (by omega) (by omega))
      have R2_1 : isR ψ nN 107 τ1 := hrN.kp (fun j h1 h2 => kk1 j (by omega) (by omega))
      have m95_1 : MV ψ nN (τ1 95) (ψ (IV (τ (80 + a)) 8)) := q1
      refine lv_iload hx hb d_Mdl_work_150 (lv_at hl 0 rfl) ?_
      refine lv_iconst (v := 3) hx hb d_Mdl_work_152 (by decide) ?_
      refine lv_icmp_ge (tgt := 172) hx hb d_Mdl_work_153 (by decide) (fun c9 => absurd c9 (by decide)) (fun _ => ?_)
      refine lv_aload hx hb d_Mdl_work_156 (lv_at hl 1 rfl) ?_
      refine lv_aload_n hx hb d_Mdl_work_158 rfl (lv_at hl 2 rfl) ?_
      refine gm_get hx hb hW hown X u_Mdl m53 rfl 15 (by decide) wf_Mdl_103 (v := .ref (E.2.1 + 79)) rfl d_Mdl_work_159 ?_
      refine lv_iload hx hb d_Mdl_work_162 (lv_at hl 6 rfl) ?_
      refine gm_aald2 hx hb X (k := b) (t := E.2.1 + (80 + b)) m79 rfl rfl ⟨h_b, by decide⟩ (if_pos h_b) d_Mdl_work_164 ?_
      refine lv_aload_n hx hb d_Mdl_work_165 rfl (lv_at hl 2 rfl) ?_
      refine gm_get hx hb hW hown X u_Mdl m53 rfl 21 (by decide) wf_Mdl_122 (v := .ref (E.2.1 + 96)) rfl d_Mdl_work_166 ?_
      have e169 := (show τ1 (80 + b) = τ (80 + b) by rw [kk1 (80 + b) (by omega) (by omega)])
      refine gm_Vv hx hb hml hown hW X m107 (q_enter l hpN hgN hS R2_1 (by decide) (q8_n h_b) (by omega)) (n := 2) ⟨⟨wl_Mdl_135, wi_Rng_enter, wsel_Rng_enter, winit_Rng, wc_Rng_enter⟩, by decide +kernel, ⟨Nat.le_of_ble_eq_true rfl, Nat.le_of_ble_eq_true rfl⟩, _, rfl, rfl⟩ rfl hl.1 rfl (Nat.le_of_ble_eq_true rfl) d_Mdl_work_169 ⟨Nat.le_of_ble_eq_true rfl, Nat.le_of_ble_eq_true rfl⟩ (fun M1 H locs hp X => ?_)
      obtain ⟨τ2, rfl, q2, kk2⟩ := hp
      have m95_2 : MV ψ nN (τ2 95) (ψ (IV (τ (80 + a)) 8)) := by rw [kk2 95 (by omega) (by omega)]; exact m95_1
      have R_2 : isR φ nP 99 τ2 := R_1.kp (fun j h1 h2 => kk2 j (by omega) (by omega))
      have R2_2 : isR ψ nN 107 τ2 := R2_1.kp (fun j h1 h2 => kk2 j (by omega) (by omega))
      have m96_2 : MV ψ nN (τ2 96) (ψ (IV (τ (80 + b)) 8)) := by rw [← e169]; exact q2
      refine lv_iload hx hb d_Mdl_work_172 (lv_at hl 0 rfl) ?_
      refine lv_if_ne (tgt := 197) hx hb d_Mdl_work_174 (by decide) (fun _ => ?_) (fun c9 => absurd c9 (by decide))
      refine lv_iload hx hb d_Mdl_work_197 (lv_at hl 0 rfl) ?_
      refine lv_iconst (v := 1) hx hb d_Mdl_work_199 (by decide) ?_
      refine lv_icmp_ne (tgt := 223) hx hb d_Mdl_work_200 (by decide) (fun _ => ?_) (fun c9 => absurd c9 (by decide))
      refine lv_iload hx hb d_Mdl_work_223 (lv_at hl 0 rfl) ?_
      refine lv_iconst (v := 2) hx hb d_Mdl_work_225 (by decide) ?_
      refine lv_icmp_ne (tgt := 249) hx hb d_Mdl_work_226 (by decide) (fun c9 => absurd rfl c9) (fun _ => ?_)
      refine lv_aload hx hb d_Mdl_work_229 (lv_at hl 1 rfl) ?_
      refine lv_aload_n hx hb d_Mdl_work_231 rfl (lv_at hl 2 rfl) ?_
      refine gm_get hx hb hW hown X u_Mdl m53 rfl 20 (by decide) wf_Mdl_119 (v := .ref (E.2.1 + 95)) rfl d_Mdl_work_232 ?_
      refine lv_aload_n hx hb d_Mdl_work_235 rfl (lv_at hl 2 rfl) ?_
      refine gm_get hx hb hW hown X u_Mdl m53 rfl 21 (by decide) wf_Mdl_122 (v := .ref (E.2.1 + 96)) rfl d_Mdl_work_236 ?_
      refine lv_aload_n hx hb d_Mdl_work_239 rfl (lv_at hl 2 rfl) ?_
      refine gm_get hx hb hW hown X u_Mdl m53 rfl 20 (by decide) wf_Mdl_119 (v := .ref (E.2.1 + 95)) rfl d_Mdl_work_240 ?_
      refine gm_Vv hx hb hml hown hW X m107 (q_mul l hpN hgN hS R2_2 (by decide) (by decide) (by decide) (by omega) m95_2 m96_2) (n := 3) ⟨⟨wl_Mdl_25, wi_Rng_multiply, wsel_Rng_multiply, winit_Rng, wc_Rng_multiply⟩, by decide +kernel, ⟨Nat.le_of_ble_eq_true rfl, Nat.le_of_ble_eq_true rfl⟩, _, rfl, rfl⟩ rfl hl.1 rfl (Nat.le_of_ble_eq_true rfl) d_Mdl_work_243 ⟨Nat.le_of_ble_eq_true rfl, Nat.le_of_ble_eq_true rfl⟩ (fun M1 H locs hp X => ?_)
      obtain ⟨τ3, rfl, q3, kk3⟩ := hp
      have m96_3 : MV ψ nN (τ3 96) (ψ (IV (τ (80 + b)) 8)) := by rw [kk3 96 (by omega) (by omega)]; exact m96_2
      have R_3 : isR φ nP 99 τ3 := R_2.kp (fun j h1 h2 => kk3 j (by omega) (by omega))
      have R2_3 : isR ψ nN 107 τ3 := R2_2.kp (fun j h1 h2 => kk3 j (by omega) (by omega))
      have m95_3 : MV ψ nN (τ3 95) ((ψ (IV (τ (80 + a)) 8)) * (ψ (IV (τ (80 + b)) 8))) := q3
      refine lv_goto (tgt := 265) hx hb d_Mdl_work_246 (by decide) ?_
      refine lv_aload hx hb d_Mdl_work_265 (lv_at hl 1 rfl) ?_
      refine lv_aload_n hx hb d_Mdl_work_267 rfl (lv_at hl 2 rfl) ?_
      refine gm_get hx hb hW hown X u_Mdl m53 rfl 20 (by decide) wf_Mdl_119 (v := .ref (E.2.1 + 95)) rfl d_Mdl_work_268 ?_
      refine lv_aload_n hx hb d_Mdl_work_271 rfl (lv_at hl 2 rfl) ?_
      refine gm_get hx hb hW hown X u_Mdl m53 rfl 15 (by decide) wf_Mdl_103 (v := .ref (E.2.1 + 79)) rfl d_Mdl_work_272 ?_
      refine lv_iload_n hx hb d_Mdl_work_275 rfl (lv_at hl 4 rfl) ?_
      refine gm_aald2 hx hb X (k := t) (t := E.2.1 + (80 + t)) m79 rfl rfl ⟨h_t, by decide⟩ (if_pos h_t) d_Mdl_work_276 ?_
      refine gm_Vv hx hb hml hown hW X m107 (q_leave l hpN hgN hS R2_3 (q8_n h_t) (by decide) (by omega) m95_3) (n := 2) ⟨⟨wl_Mdl_65, wi_Rng_leave, wsel_Rng_leave, winit_Rng, wc_Rng_leave⟩, by decide +kernel, ⟨Nat.le_of_ble_eq_true rfl, Nat.le_of_ble_eq_true rfl⟩, _, rfl, rfl⟩ rfl hl.1 rfl (Nat.le_of_ble_eq_true rfl) d_Mdl_work_277 ⟨Nat.le_of_ble_eq_true rfl, Nat.le_of_ble_eq_true rfl⟩ (fun M1 H locs hp X => ?_)
      obtain ⟨τ4, rfl, q4, kk4⟩ := hp
      have m96_4 : MV ψ nN (τ4 96) (ψ (IV (τ (80 + b)) 8)) := by rw [kk4 96 (by omega) (by omega)]; exact m96_3
      have m95_4 : MV ψ nN (τ4 95) ((ψ (IV (τ (80 + a)) 8)) * (ψ (IV (τ (80 + b)) 8))) := by rw [kk4 95 (by omega) (by omega)]; exact m95_3
      have R_4 : isR φ nP 99 τ4 := R_3.kp (fun j h1 h2 => kk4 j (by omega) (by omega))
      have R2_4 : isR ψ nN 107 τ4 := R2_3.kp (fun j h1 h2 => kk4 j (by omega) (by omega))
      have p80t_4 : PV ψ nN (τ4 (80 + t)) ((ψ (IV (τ (80 + a)) 8)) * (ψ (IV (τ (80 + b)) 8))) := q4
      refine lv_iconst (v := 1) hx hb d_Mdl_work_280 (by decide) ?_
      refine gm_zret hx hb hr2 hlk X rfl ⟨_, rfl, Or.inr ⟨rfl, ⟨hla, hq2⟩, ?_, fun j hj h1 h2 => by have hj := hj.o; rw [kk4 j (by omega) (by omega), kk3 j (by omega) (by omega), kk2 j (by omega) (by omega), kk1 j (by omega) (by omega)]⟩⟩ d_Mdl_work_281
      exact PV.rep hgN p80t_4
set_option maxHeartbeats 4000000 in
theorem r_Mdl_work_ok_7 {F G : Type} [Lean.Grind.CommRing F] [Lean.Grind.CommRing G] {φ : Int → F} {inv : F → F} {ψ : Int → G} (l : Launch) (E : gm_E) (N : gm_M) (τ : Nat → Nat → Int32) (cd : Int32) (hk : fk φ inv) {Ri : F} (hR : φ (tq 8) * Ri = 1) (hgN : fm ψ nN) {Si : G} (hS : ψ (tq 8) * Si = 1) (hr : isR φ nP 99 τ) (hrN : isR ψ nN 107 τ) (h7 : MV φ nP (τ 54) 7) {t : Nat} (h_t : t < 8) {a : Nat} (h_a : a < 8) {b : Nat} (h_b : b < 8)  : ci_ l y_Mdl_work b_Mdl_work 7 (some .boolean) { frames := 3, cells := 0, slots := 0, locals := 78 } E (mW E N τ cd) [.ref (E.2.1 + 53), .int 7, .int (nI t), .int (nI a), .int (nI b)] (fun r M' => ∃ τ', M' = mW E N τ' 0 ∧ ((r = 0 ∧ ¬ wkOK 3 nN (IV (τ (80 + a)) 8) (IV (τ (80 + b)) 8) ∧ kMn 0 0 τ τ') ∨ (r = 1 ∧ wkOK 3 nN (IV (τ (80 + a)) 8) (IV (τ (80 + b)) 8) ∧ IV (τ' (80 + t)) 8 = rp ψ nN (wkV ψ 3 (NV sN2) (IV (τ (80 + a)) 8) (IV (τ (80 + b)) 8)) ∧ kMn (80 + t) 0 τ τ'))) := by
  have hf := hk.fm
  have hpP := rPl_P E
  have hpN := rPl_N E
  refine gm_met (by decide) (Nat.le_of_ble_eq_true rfl) (fun p e s m below meth c ls hx hb hml hr2 hlk hnm hown hW X hl => ?_)
  have hl : lv_has ls 7 [(0, .ref (E.2.1 + 53)), (1, .int 7), (2, .int (nI t)), (3, .int (nI a)), (4, .int (nI b))] := hl
  refine lv_aload_n hx hb d_Mdl_work_0 rfl (lv_at hl 0 rfl) ?_
  refine lv_iload_n hx hb d_Mdl_work_1 rfl (lv_at hl 1 rfl) ?_
  refine lv_bipush (v := 7) hx hb d_Mdl_work_2 (by decide) ?_
  refine gm_Si hx hb hml hown hW X (r_Mdl_in_8 l E N τ cd) (n := 2) ⟨⟨wl_Mdl_164, ws_Mdl_in, winit_Mdl, wc_Mdl_in⟩, by decide +kernel, Nat.le_of_ble_eq_true rfl, Nat.le_of_ble_eq_true rfl⟩ rfl hl.1 rfl (Nat.le_of_ble_eq_true rfl) d_Mdl_work_4 ⟨Nat.le_of_ble_eq_true rfl, Nat.le_of_ble_eq_true rfl⟩ (fun r0 M1 H locs hp X => ?_)
  rw [hp.1] at X
  have hz0 : r0 = 1 := by rcases hp.2 with h | h; exact h.1; exact absurd ⟨7, by decide, rfl⟩ h.2
  refine lv_if_eq (tgt := 42) hx hb d_Mdl_work_7 (by decide) (fun c9 => absurd (hz0.symm.trans c9) (by decide)) (fun _ => ?_)
  refine lv_iload_n hx hb d_Mdl_work_10 rfl (lv_at hl 2 rfl) ?_
  refine lv_bipush (v := 7) hx hb d_Mdl_work_11 (by decide) ?_
  refine gm_Si hx hb hml hown hW X (r_Mdl_in_8 l E N τ cd) (n := 2) ⟨⟨wl_Mdl_164, ws_Mdl_in, winit_Mdl, wc_Mdl_in⟩, by decide +kernel, Nat.le_of_ble_eq_true rfl, Nat.le_of_ble_eq_true rfl⟩ rfl hl.1 rfl (Nat.le_of_ble_eq_true rfl) d_Mdl_work_13 ⟨Nat.le_of_ble_eq_true rfl, Nat.le_of_ble_eq_true rfl⟩ (fun r1 M1 H locs hp X => ?_)
  rw [hp.1] at X
  have hz1 : r1 = 1 := by rcases hp.2 with h | h; exact h.1; exact absurd ⟨t, h_t, rfl⟩ h.2
  refine lv_if_eq (tgt := 42) hx hb d_Mdl_work_16 (by decide) (fun c9 => absurd (hz1.symm.trans c9) (by decide)) (fun _ => ?_)
  refine lv_iload_n hx hb d_Mdl_work_19 rfl (lv_at hl 3 rfl) ?_
  refine lv_bipush (v := 7) hx hb d_Mdl_work_20 (by decide) ?_
  refine gm_Si hx hb hml hown hW X (r_Mdl_in_8 l E N τ cd) (n := 2) ⟨⟨wl_Mdl_164, ws_Mdl_in, winit_Mdl, wc_Mdl_in⟩, by decide +kernel, Nat.le_of_ble_eq_true rfl, Nat.le_of_ble_eq_true rfl⟩ rfl hl.1 rfl (Nat.le_of_ble_eq_true rfl) d_Mdl_work_22 ⟨Nat.le_of_ble_eq_true rfl, Nat.le_of_ble_eq_true rfl⟩ (fun r2 M1 H locs hp X => ?_)
  rw [hp.1] at X
  have hz2 : r2 = 1 := by rcases hp.2 with h | h; exact h.1; exact absurd ⟨a, h_a, rfl⟩ h.2
  refine lv_if_eq (tgt := 42) hx hb d_Mdl_work_25 (by decide) (fun c9 => absurd (hz2.symm.trans c9) (by decide)) (fun _ => ?_)
  refine lv_iload hx hb d_Mdl_work_28 (lv_at hl 4 rfl) ?_
  refine lv_bipush (v := 7) hx hb d_Mdl_work_30 (by decide) ?_
  refine gm_Si hx hb hml hown hW X (r_Mdl_in_8 l E N τ cd) (n := 2) ⟨⟨wl_Mdl_164, ws_Mdl_in, winit_Mdl, wc_Mdl_in⟩, by decide +kernel, Nat.le_of_ble_eq_true rfl, Nat.le_of_ble_eq_true rfl⟩ rfl hl.1 rfl (Nat.le_of_ble_eq_true rfl) d_Mdl_work_32 ⟨Nat.le_of_ble_eq_true rfl, Nat.le_of_ble_eq_true rfl⟩ (fun r3 M1 H locs hp X => ?_)
  rw [hp.1] at X
  have hz3 : r3 = 1 := by rcases hp.2 with h | h; exact h.1; exact absurd ⟨b, h_b, rfl⟩ h.2
  refine lv_if_eq (tgt := 42) hx hb d_Mdl_work_35 (by decide) (fun c9 => absurd (hz3.symm.trans c9) (by decide)) (fun _ => ?_)
  refine lv_iconst (v := 1) hx hb d_Mdl_work_38 (by decide) ?_
  refine lv_goto (tgt := 43) hx hb d_Mdl_work_39 (by decide) ?_
  refine gm_Vi hx hb hml hown hW X m53 (r_Mdl_good_1 l E N τ cd) (n := 1) ⟨⟨wl_Mdl_168, wi_Mdl_good, wsel_Mdl_good, winit_Mdl, wc_Mdl_good⟩, by decide +kernel, ⟨Nat.le_of_ble_eq_true rfl, Nat.le_of_ble_eq_true rfl⟩, _, rfl, rfl⟩ rfl hl.1 rfl (Nat.le_of_ble_eq_true rfl) d_Mdl_work_43 ⟨Nat.le_of_ble_eq_true rfl, Nat.le_of_ble_eq_true rfl⟩ (fun r9 M1 H locs hp X => ?_)
  rw [hp.1] at X
  have hr9 := hp.2
  refine lv_if_ne (tgt := 51) hx hb d_Mdl_work_46 (by decide) (fun _ => ?_) (fun c9 => absurd (hr9.symm.trans c9) (by decide))
  have hm : (IV (τ 108) 8 : Int) = nN := hrN.1
  refine lv_iload_n hx hb d_Mdl_work_51 rfl (lv_at hl 1 rfl) ?_
  refine lv_iconst (v := 4) hx hb d_Mdl_work_52 (by decide) ?_
  refine lv_icmp_ge (tgt := 63) hx hb d_Mdl_work_53 (by decide) (fun _ => ?_) (fun c9 => absurd (by decide) c9)
  refine lv_aload_n hx hb d_Mdl_work_63 rfl (lv_at hl 0 rfl) ?_
  refine gm_get hx hb hW hown X u_Mdl m53 rfl 1 (by decide) wf_Mdl_132 (v := .ref (E.2.1 + 107)) rfl d_Mdl_work_64 ?_
  refine lv_astore (lv' := [(5, .ref (E.2.1 + 107)), (0, .ref (E.2.1 + 53)), (1, .int 7), (2, .int (nI t)), (3, .int (nI a)), (4, .int (nI b))]) hx hb d_Mdl_work_67 hl (by decide) rfl (fun ls hl => ?_)
  refine lv_iload_n hx hb d_Mdl_work_69 rfl (lv_at hl 2 rfl) ?_
  refine lv_iconst (v := 3) hx hb d_Mdl_work_70 (by decide) ?_
  refine lv_iand hx hb d_Mdl_work_71 ?_
  refine lv_eqi (v := 3) (by decide) ?_
  refine lv_istore (lv' := [(6, .int 3), (5, .ref (E.2.1 + 107)), (0, .ref (E.2.1 + 53)), (1, .int 7), (2, .int (nI t)), (3, .int (nI a)), (4, .int (nI b))]) hx hb d_Mdl_work_72 hl (by decide) rfl (fun ls hl => ?_)
  refine lv_aload_n hx hb d_Mdl_work_74 rfl (lv_at hl 2 rfl) ?_
  refine gm_get hx hb hW hown X u_Mdl m53 rfl 15 (by decide) wf_Mdl_103 (v := .ref (E.2.1 + 79)) rfl d_Mdl_work_75 ?_
  refine lv_iload_n hx hb d_Mdl_work_78 rfl (lv_at hl 5 rfl) ?_
  refine gm_aald2 hx hb X (k := a) (t := E.2.1 + (80 + a)) m79 rfl rfl ⟨h_a, by decide⟩ (if_pos h_a) d_Mdl_work_79 ?_
  refine lv_aload hx hb d_Mdl_work_80 (lv_at hl 1 rfl) ?_
  refine gm_getN hx hb hW hown X u_Rng m107 rfl 0 (by decide) wfn_Mdl_178 (v := .ref (E.2.1 + 108)) rfl d_Mdl_work_82 ?_
  refine gm_Si hx hb hml hown hW X (c_Rng_compare l E _ (mw_row (q8_n h_a)) (mw_row (k := 108) (by decide))) (n := 2) ⟨⟨wl_Mdl_174, ws_Rng_compare, winit_Rng, wc_Rng_compare⟩, by decide +kernel, Nat.le_of_ble_eq_true rfl, Nat.le_of_ble_eq_true rfl⟩ rfl hl.1 rfl (Nat.le_of_ble_eq_true rfl) d_Mdl_work_85 ⟨Nat.le_of_ble_eq_true rfl, Nat.le_of_ble_eq_true rfl⟩ (fun ra M1 H locs hp X => ?_)
  rw [hp.1] at X
  have hq_ra := (ordI_ok (τ (80 + a)) (τ 108) 8).2.1
  rw [← hp.2] at hq_ra
  refine lv_if_ge (tgt := 133) hx hb d_Mdl_work_88 (by decide) (fun c88 => ?_) (fun c88 => ?_)
  · have hlt := hq_ra.mp c88
    refine lv_iconst (v := 0) hx hb d_Mdl_work_133 (by decide) ?_
    exact gm_zret hx hb hr2 hlk X rfl ⟨τ, rfl, Or.inl ⟨rfl, fun z => by have := z.1; omega, fun _ _ _ _ => rfl⟩⟩ d_Mdl_work_134
  · have hla : (IV (τ (80 + a)) 8 : Int) < nN := by have q : ¬ IV (τ 108) 8 ≤ IV (τ (80 + a)) 8 := fun z => c88 (hq_ra.mpr z); omega
    refine lv_iload hx hb d_Mdl_work_91 (lv_at hl 0 rfl) ?_
    refine lv_iconst (v := 3) hx hb d_Mdl_work_93 (by decide) ?_
    refine lv_icmp_ge (tgt := 115) hx hb d_Mdl_work_94 (by decide) (fun _ => ?_) (fun c9 => absurd (by decide) c9)
    refine lv_iload hx hb d_Mdl_work_115 (lv_at hl 0 rfl) ?_
    refine lv_iconst (v := 3) hx hb d_Mdl_work_117 (by decide) ?_
    refine lv_icmp_ne (tgt := 135) hx hb d_Mdl_work_118 (by decide) (fun c9 => absurd rfl c9) (fun _ => ?_)
    refine lv_aload_n hx hb d_Mdl_work_121 rfl (lv_at hl 2 rfl) ?_
    refine gm_get hx hb hW hown X u_Mdl m53 rfl 15 (by decide) wf_Mdl_103 (v := .ref (E.2.1 + 79)) rfl d_Mdl_work_122 ?_
    refine lv_iload_n hx hb d_Mdl_work_125 rfl (lv_at hl 5 rfl) ?_
    refine gm_aald2 hx hb X (k := a) (t := E.2.1 + (80 + a)) m79 rfl rfl ⟨h_a, by decide⟩ (if_pos h_a) d_Mdl_work_126 ?_
    refine gm_Si hx hb hml hown hW X (c_Rng_isZero l E _ (mw_row (q8_n h_a))) (n := 1) ⟨⟨wl_Mdl_7, ws_Rng_isZero, winit_Rng, wc_Rng_isZero⟩, by decide +kernel, Nat.le_of_ble_eq_true rfl, Nat.le_of_ble_eq_true rfl⟩ rfl hl.1 rfl (Nat.le_of_ble_eq_true rfl) d_Mdl_work_127 ⟨Nat.le_of_ble_eq_true rfl, Nat.le_of_ble_eq_true rfl⟩ (fun rz M1 H locs hp X => ?_)
    rw [hp.1] at X
    have h2 := hp.2
    refine lv_if_eq (tgt := 135) hx hb d_Mdl_work_130 (by decide) (fun c130 => ?_) (fun c130 => ?_)
    · have hq2 : ¬ IV (τ (80 + a)) 8 = 0 := by rcases h2 with h | h; exact absurd (h.1.symm.trans c130) (by decide); exact h.2
      refine lv_aload hx hb d_Mdl_work_135 (lv_at hl 1 rfl) ?_
      refine lv_aload_n hx hb d_Mdl_work_137 rfl (lv_at hl 2 rfl) ?_
      refine gm_get hx hb hW hown X u_Mdl m53 rfl 15 (by decide) wf_Mdl_103 (v := .ref (E.2.1 + 79)) rfl d_Mdl_work_138 ?_
      refine lv_iload_n hx hb d_Mdl_work_141 rfl (lv_at hl 5 rfl) ?_
      refine gm_aald2 hx hb X (k := a) (t := E.2.1 + (80 + a)) m79 rfl rfl ⟨h_a, by decide⟩ (if_pos h_a) d_Mdl_work_142 ?_
      refine lv_aload_n hx hb d_Mdl_work_143 rfl (lv_at hl 2 rfl) ?_
      refine gm_get hx hb hW hown X u_Mdl m53 rfl 20 (by decide) wf_Mdl_119 (v := .ref (E.2.1 + 95)) rfl d_Mdl_work_144 ?_
      refine gm_Vv hx hb hml hown hW X m107 (q_enter l hpN hgN hS hrN (by decide) (q8_n h_a) (by omega)) (n := 2) ⟨⟨wl_Mdl_135, wi_Rng_enter, wsel_Rng_enter, winit_Rng, wc_Rng_enter⟩, by decide +kernel, ⟨Nat.le_of_ble_eq_true rfl, Nat.le_of_ble_eq_true rfl⟩, _, rfl, rfl⟩ rfl hl.1 rfl (Nat.le_of_ble_eq_true rfl) d_Mdl_work_147 ⟨Nat.le_of_ble_eq_true rfl, Nat.le_of_ble_eq_true rfl⟩ (fun M1 H locs hp X => ?_)
      obtain ⟨τ1, rfl, q1, kk1⟩ := hp
      have R_1 : isR φ nP 99 τ1 := hr.kp (fun j h1 h2 => kk1 j (by omega) (by omega))
      have R2_1 : isR ψ nN 107 τ1 := hrN.kp (fun j h1 h2 => kk1 j (by omega) (by omega))
      have m95_1 : MV ψ nN (τ1 95) (ψ (IV (τ (80 + a)) 8)) := q1
      refine lv_iload hx hb d_Mdl_work_150 (lv_at hl 0 rfl) ?_
      refine lv_iconst (v := 3) hx hb d_Mdl_work_152 (by decide) ?_
      refine lv_icmp_ge (tgt := 172) hx hb d_Mdl_work_153 (by decide) (fun _ => ?_) (fun c9 => absurd (by decide) c9)
      refine lv_iload hx hb d_Mdl_work_172 (lv_at hl 0 rfl) ?_
      refine lv_if_ne (tgt := 197) hx hb d_Mdl_work_174 (by decide) (fun _ => ?_) (fun c9 => absurd c9 (by decide))
      refine lv_iload hx hb d_Mdl_work_197 (lv_at hl 0 rfl) ?_
      refine lv_iconst (v := 1) hx hb d_Mdl_work_199 (by decide) ?_
      refine lv_icmp_ne (tgt := 223) hx hb d_Mdl_work_200 (by decide) (fun _ => ?_) (fun c9 => absurd c9 (by decide))
      refine lv_iload hx hb d_Mdl_work_223 (lv_at hl 0 rfl) ?_
      refine lv_iconst (v := 2) hx hb d_Mdl_work_225 (by decide) ?_
      refine lv_icmp_ne (tgt := 249) hx hb d_Mdl_work_226 (by decide) (fun _ => ?_) (fun c9 => absurd c9 (by decide))
      refine lv_aload hx hb d_Mdl_work_249 (lv_at hl 1 rfl) ?_
      refine lv_aload_n hx hb d_Mdl_work_251 rfl (lv_at hl 2 rfl) ?_
      refine gm_get hx hb hW hown X u_Mdl m53 rfl 20 (by decide) wf_Mdl_119 (v := .ref (E.2.1 + 95)) rfl d_Mdl_work_252 ?_
      refine lv_bipush (v := (-2)) hx hb d_Mdl_work_255 (by decide) ?_
      refine lv_iconst (v := 0) hx hb d_Mdl_work_257 (by decide) ?_
      refine lv_aload_n hx hb d_Mdl_work_258 rfl (lv_at hl 2 rfl) ?_
      refine gm_get hx hb hW hown X u_Mdl m53 rfl 20 (by decide) wf_Mdl_119 (v := .ref (E.2.1 + 95)) rfl d_Mdl_work_259 ?_
      refine gm_Vv hx hb hml hown hW X m107 (q_power l hpN hgN hS R2_1 (sh := 0) (by decide) (by decide) (by decide) (by omega) m95_1) (n := 4) ⟨⟨wl_Mdl_61, wi_Rng_power, wsel_Rng_power, winit_Rng, wc_Rng_power⟩, by decide +kernel, ⟨Nat.le_of_ble_eq_true rfl, Nat.le_of_ble_eq_true rfl⟩, _, rfl, rfl⟩ rfl hl.1 rfl (Nat.le_of_ble_eq_true rfl) d_Mdl_work_262 ⟨Nat.le_of_ble_eq_true rfl, Nat.le_of_ble_eq_true rfl⟩ (fun M1 H locs hp X => ?_)
      obtain ⟨τ2, rfl, q2, kk2⟩ := hp
      have R_2 : isR φ nP 99 τ2 := R_1.kp (fun j h1 h2 => kk2 j (by omega) (by omega))
      have R2_2 : isR ψ nN 107 τ2 := R2_1.kp (fun j h1 h2 => kk2 j (by omega) (by omega))
      have m95_2 : MV ψ nN (τ2 95) (fp_pw (ψ (IV (τ (80 + a)) 8)) (NV sN2)) := by rw [← xp_sN2 R2_1]; exact q2
      refine lv_aload hx hb d_Mdl_work_265 (lv_at hl 1 rfl) ?_
      refine lv_aload_n hx hb d_Mdl_work_267 rfl (lv_at hl 2 rfl) ?_
      refine gm_get hx hb hW hown X u_Mdl m53 rfl 20 (by decide) wf_Mdl_119 (v := .ref (E.2.1 + 95)) rfl d_Mdl_work_268 ?_
      refine lv_aload_n hx hb d_Mdl_work_271 rfl (lv_at hl 2 rfl) ?_
      refine gm_get hx hb hW hown X u_Mdl m53 rfl 15 (by decide) wf_Mdl_103 (v := .ref (E.2.1 + 79)) rfl d_Mdl_work_272 ?_
      refine lv_iload_n hx hb d_Mdl_work_275 rfl (lv_at hl 4 rfl) ?_
      refine gm_aald2 hx hb X (k := t) (t := E.2.1 + (80 + t)) m79 rfl rfl ⟨h_t, by decide⟩ (if_pos h_t) d_Mdl_work_276 ?_
      refine gm_Vv hx hb hml hown hW X m107 (q_leave l hpN hgN hS R2_2 (q8_n h_t) (by decide) (by omega) m95_2) (n := 2) ⟨⟨wl_Mdl_65, wi_Rng_leave, wsel_Rng_leave, winit_Rng, wc_Rng_leave⟩, by decide +kernel, ⟨Nat.le_of_ble_eq_true rfl, Nat.le_of_ble_eq_true rfl⟩, _, rfl, rfl⟩ rfl hl.1 rfl (Nat.le_of_ble_eq_true rfl) d_Mdl_work_277 ⟨Nat.le_of_ble_eq_true rfl, Nat.le_of_ble_eq_true rfl⟩ (fun M1 H locs hp X => ?_)
      obtain ⟨τ3, rfl, q3, kk3⟩ := hp
      have m95_3 : MV ψ nN (τ3 95) (fp_pw (ψ (IV (τ (80 + a)) 8)) (NV sN2)) := by rw [kk3 95 (by omega) (by omega)]; exact m95_2
      have R_3 : isR φ nP 99 τ3 := R_2.kp (fun j h1 h2 => kk3 j (by omega) (by omega))
      have R2_3 : isR ψ nN 107 τ3 := R2_2.kp (fun j h1 h2 => kk3 j (by omega) (by omega))
      have p80t_3 : PV ψ nN (τ3 (80 + t)) (fp_pw (ψ (IV (τ (80 + a)) 8)) (NV sN2)) := q3
      refine lv_iconst (v := 1) hx hb d_Mdl_work_280 (by decide) ?_
      refine gm_zret hx hb hr2 hlk X rfl ⟨_, rfl, Or.inr ⟨rfl, ⟨hla, hq2⟩, ?_, fun j hj h1 h2 => by have hj := hj.o; rw [kk3 j (by omega) (by omega), kk2 j (by omega) (by omega), kk1 j (by omega) (by omega)]⟩⟩ d_Mdl_work_281
      exact PV.rep hgN p80t_3
    · have hq2 : IV (τ (80 + a)) 8 = 0 := by rcases h2 with h | h; exact h.2; exact absurd h.1 c130
      refine lv_iconst (v := 0) hx hb d_Mdl_work_133 (by decide) ?_
      exact gm_zret hx hb hr2 hlk X rfl ⟨τ, rfl, Or.inl ⟨rfl, fun z => z.2 hq2, fun _ _ _ _ => rfl⟩⟩ d_Mdl_work_134
set_option maxHeartbeats 4000000 in
theorem r_Mdl_base_ok {F G : Type} [Lean.Grind.CommRing F] [Lean.Grind.CommRing G] {φ : Int → F} {inv : F → F} {ψ : Int → G} (l : Launch) (E : gm_E) (N : gm_M) (τ : Nat → Nat → Int32) (cd : Int32) (hk : fk φ inv) {Ri : F} (hR : φ (tq 8) * Ri = 1) (hgN : fm ψ nN) {Si : G} (hS : ψ (tq 8) * Si = 1) (hr : isR φ nP 99 τ) (hrN : isR ψ nN 107 τ) (h7 : MV φ nP (τ 54) 7) {t : Nat} (h_t : t < 4) {g0 : F × F} (hG : mpR φ τ 55 (some g0)) : cv_ l y_Mdl_base b_Mdl_base 2 none { frames := 2, cells := 0, slots := 0, locals := 43 } E (mW E N τ cd) [.ref (E.2.1 + 53), .int (nI t)] (fun M' => ∃ τ', M' = mW E N τ' 0 ∧ mpR φ τ' (115 + 4 * t) (some g0) ∧ kMp (115 + 4 * t) τ τ') := by
  have hf := hk.fm
  have hpP := rPl_P E
  have hpN := rPl_N E
  refine gm_met (by decide) (Nat.le_of_ble_eq_true rfl) (fun p e s m below meth c ls hx hb hml hr2 hlk hnm hown hW X hl => ?_)
  have hl : lv_has ls 2 [(0, .ref (E.2.1 + 53)), (1, .int (nI t))] := hl
  refine lv_aload_n hx hb d_Mdl_base_0 rfl (lv_at hl 0 rfl) ?_
  refine lv_iload_n hx hb d_Mdl_base_1 rfl (lv_at hl 1 rfl) ?_
  refine lv_iconst (v := 3) hx hb d_Mdl_base_2 (by decide) ?_
  refine gm_Si hx hb hml hown hW X (r_Mdl_in_4 l E N τ cd) (n := 2) ⟨⟨wl_Mdl_164, ws_Mdl_in, winit_Mdl, wc_Mdl_in⟩, by decide +kernel, Nat.le_of_ble_eq_true rfl, Nat.le_of_ble_eq_true rfl⟩ rfl hl.1 rfl (Nat.le_of_ble_eq_true rfl) d_Mdl_base_3 ⟨Nat.le_of_ble_eq_true rfl, Nat.le_of_ble_eq_true rfl⟩ (fun r0 M1 H locs hp X => ?_)
  rw [hp.1] at X
  have hz0 : r0 = 1 := by rcases hp.2 with h | h; exact h.1; exact absurd ⟨t, h_t, rfl⟩ h.2
  rw [hz0]
  refine gm_Vi hx hb hml hown hW X m53 (r_Mdl_good_1 l E N τ cd) (n := 1) ⟨⟨wl_Mdl_168, wi_Mdl_good, wsel_Mdl_good, winit_Mdl, wc_Mdl_good⟩, by decide +kernel, ⟨Nat.le_of_ble_eq_true rfl, Nat.le_of_ble_eq_true rfl⟩, _, rfl, rfl⟩ rfl hl.1 rfl (Nat.le_of_ble_eq_true rfl) d_Mdl_base_6 ⟨Nat.le_of_ble_eq_true rfl, Nat.le_of_ble_eq_true rfl⟩ (fun r9 M1 H locs hp X => ?_)
  rw [hp.1] at X
  have hr9 := hp.2
  refine lv_if_eq (tgt := 25) hx hb d_Mdl_base_9 (by decide) (fun c9 => absurd (hr9.symm.trans c9) (by decide)) (fun _ => ?_)
  refine lv_aload_n hx hb d_Mdl_base_12 rfl (lv_at hl 0 rfl) ?_
  refine gm_get hx hb hW hown X u_Mdl m53 rfl 16 (by decide) wf_Mdl_106 (v := .ref (E.2.1 + 88)) rfl d_Mdl_base_13 ?_
  refine lv_iload_n hx hb d_Mdl_base_16 rfl (lv_at hl 1 rfl) ?_
  refine gm_aald hx hb X (k := t) (t := E.2.1 + (115 + 4 * t)) m88 rfl rfl ⟨h_t, by decide⟩ (if_pos h_t) d_Mdl_base_17 ?_
  refine lv_aload_n hx hb d_Mdl_base_18 rfl (lv_at hl 0 rfl) ?_
  refine gm_get hx hb hW hown X u_Mdl m53 rfl 3 (by decide) wf_Mdl_79 (v := .ref (E.2.1 + 55)) rfl d_Mdl_base_19 ?_
  refine gm_Vv hx hb hml hown hW X (oQ (isQ_p h_t)) (q_Rpt_take l E N τ 0 (isQ_p h_t) isQ_55) (n := 1) ⟨⟨wl_Mdl_50, wi_Rpt_take, wsel_Rpt_take, winit_Rpt, wc_Rpt_take⟩, by decide +kernel, ⟨Nat.le_of_ble_eq_true rfl, Nat.le_of_ble_eq_true rfl⟩, _, rfl, rfl⟩ rfl hl.1 rfl (Nat.le_of_ble_eq_true rfl) d_Mdl_base_22 ⟨Nat.le_of_ble_eq_true rfl, Nat.le_of_ble_eq_true rfl⟩ (fun M1 H locs hp X => ?_)
  obtain ⟨τ1, rfl, q1, kk1⟩ := hp
  have R_1 : isR φ nP 99 τ1 := hr.kp (fun j h1 h2 => kk1 j (by omega))
  have R2_1 : isR ψ nN 107 τ1 := hrN.kp (fun j h1 h2 => kk1 j (by omega))
  exact gm_vret hx hb hr2 hlk X ⟨_, rfl, hG.kept q1.1 q1.2.1 q1.2.2, fun j hj h1 => kk1 j h1⟩ d_Mdl_base_25
theorem vu_vu {α : Type} (f : Nat → α) (k : Nat) (a b : α) : va_up (va_up f k a) k b = va_up f k b := by
  funext j
  by_cases h : j = k
  · subst h
    rw [vu_s, vu_s]
  · rw [vu_n h, vu_n h, vu_n h]
theorem IV_z8 (g : Nat → Int32) : IV (upd (upd (upd (upd (upd (upd (upd (upd g 0 0) 1 0) 2 0) 3 0) 4 0) 5 0) 6 0) 7 0) 8 = 0 := by
  rw [IV_cg (g := fun _ => 0) (fun j hj => ?_), IV_z]
  rcases (show j = 0 ∨ j = 1 ∨ j = 2 ∨ j = 3 ∨ j = 4 ∨ j = 5 ∨ j = 6 ∨ j = 7 by omega) with rfl | rfl | rfl | rfl | rfl | rfl | rfl | rfl <;> simp [upd]
set_option maxHeartbeats 4000000 in
theorem r_Mdl_none_ok {F G : Type} [Lean.Grind.CommRing F] [Lean.Grind.CommRing G] {φ : Int → F} {inv : F → F} {ψ : Int → G} (l : Launch) (E : gm_E) (N : gm_M) (τ : Nat → Nat → Int32) (cd : Int32) (hk : fk φ inv) {Ri : F} (hR : φ (tq 8) * Ri = 1) (hgN : fm ψ nN) {Si : G} (hS : ψ (tq 8) * Si = 1) (hr : isR φ nP 99 τ) (hrN : isR ψ nN 107 τ) (h7 : MV φ nP (τ 54) 7) {t : Nat} (h_t : t < 4)  : cv_ l y_Mdl_none b_Mdl_none 3 none { frames := 1, cells := 0, slots := 0, locals := 21 } E (mW E N τ cd) [.ref (E.2.1 + 53), .int (nI t)] (fun M' => ∃ τ', M' = mW E N τ' 0 ∧ mpR φ τ' (115 + 4 * t) none ∧ kMp (115 + 4 * t) τ τ') := by
  have hf := hk.fm
  have hpP := rPl_P E
  have hpN := rPl_N E
  refine gm_met (by decide) (Nat.le_of_ble_eq_true rfl) (fun p e s m below meth c ls hx hb hml hr2 hlk hnm hown hW X hl => ?_)
  have hl : lv_has ls 3 [(0, .ref (E.2.1 + 53)), (1, .int (nI t))] := hl
  refine lv_aload_n hx hb d_Mdl_none_0 rfl (lv_at hl 0 rfl) ?_
  refine lv_iload_n hx hb d_Mdl_none_1 rfl (lv_at hl 1 rfl) ?_
  refine lv_iconst (v := 3) hx hb d_Mdl_none_2 (by decide) ?_
  refine gm_Si hx hb hml hown hW X (r_Mdl_in_4 l E N τ cd) (n := 2) ⟨⟨wl_Mdl_164, ws_Mdl_in, winit_Mdl, wc_Mdl_in⟩, by decide +kernel, Nat.le_of_ble_eq_true rfl, Nat.le_of_ble_eq_true rfl⟩ rfl hl.1 rfl (Nat.le_of_ble_eq_true rfl) d_Mdl_none_3 ⟨Nat.le_of_ble_eq_true rfl, Nat.le_of_ble_eq_true rfl⟩ (fun r0 M1 H locs hp X => ?_)
  rw [hp.1] at X
  have hz0 : r0 = 1 := by rcases hp.2 with h | h; exact h.1; exact absurd ⟨t, h_t, rfl⟩ h.2
  rw [hz0]
  refine gm_Vi hx hb hml hown hW X m53 (r_Mdl_good_1 l E N τ cd) (n := 1) ⟨⟨wl_Mdl_168, wi_Mdl_good, wsel_Mdl_good, winit_Mdl, wc_Mdl_good⟩, by decide +kernel, ⟨Nat.le_of_ble_eq_true rfl, Nat.le_of_ble_eq_true rfl⟩, _, rfl, rfl⟩ rfl hl.1 rfl (Nat.le_of_ble_eq_true rfl) d_Mdl_none_6 ⟨Nat.le_of_ble_eq_true rfl, Nat.le_of_ble_eq_true rfl⟩ (fun r9 M1 H locs hp X => ?_)
  rw [hp.1] at X
  have hr9 := hp.2
  refine lv_if_ne (tgt := 13) hx hb d_Mdl_none_9 (by decide) (fun _ => ?_) (fun c9 => absurd (hr9.symm.trans c9) (by decide))
  refine lv_iconst (v := 0) hx hb d_Mdl_none_13 (by decide) ?_
  refine lv_istore_n (lv' := [(2, .int 0), (0, .ref (E.2.1 + 53)), (1, .int (nI t))]) hx hb d_Mdl_none_14 rfl hl (by decide) rfl (fun ls hl => ?_)
  refine lv_iload_n hx hb d_Mdl_none_15 rfl (lv_at hl 0 rfl) ?_
  refine lv_bipush (v := 8) hx hb d_Mdl_none_16 (by decide) ?_
  refine lv_icmp_ge (tgt := 39) hx hb d_Mdl_none_18 (by decide) (fun c9 => absurd c9 (by decide)) (fun _ => ?_)
  refine lv_aload_n hx hb d_Mdl_none_21 rfl (lv_at hl 1 rfl) ?_
  refine gm_get hx hb hW hown X u_Mdl m53 rfl 16 (by decide) wf_Mdl_106 (v := .ref (E.2.1 + 88)) rfl d_Mdl_none_22 ?_
  refine lv_iload_n hx hb d_Mdl_none_25 rfl (lv_at hl 2 rfl) ?_
  refine gm_aald hx hb X (k := t) (t := E.2.1 + (115 + 4 * t)) m88 rfl rfl ⟨h_t, by decide⟩ (if_pos h_t) d_Mdl_none_26 ?_
  refine gm_getN hx hb hW hown X u_Rpt (oQ (isQ_p h_t)) rfl 2 (by decide) wfn_Mdl_1 (v := .ref (E.2.1 + ((115 + 4 * t) + 3))) rfl d_Mdl_none_27 ?_
  refine lv_iload_n hx hb d_Mdl_none_30 rfl (lv_at hl 0 rfl) ?_
  refine lv_iconst (v := 0) hx hb d_Mdl_none_31 (by decide) ?_
  refine gm_iast hx hb X (k := 0) (mw_row (isQ.z (isQ_p h_t))) (cw_ge _) (by decide) ⟨by decide, by decide⟩ d_Mdl_none_32 (fun H locs X => ?_)
  rw [mw_upr _ (isQ.z (isQ_p h_t))] at X
  refine lv_iinc (v := 1) (lv' := [(2, .int 1), (0, .ref (E.2.1 + 53)), (1, .int (nI t))]) hx hb d_Mdl_none_33 hl (k := 0) rfl (by decide) (by decide) rfl (fun ls hl => ?_)
  refine lv_goto (tgt := 15) hx hb d_Mdl_none_36 (by decide) ?_
  refine lv_iload_n hx hb d_Mdl_none_15 rfl (lv_at hl 0 rfl) ?_
  refine lv_bipush (v := 8) hx hb d_Mdl_none_16 (by decide) ?_
  refine lv_icmp_ge (tgt := 39) hx hb d_Mdl_none_18 (by decide) (fun c9 => absurd c9 (by decide)) (fun _ => ?_)
  refine lv_aload_n hx hb d_Mdl_none_21 rfl (lv_at hl 1 rfl) ?_
  refine gm_get hx hb hW hown X u_Mdl m53 rfl 16 (by decide) wf_Mdl_106 (v := .ref (E.2.1 + 88)) rfl d_Mdl_none_22 ?_
  refine lv_iload_n hx hb d_Mdl_none_25 rfl (lv_at hl 2 rfl) ?_
  refine gm_aald hx hb X (k := t) (t := E.2.1 + (115 + 4 * t)) m88 rfl rfl ⟨h_t, by decide⟩ (if_pos h_t) d_Mdl_none_26 ?_
  refine gm_getN hx hb hW hown X u_Rpt (oQ (isQ_p h_t)) rfl 2 (by decide) wfn_Mdl_1 (v := .ref (E.2.1 + ((115 + 4 * t) + 3))) rfl d_Mdl_none_27 ?_
  refine lv_iload_n hx hb d_Mdl_none_30 rfl (lv_at hl 0 rfl) ?_
  refine lv_iconst (v := 0) hx hb d_Mdl_none_31 (by decide) ?_
  refine gm_iast hx hb X (k := 1) (mw_row (isQ.z (isQ_p h_t))) (cw_ge _) (by decide) ⟨by decide, by decide⟩ d_Mdl_none_32 (fun H locs X => ?_)
  rw [mw_upr _ (isQ.z (isQ_p h_t)), vu_vu, vu_s] at X
  refine lv_iinc (v := 2) (lv' := [(2, .int 2), (0, .ref (E.2.1 + 53)), (1, .int (nI t))]) hx hb d_Mdl_none_33 hl (k := 0) rfl (by decide) (by decide) rfl (fun ls hl => ?_)
  refine lv_goto (tgt := 15) hx hb d_Mdl_none_36 (by decide) ?_
  refine lv_iload_n hx hb d_Mdl_none_15 rfl (lv_at hl 0 rfl) ?_
  refine lv_bipush (v := 8) hx hb d_Mdl_none_16 (by decide) ?_
  refine lv_icmp_ge (tgt := 39) hx hb d_Mdl_none_18 (by decide) (fun c9 => absurd c9 (by decide)) (fun _ => ?_)
  refine lv_aload_n hx hb d_Mdl_none_21 rfl (lv_at hl 1 rfl) ?_
  refine gm_get hx hb hW hown X u_Mdl m53 rfl 16 (by decide) wf_Mdl_106 (v := .ref (E.2.1 + 88)) rfl d_Mdl_none_22 ?_
  refine lv_iload_n hx hb d_Mdl_none_25 rfl (lv_at hl 2 rfl) ?_
  refine gm_aald hx hb X (k := t) (t := E.2.1 + (115 + 4 * t)) m88 rfl rfl ⟨h_t, by decide⟩ (if_pos h_t) d_Mdl_none_26 ?_
  refine gm_getN hx hb hW hown X u_Rpt (oQ (isQ_p h_t)) rfl 2 (by decide) wfn_Mdl_1 (v := .ref (E.2.1 + ((115 + 4 * t) + 3))) rfl d_Mdl_none_27 ?_
  refine lv_iload_n hx hb d_Mdl_none_30 rfl (lv_at hl 0 rfl) ?_
  refine lv_iconst (v := 0) hx hb d_Mdl_none_31 (by decide) ?_
  refine gm_iast hx hb X (k := 2) (mw_row (isQ.z (isQ_p h_t))) (cw_ge _) (by decide) ⟨by decide, by decide⟩ d_Mdl_none_32 (fun H locs X => ?_)
  rw [mw_upr _ (isQ.z (isQ_p h_t)), vu_vu, vu_s] at X
  refine lv_iinc (v := 3) (lv' := [(2, .int 3), (0, .ref (E.2.1 + 53)), (1, .int (nI t))]) hx hb d_Mdl_none_33 hl (k := 0) rfl (by decide) (by decide) rfl (fun ls hl => ?_)
  refine lv_goto (tgt := 15) hx hb d_Mdl_none_36 (by decide) ?_
  refine lv_iload_n hx hb d_Mdl_none_15 rfl (lv_at hl 0 rfl) ?_
  refine lv_bipush (v := 8) hx hb d_Mdl_none_16 (by decide) ?_
  refine lv_icmp_ge (tgt := 39) hx hb d_Mdl_none_18 (by decide) (fun c9 => absurd c9 (by decide)) (fun _ => ?_)
  refine lv_aload_n hx hb d_Mdl_none_21 rfl (lv_at hl 1 rfl) ?_
  refine gm_get hx hb hW hown X u_Mdl m53 rfl 16 (by decide) wf_Mdl_106 (v := .ref (E.2.1 + 88)) rfl d_Mdl_none_22 ?_
  refine lv_iload_n hx hb d_Mdl_none_25 rfl (lv_at hl 2 rfl) ?_
  refine gm_aald hx hb X (k := t) (t := E.2.1 + (115 + 4 * t)) m88 rfl rfl ⟨h_t, by decide⟩ (if_pos h_t) d_Mdl_none_26 ?_
  refine gm_getN hx hb hW hown X u_Rpt (oQ (isQ_p h_t)) rfl 2 (by decide) wfn_Mdl_1 (v := .ref (E.2.1 + ((115 + 4 * t) + 3))) rfl d_Mdl_none_27 ?_
  refine lv_iload_n hx hb d_Mdl_none_30 rfl (lv_at hl 0 rfl) ?_
  refine lv_iconst (v := 0) hx hb d_Mdl_none_31 (by decide) ?_
  refine gm_iast hx hb X (k := 3) (mw_row (isQ.z (isQ_p h_t))) (cw_ge _) (by decide) ⟨by decide, by decide⟩ d_Mdl_none_32 (fun H locs X => ?_)
  rw [mw_upr _ (isQ.z (isQ_p h_t)), vu_vu, vu_s] at X
  refine lv_iinc (v := 4) (lv' := [(2, .int 4), (0, .ref (E.2.1 + 53)), (1, .int (nI t))]) hx hb d_Mdl_none_33 hl (k := 0) rfl (by decide) (by decide) rfl (fun ls hl => ?_)
  refine lv_goto (tgt := 15) hx hb d_Mdl_none_36 (by decide) ?_
  refine lv_iload_n hx hb d_Mdl_none_15 rfl (lv_at hl 0 rfl) ?_
  refine lv_bipush (v := 8) hx hb d_Mdl_none_16 (by decide) ?_
  refine lv_icmp_ge (tgt := 39) hx hb d_Mdl_none_18 (by decide) (fun c9 => absurd c9 (by decide)) (fun _ => ?_)
  refine lv_aload_n hx hb d_Mdl_none_21 rfl (lv_at hl 1 rfl) ?_
  refine gm_get hx hb hW hown X u_Mdl m53 rfl 16 (by decide) wf_Mdl_106 (v := .ref (E.2.1 + 88)) rfl d_Mdl_none_22 ?_
  refine lv_iload_n hx hb d_Mdl_none_25 rfl (lv_at hl 2 rfl) ?_
  refine gm_aald hx hb X (k := t) (t := E.2.1 + (115 + 4 * t)) m88 rfl rfl ⟨h_t, by decide⟩ (if_pos h_t) d_Mdl_none_26 ?_
  refine gm_getN hx hb hW hown X u_Rpt (oQ (isQ_p h_t)) rfl 2 (by decide) wfn_Mdl_1 (v := .ref (E.2.1 + ((115 + 4 * t) + 3))) rfl d_Mdl_none_27 ?_
  refine lv_iload_n hx hb d_Mdl_none_30 rfl (lv_at hl 0 rfl) ?_
  refine lv_iconst (v := 0) hx hb d_Mdl_none_31 (by decide) ?_
  refine gm_iast hx hb X (k := 4) (mw_row (isQ.z (isQ_p h_t))) (cw_ge _) (by decide) ⟨by decide, by decide⟩ d_Mdl_none_32 (fun H locs X => ?_)
  rw [mw_upr _ (isQ.z (isQ_p h_t)), vu_vu, vu_s] at X
  refine lv_iinc (v := 5) (lv' := [(2, .int 5), (0, .ref (E.2.1 + 53)), (1, .int (nI t))]) hx hb d_Mdl_none_33 hl (k := 0) rfl (by decide) (by decide) rfl (fun ls hl => ?_)
  refine lv_goto (tgt := 15) hx hb d_Mdl_none_36 (by decide) ?_
  refine lv_iload_n hx hb d_Mdl_none_15 rfl (lv_at hl 0 rfl) ?_
  refine lv_bipush (v := 8) hx hb d_Mdl_none_16 (by decide) ?_
  refine lv_icmp_ge (tgt := 39) hx hb d_Mdl_none_18 (by decide) (fun c9 => absurd c9 (by decide)) (fun _ => ?_)
  refine lv_aload_n hx hb d_Mdl_none_21 rfl (lv_at hl 1 rfl) ?_
  refine gm_get hx hb hW hown X u_Mdl m53 rfl 16 (by decide) wf_Mdl_106 (v := .ref (E.2.1 + 88)) rfl d_Mdl_none_22 ?_
  refine lv_iload_n hx hb d_Mdl_none_25 rfl (lv_at hl 2 rfl) ?_
  refine gm_aald hx hb X (k := t) (t := E.2.1 + (115 + 4 * t)) m88 rfl rfl ⟨h_t, by decide⟩ (if_pos h_t) d_Mdl_none_26 ?_
  refine gm_getN hx hb hW hown X u_Rpt (oQ (isQ_p h_t)) rfl 2 (by decide) wfn_Mdl_1 (v := .ref (E.2.1 + ((115 + 4 * t) + 3))) rfl d_Mdl_none_27 ?_
  refine lv_iload_n hx hb d_Mdl_none_30 rfl (lv_at hl 0 rfl) ?_
  refine lv_iconst (v := 0) hx hb d_Mdl_none_31 (by decide) ?_
  refine gm_iast hx hb X (k := 5) (mw_row (isQ.z (isQ_p h_t))) (cw_ge _) (by decide) ⟨by decide, by decide⟩ d_Mdl_none_32 (fun H locs X => ?_)
  rw [mw_upr _ (isQ.z (isQ_p h_t)), vu_vu, vu_s] at X
  refine lv_iinc (v := 6) (lv' := [(2, .int 6), (0, .ref (E.2.1 + 53)), (1, .int (nI t))]) hx hb d_Mdl_none_33 hl (k := 0) rfl (by decide) (by decide) rfl (fun ls hl => ?_)
  refine lv_goto (tgt := 15) hx hb d_Mdl_none_36 (by decide) ?_
  refine lv_iload_n hx hb d_Mdl_none_15 rfl (lv_at hl 0 rfl) ?_
  refine lv_bipush (v := 8) hx hb d_Mdl_none_16 (by decide) ?_
  refine lv_icmp_ge (tgt := 39) hx hb d_Mdl_none_18 (by decide) (fun c9 => absurd c9 (by decide)) (fun _ => ?_)
  refine lv_aload_n hx hb d_Mdl_none_21 rfl (lv_at hl 1 rfl) ?_
  refine gm_get hx hb hW hown X u_Mdl m53 rfl 16 (by decide) wf_Mdl_106 (v := .ref (E.2.1 + 88)) rfl d_Mdl_none_22 ?_
  refine lv_iload_n hx hb d_Mdl_none_25 rfl (lv_at hl 2 rfl) ?_
  refine gm_aald hx hb X (k := t) (t := E.2.1 + (115 + 4 * t)) m88 rfl rfl ⟨h_t, by decide⟩ (if_pos h_t) d_Mdl_none_26 ?_
  refine gm_getN hx hb hW hown X u_Rpt (oQ (isQ_p h_t)) rfl 2 (by decide) wfn_Mdl_1 (v := .ref (E.2.1 + ((115 + 4 * t) + 3))) rfl d_Mdl_none_27 ?_
  refine lv_iload_n hx hb d_Mdl_none_30 rfl (lv_at hl 0 rfl) ?_
  refine lv_iconst (v := 0) hx hb d_Mdl_none_31 (by decide) ?_
  refine gm_iast hx hb X (k := 6) (mw_row (isQ.z (isQ_p h_t))) (cw_ge _) (by decide) ⟨by decide, by decide⟩ d_Mdl_none_32 (fun H locs X => ?_)
  rw [mw_upr _ (isQ.z (isQ_p h_t)), vu_vu, vu_s] at X
  refine lv_iinc (v := 7) (lv' := [(2, .int 7), (0, .ref (E.2.1 + 53)), (1, .int (nI t))]) hx hb d_Mdl_none_33 hl (k := 0) rfl (by decide) (by decide) rfl (fun ls hl => ?_)
  refine lv_goto (tgt := 15) hx hb d_Mdl_none_36 (by decide) ?_
  refine lv_iload_n hx hb d_Mdl_none_15 rfl (lv_at hl 0 rfl) ?_
  refine lv_bipush (v := 8) hx hb d_Mdl_none_16 (by decide) ?_
  refine lv_icmp_ge (tgt := 39) hx hb d_Mdl_none_18 (by decide) (fun c9 => absurd c9 (by decide)) (fun _ => ?_)
  refine lv_aload_n hx hb d_Mdl_none_21 rfl (lv_at hl 1 rfl) ?_
  refine gm_get hx hb hW hown X u_Mdl m53 rfl 16 (by decide) wf_Mdl_106 (v := .ref (E.2.1 + 88)) rfl d_Mdl_none_22 ?_
  refine lv_iload_n hx hb d_Mdl_none_25 rfl (lv_at hl 2 rfl) ?_
  refine gm_aald hx hb X (k := t) (t := E.2.1 + (115 + 4 * t)) m88 rfl rfl ⟨h_t, by decide⟩ (if_pos h_t) d_Mdl_none_26 ?_
  refine gm_getN hx hb hW hown X u_Rpt (oQ (isQ_p h_t)) rfl 2 (by decide) wfn_Mdl_1 (v := .ref (E.2.1 + ((115 + 4 * t) + 3))) rfl d_Mdl_none_27 ?_
  refine lv_iload_n hx hb d_Mdl_none_30 rfl (lv_at hl 0 rfl) ?_
  refine lv_iconst (v := 0) hx hb d_Mdl_none_31 (by decide) ?_
  refine gm_iast hx hb X (k := 7) (mw_row (isQ.z (isQ_p h_t))) (cw_ge _) (by decide) ⟨by decide, by decide⟩ d_Mdl_none_32 (fun H locs X => ?_)
  rw [mw_upr _ (isQ.z (isQ_p h_t)), vu_vu, vu_s] at X
  refine lv_iinc (v := 8) (lv' := [(2, .int 8), (0, .ref (E.2.1 + 53)), (1, .int (nI t))]) hx hb d_Mdl_none_33 hl (k := 0) rfl (by decide) (by decide) rfl (fun ls hl => ?_)
  refine lv_goto (tgt := 15) hx hb d_Mdl_none_36 (by decide) ?_
  refine lv_iload_n hx hb d_Mdl_none_15 rfl (lv_at hl 0 rfl) ?_
  refine lv_bipush (v := 8) hx hb d_Mdl_none_16 (by decide) ?_
  refine lv_icmp_ge (tgt := 39) hx hb d_Mdl_none_18 (by decide) (fun _ => ?_) (fun c9 => absurd (by decide) c9)
  obtain ⟨τ1, e1⟩ : ∃ x, x = va_up τ (115 + 4 * t + 3) (upd (upd (upd (upd (upd (upd (upd (upd (τ (115 + 4 * t + 3)) 0 0) 1 0) 2 0) 3 0) 4 0) 5 0) 6 0) 7 0) := ⟨_, rfl⟩
  rw [← e1] at X
  have kk1 : kt (115 + 4 * t + 3) τ τ1 := fun j hj => by rw [e1, vu_n hj]
  have z1 : IV (τ1 (115 + 4 * t + 3)) 8 = 0 := by rw [e1, vu_s]; exact IV_z8 _
  exact gm_vret hx hb hr2 hlk X ⟨_, rfl, MV.of0 hk.fm.1 (by decide +kernel) z1, fun j hj h1 => kk1 j (by omega)⟩ d_Mdl_none_39
