/-! PointBench.Parts: written by wip/gen/par.py -/
/-- the order of the first i parts -/
def ordF (f g : Nat → Int64) : Nat → Int32
  | 0 => 0
  | i + 1 => if lg_cmp (f i) (g i) = 0 then ordF f g i else if 0 ≤ lg_cmp (f i ^^^ (-9223372036854775808)) (g i ^^^ (-9223372036854775808)) then 1 else -1
theorem ordF_0 {f g : Nat → Int64} {i : Nat} (h : lg_cmp (f i) (g i) = 0) : ordF f g (i + 1) = ordF f g i := by rw [ordF, if_pos h]
theorem ordF_1 {f g : Nat → Int64} {i : Nat} (h : ¬ lg_cmp (f i) (g i) = 0) (h2 : 0 ≤ lg_cmp (f i ^^^ (-9223372036854775808)) (g i ^^^ (-9223372036854775808))) : ordF f g (i + 1) = 1 := by rw [ordF, if_neg h, if_pos h2]
theorem ordF_2 {f g : Nat → Int64} {i : Nat} (h : ¬ lg_cmp (f i) (g i) = 0) (h2 : ¬ 0 ≤ lg_cmp (f i ^^^ (-9223372036854775808)) (g i ^^^ (-9223372036854775808))) : ordF f g (i + 1) = -1 := by rw [ordF, if_neg h, if_neg h2]
/-- a static array under its name -/
def stA (E : gm_E) (n : String) (t k : Nat) (f : Nat → Int64) : Prop := (n, t) ∈ E.2.2.2 ∧ E.2.2.1 t = some (k, f)
set_option maxHeartbeats 4000000 in
theorem c_Par_order (l : Launch) (E : gm_E) (M : gm_M) {a b : Nat} {f g : Nat → Int64} (ha : rdL E M a 4 f) (hq : rdL E M b 4 g) : ci_ l y_Par_order b_Par_order 3 (some .int) { frames := 0, cells := 0, slots := 0, locals := 0 } E M [.ref a, .ref b] (fun r M' => M' = M ∧ r = ordF f g 4) := by
  refine gm_met (by decide) (Nat.le_of_ble_eq_true rfl) (fun p e s m below meth c ls hx hb hml hr hlk hnm hown hW X hl => ?_)
  have hl : lv_has ls 3 [(0, .ref a), (1, .ref b)] := hl
  refine lv_iconst (v := 3) hx hb d_Par_order_0 (by decide) ?_
  refine lv_istore_n (lv' := [(2, .int 3), (0, .ref a), (1, .ref b)]) hx hb d_Par_order_1 rfl hl (by decide) rfl (fun ls hl => ?_)
  refine lv_iload_n hx hb d_Par_order_2 rfl (lv_at hl 0 rfl) ?_
  refine lv_if_lt (tgt := 46) hx hb d_Par_order_3 (by decide) (fun c9 => absurd c9 (by decide)) (fun _ => ?_)
  refine lv_aload_n hx hb d_Par_order_6 rfl (lv_at hl 1 rfl) ?_
  refine lv_iload_n hx hb d_Par_order_7 rfl (lv_at hl 0 rfl) ?_
  refine gm_lald hx hb X (k := 3) ha (by decide) ⟨by decide, by decide⟩ d_Par_order_8 ?_
  refine lv_aload_n hx hb d_Par_order_9 rfl (lv_at hl 2 rfl) ?_
  refine lv_iload_n hx hb d_Par_order_10 rfl (lv_at hl 0 rfl) ?_
  refine gm_lald hx hb X (k := 3) hq (by decide) ⟨by decide, by decide⟩ d_Par_order_11 ?_
  refine W.lcmp hx hb d_Par_order_12 ?_
  refine lv_if_eq (tgt := 40) hx hb d_Par_order_13 (by decide) (fun c13 => ?_) (fun c13 => ?_)
  · have h3 := c13
    refine lv_iinc (v := 2) (lv' := [(2, .int 2), (0, .ref a), (1, .ref b)]) hx hb d_Par_order_40 hl (k := 0) rfl (by decide) (by decide) rfl (fun ls hl => ?_)
    refine lv_goto (tgt := 2) hx hb d_Par_order_43 (by decide) ?_
    refine lv_iload_n hx hb d_Par_order_2 rfl (lv_at hl 0 rfl) ?_
    refine lv_if_lt (tgt := 46) hx hb d_Par_order_3 (by decide) (fun c9 => absurd c9 (by decide)) (fun _ => ?_)
    refine lv_aload_n hx hb d_Par_order_6 rfl (lv_at hl 1 rfl) ?_
    refine lv_iload_n hx hb d_Par_order_7 rfl (lv_at hl 0 rfl) ?_
    refine gm_lald hx hb X (k := 2) ha (by decide) ⟨by decide, by decide⟩ d_Par_order_8 ?_
    refine lv_aload_n hx hb d_Par_order_9 rfl (lv_at hl 2 rfl) ?_
    refine lv_iload_n hx hb d_Par_order_10 rfl (lv_at hl 0 rfl) ?_
    refine gm_lald hx hb X (k := 2) hq (by decide) ⟨by decide, by decide⟩ d_Par_order_11 ?_
    refine W.lcmp hx hb d_Par_order_12 ?_
    refine lv_if_eq (tgt := 40) hx hb d_Par_order_13 (by decide) (fun c13 => ?_) (fun c13 => ?_)
    · have h2 := c13
      refine lv_iinc (v := 1) (lv' := [(2, .int 1), (0, .ref a), (1, .ref b)]) hx hb d_Par_order_40 hl (k := 0) rfl (by decide) (by decide) rfl (fun ls hl => ?_)
      refine lv_goto (tgt := 2) hx hb d_Par_order_43 (by decide) ?_
      refine lv_iload_n hx hb d_Par_order_2 rfl (lv_at hl 0 rfl) ?_
      refine lv_if_lt (tgt := 46) hx hb d_Par_order_3 (by decide) (fun c9 => absurd c9 (by decide)) (fun _ => ?_)
      refine lv_aload_n hx hb d_Par_order_6 rfl (lv_at hl 1 rfl) ?_
      refine lv_iload_n hx hb d_Par_order_7 rfl (lv_at hl 0 rfl) ?_
      refine gm_lald hx hb X (k := 1) ha (by decide) ⟨by decide, by decide⟩ d_Par_order_8 ?_
      refine lv_aload_n hx hb d_Par_order_9 rfl (lv_at hl 2 rfl) ?_
      refine lv_iload_n hx hb d_Par_order_10 rfl (lv_at hl 0 rfl) ?_
      refine gm_lald hx hb X (k := 1) hq (by decide) ⟨by decide, by decide⟩ d_Par_order_11 ?_
      refine W.lcmp hx hb d_Par_order_12 ?_
      refine lv_if_eq (tgt := 40) hx hb d_Par_order_13 (by decide) (fun c13 => ?_) (fun c13 => ?_)
      · have h1 := c13
        refine lv_iinc (v := 0) (lv' := [(2, .int 0), (0, .ref a), (1, .ref b)]) hx hb d_Par_order_40 hl (k := 0) rfl (by decide) (by decide) rfl (fun ls hl => ?_)
        refine lv_goto (tgt := 2) hx hb d_Par_order_43 (by decide) ?_
        refine lv_iload_n hx hb d_Par_order_2 rfl (lv_at hl 0 rfl) ?_
        refine lv_if_lt (tgt := 46) hx hb d_Par_order_3 (by decide) (fun c9 => absurd c9 (by decide)) (fun _ => ?_)
        refine lv_aload_n hx hb d_Par_order_6 rfl (lv_at hl 1 rfl) ?_
        refine lv_iload_n hx hb d_Par_order_7 rfl (lv_at hl 0 rfl) ?_
        refine gm_lald hx hb X (k := 0) ha (by decide) ⟨by decide, by decide⟩ d_Par_order_8 ?_
        refine lv_aload_n hx hb d_Par_order_9 rfl (lv_at hl 2 rfl) ?_
        refine lv_iload_n hx hb d_Par_order_10 rfl (lv_at hl 0 rfl) ?_
        refine gm_lald hx hb X (k := 0) hq (by decide) ⟨by decide, by decide⟩ d_Par_order_11 ?_
        refine W.lcmp hx hb d_Par_order_12 ?_
        refine lv_if_eq (tgt := 40) hx hb d_Par_order_13 (by decide) (fun c13 => ?_) (fun c13 => ?_)
        · have h0 := c13
          refine lv_iinc (v := (-1)) (lv' := [(2, .int (-1)), (0, .ref a), (1, .ref b)]) hx hb d_Par_order_40 hl (k := 0) rfl (by decide) (by decide) rfl (fun ls hl => ?_)
          refine lv_goto (tgt := 2) hx hb d_Par_order_43 (by decide) ?_
          refine lv_iload_n hx hb d_Par_order_2 rfl (lv_at hl 0 rfl) ?_
          refine lv_if_lt (tgt := 46) hx hb d_Par_order_3 (by decide) (fun _ => ?_) (fun c9 => absurd (by decide) c9)
          refine lv_iconst (v := 0) hx hb d_Par_order_46 (by decide) ?_
          exact gm_iret hx hb hr hlk X ⟨rfl, ((ordF_0 h3).trans ((ordF_0 h2).trans ((ordF_0 h1).trans ((ordF_0 h0).trans (rfl))))).symm⟩ d_Par_order_47
        · have h0 := c13
          refine lv_aload_n hx hb d_Par_order_16 rfl (lv_at hl 1 rfl) ?_
          refine lv_iload_n hx hb d_Par_order_17 rfl (lv_at hl 0 rfl) ?_
          refine gm_lald hx hb X (k := 0) ha (by decide) ⟨by decide, by decide⟩ d_Par_order_18 ?_
          refine lv_ldc2 (v := (-9223372036854775808)) hx hb hown (hW _ wk_Par_9) d_Par_order_19 ?_
          refine lv_lxor hx hb d_Par_order_22 ?_
          refine lv_aload_n hx hb d_Par_order_23 rfl (lv_at hl 2 rfl) ?_
          refine lv_iload_n hx hb d_Par_order_24 rfl (lv_at hl 0 rfl) ?_
          refine gm_lald hx hb X (k := 0) hq (by decide) ⟨by decide, by decide⟩ d_Par_order_25 ?_
          refine lv_ldc2 (v := (-9223372036854775808)) hx hb hown (hW _ wk_Par_9) d_Par_order_26 ?_
          refine lv_lxor hx hb d_Par_order_29 ?_
          refine W.lcmp hx hb d_Par_order_30 ?_
          refine lv_if_ge (tgt := 38) hx hb d_Par_order_31 (by decide) (fun c31 => ?_) (fun c31 => ?_)
          · refine lv_iconst (v := 1) hx hb d_Par_order_38 (by decide) ?_
            exact gm_iret hx hb hr hlk X ⟨rfl, ((ordF_0 h3).trans ((ordF_0 h2).trans ((ordF_0 h1).trans (ordF_1 h0 c31)))).symm⟩ d_Par_order_39
          · refine lv_iconst (v := (-1)) hx hb d_Par_order_34 (by decide) ?_
            refine lv_goto (tgt := 39) hx hb d_Par_order_35 (by decide) ?_
            exact gm_iret hx hb hr hlk X ⟨rfl, ((ordF_0 h3).trans ((ordF_0 h2).trans ((ordF_0 h1).trans (ordF_2 h0 c31)))).symm⟩ d_Par_order_39
      · have h1 := c13
        refine lv_aload_n hx hb d_Par_order_16 rfl (lv_at hl 1 rfl) ?_
        refine lv_iload_n hx hb d_Par_order_17 rfl (lv_at hl 0 rfl) ?_
        refine gm_lald hx hb X (k := 1) ha (by decide) ⟨by decide, by decide⟩ d_Par_order_18 ?_
        refine lv_ldc2 (v := (-9223372036854775808)) hx hb hown (hW _ wk_Par_9) d_Par_order_19 ?_
        refine lv_lxor hx hb d_Par_order_22 ?_
        refine lv_aload_n hx hb d_Par_order_23 rfl (lv_at hl 2 rfl) ?_
        refine lv_iload_n hx hb d_Par_order_24 rfl (lv_at hl 0 rfl) ?_
        refine gm_lald hx hb X (k := 1) hq (by decide) ⟨by decide, by decide⟩ d_Par_order_25 ?_
        refine lv_ldc2 (v := (-9223372036854775808)) hx hb hown (hW _ wk_Par_9) d_Par_order_26 ?_
        refine lv_lxor hx hb d_Par_order_29 ?_
        refine W.lcmp hx hb d_Par_order_30 ?_
        refine lv_if_ge (tgt := 38) hx hb d_Par_order_31 (by decide) (fun c31 => ?_) (fun c31 => ?_)
        · refine lv_iconst (v := 1) hx hb d_Par_order_38 (by decide) ?_
          exact gm_iret hx hb hr hlk X ⟨rfl, ((ordF_0 h3).trans ((ordF_0 h2).trans (ordF_1 h1 c31))).symm⟩ d_Par_order_39
        · refine lv_iconst (v := (-1)) hx hb d_Par_order_34 (by decide) ?_
          refine lv_goto (tgt := 39) hx hb d_Par_order_35 (by decide) ?_
          exact gm_iret hx hb hr hlk X ⟨rfl, ((ordF_0 h3).trans ((ordF_0 h2).trans (ordF_2 h1 c31))).symm⟩ d_Par_order_39
    · have h2 := c13
      refine lv_aload_n hx hb d_Par_order_16 rfl (lv_at hl 1 rfl) ?_
      refine lv_iload_n hx hb d_Par_order_17 rfl (lv_at hl 0 rfl) ?_
      refine gm_lald hx hb X (k := 2) ha (by decide) ⟨by decide, by decide⟩ d_Par_order_18 ?_
      refine lv_ldc2 (v := (-9223372036854775808)) hx hb hown (hW _ wk_Par_9) d_Par_order_19 ?_
      refine lv_lxor hx hb d_Par_order_22 ?_
      refine lv_aload_n hx hb d_Par_order_23 rfl (lv_at hl 2 rfl) ?_
      refine lv_iload_n hx hb d_Par_order_24 rfl (lv_at hl 0 rfl) ?_
      refine gm_lald hx hb X (k := 2) hq (by decide) ⟨by decide, by decide⟩ d_Par_order_25 ?_
      refine lv_ldc2 (v := (-9223372036854775808)) hx hb hown (hW _ wk_Par_9) d_Par_order_26 ?_
      refine lv_lxor hx hb d_Par_order_29 ?_
      refine W.lcmp hx hb d_Par_order_30 ?_
      refine lv_if_ge (tgt := 38) hx hb d_Par_order_31 (by decide) (fun c31 => ?_) (fun c31 => ?_)
      · refine lv_iconst (v := 1) hx hb d_Par_order_38 (by decide) ?_
        exact gm_iret hx hb hr hlk X ⟨rfl, ((ordF_0 h3).trans (ordF_1 h2 c31)).symm⟩ d_Par_order_39
      · refine lv_iconst (v := (-1)) hx hb d_Par_order_34 (by decide) ?_
        refine lv_goto (tgt := 39) hx hb d_Par_order_35 (by decide) ?_
        exact gm_iret hx hb hr hlk X ⟨rfl, ((ordF_0 h3).trans (ordF_2 h2 c31)).symm⟩ d_Par_order_39
  · have h3 := c13
    refine lv_aload_n hx hb d_Par_order_16 rfl (lv_at hl 1 rfl) ?_
    refine lv_iload_n hx hb d_Par_order_17 rfl (lv_at hl 0 rfl) ?_
    refine gm_lald hx hb X (k := 3) ha (by decide) ⟨by decide, by decide⟩ d_Par_order_18 ?_
    refine lv_ldc2 (v := (-9223372036854775808)) hx hb hown (hW _ wk_Par_9) d_Par_order_19 ?_
    refine lv_lxor hx hb d_Par_order_22 ?_
    refine lv_aload_n hx hb d_Par_order_23 rfl (lv_at hl 2 rfl) ?_
    refine lv_iload_n hx hb d_Par_order_24 rfl (lv_at hl 0 rfl) ?_
    refine gm_lald hx hb X (k := 3) hq (by decide) ⟨by decide, by decide⟩ d_Par_order_25 ?_
    refine lv_ldc2 (v := (-9223372036854775808)) hx hb hown (hW _ wk_Par_9) d_Par_order_26 ?_
    refine lv_lxor hx hb d_Par_order_29 ?_
    refine W.lcmp hx hb d_Par_order_30 ?_
    refine lv_if_ge (tgt := 38) hx hb d_Par_order_31 (by decide) (fun c31 => ?_) (fun c31 => ?_)
    · refine lv_iconst (v := 1) hx hb d_Par_order_38 (by decide) ?_
      exact gm_iret hx hb hr hlk X ⟨rfl, (ordF_1 h3 c31).symm⟩ d_Par_order_39
    · refine lv_iconst (v := (-1)) hx hb d_Par_order_34 (by decide) ?_
      refine lv_goto (tgt := 39) hx hb d_Par_order_35 (by decide) ?_
      exact gm_iret hx hb hr hlk X ⟨rfl, (ordF_2 h3 c31).symm⟩ d_Par_order_39
set_option maxHeartbeats 1000000 in
theorem c_Par_areZero (l : Launch) (E : gm_E) (M : gm_M) {a tz : Nat} {f z : Nat → Int64} (ha : rdL E M a 4 f) (hz : stA E "ZERO" tz 4 z) : ci_ l y_Par_areZero b_Par_areZero 1 (some .boolean) { frames := 1, cells := 0, slots := 0, locals := 22 } E M [.ref a] (fun r M' => M' = M ∧ ((r = 1 ∧ ordF f z 4 = 0) ∨ (r = 0 ∧ ¬ ordF f z 4 = 0))) := by
  refine gm_met (by decide) (Nat.le_of_ble_eq_true rfl) (fun p e s m below meth c ls hx hb hml hr hlk hnm hown hW X hl => ?_)
  have hl : lv_has ls 1 [(0, .ref a)] := hl
  refine lv_aload_n hx hb d_Par_areZero_0 rfl (lv_at hl 0 rfl) ?_
  refine gm_getsN hx hb hW hown X hz.1 wfn_Par_11 d_Par_areZero_1 ?_
  refine gm_Si hx hb hml hown hW X (c_Par_order l E M ha (Or.inr hz.2)) (n := 2) ⟨⟨wl_Par_15, ws_Par_order, winit_Par, wc_Par_order⟩, by decide +kernel, Nat.le_of_ble_eq_true rfl, Nat.le_of_ble_eq_true rfl⟩ rfl hl.1 rfl (Nat.le_of_ble_eq_true rfl) d_Par_areZero_4 ⟨Nat.le_of_ble_eq_true rfl, Nat.le_of_ble_eq_true rfl⟩ (fun r M1 H locs hp X => ?_)
  rw [hp.1] at X
  obtain ⟨-, rfl⟩ := hp
  refine lv_if_ne (tgt := 14) hx hb d_Par_areZero_7 (by decide) (fun c7 => ?_) (fun c7 => ?_)
  · refine lv_iconst (v := 0) hx hb d_Par_areZero_14 (by decide) ?_
    exact gm_zret hx hb hr hlk X rfl ⟨rfl, Or.inr ⟨rfl, c7⟩⟩ d_Par_areZero_15
  · refine lv_iconst (v := 1) hx hb d_Par_areZero_10 (by decide) ?_
    refine lv_goto (tgt := 15) hx hb d_Par_areZero_11 (by decide) ?_
    exact gm_zret hx hb hr hlk X rfl ⟨rfl, Or.inl ⟨rfl, c7⟩⟩ d_Par_areZero_15
set_option maxHeartbeats 1000000 in
theorem c_Par_haveBit (l : Launch) (E : gm_E) (M : gm_M) {a k : Nat} {f : Nat → Int64} (ha : rdL E M a 4 f) (hk : k < 256) : ci_ l y_Par_haveBit b_Par_haveBit 2 (some .boolean) { frames := 0, cells := 0, slots := 0, locals := 0 } E M [.ref a, .int (nI k)] (fun r M' => M' = M ∧ ((r = 0 ∧ uN (f (k / 64)) / 2 ^ (k % 64) % 2 = 0) ∨ (r = 1 ∧ uN (f (k / 64)) / 2 ^ (k % 64) % 2 = 1))) := by
  refine gm_met (by decide) (Nat.le_of_ble_eq_true rfl) (fun p e s m below meth c ls hx hb hml hr hlk hnm hown hW X hl => ?_)
  have hl : lv_has ls 2 [(0, .ref a), (1, .int (nI k))] := hl
  refine lv_aload_n hx hb d_Par_haveBit_0 rfl (lv_at hl 0 rfl) ?_
  refine lv_iload_n hx hb d_Par_haveBit_1 rfl (lv_at hl 1 rfl) ?_
  refine lv_bipush (v := 64) hx hb d_Par_haveBit_2 (by decide) ?_
  refine lv_idiv hx hb d_Par_haveBit_4 (by decide) ?_
  refine lv_eqi (v := nI (k / 64)) (pk_div (a := k) (d := 64) (by omega) (by decide) (by decide)) ?_
  refine gm_lald hx hb X (k := (k / 64)) ha rfl ⟨by omega, by decide⟩ d_Par_haveBit_5 ?_
  refine lv_iload_n hx hb d_Par_haveBit_6 rfl (lv_at hl 1 rfl) ?_
  refine lv_bipush (v := 64) hx hb d_Par_haveBit_7 (by decide) ?_
  refine lv_irem hx hb d_Par_haveBit_9 (by decide) ?_
  refine lv_eqi (v := nI (k % 64)) (pk_rem (a := k) (d := 64) (by omega) (by decide) (by decide)) ?_
  refine lv_lushr hx hb d_Par_haveBit_10 rfl ?_
  refine lv_lconst (v := 1) hx hb d_Par_haveBit_11 (by decide) ?_
  refine lv_land hx hb d_Par_haveBit_12 ?_
  refine lv_lconst (v := 0) hx hb d_Par_haveBit_13 (by decide) ?_
  refine W.lcmp hx hb d_Par_haveBit_14 ?_
  have hu := uN_sk (f (k / 64)) (k := k % 64) (by omega)
  refine lv_if_eq (tgt := 22) hx hb d_Par_haveBit_15 (by decide) (fun c15 => ?_) (fun c15 => ?_)
  · have h0 := (uN_bit _).mp ((cmp0 _ _).mp c15)
    rw [hu] at h0
    refine lv_iconst (v := 0) hx hb d_Par_haveBit_22 (by decide) ?_
    exact gm_zret hx hb hr hlk X rfl ⟨rfl, Or.inl ⟨rfl, h0⟩⟩ d_Par_haveBit_23
  · have h0 : ¬ _ % 2 = 0 := fun q => c15 ((cmp0 _ _).mpr ((uN_bit _).mpr q))
    rw [hu] at h0
    refine lv_iconst (v := 1) hx hb d_Par_haveBit_18 (by decide) ?_
    refine lv_goto (tgt := 23) hx hb d_Par_haveBit_19 (by decide) ?_
    exact gm_zret hx hb hr hlk X rfl ⟨rfl, Or.inr ⟨rfl, by omega⟩⟩ d_Par_haveBit_23
