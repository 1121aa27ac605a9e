/-! PointBenchModel.Ring, second part: written by wip/gen/rng2.py -/
theorem lt_b {m x : Int64} : True := trivial
theorem md_sb {a m : Nat} (h1 : m ≤ a) (h2 : a < m + m) : a % m = a - m := by
  rw [Nat.mod_eq_sub_mod h1, Nat.mod_eq_of_lt (by omega)]
theorem cmpz (x : Int64) : lg_cmp x 0 = 0 ↔ uN x = 0 := by
  rw [cmp0]
  constructor
  · rintro rfl
    decide
  · intro h
    exact uN_inj h
set_option maxHeartbeats 1000000 in
theorem c_Rng_add (l : Launch) (E : gm_E) (M : gm_M) {mo on tw pl rw ba ot o : Nat} {mi : Int32} {to a b : Nat} {gt ga gb mv : Nat → Int32} (hO : M o = some (RO mo mi on tw pl rw ba ot)) (hm : M mo = some (IA E 8 mv)) (ht : M to = some (IA E 8 gt)) (hA : E.2.1 ≤ to) (hne : mo ≠ to) (ha : M a = some (IA E 8 ga)) (hq : M b = some (IA E 8 gb)) (h1 : IV ga 8 < IV mv 8) (h2 : IV gb 8 < IV mv 8) : cv_ l y_Rng_add b_Rng_add 4 none { frames := 1, cells := 0, slots := 0, locals := 27 } E M [.ref o, .ref a, .ref b, .ref to] (fun M' => ∃ h, M' = gm_up M to (IA E 8 h) ∧ IV h 8 = (IV ga 8 + IV gb 8) % IV mv 8) := by
  refine gm_met (by decide) (Nat.le_of_ble_eq_true rfl) (fun p e s m below meth c ls hx hb hml hr hlk hnm hown hW X hl => ?_)
  have hl : lv_has ls 4 [(0, .ref o), (1, .ref a), (2, .ref b), (3, .ref to)] := hl
  have hmt := IV_lt mv 8
  have oo : ∀ e, gm_up M to e o = some (RO mo mi on tw pl rw ba ot) := fun e => ob_ui hO ht
  have mm : ∀ e, gm_up M to e mo = some (IA E 8 mv) := fun e => (gm_up_n _ _ hne).trans hm
  refine lv_aload_n hx hb d_Rng_add_0 rfl (lv_at hl 1 rfl) ?_
  refine lv_aload_n hx hb d_Rng_add_1 rfl (lv_at hl 2 rfl) ?_
  refine lv_aload_n hx hb d_Rng_add_2 rfl (lv_at hl 3 rfl) ?_
  refine gm_Sl hx hb hml hown hW X (c_Rng_plus l E M ht hA ha hq) (n := 3) ⟨⟨wl_Rng_51, ws_Rng_plus, winit_Rng, wc_Rng_plus⟩, by decide +kernel, Nat.le_of_ble_eq_true rfl, Nat.le_of_ble_eq_true rfl⟩ rfl hl.1 rfl (Nat.le_of_ble_eq_true rfl) d_Rng_add_3 ⟨Nat.le_of_ble_eq_true rfl, Nat.le_of_ble_eq_true rfl⟩ (fun r M1 H locs hp X => ?_)
  obtain ⟨h, rfl, hv, hc⟩ := hp
  refine lv_lconst (v := 0) hx hb d_Rng_add_6 (by decide) ?_
  refine W.lcmp hx hb d_Rng_add_7 ?_
  refine lv_if_ne (tgt := 22) hx hb d_Rng_add_8 (by decide) (fun c8 => ?_) (fun c8 => ?_)
  · refine lv_aload_n hx hb d_Rng_add_22 rfl (lv_at hl 3 rfl) ?_
    refine lv_aload_n hx hb d_Rng_add_23 rfl (lv_at hl 0 rfl) ?_
    refine gm_get hx hb hW hown X u_Rng (oo _) rfl 0 (by decide) wf_Rng_9 (v := .ref mo) rfl d_Rng_add_24 ?_
    refine lv_aload_n hx hb d_Rng_add_27 rfl (lv_at hl 3 rfl) ?_
    refine gm_Sl hx hb hml hown hW X (c_Rng_less l E _ (gm_up_s _ _ _) hA (gm_up_s _ _ _) (mm _)) (n := 3) ⟨⟨wl_Rng_55, ws_Rng_less, winit_Rng, wc_Rng_less⟩, by decide +kernel, Nat.le_of_ble_eq_true rfl, Nat.le_of_ble_eq_true rfl⟩ rfl hl.1 rfl (Nat.le_of_ble_eq_true rfl) d_Rng_add_28 ⟨Nat.le_of_ble_eq_true rfl, Nat.le_of_ble_eq_true rfl⟩ (fun r2 M1 H locs hp X => ?_)
    obtain ⟨h3, rfl, hv2, hc2⟩ := hp
    rw [gm_up_up] at X
    refine lv_pop2_2 hx hb d_Rng_add_31 rfl ?_
    refine gm_vret hx hb hr hlk X ⟨_, rfl, ?_⟩ d_Rng_add_32
    have a1 := IV_lt h 8
    have a2 := IV_lt h3 8
    generalize tq 8 = T at *
    generalize uN r2 = y at *
    have hr1 : uN r = 1 := by have q : ¬ uN r = 0 := fun q => c8 ((cmpz r).mpr q); omega
    rw [hr1] at hv
    have hy : y = 1 := by rcases (show y = 0 ∨ y = 1 by omega) with q | q; (rw [q] at hv2; omega); exact q
    rw [hy] at hv2
    rw [md_sb (by omega) (by omega)]
    omega
  · have hr0 : uN r = 0 := (cmpz r).mp c8
    rw [hr0] at hv
    refine lv_aload_n hx hb d_Rng_add_11 rfl (lv_at hl 3 rfl) ?_
    refine lv_aload_n hx hb d_Rng_add_12 rfl (lv_at hl 0 rfl) ?_
    refine gm_get hx hb hW hown X u_Rng (oo _) rfl 0 (by decide) wf_Rng_9 (v := .ref mo) rfl d_Rng_add_13 ?_
    refine gm_Si hx hb hml hown hW X (c_Rng_compare l E _ (gm_up_s _ _ _) (mm _)) (n := 2) ⟨⟨wl_Rng_45, ws_Rng_compare, winit_Rng, wc_Rng_compare⟩, by decide +kernel, Nat.le_of_ble_eq_true rfl, Nat.le_of_ble_eq_true rfl⟩ rfl hl.1 rfl (Nat.le_of_ble_eq_true rfl) d_Rng_add_16 ⟨Nat.le_of_ble_eq_true rfl, Nat.le_of_ble_eq_true rfl⟩ (fun r3 M1 H locs hp X => ?_)
    rw [hp.1] at X
    have hq2 := (ordI_ok h mv 8).2.1
    rw [← hp.2] at hq2
    refine lv_if_lt (tgt := 32) hx hb d_Rng_add_19 (by decide) (fun c19 => ?_) (fun c19 => ?_)
    · refine gm_vret hx hb hr hlk X ⟨_, rfl, ?_⟩ d_Rng_add_32
      have q : ¬ IV mv 8 ≤ IV h 8 := fun z => absurd (hq2.mpr z) (Int32.not_le.mpr c19)
      rw [Nat.mod_eq_of_lt (by omega)]
      omega
    · refine lv_aload_n hx hb d_Rng_add_22 rfl (lv_at hl 3 rfl) ?_
      refine lv_aload_n hx hb d_Rng_add_23 rfl (lv_at hl 0 rfl) ?_
      refine gm_get hx hb hW hown X u_Rng (oo _) rfl 0 (by decide) wf_Rng_9 (v := .ref mo) rfl d_Rng_add_24 ?_
      refine lv_aload_n hx hb d_Rng_add_27 rfl (lv_at hl 3 rfl) ?_
      refine gm_Sl hx hb hml hown hW X (c_Rng_less l E _ (gm_up_s _ _ _) hA (gm_up_s _ _ _) (mm _)) (n := 3) ⟨⟨wl_Rng_55, ws_Rng_less, winit_Rng, wc_Rng_less⟩, by decide +kernel, Nat.le_of_ble_eq_true rfl, Nat.le_of_ble_eq_true rfl⟩ rfl hl.1 rfl (Nat.le_of_ble_eq_true rfl) d_Rng_add_28 ⟨Nat.le_of_ble_eq_true rfl, Nat.le_of_ble_eq_true rfl⟩ (fun r2 M1 H locs hp X => ?_)
      obtain ⟨h3, rfl, hv2, hc2⟩ := hp
      rw [gm_up_up] at X
      refine lv_pop2_2 hx hb d_Rng_add_31 rfl ?_
      refine gm_vret hx hb hr hlk X ⟨_, rfl, ?_⟩ d_Rng_add_32
      have a1 := IV_lt h 8
      have a2 := IV_lt h3 8
      generalize tq 8 = T at *
      generalize uN r2 = y at *
      have q : IV mv 8 ≤ IV h 8 := hq2.mp (Int32.not_lt.mp c19)
      have hy : y = 0 := by rcases (show y = 0 ∨ y = 1 by omega) with q | q; exact q; (rw [q] at hv2; omega)
      rw [hy] at hv2
      rw [md_sb (by omega) (by omega)]
      omega
set_option maxHeartbeats 1000000 in
theorem c_Rng_subtract (l : Launch) (E : gm_E) (M : gm_M) {mo on tw pl rw ba ot o : Nat} {mi : Int32} {to a b : Nat} {gt ga gb mv : Nat → Int32} (hO : M o = some (RO mo mi on tw pl rw ba ot)) (hm : M mo = some (IA E 8 mv)) (ht : M to = some (IA E 8 gt)) (hA : E.2.1 ≤ to) (hne : mo ≠ to) (ha : M a = some (IA E 8 ga)) (hq : M b = some (IA E 8 gb)) (h1 : IV ga 8 < IV mv 8) (h2 : IV gb 8 < IV mv 8) : cv_ l y_Rng_subtract b_Rng_subtract 4 none { frames := 1, cells := 0, slots := 0, locals := 27 } E M [.ref o, .ref a, .ref b, .ref to] (fun M' => ∃ h, M' = gm_up M to (IA E 8 h) ∧ IV h 8 = (IV ga 8 + IV mv 8 - IV gb 8) % IV mv 8) := by
  refine gm_met (by decide) (Nat.le_of_ble_eq_true rfl) (fun p e s m below meth c ls hx hb hml hr hlk hnm hown hW X hl => ?_)
  have hl : lv_has ls 4 [(0, .ref o), (1, .ref a), (2, .ref b), (3, .ref to)] := hl
  have hmt := IV_lt mv 8
  have oo : ∀ e, gm_up M to e o = some (RO mo mi on tw pl rw ba ot) := fun e => ob_ui hO ht
  have mm : ∀ e, gm_up M to e mo = some (IA E 8 mv) := fun e => (gm_up_n _ _ hne).trans hm
  refine lv_aload_n hx hb d_Rng_subtract_0 rfl (lv_at hl 1 rfl) ?_
  refine lv_aload_n hx hb d_Rng_subtract_1 rfl (lv_at hl 2 rfl) ?_
  refine lv_aload_n hx hb d_Rng_subtract_2 rfl (lv_at hl 3 rfl) ?_
  refine gm_Sl hx hb hml hown hW X (c_Rng_less l E M ht hA ha hq) (n := 3) ⟨⟨wl_Rng_55, ws_Rng_less, winit_Rng, wc_Rng_less⟩, by decide +kernel, Nat.le_of_ble_eq_true rfl, Nat.le_of_ble_eq_true rfl⟩ rfl hl.1 rfl (Nat.le_of_ble_eq_true rfl) d_Rng_subtract_3 ⟨Nat.le_of_ble_eq_true rfl, Nat.le_of_ble_eq_true rfl⟩ (fun r M1 H locs hp X => ?_)
  obtain ⟨h, rfl, hv, hc⟩ := hp
  refine lv_lconst (v := 0) hx hb d_Rng_subtract_6 (by decide) ?_
  refine W.lcmp hx hb d_Rng_subtract_7 ?_
  refine lv_if_eq (tgt := 21) hx hb d_Rng_subtract_8 (by decide) (fun c8 => ?_) (fun c8 => ?_)
  · refine gm_vret hx hb hr hlk X ⟨_, rfl, ?_⟩ d_Rng_subtract_21
    have hr0 : uN r = 0 := (cmpz r).mp c8
    rw [hr0] at hv
    have a1 := IV_lt h 8
    generalize tq 8 = T at *
    rw [show IV ga 8 + IV mv 8 - IV gb 8 = IV h 8 + IV mv 8 by omega, Nat.add_mod_right, Nat.mod_eq_of_lt (by omega)]
  · refine lv_aload_n hx hb d_Rng_subtract_11 rfl (lv_at hl 3 rfl) ?_
    refine lv_aload_n hx hb d_Rng_subtract_12 rfl (lv_at hl 0 rfl) ?_
    refine gm_get hx hb hW hown X u_Rng (oo _) rfl 0 (by decide) wf_Rng_9 (v := .ref mo) rfl d_Rng_subtract_13 ?_
    refine lv_aload_n hx hb d_Rng_subtract_16 rfl (lv_at hl 3 rfl) ?_
    refine gm_Sl hx hb hml hown hW X (c_Rng_plus l E _ (gm_up_s _ _ _) hA (gm_up_s _ _ _) (mm _)) (n := 3) ⟨⟨wl_Rng_51, ws_Rng_plus, winit_Rng, wc_Rng_plus⟩, by decide +kernel, Nat.le_of_ble_eq_true rfl, Nat.le_of_ble_eq_true rfl⟩ rfl hl.1 rfl (Nat.le_of_ble_eq_true rfl) d_Rng_subtract_17 ⟨Nat.le_of_ble_eq_true rfl, Nat.le_of_ble_eq_true rfl⟩ (fun r2 M1 H locs hp X => ?_)
    obtain ⟨h3, rfl, hv2, hc2⟩ := hp
    rw [gm_up_up] at X
    refine lv_pop2_2 hx hb d_Rng_subtract_20 rfl ?_
    refine gm_vret hx hb hr hlk X ⟨_, rfl, ?_⟩ d_Rng_subtract_21
    have hr1 : uN r = 1 := by have q : ¬ uN r = 0 := fun q => c8 ((cmpz r).mpr q); omega
    rw [hr1] at hv
    have a1 := IV_lt h 8
    have a2 := IV_lt h3 8
    generalize tq 8 = T at *
    generalize uN r2 = y at *
    have hy : y = 1 := by rcases (show y = 0 ∨ y = 1 by omega) with q | q; (rw [q] at hv2; omega); exact q
    rw [hy] at hv2
    rw [Nat.mod_eq_of_lt (by omega)]
    omega
set_option maxHeartbeats 1000000 in
theorem lp_Rng_put {p : Program} {l : Launch} {e : Env} {s : State} {m : MethodId} {args : Array Value} {below : List Frame} {meth : Method} {c : Code} {R : Room} {Q : State → Prop} {cells slots : Nat} {E : gm_E} {M : gm_M} {mo on tw pl rw ba ot o : Nat} {mi : Int32} {b : Nat} {gr gb : Nat → Int32} {wd : Int32} (hx : p.tables.exec = Jvm.exec) (hb : c.code = b_Rng_put) (hown : s.vm.findClass R_Rng = some m.cls) (hW : ∀ w ∈ WB, w.before args s = true) (hO : M o = some (RO mo mi on tw pl rw ba ot)) (hA : E.2.1 ≤ rw) (hg : M rw = some (IA E 10 gr)) (hq : M b = some (IA E 8 gb))
    (kk : ∀ (H : Heap) (locs : List Loc) (ls : Array Slot) (h : Nat → Int32) (cc : Int64), gx E (gm_up M rw (IA E 10 (mx 8 h gr))) s H locs → IV h 8 + uN cc * tq 8 = wN wd * IV gb 8 + IV gr 8 → uN cc < 4294967296 → lv_has ls 6 [(3, .long cc), (0, .ref o)] → W p l e R s m args below meth c H locs cells slots Q (F0 m 64 ls [])) :
    ∀ (k i : Nat), i + k = 8 → ∀ (H : Heap) (locs : List Loc) (ls : Array Slot) (h : Nat → Int32) (cc : Int64), gx E (gm_up M rw (IA E 10 (mx i h gr))) s H locs → IV h i + uN cc * tq i = wN wd * IV gb i + IV gr i → uN cc < 4294967296 → lv_has ls 6 [(5, .int (nI i)), (3, .long cc), (0, .ref o), (1, .int wd), (2, .ref b)] → W p l e R s m args below meth c H locs cells slots Q (F0 m 5 ls []) := by
  have oo : ∀ e, gm_up M rw e o = some (RO mo mi on tw pl rw ba ot) := fun e => ob_ui hO hg
  have bb : ∀ e, gm_up M rw e b = some (IA E 8 gb) := fun e => ia_ui hq hg (by decide)
  intro k
  induction k with
  | zero =>
    intro i hi H locs ls h cc X hv hc hl
    refine lv_iload hx hb d_Rng_put_5 (lv_at hl 0 rfl) ?_
    refine lv_bipush (v := 8) hx hb d_Rng_put_7 (by decide) ?_
    refine lv_icmp_ge (tgt := 64) hx hb d_Rng_put_9 (by decide) (fun c9 => ?_) (fun c9 => ?_)
    · obtain rfl : i = 8 := by omega
      exact kk H locs ls h cc X hv hc (lv_sub hl [1, 2] rfl)
    · exact absurd (i_ge (n := 8) (i := i) (by omega) (by omega)) c9
  | succ k ih =>
    intro i hi H locs ls h cc X hv hc hl
    refine lv_iload hx hb d_Rng_put_5 (lv_at hl 0 rfl) ?_
    refine lv_bipush (v := 8) hx hb d_Rng_put_7 (by decide) ?_
    refine lv_icmp_ge (tgt := 64) hx hb d_Rng_put_9 (by decide) (fun c9 => ?_) (fun c9 => ?_)
    · exact absurd c9 (i_nge (n := 8) (i := i) (by omega) (by omega))
    · have st := pt_st (w := wd) (x := gb i) (y := gr i) hc hv
      refine lv_lload_n hx hb d_Rng_put_12 rfl (lv_at hl 1 rfl) ?_
      refine lv_iload_n hx hb d_Rng_put_13 rfl (lv_at hl 3 rfl) ?_
      refine lv_i2l hx hb d_Rng_put_14 rfl ?_
      refine lv_ldc2 (v := 4294967295) hx hb hown (hW _ wk_Rng_49) d_Rng_put_15 ?_
      refine lv_land hx hb d_Rng_put_18 ?_
      refine lv_aload_n hx hb d_Rng_put_19 rfl (lv_at hl 4 rfl) ?_
      refine lv_iload hx hb d_Rng_put_20 (lv_at hl 0 rfl) ?_
      refine gm_iald hx hb X (k := i) (bb _) rfl ⟨by omega, by decide⟩ d_Rng_put_22 ?_
      refine lv_i2l hx hb d_Rng_put_23 rfl ?_
      refine lv_ldc2 (v := 4294967295) hx hb hown (hW _ wk_Rng_49) d_Rng_put_24 ?_
      refine lv_land hx hb d_Rng_put_27 ?_
      refine lv_lmul hx hb d_Rng_put_28 ?_
      refine lv_aload_n hx hb d_Rng_put_29 rfl (lv_at hl 2 rfl) ?_
      refine gm_get hx hb hW hown X u_Rng (oo _) rfl 5 (by decide) wf_Rng_24 (v := .ref rw) rfl d_Rng_put_30 ?_
      refine lv_iload hx hb d_Rng_put_33 (lv_at hl 0 rfl) ?_
      refine gm_iald hx hb X (k := i) (gm_up_s _ _ _) rfl ⟨by omega, by decide⟩ d_Rng_put_35 ?_
      rw [mx_ge _ _ (Nat.le_refl i)]
      refine lv_i2l hx hb d_Rng_put_36 rfl ?_
      refine lv_ldc2 (v := 4294967295) hx hb hown (hW _ wk_Rng_49) d_Rng_put_37 ?_
      refine lv_land hx hb d_Rng_put_40 ?_
      refine lv_ladd hx hb d_Rng_put_41 ?_
      refine lv_ladd hx hb d_Rng_put_42 ?_
      refine lv_lstore_n (lv' := [(3, .long (cc + (((((wd : Int32).toInt64) &&& 4294967295) * ((((gb i) : Int32).toInt64) &&& 4294967295)) + ((((gr i) : Int32).toInt64) &&& 4294967295)))), (5, .int (nI i)), (0, .ref o), (1, .int wd), (2, .ref b)]) hx hb d_Rng_put_43 rfl hl (by decide) rfl (fun ls hl => ?_)
      refine lv_aload_n hx hb d_Rng_put_44 rfl (lv_at hl 2 rfl) ?_
      refine gm_get hx hb hW hown X u_Rng (oo _) rfl 5 (by decide) wf_Rng_24 (v := .ref rw) rfl d_Rng_put_45 ?_
      refine lv_iload hx hb d_Rng_put_48 (lv_at hl 1 rfl) ?_
      refine lv_lload_n hx hb d_Rng_put_50 rfl (lv_at hl 0 rfl) ?_
      refine lv_l2i hx hb d_Rng_put_51 rfl ?_
      refine gm_iast hx hb X (k := i) (gm_up_s _ _ _) hA rfl ⟨by omega, by decide⟩ d_Rng_put_52 (fun H locs X => ?_)
      rw [gm_up_up, mx_u] at X
      refine lv_lload_n hx hb d_Rng_put_53 rfl (lv_at hl 0 rfl) ?_
      refine lv_bipush (v := 32) hx hb d_Rng_put_54 (by decide) ?_
      refine lv_lushr hx hb d_Rng_put_56 rfl ?_
      refine lv_lstore_n (lv' := [(3, .long ((((cc + (((((wd : Int32).toInt64) &&& 4294967295) * ((((gb i) : Int32).toInt64) &&& 4294967295)) + ((((gr i) : Int32).toInt64) &&& 4294967295)))).toUInt64 >>> ((32 : Int32).toInt64.toUInt64 &&& Int64.toUInt64 63)).toInt64)), (5, .int (nI i)), (0, .ref o), (1, .int wd), (2, .ref b)]) hx hb d_Rng_put_57 rfl hl (by decide) rfl (fun ls hl => ?_)
      refine lv_iinc (v := (nI (i + 1))) (lv' := [(5, .int (nI (i + 1))), (3, .long ((((cc + (((((wd : Int32).toInt64) &&& 4294967295) * ((((gb i) : Int32).toInt64) &&& 4294967295)) + ((((gr i) : Int32).toInt64) &&& 4294967295)))).toUInt64 >>> ((32 : Int32).toInt64.toUInt64 &&& Int64.toUInt64 63)).toInt64)), (0, .ref o), (1, .int wd), (2, .ref b)]) hx hb d_Rng_put_58 hl (k := 1) rfl (nI_1 i) (by decide) rfl (fun ls hl => ?_)
      refine lv_goto (tgt := 5) hx hb d_Rng_put_61 (by decide) ?_
      refine ih (i + 1) (by omega) H locs ls _ _ X ?_ st.2 hl
      rw [IV_up, tq_s, IV_s gr, IV_s gb, st.1]
      grind
theorem pt_end {A B c T r8 r9 : Nat} {c2 : Int64} {y : Int32} (e : A + c * T = B) (e2 : uN c2 = c + r8) (ey : wN y = r9) (hT : B + r8 * T + r9 * (T * 4294967296) < T * 4294967296 * 4294967296) : A + wN c2.toInt32 * T + wN (y + (c2.toUInt64 >>> ((32 : Int32).toInt64.toUInt64 &&& Int64.toUInt64 63)).toInt64.toInt32) * (T * 4294967296) = B + r8 * T + r9 * (T * 4294967296) := by
  have h2 := uN_lt c2
  rw [i32_v, wN_add, i32_v, uN_s32, ey]
  have k1 : uN c2 / 4294967296 % 4294967296 = uN c2 / 4294967296 := Nat.mod_eq_of_lt (by omega)
  rw [k1]
  have st := st_w A (uN c2) T
  have e3 : A + uN c2 * T = B + r8 * T := by rw [e2, ← e]; grind
  generalize uN c2 / 4294967296 = q at *
  generalize uN c2 % 4294967296 = z at *
  have k2 : r9 + q < 4294967296 := by
    have e4 : (r9 + q) * (T * 4294967296) ≤ B + r8 * T + r9 * (T * 4294967296) := by
      rw [Nat.add_mul]
      omega
    have e5 : (r9 + q) * (T * 4294967296) < 4294967296 * (T * 4294967296) := by
      rw [Nat.mul_comm 4294967296]
      omega
    exact Nat.lt_of_mul_lt_mul_right e5
  rw [Nat.mod_eq_of_lt k2, Nat.add_mul]
  omega
set_option maxHeartbeats 1000000 in
theorem c_Rng_put (l : Launch) (E : gm_E) (M : gm_M) {mo on tw pl rw ba ot o : Nat} {mi : Int32} {b : Nat} {gr gb : Nat → Int32} {wd : Int32} (hO : M o = some (RO mo mi on tw pl rw ba ot)) (hA : E.2.1 ≤ rw) (hg : M rw = some (IA E 10 gr)) (hq : M b = some (IA E 8 gb)) (hT : IV gr 10 + wN wd * IV gb 8 < tq 10) : cv_ l y_Rng_put b_Rng_put 6 none { frames := 0, cells := 0, slots := 0, locals := 0 } E M [.ref o, .int wd, .ref b] (fun M' => ∃ h, M' = gm_up M rw (IA E 10 h) ∧ IV h 10 = IV gr 10 + wN wd * IV gb 8) := by
  refine gm_met (by decide) (Nat.le_of_ble_eq_true rfl) (fun p e s m below meth c ls hx hb hml hr hlk hnm hown hW X hl => ?_)
  have hl : lv_has ls 6 [(0, .ref o), (1, .int wd), (2, .ref b)] := hl
  have oo : ∀ e, gm_up M rw e o = some (RO mo mi on tw pl rw ba ot) := fun e => ob_ui hO hg
  refine lv_lconst (v := 0) hx hb d_Rng_put_0 (by decide) ?_
  refine lv_lstore_n (lv' := [(3, .long 0), (0, .ref o), (1, .int wd), (2, .ref b)]) hx hb d_Rng_put_1 rfl hl (by decide) rfl (fun ls hl => ?_)
  refine lv_iconst (v := 0) hx hb d_Rng_put_2 (by decide) ?_
  refine lv_istore (lv' := [(5, .int 0), (3, .long 0), (0, .ref o), (1, .int wd), (2, .ref b)]) hx hb d_Rng_put_3 hl (by decide) rfl (fun ls hl => ?_)
  have X0 : gx E (gm_up M rw (IA E 10 (mx 0 gr gr))) s s.heap [] := by rw [mx_0, gm_up_self hg]; exact X
  refine lp_Rng_put hx hb hown hW hO hA hg hq (fun H locs ls h cc X hv hc hl => ?_) 8 0 rfl _ _ ls gr 0 X0 (by rw [show uN 0 = 0 by decide]; simp [IV]) (by decide) hl
  refine lv_lload_n hx hb d_Rng_put_64 rfl (lv_at hl 0 rfl) ?_
  refine lv_aload_n hx hb d_Rng_put_65 rfl (lv_at hl 1 rfl) ?_
  refine gm_get hx hb hW hown X u_Rng (oo _) rfl 5 (by decide) wf_Rng_24 (v := .ref rw) rfl d_Rng_put_66 ?_
  refine lv_bipush (v := 8) hx hb d_Rng_put_69 (by decide) ?_
  refine gm_iald hx hb X (k := 8) (gm_up_s _ _ _) (by decide) ⟨by decide, by decide⟩ d_Rng_put_71 ?_
  refine lv_i2l hx hb d_Rng_put_72 rfl ?_
  refine lv_ldc2 (v := 4294967295) hx hb hown (hW _ wk_Rng_49) d_Rng_put_73 ?_
  refine lv_land hx hb d_Rng_put_76 ?_
  refine lv_ladd hx hb d_Rng_put_77 ?_
  refine lv_lstore_n (lv' := [(3, .long (cc + ((((mx 8 h gr 8) : Int32).toInt64) &&& 4294967295))), (0, .ref o)]) hx hb d_Rng_put_78 rfl hl (by decide) rfl (fun ls hl => ?_)
  refine lv_aload_n hx hb d_Rng_put_79 rfl (lv_at hl 1 rfl) ?_
  refine gm_get hx hb hW hown X u_Rng (oo _) rfl 5 (by decide) wf_Rng_24 (v := .ref rw) rfl d_Rng_put_80 ?_
  refine lv_bipush (v := 8) hx hb d_Rng_put_83 (by decide) ?_
  refine lv_lload_n hx hb d_Rng_put_85 rfl (lv_at hl 0 rfl) ?_
  refine lv_l2i hx hb d_Rng_put_86 rfl ?_
  refine gm_iast hx hb X (k := 8) (gm_up_s _ _ _) hA (by decide) ⟨by decide, by decide⟩ d_Rng_put_87 (fun H locs X => ?_)
  rw [gm_up_up] at X
  refine lv_aload_n hx hb d_Rng_put_88 rfl (lv_at hl 1 rfl) ?_
  refine gm_get hx hb hW hown X u_Rng (oo _) rfl 5 (by decide) wf_Rng_24 (v := .ref rw) rfl d_Rng_put_89 ?_
  refine lv_bipush (v := 9) hx hb d_Rng_put_92 (by decide) ?_
  refine lv_dup2_11 hx hb d_Rng_put_94 rfl rfl ?_
  refine gm_iald hx hb X (k := 9) (gm_up_s _ _ _) (by decide) ⟨by decide, by decide⟩ d_Rng_put_95 ?_
  refine lv_lload_n hx hb d_Rng_put_96 rfl (lv_at hl 0 rfl) ?_
  refine lv_bipush (v := 32) hx hb d_Rng_put_97 (by decide) ?_
  refine lv_lushr hx hb d_Rng_put_99 rfl ?_
  refine lv_l2i hx hb d_Rng_put_100 rfl ?_
  refine lv_iadd hx hb d_Rng_put_101 ?_
  refine gm_iast hx hb X (k := 9) (gm_up_s _ _ _) hA (by decide) ⟨by decide, by decide⟩ d_Rng_put_102 (fun H locs X => ?_)
  rw [gm_up_up] at X
  refine gm_vret hx hb hr hlk X ⟨_, rfl, ?_⟩ d_Rng_put_103
  have g8 : mx 8 h gr 8 = gr 8 := mx_ge _ _ (Nat.le_refl 8)
  rw [IV_up, IV_up, IV_cg (f := mx 8 h gr) (g := h) (fun j hj => mx_lt _ _ hj), g8, show tq 9 = tq 8 * 4294967296 from rfl]
  rw [IV_s gr 9, IV_s gr 8, show tq 9 = tq 8 * 4294967296 from rfl] at hT
  rw [IV_s gr 9, IV_s gr 8, show tq 9 = tq 8 * 4294967296 from rfl]
  have e9 : upd (mx 8 h gr) 8 (cc + ((gr 8).toInt64 &&& 4294967295)).toInt32 9 = gr 9 := by simp [upd, mx]
  rw [e9]
  have hw8 := wN_lt (gr 8)
  rw [show tq 10 = tq 8 * 4294967296 * 4294967296 from rfl] at hT
  have ec : uN (cc + ((gr 8).toInt64 &&& 4294967295)) = uN cc + wN (gr 8) := by rw [uN_add, lo_v]; omega
  clear X e9 g8
  generalize tq 8 = T at *
  rw [pt_end (r8 := wN (gr 8)) (r9 := wN (gr 9)) hv ec rfl (by omega)]
  omega
