/-! PointBenchModel: times, flat: written by wip/gen/mdl2.py -/
theorem ec_db2 {F : Type} [Lean.Grind.CommRing F] {φ : Int → F} {inv : F → F} (h : ec_fld φ inv) {p : Option (F × F)} (hp : ec_OK p) (n : Nat) : ec_add inv (ec_nm inv n p) (ec_nm inv n p) = ec_nm inv (2 * n) p := by rw [← ec_nm_add h hp, Nat.two_mul]
theorem ec_nms {F : Type} [Lean.Grind.CommRing F] (inv : F → F) (p : Option (F × F)) (n : Nat) : ec_add inv (ec_nm inv n p) p = ec_nm inv (n + 1) p := rfl
theorem mpR.nm {F : Type} [Lean.Grind.CommRing F] {φ : Int → F} {inv : F → F} {τ : Nat → Nat → Int32} {o : Nat} {p : Option (F × F)} {a b : Nat} (h : mpR φ τ o (ec_nm inv a p)) (e : b = a) : mpR φ τ o (ec_nm inv b p) := by
  subst e
  exact h
set_option maxHeartbeats 1000000 in
theorem lp_Mdl_z2 {p : Program} {l : Launch} {e : Env} {s : State} {m : MethodId} {args : Array Value} {below : List Frame} {meth : Method} {c : Code} {R : Room} {Q : State → Prop} {cells slots : Nat} {E : gm_E} {N : gm_M} {τ : Nat → Nat → Int32} {cd : Int32} {t u xu : Nat} (hx : p.tables.exec = Jvm.exec) (hb : c.code = b_Mdl_times_p) (hown : s.vm.findClass R_Mdl = some m.cls) (hW : ∀ w ∈ WB, w.before args s = true) (hP : isQ t)
    (kk : ∀ (H : Heap) (locs : List Loc) (ls : Array Slot) τ', gx E (mW E N τ' cd) s H locs → IV (τ' (t + 3)) 8 = 0 → kt (t + 3) τ τ' → lv_has ls 5 [(0, .ref (E.2.1 + 53)), (1, .ref (E.2.1 + xu)), (2, .ref (E.2.1 + u)), (3, .ref (E.2.1 + t))] → W p l e R s m args below meth c H locs cells slots Q (F0 m 24 ls [])) :
    ∀ (j k : Nat), k + j = 8 → ∀ (H : Heap) (locs : List Loc) (ls : Array Slot) τ', gx E (mW E N τ' cd) s H locs → (∀ i, i < k → τ' (t + 3) i = 0) → kt (t + 3) τ τ' → lv_has ls 5 [(4, .int (nI k)), (0, .ref (E.2.1 + 53)), (1, .ref (E.2.1 + xu)), (2, .ref (E.2.1 + u)), (3, .ref (E.2.1 + t))] → W p l e R s m args below meth c H locs cells slots Q (F0 m 3 ls []) := by
  intro j
  induction j with
  | zero =>
    intro k hk H locs ls τ' X h0 k0 hl
    refine lv_iload hx hb d_Mdl_times_p_3 (lv_at hl 0 rfl) ?_
    refine lv_bipush (v := 8) hx hb d_Mdl_times_p_5 (by decide) ?_
    refine lv_icmp_ge (tgt := 24) hx hb d_Mdl_times_p_7 (by decide) (fun c7 => ?_) (fun c7 => ?_)
    · obtain rfl : k = 8 := by omega
      exact kk H locs ls τ' X (by rw [IV_cg (g := fun _ => 0) h0, IV_z]) k0 (lv_sub hl [1, 2, 3, 4] rfl)
    · exact absurd (i_ge (n := 8) (i := k) (by omega) (by omega)) c7
  | succ j ih =>
    intro k hk H locs ls τ' X h0 k0 hl
    refine lv_iload hx hb d_Mdl_times_p_3 (lv_at hl 0 rfl) ?_
    refine lv_bipush (v := 8) hx hb d_Mdl_times_p_5 (by decide) ?_
    refine lv_icmp_ge (tgt := 24) hx hb d_Mdl_times_p_7 (by decide) (fun c7 => ?_) (fun c7 => ?_)
    · exact absurd c7 (i_nge (n := 8) (i := k) (by omega) (by omega))
    · refine lv_aload_n hx hb d_Mdl_times_p_10 rfl (lv_at hl 4 rfl) ?_
      refine gm_getN hx hb hW hown X u_Rpt (oQ hP) rfl 2 (by decide) wfn_Mdl_1 (v := .ref (E.2.1 + (t + 3))) rfl d_Mdl_times_p_11 ?_
      refine lv_iload hx hb d_Mdl_times_p_14 (lv_at hl 0 rfl) ?_
      refine lv_iconst (v := 0) hx hb d_Mdl_times_p_16 (by decide) ?_
      refine gm_iast hx hb X (k := k) (mw_row hP.z) (cw_ge _) rfl ⟨by omega, by decide⟩ d_Mdl_times_p_17 (fun H locs X => ?_)
      rw [mw_upr _ hP.z] at X
      refine lv_iinc (v := (nI (k + 1))) (lv' := [(4, .int (nI (k + 1))), (0, .ref (E.2.1 + 53)), (1, .ref (E.2.1 + xu)), (2, .ref (E.2.1 + u)), (3, .ref (E.2.1 + t))]) hx hb d_Mdl_times_p_18 hl (k := 0) rfl (nI_1 k) (by decide) rfl (fun ls hl => ?_)
      refine lv_goto (tgt := 3) hx hb d_Mdl_times_p_21 (by decide) ?_
      refine ih (k + 1) (by omega) H locs ls _ X (fun i hi => ?_) (fun j hj => by rw [vu_n hj]; exact k0 j hj) hl
      rw [vu_s]
      by_cases q : i = k
      · simp [upd, q]
      · simp [upd, q]
        exact h0 i (by omega)
set_option maxHeartbeats 2000000 in
theorem lp_Mdl_times {p : Program} {l : Launch} {e : Env} {s : State} {m : MethodId} {args : Array Value} {below : List Frame} {meth : Method} {c : Code} {Q : State → Prop} {F : Type} [Lean.Grind.CommRing F] {φ : Int → F} {inv : F → F} {E : gm_E} {N : gm_M} {τ : Nat → Nat → Int32} {cd : Int32} (hx : p.tables.exec = Jvm.exec) (hb : c.code = b_Mdl_times_p) (hml : c.maxLocals = 5) (hown : s.vm.findClass R_Mdl = some m.cls) (hW : ∀ w ∈ WB, w.before args s = true) (hk : fk φ inv) {Ri : F} (hR : φ (tq 8) * Ri = 1) (hr : isR φ nP 99 τ) {t u xu : Nat} {pp : Option (F × F)} (hT : t = 63 ∨ t = 89) (hU : u = 67 ∨ u = 59) (hxq : q8 xu) (hxu : ¬ (71 ≤ xu ∧ xu ≤ 76) ∧ ¬ (104 ≤ xu ∧ xu ≤ 106) ∧ ¬ (t < xu ∧ xu < t + 4)) (hq : mpR φ τ u pp)
    (kk : ∀ (H : Heap) (locs : List Loc) (ls : Array Slot) τ', gx E (mW E N τ' cd) s H locs → kD t τ τ' → mpR φ τ' t (ec_nm inv (IV (τ xu) 8) pp) → W p l e { frames := 4, cells := 0, slots := 0, locals := 96 } s m args below meth c H locs 0 0 Q (F0 m 70 ls [])) :
    ∀ (j i : Nat), i + j = 256 → ∀ (H : Heap) (locs : List Loc) (ls : Array Slot) τ', gx E (mW E N τ' cd) s H locs → kD t τ τ' → mpR φ τ' t (ec_nm inv (IV (τ xu) 8 / 2 ^ (256 - i)) pp) → lv_has ls 5 [(4, .int (nI (256 - i) - 1)), (0, .ref (E.2.1 + 53)), (1, .ref (E.2.1 + xu)), (2, .ref (E.2.1 + u)), (3, .ref (E.2.1 + t))] → W p l e { frames := 4, cells := 0, slots := 0, locals := 96 } s m args below meth c H locs 0 0 Q (F0 m 29 ls []) := by
  have hU3 : u = 67 ∨ u = 59 ∨ u = 89 := by omega
  have hQ : isQ u := by rcases hU with rfl | rfl <;> simp [isQ]
  have hok := hq.ok
  intro j
  induction j with
  | zero =>
    intro i hi H locs ls τ' X hK hs hl
    refine lv_iload hx hb d_Mdl_times_p_29 (lv_at hl 0 rfl) ?_
    refine lv_if_lt (tgt := 70) hx hb d_Mdl_times_p_31 (by decide) (fun c31 => ?_) (fun c31 => ?_)
    · exact kk H locs ls τ' X hK (hs.nm (by rw [show 256 - i = 0 by omega, Nat.pow_zero, Nat.div_one]))
    · obtain rfl : i = 256 := by omega
      exact absurd (by decide) c31
  | succ j ih =>
    intro i hi H locs ls τ' X hK hs hl
    have q : nI (256 - i) - 1 = nI (255 - i) := by rw [show 256 - i = (255 - i) + 1 by omega]; exact nI_pred _
    rw [q] at hl
    refine lv_iload hx hb d_Mdl_times_p_29 (lv_at hl 0 rfl) ?_
    refine lv_if_lt (tgt := 70) hx hb d_Mdl_times_p_31 (by decide) (fun c31 => ?_) (fun c31 => ?_)
    · exact absurd c31 (nI_pos (by omega))
    · have hi2 : i < 256 := by omega
      have R1 : isR φ nP 99 τ' := hr.kp (fun j h1 h2 => hK j (by omega) (by omega) (by omega))
      refine lv_aload_n hx hb d_Mdl_times_p_34 rfl (lv_at hl 1 rfl) ?_
      refine lv_aload_n hx hb d_Mdl_times_p_35 rfl (lv_at hl 4 rfl) ?_
      refine gm_Vv hx hb hml hown hW X m53 (q_Mdl_doubled l E N τ' cd hk hR R1 hT hs) (n := 1) ⟨⟨wl_Mdl_54, wi_Mdl_doubled, wsel_Mdl_doubled, winit_Mdl, wc_Mdl_doubled⟩, by decide +kernel, ⟨Nat.le_of_ble_eq_true rfl, Nat.le_of_ble_eq_true rfl⟩, _, rfl, rfl⟩ rfl hl.1 rfl (Nat.le_of_ble_eq_true rfl) d_Mdl_times_p_36 ⟨Nat.le_of_ble_eq_true rfl, Nat.le_of_ble_eq_true rfl⟩ (fun M1 H locs hp X => ?_)
      obtain ⟨τ1, rfl, hs, o1⟩ := hp
      rw [ec_db2 hk.1 hok] at hs
      have hK := hK.tr o1
      refine lv_aload_n hx hb d_Mdl_times_p_39 rfl (lv_at hl 2 rfl) ?_
      refine lv_iload hx hb d_Mdl_times_p_40 (lv_at hl 0 rfl) ?_
      refine lv_bipush (v := 32) hx hb d_Mdl_times_p_42 (by decide) ?_
      refine lv_idiv hx hb d_Mdl_times_p_44 (by decide) ?_
      refine lv_eqi (v := nI ((255 - i) / 32)) (pk_div (a := 255 - i) (d := 32) (by omega) (by decide) (by decide)) ?_
      refine gm_iald hx hb X (k := ((255 - i) / 32)) (mw_row hxq) rfl ⟨by omega, by decide⟩ d_Mdl_times_p_45 ?_
      rw [hK xu hxu.1 hxu.2.1 hxu.2.2]
      refine lv_iload hx hb d_Mdl_times_p_46 (lv_at hl 0 rfl) ?_
      refine lv_bipush (v := 32) hx hb d_Mdl_times_p_48 (by decide) ?_
      refine lv_irem hx hb d_Mdl_times_p_50 (by decide) ?_
      refine lv_eqi (v := nI ((255 - i) % 32)) (pk_rem (a := 255 - i) (d := 32) (by omega) (by decide) (by decide)) ?_
      refine lv_ishr hx hb d_Mdl_times_p_51 ?_
      refine lv_iconst (v := 1) hx hb d_Mdl_times_p_52 (by decide) ?_
      refine lv_iand hx hb d_Mdl_times_p_53 ?_
      refine lv_iconst (v := 1) hx hb d_Mdl_times_p_54 (by decide) ?_
      refine lv_icmp_ne (tgt := 64) hx hb d_Mdl_times_p_55 (by decide) (fun c55 => ?_) (fun c55 => ?_)
      · have hz : wN (τ xu ((255 - i) / 32)) / 2 ^ ((255 - i) % 32) % 2 = 0 := Classical.not_not.mp (fun z => c55 ((bt_i _ _ (by omega)).mpr z))
        refine lv_iinc (v := (nI (256 - (i + 1)) - 1)) (lv' := [(4, .int (nI (256 - (i + 1)) - 1)), (0, .ref (E.2.1 + 53)), (1, .ref (E.2.1 + xu)), (2, .ref (E.2.1 + u)), (3, .ref (E.2.1 + t))]) hx hb d_Mdl_times_p_64 hl (k := 0) rfl (by rw [show 255 - i = 256 - (i + 1) by omega]; exact i_m1 _) (by decide) rfl (fun ls hl => ?_)
        refine lv_goto (tgt := 29) hx hb d_Mdl_times_p_67 (by decide) ?_
        exact ih (i + 1) (by omega) H locs ls τ1 X hK (hs.nm (iv_st0 hi2 hz)) hl
      · have hz : ¬ wN (τ xu ((255 - i) / 32)) / 2 ^ ((255 - i) % 32) % 2 = 0 := (bt_i _ _ (by omega)).mp c55
        have R2 : isR φ nP 99 τ1 := hr.kp (fun j h1 h2 => hK j (by omega) (by omega) (by omega))
        have hq1 : mpR φ τ1 u pp := hq.kept (hK _ (by omega) (by omega) (by omega)) (hK _ (by omega) (by omega) (by omega)) (hK _ (by omega) (by omega) (by omega))
        refine lv_aload_n hx hb d_Mdl_times_p_58 rfl (lv_at hl 1 rfl) ?_
        refine lv_aload_n hx hb d_Mdl_times_p_59 rfl (lv_at hl 4 rfl) ?_
        refine lv_aload_n hx hb d_Mdl_times_p_60 rfl (lv_at hl 3 rfl) ?_
        refine gm_Vv hx hb hml hown hW X m53 (q_Mdl_plus l E N τ1 cd hk hR R2 hT hU3 (by omega) hs hq1) (n := 2) ⟨⟨wl_Mdl_57, wi_Mdl_plus, wsel_Mdl_plus, winit_Mdl, wc_Mdl_plus⟩, by decide +kernel, ⟨Nat.le_of_ble_eq_true rfl, Nat.le_of_ble_eq_true rfl⟩, _, rfl, rfl⟩ rfl hl.1 rfl (Nat.le_of_ble_eq_true rfl) d_Mdl_times_p_61 ⟨Nat.le_of_ble_eq_true rfl, Nat.le_of_ble_eq_true rfl⟩ (fun M1 H locs hp X => ?_)
        obtain ⟨τ2, rfl, hs, o2⟩ := hp
        rw [ec_nms] at hs
        have hK := hK.tr o2
        refine lv_iinc (v := (nI (256 - (i + 1)) - 1)) (lv' := [(4, .int (nI (256 - (i + 1)) - 1)), (0, .ref (E.2.1 + 53)), (1, .ref (E.2.1 + xu)), (2, .ref (E.2.1 + u)), (3, .ref (E.2.1 + t))]) hx hb d_Mdl_times_p_64 hl (k := 0) rfl (by rw [show 255 - i = 256 - (i + 1) by omega]; exact i_m1 _) (by decide) rfl (fun ls hl => ?_)
        refine lv_goto (tgt := 29) hx hb d_Mdl_times_p_67 (by decide) ?_
        exact ih (i + 1) (by omega) H locs ls τ2 X hK (hs.nm (iv_st1 hi2 hz)) hl
set_option maxHeartbeats 4000000 in
theorem q_Mdl_times_p {F : Type} [Lean.Grind.CommRing F] {φ : Int → F} {inv : F → F} (l : Launch) (E : gm_E) (N : gm_M) (τ : Nat → Nat → Int32) (cd : Int32) (hk : fk φ inv) {Ri : F} (hR : φ (tq 8) * Ri = 1) (hr : isR φ nP 99 τ) {t u xu : Nat} {pp : Option (F × F)} (hT : t = 63 ∨ t = 89) (hU : u = 67 ∨ u = 59) (hxq : q8 xu) (hxu : ¬ (71 ≤ xu ∧ xu ≤ 76) ∧ ¬ (104 ≤ xu ∧ xu ≤ 106) ∧ ¬ (t < xu ∧ xu < t + 4)) (hq : mpR φ τ u pp) : cv_ l y_Mdl_times_p b_Mdl_times_p 5 none { frames := 4, cells := 0, slots := 0, locals := 96 } E (mW E N τ cd) [.ref (E.2.1 + 53), .ref (E.2.1 + xu), .ref (E.2.1 + u), .ref (E.2.1 + t)] (fun M' => ∃ τ', M' = mW E N τ' cd ∧ mpR φ τ' t (ec_nm inv (IV (τ xu) 8) pp) ∧ kD t τ τ') := by
  have hP : isQ t := by rcases hT with rfl | rfl <;> simp [isQ]
  have hf := hk.fm
  have hpP := rPl_P E
  refine gm_met (by decide) (Nat.le_of_ble_eq_true rfl) (fun p e s m below meth c ls hx hb hml hr2 hlk hnm hown hW X hl => ?_)
  have hl : lv_has ls 5 [(0, .ref (E.2.1 + 53)), (1, .ref (E.2.1 + xu)), (2, .ref (E.2.1 + u)), (3, .ref (E.2.1 + t))] := hl
  refine lv_iconst (v := 0) hx hb d_Mdl_times_p_0 (by decide) ?_
  refine lv_istore (lv' := [(4, .int 0), (0, .ref (E.2.1 + 53)), (1, .ref (E.2.1 + xu)), (2, .ref (E.2.1 + u)), (3, .ref (E.2.1 + t))]) hx hb d_Mdl_times_p_1 hl (by decide) rfl (fun ls hl => ?_)
  refine lp_Mdl_z2 (u := u) (xu := xu) hx hb hown hW hP (fun H locs ls τ1 X hz0 kz hl => ?_) 8 0 rfl _ _ ls τ X (fun i hi => absurd hi (by omega)) (fun j hj => rfl) hl
  refine lv_sipush (v := 255) hx hb d_Mdl_times_p_24 (by decide) ?_
  refine lv_istore (lv' := [(4, .int 255), (0, .ref (E.2.1 + 53)), (1, .ref (E.2.1 + xu)), (2, .ref (E.2.1 + u)), (3, .ref (E.2.1 + t))]) hx hb d_Mdl_times_p_27 hl (by decide) rfl (fun ls hl => ?_)
  have z0 : mpR φ τ1 t (ec_nm inv 0 pp) := MV.of0 hf.1 (by decide +kernel) hz0
  refine lp_Mdl_times hx hb hml hown hW hk hR hr hT hU hxq hxu hq (fun H locs ls τ' X hK hs => ?_) 256 0 rfl H locs ls τ1 X (fun j a1 a2 a3 => kz j (by omega)) (z0.nm (Nat.div_eq_of_lt (IV_lt256 _))) hl
  exact gm_vret hx hb hr2 hlk X ⟨_, rfl, hs, hK⟩ d_Mdl_times_p_70
set_option maxHeartbeats 4000000 in
theorem q_Mdl_flat {F : Type} [Lean.Grind.CommRing F] {φ : Int → F} {inv : F → F} (l : Launch) (E : gm_E) (N : gm_M) (τ : Nat → Nat → Int32) (cd : Int32) (hk : fk φ inv) {Ri : F} (hR : φ (tq 8) * Ri = 1) (hr : isR φ nP 99 τ) {t xx yy : Nat} {a : F × F} (hP : isQ t) (hXY : (xx = 77 ∧ yy = 78) ∨ (xx = 93 ∧ yy = 94)) (hs : mpR φ τ t (some a)) : cv_ l y_Mdl_flat b_Mdl_flat 4 none { frames := 3, cells := 0, slots := 0, locals := 78 } E (mW E N τ cd) [.ref (E.2.1 + 53), .ref (E.2.1 + t), .ref (E.2.1 + xx), .ref (E.2.1 + yy)] (fun M' => ∃ τ', M' = mW E N τ' cd ∧ PV φ nP (τ' xx) a.1 ∧ PV φ nP (τ' yy) a.2 ∧ ∀ j, ¬ (71 ≤ j ∧ j ≤ 76) → ¬ (104 ≤ j ∧ j ≤ 106) → j ≠ xx → j ≠ yy → τ' j = τ j) := by
  have hO := hP.o
  have hqx : q8 xx := by rcases hXY with ⟨rfl, rfl⟩ | ⟨rfl, rfl⟩ <;> decide
  have hqy : q8 yy := by rcases hXY with ⟨rfl, rfl⟩ | ⟨rfl, rfl⟩ <;> decide
  have hf := hk.fm
  have hpP := rPl_P E
  refine gm_met (by decide) (Nat.le_of_ble_eq_true rfl) (fun p e s m below meth c ls hx hb hml hr2 hlk hnm hown hW X hl => ?_)
  have hl : lv_has ls 4 [(0, .ref (E.2.1 + 53)), (1, .ref (E.2.1 + t)), (2, .ref (E.2.1 + xx)), (3, .ref (E.2.1 + yy))] := hl
  obtain ⟨ho, x, y, z, hX, hY, hZ, hj⟩ := hs
  refine lv_aload_n hx hb d_Mdl_flat_0 rfl (lv_at hl 0 rfl) ?_
  refine gm_get hx hb hW hown X u_Mdl m53 rfl 0 (by decide) wf_Mdl_13 (v := .ref (E.2.1 + 99)) rfl d_Mdl_flat_1 ?_
  refine lv_aload_n hx hb d_Mdl_flat_4 rfl (lv_at hl 1 rfl) ?_
  refine gm_getN hx hb hW hown X u_Rpt (oQ hP) rfl 2 (by decide) wfn_Mdl_1 (v := .ref (E.2.1 + (t + 3))) rfl d_Mdl_flat_5 ?_
  refine lv_bipush (v := (-2)) hx hb d_Mdl_flat_8 (by decide) ?_
  refine lv_iconst (v := 0) hx hb d_Mdl_flat_10 (by decide) ?_
  refine lv_aload_n hx hb d_Mdl_flat_11 rfl (lv_at hl 0 rfl) ?_
  refine gm_get hx hb hW hown X u_Mdl m53 rfl 7 (by decide) wf_Mdl_22 (v := .ref (E.2.1 + 71)) rfl d_Mdl_flat_12 ?_
  refine gm_Vv hx hb hml hown hW X m99 (q_power l hpP hf hR hr (sh := 0) (by decide) (by decide) (isQ.z hP) (by omega) hZ) (n := 4) ⟨⟨wl_Mdl_61, wi_Rng_power, wsel_Rng_power, winit_Rng, wc_Rng_power⟩, by decide +kernel, ⟨Nat.le_of_ble_eq_true rfl, Nat.le_of_ble_eq_true rfl⟩, _, rfl, rfl⟩ rfl hl.1 rfl (Nat.le_of_ble_eq_true rfl) d_Mdl_flat_15 ⟨Nat.le_of_ble_eq_true rfl, Nat.le_of_ble_eq_true rfl⟩ (fun M1 H locs hp X => ?_)
  obtain ⟨τ1, rfl, q1, kk1⟩ := hp
  have mt1_1 : MV φ nP (τ1 (t + 1)) x := by rw [kk1 (t + 1) (by omega) (by omega)]; exact hX
  have mt2_1 : MV φ nP (τ1 (t + 2)) y := by rw [kk1 (t + 2) (by omega) (by omega)]; exact hY
  have mt3_1 : MV φ nP (τ1 (t + 3)) z := by rw [kk1 (t + 3) (by omega) (by omega)]; exact hZ
  have R_1 : isR φ nP 99 τ1 := hr.kp (fun j h1 h2 => kk1 j (by omega) (by omega))
  have m71_1 : MV φ nP (τ1 71) (fp_pw z (NV sP2)) := by rw [← xp_sP2 hr]; exact q1
  refine lv_aload_n hx hb d_Mdl_flat_18 rfl (lv_at hl 0 rfl) ?_
  refine gm_get hx hb hW hown X u_Mdl m53 rfl 0 (by decide) wf_Mdl_13 (v := .ref (E.2.1 + 99)) rfl d_Mdl_flat_19 ?_
  refine lv_aload_n hx hb d_Mdl_flat_22 rfl (lv_at hl 0 rfl) ?_
  refine gm_get hx hb hW hown X u_Mdl m53 rfl 7 (by decide) wf_Mdl_22 (v := .ref (E.2.1 + 71)) rfl d_Mdl_flat_23 ?_
  refine lv_aload_n hx hb d_Mdl_flat_26 rfl (lv_at hl 0 rfl) ?_
  refine gm_get hx hb hW hown X u_Mdl m53 rfl 7 (by decide) wf_Mdl_22 (v := .ref (E.2.1 + 71)) rfl d_Mdl_flat_27 ?_
  refine lv_aload_n hx hb d_Mdl_flat_30 rfl (lv_at hl 0 rfl) ?_
  refine gm_get hx hb hW hown X u_Mdl m53 rfl 8 (by decide) wf_Mdl_32 (v := .ref (E.2.1 + 72)) rfl d_Mdl_flat_31 ?_
  refine gm_Vv hx hb hml hown hW X m99 (q_mul l hpP hf hR R_1 (by decide) (by decide) (by decide) (by omega) m71_1 m71_1) (n := 3) ⟨⟨wl_Mdl_25, wi_Rng_multiply, wsel_Rng_multiply, winit_Rng, wc_Rng_multiply⟩, by decide +kernel, ⟨Nat.le_of_ble_eq_true rfl, Nat.le_of_ble_eq_true rfl⟩, _, rfl, rfl⟩ rfl hl.1 rfl (Nat.le_of_ble_eq_true rfl) d_Mdl_flat_34 ⟨Nat.le_of_ble_eq_true rfl, Nat.le_of_ble_eq_true rfl⟩ (fun M1 H locs hp X => ?_)
  obtain ⟨τ2, rfl, q2, kk2⟩ := hp
  have mt1_2 : MV φ nP (τ2 (t + 1)) x := by rw [kk2 (t + 1) (by omega) (by omega)]; exact mt1_1
  have mt2_2 : MV φ nP (τ2 (t + 2)) y := by rw [kk2 (t + 2) (by omega) (by omega)]; exact mt2_1
  have mt3_2 : MV φ nP (τ2 (t + 3)) z := by rw [kk2 (t + 3) (by omega) (by omega)]; exact mt3_1
  have m71_2 : MV φ nP (τ2 71) (fp_pw z (NV sP2)) := by rw [kk2 71 (by omega) (by omega)]; exact m71_1
  have R_2 : isR φ nP 99 τ2 := R_1.kp (fun j h1 h2 => kk2 j (by omega) (by omega))
  have m72_2 : MV φ nP (τ2 72) ((fp_pw z (NV sP2)) * (fp_pw z (NV sP2))) := q2
  refine lv_aload_n hx hb d_Mdl_flat_37 rfl (lv_at hl 0 rfl) ?_
  refine gm_get hx hb hW hown X u_Mdl m53 rfl 0 (by decide) wf_Mdl_13 (v := .ref (E.2.1 + 99)) rfl d_Mdl_flat_38 ?_
  refine lv_aload_n hx hb d_Mdl_flat_41 rfl (lv_at hl 1 rfl) ?_
  refine gm_getN hx hb hW hown X u_Rpt (oQ hP) rfl 0 (by decide) wfn_Mdl_29 (v := .ref (E.2.1 + (t + 1))) rfl d_Mdl_flat_42 ?_
  refine lv_aload_n hx hb d_Mdl_flat_45 rfl (lv_at hl 0 rfl) ?_
  refine gm_get hx hb hW hown X u_Mdl m53 rfl 8 (by decide) wf_Mdl_32 (v := .ref (E.2.1 + 72)) rfl d_Mdl_flat_46 ?_
  refine lv_aload_n hx hb d_Mdl_flat_49 rfl (lv_at hl 2 rfl) ?_
  refine gm_Vv hx hb hml hown hW X m99 (q_mul l hpP hf hR R_2 hqx (isQ.x hP) (by decide) (by omega) mt1_2 m72_2) (n := 3) ⟨⟨wl_Mdl_25, wi_Rng_multiply, wsel_Rng_multiply, winit_Rng, wc_Rng_multiply⟩, by decide +kernel, ⟨Nat.le_of_ble_eq_true rfl, Nat.le_of_ble_eq_true rfl⟩, _, rfl, rfl⟩ rfl hl.1 rfl (Nat.le_of_ble_eq_true rfl) d_Mdl_flat_50 ⟨Nat.le_of_ble_eq_true rfl, Nat.le_of_ble_eq_true rfl⟩ (fun M1 H locs hp X => ?_)
  obtain ⟨τ3, rfl, q3, kk3⟩ := hp
  have mt1_3 : MV φ nP (τ3 (t + 1)) x := by rw [kk3 (t + 1) (by omega) (by omega)]; exact mt1_2
  have mt2_3 : MV φ nP (τ3 (t + 2)) y := by rw [kk3 (t + 2) (by omega) (by omega)]; exact mt2_2
  have mt3_3 : MV φ nP (τ3 (t + 3)) z := by rw [kk3 (t + 3) (by omega) (by omega)]; exact mt3_2
  have m71_3 : MV φ nP (τ3 71) (fp_pw z (NV sP2)) := by rw [kk3 71 (by omega) (by omega)]; exact m71_2
  have m72_3 : MV φ nP (τ3 72) ((fp_pw z (NV sP2)) * (fp_pw z (NV sP2))) := by rw [kk3 72 (by omega) (by omega)]; exact m72_2
  have R_3 : isR φ nP 99 τ3 := R_2.kp (fun j h1 h2 => kk3 j (by omega) (by omega))
  have mxx_3 : MV φ nP (τ3 xx) (x * ((fp_pw z (NV sP2)) * (fp_pw z (NV sP2)))) := q3
  refine lv_aload_n hx hb d_Mdl_flat_53 rfl (lv_at hl 0 rfl) ?_
  refine gm_get hx hb hW hown X u_Mdl m53 rfl 0 (by decide) wf_Mdl_13 (v := .ref (E.2.1 + 99)) rfl d_Mdl_flat_54 ?_
  refine lv_aload_n hx hb d_Mdl_flat_57 rfl (lv_at hl 0 rfl) ?_
  refine gm_get hx hb hW hown X u_Mdl m53 rfl 8 (by decide) wf_Mdl_32 (v := .ref (E.2.1 + 72)) rfl d_Mdl_flat_58 ?_
  refine lv_aload_n hx hb d_Mdl_flat_61 rfl (lv_at hl 0 rfl) ?_
  refine gm_get hx hb hW hown X u_Mdl m53 rfl 7 (by decide) wf_Mdl_22 (v := .ref (E.2.1 + 71)) rfl d_Mdl_flat_62 ?_
  refine lv_aload_n hx hb d_Mdl_flat_65 rfl (lv_at hl 0 rfl) ?_
  refine gm_get hx hb hW hown X u_Mdl m53 rfl 8 (by decide) wf_Mdl_32 (v := .ref (E.2.1 + 72)) rfl d_Mdl_flat_66 ?_
  refine gm_Vv hx hb hml hown hW X m99 (q_mul l hpP hf hR R_3 (by decide) (by decide) (by decide) (by omega) m72_3 m71_3) (n := 3) ⟨⟨wl_Mdl_25, wi_Rng_multiply, wsel_Rng_multiply, winit_Rng, wc_Rng_multiply⟩, by decide +kernel, ⟨Nat.le_of_ble_eq_true rfl, Nat.le_of_ble_eq_true rfl⟩, _, rfl, rfl⟩ rfl hl.1 rfl (Nat.le_of_ble_eq_true rfl) d_Mdl_flat_69 ⟨Nat.le_of_ble_eq_true rfl, Nat.le_of_ble_eq_true rfl⟩ (fun M1 H locs hp X => ?_)
  obtain ⟨τ4, rfl, q4, kk4⟩ := hp
  have mt1_4 : MV φ nP (τ4 (t + 1)) x := by rw [kk4 (t + 1) (by omega) (by omega)]; exact mt1_3
  have mt2_4 : MV φ nP (τ4 (t + 2)) y := by rw [kk4 (t + 2) (by omega) (by omega)]; exact mt2_3
  have mt3_4 : MV φ nP (τ4 (t + 3)) z := by rw [kk4 (t + 3) (by omega) (by omega)]; exact mt3_3
  have m71_4 : MV φ nP (τ4 71) (fp_pw z (NV sP2)) := by rw [kk4 71 (by omega) (by omega)]; exact m71_3
  have mxx_4 : MV φ nP (τ4 xx) (x * ((fp_pw z (NV sP2)) * (fp_pw z (NV sP2)))) := by rw [kk4 xx (by omega) (by omega)]; exact mxx_3
  have R_4 : isR φ nP 99 τ4 := R_3.kp (fun j h1 h2 => kk4 j (by omega) (by omega))
  have m72_4 : MV φ nP (τ4 72) (((fp_pw z (NV sP2)) * (fp_pw z (NV sP2))) * (fp_pw z (NV sP2))) := q4
  refine lv_aload_n hx hb d_Mdl_flat_72 rfl (lv_at hl 0 rfl) ?_
  refine gm_get hx hb hW hown X u_Mdl m53 rfl 0 (by decide) wf_Mdl_13 (v := .ref (E.2.1 + 99)) rfl d_Mdl_flat_73 ?_
  refine lv_aload_n hx hb d_Mdl_flat_76 rfl (lv_at hl 1 rfl) ?_
  refine gm_getN hx hb hW hown X u_Rpt (oQ hP) rfl 1 (by decide) wfn_Mdl_19 (v := .ref (E.2.1 + (t + 2))) rfl d_Mdl_flat_77 ?_
  refine lv_aload_n hx hb d_Mdl_flat_80 rfl (lv_at hl 0 rfl) ?_
  refine gm_get hx hb hW hown X u_Mdl m53 rfl 8 (by decide) wf_Mdl_32 (v := .ref (E.2.1 + 72)) rfl d_Mdl_flat_81 ?_
  refine lv_aload_n hx hb d_Mdl_flat_84 rfl (lv_at hl 3 rfl) ?_
  refine gm_Vv hx hb hml hown hW X m99 (q_mul l hpP hf hR R_4 hqy (isQ.y hP) (by decide) (by omega) mt2_4 m72_4) (n := 3) ⟨⟨wl_Mdl_25, wi_Rng_multiply, wsel_Rng_multiply, winit_Rng, wc_Rng_multiply⟩, by decide +kernel, ⟨Nat.le_of_ble_eq_true rfl, Nat.le_of_ble_eq_true rfl⟩, _, rfl, rfl⟩ rfl hl.1 rfl (Nat.le_of_ble_eq_true rfl) d_Mdl_flat_85 ⟨Nat.le_of_ble_eq_true rfl, Nat.le_of_ble_eq_true rfl⟩ (fun M1 H locs hp X => ?_)
  obtain ⟨τ5, rfl, q5, kk5⟩ := hp
  have mt1_5 : MV φ nP (τ5 (t + 1)) x := by rw [kk5 (t + 1) (by omega) (by omega)]; exact mt1_4
  have mt2_5 : MV φ nP (τ5 (t + 2)) y := by rw [kk5 (t + 2) (by omega) (by omega)]; exact mt2_4
  have mt3_5 : MV φ nP (τ5 (t + 3)) z := by rw [kk5 (t + 3) (by omega) (by omega)]; exact mt3_4
  have m71_5 : MV φ nP (τ5 71) (fp_pw z (NV sP2)) := by rw [kk5 71 (by omega) (by omega)]; exact m71_4
  have mxx_5 : MV φ nP (τ5 xx) (x * ((fp_pw z (NV sP2)) * (fp_pw z (NV sP2)))) := by rw [kk5 xx (by omega) (by omega)]; exact mxx_4
  have m72_5 : MV φ nP (τ5 72) (((fp_pw z (NV sP2)) * (fp_pw z (NV sP2))) * (fp_pw z (NV sP2))) := by rw [kk5 72 (by omega) (by omega)]; exact m72_4
  have R_5 : isR φ nP 99 τ5 := R_4.kp (fun j h1 h2 => kk5 j (by omega) (by omega))
  have myy_5 : MV φ nP (τ5 yy) (y * (((fp_pw z (NV sP2)) * (fp_pw z (NV sP2))) * (fp_pw z (NV sP2)))) := q5
  refine lv_aload_n hx hb d_Mdl_flat_88 rfl (lv_at hl 0 rfl) ?_
  refine gm_get hx hb hW hown X u_Mdl m53 rfl 0 (by decide) wf_Mdl_13 (v := .ref (E.2.1 + 99)) rfl d_Mdl_flat_89 ?_
  refine lv_aload_n hx hb d_Mdl_flat_92 rfl (lv_at hl 2 rfl) ?_
  refine lv_aload_n hx hb d_Mdl_flat_93 rfl (lv_at hl 2 rfl) ?_
  refine gm_Vv hx hb hml hown hW X m99 (q_leave l hpP hf hR R_5 hqx hqx (by omega) mxx_5) (n := 2) ⟨⟨wl_Mdl_65, wi_Rng_leave, wsel_Rng_leave, winit_Rng, wc_Rng_leave⟩, by decide +kernel, ⟨Nat.le_of_ble_eq_true rfl, Nat.le_of_ble_eq_true rfl⟩, _, rfl, rfl⟩ rfl hl.1 rfl (Nat.le_of_ble_eq_true rfl) d_Mdl_flat_94 ⟨Nat.le_of_ble_eq_true rfl, Nat.le_of_ble_eq_true rfl⟩ (fun M1 H locs hp X => ?_)
  obtain ⟨τ6, rfl, q6, kk6⟩ := hp
  have mt1_6 : MV φ nP (τ6 (t + 1)) x := by rw [kk6 (t + 1) (by omega) (by omega)]; exact mt1_5
  have mt2_6 : MV φ nP (τ6 (t + 2)) y := by rw [kk6 (t + 2) (by omega) (by omega)]; exact mt2_5
  have mt3_6 : MV φ nP (τ6 (t + 3)) z := by rw [kk6 (t + 3) (by omega) (by omega)]; exact mt3_5
  have m71_6 : MV φ nP (τ6 71) (fp_pw z (NV sP2)) := by rw [kk6 71 (by omega) (by omega)]; exact m71_5
  have m72_6 : MV φ nP (τ6 72) (((fp_pw z (NV sP2)) * (fp_pw z (NV sP2))) * (fp_pw z (NV sP2))) := by rw [kk6 72 (by omega) (by omega)]; exact m72_5
  have myy_6 : MV φ nP (τ6 yy) (y * (((fp_pw z (NV sP2)) * (fp_pw z (NV sP2))) * (fp_pw z (NV sP2)))) := by rw [kk6 yy (by omega) (by omega)]; exact myy_5
  have R_6 : isR φ nP 99 τ6 := R_5.kp (fun j h1 h2 => kk6 j (by omega) (by omega))
  have pxx_6 : PV φ nP (τ6 xx) (x * ((fp_pw z (NV sP2)) * (fp_pw z (NV sP2)))) := q6
  refine lv_aload_n hx hb d_Mdl_flat_97 rfl (lv_at hl 0 rfl) ?_
  refine gm_get hx hb hW hown X u_Mdl m53 rfl 0 (by decide) wf_Mdl_13 (v := .ref (E.2.1 + 99)) rfl d_Mdl_flat_98 ?_
  refine lv_aload_n hx hb d_Mdl_flat_101 rfl (lv_at hl 3 rfl) ?_
  refine lv_aload_n hx hb d_Mdl_flat_102 rfl (lv_at hl 3 rfl) ?_
  refine gm_Vv hx hb hml hown hW X m99 (q_leave l hpP hf hR R_6 hqy hqy (by omega) myy_6) (n := 2) ⟨⟨wl_Mdl_65, wi_Rng_leave, wsel_Rng_leave, winit_Rng, wc_Rng_leave⟩, by decide +kernel, ⟨Nat.le_of_ble_eq_true rfl, Nat.le_of_ble_eq_true rfl⟩, _, rfl, rfl⟩ rfl hl.1 rfl (Nat.le_of_ble_eq_true rfl) d_Mdl_flat_103 ⟨Nat.le_of_ble_eq_true rfl, Nat.le_of_ble_eq_true rfl⟩ (fun M1 H locs hp X => ?_)
  obtain ⟨τ7, rfl, q7, kk7⟩ := hp
  have mt1_7 : MV φ nP (τ7 (t + 1)) x := by rw [kk7 (t + 1) (by omega) (by omega)]; exact mt1_6
  have mt2_7 : MV φ nP (τ7 (t + 2)) y := by rw [kk7 (t + 2) (by omega) (by omega)]; exact mt2_6
  have mt3_7 : MV φ nP (τ7 (t + 3)) z := by rw [kk7 (t + 3) (by omega) (by omega)]; exact mt3_6
  have m71_7 : MV φ nP (τ7 71) (fp_pw z (NV sP2)) := by rw [kk7 71 (by omega) (by omega)]; exact m71_6
  have m72_7 : MV φ nP (τ7 72) (((fp_pw z (NV sP2)) * (fp_pw z (NV sP2))) * (fp_pw z (NV sP2))) := by rw [kk7 72 (by omega) (by omega)]; exact m72_6
  have pxx_7 : PV φ nP (τ7 xx) (x * ((fp_pw z (NV sP2)) * (fp_pw z (NV sP2)))) := by rw [kk7 xx (by omega) (by omega)]; exact pxx_6
  have R_7 : isR φ nP 99 τ7 := R_6.kp (fun j h1 h2 => kk7 j (by omega) (by omega))
  have pyy_7 : PV φ nP (τ7 yy) (y * (((fp_pw z (NV sP2)) * (fp_pw z (NV sP2))) * (fp_pw z (NV sP2)))) := q7
  have hW2 : z * fp_pw z (NV sP2) = 1 := by rw [inv_sP2 hk]; exact hk.1.2.1 z hj.1
  have hfl := jr_fl hk.1 hj hW2
  refine gm_vret hx hb hr2 hlk X ⟨_, rfl, ?_, ?_, fun j a1 a2 a3 a4 => by rw [kk7 j (by omega) (by omega), kk6 j (by omega) (by omega), kk5 j (by omega) (by omega), kk4 j (by omega) (by omega), kk3 j (by omega) (by omega), kk2 j (by omega) (by omega), kk1 j (by omega) (by omega)]⟩ d_Mdl_flat_106
  · rw [← hfl.1]
    exact pxx_7
  · rw [← hfl.2]
    exact pyy_7
