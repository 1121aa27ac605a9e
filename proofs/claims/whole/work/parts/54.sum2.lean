/-! RunningSum: gather, writeTo; Point: written by wip/gen/sum2.py -/
theorem nv_st (f : Nat → Int64) (i : Nat) (hi : i < 256) : NV f / 2 ^ (256 - (i + 1)) = 2 * (NV f / 2 ^ (256 - i)) + uN (f ((255 - i) / 64)) / 2 ^ ((255 - i) % 64) % 2 := by
  have hb := NV_bit f (255 - i) (by omega)
  have hd : NV f / 2 ^ (256 - i) = NV f / 2 ^ (255 - i) / 2 := by rw [show 256 - i = (255 - i) + 1 by omega, Nat.pow_succ, Nat.div_div_eq_div_mul]
  have hs : 256 - (i + 1) = 255 - i := by omega
  rw [← hb, hs, hd]
  omega
theorem nv_a0 {x y b : Nat} (e : x = 2 * y + b) (h : b = 0) : x = 2 * y := by omega
theorem nv_a1 {x y b : Nat} (e : x = 2 * y + b) (h : b = 1) : x = 2 * y + 1 := by omega
theorem nv_st0 {f : Nat → Int64} {i : Nat} (hi : i < 256) (h : uN (f ((255 - i) / 64)) / 2 ^ ((255 - i) % 64) % 2 = 0) : NV f / 2 ^ (256 - (i + 1)) = 2 * (NV f / 2 ^ (256 - i)) := nv_a0 (nv_st f i hi) h
theorem nv_st1 {f : Nat → Int64} {i : Nat} (hi : i < 256) (h : uN (f ((255 - i) / 64)) / 2 ^ ((255 - i) % 64) % 2 = 1) : NV f / 2 ^ (256 - (i + 1)) = 2 * (NV f / 2 ^ (256 - i)) + 1 := nv_a1 (nv_st f i hi) h
/-- two settled rows are alike where their numbers are -/
theorem us_inj {r t : Nat → Int} (h : ∀ j, j < 10 → 0 ≤ r j ∧ r j < 67108864) (h2 : ∀ j, j < 10 → 0 ≤ t j ∧ t j < 67108864) : ∀ k, k ≤ 10 → us r 0 k = us t 0 k → ∀ j, j < k → r j = t j
  | 0, _, _, j, hj => by omega
  | k + 1, hk, e, j, hj => by
    rw [us_s, us_s, Nat.zero_add] at e
    have a1 := us_dig (a := r) (fr := 0) k (fun j hj => by rw [Nat.zero_add]; exact h j (by omega))
    have a2 := us_dig (a := t) (fr := 0) k (fun j hj => by rw [Nat.zero_add]; exact h2 j (by omega))
    have e1 : r k = t k := by
      have b1 : (us r 0 k + r k * tp k) / tp k = r k := by rw [Int.add_mul_ediv_right _ _ (Int.ne_of_gt (tp_pos k)), Int.ediv_eq_zero_of_lt a1.1 a1.2, Int.zero_add]
      have b2 : (us t 0 k + t k * tp k) / tp k = t k := by rw [Int.add_mul_ediv_right _ _ (Int.ne_of_gt (tp_pos k)), Int.ediv_eq_zero_of_lt a2.1 a2.2, Int.zero_add]
      rw [← b1, ← b2, e]
    rcases Nat.lt_or_ge j k with q | q
    · rw [e1] at e
      exact us_inj h h2 k (by omega) (by omega) j q
    · obtain rfl : j = k := by omega
      exact e1
theorem us_cg {r t : Nat → Int} (h : ∀ j, j < 10 → r j = t j) : ∀ k, k ≤ 10 → us r 0 k = us t 0 k
  | 0, _ => rfl
  | k + 1, hk => by rw [us_s, us_s, us_cg h k (by omega), Nat.zero_add, h k (by omega)]
theorem of_inj {x y : Int} (h : 0 ≤ x ∧ x < 67108864) (h2 : 0 ≤ y ∧ y < 67108864) (e : Int64.ofInt x = Int64.ofInt y) : x = y := by
  have h1 := congrArg Int64.toInt e
  rw [Int64.toInt_ofInt_of_le (by omega) (by omega), Int64.toInt_ofInt_of_le (by omega) (by omega)] at h1
  exact h1
theorem ST.inj {F : Type} [Lean.Grind.CommRing F] {φ : Int → F} {m : Int} (h : fm φ m) {g g' : Nat → Int64} {v v' : F} (hs : ST φ m g v) (hs' : ST φ m g' v') : (∀ j, j < 10 → g j = g' j) ↔ v = v' := by
  obtain ⟨r, rfl, h2, rfl⟩ := hs
  obtain ⟨t, rfl, h3, rfl⟩ := hs'
  have hd := st_dg h2
  have hd2 := st_dg h3
  constructor
  · intro e
    rw [us_cg (fun j hj => of_inj (hd j hj) (hd2 j hj) (e j hj)) 10 (Nat.le_refl _)]
  · intro e j hj
    have e1 := (h.2 _ _).mp e
    rw [Int.emod_eq_of_lt (us_nn (fun j hj => (hd j hj).1) 10 (Nat.le_refl _)) h2.2.2, Int.emod_eq_of_lt (us_nn (fun j hj => (hd2 j hj).1) 10 (Nat.le_refl _)) h3.2.2] at e1
    show Int64.ofInt (r j) = Int64.ofInt (t j)
    rw [us_inj hd hd2 10 (Nat.le_refl _) e1 j hj]
theorem inv_sP2 {F : Type} [Lean.Grind.CommRing F] {φ : Int → F} {inv : F → F} (h : fk φ inv) (a : F) : fp_pw a (NV sP2) = inv a := by
  obtain ⟨-, -, n, h1, h2⟩ := h
  rw [h2, show NV sP2 = n by rw [sP2_v]; have : nP = 115792089237316195423570985008687907853269984665640564039457584007908834671663 := by decide +kernel
                             omega]
theorem sumR.nm {F : Type} [Lean.Grind.CommRing F] {φ : Int → F} {inv : F → F} {ρ : Nat → Nat → Int64} {fl : Nat → Int32} {a b : Option (F × F)} {A A' B B' : Nat} (h : sumR φ ρ fl (ec_add inv (ec_nm inv A a) (ec_nm inv B b))) (e1 : A' = A) (e2 : B' = B) : sumR φ ρ fl (ec_add inv (ec_nm inv A' a) (ec_nm inv B' b)) := by
  subst e1 e2
  exact h
set_option maxHeartbeats 2000000 in
theorem lp_Sum_gather {p : Program} {l : Launch} {e : Env} {s : State} {m : MethodId} {args : Array Value} {below : List Frame} {meth : Method} {c : Code} {Q : State → Prop} {F : Type} [Lean.Grind.CommRing F] {φ : Int → F} {inv : F → F} {E : gm_E} {ad : Nat → Nat} {N : gm_M} {ρ : Nat → Nat → Int64} {fl : Nat → Int32} (hx : p.tables.exec = Jvm.exec) (hb : c.code = b_Sum_gather) (hml : c.maxLocals = 6) (hown : s.vm.findClass R_Sum = some m.cls) (hW : ∀ w ∈ WB, w.before args s = true) (hg : gE E ad) (hk : fk φ inv) {xn xm ta tb : Nat} {f g : Nat → Int64} {a b : Option (F × F)} (hPa : isP ta) (hPb : isP tb) (ha : ptR φ ρ fl ta a) (hq : ptR φ ρ fl tb b) (hn : rdK E ρ xn f) (hm : rdK E ρ xm g)
    (kk : ∀ (H : Heap) (locs : List Loc) (ls : Array Slot) ρ' fl', gx E (cW E ad N ρ' fl') s H locs → kS ρ ρ' → kF 24 fl fl' → sumR φ ρ' fl' (ec_add inv (ec_nm inv (NV f) a) (ec_nm inv (NV g) b)) → W p l e { frames := 5, cells := 0, slots := 0, locals := 126 } s m args below meth c H locs 0 0 Q (F0 m 53 ls [])) :
    ∀ (k i : Nat), i + k = 256 → ∀ (H : Heap) (locs : List Loc) (ls : Array Slot) ρ' fl', gx E (cW E ad N ρ' fl') s H locs → kS ρ ρ' → kF 24 fl fl' → sumR φ ρ' fl' (ec_add inv (ec_nm inv (NV f / 2 ^ (256 - i)) a) (ec_nm inv (NV g / 2 ^ (256 - i)) b)) → lv_has ls 6 [(5, .int (nI (256 - i) - 1)), (0, .ref (E.2.1 + 24)), (1, .ref xn), (2, .ref (E.2.1 + ta)), (3, .ref xm), (4, .ref (E.2.1 + tb))] → W p l e { frames := 5, cells := 0, slots := 0, locals := 126 } s m args below meth c H locs 0 0 Q (F0 m 9 ls []) := by
  intro k
  induction k with
  | zero =>
    intro i hi H locs ls ρ' fl' X k1 k2 hs hl
    refine lv_iload hx hb d_Sum_gather_9 (lv_at hl 0 rfl) ?_
    refine lv_if_lt (tgt := 53) hx hb d_Sum_gather_11 (by decide) (fun c11 => ?_) (fun c11 => ?_)
    · obtain rfl : i = 256 := by omega
      exact kk H locs ls ρ' fl' X k1 k2 (by rw [Nat.sub_self, Nat.pow_zero, Nat.div_one, Nat.div_one] at hs; exact hs)
    · obtain rfl : i = 256 := by omega
      exact absurd (by decide) c11
  | succ k ih =>
    intro i hi H locs ls ρ' fl' X k1 k2 hs hl
    refine lv_iload hx hb d_Sum_gather_9 (lv_at hl 0 rfl) ?_
    refine lv_if_lt (tgt := 53) hx hb d_Sum_gather_11 (by decide) (fun c11 => ?_) (fun c11 => ?_)
    · have q : nI (256 - i) - 1 = nI (255 - i) := by rw [show 256 - i = (255 - i) + 1 by omega]; exact nI_pred _
      rw [q] at c11
      exact absurd c11 (nI_pos (by omega))
    · have q : nI (256 - i) - 1 = nI (255 - i) := by rw [show 256 - i = (255 - i) + 1 by omega]; exact nI_pred _
      rw [q] at hl
      have hi2 : i < 256 := by omega
      refine lv_aload_n hx hb d_Sum_gather_14 rfl (lv_at hl 1 rfl) ?_
      refine gm_Vv hx hb hml hown hW X o24 (k_Sum_twice l E ad N ρ' fl' hg hk hs) (n := 0) ⟨⟨wl_Sum_47, wi_Sum_twice, wsel_Sum_twice, winit_Sum, wc_Sum_twice⟩, by decide +kernel, ⟨Nat.le_of_ble_eq_true rfl, Nat.le_of_ble_eq_true rfl⟩, _, rfl, rfl⟩ rfl hl.1 rfl (Nat.le_of_ble_eq_true rfl) d_Sum_gather_15 ⟨Nat.le_of_ble_eq_true rfl, Nat.le_of_ble_eq_true rfl⟩ (fun M1 H locs hp X => ?_)
      obtain ⟨ρ1, rfl, hs, o1⟩ := hp
      rw [ec_sh2 hk.1 ha.ok hq.ok] at hs
      have k1 := k1.tr o1
      refine lv_aload_n hx hb d_Sum_gather_18 rfl (lv_at hl 2 rfl) ?_
      refine lv_iload hx hb d_Sum_gather_19 (lv_at hl 0 rfl) ?_
      refine gm_Si hx hb hml hown hW X (c_Par_haveBit l E _ (k := 255 - i) (hn.kS k1).rd (by omega)) (n := 2) ⟨⟨wl_Sum_50, ws_Par_haveBit, winit_Par, wc_Par_haveBit⟩, by decide +kernel, Nat.le_of_ble_eq_true rfl, Nat.le_of_ble_eq_true rfl⟩ rfl hl.1 rfl (Nat.le_of_ble_eq_true rfl) d_Sum_gather_21 ⟨Nat.le_of_ble_eq_true rfl, Nat.le_of_ble_eq_true rfl⟩ (fun r M1 H locs hp X => ?_)
      rw [hp.1] at X
      have hp := hp.2
      refine lv_if_eq (tgt := 32) hx hb d_Sum_gather_24 (by decide) (fun c24 => ?_) (fun c24 => ?_)
      · have hz : uN (f ((255 - i) / 64)) / 2 ^ ((255 - i) % 64) % 2 = 0 := by rcases hp with h | h; exact h.2; rw [h.1] at c24; exact absurd c24 (by decide)
        have ef := nv_st0 hi2 hz
        refine lv_aload_n hx hb d_Sum_gather_32 rfl (lv_at hl 4 rfl) ?_
        refine lv_iload hx hb d_Sum_gather_33 (lv_at hl 0 rfl) ?_
        refine gm_Si hx hb hml hown hW X (c_Par_haveBit l E _ (k := 255 - i) (hm.kS k1).rd (by omega)) (n := 2) ⟨⟨wl_Sum_50, ws_Par_haveBit, winit_Par, wc_Par_haveBit⟩, by decide +kernel, Nat.le_of_ble_eq_true rfl, Nat.le_of_ble_eq_true rfl⟩ rfl hl.1 rfl (Nat.le_of_ble_eq_true rfl) d_Sum_gather_35 ⟨Nat.le_of_ble_eq_true rfl, Nat.le_of_ble_eq_true rfl⟩ (fun r M1 H locs hp X => ?_)
        rw [hp.1] at X
        have hp := hp.2
        refine lv_if_eq (tgt := 47) hx hb d_Sum_gather_38 (by decide) (fun c38 => ?_) (fun c38 => ?_)
        · have hz : uN (g ((255 - i) / 64)) / 2 ^ ((255 - i) % 64) % 2 = 0 := by rcases hp with h | h; exact h.2; rw [h.1] at c38; exact absurd c38 (by decide)
          have eg := nv_st0 hi2 hz
          refine lv_iinc (v := (nI (256 - (i + 1)) - 1)) (lv' := [(5, .int (nI (256 - (i + 1)) - 1)), (0, .ref (E.2.1 + 24)), (1, .ref xn), (2, .ref (E.2.1 + ta)), (3, .ref xm), (4, .ref (E.2.1 + tb))]) hx hb d_Sum_gather_47 hl (k := 0) rfl (by rw [show 255 - i = 256 - (i + 1) by omega]; exact i_m1 _) (by decide) rfl (fun ls hl => ?_)
          refine lv_goto (tgt := 9) hx hb d_Sum_gather_50 (by decide) ?_
          exact ih (i + 1) (by omega) H locs ls _ _ X k1 k2 (hs.nm ef eg) hl
        · have hz : uN (g ((255 - i) / 64)) / 2 ^ ((255 - i) % 64) % 2 = 1 := by rcases hp with h | h; exact absurd h.1 c38; exact h.2
          have eg := nv_st1 hi2 hz
          refine lv_aload_n hx hb d_Sum_gather_41 rfl (lv_at hl 1 rfl) ?_
          refine lv_aload hx hb d_Sum_gather_42 (lv_at hl 5 rfl) ?_
          refine gm_Vv hx hb hml hown hW X o24 (k_Sum_join l E ad N _ _ hg hk hPb hs (hq.kS hPb k1 k2)) (n := 1) ⟨⟨wl_Sum_56, wi_Sum_join, wsel_Sum_join, winit_Sum, wc_Sum_join⟩, by decide +kernel, ⟨Nat.le_of_ble_eq_true rfl, Nat.le_of_ble_eq_true rfl⟩, _, rfl, rfl⟩ rfl hl.1 rfl (Nat.le_of_ble_eq_true rfl) d_Sum_gather_44 ⟨Nat.le_of_ble_eq_true rfl, Nat.le_of_ble_eq_true rfl⟩ (fun M1 H locs hp X => ?_)
          obtain ⟨ρ3, fl3, rfl, hs, o3, f3⟩ := hp
          rw [ec_shq hk.1 ha.ok hq.ok] at hs
          have k1 := k1.tr o3
          have k2 := k2.tr f3
          refine lv_iinc (v := (nI (256 - (i + 1)) - 1)) (lv' := [(5, .int (nI (256 - (i + 1)) - 1)), (0, .ref (E.2.1 + 24)), (1, .ref xn), (2, .ref (E.2.1 + ta)), (3, .ref xm), (4, .ref (E.2.1 + tb))]) hx hb d_Sum_gather_47 hl (k := 0) rfl (by rw [show 255 - i = 256 - (i + 1) by omega]; exact i_m1 _) (by decide) rfl (fun ls hl => ?_)
          refine lv_goto (tgt := 9) hx hb d_Sum_gather_50 (by decide) ?_
          exact ih (i + 1) (by omega) H locs ls _ _ X k1 k2 (hs.nm ef eg) hl
      · have hz : uN (f ((255 - i) / 64)) / 2 ^ ((255 - i) % 64) % 2 = 1 := by rcases hp with h | h; exact absurd h.1 c24; exact h.2
        have ef := nv_st1 hi2 hz
        refine lv_aload_n hx hb d_Sum_gather_27 rfl (lv_at hl 1 rfl) ?_
        refine lv_aload_n hx hb d_Sum_gather_28 rfl (lv_at hl 3 rfl) ?_
        refine gm_Vv hx hb hml hown hW X o24 (k_Sum_join l E ad N _ _ hg hk hPa hs (ha.kS hPa k1 k2)) (n := 1) ⟨⟨wl_Sum_56, wi_Sum_join, wsel_Sum_join, winit_Sum, wc_Sum_join⟩, by decide +kernel, ⟨Nat.le_of_ble_eq_true rfl, Nat.le_of_ble_eq_true rfl⟩, _, rfl, rfl⟩ rfl hl.1 rfl (Nat.le_of_ble_eq_true rfl) d_Sum_gather_29 ⟨Nat.le_of_ble_eq_true rfl, Nat.le_of_ble_eq_true rfl⟩ (fun M1 H locs hp X => ?_)
        obtain ⟨ρ2, fl2, rfl, hs, o2, f2⟩ := hp
        rw [ec_shp hk.1 ha.ok hq.ok] at hs
        have k1 := k1.tr o2
        have k2 := k2.tr f2
        refine lv_aload_n hx hb d_Sum_gather_32 rfl (lv_at hl 4 rfl) ?_
        refine lv_iload hx hb d_Sum_gather_33 (lv_at hl 0 rfl) ?_
        refine gm_Si hx hb hml hown hW X (c_Par_haveBit l E _ (k := 255 - i) (hm.kS k1).rd (by omega)) (n := 2) ⟨⟨wl_Sum_50, ws_Par_haveBit, winit_Par, wc_Par_haveBit⟩, by decide +kernel, Nat.le_of_ble_eq_true rfl, Nat.le_of_ble_eq_true rfl⟩ rfl hl.1 rfl (Nat.le_of_ble_eq_true rfl) d_Sum_gather_35 ⟨Nat.le_of_ble_eq_true rfl, Nat.le_of_ble_eq_true rfl⟩ (fun r M1 H locs hp X => ?_)
        rw [hp.1] at X
        have hp := hp.2
        refine lv_if_eq (tgt := 47) hx hb d_Sum_gather_38 (by decide) (fun c38 => ?_) (fun c38 => ?_)
        · have hz : uN (g ((255 - i) / 64)) / 2 ^ ((255 - i) % 64) % 2 = 0 := by rcases hp with h | h; exact h.2; rw [h.1] at c38; exact absurd c38 (by decide)
          have eg := nv_st0 hi2 hz
          refine lv_iinc (v := (nI (256 - (i + 1)) - 1)) (lv' := [(5, .int (nI (256 - (i + 1)) - 1)), (0, .ref (E.2.1 + 24)), (1, .ref xn), (2, .ref (E.2.1 + ta)), (3, .ref xm), (4, .ref (E.2.1 + tb))]) hx hb d_Sum_gather_47 hl (k := 0) rfl (by rw [show 255 - i = 256 - (i + 1) by omega]; exact i_m1 _) (by decide) rfl (fun ls hl => ?_)
          refine lv_goto (tgt := 9) hx hb d_Sum_gather_50 (by decide) ?_
          exact ih (i + 1) (by omega) H locs ls _ _ X k1 k2 (hs.nm ef eg) hl
        · have hz : uN (g ((255 - i) / 64)) / 2 ^ ((255 - i) % 64) % 2 = 1 := by rcases hp with h | h; exact absurd h.1 c38; exact h.2
          have eg := nv_st1 hi2 hz
          refine lv_aload_n hx hb d_Sum_gather_41 rfl (lv_at hl 1 rfl) ?_
          refine lv_aload hx hb d_Sum_gather_42 (lv_at hl 5 rfl) ?_
          refine gm_Vv hx hb hml hown hW X o24 (k_Sum_join l E ad N _ _ hg hk hPb hs (hq.kS hPb k1 k2)) (n := 1) ⟨⟨wl_Sum_56, wi_Sum_join, wsel_Sum_join, winit_Sum, wc_Sum_join⟩, by decide +kernel, ⟨Nat.le_of_ble_eq_true rfl, Nat.le_of_ble_eq_true rfl⟩, _, rfl, rfl⟩ rfl hl.1 rfl (Nat.le_of_ble_eq_true rfl) d_Sum_gather_44 ⟨Nat.le_of_ble_eq_true rfl, Nat.le_of_ble_eq_true rfl⟩ (fun M1 H locs hp X => ?_)
          obtain ⟨ρ3, fl3, rfl, hs, o3, f3⟩ := hp
          rw [ec_shq hk.1 ha.ok hq.ok] at hs
          have k1 := k1.tr o3
          have k2 := k2.tr f3
          refine lv_iinc (v := (nI (256 - (i + 1)) - 1)) (lv' := [(5, .int (nI (256 - (i + 1)) - 1)), (0, .ref (E.2.1 + 24)), (1, .ref xn), (2, .ref (E.2.1 + ta)), (3, .ref xm), (4, .ref (E.2.1 + tb))]) hx hb d_Sum_gather_47 hl (k := 0) rfl (by rw [show 255 - i = 256 - (i + 1) by omega]; exact i_m1 _) (by decide) rfl (fun ls hl => ?_)
          refine lv_goto (tgt := 9) hx hb d_Sum_gather_50 (by decide) ?_
          exact ih (i + 1) (by omega) H locs ls _ _ X k1 k2 (hs.nm ef eg) hl
set_option maxHeartbeats 2000000 in
theorem k_Sum_gather {F : Type} [Lean.Grind.CommRing F] {φ : Int → F} {inv : F → F} (l : Launch) (E : gm_E) (ad : Nat → Nat) (N : gm_M) (ρ : Nat → Nat → Int64) (fl : Nat → Int32) (hg : gE E ad) (hk : fk φ inv) {xn xm ta tb : Nat} {f g : Nat → Int64} {a b : Option (F × F)} (hPa : isP ta) (hPb : isP tb) (ha : ptR φ ρ fl ta a) (hq : ptR φ ρ fl tb b) (hn : rdK E ρ xn f) (hm : rdK E ρ xm g) : cv_ l y_Sum_gather b_Sum_gather 6 none { frames := 5, cells := 0, slots := 0, locals := 126 } E (cW E ad N ρ fl) [.ref (E.2.1 + 24), .ref xn, .ref (E.2.1 + ta), .ref xm, .ref (E.2.1 + tb)] (fun M' => ∃ ρ' fl', M' = cW E ad N ρ' fl' ∧ sumR φ ρ' fl' (ec_add inv (ec_nm inv (NV f) a) (ec_nm inv (NV g) b)) ∧ kS ρ ρ' ∧ kF 24 fl fl') := by
  have hf := hk.fm
  have I := isM_P hg
  refine gm_met (by decide) (Nat.le_of_ble_eq_true rfl) (fun p e s m below meth c ls hx hb hml hr hlk hnm hown hW X hl => ?_)
  have hl : lv_has ls 6 [(0, .ref (E.2.1 + 24)), (1, .ref xn), (2, .ref (E.2.1 + ta)), (3, .ref xm), (4, .ref (E.2.1 + tb))] := hl
  refine lv_aload_n hx hb d_Sum_gather_0 rfl (lv_at hl 0 rfl) ?_
  refine gm_Vv hx hb hml hown hW X o24 (k_Sum_clear l E ad N ρ fl hg hk) (n := 0) ⟨⟨wl_Sum_44, wi_Sum_clear, wsel_Sum_clear, winit_Sum, wc_Sum_clear⟩, by decide +kernel, ⟨Nat.le_of_ble_eq_true rfl, Nat.le_of_ble_eq_true rfl⟩, _, rfl, rfl⟩ rfl hl.1 rfl (Nat.le_of_ble_eq_true rfl) d_Sum_gather_1 ⟨Nat.le_of_ble_eq_true rfl, Nat.le_of_ble_eq_true rfl⟩ (fun M1 H locs hp X => ?_)
  obtain ⟨fl1, rfl, h1, f1⟩ := hp
  refine lv_sipush (v := 255) hx hb d_Sum_gather_4 (by decide) ?_
  refine lv_istore (lv' := [(5, .int 255), (0, .ref (E.2.1 + 24)), (1, .ref xn), (2, .ref (E.2.1 + ta)), (3, .ref xm), (4, .ref (E.2.1 + tb))]) hx hb d_Sum_gather_7 hl (by decide) rfl (fun ls hl => ?_)
  refine lp_Sum_gather hx hb hml hown hW hg hk hPa hPb ha hq hn hm (fun H locs ls ρ' fl' X k1 k2 hs => ?_) 256 0 rfl H locs ls ρ fl1 X (kS.rf _) f1 (by rw [Nat.div_eq_of_lt (NV_lt f), Nat.div_eq_of_lt (NV_lt g)]; exact h1) hl
  exact gm_vret hx hb hr hlk X ⟨_, _, rfl, hs, k1, k2⟩ d_Sum_gather_53
set_option maxHeartbeats 2000000 in
theorem k_Sum_writeTo {F : Type} [Lean.Grind.CommRing F] {φ : Int → F} {inv : F → F} (l : Launch) (E : gm_E) (ad : Nat → Nat) (N : gm_M) (ρ : Nat → Nat → Int64) (fl : Nat → Int32) (hg : gE E ad) (hk : fk φ inv) {q : Option (F × F)} {t : Nat} (hP : isP t) (hs : sumR φ ρ fl q) : cv_ l y_Sum_writeTo b_Sum_writeTo 2 none { frames := 5, cells := 0, slots := 0, locals := 131 } E (cW E ad N ρ fl) [.ref (E.2.1 + 24), .ref (E.2.1 + t)] (fun M' => ∃ ρ' fl', M' = cW E ad N ρ' fl' ∧ ptR φ ρ' fl' t q ∧ (∀ j, ¬ (12 ≤ j ∧ j ≤ 15 ∨ 25 ≤ j ∧ j ≤ 32) → j ≠ t + 1 → j ≠ t + 2 → ρ' j = ρ j) ∧ kF t fl fl') := by
  have hO := hP.o
  cases q with
  | none =>
    have hf := hk.fm
    have I := isM_P hg
    refine gm_met (by decide) (Nat.le_of_ble_eq_true rfl) (fun p e s m below meth c ls hx hb hml hr hlk hnm hown hW X hl => ?_)
    have hl : lv_has ls 2 [(0, .ref (E.2.1 + 24)), (1, .ref (E.2.1 + t))] := hl
    have h0 : fl 24 = 1 := hs
    refine lv_aload_n hx hb d_Sum_writeTo_0 rfl (lv_at hl 1 rfl) ?_
    refine lv_aload_n hx hb d_Sum_writeTo_1 rfl (lv_at hl 0 rfl) ?_
    refine gm_get hx hb hW hown X u_Sum o24 rfl 1 (by decide) wf_Sum_9 (v := .int (fl 24)) rfl d_Sum_writeTo_2 ?_
    refine gm_put hx hb hW hown X u_Pnt t_Pnt t_Pnt_ok n_Pnt (oP hP) (cw_ge _) rfl 2 (by decide) wf_Sum_60 rfl (ty := .boolean) (v := .int (fl 24)) (by decide) (by rw [h0]; rfl) (by rw [h0]; rfl) (Nat.le_of_ble_eq_true rfl) d_Sum_writeTo_5 (fun H locs X => ?_)
    have X : gx E (cW E ad N ρ (va_up fl t (fl 24))) s H locs := by rw [← cw_fP (fl 24) hP]; exact X
    obtain ⟨fl1, hfl1⟩ : ∃ x, x = va_up fl t (fl 24) := ⟨_, rfl⟩
    rw [← hfl1] at X
    refine lv_aload_n hx hb d_Sum_writeTo_8 rfl (lv_at hl 0 rfl) ?_
    refine gm_get hx hb hW hown X u_Sum o24 rfl 1 (by decide) wf_Sum_9 (v := .int (fl1 24)) rfl d_Sum_writeTo_9 ?_
    have h1 : fl1 24 = 1 := by rw [hfl1, vu_n (by omega)]; exact h0
    refine lv_if_eq (tgt := 16) hx hb d_Sum_writeTo_12 (by decide) (fun c9 => absurd (h1.symm.trans c9) (by decide)) (fun _ => ?_)
    exact gm_vret hx hb hr hlk X ⟨ρ, _, rfl, (by show fl1 t = 1; rw [hfl1, vu_s]; exact h0), fun j hj ha hb => rfl, fun j hj => by rw [hfl1, vu_n hj]⟩ d_Sum_writeTo_15
  | some a =>
    have hf := hk.fm
    have I := isM_P hg
    refine gm_met (by decide) (Nat.le_of_ble_eq_true rfl) (fun p e s m below meth c ls hx hb hml hr hlk hnm hown hW X hl => ?_)
    have hl : lv_has ls 2 [(0, .ref (E.2.1 + 24)), (1, .ref (E.2.1 + t))] := hl
    obtain ⟨h0, ho, x, y, z, hX, hY, hZ, hj⟩ := hs
    refine lv_aload_n hx hb d_Sum_writeTo_0 rfl (lv_at hl 1 rfl) ?_
    refine lv_aload_n hx hb d_Sum_writeTo_1 rfl (lv_at hl 0 rfl) ?_
    refine gm_get hx hb hW hown X u_Sum o24 rfl 1 (by decide) wf_Sum_9 (v := .int (fl 24)) rfl d_Sum_writeTo_2 ?_
    refine gm_put hx hb hW hown X u_Pnt t_Pnt t_Pnt_ok n_Pnt (oP hP) (cw_ge _) rfl 2 (by decide) wf_Sum_60 rfl (ty := .boolean) (v := .int (fl 24)) (by decide) (by rw [h0]; rfl) (by rw [h0]; rfl) (Nat.le_of_ble_eq_true rfl) d_Sum_writeTo_5 (fun H locs X => ?_)
    have X : gx E (cW E ad N ρ (va_up fl t (fl 24))) s H locs := by rw [← cw_fP (fl 24) hP]; exact X
    obtain ⟨fl1, hfl1⟩ : ∃ x, x = va_up fl t (fl 24) := ⟨_, rfl⟩
    rw [← hfl1] at X
    refine lv_aload_n hx hb d_Sum_writeTo_8 rfl (lv_at hl 0 rfl) ?_
    refine gm_get hx hb hW hown X u_Sum o24 rfl 1 (by decide) wf_Sum_9 (v := .int (fl1 24)) rfl d_Sum_writeTo_9 ?_
    have h1 : fl1 24 = 0 := by rw [hfl1, vu_n (by omega)]; exact h0
    refine lv_if_eq (tgt := 16) hx hb d_Sum_writeTo_12 (by decide) (fun _ => ?_) (fun c9 => absurd h1 c9)
    refine lv_aload_n hx hb d_Sum_writeTo_16 rfl (lv_at hl 0 rfl) ?_
    refine gm_get hx hb hW hown X u_Sum o24 rfl 0 (by decide) wf_Sum_40 (v := .ref (E.2.1 + 11)) rfl d_Sum_writeTo_17 ?_
    refine lv_aload_n hx hb d_Sum_writeTo_20 rfl (lv_at hl 0 rfl) ?_
    refine gm_get hx hb hW hown X u_Sum o24 rfl 8 (by decide) wf_Sum_34 (v := .ref (E.2.1 + 31)) rfl d_Sum_writeTo_21 ?_
    refine lv_aload_n hx hb d_Sum_writeTo_24 rfl (lv_at hl 0 rfl) ?_
    refine gm_get hx hb hW hown X u_Sum o24 rfl 4 (by decide) wf_Sum_22 (v := .ref (E.2.1 + 27)) rfl d_Sum_writeTo_25 ?_
    refine gm_Vv hx hb hml hown hW X o11 (k_invert l I hf (by decide) (by omega) (by decide) hZ (by decide)) (n := 2) ⟨⟨wl_Sum_108, wi_Mod_invert, wsel_Mod_invert, winit_Mod, wc_Mod_invert⟩, by decide +kernel, ⟨Nat.le_of_ble_eq_true rfl, Nat.le_of_ble_eq_true rfl⟩, _, rfl, rfl⟩ rfl hl.1 rfl (Nat.le_of_ble_eq_true rfl) d_Sum_writeTo_28 ⟨Nat.le_of_ble_eq_true rfl, Nat.le_of_ble_eq_true rfl⟩ (fun M1 H locs hp X => ?_)
    obtain ⟨ρ2, rfl, q2, kk2⟩ := hp
    have h25_2 : RV φ (ρ2 25) 9 x := by rw [kk2 25 (by omega) (by omega)]; exact hX
    have h26_2 : RV φ (ρ2 26) 9 y := by rw [kk2 26 (by omega) (by omega)]; exact hY
    have h27_2 : RV φ (ρ2 27) 2 z := by rw [kk2 27 (by omega) (by omega)]; exact hZ
    have h31_2 : RV φ (ρ2 31) 1 (fp_pw z (NV sP2)) := q2
    refine lv_aload_n hx hb d_Sum_writeTo_31 rfl (lv_at hl 0 rfl) ?_
    refine gm_get hx hb hW hown X u_Sum o24 rfl 0 (by decide) wf_Sum_40 (v := .ref (E.2.1 + 11)) rfl d_Sum_writeTo_32 ?_
    refine lv_aload_n hx hb d_Sum_writeTo_35 rfl (lv_at hl 0 rfl) ?_
    refine gm_get hx hb hW hown X u_Sum o24 rfl 7 (by decide) wf_Sum_31 (v := .ref (E.2.1 + 30)) rfl d_Sum_writeTo_36 ?_
    refine lv_aload_n hx hb d_Sum_writeTo_39 rfl (lv_at hl 0 rfl) ?_
    refine gm_get hx hb hW hown X u_Sum o24 rfl 8 (by decide) wf_Sum_34 (v := .ref (E.2.1 + 31)) rfl d_Sum_writeTo_40 ?_
    refine lv_aload_n hx hb d_Sum_writeTo_43 rfl (lv_at hl 0 rfl) ?_
    refine gm_get hx hb hW hown X u_Sum o24 rfl 8 (by decide) wf_Sum_34 (v := .ref (E.2.1 + 31)) rfl d_Sum_writeTo_44 ?_
    refine gm_Vv hx hb hml hown hW X o11 (k_mul l I hf (by decide) (by decide) (by decide) h31_2 h31_2 (by decide)) (n := 3) ⟨⟨wl_Sum_66, wi_Mod_multiply, wsel_Mod_multiply, winit_Mod, wc_Mod_multiply⟩, by decide +kernel, ⟨Nat.le_of_ble_eq_true rfl, Nat.le_of_ble_eq_true rfl⟩, _, rfl, rfl⟩ rfl hl.1 rfl (Nat.le_of_ble_eq_true rfl) d_Sum_writeTo_47 ⟨Nat.le_of_ble_eq_true rfl, Nat.le_of_ble_eq_true rfl⟩ (fun M1 H locs hp X => ?_)
    obtain ⟨ρ3, rfl, q3, kk3⟩ := hp
    have h25_3 : RV φ (ρ3 25) 9 x := by rw [kk3 25 (by omega) (by omega)]; exact h25_2
    have h26_3 : RV φ (ρ3 26) 9 y := by rw [kk3 26 (by omega) (by omega)]; exact h26_2
    have h27_3 : RV φ (ρ3 27) 2 z := by rw [kk3 27 (by omega) (by omega)]; exact h27_2
    have h31_3 : RV φ (ρ3 31) 1 (fp_pw z (NV sP2)) := by rw [kk3 31 (by omega) (by omega)]; exact h31_2
    have h30_3 : RV φ (ρ3 30) 1 ((fp_pw z (NV sP2)) * (fp_pw z (NV sP2))) := q3
    refine lv_aload_n hx hb d_Sum_writeTo_50 rfl (lv_at hl 0 rfl) ?_
    refine gm_get hx hb hW hown X u_Sum o24 rfl 0 (by decide) wf_Sum_40 (v := .ref (E.2.1 + 11)) rfl d_Sum_writeTo_51 ?_
    refine lv_aload_n hx hb d_Sum_writeTo_54 rfl (lv_at hl 0 rfl) ?_
    refine gm_get hx hb hW hown X u_Sum o24 rfl 8 (by decide) wf_Sum_34 (v := .ref (E.2.1 + 31)) rfl d_Sum_writeTo_55 ?_
    refine lv_aload_n hx hb d_Sum_writeTo_58 rfl (lv_at hl 0 rfl) ?_
    refine gm_get hx hb hW hown X u_Sum o24 rfl 8 (by decide) wf_Sum_34 (v := .ref (E.2.1 + 31)) rfl d_Sum_writeTo_59 ?_
    refine lv_aload_n hx hb d_Sum_writeTo_62 rfl (lv_at hl 0 rfl) ?_
    refine gm_get hx hb hW hown X u_Sum o24 rfl 7 (by decide) wf_Sum_31 (v := .ref (E.2.1 + 30)) rfl d_Sum_writeTo_63 ?_
    refine gm_Vv hx hb hml hown hW X o11 (k_mul l I hf (by decide) (by decide) (by decide) h31_3 h30_3 (by decide)) (n := 3) ⟨⟨wl_Sum_66, wi_Mod_multiply, wsel_Mod_multiply, winit_Mod, wc_Mod_multiply⟩, by decide +kernel, ⟨Nat.le_of_ble_eq_true rfl, Nat.le_of_ble_eq_true rfl⟩, _, rfl, rfl⟩ rfl hl.1 rfl (Nat.le_of_ble_eq_true rfl) d_Sum_writeTo_66 ⟨Nat.le_of_ble_eq_true rfl, Nat.le_of_ble_eq_true rfl⟩ (fun M1 H locs hp X => ?_)
    obtain ⟨ρ4, rfl, q4, kk4⟩ := hp
    have h25_4 : RV φ (ρ4 25) 9 x := by rw [kk4 25 (by omega) (by omega)]; exact h25_3
    have h26_4 : RV φ (ρ4 26) 9 y := by rw [kk4 26 (by omega) (by omega)]; exact h26_3
    have h27_4 : RV φ (ρ4 27) 2 z := by rw [kk4 27 (by omega) (by omega)]; exact h27_3
    have h30_4 : RV φ (ρ4 30) 1 ((fp_pw z (NV sP2)) * (fp_pw z (NV sP2))) := by rw [kk4 30 (by omega) (by omega)]; exact h30_3
    have h31_4 : RV φ (ρ4 31) 1 ((fp_pw z (NV sP2)) * ((fp_pw z (NV sP2)) * (fp_pw z (NV sP2)))) := q4
    refine lv_aload_n hx hb d_Sum_writeTo_69 rfl (lv_at hl 0 rfl) ?_
    refine gm_get hx hb hW hown X u_Sum o24 rfl 0 (by decide) wf_Sum_40 (v := .ref (E.2.1 + 11)) rfl d_Sum_writeTo_70 ?_
    refine lv_aload_n hx hb d_Sum_writeTo_73 rfl (lv_at hl 1 rfl) ?_
    refine gm_get hx hb hW hown X u_Pnt (oP hP) rfl 0 (by decide) wf_Sum_72 (v := .ref (E.2.1 + (t + 1))) rfl d_Sum_writeTo_74 ?_
    refine lv_aload_n hx hb d_Sum_writeTo_77 rfl (lv_at hl 0 rfl) ?_
    refine gm_get hx hb hW hown X u_Sum o24 rfl 2 (by decide) wf_Sum_15 (v := .ref (E.2.1 + 25)) rfl d_Sum_writeTo_78 ?_
    refine lv_aload_n hx hb d_Sum_writeTo_81 rfl (lv_at hl 0 rfl) ?_
    refine gm_get hx hb hW hown X u_Sum o24 rfl 7 (by decide) wf_Sum_31 (v := .ref (E.2.1 + 30)) rfl d_Sum_writeTo_82 ?_
    refine gm_Vv hx hb hml hown hW X o11 (k_mul l I hf (isP.x hP) (by decide) (by decide) h25_4 h30_4 (by decide)) (n := 3) ⟨⟨wl_Sum_66, wi_Mod_multiply, wsel_Mod_multiply, winit_Mod, wc_Mod_multiply⟩, by decide +kernel, ⟨Nat.le_of_ble_eq_true rfl, Nat.le_of_ble_eq_true rfl⟩, _, rfl, rfl⟩ rfl hl.1 rfl (Nat.le_of_ble_eq_true rfl) d_Sum_writeTo_85 ⟨Nat.le_of_ble_eq_true rfl, Nat.le_of_ble_eq_true rfl⟩ (fun M1 H locs hp X => ?_)
    obtain ⟨ρ5, rfl, q5, kk5⟩ := hp
    have h25_5 : RV φ (ρ5 25) 9 x := by rw [kk5 25 (by omega) (by omega)]; exact h25_4
    have h26_5 : RV φ (ρ5 26) 9 y := by rw [kk5 26 (by omega) (by omega)]; exact h26_4
    have h27_5 : RV φ (ρ5 27) 2 z := by rw [kk5 27 (by omega) (by omega)]; exact h27_4
    have h30_5 : RV φ (ρ5 30) 1 ((fp_pw z (NV sP2)) * (fp_pw z (NV sP2))) := by rw [kk5 30 (by omega) (by omega)]; exact h30_4
    have h31_5 : RV φ (ρ5 31) 1 ((fp_pw z (NV sP2)) * ((fp_pw z (NV sP2)) * (fp_pw z (NV sP2)))) := by rw [kk5 31 (by omega) (by omega)]; exact h31_4
    have ht1_5 : RV φ (ρ5 (t + 1)) 1 (x * ((fp_pw z (NV sP2)) * (fp_pw z (NV sP2)))) := q5
    refine lv_aload_n hx hb d_Sum_writeTo_88 rfl (lv_at hl 0 rfl) ?_
    refine gm_get hx hb hW hown X u_Sum o24 rfl 0 (by decide) wf_Sum_40 (v := .ref (E.2.1 + 11)) rfl d_Sum_writeTo_89 ?_
    refine lv_aload_n hx hb d_Sum_writeTo_92 rfl (lv_at hl 1 rfl) ?_
    refine gm_get hx hb hW hown X u_Pnt (oP hP) rfl 1 (by decide) wf_Sum_78 (v := .ref (E.2.1 + (t + 2))) rfl d_Sum_writeTo_93 ?_
    refine lv_aload_n hx hb d_Sum_writeTo_96 rfl (lv_at hl 0 rfl) ?_
    refine gm_get hx hb hW hown X u_Sum o24 rfl 3 (by decide) wf_Sum_19 (v := .ref (E.2.1 + 26)) rfl d_Sum_writeTo_97 ?_
    refine lv_aload_n hx hb d_Sum_writeTo_100 rfl (lv_at hl 0 rfl) ?_
    refine gm_get hx hb hW hown X u_Sum o24 rfl 8 (by decide) wf_Sum_34 (v := .ref (E.2.1 + 31)) rfl d_Sum_writeTo_101 ?_
    refine gm_Vv hx hb hml hown hW X o11 (k_mul l I hf (isP.y hP) (by decide) (by decide) h26_5 h31_5 (by decide)) (n := 3) ⟨⟨wl_Sum_66, wi_Mod_multiply, wsel_Mod_multiply, winit_Mod, wc_Mod_multiply⟩, by decide +kernel, ⟨Nat.le_of_ble_eq_true rfl, Nat.le_of_ble_eq_true rfl⟩, _, rfl, rfl⟩ rfl hl.1 rfl (Nat.le_of_ble_eq_true rfl) d_Sum_writeTo_104 ⟨Nat.le_of_ble_eq_true rfl, Nat.le_of_ble_eq_true rfl⟩ (fun M1 H locs hp X => ?_)
    obtain ⟨ρ6, rfl, q6, kk6⟩ := hp
    have h25_6 : RV φ (ρ6 25) 9 x := by rw [kk6 25 (by omega) (by omega)]; exact h25_5
    have h26_6 : RV φ (ρ6 26) 9 y := by rw [kk6 26 (by omega) (by omega)]; exact h26_5
    have h27_6 : RV φ (ρ6 27) 2 z := by rw [kk6 27 (by omega) (by omega)]; exact h27_5
    have h30_6 : RV φ (ρ6 30) 1 ((fp_pw z (NV sP2)) * (fp_pw z (NV sP2))) := by rw [kk6 30 (by omega) (by omega)]; exact h30_5
    have h31_6 : RV φ (ρ6 31) 1 ((fp_pw z (NV sP2)) * ((fp_pw z (NV sP2)) * (fp_pw z (NV sP2)))) := by rw [kk6 31 (by omega) (by omega)]; exact h31_5
    have ht1_6 : RV φ (ρ6 (t + 1)) 1 (x * ((fp_pw z (NV sP2)) * (fp_pw z (NV sP2)))) := by rw [kk6 (t + 1) (by omega) (by omega)]; exact ht1_5
    have ht2_6 : RV φ (ρ6 (t + 2)) 1 (y * ((fp_pw z (NV sP2)) * ((fp_pw z (NV sP2)) * (fp_pw z (NV sP2))))) := q6
    refine lv_aload_n hx hb d_Sum_writeTo_107 rfl (lv_at hl 0 rfl) ?_
    refine gm_get hx hb hW hown X u_Sum o24 rfl 0 (by decide) wf_Sum_40 (v := .ref (E.2.1 + 11)) rfl d_Sum_writeTo_108 ?_
    refine lv_aload_n hx hb d_Sum_writeTo_111 rfl (lv_at hl 1 rfl) ?_
    refine gm_get hx hb hW hown X u_Pnt (oP hP) rfl 0 (by decide) wf_Sum_72 (v := .ref (E.2.1 + (t + 1))) rfl d_Sum_writeTo_112 ?_
    refine gm_Vv hx hb hml hown hW X o11 (k_settle l I hf (isP.x hP) (by omega) ht1_6 (by decide)) (n := 1) ⟨⟨wl_Sum_111, wi_Mod_settle, wsel_Mod_settle, winit_Mod, wc_Mod_settle⟩, by decide +kernel, ⟨Nat.le_of_ble_eq_true rfl, Nat.le_of_ble_eq_true rfl⟩, _, rfl, rfl⟩ rfl hl.1 rfl (Nat.le_of_ble_eq_true rfl) d_Sum_writeTo_115 ⟨Nat.le_of_ble_eq_true rfl, Nat.le_of_ble_eq_true rfl⟩ (fun M1 H locs hp X => ?_)
    obtain ⟨ρ7, rfl, q7, kk7⟩ := hp
    have h25_7 : RV φ (ρ7 25) 9 x := by rw [kk7 25 (by omega) (by omega)]; exact h25_6
    have h26_7 : RV φ (ρ7 26) 9 y := by rw [kk7 26 (by omega) (by omega)]; exact h26_6
    have h27_7 : RV φ (ρ7 27) 2 z := by rw [kk7 27 (by omega) (by omega)]; exact h27_6
    have h30_7 : RV φ (ρ7 30) 1 ((fp_pw z (NV sP2)) * (fp_pw z (NV sP2))) := by rw [kk7 30 (by omega) (by omega)]; exact h30_6
    have h31_7 : RV φ (ρ7 31) 1 ((fp_pw z (NV sP2)) * ((fp_pw z (NV sP2)) * (fp_pw z (NV sP2)))) := by rw [kk7 31 (by omega) (by omega)]; exact h31_6
    have ht2_7 : RV φ (ρ7 (t + 2)) 1 (y * ((fp_pw z (NV sP2)) * ((fp_pw z (NV sP2)) * (fp_pw z (NV sP2))))) := by rw [kk7 (t + 2) (by omega) (by omega)]; exact ht2_6
    have st1_7 : ST φ nP (ρ7 (t + 1)) (x * ((fp_pw z (NV sP2)) * (fp_pw z (NV sP2)))) := q7
    refine lv_aload_n hx hb d_Sum_writeTo_118 rfl (lv_at hl 0 rfl) ?_
    refine gm_get hx hb hW hown X u_Sum o24 rfl 0 (by decide) wf_Sum_40 (v := .ref (E.2.1 + 11)) rfl d_Sum_writeTo_119 ?_
    refine lv_aload_n hx hb d_Sum_writeTo_122 rfl (lv_at hl 1 rfl) ?_
    refine gm_get hx hb hW hown X u_Pnt (oP hP) rfl 1 (by decide) wf_Sum_78 (v := .ref (E.2.1 + (t + 2))) rfl d_Sum_writeTo_123 ?_
    refine gm_Vv hx hb hml hown hW X o11 (k_settle l I hf (isP.y hP) (by omega) ht2_7 (by decide)) (n := 1) ⟨⟨wl_Sum_111, wi_Mod_settle, wsel_Mod_settle, winit_Mod, wc_Mod_settle⟩, by decide +kernel, ⟨Nat.le_of_ble_eq_true rfl, Nat.le_of_ble_eq_true rfl⟩, _, rfl, rfl⟩ rfl hl.1 rfl (Nat.le_of_ble_eq_true rfl) d_Sum_writeTo_126 ⟨Nat.le_of_ble_eq_true rfl, Nat.le_of_ble_eq_true rfl⟩ (fun M1 H locs hp X => ?_)
    obtain ⟨ρ8, rfl, q8, kk8⟩ := hp
    have h25_8 : RV φ (ρ8 25) 9 x := by rw [kk8 25 (by omega) (by omega)]; exact h25_7
    have h26_8 : RV φ (ρ8 26) 9 y := by rw [kk8 26 (by omega) (by omega)]; exact h26_7
    have h27_8 : RV φ (ρ8 27) 2 z := by rw [kk8 27 (by omega) (by omega)]; exact h27_7
    have h30_8 : RV φ (ρ8 30) 1 ((fp_pw z (NV sP2)) * (fp_pw z (NV sP2))) := by rw [kk8 30 (by omega) (by omega)]; exact h30_7
    have h31_8 : RV φ (ρ8 31) 1 ((fp_pw z (NV sP2)) * ((fp_pw z (NV sP2)) * (fp_pw z (NV sP2)))) := by rw [kk8 31 (by omega) (by omega)]; exact h31_7
    have st1_8 : ST φ nP (ρ8 (t + 1)) (x * ((fp_pw z (NV sP2)) * (fp_pw z (NV sP2)))) := by rw [kk8 (t + 1) (by omega) (by omega)]; exact st1_7
    have st2_8 : ST φ nP (ρ8 (t + 2)) (y * ((fp_pw z (NV sP2)) * ((fp_pw z (NV sP2)) * (fp_pw z (NV sP2))))) := q8
    have hW2 : z * fp_pw z (NV sP2) = 1 := by rw [inv_sP2 hk]; exact hk.1.2.1 z hj.1
    have hfl := jr_fl hk.1 hj hW2
    refine gm_vret hx hb hr hlk X ⟨_, _, rfl, ⟨by rw [hfl1, vu_s]; exact h0, ho, ?_, ?_⟩, fun j hj ha hb => by rw [kk8 j (by omega) (by omega), kk7 j (by omega) (by omega), kk6 j (by omega) (by omega), kk5 j (by omega) (by omega), kk4 j (by omega) (by omega), kk3 j (by omega) (by omega), kk2 j (by omega) (by omega)], fun j hj => by rw [hfl1, vu_n hj]⟩ d_Sum_writeTo_129
    · rw [← hfl.1]
      exact st1_8
    · rw [← hfl.2, show ∀ A B : F, A * (B * B * B) = A * (B * (B * B)) from fun A B => by grind]
      exact st2_8
set_option maxHeartbeats 2000000 in
theorem k_Pnt_copyFrom {F : Type} [Lean.Grind.CommRing F] {φ : Int → F} {inv : F → F} (l : Launch) (E : gm_E) (ad : Nat → Nat) (N : gm_M) (ρ : Nat → Nat → Int64) (fl : Nat → Int32) (hg : gE E ad) (hk : fk φ inv) {q : Option (F × F)} {t u : Nat} (hP : isP t) (hP2 : isP u) (hs : ptR φ ρ fl u q) : cv_ l y_Pnt_copyFrom b_Pnt_copyFrom 2 none { frames := 2, cells := 0, slots := 0, locals := 39 } E (cW E ad N ρ fl) [.ref (E.2.1 + t), .ref (E.2.1 + u)] (fun M' => ∃ ρ' fl', M' = cW E ad N ρ' fl' ∧ ptR φ ρ' fl' t q ∧ (∀ j, j ≠ t + 1 → j ≠ t + 2 → ρ' j = ρ j) ∧ kF t fl fl') := by
  have hO := hP.o
  have hO2 := hP2.o
  have hf := hk.fm
  have I := isM_P hg
  refine gm_met (by decide) (Nat.le_of_ble_eq_true rfl) (fun p e s m below meth c ls hx hb hml hr hlk hnm hown hW X hl => ?_)
  have hl : lv_has ls 2 [(0, .ref (E.2.1 + t)), (1, .ref (E.2.1 + u))] := hl
  refine lv_aload_n hx hb d_Pnt_copyFrom_0 rfl (lv_at hl 0 rfl) ?_
  refine gm_get hx hb hW hown X u_Pnt (oP hP) rfl 0 (by decide) wf_Pnt_9 (v := .ref (E.2.1 + (t + 1))) rfl d_Pnt_copyFrom_1 ?_
  refine lv_aload_n hx hb d_Pnt_copyFrom_4 rfl (lv_at hl 1 rfl) ?_
  refine gm_get hx hb hW hown X u_Pnt (oP hP2) rfl 0 (by decide) wf_Pnt_9 (v := .ref (E.2.1 + (u + 1))) rfl d_Pnt_copyFrom_5 ?_
  refine gm_Sv hx hb hml hown hW X (k_copy l (isP.x hP) (isP.x hP2)) (n := 2) ⟨⟨wl_Pnt_22, ws_Lim_copy, winit_Lim, wc_Lim_copy⟩, by decide +kernel, Nat.le_of_ble_eq_true rfl, Nat.le_of_ble_eq_true rfl⟩ rfl hl.1 rfl (Nat.le_of_ble_eq_true rfl) d_Pnt_copyFrom_8 ⟨Nat.le_of_ble_eq_true rfl, Nat.le_of_ble_eq_true rfl⟩ (fun M1 H locs hp X => ?_)
  obtain ⟨ρ1, rfl, q1, kk1⟩ := hp
  refine lv_aload_n hx hb d_Pnt_copyFrom_11 rfl (lv_at hl 0 rfl) ?_
  refine gm_get hx hb hW hown X u_Pnt (oP hP) rfl 1 (by decide) wf_Pnt_15 (v := .ref (E.2.1 + (t + 2))) rfl d_Pnt_copyFrom_12 ?_
  refine lv_aload_n hx hb d_Pnt_copyFrom_15 rfl (lv_at hl 1 rfl) ?_
  refine gm_get hx hb hW hown X u_Pnt (oP hP2) rfl 1 (by decide) wf_Pnt_15 (v := .ref (E.2.1 + (u + 2))) rfl d_Pnt_copyFrom_16 ?_
  refine gm_Sv hx hb hml hown hW X (k_copy l (isP.y hP) (isP.y hP2)) (n := 2) ⟨⟨wl_Pnt_22, ws_Lim_copy, winit_Lim, wc_Lim_copy⟩, by decide +kernel, Nat.le_of_ble_eq_true rfl, Nat.le_of_ble_eq_true rfl⟩ rfl hl.1 rfl (Nat.le_of_ble_eq_true rfl) d_Pnt_copyFrom_19 ⟨Nat.le_of_ble_eq_true rfl, Nat.le_of_ble_eq_true rfl⟩ (fun M1 H locs hp X => ?_)
  obtain ⟨ρ2, rfl, q2, kk2⟩ := hp
  refine lv_aload_n hx hb d_Pnt_copyFrom_22 rfl (lv_at hl 0 rfl) ?_
  refine lv_aload_n hx hb d_Pnt_copyFrom_23 rfl (lv_at hl 1 rfl) ?_
  refine gm_get hx hb hW hown X u_Pnt (oP hP2) rfl 2 (by decide) wf_Pnt_18 (v := .int (fl u)) rfl d_Pnt_copyFrom_24 ?_
  refine gm_put hx hb hW hown X u_Pnt t_Pnt t_Pnt_ok n_Pnt (oP hP) (cw_ge _) rfl 2 (by decide) wf_Pnt_18 rfl (ty := .boolean) (v := .int (fl u)) (by decide) (by rcases hs.fl with h | h <;> rw [h] <;> rfl) (by rcases hs.fl with h | h <;> rw [h] <;> rfl) (Nat.le_of_ble_eq_true rfl) d_Pnt_copyFrom_27 (fun H locs X => ?_)
  have X : gx E (cW E ad N ρ2 (va_up fl t (fl u))) s H locs := by rw [← cw_fP (fl u) hP]; exact X
  obtain ⟨fl3, hfl3⟩ : ∃ x, x = va_up fl t (fl u) := ⟨_, rfl⟩
  rw [← hfl3] at X
  refine gm_vret hx hb hr hlk X ⟨_, _, rfl, ?_, fun j ha hb => by rw [kk2 j (by omega), kk1 j (by omega)], fun j hj => by rw [hfl3, vu_n hj]⟩ d_Pnt_copyFrom_30
  have e1 : ρ2 (t + 1) = ρ (u + 1) := by rw [kk2 (t + 1) (by omega), q1]
  have e2 : ρ2 (t + 2) = ρ (u + 2) := by rw [q2, kk1 (u + 2) (by omega)]
  have e3 : fl3 t = fl u := by rw [hfl3, vu_s]
  cases q with
  | none => exact e3.trans hs
  | some a => exact ⟨e3.trans hs.1, hs.2.1, by rw [e1]; exact hs.2.2.1, by rw [e2]; exact hs.2.2.2⟩
set_option maxHeartbeats 2000000 in
theorem k_Pnt_matches {F : Type} [Lean.Grind.CommRing F] {φ : Int → F} {inv : F → F} (l : Launch) (E : gm_E) (ad : Nat → Nat) (N : gm_M) (ρ : Nat → Nat → Int64) (fl : Nat → Int32) (hg : gE E ad) (hk : fk φ inv) {a b : Option (F × F)} {t u : Nat} (hP : isP t) (hP2 : isP u) (ha : ptR φ ρ fl t a) (hq : ptR φ ρ fl u b) : ci_ l y_Pnt_matches b_Pnt_matches 2 (some .boolean) { frames := 1, cells := 0, slots := 0, locals := 22 } E (cW E ad N ρ fl) [.ref (E.2.1 + t), .ref (E.2.1 + u)] (fun r M' => M' = cW E ad N ρ fl ∧ ((r = 1 ∧ a = b) ∨ (r = 0 ∧ ¬ a = b))) := by
  cases a with
  | none =>
    cases b with
    | none =>
      have hf := hk.fm
      have I := isM_P hg
      refine gm_met (by decide) (Nat.le_of_ble_eq_true rfl) (fun p e s m below meth c ls hx hb hml hr hlk hnm hown hW X hl => ?_)
      have hl : lv_has ls 2 [(0, .ref (E.2.1 + t)), (1, .ref (E.2.1 + u))] := hl
      have h1 : fl t = 1 := ha
      have h2 : fl u = 1 := hq
      refine lv_aload_n hx hb d_Pnt_matches_0 rfl (lv_at hl 0 rfl) ?_
      refine gm_get hx hb hW hown X u_Pnt (oP hP) rfl 2 (by decide) wf_Pnt_18 (v := .int (fl t)) rfl d_Pnt_matches_1 ?_
      refine lv_if_ne (tgt := 14) hx hb d_Pnt_matches_4 (by decide) (fun _ => ?_) (fun c9 => absurd (h1.symm.trans c9) (by decide))
      refine lv_aload_n hx hb d_Pnt_matches_14 rfl (lv_at hl 0 rfl) ?_
      refine gm_get hx hb hW hown X u_Pnt (oP hP) rfl 2 (by decide) wf_Pnt_18 (v := .int (fl t)) rfl d_Pnt_matches_15 ?_
      refine lv_if_eq (tgt := 32) hx hb d_Pnt_matches_18 (by decide) (fun c9 => absurd (h1.symm.trans c9) (by decide)) (fun _ => ?_)
      refine lv_aload_n hx hb d_Pnt_matches_21 rfl (lv_at hl 1 rfl) ?_
      refine gm_get hx hb hW hown X u_Pnt (oP hP2) rfl 2 (by decide) wf_Pnt_18 (v := .int (fl u)) rfl d_Pnt_matches_22 ?_
      refine lv_if_eq (tgt := 32) hx hb d_Pnt_matches_25 (by decide) (fun c9 => absurd (h2.symm.trans c9) (by decide)) (fun _ => ?_)
      refine lv_iconst (v := 1) hx hb d_Pnt_matches_28 (by decide) ?_
      refine lv_goto (tgt := 33) hx hb d_Pnt_matches_29 (by decide) ?_
      exact gm_zret hx hb hr hlk X rfl ⟨rfl, Or.inl ⟨rfl, rfl⟩⟩ d_Pnt_matches_33
    | some b =>
      have hf := hk.fm
      have I := isM_P hg
      refine gm_met (by decide) (Nat.le_of_ble_eq_true rfl) (fun p e s m below meth c ls hx hb hml hr hlk hnm hown hW X hl => ?_)
      have hl : lv_has ls 2 [(0, .ref (E.2.1 + t)), (1, .ref (E.2.1 + u))] := hl
      have h1 : fl t = 1 := ha
      have h2 : fl u = 0 := hq.1
      refine lv_aload_n hx hb d_Pnt_matches_0 rfl (lv_at hl 0 rfl) ?_
      refine gm_get hx hb hW hown X u_Pnt (oP hP) rfl 2 (by decide) wf_Pnt_18 (v := .int (fl t)) rfl d_Pnt_matches_1 ?_
      refine lv_if_ne (tgt := 14) hx hb d_Pnt_matches_4 (by decide) (fun _ => ?_) (fun c9 => absurd (h1.symm.trans c9) (by decide))
      refine lv_aload_n hx hb d_Pnt_matches_14 rfl (lv_at hl 0 rfl) ?_
      refine gm_get hx hb hW hown X u_Pnt (oP hP) rfl 2 (by decide) wf_Pnt_18 (v := .int (fl t)) rfl d_Pnt_matches_15 ?_
      refine lv_if_eq (tgt := 32) hx hb d_Pnt_matches_18 (by decide) (fun c9 => absurd (h1.symm.trans c9) (by decide)) (fun _ => ?_)
      refine lv_aload_n hx hb d_Pnt_matches_21 rfl (lv_at hl 1 rfl) ?_
      refine gm_get hx hb hW hown X u_Pnt (oP hP2) rfl 2 (by decide) wf_Pnt_18 (v := .int (fl u)) rfl d_Pnt_matches_22 ?_
      refine lv_if_eq (tgt := 32) hx hb d_Pnt_matches_25 (by decide) (fun _ => ?_) (fun c9 => absurd h2 c9)
      refine lv_iconst (v := 0) hx hb d_Pnt_matches_32 (by decide) ?_
      exact gm_zret hx hb hr hlk X rfl ⟨rfl, Or.inr ⟨rfl, fun e => by cases e⟩⟩ d_Pnt_matches_33
  | some a =>
    cases b with
    | none =>
      have hf := hk.fm
      have I := isM_P hg
      refine gm_met (by decide) (Nat.le_of_ble_eq_true rfl) (fun p e s m below meth c ls hx hb hml hr hlk hnm hown hW X hl => ?_)
      have hl : lv_has ls 2 [(0, .ref (E.2.1 + t)), (1, .ref (E.2.1 + u))] := hl
      have h1 : fl t = 0 := ha.1
      have h2 : fl u = 1 := hq
      refine lv_aload_n hx hb d_Pnt_matches_0 rfl (lv_at hl 0 rfl) ?_
      refine gm_get hx hb hW hown X u_Pnt (oP hP) rfl 2 (by decide) wf_Pnt_18 (v := .int (fl t)) rfl d_Pnt_matches_1 ?_
      refine lv_if_ne (tgt := 14) hx hb d_Pnt_matches_4 (by decide) (fun c9 => absurd h1 c9) (fun _ => ?_)
      refine lv_aload_n hx hb d_Pnt_matches_7 rfl (lv_at hl 1 rfl) ?_
      refine gm_get hx hb hW hown X u_Pnt (oP hP2) rfl 2 (by decide) wf_Pnt_18 (v := .int (fl u)) rfl d_Pnt_matches_8 ?_
      refine lv_if_eq (tgt := 34) hx hb d_Pnt_matches_11 (by decide) (fun c9 => absurd (h2.symm.trans c9) (by decide)) (fun _ => ?_)
      refine lv_aload_n hx hb d_Pnt_matches_14 rfl (lv_at hl 0 rfl) ?_
      refine gm_get hx hb hW hown X u_Pnt (oP hP) rfl 2 (by decide) wf_Pnt_18 (v := .int (fl t)) rfl d_Pnt_matches_15 ?_
      refine lv_if_eq (tgt := 32) hx hb d_Pnt_matches_18 (by decide) (fun _ => ?_) (fun c9 => absurd h1 c9)
      refine lv_iconst (v := 0) hx hb d_Pnt_matches_32 (by decide) ?_
      exact gm_zret hx hb hr hlk X rfl ⟨rfl, Or.inr ⟨rfl, fun e => by cases e⟩⟩ d_Pnt_matches_33
    | some b =>
      have hf := hk.fm
      have I := isM_P hg
      refine gm_met (by decide) (Nat.le_of_ble_eq_true rfl) (fun p e s m below meth c ls hx hb hml hr hlk hnm hown hW X hl => ?_)
      have hl : lv_has ls 2 [(0, .ref (E.2.1 + t)), (1, .ref (E.2.1 + u))] := hl
      have h1 : fl t = 0 := ha.1
      have h2 : fl u = 0 := hq.1
      refine lv_aload_n hx hb d_Pnt_matches_0 rfl (lv_at hl 0 rfl) ?_
      refine gm_get hx hb hW hown X u_Pnt (oP hP) rfl 2 (by decide) wf_Pnt_18 (v := .int (fl t)) rfl d_Pnt_matches_1 ?_
      refine lv_if_ne (tgt := 14) hx hb d_Pnt_matches_4 (by decide) (fun c9 => absurd h1 c9) (fun _ => ?_)
      refine lv_aload_n hx hb d_Pnt_matches_7 rfl (lv_at hl 1 rfl) ?_
      refine gm_get hx hb hW hown X u_Pnt (oP hP2) rfl 2 (by decide) wf_Pnt_18 (v := .int (fl u)) rfl d_Pnt_matches_8 ?_
      refine lv_if_eq (tgt := 34) hx hb d_Pnt_matches_11 (by decide) (fun _ => ?_) (fun c9 => absurd h2 c9)
      refine lv_aload_n hx hb d_Pnt_matches_34 rfl (lv_at hl 0 rfl) ?_
      refine gm_get hx hb hW hown X u_Pnt (oP hP) rfl 0 (by decide) wf_Pnt_9 (v := .ref (E.2.1 + (t + 1))) rfl d_Pnt_matches_35 ?_
      refine lv_aload_n hx hb d_Pnt_matches_38 rfl (lv_at hl 1 rfl) ?_
      refine gm_get hx hb hW hown X u_Pnt (oP hP2) rfl 0 (by decide) wf_Pnt_9 (v := .ref (E.2.1 + (u + 1))) rfl d_Pnt_matches_39 ?_
      refine gm_Si hx hb hml hown hW X (c_Lim_areEqual l E _ (cw_row hP.x) (cw_row hP2.x)) (n := 2) ⟨⟨wl_Pnt_28, ws_Lim_areEqual, winit_Lim, wc_Lim_areEqual⟩, by decide +kernel, Nat.le_of_ble_eq_true rfl, Nat.le_of_ble_eq_true rfl⟩ rfl hl.1 rfl (Nat.le_of_ble_eq_true rfl) d_Pnt_matches_42 ⟨Nat.le_of_ble_eq_true rfl, Nat.le_of_ble_eq_true rfl⟩ (fun r M1 H locs hp X => ?_)
      rw [hp.1] at X
      have hp1 := hp.2
      refine lv_if_eq (tgt := 66) hx hb d_Pnt_matches_45 (by decide) (fun c45 => ?_) (fun c45 => ?_)
      · have hne : ¬ a.1 = b.1 := by
          rcases hp1 with h | h
          · exact absurd (h.1.symm.trans c45) (by decide)
          · obtain ⟨j, hj, hn⟩ := h.2
            exact fun e => hn ((ST.inj hf ha.2.2.1 hq.2.2.1).mpr e j hj)
        refine lv_iconst (v := 0) hx hb d_Pnt_matches_66 (by decide) ?_
        exact gm_zret hx hb hr hlk X rfl ⟨rfl, Or.inr ⟨rfl, fun e => hne (by rw [Option.some.inj e])⟩⟩ d_Pnt_matches_67
      · have hx1 : a.1 = b.1 := by
          rcases hp1 with h | h
          · exact (ST.inj hf ha.2.2.1 hq.2.2.1).mp h.2
          · exact absurd h.1 c45
        refine lv_aload_n hx hb d_Pnt_matches_48 rfl (lv_at hl 0 rfl) ?_
        refine gm_get hx hb hW hown X u_Pnt (oP hP) rfl 1 (by decide) wf_Pnt_15 (v := .ref (E.2.1 + (t + 2))) rfl d_Pnt_matches_49 ?_
        refine lv_aload_n hx hb d_Pnt_matches_52 rfl (lv_at hl 1 rfl) ?_
        refine gm_get hx hb hW hown X u_Pnt (oP hP2) rfl 1 (by decide) wf_Pnt_15 (v := .ref (E.2.1 + (u + 2))) rfl d_Pnt_matches_53 ?_
        refine gm_Si hx hb hml hown hW X (c_Lim_areEqual l E _ (cw_row hP.y) (cw_row hP2.y)) (n := 2) ⟨⟨wl_Pnt_28, ws_Lim_areEqual, winit_Lim, wc_Lim_areEqual⟩, by decide +kernel, Nat.le_of_ble_eq_true rfl, Nat.le_of_ble_eq_true rfl⟩ rfl hl.1 rfl (Nat.le_of_ble_eq_true rfl) d_Pnt_matches_56 ⟨Nat.le_of_ble_eq_true rfl, Nat.le_of_ble_eq_true rfl⟩ (fun r M1 H locs hp X => ?_)
        rw [hp.1] at X
        have hp2 := hp.2
        refine lv_if_eq (tgt := 66) hx hb d_Pnt_matches_59 (by decide) (fun c59 => ?_) (fun c59 => ?_)
        · have hne : ¬ a.2 = b.2 := by
            rcases hp2 with h | h
            · exact absurd (h.1.symm.trans c59) (by decide)
            · obtain ⟨j, hj, hn⟩ := h.2
              exact fun e => hn ((ST.inj hf ha.2.2.2 hq.2.2.2).mpr e j hj)
          refine lv_iconst (v := 0) hx hb d_Pnt_matches_66 (by decide) ?_
          exact gm_zret hx hb hr hlk X rfl ⟨rfl, Or.inr ⟨rfl, fun e => hne (by rw [Option.some.inj e])⟩⟩ d_Pnt_matches_67
        · have hy1 : a.2 = b.2 := by
            rcases hp2 with h | h
            · exact (ST.inj hf ha.2.2.2 hq.2.2.2).mp h.2
            · exact absurd h.1 c59
          refine lv_iconst (v := 1) hx hb d_Pnt_matches_62 (by decide) ?_
          refine lv_goto (tgt := 67) hx hb d_Pnt_matches_63 (by decide) ?_
          exact gm_zret hx hb hr hlk X rfl ⟨rfl, Or.inl ⟨rfl, by rw [show a = b from Prod.ext hx1 hy1]⟩⟩ d_Pnt_matches_67
