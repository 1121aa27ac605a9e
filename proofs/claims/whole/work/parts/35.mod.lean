/-! PointBench.Modulus: isAbove, fold, multiply: written by wip/gen/mod.py -/
/-- a Modulus -/
def MO (pa pl re wr : Nat) (b : Int32) (wi tr gp fa : Nat) : va_E := OB 0 [.ref pa, .ref pl, .ref re, .ref wr, .int b, .ref wi, .ref tr, .ref gp, .ref fa]
theorem ob_up {E : gm_E} {M : gm_M} {o a n c : Nat} {fs : List Value} {g : Nat → Int64} {e : va_E} (hO : M o = some (OB c fs)) (hg : M a = some (LA E n g)) : gm_up M a e o = some (OB c fs) := by
  rw [gm_up_n _ _ (fun q => by subst q; rw [hO] at hg; simp [OB, LA] at hg)]
  exact hO
/-- the inner loop of fold, the outer one -/
def foJ (g : Nat → Int64) (lb : Int64) (i : Nat) (wv : Nat → Int64) : Nat → (Nat → Int64)
  | 0 => g
  | j + 1 => vp_updL (foJ g lb i wv j) (i + j) (foJ g lb i wv j (i + j) + lb * wv j)
def foI (g : Nat → Int64) (nw : Nat) (wv : Nat → Int64) : Nat → (Nat → Int64)
  | 0 => g
  | i + 1 => foJ (vp_updL (foI g nw wv i) (10 + i) 0) (foI g nw wv i (10 + i)) i wv nw
set_option maxHeartbeats 1000000 in
theorem c_Mod_isAbove (l : Launch) (E : gm_E) (M : gm_M) {pa pl re wr wi tr gp fa o : Nat} {b : Int32} {a : Nat} {f pv : Nat → Int64} (hO : M o = some (MO pa pl re wr b wi tr gp fa)) (hp : E.2.2.1 pa = some (4, pv)) (ha : rdL E M a 4 f) : ci_ l y_Mod_isAbove b_Mod_isAbove 2 (some .boolean) { frames := 1, cells := 0, slots := 0, locals := 22 } E M [.ref o, .ref a] (fun r M' => M' = M ∧ ((r = 0 ∧ 0 ≤ ordF f pv 4) ∨ (r = 1 ∧ ¬ 0 ≤ ordF f pv 4))) := by
  refine gm_met (by decide) (Nat.le_of_ble_eq_true rfl) (fun p e s m below meth c ls hx hb hml hr hlk hnm hown hW X hl => ?_)
  have hl : lv_has ls 2 [(0, .ref o), (1, .ref a)] := hl
  refine lv_aload_n hx hb d_Mod_isAbove_0 rfl (lv_at hl 1 rfl) ?_
  refine lv_aload_n hx hb d_Mod_isAbove_1 rfl (lv_at hl 0 rfl) ?_
  refine gm_get hx hb hW hown X u_Mod hO rfl 0 (by decide) wf_Mod_24 (v := .ref pa) rfl d_Mod_isAbove_2 ?_
  refine gm_Si hx hb hml hown hW X (c_Par_order l E M ha (Or.inr hp)) (n := 2) ⟨⟨wl_Mod_40, ws_Par_order, winit_Par, wc_Par_order⟩, by decide +kernel, Nat.le_of_ble_eq_true rfl, Nat.le_of_ble_eq_true rfl⟩ rfl hl.1 rfl (Nat.le_of_ble_eq_true rfl) d_Mod_isAbove_5 ⟨Nat.le_of_ble_eq_true rfl, Nat.le_of_ble_eq_true rfl⟩ (fun r M1 H locs hq X => ?_)
  rw [hq.1] at X
  obtain ⟨-, rfl⟩ := hq
  refine lv_if_ge (tgt := 15) hx hb d_Mod_isAbove_8 (by decide) (fun c8 => ?_) (fun c8 => ?_)
  · refine lv_iconst (v := 0) hx hb d_Mod_isAbove_15 (by decide) ?_
    exact gm_zret hx hb hr hlk X rfl ⟨rfl, Or.inl ⟨rfl, c8⟩⟩ d_Mod_isAbove_16
  · refine lv_iconst (v := 1) hx hb d_Mod_isAbove_11 (by decide) ?_
    refine lv_goto (tgt := 16) hx hb d_Mod_isAbove_12 (by decide) ?_
    exact gm_zret hx hb hr hlk X rfl ⟨rfl, Or.inr ⟨rfl, c8⟩⟩ d_Mod_isAbove_16
set_option maxHeartbeats 1000000 in
theorem lq_Mod_fold {p : Program} {l : Launch} {e : Env} {s : State} {m : MethodId} {args : Array Value} {below : List Frame} {meth : Method} {c : Code} {R : Room} {Q : State → Prop} {cells slots : Nat} {E : gm_E} {M : gm_M} {pa pl re wr wi tr gp fa o : Nat} {b : Int32} {nw hi i : Nat} {wv g0 g : Nat → Int64} {lb : Int64} (hx : p.tables.exec = Jvm.exec) (hb : c.code = b_Mod_fold) (hown : s.vm.findClass R_Mod = some m.cls) (hW : ∀ w ∈ WB, w.before args s = true) (hO : M o = some (MO pa pl re wr b wi tr gp fa)) (hw : E.2.2.1 wr = some (nw, wv)) (hA : E.2.1 ≤ wi) (hg : M wi = some (LA E 20 g0)) (hnw : nw ≤ 10) (hi2 : i < 10)
    (kk : ∀ (H : Heap) (locs : List Loc) (ls : Array Slot), gx E (gm_up M wi (LA E 20 (foJ g lb i wv nw))) s H locs → lv_has ls 6 [(2, .int (nI i)), (0, .ref o), (1, .int (nI hi))] → W p l e R s m args below meth c H locs cells slots Q (F0 m 67 ls [])) :
    ∀ (k j : Nat), j + k = nw → ∀ (H : Heap) (locs : List Loc) (ls : Array Slot), gx E (gm_up M wi (LA E 20 (foJ g lb i wv j))) s H locs → lv_has ls 6 [(5, .int (nI j)), (3, .long lb), (2, .int (nI i)), (0, .ref o), (1, .int (nI hi))] → W p l e R s m args below meth c H locs cells slots Q (F0 m 30 ls []) := by
  intro k
  induction k with
  | zero =>
    intro j hj H locs ls X hl
    refine lv_iload hx hb d_Mod_fold_30 (lv_at hl 0 rfl) ?_
    refine lv_aload_n hx hb d_Mod_fold_32 rfl (lv_at hl 3 rfl) ?_
    refine gm_get hx hb hW hown X u_Mod (ob_up hO hg) rfl 3 (by decide) wf_Mod_33 (v := .ref wr) rfl d_Mod_fold_33 ?_
    refine gm_slen hx hb X hw d_Mod_fold_36 ?_
    refine lv_icmp_ge (tgt := 67) hx hb d_Mod_fold_37 (by decide) (fun c37 => ?_) (fun c37 => ?_)
    · obtain rfl : j = nw := by omega
      exact kk H locs ls X (lv_sub hl [2, 3, 4] rfl)
    · exact absurd (i_ge (n := nw) (i := j) (by omega) (by omega)) c37
  | succ k ih =>
    intro j hj H locs ls X hl
    refine lv_iload hx hb d_Mod_fold_30 (lv_at hl 0 rfl) ?_
    refine lv_aload_n hx hb d_Mod_fold_32 rfl (lv_at hl 3 rfl) ?_
    refine gm_get hx hb hW hown X u_Mod (ob_up hO hg) rfl 3 (by decide) wf_Mod_33 (v := .ref wr) rfl d_Mod_fold_33 ?_
    refine gm_slen hx hb X hw d_Mod_fold_36 ?_
    refine lv_icmp_ge (tgt := 67) hx hb d_Mod_fold_37 (by decide) (fun c37 => ?_) (fun c37 => ?_)
    · exact absurd c37 (i_nge (n := nw) (i := j) (by omega) (by omega))
    · refine lv_aload_n hx hb d_Mod_fold_40 rfl (lv_at hl 3 rfl) ?_
      refine gm_get hx hb hW hown X u_Mod (ob_up hO hg) rfl 5 (by decide) wf_Mod_9 (v := .ref wi) rfl d_Mod_fold_41 ?_
      refine lv_iload_n hx hb d_Mod_fold_44 rfl (lv_at hl 2 rfl) ?_
      refine lv_iload hx hb d_Mod_fold_45 (lv_at hl 0 rfl) ?_
      refine lv_iadd hx hb d_Mod_fold_47 ?_
      refine lv_eqi (v := nI (i + j)) (nI_add i j) ?_
      refine lv_dup2_11 hx hb d_Mod_fold_48 rfl rfl ?_
      refine gm_lald hx hb X (k := (i + j)) (Or.inl (gm_up_s _ _ _)) rfl ⟨by omega, by decide⟩ d_Mod_fold_49 ?_
      refine lv_lload_n hx hb d_Mod_fold_50 rfl (lv_at hl 1 rfl) ?_
      refine lv_aload_n hx hb d_Mod_fold_51 rfl (lv_at hl 3 rfl) ?_
      refine gm_get hx hb hW hown X u_Mod (ob_up hO hg) rfl 3 (by decide) wf_Mod_33 (v := .ref wr) rfl d_Mod_fold_52 ?_
      refine lv_iload hx hb d_Mod_fold_55 (lv_at hl 0 rfl) ?_
      refine gm_lald hx hb X (k := j) (Or.inr hw) rfl ⟨by omega, by omega⟩ d_Mod_fold_57 ?_
      refine lv_lmul hx hb d_Mod_fold_58 ?_
      refine lv_ladd hx hb d_Mod_fold_59 ?_
      refine gm_last hx hb X (k := (i + j)) (gm_up_s _ _ _) hA rfl ⟨by omega, by decide⟩ d_Mod_fold_60 (fun H locs X => ?_)
      rw [gm_up_up] at X
      refine lv_iinc (v := (nI (j + 1))) (lv' := [(5, .int (nI (j + 1))), (3, .long lb), (2, .int (nI i)), (0, .ref o), (1, .int (nI hi))]) hx hb d_Mod_fold_61 hl (k := 0) rfl (nI_1 j) (by decide) rfl (fun ls hl => ?_)
      refine lv_goto (tgt := 30) hx hb d_Mod_fold_64 (by decide) ?_
      exact ih (j + 1) (by omega) H locs ls X hl
set_option maxHeartbeats 1000000 in
theorem lp_Mod_fold {p : Program} {l : Launch} {e : Env} {s : State} {m : MethodId} {args : Array Value} {below : List Frame} {meth : Method} {c : Code} {R : Room} {Q : State → Prop} {cells slots : Nat} {E : gm_E} {M : gm_M} {pa pl re wr wi tr gp fa o : Nat} {b : Int32} {nw hi : Nat} {wv g0 g : Nat → Int64} (hx : p.tables.exec = Jvm.exec) (hb : c.code = b_Mod_fold) (hown : s.vm.findClass R_Mod = some m.cls) (hW : ∀ w ∈ WB, w.before args s = true) (hO : M o = some (MO pa pl re wr b wi tr gp fa)) (hw : E.2.2.1 wr = some (nw, wv)) (hA : E.2.1 ≤ wi) (hg : M wi = some (LA E 20 g0)) (hnw : nw ≤ 10) (hh : hi ≤ 10)
    (kk : ∀ (H : Heap) (locs : List Loc) (ls : Array Slot), gx E (gm_up M wi (LA E 20 (foI g nw wv hi))) s H locs → W p l e R s m args below meth c H locs cells slots Q (F0 m 73 ls [])) :
    ∀ (k i : Nat), i + k = hi → ∀ (H : Heap) (locs : List Loc) (ls : Array Slot), gx E (gm_up M wi (LA E 20 (foI g nw wv i))) s H locs → lv_has ls 6 [(2, .int (nI i)), (0, .ref o), (1, .int (nI hi))] → W p l e R s m args below meth c H locs cells slots Q (F0 m 2 ls []) := by
  intro k
  induction k with
  | zero =>
    intro i hi2 H locs ls X hl
    refine lv_iload_n hx hb d_Mod_fold_2 rfl (lv_at hl 0 rfl) ?_
    refine lv_iload_n hx hb d_Mod_fold_3 rfl (lv_at hl 2 rfl) ?_
    refine lv_icmp_ge (tgt := 73) hx hb d_Mod_fold_4 (by decide) (fun c4 => ?_) (fun c4 => ?_)
    · obtain rfl : i = hi := by omega
      exact kk H locs ls X
    · exact absurd (i_ge (n := hi) (i := i) (by omega) (by omega)) c4
  | succ k ih =>
    intro i hi2 H locs ls X hl
    refine lv_iload_n hx hb d_Mod_fold_2 rfl (lv_at hl 0 rfl) ?_
    refine lv_iload_n hx hb d_Mod_fold_3 rfl (lv_at hl 2 rfl) ?_
    refine lv_icmp_ge (tgt := 73) hx hb d_Mod_fold_4 (by decide) (fun c4 => ?_) (fun c4 => ?_)
    · exact absurd c4 (i_nge (n := hi) (i := i) (by omega) (by omega))
    · refine lv_aload_n hx hb d_Mod_fold_7 rfl (lv_at hl 1 rfl) ?_
      refine gm_get hx hb hW hown X u_Mod (ob_up hO hg) rfl 5 (by decide) wf_Mod_9 (v := .ref wi) rfl d_Mod_fold_8 ?_
      refine lv_bipush (v := 10) hx hb d_Mod_fold_11 (by decide) ?_
      refine lv_iload_n hx hb d_Mod_fold_13 rfl (lv_at hl 0 rfl) ?_
      refine lv_iadd hx hb d_Mod_fold_14 ?_
      refine lv_eqi (v := nI (10 + i)) (nI_add 10 i) ?_
      refine gm_lald hx hb X (k := (10 + i)) (Or.inl (gm_up_s _ _ _)) rfl ⟨by omega, by decide⟩ d_Mod_fold_15 ?_
      refine lv_lstore_n (lv' := [(3, .long (foI g nw wv i (10 + i))), (2, .int (nI i)), (0, .ref o), (1, .int (nI hi))]) hx hb d_Mod_fold_16 rfl hl (by decide) rfl (fun ls hl => ?_)
      refine lv_aload_n hx hb d_Mod_fold_17 rfl (lv_at hl 2 rfl) ?_
      refine gm_get hx hb hW hown X u_Mod (ob_up hO hg) rfl 5 (by decide) wf_Mod_9 (v := .ref wi) rfl d_Mod_fold_18 ?_
      refine lv_bipush (v := 10) hx hb d_Mod_fold_21 (by decide) ?_
      refine lv_iload_n hx hb d_Mod_fold_23 rfl (lv_at hl 1 rfl) ?_
      refine lv_iadd hx hb d_Mod_fold_24 ?_
      refine lv_eqi (v := nI (10 + i)) (nI_add 10 i) ?_
      refine lv_lconst (v := 0) hx hb d_Mod_fold_25 (by decide) ?_
      refine gm_last hx hb X (k := (10 + i)) (gm_up_s _ _ _) hA rfl ⟨by omega, by decide⟩ d_Mod_fold_26 (fun H locs X => ?_)
      rw [gm_up_up] at X
      refine lv_iconst (v := 0) hx hb d_Mod_fold_27 (by decide) ?_
      refine lv_istore (lv' := [(5, .int 0), (3, .long (foI g nw wv i (10 + i))), (2, .int (nI i)), (0, .ref o), (1, .int (nI hi))]) hx hb d_Mod_fold_28 hl (by decide) rfl (fun ls hl => ?_)
      refine lq_Mod_fold hx hb hown hW hO hw hA hg hnw (by omega) (fun H locs ls X hl => ?_) nw 0 (by omega) H locs ls X (lv_sub hl [0, 1, 2, 3, 4] rfl)
      refine lv_iinc (v := (nI (i + 1))) (lv' := [(2, .int (nI (i + 1))), (0, .ref o), (1, .int (nI hi))]) hx hb d_Mod_fold_67 hl (k := 0) rfl (nI_1 i) (by decide) rfl (fun ls hl => ?_)
      refine lv_goto (tgt := 2) hx hb d_Mod_fold_70 (by decide) ?_
      exact ih (i + 1) (by omega) H locs ls X hl
set_option maxHeartbeats 1000000 in
theorem c_Mod_fold (l : Launch) (E : gm_E) (M : gm_M) {pa pl re wr wi tr gp fa o : Nat} {b : Int32} {nw hi : Nat} {wv g : Nat → Int64} (hO : M o = some (MO pa pl re wr b wi tr gp fa)) (hw : E.2.2.1 wr = some (nw, wv)) (hA : E.2.1 ≤ wi) (hg : M wi = some (LA E 20 g)) (hnw : nw ≤ 10) (hh : hi ≤ 10) : cv_ l y_Mod_fold b_Mod_fold 6 none { frames := 0, cells := 0, slots := 0, locals := 0 } E M [.ref o, .int (nI hi)] (fun M' => M' = gm_up M wi (LA E 20 (foI g nw wv hi))) := by
  refine gm_met (by decide) (Nat.le_of_ble_eq_true rfl) (fun p e s m below meth c ls hx hb hml hr hlk hnm hown hW X hl => ?_)
  have hl : lv_has ls 6 [(0, .ref o), (1, .int (nI hi))] := hl
  refine lv_iconst (v := 0) hx hb d_Mod_fold_0 (by decide) ?_
  refine lv_istore_n (lv' := [(2, .int 0), (0, .ref o), (1, .int (nI hi))]) hx hb d_Mod_fold_1 rfl hl (by decide) rfl (fun ls hl => ?_)
  refine lp_Mod_fold (g := g) hx hb hown hW hO hw hA hg hnw hh (fun H locs ls X => ?_) hi 0 (by omega) _ _ ls (by show gx E (gm_up M wi (LA E 20 g)) s _ _; rw [gm_up_self hg]; exact X) hl
  exact gm_vret hx hb hr hlk X rfl d_Mod_fold_73
/-- the steps of multiply over the wide row -/
def muW (ga gb : Nat → Int64) (b : Int32) (nw : Nat) (wv : Nat → Int64) : Nat → Int64 :=
  caF (foI (caF (if b = 0 then foI (caF (prF ga gb) 10 19) nw wv 10 else foI (caF (foI (caF (prF ga gb) 10 19) nw wv 10) 0 (9 + nw)) nw wv nw) 0 10) nw wv 1) 0 9
set_option maxHeartbeats 4000000 in
theorem c_Mod_multiply (l : Launch) (E : gm_E) (M : gm_M) {pa pl re wr wi tr gp fa o : Nat} {b : Int32} {to a x nw : Nat} {wv g gt ga gb : Nat → Int64} (hO : M o = some (MO pa pl re wr b wi tr gp fa)) (hw : E.2.2.1 wr = some (nw, wv)) (hA : E.2.1 ≤ wi) (hg : M wi = some (LA E 20 g)) (hnw : nw ≤ 9) (ht : M to = some (LA E 10 gt)) (hB : E.2.1 ≤ to) (ha : M a = some (LA E 10 ga)) (hq : M x = some (LA E 10 gb)) : cv_ l y_Mod_multiply b_Mod_multiply 4 none { frames := 2, cells := 0, slots := 0, locals := 62 } E M [.ref o, .ref to, .ref a, .ref x] (fun M' => M' = gm_up (gm_up M wi (LA E 20 (muW ga gb b nw wv))) to (LA E 10 (muW ga gb b nw wv))) := by
  refine gm_met (by decide) (Nat.le_of_ble_eq_true rfl) (fun p e s m below meth c ls hx hb hml hr hlk hnm hown hW X hl => ?_)
  have hl : lv_has ls 4 [(0, .ref o), (1, .ref to), (2, .ref a), (3, .ref x)] := hl
  have oo : ∀ e, gm_up M wi e o = some (MO pa pl re wr b wi tr gp fa) := fun e => ob_up hO hg
  have tt : ∀ e, gm_up M wi (LA E 20 e) to = some (LA E 10 gt) := fun e => (gm_up_n _ _ (fun q => by subst q; exact absurd (LA_inj (ht.symm.trans hg)).1 (by decide))).trans ht
  refine lv_aload_n hx hb d_Mod_multiply_0 rfl (lv_at hl 0 rfl) ?_
  refine gm_get hx hb hW hown X u_Mod hO rfl 5 (by decide) wf_Mod_9 (v := .ref wi) rfl d_Mod_multiply_1 ?_
  refine lv_aload_n hx hb d_Mod_multiply_4 rfl (lv_at hl 2 rfl) ?_
  refine lv_aload_n hx hb d_Mod_multiply_5 rfl (lv_at hl 3 rfl) ?_
  refine gm_Sv hx hb hml hown hW X (c_Lim_product l E M hg hA ha hq) (n := 3) ⟨⟨wl_Mod_46, ws_Lim_product, winit_Lim, wc_Lim_product⟩, by decide +kernel, Nat.le_of_ble_eq_true rfl, Nat.le_of_ble_eq_true rfl⟩ rfl hl.1 rfl (Nat.le_of_ble_eq_true rfl) d_Mod_multiply_6 ⟨Nat.le_of_ble_eq_true rfl, Nat.le_of_ble_eq_true rfl⟩ (fun M1 H locs hp X => ?_)
  subst hp
  refine lv_aload_n hx hb d_Mod_multiply_9 rfl (lv_at hl 0 rfl) ?_
  refine gm_get hx hb hW hown X u_Mod (oo _) rfl 5 (by decide) wf_Mod_9 (v := .ref wi) rfl d_Mod_multiply_10 ?_
  refine lv_bipush (v := 10) hx hb d_Mod_multiply_13 (by decide) ?_
  refine lv_bipush (v := 19) hx hb d_Mod_multiply_15 (by decide) ?_
  refine gm_Sv hx hb hml hown hW X (c_Lim_carry l E _ (a := wi) (n := 20) (fr := 10) (to := 19) (gm_up_s _ _ _) hA (by omega) (by omega) (by decide)) (n := 3) ⟨⟨wl_Mod_52, ws_Lim_carry, winit_Lim, wc_Lim_carry⟩, by decide +kernel, Nat.le_of_ble_eq_true rfl, Nat.le_of_ble_eq_true rfl⟩ rfl hl.1 rfl (Nat.le_of_ble_eq_true rfl) d_Mod_multiply_17 ⟨Nat.le_of_ble_eq_true rfl, Nat.le_of_ble_eq_true rfl⟩ (fun M1 H locs hp X => ?_)
  subst hp
  rw [gm_up_up] at X
  refine lv_aload_n hx hb d_Mod_multiply_20 rfl (lv_at hl 0 rfl) ?_
  refine lv_bipush (v := 10) hx hb d_Mod_multiply_21 (by decide) ?_
  refine gm_Vv hx hb hml hown hW X (oo _) (c_Mod_fold l E _ (hi := 10) (oo _) hw hA (gm_up_s _ _ _) (by omega) (by omega)) (n := 1) ⟨⟨wl_Mod_56, wi_Mod_fold, wsel_Mod_fold, winit_Mod, wc_Mod_fold⟩, by decide +kernel, ⟨Nat.le_of_ble_eq_true rfl, Nat.le_of_ble_eq_true rfl⟩, _, rfl, rfl⟩ rfl hl.1 rfl (Nat.le_of_ble_eq_true rfl) d_Mod_multiply_23 ⟨Nat.le_of_ble_eq_true rfl, Nat.le_of_ble_eq_true rfl⟩ (fun M1 H locs hp X => ?_)
  subst hp
  rw [gm_up_up] at X
  refine lv_aload_n hx hb d_Mod_multiply_26 rfl (lv_at hl 0 rfl) ?_
  refine gm_get hx hb hW hown X u_Mod (oo _) rfl 4 (by decide) wf_Mod_36 (v := .int b) rfl d_Mod_multiply_27 ?_
  have fin : ∀ (h : Nat → Int64), muW ga gb b nw wv = caF (foI (caF h 0 10) nw wv 1) 0 9 → ∀ (H : Heap) (locs : List Loc) (ls : Array Slot), gx E (gm_up M wi (LA E 20 h)) s H locs → lv_has ls 4 [(0, .ref o), (1, .ref to), (2, .ref a), (3, .ref x)] → W p l e { frames := 2, cells := 0, slots := 0, locals := 62 } s m [Value.ref o, .ref to, .ref a, .ref x].toArray below meth c H locs 0 0 (MQ below (va_Qv (fun M' => M' = gm_up (gm_up M wi (LA E 20 (muW ga gb b nw wv))) to (LA E 10 (muW ga gb b nw wv))) (fun M' t => gm_P E M' t.heap) (gm_A E)) [Value.ref o, .ref to, .ref a, .ref x].toArray s 0 0 (gm_A E)) (F0 m 58 ls []) := by
    intro h hh H locs ls X hl
    refine lv_aload_n hx hb d_Mod_multiply_58 rfl (lv_at hl 0 rfl) ?_
    refine gm_get hx hb hW hown X u_Mod (oo _) rfl 5 (by decide) wf_Mod_9 (v := .ref wi) rfl d_Mod_multiply_59 ?_
    refine lv_iconst (v := 0) hx hb d_Mod_multiply_62 (by decide) ?_
    refine lv_bipush (v := 10) hx hb d_Mod_multiply_63 (by decide) ?_
    refine gm_Sv hx hb hml hown hW X (c_Lim_carry l E _ (a := wi) (n := 20) (fr := 0) (to := 10) (gm_up_s _ _ _) hA (by omega) (by omega) (by decide)) (n := 3) ⟨⟨wl_Mod_52, ws_Lim_carry, winit_Lim, wc_Lim_carry⟩, by decide +kernel, Nat.le_of_ble_eq_true rfl, Nat.le_of_ble_eq_true rfl⟩ rfl hl.1 rfl (Nat.le_of_ble_eq_true rfl) d_Mod_multiply_65 ⟨Nat.le_of_ble_eq_true rfl, Nat.le_of_ble_eq_true rfl⟩ (fun M1 H locs hp X => ?_)
    subst hp
    rw [gm_up_up] at X
    refine lv_aload_n hx hb d_Mod_multiply_68 rfl (lv_at hl 0 rfl) ?_
    refine lv_iconst (v := 1) hx hb d_Mod_multiply_69 (by decide) ?_
    refine gm_Vv hx hb hml hown hW X (oo _) (c_Mod_fold l E _ (hi := 1) (oo _) hw hA (gm_up_s _ _ _) (by omega) (by omega)) (n := 1) ⟨⟨wl_Mod_56, wi_Mod_fold, wsel_Mod_fold, winit_Mod, wc_Mod_fold⟩, by decide +kernel, ⟨Nat.le_of_ble_eq_true rfl, Nat.le_of_ble_eq_true rfl⟩, _, rfl, rfl⟩ rfl hl.1 rfl (Nat.le_of_ble_eq_true rfl) d_Mod_multiply_70 ⟨Nat.le_of_ble_eq_true rfl, Nat.le_of_ble_eq_true rfl⟩ (fun M1 H locs hp X => ?_)
    subst hp
    rw [gm_up_up] at X
    refine lv_aload_n hx hb d_Mod_multiply_73 rfl (lv_at hl 0 rfl) ?_
    refine gm_get hx hb hW hown X u_Mod (oo _) rfl 5 (by decide) wf_Mod_9 (v := .ref wi) rfl d_Mod_multiply_74 ?_
    refine lv_iconst (v := 0) hx hb d_Mod_multiply_77 (by decide) ?_
    refine lv_bipush (v := 9) hx hb d_Mod_multiply_78 (by decide) ?_
    refine gm_Sv hx hb hml hown hW X (c_Lim_carry l E _ (a := wi) (n := 20) (fr := 0) (to := 9) (gm_up_s _ _ _) hA (by omega) (by omega) (by decide)) (n := 3) ⟨⟨wl_Mod_52, ws_Lim_carry, winit_Lim, wc_Lim_carry⟩, by decide +kernel, Nat.le_of_ble_eq_true rfl, Nat.le_of_ble_eq_true rfl⟩ rfl hl.1 rfl (Nat.le_of_ble_eq_true rfl) d_Mod_multiply_80 ⟨Nat.le_of_ble_eq_true rfl, Nat.le_of_ble_eq_true rfl⟩ (fun M1 H locs hp X => ?_)
    subst hp
    rw [gm_up_up] at X
    refine lv_aload_n hx hb d_Mod_multiply_83 rfl (lv_at hl 1 rfl) ?_
    refine lv_aload_n hx hb d_Mod_multiply_84 rfl (lv_at hl 0 rfl) ?_
    refine gm_get hx hb hW hown X u_Mod (oo _) rfl 5 (by decide) wf_Mod_9 (v := .ref wi) rfl d_Mod_multiply_85 ?_
    refine gm_Sv hx hb hml hown hW X (c_Lim_copy l E _ (tt _) hB (gm_up_s _ _ _) (by decide)) (n := 2) ⟨⟨wl_Mod_60, ws_Lim_copy, winit_Lim, wc_Lim_copy⟩, by decide +kernel, Nat.le_of_ble_eq_true rfl, Nat.le_of_ble_eq_true rfl⟩ rfl hl.1 rfl (Nat.le_of_ble_eq_true rfl) d_Mod_multiply_88 ⟨Nat.le_of_ble_eq_true rfl, Nat.le_of_ble_eq_true rfl⟩ (fun M1 H locs hp X => ?_)
    subst hp
    rw [← hh] at X
    exact gm_vret hx hb hr hlk X rfl d_Mod_multiply_91
  refine lv_if_eq (tgt := 58) hx hb d_Mod_multiply_30 (by decide) (fun c30 => ?_) (fun c30 => ?_)
  · exact fin _ (by rw [muW, if_pos c30]) H locs ls X hl
  · refine lv_aload_n hx hb d_Mod_multiply_33 rfl (lv_at hl 0 rfl) ?_
    refine gm_get hx hb hW hown X u_Mod (oo _) rfl 5 (by decide) wf_Mod_9 (v := .ref wi) rfl d_Mod_multiply_34 ?_
    refine lv_iconst (v := 0) hx hb d_Mod_multiply_37 (by decide) ?_
    refine lv_bipush (v := 9) hx hb d_Mod_multiply_38 (by decide) ?_
    refine lv_aload_n hx hb d_Mod_multiply_40 rfl (lv_at hl 0 rfl) ?_
    refine gm_get hx hb hW hown X u_Mod (oo _) rfl 3 (by decide) wf_Mod_33 (v := .ref wr) rfl d_Mod_multiply_41 ?_
    refine gm_slen hx hb X hw d_Mod_multiply_44 ?_
    refine lv_iadd hx hb d_Mod_multiply_45 ?_
    refine lv_eqi (v := nI (9 + nw)) (nI_add 9 nw) ?_
    refine gm_Sv hx hb hml hown hW X (c_Lim_carry l E _ (a := wi) (n := 20) (fr := 0) (to := 9 + nw) (gm_up_s _ _ _) hA (by omega) (by omega) (by decide)) (n := 3) ⟨⟨wl_Mod_52, ws_Lim_carry, winit_Lim, wc_Lim_carry⟩, by decide +kernel, Nat.le_of_ble_eq_true rfl, Nat.le_of_ble_eq_true rfl⟩ rfl hl.1 rfl (Nat.le_of_ble_eq_true rfl) d_Mod_multiply_46 ⟨Nat.le_of_ble_eq_true rfl, Nat.le_of_ble_eq_true rfl⟩ (fun M1 H locs hp X => ?_)
    subst hp
    rw [gm_up_up] at X
    refine lv_aload_n hx hb d_Mod_multiply_49 rfl (lv_at hl 0 rfl) ?_
    refine lv_aload_n hx hb d_Mod_multiply_50 rfl (lv_at hl 0 rfl) ?_
    refine gm_get hx hb hW hown X u_Mod (oo _) rfl 3 (by decide) wf_Mod_33 (v := .ref wr) rfl d_Mod_multiply_51 ?_
    refine gm_slen hx hb X hw d_Mod_multiply_54 ?_
    refine gm_Vv hx hb hml hown hW X (oo _) (c_Mod_fold l E _ (hi := nw) (oo _) hw hA (gm_up_s _ _ _) (by omega) (by omega)) (n := 1) ⟨⟨wl_Mod_56, wi_Mod_fold, wsel_Mod_fold, winit_Mod, wc_Mod_fold⟩, by decide +kernel, ⟨Nat.le_of_ble_eq_true rfl, Nat.le_of_ble_eq_true rfl⟩, _, rfl, rfl⟩ rfl hl.1 rfl (Nat.le_of_ble_eq_true rfl) d_Mod_multiply_55 ⟨Nat.le_of_ble_eq_true rfl, Nat.le_of_ble_eq_true rfl⟩ (fun M1 H locs hp X => ?_)
    subst hp
    rw [gm_up_up] at X
    exact fin _ (by rw [muW, if_neg c30]) H locs ls X hl
