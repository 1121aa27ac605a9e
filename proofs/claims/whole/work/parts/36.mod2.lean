/-! PointBench.Modulus: dropTop, settle, power, invert, areCongruent, isMultiple: written by wip/gen/mod2.py -/
theorem rdL_up2 {E : gm_E} {M : gm_M} {a b n k : Nat} {f g h : Nat → Int64} (hr : rdL E M a n f) (hM : M b = some (LA E k g)) (hne : n ≠ k := by decide) : rdL E (gm_up M b (LA E k h)) a n f := rdL_up hr hM hne
theorem i_m1 (x : Int32) : x + Int32.ofInt (-1) = x - 1 := by
  rw [Int32.sub_eq_add_neg, show Int32.ofInt (-1) = (-1 : Int32) by decide]
theorem gm_comm (M : gm_M) {a b : Nat} (e f : va_E) (h : a ≠ b) : gm_up (gm_up M a e) b f = gm_up (gm_up M b f) a e := by
  funext x
  simp only [gm_up]
  split
  · next q => rw [if_neg (fun z => h (z.symm.trans q))]
  · rfl
def drC (g : Nat → Int64) : Int64 := g 9 >>> ((22 : Int32).toInt64 &&& 63)
def drJ (g : Nat → Int64) (cn : Int64) (rv : Nat → Int64) : Nat → (Nat → Int64)
  | 0 => g
  | j + 1 => vp_updL (drJ g cn rv j) j (drJ g cn rv j j + cn * rv j)
/-- dropTop -/
def drF (g : Nat → Int64) (nr : Nat) (rv : Nat → Int64) : Nat → Int64 := caF (drJ (vp_updL g 9 (g 9 - (drC g <<< ((22 : Int32).toInt64 &&& 63)))) (drC g) rv nr) 0 9
def trJ (g rv : Nat → Int64) : Nat → (Nat → Int64)
  | 0 => g
  | j + 1 => vp_updL (trJ g rv j) j (trJ g rv j j + rv j)
/-- settle: the number but for the last step, the trial, the end -/
def seA (g : Nat → Int64) (nr : Nat) (rv : Nat → Int64) : Nat → Int64 := drF (drF (caF g 0 9) nr rv) nr rv
def seT (g : Nat → Int64) (nr : Nat) (rv : Nat → Int64) : Nat → Int64 := caF (trJ (seA g nr rv) rv nr) 0 9
def seF (g : Nat → Int64) (nr : Nat) (rv : Nat → Int64) : Nat → Int64 := if drC (seT g nr rv) = 0 then seA g nr rv else vp_updL (seT g nr rv) 9 (seT g nr rv 9 - 4194304)
set_option maxHeartbeats 1000000 in
theorem lp_Mod_dropTop {p : Program} {l : Launch} {e : Env} {s : State} {m : MethodId} {args : Array Value} {below : List Frame} {meth : Method} {c : Code} {R : Room} {Q : State → Prop} {cells slots : Nat} {E : gm_E} {M : gm_M} {pa pl re wr wi tr gp fa o : Nat} {b : Int32} {a nr : Nat} {rv g0 g : Nat → Int64} {cn : Int64} (hx : p.tables.exec = Jvm.exec) (hb : c.code = b_Mod_dropTop) (hown : s.vm.findClass R_Mod = some m.cls) (hW : ∀ w ∈ WB, w.before args s = true) (hO : M o = some (MO pa pl re wr b wi tr gp fa)) (hw : E.2.2.1 re = some (nr, rv)) (hA : E.2.1 ≤ a) (hg : M a = some (LA E 10 g0)) (hnr : nr ≤ 9)
    (kk : ∀ (H : Heap) (locs : List Loc) (ls : Array Slot), gx E (gm_up M a (LA E 10 (drJ g cn rv nr))) s H locs → lv_has ls 5 [(0, .ref o), (1, .ref a)] → W p l e R s m args below meth c H locs cells slots Q (F0 m 54 ls [])) :
    ∀ (k j : Nat), j + k = nr → ∀ (H : Heap) (locs : List Loc) (ls : Array Slot), gx E (gm_up M a (LA E 10 (drJ g cn rv j))) s H locs → lv_has ls 5 [(4, .int (nI j)), (2, .long cn), (0, .ref o), (1, .ref a)] → W p l e R s m args below meth c H locs cells slots Q (F0 m 22 ls []) := by
  intro k
  induction k with
  | zero =>
    intro j hj H locs ls X hl
    refine lv_iload hx hb d_Mod_dropTop_22 (lv_at hl 0 rfl) ?_
    refine lv_aload_n hx hb d_Mod_dropTop_24 rfl (lv_at hl 2 rfl) ?_
    refine gm_get hx hb hW hown X u_Mod (ob_up hO hg) rfl 2 (by decide) wf_Mod_30 (v := .ref re) rfl d_Mod_dropTop_25 ?_
    refine gm_slen hx hb X hw d_Mod_dropTop_28 ?_
    refine lv_icmp_ge (tgt := 54) hx hb d_Mod_dropTop_29 (by decide) (fun c29 => ?_) (fun c29 => ?_)
    · obtain rfl : j = nr := by omega
      exact kk H locs ls X (lv_sub hl [2, 3] rfl)
    · exact absurd (i_ge (n := nr) (i := j) (by omega) (by omega)) c29
  | succ k ih =>
    intro j hj H locs ls X hl
    refine lv_iload hx hb d_Mod_dropTop_22 (lv_at hl 0 rfl) ?_
    refine lv_aload_n hx hb d_Mod_dropTop_24 rfl (lv_at hl 2 rfl) ?_
    refine gm_get hx hb hW hown X u_Mod (ob_up hO hg) rfl 2 (by decide) wf_Mod_30 (v := .ref re) rfl d_Mod_dropTop_25 ?_
    refine gm_slen hx hb X hw d_Mod_dropTop_28 ?_
    refine lv_icmp_ge (tgt := 54) hx hb d_Mod_dropTop_29 (by decide) (fun c29 => ?_) (fun c29 => ?_)
    · exact absurd c29 (i_nge (n := nr) (i := j) (by omega) (by omega))
    · refine lv_aload_n hx hb d_Mod_dropTop_32 rfl (lv_at hl 3 rfl) ?_
      refine lv_iload hx hb d_Mod_dropTop_33 (lv_at hl 0 rfl) ?_
      refine lv_dup2_11 hx hb d_Mod_dropTop_35 rfl rfl ?_
      refine gm_lald hx hb X (k := j) (Or.inl (gm_up_s _ _ _)) rfl ⟨by omega, by decide⟩ d_Mod_dropTop_36 ?_
      refine lv_lload_n hx hb d_Mod_dropTop_37 rfl (lv_at hl 1 rfl) ?_
      refine lv_aload_n hx hb d_Mod_dropTop_38 rfl (lv_at hl 2 rfl) ?_
      refine gm_get hx hb hW hown X u_Mod (ob_up hO hg) rfl 2 (by decide) wf_Mod_30 (v := .ref re) rfl d_Mod_dropTop_39 ?_
      refine lv_iload hx hb d_Mod_dropTop_42 (lv_at hl 0 rfl) ?_
      refine gm_lald hx hb X (k := j) (Or.inr hw) rfl ⟨by omega, by omega⟩ d_Mod_dropTop_44 ?_
      refine lv_lmul hx hb d_Mod_dropTop_45 ?_
      refine lv_ladd hx hb d_Mod_dropTop_46 ?_
      refine gm_last hx hb X (k := j) (gm_up_s _ _ _) hA rfl ⟨by omega, by decide⟩ d_Mod_dropTop_47 (fun H locs X => ?_)
      rw [gm_up_up] at X
      refine lv_iinc (v := (nI (j + 1))) (lv' := [(4, .int (nI (j + 1))), (2, .long cn), (0, .ref o), (1, .ref a)]) hx hb d_Mod_dropTop_48 hl (k := 0) rfl (nI_1 j) (by decide) rfl (fun ls hl => ?_)
      refine lv_goto (tgt := 22) hx hb d_Mod_dropTop_51 (by decide) ?_
      exact ih (j + 1) (by omega) H locs ls X hl
set_option maxHeartbeats 1000000 in
theorem c_Mod_dropTop (l : Launch) (E : gm_E) (M : gm_M) {pa pl re wr wi tr gp fa o : Nat} {b : Int32} {a nr : Nat} {rv g : Nat → Int64} (hO : M o = some (MO pa pl re wr b wi tr gp fa)) (hw : E.2.2.1 re = some (nr, rv)) (hA : E.2.1 ≤ a) (hg : M a = some (LA E 10 g)) (hnr : nr ≤ 9) : cv_ l y_Mod_dropTop b_Mod_dropTop 5 none { frames := 1, cells := 0, slots := 0, locals := 25 } E M [.ref o, .ref a] (fun M' => M' = gm_up M a (LA E 10 (drF g nr rv))) := by
  refine gm_met (by decide) (Nat.le_of_ble_eq_true rfl) (fun p e s m below meth c ls hx hb hml hr hlk hnm hown hW X hl => ?_)
  have hl : lv_has ls 5 [(0, .ref o), (1, .ref a)] := hl
  refine lv_aload_n hx hb d_Mod_dropTop_0 rfl (lv_at hl 1 rfl) ?_
  refine lv_bipush (v := 9) hx hb d_Mod_dropTop_1 (by decide) ?_
  refine gm_lald hx hb X (k := 9) (Or.inl hg) (by decide) ⟨by decide, by decide⟩ d_Mod_dropTop_3 ?_
  refine lv_bipush (v := 22) hx hb d_Mod_dropTop_4 (by decide) ?_
  refine lv_lshr hx hb d_Mod_dropTop_6 rfl ?_
  refine lv_lstore_n (lv' := [(2, .long ((g 9) >>> ((22 : Int32).toInt64 &&& 63))), (0, .ref o), (1, .ref a)]) hx hb d_Mod_dropTop_7 rfl hl (by decide) rfl (fun ls hl => ?_)
  refine lv_aload_n hx hb d_Mod_dropTop_8 rfl (lv_at hl 2 rfl) ?_
  refine lv_bipush (v := 9) hx hb d_Mod_dropTop_9 (by decide) ?_
  refine lv_dup2_11 hx hb d_Mod_dropTop_11 rfl rfl ?_
  refine gm_lald hx hb X (k := 9) (Or.inl hg) (by decide) ⟨by decide, by decide⟩ d_Mod_dropTop_12 ?_
  refine lv_lload_n hx hb d_Mod_dropTop_13 rfl (lv_at hl 0 rfl) ?_
  refine lv_bipush (v := 22) hx hb d_Mod_dropTop_14 (by decide) ?_
  refine lv_lshl hx hb d_Mod_dropTop_16 rfl ?_
  refine lv_lsub hx hb d_Mod_dropTop_17 ?_
  refine gm_last hx hb X (k := 9) hg hA (by decide) ⟨by decide, by decide⟩ d_Mod_dropTop_18 (fun H locs X => ?_)
  refine lv_iconst (v := 0) hx hb d_Mod_dropTop_19 (by decide) ?_
  refine lv_istore (lv' := [(4, .int 0), (2, .long ((g 9) >>> ((22 : Int32).toInt64 &&& 63))), (0, .ref o), (1, .ref a)]) hx hb d_Mod_dropTop_20 hl (by decide) rfl (fun ls hl => ?_)
  refine lp_Mod_dropTop (g := vp_updL g 9 (g 9 - (drC g <<< ((22 : Int32).toInt64 &&& 63)))) (cn := drC g) hx hb hown hW hO hw hA hg hnr (fun H locs ls X hl => ?_) nr 0 (by omega) H locs ls X hl
  refine lv_aload_n hx hb d_Mod_dropTop_54 rfl (lv_at hl 1 rfl) ?_
  refine lv_iconst (v := 0) hx hb d_Mod_dropTop_55 (by decide) ?_
  refine lv_bipush (v := 9) hx hb d_Mod_dropTop_56 (by decide) ?_
  refine gm_Sv hx hb hml hown hW X (c_Lim_carry l E _ (a := a) (n := 10) (fr := 0) (to := 9) (gm_up_s _ _ _) hA (by omega) (by omega) (by decide)) (n := 3) ⟨⟨wl_Mod_52, ws_Lim_carry, winit_Lim, wc_Lim_carry⟩, by decide +kernel, Nat.le_of_ble_eq_true rfl, Nat.le_of_ble_eq_true rfl⟩ rfl hl.1 rfl (Nat.le_of_ble_eq_true rfl) d_Mod_dropTop_58 ⟨Nat.le_of_ble_eq_true rfl, Nat.le_of_ble_eq_true rfl⟩ (fun M1 H locs hp X => ?_)
  subst hp
  rw [gm_up_up] at X
  exact gm_vret hx hb hr hlk X rfl d_Mod_dropTop_61
set_option maxHeartbeats 1000000 in
theorem lp_Mod_settle {p : Program} {l : Launch} {e : Env} {s : State} {m : MethodId} {args : Array Value} {below : List Frame} {meth : Method} {c : Code} {R : Room} {Q : State → Prop} {cells slots : Nat} {E : gm_E} {M : gm_M} {pa pl re wr wi tr gp fa o : Nat} {b : Int32} {a nr : Nat} {rv g0 g : Nat → Int64} (hx : p.tables.exec = Jvm.exec) (hb : c.code = b_Mod_settle) (hown : s.vm.findClass R_Mod = some m.cls) (hW : ∀ w ∈ WB, w.before args s = true) (hO : M o = some (MO pa pl re wr b wi tr gp fa)) (hw : E.2.2.1 re = some (nr, rv)) (hA : E.2.1 ≤ tr) (hg : M tr = some (LA E 10 g0)) (hnr : nr ≤ 9)
    (kk : ∀ (H : Heap) (locs : List Loc) (ls : Array Slot), gx E (gm_up M tr (LA E 10 (trJ g rv nr))) s H locs → lv_has ls 3 [(0, .ref o), (1, .ref a)] → W p l e R s m args below meth c H locs cells slots Q (F0 m 57 ls [])) :
    ∀ (k j : Nat), j + k = nr → ∀ (H : Heap) (locs : List Loc) (ls : Array Slot), gx E (gm_up M tr (LA E 10 (trJ g rv j))) s H locs → lv_has ls 3 [(2, .int (nI j)), (0, .ref o), (1, .ref a)] → W p l e R s m args below meth c H locs cells slots Q (F0 m 27 ls []) := by
  intro k
  induction k with
  | zero =>
    intro j hj H locs ls X hl
    refine lv_iload_n hx hb d_Mod_settle_27 rfl (lv_at hl 0 rfl) ?_
    refine lv_aload_n hx hb d_Mod_settle_28 rfl (lv_at hl 1 rfl) ?_
    refine gm_get hx hb hW hown X u_Mod (ob_up hO hg) rfl 2 (by decide) wf_Mod_30 (v := .ref re) rfl d_Mod_settle_29 ?_
    refine gm_slen hx hb X hw d_Mod_settle_32 ?_
    refine lv_icmp_ge (tgt := 57) hx hb d_Mod_settle_33 (by decide) (fun c33 => ?_) (fun c33 => ?_)
    · obtain rfl : j = nr := by omega
      exact kk H locs ls X (lv_sub hl [1, 2] rfl)
    · exact absurd (i_ge (n := nr) (i := j) (by omega) (by omega)) c33
  | succ k ih =>
    intro j hj H locs ls X hl
    refine lv_iload_n hx hb d_Mod_settle_27 rfl (lv_at hl 0 rfl) ?_
    refine lv_aload_n hx hb d_Mod_settle_28 rfl (lv_at hl 1 rfl) ?_
    refine gm_get hx hb hW hown X u_Mod (ob_up hO hg) rfl 2 (by decide) wf_Mod_30 (v := .ref re) rfl d_Mod_settle_29 ?_
    refine gm_slen hx hb X hw d_Mod_settle_32 ?_
    refine lv_icmp_ge (tgt := 57) hx hb d_Mod_settle_33 (by decide) (fun c33 => ?_) (fun c33 => ?_)
    · exact absurd c33 (i_nge (n := nr) (i := j) (by omega) (by omega))
    · refine lv_aload_n hx hb d_Mod_settle_36 rfl (lv_at hl 1 rfl) ?_
      refine gm_get hx hb hW hown X u_Mod (ob_up hO hg) rfl 6 (by decide) wf_Mod_15 (v := .ref tr) rfl d_Mod_settle_37 ?_
      refine lv_iload_n hx hb d_Mod_settle_40 rfl (lv_at hl 0 rfl) ?_
      refine lv_dup2_11 hx hb d_Mod_settle_41 rfl rfl ?_
      refine gm_lald hx hb X (k := j) (Or.inl (gm_up_s _ _ _)) rfl ⟨by omega, by decide⟩ d_Mod_settle_42 ?_
      refine lv_aload_n hx hb d_Mod_settle_43 rfl (lv_at hl 1 rfl) ?_
      refine gm_get hx hb hW hown X u_Mod (ob_up hO hg) rfl 2 (by decide) wf_Mod_30 (v := .ref re) rfl d_Mod_settle_44 ?_
      refine lv_iload_n hx hb d_Mod_settle_47 rfl (lv_at hl 0 rfl) ?_
      refine gm_lald hx hb X (k := j) (Or.inr hw) rfl ⟨by omega, by omega⟩ d_Mod_settle_48 ?_
      refine lv_ladd hx hb d_Mod_settle_49 ?_
      refine gm_last hx hb X (k := j) (gm_up_s _ _ _) hA rfl ⟨by omega, by decide⟩ d_Mod_settle_50 (fun H locs X => ?_)
      rw [gm_up_up] at X
      refine lv_iinc (v := (nI (j + 1))) (lv' := [(2, .int (nI (j + 1))), (0, .ref o), (1, .ref a)]) hx hb d_Mod_settle_51 hl (k := 0) rfl (nI_1 j) (by decide) rfl (fun ls hl => ?_)
      refine lv_goto (tgt := 27) hx hb d_Mod_settle_54 (by decide) ?_
      exact ih (j + 1) (by omega) H locs ls X hl
set_option maxHeartbeats 2000000 in
theorem c_Mod_settle (l : Launch) (E : gm_E) (M : gm_M) {pa pl re wr wi tr gp fa o : Nat} {b : Int32} {a nr : Nat} {rv g g1 : Nat → Int64} (hO : M o = some (MO pa pl re wr b wi tr gp fa)) (hw : E.2.2.1 re = some (nr, rv)) (hA : E.2.1 ≤ a) (hg : M a = some (LA E 10 g)) (hT : E.2.1 ≤ tr) (hq : M tr = some (LA E 10 g1)) (hne : a ≠ tr) (hnr : nr ≤ 9) : cv_ l y_Mod_settle b_Mod_settle 3 none { frames := 2, cells := 0, slots := 0, locals := 49 } E M [.ref o, .ref a] (fun M' => ∃ te, M' = gm_up (gm_up M tr (LA E 10 te)) a (LA E 10 (seF g nr rv))) := by
  refine gm_met (by decide) (Nat.le_of_ble_eq_true rfl) (fun p e s m below meth c ls hx hb hml hr hlk hnm hown hW X hl => ?_)
  have hl : lv_has ls 3 [(0, .ref o), (1, .ref a)] := hl
  have oo : ∀ e, gm_up M a e o = some (MO pa pl re wr b wi tr gp fa) := fun e => ob_up hO hg
  have tt : ∀ e, gm_up M a e tr = some (LA E 10 g1) := fun e => (gm_up_n _ _ (fun q => hne q.symm)).trans hq
  refine lv_aload_n hx hb d_Mod_settle_0 rfl (lv_at hl 1 rfl) ?_
  refine lv_iconst (v := 0) hx hb d_Mod_settle_1 (by decide) ?_
  refine lv_bipush (v := 9) hx hb d_Mod_settle_2 (by decide) ?_
  refine gm_Sv hx hb hml hown hW X (c_Lim_carry l E _ (a := a) (n := 10) (fr := 0) (to := 9) hg hA (by omega) (by omega) (by decide)) (n := 3) ⟨⟨wl_Mod_52, ws_Lim_carry, winit_Lim, wc_Lim_carry⟩, by decide +kernel, Nat.le_of_ble_eq_true rfl, Nat.le_of_ble_eq_true rfl⟩ rfl hl.1 rfl (Nat.le_of_ble_eq_true rfl) d_Mod_settle_4 ⟨Nat.le_of_ble_eq_true rfl, Nat.le_of_ble_eq_true rfl⟩ (fun M1 H locs hp X => ?_)
  subst hp
  refine lv_aload_n hx hb d_Mod_settle_7 rfl (lv_at hl 0 rfl) ?_
  refine lv_aload_n hx hb d_Mod_settle_8 rfl (lv_at hl 1 rfl) ?_
  refine gm_Vv hx hb hml hown hW X (oo _) (c_Mod_dropTop l E _ (oo _) hw hA (gm_up_s _ _ _) hnr) (n := 1) ⟨⟨wl_Mod_91, wi_Mod_dropTop, wsel_Mod_dropTop, winit_Mod, wc_Mod_dropTop⟩, by decide +kernel, ⟨Nat.le_of_ble_eq_true rfl, Nat.le_of_ble_eq_true rfl⟩, _, rfl, rfl⟩ rfl hl.1 rfl (Nat.le_of_ble_eq_true rfl) d_Mod_settle_9 ⟨Nat.le_of_ble_eq_true rfl, Nat.le_of_ble_eq_true rfl⟩ (fun M1 H locs hp X => ?_)
  subst hp
  rw [gm_up_up] at X
  refine lv_aload_n hx hb d_Mod_settle_12 rfl (lv_at hl 0 rfl) ?_
  refine lv_aload_n hx hb d_Mod_settle_13 rfl (lv_at hl 1 rfl) ?_
  refine gm_Vv hx hb hml hown hW X (oo _) (c_Mod_dropTop l E _ (oo _) hw hA (gm_up_s _ _ _) hnr) (n := 1) ⟨⟨wl_Mod_91, wi_Mod_dropTop, wsel_Mod_dropTop, winit_Mod, wc_Mod_dropTop⟩, by decide +kernel, ⟨Nat.le_of_ble_eq_true rfl, Nat.le_of_ble_eq_true rfl⟩, _, rfl, rfl⟩ rfl hl.1 rfl (Nat.le_of_ble_eq_true rfl) d_Mod_settle_14 ⟨Nat.le_of_ble_eq_true rfl, Nat.le_of_ble_eq_true rfl⟩ (fun M1 H locs hp X => ?_)
  subst hp
  rw [gm_up_up] at X
  have X : gx E (gm_up M a (LA E 10 (seA g nr rv))) s H locs := X
  refine lv_aload_n hx hb d_Mod_settle_17 rfl (lv_at hl 0 rfl) ?_
  refine gm_get hx hb hW hown X u_Mod (oo _) rfl 6 (by decide) wf_Mod_15 (v := .ref tr) rfl d_Mod_settle_18 ?_
  refine lv_aload_n hx hb d_Mod_settle_21 rfl (lv_at hl 1 rfl) ?_
  refine gm_Sv hx hb hml hown hW X (c_Lim_copy l E _ (tt _) hT (gm_up_s _ _ _) (by decide)) (n := 2) ⟨⟨wl_Mod_60, ws_Lim_copy, winit_Lim, wc_Lim_copy⟩, by decide +kernel, Nat.le_of_ble_eq_true rfl, Nat.le_of_ble_eq_true rfl⟩ rfl hl.1 rfl (Nat.le_of_ble_eq_true rfl) d_Mod_settle_22 ⟨Nat.le_of_ble_eq_true rfl, Nat.le_of_ble_eq_true rfl⟩ (fun M1 H locs hp X => ?_)
  subst hp
  refine lv_iconst (v := 0) hx hb d_Mod_settle_25 (by decide) ?_
  refine lv_istore_n (lv' := [(2, .int 0), (0, .ref o), (1, .ref a)]) hx hb d_Mod_settle_26 rfl hl (by decide) rfl (fun ls hl => ?_)
  refine lp_Mod_settle (g := seA g nr rv) hx hb hown hW (oo (LA E 10 (seA g nr rv))) hw hT (tt _) hnr (fun H locs ls X hl => ?_) nr 0 (by omega) H locs ls X hl
  have o2 : ∀ e, gm_up (gm_up M a (LA E 10 (seA g nr rv))) tr e o = some (MO pa pl re wr b wi tr gp fa) := fun e => ob_up (oo _) (tt _)
  refine lv_aload_n hx hb d_Mod_settle_57 rfl (lv_at hl 0 rfl) ?_
  refine gm_get hx hb hW hown X u_Mod (o2 _) rfl 6 (by decide) wf_Mod_15 (v := .ref tr) rfl d_Mod_settle_58 ?_
  refine lv_iconst (v := 0) hx hb d_Mod_settle_61 (by decide) ?_
  refine lv_bipush (v := 9) hx hb d_Mod_settle_62 (by decide) ?_
  refine gm_Sv hx hb hml hown hW X (c_Lim_carry l E _ (a := tr) (n := 10) (fr := 0) (to := 9) (gm_up_s _ _ _) hT (by omega) (by omega) (by decide)) (n := 3) ⟨⟨wl_Mod_52, ws_Lim_carry, winit_Lim, wc_Lim_carry⟩, by decide +kernel, Nat.le_of_ble_eq_true rfl, Nat.le_of_ble_eq_true rfl⟩ rfl hl.1 rfl (Nat.le_of_ble_eq_true rfl) d_Mod_settle_64 ⟨Nat.le_of_ble_eq_true rfl, Nat.le_of_ble_eq_true rfl⟩ (fun M1 H locs hp X => ?_)
  subst hp
  rw [gm_up_up] at X
  have X : gx E (gm_up (gm_up M a (LA E 10 (seA g nr rv))) tr (LA E 10 (seT g nr rv))) s H locs := X
  refine lv_aload_n hx hb d_Mod_settle_67 rfl (lv_at hl 0 rfl) ?_
  refine gm_get hx hb hW hown X u_Mod (o2 _) rfl 6 (by decide) wf_Mod_15 (v := .ref tr) rfl d_Mod_settle_68 ?_
  refine lv_bipush (v := 9) hx hb d_Mod_settle_71 (by decide) ?_
  refine gm_lald hx hb X (k := 9) (Or.inl (gm_up_s _ _ _)) (by decide) ⟨by decide, by decide⟩ d_Mod_settle_73 ?_
  refine lv_bipush (v := 22) hx hb d_Mod_settle_74 (by decide) ?_
  refine lv_lshr hx hb d_Mod_settle_76 rfl ?_
  refine lv_lconst (v := 0) hx hb d_Mod_settle_77 (by decide) ?_
  refine W.lcmp hx hb d_Mod_settle_78 ?_
  refine lv_if_eq (tgt := 103) hx hb d_Mod_settle_79 (by decide) (fun c79 => ?_) (fun c79 => ?_)
  · rw [gm_comm _ _ _ hne] at X
    refine gm_vret hx hb hr hlk X ⟨seT g nr rv, ?_⟩ d_Mod_settle_103
    rw [seF, if_pos (show drC (seT g nr rv) = 0 from (cmp0 _ _).mp c79)]
  · refine lv_aload_n hx hb d_Mod_settle_82 rfl (lv_at hl 0 rfl) ?_
    refine gm_get hx hb hW hown X u_Mod (o2 _) rfl 6 (by decide) wf_Mod_15 (v := .ref tr) rfl d_Mod_settle_83 ?_
    refine lv_bipush (v := 9) hx hb d_Mod_settle_86 (by decide) ?_
    refine lv_dup2_11 hx hb d_Mod_settle_88 rfl rfl ?_
    refine gm_lald hx hb X (k := 9) (Or.inl (gm_up_s _ _ _)) (by decide) ⟨by decide, by decide⟩ d_Mod_settle_89 ?_
    refine lv_ldc2 (v := 4194304) hx hb hown (hW _ wk_Mod_94) d_Mod_settle_90 ?_
    refine lv_lsub hx hb d_Mod_settle_93 ?_
    refine gm_last hx hb X (k := 9) (gm_up_s _ _ _) hT (by decide) ⟨by decide, by decide⟩ d_Mod_settle_94 (fun H locs X => ?_)
    rw [gm_up_up] at X
    refine lv_aload_n hx hb d_Mod_settle_95 rfl (lv_at hl 1 rfl) ?_
    refine lv_aload_n hx hb d_Mod_settle_96 rfl (lv_at hl 0 rfl) ?_
    refine gm_get hx hb hW hown X u_Mod (o2 _) rfl 6 (by decide) wf_Mod_15 (v := .ref tr) rfl d_Mod_settle_97 ?_
    refine gm_Sv hx hb hml hown hW X (c_Lim_copy l E _ (gt := seA g nr rv) ((gm_up_n _ _ hne).trans (gm_up_s _ _ _)) hA (gm_up_s _ _ _) (by decide)) (n := 2) ⟨⟨wl_Mod_60, ws_Lim_copy, winit_Lim, wc_Lim_copy⟩, by decide +kernel, Nat.le_of_ble_eq_true rfl, Nat.le_of_ble_eq_true rfl⟩ rfl hl.1 rfl (Nat.le_of_ble_eq_true rfl) d_Mod_settle_100 ⟨Nat.le_of_ble_eq_true rfl, Nat.le_of_ble_eq_true rfl⟩ (fun M1 H locs hp X => ?_)
    subst hp
    rw [gm_comm _ _ _ hne, gm_up_up] at X
    refine gm_vret hx hb hr hlk X ⟨vp_updL (seT g nr rv) 9 (seT g nr rv 9 - 4194304), ?_⟩ d_Mod_settle_103
    rw [seF, if_neg (fun z : drC (seT g nr rv) = 0 => c79 ((cmp0 _ _).mpr z))]
/-- one product modulo the modulus, as a row of ten limbs -/
def mu_ (b : Int32) (nw : Nat) (wv ga gb : Nat → Int64) : Nat → Int64 := muW ga gb b nw wv
/-- power's loop: k bits from the highest -/
def poS (b : Int32) (nw : Nat) (wv ga ev zf : Nat → Int64) : Nat → (Nat → Int64)
  | 0 => vp_updL (unF zf) 0 1
  | k + 1 => if uN (ev ((255 - k) / 64)) / 2 ^ ((255 - k) % 64) % 2 = 0 then mu_ b nw wv (poS b nw wv ga ev zf k) (poS b nw wv ga ev zf k) else mu_ b nw wv (mu_ b nw wv (poS b nw wv ga ev zf k) (poS b nw wv ga ev zf k)) ga
theorem gm_nf (N : gm_M) {w t : Nat} (a b c d : va_E) (h : w ≠ t) : gm_up (gm_up (gm_up (gm_up N w a) t b) w c) t d = gm_up (gm_up N w c) t d := by
  rw [gm_comm _ _ _ (Ne.symm h), gm_up_up, gm_up_up]
set_option maxHeartbeats 2000000 in
theorem lp_Mod_power {p : Program} {l : Launch} {e : Env} {s : State} {m : MethodId} {args : Array Value} {below : List Frame} {meth : Method} {c : Code} {Q : State → Prop} {E : gm_E} {N : gm_M} {pa pl re wr wi tr gp fa o : Nat} {b : Int32} {to x y nw : Nat} {wv ga ev zf : Nat → Int64} (hx : p.tables.exec = Jvm.exec) (hb : c.code = b_Mod_power) (hml : c.maxLocals = 5) (hown : s.vm.findClass R_Mod = some m.cls) (hW : ∀ w ∈ WB, w.before args s = true) (hO : N o = some (MO pa pl re wr b wi tr gp fa)) (hw : E.2.2.1 wr = some (nw, wv)) (hnw : nw ≤ 9) (hA : E.2.1 ≤ wi) (hg : ∃ g, N wi = some (LA E 20 g)) (hB : E.2.1 ≤ to) (ht : ∃ g, N to = some (LA E 10 g)) (hf : N fa = some (LA E 10 ga)) (hft : fa ≠ to) (he : rdL E N x 4 ev)
    (kk : ∀ (H : Heap) (locs : List Loc) (ls : Array Slot) (w : Nat → Int64), gx E (gm_up (gm_up N wi (LA E 20 w)) to (LA E 10 (poS b nw wv ga ev zf 256))) s H locs → W p l e { frames := 3, cells := 0, slots := 0, locals := 85 } s m args below meth c H locs 0 0 Q (F0 m 61 ls [])) :
    ∀ (k i : Nat), i + k = 256 → ∀ (H : Heap) (locs : List Loc) (ls : Array Slot) (w : Nat → Int64), gx E (gm_up (gm_up N wi (LA E 20 w)) to (LA E 10 (poS b nw wv ga ev zf i))) s H locs → lv_has ls 5 [(4, .int (nI (256 - i) - 1)), (0, .ref o), (1, .ref to), (2, .ref y), (3, .ref x)] → W p l e { frames := 3, cells := 0, slots := 0, locals := 85 } s m args below meth c H locs 0 0 Q (F0 m 24 ls []) := by
  obtain ⟨g0, hg⟩ := hg
  obtain ⟨gt, ht⟩ := ht
  have nwt : wi ≠ to := fun q => by subst q; exact absurd (LA_inj (hg.symm.trans ht)).1 (by decide)
  have nfw : fa ≠ wi := fun q => by subst q; exact absurd (LA_inj (hf.symm.trans hg)).1 (by decide)
  have oo : ∀ w t, gm_up (gm_up N wi (LA E 20 w)) to (LA E 10 t) o = some (MO pa pl re wr b wi tr gp fa) := fun w t => ob_up (ob_up hO hg) ((gm_up_n _ _ (Ne.symm nwt)).trans ht)
  have gg : ∀ w t, gm_up (gm_up N wi (LA E 20 w)) to (LA E 10 t) wi = some (LA E 20 w) := fun w t => (gm_up_n _ _ nwt).trans (gm_up_s _ _ _)
  have ff : ∀ w t, gm_up (gm_up N wi (LA E 20 w)) to (LA E 10 t) fa = some (LA E 10 ga) := fun w t => (gm_up_n _ _ hft).trans ((gm_up_n _ _ nfw).trans hf)
  have ee : ∀ w t, rdL E (gm_up (gm_up N wi (LA E 20 w)) to (LA E 10 t)) x 4 ev := fun w t => rdL_up (rdL_up he hg (by decide)) ((gm_up_n _ _ (Ne.symm nwt)).trans ht) (by decide)
  intro k
  induction k with
  | zero =>
    intro i hi H locs ls w X hl
    refine lv_iload hx hb d_Mod_power_24 (lv_at hl 0 rfl) ?_
    refine lv_if_lt (tgt := 61) hx hb d_Mod_power_26 (by decide) (fun c26 => ?_) (fun c26 => ?_)
    · obtain rfl : i = 256 := by omega
      exact kk H locs ls w X
    · obtain rfl : i = 256 := by omega
      exact absurd (by decide) c26
  | succ k ih =>
    intro i hi H locs ls w X hl
    refine lv_iload hx hb d_Mod_power_24 (lv_at hl 0 rfl) ?_
    refine lv_if_lt (tgt := 61) hx hb d_Mod_power_26 (by decide) (fun c26 => ?_) (fun c26 => ?_)
    · have q : nI (256 - i) - 1 = nI (255 - i) := by rw [show 256 - i = (255 - i) + 1 by omega]; exact nI_pred _
      rw [q] at c26
      exact absurd c26 (nI_pos (by omega))
    · have q : nI (256 - i) - 1 = nI (255 - i) := by rw [show 256 - i = (255 - i) + 1 by omega]; exact nI_pred _
      rw [q] at hl
      refine lv_aload_n hx hb d_Mod_power_29 rfl (lv_at hl 1 rfl) ?_
      refine lv_aload_n hx hb d_Mod_power_30 rfl (lv_at hl 2 rfl) ?_
      refine lv_aload_n hx hb d_Mod_power_31 rfl (lv_at hl 2 rfl) ?_
      refine lv_aload_n hx hb d_Mod_power_32 rfl (lv_at hl 2 rfl) ?_
      refine gm_Vv hx hb hml hown hW X (oo _ _) (c_Mod_multiply l E _ (oo _ _) hw hA (gg _ _) hnw (gm_up_s _ _ _) hB (gm_up_s _ _ _) (gm_up_s _ _ _)) (n := 3) ⟨⟨wl_Mod_70, wi_Mod_multiply, wsel_Mod_multiply, winit_Mod, wc_Mod_multiply⟩, by decide +kernel, ⟨Nat.le_of_ble_eq_true rfl, Nat.le_of_ble_eq_true rfl⟩, _, rfl, rfl⟩ rfl hl.1 rfl (Nat.le_of_ble_eq_true rfl) d_Mod_power_33 ⟨Nat.le_of_ble_eq_true rfl, Nat.le_of_ble_eq_true rfl⟩ (fun M1 H locs hp X => ?_)
      subst hp
      rw [gm_nf _ _ _ _ _ nwt] at X
      refine lv_aload_n hx hb d_Mod_power_36 rfl (lv_at hl 4 rfl) ?_
      refine lv_iload hx hb d_Mod_power_37 (lv_at hl 0 rfl) ?_
      refine gm_Si hx hb hml hown hW X (c_Par_haveBit l E _ (k := 255 - i) (ee _ _) (by omega)) (n := 2) ⟨⟨wl_Mod_73, ws_Par_haveBit, winit_Par, wc_Par_haveBit⟩, by decide +kernel, Nat.le_of_ble_eq_true rfl, Nat.le_of_ble_eq_true rfl⟩ rfl hl.1 rfl (Nat.le_of_ble_eq_true rfl) d_Mod_power_39 ⟨Nat.le_of_ble_eq_true rfl, Nat.le_of_ble_eq_true rfl⟩ (fun r M1 H locs hp X => ?_)
      rw [hp.1] at X
      have hp := hp.2
      refine lv_if_eq (tgt := 55) hx hb d_Mod_power_42 (by decide) (fun c42 => ?_) (fun c42 => ?_)
      · have hz : uN (ev ((255 - i) / 64)) / 2 ^ ((255 - i) % 64) % 2 = 0 := by rcases hp with h | h; exact h.2; rw [h.1] at c42; exact absurd c42 (by decide)
        refine lv_iinc (v := (nI (256 - (i + 1)) - 1)) (lv' := [(4, .int (nI (256 - (i + 1)) - 1)), (0, .ref o), (1, .ref to), (2, .ref y), (3, .ref x)]) hx hb d_Mod_power_55 hl (k := 0) rfl (by rw [show 255 - i = 256 - (i + 1) by omega]; exact i_m1 _) (by decide) rfl (fun ls hl => ?_)
        refine lv_goto (tgt := 24) hx hb d_Mod_power_58 (by decide) ?_
        exact ih (i + 1) (by omega) H locs ls _ (by rw [poS, if_pos hz]; exact X) hl
      · have hz : ¬ uN (ev ((255 - i) / 64)) / 2 ^ ((255 - i) % 64) % 2 = 0 := by rcases hp with h | h; exact absurd h.1 c42; omega
        refine lv_aload_n hx hb d_Mod_power_45 rfl (lv_at hl 1 rfl) ?_
        refine lv_aload_n hx hb d_Mod_power_46 rfl (lv_at hl 2 rfl) ?_
        refine lv_aload_n hx hb d_Mod_power_47 rfl (lv_at hl 2 rfl) ?_
        refine lv_aload_n hx hb d_Mod_power_48 rfl (lv_at hl 1 rfl) ?_
        refine gm_get hx hb hW hown X u_Mod (oo _ _) rfl 8 (by decide) wf_Mod_21 (v := .ref fa) rfl d_Mod_power_49 ?_
        refine gm_Vv hx hb hml hown hW X (oo _ _) (c_Mod_multiply l E _ (oo _ _) hw hA (gg _ _) hnw (gm_up_s _ _ _) hB (gm_up_s _ _ _) (ff _ _)) (n := 3) ⟨⟨wl_Mod_70, wi_Mod_multiply, wsel_Mod_multiply, winit_Mod, wc_Mod_multiply⟩, by decide +kernel, ⟨Nat.le_of_ble_eq_true rfl, Nat.le_of_ble_eq_true rfl⟩, _, rfl, rfl⟩ rfl hl.1 rfl (Nat.le_of_ble_eq_true rfl) d_Mod_power_52 ⟨Nat.le_of_ble_eq_true rfl, Nat.le_of_ble_eq_true rfl⟩ (fun M1 H locs hp X => ?_)
        subst hp
        rw [gm_nf _ _ _ _ _ nwt] at X
        refine lv_iinc (v := (nI (256 - (i + 1)) - 1)) (lv' := [(4, .int (nI (256 - (i + 1)) - 1)), (0, .ref o), (1, .ref to), (2, .ref y), (3, .ref x)]) hx hb d_Mod_power_55 hl (k := 0) rfl (by rw [show 255 - i = 256 - (i + 1) by omega]; exact i_m1 _) (by decide) rfl (fun ls hl => ?_)
        refine lv_goto (tgt := 24) hx hb d_Mod_power_58 (by decide) ?_
        exact ih (i + 1) (by omega) H locs ls _ (by rw [poS, if_neg hz]; exact X) hl
set_option maxHeartbeats 2000000 in
theorem c_Mod_power (l : Launch) (E : gm_E) (M : gm_M) {pa pl re wr wi tr gp fa o : Nat} {b : Int32} {to y x nw tz : Nat} {wv ga gt ev zf g gf : Nat → Int64} (hO : M o = some (MO pa pl re wr b wi tr gp fa)) (hw : E.2.2.1 wr = some (nw, wv)) (hnw : nw ≤ 9) (hA : E.2.1 ≤ wi) (hg : M wi = some (LA E 20 g)) (hB : E.2.1 ≤ to) (ht : M to = some (LA E 10 gt)) (hF : E.2.1 ≤ fa) (hf : M fa = some (LA E 10 gf)) (hy : M y = some (LA E 10 ga)) (hft : fa ≠ to) (he : rdL E M x 4 ev) (hz : stA E "ZERO" tz 4 zf) : cv_ l y_Mod_power b_Mod_power 5 none { frames := 3, cells := 0, slots := 0, locals := 85 } E M [.ref o, .ref to, .ref y, .ref x] (fun M' => ∃ w, M' = gm_up (gm_up (gm_up M fa (LA E 10 ga)) wi (LA E 20 w)) to (LA E 10 (poS b nw wv ga ev zf 256))) := by
  refine gm_met (by decide) (Nat.le_of_ble_eq_true rfl) (fun p e s m below meth c ls hx hb hml hr hlk hnm hown hW X hl => ?_)
  have hl : lv_has ls 5 [(0, .ref o), (1, .ref to), (2, .ref y), (3, .ref x)] := hl
  have nfw : fa ≠ wi := fun q => by subst q; exact absurd (LA_inj (hf.symm.trans hg)).1 (by decide)
  have nwt : wi ≠ to := fun q => by subst q; exact absurd (LA_inj (hg.symm.trans ht)).1 (by decide)
  have hO1 : gm_up M fa (LA E 10 ga) o = some (MO pa pl re wr b wi tr gp fa) := ob_up hO hf
  have hg1 : gm_up M fa (LA E 10 ga) wi = some (LA E 20 g) := (gm_up_n _ _ (Ne.symm nfw)).trans hg
  have ht1 : gm_up M fa (LA E 10 ga) to = some (LA E 10 gt) := (gm_up_n _ _ (Ne.symm hft)).trans ht
  refine lv_aload_n hx hb d_Mod_power_0 rfl (lv_at hl 0 rfl) ?_
  refine gm_get hx hb hW hown X u_Mod hO rfl 8 (by decide) wf_Mod_21 (v := .ref fa) rfl d_Mod_power_1 ?_
  refine lv_aload_n hx hb d_Mod_power_4 rfl (lv_at hl 2 rfl) ?_
  refine gm_Sv hx hb hml hown hW X (c_Lim_copy l E M hf hF hy (by decide)) (n := 2) ⟨⟨wl_Mod_60, ws_Lim_copy, winit_Lim, wc_Lim_copy⟩, by decide +kernel, Nat.le_of_ble_eq_true rfl, Nat.le_of_ble_eq_true rfl⟩ rfl hl.1 rfl (Nat.le_of_ble_eq_true rfl) d_Mod_power_5 ⟨Nat.le_of_ble_eq_true rfl, Nat.le_of_ble_eq_true rfl⟩ (fun M1 H locs hp X => ?_)
  subst hp
  refine lv_aload_n hx hb d_Mod_power_8 rfl (lv_at hl 1 rfl) ?_
  refine gm_getsN hx hb hW hown X hz.1 wfn_Mod_64 d_Mod_power_9 ?_
  refine gm_Sv hx hb hml hown hW X (c_Lim_unpack l E _ ht1 hB (Or.inr hz.2)) (n := 2) ⟨⟨wl_Mod_67, ws_Lim_unpack, winit_Lim, wc_Lim_unpack⟩, by decide +kernel, Nat.le_of_ble_eq_true rfl, Nat.le_of_ble_eq_true rfl⟩ rfl hl.1 rfl (Nat.le_of_ble_eq_true rfl) d_Mod_power_12 ⟨Nat.le_of_ble_eq_true rfl, Nat.le_of_ble_eq_true rfl⟩ (fun M1 H locs hp X => ?_)
  subst hp
  refine lv_aload_n hx hb d_Mod_power_15 rfl (lv_at hl 1 rfl) ?_
  refine lv_iconst (v := 0) hx hb d_Mod_power_16 (by decide) ?_
  refine lv_lconst (v := 1) hx hb d_Mod_power_17 (by decide) ?_
  refine gm_last hx hb X (k := 0) (gm_up_s _ _ _) hB (by decide) ⟨by decide, by decide⟩ d_Mod_power_18 (fun H locs X => ?_)
  rw [gm_up_up] at X
  refine lv_sipush (v := 255) hx hb d_Mod_power_19 (by decide) ?_
  refine lv_istore (lv' := [(4, .int 255), (0, .ref o), (1, .ref to), (2, .ref y), (3, .ref x)]) hx hb d_Mod_power_22 hl (by decide) rfl (fun ls hl => ?_)
  have X : gx E (gm_up (gm_up (gm_up M fa (LA E 10 ga)) wi (LA E 20 g)) to (LA E 10 (poS b nw wv ga ev zf 0))) s H locs := by rw [gm_up_self hg1]; exact X
  refine lp_Mod_power (N := gm_up M fa (LA E 10 ga)) (y := y) (x := x) (zf := zf) hx hb hml hown hW hO1 hw hnw hA ⟨_, hg1⟩ hB ⟨_, ht1⟩ (gm_up_s _ _ _) hft (rdL_up2 he hf) (fun H locs ls w X => ?_) 256 0 rfl H locs ls g X hl
  exact gm_vret hx hb hr hlk X ⟨w, rfl⟩ d_Mod_power_61
set_option maxHeartbeats 1000000 in
theorem c_Mod_invert (l : Launch) (E : gm_E) (M : gm_M) {pa pl re wr wi tr gp fa o : Nat} {b : Int32} {to y nw tz : Nat} {wv ga gt ev zf g gf : Nat → Int64} (hO : M o = some (MO pa pl re wr b wi tr gp fa)) (hw : E.2.2.1 wr = some (nw, wv)) (hnw : nw ≤ 9) (hA : E.2.1 ≤ wi) (hg : M wi = some (LA E 20 g)) (hB : E.2.1 ≤ to) (ht : M to = some (LA E 10 gt)) (hF : E.2.1 ≤ fa) (hf : M fa = some (LA E 10 gf)) (hy : M y = some (LA E 10 ga)) (hft : fa ≠ to) (he : E.2.2.1 pl = some (4, ev)) (hz : stA E "ZERO" tz 4 zf) : cv_ l y_Mod_invert b_Mod_invert 3 none { frames := 4, cells := 0, slots := 0, locals := 109 } E M [.ref o, .ref to, .ref y] (fun M' => ∃ w, M' = gm_up (gm_up (gm_up M fa (LA E 10 ga)) wi (LA E 20 w)) to (LA E 10 (poS b nw wv ga ev zf 256))) := by
  refine gm_met (by decide) (Nat.le_of_ble_eq_true rfl) (fun p e s m below meth c ls hx hb hml hr hlk hnm hown hW X hl => ?_)
  have hl : lv_has ls 3 [(0, .ref o), (1, .ref to), (2, .ref y)] := hl
  refine lv_aload_n hx hb d_Mod_invert_0 rfl (lv_at hl 0 rfl) ?_
  refine lv_aload_n hx hb d_Mod_invert_1 rfl (lv_at hl 1 rfl) ?_
  refine lv_aload_n hx hb d_Mod_invert_2 rfl (lv_at hl 2 rfl) ?_
  refine lv_aload_n hx hb d_Mod_invert_3 rfl (lv_at hl 0 rfl) ?_
  refine gm_get hx hb hW hown X u_Mod hO rfl 1 (by decide) wf_Mod_27 (v := .ref pl) rfl d_Mod_invert_4 ?_
  refine gm_Vv hx hb hml hown hW X hO (c_Mod_power l E M hO hw hnw hA hg hB ht hF hf hy hft (Or.inr he) hz) (n := 3) ⟨⟨wl_Mod_77, wi_Mod_power, wsel_Mod_power, winit_Mod, wc_Mod_power⟩, by decide +kernel, ⟨Nat.le_of_ble_eq_true rfl, Nat.le_of_ble_eq_true rfl⟩, _, rfl, rfl⟩ rfl hl.1 rfl (Nat.le_of_ble_eq_true rfl) d_Mod_invert_7 ⟨Nat.le_of_ble_eq_true rfl, Nat.le_of_ble_eq_true rfl⟩ (fun M1 H locs hp X => ?_)
  exact gm_vret hx hb hr hlk X hp d_Mod_invert_10
set_option maxHeartbeats 1000000 in
theorem c_Mod_areCongruent (l : Launch) (E : gm_E) (M : gm_M) {pa pl re wr wi tr gp fa o : Nat} {b : Int32} {a x nr : Nat} {rv ga gb g g1 : Nat → Int64} (hO : M o = some (MO pa pl re wr b wi tr gp fa)) (hw : E.2.2.1 re = some (nr, rv)) (hnr : nr ≤ 9) (hA : E.2.1 ≤ gp) (hg : M gp = some (LA E 10 g)) (hT : E.2.1 ≤ tr) (hq : M tr = some (LA E 10 g1)) (hne : gp ≠ tr) (ha : M a = some (LA E 10 ga)) (hx2 : M x = some (LA E 10 gb)) : ci_ l y_Mod_areCongruent b_Mod_areCongruent 3 (some .boolean) { frames := 3, cells := 0, slots := 0, locals := 71 } E M [.ref o, .ref a, .ref x] (fun r M' => (∃ te ge, M' = gm_up (gm_up M tr (LA E 10 te)) gp (LA E 10 ge)) ∧ ((r = 1 ∧ ∀ j, j < 10 → seF (fun j => ga j - gb j) nr rv j = 0) ∨ (r = 0 ∧ ∃ j, j < 10 ∧ ¬ seF (fun j => ga j - gb j) nr rv j = 0))) := by
  refine gm_met (by decide) (Nat.le_of_ble_eq_true rfl) (fun p e s m below meth c ls hx hb hml hr hlk hnm hown hW X hl => ?_)
  have hl : lv_has ls 3 [(0, .ref o), (1, .ref a), (2, .ref x)] := hl
  have oo : ∀ e, gm_up M gp e o = some (MO pa pl re wr b wi tr gp fa) := fun e => ob_up hO hg
  refine lv_aload_n hx hb d_Mod_areCongruent_0 rfl (lv_at hl 0 rfl) ?_
  refine gm_get hx hb hW hown X u_Mod hO rfl 7 (by decide) wf_Mod_18 (v := .ref gp) rfl d_Mod_areCongruent_1 ?_
  refine lv_aload_n hx hb d_Mod_areCongruent_4 rfl (lv_at hl 1 rfl) ?_
  refine lv_aload_n hx hb d_Mod_areCongruent_5 rfl (lv_at hl 2 rfl) ?_
  refine gm_Sv hx hb hml hown hW X (c_Lim_minus l E M hg hA ha hx2) (n := 3) ⟨⟨wl_Mod_80, ws_Lim_minus, winit_Lim, wc_Lim_minus⟩, by decide +kernel, Nat.le_of_ble_eq_true rfl, Nat.le_of_ble_eq_true rfl⟩ rfl hl.1 rfl (Nat.le_of_ble_eq_true rfl) d_Mod_areCongruent_6 ⟨Nat.le_of_ble_eq_true rfl, Nat.le_of_ble_eq_true rfl⟩ (fun M1 H locs hp X => ?_)
  subst hp
  refine lv_aload_n hx hb d_Mod_areCongruent_9 rfl (lv_at hl 0 rfl) ?_
  refine lv_aload_n hx hb d_Mod_areCongruent_10 rfl (lv_at hl 0 rfl) ?_
  refine gm_get hx hb hW hown X u_Mod (oo _) rfl 7 (by decide) wf_Mod_18 (v := .ref gp) rfl d_Mod_areCongruent_11 ?_
  refine gm_Vv hx hb hml hown hW X (oo _) (c_Mod_settle l E _ (oo _) hw hA (gm_up_s _ _ _) hT ((gm_up_n _ _ (Ne.symm hne)).trans hq) hne hnr) (n := 1) ⟨⟨wl_Mod_83, wi_Mod_settle, wsel_Mod_settle, winit_Mod, wc_Mod_settle⟩, by decide +kernel, ⟨Nat.le_of_ble_eq_true rfl, Nat.le_of_ble_eq_true rfl⟩, _, rfl, rfl⟩ rfl hl.1 rfl (Nat.le_of_ble_eq_true rfl) d_Mod_areCongruent_14 ⟨Nat.le_of_ble_eq_true rfl, Nat.le_of_ble_eq_true rfl⟩ (fun M1 H locs hp X => ?_)
  obtain ⟨te, rfl⟩ := hp
  rw [gm_comm M _ _ hne, gm_up_up] at X
  have o2 : ∀ t e, gm_up (gm_up M tr (LA E 10 t)) gp e o = some (MO pa pl re wr b wi tr gp fa) := fun t e => ob_up (n := 10) (g := g) (ob_up hO hq) ((gm_up_n _ _ hne).trans hg)
  refine lv_aload_n hx hb d_Mod_areCongruent_17 rfl (lv_at hl 0 rfl) ?_
  refine gm_get hx hb hW hown X u_Mod (o2 _ _) rfl 7 (by decide) wf_Mod_18 (v := .ref gp) rfl d_Mod_areCongruent_18 ?_
  refine gm_Si hx hb hml hown hW X (c_Lim_areZero l E _ (gm_up_s _ _ _)) (n := 1) ⟨⟨wl_Mod_87, ws_Lim_areZero, winit_Lim, wc_Lim_areZero⟩, by decide +kernel, Nat.le_of_ble_eq_true rfl, Nat.le_of_ble_eq_true rfl⟩ rfl hl.1 rfl (Nat.le_of_ble_eq_true rfl) d_Mod_areCongruent_21 ⟨Nat.le_of_ble_eq_true rfl, Nat.le_of_ble_eq_true rfl⟩ (fun r M1 H locs hp X => ?_)
  rw [hp.1] at X
  refine gm_zret hx hb hr hlk X ?_ ⟨⟨te, _, rfl⟩, hp.2⟩ d_Mod_areCongruent_24
  rcases hp.2 with h | h <;> rw [h.1] <;> rfl
set_option maxHeartbeats 1000000 in
theorem c_Mod_isMultiple (l : Launch) (E : gm_E) (M : gm_M) {pa pl re wr wi tr gp fa o : Nat} {b : Int32} {a nr : Nat} {rv ga g g1 : Nat → Int64} (hO : M o = some (MO pa pl re wr b wi tr gp fa)) (hw : E.2.2.1 re = some (nr, rv)) (hnr : nr ≤ 9) (hA : E.2.1 ≤ gp) (hg : M gp = some (LA E 10 g)) (hT : E.2.1 ≤ tr) (hq : M tr = some (LA E 10 g1)) (hne : gp ≠ tr) (ha : M a = some (LA E 10 ga)) : ci_ l y_Mod_isMultiple b_Mod_isMultiple 2 (some .boolean) { frames := 3, cells := 0, slots := 0, locals := 71 } E M [.ref o, .ref a] (fun r M' => (∃ te ge, M' = gm_up (gm_up M tr (LA E 10 te)) gp (LA E 10 ge)) ∧ ((r = 1 ∧ ∀ j, j < 10 → seF ga nr rv j = 0) ∨ (r = 0 ∧ ∃ j, j < 10 ∧ ¬ seF ga nr rv j = 0))) := by
  refine gm_met (by decide) (Nat.le_of_ble_eq_true rfl) (fun p e s m below meth c ls hx hb hml hr hlk hnm hown hW X hl => ?_)
  have hl : lv_has ls 2 [(0, .ref o), (1, .ref a)] := hl
  have oo : ∀ e, gm_up M gp e o = some (MO pa pl re wr b wi tr gp fa) := fun e => ob_up hO hg
  refine lv_aload_n hx hb d_Mod_isMultiple_0 rfl (lv_at hl 0 rfl) ?_
  refine gm_get hx hb hW hown X u_Mod hO rfl 7 (by decide) wf_Mod_18 (v := .ref gp) rfl d_Mod_isMultiple_1 ?_
  refine lv_aload_n hx hb d_Mod_isMultiple_4 rfl (lv_at hl 1 rfl) ?_
  refine gm_Sv hx hb hml hown hW X (c_Lim_copy l E M hg hA ha (by decide)) (n := 2) ⟨⟨wl_Mod_60, ws_Lim_copy, winit_Lim, wc_Lim_copy⟩, by decide +kernel, Nat.le_of_ble_eq_true rfl, Nat.le_of_ble_eq_true rfl⟩ rfl hl.1 rfl (Nat.le_of_ble_eq_true rfl) d_Mod_isMultiple_5 ⟨Nat.le_of_ble_eq_true rfl, Nat.le_of_ble_eq_true rfl⟩ (fun M1 H locs hp X => ?_)
  subst hp
  refine lv_aload_n hx hb d_Mod_isMultiple_8 rfl (lv_at hl 0 rfl) ?_
  refine lv_aload_n hx hb d_Mod_isMultiple_9 rfl (lv_at hl 0 rfl) ?_
  refine gm_get hx hb hW hown X u_Mod (oo _) rfl 7 (by decide) wf_Mod_18 (v := .ref gp) rfl d_Mod_isMultiple_10 ?_
  refine gm_Vv hx hb hml hown hW X (oo _) (c_Mod_settle l E _ (oo _) hw hA (gm_up_s _ _ _) hT ((gm_up_n _ _ (Ne.symm hne)).trans hq) hne hnr) (n := 1) ⟨⟨wl_Mod_83, wi_Mod_settle, wsel_Mod_settle, winit_Mod, wc_Mod_settle⟩, by decide +kernel, ⟨Nat.le_of_ble_eq_true rfl, Nat.le_of_ble_eq_true rfl⟩, _, rfl, rfl⟩ rfl hl.1 rfl (Nat.le_of_ble_eq_true rfl) d_Mod_isMultiple_13 ⟨Nat.le_of_ble_eq_true rfl, Nat.le_of_ble_eq_true rfl⟩ (fun M1 H locs hp X => ?_)
  obtain ⟨te, rfl⟩ := hp
  rw [gm_comm M _ _ hne, gm_up_up] at X
  have o2 : ∀ t e, gm_up (gm_up M tr (LA E 10 t)) gp e o = some (MO pa pl re wr b wi tr gp fa) := fun t e => ob_up (n := 10) (g := g) (ob_up hO hq) ((gm_up_n _ _ hne).trans hg)
  refine lv_aload_n hx hb d_Mod_isMultiple_16 rfl (lv_at hl 0 rfl) ?_
  refine gm_get hx hb hW hown X u_Mod (o2 _ _) rfl 7 (by decide) wf_Mod_18 (v := .ref gp) rfl d_Mod_isMultiple_17 ?_
  refine gm_Si hx hb hml hown hW X (c_Lim_areZero l E _ (gm_up_s _ _ _)) (n := 1) ⟨⟨wl_Mod_87, ws_Lim_areZero, winit_Lim, wc_Lim_areZero⟩, by decide +kernel, Nat.le_of_ble_eq_true rfl, Nat.le_of_ble_eq_true rfl⟩ rfl hl.1 rfl (Nat.le_of_ble_eq_true rfl) d_Mod_isMultiple_20 ⟨Nat.le_of_ble_eq_true rfl, Nat.le_of_ble_eq_true rfl⟩ (fun r M1 H locs hp X => ?_)
  rw [hp.1] at X
  refine gm_zret hx hb hr hlk X ?_ ⟨⟨te, _, rfl⟩, hp.2⟩ d_Mod_isMultiple_23
  rcases hp.2 with h | h <;> rw [h.1] <;> rfl
