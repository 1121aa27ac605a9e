/-! PointBench: the calls behind their first checks: written by wip/gen/ben2.py -/
/-- a point is changed; nothing else that lasts -/
def kPt (t : Nat) (ρ ρ' : Nat → Nat → Int64) (fl fl' : Nat → Int32) : Prop := kB (t + 1) (t + 2) ρ ρ' ∧ ∀ j, (41 ≤ j ∨ j = 21) → j ≠ t → fl' j = fl j
/-- numbers are changed; nothing else that lasts -/
def kNu (t u : Nat) (ρ ρ' : Nat → Nat → Int64) (fl fl' : Nat → Int32) : Prop := kB t u ρ ρ' ∧ ∀ j, (41 ≤ j ∨ j = 21) → fl' j = fl j
theorem kNu.rf (t u : Nat) (ρ : Nat → Nat → Int64) (fl : Nat → Int32) : kNu t u ρ ρ fl fl := ⟨fun _ _ _ _ => rfl, fun _ _ => rfl⟩
theorem rtV_sq {F : Type} [Lean.Grind.CommRing F] {φ : Int → F} {x : F} {odd : Int32} (h : fp_pw (sqV x) (NV sRt) * fp_pw (sqV x) (NV sRt) = sqV x) : ec_on (x, rtV φ x odd) := by
  show rtV φ x odd * rtV φ x odd = x * x * x + 7
  have e : rtV φ x odd = fp_pw (sqV x) (NV sRt) ∨ rtV φ x odd = 0 - fp_pw (sqV x) (NV sRt) := by
    unfold rtV
    split
    · exact Or.inl rfl
    · exact Or.inr rfl
  unfold sqV at *
  rcases e with e | e
  · rw [e, h]
  · rw [e]
    grind
set_option maxHeartbeats 4000000 in
theorem bd_Ben_set {p : Program} {l : Launch} {e : Env} {s : State} {m : MethodId} {args : Array Value} {below : List Frame} {meth : Method} {c : Code} {Q : State → Prop} {F G : Type} [Lean.Grind.CommRing F] [Lean.Grind.CommRing G] {φ : Int → F} {inv : F → F} {ψ : Int → G} {E : gm_E} {ad : Nat → Nat} {N : gm_M} {ρ : Nat → Nat → Int64} {fl : Nat → Int32} (hx : p.tables.exec = Jvm.exec) (hb : c.code = b_Ben_set) (hml : c.maxLocals = 5) (hown : s.vm.findClass R_Ben = some m.cls) (hW : ∀ w ∈ WB, w.before args s = true) (hg : gE E ad) (hk : fk φ inv) (hn : fm ψ nN) {r : Nat} (h_r : r < 8) {q : Nat} (h_q : q < 4) {v : Int64} {H : Heap} {locs : List Loc} {ls : Array Slot} (X : gx E (cW E ad N ρ fl) s H locs) (hl : lv_has ls 5 [(0, .ref (E.2.1 + 0)), (1, .int (nI r)), (2, .int (nI q)), (3, .long v)])
    (kk : ∀ (z : Nat) (H : Heap) (locs : List Loc) (ls : Array Slot) ρ' fl', decode b_Ben_set z = .ok (.return_, 1) → gx E (cW E ad N ρ' fl') s H locs → (ρ' = va_up ρ (2 + r) (vp_updL (ρ (2 + r)) q v) ∧ fl' = fl) → W p l e { frames := 7, cells := 2, slots := 12, locals := 120 } s m args below meth c H locs 2 12 Q (F0 m z ls [])) :
    W p l e { frames := 7, cells := 2, slots := 12, locals := 120 } s m args below meth c H locs 2 12 Q (F0 m 8 ls []) := by
  have hf := hk.fm
  have I := isM_P hg
  have I2 := isM_N hg
  refine lv_aload_n hx hb d_Ben_set_8 rfl (lv_at hl 0 rfl) ?_
  refine gm_get hx hb hW hown X u_Ben o0 rfl 0 (by decide) wf_Ben_11 (v := .ref (E.2.1 + 1)) rfl d_Ben_set_9 ?_
  refine lv_iload_n hx hb d_Ben_set_12 rfl (lv_at hl 1 rfl) ?_
  refine gm_aald2 hx hb X (k := r) (t := E.2.1 + (2 + r)) oA1 rfl rfl ⟨h_r, by decide⟩ (if_pos h_r) d_Ben_set_13 ?_
  refine lv_iload_n hx hb d_Ben_set_14 rfl (lv_at hl 2 rfl) ?_
  refine lv_lload_n hx hb d_Ben_set_15 rfl (lv_at hl 3 rfl) ?_
  refine gm_last hx hb X (k := q) (cw_row (r4_n h_r)) (cw_ge _) rfl ⟨h_q, by decide⟩ d_Ben_set_16 (fun H locs X => ?_)
  rw [cw_upr _ (r4_n h_r)] at X
  exact kk _ H locs ls _ _ d_Ben_set_17 X ⟨rfl, rfl⟩
set_option maxHeartbeats 4000000 in
theorem bd_Ben_get {p : Program} {l : Launch} {e : Env} {s : State} {m : MethodId} {args : Array Value} {below : List Frame} {meth : Method} {c : Code} {Q : State → Prop} {F G : Type} [Lean.Grind.CommRing F] [Lean.Grind.CommRing G] {φ : Int → F} {inv : F → F} {ψ : Int → G} {E : gm_E} {ad : Nat → Nat} {N : gm_M} {ρ : Nat → Nat → Int64} {fl : Nat → Int32} (hx : p.tables.exec = Jvm.exec) (hb : c.code = b_Ben_get) (hml : c.maxLocals = 3) (hown : s.vm.findClass R_Ben = some m.cls) (hW : ∀ w ∈ WB, w.before args s = true) (hg : gE E ad) (hk : fk φ inv) (hn : fm ψ nN) {a : Nat} (h_a : a < 8) {q : Nat} (h_q : q < 4)  {H : Heap} {locs : List Loc} {ls : Array Slot} (X : gx E (cW E ad N ρ fl) s H locs) (hl : lv_has ls 3 [(0, .ref (E.2.1 + 0)), (1, .int (nI a)), (2, .int (nI q))])
    (kk : ∀ (z : Nat) (H : Heap) (locs : List Loc) (ls : Array Slot) ρ' fl' (r : Int64), decode b_Ben_get z = .ok (.lreturn, 1) → gx E (cW E ad N ρ' fl') s H locs → (r = ρ (2 + a) q ∧ ρ' = ρ ∧ fl' = fl) → W p l e { frames := 7, cells := 2, slots := 12, locals := 120 } s m args below meth c H locs 2 12 Q (F0 m z ls [.long r])) :
    W p l e { frames := 7, cells := 2, slots := 12, locals := 120 } s m args below meth c H locs 2 12 Q (F0 m 8 ls []) := by
  have hf := hk.fm
  have I := isM_P hg
  have I2 := isM_N hg
  refine lv_aload_n hx hb d_Ben_get_8 rfl (lv_at hl 0 rfl) ?_
  refine gm_get hx hb hW hown X u_Ben o0 rfl 0 (by decide) wf_Ben_11 (v := .ref (E.2.1 + 1)) rfl d_Ben_get_9 ?_
  refine lv_iload_n hx hb d_Ben_get_12 rfl (lv_at hl 1 rfl) ?_
  refine gm_aald2 hx hb X (k := a) (t := E.2.1 + (2 + a)) oA1 rfl rfl ⟨h_a, by decide⟩ (if_pos h_a) d_Ben_get_13 ?_
  refine lv_iload_n hx hb d_Ben_get_14 rfl (lv_at hl 2 rfl) ?_
  refine gm_lald hx hb X (k := q) (Or.inl (cw_row (r4_n h_a))) rfl ⟨h_q, by decide⟩ d_Ben_get_15 ?_
  exact kk _ H locs ls ρ fl _ d_Ben_get_16 X ⟨rfl, rfl, rfl⟩
set_option maxHeartbeats 4000000 in
theorem bd_Ben_compare {p : Program} {l : Launch} {e : Env} {s : State} {m : MethodId} {args : Array Value} {below : List Frame} {meth : Method} {c : Code} {Q : State → Prop} {F G : Type} [Lean.Grind.CommRing F] [Lean.Grind.CommRing G] {φ : Int → F} {inv : F → F} {ψ : Int → G} {E : gm_E} {ad : Nat → Nat} {N : gm_M} {ρ : Nat → Nat → Int64} {fl : Nat → Int32} (hx : p.tables.exec = Jvm.exec) (hb : c.code = b_Ben_compare) (hml : c.maxLocals = 3) (hown : s.vm.findClass R_Ben = some m.cls) (hW : ∀ w ∈ WB, w.before args s = true) (hg : gE E ad) (hk : fk φ inv) (hn : fm ψ nN) {a : Nat} (h_a : a < 8) {b : Nat} (h_b : b < 8)  {H : Heap} {locs : List Loc} {ls : Array Slot} (X : gx E (cW E ad N ρ fl) s H locs) (hl : lv_has ls 3 [(0, .ref (E.2.1 + 0)), (1, .int (nI a)), (2, .int (nI b))])
    (kk : ∀ (z : Nat) (H : Heap) (locs : List Loc) (ls : Array Slot) ρ' fl' (r : Int32), decode b_Ben_compare z = .ok (.ireturn, 1) → gx E (cW E ad N ρ' fl') s H locs → (r = cmN (NV (ρ (2 + a))) (NV (ρ (2 + b))) ∧ ρ' = ρ ∧ fl' = fl) → W p l e { frames := 7, cells := 2, slots := 12, locals := 120 } s m args below meth c H locs 2 12 Q (F0 m z ls [.int r])) :
    W p l e { frames := 7, cells := 2, slots := 12, locals := 120 } s m args below meth c H locs 2 12 Q (F0 m 8 ls []) := by
  have hf := hk.fm
  have I := isM_P hg
  have I2 := isM_N hg
  refine lv_aload_n hx hb d_Ben_compare_8 rfl (lv_at hl 0 rfl) ?_
  refine gm_get hx hb hW hown X u_Ben o0 rfl 0 (by decide) wf_Ben_11 (v := .ref (E.2.1 + 1)) rfl d_Ben_compare_9 ?_
  refine lv_iload_n hx hb d_Ben_compare_12 rfl (lv_at hl 1 rfl) ?_
  refine gm_aald2 hx hb X (k := a) (t := E.2.1 + (2 + a)) oA1 rfl rfl ⟨h_a, by decide⟩ (if_pos h_a) d_Ben_compare_13 ?_
  refine lv_aload_n hx hb d_Ben_compare_14 rfl (lv_at hl 0 rfl) ?_
  refine gm_get hx hb hW hown X u_Ben o0 rfl 0 (by decide) wf_Ben_11 (v := .ref (E.2.1 + 1)) rfl d_Ben_compare_15 ?_
  refine lv_iload_n hx hb d_Ben_compare_18 rfl (lv_at hl 2 rfl) ?_
  refine gm_aald2 hx hb X (k := b) (t := E.2.1 + (2 + b)) oA1 rfl rfl ⟨h_b, by decide⟩ (if_pos h_b) d_Ben_compare_19 ?_
  refine gm_Si hx hb hml hown hW X (c_Par_order l E _ (Or.inl (cw_row (r4_n h_a))) (Or.inl (cw_row (r4_n h_b)))) (n := 2) ⟨⟨wl_Ben_118, ws_Par_order, winit_Par, wc_Par_order⟩, by decide +kernel, Nat.le_of_ble_eq_true rfl, Nat.le_of_ble_eq_true rfl⟩ rfl hl.1 rfl (Nat.le_of_ble_eq_true rfl) d_Ben_compare_20 ⟨Nat.le_of_ble_eq_true rfl, Nat.le_of_ble_eq_true rfl⟩ (fun r M1 H locs hp X => ?_)
  rw [hp.1] at X
  exact kk _ H locs ls ρ fl r d_Ben_compare_23 X ⟨hp.2.trans (ordF_cm _ _), rfl, rfl⟩
set_option maxHeartbeats 4000000 in
theorem bd_Ben_work_0 {p : Program} {l : Launch} {e : Env} {s : State} {m : MethodId} {args : Array Value} {below : List Frame} {meth : Method} {c : Code} {Q : State → Prop} {F G : Type} [Lean.Grind.CommRing F] [Lean.Grind.CommRing G] {φ : Int → F} {inv : F → F} {ψ : Int → G} {E : gm_E} {ad : Nat → Nat} {N : gm_M} {ρ : Nat → Nat → Int64} {fl : Nat → Int32} (hx : p.tables.exec = Jvm.exec) (hb : c.code = b_Ben_work) (hml : c.maxLocals = 7) (hown : s.vm.findClass R_Ben = some m.cls) (hW : ∀ w ∈ WB, w.before args s = true) (hg : gE E ad) (hk : fk φ inv) (hn : fm ψ nN) {t : Nat} (h_t : t < 8) {a : Nat} (h_a : a < 8) {b : Nat} (h_b : b < 8)  {H : Heap} {locs : List Loc} {ls : Array Slot} (X : gx E (cW E ad N ρ fl) s H locs) (hl : lv_has ls 7 [(0, .ref (E.2.1 + 0)), (1, .int 0), (2, .int (nI t)), (3, .int (nI a)), (4, .int (nI b))])
    (kk : ∀ (z : Nat) (H : Heap) (locs : List Loc) (ls : Array Slot) ρ' fl' (r : Int32), decode b_Ben_work z = .ok (.ireturn, 1) → gx E (cW E ad N ρ' fl') s H locs → ((r = 0 ∧ ¬ wkOK 0 nP (NV (ρ (2 + a))) (NV (ρ (2 + b))) ∧ kNu 0 0 ρ ρ' fl fl') ∨ (r = 1 ∧ wkOK 0 nP (NV (ρ (2 + a))) (NV (ρ (2 + b))) ∧ NV (ρ' (2 + t)) = rp φ nP (wkV φ 0 (NV sP2) (NV (ρ (2 + a))) (NV (ρ (2 + b)))) ∧ kNu (2 + t) 0 ρ ρ' fl fl')) → W p l e { frames := 7, cells := 4, slots := 24, locals := 153 } s m args below meth c H locs 4 24 Q (F0 m z ls [.int r])) :
    W p l e { frames := 7, cells := 4, slots := 24, locals := 153 } s m args below meth c H locs 4 24 Q (F0 m 17 ls []) := by
  have hf := hk.fm
  have I := isM_P hg
  have I2 := isM_N hg
  refine lv_iload_n hx hb d_Ben_work_17 rfl (lv_at hl 1 rfl) ?_
  refine lv_iconst (v := 4) hx hb d_Ben_work_18 (by decide) ?_
  refine lv_icmp_ge (tgt := 29) hx hb d_Ben_work_19 (by decide) (fun c9 => absurd c9 (by decide)) (fun _ => ?_)
  refine lv_aload_n hx hb d_Ben_work_22 rfl (lv_at hl 0 rfl) ?_
  refine gm_get hx hb hW hown X u_Ben o0 rfl 2 (by decide) wf_Ben_38 (v := .ref (E.2.1 + 11)) rfl d_Ben_work_23 ?_
  refine lv_goto (tgt := 33) hx hb d_Ben_work_26 (by decide) ?_
  refine lv_astore (lv' := [(5, .ref (E.2.1 + 11)), (0, .ref (E.2.1 + 0)), (1, .int 0), (2, .int (nI t)), (3, .int (nI a)), (4, .int (nI b))]) hx hb d_Ben_work_33 hl (by decide) rfl (fun ls hl => ?_)
  refine lv_iload_n hx hb d_Ben_work_35 rfl (lv_at hl 2 rfl) ?_
  refine lv_iconst (v := 4) hx hb d_Ben_work_36 (by decide) ?_
  refine lv_irem hx hb d_Ben_work_37 (by decide) ?_
  refine lv_eqi (v := 0) (by decide) ?_
  refine lv_istore (lv' := [(6, .int 0), (5, .ref (E.2.1 + 11)), (0, .ref (E.2.1 + 0)), (1, .int 0), (2, .int (nI t)), (3, .int (nI a)), (4, .int (nI b))]) hx hb d_Ben_work_38 hl (by decide) rfl (fun ls hl => ?_)
  refine lv_aload hx hb d_Ben_work_40 (lv_at hl 1 rfl) ?_
  refine lv_aload_n hx hb d_Ben_work_42 rfl (lv_at hl 2 rfl) ?_
  refine gm_get hx hb hW hown X u_Ben o0 rfl 0 (by decide) wf_Ben_11 (v := .ref (E.2.1 + 1)) rfl d_Ben_work_43 ?_
  refine lv_iload_n hx hb d_Ben_work_46 rfl (lv_at hl 5 rfl) ?_
  refine gm_aald2 hx hb X (k := a) (t := E.2.1 + (2 + a)) oA1 rfl rfl ⟨h_a, by decide⟩ (if_pos h_a) d_Ben_work_47 ?_
  refine gm_Vi hx hb hml hown hW X o11 (k_isAbove l I (Or.inl (cw_row (r4_n h_a)))) (n := 1) ⟨⟨wl_Ben_126, wi_Mod_isAbove, wsel_Mod_isAbove, winit_Mod, wc_Mod_isAbove⟩, by decide +kernel, ⟨Nat.le_of_ble_eq_true rfl, Nat.le_of_ble_eq_true rfl⟩, _, rfl, rfl⟩ rfl hl.1 rfl (Nat.le_of_ble_eq_true rfl) d_Ben_work_48 ⟨Nat.le_of_ble_eq_true rfl, Nat.le_of_ble_eq_true rfl⟩ (fun r1 M1 H locs hp X => ?_)
  rw [hp.1] at X
  have h1 := hp.2
  refine lv_if_ne (tgt := 56) hx hb d_Ben_work_51 (by decide) (fun c51 => ?_) (fun c51 => ?_)
  · have hlt : (NV (ρ (2 + a)) : Int) < nP := by rcases h1 with h | h; exact absurd h.1 c51; exact h.2
    refine lv_iload hx hb d_Ben_work_56 (lv_at hl 0 rfl) ?_
    refine lv_iconst (v := 3) hx hb d_Ben_work_58 (by decide) ?_
    refine lv_icmp_ne (tgt := 77) hx hb d_Ben_work_59 (by decide) (fun _ => ?_) (fun c9 => absurd c9 (by decide))
    refine lv_aload hx hb d_Ben_work_77 (lv_at hl 1 rfl) ?_
    refine lv_aload_n hx hb d_Ben_work_79 rfl (lv_at hl 2 rfl) ?_
    refine gm_get hx hb hW hown X u_Ben o0 rfl 0 (by decide) wf_Ben_11 (v := .ref (E.2.1 + 1)) rfl d_Ben_work_80 ?_
    refine lv_iload hx hb d_Ben_work_83 (lv_at hl 6 rfl) ?_
    refine gm_aald2 hx hb X (k := b) (t := E.2.1 + (2 + b)) oA1 rfl rfl ⟨h_b, by decide⟩ (if_pos h_b) d_Ben_work_85 ?_
    refine gm_Vi hx hb hml hown hW X o11 (k_isAbove l I (Or.inl (cw_row (r4_n h_b)))) (n := 1) ⟨⟨wl_Ben_126, wi_Mod_isAbove, wsel_Mod_isAbove, winit_Mod, wc_Mod_isAbove⟩, by decide +kernel, ⟨Nat.le_of_ble_eq_true rfl, Nat.le_of_ble_eq_true rfl⟩, _, rfl, rfl⟩ rfl hl.1 rfl (Nat.le_of_ble_eq_true rfl) d_Ben_work_86 ⟨Nat.le_of_ble_eq_true rfl, Nat.le_of_ble_eq_true rfl⟩ (fun r2 M1 H locs hp X => ?_)
    rw [hp.1] at X
    have h2 := hp.2
    refine lv_if_ne (tgt := 94) hx hb d_Ben_work_89 (by decide) (fun c89 => ?_) (fun c89 => ?_)
    · have hq2 : (NV (ρ (2 + b)) : Int) < nP := by rcases h2 with h | h; exact absurd h.1 c89; exact h.2
      refine lv_aload_n hx hb d_Ben_work_94 rfl (lv_at hl 2 rfl) ?_
      refine gm_get hx hb hW hown X u_Ben o0 rfl 7 (by decide) wf_Ben_74 (v := .ref (E.2.1 + 36)) rfl d_Ben_work_95 ?_
      refine lv_aload_n hx hb d_Ben_work_98 rfl (lv_at hl 2 rfl) ?_
      refine gm_get hx hb hW hown X u_Ben o0 rfl 0 (by decide) wf_Ben_11 (v := .ref (E.2.1 + 1)) rfl d_Ben_work_99 ?_
      refine lv_iload_n hx hb d_Ben_work_102 rfl (lv_at hl 5 rfl) ?_
      refine gm_aald2 hx hb X (k := a) (t := E.2.1 + (2 + a)) oA1 rfl rfl ⟨h_a, by decide⟩ (if_pos h_a) d_Ben_work_103 ?_
      have e104 := (rfl : ρ (2 + a) = ρ (2 + a))
      refine gm_Sv hx hb hml hown hW X (k_unpack l (by decide) (Or.inl (cw_row (r4_n h_a)))) (n := 2) ⟨⟨wl_Ben_95, ws_Lim_unpack, winit_Lim, wc_Lim_unpack⟩, by decide +kernel, Nat.le_of_ble_eq_true rfl, Nat.le_of_ble_eq_true rfl⟩ rfl hl.1 rfl (Nat.le_of_ble_eq_true rfl) d_Ben_work_104 ⟨Nat.le_of_ble_eq_true rfl, Nat.le_of_ble_eq_true rfl⟩ (fun M1 H locs hp X => ?_)
      obtain ⟨ρ1, rfl, q1, kk1⟩ := hp
      have u36_1 : ρ1 36 = unF (ρ (2 + a)) := by rw [q1, e104]
      refine lv_aload_n hx hb d_Ben_work_107 rfl (lv_at hl 2 rfl) ?_
      refine gm_get hx hb hW hown X u_Ben o0 rfl 8 (by decide) wf_Ben_77 (v := .ref (E.2.1 + 37)) rfl d_Ben_work_108 ?_
      refine lv_aload_n hx hb d_Ben_work_111 rfl (lv_at hl 2 rfl) ?_
      refine gm_get hx hb hW hown X u_Ben o0 rfl 0 (by decide) wf_Ben_11 (v := .ref (E.2.1 + 1)) rfl d_Ben_work_112 ?_
      refine lv_iload hx hb d_Ben_work_115 (lv_at hl 6 rfl) ?_
      refine gm_aald2 hx hb X (k := b) (t := E.2.1 + (2 + b)) oA1 rfl rfl ⟨h_b, by decide⟩ (if_pos h_b) d_Ben_work_117 ?_
      have e118 := (show ρ1 (2 + b) = ρ (2 + b) by rw [kk1 (2 + b) (by omega)])
      refine gm_Sv hx hb hml hown hW X (k_unpack l (by decide) (Or.inl (cw_row (r4_n h_b)))) (n := 2) ⟨⟨wl_Ben_95, ws_Lim_unpack, winit_Lim, wc_Lim_unpack⟩, by decide +kernel, Nat.le_of_ble_eq_true rfl, Nat.le_of_ble_eq_true rfl⟩ rfl hl.1 rfl (Nat.le_of_ble_eq_true rfl) d_Ben_work_118 ⟨Nat.le_of_ble_eq_true rfl, Nat.le_of_ble_eq_true rfl⟩ (fun M1 H locs hp X => ?_)
      obtain ⟨ρ2, rfl, q2, kk2⟩ := hp
      have u36_2 : ρ2 36 = unF (ρ (2 + a)) := by rw [kk2 36 (by omega)]; exact u36_1
      have u37_2 : ρ2 37 = unF (ρ (2 + b)) := by rw [q2, e118]
      refine lv_aload_n hx hb d_Ben_work_121 rfl (lv_at hl 2 rfl) ?_
      refine lv_iload hx hb d_Ben_work_122 (lv_at hl 0 rfl) ?_
      refine lv_aload hx hb d_Ben_work_124 (lv_at hl 1 rfl) ?_
      refine gm_Vv hx hb hml hown hW X o0 (k_Ben_workOnLeft_0 l E ad N ρ2 fl I hf (by decide) (show RV φ (ρ2 36) 1 (φ (NV (ρ (2 + a)))) by rw [u36_2]; exact RV.un _ _) (show RV φ (ρ2 37) 1 (φ (NV (ρ (2 + b)))) by rw [u37_2]; exact RV.un _ _)) (n := 2) ⟨⟨wl_Ben_133, wi_Ben_workOnLeft, wsel_Ben_workOnLeft, winit_Ben, wc_Ben_workOnLeft⟩, by decide +kernel, ⟨Nat.le_of_ble_eq_true rfl, Nat.le_of_ble_eq_true rfl⟩, _, rfl, rfl⟩ rfl hl.1 rfl (Nat.le_of_ble_eq_true rfl) d_Ben_work_126 ⟨Nat.le_of_ble_eq_true rfl, Nat.le_of_ble_eq_true rfl⟩ (fun M1 H locs hp X => ?_)
      obtain ⟨ρ3, rfl, q3, kk3⟩ := hp
      have u37_3 : ρ3 37 = unF (ρ (2 + b)) := by rw [kk3 37 (by omega) (by omega)]; exact u37_2
      have h36_3 : RV φ (ρ3 36) 2 (wkV φ 0 (NV sP2) (NV (ρ (2 + a))) (NV (ρ (2 + b)))) := q3
      refine lv_aload hx hb d_Ben_work_129 (lv_at hl 1 rfl) ?_
      refine lv_aload_n hx hb d_Ben_work_131 rfl (lv_at hl 2 rfl) ?_
      refine gm_get hx hb hW hown X u_Ben o0 rfl 7 (by decide) wf_Ben_74 (v := .ref (E.2.1 + 36)) rfl d_Ben_work_132 ?_
      refine gm_Vv hx hb hml hown hW X o11 (k_settle l I hf (by decide) (by omega) h36_3 (by decide)) (n := 1) ⟨⟨wl_Ben_137, wi_Mod_settle, wsel_Mod_settle, winit_Mod, wc_Mod_settle⟩, by decide +kernel, ⟨Nat.le_of_ble_eq_true rfl, Nat.le_of_ble_eq_true rfl⟩, _, rfl, rfl⟩ rfl hl.1 rfl (Nat.le_of_ble_eq_true rfl) d_Ben_work_135 ⟨Nat.le_of_ble_eq_true rfl, Nat.le_of_ble_eq_true rfl⟩ (fun M1 H locs hp X => ?_)
      obtain ⟨ρ4, rfl, q4, kk4⟩ := hp
      have u37_4 : ρ4 37 = unF (ρ (2 + b)) := by rw [kk4 37 (by omega) (by omega)]; exact u37_3
      have s36_4 : ST φ nP (ρ4 36) (wkV φ 0 (NV sP2) (NV (ρ (2 + a))) (NV (ρ (2 + b)))) := q4
      refine lv_aload_n hx hb d_Ben_work_138 rfl (lv_at hl 2 rfl) ?_
      refine gm_get hx hb hW hown X u_Ben o0 rfl 0 (by decide) wf_Ben_11 (v := .ref (E.2.1 + 1)) rfl d_Ben_work_139 ?_
      refine lv_iload_n hx hb d_Ben_work_142 rfl (lv_at hl 4 rfl) ?_
      refine gm_aald2 hx hb X (k := t) (t := E.2.1 + (2 + t)) oA1 rfl rfl ⟨h_t, by decide⟩ (if_pos h_t) d_Ben_work_143 ?_
      refine lv_aload_n hx hb d_Ben_work_144 rfl (lv_at hl 2 rfl) ?_
      refine gm_get hx hb hW hown X u_Ben o0 rfl 7 (by decide) wf_Ben_74 (v := .ref (E.2.1 + 36)) rfl d_Ben_work_145 ?_
      refine gm_Sv hx hb hml hown hW X (k_pack l (r4_n h_t) (by decide)) (n := 2) ⟨⟨wl_Ben_141, ws_Lim_pack, winit_Lim, wc_Lim_pack⟩, by decide +kernel, Nat.le_of_ble_eq_true rfl, Nat.le_of_ble_eq_true rfl⟩ rfl hl.1 rfl (Nat.le_of_ble_eq_true rfl) d_Ben_work_148 ⟨Nat.le_of_ble_eq_true rfl, Nat.le_of_ble_eq_true rfl⟩ (fun M1 H locs hp X => ?_)
      obtain ⟨ρ5, rfl, q5, kk5⟩ := hp
      have s36_5 : ST φ nP (ρ5 36) (wkV φ 0 (NV sP2) (NV (ρ (2 + a))) (NV (ρ (2 + b)))) := by rw [kk5 36 (by omega)]; exact s36_4
      have u37_5 : ρ5 37 = unF (ρ (2 + b)) := by rw [kk5 37 (by omega)]; exact u37_4
      refine lv_iconst (v := 1) hx hb d_Ben_work_151 (by decide) ?_
      refine kk _ H locs ls ρ5 fl 1 d_Ben_work_152 X (Or.inr ⟨rfl, ⟨hlt, hq2⟩, ?_, fun j hj h1 h2 => by rw [kk5 j (by omega), kk4 j (by omega) (by omega), kk3 j (by omega) (by omega), kk2 j (by omega), kk1 j (by omega)], fun _ _ => rfl⟩)
      rw [q5]
      exact s36_4.pkr hf
    · have hq2 : ¬ (NV (ρ (2 + b)) : Int) < nP := by rcases h2 with h | h; exact h.2; exact absurd (h.1.symm.trans c89) (by decide)
      refine lv_iconst (v := 0) hx hb d_Ben_work_92 (by decide) ?_
      exact kk _ H locs ls ρ fl _ d_Ben_work_93 X (Or.inl ⟨rfl, fun z => hq2 z.2, kNu.rf _ _ _ _⟩)
  · have hlt : ¬ (NV (ρ (2 + a)) : Int) < nP := by rcases h1 with h | h; exact h.2; exact absurd (h.1.symm.trans c51) (by decide)
    refine lv_iconst (v := 0) hx hb d_Ben_work_54 (by decide) ?_
    exact kk _ H locs ls ρ fl _ d_Ben_work_55 X (Or.inl ⟨rfl, fun z => hlt z.1, kNu.rf _ _ _ _⟩)
set_option maxHeartbeats 4000000 in
theorem bd_Ben_work_1 {p : Program} {l : Launch} {e : Env} {s : State} {m : MethodId} {args : Array Value} {below : List Frame} {meth : Method} {c : Code} {Q : State → Prop} {F G : Type} [Lean.Grind.CommRing F] [Lean.Grind.CommRing G] {φ : Int → F} {inv : F → F} {ψ : Int → G} {E : gm_E} {ad : Nat → Nat} {N : gm_M} {ρ : Nat → Nat → Int64} {fl : Nat → Int32} (hx : p.tables.exec = Jvm.exec) (hb : c.code = b_Ben_work) (hml : c.maxLocals = 7) (hown : s.vm.findClass R_Ben = some m.cls) (hW : ∀ w ∈ WB, w.before args s = true) (hg : gE E ad) (hk : fk φ inv) (hn : fm ψ nN) {t : Nat} (h_t : t < 8) {a : Nat} (h_a : a < 8) {b : Nat} (h_b : b < 8)  {H : Heap} {locs : List Loc} {ls : Array Slot} (X : gx E (cW E ad N ρ fl) s H locs) (hl : lv_has ls 7 [(0, .ref (E.2.1 + 0)), (1, .int 1), (2, .int (nI t)), (3, .int (nI a)), (4, .int (nI b))])
    (kk : ∀ (z : Nat) (H : Heap) (locs : List Loc) (ls : Array Slot) ρ' fl' (r : Int32), decode b_Ben_work z = .ok (.ireturn, 1) → gx E (cW E ad N ρ' fl') s H locs → ((r = 0 ∧ ¬ wkOK 1 nP (NV (ρ (2 + a))) (NV (ρ (2 + b))) ∧ kNu 0 0 ρ ρ' fl fl') ∨ (r = 1 ∧ wkOK 1 nP (NV (ρ (2 + a))) (NV (ρ (2 + b))) ∧ NV (ρ' (2 + t)) = rp φ nP (wkV φ 1 (NV sP2) (NV (ρ (2 + a))) (NV (ρ (2 + b)))) ∧ kNu (2 + t) 0 ρ ρ' fl fl')) → W p l e { frames := 7, cells := 4, slots := 24, locals := 153 } s m args below meth c H locs 4 24 Q (F0 m z ls [.int r])) :
    W p l e { frames := 7, cells := 4, slots := 24, locals := 153 } s m args below meth c H locs 4 24 Q (F0 m 17 ls []) := by
  have hf := hk.fm
  have I := isM_P hg
  have I2 := isM_N hg
  refine lv_iload_n hx hb d_Ben_work_17 rfl (lv_at hl 1 rfl) ?_
  refine lv_iconst (v := 4) hx hb d_Ben_work_18 (by decide) ?_
  refine lv_icmp_ge (tgt := 29) hx hb d_Ben_work_19 (by decide) (fun c9 => absurd c9 (by decide)) (fun _ => ?_)
  refine lv_aload_n hx hb d_Ben_work_22 rfl (lv_at hl 0 rfl) ?_
  refine gm_get hx hb hW hown X u_Ben o0 rfl 2 (by decide) wf_Ben_38 (v := .ref (E.2.1 + 11)) rfl d_Ben_work_23 ?_
  refine lv_goto (tgt := 33) hx hb d_Ben_work_26 (by decide) ?_
  refine lv_astore (lv' := [(5, .ref (E.2.1 + 11)), (0, .ref (E.2.1 + 0)), (1, .int 1), (2, .int (nI t)), (3, .int (nI a)), (4, .int (nI b))]) hx hb d_Ben_work_33 hl (by decide) rfl (fun ls hl => ?_)
  refine lv_iload_n hx hb d_Ben_work_35 rfl (lv_at hl 2 rfl) ?_
  refine lv_iconst (v := 4) hx hb d_Ben_work_36 (by decide) ?_
  refine lv_irem hx hb d_Ben_work_37 (by decide) ?_
  refine lv_eqi (v := 1) (by decide) ?_
  refine lv_istore (lv' := [(6, .int 1), (5, .ref (E.2.1 + 11)), (0, .ref (E.2.1 + 0)), (1, .int 1), (2, .int (nI t)), (3, .int (nI a)), (4, .int (nI b))]) hx hb d_Ben_work_38 hl (by decide) rfl (fun ls hl => ?_)
  refine lv_aload hx hb d_Ben_work_40 (lv_at hl 1 rfl) ?_
  refine lv_aload_n hx hb d_Ben_work_42 rfl (lv_at hl 2 rfl) ?_
  refine gm_get hx hb hW hown X u_Ben o0 rfl 0 (by decide) wf_Ben_11 (v := .ref (E.2.1 + 1)) rfl d_Ben_work_43 ?_
  refine lv_iload_n hx hb d_Ben_work_46 rfl (lv_at hl 5 rfl) ?_
  refine gm_aald2 hx hb X (k := a) (t := E.2.1 + (2 + a)) oA1 rfl rfl ⟨h_a, by decide⟩ (if_pos h_a) d_Ben_work_47 ?_
  refine gm_Vi hx hb hml hown hW X o11 (k_isAbove l I (Or.inl (cw_row (r4_n h_a)))) (n := 1) ⟨⟨wl_Ben_126, wi_Mod_isAbove, wsel_Mod_isAbove, winit_Mod, wc_Mod_isAbove⟩, by decide +kernel, ⟨Nat.le_of_ble_eq_true rfl, Nat.le_of_ble_eq_true rfl⟩, _, rfl, rfl⟩ rfl hl.1 rfl (Nat.le_of_ble_eq_true rfl) d_Ben_work_48 ⟨Nat.le_of_ble_eq_true rfl, Nat.le_of_ble_eq_true rfl⟩ (fun r1 M1 H locs hp X => ?_)
  rw [hp.1] at X
  have h1 := hp.2
  refine lv_if_ne (tgt := 56) hx hb d_Ben_work_51 (by decide) (fun c51 => ?_) (fun c51 => ?_)
  · have hlt : (NV (ρ (2 + a)) : Int) < nP := by rcases h1 with h | h; exact absurd h.1 c51; exact h.2
    refine lv_iload hx hb d_Ben_work_56 (lv_at hl 0 rfl) ?_
    refine lv_iconst (v := 3) hx hb d_Ben_work_58 (by decide) ?_
    refine lv_icmp_ne (tgt := 77) hx hb d_Ben_work_59 (by decide) (fun _ => ?_) (fun c9 => absurd c9 (by decide))
    refine lv_aload hx hb d_Ben_work_77 (lv_at hl 1 rfl) ?_
    refine lv_aload_n hx hb d_Ben_work_79 rfl (lv_at hl 2 rfl) ?_
    refine gm_get hx hb hW hown X u_Ben o0 rfl 0 (by decide) wf_Ben_11 (v := .ref (E.2.1 + 1)) rfl d_Ben_work_80 ?_
    refine lv_iload hx hb d_Ben_work_83 (lv_at hl 6 rfl) ?_
    refine gm_aald2 hx hb X (k := b) (t := E.2.1 + (2 + b)) oA1 rfl rfl ⟨h_b, by decide⟩ (if_pos h_b) d_Ben_work_85 ?_
    refine gm_Vi hx hb hml hown hW X o11 (k_isAbove l I (Or.inl (cw_row (r4_n h_b)))) (n := 1) ⟨⟨wl_Ben_126, wi_Mod_isAbove, wsel_Mod_isAbove, winit_Mod, wc_Mod_isAbove⟩, by decide +kernel, ⟨Nat.le_of_ble_eq_true rfl, Nat.le_of_ble_eq_true rfl⟩, _, rfl, rfl⟩ rfl hl.1 rfl (Nat.le_of_ble_eq_true rfl) d_Ben_work_86 ⟨Nat.le_of_ble_eq_true rfl, Nat.le_of_ble_eq_true rfl⟩ (fun r2 M1 H locs hp X => ?_)
    rw [hp.1] at X
    have h2 := hp.2
    refine lv_if_ne (tgt := 94) hx hb d_Ben_work_89 (by decide) (fun c89 => ?_) (fun c89 => ?_)
    · have hq2 : (NV (ρ (2 + b)) : Int) < nP := by rcases h2 with h | h; exact absurd h.1 c89; exact h.2
      refine lv_aload_n hx hb d_Ben_work_94 rfl (lv_at hl 2 rfl) ?_
      refine gm_get hx hb hW hown X u_Ben o0 rfl 7 (by decide) wf_Ben_74 (v := .ref (E.2.1 + 36)) rfl d_Ben_work_95 ?_
      refine lv_aload_n hx hb d_Ben_work_98 rfl (lv_at hl 2 rfl) ?_
      refine gm_get hx hb hW hown X u_Ben o0 rfl 0 (by decide) wf_Ben_11 (v := .ref (E.2.1 + 1)) rfl d_Ben_work_99 ?_
      refine lv_iload_n hx hb d_Ben_work_102 rfl (lv_at hl 5 rfl) ?_
      refine gm_aald2 hx hb X (k := a) (t := E.2.1 + (2 + a)) oA1 rfl rfl ⟨h_a, by decide⟩ (if_pos h_a) d_Ben_work_103 ?_
      have e104 := (rfl : ρ (2 + a) = ρ (2 + a))
      refine gm_Sv hx hb hml hown hW X (k_unpack l (by decide) (Or.inl (cw_row (r4_n h_a)))) (n := 2) ⟨⟨wl_Ben_95, ws_Lim_unpack, winit_Lim, wc_Lim_unpack⟩, by decide +kernel, Nat.le_of_ble_eq_true rfl, Nat.le_of_ble_eq_true rfl⟩ rfl hl.1 rfl (Nat.le_of_ble_eq_true rfl) d_Ben_work_104 ⟨Nat.le_of_ble_eq_true rfl, Nat.le_of_ble_eq_true rfl⟩ (fun M1 H locs hp X => ?_)
      obtain ⟨ρ1, rfl, q1, kk1⟩ := hp
      have u36_1 : ρ1 36 = unF (ρ (2 + a)) := by rw [q1, e104]
      refine lv_aload_n hx hb d_Ben_work_107 rfl (lv_at hl 2 rfl) ?_
      refine gm_get hx hb hW hown X u_Ben o0 rfl 8 (by decide) wf_Ben_77 (v := .ref (E.2.1 + 37)) rfl d_Ben_work_108 ?_
      refine lv_aload_n hx hb d_Ben_work_111 rfl (lv_at hl 2 rfl) ?_
      refine gm_get hx hb hW hown X u_Ben o0 rfl 0 (by decide) wf_Ben_11 (v := .ref (E.2.1 + 1)) rfl d_Ben_work_112 ?_
      refine lv_iload hx hb d_Ben_work_115 (lv_at hl 6 rfl) ?_
      refine gm_aald2 hx hb X (k := b) (t := E.2.1 + (2 + b)) oA1 rfl rfl ⟨h_b, by decide⟩ (if_pos h_b) d_Ben_work_117 ?_
      have e118 := (show ρ1 (2 + b) = ρ (2 + b) by rw [kk1 (2 + b) (by omega)])
      refine gm_Sv hx hb hml hown hW X (k_unpack l (by decide) (Or.inl (cw_row (r4_n h_b)))) (n := 2) ⟨⟨wl_Ben_95, ws_Lim_unpack, winit_Lim, wc_Lim_unpack⟩, by decide +kernel, Nat.le_of_ble_eq_true rfl, Nat.le_of_ble_eq_true rfl⟩ rfl hl.1 rfl (Nat.le_of_ble_eq_true rfl) d_Ben_work_118 ⟨Nat.le_of_ble_eq_true rfl, Nat.le_of_ble_eq_true rfl⟩ (fun M1 H locs hp X => ?_)
      obtain ⟨ρ2, rfl, q2, kk2⟩ := hp
      have u36_2 : ρ2 36 = unF (ρ (2 + a)) := by rw [kk2 36 (by omega)]; exact u36_1
      have u37_2 : ρ2 37 = unF (ρ (2 + b)) := by rw [q2, e118]
      refine lv_aload_n hx hb d_Ben_work_121 rfl (lv_at hl 2 rfl) ?_
      refine lv_iload hx hb d_Ben_work_122 (lv_at hl 0 rfl) ?_
      refine lv_aload hx hb d_Ben_work_124 (lv_at hl 1 rfl) ?_
      refine gm_Vv hx hb hml hown hW X o0 (k_Ben_workOnLeft_1 l E ad N ρ2 fl I hf (by decide) (show RV φ (ρ2 36) 1 (φ (NV (ρ (2 + a)))) by rw [u36_2]; exact RV.un _ _) (show RV φ (ρ2 37) 1 (φ (NV (ρ (2 + b)))) by rw [u37_2]; exact RV.un _ _)) (n := 2) ⟨⟨wl_Ben_133, wi_Ben_workOnLeft, wsel_Ben_workOnLeft, winit_Ben, wc_Ben_workOnLeft⟩, by decide +kernel, ⟨Nat.le_of_ble_eq_true rfl, Nat.le_of_ble_eq_true rfl⟩, _, rfl, rfl⟩ rfl hl.1 rfl (Nat.le_of_ble_eq_true rfl) d_Ben_work_126 ⟨Nat.le_of_ble_eq_true rfl, Nat.le_of_ble_eq_true rfl⟩ (fun M1 H locs hp X => ?_)
      obtain ⟨ρ3, rfl, q3, kk3⟩ := hp
      have u37_3 : ρ3 37 = unF (ρ (2 + b)) := by rw [kk3 37 (by omega) (by omega)]; exact u37_2
      have h36_3 : RV φ (ρ3 36) 2 (wkV φ 1 (NV sP2) (NV (ρ (2 + a))) (NV (ρ (2 + b)))) := q3
      refine lv_aload hx hb d_Ben_work_129 (lv_at hl 1 rfl) ?_
      refine lv_aload_n hx hb d_Ben_work_131 rfl (lv_at hl 2 rfl) ?_
      refine gm_get hx hb hW hown X u_Ben o0 rfl 7 (by decide) wf_Ben_74 (v := .ref (E.2.1 + 36)) rfl d_Ben_work_132 ?_
      refine gm_Vv hx hb hml hown hW X o11 (k_settle l I hf (by decide) (by omega) h36_3 (by decide)) (n := 1) ⟨⟨wl_Ben_137, wi_Mod_settle, wsel_Mod_settle, winit_Mod, wc_Mod_settle⟩, by decide +kernel, ⟨Nat.le_of_ble_eq_true rfl, Nat.le_of_ble_eq_true rfl⟩, _, rfl, rfl⟩ rfl hl.1 rfl (Nat.le_of_ble_eq_true rfl) d_Ben_work_135 ⟨Nat.le_of_ble_eq_true rfl, Nat.le_of_ble_eq_true rfl⟩ (fun M1 H locs hp X => ?_)
      obtain ⟨ρ4, rfl, q4, kk4⟩ := hp
      have u37_4 : ρ4 37 = unF (ρ (2 + b)) := by rw [kk4 37 (by omega) (by omega)]; exact u37_3
      have s36_4 : ST φ nP (ρ4 36) (wkV φ 1 (NV sP2) (NV (ρ (2 + a))) (NV (ρ (2 + b)))) := q4
      refine lv_aload_n hx hb d_Ben_work_138 rfl (lv_at hl 2 rfl) ?_
      refine gm_get hx hb hW hown X u_Ben o0 rfl 0 (by decide) wf_Ben_11 (v := .ref (E.2.1 + 1)) rfl d_Ben_work_139 ?_
      refine lv_iload_n hx hb d_Ben_work_142 rfl (lv_at hl 4 rfl) ?_
      refine gm_aald2 hx hb X (k := t) (t := E.2.1 + (2 + t)) oA1 rfl rfl ⟨h_t, by decide⟩ (if_pos h_t) d_Ben_work_143 ?_
      refine lv_aload_n hx hb d_Ben_work_144 rfl (lv_at hl 2 rfl) ?_
      refine gm_get hx hb hW hown X u_Ben o0 rfl 7 (by decide) wf_Ben_74 (v := .ref (E.2.1 + 36)) rfl d_Ben_work_145 ?_
      refine gm_Sv hx hb hml hown hW X (k_pack l (r4_n h_t) (by decide)) (n := 2) ⟨⟨wl_Ben_141, ws_Lim_pack, winit_Lim, wc_Lim_pack⟩, by decide +kernel, Nat.le_of_ble_eq_true rfl, Nat.le_of_ble_eq_true rfl⟩ rfl hl.1 rfl (Nat.le_of_ble_eq_true rfl) d_Ben_work_148 ⟨Nat.le_of_ble_eq_true rfl, Nat.le_of_ble_eq_true rfl⟩ (fun M1 H locs hp X => ?_)
      obtain ⟨ρ5, rfl, q5, kk5⟩ := hp
      have s36_5 : ST φ nP (ρ5 36) (wkV φ 1 (NV sP2) (NV (ρ (2 + a))) (NV (ρ (2 + b)))) := by rw [kk5 36 (by omega)]; exact s36_4
      have u37_5 : ρ5 37 = unF (ρ (2 + b)) := by rw [kk5 37 (by omega)]; exact u37_4
      refine lv_iconst (v := 1) hx hb d_Ben_work_151 (by decide) ?_
      refine kk _ H locs ls ρ5 fl 1 d_Ben_work_152 X (Or.inr ⟨rfl, ⟨hlt, hq2⟩, ?_, fun j hj h1 h2 => by rw [kk5 j (by omega), kk4 j (by omega) (by omega), kk3 j (by omega) (by omega), kk2 j (by omega), kk1 j (by omega)], fun _ _ => rfl⟩)
      rw [q5]
      exact s36_4.pkr hf
    · have hq2 : ¬ (NV (ρ (2 + b)) : Int) < nP := by rcases h2 with h | h; exact h.2; exact absurd (h.1.symm.trans c89) (by decide)
      refine lv_iconst (v := 0) hx hb d_Ben_work_92 (by decide) ?_
      exact kk _ H locs ls ρ fl _ d_Ben_work_93 X (Or.inl ⟨rfl, fun z => hq2 z.2, kNu.rf _ _ _ _⟩)
  · have hlt : ¬ (NV (ρ (2 + a)) : Int) < nP := by rcases h1 with h | h; exact h.2; exact absurd (h.1.symm.trans c51) (by decide)
    refine lv_iconst (v := 0) hx hb d_Ben_work_54 (by decide) ?_
    exact kk _ H locs ls ρ fl _ d_Ben_work_55 X (Or.inl ⟨rfl, fun z => hlt z.1, kNu.rf _ _ _ _⟩)
set_option maxHeartbeats 4000000 in
theorem bd_Ben_work_2 {p : Program} {l : Launch} {e : Env} {s : State} {m : MethodId} {args : Array Value} {below : List Frame} {meth : Method} {c : Code} {Q : State → Prop} {F G : Type} [Lean.Grind.CommRing F] [Lean.Grind.CommRing G] {φ : Int → F} {inv : F → F} {ψ : Int → G} {E : gm_E} {ad : Nat → Nat} {N : gm_M} {ρ : Nat → Nat → Int64} {fl : Nat → Int32} (hx : p.tables.exec = Jvm.exec) (hb : c.code = b_Ben_work) (hml : c.maxLocals = 7) (hown : s.vm.findClass R_Ben = some m.cls) (hW : ∀ w ∈ WB, w.before args s = true) (hg : gE E ad) (hk : fk φ inv) (hn : fm ψ nN) {t : Nat} (h_t : t < 8) {a : Nat} (h_a : a < 8) {b : Nat} (h_b : b < 8)  {H : Heap} {locs : List Loc} {ls : Array Slot} (X : gx E (cW E ad N ρ fl) s H locs) (hl : lv_has ls 7 [(0, .ref (E.2.1 + 0)), (1, .int 2), (2, .int (nI t)), (3, .int (nI a)), (4, .int (nI b))])
    (kk : ∀ (z : Nat) (H : Heap) (locs : List Loc) (ls : Array Slot) ρ' fl' (r : Int32), decode b_Ben_work z = .ok (.ireturn, 1) → gx E (cW E ad N ρ' fl') s H locs → ((r = 0 ∧ ¬ wkOK 2 nP (NV (ρ (2 + a))) (NV (ρ (2 + b))) ∧ kNu 0 0 ρ ρ' fl fl') ∨ (r = 1 ∧ wkOK 2 nP (NV (ρ (2 + a))) (NV (ρ (2 + b))) ∧ NV (ρ' (2 + t)) = rp φ nP (wkV φ 2 (NV sP2) (NV (ρ (2 + a))) (NV (ρ (2 + b)))) ∧ kNu (2 + t) 0 ρ ρ' fl fl')) → W p l e { frames := 7, cells := 4, slots := 24, locals := 153 } s m args below meth c H locs 4 24 Q (F0 m z ls [.int r])) :
    W p l e { frames := 7, cells := 4, slots := 24, locals := 153 } s m args below meth c H locs 4 24 Q (F0 m 17 ls []) := by
  have hf := hk.fm
  have I := isM_P hg
  have I2 := isM_N hg
  refine lv_iload_n hx hb d_Ben_work_17 rfl (lv_at hl 1 rfl) ?_
  refine lv_iconst (v := 4) hx hb d_Ben_work_18 (by decide) ?_
  refine lv_icmp_ge (tgt := 29) hx hb d_Ben_work_19 (by decide) (fun c9 => absurd c9 (by decide)) (fun _ => ?_)
  refine lv_aload_n hx hb d_Ben_work_22 rfl (lv_at hl 0 rfl) ?_
  refine gm_get hx hb hW hown X u_Ben o0 rfl 2 (by decide) wf_Ben_38 (v := .ref (E.2.1 + 11)) rfl d_Ben_work_23 ?_
  refine lv_goto (tgt := 33) hx hb d_Ben_work_26 (by decide) ?_
  refine lv_astore (lv' := [(5, .ref (E.2.1 + 11)), (0, .ref (E.2.1 + 0)), (1, .int 2), (2, .int (nI t)), (3, .int (nI a)), (4, .int (nI b))]) hx hb d_Ben_work_33 hl (by decide) rfl (fun ls hl => ?_)
  refine lv_iload_n hx hb d_Ben_work_35 rfl (lv_at hl 2 rfl) ?_
  refine lv_iconst (v := 4) hx hb d_Ben_work_36 (by decide) ?_
  refine lv_irem hx hb d_Ben_work_37 (by decide) ?_
  refine lv_eqi (v := 2) (by decide) ?_
  refine lv_istore (lv' := [(6, .int 2), (5, .ref (E.2.1 + 11)), (0, .ref (E.2.1 + 0)), (1, .int 2), (2, .int (nI t)), (3, .int (nI a)), (4, .int (nI b))]) hx hb d_Ben_work_38 hl (by decide) rfl (fun ls hl => ?_)
  refine lv_aload hx hb d_Ben_work_40 (lv_at hl 1 rfl) ?_
  refine lv_aload_n hx hb d_Ben_work_42 rfl (lv_at hl 2 rfl) ?_
  refine gm_get hx hb hW hown X u_Ben o0 rfl 0 (by decide) wf_Ben_11 (v := .ref (E.2.1 + 1)) rfl d_Ben_work_43 ?_
  refine lv_iload_n hx hb d_Ben_work_46 rfl (lv_at hl 5 rfl) ?_
  refine gm_aald2 hx hb X (k := a) (t := E.2.1 + (2 + a)) oA1 rfl rfl ⟨h_a, by decide⟩ (if_pos h_a) d_Ben_work_47 ?_
  refine gm_Vi hx hb hml hown hW X o11 (k_isAbove l I (Or.inl (cw_row (r4_n h_a)))) (n := 1) ⟨⟨wl_Ben_126, wi_Mod_isAbove, wsel_Mod_isAbove, winit_Mod, wc_Mod_isAbove⟩, by decide +kernel, ⟨Nat.le_of_ble_eq_true rfl, Nat.le_of_ble_eq_true rfl⟩, _, rfl, rfl⟩ rfl hl.1 rfl (Nat.le_of_ble_eq_true rfl) d_Ben_work_48 ⟨Nat.le_of_ble_eq_true rfl, Nat.le_of_ble_eq_true rfl⟩ (fun r1 M1 H locs hp X => ?_)
  rw [hp.1] at X
  have h1 := hp.2
  refine lv_if_ne (tgt := 56) hx hb d_Ben_work_51 (by decide) (fun c51 => ?_) (fun c51 => ?_)
  · have hlt : (NV (ρ (2 + a)) : Int) < nP := by rcases h1 with h | h; exact absurd h.1 c51; exact h.2
    refine lv_iload hx hb d_Ben_work_56 (lv_at hl 0 rfl) ?_
    refine lv_iconst (v := 3) hx hb d_Ben_work_58 (by decide) ?_
    refine lv_icmp_ne (tgt := 77) hx hb d_Ben_work_59 (by decide) (fun _ => ?_) (fun c9 => absurd c9 (by decide))
    refine lv_aload hx hb d_Ben_work_77 (lv_at hl 1 rfl) ?_
    refine lv_aload_n hx hb d_Ben_work_79 rfl (lv_at hl 2 rfl) ?_
    refine gm_get hx hb hW hown X u_Ben o0 rfl 0 (by decide) wf_Ben_11 (v := .ref (E.2.1 + 1)) rfl d_Ben_work_80 ?_
    refine lv_iload hx hb d_Ben_work_83 (lv_at hl 6 rfl) ?_
    refine gm_aald2 hx hb X (k := b) (t := E.2.1 + (2 + b)) oA1 rfl rfl ⟨h_b, by decide⟩ (if_pos h_b) d_Ben_work_85 ?_
    refine gm_Vi hx hb hml hown hW X o11 (k_isAbove l I (Or.inl (cw_row (r4_n h_b)))) (n := 1) ⟨⟨wl_Ben_126, wi_Mod_isAbove, wsel_Mod_isAbove, winit_Mod, wc_Mod_isAbove⟩, by decide +kernel, ⟨Nat.le_of_ble_eq_true rfl, Nat.le_of_ble_eq_true rfl⟩, _, rfl, rfl⟩ rfl hl.1 rfl (Nat.le_of_ble_eq_true rfl) d_Ben_work_86 ⟨Nat.le_of_ble_eq_true rfl, Nat.le_of_ble_eq_true rfl⟩ (fun r2 M1 H locs hp X => ?_)
    rw [hp.1] at X
    have h2 := hp.2
    refine lv_if_ne (tgt := 94) hx hb d_Ben_work_89 (by decide) (fun c89 => ?_) (fun c89 => ?_)
    · have hq2 : (NV (ρ (2 + b)) : Int) < nP := by rcases h2 with h | h; exact absurd h.1 c89; exact h.2
      refine lv_aload_n hx hb d_Ben_work_94 rfl (lv_at hl 2 rfl) ?_
      refine gm_get hx hb hW hown X u_Ben o0 rfl 7 (by decide) wf_Ben_74 (v := .ref (E.2.1 + 36)) rfl d_Ben_work_95 ?_
      refine lv_aload_n hx hb d_Ben_work_98 rfl (lv_at hl 2 rfl) ?_
      refine gm_get hx hb hW hown X u_Ben o0 rfl 0 (by decide) wf_Ben_11 (v := .ref (E.2.1 + 1)) rfl d_Ben_work_99 ?_
      refine lv_iload_n hx hb d_Ben_work_102 rfl (lv_at hl 5 rfl) ?_
      refine gm_aald2 hx hb X (k := a) (t := E.2.1 + (2 + a)) oA1 rfl rfl ⟨h_a, by decide⟩ (if_pos h_a) d_Ben_work_103 ?_
      have e104 := (rfl : ρ (2 + a) = ρ (2 + a))
      refine gm_Sv hx hb hml hown hW X (k_unpack l (by decide) (Or.inl (cw_row (r4_n h_a)))) (n := 2) ⟨⟨wl_Ben_95, ws_Lim_unpack, winit_Lim, wc_Lim_unpack⟩, by decide +kernel, Nat.le_of_ble_eq_true rfl, Nat.le_of_ble_eq_true rfl⟩ rfl hl.1 rfl (Nat.le_of_ble_eq_true rfl) d_Ben_work_104 ⟨Nat.le_of_ble_eq_true rfl, Nat.le_of_ble_eq_true rfl⟩ (fun M1 H locs hp X => ?_)
      obtain ⟨ρ1, rfl, q1, kk1⟩ := hp
      have u36_1 : ρ1 36 = unF (ρ (2 + a)) := by rw [q1, e104]
      refine lv_aload_n hx hb d_Ben_work_107 rfl (lv_at hl 2 rfl) ?_
      refine gm_get hx hb hW hown X u_Ben o0 rfl 8 (by decide) wf_Ben_77 (v := .ref (E.2.1 + 37)) rfl d_Ben_work_108 ?_
      refine lv_aload_n hx hb d_Ben_work_111 rfl (lv_at hl 2 rfl) ?_
      refine gm_get hx hb hW hown X u_Ben o0 rfl 0 (by decide) wf_Ben_11 (v := .ref (E.2.1 + 1)) rfl d_Ben_work_112 ?_
      refine lv_iload hx hb d_Ben_work_115 (lv_at hl 6 rfl) ?_
      refine gm_aald2 hx hb X (k := b) (t := E.2.1 + (2 + b)) oA1 rfl rfl ⟨h_b, by decide⟩ (if_pos h_b) d_Ben_work_117 ?_
      have e118 := (show ρ1 (2 + b) = ρ (2 + b) by rw [kk1 (2 + b) (by omega)])
      refine gm_Sv hx hb hml hown hW X (k_unpack l (by decide) (Or.inl (cw_row (r4_n h_b)))) (n := 2) ⟨⟨wl_Ben_95, ws_Lim_unpack, winit_Lim, wc_Lim_unpack⟩, by decide +kernel, Nat.le_of_ble_eq_true rfl, Nat.le_of_ble_eq_true rfl⟩ rfl hl.1 rfl (Nat.le_of_ble_eq_true rfl) d_Ben_work_118 ⟨Nat.le_of_ble_eq_true rfl, Nat.le_of_ble_eq_true rfl⟩ (fun M1 H locs hp X => ?_)
      obtain ⟨ρ2, rfl, q2, kk2⟩ := hp
      have u36_2 : ρ2 36 = unF (ρ (2 + a)) := by rw [kk2 36 (by omega)]; exact u36_1
      have u37_2 : ρ2 37 = unF (ρ (2 + b)) := by rw [q2, e118]
      refine lv_aload_n hx hb d_Ben_work_121 rfl (lv_at hl 2 rfl) ?_
      refine lv_iload hx hb d_Ben_work_122 (lv_at hl 0 rfl) ?_
      refine lv_aload hx hb d_Ben_work_124 (lv_at hl 1 rfl) ?_
      refine gm_Vv hx hb hml hown hW X o0 (k_Ben_workOnLeft_2 l E ad N ρ2 fl I hf (by decide) (show RV φ (ρ2 36) 1 (φ (NV (ρ (2 + a)))) by rw [u36_2]; exact RV.un _ _) (show RV φ (ρ2 37) 1 (φ (NV (ρ (2 + b)))) by rw [u37_2]; exact RV.un _ _)) (n := 2) ⟨⟨wl_Ben_133, wi_Ben_workOnLeft, wsel_Ben_workOnLeft, winit_Ben, wc_Ben_workOnLeft⟩, by decide +kernel, ⟨Nat.le_of_ble_eq_true rfl, Nat.le_of_ble_eq_true rfl⟩, _, rfl, rfl⟩ rfl hl.1 rfl (Nat.le_of_ble_eq_true rfl) d_Ben_work_126 ⟨Nat.le_of_ble_eq_true rfl, Nat.le_of_ble_eq_true rfl⟩ (fun M1 H locs hp X => ?_)
      obtain ⟨ρ3, rfl, q3, kk3⟩ := hp
      have u37_3 : ρ3 37 = unF (ρ (2 + b)) := by rw [kk3 37 (by omega) (by omega)]; exact u37_2
      have h36_3 : RV φ (ρ3 36) 2 (wkV φ 2 (NV sP2) (NV (ρ (2 + a))) (NV (ρ (2 + b)))) := q3
      refine lv_aload hx hb d_Ben_work_129 (lv_at hl 1 rfl) ?_
      refine lv_aload_n hx hb d_Ben_work_131 rfl (lv_at hl 2 rfl) ?_
      refine gm_get hx hb hW hown X u_Ben o0 rfl 7 (by decide) wf_Ben_74 (v := .ref (E.2.1 + 36)) rfl d_Ben_work_132 ?_
      refine gm_Vv hx hb hml hown hW X o11 (k_settle l I hf (by decide) (by omega) h36_3 (by decide)) (n := 1) ⟨⟨wl_Ben_137, wi_Mod_settle, wsel_Mod_settle, winit_Mod, wc_Mod_settle⟩, by decide +kernel, ⟨Nat.le_of_ble_eq_true rfl, Nat.le_of_ble_eq_true rfl⟩, _, rfl, rfl⟩ rfl hl.1 rfl (Nat.le_of_ble_eq_true rfl) d_Ben_work_135 ⟨Nat.le_of_ble_eq_true rfl, Nat.le_of_ble_eq_true rfl⟩ (fun M1 H locs hp X => ?_)
      obtain ⟨ρ4, rfl, q4, kk4⟩ := hp
      have u37_4 : ρ4 37 = unF (ρ (2 + b)) := by rw [kk4 37 (by omega) (by omega)]; exact u37_3
      have s36_4 : ST φ nP (ρ4 36) (wkV φ 2 (NV sP2) (NV (ρ (2 + a))) (NV (ρ (2 + b)))) := q4
      refine lv_aload_n hx hb d_Ben_work_138 rfl (lv_at hl 2 rfl) ?_
      refine gm_get hx hb hW hown X u_Ben o0 rfl 0 (by decide) wf_Ben_11 (v := .ref (E.2.1 + 1)) rfl d_Ben_work_139 ?_
      refine lv_iload_n hx hb d_Ben_work_142 rfl (lv_at hl 4 rfl) ?_
      refine gm_aald2 hx hb X (k := t) (t := E.2.1 + (2 + t)) oA1 rfl rfl ⟨h_t, by decide⟩ (if_pos h_t) d_Ben_work_143 ?_
      refine lv_aload_n hx hb d_Ben_work_144 rfl (lv_at hl 2 rfl) ?_
      refine gm_get hx hb hW hown X u_Ben o0 rfl 7 (by decide) wf_Ben_74 (v := .ref (E.2.1 + 36)) rfl d_Ben_work_145 ?_
      refine gm_Sv hx hb hml hown hW X (k_pack l (r4_n h_t) (by decide)) (n := 2) ⟨⟨wl_Ben_141, ws_Lim_pack, winit_Lim, wc_Lim_pack⟩, by decide +kernel, Nat.le_of_ble_eq_true rfl, Nat.le_of_ble_eq_true rfl⟩ rfl hl.1 rfl (Nat.le_of_ble_eq_true rfl) d_Ben_work_148 ⟨Nat.le_of_ble_eq_true rfl, Nat.le_of_ble_eq_true rfl⟩ (fun M1 H locs hp X => ?_)
      obtain ⟨ρ5, rfl, q5, kk5⟩ := hp
      have s36_5 : ST φ nP (ρ5 36) (wkV φ 2 (NV sP2) (NV (ρ (2 + a))) (NV (ρ (2 + b)))) := by rw [kk5 36 (by omega)]; exact s36_4
      have u37_5 : ρ5 37 = unF (ρ (2 + b)) := by rw [kk5 37 (by omega)]; exact u37_4
      refine lv_iconst (v := 1) hx hb d_Ben_work_151 (by decide) ?_
      refine kk _ H locs ls ρ5 fl 1 d_Ben_work_152 X (Or.inr ⟨rfl, ⟨hlt, hq2⟩, ?_, fun j hj h1 h2 => by rw [kk5 j (by omega), kk4 j (by omega) (by omega), kk3 j (by omega) (by omega), kk2 j (by omega), kk1 j (by omega)], fun _ _ => rfl⟩)
      rw [q5]
      exact s36_4.pkr hf
    · have hq2 : ¬ (NV (ρ (2 + b)) : Int) < nP := by rcases h2 with h | h; exact h.2; exact absurd (h.1.symm.trans c89) (by decide)
      refine lv_iconst (v := 0) hx hb d_Ben_work_92 (by decide) ?_
      exact kk _ H locs ls ρ fl _ d_Ben_work_93 X (Or.inl ⟨rfl, fun z => hq2 z.2, kNu.rf _ _ _ _⟩)
  · have hlt : ¬ (NV (ρ (2 + a)) : Int) < nP := by rcases h1 with h | h; exact h.2; exact absurd (h.1.symm.trans c51) (by decide)
    refine lv_iconst (v := 0) hx hb d_Ben_work_54 (by decide) ?_
    exact kk _ H locs ls ρ fl _ d_Ben_work_55 X (Or.inl ⟨rfl, fun z => hlt z.1, kNu.rf _ _ _ _⟩)
set_option maxHeartbeats 4000000 in
theorem bd_Ben_work_3 {p : Program} {l : Launch} {e : Env} {s : State} {m : MethodId} {args : Array Value} {below : List Frame} {meth : Method} {c : Code} {Q : State → Prop} {F G : Type} [Lean.Grind.CommRing F] [Lean.Grind.CommRing G] {φ : Int → F} {inv : F → F} {ψ : Int → G} {E : gm_E} {ad : Nat → Nat} {N : gm_M} {ρ : Nat → Nat → Int64} {fl : Nat → Int32} (hx : p.tables.exec = Jvm.exec) (hb : c.code = b_Ben_work) (hml : c.maxLocals = 7) (hown : s.vm.findClass R_Ben = some m.cls) (hW : ∀ w ∈ WB, w.before args s = true) (hg : gE E ad) (hk : fk φ inv) (hn : fm ψ nN) {t : Nat} (h_t : t < 8) {a : Nat} (h_a : a < 8) {b : Nat} (h_b : b < 8)  {H : Heap} {locs : List Loc} {ls : Array Slot} (X : gx E (cW E ad N ρ fl) s H locs) (hl : lv_has ls 7 [(0, .ref (E.2.1 + 0)), (1, .int 3), (2, .int (nI t)), (3, .int (nI a)), (4, .int (nI b))])
    (kk : ∀ (z : Nat) (H : Heap) (locs : List Loc) (ls : Array Slot) ρ' fl' (r : Int32), decode b_Ben_work z = .ok (.ireturn, 1) → gx E (cW E ad N ρ' fl') s H locs → ((r = 0 ∧ ¬ wkOK 3 nP (NV (ρ (2 + a))) (NV (ρ (2 + b))) ∧ kNu 0 0 ρ ρ' fl fl') ∨ (r = 1 ∧ wkOK 3 nP (NV (ρ (2 + a))) (NV (ρ (2 + b))) ∧ NV (ρ' (2 + t)) = rp φ nP (wkV φ 3 (NV sP2) (NV (ρ (2 + a))) (NV (ρ (2 + b)))) ∧ kNu (2 + t) 0 ρ ρ' fl fl')) → W p l e { frames := 7, cells := 4, slots := 24, locals := 153 } s m args below meth c H locs 4 24 Q (F0 m z ls [.int r])) :
    W p l e { frames := 7, cells := 4, slots := 24, locals := 153 } s m args below meth c H locs 4 24 Q (F0 m 17 ls []) := by
  have hf := hk.fm
  have I := isM_P hg
  have I2 := isM_N hg
  refine lv_iload_n hx hb d_Ben_work_17 rfl (lv_at hl 1 rfl) ?_
  refine lv_iconst (v := 4) hx hb d_Ben_work_18 (by decide) ?_
  refine lv_icmp_ge (tgt := 29) hx hb d_Ben_work_19 (by decide) (fun c9 => absurd c9 (by decide)) (fun _ => ?_)
  refine lv_aload_n hx hb d_Ben_work_22 rfl (lv_at hl 0 rfl) ?_
  refine gm_get hx hb hW hown X u_Ben o0 rfl 2 (by decide) wf_Ben_38 (v := .ref (E.2.1 + 11)) rfl d_Ben_work_23 ?_
  refine lv_goto (tgt := 33) hx hb d_Ben_work_26 (by decide) ?_
  refine lv_astore (lv' := [(5, .ref (E.2.1 + 11)), (0, .ref (E.2.1 + 0)), (1, .int 3), (2, .int (nI t)), (3, .int (nI a)), (4, .int (nI b))]) hx hb d_Ben_work_33 hl (by decide) rfl (fun ls hl => ?_)
  refine lv_iload_n hx hb d_Ben_work_35 rfl (lv_at hl 2 rfl) ?_
  refine lv_iconst (v := 4) hx hb d_Ben_work_36 (by decide) ?_
  refine lv_irem hx hb d_Ben_work_37 (by decide) ?_
  refine lv_eqi (v := 3) (by decide) ?_
  refine lv_istore (lv' := [(6, .int 3), (5, .ref (E.2.1 + 11)), (0, .ref (E.2.1 + 0)), (1, .int 3), (2, .int (nI t)), (3, .int (nI a)), (4, .int (nI b))]) hx hb d_Ben_work_38 hl (by decide) rfl (fun ls hl => ?_)
  refine lv_aload hx hb d_Ben_work_40 (lv_at hl 1 rfl) ?_
  refine lv_aload_n hx hb d_Ben_work_42 rfl (lv_at hl 2 rfl) ?_
  refine gm_get hx hb hW hown X u_Ben o0 rfl 0 (by decide) wf_Ben_11 (v := .ref (E.2.1 + 1)) rfl d_Ben_work_43 ?_
  refine lv_iload_n hx hb d_Ben_work_46 rfl (lv_at hl 5 rfl) ?_
  refine gm_aald2 hx hb X (k := a) (t := E.2.1 + (2 + a)) oA1 rfl rfl ⟨h_a, by decide⟩ (if_pos h_a) d_Ben_work_47 ?_
  refine gm_Vi hx hb hml hown hW X o11 (k_isAbove l I (Or.inl (cw_row (r4_n h_a)))) (n := 1) ⟨⟨wl_Ben_126, wi_Mod_isAbove, wsel_Mod_isAbove, winit_Mod, wc_Mod_isAbove⟩, by decide +kernel, ⟨Nat.le_of_ble_eq_true rfl, Nat.le_of_ble_eq_true rfl⟩, _, rfl, rfl⟩ rfl hl.1 rfl (Nat.le_of_ble_eq_true rfl) d_Ben_work_48 ⟨Nat.le_of_ble_eq_true rfl, Nat.le_of_ble_eq_true rfl⟩ (fun r1 M1 H locs hp X => ?_)
  rw [hp.1] at X
  have h1 := hp.2
  refine lv_if_ne (tgt := 56) hx hb d_Ben_work_51 (by decide) (fun c51 => ?_) (fun c51 => ?_)
  · have hlt : (NV (ρ (2 + a)) : Int) < nP := by rcases h1 with h | h; exact absurd h.1 c51; exact h.2
    refine lv_iload hx hb d_Ben_work_56 (lv_at hl 0 rfl) ?_
    refine lv_iconst (v := 3) hx hb d_Ben_work_58 (by decide) ?_
    refine lv_icmp_ne (tgt := 77) hx hb d_Ben_work_59 (by decide) (fun c9 => absurd rfl c9) (fun _ => ?_)
    refine lv_aload_n hx hb d_Ben_work_62 rfl (lv_at hl 2 rfl) ?_
    refine gm_get hx hb hW hown X u_Ben o0 rfl 0 (by decide) wf_Ben_11 (v := .ref (E.2.1 + 1)) rfl d_Ben_work_63 ?_
    refine lv_iload_n hx hb d_Ben_work_66 rfl (lv_at hl 5 rfl) ?_
    refine gm_aald2 hx hb X (k := a) (t := E.2.1 + (2 + a)) oA1 rfl rfl ⟨h_a, by decide⟩ (if_pos h_a) d_Ben_work_67 ?_
    refine gm_Si hx hb hml hown hW X (k_areZero l hg.1 (Or.inl (cw_row (r4_n h_a)))) (n := 1) ⟨⟨wl_Ben_130, ws_Par_areZero, winit_Par, wc_Par_areZero⟩, by decide +kernel, Nat.le_of_ble_eq_true rfl, Nat.le_of_ble_eq_true rfl⟩ rfl hl.1 rfl (Nat.le_of_ble_eq_true rfl) d_Ben_work_68 ⟨Nat.le_of_ble_eq_true rfl, Nat.le_of_ble_eq_true rfl⟩ (fun r2 M1 H locs hp X => ?_)
    rw [hp.1] at X
    have h2 := hp.2
    refine lv_if_eq (tgt := 94) hx hb d_Ben_work_71 (by decide) (fun c71 => ?_) (fun c71 => ?_)
    · have hq2 : ¬ NV (ρ (2 + a)) = 0 := by rcases h2 with h | h; exact absurd (h.1.symm.trans c71) (by decide); exact h.2
      refine lv_aload_n hx hb d_Ben_work_94 rfl (lv_at hl 2 rfl) ?_
      refine gm_get hx hb hW hown X u_Ben o0 rfl 7 (by decide) wf_Ben_74 (v := .ref (E.2.1 + 36)) rfl d_Ben_work_95 ?_
      refine lv_aload_n hx hb d_Ben_work_98 rfl (lv_at hl 2 rfl) ?_
      refine gm_get hx hb hW hown X u_Ben o0 rfl 0 (by decide) wf_Ben_11 (v := .ref (E.2.1 + 1)) rfl d_Ben_work_99 ?_
      refine lv_iload_n hx hb d_Ben_work_102 rfl (lv_at hl 5 rfl) ?_
      refine gm_aald2 hx hb X (k := a) (t := E.2.1 + (2 + a)) oA1 rfl rfl ⟨h_a, by decide⟩ (if_pos h_a) d_Ben_work_103 ?_
      have e104 := (rfl : ρ (2 + a) = ρ (2 + a))
      refine gm_Sv hx hb hml hown hW X (k_unpack l (by decide) (Or.inl (cw_row (r4_n h_a)))) (n := 2) ⟨⟨wl_Ben_95, ws_Lim_unpack, winit_Lim, wc_Lim_unpack⟩, by decide +kernel, Nat.le_of_ble_eq_true rfl, Nat.le_of_ble_eq_true rfl⟩ rfl hl.1 rfl (Nat.le_of_ble_eq_true rfl) d_Ben_work_104 ⟨Nat.le_of_ble_eq_true rfl, Nat.le_of_ble_eq_true rfl⟩ (fun M1 H locs hp X => ?_)
      obtain ⟨ρ1, rfl, q1, kk1⟩ := hp
      have u36_1 : ρ1 36 = unF (ρ (2 + a)) := by rw [q1, e104]
      refine lv_aload_n hx hb d_Ben_work_107 rfl (lv_at hl 2 rfl) ?_
      refine gm_get hx hb hW hown X u_Ben o0 rfl 8 (by decide) wf_Ben_77 (v := .ref (E.2.1 + 37)) rfl d_Ben_work_108 ?_
      refine lv_aload_n hx hb d_Ben_work_111 rfl (lv_at hl 2 rfl) ?_
      refine gm_get hx hb hW hown X u_Ben o0 rfl 0 (by decide) wf_Ben_11 (v := .ref (E.2.1 + 1)) rfl d_Ben_work_112 ?_
      refine lv_iload hx hb d_Ben_work_115 (lv_at hl 6 rfl) ?_
      refine gm_aald2 hx hb X (k := b) (t := E.2.1 + (2 + b)) oA1 rfl rfl ⟨h_b, by decide⟩ (if_pos h_b) d_Ben_work_117 ?_
      have e118 := (show ρ1 (2 + b) = ρ (2 + b) by rw [kk1 (2 + b) (by omega)])
      refine gm_Sv hx hb hml hown hW X (k_unpack l (by decide) (Or.inl (cw_row (r4_n h_b)))) (n := 2) ⟨⟨wl_Ben_95, ws_Lim_unpack, winit_Lim, wc_Lim_unpack⟩, by decide +kernel, Nat.le_of_ble_eq_true rfl, Nat.le_of_ble_eq_true rfl⟩ rfl hl.1 rfl (Nat.le_of_ble_eq_true rfl) d_Ben_work_118 ⟨Nat.le_of_ble_eq_true rfl, Nat.le_of_ble_eq_true rfl⟩ (fun M1 H locs hp X => ?_)
      obtain ⟨ρ2, rfl, q2, kk2⟩ := hp
      have u36_2 : ρ2 36 = unF (ρ (2 + a)) := by rw [kk2 36 (by omega)]; exact u36_1
      have u37_2 : ρ2 37 = unF (ρ (2 + b)) := by rw [q2, e118]
      refine lv_aload_n hx hb d_Ben_work_121 rfl (lv_at hl 2 rfl) ?_
      refine lv_iload hx hb d_Ben_work_122 (lv_at hl 0 rfl) ?_
      refine lv_aload hx hb d_Ben_work_124 (lv_at hl 1 rfl) ?_
      refine gm_Vv hx hb hml hown hW X o0 (k_Ben_workOnLeft_3 l E ad N ρ2 fl I hf (by decide) (show RV φ (ρ2 36) 1 (φ (NV (ρ (2 + a)))) by rw [u36_2]; exact RV.un _ _) (show RV φ (ρ2 37) 1 (φ (NV (ρ (2 + b)))) by rw [u37_2]; exact RV.un _ _)) (n := 2) ⟨⟨wl_Ben_133, wi_Ben_workOnLeft, wsel_Ben_workOnLeft, winit_Ben, wc_Ben_workOnLeft⟩, by decide +kernel, ⟨Nat.le_of_ble_eq_true rfl, Nat.le_of_ble_eq_true rfl⟩, _, rfl, rfl⟩ rfl hl.1 rfl (Nat.le_of_ble_eq_true rfl) d_Ben_work_126 ⟨Nat.le_of_ble_eq_true rfl, Nat.le_of_ble_eq_true rfl⟩ (fun M1 H locs hp X => ?_)
      obtain ⟨ρ3, rfl, q3, kk3⟩ := hp
      have u37_3 : ρ3 37 = unF (ρ (2 + b)) := by rw [kk3 37 (by omega) (by omega)]; exact u37_2
      have h36_3 : RV φ (ρ3 36) 2 (wkV φ 3 (NV sP2) (NV (ρ (2 + a))) (NV (ρ (2 + b)))) := q3
      refine lv_aload hx hb d_Ben_work_129 (lv_at hl 1 rfl) ?_
      refine lv_aload_n hx hb d_Ben_work_131 rfl (lv_at hl 2 rfl) ?_
      refine gm_get hx hb hW hown X u_Ben o0 rfl 7 (by decide) wf_Ben_74 (v := .ref (E.2.1 + 36)) rfl d_Ben_work_132 ?_
      refine gm_Vv hx hb hml hown hW X o11 (k_settle l I hf (by decide) (by omega) h36_3 (by decide)) (n := 1) ⟨⟨wl_Ben_137, wi_Mod_settle, wsel_Mod_settle, winit_Mod, wc_Mod_settle⟩, by decide +kernel, ⟨Nat.le_of_ble_eq_true rfl, Nat.le_of_ble_eq_true rfl⟩, _, rfl, rfl⟩ rfl hl.1 rfl (Nat.le_of_ble_eq_true rfl) d_Ben_work_135 ⟨Nat.le_of_ble_eq_true rfl, Nat.le_of_ble_eq_true rfl⟩ (fun M1 H locs hp X => ?_)
      obtain ⟨ρ4, rfl, q4, kk4⟩ := hp
      have u37_4 : ρ4 37 = unF (ρ (2 + b)) := by rw [kk4 37 (by omega) (by omega)]; exact u37_3
      have s36_4 : ST φ nP (ρ4 36) (wkV φ 3 (NV sP2) (NV (ρ (2 + a))) (NV (ρ (2 + b)))) := q4
      refine lv_aload_n hx hb d_Ben_work_138 rfl (lv_at hl 2 rfl) ?_
      refine gm_get hx hb hW hown X u_Ben o0 rfl 0 (by decide) wf_Ben_11 (v := .ref (E.2.1 + 1)) rfl d_Ben_work_139 ?_
      refine lv_iload_n hx hb d_Ben_work_142 rfl (lv_at hl 4 rfl) ?_
      refine gm_aald2 hx hb X (k := t) (t := E.2.1 + (2 + t)) oA1 rfl rfl ⟨h_t, by decide⟩ (if_pos h_t) d_Ben_work_143 ?_
      refine lv_aload_n hx hb d_Ben_work_144 rfl (lv_at hl 2 rfl) ?_
      refine gm_get hx hb hW hown X u_Ben o0 rfl 7 (by decide) wf_Ben_74 (v := .ref (E.2.1 + 36)) rfl d_Ben_work_145 ?_
      refine gm_Sv hx hb hml hown hW X (k_pack l (r4_n h_t) (by decide)) (n := 2) ⟨⟨wl_Ben_141, ws_Lim_pack, winit_Lim, wc_Lim_pack⟩, by decide +kernel, Nat.le_of_ble_eq_true rfl, Nat.le_of_ble_eq_true rfl⟩ rfl hl.1 rfl (Nat.le_of_ble_eq_true rfl) d_Ben_work_148 ⟨Nat.le_of_ble_eq_true rfl, Nat.le_of_ble_eq_true rfl⟩ (fun M1 H locs hp X => ?_)
      obtain ⟨ρ5, rfl, q5, kk5⟩ := hp
      have s36_5 : ST φ nP (ρ5 36) (wkV φ 3 (NV sP2) (NV (ρ (2 + a))) (NV (ρ (2 + b)))) := by rw [kk5 36 (by omega)]; exact s36_4
      have u37_5 : ρ5 37 = unF (ρ (2 + b)) := by rw [kk5 37 (by omega)]; exact u37_4
      refine lv_iconst (v := 1) hx hb d_Ben_work_151 (by decide) ?_
      refine kk _ H locs ls ρ5 fl 1 d_Ben_work_152 X (Or.inr ⟨rfl, ⟨hlt, hq2⟩, ?_, fun j hj h1 h2 => by rw [kk5 j (by omega), kk4 j (by omega) (by omega), kk3 j (by omega) (by omega), kk2 j (by omega), kk1 j (by omega)], fun _ _ => rfl⟩)
      rw [q5]
      exact s36_4.pkr hf
    · have hq2 : NV (ρ (2 + a)) = 0 := by rcases h2 with h | h; exact h.2; exact absurd h.1 c71
      refine lv_goto (tgt := 92) hx hb d_Ben_work_74 (by decide) ?_
      refine lv_iconst (v := 0) hx hb d_Ben_work_92 (by decide) ?_
      exact kk _ H locs ls ρ fl _ d_Ben_work_93 X (Or.inl ⟨rfl, fun z => z.2 hq2, kNu.rf _ _ _ _⟩)
  · have hlt : ¬ (NV (ρ (2 + a)) : Int) < nP := by rcases h1 with h | h; exact h.2; exact absurd (h.1.symm.trans c51) (by decide)
    refine lv_iconst (v := 0) hx hb d_Ben_work_54 (by decide) ?_
    exact kk _ H locs ls ρ fl _ d_Ben_work_55 X (Or.inl ⟨rfl, fun z => hlt z.1, kNu.rf _ _ _ _⟩)
set_option maxHeartbeats 4000000 in
theorem bd_Ben_work_4 {p : Program} {l : Launch} {e : Env} {s : State} {m : MethodId} {args : Array Value} {below : List Frame} {meth : Method} {c : Code} {Q : State → Prop} {F G : Type} [Lean.Grind.CommRing F] [Lean.Grind.CommRing G] {φ : Int → F} {inv : F → F} {ψ : Int → G} {E : gm_E} {ad : Nat → Nat} {N : gm_M} {ρ : Nat → Nat → Int64} {fl : Nat → Int32} (hx : p.tables.exec = Jvm.exec) (hb : c.code = b_Ben_work) (hml : c.maxLocals = 7) (hown : s.vm.findClass R_Ben = some m.cls) (hW : ∀ w ∈ WB, w.before args s = true) (hg : gE E ad) (hk : fk φ inv) (hn : fm ψ nN) {t : Nat} (h_t : t < 8) {a : Nat} (h_a : a < 8) {b : Nat} (h_b : b < 8)  {H : Heap} {locs : List Loc} {ls : Array Slot} (X : gx E (cW E ad N ρ fl) s H locs) (hl : lv_has ls 7 [(0, .ref (E.2.1 + 0)), (1, .int 4), (2, .int (nI t)), (3, .int (nI a)), (4, .int (nI b))])
    (kk : ∀ (z : Nat) (H : Heap) (locs : List Loc) (ls : Array Slot) ρ' fl' (r : Int32), decode b_Ben_work z = .ok (.ireturn, 1) → gx E (cW E ad N ρ' fl') s H locs → ((r = 0 ∧ ¬ wkOK 0 nN (NV (ρ (2 + a))) (NV (ρ (2 + b))) ∧ kNu 0 0 ρ ρ' fl fl') ∨ (r = 1 ∧ wkOK 0 nN (NV (ρ (2 + a))) (NV (ρ (2 + b))) ∧ NV (ρ' (2 + t)) = rp ψ nN (wkV ψ 0 (NV sN2) (NV (ρ (2 + a))) (NV (ρ (2 + b)))) ∧ kNu (2 + t) 0 ρ ρ' fl fl')) → W p l e { frames := 7, cells := 4, slots := 24, locals := 153 } s m args below meth c H locs 4 24 Q (F0 m z ls [.int r])) :
    W p l e { frames := 7, cells := 4, slots := 24, locals := 153 } s m args below meth c H locs 4 24 Q (F0 m 17 ls []) := by
  have hf := hk.fm
  have I := isM_P hg
  have I2 := isM_N hg
  refine lv_iload_n hx hb d_Ben_work_17 rfl (lv_at hl 1 rfl) ?_
  refine lv_iconst (v := 4) hx hb d_Ben_work_18 (by decide) ?_
  refine lv_icmp_ge (tgt := 29) hx hb d_Ben_work_19 (by decide) (fun _ => ?_) (fun c9 => absurd (by decide) c9)
  refine lv_aload_n hx hb d_Ben_work_29 rfl (lv_at hl 0 rfl) ?_
  refine gm_get hx hb hW hown X u_Ben o0 rfl 3 (by decide) wf_Ben_54 (v := .ref (E.2.1 + 16)) rfl d_Ben_work_30 ?_
  refine lv_astore (lv' := [(5, .ref (E.2.1 + 16)), (0, .ref (E.2.1 + 0)), (1, .int 4), (2, .int (nI t)), (3, .int (nI a)), (4, .int (nI b))]) hx hb d_Ben_work_33 hl (by decide) rfl (fun ls hl => ?_)
  refine lv_iload_n hx hb d_Ben_work_35 rfl (lv_at hl 2 rfl) ?_
  refine lv_iconst (v := 4) hx hb d_Ben_work_36 (by decide) ?_
  refine lv_irem hx hb d_Ben_work_37 (by decide) ?_
  refine lv_eqi (v := 0) (by decide) ?_
  refine lv_istore (lv' := [(6, .int 0), (5, .ref (E.2.1 + 16)), (0, .ref (E.2.1 + 0)), (1, .int 4), (2, .int (nI t)), (3, .int (nI a)), (4, .int (nI b))]) hx hb d_Ben_work_38 hl (by decide) rfl (fun ls hl => ?_)
  refine lv_aload hx hb d_Ben_work_40 (lv_at hl 1 rfl) ?_
  refine lv_aload_n hx hb d_Ben_work_42 rfl (lv_at hl 2 rfl) ?_
  refine gm_get hx hb hW hown X u_Ben o0 rfl 0 (by decide) wf_Ben_11 (v := .ref (E.2.1 + 1)) rfl d_Ben_work_43 ?_
  refine lv_iload_n hx hb d_Ben_work_46 rfl (lv_at hl 5 rfl) ?_
  refine gm_aald2 hx hb X (k := a) (t := E.2.1 + (2 + a)) oA1 rfl rfl ⟨h_a, by decide⟩ (if_pos h_a) d_Ben_work_47 ?_
  refine gm_Vi hx hb hml hown hW X o16 (k_isAbove l I2 (Or.inl (cw_row (r4_n h_a)))) (n := 1) ⟨⟨wl_Ben_126, wi_Mod_isAbove, wsel_Mod_isAbove, winit_Mod, wc_Mod_isAbove⟩, by decide +kernel, ⟨Nat.le_of_ble_eq_true rfl, Nat.le_of_ble_eq_true rfl⟩, _, rfl, rfl⟩ rfl hl.1 rfl (Nat.le_of_ble_eq_true rfl) d_Ben_work_48 ⟨Nat.le_of_ble_eq_true rfl, Nat.le_of_ble_eq_true rfl⟩ (fun r1 M1 H locs hp X => ?_)
  rw [hp.1] at X
  have h1 := hp.2
  refine lv_if_ne (tgt := 56) hx hb d_Ben_work_51 (by decide) (fun c51 => ?_) (fun c51 => ?_)
  · have hlt : (NV (ρ (2 + a)) : Int) < nN := by rcases h1 with h | h; exact absurd h.1 c51; exact h.2
    refine lv_iload hx hb d_Ben_work_56 (lv_at hl 0 rfl) ?_
    refine lv_iconst (v := 3) hx hb d_Ben_work_58 (by decide) ?_
    refine lv_icmp_ne (tgt := 77) hx hb d_Ben_work_59 (by decide) (fun _ => ?_) (fun c9 => absurd c9 (by decide))
    refine lv_aload hx hb d_Ben_work_77 (lv_at hl 1 rfl) ?_
    refine lv_aload_n hx hb d_Ben_work_79 rfl (lv_at hl 2 rfl) ?_
    refine gm_get hx hb hW hown X u_Ben o0 rfl 0 (by decide) wf_Ben_11 (v := .ref (E.2.1 + 1)) rfl d_Ben_work_80 ?_
    refine lv_iload hx hb d_Ben_work_83 (lv_at hl 6 rfl) ?_
    refine gm_aald2 hx hb X (k := b) (t := E.2.1 + (2 + b)) oA1 rfl rfl ⟨h_b, by decide⟩ (if_pos h_b) d_Ben_work_85 ?_
    refine gm_Vi hx hb hml hown hW X o16 (k_isAbove l I2 (Or.inl (cw_row (r4_n h_b)))) (n := 1) ⟨⟨wl_Ben_126, wi_Mod_isAbove, wsel_Mod_isAbove, winit_Mod, wc_Mod_isAbove⟩, by decide +kernel, ⟨Nat.le_of_ble_eq_true rfl, Nat.le_of_ble_eq_true rfl⟩, _, rfl, rfl⟩ rfl hl.1 rfl (Nat.le_of_ble_eq_true rfl) d_Ben_work_86 ⟨Nat.le_of_ble_eq_true rfl, Nat.le_of_ble_eq_true rfl⟩ (fun r2 M1 H locs hp X => ?_)
    rw [hp.1] at X
    have h2 := hp.2
    refine lv_if_ne (tgt := 94) hx hb d_Ben_work_89 (by decide) (fun c89 => ?_) (fun c89 => ?_)
    · have hq2 : (NV (ρ (2 + b)) : Int) < nN := by rcases h2 with h | h; exact absurd h.1 c89; exact h.2
      refine lv_aload_n hx hb d_Ben_work_94 rfl (lv_at hl 2 rfl) ?_
      refine gm_get hx hb hW hown X u_Ben o0 rfl 7 (by decide) wf_Ben_74 (v := .ref (E.2.1 + 36)) rfl d_Ben_work_95 ?_
      refine lv_aload_n hx hb d_Ben_work_98 rfl (lv_at hl 2 rfl) ?_
      refine gm_get hx hb hW hown X u_Ben o0 rfl 0 (by decide) wf_Ben_11 (v := .ref (E.2.1 + 1)) rfl d_Ben_work_99 ?_
      refine lv_iload_n hx hb d_Ben_work_102 rfl (lv_at hl 5 rfl) ?_
      refine gm_aald2 hx hb X (k := a) (t := E.2.1 + (2 + a)) oA1 rfl rfl ⟨h_a, by decide⟩ (if_pos h_a) d_Ben_work_103 ?_
      have e104 := (rfl : ρ (2 + a) = ρ (2 + a))
      refine gm_Sv hx hb hml hown hW X (k_unpack l (by decide) (Or.inl (cw_row (r4_n h_a)))) (n := 2) ⟨⟨wl_Ben_95, ws_Lim_unpack, winit_Lim, wc_Lim_unpack⟩, by decide +kernel, Nat.le_of_ble_eq_true rfl, Nat.le_of_ble_eq_true rfl⟩ rfl hl.1 rfl (Nat.le_of_ble_eq_true rfl) d_Ben_work_104 ⟨Nat.le_of_ble_eq_true rfl, Nat.le_of_ble_eq_true rfl⟩ (fun M1 H locs hp X => ?_)
      obtain ⟨ρ1, rfl, q1, kk1⟩ := hp
      have u36_1 : ρ1 36 = unF (ρ (2 + a)) := by rw [q1, e104]
      refine lv_aload_n hx hb d_Ben_work_107 rfl (lv_at hl 2 rfl) ?_
      refine gm_get hx hb hW hown X u_Ben o0 rfl 8 (by decide) wf_Ben_77 (v := .ref (E.2.1 + 37)) rfl d_Ben_work_108 ?_
      refine lv_aload_n hx hb d_Ben_work_111 rfl (lv_at hl 2 rfl) ?_
      refine gm_get hx hb hW hown X u_Ben o0 rfl 0 (by decide) wf_Ben_11 (v := .ref (E.2.1 + 1)) rfl d_Ben_work_112 ?_
      refine lv_iload hx hb d_Ben_work_115 (lv_at hl 6 rfl) ?_
      refine gm_aald2 hx hb X (k := b) (t := E.2.1 + (2 + b)) oA1 rfl rfl ⟨h_b, by decide⟩ (if_pos h_b) d_Ben_work_117 ?_
      have e118 := (show ρ1 (2 + b) = ρ (2 + b) by rw [kk1 (2 + b) (by omega)])
      refine gm_Sv hx hb hml hown hW X (k_unpack l (by decide) (Or.inl (cw_row (r4_n h_b)))) (n := 2) ⟨⟨wl_Ben_95, ws_Lim_unpack, winit_Lim, wc_Lim_unpack⟩, by decide +kernel, Nat.le_of_ble_eq_true rfl, Nat.le_of_ble_eq_true rfl⟩ rfl hl.1 rfl (Nat.le_of_ble_eq_true rfl) d_Ben_work_118 ⟨Nat.le_of_ble_eq_true rfl, Nat.le_of_ble_eq_true rfl⟩ (fun M1 H locs hp X => ?_)
      obtain ⟨ρ2, rfl, q2, kk2⟩ := hp
      have u36_2 : ρ2 36 = unF (ρ (2 + a)) := by rw [kk2 36 (by omega)]; exact u36_1
      have u37_2 : ρ2 37 = unF (ρ (2 + b)) := by rw [q2, e118]
      refine lv_aload_n hx hb d_Ben_work_121 rfl (lv_at hl 2 rfl) ?_
      refine lv_iload hx hb d_Ben_work_122 (lv_at hl 0 rfl) ?_
      refine lv_aload hx hb d_Ben_work_124 (lv_at hl 1 rfl) ?_
      refine gm_Vv hx hb hml hown hW X o0 (k_Ben_workOnLeft_0 l E ad N ρ2 fl I2 hn (by decide) (show RV ψ (ρ2 36) 1 (ψ (NV (ρ (2 + a)))) by rw [u36_2]; exact RV.un _ _) (show RV ψ (ρ2 37) 1 (ψ (NV (ρ (2 + b)))) by rw [u37_2]; exact RV.un _ _)) (n := 2) ⟨⟨wl_Ben_133, wi_Ben_workOnLeft, wsel_Ben_workOnLeft, winit_Ben, wc_Ben_workOnLeft⟩, by decide +kernel, ⟨Nat.le_of_ble_eq_true rfl, Nat.le_of_ble_eq_true rfl⟩, _, rfl, rfl⟩ rfl hl.1 rfl (Nat.le_of_ble_eq_true rfl) d_Ben_work_126 ⟨Nat.le_of_ble_eq_true rfl, Nat.le_of_ble_eq_true rfl⟩ (fun M1 H locs hp X => ?_)
      obtain ⟨ρ3, rfl, q3, kk3⟩ := hp
      have u37_3 : ρ3 37 = unF (ρ (2 + b)) := by rw [kk3 37 (by omega) (by omega)]; exact u37_2
      have h36_3 : RV ψ (ρ3 36) 2 (wkV ψ 0 (NV sN2) (NV (ρ (2 + a))) (NV (ρ (2 + b)))) := q3
      refine lv_aload hx hb d_Ben_work_129 (lv_at hl 1 rfl) ?_
      refine lv_aload_n hx hb d_Ben_work_131 rfl (lv_at hl 2 rfl) ?_
      refine gm_get hx hb hW hown X u_Ben o0 rfl 7 (by decide) wf_Ben_74 (v := .ref (E.2.1 + 36)) rfl d_Ben_work_132 ?_
      refine gm_Vv hx hb hml hown hW X o16 (k_settle l I2 hn (by decide) (by omega) h36_3 (by decide)) (n := 1) ⟨⟨wl_Ben_137, wi_Mod_settle, wsel_Mod_settle, winit_Mod, wc_Mod_settle⟩, by decide +kernel, ⟨Nat.le_of_ble_eq_true rfl, Nat.le_of_ble_eq_true rfl⟩, _, rfl, rfl⟩ rfl hl.1 rfl (Nat.le_of_ble_eq_true rfl) d_Ben_work_135 ⟨Nat.le_of_ble_eq_true rfl, Nat.le_of_ble_eq_true rfl⟩ (fun M1 H locs hp X => ?_)
      obtain ⟨ρ4, rfl, q4, kk4⟩ := hp
      have u37_4 : ρ4 37 = unF (ρ (2 + b)) := by rw [kk4 37 (by omega) (by omega)]; exact u37_3
      have s36_4 : ST ψ nN (ρ4 36) (wkV ψ 0 (NV sN2) (NV (ρ (2 + a))) (NV (ρ (2 + b)))) := q4
      refine lv_aload_n hx hb d_Ben_work_138 rfl (lv_at hl 2 rfl) ?_
      refine gm_get hx hb hW hown X u_Ben o0 rfl 0 (by decide) wf_Ben_11 (v := .ref (E.2.1 + 1)) rfl d_Ben_work_139 ?_
      refine lv_iload_n hx hb d_Ben_work_142 rfl (lv_at hl 4 rfl) ?_
      refine gm_aald2 hx hb X (k := t) (t := E.2.1 + (2 + t)) oA1 rfl rfl ⟨h_t, by decide⟩ (if_pos h_t) d_Ben_work_143 ?_
      refine lv_aload_n hx hb d_Ben_work_144 rfl (lv_at hl 2 rfl) ?_
      refine gm_get hx hb hW hown X u_Ben o0 rfl 7 (by decide) wf_Ben_74 (v := .ref (E.2.1 + 36)) rfl d_Ben_work_145 ?_
      refine gm_Sv hx hb hml hown hW X (k_pack l (r4_n h_t) (by decide)) (n := 2) ⟨⟨wl_Ben_141, ws_Lim_pack, winit_Lim, wc_Lim_pack⟩, by decide +kernel, Nat.le_of_ble_eq_true rfl, Nat.le_of_ble_eq_true rfl⟩ rfl hl.1 rfl (Nat.le_of_ble_eq_true rfl) d_Ben_work_148 ⟨Nat.le_of_ble_eq_true rfl, Nat.le_of_ble_eq_true rfl⟩ (fun M1 H locs hp X => ?_)
      obtain ⟨ρ5, rfl, q5, kk5⟩ := hp
      have s36_5 : ST ψ nN (ρ5 36) (wkV ψ 0 (NV sN2) (NV (ρ (2 + a))) (NV (ρ (2 + b)))) := by rw [kk5 36 (by omega)]; exact s36_4
      have u37_5 : ρ5 37 = unF (ρ (2 + b)) := by rw [kk5 37 (by omega)]; exact u37_4
      refine lv_iconst (v := 1) hx hb d_Ben_work_151 (by decide) ?_
      refine kk _ H locs ls ρ5 fl 1 d_Ben_work_152 X (Or.inr ⟨rfl, ⟨hlt, hq2⟩, ?_, fun j hj h1 h2 => by rw [kk5 j (by omega), kk4 j (by omega) (by omega), kk3 j (by omega) (by omega), kk2 j (by omega), kk1 j (by omega)], fun _ _ => rfl⟩)
      rw [q5]
      exact s36_4.pkr hn
    · have hq2 : ¬ (NV (ρ (2 + b)) : Int) < nN := by rcases h2 with h | h; exact h.2; exact absurd (h.1.symm.trans c89) (by decide)
      refine lv_iconst (v := 0) hx hb d_Ben_work_92 (by decide) ?_
      exact kk _ H locs ls ρ fl _ d_Ben_work_93 X (Or.inl ⟨rfl, fun z => hq2 z.2, kNu.rf _ _ _ _⟩)
  · have hlt : ¬ (NV (ρ (2 + a)) : Int) < nN := by rcases h1 with h | h; exact h.2; exact absurd (h.1.symm.trans c51) (by decide)
    refine lv_iconst (v := 0) hx hb d_Ben_work_54 (by decide) ?_
    exact kk _ H locs ls ρ fl _ d_Ben_work_55 X (Or.inl ⟨rfl, fun z => hlt z.1, kNu.rf _ _ _ _⟩)
set_option maxHeartbeats 4000000 in
theorem bd_Ben_work_5 {p : Program} {l : Launch} {e : Env} {s : State} {m : MethodId} {args : Array Value} {below : List Frame} {meth : Method} {c : Code} {Q : State → Prop} {F G : Type} [Lean.Grind.CommRing F] [Lean.Grind.CommRing G] {φ : Int → F} {inv : F → F} {ψ : Int → G} {E : gm_E} {ad : Nat → Nat} {N : gm_M} {ρ : Nat → Nat → Int64} {fl : Nat → Int32} (hx : p.tables.exec = Jvm.exec) (hb : c.code = b_Ben_work) (hml : c.maxLocals = 7) (hown : s.vm.findClass R_Ben = some m.cls) (hW : ∀ w ∈ WB, w.before args s = true) (hg : gE E ad) (hk : fk φ inv) (hn : fm ψ nN) {t : Nat} (h_t : t < 8) {a : Nat} (h_a : a < 8) {b : Nat} (h_b : b < 8)  {H : Heap} {locs : List Loc} {ls : Array Slot} (X : gx E (cW E ad N ρ fl) s H locs) (hl : lv_has ls 7 [(0, .ref (E.2.1 + 0)), (1, .int 5), (2, .int (nI t)), (3, .int (nI a)), (4, .int (nI b))])
    (kk : ∀ (z : Nat) (H : Heap) (locs : List Loc) (ls : Array Slot) ρ' fl' (r : Int32), decode b_Ben_work z = .ok (.ireturn, 1) → gx E (cW E ad N ρ' fl') s H locs → ((r = 0 ∧ ¬ wkOK 1 nN (NV (ρ (2 + a))) (NV (ρ (2 + b))) ∧ kNu 0 0 ρ ρ' fl fl') ∨ (r = 1 ∧ wkOK 1 nN (NV (ρ (2 + a))) (NV (ρ (2 + b))) ∧ NV (ρ' (2 + t)) = rp ψ nN (wkV ψ 1 (NV sN2) (NV (ρ (2 + a))) (NV (ρ (2 + b)))) ∧ kNu (2 + t) 0 ρ ρ' fl fl')) → W p l e { frames := 7, cells := 4, slots := 24, locals := 153 } s m args below meth c H locs 4 24 Q (F0 m z ls [.int r])) :
    W p l e { frames := 7, cells := 4, slots := 24, locals := 153 } s m args below meth c H locs 4 24 Q (F0 m 17 ls []) := by
  have hf := hk.fm
  have I := isM_P hg
  have I2 := isM_N hg
  refine lv_iload_n hx hb d_Ben_work_17 rfl (lv_at hl 1 rfl) ?_
  refine lv_iconst (v := 4) hx hb d_Ben_work_18 (by decide) ?_
  refine lv_icmp_ge (tgt := 29) hx hb d_Ben_work_19 (by decide) (fun _ => ?_) (fun c9 => absurd (by decide) c9)
  refine lv_aload_n hx hb d_Ben_work_29 rfl (lv_at hl 0 rfl) ?_
  refine gm_get hx hb hW hown X u_Ben o0 rfl 3 (by decide) wf_Ben_54 (v := .ref (E.2.1 + 16)) rfl d_Ben_work_30 ?_
  refine lv_astore (lv' := [(5, .ref (E.2.1 + 16)), (0, .ref (E.2.1 + 0)), (1, .int 5), (2, .int (nI t)), (3, .int (nI a)), (4, .int (nI b))]) hx hb d_Ben_work_33 hl (by decide) rfl (fun ls hl => ?_)
  refine lv_iload_n hx hb d_Ben_work_35 rfl (lv_at hl 2 rfl) ?_
  refine lv_iconst (v := 4) hx hb d_Ben_work_36 (by decide) ?_
  refine lv_irem hx hb d_Ben_work_37 (by decide) ?_
  refine lv_eqi (v := 1) (by decide) ?_
  refine lv_istore (lv' := [(6, .int 1), (5, .ref (E.2.1 + 16)), (0, .ref (E.2.1 + 0)), (1, .int 5), (2, .int (nI t)), (3, .int (nI a)), (4, .int (nI b))]) hx hb d_Ben_work_38 hl (by decide) rfl (fun ls hl => ?_)
  refine lv_aload hx hb d_Ben_work_40 (lv_at hl 1 rfl) ?_
  refine lv_aload_n hx hb d_Ben_work_42 rfl (lv_at hl 2 rfl) ?_
  refine gm_get hx hb hW hown X u_Ben o0 rfl 0 (by decide) wf_Ben_11 (v := .ref (E.2.1 + 1)) rfl d_Ben_work_43 ?_
  refine lv_iload_n hx hb d_Ben_work_46 rfl (lv_at hl 5 rfl) ?_
  refine gm_aald2 hx hb X (k := a) (t := E.2.1 + (2 + a)) oA1 rfl rfl ⟨h_a, by decide⟩ (if_pos h_a) d_Ben_work_47 ?_
  refine gm_Vi hx hb hml hown hW X o16 (k_isAbove l I2 (Or.inl (cw_row (r4_n h_a)))) (n := 1) ⟨⟨wl_Ben_126, wi_Mod_isAbove, wsel_Mod_isAbove, winit_Mod, wc_Mod_isAbove⟩, by decide +kernel, ⟨Nat.le_of_ble_eq_true rfl, Nat.le_of_ble_eq_true rfl⟩, _, rfl, rfl⟩ rfl hl.1 rfl (Nat.le_of_ble_eq_true rfl) d_Ben_work_48 ⟨Nat.le_of_ble_eq_true rfl, Nat.le_of_ble_eq_true rfl⟩ (fun r1 M1 H locs hp X => ?_)
  rw [hp.1] at X
  have h1 := hp.2
  refine lv_if_ne (tgt := 56) hx hb d_Ben_work_51 (by decide) (fun c51 => ?_) (fun c51 => ?_)
  · have hlt : (NV (ρ (2 + a)) : Int) < nN := by rcases h1 with h | h; exact absurd h.1 c51; exact h.2
    refine lv_iload hx hb d_Ben_work_56 (lv_at hl 0 rfl) ?_
    refine lv_iconst (v := 3) hx hb d_Ben_work_58 (by decide) ?_
    refine lv_icmp_ne (tgt := 77) hx hb d_Ben_work_59 (by decide) (fun _ => ?_) (fun c9 => absurd c9 (by decide))
    refine lv_aload hx hb d_Ben_work_77 (lv_at hl 1 rfl) ?_
    refine lv_aload_n hx hb d_Ben_work_79 rfl (lv_at hl 2 rfl) ?_
    refine gm_get hx hb hW hown X u_Ben o0 rfl 0 (by decide) wf_Ben_11 (v := .ref (E.2.1 + 1)) rfl d_Ben_work_80 ?_
    refine lv_iload hx hb d_Ben_work_83 (lv_at hl 6 rfl) ?_
    refine gm_aald2 hx hb X (k := b) (t := E.2.1 + (2 + b)) oA1 rfl rfl ⟨h_b, by decide⟩ (if_pos h_b) d_Ben_work_85 ?_
    refine gm_Vi hx hb hml hown hW X o16 (k_isAbove l I2 (Or.inl (cw_row (r4_n h_b)))) (n := 1) ⟨⟨wl_Ben_126, wi_Mod_isAbove, wsel_Mod_isAbove, winit_Mod, wc_Mod_isAbove⟩, by decide +kernel, ⟨Nat.le_of_ble_eq_true rfl, Nat.le_of_ble_eq_true rfl⟩, _, rfl, rfl⟩ rfl hl.1 rfl (Nat.le_of_ble_eq_true rfl) d_Ben_work_86 ⟨Nat.le_of_ble_eq_true rfl, Nat.le_of_ble_eq_true rfl⟩ (fun r2 M1 H locs hp X => ?_)
    rw [hp.1] at X
    have h2 := hp.2
    refine lv_if_ne (tgt := 94) hx hb d_Ben_work_89 (by decide) (fun c89 => ?_) (fun c89 => ?_)
    · have hq2 : (NV (ρ (2 + b)) : Int) < nN := by rcases h2 with h | h; exact absurd h.1 c89; exact h.2
      refine lv_aload_n hx hb d_Ben_work_94 rfl (lv_at hl 2 rfl) ?_
      refine gm_get hx hb hW hown X u_Ben o0 rfl 7 (by decide) wf_Ben_74 (v := .ref (E.2.1 + 36)) rfl d_Ben_work_95 ?_
      refine lv_aload_n hx hb d_Ben_work_98 rfl (lv_at hl 2 rfl) ?_
      refine gm_get hx hb hW hown X u_Ben o0 rfl 0 (by decide) wf_Ben_11 (v := .ref (E.2.1 + 1)) rfl d_Ben_work_99 ?_
      refine lv_iload_n hx hb d_Ben_work_102 rfl (lv_at hl 5 rfl) ?_
      refine gm_aald2 hx hb X (k := a) (t := E.2.1 + (2 + a)) oA1 rfl rfl ⟨h_a, by decide⟩ (if_pos h_a) d_Ben_work_103 ?_
      have e104 := (rfl : ρ (2 + a) = ρ (2 + a))
      refine gm_Sv hx hb hml hown hW X (k_unpack l (by decide) (Or.inl (cw_row (r4_n h_a)))) (n := 2) ⟨⟨wl_Ben_95, ws_Lim_unpack, winit_Lim, wc_Lim_unpack⟩, by decide +kernel, Nat.le_of_ble_eq_true rfl, Nat.le_of_ble_eq_true rfl⟩ rfl hl.1 rfl (Nat.le_of_ble_eq_true rfl) d_Ben_work_104 ⟨Nat.le_of_ble_eq_true rfl, Nat.le_of_ble_eq_true rfl⟩ (fun M1 H locs hp X => ?_)
      obtain ⟨ρ1, rfl, q1, kk1⟩ := hp
      have u36_1 : ρ1 36 = unF (ρ (2 + a)) := by rw [q1, e104]
      refine lv_aload_n hx hb d_Ben_work_107 rfl (lv_at hl 2 rfl) ?_
      refine gm_get hx hb hW hown X u_Ben o0 rfl 8 (by decide) wf_Ben_77 (v := .ref (E.2.1 + 37)) rfl d_Ben_work_108 ?_
      refine lv_aload_n hx hb d_Ben_work_111 rfl (lv_at hl 2 rfl) ?_
      refine gm_get hx hb hW hown X u_Ben o0 rfl 0 (by decide) wf_Ben_11 (v := .ref (E.2.1 + 1)) rfl d_Ben_work_112 ?_
      refine lv_iload hx hb d_Ben_work_115 (lv_at hl 6 rfl) ?_
      refine gm_aald2 hx hb X (k := b) (t := E.2.1 + (2 + b)) oA1 rfl rfl ⟨h_b, by decide⟩ (if_pos h_b) d_Ben_work_117 ?_
      have e118 := (show ρ1 (2 + b) = ρ (2 + b) by rw [kk1 (2 + b) (by omega)])
      refine gm_Sv hx hb hml hown hW X (k_unpack l (by decide) (Or.inl (cw_row (r4_n h_b)))) (n := 2) ⟨⟨wl_Ben_95, ws_Lim_unpack, winit_Lim, wc_Lim_unpack⟩, by decide +kernel, Nat.le_of_ble_eq_true rfl, Nat.le_of_ble_eq_true rfl⟩ rfl hl.1 rfl (Nat.le_of_ble_eq_true rfl) d_Ben_work_118 ⟨Nat.le_of_ble_eq_true rfl, Nat.le_of_ble_eq_true rfl⟩ (fun M1 H locs hp X => ?_)
      obtain ⟨ρ2, rfl, q2, kk2⟩ := hp
      have u36_2 : ρ2 36 = unF (ρ (2 + a)) := by rw [kk2 36 (by omega)]; exact u36_1
      have u37_2 : ρ2 37 = unF (ρ (2 + b)) := by rw [q2, e118]
      refine lv_aload_n hx hb d_Ben_work_121 rfl (lv_at hl 2 rfl) ?_
      refine lv_iload hx hb d_Ben_work_122 (lv_at hl 0 rfl) ?_
      refine lv_aload hx hb d_Ben_work_124 (lv_at hl 1 rfl) ?_
      refine gm_Vv hx hb hml hown hW X o0 (k_Ben_workOnLeft_1 l E ad N ρ2 fl I2 hn (by decide) (show RV ψ (ρ2 36) 1 (ψ (NV (ρ (2 + a)))) by rw [u36_2]; exact RV.un _ _) (show RV ψ (ρ2 37) 1 (ψ (NV (ρ (2 + b)))) by rw [u37_2]; exact RV.un _ _)) (n := 2) ⟨⟨wl_Ben_133, wi_Ben_workOnLeft, wsel_Ben_workOnLeft, winit_Ben, wc_Ben_workOnLeft⟩, by decide +kernel, ⟨Nat.le_of_ble_eq_true rfl, Nat.le_of_ble_eq_true rfl⟩, _, rfl, rfl⟩ rfl hl.1 rfl (Nat.le_of_ble_eq_true rfl) d_Ben_work_126 ⟨Nat.le_of_ble_eq_true rfl, Nat.le_of_ble_eq_true rfl⟩ (fun M1 H locs hp X => ?_)
      obtain ⟨ρ3, rfl, q3, kk3⟩ := hp
      have u37_3 : ρ3 37 = unF (ρ (2 + b)) := by rw [kk3 37 (by omega) (by omega)]; exact u37_2
      have h36_3 : RV ψ (ρ3 36) 2 (wkV ψ 1 (NV sN2) (NV (ρ (2 + a))) (NV (ρ (2 + b)))) := q3
      refine lv_aload hx hb d_Ben_work_129 (lv_at hl 1 rfl) ?_
      refine lv_aload_n hx hb d_Ben_work_131 rfl (lv_at hl 2 rfl) ?_
      refine gm_get hx hb hW hown X u_Ben o0 rfl 7 (by decide) wf_Ben_74 (v := .ref (E.2.1 + 36)) rfl d_Ben_work_132 ?_
      refine gm_Vv hx hb hml hown hW X o16 (k_settle l I2 hn (by decide) (by omega) h36_3 (by decide)) (n := 1) ⟨⟨wl_Ben_137, wi_Mod_settle, wsel_Mod_settle, winit_Mod, wc_Mod_settle⟩, by decide +kernel, ⟨Nat.le_of_ble_eq_true rfl, Nat.le_of_ble_eq_true rfl⟩, _, rfl, rfl⟩ rfl hl.1 rfl (Nat.le_of_ble_eq_true rfl) d_Ben_work_135 ⟨Nat.le_of_ble_eq_true rfl, Nat.le_of_ble_eq_true rfl⟩ (fun M1 H locs hp X => ?_)
      obtain ⟨ρ4, rfl, q4, kk4⟩ := hp
      have u37_4 : ρ4 37 = unF (ρ (2 + b)) := by rw [kk4 37 (by omega) (by omega)]; exact u37_3
      have s36_4 : ST ψ nN (ρ4 36) (wkV ψ 1 (NV sN2) (NV (ρ (2 + a))) (NV (ρ (2 + b)))) := q4
      refine lv_aload_n hx hb d_Ben_work_138 rfl (lv_at hl 2 rfl) ?_
      refine gm_get hx hb hW hown X u_Ben o0 rfl 0 (by decide) wf_Ben_11 (v := .ref (E.2.1 + 1)) rfl d_Ben_work_139 ?_
      refine lv_iload_n hx hb d_Ben_work_142 rfl (lv_at hl 4 rfl) ?_
      refine gm_aald2 hx hb X (k := t) (t := E.2.1 + (2 + t)) oA1 rfl rfl ⟨h_t, by decide⟩ (if_pos h_t) d_Ben_work_143 ?_
      refine lv_aload_n hx hb d_Ben_work_144 rfl (lv_at hl 2 rfl) ?_
      refine gm_get hx hb hW hown X u_Ben o0 rfl 7 (by decide) wf_Ben_74 (v := .ref (E.2.1 + 36)) rfl d_Ben_work_145 ?_
      refine gm_Sv hx hb hml hown hW X (k_pack l (r4_n h_t) (by decide)) (n := 2) ⟨⟨wl_Ben_141, ws_Lim_pack, winit_Lim, wc_Lim_pack⟩, by decide +kernel, Nat.le_of_ble_eq_true rfl, Nat.le_of_ble_eq_true rfl⟩ rfl hl.1 rfl (Nat.le_of_ble_eq_true rfl) d_Ben_work_148 ⟨Nat.le_of_ble_eq_true rfl, Nat.le_of_ble_eq_true rfl⟩ (fun M1 H locs hp X => ?_)
      obtain ⟨ρ5, rfl, q5, kk5⟩ := hp
      have s36_5 : ST ψ nN (ρ5 36) (wkV ψ 1 (NV sN2) (NV (ρ (2 + a))) (NV (ρ (2 + b)))) := by rw [kk5 36 (by omega)]; exact s36_4
      have u37_5 : ρ5 37 = unF (ρ (2 + b)) := by rw [kk5 37 (by omega)]; exact u37_4
      refine lv_iconst (v := 1) hx hb d_Ben_work_151 (by decide) ?_
      refine kk _ H locs ls ρ5 fl 1 d_Ben_work_152 X (Or.inr ⟨rfl, ⟨hlt, hq2⟩, ?_, fun j hj h1 h2 => by rw [kk5 j (by omega), kk4 j (by omega) (by omega), kk3 j (by omega) (by omega), kk2 j (by omega), kk1 j (by omega)], fun _ _ => rfl⟩)
      rw [q5]
      exact s36_4.pkr hn
    · have hq2 : ¬ (NV (ρ (2 + b)) : Int) < nN := by rcases h2 with h | h; exact h.2; exact absurd (h.1.symm.trans c89) (by decide)
      refine lv_iconst (v := 0) hx hb d_Ben_work_92 (by decide) ?_
      exact kk _ H locs ls ρ fl _ d_Ben_work_93 X (Or.inl ⟨rfl, fun z => hq2 z.2, kNu.rf _ _ _ _⟩)
  · have hlt : ¬ (NV (ρ (2 + a)) : Int) < nN := by rcases h1 with h | h; exact h.2; exact absurd (h.1.symm.trans c51) (by decide)
    refine lv_iconst (v := 0) hx hb d_Ben_work_54 (by decide) ?_
    exact kk _ H locs ls ρ fl _ d_Ben_work_55 X (Or.inl ⟨rfl, fun z => hlt z.1, kNu.rf _ _ _ _⟩)
set_option maxHeartbeats 4000000 in
theorem bd_Ben_work_6 {p : Program} {l : Launch} {e : Env} {s : State} {m : MethodId} {args : Array Value} {below : List Frame} {meth : Method} {c : Code} {Q : State → Prop} {F G : Type} [Lean.Grind.CommRing F] [Lean.Grind.CommRing G] {φ : Int → F} {inv : F → F} {ψ : Int → G} {E : gm_E} {ad : Nat → Nat} {N : gm_M} {ρ : Nat → Nat → Int64} {fl : Nat → Int32} (hx : p.tables.exec = Jvm.exec) (hb : c.code = b_Ben_work) (hml : c.maxLocals = 7) (hown : s.vm.findClass R_Ben = some m.cls) (hW : ∀ w ∈ WB, w.before args s = true) (hg : gE E ad) (hk : fk φ inv) (hn : fm ψ nN) {t : Nat} (h_t : t < 8) {a : Nat} (h_a : a < 8) {b : Nat} (h_b : b < 8)  {H : Heap} {locs : List Loc} {ls : Array Slot} (X : gx E (cW E ad N ρ fl) s H locs) (hl : lv_has ls 7 [(0, .ref (E.2.1 + 0)), (1, .int 6), (2, .int (nI t)), (3, .int (nI a)), (4, .int (nI b))])
    (kk : ∀ (z : Nat) (H : Heap) (locs : List Loc) (ls : Array Slot) ρ' fl' (r : Int32), decode b_Ben_work z = .ok (.ireturn, 1) → gx E (cW E ad N ρ' fl') s H locs → ((r = 0 ∧ ¬ wkOK 2 nN (NV (ρ (2 + a))) (NV (ρ (2 + b))) ∧ kNu 0 0 ρ ρ' fl fl') ∨ (r = 1 ∧ wkOK 2 nN (NV (ρ (2 + a))) (NV (ρ (2 + b))) ∧ NV (ρ' (2 + t)) = rp ψ nN (wkV ψ 2 (NV sN2) (NV (ρ (2 + a))) (NV (ρ (2 + b)))) ∧ kNu (2 + t) 0 ρ ρ' fl fl')) → W p l e { frames := 7, cells := 4, slots := 24, locals := 153 } s m args below meth c H locs 4 24 Q (F0 m z ls [.int r])) :
    W p l e { frames := 7, cells := 4, slots := 24, locals := 153 } s m args below meth c H locs 4 24 Q (F0 m 17 ls []) := by
  have hf := hk.fm
  have I := isM_P hg
  have I2 := isM_N hg
  refine lv_iload_n hx hb d_Ben_work_17 rfl (lv_at hl 1 rfl) ?_
  refine lv_iconst (v := 4) hx hb d_Ben_work_18 (by decide) ?_
  refine lv_icmp_ge (tgt := 29) hx hb d_Ben_work_19 (by decide) (fun _ => ?_) (fun c9 => absurd (by decide) c9)
  refine lv_aload_n hx hb d_Ben_work_29 rfl (lv_at hl 0 rfl) ?_
  refine gm_get hx hb hW hown X u_Ben o0 rfl 3 (by decide) wf_Ben_54 (v := .ref (E.2.1 + 16)) rfl d_Ben_work_30 ?_
  refine lv_astore (lv' := [(5, .ref (E.2.1 + 16)), (0, .ref (E.2.1 + 0)), (1, .int 6), (2, .int (nI t)), (3, .int (nI a)), (4, .int (nI b))]) hx hb d_Ben_work_33 hl (by decide) rfl (fun ls hl => ?_)
  refine lv_iload_n hx hb d_Ben_work_35 rfl (lv_at hl 2 rfl) ?_
  refine lv_iconst (v := 4) hx hb d_Ben_work_36 (by decide) ?_
  refine lv_irem hx hb d_Ben_work_37 (by decide) ?_
  refine lv_eqi (v := 2) (by decide) ?_
  refine lv_istore (lv' := [(6, .int 2), (5, .ref (E.2.1 + 16)), (0, .ref (E.2.1 + 0)), (1, .int 6), (2, .int (nI t)), (3, .int (nI a)), (4, .int (nI b))]) hx hb d_Ben_work_38 hl (by decide) rfl (fun ls hl => ?_)
  refine lv_aload hx hb d_Ben_work_40 (lv_at hl 1 rfl) ?_
  refine lv_aload_n hx hb d_Ben_work_42 rfl (lv_at hl 2 rfl) ?_
  refine gm_get hx hb hW hown X u_Ben o0 rfl 0 (by decide) wf_Ben_11 (v := .ref (E.2.1 + 1)) rfl d_Ben_work_43 ?_
  refine lv_iload_n hx hb d_Ben_work_46 rfl (lv_at hl 5 rfl) ?_
  refine gm_aald2 hx hb X (k := a) (t := E.2.1 + (2 + a)) oA1 rfl rfl ⟨h_a, by decide⟩ (if_pos h_a) d_Ben_work_47 ?_
  refine gm_Vi hx hb hml hown hW X o16 (k_isAbove l I2 (Or.inl (cw_row (r4_n h_a)))) (n := 1) ⟨⟨wl_Ben_126, wi_Mod_isAbove, wsel_Mod_isAbove, winit_Mod, wc_Mod_isAbove⟩, by decide +kernel, ⟨Nat.le_of_ble_eq_true rfl, Nat.le_of_ble_eq_true rfl⟩, _, rfl, rfl⟩ rfl hl.1 rfl (Nat.le_of_ble_eq_true rfl) d_Ben_work_48 ⟨Nat.le_of_ble_eq_true rfl, Nat.le_of_ble_eq_true rfl⟩ (fun r1 M1 H locs hp X => ?_)
  rw [hp.1] at X
  have h1 := hp.2
  refine lv_if_ne (tgt := 56) hx hb d_Ben_work_51 (by decide) (fun c51 => ?_) (fun c51 => ?_)
  · have hlt : (NV (ρ (2 + a)) : Int) < nN := by rcases h1 with h | h; exact absurd h.1 c51; exact h.2
    refine lv_iload hx hb d_Ben_work_56 (lv_at hl 0 rfl) ?_
    refine lv_iconst (v := 3) hx hb d_Ben_work_58 (by decide) ?_
    refine lv_icmp_ne (tgt := 77) hx hb d_Ben_work_59 (by decide) (fun _ => ?_) (fun c9 => absurd c9 (by decide))
    refine lv_aload hx hb d_Ben_work_77 (lv_at hl 1 rfl) ?_
    refine lv_aload_n hx hb d_Ben_work_79 rfl (lv_at hl 2 rfl) ?_
    refine gm_get hx hb hW hown X u_Ben o0 rfl 0 (by decide) wf_Ben_11 (v := .ref (E.2.1 + 1)) rfl d_Ben_work_80 ?_
    refine lv_iload hx hb d_Ben_work_83 (lv_at hl 6 rfl) ?_
    refine gm_aald2 hx hb X (k := b) (t := E.2.1 + (2 + b)) oA1 rfl rfl ⟨h_b, by decide⟩ (if_pos h_b) d_Ben_work_85 ?_
    refine gm_Vi hx hb hml hown hW X o16 (k_isAbove l I2 (Or.inl (cw_row (r4_n h_b)))) (n := 1) ⟨⟨wl_Ben_126, wi_Mod_isAbove, wsel_Mod_isAbove, winit_Mod, wc_Mod_isAbove⟩, by decide +kernel, ⟨Nat.le_of_ble_eq_true rfl, Nat.le_of_ble_eq_true rfl⟩, _, rfl, rfl⟩ rfl hl.1 rfl (Nat.le_of_ble_eq_true rfl) d_Ben_work_86 ⟨Nat.le_of_ble_eq_true rfl, Nat.le_of_ble_eq_true rfl⟩ (fun r2 M1 H locs hp X => ?_)
    rw [hp.1] at X
    have h2 := hp.2
    refine lv_if_ne (tgt := 94) hx hb d_Ben_work_89 (by decide) (fun c89 => ?_) (fun c89 => ?_)
    · have hq2 : (NV (ρ (2 + b)) : Int) < nN := by rcases h2 with h | h; exact absurd h.1 c89; exact h.2
      refine lv_aload_n hx hb d_Ben_work_94 rfl (lv_at hl 2 rfl) ?_
      refine gm_get hx hb hW hown X u_Ben o0 rfl 7 (by decide) wf_Ben_74 (v := .ref (E.2.1 + 36)) rfl d_Ben_work_95 ?_
      refine lv_aload_n hx hb d_Ben_work_98 rfl (lv_at hl 2 rfl) ?_
      refine gm_get hx hb hW hown X u_Ben o0 rfl 0 (by decide) wf_Ben_11 (v := .ref (E.2.1 + 1)) rfl d_Ben_work_99 ?_
      refine lv_iload_n hx hb d_Ben_work_102 rfl (lv_at hl 5 rfl) ?_
      refine gm_aald2 hx hb X (k := a) (t := E.2.1 + (2 + a)) oA1 rfl rfl ⟨h_a, by decide⟩ (if_pos h_a) d_Ben_work_103 ?_
      have e104 := (rfl : ρ (2 + a) = ρ (2 + a))
      refine gm_Sv hx hb hml hown hW X (k_unpack l (by decide) (Or.inl (cw_row (r4_n h_a)))) (n := 2) ⟨⟨wl_Ben_95, ws_Lim_unpack, winit_Lim, wc_Lim_unpack⟩, by decide +kernel, Nat.le_of_ble_eq_true rfl, Nat.le_of_ble_eq_true rfl⟩ rfl hl.1 rfl (Nat.le_of_ble_eq_true rfl) d_Ben_work_104 ⟨Nat.le_of_ble_eq_true rfl, Nat.le_of_ble_eq_true rfl⟩ (fun M1 H locs hp X => ?_)
      obtain ⟨ρ1, rfl, q1, kk1⟩ := hp
      have u36_1 : ρ1 36 = unF (ρ (2 + a)) := by rw [q1, e104]
      refine lv_aload_n hx hb d_Ben_work_107 rfl (lv_at hl 2 rfl) ?_
      refine gm_get hx hb hW hown X u_Ben o0 rfl 8 (by decide) wf_Ben_77 (v := .ref (E.2.1 + 37)) rfl d_Ben_work_108 ?_
      refine lv_aload_n hx hb d_Ben_work_111 rfl (lv_at hl 2 rfl) ?_
      refine gm_get hx hb hW hown X u_Ben o0 rfl 0 (by decide) wf_Ben_11 (v := .ref (E.2.1 + 1)) rfl d_Ben_work_112 ?_
      refine lv_iload hx hb d_Ben_work_115 (lv_at hl 6 rfl) ?_
      refine gm_aald2 hx hb X (k := b) (t := E.2.1 + (2 + b)) oA1 rfl rfl ⟨h_b, by decide⟩ (if_pos h_b) d_Ben_work_117 ?_
      have e118 := (show ρ1 (2 + b) = ρ (2 + b) by rw [kk1 (2 + b) (by omega)])
      refine gm_Sv hx hb hml hown hW X (k_unpack l (by decide) (Or.inl (cw_row (r4_n h_b)))) (n := 2) ⟨⟨wl_Ben_95, ws_Lim_unpack, winit_Lim, wc_Lim_unpack⟩, by decide +kernel, Nat.le_of_ble_eq_true rfl, Nat.le_of_ble_eq_true rfl⟩ rfl hl.1 rfl (Nat.le_of_ble_eq_true rfl) d_Ben_work_118 ⟨Nat.le_of_ble_eq_true rfl, Nat.le_of_ble_eq_true rfl⟩ (fun M1 H locs hp X => ?_)
      obtain ⟨ρ2, rfl, q2, kk2⟩ := hp
      have u36_2 : ρ2 36 = unF (ρ (2 + a)) := by rw [kk2 36 (by omega)]; exact u36_1
      have u37_2 : ρ2 37 = unF (ρ (2 + b)) := by rw [q2, e118]
      refine lv_aload_n hx hb d_Ben_work_121 rfl (lv_at hl 2 rfl) ?_
      refine lv_iload hx hb d_Ben_work_122 (lv_at hl 0 rfl) ?_
      refine lv_aload hx hb d_Ben_work_124 (lv_at hl 1 rfl) ?_
      refine gm_Vv hx hb hml hown hW X o0 (k_Ben_workOnLeft_2 l E ad N ρ2 fl I2 hn (by decide) (show RV ψ (ρ2 36) 1 (ψ (NV (ρ (2 + a)))) by rw [u36_2]; exact RV.un _ _) (show RV ψ (ρ2 37) 1 (ψ (NV (ρ (2 + b)))) by rw [u37_2]; exact RV.un _ _)) (n := 2) ⟨⟨wl_Ben_133, wi_Ben_workOnLeft, wsel_Ben_workOnLeft, winit_Ben, wc_Ben_workOnLeft⟩, by decide +kernel, ⟨Nat.le_of_ble_eq_true rfl, Nat.le_of_ble_eq_true rfl⟩, _, rfl, rfl⟩ rfl hl.1 rfl (Nat.le_of_ble_eq_true rfl) d_Ben_work_126 ⟨Nat.le_of_ble_eq_true rfl, Nat.le_of_ble_eq_true rfl⟩ (fun M1 H locs hp X => ?_)
      obtain ⟨ρ3, rfl, q3, kk3⟩ := hp
      have u37_3 : ρ3 37 = unF (ρ (2 + b)) := by rw [kk3 37 (by omega) (by omega)]; exact u37_2
      have h36_3 : RV ψ (ρ3 36) 2 (wkV ψ 2 (NV sN2) (NV (ρ (2 + a))) (NV (ρ (2 + b)))) := q3
      refine lv_aload hx hb d_Ben_work_129 (lv_at hl 1 rfl) ?_
      refine lv_aload_n hx hb d_Ben_work_131 rfl (lv_at hl 2 rfl) ?_
      refine gm_get hx hb hW hown X u_Ben o0 rfl 7 (by decide) wf_Ben_74 (v := .ref (E.2.1 + 36)) rfl d_Ben_work_132 ?_
      refine gm_Vv hx hb hml hown hW X o16 (k_settle l I2 hn (by decide) (by omega) h36_3 (by decide)) (n := 1) ⟨⟨wl_Ben_137, wi_Mod_settle, wsel_Mod_settle, winit_Mod, wc_Mod_settle⟩, by decide +kernel, ⟨Nat.le_of_ble_eq_true rfl, Nat.le_of_ble_eq_true rfl⟩, _, rfl, rfl⟩ rfl hl.1 rfl (Nat.le_of_ble_eq_true rfl) d_Ben_work_135 ⟨Nat.le_of_ble_eq_true rfl, Nat.le_of_ble_eq_true rfl⟩ (fun M1 H locs hp X => ?_)
      obtain ⟨ρ4, rfl, q4, kk4⟩ := hp
      have u37_4 : ρ4 37 = unF (ρ (2 + b)) := by rw [kk4 37 (by omega) (by omega)]; exact u37_3
      have s36_4 : ST ψ nN (ρ4 36) (wkV ψ 2 (NV sN2) (NV (ρ (2 + a))) (NV (ρ (2 + b)))) := q4
      refine lv_aload_n hx hb d_Ben_work_138 rfl (lv_at hl 2 rfl) ?_
      refine gm_get hx hb hW hown X u_Ben o0 rfl 0 (by decide) wf_Ben_11 (v := .ref (E.2.1 + 1)) rfl d_Ben_work_139 ?_
      refine lv_iload_n hx hb d_Ben_work_142 rfl (lv_at hl 4 rfl) ?_
      refine gm_aald2 hx hb X (k := t) (t := E.2.1 + (2 + t)) oA1 rfl rfl ⟨h_t, by decide⟩ (if_pos h_t) d_Ben_work_143 ?_
      refine lv_aload_n hx hb d_Ben_work_144 rfl (lv_at hl 2 rfl) ?_
      refine gm_get hx hb hW hown X u_Ben o0 rfl 7 (by decide) wf_Ben_74 (v := .ref (E.2.1 + 36)) rfl d_Ben_work_145 ?_
      refine gm_Sv hx hb hml hown hW X (k_pack l (r4_n h_t) (by decide)) (n := 2) ⟨⟨wl_Ben_141, ws_Lim_pack, winit_Lim, wc_Lim_pack⟩, by decide +kernel, Nat.le_of_ble_eq_true rfl, Nat.le_of_ble_eq_true rfl⟩ rfl hl.1 rfl (Nat.le_of_ble_eq_true rfl) d_Ben_work_148 ⟨Nat.le_of_ble_eq_true rfl, Nat.le_of_ble_eq_true rfl⟩ (fun M1 H locs hp X => ?_)
      obtain ⟨ρ5, rfl, q5, kk5⟩ := hp
      have s36_5 : ST ψ nN (ρ5 36) (wkV ψ 2 (NV sN2) (NV (ρ (2 + a))) (NV (ρ (2 + b)))) := by rw [kk5 36 (by omega)]; exact s36_4
      have u37_5 : ρ5 37 = unF (ρ (2 + b)) := by rw [kk5 37 (by omega)]; exact u37_4
      refine lv_iconst (v := 1) hx hb d_Ben_work_151 (by decide) ?_
      refine kk _ H locs ls ρ5 fl 1 d_Ben_work_152 X (Or.inr ⟨rfl, ⟨hlt, hq2⟩, ?_, fun j hj h1 h2 => by rw [kk5 j (by omega), kk4 j (by omega) (by omega), kk3 j (by omega) (by omega), kk2 j (by omega), kk1 j (by omega)], fun _ _ => rfl⟩)
      rw [q5]
      exact s36_4.pkr hn
    · have hq2 : ¬ (NV (ρ (2 + b)) : Int) < nN := by rcases h2 with h | h; exact h.2; exact absurd (h.1.symm.trans c89) (by decide)
      refine lv_iconst (v := 0) hx hb d_Ben_work_92 (by decide) ?_
      exact kk _ H locs ls ρ fl _ d_Ben_work_93 X (Or.inl ⟨rfl, fun z => hq2 z.2, kNu.rf _ _ _ _⟩)
  · have hlt : ¬ (NV (ρ (2 + a)) : Int) < nN := by rcases h1 with h | h; exact h.2; exact absurd (h.1.symm.trans c51) (by decide)
    refine lv_iconst (v := 0) hx hb d_Ben_work_54 (by decide) ?_
    exact kk _ H locs ls ρ fl _ d_Ben_work_55 X (Or.inl ⟨rfl, fun z => hlt z.1, kNu.rf _ _ _ _⟩)
set_option maxHeartbeats 4000000 in
theorem bd_Ben_work_7 {p : Program} {l : Launch} {e : Env} {s : State} {m : MethodId} {args : Array Value} {below : List Frame} {meth : Method} {c : Code} {Q : State → Prop} {F G : Type} [Lean.Grind.CommRing F] [Lean.Grind.CommRing G] {φ : Int → F} {inv : F → F} {ψ : Int → G} {E : gm_E} {ad : Nat → Nat} {N : gm_M} {ρ : Nat → Nat → Int64} {fl : Nat → Int32} (hx : p.tables.exec = Jvm.exec) (hb : c.code = b_Ben_work) (hml : c.maxLocals = 7) (hown : s.vm.findClass R_Ben = some m.cls) (hW : ∀ w ∈ WB, w.before args s = true) (hg : gE E ad) (hk : fk φ inv) (hn : fm ψ nN) {t : Nat} (h_t : t < 8) {a : Nat} (h_a : a < 8) {b : Nat} (h_b : b < 8)  {H : Heap} {locs : List Loc} {ls : Array Slot} (X : gx E (cW E ad N ρ fl) s H locs) (hl : lv_has ls 7 [(0, .ref (E.2.1 + 0)), (1, .int 7), (2, .int (nI t)), (3, .int (nI a)), (4, .int (nI b))])
    (kk : ∀ (z : Nat) (H : Heap) (locs : List Loc) (ls : Array Slot) ρ' fl' (r : Int32), decode b_Ben_work z = .ok (.ireturn, 1) → gx E (cW E ad N ρ' fl') s H locs → ((r = 0 ∧ ¬ wkOK 3 nN (NV (ρ (2 + a))) (NV (ρ (2 + b))) ∧ kNu 0 0 ρ ρ' fl fl') ∨ (r = 1 ∧ wkOK 3 nN (NV (ρ (2 + a))) (NV (ρ (2 + b))) ∧ NV (ρ' (2 + t)) = rp ψ nN (wkV ψ 3 (NV sN2) (NV (ρ (2 + a))) (NV (ρ (2 + b)))) ∧ kNu (2 + t) 0 ρ ρ' fl fl')) → W p l e { frames := 7, cells := 4, slots := 24, locals := 153 } s m args below meth c H locs 4 24 Q (F0 m z ls [.int r])) :
    W p l e { frames := 7, cells := 4, slots := 24, locals := 153 } s m args below meth c H locs 4 24 Q (F0 m 17 ls []) := by
  have hf := hk.fm
  have I := isM_P hg
  have I2 := isM_N hg
  refine lv_iload_n hx hb d_Ben_work_17 rfl (lv_at hl 1 rfl) ?_
  refine lv_iconst (v := 4) hx hb d_Ben_work_18 (by decide) ?_
  refine lv_icmp_ge (tgt := 29) hx hb d_Ben_work_19 (by decide) (fun _ => ?_) (fun c9 => absurd (by decide) c9)
  refine lv_aload_n hx hb d_Ben_work_29 rfl (lv_at hl 0 rfl) ?_
  refine gm_get hx hb hW hown X u_Ben o0 rfl 3 (by decide) wf_Ben_54 (v := .ref (E.2.1 + 16)) rfl d_Ben_work_30 ?_
  refine lv_astore (lv' := [(5, .ref (E.2.1 + 16)), (0, .ref (E.2.1 + 0)), (1, .int 7), (2, .int (nI t)), (3, .int (nI a)), (4, .int (nI b))]) hx hb d_Ben_work_33 hl (by decide) rfl (fun ls hl => ?_)
  refine lv_iload_n hx hb d_Ben_work_35 rfl (lv_at hl 2 rfl) ?_
  refine lv_iconst (v := 4) hx hb d_Ben_work_36 (by decide) ?_
  refine lv_irem hx hb d_Ben_work_37 (by decide) ?_
  refine lv_eqi (v := 3) (by decide) ?_
  refine lv_istore (lv' := [(6, .int 3), (5, .ref (E.2.1 + 16)), (0, .ref (E.2.1 + 0)), (1, .int 7), (2, .int (nI t)), (3, .int (nI a)), (4, .int (nI b))]) hx hb d_Ben_work_38 hl (by decide) rfl (fun ls hl => ?_)
  refine lv_aload hx hb d_Ben_work_40 (lv_at hl 1 rfl) ?_
  refine lv_aload_n hx hb d_Ben_work_42 rfl (lv_at hl 2 rfl) ?_
  refine gm_get hx hb hW hown X u_Ben o0 rfl 0 (by decide) wf_Ben_11 (v := .ref (E.2.1 + 1)) rfl d_Ben_work_43 ?_
  refine lv_iload_n hx hb d_Ben_work_46 rfl (lv_at hl 5 rfl) ?_
  refine gm_aald2 hx hb X (k := a) (t := E.2.1 + (2 + a)) oA1 rfl rfl ⟨h_a, by decide⟩ (if_pos h_a) d_Ben_work_47 ?_
  refine gm_Vi hx hb hml hown hW X o16 (k_isAbove l I2 (Or.inl (cw_row (r4_n h_a)))) (n := 1) ⟨⟨wl_Ben_126, wi_Mod_isAbove, wsel_Mod_isAbove, winit_Mod, wc_Mod_isAbove⟩, by decide +kernel, ⟨Nat.le_of_ble_eq_true rfl, Nat.le_of_ble_eq_true rfl⟩, _, rfl, rfl⟩ rfl hl.1 rfl (Nat.le_of_ble_eq_true rfl) d_Ben_work_48 ⟨Nat.le_of_ble_eq_true rfl, Nat.le_of_ble_eq_true rfl⟩ (fun r1 M1 H locs hp X => ?_)
  rw [hp.1] at X
  have h1 := hp.2
  refine lv_if_ne (tgt := 56) hx hb d_Ben_work_51 (by decide) (fun c51 => ?_) (fun c51 => ?_)
  · have hlt : (NV (ρ (2 + a)) : Int) < nN := by rcases h1 with h | h; exact absurd h.1 c51; exact h.2
    refine lv_iload hx hb d_Ben_work_56 (lv_at hl 0 rfl) ?_
    refine lv_iconst (v := 3) hx hb d_Ben_work_58 (by decide) ?_
    refine lv_icmp_ne (tgt := 77) hx hb d_Ben_work_59 (by decide) (fun c9 => absurd rfl c9) (fun _ => ?_)
    refine lv_aload_n hx hb d_Ben_work_62 rfl (lv_at hl 2 rfl) ?_
    refine gm_get hx hb hW hown X u_Ben o0 rfl 0 (by decide) wf_Ben_11 (v := .ref (E.2.1 + 1)) rfl d_Ben_work_63 ?_
    refine lv_iload_n hx hb d_Ben_work_66 rfl (lv_at hl 5 rfl) ?_
    refine gm_aald2 hx hb X (k := a) (t := E.2.1 + (2 + a)) oA1 rfl rfl ⟨h_a, by decide⟩ (if_pos h_a) d_Ben_work_67 ?_
    refine gm_Si hx hb hml hown hW X (k_areZero l hg.1 (Or.inl (cw_row (r4_n h_a)))) (n := 1) ⟨⟨wl_Ben_130, ws_Par_areZero, winit_Par, wc_Par_areZero⟩, by decide +kernel, Nat.le_of_ble_eq_true rfl, Nat.le_of_ble_eq_true rfl⟩ rfl hl.1 rfl (Nat.le_of_ble_eq_true rfl) d_Ben_work_68 ⟨Nat.le_of_ble_eq_true rfl, Nat.le_of_ble_eq_true rfl⟩ (fun r2 M1 H locs hp X => ?_)
    rw [hp.1] at X
    have h2 := hp.2
    refine lv_if_eq (tgt := 94) hx hb d_Ben_work_71 (by decide) (fun c71 => ?_) (fun c71 => ?_)
    · have hq2 : ¬ NV (ρ (2 + a)) = 0 := by rcases h2 with h | h; exact absurd (h.1.symm.trans c71) (by decide); exact h.2
      refine lv_aload_n hx hb d_Ben_work_94 rfl (lv_at hl 2 rfl) ?_
      refine gm_get hx hb hW hown X u_Ben o0 rfl 7 (by decide) wf_Ben_74 (v := .ref (E.2.1 + 36)) rfl d_Ben_work_95 ?_
      refine lv_aload_n hx hb d_Ben_work_98 rfl (lv_at hl 2 rfl) ?_
      refine gm_get hx hb hW hown X u_Ben o0 rfl 0 (by decide) wf_Ben_11 (v := .ref (E.2.1 + 1)) rfl d_Ben_work_99 ?_
      refine lv_iload_n hx hb d_Ben_work_102 rfl (lv_at hl 5 rfl) ?_
      refine gm_aald2 hx hb X (k := a) (t := E.2.1 + (2 + a)) oA1 rfl rfl ⟨h_a, by decide⟩ (if_pos h_a) d_Ben_work_103 ?_
      have e104 := (rfl : ρ (2 + a) = ρ (2 + a))
      refine gm_Sv hx hb hml hown hW X (k_unpack l (by decide) (Or.inl (cw_row (r4_n h_a)))) (n := 2) ⟨⟨wl_Ben_95, ws_Lim_unpack, winit_Lim, wc_Lim_unpack⟩, by decide +kernel, Nat.le_of_ble_eq_true rfl, Nat.le_of_ble_eq_true rfl⟩ rfl hl.1 rfl (Nat.le_of_ble_eq_true rfl) d_Ben_work_104 ⟨Nat.le_of_ble_eq_true rfl, Nat.le_of_ble_eq_true rfl⟩ (fun M1 H locs hp X => ?_)
      obtain ⟨ρ1, rfl, q1, kk1⟩ := hp
      have u36_1 : ρ1 36 = unF (ρ (2 + a)) := by rw [q1, e104]
      refine lv_aload_n hx hb d_Ben_work_107 rfl (lv_at hl 2 rfl) ?_
      refine gm_get hx hb hW hown X u_Ben o0 rfl 8 (by decide) wf_Ben_77 (v := .ref (E.2.1 + 37)) rfl d_Ben_work_108 ?_
      refine lv_aload_n hx hb d_Ben_work_111 rfl (lv_at hl 2 rfl) ?_
      refine gm_get hx hb hW hown X u_Ben o0 rfl 0 (by decide) wf_Ben_11 (v := .ref (E.2.1 + 1)) rfl d_Ben_work_112 ?_
      refine lv_iload hx hb d_Ben_work_115 (lv_at hl 6 rfl) ?_
      refine gm_aald2 hx hb X (k := b) (t := E.2.1 + (2 + b)) oA1 rfl rfl ⟨h_b, by decide⟩ (if_pos h_b) d_Ben_work_117 ?_
      have e118 := (show ρ1 (2 + b) = ρ (2 + b) by rw [kk1 (2 + b) (by omega)])
      refine gm_Sv hx hb hml hown hW X (k_unpack l (by decide) (Or.inl (cw_row (r4_n h_b)))) (n := 2) ⟨⟨wl_Ben_95, ws_Lim_unpack, winit_Lim, wc_Lim_unpack⟩, by decide +kernel, Nat.le_of_ble_eq_true rfl, Nat.le_of_ble_eq_true rfl⟩ rfl hl.1 rfl (Nat.le_of_ble_eq_true rfl) d_Ben_work_118 ⟨Nat.le_of_ble_eq_true rfl, Nat.le_of_ble_eq_true rfl⟩ (fun M1 H locs hp X => ?_)
      obtain ⟨ρ2, rfl, q2, kk2⟩ := hp
      have u36_2 : ρ2 36 = unF (ρ (2 + a)) := by rw [kk2 36 (by omega)]; exact u36_1
      have u37_2 : ρ2 37 = unF (ρ (2 + b)) := by rw [q2, e118]
      refine lv_aload_n hx hb d_Ben_work_121 rfl (lv_at hl 2 rfl) ?_
      refine lv_iload hx hb d_Ben_work_122 (lv_at hl 0 rfl) ?_
      refine lv_aload hx hb d_Ben_work_124 (lv_at hl 1 rfl) ?_
      refine gm_Vv hx hb hml hown hW X o0 (k_Ben_workOnLeft_3 l E ad N ρ2 fl I2 hn (by decide) (show RV ψ (ρ2 36) 1 (ψ (NV (ρ (2 + a)))) by rw [u36_2]; exact RV.un _ _) (show RV ψ (ρ2 37) 1 (ψ (NV (ρ (2 + b)))) by rw [u37_2]; exact RV.un _ _)) (n := 2) ⟨⟨wl_Ben_133, wi_Ben_workOnLeft, wsel_Ben_workOnLeft, winit_Ben, wc_Ben_workOnLeft⟩, by decide +kernel, ⟨Nat.le_of_ble_eq_true rfl, Nat.le_of_ble_eq_true rfl⟩, _, rfl, rfl⟩ rfl hl.1 rfl (Nat.le_of_ble_eq_true rfl) d_Ben_work_126 ⟨Nat.le_of_ble_eq_true rfl, Nat.le_of_ble_eq_true rfl⟩ (fun M1 H locs hp X => ?_)
      obtain ⟨ρ3, rfl, q3, kk3⟩ := hp
      have u37_3 : ρ3 37 = unF (ρ (2 + b)) := by rw [kk3 37 (by omega) (by omega)]; exact u37_2
      have h36_3 : RV ψ (ρ3 36) 2 (wkV ψ 3 (NV sN2) (NV (ρ (2 + a))) (NV (ρ (2 + b)))) := q3
      refine lv_aload hx hb d_Ben_work_129 (lv_at hl 1 rfl) ?_
      refine lv_aload_n hx hb d_Ben_work_131 rfl (lv_at hl 2 rfl) ?_
      refine gm_get hx hb hW hown X u_Ben o0 rfl 7 (by decide) wf_Ben_74 (v := .ref (E.2.1 + 36)) rfl d_Ben_work_132 ?_
      refine gm_Vv hx hb hml hown hW X o16 (k_settle l I2 hn (by decide) (by omega) h36_3 (by decide)) (n := 1) ⟨⟨wl_Ben_137, wi_Mod_settle, wsel_Mod_settle, winit_Mod, wc_Mod_settle⟩, by decide +kernel, ⟨Nat.le_of_ble_eq_true rfl, Nat.le_of_ble_eq_true rfl⟩, _, rfl, rfl⟩ rfl hl.1 rfl (Nat.le_of_ble_eq_true rfl) d_Ben_work_135 ⟨Nat.le_of_ble_eq_true rfl, Nat.le_of_ble_eq_true rfl⟩ (fun M1 H locs hp X => ?_)
      obtain ⟨ρ4, rfl, q4, kk4⟩ := hp
      have u37_4 : ρ4 37 = unF (ρ (2 + b)) := by rw [kk4 37 (by omega) (by omega)]; exact u37_3
      have s36_4 : ST ψ nN (ρ4 36) (wkV ψ 3 (NV sN2) (NV (ρ (2 + a))) (NV (ρ (2 + b)))) := q4
      refine lv_aload_n hx hb d_Ben_work_138 rfl (lv_at hl 2 rfl) ?_
      refine gm_get hx hb hW hown X u_Ben o0 rfl 0 (by decide) wf_Ben_11 (v := .ref (E.2.1 + 1)) rfl d_Ben_work_139 ?_
      refine lv_iload_n hx hb d_Ben_work_142 rfl (lv_at hl 4 rfl) ?_
      refine gm_aald2 hx hb X (k := t) (t := E.2.1 + (2 + t)) oA1 rfl rfl ⟨h_t, by decide⟩ (if_pos h_t) d_Ben_work_143 ?_
      refine lv_aload_n hx hb d_Ben_work_144 rfl (lv_at hl 2 rfl) ?_
      refine gm_get hx hb hW hown X u_Ben o0 rfl 7 (by decide) wf_Ben_74 (v := .ref (E.2.1 + 36)) rfl d_Ben_work_145 ?_
      refine gm_Sv hx hb hml hown hW X (k_pack l (r4_n h_t) (by decide)) (n := 2) ⟨⟨wl_Ben_141, ws_Lim_pack, winit_Lim, wc_Lim_pack⟩, by decide +kernel, Nat.le_of_ble_eq_true rfl, Nat.le_of_ble_eq_true rfl⟩ rfl hl.1 rfl (Nat.le_of_ble_eq_true rfl) d_Ben_work_148 ⟨Nat.le_of_ble_eq_true rfl, Nat.le_of_ble_eq_true rfl⟩ (fun M1 H locs hp X => ?_)
      obtain ⟨ρ5, rfl, q5, kk5⟩ := hp
      have s36_5 : ST ψ nN (ρ5 36) (wkV ψ 3 (NV sN2) (NV (ρ (2 + a))) (NV (ρ (2 + b)))) := by rw [kk5 36 (by omega)]; exact s36_4
      have u37_5 : ρ5 37 = unF (ρ (2 + b)) := by rw [kk5 37 (by omega)]; exact u37_4
      refine lv_iconst (v := 1) hx hb d_Ben_work_151 (by decide) ?_
      refine kk _ H locs ls ρ5 fl 1 d_Ben_work_152 X (Or.inr ⟨rfl, ⟨hlt, hq2⟩, ?_, fun j hj h1 h2 => by rw [kk5 j (by omega), kk4 j (by omega) (by omega), kk3 j (by omega) (by omega), kk2 j (by omega), kk1 j (by omega)], fun _ _ => rfl⟩)
      rw [q5]
      exact s36_4.pkr hn
    · have hq2 : NV (ρ (2 + a)) = 0 := by rcases h2 with h | h; exact h.2; exact absurd h.1 c71
      refine lv_goto (tgt := 92) hx hb d_Ben_work_74 (by decide) ?_
      refine lv_iconst (v := 0) hx hb d_Ben_work_92 (by decide) ?_
      exact kk _ H locs ls ρ fl _ d_Ben_work_93 X (Or.inl ⟨rfl, fun z => z.2 hq2, kNu.rf _ _ _ _⟩)
  · have hlt : ¬ (NV (ρ (2 + a)) : Int) < nN := by rcases h1 with h | h; exact h.2; exact absurd (h.1.symm.trans c51) (by decide)
    refine lv_iconst (v := 0) hx hb d_Ben_work_54 (by decide) ?_
    exact kk _ H locs ls ρ fl _ d_Ben_work_55 X (Or.inl ⟨rfl, fun z => hlt z.1, kNu.rf _ _ _ _⟩)
set_option maxHeartbeats 4000000 in
theorem bd_Ben_base {p : Program} {l : Launch} {e : Env} {s : State} {m : MethodId} {args : Array Value} {below : List Frame} {meth : Method} {c : Code} {Q : State → Prop} {F G : Type} [Lean.Grind.CommRing F] [Lean.Grind.CommRing G] {φ : Int → F} {inv : F → F} {ψ : Int → G} {E : gm_E} {ad : Nat → Nat} {N : gm_M} {ρ : Nat → Nat → Int64} {fl : Nat → Int32} (hx : p.tables.exec = Jvm.exec) (hb : c.code = b_Ben_base) (hml : c.maxLocals = 2) (hown : s.vm.findClass R_Ben = some m.cls) (hW : ∀ w ∈ WB, w.before args s = true) (hg : gE E ad) (hk : fk φ inv) (hn : fm ψ nN) {t : Nat} (h_t : t < 4) {g0 : F × F} (hG : ptR φ ρ fl 21 (some g0)) {H : Heap} {locs : List Loc} {ls : Array Slot} (X : gx E (cW E ad N ρ fl) s H locs) (hl : lv_has ls 2 [(0, .ref (E.2.1 + 0)), (1, .int (nI t))])
    (kk : ∀ (z : Nat) (H : Heap) (locs : List Loc) (ls : Array Slot) ρ' fl', decode b_Ben_base z = .ok (.return_, 1) → gx E (cW E ad N ρ' fl') s H locs → (ptR φ ρ' fl' (41 + 3 * t) (some g0) ∧ kPt (41 + 3 * t) ρ ρ' fl fl') → W p l e { frames := 7, cells := 1, slots := 6, locals := 120 } s m args below meth c H locs 1 6 Q (F0 m z ls [])) :
    W p l e { frames := 7, cells := 1, slots := 6, locals := 120 } s m args below meth c H locs 1 6 Q (F0 m 4 ls []) := by
  have hf := hk.fm
  have I := isM_P hg
  have I2 := isM_N hg
  refine lv_aload_n hx hb d_Ben_base_4 rfl (lv_at hl 0 rfl) ?_
  refine gm_get hx hb hW hown X u_Ben o0 rfl 1 (by decide) wf_Ben_16 (v := .ref (E.2.1 + 10)) rfl d_Ben_base_5 ?_
  refine lv_iload_n hx hb d_Ben_base_8 rfl (lv_at hl 1 rfl) ?_
  refine gm_aald hx hb X (k := t) (t := E.2.1 + (41 + 3 * t)) oA10 rfl rfl ⟨h_t, by decide⟩ (if_pos h_t) d_Ben_base_9 ?_
  refine lv_aload_n hx hb d_Ben_base_10 rfl (lv_at hl 0 rfl) ?_
  refine gm_get hx hb hW hown X u_Ben o0 rfl 4 (by decide) wf_Ben_58 (v := .ref (E.2.1 + 21)) rfl d_Ben_base_11 ?_
  refine gm_Vv hx hb hml hown hW X (oP (isP_p h_t)) (k_Pnt_copyFrom l E ad N ρ fl hg hk (isP_p h_t) isP_21 hG) (n := 1) ⟨⟨wl_Ben_147, wi_Pnt_copyFrom, wsel_Pnt_copyFrom, winit_Pnt, wc_Pnt_copyFrom⟩, by decide +kernel, ⟨Nat.le_of_ble_eq_true rfl, Nat.le_of_ble_eq_true rfl⟩, _, rfl, rfl⟩ rfl hl.1 rfl (Nat.le_of_ble_eq_true rfl) d_Ben_base_14 ⟨Nat.le_of_ble_eq_true rfl, Nat.le_of_ble_eq_true rfl⟩ (fun M1 H locs hp X => ?_)
  obtain ⟨ρ1, fl1, rfl, q1, k1, k2⟩ := hp
  exact kk _ H locs ls ρ1 fl1 d_Ben_base_17 X ⟨q1, fun j hj h1 h2 => k1 j h1 h2, fun j hj h1 => k2 j h1⟩
set_option maxHeartbeats 4000000 in
theorem bd_Ben_none {p : Program} {l : Launch} {e : Env} {s : State} {m : MethodId} {args : Array Value} {below : List Frame} {meth : Method} {c : Code} {Q : State → Prop} {F G : Type} [Lean.Grind.CommRing F] [Lean.Grind.CommRing G] {φ : Int → F} {inv : F → F} {ψ : Int → G} {E : gm_E} {ad : Nat → Nat} {N : gm_M} {ρ : Nat → Nat → Int64} {fl : Nat → Int32} (hx : p.tables.exec = Jvm.exec) (hb : c.code = b_Ben_none) (hml : c.maxLocals = 2) (hown : s.vm.findClass R_Ben = some m.cls) (hW : ∀ w ∈ WB, w.before args s = true) (hg : gE E ad) (hk : fk φ inv) (hn : fm ψ nN) {t : Nat} (h_t : t < 4)  {H : Heap} {locs : List Loc} {ls : Array Slot} (X : gx E (cW E ad N ρ fl) s H locs) (hl : lv_has ls 2 [(0, .ref (E.2.1 + 0)), (1, .int (nI t))])
    (kk : ∀ (z : Nat) (H : Heap) (locs : List Loc) (ls : Array Slot) ρ' fl', decode b_Ben_none z = .ok (.return_, 1) → gx E (cW E ad N ρ' fl') s H locs → (ptR φ ρ' fl' (41 + 3 * t) none ∧ kPt (41 + 3 * t) ρ ρ' fl fl') → W p l e { frames := 7, cells := 1, slots := 6, locals := 120 } s m args below meth c H locs 1 6 Q (F0 m z ls [])) :
    W p l e { frames := 7, cells := 1, slots := 6, locals := 120 } s m args below meth c H locs 1 6 Q (F0 m 4 ls []) := by
  have hf := hk.fm
  have I := isM_P hg
  have I2 := isM_N hg
  refine lv_aload_n hx hb d_Ben_none_4 rfl (lv_at hl 0 rfl) ?_
  refine gm_get hx hb hW hown X u_Ben o0 rfl 1 (by decide) wf_Ben_16 (v := .ref (E.2.1 + 10)) rfl d_Ben_none_5 ?_
  refine lv_iload_n hx hb d_Ben_none_8 rfl (lv_at hl 1 rfl) ?_
  refine gm_aald hx hb X (k := t) (t := E.2.1 + (41 + 3 * t)) oA10 rfl rfl ⟨h_t, by decide⟩ (if_pos h_t) d_Ben_none_9 ?_
  refine lv_iconst (v := 1) hx hb d_Ben_none_10 (by decide) ?_
  refine gm_put hx hb hW hown X u_Pnt t_Pnt t_Pnt_ok n_Pnt (oP (isP_p h_t)) (cw_ge _) rfl 2 (by decide) wf_Ben_107 rfl (ty := .boolean) (v := .int 1) (by decide) rfl rfl (Nat.le_of_ble_eq_true rfl) d_Ben_none_11 (fun H locs X => ?_)
  have X : gx E (cW E ad N ρ (va_up fl (41 + 3 * t) 1)) s H locs := by rw [← cw_fP 1 (isP_p h_t)]; exact X
  obtain ⟨fl1, hfl1⟩ : ∃ x, x = va_up fl (41 + 3 * t) 1 := ⟨_, rfl⟩
  rw [← hfl1] at X
  exact kk _ H locs ls ρ fl1 d_Ben_none_14 X ⟨show fl1 (41 + 3 * t) = 1 by rw [hfl1, vu_s], fun j hj h1 h2 => rfl, fun j hj h1 => by rw [hfl1, vu_n h1]⟩
set_option maxHeartbeats 4000000 in
theorem bd_Ben_lay {p : Program} {l : Launch} {e : Env} {s : State} {m : MethodId} {args : Array Value} {below : List Frame} {meth : Method} {c : Code} {Q : State → Prop} {F G : Type} [Lean.Grind.CommRing F] [Lean.Grind.CommRing G] {φ : Int → F} {inv : F → F} {ψ : Int → G} {E : gm_E} {ad : Nat → Nat} {N : gm_M} {ρ : Nat → Nat → Int64} {fl : Nat → Int32} (hx : p.tables.exec = Jvm.exec) (hb : c.code = b_Ben_lay) (hml : c.maxLocals = 4) (hown : s.vm.findClass R_Ben = some m.cls) (hW : ∀ w ∈ WB, w.before args s = true) (hg : gE E ad) (hk : fk φ inv) (hn : fm ψ nN) {t : Nat} (h_t : t < 4) {a : Nat} (h_a : a < 8) {b : Nat} (h_b : b < 8)  {H : Heap} {locs : List Loc} {ls : Array Slot} (X : gx E (cW E ad N ρ fl) s H locs) (hl : lv_has ls 4 [(0, .ref (E.2.1 + 0)), (1, .int (nI t)), (2, .int (nI a)), (3, .int (nI b))])
    (kk : ∀ (z : Nat) (H : Heap) (locs : List Loc) (ls : Array Slot) ρ' fl' (r : Int32), decode b_Ben_lay z = .ok (.ireturn, 1) → gx E (cW E ad N ρ' fl') s H locs → ((r = 0 ∧ ¬ ((NV (ρ (2 + a)) : Int) < nP ∧ (NV (ρ (2 + b)) : Int) < nP ∧ φ (NV (ρ (2 + b))) * φ (NV (ρ (2 + b))) = sqV (φ (NV (ρ (2 + a))))) ∧ kNu 0 0 ρ ρ' fl fl') ∨ (r = 1 ∧ ((NV (ρ (2 + a)) : Int) < nP ∧ (NV (ρ (2 + b)) : Int) < nP ∧ φ (NV (ρ (2 + b))) * φ (NV (ρ (2 + b))) = sqV (φ (NV (ρ (2 + a))))) ∧ ptR φ ρ' fl' (41 + 3 * t) (some (φ (NV (ρ (2 + a))), φ (NV (ρ (2 + b))))) ∧ kPt (41 + 3 * t) ρ ρ' fl fl')) → W p l e { frames := 7, cells := 3, slots := 18, locals := 120 } s m args below meth c H locs 3 18 Q (F0 m z ls [.int r])) :
    W p l e { frames := 7, cells := 3, slots := 18, locals := 120 } s m args below meth c H locs 3 18 Q (F0 m 12 ls []) := by
  have hf := hk.fm
  have I := isM_P hg
  have I2 := isM_N hg
  refine lv_aload_n hx hb d_Ben_lay_12 rfl (lv_at hl 0 rfl) ?_
  refine gm_get hx hb hW hown X u_Ben o0 rfl 2 (by decide) wf_Ben_38 (v := .ref (E.2.1 + 11)) rfl d_Ben_lay_13 ?_
  refine lv_aload_n hx hb d_Ben_lay_16 rfl (lv_at hl 0 rfl) ?_
  refine gm_get hx hb hW hown X u_Ben o0 rfl 0 (by decide) wf_Ben_11 (v := .ref (E.2.1 + 1)) rfl d_Ben_lay_17 ?_
  refine lv_iload_n hx hb d_Ben_lay_20 rfl (lv_at hl 2 rfl) ?_
  refine gm_aald2 hx hb X (k := a) (t := E.2.1 + (2 + a)) oA1 rfl rfl ⟨h_a, by decide⟩ (if_pos h_a) d_Ben_lay_21 ?_
  refine gm_Vi hx hb hml hown hW X o11 (k_isAbove l I (Or.inl (cw_row (r4_n h_a)))) (n := 1) ⟨⟨wl_Ben_126, wi_Mod_isAbove, wsel_Mod_isAbove, winit_Mod, wc_Mod_isAbove⟩, by decide +kernel, ⟨Nat.le_of_ble_eq_true rfl, Nat.le_of_ble_eq_true rfl⟩, _, rfl, rfl⟩ rfl hl.1 rfl (Nat.le_of_ble_eq_true rfl) d_Ben_lay_22 ⟨Nat.le_of_ble_eq_true rfl, Nat.le_of_ble_eq_true rfl⟩ (fun r1 M1 H locs hp X => ?_)
  rw [hp.1] at X
  have h1a := hp.2
  refine lv_if_eq (tgt := 44) hx hb d_Ben_lay_25 (by decide) (fun c25 => ?_) (fun c25 => ?_)
  · have hlt : ¬ (NV (ρ (2 + a)) : Int) < nP := by rcases h1a with h | h; exact h.2; exact absurd (h.1.symm.trans c25) (by decide)
    refine lv_iconst (v := 0) hx hb d_Ben_lay_44 (by decide) ?_
    exact kk _ H locs ls ρ fl _ d_Ben_lay_45 X (Or.inl ⟨rfl, fun z => hlt z.1, kNu.rf _ _ _ _⟩)
  · have hla : (NV (ρ (2 + a)) : Int) < nP := by rcases h1a with h | h; exact absurd h.1 c25; exact h.2
    refine lv_aload_n hx hb d_Ben_lay_28 rfl (lv_at hl 0 rfl) ?_
    refine gm_get hx hb hW hown X u_Ben o0 rfl 2 (by decide) wf_Ben_38 (v := .ref (E.2.1 + 11)) rfl d_Ben_lay_29 ?_
    refine lv_aload_n hx hb d_Ben_lay_32 rfl (lv_at hl 0 rfl) ?_
    refine gm_get hx hb hW hown X u_Ben o0 rfl 0 (by decide) wf_Ben_11 (v := .ref (E.2.1 + 1)) rfl d_Ben_lay_33 ?_
    refine lv_iload_n hx hb d_Ben_lay_36 rfl (lv_at hl 3 rfl) ?_
    refine gm_aald2 hx hb X (k := b) (t := E.2.1 + (2 + b)) oA1 rfl rfl ⟨h_b, by decide⟩ (if_pos h_b) d_Ben_lay_37 ?_
    refine gm_Vi hx hb hml hown hW X o11 (k_isAbove l I (Or.inl (cw_row (r4_n h_b)))) (n := 1) ⟨⟨wl_Ben_126, wi_Mod_isAbove, wsel_Mod_isAbove, winit_Mod, wc_Mod_isAbove⟩, by decide +kernel, ⟨Nat.le_of_ble_eq_true rfl, Nat.le_of_ble_eq_true rfl⟩, _, rfl, rfl⟩ rfl hl.1 rfl (Nat.le_of_ble_eq_true rfl) d_Ben_lay_38 ⟨Nat.le_of_ble_eq_true rfl, Nat.le_of_ble_eq_true rfl⟩ (fun r1 M1 H locs hp X => ?_)
    rw [hp.1] at X
    have h1b := hp.2
    refine lv_if_ne (tgt := 46) hx hb d_Ben_lay_41 (by decide) (fun c41 => ?_) (fun c41 => ?_)
    · have hlb : (NV (ρ (2 + b)) : Int) < nP := by rcases h1b with h | h; exact absurd h.1 c41; exact h.2
      refine lv_aload_n hx hb d_Ben_lay_46 rfl (lv_at hl 0 rfl) ?_
      refine gm_get hx hb hW hown X u_Ben o0 rfl 6 (by decide) wf_Ben_71 (v := .ref (E.2.1 + 33)) rfl d_Ben_lay_47 ?_
      refine gm_get hx hb hW hown X u_Pnt (oP isP_33) rfl 0 (by decide) wf_Ben_89 (v := .ref (E.2.1 + (33 + 1))) rfl d_Ben_lay_50 ?_
      refine lv_aload_n hx hb d_Ben_lay_53 rfl (lv_at hl 0 rfl) ?_
      refine gm_get hx hb hW hown X u_Ben o0 rfl 0 (by decide) wf_Ben_11 (v := .ref (E.2.1 + 1)) rfl d_Ben_lay_54 ?_
      refine lv_iload_n hx hb d_Ben_lay_57 rfl (lv_at hl 2 rfl) ?_
      refine gm_aald2 hx hb X (k := a) (t := E.2.1 + (2 + a)) oA1 rfl rfl ⟨h_a, by decide⟩ (if_pos h_a) d_Ben_lay_58 ?_
      have e59 := (rfl : ρ (2 + a) = ρ (2 + a))
      refine gm_Sv hx hb hml hown hW X (k_unpack l (isP.x isP_33) (Or.inl (cw_row (r4_n h_a)))) (n := 2) ⟨⟨wl_Ben_95, ws_Lim_unpack, winit_Lim, wc_Lim_unpack⟩, by decide +kernel, Nat.le_of_ble_eq_true rfl, Nat.le_of_ble_eq_true rfl⟩ rfl hl.1 rfl (Nat.le_of_ble_eq_true rfl) d_Ben_lay_59 ⟨Nat.le_of_ble_eq_true rfl, Nat.le_of_ble_eq_true rfl⟩ (fun M1 H locs hp X => ?_)
      obtain ⟨ρ1, rfl, q1, kk1⟩ := hp
      have u331_1 : ρ1 (33 + 1) = unF (ρ (2 + a)) := by rw [q1, e59]
      refine lv_aload_n hx hb d_Ben_lay_62 rfl (lv_at hl 0 rfl) ?_
      refine gm_get hx hb hW hown X u_Ben o0 rfl 6 (by decide) wf_Ben_71 (v := .ref (E.2.1 + 33)) rfl d_Ben_lay_63 ?_
      refine gm_get hx hb hW hown X u_Pnt (oP isP_33) rfl 1 (by decide) wf_Ben_101 (v := .ref (E.2.1 + (33 + 2))) rfl d_Ben_lay_66 ?_
      refine lv_aload_n hx hb d_Ben_lay_69 rfl (lv_at hl 0 rfl) ?_
      refine gm_get hx hb hW hown X u_Ben o0 rfl 0 (by decide) wf_Ben_11 (v := .ref (E.2.1 + 1)) rfl d_Ben_lay_70 ?_
      refine lv_iload_n hx hb d_Ben_lay_73 rfl (lv_at hl 3 rfl) ?_
      refine gm_aald2 hx hb X (k := b) (t := E.2.1 + (2 + b)) oA1 rfl rfl ⟨h_b, by decide⟩ (if_pos h_b) d_Ben_lay_74 ?_
      have e75 := (show ρ1 (2 + b) = ρ (2 + b) by rw [kk1 (2 + b) (by omega)])
      refine gm_Sv hx hb hml hown hW X (k_unpack l (isP.y isP_33) (Or.inl (cw_row (r4_n h_b)))) (n := 2) ⟨⟨wl_Ben_95, ws_Lim_unpack, winit_Lim, wc_Lim_unpack⟩, by decide +kernel, Nat.le_of_ble_eq_true rfl, Nat.le_of_ble_eq_true rfl⟩ rfl hl.1 rfl (Nat.le_of_ble_eq_true rfl) d_Ben_lay_75 ⟨Nat.le_of_ble_eq_true rfl, Nat.le_of_ble_eq_true rfl⟩ (fun M1 H locs hp X => ?_)
      obtain ⟨ρ2, rfl, q2, kk2⟩ := hp
      have u331_2 : ρ2 (33 + 1) = unF (ρ (2 + a)) := by rw [kk2 (33 + 1) (by omega)]; exact u331_1
      have u332_2 : ρ2 (33 + 2) = unF (ρ (2 + b)) := by rw [q2, e75]
      refine lv_aload_n hx hb d_Ben_lay_78 rfl (lv_at hl 0 rfl) ?_
      refine lv_aload_n hx hb d_Ben_lay_79 rfl (lv_at hl 0 rfl) ?_
      refine gm_get hx hb hW hown X u_Ben o0 rfl 7 (by decide) wf_Ben_74 (v := .ref (E.2.1 + 36)) rfl d_Ben_lay_80 ?_
      refine lv_aload_n hx hb d_Ben_lay_83 rfl (lv_at hl 0 rfl) ?_
      refine gm_get hx hb hW hown X u_Ben o0 rfl 6 (by decide) wf_Ben_71 (v := .ref (E.2.1 + 33)) rfl d_Ben_lay_84 ?_
      refine gm_get hx hb hW hown X u_Pnt (oP isP_33) rfl 0 (by decide) wf_Ben_89 (v := .ref (E.2.1 + (33 + 1))) rfl d_Ben_lay_87 ?_
      refine gm_Vv hx hb hml hown hW X o0 (k_Ben_squareOfY l E ad N ρ2 fl hg hk (show RV φ (ρ2 (33 + 1)) 1 (φ (NV (ρ (2 + a)))) by rw [u331_2]; exact RV.un _ _)) (n := 2) ⟨⟨wl_Ben_151, wi_Ben_squareOfY, wsel_Ben_squareOfY, winit_Ben, wc_Ben_squareOfY⟩, by decide +kernel, ⟨Nat.le_of_ble_eq_true rfl, Nat.le_of_ble_eq_true rfl⟩, _, rfl, rfl⟩ rfl hl.1 rfl (Nat.le_of_ble_eq_true rfl) d_Ben_lay_90 ⟨Nat.le_of_ble_eq_true rfl, Nat.le_of_ble_eq_true rfl⟩ (fun M1 H locs hp X => ?_)
      obtain ⟨ρ3, rfl, q3, kk3⟩ := hp
      have u331_3 : ρ3 (33 + 1) = unF (ρ (2 + a)) := by rw [kk3 (33 + 1) (by omega) (by omega)]; exact u331_2
      have u332_3 : ρ3 (33 + 2) = unF (ρ (2 + b)) := by rw [kk3 (33 + 2) (by omega) (by omega)]; exact u332_2
      have h36_3 : RV φ (ρ3 36) 2 (sqV (φ (NV (ρ (2 + a))))) := q3
      refine lv_aload_n hx hb d_Ben_lay_93 rfl (lv_at hl 0 rfl) ?_
      refine lv_aload_n hx hb d_Ben_lay_94 rfl (lv_at hl 0 rfl) ?_
      refine gm_get hx hb hW hown X u_Ben o0 rfl 6 (by decide) wf_Ben_71 (v := .ref (E.2.1 + 33)) rfl d_Ben_lay_95 ?_
      refine gm_get hx hb hW hown X u_Pnt (oP isP_33) rfl 1 (by decide) wf_Ben_101 (v := .ref (E.2.1 + (33 + 2))) rfl d_Ben_lay_98 ?_
      refine lv_aload_n hx hb d_Ben_lay_101 rfl (lv_at hl 0 rfl) ?_
      refine gm_get hx hb hW hown X u_Ben o0 rfl 7 (by decide) wf_Ben_74 (v := .ref (E.2.1 + 36)) rfl d_Ben_lay_102 ?_
      refine gm_Vi hx hb hml hown hW X o0 (k_Ben_isRoot l E ad N ρ3 fl hg hk (show RV φ (ρ3 (33 + 2)) 1 (φ (NV (ρ (2 + b)))) by rw [u332_3]; exact RV.un _ _) h36_3) (n := 2) ⟨⟨wl_Ben_154, wi_Ben_isRoot, wsel_Ben_isRoot, winit_Ben, wc_Ben_isRoot⟩, by decide +kernel, ⟨Nat.le_of_ble_eq_true rfl, Nat.le_of_ble_eq_true rfl⟩, _, rfl, rfl⟩ rfl hl.1 rfl (Nat.le_of_ble_eq_true rfl) d_Ben_lay_105 ⟨Nat.le_of_ble_eq_true rfl, Nat.le_of_ble_eq_true rfl⟩ (fun r1 M1 H locs hp X => ?_)
      obtain ⟨ρ4, rfl, q4, kk4⟩ := hp
      have h36_4 : RV φ (ρ4 36) 2 (sqV (φ (NV (ρ (2 + a))))) := by rw [kk4 36 (by omega) (by omega)]; exact h36_3
      have u331_4 : ρ4 (33 + 1) = unF (ρ (2 + a)) := by rw [kk4 (33 + 1) (by omega) (by omega)]; exact u331_3
      have u332_4 : ρ4 (33 + 2) = unF (ρ (2 + b)) := by rw [kk4 (33 + 2) (by omega) (by omega)]; exact u332_3
      refine lv_if_ne (tgt := 113) hx hb d_Ben_lay_108 (by decide) (fun c108 => ?_) (fun c108 => ?_)
      · have hsq : φ (NV (ρ (2 + b))) * φ (NV (ρ (2 + b))) = sqV (φ (NV (ρ (2 + a)))) := by rcases q4 with h | h; exact h.2; exact absurd h.1 c108
        refine lv_aload_n hx hb d_Ben_lay_113 rfl (lv_at hl 0 rfl) ?_
        refine gm_get hx hb hW hown X u_Ben o0 rfl 6 (by decide) wf_Ben_71 (v := .ref (E.2.1 + 33)) rfl d_Ben_lay_114 ?_
        refine lv_iconst (v := 0) hx hb d_Ben_lay_117 (by decide) ?_
        refine gm_put hx hb hW hown X u_Pnt t_Pnt t_Pnt_ok n_Pnt (oP isP_33) (cw_ge _) rfl 2 (by decide) wf_Ben_107 rfl (ty := .boolean) (v := .int 0) (by decide) rfl rfl (Nat.le_of_ble_eq_true rfl) d_Ben_lay_118 (fun H locs X => ?_)
        have X : gx E (cW E ad N ρ4 (va_up fl 33 0)) s H locs := by rw [← cw_fP 0 isP_33]; exact X
        obtain ⟨fl5, hfl5⟩ : ∃ x, x = va_up fl 33 0 := ⟨_, rfl⟩
        rw [← hfl5] at X
        have hFd : ptR φ ρ4 fl5 33 (some (φ (NV (ρ (2 + a))), φ (NV (ρ (2 + b))))) := ⟨by rw [hfl5, vu_s], hsq, by rw [u331_4]; exact ST.un φ hla, by rw [u332_4]; exact ST.un φ hlb⟩
        refine lv_aload_n hx hb d_Ben_lay_121 rfl (lv_at hl 0 rfl) ?_
        refine gm_get hx hb hW hown X u_Ben o0 rfl 1 (by decide) wf_Ben_16 (v := .ref (E.2.1 + 10)) rfl d_Ben_lay_122 ?_
        refine lv_iload_n hx hb d_Ben_lay_125 rfl (lv_at hl 1 rfl) ?_
        refine gm_aald hx hb X (k := t) (t := E.2.1 + (41 + 3 * t)) oA10 rfl rfl ⟨h_t, by decide⟩ (if_pos h_t) d_Ben_lay_126 ?_
        refine lv_aload_n hx hb d_Ben_lay_127 rfl (lv_at hl 0 rfl) ?_
        refine gm_get hx hb hW hown X u_Ben o0 rfl 6 (by decide) wf_Ben_71 (v := .ref (E.2.1 + 33)) rfl d_Ben_lay_128 ?_
        refine gm_Vv hx hb hml hown hW X (oP (isP_p h_t)) (k_Pnt_copyFrom l E ad N _ _ hg hk (isP_p h_t) isP_33 hFd) (n := 1) ⟨⟨wl_Ben_147, wi_Pnt_copyFrom, wsel_Pnt_copyFrom, winit_Pnt, wc_Pnt_copyFrom⟩, by decide +kernel, ⟨Nat.le_of_ble_eq_true rfl, Nat.le_of_ble_eq_true rfl⟩, _, rfl, rfl⟩ rfl hl.1 rfl (Nat.le_of_ble_eq_true rfl) d_Ben_lay_131 ⟨Nat.le_of_ble_eq_true rfl, Nat.le_of_ble_eq_true rfl⟩ (fun M1 H locs hp X => ?_)
        obtain ⟨ρz, flz, rfl, qz, k1, k2⟩ := hp
        refine lv_iconst (v := 1) hx hb d_Ben_lay_134 (by decide) ?_
        exact kk _ H locs ls ρz flz _ d_Ben_lay_135 X (Or.inr ⟨rfl, ⟨hla, hlb, hsq⟩, qz, fun j hj h1 h2 => by rw [k1 j h1 h2, kk4 j (by omega) (by omega), kk3 j (by omega) (by omega), kk2 j (by omega), kk1 j (by omega)], fun j hj h1 => by rw [k2 j h1, hfl5, vu_n (by omega)]⟩)
      · have hsq : ¬ φ (NV (ρ (2 + b))) * φ (NV (ρ (2 + b))) = sqV (φ (NV (ρ (2 + a)))) := by rcases q4 with h | h; exact absurd (h.1.symm.trans c108) (by decide); exact h.2
        refine lv_iconst (v := 0) hx hb d_Ben_lay_111 (by decide) ?_
        exact kk _ H locs ls ρ4 fl _ d_Ben_lay_112 X (Or.inl ⟨rfl, fun z => hsq z.2.2, fun j hj h1 h2 => by rw [kk4 j (by omega) (by omega), kk3 j (by omega) (by omega), kk2 j (by omega), kk1 j (by omega)], fun _ _ => rfl⟩)
    · have hlt : ¬ (NV (ρ (2 + b)) : Int) < nP := by rcases h1b with h | h; exact h.2; exact absurd (h.1.symm.trans c41) (by decide)
      refine lv_iconst (v := 0) hx hb d_Ben_lay_44 (by decide) ?_
      exact kk _ H locs ls ρ fl _ d_Ben_lay_45 X (Or.inl ⟨rfl, fun z => hlt z.2.1, kNu.rf _ _ _ _⟩)
set_option maxHeartbeats 4000000 in
theorem bd_Ben_lift {p : Program} {l : Launch} {e : Env} {s : State} {m : MethodId} {args : Array Value} {below : List Frame} {meth : Method} {c : Code} {Q : State → Prop} {F G : Type} [Lean.Grind.CommRing F] [Lean.Grind.CommRing G] {φ : Int → F} {inv : F → F} {ψ : Int → G} {E : gm_E} {ad : Nat → Nat} {N : gm_M} {ρ : Nat → Nat → Int64} {fl : Nat → Int32} (hx : p.tables.exec = Jvm.exec) (hb : c.code = b_Ben_lift) (hml : c.maxLocals = 4) (hown : s.vm.findClass R_Ben = some m.cls) (hW : ∀ w ∈ WB, w.before args s = true) (hg : gE E ad) (hk : fk φ inv) (hn : fm ψ nN) {t : Nat} (h_t : t < 4) {a : Nat} (h_a : a < 8) {odd : Int32} (hodd : odd = 0 ∨ odd = 1) {H : Heap} {locs : List Loc} {ls : Array Slot} (X : gx E (cW E ad N ρ fl) s H locs) (hl : lv_has ls 4 [(0, .ref (E.2.1 + 0)), (1, .int (nI t)), (2, .int (nI a)), (3, .int odd)])
    (kk : ∀ (z : Nat) (H : Heap) (locs : List Loc) (ls : Array Slot) ρ' fl' (r : Int32), decode b_Ben_lift z = .ok (.ireturn, 1) → gx E (cW E ad N ρ' fl') s H locs → ((r = 0 ∧ ¬ ((NV (ρ (2 + a)) : Int) < nP ∧ (fp_pw (sqV (φ (NV (ρ (2 + a))))) (NV sRt)) * (fp_pw (sqV (φ (NV (ρ (2 + a))))) (NV sRt)) = sqV (φ (NV (ρ (2 + a))))) ∧ kNu 0 0 ρ ρ' fl fl') ∨ (r = 1 ∧ ((NV (ρ (2 + a)) : Int) < nP ∧ (fp_pw (sqV (φ (NV (ρ (2 + a))))) (NV sRt)) * (fp_pw (sqV (φ (NV (ρ (2 + a))))) (NV sRt)) = sqV (φ (NV (ρ (2 + a))))) ∧ ptR φ ρ' fl' (41 + 3 * t) (some ((φ (NV (ρ (2 + a)))), rtV φ (φ (NV (ρ (2 + a)))) odd)) ∧ kPt (41 + 3 * t) ρ ρ' fl fl')) → W p l e { frames := 7, cells := 2, slots := 12, locals := 120 } s m args below meth c H locs 2 12 Q (F0 m z ls [.int r])) :
    W p l e { frames := 7, cells := 2, slots := 12, locals := 120 } s m args below meth c H locs 2 12 Q (F0 m 8 ls []) := by
  have hf := hk.fm
  have I := isM_P hg
  have I2 := isM_N hg
  refine lv_aload_n hx hb d_Ben_lift_8 rfl (lv_at hl 0 rfl) ?_
  refine gm_get hx hb hW hown X u_Ben o0 rfl 2 (by decide) wf_Ben_38 (v := .ref (E.2.1 + 11)) rfl d_Ben_lift_9 ?_
  refine lv_aload_n hx hb d_Ben_lift_12 rfl (lv_at hl 0 rfl) ?_
  refine gm_get hx hb hW hown X u_Ben o0 rfl 0 (by decide) wf_Ben_11 (v := .ref (E.2.1 + 1)) rfl d_Ben_lift_13 ?_
  refine lv_iload_n hx hb d_Ben_lift_16 rfl (lv_at hl 2 rfl) ?_
  refine gm_aald2 hx hb X (k := a) (t := E.2.1 + (2 + a)) oA1 rfl rfl ⟨h_a, by decide⟩ (if_pos h_a) d_Ben_lift_17 ?_
  refine gm_Vi hx hb hml hown hW X o11 (k_isAbove l I (Or.inl (cw_row (r4_n h_a)))) (n := 1) ⟨⟨wl_Ben_126, wi_Mod_isAbove, wsel_Mod_isAbove, winit_Mod, wc_Mod_isAbove⟩, by decide +kernel, ⟨Nat.le_of_ble_eq_true rfl, Nat.le_of_ble_eq_true rfl⟩, _, rfl, rfl⟩ rfl hl.1 rfl (Nat.le_of_ble_eq_true rfl) d_Ben_lift_18 ⟨Nat.le_of_ble_eq_true rfl, Nat.le_of_ble_eq_true rfl⟩ (fun r1 M1 H locs hp X => ?_)
  rw [hp.1] at X
  have h1a := hp.2
  refine lv_if_ne (tgt := 26) hx hb d_Ben_lift_21 (by decide) (fun c21 => ?_) (fun c21 => ?_)
  · have hla : (NV (ρ (2 + a)) : Int) < nP := by rcases h1a with h | h; exact absurd h.1 c21; exact h.2
    refine lv_aload_n hx hb d_Ben_lift_26 rfl (lv_at hl 0 rfl) ?_
    refine gm_get hx hb hW hown X u_Ben o0 rfl 6 (by decide) wf_Ben_71 (v := .ref (E.2.1 + 33)) rfl d_Ben_lift_27 ?_
    refine gm_get hx hb hW hown X u_Pnt (oP isP_33) rfl 0 (by decide) wf_Ben_89 (v := .ref (E.2.1 + (33 + 1))) rfl d_Ben_lift_30 ?_
    refine lv_aload_n hx hb d_Ben_lift_33 rfl (lv_at hl 0 rfl) ?_
    refine gm_get hx hb hW hown X u_Ben o0 rfl 0 (by decide) wf_Ben_11 (v := .ref (E.2.1 + 1)) rfl d_Ben_lift_34 ?_
    refine lv_iload_n hx hb d_Ben_lift_37 rfl (lv_at hl 2 rfl) ?_
    refine gm_aald2 hx hb X (k := a) (t := E.2.1 + (2 + a)) oA1 rfl rfl ⟨h_a, by decide⟩ (if_pos h_a) d_Ben_lift_38 ?_
    have e39 := (rfl : ρ (2 + a) = ρ (2 + a))
    refine gm_Sv hx hb hml hown hW X (k_unpack l (isP.x isP_33) (Or.inl (cw_row (r4_n h_a)))) (n := 2) ⟨⟨wl_Ben_95, ws_Lim_unpack, winit_Lim, wc_Lim_unpack⟩, by decide +kernel, Nat.le_of_ble_eq_true rfl, Nat.le_of_ble_eq_true rfl⟩ rfl hl.1 rfl (Nat.le_of_ble_eq_true rfl) d_Ben_lift_39 ⟨Nat.le_of_ble_eq_true rfl, Nat.le_of_ble_eq_true rfl⟩ (fun M1 H locs hp X => ?_)
    obtain ⟨ρ1, rfl, q1, kk1⟩ := hp
    have u331_1 : ρ1 (33 + 1) = unF (ρ (2 + a)) := by rw [q1, e39]
    refine lv_aload_n hx hb d_Ben_lift_42 rfl (lv_at hl 0 rfl) ?_
    refine lv_aload_n hx hb d_Ben_lift_43 rfl (lv_at hl 0 rfl) ?_
    refine gm_get hx hb hW hown X u_Ben o0 rfl 7 (by decide) wf_Ben_74 (v := .ref (E.2.1 + 36)) rfl d_Ben_lift_44 ?_
    refine lv_aload_n hx hb d_Ben_lift_47 rfl (lv_at hl 0 rfl) ?_
    refine gm_get hx hb hW hown X u_Ben o0 rfl 6 (by decide) wf_Ben_71 (v := .ref (E.2.1 + 33)) rfl d_Ben_lift_48 ?_
    refine gm_get hx hb hW hown X u_Pnt (oP isP_33) rfl 0 (by decide) wf_Ben_89 (v := .ref (E.2.1 + (33 + 1))) rfl d_Ben_lift_51 ?_
    refine gm_Vv hx hb hml hown hW X o0 (k_Ben_squareOfY l E ad N ρ1 fl hg hk (show RV φ (ρ1 (33 + 1)) 1 (φ (NV (ρ (2 + a)))) by rw [u331_1]; exact RV.un _ _)) (n := 2) ⟨⟨wl_Ben_151, wi_Ben_squareOfY, wsel_Ben_squareOfY, winit_Ben, wc_Ben_squareOfY⟩, by decide +kernel, ⟨Nat.le_of_ble_eq_true rfl, Nat.le_of_ble_eq_true rfl⟩, _, rfl, rfl⟩ rfl hl.1 rfl (Nat.le_of_ble_eq_true rfl) d_Ben_lift_54 ⟨Nat.le_of_ble_eq_true rfl, Nat.le_of_ble_eq_true rfl⟩ (fun M1 H locs hp X => ?_)
    obtain ⟨ρ2, rfl, q2, kk2⟩ := hp
    have u331_2 : ρ2 (33 + 1) = unF (ρ (2 + a)) := by rw [kk2 (33 + 1) (by omega) (by omega)]; exact u331_1
    have h36_2 : RV φ (ρ2 36) 2 (sqV (φ (NV (ρ (2 + a))))) := q2
    refine lv_aload_n hx hb d_Ben_lift_57 rfl (lv_at hl 0 rfl) ?_
    refine gm_get hx hb hW hown X u_Ben o0 rfl 2 (by decide) wf_Ben_38 (v := .ref (E.2.1 + 11)) rfl d_Ben_lift_58 ?_
    refine lv_aload_n hx hb d_Ben_lift_61 rfl (lv_at hl 0 rfl) ?_
    refine gm_get hx hb hW hown X u_Ben o0 rfl 6 (by decide) wf_Ben_71 (v := .ref (E.2.1 + 33)) rfl d_Ben_lift_62 ?_
    refine gm_get hx hb hW hown X u_Pnt (oP isP_33) rfl 1 (by decide) wf_Ben_101 (v := .ref (E.2.1 + (33 + 2))) rfl d_Ben_lift_65 ?_
    refine lv_aload_n hx hb d_Ben_lift_68 rfl (lv_at hl 0 rfl) ?_
    refine gm_get hx hb hW hown X u_Ben o0 rfl 7 (by decide) wf_Ben_74 (v := .ref (E.2.1 + 36)) rfl d_Ben_lift_69 ?_
    refine gm_gets hx hb hW hown X hg.2.2.2.1.1 wf_Ben_158 d_Ben_lift_72 ?_
    refine gm_Vv hx hb hml hown hW X o11 (k_power l I hf (isP.y isP_33) (by omega) (by decide) h36_2 (by decide) (Or.inr hg.2.2.2.1.2)) (n := 3) ⟨⟨wl_Ben_161, wi_Mod_power, wsel_Mod_power, winit_Mod, wc_Mod_power⟩, by decide +kernel, ⟨Nat.le_of_ble_eq_true rfl, Nat.le_of_ble_eq_true rfl⟩, _, rfl, rfl⟩ rfl hl.1 rfl (Nat.le_of_ble_eq_true rfl) d_Ben_lift_75 ⟨Nat.le_of_ble_eq_true rfl, Nat.le_of_ble_eq_true rfl⟩ (fun M1 H locs hp X => ?_)
    obtain ⟨ρ3, rfl, q3, kk3⟩ := hp
    have h36_3 : RV φ (ρ3 36) 2 (sqV (φ (NV (ρ (2 + a))))) := by rw [kk3 36 (by omega) (by omega)]; exact h36_2
    have u331_3 : ρ3 (33 + 1) = unF (ρ (2 + a)) := by rw [kk3 (33 + 1) (by omega) (by omega)]; exact u331_2
    have h332_3 : RV φ (ρ3 (33 + 2)) 1 (fp_pw (sqV (φ (NV (ρ (2 + a))))) (NV sRt)) := q3
    refine lv_aload_n hx hb d_Ben_lift_78 rfl (lv_at hl 0 rfl) ?_
    refine lv_aload_n hx hb d_Ben_lift_79 rfl (lv_at hl 0 rfl) ?_
    refine gm_get hx hb hW hown X u_Ben o0 rfl 6 (by decide) wf_Ben_71 (v := .ref (E.2.1 + 33)) rfl d_Ben_lift_80 ?_
    refine gm_get hx hb hW hown X u_Pnt (oP isP_33) rfl 1 (by decide) wf_Ben_101 (v := .ref (E.2.1 + (33 + 2))) rfl d_Ben_lift_83 ?_
    refine lv_aload_n hx hb d_Ben_lift_86 rfl (lv_at hl 0 rfl) ?_
    refine gm_get hx hb hW hown X u_Ben o0 rfl 7 (by decide) wf_Ben_74 (v := .ref (E.2.1 + 36)) rfl d_Ben_lift_87 ?_
    refine gm_Vi hx hb hml hown hW X o0 (k_Ben_isRoot l E ad N ρ3 fl hg hk h332_3 h36_3) (n := 2) ⟨⟨wl_Ben_154, wi_Ben_isRoot, wsel_Ben_isRoot, winit_Ben, wc_Ben_isRoot⟩, by decide +kernel, ⟨Nat.le_of_ble_eq_true rfl, Nat.le_of_ble_eq_true rfl⟩, _, rfl, rfl⟩ rfl hl.1 rfl (Nat.le_of_ble_eq_true rfl) d_Ben_lift_90 ⟨Nat.le_of_ble_eq_true rfl, Nat.le_of_ble_eq_true rfl⟩ (fun r1 M1 H locs hp X => ?_)
    obtain ⟨ρ4, rfl, q4, kk4⟩ := hp
    have h36_4 : RV φ (ρ4 36) 2 (sqV (φ (NV (ρ (2 + a))))) := by rw [kk4 36 (by omega) (by omega)]; exact h36_3
    have h332_4 : RV φ (ρ4 (33 + 2)) 1 (fp_pw (sqV (φ (NV (ρ (2 + a))))) (NV sRt)) := by rw [kk4 (33 + 2) (by omega) (by omega)]; exact h332_3
    have u331_4 : ρ4 (33 + 1) = unF (ρ (2 + a)) := by rw [kk4 (33 + 1) (by omega) (by omega)]; exact u331_3
    refine lv_if_ne (tgt := 98) hx hb d_Ben_lift_93 (by decide) (fun c93 => ?_) (fun c93 => ?_)
    · have hsq : (fp_pw (sqV (φ (NV (ρ (2 + a))))) (NV sRt)) * (fp_pw (sqV (φ (NV (ρ (2 + a))))) (NV sRt)) = sqV (φ (NV (ρ (2 + a)))) := by rcases q4 with h | h; exact h.2; exact absurd h.1 c93
      refine lv_aload_n hx hb d_Ben_lift_98 rfl (lv_at hl 0 rfl) ?_
      refine lv_aload_n hx hb d_Ben_lift_99 rfl (lv_at hl 0 rfl) ?_
      refine gm_get hx hb hW hown X u_Ben o0 rfl 6 (by decide) wf_Ben_71 (v := .ref (E.2.1 + 33)) rfl d_Ben_lift_100 ?_
      refine gm_get hx hb hW hown X u_Pnt (oP isP_33) rfl 1 (by decide) wf_Ben_101 (v := .ref (E.2.1 + (33 + 2))) rfl d_Ben_lift_103 ?_
      refine lv_iload_n hx hb d_Ben_lift_106 rfl (lv_at hl 3 rfl) ?_
      refine gm_Vv hx hb hml hown hW X o0 (k_Ben_makeParity l E ad N ρ4 fl hg hk hodd h332_4) (n := 2) ⟨⟨wl_Ben_165, wi_Ben_makeParity, wsel_Ben_makeParity, winit_Ben, wc_Ben_makeParity⟩, by decide +kernel, ⟨Nat.le_of_ble_eq_true rfl, Nat.le_of_ble_eq_true rfl⟩, _, rfl, rfl⟩ rfl hl.1 rfl (Nat.le_of_ble_eq_true rfl) d_Ben_lift_107 ⟨Nat.le_of_ble_eq_true rfl, Nat.le_of_ble_eq_true rfl⟩ (fun M1 H locs hp X => ?_)
      obtain ⟨ρ5, rfl, q5, kk5⟩ := hp
      have h36_5 : RV φ (ρ5 36) 2 (sqV (φ (NV (ρ (2 + a))))) := by rw [kk5 36 (by omega) (by omega) (by omega)]; exact h36_4
      have u331_5 : ρ5 (33 + 1) = unF (ρ (2 + a)) := by rw [kk5 (33 + 1) (by omega) (by omega) (by omega)]; exact u331_4
      refine lv_aload_n hx hb d_Ben_lift_110 rfl (lv_at hl 0 rfl) ?_
      refine gm_get hx hb hW hown X u_Ben o0 rfl 6 (by decide) wf_Ben_71 (v := .ref (E.2.1 + 33)) rfl d_Ben_lift_111 ?_
      refine lv_iconst (v := 0) hx hb d_Ben_lift_114 (by decide) ?_
      refine gm_put hx hb hW hown X u_Pnt t_Pnt t_Pnt_ok n_Pnt (oP isP_33) (cw_ge _) rfl 2 (by decide) wf_Ben_107 rfl (ty := .boolean) (v := .int 0) (by decide) rfl rfl (Nat.le_of_ble_eq_true rfl) d_Ben_lift_115 (fun H locs X => ?_)
      have X : gx E (cW E ad N ρ5 (va_up fl 33 0)) s H locs := by rw [← cw_fP 0 isP_33]; exact X
      obtain ⟨fl6, hfl6⟩ : ∃ x, x = va_up fl 33 0 := ⟨_, rfl⟩
      rw [← hfl6] at X
      have hFd : ptR φ ρ5 fl6 33 (some ((φ (NV (ρ (2 + a)))), rtV φ (φ (NV (ρ (2 + a)))) odd)) := ⟨by rw [hfl6, vu_s], rtV_sq hsq, by rw [u331_5]; exact ST.un φ hla, q5⟩
      refine lv_aload_n hx hb d_Ben_lift_118 rfl (lv_at hl 0 rfl) ?_
      refine gm_get hx hb hW hown X u_Ben o0 rfl 1 (by decide) wf_Ben_16 (v := .ref (E.2.1 + 10)) rfl d_Ben_lift_119 ?_
      refine lv_iload_n hx hb d_Ben_lift_122 rfl (lv_at hl 1 rfl) ?_
      refine gm_aald hx hb X (k := t) (t := E.2.1 + (41 + 3 * t)) oA10 rfl rfl ⟨h_t, by decide⟩ (if_pos h_t) d_Ben_lift_123 ?_
      refine lv_aload_n hx hb d_Ben_lift_124 rfl (lv_at hl 0 rfl) ?_
      refine gm_get hx hb hW hown X u_Ben o0 rfl 6 (by decide) wf_Ben_71 (v := .ref (E.2.1 + 33)) rfl d_Ben_lift_125 ?_
      refine gm_Vv hx hb hml hown hW X (oP (isP_p h_t)) (k_Pnt_copyFrom l E ad N _ _ hg hk (isP_p h_t) isP_33 hFd) (n := 1) ⟨⟨wl_Ben_147, wi_Pnt_copyFrom, wsel_Pnt_copyFrom, winit_Pnt, wc_Pnt_copyFrom⟩, by decide +kernel, ⟨Nat.le_of_ble_eq_true rfl, Nat.le_of_ble_eq_true rfl⟩, _, rfl, rfl⟩ rfl hl.1 rfl (Nat.le_of_ble_eq_true rfl) d_Ben_lift_128 ⟨Nat.le_of_ble_eq_true rfl, Nat.le_of_ble_eq_true rfl⟩ (fun M1 H locs hp X => ?_)
      obtain ⟨ρz, flz, rfl, qz, k1, k2⟩ := hp
      refine lv_iconst (v := 1) hx hb d_Ben_lift_131 (by decide) ?_
      exact kk _ H locs ls ρz flz _ d_Ben_lift_132 X (Or.inr ⟨rfl, ⟨hla, hsq⟩, qz, fun j hj h1 h2 => by rw [k1 j h1 h2, kk5 j (by omega) (by omega) (by omega), kk4 j (by omega) (by omega), kk3 j (by omega) (by omega), kk2 j (by omega) (by omega), kk1 j (by omega)], fun j hj h1 => by rw [k2 j h1, hfl6, vu_n (by omega)]⟩)
    · have hsq : ¬ (fp_pw (sqV (φ (NV (ρ (2 + a))))) (NV sRt)) * (fp_pw (sqV (φ (NV (ρ (2 + a))))) (NV sRt)) = sqV (φ (NV (ρ (2 + a)))) := by rcases q4 with h | h; exact absurd (h.1.symm.trans c93) (by decide); exact h.2
      refine lv_iconst (v := 0) hx hb d_Ben_lift_96 (by decide) ?_
      exact kk _ H locs ls ρ4 fl _ d_Ben_lift_97 X (Or.inl ⟨rfl, fun z => hsq z.2, fun j hj h1 h2 => by rw [kk4 j (by omega) (by omega), kk3 j (by omega) (by omega), kk2 j (by omega) (by omega), kk1 j (by omega)], fun _ _ => rfl⟩)
  · have hlt : ¬ (NV (ρ (2 + a)) : Int) < nP := by rcases h1a with h | h; exact h.2; exact absurd (h.1.symm.trans c21) (by decide)
    refine lv_iconst (v := 0) hx hb d_Ben_lift_24 (by decide) ?_
    exact kk _ H locs ls ρ fl _ d_Ben_lift_25 X (Or.inl ⟨rfl, fun z => hlt z.1, kNu.rf _ _ _ _⟩)
set_option maxHeartbeats 4000000 in
theorem bd_Ben_show {p : Program} {l : Launch} {e : Env} {s : State} {m : MethodId} {args : Array Value} {below : List Frame} {meth : Method} {c : Code} {Q : State → Prop} {F G : Type} [Lean.Grind.CommRing F] [Lean.Grind.CommRing G] {φ : Int → F} {inv : F → F} {ψ : Int → G} {E : gm_E} {ad : Nat → Nat} {N : gm_M} {ρ : Nat → Nat → Int64} {fl : Nat → Int32} (hx : p.tables.exec = Jvm.exec) (hb : c.code = b_Ben_show) (hml : c.maxLocals = 4) (hown : s.vm.findClass R_Ben = some m.cls) (hW : ∀ w ∈ WB, w.before args s = true) (hg : gE E ad) (hk : fk φ inv) (hn : fm ψ nN) {t : Nat} (h_t : t < 4) {a : Nat} (h_a : a < 8) {b : Nat} (h_b : b < 8) {pp : Option (F × F)} (hpp : ptR φ ρ fl (41 + 3 * t) pp) {H : Heap} {locs : List Loc} {ls : Array Slot} (X : gx E (cW E ad N ρ fl) s H locs) (hl : lv_has ls 4 [(0, .ref (E.2.1 + 0)), (1, .int (nI t)), (2, .int (nI a)), (3, .int (nI b))])
    (kk : ∀ (z : Nat) (H : Heap) (locs : List Loc) (ls : Array Slot) ρ' fl' (r : Int32), decode b_Ben_show z = .ok (.ireturn, 1) → gx E (cW E ad N ρ' fl') s H locs → ((r = 0 ∧ pp = none ∧ kNu 0 0 ρ ρ' fl fl') ∨ (r = 1 ∧ ∃ a0, pp = some a0 ∧ NV (ρ' (2 + b)) = rp φ nP a0.2 ∧ (a ≠ b → NV (ρ' (2 + a)) = rp φ nP a0.1) ∧ kNu (2 + a) (2 + b) ρ ρ' fl fl')) → W p l e { frames := 7, cells := 3, slots := 18, locals := 120 } s m args below meth c H locs 3 18 Q (F0 m z ls [.int r])) :
    W p l e { frames := 7, cells := 3, slots := 18, locals := 120 } s m args below meth c H locs 3 18 Q (F0 m 12 ls []) := by
  have hf := hk.fm
  have I := isM_P hg
  have I2 := isM_N hg
  refine lv_aload_n hx hb d_Ben_show_12 rfl (lv_at hl 0 rfl) ?_
  refine gm_get hx hb hW hown X u_Ben o0 rfl 1 (by decide) wf_Ben_16 (v := .ref (E.2.1 + 10)) rfl d_Ben_show_13 ?_
  refine lv_iload_n hx hb d_Ben_show_16 rfl (lv_at hl 1 rfl) ?_
  refine gm_aald hx hb X (k := t) (t := E.2.1 + (41 + 3 * t)) oA10 rfl rfl ⟨h_t, by decide⟩ (if_pos h_t) d_Ben_show_17 ?_
  refine gm_get hx hb hW hown X u_Pnt (oP (isP_p h_t)) rfl 2 (by decide) wf_Ben_107 (v := .int (fl (41 + 3 * t))) rfl d_Ben_show_18 ?_
  cases pp with
  | none =>
    have h0 : fl (41 + 3 * t) = 1 := hpp
    refine lv_if_eq (tgt := 26) hx hb d_Ben_show_21 (by decide) (fun c9 => absurd (h0.symm.trans c9) (by decide)) (fun _ => ?_)
    refine lv_iconst (v := 0) hx hb d_Ben_show_24 (by decide) ?_
    exact kk _ H locs ls ρ fl _ d_Ben_show_25 X (Or.inl ⟨rfl, rfl, kNu.rf _ _ _ _⟩)
  | some a0 =>
    have h0 : fl (41 + 3 * t) = 0 := hpp.1
    refine lv_if_eq (tgt := 26) hx hb d_Ben_show_21 (by decide) (fun _ => ?_) (fun c9 => absurd h0 c9)
    refine lv_aload_n hx hb d_Ben_show_26 rfl (lv_at hl 0 rfl) ?_
    refine gm_get hx hb hW hown X u_Ben o0 rfl 0 (by decide) wf_Ben_11 (v := .ref (E.2.1 + 1)) rfl d_Ben_show_27 ?_
    refine lv_iload_n hx hb d_Ben_show_30 rfl (lv_at hl 2 rfl) ?_
    refine gm_aald2 hx hb X (k := a) (t := E.2.1 + (2 + a)) oA1 rfl rfl ⟨h_a, by decide⟩ (if_pos h_a) d_Ben_show_31 ?_
    refine lv_aload_n hx hb d_Ben_show_32 rfl (lv_at hl 0 rfl) ?_
    refine gm_get hx hb hW hown X u_Ben o0 rfl 1 (by decide) wf_Ben_16 (v := .ref (E.2.1 + 10)) rfl d_Ben_show_33 ?_
    refine lv_iload_n hx hb d_Ben_show_36 rfl (lv_at hl 1 rfl) ?_
    refine gm_aald hx hb X (k := t) (t := E.2.1 + (41 + 3 * t)) oA10 rfl rfl ⟨h_t, by decide⟩ (if_pos h_t) d_Ben_show_37 ?_
    refine gm_get hx hb hW hown X u_Pnt (oP (isP_p h_t)) rfl 0 (by decide) wf_Ben_89 (v := .ref (E.2.1 + ((41 + 3 * t) + 1))) rfl d_Ben_show_38 ?_
    refine gm_Sv hx hb hml hown hW X (k_pack l (r4_n h_a) (isP.x (isP_p h_t))) (n := 2) ⟨⟨wl_Ben_141, ws_Lim_pack, winit_Lim, wc_Lim_pack⟩, by decide +kernel, Nat.le_of_ble_eq_true rfl, Nat.le_of_ble_eq_true rfl⟩ rfl hl.1 rfl (Nat.le_of_ble_eq_true rfl) d_Ben_show_41 ⟨Nat.le_of_ble_eq_true rfl, Nat.le_of_ble_eq_true rfl⟩ (fun M1 H locs hp X => ?_)
    obtain ⟨ρ1, rfl, q1, kk1⟩ := hp
    have s413t1_1 : ST φ nP (ρ1 ((41 + 3 * t) + 1)) a0.1 := by rw [kk1 ((41 + 3 * t) + 1) (by omega)]; exact hpp.2.2.1
    have s413t2_1 : ST φ nP (ρ1 ((41 + 3 * t) + 2)) a0.2 := by rw [kk1 ((41 + 3 * t) + 2) (by omega)]; exact hpp.2.2.2
    refine lv_aload_n hx hb d_Ben_show_44 rfl (lv_at hl 0 rfl) ?_
    refine gm_get hx hb hW hown X u_Ben o0 rfl 0 (by decide) wf_Ben_11 (v := .ref (E.2.1 + 1)) rfl d_Ben_show_45 ?_
    refine lv_iload_n hx hb d_Ben_show_48 rfl (lv_at hl 3 rfl) ?_
    refine gm_aald2 hx hb X (k := b) (t := E.2.1 + (2 + b)) oA1 rfl rfl ⟨h_b, by decide⟩ (if_pos h_b) d_Ben_show_49 ?_
    refine lv_aload_n hx hb d_Ben_show_50 rfl (lv_at hl 0 rfl) ?_
    refine gm_get hx hb hW hown X u_Ben o0 rfl 1 (by decide) wf_Ben_16 (v := .ref (E.2.1 + 10)) rfl d_Ben_show_51 ?_
    refine lv_iload_n hx hb d_Ben_show_54 rfl (lv_at hl 1 rfl) ?_
    refine gm_aald hx hb X (k := t) (t := E.2.1 + (41 + 3 * t)) oA10 rfl rfl ⟨h_t, by decide⟩ (if_pos h_t) d_Ben_show_55 ?_
    refine gm_get hx hb hW hown X u_Pnt (oP (isP_p h_t)) rfl 1 (by decide) wf_Ben_101 (v := .ref (E.2.1 + ((41 + 3 * t) + 2))) rfl d_Ben_show_56 ?_
    refine gm_Sv hx hb hml hown hW X (k_pack l (r4_n h_b) (isP.y (isP_p h_t))) (n := 2) ⟨⟨wl_Ben_141, ws_Lim_pack, winit_Lim, wc_Lim_pack⟩, by decide +kernel, Nat.le_of_ble_eq_true rfl, Nat.le_of_ble_eq_true rfl⟩ rfl hl.1 rfl (Nat.le_of_ble_eq_true rfl) d_Ben_show_59 ⟨Nat.le_of_ble_eq_true rfl, Nat.le_of_ble_eq_true rfl⟩ (fun M1 H locs hp X => ?_)
    obtain ⟨ρ2, rfl, q2, kk2⟩ := hp
    have s413t1_2 : ST φ nP (ρ2 ((41 + 3 * t) + 1)) a0.1 := by rw [kk2 ((41 + 3 * t) + 1) (by omega)]; exact s413t1_1
    have s413t2_2 : ST φ nP (ρ2 ((41 + 3 * t) + 2)) a0.2 := by rw [kk2 ((41 + 3 * t) + 2) (by omega)]; exact s413t2_1
    refine lv_iconst (v := 1) hx hb d_Ben_show_62 (by decide) ?_
    exact kk _ H locs ls ρ2 fl _ d_Ben_show_63 X (Or.inr ⟨rfl, a0, rfl, by rw [q2]; exact s413t2_1.pkr hf, fun hne => by rw [kk2 (2 + a) (by omega), q1]; exact hpp.2.2.1.pkr hf, fun j hj h1 h2 => by rw [kk2 j (by omega), kk1 j (by omega)], fun _ _ => rfl⟩)
set_option maxHeartbeats 4000000 in
theorem bd_Ben_add {p : Program} {l : Launch} {e : Env} {s : State} {m : MethodId} {args : Array Value} {below : List Frame} {meth : Method} {c : Code} {Q : State → Prop} {F G : Type} [Lean.Grind.CommRing F] [Lean.Grind.CommRing G] {φ : Int → F} {inv : F → F} {ψ : Int → G} {E : gm_E} {ad : Nat → Nat} {N : gm_M} {ρ : Nat → Nat → Int64} {fl : Nat → Int32} (hx : p.tables.exec = Jvm.exec) (hb : c.code = b_Ben_add) (hml : c.maxLocals = 4) (hown : s.vm.findClass R_Ben = some m.cls) (hW : ∀ w ∈ WB, w.before args s = true) (hg : gE E ad) (hk : fk φ inv) (hn : fm ψ nN) {t : Nat} (h_t : t < 4) {a : Nat} (h_a : a < 4) {b : Nat} (h_b : b < 4) {pa pb : Option (F × F)} (hA : ptR φ ρ fl (41 + 3 * a) pa) (hB : ptR φ ρ fl (41 + 3 * b) pb) {H : Heap} {locs : List Loc} {ls : Array Slot} (X : gx E (cW E ad N ρ fl) s H locs) (hl : lv_has ls 4 [(0, .ref (E.2.1 + 0)), (1, .int (nI t)), (2, .int (nI a)), (3, .int (nI b))])
    (kk : ∀ (z : Nat) (H : Heap) (locs : List Loc) (ls : Array Slot) ρ' fl', decode b_Ben_add z = .ok (.return_, 1) → gx E (cW E ad N ρ' fl') s H locs → (ptR φ ρ' fl' (41 + 3 * t) (ec_add inv pa pb) ∧ kPt (41 + 3 * t) ρ ρ' fl fl') → W p l e { frames := 7, cells := 3, slots := 18, locals := 152 } s m args below meth c H locs 3 18 Q (F0 m z ls [])) :
    W p l e { frames := 7, cells := 3, slots := 18, locals := 152 } s m args below meth c H locs 3 18 Q (F0 m 12 ls []) := by
  have hf := hk.fm
  have I := isM_P hg
  have I2 := isM_N hg
  refine lv_aload_n hx hb d_Ben_add_12 rfl (lv_at hl 0 rfl) ?_
  refine gm_get hx hb hW hown X u_Ben o0 rfl 5 (by decide) wf_Ben_67 (v := .ref (E.2.1 + 24)) rfl d_Ben_add_13 ?_
  refine gm_Vv hx hb hml hown hW X o24 (k_Sum_clear l E ad N ρ fl hg hk) (n := 0) ⟨⟨wl_Ben_169, wi_Sum_clear, wsel_Sum_clear, winit_Sum, wc_Sum_clear⟩, by decide +kernel, ⟨Nat.le_of_ble_eq_true rfl, Nat.le_of_ble_eq_true rfl⟩, _, rfl, rfl⟩ rfl hl.1 rfl (Nat.le_of_ble_eq_true rfl) d_Ben_add_16 ⟨Nat.le_of_ble_eq_true rfl, Nat.le_of_ble_eq_true rfl⟩ (fun M1 H locs hp X => ?_)
  obtain ⟨fl1, rfl, h1, f1⟩ := hp
  have s0 : sumR φ ρ fl1 (none : Option (F × F)) := h1
  refine lv_aload_n hx hb d_Ben_add_19 rfl (lv_at hl 0 rfl) ?_
  refine gm_get hx hb hW hown X u_Ben o0 rfl 5 (by decide) wf_Ben_67 (v := .ref (E.2.1 + 24)) rfl d_Ben_add_20 ?_
  refine lv_aload_n hx hb d_Ben_add_23 rfl (lv_at hl 0 rfl) ?_
  refine gm_get hx hb hW hown X u_Ben o0 rfl 1 (by decide) wf_Ben_16 (v := .ref (E.2.1 + 10)) rfl d_Ben_add_24 ?_
  refine lv_iload_n hx hb d_Ben_add_27 rfl (lv_at hl 2 rfl) ?_
  refine gm_aald hx hb X (k := a) (t := E.2.1 + (41 + 3 * a)) oA10 rfl rfl ⟨h_a, by decide⟩ (if_pos h_a) d_Ben_add_28 ?_
  refine gm_Vv hx hb hml hown hW X o24 (k_Sum_join l E ad N _ _ hg hk (isP_p h_a) s0 (hA.kS (isP_p h_a) (kS.rf _) f1)) (n := 1) ⟨⟨wl_Ben_172, wi_Sum_join, wsel_Sum_join, winit_Sum, wc_Sum_join⟩, by decide +kernel, ⟨Nat.le_of_ble_eq_true rfl, Nat.le_of_ble_eq_true rfl⟩, _, rfl, rfl⟩ rfl hl.1 rfl (Nat.le_of_ble_eq_true rfl) d_Ben_add_29 ⟨Nat.le_of_ble_eq_true rfl, Nat.le_of_ble_eq_true rfl⟩ (fun M1 H locs hp X => ?_)
  obtain ⟨ρ2, fl2, rfl, s1, k2, f2⟩ := hp
  rw [ec_add_none] at s1
  refine lv_aload_n hx hb d_Ben_add_32 rfl (lv_at hl 0 rfl) ?_
  refine gm_get hx hb hW hown X u_Ben o0 rfl 5 (by decide) wf_Ben_67 (v := .ref (E.2.1 + 24)) rfl d_Ben_add_33 ?_
  refine lv_aload_n hx hb d_Ben_add_36 rfl (lv_at hl 0 rfl) ?_
  refine gm_get hx hb hW hown X u_Ben o0 rfl 1 (by decide) wf_Ben_16 (v := .ref (E.2.1 + 10)) rfl d_Ben_add_37 ?_
  refine lv_iload_n hx hb d_Ben_add_40 rfl (lv_at hl 3 rfl) ?_
  refine gm_aald hx hb X (k := b) (t := E.2.1 + (41 + 3 * b)) oA10 rfl rfl ⟨h_b, by decide⟩ (if_pos h_b) d_Ben_add_41 ?_
  refine gm_Vv hx hb hml hown hW X o24 (k_Sum_join l E ad N _ _ hg hk (isP_p h_b) s1 (hB.kS (isP_p h_b) k2 (f1.tr f2))) (n := 1) ⟨⟨wl_Ben_172, wi_Sum_join, wsel_Sum_join, winit_Sum, wc_Sum_join⟩, by decide +kernel, ⟨Nat.le_of_ble_eq_true rfl, Nat.le_of_ble_eq_true rfl⟩, _, rfl, rfl⟩ rfl hl.1 rfl (Nat.le_of_ble_eq_true rfl) d_Ben_add_42 ⟨Nat.le_of_ble_eq_true rfl, Nat.le_of_ble_eq_true rfl⟩ (fun M1 H locs hp X => ?_)
  obtain ⟨ρ3, fl3, rfl, s2, k3, f3⟩ := hp
  refine lv_aload_n hx hb d_Ben_add_45 rfl (lv_at hl 0 rfl) ?_
  refine gm_get hx hb hW hown X u_Ben o0 rfl 5 (by decide) wf_Ben_67 (v := .ref (E.2.1 + 24)) rfl d_Ben_add_46 ?_
  refine lv_aload_n hx hb d_Ben_add_49 rfl (lv_at hl 0 rfl) ?_
  refine gm_get hx hb hW hown X u_Ben o0 rfl 1 (by decide) wf_Ben_16 (v := .ref (E.2.1 + 10)) rfl d_Ben_add_50 ?_
  refine lv_iload_n hx hb d_Ben_add_53 rfl (lv_at hl 1 rfl) ?_
  refine gm_aald hx hb X (k := t) (t := E.2.1 + (41 + 3 * t)) oA10 rfl rfl ⟨h_t, by decide⟩ (if_pos h_t) d_Ben_add_54 ?_
  refine gm_Vv hx hb hml hown hW X o24 (k_Sum_writeTo l E ad N _ _ hg hk (isP_p h_t) s2) (n := 1) ⟨⟨wl_Ben_175, wi_Sum_writeTo, wsel_Sum_writeTo, winit_Sum, wc_Sum_writeTo⟩, by decide +kernel, ⟨Nat.le_of_ble_eq_true rfl, Nat.le_of_ble_eq_true rfl⟩, _, rfl, rfl⟩ rfl hl.1 rfl (Nat.le_of_ble_eq_true rfl) d_Ben_add_55 ⟨Nat.le_of_ble_eq_true rfl, Nat.le_of_ble_eq_true rfl⟩ (fun M1 H locs hp X => ?_)
  obtain ⟨ρ4, fl4, rfl, q4, k4, f4⟩ := hp
  exact kk _ H locs ls ρ4 fl4 d_Ben_add_58 X ⟨q4, fun j hj h1 h2 => by rw [k4 j (by omega) h1 h2, k3 j (by omega), k2 j (by omega)], fun j hj h1 => by rw [f4 j h1, f3 j (by omega), f2 j (by omega), f1 j (by omega)]⟩
set_option maxHeartbeats 4000000 in
theorem bd_Ben_times {p : Program} {l : Launch} {e : Env} {s : State} {m : MethodId} {args : Array Value} {below : List Frame} {meth : Method} {c : Code} {Q : State → Prop} {F G : Type} [Lean.Grind.CommRing F] [Lean.Grind.CommRing G] {φ : Int → F} {inv : F → F} {ψ : Int → G} {E : gm_E} {ad : Nat → Nat} {N : gm_M} {ρ : Nat → Nat → Int64} {fl : Nat → Int32} (hx : p.tables.exec = Jvm.exec) (hb : c.code = b_Ben_times) (hml : c.maxLocals = 4) (hown : s.vm.findClass R_Ben = some m.cls) (hW : ∀ w ∈ WB, w.before args s = true) (hg : gE E ad) (hk : fk φ inv) (hn : fm ψ nN) {t : Nat} (h_t : t < 4) {b : Nat} (h_b : b < 8) {a : Nat} (h_a : a < 4) {pa : Option (F × F)} (hA : ptR φ ρ fl (41 + 3 * a) pa) {H : Heap} {locs : List Loc} {ls : Array Slot} (X : gx E (cW E ad N ρ fl) s H locs) (hl : lv_has ls 4 [(0, .ref (E.2.1 + 0)), (1, .int (nI t)), (2, .int (nI b)), (3, .int (nI a))])
    (kk : ∀ (z : Nat) (H : Heap) (locs : List Loc) (ls : Array Slot) ρ' fl', decode b_Ben_times z = .ok (.return_, 1) → gx E (cW E ad N ρ' fl') s H locs → (ptR φ ρ' fl' (41 + 3 * t) (ec_nm inv (NV (ρ (2 + b))) pa) ∧ kPt (41 + 3 * t) ρ ρ' fl fl') → W p l e { frames := 7, cells := 3, slots := 18, locals := 152 } s m args below meth c H locs 3 18 Q (F0 m z ls [])) :
    W p l e { frames := 7, cells := 3, slots := 18, locals := 152 } s m args below meth c H locs 3 18 Q (F0 m 12 ls []) := by
  have hf := hk.fm
  have I := isM_P hg
  have I2 := isM_N hg
  refine lv_aload_n hx hb d_Ben_times_12 rfl (lv_at hl 0 rfl) ?_
  refine gm_get hx hb hW hown X u_Ben o0 rfl 5 (by decide) wf_Ben_67 (v := .ref (E.2.1 + 24)) rfl d_Ben_times_13 ?_
  refine lv_aload_n hx hb d_Ben_times_16 rfl (lv_at hl 0 rfl) ?_
  refine gm_get hx hb hW hown X u_Ben o0 rfl 0 (by decide) wf_Ben_11 (v := .ref (E.2.1 + 1)) rfl d_Ben_times_17 ?_
  refine lv_iload_n hx hb d_Ben_times_20 rfl (lv_at hl 2 rfl) ?_
  refine gm_aald2 hx hb X (k := b) (t := E.2.1 + (2 + b)) oA1 rfl rfl ⟨h_b, by decide⟩ (if_pos h_b) d_Ben_times_21 ?_
  refine lv_aload_n hx hb d_Ben_times_22 rfl (lv_at hl 0 rfl) ?_
  refine gm_get hx hb hW hown X u_Ben o0 rfl 1 (by decide) wf_Ben_16 (v := .ref (E.2.1 + 10)) rfl d_Ben_times_23 ?_
  refine lv_iload_n hx hb d_Ben_times_26 rfl (lv_at hl 3 rfl) ?_
  refine gm_aald hx hb X (k := a) (t := E.2.1 + (41 + 3 * a)) oA10 rfl rfl ⟨h_a, by decide⟩ (if_pos h_a) d_Ben_times_27 ?_
  refine gm_gets hx hb hW hown X hg.1.1 wf_Ben_178 d_Ben_times_28 ?_
  refine lv_aload_n hx hb d_Ben_times_31 rfl (lv_at hl 0 rfl) ?_
  refine gm_get hx hb hW hown X u_Ben o0 rfl 1 (by decide) wf_Ben_16 (v := .ref (E.2.1 + 10)) rfl d_Ben_times_32 ?_
  refine lv_iload_n hx hb d_Ben_times_35 rfl (lv_at hl 3 rfl) ?_
  refine gm_aald hx hb X (k := a) (t := E.2.1 + (41 + 3 * a)) oA10 rfl rfl ⟨h_a, by decide⟩ (if_pos h_a) d_Ben_times_36 ?_
  refine gm_Vv hx hb hml hown hW X o24 (k_Sum_gather l E ad N ρ fl hg hk (isP_p h_a) (isP_p h_a) hA hA (Or.inr ⟨_, rfl, r4_n h_b, rfl⟩) (Or.inl hg.1.2)) (n := 4) ⟨⟨wl_Ben_181, wi_Sum_gather, wsel_Sum_gather, winit_Sum, wc_Sum_gather⟩, by decide +kernel, ⟨Nat.le_of_ble_eq_true rfl, Nat.le_of_ble_eq_true rfl⟩, _, rfl, rfl⟩ rfl hl.1 rfl (Nat.le_of_ble_eq_true rfl) d_Ben_times_37 ⟨Nat.le_of_ble_eq_true rfl, Nat.le_of_ble_eq_true rfl⟩ (fun M1 H locs hp X => ?_)
  obtain ⟨ρ2, fl2, rfl, s1, k2, f2⟩ := hp
  rw [sZ_v, show ec_nm inv 0 pa = none from rfl, ec_none_add] at s1
  refine lv_aload_n hx hb d_Ben_times_40 rfl (lv_at hl 0 rfl) ?_
  refine gm_get hx hb hW hown X u_Ben o0 rfl 5 (by decide) wf_Ben_67 (v := .ref (E.2.1 + 24)) rfl d_Ben_times_41 ?_
  refine lv_aload_n hx hb d_Ben_times_44 rfl (lv_at hl 0 rfl) ?_
  refine gm_get hx hb hW hown X u_Ben o0 rfl 1 (by decide) wf_Ben_16 (v := .ref (E.2.1 + 10)) rfl d_Ben_times_45 ?_
  refine lv_iload_n hx hb d_Ben_times_48 rfl (lv_at hl 1 rfl) ?_
  refine gm_aald hx hb X (k := t) (t := E.2.1 + (41 + 3 * t)) oA10 rfl rfl ⟨h_t, by decide⟩ (if_pos h_t) d_Ben_times_49 ?_
  refine gm_Vv hx hb hml hown hW X o24 (k_Sum_writeTo l E ad N _ _ hg hk (isP_p h_t) s1) (n := 1) ⟨⟨wl_Ben_175, wi_Sum_writeTo, wsel_Sum_writeTo, winit_Sum, wc_Sum_writeTo⟩, by decide +kernel, ⟨Nat.le_of_ble_eq_true rfl, Nat.le_of_ble_eq_true rfl⟩, _, rfl, rfl⟩ rfl hl.1 rfl (Nat.le_of_ble_eq_true rfl) d_Ben_times_50 ⟨Nat.le_of_ble_eq_true rfl, Nat.le_of_ble_eq_true rfl⟩ (fun M1 H locs hp X => ?_)
  obtain ⟨ρ4, fl4, rfl, q4, k4, f4⟩ := hp
  exact kk _ H locs ls ρ4 fl4 d_Ben_times_53 X ⟨q4, fun j hj h1 h2 => by rw [k4 j (by omega) h1 h2, k2 j (by omega)], fun j hj h1 => by rw [f4 j h1, f2 j (by omega)]⟩
set_option maxHeartbeats 4000000 in
theorem bd_Ben_same {p : Program} {l : Launch} {e : Env} {s : State} {m : MethodId} {args : Array Value} {below : List Frame} {meth : Method} {c : Code} {Q : State → Prop} {F G : Type} [Lean.Grind.CommRing F] [Lean.Grind.CommRing G] {φ : Int → F} {inv : F → F} {ψ : Int → G} {E : gm_E} {ad : Nat → Nat} {N : gm_M} {ρ : Nat → Nat → Int64} {fl : Nat → Int32} (hx : p.tables.exec = Jvm.exec) (hb : c.code = b_Ben_same) (hml : c.maxLocals = 3) (hown : s.vm.findClass R_Ben = some m.cls) (hW : ∀ w ∈ WB, w.before args s = true) (hg : gE E ad) (hk : fk φ inv) (hn : fm ψ nN) {a : Nat} (h_a : a < 4) {b : Nat} (h_b : b < 4) {pa pb : Option (F × F)} (hA : ptR φ ρ fl (41 + 3 * a) pa) (hB : ptR φ ρ fl (41 + 3 * b) pb) {H : Heap} {locs : List Loc} {ls : Array Slot} (X : gx E (cW E ad N ρ fl) s H locs) (hl : lv_has ls 3 [(0, .ref (E.2.1 + 0)), (1, .int (nI a)), (2, .int (nI b))])
    (kk : ∀ (z : Nat) (H : Heap) (locs : List Loc) (ls : Array Slot) ρ' fl' (r : Int32), decode b_Ben_same z = .ok (.ireturn, 1) → gx E (cW E ad N ρ' fl') s H locs → (((r = 1 ∧ pa = pb) ∨ (r = 0 ∧ ¬ pa = pb)) ∧ ρ' = ρ ∧ fl' = fl) → W p l e { frames := 7, cells := 2, slots := 12, locals := 120 } s m args below meth c H locs 2 12 Q (F0 m z ls [.int r])) :
    W p l e { frames := 7, cells := 2, slots := 12, locals := 120 } s m args below meth c H locs 2 12 Q (F0 m 8 ls []) := by
  have hf := hk.fm
  have I := isM_P hg
  have I2 := isM_N hg
  refine lv_aload_n hx hb d_Ben_same_8 rfl (lv_at hl 0 rfl) ?_
  refine gm_get hx hb hW hown X u_Ben o0 rfl 1 (by decide) wf_Ben_16 (v := .ref (E.2.1 + 10)) rfl d_Ben_same_9 ?_
  refine lv_iload_n hx hb d_Ben_same_12 rfl (lv_at hl 1 rfl) ?_
  refine gm_aald hx hb X (k := a) (t := E.2.1 + (41 + 3 * a)) oA10 rfl rfl ⟨h_a, by decide⟩ (if_pos h_a) d_Ben_same_13 ?_
  refine lv_aload_n hx hb d_Ben_same_14 rfl (lv_at hl 0 rfl) ?_
  refine gm_get hx hb hW hown X u_Ben o0 rfl 1 (by decide) wf_Ben_16 (v := .ref (E.2.1 + 10)) rfl d_Ben_same_15 ?_
  refine lv_iload_n hx hb d_Ben_same_18 rfl (lv_at hl 2 rfl) ?_
  refine gm_aald hx hb X (k := b) (t := E.2.1 + (41 + 3 * b)) oA10 rfl rfl ⟨h_b, by decide⟩ (if_pos h_b) d_Ben_same_19 ?_
  refine gm_Vi hx hb hml hown hW X (oP (isP_p h_a)) (k_Pnt_matches l E ad N ρ fl hg hk (isP_p h_a) (isP_p h_b) hA hB) (n := 1) ⟨⟨wl_Ben_185, wi_Pnt_matches, wsel_Pnt_matches, winit_Pnt, wc_Pnt_matches⟩, by decide +kernel, ⟨Nat.le_of_ble_eq_true rfl, Nat.le_of_ble_eq_true rfl⟩, _, rfl, rfl⟩ rfl hl.1 rfl (Nat.le_of_ble_eq_true rfl) d_Ben_same_20 ⟨Nat.le_of_ble_eq_true rfl, Nat.le_of_ble_eq_true rfl⟩ (fun r M1 H locs hp X => ?_)
  rw [hp.1] at X
  exact kk _ H locs ls ρ fl r d_Ben_same_23 X ⟨hp.2, rfl, rfl⟩
set_option maxHeartbeats 4000000 in
theorem bd_Ben_sign {p : Program} {l : Launch} {e : Env} {s : State} {m : MethodId} {args : Array Value} {below : List Frame} {meth : Method} {c : Code} {Q : State → Prop} {F G : Type} [Lean.Grind.CommRing F] [Lean.Grind.CommRing G] {φ : Int → F} {inv : F → F} {ψ : Int → G} {E : gm_E} {ad : Nat → Nat} {N : gm_M} {ρ : Nat → Nat → Int64} {fl : Nat → Int32} (hx : p.tables.exec = Jvm.exec) (hb : c.code = b_Ben_sign) (hml : c.maxLocals = 6) (hown : s.vm.findClass R_Ben = some m.cls) (hW : ∀ w ∈ WB, w.before args s = true) (hg : gE E ad) (hk : fk φ inv) (hn : fm ψ nN) {t : Nat} (h_t : t < 8) {u : Nat} (h_u : u < 8) {a : Nat} (h_a : a < 8) {b : Nat} (h_b : b < 8) {d : Nat} (h_d : d < 8) {g0 : F × F} (hG : ptR φ ρ fl 21 (some g0)) (hord : ∀ n : Nat, ¬ n = 0 → (n : Int) < nN → ∃ a, ec_nm inv n (some g0) = some a) {H : Heap} {locs : List Loc} {ls : Array Slot} (X : gx E (cW E ad N ρ fl) s H locs) (hl : lv_has ls 6 [(0, .ref (E.2.1 + 0)), (1, .int (nI t)), (2, .int (nI u)), (3, .int (nI a)), (4, .int (nI b)), (5, .int (nI d))])
    (kk : ∀ (z : Nat) (H : Heap) (locs : List Loc) (ls : Array Slot) ρ' fl' (r : Int32), decode b_Ben_sign z = .ok (.ireturn, 1) → gx E (cW E ad N ρ' fl') s H locs → ((r = 0 ∧ ¬ (((NV (ρ (2 + a)) : Int) < nN ∧ ¬ NV (ρ (2 + a)) = 0) ∧ ((NV (ρ (2 + b)) : Int) < nN ∧ ¬ NV (ρ (2 + b)) = 0)) ∧ kNu 0 0 ρ ρ' fl fl') ∨ (r = 1 ∧ (((NV (ρ (2 + a)) : Int) < nN ∧ ¬ NV (ρ (2 + a)) = 0) ∧ ((NV (ρ (2 + b)) : Int) < nN ∧ ¬ NV (ρ (2 + b)) = 0)) ∧ ∃ a0, ec_nm inv (NV (ρ (2 + b))) (some g0) = some a0 ∧ NV (ρ' (2 + u)) = rp ψ nN ((ψ (NV (ρ (2 + a))) * (ψ (rp φ nP a0.1 : Nat)) + ψ (NV (ρ (2 + d)))) * fp_pw (ψ (NV (ρ (2 + b)))) (NV sN2)) ∧ (t ≠ u → NV (ρ' (2 + t)) = rp ψ nN (ψ (rp φ nP a0.1 : Nat))) ∧ kNu (2 + t) (2 + u) ρ ρ' fl fl')) → W p l e { frames := 7, cells := 5, slots := 30, locals := 152 } s m args below meth c H locs 5 30 Q (F0 m z ls [.int r])) :
    W p l e { frames := 7, cells := 5, slots := 30, locals := 152 } s m args below meth c H locs 5 30 Q (F0 m 22 ls []) := by
  have hf := hk.fm
  have I := isM_P hg
  have I2 := isM_N hg
  refine lv_aload_n hx hb d_Ben_sign_22 rfl (lv_at hl 0 rfl) ?_
  refine lv_aload_n hx hb d_Ben_sign_23 rfl (lv_at hl 0 rfl) ?_
  refine gm_get hx hb hW hown X u_Ben o0 rfl 0 (by decide) wf_Ben_11 (v := .ref (E.2.1 + 1)) rfl d_Ben_sign_24 ?_
  refine lv_iload_n hx hb d_Ben_sign_27 rfl (lv_at hl 3 rfl) ?_
  refine gm_aald2 hx hb X (k := a) (t := E.2.1 + (2 + a)) oA1 rfl rfl ⟨h_a, by decide⟩ (if_pos h_a) d_Ben_sign_28 ?_
  refine gm_Vi hx hb hml hown hW X o0 (k_Ben_isFromOneBelowN l E ad N ρ fl hg hk hn (Or.inr ⟨_, rfl, r4_n h_a, rfl⟩)) (n := 1) ⟨⟨wl_Ben_189, wi_Ben_isFromOneBelowN, wsel_Ben_isFromOneBelowN, winit_Ben, wc_Ben_isFromOneBelowN⟩, by decide +kernel, ⟨Nat.le_of_ble_eq_true rfl, Nat.le_of_ble_eq_true rfl⟩, _, rfl, rfl⟩ rfl hl.1 rfl (Nat.le_of_ble_eq_true rfl) d_Ben_sign_29 ⟨Nat.le_of_ble_eq_true rfl, Nat.le_of_ble_eq_true rfl⟩ (fun r1 M1 H locs hp X => ?_)
  rw [hp.1] at X
  have h1a := hp.2
  refine lv_if_eq (tgt := 49) hx hb d_Ben_sign_32 (by decide) (fun c32 => ?_) (fun c32 => ?_)
  · have hlt : ¬ ((NV (ρ (2 + a)) : Int) < nN ∧ ¬ NV (ρ (2 + a)) = 0) := by rcases h1a with h | h; exact absurd (h.1.symm.trans c32) (by decide); exact h.2
    refine lv_iconst (v := 0) hx hb d_Ben_sign_49 (by decide) ?_
    exact kk _ H locs ls ρ fl _ d_Ben_sign_50 X (Or.inl ⟨rfl, fun z => hlt z.1, kNu.rf _ _ _ _⟩)
  · have hla : ((NV (ρ (2 + a)) : Int) < nN ∧ ¬ NV (ρ (2 + a)) = 0) := by rcases h1a with h | h; exact h.2; exact absurd h.1 c32
    refine lv_aload_n hx hb d_Ben_sign_35 rfl (lv_at hl 0 rfl) ?_
    refine lv_aload_n hx hb d_Ben_sign_36 rfl (lv_at hl 0 rfl) ?_
    refine gm_get hx hb hW hown X u_Ben o0 rfl 0 (by decide) wf_Ben_11 (v := .ref (E.2.1 + 1)) rfl d_Ben_sign_37 ?_
    refine lv_iload hx hb d_Ben_sign_40 (lv_at hl 4 rfl) ?_
    refine gm_aald2 hx hb X (k := b) (t := E.2.1 + (2 + b)) oA1 rfl rfl ⟨h_b, by decide⟩ (if_pos h_b) d_Ben_sign_42 ?_
    refine gm_Vi hx hb hml hown hW X o0 (k_Ben_isFromOneBelowN l E ad N ρ fl hg hk hn (Or.inr ⟨_, rfl, r4_n h_b, rfl⟩)) (n := 1) ⟨⟨wl_Ben_189, wi_Ben_isFromOneBelowN, wsel_Ben_isFromOneBelowN, winit_Ben, wc_Ben_isFromOneBelowN⟩, by decide +kernel, ⟨Nat.le_of_ble_eq_true rfl, Nat.le_of_ble_eq_true rfl⟩, _, rfl, rfl⟩ rfl hl.1 rfl (Nat.le_of_ble_eq_true rfl) d_Ben_sign_43 ⟨Nat.le_of_ble_eq_true rfl, Nat.le_of_ble_eq_true rfl⟩ (fun r1 M1 H locs hp X => ?_)
    rw [hp.1] at X
    have h1b := hp.2
    refine lv_if_ne (tgt := 51) hx hb d_Ben_sign_46 (by decide) (fun c46 => ?_) (fun c46 => ?_)
    · have hlb : ((NV (ρ (2 + b)) : Int) < nN ∧ ¬ NV (ρ (2 + b)) = 0) := by rcases h1b with h | h; exact h.2; exact absurd h.1 c46
      obtain ⟨a0, ha0⟩ := hord _ hlb.2 hlb.1
      refine lv_aload_n hx hb d_Ben_sign_51 rfl (lv_at hl 0 rfl) ?_
      refine gm_get hx hb hW hown X u_Ben o0 rfl 5 (by decide) wf_Ben_67 (v := .ref (E.2.1 + 24)) rfl d_Ben_sign_52 ?_
      refine lv_aload_n hx hb d_Ben_sign_55 rfl (lv_at hl 0 rfl) ?_
      refine gm_get hx hb hW hown X u_Ben o0 rfl 0 (by decide) wf_Ben_11 (v := .ref (E.2.1 + 1)) rfl d_Ben_sign_56 ?_
      refine lv_iload hx hb d_Ben_sign_59 (lv_at hl 4 rfl) ?_
      refine gm_aald2 hx hb X (k := b) (t := E.2.1 + (2 + b)) oA1 rfl rfl ⟨h_b, by decide⟩ (if_pos h_b) d_Ben_sign_61 ?_
      refine lv_aload_n hx hb d_Ben_sign_62 rfl (lv_at hl 0 rfl) ?_
      refine gm_get hx hb hW hown X u_Ben o0 rfl 4 (by decide) wf_Ben_58 (v := .ref (E.2.1 + 21)) rfl d_Ben_sign_63 ?_
      refine gm_gets hx hb hW hown X hg.1.1 wf_Ben_178 d_Ben_sign_66 ?_
      refine lv_aload_n hx hb d_Ben_sign_69 rfl (lv_at hl 0 rfl) ?_
      refine gm_get hx hb hW hown X u_Ben o0 rfl 4 (by decide) wf_Ben_58 (v := .ref (E.2.1 + 21)) rfl d_Ben_sign_70 ?_
      refine gm_Vv hx hb hml hown hW X o24 (k_Sum_gather l E ad N ρ fl hg hk isP_21 isP_21 hG hG (Or.inr ⟨_, rfl, r4_n h_b, rfl⟩) (Or.inl hg.1.2)) (n := 4) ⟨⟨wl_Ben_181, wi_Sum_gather, wsel_Sum_gather, winit_Sum, wc_Sum_gather⟩, by decide +kernel, ⟨Nat.le_of_ble_eq_true rfl, Nat.le_of_ble_eq_true rfl⟩, _, rfl, rfl⟩ rfl hl.1 rfl (Nat.le_of_ble_eq_true rfl) d_Ben_sign_73 ⟨Nat.le_of_ble_eq_true rfl, Nat.le_of_ble_eq_true rfl⟩ (fun M1 H locs hp X => ?_)
      obtain ⟨ρ1, fl1, rfl, s1, kk1, f1⟩ := hp
      rw [sZ_v, show ec_nm inv 0 (some g0) = none from rfl, ec_none_add, ha0] at s1
      refine lv_aload_n hx hb d_Ben_sign_76 rfl (lv_at hl 0 rfl) ?_
      refine gm_get hx hb hW hown X u_Ben o0 rfl 5 (by decide) wf_Ben_67 (v := .ref (E.2.1 + 24)) rfl d_Ben_sign_77 ?_
      refine lv_aload_n hx hb d_Ben_sign_80 rfl (lv_at hl 0 rfl) ?_
      refine gm_get hx hb hW hown X u_Ben o0 rfl 6 (by decide) wf_Ben_71 (v := .ref (E.2.1 + 33)) rfl d_Ben_sign_81 ?_
      refine gm_Vv hx hb hml hown hW X o24 (k_Sum_writeTo l E ad N _ _ hg hk isP_33 s1) (n := 1) ⟨⟨wl_Ben_175, wi_Sum_writeTo, wsel_Sum_writeTo, winit_Sum, wc_Sum_writeTo⟩, by decide +kernel, ⟨Nat.le_of_ble_eq_true rfl, Nat.le_of_ble_eq_true rfl⟩, _, rfl, rfl⟩ rfl hl.1 rfl (Nat.le_of_ble_eq_true rfl) d_Ben_sign_84 ⟨Nat.le_of_ble_eq_true rfl, Nat.le_of_ble_eq_true rfl⟩ (fun M1 H locs hp X => ?_)
      obtain ⟨ρ2, fl2, rfl, q2, kk2, f2⟩ := hp
      have sx : ST φ nP (ρ2 (33 + 1)) a0.1 := q2.2.2.1
      refine lv_aload_n hx hb d_Ben_sign_87 rfl (lv_at hl 0 rfl) ?_
      refine gm_get hx hb hW hown X u_Ben o0 rfl 7 (by decide) wf_Ben_74 (v := .ref (E.2.1 + 36)) rfl d_Ben_sign_88 ?_
      refine lv_aload_n hx hb d_Ben_sign_91 rfl (lv_at hl 0 rfl) ?_
      refine gm_get hx hb hW hown X u_Ben o0 rfl 6 (by decide) wf_Ben_71 (v := .ref (E.2.1 + 33)) rfl d_Ben_sign_92 ?_
      refine gm_get hx hb hW hown X u_Pnt (oP isP_33) rfl 0 (by decide) wf_Ben_89 (v := .ref (E.2.1 + (33 + 1))) rfl d_Ben_sign_95 ?_
      refine gm_Sv hx hb hml hown hW X (k_copy l (by decide) (isP.x isP_33)) (n := 2) ⟨⟨wl_Ben_192, ws_Lim_copy, winit_Lim, wc_Lim_copy⟩, by decide +kernel, Nat.le_of_ble_eq_true rfl, Nat.le_of_ble_eq_true rfl⟩ rfl hl.1 rfl (Nat.le_of_ble_eq_true rfl) d_Ben_sign_98 ⟨Nat.le_of_ble_eq_true rfl, Nat.le_of_ble_eq_true rfl⟩ (fun M1 H locs hp X => ?_)
      obtain ⟨ρ3, rfl, q3, kk3⟩ := hp
      have s331_3 : ST φ nP (ρ3 (33 + 1)) a0.1 := by rw [kk3 (33 + 1) (by omega)]; exact sx
      have s36_3 : ST φ nP (ρ3 36) a0.1 := by rw [q3]; exact sx
      refine lv_aload_n hx hb d_Ben_sign_101 rfl (lv_at hl 0 rfl) ?_
      refine gm_get hx hb hW hown X u_Ben o0 rfl 3 (by decide) wf_Ben_54 (v := .ref (E.2.1 + 16)) rfl d_Ben_sign_102 ?_
      refine lv_aload_n hx hb d_Ben_sign_105 rfl (lv_at hl 0 rfl) ?_
      refine gm_get hx hb hW hown X u_Ben o0 rfl 7 (by decide) wf_Ben_74 (v := .ref (E.2.1 + 36)) rfl d_Ben_sign_106 ?_
      refine gm_Vv hx hb hml hown hW X o16 (k_settle l I2 hn (by decide) (by omega) (ST.two (ψ := ψ) hf s36_3) (by decide)) (n := 1) ⟨⟨wl_Ben_137, wi_Mod_settle, wsel_Mod_settle, winit_Mod, wc_Mod_settle⟩, by decide +kernel, ⟨Nat.le_of_ble_eq_true rfl, Nat.le_of_ble_eq_true rfl⟩, _, rfl, rfl⟩ rfl hl.1 rfl (Nat.le_of_ble_eq_true rfl) d_Ben_sign_109 ⟨Nat.le_of_ble_eq_true rfl, Nat.le_of_ble_eq_true rfl⟩ (fun M1 H locs hp X => ?_)
      obtain ⟨ρ4, rfl, q4, kk4⟩ := hp
      have s331_4 : ST φ nP (ρ4 (33 + 1)) a0.1 := by rw [kk4 (33 + 1) (by omega) (by omega)]; exact s331_3
      have s36_4 : ST ψ nN (ρ4 36) (ψ (rp φ nP a0.1 : Nat)) := q4
      refine lv_aload_n hx hb d_Ben_sign_112 rfl (lv_at hl 0 rfl) ?_
      refine gm_get hx hb hW hown X u_Ben o0 rfl 8 (by decide) wf_Ben_77 (v := .ref (E.2.1 + 37)) rfl d_Ben_sign_113 ?_
      refine lv_aload_n hx hb d_Ben_sign_116 rfl (lv_at hl 0 rfl) ?_
      refine gm_get hx hb hW hown X u_Ben o0 rfl 0 (by decide) wf_Ben_11 (v := .ref (E.2.1 + 1)) rfl d_Ben_sign_117 ?_
      refine lv_iload_n hx hb d_Ben_sign_120 rfl (lv_at hl 3 rfl) ?_
      refine gm_aald2 hx hb X (k := a) (t := E.2.1 + (2 + a)) oA1 rfl rfl ⟨h_a, by decide⟩ (if_pos h_a) d_Ben_sign_121 ?_
      have e122 := (show ρ4 (2 + a) = ρ (2 + a) by rw [kk4 (2 + a) (by omega) (by omega), kk3 (2 + a) (by omega), kk2 (2 + a) (by omega) (by omega) (by omega), kk1 (2 + a) (by omega)])
      refine gm_Sv hx hb hml hown hW X (k_unpack l (by decide) (Or.inl (cw_row (r4_n h_a)))) (n := 2) ⟨⟨wl_Ben_95, ws_Lim_unpack, winit_Lim, wc_Lim_unpack⟩, by decide +kernel, Nat.le_of_ble_eq_true rfl, Nat.le_of_ble_eq_true rfl⟩ rfl hl.1 rfl (Nat.le_of_ble_eq_true rfl) d_Ben_sign_122 ⟨Nat.le_of_ble_eq_true rfl, Nat.le_of_ble_eq_true rfl⟩ (fun M1 H locs hp X => ?_)
      obtain ⟨ρ5, rfl, q5, kk5⟩ := hp
      have s331_5 : ST φ nP (ρ5 (33 + 1)) a0.1 := by rw [kk5 (33 + 1) (by omega)]; exact s331_4
      have s36_5 : ST ψ nN (ρ5 36) (ψ (rp φ nP a0.1 : Nat)) := by rw [kk5 36 (by omega)]; exact s36_4
      have u37_5 : ρ5 37 = unF (ρ (2 + a)) := by rw [q5, e122]
      refine lv_aload_n hx hb d_Ben_sign_125 rfl (lv_at hl 0 rfl) ?_
      refine gm_get hx hb hW hown X u_Ben o0 rfl 3 (by decide) wf_Ben_54 (v := .ref (E.2.1 + 16)) rfl d_Ben_sign_126 ?_
      refine lv_aload_n hx hb d_Ben_sign_129 rfl (lv_at hl 0 rfl) ?_
      refine gm_get hx hb hW hown X u_Ben o0 rfl 8 (by decide) wf_Ben_77 (v := .ref (E.2.1 + 37)) rfl d_Ben_sign_130 ?_
      refine lv_aload_n hx hb d_Ben_sign_133 rfl (lv_at hl 0 rfl) ?_
      refine gm_get hx hb hW hown X u_Ben o0 rfl 8 (by decide) wf_Ben_77 (v := .ref (E.2.1 + 37)) rfl d_Ben_sign_134 ?_
      refine lv_aload_n hx hb d_Ben_sign_137 rfl (lv_at hl 0 rfl) ?_
      refine gm_get hx hb hW hown X u_Ben o0 rfl 7 (by decide) wf_Ben_74 (v := .ref (E.2.1 + 36)) rfl d_Ben_sign_138 ?_
      refine gm_Vv hx hb hml hown hW X o16 (k_mul l I2 hn (by decide) (by decide) (by decide) (show RV ψ (ρ5 37) 1 (ψ (NV (ρ (2 + a)))) by rw [u37_5]; exact RV.un _ _) s36_5.rv (by decide)) (n := 3) ⟨⟨wl_Ben_195, wi_Mod_multiply, wsel_Mod_multiply, winit_Mod, wc_Mod_multiply⟩, by decide +kernel, ⟨Nat.le_of_ble_eq_true rfl, Nat.le_of_ble_eq_true rfl⟩, _, rfl, rfl⟩ rfl hl.1 rfl (Nat.le_of_ble_eq_true rfl) d_Ben_sign_141 ⟨Nat.le_of_ble_eq_true rfl, Nat.le_of_ble_eq_true rfl⟩ (fun M1 H locs hp X => ?_)
      obtain ⟨ρ6, rfl, q6, kk6⟩ := hp
      have s331_6 : ST φ nP (ρ6 (33 + 1)) a0.1 := by rw [kk6 (33 + 1) (by omega) (by omega)]; exact s331_5
      have s36_6 : ST ψ nN (ρ6 36) (ψ (rp φ nP a0.1 : Nat)) := by rw [kk6 36 (by omega) (by omega)]; exact s36_5
      have h37_6 : RV ψ (ρ6 37) 1 ((ψ (NV (ρ (2 + a)))) * (ψ (rp φ nP a0.1 : Nat))) := q6
      refine lv_aload_n hx hb d_Ben_sign_144 rfl (lv_at hl 0 rfl) ?_
      refine gm_get hx hb hW hown X u_Ben o0 rfl 9 (by decide) wf_Ben_80 (v := .ref (E.2.1 + 38)) rfl d_Ben_sign_145 ?_
      refine lv_aload_n hx hb d_Ben_sign_148 rfl (lv_at hl 0 rfl) ?_
      refine gm_get hx hb hW hown X u_Ben o0 rfl 0 (by decide) wf_Ben_11 (v := .ref (E.2.1 + 1)) rfl d_Ben_sign_149 ?_
      refine lv_iload hx hb d_Ben_sign_152 (lv_at hl 5 rfl) ?_
      refine gm_aald2 hx hb X (k := d) (t := E.2.1 + (2 + d)) oA1 rfl rfl ⟨h_d, by decide⟩ (if_pos h_d) d_Ben_sign_154 ?_
      have e155 := (show ρ6 (2 + d) = ρ (2 + d) by rw [kk6 (2 + d) (by omega) (by omega), kk5 (2 + d) (by omega), kk4 (2 + d) (by omega) (by omega), kk3 (2 + d) (by omega), kk2 (2 + d) (by omega) (by omega) (by omega), kk1 (2 + d) (by omega)])
      refine gm_Sv hx hb hml hown hW X (k_unpack l (by decide) (Or.inl (cw_row (r4_n h_d)))) (n := 2) ⟨⟨wl_Ben_95, ws_Lim_unpack, winit_Lim, wc_Lim_unpack⟩, by decide +kernel, Nat.le_of_ble_eq_true rfl, Nat.le_of_ble_eq_true rfl⟩ rfl hl.1 rfl (Nat.le_of_ble_eq_true rfl) d_Ben_sign_155 ⟨Nat.le_of_ble_eq_true rfl, Nat.le_of_ble_eq_true rfl⟩ (fun M1 H locs hp X => ?_)
      obtain ⟨ρ7, rfl, q7, kk7⟩ := hp
      have h37_7 : RV ψ (ρ7 37) 1 ((ψ (NV (ρ (2 + a)))) * (ψ (rp φ nP a0.1 : Nat))) := by rw [kk7 37 (by omega)]; exact h37_6
      have s331_7 : ST φ nP (ρ7 (33 + 1)) a0.1 := by rw [kk7 (33 + 1) (by omega)]; exact s331_6
      have s36_7 : ST ψ nN (ρ7 36) (ψ (rp φ nP a0.1 : Nat)) := by rw [kk7 36 (by omega)]; exact s36_6
      have u38_7 : ρ7 38 = unF (ρ (2 + d)) := by rw [q7, e155]
      refine lv_aload_n hx hb d_Ben_sign_158 rfl (lv_at hl 0 rfl) ?_
      refine gm_get hx hb hW hown X u_Ben o0 rfl 8 (by decide) wf_Ben_77 (v := .ref (E.2.1 + 37)) rfl d_Ben_sign_159 ?_
      refine lv_aload_n hx hb d_Ben_sign_162 rfl (lv_at hl 0 rfl) ?_
      refine gm_get hx hb hW hown X u_Ben o0 rfl 8 (by decide) wf_Ben_77 (v := .ref (E.2.1 + 37)) rfl d_Ben_sign_163 ?_
      refine lv_aload_n hx hb d_Ben_sign_166 rfl (lv_at hl 0 rfl) ?_
      refine gm_get hx hb hW hown X u_Ben o0 rfl 9 (by decide) wf_Ben_80 (v := .ref (E.2.1 + 38)) rfl d_Ben_sign_167 ?_
      refine gm_Sv hx hb hml hown hW X (k_plus l hn.1 (by decide) (by decide) (by decide) h37_7 (show RV ψ (ρ7 38) 1 (ψ (NV (ρ (2 + d)))) by rw [u38_7]; exact RV.un _ _)) (n := 3) ⟨⟨wl_Ben_198, ws_Lim_plus, winit_Lim, wc_Lim_plus⟩, by decide +kernel, Nat.le_of_ble_eq_true rfl, Nat.le_of_ble_eq_true rfl⟩ rfl hl.1 rfl (Nat.le_of_ble_eq_true rfl) d_Ben_sign_170 ⟨Nat.le_of_ble_eq_true rfl, Nat.le_of_ble_eq_true rfl⟩ (fun M1 H locs hp X => ?_)
      obtain ⟨ρ8, rfl, q8, kk8⟩ := hp
      have s331_8 : ST φ nP (ρ8 (33 + 1)) a0.1 := by rw [kk8 (33 + 1) (by omega)]; exact s331_7
      have s36_8 : ST ψ nN (ρ8 36) (ψ (rp φ nP a0.1 : Nat)) := by rw [kk8 36 (by omega)]; exact s36_7
      have u38_8 : ρ8 38 = unF (ρ (2 + d)) := by rw [kk8 38 (by omega)]; exact u38_7
      have h37_8 : RV ψ (ρ8 37) 2 (((ψ (NV (ρ (2 + a)))) * (ψ (rp φ nP a0.1 : Nat))) + (ψ (NV (ρ (2 + d))))) := q8.up (by decide)
      refine lv_aload_n hx hb d_Ben_sign_173 rfl (lv_at hl 0 rfl) ?_
      refine gm_get hx hb hW hown X u_Ben o0 rfl 9 (by decide) wf_Ben_80 (v := .ref (E.2.1 + 38)) rfl d_Ben_sign_174 ?_
      refine lv_aload_n hx hb d_Ben_sign_177 rfl (lv_at hl 0 rfl) ?_
      refine gm_get hx hb hW hown X u_Ben o0 rfl 0 (by decide) wf_Ben_11 (v := .ref (E.2.1 + 1)) rfl d_Ben_sign_178 ?_
      refine lv_iload hx hb d_Ben_sign_181 (lv_at hl 4 rfl) ?_
      refine gm_aald2 hx hb X (k := b) (t := E.2.1 + (2 + b)) oA1 rfl rfl ⟨h_b, by decide⟩ (if_pos h_b) d_Ben_sign_183 ?_
      have e184 := (show ρ8 (2 + b) = ρ (2 + b) by rw [kk8 (2 + b) (by omega), kk7 (2 + b) (by omega), kk6 (2 + b) (by omega) (by omega), kk5 (2 + b) (by omega), kk4 (2 + b) (by omega) (by omega), kk3 (2 + b) (by omega), kk2 (2 + b) (by omega) (by omega) (by omega), kk1 (2 + b) (by omega)])
      refine gm_Sv hx hb hml hown hW X (k_unpack l (by decide) (Or.inl (cw_row (r4_n h_b)))) (n := 2) ⟨⟨wl_Ben_95, ws_Lim_unpack, winit_Lim, wc_Lim_unpack⟩, by decide +kernel, Nat.le_of_ble_eq_true rfl, Nat.le_of_ble_eq_true rfl⟩ rfl hl.1 rfl (Nat.le_of_ble_eq_true rfl) d_Ben_sign_184 ⟨Nat.le_of_ble_eq_true rfl, Nat.le_of_ble_eq_true rfl⟩ (fun M1 H locs hp X => ?_)
      obtain ⟨ρ9, rfl, q9, kk9⟩ := hp
      have h37_9 : RV ψ (ρ9 37) 2 (((ψ (NV (ρ (2 + a)))) * (ψ (rp φ nP a0.1 : Nat))) + (ψ (NV (ρ (2 + d))))) := by rw [kk9 37 (by omega)]; exact h37_8
      have s331_9 : ST φ nP (ρ9 (33 + 1)) a0.1 := by rw [kk9 (33 + 1) (by omega)]; exact s331_8
      have s36_9 : ST ψ nN (ρ9 36) (ψ (rp φ nP a0.1 : Nat)) := by rw [kk9 36 (by omega)]; exact s36_8
      have u38_9 : ρ9 38 = unF (ρ (2 + b)) := by rw [q9, e184]
      refine lv_aload_n hx hb d_Ben_sign_187 rfl (lv_at hl 0 rfl) ?_
      refine gm_get hx hb hW hown X u_Ben o0 rfl 3 (by decide) wf_Ben_54 (v := .ref (E.2.1 + 16)) rfl d_Ben_sign_188 ?_
      refine lv_aload_n hx hb d_Ben_sign_191 rfl (lv_at hl 0 rfl) ?_
      refine gm_get hx hb hW hown X u_Ben o0 rfl 9 (by decide) wf_Ben_80 (v := .ref (E.2.1 + 38)) rfl d_Ben_sign_192 ?_
      refine lv_aload_n hx hb d_Ben_sign_195 rfl (lv_at hl 0 rfl) ?_
      refine gm_get hx hb hW hown X u_Ben o0 rfl 9 (by decide) wf_Ben_80 (v := .ref (E.2.1 + 38)) rfl d_Ben_sign_196 ?_
      refine gm_Vv hx hb hml hown hW X o16 (k_invert l I2 hn (by decide) (by omega) (by decide) (show RV ψ (ρ9 38) 1 (ψ (NV (ρ (2 + b)))) by rw [u38_9]; exact RV.un _ _) (by decide)) (n := 2) ⟨⟨wl_Ben_201, wi_Mod_invert, wsel_Mod_invert, winit_Mod, wc_Mod_invert⟩, by decide +kernel, ⟨Nat.le_of_ble_eq_true rfl, Nat.le_of_ble_eq_true rfl⟩, _, rfl, rfl⟩ rfl hl.1 rfl (Nat.le_of_ble_eq_true rfl) d_Ben_sign_199 ⟨Nat.le_of_ble_eq_true rfl, Nat.le_of_ble_eq_true rfl⟩ (fun M1 H locs hp X => ?_)
      obtain ⟨ρ10, rfl, q10, kk10⟩ := hp
      have h37_10 : RV ψ (ρ10 37) 2 (((ψ (NV (ρ (2 + a)))) * (ψ (rp φ nP a0.1 : Nat))) + (ψ (NV (ρ (2 + d))))) := by rw [kk10 37 (by omega) (by omega)]; exact h37_9
      have s331_10 : ST φ nP (ρ10 (33 + 1)) a0.1 := by rw [kk10 (33 + 1) (by omega) (by omega)]; exact s331_9
      have s36_10 : ST ψ nN (ρ10 36) (ψ (rp φ nP a0.1 : Nat)) := by rw [kk10 36 (by omega) (by omega)]; exact s36_9
      have h38_10 : RV ψ (ρ10 38) 1 (fp_pw (ψ (NV (ρ (2 + b)))) (NV sN2)) := q10
      refine lv_aload_n hx hb d_Ben_sign_202 rfl (lv_at hl 0 rfl) ?_
      refine gm_get hx hb hW hown X u_Ben o0 rfl 3 (by decide) wf_Ben_54 (v := .ref (E.2.1 + 16)) rfl d_Ben_sign_203 ?_
      refine lv_aload_n hx hb d_Ben_sign_206 rfl (lv_at hl 0 rfl) ?_
      refine gm_get hx hb hW hown X u_Ben o0 rfl 8 (by decide) wf_Ben_77 (v := .ref (E.2.1 + 37)) rfl d_Ben_sign_207 ?_
      refine lv_aload_n hx hb d_Ben_sign_210 rfl (lv_at hl 0 rfl) ?_
      refine gm_get hx hb hW hown X u_Ben o0 rfl 8 (by decide) wf_Ben_77 (v := .ref (E.2.1 + 37)) rfl d_Ben_sign_211 ?_
      refine lv_aload_n hx hb d_Ben_sign_214 rfl (lv_at hl 0 rfl) ?_
      refine gm_get hx hb hW hown X u_Ben o0 rfl 9 (by decide) wf_Ben_80 (v := .ref (E.2.1 + 38)) rfl d_Ben_sign_215 ?_
      refine gm_Vv hx hb hml hown hW X o16 (k_mul l I2 hn (by decide) (by decide) (by decide) h37_10 h38_10 (by decide)) (n := 3) ⟨⟨wl_Ben_195, wi_Mod_multiply, wsel_Mod_multiply, winit_Mod, wc_Mod_multiply⟩, by decide +kernel, ⟨Nat.le_of_ble_eq_true rfl, Nat.le_of_ble_eq_true rfl⟩, _, rfl, rfl⟩ rfl hl.1 rfl (Nat.le_of_ble_eq_true rfl) d_Ben_sign_218 ⟨Nat.le_of_ble_eq_true rfl, Nat.le_of_ble_eq_true rfl⟩ (fun M1 H locs hp X => ?_)
      obtain ⟨ρ11, rfl, q11, kk11⟩ := hp
      have h38_11 : RV ψ (ρ11 38) 1 (fp_pw (ψ (NV (ρ (2 + b)))) (NV sN2)) := by rw [kk11 38 (by omega) (by omega)]; exact h38_10
      have s331_11 : ST φ nP (ρ11 (33 + 1)) a0.1 := by rw [kk11 (33 + 1) (by omega) (by omega)]; exact s331_10
      have s36_11 : ST ψ nN (ρ11 36) (ψ (rp φ nP a0.1 : Nat)) := by rw [kk11 36 (by omega) (by omega)]; exact s36_10
      have h37_11 : RV ψ (ρ11 37) 1 ((((ψ (NV (ρ (2 + a)))) * (ψ (rp φ nP a0.1 : Nat))) + (ψ (NV (ρ (2 + d))))) * (fp_pw (ψ (NV (ρ (2 + b)))) (NV sN2))) := q11
      refine lv_aload_n hx hb d_Ben_sign_221 rfl (lv_at hl 0 rfl) ?_
      refine gm_get hx hb hW hown X u_Ben o0 rfl 3 (by decide) wf_Ben_54 (v := .ref (E.2.1 + 16)) rfl d_Ben_sign_222 ?_
      refine lv_aload_n hx hb d_Ben_sign_225 rfl (lv_at hl 0 rfl) ?_
      refine gm_get hx hb hW hown X u_Ben o0 rfl 8 (by decide) wf_Ben_77 (v := .ref (E.2.1 + 37)) rfl d_Ben_sign_226 ?_
      refine gm_Vv hx hb hml hown hW X o16 (k_settle l I2 hn (by decide) (by omega) h37_11 (by decide)) (n := 1) ⟨⟨wl_Ben_137, wi_Mod_settle, wsel_Mod_settle, winit_Mod, wc_Mod_settle⟩, by decide +kernel, ⟨Nat.le_of_ble_eq_true rfl, Nat.le_of_ble_eq_true rfl⟩, _, rfl, rfl⟩ rfl hl.1 rfl (Nat.le_of_ble_eq_true rfl) d_Ben_sign_229 ⟨Nat.le_of_ble_eq_true rfl, Nat.le_of_ble_eq_true rfl⟩ (fun M1 H locs hp X => ?_)
      obtain ⟨ρ12, rfl, q12, kk12⟩ := hp
      have h38_12 : RV ψ (ρ12 38) 1 (fp_pw (ψ (NV (ρ (2 + b)))) (NV sN2)) := by rw [kk12 38 (by omega) (by omega)]; exact h38_11
      have s331_12 : ST φ nP (ρ12 (33 + 1)) a0.1 := by rw [kk12 (33 + 1) (by omega) (by omega)]; exact s331_11
      have s36_12 : ST ψ nN (ρ12 36) (ψ (rp φ nP a0.1 : Nat)) := by rw [kk12 36 (by omega) (by omega)]; exact s36_11
      have s37_12 : ST ψ nN (ρ12 37) ((((ψ (NV (ρ (2 + a)))) * (ψ (rp φ nP a0.1 : Nat))) + (ψ (NV (ρ (2 + d))))) * (fp_pw (ψ (NV (ρ (2 + b)))) (NV sN2))) := q12
      refine lv_aload_n hx hb d_Ben_sign_232 rfl (lv_at hl 0 rfl) ?_
      refine gm_get hx hb hW hown X u_Ben o0 rfl 0 (by decide) wf_Ben_11 (v := .ref (E.2.1 + 1)) rfl d_Ben_sign_233 ?_
      refine lv_iload_n hx hb d_Ben_sign_236 rfl (lv_at hl 1 rfl) ?_
      refine gm_aald2 hx hb X (k := t) (t := E.2.1 + (2 + t)) oA1 rfl rfl ⟨h_t, by decide⟩ (if_pos h_t) d_Ben_sign_237 ?_
      refine lv_aload_n hx hb d_Ben_sign_238 rfl (lv_at hl 0 rfl) ?_
      refine gm_get hx hb hW hown X u_Ben o0 rfl 7 (by decide) wf_Ben_74 (v := .ref (E.2.1 + 36)) rfl d_Ben_sign_239 ?_
      refine gm_Sv hx hb hml hown hW X (k_pack l (r4_n h_t) (by decide)) (n := 2) ⟨⟨wl_Ben_141, ws_Lim_pack, winit_Lim, wc_Lim_pack⟩, by decide +kernel, Nat.le_of_ble_eq_true rfl, Nat.le_of_ble_eq_true rfl⟩ rfl hl.1 rfl (Nat.le_of_ble_eq_true rfl) d_Ben_sign_242 ⟨Nat.le_of_ble_eq_true rfl, Nat.le_of_ble_eq_true rfl⟩ (fun M1 H locs hp X => ?_)
      obtain ⟨ρ13, rfl, q13, kk13⟩ := hp
      have h38_13 : RV ψ (ρ13 38) 1 (fp_pw (ψ (NV (ρ (2 + b)))) (NV sN2)) := by rw [kk13 38 (by omega)]; exact h38_12
      have s331_13 : ST φ nP (ρ13 (33 + 1)) a0.1 := by rw [kk13 (33 + 1) (by omega)]; exact s331_12
      have s36_13 : ST ψ nN (ρ13 36) (ψ (rp φ nP a0.1 : Nat)) := by rw [kk13 36 (by omega)]; exact s36_12
      have s37_13 : ST ψ nN (ρ13 37) ((((ψ (NV (ρ (2 + a)))) * (ψ (rp φ nP a0.1 : Nat))) + (ψ (NV (ρ (2 + d))))) * (fp_pw (ψ (NV (ρ (2 + b)))) (NV sN2))) := by rw [kk13 37 (by omega)]; exact s37_12
      refine lv_aload_n hx hb d_Ben_sign_245 rfl (lv_at hl 0 rfl) ?_
      refine gm_get hx hb hW hown X u_Ben o0 rfl 0 (by decide) wf_Ben_11 (v := .ref (E.2.1 + 1)) rfl d_Ben_sign_246 ?_
      refine lv_iload_n hx hb d_Ben_sign_249 rfl (lv_at hl 2 rfl) ?_
      refine gm_aald2 hx hb X (k := u) (t := E.2.1 + (2 + u)) oA1 rfl rfl ⟨h_u, by decide⟩ (if_pos h_u) d_Ben_sign_250 ?_
      refine lv_aload_n hx hb d_Ben_sign_251 rfl (lv_at hl 0 rfl) ?_
      refine gm_get hx hb hW hown X u_Ben o0 rfl 8 (by decide) wf_Ben_77 (v := .ref (E.2.1 + 37)) rfl d_Ben_sign_252 ?_
      refine gm_Sv hx hb hml hown hW X (k_pack l (r4_n h_u) (by decide)) (n := 2) ⟨⟨wl_Ben_141, ws_Lim_pack, winit_Lim, wc_Lim_pack⟩, by decide +kernel, Nat.le_of_ble_eq_true rfl, Nat.le_of_ble_eq_true rfl⟩ rfl hl.1 rfl (Nat.le_of_ble_eq_true rfl) d_Ben_sign_255 ⟨Nat.le_of_ble_eq_true rfl, Nat.le_of_ble_eq_true rfl⟩ (fun M1 H locs hp X => ?_)
      obtain ⟨ρ14, rfl, q14, kk14⟩ := hp
      have h38_14 : RV ψ (ρ14 38) 1 (fp_pw (ψ (NV (ρ (2 + b)))) (NV sN2)) := by rw [kk14 38 (by omega)]; exact h38_13
      have s331_14 : ST φ nP (ρ14 (33 + 1)) a0.1 := by rw [kk14 (33 + 1) (by omega)]; exact s331_13
      have s36_14 : ST ψ nN (ρ14 36) (ψ (rp φ nP a0.1 : Nat)) := by rw [kk14 36 (by omega)]; exact s36_13
      have s37_14 : ST ψ nN (ρ14 37) ((((ψ (NV (ρ (2 + a)))) * (ψ (rp φ nP a0.1 : Nat))) + (ψ (NV (ρ (2 + d))))) * (fp_pw (ψ (NV (ρ (2 + b)))) (NV sN2))) := by rw [kk14 37 (by omega)]; exact s37_13
      refine lv_iconst (v := 1) hx hb d_Ben_sign_258 (by decide) ?_
      exact kk _ H locs ls ρ14 fl2 _ d_Ben_sign_259 X (Or.inr ⟨rfl, ⟨hla, hlb⟩, a0, ha0, by rw [q14]; exact s37_13.pkr hn, fun hne => by rw [kk14 (2 + t) (by omega), q13]; exact s36_12.pkr hn, fun j hj h1 h2 => by rw [kk14 j (by omega), kk13 j (by omega), kk12 j (by omega) (by omega), kk11 j (by omega) (by omega), kk10 j (by omega) (by omega), kk9 j (by omega), kk8 j (by omega), kk7 j (by omega), kk6 j (by omega) (by omega), kk5 j (by omega), kk4 j (by omega) (by omega), kk3 j (by omega), kk2 j (by omega) (by omega) (by omega), kk1 j (by omega)], fun j hj => by rw [f2 j (by omega), f1 j (by omega)]⟩)
    · have hlt : ¬ ((NV (ρ (2 + b)) : Int) < nN ∧ ¬ NV (ρ (2 + b)) = 0) := by rcases h1b with h | h; exact absurd (h.1.symm.trans c46) (by decide); exact h.2
      refine lv_iconst (v := 0) hx hb d_Ben_sign_49 (by decide) ?_
      exact kk _ H locs ls ρ fl _ d_Ben_sign_50 X (Or.inl ⟨rfl, fun z => hlt z.2, kNu.rf _ _ _ _⟩)
set_option maxHeartbeats 4000000 in
theorem bd_Ben_verify {p : Program} {l : Launch} {e : Env} {s : State} {m : MethodId} {args : Array Value} {below : List Frame} {meth : Method} {c : Code} {Q : State → Prop} {F G : Type} [Lean.Grind.CommRing F] [Lean.Grind.CommRing G] {φ : Int → F} {inv : F → F} {ψ : Int → G} {E : gm_E} {ad : Nat → Nat} {N : gm_M} {ρ : Nat → Nat → Int64} {fl : Nat → Int32} (hx : p.tables.exec = Jvm.exec) (hb : c.code = b_Ben_verify) (hml : c.maxLocals = 5) (hown : s.vm.findClass R_Ben = some m.cls) (hW : ∀ w ∈ WB, w.before args s = true) (hg : gE E ad) (hk : fk φ inv) (hn : fm ψ nN) {t : Nat} (h_t : t < 4) {d : Nat} (h_d : d < 8) {a : Nat} (h_a : a < 8) {b : Nat} (h_b : b < 8) {g0 : F × F} {pp : Option (F × F)} (hG : ptR φ ρ fl 21 (some g0)) (hpp : ptR φ ρ fl (41 + 3 * t) pp) {H : Heap} {locs : List Loc} {ls : Array Slot} (X : gx E (cW E ad N ρ fl) s H locs) (hl : lv_has ls 5 [(0, .ref (E.2.1 + 0)), (1, .int (nI t)), (2, .int (nI d)), (3, .int (nI a)), (4, .int (nI b))])
    (kk : ∀ (z : Nat) (H : Heap) (locs : List Loc) (ls : Array Slot) ρ' fl' (r : Int32), decode b_Ben_verify z = .ok (.ireturn, 1) → gx E (cW E ad N ρ' fl') s H locs → (((r = 0 ∧ ¬ (¬ pp = none ∧ ((NV (ρ (2 + a)) : Int) < nN ∧ ¬ NV (ρ (2 + a)) = 0) ∧ ((NV (ρ (2 + b)) : Int) < nN ∧ ¬ NV (ρ (2 + b)) = 0) ∧ ∃ a0, (ec_add inv (ec_nm inv (rp ψ nN (ψ (NV (ρ (2 + d))) * (fp_pw (ψ (NV (ρ (2 + b)))) (NV sN2)))) (some g0)) (ec_nm inv (rp ψ nN (ψ (NV (ρ (2 + a))) * (fp_pw (ψ (NV (ρ (2 + b)))) (NV sN2)))) pp)) = some a0 ∧ ψ (rp φ nP a0.1 : Nat) = ψ (NV (ρ (2 + a))))) ∨ (r = 1 ∧ (¬ pp = none ∧ ((NV (ρ (2 + a)) : Int) < nN ∧ ¬ NV (ρ (2 + a)) = 0) ∧ ((NV (ρ (2 + b)) : Int) < nN ∧ ¬ NV (ρ (2 + b)) = 0) ∧ ∃ a0, (ec_add inv (ec_nm inv (rp ψ nN (ψ (NV (ρ (2 + d))) * (fp_pw (ψ (NV (ρ (2 + b)))) (NV sN2)))) (some g0)) (ec_nm inv (rp ψ nN (ψ (NV (ρ (2 + a))) * (fp_pw (ψ (NV (ρ (2 + b)))) (NV sN2)))) pp)) = some a0 ∧ ψ (rp φ nP a0.1 : Nat) = ψ (NV (ρ (2 + a)))))) ∧ kNu 0 0 ρ ρ' fl fl') → W p l e { frames := 7, cells := 4, slots := 24, locals := 152 } s m args below meth c H locs 4 24 Q (F0 m z ls [.int r])) :
    W p l e { frames := 7, cells := 4, slots := 24, locals := 152 } s m args below meth c H locs 4 24 Q (F0 m 17 ls []) := by
  have hf := hk.fm
  have I := isM_P hg
  have I2 := isM_N hg
  refine lv_aload_n hx hb d_Ben_verify_17 rfl (lv_at hl 0 rfl) ?_
  refine gm_get hx hb hW hown X u_Ben o0 rfl 1 (by decide) wf_Ben_16 (v := .ref (E.2.1 + 10)) rfl d_Ben_verify_18 ?_
  refine lv_iload_n hx hb d_Ben_verify_21 rfl (lv_at hl 1 rfl) ?_
  refine gm_aald hx hb X (k := t) (t := E.2.1 + (41 + 3 * t)) oA10 rfl rfl ⟨h_t, by decide⟩ (if_pos h_t) d_Ben_verify_22 ?_
  refine gm_get hx hb hW hown X u_Pnt (oP (isP_p h_t)) rfl 2 (by decide) wf_Ben_107 (v := .int (fl (41 + 3 * t))) rfl d_Ben_verify_23 ?_
  refine lv_if_ne (tgt := 56) hx hb d_Ben_verify_26 (by decide) (fun c26 => ?_) (fun c26 => ?_)
  · have hnn : pp = none := by
      cases pp with
      | none => rfl
      | some a1 => exact absurd hpp.1 c26
    refine lv_iconst (v := 0) hx hb d_Ben_verify_56 (by decide) ?_
    exact kk _ H locs ls ρ fl _ d_Ben_verify_57 X ⟨Or.inl ⟨rfl, fun z => z.1 hnn⟩, kNu.rf _ _ _ _⟩
  · have hnn : ¬ pp = none := by
      rintro rfl
      exact absurd ((show fl (41 + 3 * t) = 1 from hpp).symm.trans c26) (by decide)
    refine lv_aload_n hx hb d_Ben_verify_29 rfl (lv_at hl 0 rfl) ?_
    refine lv_aload_n hx hb d_Ben_verify_30 rfl (lv_at hl 0 rfl) ?_
    refine gm_get hx hb hW hown X u_Ben o0 rfl 0 (by decide) wf_Ben_11 (v := .ref (E.2.1 + 1)) rfl d_Ben_verify_31 ?_
    refine lv_iload_n hx hb d_Ben_verify_34 rfl (lv_at hl 3 rfl) ?_
    refine gm_aald2 hx hb X (k := a) (t := E.2.1 + (2 + a)) oA1 rfl rfl ⟨h_a, by decide⟩ (if_pos h_a) d_Ben_verify_35 ?_
    refine gm_Vi hx hb hml hown hW X o0 (k_Ben_isFromOneBelowN l E ad N ρ fl hg hk hn (Or.inr ⟨_, rfl, r4_n h_a, rfl⟩)) (n := 1) ⟨⟨wl_Ben_189, wi_Ben_isFromOneBelowN, wsel_Ben_isFromOneBelowN, winit_Ben, wc_Ben_isFromOneBelowN⟩, by decide +kernel, ⟨Nat.le_of_ble_eq_true rfl, Nat.le_of_ble_eq_true rfl⟩, _, rfl, rfl⟩ rfl hl.1 rfl (Nat.le_of_ble_eq_true rfl) d_Ben_verify_36 ⟨Nat.le_of_ble_eq_true rfl, Nat.le_of_ble_eq_true rfl⟩ (fun r1 M1 H locs hp X => ?_)
    rw [hp.1] at X
    have h1a := hp.2
    refine lv_if_eq (tgt := 56) hx hb d_Ben_verify_39 (by decide) (fun c39 => ?_) (fun c39 => ?_)
    · have hlt : ¬ ((NV (ρ (2 + a)) : Int) < nN ∧ ¬ NV (ρ (2 + a)) = 0) := by rcases h1a with h | h; exact absurd (h.1.symm.trans c39) (by decide); exact h.2
      refine lv_iconst (v := 0) hx hb d_Ben_verify_56 (by decide) ?_
      exact kk _ H locs ls ρ fl _ d_Ben_verify_57 X ⟨Or.inl ⟨rfl, fun z => hlt z.2.1⟩, kNu.rf _ _ _ _⟩
    · have hla : ((NV (ρ (2 + a)) : Int) < nN ∧ ¬ NV (ρ (2 + a)) = 0) := by rcases h1a with h | h; exact h.2; exact absurd h.1 c39
      refine lv_aload_n hx hb d_Ben_verify_42 rfl (lv_at hl 0 rfl) ?_
      refine lv_aload_n hx hb d_Ben_verify_43 rfl (lv_at hl 0 rfl) ?_
      refine gm_get hx hb hW hown X u_Ben o0 rfl 0 (by decide) wf_Ben_11 (v := .ref (E.2.1 + 1)) rfl d_Ben_verify_44 ?_
      refine lv_iload hx hb d_Ben_verify_47 (lv_at hl 4 rfl) ?_
      refine gm_aald2 hx hb X (k := b) (t := E.2.1 + (2 + b)) oA1 rfl rfl ⟨h_b, by decide⟩ (if_pos h_b) d_Ben_verify_49 ?_
      refine gm_Vi hx hb hml hown hW X o0 (k_Ben_isFromOneBelowN l E ad N ρ fl hg hk hn (Or.inr ⟨_, rfl, r4_n h_b, rfl⟩)) (n := 1) ⟨⟨wl_Ben_189, wi_Ben_isFromOneBelowN, wsel_Ben_isFromOneBelowN, winit_Ben, wc_Ben_isFromOneBelowN⟩, by decide +kernel, ⟨Nat.le_of_ble_eq_true rfl, Nat.le_of_ble_eq_true rfl⟩, _, rfl, rfl⟩ rfl hl.1 rfl (Nat.le_of_ble_eq_true rfl) d_Ben_verify_50 ⟨Nat.le_of_ble_eq_true rfl, Nat.le_of_ble_eq_true rfl⟩ (fun r1 M1 H locs hp X => ?_)
      rw [hp.1] at X
      have h1b := hp.2
      refine lv_if_ne (tgt := 58) hx hb d_Ben_verify_53 (by decide) (fun c53 => ?_) (fun c53 => ?_)
      · have hlb : ((NV (ρ (2 + b)) : Int) < nN ∧ ¬ NV (ρ (2 + b)) = 0) := by rcases h1b with h | h; exact h.2; exact absurd h.1 c53
        refine lv_aload_n hx hb d_Ben_verify_58 rfl (lv_at hl 0 rfl) ?_
        refine gm_get hx hb hW hown X u_Ben o0 rfl 9 (by decide) wf_Ben_80 (v := .ref (E.2.1 + 38)) rfl d_Ben_verify_59 ?_
        refine lv_aload_n hx hb d_Ben_verify_62 rfl (lv_at hl 0 rfl) ?_
        refine gm_get hx hb hW hown X u_Ben o0 rfl 0 (by decide) wf_Ben_11 (v := .ref (E.2.1 + 1)) rfl d_Ben_verify_63 ?_
        refine lv_iload hx hb d_Ben_verify_66 (lv_at hl 4 rfl) ?_
        refine gm_aald2 hx hb X (k := b) (t := E.2.1 + (2 + b)) oA1 rfl rfl ⟨h_b, by decide⟩ (if_pos h_b) d_Ben_verify_68 ?_
        have e69 := (rfl : ρ (2 + b) = ρ (2 + b))
        refine gm_Sv hx hb hml hown hW X (k_unpack l (by decide) (Or.inl (cw_row (r4_n h_b)))) (n := 2) ⟨⟨wl_Ben_95, ws_Lim_unpack, winit_Lim, wc_Lim_unpack⟩, by decide +kernel, Nat.le_of_ble_eq_true rfl, Nat.le_of_ble_eq_true rfl⟩ rfl hl.1 rfl (Nat.le_of_ble_eq_true rfl) d_Ben_verify_69 ⟨Nat.le_of_ble_eq_true rfl, Nat.le_of_ble_eq_true rfl⟩ (fun M1 H locs hp X => ?_)
        obtain ⟨ρ1, rfl, q1, kk1⟩ := hp
        have u38_1 : ρ1 38 = unF (ρ (2 + b)) := by rw [q1, e69]
        refine lv_aload_n hx hb d_Ben_verify_72 rfl (lv_at hl 0 rfl) ?_
        refine gm_get hx hb hW hown X u_Ben o0 rfl 3 (by decide) wf_Ben_54 (v := .ref (E.2.1 + 16)) rfl d_Ben_verify_73 ?_
        refine lv_aload_n hx hb d_Ben_verify_76 rfl (lv_at hl 0 rfl) ?_
        refine gm_get hx hb hW hown X u_Ben o0 rfl 9 (by decide) wf_Ben_80 (v := .ref (E.2.1 + 38)) rfl d_Ben_verify_77 ?_
        refine lv_aload_n hx hb d_Ben_verify_80 rfl (lv_at hl 0 rfl) ?_
        refine gm_get hx hb hW hown X u_Ben o0 rfl 9 (by decide) wf_Ben_80 (v := .ref (E.2.1 + 38)) rfl d_Ben_verify_81 ?_
        refine gm_Vv hx hb hml hown hW X o16 (k_invert l I2 hn (by decide) (by omega) (by decide) (show RV ψ (ρ1 38) 1 (ψ (NV (ρ (2 + b)))) by rw [u38_1]; exact RV.un _ _) (by decide)) (n := 2) ⟨⟨wl_Ben_201, wi_Mod_invert, wsel_Mod_invert, winit_Mod, wc_Mod_invert⟩, by decide +kernel, ⟨Nat.le_of_ble_eq_true rfl, Nat.le_of_ble_eq_true rfl⟩, _, rfl, rfl⟩ rfl hl.1 rfl (Nat.le_of_ble_eq_true rfl) d_Ben_verify_84 ⟨Nat.le_of_ble_eq_true rfl, Nat.le_of_ble_eq_true rfl⟩ (fun M1 H locs hp X => ?_)
        obtain ⟨ρ2, rfl, q2, kk2⟩ := hp
        have h38_2 : RV ψ (ρ2 38) 1 (fp_pw (ψ (NV (ρ (2 + b)))) (NV sN2)) := q2
        refine lv_aload_n hx hb d_Ben_verify_87 rfl (lv_at hl 0 rfl) ?_
        refine lv_aload_n hx hb d_Ben_verify_88 rfl (lv_at hl 0 rfl) ?_
        refine gm_get hx hb hW hown X u_Ben o0 rfl 10 (by decide) wf_Ben_83 (v := .ref (E.2.1 + 39)) rfl d_Ben_verify_89 ?_
        refine lv_aload_n hx hb d_Ben_verify_92 rfl (lv_at hl 0 rfl) ?_
        refine gm_get hx hb hW hown X u_Ben o0 rfl 0 (by decide) wf_Ben_11 (v := .ref (E.2.1 + 1)) rfl d_Ben_verify_93 ?_
        refine lv_iload_n hx hb d_Ben_verify_96 rfl (lv_at hl 2 rfl) ?_
        refine gm_aald2 hx hb X (k := d) (t := E.2.1 + (2 + d)) oA1 rfl rfl ⟨h_d, by decide⟩ (if_pos h_d) d_Ben_verify_97 ?_
        refine lv_aload_n hx hb d_Ben_verify_98 rfl (lv_at hl 0 rfl) ?_
        refine gm_get hx hb hW hown X u_Ben o0 rfl 9 (by decide) wf_Ben_80 (v := .ref (E.2.1 + 38)) rfl d_Ben_verify_99 ?_
        refine gm_Vv hx hb hml hown hW X o0 (k_Ben_productModuloN l E ad N ρ2 fl hg hk hn (by decide) (Or.inr ⟨_, rfl, r4_n h_d, (show ρ2 (2 + d) = ρ (2 + d) by rw [kk2 (2 + d) (by omega) (by omega), kk1 (2 + d) (by omega)])⟩) h38_2) (n := 3) ⟨⟨wl_Ben_204, wi_Ben_productModuloN, wsel_Ben_productModuloN, winit_Ben, wc_Ben_productModuloN⟩, by decide +kernel, ⟨Nat.le_of_ble_eq_true rfl, Nat.le_of_ble_eq_true rfl⟩, _, rfl, rfl⟩ rfl hl.1 rfl (Nat.le_of_ble_eq_true rfl) d_Ben_verify_102 ⟨Nat.le_of_ble_eq_true rfl, Nat.le_of_ble_eq_true rfl⟩ (fun M1 H locs hp X => ?_)
        obtain ⟨ρ3, rfl, q3, kk3⟩ := hp
        have h38_3 : RV ψ (ρ3 38) 1 (fp_pw (ψ (NV (ρ (2 + b)))) (NV sN2)) := by rw [kk3 38 (by omega) (by omega) (by omega)]; exact h38_2
        refine lv_aload_n hx hb d_Ben_verify_105 rfl (lv_at hl 0 rfl) ?_
        refine lv_aload_n hx hb d_Ben_verify_106 rfl (lv_at hl 0 rfl) ?_
        refine gm_get hx hb hW hown X u_Ben o0 rfl 11 (by decide) wf_Ben_86 (v := .ref (E.2.1 + 40)) rfl d_Ben_verify_107 ?_
        refine lv_aload_n hx hb d_Ben_verify_110 rfl (lv_at hl 0 rfl) ?_
        refine gm_get hx hb hW hown X u_Ben o0 rfl 0 (by decide) wf_Ben_11 (v := .ref (E.2.1 + 1)) rfl d_Ben_verify_111 ?_
        refine lv_iload_n hx hb d_Ben_verify_114 rfl (lv_at hl 3 rfl) ?_
        refine gm_aald2 hx hb X (k := a) (t := E.2.1 + (2 + a)) oA1 rfl rfl ⟨h_a, by decide⟩ (if_pos h_a) d_Ben_verify_115 ?_
        refine lv_aload_n hx hb d_Ben_verify_116 rfl (lv_at hl 0 rfl) ?_
        refine gm_get hx hb hW hown X u_Ben o0 rfl 9 (by decide) wf_Ben_80 (v := .ref (E.2.1 + 38)) rfl d_Ben_verify_117 ?_
        refine gm_Vv hx hb hml hown hW X o0 (k_Ben_productModuloN l E ad N ρ3 fl hg hk hn (by decide) (Or.inr ⟨_, rfl, r4_n h_a, (show ρ3 (2 + a) = ρ (2 + a) by rw [kk3 (2 + a) (by omega) (by omega) (by omega), kk2 (2 + a) (by omega) (by omega), kk1 (2 + a) (by omega)])⟩) h38_3) (n := 3) ⟨⟨wl_Ben_204, wi_Ben_productModuloN, wsel_Ben_productModuloN, winit_Ben, wc_Ben_productModuloN⟩, by decide +kernel, ⟨Nat.le_of_ble_eq_true rfl, Nat.le_of_ble_eq_true rfl⟩, _, rfl, rfl⟩ rfl hl.1 rfl (Nat.le_of_ble_eq_true rfl) d_Ben_verify_120 ⟨Nat.le_of_ble_eq_true rfl, Nat.le_of_ble_eq_true rfl⟩ (fun M1 H locs hp X => ?_)
        obtain ⟨ρ4, rfl, q4, kk4⟩ := hp
        have h38_4 : RV ψ (ρ4 38) 1 (fp_pw (ψ (NV (ρ (2 + b)))) (NV sN2)) := by rw [kk4 38 (by omega) (by omega) (by omega)]; exact h38_3
        have e39 : NV (ρ4 39) = rp ψ nN (ψ (NV (ρ (2 + d))) * (fp_pw (ψ (NV (ρ (2 + b)))) (NV sN2))) := by rw [kk4 39 (by omega) (by omega) (by omega)]; exact q3
        have kG : ptR φ ρ4 fl 21 (some g0) := hG.kept (show ρ4 (21 + 1) = ρ (21 + 1) by rw [kk4 (21 + 1) (by omega) (by omega) (by omega), kk3 (21 + 1) (by omega) (by omega) (by omega), kk2 (21 + 1) (by omega) (by omega), kk1 (21 + 1) (by omega)]) (show ρ4 (21 + 2) = ρ (21 + 2) by rw [kk4 (21 + 2) (by omega) (by omega) (by omega), kk3 (21 + 2) (by omega) (by omega) (by omega), kk2 (21 + 2) (by omega) (by omega), kk1 (21 + 2) (by omega)]) rfl
        have kP : ptR φ ρ4 fl (41 + 3 * t) pp := hpp.kept (show ρ4 (41 + 3 * t + 1) = ρ (41 + 3 * t + 1) by rw [kk4 (41 + 3 * t + 1) (by omega) (by omega) (by omega), kk3 (41 + 3 * t + 1) (by omega) (by omega) (by omega), kk2 (41 + 3 * t + 1) (by omega) (by omega), kk1 (41 + 3 * t + 1) (by omega)]) (show ρ4 (41 + 3 * t + 2) = ρ (41 + 3 * t + 2) by rw [kk4 (41 + 3 * t + 2) (by omega) (by omega) (by omega), kk3 (41 + 3 * t + 2) (by omega) (by omega) (by omega), kk2 (41 + 3 * t + 2) (by omega) (by omega), kk1 (41 + 3 * t + 2) (by omega)]) rfl
        refine lv_aload_n hx hb d_Ben_verify_123 rfl (lv_at hl 0 rfl) ?_
        refine gm_get hx hb hW hown X u_Ben o0 rfl 5 (by decide) wf_Ben_67 (v := .ref (E.2.1 + 24)) rfl d_Ben_verify_124 ?_
        refine lv_aload_n hx hb d_Ben_verify_127 rfl (lv_at hl 0 rfl) ?_
        refine gm_get hx hb hW hown X u_Ben o0 rfl 10 (by decide) wf_Ben_83 (v := .ref (E.2.1 + 39)) rfl d_Ben_verify_128 ?_
        refine lv_aload_n hx hb d_Ben_verify_131 rfl (lv_at hl 0 rfl) ?_
        refine gm_get hx hb hW hown X u_Ben o0 rfl 4 (by decide) wf_Ben_58 (v := .ref (E.2.1 + 21)) rfl d_Ben_verify_132 ?_
        refine lv_aload_n hx hb d_Ben_verify_135 rfl (lv_at hl 0 rfl) ?_
        refine gm_get hx hb hW hown X u_Ben o0 rfl 11 (by decide) wf_Ben_86 (v := .ref (E.2.1 + 40)) rfl d_Ben_verify_136 ?_
        refine lv_aload_n hx hb d_Ben_verify_139 rfl (lv_at hl 0 rfl) ?_
        refine gm_get hx hb hW hown X u_Ben o0 rfl 1 (by decide) wf_Ben_16 (v := .ref (E.2.1 + 10)) rfl d_Ben_verify_140 ?_
        refine lv_iload_n hx hb d_Ben_verify_143 rfl (lv_at hl 1 rfl) ?_
        refine gm_aald hx hb X (k := t) (t := E.2.1 + (41 + 3 * t)) oA10 rfl rfl ⟨h_t, by decide⟩ (if_pos h_t) d_Ben_verify_144 ?_
        refine gm_Vv hx hb hml hown hW X o24 (k_Sum_gather l E ad N _ fl hg hk isP_21 (isP_p h_t) kG kP (Or.inr ⟨39, rfl, by decide, rfl⟩) (Or.inr ⟨40, rfl, by decide, rfl⟩)) (n := 4) ⟨⟨wl_Ben_181, wi_Sum_gather, wsel_Sum_gather, winit_Sum, wc_Sum_gather⟩, by decide +kernel, ⟨Nat.le_of_ble_eq_true rfl, Nat.le_of_ble_eq_true rfl⟩, _, rfl, rfl⟩ rfl hl.1 rfl (Nat.le_of_ble_eq_true rfl) d_Ben_verify_145 ⟨Nat.le_of_ble_eq_true rfl, Nat.le_of_ble_eq_true rfl⟩ (fun M1 H locs hp X => ?_)
        obtain ⟨ρ5, fl1, rfl, s1, kk5, f1⟩ := hp
        rw [e39, q4] at s1
        refine lv_aload_n hx hb d_Ben_verify_148 rfl (lv_at hl 0 rfl) ?_
        refine gm_get hx hb hW hown X u_Ben o0 rfl 5 (by decide) wf_Ben_67 (v := .ref (E.2.1 + 24)) rfl d_Ben_verify_149 ?_
        refine lv_aload_n hx hb d_Ben_verify_152 rfl (lv_at hl 0 rfl) ?_
        refine gm_get hx hb hW hown X u_Ben o0 rfl 6 (by decide) wf_Ben_71 (v := .ref (E.2.1 + 33)) rfl d_Ben_verify_153 ?_
        refine gm_Vv hx hb hml hown hW X o24 (k_Sum_writeTo l E ad N _ _ hg hk isP_33 s1) (n := 1) ⟨⟨wl_Ben_175, wi_Sum_writeTo, wsel_Sum_writeTo, winit_Sum, wc_Sum_writeTo⟩, by decide +kernel, ⟨Nat.le_of_ble_eq_true rfl, Nat.le_of_ble_eq_true rfl⟩, _, rfl, rfl⟩ rfl hl.1 rfl (Nat.le_of_ble_eq_true rfl) d_Ben_verify_156 ⟨Nat.le_of_ble_eq_true rfl, Nat.le_of_ble_eq_true rfl⟩ (fun M1 H locs hp X => ?_)
        obtain ⟨ρ6, fl2, rfl, q6, kk6, f2⟩ := hp
        have kfl : ∀ j, (41 ≤ j ∨ j = 21) → fl2 j = fl j := fun j hj => by rw [f2 j (by omega), f1 j (by omega)]
        generalize hPP : (ec_add inv (ec_nm inv (rp ψ nN (ψ (NV (ρ (2 + d))) * (fp_pw (ψ (NV (ρ (2 + b)))) (NV sN2)))) (some g0)) (ec_nm inv (rp ψ nN (ψ (NV (ρ (2 + a))) * (fp_pw (ψ (NV (ρ (2 + b)))) (NV sN2)))) pp)) = PP at q6
        refine lv_aload_n hx hb d_Ben_verify_159 rfl (lv_at hl 0 rfl) ?_
        refine gm_get hx hb hW hown X u_Ben o0 rfl 6 (by decide) wf_Ben_71 (v := .ref (E.2.1 + 33)) rfl d_Ben_verify_160 ?_
        refine gm_get hx hb hW hown X u_Pnt (oP isP_33) rfl 2 (by decide) wf_Ben_107 (v := .int (fl2 33)) rfl d_Ben_verify_163 ?_
        cases PP with
        | none =>
          have h0 : fl2 33 = 1 := q6
          refine lv_if_eq (tgt := 171) hx hb d_Ben_verify_166 (by decide) (fun c9 => absurd (h0.symm.trans c9) (by decide)) (fun _ => ?_)
          refine lv_iconst (v := 0) hx hb d_Ben_verify_169 (by decide) ?_
          exact kk _ H locs ls ρ6 fl2 _ d_Ben_verify_170 X ⟨Or.inl ⟨rfl, fun z => by obtain ⟨-, -, -, a1, e1, -⟩ := z; rw [hPP] at e1; cases e1⟩, fun j hj h1 h2 => by rw [kk6 j (by omega) (by omega) (by omega), kk5 j (by omega), kk4 j (by omega) (by omega) (by omega), kk3 j (by omega) (by omega) (by omega), kk2 j (by omega) (by omega), kk1 j (by omega)], kfl⟩
        | some a0 =>
          have h0 : fl2 33 = 0 := q6.1
          refine lv_if_eq (tgt := 171) hx hb d_Ben_verify_166 (by decide) (fun _ => ?_) (fun c9 => absurd h0 c9)
          have sx : ST φ nP (ρ6 (33 + 1)) a0.1 := q6.2.2.1
          refine lv_aload_n hx hb d_Ben_verify_171 rfl (lv_at hl 0 rfl) ?_
          refine gm_get hx hb hW hown X u_Ben o0 rfl 7 (by decide) wf_Ben_74 (v := .ref (E.2.1 + 36)) rfl d_Ben_verify_172 ?_
          refine lv_aload_n hx hb d_Ben_verify_175 rfl (lv_at hl 0 rfl) ?_
          refine gm_get hx hb hW hown X u_Ben o0 rfl 0 (by decide) wf_Ben_11 (v := .ref (E.2.1 + 1)) rfl d_Ben_verify_176 ?_
          refine lv_iload_n hx hb d_Ben_verify_179 rfl (lv_at hl 3 rfl) ?_
          refine gm_aald2 hx hb X (k := a) (t := E.2.1 + (2 + a)) oA1 rfl rfl ⟨h_a, by decide⟩ (if_pos h_a) d_Ben_verify_180 ?_
          have e181 := (show ρ6 (2 + a) = ρ (2 + a) by rw [kk6 (2 + a) (by omega) (by omega) (by omega), kk5 (2 + a) (by omega), kk4 (2 + a) (by omega) (by omega) (by omega), kk3 (2 + a) (by omega) (by omega) (by omega), kk2 (2 + a) (by omega) (by omega), kk1 (2 + a) (by omega)])
          refine gm_Sv hx hb hml hown hW X (k_unpack l (by decide) (Or.inl (cw_row (r4_n h_a)))) (n := 2) ⟨⟨wl_Ben_95, ws_Lim_unpack, winit_Lim, wc_Lim_unpack⟩, by decide +kernel, Nat.le_of_ble_eq_true rfl, Nat.le_of_ble_eq_true rfl⟩ rfl hl.1 rfl (Nat.le_of_ble_eq_true rfl) d_Ben_verify_181 ⟨Nat.le_of_ble_eq_true rfl, Nat.le_of_ble_eq_true rfl⟩ (fun M1 H locs hp X => ?_)
          obtain ⟨ρ7, rfl, q7, kk7⟩ := hp
          have s331_7 : ST φ nP (ρ7 (33 + 1)) a0.1 := by rw [kk7 (33 + 1) (by omega)]; exact sx
          have u36_7 : ρ7 36 = unF (ρ (2 + a)) := by rw [q7, e181]
          refine lv_aload_n hx hb d_Ben_verify_184 rfl (lv_at hl 0 rfl) ?_
          refine gm_get hx hb hW hown X u_Ben o0 rfl 3 (by decide) wf_Ben_54 (v := .ref (E.2.1 + 16)) rfl d_Ben_verify_185 ?_
          refine lv_aload_n hx hb d_Ben_verify_188 rfl (lv_at hl 0 rfl) ?_
          refine gm_get hx hb hW hown X u_Ben o0 rfl 6 (by decide) wf_Ben_71 (v := .ref (E.2.1 + 33)) rfl d_Ben_verify_189 ?_
          refine gm_get hx hb hW hown X u_Pnt (oP isP_33) rfl 0 (by decide) wf_Ben_89 (v := .ref (E.2.1 + (33 + 1))) rfl d_Ben_verify_192 ?_
          refine lv_aload_n hx hb d_Ben_verify_195 rfl (lv_at hl 0 rfl) ?_
          refine gm_get hx hb hW hown X u_Ben o0 rfl 7 (by decide) wf_Ben_74 (v := .ref (E.2.1 + 36)) rfl d_Ben_verify_196 ?_
          refine gm_Vi hx hb hml hown hW X o16 (k_areCongruent l I2 hn (isP.x isP_33) (by decide) (ST.two (ψ := ψ) hf s331_7) (show RV ψ (ρ7 36) 1 (ψ (NV (ρ (2 + a)))) by rw [u36_7]; exact RV.un _ _) (by decide)) (n := 2) ⟨⟨wl_Ben_207, wi_Mod_areCongruent, wsel_Mod_areCongruent, winit_Mod, wc_Mod_areCongruent⟩, by decide +kernel, ⟨Nat.le_of_ble_eq_true rfl, Nat.le_of_ble_eq_true rfl⟩, _, rfl, rfl⟩ rfl hl.1 rfl (Nat.le_of_ble_eq_true rfl) d_Ben_verify_199 ⟨Nat.le_of_ble_eq_true rfl, Nat.le_of_ble_eq_true rfl⟩ (fun r1 M1 H locs hp X => ?_)
          obtain ⟨ρ8, rfl, q8, kk8⟩ := hp
          have s331_8 : ST φ nP (ρ8 (33 + 1)) a0.1 := by rw [kk8 (33 + 1) (by omega) (by omega)]; exact s331_7
          have u36_8 : ρ8 36 = unF (ρ (2 + a)) := by rw [kk8 36 (by omega) (by omega)]; exact u36_7
          refine kk _ H locs ls ρ8 fl2 r1 d_Ben_verify_202 X ⟨?_, fun j hj h1 h2 => by rw [kk8 j (by omega) (by omega), kk7 j (by omega), kk6 j (by omega) (by omega) (by omega), kk5 j (by omega), kk4 j (by omega) (by omega) (by omega), kk3 j (by omega) (by omega) (by omega), kk2 j (by omega) (by omega), kk1 j (by omega)], kfl⟩
          rcases q8 with h | h
          · exact Or.inr ⟨h.1, hnn, hla, hlb, a0, hPP, h.2⟩
          · refine Or.inl ⟨h.1, fun z => ?_⟩
            obtain ⟨-, -, -, a1, e1, e2⟩ := z
            rw [hPP] at e1
            cases e1
            exact h.2 e2
      · have hlt : ¬ ((NV (ρ (2 + b)) : Int) < nN ∧ ¬ NV (ρ (2 + b)) = 0) := by rcases h1b with h | h; exact absurd (h.1.symm.trans c53) (by decide); exact h.2
        refine lv_iconst (v := 0) hx hb d_Ben_verify_56 (by decide) ?_
        exact kk _ H locs ls ρ fl _ d_Ben_verify_57 X ⟨Or.inl ⟨rfl, fun z => hlt z.2.2.1⟩, kNu.rf _ _ _ _⟩
