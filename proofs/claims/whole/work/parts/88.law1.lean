/-! THE LAW'S HELPERS, that turn a call into an answer or a code: written by wip/gen/law1.py -/
theorem wh_Law_set : Cond.codeWith y_Law_set b_Law_set 6 (some .int) [(0, 7, 10, 13)] ∈ WB := wb_i ve_10 4 rfl rfl
theorem wh_Law_get : Cond.codeWith y_Law_get b_Law_get 5 (some .int) [(0, 9, 12, 13)] ∈ WB := wb_i ve_14 5 rfl rfl
theorem wh_Law_compare : Cond.codeWith y_Law_compare b_Law_compare 5 (some .int) [(0, 10, 13, 13)] ∈ WB := wb_i ve_14 12 rfl rfl
theorem wh_Law_work : Cond.codeWith y_Law_work b_Law_work 7 (some .int) [(0, 21, 24, 13)] ∈ WB := wb_i ve_15 3 rfl rfl
theorem wh_Law_base : Cond.codeWith y_Law_base b_Law_base 3 (some .int) [(0, 5, 8, 13)] ∈ WB := wb_i ve_19 1 rfl rfl
theorem wh_Law_none : Cond.codeWith y_Law_none b_Law_none 3 (some .int) [(0, 5, 8, 13)] ∈ WB := wb_i ve_19 17 rfl rfl
theorem wh_Law_lay : Cond.codeWith y_Law_lay b_Law_lay 6 (some .int) [(0, 19, 22, 13)] ∈ WB := wb_i ve_20 4 rfl rfl
theorem wh_Law_lift : Cond.codeWith y_Law_lift b_Law_lift 6 (some .int) [(0, 19, 22, 13)] ∈ WB := wb_i ve_21 9 rfl rfl
theorem wh_Law_show : Cond.codeWith y_Law_show b_Law_show 6 (some .int) [(0, 19, 22, 13)] ∈ WB := wb_i ve_22 4 rfl rfl
theorem wh_Law_add : Cond.codeWith y_Law_add b_Law_add 5 (some .int) [(0, 7, 10, 13)] ∈ WB := wb_i ve_22 11 rfl rfl
theorem wh_Law_times : Cond.codeWith y_Law_times b_Law_times 5 (some .int) [(0, 7, 10, 13)] ∈ WB := wb_i ve_25 0 rfl rfl
theorem wh_Law_same : Cond.codeWith y_Law_same b_Law_same 5 (some .int) [(0, 17, 20, 13)] ∈ WB := wb_i ve_25 14 rfl rfl
theorem wh_Law_sign : Cond.codeWith y_Law_sign b_Law_sign 8 (some .int) [(0, 23, 26, 13)] ∈ WB := wb_i ve_26 8 rfl rfl
theorem wh_Law_verify : Cond.codeWith y_Law_verify b_Law_verify 7 (some .int) [(0, 21, 24, 13)] ∈ WB := wb_i ve_27 0 rfl rfl
theorem cw_out {E : gm_E} {ad : Nat → Nat} {N : gm_M} {ρ : Nat → Nat → Int64} {fl : Nat → Int32} {e : va_E} : gm_up (cW E ad N ρ fl) (E.2.1 + 133) e = cW E ad (gm_up N (E.2.1 + 133) e) ρ fl := by
  funext x
  simp only [gm_up, cW]
  by_cases hx : x = E.2.1 + 133
  · rw [if_pos hx, if_neg (by omega), if_pos hx]
  · rw [if_neg hx, if_neg hx]
theorem cw_133 {E : gm_E} {ad : Nat → Nat} {N : gm_M} {ρ : Nat → Nat → Int64} {fl : Nat → Int32} {e : va_E} (h : N (E.2.1 + 133) = some e) : cW E ad N ρ fl (E.2.1 + 133) = some e := by
  rw [cW, if_neg (by omega), h]
section LAWH
variable {p : Program} {l : Launch} {e : Env} {R : Room} {s : State} {m : MethodId} {args : Array Value} {below : List Frame} {meth : Method} {c : Code} {H : Heap} {locs : List Loc} {cells slots : Nat} {Q : State → Prop}
variable {cc bytes : ByteArray} {pc nL maxL index : Nat} {ls : Array Slot} {rest st0 As : List Value} {E : gm_E} {M : gm_M} {own : String} {y : MethodName} {ret : Option FieldType} {rm : Room}
theorem gm_Vl {ci a : Nat} {fs : List Value} (hx : p.tables.exec = Jvm.exec) (hb : c.code = cc) (hml : c.maxLocals = nL) (hown : s.vm.findClass own = some m.cls) (hW : ∀ w ∈ WB, w.before args s = true) (X : gx E M s H locs) (hO : M a = some (OB ci fs)) {post : Int64 → gm_M → Prop} (hM : cl_ l y bytes maxL ret rm E M (.ref a :: As) post) {n : Nat} (ok : okV R own index y bytes maxL ret rm n ci) (hn : As.length = n) (hl : ls.size = nL) (hst : st0 = As.reverse ++ .ref a :: rest) (hrm : (rest.map fun v => v.category).sum ≤ 8) (hdg : decode cc pc = .ok (.invokevirtual index, 3)) (hf : cells + rm.cells ≤ R.cells ∧ slots + rm.slots ≤ R.slots)
    (kk : ∀ (r : Int64) (M' : gm_M) (H1 : Heap) (locs1 : List Loc), post r M' → gx E M' s H1 locs1 → W p l e R s m args below meth c H1 locs1 (cells + rm.cells) (slots + rm.slots) Q (F0 m (pc + 3) ls (.long r :: rest))) : W p l e R s m args below meth c H locs cells slots Q (F0 m pc ls st0) :=
  va_calll (va_runV ⟨hx, hb, hml, hown, hW⟩ hM (ok.cw hW) ⟨gw_blind E M _, gm_recv X hO ok, fun U hU hw => ⟨rfl, X.gw hU hw⟩⟩ rfl hn hl hst (lv_room hrm) hdg hf) X.2.2.1 (fun _ _ h => h) (fun _ h => h) (fun r u t H1 locs1 ht hvm hp hB _ _ hS => kk r u H1 locs1 hp ⟨X.1, by rw [← ht]; exact hB, hS, X.2.2.2⟩)
theorem gm_catch {hp : Nat} {en : ExceptionTableEntry} {q : Addr} {ce : Cell} (hown : s.vm.findClass R_Law = some m.cls) (hW : ∀ w ∈ WB, w.before args s = true) (X : gx E M s H locs) (htab : c.exceptionTable.toList = [en]) (hcov : covers en pc = true) (hct : en.catchType = 13) (hhp : en.handlerPc = hp) (e1 : H[q]? = some ce) (e2 : ce.vm = .none) (e3 : s.vm.findClass xE = some ce.cls) (kk : W p l e R s m args below meth c H locs cells slots Q (F0 m hp ls [.ref q])) : vx_W p l e R s m args below meth c H locs cells slots Q (F0 m pc ls rest) q := by
  subst hhp
  exact vx_catch (E := xE) (name := xE) hown [] en [] htab (fun z hz => nomatch hz) hcov (by rw [hct]; decide) (by rw [hct]; exact hW _ wcl_Law_13) (va_Nw.use rfl (X.1.2.2.2.1 _ wcast_xE)) e1 e2 e3 kk
end LAWH
set_option maxHeartbeats 4000000 in
theorem h_Law_set {F G : Type} [Lean.Grind.CommRing F] [Lean.Grind.CommRing G] {φ : Int → F} {inv : F → F} {ψ : Int → G} (l : Launch) (E : gm_E) (ad : Nat → Nat) (N : gm_M) (ρ : Nat → Nat → Int64) (fl : Nat → Int32) (hg : gE E ad) (hk : fk φ inv) (hn : fm ψ nN) {r : Nat} (h_r : r < 8) {q : Nat} (h_q : q < 4) {v : Int64} : ch_ l y_Law_set b_Law_set 6 [(0, 7, 10, 13)] { frames := 8, cells := 2, slots := 12, locals := 144 } E (cW E ad N ρ fl) [.ref (E.2.1 + 0), .int (nI r), .int (nI q), .long v] (fun k M' => k = 0 ∧ ∃ ρ' fl', M' = cW E ad N ρ' fl' ∧ (ρ' = va_up ρ (2 + r) (vp_updL (ρ (2 + r)) q v) ∧ fl' = fl)) := by
  refine gm_metH (by decide) (Nat.le_of_ble_eq_true rfl) (fun p e s m below meth c ls hx hb hml hr hlk hown hW htab X hl => ?_)
  have hl : lv_has ls 6 [(0, .ref (E.2.1 + 0)), (1, .int (nI r)), (2, .int (nI q)), (3, .long v)] := hl
  refine lv_aload_n hx hb d_Law_set_0 rfl (lv_at hl 0 rfl) ?_
  refine lv_iload_n hx hb d_Law_set_1 rfl (lv_at hl 1 rfl) ?_
  refine lv_iload_n hx hb d_Law_set_2 rfl (lv_at hl 2 rfl) ?_
  refine lv_lload_n hx hb d_Law_set_3 rfl (lv_at hl 3 rfl) ?_
  refine gm_Vv hx hb hml hown hW X o0 (g_Ben_set l E ad N ρ fl hg hk hn h_r h_q) (n := 3) ⟨⟨wl_Law_7, wi_Ben_set, wsel_Ben_set, winit_Ben, wc_Ben_set⟩, by decide +kernel, ⟨Nat.le_of_ble_eq_true rfl, Nat.le_of_ble_eq_true rfl⟩, _, rfl, rfl⟩ rfl hl.1 rfl (Nat.le_of_ble_eq_true rfl) d_Law_set_4 ⟨Nat.le_of_ble_eq_true rfl, Nat.le_of_ble_eq_true rfl⟩ (fun M1 H locs hp X => ?_)
  obtain ⟨ρ1, fl1, rfl, hp⟩ := hp
  refine lv_goto (tgt := 14) hx hb d_Law_set_7 (by decide) ?_
  refine lv_iconst (v := 0) hx hb d_Law_set_14 (by decide) ?_
  exact gm_iret hx hb hr hlk X ⟨rfl, ρ1, fl1, rfl, hp⟩ d_Law_set_15
set_option maxHeartbeats 4000000 in
theorem h_Law_get {F G : Type} [Lean.Grind.CommRing F] [Lean.Grind.CommRing G] {φ : Int → F} {inv : F → F} {ψ : Int → G} (l : Launch) (E : gm_E) (ad : Nat → Nat) (N : gm_M) (ρ : Nat → Nat → Int64) (fl : Nat → Int32) (hg : gE E ad) (hk : fk φ inv) (hn : fm ψ nN) {fo : Nat → Int64} (hN : N (E.2.1 + 133) = some (LA E 1 fo)) {a : Nat} (h_a : a < 8) {q : Nat} (h_q : q < 4) : ch_ l y_Law_get b_Law_get 5 [(0, 9, 12, 13)] { frames := 8, cells := 2, slots := 12, locals := 142 } E (cW E ad N ρ fl) [.ref (E.2.1 + 0), .int (nI a), .int (nI q), .ref (E.2.1 + 133)] (fun k M' => k = 0 ∧ ∃ (ρ' : Nat → Nat → Int64) (fl' : Nat → Int32) (r : Int64), M' = cW E ad (gm_up N (E.2.1 + 133) (LA E 1 (vp_updL fo 0 r))) ρ' fl' ∧ (r = ρ (2 + a) q ∧ ρ' = ρ ∧ fl' = fl)) := by
  refine gm_metH (by decide) (Nat.le_of_ble_eq_true rfl) (fun p e s m below meth c ls hx hb hml hr hlk hown hW htab X hl => ?_)
  have hl : lv_has ls 5 [(0, .ref (E.2.1 + 0)), (1, .int (nI a)), (2, .int (nI q)), (3, .ref (E.2.1 + 133))] := hl
  refine lv_aload_n hx hb d_Law_get_0 rfl (lv_at hl 3 rfl) ?_
  refine lv_iconst (v := 0) hx hb d_Law_get_1 (by decide) ?_
  refine lv_aload_n hx hb d_Law_get_2 rfl (lv_at hl 0 rfl) ?_
  refine lv_iload_n hx hb d_Law_get_3 rfl (lv_at hl 1 rfl) ?_
  refine lv_iload_n hx hb d_Law_get_4 rfl (lv_at hl 2 rfl) ?_
  refine gm_Vl hx hb hml hown hW X o0 (g_Ben_get l E ad N ρ fl hg hk hn h_a h_q) (n := 2) ⟨⟨wl_Law_15, wi_Ben_get, wsel_Ben_get, winit_Ben, wc_Ben_get⟩, by decide +kernel, ⟨Nat.le_of_ble_eq_true rfl, Nat.le_of_ble_eq_true rfl⟩, _, rfl, rfl⟩ rfl hl.1 rfl (Nat.le_of_ble_eq_true rfl) d_Law_get_5 ⟨Nat.le_of_ble_eq_true rfl, Nat.le_of_ble_eq_true rfl⟩ (fun r M1 H locs hp X => ?_)
  obtain ⟨ρ1, fl1, rfl, hp⟩ := hp
  refine gm_last hx hb X (k := 0) (cw_133 hN) (cw_ge _) (by decide) ⟨by decide, by decide⟩ d_Law_get_8 (fun H locs X => ?_)
  rw [cw_out] at X
  refine lv_goto (tgt := 16) hx hb d_Law_get_9 (by decide) ?_
  refine lv_iconst (v := 0) hx hb d_Law_get_16 (by decide) ?_
  exact gm_iret hx hb hr hlk X ⟨rfl, ρ1, fl1, r, rfl, hp⟩ d_Law_get_17
set_option maxHeartbeats 4000000 in
theorem h_Law_compare {F G : Type} [Lean.Grind.CommRing F] [Lean.Grind.CommRing G] {φ : Int → F} {inv : F → F} {ψ : Int → G} (l : Launch) (E : gm_E) (ad : Nat → Nat) (N : gm_M) (ρ : Nat → Nat → Int64) (fl : Nat → Int32) (hg : gE E ad) (hk : fk φ inv) (hn : fm ψ nN) {fo : Nat → Int64} (hN : N (E.2.1 + 133) = some (LA E 1 fo)) {a : Nat} (h_a : a < 8) {b : Nat} (h_b : b < 8) : ch_ l y_Law_compare b_Law_compare 5 [(0, 10, 13, 13)] { frames := 8, cells := 2, slots := 12, locals := 142 } E (cW E ad N ρ fl) [.ref (E.2.1 + 0), .int (nI a), .int (nI b), .ref (E.2.1 + 133)] (fun k M' => k = 0 ∧ ∃ (ρ' : Nat → Nat → Int64) (fl' : Nat → Int32) (r : Int32), M' = cW E ad (gm_up N (E.2.1 + 133) (LA E 1 (vp_updL fo 0 r.toInt64))) ρ' fl' ∧ (r = cmN (NV (ρ (2 + a))) (NV (ρ (2 + b))) ∧ ρ' = ρ ∧ fl' = fl)) := by
  refine gm_metH (by decide) (Nat.le_of_ble_eq_true rfl) (fun p e s m below meth c ls hx hb hml hr hlk hown hW htab X hl => ?_)
  have hl : lv_has ls 5 [(0, .ref (E.2.1 + 0)), (1, .int (nI a)), (2, .int (nI b)), (3, .ref (E.2.1 + 133))] := hl
  refine lv_aload_n hx hb d_Law_compare_0 rfl (lv_at hl 3 rfl) ?_
  refine lv_iconst (v := 0) hx hb d_Law_compare_1 (by decide) ?_
  refine lv_aload_n hx hb d_Law_compare_2 rfl (lv_at hl 0 rfl) ?_
  refine lv_iload_n hx hb d_Law_compare_3 rfl (lv_at hl 1 rfl) ?_
  refine lv_iload_n hx hb d_Law_compare_4 rfl (lv_at hl 2 rfl) ?_
  refine gm_Vi hx hb hml hown hW X o0 (g_Ben_compare l E ad N ρ fl hg hk hn h_a h_b) (n := 2) ⟨⟨wl_Law_19, wi_Ben_compare, wsel_Ben_compare, winit_Ben, wc_Ben_compare⟩, by decide +kernel, ⟨Nat.le_of_ble_eq_true rfl, Nat.le_of_ble_eq_true rfl⟩, _, rfl, rfl⟩ rfl hl.1 rfl (Nat.le_of_ble_eq_true rfl) d_Law_compare_5 ⟨Nat.le_of_ble_eq_true rfl, Nat.le_of_ble_eq_true rfl⟩ (fun r M1 H locs hp X => ?_)
  obtain ⟨ρ1, fl1, rfl, hp⟩ := hp
  refine lv_i2l hx hb d_Law_compare_8 rfl ?_
  refine gm_last hx hb X (k := 0) (cw_133 hN) (cw_ge _) (by decide) ⟨by decide, by decide⟩ d_Law_compare_9 (fun H locs X => ?_)
  rw [cw_out] at X
  refine lv_goto (tgt := 17) hx hb d_Law_compare_10 (by decide) ?_
  refine lv_iconst (v := 0) hx hb d_Law_compare_17 (by decide) ?_
  exact gm_iret hx hb hr hlk X ⟨rfl, ρ1, fl1, r, rfl, hp⟩ d_Law_compare_18
set_option maxHeartbeats 4000000 in
theorem h_Law_work_0 {F G : Type} [Lean.Grind.CommRing F] [Lean.Grind.CommRing G] {φ : Int → F} {inv : F → F} {ψ : Int → G} (l : Launch) (E : gm_E) (ad : Nat → Nat) (N : gm_M) (ρ : Nat → Nat → Int64) (fl : Nat → Int32) (hg : gE E ad) (hk : fk φ inv) (hn : fm ψ nN) {fo : Nat → Int64} (hN : N (E.2.1 + 133) = some (LA E 1 fo)) {t : Nat} (h_t : t < 8) {a : Nat} (h_a : a < 8) {b : Nat} (h_b : b < 8) : ch_ l y_Law_work b_Law_work 7 [(0, 21, 24, 13)] { frames := 8, cells := 4, slots := 24, locals := 179 } E (cW E ad N ρ fl) [.ref (E.2.1 + 0), .int 0, .int (nI t), .int (nI a), .int (nI b), .ref (E.2.1 + 133)] (fun k M' => k = 0 ∧ ∃ (ρ' : Nat → Nat → Int64) (fl' : Nat → Int32) (r : Int32), M' = cW E ad (gm_up N (E.2.1 + 133) (LA E 1 (vp_updL fo 0 (if r = 0 then 0 else 1)))) ρ' fl' ∧ ((r = 0 ∧ ¬ wkOK 0 nP (NV (ρ (2 + a))) (NV (ρ (2 + b))) ∧ kNu 0 0 ρ ρ' fl fl') ∨ (r = 1 ∧ wkOK 0 nP (NV (ρ (2 + a))) (NV (ρ (2 + b))) ∧ NV (ρ' (2 + t)) = rp φ nP (wkV φ 0 (NV sP2) (NV (ρ (2 + a))) (NV (ρ (2 + b)))) ∧ kNu (2 + t) 0 ρ ρ' fl fl'))) := by
  refine gm_metH (by decide) (Nat.le_of_ble_eq_true rfl) (fun p e s m below meth c ls hx hb hml hr hlk hown hW htab X hl => ?_)
  have hl : lv_has ls 7 [(0, .ref (E.2.1 + 0)), (1, .int 0), (2, .int (nI t)), (3, .int (nI a)), (4, .int (nI b)), (5, .ref (E.2.1 + 133))] := hl
  refine lv_aload hx hb d_Law_work_0 (lv_at hl 5 rfl) ?_
  refine lv_iconst (v := 0) hx hb d_Law_work_2 (by decide) ?_
  refine lv_aload_n hx hb d_Law_work_3 rfl (lv_at hl 0 rfl) ?_
  refine lv_iload_n hx hb d_Law_work_4 rfl (lv_at hl 1 rfl) ?_
  refine lv_iload_n hx hb d_Law_work_5 rfl (lv_at hl 2 rfl) ?_
  refine lv_iload_n hx hb d_Law_work_6 rfl (lv_at hl 3 rfl) ?_
  refine lv_iload hx hb d_Law_work_7 (lv_at hl 4 rfl) ?_
  refine gm_Vi hx hb hml hown hW X o0 (g_Ben_work_0 l E ad N ρ fl hg hk hn h_t h_a h_b) (n := 4) ⟨⟨wl_Law_23, wi_Ben_work, wsel_Ben_work, winit_Ben, wc_Ben_work⟩, by decide +kernel, ⟨Nat.le_of_ble_eq_true rfl, Nat.le_of_ble_eq_true rfl⟩, _, rfl, rfl⟩ rfl hl.1 rfl (Nat.le_of_ble_eq_true rfl) d_Law_work_9 ⟨Nat.le_of_ble_eq_true rfl, Nat.le_of_ble_eq_true rfl⟩ (fun r M1 H locs hp X => ?_)
  obtain ⟨ρ1, fl1, rfl, hp⟩ := hp
  refine lv_if_eq (tgt := 19) hx hb d_Law_work_12 (by decide) (fun c12 => ?_) (fun c12 => ?_)
  · refine lv_lconst (v := 0) hx hb d_Law_work_19 (by decide) ?_
    refine gm_last hx hb X (k := 0) (cw_133 hN) (cw_ge _) (by decide) ⟨by decide, by decide⟩ d_Law_work_20 (fun H locs X => ?_)
    rw [cw_out] at X
    refine lv_goto (tgt := 28) hx hb d_Law_work_21 (by decide) ?_
    refine lv_iconst (v := 0) hx hb d_Law_work_28 (by decide) ?_
    exact gm_iret hx hb hr hlk X ⟨rfl, ρ1, fl1, r, by rw [if_pos c12], hp⟩ d_Law_work_29
  · refine lv_lconst (v := 1) hx hb d_Law_work_15 (by decide) ?_
    refine lv_goto (tgt := 20) hx hb d_Law_work_16 (by decide) ?_
    refine gm_last hx hb X (k := 0) (cw_133 hN) (cw_ge _) (by decide) ⟨by decide, by decide⟩ d_Law_work_20 (fun H locs X => ?_)
    rw [cw_out] at X
    refine lv_goto (tgt := 28) hx hb d_Law_work_21 (by decide) ?_
    refine lv_iconst (v := 0) hx hb d_Law_work_28 (by decide) ?_
    exact gm_iret hx hb hr hlk X ⟨rfl, ρ1, fl1, r, by rw [if_neg c12], hp⟩ d_Law_work_29
set_option maxHeartbeats 4000000 in
theorem h_Law_work_1 {F G : Type} [Lean.Grind.CommRing F] [Lean.Grind.CommRing G] {φ : Int → F} {inv : F → F} {ψ : Int → G} (l : Launch) (E : gm_E) (ad : Nat → Nat) (N : gm_M) (ρ : Nat → Nat → Int64) (fl : Nat → Int32) (hg : gE E ad) (hk : fk φ inv) (hn : fm ψ nN) {fo : Nat → Int64} (hN : N (E.2.1 + 133) = some (LA E 1 fo)) {t : Nat} (h_t : t < 8) {a : Nat} (h_a : a < 8) {b : Nat} (h_b : b < 8) : ch_ l y_Law_work b_Law_work 7 [(0, 21, 24, 13)] { frames := 8, cells := 4, slots := 24, locals := 179 } E (cW E ad N ρ fl) [.ref (E.2.1 + 0), .int 1, .int (nI t), .int (nI a), .int (nI b), .ref (E.2.1 + 133)] (fun k M' => k = 0 ∧ ∃ (ρ' : Nat → Nat → Int64) (fl' : Nat → Int32) (r : Int32), M' = cW E ad (gm_up N (E.2.1 + 133) (LA E 1 (vp_updL fo 0 (if r = 0 then 0 else 1)))) ρ' fl' ∧ ((r = 0 ∧ ¬ wkOK 1 nP (NV (ρ (2 + a))) (NV (ρ (2 + b))) ∧ kNu 0 0 ρ ρ' fl fl') ∨ (r = 1 ∧ wkOK 1 nP (NV (ρ (2 + a))) (NV (ρ (2 + b))) ∧ NV (ρ' (2 + t)) = rp φ nP (wkV φ 1 (NV sP2) (NV (ρ (2 + a))) (NV (ρ (2 + b)))) ∧ kNu (2 + t) 0 ρ ρ' fl fl'))) := by
  refine gm_metH (by decide) (Nat.le_of_ble_eq_true rfl) (fun p e s m below meth c ls hx hb hml hr hlk hown hW htab X hl => ?_)
  have hl : lv_has ls 7 [(0, .ref (E.2.1 + 0)), (1, .int 1), (2, .int (nI t)), (3, .int (nI a)), (4, .int (nI b)), (5, .ref (E.2.1 + 133))] := hl
  refine lv_aload hx hb d_Law_work_0 (lv_at hl 5 rfl) ?_
  refine lv_iconst (v := 0) hx hb d_Law_work_2 (by decide) ?_
  refine lv_aload_n hx hb d_Law_work_3 rfl (lv_at hl 0 rfl) ?_
  refine lv_iload_n hx hb d_Law_work_4 rfl (lv_at hl 1 rfl) ?_
  refine lv_iload_n hx hb d_Law_work_5 rfl (lv_at hl 2 rfl) ?_
  refine lv_iload_n hx hb d_Law_work_6 rfl (lv_at hl 3 rfl) ?_
  refine lv_iload hx hb d_Law_work_7 (lv_at hl 4 rfl) ?_
  refine gm_Vi hx hb hml hown hW X o0 (g_Ben_work_1 l E ad N ρ fl hg hk hn h_t h_a h_b) (n := 4) ⟨⟨wl_Law_23, wi_Ben_work, wsel_Ben_work, winit_Ben, wc_Ben_work⟩, by decide +kernel, ⟨Nat.le_of_ble_eq_true rfl, Nat.le_of_ble_eq_true rfl⟩, _, rfl, rfl⟩ rfl hl.1 rfl (Nat.le_of_ble_eq_true rfl) d_Law_work_9 ⟨Nat.le_of_ble_eq_true rfl, Nat.le_of_ble_eq_true rfl⟩ (fun r M1 H locs hp X => ?_)
  obtain ⟨ρ1, fl1, rfl, hp⟩ := hp
  refine lv_if_eq (tgt := 19) hx hb d_Law_work_12 (by decide) (fun c12 => ?_) (fun c12 => ?_)
  · refine lv_lconst (v := 0) hx hb d_Law_work_19 (by decide) ?_
    refine gm_last hx hb X (k := 0) (cw_133 hN) (cw_ge _) (by decide) ⟨by decide, by decide⟩ d_Law_work_20 (fun H locs X => ?_)
    rw [cw_out] at X
    refine lv_goto (tgt := 28) hx hb d_Law_work_21 (by decide) ?_
    refine lv_iconst (v := 0) hx hb d_Law_work_28 (by decide) ?_
    exact gm_iret hx hb hr hlk X ⟨rfl, ρ1, fl1, r, by rw [if_pos c12], hp⟩ d_Law_work_29
  · refine lv_lconst (v := 1) hx hb d_Law_work_15 (by decide) ?_
    refine lv_goto (tgt := 20) hx hb d_Law_work_16 (by decide) ?_
    refine gm_last hx hb X (k := 0) (cw_133 hN) (cw_ge _) (by decide) ⟨by decide, by decide⟩ d_Law_work_20 (fun H locs X => ?_)
    rw [cw_out] at X
    refine lv_goto (tgt := 28) hx hb d_Law_work_21 (by decide) ?_
    refine lv_iconst (v := 0) hx hb d_Law_work_28 (by decide) ?_
    exact gm_iret hx hb hr hlk X ⟨rfl, ρ1, fl1, r, by rw [if_neg c12], hp⟩ d_Law_work_29
set_option maxHeartbeats 4000000 in
theorem h_Law_work_2 {F G : Type} [Lean.Grind.CommRing F] [Lean.Grind.CommRing G] {φ : Int → F} {inv : F → F} {ψ : Int → G} (l : Launch) (E : gm_E) (ad : Nat → Nat) (N : gm_M) (ρ : Nat → Nat → Int64) (fl : Nat → Int32) (hg : gE E ad) (hk : fk φ inv) (hn : fm ψ nN) {fo : Nat → Int64} (hN : N (E.2.1 + 133) = some (LA E 1 fo)) {t : Nat} (h_t : t < 8) {a : Nat} (h_a : a < 8) {b : Nat} (h_b : b < 8) : ch_ l y_Law_work b_Law_work 7 [(0, 21, 24, 13)] { frames := 8, cells := 4, slots := 24, locals := 179 } E (cW E ad N ρ fl) [.ref (E.2.1 + 0), .int 2, .int (nI t), .int (nI a), .int (nI b), .ref (E.2.1 + 133)] (fun k M' => k = 0 ∧ ∃ (ρ' : Nat → Nat → Int64) (fl' : Nat → Int32) (r : Int32), M' = cW E ad (gm_up N (E.2.1 + 133) (LA E 1 (vp_updL fo 0 (if r = 0 then 0 else 1)))) ρ' fl' ∧ ((r = 0 ∧ ¬ wkOK 2 nP (NV (ρ (2 + a))) (NV (ρ (2 + b))) ∧ kNu 0 0 ρ ρ' fl fl') ∨ (r = 1 ∧ wkOK 2 nP (NV (ρ (2 + a))) (NV (ρ (2 + b))) ∧ NV (ρ' (2 + t)) = rp φ nP (wkV φ 2 (NV sP2) (NV (ρ (2 + a))) (NV (ρ (2 + b)))) ∧ kNu (2 + t) 0 ρ ρ' fl fl'))) := by
  refine gm_metH (by decide) (Nat.le_of_ble_eq_true rfl) (fun p e s m below meth c ls hx hb hml hr hlk hown hW htab X hl => ?_)
  have hl : lv_has ls 7 [(0, .ref (E.2.1 + 0)), (1, .int 2), (2, .int (nI t)), (3, .int (nI a)), (4, .int (nI b)), (5, .ref (E.2.1 + 133))] := hl
  refine lv_aload hx hb d_Law_work_0 (lv_at hl 5 rfl) ?_
  refine lv_iconst (v := 0) hx hb d_Law_work_2 (by decide) ?_
  refine lv_aload_n hx hb d_Law_work_3 rfl (lv_at hl 0 rfl) ?_
  refine lv_iload_n hx hb d_Law_work_4 rfl (lv_at hl 1 rfl) ?_
  refine lv_iload_n hx hb d_Law_work_5 rfl (lv_at hl 2 rfl) ?_
  refine lv_iload_n hx hb d_Law_work_6 rfl (lv_at hl 3 rfl) ?_
  refine lv_iload hx hb d_Law_work_7 (lv_at hl 4 rfl) ?_
  refine gm_Vi hx hb hml hown hW X o0 (g_Ben_work_2 l E ad N ρ fl hg hk hn h_t h_a h_b) (n := 4) ⟨⟨wl_Law_23, wi_Ben_work, wsel_Ben_work, winit_Ben, wc_Ben_work⟩, by decide +kernel, ⟨Nat.le_of_ble_eq_true rfl, Nat.le_of_ble_eq_true rfl⟩, _, rfl, rfl⟩ rfl hl.1 rfl (Nat.le_of_ble_eq_true rfl) d_Law_work_9 ⟨Nat.le_of_ble_eq_true rfl, Nat.le_of_ble_eq_true rfl⟩ (fun r M1 H locs hp X => ?_)
  obtain ⟨ρ1, fl1, rfl, hp⟩ := hp
  refine lv_if_eq (tgt := 19) hx hb d_Law_work_12 (by decide) (fun c12 => ?_) (fun c12 => ?_)
  · refine lv_lconst (v := 0) hx hb d_Law_work_19 (by decide) ?_
    refine gm_last hx hb X (k := 0) (cw_133 hN) (cw_ge _) (by decide) ⟨by decide, by decide⟩ d_Law_work_20 (fun H locs X => ?_)
    rw [cw_out] at X
    refine lv_goto (tgt := 28) hx hb d_Law_work_21 (by decide) ?_
    refine lv_iconst (v := 0) hx hb d_Law_work_28 (by decide) ?_
    exact gm_iret hx hb hr hlk X ⟨rfl, ρ1, fl1, r, by rw [if_pos c12], hp⟩ d_Law_work_29
  · refine lv_lconst (v := 1) hx hb d_Law_work_15 (by decide) ?_
    refine lv_goto (tgt := 20) hx hb d_Law_work_16 (by decide) ?_
    refine gm_last hx hb X (k := 0) (cw_133 hN) (cw_ge _) (by decide) ⟨by decide, by decide⟩ d_Law_work_20 (fun H locs X => ?_)
    rw [cw_out] at X
    refine lv_goto (tgt := 28) hx hb d_Law_work_21 (by decide) ?_
    refine lv_iconst (v := 0) hx hb d_Law_work_28 (by decide) ?_
    exact gm_iret hx hb hr hlk X ⟨rfl, ρ1, fl1, r, by rw [if_neg c12], hp⟩ d_Law_work_29
set_option maxHeartbeats 4000000 in
theorem h_Law_work_3 {F G : Type} [Lean.Grind.CommRing F] [Lean.Grind.CommRing G] {φ : Int → F} {inv : F → F} {ψ : Int → G} (l : Launch) (E : gm_E) (ad : Nat → Nat) (N : gm_M) (ρ : Nat → Nat → Int64) (fl : Nat → Int32) (hg : gE E ad) (hk : fk φ inv) (hn : fm ψ nN) {fo : Nat → Int64} (hN : N (E.2.1 + 133) = some (LA E 1 fo)) {t : Nat} (h_t : t < 8) {a : Nat} (h_a : a < 8) {b : Nat} (h_b : b < 8) : ch_ l y_Law_work b_Law_work 7 [(0, 21, 24, 13)] { frames := 8, cells := 4, slots := 24, locals := 179 } E (cW E ad N ρ fl) [.ref (E.2.1 + 0), .int 3, .int (nI t), .int (nI a), .int (nI b), .ref (E.2.1 + 133)] (fun k M' => k = 0 ∧ ∃ (ρ' : Nat → Nat → Int64) (fl' : Nat → Int32) (r : Int32), M' = cW E ad (gm_up N (E.2.1 + 133) (LA E 1 (vp_updL fo 0 (if r = 0 then 0 else 1)))) ρ' fl' ∧ ((r = 0 ∧ ¬ wkOK 3 nP (NV (ρ (2 + a))) (NV (ρ (2 + b))) ∧ kNu 0 0 ρ ρ' fl fl') ∨ (r = 1 ∧ wkOK 3 nP (NV (ρ (2 + a))) (NV (ρ (2 + b))) ∧ NV (ρ' (2 + t)) = rp φ nP (wkV φ 3 (NV sP2) (NV (ρ (2 + a))) (NV (ρ (2 + b)))) ∧ kNu (2 + t) 0 ρ ρ' fl fl'))) := by
  refine gm_metH (by decide) (Nat.le_of_ble_eq_true rfl) (fun p e s m below meth c ls hx hb hml hr hlk hown hW htab X hl => ?_)
  have hl : lv_has ls 7 [(0, .ref (E.2.1 + 0)), (1, .int 3), (2, .int (nI t)), (3, .int (nI a)), (4, .int (nI b)), (5, .ref (E.2.1 + 133))] := hl
  refine lv_aload hx hb d_Law_work_0 (lv_at hl 5 rfl) ?_
  refine lv_iconst (v := 0) hx hb d_Law_work_2 (by decide) ?_
  refine lv_aload_n hx hb d_Law_work_3 rfl (lv_at hl 0 rfl) ?_
  refine lv_iload_n hx hb d_Law_work_4 rfl (lv_at hl 1 rfl) ?_
  refine lv_iload_n hx hb d_Law_work_5 rfl (lv_at hl 2 rfl) ?_
  refine lv_iload_n hx hb d_Law_work_6 rfl (lv_at hl 3 rfl) ?_
  refine lv_iload hx hb d_Law_work_7 (lv_at hl 4 rfl) ?_
  refine gm_Vi hx hb hml hown hW X o0 (g_Ben_work_3 l E ad N ρ fl hg hk hn h_t h_a h_b) (n := 4) ⟨⟨wl_Law_23, wi_Ben_work, wsel_Ben_work, winit_Ben, wc_Ben_work⟩, by decide +kernel, ⟨Nat.le_of_ble_eq_true rfl, Nat.le_of_ble_eq_true rfl⟩, _, rfl, rfl⟩ rfl hl.1 rfl (Nat.le_of_ble_eq_true rfl) d_Law_work_9 ⟨Nat.le_of_ble_eq_true rfl, Nat.le_of_ble_eq_true rfl⟩ (fun r M1 H locs hp X => ?_)
  obtain ⟨ρ1, fl1, rfl, hp⟩ := hp
  refine lv_if_eq (tgt := 19) hx hb d_Law_work_12 (by decide) (fun c12 => ?_) (fun c12 => ?_)
  · refine lv_lconst (v := 0) hx hb d_Law_work_19 (by decide) ?_
    refine gm_last hx hb X (k := 0) (cw_133 hN) (cw_ge _) (by decide) ⟨by decide, by decide⟩ d_Law_work_20 (fun H locs X => ?_)
    rw [cw_out] at X
    refine lv_goto (tgt := 28) hx hb d_Law_work_21 (by decide) ?_
    refine lv_iconst (v := 0) hx hb d_Law_work_28 (by decide) ?_
    exact gm_iret hx hb hr hlk X ⟨rfl, ρ1, fl1, r, by rw [if_pos c12], hp⟩ d_Law_work_29
  · refine lv_lconst (v := 1) hx hb d_Law_work_15 (by decide) ?_
    refine lv_goto (tgt := 20) hx hb d_Law_work_16 (by decide) ?_
    refine gm_last hx hb X (k := 0) (cw_133 hN) (cw_ge _) (by decide) ⟨by decide, by decide⟩ d_Law_work_20 (fun H locs X => ?_)
    rw [cw_out] at X
    refine lv_goto (tgt := 28) hx hb d_Law_work_21 (by decide) ?_
    refine lv_iconst (v := 0) hx hb d_Law_work_28 (by decide) ?_
    exact gm_iret hx hb hr hlk X ⟨rfl, ρ1, fl1, r, by rw [if_neg c12], hp⟩ d_Law_work_29
set_option maxHeartbeats 4000000 in
theorem h_Law_work_4 {F G : Type} [Lean.Grind.CommRing F] [Lean.Grind.CommRing G] {φ : Int → F} {inv : F → F} {ψ : Int → G} (l : Launch) (E : gm_E) (ad : Nat → Nat) (N : gm_M) (ρ : Nat → Nat → Int64) (fl : Nat → Int32) (hg : gE E ad) (hk : fk φ inv) (hn : fm ψ nN) {fo : Nat → Int64} (hN : N (E.2.1 + 133) = some (LA E 1 fo)) {t : Nat} (h_t : t < 8) {a : Nat} (h_a : a < 8) {b : Nat} (h_b : b < 8) : ch_ l y_Law_work b_Law_work 7 [(0, 21, 24, 13)] { frames := 8, cells := 4, slots := 24, locals := 179 } E (cW E ad N ρ fl) [.ref (E.2.1 + 0), .int 4, .int (nI t), .int (nI a), .int (nI b), .ref (E.2.1 + 133)] (fun k M' => k = 0 ∧ ∃ (ρ' : Nat → Nat → Int64) (fl' : Nat → Int32) (r : Int32), M' = cW E ad (gm_up N (E.2.1 + 133) (LA E 1 (vp_updL fo 0 (if r = 0 then 0 else 1)))) ρ' fl' ∧ ((r = 0 ∧ ¬ wkOK 0 nN (NV (ρ (2 + a))) (NV (ρ (2 + b))) ∧ kNu 0 0 ρ ρ' fl fl') ∨ (r = 1 ∧ wkOK 0 nN (NV (ρ (2 + a))) (NV (ρ (2 + b))) ∧ NV (ρ' (2 + t)) = rp ψ nN (wkV ψ 0 (NV sN2) (NV (ρ (2 + a))) (NV (ρ (2 + b)))) ∧ kNu (2 + t) 0 ρ ρ' fl fl'))) := by
  refine gm_metH (by decide) (Nat.le_of_ble_eq_true rfl) (fun p e s m below meth c ls hx hb hml hr hlk hown hW htab X hl => ?_)
  have hl : lv_has ls 7 [(0, .ref (E.2.1 + 0)), (1, .int 4), (2, .int (nI t)), (3, .int (nI a)), (4, .int (nI b)), (5, .ref (E.2.1 + 133))] := hl
  refine lv_aload hx hb d_Law_work_0 (lv_at hl 5 rfl) ?_
  refine lv_iconst (v := 0) hx hb d_Law_work_2 (by decide) ?_
  refine lv_aload_n hx hb d_Law_work_3 rfl (lv_at hl 0 rfl) ?_
  refine lv_iload_n hx hb d_Law_work_4 rfl (lv_at hl 1 rfl) ?_
  refine lv_iload_n hx hb d_Law_work_5 rfl (lv_at hl 2 rfl) ?_
  refine lv_iload_n hx hb d_Law_work_6 rfl (lv_at hl 3 rfl) ?_
  refine lv_iload hx hb d_Law_work_7 (lv_at hl 4 rfl) ?_
  refine gm_Vi hx hb hml hown hW X o0 (g_Ben_work_4 l E ad N ρ fl hg hk hn h_t h_a h_b) (n := 4) ⟨⟨wl_Law_23, wi_Ben_work, wsel_Ben_work, winit_Ben, wc_Ben_work⟩, by decide +kernel, ⟨Nat.le_of_ble_eq_true rfl, Nat.le_of_ble_eq_true rfl⟩, _, rfl, rfl⟩ rfl hl.1 rfl (Nat.le_of_ble_eq_true rfl) d_Law_work_9 ⟨Nat.le_of_ble_eq_true rfl, Nat.le_of_ble_eq_true rfl⟩ (fun r M1 H locs hp X => ?_)
  obtain ⟨ρ1, fl1, rfl, hp⟩ := hp
  refine lv_if_eq (tgt := 19) hx hb d_Law_work_12 (by decide) (fun c12 => ?_) (fun c12 => ?_)
  · refine lv_lconst (v := 0) hx hb d_Law_work_19 (by decide) ?_
    refine gm_last hx hb X (k := 0) (cw_133 hN) (cw_ge _) (by decide) ⟨by decide, by decide⟩ d_Law_work_20 (fun H locs X => ?_)
    rw [cw_out] at X
    refine lv_goto (tgt := 28) hx hb d_Law_work_21 (by decide) ?_
    refine lv_iconst (v := 0) hx hb d_Law_work_28 (by decide) ?_
    exact gm_iret hx hb hr hlk X ⟨rfl, ρ1, fl1, r, by rw [if_pos c12], hp⟩ d_Law_work_29
  · refine lv_lconst (v := 1) hx hb d_Law_work_15 (by decide) ?_
    refine lv_goto (tgt := 20) hx hb d_Law_work_16 (by decide) ?_
    refine gm_last hx hb X (k := 0) (cw_133 hN) (cw_ge _) (by decide) ⟨by decide, by decide⟩ d_Law_work_20 (fun H locs X => ?_)
    rw [cw_out] at X
    refine lv_goto (tgt := 28) hx hb d_Law_work_21 (by decide) ?_
    refine lv_iconst (v := 0) hx hb d_Law_work_28 (by decide) ?_
    exact gm_iret hx hb hr hlk X ⟨rfl, ρ1, fl1, r, by rw [if_neg c12], hp⟩ d_Law_work_29
set_option maxHeartbeats 4000000 in
theorem h_Law_work_5 {F G : Type} [Lean.Grind.CommRing F] [Lean.Grind.CommRing G] {φ : Int → F} {inv : F → F} {ψ : Int → G} (l : Launch) (E : gm_E) (ad : Nat → Nat) (N : gm_M) (ρ : Nat → Nat → Int64) (fl : Nat → Int32) (hg : gE E ad) (hk : fk φ inv) (hn : fm ψ nN) {fo : Nat → Int64} (hN : N (E.2.1 + 133) = some (LA E 1 fo)) {t : Nat} (h_t : t < 8) {a : Nat} (h_a : a < 8) {b : Nat} (h_b : b < 8) : ch_ l y_Law_work b_Law_work 7 [(0, 21, 24, 13)] { frames := 8, cells := 4, slots := 24, locals := 179 } E (cW E ad N ρ fl) [.ref (E.2.1 + 0), .int 5, .int (nI t), .int (nI a), .int (nI b), .ref (E.2.1 + 133)] (fun k M' => k = 0 ∧ ∃ (ρ' : Nat → Nat → Int64) (fl' : Nat → Int32) (r : Int32), M' = cW E ad (gm_up N (E.2.1 + 133) (LA E 1 (vp_updL fo 0 (if r = 0 then 0 else 1)))) ρ' fl' ∧ ((r = 0 ∧ ¬ wkOK 1 nN (NV (ρ (2 + a))) (NV (ρ (2 + b))) ∧ kNu 0 0 ρ ρ' fl fl') ∨ (r = 1 ∧ wkOK 1 nN (NV (ρ (2 + a))) (NV (ρ (2 + b))) ∧ NV (ρ' (2 + t)) = rp ψ nN (wkV ψ 1 (NV sN2) (NV (ρ (2 + a))) (NV (ρ (2 + b)))) ∧ kNu (2 + t) 0 ρ ρ' fl fl'))) := by
  refine gm_metH (by decide) (Nat.le_of_ble_eq_true rfl) (fun p e s m below meth c ls hx hb hml hr hlk hown hW htab X hl => ?_)
  have hl : lv_has ls 7 [(0, .ref (E.2.1 + 0)), (1, .int 5), (2, .int (nI t)), (3, .int (nI a)), (4, .int (nI b)), (5, .ref (E.2.1 + 133))] := hl
  refine lv_aload hx hb d_Law_work_0 (lv_at hl 5 rfl) ?_
  refine lv_iconst (v := 0) hx hb d_Law_work_2 (by decide) ?_
  refine lv_aload_n hx hb d_Law_work_3 rfl (lv_at hl 0 rfl) ?_
  refine lv_iload_n hx hb d_Law_work_4 rfl (lv_at hl 1 rfl) ?_
  refine lv_iload_n hx hb d_Law_work_5 rfl (lv_at hl 2 rfl) ?_
  refine lv_iload_n hx hb d_Law_work_6 rfl (lv_at hl 3 rfl) ?_
  refine lv_iload hx hb d_Law_work_7 (lv_at hl 4 rfl) ?_
  refine gm_Vi hx hb hml hown hW X o0 (g_Ben_work_5 l E ad N ρ fl hg hk hn h_t h_a h_b) (n := 4) ⟨⟨wl_Law_23, wi_Ben_work, wsel_Ben_work, winit_Ben, wc_Ben_work⟩, by decide +kernel, ⟨Nat.le_of_ble_eq_true rfl, Nat.le_of_ble_eq_true rfl⟩, _, rfl, rfl⟩ rfl hl.1 rfl (Nat.le_of_ble_eq_true rfl) d_Law_work_9 ⟨Nat.le_of_ble_eq_true rfl, Nat.le_of_ble_eq_true rfl⟩ (fun r M1 H locs hp X => ?_)
  obtain ⟨ρ1, fl1, rfl, hp⟩ := hp
  refine lv_if_eq (tgt := 19) hx hb d_Law_work_12 (by decide) (fun c12 => ?_) (fun c12 => ?_)
  · refine lv_lconst (v := 0) hx hb d_Law_work_19 (by decide) ?_
    refine gm_last hx hb X (k := 0) (cw_133 hN) (cw_ge _) (by decide) ⟨by decide, by decide⟩ d_Law_work_20 (fun H locs X => ?_)
    rw [cw_out] at X
    refine lv_goto (tgt := 28) hx hb d_Law_work_21 (by decide) ?_
    refine lv_iconst (v := 0) hx hb d_Law_work_28 (by decide) ?_
    exact gm_iret hx hb hr hlk X ⟨rfl, ρ1, fl1, r, by rw [if_pos c12], hp⟩ d_Law_work_29
  · refine lv_lconst (v := 1) hx hb d_Law_work_15 (by decide) ?_
    refine lv_goto (tgt := 20) hx hb d_Law_work_16 (by decide) ?_
    refine gm_last hx hb X (k := 0) (cw_133 hN) (cw_ge _) (by decide) ⟨by decide, by decide⟩ d_Law_work_20 (fun H locs X => ?_)
    rw [cw_out] at X
    refine lv_goto (tgt := 28) hx hb d_Law_work_21 (by decide) ?_
    refine lv_iconst (v := 0) hx hb d_Law_work_28 (by decide) ?_
    exact gm_iret hx hb hr hlk X ⟨rfl, ρ1, fl1, r, by rw [if_neg c12], hp⟩ d_Law_work_29
set_option maxHeartbeats 4000000 in
theorem h_Law_work_6 {F G : Type} [Lean.Grind.CommRing F] [Lean.Grind.CommRing G] {φ : Int → F} {inv : F → F} {ψ : Int → G} (l : Launch) (E : gm_E) (ad : Nat → Nat) (N : gm_M) (ρ : Nat → Nat → Int64) (fl : Nat → Int32) (hg : gE E ad) (hk : fk φ inv) (hn : fm ψ nN) {fo : Nat → Int64} (hN : N (E.2.1 + 133) = some (LA E 1 fo)) {t : Nat} (h_t : t < 8) {a : Nat} (h_a : a < 8) {b : Nat} (h_b : b < 8) : ch_ l y_Law_work b_Law_work 7 [(0, 21, 24, 13)] { frames := 8, cells := 4, slots := 24, locals := 179 } E (cW E ad N ρ fl) [.ref (E.2.1 + 0), .int 6, .int (nI t), .int (nI a), .int (nI b), .ref (E.2.1 + 133)] (fun k M' => k = 0 ∧ ∃ (ρ' : Nat → Nat → Int64) (fl' : Nat → Int32) (r : Int32), M' = cW E ad (gm_up N (E.2.1 + 133) (LA E 1 (vp_updL fo 0 (if r = 0 then 0 else 1)))) ρ' fl' ∧ ((r = 0 ∧ ¬ wkOK 2 nN (NV (ρ (2 + a))) (NV (ρ (2 + b))) ∧ kNu 0 0 ρ ρ' fl fl') ∨ (r = 1 ∧ wkOK 2 nN (NV (ρ (2 + a))) (NV (ρ (2 + b))) ∧ NV (ρ' (2 + t)) = rp ψ nN (wkV ψ 2 (NV sN2) (NV (ρ (2 + a))) (NV (ρ (2 + b)))) ∧ kNu (2 + t) 0 ρ ρ' fl fl'))) := by
  refine gm_metH (by decide) (Nat.le_of_ble_eq_true rfl) (fun p e s m below meth c ls hx hb hml hr hlk hown hW htab X hl => ?_)
  have hl : lv_has ls 7 [(0, .ref (E.2.1 + 0)), (1, .int 6), (2, .int (nI t)), (3, .int (nI a)), (4, .int (nI b)), (5, .ref (E.2.1 + 133))] := hl
  refine lv_aload hx hb d_Law_work_0 (lv_at hl 5 rfl) ?_
  refine lv_iconst (v := 0) hx hb d_Law_work_2 (by decide) ?_
  refine lv_aload_n hx hb d_Law_work_3 rfl (lv_at hl 0 rfl) ?_
  refine lv_iload_n hx hb d_Law_work_4 rfl (lv_at hl 1 rfl) ?_
  refine lv_iload_n hx hb d_Law_work_5 rfl (lv_at hl 2 rfl) ?_
  refine lv_iload_n hx hb d_Law_work_6 rfl (lv_at hl 3 rfl) ?_
  refine lv_iload hx hb d_Law_work_7 (lv_at hl 4 rfl) ?_
  refine gm_Vi hx hb hml hown hW X o0 (g_Ben_work_6 l E ad N ρ fl hg hk hn h_t h_a h_b) (n := 4) ⟨⟨wl_Law_23, wi_Ben_work, wsel_Ben_work, winit_Ben, wc_Ben_work⟩, by decide +kernel, ⟨Nat.le_of_ble_eq_true rfl, Nat.le_of_ble_eq_true rfl⟩, _, rfl, rfl⟩ rfl hl.1 rfl (Nat.le_of_ble_eq_true rfl) d_Law_work_9 ⟨Nat.le_of_ble_eq_true rfl, Nat.le_of_ble_eq_true rfl⟩ (fun r M1 H locs hp X => ?_)
  obtain ⟨ρ1, fl1, rfl, hp⟩ := hp
  refine lv_if_eq (tgt := 19) hx hb d_Law_work_12 (by decide) (fun c12 => ?_) (fun c12 => ?_)
  · refine lv_lconst (v := 0) hx hb d_Law_work_19 (by decide) ?_
    refine gm_last hx hb X (k := 0) (cw_133 hN) (cw_ge _) (by decide) ⟨by decide, by decide⟩ d_Law_work_20 (fun H locs X => ?_)
    rw [cw_out] at X
    refine lv_goto (tgt := 28) hx hb d_Law_work_21 (by decide) ?_
    refine lv_iconst (v := 0) hx hb d_Law_work_28 (by decide) ?_
    exact gm_iret hx hb hr hlk X ⟨rfl, ρ1, fl1, r, by rw [if_pos c12], hp⟩ d_Law_work_29
  · refine lv_lconst (v := 1) hx hb d_Law_work_15 (by decide) ?_
    refine lv_goto (tgt := 20) hx hb d_Law_work_16 (by decide) ?_
    refine gm_last hx hb X (k := 0) (cw_133 hN) (cw_ge _) (by decide) ⟨by decide, by decide⟩ d_Law_work_20 (fun H locs X => ?_)
    rw [cw_out] at X
    refine lv_goto (tgt := 28) hx hb d_Law_work_21 (by decide) ?_
    refine lv_iconst (v := 0) hx hb d_Law_work_28 (by decide) ?_
    exact gm_iret hx hb hr hlk X ⟨rfl, ρ1, fl1, r, by rw [if_neg c12], hp⟩ d_Law_work_29
set_option maxHeartbeats 4000000 in
theorem h_Law_work_7 {F G : Type} [Lean.Grind.CommRing F] [Lean.Grind.CommRing G] {φ : Int → F} {inv : F → F} {ψ : Int → G} (l : Launch) (E : gm_E) (ad : Nat → Nat) (N : gm_M) (ρ : Nat → Nat → Int64) (fl : Nat → Int32) (hg : gE E ad) (hk : fk φ inv) (hn : fm ψ nN) {fo : Nat → Int64} (hN : N (E.2.1 + 133) = some (LA E 1 fo)) {t : Nat} (h_t : t < 8) {a : Nat} (h_a : a < 8) {b : Nat} (h_b : b < 8) : ch_ l y_Law_work b_Law_work 7 [(0, 21, 24, 13)] { frames := 8, cells := 4, slots := 24, locals := 179 } E (cW E ad N ρ fl) [.ref (E.2.1 + 0), .int 7, .int (nI t), .int (nI a), .int (nI b), .ref (E.2.1 + 133)] (fun k M' => k = 0 ∧ ∃ (ρ' : Nat → Nat → Int64) (fl' : Nat → Int32) (r : Int32), M' = cW E ad (gm_up N (E.2.1 + 133) (LA E 1 (vp_updL fo 0 (if r = 0 then 0 else 1)))) ρ' fl' ∧ ((r = 0 ∧ ¬ wkOK 3 nN (NV (ρ (2 + a))) (NV (ρ (2 + b))) ∧ kNu 0 0 ρ ρ' fl fl') ∨ (r = 1 ∧ wkOK 3 nN (NV (ρ (2 + a))) (NV (ρ (2 + b))) ∧ NV (ρ' (2 + t)) = rp ψ nN (wkV ψ 3 (NV sN2) (NV (ρ (2 + a))) (NV (ρ (2 + b)))) ∧ kNu (2 + t) 0 ρ ρ' fl fl'))) := by
  refine gm_metH (by decide) (Nat.le_of_ble_eq_true rfl) (fun p e s m below meth c ls hx hb hml hr hlk hown hW htab X hl => ?_)
  have hl : lv_has ls 7 [(0, .ref (E.2.1 + 0)), (1, .int 7), (2, .int (nI t)), (3, .int (nI a)), (4, .int (nI b)), (5, .ref (E.2.1 + 133))] := hl
  refine lv_aload hx hb d_Law_work_0 (lv_at hl 5 rfl) ?_
  refine lv_iconst (v := 0) hx hb d_Law_work_2 (by decide) ?_
  refine lv_aload_n hx hb d_Law_work_3 rfl (lv_at hl 0 rfl) ?_
  refine lv_iload_n hx hb d_Law_work_4 rfl (lv_at hl 1 rfl) ?_
  refine lv_iload_n hx hb d_Law_work_5 rfl (lv_at hl 2 rfl) ?_
  refine lv_iload_n hx hb d_Law_work_6 rfl (lv_at hl 3 rfl) ?_
  refine lv_iload hx hb d_Law_work_7 (lv_at hl 4 rfl) ?_
  refine gm_Vi hx hb hml hown hW X o0 (g_Ben_work_7 l E ad N ρ fl hg hk hn h_t h_a h_b) (n := 4) ⟨⟨wl_Law_23, wi_Ben_work, wsel_Ben_work, winit_Ben, wc_Ben_work⟩, by decide +kernel, ⟨Nat.le_of_ble_eq_true rfl, Nat.le_of_ble_eq_true rfl⟩, _, rfl, rfl⟩ rfl hl.1 rfl (Nat.le_of_ble_eq_true rfl) d_Law_work_9 ⟨Nat.le_of_ble_eq_true rfl, Nat.le_of_ble_eq_true rfl⟩ (fun r M1 H locs hp X => ?_)
  obtain ⟨ρ1, fl1, rfl, hp⟩ := hp
  refine lv_if_eq (tgt := 19) hx hb d_Law_work_12 (by decide) (fun c12 => ?_) (fun c12 => ?_)
  · refine lv_lconst (v := 0) hx hb d_Law_work_19 (by decide) ?_
    refine gm_last hx hb X (k := 0) (cw_133 hN) (cw_ge _) (by decide) ⟨by decide, by decide⟩ d_Law_work_20 (fun H locs X => ?_)
    rw [cw_out] at X
    refine lv_goto (tgt := 28) hx hb d_Law_work_21 (by decide) ?_
    refine lv_iconst (v := 0) hx hb d_Law_work_28 (by decide) ?_
    exact gm_iret hx hb hr hlk X ⟨rfl, ρ1, fl1, r, by rw [if_pos c12], hp⟩ d_Law_work_29
  · refine lv_lconst (v := 1) hx hb d_Law_work_15 (by decide) ?_
    refine lv_goto (tgt := 20) hx hb d_Law_work_16 (by decide) ?_
    refine gm_last hx hb X (k := 0) (cw_133 hN) (cw_ge _) (by decide) ⟨by decide, by decide⟩ d_Law_work_20 (fun H locs X => ?_)
    rw [cw_out] at X
    refine lv_goto (tgt := 28) hx hb d_Law_work_21 (by decide) ?_
    refine lv_iconst (v := 0) hx hb d_Law_work_28 (by decide) ?_
    exact gm_iret hx hb hr hlk X ⟨rfl, ρ1, fl1, r, by rw [if_neg c12], hp⟩ d_Law_work_29
set_option maxHeartbeats 4000000 in
theorem h_Law_base {F G : Type} [Lean.Grind.CommRing F] [Lean.Grind.CommRing G] {φ : Int → F} {inv : F → F} {ψ : Int → G} (l : Launch) (E : gm_E) (ad : Nat → Nat) (N : gm_M) (ρ : Nat → Nat → Int64) (fl : Nat → Int32) (hg : gE E ad) (hk : fk φ inv) (hn : fm ψ nN) {t : Nat} (h_t : t < 4) {g0 : F × F} (hG : ptR φ ρ fl 21 (some g0)) : ch_ l y_Law_base b_Law_base 3 [(0, 5, 8, 13)] { frames := 8, cells := 1, slots := 6, locals := 141 } E (cW E ad N ρ fl) [.ref (E.2.1 + 0), .int (nI t)] (fun k M' => k = 0 ∧ ∃ ρ' fl', M' = cW E ad N ρ' fl' ∧ (ptR φ ρ' fl' (41 + 3 * t) (some g0) ∧ kPt (41 + 3 * t) ρ ρ' fl fl')) := by
  refine gm_metH (by decide) (Nat.le_of_ble_eq_true rfl) (fun p e s m below meth c ls hx hb hml hr hlk hown hW htab X hl => ?_)
  have hl : lv_has ls 3 [(0, .ref (E.2.1 + 0)), (1, .int (nI t))] := hl
  refine lv_aload_n hx hb d_Law_base_0 rfl (lv_at hl 0 rfl) ?_
  refine lv_iload_n hx hb d_Law_base_1 rfl (lv_at hl 1 rfl) ?_
  refine gm_Vv hx hb hml hown hW X o0 (g_Ben_base l E ad N ρ fl hg hk hn h_t hG) (n := 1) ⟨⟨wl_Law_27, wi_Ben_base, wsel_Ben_base, winit_Ben, wc_Ben_base⟩, by decide +kernel, ⟨Nat.le_of_ble_eq_true rfl, Nat.le_of_ble_eq_true rfl⟩, _, rfl, rfl⟩ rfl hl.1 rfl (Nat.le_of_ble_eq_true rfl) d_Law_base_2 ⟨Nat.le_of_ble_eq_true rfl, Nat.le_of_ble_eq_true rfl⟩ (fun M1 H locs hp X => ?_)
  obtain ⟨ρ1, fl1, rfl, hp⟩ := hp
  refine lv_goto (tgt := 11) hx hb d_Law_base_5 (by decide) ?_
  refine lv_iconst (v := 0) hx hb d_Law_base_11 (by decide) ?_
  exact gm_iret hx hb hr hlk X ⟨rfl, ρ1, fl1, rfl, hp⟩ d_Law_base_12
set_option maxHeartbeats 4000000 in
theorem h_Law_none {F G : Type} [Lean.Grind.CommRing F] [Lean.Grind.CommRing G] {φ : Int → F} {inv : F → F} {ψ : Int → G} (l : Launch) (E : gm_E) (ad : Nat → Nat) (N : gm_M) (ρ : Nat → Nat → Int64) (fl : Nat → Int32) (hg : gE E ad) (hk : fk φ inv) (hn : fm ψ nN) {t : Nat} (h_t : t < 4) : ch_ l y_Law_none b_Law_none 3 [(0, 5, 8, 13)] { frames := 8, cells := 1, slots := 6, locals := 141 } E (cW E ad N ρ fl) [.ref (E.2.1 + 0), .int (nI t)] (fun k M' => k = 0 ∧ ∃ ρ' fl', M' = cW E ad N ρ' fl' ∧ (ptR φ ρ' fl' (41 + 3 * t) none ∧ kPt (41 + 3 * t) ρ ρ' fl fl')) := by
  refine gm_metH (by decide) (Nat.le_of_ble_eq_true rfl) (fun p e s m below meth c ls hx hb hml hr hlk hown hW htab X hl => ?_)
  have hl : lv_has ls 3 [(0, .ref (E.2.1 + 0)), (1, .int (nI t))] := hl
  refine lv_aload_n hx hb d_Law_none_0 rfl (lv_at hl 0 rfl) ?_
  refine lv_iload_n hx hb d_Law_none_1 rfl (lv_at hl 1 rfl) ?_
  refine gm_Vv hx hb hml hown hW X o0 (g_Ben_none l E ad N ρ fl hg hk hn h_t) (n := 1) ⟨⟨wl_Law_31, wi_Ben_none, wsel_Ben_none, winit_Ben, wc_Ben_none⟩, by decide +kernel, ⟨Nat.le_of_ble_eq_true rfl, Nat.le_of_ble_eq_true rfl⟩, _, rfl, rfl⟩ rfl hl.1 rfl (Nat.le_of_ble_eq_true rfl) d_Law_none_2 ⟨Nat.le_of_ble_eq_true rfl, Nat.le_of_ble_eq_true rfl⟩ (fun M1 H locs hp X => ?_)
  obtain ⟨ρ1, fl1, rfl, hp⟩ := hp
  refine lv_goto (tgt := 11) hx hb d_Law_none_5 (by decide) ?_
  refine lv_iconst (v := 0) hx hb d_Law_none_11 (by decide) ?_
  exact gm_iret hx hb hr hlk X ⟨rfl, ρ1, fl1, rfl, hp⟩ d_Law_none_12
set_option maxHeartbeats 4000000 in
theorem h_Law_lay {F G : Type} [Lean.Grind.CommRing F] [Lean.Grind.CommRing G] {φ : Int → F} {inv : F → F} {ψ : Int → G} (l : Launch) (E : gm_E) (ad : Nat → Nat) (N : gm_M) (ρ : Nat → Nat → Int64) (fl : Nat → Int32) (hg : gE E ad) (hk : fk φ inv) (hn : fm ψ nN) {fo : Nat → Int64} (hN : N (E.2.1 + 133) = some (LA E 1 fo)) {t : Nat} (h_t : t < 4) {a : Nat} (h_a : a < 8) {b : Nat} (h_b : b < 8) : ch_ l y_Law_lay b_Law_lay 6 [(0, 19, 22, 13)] { frames := 8, cells := 3, slots := 18, locals := 143 } E (cW E ad N ρ fl) [.ref (E.2.1 + 0), .int (nI t), .int (nI a), .int (nI b), .ref (E.2.1 + 133)] (fun k M' => k = 0 ∧ ∃ (ρ' : Nat → Nat → Int64) (fl' : Nat → Int32) (r : Int32), M' = cW E ad (gm_up N (E.2.1 + 133) (LA E 1 (vp_updL fo 0 (if r = 0 then 0 else 1)))) ρ' fl' ∧ ((r = 0 ∧ ¬ ((NV (ρ (2 + a)) : Int) < nP ∧ (NV (ρ (2 + b)) : Int) < nP ∧ φ (NV (ρ (2 + b))) * φ (NV (ρ (2 + b))) = sqV (φ (NV (ρ (2 + a))))) ∧ kNu 0 0 ρ ρ' fl fl') ∨ (r = 1 ∧ ((NV (ρ (2 + a)) : Int) < nP ∧ (NV (ρ (2 + b)) : Int) < nP ∧ φ (NV (ρ (2 + b))) * φ (NV (ρ (2 + b))) = sqV (φ (NV (ρ (2 + a))))) ∧ ptR φ ρ' fl' (41 + 3 * t) (some (φ (NV (ρ (2 + a))), φ (NV (ρ (2 + b))))) ∧ kPt (41 + 3 * t) ρ ρ' fl fl'))) := by
  refine gm_metH (by decide) (Nat.le_of_ble_eq_true rfl) (fun p e s m below meth c ls hx hb hml hr hlk hown hW htab X hl => ?_)
  have hl : lv_has ls 6 [(0, .ref (E.2.1 + 0)), (1, .int (nI t)), (2, .int (nI a)), (3, .int (nI b)), (4, .ref (E.2.1 + 133))] := hl
  refine lv_aload hx hb d_Law_lay_0 (lv_at hl 4 rfl) ?_
  refine lv_iconst (v := 0) hx hb d_Law_lay_2 (by decide) ?_
  refine lv_aload_n hx hb d_Law_lay_3 rfl (lv_at hl 0 rfl) ?_
  refine lv_iload_n hx hb d_Law_lay_4 rfl (lv_at hl 1 rfl) ?_
  refine lv_iload_n hx hb d_Law_lay_5 rfl (lv_at hl 2 rfl) ?_
  refine lv_iload_n hx hb d_Law_lay_6 rfl (lv_at hl 3 rfl) ?_
  refine gm_Vi hx hb hml hown hW X o0 (g_Ben_lay l E ad N ρ fl hg hk hn h_t h_a h_b) (n := 3) ⟨⟨wl_Law_34, wi_Ben_lay, wsel_Ben_lay, winit_Ben, wc_Ben_lay⟩, by decide +kernel, ⟨Nat.le_of_ble_eq_true rfl, Nat.le_of_ble_eq_true rfl⟩, _, rfl, rfl⟩ rfl hl.1 rfl (Nat.le_of_ble_eq_true rfl) d_Law_lay_7 ⟨Nat.le_of_ble_eq_true rfl, Nat.le_of_ble_eq_true rfl⟩ (fun r M1 H locs hp X => ?_)
  obtain ⟨ρ1, fl1, rfl, hp⟩ := hp
  refine lv_if_eq (tgt := 17) hx hb d_Law_lay_10 (by decide) (fun c10 => ?_) (fun c10 => ?_)
  · refine lv_lconst (v := 0) hx hb d_Law_lay_17 (by decide) ?_
    refine gm_last hx hb X (k := 0) (cw_133 hN) (cw_ge _) (by decide) ⟨by decide, by decide⟩ d_Law_lay_18 (fun H locs X => ?_)
    rw [cw_out] at X
    refine lv_goto (tgt := 26) hx hb d_Law_lay_19 (by decide) ?_
    refine lv_iconst (v := 0) hx hb d_Law_lay_26 (by decide) ?_
    exact gm_iret hx hb hr hlk X ⟨rfl, ρ1, fl1, r, by rw [if_pos c10], hp⟩ d_Law_lay_27
  · refine lv_lconst (v := 1) hx hb d_Law_lay_13 (by decide) ?_
    refine lv_goto (tgt := 18) hx hb d_Law_lay_14 (by decide) ?_
    refine gm_last hx hb X (k := 0) (cw_133 hN) (cw_ge _) (by decide) ⟨by decide, by decide⟩ d_Law_lay_18 (fun H locs X => ?_)
    rw [cw_out] at X
    refine lv_goto (tgt := 26) hx hb d_Law_lay_19 (by decide) ?_
    refine lv_iconst (v := 0) hx hb d_Law_lay_26 (by decide) ?_
    exact gm_iret hx hb hr hlk X ⟨rfl, ρ1, fl1, r, by rw [if_neg c10], hp⟩ d_Law_lay_27
set_option maxHeartbeats 4000000 in
theorem h_Law_lift {F G : Type} [Lean.Grind.CommRing F] [Lean.Grind.CommRing G] {φ : Int → F} {inv : F → F} {ψ : Int → G} (l : Launch) (E : gm_E) (ad : Nat → Nat) (N : gm_M) (ρ : Nat → Nat → Int64) (fl : Nat → Int32) (hg : gE E ad) (hk : fk φ inv) (hn : fm ψ nN) {fo : Nat → Int64} (hN : N (E.2.1 + 133) = some (LA E 1 fo)) {t : Nat} (h_t : t < 4) {a : Nat} (h_a : a < 8) {odd : Int32} (hodd : odd = 0 ∨ odd = 1) : ch_ l y_Law_lift b_Law_lift 6 [(0, 19, 22, 13)] { frames := 8, cells := 2, slots := 12, locals := 143 } E (cW E ad N ρ fl) [.ref (E.2.1 + 0), .int (nI t), .int (nI a), .int odd, .ref (E.2.1 + 133)] (fun k M' => k = 0 ∧ ∃ (ρ' : Nat → Nat → Int64) (fl' : Nat → Int32) (r : Int32), M' = cW E ad (gm_up N (E.2.1 + 133) (LA E 1 (vp_updL fo 0 (if r = 0 then 0 else 1)))) ρ' fl' ∧ ((r = 0 ∧ ¬ ((NV (ρ (2 + a)) : Int) < nP ∧ (fp_pw (sqV (φ (NV (ρ (2 + a))))) (NV sRt)) * (fp_pw (sqV (φ (NV (ρ (2 + a))))) (NV sRt)) = sqV (φ (NV (ρ (2 + a))))) ∧ kNu 0 0 ρ ρ' fl fl') ∨ (r = 1 ∧ ((NV (ρ (2 + a)) : Int) < nP ∧ (fp_pw (sqV (φ (NV (ρ (2 + a))))) (NV sRt)) * (fp_pw (sqV (φ (NV (ρ (2 + a))))) (NV sRt)) = sqV (φ (NV (ρ (2 + a))))) ∧ ptR φ ρ' fl' (41 + 3 * t) (some ((φ (NV (ρ (2 + a)))), rtV φ (φ (NV (ρ (2 + a)))) odd)) ∧ kPt (41 + 3 * t) ρ ρ' fl fl'))) := by
  refine gm_metH (by decide) (Nat.le_of_ble_eq_true rfl) (fun p e s m below meth c ls hx hb hml hr hlk hown hW htab X hl => ?_)
  have hl : lv_has ls 6 [(0, .ref (E.2.1 + 0)), (1, .int (nI t)), (2, .int (nI a)), (3, .int odd), (4, .ref (E.2.1 + 133))] := hl
  refine lv_aload hx hb d_Law_lift_0 (lv_at hl 4 rfl) ?_
  refine lv_iconst (v := 0) hx hb d_Law_lift_2 (by decide) ?_
  refine lv_aload_n hx hb d_Law_lift_3 rfl (lv_at hl 0 rfl) ?_
  refine lv_iload_n hx hb d_Law_lift_4 rfl (lv_at hl 1 rfl) ?_
  refine lv_iload_n hx hb d_Law_lift_5 rfl (lv_at hl 2 rfl) ?_
  refine lv_iload_n hx hb d_Law_lift_6 rfl (lv_at hl 3 rfl) ?_
  refine gm_Vi hx hb hml hown hW X o0 (g_Ben_lift l E ad N ρ fl hg hk hn h_t h_a hodd) (n := 3) ⟨⟨wl_Law_38, wi_Ben_lift, wsel_Ben_lift, winit_Ben, wc_Ben_lift⟩, by decide +kernel, ⟨Nat.le_of_ble_eq_true rfl, Nat.le_of_ble_eq_true rfl⟩, _, rfl, rfl⟩ rfl hl.1 rfl (Nat.le_of_ble_eq_true rfl) d_Law_lift_7 ⟨Nat.le_of_ble_eq_true rfl, Nat.le_of_ble_eq_true rfl⟩ (fun r M1 H locs hp X => ?_)
  obtain ⟨ρ1, fl1, rfl, hp⟩ := hp
  refine lv_if_eq (tgt := 17) hx hb d_Law_lift_10 (by decide) (fun c10 => ?_) (fun c10 => ?_)
  · refine lv_lconst (v := 0) hx hb d_Law_lift_17 (by decide) ?_
    refine gm_last hx hb X (k := 0) (cw_133 hN) (cw_ge _) (by decide) ⟨by decide, by decide⟩ d_Law_lift_18 (fun H locs X => ?_)
    rw [cw_out] at X
    refine lv_goto (tgt := 26) hx hb d_Law_lift_19 (by decide) ?_
    refine lv_iconst (v := 0) hx hb d_Law_lift_26 (by decide) ?_
    exact gm_iret hx hb hr hlk X ⟨rfl, ρ1, fl1, r, by rw [if_pos c10], hp⟩ d_Law_lift_27
  · refine lv_lconst (v := 1) hx hb d_Law_lift_13 (by decide) ?_
    refine lv_goto (tgt := 18) hx hb d_Law_lift_14 (by decide) ?_
    refine gm_last hx hb X (k := 0) (cw_133 hN) (cw_ge _) (by decide) ⟨by decide, by decide⟩ d_Law_lift_18 (fun H locs X => ?_)
    rw [cw_out] at X
    refine lv_goto (tgt := 26) hx hb d_Law_lift_19 (by decide) ?_
    refine lv_iconst (v := 0) hx hb d_Law_lift_26 (by decide) ?_
    exact gm_iret hx hb hr hlk X ⟨rfl, ρ1, fl1, r, by rw [if_neg c10], hp⟩ d_Law_lift_27
set_option maxHeartbeats 4000000 in
theorem h_Law_show {F G : Type} [Lean.Grind.CommRing F] [Lean.Grind.CommRing G] {φ : Int → F} {inv : F → F} {ψ : Int → G} (l : Launch) (E : gm_E) (ad : Nat → Nat) (N : gm_M) (ρ : Nat → Nat → Int64) (fl : Nat → Int32) (hg : gE E ad) (hk : fk φ inv) (hn : fm ψ nN) {fo : Nat → Int64} (hN : N (E.2.1 + 133) = some (LA E 1 fo)) {t : Nat} (h_t : t < 4) {a : Nat} (h_a : a < 8) {b : Nat} (h_b : b < 8) {pp : Option (F × F)} (hpp : ptR φ ρ fl (41 + 3 * t) pp) : ch_ l y_Law_show b_Law_show 6 [(0, 19, 22, 13)] { frames := 8, cells := 3, slots := 18, locals := 143 } E (cW E ad N ρ fl) [.ref (E.2.1 + 0), .int (nI t), .int (nI a), .int (nI b), .ref (E.2.1 + 133)] (fun k M' => k = 0 ∧ ∃ (ρ' : Nat → Nat → Int64) (fl' : Nat → Int32) (r : Int32), M' = cW E ad (gm_up N (E.2.1 + 133) (LA E 1 (vp_updL fo 0 (if r = 0 then 0 else 1)))) ρ' fl' ∧ ((r = 0 ∧ pp = none ∧ kNu 0 0 ρ ρ' fl fl') ∨ (r = 1 ∧ ∃ a0, pp = some a0 ∧ NV (ρ' (2 + b)) = rp φ nP a0.2 ∧ (a ≠ b → NV (ρ' (2 + a)) = rp φ nP a0.1) ∧ kNu (2 + a) (2 + b) ρ ρ' fl fl'))) := by
  refine gm_metH (by decide) (Nat.le_of_ble_eq_true rfl) (fun p e s m below meth c ls hx hb hml hr hlk hown hW htab X hl => ?_)
  have hl : lv_has ls 6 [(0, .ref (E.2.1 + 0)), (1, .int (nI t)), (2, .int (nI a)), (3, .int (nI b)), (4, .ref (E.2.1 + 133))] := hl
  refine lv_aload hx hb d_Law_show_0 (lv_at hl 4 rfl) ?_
  refine lv_iconst (v := 0) hx hb d_Law_show_2 (by decide) ?_
  refine lv_aload_n hx hb d_Law_show_3 rfl (lv_at hl 0 rfl) ?_
  refine lv_iload_n hx hb d_Law_show_4 rfl (lv_at hl 1 rfl) ?_
  refine lv_iload_n hx hb d_Law_show_5 rfl (lv_at hl 2 rfl) ?_
  refine lv_iload_n hx hb d_Law_show_6 rfl (lv_at hl 3 rfl) ?_
  refine gm_Vi hx hb hml hown hW X o0 (g_Ben_show l E ad N ρ fl hg hk hn h_t h_a h_b hpp) (n := 3) ⟨⟨wl_Law_42, wi_Ben_show, wsel_Ben_show, winit_Ben, wc_Ben_show⟩, by decide +kernel, ⟨Nat.le_of_ble_eq_true rfl, Nat.le_of_ble_eq_true rfl⟩, _, rfl, rfl⟩ rfl hl.1 rfl (Nat.le_of_ble_eq_true rfl) d_Law_show_7 ⟨Nat.le_of_ble_eq_true rfl, Nat.le_of_ble_eq_true rfl⟩ (fun r M1 H locs hp X => ?_)
  obtain ⟨ρ1, fl1, rfl, hp⟩ := hp
  refine lv_if_eq (tgt := 17) hx hb d_Law_show_10 (by decide) (fun c10 => ?_) (fun c10 => ?_)
  · refine lv_lconst (v := 0) hx hb d_Law_show_17 (by decide) ?_
    refine gm_last hx hb X (k := 0) (cw_133 hN) (cw_ge _) (by decide) ⟨by decide, by decide⟩ d_Law_show_18 (fun H locs X => ?_)
    rw [cw_out] at X
    refine lv_goto (tgt := 26) hx hb d_Law_show_19 (by decide) ?_
    refine lv_iconst (v := 0) hx hb d_Law_show_26 (by decide) ?_
    exact gm_iret hx hb hr hlk X ⟨rfl, ρ1, fl1, r, by rw [if_pos c10], hp⟩ d_Law_show_27
  · refine lv_lconst (v := 1) hx hb d_Law_show_13 (by decide) ?_
    refine lv_goto (tgt := 18) hx hb d_Law_show_14 (by decide) ?_
    refine gm_last hx hb X (k := 0) (cw_133 hN) (cw_ge _) (by decide) ⟨by decide, by decide⟩ d_Law_show_18 (fun H locs X => ?_)
    rw [cw_out] at X
    refine lv_goto (tgt := 26) hx hb d_Law_show_19 (by decide) ?_
    refine lv_iconst (v := 0) hx hb d_Law_show_26 (by decide) ?_
    exact gm_iret hx hb hr hlk X ⟨rfl, ρ1, fl1, r, by rw [if_neg c10], hp⟩ d_Law_show_27
set_option maxHeartbeats 4000000 in
theorem h_Law_add {F G : Type} [Lean.Grind.CommRing F] [Lean.Grind.CommRing G] {φ : Int → F} {inv : F → F} {ψ : Int → G} (l : Launch) (E : gm_E) (ad : Nat → Nat) (N : gm_M) (ρ : Nat → Nat → Int64) (fl : Nat → Int32) (hg : gE E ad) (hk : fk φ inv) (hn : fm ψ nN) {t : Nat} (h_t : t < 4) {a : Nat} (h_a : a < 4) {b : Nat} (h_b : b < 4) {pa pb : Option (F × F)} (hA : ptR φ ρ fl (41 + 3 * a) pa) (hB : ptR φ ρ fl (41 + 3 * b) pb) : ch_ l y_Law_add b_Law_add 5 [(0, 7, 10, 13)] { frames := 8, cells := 3, slots := 18, locals := 175 } E (cW E ad N ρ fl) [.ref (E.2.1 + 0), .int (nI t), .int (nI a), .int (nI b)] (fun k M' => k = 0 ∧ ∃ ρ' fl', M' = cW E ad N ρ' fl' ∧ (ptR φ ρ' fl' (41 + 3 * t) (ec_add inv pa pb) ∧ kPt (41 + 3 * t) ρ ρ' fl fl')) := by
  refine gm_metH (by decide) (Nat.le_of_ble_eq_true rfl) (fun p e s m below meth c ls hx hb hml hr hlk hown hW htab X hl => ?_)
  have hl : lv_has ls 5 [(0, .ref (E.2.1 + 0)), (1, .int (nI t)), (2, .int (nI a)), (3, .int (nI b))] := hl
  refine lv_aload_n hx hb d_Law_add_0 rfl (lv_at hl 0 rfl) ?_
  refine lv_iload_n hx hb d_Law_add_1 rfl (lv_at hl 1 rfl) ?_
  refine lv_iload_n hx hb d_Law_add_2 rfl (lv_at hl 2 rfl) ?_
  refine lv_iload_n hx hb d_Law_add_3 rfl (lv_at hl 3 rfl) ?_
  refine gm_Vv hx hb hml hown hW X o0 (g_Ben_add l E ad N ρ fl hg hk hn h_t h_a h_b hA hB) (n := 3) ⟨⟨wl_Law_45, wi_Ben_add, wsel_Ben_add, winit_Ben, wc_Ben_add⟩, by decide +kernel, ⟨Nat.le_of_ble_eq_true rfl, Nat.le_of_ble_eq_true rfl⟩, _, rfl, rfl⟩ rfl hl.1 rfl (Nat.le_of_ble_eq_true rfl) d_Law_add_4 ⟨Nat.le_of_ble_eq_true rfl, Nat.le_of_ble_eq_true rfl⟩ (fun M1 H locs hp X => ?_)
  obtain ⟨ρ1, fl1, rfl, hp⟩ := hp
  refine lv_goto (tgt := 14) hx hb d_Law_add_7 (by decide) ?_
  refine lv_iconst (v := 0) hx hb d_Law_add_14 (by decide) ?_
  exact gm_iret hx hb hr hlk X ⟨rfl, ρ1, fl1, rfl, hp⟩ d_Law_add_15
set_option maxHeartbeats 4000000 in
theorem h_Law_times {F G : Type} [Lean.Grind.CommRing F] [Lean.Grind.CommRing G] {φ : Int → F} {inv : F → F} {ψ : Int → G} (l : Launch) (E : gm_E) (ad : Nat → Nat) (N : gm_M) (ρ : Nat → Nat → Int64) (fl : Nat → Int32) (hg : gE E ad) (hk : fk φ inv) (hn : fm ψ nN) {t : Nat} (h_t : t < 4) {b : Nat} (h_b : b < 8) {a : Nat} (h_a : a < 4) {pa : Option (F × F)} (hA : ptR φ ρ fl (41 + 3 * a) pa) : ch_ l y_Law_times b_Law_times 5 [(0, 7, 10, 13)] { frames := 8, cells := 3, slots := 18, locals := 175 } E (cW E ad N ρ fl) [.ref (E.2.1 + 0), .int (nI t), .int (nI b), .int (nI a)] (fun k M' => k = 0 ∧ ∃ ρ' fl', M' = cW E ad N ρ' fl' ∧ (ptR φ ρ' fl' (41 + 3 * t) (ec_nm inv (NV (ρ (2 + b))) pa) ∧ kPt (41 + 3 * t) ρ ρ' fl fl')) := by
  refine gm_metH (by decide) (Nat.le_of_ble_eq_true rfl) (fun p e s m below meth c ls hx hb hml hr hlk hown hW htab X hl => ?_)
  have hl : lv_has ls 5 [(0, .ref (E.2.1 + 0)), (1, .int (nI t)), (2, .int (nI b)), (3, .int (nI a))] := hl
  refine lv_aload_n hx hb d_Law_times_0 rfl (lv_at hl 0 rfl) ?_
  refine lv_iload_n hx hb d_Law_times_1 rfl (lv_at hl 1 rfl) ?_
  refine lv_iload_n hx hb d_Law_times_2 rfl (lv_at hl 2 rfl) ?_
  refine lv_iload_n hx hb d_Law_times_3 rfl (lv_at hl 3 rfl) ?_
  refine gm_Vv hx hb hml hown hW X o0 (g_Ben_times l E ad N ρ fl hg hk hn h_t h_b h_a hA) (n := 3) ⟨⟨wl_Law_49, wi_Ben_times, wsel_Ben_times, winit_Ben, wc_Ben_times⟩, by decide +kernel, ⟨Nat.le_of_ble_eq_true rfl, Nat.le_of_ble_eq_true rfl⟩, _, rfl, rfl⟩ rfl hl.1 rfl (Nat.le_of_ble_eq_true rfl) d_Law_times_4 ⟨Nat.le_of_ble_eq_true rfl, Nat.le_of_ble_eq_true rfl⟩ (fun M1 H locs hp X => ?_)
  obtain ⟨ρ1, fl1, rfl, hp⟩ := hp
  refine lv_goto (tgt := 14) hx hb d_Law_times_7 (by decide) ?_
  refine lv_iconst (v := 0) hx hb d_Law_times_14 (by decide) ?_
  exact gm_iret hx hb hr hlk X ⟨rfl, ρ1, fl1, rfl, hp⟩ d_Law_times_15
set_option maxHeartbeats 4000000 in
theorem h_Law_same {F G : Type} [Lean.Grind.CommRing F] [Lean.Grind.CommRing G] {φ : Int → F} {inv : F → F} {ψ : Int → G} (l : Launch) (E : gm_E) (ad : Nat → Nat) (N : gm_M) (ρ : Nat → Nat → Int64) (fl : Nat → Int32) (hg : gE E ad) (hk : fk φ inv) (hn : fm ψ nN) {fo : Nat → Int64} (hN : N (E.2.1 + 133) = some (LA E 1 fo)) {a : Nat} (h_a : a < 4) {b : Nat} (h_b : b < 4) {pa pb : Option (F × F)} (hA : ptR φ ρ fl (41 + 3 * a) pa) (hB : ptR φ ρ fl (41 + 3 * b) pb) : ch_ l y_Law_same b_Law_same 5 [(0, 17, 20, 13)] { frames := 8, cells := 2, slots := 12, locals := 142 } E (cW E ad N ρ fl) [.ref (E.2.1 + 0), .int (nI a), .int (nI b), .ref (E.2.1 + 133)] (fun k M' => k = 0 ∧ ∃ (ρ' : Nat → Nat → Int64) (fl' : Nat → Int32) (r : Int32), M' = cW E ad (gm_up N (E.2.1 + 133) (LA E 1 (vp_updL fo 0 (if r = 0 then 0 else 1)))) ρ' fl' ∧ (((r = 1 ∧ pa = pb) ∨ (r = 0 ∧ ¬ pa = pb)) ∧ ρ' = ρ ∧ fl' = fl)) := by
  refine gm_metH (by decide) (Nat.le_of_ble_eq_true rfl) (fun p e s m below meth c ls hx hb hml hr hlk hown hW htab X hl => ?_)
  have hl : lv_has ls 5 [(0, .ref (E.2.1 + 0)), (1, .int (nI a)), (2, .int (nI b)), (3, .ref (E.2.1 + 133))] := hl
  refine lv_aload_n hx hb d_Law_same_0 rfl (lv_at hl 3 rfl) ?_
  refine lv_iconst (v := 0) hx hb d_Law_same_1 (by decide) ?_
  refine lv_aload_n hx hb d_Law_same_2 rfl (lv_at hl 0 rfl) ?_
  refine lv_iload_n hx hb d_Law_same_3 rfl (lv_at hl 1 rfl) ?_
  refine lv_iload_n hx hb d_Law_same_4 rfl (lv_at hl 2 rfl) ?_
  refine gm_Vi hx hb hml hown hW X o0 (g_Ben_same l E ad N ρ fl hg hk hn h_a h_b hA hB) (n := 2) ⟨⟨wl_Law_52, wi_Ben_same, wsel_Ben_same, winit_Ben, wc_Ben_same⟩, by decide +kernel, ⟨Nat.le_of_ble_eq_true rfl, Nat.le_of_ble_eq_true rfl⟩, _, rfl, rfl⟩ rfl hl.1 rfl (Nat.le_of_ble_eq_true rfl) d_Law_same_5 ⟨Nat.le_of_ble_eq_true rfl, Nat.le_of_ble_eq_true rfl⟩ (fun r M1 H locs hp X => ?_)
  obtain ⟨ρ1, fl1, rfl, hp⟩ := hp
  refine lv_if_eq (tgt := 15) hx hb d_Law_same_8 (by decide) (fun c8 => ?_) (fun c8 => ?_)
  · refine lv_lconst (v := 0) hx hb d_Law_same_15 (by decide) ?_
    refine gm_last hx hb X (k := 0) (cw_133 hN) (cw_ge _) (by decide) ⟨by decide, by decide⟩ d_Law_same_16 (fun H locs X => ?_)
    rw [cw_out] at X
    refine lv_goto (tgt := 24) hx hb d_Law_same_17 (by decide) ?_
    refine lv_iconst (v := 0) hx hb d_Law_same_24 (by decide) ?_
    exact gm_iret hx hb hr hlk X ⟨rfl, ρ1, fl1, r, by rw [if_pos c8], hp⟩ d_Law_same_25
  · refine lv_lconst (v := 1) hx hb d_Law_same_11 (by decide) ?_
    refine lv_goto (tgt := 16) hx hb d_Law_same_12 (by decide) ?_
    refine gm_last hx hb X (k := 0) (cw_133 hN) (cw_ge _) (by decide) ⟨by decide, by decide⟩ d_Law_same_16 (fun H locs X => ?_)
    rw [cw_out] at X
    refine lv_goto (tgt := 24) hx hb d_Law_same_17 (by decide) ?_
    refine lv_iconst (v := 0) hx hb d_Law_same_24 (by decide) ?_
    exact gm_iret hx hb hr hlk X ⟨rfl, ρ1, fl1, r, by rw [if_neg c8], hp⟩ d_Law_same_25
set_option maxHeartbeats 4000000 in
theorem h_Law_sign {F G : Type} [Lean.Grind.CommRing F] [Lean.Grind.CommRing G] {φ : Int → F} {inv : F → F} {ψ : Int → G} (l : Launch) (E : gm_E) (ad : Nat → Nat) (N : gm_M) (ρ : Nat → Nat → Int64) (fl : Nat → Int32) (hg : gE E ad) (hk : fk φ inv) (hn : fm ψ nN) {fo : Nat → Int64} (hN : N (E.2.1 + 133) = some (LA E 1 fo)) {t : Nat} (h_t : t < 8) {u : Nat} (h_u : u < 8) {a : Nat} (h_a : a < 8) {b : Nat} (h_b : b < 8) {d : Nat} (h_d : d < 8) {g0 : F × F} (hG : ptR φ ρ fl 21 (some g0)) (hord : ∀ n : Nat, ¬ n = 0 → (n : Int) < nN → ∃ a, ec_nm inv n (some g0) = some a) : ch_ l y_Law_sign b_Law_sign 8 [(0, 23, 26, 13)] { frames := 8, cells := 5, slots := 30, locals := 177 } E (cW E ad N ρ fl) [.ref (E.2.1 + 0), .int (nI t), .int (nI u), .int (nI a), .int (nI b), .int (nI d), .ref (E.2.1 + 133)] (fun k M' => k = 0 ∧ ∃ (ρ' : Nat → Nat → Int64) (fl' : Nat → Int32) (r : Int32), M' = cW E ad (gm_up N (E.2.1 + 133) (LA E 1 (vp_updL fo 0 (if r = 0 then 0 else 1)))) ρ' fl' ∧ ((r = 0 ∧ ¬ (((NV (ρ (2 + a)) : Int) < nN ∧ ¬ NV (ρ (2 + a)) = 0) ∧ ((NV (ρ (2 + b)) : Int) < nN ∧ ¬ NV (ρ (2 + b)) = 0)) ∧ kNu 0 0 ρ ρ' fl fl') ∨ (r = 1 ∧ (((NV (ρ (2 + a)) : Int) < nN ∧ ¬ NV (ρ (2 + a)) = 0) ∧ ((NV (ρ (2 + b)) : Int) < nN ∧ ¬ NV (ρ (2 + b)) = 0)) ∧ ∃ a0, ec_nm inv (NV (ρ (2 + b))) (some g0) = some a0 ∧ NV (ρ' (2 + u)) = rp ψ nN ((ψ (NV (ρ (2 + a))) * (ψ (rp φ nP a0.1 : Nat)) + ψ (NV (ρ (2 + d)))) * fp_pw (ψ (NV (ρ (2 + b)))) (NV sN2)) ∧ (t ≠ u → NV (ρ' (2 + t)) = rp ψ nN (ψ (rp φ nP a0.1 : Nat))) ∧ kNu (2 + t) (2 + u) ρ ρ' fl fl'))) := by
  refine gm_metH (by decide) (Nat.le_of_ble_eq_true rfl) (fun p e s m below meth c ls hx hb hml hr hlk hown hW htab X hl => ?_)
  have hl : lv_has ls 8 [(0, .ref (E.2.1 + 0)), (1, .int (nI t)), (2, .int (nI u)), (3, .int (nI a)), (4, .int (nI b)), (5, .int (nI d)), (6, .ref (E.2.1 + 133))] := hl
  refine lv_aload hx hb d_Law_sign_0 (lv_at hl 6 rfl) ?_
  refine lv_iconst (v := 0) hx hb d_Law_sign_2 (by decide) ?_
  refine lv_aload_n hx hb d_Law_sign_3 rfl (lv_at hl 0 rfl) ?_
  refine lv_iload_n hx hb d_Law_sign_4 rfl (lv_at hl 1 rfl) ?_
  refine lv_iload_n hx hb d_Law_sign_5 rfl (lv_at hl 2 rfl) ?_
  refine lv_iload_n hx hb d_Law_sign_6 rfl (lv_at hl 3 rfl) ?_
  refine lv_iload hx hb d_Law_sign_7 (lv_at hl 4 rfl) ?_
  refine lv_iload hx hb d_Law_sign_9 (lv_at hl 5 rfl) ?_
  refine gm_Vi hx hb hml hown hW X o0 (g_Ben_sign l E ad N ρ fl hg hk hn h_t h_u h_a h_b h_d hG hord) (n := 5) ⟨⟨wl_Law_56, wi_Ben_sign, wsel_Ben_sign, winit_Ben, wc_Ben_sign⟩, by decide +kernel, ⟨Nat.le_of_ble_eq_true rfl, Nat.le_of_ble_eq_true rfl⟩, _, rfl, rfl⟩ rfl hl.1 rfl (Nat.le_of_ble_eq_true rfl) d_Law_sign_11 ⟨Nat.le_of_ble_eq_true rfl, Nat.le_of_ble_eq_true rfl⟩ (fun r M1 H locs hp X => ?_)
  obtain ⟨ρ1, fl1, rfl, hp⟩ := hp
  refine lv_if_eq (tgt := 21) hx hb d_Law_sign_14 (by decide) (fun c14 => ?_) (fun c14 => ?_)
  · refine lv_lconst (v := 0) hx hb d_Law_sign_21 (by decide) ?_
    refine gm_last hx hb X (k := 0) (cw_133 hN) (cw_ge _) (by decide) ⟨by decide, by decide⟩ d_Law_sign_22 (fun H locs X => ?_)
    rw [cw_out] at X
    refine lv_goto (tgt := 30) hx hb d_Law_sign_23 (by decide) ?_
    refine lv_iconst (v := 0) hx hb d_Law_sign_30 (by decide) ?_
    exact gm_iret hx hb hr hlk X ⟨rfl, ρ1, fl1, r, by rw [if_pos c14], hp⟩ d_Law_sign_31
  · refine lv_lconst (v := 1) hx hb d_Law_sign_17 (by decide) ?_
    refine lv_goto (tgt := 22) hx hb d_Law_sign_18 (by decide) ?_
    refine gm_last hx hb X (k := 0) (cw_133 hN) (cw_ge _) (by decide) ⟨by decide, by decide⟩ d_Law_sign_22 (fun H locs X => ?_)
    rw [cw_out] at X
    refine lv_goto (tgt := 30) hx hb d_Law_sign_23 (by decide) ?_
    refine lv_iconst (v := 0) hx hb d_Law_sign_30 (by decide) ?_
    exact gm_iret hx hb hr hlk X ⟨rfl, ρ1, fl1, r, by rw [if_neg c14], hp⟩ d_Law_sign_31
set_option maxHeartbeats 4000000 in
theorem h_Law_verify {F G : Type} [Lean.Grind.CommRing F] [Lean.Grind.CommRing G] {φ : Int → F} {inv : F → F} {ψ : Int → G} (l : Launch) (E : gm_E) (ad : Nat → Nat) (N : gm_M) (ρ : Nat → Nat → Int64) (fl : Nat → Int32) (hg : gE E ad) (hk : fk φ inv) (hn : fm ψ nN) {fo : Nat → Int64} (hN : N (E.2.1 + 133) = some (LA E 1 fo)) {t : Nat} (h_t : t < 4) {d : Nat} (h_d : d < 8) {a : Nat} (h_a : a < 8) {b : Nat} (h_b : b < 8) {g0 : F × F} {pp : Option (F × F)} (hG : ptR φ ρ fl 21 (some g0)) (hpp : ptR φ ρ fl (41 + 3 * t) pp) : ch_ l y_Law_verify b_Law_verify 7 [(0, 21, 24, 13)] { frames := 8, cells := 4, slots := 24, locals := 176 } E (cW E ad N ρ fl) [.ref (E.2.1 + 0), .int (nI t), .int (nI d), .int (nI a), .int (nI b), .ref (E.2.1 + 133)] (fun k M' => k = 0 ∧ ∃ (ρ' : Nat → Nat → Int64) (fl' : Nat → Int32) (r : Int32), M' = cW E ad (gm_up N (E.2.1 + 133) (LA E 1 (vp_updL fo 0 (if r = 0 then 0 else 1)))) ρ' fl' ∧ (((r = 0 ∧ ¬ (¬ pp = none ∧ ((NV (ρ (2 + a)) : Int) < nN ∧ ¬ NV (ρ (2 + a)) = 0) ∧ ((NV (ρ (2 + b)) : Int) < nN ∧ ¬ NV (ρ (2 + b)) = 0) ∧ ∃ a0, (ec_add inv (ec_nm inv (rp ψ nN (ψ (NV (ρ (2 + d))) * (fp_pw (ψ (NV (ρ (2 + b)))) (NV sN2)))) (some g0)) (ec_nm inv (rp ψ nN (ψ (NV (ρ (2 + a))) * (fp_pw (ψ (NV (ρ (2 + b)))) (NV sN2)))) pp)) = some a0 ∧ ψ (rp φ nP a0.1 : Nat) = ψ (NV (ρ (2 + a))))) ∨ (r = 1 ∧ (¬ pp = none ∧ ((NV (ρ (2 + a)) : Int) < nN ∧ ¬ NV (ρ (2 + a)) = 0) ∧ ((NV (ρ (2 + b)) : Int) < nN ∧ ¬ NV (ρ (2 + b)) = 0) ∧ ∃ a0, (ec_add inv (ec_nm inv (rp ψ nN (ψ (NV (ρ (2 + d))) * (fp_pw (ψ (NV (ρ (2 + b)))) (NV sN2)))) (some g0)) (ec_nm inv (rp ψ nN (ψ (NV (ρ (2 + a))) * (fp_pw (ψ (NV (ρ (2 + b)))) (NV sN2)))) pp)) = some a0 ∧ ψ (rp φ nP a0.1 : Nat) = ψ (NV (ρ (2 + a)))))) ∧ kNu 0 0 ρ ρ' fl fl')) := by
  refine gm_metH (by decide) (Nat.le_of_ble_eq_true rfl) (fun p e s m below meth c ls hx hb hml hr hlk hown hW htab X hl => ?_)
  have hl : lv_has ls 7 [(0, .ref (E.2.1 + 0)), (1, .int (nI t)), (2, .int (nI d)), (3, .int (nI a)), (4, .int (nI b)), (5, .ref (E.2.1 + 133))] := hl
  refine lv_aload hx hb d_Law_verify_0 (lv_at hl 5 rfl) ?_
  refine lv_iconst (v := 0) hx hb d_Law_verify_2 (by decide) ?_
  refine lv_aload_n hx hb d_Law_verify_3 rfl (lv_at hl 0 rfl) ?_
  refine lv_iload_n hx hb d_Law_verify_4 rfl (lv_at hl 1 rfl) ?_
  refine lv_iload_n hx hb d_Law_verify_5 rfl (lv_at hl 2 rfl) ?_
  refine lv_iload_n hx hb d_Law_verify_6 rfl (lv_at hl 3 rfl) ?_
  refine lv_iload hx hb d_Law_verify_7 (lv_at hl 4 rfl) ?_
  refine gm_Vi hx hb hml hown hW X o0 (g_Ben_verify l E ad N ρ fl hg hk hn h_t h_d h_a h_b hG hpp) (n := 4) ⟨⟨wl_Law_60, wi_Ben_verify, wsel_Ben_verify, winit_Ben, wc_Ben_verify⟩, by decide +kernel, ⟨Nat.le_of_ble_eq_true rfl, Nat.le_of_ble_eq_true rfl⟩, _, rfl, rfl⟩ rfl hl.1 rfl (Nat.le_of_ble_eq_true rfl) d_Law_verify_9 ⟨Nat.le_of_ble_eq_true rfl, Nat.le_of_ble_eq_true rfl⟩ (fun r M1 H locs hp X => ?_)
  obtain ⟨ρ1, fl1, rfl, hp⟩ := hp
  refine lv_if_eq (tgt := 19) hx hb d_Law_verify_12 (by decide) (fun c12 => ?_) (fun c12 => ?_)
  · refine lv_lconst (v := 0) hx hb d_Law_verify_19 (by decide) ?_
    refine gm_last hx hb X (k := 0) (cw_133 hN) (cw_ge _) (by decide) ⟨by decide, by decide⟩ d_Law_verify_20 (fun H locs X => ?_)
    rw [cw_out] at X
    refine lv_goto (tgt := 28) hx hb d_Law_verify_21 (by decide) ?_
    refine lv_iconst (v := 0) hx hb d_Law_verify_28 (by decide) ?_
    exact gm_iret hx hb hr hlk X ⟨rfl, ρ1, fl1, r, by rw [if_pos c12], hp⟩ d_Law_verify_29
  · refine lv_lconst (v := 1) hx hb d_Law_verify_15 (by decide) ?_
    refine lv_goto (tgt := 20) hx hb d_Law_verify_16 (by decide) ?_
    refine gm_last hx hb X (k := 0) (cw_133 hN) (cw_ge _) (by decide) ⟨by decide, by decide⟩ d_Law_verify_20 (fun H locs X => ?_)
    rw [cw_out] at X
    refine lv_goto (tgt := 28) hx hb d_Law_verify_21 (by decide) ?_
    refine lv_iconst (v := 0) hx hb d_Law_verify_28 (by decide) ?_
    exact gm_iret hx hb hr hlk X ⟨rfl, ρ1, fl1, r, by rw [if_neg c12], hp⟩ d_Law_verify_29
theorem hb_Law_set (l : Launch) (hst : l.stackTraces = false) (E : gm_E) (ad : Nat → Nat) (N : gm_M) (ρ : Nat → Nat → Int64) (fl : Nat → Int32) {p1 : Int32} {p2 : Int32} {p3 : Int64} (hbad : ¬ (inR p1 8 ∧ inR p2 4)) : ch_ l y_Law_set b_Law_set 6 [(0, 7, 10, 13)] { frames := 8, cells := 2, slots := 12, locals := 144 } E (cW E ad N ρ fl) [.ref (E.2.1 + 0), .int p1, .int p2, .long p3] (fun k M' => k = 1 ∧ M' = cW E ad N ρ fl) := by
  refine gm_metH (by decide) (Nat.le_of_ble_eq_true rfl) (fun p e s m below meth c ls hx hb hml hr hlk hown hW htab X hl => ?_)
  have hl : lv_has ls 6 [(0, .ref (E.2.1 + 0)), (1, .int p1), (2, .int p2), (3, .long p3)] := hl
  refine lv_aload_n hx hb d_Law_set_0 rfl (lv_at hl 0 rfl) ?_
  refine lv_iload_n hx hb d_Law_set_1 rfl (lv_at hl 1 rfl) ?_
  refine lv_iload_n hx hb d_Law_set_2 rfl (lv_at hl 2 rfl) ?_
  refine lv_lload_n hx hb d_Law_set_3 rfl (lv_at hl 3 rfl) ?_
  refine gm_Vt hx hb hml hown hW X o0 (t_Ben_set l hst E _ hbad) (n := 3) ⟨⟨wl_Law_7, wi_Ben_set, wsel_Ben_set, winit_Ben, wc_Ben_set⟩, by decide +kernel, ⟨Nat.le_of_ble_eq_true rfl, Nat.le_of_ble_eq_true rfl⟩, _, rfl, rfl⟩ rfl hl.1 rfl (Nat.le_of_ble_eq_true rfl) d_Law_set_4 ⟨Nat.le_of_ble_eq_true rfl, Nat.le_of_ble_eq_true rfl⟩ (fun q9 ce H locs X e1 e2 e3 => ?_)
  refine gm_catch (hp := 10) hown hW X htab (by decide) rfl rfl e1 e2 e3 ?_
  refine lv_astore (lv' := [(5, .ref q9), (0, .ref (E.2.1 + 0)), (1, .int p1), (2, .int p2), (3, .long p3)]) hx hb d_Law_set_10 hl (by decide) rfl (fun ls hl => ?_)
  refine lv_iconst (v := 1) hx hb d_Law_set_12 (by decide) ?_
  exact gm_iret hx hb hr hlk X ⟨rfl, rfl⟩ d_Law_set_13
theorem hb_Law_get (l : Launch) (hst : l.stackTraces = false) (E : gm_E) (ad : Nat → Nat) (N : gm_M) (ρ : Nat → Nat → Int64) (fl : Nat → Int32) {p1 : Int32} {p2 : Int32} {oo : Nat} (hbad : ¬ (inR p1 8 ∧ inR p2 4)) : ch_ l y_Law_get b_Law_get 5 [(0, 9, 12, 13)] { frames := 8, cells := 2, slots := 12, locals := 142 } E (cW E ad N ρ fl) [.ref (E.2.1 + 0), .int p1, .int p2, .ref oo] (fun k M' => k = 1 ∧ M' = cW E ad N ρ fl) := by
  refine gm_metH (by decide) (Nat.le_of_ble_eq_true rfl) (fun p e s m below meth c ls hx hb hml hr hlk hown hW htab X hl => ?_)
  have hl : lv_has ls 5 [(0, .ref (E.2.1 + 0)), (1, .int p1), (2, .int p2), (3, .ref oo)] := hl
  refine lv_aload_n hx hb d_Law_get_0 rfl (lv_at hl 3 rfl) ?_
  refine lv_iconst (v := 0) hx hb d_Law_get_1 (by decide) ?_
  refine lv_aload_n hx hb d_Law_get_2 rfl (lv_at hl 0 rfl) ?_
  refine lv_iload_n hx hb d_Law_get_3 rfl (lv_at hl 1 rfl) ?_
  refine lv_iload_n hx hb d_Law_get_4 rfl (lv_at hl 2 rfl) ?_
  refine gm_Vt hx hb hml hown hW X o0 (t_Ben_get l hst E _ hbad) (n := 2) ⟨⟨wl_Law_15, wi_Ben_get, wsel_Ben_get, winit_Ben, wc_Ben_get⟩, by decide +kernel, ⟨Nat.le_of_ble_eq_true rfl, Nat.le_of_ble_eq_true rfl⟩, _, rfl, rfl⟩ rfl hl.1 rfl (Nat.le_of_ble_eq_true rfl) d_Law_get_5 ⟨Nat.le_of_ble_eq_true rfl, Nat.le_of_ble_eq_true rfl⟩ (fun q9 ce H locs X e1 e2 e3 => ?_)
  refine gm_catch (hp := 12) hown hW X htab (by decide) rfl rfl e1 e2 e3 ?_
  refine lv_astore (lv' := [(4, .ref q9), (0, .ref (E.2.1 + 0)), (1, .int p1), (2, .int p2), (3, .ref oo)]) hx hb d_Law_get_12 hl (by decide) rfl (fun ls hl => ?_)
  refine lv_iconst (v := 1) hx hb d_Law_get_14 (by decide) ?_
  exact gm_iret hx hb hr hlk X ⟨rfl, rfl⟩ d_Law_get_15
theorem hb_Law_compare (l : Launch) (hst : l.stackTraces = false) (E : gm_E) (ad : Nat → Nat) (N : gm_M) (ρ : Nat → Nat → Int64) (fl : Nat → Int32) {p1 : Int32} {p2 : Int32} {oo : Nat} (hbad : ¬ (inR p1 8 ∧ inR p2 8)) : ch_ l y_Law_compare b_Law_compare 5 [(0, 10, 13, 13)] { frames := 8, cells := 2, slots := 12, locals := 142 } E (cW E ad N ρ fl) [.ref (E.2.1 + 0), .int p1, .int p2, .ref oo] (fun k M' => k = 1 ∧ M' = cW E ad N ρ fl) := by
  refine gm_metH (by decide) (Nat.le_of_ble_eq_true rfl) (fun p e s m below meth c ls hx hb hml hr hlk hown hW htab X hl => ?_)
  have hl : lv_has ls 5 [(0, .ref (E.2.1 + 0)), (1, .int p1), (2, .int p2), (3, .ref oo)] := hl
  refine lv_aload_n hx hb d_Law_compare_0 rfl (lv_at hl 3 rfl) ?_
  refine lv_iconst (v := 0) hx hb d_Law_compare_1 (by decide) ?_
  refine lv_aload_n hx hb d_Law_compare_2 rfl (lv_at hl 0 rfl) ?_
  refine lv_iload_n hx hb d_Law_compare_3 rfl (lv_at hl 1 rfl) ?_
  refine lv_iload_n hx hb d_Law_compare_4 rfl (lv_at hl 2 rfl) ?_
  refine gm_Vt hx hb hml hown hW X o0 (t_Ben_compare l hst E _ hbad) (n := 2) ⟨⟨wl_Law_19, wi_Ben_compare, wsel_Ben_compare, winit_Ben, wc_Ben_compare⟩, by decide +kernel, ⟨Nat.le_of_ble_eq_true rfl, Nat.le_of_ble_eq_true rfl⟩, _, rfl, rfl⟩ rfl hl.1 rfl (Nat.le_of_ble_eq_true rfl) d_Law_compare_5 ⟨Nat.le_of_ble_eq_true rfl, Nat.le_of_ble_eq_true rfl⟩ (fun q9 ce H locs X e1 e2 e3 => ?_)
  refine gm_catch (hp := 13) hown hW X htab (by decide) rfl rfl e1 e2 e3 ?_
  refine lv_astore (lv' := [(4, .ref q9), (0, .ref (E.2.1 + 0)), (1, .int p1), (2, .int p2), (3, .ref oo)]) hx hb d_Law_compare_13 hl (by decide) rfl (fun ls hl => ?_)
  refine lv_iconst (v := 1) hx hb d_Law_compare_15 (by decide) ?_
  exact gm_iret hx hb hr hlk X ⟨rfl, rfl⟩ d_Law_compare_16
theorem hb_Law_work (l : Launch) (hst : l.stackTraces = false) (E : gm_E) (ad : Nat → Nat) (N : gm_M) (ρ : Nat → Nat → Int64) (fl : Nat → Int32) {p1 : Int32} {p2 : Int32} {p3 : Int32} {p4 : Int32} {oo : Nat} (hbad : ¬ (inR p1 8 ∧ inR p2 8 ∧ inR p3 8 ∧ inR p4 8)) : ch_ l y_Law_work b_Law_work 7 [(0, 21, 24, 13)] { frames := 8, cells := 4, slots := 24, locals := 179 } E (cW E ad N ρ fl) [.ref (E.2.1 + 0), .int p1, .int p2, .int p3, .int p4, .ref oo] (fun k M' => k = 1 ∧ M' = cW E ad N ρ fl) := by
  refine gm_metH (by decide) (Nat.le_of_ble_eq_true rfl) (fun p e s m below meth c ls hx hb hml hr hlk hown hW htab X hl => ?_)
  have hl : lv_has ls 7 [(0, .ref (E.2.1 + 0)), (1, .int p1), (2, .int p2), (3, .int p3), (4, .int p4), (5, .ref oo)] := hl
  refine lv_aload hx hb d_Law_work_0 (lv_at hl 5 rfl) ?_
  refine lv_iconst (v := 0) hx hb d_Law_work_2 (by decide) ?_
  refine lv_aload_n hx hb d_Law_work_3 rfl (lv_at hl 0 rfl) ?_
  refine lv_iload_n hx hb d_Law_work_4 rfl (lv_at hl 1 rfl) ?_
  refine lv_iload_n hx hb d_Law_work_5 rfl (lv_at hl 2 rfl) ?_
  refine lv_iload_n hx hb d_Law_work_6 rfl (lv_at hl 3 rfl) ?_
  refine lv_iload hx hb d_Law_work_7 (lv_at hl 4 rfl) ?_
  refine gm_Vt hx hb hml hown hW X o0 (t_Ben_work l hst E _ hbad) (n := 4) ⟨⟨wl_Law_23, wi_Ben_work, wsel_Ben_work, winit_Ben, wc_Ben_work⟩, by decide +kernel, ⟨Nat.le_of_ble_eq_true rfl, Nat.le_of_ble_eq_true rfl⟩, _, rfl, rfl⟩ rfl hl.1 rfl (Nat.le_of_ble_eq_true rfl) d_Law_work_9 ⟨Nat.le_of_ble_eq_true rfl, Nat.le_of_ble_eq_true rfl⟩ (fun q9 ce H locs X e1 e2 e3 => ?_)
  refine gm_catch (hp := 24) hown hW X htab (by decide) rfl rfl e1 e2 e3 ?_
  refine lv_astore (lv' := [(6, .ref q9), (0, .ref (E.2.1 + 0)), (1, .int p1), (2, .int p2), (3, .int p3), (4, .int p4), (5, .ref oo)]) hx hb d_Law_work_24 hl (by decide) rfl (fun ls hl => ?_)
  refine lv_iconst (v := 1) hx hb d_Law_work_26 (by decide) ?_
  exact gm_iret hx hb hr hlk X ⟨rfl, rfl⟩ d_Law_work_27
theorem hb_Law_base (l : Launch) (hst : l.stackTraces = false) (E : gm_E) (ad : Nat → Nat) (N : gm_M) (ρ : Nat → Nat → Int64) (fl : Nat → Int32) {p1 : Int32} (hbad : ¬ (inR p1 4)) : ch_ l y_Law_base b_Law_base 3 [(0, 5, 8, 13)] { frames := 8, cells := 1, slots := 6, locals := 141 } E (cW E ad N ρ fl) [.ref (E.2.1 + 0), .int p1] (fun k M' => k = 1 ∧ M' = cW E ad N ρ fl) := by
  refine gm_metH (by decide) (Nat.le_of_ble_eq_true rfl) (fun p e s m below meth c ls hx hb hml hr hlk hown hW htab X hl => ?_)
  have hl : lv_has ls 3 [(0, .ref (E.2.1 + 0)), (1, .int p1)] := hl
  refine lv_aload_n hx hb d_Law_base_0 rfl (lv_at hl 0 rfl) ?_
  refine lv_iload_n hx hb d_Law_base_1 rfl (lv_at hl 1 rfl) ?_
  refine gm_Vt hx hb hml hown hW X o0 (t_Ben_base l hst E _ hbad) (n := 1) ⟨⟨wl_Law_27, wi_Ben_base, wsel_Ben_base, winit_Ben, wc_Ben_base⟩, by decide +kernel, ⟨Nat.le_of_ble_eq_true rfl, Nat.le_of_ble_eq_true rfl⟩, _, rfl, rfl⟩ rfl hl.1 rfl (Nat.le_of_ble_eq_true rfl) d_Law_base_2 ⟨Nat.le_of_ble_eq_true rfl, Nat.le_of_ble_eq_true rfl⟩ (fun q9 ce H locs X e1 e2 e3 => ?_)
  refine gm_catch (hp := 8) hown hW X htab (by decide) rfl rfl e1 e2 e3 ?_
  refine lv_astore_n (lv' := [(2, .ref q9), (0, .ref (E.2.1 + 0)), (1, .int p1)]) hx hb d_Law_base_8 rfl hl (by decide) rfl (fun ls hl => ?_)
  refine lv_iconst (v := 1) hx hb d_Law_base_9 (by decide) ?_
  exact gm_iret hx hb hr hlk X ⟨rfl, rfl⟩ d_Law_base_10
theorem hb_Law_none (l : Launch) (hst : l.stackTraces = false) (E : gm_E) (ad : Nat → Nat) (N : gm_M) (ρ : Nat → Nat → Int64) (fl : Nat → Int32) {p1 : Int32} (hbad : ¬ (inR p1 4)) : ch_ l y_Law_none b_Law_none 3 [(0, 5, 8, 13)] { frames := 8, cells := 1, slots := 6, locals := 141 } E (cW E ad N ρ fl) [.ref (E.2.1 + 0), .int p1] (fun k M' => k = 1 ∧ M' = cW E ad N ρ fl) := by
  refine gm_metH (by decide) (Nat.le_of_ble_eq_true rfl) (fun p e s m below meth c ls hx hb hml hr hlk hown hW htab X hl => ?_)
  have hl : lv_has ls 3 [(0, .ref (E.2.1 + 0)), (1, .int p1)] := hl
  refine lv_aload_n hx hb d_Law_none_0 rfl (lv_at hl 0 rfl) ?_
  refine lv_iload_n hx hb d_Law_none_1 rfl (lv_at hl 1 rfl) ?_
  refine gm_Vt hx hb hml hown hW X o0 (t_Ben_none l hst E _ hbad) (n := 1) ⟨⟨wl_Law_31, wi_Ben_none, wsel_Ben_none, winit_Ben, wc_Ben_none⟩, by decide +kernel, ⟨Nat.le_of_ble_eq_true rfl, Nat.le_of_ble_eq_true rfl⟩, _, rfl, rfl⟩ rfl hl.1 rfl (Nat.le_of_ble_eq_true rfl) d_Law_none_2 ⟨Nat.le_of_ble_eq_true rfl, Nat.le_of_ble_eq_true rfl⟩ (fun q9 ce H locs X e1 e2 e3 => ?_)
  refine gm_catch (hp := 8) hown hW X htab (by decide) rfl rfl e1 e2 e3 ?_
  refine lv_astore_n (lv' := [(2, .ref q9), (0, .ref (E.2.1 + 0)), (1, .int p1)]) hx hb d_Law_none_8 rfl hl (by decide) rfl (fun ls hl => ?_)
  refine lv_iconst (v := 1) hx hb d_Law_none_9 (by decide) ?_
  exact gm_iret hx hb hr hlk X ⟨rfl, rfl⟩ d_Law_none_10
theorem hb_Law_lay (l : Launch) (hst : l.stackTraces = false) (E : gm_E) (ad : Nat → Nat) (N : gm_M) (ρ : Nat → Nat → Int64) (fl : Nat → Int32) {p1 : Int32} {p2 : Int32} {p3 : Int32} {oo : Nat} (hbad : ¬ (inR p1 4 ∧ inR p2 8 ∧ inR p3 8)) : ch_ l y_Law_lay b_Law_lay 6 [(0, 19, 22, 13)] { frames := 8, cells := 3, slots := 18, locals := 143 } E (cW E ad N ρ fl) [.ref (E.2.1 + 0), .int p1, .int p2, .int p3, .ref oo] (fun k M' => k = 1 ∧ M' = cW E ad N ρ fl) := by
  refine gm_metH (by decide) (Nat.le_of_ble_eq_true rfl) (fun p e s m below meth c ls hx hb hml hr hlk hown hW htab X hl => ?_)
  have hl : lv_has ls 6 [(0, .ref (E.2.1 + 0)), (1, .int p1), (2, .int p2), (3, .int p3), (4, .ref oo)] := hl
  refine lv_aload hx hb d_Law_lay_0 (lv_at hl 4 rfl) ?_
  refine lv_iconst (v := 0) hx hb d_Law_lay_2 (by decide) ?_
  refine lv_aload_n hx hb d_Law_lay_3 rfl (lv_at hl 0 rfl) ?_
  refine lv_iload_n hx hb d_Law_lay_4 rfl (lv_at hl 1 rfl) ?_
  refine lv_iload_n hx hb d_Law_lay_5 rfl (lv_at hl 2 rfl) ?_
  refine lv_iload_n hx hb d_Law_lay_6 rfl (lv_at hl 3 rfl) ?_
  refine gm_Vt hx hb hml hown hW X o0 (t_Ben_lay l hst E _ hbad) (n := 3) ⟨⟨wl_Law_34, wi_Ben_lay, wsel_Ben_lay, winit_Ben, wc_Ben_lay⟩, by decide +kernel, ⟨Nat.le_of_ble_eq_true rfl, Nat.le_of_ble_eq_true rfl⟩, _, rfl, rfl⟩ rfl hl.1 rfl (Nat.le_of_ble_eq_true rfl) d_Law_lay_7 ⟨Nat.le_of_ble_eq_true rfl, Nat.le_of_ble_eq_true rfl⟩ (fun q9 ce H locs X e1 e2 e3 => ?_)
  refine gm_catch (hp := 22) hown hW X htab (by decide) rfl rfl e1 e2 e3 ?_
  refine lv_astore (lv' := [(5, .ref q9), (0, .ref (E.2.1 + 0)), (1, .int p1), (2, .int p2), (3, .int p3), (4, .ref oo)]) hx hb d_Law_lay_22 hl (by decide) rfl (fun ls hl => ?_)
  refine lv_iconst (v := 1) hx hb d_Law_lay_24 (by decide) ?_
  exact gm_iret hx hb hr hlk X ⟨rfl, rfl⟩ d_Law_lay_25
theorem hb_Law_lift (l : Launch) (hst : l.stackTraces = false) (E : gm_E) (ad : Nat → Nat) (N : gm_M) (ρ : Nat → Nat → Int64) (fl : Nat → Int32) {p1 : Int32} {p2 : Int32} {p3 : Int32} {oo : Nat} (hbad : ¬ (inR p1 4 ∧ inR p2 8)) : ch_ l y_Law_lift b_Law_lift 6 [(0, 19, 22, 13)] { frames := 8, cells := 2, slots := 12, locals := 143 } E (cW E ad N ρ fl) [.ref (E.2.1 + 0), .int p1, .int p2, .int p3, .ref oo] (fun k M' => k = 1 ∧ M' = cW E ad N ρ fl) := by
  refine gm_metH (by decide) (Nat.le_of_ble_eq_true rfl) (fun p e s m below meth c ls hx hb hml hr hlk hown hW htab X hl => ?_)
  have hl : lv_has ls 6 [(0, .ref (E.2.1 + 0)), (1, .int p1), (2, .int p2), (3, .int p3), (4, .ref oo)] := hl
  refine lv_aload hx hb d_Law_lift_0 (lv_at hl 4 rfl) ?_
  refine lv_iconst (v := 0) hx hb d_Law_lift_2 (by decide) ?_
  refine lv_aload_n hx hb d_Law_lift_3 rfl (lv_at hl 0 rfl) ?_
  refine lv_iload_n hx hb d_Law_lift_4 rfl (lv_at hl 1 rfl) ?_
  refine lv_iload_n hx hb d_Law_lift_5 rfl (lv_at hl 2 rfl) ?_
  refine lv_iload_n hx hb d_Law_lift_6 rfl (lv_at hl 3 rfl) ?_
  refine gm_Vt hx hb hml hown hW X o0 (t_Ben_lift l hst E _ hbad) (n := 3) ⟨⟨wl_Law_38, wi_Ben_lift, wsel_Ben_lift, winit_Ben, wc_Ben_lift⟩, by decide +kernel, ⟨Nat.le_of_ble_eq_true rfl, Nat.le_of_ble_eq_true rfl⟩, _, rfl, rfl⟩ rfl hl.1 rfl (Nat.le_of_ble_eq_true rfl) d_Law_lift_7 ⟨Nat.le_of_ble_eq_true rfl, Nat.le_of_ble_eq_true rfl⟩ (fun q9 ce H locs X e1 e2 e3 => ?_)
  refine gm_catch (hp := 22) hown hW X htab (by decide) rfl rfl e1 e2 e3 ?_
  refine lv_astore (lv' := [(5, .ref q9), (0, .ref (E.2.1 + 0)), (1, .int p1), (2, .int p2), (3, .int p3), (4, .ref oo)]) hx hb d_Law_lift_22 hl (by decide) rfl (fun ls hl => ?_)
  refine lv_iconst (v := 1) hx hb d_Law_lift_24 (by decide) ?_
  exact gm_iret hx hb hr hlk X ⟨rfl, rfl⟩ d_Law_lift_25
theorem hb_Law_show (l : Launch) (hst : l.stackTraces = false) (E : gm_E) (ad : Nat → Nat) (N : gm_M) (ρ : Nat → Nat → Int64) (fl : Nat → Int32) {p1 : Int32} {p2 : Int32} {p3 : Int32} {oo : Nat} (hbad : ¬ (inR p1 4 ∧ inR p2 8 ∧ inR p3 8)) : ch_ l y_Law_show b_Law_show 6 [(0, 19, 22, 13)] { frames := 8, cells := 3, slots := 18, locals := 143 } E (cW E ad N ρ fl) [.ref (E.2.1 + 0), .int p1, .int p2, .int p3, .ref oo] (fun k M' => k = 1 ∧ M' = cW E ad N ρ fl) := by
  refine gm_metH (by decide) (Nat.le_of_ble_eq_true rfl) (fun p e s m below meth c ls hx hb hml hr hlk hown hW htab X hl => ?_)
  have hl : lv_has ls 6 [(0, .ref (E.2.1 + 0)), (1, .int p1), (2, .int p2), (3, .int p3), (4, .ref oo)] := hl
  refine lv_aload hx hb d_Law_show_0 (lv_at hl 4 rfl) ?_
  refine lv_iconst (v := 0) hx hb d_Law_show_2 (by decide) ?_
  refine lv_aload_n hx hb d_Law_show_3 rfl (lv_at hl 0 rfl) ?_
  refine lv_iload_n hx hb d_Law_show_4 rfl (lv_at hl 1 rfl) ?_
  refine lv_iload_n hx hb d_Law_show_5 rfl (lv_at hl 2 rfl) ?_
  refine lv_iload_n hx hb d_Law_show_6 rfl (lv_at hl 3 rfl) ?_
  refine gm_Vt hx hb hml hown hW X o0 (t_Ben_show l hst E _ hbad) (n := 3) ⟨⟨wl_Law_42, wi_Ben_show, wsel_Ben_show, winit_Ben, wc_Ben_show⟩, by decide +kernel, ⟨Nat.le_of_ble_eq_true rfl, Nat.le_of_ble_eq_true rfl⟩, _, rfl, rfl⟩ rfl hl.1 rfl (Nat.le_of_ble_eq_true rfl) d_Law_show_7 ⟨Nat.le_of_ble_eq_true rfl, Nat.le_of_ble_eq_true rfl⟩ (fun q9 ce H locs X e1 e2 e3 => ?_)
  refine gm_catch (hp := 22) hown hW X htab (by decide) rfl rfl e1 e2 e3 ?_
  refine lv_astore (lv' := [(5, .ref q9), (0, .ref (E.2.1 + 0)), (1, .int p1), (2, .int p2), (3, .int p3), (4, .ref oo)]) hx hb d_Law_show_22 hl (by decide) rfl (fun ls hl => ?_)
  refine lv_iconst (v := 1) hx hb d_Law_show_24 (by decide) ?_
  exact gm_iret hx hb hr hlk X ⟨rfl, rfl⟩ d_Law_show_25
theorem hb_Law_add (l : Launch) (hst : l.stackTraces = false) (E : gm_E) (ad : Nat → Nat) (N : gm_M) (ρ : Nat → Nat → Int64) (fl : Nat → Int32) {p1 : Int32} {p2 : Int32} {p3 : Int32} (hbad : ¬ (inR p1 4 ∧ inR p2 4 ∧ inR p3 4)) : ch_ l y_Law_add b_Law_add 5 [(0, 7, 10, 13)] { frames := 8, cells := 3, slots := 18, locals := 175 } E (cW E ad N ρ fl) [.ref (E.2.1 + 0), .int p1, .int p2, .int p3] (fun k M' => k = 1 ∧ M' = cW E ad N ρ fl) := by
  refine gm_metH (by decide) (Nat.le_of_ble_eq_true rfl) (fun p e s m below meth c ls hx hb hml hr hlk hown hW htab X hl => ?_)
  have hl : lv_has ls 5 [(0, .ref (E.2.1 + 0)), (1, .int p1), (2, .int p2), (3, .int p3)] := hl
  refine lv_aload_n hx hb d_Law_add_0 rfl (lv_at hl 0 rfl) ?_
  refine lv_iload_n hx hb d_Law_add_1 rfl (lv_at hl 1 rfl) ?_
  refine lv_iload_n hx hb d_Law_add_2 rfl (lv_at hl 2 rfl) ?_
  refine lv_iload_n hx hb d_Law_add_3 rfl (lv_at hl 3 rfl) ?_
  refine gm_Vt hx hb hml hown hW X o0 (t_Ben_add l hst E _ hbad) (n := 3) ⟨⟨wl_Law_45, wi_Ben_add, wsel_Ben_add, winit_Ben, wc_Ben_add⟩, by decide +kernel, ⟨Nat.le_of_ble_eq_true rfl, Nat.le_of_ble_eq_true rfl⟩, _, rfl, rfl⟩ rfl hl.1 rfl (Nat.le_of_ble_eq_true rfl) d_Law_add_4 ⟨Nat.le_of_ble_eq_true rfl, Nat.le_of_ble_eq_true rfl⟩ (fun q9 ce H locs X e1 e2 e3 => ?_)
  refine gm_catch (hp := 10) hown hW X htab (by decide) rfl rfl e1 e2 e3 ?_
  refine lv_astore (lv' := [(4, .ref q9), (0, .ref (E.2.1 + 0)), (1, .int p1), (2, .int p2), (3, .int p3)]) hx hb d_Law_add_10 hl (by decide) rfl (fun ls hl => ?_)
  refine lv_iconst (v := 1) hx hb d_Law_add_12 (by decide) ?_
  exact gm_iret hx hb hr hlk X ⟨rfl, rfl⟩ d_Law_add_13
theorem hb_Law_times (l : Launch) (hst : l.stackTraces = false) (E : gm_E) (ad : Nat → Nat) (N : gm_M) (ρ : Nat → Nat → Int64) (fl : Nat → Int32) {p1 : Int32} {p2 : Int32} {p3 : Int32} (hbad : ¬ (inR p1 4 ∧ inR p2 8 ∧ inR p3 4)) : ch_ l y_Law_times b_Law_times 5 [(0, 7, 10, 13)] { frames := 8, cells := 3, slots := 18, locals := 175 } E (cW E ad N ρ fl) [.ref (E.2.1 + 0), .int p1, .int p2, .int p3] (fun k M' => k = 1 ∧ M' = cW E ad N ρ fl) := by
  refine gm_metH (by decide) (Nat.le_of_ble_eq_true rfl) (fun p e s m below meth c ls hx hb hml hr hlk hown hW htab X hl => ?_)
  have hl : lv_has ls 5 [(0, .ref (E.2.1 + 0)), (1, .int p1), (2, .int p2), (3, .int p3)] := hl
  refine lv_aload_n hx hb d_Law_times_0 rfl (lv_at hl 0 rfl) ?_
  refine lv_iload_n hx hb d_Law_times_1 rfl (lv_at hl 1 rfl) ?_
  refine lv_iload_n hx hb d_Law_times_2 rfl (lv_at hl 2 rfl) ?_
  refine lv_iload_n hx hb d_Law_times_3 rfl (lv_at hl 3 rfl) ?_
  refine gm_Vt hx hb hml hown hW X o0 (t_Ben_times l hst E _ hbad) (n := 3) ⟨⟨wl_Law_49, wi_Ben_times, wsel_Ben_times, winit_Ben, wc_Ben_times⟩, by decide +kernel, ⟨Nat.le_of_ble_eq_true rfl, Nat.le_of_ble_eq_true rfl⟩, _, rfl, rfl⟩ rfl hl.1 rfl (Nat.le_of_ble_eq_true rfl) d_Law_times_4 ⟨Nat.le_of_ble_eq_true rfl, Nat.le_of_ble_eq_true rfl⟩ (fun q9 ce H locs X e1 e2 e3 => ?_)
  refine gm_catch (hp := 10) hown hW X htab (by decide) rfl rfl e1 e2 e3 ?_
  refine lv_astore (lv' := [(4, .ref q9), (0, .ref (E.2.1 + 0)), (1, .int p1), (2, .int p2), (3, .int p3)]) hx hb d_Law_times_10 hl (by decide) rfl (fun ls hl => ?_)
  refine lv_iconst (v := 1) hx hb d_Law_times_12 (by decide) ?_
  exact gm_iret hx hb hr hlk X ⟨rfl, rfl⟩ d_Law_times_13
theorem hb_Law_same (l : Launch) (hst : l.stackTraces = false) (E : gm_E) (ad : Nat → Nat) (N : gm_M) (ρ : Nat → Nat → Int64) (fl : Nat → Int32) {p1 : Int32} {p2 : Int32} {oo : Nat} (hbad : ¬ (inR p1 4 ∧ inR p2 4)) : ch_ l y_Law_same b_Law_same 5 [(0, 17, 20, 13)] { frames := 8, cells := 2, slots := 12, locals := 142 } E (cW E ad N ρ fl) [.ref (E.2.1 + 0), .int p1, .int p2, .ref oo] (fun k M' => k = 1 ∧ M' = cW E ad N ρ fl) := by
  refine gm_metH (by decide) (Nat.le_of_ble_eq_true rfl) (fun p e s m below meth c ls hx hb hml hr hlk hown hW htab X hl => ?_)
  have hl : lv_has ls 5 [(0, .ref (E.2.1 + 0)), (1, .int p1), (2, .int p2), (3, .ref oo)] := hl
  refine lv_aload_n hx hb d_Law_same_0 rfl (lv_at hl 3 rfl) ?_
  refine lv_iconst (v := 0) hx hb d_Law_same_1 (by decide) ?_
  refine lv_aload_n hx hb d_Law_same_2 rfl (lv_at hl 0 rfl) ?_
  refine lv_iload_n hx hb d_Law_same_3 rfl (lv_at hl 1 rfl) ?_
  refine lv_iload_n hx hb d_Law_same_4 rfl (lv_at hl 2 rfl) ?_
  refine gm_Vt hx hb hml hown hW X o0 (t_Ben_same l hst E _ hbad) (n := 2) ⟨⟨wl_Law_52, wi_Ben_same, wsel_Ben_same, winit_Ben, wc_Ben_same⟩, by decide +kernel, ⟨Nat.le_of_ble_eq_true rfl, Nat.le_of_ble_eq_true rfl⟩, _, rfl, rfl⟩ rfl hl.1 rfl (Nat.le_of_ble_eq_true rfl) d_Law_same_5 ⟨Nat.le_of_ble_eq_true rfl, Nat.le_of_ble_eq_true rfl⟩ (fun q9 ce H locs X e1 e2 e3 => ?_)
  refine gm_catch (hp := 20) hown hW X htab (by decide) rfl rfl e1 e2 e3 ?_
  refine lv_astore (lv' := [(4, .ref q9), (0, .ref (E.2.1 + 0)), (1, .int p1), (2, .int p2), (3, .ref oo)]) hx hb d_Law_same_20 hl (by decide) rfl (fun ls hl => ?_)
  refine lv_iconst (v := 1) hx hb d_Law_same_22 (by decide) ?_
  exact gm_iret hx hb hr hlk X ⟨rfl, rfl⟩ d_Law_same_23
theorem hb_Law_sign (l : Launch) (hst : l.stackTraces = false) (E : gm_E) (ad : Nat → Nat) (N : gm_M) (ρ : Nat → Nat → Int64) (fl : Nat → Int32) {p1 : Int32} {p2 : Int32} {p3 : Int32} {p4 : Int32} {p5 : Int32} {oo : Nat} (hbad : ¬ (inR p1 8 ∧ inR p2 8 ∧ inR p3 8 ∧ inR p4 8 ∧ inR p5 8)) : ch_ l y_Law_sign b_Law_sign 8 [(0, 23, 26, 13)] { frames := 8, cells := 5, slots := 30, locals := 177 } E (cW E ad N ρ fl) [.ref (E.2.1 + 0), .int p1, .int p2, .int p3, .int p4, .int p5, .ref oo] (fun k M' => k = 1 ∧ M' = cW E ad N ρ fl) := by
  refine gm_metH (by decide) (Nat.le_of_ble_eq_true rfl) (fun p e s m below meth c ls hx hb hml hr hlk hown hW htab X hl => ?_)
  have hl : lv_has ls 8 [(0, .ref (E.2.1 + 0)), (1, .int p1), (2, .int p2), (3, .int p3), (4, .int p4), (5, .int p5), (6, .ref oo)] := hl
  refine lv_aload hx hb d_Law_sign_0 (lv_at hl 6 rfl) ?_
  refine lv_iconst (v := 0) hx hb d_Law_sign_2 (by decide) ?_
  refine lv_aload_n hx hb d_Law_sign_3 rfl (lv_at hl 0 rfl) ?_
  refine lv_iload_n hx hb d_Law_sign_4 rfl (lv_at hl 1 rfl) ?_
  refine lv_iload_n hx hb d_Law_sign_5 rfl (lv_at hl 2 rfl) ?_
  refine lv_iload_n hx hb d_Law_sign_6 rfl (lv_at hl 3 rfl) ?_
  refine lv_iload hx hb d_Law_sign_7 (lv_at hl 4 rfl) ?_
  refine lv_iload hx hb d_Law_sign_9 (lv_at hl 5 rfl) ?_
  refine gm_Vt hx hb hml hown hW X o0 (t_Ben_sign l hst E _ hbad) (n := 5) ⟨⟨wl_Law_56, wi_Ben_sign, wsel_Ben_sign, winit_Ben, wc_Ben_sign⟩, by decide +kernel, ⟨Nat.le_of_ble_eq_true rfl, Nat.le_of_ble_eq_true rfl⟩, _, rfl, rfl⟩ rfl hl.1 rfl (Nat.le_of_ble_eq_true rfl) d_Law_sign_11 ⟨Nat.le_of_ble_eq_true rfl, Nat.le_of_ble_eq_true rfl⟩ (fun q9 ce H locs X e1 e2 e3 => ?_)
  refine gm_catch (hp := 26) hown hW X htab (by decide) rfl rfl e1 e2 e3 ?_
  refine lv_astore (lv' := [(7, .ref q9), (0, .ref (E.2.1 + 0)), (1, .int p1), (2, .int p2), (3, .int p3), (4, .int p4), (5, .int p5), (6, .ref oo)]) hx hb d_Law_sign_26 hl (by decide) rfl (fun ls hl => ?_)
  refine lv_iconst (v := 1) hx hb d_Law_sign_28 (by decide) ?_
  exact gm_iret hx hb hr hlk X ⟨rfl, rfl⟩ d_Law_sign_29
theorem hb_Law_verify (l : Launch) (hst : l.stackTraces = false) (E : gm_E) (ad : Nat → Nat) (N : gm_M) (ρ : Nat → Nat → Int64) (fl : Nat → Int32) {p1 : Int32} {p2 : Int32} {p3 : Int32} {p4 : Int32} {oo : Nat} (hbad : ¬ (inR p1 4 ∧ inR p2 8 ∧ inR p3 8 ∧ inR p4 8)) : ch_ l y_Law_verify b_Law_verify 7 [(0, 21, 24, 13)] { frames := 8, cells := 4, slots := 24, locals := 176 } E (cW E ad N ρ fl) [.ref (E.2.1 + 0), .int p1, .int p2, .int p3, .int p4, .ref oo] (fun k M' => k = 1 ∧ M' = cW E ad N ρ fl) := by
  refine gm_metH (by decide) (Nat.le_of_ble_eq_true rfl) (fun p e s m below meth c ls hx hb hml hr hlk hown hW htab X hl => ?_)
  have hl : lv_has ls 7 [(0, .ref (E.2.1 + 0)), (1, .int p1), (2, .int p2), (3, .int p3), (4, .int p4), (5, .ref oo)] := hl
  refine lv_aload hx hb d_Law_verify_0 (lv_at hl 5 rfl) ?_
  refine lv_iconst (v := 0) hx hb d_Law_verify_2 (by decide) ?_
  refine lv_aload_n hx hb d_Law_verify_3 rfl (lv_at hl 0 rfl) ?_
  refine lv_iload_n hx hb d_Law_verify_4 rfl (lv_at hl 1 rfl) ?_
  refine lv_iload_n hx hb d_Law_verify_5 rfl (lv_at hl 2 rfl) ?_
  refine lv_iload_n hx hb d_Law_verify_6 rfl (lv_at hl 3 rfl) ?_
  refine lv_iload hx hb d_Law_verify_7 (lv_at hl 4 rfl) ?_
  refine gm_Vt hx hb hml hown hW X o0 (t_Ben_verify l hst E _ hbad) (n := 4) ⟨⟨wl_Law_60, wi_Ben_verify, wsel_Ben_verify, winit_Ben, wc_Ben_verify⟩, by decide +kernel, ⟨Nat.le_of_ble_eq_true rfl, Nat.le_of_ble_eq_true rfl⟩, _, rfl, rfl⟩ rfl hl.1 rfl (Nat.le_of_ble_eq_true rfl) d_Law_verify_9 ⟨Nat.le_of_ble_eq_true rfl, Nat.le_of_ble_eq_true rfl⟩ (fun q9 ce H locs X e1 e2 e3 => ?_)
  refine gm_catch (hp := 24) hown hW X htab (by decide) rfl rfl e1 e2 e3 ?_
  refine lv_astore (lv' := [(6, .ref q9), (0, .ref (E.2.1 + 0)), (1, .int p1), (2, .int p2), (3, .int p3), (4, .int p4), (5, .ref oo)]) hx hb d_Law_verify_24 hl (by decide) rfl (fun ls hl => ?_)
  refine lv_iconst (v := 1) hx hb d_Law_verify_26 (by decide) ?_
  exact gm_iret hx hb hr hlk X ⟨rfl, rfl⟩ d_Law_verify_27
