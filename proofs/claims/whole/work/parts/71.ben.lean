/-! PointBench: what its calls stand on: written by wip/gen/ben.py -/
theorem r4_n {r : Nat} (h : r < 8) : r4 (2 + r) := by
  have q : ∀ r, r < 8 → r4 (2 + r) := by decide
  exact q r h
theorem isP_p {p : Nat} (h : p < 4) : isP (41 + 3 * p) := by
  unfold isP
  omega
theorem isP_33 : isP 33 := by unfold isP; omega
theorem isP_21 : isP 21 := by unfold isP; omega
theorem oA1 {E : gm_E} {ad : Nat → Nat} {N : gm_M} {ρ : Nat → Nat → Int64} {fl : Nat → Int32} : cW E ad N ρ fl (E.2.1 + 1) = some (QA E 3 8 (fun i => if i < 8 then some (E.2.1 + (2 + i)) else none)) := cw_obj ⟨rfl, by decide⟩ rfl
theorem oA10 {E : gm_E} {ad : Nat → Nat} {N : gm_M} {ρ : Nat → Nat → Int64} {fl : Nat → Int32} : cW E ad N ρ fl (E.2.1 + 10) = some (QA E 2 4 (fun i => if i < 4 then some (E.2.1 + (41 + 3 * i)) else none)) := cw_obj ⟨rfl, by decide⟩ rfl
/-- what no call but its own target changes: the numbers, the generator, the points -/
def kB (t u : Nat) (ρ ρ' : Nat → Nat → Int64) : Prop := ∀ j, (2 ≤ j ∧ j ≤ 9 ∨ j = 22 ∨ j = 23 ∨ 41 ≤ j) → j ≠ t → j ≠ u → ρ' j = ρ j
theorem RV.s7 {F : Type} [Lean.Grind.CommRing F] {φ : Int → F} (h : ec_hom φ) {g : Nat → Int64} {v : F} (hv : RV φ g 1 v) : RV φ (vp_updL g 0 (g 0 + 7)) 2 (v + 7) := by
  obtain ⟨a, rfl, ha, rfl⟩ := hv
  refine ⟨zU a 0 (a 0 + 7), ?_, fun j hj => ?_, ?_⟩
  · funext j
    simp only [vp_updL, oF, zU]
    split
    · next q =>
      show Int64.ofInt (a 0) + 7 = _
      rw [Int64.ofInt_add]
      rfl
    · rfl
  · have := ha j hj
    have := ha 0 (by decide)
    simp only [zU]
    split <;> omega
  · have e : us (zU a 0 (a 0 + 7)) 0 10 = us a 0 10 + 7 := by
      simp only [us, zU, tp]
      simp
      omega
    rw [e, h.1, ph7 h]
set_option maxHeartbeats 2000000 in
theorem k_Ben_workOnLeft_0 {F : Type} [Lean.Grind.CommRing F] {φ : Int → F} {k nw nr : Nat} {mk : Int} {bb : Int32} {wv rv pv ev : Nat → Int64} (l : Launch) (E : gm_E) (ad : Nat → Nat) (N : gm_M) (ρ : Nat → Nat → Int64) (fl : Nat → Int32) (Ik : isM E ad k mk bb nw wv nr rv pv ev) (hfk : fm φ mk) {x y : F} (hk2 : k = 11 ∨ k = 16) (hX : RV φ (ρ 36) 1 x) (hY : RV φ (ρ 37) 1 y) : cv_ l y_Ben_workOnLeft b_Ben_workOnLeft 3 none { frames := 5, cells := 0, slots := 0, locals := 131 } E (cW E ad N ρ fl) [.ref (E.2.1 + 0), .int 0, .ref (E.2.1 + k)] (fun M' => ∃ ρ', M' = cW E ad N ρ' fl ∧ RV φ (ρ' 36) 2 (x + y) ∧ kp k 36 ρ ρ') := by
  obtain ⟨-, -, -, -, pa, pl, re, wr, i5, -⟩ := id Ik
  refine gm_met (by decide) (Nat.le_of_ble_eq_true rfl) (fun p e s m below meth c ls hx hb hml hr hlk hnm hown hW X hl => ?_)
  have hl : lv_has ls 3 [(0, .ref (E.2.1 + 0)), (1, .int 0), (2, .ref (E.2.1 + k))] := hl
  refine lv_iload_n hx hb d_Ben_workOnLeft_0 rfl (lv_at hl 1 rfl) ?_
  refine lv_if_ne (tgt := 22) hx hb d_Ben_workOnLeft_1 (by decide) (fun c9 => absurd rfl c9) (fun _ => ?_)
  refine lv_aload_n hx hb d_Ben_workOnLeft_4 rfl (lv_at hl 0 rfl) ?_
  refine gm_get hx hb hW hown X u_Ben o0 rfl 7 (by decide) wf_Ben_74 (v := .ref (E.2.1 + 36)) rfl d_Ben_workOnLeft_5 ?_
  refine lv_aload_n hx hb d_Ben_workOnLeft_8 rfl (lv_at hl 0 rfl) ?_
  refine gm_get hx hb hW hown X u_Ben o0 rfl 7 (by decide) wf_Ben_74 (v := .ref (E.2.1 + 36)) rfl d_Ben_workOnLeft_9 ?_
  refine lv_aload_n hx hb d_Ben_workOnLeft_12 rfl (lv_at hl 0 rfl) ?_
  refine gm_get hx hb hW hown X u_Ben o0 rfl 8 (by decide) wf_Ben_77 (v := .ref (E.2.1 + 37)) rfl d_Ben_workOnLeft_13 ?_
  refine gm_Sv hx hb hml hown hW X (k_plus l hfk.1 (by decide) (by decide) (by decide) hX hY) (n := 3) ⟨⟨wl_Ben_198, ws_Lim_plus, winit_Lim, wc_Lim_plus⟩, by decide +kernel, Nat.le_of_ble_eq_true rfl, Nat.le_of_ble_eq_true rfl⟩ rfl hl.1 rfl (Nat.le_of_ble_eq_true rfl) d_Ben_workOnLeft_16 ⟨Nat.le_of_ble_eq_true rfl, Nat.le_of_ble_eq_true rfl⟩ (fun M1 H locs hp X => ?_)
  obtain ⟨ρ1, rfl, q1, kk1⟩ := hp
  have h37_1 : RV φ (ρ1 37) 1 y := by rw [kk1 37 (by omega)]; exact hY
  have h36_1 : RV φ (ρ1 36) 2 (x + y) := q1.up (by decide)
  refine lv_goto (tgt := 81) hx hb d_Ben_workOnLeft_19 (by decide) ?_
  exact gm_vret hx hb hr hlk X ⟨_, rfl, h36_1.up (by decide), fun j hj hz => by rw [kk1 j hj]⟩ d_Ben_workOnLeft_81
set_option maxHeartbeats 2000000 in
theorem k_Ben_workOnLeft_1 {F : Type} [Lean.Grind.CommRing F] {φ : Int → F} {k nw nr : Nat} {mk : Int} {bb : Int32} {wv rv pv ev : Nat → Int64} (l : Launch) (E : gm_E) (ad : Nat → Nat) (N : gm_M) (ρ : Nat → Nat → Int64) (fl : Nat → Int32) (Ik : isM E ad k mk bb nw wv nr rv pv ev) (hfk : fm φ mk) {x y : F} (hk2 : k = 11 ∨ k = 16) (hX : RV φ (ρ 36) 1 x) (hY : RV φ (ρ 37) 1 y) : cv_ l y_Ben_workOnLeft b_Ben_workOnLeft 3 none { frames := 5, cells := 0, slots := 0, locals := 131 } E (cW E ad N ρ fl) [.ref (E.2.1 + 0), .int 1, .ref (E.2.1 + k)] (fun M' => ∃ ρ', M' = cW E ad N ρ' fl ∧ RV φ (ρ' 36) 2 (x - y) ∧ kp k 36 ρ ρ') := by
  obtain ⟨-, -, -, -, pa, pl, re, wr, i5, -⟩ := id Ik
  refine gm_met (by decide) (Nat.le_of_ble_eq_true rfl) (fun p e s m below meth c ls hx hb hml hr hlk hnm hown hW X hl => ?_)
  have hl : lv_has ls 3 [(0, .ref (E.2.1 + 0)), (1, .int 1), (2, .ref (E.2.1 + k))] := hl
  refine lv_iload_n hx hb d_Ben_workOnLeft_0 rfl (lv_at hl 1 rfl) ?_
  refine lv_if_ne (tgt := 22) hx hb d_Ben_workOnLeft_1 (by decide) (fun _ => ?_) (fun c9 => absurd c9 (by decide))
  refine lv_iload_n hx hb d_Ben_workOnLeft_22 rfl (lv_at hl 1 rfl) ?_
  refine lv_iconst (v := 1) hx hb d_Ben_workOnLeft_23 (by decide) ?_
  refine lv_icmp_ne (tgt := 45) hx hb d_Ben_workOnLeft_24 (by decide) (fun c9 => absurd rfl c9) (fun _ => ?_)
  refine lv_aload_n hx hb d_Ben_workOnLeft_27 rfl (lv_at hl 0 rfl) ?_
  refine gm_get hx hb hW hown X u_Ben o0 rfl 7 (by decide) wf_Ben_74 (v := .ref (E.2.1 + 36)) rfl d_Ben_workOnLeft_28 ?_
  refine lv_aload_n hx hb d_Ben_workOnLeft_31 rfl (lv_at hl 0 rfl) ?_
  refine gm_get hx hb hW hown X u_Ben o0 rfl 7 (by decide) wf_Ben_74 (v := .ref (E.2.1 + 36)) rfl d_Ben_workOnLeft_32 ?_
  refine lv_aload_n hx hb d_Ben_workOnLeft_35 rfl (lv_at hl 0 rfl) ?_
  refine gm_get hx hb hW hown X u_Ben o0 rfl 8 (by decide) wf_Ben_77 (v := .ref (E.2.1 + 37)) rfl d_Ben_workOnLeft_36 ?_
  refine gm_Sv hx hb hml hown hW X (k_minus l hfk.1 (by decide) (by decide) (by decide) hX hY) (n := 3) ⟨⟨wl_Ben_223, ws_Lim_minus, winit_Lim, wc_Lim_minus⟩, by decide +kernel, Nat.le_of_ble_eq_true rfl, Nat.le_of_ble_eq_true rfl⟩ rfl hl.1 rfl (Nat.le_of_ble_eq_true rfl) d_Ben_workOnLeft_39 ⟨Nat.le_of_ble_eq_true rfl, Nat.le_of_ble_eq_true rfl⟩ (fun M1 H locs hp X => ?_)
  obtain ⟨ρ1, rfl, q1, kk1⟩ := hp
  have h37_1 : RV φ (ρ1 37) 1 y := by rw [kk1 37 (by omega)]; exact hY
  have h36_1 : RV φ (ρ1 36) 2 (x - y) := q1.up (by decide)
  refine lv_goto (tgt := 81) hx hb d_Ben_workOnLeft_42 (by decide) ?_
  exact gm_vret hx hb hr hlk X ⟨_, rfl, h36_1.up (by decide), fun j hj hz => by rw [kk1 j hj]⟩ d_Ben_workOnLeft_81
set_option maxHeartbeats 2000000 in
theorem k_Ben_workOnLeft_2 {F : Type} [Lean.Grind.CommRing F] {φ : Int → F} {k nw nr : Nat} {mk : Int} {bb : Int32} {wv rv pv ev : Nat → Int64} (l : Launch) (E : gm_E) (ad : Nat → Nat) (N : gm_M) (ρ : Nat → Nat → Int64) (fl : Nat → Int32) (Ik : isM E ad k mk bb nw wv nr rv pv ev) (hfk : fm φ mk) {x y : F} (hk2 : k = 11 ∨ k = 16) (hX : RV φ (ρ 36) 1 x) (hY : RV φ (ρ 37) 1 y) : cv_ l y_Ben_workOnLeft b_Ben_workOnLeft 3 none { frames := 5, cells := 0, slots := 0, locals := 131 } E (cW E ad N ρ fl) [.ref (E.2.1 + 0), .int 2, .ref (E.2.1 + k)] (fun M' => ∃ ρ', M' = cW E ad N ρ' fl ∧ RV φ (ρ' 36) 2 (x * y) ∧ kp k 36 ρ ρ') := by
  obtain ⟨-, -, -, -, pa, pl, re, wr, i5, -⟩ := id Ik
  refine gm_met (by decide) (Nat.le_of_ble_eq_true rfl) (fun p e s m below meth c ls hx hb hml hr hlk hnm hown hW X hl => ?_)
  have hl : lv_has ls 3 [(0, .ref (E.2.1 + 0)), (1, .int 2), (2, .ref (E.2.1 + k))] := hl
  refine lv_iload_n hx hb d_Ben_workOnLeft_0 rfl (lv_at hl 1 rfl) ?_
  refine lv_if_ne (tgt := 22) hx hb d_Ben_workOnLeft_1 (by decide) (fun _ => ?_) (fun c9 => absurd c9 (by decide))
  refine lv_iload_n hx hb d_Ben_workOnLeft_22 rfl (lv_at hl 1 rfl) ?_
  refine lv_iconst (v := 1) hx hb d_Ben_workOnLeft_23 (by decide) ?_
  refine lv_icmp_ne (tgt := 45) hx hb d_Ben_workOnLeft_24 (by decide) (fun _ => ?_) (fun c9 => absurd c9 (by decide))
  refine lv_iload_n hx hb d_Ben_workOnLeft_45 rfl (lv_at hl 1 rfl) ?_
  refine lv_iconst (v := 2) hx hb d_Ben_workOnLeft_46 (by decide) ?_
  refine lv_icmp_ne (tgt := 69) hx hb d_Ben_workOnLeft_47 (by decide) (fun c9 => absurd rfl c9) (fun _ => ?_)
  refine lv_aload_n hx hb d_Ben_workOnLeft_50 rfl (lv_at hl 2 rfl) ?_
  refine lv_aload_n hx hb d_Ben_workOnLeft_51 rfl (lv_at hl 0 rfl) ?_
  refine gm_get hx hb hW hown X u_Ben o0 rfl 7 (by decide) wf_Ben_74 (v := .ref (E.2.1 + 36)) rfl d_Ben_workOnLeft_52 ?_
  refine lv_aload_n hx hb d_Ben_workOnLeft_55 rfl (lv_at hl 0 rfl) ?_
  refine gm_get hx hb hW hown X u_Ben o0 rfl 7 (by decide) wf_Ben_74 (v := .ref (E.2.1 + 36)) rfl d_Ben_workOnLeft_56 ?_
  refine lv_aload_n hx hb d_Ben_workOnLeft_59 rfl (lv_at hl 0 rfl) ?_
  refine gm_get hx hb hW hown X u_Ben o0 rfl 8 (by decide) wf_Ben_77 (v := .ref (E.2.1 + 37)) rfl d_Ben_workOnLeft_60 ?_
  refine gm_Vv hx hb hml hown hW X (i5 _ _ _) (k_mul l Ik hfk (by decide) (by decide) (by decide) hX hY (by decide)) (n := 3) ⟨⟨wl_Ben_195, wi_Mod_multiply, wsel_Mod_multiply, winit_Mod, wc_Mod_multiply⟩, by decide +kernel, ⟨Nat.le_of_ble_eq_true rfl, Nat.le_of_ble_eq_true rfl⟩, _, rfl, rfl⟩ rfl hl.1 rfl (Nat.le_of_ble_eq_true rfl) d_Ben_workOnLeft_63 ⟨Nat.le_of_ble_eq_true rfl, Nat.le_of_ble_eq_true rfl⟩ (fun M1 H locs hp X => ?_)
  obtain ⟨ρ1, rfl, q1, kk1⟩ := hp
  have h37_1 : RV φ (ρ1 37) 1 y := by rw [kk1 37 (by omega) (by omega)]; exact hY
  have h36_1 : RV φ (ρ1 36) 1 (x * y) := q1
  refine lv_goto (tgt := 81) hx hb d_Ben_workOnLeft_66 (by decide) ?_
  exact gm_vret hx hb hr hlk X ⟨_, rfl, h36_1.up (by decide), fun j hj hz => by rw [kk1 j hj hz]⟩ d_Ben_workOnLeft_81
set_option maxHeartbeats 2000000 in
theorem k_Ben_workOnLeft_3 {F : Type} [Lean.Grind.CommRing F] {φ : Int → F} {k nw nr : Nat} {mk : Int} {bb : Int32} {wv rv pv ev : Nat → Int64} (l : Launch) (E : gm_E) (ad : Nat → Nat) (N : gm_M) (ρ : Nat → Nat → Int64) (fl : Nat → Int32) (Ik : isM E ad k mk bb nw wv nr rv pv ev) (hfk : fm φ mk) {x y : F} (hk2 : k = 11 ∨ k = 16) (hX : RV φ (ρ 36) 1 x) (hY : RV φ (ρ 37) 1 y) : cv_ l y_Ben_workOnLeft b_Ben_workOnLeft 3 none { frames := 5, cells := 0, slots := 0, locals := 131 } E (cW E ad N ρ fl) [.ref (E.2.1 + 0), .int 3, .ref (E.2.1 + k)] (fun M' => ∃ ρ', M' = cW E ad N ρ' fl ∧ RV φ (ρ' 36) 2 (fp_pw x (NV ev)) ∧ kp k 36 ρ ρ') := by
  obtain ⟨-, -, -, -, pa, pl, re, wr, i5, -⟩ := id Ik
  refine gm_met (by decide) (Nat.le_of_ble_eq_true rfl) (fun p e s m below meth c ls hx hb hml hr hlk hnm hown hW X hl => ?_)
  have hl : lv_has ls 3 [(0, .ref (E.2.1 + 0)), (1, .int 3), (2, .ref (E.2.1 + k))] := hl
  refine lv_iload_n hx hb d_Ben_workOnLeft_0 rfl (lv_at hl 1 rfl) ?_
  refine lv_if_ne (tgt := 22) hx hb d_Ben_workOnLeft_1 (by decide) (fun _ => ?_) (fun c9 => absurd c9 (by decide))
  refine lv_iload_n hx hb d_Ben_workOnLeft_22 rfl (lv_at hl 1 rfl) ?_
  refine lv_iconst (v := 1) hx hb d_Ben_workOnLeft_23 (by decide) ?_
  refine lv_icmp_ne (tgt := 45) hx hb d_Ben_workOnLeft_24 (by decide) (fun _ => ?_) (fun c9 => absurd c9 (by decide))
  refine lv_iload_n hx hb d_Ben_workOnLeft_45 rfl (lv_at hl 1 rfl) ?_
  refine lv_iconst (v := 2) hx hb d_Ben_workOnLeft_46 (by decide) ?_
  refine lv_icmp_ne (tgt := 69) hx hb d_Ben_workOnLeft_47 (by decide) (fun _ => ?_) (fun c9 => absurd c9 (by decide))
  refine lv_aload_n hx hb d_Ben_workOnLeft_69 rfl (lv_at hl 2 rfl) ?_
  refine lv_aload_n hx hb d_Ben_workOnLeft_70 rfl (lv_at hl 0 rfl) ?_
  refine gm_get hx hb hW hown X u_Ben o0 rfl 7 (by decide) wf_Ben_74 (v := .ref (E.2.1 + 36)) rfl d_Ben_workOnLeft_71 ?_
  refine lv_aload_n hx hb d_Ben_workOnLeft_74 rfl (lv_at hl 0 rfl) ?_
  refine gm_get hx hb hW hown X u_Ben o0 rfl 7 (by decide) wf_Ben_74 (v := .ref (E.2.1 + 36)) rfl d_Ben_workOnLeft_75 ?_
  refine gm_Vv hx hb hml hown hW X (i5 _ _ _) (k_invert l Ik hfk (by decide) (by omega) (by decide) hX (by decide)) (n := 2) ⟨⟨wl_Ben_201, wi_Mod_invert, wsel_Mod_invert, winit_Mod, wc_Mod_invert⟩, by decide +kernel, ⟨Nat.le_of_ble_eq_true rfl, Nat.le_of_ble_eq_true rfl⟩, _, rfl, rfl⟩ rfl hl.1 rfl (Nat.le_of_ble_eq_true rfl) d_Ben_workOnLeft_78 ⟨Nat.le_of_ble_eq_true rfl, Nat.le_of_ble_eq_true rfl⟩ (fun M1 H locs hp X => ?_)
  obtain ⟨ρ1, rfl, q1, kk1⟩ := hp
  have h37_1 : RV φ (ρ1 37) 1 y := by rw [kk1 37 (by omega) (by omega)]; exact hY
  have h36_1 : RV φ (ρ1 36) 1 (fp_pw x (NV ev)) := q1
  exact gm_vret hx hb hr hlk X ⟨_, rfl, h36_1.up (by decide), fun j hj hz => by rw [kk1 j hj hz]⟩ d_Ben_workOnLeft_81
set_option maxHeartbeats 2000000 in
theorem k_Ben_isFromOneBelowN {F G : Type} [Lean.Grind.CommRing F] [Lean.Grind.CommRing G] {φ : Int → F} {inv : F → F} {ψ : Int → G} (l : Launch) (E : gm_E) (ad : Nat → Nat) (N : gm_M) (ρ : Nat → Nat → Int64) (fl : Nat → Int32) (hg : gE E ad) (hk : fk φ inv) (hn : fm ψ nN) {xn : Nat} {fn : Nat → Int64} (hxn : rdK E ρ xn fn) : ci_ l y_Ben_isFromOneBelowN b_Ben_isFromOneBelowN 2 (some .boolean) { frames := 2, cells := 0, slots := 0, locals := 43 } E (cW E ad N ρ fl) [.ref (E.2.1 + 0), .ref xn] (fun r M' => M' = cW E ad N ρ fl ∧ ((r = 1 ∧ (NV fn : Int) < nN ∧ ¬ NV fn = 0) ∨ (r = 0 ∧ ¬ ((NV fn : Int) < nN ∧ ¬ NV fn = 0)))) := by
  have hf := hk.fm
  have I := isM_P hg
  have I2 := isM_N hg
  refine gm_met (by decide) (Nat.le_of_ble_eq_true rfl) (fun p e s m below meth c ls hx hb hml hr hlk hnm hown hW X hl => ?_)
  have hl : lv_has ls 2 [(0, .ref (E.2.1 + 0)), (1, .ref xn)] := hl
  refine lv_aload_n hx hb d_Ben_isFromOneBelowN_0 rfl (lv_at hl 0 rfl) ?_
  refine gm_get hx hb hW hown X u_Ben o0 rfl 3 (by decide) wf_Ben_54 (v := .ref (E.2.1 + 16)) rfl d_Ben_isFromOneBelowN_1 ?_
  refine lv_aload_n hx hb d_Ben_isFromOneBelowN_4 rfl (lv_at hl 1 rfl) ?_
  refine gm_Vi hx hb hml hown hW X o16 (k_isAbove l I2 hxn.rd) (n := 1) ⟨⟨wl_Ben_126, wi_Mod_isAbove, wsel_Mod_isAbove, winit_Mod, wc_Mod_isAbove⟩, by decide +kernel, ⟨Nat.le_of_ble_eq_true rfl, Nat.le_of_ble_eq_true rfl⟩, _, rfl, rfl⟩ rfl hl.1 rfl (Nat.le_of_ble_eq_true rfl) d_Ben_isFromOneBelowN_5 ⟨Nat.le_of_ble_eq_true rfl, Nat.le_of_ble_eq_true rfl⟩ (fun r M1 H locs hp X => ?_)
  rw [hp.1] at X
  have h1 := hp.2
  refine lv_if_eq (tgt := 22) hx hb d_Ben_isFromOneBelowN_8 (by decide) (fun c8 => ?_) (fun c8 => ?_)
  · refine lv_iconst (v := 0) hx hb d_Ben_isFromOneBelowN_22 (by decide) ?_
    refine gm_zret hx hb hr hlk X rfl ⟨rfl, Or.inr ⟨rfl, fun z => ?_⟩⟩ d_Ben_isFromOneBelowN_23
    rcases h1 with h | h
    · exact h.2 z.1
    · exact absurd (h.1.symm.trans c8) (by decide)
  · have hlt : (NV fn : Int) < nN := by rcases h1 with h | h; exact absurd h.1 c8; exact h.2
    refine lv_aload_n hx hb d_Ben_isFromOneBelowN_11 rfl (lv_at hl 1 rfl) ?_
    refine gm_Si hx hb hml hown hW X (k_areZero l hg.1 hxn.rd) (n := 1) ⟨⟨wl_Ben_130, ws_Par_areZero, winit_Par, wc_Par_areZero⟩, by decide +kernel, Nat.le_of_ble_eq_true rfl, Nat.le_of_ble_eq_true rfl⟩ rfl hl.1 rfl (Nat.le_of_ble_eq_true rfl) d_Ben_isFromOneBelowN_12 ⟨Nat.le_of_ble_eq_true rfl, Nat.le_of_ble_eq_true rfl⟩ (fun r M1 H locs hp X => ?_)
    rw [hp.1] at X
    have h2 := hp.2
    refine lv_if_ne (tgt := 22) hx hb d_Ben_isFromOneBelowN_15 (by decide) (fun c15 => ?_) (fun c15 => ?_)
    · refine lv_iconst (v := 0) hx hb d_Ben_isFromOneBelowN_22 (by decide) ?_
      refine gm_zret hx hb hr hlk X rfl ⟨rfl, Or.inr ⟨rfl, fun z => ?_⟩⟩ d_Ben_isFromOneBelowN_23
      rcases h2 with h | h
      · exact z.2 h.2
      · exact absurd h.1 c15
    · refine lv_iconst (v := 1) hx hb d_Ben_isFromOneBelowN_18 (by decide) ?_
      refine lv_goto (tgt := 23) hx hb d_Ben_isFromOneBelowN_19 (by decide) ?_
      refine gm_zret hx hb hr hlk X rfl ⟨rfl, Or.inl ⟨rfl, hlt, ?_⟩⟩ d_Ben_isFromOneBelowN_23
      rcases h2 with h | h
      · exact absurd (h.1.symm.trans c15) (by decide)
      · exact h.2
set_option maxHeartbeats 2000000 in
theorem k_Ben_squareOfY {F : Type} [Lean.Grind.CommRing F] {φ : Int → F} {inv : F → F} (l : Launch) (E : gm_E) (ad : Nat → Nat) (N : gm_M) (ρ : Nat → Nat → Int64) (fl : Nat → Int32) (hg : gE E ad) (hk : fk φ inv) {x : F} (hX : RV φ (ρ 34) 1 x) : cv_ l y_Ben_squareOfY b_Ben_squareOfY 3 none { frames := 3, cells := 0, slots := 0, locals := 85 } E (cW E ad N ρ fl) [.ref (E.2.1 + 0), .ref (E.2.1 + 36), .ref (E.2.1 + 34)] (fun M' => ∃ ρ', M' = cW E ad N ρ' fl ∧ RV φ (ρ' 36) 2 (sqV x) ∧ kp 11 36 ρ ρ') := by
  have hf := hk.fm
  have I := isM_P hg
  refine gm_met (by decide) (Nat.le_of_ble_eq_true rfl) (fun p e s m below meth c ls hx hb hml hr hlk hnm hown hW X hl => ?_)
  have hl : lv_has ls 3 [(0, .ref (E.2.1 + 0)), (1, .ref (E.2.1 + 36)), (2, .ref (E.2.1 + 34))] := hl
  refine lv_aload_n hx hb d_Ben_squareOfY_0 rfl (lv_at hl 0 rfl) ?_
  refine gm_get hx hb hW hown X u_Ben o0 rfl 2 (by decide) wf_Ben_38 (v := .ref (E.2.1 + 11)) rfl d_Ben_squareOfY_1 ?_
  refine lv_aload_n hx hb d_Ben_squareOfY_4 rfl (lv_at hl 1 rfl) ?_
  refine lv_aload_n hx hb d_Ben_squareOfY_5 rfl (lv_at hl 2 rfl) ?_
  refine lv_aload_n hx hb d_Ben_squareOfY_6 rfl (lv_at hl 2 rfl) ?_
  refine gm_Vv hx hb hml hown hW X o11 (k_mul l I hf (by decide) (by decide) (by decide) hX hX (by decide)) (n := 3) ⟨⟨wl_Ben_195, wi_Mod_multiply, wsel_Mod_multiply, winit_Mod, wc_Mod_multiply⟩, by decide +kernel, ⟨Nat.le_of_ble_eq_true rfl, Nat.le_of_ble_eq_true rfl⟩, _, rfl, rfl⟩ rfl hl.1 rfl (Nat.le_of_ble_eq_true rfl) d_Ben_squareOfY_7 ⟨Nat.le_of_ble_eq_true rfl, Nat.le_of_ble_eq_true rfl⟩ (fun M1 H locs hp X => ?_)
  obtain ⟨ρ1, rfl, q1, kk1⟩ := hp
  have h34_1 : RV φ (ρ1 34) 1 x := by rw [kk1 34 (by omega) (by omega)]; exact hX
  have h36_1 : RV φ (ρ1 36) 1 (x * x) := q1
  refine lv_aload_n hx hb d_Ben_squareOfY_10 rfl (lv_at hl 0 rfl) ?_
  refine gm_get hx hb hW hown X u_Ben o0 rfl 2 (by decide) wf_Ben_38 (v := .ref (E.2.1 + 11)) rfl d_Ben_squareOfY_11 ?_
  refine lv_aload_n hx hb d_Ben_squareOfY_14 rfl (lv_at hl 1 rfl) ?_
  refine lv_aload_n hx hb d_Ben_squareOfY_15 rfl (lv_at hl 1 rfl) ?_
  refine lv_aload_n hx hb d_Ben_squareOfY_16 rfl (lv_at hl 2 rfl) ?_
  refine gm_Vv hx hb hml hown hW X o11 (k_mul l I hf (by decide) (by decide) (by decide) h36_1 h34_1 (by decide)) (n := 3) ⟨⟨wl_Ben_195, wi_Mod_multiply, wsel_Mod_multiply, winit_Mod, wc_Mod_multiply⟩, by decide +kernel, ⟨Nat.le_of_ble_eq_true rfl, Nat.le_of_ble_eq_true rfl⟩, _, rfl, rfl⟩ rfl hl.1 rfl (Nat.le_of_ble_eq_true rfl) d_Ben_squareOfY_17 ⟨Nat.le_of_ble_eq_true rfl, Nat.le_of_ble_eq_true rfl⟩ (fun M1 H locs hp X => ?_)
  obtain ⟨ρ2, rfl, q2, kk2⟩ := hp
  have h34_2 : RV φ (ρ2 34) 1 x := by rw [kk2 34 (by omega) (by omega)]; exact h34_1
  have h36_2 : RV φ (ρ2 36) 1 ((x * x) * x) := q2
  refine lv_aload_n hx hb d_Ben_squareOfY_20 rfl (lv_at hl 1 rfl) ?_
  refine lv_iconst (v := 0) hx hb d_Ben_squareOfY_21 (by decide) ?_
  refine lv_dup2_11 hx hb d_Ben_squareOfY_22 rfl rfl ?_
  refine gm_lald hx hb X (k := 0) (Or.inl (cw_row (n := 10) (by decide))) (by decide) ⟨by decide, by decide⟩ d_Ben_squareOfY_23 ?_
  refine lv_ldc2 (v := 7) hx hb hown (hW _ wk_Ben_226) d_Ben_squareOfY_24 ?_
  refine lv_ladd hx hb d_Ben_squareOfY_27 ?_
  refine gm_last hx hb X (k := 0) (cw_row (n := 10) (by decide)) (cw_ge _) (by decide) ⟨by decide, by decide⟩ d_Ben_squareOfY_28 (fun H locs X => ?_)
  rw [cw_upr (n := 10) _ (by decide)] at X
  refine gm_vret hx hb hr hlk X ⟨_, rfl, ?_, fun j hj hz => by rw [vu_n hj, kk2 j hj hz, kk1 j hj hz]⟩ d_Ben_squareOfY_29
  rw [vu_s]
  exact RV.s7 hf.1 h36_2
set_option maxHeartbeats 2000000 in
theorem k_Ben_isRoot {F : Type} [Lean.Grind.CommRing F] {φ : Int → F} {inv : F → F} (l : Launch) (E : gm_E) (ad : Nat → Nat) (N : gm_M) (ρ : Nat → Nat → Int64) (fl : Nat → Int32) (hg : gE E ad) (hk : fk φ inv) {y v : F} (hY : RV φ (ρ 35) 1 y) (hV : RV φ (ρ 36) 2 v) : ci_ l y_Ben_isRoot b_Ben_isRoot 3 (some .boolean) { frames := 4, cells := 0, slots := 0, locals := 93 } E (cW E ad N ρ fl) [.ref (E.2.1 + 0), .ref (E.2.1 + 35), .ref (E.2.1 + 36)] (fun r M' => ∃ ρ', M' = cW E ad N ρ' fl ∧ ((r = 1 ∧ y * y = v) ∨ (r = 0 ∧ ¬ y * y = v)) ∧ kp 11 37 ρ ρ') := by
  have hf := hk.fm
  have I := isM_P hg
  refine gm_met (by decide) (Nat.le_of_ble_eq_true rfl) (fun p e s m below meth c ls hx hb hml hr hlk hnm hown hW X hl => ?_)
  have hl : lv_has ls 3 [(0, .ref (E.2.1 + 0)), (1, .ref (E.2.1 + 35)), (2, .ref (E.2.1 + 36))] := hl
  refine lv_aload_n hx hb d_Ben_isRoot_0 rfl (lv_at hl 0 rfl) ?_
  refine gm_get hx hb hW hown X u_Ben o0 rfl 2 (by decide) wf_Ben_38 (v := .ref (E.2.1 + 11)) rfl d_Ben_isRoot_1 ?_
  refine lv_aload_n hx hb d_Ben_isRoot_4 rfl (lv_at hl 0 rfl) ?_
  refine gm_get hx hb hW hown X u_Ben o0 rfl 8 (by decide) wf_Ben_77 (v := .ref (E.2.1 + 37)) rfl d_Ben_isRoot_5 ?_
  refine lv_aload_n hx hb d_Ben_isRoot_8 rfl (lv_at hl 1 rfl) ?_
  refine lv_aload_n hx hb d_Ben_isRoot_9 rfl (lv_at hl 1 rfl) ?_
  refine gm_Vv hx hb hml hown hW X o11 (k_mul l I hf (by decide) (by decide) (by decide) hY hY (by decide)) (n := 3) ⟨⟨wl_Ben_195, wi_Mod_multiply, wsel_Mod_multiply, winit_Mod, wc_Mod_multiply⟩, by decide +kernel, ⟨Nat.le_of_ble_eq_true rfl, Nat.le_of_ble_eq_true rfl⟩, _, rfl, rfl⟩ rfl hl.1 rfl (Nat.le_of_ble_eq_true rfl) d_Ben_isRoot_10 ⟨Nat.le_of_ble_eq_true rfl, Nat.le_of_ble_eq_true rfl⟩ (fun M1 H locs hp X => ?_)
  obtain ⟨ρ1, rfl, q1, kk1⟩ := hp
  have h35_1 : RV φ (ρ1 35) 1 y := by rw [kk1 35 (by omega) (by omega)]; exact hY
  have h36_1 : RV φ (ρ1 36) 2 v := by rw [kk1 36 (by omega) (by omega)]; exact hV
  have h37_1 : RV φ (ρ1 37) 1 (y * y) := q1
  refine lv_aload_n hx hb d_Ben_isRoot_13 rfl (lv_at hl 0 rfl) ?_
  refine gm_get hx hb hW hown X u_Ben o0 rfl 2 (by decide) wf_Ben_38 (v := .ref (E.2.1 + 11)) rfl d_Ben_isRoot_14 ?_
  refine lv_aload_n hx hb d_Ben_isRoot_17 rfl (lv_at hl 0 rfl) ?_
  refine gm_get hx hb hW hown X u_Ben o0 rfl 8 (by decide) wf_Ben_77 (v := .ref (E.2.1 + 37)) rfl d_Ben_isRoot_18 ?_
  refine lv_aload_n hx hb d_Ben_isRoot_21 rfl (lv_at hl 2 rfl) ?_
  refine gm_Vi hx hb hml hown hW X o11 (k_areCongruent l I hf (by decide) (by decide) h37_1 h36_1 (by decide)) (n := 2) ⟨⟨wl_Ben_207, wi_Mod_areCongruent, wsel_Mod_areCongruent, winit_Mod, wc_Mod_areCongruent⟩, by decide +kernel, ⟨Nat.le_of_ble_eq_true rfl, Nat.le_of_ble_eq_true rfl⟩, _, rfl, rfl⟩ rfl hl.1 rfl (Nat.le_of_ble_eq_true rfl) d_Ben_isRoot_22 ⟨Nat.le_of_ble_eq_true rfl, Nat.le_of_ble_eq_true rfl⟩ (fun r M1 H locs hp X => ?_)
  obtain ⟨ρ2, rfl, q2, kk2⟩ := hp
  refine gm_zret hx hb hr hlk X (by rcases q2 with h | h <;> rw [h.1] <;> rfl) ⟨_, rfl, q2, fun j hj hz => by rw [kk2 j (by omega) hz, kk1 j hj hz]⟩ d_Ben_isRoot_25
set_option maxHeartbeats 2000000 in
theorem k_Ben_productModuloN {F G : Type} [Lean.Grind.CommRing F] [Lean.Grind.CommRing G] {φ : Int → F} {inv : F → F} {ψ : Int → G} (l : Launch) (E : gm_E) (ad : Nat → Nat) (N : gm_M) (ρ : Nat → Nat → Int64) (fl : Nat → Int32) (hg : gE E ad) (hk : fk φ inv) (hn : fm ψ nN) {t xn : Nat} {fn : Nat → Int64} {v : G} (ht : t = 39 ∨ t = 40) (hxn : rdK E ρ xn fn) (hV : RV ψ (ρ 38) 1 v) : cv_ l y_Ben_productModuloN b_Ben_productModuloN 4 none { frames := 3, cells := 0, slots := 0, locals := 85 } E (cW E ad N ρ fl) [.ref (E.2.1 + 0), .ref (E.2.1 + t), .ref xn, .ref (E.2.1 + 38)] (fun M' => ∃ ρ', M' = cW E ad N ρ' fl ∧ NV (ρ' t) = rp ψ nN (ψ (NV fn) * v) ∧ ∀ j, j ≠ 36 → j ≠ t → ¬ (16 < j ∧ j < 21) → ρ' j = ρ j) := by
  have ht4 : r4 t := by rcases ht with rfl | rfl <;> decide
  have hf := hk.fm
  have I := isM_P hg
  have I2 := isM_N hg
  refine gm_met (by decide) (Nat.le_of_ble_eq_true rfl) (fun p e s m below meth c ls hx hb hml hr hlk hnm hown hW X hl => ?_)
  have hl : lv_has ls 4 [(0, .ref (E.2.1 + 0)), (1, .ref (E.2.1 + t)), (2, .ref xn), (3, .ref (E.2.1 + 38))] := hl
  refine lv_aload_n hx hb d_Ben_productModuloN_0 rfl (lv_at hl 0 rfl) ?_
  refine gm_get hx hb hW hown X u_Ben o0 rfl 7 (by decide) wf_Ben_74 (v := .ref (E.2.1 + 36)) rfl d_Ben_productModuloN_1 ?_
  refine lv_aload_n hx hb d_Ben_productModuloN_4 rfl (lv_at hl 2 rfl) ?_
  refine gm_Sv hx hb hml hown hW X (k_unpack l (by decide) hxn.rd) (n := 2) ⟨⟨wl_Ben_95, ws_Lim_unpack, winit_Lim, wc_Lim_unpack⟩, by decide +kernel, Nat.le_of_ble_eq_true rfl, Nat.le_of_ble_eq_true rfl⟩ rfl hl.1 rfl (Nat.le_of_ble_eq_true rfl) d_Ben_productModuloN_5 ⟨Nat.le_of_ble_eq_true rfl, Nat.le_of_ble_eq_true rfl⟩ (fun M1 H locs hp X => ?_)
  obtain ⟨ρ1, rfl, q1, kk1⟩ := hp
  have h38_1 : RV ψ (ρ1 38) 1 v := by rw [kk1 38 (by omega)]; exact hV
  refine lv_aload_n hx hb d_Ben_productModuloN_8 rfl (lv_at hl 0 rfl) ?_
  refine gm_get hx hb hW hown X u_Ben o0 rfl 3 (by decide) wf_Ben_54 (v := .ref (E.2.1 + 16)) rfl d_Ben_productModuloN_9 ?_
  refine lv_aload_n hx hb d_Ben_productModuloN_12 rfl (lv_at hl 0 rfl) ?_
  refine gm_get hx hb hW hown X u_Ben o0 rfl 7 (by decide) wf_Ben_74 (v := .ref (E.2.1 + 36)) rfl d_Ben_productModuloN_13 ?_
  refine lv_aload_n hx hb d_Ben_productModuloN_16 rfl (lv_at hl 0 rfl) ?_
  refine gm_get hx hb hW hown X u_Ben o0 rfl 7 (by decide) wf_Ben_74 (v := .ref (E.2.1 + 36)) rfl d_Ben_productModuloN_17 ?_
  refine lv_aload_n hx hb d_Ben_productModuloN_20 rfl (lv_at hl 3 rfl) ?_
  refine gm_Vv hx hb hml hown hW X o16 (k_mul l I2 hn (by decide) (by decide) (by decide) (show RV ψ (ρ1 36) 1 (ψ (NV fn)) by rw [q1]; exact RV.un _ _) h38_1 (by decide)) (n := 3) ⟨⟨wl_Ben_195, wi_Mod_multiply, wsel_Mod_multiply, winit_Mod, wc_Mod_multiply⟩, by decide +kernel, ⟨Nat.le_of_ble_eq_true rfl, Nat.le_of_ble_eq_true rfl⟩, _, rfl, rfl⟩ rfl hl.1 rfl (Nat.le_of_ble_eq_true rfl) d_Ben_productModuloN_21 ⟨Nat.le_of_ble_eq_true rfl, Nat.le_of_ble_eq_true rfl⟩ (fun M1 H locs hp X => ?_)
  obtain ⟨ρ2, rfl, q2, kk2⟩ := hp
  have h38_2 : RV ψ (ρ2 38) 1 v := by rw [kk2 38 (by omega) (by omega)]; exact h38_1
  have h36_2 : RV ψ (ρ2 36) 1 ((ψ (NV fn)) * v) := q2
  refine lv_aload_n hx hb d_Ben_productModuloN_24 rfl (lv_at hl 0 rfl) ?_
  refine gm_get hx hb hW hown X u_Ben o0 rfl 3 (by decide) wf_Ben_54 (v := .ref (E.2.1 + 16)) rfl d_Ben_productModuloN_25 ?_
  refine lv_aload_n hx hb d_Ben_productModuloN_28 rfl (lv_at hl 0 rfl) ?_
  refine gm_get hx hb hW hown X u_Ben o0 rfl 7 (by decide) wf_Ben_74 (v := .ref (E.2.1 + 36)) rfl d_Ben_productModuloN_29 ?_
  refine gm_Vv hx hb hml hown hW X o16 (k_settle l I2 hn (by decide) (by omega) h36_2 (by decide)) (n := 1) ⟨⟨wl_Ben_137, wi_Mod_settle, wsel_Mod_settle, winit_Mod, wc_Mod_settle⟩, by decide +kernel, ⟨Nat.le_of_ble_eq_true rfl, Nat.le_of_ble_eq_true rfl⟩, _, rfl, rfl⟩ rfl hl.1 rfl (Nat.le_of_ble_eq_true rfl) d_Ben_productModuloN_32 ⟨Nat.le_of_ble_eq_true rfl, Nat.le_of_ble_eq_true rfl⟩ (fun M1 H locs hp X => ?_)
  obtain ⟨ρ3, rfl, q3, kk3⟩ := hp
  have h38_3 : RV ψ (ρ3 38) 1 v := by rw [kk3 38 (by omega) (by omega)]; exact h38_2
  have s36_3 : ST ψ nN (ρ3 36) ((ψ (NV fn)) * v) := q3
  refine lv_aload_n hx hb d_Ben_productModuloN_35 rfl (lv_at hl 1 rfl) ?_
  refine lv_aload_n hx hb d_Ben_productModuloN_36 rfl (lv_at hl 0 rfl) ?_
  refine gm_get hx hb hW hown X u_Ben o0 rfl 7 (by decide) wf_Ben_74 (v := .ref (E.2.1 + 36)) rfl d_Ben_productModuloN_37 ?_
  refine gm_Sv hx hb hml hown hW X (k_pack l ht4 (by decide)) (n := 2) ⟨⟨wl_Ben_141, ws_Lim_pack, winit_Lim, wc_Lim_pack⟩, by decide +kernel, Nat.le_of_ble_eq_true rfl, Nat.le_of_ble_eq_true rfl⟩ rfl hl.1 rfl (Nat.le_of_ble_eq_true rfl) d_Ben_productModuloN_40 ⟨Nat.le_of_ble_eq_true rfl, Nat.le_of_ble_eq_true rfl⟩ (fun M1 H locs hp X => ?_)
  obtain ⟨ρ4, rfl, q4, kk4⟩ := hp
  refine gm_vret hx hb hr hlk X ⟨_, rfl, ?_, fun j h1 h2 h3 => by rw [kk4 j h2, kk3 j h1 h3, kk2 j h1 h3, kk1 j h1]⟩ d_Ben_productModuloN_43
  rw [q4]
  exact s36_3.pkr hn
theorem par_y {m : Int} {r : Nat → Int} (h : sett m r) : ((oF r 0 &&& 1) = 0) ↔ us r 0 10 % 2 = 0 := by
  have h0 := h.1 0 (by decide)
  rw [uN_bit]
  have e1 : (oF r 0).toInt = r 0 := Int64.toInt_ofInt_of_le (by omega) (by omega)
  have e2 := uN_int (oF r 0)
  have e3 := uN_lt (oF r 0)
  have e4 : us r 0 10 % 2 = r 0 % 2 := by
    simp only [us, tp]
    simp
    omega
  rw [e4]
  split at e2 <;> omega
set_option maxHeartbeats 2000000 in
theorem k_Ben_makeParity {F : Type} [Lean.Grind.CommRing F] {φ : Int → F} {inv : F → F} (l : Launch) (E : gm_E) (ad : Nat → Nat) (N : gm_M) (ρ : Nat → Nat → Int64) (fl : Nat → Int32) (hg : gE E ad) (hk : fk φ inv) {x : F} {odd : Int32} (hodd : odd = 0 ∨ odd = 1) (hY : RV φ (ρ 35) 1 (fp_pw (sqV x) (NV sRt))) : cv_ l y_Ben_makeParity b_Ben_makeParity 4 none { frames := 3, cells := 0, slots := 0, locals := 71 } E (cW E ad N ρ fl) [.ref (E.2.1 + 0), .ref (E.2.1 + 35), .int odd] (fun M' => ∃ ρ', M' = cW E ad N ρ' fl ∧ ST φ nP (ρ' 35) (rtV φ x odd) ∧ ∀ j, j ≠ 35 → j ≠ 37 → ¬ (11 < j ∧ j < 16) → ρ' j = ρ j) := by
  have hf := hk.fm
  have I := isM_P hg
  refine gm_met (by decide) (Nat.le_of_ble_eq_true rfl) (fun p e s m below meth c ls hx hb hml hr hlk hnm hown hW X hl => ?_)
  have hl : lv_has ls 4 [(0, .ref (E.2.1 + 0)), (1, .ref (E.2.1 + 35)), (2, .int odd)] := hl
  refine lv_aload_n hx hb d_Ben_makeParity_0 rfl (lv_at hl 0 rfl) ?_
  refine gm_get hx hb hW hown X u_Ben o0 rfl 2 (by decide) wf_Ben_38 (v := .ref (E.2.1 + 11)) rfl d_Ben_makeParity_1 ?_
  refine lv_aload_n hx hb d_Ben_makeParity_4 rfl (lv_at hl 1 rfl) ?_
  refine gm_Vv hx hb hml hown hW X o11 (k_settle l I hf (by decide) (by omega) hY (by decide)) (n := 1) ⟨⟨wl_Ben_137, wi_Mod_settle, wsel_Mod_settle, winit_Mod, wc_Mod_settle⟩, by decide +kernel, ⟨Nat.le_of_ble_eq_true rfl, Nat.le_of_ble_eq_true rfl⟩, _, rfl, rfl⟩ rfl hl.1 rfl (Nat.le_of_ble_eq_true rfl) d_Ben_makeParity_5 ⟨Nat.le_of_ble_eq_true rfl, Nat.le_of_ble_eq_true rfl⟩ (fun M1 H locs hp X => ?_)
  obtain ⟨ρ1, rfl, q1, kk1⟩ := hp
  have s35_1 : ST φ nP (ρ1 35) (fp_pw (sqV x) (NV sRt)) := q1
  refine lv_aload_n hx hb d_Ben_makeParity_8 rfl (lv_at hl 1 rfl) ?_
  refine lv_iconst (v := 0) hx hb d_Ben_makeParity_9 (by decide) ?_
  obtain ⟨rr, er, sr, ur⟩ := ST.rep hf s35_1
  have pr := par_y sr
  rw [ur] at pr
  refine gm_lald hx hb X (k := 0) (Or.inl (cw_row (n := 10) (by decide))) (by decide) ⟨by decide, by decide⟩ d_Ben_makeParity_10 ?_
  refine lv_lconst (v := 1) hx hb d_Ben_makeParity_11 (by decide) ?_
  refine lv_land hx hb d_Ben_makeParity_12 ?_
  refine lv_lconst (v := 0) hx hb d_Ben_makeParity_13 (by decide) ?_
  refine W.lcmp hx hb d_Ben_makeParity_14 ?_
  rw [show ρ1 35 0 = oF rr 0 by rw [er]]
  refine lv_if_eq (tgt := 22) hx hb d_Ben_makeParity_15 (by decide) (fun c15 => ?_) (fun c15 => ?_)
  · refine lv_iconst (v := 0) hx hb d_Ben_makeParity_22 (by decide) ?_
    refine lv_istore_n (lv' := [(3, .int 0), (0, .ref (E.2.1 + 0)), (1, .ref (E.2.1 + 35)), (2, .int odd)]) hx hb d_Ben_makeParity_23 rfl hl (by decide) rfl (fun ls hl => ?_)
    refine lv_iload_n hx hb d_Ben_makeParity_24 rfl (lv_at hl 0 rfl) ?_
    refine lv_iload_n hx hb d_Ben_makeParity_25 rfl (lv_at hl 3 rfl) ?_
    refine lv_icmp_eq (tgt := 56) hx hb d_Ben_makeParity_26 (by decide) (fun c26 => ?_) (fun c26 => ?_)
    · have hq : (rp φ nP (fp_pw (sqV x) (NV sRt)) % 2 = 1) ↔ odd = 1 := by
        have z := pr.mp ((cmp0 _ _).mp c15)
        exact ⟨fun z2 => by omega, fun z2 => absurd (c26.trans z2) (by decide)⟩
      refine gm_vret hx hb hr hlk X ⟨_, rfl, ?_, fun j h1 h2 h3 => kk1 j h1 h3⟩ d_Ben_makeParity_56
      rw [rtV, if_pos hq]
      exact s35_1
    · have hq : ¬ ((rp φ nP (fp_pw (sqV x) (NV sRt)) % 2 = 1) ↔ odd = 1) := by
        have z := pr.mp ((cmp0 _ _).mp c15)
        intro q
        rcases hodd with h | h
        · exact c26 h.symm
        · have := q.mpr h
          omega
      refine lv_aload_n hx hb d_Ben_makeParity_29 rfl (lv_at hl 1 rfl) ?_
      refine gm_get hx hb hW hown X u_Ben o0 rfl 8 (by decide) wf_Ben_77 (v := .ref (E.2.1 + 37)) rfl d_Ben_makeParity_30 ?_
      refine gm_gets hx hb hW hown X hg.1.1 wf_Ben_178 d_Ben_makeParity_33 ?_
      refine gm_Sv hx hb hml hown hW X (k_unpack l (by decide) (Or.inr hg.1.2)) (n := 2) ⟨⟨wl_Ben_95, ws_Lim_unpack, winit_Lim, wc_Lim_unpack⟩, by decide +kernel, Nat.le_of_ble_eq_true rfl, Nat.le_of_ble_eq_true rfl⟩ rfl hl.1 rfl (Nat.le_of_ble_eq_true rfl) d_Ben_makeParity_36 ⟨Nat.le_of_ble_eq_true rfl, Nat.le_of_ble_eq_true rfl⟩ (fun M1 H locs hp X => ?_)
      obtain ⟨ρ2, rfl, q2, kk2⟩ := hp
      have s35_2 : ST φ nP (ρ2 35) (fp_pw (sqV x) (NV sRt)) := by rw [kk2 35 (by omega)]; exact s35_1
      refine lv_aload_n hx hb d_Ben_makeParity_39 rfl (lv_at hl 2 rfl) ?_
      refine lv_aload_n hx hb d_Ben_makeParity_40 rfl (lv_at hl 1 rfl) ?_
      refine gm_get hx hb hW hown X u_Ben o0 rfl 8 (by decide) wf_Ben_77 (v := .ref (E.2.1 + 37)) rfl d_Ben_makeParity_41 ?_
      refine lv_aload_n hx hb d_Ben_makeParity_44 rfl (lv_at hl 2 rfl) ?_
      refine gm_Sv hx hb hml hown hW X (k_minus l hf.1 (by decide) (by decide) (by decide) (show RV φ (ρ2 37) 1 (φ (NV sZ)) by rw [q2]; exact RV.un _ _) s35_2.rv) (n := 3) ⟨⟨wl_Ben_223, ws_Lim_minus, winit_Lim, wc_Lim_minus⟩, by decide +kernel, Nat.le_of_ble_eq_true rfl, Nat.le_of_ble_eq_true rfl⟩ rfl hl.1 rfl (Nat.le_of_ble_eq_true rfl) d_Ben_makeParity_45 ⟨Nat.le_of_ble_eq_true rfl, Nat.le_of_ble_eq_true rfl⟩ (fun M1 H locs hp X => ?_)
      obtain ⟨ρ3, rfl, q3, kk3⟩ := hp
      have u37_3 : ρ3 37 = unF sZ := by rw [kk3 37 (by omega)]; exact q2
      have h35_3 : RV φ (ρ3 35) 2 ((φ (NV sZ)) - (fp_pw (sqV x) (NV sRt))) := q3.up (by decide)
      refine lv_aload_n hx hb d_Ben_makeParity_48 rfl (lv_at hl 1 rfl) ?_
      refine gm_get hx hb hW hown X u_Ben o0 rfl 2 (by decide) wf_Ben_38 (v := .ref (E.2.1 + 11)) rfl d_Ben_makeParity_49 ?_
      refine lv_aload_n hx hb d_Ben_makeParity_52 rfl (lv_at hl 2 rfl) ?_
      refine gm_Vv hx hb hml hown hW X o11 (k_settle l I hf (by decide) (by omega) h35_3 (by decide)) (n := 1) ⟨⟨wl_Ben_137, wi_Mod_settle, wsel_Mod_settle, winit_Mod, wc_Mod_settle⟩, by decide +kernel, ⟨Nat.le_of_ble_eq_true rfl, Nat.le_of_ble_eq_true rfl⟩, _, rfl, rfl⟩ rfl hl.1 rfl (Nat.le_of_ble_eq_true rfl) d_Ben_makeParity_53 ⟨Nat.le_of_ble_eq_true rfl, Nat.le_of_ble_eq_true rfl⟩ (fun M1 H locs hp X => ?_)
      obtain ⟨ρ4, rfl, q4, kk4⟩ := hp
      have u37_4 : ρ4 37 = unF sZ := by rw [kk4 37 (by omega) (by omega)]; exact u37_3
      have s35_4 : ST φ nP (ρ4 35) ((φ (NV sZ)) - (fp_pw (sqV x) (NV sRt))) := q4
      refine gm_vret hx hb hr hlk X ⟨_, rfl, ?_, fun j h1 h2 h3 => by rw [kk4 j (by omega) (by omega), kk3 j (by omega), kk2 j (by omega), kk1 j (by omega) (by omega)]⟩ d_Ben_makeParity_56
      rw [rtV, if_neg hq, ← hf.1.z]
      exact s35_4
  · refine lv_iconst (v := 1) hx hb d_Ben_makeParity_18 (by decide) ?_
    refine lv_goto (tgt := 23) hx hb d_Ben_makeParity_19 (by decide) ?_
    refine lv_istore_n (lv' := [(3, .int 1), (0, .ref (E.2.1 + 0)), (1, .ref (E.2.1 + 35)), (2, .int odd)]) hx hb d_Ben_makeParity_23 rfl hl (by decide) rfl (fun ls hl => ?_)
    refine lv_iload_n hx hb d_Ben_makeParity_24 rfl (lv_at hl 0 rfl) ?_
    refine lv_iload_n hx hb d_Ben_makeParity_25 rfl (lv_at hl 3 rfl) ?_
    refine lv_icmp_eq (tgt := 56) hx hb d_Ben_makeParity_26 (by decide) (fun c26 => ?_) (fun c26 => ?_)
    · have hq : (rp φ nP (fp_pw (sqV x) (NV sRt)) % 2 = 1) ↔ odd = 1 := by
        have z : ¬ (rp φ nP (fp_pw (sqV x) (NV sRt)) : Int) % 2 = 0 := fun z => c15 ((cmp0 _ _).mpr (pr.mpr z))
        exact ⟨fun _ => c26.symm, fun _ => by omega⟩
      refine gm_vret hx hb hr hlk X ⟨_, rfl, ?_, fun j h1 h2 h3 => kk1 j h1 h3⟩ d_Ben_makeParity_56
      rw [rtV, if_pos hq]
      exact s35_1
    · have hq : ¬ ((rp φ nP (fp_pw (sqV x) (NV sRt)) % 2 = 1) ↔ odd = 1) := by
        have z : ¬ (rp φ nP (fp_pw (sqV x) (NV sRt)) : Int) % 2 = 0 := fun z => c15 ((cmp0 _ _).mpr (pr.mpr z))
        exact fun q => c26 (q.mp (by omega)).symm
      refine lv_aload_n hx hb d_Ben_makeParity_29 rfl (lv_at hl 1 rfl) ?_
      refine gm_get hx hb hW hown X u_Ben o0 rfl 8 (by decide) wf_Ben_77 (v := .ref (E.2.1 + 37)) rfl d_Ben_makeParity_30 ?_
      refine gm_gets hx hb hW hown X hg.1.1 wf_Ben_178 d_Ben_makeParity_33 ?_
      refine gm_Sv hx hb hml hown hW X (k_unpack l (by decide) (Or.inr hg.1.2)) (n := 2) ⟨⟨wl_Ben_95, ws_Lim_unpack, winit_Lim, wc_Lim_unpack⟩, by decide +kernel, Nat.le_of_ble_eq_true rfl, Nat.le_of_ble_eq_true rfl⟩ rfl hl.1 rfl (Nat.le_of_ble_eq_true rfl) d_Ben_makeParity_36 ⟨Nat.le_of_ble_eq_true rfl, Nat.le_of_ble_eq_true rfl⟩ (fun M1 H locs hp X => ?_)
      obtain ⟨ρ5, rfl, q5, kk5⟩ := hp
      have s35_5 : ST φ nP (ρ5 35) (fp_pw (sqV x) (NV sRt)) := by rw [kk5 35 (by omega)]; exact s35_1
      refine lv_aload_n hx hb d_Ben_makeParity_39 rfl (lv_at hl 2 rfl) ?_
      refine lv_aload_n hx hb d_Ben_makeParity_40 rfl (lv_at hl 1 rfl) ?_
      refine gm_get hx hb hW hown X u_Ben o0 rfl 8 (by decide) wf_Ben_77 (v := .ref (E.2.1 + 37)) rfl d_Ben_makeParity_41 ?_
      refine lv_aload_n hx hb d_Ben_makeParity_44 rfl (lv_at hl 2 rfl) ?_
      refine gm_Sv hx hb hml hown hW X (k_minus l hf.1 (by decide) (by decide) (by decide) (show RV φ (ρ5 37) 1 (φ (NV sZ)) by rw [q5]; exact RV.un _ _) s35_5.rv) (n := 3) ⟨⟨wl_Ben_223, ws_Lim_minus, winit_Lim, wc_Lim_minus⟩, by decide +kernel, Nat.le_of_ble_eq_true rfl, Nat.le_of_ble_eq_true rfl⟩ rfl hl.1 rfl (Nat.le_of_ble_eq_true rfl) d_Ben_makeParity_45 ⟨Nat.le_of_ble_eq_true rfl, Nat.le_of_ble_eq_true rfl⟩ (fun M1 H locs hp X => ?_)
      obtain ⟨ρ6, rfl, q6, kk6⟩ := hp
      have u37_6 : ρ6 37 = unF sZ := by rw [kk6 37 (by omega)]; exact q5
      have h35_6 : RV φ (ρ6 35) 2 ((φ (NV sZ)) - (fp_pw (sqV x) (NV sRt))) := q6.up (by decide)
      refine lv_aload_n hx hb d_Ben_makeParity_48 rfl (lv_at hl 1 rfl) ?_
      refine gm_get hx hb hW hown X u_Ben o0 rfl 2 (by decide) wf_Ben_38 (v := .ref (E.2.1 + 11)) rfl d_Ben_makeParity_49 ?_
      refine lv_aload_n hx hb d_Ben_makeParity_52 rfl (lv_at hl 2 rfl) ?_
      refine gm_Vv hx hb hml hown hW X o11 (k_settle l I hf (by decide) (by omega) h35_6 (by decide)) (n := 1) ⟨⟨wl_Ben_137, wi_Mod_settle, wsel_Mod_settle, winit_Mod, wc_Mod_settle⟩, by decide +kernel, ⟨Nat.le_of_ble_eq_true rfl, Nat.le_of_ble_eq_true rfl⟩, _, rfl, rfl⟩ rfl hl.1 rfl (Nat.le_of_ble_eq_true rfl) d_Ben_makeParity_53 ⟨Nat.le_of_ble_eq_true rfl, Nat.le_of_ble_eq_true rfl⟩ (fun M1 H locs hp X => ?_)
      obtain ⟨ρ7, rfl, q7, kk7⟩ := hp
      have u37_7 : ρ7 37 = unF sZ := by rw [kk7 37 (by omega) (by omega)]; exact u37_6
      have s35_7 : ST φ nP (ρ7 35) ((φ (NV sZ)) - (fp_pw (sqV x) (NV sRt))) := q7
      refine gm_vret hx hb hr hlk X ⟨_, rfl, ?_, fun j h1 h2 h3 => by rw [kk7 j (by omega) (by omega), kk6 j (by omega), kk5 j (by omega), kk1 j (by omega) (by omega)]⟩ d_Ben_makeParity_56
      rw [rtV, if_neg hq, ← hf.1.z]
      exact s35_7
