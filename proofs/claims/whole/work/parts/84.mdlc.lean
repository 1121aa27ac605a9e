/-! PointBenchModel's constructor: written by wip/gen/ctor3.py -/
def mvP : Nat → Int32 := (upd (upd (upd (upd (upd (upd (upd (upd (fun _ => 0) 0 (-977)) 1 (-2)) 2 (-1)) 3 (-1)) 4 (-1)) 5 (-1)) 6 (-1)) 7 (-1))
def mvN : Nat → Int32 := (upd (upd (upd (upd (upd (upd (upd (upd (fun _ => 0) 0 (-801750719)) 1 (-1076732276)) 2 (-1354194885)) 3 (-1162945306)) 4 (-2)) 5 (-1)) 6 (-1)) 7 (-1))
def mgX : Nat → Int32 := (upd (upd (upd (upd (upd (upd (upd (upd (fun _ => 0) 0 385357720) 1 1509065051) 2 768485593) 3 43777243) 4 (-830010617)) 5 1436574357) 6 (-102974548)) 7 2042521214)
def mgY : Nat → Int32 := (upd (upd (upd (upd (upd (upd (upd (upd (fun _ => 0) 0 (-82783048)) 1 (-1673015153)) 2 (-1501211623)) 3 (-48778168)) 4 235997352) 5 1571093500) 6 648266853) 7 1211816567)
theorem mvP_v : ((IV mvP 8 : Nat) : Int) = nP := by decide +kernel
theorem mvN_v : ((IV mvN 8 : Nat) : Int) = nN := by decide +kernel
theorem mgX_v : IV mgX 8 = gXn := by decide +kernel
theorem mgY_v : IV mgY 8 = gYn := by decide +kernel
theorem mv7_v : IV (upd (fun _ => 0) 0 7) 8 = 7 := by decide +kernel
theorem mv1_v : IV (upd (fun _ => 0) 0 1) 8 = 1 := by decide +kernel
theorem tq8_v : (2 : Nat) ^ 256 = tq 8 := by decide +kernel
theorem rg_R {F : Type} [Lean.Grind.CommRing F] {φ : Int → F} {m : Int} (hf : fm φ m) {mv h1 h2 : Nat → Int32} (hm : ((IV mv 8 : Nat) : Int) = m) (hpos : 1 < IV mv 8) (v1 : IV h1 8 = 2 ^ 256 % IV mv 8) (v2 : IV h2 8 = IV h1 8 * 2 ^ 256 % IV mv 8) : MV φ m h1 1 ∧ PV φ m h2 (φ (tq 8) * φ (tq 8)) := by
  rw [tq8_v] at v1 v2
  have l1 : IV h1 8 < IV mv 8 := by rw [v1]; exact Nat.mod_lt _ (by omega)
  have l2 : IV h2 8 < IV mv 8 := by rw [v2]; exact Nat.mod_lt _ (by omega)
  have e1 : φ ((IV h1 8 : Nat) : Int) = φ ((tq 8 : Nat) : Int) := ph_md hf hm (by rw [v1, Nat.mod_mod])
  have e2 : φ ((IV h2 8 : Nat) : Int) = φ ((IV h1 8 * tq 8 : Nat) : Int) := ph_md hf hm (by rw [v2, Nat.mod_mod])
  rw [Int.natCast_mul, hf.1.2.1, e1] at e2
  exact ⟨⟨by omega, by rw [e1, Lean.Grind.Semiring.one_mul]⟩, ⟨by omega, e2⟩⟩
def eF (e : va_E) : Nat → Int32 := match e with
  | .inl (_, _, .inl f) => f
  | _ => fun _ => 0
theorem ow_mw {E : gm_E} {N : gm_M} {g : Nat → va_E} {cd : Int32} (h : ∀ k, 53 ≤ k → k < 133 → some (g k) = ml E (fun k => eF (g k)) cd k) : oW E.2.1 53 N 133 g = mW E N (fun k => eF (g k)) cd := by
  funext x
  rw [oW, mW]
  by_cases hx : E.2.1 + 53 ≤ x ∧ x < E.2.1 + 133
  · rw [if_pos hx, if_pos hx, h _ (by omega) (by omega)]
  · rw [if_neg hx, if_neg hx]
set_option maxRecDepth 100000 in
set_option maxHeartbeats 16000000 in
theorem z_Mdl_init (l : Launch) (E : gm_E) (N : gm_M) {F G : Type} [Lean.Grind.CommRing F] [Lean.Grind.CommRing G] {φ : Int → F} {inv : F → F} (hk : fk φ inv) {ψ : Int → G} (hn : fm ψ nN) {Ri : F} (hR : φ (tq 8) * Ri = 1) : cz_ l y_Mdl_init b_Mdl_init 5 { frames := 3, cells := 79, slots := 587, locals := 74 } E (oW E.2.1 53 N 54 (fun _ => OB 6 [.null, .null, .null, .null, .null, .null, .null, .null, .null, .null, .null, .null, .null, .null, .null, .null, .null, .null, .null, .null, .null, .null, .int 0])) (E.2.1 + 54) [.ref (E.2.1 + 53)] (fun M' => ∃ τ, M' = mW E N τ 0 ∧ (∀ r, r < 8 → τ (80 + r) = fun _ => 0) ∧ (∀ p, p < 4 → τ (115 + 4 * p + 3) = fun _ => 0) ∧ mpR φ τ 55 (some (φ gXn, φ gYn)) ∧ isR φ nP 99 τ ∧ isR ψ nN 107 τ ∧ MV φ nP (τ 54) 7) := by
  refine gm_metZ (by decide) (Nat.le_of_ble_eq_true rfl) (fun p e s m below meth c ls hx hb hml hr hlk hnm hown hW X hz hl => ?_)
  have hf := hk.fm
  have h0 := hz
  have hl : lv_has ls 5 [(0, .ref (E.2.1 + 53))] := hl
  refine lv_aload_n hx hb d_Mdl_init_0 rfl (lv_at hl 0 rfl) ?_
  refine gm_obj hx hb hml hW hown wl_Mdl_69 hl.1 (Nat.le_of_ble_eq_true rfl) (Nat.le_of_ble_eq_true rfl) d_Mdl_init_1 ?_
  refine lv_aload_n hx hb d_Mdl_init_4 rfl (lv_at hl 0 rfl) ?_
  refine lv_bipush (v := 8) hx hb d_Mdl_init_5 (by decide) ?_
  refine gm_newi hx hb hW X hz (N := 8) (by decide) (by decide) (by decide) ⟨Nat.le_of_ble_eq_true rfl, Nat.le_of_ble_eq_true rfl⟩ d_Mdl_init_7 (fun H hz X => ?_)
  rw [ow_push (by decide)] at X
  have hz : H.size = E.2.1 + 55 := hz
  refine gm_putF hx hb hW hown X u_Mdl t_Mdl t_Mdl_ok n_Mdl (fs := [.null, .null, .null, .null, .null, .null, .null, .null, .null, .null, .null, .null, .null, .null, .null, .null, .null, .null, .null, .null, .null, .null, .int 0]) (ow_at (k := 53) ⟨by decide, by decide⟩ rfl) (cw_ge _) rfl 2 (by decide) wf_Mdl_75 rfl hnm rfl (ty := .array .int) (v := .ref (E.2.1 + 54)) (by decide) rfl rfl (Nat.le_of_ble_eq_true rfl) d_Mdl_init_9 (fun H locs hz1 X => ?_)
  have hz := hz1.trans hz
  rw [ow_up ⟨by decide, by decide⟩] at X
  refine lv_aload_n hx hb d_Mdl_init_12 rfl (lv_at hl 0 rfl) ?_
  refine gm_new (ci := 5) hx hb hW hown X hz u_Rpt t_Rpt t_Rpt_ok rfl wcl_Mdl_2 winst_Rpt winit_Rpt (fs := [.null, .null, .null]) (fun j hj => by rcases (show j = 0 ∨ j = 1 ∨ j = 2 by omega) with rfl | rfl | rfl <;> rfl) ⟨Nat.le_of_ble_eq_true rfl, Nat.le_of_ble_eq_true rfl⟩ d_Mdl_init_13 (fun H hz X => ?_)
  rw [ow_push (by decide)] at X
  have hz : H.size = E.2.1 + 56 := hz
  refine lv_dup hx hb d_Mdl_init_16 rfl ?_
  refine gm_INv hx hb hml hown hW X hz (z_Rpt_init l E _ (ow_at (k := 55) ⟨by decide, by decide⟩ rfl) (cw_ge _) (by omega)) (n := 0) ⟨⟨wln_Mdl_78, wi_Rpt_init, winit_Rpt, wc_Rpt_init, rfl⟩, by decide +kernel, Nat.le_of_ble_eq_true rfl, Nat.le_of_ble_eq_true rfl⟩ rfl hl.1 rfl (Nat.le_of_ble_eq_true rfl) d_Mdl_init_17 ⟨Nat.le_of_ble_eq_true rfl, Nat.le_of_ble_eq_true rfl⟩ (fun M1 H locs hp X => ?_)
  rw [hp, ow_p3 (by decide), ow_up ⟨by decide, by decide⟩] at X
  refine gm_hz (b := E.2.1 + 58) X h0 (ow_at (k := 58) ⟨by decide, by decide⟩ rfl) (by first | (dsimp only; done) | (dsimp only; omega) | omega) (fun hz => ?_)
  have hz : H.size = E.2.1 + 59 := hz
  refine gm_putF hx hb hW hown X u_Mdl t_Mdl t_Mdl_ok n_Mdl (fs := [.null, .null, .ref (E.2.1 + 54), .null, .null, .null, .null, .null, .null, .null, .null, .null, .null, .null, .null, .null, .null, .null, .null, .null, .null, .null, .int 0]) (ow_at (k := 53) ⟨by decide, by decide⟩ rfl) (cw_ge _) rfl 3 (by decide) wf_Mdl_79 rfl hnm rfl (ty := .object "PointBenchModel$Point") (v := .ref (E.2.1 + 55)) (by decide) rfl rfl (Nat.le_of_ble_eq_true rfl) d_Mdl_init_20 (fun H locs hz1 X => ?_)
  have hz := hz1.trans hz
  rw [ow_up ⟨by decide, by decide⟩] at X
  refine lv_aload_n hx hb d_Mdl_init_23 rfl (lv_at hl 0 rfl) ?_
  refine gm_new (ci := 5) hx hb hW hown X hz u_Rpt t_Rpt t_Rpt_ok rfl wcl_Mdl_2 winst_Rpt winit_Rpt (fs := [.null, .null, .null]) (fun j hj => by rcases (show j = 0 ∨ j = 1 ∨ j = 2 by omega) with rfl | rfl | rfl <;> rfl) ⟨Nat.le_of_ble_eq_true rfl, Nat.le_of_ble_eq_true rfl⟩ d_Mdl_init_24 (fun H hz X => ?_)
  rw [ow_push (by decide)] at X
  have hz : H.size = E.2.1 + 60 := hz
  refine lv_dup hx hb d_Mdl_init_27 rfl ?_
  refine gm_INv hx hb hml hown hW X hz (z_Rpt_init l E _ (ow_at (k := 59) ⟨by decide, by decide⟩ rfl) (cw_ge _) (by omega)) (n := 0) ⟨⟨wln_Mdl_78, wi_Rpt_init, winit_Rpt, wc_Rpt_init, rfl⟩, by decide +kernel, Nat.le_of_ble_eq_true rfl, Nat.le_of_ble_eq_true rfl⟩ rfl hl.1 rfl (Nat.le_of_ble_eq_true rfl) d_Mdl_init_28 ⟨Nat.le_of_ble_eq_true rfl, Nat.le_of_ble_eq_true rfl⟩ (fun M1 H locs hp X => ?_)
  rw [hp, ow_p3 (by decide), ow_up ⟨by decide, by decide⟩] at X
  refine gm_hz (b := E.2.1 + 62) X h0 (ow_at (k := 62) ⟨by decide, by decide⟩ rfl) (by first | (dsimp only; done) | (dsimp only; omega) | omega) (fun hz => ?_)
  have hz : H.size = E.2.1 + 63 := hz
  refine gm_putF hx hb hW hown X u_Mdl t_Mdl t_Mdl_ok n_Mdl (fs := [.null, .null, .ref (E.2.1 + 54), .ref (E.2.1 + 55), .null, .null, .null, .null, .null, .null, .null, .null, .null, .null, .null, .null, .null, .null, .null, .null, .null, .null, .int 0]) (ow_at (k := 53) ⟨by decide, by decide⟩ rfl) (cw_ge _) rfl 4 (by decide) wf_Mdl_83 rfl hnm rfl (ty := .object "PointBenchModel$Point") (v := .ref (E.2.1 + 59)) (by decide) rfl rfl (Nat.le_of_ble_eq_true rfl) d_Mdl_init_31 (fun H locs hz1 X => ?_)
  have hz := hz1.trans hz
  rw [ow_up ⟨by decide, by decide⟩] at X
  refine lv_aload_n hx hb d_Mdl_init_34 rfl (lv_at hl 0 rfl) ?_
  refine gm_new (ci := 5) hx hb hW hown X hz u_Rpt t_Rpt t_Rpt_ok rfl wcl_Mdl_2 winst_Rpt winit_Rpt (fs := [.null, .null, .null]) (fun j hj => by rcases (show j = 0 ∨ j = 1 ∨ j = 2 by omega) with rfl | rfl | rfl <;> rfl) ⟨Nat.le_of_ble_eq_true rfl, Nat.le_of_ble_eq_true rfl⟩ d_Mdl_init_35 (fun H hz X => ?_)
  rw [ow_push (by decide)] at X
  have hz : H.size = E.2.1 + 64 := hz
  refine lv_dup hx hb d_Mdl_init_38 rfl ?_
  refine gm_INv hx hb hml hown hW X hz (z_Rpt_init l E _ (ow_at (k := 63) ⟨by decide, by decide⟩ rfl) (cw_ge _) (by omega)) (n := 0) ⟨⟨wln_Mdl_78, wi_Rpt_init, winit_Rpt, wc_Rpt_init, rfl⟩, by decide +kernel, Nat.le_of_ble_eq_true rfl, Nat.le_of_ble_eq_true rfl⟩ rfl hl.1 rfl (Nat.le_of_ble_eq_true rfl) d_Mdl_init_39 ⟨Nat.le_of_ble_eq_true rfl, Nat.le_of_ble_eq_true rfl⟩ (fun M1 H locs hp X => ?_)
  rw [hp, ow_p3 (by decide), ow_up ⟨by decide, by decide⟩] at X
  refine gm_hz (b := E.2.1 + 66) X h0 (ow_at (k := 66) ⟨by decide, by decide⟩ rfl) (by first | (dsimp only; done) | (dsimp only; omega) | omega) (fun hz => ?_)
  have hz : H.size = E.2.1 + 67 := hz
  refine gm_putF hx hb hW hown X u_Mdl t_Mdl t_Mdl_ok n_Mdl (fs := [.null, .null, .ref (E.2.1 + 54), .ref (E.2.1 + 55), .ref (E.2.1 + 59), .null, .null, .null, .null, .null, .null, .null, .null, .null, .null, .null, .null, .null, .null, .null, .null, .null, .int 0]) (ow_at (k := 53) ⟨by decide, by decide⟩ rfl) (cw_ge _) rfl 5 (by decide) wf_Mdl_86 rfl hnm rfl (ty := .object "PointBenchModel$Point") (v := .ref (E.2.1 + 63)) (by decide) rfl rfl (Nat.le_of_ble_eq_true rfl) d_Mdl_init_42 (fun H locs hz1 X => ?_)
  have hz := hz1.trans hz
  rw [ow_up ⟨by decide, by decide⟩] at X
  refine lv_aload_n hx hb d_Mdl_init_45 rfl (lv_at hl 0 rfl) ?_
  refine gm_new (ci := 5) hx hb hW hown X hz u_Rpt t_Rpt t_Rpt_ok rfl wcl_Mdl_2 winst_Rpt winit_Rpt (fs := [.null, .null, .null]) (fun j hj => by rcases (show j = 0 ∨ j = 1 ∨ j = 2 by omega) with rfl | rfl | rfl <;> rfl) ⟨Nat.le_of_ble_eq_true rfl, Nat.le_of_ble_eq_true rfl⟩ d_Mdl_init_46 (fun H hz X => ?_)
  rw [ow_push (by decide)] at X
  have hz : H.size = E.2.1 + 68 := hz
  refine lv_dup hx hb d_Mdl_init_49 rfl ?_
  refine gm_INv hx hb hml hown hW X hz (z_Rpt_init l E _ (ow_at (k := 67) ⟨by decide, by decide⟩ rfl) (cw_ge _) (by omega)) (n := 0) ⟨⟨wln_Mdl_78, wi_Rpt_init, winit_Rpt, wc_Rpt_init, rfl⟩, by decide +kernel, Nat.le_of_ble_eq_true rfl, Nat.le_of_ble_eq_true rfl⟩ rfl hl.1 rfl (Nat.le_of_ble_eq_true rfl) d_Mdl_init_50 ⟨Nat.le_of_ble_eq_true rfl, Nat.le_of_ble_eq_true rfl⟩ (fun M1 H locs hp X => ?_)
  rw [hp, ow_p3 (by decide), ow_up ⟨by decide, by decide⟩] at X
  refine gm_hz (b := E.2.1 + 70) X h0 (ow_at (k := 70) ⟨by decide, by decide⟩ rfl) (by first | (dsimp only; done) | (dsimp only; omega) | omega) (fun hz => ?_)
  have hz : H.size = E.2.1 + 71 := hz
  refine gm_putF hx hb hW hown X u_Mdl t_Mdl t_Mdl_ok n_Mdl (fs := [.null, .null, .ref (E.2.1 + 54), .ref (E.2.1 + 55), .ref (E.2.1 + 59), .ref (E.2.1 + 63), .null, .null, .null, .null, .null, .null, .null, .null, .null, .null, .null, .null, .null, .null, .null, .null, .int 0]) (ow_at (k := 53) ⟨by decide, by decide⟩ rfl) (cw_ge _) rfl 6 (by decide) wf_Mdl_89 rfl hnm rfl (ty := .object "PointBenchModel$Point") (v := .ref (E.2.1 + 67)) (by decide) rfl rfl (Nat.le_of_ble_eq_true rfl) d_Mdl_init_53 (fun H locs hz1 X => ?_)
  have hz := hz1.trans hz
  rw [ow_up ⟨by decide, by decide⟩] at X
  refine lv_aload_n hx hb d_Mdl_init_56 rfl (lv_at hl 0 rfl) ?_
  refine lv_bipush (v := 8) hx hb d_Mdl_init_57 (by decide) ?_
  refine gm_newi hx hb hW X hz (N := 8) (by decide) (by decide) (by decide) ⟨Nat.le_of_ble_eq_true rfl, Nat.le_of_ble_eq_true rfl⟩ d_Mdl_init_59 (fun H hz X => ?_)
  rw [ow_push (by decide)] at X
  have hz : H.size = E.2.1 + 72 := hz
  refine gm_putF hx hb hW hown X u_Mdl t_Mdl t_Mdl_ok n_Mdl (fs := [.null, .null, .ref (E.2.1 + 54), .ref (E.2.1 + 55), .ref (E.2.1 + 59), .ref (E.2.1 + 63), .ref (E.2.1 + 67), .null, .null, .null, .null, .null, .null, .null, .null, .null, .null, .null, .null, .null, .null, .null, .int 0]) (ow_at (k := 53) ⟨by decide, by decide⟩ rfl) (cw_ge _) rfl 7 (by decide) wf_Mdl_22 rfl hnm rfl (ty := .array .int) (v := .ref (E.2.1 + 71)) (by decide) rfl rfl (Nat.le_of_ble_eq_true rfl) d_Mdl_init_61 (fun H locs hz1 X => ?_)
  have hz := hz1.trans hz
  rw [ow_up ⟨by decide, by decide⟩] at X
  refine lv_aload_n hx hb d_Mdl_init_64 rfl (lv_at hl 0 rfl) ?_
  refine lv_bipush (v := 8) hx hb d_Mdl_init_65 (by decide) ?_
  refine gm_newi hx hb hW X hz (N := 8) (by decide) (by decide) (by decide) ⟨Nat.le_of_ble_eq_true rfl, Nat.le_of_ble_eq_true rfl⟩ d_Mdl_init_67 (fun H hz X => ?_)
  rw [ow_push (by decide)] at X
  have hz : H.size = E.2.1 + 73 := hz
  refine gm_putF hx hb hW hown X u_Mdl t_Mdl t_Mdl_ok n_Mdl (fs := [.null, .null, .ref (E.2.1 + 54), .ref (E.2.1 + 55), .ref (E.2.1 + 59), .ref (E.2.1 + 63), .ref (E.2.1 + 67), .ref (E.2.1 + 71), .null, .null, .null, .null, .null, .null, .null, .null, .null, .null, .null, .null, .null, .null, .int 0]) (ow_at (k := 53) ⟨by decide, by decide⟩ rfl) (cw_ge _) rfl 8 (by decide) wf_Mdl_32 rfl hnm rfl (ty := .array .int) (v := .ref (E.2.1 + 72)) (by decide) rfl rfl (Nat.le_of_ble_eq_true rfl) d_Mdl_init_69 (fun H locs hz1 X => ?_)
  have hz := hz1.trans hz
  rw [ow_up ⟨by decide, by decide⟩] at X
  refine lv_aload_n hx hb d_Mdl_init_72 rfl (lv_at hl 0 rfl) ?_
  refine lv_bipush (v := 8) hx hb d_Mdl_init_73 (by decide) ?_
  refine gm_newi hx hb hW X hz (N := 8) (by decide) (by decide) (by decide) ⟨Nat.le_of_ble_eq_true rfl, Nat.le_of_ble_eq_true rfl⟩ d_Mdl_init_75 (fun H hz X => ?_)
  rw [ow_push (by decide)] at X
  have hz : H.size = E.2.1 + 74 := hz
  refine gm_putF hx hb hW hown X u_Mdl t_Mdl t_Mdl_ok n_Mdl (fs := [.null, .null, .ref (E.2.1 + 54), .ref (E.2.1 + 55), .ref (E.2.1 + 59), .ref (E.2.1 + 63), .ref (E.2.1 + 67), .ref (E.2.1 + 71), .ref (E.2.1 + 72), .null, .null, .null, .null, .null, .null, .null, .null, .null, .null, .null, .null, .null, .int 0]) (ow_at (k := 53) ⟨by decide, by decide⟩ rfl) (cw_ge _) rfl 9 (by decide) wf_Mdl_38 rfl hnm rfl (ty := .array .int) (v := .ref (E.2.1 + 73)) (by decide) rfl rfl (Nat.le_of_ble_eq_true rfl) d_Mdl_init_77 (fun H locs hz1 X => ?_)
  have hz := hz1.trans hz
  rw [ow_up ⟨by decide, by decide⟩] at X
  refine lv_aload_n hx hb d_Mdl_init_80 rfl (lv_at hl 0 rfl) ?_
  refine lv_bipush (v := 8) hx hb d_Mdl_init_81 (by decide) ?_
  refine gm_newi hx hb hW X hz (N := 8) (by decide) (by decide) (by decide) ⟨Nat.le_of_ble_eq_true rfl, Nat.le_of_ble_eq_true rfl⟩ d_Mdl_init_83 (fun H hz X => ?_)
  rw [ow_push (by decide)] at X
  have hz : H.size = E.2.1 + 75 := hz
  refine gm_putF hx hb hW hown X u_Mdl t_Mdl t_Mdl_ok n_Mdl (fs := [.null, .null, .ref (E.2.1 + 54), .ref (E.2.1 + 55), .ref (E.2.1 + 59), .ref (E.2.1 + 63), .ref (E.2.1 + 67), .ref (E.2.1 + 71), .ref (E.2.1 + 72), .ref (E.2.1 + 73), .null, .null, .null, .null, .null, .null, .null, .null, .null, .null, .null, .null, .int 0]) (ow_at (k := 53) ⟨by decide, by decide⟩ rfl) (cw_ge _) rfl 10 (by decide) wf_Mdl_41 rfl hnm rfl (ty := .array .int) (v := .ref (E.2.1 + 74)) (by decide) rfl rfl (Nat.le_of_ble_eq_true rfl) d_Mdl_init_85 (fun H locs hz1 X => ?_)
  have hz := hz1.trans hz
  rw [ow_up ⟨by decide, by decide⟩] at X
  refine lv_aload_n hx hb d_Mdl_init_88 rfl (lv_at hl 0 rfl) ?_
  refine lv_bipush (v := 8) hx hb d_Mdl_init_89 (by decide) ?_
  refine gm_newi hx hb hW X hz (N := 8) (by decide) (by decide) (by decide) ⟨Nat.le_of_ble_eq_true rfl, Nat.le_of_ble_eq_true rfl⟩ d_Mdl_init_91 (fun H hz X => ?_)
  rw [ow_push (by decide)] at X
  have hz : H.size = E.2.1 + 76 := hz
  refine gm_putF hx hb hW hown X u_Mdl t_Mdl t_Mdl_ok n_Mdl (fs := [.null, .null, .ref (E.2.1 + 54), .ref (E.2.1 + 55), .ref (E.2.1 + 59), .ref (E.2.1 + 63), .ref (E.2.1 + 67), .ref (E.2.1 + 71), .ref (E.2.1 + 72), .ref (E.2.1 + 73), .ref (E.2.1 + 74), .null, .null, .null, .null, .null, .null, .null, .null, .null, .null, .null, .int 0]) (ow_at (k := 53) ⟨by decide, by decide⟩ rfl) (cw_ge _) rfl 11 (by decide) wf_Mdl_44 rfl hnm rfl (ty := .array .int) (v := .ref (E.2.1 + 75)) (by decide) rfl rfl (Nat.le_of_ble_eq_true rfl) d_Mdl_init_93 (fun H locs hz1 X => ?_)
  have hz := hz1.trans hz
  rw [ow_up ⟨by decide, by decide⟩] at X
  refine lv_aload_n hx hb d_Mdl_init_96 rfl (lv_at hl 0 rfl) ?_
  refine lv_bipush (v := 8) hx hb d_Mdl_init_97 (by decide) ?_
  refine gm_newi hx hb hW X hz (N := 8) (by decide) (by decide) (by decide) ⟨Nat.le_of_ble_eq_true rfl, Nat.le_of_ble_eq_true rfl⟩ d_Mdl_init_99 (fun H hz X => ?_)
  rw [ow_push (by decide)] at X
  have hz : H.size = E.2.1 + 77 := hz
  refine gm_putF hx hb hW hown X u_Mdl t_Mdl t_Mdl_ok n_Mdl (fs := [.null, .null, .ref (E.2.1 + 54), .ref (E.2.1 + 55), .ref (E.2.1 + 59), .ref (E.2.1 + 63), .ref (E.2.1 + 67), .ref (E.2.1 + 71), .ref (E.2.1 + 72), .ref (E.2.1 + 73), .ref (E.2.1 + 74), .ref (E.2.1 + 75), .null, .null, .null, .null, .null, .null, .null, .null, .null, .null, .int 0]) (ow_at (k := 53) ⟨by decide, by decide⟩ rfl) (cw_ge _) rfl 12 (by decide) wf_Mdl_92 rfl hnm rfl (ty := .array .int) (v := .ref (E.2.1 + 76)) (by decide) rfl rfl (Nat.le_of_ble_eq_true rfl) d_Mdl_init_101 (fun H locs hz1 X => ?_)
  have hz := hz1.trans hz
  rw [ow_up ⟨by decide, by decide⟩] at X
  refine lv_aload_n hx hb d_Mdl_init_104 rfl (lv_at hl 0 rfl) ?_
  refine lv_bipush (v := 8) hx hb d_Mdl_init_105 (by decide) ?_
  refine gm_newi hx hb hW X hz (N := 8) (by decide) (by decide) (by decide) ⟨Nat.le_of_ble_eq_true rfl, Nat.le_of_ble_eq_true rfl⟩ d_Mdl_init_107 (fun H hz X => ?_)
  rw [ow_push (by decide)] at X
  have hz : H.size = E.2.1 + 78 := hz
  refine gm_putF hx hb hW hown X u_Mdl t_Mdl t_Mdl_ok n_Mdl (fs := [.null, .null, .ref (E.2.1 + 54), .ref (E.2.1 + 55), .ref (E.2.1 + 59), .ref (E.2.1 + 63), .ref (E.2.1 + 67), .ref (E.2.1 + 71), .ref (E.2.1 + 72), .ref (E.2.1 + 73), .ref (E.2.1 + 74), .ref (E.2.1 + 75), .ref (E.2.1 + 76), .null, .null, .null, .null, .null, .null, .null, .null, .null, .int 0]) (ow_at (k := 53) ⟨by decide, by decide⟩ rfl) (cw_ge _) rfl 13 (by decide) wf_Mdl_95 rfl hnm rfl (ty := .array .int) (v := .ref (E.2.1 + 77)) (by decide) rfl rfl (Nat.le_of_ble_eq_true rfl) d_Mdl_init_109 (fun H locs hz1 X => ?_)
  have hz := hz1.trans hz
  rw [ow_up ⟨by decide, by decide⟩] at X
  refine lv_aload_n hx hb d_Mdl_init_112 rfl (lv_at hl 0 rfl) ?_
  refine lv_bipush (v := 8) hx hb d_Mdl_init_113 (by decide) ?_
  refine gm_newi hx hb hW X hz (N := 8) (by decide) (by decide) (by decide) ⟨Nat.le_of_ble_eq_true rfl, Nat.le_of_ble_eq_true rfl⟩ d_Mdl_init_115 (fun H hz X => ?_)
  rw [ow_push (by decide)] at X
  have hz : H.size = E.2.1 + 79 := hz
  refine gm_putF hx hb hW hown X u_Mdl t_Mdl t_Mdl_ok n_Mdl (fs := [.null, .null, .ref (E.2.1 + 54), .ref (E.2.1 + 55), .ref (E.2.1 + 59), .ref (E.2.1 + 63), .ref (E.2.1 + 67), .ref (E.2.1 + 71), .ref (E.2.1 + 72), .ref (E.2.1 + 73), .ref (E.2.1 + 74), .ref (E.2.1 + 75), .ref (E.2.1 + 76), .ref (E.2.1 + 77), .null, .null, .null, .null, .null, .null, .null, .null, .int 0]) (ow_at (k := 53) ⟨by decide, by decide⟩ rfl) (cw_ge _) rfl 14 (by decide) wf_Mdl_98 rfl hnm rfl (ty := .array .int) (v := .ref (E.2.1 + 78)) (by decide) rfl rfl (Nat.le_of_ble_eq_true rfl) d_Mdl_init_117 (fun H locs hz1 X => ?_)
  have hz := hz1.trans hz
  rw [ow_up ⟨by decide, by decide⟩] at X
  refine lv_aload_n hx hb d_Mdl_init_120 rfl (lv_at hl 0 rfl) ?_
  refine lv_bipush (v := 8) hx hb d_Mdl_init_121 (by decide) ?_
  refine lv_bipush (v := 8) hx hb d_Mdl_init_123 (by decide) ?_
  refine gm_mni hx hb hW hown X hz wcl_Mdl_101 ⟨Nat.le_of_ble_eq_true rfl, Nat.le_of_ble_eq_true rfl⟩ d_Mdl_init_125 (fun H hz X => ?_)
  rw [ow_push (by decide), ow_mu rfl (by decide)] at X
  have hz : H.size = E.2.1 + 88 := hz
  refine gm_putF hx hb hW hown X u_Mdl t_Mdl t_Mdl_ok n_Mdl (fs := [.null, .null, .ref (E.2.1 + 54), .ref (E.2.1 + 55), .ref (E.2.1 + 59), .ref (E.2.1 + 63), .ref (E.2.1 + 67), .ref (E.2.1 + 71), .ref (E.2.1 + 72), .ref (E.2.1 + 73), .ref (E.2.1 + 74), .ref (E.2.1 + 75), .ref (E.2.1 + 76), .ref (E.2.1 + 77), .ref (E.2.1 + 78), .null, .null, .null, .null, .null, .null, .null, .int 0]) (ow_at (k := 53) ⟨by decide, by decide⟩ rfl) (cw_ge _) rfl 15 (by decide) wf_Mdl_103 rfl hnm rfl (ty := .array (.array .int)) (v := .ref (E.2.1 + 79)) (by decide) rfl rfl (Nat.le_of_ble_eq_true rfl) d_Mdl_init_129 (fun H locs hz1 X => ?_)
  have hz := hz1.trans hz
  rw [ow_up ⟨by decide, by decide⟩] at X
  refine lv_aload_n hx hb d_Mdl_init_132 rfl (lv_at hl 0 rfl) ?_
  refine lv_iconst (v := 4) hx hb d_Mdl_init_133 (by decide) ?_
  refine gm_anew hx hb hW hown X hz (j := 4) rfl wcl_Mdl_2 X.1.2.2.2.2.2.2.1.2 (N := 4) (by decide) (by decide) (by decide) ⟨Nat.le_of_ble_eq_true rfl, Nat.le_of_ble_eq_true rfl⟩ d_Mdl_init_134 (fun H hz X => ?_)
  rw [ow_push (by decide)] at X
  have hz : H.size = E.2.1 + 89 := hz
  refine gm_putF hx hb hW hown X u_Mdl t_Mdl t_Mdl_ok n_Mdl (fs := [.null, .null, .ref (E.2.1 + 54), .ref (E.2.1 + 55), .ref (E.2.1 + 59), .ref (E.2.1 + 63), .ref (E.2.1 + 67), .ref (E.2.1 + 71), .ref (E.2.1 + 72), .ref (E.2.1 + 73), .ref (E.2.1 + 74), .ref (E.2.1 + 75), .ref (E.2.1 + 76), .ref (E.2.1 + 77), .ref (E.2.1 + 78), .ref (E.2.1 + 79), .null, .null, .null, .null, .null, .null, .int 0]) (ow_at (k := 53) ⟨by decide, by decide⟩ rfl) (cw_ge _) rfl 16 (by decide) wf_Mdl_106 rfl hnm rfl (ty := .array (.object "PointBenchModel$Point")) (v := .ref (E.2.1 + 88)) (by decide) rfl rfl (Nat.le_of_ble_eq_true rfl) d_Mdl_init_137 (fun H locs hz1 X => ?_)
  have hz := hz1.trans hz
  rw [ow_up ⟨by decide, by decide⟩] at X
  refine lv_aload_n hx hb d_Mdl_init_140 rfl (lv_at hl 0 rfl) ?_
  refine gm_new (ci := 5) hx hb hW hown X hz u_Rpt t_Rpt t_Rpt_ok rfl wcl_Mdl_2 winst_Rpt winit_Rpt (fs := [.null, .null, .null]) (fun j hj => by rcases (show j = 0 ∨ j = 1 ∨ j = 2 by omega) with rfl | rfl | rfl <;> rfl) ⟨Nat.le_of_ble_eq_true rfl, Nat.le_of_ble_eq_true rfl⟩ d_Mdl_init_141 (fun H hz X => ?_)
  rw [ow_push (by decide)] at X
  have hz : H.size = E.2.1 + 90 := hz
  refine lv_dup hx hb d_Mdl_init_144 rfl ?_
  refine gm_INv hx hb hml hown hW X hz (z_Rpt_init l E _ (ow_at (k := 89) ⟨by decide, by decide⟩ rfl) (cw_ge _) (by omega)) (n := 0) ⟨⟨wln_Mdl_78, wi_Rpt_init, winit_Rpt, wc_Rpt_init, rfl⟩, by decide +kernel, Nat.le_of_ble_eq_true rfl, Nat.le_of_ble_eq_true rfl⟩ rfl hl.1 rfl (Nat.le_of_ble_eq_true rfl) d_Mdl_init_145 ⟨Nat.le_of_ble_eq_true rfl, Nat.le_of_ble_eq_true rfl⟩ (fun M1 H locs hp X => ?_)
  rw [hp, ow_p3 (by decide), ow_up ⟨by decide, by decide⟩] at X
  refine gm_hz (b := E.2.1 + 92) X h0 (ow_at (k := 92) ⟨by decide, by decide⟩ rfl) (by first | (dsimp only; done) | (dsimp only; omega) | omega) (fun hz => ?_)
  have hz : H.size = E.2.1 + 93 := hz
  refine gm_putF hx hb hW hown X u_Mdl t_Mdl t_Mdl_ok n_Mdl (fs := [.null, .null, .ref (E.2.1 + 54), .ref (E.2.1 + 55), .ref (E.2.1 + 59), .ref (E.2.1 + 63), .ref (E.2.1 + 67), .ref (E.2.1 + 71), .ref (E.2.1 + 72), .ref (E.2.1 + 73), .ref (E.2.1 + 74), .ref (E.2.1 + 75), .ref (E.2.1 + 76), .ref (E.2.1 + 77), .ref (E.2.1 + 78), .ref (E.2.1 + 79), .ref (E.2.1 + 88), .null, .null, .null, .null, .null, .int 0]) (ow_at (k := 53) ⟨by decide, by decide⟩ rfl) (cw_ge _) rfl 17 (by decide) wf_Mdl_110 rfl hnm rfl (ty := .object "PointBenchModel$Point") (v := .ref (E.2.1 + 89)) (by decide) rfl rfl (Nat.le_of_ble_eq_true rfl) d_Mdl_init_148 (fun H locs hz1 X => ?_)
  have hz := hz1.trans hz
  rw [ow_up ⟨by decide, by decide⟩] at X
  refine lv_aload_n hx hb d_Mdl_init_151 rfl (lv_at hl 0 rfl) ?_
  refine lv_bipush (v := 8) hx hb d_Mdl_init_152 (by decide) ?_
  refine gm_newi hx hb hW X hz (N := 8) (by decide) (by decide) (by decide) ⟨Nat.le_of_ble_eq_true rfl, Nat.le_of_ble_eq_true rfl⟩ d_Mdl_init_154 (fun H hz X => ?_)
  rw [ow_push (by decide)] at X
  have hz : H.size = E.2.1 + 94 := hz
  refine gm_putF hx hb hW hown X u_Mdl t_Mdl t_Mdl_ok n_Mdl (fs := [.null, .null, .ref (E.2.1 + 54), .ref (E.2.1 + 55), .ref (E.2.1 + 59), .ref (E.2.1 + 63), .ref (E.2.1 + 67), .ref (E.2.1 + 71), .ref (E.2.1 + 72), .ref (E.2.1 + 73), .ref (E.2.1 + 74), .ref (E.2.1 + 75), .ref (E.2.1 + 76), .ref (E.2.1 + 77), .ref (E.2.1 + 78), .ref (E.2.1 + 79), .ref (E.2.1 + 88), .ref (E.2.1 + 89), .null, .null, .null, .null, .int 0]) (ow_at (k := 53) ⟨by decide, by decide⟩ rfl) (cw_ge _) rfl 18 (by decide) wf_Mdl_113 rfl hnm rfl (ty := .array .int) (v := .ref (E.2.1 + 93)) (by decide) rfl rfl (Nat.le_of_ble_eq_true rfl) d_Mdl_init_156 (fun H locs hz1 X => ?_)
  have hz := hz1.trans hz
  rw [ow_up ⟨by decide, by decide⟩] at X
  refine lv_aload_n hx hb d_Mdl_init_159 rfl (lv_at hl 0 rfl) ?_
  refine lv_bipush (v := 8) hx hb d_Mdl_init_160 (by decide) ?_
  refine gm_newi hx hb hW X hz (N := 8) (by decide) (by decide) (by decide) ⟨Nat.le_of_ble_eq_true rfl, Nat.le_of_ble_eq_true rfl⟩ d_Mdl_init_162 (fun H hz X => ?_)
  rw [ow_push (by decide)] at X
  have hz : H.size = E.2.1 + 95 := hz
  refine gm_putF hx hb hW hown X u_Mdl t_Mdl t_Mdl_ok n_Mdl (fs := [.null, .null, .ref (E.2.1 + 54), .ref (E.2.1 + 55), .ref (E.2.1 + 59), .ref (E.2.1 + 63), .ref (E.2.1 + 67), .ref (E.2.1 + 71), .ref (E.2.1 + 72), .ref (E.2.1 + 73), .ref (E.2.1 + 74), .ref (E.2.1 + 75), .ref (E.2.1 + 76), .ref (E.2.1 + 77), .ref (E.2.1 + 78), .ref (E.2.1 + 79), .ref (E.2.1 + 88), .ref (E.2.1 + 89), .ref (E.2.1 + 93), .null, .null, .null, .int 0]) (ow_at (k := 53) ⟨by decide, by decide⟩ rfl) (cw_ge _) rfl 19 (by decide) wf_Mdl_116 rfl hnm rfl (ty := .array .int) (v := .ref (E.2.1 + 94)) (by decide) rfl rfl (Nat.le_of_ble_eq_true rfl) d_Mdl_init_164 (fun H locs hz1 X => ?_)
  have hz := hz1.trans hz
  rw [ow_up ⟨by decide, by decide⟩] at X
  refine lv_aload_n hx hb d_Mdl_init_167 rfl (lv_at hl 0 rfl) ?_
  refine lv_bipush (v := 8) hx hb d_Mdl_init_168 (by decide) ?_
  refine gm_newi hx hb hW X hz (N := 8) (by decide) (by decide) (by decide) ⟨Nat.le_of_ble_eq_true rfl, Nat.le_of_ble_eq_true rfl⟩ d_Mdl_init_170 (fun H hz X => ?_)
  rw [ow_push (by decide)] at X
  have hz : H.size = E.2.1 + 96 := hz
  refine gm_putF hx hb hW hown X u_Mdl t_Mdl t_Mdl_ok n_Mdl (fs := [.null, .null, .ref (E.2.1 + 54), .ref (E.2.1 + 55), .ref (E.2.1 + 59), .ref (E.2.1 + 63), .ref (E.2.1 + 67), .ref (E.2.1 + 71), .ref (E.2.1 + 72), .ref (E.2.1 + 73), .ref (E.2.1 + 74), .ref (E.2.1 + 75), .ref (E.2.1 + 76), .ref (E.2.1 + 77), .ref (E.2.1 + 78), .ref (E.2.1 + 79), .ref (E.2.1 + 88), .ref (E.2.1 + 89), .ref (E.2.1 + 93), .ref (E.2.1 + 94), .null, .null, .int 0]) (ow_at (k := 53) ⟨by decide, by decide⟩ rfl) (cw_ge _) rfl 20 (by decide) wf_Mdl_119 rfl hnm rfl (ty := .array .int) (v := .ref (E.2.1 + 95)) (by decide) rfl rfl (Nat.le_of_ble_eq_true rfl) d_Mdl_init_172 (fun H locs hz1 X => ?_)
  have hz := hz1.trans hz
  rw [ow_up ⟨by decide, by decide⟩] at X
  refine lv_aload_n hx hb d_Mdl_init_175 rfl (lv_at hl 0 rfl) ?_
  refine lv_bipush (v := 8) hx hb d_Mdl_init_176 (by decide) ?_
  refine gm_newi hx hb hW X hz (N := 8) (by decide) (by decide) (by decide) ⟨Nat.le_of_ble_eq_true rfl, Nat.le_of_ble_eq_true rfl⟩ d_Mdl_init_178 (fun H hz X => ?_)
  rw [ow_push (by decide)] at X
  have hz : H.size = E.2.1 + 97 := hz
  refine gm_putF hx hb hW hown X u_Mdl t_Mdl t_Mdl_ok n_Mdl (fs := [.null, .null, .ref (E.2.1 + 54), .ref (E.2.1 + 55), .ref (E.2.1 + 59), .ref (E.2.1 + 63), .ref (E.2.1 + 67), .ref (E.2.1 + 71), .ref (E.2.1 + 72), .ref (E.2.1 + 73), .ref (E.2.1 + 74), .ref (E.2.1 + 75), .ref (E.2.1 + 76), .ref (E.2.1 + 77), .ref (E.2.1 + 78), .ref (E.2.1 + 79), .ref (E.2.1 + 88), .ref (E.2.1 + 89), .ref (E.2.1 + 93), .ref (E.2.1 + 94), .ref (E.2.1 + 95), .null, .int 0]) (ow_at (k := 53) ⟨by decide, by decide⟩ rfl) (cw_ge _) rfl 21 (by decide) wf_Mdl_122 rfl hnm rfl (ty := .array .int) (v := .ref (E.2.1 + 96)) (by decide) rfl rfl (Nat.le_of_ble_eq_true rfl) d_Mdl_init_180 (fun H locs hz1 X => ?_)
  have hz := hz1.trans hz
  rw [ow_up ⟨by decide, by decide⟩] at X
  refine lv_bipush (v := 8) hx hb d_Mdl_init_183 (by decide) ?_
  refine gm_newi hx hb hW X hz (N := 8) (by decide) (by decide) (by decide) ⟨Nat.le_of_ble_eq_true rfl, Nat.le_of_ble_eq_true rfl⟩ d_Mdl_init_185 (fun H hz X => ?_)
  rw [ow_push (by decide)] at X
  have hz : H.size = E.2.1 + 98 := hz
  refine lv_dup hx hb d_Mdl_init_187 rfl ?_
  refine lv_iconst (v := 0) hx hb d_Mdl_init_188 (by decide) ?_
  refine lv_sipush (v := (-977)) hx hb d_Mdl_init_189 (by decide) ?_
  refine gm_iast hx hb X (k := 0) (ow_at (k := 97) ⟨by decide, by decide⟩ rfl) (cw_ge _) (by decide) ⟨by decide, by decide⟩ d_Mdl_init_192 (fun H locs X => ?_)
  rw [ow_up ⟨by decide, by decide⟩] at X
  refine lv_dup hx hb d_Mdl_init_193 rfl ?_
  refine lv_iconst (v := 1) hx hb d_Mdl_init_194 (by decide) ?_
  refine lv_bipush (v := (-2)) hx hb d_Mdl_init_195 (by decide) ?_
  refine gm_iast hx hb X (k := 1) (ow_at (k := 97) ⟨by decide, by decide⟩ rfl) (cw_ge _) (by decide) ⟨by decide, by decide⟩ d_Mdl_init_197 (fun H locs X => ?_)
  rw [ow_up ⟨by decide, by decide⟩] at X
  refine lv_dup hx hb d_Mdl_init_198 rfl ?_
  refine lv_iconst (v := 2) hx hb d_Mdl_init_199 (by decide) ?_
  refine lv_iconst (v := (-1)) hx hb d_Mdl_init_200 (by decide) ?_
  refine gm_iast hx hb X (k := 2) (ow_at (k := 97) ⟨by decide, by decide⟩ rfl) (cw_ge _) (by decide) ⟨by decide, by decide⟩ d_Mdl_init_201 (fun H locs X => ?_)
  rw [ow_up ⟨by decide, by decide⟩] at X
  refine lv_dup hx hb d_Mdl_init_202 rfl ?_
  refine lv_iconst (v := 3) hx hb d_Mdl_init_203 (by decide) ?_
  refine lv_iconst (v := (-1)) hx hb d_Mdl_init_204 (by decide) ?_
  refine gm_iast hx hb X (k := 3) (ow_at (k := 97) ⟨by decide, by decide⟩ rfl) (cw_ge _) (by decide) ⟨by decide, by decide⟩ d_Mdl_init_205 (fun H locs X => ?_)
  rw [ow_up ⟨by decide, by decide⟩] at X
  refine lv_dup hx hb d_Mdl_init_206 rfl ?_
  refine lv_iconst (v := 4) hx hb d_Mdl_init_207 (by decide) ?_
  refine lv_iconst (v := (-1)) hx hb d_Mdl_init_208 (by decide) ?_
  refine gm_iast hx hb X (k := 4) (ow_at (k := 97) ⟨by decide, by decide⟩ rfl) (cw_ge _) (by decide) ⟨by decide, by decide⟩ d_Mdl_init_209 (fun H locs X => ?_)
  rw [ow_up ⟨by decide, by decide⟩] at X
  refine lv_dup hx hb d_Mdl_init_210 rfl ?_
  refine lv_iconst (v := 5) hx hb d_Mdl_init_211 (by decide) ?_
  refine lv_iconst (v := (-1)) hx hb d_Mdl_init_212 (by decide) ?_
  refine gm_iast hx hb X (k := 5) (ow_at (k := 97) ⟨by decide, by decide⟩ rfl) (cw_ge _) (by decide) ⟨by decide, by decide⟩ d_Mdl_init_213 (fun H locs X => ?_)
  rw [ow_up ⟨by decide, by decide⟩] at X
  refine lv_dup hx hb d_Mdl_init_214 rfl ?_
  refine lv_bipush (v := 6) hx hb d_Mdl_init_215 (by decide) ?_
  refine lv_iconst (v := (-1)) hx hb d_Mdl_init_217 (by decide) ?_
  refine gm_iast hx hb X (k := 6) (ow_at (k := 97) ⟨by decide, by decide⟩ rfl) (cw_ge _) (by decide) ⟨by decide, by decide⟩ d_Mdl_init_218 (fun H locs X => ?_)
  rw [ow_up ⟨by decide, by decide⟩] at X
  refine lv_dup hx hb d_Mdl_init_219 rfl ?_
  refine lv_bipush (v := 7) hx hb d_Mdl_init_220 (by decide) ?_
  refine lv_iconst (v := (-1)) hx hb d_Mdl_init_222 (by decide) ?_
  refine gm_iast hx hb X (k := 7) (ow_at (k := 97) ⟨by decide, by decide⟩ rfl) (cw_ge _) (by decide) ⟨by decide, by decide⟩ d_Mdl_init_223 (fun H locs X => ?_)
  rw [ow_up ⟨by decide, by decide⟩] at X
  refine lv_astore_n (lv' := [(1, .ref (E.2.1 + 97)), (0, .ref (E.2.1 + 53))]) hx hb d_Mdl_init_224 rfl hl (by decide) rfl (fun ls hl => ?_)
  refine lv_bipush (v := 8) hx hb d_Mdl_init_225 (by decide) ?_
  refine gm_hz (b := E.2.1 + 97) X h0 (ow_at (k := 97) ⟨by decide, by decide⟩ rfl) (by first | (dsimp only; done) | (dsimp only; omega) | omega) (fun hz => ?_)
  have hz : H.size = E.2.1 + 98 := hz
  refine gm_newi hx hb hW X hz (N := 8) (by decide) (by decide) (by decide) ⟨Nat.le_of_ble_eq_true rfl, Nat.le_of_ble_eq_true rfl⟩ d_Mdl_init_227 (fun H hz X => ?_)
  rw [ow_push (by decide)] at X
  have hz : H.size = E.2.1 + 99 := hz
  refine lv_dup hx hb d_Mdl_init_229 rfl ?_
  refine lv_iconst (v := 0) hx hb d_Mdl_init_230 (by decide) ?_
  refine lv_ldc (v := (-801750719)) hx hb hown (hW _ wk_Mdl_125) d_Mdl_init_231 ?_
  refine gm_iast hx hb X (k := 0) (ow_at (k := 98) ⟨by decide, by decide⟩ rfl) (cw_ge _) (by decide) ⟨by decide, by decide⟩ d_Mdl_init_233 (fun H locs X => ?_)
  rw [ow_up ⟨by decide, by decide⟩] at X
  refine lv_dup hx hb d_Mdl_init_234 rfl ?_
  refine lv_iconst (v := 1) hx hb d_Mdl_init_235 (by decide) ?_
  refine lv_ldc (v := (-1076732276)) hx hb hown (hW _ wk_Mdl_126) d_Mdl_init_236 ?_
  refine gm_iast hx hb X (k := 1) (ow_at (k := 98) ⟨by decide, by decide⟩ rfl) (cw_ge _) (by decide) ⟨by decide, by decide⟩ d_Mdl_init_238 (fun H locs X => ?_)
  rw [ow_up ⟨by decide, by decide⟩] at X
  refine lv_dup hx hb d_Mdl_init_239 rfl ?_
  refine lv_iconst (v := 2) hx hb d_Mdl_init_240 (by decide) ?_
  refine lv_ldc (v := (-1354194885)) hx hb hown (hW _ wk_Mdl_127) d_Mdl_init_241 ?_
  refine gm_iast hx hb X (k := 2) (ow_at (k := 98) ⟨by decide, by decide⟩ rfl) (cw_ge _) (by decide) ⟨by decide, by decide⟩ d_Mdl_init_243 (fun H locs X => ?_)
  rw [ow_up ⟨by decide, by decide⟩] at X
  refine lv_dup hx hb d_Mdl_init_244 rfl ?_
  refine lv_iconst (v := 3) hx hb d_Mdl_init_245 (by decide) ?_
  refine lv_ldc (v := (-1162945306)) hx hb hown (hW _ wk_Mdl_128) d_Mdl_init_246 ?_
  refine gm_iast hx hb X (k := 3) (ow_at (k := 98) ⟨by decide, by decide⟩ rfl) (cw_ge _) (by decide) ⟨by decide, by decide⟩ d_Mdl_init_248 (fun H locs X => ?_)
  rw [ow_up ⟨by decide, by decide⟩] at X
  refine lv_dup hx hb d_Mdl_init_249 rfl ?_
  refine lv_iconst (v := 4) hx hb d_Mdl_init_250 (by decide) ?_
  refine lv_bipush (v := (-2)) hx hb d_Mdl_init_251 (by decide) ?_
  refine gm_iast hx hb X (k := 4) (ow_at (k := 98) ⟨by decide, by decide⟩ rfl) (cw_ge _) (by decide) ⟨by decide, by decide⟩ d_Mdl_init_253 (fun H locs X => ?_)
  rw [ow_up ⟨by decide, by decide⟩] at X
  refine lv_dup hx hb d_Mdl_init_254 rfl ?_
  refine lv_iconst (v := 5) hx hb d_Mdl_init_255 (by decide) ?_
  refine lv_iconst (v := (-1)) hx hb d_Mdl_init_256 (by decide) ?_
  refine gm_iast hx hb X (k := 5) (ow_at (k := 98) ⟨by decide, by decide⟩ rfl) (cw_ge _) (by decide) ⟨by decide, by decide⟩ d_Mdl_init_257 (fun H locs X => ?_)
  rw [ow_up ⟨by decide, by decide⟩] at X
  refine lv_dup hx hb d_Mdl_init_258 rfl ?_
  refine lv_bipush (v := 6) hx hb d_Mdl_init_259 (by decide) ?_
  refine lv_iconst (v := (-1)) hx hb d_Mdl_init_261 (by decide) ?_
  refine gm_iast hx hb X (k := 6) (ow_at (k := 98) ⟨by decide, by decide⟩ rfl) (cw_ge _) (by decide) ⟨by decide, by decide⟩ d_Mdl_init_262 (fun H locs X => ?_)
  rw [ow_up ⟨by decide, by decide⟩] at X
  refine lv_dup hx hb d_Mdl_init_263 rfl ?_
  refine lv_bipush (v := 7) hx hb d_Mdl_init_264 (by decide) ?_
  refine lv_iconst (v := (-1)) hx hb d_Mdl_init_266 (by decide) ?_
  refine gm_iast hx hb X (k := 7) (ow_at (k := 98) ⟨by decide, by decide⟩ rfl) (cw_ge _) (by decide) ⟨by decide, by decide⟩ d_Mdl_init_267 (fun H locs X => ?_)
  rw [ow_up ⟨by decide, by decide⟩] at X
  refine lv_astore_n (lv' := [(2, .ref (E.2.1 + 98)), (1, .ref (E.2.1 + 97)), (0, .ref (E.2.1 + 53))]) hx hb d_Mdl_init_268 rfl hl (by decide) rfl (fun ls hl => ?_)
  refine lv_aload_n hx hb d_Mdl_init_269 rfl (lv_at hl 2 rfl) ?_
  refine gm_hz (b := E.2.1 + 98) X h0 (ow_at (k := 98) ⟨by decide, by decide⟩ rfl) (by first | (dsimp only; done) | (dsimp only; omega) | omega) (fun hz => ?_)
  have hz : H.size = E.2.1 + 99 := hz
  refine gm_new (ci := 4) hx hb hW hown X hz u_Rng t_Rng t_Rng_ok rfl wcl_Mdl_8 winst_Rng winit_Rng (fs := [.null, .int 0, .null, .null, .null, .null, .null, .null]) (fun j hj => by rcases (show j = 0 ∨ j = 1 ∨ j = 2 ∨ j = 3 ∨ j = 4 ∨ j = 5 ∨ j = 6 ∨ j = 7 by omega) with rfl | rfl | rfl | rfl | rfl | rfl | rfl | rfl <;> rfl) ⟨Nat.le_of_ble_eq_true rfl, Nat.le_of_ble_eq_true rfl⟩ d_Mdl_init_270 (fun H hz X => ?_)
  rw [ow_push (by decide)] at X
  have hz : H.size = E.2.1 + 100 := hz
  refine lv_dup hx hb d_Mdl_init_273 rfl ?_
  refine lv_aload_n hx hb d_Mdl_init_274 rfl (lv_at hl 1 rfl) ?_
  refine gm_Iv hx hb hml hown hW X hz (z_Rng_init l E _ (mv := mvP) (mi := miP) (ow_at (k := 97) ⟨by decide, by decide⟩ rfl) (by omega) (by decide +kernel) (by decide +kernel) (ow_at (k := 99) ⟨by decide, by decide⟩ rfl) (cw_ge _) (by omega)) (n := 1) ⟨⟨wl_Mdl_129, wi_Rng_init, winit_Rng, wc_Rng_init, rfl⟩, by decide +kernel, Nat.le_of_ble_eq_true rfl, Nat.le_of_ble_eq_true rfl⟩ rfl hl.1 rfl (Nat.le_of_ble_eq_true rfl) d_Mdl_init_275 ⟨Nat.le_of_ble_eq_true rfl, Nat.le_of_ble_eq_true rfl⟩ (fun M1 H locs hp X => ?_)
  obtain ⟨p1, p2, hp, vp1, vp2⟩ := hp
  rw [hp, ow_p7 (by decide), ow_up ⟨by decide, by decide⟩] at X
  have Rp := rg_R hf mvP_v (by decide +kernel) vp1 vp2
  refine gm_hz (b := E.2.1 + 106) X h0 (ow_at (k := 106) ⟨by decide, by decide⟩ rfl) (by first | (dsimp only; done) | (dsimp only; omega) | omega) (fun hz => ?_)
  have hz : H.size = E.2.1 + 107 := hz
  refine gm_putF hx hb hW hown X u_Mdl t_Mdl t_Mdl_ok n_Mdl (fs := [.null, .null, .ref (E.2.1 + 54), .ref (E.2.1 + 55), .ref (E.2.1 + 59), .ref (E.2.1 + 63), .ref (E.2.1 + 67), .ref (E.2.1 + 71), .ref (E.2.1 + 72), .ref (E.2.1 + 73), .ref (E.2.1 + 74), .ref (E.2.1 + 75), .ref (E.2.1 + 76), .ref (E.2.1 + 77), .ref (E.2.1 + 78), .ref (E.2.1 + 79), .ref (E.2.1 + 88), .ref (E.2.1 + 89), .ref (E.2.1 + 93), .ref (E.2.1 + 94), .ref (E.2.1 + 95), .ref (E.2.1 + 96), .int 0]) (ow_at (k := 53) ⟨by decide, by decide⟩ rfl) (cw_ge _) rfl 0 (by decide) wf_Mdl_13 rfl hnm rfl (ty := .object "PointBenchModel$Ring") (v := .ref (E.2.1 + 99)) (by decide) rfl rfl (Nat.le_of_ble_eq_true rfl) d_Mdl_init_278 (fun H locs hz1 X => ?_)
  have hz := hz1.trans hz
  rw [ow_up ⟨by decide, by decide⟩] at X
  refine lv_aload_n hx hb d_Mdl_init_281 rfl (lv_at hl 2 rfl) ?_
  refine gm_new (ci := 4) hx hb hW hown X hz u_Rng t_Rng t_Rng_ok rfl wcl_Mdl_8 winst_Rng winit_Rng (fs := [.null, .int 0, .null, .null, .null, .null, .null, .null]) (fun j hj => by rcases (show j = 0 ∨ j = 1 ∨ j = 2 ∨ j = 3 ∨ j = 4 ∨ j = 5 ∨ j = 6 ∨ j = 7 by omega) with rfl | rfl | rfl | rfl | rfl | rfl | rfl | rfl <;> rfl) ⟨Nat.le_of_ble_eq_true rfl, Nat.le_of_ble_eq_true rfl⟩ d_Mdl_init_282 (fun H hz X => ?_)
  rw [ow_push (by decide)] at X
  have hz : H.size = E.2.1 + 108 := hz
  refine lv_dup hx hb d_Mdl_init_285 rfl ?_
  refine lv_aload_n hx hb d_Mdl_init_286 rfl (lv_at hl 0 rfl) ?_
  refine gm_Iv hx hb hml hown hW X hz (z_Rng_init l E _ (mv := mvN) (mi := miN) (ow_at (k := 98) ⟨by decide, by decide⟩ rfl) (by omega) (by decide +kernel) (by decide +kernel) (ow_at (k := 107) ⟨by decide, by decide⟩ rfl) (cw_ge _) (by omega)) (n := 1) ⟨⟨wl_Mdl_129, wi_Rng_init, winit_Rng, wc_Rng_init, rfl⟩, by decide +kernel, Nat.le_of_ble_eq_true rfl, Nat.le_of_ble_eq_true rfl⟩ rfl hl.1 rfl (Nat.le_of_ble_eq_true rfl) d_Mdl_init_287 ⟨Nat.le_of_ble_eq_true rfl, Nat.le_of_ble_eq_true rfl⟩ (fun M1 H locs hp X => ?_)
  obtain ⟨n1, n2, hp, vn1, vn2⟩ := hp
  rw [hp, ow_p7 (by decide), ow_up ⟨by decide, by decide⟩] at X
  have Rn := rg_R hn mvN_v (by decide +kernel) vn1 vn2
  refine gm_hz (b := E.2.1 + 114) X h0 (ow_at (k := 114) ⟨by decide, by decide⟩ rfl) (by first | (dsimp only; done) | (dsimp only; omega) | omega) (fun hz => ?_)
  have hz : H.size = E.2.1 + 115 := hz
  refine gm_putF hx hb hW hown X u_Mdl t_Mdl t_Mdl_ok n_Mdl (fs := [.ref (E.2.1 + 99), .null, .ref (E.2.1 + 54), .ref (E.2.1 + 55), .ref (E.2.1 + 59), .ref (E.2.1 + 63), .ref (E.2.1 + 67), .ref (E.2.1 + 71), .ref (E.2.1 + 72), .ref (E.2.1 + 73), .ref (E.2.1 + 74), .ref (E.2.1 + 75), .ref (E.2.1 + 76), .ref (E.2.1 + 77), .ref (E.2.1 + 78), .ref (E.2.1 + 79), .ref (E.2.1 + 88), .ref (E.2.1 + 89), .ref (E.2.1 + 93), .ref (E.2.1 + 94), .ref (E.2.1 + 95), .ref (E.2.1 + 96), .int 0]) (ow_at (k := 53) ⟨by decide, by decide⟩ rfl) (cw_ge _) rfl 1 (by decide) wf_Mdl_132 rfl hnm rfl (ty := .object "PointBenchModel$Ring") (v := .ref (E.2.1 + 107)) (by decide) rfl rfl (Nat.le_of_ble_eq_true rfl) d_Mdl_init_290 (fun H locs hz1 X => ?_)
  have hz := hz1.trans hz
  rw [ow_up ⟨by decide, by decide⟩] at X
  refine lv_iconst (v := 0) hx hb d_Mdl_init_293 (by decide) ?_
  refine lv_istore_n (lv' := [(3, .int 0), (2, .ref (E.2.1 + 98)), (1, .ref (E.2.1 + 97)), (0, .ref (E.2.1 + 53))]) hx hb d_Mdl_init_294 rfl hl (by decide) rfl (fun ls hl => ?_)
  refine lv_iload_n hx hb d_Mdl_init_295 rfl (lv_at hl 0 rfl) ?_
  refine lv_iconst (v := 4) hx hb d_Mdl_init_296 (by decide) ?_
  refine lv_icmp_ge (tgt := 319) hx hb d_Mdl_init_297 (by decide) (fun c9 => absurd c9 (by decide)) (fun _ => ?_)
  refine lv_aload_n hx hb d_Mdl_init_300 rfl (lv_at hl 3 rfl) ?_
  refine gm_get hx hb hW hown X u_Mdl (fs := [.ref (E.2.1 + 99), .ref (E.2.1 + 107), .ref (E.2.1 + 54), .ref (E.2.1 + 55), .ref (E.2.1 + 59), .ref (E.2.1 + 63), .ref (E.2.1 + 67), .ref (E.2.1 + 71), .ref (E.2.1 + 72), .ref (E.2.1 + 73), .ref (E.2.1 + 74), .ref (E.2.1 + 75), .ref (E.2.1 + 76), .ref (E.2.1 + 77), .ref (E.2.1 + 78), .ref (E.2.1 + 79), .ref (E.2.1 + 88), .ref (E.2.1 + 89), .ref (E.2.1 + 93), .ref (E.2.1 + 94), .ref (E.2.1 + 95), .ref (E.2.1 + 96), .int 0]) (ow_at (k := 53) ⟨by decide, by decide⟩ rfl) rfl 16 (by decide) wf_Mdl_106 (v := .ref (E.2.1 + 88)) rfl d_Mdl_init_301 ?_
  refine lv_iload_n hx hb d_Mdl_init_304 rfl (lv_at hl 0 rfl) ?_
  refine gm_new (ci := 5) hx hb hW hown X hz u_Rpt t_Rpt t_Rpt_ok rfl wcl_Mdl_2 winst_Rpt winit_Rpt (fs := [.null, .null, .null]) (fun j hj => by rcases (show j = 0 ∨ j = 1 ∨ j = 2 by omega) with rfl | rfl | rfl <;> rfl) ⟨Nat.le_of_ble_eq_true rfl, Nat.le_of_ble_eq_true rfl⟩ d_Mdl_init_305 (fun H hz X => ?_)
  rw [ow_push (by decide)] at X
  have hz : H.size = E.2.1 + 116 := hz
  refine lv_dup hx hb d_Mdl_init_308 rfl ?_
  refine gm_INv hx hb hml hown hW X hz (z_Rpt_init l E _ (ow_at (k := 115) ⟨by decide, by decide⟩ rfl) (cw_ge _) (by omega)) (n := 0) ⟨⟨wln_Mdl_78, wi_Rpt_init, winit_Rpt, wc_Rpt_init, rfl⟩, by decide +kernel, Nat.le_of_ble_eq_true rfl, Nat.le_of_ble_eq_true rfl⟩ rfl hl.1 rfl (Nat.le_of_ble_eq_true rfl) d_Mdl_init_309 ⟨Nat.le_of_ble_eq_true rfl, Nat.le_of_ble_eq_true rfl⟩ (fun M1 H locs hp X => ?_)
  rw [hp, ow_p3 (by decide), ow_up ⟨by decide, by decide⟩] at X
  refine gm_hz (b := E.2.1 + 118) X h0 (ow_at (k := 118) ⟨by decide, by decide⟩ rfl) (by first | (dsimp only; done) | (dsimp only; omega) | omega) (fun hz => ?_)
  have hz : H.size = E.2.1 + 119 := hz
  refine gm_aast hx hb X (k := 0) (ow_at (k := 88) ⟨by decide, by decide⟩ rfl) (cw_ge _) rfl (ow_at (k := 115) ⟨by decide, by decide⟩ rfl) rfl (by decide) ⟨by decide, by decide⟩ d_Mdl_init_312 (fun H locs hz1 X => ?_)
  have hz := hz1.trans hz
  rw [ow_up ⟨by decide, by decide⟩] at X
  refine lv_iinc (v := 1) (lv' := [(3, .int 1), (2, .ref (E.2.1 + 98)), (1, .ref (E.2.1 + 97)), (0, .ref (E.2.1 + 53))]) hx hb d_Mdl_init_313 hl (k := 0) rfl (by decide) (by decide) rfl (fun ls hl => ?_)
  refine lv_goto (tgt := 295) hx hb d_Mdl_init_316 (by decide) ?_
  refine lv_iload_n hx hb d_Mdl_init_295 rfl (lv_at hl 0 rfl) ?_
  refine lv_iconst (v := 4) hx hb d_Mdl_init_296 (by decide) ?_
  refine lv_icmp_ge (tgt := 319) hx hb d_Mdl_init_297 (by decide) (fun c9 => absurd c9 (by decide)) (fun _ => ?_)
  refine lv_aload_n hx hb d_Mdl_init_300 rfl (lv_at hl 3 rfl) ?_
  refine gm_get hx hb hW hown X u_Mdl (fs := [.ref (E.2.1 + 99), .ref (E.2.1 + 107), .ref (E.2.1 + 54), .ref (E.2.1 + 55), .ref (E.2.1 + 59), .ref (E.2.1 + 63), .ref (E.2.1 + 67), .ref (E.2.1 + 71), .ref (E.2.1 + 72), .ref (E.2.1 + 73), .ref (E.2.1 + 74), .ref (E.2.1 + 75), .ref (E.2.1 + 76), .ref (E.2.1 + 77), .ref (E.2.1 + 78), .ref (E.2.1 + 79), .ref (E.2.1 + 88), .ref (E.2.1 + 89), .ref (E.2.1 + 93), .ref (E.2.1 + 94), .ref (E.2.1 + 95), .ref (E.2.1 + 96), .int 0]) (ow_at (k := 53) ⟨by decide, by decide⟩ rfl) rfl 16 (by decide) wf_Mdl_106 (v := .ref (E.2.1 + 88)) rfl d_Mdl_init_301 ?_
  refine lv_iload_n hx hb d_Mdl_init_304 rfl (lv_at hl 0 rfl) ?_
  refine gm_new (ci := 5) hx hb hW hown X hz u_Rpt t_Rpt t_Rpt_ok rfl wcl_Mdl_2 winst_Rpt winit_Rpt (fs := [.null, .null, .null]) (fun j hj => by rcases (show j = 0 ∨ j = 1 ∨ j = 2 by omega) with rfl | rfl | rfl <;> rfl) ⟨Nat.le_of_ble_eq_true rfl, Nat.le_of_ble_eq_true rfl⟩ d_Mdl_init_305 (fun H hz X => ?_)
  rw [ow_push (by decide)] at X
  have hz : H.size = E.2.1 + 120 := hz
  refine lv_dup hx hb d_Mdl_init_308 rfl ?_
  refine gm_INv hx hb hml hown hW X hz (z_Rpt_init l E _ (ow_at (k := 119) ⟨by decide, by decide⟩ rfl) (cw_ge _) (by omega)) (n := 0) ⟨⟨wln_Mdl_78, wi_Rpt_init, winit_Rpt, wc_Rpt_init, rfl⟩, by decide +kernel, Nat.le_of_ble_eq_true rfl, Nat.le_of_ble_eq_true rfl⟩ rfl hl.1 rfl (Nat.le_of_ble_eq_true rfl) d_Mdl_init_309 ⟨Nat.le_of_ble_eq_true rfl, Nat.le_of_ble_eq_true rfl⟩ (fun M1 H locs hp X => ?_)
  rw [hp, ow_p3 (by decide), ow_up ⟨by decide, by decide⟩] at X
  refine gm_hz (b := E.2.1 + 122) X h0 (ow_at (k := 122) ⟨by decide, by decide⟩ rfl) (by first | (dsimp only; done) | (dsimp only; omega) | omega) (fun hz => ?_)
  have hz : H.size = E.2.1 + 123 := hz
  refine gm_aast hx hb X (k := 1) (ow_at (k := 88) ⟨by decide, by decide⟩ rfl) (cw_ge _) rfl (ow_at (k := 119) ⟨by decide, by decide⟩ rfl) rfl (by decide) ⟨by decide, by decide⟩ d_Mdl_init_312 (fun H locs hz1 X => ?_)
  have hz := hz1.trans hz
  rw [ow_up ⟨by decide, by decide⟩] at X
  refine lv_iinc (v := 2) (lv' := [(3, .int 2), (2, .ref (E.2.1 + 98)), (1, .ref (E.2.1 + 97)), (0, .ref (E.2.1 + 53))]) hx hb d_Mdl_init_313 hl (k := 0) rfl (by decide) (by decide) rfl (fun ls hl => ?_)
  refine lv_goto (tgt := 295) hx hb d_Mdl_init_316 (by decide) ?_
  refine lv_iload_n hx hb d_Mdl_init_295 rfl (lv_at hl 0 rfl) ?_
  refine lv_iconst (v := 4) hx hb d_Mdl_init_296 (by decide) ?_
  refine lv_icmp_ge (tgt := 319) hx hb d_Mdl_init_297 (by decide) (fun c9 => absurd c9 (by decide)) (fun _ => ?_)
  refine lv_aload_n hx hb d_Mdl_init_300 rfl (lv_at hl 3 rfl) ?_
  refine gm_get hx hb hW hown X u_Mdl (fs := [.ref (E.2.1 + 99), .ref (E.2.1 + 107), .ref (E.2.1 + 54), .ref (E.2.1 + 55), .ref (E.2.1 + 59), .ref (E.2.1 + 63), .ref (E.2.1 + 67), .ref (E.2.1 + 71), .ref (E.2.1 + 72), .ref (E.2.1 + 73), .ref (E.2.1 + 74), .ref (E.2.1 + 75), .ref (E.2.1 + 76), .ref (E.2.1 + 77), .ref (E.2.1 + 78), .ref (E.2.1 + 79), .ref (E.2.1 + 88), .ref (E.2.1 + 89), .ref (E.2.1 + 93), .ref (E.2.1 + 94), .ref (E.2.1 + 95), .ref (E.2.1 + 96), .int 0]) (ow_at (k := 53) ⟨by decide, by decide⟩ rfl) rfl 16 (by decide) wf_Mdl_106 (v := .ref (E.2.1 + 88)) rfl d_Mdl_init_301 ?_
  refine lv_iload_n hx hb d_Mdl_init_304 rfl (lv_at hl 0 rfl) ?_
  refine gm_new (ci := 5) hx hb hW hown X hz u_Rpt t_Rpt t_Rpt_ok rfl wcl_Mdl_2 winst_Rpt winit_Rpt (fs := [.null, .null, .null]) (fun j hj => by rcases (show j = 0 ∨ j = 1 ∨ j = 2 by omega) with rfl | rfl | rfl <;> rfl) ⟨Nat.le_of_ble_eq_true rfl, Nat.le_of_ble_eq_true rfl⟩ d_Mdl_init_305 (fun H hz X => ?_)
  rw [ow_push (by decide)] at X
  have hz : H.size = E.2.1 + 124 := hz
  refine lv_dup hx hb d_Mdl_init_308 rfl ?_
  refine gm_INv hx hb hml hown hW X hz (z_Rpt_init l E _ (ow_at (k := 123) ⟨by decide, by decide⟩ rfl) (cw_ge _) (by omega)) (n := 0) ⟨⟨wln_Mdl_78, wi_Rpt_init, winit_Rpt, wc_Rpt_init, rfl⟩, by decide +kernel, Nat.le_of_ble_eq_true rfl, Nat.le_of_ble_eq_true rfl⟩ rfl hl.1 rfl (Nat.le_of_ble_eq_true rfl) d_Mdl_init_309 ⟨Nat.le_of_ble_eq_true rfl, Nat.le_of_ble_eq_true rfl⟩ (fun M1 H locs hp X => ?_)
  rw [hp, ow_p3 (by decide), ow_up ⟨by decide, by decide⟩] at X
  refine gm_hz (b := E.2.1 + 126) X h0 (ow_at (k := 126) ⟨by decide, by decide⟩ rfl) (by first | (dsimp only; done) | (dsimp only; omega) | omega) (fun hz => ?_)
  have hz : H.size = E.2.1 + 127 := hz
  refine gm_aast hx hb X (k := 2) (ow_at (k := 88) ⟨by decide, by decide⟩ rfl) (cw_ge _) rfl (ow_at (k := 123) ⟨by decide, by decide⟩ rfl) rfl (by decide) ⟨by decide, by decide⟩ d_Mdl_init_312 (fun H locs hz1 X => ?_)
  have hz := hz1.trans hz
  rw [ow_up ⟨by decide, by decide⟩] at X
  refine lv_iinc (v := 3) (lv' := [(3, .int 3), (2, .ref (E.2.1 + 98)), (1, .ref (E.2.1 + 97)), (0, .ref (E.2.1 + 53))]) hx hb d_Mdl_init_313 hl (k := 0) rfl (by decide) (by decide) rfl (fun ls hl => ?_)
  refine lv_goto (tgt := 295) hx hb d_Mdl_init_316 (by decide) ?_
  refine lv_iload_n hx hb d_Mdl_init_295 rfl (lv_at hl 0 rfl) ?_
  refine lv_iconst (v := 4) hx hb d_Mdl_init_296 (by decide) ?_
  refine lv_icmp_ge (tgt := 319) hx hb d_Mdl_init_297 (by decide) (fun c9 => absurd c9 (by decide)) (fun _ => ?_)
  refine lv_aload_n hx hb d_Mdl_init_300 rfl (lv_at hl 3 rfl) ?_
  refine gm_get hx hb hW hown X u_Mdl (fs := [.ref (E.2.1 + 99), .ref (E.2.1 + 107), .ref (E.2.1 + 54), .ref (E.2.1 + 55), .ref (E.2.1 + 59), .ref (E.2.1 + 63), .ref (E.2.1 + 67), .ref (E.2.1 + 71), .ref (E.2.1 + 72), .ref (E.2.1 + 73), .ref (E.2.1 + 74), .ref (E.2.1 + 75), .ref (E.2.1 + 76), .ref (E.2.1 + 77), .ref (E.2.1 + 78), .ref (E.2.1 + 79), .ref (E.2.1 + 88), .ref (E.2.1 + 89), .ref (E.2.1 + 93), .ref (E.2.1 + 94), .ref (E.2.1 + 95), .ref (E.2.1 + 96), .int 0]) (ow_at (k := 53) ⟨by decide, by decide⟩ rfl) rfl 16 (by decide) wf_Mdl_106 (v := .ref (E.2.1 + 88)) rfl d_Mdl_init_301 ?_
  refine lv_iload_n hx hb d_Mdl_init_304 rfl (lv_at hl 0 rfl) ?_
  refine gm_new (ci := 5) hx hb hW hown X hz u_Rpt t_Rpt t_Rpt_ok rfl wcl_Mdl_2 winst_Rpt winit_Rpt (fs := [.null, .null, .null]) (fun j hj => by rcases (show j = 0 ∨ j = 1 ∨ j = 2 by omega) with rfl | rfl | rfl <;> rfl) ⟨Nat.le_of_ble_eq_true rfl, Nat.le_of_ble_eq_true rfl⟩ d_Mdl_init_305 (fun H hz X => ?_)
  rw [ow_push (by decide)] at X
  have hz : H.size = E.2.1 + 128 := hz
  refine lv_dup hx hb d_Mdl_init_308 rfl ?_
  refine gm_INv hx hb hml hown hW X hz (z_Rpt_init l E _ (ow_at (k := 127) ⟨by decide, by decide⟩ rfl) (cw_ge _) (by omega)) (n := 0) ⟨⟨wln_Mdl_78, wi_Rpt_init, winit_Rpt, wc_Rpt_init, rfl⟩, by decide +kernel, Nat.le_of_ble_eq_true rfl, Nat.le_of_ble_eq_true rfl⟩ rfl hl.1 rfl (Nat.le_of_ble_eq_true rfl) d_Mdl_init_309 ⟨Nat.le_of_ble_eq_true rfl, Nat.le_of_ble_eq_true rfl⟩ (fun M1 H locs hp X => ?_)
  rw [hp, ow_p3 (by decide), ow_up ⟨by decide, by decide⟩] at X
  refine gm_hz (b := E.2.1 + 130) X h0 (ow_at (k := 130) ⟨by decide, by decide⟩ rfl) (by first | (dsimp only; done) | (dsimp only; omega) | omega) (fun hz => ?_)
  have hz : H.size = E.2.1 + 131 := hz
  refine gm_aast hx hb X (k := 3) (ow_at (k := 88) ⟨by decide, by decide⟩ rfl) (cw_ge _) rfl (ow_at (k := 127) ⟨by decide, by decide⟩ rfl) rfl (by decide) ⟨by decide, by decide⟩ d_Mdl_init_312 (fun H locs hz1 X => ?_)
  have hz := hz1.trans hz
  rw [ow_up ⟨by decide, by decide⟩] at X
  refine lv_iinc (v := 4) (lv' := [(3, .int 4), (2, .ref (E.2.1 + 98)), (1, .ref (E.2.1 + 97)), (0, .ref (E.2.1 + 53))]) hx hb d_Mdl_init_313 hl (k := 0) rfl (by decide) (by decide) rfl (fun ls hl => ?_)
  refine lv_goto (tgt := 295) hx hb d_Mdl_init_316 (by decide) ?_
  refine lv_iload_n hx hb d_Mdl_init_295 rfl (lv_at hl 0 rfl) ?_
  refine lv_iconst (v := 4) hx hb d_Mdl_init_296 (by decide) ?_
  refine lv_icmp_ge (tgt := 319) hx hb d_Mdl_init_297 (by decide) (fun _ => ?_) (fun c9 => absurd (by decide) c9)
  refine lv_aload_n hx hb d_Mdl_init_319 rfl (lv_at hl 3 rfl) ?_
  refine gm_get hx hb hW hown X u_Mdl (fs := [.ref (E.2.1 + 99), .ref (E.2.1 + 107), .ref (E.2.1 + 54), .ref (E.2.1 + 55), .ref (E.2.1 + 59), .ref (E.2.1 + 63), .ref (E.2.1 + 67), .ref (E.2.1 + 71), .ref (E.2.1 + 72), .ref (E.2.1 + 73), .ref (E.2.1 + 74), .ref (E.2.1 + 75), .ref (E.2.1 + 76), .ref (E.2.1 + 77), .ref (E.2.1 + 78), .ref (E.2.1 + 79), .ref (E.2.1 + 88), .ref (E.2.1 + 89), .ref (E.2.1 + 93), .ref (E.2.1 + 94), .ref (E.2.1 + 95), .ref (E.2.1 + 96), .int 0]) (ow_at (k := 53) ⟨by decide, by decide⟩ rfl) rfl 2 (by decide) wf_Mdl_75 (v := .ref (E.2.1 + 54)) rfl d_Mdl_init_320 ?_
  refine lv_iconst (v := 0) hx hb d_Mdl_init_323 (by decide) ?_
  refine lv_bipush (v := 7) hx hb d_Mdl_init_324 (by decide) ?_
  refine gm_iast hx hb X (k := 0) (ow_at (k := 54) ⟨by decide, by decide⟩ rfl) (cw_ge _) (by decide) ⟨by decide, by decide⟩ d_Mdl_init_326 (fun H locs X => ?_)
  rw [ow_up ⟨by decide, by decide⟩] at X
  refine lv_aload_n hx hb d_Mdl_init_327 rfl (lv_at hl 3 rfl) ?_
  refine gm_get hx hb hW hown X u_Mdl (fs := [.ref (E.2.1 + 99), .ref (E.2.1 + 107), .ref (E.2.1 + 54), .ref (E.2.1 + 55), .ref (E.2.1 + 59), .ref (E.2.1 + 63), .ref (E.2.1 + 67), .ref (E.2.1 + 71), .ref (E.2.1 + 72), .ref (E.2.1 + 73), .ref (E.2.1 + 74), .ref (E.2.1 + 75), .ref (E.2.1 + 76), .ref (E.2.1 + 77), .ref (E.2.1 + 78), .ref (E.2.1 + 79), .ref (E.2.1 + 88), .ref (E.2.1 + 89), .ref (E.2.1 + 93), .ref (E.2.1 + 94), .ref (E.2.1 + 95), .ref (E.2.1 + 96), .int 0]) (ow_at (k := 53) ⟨by decide, by decide⟩ rfl) rfl 0 (by decide) wf_Mdl_13 (v := .ref (E.2.1 + 99)) rfl d_Mdl_init_328 ?_
  refine lv_aload_n hx hb d_Mdl_init_331 rfl (lv_at hl 3 rfl) ?_
  refine gm_get hx hb hW hown X u_Mdl (fs := [.ref (E.2.1 + 99), .ref (E.2.1 + 107), .ref (E.2.1 + 54), .ref (E.2.1 + 55), .ref (E.2.1 + 59), .ref (E.2.1 + 63), .ref (E.2.1 + 67), .ref (E.2.1 + 71), .ref (E.2.1 + 72), .ref (E.2.1 + 73), .ref (E.2.1 + 74), .ref (E.2.1 + 75), .ref (E.2.1 + 76), .ref (E.2.1 + 77), .ref (E.2.1 + 78), .ref (E.2.1 + 79), .ref (E.2.1 + 88), .ref (E.2.1 + 89), .ref (E.2.1 + 93), .ref (E.2.1 + 94), .ref (E.2.1 + 95), .ref (E.2.1 + 96), .int 0]) (ow_at (k := 53) ⟨by decide, by decide⟩ rfl) rfl 2 (by decide) wf_Mdl_75 (v := .ref (E.2.1 + 54)) rfl d_Mdl_init_332 ?_
  refine lv_aload_n hx hb d_Mdl_init_335 rfl (lv_at hl 3 rfl) ?_
  refine gm_get hx hb hW hown X u_Mdl (fs := [.ref (E.2.1 + 99), .ref (E.2.1 + 107), .ref (E.2.1 + 54), .ref (E.2.1 + 55), .ref (E.2.1 + 59), .ref (E.2.1 + 63), .ref (E.2.1 + 67), .ref (E.2.1 + 71), .ref (E.2.1 + 72), .ref (E.2.1 + 73), .ref (E.2.1 + 74), .ref (E.2.1 + 75), .ref (E.2.1 + 76), .ref (E.2.1 + 77), .ref (E.2.1 + 78), .ref (E.2.1 + 79), .ref (E.2.1 + 88), .ref (E.2.1 + 89), .ref (E.2.1 + 93), .ref (E.2.1 + 94), .ref (E.2.1 + 95), .ref (E.2.1 + 96), .int 0]) (ow_at (k := 53) ⟨by decide, by decide⟩ rfl) rfl 2 (by decide) wf_Mdl_75 (v := .ref (E.2.1 + 54)) rfl d_Mdl_init_336 ?_
  refine gm_Vv hx hb hml hown hW X (ow_at (k := 99) ⟨by decide, by decide⟩ rfl) (c_Rng_enter l E _ (mv := mvP) (mi := miP) (mo := E.2.1 + 100) (on := E.2.1 + 101) (tw := E.2.1 + 102) (pl := E.2.1 + 103) (rw := E.2.1 + 104) (ba := E.2.1 + 105) (ot := E.2.1 + 106) (ow_at (k := 99) ⟨by decide, by decide⟩ rfl) (cw_ge _) (ow_at (k := 104) ⟨by decide, by decide⟩ rfl) (ow_at (k := 100) ⟨by decide, by decide⟩ rfl) (by decide +kernel) (ow_at (k := 54) ⟨by decide, by decide⟩ rfl) (cw_ge _) (by omega) (ga := upd (fun _ => 0) 0 7) (ow_at (k := 54) ⟨by decide, by decide⟩ rfl) (gb := p2) (ow_at (k := 102) ⟨by decide, by decide⟩ rfl) (by have := Rp.2.1; have := mvP_v; omega)) (n := 2) ⟨⟨wl_Mdl_135, wi_Rng_enter, wsel_Rng_enter, winit_Rng, wc_Rng_enter⟩, by decide +kernel, ⟨Nat.le_of_ble_eq_true rfl, Nat.le_of_ble_eq_true rfl⟩, _, rfl, rfl⟩ rfl hl.1 rfl (Nat.le_of_ble_eq_true rfl) d_Mdl_init_339 ⟨Nat.le_of_ble_eq_true rfl, Nat.le_of_ble_eq_true rfl⟩ (fun M1 H locs hp X => ?_)
  obtain ⟨gr0, he0, hp, hl0, hv0⟩ := hp
  rw [hp, ow_up ⟨by decide, by decide⟩, ow_up ⟨by decide, by decide⟩] at X
  have E0 := MV.enter hf hR mvP_v Rp.2 hl0 hv0
  refine lv_bipush (v := 8) hx hb d_Mdl_init_342 (by decide) ?_
  refine gm_hz (b := E.2.1 + 130) X h0 (ow_at (k := 130) ⟨by decide, by decide⟩ rfl) (by first | (dsimp only; done) | (dsimp only; omega) | omega) (fun hz => ?_)
  have hz : H.size = E.2.1 + 131 := hz
  refine gm_newi hx hb hW X hz (N := 8) (by decide) (by decide) (by decide) ⟨Nat.le_of_ble_eq_true rfl, Nat.le_of_ble_eq_true rfl⟩ d_Mdl_init_344 (fun H hz X => ?_)
  rw [ow_push (by decide)] at X
  have hz : H.size = E.2.1 + 132 := hz
  refine lv_dup hx hb d_Mdl_init_346 rfl ?_
  refine lv_iconst (v := 0) hx hb d_Mdl_init_347 (by decide) ?_
  refine lv_ldc (v := 385357720) hx hb hown (hW _ wk_Mdl_138) d_Mdl_init_348 ?_
  refine gm_iast hx hb X (k := 0) (ow_at (k := 131) ⟨by decide, by decide⟩ rfl) (cw_ge _) (by decide) ⟨by decide, by decide⟩ d_Mdl_init_350 (fun H locs X => ?_)
  rw [ow_up ⟨by decide, by decide⟩] at X
  refine lv_dup hx hb d_Mdl_init_351 rfl ?_
  refine lv_iconst (v := 1) hx hb d_Mdl_init_352 (by decide) ?_
  refine lv_ldc (v := 1509065051) hx hb hown (hW _ wk_Mdl_139) d_Mdl_init_353 ?_
  refine gm_iast hx hb X (k := 1) (ow_at (k := 131) ⟨by decide, by decide⟩ rfl) (cw_ge _) (by decide) ⟨by decide, by decide⟩ d_Mdl_init_355 (fun H locs X => ?_)
  rw [ow_up ⟨by decide, by decide⟩] at X
  refine lv_dup hx hb d_Mdl_init_356 rfl ?_
  refine lv_iconst (v := 2) hx hb d_Mdl_init_357 (by decide) ?_
  refine lv_ldc (v := 768485593) hx hb hown (hW _ wk_Mdl_140) d_Mdl_init_358 ?_
  refine gm_iast hx hb X (k := 2) (ow_at (k := 131) ⟨by decide, by decide⟩ rfl) (cw_ge _) (by decide) ⟨by decide, by decide⟩ d_Mdl_init_360 (fun H locs X => ?_)
  rw [ow_up ⟨by decide, by decide⟩] at X
  refine lv_dup hx hb d_Mdl_init_361 rfl ?_
  refine lv_iconst (v := 3) hx hb d_Mdl_init_362 (by decide) ?_
  refine lv_ldc (v := 43777243) hx hb hown (hW _ wk_Mdl_141) d_Mdl_init_363 ?_
  refine gm_iast hx hb X (k := 3) (ow_at (k := 131) ⟨by decide, by decide⟩ rfl) (cw_ge _) (by decide) ⟨by decide, by decide⟩ d_Mdl_init_365 (fun H locs X => ?_)
  rw [ow_up ⟨by decide, by decide⟩] at X
  refine lv_dup hx hb d_Mdl_init_366 rfl ?_
  refine lv_iconst (v := 4) hx hb d_Mdl_init_367 (by decide) ?_
  refine lv_ldc (v := (-830010617)) hx hb hown (hW _ wk_Mdl_142) d_Mdl_init_368 ?_
  refine gm_iast hx hb X (k := 4) (ow_at (k := 131) ⟨by decide, by decide⟩ rfl) (cw_ge _) (by decide) ⟨by decide, by decide⟩ d_Mdl_init_370 (fun H locs X => ?_)
  rw [ow_up ⟨by decide, by decide⟩] at X
  refine lv_dup hx hb d_Mdl_init_371 rfl ?_
  refine lv_iconst (v := 5) hx hb d_Mdl_init_372 (by decide) ?_
  refine lv_ldc (v := 1436574357) hx hb hown (hW _ wk_Mdl_143) d_Mdl_init_373 ?_
  refine gm_iast hx hb X (k := 5) (ow_at (k := 131) ⟨by decide, by decide⟩ rfl) (cw_ge _) (by decide) ⟨by decide, by decide⟩ d_Mdl_init_375 (fun H locs X => ?_)
  rw [ow_up ⟨by decide, by decide⟩] at X
  refine lv_dup hx hb d_Mdl_init_376 rfl ?_
  refine lv_bipush (v := 6) hx hb d_Mdl_init_377 (by decide) ?_
  refine lv_ldc (v := (-102974548)) hx hb hown (hW _ wk_Mdl_144) d_Mdl_init_379 ?_
  refine gm_iast hx hb X (k := 6) (ow_at (k := 131) ⟨by decide, by decide⟩ rfl) (cw_ge _) (by decide) ⟨by decide, by decide⟩ d_Mdl_init_381 (fun H locs X => ?_)
  rw [ow_up ⟨by decide, by decide⟩] at X
  refine lv_dup hx hb d_Mdl_init_382 rfl ?_
  refine lv_bipush (v := 7) hx hb d_Mdl_init_383 (by decide) ?_
  refine lv_ldc (v := 2042521214) hx hb hown (hW _ wk_Mdl_145) d_Mdl_init_385 ?_
  refine gm_iast hx hb X (k := 7) (ow_at (k := 131) ⟨by decide, by decide⟩ rfl) (cw_ge _) (by decide) ⟨by decide, by decide⟩ d_Mdl_init_387 (fun H locs X => ?_)
  rw [ow_up ⟨by decide, by decide⟩] at X
  refine lv_astore_n (lv' := [(3, .ref (E.2.1 + 131)), (2, .ref (E.2.1 + 98)), (1, .ref (E.2.1 + 97)), (0, .ref (E.2.1 + 53))]) hx hb d_Mdl_init_388 rfl hl (by decide) rfl (fun ls hl => ?_)
  refine lv_bipush (v := 8) hx hb d_Mdl_init_389 (by decide) ?_
  refine gm_hz (b := E.2.1 + 131) X h0 (ow_at (k := 131) ⟨by decide, by decide⟩ rfl) (by first | (dsimp only; done) | (dsimp only; omega) | omega) (fun hz => ?_)
  have hz : H.size = E.2.1 + 132 := hz
  refine gm_newi hx hb hW X hz (N := 8) (by decide) (by decide) (by decide) ⟨Nat.le_of_ble_eq_true rfl, Nat.le_of_ble_eq_true rfl⟩ d_Mdl_init_391 (fun H hz X => ?_)
  rw [ow_push (by decide)] at X
  have hz : H.size = E.2.1 + 133 := hz
  refine lv_dup hx hb d_Mdl_init_393 rfl ?_
  refine lv_iconst (v := 0) hx hb d_Mdl_init_394 (by decide) ?_
  refine lv_ldc (v := (-82783048)) hx hb hown (hW _ wk_Mdl_146) d_Mdl_init_395 ?_
  refine gm_iast hx hb X (k := 0) (ow_at (k := 132) ⟨by decide, by decide⟩ rfl) (cw_ge _) (by decide) ⟨by decide, by decide⟩ d_Mdl_init_397 (fun H locs X => ?_)
  rw [ow_up ⟨by decide, by decide⟩] at X
  refine lv_dup hx hb d_Mdl_init_398 rfl ?_
  refine lv_iconst (v := 1) hx hb d_Mdl_init_399 (by decide) ?_
  refine lv_ldc (v := (-1673015153)) hx hb hown (hW _ wk_Mdl_147) d_Mdl_init_400 ?_
  refine gm_iast hx hb X (k := 1) (ow_at (k := 132) ⟨by decide, by decide⟩ rfl) (cw_ge _) (by decide) ⟨by decide, by decide⟩ d_Mdl_init_402 (fun H locs X => ?_)
  rw [ow_up ⟨by decide, by decide⟩] at X
  refine lv_dup hx hb d_Mdl_init_403 rfl ?_
  refine lv_iconst (v := 2) hx hb d_Mdl_init_404 (by decide) ?_
  refine lv_ldc (v := (-1501211623)) hx hb hown (hW _ wk_Mdl_148) d_Mdl_init_405 ?_
  refine gm_iast hx hb X (k := 2) (ow_at (k := 132) ⟨by decide, by decide⟩ rfl) (cw_ge _) (by decide) ⟨by decide, by decide⟩ d_Mdl_init_407 (fun H locs X => ?_)
  rw [ow_up ⟨by decide, by decide⟩] at X
  refine lv_dup hx hb d_Mdl_init_408 rfl ?_
  refine lv_iconst (v := 3) hx hb d_Mdl_init_409 (by decide) ?_
  refine lv_ldc (v := (-48778168)) hx hb hown (hW _ wk_Mdl_149) d_Mdl_init_410 ?_
  refine gm_iast hx hb X (k := 3) (ow_at (k := 132) ⟨by decide, by decide⟩ rfl) (cw_ge _) (by decide) ⟨by decide, by decide⟩ d_Mdl_init_412 (fun H locs X => ?_)
  rw [ow_up ⟨by decide, by decide⟩] at X
  refine lv_dup hx hb d_Mdl_init_413 rfl ?_
  refine lv_iconst (v := 4) hx hb d_Mdl_init_414 (by decide) ?_
  refine lv_ldc (v := 235997352) hx hb hown (hW _ wk_Mdl_150) d_Mdl_init_415 ?_
  refine gm_iast hx hb X (k := 4) (ow_at (k := 132) ⟨by decide, by decide⟩ rfl) (cw_ge _) (by decide) ⟨by decide, by decide⟩ d_Mdl_init_417 (fun H locs X => ?_)
  rw [ow_up ⟨by decide, by decide⟩] at X
  refine lv_dup hx hb d_Mdl_init_418 rfl ?_
  refine lv_iconst (v := 5) hx hb d_Mdl_init_419 (by decide) ?_
  refine lv_ldc (v := 1571093500) hx hb hown (hW _ wk_Mdl_151) d_Mdl_init_420 ?_
  refine gm_iast hx hb X (k := 5) (ow_at (k := 132) ⟨by decide, by decide⟩ rfl) (cw_ge _) (by decide) ⟨by decide, by decide⟩ d_Mdl_init_422 (fun H locs X => ?_)
  rw [ow_up ⟨by decide, by decide⟩] at X
  refine lv_dup hx hb d_Mdl_init_423 rfl ?_
  refine lv_bipush (v := 6) hx hb d_Mdl_init_424 (by decide) ?_
  refine lv_ldc (v := 648266853) hx hb hown (hW _ wk_Mdl_152) d_Mdl_init_426 ?_
  refine gm_iast hx hb X (k := 6) (ow_at (k := 132) ⟨by decide, by decide⟩ rfl) (cw_ge _) (by decide) ⟨by decide, by decide⟩ d_Mdl_init_428 (fun H locs X => ?_)
  rw [ow_up ⟨by decide, by decide⟩] at X
  refine lv_dup hx hb d_Mdl_init_429 rfl ?_
  refine lv_bipush (v := 7) hx hb d_Mdl_init_430 (by decide) ?_
  refine lv_ldc (v := 1211816567) hx hb hown (hW _ wk_Mdl_153) d_Mdl_init_432 ?_
  refine gm_iast hx hb X (k := 7) (ow_at (k := 132) ⟨by decide, by decide⟩ rfl) (cw_ge _) (by decide) ⟨by decide, by decide⟩ d_Mdl_init_434 (fun H locs X => ?_)
  rw [ow_up ⟨by decide, by decide⟩] at X
  refine lv_astore (lv' := [(4, .ref (E.2.1 + 132)), (3, .ref (E.2.1 + 131)), (2, .ref (E.2.1 + 98)), (1, .ref (E.2.1 + 97)), (0, .ref (E.2.1 + 53))]) hx hb d_Mdl_init_435 hl (by decide) rfl (fun ls hl => ?_)
  refine lv_aload_n hx hb d_Mdl_init_437 rfl (lv_at hl 4 rfl) ?_
  refine gm_get hx hb hW hown X u_Mdl (fs := [.ref (E.2.1 + 99), .ref (E.2.1 + 107), .ref (E.2.1 + 54), .ref (E.2.1 + 55), .ref (E.2.1 + 59), .ref (E.2.1 + 63), .ref (E.2.1 + 67), .ref (E.2.1 + 71), .ref (E.2.1 + 72), .ref (E.2.1 + 73), .ref (E.2.1 + 74), .ref (E.2.1 + 75), .ref (E.2.1 + 76), .ref (E.2.1 + 77), .ref (E.2.1 + 78), .ref (E.2.1 + 79), .ref (E.2.1 + 88), .ref (E.2.1 + 89), .ref (E.2.1 + 93), .ref (E.2.1 + 94), .ref (E.2.1 + 95), .ref (E.2.1 + 96), .int 0]) (ow_at (k := 53) ⟨by decide, by decide⟩ rfl) rfl 0 (by decide) wf_Mdl_13 (v := .ref (E.2.1 + 99)) rfl d_Mdl_init_438 ?_
  refine lv_aload_n hx hb d_Mdl_init_441 rfl (lv_at hl 1 rfl) ?_
  refine lv_aload_n hx hb d_Mdl_init_442 rfl (lv_at hl 4 rfl) ?_
  refine gm_get hx hb hW hown X u_Mdl (fs := [.ref (E.2.1 + 99), .ref (E.2.1 + 107), .ref (E.2.1 + 54), .ref (E.2.1 + 55), .ref (E.2.1 + 59), .ref (E.2.1 + 63), .ref (E.2.1 + 67), .ref (E.2.1 + 71), .ref (E.2.1 + 72), .ref (E.2.1 + 73), .ref (E.2.1 + 74), .ref (E.2.1 + 75), .ref (E.2.1 + 76), .ref (E.2.1 + 77), .ref (E.2.1 + 78), .ref (E.2.1 + 79), .ref (E.2.1 + 88), .ref (E.2.1 + 89), .ref (E.2.1 + 93), .ref (E.2.1 + 94), .ref (E.2.1 + 95), .ref (E.2.1 + 96), .int 0]) (ow_at (k := 53) ⟨by decide, by decide⟩ rfl) rfl 3 (by decide) wf_Mdl_79 (v := .ref (E.2.1 + 55)) rfl d_Mdl_init_443 ?_
  refine gm_getN hx hb hW hown X u_Rpt (fs := [.ref (E.2.1 + 56), .ref (E.2.1 + 57), .ref (E.2.1 + 58)]) (ow_at (k := 55) ⟨by decide, by decide⟩ rfl) rfl 0 (by decide) wfn_Mdl_29 (v := .ref (E.2.1 + 56)) rfl d_Mdl_init_446 ?_
  refine gm_Vv hx hb hml hown hW X (ow_at (k := 99) ⟨by decide, by decide⟩ rfl) (c_Rng_enter l E _ (mv := mvP) (mi := miP) (mo := E.2.1 + 100) (on := E.2.1 + 101) (tw := E.2.1 + 102) (pl := E.2.1 + 103) (rw := E.2.1 + 104) (ba := E.2.1 + 105) (ot := E.2.1 + 106) (ow_at (k := 99) ⟨by decide, by decide⟩ rfl) (cw_ge _) (ow_at (k := 104) ⟨by decide, by decide⟩ rfl) (ow_at (k := 100) ⟨by decide, by decide⟩ rfl) (by decide +kernel) (ow_at (k := 56) ⟨by decide, by decide⟩ rfl) (cw_ge _) (by omega) (ga := mgX) (ow_at (k := 131) ⟨by decide, by decide⟩ rfl) (gb := p2) (ow_at (k := 102) ⟨by decide, by decide⟩ rfl) (by have := Rp.2.1; have := mvP_v; omega)) (n := 2) ⟨⟨wl_Mdl_135, wi_Rng_enter, wsel_Rng_enter, winit_Rng, wc_Rng_enter⟩, by decide +kernel, ⟨Nat.le_of_ble_eq_true rfl, Nat.le_of_ble_eq_true rfl⟩, _, rfl, rfl⟩ rfl hl.1 rfl (Nat.le_of_ble_eq_true rfl) d_Mdl_init_449 ⟨Nat.le_of_ble_eq_true rfl, Nat.le_of_ble_eq_true rfl⟩ (fun M1 H locs hp X => ?_)
  obtain ⟨gr1, he1, hp, hl1, hv1⟩ := hp
  rw [hp, ow_up ⟨by decide, by decide⟩, ow_up ⟨by decide, by decide⟩] at X
  have E1 := MV.enter hf hR mvP_v Rp.2 hl1 hv1
  refine lv_aload_n hx hb d_Mdl_init_452 rfl (lv_at hl 4 rfl) ?_
  refine gm_get hx hb hW hown X u_Mdl (fs := [.ref (E.2.1 + 99), .ref (E.2.1 + 107), .ref (E.2.1 + 54), .ref (E.2.1 + 55), .ref (E.2.1 + 59), .ref (E.2.1 + 63), .ref (E.2.1 + 67), .ref (E.2.1 + 71), .ref (E.2.1 + 72), .ref (E.2.1 + 73), .ref (E.2.1 + 74), .ref (E.2.1 + 75), .ref (E.2.1 + 76), .ref (E.2.1 + 77), .ref (E.2.1 + 78), .ref (E.2.1 + 79), .ref (E.2.1 + 88), .ref (E.2.1 + 89), .ref (E.2.1 + 93), .ref (E.2.1 + 94), .ref (E.2.1 + 95), .ref (E.2.1 + 96), .int 0]) (ow_at (k := 53) ⟨by decide, by decide⟩ rfl) rfl 0 (by decide) wf_Mdl_13 (v := .ref (E.2.1 + 99)) rfl d_Mdl_init_453 ?_
  refine lv_aload hx hb d_Mdl_init_456 (lv_at hl 0 rfl) ?_
  refine lv_aload_n hx hb d_Mdl_init_458 rfl (lv_at hl 4 rfl) ?_
  refine gm_get hx hb hW hown X u_Mdl (fs := [.ref (E.2.1 + 99), .ref (E.2.1 + 107), .ref (E.2.1 + 54), .ref (E.2.1 + 55), .ref (E.2.1 + 59), .ref (E.2.1 + 63), .ref (E.2.1 + 67), .ref (E.2.1 + 71), .ref (E.2.1 + 72), .ref (E.2.1 + 73), .ref (E.2.1 + 74), .ref (E.2.1 + 75), .ref (E.2.1 + 76), .ref (E.2.1 + 77), .ref (E.2.1 + 78), .ref (E.2.1 + 79), .ref (E.2.1 + 88), .ref (E.2.1 + 89), .ref (E.2.1 + 93), .ref (E.2.1 + 94), .ref (E.2.1 + 95), .ref (E.2.1 + 96), .int 0]) (ow_at (k := 53) ⟨by decide, by decide⟩ rfl) rfl 3 (by decide) wf_Mdl_79 (v := .ref (E.2.1 + 55)) rfl d_Mdl_init_459 ?_
  refine gm_getN hx hb hW hown X u_Rpt (fs := [.ref (E.2.1 + 56), .ref (E.2.1 + 57), .ref (E.2.1 + 58)]) (ow_at (k := 55) ⟨by decide, by decide⟩ rfl) rfl 1 (by decide) wfn_Mdl_19 (v := .ref (E.2.1 + 57)) rfl d_Mdl_init_462 ?_
  refine gm_Vv hx hb hml hown hW X (ow_at (k := 99) ⟨by decide, by decide⟩ rfl) (c_Rng_enter l E _ (mv := mvP) (mi := miP) (mo := E.2.1 + 100) (on := E.2.1 + 101) (tw := E.2.1 + 102) (pl := E.2.1 + 103) (rw := E.2.1 + 104) (ba := E.2.1 + 105) (ot := E.2.1 + 106) (ow_at (k := 99) ⟨by decide, by decide⟩ rfl) (cw_ge _) (ow_at (k := 104) ⟨by decide, by decide⟩ rfl) (ow_at (k := 100) ⟨by decide, by decide⟩ rfl) (by decide +kernel) (ow_at (k := 57) ⟨by decide, by decide⟩ rfl) (cw_ge _) (by omega) (ga := mgY) (ow_at (k := 132) ⟨by decide, by decide⟩ rfl) (gb := p2) (ow_at (k := 102) ⟨by decide, by decide⟩ rfl) (by have := Rp.2.1; have := mvP_v; omega)) (n := 2) ⟨⟨wl_Mdl_135, wi_Rng_enter, wsel_Rng_enter, winit_Rng, wc_Rng_enter⟩, by decide +kernel, ⟨Nat.le_of_ble_eq_true rfl, Nat.le_of_ble_eq_true rfl⟩, _, rfl, rfl⟩ rfl hl.1 rfl (Nat.le_of_ble_eq_true rfl) d_Mdl_init_465 ⟨Nat.le_of_ble_eq_true rfl, Nat.le_of_ble_eq_true rfl⟩ (fun M1 H locs hp X => ?_)
  obtain ⟨gr2, he2, hp, hl2, hv2⟩ := hp
  rw [hp, ow_up ⟨by decide, by decide⟩, ow_up ⟨by decide, by decide⟩] at X
  have E2 := MV.enter hf hR mvP_v Rp.2 hl2 hv2
  refine lv_aload_n hx hb d_Mdl_init_468 rfl (lv_at hl 4 rfl) ?_
  refine gm_get hx hb hW hown X u_Mdl (fs := [.ref (E.2.1 + 99), .ref (E.2.1 + 107), .ref (E.2.1 + 54), .ref (E.2.1 + 55), .ref (E.2.1 + 59), .ref (E.2.1 + 63), .ref (E.2.1 + 67), .ref (E.2.1 + 71), .ref (E.2.1 + 72), .ref (E.2.1 + 73), .ref (E.2.1 + 74), .ref (E.2.1 + 75), .ref (E.2.1 + 76), .ref (E.2.1 + 77), .ref (E.2.1 + 78), .ref (E.2.1 + 79), .ref (E.2.1 + 88), .ref (E.2.1 + 89), .ref (E.2.1 + 93), .ref (E.2.1 + 94), .ref (E.2.1 + 95), .ref (E.2.1 + 96), .int 0]) (ow_at (k := 53) ⟨by decide, by decide⟩ rfl) rfl 0 (by decide) wf_Mdl_13 (v := .ref (E.2.1 + 99)) rfl d_Mdl_init_469 ?_
  refine gm_getN hx hb hW hown X u_Rng (fs := [.ref (E.2.1 + 100), .int miP, .ref (E.2.1 + 101), .ref (E.2.1 + 102), .ref (E.2.1 + 103), .ref (E.2.1 + 104), .ref (E.2.1 + 105), .ref (E.2.1 + 106)]) (ow_at (k := 99) ⟨by decide, by decide⟩ rfl) rfl 2 (by decide) wfn_Mdl_154 (v := .ref (E.2.1 + 101)) rfl d_Mdl_init_472 ?_
  refine lv_aload_n hx hb d_Mdl_init_475 rfl (lv_at hl 4 rfl) ?_
  refine gm_get hx hb hW hown X u_Mdl (fs := [.ref (E.2.1 + 99), .ref (E.2.1 + 107), .ref (E.2.1 + 54), .ref (E.2.1 + 55), .ref (E.2.1 + 59), .ref (E.2.1 + 63), .ref (E.2.1 + 67), .ref (E.2.1 + 71), .ref (E.2.1 + 72), .ref (E.2.1 + 73), .ref (E.2.1 + 74), .ref (E.2.1 + 75), .ref (E.2.1 + 76), .ref (E.2.1 + 77), .ref (E.2.1 + 78), .ref (E.2.1 + 79), .ref (E.2.1 + 88), .ref (E.2.1 + 89), .ref (E.2.1 + 93), .ref (E.2.1 + 94), .ref (E.2.1 + 95), .ref (E.2.1 + 96), .int 0]) (ow_at (k := 53) ⟨by decide, by decide⟩ rfl) rfl 3 (by decide) wf_Mdl_79 (v := .ref (E.2.1 + 55)) rfl d_Mdl_init_476 ?_
  refine gm_getN hx hb hW hown X u_Rpt (fs := [.ref (E.2.1 + 56), .ref (E.2.1 + 57), .ref (E.2.1 + 58)]) (ow_at (k := 55) ⟨by decide, by decide⟩ rfl) rfl 2 (by decide) wfn_Mdl_1 (v := .ref (E.2.1 + 58)) rfl d_Mdl_init_479 ?_
  refine gm_Sv hx hb hml hown hW X (c_Rng_copy l E _ (to := E.2.1 + 58) (a := E.2.1 + 101) (ow_at (k := 58) ⟨by decide, by decide⟩ rfl) (cw_ge _) (ga := p1) (ow_at (k := 101) ⟨by decide, by decide⟩ rfl)) (n := 2) ⟨⟨wl_Mdl_157, ws_Rng_copy, winit_Rng, wc_Rng_copy⟩, by decide +kernel, Nat.le_of_ble_eq_true rfl, Nat.le_of_ble_eq_true rfl⟩ rfl hl.1 rfl (Nat.le_of_ble_eq_true rfl) d_Mdl_init_482 ⟨Nat.le_of_ble_eq_true rfl, Nat.le_of_ble_eq_true rfl⟩ (fun M1 H locs hp X => ?_)
  rw [hp, ow_up ⟨by decide, by decide⟩] at X
  rw [ow_mw (cd := 0)] at X
  rotate_left
  · intro k h1 h2
    rcases (show k = 53 ∨ k = 54 ∨ k = 55 ∨ k = 56 ∨ k = 57 ∨ k = 58 ∨ k = 59 ∨ k = 60 ∨ k = 61 ∨ k = 62 ∨ k = 63 ∨ k = 64 ∨ k = 65 ∨ k = 66 ∨ k = 67 ∨ k = 68 ∨ k = 69 ∨ k = 70 ∨ k = 71 ∨ k = 72 ∨ k = 73 ∨ k = 74 ∨ k = 75 ∨ k = 76 ∨ k = 77 ∨ k = 78 ∨ k = 79 ∨ k = 80 ∨ k = 81 ∨ k = 82 ∨ k = 83 ∨ k = 84 ∨ k = 85 ∨ k = 86 ∨ k = 87 ∨ k = 88 ∨ k = 89 ∨ k = 90 ∨ k = 91 ∨ k = 92 ∨ k = 93 ∨ k = 94 ∨ k = 95 ∨ k = 96 ∨ k = 97 ∨ k = 98 ∨ k = 99 ∨ k = 100 ∨ k = 101 ∨ k = 102 ∨ k = 103 ∨ k = 104 ∨ k = 105 ∨ k = 106 ∨ k = 107 ∨ k = 108 ∨ k = 109 ∨ k = 110 ∨ k = 111 ∨ k = 112 ∨ k = 113 ∨ k = 114 ∨ k = 115 ∨ k = 116 ∨ k = 117 ∨ k = 118 ∨ k = 119 ∨ k = 120 ∨ k = 121 ∨ k = 122 ∨ k = 123 ∨ k = 124 ∨ k = 125 ∨ k = 126 ∨ k = 127 ∨ k = 128 ∨ k = 129 ∨ k = 130 ∨ k = 131 ∨ k = 132 by omega) with rfl | rfl | rfl | rfl | rfl | rfl | rfl | rfl | rfl | rfl | rfl | rfl | rfl | rfl | rfl | rfl | rfl | rfl | rfl | rfl | rfl | rfl | rfl | rfl | rfl | rfl | rfl | rfl | rfl | rfl | rfl | rfl | rfl | rfl | rfl | rfl | rfl | rfl | rfl | rfl | rfl | rfl | rfl | rfl | rfl | rfl | rfl | rfl | rfl | rfl | rfl | rfl | rfl | rfl | rfl | rfl | rfl | rfl | rfl | rfl | rfl | rfl | rfl | rfl | rfl | rfl | rfl | rfl | rfl | rfl | rfl | rfl | rfl | rfl | rfl | rfl | rfl | rfl | rfl | rfl
    · rfl
    · rfl
    · rfl
    · rfl
    · rfl
    · rfl
    · rfl
    · rfl
    · rfl
    · rfl
    · rfl
    · rfl
    · rfl
    · rfl
    · rfl
    · rfl
    · rfl
    · rfl
    · rfl
    · rfl
    · rfl
    · rfl
    · rfl
    · rfl
    · rfl
    · rfl
    · refine qa_cg (fun i => ?_)
      by_cases hi : i < 8
      · rw [if_pos hi, if_pos hi]
        congr 1
        omega
      · rw [if_neg hi, if_neg hi]
    · rfl
    · rfl
    · rfl
    · rfl
    · rfl
    · rfl
    · rfl
    · rfl
    · refine qa_cg (fun i => ?_)
      by_cases hi : i < 4
      · rcases (show i = 0 ∨ i = 1 ∨ i = 2 ∨ i = 3 by omega) with rfl | rfl | rfl | rfl <;> rfl
      · rw [vu_n (by omega), vu_n (by omega), vu_n (by omega), vu_n (by omega), if_neg hi]
    · rfl
    · rfl
    · rfl
    · rfl
    · rfl
    · rfl
    · rfl
    · rfl
    · rfl
    · rfl
    · rfl
    · rfl
    · rfl
    · rfl
    · rfl
    · rfl
    · rfl
    · rfl
    · rfl
    · rfl
    · rfl
    · rfl
    · rfl
    · rfl
    · rfl
    · rfl
    · rfl
    · rfl
    · rfl
    · rfl
    · rfl
    · rfl
    · rfl
    · rfl
    · rfl
    · rfl
    · rfl
    · rfl
    · rfl
    · rfl
    · rfl
    · rfl
    · rfl
    · rfl
  refine gm_vret hx hb hr hlk X ⟨_, rfl, fun r hr => ?_, fun p hp => ?_, ⟨g_on hf, φ gXn, φ gYn, 1, ?_, ?_, Rp.1, ?_⟩, ⟨mvP_v, Rp.1, Rp.2, mv1_v⟩, ⟨mvN_v, Rn.1, Rn.2, mv1_v⟩, ?_⟩ d_Mdl_init_485
  · rcases (show r = 0 ∨ r = 1 ∨ r = 2 ∨ r = 3 ∨ r = 4 ∨ r = 5 ∨ r = 6 ∨ r = 7 by omega) with rfl | rfl | rfl | rfl | rfl | rfl | rfl | rfl <;> rfl
  · rcases (show p = 0 ∨ p = 1 ∨ p = 2 ∨ p = 3 by omega) with rfl | rfl | rfl | rfl <;> rfl
  · rw [mgX_v] at E1; exact E1
  · rw [mgY_v] at E2; exact E2
  · exact ⟨hk.1.2.2.1, by show φ gXn = φ gXn * (1 * 1); grind, by show φ gYn = φ gYn * (1 * 1 * 1); grind⟩
  · rw [mv7_v, show ((7 : Nat) : Int) = 7 from rfl, ph7 hf.1] at E0; exact E0
