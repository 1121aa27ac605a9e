/-! PointBench's constructor: written by wip/gen/ctor2.py -/
theorem ow_p2 {B lo : Nat} {N : gm_M} {n : Nat} {g : Nat → va_E} {e0 e1 : va_E} (hk : lo ≤ n) : gm_up (gm_up (oW B lo N n g) (B + n) e0) (B + n + 1) e1 = oW B lo N (n + 2) (va_up (va_up g n e0) (n + 1) e1) := by
  rw [ow_push hk, show B + n + 1 = B + (n + 1) from Nat.add_assoc _ _ _, ow_push (n := n + 1) (by omega)]
theorem ow_p3 {B lo : Nat} {N : gm_M} {n : Nat} {g : Nat → va_E} {e0 e1 e2 : va_E} (hk : lo ≤ n) : gm_up (gm_up (gm_up (oW B lo N n g) (B + n) e0) (B + n + 1) e1) (B + n + 2) e2 = oW B lo N (n + 3) (va_up (va_up (va_up g n e0) (n + 1) e1) (n + 2) e2) := by
  rw [ow_push hk, show B + n + 1 = B + (n + 1) from Nat.add_assoc _ _ _, ow_push (n := n + 1) (by omega), show B + n + 2 = B + (n + 2) from Nat.add_assoc _ _ _, ow_push (n := n + 2) (by omega)]
theorem ow_p4 {B lo : Nat} {N : gm_M} {n : Nat} {g : Nat → va_E} {e0 e1 e2 e3 : va_E} (hk : lo ≤ n) : gm_up (gm_up (gm_up (gm_up (oW B lo N n g) (B + n) e0) (B + n + 1) e1) (B + n + 2) e2) (B + n + 3) e3 = oW B lo N (n + 4) (va_up (va_up (va_up (va_up g n e0) (n + 1) e1) (n + 2) e2) (n + 3) e3) := by
  rw [ow_push hk, show B + n + 1 = B + (n + 1) from Nat.add_assoc _ _ _, ow_push (n := n + 1) (by omega), show B + n + 2 = B + (n + 2) from Nat.add_assoc _ _ _, ow_push (n := n + 2) (by omega), show B + n + 3 = B + (n + 3) from Nat.add_assoc _ _ _, ow_push (n := n + 3) (by omega)]
theorem ow_p7 {B lo : Nat} {N : gm_M} {n : Nat} {g : Nat → va_E} {e0 e1 e2 e3 e4 e5 e6 : va_E} (hk : lo ≤ n) : gm_up (gm_up (gm_up (gm_up (gm_up (gm_up (gm_up (oW B lo N n g) (B + n) e0) (B + n + 1) e1) (B + n + 2) e2) (B + n + 3) e3) (B + n + 4) e4) (B + n + 5) e5) (B + n + 6) e6 = oW B lo N (n + 7) (va_up (va_up (va_up (va_up (va_up (va_up (va_up g n e0) (n + 1) e1) (n + 2) e2) (n + 3) e3) (n + 4) e4) (n + 5) e5) (n + 6) e6) := by
  rw [ow_push hk, show B + n + 1 = B + (n + 1) from Nat.add_assoc _ _ _, ow_push (n := n + 1) (by omega), show B + n + 2 = B + (n + 2) from Nat.add_assoc _ _ _, ow_push (n := n + 2) (by omega), show B + n + 3 = B + (n + 3) from Nat.add_assoc _ _ _, ow_push (n := n + 3) (by omega), show B + n + 4 = B + (n + 4) from Nat.add_assoc _ _ _, ow_push (n := n + 4) (by omega), show B + n + 5 = B + (n + 5) from Nat.add_assoc _ _ _, ow_push (n := n + 5) (by omega), show B + n + 6 = B + (n + 6) from Nat.add_assoc _ _ _, ow_push (n := n + 6) (by omega)]
theorem ow_p8 {B lo : Nat} {N : gm_M} {n : Nat} {g : Nat → va_E} {e0 e1 e2 e3 e4 e5 e6 e7 : va_E} (hk : lo ≤ n) : gm_up (gm_up (gm_up (gm_up (gm_up (gm_up (gm_up (gm_up (oW B lo N n g) (B + n) e0) (B + n + 1) e1) (B + n + 2) e2) (B + n + 3) e3) (B + n + 4) e4) (B + n + 5) e5) (B + n + 6) e6) (B + n + 7) e7 = oW B lo N (n + 8) (va_up (va_up (va_up (va_up (va_up (va_up (va_up (va_up g n e0) (n + 1) e1) (n + 2) e2) (n + 3) e3) (n + 4) e4) (n + 5) e5) (n + 6) e6) (n + 7) e7) := by
  rw [ow_push hk, show B + n + 1 = B + (n + 1) from Nat.add_assoc _ _ _, ow_push (n := n + 1) (by omega), show B + n + 2 = B + (n + 2) from Nat.add_assoc _ _ _, ow_push (n := n + 2) (by omega), show B + n + 3 = B + (n + 3) from Nat.add_assoc _ _ _, ow_push (n := n + 3) (by omega), show B + n + 4 = B + (n + 4) from Nat.add_assoc _ _ _, ow_push (n := n + 4) (by omega), show B + n + 5 = B + (n + 5) from Nat.add_assoc _ _ _, ow_push (n := n + 5) (by omega), show B + n + 6 = B + (n + 6) from Nat.add_assoc _ _ _, ow_push (n := n + 6) (by omega), show B + n + 7 = B + (n + 7) from Nat.add_assoc _ _ _, ow_push (n := n + 7) (by omega)]
theorem ow_cw {E : gm_E} {ad : Nat → Nat} {N : gm_M} {ρ : Nat → Nat → Int64} {fl : Nat → Int32} {g : Nat → va_E} (h : ∀ k, k < 53 → some (g k) = lay E ad ρ fl k) : oW E.2.1 0 N 53 g = cW E ad N ρ fl := by
  funext x
  rw [oW, cW]
  by_cases hx : E.2.1 ≤ x ∧ x < E.2.1 + 53
  · rw [if_pos (by omega), if_pos hx, h _ (by omega)]
  · rw [if_neg (by omega), if_neg hx]
theorem qa_cg {E : gm_E} {j n : Nat} {f g : Nat → Option Nat} (h : ∀ i, f i = g i) : some (QA E j n f) = some (QA E j n g) := by
  rw [show f = g from funext h]
set_option maxHeartbeats 8000000 in
theorem z_Ben_init (l : Launch) (E : gm_E) (N : gm_M) {F : Type} [Lean.Grind.CommRing F] {φ : Int → F} {inv : F → F} (hk : fk φ inv) {ad : Nat → Nat} (hg : gE E ad) : cz_ l y_Ben_init b_Ben_init 2 { frames := 2, cells := 52, slots := 428, locals := 37 } E (oW E.2.1 0 N 1 (fun _ => OB 3 [.null, .null, .null, .null, .null, .null, .null, .null, .null, .null, .null, .null])) (E.2.1 + 1) [.ref (E.2.1 + 0)] (fun M' => ∃ ρ fl, M' = cW E ad N ρ fl ∧ (∀ r, r < 8 → ρ (2 + r) = fun _ => 0) ∧ (∀ p, p < 4 → fl (41 + 3 * p) = 1) ∧ ptR φ ρ fl 21 (some (φ gXn, φ gYn))) := by
  refine gm_metZ (by decide) (Nat.le_of_ble_eq_true rfl) (fun p e s m below meth c ls hx hb hml hr hlk hnm hown hW X hz hl => ?_)
  have h0 := hz
  have hl : lv_has ls 2 [(0, .ref (E.2.1 + 0))] := hl
  refine lv_aload_n hx hb d_Ben_init_0 rfl (lv_at hl 0 rfl) ?_
  refine gm_obj hx hb hml hW hown wl_Ben_3 hl.1 (Nat.le_of_ble_eq_true rfl) (Nat.le_of_ble_eq_true rfl) d_Ben_init_1 ?_
  refine lv_aload_n hx hb d_Ben_init_4 rfl (lv_at hl 0 rfl) ?_
  refine lv_bipush (v := 8) hx hb d_Ben_init_5 (by decide) ?_
  refine lv_iconst (v := 4) hx hb d_Ben_init_7 (by decide) ?_
  refine gm_mnl hx hb hW hown X hz wcl_Ben_9 ⟨Nat.le_of_ble_eq_true rfl, Nat.le_of_ble_eq_true rfl⟩ d_Ben_init_8 (fun H hz X => ?_)
  rw [ow_push (by decide), ow_mu rfl (by decide)] at X
  have hz : H.size = E.2.1 + 10 := hz
  refine gm_putF hx hb hW hown X u_Ben t_Ben t_Ben_ok n_Ben (fs := [.null, .null, .null, .null, .null, .null, .null, .null, .null, .null, .null, .null]) (ow_at (k := 0) ⟨by decide, by decide⟩ rfl) (cw_ge _) rfl 0 (by decide) wf_Ben_11 rfl hnm rfl (ty := .array (.array .long)) (v := .ref (E.2.1 + 1)) (by decide) rfl rfl (Nat.le_of_ble_eq_true rfl) d_Ben_init_12 (fun H locs hz1 X => ?_)
  have hz := hz1.trans hz
  rw [ow_up ⟨by decide, by decide⟩] at X
  refine lv_aload_n hx hb d_Ben_init_15 rfl (lv_at hl 0 rfl) ?_
  refine lv_iconst (v := 4) hx hb d_Ben_init_16 (by decide) ?_
  refine gm_anew hx hb hW hown X hz (j := 2) rfl wcl_Ben_14 X.1.2.2.2.2.2.2.1.1 (N := 4) (by decide) (by decide) (by decide) ⟨Nat.le_of_ble_eq_true rfl, Nat.le_of_ble_eq_true rfl⟩ d_Ben_init_17 (fun H hz X => ?_)
  rw [ow_push (by decide)] at X
  have hz : H.size = E.2.1 + 11 := hz
  refine gm_putF hx hb hW hown X u_Ben t_Ben t_Ben_ok n_Ben (fs := [.ref (E.2.1 + 1), .null, .null, .null, .null, .null, .null, .null, .null, .null, .null, .null]) (ow_at (k := 0) ⟨by decide, by decide⟩ rfl) (cw_ge _) rfl 1 (by decide) wf_Ben_16 rfl hnm rfl (ty := .array (.object "PointBench$Point")) (v := .ref (E.2.1 + 10)) (by decide) rfl rfl (Nat.le_of_ble_eq_true rfl) d_Ben_init_20 (fun H locs hz1 X => ?_)
  have hz := hz1.trans hz
  rw [ow_up ⟨by decide, by decide⟩] at X
  refine lv_aload_n hx hb d_Ben_init_23 rfl (lv_at hl 0 rfl) ?_
  refine gm_new (ci := 0) hx hb hW hown X hz u_Mod t_Mod t_Mod_ok rfl wcl_Ben_20 winst_Mod winit_Mod (fs := [.null, .null, .null, .null, .int 0, .null, .null, .null, .null]) (fun j hj => by rcases (show j = 0 ∨ j = 1 ∨ j = 2 ∨ j = 3 ∨ j = 4 ∨ j = 5 ∨ j = 6 ∨ j = 7 ∨ j = 8 by omega) with rfl | rfl | rfl | rfl | rfl | rfl | rfl | rfl | rfl <;> rfl) ⟨Nat.le_of_ble_eq_true rfl, Nat.le_of_ble_eq_true rfl⟩ d_Ben_init_24 (fun H hz X => ?_)
  rw [ow_push (by decide)] at X
  have hz : H.size = E.2.1 + 12 := hz
  refine lv_dup hx hb d_Ben_init_27 rfl ?_
  refine gm_gets hx hb hW hown X hg.2.1.1 wf_Ben_22 d_Ben_init_28 ?_
  refine gm_gets hx hb hW hown X hg.2.2.1.1 wf_Ben_26 d_Ben_init_31 ?_
  refine gm_gets hx hb hW hown X hg.2.2.2.2.2.2.2.2.1.1 wf_Ben_29 d_Ben_init_34 ?_
  refine gm_gets hx hb hW hown X hg.2.2.2.2.2.2.2.2.2.1.1 wf_Ben_32 d_Ben_init_37 ?_
  refine lv_iconst (v := 0) hx hb d_Ben_init_40 (by decide) ?_
  refine gm_Iv hx hb hml hown hW X hz (z_Mod_init l E _ (Or.inl rfl) (ow_at (k := 11) ⟨by decide, by decide⟩ rfl) (cw_ge _) (by omega)) (n := 5) ⟨⟨wl_Ben_35, wi_Mod_init, winit_Mod, wc_Mod_init, rfl⟩, by decide +kernel, Nat.le_of_ble_eq_true rfl, Nat.le_of_ble_eq_true rfl⟩ rfl hl.1 rfl (Nat.le_of_ble_eq_true rfl) d_Ben_init_41 ⟨Nat.le_of_ble_eq_true rfl, Nat.le_of_ble_eq_true rfl⟩ (fun M1 H locs hp X => ?_)
  rw [hp, ow_p4 (by decide), ow_up ⟨by decide, by decide⟩] at X
  refine gm_hz (b := E.2.1 + 15) X h0 (ow_at (k := 15) ⟨by decide, by decide⟩ rfl) (by first | (dsimp only; done) | (dsimp only; omega) | omega) (fun hz => ?_)
  have hz : H.size = E.2.1 + 16 := hz
  refine gm_putF hx hb hW hown X u_Ben t_Ben t_Ben_ok n_Ben (fs := [.ref (E.2.1 + 1), .ref (E.2.1 + 10), .null, .null, .null, .null, .null, .null, .null, .null, .null, .null]) (ow_at (k := 0) ⟨by decide, by decide⟩ rfl) (cw_ge _) rfl 2 (by decide) wf_Ben_38 rfl hnm rfl (ty := .object "PointBench$Modulus") (v := .ref (E.2.1 + 11)) (by decide) rfl rfl (Nat.le_of_ble_eq_true rfl) d_Ben_init_44 (fun H locs hz1 X => ?_)
  have hz := hz1.trans hz
  rw [ow_up ⟨by decide, by decide⟩] at X
  refine lv_aload_n hx hb d_Ben_init_47 rfl (lv_at hl 0 rfl) ?_
  refine gm_new (ci := 0) hx hb hW hown X hz u_Mod t_Mod t_Mod_ok rfl wcl_Ben_20 winst_Mod winit_Mod (fs := [.null, .null, .null, .null, .int 0, .null, .null, .null, .null]) (fun j hj => by rcases (show j = 0 ∨ j = 1 ∨ j = 2 ∨ j = 3 ∨ j = 4 ∨ j = 5 ∨ j = 6 ∨ j = 7 ∨ j = 8 by omega) with rfl | rfl | rfl | rfl | rfl | rfl | rfl | rfl | rfl <;> rfl) ⟨Nat.le_of_ble_eq_true rfl, Nat.le_of_ble_eq_true rfl⟩ d_Ben_init_48 (fun H hz X => ?_)
  rw [ow_push (by decide)] at X
  have hz : H.size = E.2.1 + 17 := hz
  refine lv_dup hx hb d_Ben_init_51 rfl ?_
  refine gm_gets hx hb hW hown X hg.2.2.2.2.1.1 wf_Ben_42 d_Ben_init_52 ?_
  refine gm_gets hx hb hW hown X hg.2.2.2.2.2.1.1 wf_Ben_45 d_Ben_init_55 ?_
  refine gm_gets hx hb hW hown X hg.2.2.2.2.2.2.2.2.2.2.1.1 wf_Ben_48 d_Ben_init_58 ?_
  refine gm_gets hx hb hW hown X hg.2.2.2.2.2.2.2.2.2.2.2.1 wf_Ben_51 d_Ben_init_61 ?_
  refine lv_iconst (v := 1) hx hb d_Ben_init_64 (by decide) ?_
  refine gm_Iv hx hb hml hown hW X hz (z_Mod_init l E _ (Or.inr rfl) (ow_at (k := 16) ⟨by decide, by decide⟩ rfl) (cw_ge _) (by omega)) (n := 5) ⟨⟨wl_Ben_35, wi_Mod_init, winit_Mod, wc_Mod_init, rfl⟩, by decide +kernel, Nat.le_of_ble_eq_true rfl, Nat.le_of_ble_eq_true rfl⟩ rfl hl.1 rfl (Nat.le_of_ble_eq_true rfl) d_Ben_init_65 ⟨Nat.le_of_ble_eq_true rfl, Nat.le_of_ble_eq_true rfl⟩ (fun M1 H locs hp X => ?_)
  rw [hp, ow_p4 (by decide), ow_up ⟨by decide, by decide⟩] at X
  refine gm_hz (b := E.2.1 + 20) X h0 (ow_at (k := 20) ⟨by decide, by decide⟩ rfl) (by first | (dsimp only; done) | (dsimp only; omega) | omega) (fun hz => ?_)
  have hz : H.size = E.2.1 + 21 := hz
  refine gm_putF hx hb hW hown X u_Ben t_Ben t_Ben_ok n_Ben (fs := [.ref (E.2.1 + 1), .ref (E.2.1 + 10), .ref (E.2.1 + 11), .null, .null, .null, .null, .null, .null, .null, .null, .null]) (ow_at (k := 0) ⟨by decide, by decide⟩ rfl) (cw_ge _) rfl 3 (by decide) wf_Ben_54 rfl hnm rfl (ty := .object "PointBench$Modulus") (v := .ref (E.2.1 + 16)) (by decide) rfl rfl (Nat.le_of_ble_eq_true rfl) d_Ben_init_68 (fun H locs hz1 X => ?_)
  have hz := hz1.trans hz
  rw [ow_up ⟨by decide, by decide⟩] at X
  refine lv_aload_n hx hb d_Ben_init_71 rfl (lv_at hl 0 rfl) ?_
  refine gm_new (ci := 1) hx hb hW hown X hz u_Pnt t_Pnt t_Pnt_ok rfl wcl_Ben_14 winst_Pnt winit_Pnt (fs := [.null, .null, .int 0]) (fun j hj => by rcases (show j = 0 ∨ j = 1 ∨ j = 2 by omega) with rfl | rfl | rfl <;> rfl) ⟨Nat.le_of_ble_eq_true rfl, Nat.le_of_ble_eq_true rfl⟩ d_Ben_init_72 (fun H hz X => ?_)
  rw [ow_push (by decide)] at X
  have hz : H.size = E.2.1 + 22 := hz
  refine lv_dup hx hb d_Ben_init_75 rfl ?_
  refine gm_INv hx hb hml hown hW X hz (z_Pnt_init l E _ (ow_at (k := 21) ⟨by decide, by decide⟩ rfl) (cw_ge _) (by omega)) (n := 0) ⟨⟨wln_Ben_57, wi_Pnt_init, winit_Pnt, wc_Pnt_init, rfl⟩, by decide +kernel, Nat.le_of_ble_eq_true rfl, Nat.le_of_ble_eq_true rfl⟩ rfl hl.1 rfl (Nat.le_of_ble_eq_true rfl) d_Ben_init_76 ⟨Nat.le_of_ble_eq_true rfl, Nat.le_of_ble_eq_true rfl⟩ (fun M1 H locs hp X => ?_)
  rw [hp, ow_p2 (by decide), ow_up ⟨by decide, by decide⟩] at X
  refine gm_hz (b := E.2.1 + 23) X h0 (ow_at (k := 23) ⟨by decide, by decide⟩ rfl) (by first | (dsimp only; done) | (dsimp only; omega) | omega) (fun hz => ?_)
  have hz : H.size = E.2.1 + 24 := hz
  refine gm_putF hx hb hW hown X u_Ben t_Ben t_Ben_ok n_Ben (fs := [.ref (E.2.1 + 1), .ref (E.2.1 + 10), .ref (E.2.1 + 11), .ref (E.2.1 + 16), .null, .null, .null, .null, .null, .null, .null, .null]) (ow_at (k := 0) ⟨by decide, by decide⟩ rfl) (cw_ge _) rfl 4 (by decide) wf_Ben_58 rfl hnm rfl (ty := .object "PointBench$Point") (v := .ref (E.2.1 + 21)) (by decide) rfl rfl (Nat.le_of_ble_eq_true rfl) d_Ben_init_79 (fun H locs hz1 X => ?_)
  have hz := hz1.trans hz
  rw [ow_up ⟨by decide, by decide⟩] at X
  refine lv_aload_n hx hb d_Ben_init_82 rfl (lv_at hl 0 rfl) ?_
  refine gm_new (ci := 2) hx hb hW hown X hz u_Sum t_Sum t_Sum_ok rfl wcl_Ben_62 winst_Sum winit_Sum (fs := [.null, .int 0, .null, .null, .null, .null, .null, .null, .null, .null]) (fun j hj => by rcases (show j = 0 ∨ j = 1 ∨ j = 2 ∨ j = 3 ∨ j = 4 ∨ j = 5 ∨ j = 6 ∨ j = 7 ∨ j = 8 ∨ j = 9 by omega) with rfl | rfl | rfl | rfl | rfl | rfl | rfl | rfl | rfl | rfl <;> rfl) ⟨Nat.le_of_ble_eq_true rfl, Nat.le_of_ble_eq_true rfl⟩ d_Ben_init_83 (fun H hz X => ?_)
  rw [ow_push (by decide)] at X
  have hz : H.size = E.2.1 + 25 := hz
  refine lv_dup hx hb d_Ben_init_86 rfl ?_
  refine lv_aload_n hx hb d_Ben_init_87 rfl (lv_at hl 0 rfl) ?_
  refine gm_get hx hb hW hown X u_Ben (fs := [.ref (E.2.1 + 1), .ref (E.2.1 + 10), .ref (E.2.1 + 11), .ref (E.2.1 + 16), .ref (E.2.1 + 21), .null, .null, .null, .null, .null, .null, .null]) (ow_at (k := 0) ⟨by decide, by decide⟩ rfl) rfl 2 (by decide) wf_Ben_38 (v := .ref (E.2.1 + 11)) rfl d_Ben_init_88 ?_
  refine gm_Iv hx hb hml hown hW X hz (z_Sum_init l E _ (ow_at (k := 24) ⟨by decide, by decide⟩ rfl) (cw_ge _) (by omega)) (n := 1) ⟨⟨wl_Ben_64, wi_Sum_init, winit_Sum, wc_Sum_init, rfl⟩, by decide +kernel, Nat.le_of_ble_eq_true rfl, Nat.le_of_ble_eq_true rfl⟩ rfl hl.1 rfl (Nat.le_of_ble_eq_true rfl) d_Ben_init_91 ⟨Nat.le_of_ble_eq_true rfl, Nat.le_of_ble_eq_true rfl⟩ (fun M1 H locs hp X => ?_)
  rw [hp, ow_p8 (by decide), ow_up ⟨by decide, by decide⟩] at X
  refine gm_hz (b := E.2.1 + 32) X h0 (ow_at (k := 32) ⟨by decide, by decide⟩ rfl) (by first | (dsimp only; done) | (dsimp only; omega) | omega) (fun hz => ?_)
  have hz : H.size = E.2.1 + 33 := hz
  refine gm_putF hx hb hW hown X u_Ben t_Ben t_Ben_ok n_Ben (fs := [.ref (E.2.1 + 1), .ref (E.2.1 + 10), .ref (E.2.1 + 11), .ref (E.2.1 + 16), .ref (E.2.1 + 21), .null, .null, .null, .null, .null, .null, .null]) (ow_at (k := 0) ⟨by decide, by decide⟩ rfl) (cw_ge _) rfl 5 (by decide) wf_Ben_67 rfl hnm rfl (ty := .object "PointBench$RunningSum") (v := .ref (E.2.1 + 24)) (by decide) rfl rfl (Nat.le_of_ble_eq_true rfl) d_Ben_init_94 (fun H locs hz1 X => ?_)
  have hz := hz1.trans hz
  rw [ow_up ⟨by decide, by decide⟩] at X
  refine lv_aload_n hx hb d_Ben_init_97 rfl (lv_at hl 0 rfl) ?_
  refine gm_new (ci := 1) hx hb hW hown X hz u_Pnt t_Pnt t_Pnt_ok rfl wcl_Ben_14 winst_Pnt winit_Pnt (fs := [.null, .null, .int 0]) (fun j hj => by rcases (show j = 0 ∨ j = 1 ∨ j = 2 by omega) with rfl | rfl | rfl <;> rfl) ⟨Nat.le_of_ble_eq_true rfl, Nat.le_of_ble_eq_true rfl⟩ d_Ben_init_98 (fun H hz X => ?_)
  rw [ow_push (by decide)] at X
  have hz : H.size = E.2.1 + 34 := hz
  refine lv_dup hx hb d_Ben_init_101 rfl ?_
  refine gm_INv hx hb hml hown hW X hz (z_Pnt_init l E _ (ow_at (k := 33) ⟨by decide, by decide⟩ rfl) (cw_ge _) (by omega)) (n := 0) ⟨⟨wln_Ben_57, wi_Pnt_init, winit_Pnt, wc_Pnt_init, rfl⟩, by decide +kernel, Nat.le_of_ble_eq_true rfl, Nat.le_of_ble_eq_true rfl⟩ rfl hl.1 rfl (Nat.le_of_ble_eq_true rfl) d_Ben_init_102 ⟨Nat.le_of_ble_eq_true rfl, Nat.le_of_ble_eq_true rfl⟩ (fun M1 H locs hp X => ?_)
  rw [hp, ow_p2 (by decide), ow_up ⟨by decide, by decide⟩] at X
  refine gm_hz (b := E.2.1 + 35) X h0 (ow_at (k := 35) ⟨by decide, by decide⟩ rfl) (by first | (dsimp only; done) | (dsimp only; omega) | omega) (fun hz => ?_)
  have hz : H.size = E.2.1 + 36 := hz
  refine gm_putF hx hb hW hown X u_Ben t_Ben t_Ben_ok n_Ben (fs := [.ref (E.2.1 + 1), .ref (E.2.1 + 10), .ref (E.2.1 + 11), .ref (E.2.1 + 16), .ref (E.2.1 + 21), .ref (E.2.1 + 24), .null, .null, .null, .null, .null, .null]) (ow_at (k := 0) ⟨by decide, by decide⟩ rfl) (cw_ge _) rfl 6 (by decide) wf_Ben_71 rfl hnm rfl (ty := .object "PointBench$Point") (v := .ref (E.2.1 + 33)) (by decide) rfl rfl (Nat.le_of_ble_eq_true rfl) d_Ben_init_105 (fun H locs hz1 X => ?_)
  have hz := hz1.trans hz
  rw [ow_up ⟨by decide, by decide⟩] at X
  refine lv_aload_n hx hb d_Ben_init_108 rfl (lv_at hl 0 rfl) ?_
  refine lv_bipush (v := 10) hx hb d_Ben_init_109 (by decide) ?_
  refine gm_newl hx hb hW X hz (N := 10) (by decide) (by decide) (by decide) ⟨Nat.le_of_ble_eq_true rfl, Nat.le_of_ble_eq_true rfl⟩ d_Ben_init_111 (fun H hz X => ?_)
  rw [ow_push (by decide)] at X
  have hz : H.size = E.2.1 + 37 := hz
  refine gm_putF hx hb hW hown X u_Ben t_Ben t_Ben_ok n_Ben (fs := [.ref (E.2.1 + 1), .ref (E.2.1 + 10), .ref (E.2.1 + 11), .ref (E.2.1 + 16), .ref (E.2.1 + 21), .ref (E.2.1 + 24), .ref (E.2.1 + 33), .null, .null, .null, .null, .null]) (ow_at (k := 0) ⟨by decide, by decide⟩ rfl) (cw_ge _) rfl 7 (by decide) wf_Ben_74 rfl hnm rfl (ty := .array .long) (v := .ref (E.2.1 + 36)) (by decide) rfl rfl (Nat.le_of_ble_eq_true rfl) d_Ben_init_113 (fun H locs hz1 X => ?_)
  have hz := hz1.trans hz
  rw [ow_up ⟨by decide, by decide⟩] at X
  refine lv_aload_n hx hb d_Ben_init_116 rfl (lv_at hl 0 rfl) ?_
  refine lv_bipush (v := 10) hx hb d_Ben_init_117 (by decide) ?_
  refine gm_newl hx hb hW X hz (N := 10) (by decide) (by decide) (by decide) ⟨Nat.le_of_ble_eq_true rfl, Nat.le_of_ble_eq_true rfl⟩ d_Ben_init_119 (fun H hz X => ?_)
  rw [ow_push (by decide)] at X
  have hz : H.size = E.2.1 + 38 := hz
  refine gm_putF hx hb hW hown X u_Ben t_Ben t_Ben_ok n_Ben (fs := [.ref (E.2.1 + 1), .ref (E.2.1 + 10), .ref (E.2.1 + 11), .ref (E.2.1 + 16), .ref (E.2.1 + 21), .ref (E.2.1 + 24), .ref (E.2.1 + 33), .ref (E.2.1 + 36), .null, .null, .null, .null]) (ow_at (k := 0) ⟨by decide, by decide⟩ rfl) (cw_ge _) rfl 8 (by decide) wf_Ben_77 rfl hnm rfl (ty := .array .long) (v := .ref (E.2.1 + 37)) (by decide) rfl rfl (Nat.le_of_ble_eq_true rfl) d_Ben_init_121 (fun H locs hz1 X => ?_)
  have hz := hz1.trans hz
  rw [ow_up ⟨by decide, by decide⟩] at X
  refine lv_aload_n hx hb d_Ben_init_124 rfl (lv_at hl 0 rfl) ?_
  refine lv_bipush (v := 10) hx hb d_Ben_init_125 (by decide) ?_
  refine gm_newl hx hb hW X hz (N := 10) (by decide) (by decide) (by decide) ⟨Nat.le_of_ble_eq_true rfl, Nat.le_of_ble_eq_true rfl⟩ d_Ben_init_127 (fun H hz X => ?_)
  rw [ow_push (by decide)] at X
  have hz : H.size = E.2.1 + 39 := hz
  refine gm_putF hx hb hW hown X u_Ben t_Ben t_Ben_ok n_Ben (fs := [.ref (E.2.1 + 1), .ref (E.2.1 + 10), .ref (E.2.1 + 11), .ref (E.2.1 + 16), .ref (E.2.1 + 21), .ref (E.2.1 + 24), .ref (E.2.1 + 33), .ref (E.2.1 + 36), .ref (E.2.1 + 37), .null, .null, .null]) (ow_at (k := 0) ⟨by decide, by decide⟩ rfl) (cw_ge _) rfl 9 (by decide) wf_Ben_80 rfl hnm rfl (ty := .array .long) (v := .ref (E.2.1 + 38)) (by decide) rfl rfl (Nat.le_of_ble_eq_true rfl) d_Ben_init_129 (fun H locs hz1 X => ?_)
  have hz := hz1.trans hz
  rw [ow_up ⟨by decide, by decide⟩] at X
  refine lv_aload_n hx hb d_Ben_init_132 rfl (lv_at hl 0 rfl) ?_
  refine lv_iconst (v := 4) hx hb d_Ben_init_133 (by decide) ?_
  refine gm_newl hx hb hW X hz (N := 4) (by decide) (by decide) (by decide) ⟨Nat.le_of_ble_eq_true rfl, Nat.le_of_ble_eq_true rfl⟩ d_Ben_init_134 (fun H hz X => ?_)
  rw [ow_push (by decide)] at X
  have hz : H.size = E.2.1 + 40 := hz
  refine gm_putF hx hb hW hown X u_Ben t_Ben t_Ben_ok n_Ben (fs := [.ref (E.2.1 + 1), .ref (E.2.1 + 10), .ref (E.2.1 + 11), .ref (E.2.1 + 16), .ref (E.2.1 + 21), .ref (E.2.1 + 24), .ref (E.2.1 + 33), .ref (E.2.1 + 36), .ref (E.2.1 + 37), .ref (E.2.1 + 38), .null, .null]) (ow_at (k := 0) ⟨by decide, by decide⟩ rfl) (cw_ge _) rfl 10 (by decide) wf_Ben_83 rfl hnm rfl (ty := .array .long) (v := .ref (E.2.1 + 39)) (by decide) rfl rfl (Nat.le_of_ble_eq_true rfl) d_Ben_init_136 (fun H locs hz1 X => ?_)
  have hz := hz1.trans hz
  rw [ow_up ⟨by decide, by decide⟩] at X
  refine lv_aload_n hx hb d_Ben_init_139 rfl (lv_at hl 0 rfl) ?_
  refine lv_iconst (v := 4) hx hb d_Ben_init_140 (by decide) ?_
  refine gm_newl hx hb hW X hz (N := 4) (by decide) (by decide) (by decide) ⟨Nat.le_of_ble_eq_true rfl, Nat.le_of_ble_eq_true rfl⟩ d_Ben_init_141 (fun H hz X => ?_)
  rw [ow_push (by decide)] at X
  have hz : H.size = E.2.1 + 41 := hz
  refine gm_putF hx hb hW hown X u_Ben t_Ben t_Ben_ok n_Ben (fs := [.ref (E.2.1 + 1), .ref (E.2.1 + 10), .ref (E.2.1 + 11), .ref (E.2.1 + 16), .ref (E.2.1 + 21), .ref (E.2.1 + 24), .ref (E.2.1 + 33), .ref (E.2.1 + 36), .ref (E.2.1 + 37), .ref (E.2.1 + 38), .ref (E.2.1 + 39), .null]) (ow_at (k := 0) ⟨by decide, by decide⟩ rfl) (cw_ge _) rfl 11 (by decide) wf_Ben_86 rfl hnm rfl (ty := .array .long) (v := .ref (E.2.1 + 40)) (by decide) rfl rfl (Nat.le_of_ble_eq_true rfl) d_Ben_init_143 (fun H locs hz1 X => ?_)
  have hz := hz1.trans hz
  rw [ow_up ⟨by decide, by decide⟩] at X
  refine lv_iconst (v := 0) hx hb d_Ben_init_146 (by decide) ?_
  refine lv_istore_n (lv' := [(1, .int 0), (0, .ref (E.2.1 + 0))]) hx hb d_Ben_init_147 rfl hl (by decide) rfl (fun ls hl => ?_)
  refine lv_iload_n hx hb d_Ben_init_148 rfl (lv_at hl 0 rfl) ?_
  refine lv_iconst (v := 4) hx hb d_Ben_init_149 (by decide) ?_
  refine lv_icmp_ge (tgt := 172) hx hb d_Ben_init_150 (by decide) (fun c9 => absurd c9 (by decide)) (fun _ => ?_)
  refine lv_aload_n hx hb d_Ben_init_153 rfl (lv_at hl 1 rfl) ?_
  refine gm_get hx hb hW hown X u_Ben (fs := [.ref (E.2.1 + 1), .ref (E.2.1 + 10), .ref (E.2.1 + 11), .ref (E.2.1 + 16), .ref (E.2.1 + 21), .ref (E.2.1 + 24), .ref (E.2.1 + 33), .ref (E.2.1 + 36), .ref (E.2.1 + 37), .ref (E.2.1 + 38), .ref (E.2.1 + 39), .ref (E.2.1 + 40)]) (ow_at (k := 0) ⟨by decide, by decide⟩ rfl) rfl 1 (by decide) wf_Ben_16 (v := .ref (E.2.1 + 10)) rfl d_Ben_init_154 ?_
  refine lv_iload_n hx hb d_Ben_init_157 rfl (lv_at hl 0 rfl) ?_
  refine gm_new (ci := 1) hx hb hW hown X hz u_Pnt t_Pnt t_Pnt_ok rfl wcl_Ben_14 winst_Pnt winit_Pnt (fs := [.null, .null, .int 0]) (fun j hj => by rcases (show j = 0 ∨ j = 1 ∨ j = 2 by omega) with rfl | rfl | rfl <;> rfl) ⟨Nat.le_of_ble_eq_true rfl, Nat.le_of_ble_eq_true rfl⟩ d_Ben_init_158 (fun H hz X => ?_)
  rw [ow_push (by decide)] at X
  have hz : H.size = E.2.1 + 42 := hz
  refine lv_dup hx hb d_Ben_init_161 rfl ?_
  refine gm_INv hx hb hml hown hW X hz (z_Pnt_init l E _ (ow_at (k := 41) ⟨by decide, by decide⟩ rfl) (cw_ge _) (by omega)) (n := 0) ⟨⟨wln_Ben_57, wi_Pnt_init, winit_Pnt, wc_Pnt_init, rfl⟩, by decide +kernel, Nat.le_of_ble_eq_true rfl, Nat.le_of_ble_eq_true rfl⟩ rfl hl.1 rfl (Nat.le_of_ble_eq_true rfl) d_Ben_init_162 ⟨Nat.le_of_ble_eq_true rfl, Nat.le_of_ble_eq_true rfl⟩ (fun M1 H locs hp X => ?_)
  rw [hp, ow_p2 (by decide), ow_up ⟨by decide, by decide⟩] at X
  refine gm_hz (b := E.2.1 + 43) X h0 (ow_at (k := 43) ⟨by decide, by decide⟩ rfl) (by first | (dsimp only; done) | (dsimp only; omega) | omega) (fun hz => ?_)
  have hz : H.size = E.2.1 + 44 := hz
  refine gm_aast hx hb X (k := 0) (ow_at (k := 10) ⟨by decide, by decide⟩ rfl) (cw_ge _) rfl (ow_at (k := 41) ⟨by decide, by decide⟩ rfl) rfl (by decide) ⟨by decide, by decide⟩ d_Ben_init_165 (fun H locs hz1 X => ?_)
  have hz := hz1.trans hz
  rw [ow_up ⟨by decide, by decide⟩] at X
  refine lv_iinc (v := 1) (lv' := [(1, .int 1), (0, .ref (E.2.1 + 0))]) hx hb d_Ben_init_166 hl (k := 0) rfl (by decide) (by decide) rfl (fun ls hl => ?_)
  refine lv_goto (tgt := 148) hx hb d_Ben_init_169 (by decide) ?_
  refine lv_iload_n hx hb d_Ben_init_148 rfl (lv_at hl 0 rfl) ?_
  refine lv_iconst (v := 4) hx hb d_Ben_init_149 (by decide) ?_
  refine lv_icmp_ge (tgt := 172) hx hb d_Ben_init_150 (by decide) (fun c9 => absurd c9 (by decide)) (fun _ => ?_)
  refine lv_aload_n hx hb d_Ben_init_153 rfl (lv_at hl 1 rfl) ?_
  refine gm_get hx hb hW hown X u_Ben (fs := [.ref (E.2.1 + 1), .ref (E.2.1 + 10), .ref (E.2.1 + 11), .ref (E.2.1 + 16), .ref (E.2.1 + 21), .ref (E.2.1 + 24), .ref (E.2.1 + 33), .ref (E.2.1 + 36), .ref (E.2.1 + 37), .ref (E.2.1 + 38), .ref (E.2.1 + 39), .ref (E.2.1 + 40)]) (ow_at (k := 0) ⟨by decide, by decide⟩ rfl) rfl 1 (by decide) wf_Ben_16 (v := .ref (E.2.1 + 10)) rfl d_Ben_init_154 ?_
  refine lv_iload_n hx hb d_Ben_init_157 rfl (lv_at hl 0 rfl) ?_
  refine gm_new (ci := 1) hx hb hW hown X hz u_Pnt t_Pnt t_Pnt_ok rfl wcl_Ben_14 winst_Pnt winit_Pnt (fs := [.null, .null, .int 0]) (fun j hj => by rcases (show j = 0 ∨ j = 1 ∨ j = 2 by omega) with rfl | rfl | rfl <;> rfl) ⟨Nat.le_of_ble_eq_true rfl, Nat.le_of_ble_eq_true rfl⟩ d_Ben_init_158 (fun H hz X => ?_)
  rw [ow_push (by decide)] at X
  have hz : H.size = E.2.1 + 45 := hz
  refine lv_dup hx hb d_Ben_init_161 rfl ?_
  refine gm_INv hx hb hml hown hW X hz (z_Pnt_init l E _ (ow_at (k := 44) ⟨by decide, by decide⟩ rfl) (cw_ge _) (by omega)) (n := 0) ⟨⟨wln_Ben_57, wi_Pnt_init, winit_Pnt, wc_Pnt_init, rfl⟩, by decide +kernel, Nat.le_of_ble_eq_true rfl, Nat.le_of_ble_eq_true rfl⟩ rfl hl.1 rfl (Nat.le_of_ble_eq_true rfl) d_Ben_init_162 ⟨Nat.le_of_ble_eq_true rfl, Nat.le_of_ble_eq_true rfl⟩ (fun M1 H locs hp X => ?_)
  rw [hp, ow_p2 (by decide), ow_up ⟨by decide, by decide⟩] at X
  refine gm_hz (b := E.2.1 + 46) X h0 (ow_at (k := 46) ⟨by decide, by decide⟩ rfl) (by first | (dsimp only; done) | (dsimp only; omega) | omega) (fun hz => ?_)
  have hz : H.size = E.2.1 + 47 := hz
  refine gm_aast hx hb X (k := 1) (ow_at (k := 10) ⟨by decide, by decide⟩ rfl) (cw_ge _) rfl (ow_at (k := 44) ⟨by decide, by decide⟩ rfl) rfl (by decide) ⟨by decide, by decide⟩ d_Ben_init_165 (fun H locs hz1 X => ?_)
  have hz := hz1.trans hz
  rw [ow_up ⟨by decide, by decide⟩] at X
  refine lv_iinc (v := 2) (lv' := [(1, .int 2), (0, .ref (E.2.1 + 0))]) hx hb d_Ben_init_166 hl (k := 0) rfl (by decide) (by decide) rfl (fun ls hl => ?_)
  refine lv_goto (tgt := 148) hx hb d_Ben_init_169 (by decide) ?_
  refine lv_iload_n hx hb d_Ben_init_148 rfl (lv_at hl 0 rfl) ?_
  refine lv_iconst (v := 4) hx hb d_Ben_init_149 (by decide) ?_
  refine lv_icmp_ge (tgt := 172) hx hb d_Ben_init_150 (by decide) (fun c9 => absurd c9 (by decide)) (fun _ => ?_)
  refine lv_aload_n hx hb d_Ben_init_153 rfl (lv_at hl 1 rfl) ?_
  refine gm_get hx hb hW hown X u_Ben (fs := [.ref (E.2.1 + 1), .ref (E.2.1 + 10), .ref (E.2.1 + 11), .ref (E.2.1 + 16), .ref (E.2.1 + 21), .ref (E.2.1 + 24), .ref (E.2.1 + 33), .ref (E.2.1 + 36), .ref (E.2.1 + 37), .ref (E.2.1 + 38), .ref (E.2.1 + 39), .ref (E.2.1 + 40)]) (ow_at (k := 0) ⟨by decide, by decide⟩ rfl) rfl 1 (by decide) wf_Ben_16 (v := .ref (E.2.1 + 10)) rfl d_Ben_init_154 ?_
  refine lv_iload_n hx hb d_Ben_init_157 rfl (lv_at hl 0 rfl) ?_
  refine gm_new (ci := 1) hx hb hW hown X hz u_Pnt t_Pnt t_Pnt_ok rfl wcl_Ben_14 winst_Pnt winit_Pnt (fs := [.null, .null, .int 0]) (fun j hj => by rcases (show j = 0 ∨ j = 1 ∨ j = 2 by omega) with rfl | rfl | rfl <;> rfl) ⟨Nat.le_of_ble_eq_true rfl, Nat.le_of_ble_eq_true rfl⟩ d_Ben_init_158 (fun H hz X => ?_)
  rw [ow_push (by decide)] at X
  have hz : H.size = E.2.1 + 48 := hz
  refine lv_dup hx hb d_Ben_init_161 rfl ?_
  refine gm_INv hx hb hml hown hW X hz (z_Pnt_init l E _ (ow_at (k := 47) ⟨by decide, by decide⟩ rfl) (cw_ge _) (by omega)) (n := 0) ⟨⟨wln_Ben_57, wi_Pnt_init, winit_Pnt, wc_Pnt_init, rfl⟩, by decide +kernel, Nat.le_of_ble_eq_true rfl, Nat.le_of_ble_eq_true rfl⟩ rfl hl.1 rfl (Nat.le_of_ble_eq_true rfl) d_Ben_init_162 ⟨Nat.le_of_ble_eq_true rfl, Nat.le_of_ble_eq_true rfl⟩ (fun M1 H locs hp X => ?_)
  rw [hp, ow_p2 (by decide), ow_up ⟨by decide, by decide⟩] at X
  refine gm_hz (b := E.2.1 + 49) X h0 (ow_at (k := 49) ⟨by decide, by decide⟩ rfl) (by first | (dsimp only; done) | (dsimp only; omega) | omega) (fun hz => ?_)
  have hz : H.size = E.2.1 + 50 := hz
  refine gm_aast hx hb X (k := 2) (ow_at (k := 10) ⟨by decide, by decide⟩ rfl) (cw_ge _) rfl (ow_at (k := 47) ⟨by decide, by decide⟩ rfl) rfl (by decide) ⟨by decide, by decide⟩ d_Ben_init_165 (fun H locs hz1 X => ?_)
  have hz := hz1.trans hz
  rw [ow_up ⟨by decide, by decide⟩] at X
  refine lv_iinc (v := 3) (lv' := [(1, .int 3), (0, .ref (E.2.1 + 0))]) hx hb d_Ben_init_166 hl (k := 0) rfl (by decide) (by decide) rfl (fun ls hl => ?_)
  refine lv_goto (tgt := 148) hx hb d_Ben_init_169 (by decide) ?_
  refine lv_iload_n hx hb d_Ben_init_148 rfl (lv_at hl 0 rfl) ?_
  refine lv_iconst (v := 4) hx hb d_Ben_init_149 (by decide) ?_
  refine lv_icmp_ge (tgt := 172) hx hb d_Ben_init_150 (by decide) (fun c9 => absurd c9 (by decide)) (fun _ => ?_)
  refine lv_aload_n hx hb d_Ben_init_153 rfl (lv_at hl 1 rfl) ?_
  refine gm_get hx hb hW hown X u_Ben (fs := [.ref (E.2.1 + 1), .ref (E.2.1 + 10), .ref (E.2.1 + 11), .ref (E.2.1 + 16), .ref (E.2.1 + 21), .ref (E.2.1 + 24), .ref (E.2.1 + 33), .ref (E.2.1 + 36), .ref (E.2.1 + 37), .ref (E.2.1 + 38), .ref (E.2.1 + 39), .ref (E.2.1 + 40)]) (ow_at (k := 0) ⟨by decide, by decide⟩ rfl) rfl 1 (by decide) wf_Ben_16 (v := .ref (E.2.1 + 10)) rfl d_Ben_init_154 ?_
  refine lv_iload_n hx hb d_Ben_init_157 rfl (lv_at hl 0 rfl) ?_
  refine gm_new (ci := 1) hx hb hW hown X hz u_Pnt t_Pnt t_Pnt_ok rfl wcl_Ben_14 winst_Pnt winit_Pnt (fs := [.null, .null, .int 0]) (fun j hj => by rcases (show j = 0 ∨ j = 1 ∨ j = 2 by omega) with rfl | rfl | rfl <;> rfl) ⟨Nat.le_of_ble_eq_true rfl, Nat.le_of_ble_eq_true rfl⟩ d_Ben_init_158 (fun H hz X => ?_)
  rw [ow_push (by decide)] at X
  have hz : H.size = E.2.1 + 51 := hz
  refine lv_dup hx hb d_Ben_init_161 rfl ?_
  refine gm_INv hx hb hml hown hW X hz (z_Pnt_init l E _ (ow_at (k := 50) ⟨by decide, by decide⟩ rfl) (cw_ge _) (by omega)) (n := 0) ⟨⟨wln_Ben_57, wi_Pnt_init, winit_Pnt, wc_Pnt_init, rfl⟩, by decide +kernel, Nat.le_of_ble_eq_true rfl, Nat.le_of_ble_eq_true rfl⟩ rfl hl.1 rfl (Nat.le_of_ble_eq_true rfl) d_Ben_init_162 ⟨Nat.le_of_ble_eq_true rfl, Nat.le_of_ble_eq_true rfl⟩ (fun M1 H locs hp X => ?_)
  rw [hp, ow_p2 (by decide), ow_up ⟨by decide, by decide⟩] at X
  refine gm_hz (b := E.2.1 + 52) X h0 (ow_at (k := 52) ⟨by decide, by decide⟩ rfl) (by first | (dsimp only; done) | (dsimp only; omega) | omega) (fun hz => ?_)
  have hz : H.size = E.2.1 + 53 := hz
  refine gm_aast hx hb X (k := 3) (ow_at (k := 10) ⟨by decide, by decide⟩ rfl) (cw_ge _) rfl (ow_at (k := 50) ⟨by decide, by decide⟩ rfl) rfl (by decide) ⟨by decide, by decide⟩ d_Ben_init_165 (fun H locs hz1 X => ?_)
  have hz := hz1.trans hz
  rw [ow_up ⟨by decide, by decide⟩] at X
  refine lv_iinc (v := 4) (lv' := [(1, .int 4), (0, .ref (E.2.1 + 0))]) hx hb d_Ben_init_166 hl (k := 0) rfl (by decide) (by decide) rfl (fun ls hl => ?_)
  refine lv_goto (tgt := 148) hx hb d_Ben_init_169 (by decide) ?_
  refine lv_iload_n hx hb d_Ben_init_148 rfl (lv_at hl 0 rfl) ?_
  refine lv_iconst (v := 4) hx hb d_Ben_init_149 (by decide) ?_
  refine lv_icmp_ge (tgt := 172) hx hb d_Ben_init_150 (by decide) (fun _ => ?_) (fun c9 => absurd (by decide) c9)
  have X : gx E (cW E ad N (fun _ _ => 0) (fun _ => 1)) s H locs := by
    rw [ow_cw (ad := ad) (ρ := fun _ _ => 0) (fl := fun _ => 1)] at X
    · exact X
    · intro k hk
      rcases (show k = 0 ∨ k = 1 ∨ k = 2 ∨ k = 3 ∨ k = 4 ∨ k = 5 ∨ k = 6 ∨ k = 7 ∨ k = 8 ∨ k = 9 ∨ k = 10 ∨ k = 11 ∨ k = 12 ∨ k = 13 ∨ k = 14 ∨ k = 15 ∨ k = 16 ∨ k = 17 ∨ k = 18 ∨ k = 19 ∨ k = 20 ∨ k = 21 ∨ k = 22 ∨ k = 23 ∨ k = 24 ∨ k = 25 ∨ k = 26 ∨ k = 27 ∨ k = 28 ∨ k = 29 ∨ k = 30 ∨ k = 31 ∨ k = 32 ∨ k = 33 ∨ k = 34 ∨ k = 35 ∨ k = 36 ∨ k = 37 ∨ k = 38 ∨ k = 39 ∨ k = 40 ∨ k = 41 ∨ k = 42 ∨ k = 43 ∨ k = 44 ∨ k = 45 ∨ k = 46 ∨ k = 47 ∨ k = 48 ∨ k = 49 ∨ k = 50 ∨ k = 51 ∨ k = 52 by omega) with rfl | rfl | rfl | rfl | rfl | rfl | rfl | rfl | rfl | rfl | rfl | rfl | rfl | rfl | rfl | rfl | rfl | rfl | rfl | rfl | rfl | rfl | rfl | rfl | rfl | rfl | rfl | rfl | rfl | rfl | rfl | rfl | rfl | rfl | rfl | rfl | rfl | rfl | rfl | rfl | rfl | rfl | rfl | rfl | rfl | rfl | rfl | rfl | rfl | rfl | rfl | rfl | rfl
      · rfl
      · refine qa_cg (fun i => ?_)
        by_cases hi : i < 8
        · rw [if_pos hi, if_pos hi]
          congr 1
          omega
        · rw [if_neg hi, if_neg hi]
      · rfl
      · rfl
      · rfl
      · rfl
      · rfl
      · rfl
      · rfl
      · rfl
      · refine qa_cg (fun i => ?_)
        by_cases hi : i < 4
        · rcases (show i = 0 ∨ i = 1 ∨ i = 2 ∨ i = 3 by omega) with rfl | rfl | rfl | rfl <;> rfl
        · rw [vu_n (by omega), vu_n (by omega), vu_n (by omega), vu_n (by omega), if_neg hi]
      · rfl
      · rfl
      · rfl
      · rfl
      · rfl
      · rfl
      · rfl
      · rfl
      · rfl
      · rfl
      · rfl
      · rfl
      · rfl
      · rfl
      · rfl
      · rfl
      · rfl
      · rfl
      · rfl
      · rfl
      · rfl
      · rfl
      · rfl
      · rfl
      · rfl
      · rfl
      · rfl
      · rfl
      · rfl
      · rfl
      · rfl
      · rfl
      · rfl
      · rfl
      · rfl
      · rfl
      · rfl
      · rfl
      · rfl
      · rfl
      · rfl
      · rfl
  have hf := hk.fm
  refine lv_aload_n hx hb d_Ben_init_172 rfl (lv_at hl 1 rfl) ?_
  refine gm_get hx hb hW hown X u_Ben o0 rfl 4 (by decide) wf_Ben_58 (v := .ref (E.2.1 + 21)) rfl d_Ben_init_173 ?_
  refine gm_get hx hb hW hown X u_Pnt (oP isP_21) rfl 0 (by decide) wf_Ben_89 (v := .ref (E.2.1 + (21 + 1))) rfl d_Ben_init_176 ?_
  refine gm_gets hx hb hW hown X hg.2.2.2.2.2.2.1.1 wf_Ben_92 d_Ben_init_179 ?_
  refine gm_Sv hx hb hml hown hW X (k_unpack l (isP.x isP_21) (Or.inr hg.2.2.2.2.2.2.1.2)) (n := 2) ⟨⟨wl_Ben_95, ws_Lim_unpack, winit_Lim, wc_Lim_unpack⟩, by decide +kernel, Nat.le_of_ble_eq_true rfl, Nat.le_of_ble_eq_true rfl⟩ rfl hl.1 rfl (Nat.le_of_ble_eq_true rfl) d_Ben_init_182 ⟨Nat.le_of_ble_eq_true rfl, Nat.le_of_ble_eq_true rfl⟩ (fun M1 H locs hp X => ?_)
  obtain ⟨ρ1, rfl, q1, kk1⟩ := hp
  refine lv_aload_n hx hb d_Ben_init_185 rfl (lv_at hl 1 rfl) ?_
  refine gm_get hx hb hW hown X u_Ben o0 rfl 4 (by decide) wf_Ben_58 (v := .ref (E.2.1 + 21)) rfl d_Ben_init_186 ?_
  refine gm_get hx hb hW hown X u_Pnt (oP isP_21) rfl 1 (by decide) wf_Ben_101 (v := .ref (E.2.1 + (21 + 2))) rfl d_Ben_init_189 ?_
  refine gm_gets hx hb hW hown X hg.2.2.2.2.2.2.2.1.1 wf_Ben_104 d_Ben_init_192 ?_
  refine gm_Sv hx hb hml hown hW X (k_unpack l (isP.y isP_21) (Or.inr hg.2.2.2.2.2.2.2.1.2)) (n := 2) ⟨⟨wl_Ben_95, ws_Lim_unpack, winit_Lim, wc_Lim_unpack⟩, by decide +kernel, Nat.le_of_ble_eq_true rfl, Nat.le_of_ble_eq_true rfl⟩ rfl hl.1 rfl (Nat.le_of_ble_eq_true rfl) d_Ben_init_195 ⟨Nat.le_of_ble_eq_true rfl, Nat.le_of_ble_eq_true rfl⟩ (fun M1 H locs hp X => ?_)
  obtain ⟨ρ2, rfl, q2, kk2⟩ := hp
  have u211_2 : ρ2 (21 + 1) = unF sGX := by rw [kk2 (21 + 1) (by omega)]; exact q1
  refine lv_aload_n hx hb d_Ben_init_198 rfl (lv_at hl 1 rfl) ?_
  refine gm_get hx hb hW hown X u_Ben o0 rfl 4 (by decide) wf_Ben_58 (v := .ref (E.2.1 + 21)) rfl d_Ben_init_199 ?_
  refine lv_iconst (v := 0) hx hb d_Ben_init_202 (by decide) ?_
  refine gm_put hx hb hW hown X u_Pnt t_Pnt t_Pnt_ok n_Pnt (oP isP_21) (cw_ge _) rfl 2 (by decide) wf_Ben_107 rfl (ty := .boolean) (v := .int 0) (by decide) rfl rfl (Nat.le_of_ble_eq_true rfl) d_Ben_init_203 (fun H locs X => ?_)
  have X : gx E (cW E ad N ρ2 (va_up (fun _ => (1 : Int32)) 21 0)) s H locs := by rw [← cw_fP 0 isP_21]; exact X
  obtain ⟨fl3, hfl3⟩ : ∃ x, x = va_up (fun _ => (1 : Int32)) 21 0 := ⟨_, rfl⟩
  rw [← hfl3] at X
  refine gm_vret hx hb hr hlk X ⟨ρ2, fl3, rfl, fun r hr => ?_, fun p hp => ?_, ?_⟩ d_Ben_init_206
  · rw [kk2 (2 + r) (by omega), kk1 (2 + r) (by omega)]
  · rw [hfl3, vu_n (by omega)]
  · refine ⟨by rw [hfl3, vu_s], g_on hf, ?_, ?_⟩
    · show ST φ nP (ρ2 (21 + 1)) (φ gXn)
      rw [u211_2, show ((gXn : Nat) : Int) = ((NV sGX : Nat) : Int) by decide +kernel]
      exact ST.un φ (by decide +kernel)
    · show ST φ nP (ρ2 (21 + 2)) (φ gYn)
      rw [q2, show ((gYn : Nat) : Int) = ((NV sGY : Nat) : Int) by decide +kernel]
      exact ST.un φ (by decide +kernel)
