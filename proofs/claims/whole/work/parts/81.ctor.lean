/-! CONSTRUCTORS: written by wip/gen/ctor.py -/
set_option maxHeartbeats 4000000 in
theorem z_Pnt_init (l : Launch) (E : gm_E) (M : gm_M) {a n0 : Nat} (hO : M a = some (OB 1 [.null, .null, .int 0])) (hA : E.2.1 ≤ a) (han : a < n0) : cz_ l y_Pnt_init b_Pnt_init 1 { frames := 1, cells := 2, slots := 20, locals := 12 } E M n0 [.ref a] (fun M' => M' = gm_up (gm_up (gm_up M n0 (LA E 10 (fun _ => 0))) (n0 + 1) (LA E 10 (fun _ => 0))) a (PO n0 (n0 + 1) 1)) := by
  refine gm_metZ (by decide) (Nat.le_of_ble_eq_true rfl) (fun p e s m below meth c ls hx hb hml hr hlk hnm hown hW X hz hl => ?_)
  have hl : lv_has ls 1 [(0, .ref a)] := hl
  have X : gx E (gm_up M a (OB 1 [.null, .null, .int 0])) s s.heap [] := by rw [gm_up_self hO]; exact X
  refine lv_aload_n hx hb d_Pnt_init_0 rfl (lv_at hl 0 rfl) ?_
  refine gm_obj hx hb hml hW hown wl_Pnt_3 hl.1 (Nat.le_of_ble_eq_true rfl) (Nat.le_of_ble_eq_true rfl) d_Pnt_init_1 ?_
  refine lv_aload_n hx hb d_Pnt_init_4 rfl (lv_at hl 0 rfl) ?_
  refine lv_bipush (v := 10) hx hb d_Pnt_init_5 (by decide) ?_
  refine gm_newl hx hb hW X hz (N := 10) (by decide) (by decide) (by decide) ⟨Nat.le_of_ble_eq_true rfl, Nat.le_of_ble_eq_true rfl⟩ d_Pnt_init_7 (fun H hz X => ?_)
  have hz : H.size = n0 + 1 := hz
  rw [gm_up_c (show a ≠ n0 by omega)] at X
  refine gm_putF hx hb hW hown X u_Pnt t_Pnt t_Pnt_ok n_Pnt (gm_up_s _ _ _) hA rfl 0 (by decide) wf_Pnt_9 rfl hnm rfl (ty := .array .long) (v := .ref n0) (by decide) rfl rfl (Nat.le_of_ble_eq_true rfl) d_Pnt_init_9 (fun H locs hz1 X => ?_)
  have hz := hz1.trans hz
  rw [gm_up_up] at X
  have X : gx E (gm_up (gm_up M n0 (LA E 10 (fun _ => 0))) a (OB 1 [.ref n0, .null, .int 0])) s H locs := X
  refine lv_aload_n hx hb d_Pnt_init_12 rfl (lv_at hl 0 rfl) ?_
  refine lv_bipush (v := 10) hx hb d_Pnt_init_13 (by decide) ?_
  refine gm_newl hx hb hW X hz (N := 10) (by decide) (by decide) (by decide) ⟨Nat.le_of_ble_eq_true rfl, Nat.le_of_ble_eq_true rfl⟩ d_Pnt_init_15 (fun H hz X => ?_)
  have hz : H.size = n0 + 2 := hz
  rw [gm_up_c (show a ≠ n0 + 1 by omega)] at X
  refine gm_putF hx hb hW hown X u_Pnt t_Pnt t_Pnt_ok n_Pnt (gm_up_s _ _ _) hA rfl 1 (by decide) wf_Pnt_15 rfl hnm rfl (ty := .array .long) (v := .ref (n0 + 1)) (by decide) rfl rfl (Nat.le_of_ble_eq_true rfl) d_Pnt_init_17 (fun H locs hz1 X => ?_)
  have hz := hz1.trans hz
  rw [gm_up_up] at X
  have X : gx E (gm_up (gm_up (gm_up M n0 (LA E 10 (fun _ => 0))) (n0 + 1) (LA E 10 (fun _ => 0))) a (OB 1 [.ref n0, .ref (n0 + 1), .int 0])) s H locs := X
  refine lv_aload_n hx hb d_Pnt_init_20 rfl (lv_at hl 0 rfl) ?_
  refine lv_iconst (v := 1) hx hb d_Pnt_init_21 (by decide) ?_
  refine gm_putZ hx hb hW hown X u_Pnt t_Pnt t_Pnt_ok n_Pnt (gm_up_s _ _ _) hA rfl 2 (by decide) wf_Pnt_18 rfl (ty := .boolean) (v := .int 1) (by decide) rfl rfl (Nat.le_of_ble_eq_true rfl) d_Pnt_init_22 (fun H locs hz1 X => ?_)
  have hz := hz1.trans hz
  rw [gm_up_up] at X
  have X : gx E (gm_up (gm_up (gm_up M n0 (LA E 10 (fun _ => 0))) (n0 + 1) (LA E 10 (fun _ => 0))) a (OB 1 [.ref n0, .ref (n0 + 1), .int 1])) s H locs := X
  exact gm_vret hx hb hr hlk X rfl d_Pnt_init_25
set_option maxHeartbeats 4000000 in
theorem z_Mod_init (l : Launch) (E : gm_E) (M : gm_M) {a n0 : Nat} {x1 x2 x3 x4 : Nat} {iw : Int32} (hiw : iw = 0 ∨ iw = 1) (hO : M a = some (OB 0 [.null, .null, .null, .null, .int 0, .null, .null, .null, .null])) (hA : E.2.1 ≤ a) (han : a < n0) : cz_ l y_Mod_init b_Mod_init 6 { frames := 1, cells := 4, slots := 50, locals := 12 } E M n0 [.ref a, .ref x1, .ref x2, .ref x3, .ref x4, .int iw] (fun M' => M' = gm_up (gm_up (gm_up (gm_up (gm_up M n0 (LA E 20 (fun _ => 0))) (n0 + 1) (LA E 10 (fun _ => 0))) (n0 + 2) (LA E 10 (fun _ => 0))) (n0 + 3) (LA E 10 (fun _ => 0))) a (MO x1 x2 x3 x4 iw n0 (n0 + 1) (n0 + 2) (n0 + 3))) := by
  refine gm_metZ (by decide) (Nat.le_of_ble_eq_true rfl) (fun p e s m below meth c ls hx hb hml hr hlk hnm hown hW X hz hl => ?_)
  have hl : lv_has ls 6 [(0, .ref a), (1, .ref x1), (2, .ref x2), (3, .ref x3), (4, .ref x4), (5, .int iw)] := hl
  have X : gx E (gm_up M a (OB 0 [.null, .null, .null, .null, .int 0, .null, .null, .null, .null])) s s.heap [] := by rw [gm_up_self hO]; exact X
  refine lv_aload_n hx hb d_Mod_init_0 rfl (lv_at hl 0 rfl) ?_
  refine gm_obj hx hb hml hW hown wl_Mod_3 hl.1 (Nat.le_of_ble_eq_true rfl) (Nat.le_of_ble_eq_true rfl) d_Mod_init_1 ?_
  refine lv_aload_n hx hb d_Mod_init_4 rfl (lv_at hl 0 rfl) ?_
  refine lv_bipush (v := 20) hx hb d_Mod_init_5 (by decide) ?_
  refine gm_newl hx hb hW X hz (N := 20) (by decide) (by decide) (by decide) ⟨Nat.le_of_ble_eq_true rfl, Nat.le_of_ble_eq_true rfl⟩ d_Mod_init_7 (fun H hz X => ?_)
  have hz : H.size = n0 + 1 := hz
  rw [gm_up_c (show a ≠ n0 by omega)] at X
  refine gm_putF hx hb hW hown X u_Mod t_Mod t_Mod_ok n_Mod (gm_up_s _ _ _) hA rfl 5 (by decide) wf_Mod_9 rfl hnm rfl (ty := .array .long) (v := .ref n0) (by decide) rfl rfl (Nat.le_of_ble_eq_true rfl) d_Mod_init_9 (fun H locs hz1 X => ?_)
  have hz := hz1.trans hz
  rw [gm_up_up] at X
  have X : gx E (gm_up (gm_up M n0 (LA E 20 (fun _ => 0))) a (OB 0 [.null, .null, .null, .null, .int 0, .ref n0, .null, .null, .null])) s H locs := X
  refine lv_aload_n hx hb d_Mod_init_12 rfl (lv_at hl 0 rfl) ?_
  refine lv_bipush (v := 10) hx hb d_Mod_init_13 (by decide) ?_
  refine gm_newl hx hb hW X hz (N := 10) (by decide) (by decide) (by decide) ⟨Nat.le_of_ble_eq_true rfl, Nat.le_of_ble_eq_true rfl⟩ d_Mod_init_15 (fun H hz X => ?_)
  have hz : H.size = n0 + 2 := hz
  rw [gm_up_c (show a ≠ n0 + 1 by omega)] at X
  refine gm_putF hx hb hW hown X u_Mod t_Mod t_Mod_ok n_Mod (gm_up_s _ _ _) hA rfl 6 (by decide) wf_Mod_15 rfl hnm rfl (ty := .array .long) (v := .ref (n0 + 1)) (by decide) rfl rfl (Nat.le_of_ble_eq_true rfl) d_Mod_init_17 (fun H locs hz1 X => ?_)
  have hz := hz1.trans hz
  rw [gm_up_up] at X
  have X : gx E (gm_up (gm_up (gm_up M n0 (LA E 20 (fun _ => 0))) (n0 + 1) (LA E 10 (fun _ => 0))) a (OB 0 [.null, .null, .null, .null, .int 0, .ref n0, .ref (n0 + 1), .null, .null])) s H locs := X
  refine lv_aload_n hx hb d_Mod_init_20 rfl (lv_at hl 0 rfl) ?_
  refine lv_bipush (v := 10) hx hb d_Mod_init_21 (by decide) ?_
  refine gm_newl hx hb hW X hz (N := 10) (by decide) (by decide) (by decide) ⟨Nat.le_of_ble_eq_true rfl, Nat.le_of_ble_eq_true rfl⟩ d_Mod_init_23 (fun H hz X => ?_)
  have hz : H.size = n0 + 3 := hz
  rw [gm_up_c (show a ≠ n0 + 2 by omega)] at X
  refine gm_putF hx hb hW hown X u_Mod t_Mod t_Mod_ok n_Mod (gm_up_s _ _ _) hA rfl 7 (by decide) wf_Mod_18 rfl hnm rfl (ty := .array .long) (v := .ref (n0 + 2)) (by decide) rfl rfl (Nat.le_of_ble_eq_true rfl) d_Mod_init_25 (fun H locs hz1 X => ?_)
  have hz := hz1.trans hz
  rw [gm_up_up] at X
  have X : gx E (gm_up (gm_up (gm_up (gm_up M n0 (LA E 20 (fun _ => 0))) (n0 + 1) (LA E 10 (fun _ => 0))) (n0 + 2) (LA E 10 (fun _ => 0))) a (OB 0 [.null, .null, .null, .null, .int 0, .ref n0, .ref (n0 + 1), .ref (n0 + 2), .null])) s H locs := X
  refine lv_aload_n hx hb d_Mod_init_28 rfl (lv_at hl 0 rfl) ?_
  refine lv_bipush (v := 10) hx hb d_Mod_init_29 (by decide) ?_
  refine gm_newl hx hb hW X hz (N := 10) (by decide) (by decide) (by decide) ⟨Nat.le_of_ble_eq_true rfl, Nat.le_of_ble_eq_true rfl⟩ d_Mod_init_31 (fun H hz X => ?_)
  have hz : H.size = n0 + 4 := hz
  rw [gm_up_c (show a ≠ n0 + 3 by omega)] at X
  refine gm_putF hx hb hW hown X u_Mod t_Mod t_Mod_ok n_Mod (gm_up_s _ _ _) hA rfl 8 (by decide) wf_Mod_21 rfl hnm rfl (ty := .array .long) (v := .ref (n0 + 3)) (by decide) rfl rfl (Nat.le_of_ble_eq_true rfl) d_Mod_init_33 (fun H locs hz1 X => ?_)
  have hz := hz1.trans hz
  rw [gm_up_up] at X
  have X : gx E (gm_up (gm_up (gm_up (gm_up (gm_up M n0 (LA E 20 (fun _ => 0))) (n0 + 1) (LA E 10 (fun _ => 0))) (n0 + 2) (LA E 10 (fun _ => 0))) (n0 + 3) (LA E 10 (fun _ => 0))) a (OB 0 [.null, .null, .null, .null, .int 0, .ref n0, .ref (n0 + 1), .ref (n0 + 2), .ref (n0 + 3)])) s H locs := X
  refine lv_aload_n hx hb d_Mod_init_36 rfl (lv_at hl 0 rfl) ?_
  refine lv_aload_n hx hb d_Mod_init_37 rfl (lv_at hl 1 rfl) ?_
  refine gm_putF hx hb hW hown X u_Mod t_Mod t_Mod_ok n_Mod (gm_up_s _ _ _) hA rfl 0 (by decide) wf_Mod_24 rfl hnm rfl (ty := .array .long) (v := .ref x1) (by decide) rfl rfl (Nat.le_of_ble_eq_true rfl) d_Mod_init_38 (fun H locs hz1 X => ?_)
  have hz := hz1.trans hz
  rw [gm_up_up] at X
  have X : gx E (gm_up (gm_up (gm_up (gm_up (gm_up M n0 (LA E 20 (fun _ => 0))) (n0 + 1) (LA E 10 (fun _ => 0))) (n0 + 2) (LA E 10 (fun _ => 0))) (n0 + 3) (LA E 10 (fun _ => 0))) a (OB 0 [.ref x1, .null, .null, .null, .int 0, .ref n0, .ref (n0 + 1), .ref (n0 + 2), .ref (n0 + 3)])) s H locs := X
  refine lv_aload_n hx hb d_Mod_init_41 rfl (lv_at hl 0 rfl) ?_
  refine lv_aload_n hx hb d_Mod_init_42 rfl (lv_at hl 2 rfl) ?_
  refine gm_putF hx hb hW hown X u_Mod t_Mod t_Mod_ok n_Mod (gm_up_s _ _ _) hA rfl 1 (by decide) wf_Mod_27 rfl hnm rfl (ty := .array .long) (v := .ref x2) (by decide) rfl rfl (Nat.le_of_ble_eq_true rfl) d_Mod_init_43 (fun H locs hz1 X => ?_)
  have hz := hz1.trans hz
  rw [gm_up_up] at X
  have X : gx E (gm_up (gm_up (gm_up (gm_up (gm_up M n0 (LA E 20 (fun _ => 0))) (n0 + 1) (LA E 10 (fun _ => 0))) (n0 + 2) (LA E 10 (fun _ => 0))) (n0 + 3) (LA E 10 (fun _ => 0))) a (OB 0 [.ref x1, .ref x2, .null, .null, .int 0, .ref n0, .ref (n0 + 1), .ref (n0 + 2), .ref (n0 + 3)])) s H locs := X
  refine lv_aload_n hx hb d_Mod_init_46 rfl (lv_at hl 0 rfl) ?_
  refine lv_aload_n hx hb d_Mod_init_47 rfl (lv_at hl 3 rfl) ?_
  refine gm_putF hx hb hW hown X u_Mod t_Mod t_Mod_ok n_Mod (gm_up_s _ _ _) hA rfl 2 (by decide) wf_Mod_30 rfl hnm rfl (ty := .array .long) (v := .ref x3) (by decide) rfl rfl (Nat.le_of_ble_eq_true rfl) d_Mod_init_48 (fun H locs hz1 X => ?_)
  have hz := hz1.trans hz
  rw [gm_up_up] at X
  have X : gx E (gm_up (gm_up (gm_up (gm_up (gm_up M n0 (LA E 20 (fun _ => 0))) (n0 + 1) (LA E 10 (fun _ => 0))) (n0 + 2) (LA E 10 (fun _ => 0))) (n0 + 3) (LA E 10 (fun _ => 0))) a (OB 0 [.ref x1, .ref x2, .ref x3, .null, .int 0, .ref n0, .ref (n0 + 1), .ref (n0 + 2), .ref (n0 + 3)])) s H locs := X
  refine lv_aload_n hx hb d_Mod_init_51 rfl (lv_at hl 0 rfl) ?_
  refine lv_aload hx hb d_Mod_init_52 (lv_at hl 4 rfl) ?_
  refine gm_putF hx hb hW hown X u_Mod t_Mod t_Mod_ok n_Mod (gm_up_s _ _ _) hA rfl 3 (by decide) wf_Mod_33 rfl hnm rfl (ty := .array .long) (v := .ref x4) (by decide) rfl rfl (Nat.le_of_ble_eq_true rfl) d_Mod_init_54 (fun H locs hz1 X => ?_)
  have hz := hz1.trans hz
  rw [gm_up_up] at X
  have X : gx E (gm_up (gm_up (gm_up (gm_up (gm_up M n0 (LA E 20 (fun _ => 0))) (n0 + 1) (LA E 10 (fun _ => 0))) (n0 + 2) (LA E 10 (fun _ => 0))) (n0 + 3) (LA E 10 (fun _ => 0))) a (OB 0 [.ref x1, .ref x2, .ref x3, .ref x4, .int 0, .ref n0, .ref (n0 + 1), .ref (n0 + 2), .ref (n0 + 3)])) s H locs := X
  refine lv_aload_n hx hb d_Mod_init_57 rfl (lv_at hl 0 rfl) ?_
  refine lv_iload hx hb d_Mod_init_58 (lv_at hl 5 rfl) ?_
  refine gm_putF hx hb hW hown X u_Mod t_Mod t_Mod_ok n_Mod (gm_up_s _ _ _) hA rfl 4 (by decide) wf_Mod_36 rfl hnm rfl (ty := .boolean) (v := .int iw) (by decide) (by rcases hiw with rfl | rfl <;> rfl) (by rcases hiw with rfl | rfl <;> rfl) (Nat.le_of_ble_eq_true rfl) d_Mod_init_60 (fun H locs hz1 X => ?_)
  have hz := hz1.trans hz
  rw [gm_up_up] at X
  have X : gx E (gm_up (gm_up (gm_up (gm_up (gm_up M n0 (LA E 20 (fun _ => 0))) (n0 + 1) (LA E 10 (fun _ => 0))) (n0 + 2) (LA E 10 (fun _ => 0))) (n0 + 3) (LA E 10 (fun _ => 0))) a (OB 0 [.ref x1, .ref x2, .ref x3, .ref x4, .int iw, .ref n0, .ref (n0 + 1), .ref (n0 + 2), .ref (n0 + 3)])) s H locs := X
  exact gm_vret hx hb hr hlk X rfl d_Mod_init_63
set_option maxHeartbeats 4000000 in
theorem z_Sum_init (l : Launch) (E : gm_E) (M : gm_M) {a n0 : Nat} {x1 : Nat} (hO : M a = some (OB 2 [.null, .int 0, .null, .null, .null, .null, .null, .null, .null, .null])) (hA : E.2.1 ≤ a) (han : a < n0) : cz_ l y_Sum_init b_Sum_init 2 { frames := 1, cells := 8, slots := 80, locals := 12 } E M n0 [.ref a, .ref x1] (fun M' => M' = gm_up (gm_up (gm_up (gm_up (gm_up (gm_up (gm_up (gm_up (gm_up M n0 (LA E 10 (fun _ => 0))) (n0 + 1) (LA E 10 (fun _ => 0))) (n0 + 2) (LA E 10 (fun _ => 0))) (n0 + 3) (LA E 10 (fun _ => 0))) (n0 + 4) (LA E 10 (fun _ => 0))) (n0 + 5) (LA E 10 (fun _ => 0))) (n0 + 6) (LA E 10 (fun _ => 0))) (n0 + 7) (LA E 10 (fun _ => 0))) a (OB 2 [.ref x1, .int 1, .ref n0, .ref (n0 + 1), .ref (n0 + 2), .ref (n0 + 3), .ref (n0 + 4), .ref (n0 + 5), .ref (n0 + 6), .ref (n0 + 7)])) := by
  refine gm_metZ (by decide) (Nat.le_of_ble_eq_true rfl) (fun p e s m below meth c ls hx hb hml hr hlk hnm hown hW X hz hl => ?_)
  have hl : lv_has ls 2 [(0, .ref a), (1, .ref x1)] := hl
  have X : gx E (gm_up M a (OB 2 [.null, .int 0, .null, .null, .null, .null, .null, .null, .null, .null])) s s.heap [] := by rw [gm_up_self hO]; exact X
  refine lv_aload_n hx hb d_Sum_init_0 rfl (lv_at hl 0 rfl) ?_
  refine gm_obj hx hb hml hW hown wl_Sum_3 hl.1 (Nat.le_of_ble_eq_true rfl) (Nat.le_of_ble_eq_true rfl) d_Sum_init_1 ?_
  refine lv_aload_n hx hb d_Sum_init_4 rfl (lv_at hl 0 rfl) ?_
  refine lv_iconst (v := 1) hx hb d_Sum_init_5 (by decide) ?_
  refine gm_putZ hx hb hW hown X u_Sum t_Sum t_Sum_ok n_Sum (gm_up_s _ _ _) hA rfl 1 (by decide) wf_Sum_9 rfl (ty := .boolean) (v := .int 1) (by decide) rfl rfl (Nat.le_of_ble_eq_true rfl) d_Sum_init_6 (fun H locs hz1 X => ?_)
  have hz := hz1.trans hz
  rw [gm_up_up] at X
  have X : gx E (gm_up M a (OB 2 [.null, .int 1, .null, .null, .null, .null, .null, .null, .null, .null])) s H locs := X
  refine lv_aload_n hx hb d_Sum_init_9 rfl (lv_at hl 0 rfl) ?_
  refine lv_bipush (v := 10) hx hb d_Sum_init_10 (by decide) ?_
  refine gm_newl hx hb hW X hz (N := 10) (by decide) (by decide) (by decide) ⟨Nat.le_of_ble_eq_true rfl, Nat.le_of_ble_eq_true rfl⟩ d_Sum_init_12 (fun H hz X => ?_)
  have hz : H.size = n0 + 1 := hz
  rw [gm_up_c (show a ≠ n0 by omega)] at X
  refine gm_putF hx hb hW hown X u_Sum t_Sum t_Sum_ok n_Sum (gm_up_s _ _ _) hA rfl 2 (by decide) wf_Sum_15 rfl hnm rfl (ty := .array .long) (v := .ref n0) (by decide) rfl rfl (Nat.le_of_ble_eq_true rfl) d_Sum_init_14 (fun H locs hz1 X => ?_)
  have hz := hz1.trans hz
  rw [gm_up_up] at X
  have X : gx E (gm_up (gm_up M n0 (LA E 10 (fun _ => 0))) a (OB 2 [.null, .int 1, .ref n0, .null, .null, .null, .null, .null, .null, .null])) s H locs := X
  refine lv_aload_n hx hb d_Sum_init_17 rfl (lv_at hl 0 rfl) ?_
  refine lv_bipush (v := 10) hx hb d_Sum_init_18 (by decide) ?_
  refine gm_newl hx hb hW X hz (N := 10) (by decide) (by decide) (by decide) ⟨Nat.le_of_ble_eq_true rfl, Nat.le_of_ble_eq_true rfl⟩ d_Sum_init_20 (fun H hz X => ?_)
  have hz : H.size = n0 + 2 := hz
  rw [gm_up_c (show a ≠ n0 + 1 by omega)] at X
  refine gm_putF hx hb hW hown X u_Sum t_Sum t_Sum_ok n_Sum (gm_up_s _ _ _) hA rfl 3 (by decide) wf_Sum_19 rfl hnm rfl (ty := .array .long) (v := .ref (n0 + 1)) (by decide) rfl rfl (Nat.le_of_ble_eq_true rfl) d_Sum_init_22 (fun H locs hz1 X => ?_)
  have hz := hz1.trans hz
  rw [gm_up_up] at X
  have X : gx E (gm_up (gm_up (gm_up M n0 (LA E 10 (fun _ => 0))) (n0 + 1) (LA E 10 (fun _ => 0))) a (OB 2 [.null, .int 1, .ref n0, .ref (n0 + 1), .null, .null, .null, .null, .null, .null])) s H locs := X
  refine lv_aload_n hx hb d_Sum_init_25 rfl (lv_at hl 0 rfl) ?_
  refine lv_bipush (v := 10) hx hb d_Sum_init_26 (by decide) ?_
  refine gm_newl hx hb hW X hz (N := 10) (by decide) (by decide) (by decide) ⟨Nat.le_of_ble_eq_true rfl, Nat.le_of_ble_eq_true rfl⟩ d_Sum_init_28 (fun H hz X => ?_)
  have hz : H.size = n0 + 3 := hz
  rw [gm_up_c (show a ≠ n0 + 2 by omega)] at X
  refine gm_putF hx hb hW hown X u_Sum t_Sum t_Sum_ok n_Sum (gm_up_s _ _ _) hA rfl 4 (by decide) wf_Sum_22 rfl hnm rfl (ty := .array .long) (v := .ref (n0 + 2)) (by decide) rfl rfl (Nat.le_of_ble_eq_true rfl) d_Sum_init_30 (fun H locs hz1 X => ?_)
  have hz := hz1.trans hz
  rw [gm_up_up] at X
  have X : gx E (gm_up (gm_up (gm_up (gm_up M n0 (LA E 10 (fun _ => 0))) (n0 + 1) (LA E 10 (fun _ => 0))) (n0 + 2) (LA E 10 (fun _ => 0))) a (OB 2 [.null, .int 1, .ref n0, .ref (n0 + 1), .ref (n0 + 2), .null, .null, .null, .null, .null])) s H locs := X
  refine lv_aload_n hx hb d_Sum_init_33 rfl (lv_at hl 0 rfl) ?_
  refine lv_bipush (v := 10) hx hb d_Sum_init_34 (by decide) ?_
  refine gm_newl hx hb hW X hz (N := 10) (by decide) (by decide) (by decide) ⟨Nat.le_of_ble_eq_true rfl, Nat.le_of_ble_eq_true rfl⟩ d_Sum_init_36 (fun H hz X => ?_)
  have hz : H.size = n0 + 4 := hz
  rw [gm_up_c (show a ≠ n0 + 3 by omega)] at X
  refine gm_putF hx hb hW hown X u_Sum t_Sum t_Sum_ok n_Sum (gm_up_s _ _ _) hA rfl 5 (by decide) wf_Sum_25 rfl hnm rfl (ty := .array .long) (v := .ref (n0 + 3)) (by decide) rfl rfl (Nat.le_of_ble_eq_true rfl) d_Sum_init_38 (fun H locs hz1 X => ?_)
  have hz := hz1.trans hz
  rw [gm_up_up] at X
  have X : gx E (gm_up (gm_up (gm_up (gm_up (gm_up M n0 (LA E 10 (fun _ => 0))) (n0 + 1) (LA E 10 (fun _ => 0))) (n0 + 2) (LA E 10 (fun _ => 0))) (n0 + 3) (LA E 10 (fun _ => 0))) a (OB 2 [.null, .int 1, .ref n0, .ref (n0 + 1), .ref (n0 + 2), .ref (n0 + 3), .null, .null, .null, .null])) s H locs := X
  refine lv_aload_n hx hb d_Sum_init_41 rfl (lv_at hl 0 rfl) ?_
  refine lv_bipush (v := 10) hx hb d_Sum_init_42 (by decide) ?_
  refine gm_newl hx hb hW X hz (N := 10) (by decide) (by decide) (by decide) ⟨Nat.le_of_ble_eq_true rfl, Nat.le_of_ble_eq_true rfl⟩ d_Sum_init_44 (fun H hz X => ?_)
  have hz : H.size = n0 + 5 := hz
  rw [gm_up_c (show a ≠ n0 + 4 by omega)] at X
  refine gm_putF hx hb hW hown X u_Sum t_Sum t_Sum_ok n_Sum (gm_up_s _ _ _) hA rfl 6 (by decide) wf_Sum_28 rfl hnm rfl (ty := .array .long) (v := .ref (n0 + 4)) (by decide) rfl rfl (Nat.le_of_ble_eq_true rfl) d_Sum_init_46 (fun H locs hz1 X => ?_)
  have hz := hz1.trans hz
  rw [gm_up_up] at X
  have X : gx E (gm_up (gm_up (gm_up (gm_up (gm_up (gm_up M n0 (LA E 10 (fun _ => 0))) (n0 + 1) (LA E 10 (fun _ => 0))) (n0 + 2) (LA E 10 (fun _ => 0))) (n0 + 3) (LA E 10 (fun _ => 0))) (n0 + 4) (LA E 10 (fun _ => 0))) a (OB 2 [.null, .int 1, .ref n0, .ref (n0 + 1), .ref (n0 + 2), .ref (n0 + 3), .ref (n0 + 4), .null, .null, .null])) s H locs := X
  refine lv_aload_n hx hb d_Sum_init_49 rfl (lv_at hl 0 rfl) ?_
  refine lv_bipush (v := 10) hx hb d_Sum_init_50 (by decide) ?_
  refine gm_newl hx hb hW X hz (N := 10) (by decide) (by decide) (by decide) ⟨Nat.le_of_ble_eq_true rfl, Nat.le_of_ble_eq_true rfl⟩ d_Sum_init_52 (fun H hz X => ?_)
  have hz : H.size = n0 + 6 := hz
  rw [gm_up_c (show a ≠ n0 + 5 by omega)] at X
  refine gm_putF hx hb hW hown X u_Sum t_Sum t_Sum_ok n_Sum (gm_up_s _ _ _) hA rfl 7 (by decide) wf_Sum_31 rfl hnm rfl (ty := .array .long) (v := .ref (n0 + 5)) (by decide) rfl rfl (Nat.le_of_ble_eq_true rfl) d_Sum_init_54 (fun H locs hz1 X => ?_)
  have hz := hz1.trans hz
  rw [gm_up_up] at X
  have X : gx E (gm_up (gm_up (gm_up (gm_up (gm_up (gm_up (gm_up M n0 (LA E 10 (fun _ => 0))) (n0 + 1) (LA E 10 (fun _ => 0))) (n0 + 2) (LA E 10 (fun _ => 0))) (n0 + 3) (LA E 10 (fun _ => 0))) (n0 + 4) (LA E 10 (fun _ => 0))) (n0 + 5) (LA E 10 (fun _ => 0))) a (OB 2 [.null, .int 1, .ref n0, .ref (n0 + 1), .ref (n0 + 2), .ref (n0 + 3), .ref (n0 + 4), .ref (n0 + 5), .null, .null])) s H locs := X
  refine lv_aload_n hx hb d_Sum_init_57 rfl (lv_at hl 0 rfl) ?_
  refine lv_bipush (v := 10) hx hb d_Sum_init_58 (by decide) ?_
  refine gm_newl hx hb hW X hz (N := 10) (by decide) (by decide) (by decide) ⟨Nat.le_of_ble_eq_true rfl, Nat.le_of_ble_eq_true rfl⟩ d_Sum_init_60 (fun H hz X => ?_)
  have hz : H.size = n0 + 7 := hz
  rw [gm_up_c (show a ≠ n0 + 6 by omega)] at X
  refine gm_putF hx hb hW hown X u_Sum t_Sum t_Sum_ok n_Sum (gm_up_s _ _ _) hA rfl 8 (by decide) wf_Sum_34 rfl hnm rfl (ty := .array .long) (v := .ref (n0 + 6)) (by decide) rfl rfl (Nat.le_of_ble_eq_true rfl) d_Sum_init_62 (fun H locs hz1 X => ?_)
  have hz := hz1.trans hz
  rw [gm_up_up] at X
  have X : gx E (gm_up (gm_up (gm_up (gm_up (gm_up (gm_up (gm_up (gm_up M n0 (LA E 10 (fun _ => 0))) (n0 + 1) (LA E 10 (fun _ => 0))) (n0 + 2) (LA E 10 (fun _ => 0))) (n0 + 3) (LA E 10 (fun _ => 0))) (n0 + 4) (LA E 10 (fun _ => 0))) (n0 + 5) (LA E 10 (fun _ => 0))) (n0 + 6) (LA E 10 (fun _ => 0))) a (OB 2 [.null, .int 1, .ref n0, .ref (n0 + 1), .ref (n0 + 2), .ref (n0 + 3), .ref (n0 + 4), .ref (n0 + 5), .ref (n0 + 6), .null])) s H locs := X
  refine lv_aload_n hx hb d_Sum_init_65 rfl (lv_at hl 0 rfl) ?_
  refine lv_bipush (v := 10) hx hb d_Sum_init_66 (by decide) ?_
  refine gm_newl hx hb hW X hz (N := 10) (by decide) (by decide) (by decide) ⟨Nat.le_of_ble_eq_true rfl, Nat.le_of_ble_eq_true rfl⟩ d_Sum_init_68 (fun H hz X => ?_)
  have hz : H.size = n0 + 8 := hz
  rw [gm_up_c (show a ≠ n0 + 7 by omega)] at X
  refine gm_putF hx hb hW hown X u_Sum t_Sum t_Sum_ok n_Sum (gm_up_s _ _ _) hA rfl 9 (by decide) wf_Sum_37 rfl hnm rfl (ty := .array .long) (v := .ref (n0 + 7)) (by decide) rfl rfl (Nat.le_of_ble_eq_true rfl) d_Sum_init_70 (fun H locs hz1 X => ?_)
  have hz := hz1.trans hz
  rw [gm_up_up] at X
  have X : gx E (gm_up (gm_up (gm_up (gm_up (gm_up (gm_up (gm_up (gm_up (gm_up M n0 (LA E 10 (fun _ => 0))) (n0 + 1) (LA E 10 (fun _ => 0))) (n0 + 2) (LA E 10 (fun _ => 0))) (n0 + 3) (LA E 10 (fun _ => 0))) (n0 + 4) (LA E 10 (fun _ => 0))) (n0 + 5) (LA E 10 (fun _ => 0))) (n0 + 6) (LA E 10 (fun _ => 0))) (n0 + 7) (LA E 10 (fun _ => 0))) a (OB 2 [.null, .int 1, .ref n0, .ref (n0 + 1), .ref (n0 + 2), .ref (n0 + 3), .ref (n0 + 4), .ref (n0 + 5), .ref (n0 + 6), .ref (n0 + 7)])) s H locs := X
  refine lv_aload_n hx hb d_Sum_init_73 rfl (lv_at hl 0 rfl) ?_
  refine lv_aload_n hx hb d_Sum_init_74 rfl (lv_at hl 1 rfl) ?_
  refine gm_putF hx hb hW hown X u_Sum t_Sum t_Sum_ok n_Sum (gm_up_s _ _ _) hA rfl 0 (by decide) wf_Sum_40 rfl hnm rfl (ty := .object "PointBench$Modulus") (v := .ref x1) (by decide) rfl rfl (Nat.le_of_ble_eq_true rfl) d_Sum_init_75 (fun H locs hz1 X => ?_)
  have hz := hz1.trans hz
  rw [gm_up_up] at X
  have X : gx E (gm_up (gm_up (gm_up (gm_up (gm_up (gm_up (gm_up (gm_up (gm_up M n0 (LA E 10 (fun _ => 0))) (n0 + 1) (LA E 10 (fun _ => 0))) (n0 + 2) (LA E 10 (fun _ => 0))) (n0 + 3) (LA E 10 (fun _ => 0))) (n0 + 4) (LA E 10 (fun _ => 0))) (n0 + 5) (LA E 10 (fun _ => 0))) (n0 + 6) (LA E 10 (fun _ => 0))) (n0 + 7) (LA E 10 (fun _ => 0))) a (OB 2 [.ref x1, .int 1, .ref n0, .ref (n0 + 1), .ref (n0 + 2), .ref (n0 + 3), .ref (n0 + 4), .ref (n0 + 5), .ref (n0 + 6), .ref (n0 + 7)])) s H locs := X
  exact gm_vret hx hb hr hlk X rfl d_Sum_init_78
set_option maxHeartbeats 4000000 in
theorem z_Rpt_init (l : Launch) (E : gm_E) (M : gm_M) {a n0 : Nat} (hO : M a = some (OB 5 [.null, .null, .null])) (hA : E.2.1 ≤ a) (han : a < n0) : cz_ l y_Rpt_init b_Rpt_init 1 { frames := 1, cells := 3, slots := 24, locals := 12 } E M n0 [.ref a] (fun M' => M' = gm_up (gm_up (gm_up (gm_up M n0 (IA E 8 (fun _ => 0))) (n0 + 1) (IA E 8 (fun _ => 0))) (n0 + 2) (IA E 8 (fun _ => 0))) a (OB 5 [.ref n0, .ref (n0 + 1), .ref (n0 + 2)])) := by
  refine gm_metZ (by decide) (Nat.le_of_ble_eq_true rfl) (fun p e s m below meth c ls hx hb hml hr hlk hnm hown hW X hz hl => ?_)
  have hl : lv_has ls 1 [(0, .ref a)] := hl
  have X : gx E (gm_up M a (OB 5 [.null, .null, .null])) s s.heap [] := by rw [gm_up_self hO]; exact X
  refine lv_aload_n hx hb d_Rpt_init_0 rfl (lv_at hl 0 rfl) ?_
  refine gm_obj hx hb hml hW hown wl_Rpt_1 hl.1 (Nat.le_of_ble_eq_true rfl) (Nat.le_of_ble_eq_true rfl) d_Rpt_init_1 ?_
  refine lv_aload_n hx hb d_Rpt_init_4 rfl (lv_at hl 0 rfl) ?_
  refine lv_bipush (v := 8) hx hb d_Rpt_init_5 (by decide) ?_
  refine gm_newi hx hb hW X hz (N := 8) (by decide) (by decide) (by decide) ⟨Nat.le_of_ble_eq_true rfl, Nat.le_of_ble_eq_true rfl⟩ d_Rpt_init_7 (fun H hz X => ?_)
  have hz : H.size = n0 + 1 := hz
  rw [gm_up_c (show a ≠ n0 by omega)] at X
  refine gm_putF hx hb hW hown X u_Rpt t_Rpt t_Rpt_ok n_Rpt (gm_up_s _ _ _) hA rfl 0 (by decide) wf_Rpt_7 rfl hnm rfl (ty := .array .int) (v := .ref n0) (by decide) rfl rfl (Nat.le_of_ble_eq_true rfl) d_Rpt_init_9 (fun H locs hz1 X => ?_)
  have hz := hz1.trans hz
  rw [gm_up_up] at X
  have X : gx E (gm_up (gm_up M n0 (IA E 8 (fun _ => 0))) a (OB 5 [.ref n0, .null, .null])) s H locs := X
  refine lv_aload_n hx hb d_Rpt_init_12 rfl (lv_at hl 0 rfl) ?_
  refine lv_bipush (v := 8) hx hb d_Rpt_init_13 (by decide) ?_
  refine gm_newi hx hb hW X hz (N := 8) (by decide) (by decide) (by decide) ⟨Nat.le_of_ble_eq_true rfl, Nat.le_of_ble_eq_true rfl⟩ d_Rpt_init_15 (fun H hz X => ?_)
  have hz : H.size = n0 + 2 := hz
  rw [gm_up_c (show a ≠ n0 + 1 by omega)] at X
  refine gm_putF hx hb hW hown X u_Rpt t_Rpt t_Rpt_ok n_Rpt (gm_up_s _ _ _) hA rfl 1 (by decide) wf_Rpt_13 rfl hnm rfl (ty := .array .int) (v := .ref (n0 + 1)) (by decide) rfl rfl (Nat.le_of_ble_eq_true rfl) d_Rpt_init_17 (fun H locs hz1 X => ?_)
  have hz := hz1.trans hz
  rw [gm_up_up] at X
  have X : gx E (gm_up (gm_up (gm_up M n0 (IA E 8 (fun _ => 0))) (n0 + 1) (IA E 8 (fun _ => 0))) a (OB 5 [.ref n0, .ref (n0 + 1), .null])) s H locs := X
  refine lv_aload_n hx hb d_Rpt_init_20 rfl (lv_at hl 0 rfl) ?_
  refine lv_bipush (v := 8) hx hb d_Rpt_init_21 (by decide) ?_
  refine gm_newi hx hb hW X hz (N := 8) (by decide) (by decide) (by decide) ⟨Nat.le_of_ble_eq_true rfl, Nat.le_of_ble_eq_true rfl⟩ d_Rpt_init_23 (fun H hz X => ?_)
  have hz : H.size = n0 + 3 := hz
  rw [gm_up_c (show a ≠ n0 + 2 by omega)] at X
  refine gm_putF hx hb hW hown X u_Rpt t_Rpt t_Rpt_ok n_Rpt (gm_up_s _ _ _) hA rfl 2 (by decide) wf_Rpt_16 rfl hnm rfl (ty := .array .int) (v := .ref (n0 + 2)) (by decide) rfl rfl (Nat.le_of_ble_eq_true rfl) d_Rpt_init_25 (fun H locs hz1 X => ?_)
  have hz := hz1.trans hz
  rw [gm_up_up] at X
  have X : gx E (gm_up (gm_up (gm_up (gm_up M n0 (IA E 8 (fun _ => 0))) (n0 + 1) (IA E 8 (fun _ => 0))) (n0 + 2) (IA E 8 (fun _ => 0))) a (OB 5 [.ref n0, .ref (n0 + 1), .ref (n0 + 2)])) s H locs := X
  exact gm_vret hx hb hr hlk X rfl d_Rpt_init_28
/-- Newton's steps -/
def nwt (m : Int32) : Nat → Int32
  | 0 => 1
  | k + 1 => nwt m k * (2 - m * nwt m k)
set_option maxHeartbeats 4000000 in
theorem lp_dbl1 {p : Program} {l : Launch} {e : Env} {s : State} {m : MethodId} {args : Array Value} {below : List Frame} {meth : Method} {c : Code} {Q : State → Prop} {E : gm_E} {M1 : gm_M} {a am n0 B : Nat} {mi iv : Int32} {mv : Nat → Int32} (hx : p.tables.exec = Jvm.exec) (hb : c.code = b_Rng_init) (hml : c.maxLocals = 4) (hown : s.vm.findClass R_Rng = some m.cls) (hW : ∀ w ∈ WB, w.before args s = true) (hO : M1 a = some (RO n0 mi (n0 + 1) (n0 + 2) (n0 + 3) (n0 + 4) (n0 + 5) (n0 + 6))) (han : a < n0) (hA : E.2.1 ≤ n0) (hm : M1 n0 = some (IA E 8 mv))
    (kk : ∀ (H : Heap) (locs : List Loc) (ls : Array Slot) (h : Nat → Int32), gx E (gm_up M1 (n0 + 1) (IA E 8 h)) s H locs → lv_has ls 4 [(3, .int (nI 256)), (2, .int iv), (0, .ref a), (1, .ref am)] → IV h 8 = B * 2 ^ 256 % IV mv 8 → W p l e { frames := 2, cells := 7, slots := 58, locals := 50 } s m args below meth c H locs 7 58 Q (F0 m 159 ls [])) :
    ∀ (k i : Nat), i + k = 256 → ∀ (H : Heap) (locs : List Loc) (ls : Array Slot) (h : Nat → Int32), gx E (gm_up M1 (n0 + 1) (IA E 8 h)) s H locs → lv_has ls 4 [(3, .int (nI i)), (2, .int iv), (0, .ref a), (1, .ref am)] → IV h 8 = B * 2 ^ i % IV mv 8 → 0 < IV mv 8 → W p l e { frames := 2, cells := 7, slots := 58, locals := 50 } s m args below meth c H locs 7 58 Q (F0 m 130 ls []) := by
  intro k
  induction k with
  | zero =>
    intro i hi H locs ls h X hl hv hpos
    refine lv_iload_n hx hb d_Rng_init_130 rfl (lv_at hl 0 rfl) ?_
    refine lv_sipush (v := 256) hx hb d_Rng_init_131 (by decide) ?_
    refine lv_icmp_ge (tgt := 159) hx hb d_Rng_init_134 (by decide) (fun c134 => ?_) (fun c134 => ?_)
    · have e : i = 256 := by omega
      subst e
      exact kk H locs ls h X hl hv
    · exact absurd (i_ge (n := 256) (i := i) (by omega) (by omega)) c134
  | succ k ih =>
    intro i hi H locs ls h X hl hv hpos
    refine lv_iload_n hx hb d_Rng_init_130 rfl (lv_at hl 0 rfl) ?_
    refine lv_sipush (v := 256) hx hb d_Rng_init_131 (by decide) ?_
    refine lv_icmp_ge (tgt := 159) hx hb d_Rng_init_134 (by decide) (fun c134 => ?_) (fun c134 => ?_)
    · exact absurd c134 (i_nge (n := 256) (i := i) (by omega) (by omega))
    · have hO1 : gm_up M1 (n0 + 1) (IA E 8 h) a = some (RO n0 mi (n0 + 1) (n0 + 2) (n0 + 3) (n0 + 4) (n0 + 5) (n0 + 6)) := (gm_up_n _ _ (by omega)).trans hO
      have hm1 : gm_up M1 (n0 + 1) (IA E 8 h) n0 = some (IA E 8 mv) := (gm_up_n _ _ (by omega)).trans hm
      refine lv_aload_n hx hb d_Rng_init_137 rfl (lv_at hl 2 rfl) ?_
      refine lv_aload_n hx hb d_Rng_init_138 rfl (lv_at hl 2 rfl) ?_
      refine gm_get hx hb hW hown X u_Rng hO1 rfl 2 (by decide) wf_Rng_15 (v := .ref (n0 + 1)) rfl d_Rng_init_139 ?_
      refine lv_aload_n hx hb d_Rng_init_142 rfl (lv_at hl 2 rfl) ?_
      refine gm_get hx hb hW hown X u_Rng hO1 rfl 2 (by decide) wf_Rng_15 (v := .ref (n0 + 1)) rfl d_Rng_init_143 ?_
      refine lv_aload_n hx hb d_Rng_init_146 rfl (lv_at hl 2 rfl) ?_
      refine gm_get hx hb hW hown X u_Rng hO1 rfl 2 (by decide) wf_Rng_15 (v := .ref (n0 + 1)) rfl d_Rng_init_147 ?_
      have hlt : IV h 8 < IV mv 8 := by rw [hv]; exact Nat.mod_lt _ hpos
      refine gm_Vv hx hb hml hown hW X hO1 (c_Rng_add l E _ hO1 hm1 (gm_up_s _ _ _) (by omega) (by omega) (gm_up_s _ _ _) (gm_up_s _ _ _) hlt hlt) (n := 3) ⟨⟨wl_Rng_37, wi_Rng_add, wsel_Rng_add, winit_Rng, wc_Rng_add⟩, by decide +kernel, ⟨Nat.le_of_ble_eq_true rfl, Nat.le_of_ble_eq_true rfl⟩, _, rfl, rfl⟩ rfl hl.1 rfl (Nat.le_of_ble_eq_true rfl) d_Rng_init_150 ⟨Nat.le_of_ble_eq_true rfl, Nat.le_of_ble_eq_true rfl⟩ (fun M1 H locs hp X => ?_)
      obtain ⟨h1, hp1, hv1⟩ := hp
      rw [hp1, gm_up_up] at X
      refine lv_iinc (v := (nI (i + 1))) (lv' := [(3, .int (nI (i + 1))), (2, .int iv), (0, .ref a), (1, .ref am)]) hx hb d_Rng_init_153 hl (k := 0) rfl (nI_1 i) (by decide) rfl (fun ls hl => ?_)
      refine lv_goto (tgt := 130) hx hb d_Rng_init_156 (by decide) ?_
      exact ih (i + 1) (by omega) H locs ls h1 X hl (by rw [hv1, hv, ← Nat.add_mod, Nat.pow_succ, ← Nat.mul_assoc, Nat.mul_two]) hpos
set_option maxHeartbeats 4000000 in
theorem lp_dbl2 {p : Program} {l : Launch} {e : Env} {s : State} {m : MethodId} {args : Array Value} {below : List Frame} {meth : Method} {c : Code} {Q : State → Prop} {E : gm_E} {M1 : gm_M} {a am n0 B : Nat} {mi iv : Int32} {mv : Nat → Int32} (hx : p.tables.exec = Jvm.exec) (hb : c.code = b_Rng_init) (hml : c.maxLocals = 4) (hown : s.vm.findClass R_Rng = some m.cls) (hW : ∀ w ∈ WB, w.before args s = true) (hO : M1 a = some (RO n0 mi (n0 + 1) (n0 + 2) (n0 + 3) (n0 + 4) (n0 + 5) (n0 + 6))) (han : a < n0) (hA : E.2.1 ≤ n0) (hm : M1 n0 = some (IA E 8 mv))
    (kk : ∀ (H : Heap) (locs : List Loc) (ls : Array Slot) (h : Nat → Int32), gx E (gm_up M1 (n0 + 2) (IA E 8 h)) s H locs → lv_has ls 4 [(3, .int (nI 256)), (2, .int iv), (0, .ref a), (1, .ref am)] → IV h 8 = B * 2 ^ 256 % IV mv 8 → W p l e { frames := 2, cells := 7, slots := 58, locals := 50 } s m args below meth c H locs 7 58 Q (F0 m 201 ls [])) :
    ∀ (k i : Nat), i + k = 256 → ∀ (H : Heap) (locs : List Loc) (ls : Array Slot) (h : Nat → Int32), gx E (gm_up M1 (n0 + 2) (IA E 8 h)) s H locs → lv_has ls 4 [(3, .int (nI i)), (2, .int iv), (0, .ref a), (1, .ref am)] → IV h 8 = B * 2 ^ i % IV mv 8 → 0 < IV mv 8 → W p l e { frames := 2, cells := 7, slots := 58, locals := 50 } s m args below meth c H locs 7 58 Q (F0 m 172 ls []) := by
  intro k
  induction k with
  | zero =>
    intro i hi H locs ls h X hl hv hpos
    refine lv_iload_n hx hb d_Rng_init_172 rfl (lv_at hl 0 rfl) ?_
    refine lv_sipush (v := 256) hx hb d_Rng_init_173 (by decide) ?_
    refine lv_icmp_ge (tgt := 201) hx hb d_Rng_init_176 (by decide) (fun c176 => ?_) (fun c176 => ?_)
    · have e : i = 256 := by omega
      subst e
      exact kk H locs ls h X hl hv
    · exact absurd (i_ge (n := 256) (i := i) (by omega) (by omega)) c176
  | succ k ih =>
    intro i hi H locs ls h X hl hv hpos
    refine lv_iload_n hx hb d_Rng_init_172 rfl (lv_at hl 0 rfl) ?_
    refine lv_sipush (v := 256) hx hb d_Rng_init_173 (by decide) ?_
    refine lv_icmp_ge (tgt := 201) hx hb d_Rng_init_176 (by decide) (fun c176 => ?_) (fun c176 => ?_)
    · exact absurd c176 (i_nge (n := 256) (i := i) (by omega) (by omega))
    · have hO1 : gm_up M1 (n0 + 2) (IA E 8 h) a = some (RO n0 mi (n0 + 1) (n0 + 2) (n0 + 3) (n0 + 4) (n0 + 5) (n0 + 6)) := (gm_up_n _ _ (by omega)).trans hO
      have hm1 : gm_up M1 (n0 + 2) (IA E 8 h) n0 = some (IA E 8 mv) := (gm_up_n _ _ (by omega)).trans hm
      refine lv_aload_n hx hb d_Rng_init_179 rfl (lv_at hl 2 rfl) ?_
      refine lv_aload_n hx hb d_Rng_init_180 rfl (lv_at hl 2 rfl) ?_
      refine gm_get hx hb hW hown X u_Rng hO1 rfl 3 (by decide) wf_Rng_18 (v := .ref (n0 + 2)) rfl d_Rng_init_181 ?_
      refine lv_aload_n hx hb d_Rng_init_184 rfl (lv_at hl 2 rfl) ?_
      refine gm_get hx hb hW hown X u_Rng hO1 rfl 3 (by decide) wf_Rng_18 (v := .ref (n0 + 2)) rfl d_Rng_init_185 ?_
      refine lv_aload_n hx hb d_Rng_init_188 rfl (lv_at hl 2 rfl) ?_
      refine gm_get hx hb hW hown X u_Rng hO1 rfl 3 (by decide) wf_Rng_18 (v := .ref (n0 + 2)) rfl d_Rng_init_189 ?_
      have hlt : IV h 8 < IV mv 8 := by rw [hv]; exact Nat.mod_lt _ hpos
      refine gm_Vv hx hb hml hown hW X hO1 (c_Rng_add l E _ hO1 hm1 (gm_up_s _ _ _) (by omega) (by omega) (gm_up_s _ _ _) (gm_up_s _ _ _) hlt hlt) (n := 3) ⟨⟨wl_Rng_37, wi_Rng_add, wsel_Rng_add, winit_Rng, wc_Rng_add⟩, by decide +kernel, ⟨Nat.le_of_ble_eq_true rfl, Nat.le_of_ble_eq_true rfl⟩, _, rfl, rfl⟩ rfl hl.1 rfl (Nat.le_of_ble_eq_true rfl) d_Rng_init_192 ⟨Nat.le_of_ble_eq_true rfl, Nat.le_of_ble_eq_true rfl⟩ (fun M1 H locs hp X => ?_)
      obtain ⟨h1, hp1, hv1⟩ := hp
      rw [hp1, gm_up_up] at X
      refine lv_iinc (v := (nI (i + 1))) (lv' := [(3, .int (nI (i + 1))), (2, .int iv), (0, .ref a), (1, .ref am)]) hx hb d_Rng_init_195 hl (k := 0) rfl (nI_1 i) (by decide) rfl (fun ls hl => ?_)
      refine lv_goto (tgt := 172) hx hb d_Rng_init_198 (by decide) ?_
      exact ih (i + 1) (by omega) H locs ls h1 X hl (by rw [hv1, hv, ← Nat.add_mod, Nat.pow_succ, ← Nat.mul_assoc, Nat.mul_two]) hpos
theorem rg_eq {M : gm_M} {a n0 : Nat} (han : a < n0) {z0 z1 z2 z3 z4 z5 z6 e0 e1 e2 e3 ob : va_E} : gm_up (gm_up (gm_up (gm_up (gm_up (gm_up (gm_up (gm_up (gm_up (gm_up (gm_up (gm_up M n0 z0) (n0 + 1) z1) (n0 + 2) z2) (n0 + 3) z3) (n0 + 4) z4) (n0 + 5) z5) (n0 + 6) z6) n0 e0) (n0 + 3) e3) (n0 + 1) e1) a ob) (n0 + 2) e2 = gm_up (gm_up (gm_up (gm_up (gm_up (gm_up (gm_up (gm_up M n0 e0) (n0 + 1) e1) (n0 + 2) e2) (n0 + 3) e3) (n0 + 4) z4) (n0 + 5) z5) (n0 + 6) z6) a ob := by
  funext x
  have f0 : ¬ a = n0 := by omega
  have g0 : ¬ n0 = a := by omega
  have f1 : ¬ a = n0 + 1 := by omega
  have g1 : ¬ n0 + 1 = a := by omega
  have f2 : ¬ a = n0 + 2 := by omega
  have g2 : ¬ n0 + 2 = a := by omega
  have f3 : ¬ a = n0 + 3 := by omega
  have g3 : ¬ n0 + 3 = a := by omega
  have f4 : ¬ a = n0 + 4 := by omega
  have g4 : ¬ n0 + 4 = a := by omega
  have f5 : ¬ a = n0 + 5 := by omega
  have g5 : ¬ n0 + 5 = a := by omega
  have f6 : ¬ a = n0 + 6 := by omega
  have g6 : ¬ n0 + 6 = a := by omega
  by_cases q0 : x = n0
  · rw [q0]
    simp [gm_up, f0, f1, f2, f3, f4, f5, f6, g0, g1, g2, g3, g4, g5, g6]
  by_cases q1 : x = n0 + 1
  · rw [q1]
    simp [gm_up, f0, f1, f2, f3, f4, f5, f6, g0, g1, g2, g3, g4, g5, g6]
  by_cases q2 : x = n0 + 2
  · rw [q2]
    simp [gm_up, f0, f1, f2, f3, f4, f5, f6, g0, g1, g2, g3, g4, g5, g6]
  by_cases q3 : x = n0 + 3
  · rw [q3]
    simp [gm_up, f0, f1, f2, f3, f4, f5, f6, g0, g1, g2, g3, g4, g5, g6]
  by_cases q4 : x = n0 + 4
  · rw [q4]
    simp [gm_up, f0, f1, f2, f3, f4, f5, f6, g0, g1, g2, g3, g4, g5, g6]
  by_cases q5 : x = n0 + 5
  · rw [q5]
    simp [gm_up, f0, f1, f2, f3, f4, f5, f6, g0, g1, g2, g3, g4, g5, g6]
  by_cases q6 : x = n0 + 6
  · rw [q6]
    simp [gm_up, f0, f1, f2, f3, f4, f5, f6, g0, g1, g2, g3, g4, g5, g6]
  simp only [gm_up, q0, q1, q2, q3, q4, q5, q6, if_false]
set_option maxHeartbeats 4000000 in
theorem z_Rng_init (l : Launch) (E : gm_E) (M : gm_M) {a n0 : Nat} {am : Nat} {mv : Nat → Int32} {mi : Int32} (ham : M am = some (IA E 8 mv)) (hlt : am < n0) (hmi : -(nwt (mv 0) 5) = mi) (hV : 1 < IV mv 8) (hO : M a = some (OB 4 [.null, .int 0, .null, .null, .null, .null, .null, .null])) (hA : E.2.1 ≤ a) (han : a < n0) : cz_ l y_Rng_init b_Rng_init 4 { frames := 2, cells := 7, slots := 58, locals := 50 } E M n0 [.ref a, .ref am] (fun M' => ∃ h1 h2 : Nat → Int32, M' = gm_up (gm_up (gm_up (gm_up (gm_up (gm_up (gm_up (gm_up M n0 (IA E 8 mv)) (n0 + 1) (IA E 8 h1)) (n0 + 2) (IA E 8 h2)) (n0 + 3) (IA E 8 (upd (fun _ => 0) 0 1))) (n0 + 4) (IA E 10 (fun _ => 0))) (n0 + 5) (IA E 8 (fun _ => 0))) (n0 + 6) (IA E 8 (fun _ => 0))) a (RO n0 mi (n0 + 1) (n0 + 2) (n0 + 3) (n0 + 4) (n0 + 5) (n0 + 6)) ∧ IV h1 8 = 2 ^ 256 % IV mv 8 ∧ IV h2 8 = IV h1 8 * 2 ^ 256 % IV mv 8) := by
  refine gm_metZ (by decide) (Nat.le_of_ble_eq_true rfl) (fun p e s m below meth c ls hx hb hml hr hlk hnm hown hW X hz hl => ?_)
  have hl : lv_has ls 4 [(0, .ref a), (1, .ref am)] := hl
  have X : gx E (gm_up M a (OB 4 [.null, .int 0, .null, .null, .null, .null, .null, .null])) s s.heap [] := by rw [gm_up_self hO]; exact X
  have hO0 := hO
  have hne : am ≠ a := fun h => by subst h; have := Option.some.inj (hO.symm.trans ham); simp [OB, IA] at this
  refine lv_aload_n hx hb d_Rng_init_0 rfl (lv_at hl 0 rfl) ?_
  refine gm_obj hx hb hml hW hown wl_Rng_3 hl.1 (Nat.le_of_ble_eq_true rfl) (Nat.le_of_ble_eq_true rfl) d_Rng_init_1 ?_
  refine lv_aload_n hx hb d_Rng_init_4 rfl (lv_at hl 0 rfl) ?_
  refine lv_bipush (v := 8) hx hb d_Rng_init_5 (by decide) ?_
  refine gm_newi hx hb hW X hz (N := 8) (by decide) (by decide) (by decide) ⟨Nat.le_of_ble_eq_true rfl, Nat.le_of_ble_eq_true rfl⟩ d_Rng_init_7 (fun H hz X => ?_)
  have hz : H.size = n0 + 1 := hz
  rw [gm_up_c (show a ≠ n0 by omega)] at X
  refine gm_putF hx hb hW hown X u_Rng t_Rng t_Rng_ok n_Rng (gm_up_s _ _ _) hA rfl 0 (by decide) wf_Rng_9 rfl hnm rfl (ty := .array .int) (v := .ref n0) (by decide) rfl rfl (Nat.le_of_ble_eq_true rfl) d_Rng_init_9 (fun H locs hz1 X => ?_)
  have hz := hz1.trans hz
  rw [gm_up_up] at X
  have X : gx E (gm_up (gm_up M n0 (IA E 8 (fun _ => 0))) a (OB 4 [.ref n0, .int 0, .null, .null, .null, .null, .null, .null])) s H locs := X
  refine lv_aload_n hx hb d_Rng_init_12 rfl (lv_at hl 0 rfl) ?_
  refine lv_bipush (v := 8) hx hb d_Rng_init_13 (by decide) ?_
  refine gm_newi hx hb hW X hz (N := 8) (by decide) (by decide) (by decide) ⟨Nat.le_of_ble_eq_true rfl, Nat.le_of_ble_eq_true rfl⟩ d_Rng_init_15 (fun H hz X => ?_)
  have hz : H.size = n0 + 2 := hz
  rw [gm_up_c (show a ≠ n0 + 1 by omega)] at X
  refine gm_putF hx hb hW hown X u_Rng t_Rng t_Rng_ok n_Rng (gm_up_s _ _ _) hA rfl 2 (by decide) wf_Rng_15 rfl hnm rfl (ty := .array .int) (v := .ref (n0 + 1)) (by decide) rfl rfl (Nat.le_of_ble_eq_true rfl) d_Rng_init_17 (fun H locs hz1 X => ?_)
  have hz := hz1.trans hz
  rw [gm_up_up] at X
  have X : gx E (gm_up (gm_up (gm_up M n0 (IA E 8 (fun _ => 0))) (n0 + 1) (IA E 8 (fun _ => 0))) a (OB 4 [.ref n0, .int 0, .ref (n0 + 1), .null, .null, .null, .null, .null])) s H locs := X
  refine lv_aload_n hx hb d_Rng_init_20 rfl (lv_at hl 0 rfl) ?_
  refine lv_bipush (v := 8) hx hb d_Rng_init_21 (by decide) ?_
  refine gm_newi hx hb hW X hz (N := 8) (by decide) (by decide) (by decide) ⟨Nat.le_of_ble_eq_true rfl, Nat.le_of_ble_eq_true rfl⟩ d_Rng_init_23 (fun H hz X => ?_)
  have hz : H.size = n0 + 3 := hz
  rw [gm_up_c (show a ≠ n0 + 2 by omega)] at X
  refine gm_putF hx hb hW hown X u_Rng t_Rng t_Rng_ok n_Rng (gm_up_s _ _ _) hA rfl 3 (by decide) wf_Rng_18 rfl hnm rfl (ty := .array .int) (v := .ref (n0 + 2)) (by decide) rfl rfl (Nat.le_of_ble_eq_true rfl) d_Rng_init_25 (fun H locs hz1 X => ?_)
  have hz := hz1.trans hz
  rw [gm_up_up] at X
  have X : gx E (gm_up (gm_up (gm_up (gm_up M n0 (IA E 8 (fun _ => 0))) (n0 + 1) (IA E 8 (fun _ => 0))) (n0 + 2) (IA E 8 (fun _ => 0))) a (OB 4 [.ref n0, .int 0, .ref (n0 + 1), .ref (n0 + 2), .null, .null, .null, .null])) s H locs := X
  refine lv_aload_n hx hb d_Rng_init_28 rfl (lv_at hl 0 rfl) ?_
  refine lv_bipush (v := 8) hx hb d_Rng_init_29 (by decide) ?_
  refine gm_newi hx hb hW X hz (N := 8) (by decide) (by decide) (by decide) ⟨Nat.le_of_ble_eq_true rfl, Nat.le_of_ble_eq_true rfl⟩ d_Rng_init_31 (fun H hz X => ?_)
  have hz : H.size = n0 + 4 := hz
  rw [gm_up_c (show a ≠ n0 + 3 by omega)] at X
  refine gm_putF hx hb hW hown X u_Rng t_Rng t_Rng_ok n_Rng (gm_up_s _ _ _) hA rfl 4 (by decide) wf_Rng_21 rfl hnm rfl (ty := .array .int) (v := .ref (n0 + 3)) (by decide) rfl rfl (Nat.le_of_ble_eq_true rfl) d_Rng_init_33 (fun H locs hz1 X => ?_)
  have hz := hz1.trans hz
  rw [gm_up_up] at X
  have X : gx E (gm_up (gm_up (gm_up (gm_up (gm_up M n0 (IA E 8 (fun _ => 0))) (n0 + 1) (IA E 8 (fun _ => 0))) (n0 + 2) (IA E 8 (fun _ => 0))) (n0 + 3) (IA E 8 (fun _ => 0))) a (OB 4 [.ref n0, .int 0, .ref (n0 + 1), .ref (n0 + 2), .ref (n0 + 3), .null, .null, .null])) s H locs := X
  refine lv_aload_n hx hb d_Rng_init_36 rfl (lv_at hl 0 rfl) ?_
  refine lv_bipush (v := 10) hx hb d_Rng_init_37 (by decide) ?_
  refine gm_newi hx hb hW X hz (N := 10) (by decide) (by decide) (by decide) ⟨Nat.le_of_ble_eq_true rfl, Nat.le_of_ble_eq_true rfl⟩ d_Rng_init_39 (fun H hz X => ?_)
  have hz : H.size = n0 + 5 := hz
  rw [gm_up_c (show a ≠ n0 + 4 by omega)] at X
  refine gm_putF hx hb hW hown X u_Rng t_Rng t_Rng_ok n_Rng (gm_up_s _ _ _) hA rfl 5 (by decide) wf_Rng_24 rfl hnm rfl (ty := .array .int) (v := .ref (n0 + 4)) (by decide) rfl rfl (Nat.le_of_ble_eq_true rfl) d_Rng_init_41 (fun H locs hz1 X => ?_)
  have hz := hz1.trans hz
  rw [gm_up_up] at X
  have X : gx E (gm_up (gm_up (gm_up (gm_up (gm_up (gm_up M n0 (IA E 8 (fun _ => 0))) (n0 + 1) (IA E 8 (fun _ => 0))) (n0 + 2) (IA E 8 (fun _ => 0))) (n0 + 3) (IA E 8 (fun _ => 0))) (n0 + 4) (IA E 10 (fun _ => 0))) a (OB 4 [.ref n0, .int 0, .ref (n0 + 1), .ref (n0 + 2), .ref (n0 + 3), .ref (n0 + 4), .null, .null])) s H locs := X
  refine lv_aload_n hx hb d_Rng_init_44 rfl (lv_at hl 0 rfl) ?_
  refine lv_bipush (v := 8) hx hb d_Rng_init_45 (by decide) ?_
  refine gm_newi hx hb hW X hz (N := 8) (by decide) (by decide) (by decide) ⟨Nat.le_of_ble_eq_true rfl, Nat.le_of_ble_eq_true rfl⟩ d_Rng_init_47 (fun H hz X => ?_)
  have hz : H.size = n0 + 6 := hz
  rw [gm_up_c (show a ≠ n0 + 5 by omega)] at X
  refine gm_putF hx hb hW hown X u_Rng t_Rng t_Rng_ok n_Rng (gm_up_s _ _ _) hA rfl 6 (by decide) wf_Rng_27 rfl hnm rfl (ty := .array .int) (v := .ref (n0 + 5)) (by decide) rfl rfl (Nat.le_of_ble_eq_true rfl) d_Rng_init_49 (fun H locs hz1 X => ?_)
  have hz := hz1.trans hz
  rw [gm_up_up] at X
  have X : gx E (gm_up (gm_up (gm_up (gm_up (gm_up (gm_up (gm_up M n0 (IA E 8 (fun _ => 0))) (n0 + 1) (IA E 8 (fun _ => 0))) (n0 + 2) (IA E 8 (fun _ => 0))) (n0 + 3) (IA E 8 (fun _ => 0))) (n0 + 4) (IA E 10 (fun _ => 0))) (n0 + 5) (IA E 8 (fun _ => 0))) a (OB 4 [.ref n0, .int 0, .ref (n0 + 1), .ref (n0 + 2), .ref (n0 + 3), .ref (n0 + 4), .ref (n0 + 5), .null])) s H locs := X
  refine lv_aload_n hx hb d_Rng_init_52 rfl (lv_at hl 0 rfl) ?_
  refine lv_bipush (v := 8) hx hb d_Rng_init_53 (by decide) ?_
  refine gm_newi hx hb hW X hz (N := 8) (by decide) (by decide) (by decide) ⟨Nat.le_of_ble_eq_true rfl, Nat.le_of_ble_eq_true rfl⟩ d_Rng_init_55 (fun H hz X => ?_)
  have hz : H.size = n0 + 7 := hz
  rw [gm_up_c (show a ≠ n0 + 6 by omega)] at X
  refine gm_putF hx hb hW hown X u_Rng t_Rng t_Rng_ok n_Rng (gm_up_s _ _ _) hA rfl 7 (by decide) wf_Rng_30 rfl hnm rfl (ty := .array .int) (v := .ref (n0 + 6)) (by decide) rfl rfl (Nat.le_of_ble_eq_true rfl) d_Rng_init_57 (fun H locs hz1 X => ?_)
  have hz := hz1.trans hz
  rw [gm_up_up] at X
  have X : gx E (gm_up (gm_up (gm_up (gm_up (gm_up (gm_up (gm_up (gm_up M n0 (IA E 8 (fun _ => 0))) (n0 + 1) (IA E 8 (fun _ => 0))) (n0 + 2) (IA E 8 (fun _ => 0))) (n0 + 3) (IA E 8 (fun _ => 0))) (n0 + 4) (IA E 10 (fun _ => 0))) (n0 + 5) (IA E 8 (fun _ => 0))) (n0 + 6) (IA E 8 (fun _ => 0))) a (OB 4 [.ref n0, .int 0, .ref (n0 + 1), .ref (n0 + 2), .ref (n0 + 3), .ref (n0 + 4), .ref (n0 + 5), .ref (n0 + 6)])) s H locs := X
  refine lv_iconst (v := 0) hx hb d_Rng_init_60 (by decide) ?_
  refine lv_istore_n (lv' := [(2, .int 0), (0, .ref a), (1, .ref am)]) hx hb d_Rng_init_61 rfl hl (by decide) rfl (fun ls hl => ?_)
  refine lv_iload_n hx hb d_Rng_init_62 rfl (lv_at hl 0 rfl) ?_
  refine lv_bipush (v := 8) hx hb d_Rng_init_63 (by decide) ?_
  refine lv_icmp_ge (tgt := 83) hx hb d_Rng_init_65 (by decide) (fun c9 => absurd c9 (by decide)) (fun _ => ?_)
  refine lv_aload_n hx hb d_Rng_init_68 rfl (lv_at hl 1 rfl) ?_
  refine gm_get hx hb hW hown X u_Rng (gm_up_s _ _ _) rfl 0 (by decide) wf_Rng_9 (v := .ref n0) rfl d_Rng_init_69 ?_
  refine lv_iload_n hx hb d_Rng_init_72 rfl (lv_at hl 0 rfl) ?_
  refine lv_aload_n hx hb d_Rng_init_73 rfl (lv_at hl 2 rfl) ?_
  refine lv_iload_n hx hb d_Rng_init_74 rfl (lv_at hl 0 rfl) ?_
  refine gm_iald hx hb X (k := 0) (by repeat (first | exact gm_up_s _ _ _ | exact ham | exact hO0 | rw [gm_up_n _ _ (by omega)])) (by decide) ⟨by decide, by decide⟩ d_Rng_init_75 ?_
  refine gm_iast hx hb X (k := 0) (by repeat (first | exact gm_up_s _ _ _ | exact ham | exact hO0 | rw [gm_up_n _ _ (by omega)])) (by omega) (by decide) ⟨by decide, by decide⟩ d_Rng_init_76 (fun H locs X => ?_)
  rw [gm_up_c (show a ≠ n0 by omega)] at X
  refine lv_iinc (v := 1) (lv' := [(2, .int 1), (0, .ref a), (1, .ref am)]) hx hb d_Rng_init_77 hl (k := 0) rfl (by decide) (by decide) rfl (fun ls hl => ?_)
  refine lv_goto (tgt := 62) hx hb d_Rng_init_80 (by decide) ?_
  refine lv_iload_n hx hb d_Rng_init_62 rfl (lv_at hl 0 rfl) ?_
  refine lv_bipush (v := 8) hx hb d_Rng_init_63 (by decide) ?_
  refine lv_icmp_ge (tgt := 83) hx hb d_Rng_init_65 (by decide) (fun c9 => absurd c9 (by decide)) (fun _ => ?_)
  refine lv_aload_n hx hb d_Rng_init_68 rfl (lv_at hl 1 rfl) ?_
  refine gm_get hx hb hW hown X u_Rng (gm_up_s _ _ _) rfl 0 (by decide) wf_Rng_9 (v := .ref n0) rfl d_Rng_init_69 ?_
  refine lv_iload_n hx hb d_Rng_init_72 rfl (lv_at hl 0 rfl) ?_
  refine lv_aload_n hx hb d_Rng_init_73 rfl (lv_at hl 2 rfl) ?_
  refine lv_iload_n hx hb d_Rng_init_74 rfl (lv_at hl 0 rfl) ?_
  refine gm_iald hx hb X (k := 1) (by repeat (first | exact gm_up_s _ _ _ | exact ham | exact hO0 | rw [gm_up_n _ _ (by omega)])) (by decide) ⟨by decide, by decide⟩ d_Rng_init_75 ?_
  refine gm_iast hx hb X (k := 1) (by repeat (first | exact gm_up_s _ _ _ | exact ham | exact hO0 | rw [gm_up_n _ _ (by omega)])) (by omega) (by decide) ⟨by decide, by decide⟩ d_Rng_init_76 (fun H locs X => ?_)
  rw [gm_up_c (show a ≠ n0 by omega)] at X
  rw [gm_up_up] at X
  refine lv_iinc (v := 2) (lv' := [(2, .int 2), (0, .ref a), (1, .ref am)]) hx hb d_Rng_init_77 hl (k := 0) rfl (by decide) (by decide) rfl (fun ls hl => ?_)
  refine lv_goto (tgt := 62) hx hb d_Rng_init_80 (by decide) ?_
  refine lv_iload_n hx hb d_Rng_init_62 rfl (lv_at hl 0 rfl) ?_
  refine lv_bipush (v := 8) hx hb d_Rng_init_63 (by decide) ?_
  refine lv_icmp_ge (tgt := 83) hx hb d_Rng_init_65 (by decide) (fun c9 => absurd c9 (by decide)) (fun _ => ?_)
  refine lv_aload_n hx hb d_Rng_init_68 rfl (lv_at hl 1 rfl) ?_
  refine gm_get hx hb hW hown X u_Rng (gm_up_s _ _ _) rfl 0 (by decide) wf_Rng_9 (v := .ref n0) rfl d_Rng_init_69 ?_
  refine lv_iload_n hx hb d_Rng_init_72 rfl (lv_at hl 0 rfl) ?_
  refine lv_aload_n hx hb d_Rng_init_73 rfl (lv_at hl 2 rfl) ?_
  refine lv_iload_n hx hb d_Rng_init_74 rfl (lv_at hl 0 rfl) ?_
  refine gm_iald hx hb X (k := 2) (by repeat (first | exact gm_up_s _ _ _ | exact ham | exact hO0 | rw [gm_up_n _ _ (by omega)])) (by decide) ⟨by decide, by decide⟩ d_Rng_init_75 ?_
  refine gm_iast hx hb X (k := 2) (by repeat (first | exact gm_up_s _ _ _ | exact ham | exact hO0 | rw [gm_up_n _ _ (by omega)])) (by omega) (by decide) ⟨by decide, by decide⟩ d_Rng_init_76 (fun H locs X => ?_)
  rw [gm_up_c (show a ≠ n0 by omega)] at X
  rw [gm_up_up] at X
  refine lv_iinc (v := 3) (lv' := [(2, .int 3), (0, .ref a), (1, .ref am)]) hx hb d_Rng_init_77 hl (k := 0) rfl (by decide) (by decide) rfl (fun ls hl => ?_)
  refine lv_goto (tgt := 62) hx hb d_Rng_init_80 (by decide) ?_
  refine lv_iload_n hx hb d_Rng_init_62 rfl (lv_at hl 0 rfl) ?_
  refine lv_bipush (v := 8) hx hb d_Rng_init_63 (by decide) ?_
  refine lv_icmp_ge (tgt := 83) hx hb d_Rng_init_65 (by decide) (fun c9 => absurd c9 (by decide)) (fun _ => ?_)
  refine lv_aload_n hx hb d_Rng_init_68 rfl (lv_at hl 1 rfl) ?_
  refine gm_get hx hb hW hown X u_Rng (gm_up_s _ _ _) rfl 0 (by decide) wf_Rng_9 (v := .ref n0) rfl d_Rng_init_69 ?_
  refine lv_iload_n hx hb d_Rng_init_72 rfl (lv_at hl 0 rfl) ?_
  refine lv_aload_n hx hb d_Rng_init_73 rfl (lv_at hl 2 rfl) ?_
  refine lv_iload_n hx hb d_Rng_init_74 rfl (lv_at hl 0 rfl) ?_
  refine gm_iald hx hb X (k := 3) (by repeat (first | exact gm_up_s _ _ _ | exact ham | exact hO0 | rw [gm_up_n _ _ (by omega)])) (by decide) ⟨by decide, by decide⟩ d_Rng_init_75 ?_
  refine gm_iast hx hb X (k := 3) (by repeat (first | exact gm_up_s _ _ _ | exact ham | exact hO0 | rw [gm_up_n _ _ (by omega)])) (by omega) (by decide) ⟨by decide, by decide⟩ d_Rng_init_76 (fun H locs X => ?_)
  rw [gm_up_c (show a ≠ n0 by omega)] at X
  rw [gm_up_up] at X
  refine lv_iinc (v := 4) (lv' := [(2, .int 4), (0, .ref a), (1, .ref am)]) hx hb d_Rng_init_77 hl (k := 0) rfl (by decide) (by decide) rfl (fun ls hl => ?_)
  refine lv_goto (tgt := 62) hx hb d_Rng_init_80 (by decide) ?_
  refine lv_iload_n hx hb d_Rng_init_62 rfl (lv_at hl 0 rfl) ?_
  refine lv_bipush (v := 8) hx hb d_Rng_init_63 (by decide) ?_
  refine lv_icmp_ge (tgt := 83) hx hb d_Rng_init_65 (by decide) (fun c9 => absurd c9 (by decide)) (fun _ => ?_)
  refine lv_aload_n hx hb d_Rng_init_68 rfl (lv_at hl 1 rfl) ?_
  refine gm_get hx hb hW hown X u_Rng (gm_up_s _ _ _) rfl 0 (by decide) wf_Rng_9 (v := .ref n0) rfl d_Rng_init_69 ?_
  refine lv_iload_n hx hb d_Rng_init_72 rfl (lv_at hl 0 rfl) ?_
  refine lv_aload_n hx hb d_Rng_init_73 rfl (lv_at hl 2 rfl) ?_
  refine lv_iload_n hx hb d_Rng_init_74 rfl (lv_at hl 0 rfl) ?_
  refine gm_iald hx hb X (k := 4) (by repeat (first | exact gm_up_s _ _ _ | exact ham | exact hO0 | rw [gm_up_n _ _ (by omega)])) (by decide) ⟨by decide, by decide⟩ d_Rng_init_75 ?_
  refine gm_iast hx hb X (k := 4) (by repeat (first | exact gm_up_s _ _ _ | exact ham | exact hO0 | rw [gm_up_n _ _ (by omega)])) (by omega) (by decide) ⟨by decide, by decide⟩ d_Rng_init_76 (fun H locs X => ?_)
  rw [gm_up_c (show a ≠ n0 by omega)] at X
  rw [gm_up_up] at X
  refine lv_iinc (v := 5) (lv' := [(2, .int 5), (0, .ref a), (1, .ref am)]) hx hb d_Rng_init_77 hl (k := 0) rfl (by decide) (by decide) rfl (fun ls hl => ?_)
  refine lv_goto (tgt := 62) hx hb d_Rng_init_80 (by decide) ?_
  refine lv_iload_n hx hb d_Rng_init_62 rfl (lv_at hl 0 rfl) ?_
  refine lv_bipush (v := 8) hx hb d_Rng_init_63 (by decide) ?_
  refine lv_icmp_ge (tgt := 83) hx hb d_Rng_init_65 (by decide) (fun c9 => absurd c9 (by decide)) (fun _ => ?_)
  refine lv_aload_n hx hb d_Rng_init_68 rfl (lv_at hl 1 rfl) ?_
  refine gm_get hx hb hW hown X u_Rng (gm_up_s _ _ _) rfl 0 (by decide) wf_Rng_9 (v := .ref n0) rfl d_Rng_init_69 ?_
  refine lv_iload_n hx hb d_Rng_init_72 rfl (lv_at hl 0 rfl) ?_
  refine lv_aload_n hx hb d_Rng_init_73 rfl (lv_at hl 2 rfl) ?_
  refine lv_iload_n hx hb d_Rng_init_74 rfl (lv_at hl 0 rfl) ?_
  refine gm_iald hx hb X (k := 5) (by repeat (first | exact gm_up_s _ _ _ | exact ham | exact hO0 | rw [gm_up_n _ _ (by omega)])) (by decide) ⟨by decide, by decide⟩ d_Rng_init_75 ?_
  refine gm_iast hx hb X (k := 5) (by repeat (first | exact gm_up_s _ _ _ | exact ham | exact hO0 | rw [gm_up_n _ _ (by omega)])) (by omega) (by decide) ⟨by decide, by decide⟩ d_Rng_init_76 (fun H locs X => ?_)
  rw [gm_up_c (show a ≠ n0 by omega)] at X
  rw [gm_up_up] at X
  refine lv_iinc (v := 6) (lv' := [(2, .int 6), (0, .ref a), (1, .ref am)]) hx hb d_Rng_init_77 hl (k := 0) rfl (by decide) (by decide) rfl (fun ls hl => ?_)
  refine lv_goto (tgt := 62) hx hb d_Rng_init_80 (by decide) ?_
  refine lv_iload_n hx hb d_Rng_init_62 rfl (lv_at hl 0 rfl) ?_
  refine lv_bipush (v := 8) hx hb d_Rng_init_63 (by decide) ?_
  refine lv_icmp_ge (tgt := 83) hx hb d_Rng_init_65 (by decide) (fun c9 => absurd c9 (by decide)) (fun _ => ?_)
  refine lv_aload_n hx hb d_Rng_init_68 rfl (lv_at hl 1 rfl) ?_
  refine gm_get hx hb hW hown X u_Rng (gm_up_s _ _ _) rfl 0 (by decide) wf_Rng_9 (v := .ref n0) rfl d_Rng_init_69 ?_
  refine lv_iload_n hx hb d_Rng_init_72 rfl (lv_at hl 0 rfl) ?_
  refine lv_aload_n hx hb d_Rng_init_73 rfl (lv_at hl 2 rfl) ?_
  refine lv_iload_n hx hb d_Rng_init_74 rfl (lv_at hl 0 rfl) ?_
  refine gm_iald hx hb X (k := 6) (by repeat (first | exact gm_up_s _ _ _ | exact ham | exact hO0 | rw [gm_up_n _ _ (by omega)])) (by decide) ⟨by decide, by decide⟩ d_Rng_init_75 ?_
  refine gm_iast hx hb X (k := 6) (by repeat (first | exact gm_up_s _ _ _ | exact ham | exact hO0 | rw [gm_up_n _ _ (by omega)])) (by omega) (by decide) ⟨by decide, by decide⟩ d_Rng_init_76 (fun H locs X => ?_)
  rw [gm_up_c (show a ≠ n0 by omega)] at X
  rw [gm_up_up] at X
  refine lv_iinc (v := 7) (lv' := [(2, .int 7), (0, .ref a), (1, .ref am)]) hx hb d_Rng_init_77 hl (k := 0) rfl (by decide) (by decide) rfl (fun ls hl => ?_)
  refine lv_goto (tgt := 62) hx hb d_Rng_init_80 (by decide) ?_
  refine lv_iload_n hx hb d_Rng_init_62 rfl (lv_at hl 0 rfl) ?_
  refine lv_bipush (v := 8) hx hb d_Rng_init_63 (by decide) ?_
  refine lv_icmp_ge (tgt := 83) hx hb d_Rng_init_65 (by decide) (fun c9 => absurd c9 (by decide)) (fun _ => ?_)
  refine lv_aload_n hx hb d_Rng_init_68 rfl (lv_at hl 1 rfl) ?_
  refine gm_get hx hb hW hown X u_Rng (gm_up_s _ _ _) rfl 0 (by decide) wf_Rng_9 (v := .ref n0) rfl d_Rng_init_69 ?_
  refine lv_iload_n hx hb d_Rng_init_72 rfl (lv_at hl 0 rfl) ?_
  refine lv_aload_n hx hb d_Rng_init_73 rfl (lv_at hl 2 rfl) ?_
  refine lv_iload_n hx hb d_Rng_init_74 rfl (lv_at hl 0 rfl) ?_
  refine gm_iald hx hb X (k := 7) (by repeat (first | exact gm_up_s _ _ _ | exact ham | exact hO0 | rw [gm_up_n _ _ (by omega)])) (by decide) ⟨by decide, by decide⟩ d_Rng_init_75 ?_
  refine gm_iast hx hb X (k := 7) (by repeat (first | exact gm_up_s _ _ _ | exact ham | exact hO0 | rw [gm_up_n _ _ (by omega)])) (by omega) (by decide) ⟨by decide, by decide⟩ d_Rng_init_76 (fun H locs X => ?_)
  rw [gm_up_c (show a ≠ n0 by omega), gm_up_up, ← gm_up_c (show a ≠ n0 by omega)] at X
  have X : gx E (gm_up (gm_up (gm_up (gm_up (gm_up (gm_up (gm_up (gm_up (gm_up M n0 (IA E 8 (fun _ => 0))) (n0 + 1) (IA E 8 (fun _ => 0))) (n0 + 2) (IA E 8 (fun _ => 0))) (n0 + 3) (IA E 8 (fun _ => 0))) (n0 + 4) (IA E 10 (fun _ => 0))) (n0 + 5) (IA E 8 (fun _ => 0))) (n0 + 6) (IA E 8 (fun _ => 0))) a (OB 4 [.ref n0, .int 0, .ref (n0 + 1), .ref (n0 + 2), .ref (n0 + 3), .ref (n0 + 4), .ref (n0 + 5), .ref (n0 + 6)])) n0 (IA E 8 mv)) s H locs := ⟨X.1, gm_IA X.2.1 (fun j hj => by rcases (show j = 0 ∨ j = 1 ∨ j = 2 ∨ j = 3 ∨ j = 4 ∨ j = 5 ∨ j = 6 ∨ j = 7 by omega) with rfl | rfl | rfl | rfl | rfl | rfl | rfl | rfl <;> rfl), X.2.2⟩
  rw [gm_up_c (show a ≠ n0 by omega)] at X
  refine lv_iinc (v := 8) (lv' := [(2, .int 8), (0, .ref a), (1, .ref am)]) hx hb d_Rng_init_77 hl (k := 0) rfl (by decide) (by decide) rfl (fun ls hl => ?_)
  refine lv_goto (tgt := 62) hx hb d_Rng_init_80 (by decide) ?_
  refine lv_iload_n hx hb d_Rng_init_62 rfl (lv_at hl 0 rfl) ?_
  refine lv_bipush (v := 8) hx hb d_Rng_init_63 (by decide) ?_
  refine lv_icmp_ge (tgt := 83) hx hb d_Rng_init_65 (by decide) (fun _ => ?_) (fun c9 => absurd (by decide) c9)
  refine lv_iconst (v := 1) hx hb d_Rng_init_83 (by decide) ?_
  refine lv_eqi (v := nwt (mv 0) 0) rfl ?_
  refine lv_istore_n (lv' := [(2, .int (nwt (mv 0) 0)), (0, .ref a), (1, .ref am)]) hx hb d_Rng_init_84 rfl hl (by decide) rfl (fun ls hl => ?_)
  refine lv_iconst (v := 0) hx hb d_Rng_init_85 (by decide) ?_
  refine lv_istore_n (lv' := [(3, .int 0), (2, .int (nwt (mv 0) 0)), (0, .ref a), (1, .ref am)]) hx hb d_Rng_init_86 rfl hl (by decide) rfl (fun ls hl => ?_)
  refine lv_iload_n hx hb d_Rng_init_87 rfl (lv_at hl 0 rfl) ?_
  refine lv_iconst (v := 5) hx hb d_Rng_init_88 (by decide) ?_
  refine lv_icmp_ge (tgt := 108) hx hb d_Rng_init_89 (by decide) (fun c9 => absurd c9 (by decide)) (fun _ => ?_)
  refine lv_iload_n hx hb d_Rng_init_92 rfl (lv_at hl 1 rfl) ?_
  refine lv_iconst (v := 2) hx hb d_Rng_init_93 (by decide) ?_
  refine lv_aload_n hx hb d_Rng_init_94 rfl (lv_at hl 3 rfl) ?_
  refine lv_iconst (v := 0) hx hb d_Rng_init_95 (by decide) ?_
  refine gm_iald hx hb X (k := 0) (by repeat (first | exact gm_up_s _ _ _ | exact ham | exact hO0 | rw [gm_up_n _ _ (by omega)])) (by decide) ⟨by decide, by decide⟩ d_Rng_init_96 ?_
  refine lv_iload_n hx hb d_Rng_init_97 rfl (lv_at hl 1 rfl) ?_
  refine lv_imul hx hb d_Rng_init_98 ?_
  refine lv_isub hx hb d_Rng_init_99 ?_
  refine lv_imul hx hb d_Rng_init_100 ?_
  refine lv_eqi (v := nwt (mv 0) 1) rfl ?_
  refine lv_istore_n (lv' := [(2, .int (nwt (mv 0) 1)), (3, .int 0), (0, .ref a), (1, .ref am)]) hx hb d_Rng_init_101 rfl hl (by decide) rfl (fun ls hl => ?_)
  refine lv_iinc (v := 1) (lv' := [(3, .int 1), (2, .int (nwt (mv 0) 1)), (0, .ref a), (1, .ref am)]) hx hb d_Rng_init_102 hl (k := 1) rfl (by decide) (by decide) rfl (fun ls hl => ?_)
  refine lv_goto (tgt := 87) hx hb d_Rng_init_105 (by decide) ?_
  refine lv_iload_n hx hb d_Rng_init_87 rfl (lv_at hl 0 rfl) ?_
  refine lv_iconst (v := 5) hx hb d_Rng_init_88 (by decide) ?_
  refine lv_icmp_ge (tgt := 108) hx hb d_Rng_init_89 (by decide) (fun c9 => absurd c9 (by decide)) (fun _ => ?_)
  refine lv_iload_n hx hb d_Rng_init_92 rfl (lv_at hl 1 rfl) ?_
  refine lv_iconst (v := 2) hx hb d_Rng_init_93 (by decide) ?_
  refine lv_aload_n hx hb d_Rng_init_94 rfl (lv_at hl 3 rfl) ?_
  refine lv_iconst (v := 0) hx hb d_Rng_init_95 (by decide) ?_
  refine gm_iald hx hb X (k := 0) (by repeat (first | exact gm_up_s _ _ _ | exact ham | exact hO0 | rw [gm_up_n _ _ (by omega)])) (by decide) ⟨by decide, by decide⟩ d_Rng_init_96 ?_
  refine lv_iload_n hx hb d_Rng_init_97 rfl (lv_at hl 1 rfl) ?_
  refine lv_imul hx hb d_Rng_init_98 ?_
  refine lv_isub hx hb d_Rng_init_99 ?_
  refine lv_imul hx hb d_Rng_init_100 ?_
  refine lv_eqi (v := nwt (mv 0) 2) rfl ?_
  refine lv_istore_n (lv' := [(2, .int (nwt (mv 0) 2)), (3, .int 1), (0, .ref a), (1, .ref am)]) hx hb d_Rng_init_101 rfl hl (by decide) rfl (fun ls hl => ?_)
  refine lv_iinc (v := 2) (lv' := [(3, .int 2), (2, .int (nwt (mv 0) 2)), (0, .ref a), (1, .ref am)]) hx hb d_Rng_init_102 hl (k := 1) rfl (by decide) (by decide) rfl (fun ls hl => ?_)
  refine lv_goto (tgt := 87) hx hb d_Rng_init_105 (by decide) ?_
  refine lv_iload_n hx hb d_Rng_init_87 rfl (lv_at hl 0 rfl) ?_
  refine lv_iconst (v := 5) hx hb d_Rng_init_88 (by decide) ?_
  refine lv_icmp_ge (tgt := 108) hx hb d_Rng_init_89 (by decide) (fun c9 => absurd c9 (by decide)) (fun _ => ?_)
  refine lv_iload_n hx hb d_Rng_init_92 rfl (lv_at hl 1 rfl) ?_
  refine lv_iconst (v := 2) hx hb d_Rng_init_93 (by decide) ?_
  refine lv_aload_n hx hb d_Rng_init_94 rfl (lv_at hl 3 rfl) ?_
  refine lv_iconst (v := 0) hx hb d_Rng_init_95 (by decide) ?_
  refine gm_iald hx hb X (k := 0) (by repeat (first | exact gm_up_s _ _ _ | exact ham | exact hO0 | rw [gm_up_n _ _ (by omega)])) (by decide) ⟨by decide, by decide⟩ d_Rng_init_96 ?_
  refine lv_iload_n hx hb d_Rng_init_97 rfl (lv_at hl 1 rfl) ?_
  refine lv_imul hx hb d_Rng_init_98 ?_
  refine lv_isub hx hb d_Rng_init_99 ?_
  refine lv_imul hx hb d_Rng_init_100 ?_
  refine lv_eqi (v := nwt (mv 0) 3) rfl ?_
  refine lv_istore_n (lv' := [(2, .int (nwt (mv 0) 3)), (3, .int 2), (0, .ref a), (1, .ref am)]) hx hb d_Rng_init_101 rfl hl (by decide) rfl (fun ls hl => ?_)
  refine lv_iinc (v := 3) (lv' := [(3, .int 3), (2, .int (nwt (mv 0) 3)), (0, .ref a), (1, .ref am)]) hx hb d_Rng_init_102 hl (k := 1) rfl (by decide) (by decide) rfl (fun ls hl => ?_)
  refine lv_goto (tgt := 87) hx hb d_Rng_init_105 (by decide) ?_
  refine lv_iload_n hx hb d_Rng_init_87 rfl (lv_at hl 0 rfl) ?_
  refine lv_iconst (v := 5) hx hb d_Rng_init_88 (by decide) ?_
  refine lv_icmp_ge (tgt := 108) hx hb d_Rng_init_89 (by decide) (fun c9 => absurd c9 (by decide)) (fun _ => ?_)
  refine lv_iload_n hx hb d_Rng_init_92 rfl (lv_at hl 1 rfl) ?_
  refine lv_iconst (v := 2) hx hb d_Rng_init_93 (by decide) ?_
  refine lv_aload_n hx hb d_Rng_init_94 rfl (lv_at hl 3 rfl) ?_
  refine lv_iconst (v := 0) hx hb d_Rng_init_95 (by decide) ?_
  refine gm_iald hx hb X (k := 0) (by repeat (first | exact gm_up_s _ _ _ | exact ham | exact hO0 | rw [gm_up_n _ _ (by omega)])) (by decide) ⟨by decide, by decide⟩ d_Rng_init_96 ?_
  refine lv_iload_n hx hb d_Rng_init_97 rfl (lv_at hl 1 rfl) ?_
  refine lv_imul hx hb d_Rng_init_98 ?_
  refine lv_isub hx hb d_Rng_init_99 ?_
  refine lv_imul hx hb d_Rng_init_100 ?_
  refine lv_eqi (v := nwt (mv 0) 4) rfl ?_
  refine lv_istore_n (lv' := [(2, .int (nwt (mv 0) 4)), (3, .int 3), (0, .ref a), (1, .ref am)]) hx hb d_Rng_init_101 rfl hl (by decide) rfl (fun ls hl => ?_)
  refine lv_iinc (v := 4) (lv' := [(3, .int 4), (2, .int (nwt (mv 0) 4)), (0, .ref a), (1, .ref am)]) hx hb d_Rng_init_102 hl (k := 1) rfl (by decide) (by decide) rfl (fun ls hl => ?_)
  refine lv_goto (tgt := 87) hx hb d_Rng_init_105 (by decide) ?_
  refine lv_iload_n hx hb d_Rng_init_87 rfl (lv_at hl 0 rfl) ?_
  refine lv_iconst (v := 5) hx hb d_Rng_init_88 (by decide) ?_
  refine lv_icmp_ge (tgt := 108) hx hb d_Rng_init_89 (by decide) (fun c9 => absurd c9 (by decide)) (fun _ => ?_)
  refine lv_iload_n hx hb d_Rng_init_92 rfl (lv_at hl 1 rfl) ?_
  refine lv_iconst (v := 2) hx hb d_Rng_init_93 (by decide) ?_
  refine lv_aload_n hx hb d_Rng_init_94 rfl (lv_at hl 3 rfl) ?_
  refine lv_iconst (v := 0) hx hb d_Rng_init_95 (by decide) ?_
  refine gm_iald hx hb X (k := 0) (by repeat (first | exact gm_up_s _ _ _ | exact ham | exact hO0 | rw [gm_up_n _ _ (by omega)])) (by decide) ⟨by decide, by decide⟩ d_Rng_init_96 ?_
  refine lv_iload_n hx hb d_Rng_init_97 rfl (lv_at hl 1 rfl) ?_
  refine lv_imul hx hb d_Rng_init_98 ?_
  refine lv_isub hx hb d_Rng_init_99 ?_
  refine lv_imul hx hb d_Rng_init_100 ?_
  refine lv_eqi (v := nwt (mv 0) 5) rfl ?_
  refine lv_istore_n (lv' := [(2, .int (nwt (mv 0) 5)), (3, .int 4), (0, .ref a), (1, .ref am)]) hx hb d_Rng_init_101 rfl hl (by decide) rfl (fun ls hl => ?_)
  refine lv_iinc (v := 5) (lv' := [(3, .int 5), (2, .int (nwt (mv 0) 5)), (0, .ref a), (1, .ref am)]) hx hb d_Rng_init_102 hl (k := 1) rfl (by decide) (by decide) rfl (fun ls hl => ?_)
  refine lv_goto (tgt := 87) hx hb d_Rng_init_105 (by decide) ?_
  refine lv_iload_n hx hb d_Rng_init_87 rfl (lv_at hl 0 rfl) ?_
  refine lv_iconst (v := 5) hx hb d_Rng_init_88 (by decide) ?_
  refine lv_icmp_ge (tgt := 108) hx hb d_Rng_init_89 (by decide) (fun _ => ?_) (fun c9 => absurd (by decide) c9)
  refine lv_aload_n hx hb d_Rng_init_108 rfl (lv_at hl 2 rfl) ?_
  refine lv_iload_n hx hb d_Rng_init_109 rfl (lv_at hl 1 rfl) ?_
  refine lv_ineg hx hb d_Rng_init_110 ?_
  refine gm_putF hx hb hW hown X u_Rng t_Rng t_Rng_ok n_Rng (gm_up_s _ _ _) hA rfl 1 (by decide) wf_Rng_33 rfl hnm rfl (ty := .int) (v := .int (-(nwt (mv 0) 5))) (by decide) rfl rfl (Nat.le_of_ble_eq_true rfl) d_Rng_init_111 (fun H locs hz1 X => ?_)
  rw [gm_up_up] at X
  have X : gx E (gm_up (gm_up (gm_up (gm_up (gm_up (gm_up (gm_up (gm_up (gm_up M n0 (IA E 8 (fun _ => 0))) (n0 + 1) (IA E 8 (fun _ => 0))) (n0 + 2) (IA E 8 (fun _ => 0))) (n0 + 3) (IA E 8 (fun _ => 0))) (n0 + 4) (IA E 10 (fun _ => 0))) (n0 + 5) (IA E 8 (fun _ => 0))) (n0 + 6) (IA E 8 (fun _ => 0))) n0 (IA E 8 mv)) a (OB 4 [.ref n0, .int (-(nwt (mv 0) 5)), .ref (n0 + 1), .ref (n0 + 2), .ref (n0 + 3), .ref (n0 + 4), .ref (n0 + 5), .ref (n0 + 6)])) s H locs := X
  have X : gx E (gm_up (gm_up (gm_up (gm_up (gm_up (gm_up (gm_up (gm_up (gm_up M n0 (IA E 8 (fun _ => 0))) (n0 + 1) (IA E 8 (fun _ => 0))) (n0 + 2) (IA E 8 (fun _ => 0))) (n0 + 3) (IA E 8 (fun _ => 0))) (n0 + 4) (IA E 10 (fun _ => 0))) (n0 + 5) (IA E 8 (fun _ => 0))) (n0 + 6) (IA E 8 (fun _ => 0))) n0 (IA E 8 mv)) a (RO n0 mi (n0 + 1) (n0 + 2) (n0 + 3) (n0 + 4) (n0 + 5) (n0 + 6))) s H locs := by rw [hmi] at X; exact X
  refine lv_aload_n hx hb d_Rng_init_114 rfl (lv_at hl 2 rfl) ?_
  refine gm_get hx hb hW hown X u_Rng (gm_up_s _ _ _) rfl 4 (by decide) wf_Rng_21 (v := .ref (n0 + 3)) rfl d_Rng_init_115 ?_
  refine lv_iconst (v := 0) hx hb d_Rng_init_118 (by decide) ?_
  refine lv_iconst (v := 1) hx hb d_Rng_init_119 (by decide) ?_
  refine gm_iast hx hb X (k := 0) (by repeat (first | exact gm_up_s _ _ _ | exact ham | exact hO0 | rw [gm_up_n _ _ (by omega)])) (by omega) (by decide) ⟨by decide, by decide⟩ d_Rng_init_120 (fun H locs X => ?_)
  rw [gm_up_c (show a ≠ n0 + 3 by omega)] at X
  refine lv_aload_n hx hb d_Rng_init_121 rfl (lv_at hl 2 rfl) ?_
  refine gm_get hx hb hW hown X u_Rng (gm_up_s _ _ _) rfl 2 (by decide) wf_Rng_15 (v := .ref (n0 + 1)) rfl d_Rng_init_122 ?_
  refine lv_iconst (v := 0) hx hb d_Rng_init_125 (by decide) ?_
  refine lv_iconst (v := 1) hx hb d_Rng_init_126 (by decide) ?_
  refine gm_iast hx hb X (k := 0) (by repeat (first | exact gm_up_s _ _ _ | exact ham | exact hO0 | rw [gm_up_n _ _ (by omega)])) (by omega) (by decide) ⟨by decide, by decide⟩ d_Rng_init_127 (fun H locs X => ?_)
  rw [gm_up_c (show a ≠ n0 + 1 by omega)] at X
  refine lv_iconst (v := 0) hx hb d_Rng_init_128 (by decide) ?_
  refine lv_istore_n (lv' := [(3, .int 0), (2, .int (nwt (mv 0) 5)), (0, .ref a), (1, .ref am)]) hx hb d_Rng_init_129 rfl hl (by decide) rfl (fun ls hl => ?_)
  have e1 : IV (upd (fun _ => 0) 0 1) 8 = 1 := by decide +kernel
  have X : gx E (gm_up (gm_up (gm_up (gm_up (gm_up (gm_up (gm_up (gm_up (gm_up (gm_up (gm_up M n0 (IA E 8 (fun _ => 0))) (n0 + 1) (IA E 8 (fun _ => 0))) (n0 + 2) (IA E 8 (fun _ => 0))) (n0 + 3) (IA E 8 (fun _ => 0))) (n0 + 4) (IA E 10 (fun _ => 0))) (n0 + 5) (IA E 8 (fun _ => 0))) (n0 + 6) (IA E 8 (fun _ => 0))) n0 (IA E 8 mv)) (n0 + 3) (IA E 8 (upd (fun _ => 0) 0 1))) a (RO n0 mi (n0 + 1) (n0 + 2) (n0 + 3) (n0 + 4) (n0 + 5) (n0 + 6))) (n0 + 1) (IA E 8 (upd (fun _ => 0) 0 1))) s H locs := by rw [gm_up_c (show a ≠ n0 + 1 by omega)]; exact X
  refine lp_dbl1 (B := 1) hx hb hml hown hW (gm_up_s _ _ _) han (by omega) (by repeat (first | exact gm_up_s _ _ _ | exact ham | exact hO0 | rw [gm_up_n _ _ (by omega)])) (fun H locs ls h1 X hl hv1 => ?_) 256 0 rfl H locs ls _ X hl (by rw [e1, Nat.pow_zero, Nat.one_mul]; exact (Nat.mod_eq_of_lt hV).symm) (by omega)
  rw [gm_up_c (show a ≠ n0 + 1 by omega)] at X
  refine lv_aload_n hx hb d_Rng_init_159 rfl (lv_at hl 2 rfl) ?_
  refine gm_get hx hb hW hown X u_Rng (gm_up_s _ _ _) rfl 2 (by decide) wf_Rng_15 (v := .ref (n0 + 1)) rfl d_Rng_init_160 ?_
  refine lv_aload_n hx hb d_Rng_init_163 rfl (lv_at hl 2 rfl) ?_
  refine gm_get hx hb hW hown X u_Rng (gm_up_s _ _ _) rfl 3 (by decide) wf_Rng_18 (v := .ref (n0 + 2)) rfl d_Rng_init_164 ?_
  refine gm_Sv hx hb hml hown hW X (c_Rng_copy l E _ (to := n0 + 2) (a := n0 + 1) (by repeat (first | exact gm_up_s _ _ _ | exact ham | exact hO0 | rw [gm_up_n _ _ (by omega)])) (by omega) (by repeat (first | exact gm_up_s _ _ _ | exact ham | exact hO0 | rw [gm_up_n _ _ (by omega)]))) (n := 2) ⟨⟨wl_Rng_41, ws_Rng_copy, winit_Rng, wc_Rng_copy⟩, by decide +kernel, Nat.le_of_ble_eq_true rfl, Nat.le_of_ble_eq_true rfl⟩ rfl hl.1 rfl (Nat.le_of_ble_eq_true rfl) d_Rng_init_167 ⟨Nat.le_of_ble_eq_true rfl, Nat.le_of_ble_eq_true rfl⟩ (fun M1 H locs hp X => ?_)
  rw [hp, gm_up_c (show a ≠ n0 + 2 by omega), ← gm_up_c (show a ≠ n0 + 2 by omega)] at X
  refine lv_iconst (v := 0) hx hb d_Rng_init_170 (by decide) ?_
  refine lv_istore_n (lv' := [(3, .int 0), (2, .int (nwt (mv 0) 5)), (0, .ref a), (1, .ref am)]) hx hb d_Rng_init_171 rfl hl (by decide) rfl (fun ls hl => ?_)
  refine lp_dbl2 (B := IV h1 8) hx hb hml hown hW (gm_up_s _ _ _) han (by omega) (by repeat (first | exact gm_up_s _ _ _ | exact ham | exact hO0 | rw [gm_up_n _ _ (by omega)])) (fun H locs ls h2 X hl hv2 => ?_) 256 0 rfl H locs ls _ X hl (by rw [Nat.pow_zero, Nat.mul_one]; exact (Nat.mod_eq_of_lt (by rw [hv1]; exact Nat.mod_lt _ (by omega))).symm) (by omega)
  rw [Nat.one_mul] at hv1
  exact gm_vret hx hb hr hlk X ⟨h1, h2, rg_eq han, hv1, hv2⟩ d_Rng_init_201
