/-! PointBenchModel.Ring.power: written by wip/gen/rng4.py -/
/-- the exponent: the modulus, its lowest word changed -/
def xpF (g : Nat → Int32) (more : Int32) : Nat → Int32 := upd g 0 (g 0 + more)
theorem pw_sq {F : Type} [Lean.Grind.CommRing F] (v : F) (n : Nat) : fp_pw v n * fp_pw v n = fp_pw v (2 * n) := by rw [← fp_pw_add, Nat.two_mul]
theorem pw_s {F : Type} [Lean.Grind.CommRing F] (v : F) (n : Nat) : fp_pw v n * v = fp_pw v (n + 1) := rfl
theorem MV.pw {F : Type} [Lean.Grind.CommRing F] {φ : Int → F} {m : Int} {g : Nat → Int32} {v : F} {a b : Nat} (h : MV φ m g (fp_pw v a)) (e : b = a) : MV φ m g (fp_pw v b) := by
  subst e
  exact h
set_option maxHeartbeats 2000000 in
theorem lp_Rng_power {p : Program} {l : Launch} {e : Env} {s : State} {m : MethodId} {args : Array Value} {below : List Frame} {meth : Method} {c : Code} {Q : State → Prop} {F : Type} [Lean.Grind.CommRing F] {φ : Int → F} {mm : Int} {E : gm_E} {N : gm_M} {τ : Nat → Nat → Int32} {cd : Int32} {k a t sh : Nat} {mo : Int32} {v : F} (hx : p.tables.exec = Jvm.exec) (hb : c.code = b_Rng_power) (hml : c.maxLocals = 7) (hown : s.vm.findClass R_Rng = some m.cls) (hW : ∀ w ∈ WB, w.before args s = true) (hp : rPl E k mm) (hf : fm φ mm) {Ri : F} (hR : φ (tq 8) * Ri = 1) (hr : isR φ mm k τ) (hsh : sh = 0 ∨ sh = 2)
    (kk : ∀ (H : Heap) (locs : List Loc) (ls : Array Slot) τ', gx E (mW E N τ' cd) s H locs → (∀ j, ¬ (k + 4 < j ∧ j < k + 8) → τ' j = τ j) → MV φ mm (τ' (k + 6)) v → MV φ mm (τ' (k + 7)) (fp_pw v (IV (xpF (τ (k + 1)) mo) 8 / 2 ^ sh)) → lv_has ls 7 [(0, .ref (E.2.1 + k)), (1, .ref (E.2.1 + a)), (2, .int mo), (3, .int (nI sh)), (4, .ref (E.2.1 + t))] → W p l e { frames := 2, cells := 0, slots := 0, locals := 52 } s m args below meth c H locs 0 0 Q (F0 m 112 ls [])) :
    ∀ (j i : Nat), i + j = 256 - sh → ∀ (H : Heap) (locs : List Loc) (ls : Array Slot) τ', gx E (mW E N τ' cd) s H locs → (∀ j, ¬ (k + 4 < j ∧ j < k + 8) → τ' j = τ j) → MV φ mm (τ' (k + 6)) v → MV φ mm (τ' (k + 7)) (fp_pw v (IV (xpF (τ (k + 1)) mo) 8 / 2 ^ (256 - i))) → lv_has ls 7 [(5, .int (nI (256 - i) - 1)), (0, .ref (E.2.1 + k)), (1, .ref (E.2.1 + a)), (2, .int mo), (3, .int (nI sh)), (4, .ref (E.2.1 + t))] → W p l e { frames := 2, cells := 0, slots := 0, locals := 52 } s m args below meth c H locs 0 0 Q (F0 m 24 ls []) := by
  obtain ⟨⟨p1, p2, p3, p4, p5, p6⟩, p7, p8, mi, p9, p10⟩ := id hp
  intro j
  induction j with
  | zero =>
    intro i hi H locs ls τ' X hK h1 h2 hl
    refine lv_iload hx hb d_Rng_power_24 (lv_at hl 0 rfl) ?_
    refine lv_iload_n hx hb d_Rng_power_26 rfl (lv_at hl 4 rfl) ?_
    refine lv_icmp_lt (tgt := 112) hx hb d_Rng_power_27 (by decide) (fun c27 => ?_) (fun c27 => ?_)
    · exact kk H locs ls τ' X hK h1 (h2.pw (by rw [show 256 - i = sh by omega])) (lv_sub hl [1, 2, 3, 4, 5] rfl)
    · obtain rfl : i = 256 - sh := by omega
      rcases hsh with rfl | rfl
      · exact absurd (by decide) c27
      · exact absurd (by decide) c27
  | succ j ih =>
    intro i hi H locs ls τ' X hK h1 h2 hl
    have q : nI (256 - i) - 1 = nI (255 - i) := by rw [show 256 - i = (255 - i) + 1 by omega]; exact nI_pred _
    rw [q] at hl
    refine lv_iload hx hb d_Rng_power_24 (lv_at hl 0 rfl) ?_
    refine lv_iload_n hx hb d_Rng_power_26 rfl (lv_at hl 4 rfl) ?_
    refine lv_icmp_lt (tgt := 112) hx hb d_Rng_power_27 (by decide) (fun c27 => ?_) (fun c27 => ?_)
    · exact absurd ((nI_leI (by omega) (by omega)).mpr (show sh ≤ 255 - i by omega)) (Int32.not_le.mpr c27)
    · have hi2 : i < 256 := by omega
      have hr1 : isR φ mm k τ' := hr.kp (fun j a1 a2 => hK j (by omega))
      refine lv_aload_n hx hb d_Rng_power_30 rfl (lv_at hl 1 rfl) ?_
      refine lv_aload_n hx hb d_Rng_power_31 rfl (lv_at hl 1 rfl) ?_
      refine gm_get hx hb hW hown X u_Rng (p10 _ _ _) rfl 7 (by decide) wf_Rng_30 (v := .ref (E.2.1 + (k + 7))) rfl d_Rng_power_32 ?_
      refine lv_aload_n hx hb d_Rng_power_35 rfl (lv_at hl 1 rfl) ?_
      refine gm_get hx hb hW hown X u_Rng (p10 _ _ _) rfl 7 (by decide) wf_Rng_30 (v := .ref (E.2.1 + (k + 7))) rfl d_Rng_power_36 ?_
      refine lv_aload_n hx hb d_Rng_power_39 rfl (lv_at hl 1 rfl) ?_
      refine gm_get hx hb hW hown X u_Rng (p10 _ _ _) rfl 7 (by decide) wf_Rng_30 (v := .ref (E.2.1 + (k + 7))) rfl d_Rng_power_40 ?_
      refine gm_Vv hx hb hml hown hW X (p10 _ _ _) (q_mulS l hp hf hR hr1 p6 p6 p6 (by omega) h2 h2) (n := 3) ⟨⟨wl_Rng_62, wi_Rng_multiply, wsel_Rng_multiply, winit_Rng, wc_Rng_multiply⟩, by decide +kernel, ⟨Nat.le_of_ble_eq_true rfl, Nat.le_of_ble_eq_true rfl⟩, _, rfl, rfl⟩ rfl hl.1 rfl (Nat.le_of_ble_eq_true rfl) d_Rng_power_43 ⟨Nat.le_of_ble_eq_true rfl, Nat.le_of_ble_eq_true rfl⟩ (fun M1 H locs hp1 X => ?_)
      obtain ⟨τ1, rfl, h2, k1⟩ := hp1
      rw [pw_sq] at h2
      have h1 : MV φ mm (τ1 (k + 6)) v := by rw [k1 (k + 6) (by omega) (by omega)]; exact h1
      have hK1 : ∀ j, ¬ (k + 4 < j ∧ j < k + 8) → τ1 j = τ j := fun j hj => (k1 j (by omega) (by omega)).trans (hK j hj)
      have hr3 : isR φ mm k τ1 := hr.kp (fun j a1 a2 => hK1 j (by omega))
      refine lv_iload hx hb d_Rng_power_46 (lv_at hl 0 rfl) ?_
      refine lv_bipush (v := 32) hx hb d_Rng_power_48 (by decide) ?_
      refine lv_icmp_ge (tgt := 64) hx hb d_Rng_power_50 (by decide) (fun c50 => ?_) (fun c50 => ?_)
      · have h32 : 32 ≤ 255 - i := (nI_leI (by omega) (by omega)).mp c50
        refine lv_aload_n hx hb d_Rng_power_64 rfl (lv_at hl 1 rfl) ?_
        refine gm_get hx hb hW hown X u_Rng (p10 _ _ _) rfl 0 (by decide) wf_Rng_9 (v := .ref (E.2.1 + (k + 1))) rfl d_Rng_power_65 ?_
        refine lv_iload hx hb d_Rng_power_68 (lv_at hl 0 rfl) ?_
        refine lv_bipush (v := 32) hx hb d_Rng_power_70 (by decide) ?_
        refine lv_idiv hx hb d_Rng_power_72 (by decide) ?_
        refine lv_eqi (v := nI ((255 - i) / 32)) (pk_div (a := 255 - i) (d := 32) (by omega) (by decide) (by decide)) ?_
        refine gm_iald hx hb X (k := ((255 - i) / 32)) (mw_row p1) rfl ⟨by omega, by decide⟩ d_Rng_power_73 ?_
        have ew : xpF (τ (k + 1)) mo ((255 - i) / 32) = (τ1 (k + 1) ((255 - i) / 32)) := by rw [hK1 (k + 1) (by omega)]; exact if_neg (by omega)
        refine lv_istore (lv' := [(6, .int (τ1 (k + 1) ((255 - i) / 32))), (5, .int (nI (255 - i))), (0, .ref (E.2.1 + k)), (1, .ref (E.2.1 + a)), (2, .int mo), (3, .int (nI sh)), (4, .ref (E.2.1 + t))]) hx hb d_Rng_power_74 hl (by decide) rfl (fun ls hl => ?_)
        refine lv_iload hx hb d_Rng_power_76 (lv_at hl 0 rfl) ?_
        refine lv_iload hx hb d_Rng_power_78 (lv_at hl 1 rfl) ?_
        refine lv_bipush (v := 32) hx hb d_Rng_power_80 (by decide) ?_
        refine lv_irem hx hb d_Rng_power_82 (by decide) ?_
        refine lv_eqi (v := nI ((255 - i) % 32)) (pk_rem (a := 255 - i) (d := 32) (by omega) (by decide) (by decide)) ?_
        refine lv_ishr hx hb d_Rng_power_83 ?_
        refine lv_iconst (v := 1) hx hb d_Rng_power_84 (by decide) ?_
        refine lv_iand hx hb d_Rng_power_85 ?_
        refine lv_iconst (v := 1) hx hb d_Rng_power_86 (by decide) ?_
        refine lv_icmp_ne (tgt := 106) hx hb d_Rng_power_87 (by decide) (fun c87 => ?_) (fun c87 => ?_)
        · have hz : wN (xpF (τ (k + 1)) mo ((255 - i) / 32)) / 2 ^ ((255 - i) % 32) % 2 = 0 := Classical.not_not.mp (fun z => c87 ((bt_i _ _ (by omega)).mpr (by rw [ew] at z; exact z)))
          refine lv_iinc (v := (nI (256 - (i + 1)) - 1)) (lv' := [(5, .int (nI (256 - (i + 1)) - 1)), (6, .int (τ1 (k + 1) ((255 - i) / 32))), (0, .ref (E.2.1 + k)), (1, .ref (E.2.1 + a)), (2, .int mo), (3, .int (nI sh)), (4, .ref (E.2.1 + t))]) hx hb d_Rng_power_106 hl (k := 1) rfl (by rw [show 255 - i = 256 - (i + 1) by omega]; exact i_m1 _) (by decide) rfl (fun ls hl => ?_)
          refine lv_goto (tgt := 24) hx hb d_Rng_power_109 (by decide) ?_
          exact ih (i + 1) (by omega) H locs ls τ1 X hK1 h1 (h2.pw (iv_st0 hi2 hz)) (lv_sub hl [0, 2, 3, 4, 5, 6] rfl)
        · have hz : ¬ wN (xpF (τ (k + 1)) mo ((255 - i) / 32)) / 2 ^ ((255 - i) % 32) % 2 = 0 := by rw [ew]; exact (bt_i _ _ (by omega)).mp c87
          refine lv_aload_n hx hb d_Rng_power_90 rfl (lv_at hl 2 rfl) ?_
          refine lv_aload_n hx hb d_Rng_power_91 rfl (lv_at hl 2 rfl) ?_
          refine gm_get hx hb hW hown X u_Rng (p10 _ _ _) rfl 7 (by decide) wf_Rng_30 (v := .ref (E.2.1 + (k + 7))) rfl d_Rng_power_92 ?_
          refine lv_aload_n hx hb d_Rng_power_95 rfl (lv_at hl 2 rfl) ?_
          refine gm_get hx hb hW hown X u_Rng (p10 _ _ _) rfl 6 (by decide) wf_Rng_27 (v := .ref (E.2.1 + (k + 6))) rfl d_Rng_power_96 ?_
          refine lv_aload_n hx hb d_Rng_power_99 rfl (lv_at hl 2 rfl) ?_
          refine gm_get hx hb hW hown X u_Rng (p10 _ _ _) rfl 7 (by decide) wf_Rng_30 (v := .ref (E.2.1 + (k + 7))) rfl d_Rng_power_100 ?_
          refine gm_Vv hx hb hml hown hW X (p10 _ _ _) (q_mulS l hp hf hR hr3 p6 p6 p5 (by omega) h2 h1) (n := 3) ⟨⟨wl_Rng_62, wi_Rng_multiply, wsel_Rng_multiply, winit_Rng, wc_Rng_multiply⟩, by decide +kernel, ⟨Nat.le_of_ble_eq_true rfl, Nat.le_of_ble_eq_true rfl⟩, _, rfl, rfl⟩ rfl hl.1 rfl (Nat.le_of_ble_eq_true rfl) d_Rng_power_103 ⟨Nat.le_of_ble_eq_true rfl, Nat.le_of_ble_eq_true rfl⟩ (fun M1 H locs hp1 X => ?_)
          obtain ⟨τ2, rfl, h2, k2⟩ := hp1
          rw [pw_s] at h2
          have hK2 : ∀ j, ¬ (k + 4 < j ∧ j < k + 8) → τ2 j = τ j := fun j hj => (k2 j (by omega) (by omega)).trans (hK1 j hj)
          have h1 : MV φ mm (τ2 (k + 6)) v := by rw [k2 (k + 6) (by omega) (by omega)]; exact h1
          refine lv_iinc (v := (nI (256 - (i + 1)) - 1)) (lv' := [(5, .int (nI (256 - (i + 1)) - 1)), (6, .int (τ1 (k + 1) ((255 - i) / 32))), (0, .ref (E.2.1 + k)), (1, .ref (E.2.1 + a)), (2, .int mo), (3, .int (nI sh)), (4, .ref (E.2.1 + t))]) hx hb d_Rng_power_106 hl (k := 1) rfl (by rw [show 255 - i = 256 - (i + 1) by omega]; exact i_m1 _) (by decide) rfl (fun ls hl => ?_)
          refine lv_goto (tgt := 24) hx hb d_Rng_power_109 (by decide) ?_
          exact ih (i + 1) (by omega) H locs ls τ2 X hK2 h1 (h2.pw (iv_st1 hi2 hz)) (lv_sub hl [0, 2, 3, 4, 5, 6] rfl)
      · have h32 : ¬ 32 ≤ 255 - i := fun z => c50 (i_ge (n := 32) (i := 255 - i) z (by omega))
        refine lv_aload_n hx hb d_Rng_power_53 rfl (lv_at hl 1 rfl) ?_
        refine gm_get hx hb hW hown X u_Rng (p10 _ _ _) rfl 0 (by decide) wf_Rng_9 (v := .ref (E.2.1 + (k + 1))) rfl d_Rng_power_54 ?_
        refine lv_iconst (v := 0) hx hb d_Rng_power_57 (by decide) ?_
        refine gm_iald hx hb X (k := 0) (mw_row p1) (by decide) ⟨by decide, by decide⟩ d_Rng_power_58 ?_
        refine lv_iload_n hx hb d_Rng_power_59 rfl (lv_at hl 3 rfl) ?_
        refine lv_iadd hx hb d_Rng_power_60 ?_
        refine lv_goto (tgt := 74) hx hb d_Rng_power_61 (by decide) ?_
        have ew : xpF (τ (k + 1)) mo ((255 - i) / 32) = (τ1 (k + 1) 0 + mo) := by rw [hK1 (k + 1) (by omega), show (255 - i) / 32 = 0 by omega]; rfl
        refine lv_istore (lv' := [(6, .int (τ1 (k + 1) 0 + mo)), (5, .int (nI (255 - i))), (0, .ref (E.2.1 + k)), (1, .ref (E.2.1 + a)), (2, .int mo), (3, .int (nI sh)), (4, .ref (E.2.1 + t))]) hx hb d_Rng_power_74 hl (by decide) rfl (fun ls hl => ?_)
        refine lv_iload hx hb d_Rng_power_76 (lv_at hl 0 rfl) ?_
        refine lv_iload hx hb d_Rng_power_78 (lv_at hl 1 rfl) ?_
        refine lv_bipush (v := 32) hx hb d_Rng_power_80 (by decide) ?_
        refine lv_irem hx hb d_Rng_power_82 (by decide) ?_
        refine lv_eqi (v := nI ((255 - i) % 32)) (pk_rem (a := 255 - i) (d := 32) (by omega) (by decide) (by decide)) ?_
        refine lv_ishr hx hb d_Rng_power_83 ?_
        refine lv_iconst (v := 1) hx hb d_Rng_power_84 (by decide) ?_
        refine lv_iand hx hb d_Rng_power_85 ?_
        refine lv_iconst (v := 1) hx hb d_Rng_power_86 (by decide) ?_
        refine lv_icmp_ne (tgt := 106) hx hb d_Rng_power_87 (by decide) (fun c87 => ?_) (fun c87 => ?_)
        · have hz : wN (xpF (τ (k + 1)) mo ((255 - i) / 32)) / 2 ^ ((255 - i) % 32) % 2 = 0 := Classical.not_not.mp (fun z => c87 ((bt_i _ _ (by omega)).mpr (by rw [ew] at z; exact z)))
          refine lv_iinc (v := (nI (256 - (i + 1)) - 1)) (lv' := [(5, .int (nI (256 - (i + 1)) - 1)), (6, .int (τ1 (k + 1) 0 + mo)), (0, .ref (E.2.1 + k)), (1, .ref (E.2.1 + a)), (2, .int mo), (3, .int (nI sh)), (4, .ref (E.2.1 + t))]) hx hb d_Rng_power_106 hl (k := 1) rfl (by rw [show 255 - i = 256 - (i + 1) by omega]; exact i_m1 _) (by decide) rfl (fun ls hl => ?_)
          refine lv_goto (tgt := 24) hx hb d_Rng_power_109 (by decide) ?_
          exact ih (i + 1) (by omega) H locs ls τ1 X hK1 h1 (h2.pw (iv_st0 hi2 hz)) (lv_sub hl [0, 2, 3, 4, 5, 6] rfl)
        · have hz : ¬ wN (xpF (τ (k + 1)) mo ((255 - i) / 32)) / 2 ^ ((255 - i) % 32) % 2 = 0 := by rw [ew]; exact (bt_i _ _ (by omega)).mp c87
          refine lv_aload_n hx hb d_Rng_power_90 rfl (lv_at hl 2 rfl) ?_
          refine lv_aload_n hx hb d_Rng_power_91 rfl (lv_at hl 2 rfl) ?_
          refine gm_get hx hb hW hown X u_Rng (p10 _ _ _) rfl 7 (by decide) wf_Rng_30 (v := .ref (E.2.1 + (k + 7))) rfl d_Rng_power_92 ?_
          refine lv_aload_n hx hb d_Rng_power_95 rfl (lv_at hl 2 rfl) ?_
          refine gm_get hx hb hW hown X u_Rng (p10 _ _ _) rfl 6 (by decide) wf_Rng_27 (v := .ref (E.2.1 + (k + 6))) rfl d_Rng_power_96 ?_
          refine lv_aload_n hx hb d_Rng_power_99 rfl (lv_at hl 2 rfl) ?_
          refine gm_get hx hb hW hown X u_Rng (p10 _ _ _) rfl 7 (by decide) wf_Rng_30 (v := .ref (E.2.1 + (k + 7))) rfl d_Rng_power_100 ?_
          refine gm_Vv hx hb hml hown hW X (p10 _ _ _) (q_mulS l hp hf hR hr3 p6 p6 p5 (by omega) h2 h1) (n := 3) ⟨⟨wl_Rng_62, wi_Rng_multiply, wsel_Rng_multiply, winit_Rng, wc_Rng_multiply⟩, by decide +kernel, ⟨Nat.le_of_ble_eq_true rfl, Nat.le_of_ble_eq_true rfl⟩, _, rfl, rfl⟩ rfl hl.1 rfl (Nat.le_of_ble_eq_true rfl) d_Rng_power_103 ⟨Nat.le_of_ble_eq_true rfl, Nat.le_of_ble_eq_true rfl⟩ (fun M1 H locs hp1 X => ?_)
          obtain ⟨τ2, rfl, h2, k2⟩ := hp1
          rw [pw_s] at h2
          have hK2 : ∀ j, ¬ (k + 4 < j ∧ j < k + 8) → τ2 j = τ j := fun j hj => (k2 j (by omega) (by omega)).trans (hK1 j hj)
          have h1 : MV φ mm (τ2 (k + 6)) v := by rw [k2 (k + 6) (by omega) (by omega)]; exact h1
          refine lv_iinc (v := (nI (256 - (i + 1)) - 1)) (lv' := [(5, .int (nI (256 - (i + 1)) - 1)), (6, .int (τ1 (k + 1) 0 + mo)), (0, .ref (E.2.1 + k)), (1, .ref (E.2.1 + a)), (2, .int mo), (3, .int (nI sh)), (4, .ref (E.2.1 + t))]) hx hb d_Rng_power_106 hl (k := 1) rfl (by rw [show 255 - i = 256 - (i + 1) by omega]; exact i_m1 _) (by decide) rfl (fun ls hl => ?_)
          refine lv_goto (tgt := 24) hx hb d_Rng_power_109 (by decide) ?_
          exact ih (i + 1) (by omega) H locs ls τ2 X hK2 h1 (h2.pw (iv_st1 hi2 hz)) (lv_sub hl [0, 2, 3, 4, 5, 6] rfl)
set_option maxHeartbeats 2000000 in
theorem q_power {F : Type} [Lean.Grind.CommRing F] {φ : Int → F} {mm : Int} (l : Launch) {E : gm_E} {N : gm_M} {τ : Nat → Nat → Int32} {cd : Int32} {k : Nat} (hp : rPl E k mm) (hf : fm φ mm) {Ri : F} (hR : φ (tq 8) * Ri = 1) (hr : isR φ mm k τ) {a t sh : Nat} {mo : Int32} {v : F} (hsh : sh = 0 ∨ sh = 2) (ht : q8 t) (ha : q8 a) (hne : ¬ (k < t ∧ t < k + 8)) (h1 : MV φ mm (τ a) v) : cv_ l y_Rng_power b_Rng_power 7 none { frames := 2, cells := 0, slots := 0, locals := 52 } E (mW E N τ cd) [.ref (E.2.1 + k), .ref (E.2.1 + a), .int mo, .int (nI sh), .ref (E.2.1 + t)] (fun M' => ∃ τ', M' = mW E N τ' cd ∧ MV φ mm (τ' t) (fp_pw v (IV (xpF (τ (k + 1)) mo) 8 / 2 ^ sh)) ∧ kr k t τ τ') := by
  obtain ⟨⟨p1, p2, p3, p4, p5, p6⟩, p7, p8, mi, p9, p10⟩ := id hp
  refine gm_met (by decide) (Nat.le_of_ble_eq_true rfl) (fun p e s m below meth c ls hx hb hml hr2 hlk hnm hown hW X hl => ?_)
  have hl : lv_has ls 7 [(0, .ref (E.2.1 + k)), (1, .ref (E.2.1 + a)), (2, .int mo), (3, .int (nI sh)), (4, .ref (E.2.1 + t))] := hl
  refine lv_aload_n hx hb d_Rng_power_0 rfl (lv_at hl 1 rfl) ?_
  refine lv_aload_n hx hb d_Rng_power_1 rfl (lv_at hl 0 rfl) ?_
  refine gm_get hx hb hW hown X u_Rng (p10 _ _ _) rfl 6 (by decide) wf_Rng_27 (v := .ref (E.2.1 + (k + 6))) rfl d_Rng_power_2 ?_
  refine gm_Sv hx hb hml hown hW X (q_copy l p5 ha) (n := 2) ⟨⟨wl_Rng_41, ws_Rng_copy, winit_Rng, wc_Rng_copy⟩, by decide +kernel, Nat.le_of_ble_eq_true rfl, Nat.le_of_ble_eq_true rfl⟩ rfl hl.1 rfl (Nat.le_of_ble_eq_true rfl) d_Rng_power_5 ⟨Nat.le_of_ble_eq_true rfl, Nat.le_of_ble_eq_true rfl⟩ (fun M1 H locs hp1 X => ?_)
  obtain ⟨τ1, rfl, q1, k1⟩ := hp1
  refine lv_aload_n hx hb d_Rng_power_8 rfl (lv_at hl 0 rfl) ?_
  refine gm_get hx hb hW hown X u_Rng (p10 _ _ _) rfl 2 (by decide) wf_Rng_15 (v := .ref (E.2.1 + (k + 2))) rfl d_Rng_power_9 ?_
  refine lv_aload_n hx hb d_Rng_power_12 rfl (lv_at hl 0 rfl) ?_
  refine gm_get hx hb hW hown X u_Rng (p10 _ _ _) rfl 7 (by decide) wf_Rng_30 (v := .ref (E.2.1 + (k + 7))) rfl d_Rng_power_13 ?_
  refine gm_Sv hx hb hml hown hW X (q_copy l p6 p2) (n := 2) ⟨⟨wl_Rng_41, ws_Rng_copy, winit_Rng, wc_Rng_copy⟩, by decide +kernel, Nat.le_of_ble_eq_true rfl, Nat.le_of_ble_eq_true rfl⟩ rfl hl.1 rfl (Nat.le_of_ble_eq_true rfl) d_Rng_power_16 ⟨Nat.le_of_ble_eq_true rfl, Nat.le_of_ble_eq_true rfl⟩ (fun M1 H locs hp1 X => ?_)
  obtain ⟨τ2, rfl, q2, k2⟩ := hp1
  have hK : ∀ j, ¬ (k + 4 < j ∧ j < k + 8) → τ2 j = τ j := fun j hj => (k2 j (by omega)).trans (k1 j (by omega))
  have g1 : MV φ mm (τ2 (k + 6)) v := by rw [k2 (k + 6) (by omega), q1]; exact h1
  have g2 : MV φ mm (τ2 (k + 7)) (fp_pw v 0) := by rw [q2, k1 (k + 2) (by omega)]; exact hr.2.1
  refine lv_sipush (v := 255) hx hb d_Rng_power_19 (by decide) ?_
  refine lv_istore (lv' := [(5, .int 255), (0, .ref (E.2.1 + k)), (1, .ref (E.2.1 + a)), (2, .int mo), (3, .int (nI sh)), (4, .ref (E.2.1 + t))]) hx hb d_Rng_power_22 hl (by decide) rfl (fun ls hl => ?_)
  refine lp_Rng_power (a := a) (t := t) hx hb hml hown hW hp hf hR hr hsh (fun H locs ls τ' X hK h1 h2 hl => ?_) (256 - sh) 0 (by omega) H locs ls τ2 X hK g1 (g2.pw (Nat.div_eq_of_lt (IV_lt256 _))) hl
  refine lv_aload_n hx hb d_Rng_power_112 rfl (lv_at hl 0 rfl) ?_
  refine gm_get hx hb hW hown X u_Rng (p10 _ _ _) rfl 7 (by decide) wf_Rng_30 (v := .ref (E.2.1 + (k + 7))) rfl d_Rng_power_113 ?_
  refine lv_aload hx hb d_Rng_power_116 (lv_at hl 4 rfl) ?_
  refine gm_Sv hx hb hml hown hW X (q_copy l ht p6) (n := 2) ⟨⟨wl_Rng_41, ws_Rng_copy, winit_Rng, wc_Rng_copy⟩, by decide +kernel, Nat.le_of_ble_eq_true rfl, Nat.le_of_ble_eq_true rfl⟩ rfl hl.1 rfl (Nat.le_of_ble_eq_true rfl) d_Rng_power_118 ⟨Nat.le_of_ble_eq_true rfl, Nat.le_of_ble_eq_true rfl⟩ (fun M1 H locs hp1 X => ?_)
  obtain ⟨τ3, rfl, q3, k3⟩ := hp1
  exact gm_vret hx hb hr2 hlk X ⟨τ3, rfl, by rw [q3]; exact h2, fun j hj hk => (k3 j hj).trans (hK j hk)⟩ d_Rng_power_121
