/-! PointBenchModel.Ring: multiply, enter, leave, power: written by wip/gen/rng3.py -/
theorem nI_s (k : Nat) : nI k + 1 = nI (k + 1) := nI_1 k
theorem mg_0 {t mi N : Nat} (h : (mi * N + 1) % 4294967296 = 0) : (t + (t % 4294967296 * mi) % 4294967296 * N) % 4294967296 = 0 := by
  have h1 : (t + (t % 4294967296 * mi) % 4294967296 * N) % 4294967296 = (t * (mi * N + 1)) % 4294967296 := by
    rw [Nat.add_mod, Nat.mul_mod ((t % 4294967296 * mi) % 4294967296), Nat.mod_mod, Nat.mul_mod (t % 4294967296) mi, Nat.mod_mod, ← Nat.mul_mod t mi, ← Nat.mul_mod, ← Nat.add_mod]
    congr 1
    grind
  rw [h1, Nat.mul_mod, h, Nat.mul_zero, Nat.zero_mod]
/-- one turn: T and its word w of a; q the word that clears the lowest -/
theorem mg_st {T T2 w B N q A Q p : Nat} (hw : w < 4294967296) (hq : q < 4294967296) (e : T2 * 4294967296 = T + w * B + q * N) (hT : T < B + N) (hA : T * p = A * B + Q * N) : T2 < B + N ∧ T2 * (p * 4294967296) = (A + w * p) * B + (Q + q * p) * N := by
  constructor
  · have h1 : w * B ≤ 4294967295 * B := Nat.mul_le_mul_right B (by omega)
    have h2 : q * N ≤ 4294967295 * N := Nat.mul_le_mul_right N (by omega)
    omega
  · have h3 : T2 * (p * 4294967296) = (T2 * 4294967296) * p := by grind
    rw [h3, e]
    have h4 : (T + w * B + q * N) * p = T * p + w * B * p + q * N * p := by grind
    rw [h4, hA]
    grind
theorem mg_b {T w B N T8 : Nat} (hw : w < 4294967296) (hB : B < T8) (hN : N < T8) (hT : T < B + N) : T + w * B < T8 * 4294967296 * 4294967296 ∧ ∀ q, q < 4294967296 → T + w * B + q * N < T8 * 4294967296 * 4294967296 := by
  have h1 : w * B ≤ 4294967295 * B := Nat.mul_le_mul_right B (by omega)
  refine ⟨by omega, fun q hq => ?_⟩
  have h2 : q * N ≤ 4294967295 * N := Nat.mul_le_mul_right N (by omega)
  omega
theorem mg_w {h : Nat → Int32} : wN (h 0) = IV h 10 % 4294967296 := by
  rw [IV_sh h 9]
  have := wN_lt (h 0)
  generalize IV (fun j => h (j + 1)) 9 = x
  omega
theorem mg_sh {h : Nat → Int32} {x : Nat} (e : IV h 10 = x) (h0 : x % 4294967296 = 0) : IV (upd (mx 9 (fun j => h (j + 1)) h) 9 0) 10 * 4294967296 = x := by
  rw [IV_up, IV_cg (f := mx 9 (fun j => h (j + 1)) h) (g := fun j => h (j + 1)) (fun j hj => mx_lt _ _ hj), show wN 0 = 0 by decide, Nat.zero_mul, Nat.add_zero]
  rw [IV_sh h 9] at e
  have := wN_lt (h 0)
  generalize IV (fun j => h (j + 1)) 9 = z at *
  omega
set_option maxHeartbeats 1000000 in
theorem lp_Rng_z {p : Program} {l : Launch} {e : Env} {s : State} {m : MethodId} {args : Array Value} {below : List Frame} {meth : Method} {c : Code} {R : Room} {Q : State → Prop} {cells slots : Nat} {E : gm_E} {M : gm_M} {mo on tw pl rw ba ot o : Nat} {mi : Int32} {a b to : Nat} {gr : Nat → Int32} (hx : p.tables.exec = Jvm.exec) (hb : c.code = b_Rng_multiply) (hown : s.vm.findClass R_Rng = some m.cls) (hW : ∀ w ∈ WB, w.before args s = true) (hO : M o = some (RO mo mi on tw pl rw ba ot)) (hA : E.2.1 ≤ rw) (hg : M rw = some (IA E 10 gr))
    (kk : ∀ (H : Heap) (locs : List Loc) (ls : Array Slot), gx E (gm_up M rw (IA E 10 (fun _ => 0))) s H locs → lv_has ls 6 [(0, .ref o), (1, .ref a), (2, .ref b), (3, .ref to)] → W p l e R s m args below meth c H locs cells slots Q (F0 m 24 ls [])) :
    ∀ (j k : Nat), k + j = 10 → ∀ (H : Heap) (locs : List Loc) (ls : Array Slot), gx E (gm_up M rw (IA E 10 (mx k (fun _ => 0) gr))) s H locs → lv_has ls 6 [(4, .int (nI k)), (0, .ref o), (1, .ref a), (2, .ref b), (3, .ref to)] → W p l e R s m args below meth c H locs cells slots Q (F0 m 3 ls []) := by
  have oo : ∀ e, gm_up M rw e o = some (RO mo mi on tw pl rw ba ot) := fun e => ob_ui hO hg
  intro j
  induction j with
  | zero =>
    intro k hk H locs ls X hl
    refine lv_iload hx hb d_Rng_multiply_3 (lv_at hl 0 rfl) ?_
    refine lv_bipush (v := 10) hx hb d_Rng_multiply_5 (by decide) ?_
    refine lv_icmp_ge (tgt := 24) hx hb d_Rng_multiply_7 (by decide) (fun c7 => ?_) (fun c7 => ?_)
    · obtain rfl : k = 10 := by omega
      exact kk H locs ls ⟨X.1, gm_IA X.2.1 (fun j hj => by rw [mx_lt _ _ hj]), X.2.2⟩ (lv_sub hl [1, 2, 3, 4] rfl)
    · exact absurd (i_ge (n := 10) (i := k) (by omega) (by omega)) c7
  | succ j ih =>
    intro k hk H locs ls X hl
    refine lv_iload hx hb d_Rng_multiply_3 (lv_at hl 0 rfl) ?_
    refine lv_bipush (v := 10) hx hb d_Rng_multiply_5 (by decide) ?_
    refine lv_icmp_ge (tgt := 24) hx hb d_Rng_multiply_7 (by decide) (fun c7 => ?_) (fun c7 => ?_)
    · exact absurd c7 (i_nge (n := 10) (i := k) (by omega) (by omega))
    · refine lv_aload_n hx hb d_Rng_multiply_10 rfl (lv_at hl 1 rfl) ?_
      refine gm_get hx hb hW hown X u_Rng (oo _) rfl 5 (by decide) wf_Rng_24 (v := .ref rw) rfl d_Rng_multiply_11 ?_
      refine lv_iload hx hb d_Rng_multiply_14 (lv_at hl 0 rfl) ?_
      refine lv_iconst (v := 0) hx hb d_Rng_multiply_16 (by decide) ?_
      refine gm_iast hx hb X (k := k) (gm_up_s _ _ _) hA rfl ⟨by omega, by decide⟩ d_Rng_multiply_17 (fun H locs X => ?_)
      rw [gm_up_up, show (0 : Int32) = (fun _ : Nat => (0 : Int32)) k from rfl, mx_sI] at X
      refine lv_iinc (v := (nI (k + 1))) (lv' := [(4, .int (nI (k + 1))), (0, .ref o), (1, .ref a), (2, .ref b), (3, .ref to)]) hx hb d_Rng_multiply_18 hl (k := 0) rfl (nI_1 k) (by decide) rfl (fun ls hl => ?_)
      refine lv_goto (tgt := 3) hx hb d_Rng_multiply_21 (by decide) ?_
      exact ih (k + 1) (by omega) H locs ls X hl
set_option maxHeartbeats 1000000 in
theorem lp_Rng_sh {p : Program} {l : Launch} {e : Env} {s : State} {m : MethodId} {args : Array Value} {below : List Frame} {meth : Method} {c : Code} {R : Room} {Q : State → Prop} {cells slots : Nat} {E : gm_E} {M : gm_M} {mo on tw pl rw ba ot o : Nat} {mi : Int32} {a b to : Nat} {gr h : Nat → Int32} (hx : p.tables.exec = Jvm.exec) (hb : c.code = b_Rng_multiply) (hown : s.vm.findClass R_Rng = some m.cls) (hW : ∀ w ∈ WB, w.before args s = true) (hO : M o = some (RO mo mi on tw pl rw ba ot)) (hA : E.2.1 ≤ rw) (hg : M rw = some (IA E 10 gr)) {ii : Int32}
    (kk : ∀ (H : Heap) (locs : List Loc) (ls : Array Slot), gx E (gm_up M rw (IA E 10 (mx 9 (fun j => h (j + 1)) h))) s H locs → lv_has ls 6 [(4, .int ii), (0, .ref o), (1, .ref a), (2, .ref b), (3, .ref to)] → W p l e R s m args below meth c H locs cells slots Q (F0 m 94 ls [])) :
    ∀ (j k : Nat), k + j = 9 → ∀ (H : Heap) (locs : List Loc) (ls : Array Slot), gx E (gm_up M rw (IA E 10 (mx k (fun j => h (j + 1)) h))) s H locs → lv_has ls 6 [(5, .int (nI k)), (4, .int ii), (0, .ref o), (1, .ref a), (2, .ref b), (3, .ref to)] → W p l e R s m args below meth c H locs cells slots Q (F0 m 65 ls []) := by
  have oo : ∀ e, gm_up M rw e o = some (RO mo mi on tw pl rw ba ot) := fun e => ob_ui hO hg
  intro j
  induction j with
  | zero =>
    intro k hk H locs ls X hl
    refine lv_iload hx hb d_Rng_multiply_65 (lv_at hl 0 rfl) ?_
    refine lv_bipush (v := 9) hx hb d_Rng_multiply_67 (by decide) ?_
    refine lv_icmp_ge (tgt := 94) hx hb d_Rng_multiply_69 (by decide) (fun c69 => ?_) (fun c69 => ?_)
    · obtain rfl : k = 9 := by omega
      exact kk H locs ls X (lv_sub hl [1, 2, 3, 4, 5] rfl)
    · exact absurd (i_ge (n := 9) (i := k) (by omega) (by omega)) c69
  | succ j ih =>
    intro k hk H locs ls X hl
    refine lv_iload hx hb d_Rng_multiply_65 (lv_at hl 0 rfl) ?_
    refine lv_bipush (v := 9) hx hb d_Rng_multiply_67 (by decide) ?_
    refine lv_icmp_ge (tgt := 94) hx hb d_Rng_multiply_69 (by decide) (fun c69 => ?_) (fun c69 => ?_)
    · exact absurd c69 (i_nge (n := 9) (i := k) (by omega) (by omega))
    · refine lv_aload_n hx hb d_Rng_multiply_72 rfl (lv_at hl 2 rfl) ?_
      refine gm_get hx hb hW hown X u_Rng (oo _) rfl 5 (by decide) wf_Rng_24 (v := .ref rw) rfl d_Rng_multiply_73 ?_
      refine lv_iload hx hb d_Rng_multiply_76 (lv_at hl 0 rfl) ?_
      refine lv_aload_n hx hb d_Rng_multiply_78 rfl (lv_at hl 2 rfl) ?_
      refine gm_get hx hb hW hown X u_Rng (oo _) rfl 5 (by decide) wf_Rng_24 (v := .ref rw) rfl d_Rng_multiply_79 ?_
      refine lv_iload hx hb d_Rng_multiply_82 (lv_at hl 0 rfl) ?_
      refine lv_iconst (v := 1) hx hb d_Rng_multiply_84 (by decide) ?_
      refine lv_iadd hx hb d_Rng_multiply_85 ?_
      refine gm_iald hx hb X (k := k + 1) (gm_up_s _ _ _) (nI_s k) ⟨by omega, by decide⟩ d_Rng_multiply_86 ?_
      rw [mx_ge _ _ (show k ≤ k + 1 by omega)]
      refine gm_iast hx hb X (k := k) (gm_up_s _ _ _) hA rfl ⟨by omega, by decide⟩ d_Rng_multiply_87 (fun H locs X => ?_)
      rw [gm_up_up, show h (k + 1) = (fun j => h (j + 1)) k from rfl, mx_sI] at X
      refine lv_iinc (v := (nI (k + 1))) (lv' := [(5, .int (nI (k + 1))), (4, .int ii), (0, .ref o), (1, .ref a), (2, .ref b), (3, .ref to)]) hx hb d_Rng_multiply_88 hl (k := 0) rfl (nI_1 k) (by decide) rfl (fun ls hl => ?_)
      refine lv_goto (tgt := 65) hx hb d_Rng_multiply_91 (by decide) ?_
      exact ih (k + 1) (by omega) H locs ls X hl
set_option maxHeartbeats 1000000 in
theorem lp_Rng_cp {p : Program} {l : Launch} {e : Env} {s : State} {m : MethodId} {args : Array Value} {below : List Frame} {meth : Method} {c : Code} {R : Room} {Q : State → Prop} {cells slots : Nat} {E : gm_E} {M : gm_M} {mo on tw pl rw ba ot o : Nat} {mi : Int32} {a b to : Nat} {gr gt : Nat → Int32} (hx : p.tables.exec = Jvm.exec) (hb : c.code = b_Rng_multiply) (hown : s.vm.findClass R_Rng = some m.cls) (hW : ∀ w ∈ WB, w.before args s = true) (hO : M o = some (RO mo mi on tw pl rw ba ot)) (hA : E.2.1 ≤ rw) (hg : M rw = some (IA E 10 gr)) {ii : Int32} (ht : M to = some (IA E 8 gt)) (hB : E.2.1 ≤ to)
    (kk : ∀ (H : Heap) (locs : List Loc) (ls : Array Slot), gx E (gm_up M to (IA E 8 gr)) s H locs → lv_has ls 6 [(4, .int ii), (0, .ref o), (1, .ref a), (2, .ref b), (3, .ref to)] → W p l e R s m args below meth c H locs cells slots Q (F0 m 152 ls [])) :
    ∀ (j k : Nat), k + j = 8 → ∀ (H : Heap) (locs : List Loc) (ls : Array Slot), gx E (gm_up M to (IA E 8 (mx k gr gt))) s H locs → lv_has ls 6 [(5, .int (nI k)), (4, .int ii), (0, .ref o), (1, .ref a), (2, .ref b), (3, .ref to)] → W p l e R s m args below meth c H locs cells slots Q (F0 m 128 ls []) := by
  have oo2 : ∀ e, gm_up M to e o = some (RO mo mi on tw pl rw ba ot) := fun e => ob_ui hO ht
  have rr : ∀ e, gm_up M to e rw = some (IA E 10 gr) := fun e => ia_ui hg ht (by decide)
  intro j
  induction j with
  | zero =>
    intro k hk H locs ls X hl
    refine lv_iload hx hb d_Rng_multiply_128 (lv_at hl 0 rfl) ?_
    refine lv_bipush (v := 8) hx hb d_Rng_multiply_130 (by decide) ?_
    refine lv_icmp_ge (tgt := 152) hx hb d_Rng_multiply_132 (by decide) (fun c132 => ?_) (fun c132 => ?_)
    · obtain rfl : k = 8 := by omega
      exact kk H locs ls ⟨X.1, gm_IA X.2.1 (fun j hj => by rw [mx_lt _ _ hj]), X.2.2⟩ (lv_sub hl [1, 2, 3, 4, 5] rfl)
    · exact absurd (i_ge (n := 8) (i := k) (by omega) (by omega)) c132
  | succ j ih =>
    intro k hk H locs ls X hl
    refine lv_iload hx hb d_Rng_multiply_128 (lv_at hl 0 rfl) ?_
    refine lv_bipush (v := 8) hx hb d_Rng_multiply_130 (by decide) ?_
    refine lv_icmp_ge (tgt := 152) hx hb d_Rng_multiply_132 (by decide) (fun c132 => ?_) (fun c132 => ?_)
    · exact absurd c132 (i_nge (n := 8) (i := k) (by omega) (by omega))
    · refine lv_aload_n hx hb d_Rng_multiply_135 rfl (lv_at hl 5 rfl) ?_
      refine lv_iload hx hb d_Rng_multiply_136 (lv_at hl 0 rfl) ?_
      refine lv_aload_n hx hb d_Rng_multiply_138 rfl (lv_at hl 2 rfl) ?_
      refine gm_get hx hb hW hown X u_Rng (oo2 _) rfl 5 (by decide) wf_Rng_24 (v := .ref rw) rfl d_Rng_multiply_139 ?_
      refine lv_iload hx hb d_Rng_multiply_142 (lv_at hl 0 rfl) ?_
      refine gm_iald hx hb X (k := k) (rr _) rfl ⟨by omega, by decide⟩ d_Rng_multiply_144 ?_
      refine gm_iast hx hb X (k := k) (gm_up_s _ _ _) hB rfl ⟨by omega, by decide⟩ d_Rng_multiply_145 (fun H locs X => ?_)
      rw [gm_up_up, mx_sI] at X
      refine lv_iinc (v := (nI (k + 1))) (lv' := [(5, .int (nI (k + 1))), (4, .int ii), (0, .ref o), (1, .ref a), (2, .ref b), (3, .ref to)]) hx hb d_Rng_multiply_146 hl (k := 0) rfl (nI_1 k) (by decide) rfl (fun ls hl => ?_)
      refine lv_goto (tgt := 128) hx hb d_Rng_multiply_149 (by decide) ?_
      exact ih (k + 1) (by omega) H locs ls X hl
set_option maxHeartbeats 2000000 in
theorem lp_Rng_m {p : Program} {l : Launch} {e : Env} {s : State} {m : MethodId} {args : Array Value} {below : List Frame} {meth : Method} {c : Code} {Q : State → Prop} {E : gm_E} {M : gm_M} {mo on tw pl rw ba ot o : Nat} {mi : Int32} {a b to : Nat} {ga gb mv : Nat → Int32} (hx : p.tables.exec = Jvm.exec) (hb : c.code = b_Rng_multiply) (hown : s.vm.findClass R_Rng = some m.cls) (hW : ∀ w ∈ WB, w.before args s = true) (hO : M o = some (RO mo mi on tw pl rw ba ot)) (hA : E.2.1 ≤ rw) (hg : ∃ gr, M rw = some (IA E 10 gr)) (hml : c.maxLocals = 6) (hm : M mo = some (IA E 8 mv)) (hmi : (wN mi * IV mv 8 + 1) % 4294967296 = 0) (ha : M a = some (IA E 8 ga)) (hq : M b = some (IA E 8 gb)) (hB : IV gb 8 < IV mv 8)
    (kk : ∀ (H : Heap) (locs : List Loc) (ls : Array Slot) (h : Nat → Int32) (Q0 : Nat), gx E (gm_up M rw (IA E 10 h)) s H locs → IV h 10 < IV gb 8 + IV mv 8 → IV h 10 * tq 8 = IV ga 8 * IV gb 8 + Q0 * IV mv 8 → lv_has ls 6 [(0, .ref o), (1, .ref a), (2, .ref b), (3, .ref to)] → W p l e { frames := 1, cells := 0, slots := 0, locals := 27 } s m args below meth c H locs 0 0 Q (F0 m 108 ls [])) :
    ∀ (j i : Nat), i + j = 8 → ∀ (H : Heap) (locs : List Loc) (ls : Array Slot) (h : Nat → Int32) (Q0 : Nat), gx E (gm_up M rw (IA E 10 h)) s H locs → IV h 10 < IV gb 8 + IV mv 8 → IV h 10 * tq i = IV ga i * IV gb 8 + Q0 * IV mv 8 → lv_has ls 6 [(4, .int (nI i)), (0, .ref o), (1, .ref a), (2, .ref b), (3, .ref to)] → W p l e { frames := 1, cells := 0, slots := 0, locals := 27 } s m args below meth c H locs 0 0 Q (F0 m 27 ls []) := by
  obtain ⟨gr, hg⟩ := hg
  have oo : ∀ e, gm_up M rw e o = some (RO mo mi on tw pl rw ba ot) := fun e => ob_ui hO hg
  have aa : ∀ e, gm_up M rw e a = some (IA E 8 ga) := fun e => ia_ui ha hg (by decide)
  have bb : ∀ e, gm_up M rw e b = some (IA E 8 gb) := fun e => ia_ui hq hg (by decide)
  have mm : ∀ e, gm_up M rw e mo = some (IA E 8 mv) := fun e => ia_ui hm hg (by decide)
  have hB8 := IV_lt gb 8
  have hM8 := IV_lt mv 8
  have t10 : tq 10 = tq 8 * 4294967296 * 4294967296 := rfl
  intro j
  induction j with
  | zero =>
    intro i hi H locs ls h Q0 X hT hv hl
    refine lv_iload hx hb d_Rng_multiply_27 (lv_at hl 0 rfl) ?_
    refine lv_bipush (v := 8) hx hb d_Rng_multiply_29 (by decide) ?_
    refine lv_icmp_ge (tgt := 108) hx hb d_Rng_multiply_31 (by decide) (fun c31 => ?_) (fun c31 => ?_)
    · obtain rfl : i = 8 := by omega
      exact kk H locs ls h Q0 X hT hv (lv_sub hl [1, 2, 3, 4] rfl)
    · exact absurd (i_ge (n := 8) (i := i) (by omega) (by omega)) c31
  | succ j ih =>
    intro i hi H locs ls h Q0 X hT hv hl
    refine lv_iload hx hb d_Rng_multiply_27 (lv_at hl 0 rfl) ?_
    refine lv_bipush (v := 8) hx hb d_Rng_multiply_29 (by decide) ?_
    refine lv_icmp_ge (tgt := 108) hx hb d_Rng_multiply_31 (by decide) (fun c31 => ?_) (fun c31 => ?_)
    · exact absurd c31 (i_nge (n := 8) (i := i) (by omega) (by omega))
    · have bd := mg_b (wN_lt (ga i)) hB8 hM8 hT
      refine lv_aload_n hx hb d_Rng_multiply_34 rfl (lv_at hl 1 rfl) ?_
      refine lv_aload_n hx hb d_Rng_multiply_35 rfl (lv_at hl 2 rfl) ?_
      refine lv_iload hx hb d_Rng_multiply_36 (lv_at hl 0 rfl) ?_
      refine gm_iald hx hb X (k := i) (aa _) rfl ⟨by omega, by decide⟩ d_Rng_multiply_38 ?_
      refine lv_aload_n hx hb d_Rng_multiply_39 rfl (lv_at hl 3 rfl) ?_
      refine gm_Vv hx hb hml hown hW X (oo _) (c_Rng_put l E _ (oo _) hA (gm_up_s _ _ _) (bb _) (by rw [t10]; exact bd.1)) (n := 2) ⟨⟨wl_Rng_58, wi_Rng_put, wsel_Rng_put, winit_Rng, wc_Rng_put⟩, by decide +kernel, ⟨Nat.le_of_ble_eq_true rfl, Nat.le_of_ble_eq_true rfl⟩, _, rfl, rfl⟩ rfl hl.1 rfl (Nat.le_of_ble_eq_true rfl) d_Rng_multiply_40 ⟨Nat.le_of_ble_eq_true rfl, Nat.le_of_ble_eq_true rfl⟩ (fun M1 H locs hp X => ?_)
      obtain ⟨h1, rfl, e1⟩ := hp
      rw [gm_up_up] at X
      refine lv_aload_n hx hb d_Rng_multiply_43 rfl (lv_at hl 1 rfl) ?_
      refine lv_aload_n hx hb d_Rng_multiply_44 rfl (lv_at hl 1 rfl) ?_
      refine gm_get hx hb hW hown X u_Rng (oo _) rfl 5 (by decide) wf_Rng_24 (v := .ref rw) rfl d_Rng_multiply_45 ?_
      refine lv_iconst (v := 0) hx hb d_Rng_multiply_48 (by decide) ?_
      refine gm_iald hx hb X (k := 0) (gm_up_s _ _ _) (by decide) ⟨by decide, by decide⟩ d_Rng_multiply_49 ?_
      refine lv_aload_n hx hb d_Rng_multiply_50 rfl (lv_at hl 1 rfl) ?_
      refine gm_get hx hb hW hown X u_Rng (oo _) rfl 1 (by decide) wf_Rng_33 (v := .int mi) rfl d_Rng_multiply_51 ?_
      refine lv_imul hx hb d_Rng_multiply_54 ?_
      refine lv_aload_n hx hb d_Rng_multiply_55 rfl (lv_at hl 1 rfl) ?_
      refine gm_get hx hb hW hown X u_Rng (oo _) rfl 0 (by decide) wf_Rng_9 (v := .ref mo) rfl d_Rng_multiply_56 ?_
      have hwq : wN (h1 0 * mi) = IV h1 10 % 4294967296 * wN mi % 4294967296 := by rw [wN_mul, mg_w]
      refine gm_Vv hx hb hml hown hW X (oo _) (c_Rng_put l E _ (oo _) hA (gm_up_s _ _ _) (mm _) (by rw [t10, e1]; exact bd.2 _ (wN_lt _))) (n := 2) ⟨⟨wl_Rng_58, wi_Rng_put, wsel_Rng_put, winit_Rng, wc_Rng_put⟩, by decide +kernel, ⟨Nat.le_of_ble_eq_true rfl, Nat.le_of_ble_eq_true rfl⟩, _, rfl, rfl⟩ rfl hl.1 rfl (Nat.le_of_ble_eq_true rfl) d_Rng_multiply_59 ⟨Nat.le_of_ble_eq_true rfl, Nat.le_of_ble_eq_true rfl⟩ (fun M1 H locs hp X => ?_)
      obtain ⟨h2, rfl, e2⟩ := hp
      rw [gm_up_up] at X
      have z2 : IV h2 10 % 4294967296 = 0 := by rw [e2, hwq]; exact mg_0 hmi
      refine lv_iconst (v := 0) hx hb d_Rng_multiply_62 (by decide) ?_
      refine lv_istore (lv' := [(5, .int 0), (4, .int (nI i)), (0, .ref o), (1, .ref a), (2, .ref b), (3, .ref to)]) hx hb d_Rng_multiply_63 hl (by decide) rfl (fun ls hl => ?_)
      refine lp_Rng_sh (h := h2) (ii := nI i) hx hb hown hW hO hA hg (fun H locs ls X hl => ?_) 9 0 rfl H locs ls (by rw [mx_0]; exact X) hl
      refine lv_aload_n hx hb d_Rng_multiply_94 rfl (lv_at hl 1 rfl) ?_
      refine gm_get hx hb hW hown X u_Rng (oo _) rfl 5 (by decide) wf_Rng_24 (v := .ref rw) rfl d_Rng_multiply_95 ?_
      refine lv_bipush (v := 9) hx hb d_Rng_multiply_98 (by decide) ?_
      refine lv_iconst (v := 0) hx hb d_Rng_multiply_100 (by decide) ?_
      refine gm_iast hx hb X (k := 9) (gm_up_s _ _ _) hA (by decide) ⟨by decide, by decide⟩ d_Rng_multiply_101 (fun H locs X => ?_)
      rw [gm_up_up] at X
      refine lv_iinc (v := (nI (i + 1))) (lv' := [(4, .int (nI (i + 1))), (0, .ref o), (1, .ref a), (2, .ref b), (3, .ref to)]) hx hb d_Rng_multiply_102 hl (k := 0) rfl (nI_1 i) (by decide) rfl (fun ls hl => ?_)
      refine lv_goto (tgt := 27) hx hb d_Rng_multiply_105 (by decide) ?_
      have e3 := mg_sh rfl z2
      rw [e2, e1] at e3
      have st := mg_st (wN_lt (ga i)) (wN_lt (h1 0 * mi)) e3 hT hv
      exact ih (i + 1) (by omega) H locs ls _ _ X st.1 (by rw [tq_s, IV_s ga]; exact st.2) hl
/-- the end of multiply -/
theorem mg_e {h h3 mv : Nat → Int32} {y B T : Nat} (hT : T = tq 8) (h1 : IV h 10 < B + IV mv 8) (hB : B < IV mv 8) (e : IV h3 8 + IV mv 8 = IV h 8 + y * T) (hy : y ≤ 1) (hc : ¬ h 8 = 0 ∨ IV mv 8 ≤ IV h 8) : IV h3 8 < IV mv 8 ∧ IV h3 8 + IV mv 8 = IV h 10 := by
  have a1 := IV_lt h 8
  have a2 := IV_lt mv 8
  have a3 := IV_lt h3 8
  have e10 : IV h 10 = IV h 8 + wN (h 8) * tq 8 + wN (h 9) * (tq 8 * 4294967296) := by rw [IV_s h 9, IV_s h 8]; rfl
  rw [e10] at h1 ⊢
  clear e10
  rw [← hT] at *
  have w9 : wN (h 9) = 0 := by
    rcases Nat.eq_zero_or_pos (wN (h 9)) with q | q
    · exact q
    · have : 1 * (T * 4294967296) ≤ wN (h 9) * (T * 4294967296) := Nat.mul_le_mul_right _ q
      omega
  rw [w9, Nat.zero_mul, Nat.add_zero] at h1 ⊢
  have w8 : wN (h 8) = 0 ∨ wN (h 8) = 1 := by
    rcases (show wN (h 8) = 0 ∨ wN (h 8) = 1 ∨ 2 ≤ wN (h 8) by omega) with q | q | q
    · exact Or.inl q
    · exact Or.inr q
    · have : 2 * T ≤ wN (h 8) * T := Nat.mul_le_mul_right _ q
      omega
  rcases w8 with q | q
  · have : h 8 = 0 := wN_inj q
    rw [q, Nat.zero_mul, Nat.add_zero] at h1 ⊢
    rcases hc with z | z
    · exact absurd this z
    · rcases (show y = 0 ∨ y = 1 by omega) with r | r
      · rw [r, Nat.zero_mul] at e
        omega
      · rw [r, Nat.one_mul] at e
        omega
  · rw [q, Nat.one_mul] at h1 ⊢
    rcases (show y = 0 ∨ y = 1 by omega) with r | r
    · rw [r, Nat.zero_mul] at e
      omega
    · rw [r, Nat.one_mul] at e
      omega
theorem mg_e2 {h mv : Nat → Int32} {B : Nat} (h1 : IV h 10 < B + IV mv 8) (hB : B < IV mv 8) (h8 : h 8 = 0) : IV h 10 = IV h 8 := by
  have a1 := IV_lt h 8
  have a2 := IV_lt mv 8
  have e10 : IV h 10 = IV h 8 + wN (h 8) * tq 8 + wN (h 9) * (tq 8 * 4294967296) := by rw [IV_s h 9, IV_s h 8]; rfl
  rw [h8, show wN 0 = 0 by decide, Nat.zero_mul, Nat.add_zero] at e10
  rw [e10] at h1 ⊢
  clear e10
  generalize tq 8 = T at *
  have w9 : wN (h 9) = 0 := by
    rcases Nat.eq_zero_or_pos (wN (h 9)) with q | q
    · exact q
    · have : 1 * (T * 4294967296) ≤ wN (h 9) * (T * 4294967296) := Nat.mul_le_mul_right _ q
      omega
  rw [w9, Nat.zero_mul, Nat.add_zero]
theorem mg_md {x y m T A Q : Nat} (e : x * T = A + Q * m) (h : y + m = x ∨ y = x) : y * T % m = A % m := by
  rcases h with h | h
  · have e1 : y * T + m * T = A + Q * m := by rw [← e, ← h]; grind
    have e2 : (y * T + m * T) % m = (A + Q * m) % m := by rw [e1]
    rw [Nat.add_mul_mod_self_left, Nat.add_mul_mod_self_right] at e2
    exact e2
  · rw [h, e, Nat.add_mul_mod_self_right]
set_option maxHeartbeats 2000000 in
theorem c_Rng_multiply (l : Launch) (E : gm_E) (M : gm_M) {mo on tw pl rw ba ot o : Nat} {mi : Int32} {a b to : Nat} {gr gt ga gb mv : Nat → Int32} (hO : M o = some (RO mo mi on tw pl rw ba ot)) (hA : E.2.1 ≤ rw) (hg : M rw = some (IA E 10 gr)) (hm : M mo = some (IA E 8 mv)) (hmi : (wN mi * IV mv 8 + 1) % 4294967296 = 0) (ht : M to = some (IA E 8 gt)) (hA2 : E.2.1 ≤ to) (hne : mo ≠ to) (ha : M a = some (IA E 8 ga)) (hq : M b = some (IA E 8 gb)) (hB : IV gb 8 < IV mv 8) : cv_ l y_Rng_multiply b_Rng_multiply 6 none { frames := 1, cells := 0, slots := 0, locals := 27 } E M [.ref o, .ref a, .ref b, .ref to] (fun M' => ∃ g h, M' = gm_up (gm_up M rw (IA E 10 g)) to (IA E 8 h) ∧ IV h 8 < IV mv 8 ∧ IV h 8 * tq 8 % IV mv 8 = IV ga 8 * IV gb 8 % IV mv 8) := by
  refine gm_met (by decide) (Nat.le_of_ble_eq_true rfl) (fun p e s m below meth c ls hx hb hml hr hlk hnm hown hW X hl => ?_)
  have hl : lv_has ls 6 [(0, .ref o), (1, .ref a), (2, .ref b), (3, .ref to)] := hl
  have oo : ∀ e, gm_up M rw e o = some (RO mo mi on tw pl rw ba ot) := fun e => ob_ui hO hg
  have tt : ∀ e, gm_up M rw e to = some (IA E 8 gt) := fun e => ia_ui ht hg (by decide)
  have mm : ∀ e, gm_up M rw e mo = some (IA E 8 mv) := fun e => ia_ui hm hg (by decide)
  refine lv_iconst (v := 0) hx hb d_Rng_multiply_0 (by decide) ?_
  refine lv_istore (lv' := [(4, .int 0), (0, .ref o), (1, .ref a), (2, .ref b), (3, .ref to)]) hx hb d_Rng_multiply_1 hl (by decide) rfl (fun ls hl => ?_)
  refine lp_Rng_z hx hb hown hW hO hA hg (fun H locs ls X hl => ?_) 10 0 rfl _ _ ls (by rw [mx_0, gm_up_self hg]; exact X) hl
  refine lv_iconst (v := 0) hx hb d_Rng_multiply_24 (by decide) ?_
  refine lv_istore (lv' := [(4, .int 0), (0, .ref o), (1, .ref a), (2, .ref b), (3, .ref to)]) hx hb d_Rng_multiply_25 hl (by decide) rfl (fun ls hl => ?_)
  refine lp_Rng_m (a := a) (b := b) (to := to) hx hb hown hW hO hA ⟨_, hg⟩ hml hm hmi ha hq hB (fun H locs ls h Q0 X hT hv hl => ?_) 8 0 rfl H locs ls (fun _ => 0) 0 X (by rw [IV_z]; omega) (by rw [IV_z]; simp [IV]) hl
  refine lv_aload_n hx hb d_Rng_multiply_108 rfl (lv_at hl 0 rfl) ?_
  refine gm_get hx hb hW hown X u_Rng (oo _) rfl 5 (by decide) wf_Rng_24 (v := .ref rw) rfl d_Rng_multiply_109 ?_
  refine lv_bipush (v := 8) hx hb d_Rng_multiply_112 (by decide) ?_
  refine gm_iald hx hb X (k := 8) (gm_up_s _ _ _) (by decide) ⟨by decide, by decide⟩ d_Rng_multiply_114 ?_
  refine lv_if_eq (tgt := 122) hx hb d_Rng_multiply_115 (by decide) (fun c115 => ?_) (fun c115 => ?_)
  · refine lv_iconst (v := 0) hx hb d_Rng_multiply_122 (by decide) ?_
    refine lv_istore (lv' := [(4, .int 0), (0, .ref o), (1, .ref a), (2, .ref b), (3, .ref to)]) hx hb d_Rng_multiply_123 hl (by decide) rfl (fun ls hl => ?_)
    refine lv_iconst (v := 0) hx hb d_Rng_multiply_125 (by decide) ?_
    refine lv_istore (lv' := [(5, .int 0), (4, .int 0), (0, .ref o), (1, .ref a), (2, .ref b), (3, .ref to)]) hx hb d_Rng_multiply_126 hl (by decide) rfl (fun ls hl => ?_)
    refine lp_Rng_cp (M := gm_up M rw (IA E 10 h)) (ii := 0) hx hb hown hW (oo _) hA (gm_up_s _ _ _) (tt _) hA2 (fun H locs ls X hl => ?_) 8 0 rfl H locs ls (by rw [mx_0, gm_up_self (tt _)]; exact X) hl
    have o2 : ∀ e, gm_up (gm_up M rw (IA E 10 h)) to e o = some (RO mo mi on tw pl rw ba ot) := fun e => ob_ui (oo _) (tt _)
    have m2 : ∀ e, gm_up (gm_up M rw (IA E 10 h)) to e mo = some (IA E 8 mv) := fun e => (gm_up_n _ _ hne).trans (mm _)
    refine lv_iload hx hb d_Rng_multiply_152 (lv_at hl 0 rfl) ?_
    refine lv_if_ne (tgt := 168) hx hb d_Rng_multiply_154 (by decide) (fun c9 => absurd rfl c9) (fun _ => ?_)
    refine lv_aload_n hx hb d_Rng_multiply_157 rfl (lv_at hl 4 rfl) ?_
    refine lv_aload_n hx hb d_Rng_multiply_158 rfl (lv_at hl 1 rfl) ?_
    refine gm_get hx hb hW hown X u_Rng (o2 _) rfl 0 (by decide) wf_Rng_9 (v := .ref mo) rfl d_Rng_multiply_159 ?_
    refine gm_Si hx hb hml hown hW X (c_Rng_compare l E _ (gm_up_s _ _ _) (m2 _)) (n := 2) ⟨⟨wl_Rng_45, ws_Rng_compare, winit_Rng, wc_Rng_compare⟩, by decide +kernel, Nat.le_of_ble_eq_true rfl, Nat.le_of_ble_eq_true rfl⟩ rfl hl.1 rfl (Nat.le_of_ble_eq_true rfl) d_Rng_multiply_162 ⟨Nat.le_of_ble_eq_true rfl, Nat.le_of_ble_eq_true rfl⟩ (fun r M1 H locs hp X => ?_)
    rw [hp.1] at X
    have hq2 := (ordI_ok h mv 8).2.1
    rw [← hp.2] at hq2
    refine lv_if_lt (tgt := 178) hx hb d_Rng_multiply_165 (by decide) (fun c165 => ?_) (fun c165 => ?_)
    · have q : ¬ IV mv 8 ≤ IV h 8 := fun z => absurd (hq2.mpr z) (Int32.not_le.mpr c165)
      exact gm_vret hx hb hr hlk X ⟨h, h, rfl, by omega, mg_md hv (Or.inr (mg_e2 hT hB c115).symm)⟩ d_Rng_multiply_178
    · refine lv_aload_n hx hb d_Rng_multiply_168 rfl (lv_at hl 4 rfl) ?_
      refine lv_aload_n hx hb d_Rng_multiply_169 rfl (lv_at hl 1 rfl) ?_
      refine gm_get hx hb hW hown X u_Rng (o2 _) rfl 0 (by decide) wf_Rng_9 (v := .ref mo) rfl d_Rng_multiply_170 ?_
      refine lv_aload_n hx hb d_Rng_multiply_173 rfl (lv_at hl 4 rfl) ?_
      refine gm_Sl hx hb hml hown hW X (c_Rng_less l E _ (gm_up_s _ _ _) hA2 (gm_up_s _ _ _) (m2 _)) (n := 3) ⟨⟨wl_Rng_55, ws_Rng_less, winit_Rng, wc_Rng_less⟩, by decide +kernel, Nat.le_of_ble_eq_true rfl, Nat.le_of_ble_eq_true rfl⟩ rfl hl.1 rfl (Nat.le_of_ble_eq_true rfl) d_Rng_multiply_174 ⟨Nat.le_of_ble_eq_true rfl, Nat.le_of_ble_eq_true rfl⟩ (fun r M1 H locs hp X => ?_)
      obtain ⟨h3, rfl, e3, hy⟩ := hp
      rw [gm_up_up] at X
      refine lv_pop2_2 hx hb d_Rng_multiply_177 rfl ?_
      have en := mg_e rfl hT hB e3 hy (Or.inr (hq2.mp (Int32.not_lt.mp c165)))
      exact gm_vret hx hb hr hlk X ⟨h, h3, rfl, en.1, mg_md hv (Or.inl en.2)⟩ d_Rng_multiply_178
  · refine lv_iconst (v := 1) hx hb d_Rng_multiply_118 (by decide) ?_
    refine lv_goto (tgt := 123) hx hb d_Rng_multiply_119 (by decide) ?_
    refine lv_istore (lv' := [(4, .int 1), (0, .ref o), (1, .ref a), (2, .ref b), (3, .ref to)]) hx hb d_Rng_multiply_123 hl (by decide) rfl (fun ls hl => ?_)
    refine lv_iconst (v := 0) hx hb d_Rng_multiply_125 (by decide) ?_
    refine lv_istore (lv' := [(5, .int 0), (4, .int 1), (0, .ref o), (1, .ref a), (2, .ref b), (3, .ref to)]) hx hb d_Rng_multiply_126 hl (by decide) rfl (fun ls hl => ?_)
    refine lp_Rng_cp (M := gm_up M rw (IA E 10 h)) (ii := 1) hx hb hown hW (oo _) hA (gm_up_s _ _ _) (tt _) hA2 (fun H locs ls X hl => ?_) 8 0 rfl H locs ls (by rw [mx_0, gm_up_self (tt _)]; exact X) hl
    have o2 : ∀ e, gm_up (gm_up M rw (IA E 10 h)) to e o = some (RO mo mi on tw pl rw ba ot) := fun e => ob_ui (oo _) (tt _)
    have m2 : ∀ e, gm_up (gm_up M rw (IA E 10 h)) to e mo = some (IA E 8 mv) := fun e => (gm_up_n _ _ hne).trans (mm _)
    refine lv_iload hx hb d_Rng_multiply_152 (lv_at hl 0 rfl) ?_
    refine lv_if_ne (tgt := 168) hx hb d_Rng_multiply_154 (by decide) (fun _ => ?_) (fun c9 => absurd c9 (by decide))
    refine lv_aload_n hx hb d_Rng_multiply_168 rfl (lv_at hl 4 rfl) ?_
    refine lv_aload_n hx hb d_Rng_multiply_169 rfl (lv_at hl 1 rfl) ?_
    refine gm_get hx hb hW hown X u_Rng (o2 _) rfl 0 (by decide) wf_Rng_9 (v := .ref mo) rfl d_Rng_multiply_170 ?_
    refine lv_aload_n hx hb d_Rng_multiply_173 rfl (lv_at hl 4 rfl) ?_
    refine gm_Sl hx hb hml hown hW X (c_Rng_less l E _ (gm_up_s _ _ _) hA2 (gm_up_s _ _ _) (m2 _)) (n := 3) ⟨⟨wl_Rng_55, ws_Rng_less, winit_Rng, wc_Rng_less⟩, by decide +kernel, Nat.le_of_ble_eq_true rfl, Nat.le_of_ble_eq_true rfl⟩ rfl hl.1 rfl (Nat.le_of_ble_eq_true rfl) d_Rng_multiply_174 ⟨Nat.le_of_ble_eq_true rfl, Nat.le_of_ble_eq_true rfl⟩ (fun r M1 H locs hp X => ?_)
    obtain ⟨h3, rfl, e3, hy⟩ := hp
    rw [gm_up_up] at X
    refine lv_pop2_2 hx hb d_Rng_multiply_177 rfl ?_
    have en := mg_e rfl hT hB e3 hy (Or.inl c115)
    exact gm_vret hx hb hr hlk X ⟨h, h3, rfl, en.1, mg_md hv (Or.inl en.2)⟩ d_Rng_multiply_178
theorem c_Rng_enter (l : Launch) (E : gm_E) (M : gm_M) {mo on tw pl rw ba ot o : Nat} {mi : Int32} {a to : Nat} {gr gt ga gb mv : Nat → Int32} (hO : M o = some (RO mo mi on tw pl rw ba ot)) (hA : E.2.1 ≤ rw) (hg : M rw = some (IA E 10 gr)) (hm : M mo = some (IA E 8 mv)) (hmi : (wN mi * IV mv 8 + 1) % 4294967296 = 0) (ht : M to = some (IA E 8 gt)) (hA2 : E.2.1 ≤ to) (hne : mo ≠ to) (ha : M a = some (IA E 8 ga)) (hq : M tw = some (IA E 8 gb)) (hB : IV gb 8 < IV mv 8) : cv_ l y_Rng_enter b_Rng_enter 3 none { frames := 2, cells := 0, slots := 0, locals := 52 } E M [.ref o, .ref a, .ref to] (fun M' => ∃ g h, M' = gm_up (gm_up M rw (IA E 10 g)) to (IA E 8 h) ∧ IV h 8 < IV mv 8 ∧ IV h 8 * tq 8 % IV mv 8 = IV ga 8 * IV gb 8 % IV mv 8) := by
  refine gm_met (by decide) (Nat.le_of_ble_eq_true rfl) (fun p e s m below meth c ls hx hb hml hr hlk hnm hown hW X hl => ?_)
  have hl : lv_has ls 3 [(0, .ref o), (1, .ref a), (2, .ref to)] := hl
  refine lv_aload_n hx hb d_Rng_enter_0 rfl (lv_at hl 0 rfl) ?_
  refine lv_aload_n hx hb d_Rng_enter_1 rfl (lv_at hl 1 rfl) ?_
  refine lv_aload_n hx hb d_Rng_enter_2 rfl (lv_at hl 0 rfl) ?_
  refine gm_get hx hb hW hown X u_Rng hO rfl 3 (by decide) wf_Rng_18 (v := .ref tw) rfl d_Rng_enter_3 ?_
  refine lv_aload_n hx hb d_Rng_enter_6 rfl (lv_at hl 2 rfl) ?_
  refine gm_Vv hx hb hml hown hW X hO (c_Rng_multiply l E M hO hA hg hm hmi ht hA2 hne ha hq hB) (n := 3) ⟨⟨wl_Rng_62, wi_Rng_multiply, wsel_Rng_multiply, winit_Rng, wc_Rng_multiply⟩, by decide +kernel, ⟨Nat.le_of_ble_eq_true rfl, Nat.le_of_ble_eq_true rfl⟩, _, rfl, rfl⟩ rfl hl.1 rfl (Nat.le_of_ble_eq_true rfl) d_Rng_enter_7 ⟨Nat.le_of_ble_eq_true rfl, Nat.le_of_ble_eq_true rfl⟩ (fun M1 H locs hp X => ?_)
  exact gm_vret hx hb hr hlk X hp d_Rng_enter_10
theorem c_Rng_leave (l : Launch) (E : gm_E) (M : gm_M) {mo on tw pl rw ba ot o : Nat} {mi : Int32} {a to : Nat} {gr gt ga gb mv : Nat → Int32} (hO : M o = some (RO mo mi on tw pl rw ba ot)) (hA : E.2.1 ≤ rw) (hg : M rw = some (IA E 10 gr)) (hm : M mo = some (IA E 8 mv)) (hmi : (wN mi * IV mv 8 + 1) % 4294967296 = 0) (ht : M to = some (IA E 8 gt)) (hA2 : E.2.1 ≤ to) (hne : mo ≠ to) (ha : M a = some (IA E 8 ga)) (hq : M pl = some (IA E 8 gb)) (hB : IV gb 8 < IV mv 8) : cv_ l y_Rng_leave b_Rng_leave 3 none { frames := 2, cells := 0, slots := 0, locals := 52 } E M [.ref o, .ref a, .ref to] (fun M' => ∃ g h, M' = gm_up (gm_up M rw (IA E 10 g)) to (IA E 8 h) ∧ IV h 8 < IV mv 8 ∧ IV h 8 * tq 8 % IV mv 8 = IV ga 8 * IV gb 8 % IV mv 8) := by
  refine gm_met (by decide) (Nat.le_of_ble_eq_true rfl) (fun p e s m below meth c ls hx hb hml hr hlk hnm hown hW X hl => ?_)
  have hl : lv_has ls 3 [(0, .ref o), (1, .ref a), (2, .ref to)] := hl
  refine lv_aload_n hx hb d_Rng_leave_0 rfl (lv_at hl 0 rfl) ?_
  refine lv_aload_n hx hb d_Rng_leave_1 rfl (lv_at hl 1 rfl) ?_
  refine lv_aload_n hx hb d_Rng_leave_2 rfl (lv_at hl 0 rfl) ?_
  refine gm_get hx hb hW hown X u_Rng hO rfl 4 (by decide) wf_Rng_21 (v := .ref pl) rfl d_Rng_leave_3 ?_
  refine lv_aload_n hx hb d_Rng_leave_6 rfl (lv_at hl 2 rfl) ?_
  refine gm_Vv hx hb hml hown hW X hO (c_Rng_multiply l E M hO hA hg hm hmi ht hA2 hne ha hq hB) (n := 3) ⟨⟨wl_Rng_62, wi_Rng_multiply, wsel_Rng_multiply, winit_Rng, wc_Rng_multiply⟩, by decide +kernel, ⟨Nat.le_of_ble_eq_true rfl, Nat.le_of_ble_eq_true rfl⟩, _, rfl, rfl⟩ rfl hl.1 rfl (Nat.le_of_ble_eq_true rfl) d_Rng_leave_7 ⟨Nat.le_of_ble_eq_true rfl, Nat.le_of_ble_eq_true rfl⟩ (fun M1 H locs hp X => ?_)
  exact gm_vret hx hb hr hlk X hp d_Rng_leave_10
