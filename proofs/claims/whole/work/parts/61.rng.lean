/-! PointBenchModel.Ring: written by wip/gen/rng.py -/
theorem mx_sI (i : Nat) (f g : Nat → Int32) : upd (mx i f g) i (f i) = mx (i + 1) f g := by
  rw [mx_u]
  funext j
  simp only [mx, upd]
  split
  · split
    · next h => rw [h]
    · rfl
  · rfl
def RO (mo : Nat) (mi : Int32) (on tw pl rw ba ot : Nat) : va_E := OB 4 [.ref mo, .int mi, .ref on, .ref tw, .ref pl, .ref rw, .ref ba, .ref ot]
theorem ob_ui {E : gm_E} {M : gm_M} {a o n k : Nat} {g : Nat → Int32} {fs : List Value} {e : va_E} (hO : M o = some (OB k fs)) (ha : M a = some (IA E n g)) : gm_up M a e o = some (OB k fs) := by
  refine (gm_up_n _ _ (fun q => ?_)).trans hO
  subst q
  have := hO.symm.trans ha
  cases this
theorem ia_ui {E : gm_E} {M : gm_M} {a b n k : Nat} {f g : Nat → Int32} {e : va_E} (hb : M b = some (IA E k f)) (ha : M a = some (IA E n g)) (hne : k ≠ n) : gm_up M a e b = some (IA E k f) := by
  refine (gm_up_n _ _ (fun q => ?_)).trans hb
  subst q
  exact hne (IA_inj (hb.symm.trans ha)).1
theorem or_z {x y : Int32} : x ||| y = 0 ↔ x = 0 ∧ y = 0 := by
  constructor
  · intro h
    have h1 : x.toBitVec ||| y.toBitVec = 0#32 := congrArg Int32.toBitVec h
    have h2 := BitVec.or_eq_zero_iff.mp h1
    exact ⟨Int32.toBitVec_inj.mp h2.1, Int32.toBitVec_inj.mp h2.2⟩
  · rintro ⟨rfl, rfl⟩
    rfl
theorem IV_0 {f : Nat → Int32} : (((((((((0 : Int32) ||| f 0) ||| f 1) ||| f 2) ||| f 3) ||| f 4) ||| f 5) ||| f 6) ||| f 7) = 0 ↔ IV f 8 = 0 := by
  simp only [or_z]
  constructor
  · rintro ⟨⟨⟨⟨⟨⟨⟨⟨-, h0⟩, h1⟩, h2⟩, h3⟩, h4⟩, h5⟩, h6⟩, h7⟩
    have : IV f 8 = IV (fun _ => 0) 8 := IV_cg (fun j hj => by
      rcases (show j = 0 ∨ j = 1 ∨ j = 2 ∨ j = 3 ∨ j = 4 ∨ j = 5 ∨ j = 6 ∨ j = 7 by omega) with rfl | rfl | rfl | rfl | rfl | rfl | rfl | rfl <;> assumption)
    rw [this, IV_z]
  · intro h
    have q := IV_inj (f := f) (g := fun _ => 0) 8 (by rw [h, IV_z])
    exact ⟨⟨⟨⟨⟨⟨⟨⟨trivial, q 0 (by decide)⟩, q 1 (by decide)⟩, q 2 (by decide)⟩, q 3 (by decide)⟩, q 4 (by decide)⟩, q 5 (by decide)⟩, q 6 (by decide)⟩, q 7 (by decide)⟩
set_option maxHeartbeats 1000000 in
theorem lp_Rng_copy {p : Program} {l : Launch} {e : Env} {s : State} {m : MethodId} {args : Array Value} {below : List Frame} {meth : Method} {c : Code} {R : Room} {Q : State → Prop} {cells slots : Nat} {E : gm_E} {M : gm_M} {to a : Nat} {gt ga : Nat → Int32} (hx : p.tables.exec = Jvm.exec) (hb : c.code = b_Rng_copy) (ht : M to = some (IA E 8 gt)) (hA : E.2.1 ≤ to) (ha : M a = some (IA E 8 ga))
    (kk : ∀ (H : Heap) (locs : List Loc) (ls : Array Slot), gx E (gm_up M to (IA E 8 ga)) s H locs → W p l e R s m args below meth c H locs cells slots Q (F0 m 20 ls [])) :
    ∀ (k i : Nat), i + k = 8 → ∀ (H : Heap) (locs : List Loc) (ls : Array Slot), gx E (gm_up M to (IA E 8 (mx i ga gt))) s H locs → lv_has ls 3 [(2, .int (nI i)), (0, .ref a), (1, .ref to)] → W p l e R s m args below meth c H locs cells slots Q (F0 m 2 ls []) := by
  intro k
  induction k with
  | zero =>
    intro i hi H locs ls X hl
    refine lv_iload_n hx hb d_Rng_copy_2 rfl (lv_at hl 0 rfl) ?_
    refine lv_bipush (v := 8) hx hb d_Rng_copy_3 (by decide) ?_
    refine lv_icmp_ge (tgt := 20) hx hb d_Rng_copy_5 (by decide) (fun c5 => ?_) (fun c5 => ?_)
    · exact kk H locs ls ⟨X.1, gm_IA X.2.1 (fun j hj => by rw [mx_lt _ _ (by omega)]), X.2.2⟩
    · exact absurd (i_ge (n := 8) (i := i) (by omega) (by omega)) c5
  | succ k ih =>
    intro i hi H locs ls X hl
    refine lv_iload_n hx hb d_Rng_copy_2 rfl (lv_at hl 0 rfl) ?_
    refine lv_bipush (v := 8) hx hb d_Rng_copy_3 (by decide) ?_
    refine lv_icmp_ge (tgt := 20) hx hb d_Rng_copy_5 (by decide) (fun c5 => ?_) (fun c5 => ?_)
    · exact absurd c5 (i_nge (n := 8) (i := i) (by omega) (by omega))
    · obtain ⟨fa, ra, ea⟩ := rd_mi (i := i) ga ht ha
      refine lv_aload_n hx hb d_Rng_copy_8 rfl (lv_at hl 2 rfl) ?_
      refine lv_iload_n hx hb d_Rng_copy_9 rfl (lv_at hl 0 rfl) ?_
      refine lv_aload_n hx hb d_Rng_copy_10 rfl (lv_at hl 1 rfl) ?_
      refine lv_iload_n hx hb d_Rng_copy_11 rfl (lv_at hl 0 rfl) ?_
      refine gm_iald hx hb X (k := i) ra rfl ⟨by omega, by decide⟩ d_Rng_copy_12 ?_
      rw [ea]
      refine gm_iast hx hb X (k := i) (gm_up_s _ _ _) hA rfl ⟨by omega, by decide⟩ d_Rng_copy_13 (fun H locs X => ?_)
      rw [gm_up_up, mx_sI] at X
      refine lv_iinc (v := (nI (i + 1))) (lv' := [(2, .int (nI (i + 1))), (0, .ref a), (1, .ref to)]) hx hb d_Rng_copy_14 hl (k := 0) rfl (nI_1 i) (by decide) rfl (fun ls hl => ?_)
      refine lv_goto (tgt := 2) hx hb d_Rng_copy_17 (by decide) ?_
      exact ih (i + 1) (by omega) H locs ls X hl
theorem c_Rng_copy (l : Launch) (E : gm_E) (M : gm_M) {to a : Nat} {gt ga : Nat → Int32} (ht : M to = some (IA E 8 gt)) (hA : E.2.1 ≤ to) (ha : M a = some (IA E 8 ga)) : cv_ l y_Rng_copy b_Rng_copy 3 none { frames := 0, cells := 0, slots := 0, locals := 0 } E M [.ref a, .ref to] (fun M' => M' = gm_up M to (IA E 8 ga)) := by
  refine gm_met (by decide) (Nat.le_of_ble_eq_true rfl) (fun p e s m below meth c ls hx hb hml hr hlk hnm hown hW X hl => ?_)
  have hl : lv_has ls 3 [(0, .ref a), (1, .ref to)] := hl
  refine lv_iconst (v := 0) hx hb d_Rng_copy_0 (by decide) ?_
  refine lv_istore_n (lv' := [(2, .int 0), (0, .ref a), (1, .ref to)]) hx hb d_Rng_copy_1 rfl hl (by decide) rfl (fun ls hl => ?_)
  have X0 : gx E (gm_up M to (IA E 8 (mx 0 ga gt))) s s.heap [] := by rw [mx_0, gm_up_self ht]; exact X
  refine lp_Rng_copy hx hb ht hA ha (fun H locs ls X => ?_) 8 0 rfl _ _ ls X0 hl
  exact gm_vret hx hb hr hlk X rfl d_Rng_copy_20
set_option maxHeartbeats 1000000 in
theorem c_Rng_isZero (l : Launch) (E : gm_E) (M : gm_M) {a : Nat} {ga : Nat → Int32} (ha : M a = some (IA E 8 ga)) : ci_ l y_Rng_isZero b_Rng_isZero 3 (some .boolean) { frames := 0, cells := 0, slots := 0, locals := 0 } E M [.ref a] (fun r M' => M' = M ∧ ((r = 1 ∧ IV ga 8 = 0) ∨ (r = 0 ∧ ¬ IV ga 8 = 0))) := by
  refine gm_met (by decide) (Nat.le_of_ble_eq_true rfl) (fun p e s m below meth c ls hx hb hml hr hlk hnm hown hW X hl => ?_)
  have hl : lv_has ls 3 [(0, .ref a)] := hl
  refine lv_iconst (v := 0) hx hb d_Rng_isZero_0 (by decide) ?_
  refine lv_istore_n (lv' := [(1, .int 0), (0, .ref a)]) hx hb d_Rng_isZero_1 rfl hl (by decide) rfl (fun ls hl => ?_)
  refine lv_iconst (v := 0) hx hb d_Rng_isZero_2 (by decide) ?_
  refine lv_istore_n (lv' := [(2, .int 0), (1, .int 0), (0, .ref a)]) hx hb d_Rng_isZero_3 rfl hl (by decide) rfl (fun ls hl => ?_)
  refine lv_iload_n hx hb d_Rng_isZero_4 rfl (lv_at hl 0 rfl) ?_
  refine lv_bipush (v := 8) hx hb d_Rng_isZero_5 (by decide) ?_
  refine lv_icmp_ge (tgt := 22) hx hb d_Rng_isZero_7 (by decide) (fun c9 => absurd c9 (by decide)) (fun _ => ?_)
  refine lv_iload_n hx hb d_Rng_isZero_10 rfl (lv_at hl 1 rfl) ?_
  refine lv_aload_n hx hb d_Rng_isZero_11 rfl (lv_at hl 2 rfl) ?_
  refine lv_iload_n hx hb d_Rng_isZero_12 rfl (lv_at hl 0 rfl) ?_
  refine gm_iald hx hb X (k := 0) ha (by decide) ⟨by decide, by decide⟩ d_Rng_isZero_13 ?_
  refine lv_ior hx hb d_Rng_isZero_14 ?_
  refine lv_istore_n (lv' := [(1, .int (0 ||| (ga 0))), (2, .int 0), (0, .ref a)]) hx hb d_Rng_isZero_15 rfl hl (by decide) rfl (fun ls hl => ?_)
  refine lv_iinc (v := 1) (lv' := [(2, .int 1), (1, .int (0 ||| (ga 0))), (0, .ref a)]) hx hb d_Rng_isZero_16 hl (k := 1) rfl (by decide) (by decide) rfl (fun ls hl => ?_)
  refine lv_goto (tgt := 4) hx hb d_Rng_isZero_19 (by decide) ?_
  refine lv_iload_n hx hb d_Rng_isZero_4 rfl (lv_at hl 0 rfl) ?_
  refine lv_bipush (v := 8) hx hb d_Rng_isZero_5 (by decide) ?_
  refine lv_icmp_ge (tgt := 22) hx hb d_Rng_isZero_7 (by decide) (fun c9 => absurd c9 (by decide)) (fun _ => ?_)
  refine lv_iload_n hx hb d_Rng_isZero_10 rfl (lv_at hl 1 rfl) ?_
  refine lv_aload_n hx hb d_Rng_isZero_11 rfl (lv_at hl 2 rfl) ?_
  refine lv_iload_n hx hb d_Rng_isZero_12 rfl (lv_at hl 0 rfl) ?_
  refine gm_iald hx hb X (k := 1) ha (by decide) ⟨by decide, by decide⟩ d_Rng_isZero_13 ?_
  refine lv_ior hx hb d_Rng_isZero_14 ?_
  refine lv_istore_n (lv' := [(1, .int ((0 ||| (ga 0)) ||| (ga 1))), (2, .int 1), (0, .ref a)]) hx hb d_Rng_isZero_15 rfl hl (by decide) rfl (fun ls hl => ?_)
  refine lv_iinc (v := 2) (lv' := [(2, .int 2), (1, .int ((0 ||| (ga 0)) ||| (ga 1))), (0, .ref a)]) hx hb d_Rng_isZero_16 hl (k := 1) rfl (by decide) (by decide) rfl (fun ls hl => ?_)
  refine lv_goto (tgt := 4) hx hb d_Rng_isZero_19 (by decide) ?_
  refine lv_iload_n hx hb d_Rng_isZero_4 rfl (lv_at hl 0 rfl) ?_
  refine lv_bipush (v := 8) hx hb d_Rng_isZero_5 (by decide) ?_
  refine lv_icmp_ge (tgt := 22) hx hb d_Rng_isZero_7 (by decide) (fun c9 => absurd c9 (by decide)) (fun _ => ?_)
  refine lv_iload_n hx hb d_Rng_isZero_10 rfl (lv_at hl 1 rfl) ?_
  refine lv_aload_n hx hb d_Rng_isZero_11 rfl (lv_at hl 2 rfl) ?_
  refine lv_iload_n hx hb d_Rng_isZero_12 rfl (lv_at hl 0 rfl) ?_
  refine gm_iald hx hb X (k := 2) ha (by decide) ⟨by decide, by decide⟩ d_Rng_isZero_13 ?_
  refine lv_ior hx hb d_Rng_isZero_14 ?_
  refine lv_istore_n (lv' := [(1, .int (((0 ||| (ga 0)) ||| (ga 1)) ||| (ga 2))), (2, .int 2), (0, .ref a)]) hx hb d_Rng_isZero_15 rfl hl (by decide) rfl (fun ls hl => ?_)
  refine lv_iinc (v := 3) (lv' := [(2, .int 3), (1, .int (((0 ||| (ga 0)) ||| (ga 1)) ||| (ga 2))), (0, .ref a)]) hx hb d_Rng_isZero_16 hl (k := 1) rfl (by decide) (by decide) rfl (fun ls hl => ?_)
  refine lv_goto (tgt := 4) hx hb d_Rng_isZero_19 (by decide) ?_
  refine lv_iload_n hx hb d_Rng_isZero_4 rfl (lv_at hl 0 rfl) ?_
  refine lv_bipush (v := 8) hx hb d_Rng_isZero_5 (by decide) ?_
  refine lv_icmp_ge (tgt := 22) hx hb d_Rng_isZero_7 (by decide) (fun c9 => absurd c9 (by decide)) (fun _ => ?_)
  refine lv_iload_n hx hb d_Rng_isZero_10 rfl (lv_at hl 1 rfl) ?_
  refine lv_aload_n hx hb d_Rng_isZero_11 rfl (lv_at hl 2 rfl) ?_
  refine lv_iload_n hx hb d_Rng_isZero_12 rfl (lv_at hl 0 rfl) ?_
  refine gm_iald hx hb X (k := 3) ha (by decide) ⟨by decide, by decide⟩ d_Rng_isZero_13 ?_
  refine lv_ior hx hb d_Rng_isZero_14 ?_
  refine lv_istore_n (lv' := [(1, .int ((((0 ||| (ga 0)) ||| (ga 1)) ||| (ga 2)) ||| (ga 3))), (2, .int 3), (0, .ref a)]) hx hb d_Rng_isZero_15 rfl hl (by decide) rfl (fun ls hl => ?_)
  refine lv_iinc (v := 4) (lv' := [(2, .int 4), (1, .int ((((0 ||| (ga 0)) ||| (ga 1)) ||| (ga 2)) ||| (ga 3))), (0, .ref a)]) hx hb d_Rng_isZero_16 hl (k := 1) rfl (by decide) (by decide) rfl (fun ls hl => ?_)
  refine lv_goto (tgt := 4) hx hb d_Rng_isZero_19 (by decide) ?_
  refine lv_iload_n hx hb d_Rng_isZero_4 rfl (lv_at hl 0 rfl) ?_
  refine lv_bipush (v := 8) hx hb d_Rng_isZero_5 (by decide) ?_
  refine lv_icmp_ge (tgt := 22) hx hb d_Rng_isZero_7 (by decide) (fun c9 => absurd c9 (by decide)) (fun _ => ?_)
  refine lv_iload_n hx hb d_Rng_isZero_10 rfl (lv_at hl 1 rfl) ?_
  refine lv_aload_n hx hb d_Rng_isZero_11 rfl (lv_at hl 2 rfl) ?_
  refine lv_iload_n hx hb d_Rng_isZero_12 rfl (lv_at hl 0 rfl) ?_
  refine gm_iald hx hb X (k := 4) ha (by decide) ⟨by decide, by decide⟩ d_Rng_isZero_13 ?_
  refine lv_ior hx hb d_Rng_isZero_14 ?_
  refine lv_istore_n (lv' := [(1, .int (((((0 ||| (ga 0)) ||| (ga 1)) ||| (ga 2)) ||| (ga 3)) ||| (ga 4))), (2, .int 4), (0, .ref a)]) hx hb d_Rng_isZero_15 rfl hl (by decide) rfl (fun ls hl => ?_)
  refine lv_iinc (v := 5) (lv' := [(2, .int 5), (1, .int (((((0 ||| (ga 0)) ||| (ga 1)) ||| (ga 2)) ||| (ga 3)) ||| (ga 4))), (0, .ref a)]) hx hb d_Rng_isZero_16 hl (k := 1) rfl (by decide) (by decide) rfl (fun ls hl => ?_)
  refine lv_goto (tgt := 4) hx hb d_Rng_isZero_19 (by decide) ?_
  refine lv_iload_n hx hb d_Rng_isZero_4 rfl (lv_at hl 0 rfl) ?_
  refine lv_bipush (v := 8) hx hb d_Rng_isZero_5 (by decide) ?_
  refine lv_icmp_ge (tgt := 22) hx hb d_Rng_isZero_7 (by decide) (fun c9 => absurd c9 (by decide)) (fun _ => ?_)
  refine lv_iload_n hx hb d_Rng_isZero_10 rfl (lv_at hl 1 rfl) ?_
  refine lv_aload_n hx hb d_Rng_isZero_11 rfl (lv_at hl 2 rfl) ?_
  refine lv_iload_n hx hb d_Rng_isZero_12 rfl (lv_at hl 0 rfl) ?_
  refine gm_iald hx hb X (k := 5) ha (by decide) ⟨by decide, by decide⟩ d_Rng_isZero_13 ?_
  refine lv_ior hx hb d_Rng_isZero_14 ?_
  refine lv_istore_n (lv' := [(1, .int ((((((0 ||| (ga 0)) ||| (ga 1)) ||| (ga 2)) ||| (ga 3)) ||| (ga 4)) ||| (ga 5))), (2, .int 5), (0, .ref a)]) hx hb d_Rng_isZero_15 rfl hl (by decide) rfl (fun ls hl => ?_)
  refine lv_iinc (v := 6) (lv' := [(2, .int 6), (1, .int ((((((0 ||| (ga 0)) ||| (ga 1)) ||| (ga 2)) ||| (ga 3)) ||| (ga 4)) ||| (ga 5))), (0, .ref a)]) hx hb d_Rng_isZero_16 hl (k := 1) rfl (by decide) (by decide) rfl (fun ls hl => ?_)
  refine lv_goto (tgt := 4) hx hb d_Rng_isZero_19 (by decide) ?_
  refine lv_iload_n hx hb d_Rng_isZero_4 rfl (lv_at hl 0 rfl) ?_
  refine lv_bipush (v := 8) hx hb d_Rng_isZero_5 (by decide) ?_
  refine lv_icmp_ge (tgt := 22) hx hb d_Rng_isZero_7 (by decide) (fun c9 => absurd c9 (by decide)) (fun _ => ?_)
  refine lv_iload_n hx hb d_Rng_isZero_10 rfl (lv_at hl 1 rfl) ?_
  refine lv_aload_n hx hb d_Rng_isZero_11 rfl (lv_at hl 2 rfl) ?_
  refine lv_iload_n hx hb d_Rng_isZero_12 rfl (lv_at hl 0 rfl) ?_
  refine gm_iald hx hb X (k := 6) ha (by decide) ⟨by decide, by decide⟩ d_Rng_isZero_13 ?_
  refine lv_ior hx hb d_Rng_isZero_14 ?_
  refine lv_istore_n (lv' := [(1, .int (((((((0 ||| (ga 0)) ||| (ga 1)) ||| (ga 2)) ||| (ga 3)) ||| (ga 4)) ||| (ga 5)) ||| (ga 6))), (2, .int 6), (0, .ref a)]) hx hb d_Rng_isZero_15 rfl hl (by decide) rfl (fun ls hl => ?_)
  refine lv_iinc (v := 7) (lv' := [(2, .int 7), (1, .int (((((((0 ||| (ga 0)) ||| (ga 1)) ||| (ga 2)) ||| (ga 3)) ||| (ga 4)) ||| (ga 5)) ||| (ga 6))), (0, .ref a)]) hx hb d_Rng_isZero_16 hl (k := 1) rfl (by decide) (by decide) rfl (fun ls hl => ?_)
  refine lv_goto (tgt := 4) hx hb d_Rng_isZero_19 (by decide) ?_
  refine lv_iload_n hx hb d_Rng_isZero_4 rfl (lv_at hl 0 rfl) ?_
  refine lv_bipush (v := 8) hx hb d_Rng_isZero_5 (by decide) ?_
  refine lv_icmp_ge (tgt := 22) hx hb d_Rng_isZero_7 (by decide) (fun c9 => absurd c9 (by decide)) (fun _ => ?_)
  refine lv_iload_n hx hb d_Rng_isZero_10 rfl (lv_at hl 1 rfl) ?_
  refine lv_aload_n hx hb d_Rng_isZero_11 rfl (lv_at hl 2 rfl) ?_
  refine lv_iload_n hx hb d_Rng_isZero_12 rfl (lv_at hl 0 rfl) ?_
  refine gm_iald hx hb X (k := 7) ha (by decide) ⟨by decide, by decide⟩ d_Rng_isZero_13 ?_
  refine lv_ior hx hb d_Rng_isZero_14 ?_
  refine lv_istore_n (lv' := [(1, .int ((((((((0 ||| (ga 0)) ||| (ga 1)) ||| (ga 2)) ||| (ga 3)) ||| (ga 4)) ||| (ga 5)) ||| (ga 6)) ||| (ga 7))), (2, .int 7), (0, .ref a)]) hx hb d_Rng_isZero_15 rfl hl (by decide) rfl (fun ls hl => ?_)
  refine lv_iinc (v := 8) (lv' := [(2, .int 8), (1, .int ((((((((0 ||| (ga 0)) ||| (ga 1)) ||| (ga 2)) ||| (ga 3)) ||| (ga 4)) ||| (ga 5)) ||| (ga 6)) ||| (ga 7))), (0, .ref a)]) hx hb d_Rng_isZero_16 hl (k := 1) rfl (by decide) (by decide) rfl (fun ls hl => ?_)
  refine lv_goto (tgt := 4) hx hb d_Rng_isZero_19 (by decide) ?_
  refine lv_iload_n hx hb d_Rng_isZero_4 rfl (lv_at hl 0 rfl) ?_
  refine lv_bipush (v := 8) hx hb d_Rng_isZero_5 (by decide) ?_
  refine lv_icmp_ge (tgt := 22) hx hb d_Rng_isZero_7 (by decide) (fun _ => ?_) (fun c9 => absurd (by decide) c9)
  refine lv_iload_n hx hb d_Rng_isZero_22 rfl (lv_at hl 1 rfl) ?_
  refine lv_if_ne (tgt := 30) hx hb d_Rng_isZero_23 (by decide) (fun c23 => ?_) (fun c23 => ?_)
  · refine lv_iconst (v := 0) hx hb d_Rng_isZero_30 (by decide) ?_
    exact gm_zret hx hb hr hlk X rfl ⟨rfl, Or.inr ⟨rfl, fun e => c23 (IV_0.mpr e)⟩⟩ d_Rng_isZero_31
  · refine lv_iconst (v := 1) hx hb d_Rng_isZero_26 (by decide) ?_
    refine lv_goto (tgt := 31) hx hb d_Rng_isZero_27 (by decide) ?_
    exact gm_zret hx hb hr hlk X rfl ⟨rfl, Or.inl ⟨rfl, IV_0.mp c23⟩⟩ d_Rng_isZero_31
set_option maxHeartbeats 4000000 in
theorem c_Rng_compare (l : Launch) (E : gm_E) (M : gm_M) {a b : Nat} {f g : Nat → Int32} (ha : M a = some (IA E 8 f)) (hq : M b = some (IA E 8 g)) : ci_ l y_Rng_compare b_Rng_compare 3 (some .int) { frames := 0, cells := 0, slots := 0, locals := 0 } E M [.ref a, .ref b] (fun r M' => M' = M ∧ r = ordI f g 8) := by
  refine gm_met (by decide) (Nat.le_of_ble_eq_true rfl) (fun p e s m below meth c ls hx hb hml hr hlk hnm hown hW X hl => ?_)
  have hl : lv_has ls 3 [(0, .ref a), (1, .ref b)] := hl
  refine lv_bipush (v := 7) hx hb d_Rng_compare_0 (by decide) ?_
  refine lv_istore_n (lv' := [(2, .int 7), (0, .ref a), (1, .ref b)]) hx hb d_Rng_compare_2 rfl hl (by decide) rfl (fun ls hl => ?_)
  refine lv_iload_n hx hb d_Rng_compare_3 rfl (lv_at hl 0 rfl) ?_
  refine lv_if_lt (tgt := 48) hx hb d_Rng_compare_4 (by decide) (fun c9 => absurd c9 (by decide)) (fun _ => ?_)
  refine lv_aload_n hx hb d_Rng_compare_7 rfl (lv_at hl 1 rfl) ?_
  refine lv_iload_n hx hb d_Rng_compare_8 rfl (lv_at hl 0 rfl) ?_
  refine gm_iald hx hb X (k := 7) ha (by decide) ⟨by decide, by decide⟩ d_Rng_compare_9 ?_
  refine lv_aload_n hx hb d_Rng_compare_10 rfl (lv_at hl 2 rfl) ?_
  refine lv_iload_n hx hb d_Rng_compare_11 rfl (lv_at hl 0 rfl) ?_
  refine gm_iald hx hb X (k := 7) hq (by decide) ⟨by decide, by decide⟩ d_Rng_compare_12 ?_
  refine lv_icmp_eq (tgt := 42) hx hb d_Rng_compare_13 (by decide) (fun c13 => ?_) (fun c13 => ?_)
  · have h7 := c13
    refine lv_iinc (v := 6) (lv' := [(2, .int 6), (0, .ref a), (1, .ref b)]) hx hb d_Rng_compare_42 hl (k := 0) rfl (by decide) (by decide) rfl (fun ls hl => ?_)
    refine lv_goto (tgt := 3) hx hb d_Rng_compare_45 (by decide) ?_
    refine lv_iload_n hx hb d_Rng_compare_3 rfl (lv_at hl 0 rfl) ?_
    refine lv_if_lt (tgt := 48) hx hb d_Rng_compare_4 (by decide) (fun c9 => absurd c9 (by decide)) (fun _ => ?_)
    refine lv_aload_n hx hb d_Rng_compare_7 rfl (lv_at hl 1 rfl) ?_
    refine lv_iload_n hx hb d_Rng_compare_8 rfl (lv_at hl 0 rfl) ?_
    refine gm_iald hx hb X (k := 6) ha (by decide) ⟨by decide, by decide⟩ d_Rng_compare_9 ?_
    refine lv_aload_n hx hb d_Rng_compare_10 rfl (lv_at hl 2 rfl) ?_
    refine lv_iload_n hx hb d_Rng_compare_11 rfl (lv_at hl 0 rfl) ?_
    refine gm_iald hx hb X (k := 6) hq (by decide) ⟨by decide, by decide⟩ d_Rng_compare_12 ?_
    refine lv_icmp_eq (tgt := 42) hx hb d_Rng_compare_13 (by decide) (fun c13 => ?_) (fun c13 => ?_)
    · have h6 := c13
      refine lv_iinc (v := 5) (lv' := [(2, .int 5), (0, .ref a), (1, .ref b)]) hx hb d_Rng_compare_42 hl (k := 0) rfl (by decide) (by decide) rfl (fun ls hl => ?_)
      refine lv_goto (tgt := 3) hx hb d_Rng_compare_45 (by decide) ?_
      refine lv_iload_n hx hb d_Rng_compare_3 rfl (lv_at hl 0 rfl) ?_
      refine lv_if_lt (tgt := 48) hx hb d_Rng_compare_4 (by decide) (fun c9 => absurd c9 (by decide)) (fun _ => ?_)
      refine lv_aload_n hx hb d_Rng_compare_7 rfl (lv_at hl 1 rfl) ?_
      refine lv_iload_n hx hb d_Rng_compare_8 rfl (lv_at hl 0 rfl) ?_
      refine gm_iald hx hb X (k := 5) ha (by decide) ⟨by decide, by decide⟩ d_Rng_compare_9 ?_
      refine lv_aload_n hx hb d_Rng_compare_10 rfl (lv_at hl 2 rfl) ?_
      refine lv_iload_n hx hb d_Rng_compare_11 rfl (lv_at hl 0 rfl) ?_
      refine gm_iald hx hb X (k := 5) hq (by decide) ⟨by decide, by decide⟩ d_Rng_compare_12 ?_
      refine lv_icmp_eq (tgt := 42) hx hb d_Rng_compare_13 (by decide) (fun c13 => ?_) (fun c13 => ?_)
      · have h5 := c13
        refine lv_iinc (v := 4) (lv' := [(2, .int 4), (0, .ref a), (1, .ref b)]) hx hb d_Rng_compare_42 hl (k := 0) rfl (by decide) (by decide) rfl (fun ls hl => ?_)
        refine lv_goto (tgt := 3) hx hb d_Rng_compare_45 (by decide) ?_
        refine lv_iload_n hx hb d_Rng_compare_3 rfl (lv_at hl 0 rfl) ?_
        refine lv_if_lt (tgt := 48) hx hb d_Rng_compare_4 (by decide) (fun c9 => absurd c9 (by decide)) (fun _ => ?_)
        refine lv_aload_n hx hb d_Rng_compare_7 rfl (lv_at hl 1 rfl) ?_
        refine lv_iload_n hx hb d_Rng_compare_8 rfl (lv_at hl 0 rfl) ?_
        refine gm_iald hx hb X (k := 4) ha (by decide) ⟨by decide, by decide⟩ d_Rng_compare_9 ?_
        refine lv_aload_n hx hb d_Rng_compare_10 rfl (lv_at hl 2 rfl) ?_
        refine lv_iload_n hx hb d_Rng_compare_11 rfl (lv_at hl 0 rfl) ?_
        refine gm_iald hx hb X (k := 4) hq (by decide) ⟨by decide, by decide⟩ d_Rng_compare_12 ?_
        refine lv_icmp_eq (tgt := 42) hx hb d_Rng_compare_13 (by decide) (fun c13 => ?_) (fun c13 => ?_)
        · have h4 := c13
          refine lv_iinc (v := 3) (lv' := [(2, .int 3), (0, .ref a), (1, .ref b)]) hx hb d_Rng_compare_42 hl (k := 0) rfl (by decide) (by decide) rfl (fun ls hl => ?_)
          refine lv_goto (tgt := 3) hx hb d_Rng_compare_45 (by decide) ?_
          refine lv_iload_n hx hb d_Rng_compare_3 rfl (lv_at hl 0 rfl) ?_
          refine lv_if_lt (tgt := 48) hx hb d_Rng_compare_4 (by decide) (fun c9 => absurd c9 (by decide)) (fun _ => ?_)
          refine lv_aload_n hx hb d_Rng_compare_7 rfl (lv_at hl 1 rfl) ?_
          refine lv_iload_n hx hb d_Rng_compare_8 rfl (lv_at hl 0 rfl) ?_
          refine gm_iald hx hb X (k := 3) ha (by decide) ⟨by decide, by decide⟩ d_Rng_compare_9 ?_
          refine lv_aload_n hx hb d_Rng_compare_10 rfl (lv_at hl 2 rfl) ?_
          refine lv_iload_n hx hb d_Rng_compare_11 rfl (lv_at hl 0 rfl) ?_
          refine gm_iald hx hb X (k := 3) hq (by decide) ⟨by decide, by decide⟩ d_Rng_compare_12 ?_
          refine lv_icmp_eq (tgt := 42) hx hb d_Rng_compare_13 (by decide) (fun c13 => ?_) (fun c13 => ?_)
          · have h3 := c13
            refine lv_iinc (v := 2) (lv' := [(2, .int 2), (0, .ref a), (1, .ref b)]) hx hb d_Rng_compare_42 hl (k := 0) rfl (by decide) (by decide) rfl (fun ls hl => ?_)
            refine lv_goto (tgt := 3) hx hb d_Rng_compare_45 (by decide) ?_
            refine lv_iload_n hx hb d_Rng_compare_3 rfl (lv_at hl 0 rfl) ?_
            refine lv_if_lt (tgt := 48) hx hb d_Rng_compare_4 (by decide) (fun c9 => absurd c9 (by decide)) (fun _ => ?_)
            refine lv_aload_n hx hb d_Rng_compare_7 rfl (lv_at hl 1 rfl) ?_
            refine lv_iload_n hx hb d_Rng_compare_8 rfl (lv_at hl 0 rfl) ?_
            refine gm_iald hx hb X (k := 2) ha (by decide) ⟨by decide, by decide⟩ d_Rng_compare_9 ?_
            refine lv_aload_n hx hb d_Rng_compare_10 rfl (lv_at hl 2 rfl) ?_
            refine lv_iload_n hx hb d_Rng_compare_11 rfl (lv_at hl 0 rfl) ?_
            refine gm_iald hx hb X (k := 2) hq (by decide) ⟨by decide, by decide⟩ d_Rng_compare_12 ?_
            refine lv_icmp_eq (tgt := 42) hx hb d_Rng_compare_13 (by decide) (fun c13 => ?_) (fun c13 => ?_)
            · have h2 := c13
              refine lv_iinc (v := 1) (lv' := [(2, .int 1), (0, .ref a), (1, .ref b)]) hx hb d_Rng_compare_42 hl (k := 0) rfl (by decide) (by decide) rfl (fun ls hl => ?_)
              refine lv_goto (tgt := 3) hx hb d_Rng_compare_45 (by decide) ?_
              refine lv_iload_n hx hb d_Rng_compare_3 rfl (lv_at hl 0 rfl) ?_
              refine lv_if_lt (tgt := 48) hx hb d_Rng_compare_4 (by decide) (fun c9 => absurd c9 (by decide)) (fun _ => ?_)
              refine lv_aload_n hx hb d_Rng_compare_7 rfl (lv_at hl 1 rfl) ?_
              refine lv_iload_n hx hb d_Rng_compare_8 rfl (lv_at hl 0 rfl) ?_
              refine gm_iald hx hb X (k := 1) ha (by decide) ⟨by decide, by decide⟩ d_Rng_compare_9 ?_
              refine lv_aload_n hx hb d_Rng_compare_10 rfl (lv_at hl 2 rfl) ?_
              refine lv_iload_n hx hb d_Rng_compare_11 rfl (lv_at hl 0 rfl) ?_
              refine gm_iald hx hb X (k := 1) hq (by decide) ⟨by decide, by decide⟩ d_Rng_compare_12 ?_
              refine lv_icmp_eq (tgt := 42) hx hb d_Rng_compare_13 (by decide) (fun c13 => ?_) (fun c13 => ?_)
              · have h1 := c13
                refine lv_iinc (v := 0) (lv' := [(2, .int 0), (0, .ref a), (1, .ref b)]) hx hb d_Rng_compare_42 hl (k := 0) rfl (by decide) (by decide) rfl (fun ls hl => ?_)
                refine lv_goto (tgt := 3) hx hb d_Rng_compare_45 (by decide) ?_
                refine lv_iload_n hx hb d_Rng_compare_3 rfl (lv_at hl 0 rfl) ?_
                refine lv_if_lt (tgt := 48) hx hb d_Rng_compare_4 (by decide) (fun c9 => absurd c9 (by decide)) (fun _ => ?_)
                refine lv_aload_n hx hb d_Rng_compare_7 rfl (lv_at hl 1 rfl) ?_
                refine lv_iload_n hx hb d_Rng_compare_8 rfl (lv_at hl 0 rfl) ?_
                refine gm_iald hx hb X (k := 0) ha (by decide) ⟨by decide, by decide⟩ d_Rng_compare_9 ?_
                refine lv_aload_n hx hb d_Rng_compare_10 rfl (lv_at hl 2 rfl) ?_
                refine lv_iload_n hx hb d_Rng_compare_11 rfl (lv_at hl 0 rfl) ?_
                refine gm_iald hx hb X (k := 0) hq (by decide) ⟨by decide, by decide⟩ d_Rng_compare_12 ?_
                refine lv_icmp_eq (tgt := 42) hx hb d_Rng_compare_13 (by decide) (fun c13 => ?_) (fun c13 => ?_)
                · have h0 := c13
                  refine lv_iinc (v := (-1)) (lv' := [(2, .int (-1)), (0, .ref a), (1, .ref b)]) hx hb d_Rng_compare_42 hl (k := 0) rfl (by decide) (by decide) rfl (fun ls hl => ?_)
                  refine lv_goto (tgt := 3) hx hb d_Rng_compare_45 (by decide) ?_
                  refine lv_iload_n hx hb d_Rng_compare_3 rfl (lv_at hl 0 rfl) ?_
                  refine lv_if_lt (tgt := 48) hx hb d_Rng_compare_4 (by decide) (fun _ => ?_) (fun c9 => absurd (by decide) c9)
                  refine lv_iconst (v := 0) hx hb d_Rng_compare_48 (by decide) ?_
                  exact gm_iret hx hb hr hlk X ⟨rfl, ((ordI_0 h7).trans ((ordI_0 h6).trans ((ordI_0 h5).trans ((ordI_0 h4).trans ((ordI_0 h3).trans ((ordI_0 h2).trans ((ordI_0 h1).trans ((ordI_0 h0).trans (rfl))))))))).symm⟩ d_Rng_compare_49
                · have h0 := c13
                  refine lv_aload_n hx hb d_Rng_compare_16 rfl (lv_at hl 1 rfl) ?_
                  refine lv_iload_n hx hb d_Rng_compare_17 rfl (lv_at hl 0 rfl) ?_
                  refine gm_iald hx hb X (k := 0) ha (by decide) ⟨by decide, by decide⟩ d_Rng_compare_18 ?_
                  refine lv_i2l hx hb d_Rng_compare_19 rfl ?_
                  refine lv_ldc2 (v := 4294967295) hx hb hown (hW _ wk_Rng_49) d_Rng_compare_20 ?_
                  refine lv_land hx hb d_Rng_compare_23 ?_
                  refine lv_aload_n hx hb d_Rng_compare_24 rfl (lv_at hl 2 rfl) ?_
                  refine lv_iload_n hx hb d_Rng_compare_25 rfl (lv_at hl 0 rfl) ?_
                  refine gm_iald hx hb X (k := 0) hq (by decide) ⟨by decide, by decide⟩ d_Rng_compare_26 ?_
                  refine lv_i2l hx hb d_Rng_compare_27 rfl ?_
                  refine lv_ldc2 (v := 4294967295) hx hb hown (hW _ wk_Rng_49) d_Rng_compare_28 ?_
                  refine lv_land hx hb d_Rng_compare_31 ?_
                  refine W.lcmp hx hb d_Rng_compare_32 ?_
                  refine lv_if_ge (tgt := 40) hx hb d_Rng_compare_33 (by decide) (fun c33 => ?_) (fun c33 => ?_)
                  · refine lv_iconst (v := 1) hx hb d_Rng_compare_40 (by decide) ?_
                    exact gm_iret hx hb hr hlk X ⟨rfl, ((ordI_0 h7).trans ((ordI_0 h6).trans ((ordI_0 h5).trans ((ordI_0 h4).trans ((ordI_0 h3).trans ((ordI_0 h2).trans ((ordI_0 h1).trans (ordI_1 h0 c33)))))))).symm⟩ d_Rng_compare_41
                  · refine lv_iconst (v := (-1)) hx hb d_Rng_compare_36 (by decide) ?_
                    refine lv_goto (tgt := 41) hx hb d_Rng_compare_37 (by decide) ?_
                    exact gm_iret hx hb hr hlk X ⟨rfl, ((ordI_0 h7).trans ((ordI_0 h6).trans ((ordI_0 h5).trans ((ordI_0 h4).trans ((ordI_0 h3).trans ((ordI_0 h2).trans ((ordI_0 h1).trans (ordI_2 h0 c33)))))))).symm⟩ d_Rng_compare_41
              · have h1 := c13
                refine lv_aload_n hx hb d_Rng_compare_16 rfl (lv_at hl 1 rfl) ?_
                refine lv_iload_n hx hb d_Rng_compare_17 rfl (lv_at hl 0 rfl) ?_
                refine gm_iald hx hb X (k := 1) ha (by decide) ⟨by decide, by decide⟩ d_Rng_compare_18 ?_
                refine lv_i2l hx hb d_Rng_compare_19 rfl ?_
                refine lv_ldc2 (v := 4294967295) hx hb hown (hW _ wk_Rng_49) d_Rng_compare_20 ?_
                refine lv_land hx hb d_Rng_compare_23 ?_
                refine lv_aload_n hx hb d_Rng_compare_24 rfl (lv_at hl 2 rfl) ?_
                refine lv_iload_n hx hb d_Rng_compare_25 rfl (lv_at hl 0 rfl) ?_
                refine gm_iald hx hb X (k := 1) hq (by decide) ⟨by decide, by decide⟩ d_Rng_compare_26 ?_
                refine lv_i2l hx hb d_Rng_compare_27 rfl ?_
                refine lv_ldc2 (v := 4294967295) hx hb hown (hW _ wk_Rng_49) d_Rng_compare_28 ?_
                refine lv_land hx hb d_Rng_compare_31 ?_
                refine W.lcmp hx hb d_Rng_compare_32 ?_
                refine lv_if_ge (tgt := 40) hx hb d_Rng_compare_33 (by decide) (fun c33 => ?_) (fun c33 => ?_)
                · refine lv_iconst (v := 1) hx hb d_Rng_compare_40 (by decide) ?_
                  exact gm_iret hx hb hr hlk X ⟨rfl, ((ordI_0 h7).trans ((ordI_0 h6).trans ((ordI_0 h5).trans ((ordI_0 h4).trans ((ordI_0 h3).trans ((ordI_0 h2).trans (ordI_1 h1 c33))))))).symm⟩ d_Rng_compare_41
                · refine lv_iconst (v := (-1)) hx hb d_Rng_compare_36 (by decide) ?_
                  refine lv_goto (tgt := 41) hx hb d_Rng_compare_37 (by decide) ?_
                  exact gm_iret hx hb hr hlk X ⟨rfl, ((ordI_0 h7).trans ((ordI_0 h6).trans ((ordI_0 h5).trans ((ordI_0 h4).trans ((ordI_0 h3).trans ((ordI_0 h2).trans (ordI_2 h1 c33))))))).symm⟩ d_Rng_compare_41
            · have h2 := c13
              refine lv_aload_n hx hb d_Rng_compare_16 rfl (lv_at hl 1 rfl) ?_
              refine lv_iload_n hx hb d_Rng_compare_17 rfl (lv_at hl 0 rfl) ?_
              refine gm_iald hx hb X (k := 2) ha (by decide) ⟨by decide, by decide⟩ d_Rng_compare_18 ?_
              refine lv_i2l hx hb d_Rng_compare_19 rfl ?_
              refine lv_ldc2 (v := 4294967295) hx hb hown (hW _ wk_Rng_49) d_Rng_compare_20 ?_
              refine lv_land hx hb d_Rng_compare_23 ?_
              refine lv_aload_n hx hb d_Rng_compare_24 rfl (lv_at hl 2 rfl) ?_
              refine lv_iload_n hx hb d_Rng_compare_25 rfl (lv_at hl 0 rfl) ?_
              refine gm_iald hx hb X (k := 2) hq (by decide) ⟨by decide, by decide⟩ d_Rng_compare_26 ?_
              refine lv_i2l hx hb d_Rng_compare_27 rfl ?_
              refine lv_ldc2 (v := 4294967295) hx hb hown (hW _ wk_Rng_49) d_Rng_compare_28 ?_
              refine lv_land hx hb d_Rng_compare_31 ?_
              refine W.lcmp hx hb d_Rng_compare_32 ?_
              refine lv_if_ge (tgt := 40) hx hb d_Rng_compare_33 (by decide) (fun c33 => ?_) (fun c33 => ?_)
              · refine lv_iconst (v := 1) hx hb d_Rng_compare_40 (by decide) ?_
                exact gm_iret hx hb hr hlk X ⟨rfl, ((ordI_0 h7).trans ((ordI_0 h6).trans ((ordI_0 h5).trans ((ordI_0 h4).trans ((ordI_0 h3).trans (ordI_1 h2 c33)))))).symm⟩ d_Rng_compare_41
              · refine lv_iconst (v := (-1)) hx hb d_Rng_compare_36 (by decide) ?_
                refine lv_goto (tgt := 41) hx hb d_Rng_compare_37 (by decide) ?_
                exact gm_iret hx hb hr hlk X ⟨rfl, ((ordI_0 h7).trans ((ordI_0 h6).trans ((ordI_0 h5).trans ((ordI_0 h4).trans ((ordI_0 h3).trans (ordI_2 h2 c33)))))).symm⟩ d_Rng_compare_41
          · have h3 := c13
            refine lv_aload_n hx hb d_Rng_compare_16 rfl (lv_at hl 1 rfl) ?_
            refine lv_iload_n hx hb d_Rng_compare_17 rfl (lv_at hl 0 rfl) ?_
            refine gm_iald hx hb X (k := 3) ha (by decide) ⟨by decide, by decide⟩ d_Rng_compare_18 ?_
            refine lv_i2l hx hb d_Rng_compare_19 rfl ?_
            refine lv_ldc2 (v := 4294967295) hx hb hown (hW _ wk_Rng_49) d_Rng_compare_20 ?_
            refine lv_land hx hb d_Rng_compare_23 ?_
            refine lv_aload_n hx hb d_Rng_compare_24 rfl (lv_at hl 2 rfl) ?_
            refine lv_iload_n hx hb d_Rng_compare_25 rfl (lv_at hl 0 rfl) ?_
            refine gm_iald hx hb X (k := 3) hq (by decide) ⟨by decide, by decide⟩ d_Rng_compare_26 ?_
            refine lv_i2l hx hb d_Rng_compare_27 rfl ?_
            refine lv_ldc2 (v := 4294967295) hx hb hown (hW _ wk_Rng_49) d_Rng_compare_28 ?_
            refine lv_land hx hb d_Rng_compare_31 ?_
            refine W.lcmp hx hb d_Rng_compare_32 ?_
            refine lv_if_ge (tgt := 40) hx hb d_Rng_compare_33 (by decide) (fun c33 => ?_) (fun c33 => ?_)
            · refine lv_iconst (v := 1) hx hb d_Rng_compare_40 (by decide) ?_
              exact gm_iret hx hb hr hlk X ⟨rfl, ((ordI_0 h7).trans ((ordI_0 h6).trans ((ordI_0 h5).trans ((ordI_0 h4).trans (ordI_1 h3 c33))))).symm⟩ d_Rng_compare_41
            · refine lv_iconst (v := (-1)) hx hb d_Rng_compare_36 (by decide) ?_
              refine lv_goto (tgt := 41) hx hb d_Rng_compare_37 (by decide) ?_
              exact gm_iret hx hb hr hlk X ⟨rfl, ((ordI_0 h7).trans ((ordI_0 h6).trans ((ordI_0 h5).trans ((ordI_0 h4).trans (ordI_2 h3 c33))))).symm⟩ d_Rng_compare_41
        · have h4 := c13
          refine lv_aload_n hx hb d_Rng_compare_16 rfl (lv_at hl 1 rfl) ?_
          refine lv_iload_n hx hb d_Rng_compare_17 rfl (lv_at hl 0 rfl) ?_
          refine gm_iald hx hb X (k := 4) ha (by decide) ⟨by decide, by decide⟩ d_Rng_compare_18 ?_
          refine lv_i2l hx hb d_Rng_compare_19 rfl ?_
          refine lv_ldc2 (v := 4294967295) hx hb hown (hW _ wk_Rng_49) d_Rng_compare_20 ?_
          refine lv_land hx hb d_Rng_compare_23 ?_
          refine lv_aload_n hx hb d_Rng_compare_24 rfl (lv_at hl 2 rfl) ?_
          refine lv_iload_n hx hb d_Rng_compare_25 rfl (lv_at hl 0 rfl) ?_
          refine gm_iald hx hb X (k := 4) hq (by decide) ⟨by decide, by decide⟩ d_Rng_compare_26 ?_
          refine lv_i2l hx hb d_Rng_compare_27 rfl ?_
          refine lv_ldc2 (v := 4294967295) hx hb hown (hW _ wk_Rng_49) d_Rng_compare_28 ?_
          refine lv_land hx hb d_Rng_compare_31 ?_
          refine W.lcmp hx hb d_Rng_compare_32 ?_
          refine lv_if_ge (tgt := 40) hx hb d_Rng_compare_33 (by decide) (fun c33 => ?_) (fun c33 => ?_)
          · refine lv_iconst (v := 1) hx hb d_Rng_compare_40 (by decide) ?_
            exact gm_iret hx hb hr hlk X ⟨rfl, ((ordI_0 h7).trans ((ordI_0 h6).trans ((ordI_0 h5).trans (ordI_1 h4 c33)))).symm⟩ d_Rng_compare_41
          · refine lv_iconst (v := (-1)) hx hb d_Rng_compare_36 (by decide) ?_
            refine lv_goto (tgt := 41) hx hb d_Rng_compare_37 (by decide) ?_
            exact gm_iret hx hb hr hlk X ⟨rfl, ((ordI_0 h7).trans ((ordI_0 h6).trans ((ordI_0 h5).trans (ordI_2 h4 c33)))).symm⟩ d_Rng_compare_41
      · have h5 := c13
        refine lv_aload_n hx hb d_Rng_compare_16 rfl (lv_at hl 1 rfl) ?_
        refine lv_iload_n hx hb d_Rng_compare_17 rfl (lv_at hl 0 rfl) ?_
        refine gm_iald hx hb X (k := 5) ha (by decide) ⟨by decide, by decide⟩ d_Rng_compare_18 ?_
        refine lv_i2l hx hb d_Rng_compare_19 rfl ?_
        refine lv_ldc2 (v := 4294967295) hx hb hown (hW _ wk_Rng_49) d_Rng_compare_20 ?_
        refine lv_land hx hb d_Rng_compare_23 ?_
        refine lv_aload_n hx hb d_Rng_compare_24 rfl (lv_at hl 2 rfl) ?_
        refine lv_iload_n hx hb d_Rng_compare_25 rfl (lv_at hl 0 rfl) ?_
        refine gm_iald hx hb X (k := 5) hq (by decide) ⟨by decide, by decide⟩ d_Rng_compare_26 ?_
        refine lv_i2l hx hb d_Rng_compare_27 rfl ?_
        refine lv_ldc2 (v := 4294967295) hx hb hown (hW _ wk_Rng_49) d_Rng_compare_28 ?_
        refine lv_land hx hb d_Rng_compare_31 ?_
        refine W.lcmp hx hb d_Rng_compare_32 ?_
        refine lv_if_ge (tgt := 40) hx hb d_Rng_compare_33 (by decide) (fun c33 => ?_) (fun c33 => ?_)
        · refine lv_iconst (v := 1) hx hb d_Rng_compare_40 (by decide) ?_
          exact gm_iret hx hb hr hlk X ⟨rfl, ((ordI_0 h7).trans ((ordI_0 h6).trans (ordI_1 h5 c33))).symm⟩ d_Rng_compare_41
        · refine lv_iconst (v := (-1)) hx hb d_Rng_compare_36 (by decide) ?_
          refine lv_goto (tgt := 41) hx hb d_Rng_compare_37 (by decide) ?_
          exact gm_iret hx hb hr hlk X ⟨rfl, ((ordI_0 h7).trans ((ordI_0 h6).trans (ordI_2 h5 c33))).symm⟩ d_Rng_compare_41
    · have h6 := c13
      refine lv_aload_n hx hb d_Rng_compare_16 rfl (lv_at hl 1 rfl) ?_
      refine lv_iload_n hx hb d_Rng_compare_17 rfl (lv_at hl 0 rfl) ?_
      refine gm_iald hx hb X (k := 6) ha (by decide) ⟨by decide, by decide⟩ d_Rng_compare_18 ?_
      refine lv_i2l hx hb d_Rng_compare_19 rfl ?_
      refine lv_ldc2 (v := 4294967295) hx hb hown (hW _ wk_Rng_49) d_Rng_compare_20 ?_
      refine lv_land hx hb d_Rng_compare_23 ?_
      refine lv_aload_n hx hb d_Rng_compare_24 rfl (lv_at hl 2 rfl) ?_
      refine lv_iload_n hx hb d_Rng_compare_25 rfl (lv_at hl 0 rfl) ?_
      refine gm_iald hx hb X (k := 6) hq (by decide) ⟨by decide, by decide⟩ d_Rng_compare_26 ?_
      refine lv_i2l hx hb d_Rng_compare_27 rfl ?_
      refine lv_ldc2 (v := 4294967295) hx hb hown (hW _ wk_Rng_49) d_Rng_compare_28 ?_
      refine lv_land hx hb d_Rng_compare_31 ?_
      refine W.lcmp hx hb d_Rng_compare_32 ?_
      refine lv_if_ge (tgt := 40) hx hb d_Rng_compare_33 (by decide) (fun c33 => ?_) (fun c33 => ?_)
      · refine lv_iconst (v := 1) hx hb d_Rng_compare_40 (by decide) ?_
        exact gm_iret hx hb hr hlk X ⟨rfl, ((ordI_0 h7).trans (ordI_1 h6 c33)).symm⟩ d_Rng_compare_41
      · refine lv_iconst (v := (-1)) hx hb d_Rng_compare_36 (by decide) ?_
        refine lv_goto (tgt := 41) hx hb d_Rng_compare_37 (by decide) ?_
        exact gm_iret hx hb hr hlk X ⟨rfl, ((ordI_0 h7).trans (ordI_2 h6 c33)).symm⟩ d_Rng_compare_41
  · have h7 := c13
    refine lv_aload_n hx hb d_Rng_compare_16 rfl (lv_at hl 1 rfl) ?_
    refine lv_iload_n hx hb d_Rng_compare_17 rfl (lv_at hl 0 rfl) ?_
    refine gm_iald hx hb X (k := 7) ha (by decide) ⟨by decide, by decide⟩ d_Rng_compare_18 ?_
    refine lv_i2l hx hb d_Rng_compare_19 rfl ?_
    refine lv_ldc2 (v := 4294967295) hx hb hown (hW _ wk_Rng_49) d_Rng_compare_20 ?_
    refine lv_land hx hb d_Rng_compare_23 ?_
    refine lv_aload_n hx hb d_Rng_compare_24 rfl (lv_at hl 2 rfl) ?_
    refine lv_iload_n hx hb d_Rng_compare_25 rfl (lv_at hl 0 rfl) ?_
    refine gm_iald hx hb X (k := 7) hq (by decide) ⟨by decide, by decide⟩ d_Rng_compare_26 ?_
    refine lv_i2l hx hb d_Rng_compare_27 rfl ?_
    refine lv_ldc2 (v := 4294967295) hx hb hown (hW _ wk_Rng_49) d_Rng_compare_28 ?_
    refine lv_land hx hb d_Rng_compare_31 ?_
    refine W.lcmp hx hb d_Rng_compare_32 ?_
    refine lv_if_ge (tgt := 40) hx hb d_Rng_compare_33 (by decide) (fun c33 => ?_) (fun c33 => ?_)
    · refine lv_iconst (v := 1) hx hb d_Rng_compare_40 (by decide) ?_
      exact gm_iret hx hb hr hlk X ⟨rfl, (ordI_1 h7 c33).symm⟩ d_Rng_compare_41
    · refine lv_iconst (v := (-1)) hx hb d_Rng_compare_36 (by decide) ?_
      refine lv_goto (tgt := 41) hx hb d_Rng_compare_37 (by decide) ?_
      exact gm_iret hx hb hr hlk X ⟨rfl, (ordI_2 h7 c33).symm⟩ d_Rng_compare_41
theorem c_Rng_same (l : Launch) (E : gm_E) (M : gm_M) {a b : Nat} {f g : Nat → Int32} (ha : M a = some (IA E 8 f)) (hq : M b = some (IA E 8 g)) : ci_ l y_Rng_same b_Rng_same 2 (some .boolean) { frames := 1, cells := 0, slots := 0, locals := 22 } E M [.ref a, .ref b] (fun r M' => M' = M ∧ ((r = 1 ∧ IV f 8 = IV g 8) ∨ (r = 0 ∧ ¬ IV f 8 = IV g 8))) := by
  refine gm_met (by decide) (Nat.le_of_ble_eq_true rfl) (fun p e s m below meth c ls hx hb hml hr hlk hnm hown hW X hl => ?_)
  have hl : lv_has ls 2 [(0, .ref a), (1, .ref b)] := hl
  refine lv_aload_n hx hb d_Rng_same_0 rfl (lv_at hl 0 rfl) ?_
  refine lv_aload_n hx hb d_Rng_same_1 rfl (lv_at hl 1 rfl) ?_
  refine gm_Si hx hb hml hown hW X (c_Rng_compare l E M ha hq) (n := 2) ⟨⟨wl_Rng_45, ws_Rng_compare, winit_Rng, wc_Rng_compare⟩, by decide +kernel, Nat.le_of_ble_eq_true rfl, Nat.le_of_ble_eq_true rfl⟩ rfl hl.1 rfl (Nat.le_of_ble_eq_true rfl) d_Rng_same_2 ⟨Nat.le_of_ble_eq_true rfl, Nat.le_of_ble_eq_true rfl⟩ (fun r M1 H locs hp X => ?_)
  rw [hp.1] at X
  have hq2 := (ordI_ok f g 8).1
  rw [← hp.2] at hq2
  refine lv_if_ne (tgt := 12) hx hb d_Rng_same_5 (by decide) (fun c5 => ?_) (fun c5 => ?_)
  · refine lv_iconst (v := 0) hx hb d_Rng_same_12 (by decide) ?_
    exact gm_zret hx hb hr hlk X rfl ⟨rfl, Or.inr ⟨rfl, fun e => c5 (hq2.mpr e)⟩⟩ d_Rng_same_13
  · refine lv_iconst (v := 1) hx hb d_Rng_same_8 (by decide) ?_
    refine lv_goto (tgt := 13) hx hb d_Rng_same_9 (by decide) ?_
    exact gm_zret hx hb hr hlk X rfl ⟨rfl, Or.inl ⟨rfl, hq2.mp c5⟩⟩ d_Rng_same_13
set_option maxHeartbeats 1000000 in
theorem lp_Rng_plus {p : Program} {l : Launch} {e : Env} {s : State} {m : MethodId} {args : Array Value} {below : List Frame} {meth : Method} {c : Code} {R : Room} {Q : State → Prop} {cells slots : Nat} {E : gm_E} {M : gm_M} {to a b : Nat} {gt ga gb : Nat → Int32} (hx : p.tables.exec = Jvm.exec) (hb : c.code = b_Rng_plus) (hown : s.vm.findClass R_Rng = some m.cls) (hW : ∀ w ∈ WB, w.before args s = true) (ht : M to = some (IA E 8 gt)) (hA : E.2.1 ≤ to) (ha : M a = some (IA E 8 ga)) (hq : M b = some (IA E 8 gb))
    (kk : ∀ (H : Heap) (locs : List Loc) (ls : Array Slot) (h : Nat → Int32) (cc : Int64), gx E (gm_up M to (IA E 8 h)) s H locs → IV h 8 + uN cc * tq 8 = IV ga 8 + IV gb 8 → uN cc ≤ 1 → lv_has ls 6 [(3, .long cc)] → W p l e R s m args below meth c H locs cells slots Q (F0 m 51 ls [])) :
    ∀ (k i : Nat), i + k = 8 → ∀ (H : Heap) (locs : List Loc) (ls : Array Slot) (h : Nat → Int32) (cc : Int64), gx E (gm_up M to (IA E 8 (mx i h gt))) s H locs → IV h i + uN cc * tq i = IV ga i + IV gb i → uN cc ≤ 1 → lv_has ls 6 [(5, .int (nI i)), (3, .long cc), (0, .ref a), (1, .ref b), (2, .ref to)] → W p l e R s m args below meth c H locs cells slots Q (F0 m 5 ls []) := by
  intro k
  induction k with
  | zero =>
    intro i hi H locs ls h cc X hv hc hl
    refine lv_iload hx hb d_Rng_plus_5 (lv_at hl 0 rfl) ?_
    refine lv_bipush (v := 8) hx hb d_Rng_plus_7 (by decide) ?_
    refine lv_icmp_ge (tgt := 51) hx hb d_Rng_plus_9 (by decide) (fun c9 => ?_) (fun c9 => ?_)
    · obtain rfl : i = 8 := by omega
      exact kk H locs ls h cc ⟨X.1, gm_IA X.2.1 (fun j hj => by rw [mx_lt _ _ (by omega)]), X.2.2⟩ hv hc (lv_sub hl [1] rfl)
    · exact absurd (i_ge (n := 8) (i := i) (by omega) (by omega)) c9
  | succ k ih =>
    intro i hi H locs ls h cc X hv hc hl
    refine lv_iload hx hb d_Rng_plus_5 (lv_at hl 0 rfl) ?_
    refine lv_bipush (v := 8) hx hb d_Rng_plus_7 (by decide) ?_
    refine lv_icmp_ge (tgt := 51) hx hb d_Rng_plus_9 (by decide) (fun c9 => ?_) (fun c9 => ?_)
    · exact absurd c9 (i_nge (n := 8) (i := i) (by omega) (by omega))
    · obtain ⟨fa, ra, ea⟩ := rd_mi (i := i) h ht ha
      obtain ⟨fb, rb, eb⟩ := rd_mi (i := i) h ht hq
      have st := pl_st (x := ga i) (y := gb i) (P := 0) hc hv
      refine lv_lload_n hx hb d_Rng_plus_12 rfl (lv_at hl 1 rfl) ?_
      refine lv_aload_n hx hb d_Rng_plus_13 rfl (lv_at hl 2 rfl) ?_
      refine lv_iload hx hb d_Rng_plus_14 (lv_at hl 0 rfl) ?_
      refine gm_iald hx hb X (k := i) ra rfl ⟨by omega, by decide⟩ d_Rng_plus_16 ?_
      rw [ea]
      refine lv_i2l hx hb d_Rng_plus_17 rfl ?_
      refine lv_ldc2 (v := 4294967295) hx hb hown (hW _ wk_Rng_49) d_Rng_plus_18 ?_
      refine lv_land hx hb d_Rng_plus_21 ?_
      refine lv_aload_n hx hb d_Rng_plus_22 rfl (lv_at hl 3 rfl) ?_
      refine lv_iload hx hb d_Rng_plus_23 (lv_at hl 0 rfl) ?_
      refine gm_iald hx hb X (k := i) rb rfl ⟨by omega, by decide⟩ d_Rng_plus_25 ?_
      rw [eb]
      refine lv_i2l hx hb d_Rng_plus_26 rfl ?_
      refine lv_ldc2 (v := 4294967295) hx hb hown (hW _ wk_Rng_49) d_Rng_plus_27 ?_
      refine lv_land hx hb d_Rng_plus_30 ?_
      refine lv_ladd hx hb d_Rng_plus_31 ?_
      refine lv_ladd hx hb d_Rng_plus_32 ?_
      refine lv_lstore_n (lv' := [(3, .long (cc + (((((ga i) : Int32).toInt64) &&& 4294967295) + ((((gb i) : Int32).toInt64) &&& 4294967295)))), (5, .int (nI i)), (0, .ref a), (1, .ref b), (2, .ref to)]) hx hb d_Rng_plus_33 rfl hl (by decide) rfl (fun ls hl => ?_)
      refine lv_aload_n hx hb d_Rng_plus_34 rfl (lv_at hl 4 rfl) ?_
      refine lv_iload hx hb d_Rng_plus_35 (lv_at hl 1 rfl) ?_
      refine lv_lload_n hx hb d_Rng_plus_37 rfl (lv_at hl 0 rfl) ?_
      refine lv_l2i hx hb d_Rng_plus_38 rfl ?_
      refine gm_iast hx hb X (k := i) (gm_up_s _ _ _) hA rfl ⟨by omega, by decide⟩ d_Rng_plus_39 (fun H locs X => ?_)
      rw [gm_up_up, mx_u] at X
      refine lv_lload_n hx hb d_Rng_plus_40 rfl (lv_at hl 0 rfl) ?_
      refine lv_bipush (v := 32) hx hb d_Rng_plus_41 (by decide) ?_
      refine lv_lushr hx hb d_Rng_plus_43 rfl ?_
      refine lv_lstore_n (lv' := [(3, .long ((((cc + (((((ga i) : Int32).toInt64) &&& 4294967295) + ((((gb i) : Int32).toInt64) &&& 4294967295)))).toUInt64 >>> ((32 : Int32).toInt64.toUInt64 &&& Int64.toUInt64 63)).toInt64)), (5, .int (nI i)), (0, .ref a), (1, .ref b), (2, .ref to)]) hx hb d_Rng_plus_44 rfl hl (by decide) rfl (fun ls hl => ?_)
      refine lv_iinc (v := (nI (i + 1))) (lv' := [(5, .int (nI (i + 1))), (3, .long ((((cc + (((((ga i) : Int32).toInt64) &&& 4294967295) + ((((gb i) : Int32).toInt64) &&& 4294967295)))).toUInt64 >>> ((32 : Int32).toInt64.toUInt64 &&& Int64.toUInt64 63)).toInt64)), (0, .ref a), (1, .ref b), (2, .ref to)]) hx hb d_Rng_plus_45 hl (k := 1) rfl (nI_1 i) (by decide) rfl (fun ls hl => ?_)
      refine lv_goto (tgt := 5) hx hb d_Rng_plus_48 (by decide) ?_
      refine ih (i + 1) (by omega) H locs ls _ _ X ?_ st.2 hl
      rw [IV_up, tq_s, IV_s ga, IV_s gb]
      have := st.1
      omega
theorem c_Rng_plus (l : Launch) (E : gm_E) (M : gm_M) {to a b : Nat} {gt ga gb : Nat → Int32} (ht : M to = some (IA E 8 gt)) (hA : E.2.1 ≤ to) (ha : M a = some (IA E 8 ga)) (hq : M b = some (IA E 8 gb)) : cl_ l y_Rng_plus b_Rng_plus 6 (some .long) { frames := 0, cells := 0, slots := 0, locals := 0 } E M [.ref a, .ref b, .ref to] (fun r M' => ∃ h, M' = gm_up M to (IA E 8 h) ∧ IV h 8 + uN r * tq 8 = IV ga 8 + IV gb 8 ∧ uN r ≤ 1) := by
  refine gm_met (by decide) (Nat.le_of_ble_eq_true rfl) (fun p e s m below meth c ls hx hb hml hr hlk hnm hown hW X hl => ?_)
  have hl : lv_has ls 6 [(0, .ref a), (1, .ref b), (2, .ref to)] := hl
  refine lv_lconst (v := 0) hx hb d_Rng_plus_0 (by decide) ?_
  refine lv_lstore_n (lv' := [(3, .long 0), (0, .ref a), (1, .ref b), (2, .ref to)]) hx hb d_Rng_plus_1 rfl hl (by decide) rfl (fun ls hl => ?_)
  refine lv_iconst (v := 0) hx hb d_Rng_plus_2 (by decide) ?_
  refine lv_istore (lv' := [(5, .int 0), (3, .long 0), (0, .ref a), (1, .ref b), (2, .ref to)]) hx hb d_Rng_plus_3 hl (by decide) rfl (fun ls hl => ?_)
  have X0 : gx E (gm_up M to (IA E 8 (mx 0 gt gt))) s s.heap [] := by rw [mx_0, gm_up_self ht]; exact X
  refine lp_Rng_plus hx hb hown hW ht hA ha hq (fun H locs ls h cc X hv hc hl => ?_) 8 0 rfl _ _ ls gt 0 X0 (by rw [show uN 0 = 0 by decide]; simp [IV]) (by decide) hl
  refine lv_lload_n hx hb d_Rng_plus_51 rfl (lv_at hl 0 rfl) ?_
  exact gm_lret hx hb hr hlk X ⟨h, rfl, hv, hc⟩ d_Rng_plus_52
set_option maxHeartbeats 1000000 in
theorem lp_Rng_less {p : Program} {l : Launch} {e : Env} {s : State} {m : MethodId} {args : Array Value} {below : List Frame} {meth : Method} {c : Code} {R : Room} {Q : State → Prop} {cells slots : Nat} {E : gm_E} {M : gm_M} {to a b : Nat} {gt ga gb : Nat → Int32} (hx : p.tables.exec = Jvm.exec) (hb : c.code = b_Rng_less) (hown : s.vm.findClass R_Rng = some m.cls) (hW : ∀ w ∈ WB, w.before args s = true) (ht : M to = some (IA E 8 gt)) (hA : E.2.1 ≤ to) (ha : M a = some (IA E 8 ga)) (hq : M b = some (IA E 8 gb))
    (kk : ∀ (H : Heap) (locs : List Loc) (ls : Array Slot) (h : Nat → Int32) (cc : Int64), gx E (gm_up M to (IA E 8 h)) s H locs → IV h 8 + IV gb 8 = IV ga 8 + uN cc * tq 8 → uN cc ≤ 1 → lv_has ls 8 [(3, .long cc)] → W p l e R s m args below meth c H locs cells slots Q (F0 m 61 ls [])) :
    ∀ (k i : Nat), i + k = 8 → ∀ (H : Heap) (locs : List Loc) (ls : Array Slot) (h : Nat → Int32) (cc : Int64), gx E (gm_up M to (IA E 8 (mx i h gt))) s H locs → IV h i + IV gb i = IV ga i + uN cc * tq i → uN cc ≤ 1 → lv_has ls 8 [(5, .int (nI i)), (3, .long cc), (0, .ref a), (1, .ref b), (2, .ref to)] → W p l e R s m args below meth c H locs cells slots Q (F0 m 5 ls []) := by
  intro k
  induction k with
  | zero =>
    intro i hi H locs ls h cc X hv hc hl
    refine lv_iload hx hb d_Rng_less_5 (lv_at hl 0 rfl) ?_
    refine lv_bipush (v := 8) hx hb d_Rng_less_7 (by decide) ?_
    refine lv_icmp_ge (tgt := 61) hx hb d_Rng_less_9 (by decide) (fun c9 => ?_) (fun c9 => ?_)
    · obtain rfl : i = 8 := by omega
      exact kk H locs ls h cc ⟨X.1, gm_IA X.2.1 (fun j hj => by rw [mx_lt _ _ (by omega)]), X.2.2⟩ hv hc (lv_sub hl [1] rfl)
    · exact absurd (i_ge (n := 8) (i := i) (by omega) (by omega)) c9
  | succ k ih =>
    intro i hi H locs ls h cc X hv hc hl
    refine lv_iload hx hb d_Rng_less_5 (lv_at hl 0 rfl) ?_
    refine lv_bipush (v := 8) hx hb d_Rng_less_7 (by decide) ?_
    refine lv_icmp_ge (tgt := 61) hx hb d_Rng_less_9 (by decide) (fun c9 => ?_) (fun c9 => ?_)
    · exact absurd c9 (i_nge (n := 8) (i := i) (by omega) (by omega))
    · obtain ⟨fa, ra, ea⟩ := rd_mi (i := i) h ht ha
      obtain ⟨fb, rb, eb⟩ := rd_mi (i := i) h ht hq
      have st := ls_st (x := ga i) (y := gb i) hc hv
      refine lv_aload_n hx hb d_Rng_less_12 rfl (lv_at hl 2 rfl) ?_
      refine lv_iload hx hb d_Rng_less_13 (lv_at hl 0 rfl) ?_
      refine gm_iald hx hb X (k := i) ra rfl ⟨by omega, by decide⟩ d_Rng_less_15 ?_
      rw [ea]
      refine lv_i2l hx hb d_Rng_less_16 rfl ?_
      refine lv_ldc2 (v := 4294967295) hx hb hown (hW _ wk_Rng_49) d_Rng_less_17 ?_
      refine lv_land hx hb d_Rng_less_20 ?_
      refine lv_aload_n hx hb d_Rng_less_21 rfl (lv_at hl 3 rfl) ?_
      refine lv_iload hx hb d_Rng_less_22 (lv_at hl 0 rfl) ?_
      refine gm_iald hx hb X (k := i) rb rfl ⟨by omega, by decide⟩ d_Rng_less_24 ?_
      rw [eb]
      refine lv_i2l hx hb d_Rng_less_25 rfl ?_
      refine lv_ldc2 (v := 4294967295) hx hb hown (hW _ wk_Rng_49) d_Rng_less_26 ?_
      refine lv_land hx hb d_Rng_less_29 ?_
      refine lv_lsub hx hb d_Rng_less_30 ?_
      refine lv_lload_n hx hb d_Rng_less_31 rfl (lv_at hl 1 rfl) ?_
      refine lv_lsub hx hb d_Rng_less_32 ?_
      refine lv_lstore (lv' := [(6, .long ((((((ga i) : Int32).toInt64) &&& 4294967295) - ((((gb i) : Int32).toInt64) &&& 4294967295)) - cc)), (5, .int (nI i)), (3, .long cc), (0, .ref a), (1, .ref b), (2, .ref to)]) hx hb d_Rng_less_33 hl (by decide) rfl (fun ls hl => ?_)
      refine lv_aload_n hx hb d_Rng_less_35 rfl (lv_at hl 5 rfl) ?_
      refine lv_iload hx hb d_Rng_less_36 (lv_at hl 1 rfl) ?_
      refine lv_lload hx hb d_Rng_less_38 (lv_at hl 0 rfl) ?_
      refine lv_l2i hx hb d_Rng_less_40 rfl ?_
      refine gm_iast hx hb X (k := i) (gm_up_s _ _ _) hA rfl ⟨by omega, by decide⟩ d_Rng_less_41 (fun H locs X => ?_)
      rw [gm_up_up, mx_u] at X
      refine lv_lload hx hb d_Rng_less_42 (lv_at hl 0 rfl) ?_
      refine lv_lconst (v := 0) hx hb d_Rng_less_44 (by decide) ?_
      refine W.lcmp hx hb d_Rng_less_45 ?_
      refine lv_if_ge (tgt := 53) hx hb d_Rng_less_46 (by decide) (fun c46 => ?_) (fun c46 => ?_)
      · refine lv_lconst (v := 0) hx hb d_Rng_less_53 (by decide) ?_
        refine lv_lstore_n (lv' := [(3, .long 0), (6, .long ((((((ga i) : Int32).toInt64) &&& 4294967295) - ((((gb i) : Int32).toInt64) &&& 4294967295)) - cc)), (5, .int (nI i)), (0, .ref a), (1, .ref b), (2, .ref to)]) hx hb d_Rng_less_54 rfl hl (by decide) rfl (fun ls hl => ?_)
        refine lv_iinc (v := (nI (i + 1))) (lv' := [(5, .int (nI (i + 1))), (3, .long 0), (6, .long ((((((ga i) : Int32).toInt64) &&& 4294967295) - ((((gb i) : Int32).toInt64) &&& 4294967295)) - cc)), (0, .ref a), (1, .ref b), (2, .ref to)]) hx hb d_Rng_less_55 hl (k := 2) rfl (nI_1 i) (by decide) rfl (fun ls hl => ?_)
        refine lv_goto (tgt := 5) hx hb d_Rng_less_58 (by decide) ?_
        refine ih (i + 1) (by omega) H locs ls _ 0 X ?_ (by decide) (lv_sub hl [0, 1, 3, 4, 5] rfl)
        rw [IV_up, tq_s, IV_s ga, IV_s gb, show uN 0 = 0 by decide]
        exact st.1 c46
      · refine lv_lconst (v := 1) hx hb d_Rng_less_49 (by decide) ?_
        refine lv_goto (tgt := 54) hx hb d_Rng_less_50 (by decide) ?_
        refine lv_lstore_n (lv' := [(3, .long 1), (6, .long ((((((ga i) : Int32).toInt64) &&& 4294967295) - ((((gb i) : Int32).toInt64) &&& 4294967295)) - cc)), (5, .int (nI i)), (0, .ref a), (1, .ref b), (2, .ref to)]) hx hb d_Rng_less_54 rfl hl (by decide) rfl (fun ls hl => ?_)
        refine lv_iinc (v := (nI (i + 1))) (lv' := [(5, .int (nI (i + 1))), (3, .long 1), (6, .long ((((((ga i) : Int32).toInt64) &&& 4294967295) - ((((gb i) : Int32).toInt64) &&& 4294967295)) - cc)), (0, .ref a), (1, .ref b), (2, .ref to)]) hx hb d_Rng_less_55 hl (k := 2) rfl (nI_1 i) (by decide) rfl (fun ls hl => ?_)
        refine lv_goto (tgt := 5) hx hb d_Rng_less_58 (by decide) ?_
        refine ih (i + 1) (by omega) H locs ls _ 1 X ?_ (by decide) (lv_sub hl [0, 1, 3, 4, 5] rfl)
        rw [IV_up, tq_s, IV_s ga, IV_s gb, show uN 1 = 1 by decide]
        exact st.2 c46
theorem c_Rng_less (l : Launch) (E : gm_E) (M : gm_M) {to a b : Nat} {gt ga gb : Nat → Int32} (ht : M to = some (IA E 8 gt)) (hA : E.2.1 ≤ to) (ha : M a = some (IA E 8 ga)) (hq : M b = some (IA E 8 gb)) : cl_ l y_Rng_less b_Rng_less 8 (some .long) { frames := 0, cells := 0, slots := 0, locals := 0 } E M [.ref a, .ref b, .ref to] (fun r M' => ∃ h, M' = gm_up M to (IA E 8 h) ∧ IV h 8 + IV gb 8 = IV ga 8 + uN r * tq 8 ∧ uN r ≤ 1) := by
  refine gm_met (by decide) (Nat.le_of_ble_eq_true rfl) (fun p e s m below meth c ls hx hb hml hr hlk hnm hown hW X hl => ?_)
  have hl : lv_has ls 8 [(0, .ref a), (1, .ref b), (2, .ref to)] := hl
  refine lv_lconst (v := 0) hx hb d_Rng_less_0 (by decide) ?_
  refine lv_lstore_n (lv' := [(3, .long 0), (0, .ref a), (1, .ref b), (2, .ref to)]) hx hb d_Rng_less_1 rfl hl (by decide) rfl (fun ls hl => ?_)
  refine lv_iconst (v := 0) hx hb d_Rng_less_2 (by decide) ?_
  refine lv_istore (lv' := [(5, .int 0), (3, .long 0), (0, .ref a), (1, .ref b), (2, .ref to)]) hx hb d_Rng_less_3 hl (by decide) rfl (fun ls hl => ?_)
  have X0 : gx E (gm_up M to (IA E 8 (mx 0 gt gt))) s s.heap [] := by rw [mx_0, gm_up_self ht]; exact X
  refine lp_Rng_less hx hb hown hW ht hA ha hq (fun H locs ls h cc X hv hc hl => ?_) 8 0 rfl _ _ ls gt 0 X0 (by rw [show uN 0 = 0 by decide]; simp [IV]) (by decide) hl
  refine lv_lload_n hx hb d_Rng_less_61 rfl (lv_at hl 0 rfl) ?_
  exact gm_lret hx hb hr hlk X ⟨h, rfl, hv, hc⟩ d_Rng_less_62
