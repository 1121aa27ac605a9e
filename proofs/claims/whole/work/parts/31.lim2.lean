/-! PointBench.Limbs: copy, scale, areEqual, areZero, carry: written by wip/gen/lim2.py -/
set_option maxHeartbeats 1000000 in
theorem c_Lim_copy (l : Launch) (E : gm_E) (M : gm_M) {to a n : Nat} {gt ga : Nat → Int64} (ht : M to = some (LA E 10 gt)) (hA : E.2.1 ≤ to) (ha : M a = some (LA E n ga)) (hn : 10 ≤ n) : cv_ l y_Lim_copy b_Lim_copy 2 none { frames := 1, cells := 0, slots := 0, locals := nativeFrameWords "java/lang/System" "arraycopy" 5 + 11 } E M [.ref to, .ref a] (fun M' => M' = gm_up M to (LA E 10 ga)) := by
  refine gm_met (by decide) (Nat.le_of_ble_eq_true rfl) (fun p e s m below meth c ls hx hb hml hr hlk hnm hown hW X hl => ?_)
  have hl : lv_has ls 2 [(0, .ref to), (1, .ref a)] := hl
  refine lv_aload_n hx hb d_Lim_copy_0 rfl (lv_at hl 1 rfl) ?_
  refine lv_iconst (v := 0) hx hb d_Lim_copy_1 (by decide) ?_
  refine lv_aload_n hx hb d_Lim_copy_2 rfl (lv_at hl 0 rfl) ?_
  refine lv_iconst (v := 0) hx hb d_Lim_copy_3 (by decide) ?_
  refine lv_bipush (v := 10) hx hb d_Lim_copy_4 (by decide) ?_
  refine gm_copy hx hb (hml.trans hl.1.symm) hown hW wl_Lim_9 X ha ht hA hn (Nat.le_refl 10) rfl (Nat.le_refl 1) (Nat.le_refl _) d_Lim_copy_6 (fun H locs X => ?_)
  exact gm_vret hx hb hr hlk ⟨X.1, gm_LA X.2.1 (fun j hj => by rw [if_pos hj]), X.2.2⟩ rfl d_Lim_copy_9
set_option maxHeartbeats 1000000 in
theorem lp_Lim_scale {p : Program} {l : Launch} {e : Env} {s : State} {m : MethodId} {args : Array Value} {below : List Frame} {meth : Method} {c : Code} {R : Room} {Q : State → Prop} {cells slots : Nat} {E : gm_E} {M : gm_M} {to a : Nat} {gt ga : Nat → Int64} {z : Int64} (hx : p.tables.exec = Jvm.exec) (hb : c.code = b_Lim_scale) (ht : M to = some (LA E 10 gt)) (hA : E.2.1 ≤ to) (ha : M a = some (LA E 10 ga))
    (kk : ∀ (H : Heap) (locs : List Loc) (ls : Array Slot), gx E (gm_up M to (LA E 10 (fun j => ga j * z))) s H locs → W p l e R s m args below meth c H locs cells slots Q (F0 m 26 ls [])) :
    ∀ (k i : Nat), i + k = 10 → ∀ (H : Heap) (locs : List Loc) (ls : Array Slot), gx E (gm_up M to (LA E 10 (mx i (fun j => ga j * z) gt))) s H locs → lv_has ls 5 [(4, .int (nI i)), (0, .ref to), (1, .ref a), (2, .long z)] → W p l e R s m args below meth c H locs cells slots Q (F0 m 3 ls []) := by
  intro k
  induction k with
  | zero =>
    intro i hi H locs ls X hl
    refine lv_iload hx hb d_Lim_scale_3 (lv_at hl 0 rfl) ?_
    refine lv_bipush (v := 10) hx hb d_Lim_scale_5 (by decide) ?_
    refine lv_icmp_ge (tgt := 26) hx hb d_Lim_scale_7 (by decide) (fun c7 => ?_) (fun c7 => ?_)
    · exact kk H locs ls ⟨X.1, gm_LA X.2.1 (fun j hj => by rw [mx_lt _ _ (by omega)]), X.2.2⟩
    · exact absurd (i_ge (n := 10) (i := i) (by omega) (by omega)) c7
  | succ k ih =>
    intro i hi H locs ls X hl
    refine lv_iload hx hb d_Lim_scale_3 (lv_at hl 0 rfl) ?_
    refine lv_bipush (v := 10) hx hb d_Lim_scale_5 (by decide) ?_
    refine lv_icmp_ge (tgt := 26) hx hb d_Lim_scale_7 (by decide) (fun c7 => ?_) (fun c7 => ?_)
    · exact absurd c7 (i_nge (n := 10) (i := i) (by omega) (by omega))
    · obtain ⟨fa, ra, ea⟩ := rd_mix (i := i) (fun j => ga j * z) ht ha
      refine lv_aload_n hx hb d_Lim_scale_10 rfl (lv_at hl 1 rfl) ?_
      refine lv_iload hx hb d_Lim_scale_11 (lv_at hl 0 rfl) ?_
      refine lv_aload_n hx hb d_Lim_scale_13 rfl (lv_at hl 2 rfl) ?_
      refine lv_iload hx hb d_Lim_scale_14 (lv_at hl 0 rfl) ?_
      refine gm_lald hx hb X (k := i) (Or.inl ra) rfl ⟨by omega, by decide⟩ d_Lim_scale_16 ?_
      rw [ea]
      refine lv_lload_n hx hb d_Lim_scale_17 rfl (lv_at hl 3 rfl) ?_
      refine lv_lmul hx hb d_Lim_scale_18 ?_
      refine gm_last hx hb X (k := i) (gm_up_s _ _ _) hA rfl ⟨by omega, by decide⟩ d_Lim_scale_19 (fun H locs X => ?_)
      rw [gm_up_up, mx_sL i (fun j => ga j * z) gt] at X
      refine lv_iinc (v := (nI (i + 1))) (lv' := [(4, .int (nI (i + 1))), (0, .ref to), (1, .ref a), (2, .long z)]) hx hb d_Lim_scale_20 hl (k := 0) rfl (nI_1 i) (by decide) rfl (fun ls hl => ?_)
      refine lv_goto (tgt := 3) hx hb d_Lim_scale_23 (by decide) ?_
      exact ih (i + 1) (by omega) H locs ls X (lv_sub hl [0, 1, 2, 3] rfl)
set_option maxHeartbeats 1000000 in
theorem c_Lim_scale (l : Launch) (E : gm_E) (M : gm_M) {to a : Nat} {gt ga : Nat → Int64} (z : Int64) (ht : M to = some (LA E 10 gt)) (hA : E.2.1 ≤ to) (ha : M a = some (LA E 10 ga)) : cv_ l y_Lim_scale b_Lim_scale 5 none { frames := 0, cells := 0, slots := 0, locals := 0 } E M [.ref to, .ref a, .long z] (fun M' => M' = gm_up M to (LA E 10 (fun j => ga j * z))) := by
  refine gm_met (by decide) (Nat.le_of_ble_eq_true rfl) (fun p e s m below meth c ls hx hb hml hr hlk hnm hown hW X hl => ?_)
  have hl : lv_has ls 5 [(0, .ref to), (1, .ref a), (2, .long z)] := hl
  refine lv_iconst (v := 0) hx hb d_Lim_scale_0 (by decide) ?_
  refine lv_istore (lv' := [(4, .int 0), (0, .ref to), (1, .ref a), (2, .long z)]) hx hb d_Lim_scale_1 hl (by decide) rfl (fun ls hl => ?_)
  refine lp_Lim_scale hx hb ht hA ha (fun H locs ls X => ?_) 10 0 rfl _ _ ls (by rw [mx_0, gm_up_self ht]; exact X) hl
  exact gm_vret hx hb hr hlk X rfl d_Lim_scale_26
theorem cmp0 (x y : Int64) : lg_cmp x y = 0 ↔ x = y := by
  unfold lg_cmp
  constructor
  · intro h
    split at h
    · cases h
    · split at h
      · next h1 h2 => first | exact h2 | exact h2.symm | (exact Int64.le_antisymm (by simpa using h1) (by simpa using h2))
      · cases h
  · rintro rfl
    simp
set_option maxHeartbeats 1000000 in
theorem lp_Lim_areEqual {p : Program} {l : Launch} {e : Env} {s : State} {m : MethodId} {args : Array Value} {below : List Frame} {meth : Method} {c : Code} {R : Room} {Q : State → Prop} {cells slots : Nat} {E : gm_E} {M : gm_M} {a b : Nat} {ga gb : Nat → Int64} (ha : M a = some (LA E 10 ga)) (hq : M b = some (LA E 10 gb)) (hx : p.tables.exec = Jvm.exec) (hb : c.code = b_Lim_areEqual) {H : Heap} {locs : List Loc} (X : gx E M s H locs)
    (k1 : ∀ (ls : Array Slot), (∀ j, j < 10 → ga j = gb j) → W p l e R s m args below meth c H locs cells slots Q (F0 m 26 ls [])) (k0 : ∀ (ls : Array Slot), (∃ j, j < 10 ∧ ¬ ga j = gb j) → W p l e R s m args below meth c H locs cells slots Q (F0 m 18 ls [])) :
    ∀ (k i : Nat), i + k = 10 → (∀ j, j < i → ga j = gb j) → ∀ (ls : Array Slot), lv_has ls 3 [(2, .int (nI i)), (0, .ref a), (1, .ref b)] → W p l e R s m args below meth c H locs cells slots Q (F0 m 2 ls []) := by
  intro k
  induction k with
  | zero =>
    intro i hi hall ls hl
    refine lv_iload_n hx hb d_Lim_areEqual_2 rfl (lv_at hl 0 rfl) ?_
    refine lv_bipush (v := 10) hx hb d_Lim_areEqual_3 (by decide) ?_
    refine lv_icmp_ge (tgt := 26) hx hb d_Lim_areEqual_5 (by decide) (fun c5 => ?_) (fun c5 => ?_)
    · exact k1 ls (fun j hj => hall j (by omega))
    · exact absurd (i_ge (n := 10) (i := i) (by omega) (by omega)) c5
  | succ k ih =>
    intro i hi hall ls hl
    refine lv_iload_n hx hb d_Lim_areEqual_2 rfl (lv_at hl 0 rfl) ?_
    refine lv_bipush (v := 10) hx hb d_Lim_areEqual_3 (by decide) ?_
    refine lv_icmp_ge (tgt := 26) hx hb d_Lim_areEqual_5 (by decide) (fun c5 => ?_) (fun c5 => ?_)
    · exact absurd c5 (i_nge (n := 10) (i := i) (by omega) (by omega))
    · refine lv_aload_n hx hb d_Lim_areEqual_8 rfl (lv_at hl 1 rfl) ?_
      refine lv_iload_n hx hb d_Lim_areEqual_9 rfl (lv_at hl 0 rfl) ?_
      refine gm_lald hx hb X (k := i) (Or.inl ha) rfl ⟨by omega, by decide⟩ d_Lim_areEqual_10 ?_
      refine lv_aload_n hx hb d_Lim_areEqual_11 rfl (lv_at hl 2 rfl) ?_
      refine lv_iload_n hx hb d_Lim_areEqual_12 rfl (lv_at hl 0 rfl) ?_
      refine gm_lald hx hb X (k := i) (Or.inl hq) rfl ⟨by omega, by decide⟩ d_Lim_areEqual_13 ?_
      refine W.lcmp hx hb d_Lim_areEqual_14 ?_
      refine lv_if_eq (tgt := 20) hx hb d_Lim_areEqual_15 (by decide) (fun c15 => ?_) (fun c15 => ?_)
      · have e1 := (cmp0 _ _).mp c15
        refine lv_iinc (v := (nI (i + 1))) (lv' := [(2, .int (nI (i + 1))), (0, .ref a), (1, .ref b)]) hx hb d_Lim_areEqual_20 hl (k := 0) rfl (nI_1 i) (by decide) rfl (fun ls hl => ?_)
        refine lv_goto (tgt := 2) hx hb d_Lim_areEqual_23 (by decide) ?_
        exact ih (i + 1) (by omega) (fun j hj => by rcases Nat.lt_or_ge j i with h | h; exact hall j h; rw [show j = i by omega]; exact e1) ls hl
      · exact k0 ls ⟨i, by omega, fun e => c15 ((cmp0 _ _).mpr e)⟩
set_option maxHeartbeats 1000000 in
theorem c_Lim_areEqual (l : Launch) (E : gm_E) (M : gm_M) {a b : Nat} {ga gb : Nat → Int64} (ha : M a = some (LA E 10 ga)) (hq : M b = some (LA E 10 gb)) : ci_ l y_Lim_areEqual b_Lim_areEqual 3 (some .boolean) { frames := 0, cells := 0, slots := 0, locals := 0 } E M [.ref a, .ref b] (fun r M' => M' = M ∧ ((r = 1 ∧ ∀ j, j < 10 → ga j = gb j) ∨ (r = 0 ∧ ∃ j, j < 10 ∧ ¬ ga j = gb j))) := by
  refine gm_met (by decide) (Nat.le_of_ble_eq_true rfl) (fun p e s m below meth c ls hx hb hml hr hlk hnm hown hW X hl => ?_)
  have hl : lv_has ls 3 [(0, .ref a), (1, .ref b)] := hl
  refine lv_iconst (v := 0) hx hb d_Lim_areEqual_0 (by decide) ?_
  refine lv_istore_n (lv' := [(2, .int 0), (0, .ref a), (1, .ref b)]) hx hb d_Lim_areEqual_1 rfl hl (by decide) rfl (fun ls hl => ?_)
  refine lp_Lim_areEqual ha hq hx hb X (fun ls h => ?_) (fun ls h => ?_) 10 0 rfl (fun j hj => absurd hj (by omega)) ls hl
  · refine lv_iconst (v := 1) hx hb d_Lim_areEqual_26 (by decide) ?_
    exact gm_zret hx hb hr hlk X rfl ⟨rfl, Or.inl ⟨rfl, h⟩⟩ d_Lim_areEqual_27
  · refine lv_iconst (v := 0) hx hb d_Lim_areEqual_18 (by decide) ?_
    exact gm_zret hx hb hr hlk X rfl ⟨rfl, Or.inr ⟨rfl, h⟩⟩ d_Lim_areEqual_19
set_option maxHeartbeats 1000000 in
theorem lp_Lim_areZero {p : Program} {l : Launch} {e : Env} {s : State} {m : MethodId} {args : Array Value} {below : List Frame} {meth : Method} {c : Code} {R : Room} {Q : State → Prop} {cells slots : Nat} {E : gm_E} {M : gm_M} {a : Nat} {ga : Nat → Int64} (ha : M a = some (LA E 10 ga)) (hx : p.tables.exec = Jvm.exec) (hb : c.code = b_Lim_areZero) {H : Heap} {locs : List Loc} (X : gx E M s H locs)
    (k1 : ∀ (ls : Array Slot), (∀ j, j < 10 → ga j = 0) → W p l e R s m args below meth c H locs cells slots Q (F0 m 24 ls [])) (k0 : ∀ (ls : Array Slot), (∃ j, j < 10 ∧ ¬ ga j = 0) → W p l e R s m args below meth c H locs cells slots Q (F0 m 16 ls [])) :
    ∀ (k i : Nat), i + k = 10 → (∀ j, j < i → ga j = 0) → ∀ (ls : Array Slot), lv_has ls 2 [(1, .int (nI i)), (0, .ref a)] → W p l e R s m args below meth c H locs cells slots Q (F0 m 2 ls []) := by
  intro k
  induction k with
  | zero =>
    intro i hi hall ls hl
    refine lv_iload_n hx hb d_Lim_areZero_2 rfl (lv_at hl 0 rfl) ?_
    refine lv_bipush (v := 10) hx hb d_Lim_areZero_3 (by decide) ?_
    refine lv_icmp_ge (tgt := 24) hx hb d_Lim_areZero_5 (by decide) (fun c5 => ?_) (fun c5 => ?_)
    · exact k1 ls (fun j hj => hall j (by omega))
    · exact absurd (i_ge (n := 10) (i := i) (by omega) (by omega)) c5
  | succ k ih =>
    intro i hi hall ls hl
    refine lv_iload_n hx hb d_Lim_areZero_2 rfl (lv_at hl 0 rfl) ?_
    refine lv_bipush (v := 10) hx hb d_Lim_areZero_3 (by decide) ?_
    refine lv_icmp_ge (tgt := 24) hx hb d_Lim_areZero_5 (by decide) (fun c5 => ?_) (fun c5 => ?_)
    · exact absurd c5 (i_nge (n := 10) (i := i) (by omega) (by omega))
    · refine lv_aload_n hx hb d_Lim_areZero_8 rfl (lv_at hl 1 rfl) ?_
      refine lv_iload_n hx hb d_Lim_areZero_9 rfl (lv_at hl 0 rfl) ?_
      refine gm_lald hx hb X (k := i) (Or.inl ha) rfl ⟨by omega, by decide⟩ d_Lim_areZero_10 ?_
      refine lv_lconst (v := 0) hx hb d_Lim_areZero_11 (by decide) ?_
      refine W.lcmp hx hb d_Lim_areZero_12 ?_
      refine lv_if_eq (tgt := 18) hx hb d_Lim_areZero_13 (by decide) (fun c13 => ?_) (fun c13 => ?_)
      · have e1 := (cmp0 _ _).mp c13
        refine lv_iinc (v := (nI (i + 1))) (lv' := [(1, .int (nI (i + 1))), (0, .ref a)]) hx hb d_Lim_areZero_18 hl (k := 0) rfl (nI_1 i) (by decide) rfl (fun ls hl => ?_)
        refine lv_goto (tgt := 2) hx hb d_Lim_areZero_21 (by decide) ?_
        exact ih (i + 1) (by omega) (fun j hj => by rcases Nat.lt_or_ge j i with h | h; exact hall j h; rw [show j = i by omega]; exact e1) ls hl
      · exact k0 ls ⟨i, by omega, fun e => c13 ((cmp0 _ _).mpr e)⟩
set_option maxHeartbeats 1000000 in
theorem c_Lim_areZero (l : Launch) (E : gm_E) (M : gm_M) {a : Nat} {ga : Nat → Int64} (ha : M a = some (LA E 10 ga)) : ci_ l y_Lim_areZero b_Lim_areZero 2 (some .boolean) { frames := 0, cells := 0, slots := 0, locals := 0 } E M [.ref a] (fun r M' => M' = M ∧ ((r = 1 ∧ ∀ j, j < 10 → ga j = 0) ∨ (r = 0 ∧ ∃ j, j < 10 ∧ ¬ ga j = 0))) := by
  refine gm_met (by decide) (Nat.le_of_ble_eq_true rfl) (fun p e s m below meth c ls hx hb hml hr hlk hnm hown hW X hl => ?_)
  have hl : lv_has ls 2 [(0, .ref a)] := hl
  refine lv_iconst (v := 0) hx hb d_Lim_areZero_0 (by decide) ?_
  refine lv_istore_n (lv' := [(1, .int 0), (0, .ref a)]) hx hb d_Lim_areZero_1 rfl hl (by decide) rfl (fun ls hl => ?_)
  refine lp_Lim_areZero ha hx hb X (fun ls h => ?_) (fun ls h => ?_) 10 0 rfl (fun j hj => absurd hj (by omega)) ls hl
  · refine lv_iconst (v := 1) hx hb d_Lim_areZero_24 (by decide) ?_
    exact gm_zret hx hb hr hlk X rfl ⟨rfl, Or.inl ⟨rfl, h⟩⟩ d_Lim_areZero_25
  · refine lv_iconst (v := 0) hx hb d_Lim_areZero_16 (by decide) ?_
    exact gm_zret hx hb hr hlk X rfl ⟨rfl, Or.inr ⟨rfl, h⟩⟩ d_Lim_areZero_17
/-- what carry's loop has made after k limbs from fr on: the row, and what is carried -/
def caS (g : Nat → Int64) (fr : Nat) : Nat → (Nat → Int64) × Int64
  | 0 => (g, 0)
  | k + 1 => (vp_updL (caS g fr k).1 (fr + k) (((caS g fr k).2 + (caS g fr k).1 (fr + k)) &&& 67108863), ((caS g fr k).2 + (caS g fr k).1 (fr + k)) >>> ((26 : Int32).toInt64 &&& 63))
/-- carry -/
def caF (g : Nat → Int64) (fr to : Nat) : Nat → Int64 := vp_updL (caS g fr (to - fr)).1 to ((caS g fr (to - fr)).1 to + (caS g fr (to - fr)).2)
set_option maxHeartbeats 1000000 in
theorem lp_Lim_carry {p : Program} {l : Launch} {e : Env} {s : State} {m : MethodId} {args : Array Value} {below : List Frame} {meth : Method} {c : Code} {R : Room} {Q : State → Prop} {cells slots : Nat} {E : gm_E} {M : gm_M} {a n fr to : Nat} {g : Nat → Int64} (hx : p.tables.exec = Jvm.exec) (hb : c.code = b_Lim_carry) (hown : s.vm.findClass R_Lim = some m.cls) (hW : ∀ w ∈ WB, w.before args s = true) (hA : E.2.1 ≤ a) (hf : fr ≤ to) (hn : to < n) (hn2 : n < 2 ^ 31)
    (kk : ∀ (H : Heap) (locs : List Loc) (ls : Array Slot), gx E (gm_up M a (LA E n (caS g fr (to - fr)).1)) s H locs → lv_has ls 6 [(3, .long (caS g fr (to - fr)).2), (0, .ref a), (2, .int (nI to))] → W p l e R s m args below meth c H locs cells slots Q (F0 m 38 ls [])) :
    ∀ (k i : Nat), i + k = to - fr → ∀ (H : Heap) (locs : List Loc) (ls : Array Slot), gx E (gm_up M a (LA E n (caS g fr i).1)) s H locs → lv_has ls 6 [(5, .int (nI (fr + i))), (3, .long (caS g fr i).2), (0, .ref a), (1, .int (nI fr)), (2, .int (nI to))] → W p l e R s m args below meth c H locs cells slots Q (F0 m 5 ls []) := by
  intro k
  induction k with
  | zero =>
    intro i hi H locs ls X hl
    refine lv_iload hx hb d_Lim_carry_5 (lv_at hl 0 rfl) ?_
    refine lv_iload_n hx hb d_Lim_carry_7 rfl (lv_at hl 4 rfl) ?_
    refine lv_icmp_ge (tgt := 38) hx hb d_Lim_carry_8 (by decide) (fun c8 => ?_) (fun c8 => ?_)
    · obtain rfl : i = to - fr := by omega
      exact kk H locs ls X (lv_sub hl [1, 2, 4] rfl)
    · exact absurd (i_ge (n := to) (i := fr + i) (by omega) (by omega)) c8
  | succ k ih =>
    intro i hi H locs ls X hl
    refine lv_iload hx hb d_Lim_carry_5 (lv_at hl 0 rfl) ?_
    refine lv_iload_n hx hb d_Lim_carry_7 rfl (lv_at hl 4 rfl) ?_
    refine lv_icmp_ge (tgt := 38) hx hb d_Lim_carry_8 (by decide) (fun c8 => ?_) (fun c8 => ?_)
    · exact absurd c8 (i_nge (n := to) (i := fr + i) (by omega) (by omega))
    · refine lv_lload_n hx hb d_Lim_carry_11 rfl (lv_at hl 1 rfl) ?_
      refine lv_aload_n hx hb d_Lim_carry_12 rfl (lv_at hl 2 rfl) ?_
      refine lv_iload hx hb d_Lim_carry_13 (lv_at hl 0 rfl) ?_
      refine gm_lald hx hb X (k := (fr + i)) (Or.inl (gm_up_s _ _ _)) rfl ⟨by omega, hn2⟩ d_Lim_carry_15 ?_
      refine lv_ladd hx hb d_Lim_carry_16 ?_
      refine lv_lstore_n (lv' := [(3, .long ((caS g fr i).2 + ((caS g fr i).1 (fr + i)))), (5, .int (nI (fr + i))), (0, .ref a), (1, .int (nI fr)), (2, .int (nI to))]) hx hb d_Lim_carry_17 rfl hl (by decide) rfl (fun ls hl => ?_)
      refine lv_aload_n hx hb d_Lim_carry_18 rfl (lv_at hl 2 rfl) ?_
      refine lv_iload hx hb d_Lim_carry_19 (lv_at hl 1 rfl) ?_
      refine lv_lload_n hx hb d_Lim_carry_21 rfl (lv_at hl 0 rfl) ?_
      refine lv_ldc2 (v := 67108863) hx hb hown (hW _ wk_Lim_15) d_Lim_carry_22 ?_
      refine lv_land hx hb d_Lim_carry_25 ?_
      refine gm_last hx hb X (k := (fr + i)) (gm_up_s _ _ _) hA rfl ⟨by omega, hn2⟩ d_Lim_carry_26 (fun H locs X => ?_)
      rw [gm_up_up] at X
      refine lv_lload_n hx hb d_Lim_carry_27 rfl (lv_at hl 0 rfl) ?_
      refine lv_bipush (v := 26) hx hb d_Lim_carry_28 (by decide) ?_
      refine lv_lshr hx hb d_Lim_carry_30 rfl ?_
      refine lv_lstore_n (lv' := [(3, .long (((caS g fr i).2 + ((caS g fr i).1 (fr + i))) >>> ((26 : Int32).toInt64 &&& 63))), (5, .int (nI (fr + i))), (0, .ref a), (1, .int (nI fr)), (2, .int (nI to))]) hx hb d_Lim_carry_31 rfl hl (by decide) rfl (fun ls hl => ?_)
      refine lv_iinc (v := (nI (fr + (i + 1)))) (lv' := [(5, .int (nI (fr + (i + 1)))), (3, .long (((caS g fr i).2 + ((caS g fr i).1 (fr + i))) >>> ((26 : Int32).toInt64 &&& 63))), (0, .ref a), (1, .int (nI fr)), (2, .int (nI to))]) hx hb d_Lim_carry_32 hl (k := 1) rfl (nI_1 (fr + i)) (by decide) rfl (fun ls hl => ?_)
      refine lv_goto (tgt := 5) hx hb d_Lim_carry_35 (by decide) ?_
      exact ih (i + 1) (by omega) H locs ls X hl
set_option maxHeartbeats 1000000 in
theorem c_Lim_carry (l : Launch) (E : gm_E) (M : gm_M) {a n fr to : Nat} {g : Nat → Int64} (ha : M a = some (LA E n g)) (hA : E.2.1 ≤ a) (hf : fr ≤ to) (hn : to < n) (hn2 : n < 2 ^ 31) : cv_ l y_Lim_carry b_Lim_carry 6 none { frames := 0, cells := 0, slots := 0, locals := 0 } E M [.ref a, .int (nI fr), .int (nI to)] (fun M' => M' = gm_up M a (LA E n (caF g fr to))) := by
  refine gm_met (by decide) (Nat.le_of_ble_eq_true rfl) (fun p e s m below meth c ls hx hb hml hr hlk hnm hown hW X hl => ?_)
  have hl : lv_has ls 6 [(0, .ref a), (1, .int (nI fr)), (2, .int (nI to))] := hl
  refine lv_lconst (v := 0) hx hb d_Lim_carry_0 (by decide) ?_
  refine lv_lstore_n (lv' := [(3, .long 0), (0, .ref a), (1, .int (nI fr)), (2, .int (nI to))]) hx hb d_Lim_carry_1 rfl hl (by decide) rfl (fun ls hl => ?_)
  refine lv_iload_n hx hb d_Lim_carry_2 rfl (lv_at hl 2 rfl) ?_
  refine lv_istore (lv' := [(5, .int (nI fr)), (3, .long 0), (0, .ref a), (1, .int (nI fr)), (2, .int (nI to))]) hx hb d_Lim_carry_3 hl (by decide) rfl (fun ls hl => ?_)
  refine lp_Lim_carry (M := M) (n := n) (g := g) hx hb hown hW hA hf hn hn2 (fun H locs ls X hl => ?_) (to - fr) 0 (by omega) _ _ ls (by show gx E (gm_up M a (LA E n g)) s _ _; rw [gm_up_self ha]; exact X) hl
  refine lv_aload_n hx hb d_Lim_carry_38 rfl (lv_at hl 1 rfl) ?_
  refine lv_iload_n hx hb d_Lim_carry_39 rfl (lv_at hl 2 rfl) ?_
  refine lv_dup2_11 hx hb d_Lim_carry_40 rfl rfl ?_
  refine gm_lald hx hb X (k := to) (Or.inl (gm_up_s _ _ _)) rfl ⟨hn, hn2⟩ d_Lim_carry_41 ?_
  refine lv_lload_n hx hb d_Lim_carry_42 rfl (lv_at hl 0 rfl) ?_
  refine lv_ladd hx hb d_Lim_carry_43 ?_
  refine gm_last hx hb X (k := to) (gm_up_s _ _ _) hA rfl ⟨hn, hn2⟩ d_Lim_carry_44 (fun H locs X => ?_)
  rw [gm_up_up] at X
  exact gm_vret hx hb hr hlk X rfl d_Lim_carry_45
