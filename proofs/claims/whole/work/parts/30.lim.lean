/-! PointBench.Limbs, loops: written by wip/gen/lim.py -/
/-- f below i, g from i on -/
def mx {α : Type} (i : Nat) (f g : Nat → α) : Nat → α := fun j => if j < i then f j else g j
theorem mx_0 {α : Type} (f g : Nat → α) : mx 0 f g = g := by funext j; simp [mx]
theorem mx_lt {α : Type} {i j : Nat} (f g : Nat → α) (h : j < i) : mx i f g j = f j := if_pos h
theorem mx_ge {α : Type} {i j : Nat} (f g : Nat → α) (h : i ≤ j) : mx i f g j = g j := if_neg (by omega)
theorem mx_sL (i : Nat) (f g : Nat → Int64) : vp_updL (mx i f g) i (f i) = mx (i + 1) f g := by
  funext j
  simp only [vp_updL, mx]
  split
  · next h => rw [if_pos (by omega), h]
  · next h =>
    by_cases h2 : j < i
    · rw [if_pos h2, if_pos (by omega)]
    · rw [if_neg h2, if_neg (by omega)]
theorem LA_inj {E : gm_E} {n k : Nat} {f g : Nat → Int64} (h : some (LA E n f) = some (LA E k g)) : n = k ∧ f = g := by
  have h1 := Option.some.inj h
  simp only [LA, Sum.inl.injEq, Prod.mk.injEq, Sum.inr.injEq, true_and] at h1
  exact h1
/-- a row that is read while the row to is being written from its start: from i on it is what it was -/
theorem rd_mix {E : gm_E} {M : gm_M} {to a n i : Nat} {gt ga : Nat → Int64} (f : Nat → Int64) (ht : M to = some (LA E n gt)) (ha : M a = some (LA E n ga)) : ∃ h, gm_up M to (LA E n (mx i f gt)) a = some (LA E n h) ∧ h i = ga i := by
  rcases Classical.em (a = to) with e | e
  · subst e
    obtain ⟨-, rfl⟩ := LA_inj (ht.symm.trans ha)
    exact ⟨_, gm_up_s _ _ _, mx_ge _ _ (Nat.le_refl i)⟩
  · exact ⟨ga, (gm_up_n _ _ e).trans ha, rfl⟩
theorem i_ge {i n : Nat} (h : n ≤ i) (hi : i < 2 ^ 31) : nI n ≤ nI i := (nI_leI (by omega) hi).mpr h
theorem i_nge {i n : Nat} (h : i < n) (hn : n < 2 ^ 31) : ¬ nI n ≤ nI i := fun q => absurd ((nI_leI hn (by omega)).mp q) (by omega)
set_option maxHeartbeats 1000000 in
theorem lp_Lim_plus {p : Program} {l : Launch} {e : Env} {s : State} {m : MethodId} {args : Array Value} {below : List Frame} {meth : Method} {c : Code} {R : Room} {Q : State → Prop} {cells slots : Nat} {E : gm_E} {M : gm_M} {to a b : Nat} {gt ga gb : Nat → Int64} (hx : p.tables.exec = Jvm.exec) (hb : c.code = b_Lim_plus) (ht : M to = some (LA E 10 gt)) (hA : E.2.1 ≤ to) (ha : M a = some (LA E 10 ga)) (hq : M b = some (LA E 10 gb))
    (kk : ∀ (H : Heap) (locs : List Loc) (ls : Array Slot), gx E (gm_up M to (LA E 10 (fun j => ga j + gb j))) s H locs → W p l e R s m args below meth c H locs cells slots Q (F0 m 24 ls [])) :
    ∀ (k i : Nat), i + k = 10 → ∀ (H : Heap) (locs : List Loc) (ls : Array Slot), gx E (gm_up M to (LA E 10 (mx i (fun j => ga j + gb j) gt))) s H locs → lv_has ls 4 [(3, .int (nI i)), (0, .ref to), (1, .ref a), (2, .ref b)] → W p l e R s m args below meth c H locs cells slots Q (F0 m 2 ls []) := by
  intro k
  induction k with
  | zero =>
    intro i hi H locs ls X hl
    refine lv_iload_n hx hb d_Lim_plus_2 rfl (lv_at hl 0 rfl) ?_
    refine lv_bipush (v := 10) hx hb d_Lim_plus_3 (by decide) ?_
    refine lv_icmp_ge (tgt := 24) hx hb d_Lim_plus_5 (by decide) (fun c5 => ?_) (fun c5 => ?_)
    · exact kk H locs ls ⟨X.1, gm_LA X.2.1 (fun j hj => by rw [mx_lt _ _ (by omega)]), X.2.2⟩
    · exact absurd (i_ge (n := 10) (i := i) (by omega) (by omega)) c5
  | succ k ih =>
    intro i hi H locs ls X hl
    refine lv_iload_n hx hb d_Lim_plus_2 rfl (lv_at hl 0 rfl) ?_
    refine lv_bipush (v := 10) hx hb d_Lim_plus_3 (by decide) ?_
    refine lv_icmp_ge (tgt := 24) hx hb d_Lim_plus_5 (by decide) (fun c5 => ?_) (fun c5 => ?_)
    · exact absurd c5 (i_nge (n := 10) (i := i) (by omega) (by omega))
    · obtain ⟨fa, ra, ea⟩ := rd_mix (i := i) (fun j => ga j + gb j) ht ha
      obtain ⟨fb, rb, eb⟩ := rd_mix (i := i) (fun j => ga j + gb j) ht hq
      refine lv_aload_n hx hb d_Lim_plus_8 rfl (lv_at hl 1 rfl) ?_
      refine lv_iload_n hx hb d_Lim_plus_9 rfl (lv_at hl 0 rfl) ?_
      refine lv_aload_n hx hb d_Lim_plus_10 rfl (lv_at hl 2 rfl) ?_
      refine lv_iload_n hx hb d_Lim_plus_11 rfl (lv_at hl 0 rfl) ?_
      refine gm_lald hx hb X (k := i) (Or.inl ra) rfl ⟨by omega, by decide⟩ d_Lim_plus_12 ?_
      rw [ea]
      refine lv_aload_n hx hb d_Lim_plus_13 rfl (lv_at hl 3 rfl) ?_
      refine lv_iload_n hx hb d_Lim_plus_14 rfl (lv_at hl 0 rfl) ?_
      refine gm_lald hx hb X (k := i) (Or.inl rb) rfl ⟨by omega, by decide⟩ d_Lim_plus_15 ?_
      rw [eb]
      refine lv_ladd hx hb d_Lim_plus_16 ?_
      refine gm_last hx hb X (k := i) (gm_up_s _ _ _) hA rfl ⟨by omega, by decide⟩ d_Lim_plus_17 (fun H locs X => ?_)
      rw [gm_up_up, mx_sL i (fun j => ga j + gb j) gt] at X
      refine lv_iinc (v := (nI (i + 1))) (lv' := [(3, .int (nI (i + 1))), (0, .ref to), (1, .ref a), (2, .ref b)]) hx hb d_Lim_plus_18 hl (k := 0) rfl (nI_1 i) (by decide) rfl (fun ls hl => ?_)
      refine lv_goto (tgt := 2) hx hb d_Lim_plus_21 (by decide) ?_
      exact ih (i + 1) (by omega) H locs ls X hl
set_option maxHeartbeats 1000000 in
theorem c_Lim_plus (l : Launch) (E : gm_E) (M : gm_M) {to a b : Nat} {gt ga gb : Nat → Int64} (ht : M to = some (LA E 10 gt)) (hA : E.2.1 ≤ to) (ha : M a = some (LA E 10 ga)) (hq : M b = some (LA E 10 gb)) : cv_ l y_Lim_plus b_Lim_plus 4 none { frames := 0, cells := 0, slots := 0, locals := 0 } E M [.ref to, .ref a, .ref b] (fun M' => M' = gm_up M to (LA E 10 (fun j => ga j + gb j))) := by
  refine gm_met (by decide) (Nat.le_of_ble_eq_true rfl) (fun p e s m below meth c ls hx hb hml hr hlk hnm hown hW X hl => ?_)
  have hl : lv_has ls 4 [(0, .ref to), (1, .ref a), (2, .ref b)] := hl
  refine lv_iconst (v := 0) hx hb d_Lim_plus_0 (by decide) ?_
  refine lv_istore_n (lv' := [(3, .int 0), (0, .ref to), (1, .ref a), (2, .ref b)]) hx hb d_Lim_plus_1 rfl hl (by decide) rfl (fun ls hl => ?_)
  refine lp_Lim_plus hx hb ht hA ha hq (fun H locs ls X => ?_) 10 0 rfl _ _ ls (by rw [mx_0, gm_up_self ht]; exact X) hl
  exact gm_vret hx hb hr hlk X rfl d_Lim_plus_24
set_option maxHeartbeats 1000000 in
theorem lp_Lim_minus {p : Program} {l : Launch} {e : Env} {s : State} {m : MethodId} {args : Array Value} {below : List Frame} {meth : Method} {c : Code} {R : Room} {Q : State → Prop} {cells slots : Nat} {E : gm_E} {M : gm_M} {to a b : Nat} {gt ga gb : Nat → Int64} (hx : p.tables.exec = Jvm.exec) (hb : c.code = b_Lim_minus) (ht : M to = some (LA E 10 gt)) (hA : E.2.1 ≤ to) (ha : M a = some (LA E 10 ga)) (hq : M b = some (LA E 10 gb))
    (kk : ∀ (H : Heap) (locs : List Loc) (ls : Array Slot), gx E (gm_up M to (LA E 10 (fun j => ga j - gb j))) s H locs → W p l e R s m args below meth c H locs cells slots Q (F0 m 24 ls [])) :
    ∀ (k i : Nat), i + k = 10 → ∀ (H : Heap) (locs : List Loc) (ls : Array Slot), gx E (gm_up M to (LA E 10 (mx i (fun j => ga j - gb j) gt))) s H locs → lv_has ls 4 [(3, .int (nI i)), (0, .ref to), (1, .ref a), (2, .ref b)] → W p l e R s m args below meth c H locs cells slots Q (F0 m 2 ls []) := by
  intro k
  induction k with
  | zero =>
    intro i hi H locs ls X hl
    refine lv_iload_n hx hb d_Lim_minus_2 rfl (lv_at hl 0 rfl) ?_
    refine lv_bipush (v := 10) hx hb d_Lim_minus_3 (by decide) ?_
    refine lv_icmp_ge (tgt := 24) hx hb d_Lim_minus_5 (by decide) (fun c5 => ?_) (fun c5 => ?_)
    · exact kk H locs ls ⟨X.1, gm_LA X.2.1 (fun j hj => by rw [mx_lt _ _ (by omega)]), X.2.2⟩
    · exact absurd (i_ge (n := 10) (i := i) (by omega) (by omega)) c5
  | succ k ih =>
    intro i hi H locs ls X hl
    refine lv_iload_n hx hb d_Lim_minus_2 rfl (lv_at hl 0 rfl) ?_
    refine lv_bipush (v := 10) hx hb d_Lim_minus_3 (by decide) ?_
    refine lv_icmp_ge (tgt := 24) hx hb d_Lim_minus_5 (by decide) (fun c5 => ?_) (fun c5 => ?_)
    · exact absurd c5 (i_nge (n := 10) (i := i) (by omega) (by omega))
    · obtain ⟨fa, ra, ea⟩ := rd_mix (i := i) (fun j => ga j - gb j) ht ha
      obtain ⟨fb, rb, eb⟩ := rd_mix (i := i) (fun j => ga j - gb j) ht hq
      refine lv_aload_n hx hb d_Lim_minus_8 rfl (lv_at hl 1 rfl) ?_
      refine lv_iload_n hx hb d_Lim_minus_9 rfl (lv_at hl 0 rfl) ?_
      refine lv_aload_n hx hb d_Lim_minus_10 rfl (lv_at hl 2 rfl) ?_
      refine lv_iload_n hx hb d_Lim_minus_11 rfl (lv_at hl 0 rfl) ?_
      refine gm_lald hx hb X (k := i) (Or.inl ra) rfl ⟨by omega, by decide⟩ d_Lim_minus_12 ?_
      rw [ea]
      refine lv_aload_n hx hb d_Lim_minus_13 rfl (lv_at hl 3 rfl) ?_
      refine lv_iload_n hx hb d_Lim_minus_14 rfl (lv_at hl 0 rfl) ?_
      refine gm_lald hx hb X (k := i) (Or.inl rb) rfl ⟨by omega, by decide⟩ d_Lim_minus_15 ?_
      rw [eb]
      refine lv_lsub hx hb d_Lim_minus_16 ?_
      refine gm_last hx hb X (k := i) (gm_up_s _ _ _) hA rfl ⟨by omega, by decide⟩ d_Lim_minus_17 (fun H locs X => ?_)
      rw [gm_up_up, mx_sL i (fun j => ga j - gb j) gt] at X
      refine lv_iinc (v := (nI (i + 1))) (lv' := [(3, .int (nI (i + 1))), (0, .ref to), (1, .ref a), (2, .ref b)]) hx hb d_Lim_minus_18 hl (k := 0) rfl (nI_1 i) (by decide) rfl (fun ls hl => ?_)
      refine lv_goto (tgt := 2) hx hb d_Lim_minus_21 (by decide) ?_
      exact ih (i + 1) (by omega) H locs ls X hl
set_option maxHeartbeats 1000000 in
theorem c_Lim_minus (l : Launch) (E : gm_E) (M : gm_M) {to a b : Nat} {gt ga gb : Nat → Int64} (ht : M to = some (LA E 10 gt)) (hA : E.2.1 ≤ to) (ha : M a = some (LA E 10 ga)) (hq : M b = some (LA E 10 gb)) : cv_ l y_Lim_minus b_Lim_minus 4 none { frames := 0, cells := 0, slots := 0, locals := 0 } E M [.ref to, .ref a, .ref b] (fun M' => M' = gm_up M to (LA E 10 (fun j => ga j - gb j))) := by
  refine gm_met (by decide) (Nat.le_of_ble_eq_true rfl) (fun p e s m below meth c ls hx hb hml hr hlk hnm hown hW X hl => ?_)
  have hl : lv_has ls 4 [(0, .ref to), (1, .ref a), (2, .ref b)] := hl
  refine lv_iconst (v := 0) hx hb d_Lim_minus_0 (by decide) ?_
  refine lv_istore_n (lv' := [(3, .int 0), (0, .ref to), (1, .ref a), (2, .ref b)]) hx hb d_Lim_minus_1 rfl hl (by decide) rfl (fun ls hl => ?_)
  refine lp_Lim_minus hx hb ht hA ha hq (fun H locs ls X => ?_) 10 0 rfl _ _ ls (by rw [mx_0, gm_up_self ht]; exact X) hl
  exact gm_vret hx hb hr hlk X rfl d_Lim_minus_24
