/-! more rows: a value on the stack under another name; System.arraycopy of ten longs; small facts -/
section GM4
variable {p : Program} {l : Launch} {e : Env} {R : Room} {s : State} {m : MethodId} {args : Array Value} {below : List Frame} {meth : Method} {c : Code} {H : Heap} {locs : List Loc} {cells slots : Nat} {Q : State → Prop}
variable {cc : ByteArray} {pc : Nat} {ls : Array Slot} {rest : List Value} {E : gm_E} {M : gm_M} {a : Nat}
theorem lv_eqi {x v : Int32} (h : x = v) (k : W p l e R s m args below meth c H locs cells slots Q (F0 m pc ls (.int v :: rest))) : W p l e R s m args below meth c H locs cells slots Q (F0 m pc ls (.int x :: rest)) := h ▸ k
theorem lv_eql {x v : Int64} (h : x = v) (k : W p l e R s m args below meth c H locs cells slots Q (F0 m pc ls (.long v :: rest))) : W p l e R s m args below meth c H locs cells slots Q (F0 m pc ls (.long x :: rest)) := h ▸ k
theorem gm_copy (hx : p.tables.exec = Jvm.exec) (hb : c.code = cc) (hml : c.maxLocals = ls.size) {own : String} {index : Nat} (hown : s.vm.findClass own = some m.cls) (hW : ∀ w ∈ WB, w.before args s = true) (hl : Cond.methodLink own index arraycopyName ∈ WB) (X : gx E M s H locs) {a0 n0 n1 : Nat} {f g : Nat → Int64} (h0 : M a0 = some (LA E n0 f)) (h1 : M a = some (LA E n1 g)) (hA : E.2.1 ≤ a) (hn0 : 10 ≤ n0) (hn1 : 10 ≤ n1) (hrm : (rest.map fun v => v.category).sum = 0) (hfr : 1 ≤ R.frames) (hlo : nativeFrameWords "java/lang/System" "arraycopy" 5 + 11 ≤ R.locals) (hdg : decode cc pc = .ok (.invokestatic index, 3))
    (kk : ∀ (H1 : Heap) (locs1 : List Loc), gx E (gm_up M a (LA E n1 (fun j => if j < 10 then f j else g j))) s H1 locs1 → W p l e R s m args below meth c H1 locs1 cells slots Q (F0 m (pc + 3) ls rest)) : W p l e R s m args below meth c H locs cells slots Q (F0 m pc ls (.int 10 :: .int 0 :: .ref a :: .int 0 :: .ref a0 :: rest)) := by
  intro T hT Y
  have hc0 : H[a0]? = some (vp_cell (E.1.2 0) (n0, .inr (.inl f))) := X.2.1 a0 _ h0
  have hc1 : H[a]? = some (vp_cell (E.1.2 0) (n1, .inr (.inl g))) := X.2.1 a _ h1
  obtain ⟨-, k0, hk0, cm0, hkk0⟩ := (X.1.1.2 0 _ rfl).1 n0 (fun j => .long (f j))
  have e10 : (10 : Int32).toNatClampNeg = 10 := by decide
  have e0 : (0 : Int32).toNatClampNeg = 0 := by decide
  obtain ⟨vm', Y', step⟩ := Y.arraycopy hx hown (hW _ hl) (hW _ wn_arraycopy) (hW _ ws_arraycopy) (hW _ winit_System) (src := a0) (dst := a) (cs := vp_cell (E.1.2 0) (n0, .inr (.inl f))) (cd := vp_cell (E.1.2 0) (n1, .inr (.inl g))) (srcPos := 0) (destPos := 0) (n := 10) (by rw [hT]; exact hc0) (by rw [hT]; exact hc1)
    (fun _ h => by cases h) (fun _ h => by cases h) (fun h => by cases h) (fun h => by cases h) hk0 hk0 hkk0 hkk0 (by simp [refKind]) (by decide) (by decide) (by decide)
    (by show ¬ _ > ((arrV (E.1.2 0) n0 (fun j => .long (f j))).slots.size : Int); rw [arrV_size, show (0 : Int32).toInt = 0 by decide, show (10 : Int32).toInt = 10 by decide]; omega)
    (by show ¬ _ > ((arrV (E.1.2 0) n1 (fun j => .long (g j))).slots.size : Int); rw [arrV_size, show (0 : Int32).toInt = 0 by decide, show (10 : Int32).toInt = 10 by decide]; omega)
    (fun vm₁ _ i hi => by
      rw [e10] at hi
      have e : (vp_cell (E.1.2 0) (n0, .inr (.inl f))).slots.getD ((0 : Int32).toNatClampNeg + i) .null = .long (f ((0 : Int32).toNatClampNeg + i)) := by
        show (arrV (E.1.2 0) n0 (fun j => .long (f j))).slots.getD _ _ = _
        rw [Array.getD_eq_getD_getElem?, arrV_read _ _ (by rw [e0]; omega)]
        rfl
      refine ⟨?_, ?_⟩
      · rw [e]; rfl
      · rw [e]; exact trivial)
    (g := F0 m pc ls (.int 10 :: .int 0 :: .ref a :: .int 0 :: .ref a0 :: rest)) rfl (by rw [hml]) (rest := rest) rfl (by rw [hb]; exact hdg) hfr (by show 2 * 0 + _ + _ ≤ _; omega)
  have e1 : copied (vp_cell (E.1.2 0) (n0, .inr (.inl f))) (vp_cell (E.1.2 0) (n1, .inr (.inl g))) 0 0 10 = vp_cell (E.1.2 0) (n1, .inr (.inl (fun j => if j < 10 then f j else g j))) := by
    have h := va_copied (fun z => .long z) (E.1.2 0) (E.1.2 0) (n0 := n0) (n1 := n1) (sp := (0 : Int32).toNatClampNeg) (dp := (0 : Int32).toNatClampNeg) (n := (10 : Int32).toNatClampNeg) f g (by rw [e0, e10]; omega)
    refine h.trans ?_
    rw [vp_cell_l]
    congr 1
    funext j
    simp only [va_cpy, e0, e10]
    by_cases hj : j < 10
    · rw [if_pos ⟨by omega, by omega⟩, if_pos hj]; congr 2; omega
    · rw [if_neg (by omega), if_neg hj]
  rw [e1] at Y' step
  have hl2 : a < H.size := (Array.getElem?_eq_some_iff.mp hc1).1
  have hheap : ((T.setVm vm').setCell a (vp_cell (E.1.2 0) (n1, .inr (.inl (fun j => if j < 10 then f j else g j))))).heap = H.setIfInBounds a (vp_cell (E.1.2 0) (n1, .inr (.inl (fun j => if j < 10 then f j else g j)))) := by rw [← hT]; rfl
  have oq : ∀ q : Nat, q ≠ a → (H.setIfInBounds a (vp_cell (E.1.2 0) (n1, .inr (.inl (fun j => if j < 10 then f j else g j)))))[q]? = H[q]? := fun q hq => by simp [Array.getElem?_setIfInBounds, Ne.symm hq]
  obtain ⟨t, a1, b1⟩ := kk _ _ ⟨X.1, X.2.1.set (e := LA E n1 (fun j => if j < 10 then f j else g j)) (show (H.setIfInBounds a _)[a]? = some _ by simp [Array.getElem?_setIfInBounds, hl2]) oq, ⟨by simp; exact X.2.2.1.1, fun q g1 g2 => by
      rw [oq q (fun e => g2 (by rw [e]; exact hA))]
      exact X.2.2.1.2.1 q g1 g2, fun q hq => by
      rcases List.mem_append.mp hq with h | h
      · exact X.2.2.1.2.2 q h
      · obtain ⟨z, -, hz⟩ := List.mem_map.mp h
        rw [← hz]
        exact hA⟩, X.2.2.2⟩ _ hheap Y'
  exact ⟨t, step t a1, b1⟩
end GM4
