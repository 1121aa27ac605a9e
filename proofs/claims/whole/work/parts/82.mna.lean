/-! arrays of arrays -/
section MNA
variable {p : Program} {l : Launch} {e : Env} {R : Room} {s : State} {m : MethodId} {args : Array Value} {below : List Frame} {meth : Method} {c : Code} {H : Heap} {locs : List Loc} {cells slots : Nat} {Q : State → Prop}
variable {cc bytes : ByteArray} {pc nL maxL index n0 : Nat} {ls : Array Slot} {rest st0 As : List Value} {E : gm_E} {M : gm_M} {own : String} {y : MethodName} {rm : Room} {a : Nat}
theorem gm_P.ins {E : gm_E} {M : gm_M} {H : Heap} {a : Nat} {e : va_E} (hP : gm_P E M H) (h : va_at E.1.1 gm_cl (a, e) H) : gm_P E (gm_up M a e) H := by
  intro x e' hx
  simp only [gm_up] at hx
  split at hx
  · next q => cases hx; rw [q]; exact h
  · exact hP x e' hx
theorem gm_mnl (hx : p.tables.exec = Jvm.exec) (hb : c.code = cc) (hW : ∀ w ∈ WB, w.before args s = true) (hown : s.vm.findClass own = some m.cls) (X : gx E M s H locs) (hn : H.size = n0) (hcl : Cond.classLink own index "[[J" ∈ WB) (hf : cells + 9 ≤ R.cells ∧ slots + 40 ≤ R.slots) (hdg : decode cc pc = .ok (.multianewarray index 2, 4))
    (kk : ∀ H1 : Heap, H1.size = n0 + 9 → gx E (mU (gm_up M n0 (QA E 3 8 (fun i => if i < 8 then some (n0 + 1 + i) else none))) n0 (LA E 4 (fun _ => 0)) 8) s H1 locs → W p l e R s m args below meth c H1 locs (cells + 9) (slots + 40) Q (F0 m (pc + 4) ls (.ref n0 :: rest))) : W p l e R s m args below meth c H locs cells slots Q (F0 m pc ls (.int 4 :: .int 8 :: rest)) := by
  sorry
theorem gm_mni (hx : p.tables.exec = Jvm.exec) (hb : c.code = cc) (hW : ∀ w ∈ WB, w.before args s = true) (hown : s.vm.findClass own = some m.cls) (X : gx E M s H locs) (hn : H.size = n0) (hcl : Cond.classLink own index "[[I" ∈ WB) (hf : cells + 9 ≤ R.cells ∧ slots + 72 ≤ R.slots) (hdg : decode cc pc = .ok (.multianewarray index 2, 4))
    (kk : ∀ H1 : Heap, H1.size = n0 + 9 → gx E (mU (gm_up M n0 (QA E 5 8 (fun i => if i < 8 then some (n0 + 1 + i) else none))) n0 (IA E 8 (fun _ => 0)) 8) s H1 locs → W p l e R s m args below meth c H1 locs (cells + 9) (slots + 72) Q (F0 m (pc + 4) ls (.ref n0 :: rest))) : W p l e R s m args below meth c H locs cells slots Q (F0 m pc ls (.int 8 :: .int 8 :: rest)) := by
  sorry
end MNA

