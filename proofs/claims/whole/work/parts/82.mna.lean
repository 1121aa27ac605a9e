/-! arrays of arrays -/
theorem oc_arr (c : ClassId) (N h0 : Nat) : ∀ i, Jvm.Free.Multi.outerC c N h0 i = arrV c N (fun j => if j < i then .ref (h0 + 1 + j) else .null)
  | 0 => by
    rw [Jvm.Free.Multi.outerC, arrV_new]
    congr 1
  | i + 1 => by
    rw [Jvm.Free.Multi.outerC, oc_arr c N h0 i, arrV_store]
    congr 1
    funext q
    simp only [updV]
    by_cases hq : q = i
    · subst hq
      simp
    · by_cases h2 : q < i
      · simp [hq, h2, show q < i + 1 by omega]
      · simp [hq, h2, show ¬ q < i + 1 by omega]
section MNA
variable {p : Program} {l : Launch} {e : Env} {R : Room} {s : State} {m : MethodId} {args : Array Value} {below : List Frame} {meth : Method} {c : Code} {H : Heap} {locs : List Loc} {cells slots : Nat} {Q : State → Prop}
variable {cc bytes : ByteArray} {pc nL maxL index n0 : Nat} {ls : Array Slot} {rest st0 As : List Value} {E : gm_E} {M : gm_M} {own : String} {y : MethodName} {rm : Room} {a : Nat}
theorem gm_P.ins {E : gm_E} {M : gm_M} {H : Heap} {a : Nat} {e : va_E} (hP : gm_P E M H) (h : va_at E.1.1 gm_cl (a, e) H) : gm_P E (gm_up M a e) H := by
  intro x e' hx
  simp only [gm_up] at hx
  split at hx
  · next q => cases hx; rw [q]; exact h
  · exact hP x e' hx
theorem gm_mnl (hx : p.tables.exec = Jvm.exec) (hb : c.code = cc) (hW : ∀ w ∈ WB, w.before args s = true) (hown : s.vm.findClass own = some m.cls) (X : gx E M s H locs) (hn : H.size = n0) (hcl : Cond.classLink own index "[[J" ∈ WB) (hf : cells + 9 ≤ R.cells ∧ slots + 40 ≤ R.slots) (hdg : decode cc pc = .ok (.multianewarray index 2, 4))
    (kk : ∀ H1 : Heap, H1.size = n0 + 9 → gx E (mU (gm_up M n0 (QA E 3 8 (fun i => if i < 8 then some (n0 + 1 + i) else none))) n0 (LA E 4 (fun _ => 0)) 8) s H1 locs → W p l e R s m args below meth c H1 locs (cells + 9) (slots + 40) Q (F0 m (pc + 4) ls (.ref n0 :: rest))) : W p l e R s m args below meth c H locs cells slots Q (F0 m pc ls (.int 4 :: .int 8 :: rest)) := by
  intro T hT X0
  have e8 : (8 : Int32).toNatClampNeg = 8 := by decide
  have e4 : (4 : Int32).toNatClampNeg = 4 := by decide
  have hs : "[" ++ (FieldType.array .long).toString = "[[J" := by decide +kernel
  have ho : gm_AA .long s := by have h := X.1.2.2.2.2.2.2.2; exact h.1
  obtain ⟨vm₁, cA, comp, hW1, hfA, hfC, hO, hI, X1, step⟩ := X0.multianewarray2F (own := own) (index := index) (ty := .long) hx hown (by rw [hs]; exact hW _ hcl) ho (hW _ wac_90) (g := F0 m pc ls (.int 4 :: .int 8 :: rest)) rfl (by rw [hb]; exact hdg) (n := 8) (k := 4) (rest := rest) rfl (by decide) (by decide) (by decide) (by decide) (by decide) rfl rfl (by rw [e8]; exact hf.1) (by rw [e8, e4]; exact hf.2)
  rw [e8, e4] at X1 step
  obtain ⟨f1, f2, -, -⟩ := Jvm.Free.Multi.fill_facts (T.setVm vm₁) cA comp 8 4 (defaultValue .long) 8
  have fo := fun (a : Nat) (ha : a < T.heap.size) => Jvm.Free.Multi.fill_old (T.setVm vm₁) cA comp 8 4 (defaultValue .long) (a := a) ha 8
  have fi := fun (j : Nat) (hj : j < 8) => Jvm.Free.Multi.fill_inner (T.setVm vm₁) cA comp 8 4 (defaultValue .long) 8 j hj
  have hz : (T.setVm vm₁).heap.size = n0 := by rw [← hn, ← hT]; rfl
  rw [hz] at f1 f2 fi
  have hTz : T.heap.size = n0 := by rw [hT]; exact hn
  rw [hTz] at step fo
  generalize Jvm.Free.Multi.fill (T.setVm vm₁) cA comp 8 4 (defaultValue .long) 8 = T1 at *
  have h2 : s.vm.findClass ("[" ++ (FieldType.array .long).toString) = some (E.1.2 3) := (X.1.1.2 3 _ rfl).2
  have h3 : s.vm.findClass (FieldType.array .long).toString = some (E.1.2 0) := (X.1.1.2 0 _ rfl).2
  have hcA : cA = E.1.2 3 := Option.some.inj (hfA.symm.trans h2)
  have hco : comp = E.1.2 0 := Option.some.inj (hfC.symm.trans h3)
  subst hcA
  subst hco
  have hold : ∀ q : Nat, q < n0 → T1.heap[q]? = H[q]? := fun q hq => by rw [fo q hq]; show T.heap[q]? = _; rw [hT]
  have hP0 : gm_P E M T1.heap := fun x e' hx => (X.2.1 x e' hx).kept (hold x (by have := (X.2.1 x e' hx).lt; rw [hn] at this; exact this))
  have c0 : va_at E.1.1 gm_cl (n0, QA E 3 8 (fun i => if i < 8 then some (n0 + 1 + i) else none)) T1.heap := by
    show T1.heap[n0]? = some (vp_cell _ _)
    rw [vp_cell_q, f2, oc_arr]
    congr 2
    funext j
    by_cases hj : j < 8
    · simp only [if_pos hj]; rfl
    · simp only [if_neg hj]; rfl
  have c1 : ∀ k, k < 8 → va_at E.1.1 gm_cl (n0 + 1 + k, LA E 4 (fun _ => 0)) T1.heap := fun k hk => by
    show T1.heap[n0 + 1 + k]? = some (vp_cell _ _)
    rw [vp_cell_l, fi k hk, Jvm.Free.Multi.innerC, arrV_new]
    rfl
  have hPk : ∀ k, k ≤ 8 → gm_P E (mU (gm_up M n0 (QA E 3 8 (fun i => if i < 8 then some (n0 + 1 + i) else none))) n0 (LA E 4 (fun _ => 0)) k) T1.heap := by
    intro k
    induction k with
    | zero => exact fun _ => hP0.ins c0
    | succ k ih => exact fun hk => (ih (by omega)).ins (c1 k (by omega))
  have hle := X.2.2.1.1
  obtain ⟨t, a1, b1⟩ := kk T1.heap (by omega) ⟨X.1, hPk 8 (Nat.le_refl _), ⟨by omega, fun q h1 h2 => (hold q (by omega)).trans (X.2.2.1.2.1 q h1 h2), X.2.2.1.2.2⟩, X.2.2.2⟩ T1 rfl X1
  exact ⟨t, step t a1, b1⟩
theorem gm_mni (hx : p.tables.exec = Jvm.exec) (hb : c.code = cc) (hW : ∀ w ∈ WB, w.before args s = true) (hown : s.vm.findClass own = some m.cls) (X : gx E M s H locs) (hn : H.size = n0) (hcl : Cond.classLink own index "[[I" ∈ WB) (hf : cells + 9 ≤ R.cells ∧ slots + 72 ≤ R.slots) (hdg : decode cc pc = .ok (.multianewarray index 2, 4))
    (kk : ∀ H1 : Heap, H1.size = n0 + 9 → gx E (mU (gm_up M n0 (QA E 5 8 (fun i => if i < 8 then some (n0 + 1 + i) else none))) n0 (IA E 8 (fun _ => 0)) 8) s H1 locs → W p l e R s m args below meth c H1 locs (cells + 9) (slots + 72) Q (F0 m (pc + 4) ls (.ref n0 :: rest))) : W p l e R s m args below meth c H locs cells slots Q (F0 m pc ls (.int 8 :: .int 8 :: rest)) := by
  intro T hT X0
  have e8 : (8 : Int32).toNatClampNeg = 8 := by decide
  have e4 : (8 : Int32).toNatClampNeg = 8 := by decide
  have hs : "[" ++ (FieldType.array .int).toString = "[[I" := by decide +kernel
  have ho : gm_AA .int s := by have h := X.1.2.2.2.2.2.2.2; exact h.2
  obtain ⟨vm₁, cA, comp, hW1, hfA, hfC, hO, hI, X1, step⟩ := X0.multianewarray2F (own := own) (index := index) (ty := .int) hx hown (by rw [hs]; exact hW _ hcl) ho (hW _ wac_574) (g := F0 m pc ls (.int 8 :: .int 8 :: rest)) rfl (by rw [hb]; exact hdg) (n := 8) (k := 8) (rest := rest) rfl (by decide) (by decide) (by decide) (by decide) (by decide) rfl rfl (by rw [e8]; exact hf.1) (by rw [e8]; exact hf.2)
  rw [e8] at X1 step
  obtain ⟨f1, f2, -, -⟩ := Jvm.Free.Multi.fill_facts (T.setVm vm₁) cA comp 8 8 (defaultValue .int) 8
  have fo := fun (a : Nat) (ha : a < T.heap.size) => Jvm.Free.Multi.fill_old (T.setVm vm₁) cA comp 8 8 (defaultValue .int) (a := a) ha 8
  have fi := fun (j : Nat) (hj : j < 8) => Jvm.Free.Multi.fill_inner (T.setVm vm₁) cA comp 8 8 (defaultValue .int) 8 j hj
  have hz : (T.setVm vm₁).heap.size = n0 := by rw [← hn, ← hT]; rfl
  rw [hz] at f1 f2 fi
  have hTz : T.heap.size = n0 := by rw [hT]; exact hn
  rw [hTz] at step fo
  generalize Jvm.Free.Multi.fill (T.setVm vm₁) cA comp 8 8 (defaultValue .int) 8 = T1 at *
  have h2 : s.vm.findClass ("[" ++ (FieldType.array .int).toString) = some (E.1.2 5) := (X.1.1.2 5 _ rfl).2
  have h3 : s.vm.findClass (FieldType.array .int).toString = some (E.1.2 1) := (X.1.1.2 1 _ rfl).2
  have hcA : cA = E.1.2 5 := Option.some.inj (hfA.symm.trans h2)
  have hco : comp = E.1.2 1 := Option.some.inj (hfC.symm.trans h3)
  subst hcA
  subst hco
  have hold : ∀ q : Nat, q < n0 → T1.heap[q]? = H[q]? := fun q hq => by rw [fo q hq]; show T.heap[q]? = _; rw [hT]
  have hP0 : gm_P E M T1.heap := fun x e' hx => (X.2.1 x e' hx).kept (hold x (by have := (X.2.1 x e' hx).lt; rw [hn] at this; exact this))
  have c0 : va_at E.1.1 gm_cl (n0, QA E 5 8 (fun i => if i < 8 then some (n0 + 1 + i) else none)) T1.heap := by
    show T1.heap[n0]? = some (vp_cell _ _)
    rw [vp_cell_q, f2, oc_arr]
    congr 2
    funext j
    by_cases hj : j < 8
    · simp only [if_pos hj]; rfl
    · simp only [if_neg hj]; rfl
  have c1 : ∀ k, k < 8 → va_at E.1.1 gm_cl (n0 + 1 + k, IA E 8 (fun _ => 0)) T1.heap := fun k hk => by
    show T1.heap[n0 + 1 + k]? = some (vp_cell _ _)
    rw [vp_cell_i, fi k hk, Jvm.Free.Multi.innerC, arrV_new]
    rfl
  have hPk : ∀ k, k ≤ 8 → gm_P E (mU (gm_up M n0 (QA E 5 8 (fun i => if i < 8 then some (n0 + 1 + i) else none))) n0 (IA E 8 (fun _ => 0)) k) T1.heap := by
    intro k
    induction k with
    | zero => exact fun _ => hP0.ins c0
    | succ k ih => exact fun hk => (ih (by omega)).ins (c1 k (by omega))
  have hle := X.2.2.1.1
  obtain ⟨t, a1, b1⟩ := kk T1.heap (by omega) ⟨X.1, hPk 8 (Nat.le_refl _), ⟨by omega, fun q h1 h2 => (hold q (by omega)).trans (X.2.2.1.2.1 q h1 h2), X.2.2.1.2.2⟩, X.2.2.2⟩ T1 rfl X1
  exact ⟨t, step t a1, b1⟩
end MNA
