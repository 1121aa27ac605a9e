/-! THE MEMORY AS ONE FUNCTION from addresses to cells; rows of the kit over it -/
abbrev gm_M : Type := Nat → Option va_E
abbrev gm_G : Type := va_G × (Nat → ClassId)
/-- the surroundings: the numbers of the classes; from where on cells may be written; the static arrays; the static fields that hold them -/
abbrev gm_E : Type := gm_G × Nat × (Nat → Option (Nat × (Nat → Int64))) × List (String × Nat)
def gm_ty (G : gm_G) : List (ClassId × FieldType) := [(G.2 0, .long), (G.2 1, .int), (G.2 2, .object "PointBench$Point"), (G.2 3, .array .long), (G.2 4, .object "PointBenchModel$Point"), (G.2 5, .array .int)]
/-- arrays of longs, of ints, of references; objects -/
def LA (E : gm_E) (n : Nat) (f : Nat → Int64) : va_E := .inl (E.1.2 0, n, .inr (.inl f))
def IA (E : gm_E) (n : Nat) (f : Nat → Int32) : va_E := .inl (E.1.2 1, n, .inl f)
def QA (E : gm_E) (k n : Nat) (f : Nat → Option Nat) : va_E := .inl (E.1.2 k, n, .inr (.inr (.inr (.inr f))))
def OB (c : Nat) (fs : List Value) : va_E := .inr (c, fs)
abbrev gm_A (E : gm_E) : Nat → Prop := fun q => E.2.1 ≤ q
def gm_P (E : gm_E) (M : gm_M) (H : Heap) : Prop := ∀ a e, M a = some e → va_at E.1.1 gm_cl (a, e) H
def gm_up (M : gm_M) (a : Nat) (e : va_E) : gm_M := fun x => if x = a then some e else M x
theorem gm_up_s (M : gm_M) (a : Nat) (e : va_E) : gm_up M a e a = some e := if_pos rfl
theorem gm_up_n (M : gm_M) {a x : Nat} (e : va_E) (h : x ≠ a) : gm_up M a e x = M x := if_neg h
theorem gm_up_up (M : gm_M) (a : Nat) (e e' : va_E) : gm_up (gm_up M a e) a e' = gm_up M a e' := by
  funext x
  simp only [gm_up]
  split <;> rfl
theorem gm_up_self {M : gm_M} {a : Nat} {e : va_E} (h : M a = some e) : gm_up M a e = M := by
  funext x
  simp only [gm_up]
  split
  · next q => rw [q, h]
  · rfl
/-- arrays over arrays of the type -/
def gm_AA (ty : FieldType) (U : State) : Prop := (Cond.arrayOver (.array ty)).before #[] U = true
theorem gm_AA.moved {ty : FieldType} {u U : State} (hvm : u.vm.Alike U.vm) (h : gm_AA ty u) : gm_AA ty U := by
  have h1 : (Cond.arrayOver (.array ty)).before #[] (u.setVm U.vm) = true := by rw [Cond.arrayOver_setVmC hvm]; exact h
  first | exact h1 | (simp only [gm_AA, Cond.before, Cond.holds, Cond.value, State.vm_setVm] at h1 ⊢; exact h1)
/-- the texts of the exceptions -/
def gTX : List (Nat × String) := [(212, "no such NUMBER"), (217, "no such PART"), (221, "no such work"), (219, "no such POINT")]
/-- what throwing wants, and the making of arrays of references -/
def gm_Th (E : gm_E) (U : State) (H : Heap) : Prop := (vx_Zq Jvm.Bundle.tN "UNASSIGNED_STACK" Jvm.Bundle.steD (gm_A E) U H ∧ vx_Zq Jvm.Bundle.tN "SUPPRESSED_SENTINEL" Jvm.Bundle.listD (gm_A E) U H) ∧ (∀ q ∈ gTX, ∃ a, vk_R "PointBench" q.1 q.2 a U) ∧ (va_AO "PointBench$Point" U ∧ va_AO "PointBenchModel$Point" U) ∧ gm_AA .long U ∧ gm_AA .int U
theorem gm_Th.to {E : gm_E} {s U : State} {H0 H : Heap} (h : gm_Th E s H0) (hS : ∀ q : Nat, q < H0.size → ¬ gm_A E q → H[q]? = H0[q]?) (hw : s.WarmedH U.vm) : gm_Th E U H :=
  ⟨⟨vx_Zq.moved hw.alike (h.1.1.kept hS), vx_Zq.moved hw.alike (h.1.2.kept hS)⟩, fun q hq => (h.2.1 q hq).imp fun a ha => vk_R.warm hw ha, ⟨va_AO.moved hw.alike h.2.2.1.1, va_AO.moved hw.alike h.2.2.1.2⟩, h.2.2.2.1.moved hw.alike, h.2.2.2.2.moved hw.alike⟩
theorem gm_Th.same {E : gm_E} {u U : State} {H : Heap} (hv : U.vm = u.vm) (h : gm_Th E u H) : gm_Th E U H := by
  have ha : u.vm.Alike U.vm := by rw [hv]; exact Vm.Alike.refl u.vm
  exact ⟨⟨vx_Zq.moved ha h.1.1, vx_Zq.moved ha h.1.2⟩, fun q hq => (h.2.1 q hq).imp fun a h1 => vk_R.same hv h1, ⟨va_AO.moved ha h.2.2.1.1, va_AO.moved ha h.2.2.1.2⟩, h.2.2.2.1.moved ha, h.2.2.2.2.moved ha⟩
def gm_st (E : gm_E) (U : State) (H : Heap) : Prop := va_K E.1.1 gm_cl (gm_ty E.1) U ∧ (∀ a x, E.2.2.1 a = some x → va_T .long a x.1 (fun j => .long (x.2 j)) (gm_A E) U H) ∧ (∀ q ∈ E.2.2.2, va_Z "PointBench" q.1 "[J" (.ref q.2) (gm_A E) U H) ∧ (∀ w ∈ NW, va_Nw w U) ∧ gm_Th E U H
/-- the world at a method's start -/
def gw (E : gm_E) (M : gm_M) (U : State) : Prop := gm_st E U U.heap ∧ gm_P E M U.heap ∧ E.2.1 ≤ U.heap.size
/-- the world within a method that began at s -/
def gx (E : gm_E) (M : gm_M) (s : State) (H : Heap) (locs : List Loc) : Prop := gm_st E s s.heap ∧ gm_P E M H ∧ va_S (gm_A E) s.heap H locs ∧ E.2.1 ≤ s.heap.size
theorem gm_st.to {E : gm_E} {s U : State} {H : Heap} {locs : List Loc} (h : gm_st E s s.heap) (hS : va_S (gm_A E) s.heap H locs) (hw : s.WarmedH U.vm) : gm_st E U H :=
  ⟨va_K.moved hw.alike h.1, fun a x hx => va_T.moved hw.alike ((h.2.1 a x hx).kept hS.2.1), fun q hq => va_Z.moved hw.alike ((h.2.2.1 q hq).kept hS.2.1), nw_warm hw h.2.2.2.1, h.2.2.2.2.to hS.2.1 hw⟩
theorem gx.gw {E : gm_E} {M : gm_M} {s U : State} {H : Heap} {locs : List Loc} (X : gx E M s H locs) (hU : U.heap = H) (hw : s.WarmedH U.vm) : gw E M U := by
  subst hU
  exact ⟨X.1.to X.2.2.1 hw, X.2.1, Nat.le_trans X.2.2.2 X.2.2.1.1⟩
theorem gw_blind (E : gm_E) (M : gm_M) (av : List Value) : FrameBlind (va_Pc av (gw E M)) := fun a U g mk q => by
  obtain ⟨q0, ⟨qK, qT, qZ, qN, qH⟩, qP, qB⟩ := q
  exact ⟨q0, ⟨va_K.moved (u := U) (U := U.calling g mk a) (Vm.Alike.refl U.vm) qK, fun b x hx => va_T.moved (u := U) (U := U.calling g mk a) (Vm.Alike.refl U.vm) (qT b x hx), fun b hb => va_Z.moved (u := U) (U := U.calling g mk a) (Vm.Alike.refl U.vm) (qZ b hb), nw_same (u := U) (U := U.calling g mk a) rfl qN, gm_Th.same (u := U) (U := U.calling g mk a) rfl qH⟩, qP, qB⟩
theorem gm_1 {E : gm_E} {M : gm_M} {H : Heap} {a : Nat} {e : va_E} (hP : gm_P E M H) (h : M a = some e) : va_P E.1.1 gm_cl [(a, e)] H := fun k q hq => by
  have hk : k < 1 := (List.getElem?_eq_some_iff.mp hq).1
  rw [show k = 0 by omega] at hq
  cases hq
  exact hP a e h
theorem gm_P.set {E : gm_E} {M : gm_M} {H H1 : Heap} {a : Nat} {e : va_E} (hP : gm_P E M H) (h1 : va_at E.1.1 gm_cl (a, e) H1) (oq : ∀ q : Nat, q ≠ a → H1[q]? = H[q]?) : gm_P E (gm_up M a e) H1 := by
  intro x e' hx
  simp only [gm_up] at hx
  split at hx
  · next q => cases hx; rw [q]; exact h1
  · next q => exact (hP x e' hx).kept (oq x q)
theorem gx.put {E : gm_E} {M : gm_M} {s : State} {H H1 : Heap} {locs : List Loc} {a k : Nat} {e : va_E} (X : gx E M s H locs) (hA : E.2.1 ≤ a) (h1 : va_at E.1.1 gm_cl (a, e) H1) (z : H1.size = H.size) (oq : ∀ q : Nat, q ≠ a → H1[q]? = H[q]?) : gx E (gm_up M a e) s H1 (locs ++ [⟨a, k⟩]) :=
  ⟨X.1, X.2.1.set h1 oq, X.2.2.1.put z oq hA, X.2.2.2⟩
/-- the same contents, as far as they are read -/
theorem gm_LA {E : gm_E} {M : gm_M} {H : Heap} {a n : Nat} {f g : Nat → Int64} (hP : gm_P E (gm_up M a (LA E n f)) H) (h : ∀ j, j < n → g j = f j) : gm_P E (gm_up M a (LA E n g)) H := by
  intro x e hx
  simp only [gm_up] at hx
  split at hx
  · next q =>
    cases hx
    have h1 := hP a (LA E n f) (gm_up_s _ _ _)
    rw [q]
    show H[a]? = some (vp_cell _ _)
    have h2 : H[a]? = some (vp_cell (E.1.2 0) (n, .inr (.inl f))) := h1
    rw [h2, vp_cell_l, vp_cell_l]
    congr 1
    unfold arrV
    congr 1
    apply Array.ext
    · simp
    · intro i h3 h4
      simp at h3 h4 ⊢
      rw [h i (by omega)]
  · next q => exact hP x e (by rw [gm_up_n _ _ q]; exact hx)
/-- an array of longs that may be read: one of the memory's, or a static one -/
def rdL (E : gm_E) (M : gm_M) (a n : Nat) (f : Nat → Int64) : Prop := M a = some (LA E n f) ∨ E.2.2.1 a = some (n, f)
section GM
variable {p : Program} {l : Launch} {e : Env} {R : Room} {s : State} {m : MethodId} {args : Array Value} {below : List Frame} {meth : Method} {c : Code} {H : Heap} {locs : List Loc} {cells slots : Nat} {Q : State → Prop}
variable {cc : ByteArray} {pc : Nat} {ls : Array Slot} {rest : List Value} {E : gm_E} {M : gm_M} {a : Nat}
theorem gm_lald (hx : p.tables.exec = Jvm.exec) (hb : c.code = cc) (X : gx E M s H locs) {n k : Nat} {f : Nat → Int64} (hr : rdL E M a n f) {i : Int32} (hi : i = nI k) (hk : k < n ∧ n < 2 ^ 31) (hdg : decode cc pc = .ok (.laload, 1))
    (kk : W p l e R s m args below meth c H locs cells slots Q (F0 m (pc + 1) ls (.long (f k) :: rest))) : W p l e R s m args below meth c H locs cells slots Q (F0 m pc ls (.int i :: .ref a :: rest)) := by
  subst hi
  have hin := vp_in_nI hk.1 hk.2
  have hc : (nI k).toNatClampNeg = k := nI_clamp (by omega)
  rcases hr with h | h
  · exact va_lald hx hb X.1.1 (gm_1 X.2.1 h) 0 0 rfl rfl hin hdg (by rw [hc]; exact kk)
  · exact va_tl hx hb (X.1.2.1 a _ h) X.2.2.1 hin rfl hdg (by rw [hc]; exact kk)
theorem gm_iald (hx : p.tables.exec = Jvm.exec) (hb : c.code = cc) (X : gx E M s H locs) {n k : Nat} {f : Nat → Int32} (hr : M a = some (IA E n f)) {i : Int32} (hi : i = nI k) (hk : k < n ∧ n < 2 ^ 31) (hdg : decode cc pc = .ok (.iaload, 1))
    (kk : W p l e R s m args below meth c H locs cells slots Q (F0 m (pc + 1) ls (.int (f k) :: rest))) : W p l e R s m args below meth c H locs cells slots Q (F0 m pc ls (.int i :: .ref a :: rest)) := by
  subst hi
  have hin := vp_in_nI hk.1 hk.2
  have hc : (nI k).toNatClampNeg = k := nI_clamp (by omega)
  exact va_iald hx hb X.1.1 (gm_1 X.2.1 hr) 0 1 rfl rfl hin hdg (by rw [hc]; exact kk)
theorem gm_last (hx : p.tables.exec = Jvm.exec) (hb : c.code = cc) (X : gx E M s H locs) {n k : Nat} {f : Nat → Int64} (hr : M a = some (LA E n f)) (hA : E.2.1 ≤ a) {i : Int32} {x : Int64} (hi : i = nI k) (hk : k < n ∧ n < 2 ^ 31) (hdg : decode cc pc = .ok (.lastore, 1))
    (kk : ∀ (H1 : Heap) (locs1 : List Loc), gx E (gm_up M a (LA E n (vp_updL f k x))) s H1 locs1 → W p l e R s m args below meth c H1 locs1 cells slots Q (F0 m (pc + 1) ls rest)) : W p l e R s m args below meth c H locs cells slots Q (F0 m pc ls (.long x :: .int i :: .ref a :: rest)) := by
  subst hi
  have hin := vp_in_nI hk.1 hk.2
  have hc : (nI k).toNatClampNeg = k := nI_clamp (by omega)
  have hcell : H[a]? = some (vp_cell (E.1.2 0) (n, .inr (.inl f))) := X.2.1 a _ hr
  refine W.last hx hb hcell ((X.1.1.2 0 _ rfl).1 n (fun j => .long (f j))) (fun q => by cases q) (by show ¬ (nI k < 0 ∨ (arrV _ _ _).slots.size ≤ _); rw [arrV_size]; exact hin) rfl rfl hdg fun H1 e1 z oq => ?_
  refine kk H1 _ (X.put hA ?_ z oq)
  show H1[a]? = some (vp_cell _ _)
  rw [e1, vp_cell_l, vp_cell_l, arrV_store]
  congr 2
  funext q
  rw [hc]
  by_cases hq : q = k
  · subst hq
    simp [updV, vp_updL]
  · simp [updV, vp_updL, hq]
theorem gm_iast (hx : p.tables.exec = Jvm.exec) (hb : c.code = cc) (X : gx E M s H locs) {n k : Nat} {f : Nat → Int32} (hr : M a = some (IA E n f)) (hA : E.2.1 ≤ a) {i : Int32} {x : Int32} (hi : i = nI k) (hk : k < n ∧ n < 2 ^ 31) (hdg : decode cc pc = .ok (.iastore, 1))
    (kk : ∀ (H1 : Heap) (locs1 : List Loc), gx E (gm_up M a (IA E n (upd f k x))) s H1 locs1 → W p l e R s m args below meth c H1 locs1 cells slots Q (F0 m (pc + 1) ls rest)) : W p l e R s m args below meth c H locs cells slots Q (F0 m pc ls (.int x :: .int i :: .ref a :: rest)) := by
  subst hi
  have hin := vp_in_nI hk.1 hk.2
  have hc : (nI k).toNatClampNeg = k := nI_clamp (by omega)
  have hcell : H[a]? = some (vp_cell (E.1.2 1) (n, .inl f)) := X.2.1 a _ hr
  refine W.iast hx hb hcell ((X.1.1.2 1 _ rfl).1 n (fun j => .int (f j))) (fun q => by cases q) (by show ¬ (nI k < 0 ∨ (arrV _ _ _).slots.size ≤ _); rw [arrV_size]; exact hin) rfl rfl hdg fun H1 e1 z oq => ?_
  refine kk H1 _ (X.put hA ?_ z oq)
  show H1[a]? = some (vp_cell _ _)
  rw [e1, vp_cell_i, vp_cell_i, arrV_store]
  congr 2
  funext q
  rw [hc]
  by_cases hq : q = k
  · subst hq
    simp [updV, upd]
  · simp [updV, upd, hq]
end GM
