/-! MAKING OBJECTS: rows over the memory; contracts that know the heap's size -/
theorem gm_P.push {E : gm_E} {M : gm_M} {H H1 : Heap} {e : va_E} {n : Nat} (hn : H.size = n) (hP : gm_P E M H) (h1 : va_at E.1.1 gm_cl (n, e) H1) (o1 : ∀ q : Nat, q < n → H1[q]? = H[q]?) : gm_P E (gm_up M n e) H1 := by
  subst hn
  intro x e' hx
  simp only [gm_up] at hx
  split at hx
  · next q => cases hx; rw [q]; exact h1
  · next q => exact (hP x e' hx).kept (o1 x (hP x e' hx).lt)
theorem gx.push {E : gm_E} {M : gm_M} {s : State} {H H1 : Heap} {locs : List Loc} {e : va_E} {n : Nat} (X : gx E M s H locs) (hn : H.size = n) (h1 : va_at E.1.1 gm_cl (n, e) H1) (z : n ≤ H1.size) (o1 : ∀ q : Nat, q < n → H1[q]? = H[q]?) : gx E (gm_up M n e) s H1 locs :=
  ⟨X.1, X.2.1.push hn h1 o1, ⟨Nat.le_trans X.2.2.1.1 (by omega), fun x h1 h2 => (o1 x (by have := X.2.2.1.1; omega)).trans (X.2.2.1.2.1 x h1 h2), X.2.2.1.2.2⟩, X.2.2.2⟩
section NEW
variable {p : Program} {l : Launch} {e : Env} {R : Room} {s : State} {m : MethodId} {args : Array Value} {below : List Frame} {meth : Method} {c : Code} {H : Heap} {locs : List Loc} {cells slots : Nat} {Q : State → Prop}
variable {cc bytes : ByteArray} {pc nL maxL index n0 : Nat} {ls : Array Slot} {rest st0 As : List Value} {E : gm_E} {M : gm_M} {own : String} {y : MethodName} {rm : Room} {a : Nat}
theorem gm_new (hx : p.tables.exec = Jvm.exec) (hb : c.code = cc) (hW : ∀ w ∈ WB, w.before args s = true) {C : String} {T : u_T} {N ci : Nat} (hown : s.vm.findClass own = some m.cls) (X : gx E M s H locs) (hn : H.size = n0) (hu : ∀ w ∈ u_ws C T N, w ∈ WB) (ty : Nat → FieldType) (hty : ∀ k, k < N → parseFieldDescriptor (T k).2.2.1 = some (ty k)) (hc : gm_cl[ci]? = some (C, T, N)) (hcl : Cond.classLink own index C ∈ WB) (hin : Cond.instantiable C N ∈ WB) (hini : Cond.initialized C ∈ WB) {fs : List Value} (hfs : ∀ j, j < N → defaultValue (ty j) = vp_V fs j) (hf : cells + 1 ≤ R.cells ∧ slots + N ≤ R.slots) (hdg : decode cc pc = .ok (.new index, 3))
    (kk : ∀ H1 : Heap, H1.size = n0 + 1 → gx E (gm_up M n0 (OB ci fs)) s H1 locs → W p l e R s m args below meth c H1 locs (cells + 1) (slots + N) Q (F0 m (pc + 3) ls (.ref n0 :: rest))) : W p l e R s m args below meth c H locs cells slots Q (F0 m pc ls rest) := by
  have hKn := X.1.1.1 ci _ hc
  refine W.newcK hx hb hown (hW _ hcl) (hW _ hin) (hW _ hini) rfl hdg hf.1 hf.2 hKn.2.1 hn fun H1 kC hkC e1 z1 o1 => ?_
  exact kk H1 z1 (X.push hn ⟨_, hc, (u_born ty hW hu hKn hkC e1 hty).to hfs⟩ (by omega) o1)
theorem gm_newl (hx : p.tables.exec = Jvm.exec) (hb : c.code = cc) (hW : ∀ w ∈ WB, w.before args s = true) (X : gx E M s H locs) (hn : H.size = n0) {k : Int32} {N : Nat} (h0 : ¬ k < 0) (hk : k.toNatClampNeg = N) (hNb : N * 8 ≤ 536870912) (hf : cells + 1 ≤ R.cells ∧ slots + N ≤ R.slots) (hdg : decode cc pc = .ok (.newarray .long, 2))
    (kk : ∀ H1 : Heap, H1.size = n0 + 1 → gx E (gm_up M n0 (LA E N (fun _ => 0))) s H1 locs → W p l e R s m args below meth c H1 locs (cells + 1) (slots + N) Q (F0 m (pc + 2) ls (.ref n0 :: rest))) : W p l e R s m args below meth c H locs cells slots Q (F0 m pc ls (.int k :: rest)) := by
  refine va_newaK hx hb (atype := .long) (hW _ wac_90) rfl hdg rfl h0 hk hNb hf.1 hf.2 hn fun H1 cA e1 z1 o1 hAr hNm => ?_
  have h2 : s.vm.findClass ("[" ++ (newarray.typeOf .long).toString) = some (E.1.2 0) := (X.1.1.2 0 _ rfl).2
  have hc : cA = E.1.2 0 := Option.some.inj (hNm.symm.trans h2)
  subst hc
  refine kk H1 z1 (X.push hn ?_ (by omega) o1)
  show H1[n0]? = some (vp_cell _ _)
  rw [vp_cell_l]
  exact e1
theorem gm_newi (hx : p.tables.exec = Jvm.exec) (hb : c.code = cc) (hW : ∀ w ∈ WB, w.before args s = true) (X : gx E M s H locs) (hn : H.size = n0) {k : Int32} {N : Nat} (h0 : ¬ k < 0) (hk : k.toNatClampNeg = N) (hNb : N * 4 ≤ 536870912) (hf : cells + 1 ≤ R.cells ∧ slots + N ≤ R.slots) (hdg : decode cc pc = .ok (.newarray .int, 2))
    (kk : ∀ H1 : Heap, H1.size = n0 + 1 → gx E (gm_up M n0 (IA E N (fun _ => 0))) s H1 locs → W p l e R s m args below meth c H1 locs (cells + 1) (slots + N) Q (F0 m (pc + 2) ls (.ref n0 :: rest))) : W p l e R s m args below meth c H locs cells slots Q (F0 m pc ls (.int k :: rest)) := by
  refine va_newaK hx hb (atype := .int) (hW _ wac_574) rfl hdg rfl h0 hk hNb hf.1 hf.2 hn fun H1 cA e1 z1 o1 hAr hNm => ?_
  have h2 : s.vm.findClass ("[" ++ (newarray.typeOf .int).toString) = some (E.1.2 1) := (X.1.1.2 1 _ rfl).2
  have hc : cA = E.1.2 1 := Option.some.inj (hNm.symm.trans h2)
  subst hc
  refine kk H1 z1 (X.push hn ?_ (by omega) o1)
  show H1[n0]? = some (vp_cell _ _)
  rw [vp_cell_i]
  exact e1
theorem gm_anew (hx : p.tables.exec = Jvm.exec) (hb : c.code = cc) (hW : ∀ w ∈ WB, w.before args s = true) (hown : s.vm.findClass own = some m.cls) (X : gx E M s H locs) (hn : H.size = n0) {C : String} {j : Nat} (hj : (gm_ty E.1)[j]? = some (E.1.2 j, .object C)) (hcl : Cond.classLink own index C ∈ WB) (ho : va_AO C s) {k : Int32} {N : Nat} (h0 : ¬ k < 0) (hk : k.toNatClampNeg = N) (hNb : N * 4 ≤ 536870912) (hf : cells + 1 ≤ R.cells ∧ slots + N ≤ R.slots) (hdg : decode cc pc = .ok (.anewarray index, 3))
    (kk : ∀ H1 : Heap, H1.size = n0 + 1 → gx E (gm_up M n0 (QA E j N (fun _ => none))) s H1 locs → W p l e R s m args below meth c H1 locs (cells + 1) (slots + N) Q (F0 m (pc + 3) ls (.ref n0 :: rest))) : W p l e R s m args below meth c H locs cells slots Q (F0 m pc ls (.int k :: rest)) := by
  subst hk
  refine W.anew hx hb hown (hW _ hcl) (va_AO.use ho) rfl hdg rfl h0 hNb hf.1 hf.2 fun cA kA comp f1 f2 f3 f4 => ?_
  obtain ⟨-, -, -, -, -, h5⟩ := (X.1.1.2 j _ hj).2
  have hc : cA = E.1.2 j := Option.some.inj (f1.symm.trans h5)
  subst hc
  subst hn
  have e1 : (H.push ({ cls := E.1.2 j, slots := Array.replicate k.toNatClampNeg .null, vm := .none } : Cell))[H.size]? = some (arrV (E.1.2 j) k.toNatClampNeg (fun _ => .null)) := by rw [Array.getElem?_push_size, ← arrV_new]
  refine kk _ (by rw [Array.size_push]) (X.push rfl ?_ (by rw [Array.size_push]; omega) (fun q hq => by rw [Array.getElem?_push, if_neg (by omega)]))
  show (H.push _)[H.size]? = some (vp_cell _ _)
  rw [vp_cell_q]
  exact e1
theorem gm_aast (hx : p.tables.exec = Jvm.exec) (hb : c.code = cc) (X : gx E M s H locs) {n k j v ci : Nat} {f : Nat → Option Nat} {r : vw_C} {vs : List Value} (hr : M a = some (QA E j n f)) (hA : E.2.1 ≤ a) (hj : (gm_ty E.1)[j]? = some (E.1.2 j, .object r.1)) (hv : M v = some (OB ci vs)) (hc : gm_cl[ci]? = some r) {i : Int32} (hi : i = nI k) (hk : k < n ∧ n < 2 ^ 31) (hdg : decode cc pc = .ok (.aastore, 1))
    (kk : ∀ (H1 : Heap) (locs1 : List Loc), H1.size = H.size → gx E (gm_up M a (QA E j n (va_up f k (some v)))) s H1 locs1 → W p l e R s m args below meth c H1 locs1 cells slots Q (F0 m (pc + 1) ls rest)) : W p l e R s m args below meth c H locs cells slots Q (F0 m pc ls (.ref v :: .int i :: .ref a :: rest)) := by
  subst hi
  have hin := vp_in_nI hk.1 hk.2
  have hcl : (nI k).toNatClampNeg = k := nI_clamp (by omega)
  have h0 : ¬ nI k < 0 := fun q => hin (Or.inl q)
  obtain ⟨r', hr', cellV, g1, g2, g3, -⟩ := X.2.1 v _ hv
  have hcls := (X.1.1.1 ci r hc).2
  obtain ⟨kA, comp, k1, k2, k3, -⟩ := (X.1.1.2 j _ hj).2
  have hcomp : comp = E.1.1.1 ci := Option.some.inj (k3.symm.trans hcls.1)
  subst hcomp
  obtain ⟨kC, hkC, -⟩ := hcls.2
  refine W.aast hx hb (X.2.1 a _ hr) (fun q h => by cases h) (fun h => by cases h) k1 k2 rfl hkC ⟨h0, by show _ < (arrV _ _ _).slots.size; rw [arrV_size, hcl]; exact hk.1⟩ g1 (fun q h => by rw [g3] at h; cases h) (by rw [g2]; exact hkC) (by rw [g2]; exact va_assign hcls) rfl rfl hdg fun H1 e z oq => ?_
  refine kk H1 _ z (X.put hA ?_ z oq)
  show H1[a]? = some (vp_cell _ _)
  rw [e, vp_cell_q, vp_cell_q, arrV_store]
  congr 2
  funext q
  rw [hcl]
  by_cases hq : q = k
  · subst hq
    simp [updV, va_up, va_rf]
  · simp [updV, va_up, hq]
theorem gm_putF (hx : p.tables.exec = Jvm.exec) (hb : c.code = cc) (hW : ∀ w ∈ WB, w.before args s = true) {C : String} {T : u_T} {N ci : Nat} (hown : s.vm.findClass own = some m.cls) (X : gx E M s H locs) (hu : ∀ w ∈ u_ws C T N, w ∈ WB) (ty0 : Nat → FieldType) (hty : ∀ k, k < N → parseFieldDescriptor (T k).2.2.1 = some (ty0 k)) (hnm : ∀ a, a < N → ∀ b, b < N → a ≠ b → (T a).2.1 ≠ (T b).2.1) {fs : List Value} (hM : M a = some (OB ci fs)) (hA : E.2.1 ≤ a) (hc : gm_cl[ci]? = some (C, T, N)) (k : Nat) (hk : k < N) (hl : Cond.fieldLink own index (T k).1 (T k).2.1 (T k).2.2.1 ∈ WB) (hfin : (T k).2.2.2 = true) (hin2 : meth.name = "<init>") (hdecl : (T k).1 = own) {ty : FieldType} {v : Value} (hd : parseFieldDescriptor (T k).2.2.1 = some ty) (hn : narrow ty v = v) (hfit : fits ty v = true) (hlen : k < fs.length) (hdg : decode cc pc = .ok (.putfield index, 3))
    (kk : ∀ (H1 : Heap) (locs1 : List Loc), H1.size = H.size → gx E (gm_up M a (OB ci (fs.set k v))) s H1 locs1 → W p l e R s m args below meth c H1 locs1 cells slots Q (F0 m (pc + 3) ls rest)) : W p l e R s m args below meth c H locs cells slots Q (F0 m pc ls (v :: .ref a :: rest)) := by
  have hap := va_apart (own := own) hW hu ty0 hty hnm X.1.1 hc
  obtain ⟨r, h1, cell, q1, q2, q3, q4⟩ := X.2.1 a _ hM
  have hr : r = (C, T, N) := Option.some.inj (h1.symm.trans hc)
  subst hr
  obtain ⟨hS, hfc, kC, hkC, hkind⟩ := X.1.1.1 ci _ hc
  obtain ⟨cf, kf, fi, f, hi, hsl⟩ := hS k hk
  have hlay := hW _ (hu _ (u_in_lay hk))
  unfold u_lay at hlay
  rw [if_pos hfin] at hlay
  have hst := (u_facts hfc hkC (u_lays hW hu hk) hi).1
  have hcf : m.cls = cf := by
    obtain ⟨_, _, c', _, _, _, -, -, hf', -, -, -, hown2, -⟩ := Cond.laysFinal_spec hlay
    have e1 : c' = cf := by have := hi.symm.trans hf'; simp at this; exact this.1.symm
    rw [hdecl] at hown2
    rw [← e1]; exact Option.some.inj (hown.symm.trans hown2)
  have h6 := u_fits hfc hkC hkind (Or.inr hlay) hi hd hn hfit
  refine W.putFinK hx hb hown (hW _ hl) hi hst hcf hin2 (by rw [q2]; exact h6) q1 q3 (by rw [hsl]; exact k2_hasslot (q4 k hk)) rfl rfl hdg fun H' e1 e2 e3 => ?_
  rw [hsl] at e1 ⊢
  exact kk H' _ e2 (X.put hA ⟨_, hc, t_OB.to (V := updV (vp_V fs) k v) ⟨_, e1, q2, q3, t_set q4 hap hk v⟩ (fun j _ => vp_updV_set hlen v j)⟩ e2 e3)
theorem gm_putZ (hx : p.tables.exec = Jvm.exec) (hb : c.code = cc) (hW : ∀ w ∈ WB, w.before args s = true) {C : String} {T : u_T} {N ci : Nat} (hown : s.vm.findClass own = some m.cls) (X : gx E M s H locs) (hu : ∀ w ∈ u_ws C T N, w ∈ WB) (ty0 : Nat → FieldType) (hty : ∀ k, k < N → parseFieldDescriptor (T k).2.2.1 = some (ty0 k)) (hnm : ∀ a, a < N → ∀ b, b < N → a ≠ b → (T a).2.1 ≠ (T b).2.1) {fs : List Value} (hM : M a = some (OB ci fs)) (hA : E.2.1 ≤ a) (hc : gm_cl[ci]? = some (C, T, N)) (k : Nat) (hk : k < N) (hl : Cond.fieldLink own index (T k).1 (T k).2.1 (T k).2.2.1 ∈ WB) (hfin : (T k).2.2.2 = false) {ty : FieldType} {v : Value} (hd : parseFieldDescriptor (T k).2.2.1 = some ty) (hn : narrow ty v = v) (hfit : fits ty v = true) (hlen : k < fs.length) (hdg : decode cc pc = .ok (.putfield index, 3))
    (kk : ∀ (H1 : Heap) (locs1 : List Loc), H1.size = H.size → gx E (gm_up M a (OB ci (fs.set k v))) s H1 locs1 → W p l e R s m args below meth c H1 locs1 cells slots Q (F0 m (pc + 3) ls rest)) : W p l e R s m args below meth c H locs cells slots Q (F0 m pc ls (v :: .ref a :: rest)) := by
  have hap := va_apart (own := own) hW hu ty0 hty hnm X.1.1 hc
  obtain ⟨r, h1, cell, q1, q2, q3, q4⟩ := X.2.1 a _ hM
  have hr : r = (C, T, N) := Option.some.inj (h1.symm.trans hc)
  subst hr
  obtain ⟨hS, hfc, kC, hkC, hkind⟩ := X.1.1.1 ci _ hc
  obtain ⟨cf, kf, fi, f, hi, hsl⟩ := hS k hk
  have hlay := hW _ (hu _ (u_in_lay hk))
  unfold u_lay at hlay
  rw [if_neg (by rw [hfin]; decide)] at hlay
  have hst := (u_facts hfc hkC (u_lays hW hu hk) hi).1
  have h6 := u_store hfc hkC hkind hlay hi hd hn hfit
  refine W.putK hx hb (f := f) ⟨hown, hW _ hl, ⟨_, _, _, hi⟩, hst⟩ (by rw [q2]; exact h6) q1 q3 (by rw [hsl]; exact k2_hasslot (q4 k hk)) rfl rfl hdg fun H' e1 e2 e3 => ?_
  rw [hsl] at e1 ⊢
  exact kk H' _ e2 (X.put hA ⟨_, hc, t_OB.to (V := updV (vp_V fs) k v) ⟨_, e1, q2, q3, t_set q4 hap hk v⟩ (fun j _ => vp_updV_set hlen v j)⟩ e2 e3)
theorem gm_obj (hx : p.tables.exec = Jvm.exec) (hb : c.code = cc) (hml : c.maxLocals = nL) (hW : ∀ w ∈ WB, w.before args s = true) (hown : s.vm.findClass own = some m.cls) (hl : Cond.methodLink own index objectInit ∈ WB) (hls : ls.size = nL) (hfr : 1 ≤ R.frames) (hlo : 12 ≤ R.locals) (hdg : decode cc pc = .ok (.invokespecial index, 3))
    (kk : W p l e R s m args below meth c H locs cells slots Q (F0 m (pc + 3) ls [])) : W p l e R s m args below meth c H locs cells slots Q (F0 m pc ls [.ref a]) :=
  W.objInit hx hb hown (hW _ hl) (hW _ wi_object) (hW _ wc_object) rfl (hls.trans hml.symm) rfl hdg hfr (by show 2 * 0 + 0 + 12 ≤ _; omega) kk
/-- the heap's size: no more than what has been paid for -/
theorem gm_hz (X : gx E M s H locs) (hs : s.heap.size = n0) {e9 : va_E} {b : Nat} (hM : M b = some e9) (hc : n0 + cells = b + 1) {g : JFrame} (kk : H.size = b + 1 → W p l e R s m args below meth c H locs cells slots Q g) : W p l e R s m args below meth c H locs cells slots Q g := by
  intro T hT Y
  have h1 := Y.heapSize
  have h2 : b < H.size := (X.2.1 b _ hM).lt
  exact kk (by rw [hT] at h1; omega) T hT Y
/-! contracts with the heap's size -/
def cz_ (l : Launch) (y : MethodName) (cc : ByteArray) (maxL : Nat) (rm : Room) (E : gm_E) (M : gm_M) (n0 : Nat) (av : List Value) (post : gm_M → Prop) : Prop := Met l y (.code y cc maxL none :: WB) rm (va_Pc av (fun U => gw E M U ∧ U.heap.size = n0)) (va_Qv post (fun M' t => gm_P E M' t.heap) (gm_A E)) rm.cells rm.slots (gm_A E)
theorem gz_blind (E : gm_E) (M : gm_M) (n0 : Nat) (av : List Value) : FrameBlind (va_Pc av (fun U => gw E M U ∧ U.heap.size = n0)) := fun a U g mk q => ⟨q.1, (gw_blind E M av a U g mk ⟨q.1, q.2.1⟩).2, q.2.2⟩
theorem gm_metZ {Qc : Array Value → State → Outcome → State → Prop} {av : List Value} {mc ms : Nat} (hy : plainName y.cls = true) (hle : (lg_sl av).length ≤ maxL)
    (body : ∀ (p : Program) (e : Env) (s : State) (m : MethodId) (below : List Frame) (meth : Method) (c : Code) (ls : Array Slot), p.tables.exec = Jvm.exec → c.code = cc → c.maxLocals = maxL → meth.sig.returnType = none → meth.locks = false → meth.name = y.name → s.vm.findClass y.cls = some m.cls → (∀ w ∈ WB, w.before av.toArray s = true) → gx E M s s.heap [] → s.heap.size = n0 → lv_has ls maxL (lv_args 0 av) →
      W p l e rm s m av.toArray below meth c s.heap [] 0 0 (MQ below Qc av.toArray s mc ms (gm_A E)) (F0 m 0 ls [])) : Met l y (.code y cc maxL none :: WB) rm (va_Pc av (fun U => gw E M U ∧ U.heap.size = n0)) Qc mc ms (gm_A E) := by
  refine Met.ofW (cc := cc) (maxL := maxL) (ret := none) hy rfl ?_
  intro p e s m args below meth c s₁ B hml hv
  obtain ⟨rfl, ⟨hst, hP, hB⟩, hz⟩ := hv
  have hts := atoms_spec (ws := .code y cc maxL none :: WB) B.pre
  have hl := lv_entry av (n := maxL) hle
  rw [lg_entry_eq]
  generalize (lg_sl av ++ List.replicate (maxL - (lg_sl av).length) Slot.unset).toArray = ls at hl ⊢
  exact body p e s m below meth c ls B.exec B.bytes hml B.returns B.notSynchronized (name_of_methodNamed B.named B.method).1 (findClass_of_methodNamed B.named) (fun w h => hts w (List.mem_cons_of_mem _ h)) ⟨hst, hP, va_S.rf, hB⟩ hz hl
def okI (R : Room) (own : String) (index : Nat) (y : MethodName) (bytes : ByteArray) (maxL : Nat) (rm : Room) (n : Nat) : Prop :=
  (Cond.methodLink own index y ∈ WB ∧ Cond.instanceMethod y ∈ WB ∧ Cond.initialized y.cls ∈ WB ∧ Cond.code y bytes maxL none ∈ WB ∧ y.name = "<init>") ∧ (y.cls ≠ "java/lang/invoke/MethodHandle" ∧ y.cls ≠ "java/lang/invoke/VarHandle" ∧ (parseMethodDescriptor y.desc).map (fun d => d.parameters.length) = some n) ∧ rm.frames + 1 ≤ R.frames ∧ 8 + (maxL + 11) + rm.locals ≤ R.locals
theorem gm_Iv (hx : p.tables.exec = Jvm.exec) (hb : c.code = cc) (hml : c.maxLocals = nL) (hown : s.vm.findClass own = some m.cls) (hW : ∀ w ∈ WB, w.before args s = true) (X : gx E M s H locs) (hz : H.size = n0) {post : gm_M → Prop} (hM : cz_ l y bytes maxL rm E M n0 (.ref a :: As) post) {n : Nat} (ok : okI R own index y bytes maxL rm n) (hn : As.length = n) (hl : ls.size = nL) (hst : st0 = As.reverse ++ .ref a :: rest) (hrm : (rest.map fun v => v.category).sum ≤ 8) (hdg : decode cc pc = .ok (.invokespecial index, 3)) (hf : cells + rm.cells ≤ R.cells ∧ slots + rm.slots ≤ R.slots)
    (kk : ∀ (M' : gm_M) (H1 : Heap) (locs1 : List Loc), post M' → gx E M' s H1 locs1 → W p l e R s m args below meth c H1 locs1 (cells + rm.cells) (slots + rm.slots) Q (F0 m (pc + 3) ls rest)) : W p l e R s m args below meth c H locs cells slots Q (F0 m pc ls st0) := by
  obtain ⟨⟨h1, h2, h3, h4, h5⟩, hd, hR⟩ := ok
  refine va_callv (va_runI ⟨hx, hb, hml, hown, hW⟩ hM ⟨callB_of n hW (wb_good (fun _ h => h) fun w hw => ?_) rfl rfl rfl (hW _ h3) (hW _ h1) hd hR, h5, hW _ h2⟩ ⟨gz_blind E M n0 _, fun U hU hw => ⟨rfl, X.gw hU hw, by rw [hU]; exact hz⟩⟩ rfl hn hl hst (lv_room hrm) hdg hf) X.2.2.1 (fun _ _ h => h) (fun _ h => h) (fun u t H1 locs1 ht hvm hp hB _ _ hS => kk u H1 locs1 hp ⟨X.1, by rw [← ht]; exact hB, hS, X.2.2.2⟩)
  rcases List.mem_cons.mp hw with rfl | h
  · exact h4
  · exact h
/-- .. from a nest mate, of a private constructor -/
def okN (R : Room) (own : String) (index : Nat) (host : String) (y : MethodName) (bytes : ByteArray) (maxL : Nat) (rm : Room) (n : Nat) : Prop :=
  (Cond.methodLinkNest own index y host ∈ NW ∧ Cond.instanceMethod y ∈ WB ∧ Cond.initialized y.cls ∈ WB ∧ Cond.code y bytes maxL none ∈ WB ∧ y.name = "<init>") ∧ (y.cls ≠ "java/lang/invoke/MethodHandle" ∧ y.cls ≠ "java/lang/invoke/VarHandle" ∧ (parseMethodDescriptor y.desc).map (fun d => d.parameters.length) = some n) ∧ rm.frames + 1 ≤ R.frames ∧ 8 + (maxL + 11) + rm.locals ≤ R.locals
theorem gm_INv {host : String} (hx : p.tables.exec = Jvm.exec) (hb : c.code = cc) (hml : c.maxLocals = nL) (hown : s.vm.findClass own = some m.cls) (hW : ∀ w ∈ WB, w.before args s = true) (X : gx E M s H locs) (hz : H.size = n0) {post : gm_M → Prop} (hM : cz_ l y bytes maxL rm E M n0 (.ref a :: As) post) {n : Nat} (ok : okN R own index host y bytes maxL rm n) (hn : As.length = n) (hl : ls.size = nL) (hst : st0 = As.reverse ++ .ref a :: rest) (hrm : (rest.map fun v => v.category).sum ≤ 8) (hdg : decode cc pc = .ok (.invokespecial index, 3)) (hf : cells + rm.cells ≤ R.cells ∧ slots + rm.slots ≤ R.slots)
    (kk : ∀ (M' : gm_M) (H1 : Heap) (locs1 : List Loc), post M' → gx E M' s H1 locs1 → W p l e R s m args below meth c H1 locs1 (cells + rm.cells) (slots + rm.slots) Q (F0 m (pc + 3) ls rest)) : W p l e R s m args below meth c H locs cells slots Q (F0 m pc ls st0) := by
  obtain ⟨⟨h1, h2, h3, h4, h5⟩, hd, hR⟩ := ok
  refine va_callv (va_runIN ⟨hx, hb, hml, hown, hW⟩ hM ⟨va_cnB n hW (wb_good (fun _ h => h) fun w hw => ?_) rfl rfl rfl (X.1.2.2.2.1 _ h1) (hW _ h3) hd hR, h5, hW _ h2⟩ ⟨gz_blind E M n0 _, fun U hU hw => ⟨rfl, X.gw hU hw, by rw [hU]; exact hz⟩⟩ rfl hn hl hst (lv_room hrm) hdg hf) X.2.2.1 (fun _ _ h => h) (fun _ h => h) (fun u t H1 locs1 ht hvm hp hB _ _ hS => kk u H1 locs1 hp ⟨X.1, by rw [← ht]; exact hB, hS, X.2.2.2⟩)
  rcases List.mem_cons.mp hw with rfl | h
  · exact h4
  · exact h
end NEW
def mU (M : gm_M) (n : Nat) (e : va_E) : Nat → gm_M
  | 0 => M
  | k + 1 => gm_up (mU M n e k) (n + 1 + k) e
theorem gm_up_c {M : gm_M} {a b : Nat} {x y : va_E} (h : a ≠ b) : gm_up (gm_up M a x) b y = gm_up (gm_up M b y) a x := by
  funext z
  simp only [gm_up]
  by_cases h1 : z = a
  · subst h1
    rw [if_neg h, if_pos rfl, if_pos rfl]
  · rw [if_neg h1, if_neg h1]
/-- a stretch of memory -/
def oW (B lo : Nat) (N : gm_M) (n : Nat) (g : Nat → va_E) : gm_M := fun x => if B + lo ≤ x ∧ x < B + n then some (g (x - B)) else N x
theorem ow_at {B lo : Nat} {N : gm_M} {n : Nat} {g : Nat → va_E} {k : Nat} {e : va_E} (hk : lo ≤ k ∧ k < n) (h : g k = e) : oW B lo N n g (B + k) = some e := by
  rw [oW, if_pos (by omega), Nat.add_sub_cancel_left, h]
theorem ow_up {B lo : Nat} {N : gm_M} {n : Nat} {g : Nat → va_E} {k : Nat} {e : va_E} (hk : lo ≤ k ∧ k < n) : gm_up (oW B lo N n g) (B + k) e = oW B lo N n (va_up g k e) := by
  funext x
  simp only [gm_up, oW]
  by_cases hx : x = B + k
  · subst hx
    rw [if_pos rfl, if_pos (by omega), Nat.add_sub_cancel_left, vu_s]
  · rw [if_neg hx]
    by_cases hr : B + lo ≤ x ∧ x < B + n
    · rw [if_pos hr, if_pos hr, vu_n (by omega)]
    · rw [if_neg hr, if_neg hr]
theorem ow_push {B lo : Nat} {N : gm_M} {n : Nat} {g : Nat → va_E} {e : va_E} (hk : lo ≤ n) : gm_up (oW B lo N n g) (B + n) e = oW B lo N (n + 1) (va_up g n e) := by
  funext x
  simp only [gm_up, oW]
  by_cases hx : x = B + n
  · subst hx
    rw [if_pos rfl, if_pos (by omega), Nat.add_sub_cancel_left, vu_s]
  · rw [if_neg hx]
    by_cases hr : B + lo ≤ x ∧ x < B + n
    · rw [if_pos hr, if_pos (by omega), vu_n (by omega)]
    · rw [if_neg hr, if_neg (by omega)]
theorem ow_0 {B lo : Nat} {N : gm_M} {g : Nat → va_E} : oW B lo N lo g = N := by
  funext x
  rw [oW, if_neg (by omega)]
theorem ow_mu {B lo : Nat} {N : gm_M} {n : Nat} {g : Nat → va_E} {e : va_E} {n1 : Nat} (hn : n1 = n + 1) (hk : lo ≤ n) : ∀ k, mU (oW B lo N n1 g) (B + n) e k = oW B lo N (n1 + k) (fun j => if n1 ≤ j ∧ j < n1 + k then e else g j)
  | 0 => by
    rw [mU]
    congr 1
    funext j
    rw [if_neg (by omega)]
  | k + 1 => by
    rw [mU, ow_mu hn hk k, show B + n + 1 + k = B + (n1 + k) by omega, ow_push (by omega), Nat.add_assoc]
    congr 1
    funext j
    by_cases hj : j = n1 + k
    · subst hj
      rw [vu_s, if_pos (by omega)]
    · rw [vu_n hj]
      by_cases h2 : n1 ≤ j ∧ j < n1 + k
      · rw [if_pos h2, if_pos (by omega)]
      · rw [if_neg h2, if_neg (by omega)]
