/-! fields, calls, ends, beginnings -/
section GM2
variable {p : Program} {l : Launch} {e : Env} {R : Room} {s : State} {m : MethodId} {args : Array Value} {below : List Frame} {meth : Method} {c : Code} {H : Heap} {locs : List Loc} {cells slots : Nat} {Q : State → Prop}
variable {cc : ByteArray} {pc : Nat} {ls : Array Slot} {rest : List Value} {E : gm_E} {M : gm_M} {a : Nat}
theorem gm_get (hx : p.tables.exec = Jvm.exec) (hb : c.code = cc) (hW : ∀ w ∈ WB, w.before args s = true) {own C : String} {T : u_T} {N ci index : Nat} (hown : s.vm.findClass own = some m.cls) (X : gx E M s H locs) (hu : ∀ w ∈ u_ws C T N, w ∈ WB) {fs : List Value} (hM : M a = some (OB ci fs)) (hc : gm_cl[ci]? = some (C, T, N)) (k : Nat) (hk : k < N) (hl : Cond.fieldLink own index (T k).1 (T k).2.1 (T k).2.2.1 ∈ WB) {v : Value} (hv : fs[k]? = some v) (hdg : decode cc pc = .ok (.getfield index, 3))
    (kk : W p l e R s m args below meth c H locs cells slots Q (F0 m (pc + 3) ls (v :: rest))) : W p l e R s m args below meth c H locs cells slots Q (F0 m pc ls (.ref a :: rest)) :=
  va_get hx hb hW hu hown X.1.1 (gm_1 X.2.1 hM) 0 rfl hc k hk (hW _ hl) (fun _ h => h) hv hdg kk
theorem gm_getN (hx : p.tables.exec = Jvm.exec) (hb : c.code = cc) (hW : ∀ w ∈ WB, w.before args s = true) {own C host : String} {T : u_T} {N ci index : Nat} (hown : s.vm.findClass own = some m.cls) (X : gx E M s H locs) (hu : ∀ w ∈ u_ws C T N, w ∈ WB) {fs : List Value} (hM : M a = some (OB ci fs)) (hc : gm_cl[ci]? = some (C, T, N)) (k : Nat) (hk : k < N) (hl : Cond.fieldLinkNest own index (T k).1 (T k).2.1 (T k).2.2.1 host ∈ NW) {v : Value} (hv : fs[k]? = some v) (hdg : decode cc pc = .ok (.getfield index, 3))
    (kk : W p l e R s m args below meth c H locs cells slots Q (F0 m (pc + 3) ls (v :: rest))) : W p l e R s m args below meth c H locs cells slots Q (F0 m pc ls (.ref a :: rest)) :=
  va_getN hx hb hW hu hown X.1.1 (gm_1 X.2.1 hM) 0 rfl hc k hk (va_Nw.use rfl (X.1.2.2.2.1 _ hl)) (fun _ h => h) hv hdg kk
/-- the static fields of PointBench, from itself and from a nest mate -/
theorem gm_gets (hx : p.tables.exec = Jvm.exec) (hb : c.code = cc) (hW : ∀ w ∈ WB, w.before args s = true) {own n : String} {index t : Nat} (hown : s.vm.findClass own = some m.cls) (X : gx E M s H locs) (hF : (n, t) ∈ E.2.2.2) (hl : Cond.fieldLink own index "PointBench" n "[J" ∈ WB) (hdg : decode cc pc = .ok (.getstatic index, 3))
    (kk : W p l e R s m args below meth c H locs cells slots Q (F0 m (pc + 3) ls (.ref t :: rest))) : W p l e R s m args below meth c H locs cells slots Q (F0 m pc ls rest) :=
  va_gets hx hb (X.1.2.2.1 _ hF) X.2.2.1 hown (hW _ hl) (fun _ h => h) hdg kk
theorem gm_getsN (hx : p.tables.exec = Jvm.exec) (hb : c.code = cc) (hW : ∀ w ∈ WB, w.before args s = true) {own n host : String} {index t : Nat} (hown : s.vm.findClass own = some m.cls) (X : gx E M s H locs) (hF : (n, t) ∈ E.2.2.2) (hl : Cond.fieldLinkNest own index "PointBench" n "[J" host ∈ NW) (hdg : decode cc pc = .ok (.getstatic index, 3))
    (kk : W p l e R s m args below meth c H locs cells slots Q (F0 m (pc + 3) ls (.ref t :: rest))) : W p l e R s m args below meth c H locs cells slots Q (F0 m pc ls rest) :=
  va_getsN hx hb (X.1.2.2.1 _ hF) X.2.2.1 hown (va_Nw.use rfl (X.1.2.2.2.1 _ hl)) (fun _ h => h) hdg kk
theorem gm_put (hx : p.tables.exec = Jvm.exec) (hb : c.code = cc) (hW : ∀ w ∈ WB, w.before args s = true) {own C : String} {T : u_T} {N ci index : Nat} (hown : s.vm.findClass own = some m.cls) (X : gx E M s H locs) (hu : ∀ w ∈ u_ws C T N, w ∈ WB) (ty0 : Nat → FieldType) (hty : ∀ k, k < N → parseFieldDescriptor (T k).2.2.1 = some (ty0 k)) (hnm : ∀ a, a < N → ∀ b, b < N → a ≠ b → (T a).2.1 ≠ (T b).2.1) {fs : List Value} (hM : M a = some (OB ci fs)) (hA : E.2.1 ≤ a) (hc : gm_cl[ci]? = some (C, T, N)) (k : Nat) (hk : k < N) (hl : Cond.fieldLink own index (T k).1 (T k).2.1 (T k).2.2.1 ∈ WB) (hfin : (T k).2.2.2 = false) {ty : FieldType} {v : Value} (hd : parseFieldDescriptor (T k).2.2.1 = some ty) (hn : narrow ty v = v) (hfit : fits ty v = true) (hlen : k < fs.length) (hdg : decode cc pc = .ok (.putfield index, 3))
    (kk : ∀ (H1 : Heap) (locs1 : List Loc), gx E (gm_up M a (OB ci (fs.set k v))) s H1 locs1 → W p l e R s m args below meth c H1 locs1 cells slots Q (F0 m (pc + 3) ls rest)) : W p l e R s m args below meth c H locs cells slots Q (F0 m pc ls (v :: .ref a :: rest)) := by
  have hap := va_apart (own := own) hW hu ty0 hty hnm X.1.1 hc
  obtain ⟨r, h1, cell, q1, q2, q3, q4⟩ := X.2.1 a _ hM
  have hr : r = (C, T, N) := Option.some.inj (h1.symm.trans hc)
  subst hr
  obtain ⟨hS, hfc, kC, hkC, hkind⟩ := X.1.1.1 ci _ hc
  obtain ⟨cf, kf, fi, f, hi, hsl⟩ := hS k hk
  have hlay := hW _ (hu _ (u_in_lay hk))
  unfold u_lay at hlay
  rw [if_neg (by rw [hfin]; decide)] at hlay
  have hst := (u_facts hfc hkC (u_lays hW hu hk) hi).1
  have h6 := u_store hfc hkC hkind hlay hi hd hn hfit
  refine W.putK hx hb (f := f) ⟨hown, hW _ hl, ⟨_, _, _, hi⟩, hst⟩ (by rw [q2]; exact h6) q1 q3 (by rw [hsl]; exact k2_hasslot (q4 k hk)) rfl rfl hdg fun H' e1 e2 e3 => ?_
  rw [hsl] at e1 ⊢
  exact kk H' _ (X.put hA ⟨_, hc, t_OB.to (V := updV (vp_V fs) k v) ⟨_, e1, q2, q3, t_set q4 hap hk v⟩ (fun j _ => vp_updV_set hlen v j)⟩ e2 e3)
/-! ends -/
theorem gm_vret {mc ms : Nat} (hx : p.tables.exec = Jvm.exec) (hb : c.code = cc) (hr : meth.sig.returnType = none) (hlk : meth.locks = false) {post : gm_M → Prop} (X : gx E M s H locs) (hp : post M) (hdg : decode cc pc = .ok (.return_, 1)) : W p l e R s m args below meth c H locs mc ms (MQ below (va_Qv post (fun M' t => gm_P E M' t.heap) (gm_A E)) args s mc ms (gm_A E)) (F0 m pc ls []) :=
  W.vret hx hb hr (fun t ht _ => ⟨⟨M, rfl, hp, by show gm_P E M t.heap; rw [ht]; exact X.2.1⟩, X.2.2.1.F ht⟩) X.2.2.1.2.2 hdg hlk
theorem gm_iret {mc ms : Nat} {v : Int32} (hx : p.tables.exec = Jvm.exec) (hb : c.code = cc) (hr : meth.sig.returnType = some .int) (hlk : meth.locks = false) {post : Int32 → gm_M → Prop} (X : gx E M s H locs) (hp : post v M) (hdg : decode cc pc = .ok (.ireturn, 1)) : W p l e R s m args below meth c H locs mc ms (MQ below (va_Qi post (fun M' t => gm_P E M' t.heap) (gm_A E)) args s mc ms (gm_A E)) (F0 m pc ls [.int v]) :=
  W.iret hx hb hr (fun t ht _ => ⟨⟨v, M, rfl, hp, by show gm_P E M t.heap; rw [ht]; exact X.2.1⟩, X.2.2.1.F ht⟩) X.2.2.1.2.2 hdg hlk
theorem gm_zret {mc ms : Nat} {v : Int32} (hx : p.tables.exec = Jvm.exec) (hb : c.code = cc) (hr : meth.sig.returnType = some .boolean) (hlk : meth.locks = false) {post : Int32 → gm_M → Prop} (X : gx E M s H locs) (hn : narrow .boolean (.int v) = .int v) (hp : post v M) (hdg : decode cc pc = .ok (.ireturn, 1)) : W p l e R s m args below meth c H locs mc ms (MQ below (va_Qi post (fun M' t => gm_P E M' t.heap) (gm_A E)) args s mc ms (gm_A E)) (F0 m pc ls [.int v]) :=
  W.zret hx hb hr hn (fun t ht _ => ⟨⟨v, M, rfl, hp, by show gm_P E M t.heap; rw [ht]; exact X.2.1⟩, X.2.2.1.F ht⟩) X.2.2.1.2.2 hdg hlk
theorem gm_lret {mc ms : Nat} {v : Int64} (hx : p.tables.exec = Jvm.exec) (hb : c.code = cc) (hr : meth.sig.returnType = some .long) (hlk : meth.locks = false) {post : Int64 → gm_M → Prop} (X : gx E M s H locs) (hp : post v M) (hdg : decode cc pc = .ok (.lreturn, 1)) : W p l e R s m args below meth c H locs mc ms (MQ below (va_Ql post (fun M' t => gm_P E M' t.heap) (gm_A E)) args s mc ms (gm_A E)) (F0 m pc ls [.long v]) :=
  W.lret hx hb hr (fun t ht _ => ⟨⟨v, M, rfl, hp, by show gm_P E M t.heap; rw [ht]; exact X.2.1⟩, X.2.2.1.F ht⟩) X.2.2.1.2.2 hdg hlk
end GM2
/-! contracts: void, int (boolean), long -/
def cv_ (l : Launch) (y : MethodName) (cc : ByteArray) (maxL : Nat) (ret : Option FieldType) (rm : Room) (E : gm_E) (M : gm_M) (av : List Value) (post : gm_M → Prop) : Prop := Met l y (.code y cc maxL ret :: WB) rm (va_Pc av (gw E M)) (va_Qv post (fun M' t => gm_P E M' t.heap) (gm_A E)) rm.cells rm.slots (gm_A E)
def ci_ (l : Launch) (y : MethodName) (cc : ByteArray) (maxL : Nat) (ret : Option FieldType) (rm : Room) (E : gm_E) (M : gm_M) (av : List Value) (post : Int32 → gm_M → Prop) : Prop := Met l y (.code y cc maxL ret :: WB) rm (va_Pc av (gw E M)) (va_Qi post (fun M' t => gm_P E M' t.heap) (gm_A E)) rm.cells rm.slots (gm_A E)
def cl_ (l : Launch) (y : MethodName) (cc : ByteArray) (maxL : Nat) (ret : Option FieldType) (rm : Room) (E : gm_E) (M : gm_M) (av : List Value) (post : Int64 → gm_M → Prop) : Prop := Met l y (.code y cc maxL ret :: WB) rm (va_Pc av (gw E M)) (va_Ql post (fun M' t => gm_P E M' t.heap) (gm_A E)) rm.cells rm.slots (gm_A E)
/-- a method's beginning -/
theorem gm_met {l : Launch} {y : MethodName} {cc : ByteArray} {maxL : Nat} {ret : Option FieldType} {rm : Room} {E : gm_E} {M : gm_M} {av : List Value} {Qc : Array Value → State → Outcome → State → Prop} {mc ms : Nat} (hy : plainName y.cls = true) (hle : (lg_sl av).length ≤ maxL)
    (body : ∀ (p : Program) (e : Env) (s : State) (m : MethodId) (below : List Frame) (meth : Method) (c : Code) (ls : Array Slot), p.tables.exec = Jvm.exec → c.code = cc → c.maxLocals = maxL → meth.sig.returnType = ret → meth.locks = false → meth.name = y.name → s.vm.findClass y.cls = some m.cls → (∀ w ∈ WB, w.before av.toArray s = true) → gx E M s s.heap [] → lv_has ls maxL (lv_args 0 av) →
      W p l e rm s m av.toArray below meth c s.heap [] 0 0 (MQ below Qc av.toArray s mc ms (gm_A E)) (F0 m 0 ls [])) : Met l y (.code y cc maxL ret :: WB) rm (va_Pc av (gw E M)) Qc mc ms (gm_A E) := by
  refine Met.ofW (cc := cc) (maxL := maxL) (ret := ret) hy rfl ?_
  intro p e s m args below meth c s₁ B hml hv
  obtain ⟨rfl, hst, hP, hB⟩ := hv
  have hts := atoms_spec (ws := .code y cc maxL ret :: WB) B.pre
  have hl := lv_entry av (n := maxL) hle
  rw [lg_entry_eq]
  generalize (lg_sl av ++ List.replicate (maxL - (lg_sl av).length) Slot.unset).toArray = ls at hl ⊢
  exact body p e s m below meth c ls B.exec B.bytes hml B.returns B.notSynchronized (name_of_methodNamed B.named B.method).1 (findClass_of_methodNamed B.named) (fun w h => hts w (List.mem_cons_of_mem _ h)) ⟨hst, hP, va_S.rf, hB⟩ hl
section GM3
variable {p : Program} {l : Launch} {e : Env} {R : Room} {s : State} {m : MethodId} {args : Array Value} {below : List Frame} {meth : Method} {c : Code} {H : Heap} {locs : List Loc} {cells slots : Nat} {Q : State → Prop}
variable {cc bytes : ByteArray} {pc nL maxL index : Nat} {ls : Array Slot} {rest st0 As : List Value} {E : gm_E} {M : gm_M} {own : String} {y : MethodName} {ret : Option FieldType} {rm : Room}
/-- what a static call wants of the words and of the room -/
def okS (R : Room) (own : String) (index : Nat) (y : MethodName) (bytes : ByteArray) (maxL : Nat) (ret : Option FieldType) (rm : Room) (n : Nat) : Prop :=
  (Cond.methodLink own index y ∈ WB ∧ Cond.static y ∈ WB ∧ Cond.initialized y.cls ∈ WB ∧ Cond.code y bytes maxL ret ∈ WB) ∧ (y.cls ≠ "java/lang/invoke/MethodHandle" ∧ y.cls ≠ "java/lang/invoke/VarHandle" ∧ (parseMethodDescriptor y.desc).map (fun d => d.parameters.length) = some n) ∧ rm.frames + 1 ≤ R.frames ∧ 8 + (maxL + 11) + rm.locals ≤ R.locals
theorem okS.cw {n : Nat} (h : okS R own index y bytes maxL ret rm n) (hW : ∀ w ∈ WB, w.before args s = true) : CallB R s args own index y bytes maxL ret (.code y bytes maxL ret :: WB) rm rm.cells rm.slots n ∧ (Cond.static y).before args s = true := by
  obtain ⟨⟨h1, h2, h3, h4⟩, hd, hR⟩ := h
  refine va_cwS (Ts := WB) n hW (wb_good (fun _ h => h) fun w hw => ?_) rfl rfl rfl hd hR
  rcases List.mem_append.mp hw with h | h
  · simp only [List.mem_cons, List.not_mem_nil, or_false] at h
    rcases h with rfl | rfl | rfl
    · exact h1
    · exact h2
    · exact h3
  · rcases List.mem_cons.mp h with rfl | h
    · exact h4
    · exact h
theorem gm_Sv (hx : p.tables.exec = Jvm.exec) (hb : c.code = cc) (hml : c.maxLocals = nL) (hown : s.vm.findClass own = some m.cls) (hW : ∀ w ∈ WB, w.before args s = true) (X : gx E M s H locs) {post : gm_M → Prop} (hM : cv_ l y bytes maxL ret rm E M As post) {n : Nat} (ok : okS R own index y bytes maxL ret rm n) (hn : As.length = n) (hl : ls.size = nL) (hst : st0 = As.reverse ++ rest) (hrm : (rest.map fun v => v.category).sum ≤ 8) (hdg : decode cc pc = .ok (.invokestatic index, 3)) (hf : cells + rm.cells ≤ R.cells ∧ slots + rm.slots ≤ R.slots)
    (kk : ∀ (M' : gm_M) (H1 : Heap) (locs1 : List Loc), post M' → gx E M' s H1 locs1 → W p l e R s m args below meth c H1 locs1 (cells + rm.cells) (slots + rm.slots) Q (F0 m (pc + 3) ls rest)) : W p l e R s m args below meth c H locs cells slots Q (F0 m pc ls st0) :=
  va_callv (va_runS ⟨hx, hb, hml, hown, hW⟩ hM (ok.cw hW) ⟨gw_blind E M As, fun U hU hw => ⟨rfl, X.gw hU hw⟩⟩ rfl hn hl hst (lv_room hrm) hdg hf) X.2.2.1 (fun _ _ h => h) (fun _ h => h) (fun u t H1 locs1 ht hvm hp hB _ _ hS => kk u H1 locs1 hp ⟨X.1, by rw [← ht]; exact hB, hS, X.2.2.2⟩)
theorem gm_Si (hx : p.tables.exec = Jvm.exec) (hb : c.code = cc) (hml : c.maxLocals = nL) (hown : s.vm.findClass own = some m.cls) (hW : ∀ w ∈ WB, w.before args s = true) (X : gx E M s H locs) {post : Int32 → gm_M → Prop} (hM : ci_ l y bytes maxL ret rm E M As post) {n : Nat} (ok : okS R own index y bytes maxL ret rm n) (hn : As.length = n) (hl : ls.size = nL) (hst : st0 = As.reverse ++ rest) (hrm : (rest.map fun v => v.category).sum ≤ 8) (hdg : decode cc pc = .ok (.invokestatic index, 3)) (hf : cells + rm.cells ≤ R.cells ∧ slots + rm.slots ≤ R.slots)
    (kk : ∀ (r : Int32) (M' : gm_M) (H1 : Heap) (locs1 : List Loc), post r M' → gx E M' s H1 locs1 → W p l e R s m args below meth c H1 locs1 (cells + rm.cells) (slots + rm.slots) Q (F0 m (pc + 3) ls (.int r :: rest))) : W p l e R s m args below meth c H locs cells slots Q (F0 m pc ls st0) :=
  va_calli (va_runS ⟨hx, hb, hml, hown, hW⟩ hM (ok.cw hW) ⟨gw_blind E M As, fun U hU hw => ⟨rfl, X.gw hU hw⟩⟩ rfl hn hl hst (lv_room hrm) hdg hf) X.2.2.1 (fun _ _ h => h) (fun _ h => h) (fun r u t H1 locs1 ht hvm hp hB _ _ hS => kk r u H1 locs1 hp ⟨X.1, by rw [← ht]; exact hB, hS, X.2.2.2⟩)
theorem gm_Sl (hx : p.tables.exec = Jvm.exec) (hb : c.code = cc) (hml : c.maxLocals = nL) (hown : s.vm.findClass own = some m.cls) (hW : ∀ w ∈ WB, w.before args s = true) (X : gx E M s H locs) {post : Int64 → gm_M → Prop} (hM : cl_ l y bytes maxL ret rm E M As post) {n : Nat} (ok : okS R own index y bytes maxL ret rm n) (hn : As.length = n) (hl : ls.size = nL) (hst : st0 = As.reverse ++ rest) (hrm : (rest.map fun v => v.category).sum ≤ 8) (hdg : decode cc pc = .ok (.invokestatic index, 3)) (hf : cells + rm.cells ≤ R.cells ∧ slots + rm.slots ≤ R.slots)
    (kk : ∀ (r : Int64) (M' : gm_M) (H1 : Heap) (locs1 : List Loc), post r M' → gx E M' s H1 locs1 → W p l e R s m args below meth c H1 locs1 (cells + rm.cells) (slots + rm.slots) Q (F0 m (pc + 3) ls (.long r :: rest))) : W p l e R s m args below meth c H locs cells slots Q (F0 m pc ls st0) :=
  va_calll (va_runS ⟨hx, hb, hml, hown, hW⟩ hM (ok.cw hW) ⟨gw_blind E M As, fun U hU hw => ⟨rfl, X.gw hU hw⟩⟩ rfl hn hl hst (lv_room hrm) hdg hf) X.2.2.1 (fun _ _ h => h) (fun _ h => h) (fun r u t H1 locs1 ht hvm hp hB _ _ hS => kk r u H1 locs1 hp ⟨X.1, by rw [← ht]; exact hB, hS, X.2.2.2⟩)
/-- a call of an object's method -/
def okV (R : Room) (own : String) (index : Nat) (y : MethodName) (bytes : ByteArray) (maxL : Nat) (ret : Option FieldType) (rm : Room) (n ci : Nat) : Prop :=
  (Cond.methodLink own index y ∈ WB ∧ Cond.instanceMethod y ∈ WB ∧ Cond.selects y.cls y y ∈ WB ∧ Cond.initialized y.cls ∈ WB ∧ Cond.code y bytes maxL ret ∈ WB) ∧ (y.cls ≠ "java/lang/invoke/MethodHandle" ∧ y.cls ≠ "java/lang/invoke/VarHandle" ∧ (parseMethodDescriptor y.desc).map (fun d => d.parameters.length) = some n) ∧ (rm.frames + 1 ≤ R.frames ∧ 8 + (maxL + 11) + rm.locals ≤ R.locals) ∧ ∃ q, gm_cl[ci]? = some q ∧ q.1 = y.cls
theorem okV.cw {n ci : Nat} (h : okV R own index y bytes maxL ret rm n ci) (hW : ∀ w ∈ WB, w.before args s = true) : CallW R s args own y.cls index y bytes maxL ret (.code y bytes maxL ret :: WB) rm rm.cells rm.slots n := by
  obtain ⟨⟨h1, h2, h3, h4, h5⟩, hd, hR, -⟩ := h
  refine cwV (Ts := WB) n hW (wb_good (fun _ h => h) fun w hw => ?_) rfl rfl rfl ⟨rfl, hd⟩ hR
  rcases List.mem_append.mp hw with h | h
  · simp only [List.mem_cons, List.not_mem_nil, or_false] at h
    rcases h with rfl | rfl | rfl | rfl
    · exact h1
    · exact h2
    · exact h3
    · exact h4
  · rcases List.mem_cons.mp h with rfl | h
    · exact h5
    · exact h
theorem gm_recv {ci a : Nat} {fs : List Value} {n : Nat} (X : gx E M s H locs) (hO : M a = some (OB ci fs)) (ok : okV R own index y bytes maxL ret rm n ci) : ∃ cell : Cell, H[a]? = some cell ∧ cell.vm.isStatics = false ∧ s.vm.findClass y.cls = some cell.cls := by
  obtain ⟨-, -, -, q, hq, he⟩ := ok
  have h := va_recv X.1.1 (gm_1 X.2.1 hO) hq (q0 := 0) rfl
  rw [he] at h
  exact h
theorem gm_Vv {ci a : Nat} {fs : List Value} (hx : p.tables.exec = Jvm.exec) (hb : c.code = cc) (hml : c.maxLocals = nL) (hown : s.vm.findClass own = some m.cls) (hW : ∀ w ∈ WB, w.before args s = true) (X : gx E M s H locs) (hO : M a = some (OB ci fs)) {post : gm_M → Prop} (hM : cv_ l y bytes maxL ret rm E M (.ref a :: As) post) {n : Nat} (ok : okV R own index y bytes maxL ret rm n ci) (hn : As.length = n) (hl : ls.size = nL) (hst : st0 = As.reverse ++ .ref a :: rest) (hrm : (rest.map fun v => v.category).sum ≤ 8) (hdg : decode cc pc = .ok (.invokevirtual index, 3)) (hf : cells + rm.cells ≤ R.cells ∧ slots + rm.slots ≤ R.slots)
    (kk : ∀ (M' : gm_M) (H1 : Heap) (locs1 : List Loc), post M' → gx E M' s H1 locs1 → W p l e R s m args below meth c H1 locs1 (cells + rm.cells) (slots + rm.slots) Q (F0 m (pc + 3) ls rest)) : W p l e R s m args below meth c H locs cells slots Q (F0 m pc ls st0) :=
  va_callv (va_runV ⟨hx, hb, hml, hown, hW⟩ hM (ok.cw hW) ⟨gw_blind E M _, gm_recv X hO ok, fun U hU hw => ⟨rfl, X.gw hU hw⟩⟩ rfl hn hl hst (lv_room hrm) hdg hf) X.2.2.1 (fun _ _ h => h) (fun _ h => h) (fun u t H1 locs1 ht hvm hp hB _ _ hS => kk u H1 locs1 hp ⟨X.1, by rw [← ht]; exact hB, hS, X.2.2.2⟩)
theorem gm_Vi {ci a : Nat} {fs : List Value} (hx : p.tables.exec = Jvm.exec) (hb : c.code = cc) (hml : c.maxLocals = nL) (hown : s.vm.findClass own = some m.cls) (hW : ∀ w ∈ WB, w.before args s = true) (X : gx E M s H locs) (hO : M a = some (OB ci fs)) {post : Int32 → gm_M → Prop} (hM : ci_ l y bytes maxL ret rm E M (.ref a :: As) post) {n : Nat} (ok : okV R own index y bytes maxL ret rm n ci) (hn : As.length = n) (hl : ls.size = nL) (hst : st0 = As.reverse ++ .ref a :: rest) (hrm : (rest.map fun v => v.category).sum ≤ 8) (hdg : decode cc pc = .ok (.invokevirtual index, 3)) (hf : cells + rm.cells ≤ R.cells ∧ slots + rm.slots ≤ R.slots)
    (kk : ∀ (r : Int32) (M' : gm_M) (H1 : Heap) (locs1 : List Loc), post r M' → gx E M' s H1 locs1 → W p l e R s m args below meth c H1 locs1 (cells + rm.cells) (slots + rm.slots) Q (F0 m (pc + 3) ls (.int r :: rest))) : W p l e R s m args below meth c H locs cells slots Q (F0 m pc ls st0) :=
  va_calli (va_runV ⟨hx, hb, hml, hown, hW⟩ hM (ok.cw hW) ⟨gw_blind E M _, gm_recv X hO ok, fun U hU hw => ⟨rfl, X.gw hU hw⟩⟩ rfl hn hl hst (lv_room hrm) hdg hf) X.2.2.1 (fun _ _ h => h) (fun _ h => h) (fun r u t H1 locs1 ht hvm hp hB _ _ hS => kk r u H1 locs1 hp ⟨X.1, by rw [← ht]; exact hB, hS, X.2.2.2⟩)
end GM3
