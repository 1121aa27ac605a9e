/-! THROWING: contracts of calls that throw, their rows; the checks -/
abbrev xE : String := "java/lang/IllegalArgumentException"
abbrev xN : List String := ["java/lang/RuntimeException", "java/lang/Exception"]
theorem winit_xE : Cond.initialized xE ∈ WB := wb_i ve_1 13 rfl rfl
theorem xat0 : ∀ w ∈ vx_atS R_Ben 214 xE xN, w ∈ lw_tbl := by decide +kernel
theorem nw_ot : ∀ w ∈ NW, w.onTables = true := by decide +kernel
theorem xatg : ∀ w ∈ vx_atS R_Ben 214 xE xN, goodWord w = true ∨ w ∈ NW := by decide +kernel
theorem xat {args : Array Value} {s : State} (hW : ∀ w ∈ WB, w.before args s = true) (hN : ∀ w ∈ NW, va_Nw w s) : ∀ w ∈ vx_atS R_Ben 214 xE xN, w.before args s = true := fun w h => (xatg w h).elim (fun g => hW w (List.mem_filter.mpr ⟨xat0 w h, g⟩)) (fun g => va_Nw.use (nw_ot w g) (hN _ g))
theorem xgood : ∀ w ∈ Cond.classLink R_Ben 210 xE :: Cond.initialized xE :: vx_atS R_Ben 214 xE xN, vx_ot w = true := by decide +kernel
theorem i_lt {n i : Nat} (hi : i < n) (hn : n < 2 ^ 31) : nI i < Int32.ofNat n := Int32.not_le.mp (i_nge (n := n) (i := i) hi hn)
/-- what holds where an IllegalArgumentException has left -/
def xC (E : gm_E) (M : gm_M) : String → State → State → Prop := vx_X (fun M' : gm_M => M' = M) (fun n M' t => n = xE ∧ gm_P E M' t.heap) (gm_A E)
/-- a call that throws -/
def ct_ (l : Launch) (y : MethodName) (cc : ByteArray) (maxL : Nat) (ret : Option FieldType) (rm : Room) (E : gm_E) (M : gm_M) (av : List Value) : Prop := vx_Met l y (.code y cc maxL ret :: WB) rm (va_Pc av (gw E M)) (fun _ _ _ _ => False) (xC E M) rm.cells rm.slots (gm_A E)
/-- a method with an exception table, that returns an int -/
def ch_ (l : Launch) (y : MethodName) (cc : ByteArray) (maxL : Nat) (hh : List (Nat × Nat × Nat × Nat)) (rm : Room) (E : gm_E) (M : gm_M) (av : List Value) (post : Int32 → gm_M → Prop) : Prop := Met l y (.codeWith y cc maxL (some .int) hh :: WB) rm (va_Pc av (gw E M)) (va_Qi post (fun M' t => gm_P E M' t.heap) (gm_A E)) rm.cells rm.slots (gm_A E)
section THR
variable {p : Program} {l : Launch} {e : Env} {R : Room} {s : State} {m : MethodId} {args : Array Value} {below : List Frame} {meth : Method} {c : Code} {H : Heap} {locs : List Loc} {cells slots mc ms : Nat} {Q : State → Prop}
variable {cc bytes : ByteArray} {pc nL maxL index : Nat} {ls : Array Slot} {rest st0 As av : List Value} {E : gm_E} {M : gm_M} {own : String} {y : MethodName} {ret : Option FieldType} {rm : Room} {a : Nat} {hh : List (Nat × Nat × Nat × Nat)}
theorem gm_wid {g : JFrame} {k n : Nat} (h1 : cells ≤ k) (h2 : slots ≤ n) (kk : W p l e R s m args below meth c H locs k n Q g) : W p l e R s m args below meth c H locs cells slots Q g := fun T hT X => kk T hT (stand_widen X h1 h2)
theorem gm_St (hx : p.tables.exec = Jvm.exec) (hb : c.code = cc) (hml : c.maxLocals = nL) (hown : s.vm.findClass own = some m.cls) (hW : ∀ w ∈ WB, w.before args s = true) (X : gx E M s H locs) (hM : ct_ l y bytes maxL ret rm E M As) {n : Nat} (ok : okS R own index y bytes maxL ret rm n) (hn : As.length = n) (hl : ls.size = nL) (hst : st0 = As.reverse ++ rest) (hrm : (rest.map fun v => v.category).sum ≤ 8) (hdg : decode cc pc = .ok (.invokestatic index, 3)) (hf : cells + rm.cells ≤ R.cells ∧ slots + rm.slots ≤ R.slots)
    (kx : ∀ (q9 : Addr) (ce : Cell) (H1 : Heap) (locs1 : List Loc), gx E M s H1 locs1 → H1[q9]? = some ce → ce.vm = .none → s.vm.findClass xE = some ce.cls → vx_W p l e R s m args below meth c H1 locs1 (cells + rm.cells) (slots + rm.slots) Q (F0 m pc ls rest) q9) : W p l e R s m args below meth c H locs cells slots Q (F0 m pc ls st0) := by
  intro T hT Y
  rcases vx_runS (g := F0 m pc ls st0) (rest := rest) ⟨hx, hb, hml, hown, hW⟩ hM (ok.cw hW) ⟨gw_blind E M As, fun U hU hw => ⟨rfl, X.gw hU hw⟩⟩ rfl hn hl hst (lv_room hrm) hdg hf T hT Y with ⟨v, st₀, t, T', L, h0, X', hL, e1, e2, hF, st⟩ | ⟨q, st₀, t, T', L, En, ce, h0, X', hL, e1, e2, ⟨u, hu, ⟨hE, hP⟩, hF⟩, hce, hcv, hcl, st⟩
  · exact hF.elim
  · subst hu
    subst hE
    obtain ⟨k1, k2, k3⟩ := vx_keep h0 e1 X.2.2.1 (fun _ _ h => h) (fun _ h => h) hL hF
    obtain ⟨t2, a1, b1⟩ := kx q ce T'.heap (locs ++ L) ⟨X.1, by rw [e1]; exact hP, k3, X.2.2.2⟩ (by rw [e1]; exact hce) hcv hcl T' rfl X'
    exact ⟨t2, st.trans a1, b1⟩
theorem gm_Vt {ci : Nat} {fs : List Value} (hx : p.tables.exec = Jvm.exec) (hb : c.code = cc) (hml : c.maxLocals = nL) (hown : s.vm.findClass own = some m.cls) (hW : ∀ w ∈ WB, w.before args s = true) (X : gx E M s H locs) (hO : M a = some (OB ci fs)) (hM : ct_ l y bytes maxL ret rm E M (.ref a :: As)) {n : Nat} (ok : okV R own index y bytes maxL ret rm n ci) (hn : As.length = n) (hl : ls.size = nL) (hst : st0 = As.reverse ++ .ref a :: rest) (hrm : (rest.map fun v => v.category).sum ≤ 8) (hdg : decode cc pc = .ok (.invokevirtual index, 3)) (hf : cells + rm.cells ≤ R.cells ∧ slots + rm.slots ≤ R.slots)
    (kx : ∀ (q9 : Addr) (ce : Cell) (H1 : Heap) (locs1 : List Loc), gx E M s H1 locs1 → H1[q9]? = some ce → ce.vm = .none → s.vm.findClass xE = some ce.cls → vx_W p l e R s m args below meth c H1 locs1 (cells + rm.cells) (slots + rm.slots) Q (F0 m pc ls rest) q9) : W p l e R s m args below meth c H locs cells slots Q (F0 m pc ls st0) := by
  intro T hT Y
  rcases vx_runV (g := F0 m pc ls st0) (rest := rest) ⟨hx, hb, hml, hown, hW⟩ hM (ok.cw hW) ⟨gw_blind E M _, gm_recv X hO ok, fun U hU hw => ⟨rfl, X.gw hU hw⟩⟩ rfl hn hl hst (lv_room hrm) hdg hf T hT Y with ⟨v, st₀, t, T', L, h0, X', hL, e1, e2, hF, st⟩ | ⟨q, st₀, t, T', L, En, ce, h0, X', hL, e1, e2, ⟨u, hu, ⟨hE, hP⟩, hF⟩, hce, hcv, hcl, st⟩
  · exact hF.elim
  · subst hu
    subst hE
    obtain ⟨k1, k2, k3⟩ := vx_keep h0 e1 X.2.2.1 (fun _ _ h => h) (fun _ h => h) hL hF
    obtain ⟨t2, a1, b1⟩ := kx q ce T'.heap (locs ++ L) ⟨X.1, by rw [e1]; exact hP, k3, X.2.2.2⟩ (by rw [e1]; exact hce) hcv hcl T' rfl X'
    exact ⟨t2, st.trans a1, b1⟩
theorem gm_metT (hy : plainName y.cls = true) (hle : (lg_sl av).length ≤ maxL)
    (body : ∀ (p : Program) (e : Env) (s : State) (m : MethodId) (below : List Frame) (meth : Method) (c : Code) (ls : Array Slot), p.tables.exec = Jvm.exec → c.code = cc → c.maxLocals = maxL → meth.locks = false → s.vm.findClass y.cls = some m.cls → (∀ w ∈ WB, w.before av.toArray s = true) → (∀ x ∈ c.exceptionTable.toList, False) → gx E M s s.heap [] → lv_has ls maxL (lv_args 0 av) →
      W p l e rm s m av.toArray below meth c s.heap [] 0 0 (vx_MQ below (fun _ _ _ _ => False) (xC E M) av.toArray s rm.cells rm.slots (gm_A E)) (F0 m 0 ls [])) : ct_ l y cc maxL ret rm E M av := by
  refine vx_ofW (cc := cc) (maxL := maxL) (ret := ret) hy rfl ?_
  intro p e s m args below meth c s₁ B hml ht hv
  obtain ⟨rfl, hst, hP, hB⟩ := hv
  have hts := atoms_spec (ws := .code y cc maxL ret :: WB) B.pre
  have hl := lv_entry av (n := maxL) hle
  rw [lg_entry_eq]
  generalize (lg_sl av ++ List.replicate (maxL - (lg_sl av).length) Slot.unset).toArray = ls at hl ⊢
  exact body p e s m below meth c ls B.exec B.bytes hml B.notSynchronized (findClass_of_methodNamed B.named) (fun w h => hts w (List.mem_cons_of_mem _ h)) ht ⟨hst, hP, va_S.rf, hB⟩ hl
/-- not caught here -/
theorem gm_out {Qc : Array Value → State → Outcome → State → Prop} {q : Addr} {ce : Cell} (ht : ∀ x ∈ c.exceptionTable.toList, False) (hlk : meth.locks = false) (X : gx E M s H locs) (hcell : H[q]? = some ce) (hv : ce.vm = .none) (hcl : s.vm.findClass xE = some ce.cls) (hc : cells ≤ mc ∧ slots ≤ ms) : vx_W p l e R s m args below meth c H locs cells slots (vx_MQ below Qc (xC E M) args s mc ms (gm_A E)) (F0 m pc ls rest) q :=
  vx_out (E := xE) (fun x hx => (ht x hx).elim) hlk hcell hv hcl (fun t h1 _ => ⟨M, rfl, ⟨rfl, by rw [h1]; exact X.2.1⟩, X.2.2.1.F h1⟩) X.2.2.1.2.2 hc.1 hc.2
theorem gm_thr {Qc : Array Value → State → Outcome → State → Prop} {is : Nat} {text : String} (hx : p.tables.exec = Jvm.exec) (hb : c.code = cc) (hml : c.maxLocals = nL) (hst : l.stackTraces = false) (hown : s.vm.findClass R_Ben = some m.cls) (hW : ∀ w ∈ WB, w.before args s = true) (X : gx E M s H locs) (hm : (is, text) ∈ gTX) (ht : ∀ x ∈ c.exceptionTable.toList, False) (hlk : meth.locks = false) (hl : ls.size = nL)
    (d0 : decode cc pc = .ok (.new 210, 3)) (d3 : decode cc (pc + 3) = .ok (.dup, 1)) (d4 : decode cc (pc + 4) = .ok (.ldc is, 2)) (d6 : decode cc (pc + 6) = .ok (.invokespecial 214, 3)) (d9 : decode cc (pc + 9) = .ok (.athrow, 1)) (hR : 5 < R.frames ∧ 82 ≤ R.locals ∧ cells + 1 ≤ R.cells ∧ slots + 6 ≤ R.slots) (hc : cells + 1 ≤ mc ∧ slots + 6 ≤ ms) : W p l e R s m args below meth c H locs cells slots (vx_MQ below Qc (xC E M) args s mc ms (gm_A E)) (F0 m pc ls []) := by
  obtain ⟨sa, hstr⟩ := X.1.2.2.2.2.2.1 _ hm
  exact vx_throwS (own := R_Ben) (cls := xE) (text := text) (names := xN) (ik := 210) (is := is) (ic := 214) (A := gm_A E) hx hb hst hown (by decide +kernel) (by decide +kernel) (hW _ wcl_Ben_210) (hW _ winit_xE) hstr (xat hW X.1.2.2.2.1) xgood X.1.2.2.2.2.1.1 X.1.2.2.2.2.1.2 X.2.2.1 (hl.trans hml.symm) d0 d3 d4 d6 d9 (fun x hx => (ht x hx).elim) hR.1 hR.2.1 hR.2.2.1 hR.2.2.2 hlk
    (fun t hv hz hk => ⟨M, rfl, ⟨rfl, fun x e' h => (X.2.1 x e' h).kept (hk x (X.2.1 x e' h).lt)⟩, Nat.le_trans X.2.2.1.1 hz, fun q h1 h2 => (hk q (Nat.lt_of_lt_of_le h1 X.2.2.1.1)).trans (X.2.2.1.2.1 q h1 h2)⟩) X.2.2.1.2.2 hc.1 hc.2
/-- a method with an exception table -/
theorem gm_metH {Qc : Array Value → State → Outcome → State → Prop} (hy : plainName y.cls = true) (hle : (lg_sl av).length ≤ maxL)
    (body : ∀ (p : Program) (e : Env) (s : State) (m : MethodId) (below : List Frame) (meth : Method) (c : Code) (ls : Array Slot), p.tables.exec = Jvm.exec → c.code = cc → c.maxLocals = maxL → meth.sig.returnType = ret → meth.locks = false → s.vm.findClass y.cls = some m.cls → (∀ w ∈ WB, w.before av.toArray s = true) → c.exceptionTable.toList = tableOf hh → gx E M s s.heap [] → lv_has ls maxL (lv_args 0 av) →
      W p l e rm s m av.toArray below meth c s.heap [] 0 0 (MQ below Qc av.toArray s mc ms (gm_A E)) (F0 m 0 ls [])) : Met l y (.codeWith y cc maxL ret hh :: WB) rm (va_Pc av (gw E M)) Qc mc ms (gm_A E) := by
  refine MetFree.of_bodyS (code := cc) (maxLocals := maxL) (ret := ret) hy ?_ ?_
  · intro args s m h hn
    obtain ⟨m9, meth, c, hn9, h1, h2, h3, h4, -, h5, h6, -⟩ := Cond.codeWith_spec (atoms_spec (ws := .codeWith y cc maxL ret hh :: WB) h _ List.mem_cons_self)
    cases hn.symm.trans hn9
    exact ⟨meth, c, h1, h2, h3, h4, h5, h6⟩
  · intro p e s m args below meth c s₁ B hml hP _
    have hh0 : s₁.heap = s.heap := by rw [B.state]; rfl
    obtain ⟨rfl, hst, hP, hB⟩ := hP
    have hts := atoms_spec (ws := .codeWith y cc maxL ret hh :: WB) B.pre
    have htab := vx_table (x := y) B (hts _ List.mem_cons_self)
    have hl := lv_entry av (n := maxL) hle
    have K : W p l e rm s m av.toArray below meth c s.heap [] 0 0 (MQ below Qc av.toArray s mc ms (gm_A E)) (entryFrame m av.toArray maxL) := by
      rw [lg_entry_eq]
      generalize (lg_sl av ++ List.replicate (maxL - (lg_sl av).length) Slot.unset).toArray = ls at hl ⊢
      exact body p e s m below meth c ls B.exec B.bytes hml B.returns B.notSynchronized (findClass_of_methodNamed B.named) (fun w h => hts w (List.mem_cons_of_mem _ h)) htab ⟨hst, hP, va_S.rf, hB⟩ hl
    obtain ⟨t, a1, o, b1, b2, b3⟩ := K s₁ hh0 (Stand.of_body B)
    exact ⟨t, o, a1, b1, b2, ⟨b3.1, b3.2⟩⟩
/-- a static call of such a method -/
def okH (R : Room) (own : String) (index : Nat) (y : MethodName) (bytes : ByteArray) (maxL : Nat) (hh : List (Nat × Nat × Nat × Nat)) (rm : Room) (n : Nat) : Prop :=
  (Cond.methodLink own index y ∈ WB ∧ Cond.static y ∈ WB ∧ Cond.initialized y.cls ∈ WB ∧ Cond.codeWith y bytes maxL (some .int) hh ∈ WB) ∧ (y.cls ≠ "java/lang/invoke/MethodHandle" ∧ y.cls ≠ "java/lang/invoke/VarHandle" ∧ (parseMethodDescriptor y.desc).map (fun d => d.parameters.length) = some n) ∧ rm.frames + 1 ≤ R.frames ∧ 8 + (maxL + 11) + rm.locals ≤ R.locals
theorem gm_SHi (hx : p.tables.exec = Jvm.exec) (hb : c.code = cc) (hml : c.maxLocals = nL) (hown : s.vm.findClass own = some m.cls) (hW : ∀ w ∈ WB, w.before args s = true) (X : gx E M s H locs) {post : Int32 → gm_M → Prop} (hM : ch_ l y bytes maxL hh rm E M As post) {n : Nat} (ok : okH R own index y bytes maxL hh rm n) (hn : As.length = n) (hl : ls.size = nL) (hst : st0 = As.reverse ++ rest) (hrm : (rest.map fun v => v.category).sum ≤ 8) (hdg : decode cc pc = .ok (.invokestatic index, 3)) (hf : cells + rm.cells ≤ R.cells ∧ slots + rm.slots ≤ R.slots)
    (kk : ∀ (r : Int32) (M' : gm_M) (H1 : Heap) (locs1 : List Loc), post r M' → gx E M' s H1 locs1 → W p l e R s m args below meth c H1 locs1 (cells + rm.cells) (slots + rm.slots) Q (F0 m (pc + 3) ls (.int r :: rest))) : W p l e R s m args below meth c H locs cells slots Q (F0 m pc ls st0) := by
  obtain ⟨⟨h1, h2, h3, h4⟩, hd, hR⟩ := ok
  refine va_calli (vx_runSW ⟨hx, hb, hml, hown, hW⟩ hM (vx_cwSW (Ts := WB) n hW (wb_good (fun _ h => h) fun w hw => ?_) rfl rfl rfl hd hR) ⟨gw_blind E M As, fun U hU hw => ⟨rfl, X.gw hU hw⟩⟩ rfl hn hl hst (lv_room hrm) hdg hf) X.2.2.1 (fun _ _ h => h) (fun _ h => h) (fun r u t H1 locs1 ht hvm hp hB _ _ hS => kk r u H1 locs1 hp ⟨X.1, by rw [← ht]; exact hB, hS, X.2.2.2⟩)
  rcases List.mem_append.mp hw with h | h
  · simp only [List.mem_cons, List.not_mem_nil, or_false] at h
    rcases h with rfl | rfl | rfl
    · exact h1
    · exact h2
    · exact h3
  · rcases List.mem_cons.mp h with rfl | h
    · exact h4
    · exact h
end THR
theorem n_Ben_needNumber (l : Launch) (E : gm_E) (M : gm_M) {x : Int32} (h : inR x 8) : cv_ l y_Ben_needNumber b_Ben_needNumber 1 none { frames := 0, cells := 0, slots := 0, locals := 0 } E M [.int x] (fun M' => M' = M) := by
  obtain ⟨k, hk, rfl⟩ := h
  refine gm_met (by decide) (Nat.le_of_ble_eq_true rfl) (fun p e s m below meth c ls hx hb hml hr hlk hnm hown hW X hl => ?_)
  have hl : lv_has ls 1 [(0, .int (nI k))] := hl
  refine lv_iload_n hx hb d_Ben_needNumber_0 rfl (lv_at hl 0 rfl) ?_
  refine lv_if_lt (tgt := 10) hx hb d_Ben_needNumber_1 (by decide) (fun c9 => absurd c9 (nI_pos (by omega))) (fun _ => ?_)
  refine lv_iload_n hx hb d_Ben_needNumber_4 rfl (lv_at hl 0 rfl) ?_
  refine lv_bipush (v := 8) hx hb d_Ben_needNumber_5 (by decide) ?_
  refine lv_icmp_lt (tgt := 20) hx hb d_Ben_needNumber_7 (by decide) (fun _ => ?_) (fun c9 => absurd (i_lt (n := 8) hk (by decide)) c9)
  exact gm_vret hx hb hr hlk X rfl d_Ben_needNumber_20
theorem t_Ben_needNumber (l : Launch) (hst : l.stackTraces = false) (E : gm_E) (M : gm_M) {x : Int32} (h : ¬ inR x 8) : ct_ l y_Ben_needNumber b_Ben_needNumber 1 none { frames := 6, cells := 1, slots := 6, locals := 100 } E M [.int x] := by
  refine gm_metT (by decide) (Nat.le_of_ble_eq_true rfl) (fun p e s m below meth c ls hx hb hml hlk hown hW ht X hl => ?_)
  have hl : lv_has ls 1 [(0, .int x)] := hl
  refine lv_iload_n hx hb d_Ben_needNumber_0 rfl (lv_at hl 0 rfl) ?_
  refine lv_if_lt (tgt := 10) hx hb d_Ben_needNumber_1 (by decide) (fun _ => ?_) (fun c1 => ?_)
  · exact gm_thr hx hb hml hst hown hW X (is := 212) (text := "no such NUMBER") (by decide) ht hlk hl.1 d_Ben_needNumber_10 d_Ben_needNumber_13 d_Ben_needNumber_14 d_Ben_needNumber_16 d_Ben_needNumber_19 ⟨by decide, by decide, by decide, by decide⟩ ⟨by decide, by decide⟩
  · refine lv_iload_n hx hb d_Ben_needNumber_4 rfl (lv_at hl 0 rfl) ?_
    refine lv_bipush (v := 8) hx hb d_Ben_needNumber_5 (by decide) ?_
    refine lv_icmp_lt (tgt := 20) hx hb d_Ben_needNumber_7 (by decide) (fun c2 => ?_) (fun _ => ?_)
    · exact absurd (inR_of (by decide) c1 (by have h2 := Int32.lt_iff_toInt_lt.mp c2; rw [show (8 : Int32).toInt = 8 by decide] at h2; exact h2)) h
    · exact gm_thr hx hb hml hst hown hW X (is := 212) (text := "no such NUMBER") (by decide) ht hlk hl.1 d_Ben_needNumber_10 d_Ben_needNumber_13 d_Ben_needNumber_14 d_Ben_needNumber_16 d_Ben_needNumber_19 ⟨by decide, by decide, by decide, by decide⟩ ⟨by decide, by decide⟩
theorem n_Ben_needPart (l : Launch) (E : gm_E) (M : gm_M) {x : Int32} (h : inR x 4) : cv_ l y_Ben_needPart b_Ben_needPart 1 none { frames := 0, cells := 0, slots := 0, locals := 0 } E M [.int x] (fun M' => M' = M) := by
  obtain ⟨k, hk, rfl⟩ := h
  refine gm_met (by decide) (Nat.le_of_ble_eq_true rfl) (fun p e s m below meth c ls hx hb hml hr hlk hnm hown hW X hl => ?_)
  have hl : lv_has ls 1 [(0, .int (nI k))] := hl
  refine lv_iload_n hx hb d_Ben_needPart_0 rfl (lv_at hl 0 rfl) ?_
  refine lv_if_lt (tgt := 9) hx hb d_Ben_needPart_1 (by decide) (fun c9 => absurd c9 (nI_pos (by omega))) (fun _ => ?_)
  refine lv_iload_n hx hb d_Ben_needPart_4 rfl (lv_at hl 0 rfl) ?_
  refine lv_iconst (v := 4) hx hb d_Ben_needPart_5 (by decide) ?_
  refine lv_icmp_lt (tgt := 19) hx hb d_Ben_needPart_6 (by decide) (fun _ => ?_) (fun c9 => absurd (i_lt (n := 4) hk (by decide)) c9)
  exact gm_vret hx hb hr hlk X rfl d_Ben_needPart_19
theorem t_Ben_needPart (l : Launch) (hst : l.stackTraces = false) (E : gm_E) (M : gm_M) {x : Int32} (h : ¬ inR x 4) : ct_ l y_Ben_needPart b_Ben_needPart 1 none { frames := 6, cells := 1, slots := 6, locals := 100 } E M [.int x] := by
  refine gm_metT (by decide) (Nat.le_of_ble_eq_true rfl) (fun p e s m below meth c ls hx hb hml hlk hown hW ht X hl => ?_)
  have hl : lv_has ls 1 [(0, .int x)] := hl
  refine lv_iload_n hx hb d_Ben_needPart_0 rfl (lv_at hl 0 rfl) ?_
  refine lv_if_lt (tgt := 9) hx hb d_Ben_needPart_1 (by decide) (fun _ => ?_) (fun c1 => ?_)
  · exact gm_thr hx hb hml hst hown hW X (is := 217) (text := "no such PART") (by decide) ht hlk hl.1 d_Ben_needPart_9 d_Ben_needPart_12 d_Ben_needPart_13 d_Ben_needPart_15 d_Ben_needPart_18 ⟨by decide, by decide, by decide, by decide⟩ ⟨by decide, by decide⟩
  · refine lv_iload_n hx hb d_Ben_needPart_4 rfl (lv_at hl 0 rfl) ?_
    refine lv_iconst (v := 4) hx hb d_Ben_needPart_5 (by decide) ?_
    refine lv_icmp_lt (tgt := 19) hx hb d_Ben_needPart_6 (by decide) (fun c2 => ?_) (fun _ => ?_)
    · exact absurd (inR_of (by decide) c1 (by have h2 := Int32.lt_iff_toInt_lt.mp c2; rw [show (4 : Int32).toInt = 4 by decide] at h2; exact h2)) h
    · exact gm_thr hx hb hml hst hown hW X (is := 217) (text := "no such PART") (by decide) ht hlk hl.1 d_Ben_needPart_9 d_Ben_needPart_12 d_Ben_needPart_13 d_Ben_needPart_15 d_Ben_needPart_18 ⟨by decide, by decide, by decide, by decide⟩ ⟨by decide, by decide⟩
theorem n_Ben_needWork (l : Launch) (E : gm_E) (M : gm_M) {x : Int32} (h : inR x 8) : cv_ l y_Ben_needWork b_Ben_needWork 1 none { frames := 0, cells := 0, slots := 0, locals := 0 } E M [.int x] (fun M' => M' = M) := by
  obtain ⟨k, hk, rfl⟩ := h
  refine gm_met (by decide) (Nat.le_of_ble_eq_true rfl) (fun p e s m below meth c ls hx hb hml hr hlk hnm hown hW X hl => ?_)
  have hl : lv_has ls 1 [(0, .int (nI k))] := hl
  refine lv_iload_n hx hb d_Ben_needWork_0 rfl (lv_at hl 0 rfl) ?_
  refine lv_if_lt (tgt := 10) hx hb d_Ben_needWork_1 (by decide) (fun c9 => absurd c9 (nI_pos (by omega))) (fun _ => ?_)
  refine lv_iload_n hx hb d_Ben_needWork_4 rfl (lv_at hl 0 rfl) ?_
  refine lv_bipush (v := 8) hx hb d_Ben_needWork_5 (by decide) ?_
  refine lv_icmp_lt (tgt := 20) hx hb d_Ben_needWork_7 (by decide) (fun _ => ?_) (fun c9 => absurd (i_lt (n := 8) hk (by decide)) c9)
  exact gm_vret hx hb hr hlk X rfl d_Ben_needWork_20
theorem t_Ben_needWork (l : Launch) (hst : l.stackTraces = false) (E : gm_E) (M : gm_M) {x : Int32} (h : ¬ inR x 8) : ct_ l y_Ben_needWork b_Ben_needWork 1 none { frames := 6, cells := 1, slots := 6, locals := 100 } E M [.int x] := by
  refine gm_metT (by decide) (Nat.le_of_ble_eq_true rfl) (fun p e s m below meth c ls hx hb hml hlk hown hW ht X hl => ?_)
  have hl : lv_has ls 1 [(0, .int x)] := hl
  refine lv_iload_n hx hb d_Ben_needWork_0 rfl (lv_at hl 0 rfl) ?_
  refine lv_if_lt (tgt := 10) hx hb d_Ben_needWork_1 (by decide) (fun _ => ?_) (fun c1 => ?_)
  · exact gm_thr hx hb hml hst hown hW X (is := 221) (text := "no such work") (by decide) ht hlk hl.1 d_Ben_needWork_10 d_Ben_needWork_13 d_Ben_needWork_14 d_Ben_needWork_16 d_Ben_needWork_19 ⟨by decide, by decide, by decide, by decide⟩ ⟨by decide, by decide⟩
  · refine lv_iload_n hx hb d_Ben_needWork_4 rfl (lv_at hl 0 rfl) ?_
    refine lv_bipush (v := 8) hx hb d_Ben_needWork_5 (by decide) ?_
    refine lv_icmp_lt (tgt := 20) hx hb d_Ben_needWork_7 (by decide) (fun c2 => ?_) (fun _ => ?_)
    · exact absurd (inR_of (by decide) c1 (by have h2 := Int32.lt_iff_toInt_lt.mp c2; rw [show (8 : Int32).toInt = 8 by decide] at h2; exact h2)) h
    · exact gm_thr hx hb hml hst hown hW X (is := 221) (text := "no such work") (by decide) ht hlk hl.1 d_Ben_needWork_10 d_Ben_needWork_13 d_Ben_needWork_14 d_Ben_needWork_16 d_Ben_needWork_19 ⟨by decide, by decide, by decide, by decide⟩ ⟨by decide, by decide⟩
theorem n_Ben_needPoint (l : Launch) (E : gm_E) (M : gm_M) {x : Int32} (h : inR x 4) : cv_ l y_Ben_needPoint b_Ben_needPoint 1 none { frames := 0, cells := 0, slots := 0, locals := 0 } E M [.int x] (fun M' => M' = M) := by
  obtain ⟨k, hk, rfl⟩ := h
  refine gm_met (by decide) (Nat.le_of_ble_eq_true rfl) (fun p e s m below meth c ls hx hb hml hr hlk hnm hown hW X hl => ?_)
  have hl : lv_has ls 1 [(0, .int (nI k))] := hl
  refine lv_iload_n hx hb d_Ben_needPoint_0 rfl (lv_at hl 0 rfl) ?_
  refine lv_if_lt (tgt := 9) hx hb d_Ben_needPoint_1 (by decide) (fun c9 => absurd c9 (nI_pos (by omega))) (fun _ => ?_)
  refine lv_iload_n hx hb d_Ben_needPoint_4 rfl (lv_at hl 0 rfl) ?_
  refine lv_iconst (v := 4) hx hb d_Ben_needPoint_5 (by decide) ?_
  refine lv_icmp_lt (tgt := 19) hx hb d_Ben_needPoint_6 (by decide) (fun _ => ?_) (fun c9 => absurd (i_lt (n := 4) hk (by decide)) c9)
  exact gm_vret hx hb hr hlk X rfl d_Ben_needPoint_19
theorem t_Ben_needPoint (l : Launch) (hst : l.stackTraces = false) (E : gm_E) (M : gm_M) {x : Int32} (h : ¬ inR x 4) : ct_ l y_Ben_needPoint b_Ben_needPoint 1 none { frames := 6, cells := 1, slots := 6, locals := 100 } E M [.int x] := by
  refine gm_metT (by decide) (Nat.le_of_ble_eq_true rfl) (fun p e s m below meth c ls hx hb hml hlk hown hW ht X hl => ?_)
  have hl : lv_has ls 1 [(0, .int x)] := hl
  refine lv_iload_n hx hb d_Ben_needPoint_0 rfl (lv_at hl 0 rfl) ?_
  refine lv_if_lt (tgt := 9) hx hb d_Ben_needPoint_1 (by decide) (fun _ => ?_) (fun c1 => ?_)
  · exact gm_thr hx hb hml hst hown hW X (is := 219) (text := "no such POINT") (by decide) ht hlk hl.1 d_Ben_needPoint_9 d_Ben_needPoint_12 d_Ben_needPoint_13 d_Ben_needPoint_15 d_Ben_needPoint_18 ⟨by decide, by decide, by decide, by decide⟩ ⟨by decide, by decide⟩
  · refine lv_iload_n hx hb d_Ben_needPoint_4 rfl (lv_at hl 0 rfl) ?_
    refine lv_iconst (v := 4) hx hb d_Ben_needPoint_5 (by decide) ?_
    refine lv_icmp_lt (tgt := 19) hx hb d_Ben_needPoint_6 (by decide) (fun c2 => ?_) (fun _ => ?_)
    · exact absurd (inR_of (by decide) c1 (by have h2 := Int32.lt_iff_toInt_lt.mp c2; rw [show (4 : Int32).toInt = 4 by decide] at h2; exact h2)) h
    · exact gm_thr hx hb hml hst hown hW X (is := 219) (text := "no such POINT") (by decide) ht hlk hl.1 d_Ben_needPoint_9 d_Ben_needPoint_12 d_Ben_needPoint_13 d_Ben_needPoint_15 d_Ben_needPoint_18 ⟨by decide, by decide, by decide, by decide⟩ ⟨by decide, by decide⟩
