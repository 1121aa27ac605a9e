/-! THE LAW'S CASES: written by wip/gen/law2.py -/
/-- the law's memory: the class, the reference, the array for an answer -/
def oM (E : gm_E) (fo : Nat → Int64) : gm_M := fun x => if x = E.2.1 + 133 then some (LA E 1 fo) else none
def LM (E : gm_E) (ad : Nat → Nat) (ρ : Nat → Nat → Int64) (fl : Nat → Int32) (τ : Nat → Nat → Int32) (cd : Int32) (fo : Nat → Int64) : gm_M := cW E ad (mW E (oM E fo) τ cd) ρ fl
theorem om_133 {E : gm_E} {fo : Nat → Int64} {τ : Nat → Nat → Int32} {cd : Int32} : mW E (oM E fo) τ cd (E.2.1 + 133) = some (LA E 1 fo) := by
  rw [mW, if_neg (by omega), oM, if_pos rfl]
theorem om_up {E : gm_E} {fo f : Nat → Int64} {τ : Nat → Nat → Int32} {cd : Int32} : gm_up (mW E (oM E fo) τ cd) (E.2.1 + 133) (LA E 1 f) = mW E (oM E f) τ cd := by
  funext x
  simp only [gm_up, mW, oM]
  by_cases hx : x = E.2.1 + 133
  · rw [if_pos hx, if_neg (by omega), if_pos hx]
  · simp only [if_neg hx]
theorem lg_eq {x y : Int64} (h : x = y) : lg_cmp x y = 0 := by
  subst h
  simp [lg_cmp]
theorem updL0 (f : Nat → Int64) (v : Int64) : vp_updL f 0 v 0 = v := by simp [vp_updL]
section LAWC
variable {p : Program} {l : Launch} {e : Env} {R : Room} {s : State} {m : MethodId} {args : Array Value} {below : List Frame} {meth : Method} {c : Code} {H : Heap} {locs : List Loc} {cells slots : Nat} {Q : State → Prop}
variable {cc : ByteArray} {pc : Nat} {ls : Array Slot} {rest : List Value} {E : gm_E} {M : gm_M}
theorem gm_scr {b L : Nat} {xs : Nat → Int32} (hx : p.tables.exec = Jvm.exec) (hb : c.code = cc) (hXs : va_X b L xs s s.heap) (hbl : b < s.heap.size) (hE : E.2.1 = s.heap.size) (X : gx E M s H locs) {k : Nat} {i : Int32} (hi : i = nI k) (hk : k < L ∧ L < 2 ^ 31) (hdg : decode cc pc = .ok (.iaload, 1))
    (kk : W p l e R s m args below meth c H locs cells slots Q (F0 m (pc + 1) ls (.int (xs k) :: rest))) : W p l e R s m args below meth c H locs cells slots Q (F0 m pc ls (.int i :: .ref b :: rest)) := by
  subst hi
  have hc : (nI k).toNatClampNeg = k := nI_clamp (by omega)
  exact va_sld (A := gm_A E) hx hb hXs hbl (by show ¬ E.2.1 ≤ b; omega) X.2.2.1 (vp_in_nI hk.1 hk.2) hdg (by rw [hc]; exact kk)
end LAWC
theorem o53 {E : gm_E} {N : gm_M} {τ : Nat → Nat → Int32} {cd : Int32} : mW E N τ cd (E.2.1 + 53) = some (XO E.2.1 cd) := mw_obj ⟨rfl, by decide⟩ rfl
set_option maxRecDepth 100000 in
set_option maxHeartbeats 8000000 in
theorem cs_set {p : Program} {l : Launch} {e : Env} {s : State} {m : MethodId} {below : List Frame} {meth : Method} {c : Code} {Q : State → Prop} {F G : Type} [Lean.Grind.CommRing F] [Lean.Grind.CommRing G] {φ : Int → F} {inv : F → F} {ψ : Int → G} {E : gm_E} {ad : Nat → Nat} {sb L : Nat} {xs : Nat → Int32} {cells slots : Nat} (hx : p.tables.exec = Jvm.exec) (hb : c.code = code) (hml : c.maxLocals = 8) (hst : l.stackTraces = false) (hown : s.vm.findClass R_Law = some m.cls) (hW : ∀ w ∈ WB, w.before #[Value.ref sb] s = true) (hXs : va_X sb L xs s s.heap) (hbl : sb < s.heap.size) (hE : E.2.1 = s.heap.size) (hL : L ≤ 3072) (hg : gE E ad) (hk : fk φ inv) (hn : fm ψ nN) {Ri : F} (hR : φ (tq 8) * Ri = 1) {Si : G} (hS : ψ (tq 8) * Si = 1) (hcs : cells + 5 ≤ 629376 ∧ slots + 30 ≤ 7207977) {i : Nat} (hi : i + 6 ≤ L) {ρ : Nat → Nat → Int64} {fl : Nat → Int32} {τ : Nat → Nat → Int32} {cd : Int32} {fo : Nat → Int64} (h : RL φ ψ ρ fl τ) {H : Heap} {locs : List Loc} {ls : Array Slot} (X : gx E (LM E ad ρ fl τ cd fo) s H locs) (hl : lv_has ls 8 [(4, .int (nI i)), (0, .ref sb), (1, .ref (E.2.1 + 0)), (2, .ref (E.2.1 + 53)), (3, .ref (E.2.1 + 133))]) (g1 : inR (xs (i + 1)) 8) (g2 : inR (xs (i + 2)) 4)
    (kk : ∀ (ρ' : Nat → Nat → Int64) (fl' : Nat → Int32) (τ' : Nat → Nat → Int32) (cd' : Int32) (fo' : Nat → Int64) (H : Heap) (locs : List Loc) (ls : Array Slot), RL φ ψ ρ' fl' τ' → gx E (LM E ad ρ' fl' τ' cd' fo') s H locs → lv_has ls 8 [(4, .int (nI i)), (0, .ref sb), (1, .ref (E.2.1 + 0)), (2, .ref (E.2.1 + 53)), (3, .ref (E.2.1 + 133))] → W p l e room_1 s m #[Value.ref sb] below meth c H locs (cells + 5) (slots + 30) Q (F0 m 1192 ls [])) :
    W p l e room_1 s m #[Value.ref sb] below meth c H locs cells slots Q (F0 m 112 ls []) := by
  obtain ⟨r, h_r, e1⟩ := g1
  obtain ⟨q, h_q, e2⟩ := g2
  refine lv_aload_n hx hb d_Law_law_112 rfl (lv_at hl 2 rfl) ?_
  refine lv_aload_n hx hb d_Law_law_113 rfl (lv_at hl 1 rfl) ?_
  refine lv_iload hx hb d_Law_law_114 (lv_at hl 0 rfl) ?_
  refine lv_iconst (v := 1) hx hb d_Law_law_116 (by decide) ?_
  refine lv_iadd hx hb d_Law_law_117 ?_
  refine lv_eqi (v := nI (i + 1)) (nI_add i 1) ?_
  refine gm_scr hx hb hXs hbl hE X (k := i + 1) rfl ⟨by omega, by omega⟩ d_Law_law_118 ?_
  refine lv_eqi (v := (nI r)) e1 ?_
  refine lv_aload_n hx hb d_Law_law_119 rfl (lv_at hl 1 rfl) ?_
  refine lv_iload hx hb d_Law_law_120 (lv_at hl 0 rfl) ?_
  refine lv_iconst (v := 2) hx hb d_Law_law_122 (by decide) ?_
  refine lv_iadd hx hb d_Law_law_123 ?_
  refine lv_eqi (v := nI (i + 2)) (nI_add i 2) ?_
  refine gm_scr hx hb hXs hbl hE X (k := i + 2) rfl ⟨by omega, by omega⟩ d_Law_law_124 ?_
  refine lv_eqi (v := (nI q)) e2 ?_
  refine lv_aload_n hx hb d_Law_law_125 rfl (lv_at hl 1 rfl) ?_
  refine lv_iload hx hb d_Law_law_126 (lv_at hl 0 rfl) ?_
  refine lv_iconst (v := 3) hx hb d_Law_law_128 (by decide) ?_
  refine lv_iadd hx hb d_Law_law_129 ?_
  refine lv_eqi (v := nI (i + 3)) (nI_add i 3) ?_
  refine gm_scr hx hb hXs hbl hE X (k := i + 3) rfl ⟨by omega, by omega⟩ d_Law_law_130 ?_
  refine lv_i2l hx hb d_Law_law_131 rfl ?_
  refine lv_bipush (v := 32) hx hb d_Law_law_132 (by decide) ?_
  refine lv_lshl hx hb d_Law_law_134 rfl ?_
  refine lv_aload_n hx hb d_Law_law_135 rfl (lv_at hl 1 rfl) ?_
  refine lv_iload hx hb d_Law_law_136 (lv_at hl 0 rfl) ?_
  refine lv_iconst (v := 4) hx hb d_Law_law_138 (by decide) ?_
  refine lv_iadd hx hb d_Law_law_139 ?_
  refine lv_eqi (v := nI (i + 4)) (nI_add i 4) ?_
  refine gm_scr hx hb hXs hbl hE X (k := i + 4) rfl ⟨by omega, by omega⟩ d_Law_law_140 ?_
  refine lv_i2l hx hb d_Law_law_141 rfl ?_
  refine lv_ldc2 (v := 4294967295) hx hb hown (hW _ wk_Law_67) d_Law_law_142 ?_
  refine lv_land hx hb d_Law_law_145 ?_
  refine lv_lor hx hb d_Law_law_146 ?_
  refine gm_SHi hx hb hml hown hW X (h_Law_set l E ad _ ρ fl hg hk hn h_r h_q) (n := 4) ⟨⟨wl_Law_69, ws_Law_set, winit_Law, wh_Law_set⟩, by decide +kernel, Nat.le_of_ble_eq_true rfl, Nat.le_of_ble_eq_true rfl⟩ rfl hl.1 rfl (Nat.le_of_ble_eq_true rfl) d_Law_law_147 ⟨by show _ ≤ (629376 : Nat); dsimp only; omega, by show _ ≤ (7207977 : Nat); dsimp only; omega⟩ (fun k M1 H locs hp X => ?_)
  obtain ⟨rfl, ρ1, fl1, rfl, hc⟩ := hp
  rw [cw_mw] at X
  refine lv_istore (lv' := [(5, .int 0), (4, .int (nI i)), (0, .ref sb), (1, .ref (E.2.1 + 0)), (2, .ref (E.2.1 + 53)), (3, .ref (E.2.1 + 133))]) hx hb d_Law_law_150 hl (by decide) rfl (fun ls hl => ?_)
  refine lv_aload_n hx hb d_Law_law_152 rfl (lv_at hl 4 rfl) ?_
  refine lv_aload_n hx hb d_Law_law_153 rfl (lv_at hl 2 rfl) ?_
  refine lv_iload hx hb d_Law_law_154 (lv_at hl 1 rfl) ?_
  refine lv_iconst (v := 1) hx hb d_Law_law_156 (by decide) ?_
  refine lv_iadd hx hb d_Law_law_157 ?_
  refine lv_eqi (v := nI (i + 1)) (nI_add i 1) ?_
  refine gm_scr hx hb hXs hbl hE X (k := i + 1) rfl ⟨by omega, by omega⟩ d_Law_law_158 ?_
  refine lv_eqi (v := (nI r)) e1 ?_
  refine lv_aload_n hx hb d_Law_law_159 rfl (lv_at hl 2 rfl) ?_
  refine lv_iload hx hb d_Law_law_160 (lv_at hl 1 rfl) ?_
  refine lv_iconst (v := 2) hx hb d_Law_law_162 (by decide) ?_
  refine lv_iadd hx hb d_Law_law_163 ?_
  refine lv_eqi (v := nI (i + 2)) (nI_add i 2) ?_
  refine gm_scr hx hb hXs hbl hE X (k := i + 2) rfl ⟨by omega, by omega⟩ d_Law_law_164 ?_
  refine lv_eqi (v := (nI q)) e2 ?_
  refine lv_aload_n hx hb d_Law_law_165 rfl (lv_at hl 2 rfl) ?_
  refine lv_iload hx hb d_Law_law_166 (lv_at hl 1 rfl) ?_
  refine lv_iconst (v := 3) hx hb d_Law_law_168 (by decide) ?_
  refine lv_iadd hx hb d_Law_law_169 ?_
  refine lv_eqi (v := nI (i + 3)) (nI_add i 3) ?_
  refine gm_scr hx hb hXs hbl hE X (k := i + 3) rfl ⟨by omega, by omega⟩ d_Law_law_170 ?_
  refine lv_i2l hx hb d_Law_law_171 rfl ?_
  refine lv_bipush (v := 32) hx hb d_Law_law_172 (by decide) ?_
  refine lv_lshl hx hb d_Law_law_174 rfl ?_
  refine lv_aload_n hx hb d_Law_law_175 rfl (lv_at hl 2 rfl) ?_
  refine lv_iload hx hb d_Law_law_176 (lv_at hl 1 rfl) ?_
  refine lv_iconst (v := 4) hx hb d_Law_law_178 (by decide) ?_
  refine lv_iadd hx hb d_Law_law_179 ?_
  refine lv_eqi (v := nI (i + 4)) (nI_add i 4) ?_
  refine gm_scr hx hb hXs hbl hE X (k := i + 4) rfl ⟨by omega, by omega⟩ d_Law_law_180 ?_
  refine lv_i2l hx hb d_Law_law_181 rfl ?_
  refine lv_ldc2 (v := 4294967295) hx hb hown (hW _ wk_Law_67) d_Law_law_182 ?_
  refine lv_land hx hb d_Law_law_185 ?_
  refine lv_lor hx hb d_Law_law_186 ?_
  refine gm_Vv hx hb hml hown hW X o53 (r_Mdl_set_ok l E _ τ cd  h_r h_q) (n := 3) ⟨⟨wl_Law_74, wi_Mdl_set, wsel_Mdl_set, winit_Mdl, wc_Mdl_set⟩, by decide +kernel, ⟨Nat.le_of_ble_eq_true rfl, Nat.le_of_ble_eq_true rfl⟩, _, rfl, rfl⟩ rfl hl.1 rfl (Nat.le_of_ble_eq_true rfl) d_Law_law_187 ⟨by show _ ≤ (629376 : Nat); dsimp only; omega, by show _ ≤ (7207977 : Nat); dsimp only; omega⟩ (fun M1 H locs hp X => ?_)
  obtain ⟨τ1, rfl, hm⟩ := hp
  refine lv_aload_n hx hb d_Law_law_190 rfl (lv_at hl 4 rfl) ?_
  refine gm_Vi hx hb hml hown hW X o53 (r_Mdl_thrown l E _ τ1 0) (n := 0) ⟨⟨wl_Law_75, wi_Mdl_thrown, wsel_Mdl_thrown, winit_Mdl, wc_Mdl_thrown⟩, by decide +kernel, ⟨Nat.le_of_ble_eq_true rfl, Nat.le_of_ble_eq_true rfl⟩, _, rfl, rfl⟩ rfl hl.1 rfl (Nat.le_of_ble_eq_true rfl) d_Law_law_191 ⟨by show _ ≤ (629376 : Nat); dsimp only; omega, by show _ ≤ (7207977 : Nat); dsimp only; omega⟩ (fun q9 M1 H locs hp X => ?_)
  obtain ⟨rfl, rfl⟩ := hp
  rw [← cw_mw] at X
  refine lv_iload hx hb d_Law_law_194 (lv_at hl 0 rfl) ?_
  refine lv_icmp_eq (tgt := 201) hx hb d_Law_law_196 (by decide) (fun _ => ?_) (fun c9 => absurd (by decide) c9)
  have hrl := rl_set (inv := inv) h h_r h_q hc hm
  refine lv_goto (tgt := 1192) hx hb d_Law_law_201 (by decide) ?_
  refine gm_wid (k := cells + 5) (n := slots + 30) (by dsimp only; omega) (by dsimp only; omega) ?_
  exact kk ρ1 fl1 τ1 0 fo H locs ls hrl X (lv_sub hl [1, 2, 3, 4, 5] rfl)
set_option maxRecDepth 100000 in
set_option maxHeartbeats 8000000 in
theorem cs_get {p : Program} {l : Launch} {e : Env} {s : State} {m : MethodId} {below : List Frame} {meth : Method} {c : Code} {Q : State → Prop} {F G : Type} [Lean.Grind.CommRing F] [Lean.Grind.CommRing G] {φ : Int → F} {inv : F → F} {ψ : Int → G} {E : gm_E} {ad : Nat → Nat} {sb L : Nat} {xs : Nat → Int32} {cells slots : Nat} (hx : p.tables.exec = Jvm.exec) (hb : c.code = code) (hml : c.maxLocals = 8) (hst : l.stackTraces = false) (hown : s.vm.findClass R_Law = some m.cls) (hW : ∀ w ∈ WB, w.before #[Value.ref sb] s = true) (hXs : va_X sb L xs s s.heap) (hbl : sb < s.heap.size) (hE : E.2.1 = s.heap.size) (hL : L ≤ 3072) (hg : gE E ad) (hk : fk φ inv) (hn : fm ψ nN) {Ri : F} (hR : φ (tq 8) * Ri = 1) {Si : G} (hS : ψ (tq 8) * Si = 1) (hcs : cells + 5 ≤ 629376 ∧ slots + 30 ≤ 7207977) {i : Nat} (hi : i + 6 ≤ L) {ρ : Nat → Nat → Int64} {fl : Nat → Int32} {τ : Nat → Nat → Int32} {cd : Int32} {fo : Nat → Int64} (h : RL φ ψ ρ fl τ) {H : Heap} {locs : List Loc} {ls : Array Slot} (X : gx E (LM E ad ρ fl τ cd fo) s H locs) (hl : lv_has ls 8 [(4, .int (nI i)), (0, .ref sb), (1, .ref (E.2.1 + 0)), (2, .ref (E.2.1 + 53)), (3, .ref (E.2.1 + 133))]) (g1 : inR (xs (i + 1)) 8) (g2 : inR (xs (i + 2)) 4)
    (kk : ∀ (ρ' : Nat → Nat → Int64) (fl' : Nat → Int32) (τ' : Nat → Nat → Int32) (cd' : Int32) (fo' : Nat → Int64) (H : Heap) (locs : List Loc) (ls : Array Slot), RL φ ψ ρ' fl' τ' → gx E (LM E ad ρ' fl' τ' cd' fo') s H locs → lv_has ls 8 [(4, .int (nI i)), (0, .ref sb), (1, .ref (E.2.1 + 0)), (2, .ref (E.2.1 + 53)), (3, .ref (E.2.1 + 133))] → W p l e room_1 s m #[Value.ref sb] below meth c H locs (cells + 5) (slots + 30) Q (F0 m 1192 ls [])) :
    W p l e room_1 s m #[Value.ref sb] below meth c H locs cells slots Q (F0 m 204 ls []) := by
  obtain ⟨a, h_a, e1⟩ := g1
  obtain ⟨q, h_q, e2⟩ := g2
  refine lv_aload_n hx hb d_Law_law_204 rfl (lv_at hl 2 rfl) ?_
  refine lv_aload_n hx hb d_Law_law_205 rfl (lv_at hl 1 rfl) ?_
  refine lv_iload hx hb d_Law_law_206 (lv_at hl 0 rfl) ?_
  refine lv_iconst (v := 1) hx hb d_Law_law_208 (by decide) ?_
  refine lv_iadd hx hb d_Law_law_209 ?_
  refine lv_eqi (v := nI (i + 1)) (nI_add i 1) ?_
  refine gm_scr hx hb hXs hbl hE X (k := i + 1) rfl ⟨by omega, by omega⟩ d_Law_law_210 ?_
  refine lv_eqi (v := (nI a)) e1 ?_
  refine lv_aload_n hx hb d_Law_law_211 rfl (lv_at hl 1 rfl) ?_
  refine lv_iload hx hb d_Law_law_212 (lv_at hl 0 rfl) ?_
  refine lv_iconst (v := 2) hx hb d_Law_law_214 (by decide) ?_
  refine lv_iadd hx hb d_Law_law_215 ?_
  refine lv_eqi (v := nI (i + 2)) (nI_add i 2) ?_
  refine gm_scr hx hb hXs hbl hE X (k := i + 2) rfl ⟨by omega, by omega⟩ d_Law_law_216 ?_
  refine lv_eqi (v := (nI q)) e2 ?_
  refine lv_aload_n hx hb d_Law_law_217 rfl (lv_at hl 4 rfl) ?_
  refine gm_SHi hx hb hml hown hW X (h_Law_get l E ad _ ρ fl hg hk hn om_133 h_a h_q) (n := 4) ⟨⟨wl_Law_79, ws_Law_get, winit_Law, wh_Law_get⟩, by decide +kernel, Nat.le_of_ble_eq_true rfl, Nat.le_of_ble_eq_true rfl⟩ rfl hl.1 rfl (Nat.le_of_ble_eq_true rfl) d_Law_law_218 ⟨by show _ ≤ (629376 : Nat); dsimp only; omega, by show _ ≤ (7207977 : Nat); dsimp only; omega⟩ (fun k M1 H locs hp X => ?_)
  obtain ⟨rfl, ρ1, fl1, r, rfl, hc⟩ := hp
  rw [om_up] at X
  rw [cw_mw] at X
  refine lv_istore (lv' := [(5, .int 0), (4, .int (nI i)), (0, .ref sb), (1, .ref (E.2.1 + 0)), (2, .ref (E.2.1 + 53)), (3, .ref (E.2.1 + 133))]) hx hb d_Law_law_221 hl (by decide) rfl (fun ls hl => ?_)
  refine lv_aload_n hx hb d_Law_law_223 rfl (lv_at hl 4 rfl) ?_
  refine lv_aload_n hx hb d_Law_law_224 rfl (lv_at hl 2 rfl) ?_
  refine lv_iload hx hb d_Law_law_225 (lv_at hl 1 rfl) ?_
  refine lv_iconst (v := 1) hx hb d_Law_law_227 (by decide) ?_
  refine lv_iadd hx hb d_Law_law_228 ?_
  refine lv_eqi (v := nI (i + 1)) (nI_add i 1) ?_
  refine gm_scr hx hb hXs hbl hE X (k := i + 1) rfl ⟨by omega, by omega⟩ d_Law_law_229 ?_
  refine lv_eqi (v := (nI a)) e1 ?_
  refine lv_aload_n hx hb d_Law_law_230 rfl (lv_at hl 2 rfl) ?_
  refine lv_iload hx hb d_Law_law_231 (lv_at hl 1 rfl) ?_
  refine lv_iconst (v := 2) hx hb d_Law_law_233 (by decide) ?_
  refine lv_iadd hx hb d_Law_law_234 ?_
  refine lv_eqi (v := nI (i + 2)) (nI_add i 2) ?_
  refine gm_scr hx hb hXs hbl hE X (k := i + 2) rfl ⟨by omega, by omega⟩ d_Law_law_235 ?_
  refine lv_eqi (v := (nI q)) e2 ?_
  refine gm_Vl hx hb hml hown hW X o53 (r_Mdl_get_ok l E _ τ cd  h_a h_q) (n := 2) ⟨⟨wl_Law_82, wi_Mdl_get, wsel_Mdl_get, winit_Mdl, wc_Mdl_get⟩, by decide +kernel, ⟨Nat.le_of_ble_eq_true rfl, Nat.le_of_ble_eq_true rfl⟩, _, rfl, rfl⟩ rfl hl.1 rfl (Nat.le_of_ble_eq_true rfl) d_Law_law_236 ⟨by show _ ≤ (629376 : Nat); dsimp only; omega, by show _ ≤ (7207977 : Nat); dsimp only; omega⟩ (fun r' M1 H locs hp X => ?_)
  obtain ⟨τ1, rfl, hm⟩ := hp
  refine lv_lstore (lv' := [(6, .long r'), (5, .int 0), (4, .int (nI i)), (0, .ref sb), (1, .ref (E.2.1 + 0)), (2, .ref (E.2.1 + 53)), (3, .ref (E.2.1 + 133))]) hx hb d_Law_law_239 hl (by decide) rfl (fun ls hl => ?_)
  refine lv_aload_n hx hb d_Law_law_241 rfl (lv_at hl 5 rfl) ?_
  refine gm_Vi hx hb hml hown hW X o53 (r_Mdl_thrown l E _ τ1 0) (n := 0) ⟨⟨wl_Law_75, wi_Mdl_thrown, wsel_Mdl_thrown, winit_Mdl, wc_Mdl_thrown⟩, by decide +kernel, ⟨Nat.le_of_ble_eq_true rfl, Nat.le_of_ble_eq_true rfl⟩, _, rfl, rfl⟩ rfl hl.1 rfl (Nat.le_of_ble_eq_true rfl) d_Law_law_242 ⟨by show _ ≤ (629376 : Nat); dsimp only; omega, by show _ ≤ (7207977 : Nat); dsimp only; omega⟩ (fun q9 M1 H locs hp X => ?_)
  obtain ⟨rfl, rfl⟩ := hp
  rw [← cw_mw] at X
  refine lv_iload hx hb d_Law_law_245 (lv_at hl 1 rfl) ?_
  refine lv_icmp_eq (tgt := 252) hx hb d_Law_law_247 (by decide) (fun _ => ?_) (fun c9 => absurd (by decide) c9)
  have hrl := rl_get (inv := inv) h h_a h_q hc hm
  refine lv_iload hx hb d_Law_law_252 (lv_at hl 1 rfl) ?_
  refine lv_if_ne (tgt := 268) hx hb d_Law_law_254 (by decide) (fun c9 => absurd rfl c9) (fun _ => ?_)
  obtain ⟨rfl, hrl⟩ := hrl
  refine lv_aload_n hx hb d_Law_law_257 rfl (lv_at hl 6 rfl) ?_
  refine lv_iconst (v := 0) hx hb d_Law_law_258 (by decide) ?_
  refine gm_lald hx hb X (k := 0) (Or.inl (cw_133 om_133)) (by decide) ⟨by decide, by decide⟩ d_Law_law_259 ?_
  refine lv_eql (v := r) (updL0 _ _) ?_
  refine lv_lload hx hb d_Law_law_260 (lv_at hl 0 rfl) ?_
  refine W.lcmp hx hb d_Law_law_262 ?_
  refine lv_if_eq (tgt := 268) hx hb d_Law_law_263 (by decide) (fun _ => ?_) (fun c9 => absurd (lg_eq rfl) c9)
  refine lv_goto (tgt := 1192) hx hb d_Law_law_268 (by decide) ?_
  refine gm_wid (k := cells + 5) (n := slots + 30) (by dsimp only; omega) (by dsimp only; omega) ?_
  exact kk ρ1 fl1 τ1 0 (vp_updL fo 0 r) H locs ls hrl X (lv_sub hl [2, 3, 4, 5, 6] rfl)
set_option maxRecDepth 100000 in
set_option maxHeartbeats 8000000 in
theorem cs_compare {p : Program} {l : Launch} {e : Env} {s : State} {m : MethodId} {below : List Frame} {meth : Method} {c : Code} {Q : State → Prop} {F G : Type} [Lean.Grind.CommRing F] [Lean.Grind.CommRing G] {φ : Int → F} {inv : F → F} {ψ : Int → G} {E : gm_E} {ad : Nat → Nat} {sb L : Nat} {xs : Nat → Int32} {cells slots : Nat} (hx : p.tables.exec = Jvm.exec) (hb : c.code = code) (hml : c.maxLocals = 8) (hst : l.stackTraces = false) (hown : s.vm.findClass R_Law = some m.cls) (hW : ∀ w ∈ WB, w.before #[Value.ref sb] s = true) (hXs : va_X sb L xs s s.heap) (hbl : sb < s.heap.size) (hE : E.2.1 = s.heap.size) (hL : L ≤ 3072) (hg : gE E ad) (hk : fk φ inv) (hn : fm ψ nN) {Ri : F} (hR : φ (tq 8) * Ri = 1) {Si : G} (hS : ψ (tq 8) * Si = 1) (hcs : cells + 5 ≤ 629376 ∧ slots + 30 ≤ 7207977) {i : Nat} (hi : i + 6 ≤ L) {ρ : Nat → Nat → Int64} {fl : Nat → Int32} {τ : Nat → Nat → Int32} {cd : Int32} {fo : Nat → Int64} (h : RL φ ψ ρ fl τ) {H : Heap} {locs : List Loc} {ls : Array Slot} (X : gx E (LM E ad ρ fl τ cd fo) s H locs) (hl : lv_has ls 8 [(4, .int (nI i)), (0, .ref sb), (1, .ref (E.2.1 + 0)), (2, .ref (E.2.1 + 53)), (3, .ref (E.2.1 + 133))]) (g1 : inR (xs (i + 1)) 8) (g2 : inR (xs (i + 2)) 8)
    (kk : ∀ (ρ' : Nat → Nat → Int64) (fl' : Nat → Int32) (τ' : Nat → Nat → Int32) (cd' : Int32) (fo' : Nat → Int64) (H : Heap) (locs : List Loc) (ls : Array Slot), RL φ ψ ρ' fl' τ' → gx E (LM E ad ρ' fl' τ' cd' fo') s H locs → lv_has ls 8 [(4, .int (nI i)), (0, .ref sb), (1, .ref (E.2.1 + 0)), (2, .ref (E.2.1 + 53)), (3, .ref (E.2.1 + 133))] → W p l e room_1 s m #[Value.ref sb] below meth c H locs (cells + 5) (slots + 30) Q (F0 m 1192 ls [])) :
    W p l e room_1 s m #[Value.ref sb] below meth c H locs cells slots Q (F0 m 271 ls []) := by
  obtain ⟨a, h_a, e1⟩ := g1
  obtain ⟨b, h_b, e2⟩ := g2
  refine lv_aload_n hx hb d_Law_law_271 rfl (lv_at hl 2 rfl) ?_
  refine lv_aload_n hx hb d_Law_law_272 rfl (lv_at hl 1 rfl) ?_
  refine lv_iload hx hb d_Law_law_273 (lv_at hl 0 rfl) ?_
  refine lv_iconst (v := 1) hx hb d_Law_law_275 (by decide) ?_
  refine lv_iadd hx hb d_Law_law_276 ?_
  refine lv_eqi (v := nI (i + 1)) (nI_add i 1) ?_
  refine gm_scr hx hb hXs hbl hE X (k := i + 1) rfl ⟨by omega, by omega⟩ d_Law_law_277 ?_
  refine lv_eqi (v := (nI a)) e1 ?_
  refine lv_aload_n hx hb d_Law_law_278 rfl (lv_at hl 1 rfl) ?_
  refine lv_iload hx hb d_Law_law_279 (lv_at hl 0 rfl) ?_
  refine lv_iconst (v := 2) hx hb d_Law_law_281 (by decide) ?_
  refine lv_iadd hx hb d_Law_law_282 ?_
  refine lv_eqi (v := nI (i + 2)) (nI_add i 2) ?_
  refine gm_scr hx hb hXs hbl hE X (k := i + 2) rfl ⟨by omega, by omega⟩ d_Law_law_283 ?_
  refine lv_eqi (v := (nI b)) e2 ?_
  refine lv_aload_n hx hb d_Law_law_284 rfl (lv_at hl 4 rfl) ?_
  refine gm_SHi hx hb hml hown hW X (h_Law_compare l E ad _ ρ fl hg hk hn om_133 h_a h_b) (n := 4) ⟨⟨wl_Law_83, ws_Law_compare, winit_Law, wh_Law_compare⟩, by decide +kernel, Nat.le_of_ble_eq_true rfl, Nat.le_of_ble_eq_true rfl⟩ rfl hl.1 rfl (Nat.le_of_ble_eq_true rfl) d_Law_law_285 ⟨by show _ ≤ (629376 : Nat); dsimp only; omega, by show _ ≤ (7207977 : Nat); dsimp only; omega⟩ (fun k M1 H locs hp X => ?_)
  obtain ⟨rfl, ρ1, fl1, r, rfl, hc⟩ := hp
  rw [om_up] at X
  rw [cw_mw] at X
  refine lv_istore (lv' := [(5, .int 0), (4, .int (nI i)), (0, .ref sb), (1, .ref (E.2.1 + 0)), (2, .ref (E.2.1 + 53)), (3, .ref (E.2.1 + 133))]) hx hb d_Law_law_288 hl (by decide) rfl (fun ls hl => ?_)
  refine lv_aload_n hx hb d_Law_law_290 rfl (lv_at hl 4 rfl) ?_
  refine lv_aload_n hx hb d_Law_law_291 rfl (lv_at hl 2 rfl) ?_
  refine lv_iload hx hb d_Law_law_292 (lv_at hl 1 rfl) ?_
  refine lv_iconst (v := 1) hx hb d_Law_law_294 (by decide) ?_
  refine lv_iadd hx hb d_Law_law_295 ?_
  refine lv_eqi (v := nI (i + 1)) (nI_add i 1) ?_
  refine gm_scr hx hb hXs hbl hE X (k := i + 1) rfl ⟨by omega, by omega⟩ d_Law_law_296 ?_
  refine lv_eqi (v := (nI a)) e1 ?_
  refine lv_aload_n hx hb d_Law_law_297 rfl (lv_at hl 2 rfl) ?_
  refine lv_iload hx hb d_Law_law_298 (lv_at hl 1 rfl) ?_
  refine lv_iconst (v := 2) hx hb d_Law_law_300 (by decide) ?_
  refine lv_iadd hx hb d_Law_law_301 ?_
  refine lv_eqi (v := nI (i + 2)) (nI_add i 2) ?_
  refine gm_scr hx hb hXs hbl hE X (k := i + 2) rfl ⟨by omega, by omega⟩ d_Law_law_302 ?_
  refine lv_eqi (v := (nI b)) e2 ?_
  refine gm_Vi hx hb hml hown hW X o53 (r_Mdl_compare_ok l E _ τ cd  h_a h_b) (n := 2) ⟨⟨wl_Law_85, wi_Mdl_compare, wsel_Mdl_compare, winit_Mdl, wc_Mdl_compare⟩, by decide +kernel, ⟨Nat.le_of_ble_eq_true rfl, Nat.le_of_ble_eq_true rfl⟩, _, rfl, rfl⟩ rfl hl.1 rfl (Nat.le_of_ble_eq_true rfl) d_Law_law_303 ⟨by show _ ≤ (629376 : Nat); dsimp only; omega, by show _ ≤ (7207977 : Nat); dsimp only; omega⟩ (fun r' M1 H locs hp X => ?_)
  obtain ⟨τ1, rfl, hm⟩ := hp
  refine lv_istore (lv' := [(6, .int r'), (5, .int 0), (4, .int (nI i)), (0, .ref sb), (1, .ref (E.2.1 + 0)), (2, .ref (E.2.1 + 53)), (3, .ref (E.2.1 + 133))]) hx hb d_Law_law_306 hl (by decide) rfl (fun ls hl => ?_)
  refine lv_aload_n hx hb d_Law_law_308 rfl (lv_at hl 5 rfl) ?_
  refine gm_Vi hx hb hml hown hW X o53 (r_Mdl_thrown l E _ τ1 0) (n := 0) ⟨⟨wl_Law_75, wi_Mdl_thrown, wsel_Mdl_thrown, winit_Mdl, wc_Mdl_thrown⟩, by decide +kernel, ⟨Nat.le_of_ble_eq_true rfl, Nat.le_of_ble_eq_true rfl⟩, _, rfl, rfl⟩ rfl hl.1 rfl (Nat.le_of_ble_eq_true rfl) d_Law_law_309 ⟨by show _ ≤ (629376 : Nat); dsimp only; omega, by show _ ≤ (7207977 : Nat); dsimp only; omega⟩ (fun q9 M1 H locs hp X => ?_)
  obtain ⟨rfl, rfl⟩ := hp
  rw [← cw_mw] at X
  refine lv_iload hx hb d_Law_law_312 (lv_at hl 1 rfl) ?_
  refine lv_icmp_eq (tgt := 319) hx hb d_Law_law_314 (by decide) (fun _ => ?_) (fun c9 => absurd (by decide) c9)
  have hrl := rl_compare (inv := inv) h h_a h_b hc hm
  refine lv_iload hx hb d_Law_law_319 (lv_at hl 1 rfl) ?_
  refine lv_if_ne (tgt := 336) hx hb d_Law_law_321 (by decide) (fun c9 => absurd rfl c9) (fun _ => ?_)
  obtain ⟨rfl, hrl⟩ := hrl
  refine lv_aload_n hx hb d_Law_law_324 rfl (lv_at hl 6 rfl) ?_
  refine lv_iconst (v := 0) hx hb d_Law_law_325 (by decide) ?_
  refine gm_lald hx hb X (k := 0) (Or.inl (cw_133 om_133)) (by decide) ⟨by decide, by decide⟩ d_Law_law_326 ?_
  refine lv_eql (v := r.toInt64) (updL0 _ _) ?_
  refine lv_iload hx hb d_Law_law_327 (lv_at hl 0 rfl) ?_
  refine lv_i2l hx hb d_Law_law_329 rfl ?_
  refine W.lcmp hx hb d_Law_law_330 ?_
  refine lv_if_eq (tgt := 336) hx hb d_Law_law_331 (by decide) (fun _ => ?_) (fun c9 => absurd (lg_eq rfl) c9)
  refine lv_goto (tgt := 1192) hx hb d_Law_law_336 (by decide) ?_
  refine gm_wid (k := cells + 5) (n := slots + 30) (by dsimp only; omega) (by dsimp only; omega) ?_
  exact kk ρ1 fl1 τ1 0 (vp_updL fo 0 r.toInt64) H locs ls hrl X (lv_sub hl [2, 3, 4, 5, 6] rfl)
set_option maxRecDepth 100000 in
set_option maxHeartbeats 8000000 in
theorem cs_work_0 {p : Program} {l : Launch} {e : Env} {s : State} {m : MethodId} {below : List Frame} {meth : Method} {c : Code} {Q : State → Prop} {F G : Type} [Lean.Grind.CommRing F] [Lean.Grind.CommRing G] {φ : Int → F} {inv : F → F} {ψ : Int → G} {E : gm_E} {ad : Nat → Nat} {sb L : Nat} {xs : Nat → Int32} {cells slots : Nat} (hx : p.tables.exec = Jvm.exec) (hb : c.code = code) (hml : c.maxLocals = 8) (hst : l.stackTraces = false) (hown : s.vm.findClass R_Law = some m.cls) (hW : ∀ w ∈ WB, w.before #[Value.ref sb] s = true) (hXs : va_X sb L xs s s.heap) (hbl : sb < s.heap.size) (hE : E.2.1 = s.heap.size) (hL : L ≤ 3072) (hg : gE E ad) (hk : fk φ inv) (hn : fm ψ nN) {Ri : F} (hR : φ (tq 8) * Ri = 1) {Si : G} (hS : ψ (tq 8) * Si = 1) (hcs : cells + 5 ≤ 629376 ∧ slots + 30 ≤ 7207977) {i : Nat} (hi : i + 6 ≤ L) {ρ : Nat → Nat → Int64} {fl : Nat → Int32} {τ : Nat → Nat → Int32} {cd : Int32} {fo : Nat → Int64} (h : RL φ ψ ρ fl τ) {H : Heap} {locs : List Loc} {ls : Array Slot} (X : gx E (LM E ad ρ fl τ cd fo) s H locs) (hl : lv_has ls 8 [(4, .int (nI i)), (0, .ref sb), (1, .ref (E.2.1 + 0)), (2, .ref (E.2.1 + 53)), (3, .ref (E.2.1 + 133))]) (hw : xs (i + 1) = 0) (g2 : inR (xs (i + 2)) 8) (g3 : inR (xs (i + 3)) 8) (g4 : inR (xs (i + 4)) 8)
    (kk : ∀ (ρ' : Nat → Nat → Int64) (fl' : Nat → Int32) (τ' : Nat → Nat → Int32) (cd' : Int32) (fo' : Nat → Int64) (H : Heap) (locs : List Loc) (ls : Array Slot), RL φ ψ ρ' fl' τ' → gx E (LM E ad ρ' fl' τ' cd' fo') s H locs → lv_has ls 8 [(4, .int (nI i)), (0, .ref sb), (1, .ref (E.2.1 + 0)), (2, .ref (E.2.1 + 53)), (3, .ref (E.2.1 + 133))] → W p l e room_1 s m #[Value.ref sb] below meth c H locs (cells + 5) (slots + 30) Q (F0 m 1192 ls [])) :
    W p l e room_1 s m #[Value.ref sb] below meth c H locs cells slots Q (F0 m 339 ls []) := by
  obtain ⟨t, h_t, e2⟩ := g2
  obtain ⟨a, h_a, e3⟩ := g3
  obtain ⟨b, h_b, e4⟩ := g4
  refine lv_aload_n hx hb d_Law_law_339 rfl (lv_at hl 2 rfl) ?_
  refine lv_aload_n hx hb d_Law_law_340 rfl (lv_at hl 1 rfl) ?_
  refine lv_iload hx hb d_Law_law_341 (lv_at hl 0 rfl) ?_
  refine lv_iconst (v := 1) hx hb d_Law_law_343 (by decide) ?_
  refine lv_iadd hx hb d_Law_law_344 ?_
  refine lv_eqi (v := nI (i + 1)) (nI_add i 1) ?_
  refine gm_scr hx hb hXs hbl hE X (k := i + 1) rfl ⟨by omega, by omega⟩ d_Law_law_345 ?_
  refine lv_eqi (v := 0) hw ?_
  refine lv_aload_n hx hb d_Law_law_346 rfl (lv_at hl 1 rfl) ?_
  refine lv_iload hx hb d_Law_law_347 (lv_at hl 0 rfl) ?_
  refine lv_iconst (v := 2) hx hb d_Law_law_349 (by decide) ?_
  refine lv_iadd hx hb d_Law_law_350 ?_
  refine lv_eqi (v := nI (i + 2)) (nI_add i 2) ?_
  refine gm_scr hx hb hXs hbl hE X (k := i + 2) rfl ⟨by omega, by omega⟩ d_Law_law_351 ?_
  refine lv_eqi (v := (nI t)) e2 ?_
  refine lv_aload_n hx hb d_Law_law_352 rfl (lv_at hl 1 rfl) ?_
  refine lv_iload hx hb d_Law_law_353 (lv_at hl 0 rfl) ?_
  refine lv_iconst (v := 3) hx hb d_Law_law_355 (by decide) ?_
  refine lv_iadd hx hb d_Law_law_356 ?_
  refine lv_eqi (v := nI (i + 3)) (nI_add i 3) ?_
  refine gm_scr hx hb hXs hbl hE X (k := i + 3) rfl ⟨by omega, by omega⟩ d_Law_law_357 ?_
  refine lv_eqi (v := (nI a)) e3 ?_
  refine lv_aload_n hx hb d_Law_law_358 rfl (lv_at hl 1 rfl) ?_
  refine lv_iload hx hb d_Law_law_359 (lv_at hl 0 rfl) ?_
  refine lv_iconst (v := 4) hx hb d_Law_law_361 (by decide) ?_
  refine lv_iadd hx hb d_Law_law_362 ?_
  refine lv_eqi (v := nI (i + 4)) (nI_add i 4) ?_
  refine gm_scr hx hb hXs hbl hE X (k := i + 4) rfl ⟨by omega, by omega⟩ d_Law_law_363 ?_
  refine lv_eqi (v := (nI b)) e4 ?_
  refine lv_aload_n hx hb d_Law_law_364 rfl (lv_at hl 4 rfl) ?_
  refine gm_SHi hx hb hml hown hW X (h_Law_work_0 l E ad _ ρ fl hg hk hn om_133 h_t h_a h_b) (n := 6) ⟨⟨wl_Law_86, ws_Law_work, winit_Law, wh_Law_work⟩, by decide +kernel, Nat.le_of_ble_eq_true rfl, Nat.le_of_ble_eq_true rfl⟩ rfl hl.1 rfl (Nat.le_of_ble_eq_true rfl) d_Law_law_365 ⟨by show _ ≤ (629376 : Nat); dsimp only; omega, by show _ ≤ (7207977 : Nat); dsimp only; omega⟩ (fun k M1 H locs hp X => ?_)
  obtain ⟨rfl, ρ1, fl1, r, rfl, hc⟩ := hp
  rw [om_up] at X
  rw [cw_mw] at X
  refine lv_istore (lv' := [(5, .int 0), (4, .int (nI i)), (0, .ref sb), (1, .ref (E.2.1 + 0)), (2, .ref (E.2.1 + 53)), (3, .ref (E.2.1 + 133))]) hx hb d_Law_law_368 hl (by decide) rfl (fun ls hl => ?_)
  refine lv_aload_n hx hb d_Law_law_370 rfl (lv_at hl 4 rfl) ?_
  refine lv_aload_n hx hb d_Law_law_371 rfl (lv_at hl 2 rfl) ?_
  refine lv_iload hx hb d_Law_law_372 (lv_at hl 1 rfl) ?_
  refine lv_iconst (v := 1) hx hb d_Law_law_374 (by decide) ?_
  refine lv_iadd hx hb d_Law_law_375 ?_
  refine lv_eqi (v := nI (i + 1)) (nI_add i 1) ?_
  refine gm_scr hx hb hXs hbl hE X (k := i + 1) rfl ⟨by omega, by omega⟩ d_Law_law_376 ?_
  refine lv_eqi (v := 0) hw ?_
  refine lv_aload_n hx hb d_Law_law_377 rfl (lv_at hl 2 rfl) ?_
  refine lv_iload hx hb d_Law_law_378 (lv_at hl 1 rfl) ?_
  refine lv_iconst (v := 2) hx hb d_Law_law_380 (by decide) ?_
  refine lv_iadd hx hb d_Law_law_381 ?_
  refine lv_eqi (v := nI (i + 2)) (nI_add i 2) ?_
  refine gm_scr hx hb hXs hbl hE X (k := i + 2) rfl ⟨by omega, by omega⟩ d_Law_law_382 ?_
  refine lv_eqi (v := (nI t)) e2 ?_
  refine lv_aload_n hx hb d_Law_law_383 rfl (lv_at hl 2 rfl) ?_
  refine lv_iload hx hb d_Law_law_384 (lv_at hl 1 rfl) ?_
  refine lv_iconst (v := 3) hx hb d_Law_law_386 (by decide) ?_
  refine lv_iadd hx hb d_Law_law_387 ?_
  refine lv_eqi (v := nI (i + 3)) (nI_add i 3) ?_
  refine gm_scr hx hb hXs hbl hE X (k := i + 3) rfl ⟨by omega, by omega⟩ d_Law_law_388 ?_
  refine lv_eqi (v := (nI a)) e3 ?_
  refine lv_aload_n hx hb d_Law_law_389 rfl (lv_at hl 2 rfl) ?_
  refine lv_iload hx hb d_Law_law_390 (lv_at hl 1 rfl) ?_
  refine lv_iconst (v := 4) hx hb d_Law_law_392 (by decide) ?_
  refine lv_iadd hx hb d_Law_law_393 ?_
  refine lv_eqi (v := nI (i + 4)) (nI_add i 4) ?_
  refine gm_scr hx hb hXs hbl hE X (k := i + 4) rfl ⟨by omega, by omega⟩ d_Law_law_394 ?_
  refine lv_eqi (v := (nI b)) e4 ?_
  refine gm_Vi hx hb hml hown hW X o53 (r_Mdl_work_ok_0 l E _ τ cd hk hR hn hS h.2.2.2.1 h.2.2.2.2.1 h.2.2.2.2.2 h_t h_a h_b) (n := 4) ⟨⟨wl_Law_89, wi_Mdl_work, wsel_Mdl_work, winit_Mdl, wc_Mdl_work⟩, by decide +kernel, ⟨Nat.le_of_ble_eq_true rfl, Nat.le_of_ble_eq_true rfl⟩, _, rfl, rfl⟩ rfl hl.1 rfl (Nat.le_of_ble_eq_true rfl) d_Law_law_395 ⟨by show _ ≤ (629376 : Nat); dsimp only; omega, by show _ ≤ (7207977 : Nat); dsimp only; omega⟩ (fun r' M1 H locs hp X => ?_)
  obtain ⟨τ1, rfl, hm⟩ := hp
  refine lv_istore (lv' := [(6, .int r'), (5, .int 0), (4, .int (nI i)), (0, .ref sb), (1, .ref (E.2.1 + 0)), (2, .ref (E.2.1 + 53)), (3, .ref (E.2.1 + 133))]) hx hb d_Law_law_398 hl (by decide) rfl (fun ls hl => ?_)
  refine lv_aload_n hx hb d_Law_law_400 rfl (lv_at hl 5 rfl) ?_
  refine gm_Vi hx hb hml hown hW X o53 (r_Mdl_thrown l E _ τ1 0) (n := 0) ⟨⟨wl_Law_75, wi_Mdl_thrown, wsel_Mdl_thrown, winit_Mdl, wc_Mdl_thrown⟩, by decide +kernel, ⟨Nat.le_of_ble_eq_true rfl, Nat.le_of_ble_eq_true rfl⟩, _, rfl, rfl⟩ rfl hl.1 rfl (Nat.le_of_ble_eq_true rfl) d_Law_law_401 ⟨by show _ ≤ (629376 : Nat); dsimp only; omega, by show _ ≤ (7207977 : Nat); dsimp only; omega⟩ (fun q9 M1 H locs hp X => ?_)
  obtain ⟨rfl, rfl⟩ := hp
  rw [← cw_mw] at X
  refine lv_iload hx hb d_Law_law_404 (lv_at hl 1 rfl) ?_
  refine lv_icmp_eq (tgt := 411) hx hb d_Law_law_406 (by decide) (fun _ => ?_) (fun c9 => absurd (by decide) c9)
  have hrl := rl_work_0 (inv := inv) h h_t h_a h_b hc hm
  refine lv_iload hx hb d_Law_law_411 (lv_at hl 1 rfl) ?_
  refine lv_if_ne (tgt := 435) hx hb d_Law_law_413 (by decide) (fun c9 => absurd rfl c9) (fun _ => ?_)
  obtain ⟨rfl, hrl⟩ := hrl
  refine lv_aload_n hx hb d_Law_law_416 rfl (lv_at hl 6 rfl) ?_
  refine lv_iconst (v := 0) hx hb d_Law_law_417 (by decide) ?_
  refine gm_lald hx hb X (k := 0) (Or.inl (cw_133 om_133)) (by decide) ⟨by decide, by decide⟩ d_Law_law_418 ?_
  refine lv_eql (v := (if r = 0 then 0 else 1)) (updL0 _ _) ?_
  refine lv_iload hx hb d_Law_law_419 (lv_at hl 0 rfl) ?_
  refine lv_if_eq (tgt := 428) hx hb d_Law_law_421 (by decide) (fun c421 => ?_) (fun c421 => ?_)
  · refine lv_lconst (v := 0) hx hb d_Law_law_428 (by decide) ?_
    refine W.lcmp hx hb d_Law_law_429 ?_
    refine lv_if_eq (tgt := 435) hx hb d_Law_law_430 (by decide) (fun _ => ?_) (fun c9 => absurd (lg_eq (if_pos c421)) c9)
    refine lv_goto (tgt := 1192) hx hb d_Law_law_435 (by decide) ?_
    refine gm_wid (k := cells + 5) (n := slots + 30) (by dsimp only; omega) (by dsimp only; omega) ?_
    exact kk ρ1 fl1 τ1 0 (vp_updL fo 0 (if r = 0 then 0 else 1)) H locs ls hrl X (lv_sub hl [2, 3, 4, 5, 6] rfl)
  · refine lv_lconst (v := 1) hx hb d_Law_law_424 (by decide) ?_
    refine lv_goto (tgt := 429) hx hb d_Law_law_425 (by decide) ?_
    refine W.lcmp hx hb d_Law_law_429 ?_
    refine lv_if_eq (tgt := 435) hx hb d_Law_law_430 (by decide) (fun _ => ?_) (fun c9 => absurd (lg_eq (if_neg c421)) c9)
    refine lv_goto (tgt := 1192) hx hb d_Law_law_435 (by decide) ?_
    refine gm_wid (k := cells + 5) (n := slots + 30) (by dsimp only; omega) (by dsimp only; omega) ?_
    exact kk ρ1 fl1 τ1 0 (vp_updL fo 0 (if r = 0 then 0 else 1)) H locs ls hrl X (lv_sub hl [2, 3, 4, 5, 6] rfl)
set_option maxRecDepth 100000 in
set_option maxHeartbeats 8000000 in
theorem cs_work_1 {p : Program} {l : Launch} {e : Env} {s : State} {m : MethodId} {below : List Frame} {meth : Method} {c : Code} {Q : State → Prop} {F G : Type} [Lean.Grind.CommRing F] [Lean.Grind.CommRing G] {φ : Int → F} {inv : F → F} {ψ : Int → G} {E : gm_E} {ad : Nat → Nat} {sb L : Nat} {xs : Nat → Int32} {cells slots : Nat} (hx : p.tables.exec = Jvm.exec) (hb : c.code = code) (hml : c.maxLocals = 8) (hst : l.stackTraces = false) (hown : s.vm.findClass R_Law = some m.cls) (hW : ∀ w ∈ WB, w.before #[Value.ref sb] s = true) (hXs : va_X sb L xs s s.heap) (hbl : sb < s.heap.size) (hE : E.2.1 = s.heap.size) (hL : L ≤ 3072) (hg : gE E ad) (hk : fk φ inv) (hn : fm ψ nN) {Ri : F} (hR : φ (tq 8) * Ri = 1) {Si : G} (hS : ψ (tq 8) * Si = 1) (hcs : cells + 5 ≤ 629376 ∧ slots + 30 ≤ 7207977) {i : Nat} (hi : i + 6 ≤ L) {ρ : Nat → Nat → Int64} {fl : Nat → Int32} {τ : Nat → Nat → Int32} {cd : Int32} {fo : Nat → Int64} (h : RL φ ψ ρ fl τ) {H : Heap} {locs : List Loc} {ls : Array Slot} (X : gx E (LM E ad ρ fl τ cd fo) s H locs) (hl : lv_has ls 8 [(4, .int (nI i)), (0, .ref sb), (1, .ref (E.2.1 + 0)), (2, .ref (E.2.1 + 53)), (3, .ref (E.2.1 + 133))]) (hw : xs (i + 1) = 1) (g2 : inR (xs (i + 2)) 8) (g3 : inR (xs (i + 3)) 8) (g4 : inR (xs (i + 4)) 8)
    (kk : ∀ (ρ' : Nat → Nat → Int64) (fl' : Nat → Int32) (τ' : Nat → Nat → Int32) (cd' : Int32) (fo' : Nat → Int64) (H : Heap) (locs : List Loc) (ls : Array Slot), RL φ ψ ρ' fl' τ' → gx E (LM E ad ρ' fl' τ' cd' fo') s H locs → lv_has ls 8 [(4, .int (nI i)), (0, .ref sb), (1, .ref (E.2.1 + 0)), (2, .ref (E.2.1 + 53)), (3, .ref (E.2.1 + 133))] → W p l e room_1 s m #[Value.ref sb] below meth c H locs (cells + 5) (slots + 30) Q (F0 m 1192 ls [])) :
    W p l e room_1 s m #[Value.ref sb] below meth c H locs cells slots Q (F0 m 339 ls []) := by
  obtain ⟨t, h_t, e2⟩ := g2
  obtain ⟨a, h_a, e3⟩ := g3
  obtain ⟨b, h_b, e4⟩ := g4
  refine lv_aload_n hx hb d_Law_law_339 rfl (lv_at hl 2 rfl) ?_
  refine lv_aload_n hx hb d_Law_law_340 rfl (lv_at hl 1 rfl) ?_
  refine lv_iload hx hb d_Law_law_341 (lv_at hl 0 rfl) ?_
  refine lv_iconst (v := 1) hx hb d_Law_law_343 (by decide) ?_
  refine lv_iadd hx hb d_Law_law_344 ?_
  refine lv_eqi (v := nI (i + 1)) (nI_add i 1) ?_
  refine gm_scr hx hb hXs hbl hE X (k := i + 1) rfl ⟨by omega, by omega⟩ d_Law_law_345 ?_
  refine lv_eqi (v := 1) hw ?_
  refine lv_aload_n hx hb d_Law_law_346 rfl (lv_at hl 1 rfl) ?_
  refine lv_iload hx hb d_Law_law_347 (lv_at hl 0 rfl) ?_
  refine lv_iconst (v := 2) hx hb d_Law_law_349 (by decide) ?_
  refine lv_iadd hx hb d_Law_law_350 ?_
  refine lv_eqi (v := nI (i + 2)) (nI_add i 2) ?_
  refine gm_scr hx hb hXs hbl hE X (k := i + 2) rfl ⟨by omega, by omega⟩ d_Law_law_351 ?_
  refine lv_eqi (v := (nI t)) e2 ?_
  refine lv_aload_n hx hb d_Law_law_352 rfl (lv_at hl 1 rfl) ?_
  refine lv_iload hx hb d_Law_law_353 (lv_at hl 0 rfl) ?_
  refine lv_iconst (v := 3) hx hb d_Law_law_355 (by decide) ?_
  refine lv_iadd hx hb d_Law_law_356 ?_
  refine lv_eqi (v := nI (i + 3)) (nI_add i 3) ?_
  refine gm_scr hx hb hXs hbl hE X (k := i + 3) rfl ⟨by omega, by omega⟩ d_Law_law_357 ?_
  refine lv_eqi (v := (nI a)) e3 ?_
  refine lv_aload_n hx hb d_Law_law_358 rfl (lv_at hl 1 rfl) ?_
  refine lv_iload hx hb d_Law_law_359 (lv_at hl 0 rfl) ?_
  refine lv_iconst (v := 4) hx hb d_Law_law_361 (by decide) ?_
  refine lv_iadd hx hb d_Law_law_362 ?_
  refine lv_eqi (v := nI (i + 4)) (nI_add i 4) ?_
  refine gm_scr hx hb hXs hbl hE X (k := i + 4) rfl ⟨by omega, by omega⟩ d_Law_law_363 ?_
  refine lv_eqi (v := (nI b)) e4 ?_
  refine lv_aload_n hx hb d_Law_law_364 rfl (lv_at hl 4 rfl) ?_
  refine gm_SHi hx hb hml hown hW X (h_Law_work_1 l E ad _ ρ fl hg hk hn om_133 h_t h_a h_b) (n := 6) ⟨⟨wl_Law_86, ws_Law_work, winit_Law, wh_Law_work⟩, by decide +kernel, Nat.le_of_ble_eq_true rfl, Nat.le_of_ble_eq_true rfl⟩ rfl hl.1 rfl (Nat.le_of_ble_eq_true rfl) d_Law_law_365 ⟨by show _ ≤ (629376 : Nat); dsimp only; omega, by show _ ≤ (7207977 : Nat); dsimp only; omega⟩ (fun k M1 H locs hp X => ?_)
  obtain ⟨rfl, ρ1, fl1, r, rfl, hc⟩ := hp
  rw [om_up] at X
  rw [cw_mw] at X
  refine lv_istore (lv' := [(5, .int 0), (4, .int (nI i)), (0, .ref sb), (1, .ref (E.2.1 + 0)), (2, .ref (E.2.1 + 53)), (3, .ref (E.2.1 + 133))]) hx hb d_Law_law_368 hl (by decide) rfl (fun ls hl => ?_)
  refine lv_aload_n hx hb d_Law_law_370 rfl (lv_at hl 4 rfl) ?_
  refine lv_aload_n hx hb d_Law_law_371 rfl (lv_at hl 2 rfl) ?_
  refine lv_iload hx hb d_Law_law_372 (lv_at hl 1 rfl) ?_
  refine lv_iconst (v := 1) hx hb d_Law_law_374 (by decide) ?_
  refine lv_iadd hx hb d_Law_law_375 ?_
  refine lv_eqi (v := nI (i + 1)) (nI_add i 1) ?_
  refine gm_scr hx hb hXs hbl hE X (k := i + 1) rfl ⟨by omega, by omega⟩ d_Law_law_376 ?_
  refine lv_eqi (v := 1) hw ?_
  refine lv_aload_n hx hb d_Law_law_377 rfl (lv_at hl 2 rfl) ?_
  refine lv_iload hx hb d_Law_law_378 (lv_at hl 1 rfl) ?_
  refine lv_iconst (v := 2) hx hb d_Law_law_380 (by decide) ?_
  refine lv_iadd hx hb d_Law_law_381 ?_
  refine lv_eqi (v := nI (i + 2)) (nI_add i 2) ?_
  refine gm_scr hx hb hXs hbl hE X (k := i + 2) rfl ⟨by omega, by omega⟩ d_Law_law_382 ?_
  refine lv_eqi (v := (nI t)) e2 ?_
  refine lv_aload_n hx hb d_Law_law_383 rfl (lv_at hl 2 rfl) ?_
  refine lv_iload hx hb d_Law_law_384 (lv_at hl 1 rfl) ?_
  refine lv_iconst (v := 3) hx hb d_Law_law_386 (by decide) ?_
  refine lv_iadd hx hb d_Law_law_387 ?_
  refine lv_eqi (v := nI (i + 3)) (nI_add i 3) ?_
  refine gm_scr hx hb hXs hbl hE X (k := i + 3) rfl ⟨by omega, by omega⟩ d_Law_law_388 ?_
  refine lv_eqi (v := (nI a)) e3 ?_
  refine lv_aload_n hx hb d_Law_law_389 rfl (lv_at hl 2 rfl) ?_
  refine lv_iload hx hb d_Law_law_390 (lv_at hl 1 rfl) ?_
  refine lv_iconst (v := 4) hx hb d_Law_law_392 (by decide) ?_
  refine lv_iadd hx hb d_Law_law_393 ?_
  refine lv_eqi (v := nI (i + 4)) (nI_add i 4) ?_
  refine gm_scr hx hb hXs hbl hE X (k := i + 4) rfl ⟨by omega, by omega⟩ d_Law_law_394 ?_
  refine lv_eqi (v := (nI b)) e4 ?_
  refine gm_Vi hx hb hml hown hW X o53 (r_Mdl_work_ok_1 l E _ τ cd hk hR hn hS h.2.2.2.1 h.2.2.2.2.1 h.2.2.2.2.2 h_t h_a h_b) (n := 4) ⟨⟨wl_Law_89, wi_Mdl_work, wsel_Mdl_work, winit_Mdl, wc_Mdl_work⟩, by decide +kernel, ⟨Nat.le_of_ble_eq_true rfl, Nat.le_of_ble_eq_true rfl⟩, _, rfl, rfl⟩ rfl hl.1 rfl (Nat.le_of_ble_eq_true rfl) d_Law_law_395 ⟨by show _ ≤ (629376 : Nat); dsimp only; omega, by show _ ≤ (7207977 : Nat); dsimp only; omega⟩ (fun r' M1 H locs hp X => ?_)
  obtain ⟨τ1, rfl, hm⟩ := hp
  refine lv_istore (lv' := [(6, .int r'), (5, .int 0), (4, .int (nI i)), (0, .ref sb), (1, .ref (E.2.1 + 0)), (2, .ref (E.2.1 + 53)), (3, .ref (E.2.1 + 133))]) hx hb d_Law_law_398 hl (by decide) rfl (fun ls hl => ?_)
  refine lv_aload_n hx hb d_Law_law_400 rfl (lv_at hl 5 rfl) ?_
  refine gm_Vi hx hb hml hown hW X o53 (r_Mdl_thrown l E _ τ1 0) (n := 0) ⟨⟨wl_Law_75, wi_Mdl_thrown, wsel_Mdl_thrown, winit_Mdl, wc_Mdl_thrown⟩, by decide +kernel, ⟨Nat.le_of_ble_eq_true rfl, Nat.le_of_ble_eq_true rfl⟩, _, rfl, rfl⟩ rfl hl.1 rfl (Nat.le_of_ble_eq_true rfl) d_Law_law_401 ⟨by show _ ≤ (629376 : Nat); dsimp only; omega, by show _ ≤ (7207977 : Nat); dsimp only; omega⟩ (fun q9 M1 H locs hp X => ?_)
  obtain ⟨rfl, rfl⟩ := hp
  rw [← cw_mw] at X
  refine lv_iload hx hb d_Law_law_404 (lv_at hl 1 rfl) ?_
  refine lv_icmp_eq (tgt := 411) hx hb d_Law_law_406 (by decide) (fun _ => ?_) (fun c9 => absurd (by decide) c9)
  have hrl := rl_work_1 (inv := inv) h h_t h_a h_b hc hm
  refine lv_iload hx hb d_Law_law_411 (lv_at hl 1 rfl) ?_
  refine lv_if_ne (tgt := 435) hx hb d_Law_law_413 (by decide) (fun c9 => absurd rfl c9) (fun _ => ?_)
  obtain ⟨rfl, hrl⟩ := hrl
  refine lv_aload_n hx hb d_Law_law_416 rfl (lv_at hl 6 rfl) ?_
  refine lv_iconst (v := 0) hx hb d_Law_law_417 (by decide) ?_
  refine gm_lald hx hb X (k := 0) (Or.inl (cw_133 om_133)) (by decide) ⟨by decide, by decide⟩ d_Law_law_418 ?_
  refine lv_eql (v := (if r = 0 then 0 else 1)) (updL0 _ _) ?_
  refine lv_iload hx hb d_Law_law_419 (lv_at hl 0 rfl) ?_
  refine lv_if_eq (tgt := 428) hx hb d_Law_law_421 (by decide) (fun c421 => ?_) (fun c421 => ?_)
  · refine lv_lconst (v := 0) hx hb d_Law_law_428 (by decide) ?_
    refine W.lcmp hx hb d_Law_law_429 ?_
    refine lv_if_eq (tgt := 435) hx hb d_Law_law_430 (by decide) (fun _ => ?_) (fun c9 => absurd (lg_eq (if_pos c421)) c9)
    refine lv_goto (tgt := 1192) hx hb d_Law_law_435 (by decide) ?_
    refine gm_wid (k := cells + 5) (n := slots + 30) (by dsimp only; omega) (by dsimp only; omega) ?_
    exact kk ρ1 fl1 τ1 0 (vp_updL fo 0 (if r = 0 then 0 else 1)) H locs ls hrl X (lv_sub hl [2, 3, 4, 5, 6] rfl)
  · refine lv_lconst (v := 1) hx hb d_Law_law_424 (by decide) ?_
    refine lv_goto (tgt := 429) hx hb d_Law_law_425 (by decide) ?_
    refine W.lcmp hx hb d_Law_law_429 ?_
    refine lv_if_eq (tgt := 435) hx hb d_Law_law_430 (by decide) (fun _ => ?_) (fun c9 => absurd (lg_eq (if_neg c421)) c9)
    refine lv_goto (tgt := 1192) hx hb d_Law_law_435 (by decide) ?_
    refine gm_wid (k := cells + 5) (n := slots + 30) (by dsimp only; omega) (by dsimp only; omega) ?_
    exact kk ρ1 fl1 τ1 0 (vp_updL fo 0 (if r = 0 then 0 else 1)) H locs ls hrl X (lv_sub hl [2, 3, 4, 5, 6] rfl)
set_option maxRecDepth 100000 in
set_option maxHeartbeats 8000000 in
theorem cs_work_2 {p : Program} {l : Launch} {e : Env} {s : State} {m : MethodId} {below : List Frame} {meth : Method} {c : Code} {Q : State → Prop} {F G : Type} [Lean.Grind.CommRing F] [Lean.Grind.CommRing G] {φ : Int → F} {inv : F → F} {ψ : Int → G} {E : gm_E} {ad : Nat → Nat} {sb L : Nat} {xs : Nat → Int32} {cells slots : Nat} (hx : p.tables.exec = Jvm.exec) (hb : c.code = code) (hml : c.maxLocals = 8) (hst : l.stackTraces = false) (hown : s.vm.findClass R_Law = some m.cls) (hW : ∀ w ∈ WB, w.before #[Value.ref sb] s = true) (hXs : va_X sb L xs s s.heap) (hbl : sb < s.heap.size) (hE : E.2.1 = s.heap.size) (hL : L ≤ 3072) (hg : gE E ad) (hk : fk φ inv) (hn : fm ψ nN) {Ri : F} (hR : φ (tq 8) * Ri = 1) {Si : G} (hS : ψ (tq 8) * Si = 1) (hcs : cells + 5 ≤ 629376 ∧ slots + 30 ≤ 7207977) {i : Nat} (hi : i + 6 ≤ L) {ρ : Nat → Nat → Int64} {fl : Nat → Int32} {τ : Nat → Nat → Int32} {cd : Int32} {fo : Nat → Int64} (h : RL φ ψ ρ fl τ) {H : Heap} {locs : List Loc} {ls : Array Slot} (X : gx E (LM E ad ρ fl τ cd fo) s H locs) (hl : lv_has ls 8 [(4, .int (nI i)), (0, .ref sb), (1, .ref (E.2.1 + 0)), (2, .ref (E.2.1 + 53)), (3, .ref (E.2.1 + 133))]) (hw : xs (i + 1) = 2) (g2 : inR (xs (i + 2)) 8) (g3 : inR (xs (i + 3)) 8) (g4 : inR (xs (i + 4)) 8)
    (kk : ∀ (ρ' : Nat → Nat → Int64) (fl' : Nat → Int32) (τ' : Nat → Nat → Int32) (cd' : Int32) (fo' : Nat → Int64) (H : Heap) (locs : List Loc) (ls : Array Slot), RL φ ψ ρ' fl' τ' → gx E (LM E ad ρ' fl' τ' cd' fo') s H locs → lv_has ls 8 [(4, .int (nI i)), (0, .ref sb), (1, .ref (E.2.1 + 0)), (2, .ref (E.2.1 + 53)), (3, .ref (E.2.1 + 133))] → W p l e room_1 s m #[Value.ref sb] below meth c H locs (cells + 5) (slots + 30) Q (F0 m 1192 ls [])) :
    W p l e room_1 s m #[Value.ref sb] below meth c H locs cells slots Q (F0 m 339 ls []) := by
  obtain ⟨t, h_t, e2⟩ := g2
  obtain ⟨a, h_a, e3⟩ := g3
  obtain ⟨b, h_b, e4⟩ := g4
  refine lv_aload_n hx hb d_Law_law_339 rfl (lv_at hl 2 rfl) ?_
  refine lv_aload_n hx hb d_Law_law_340 rfl (lv_at hl 1 rfl) ?_
  refine lv_iload hx hb d_Law_law_341 (lv_at hl 0 rfl) ?_
  refine lv_iconst (v := 1) hx hb d_Law_law_343 (by decide) ?_
  refine lv_iadd hx hb d_Law_law_344 ?_
  refine lv_eqi (v := nI (i + 1)) (nI_add i 1) ?_
  refine gm_scr hx hb hXs hbl hE X (k := i + 1) rfl ⟨by omega, by omega⟩ d_Law_law_345 ?_
  refine lv_eqi (v := 2) hw ?_
  refine lv_aload_n hx hb d_Law_law_346 rfl (lv_at hl 1 rfl) ?_
  refine lv_iload hx hb d_Law_law_347 (lv_at hl 0 rfl) ?_
  refine lv_iconst (v := 2) hx hb d_Law_law_349 (by decide) ?_
  refine lv_iadd hx hb d_Law_law_350 ?_
  refine lv_eqi (v := nI (i + 2)) (nI_add i 2) ?_
  refine gm_scr hx hb hXs hbl hE X (k := i + 2) rfl ⟨by omega, by omega⟩ d_Law_law_351 ?_
  refine lv_eqi (v := (nI t)) e2 ?_
  refine lv_aload_n hx hb d_Law_law_352 rfl (lv_at hl 1 rfl) ?_
  refine lv_iload hx hb d_Law_law_353 (lv_at hl 0 rfl) ?_
  refine lv_iconst (v := 3) hx hb d_Law_law_355 (by decide) ?_
  refine lv_iadd hx hb d_Law_law_356 ?_
  refine lv_eqi (v := nI (i + 3)) (nI_add i 3) ?_
  refine gm_scr hx hb hXs hbl hE X (k := i + 3) rfl ⟨by omega, by omega⟩ d_Law_law_357 ?_
  refine lv_eqi (v := (nI a)) e3 ?_
  refine lv_aload_n hx hb d_Law_law_358 rfl (lv_at hl 1 rfl) ?_
  refine lv_iload hx hb d_Law_law_359 (lv_at hl 0 rfl) ?_
  refine lv_iconst (v := 4) hx hb d_Law_law_361 (by decide) ?_
  refine lv_iadd hx hb d_Law_law_362 ?_
  refine lv_eqi (v := nI (i + 4)) (nI_add i 4) ?_
  refine gm_scr hx hb hXs hbl hE X (k := i + 4) rfl ⟨by omega, by omega⟩ d_Law_law_363 ?_
  refine lv_eqi (v := (nI b)) e4 ?_
  refine lv_aload_n hx hb d_Law_law_364 rfl (lv_at hl 4 rfl) ?_
  refine gm_SHi hx hb hml hown hW X (h_Law_work_2 l E ad _ ρ fl hg hk hn om_133 h_t h_a h_b) (n := 6) ⟨⟨wl_Law_86, ws_Law_work, winit_Law, wh_Law_work⟩, by decide +kernel, Nat.le_of_ble_eq_true rfl, Nat.le_of_ble_eq_true rfl⟩ rfl hl.1 rfl (Nat.le_of_ble_eq_true rfl) d_Law_law_365 ⟨by show _ ≤ (629376 : Nat); dsimp only; omega, by show _ ≤ (7207977 : Nat); dsimp only; omega⟩ (fun k M1 H locs hp X => ?_)
  obtain ⟨rfl, ρ1, fl1, r, rfl, hc⟩ := hp
  rw [om_up] at X
  rw [cw_mw] at X
  refine lv_istore (lv' := [(5, .int 0), (4, .int (nI i)), (0, .ref sb), (1, .ref (E.2.1 + 0)), (2, .ref (E.2.1 + 53)), (3, .ref (E.2.1 + 133))]) hx hb d_Law_law_368 hl (by decide) rfl (fun ls hl => ?_)
  refine lv_aload_n hx hb d_Law_law_370 rfl (lv_at hl 4 rfl) ?_
  refine lv_aload_n hx hb d_Law_law_371 rfl (lv_at hl 2 rfl) ?_
  refine lv_iload hx hb d_Law_law_372 (lv_at hl 1 rfl) ?_
  refine lv_iconst (v := 1) hx hb d_Law_law_374 (by decide) ?_
  refine lv_iadd hx hb d_Law_law_375 ?_
  refine lv_eqi (v := nI (i + 1)) (nI_add i 1) ?_
  refine gm_scr hx hb hXs hbl hE X (k := i + 1) rfl ⟨by omega, by omega⟩ d_Law_law_376 ?_
  refine lv_eqi (v := 2) hw ?_
  refine lv_aload_n hx hb d_Law_law_377 rfl (lv_at hl 2 rfl) ?_
  refine lv_iload hx hb d_Law_law_378 (lv_at hl 1 rfl) ?_
  refine lv_iconst (v := 2) hx hb d_Law_law_380 (by decide) ?_
  refine lv_iadd hx hb d_Law_law_381 ?_
  refine lv_eqi (v := nI (i + 2)) (nI_add i 2) ?_
  refine gm_scr hx hb hXs hbl hE X (k := i + 2) rfl ⟨by omega, by omega⟩ d_Law_law_382 ?_
  refine lv_eqi (v := (nI t)) e2 ?_
  refine lv_aload_n hx hb d_Law_law_383 rfl (lv_at hl 2 rfl) ?_
  refine lv_iload hx hb d_Law_law_384 (lv_at hl 1 rfl) ?_
  refine lv_iconst (v := 3) hx hb d_Law_law_386 (by decide) ?_
  refine lv_iadd hx hb d_Law_law_387 ?_
  refine lv_eqi (v := nI (i + 3)) (nI_add i 3) ?_
  refine gm_scr hx hb hXs hbl hE X (k := i + 3) rfl ⟨by omega, by omega⟩ d_Law_law_388 ?_
  refine lv_eqi (v := (nI a)) e3 ?_
  refine lv_aload_n hx hb d_Law_law_389 rfl (lv_at hl 2 rfl) ?_
  refine lv_iload hx hb d_Law_law_390 (lv_at hl 1 rfl) ?_
  refine lv_iconst (v := 4) hx hb d_Law_law_392 (by decide) ?_
  refine lv_iadd hx hb d_Law_law_393 ?_
  refine lv_eqi (v := nI (i + 4)) (nI_add i 4) ?_
  refine gm_scr hx hb hXs hbl hE X (k := i + 4) rfl ⟨by omega, by omega⟩ d_Law_law_394 ?_
  refine lv_eqi (v := (nI b)) e4 ?_
  refine gm_Vi hx hb hml hown hW X o53 (r_Mdl_work_ok_2 l E _ τ cd hk hR hn hS h.2.2.2.1 h.2.2.2.2.1 h.2.2.2.2.2 h_t h_a h_b) (n := 4) ⟨⟨wl_Law_89, wi_Mdl_work, wsel_Mdl_work, winit_Mdl, wc_Mdl_work⟩, by decide +kernel, ⟨Nat.le_of_ble_eq_true rfl, Nat.le_of_ble_eq_true rfl⟩, _, rfl, rfl⟩ rfl hl.1 rfl (Nat.le_of_ble_eq_true rfl) d_Law_law_395 ⟨by show _ ≤ (629376 : Nat); dsimp only; omega, by show _ ≤ (7207977 : Nat); dsimp only; omega⟩ (fun r' M1 H locs hp X => ?_)
  obtain ⟨τ1, rfl, hm⟩ := hp
  refine lv_istore (lv' := [(6, .int r'), (5, .int 0), (4, .int (nI i)), (0, .ref sb), (1, .ref (E.2.1 + 0)), (2, .ref (E.2.1 + 53)), (3, .ref (E.2.1 + 133))]) hx hb d_Law_law_398 hl (by decide) rfl (fun ls hl => ?_)
  refine lv_aload_n hx hb d_Law_law_400 rfl (lv_at hl 5 rfl) ?_
  refine gm_Vi hx hb hml hown hW X o53 (r_Mdl_thrown l E _ τ1 0) (n := 0) ⟨⟨wl_Law_75, wi_Mdl_thrown, wsel_Mdl_thrown, winit_Mdl, wc_Mdl_thrown⟩, by decide +kernel, ⟨Nat.le_of_ble_eq_true rfl, Nat.le_of_ble_eq_true rfl⟩, _, rfl, rfl⟩ rfl hl.1 rfl (Nat.le_of_ble_eq_true rfl) d_Law_law_401 ⟨by show _ ≤ (629376 : Nat); dsimp only; omega, by show _ ≤ (7207977 : Nat); dsimp only; omega⟩ (fun q9 M1 H locs hp X => ?_)
  obtain ⟨rfl, rfl⟩ := hp
  rw [← cw_mw] at X
  refine lv_iload hx hb d_Law_law_404 (lv_at hl 1 rfl) ?_
  refine lv_icmp_eq (tgt := 411) hx hb d_Law_law_406 (by decide) (fun _ => ?_) (fun c9 => absurd (by decide) c9)
  have hrl := rl_work_2 (inv := inv) h h_t h_a h_b hc hm
  refine lv_iload hx hb d_Law_law_411 (lv_at hl 1 rfl) ?_
  refine lv_if_ne (tgt := 435) hx hb d_Law_law_413 (by decide) (fun c9 => absurd rfl c9) (fun _ => ?_)
  obtain ⟨rfl, hrl⟩ := hrl
  refine lv_aload_n hx hb d_Law_law_416 rfl (lv_at hl 6 rfl) ?_
  refine lv_iconst (v := 0) hx hb d_Law_law_417 (by decide) ?_
  refine gm_lald hx hb X (k := 0) (Or.inl (cw_133 om_133)) (by decide) ⟨by decide, by decide⟩ d_Law_law_418 ?_
  refine lv_eql (v := (if r = 0 then 0 else 1)) (updL0 _ _) ?_
  refine lv_iload hx hb d_Law_law_419 (lv_at hl 0 rfl) ?_
  refine lv_if_eq (tgt := 428) hx hb d_Law_law_421 (by decide) (fun c421 => ?_) (fun c421 => ?_)
  · refine lv_lconst (v := 0) hx hb d_Law_law_428 (by decide) ?_
    refine W.lcmp hx hb d_Law_law_429 ?_
    refine lv_if_eq (tgt := 435) hx hb d_Law_law_430 (by decide) (fun _ => ?_) (fun c9 => absurd (lg_eq (if_pos c421)) c9)
    refine lv_goto (tgt := 1192) hx hb d_Law_law_435 (by decide) ?_
    refine gm_wid (k := cells + 5) (n := slots + 30) (by dsimp only; omega) (by dsimp only; omega) ?_
    exact kk ρ1 fl1 τ1 0 (vp_updL fo 0 (if r = 0 then 0 else 1)) H locs ls hrl X (lv_sub hl [2, 3, 4, 5, 6] rfl)
  · refine lv_lconst (v := 1) hx hb d_Law_law_424 (by decide) ?_
    refine lv_goto (tgt := 429) hx hb d_Law_law_425 (by decide) ?_
    refine W.lcmp hx hb d_Law_law_429 ?_
    refine lv_if_eq (tgt := 435) hx hb d_Law_law_430 (by decide) (fun _ => ?_) (fun c9 => absurd (lg_eq (if_neg c421)) c9)
    refine lv_goto (tgt := 1192) hx hb d_Law_law_435 (by decide) ?_
    refine gm_wid (k := cells + 5) (n := slots + 30) (by dsimp only; omega) (by dsimp only; omega) ?_
    exact kk ρ1 fl1 τ1 0 (vp_updL fo 0 (if r = 0 then 0 else 1)) H locs ls hrl X (lv_sub hl [2, 3, 4, 5, 6] rfl)
set_option maxRecDepth 100000 in
set_option maxHeartbeats 8000000 in
theorem cs_work_3 {p : Program} {l : Launch} {e : Env} {s : State} {m : MethodId} {below : List Frame} {meth : Method} {c : Code} {Q : State → Prop} {F G : Type} [Lean.Grind.CommRing F] [Lean.Grind.CommRing G] {φ : Int → F} {inv : F → F} {ψ : Int → G} {E : gm_E} {ad : Nat → Nat} {sb L : Nat} {xs : Nat → Int32} {cells slots : Nat} (hx : p.tables.exec = Jvm.exec) (hb : c.code = code) (hml : c.maxLocals = 8) (hst : l.stackTraces = false) (hown : s.vm.findClass R_Law = some m.cls) (hW : ∀ w ∈ WB, w.before #[Value.ref sb] s = true) (hXs : va_X sb L xs s s.heap) (hbl : sb < s.heap.size) (hE : E.2.1 = s.heap.size) (hL : L ≤ 3072) (hg : gE E ad) (hk : fk φ inv) (hn : fm ψ nN) {Ri : F} (hR : φ (tq 8) * Ri = 1) {Si : G} (hS : ψ (tq 8) * Si = 1) (hcs : cells + 5 ≤ 629376 ∧ slots + 30 ≤ 7207977) {i : Nat} (hi : i + 6 ≤ L) {ρ : Nat → Nat → Int64} {fl : Nat → Int32} {τ : Nat → Nat → Int32} {cd : Int32} {fo : Nat → Int64} (h : RL φ ψ ρ fl τ) {H : Heap} {locs : List Loc} {ls : Array Slot} (X : gx E (LM E ad ρ fl τ cd fo) s H locs) (hl : lv_has ls 8 [(4, .int (nI i)), (0, .ref sb), (1, .ref (E.2.1 + 0)), (2, .ref (E.2.1 + 53)), (3, .ref (E.2.1 + 133))]) (hw : xs (i + 1) = 3) (g2 : inR (xs (i + 2)) 8) (g3 : inR (xs (i + 3)) 8) (g4 : inR (xs (i + 4)) 8)
    (kk : ∀ (ρ' : Nat → Nat → Int64) (fl' : Nat → Int32) (τ' : Nat → Nat → Int32) (cd' : Int32) (fo' : Nat → Int64) (H : Heap) (locs : List Loc) (ls : Array Slot), RL φ ψ ρ' fl' τ' → gx E (LM E ad ρ' fl' τ' cd' fo') s H locs → lv_has ls 8 [(4, .int (nI i)), (0, .ref sb), (1, .ref (E.2.1 + 0)), (2, .ref (E.2.1 + 53)), (3, .ref (E.2.1 + 133))] → W p l e room_1 s m #[Value.ref sb] below meth c H locs (cells + 5) (slots + 30) Q (F0 m 1192 ls [])) :
    W p l e room_1 s m #[Value.ref sb] below meth c H locs cells slots Q (F0 m 339 ls []) := by
  obtain ⟨t, h_t, e2⟩ := g2
  obtain ⟨a, h_a, e3⟩ := g3
  obtain ⟨b, h_b, e4⟩ := g4
  refine lv_aload_n hx hb d_Law_law_339 rfl (lv_at hl 2 rfl) ?_
  refine lv_aload_n hx hb d_Law_law_340 rfl (lv_at hl 1 rfl) ?_
  refine lv_iload hx hb d_Law_law_341 (lv_at hl 0 rfl) ?_
  refine lv_iconst (v := 1) hx hb d_Law_law_343 (by decide) ?_
  refine lv_iadd hx hb d_Law_law_344 ?_
  refine lv_eqi (v := nI (i + 1)) (nI_add i 1) ?_
  refine gm_scr hx hb hXs hbl hE X (k := i + 1) rfl ⟨by omega, by omega⟩ d_Law_law_345 ?_
  refine lv_eqi (v := 3) hw ?_
  refine lv_aload_n hx hb d_Law_law_346 rfl (lv_at hl 1 rfl) ?_
  refine lv_iload hx hb d_Law_law_347 (lv_at hl 0 rfl) ?_
  refine lv_iconst (v := 2) hx hb d_Law_law_349 (by decide) ?_
  refine lv_iadd hx hb d_Law_law_350 ?_
  refine lv_eqi (v := nI (i + 2)) (nI_add i 2) ?_
  refine gm_scr hx hb hXs hbl hE X (k := i + 2) rfl ⟨by omega, by omega⟩ d_Law_law_351 ?_
  refine lv_eqi (v := (nI t)) e2 ?_
  refine lv_aload_n hx hb d_Law_law_352 rfl (lv_at hl 1 rfl) ?_
  refine lv_iload hx hb d_Law_law_353 (lv_at hl 0 rfl) ?_
  refine lv_iconst (v := 3) hx hb d_Law_law_355 (by decide) ?_
  refine lv_iadd hx hb d_Law_law_356 ?_
  refine lv_eqi (v := nI (i + 3)) (nI_add i 3) ?_
  refine gm_scr hx hb hXs hbl hE X (k := i + 3) rfl ⟨by omega, by omega⟩ d_Law_law_357 ?_
  refine lv_eqi (v := (nI a)) e3 ?_
  refine lv_aload_n hx hb d_Law_law_358 rfl (lv_at hl 1 rfl) ?_
  refine lv_iload hx hb d_Law_law_359 (lv_at hl 0 rfl) ?_
  refine lv_iconst (v := 4) hx hb d_Law_law_361 (by decide) ?_
  refine lv_iadd hx hb d_Law_law_362 ?_
  refine lv_eqi (v := nI (i + 4)) (nI_add i 4) ?_
  refine gm_scr hx hb hXs hbl hE X (k := i + 4) rfl ⟨by omega, by omega⟩ d_Law_law_363 ?_
  refine lv_eqi (v := (nI b)) e4 ?_
  refine lv_aload_n hx hb d_Law_law_364 rfl (lv_at hl 4 rfl) ?_
  refine gm_SHi hx hb hml hown hW X (h_Law_work_3 l E ad _ ρ fl hg hk hn om_133 h_t h_a h_b) (n := 6) ⟨⟨wl_Law_86, ws_Law_work, winit_Law, wh_Law_work⟩, by decide +kernel, Nat.le_of_ble_eq_true rfl, Nat.le_of_ble_eq_true rfl⟩ rfl hl.1 rfl (Nat.le_of_ble_eq_true rfl) d_Law_law_365 ⟨by show _ ≤ (629376 : Nat); dsimp only; omega, by show _ ≤ (7207977 : Nat); dsimp only; omega⟩ (fun k M1 H locs hp X => ?_)
  obtain ⟨rfl, ρ1, fl1, r, rfl, hc⟩ := hp
  rw [om_up] at X
  rw [cw_mw] at X
  refine lv_istore (lv' := [(5, .int 0), (4, .int (nI i)), (0, .ref sb), (1, .ref (E.2.1 + 0)), (2, .ref (E.2.1 + 53)), (3, .ref (E.2.1 + 133))]) hx hb d_Law_law_368 hl (by decide) rfl (fun ls hl => ?_)
  refine lv_aload_n hx hb d_Law_law_370 rfl (lv_at hl 4 rfl) ?_
  refine lv_aload_n hx hb d_Law_law_371 rfl (lv_at hl 2 rfl) ?_
  refine lv_iload hx hb d_Law_law_372 (lv_at hl 1 rfl) ?_
  refine lv_iconst (v := 1) hx hb d_Law_law_374 (by decide) ?_
  refine lv_iadd hx hb d_Law_law_375 ?_
  refine lv_eqi (v := nI (i + 1)) (nI_add i 1) ?_
  refine gm_scr hx hb hXs hbl hE X (k := i + 1) rfl ⟨by omega, by omega⟩ d_Law_law_376 ?_
  refine lv_eqi (v := 3) hw ?_
  refine lv_aload_n hx hb d_Law_law_377 rfl (lv_at hl 2 rfl) ?_
  refine lv_iload hx hb d_Law_law_378 (lv_at hl 1 rfl) ?_
  refine lv_iconst (v := 2) hx hb d_Law_law_380 (by decide) ?_
  refine lv_iadd hx hb d_Law_law_381 ?_
  refine lv_eqi (v := nI (i + 2)) (nI_add i 2) ?_
  refine gm_scr hx hb hXs hbl hE X (k := i + 2) rfl ⟨by omega, by omega⟩ d_Law_law_382 ?_
  refine lv_eqi (v := (nI t)) e2 ?_
  refine lv_aload_n hx hb d_Law_law_383 rfl (lv_at hl 2 rfl) ?_
  refine lv_iload hx hb d_Law_law_384 (lv_at hl 1 rfl) ?_
  refine lv_iconst (v := 3) hx hb d_Law_law_386 (by decide) ?_
  refine lv_iadd hx hb d_Law_law_387 ?_
  refine lv_eqi (v := nI (i + 3)) (nI_add i 3) ?_
  refine gm_scr hx hb hXs hbl hE X (k := i + 3) rfl ⟨by omega, by omega⟩ d_Law_law_388 ?_
  refine lv_eqi (v := (nI a)) e3 ?_
  refine lv_aload_n hx hb d_Law_law_389 rfl (lv_at hl 2 rfl) ?_
  refine lv_iload hx hb d_Law_law_390 (lv_at hl 1 rfl) ?_
  refine lv_iconst (v := 4) hx hb d_Law_law_392 (by decide) ?_
  refine lv_iadd hx hb d_Law_law_393 ?_
  refine lv_eqi (v := nI (i + 4)) (nI_add i 4) ?_
  refine gm_scr hx hb hXs hbl hE X (k := i + 4) rfl ⟨by omega, by omega⟩ d_Law_law_394 ?_
  refine lv_eqi (v := (nI b)) e4 ?_
  refine gm_Vi hx hb hml hown hW X o53 (r_Mdl_work_ok_3 l E _ τ cd hk hR hn hS h.2.2.2.1 h.2.2.2.2.1 h.2.2.2.2.2 h_t h_a h_b) (n := 4) ⟨⟨wl_Law_89, wi_Mdl_work, wsel_Mdl_work, winit_Mdl, wc_Mdl_work⟩, by decide +kernel, ⟨Nat.le_of_ble_eq_true rfl, Nat.le_of_ble_eq_true rfl⟩, _, rfl, rfl⟩ rfl hl.1 rfl (Nat.le_of_ble_eq_true rfl) d_Law_law_395 ⟨by show _ ≤ (629376 : Nat); dsimp only; omega, by show _ ≤ (7207977 : Nat); dsimp only; omega⟩ (fun r' M1 H locs hp X => ?_)
  obtain ⟨τ1, rfl, hm⟩ := hp
  refine lv_istore (lv' := [(6, .int r'), (5, .int 0), (4, .int (nI i)), (0, .ref sb), (1, .ref (E.2.1 + 0)), (2, .ref (E.2.1 + 53)), (3, .ref (E.2.1 + 133))]) hx hb d_Law_law_398 hl (by decide) rfl (fun ls hl => ?_)
  refine lv_aload_n hx hb d_Law_law_400 rfl (lv_at hl 5 rfl) ?_
  refine gm_Vi hx hb hml hown hW X o53 (r_Mdl_thrown l E _ τ1 0) (n := 0) ⟨⟨wl_Law_75, wi_Mdl_thrown, wsel_Mdl_thrown, winit_Mdl, wc_Mdl_thrown⟩, by decide +kernel, ⟨Nat.le_of_ble_eq_true rfl, Nat.le_of_ble_eq_true rfl⟩, _, rfl, rfl⟩ rfl hl.1 rfl (Nat.le_of_ble_eq_true rfl) d_Law_law_401 ⟨by show _ ≤ (629376 : Nat); dsimp only; omega, by show _ ≤ (7207977 : Nat); dsimp only; omega⟩ (fun q9 M1 H locs hp X => ?_)
  obtain ⟨rfl, rfl⟩ := hp
  rw [← cw_mw] at X
  refine lv_iload hx hb d_Law_law_404 (lv_at hl 1 rfl) ?_
  refine lv_icmp_eq (tgt := 411) hx hb d_Law_law_406 (by decide) (fun _ => ?_) (fun c9 => absurd (by decide) c9)
  have hrl := rl_work_3 (inv := inv) h h_t h_a h_b hc hm
  refine lv_iload hx hb d_Law_law_411 (lv_at hl 1 rfl) ?_
  refine lv_if_ne (tgt := 435) hx hb d_Law_law_413 (by decide) (fun c9 => absurd rfl c9) (fun _ => ?_)
  obtain ⟨rfl, hrl⟩ := hrl
  refine lv_aload_n hx hb d_Law_law_416 rfl (lv_at hl 6 rfl) ?_
  refine lv_iconst (v := 0) hx hb d_Law_law_417 (by decide) ?_
  refine gm_lald hx hb X (k := 0) (Or.inl (cw_133 om_133)) (by decide) ⟨by decide, by decide⟩ d_Law_law_418 ?_
  refine lv_eql (v := (if r = 0 then 0 else 1)) (updL0 _ _) ?_
  refine lv_iload hx hb d_Law_law_419 (lv_at hl 0 rfl) ?_
  refine lv_if_eq (tgt := 428) hx hb d_Law_law_421 (by decide) (fun c421 => ?_) (fun c421 => ?_)
  · refine lv_lconst (v := 0) hx hb d_Law_law_428 (by decide) ?_
    refine W.lcmp hx hb d_Law_law_429 ?_
    refine lv_if_eq (tgt := 435) hx hb d_Law_law_430 (by decide) (fun _ => ?_) (fun c9 => absurd (lg_eq (if_pos c421)) c9)
    refine lv_goto (tgt := 1192) hx hb d_Law_law_435 (by decide) ?_
    refine gm_wid (k := cells + 5) (n := slots + 30) (by dsimp only; omega) (by dsimp only; omega) ?_
    exact kk ρ1 fl1 τ1 0 (vp_updL fo 0 (if r = 0 then 0 else 1)) H locs ls hrl X (lv_sub hl [2, 3, 4, 5, 6] rfl)
  · refine lv_lconst (v := 1) hx hb d_Law_law_424 (by decide) ?_
    refine lv_goto (tgt := 429) hx hb d_Law_law_425 (by decide) ?_
    refine W.lcmp hx hb d_Law_law_429 ?_
    refine lv_if_eq (tgt := 435) hx hb d_Law_law_430 (by decide) (fun _ => ?_) (fun c9 => absurd (lg_eq (if_neg c421)) c9)
    refine lv_goto (tgt := 1192) hx hb d_Law_law_435 (by decide) ?_
    refine gm_wid (k := cells + 5) (n := slots + 30) (by dsimp only; omega) (by dsimp only; omega) ?_
    exact kk ρ1 fl1 τ1 0 (vp_updL fo 0 (if r = 0 then 0 else 1)) H locs ls hrl X (lv_sub hl [2, 3, 4, 5, 6] rfl)
set_option maxRecDepth 100000 in
set_option maxHeartbeats 8000000 in
theorem cs_work_4 {p : Program} {l : Launch} {e : Env} {s : State} {m : MethodId} {below : List Frame} {meth : Method} {c : Code} {Q : State → Prop} {F G : Type} [Lean.Grind.CommRing F] [Lean.Grind.CommRing G] {φ : Int → F} {inv : F → F} {ψ : Int → G} {E : gm_E} {ad : Nat → Nat} {sb L : Nat} {xs : Nat → Int32} {cells slots : Nat} (hx : p.tables.exec = Jvm.exec) (hb : c.code = code) (hml : c.maxLocals = 8) (hst : l.stackTraces = false) (hown : s.vm.findClass R_Law = some m.cls) (hW : ∀ w ∈ WB, w.before #[Value.ref sb] s = true) (hXs : va_X sb L xs s s.heap) (hbl : sb < s.heap.size) (hE : E.2.1 = s.heap.size) (hL : L ≤ 3072) (hg : gE E ad) (hk : fk φ inv) (hn : fm ψ nN) {Ri : F} (hR : φ (tq 8) * Ri = 1) {Si : G} (hS : ψ (tq 8) * Si = 1) (hcs : cells + 5 ≤ 629376 ∧ slots + 30 ≤ 7207977) {i : Nat} (hi : i + 6 ≤ L) {ρ : Nat → Nat → Int64} {fl : Nat → Int32} {τ : Nat → Nat → Int32} {cd : Int32} {fo : Nat → Int64} (h : RL φ ψ ρ fl τ) {H : Heap} {locs : List Loc} {ls : Array Slot} (X : gx E (LM E ad ρ fl τ cd fo) s H locs) (hl : lv_has ls 8 [(4, .int (nI i)), (0, .ref sb), (1, .ref (E.2.1 + 0)), (2, .ref (E.2.1 + 53)), (3, .ref (E.2.1 + 133))]) (hw : xs (i + 1) = 4) (g2 : inR (xs (i + 2)) 8) (g3 : inR (xs (i + 3)) 8) (g4 : inR (xs (i + 4)) 8)
    (kk : ∀ (ρ' : Nat → Nat → Int64) (fl' : Nat → Int32) (τ' : Nat → Nat → Int32) (cd' : Int32) (fo' : Nat → Int64) (H : Heap) (locs : List Loc) (ls : Array Slot), RL φ ψ ρ' fl' τ' → gx E (LM E ad ρ' fl' τ' cd' fo') s H locs → lv_has ls 8 [(4, .int (nI i)), (0, .ref sb), (1, .ref (E.2.1 + 0)), (2, .ref (E.2.1 + 53)), (3, .ref (E.2.1 + 133))] → W p l e room_1 s m #[Value.ref sb] below meth c H locs (cells + 5) (slots + 30) Q (F0 m 1192 ls [])) :
    W p l e room_1 s m #[Value.ref sb] below meth c H locs cells slots Q (F0 m 339 ls []) := by
  obtain ⟨t, h_t, e2⟩ := g2
  obtain ⟨a, h_a, e3⟩ := g3
  obtain ⟨b, h_b, e4⟩ := g4
  refine lv_aload_n hx hb d_Law_law_339 rfl (lv_at hl 2 rfl) ?_
  refine lv_aload_n hx hb d_Law_law_340 rfl (lv_at hl 1 rfl) ?_
  refine lv_iload hx hb d_Law_law_341 (lv_at hl 0 rfl) ?_
  refine lv_iconst (v := 1) hx hb d_Law_law_343 (by decide) ?_
  refine lv_iadd hx hb d_Law_law_344 ?_
  refine lv_eqi (v := nI (i + 1)) (nI_add i 1) ?_
  refine gm_scr hx hb hXs hbl hE X (k := i + 1) rfl ⟨by omega, by omega⟩ d_Law_law_345 ?_
  refine lv_eqi (v := 4) hw ?_
  refine lv_aload_n hx hb d_Law_law_346 rfl (lv_at hl 1 rfl) ?_
  refine lv_iload hx hb d_Law_law_347 (lv_at hl 0 rfl) ?_
  refine lv_iconst (v := 2) hx hb d_Law_law_349 (by decide) ?_
  refine lv_iadd hx hb d_Law_law_350 ?_
  refine lv_eqi (v := nI (i + 2)) (nI_add i 2) ?_
  refine gm_scr hx hb hXs hbl hE X (k := i + 2) rfl ⟨by omega, by omega⟩ d_Law_law_351 ?_
  refine lv_eqi (v := (nI t)) e2 ?_
  refine lv_aload_n hx hb d_Law_law_352 rfl (lv_at hl 1 rfl) ?_
  refine lv_iload hx hb d_Law_law_353 (lv_at hl 0 rfl) ?_
  refine lv_iconst (v := 3) hx hb d_Law_law_355 (by decide) ?_
  refine lv_iadd hx hb d_Law_law_356 ?_
  refine lv_eqi (v := nI (i + 3)) (nI_add i 3) ?_
  refine gm_scr hx hb hXs hbl hE X (k := i + 3) rfl ⟨by omega, by omega⟩ d_Law_law_357 ?_
  refine lv_eqi (v := (nI a)) e3 ?_
  refine lv_aload_n hx hb d_Law_law_358 rfl (lv_at hl 1 rfl) ?_
  refine lv_iload hx hb d_Law_law_359 (lv_at hl 0 rfl) ?_
  refine lv_iconst (v := 4) hx hb d_Law_law_361 (by decide) ?_
  refine lv_iadd hx hb d_Law_law_362 ?_
  refine lv_eqi (v := nI (i + 4)) (nI_add i 4) ?_
  refine gm_scr hx hb hXs hbl hE X (k := i + 4) rfl ⟨by omega, by omega⟩ d_Law_law_363 ?_
  refine lv_eqi (v := (nI b)) e4 ?_
  refine lv_aload_n hx hb d_Law_law_364 rfl (lv_at hl 4 rfl) ?_
  refine gm_SHi hx hb hml hown hW X (h_Law_work_4 l E ad _ ρ fl hg hk hn om_133 h_t h_a h_b) (n := 6) ⟨⟨wl_Law_86, ws_Law_work, winit_Law, wh_Law_work⟩, by decide +kernel, Nat.le_of_ble_eq_true rfl, Nat.le_of_ble_eq_true rfl⟩ rfl hl.1 rfl (Nat.le_of_ble_eq_true rfl) d_Law_law_365 ⟨by show _ ≤ (629376 : Nat); dsimp only; omega, by show _ ≤ (7207977 : Nat); dsimp only; omega⟩ (fun k M1 H locs hp X => ?_)
  obtain ⟨rfl, ρ1, fl1, r, rfl, hc⟩ := hp
  rw [om_up] at X
  rw [cw_mw] at X
  refine lv_istore (lv' := [(5, .int 0), (4, .int (nI i)), (0, .ref sb), (1, .ref (E.2.1 + 0)), (2, .ref (E.2.1 + 53)), (3, .ref (E.2.1 + 133))]) hx hb d_Law_law_368 hl (by decide) rfl (fun ls hl => ?_)
  refine lv_aload_n hx hb d_Law_law_370 rfl (lv_at hl 4 rfl) ?_
  refine lv_aload_n hx hb d_Law_law_371 rfl (lv_at hl 2 rfl) ?_
  refine lv_iload hx hb d_Law_law_372 (lv_at hl 1 rfl) ?_
  refine lv_iconst (v := 1) hx hb d_Law_law_374 (by decide) ?_
  refine lv_iadd hx hb d_Law_law_375 ?_
  refine lv_eqi (v := nI (i + 1)) (nI_add i 1) ?_
  refine gm_scr hx hb hXs hbl hE X (k := i + 1) rfl ⟨by omega, by omega⟩ d_Law_law_376 ?_
  refine lv_eqi (v := 4) hw ?_
  refine lv_aload_n hx hb d_Law_law_377 rfl (lv_at hl 2 rfl) ?_
  refine lv_iload hx hb d_Law_law_378 (lv_at hl 1 rfl) ?_
  refine lv_iconst (v := 2) hx hb d_Law_law_380 (by decide) ?_
  refine lv_iadd hx hb d_Law_law_381 ?_
  refine lv_eqi (v := nI (i + 2)) (nI_add i 2) ?_
  refine gm_scr hx hb hXs hbl hE X (k := i + 2) rfl ⟨by omega, by omega⟩ d_Law_law_382 ?_
  refine lv_eqi (v := (nI t)) e2 ?_
  refine lv_aload_n hx hb d_Law_law_383 rfl (lv_at hl 2 rfl) ?_
  refine lv_iload hx hb d_Law_law_384 (lv_at hl 1 rfl) ?_
  refine lv_iconst (v := 3) hx hb d_Law_law_386 (by decide) ?_
  refine lv_iadd hx hb d_Law_law_387 ?_
  refine lv_eqi (v := nI (i + 3)) (nI_add i 3) ?_
  refine gm_scr hx hb hXs hbl hE X (k := i + 3) rfl ⟨by omega, by omega⟩ d_Law_law_388 ?_
  refine lv_eqi (v := (nI a)) e3 ?_
  refine lv_aload_n hx hb d_Law_law_389 rfl (lv_at hl 2 rfl) ?_
  refine lv_iload hx hb d_Law_law_390 (lv_at hl 1 rfl) ?_
  refine lv_iconst (v := 4) hx hb d_Law_law_392 (by decide) ?_
  refine lv_iadd hx hb d_Law_law_393 ?_
  refine lv_eqi (v := nI (i + 4)) (nI_add i 4) ?_
  refine gm_scr hx hb hXs hbl hE X (k := i + 4) rfl ⟨by omega, by omega⟩ d_Law_law_394 ?_
  refine lv_eqi (v := (nI b)) e4 ?_
  refine gm_Vi hx hb hml hown hW X o53 (r_Mdl_work_ok_4 l E _ τ cd hk hR hn hS h.2.2.2.1 h.2.2.2.2.1 h.2.2.2.2.2 h_t h_a h_b) (n := 4) ⟨⟨wl_Law_89, wi_Mdl_work, wsel_Mdl_work, winit_Mdl, wc_Mdl_work⟩, by decide +kernel, ⟨Nat.le_of_ble_eq_true rfl, Nat.le_of_ble_eq_true rfl⟩, _, rfl, rfl⟩ rfl hl.1 rfl (Nat.le_of_ble_eq_true rfl) d_Law_law_395 ⟨by show _ ≤ (629376 : Nat); dsimp only; omega, by show _ ≤ (7207977 : Nat); dsimp only; omega⟩ (fun r' M1 H locs hp X => ?_)
  obtain ⟨τ1, rfl, hm⟩ := hp
  refine lv_istore (lv' := [(6, .int r'), (5, .int 0), (4, .int (nI i)), (0, .ref sb), (1, .ref (E.2.1 + 0)), (2, .ref (E.2.1 + 53)), (3, .ref (E.2.1 + 133))]) hx hb d_Law_law_398 hl (by decide) rfl (fun ls hl => ?_)
  refine lv_aload_n hx hb d_Law_law_400 rfl (lv_at hl 5 rfl) ?_
  refine gm_Vi hx hb hml hown hW X o53 (r_Mdl_thrown l E _ τ1 0) (n := 0) ⟨⟨wl_Law_75, wi_Mdl_thrown, wsel_Mdl_thrown, winit_Mdl, wc_Mdl_thrown⟩, by decide +kernel, ⟨Nat.le_of_ble_eq_true rfl, Nat.le_of_ble_eq_true rfl⟩, _, rfl, rfl⟩ rfl hl.1 rfl (Nat.le_of_ble_eq_true rfl) d_Law_law_401 ⟨by show _ ≤ (629376 : Nat); dsimp only; omega, by show _ ≤ (7207977 : Nat); dsimp only; omega⟩ (fun q9 M1 H locs hp X => ?_)
  obtain ⟨rfl, rfl⟩ := hp
  rw [← cw_mw] at X
  refine lv_iload hx hb d_Law_law_404 (lv_at hl 1 rfl) ?_
  refine lv_icmp_eq (tgt := 411) hx hb d_Law_law_406 (by decide) (fun _ => ?_) (fun c9 => absurd (by decide) c9)
  have hrl := rl_work_4 (inv := inv) h h_t h_a h_b hc hm
  refine lv_iload hx hb d_Law_law_411 (lv_at hl 1 rfl) ?_
  refine lv_if_ne (tgt := 435) hx hb d_Law_law_413 (by decide) (fun c9 => absurd rfl c9) (fun _ => ?_)
  obtain ⟨rfl, hrl⟩ := hrl
  refine lv_aload_n hx hb d_Law_law_416 rfl (lv_at hl 6 rfl) ?_
  refine lv_iconst (v := 0) hx hb d_Law_law_417 (by decide) ?_
  refine gm_lald hx hb X (k := 0) (Or.inl (cw_133 om_133)) (by decide) ⟨by decide, by decide⟩ d_Law_law_418 ?_
  refine lv_eql (v := (if r = 0 then 0 else 1)) (updL0 _ _) ?_
  refine lv_iload hx hb d_Law_law_419 (lv_at hl 0 rfl) ?_
  refine lv_if_eq (tgt := 428) hx hb d_Law_law_421 (by decide) (fun c421 => ?_) (fun c421 => ?_)
  · refine lv_lconst (v := 0) hx hb d_Law_law_428 (by decide) ?_
    refine W.lcmp hx hb d_Law_law_429 ?_
    refine lv_if_eq (tgt := 435) hx hb d_Law_law_430 (by decide) (fun _ => ?_) (fun c9 => absurd (lg_eq (if_pos c421)) c9)
    refine lv_goto (tgt := 1192) hx hb d_Law_law_435 (by decide) ?_
    refine gm_wid (k := cells + 5) (n := slots + 30) (by dsimp only; omega) (by dsimp only; omega) ?_
    exact kk ρ1 fl1 τ1 0 (vp_updL fo 0 (if r = 0 then 0 else 1)) H locs ls hrl X (lv_sub hl [2, 3, 4, 5, 6] rfl)
  · refine lv_lconst (v := 1) hx hb d_Law_law_424 (by decide) ?_
    refine lv_goto (tgt := 429) hx hb d_Law_law_425 (by decide) ?_
    refine W.lcmp hx hb d_Law_law_429 ?_
    refine lv_if_eq (tgt := 435) hx hb d_Law_law_430 (by decide) (fun _ => ?_) (fun c9 => absurd (lg_eq (if_neg c421)) c9)
    refine lv_goto (tgt := 1192) hx hb d_Law_law_435 (by decide) ?_
    refine gm_wid (k := cells + 5) (n := slots + 30) (by dsimp only; omega) (by dsimp only; omega) ?_
    exact kk ρ1 fl1 τ1 0 (vp_updL fo 0 (if r = 0 then 0 else 1)) H locs ls hrl X (lv_sub hl [2, 3, 4, 5, 6] rfl)
set_option maxRecDepth 100000 in
set_option maxHeartbeats 8000000 in
theorem cs_work_5 {p : Program} {l : Launch} {e : Env} {s : State} {m : MethodId} {below : List Frame} {meth : Method} {c : Code} {Q : State → Prop} {F G : Type} [Lean.Grind.CommRing F] [Lean.Grind.CommRing G] {φ : Int → F} {inv : F → F} {ψ : Int → G} {E : gm_E} {ad : Nat → Nat} {sb L : Nat} {xs : Nat → Int32} {cells slots : Nat} (hx : p.tables.exec = Jvm.exec) (hb : c.code = code) (hml : c.maxLocals = 8) (hst : l.stackTraces = false) (hown : s.vm.findClass R_Law = some m.cls) (hW : ∀ w ∈ WB, w.before #[Value.ref sb] s = true) (hXs : va_X sb L xs s s.heap) (hbl : sb < s.heap.size) (hE : E.2.1 = s.heap.size) (hL : L ≤ 3072) (hg : gE E ad) (hk : fk φ inv) (hn : fm ψ nN) {Ri : F} (hR : φ (tq 8) * Ri = 1) {Si : G} (hS : ψ (tq 8) * Si = 1) (hcs : cells + 5 ≤ 629376 ∧ slots + 30 ≤ 7207977) {i : Nat} (hi : i + 6 ≤ L) {ρ : Nat → Nat → Int64} {fl : Nat → Int32} {τ : Nat → Nat → Int32} {cd : Int32} {fo : Nat → Int64} (h : RL φ ψ ρ fl τ) {H : Heap} {locs : List Loc} {ls : Array Slot} (X : gx E (LM E ad ρ fl τ cd fo) s H locs) (hl : lv_has ls 8 [(4, .int (nI i)), (0, .ref sb), (1, .ref (E.2.1 + 0)), (2, .ref (E.2.1 + 53)), (3, .ref (E.2.1 + 133))]) (hw : xs (i + 1) = 5) (g2 : inR (xs (i + 2)) 8) (g3 : inR (xs (i + 3)) 8) (g4 : inR (xs (i + 4)) 8)
    (kk : ∀ (ρ' : Nat → Nat → Int64) (fl' : Nat → Int32) (τ' : Nat → Nat → Int32) (cd' : Int32) (fo' : Nat → Int64) (H : Heap) (locs : List Loc) (ls : Array Slot), RL φ ψ ρ' fl' τ' → gx E (LM E ad ρ' fl' τ' cd' fo') s H locs → lv_has ls 8 [(4, .int (nI i)), (0, .ref sb), (1, .ref (E.2.1 + 0)), (2, .ref (E.2.1 + 53)), (3, .ref (E.2.1 + 133))] → W p l e room_1 s m #[Value.ref sb] below meth c H locs (cells + 5) (slots + 30) Q (F0 m 1192 ls [])) :
    W p l e room_1 s m #[Value.ref sb] below meth c H locs cells slots Q (F0 m 339 ls []) := by
  obtain ⟨t, h_t, e2⟩ := g2
  obtain ⟨a, h_a, e3⟩ := g3
  obtain ⟨b, h_b, e4⟩ := g4
  refine lv_aload_n hx hb d_Law_law_339 rfl (lv_at hl 2 rfl) ?_
  refine lv_aload_n hx hb d_Law_law_340 rfl (lv_at hl 1 rfl) ?_
  refine lv_iload hx hb d_Law_law_341 (lv_at hl 0 rfl) ?_
  refine lv_iconst (v := 1) hx hb d_Law_law_343 (by decide) ?_
  refine lv_iadd hx hb d_Law_law_344 ?_
  refine lv_eqi (v := nI (i + 1)) (nI_add i 1) ?_
  refine gm_scr hx hb hXs hbl hE X (k := i + 1) rfl ⟨by omega, by omega⟩ d_Law_law_345 ?_
  refine lv_eqi (v := 5) hw ?_
  refine lv_aload_n hx hb d_Law_law_346 rfl (lv_at hl 1 rfl) ?_
  refine lv_iload hx hb d_Law_law_347 (lv_at hl 0 rfl) ?_
  refine lv_iconst (v := 2) hx hb d_Law_law_349 (by decide) ?_
  refine lv_iadd hx hb d_Law_law_350 ?_
  refine lv_eqi (v := nI (i + 2)) (nI_add i 2) ?_
  refine gm_scr hx hb hXs hbl hE X (k := i + 2) rfl ⟨by omega, by omega⟩ d_Law_law_351 ?_
  refine lv_eqi (v := (nI t)) e2 ?_
  refine lv_aload_n hx hb d_Law_law_352 rfl (lv_at hl 1 rfl) ?_
  refine lv_iload hx hb d_Law_law_353 (lv_at hl 0 rfl) ?_
  refine lv_iconst (v := 3) hx hb d_Law_law_355 (by decide) ?_
  refine lv_iadd hx hb d_Law_law_356 ?_
  refine lv_eqi (v := nI (i + 3)) (nI_add i 3) ?_
  refine gm_scr hx hb hXs hbl hE X (k := i + 3) rfl ⟨by omega, by omega⟩ d_Law_law_357 ?_
  refine lv_eqi (v := (nI a)) e3 ?_
  refine lv_aload_n hx hb d_Law_law_358 rfl (lv_at hl 1 rfl) ?_
  refine lv_iload hx hb d_Law_law_359 (lv_at hl 0 rfl) ?_
  refine lv_iconst (v := 4) hx hb d_Law_law_361 (by decide) ?_
  refine lv_iadd hx hb d_Law_law_362 ?_
  refine lv_eqi (v := nI (i + 4)) (nI_add i 4) ?_
  refine gm_scr hx hb hXs hbl hE X (k := i + 4) rfl ⟨by omega, by omega⟩ d_Law_law_363 ?_
  refine lv_eqi (v := (nI b)) e4 ?_
  refine lv_aload_n hx hb d_Law_law_364 rfl (lv_at hl 4 rfl) ?_
  refine gm_SHi hx hb hml hown hW X (h_Law_work_5 l E ad _ ρ fl hg hk hn om_133 h_t h_a h_b) (n := 6) ⟨⟨wl_Law_86, ws_Law_work, winit_Law, wh_Law_work⟩, by decide +kernel, Nat.le_of_ble_eq_true rfl, Nat.le_of_ble_eq_true rfl⟩ rfl hl.1 rfl (Nat.le_of_ble_eq_true rfl) d_Law_law_365 ⟨by show _ ≤ (629376 : Nat); dsimp only; omega, by show _ ≤ (7207977 : Nat); dsimp only; omega⟩ (fun k M1 H locs hp X => ?_)
  obtain ⟨rfl, ρ1, fl1, r, rfl, hc⟩ := hp
  rw [om_up] at X
  rw [cw_mw] at X
  refine lv_istore (lv' := [(5, .int 0), (4, .int (nI i)), (0, .ref sb), (1, .ref (E.2.1 + 0)), (2, .ref (E.2.1 + 53)), (3, .ref (E.2.1 + 133))]) hx hb d_Law_law_368 hl (by decide) rfl (fun ls hl => ?_)
  refine lv_aload_n hx hb d_Law_law_370 rfl (lv_at hl 4 rfl) ?_
  refine lv_aload_n hx hb d_Law_law_371 rfl (lv_at hl 2 rfl) ?_
  refine lv_iload hx hb d_Law_law_372 (lv_at hl 1 rfl) ?_
  refine lv_iconst (v := 1) hx hb d_Law_law_374 (by decide) ?_
  refine lv_iadd hx hb d_Law_law_375 ?_
  refine lv_eqi (v := nI (i + 1)) (nI_add i 1) ?_
  refine gm_scr hx hb hXs hbl hE X (k := i + 1) rfl ⟨by omega, by omega⟩ d_Law_law_376 ?_
  refine lv_eqi (v := 5) hw ?_
  refine lv_aload_n hx hb d_Law_law_377 rfl (lv_at hl 2 rfl) ?_
  refine lv_iload hx hb d_Law_law_378 (lv_at hl 1 rfl) ?_
  refine lv_iconst (v := 2) hx hb d_Law_law_380 (by decide) ?_
  refine lv_iadd hx hb d_Law_law_381 ?_
  refine lv_eqi (v := nI (i + 2)) (nI_add i 2) ?_
  refine gm_scr hx hb hXs hbl hE X (k := i + 2) rfl ⟨by omega, by omega⟩ d_Law_law_382 ?_
  refine lv_eqi (v := (nI t)) e2 ?_
  refine lv_aload_n hx hb d_Law_law_383 rfl (lv_at hl 2 rfl) ?_
  refine lv_iload hx hb d_Law_law_384 (lv_at hl 1 rfl) ?_
  refine lv_iconst (v := 3) hx hb d_Law_law_386 (by decide) ?_
  refine lv_iadd hx hb d_Law_law_387 ?_
  refine lv_eqi (v := nI (i + 3)) (nI_add i 3) ?_
  refine gm_scr hx hb hXs hbl hE X (k := i + 3) rfl ⟨by omega, by omega⟩ d_Law_law_388 ?_
  refine lv_eqi (v := (nI a)) e3 ?_
  refine lv_aload_n hx hb d_Law_law_389 rfl (lv_at hl 2 rfl) ?_
  refine lv_iload hx hb d_Law_law_390 (lv_at hl 1 rfl) ?_
  refine lv_iconst (v := 4) hx hb d_Law_law_392 (by decide) ?_
  refine lv_iadd hx hb d_Law_law_393 ?_
  refine lv_eqi (v := nI (i + 4)) (nI_add i 4) ?_
  refine gm_scr hx hb hXs hbl hE X (k := i + 4) rfl ⟨by omega, by omega⟩ d_Law_law_394 ?_
  refine lv_eqi (v := (nI b)) e4 ?_
  refine gm_Vi hx hb hml hown hW X o53 (r_Mdl_work_ok_5 l E _ τ cd hk hR hn hS h.2.2.2.1 h.2.2.2.2.1 h.2.2.2.2.2 h_t h_a h_b) (n := 4) ⟨⟨wl_Law_89, wi_Mdl_work, wsel_Mdl_work, winit_Mdl, wc_Mdl_work⟩, by decide +kernel, ⟨Nat.le_of_ble_eq_true rfl, Nat.le_of_ble_eq_true rfl⟩, _, rfl, rfl⟩ rfl hl.1 rfl (Nat.le_of_ble_eq_true rfl) d_Law_law_395 ⟨by show _ ≤ (629376 : Nat); dsimp only; omega, by show _ ≤ (7207977 : Nat); dsimp only; omega⟩ (fun r' M1 H locs hp X => ?_)
  obtain ⟨τ1, rfl, hm⟩ := hp
  refine lv_istore (lv' := [(6, .int r'), (5, .int 0), (4, .int (nI i)), (0, .ref sb), (1, .ref (E.2.1 + 0)), (2, .ref (E.2.1 + 53)), (3, .ref (E.2.1 + 133))]) hx hb d_Law_law_398 hl (by decide) rfl (fun ls hl => ?_)
  refine lv_aload_n hx hb d_Law_law_400 rfl (lv_at hl 5 rfl) ?_
  refine gm_Vi hx hb hml hown hW X o53 (r_Mdl_thrown l E _ τ1 0) (n := 0) ⟨⟨wl_Law_75, wi_Mdl_thrown, wsel_Mdl_thrown, winit_Mdl, wc_Mdl_thrown⟩, by decide +kernel, ⟨Nat.le_of_ble_eq_true rfl, Nat.le_of_ble_eq_true rfl⟩, _, rfl, rfl⟩ rfl hl.1 rfl (Nat.le_of_ble_eq_true rfl) d_Law_law_401 ⟨by show _ ≤ (629376 : Nat); dsimp only; omega, by show _ ≤ (7207977 : Nat); dsimp only; omega⟩ (fun q9 M1 H locs hp X => ?_)
  obtain ⟨rfl, rfl⟩ := hp
  rw [← cw_mw] at X
  refine lv_iload hx hb d_Law_law_404 (lv_at hl 1 rfl) ?_
  refine lv_icmp_eq (tgt := 411) hx hb d_Law_law_406 (by decide) (fun _ => ?_) (fun c9 => absurd (by decide) c9)
  have hrl := rl_work_5 (inv := inv) h h_t h_a h_b hc hm
  refine lv_iload hx hb d_Law_law_411 (lv_at hl 1 rfl) ?_
  refine lv_if_ne (tgt := 435) hx hb d_Law_law_413 (by decide) (fun c9 => absurd rfl c9) (fun _ => ?_)
  obtain ⟨rfl, hrl⟩ := hrl
  refine lv_aload_n hx hb d_Law_law_416 rfl (lv_at hl 6 rfl) ?_
  refine lv_iconst (v := 0) hx hb d_Law_law_417 (by decide) ?_
  refine gm_lald hx hb X (k := 0) (Or.inl (cw_133 om_133)) (by decide) ⟨by decide, by decide⟩ d_Law_law_418 ?_
  refine lv_eql (v := (if r = 0 then 0 else 1)) (updL0 _ _) ?_
  refine lv_iload hx hb d_Law_law_419 (lv_at hl 0 rfl) ?_
  refine lv_if_eq (tgt := 428) hx hb d_Law_law_421 (by decide) (fun c421 => ?_) (fun c421 => ?_)
  · refine lv_lconst (v := 0) hx hb d_Law_law_428 (by decide) ?_
    refine W.lcmp hx hb d_Law_law_429 ?_
    refine lv_if_eq (tgt := 435) hx hb d_Law_law_430 (by decide) (fun _ => ?_) (fun c9 => absurd (lg_eq (if_pos c421)) c9)
    refine lv_goto (tgt := 1192) hx hb d_Law_law_435 (by decide) ?_
    refine gm_wid (k := cells + 5) (n := slots + 30) (by dsimp only; omega) (by dsimp only; omega) ?_
    exact kk ρ1 fl1 τ1 0 (vp_updL fo 0 (if r = 0 then 0 else 1)) H locs ls hrl X (lv_sub hl [2, 3, 4, 5, 6] rfl)
  · refine lv_lconst (v := 1) hx hb d_Law_law_424 (by decide) ?_
    refine lv_goto (tgt := 429) hx hb d_Law_law_425 (by decide) ?_
    refine W.lcmp hx hb d_Law_law_429 ?_
    refine lv_if_eq (tgt := 435) hx hb d_Law_law_430 (by decide) (fun _ => ?_) (fun c9 => absurd (lg_eq (if_neg c421)) c9)
    refine lv_goto (tgt := 1192) hx hb d_Law_law_435 (by decide) ?_
    refine gm_wid (k := cells + 5) (n := slots + 30) (by dsimp only; omega) (by dsimp only; omega) ?_
    exact kk ρ1 fl1 τ1 0 (vp_updL fo 0 (if r = 0 then 0 else 1)) H locs ls hrl X (lv_sub hl [2, 3, 4, 5, 6] rfl)
set_option maxRecDepth 100000 in
set_option maxHeartbeats 8000000 in
theorem cs_work_6 {p : Program} {l : Launch} {e : Env} {s : State} {m : MethodId} {below : List Frame} {meth : Method} {c : Code} {Q : State → Prop} {F G : Type} [Lean.Grind.CommRing F] [Lean.Grind.CommRing G] {φ : Int → F} {inv : F → F} {ψ : Int → G} {E : gm_E} {ad : Nat → Nat} {sb L : Nat} {xs : Nat → Int32} {cells slots : Nat} (hx : p.tables.exec = Jvm.exec) (hb : c.code = code) (hml : c.maxLocals = 8) (hst : l.stackTraces = false) (hown : s.vm.findClass R_Law = some m.cls) (hW : ∀ w ∈ WB, w.before #[Value.ref sb] s = true) (hXs : va_X sb L xs s s.heap) (hbl : sb < s.heap.size) (hE : E.2.1 = s.heap.size) (hL : L ≤ 3072) (hg : gE E ad) (hk : fk φ inv) (hn : fm ψ nN) {Ri : F} (hR : φ (tq 8) * Ri = 1) {Si : G} (hS : ψ (tq 8) * Si = 1) (hcs : cells + 5 ≤ 629376 ∧ slots + 30 ≤ 7207977) {i : Nat} (hi : i + 6 ≤ L) {ρ : Nat → Nat → Int64} {fl : Nat → Int32} {τ : Nat → Nat → Int32} {cd : Int32} {fo : Nat → Int64} (h : RL φ ψ ρ fl τ) {H : Heap} {locs : List Loc} {ls : Array Slot} (X : gx E (LM E ad ρ fl τ cd fo) s H locs) (hl : lv_has ls 8 [(4, .int (nI i)), (0, .ref sb), (1, .ref (E.2.1 + 0)), (2, .ref (E.2.1 + 53)), (3, .ref (E.2.1 + 133))]) (hw : xs (i + 1) = 6) (g2 : inR (xs (i + 2)) 8) (g3 : inR (xs (i + 3)) 8) (g4 : inR (xs (i + 4)) 8)
    (kk : ∀ (ρ' : Nat → Nat → Int64) (fl' : Nat → Int32) (τ' : Nat → Nat → Int32) (cd' : Int32) (fo' : Nat → Int64) (H : Heap) (locs : List Loc) (ls : Array Slot), RL φ ψ ρ' fl' τ' → gx E (LM E ad ρ' fl' τ' cd' fo') s H locs → lv_has ls 8 [(4, .int (nI i)), (0, .ref sb), (1, .ref (E.2.1 + 0)), (2, .ref (E.2.1 + 53)), (3, .ref (E.2.1 + 133))] → W p l e room_1 s m #[Value.ref sb] below meth c H locs (cells + 5) (slots + 30) Q (F0 m 1192 ls [])) :
    W p l e room_1 s m #[Value.ref sb] below meth c H locs cells slots Q (F0 m 339 ls []) := by
  obtain ⟨t, h_t, e2⟩ := g2
  obtain ⟨a, h_a, e3⟩ := g3
  obtain ⟨b, h_b, e4⟩ := g4
  refine lv_aload_n hx hb d_Law_law_339 rfl (lv_at hl 2 rfl) ?_
  refine lv_aload_n hx hb d_Law_law_340 rfl (lv_at hl 1 rfl) ?_
  refine lv_iload hx hb d_Law_law_341 (lv_at hl 0 rfl) ?_
  refine lv_iconst (v := 1) hx hb d_Law_law_343 (by decide) ?_
  refine lv_iadd hx hb d_Law_law_344 ?_
  refine lv_eqi (v := nI (i + 1)) (nI_add i 1) ?_
  refine gm_scr hx hb hXs hbl hE X (k := i + 1) rfl ⟨by omega, by omega⟩ d_Law_law_345 ?_
  refine lv_eqi (v := 6) hw ?_
  refine lv_aload_n hx hb d_Law_law_346 rfl (lv_at hl 1 rfl) ?_
  refine lv_iload hx hb d_Law_law_347 (lv_at hl 0 rfl) ?_
  refine lv_iconst (v := 2) hx hb d_Law_law_349 (by decide) ?_
  refine lv_iadd hx hb d_Law_law_350 ?_
  refine lv_eqi (v := nI (i + 2)) (nI_add i 2) ?_
  refine gm_scr hx hb hXs hbl hE X (k := i + 2) rfl ⟨by omega, by omega⟩ d_Law_law_351 ?_
  refine lv_eqi (v := (nI t)) e2 ?_
  refine lv_aload_n hx hb d_Law_law_352 rfl (lv_at hl 1 rfl) ?_
  refine lv_iload hx hb d_Law_law_353 (lv_at hl 0 rfl) ?_
  refine lv_iconst (v := 3) hx hb d_Law_law_355 (by decide) ?_
  refine lv_iadd hx hb d_Law_law_356 ?_
  refine lv_eqi (v := nI (i + 3)) (nI_add i 3) ?_
  refine gm_scr hx hb hXs hbl hE X (k := i + 3) rfl ⟨by omega, by omega⟩ d_Law_law_357 ?_
  refine lv_eqi (v := (nI a)) e3 ?_
  refine lv_aload_n hx hb d_Law_law_358 rfl (lv_at hl 1 rfl) ?_
  refine lv_iload hx hb d_Law_law_359 (lv_at hl 0 rfl) ?_
  refine lv_iconst (v := 4) hx hb d_Law_law_361 (by decide) ?_
  refine lv_iadd hx hb d_Law_law_362 ?_
  refine lv_eqi (v := nI (i + 4)) (nI_add i 4) ?_
  refine gm_scr hx hb hXs hbl hE X (k := i + 4) rfl ⟨by omega, by omega⟩ d_Law_law_363 ?_
  refine lv_eqi (v := (nI b)) e4 ?_
  refine lv_aload_n hx hb d_Law_law_364 rfl (lv_at hl 4 rfl) ?_
  refine gm_SHi hx hb hml hown hW X (h_Law_work_6 l E ad _ ρ fl hg hk hn om_133 h_t h_a h_b) (n := 6) ⟨⟨wl_Law_86, ws_Law_work, winit_Law, wh_Law_work⟩, by decide +kernel, Nat.le_of_ble_eq_true rfl, Nat.le_of_ble_eq_true rfl⟩ rfl hl.1 rfl (Nat.le_of_ble_eq_true rfl) d_Law_law_365 ⟨by show _ ≤ (629376 : Nat); dsimp only; omega, by show _ ≤ (7207977 : Nat); dsimp only; omega⟩ (fun k M1 H locs hp X => ?_)
  obtain ⟨rfl, ρ1, fl1, r, rfl, hc⟩ := hp
  rw [om_up] at X
  rw [cw_mw] at X
  refine lv_istore (lv' := [(5, .int 0), (4, .int (nI i)), (0, .ref sb), (1, .ref (E.2.1 + 0)), (2, .ref (E.2.1 + 53)), (3, .ref (E.2.1 + 133))]) hx hb d_Law_law_368 hl (by decide) rfl (fun ls hl => ?_)
  refine lv_aload_n hx hb d_Law_law_370 rfl (lv_at hl 4 rfl) ?_
  refine lv_aload_n hx hb d_Law_law_371 rfl (lv_at hl 2 rfl) ?_
  refine lv_iload hx hb d_Law_law_372 (lv_at hl 1 rfl) ?_
  refine lv_iconst (v := 1) hx hb d_Law_law_374 (by decide) ?_
  refine lv_iadd hx hb d_Law_law_375 ?_
  refine lv_eqi (v := nI (i + 1)) (nI_add i 1) ?_
  refine gm_scr hx hb hXs hbl hE X (k := i + 1) rfl ⟨by omega, by omega⟩ d_Law_law_376 ?_
  refine lv_eqi (v := 6) hw ?_
  refine lv_aload_n hx hb d_Law_law_377 rfl (lv_at hl 2 rfl) ?_
  refine lv_iload hx hb d_Law_law_378 (lv_at hl 1 rfl) ?_
  refine lv_iconst (v := 2) hx hb d_Law_law_380 (by decide) ?_
  refine lv_iadd hx hb d_Law_law_381 ?_
  refine lv_eqi (v := nI (i + 2)) (nI_add i 2) ?_
  refine gm_scr hx hb hXs hbl hE X (k := i + 2) rfl ⟨by omega, by omega⟩ d_Law_law_382 ?_
  refine lv_eqi (v := (nI t)) e2 ?_
  refine lv_aload_n hx hb d_Law_law_383 rfl (lv_at hl 2 rfl) ?_
  refine lv_iload hx hb d_Law_law_384 (lv_at hl 1 rfl) ?_
  refine lv_iconst (v := 3) hx hb d_Law_law_386 (by decide) ?_
  refine lv_iadd hx hb d_Law_law_387 ?_
  refine lv_eqi (v := nI (i + 3)) (nI_add i 3) ?_
  refine gm_scr hx hb hXs hbl hE X (k := i + 3) rfl ⟨by omega, by omega⟩ d_Law_law_388 ?_
  refine lv_eqi (v := (nI a)) e3 ?_
  refine lv_aload_n hx hb d_Law_law_389 rfl (lv_at hl 2 rfl) ?_
  refine lv_iload hx hb d_Law_law_390 (lv_at hl 1 rfl) ?_
  refine lv_iconst (v := 4) hx hb d_Law_law_392 (by decide) ?_
  refine lv_iadd hx hb d_Law_law_393 ?_
  refine lv_eqi (v := nI (i + 4)) (nI_add i 4) ?_
  refine gm_scr hx hb hXs hbl hE X (k := i + 4) rfl ⟨by omega, by omega⟩ d_Law_law_394 ?_
  refine lv_eqi (v := (nI b)) e4 ?_
  refine gm_Vi hx hb hml hown hW X o53 (r_Mdl_work_ok_6 l E _ τ cd hk hR hn hS h.2.2.2.1 h.2.2.2.2.1 h.2.2.2.2.2 h_t h_a h_b) (n := 4) ⟨⟨wl_Law_89, wi_Mdl_work, wsel_Mdl_work, winit_Mdl, wc_Mdl_work⟩, by decide +kernel, ⟨Nat.le_of_ble_eq_true rfl, Nat.le_of_ble_eq_true rfl⟩, _, rfl, rfl⟩ rfl hl.1 rfl (Nat.le_of_ble_eq_true rfl) d_Law_law_395 ⟨by show _ ≤ (629376 : Nat); dsimp only; omega, by show _ ≤ (7207977 : Nat); dsimp only; omega⟩ (fun r' M1 H locs hp X => ?_)
  obtain ⟨τ1, rfl, hm⟩ := hp
  refine lv_istore (lv' := [(6, .int r'), (5, .int 0), (4, .int (nI i)), (0, .ref sb), (1, .ref (E.2.1 + 0)), (2, .ref (E.2.1 + 53)), (3, .ref (E.2.1 + 133))]) hx hb d_Law_law_398 hl (by decide) rfl (fun ls hl => ?_)
  refine lv_aload_n hx hb d_Law_law_400 rfl (lv_at hl 5 rfl) ?_
  refine gm_Vi hx hb hml hown hW X o53 (r_Mdl_thrown l E _ τ1 0) (n := 0) ⟨⟨wl_Law_75, wi_Mdl_thrown, wsel_Mdl_thrown, winit_Mdl, wc_Mdl_thrown⟩, by decide +kernel, ⟨Nat.le_of_ble_eq_true rfl, Nat.le_of_ble_eq_true rfl⟩, _, rfl, rfl⟩ rfl hl.1 rfl (Nat.le_of_ble_eq_true rfl) d_Law_law_401 ⟨by show _ ≤ (629376 : Nat); dsimp only; omega, by show _ ≤ (7207977 : Nat); dsimp only; omega⟩ (fun q9 M1 H locs hp X => ?_)
  obtain ⟨rfl, rfl⟩ := hp
  rw [← cw_mw] at X
  refine lv_iload hx hb d_Law_law_404 (lv_at hl 1 rfl) ?_
  refine lv_icmp_eq (tgt := 411) hx hb d_Law_law_406 (by decide) (fun _ => ?_) (fun c9 => absurd (by decide) c9)
  have hrl := rl_work_6 (inv := inv) h h_t h_a h_b hc hm
  refine lv_iload hx hb d_Law_law_411 (lv_at hl 1 rfl) ?_
  refine lv_if_ne (tgt := 435) hx hb d_Law_law_413 (by decide) (fun c9 => absurd rfl c9) (fun _ => ?_)
  obtain ⟨rfl, hrl⟩ := hrl
  refine lv_aload_n hx hb d_Law_law_416 rfl (lv_at hl 6 rfl) ?_
  refine lv_iconst (v := 0) hx hb d_Law_law_417 (by decide) ?_
  refine gm_lald hx hb X (k := 0) (Or.inl (cw_133 om_133)) (by decide) ⟨by decide, by decide⟩ d_Law_law_418 ?_
  refine lv_eql (v := (if r = 0 then 0 else 1)) (updL0 _ _) ?_
  refine lv_iload hx hb d_Law_law_419 (lv_at hl 0 rfl) ?_
  refine lv_if_eq (tgt := 428) hx hb d_Law_law_421 (by decide) (fun c421 => ?_) (fun c421 => ?_)
  · refine lv_lconst (v := 0) hx hb d_Law_law_428 (by decide) ?_
    refine W.lcmp hx hb d_Law_law_429 ?_
    refine lv_if_eq (tgt := 435) hx hb d_Law_law_430 (by decide) (fun _ => ?_) (fun c9 => absurd (lg_eq (if_pos c421)) c9)
    refine lv_goto (tgt := 1192) hx hb d_Law_law_435 (by decide) ?_
    refine gm_wid (k := cells + 5) (n := slots + 30) (by dsimp only; omega) (by dsimp only; omega) ?_
    exact kk ρ1 fl1 τ1 0 (vp_updL fo 0 (if r = 0 then 0 else 1)) H locs ls hrl X (lv_sub hl [2, 3, 4, 5, 6] rfl)
  · refine lv_lconst (v := 1) hx hb d_Law_law_424 (by decide) ?_
    refine lv_goto (tgt := 429) hx hb d_Law_law_425 (by decide) ?_
    refine W.lcmp hx hb d_Law_law_429 ?_
    refine lv_if_eq (tgt := 435) hx hb d_Law_law_430 (by decide) (fun _ => ?_) (fun c9 => absurd (lg_eq (if_neg c421)) c9)
    refine lv_goto (tgt := 1192) hx hb d_Law_law_435 (by decide) ?_
    refine gm_wid (k := cells + 5) (n := slots + 30) (by dsimp only; omega) (by dsimp only; omega) ?_
    exact kk ρ1 fl1 τ1 0 (vp_updL fo 0 (if r = 0 then 0 else 1)) H locs ls hrl X (lv_sub hl [2, 3, 4, 5, 6] rfl)
set_option maxRecDepth 100000 in
set_option maxHeartbeats 8000000 in
theorem cs_work_7 {p : Program} {l : Launch} {e : Env} {s : State} {m : MethodId} {below : List Frame} {meth : Method} {c : Code} {Q : State → Prop} {F G : Type} [Lean.Grind.CommRing F] [Lean.Grind.CommRing G] {φ : Int → F} {inv : F → F} {ψ : Int → G} {E : gm_E} {ad : Nat → Nat} {sb L : Nat} {xs : Nat → Int32} {cells slots : Nat} (hx : p.tables.exec = Jvm.exec) (hb : c.code = code) (hml : c.maxLocals = 8) (hst : l.stackTraces = false) (hown : s.vm.findClass R_Law = some m.cls) (hW : ∀ w ∈ WB, w.before #[Value.ref sb] s = true) (hXs : va_X sb L xs s s.heap) (hbl : sb < s.heap.size) (hE : E.2.1 = s.heap.size) (hL : L ≤ 3072) (hg : gE E ad) (hk : fk φ inv) (hn : fm ψ nN) {Ri : F} (hR : φ (tq 8) * Ri = 1) {Si : G} (hS : ψ (tq 8) * Si = 1) (hcs : cells + 5 ≤ 629376 ∧ slots + 30 ≤ 7207977) {i : Nat} (hi : i + 6 ≤ L) {ρ : Nat → Nat → Int64} {fl : Nat → Int32} {τ : Nat → Nat → Int32} {cd : Int32} {fo : Nat → Int64} (h : RL φ ψ ρ fl τ) {H : Heap} {locs : List Loc} {ls : Array Slot} (X : gx E (LM E ad ρ fl τ cd fo) s H locs) (hl : lv_has ls 8 [(4, .int (nI i)), (0, .ref sb), (1, .ref (E.2.1 + 0)), (2, .ref (E.2.1 + 53)), (3, .ref (E.2.1 + 133))]) (hw : xs (i + 1) = 7) (g2 : inR (xs (i + 2)) 8) (g3 : inR (xs (i + 3)) 8) (g4 : inR (xs (i + 4)) 8)
    (kk : ∀ (ρ' : Nat → Nat → Int64) (fl' : Nat → Int32) (τ' : Nat → Nat → Int32) (cd' : Int32) (fo' : Nat → Int64) (H : Heap) (locs : List Loc) (ls : Array Slot), RL φ ψ ρ' fl' τ' → gx E (LM E ad ρ' fl' τ' cd' fo') s H locs → lv_has ls 8 [(4, .int (nI i)), (0, .ref sb), (1, .ref (E.2.1 + 0)), (2, .ref (E.2.1 + 53)), (3, .ref (E.2.1 + 133))] → W p l e room_1 s m #[Value.ref sb] below meth c H locs (cells + 5) (slots + 30) Q (F0 m 1192 ls [])) :
    W p l e room_1 s m #[Value.ref sb] below meth c H locs cells slots Q (F0 m 339 ls []) := by
  obtain ⟨t, h_t, e2⟩ := g2
  obtain ⟨a, h_a, e3⟩ := g3
  obtain ⟨b, h_b, e4⟩ := g4
  refine lv_aload_n hx hb d_Law_law_339 rfl (lv_at hl 2 rfl) ?_
  refine lv_aload_n hx hb d_Law_law_340 rfl (lv_at hl 1 rfl) ?_
  refine lv_iload hx hb d_Law_law_341 (lv_at hl 0 rfl) ?_
  refine lv_iconst (v := 1) hx hb d_Law_law_343 (by decide) ?_
  refine lv_iadd hx hb d_Law_law_344 ?_
  refine lv_eqi (v := nI (i + 1)) (nI_add i 1) ?_
  refine gm_scr hx hb hXs hbl hE X (k := i + 1) rfl ⟨by omega, by omega⟩ d_Law_law_345 ?_
  refine lv_eqi (v := 7) hw ?_
  refine lv_aload_n hx hb d_Law_law_346 rfl (lv_at hl 1 rfl) ?_
  refine lv_iload hx hb d_Law_law_347 (lv_at hl 0 rfl) ?_
  refine lv_iconst (v := 2) hx hb d_Law_law_349 (by decide) ?_
  refine lv_iadd hx hb d_Law_law_350 ?_
  refine lv_eqi (v := nI (i + 2)) (nI_add i 2) ?_
  refine gm_scr hx hb hXs hbl hE X (k := i + 2) rfl ⟨by omega, by omega⟩ d_Law_law_351 ?_
  refine lv_eqi (v := (nI t)) e2 ?_
  refine lv_aload_n hx hb d_Law_law_352 rfl (lv_at hl 1 rfl) ?_
  refine lv_iload hx hb d_Law_law_353 (lv_at hl 0 rfl) ?_
  refine lv_iconst (v := 3) hx hb d_Law_law_355 (by decide) ?_
  refine lv_iadd hx hb d_Law_law_356 ?_
  refine lv_eqi (v := nI (i + 3)) (nI_add i 3) ?_
  refine gm_scr hx hb hXs hbl hE X (k := i + 3) rfl ⟨by omega, by omega⟩ d_Law_law_357 ?_
  refine lv_eqi (v := (nI a)) e3 ?_
  refine lv_aload_n hx hb d_Law_law_358 rfl (lv_at hl 1 rfl) ?_
  refine lv_iload hx hb d_Law_law_359 (lv_at hl 0 rfl) ?_
  refine lv_iconst (v := 4) hx hb d_Law_law_361 (by decide) ?_
  refine lv_iadd hx hb d_Law_law_362 ?_
  refine lv_eqi (v := nI (i + 4)) (nI_add i 4) ?_
  refine gm_scr hx hb hXs hbl hE X (k := i + 4) rfl ⟨by omega, by omega⟩ d_Law_law_363 ?_
  refine lv_eqi (v := (nI b)) e4 ?_
  refine lv_aload_n hx hb d_Law_law_364 rfl (lv_at hl 4 rfl) ?_
  refine gm_SHi hx hb hml hown hW X (h_Law_work_7 l E ad _ ρ fl hg hk hn om_133 h_t h_a h_b) (n := 6) ⟨⟨wl_Law_86, ws_Law_work, winit_Law, wh_Law_work⟩, by decide +kernel, Nat.le_of_ble_eq_true rfl, Nat.le_of_ble_eq_true rfl⟩ rfl hl.1 rfl (Nat.le_of_ble_eq_true rfl) d_Law_law_365 ⟨by show _ ≤ (629376 : Nat); dsimp only; omega, by show _ ≤ (7207977 : Nat); dsimp only; omega⟩ (fun k M1 H locs hp X => ?_)
  obtain ⟨rfl, ρ1, fl1, r, rfl, hc⟩ := hp
  rw [om_up] at X
  rw [cw_mw] at X
  refine lv_istore (lv' := [(5, .int 0), (4, .int (nI i)), (0, .ref sb), (1, .ref (E.2.1 + 0)), (2, .ref (E.2.1 + 53)), (3, .ref (E.2.1 + 133))]) hx hb d_Law_law_368 hl (by decide) rfl (fun ls hl => ?_)
  refine lv_aload_n hx hb d_Law_law_370 rfl (lv_at hl 4 rfl) ?_
  refine lv_aload_n hx hb d_Law_law_371 rfl (lv_at hl 2 rfl) ?_
  refine lv_iload hx hb d_Law_law_372 (lv_at hl 1 rfl) ?_
  refine lv_iconst (v := 1) hx hb d_Law_law_374 (by decide) ?_
  refine lv_iadd hx hb d_Law_law_375 ?_
  refine lv_eqi (v := nI (i + 1)) (nI_add i 1) ?_
  refine gm_scr hx hb hXs hbl hE X (k := i + 1) rfl ⟨by omega, by omega⟩ d_Law_law_376 ?_
  refine lv_eqi (v := 7) hw ?_
  refine lv_aload_n hx hb d_Law_law_377 rfl (lv_at hl 2 rfl) ?_
  refine lv_iload hx hb d_Law_law_378 (lv_at hl 1 rfl) ?_
  refine lv_iconst (v := 2) hx hb d_Law_law_380 (by decide) ?_
  refine lv_iadd hx hb d_Law_law_381 ?_
  refine lv_eqi (v := nI (i + 2)) (nI_add i 2) ?_
  refine gm_scr hx hb hXs hbl hE X (k := i + 2) rfl ⟨by omega, by omega⟩ d_Law_law_382 ?_
  refine lv_eqi (v := (nI t)) e2 ?_
  refine lv_aload_n hx hb d_Law_law_383 rfl (lv_at hl 2 rfl) ?_
  refine lv_iload hx hb d_Law_law_384 (lv_at hl 1 rfl) ?_
  refine lv_iconst (v := 3) hx hb d_Law_law_386 (by decide) ?_
  refine lv_iadd hx hb d_Law_law_387 ?_
  refine lv_eqi (v := nI (i + 3)) (nI_add i 3) ?_
  refine gm_scr hx hb hXs hbl hE X (k := i + 3) rfl ⟨by omega, by omega⟩ d_Law_law_388 ?_
  refine lv_eqi (v := (nI a)) e3 ?_
  refine lv_aload_n hx hb d_Law_law_389 rfl (lv_at hl 2 rfl) ?_
  refine lv_iload hx hb d_Law_law_390 (lv_at hl 1 rfl) ?_
  refine lv_iconst (v := 4) hx hb d_Law_law_392 (by decide) ?_
  refine lv_iadd hx hb d_Law_law_393 ?_
  refine lv_eqi (v := nI (i + 4)) (nI_add i 4) ?_
  refine gm_scr hx hb hXs hbl hE X (k := i + 4) rfl ⟨by omega, by omega⟩ d_Law_law_394 ?_
  refine lv_eqi (v := (nI b)) e4 ?_
  refine gm_Vi hx hb hml hown hW X o53 (r_Mdl_work_ok_7 l E _ τ cd hk hR hn hS h.2.2.2.1 h.2.2.2.2.1 h.2.2.2.2.2 h_t h_a h_b) (n := 4) ⟨⟨wl_Law_89, wi_Mdl_work, wsel_Mdl_work, winit_Mdl, wc_Mdl_work⟩, by decide +kernel, ⟨Nat.le_of_ble_eq_true rfl, Nat.le_of_ble_eq_true rfl⟩, _, rfl, rfl⟩ rfl hl.1 rfl (Nat.le_of_ble_eq_true rfl) d_Law_law_395 ⟨by show _ ≤ (629376 : Nat); dsimp only; omega, by show _ ≤ (7207977 : Nat); dsimp only; omega⟩ (fun r' M1 H locs hp X => ?_)
  obtain ⟨τ1, rfl, hm⟩ := hp
  refine lv_istore (lv' := [(6, .int r'), (5, .int 0), (4, .int (nI i)), (0, .ref sb), (1, .ref (E.2.1 + 0)), (2, .ref (E.2.1 + 53)), (3, .ref (E.2.1 + 133))]) hx hb d_Law_law_398 hl (by decide) rfl (fun ls hl => ?_)
  refine lv_aload_n hx hb d_Law_law_400 rfl (lv_at hl 5 rfl) ?_
  refine gm_Vi hx hb hml hown hW X o53 (r_Mdl_thrown l E _ τ1 0) (n := 0) ⟨⟨wl_Law_75, wi_Mdl_thrown, wsel_Mdl_thrown, winit_Mdl, wc_Mdl_thrown⟩, by decide +kernel, ⟨Nat.le_of_ble_eq_true rfl, Nat.le_of_ble_eq_true rfl⟩, _, rfl, rfl⟩ rfl hl.1 rfl (Nat.le_of_ble_eq_true rfl) d_Law_law_401 ⟨by show _ ≤ (629376 : Nat); dsimp only; omega, by show _ ≤ (7207977 : Nat); dsimp only; omega⟩ (fun q9 M1 H locs hp X => ?_)
  obtain ⟨rfl, rfl⟩ := hp
  rw [← cw_mw] at X
  refine lv_iload hx hb d_Law_law_404 (lv_at hl 1 rfl) ?_
  refine lv_icmp_eq (tgt := 411) hx hb d_Law_law_406 (by decide) (fun _ => ?_) (fun c9 => absurd (by decide) c9)
  have hrl := rl_work_7 (inv := inv) h h_t h_a h_b hc hm
  refine lv_iload hx hb d_Law_law_411 (lv_at hl 1 rfl) ?_
  refine lv_if_ne (tgt := 435) hx hb d_Law_law_413 (by decide) (fun c9 => absurd rfl c9) (fun _ => ?_)
  obtain ⟨rfl, hrl⟩ := hrl
  refine lv_aload_n hx hb d_Law_law_416 rfl (lv_at hl 6 rfl) ?_
  refine lv_iconst (v := 0) hx hb d_Law_law_417 (by decide) ?_
  refine gm_lald hx hb X (k := 0) (Or.inl (cw_133 om_133)) (by decide) ⟨by decide, by decide⟩ d_Law_law_418 ?_
  refine lv_eql (v := (if r = 0 then 0 else 1)) (updL0 _ _) ?_
  refine lv_iload hx hb d_Law_law_419 (lv_at hl 0 rfl) ?_
  refine lv_if_eq (tgt := 428) hx hb d_Law_law_421 (by decide) (fun c421 => ?_) (fun c421 => ?_)
  · refine lv_lconst (v := 0) hx hb d_Law_law_428 (by decide) ?_
    refine W.lcmp hx hb d_Law_law_429 ?_
    refine lv_if_eq (tgt := 435) hx hb d_Law_law_430 (by decide) (fun _ => ?_) (fun c9 => absurd (lg_eq (if_pos c421)) c9)
    refine lv_goto (tgt := 1192) hx hb d_Law_law_435 (by decide) ?_
    refine gm_wid (k := cells + 5) (n := slots + 30) (by dsimp only; omega) (by dsimp only; omega) ?_
    exact kk ρ1 fl1 τ1 0 (vp_updL fo 0 (if r = 0 then 0 else 1)) H locs ls hrl X (lv_sub hl [2, 3, 4, 5, 6] rfl)
  · refine lv_lconst (v := 1) hx hb d_Law_law_424 (by decide) ?_
    refine lv_goto (tgt := 429) hx hb d_Law_law_425 (by decide) ?_
    refine W.lcmp hx hb d_Law_law_429 ?_
    refine lv_if_eq (tgt := 435) hx hb d_Law_law_430 (by decide) (fun _ => ?_) (fun c9 => absurd (lg_eq (if_neg c421)) c9)
    refine lv_goto (tgt := 1192) hx hb d_Law_law_435 (by decide) ?_
    refine gm_wid (k := cells + 5) (n := slots + 30) (by dsimp only; omega) (by dsimp only; omega) ?_
    exact kk ρ1 fl1 τ1 0 (vp_updL fo 0 (if r = 0 then 0 else 1)) H locs ls hrl X (lv_sub hl [2, 3, 4, 5, 6] rfl)
set_option maxRecDepth 100000 in
set_option maxHeartbeats 8000000 in
theorem cs_base {p : Program} {l : Launch} {e : Env} {s : State} {m : MethodId} {below : List Frame} {meth : Method} {c : Code} {Q : State → Prop} {F G : Type} [Lean.Grind.CommRing F] [Lean.Grind.CommRing G] {φ : Int → F} {inv : F → F} {ψ : Int → G} {E : gm_E} {ad : Nat → Nat} {sb L : Nat} {xs : Nat → Int32} {cells slots : Nat} (hx : p.tables.exec = Jvm.exec) (hb : c.code = code) (hml : c.maxLocals = 8) (hst : l.stackTraces = false) (hown : s.vm.findClass R_Law = some m.cls) (hW : ∀ w ∈ WB, w.before #[Value.ref sb] s = true) (hXs : va_X sb L xs s s.heap) (hbl : sb < s.heap.size) (hE : E.2.1 = s.heap.size) (hL : L ≤ 3072) (hg : gE E ad) (hk : fk φ inv) (hn : fm ψ nN) {Ri : F} (hR : φ (tq 8) * Ri = 1) {Si : G} (hS : ψ (tq 8) * Si = 1) (hcs : cells + 5 ≤ 629376 ∧ slots + 30 ≤ 7207977) {i : Nat} (hi : i + 6 ≤ L) {ρ : Nat → Nat → Int64} {fl : Nat → Int32} {τ : Nat → Nat → Int32} {cd : Int32} {fo : Nat → Int64} (h : RL φ ψ ρ fl τ) {H : Heap} {locs : List Loc} {ls : Array Slot} (X : gx E (LM E ad ρ fl τ cd fo) s H locs) (hl : lv_has ls 8 [(4, .int (nI i)), (0, .ref sb), (1, .ref (E.2.1 + 0)), (2, .ref (E.2.1 + 53)), (3, .ref (E.2.1 + 133))]) (g1 : inR (xs (i + 1)) 4)
    (kk : ∀ (ρ' : Nat → Nat → Int64) (fl' : Nat → Int32) (τ' : Nat → Nat → Int32) (cd' : Int32) (fo' : Nat → Int64) (H : Heap) (locs : List Loc) (ls : Array Slot), RL φ ψ ρ' fl' τ' → gx E (LM E ad ρ' fl' τ' cd' fo') s H locs → lv_has ls 8 [(4, .int (nI i)), (0, .ref sb), (1, .ref (E.2.1 + 0)), (2, .ref (E.2.1 + 53)), (3, .ref (E.2.1 + 133))] → W p l e room_1 s m #[Value.ref sb] below meth c H locs (cells + 5) (slots + 30) Q (F0 m 1192 ls [])) :
    W p l e room_1 s m #[Value.ref sb] below meth c H locs cells slots Q (F0 m 438 ls []) := by
  obtain ⟨t, h_t, e1⟩ := g1
  refine lv_aload_n hx hb d_Law_law_438 rfl (lv_at hl 2 rfl) ?_
  refine lv_aload_n hx hb d_Law_law_439 rfl (lv_at hl 1 rfl) ?_
  refine lv_iload hx hb d_Law_law_440 (lv_at hl 0 rfl) ?_
  refine lv_iconst (v := 1) hx hb d_Law_law_442 (by decide) ?_
  refine lv_iadd hx hb d_Law_law_443 ?_
  refine lv_eqi (v := nI (i + 1)) (nI_add i 1) ?_
  refine gm_scr hx hb hXs hbl hE X (k := i + 1) rfl ⟨by omega, by omega⟩ d_Law_law_444 ?_
  refine lv_eqi (v := (nI t)) e1 ?_
  refine gm_SHi hx hb hml hown hW X (h_Law_base l E ad _ ρ fl hg hk hn h_t h.2.2.1.1) (n := 2) ⟨⟨wl_Law_90, ws_Law_base, winit_Law, wh_Law_base⟩, by decide +kernel, Nat.le_of_ble_eq_true rfl, Nat.le_of_ble_eq_true rfl⟩ rfl hl.1 rfl (Nat.le_of_ble_eq_true rfl) d_Law_law_445 ⟨by show _ ≤ (629376 : Nat); dsimp only; omega, by show _ ≤ (7207977 : Nat); dsimp only; omega⟩ (fun k M1 H locs hp X => ?_)
  obtain ⟨rfl, ρ1, fl1, rfl, hc⟩ := hp
  rw [cw_mw] at X
  refine lv_istore (lv' := [(5, .int 0), (4, .int (nI i)), (0, .ref sb), (1, .ref (E.2.1 + 0)), (2, .ref (E.2.1 + 53)), (3, .ref (E.2.1 + 133))]) hx hb d_Law_law_448 hl (by decide) rfl (fun ls hl => ?_)
  refine lv_aload_n hx hb d_Law_law_450 rfl (lv_at hl 4 rfl) ?_
  refine lv_aload_n hx hb d_Law_law_451 rfl (lv_at hl 2 rfl) ?_
  refine lv_iload hx hb d_Law_law_452 (lv_at hl 1 rfl) ?_
  refine lv_iconst (v := 1) hx hb d_Law_law_454 (by decide) ?_
  refine lv_iadd hx hb d_Law_law_455 ?_
  refine lv_eqi (v := nI (i + 1)) (nI_add i 1) ?_
  refine gm_scr hx hb hXs hbl hE X (k := i + 1) rfl ⟨by omega, by omega⟩ d_Law_law_456 ?_
  refine lv_eqi (v := (nI t)) e1 ?_
  refine gm_Vv hx hb hml hown hW X o53 (r_Mdl_base_ok l E _ τ cd hk hR hn hS h.2.2.2.1 h.2.2.2.2.1 h.2.2.2.2.2 h_t h.2.2.1.2) (n := 1) ⟨⟨wl_Law_93, wi_Mdl_base, wsel_Mdl_base, winit_Mdl, wc_Mdl_base⟩, by decide +kernel, ⟨Nat.le_of_ble_eq_true rfl, Nat.le_of_ble_eq_true rfl⟩, _, rfl, rfl⟩ rfl hl.1 rfl (Nat.le_of_ble_eq_true rfl) d_Law_law_457 ⟨by show _ ≤ (629376 : Nat); dsimp only; omega, by show _ ≤ (7207977 : Nat); dsimp only; omega⟩ (fun M1 H locs hp X => ?_)
  obtain ⟨τ1, rfl, hm⟩ := hp
  refine lv_aload_n hx hb d_Law_law_460 rfl (lv_at hl 4 rfl) ?_
  refine gm_Vi hx hb hml hown hW X o53 (r_Mdl_thrown l E _ τ1 0) (n := 0) ⟨⟨wl_Law_75, wi_Mdl_thrown, wsel_Mdl_thrown, winit_Mdl, wc_Mdl_thrown⟩, by decide +kernel, ⟨Nat.le_of_ble_eq_true rfl, Nat.le_of_ble_eq_true rfl⟩, _, rfl, rfl⟩ rfl hl.1 rfl (Nat.le_of_ble_eq_true rfl) d_Law_law_461 ⟨by show _ ≤ (629376 : Nat); dsimp only; omega, by show _ ≤ (7207977 : Nat); dsimp only; omega⟩ (fun q9 M1 H locs hp X => ?_)
  obtain ⟨rfl, rfl⟩ := hp
  rw [← cw_mw] at X
  refine lv_iload hx hb d_Law_law_464 (lv_at hl 0 rfl) ?_
  refine lv_icmp_eq (tgt := 471) hx hb d_Law_law_466 (by decide) (fun _ => ?_) (fun c9 => absurd (by decide) c9)
  have hrl := rl_base (inv := inv) h h_t hc hm
  refine lv_goto (tgt := 1192) hx hb d_Law_law_471 (by decide) ?_
  refine gm_wid (k := cells + 5) (n := slots + 30) (by dsimp only; omega) (by dsimp only; omega) ?_
  exact kk ρ1 fl1 τ1 0 fo H locs ls hrl X (lv_sub hl [1, 2, 3, 4, 5] rfl)
set_option maxRecDepth 100000 in
set_option maxHeartbeats 8000000 in
theorem cs_none {p : Program} {l : Launch} {e : Env} {s : State} {m : MethodId} {below : List Frame} {meth : Method} {c : Code} {Q : State → Prop} {F G : Type} [Lean.Grind.CommRing F] [Lean.Grind.CommRing G] {φ : Int → F} {inv : F → F} {ψ : Int → G} {E : gm_E} {ad : Nat → Nat} {sb L : Nat} {xs : Nat → Int32} {cells slots : Nat} (hx : p.tables.exec = Jvm.exec) (hb : c.code = code) (hml : c.maxLocals = 8) (hst : l.stackTraces = false) (hown : s.vm.findClass R_Law = some m.cls) (hW : ∀ w ∈ WB, w.before #[Value.ref sb] s = true) (hXs : va_X sb L xs s s.heap) (hbl : sb < s.heap.size) (hE : E.2.1 = s.heap.size) (hL : L ≤ 3072) (hg : gE E ad) (hk : fk φ inv) (hn : fm ψ nN) {Ri : F} (hR : φ (tq 8) * Ri = 1) {Si : G} (hS : ψ (tq 8) * Si = 1) (hcs : cells + 5 ≤ 629376 ∧ slots + 30 ≤ 7207977) {i : Nat} (hi : i + 6 ≤ L) {ρ : Nat → Nat → Int64} {fl : Nat → Int32} {τ : Nat → Nat → Int32} {cd : Int32} {fo : Nat → Int64} (h : RL φ ψ ρ fl τ) {H : Heap} {locs : List Loc} {ls : Array Slot} (X : gx E (LM E ad ρ fl τ cd fo) s H locs) (hl : lv_has ls 8 [(4, .int (nI i)), (0, .ref sb), (1, .ref (E.2.1 + 0)), (2, .ref (E.2.1 + 53)), (3, .ref (E.2.1 + 133))]) (g1 : inR (xs (i + 1)) 4)
    (kk : ∀ (ρ' : Nat → Nat → Int64) (fl' : Nat → Int32) (τ' : Nat → Nat → Int32) (cd' : Int32) (fo' : Nat → Int64) (H : Heap) (locs : List Loc) (ls : Array Slot), RL φ ψ ρ' fl' τ' → gx E (LM E ad ρ' fl' τ' cd' fo') s H locs → lv_has ls 8 [(4, .int (nI i)), (0, .ref sb), (1, .ref (E.2.1 + 0)), (2, .ref (E.2.1 + 53)), (3, .ref (E.2.1 + 133))] → W p l e room_1 s m #[Value.ref sb] below meth c H locs (cells + 5) (slots + 30) Q (F0 m 1192 ls [])) :
    W p l e room_1 s m #[Value.ref sb] below meth c H locs cells slots Q (F0 m 474 ls []) := by
  obtain ⟨t, h_t, e1⟩ := g1
  refine lv_aload_n hx hb d_Law_law_474 rfl (lv_at hl 2 rfl) ?_
  refine lv_aload_n hx hb d_Law_law_475 rfl (lv_at hl 1 rfl) ?_
  refine lv_iload hx hb d_Law_law_476 (lv_at hl 0 rfl) ?_
  refine lv_iconst (v := 1) hx hb d_Law_law_478 (by decide) ?_
  refine lv_iadd hx hb d_Law_law_479 ?_
  refine lv_eqi (v := nI (i + 1)) (nI_add i 1) ?_
  refine gm_scr hx hb hXs hbl hE X (k := i + 1) rfl ⟨by omega, by omega⟩ d_Law_law_480 ?_
  refine lv_eqi (v := (nI t)) e1 ?_
  refine gm_SHi hx hb hml hown hW X (h_Law_none l E ad _ ρ fl hg hk hn h_t) (n := 2) ⟨⟨wl_Law_94, ws_Law_none, winit_Law, wh_Law_none⟩, by decide +kernel, Nat.le_of_ble_eq_true rfl, Nat.le_of_ble_eq_true rfl⟩ rfl hl.1 rfl (Nat.le_of_ble_eq_true rfl) d_Law_law_481 ⟨by show _ ≤ (629376 : Nat); dsimp only; omega, by show _ ≤ (7207977 : Nat); dsimp only; omega⟩ (fun k M1 H locs hp X => ?_)
  obtain ⟨rfl, ρ1, fl1, rfl, hc⟩ := hp
  rw [cw_mw] at X
  refine lv_istore (lv' := [(5, .int 0), (4, .int (nI i)), (0, .ref sb), (1, .ref (E.2.1 + 0)), (2, .ref (E.2.1 + 53)), (3, .ref (E.2.1 + 133))]) hx hb d_Law_law_484 hl (by decide) rfl (fun ls hl => ?_)
  refine lv_aload_n hx hb d_Law_law_486 rfl (lv_at hl 4 rfl) ?_
  refine lv_aload_n hx hb d_Law_law_487 rfl (lv_at hl 2 rfl) ?_
  refine lv_iload hx hb d_Law_law_488 (lv_at hl 1 rfl) ?_
  refine lv_iconst (v := 1) hx hb d_Law_law_490 (by decide) ?_
  refine lv_iadd hx hb d_Law_law_491 ?_
  refine lv_eqi (v := nI (i + 1)) (nI_add i 1) ?_
  refine gm_scr hx hb hXs hbl hE X (k := i + 1) rfl ⟨by omega, by omega⟩ d_Law_law_492 ?_
  refine lv_eqi (v := (nI t)) e1 ?_
  refine gm_Vv hx hb hml hown hW X o53 (r_Mdl_none_ok l E _ τ cd hk hR hn hS h.2.2.2.1 h.2.2.2.2.1 h.2.2.2.2.2 h_t) (n := 1) ⟨⟨wl_Law_96, wi_Mdl_none, wsel_Mdl_none, winit_Mdl, wc_Mdl_none⟩, by decide +kernel, ⟨Nat.le_of_ble_eq_true rfl, Nat.le_of_ble_eq_true rfl⟩, _, rfl, rfl⟩ rfl hl.1 rfl (Nat.le_of_ble_eq_true rfl) d_Law_law_493 ⟨by show _ ≤ (629376 : Nat); dsimp only; omega, by show _ ≤ (7207977 : Nat); dsimp only; omega⟩ (fun M1 H locs hp X => ?_)
  obtain ⟨τ1, rfl, hm⟩ := hp
  refine lv_aload_n hx hb d_Law_law_496 rfl (lv_at hl 4 rfl) ?_
  refine gm_Vi hx hb hml hown hW X o53 (r_Mdl_thrown l E _ τ1 0) (n := 0) ⟨⟨wl_Law_75, wi_Mdl_thrown, wsel_Mdl_thrown, winit_Mdl, wc_Mdl_thrown⟩, by decide +kernel, ⟨Nat.le_of_ble_eq_true rfl, Nat.le_of_ble_eq_true rfl⟩, _, rfl, rfl⟩ rfl hl.1 rfl (Nat.le_of_ble_eq_true rfl) d_Law_law_497 ⟨by show _ ≤ (629376 : Nat); dsimp only; omega, by show _ ≤ (7207977 : Nat); dsimp only; omega⟩ (fun q9 M1 H locs hp X => ?_)
  obtain ⟨rfl, rfl⟩ := hp
  rw [← cw_mw] at X
  refine lv_iload hx hb d_Law_law_500 (lv_at hl 0 rfl) ?_
  refine lv_icmp_eq (tgt := 507) hx hb d_Law_law_502 (by decide) (fun _ => ?_) (fun c9 => absurd (by decide) c9)
  have hrl := rl_none (inv := inv) h h_t hc hm
  refine lv_goto (tgt := 1192) hx hb d_Law_law_507 (by decide) ?_
  refine gm_wid (k := cells + 5) (n := slots + 30) (by dsimp only; omega) (by dsimp only; omega) ?_
  exact kk ρ1 fl1 τ1 0 fo H locs ls hrl X (lv_sub hl [1, 2, 3, 4, 5] rfl)
set_option maxRecDepth 100000 in
set_option maxHeartbeats 8000000 in
theorem cs_lay {p : Program} {l : Launch} {e : Env} {s : State} {m : MethodId} {below : List Frame} {meth : Method} {c : Code} {Q : State → Prop} {F G : Type} [Lean.Grind.CommRing F] [Lean.Grind.CommRing G] {φ : Int → F} {inv : F → F} {ψ : Int → G} {E : gm_E} {ad : Nat → Nat} {sb L : Nat} {xs : Nat → Int32} {cells slots : Nat} (hx : p.tables.exec = Jvm.exec) (hb : c.code = code) (hml : c.maxLocals = 8) (hst : l.stackTraces = false) (hown : s.vm.findClass R_Law = some m.cls) (hW : ∀ w ∈ WB, w.before #[Value.ref sb] s = true) (hXs : va_X sb L xs s s.heap) (hbl : sb < s.heap.size) (hE : E.2.1 = s.heap.size) (hL : L ≤ 3072) (hg : gE E ad) (hk : fk φ inv) (hn : fm ψ nN) {Ri : F} (hR : φ (tq 8) * Ri = 1) {Si : G} (hS : ψ (tq 8) * Si = 1) (hcs : cells + 5 ≤ 629376 ∧ slots + 30 ≤ 7207977) {i : Nat} (hi : i + 6 ≤ L) {ρ : Nat → Nat → Int64} {fl : Nat → Int32} {τ : Nat → Nat → Int32} {cd : Int32} {fo : Nat → Int64} (h : RL φ ψ ρ fl τ) {H : Heap} {locs : List Loc} {ls : Array Slot} (X : gx E (LM E ad ρ fl τ cd fo) s H locs) (hl : lv_has ls 8 [(4, .int (nI i)), (0, .ref sb), (1, .ref (E.2.1 + 0)), (2, .ref (E.2.1 + 53)), (3, .ref (E.2.1 + 133))]) (g1 : inR (xs (i + 1)) 4) (g2 : inR (xs (i + 2)) 8) (g3 : inR (xs (i + 3)) 8)
    (kk : ∀ (ρ' : Nat → Nat → Int64) (fl' : Nat → Int32) (τ' : Nat → Nat → Int32) (cd' : Int32) (fo' : Nat → Int64) (H : Heap) (locs : List Loc) (ls : Array Slot), RL φ ψ ρ' fl' τ' → gx E (LM E ad ρ' fl' τ' cd' fo') s H locs → lv_has ls 8 [(4, .int (nI i)), (0, .ref sb), (1, .ref (E.2.1 + 0)), (2, .ref (E.2.1 + 53)), (3, .ref (E.2.1 + 133))] → W p l e room_1 s m #[Value.ref sb] below meth c H locs (cells + 5) (slots + 30) Q (F0 m 1192 ls [])) :
    W p l e room_1 s m #[Value.ref sb] below meth c H locs cells slots Q (F0 m 510 ls []) := by
  obtain ⟨t, h_t, e1⟩ := g1
  obtain ⟨a, h_a, e2⟩ := g2
  obtain ⟨b, h_b, e3⟩ := g3
  refine lv_aload_n hx hb d_Law_law_510 rfl (lv_at hl 2 rfl) ?_
  refine lv_aload_n hx hb d_Law_law_511 rfl (lv_at hl 1 rfl) ?_
  refine lv_iload hx hb d_Law_law_512 (lv_at hl 0 rfl) ?_
  refine lv_iconst (v := 1) hx hb d_Law_law_514 (by decide) ?_
  refine lv_iadd hx hb d_Law_law_515 ?_
  refine lv_eqi (v := nI (i + 1)) (nI_add i 1) ?_
  refine gm_scr hx hb hXs hbl hE X (k := i + 1) rfl ⟨by omega, by omega⟩ d_Law_law_516 ?_
  refine lv_eqi (v := (nI t)) e1 ?_
  refine lv_aload_n hx hb d_Law_law_517 rfl (lv_at hl 1 rfl) ?_
  refine lv_iload hx hb d_Law_law_518 (lv_at hl 0 rfl) ?_
  refine lv_iconst (v := 2) hx hb d_Law_law_520 (by decide) ?_
  refine lv_iadd hx hb d_Law_law_521 ?_
  refine lv_eqi (v := nI (i + 2)) (nI_add i 2) ?_
  refine gm_scr hx hb hXs hbl hE X (k := i + 2) rfl ⟨by omega, by omega⟩ d_Law_law_522 ?_
  refine lv_eqi (v := (nI a)) e2 ?_
  refine lv_aload_n hx hb d_Law_law_523 rfl (lv_at hl 1 rfl) ?_
  refine lv_iload hx hb d_Law_law_524 (lv_at hl 0 rfl) ?_
  refine lv_iconst (v := 3) hx hb d_Law_law_526 (by decide) ?_
  refine lv_iadd hx hb d_Law_law_527 ?_
  refine lv_eqi (v := nI (i + 3)) (nI_add i 3) ?_
  refine gm_scr hx hb hXs hbl hE X (k := i + 3) rfl ⟨by omega, by omega⟩ d_Law_law_528 ?_
  refine lv_eqi (v := (nI b)) e3 ?_
  refine lv_aload_n hx hb d_Law_law_529 rfl (lv_at hl 4 rfl) ?_
  refine gm_SHi hx hb hml hown hW X (h_Law_lay l E ad _ ρ fl hg hk hn om_133 h_t h_a h_b) (n := 5) ⟨⟨wl_Law_97, ws_Law_lay, winit_Law, wh_Law_lay⟩, by decide +kernel, Nat.le_of_ble_eq_true rfl, Nat.le_of_ble_eq_true rfl⟩ rfl hl.1 rfl (Nat.le_of_ble_eq_true rfl) d_Law_law_530 ⟨by show _ ≤ (629376 : Nat); dsimp only; omega, by show _ ≤ (7207977 : Nat); dsimp only; omega⟩ (fun k M1 H locs hp X => ?_)
  obtain ⟨rfl, ρ1, fl1, r, rfl, hc⟩ := hp
  rw [om_up] at X
  rw [cw_mw] at X
  refine lv_istore (lv' := [(5, .int 0), (4, .int (nI i)), (0, .ref sb), (1, .ref (E.2.1 + 0)), (2, .ref (E.2.1 + 53)), (3, .ref (E.2.1 + 133))]) hx hb d_Law_law_533 hl (by decide) rfl (fun ls hl => ?_)
  refine lv_aload_n hx hb d_Law_law_535 rfl (lv_at hl 4 rfl) ?_
  refine lv_aload_n hx hb d_Law_law_536 rfl (lv_at hl 2 rfl) ?_
  refine lv_iload hx hb d_Law_law_537 (lv_at hl 1 rfl) ?_
  refine lv_iconst (v := 1) hx hb d_Law_law_539 (by decide) ?_
  refine lv_iadd hx hb d_Law_law_540 ?_
  refine lv_eqi (v := nI (i + 1)) (nI_add i 1) ?_
  refine gm_scr hx hb hXs hbl hE X (k := i + 1) rfl ⟨by omega, by omega⟩ d_Law_law_541 ?_
  refine lv_eqi (v := (nI t)) e1 ?_
  refine lv_aload_n hx hb d_Law_law_542 rfl (lv_at hl 2 rfl) ?_
  refine lv_iload hx hb d_Law_law_543 (lv_at hl 1 rfl) ?_
  refine lv_iconst (v := 2) hx hb d_Law_law_545 (by decide) ?_
  refine lv_iadd hx hb d_Law_law_546 ?_
  refine lv_eqi (v := nI (i + 2)) (nI_add i 2) ?_
  refine gm_scr hx hb hXs hbl hE X (k := i + 2) rfl ⟨by omega, by omega⟩ d_Law_law_547 ?_
  refine lv_eqi (v := (nI a)) e2 ?_
  refine lv_aload_n hx hb d_Law_law_548 rfl (lv_at hl 2 rfl) ?_
  refine lv_iload hx hb d_Law_law_549 (lv_at hl 1 rfl) ?_
  refine lv_iconst (v := 3) hx hb d_Law_law_551 (by decide) ?_
  refine lv_iadd hx hb d_Law_law_552 ?_
  refine lv_eqi (v := nI (i + 3)) (nI_add i 3) ?_
  refine gm_scr hx hb hXs hbl hE X (k := i + 3) rfl ⟨by omega, by omega⟩ d_Law_law_553 ?_
  refine lv_eqi (v := (nI b)) e3 ?_
  refine gm_Vi hx hb hml hown hW X o53 (r_Mdl_lay_ok l E _ τ cd hk hR hn hS h.2.2.2.1 h.2.2.2.2.1 h.2.2.2.2.2 h_t h_a h_b) (n := 3) ⟨⟨wl_Law_100, wi_Mdl_lay, wsel_Mdl_lay, winit_Mdl, wc_Mdl_lay⟩, by decide +kernel, ⟨Nat.le_of_ble_eq_true rfl, Nat.le_of_ble_eq_true rfl⟩, _, rfl, rfl⟩ rfl hl.1 rfl (Nat.le_of_ble_eq_true rfl) d_Law_law_554 ⟨by show _ ≤ (629376 : Nat); dsimp only; omega, by show _ ≤ (7207977 : Nat); dsimp only; omega⟩ (fun r' M1 H locs hp X => ?_)
  obtain ⟨τ1, rfl, hm⟩ := hp
  refine lv_istore (lv' := [(6, .int r'), (5, .int 0), (4, .int (nI i)), (0, .ref sb), (1, .ref (E.2.1 + 0)), (2, .ref (E.2.1 + 53)), (3, .ref (E.2.1 + 133))]) hx hb d_Law_law_557 hl (by decide) rfl (fun ls hl => ?_)
  refine lv_aload_n hx hb d_Law_law_559 rfl (lv_at hl 5 rfl) ?_
  refine gm_Vi hx hb hml hown hW X o53 (r_Mdl_thrown l E _ τ1 0) (n := 0) ⟨⟨wl_Law_75, wi_Mdl_thrown, wsel_Mdl_thrown, winit_Mdl, wc_Mdl_thrown⟩, by decide +kernel, ⟨Nat.le_of_ble_eq_true rfl, Nat.le_of_ble_eq_true rfl⟩, _, rfl, rfl⟩ rfl hl.1 rfl (Nat.le_of_ble_eq_true rfl) d_Law_law_560 ⟨by show _ ≤ (629376 : Nat); dsimp only; omega, by show _ ≤ (7207977 : Nat); dsimp only; omega⟩ (fun q9 M1 H locs hp X => ?_)
  obtain ⟨rfl, rfl⟩ := hp
  rw [← cw_mw] at X
  refine lv_iload hx hb d_Law_law_563 (lv_at hl 1 rfl) ?_
  refine lv_icmp_eq (tgt := 570) hx hb d_Law_law_565 (by decide) (fun _ => ?_) (fun c9 => absurd (by decide) c9)
  have hrl := rl_lay (inv := inv) h h_t h_a h_b hc hm
  refine lv_iload hx hb d_Law_law_570 (lv_at hl 1 rfl) ?_
  refine lv_if_ne (tgt := 594) hx hb d_Law_law_572 (by decide) (fun c9 => absurd rfl c9) (fun _ => ?_)
  obtain ⟨rfl, hrl⟩ := hrl
  refine lv_aload_n hx hb d_Law_law_575 rfl (lv_at hl 6 rfl) ?_
  refine lv_iconst (v := 0) hx hb d_Law_law_576 (by decide) ?_
  refine gm_lald hx hb X (k := 0) (Or.inl (cw_133 om_133)) (by decide) ⟨by decide, by decide⟩ d_Law_law_577 ?_
  refine lv_eql (v := (if r = 0 then 0 else 1)) (updL0 _ _) ?_
  refine lv_iload hx hb d_Law_law_578 (lv_at hl 0 rfl) ?_
  refine lv_if_eq (tgt := 587) hx hb d_Law_law_580 (by decide) (fun c580 => ?_) (fun c580 => ?_)
  · refine lv_lconst (v := 0) hx hb d_Law_law_587 (by decide) ?_
    refine W.lcmp hx hb d_Law_law_588 ?_
    refine lv_if_eq (tgt := 594) hx hb d_Law_law_589 (by decide) (fun _ => ?_) (fun c9 => absurd (lg_eq (if_pos c580)) c9)
    refine lv_goto (tgt := 1192) hx hb d_Law_law_594 (by decide) ?_
    refine gm_wid (k := cells + 5) (n := slots + 30) (by dsimp only; omega) (by dsimp only; omega) ?_
    exact kk ρ1 fl1 τ1 0 (vp_updL fo 0 (if r = 0 then 0 else 1)) H locs ls hrl X (lv_sub hl [2, 3, 4, 5, 6] rfl)
  · refine lv_lconst (v := 1) hx hb d_Law_law_583 (by decide) ?_
    refine lv_goto (tgt := 588) hx hb d_Law_law_584 (by decide) ?_
    refine W.lcmp hx hb d_Law_law_588 ?_
    refine lv_if_eq (tgt := 594) hx hb d_Law_law_589 (by decide) (fun _ => ?_) (fun c9 => absurd (lg_eq (if_neg c580)) c9)
    refine lv_goto (tgt := 1192) hx hb d_Law_law_594 (by decide) ?_
    refine gm_wid (k := cells + 5) (n := slots + 30) (by dsimp only; omega) (by dsimp only; omega) ?_
    exact kk ρ1 fl1 τ1 0 (vp_updL fo 0 (if r = 0 then 0 else 1)) H locs ls hrl X (lv_sub hl [2, 3, 4, 5, 6] rfl)
set_option maxRecDepth 100000 in
set_option maxHeartbeats 8000000 in
theorem cs_lift_0 {p : Program} {l : Launch} {e : Env} {s : State} {m : MethodId} {below : List Frame} {meth : Method} {c : Code} {Q : State → Prop} {F G : Type} [Lean.Grind.CommRing F] [Lean.Grind.CommRing G] {φ : Int → F} {inv : F → F} {ψ : Int → G} {E : gm_E} {ad : Nat → Nat} {sb L : Nat} {xs : Nat → Int32} {cells slots : Nat} (hx : p.tables.exec = Jvm.exec) (hb : c.code = code) (hml : c.maxLocals = 8) (hst : l.stackTraces = false) (hown : s.vm.findClass R_Law = some m.cls) (hW : ∀ w ∈ WB, w.before #[Value.ref sb] s = true) (hXs : va_X sb L xs s s.heap) (hbl : sb < s.heap.size) (hE : E.2.1 = s.heap.size) (hL : L ≤ 3072) (hg : gE E ad) (hk : fk φ inv) (hn : fm ψ nN) {Ri : F} (hR : φ (tq 8) * Ri = 1) {Si : G} (hS : ψ (tq 8) * Si = 1) (hcs : cells + 5 ≤ 629376 ∧ slots + 30 ≤ 7207977) {i : Nat} (hi : i + 6 ≤ L) {ρ : Nat → Nat → Int64} {fl : Nat → Int32} {τ : Nat → Nat → Int32} {cd : Int32} {fo : Nat → Int64} (h : RL φ ψ ρ fl τ) {H : Heap} {locs : List Loc} {ls : Array Slot} (X : gx E (LM E ad ρ fl τ cd fo) s H locs) (hl : lv_has ls 8 [(4, .int (nI i)), (0, .ref sb), (1, .ref (E.2.1 + 0)), (2, .ref (E.2.1 + 53)), (3, .ref (E.2.1 + 133))]) (g1 : inR (xs (i + 1)) 4) (g2 : inR (xs (i + 2)) 8) (hod : xs (i + 3) = 0)
    (kk : ∀ (ρ' : Nat → Nat → Int64) (fl' : Nat → Int32) (τ' : Nat → Nat → Int32) (cd' : Int32) (fo' : Nat → Int64) (H : Heap) (locs : List Loc) (ls : Array Slot), RL φ ψ ρ' fl' τ' → gx E (LM E ad ρ' fl' τ' cd' fo') s H locs → lv_has ls 8 [(4, .int (nI i)), (0, .ref sb), (1, .ref (E.2.1 + 0)), (2, .ref (E.2.1 + 53)), (3, .ref (E.2.1 + 133))] → W p l e room_1 s m #[Value.ref sb] below meth c H locs (cells + 5) (slots + 30) Q (F0 m 1192 ls [])) :
    W p l e room_1 s m #[Value.ref sb] below meth c H locs cells slots Q (F0 m 597 ls []) := by
  obtain ⟨t, h_t, e1⟩ := g1
  obtain ⟨a, h_a, e2⟩ := g2
  refine lv_aload_n hx hb d_Law_law_597 rfl (lv_at hl 2 rfl) ?_
  refine lv_aload_n hx hb d_Law_law_598 rfl (lv_at hl 1 rfl) ?_
  refine lv_iload hx hb d_Law_law_599 (lv_at hl 0 rfl) ?_
  refine lv_iconst (v := 1) hx hb d_Law_law_601 (by decide) ?_
  refine lv_iadd hx hb d_Law_law_602 ?_
  refine lv_eqi (v := nI (i + 1)) (nI_add i 1) ?_
  refine gm_scr hx hb hXs hbl hE X (k := i + 1) rfl ⟨by omega, by omega⟩ d_Law_law_603 ?_
  refine lv_eqi (v := (nI t)) e1 ?_
  refine lv_aload_n hx hb d_Law_law_604 rfl (lv_at hl 1 rfl) ?_
  refine lv_iload hx hb d_Law_law_605 (lv_at hl 0 rfl) ?_
  refine lv_iconst (v := 2) hx hb d_Law_law_607 (by decide) ?_
  refine lv_iadd hx hb d_Law_law_608 ?_
  refine lv_eqi (v := nI (i + 2)) (nI_add i 2) ?_
  refine gm_scr hx hb hXs hbl hE X (k := i + 2) rfl ⟨by omega, by omega⟩ d_Law_law_609 ?_
  refine lv_eqi (v := (nI a)) e2 ?_
  refine lv_aload_n hx hb d_Law_law_610 rfl (lv_at hl 1 rfl) ?_
  refine lv_iload hx hb d_Law_law_611 (lv_at hl 0 rfl) ?_
  refine lv_iconst (v := 3) hx hb d_Law_law_613 (by decide) ?_
  refine lv_iadd hx hb d_Law_law_614 ?_
  refine lv_eqi (v := nI (i + 3)) (nI_add i 3) ?_
  refine gm_scr hx hb hXs hbl hE X (k := i + 3) rfl ⟨by omega, by omega⟩ d_Law_law_615 ?_
  refine lv_if_eq (tgt := 623) hx hb d_Law_law_616 (by decide) (fun _ => ?_) (fun c9 => absurd hod c9)
  refine lv_iconst (v := 0) hx hb d_Law_law_623 (by decide) ?_
  refine lv_aload_n hx hb d_Law_law_624 rfl (lv_at hl 4 rfl) ?_
  refine gm_SHi hx hb hml hown hW X (h_Law_lift l E ad _ ρ fl hg hk hn om_133 h_t h_a (odd := 0) (by decide)) (n := 5) ⟨⟨wl_Law_101, ws_Law_lift, winit_Law, wh_Law_lift⟩, by decide +kernel, Nat.le_of_ble_eq_true rfl, Nat.le_of_ble_eq_true rfl⟩ rfl hl.1 rfl (Nat.le_of_ble_eq_true rfl) d_Law_law_625 ⟨by show _ ≤ (629376 : Nat); dsimp only; omega, by show _ ≤ (7207977 : Nat); dsimp only; omega⟩ (fun k M1 H locs hp X => ?_)
  obtain ⟨rfl, ρ1, fl1, r, rfl, hc⟩ := hp
  rw [om_up] at X
  rw [cw_mw] at X
  refine lv_istore (lv' := [(5, .int 0), (4, .int (nI i)), (0, .ref sb), (1, .ref (E.2.1 + 0)), (2, .ref (E.2.1 + 53)), (3, .ref (E.2.1 + 133))]) hx hb d_Law_law_628 hl (by decide) rfl (fun ls hl => ?_)
  refine lv_aload_n hx hb d_Law_law_630 rfl (lv_at hl 4 rfl) ?_
  refine lv_aload_n hx hb d_Law_law_631 rfl (lv_at hl 2 rfl) ?_
  refine lv_iload hx hb d_Law_law_632 (lv_at hl 1 rfl) ?_
  refine lv_iconst (v := 1) hx hb d_Law_law_634 (by decide) ?_
  refine lv_iadd hx hb d_Law_law_635 ?_
  refine lv_eqi (v := nI (i + 1)) (nI_add i 1) ?_
  refine gm_scr hx hb hXs hbl hE X (k := i + 1) rfl ⟨by omega, by omega⟩ d_Law_law_636 ?_
  refine lv_eqi (v := (nI t)) e1 ?_
  refine lv_aload_n hx hb d_Law_law_637 rfl (lv_at hl 2 rfl) ?_
  refine lv_iload hx hb d_Law_law_638 (lv_at hl 1 rfl) ?_
  refine lv_iconst (v := 2) hx hb d_Law_law_640 (by decide) ?_
  refine lv_iadd hx hb d_Law_law_641 ?_
  refine lv_eqi (v := nI (i + 2)) (nI_add i 2) ?_
  refine gm_scr hx hb hXs hbl hE X (k := i + 2) rfl ⟨by omega, by omega⟩ d_Law_law_642 ?_
  refine lv_eqi (v := (nI a)) e2 ?_
  refine lv_aload_n hx hb d_Law_law_643 rfl (lv_at hl 2 rfl) ?_
  refine lv_iload hx hb d_Law_law_644 (lv_at hl 1 rfl) ?_
  refine lv_iconst (v := 3) hx hb d_Law_law_646 (by decide) ?_
  refine lv_iadd hx hb d_Law_law_647 ?_
  refine lv_eqi (v := nI (i + 3)) (nI_add i 3) ?_
  refine gm_scr hx hb hXs hbl hE X (k := i + 3) rfl ⟨by omega, by omega⟩ d_Law_law_648 ?_
  refine lv_if_eq (tgt := 656) hx hb d_Law_law_649 (by decide) (fun _ => ?_) (fun c9 => absurd hod c9)
  refine lv_iconst (v := 0) hx hb d_Law_law_656 (by decide) ?_
  refine gm_Vi hx hb hml hown hW X o53 (r_Mdl_lift_ok l E _ τ cd hk hR hn hS h.2.2.2.1 h.2.2.2.2.1 h.2.2.2.2.2 h_t h_a (odd := 0) (by decide)) (n := 3) ⟨⟨wl_Law_104, wi_Mdl_lift, wsel_Mdl_lift, winit_Mdl, wc_Mdl_lift⟩, by decide +kernel, ⟨Nat.le_of_ble_eq_true rfl, Nat.le_of_ble_eq_true rfl⟩, _, rfl, rfl⟩ rfl hl.1 rfl (Nat.le_of_ble_eq_true rfl) d_Law_law_657 ⟨by show _ ≤ (629376 : Nat); dsimp only; omega, by show _ ≤ (7207977 : Nat); dsimp only; omega⟩ (fun r' M1 H locs hp X => ?_)
  obtain ⟨τ1, rfl, hm⟩ := hp
  refine lv_istore (lv' := [(6, .int r'), (5, .int 0), (4, .int (nI i)), (0, .ref sb), (1, .ref (E.2.1 + 0)), (2, .ref (E.2.1 + 53)), (3, .ref (E.2.1 + 133))]) hx hb d_Law_law_660 hl (by decide) rfl (fun ls hl => ?_)
  refine lv_aload_n hx hb d_Law_law_662 rfl (lv_at hl 5 rfl) ?_
  refine gm_Vi hx hb hml hown hW X o53 (r_Mdl_thrown l E _ τ1 0) (n := 0) ⟨⟨wl_Law_75, wi_Mdl_thrown, wsel_Mdl_thrown, winit_Mdl, wc_Mdl_thrown⟩, by decide +kernel, ⟨Nat.le_of_ble_eq_true rfl, Nat.le_of_ble_eq_true rfl⟩, _, rfl, rfl⟩ rfl hl.1 rfl (Nat.le_of_ble_eq_true rfl) d_Law_law_663 ⟨by show _ ≤ (629376 : Nat); dsimp only; omega, by show _ ≤ (7207977 : Nat); dsimp only; omega⟩ (fun q9 M1 H locs hp X => ?_)
  obtain ⟨rfl, rfl⟩ := hp
  rw [← cw_mw] at X
  refine lv_iload hx hb d_Law_law_666 (lv_at hl 1 rfl) ?_
  refine lv_icmp_eq (tgt := 673) hx hb d_Law_law_668 (by decide) (fun _ => ?_) (fun c9 => absurd (by decide) c9)
  have hrl := rl_lift (inv := inv) h h_t h_a hc hm
  refine lv_iload hx hb d_Law_law_673 (lv_at hl 1 rfl) ?_
  refine lv_if_ne (tgt := 697) hx hb d_Law_law_675 (by decide) (fun c9 => absurd rfl c9) (fun _ => ?_)
  obtain ⟨rfl, hrl⟩ := hrl
  refine lv_aload_n hx hb d_Law_law_678 rfl (lv_at hl 6 rfl) ?_
  refine lv_iconst (v := 0) hx hb d_Law_law_679 (by decide) ?_
  refine gm_lald hx hb X (k := 0) (Or.inl (cw_133 om_133)) (by decide) ⟨by decide, by decide⟩ d_Law_law_680 ?_
  refine lv_eql (v := (if r = 0 then 0 else 1)) (updL0 _ _) ?_
  refine lv_iload hx hb d_Law_law_681 (lv_at hl 0 rfl) ?_
  refine lv_if_eq (tgt := 690) hx hb d_Law_law_683 (by decide) (fun c683 => ?_) (fun c683 => ?_)
  · refine lv_lconst (v := 0) hx hb d_Law_law_690 (by decide) ?_
    refine W.lcmp hx hb d_Law_law_691 ?_
    refine lv_if_eq (tgt := 697) hx hb d_Law_law_692 (by decide) (fun _ => ?_) (fun c9 => absurd (lg_eq (if_pos c683)) c9)
    refine lv_goto (tgt := 1192) hx hb d_Law_law_697 (by decide) ?_
    refine gm_wid (k := cells + 5) (n := slots + 30) (by dsimp only; omega) (by dsimp only; omega) ?_
    exact kk ρ1 fl1 τ1 0 (vp_updL fo 0 (if r = 0 then 0 else 1)) H locs ls hrl X (lv_sub hl [2, 3, 4, 5, 6] rfl)
  · refine lv_lconst (v := 1) hx hb d_Law_law_686 (by decide) ?_
    refine lv_goto (tgt := 691) hx hb d_Law_law_687 (by decide) ?_
    refine W.lcmp hx hb d_Law_law_691 ?_
    refine lv_if_eq (tgt := 697) hx hb d_Law_law_692 (by decide) (fun _ => ?_) (fun c9 => absurd (lg_eq (if_neg c683)) c9)
    refine lv_goto (tgt := 1192) hx hb d_Law_law_697 (by decide) ?_
    refine gm_wid (k := cells + 5) (n := slots + 30) (by dsimp only; omega) (by dsimp only; omega) ?_
    exact kk ρ1 fl1 τ1 0 (vp_updL fo 0 (if r = 0 then 0 else 1)) H locs ls hrl X (lv_sub hl [2, 3, 4, 5, 6] rfl)
theorem cs_lift_1 {p : Program} {l : Launch} {e : Env} {s : State} {m : MethodId} {below : List Frame} {meth : Method} {c : Code} {Q : State → Prop} {F G : Type} [Lean.Grind.CommRing F] [Lean.Grind.CommRing G] {φ : Int → F} {inv : F → F} {ψ : Int → G} {E : gm_E} {ad : Nat → Nat} {sb L : Nat} {xs : Nat → Int32} {cells slots : Nat} (hx : p.tables.exec = Jvm.exec) (hb : c.code = code) (hml : c.maxLocals = 8) (hst : l.stackTraces = false) (hown : s.vm.findClass R_Law = some m.cls) (hW : ∀ w ∈ WB, w.before #[Value.ref sb] s = true) (hXs : va_X sb L xs s s.heap) (hbl : sb < s.heap.size) (hE : E.2.1 = s.heap.size) (hL : L ≤ 3072) (hg : gE E ad) (hk : fk φ inv) (hn : fm ψ nN) {Ri : F} (hR : φ (tq 8) * Ri = 1) {Si : G} (hS : ψ (tq 8) * Si = 1) (hcs : cells + 5 ≤ 629376 ∧ slots + 30 ≤ 7207977) {i : Nat} (hi : i + 6 ≤ L) {ρ : Nat → Nat → Int64} {fl : Nat → Int32} {τ : Nat → Nat → Int32} {cd : Int32} {fo : Nat → Int64} (h : RL φ ψ ρ fl τ) {H : Heap} {locs : List Loc} {ls : Array Slot} (X : gx E (LM E ad ρ fl τ cd fo) s H locs) (hl : lv_has ls 8 [(4, .int (nI i)), (0, .ref sb), (1, .ref (E.2.1 + 0)), (2, .ref (E.2.1 + 53)), (3, .ref (E.2.1 + 133))]) (g1 : inR (xs (i + 1)) 4) (g2 : inR (xs (i + 2)) 8) (hod : ¬ xs (i + 3) = 0)
    (kk : ∀ (ρ' : Nat → Nat → Int64) (fl' : Nat → Int32) (τ' : Nat → Nat → Int32) (cd' : Int32) (fo' : Nat → Int64) (H : Heap) (locs : List Loc) (ls : Array Slot), RL φ ψ ρ' fl' τ' → gx E (LM E ad ρ' fl' τ' cd' fo') s H locs → lv_has ls 8 [(4, .int (nI i)), (0, .ref sb), (1, .ref (E.2.1 + 0)), (2, .ref (E.2.1 + 53)), (3, .ref (E.2.1 + 133))] → W p l e room_1 s m #[Value.ref sb] below meth c H locs (cells + 5) (slots + 30) Q (F0 m 1192 ls [])) :
    W p l e room_1 s m #[Value.ref sb] below meth c H locs cells slots Q (F0 m 597 ls []) := by
  obtain ⟨t, h_t, e1⟩ := g1
  obtain ⟨a, h_a, e2⟩ := g2
  refine lv_aload_n hx hb d_Law_law_597 rfl (lv_at hl 2 rfl) ?_
  refine lv_aload_n hx hb d_Law_law_598 rfl (lv_at hl 1 rfl) ?_
  refine lv_iload hx hb d_Law_law_599 (lv_at hl 0 rfl) ?_
  refine lv_iconst (v := 1) hx hb d_Law_law_601 (by decide) ?_
  refine lv_iadd hx hb d_Law_law_602 ?_
  refine lv_eqi (v := nI (i + 1)) (nI_add i 1) ?_
  refine gm_scr hx hb hXs hbl hE X (k := i + 1) rfl ⟨by omega, by omega⟩ d_Law_law_603 ?_
  refine lv_eqi (v := (nI t)) e1 ?_
  refine lv_aload_n hx hb d_Law_law_604 rfl (lv_at hl 1 rfl) ?_
  refine lv_iload hx hb d_Law_law_605 (lv_at hl 0 rfl) ?_
  refine lv_iconst (v := 2) hx hb d_Law_law_607 (by decide) ?_
  refine lv_iadd hx hb d_Law_law_608 ?_
  refine lv_eqi (v := nI (i + 2)) (nI_add i 2) ?_
  refine gm_scr hx hb hXs hbl hE X (k := i + 2) rfl ⟨by omega, by omega⟩ d_Law_law_609 ?_
  refine lv_eqi (v := (nI a)) e2 ?_
  refine lv_aload_n hx hb d_Law_law_610 rfl (lv_at hl 1 rfl) ?_
  refine lv_iload hx hb d_Law_law_611 (lv_at hl 0 rfl) ?_
  refine lv_iconst (v := 3) hx hb d_Law_law_613 (by decide) ?_
  refine lv_iadd hx hb d_Law_law_614 ?_
  refine lv_eqi (v := nI (i + 3)) (nI_add i 3) ?_
  refine gm_scr hx hb hXs hbl hE X (k := i + 3) rfl ⟨by omega, by omega⟩ d_Law_law_615 ?_
  refine lv_if_eq (tgt := 623) hx hb d_Law_law_616 (by decide) (fun c9 => absurd c9 hod) (fun _ => ?_)
  refine lv_iconst (v := 1) hx hb d_Law_law_619 (by decide) ?_
  refine lv_goto (tgt := 624) hx hb d_Law_law_620 (by decide) ?_
  refine lv_aload_n hx hb d_Law_law_624 rfl (lv_at hl 4 rfl) ?_
  refine gm_SHi hx hb hml hown hW X (h_Law_lift l E ad _ ρ fl hg hk hn om_133 h_t h_a (odd := 1) (by decide)) (n := 5) ⟨⟨wl_Law_101, ws_Law_lift, winit_Law, wh_Law_lift⟩, by decide +kernel, Nat.le_of_ble_eq_true rfl, Nat.le_of_ble_eq_true rfl⟩ rfl hl.1 rfl (Nat.le_of_ble_eq_true rfl) d_Law_law_625 ⟨by show _ ≤ (629376 : Nat); dsimp only; omega, by show _ ≤ (7207977 : Nat); dsimp only; omega⟩ (fun k M1 H locs hp X => ?_)
  obtain ⟨rfl, ρ1, fl1, r, rfl, hc⟩ := hp
  rw [om_up] at X
  rw [cw_mw] at X
  refine lv_istore (lv' := [(5, .int 0), (4, .int (nI i)), (0, .ref sb), (1, .ref (E.2.1 + 0)), (2, .ref (E.2.1 + 53)), (3, .ref (E.2.1 + 133))]) hx hb d_Law_law_628 hl (by decide) rfl (fun ls hl => ?_)
  refine lv_aload_n hx hb d_Law_law_630 rfl (lv_at hl 4 rfl) ?_
  refine lv_aload_n hx hb d_Law_law_631 rfl (lv_at hl 2 rfl) ?_
  refine lv_iload hx hb d_Law_law_632 (lv_at hl 1 rfl) ?_
  refine lv_iconst (v := 1) hx hb d_Law_law_634 (by decide) ?_
  refine lv_iadd hx hb d_Law_law_635 ?_
  refine lv_eqi (v := nI (i + 1)) (nI_add i 1) ?_
  refine gm_scr hx hb hXs hbl hE X (k := i + 1) rfl ⟨by omega, by omega⟩ d_Law_law_636 ?_
  refine lv_eqi (v := (nI t)) e1 ?_
  refine lv_aload_n hx hb d_Law_law_637 rfl (lv_at hl 2 rfl) ?_
  refine lv_iload hx hb d_Law_law_638 (lv_at hl 1 rfl) ?_
  refine lv_iconst (v := 2) hx hb d_Law_law_640 (by decide) ?_
  refine lv_iadd hx hb d_Law_law_641 ?_
  refine lv_eqi (v := nI (i + 2)) (nI_add i 2) ?_
  refine gm_scr hx hb hXs hbl hE X (k := i + 2) rfl ⟨by omega, by omega⟩ d_Law_law_642 ?_
  refine lv_eqi (v := (nI a)) e2 ?_
  refine lv_aload_n hx hb d_Law_law_643 rfl (lv_at hl 2 rfl) ?_
  refine lv_iload hx hb d_Law_law_644 (lv_at hl 1 rfl) ?_
  refine lv_iconst (v := 3) hx hb d_Law_law_646 (by decide) ?_
  refine lv_iadd hx hb d_Law_law_647 ?_
  refine lv_eqi (v := nI (i + 3)) (nI_add i 3) ?_
  refine gm_scr hx hb hXs hbl hE X (k := i + 3) rfl ⟨by omega, by omega⟩ d_Law_law_648 ?_
  refine lv_if_eq (tgt := 656) hx hb d_Law_law_649 (by decide) (fun c9 => absurd c9 hod) (fun _ => ?_)
  refine lv_iconst (v := 1) hx hb d_Law_law_652 (by decide) ?_
  refine lv_goto (tgt := 657) hx hb d_Law_law_653 (by decide) ?_
  refine gm_Vi hx hb hml hown hW X o53 (r_Mdl_lift_ok l E _ τ cd hk hR hn hS h.2.2.2.1 h.2.2.2.2.1 h.2.2.2.2.2 h_t h_a (odd := 1) (by decide)) (n := 3) ⟨⟨wl_Law_104, wi_Mdl_lift, wsel_Mdl_lift, winit_Mdl, wc_Mdl_lift⟩, by decide +kernel, ⟨Nat.le_of_ble_eq_true rfl, Nat.le_of_ble_eq_true rfl⟩, _, rfl, rfl⟩ rfl hl.1 rfl (Nat.le_of_ble_eq_true rfl) d_Law_law_657 ⟨by show _ ≤ (629376 : Nat); dsimp only; omega, by show _ ≤ (7207977 : Nat); dsimp only; omega⟩ (fun r' M1 H locs hp X => ?_)
  obtain ⟨τ1, rfl, hm⟩ := hp
  refine lv_istore (lv' := [(6, .int r'), (5, .int 0), (4, .int (nI i)), (0, .ref sb), (1, .ref (E.2.1 + 0)), (2, .ref (E.2.1 + 53)), (3, .ref (E.2.1 + 133))]) hx hb d_Law_law_660 hl (by decide) rfl (fun ls hl => ?_)
  refine lv_aload_n hx hb d_Law_law_662 rfl (lv_at hl 5 rfl) ?_
  refine gm_Vi hx hb hml hown hW X o53 (r_Mdl_thrown l E _ τ1 0) (n := 0) ⟨⟨wl_Law_75, wi_Mdl_thrown, wsel_Mdl_thrown, winit_Mdl, wc_Mdl_thrown⟩, by decide +kernel, ⟨Nat.le_of_ble_eq_true rfl, Nat.le_of_ble_eq_true rfl⟩, _, rfl, rfl⟩ rfl hl.1 rfl (Nat.le_of_ble_eq_true rfl) d_Law_law_663 ⟨by show _ ≤ (629376 : Nat); dsimp only; omega, by show _ ≤ (7207977 : Nat); dsimp only; omega⟩ (fun q9 M1 H locs hp X => ?_)
  obtain ⟨rfl, rfl⟩ := hp
  rw [← cw_mw] at X
  refine lv_iload hx hb d_Law_law_666 (lv_at hl 1 rfl) ?_
  refine lv_icmp_eq (tgt := 673) hx hb d_Law_law_668 (by decide) (fun _ => ?_) (fun c9 => absurd (by decide) c9)
  have hrl := rl_lift (inv := inv) h h_t h_a hc hm
  refine lv_iload hx hb d_Law_law_673 (lv_at hl 1 rfl) ?_
  refine lv_if_ne (tgt := 697) hx hb d_Law_law_675 (by decide) (fun c9 => absurd rfl c9) (fun _ => ?_)
  obtain ⟨rfl, hrl⟩ := hrl
  refine lv_aload_n hx hb d_Law_law_678 rfl (lv_at hl 6 rfl) ?_
  refine lv_iconst (v := 0) hx hb d_Law_law_679 (by decide) ?_
  refine gm_lald hx hb X (k := 0) (Or.inl (cw_133 om_133)) (by decide) ⟨by decide, by decide⟩ d_Law_law_680 ?_
  refine lv_eql (v := (if r = 0 then 0 else 1)) (updL0 _ _) ?_
  refine lv_iload hx hb d_Law_law_681 (lv_at hl 0 rfl) ?_
  refine lv_if_eq (tgt := 690) hx hb d_Law_law_683 (by decide) (fun c683 => ?_) (fun c683 => ?_)
  · refine lv_lconst (v := 0) hx hb d_Law_law_690 (by decide) ?_
    refine W.lcmp hx hb d_Law_law_691 ?_
    refine lv_if_eq (tgt := 697) hx hb d_Law_law_692 (by decide) (fun _ => ?_) (fun c9 => absurd (lg_eq (if_pos c683)) c9)
    refine lv_goto (tgt := 1192) hx hb d_Law_law_697 (by decide) ?_
    refine gm_wid (k := cells + 5) (n := slots + 30) (by dsimp only; omega) (by dsimp only; omega) ?_
    exact kk ρ1 fl1 τ1 0 (vp_updL fo 0 (if r = 0 then 0 else 1)) H locs ls hrl X (lv_sub hl [2, 3, 4, 5, 6] rfl)
  · refine lv_lconst (v := 1) hx hb d_Law_law_686 (by decide) ?_
    refine lv_goto (tgt := 691) hx hb d_Law_law_687 (by decide) ?_
    refine W.lcmp hx hb d_Law_law_691 ?_
    refine lv_if_eq (tgt := 697) hx hb d_Law_law_692 (by decide) (fun _ => ?_) (fun c9 => absurd (lg_eq (if_neg c683)) c9)
    refine lv_goto (tgt := 1192) hx hb d_Law_law_697 (by decide) ?_
    refine gm_wid (k := cells + 5) (n := slots + 30) (by dsimp only; omega) (by dsimp only; omega) ?_
    exact kk ρ1 fl1 τ1 0 (vp_updL fo 0 (if r = 0 then 0 else 1)) H locs ls hrl X (lv_sub hl [2, 3, 4, 5, 6] rfl)
set_option maxRecDepth 100000 in
set_option maxHeartbeats 8000000 in
theorem cs_show {p : Program} {l : Launch} {e : Env} {s : State} {m : MethodId} {below : List Frame} {meth : Method} {c : Code} {Q : State → Prop} {F G : Type} [Lean.Grind.CommRing F] [Lean.Grind.CommRing G] {φ : Int → F} {inv : F → F} {ψ : Int → G} {E : gm_E} {ad : Nat → Nat} {sb L : Nat} {xs : Nat → Int32} {cells slots : Nat} (hx : p.tables.exec = Jvm.exec) (hb : c.code = code) (hml : c.maxLocals = 8) (hst : l.stackTraces = false) (hown : s.vm.findClass R_Law = some m.cls) (hW : ∀ w ∈ WB, w.before #[Value.ref sb] s = true) (hXs : va_X sb L xs s s.heap) (hbl : sb < s.heap.size) (hE : E.2.1 = s.heap.size) (hL : L ≤ 3072) (hg : gE E ad) (hk : fk φ inv) (hn : fm ψ nN) {Ri : F} (hR : φ (tq 8) * Ri = 1) {Si : G} (hS : ψ (tq 8) * Si = 1) (hcs : cells + 5 ≤ 629376 ∧ slots + 30 ≤ 7207977) {i : Nat} (hi : i + 6 ≤ L) {ρ : Nat → Nat → Int64} {fl : Nat → Int32} {τ : Nat → Nat → Int32} {cd : Int32} {fo : Nat → Int64} (h : RL φ ψ ρ fl τ) {H : Heap} {locs : List Loc} {ls : Array Slot} (X : gx E (LM E ad ρ fl τ cd fo) s H locs) (hl : lv_has ls 8 [(4, .int (nI i)), (0, .ref sb), (1, .ref (E.2.1 + 0)), (2, .ref (E.2.1 + 53)), (3, .ref (E.2.1 + 133))]) (g1 : inR (xs (i + 1)) 4) (g2 : inR (xs (i + 2)) 8) (g3 : inR (xs (i + 3)) 8)
    (kk : ∀ (ρ' : Nat → Nat → Int64) (fl' : Nat → Int32) (τ' : Nat → Nat → Int32) (cd' : Int32) (fo' : Nat → Int64) (H : Heap) (locs : List Loc) (ls : Array Slot), RL φ ψ ρ' fl' τ' → gx E (LM E ad ρ' fl' τ' cd' fo') s H locs → lv_has ls 8 [(4, .int (nI i)), (0, .ref sb), (1, .ref (E.2.1 + 0)), (2, .ref (E.2.1 + 53)), (3, .ref (E.2.1 + 133))] → W p l e room_1 s m #[Value.ref sb] below meth c H locs (cells + 5) (slots + 30) Q (F0 m 1192 ls [])) :
    W p l e room_1 s m #[Value.ref sb] below meth c H locs cells slots Q (F0 m 700 ls []) := by
  obtain ⟨t, h_t, e1⟩ := g1
  obtain ⟨a, h_a, e2⟩ := g2
  obtain ⟨b, h_b, e3⟩ := g3
  obtain ⟨pp, hpc, hpm⟩ := h.2.1 t h_t
  refine lv_aload_n hx hb d_Law_law_700 rfl (lv_at hl 2 rfl) ?_
  refine lv_aload_n hx hb d_Law_law_701 rfl (lv_at hl 1 rfl) ?_
  refine lv_iload hx hb d_Law_law_702 (lv_at hl 0 rfl) ?_
  refine lv_iconst (v := 1) hx hb d_Law_law_704 (by decide) ?_
  refine lv_iadd hx hb d_Law_law_705 ?_
  refine lv_eqi (v := nI (i + 1)) (nI_add i 1) ?_
  refine gm_scr hx hb hXs hbl hE X (k := i + 1) rfl ⟨by omega, by omega⟩ d_Law_law_706 ?_
  refine lv_eqi (v := (nI t)) e1 ?_
  refine lv_aload_n hx hb d_Law_law_707 rfl (lv_at hl 1 rfl) ?_
  refine lv_iload hx hb d_Law_law_708 (lv_at hl 0 rfl) ?_
  refine lv_iconst (v := 2) hx hb d_Law_law_710 (by decide) ?_
  refine lv_iadd hx hb d_Law_law_711 ?_
  refine lv_eqi (v := nI (i + 2)) (nI_add i 2) ?_
  refine gm_scr hx hb hXs hbl hE X (k := i + 2) rfl ⟨by omega, by omega⟩ d_Law_law_712 ?_
  refine lv_eqi (v := (nI a)) e2 ?_
  refine lv_aload_n hx hb d_Law_law_713 rfl (lv_at hl 1 rfl) ?_
  refine lv_iload hx hb d_Law_law_714 (lv_at hl 0 rfl) ?_
  refine lv_iconst (v := 3) hx hb d_Law_law_716 (by decide) ?_
  refine lv_iadd hx hb d_Law_law_717 ?_
  refine lv_eqi (v := nI (i + 3)) (nI_add i 3) ?_
  refine gm_scr hx hb hXs hbl hE X (k := i + 3) rfl ⟨by omega, by omega⟩ d_Law_law_718 ?_
  refine lv_eqi (v := (nI b)) e3 ?_
  refine lv_aload_n hx hb d_Law_law_719 rfl (lv_at hl 4 rfl) ?_
  refine gm_SHi hx hb hml hown hW X (h_Law_show l E ad _ ρ fl hg hk hn om_133 h_t h_a h_b hpc) (n := 5) ⟨⟨wl_Law_105, ws_Law_show, winit_Law, wh_Law_show⟩, by decide +kernel, Nat.le_of_ble_eq_true rfl, Nat.le_of_ble_eq_true rfl⟩ rfl hl.1 rfl (Nat.le_of_ble_eq_true rfl) d_Law_law_720 ⟨by show _ ≤ (629376 : Nat); dsimp only; omega, by show _ ≤ (7207977 : Nat); dsimp only; omega⟩ (fun k M1 H locs hp X => ?_)
  obtain ⟨rfl, ρ1, fl1, r, rfl, hc⟩ := hp
  rw [om_up] at X
  rw [cw_mw] at X
  refine lv_istore (lv' := [(5, .int 0), (4, .int (nI i)), (0, .ref sb), (1, .ref (E.2.1 + 0)), (2, .ref (E.2.1 + 53)), (3, .ref (E.2.1 + 133))]) hx hb d_Law_law_723 hl (by decide) rfl (fun ls hl => ?_)
  refine lv_aload_n hx hb d_Law_law_725 rfl (lv_at hl 4 rfl) ?_
  refine lv_aload_n hx hb d_Law_law_726 rfl (lv_at hl 2 rfl) ?_
  refine lv_iload hx hb d_Law_law_727 (lv_at hl 1 rfl) ?_
  refine lv_iconst (v := 1) hx hb d_Law_law_729 (by decide) ?_
  refine lv_iadd hx hb d_Law_law_730 ?_
  refine lv_eqi (v := nI (i + 1)) (nI_add i 1) ?_
  refine gm_scr hx hb hXs hbl hE X (k := i + 1) rfl ⟨by omega, by omega⟩ d_Law_law_731 ?_
  refine lv_eqi (v := (nI t)) e1 ?_
  refine lv_aload_n hx hb d_Law_law_732 rfl (lv_at hl 2 rfl) ?_
  refine lv_iload hx hb d_Law_law_733 (lv_at hl 1 rfl) ?_
  refine lv_iconst (v := 2) hx hb d_Law_law_735 (by decide) ?_
  refine lv_iadd hx hb d_Law_law_736 ?_
  refine lv_eqi (v := nI (i + 2)) (nI_add i 2) ?_
  refine gm_scr hx hb hXs hbl hE X (k := i + 2) rfl ⟨by omega, by omega⟩ d_Law_law_737 ?_
  refine lv_eqi (v := (nI a)) e2 ?_
  refine lv_aload_n hx hb d_Law_law_738 rfl (lv_at hl 2 rfl) ?_
  refine lv_iload hx hb d_Law_law_739 (lv_at hl 1 rfl) ?_
  refine lv_iconst (v := 3) hx hb d_Law_law_741 (by decide) ?_
  refine lv_iadd hx hb d_Law_law_742 ?_
  refine lv_eqi (v := nI (i + 3)) (nI_add i 3) ?_
  refine gm_scr hx hb hXs hbl hE X (k := i + 3) rfl ⟨by omega, by omega⟩ d_Law_law_743 ?_
  refine lv_eqi (v := (nI b)) e3 ?_
  refine gm_Vi hx hb hml hown hW X o53 (r_Mdl_show_ok l E _ τ cd hk hR hn hS h.2.2.2.1 h.2.2.2.2.1 h.2.2.2.2.2 h_t h_a h_b hpm) (n := 3) ⟨⟨wl_Law_107, wi_Mdl_show, wsel_Mdl_show, winit_Mdl, wc_Mdl_show⟩, by decide +kernel, ⟨Nat.le_of_ble_eq_true rfl, Nat.le_of_ble_eq_true rfl⟩, _, rfl, rfl⟩ rfl hl.1 rfl (Nat.le_of_ble_eq_true rfl) d_Law_law_744 ⟨by show _ ≤ (629376 : Nat); dsimp only; omega, by show _ ≤ (7207977 : Nat); dsimp only; omega⟩ (fun r' M1 H locs hp X => ?_)
  obtain ⟨τ1, rfl, hm⟩ := hp
  refine lv_istore (lv' := [(6, .int r'), (5, .int 0), (4, .int (nI i)), (0, .ref sb), (1, .ref (E.2.1 + 0)), (2, .ref (E.2.1 + 53)), (3, .ref (E.2.1 + 133))]) hx hb d_Law_law_747 hl (by decide) rfl (fun ls hl => ?_)
  refine lv_aload_n hx hb d_Law_law_749 rfl (lv_at hl 5 rfl) ?_
  refine gm_Vi hx hb hml hown hW X o53 (r_Mdl_thrown l E _ τ1 0) (n := 0) ⟨⟨wl_Law_75, wi_Mdl_thrown, wsel_Mdl_thrown, winit_Mdl, wc_Mdl_thrown⟩, by decide +kernel, ⟨Nat.le_of_ble_eq_true rfl, Nat.le_of_ble_eq_true rfl⟩, _, rfl, rfl⟩ rfl hl.1 rfl (Nat.le_of_ble_eq_true rfl) d_Law_law_750 ⟨by show _ ≤ (629376 : Nat); dsimp only; omega, by show _ ≤ (7207977 : Nat); dsimp only; omega⟩ (fun q9 M1 H locs hp X => ?_)
  obtain ⟨rfl, rfl⟩ := hp
  rw [← cw_mw] at X
  refine lv_iload hx hb d_Law_law_753 (lv_at hl 1 rfl) ?_
  refine lv_icmp_eq (tgt := 760) hx hb d_Law_law_755 (by decide) (fun _ => ?_) (fun c9 => absurd (by decide) c9)
  have hrl := rl_show (inv := inv) h h_t h_a h_b hc hm
  refine lv_iload hx hb d_Law_law_760 (lv_at hl 1 rfl) ?_
  refine lv_if_ne (tgt := 784) hx hb d_Law_law_762 (by decide) (fun c9 => absurd rfl c9) (fun _ => ?_)
  obtain ⟨rfl, hrl⟩ := hrl
  refine lv_aload_n hx hb d_Law_law_765 rfl (lv_at hl 6 rfl) ?_
  refine lv_iconst (v := 0) hx hb d_Law_law_766 (by decide) ?_
  refine gm_lald hx hb X (k := 0) (Or.inl (cw_133 om_133)) (by decide) ⟨by decide, by decide⟩ d_Law_law_767 ?_
  refine lv_eql (v := (if r = 0 then 0 else 1)) (updL0 _ _) ?_
  refine lv_iload hx hb d_Law_law_768 (lv_at hl 0 rfl) ?_
  refine lv_if_eq (tgt := 777) hx hb d_Law_law_770 (by decide) (fun c770 => ?_) (fun c770 => ?_)
  · refine lv_lconst (v := 0) hx hb d_Law_law_777 (by decide) ?_
    refine W.lcmp hx hb d_Law_law_778 ?_
    refine lv_if_eq (tgt := 784) hx hb d_Law_law_779 (by decide) (fun _ => ?_) (fun c9 => absurd (lg_eq (if_pos c770)) c9)
    refine lv_goto (tgt := 1192) hx hb d_Law_law_784 (by decide) ?_
    refine gm_wid (k := cells + 5) (n := slots + 30) (by dsimp only; omega) (by dsimp only; omega) ?_
    exact kk ρ1 fl1 τ1 0 (vp_updL fo 0 (if r = 0 then 0 else 1)) H locs ls hrl X (lv_sub hl [2, 3, 4, 5, 6] rfl)
  · refine lv_lconst (v := 1) hx hb d_Law_law_773 (by decide) ?_
    refine lv_goto (tgt := 778) hx hb d_Law_law_774 (by decide) ?_
    refine W.lcmp hx hb d_Law_law_778 ?_
    refine lv_if_eq (tgt := 784) hx hb d_Law_law_779 (by decide) (fun _ => ?_) (fun c9 => absurd (lg_eq (if_neg c770)) c9)
    refine lv_goto (tgt := 1192) hx hb d_Law_law_784 (by decide) ?_
    refine gm_wid (k := cells + 5) (n := slots + 30) (by dsimp only; omega) (by dsimp only; omega) ?_
    exact kk ρ1 fl1 τ1 0 (vp_updL fo 0 (if r = 0 then 0 else 1)) H locs ls hrl X (lv_sub hl [2, 3, 4, 5, 6] rfl)
set_option maxRecDepth 100000 in
set_option maxHeartbeats 8000000 in
theorem cs_add {p : Program} {l : Launch} {e : Env} {s : State} {m : MethodId} {below : List Frame} {meth : Method} {c : Code} {Q : State → Prop} {F G : Type} [Lean.Grind.CommRing F] [Lean.Grind.CommRing G] {φ : Int → F} {inv : F → F} {ψ : Int → G} {E : gm_E} {ad : Nat → Nat} {sb L : Nat} {xs : Nat → Int32} {cells slots : Nat} (hx : p.tables.exec = Jvm.exec) (hb : c.code = code) (hml : c.maxLocals = 8) (hst : l.stackTraces = false) (hown : s.vm.findClass R_Law = some m.cls) (hW : ∀ w ∈ WB, w.before #[Value.ref sb] s = true) (hXs : va_X sb L xs s s.heap) (hbl : sb < s.heap.size) (hE : E.2.1 = s.heap.size) (hL : L ≤ 3072) (hg : gE E ad) (hk : fk φ inv) (hn : fm ψ nN) {Ri : F} (hR : φ (tq 8) * Ri = 1) {Si : G} (hS : ψ (tq 8) * Si = 1) (hcs : cells + 5 ≤ 629376 ∧ slots + 30 ≤ 7207977) {i : Nat} (hi : i + 6 ≤ L) {ρ : Nat → Nat → Int64} {fl : Nat → Int32} {τ : Nat → Nat → Int32} {cd : Int32} {fo : Nat → Int64} (h : RL φ ψ ρ fl τ) {H : Heap} {locs : List Loc} {ls : Array Slot} (X : gx E (LM E ad ρ fl τ cd fo) s H locs) (hl : lv_has ls 8 [(4, .int (nI i)), (0, .ref sb), (1, .ref (E.2.1 + 0)), (2, .ref (E.2.1 + 53)), (3, .ref (E.2.1 + 133))]) (g1 : inR (xs (i + 1)) 4) (g2 : inR (xs (i + 2)) 4) (g3 : inR (xs (i + 3)) 4)
    (kk : ∀ (ρ' : Nat → Nat → Int64) (fl' : Nat → Int32) (τ' : Nat → Nat → Int32) (cd' : Int32) (fo' : Nat → Int64) (H : Heap) (locs : List Loc) (ls : Array Slot), RL φ ψ ρ' fl' τ' → gx E (LM E ad ρ' fl' τ' cd' fo') s H locs → lv_has ls 8 [(4, .int (nI i)), (0, .ref sb), (1, .ref (E.2.1 + 0)), (2, .ref (E.2.1 + 53)), (3, .ref (E.2.1 + 133))] → W p l e room_1 s m #[Value.ref sb] below meth c H locs (cells + 5) (slots + 30) Q (F0 m 1192 ls [])) :
    W p l e room_1 s m #[Value.ref sb] below meth c H locs cells slots Q (F0 m 787 ls []) := by
  obtain ⟨t, h_t, e1⟩ := g1
  obtain ⟨a, h_a, e2⟩ := g2
  obtain ⟨b, h_b, e3⟩ := g3
  obtain ⟨pa, hac, ham⟩ := h.2.1 a h_a
  obtain ⟨pb, hbc, hbm⟩ := h.2.1 b h_b
  refine lv_aload_n hx hb d_Law_law_787 rfl (lv_at hl 2 rfl) ?_
  refine lv_aload_n hx hb d_Law_law_788 rfl (lv_at hl 1 rfl) ?_
  refine lv_iload hx hb d_Law_law_789 (lv_at hl 0 rfl) ?_
  refine lv_iconst (v := 1) hx hb d_Law_law_791 (by decide) ?_
  refine lv_iadd hx hb d_Law_law_792 ?_
  refine lv_eqi (v := nI (i + 1)) (nI_add i 1) ?_
  refine gm_scr hx hb hXs hbl hE X (k := i + 1) rfl ⟨by omega, by omega⟩ d_Law_law_793 ?_
  refine lv_eqi (v := (nI t)) e1 ?_
  refine lv_aload_n hx hb d_Law_law_794 rfl (lv_at hl 1 rfl) ?_
  refine lv_iload hx hb d_Law_law_795 (lv_at hl 0 rfl) ?_
  refine lv_iconst (v := 2) hx hb d_Law_law_797 (by decide) ?_
  refine lv_iadd hx hb d_Law_law_798 ?_
  refine lv_eqi (v := nI (i + 2)) (nI_add i 2) ?_
  refine gm_scr hx hb hXs hbl hE X (k := i + 2) rfl ⟨by omega, by omega⟩ d_Law_law_799 ?_
  refine lv_eqi (v := (nI a)) e2 ?_
  refine lv_aload_n hx hb d_Law_law_800 rfl (lv_at hl 1 rfl) ?_
  refine lv_iload hx hb d_Law_law_801 (lv_at hl 0 rfl) ?_
  refine lv_iconst (v := 3) hx hb d_Law_law_803 (by decide) ?_
  refine lv_iadd hx hb d_Law_law_804 ?_
  refine lv_eqi (v := nI (i + 3)) (nI_add i 3) ?_
  refine gm_scr hx hb hXs hbl hE X (k := i + 3) rfl ⟨by omega, by omega⟩ d_Law_law_805 ?_
  refine lv_eqi (v := (nI b)) e3 ?_
  refine gm_SHi hx hb hml hown hW X (h_Law_add l E ad _ ρ fl hg hk hn h_t h_a h_b hac hbc) (n := 4) ⟨⟨wl_Law_108, ws_Law_add, winit_Law, wh_Law_add⟩, by decide +kernel, Nat.le_of_ble_eq_true rfl, Nat.le_of_ble_eq_true rfl⟩ rfl hl.1 rfl (Nat.le_of_ble_eq_true rfl) d_Law_law_806 ⟨by show _ ≤ (629376 : Nat); dsimp only; omega, by show _ ≤ (7207977 : Nat); dsimp only; omega⟩ (fun k M1 H locs hp X => ?_)
  obtain ⟨rfl, ρ1, fl1, rfl, hc⟩ := hp
  rw [cw_mw] at X
  refine lv_istore (lv' := [(5, .int 0), (4, .int (nI i)), (0, .ref sb), (1, .ref (E.2.1 + 0)), (2, .ref (E.2.1 + 53)), (3, .ref (E.2.1 + 133))]) hx hb d_Law_law_809 hl (by decide) rfl (fun ls hl => ?_)
  refine lv_aload_n hx hb d_Law_law_811 rfl (lv_at hl 4 rfl) ?_
  refine lv_aload_n hx hb d_Law_law_812 rfl (lv_at hl 2 rfl) ?_
  refine lv_iload hx hb d_Law_law_813 (lv_at hl 1 rfl) ?_
  refine lv_iconst (v := 1) hx hb d_Law_law_815 (by decide) ?_
  refine lv_iadd hx hb d_Law_law_816 ?_
  refine lv_eqi (v := nI (i + 1)) (nI_add i 1) ?_
  refine gm_scr hx hb hXs hbl hE X (k := i + 1) rfl ⟨by omega, by omega⟩ d_Law_law_817 ?_
  refine lv_eqi (v := (nI t)) e1 ?_
  refine lv_aload_n hx hb d_Law_law_818 rfl (lv_at hl 2 rfl) ?_
  refine lv_iload hx hb d_Law_law_819 (lv_at hl 1 rfl) ?_
  refine lv_iconst (v := 2) hx hb d_Law_law_821 (by decide) ?_
  refine lv_iadd hx hb d_Law_law_822 ?_
  refine lv_eqi (v := nI (i + 2)) (nI_add i 2) ?_
  refine gm_scr hx hb hXs hbl hE X (k := i + 2) rfl ⟨by omega, by omega⟩ d_Law_law_823 ?_
  refine lv_eqi (v := (nI a)) e2 ?_
  refine lv_aload_n hx hb d_Law_law_824 rfl (lv_at hl 2 rfl) ?_
  refine lv_iload hx hb d_Law_law_825 (lv_at hl 1 rfl) ?_
  refine lv_iconst (v := 3) hx hb d_Law_law_827 (by decide) ?_
  refine lv_iadd hx hb d_Law_law_828 ?_
  refine lv_eqi (v := nI (i + 3)) (nI_add i 3) ?_
  refine gm_scr hx hb hXs hbl hE X (k := i + 3) rfl ⟨by omega, by omega⟩ d_Law_law_829 ?_
  refine lv_eqi (v := (nI b)) e3 ?_
  refine gm_Vv hx hb hml hown hW X o53 (r_Mdl_add_ok l E _ τ cd hk hR hn hS h.2.2.2.1 h.2.2.2.2.1 h.2.2.2.2.2 h_t h_a h_b ham hbm) (n := 3) ⟨⟨wl_Law_111, wi_Mdl_add, wsel_Mdl_add, winit_Mdl, wc_Mdl_add⟩, by decide +kernel, ⟨Nat.le_of_ble_eq_true rfl, Nat.le_of_ble_eq_true rfl⟩, _, rfl, rfl⟩ rfl hl.1 rfl (Nat.le_of_ble_eq_true rfl) d_Law_law_830 ⟨by show _ ≤ (629376 : Nat); dsimp only; omega, by show _ ≤ (7207977 : Nat); dsimp only; omega⟩ (fun M1 H locs hp X => ?_)
  obtain ⟨τ1, rfl, hm⟩ := hp
  refine lv_aload_n hx hb d_Law_law_833 rfl (lv_at hl 4 rfl) ?_
  refine gm_Vi hx hb hml hown hW X o53 (r_Mdl_thrown l E _ τ1 0) (n := 0) ⟨⟨wl_Law_75, wi_Mdl_thrown, wsel_Mdl_thrown, winit_Mdl, wc_Mdl_thrown⟩, by decide +kernel, ⟨Nat.le_of_ble_eq_true rfl, Nat.le_of_ble_eq_true rfl⟩, _, rfl, rfl⟩ rfl hl.1 rfl (Nat.le_of_ble_eq_true rfl) d_Law_law_834 ⟨by show _ ≤ (629376 : Nat); dsimp only; omega, by show _ ≤ (7207977 : Nat); dsimp only; omega⟩ (fun q9 M1 H locs hp X => ?_)
  obtain ⟨rfl, rfl⟩ := hp
  rw [← cw_mw] at X
  refine lv_iload hx hb d_Law_law_837 (lv_at hl 0 rfl) ?_
  refine lv_icmp_eq (tgt := 844) hx hb d_Law_law_839 (by decide) (fun _ => ?_) (fun c9 => absurd (by decide) c9)
  have hrl := rl_add (inv := inv) h h_t h_a h_b hc hm
  refine lv_goto (tgt := 1192) hx hb d_Law_law_844 (by decide) ?_
  refine gm_wid (k := cells + 5) (n := slots + 30) (by dsimp only; omega) (by dsimp only; omega) ?_
  exact kk ρ1 fl1 τ1 0 fo H locs ls hrl X (lv_sub hl [1, 2, 3, 4, 5] rfl)
set_option maxRecDepth 100000 in
set_option maxHeartbeats 8000000 in
theorem cs_times {p : Program} {l : Launch} {e : Env} {s : State} {m : MethodId} {below : List Frame} {meth : Method} {c : Code} {Q : State → Prop} {F G : Type} [Lean.Grind.CommRing F] [Lean.Grind.CommRing G] {φ : Int → F} {inv : F → F} {ψ : Int → G} {E : gm_E} {ad : Nat → Nat} {sb L : Nat} {xs : Nat → Int32} {cells slots : Nat} (hx : p.tables.exec = Jvm.exec) (hb : c.code = code) (hml : c.maxLocals = 8) (hst : l.stackTraces = false) (hown : s.vm.findClass R_Law = some m.cls) (hW : ∀ w ∈ WB, w.before #[Value.ref sb] s = true) (hXs : va_X sb L xs s s.heap) (hbl : sb < s.heap.size) (hE : E.2.1 = s.heap.size) (hL : L ≤ 3072) (hg : gE E ad) (hk : fk φ inv) (hn : fm ψ nN) {Ri : F} (hR : φ (tq 8) * Ri = 1) {Si : G} (hS : ψ (tq 8) * Si = 1) (hcs : cells + 5 ≤ 629376 ∧ slots + 30 ≤ 7207977) {i : Nat} (hi : i + 6 ≤ L) {ρ : Nat → Nat → Int64} {fl : Nat → Int32} {τ : Nat → Nat → Int32} {cd : Int32} {fo : Nat → Int64} (h : RL φ ψ ρ fl τ) {H : Heap} {locs : List Loc} {ls : Array Slot} (X : gx E (LM E ad ρ fl τ cd fo) s H locs) (hl : lv_has ls 8 [(4, .int (nI i)), (0, .ref sb), (1, .ref (E.2.1 + 0)), (2, .ref (E.2.1 + 53)), (3, .ref (E.2.1 + 133))]) (g1 : inR (xs (i + 1)) 4) (g2 : inR (xs (i + 2)) 8) (g3 : inR (xs (i + 3)) 4)
    (kk : ∀ (ρ' : Nat → Nat → Int64) (fl' : Nat → Int32) (τ' : Nat → Nat → Int32) (cd' : Int32) (fo' : Nat → Int64) (H : Heap) (locs : List Loc) (ls : Array Slot), RL φ ψ ρ' fl' τ' → gx E (LM E ad ρ' fl' τ' cd' fo') s H locs → lv_has ls 8 [(4, .int (nI i)), (0, .ref sb), (1, .ref (E.2.1 + 0)), (2, .ref (E.2.1 + 53)), (3, .ref (E.2.1 + 133))] → W p l e room_1 s m #[Value.ref sb] below meth c H locs (cells + 5) (slots + 30) Q (F0 m 1192 ls [])) :
    W p l e room_1 s m #[Value.ref sb] below meth c H locs cells slots Q (F0 m 847 ls []) := by
  obtain ⟨t, h_t, e1⟩ := g1
  obtain ⟨b, h_b, e2⟩ := g2
  obtain ⟨a, h_a, e3⟩ := g3
  obtain ⟨pa, hac, ham⟩ := h.2.1 a h_a
  refine lv_aload_n hx hb d_Law_law_847 rfl (lv_at hl 2 rfl) ?_
  refine lv_aload_n hx hb d_Law_law_848 rfl (lv_at hl 1 rfl) ?_
  refine lv_iload hx hb d_Law_law_849 (lv_at hl 0 rfl) ?_
  refine lv_iconst (v := 1) hx hb d_Law_law_851 (by decide) ?_
  refine lv_iadd hx hb d_Law_law_852 ?_
  refine lv_eqi (v := nI (i + 1)) (nI_add i 1) ?_
  refine gm_scr hx hb hXs hbl hE X (k := i + 1) rfl ⟨by omega, by omega⟩ d_Law_law_853 ?_
  refine lv_eqi (v := (nI t)) e1 ?_
  refine lv_aload_n hx hb d_Law_law_854 rfl (lv_at hl 1 rfl) ?_
  refine lv_iload hx hb d_Law_law_855 (lv_at hl 0 rfl) ?_
  refine lv_iconst (v := 2) hx hb d_Law_law_857 (by decide) ?_
  refine lv_iadd hx hb d_Law_law_858 ?_
  refine lv_eqi (v := nI (i + 2)) (nI_add i 2) ?_
  refine gm_scr hx hb hXs hbl hE X (k := i + 2) rfl ⟨by omega, by omega⟩ d_Law_law_859 ?_
  refine lv_eqi (v := (nI b)) e2 ?_
  refine lv_aload_n hx hb d_Law_law_860 rfl (lv_at hl 1 rfl) ?_
  refine lv_iload hx hb d_Law_law_861 (lv_at hl 0 rfl) ?_
  refine lv_iconst (v := 3) hx hb d_Law_law_863 (by decide) ?_
  refine lv_iadd hx hb d_Law_law_864 ?_
  refine lv_eqi (v := nI (i + 3)) (nI_add i 3) ?_
  refine gm_scr hx hb hXs hbl hE X (k := i + 3) rfl ⟨by omega, by omega⟩ d_Law_law_865 ?_
  refine lv_eqi (v := (nI a)) e3 ?_
  refine gm_SHi hx hb hml hown hW X (h_Law_times l E ad _ ρ fl hg hk hn h_t h_b h_a hac) (n := 4) ⟨⟨wl_Law_112, ws_Law_times, winit_Law, wh_Law_times⟩, by decide +kernel, Nat.le_of_ble_eq_true rfl, Nat.le_of_ble_eq_true rfl⟩ rfl hl.1 rfl (Nat.le_of_ble_eq_true rfl) d_Law_law_866 ⟨by show _ ≤ (629376 : Nat); dsimp only; omega, by show _ ≤ (7207977 : Nat); dsimp only; omega⟩ (fun k M1 H locs hp X => ?_)
  obtain ⟨rfl, ρ1, fl1, rfl, hc⟩ := hp
  rw [cw_mw] at X
  refine lv_istore (lv' := [(5, .int 0), (4, .int (nI i)), (0, .ref sb), (1, .ref (E.2.1 + 0)), (2, .ref (E.2.1 + 53)), (3, .ref (E.2.1 + 133))]) hx hb d_Law_law_869 hl (by decide) rfl (fun ls hl => ?_)
  refine lv_aload_n hx hb d_Law_law_871 rfl (lv_at hl 4 rfl) ?_
  refine lv_aload_n hx hb d_Law_law_872 rfl (lv_at hl 2 rfl) ?_
  refine lv_iload hx hb d_Law_law_873 (lv_at hl 1 rfl) ?_
  refine lv_iconst (v := 1) hx hb d_Law_law_875 (by decide) ?_
  refine lv_iadd hx hb d_Law_law_876 ?_
  refine lv_eqi (v := nI (i + 1)) (nI_add i 1) ?_
  refine gm_scr hx hb hXs hbl hE X (k := i + 1) rfl ⟨by omega, by omega⟩ d_Law_law_877 ?_
  refine lv_eqi (v := (nI t)) e1 ?_
  refine lv_aload_n hx hb d_Law_law_878 rfl (lv_at hl 2 rfl) ?_
  refine lv_iload hx hb d_Law_law_879 (lv_at hl 1 rfl) ?_
  refine lv_iconst (v := 2) hx hb d_Law_law_881 (by decide) ?_
  refine lv_iadd hx hb d_Law_law_882 ?_
  refine lv_eqi (v := nI (i + 2)) (nI_add i 2) ?_
  refine gm_scr hx hb hXs hbl hE X (k := i + 2) rfl ⟨by omega, by omega⟩ d_Law_law_883 ?_
  refine lv_eqi (v := (nI b)) e2 ?_
  refine lv_aload_n hx hb d_Law_law_884 rfl (lv_at hl 2 rfl) ?_
  refine lv_iload hx hb d_Law_law_885 (lv_at hl 1 rfl) ?_
  refine lv_iconst (v := 3) hx hb d_Law_law_887 (by decide) ?_
  refine lv_iadd hx hb d_Law_law_888 ?_
  refine lv_eqi (v := nI (i + 3)) (nI_add i 3) ?_
  refine gm_scr hx hb hXs hbl hE X (k := i + 3) rfl ⟨by omega, by omega⟩ d_Law_law_889 ?_
  refine lv_eqi (v := (nI a)) e3 ?_
  refine gm_Vv hx hb hml hown hW X o53 (r_Mdl_times_ok l E _ τ cd hk hR hn hS h.2.2.2.1 h.2.2.2.2.1 h.2.2.2.2.2 h_t h_b h_a ham) (n := 3) ⟨⟨wl_Law_114, wi_Mdl_times, wsel_Mdl_times, winit_Mdl, wc_Mdl_times⟩, by decide +kernel, ⟨Nat.le_of_ble_eq_true rfl, Nat.le_of_ble_eq_true rfl⟩, _, rfl, rfl⟩ rfl hl.1 rfl (Nat.le_of_ble_eq_true rfl) d_Law_law_890 ⟨by show _ ≤ (629376 : Nat); dsimp only; omega, by show _ ≤ (7207977 : Nat); dsimp only; omega⟩ (fun M1 H locs hp X => ?_)
  obtain ⟨τ1, rfl, hm⟩ := hp
  refine lv_aload_n hx hb d_Law_law_893 rfl (lv_at hl 4 rfl) ?_
  refine gm_Vi hx hb hml hown hW X o53 (r_Mdl_thrown l E _ τ1 0) (n := 0) ⟨⟨wl_Law_75, wi_Mdl_thrown, wsel_Mdl_thrown, winit_Mdl, wc_Mdl_thrown⟩, by decide +kernel, ⟨Nat.le_of_ble_eq_true rfl, Nat.le_of_ble_eq_true rfl⟩, _, rfl, rfl⟩ rfl hl.1 rfl (Nat.le_of_ble_eq_true rfl) d_Law_law_894 ⟨by show _ ≤ (629376 : Nat); dsimp only; omega, by show _ ≤ (7207977 : Nat); dsimp only; omega⟩ (fun q9 M1 H locs hp X => ?_)
  obtain ⟨rfl, rfl⟩ := hp
  rw [← cw_mw] at X
  refine lv_iload hx hb d_Law_law_897 (lv_at hl 0 rfl) ?_
  refine lv_icmp_eq (tgt := 904) hx hb d_Law_law_899 (by decide) (fun _ => ?_) (fun c9 => absurd (by decide) c9)
  have hrl := rl_times (inv := inv) h h_t h_b h_a hc hm
  refine lv_goto (tgt := 1192) hx hb d_Law_law_904 (by decide) ?_
  refine gm_wid (k := cells + 5) (n := slots + 30) (by dsimp only; omega) (by dsimp only; omega) ?_
  exact kk ρ1 fl1 τ1 0 fo H locs ls hrl X (lv_sub hl [1, 2, 3, 4, 5] rfl)
set_option maxRecDepth 100000 in
set_option maxHeartbeats 8000000 in
theorem cs_same {p : Program} {l : Launch} {e : Env} {s : State} {m : MethodId} {below : List Frame} {meth : Method} {c : Code} {Q : State → Prop} {F G : Type} [Lean.Grind.CommRing F] [Lean.Grind.CommRing G] {φ : Int → F} {inv : F → F} {ψ : Int → G} {E : gm_E} {ad : Nat → Nat} {sb L : Nat} {xs : Nat → Int32} {cells slots : Nat} (hx : p.tables.exec = Jvm.exec) (hb : c.code = code) (hml : c.maxLocals = 8) (hst : l.stackTraces = false) (hown : s.vm.findClass R_Law = some m.cls) (hW : ∀ w ∈ WB, w.before #[Value.ref sb] s = true) (hXs : va_X sb L xs s s.heap) (hbl : sb < s.heap.size) (hE : E.2.1 = s.heap.size) (hL : L ≤ 3072) (hg : gE E ad) (hk : fk φ inv) (hn : fm ψ nN) {Ri : F} (hR : φ (tq 8) * Ri = 1) {Si : G} (hS : ψ (tq 8) * Si = 1) (hcs : cells + 5 ≤ 629376 ∧ slots + 30 ≤ 7207977) {i : Nat} (hi : i + 6 ≤ L) {ρ : Nat → Nat → Int64} {fl : Nat → Int32} {τ : Nat → Nat → Int32} {cd : Int32} {fo : Nat → Int64} (h : RL φ ψ ρ fl τ) {H : Heap} {locs : List Loc} {ls : Array Slot} (X : gx E (LM E ad ρ fl τ cd fo) s H locs) (hl : lv_has ls 8 [(4, .int (nI i)), (0, .ref sb), (1, .ref (E.2.1 + 0)), (2, .ref (E.2.1 + 53)), (3, .ref (E.2.1 + 133))]) (g1 : inR (xs (i + 1)) 4) (g2 : inR (xs (i + 2)) 4)
    (kk : ∀ (ρ' : Nat → Nat → Int64) (fl' : Nat → Int32) (τ' : Nat → Nat → Int32) (cd' : Int32) (fo' : Nat → Int64) (H : Heap) (locs : List Loc) (ls : Array Slot), RL φ ψ ρ' fl' τ' → gx E (LM E ad ρ' fl' τ' cd' fo') s H locs → lv_has ls 8 [(4, .int (nI i)), (0, .ref sb), (1, .ref (E.2.1 + 0)), (2, .ref (E.2.1 + 53)), (3, .ref (E.2.1 + 133))] → W p l e room_1 s m #[Value.ref sb] below meth c H locs (cells + 5) (slots + 30) Q (F0 m 1192 ls [])) :
    W p l e room_1 s m #[Value.ref sb] below meth c H locs cells slots Q (F0 m 907 ls []) := by
  obtain ⟨a, h_a, e1⟩ := g1
  obtain ⟨b, h_b, e2⟩ := g2
  obtain ⟨pa, hac, ham⟩ := h.2.1 a h_a
  obtain ⟨pb, hbc, hbm⟩ := h.2.1 b h_b
  refine lv_aload_n hx hb d_Law_law_907 rfl (lv_at hl 2 rfl) ?_
  refine lv_aload_n hx hb d_Law_law_908 rfl (lv_at hl 1 rfl) ?_
  refine lv_iload hx hb d_Law_law_909 (lv_at hl 0 rfl) ?_
  refine lv_iconst (v := 1) hx hb d_Law_law_911 (by decide) ?_
  refine lv_iadd hx hb d_Law_law_912 ?_
  refine lv_eqi (v := nI (i + 1)) (nI_add i 1) ?_
  refine gm_scr hx hb hXs hbl hE X (k := i + 1) rfl ⟨by omega, by omega⟩ d_Law_law_913 ?_
  refine lv_eqi (v := (nI a)) e1 ?_
  refine lv_aload_n hx hb d_Law_law_914 rfl (lv_at hl 1 rfl) ?_
  refine lv_iload hx hb d_Law_law_915 (lv_at hl 0 rfl) ?_
  refine lv_iconst (v := 2) hx hb d_Law_law_917 (by decide) ?_
  refine lv_iadd hx hb d_Law_law_918 ?_
  refine lv_eqi (v := nI (i + 2)) (nI_add i 2) ?_
  refine gm_scr hx hb hXs hbl hE X (k := i + 2) rfl ⟨by omega, by omega⟩ d_Law_law_919 ?_
  refine lv_eqi (v := (nI b)) e2 ?_
  refine lv_aload_n hx hb d_Law_law_920 rfl (lv_at hl 4 rfl) ?_
  refine gm_SHi hx hb hml hown hW X (h_Law_same l E ad _ ρ fl hg hk hn om_133 h_a h_b hac hbc) (n := 4) ⟨⟨wl_Law_115, ws_Law_same, winit_Law, wh_Law_same⟩, by decide +kernel, Nat.le_of_ble_eq_true rfl, Nat.le_of_ble_eq_true rfl⟩ rfl hl.1 rfl (Nat.le_of_ble_eq_true rfl) d_Law_law_921 ⟨by show _ ≤ (629376 : Nat); dsimp only; omega, by show _ ≤ (7207977 : Nat); dsimp only; omega⟩ (fun k M1 H locs hp X => ?_)
  obtain ⟨rfl, ρ1, fl1, r, rfl, hc⟩ := hp
  rw [om_up] at X
  rw [cw_mw] at X
  refine lv_istore (lv' := [(5, .int 0), (4, .int (nI i)), (0, .ref sb), (1, .ref (E.2.1 + 0)), (2, .ref (E.2.1 + 53)), (3, .ref (E.2.1 + 133))]) hx hb d_Law_law_924 hl (by decide) rfl (fun ls hl => ?_)
  refine lv_aload_n hx hb d_Law_law_926 rfl (lv_at hl 4 rfl) ?_
  refine lv_aload_n hx hb d_Law_law_927 rfl (lv_at hl 2 rfl) ?_
  refine lv_iload hx hb d_Law_law_928 (lv_at hl 1 rfl) ?_
  refine lv_iconst (v := 1) hx hb d_Law_law_930 (by decide) ?_
  refine lv_iadd hx hb d_Law_law_931 ?_
  refine lv_eqi (v := nI (i + 1)) (nI_add i 1) ?_
  refine gm_scr hx hb hXs hbl hE X (k := i + 1) rfl ⟨by omega, by omega⟩ d_Law_law_932 ?_
  refine lv_eqi (v := (nI a)) e1 ?_
  refine lv_aload_n hx hb d_Law_law_933 rfl (lv_at hl 2 rfl) ?_
  refine lv_iload hx hb d_Law_law_934 (lv_at hl 1 rfl) ?_
  refine lv_iconst (v := 2) hx hb d_Law_law_936 (by decide) ?_
  refine lv_iadd hx hb d_Law_law_937 ?_
  refine lv_eqi (v := nI (i + 2)) (nI_add i 2) ?_
  refine gm_scr hx hb hXs hbl hE X (k := i + 2) rfl ⟨by omega, by omega⟩ d_Law_law_938 ?_
  refine lv_eqi (v := (nI b)) e2 ?_
  refine gm_Vi hx hb hml hown hW X o53 (r_Mdl_same_ok l E _ τ cd hk hR hn hS h.2.2.2.1 h.2.2.2.2.1 h.2.2.2.2.2 h_a h_b ham hbm) (n := 2) ⟨⟨wl_Law_117, wi_Mdl_same, wsel_Mdl_same, winit_Mdl, wc_Mdl_same⟩, by decide +kernel, ⟨Nat.le_of_ble_eq_true rfl, Nat.le_of_ble_eq_true rfl⟩, _, rfl, rfl⟩ rfl hl.1 rfl (Nat.le_of_ble_eq_true rfl) d_Law_law_939 ⟨by show _ ≤ (629376 : Nat); dsimp only; omega, by show _ ≤ (7207977 : Nat); dsimp only; omega⟩ (fun r' M1 H locs hp X => ?_)
  obtain ⟨τ1, rfl, hm⟩ := hp
  refine lv_istore (lv' := [(6, .int r'), (5, .int 0), (4, .int (nI i)), (0, .ref sb), (1, .ref (E.2.1 + 0)), (2, .ref (E.2.1 + 53)), (3, .ref (E.2.1 + 133))]) hx hb d_Law_law_942 hl (by decide) rfl (fun ls hl => ?_)
  refine lv_aload_n hx hb d_Law_law_944 rfl (lv_at hl 5 rfl) ?_
  refine gm_Vi hx hb hml hown hW X o53 (r_Mdl_thrown l E _ τ1 0) (n := 0) ⟨⟨wl_Law_75, wi_Mdl_thrown, wsel_Mdl_thrown, winit_Mdl, wc_Mdl_thrown⟩, by decide +kernel, ⟨Nat.le_of_ble_eq_true rfl, Nat.le_of_ble_eq_true rfl⟩, _, rfl, rfl⟩ rfl hl.1 rfl (Nat.le_of_ble_eq_true rfl) d_Law_law_945 ⟨by show _ ≤ (629376 : Nat); dsimp only; omega, by show _ ≤ (7207977 : Nat); dsimp only; omega⟩ (fun q9 M1 H locs hp X => ?_)
  obtain ⟨rfl, rfl⟩ := hp
  rw [← cw_mw] at X
  refine lv_iload hx hb d_Law_law_948 (lv_at hl 1 rfl) ?_
  refine lv_icmp_eq (tgt := 955) hx hb d_Law_law_950 (by decide) (fun _ => ?_) (fun c9 => absurd (by decide) c9)
  have hrl := rl_same (inv := inv) h h_a h_b hc hm
  refine lv_iload hx hb d_Law_law_955 (lv_at hl 1 rfl) ?_
  refine lv_if_ne (tgt := 979) hx hb d_Law_law_957 (by decide) (fun c9 => absurd rfl c9) (fun _ => ?_)
  obtain ⟨rfl, hrl⟩ := hrl
  refine lv_aload_n hx hb d_Law_law_960 rfl (lv_at hl 6 rfl) ?_
  refine lv_iconst (v := 0) hx hb d_Law_law_961 (by decide) ?_
  refine gm_lald hx hb X (k := 0) (Or.inl (cw_133 om_133)) (by decide) ⟨by decide, by decide⟩ d_Law_law_962 ?_
  refine lv_eql (v := (if r = 0 then 0 else 1)) (updL0 _ _) ?_
  refine lv_iload hx hb d_Law_law_963 (lv_at hl 0 rfl) ?_
  refine lv_if_eq (tgt := 972) hx hb d_Law_law_965 (by decide) (fun c965 => ?_) (fun c965 => ?_)
  · refine lv_lconst (v := 0) hx hb d_Law_law_972 (by decide) ?_
    refine W.lcmp hx hb d_Law_law_973 ?_
    refine lv_if_eq (tgt := 979) hx hb d_Law_law_974 (by decide) (fun _ => ?_) (fun c9 => absurd (lg_eq (if_pos c965)) c9)
    refine lv_goto (tgt := 1192) hx hb d_Law_law_979 (by decide) ?_
    refine gm_wid (k := cells + 5) (n := slots + 30) (by dsimp only; omega) (by dsimp only; omega) ?_
    exact kk ρ1 fl1 τ1 0 (vp_updL fo 0 (if r = 0 then 0 else 1)) H locs ls hrl X (lv_sub hl [2, 3, 4, 5, 6] rfl)
  · refine lv_lconst (v := 1) hx hb d_Law_law_968 (by decide) ?_
    refine lv_goto (tgt := 973) hx hb d_Law_law_969 (by decide) ?_
    refine W.lcmp hx hb d_Law_law_973 ?_
    refine lv_if_eq (tgt := 979) hx hb d_Law_law_974 (by decide) (fun _ => ?_) (fun c9 => absurd (lg_eq (if_neg c965)) c9)
    refine lv_goto (tgt := 1192) hx hb d_Law_law_979 (by decide) ?_
    refine gm_wid (k := cells + 5) (n := slots + 30) (by dsimp only; omega) (by dsimp only; omega) ?_
    exact kk ρ1 fl1 τ1 0 (vp_updL fo 0 (if r = 0 then 0 else 1)) H locs ls hrl X (lv_sub hl [2, 3, 4, 5, 6] rfl)
set_option maxRecDepth 100000 in
set_option maxHeartbeats 8000000 in
theorem cs_sign {p : Program} {l : Launch} {e : Env} {s : State} {m : MethodId} {below : List Frame} {meth : Method} {c : Code} {Q : State → Prop} {F G : Type} [Lean.Grind.CommRing F] [Lean.Grind.CommRing G] {φ : Int → F} {inv : F → F} {ψ : Int → G} {E : gm_E} {ad : Nat → Nat} {sb L : Nat} {xs : Nat → Int32} {cells slots : Nat} (hx : p.tables.exec = Jvm.exec) (hb : c.code = code) (hml : c.maxLocals = 8) (hst : l.stackTraces = false) (hown : s.vm.findClass R_Law = some m.cls) (hW : ∀ w ∈ WB, w.before #[Value.ref sb] s = true) (hXs : va_X sb L xs s s.heap) (hbl : sb < s.heap.size) (hE : E.2.1 = s.heap.size) (hL : L ≤ 3072) (hg : gE E ad) (hk : fk φ inv) (hn : fm ψ nN) {Ri : F} (hR : φ (tq 8) * Ri = 1) {Si : G} (hS : ψ (tq 8) * Si = 1) (hcs : cells + 5 ≤ 629376 ∧ slots + 30 ≤ 7207977) {i : Nat} (hi : i + 6 ≤ L) {ρ : Nat → Nat → Int64} {fl : Nat → Int32} {τ : Nat → Nat → Int32} {cd : Int32} {fo : Nat → Int64} (h : RL φ ψ ρ fl τ) {H : Heap} {locs : List Loc} {ls : Array Slot} (X : gx E (LM E ad ρ fl τ cd fo) s H locs) (hl : lv_has ls 8 [(4, .int (nI i)), (0, .ref sb), (1, .ref (E.2.1 + 0)), (2, .ref (E.2.1 + 53)), (3, .ref (E.2.1 + 133))]) (g1 : inR (xs (i + 1)) 8) (g2 : inR (xs (i + 2)) 8) (g3 : inR (xs (i + 3)) 8) (g4 : inR (xs (i + 4)) 8) (g5 : inR (xs (i + 5)) 8)
    (kk : ∀ (ρ' : Nat → Nat → Int64) (fl' : Nat → Int32) (τ' : Nat → Nat → Int32) (cd' : Int32) (fo' : Nat → Int64) (H : Heap) (locs : List Loc) (ls : Array Slot), RL φ ψ ρ' fl' τ' → gx E (LM E ad ρ' fl' τ' cd' fo') s H locs → lv_has ls 8 [(4, .int (nI i)), (0, .ref sb), (1, .ref (E.2.1 + 0)), (2, .ref (E.2.1 + 53)), (3, .ref (E.2.1 + 133))] → W p l e room_1 s m #[Value.ref sb] below meth c H locs (cells + 5) (slots + 30) Q (F0 m 1192 ls [])) :
    W p l e room_1 s m #[Value.ref sb] below meth c H locs cells slots Q (F0 m 982 ls []) := by
  obtain ⟨t, h_t, e1⟩ := g1
  obtain ⟨u, h_u, e2⟩ := g2
  obtain ⟨a, h_a, e3⟩ := g3
  obtain ⟨b, h_b, e4⟩ := g4
  obtain ⟨d, h_d, e5⟩ := g5
  refine lv_aload_n hx hb d_Law_law_982 rfl (lv_at hl 2 rfl) ?_
  refine lv_aload_n hx hb d_Law_law_983 rfl (lv_at hl 1 rfl) ?_
  refine lv_iload hx hb d_Law_law_984 (lv_at hl 0 rfl) ?_
  refine lv_iconst (v := 1) hx hb d_Law_law_986 (by decide) ?_
  refine lv_iadd hx hb d_Law_law_987 ?_
  refine lv_eqi (v := nI (i + 1)) (nI_add i 1) ?_
  refine gm_scr hx hb hXs hbl hE X (k := i + 1) rfl ⟨by omega, by omega⟩ d_Law_law_988 ?_
  refine lv_eqi (v := (nI t)) e1 ?_
  refine lv_aload_n hx hb d_Law_law_989 rfl (lv_at hl 1 rfl) ?_
  refine lv_iload hx hb d_Law_law_990 (lv_at hl 0 rfl) ?_
  refine lv_iconst (v := 2) hx hb d_Law_law_992 (by decide) ?_
  refine lv_iadd hx hb d_Law_law_993 ?_
  refine lv_eqi (v := nI (i + 2)) (nI_add i 2) ?_
  refine gm_scr hx hb hXs hbl hE X (k := i + 2) rfl ⟨by omega, by omega⟩ d_Law_law_994 ?_
  refine lv_eqi (v := (nI u)) e2 ?_
  refine lv_aload_n hx hb d_Law_law_995 rfl (lv_at hl 1 rfl) ?_
  refine lv_iload hx hb d_Law_law_996 (lv_at hl 0 rfl) ?_
  refine lv_iconst (v := 3) hx hb d_Law_law_998 (by decide) ?_
  refine lv_iadd hx hb d_Law_law_999 ?_
  refine lv_eqi (v := nI (i + 3)) (nI_add i 3) ?_
  refine gm_scr hx hb hXs hbl hE X (k := i + 3) rfl ⟨by omega, by omega⟩ d_Law_law_1000 ?_
  refine lv_eqi (v := (nI a)) e3 ?_
  refine lv_aload_n hx hb d_Law_law_1001 rfl (lv_at hl 1 rfl) ?_
  refine lv_iload hx hb d_Law_law_1002 (lv_at hl 0 rfl) ?_
  refine lv_iconst (v := 4) hx hb d_Law_law_1004 (by decide) ?_
  refine lv_iadd hx hb d_Law_law_1005 ?_
  refine lv_eqi (v := nI (i + 4)) (nI_add i 4) ?_
  refine gm_scr hx hb hXs hbl hE X (k := i + 4) rfl ⟨by omega, by omega⟩ d_Law_law_1006 ?_
  refine lv_eqi (v := (nI b)) e4 ?_
  refine lv_aload_n hx hb d_Law_law_1007 rfl (lv_at hl 1 rfl) ?_
  refine lv_iload hx hb d_Law_law_1008 (lv_at hl 0 rfl) ?_
  refine lv_iconst (v := 5) hx hb d_Law_law_1010 (by decide) ?_
  refine lv_iadd hx hb d_Law_law_1011 ?_
  refine lv_eqi (v := nI (i + 5)) (nI_add i 5) ?_
  refine gm_scr hx hb hXs hbl hE X (k := i + 5) rfl ⟨by omega, by omega⟩ d_Law_law_1012 ?_
  refine lv_eqi (v := (nI d)) e5 ?_
  refine lv_aload_n hx hb d_Law_law_1013 rfl (lv_at hl 4 rfl) ?_
  refine gm_SHi hx hb hml hown hW X (h_Law_sign l E ad _ ρ fl hg hk hn om_133 h_t h_u h_a h_b h_d h.2.2.1.1 (g_ord hk)) (n := 7) ⟨⟨wl_Law_118, ws_Law_sign, winit_Law, wh_Law_sign⟩, by decide +kernel, Nat.le_of_ble_eq_true rfl, Nat.le_of_ble_eq_true rfl⟩ rfl hl.1 rfl (Nat.le_of_ble_eq_true rfl) d_Law_law_1014 ⟨by show _ ≤ (629376 : Nat); dsimp only; omega, by show _ ≤ (7207977 : Nat); dsimp only; omega⟩ (fun k M1 H locs hp X => ?_)
  obtain ⟨rfl, ρ1, fl1, r, rfl, hc⟩ := hp
  rw [om_up] at X
  rw [cw_mw] at X
  refine lv_istore (lv' := [(5, .int 0), (4, .int (nI i)), (0, .ref sb), (1, .ref (E.2.1 + 0)), (2, .ref (E.2.1 + 53)), (3, .ref (E.2.1 + 133))]) hx hb d_Law_law_1017 hl (by decide) rfl (fun ls hl => ?_)
  refine lv_aload_n hx hb d_Law_law_1019 rfl (lv_at hl 4 rfl) ?_
  refine lv_aload_n hx hb d_Law_law_1020 rfl (lv_at hl 2 rfl) ?_
  refine lv_iload hx hb d_Law_law_1021 (lv_at hl 1 rfl) ?_
  refine lv_iconst (v := 1) hx hb d_Law_law_1023 (by decide) ?_
  refine lv_iadd hx hb d_Law_law_1024 ?_
  refine lv_eqi (v := nI (i + 1)) (nI_add i 1) ?_
  refine gm_scr hx hb hXs hbl hE X (k := i + 1) rfl ⟨by omega, by omega⟩ d_Law_law_1025 ?_
  refine lv_eqi (v := (nI t)) e1 ?_
  refine lv_aload_n hx hb d_Law_law_1026 rfl (lv_at hl 2 rfl) ?_
  refine lv_iload hx hb d_Law_law_1027 (lv_at hl 1 rfl) ?_
  refine lv_iconst (v := 2) hx hb d_Law_law_1029 (by decide) ?_
  refine lv_iadd hx hb d_Law_law_1030 ?_
  refine lv_eqi (v := nI (i + 2)) (nI_add i 2) ?_
  refine gm_scr hx hb hXs hbl hE X (k := i + 2) rfl ⟨by omega, by omega⟩ d_Law_law_1031 ?_
  refine lv_eqi (v := (nI u)) e2 ?_
  refine lv_aload_n hx hb d_Law_law_1032 rfl (lv_at hl 2 rfl) ?_
  refine lv_iload hx hb d_Law_law_1033 (lv_at hl 1 rfl) ?_
  refine lv_iconst (v := 3) hx hb d_Law_law_1035 (by decide) ?_
  refine lv_iadd hx hb d_Law_law_1036 ?_
  refine lv_eqi (v := nI (i + 3)) (nI_add i 3) ?_
  refine gm_scr hx hb hXs hbl hE X (k := i + 3) rfl ⟨by omega, by omega⟩ d_Law_law_1037 ?_
  refine lv_eqi (v := (nI a)) e3 ?_
  refine lv_aload_n hx hb d_Law_law_1038 rfl (lv_at hl 2 rfl) ?_
  refine lv_iload hx hb d_Law_law_1039 (lv_at hl 1 rfl) ?_
  refine lv_iconst (v := 4) hx hb d_Law_law_1041 (by decide) ?_
  refine lv_iadd hx hb d_Law_law_1042 ?_
  refine lv_eqi (v := nI (i + 4)) (nI_add i 4) ?_
  refine gm_scr hx hb hXs hbl hE X (k := i + 4) rfl ⟨by omega, by omega⟩ d_Law_law_1043 ?_
  refine lv_eqi (v := (nI b)) e4 ?_
  refine lv_aload_n hx hb d_Law_law_1044 rfl (lv_at hl 2 rfl) ?_
  refine lv_iload hx hb d_Law_law_1045 (lv_at hl 1 rfl) ?_
  refine lv_iconst (v := 5) hx hb d_Law_law_1047 (by decide) ?_
  refine lv_iadd hx hb d_Law_law_1048 ?_
  refine lv_eqi (v := nI (i + 5)) (nI_add i 5) ?_
  refine gm_scr hx hb hXs hbl hE X (k := i + 5) rfl ⟨by omega, by omega⟩ d_Law_law_1049 ?_
  refine lv_eqi (v := (nI d)) e5 ?_
  refine gm_Vi hx hb hml hown hW X o53 (r_Mdl_sign_ok l E _ τ cd hk hR hn hS h.2.2.2.1 h.2.2.2.2.1 h.2.2.2.2.2 h_t h_u h_a h_b h_d h.2.2.1.2 (g_ord hk)) (n := 5) ⟨⟨wl_Law_121, wi_Mdl_sign, wsel_Mdl_sign, winit_Mdl, wc_Mdl_sign⟩, by decide +kernel, ⟨Nat.le_of_ble_eq_true rfl, Nat.le_of_ble_eq_true rfl⟩, _, rfl, rfl⟩ rfl hl.1 rfl (Nat.le_of_ble_eq_true rfl) d_Law_law_1050 ⟨by show _ ≤ (629376 : Nat); dsimp only; omega, by show _ ≤ (7207977 : Nat); dsimp only; omega⟩ (fun r' M1 H locs hp X => ?_)
  obtain ⟨τ1, rfl, hm⟩ := hp
  refine lv_istore (lv' := [(6, .int r'), (5, .int 0), (4, .int (nI i)), (0, .ref sb), (1, .ref (E.2.1 + 0)), (2, .ref (E.2.1 + 53)), (3, .ref (E.2.1 + 133))]) hx hb d_Law_law_1053 hl (by decide) rfl (fun ls hl => ?_)
  refine lv_aload_n hx hb d_Law_law_1055 rfl (lv_at hl 5 rfl) ?_
  refine gm_Vi hx hb hml hown hW X o53 (r_Mdl_thrown l E _ τ1 0) (n := 0) ⟨⟨wl_Law_75, wi_Mdl_thrown, wsel_Mdl_thrown, winit_Mdl, wc_Mdl_thrown⟩, by decide +kernel, ⟨Nat.le_of_ble_eq_true rfl, Nat.le_of_ble_eq_true rfl⟩, _, rfl, rfl⟩ rfl hl.1 rfl (Nat.le_of_ble_eq_true rfl) d_Law_law_1056 ⟨by show _ ≤ (629376 : Nat); dsimp only; omega, by show _ ≤ (7207977 : Nat); dsimp only; omega⟩ (fun q9 M1 H locs hp X => ?_)
  obtain ⟨rfl, rfl⟩ := hp
  rw [← cw_mw] at X
  refine lv_iload hx hb d_Law_law_1059 (lv_at hl 1 rfl) ?_
  refine lv_icmp_eq (tgt := 1066) hx hb d_Law_law_1061 (by decide) (fun _ => ?_) (fun c9 => absurd (by decide) c9)
  have hrl := rl_sign (inv := inv) h h_t h_u h_a h_b h_d hc hm
  refine lv_iload hx hb d_Law_law_1066 (lv_at hl 1 rfl) ?_
  refine lv_if_ne (tgt := 1090) hx hb d_Law_law_1068 (by decide) (fun c9 => absurd rfl c9) (fun _ => ?_)
  obtain ⟨rfl, hrl⟩ := hrl
  refine lv_aload_n hx hb d_Law_law_1071 rfl (lv_at hl 6 rfl) ?_
  refine lv_iconst (v := 0) hx hb d_Law_law_1072 (by decide) ?_
  refine gm_lald hx hb X (k := 0) (Or.inl (cw_133 om_133)) (by decide) ⟨by decide, by decide⟩ d_Law_law_1073 ?_
  refine lv_eql (v := (if r = 0 then 0 else 1)) (updL0 _ _) ?_
  refine lv_iload hx hb d_Law_law_1074 (lv_at hl 0 rfl) ?_
  refine lv_if_eq (tgt := 1083) hx hb d_Law_law_1076 (by decide) (fun c1076 => ?_) (fun c1076 => ?_)
  · refine lv_lconst (v := 0) hx hb d_Law_law_1083 (by decide) ?_
    refine W.lcmp hx hb d_Law_law_1084 ?_
    refine lv_if_eq (tgt := 1090) hx hb d_Law_law_1085 (by decide) (fun _ => ?_) (fun c9 => absurd (lg_eq (if_pos c1076)) c9)
    refine lv_goto (tgt := 1192) hx hb d_Law_law_1090 (by decide) ?_
    refine gm_wid (k := cells + 5) (n := slots + 30) (by dsimp only; omega) (by dsimp only; omega) ?_
    exact kk ρ1 fl1 τ1 0 (vp_updL fo 0 (if r = 0 then 0 else 1)) H locs ls hrl X (lv_sub hl [2, 3, 4, 5, 6] rfl)
  · refine lv_lconst (v := 1) hx hb d_Law_law_1079 (by decide) ?_
    refine lv_goto (tgt := 1084) hx hb d_Law_law_1080 (by decide) ?_
    refine W.lcmp hx hb d_Law_law_1084 ?_
    refine lv_if_eq (tgt := 1090) hx hb d_Law_law_1085 (by decide) (fun _ => ?_) (fun c9 => absurd (lg_eq (if_neg c1076)) c9)
    refine lv_goto (tgt := 1192) hx hb d_Law_law_1090 (by decide) ?_
    refine gm_wid (k := cells + 5) (n := slots + 30) (by dsimp only; omega) (by dsimp only; omega) ?_
    exact kk ρ1 fl1 τ1 0 (vp_updL fo 0 (if r = 0 then 0 else 1)) H locs ls hrl X (lv_sub hl [2, 3, 4, 5, 6] rfl)
set_option maxRecDepth 100000 in
set_option maxHeartbeats 8000000 in
theorem cs_verify {p : Program} {l : Launch} {e : Env} {s : State} {m : MethodId} {below : List Frame} {meth : Method} {c : Code} {Q : State → Prop} {F G : Type} [Lean.Grind.CommRing F] [Lean.Grind.CommRing G] {φ : Int → F} {inv : F → F} {ψ : Int → G} {E : gm_E} {ad : Nat → Nat} {sb L : Nat} {xs : Nat → Int32} {cells slots : Nat} (hx : p.tables.exec = Jvm.exec) (hb : c.code = code) (hml : c.maxLocals = 8) (hst : l.stackTraces = false) (hown : s.vm.findClass R_Law = some m.cls) (hW : ∀ w ∈ WB, w.before #[Value.ref sb] s = true) (hXs : va_X sb L xs s s.heap) (hbl : sb < s.heap.size) (hE : E.2.1 = s.heap.size) (hL : L ≤ 3072) (hg : gE E ad) (hk : fk φ inv) (hn : fm ψ nN) {Ri : F} (hR : φ (tq 8) * Ri = 1) {Si : G} (hS : ψ (tq 8) * Si = 1) (hcs : cells + 5 ≤ 629376 ∧ slots + 30 ≤ 7207977) {i : Nat} (hi : i + 6 ≤ L) {ρ : Nat → Nat → Int64} {fl : Nat → Int32} {τ : Nat → Nat → Int32} {cd : Int32} {fo : Nat → Int64} (h : RL φ ψ ρ fl τ) {H : Heap} {locs : List Loc} {ls : Array Slot} (X : gx E (LM E ad ρ fl τ cd fo) s H locs) (hl : lv_has ls 8 [(4, .int (nI i)), (0, .ref sb), (1, .ref (E.2.1 + 0)), (2, .ref (E.2.1 + 53)), (3, .ref (E.2.1 + 133))]) (g1 : inR (xs (i + 1)) 4) (g2 : inR (xs (i + 2)) 8) (g3 : inR (xs (i + 3)) 8) (g4 : inR (xs (i + 4)) 8)
    (kk : ∀ (ρ' : Nat → Nat → Int64) (fl' : Nat → Int32) (τ' : Nat → Nat → Int32) (cd' : Int32) (fo' : Nat → Int64) (H : Heap) (locs : List Loc) (ls : Array Slot), RL φ ψ ρ' fl' τ' → gx E (LM E ad ρ' fl' τ' cd' fo') s H locs → lv_has ls 8 [(4, .int (nI i)), (0, .ref sb), (1, .ref (E.2.1 + 0)), (2, .ref (E.2.1 + 53)), (3, .ref (E.2.1 + 133))] → W p l e room_1 s m #[Value.ref sb] below meth c H locs (cells + 5) (slots + 30) Q (F0 m 1192 ls [])) :
    W p l e room_1 s m #[Value.ref sb] below meth c H locs cells slots Q (F0 m 1093 ls []) := by
  obtain ⟨t, h_t, e1⟩ := g1
  obtain ⟨d, h_d, e2⟩ := g2
  obtain ⟨a, h_a, e3⟩ := g3
  obtain ⟨b, h_b, e4⟩ := g4
  obtain ⟨pp, hpc, hpm⟩ := h.2.1 t h_t
  refine lv_aload_n hx hb d_Law_law_1093 rfl (lv_at hl 2 rfl) ?_
  refine lv_aload_n hx hb d_Law_law_1094 rfl (lv_at hl 1 rfl) ?_
  refine lv_iload hx hb d_Law_law_1095 (lv_at hl 0 rfl) ?_
  refine lv_iconst (v := 1) hx hb d_Law_law_1097 (by decide) ?_
  refine lv_iadd hx hb d_Law_law_1098 ?_
  refine lv_eqi (v := nI (i + 1)) (nI_add i 1) ?_
  refine gm_scr hx hb hXs hbl hE X (k := i + 1) rfl ⟨by omega, by omega⟩ d_Law_law_1099 ?_
  refine lv_eqi (v := (nI t)) e1 ?_
  refine lv_aload_n hx hb d_Law_law_1100 rfl (lv_at hl 1 rfl) ?_
  refine lv_iload hx hb d_Law_law_1101 (lv_at hl 0 rfl) ?_
  refine lv_iconst (v := 2) hx hb d_Law_law_1103 (by decide) ?_
  refine lv_iadd hx hb d_Law_law_1104 ?_
  refine lv_eqi (v := nI (i + 2)) (nI_add i 2) ?_
  refine gm_scr hx hb hXs hbl hE X (k := i + 2) rfl ⟨by omega, by omega⟩ d_Law_law_1105 ?_
  refine lv_eqi (v := (nI d)) e2 ?_
  refine lv_aload_n hx hb d_Law_law_1106 rfl (lv_at hl 1 rfl) ?_
  refine lv_iload hx hb d_Law_law_1107 (lv_at hl 0 rfl) ?_
  refine lv_iconst (v := 3) hx hb d_Law_law_1109 (by decide) ?_
  refine lv_iadd hx hb d_Law_law_1110 ?_
  refine lv_eqi (v := nI (i + 3)) (nI_add i 3) ?_
  refine gm_scr hx hb hXs hbl hE X (k := i + 3) rfl ⟨by omega, by omega⟩ d_Law_law_1111 ?_
  refine lv_eqi (v := (nI a)) e3 ?_
  refine lv_aload_n hx hb d_Law_law_1112 rfl (lv_at hl 1 rfl) ?_
  refine lv_iload hx hb d_Law_law_1113 (lv_at hl 0 rfl) ?_
  refine lv_iconst (v := 4) hx hb d_Law_law_1115 (by decide) ?_
  refine lv_iadd hx hb d_Law_law_1116 ?_
  refine lv_eqi (v := nI (i + 4)) (nI_add i 4) ?_
  refine gm_scr hx hb hXs hbl hE X (k := i + 4) rfl ⟨by omega, by omega⟩ d_Law_law_1117 ?_
  refine lv_eqi (v := (nI b)) e4 ?_
  refine lv_aload_n hx hb d_Law_law_1118 rfl (lv_at hl 4 rfl) ?_
  refine gm_SHi hx hb hml hown hW X (h_Law_verify l E ad _ ρ fl hg hk hn om_133 h_t h_d h_a h_b h.2.2.1.1 hpc) (n := 6) ⟨⟨wl_Law_122, ws_Law_verify, winit_Law, wh_Law_verify⟩, by decide +kernel, Nat.le_of_ble_eq_true rfl, Nat.le_of_ble_eq_true rfl⟩ rfl hl.1 rfl (Nat.le_of_ble_eq_true rfl) d_Law_law_1119 ⟨by show _ ≤ (629376 : Nat); dsimp only; omega, by show _ ≤ (7207977 : Nat); dsimp only; omega⟩ (fun k M1 H locs hp X => ?_)
  obtain ⟨rfl, ρ1, fl1, r, rfl, hc⟩ := hp
  rw [om_up] at X
  rw [cw_mw] at X
  refine lv_istore (lv' := [(5, .int 0), (4, .int (nI i)), (0, .ref sb), (1, .ref (E.2.1 + 0)), (2, .ref (E.2.1 + 53)), (3, .ref (E.2.1 + 133))]) hx hb d_Law_law_1122 hl (by decide) rfl (fun ls hl => ?_)
  refine lv_aload_n hx hb d_Law_law_1124 rfl (lv_at hl 4 rfl) ?_
  refine lv_aload_n hx hb d_Law_law_1125 rfl (lv_at hl 2 rfl) ?_
  refine lv_iload hx hb d_Law_law_1126 (lv_at hl 1 rfl) ?_
  refine lv_iconst (v := 1) hx hb d_Law_law_1128 (by decide) ?_
  refine lv_iadd hx hb d_Law_law_1129 ?_
  refine lv_eqi (v := nI (i + 1)) (nI_add i 1) ?_
  refine gm_scr hx hb hXs hbl hE X (k := i + 1) rfl ⟨by omega, by omega⟩ d_Law_law_1130 ?_
  refine lv_eqi (v := (nI t)) e1 ?_
  refine lv_aload_n hx hb d_Law_law_1131 rfl (lv_at hl 2 rfl) ?_
  refine lv_iload hx hb d_Law_law_1132 (lv_at hl 1 rfl) ?_
  refine lv_iconst (v := 2) hx hb d_Law_law_1134 (by decide) ?_
  refine lv_iadd hx hb d_Law_law_1135 ?_
  refine lv_eqi (v := nI (i + 2)) (nI_add i 2) ?_
  refine gm_scr hx hb hXs hbl hE X (k := i + 2) rfl ⟨by omega, by omega⟩ d_Law_law_1136 ?_
  refine lv_eqi (v := (nI d)) e2 ?_
  refine lv_aload_n hx hb d_Law_law_1137 rfl (lv_at hl 2 rfl) ?_
  refine lv_iload hx hb d_Law_law_1138 (lv_at hl 1 rfl) ?_
  refine lv_iconst (v := 3) hx hb d_Law_law_1140 (by decide) ?_
  refine lv_iadd hx hb d_Law_law_1141 ?_
  refine lv_eqi (v := nI (i + 3)) (nI_add i 3) ?_
  refine gm_scr hx hb hXs hbl hE X (k := i + 3) rfl ⟨by omega, by omega⟩ d_Law_law_1142 ?_
  refine lv_eqi (v := (nI a)) e3 ?_
  refine lv_aload_n hx hb d_Law_law_1143 rfl (lv_at hl 2 rfl) ?_
  refine lv_iload hx hb d_Law_law_1144 (lv_at hl 1 rfl) ?_
  refine lv_iconst (v := 4) hx hb d_Law_law_1146 (by decide) ?_
  refine lv_iadd hx hb d_Law_law_1147 ?_
  refine lv_eqi (v := nI (i + 4)) (nI_add i 4) ?_
  refine gm_scr hx hb hXs hbl hE X (k := i + 4) rfl ⟨by omega, by omega⟩ d_Law_law_1148 ?_
  refine lv_eqi (v := (nI b)) e4 ?_
  refine gm_Vi hx hb hml hown hW X o53 (r_Mdl_verify_ok l E _ τ cd hk hR hn hS h.2.2.2.1 h.2.2.2.2.1 h.2.2.2.2.2 h_t h_d h_a h_b h.2.2.1.2 hpm) (n := 4) ⟨⟨wl_Law_124, wi_Mdl_verify, wsel_Mdl_verify, winit_Mdl, wc_Mdl_verify⟩, by decide +kernel, ⟨Nat.le_of_ble_eq_true rfl, Nat.le_of_ble_eq_true rfl⟩, _, rfl, rfl⟩ rfl hl.1 rfl (Nat.le_of_ble_eq_true rfl) d_Law_law_1149 ⟨by show _ ≤ (629376 : Nat); dsimp only; omega, by show _ ≤ (7207977 : Nat); dsimp only; omega⟩ (fun r' M1 H locs hp X => ?_)
  obtain ⟨τ1, rfl, hm⟩ := hp
  refine lv_istore (lv' := [(6, .int r'), (5, .int 0), (4, .int (nI i)), (0, .ref sb), (1, .ref (E.2.1 + 0)), (2, .ref (E.2.1 + 53)), (3, .ref (E.2.1 + 133))]) hx hb d_Law_law_1152 hl (by decide) rfl (fun ls hl => ?_)
  refine lv_aload_n hx hb d_Law_law_1154 rfl (lv_at hl 5 rfl) ?_
  refine gm_Vi hx hb hml hown hW X o53 (r_Mdl_thrown l E _ τ1 0) (n := 0) ⟨⟨wl_Law_75, wi_Mdl_thrown, wsel_Mdl_thrown, winit_Mdl, wc_Mdl_thrown⟩, by decide +kernel, ⟨Nat.le_of_ble_eq_true rfl, Nat.le_of_ble_eq_true rfl⟩, _, rfl, rfl⟩ rfl hl.1 rfl (Nat.le_of_ble_eq_true rfl) d_Law_law_1155 ⟨by show _ ≤ (629376 : Nat); dsimp only; omega, by show _ ≤ (7207977 : Nat); dsimp only; omega⟩ (fun q9 M1 H locs hp X => ?_)
  obtain ⟨rfl, rfl⟩ := hp
  rw [← cw_mw] at X
  refine lv_iload hx hb d_Law_law_1158 (lv_at hl 1 rfl) ?_
  refine lv_icmp_eq (tgt := 1165) hx hb d_Law_law_1160 (by decide) (fun _ => ?_) (fun c9 => absurd (by decide) c9)
  have hrl := rl_verify (inv := inv) h h_t h_d h_a h_b hc hm
  refine lv_iload hx hb d_Law_law_1165 (lv_at hl 1 rfl) ?_
  refine lv_if_ne (tgt := 1189) hx hb d_Law_law_1167 (by decide) (fun c9 => absurd rfl c9) (fun _ => ?_)
  obtain ⟨rfl, hrl⟩ := hrl
  refine lv_aload_n hx hb d_Law_law_1170 rfl (lv_at hl 6 rfl) ?_
  refine lv_iconst (v := 0) hx hb d_Law_law_1171 (by decide) ?_
  refine gm_lald hx hb X (k := 0) (Or.inl (cw_133 om_133)) (by decide) ⟨by decide, by decide⟩ d_Law_law_1172 ?_
  refine lv_eql (v := (if r = 0 then 0 else 1)) (updL0 _ _) ?_
  refine lv_iload hx hb d_Law_law_1173 (lv_at hl 0 rfl) ?_
  refine lv_if_eq (tgt := 1182) hx hb d_Law_law_1175 (by decide) (fun c1175 => ?_) (fun c1175 => ?_)
  · refine lv_lconst (v := 0) hx hb d_Law_law_1182 (by decide) ?_
    refine W.lcmp hx hb d_Law_law_1183 ?_
    refine lv_if_eq (tgt := 1189) hx hb d_Law_law_1184 (by decide) (fun _ => ?_) (fun c9 => absurd (lg_eq (if_pos c1175)) c9)
    refine lv_goto (tgt := 1192) hx hb d_Law_law_1189 (by decide) ?_
    refine gm_wid (k := cells + 5) (n := slots + 30) (by dsimp only; omega) (by dsimp only; omega) ?_
    exact kk ρ1 fl1 τ1 0 (vp_updL fo 0 (if r = 0 then 0 else 1)) H locs ls hrl X (lv_sub hl [2, 3, 4, 5, 6] rfl)
  · refine lv_lconst (v := 1) hx hb d_Law_law_1178 (by decide) ?_
    refine lv_goto (tgt := 1183) hx hb d_Law_law_1179 (by decide) ?_
    refine W.lcmp hx hb d_Law_law_1183 ?_
    refine lv_if_eq (tgt := 1189) hx hb d_Law_law_1184 (by decide) (fun _ => ?_) (fun c9 => absurd (lg_eq (if_neg c1175)) c9)
    refine lv_goto (tgt := 1192) hx hb d_Law_law_1189 (by decide) ?_
    refine gm_wid (k := cells + 5) (n := slots + 30) (by dsimp only; omega) (by dsimp only; omega) ?_
    exact kk ρ1 fl1 τ1 0 (vp_updL fo 0 (if r = 0 then 0 else 1)) H locs ls hrl X (lv_sub hl [2, 3, 4, 5, 6] rfl)
set_option maxRecDepth 100000 in
set_option maxHeartbeats 8000000 in
theorem cb_set {p : Program} {l : Launch} {e : Env} {s : State} {m : MethodId} {below : List Frame} {meth : Method} {c : Code} {Q : State → Prop} {F G : Type} [Lean.Grind.CommRing F] [Lean.Grind.CommRing G] {φ : Int → F} {inv : F → F} {ψ : Int → G} {E : gm_E} {ad : Nat → Nat} {sb L : Nat} {xs : Nat → Int32} {cells slots : Nat} (hx : p.tables.exec = Jvm.exec) (hb : c.code = code) (hml : c.maxLocals = 8) (hst : l.stackTraces = false) (hown : s.vm.findClass R_Law = some m.cls) (hW : ∀ w ∈ WB, w.before #[Value.ref sb] s = true) (hXs : va_X sb L xs s s.heap) (hbl : sb < s.heap.size) (hE : E.2.1 = s.heap.size) (hL : L ≤ 3072) (hg : gE E ad) (hk : fk φ inv) (hn : fm ψ nN) {Ri : F} (hR : φ (tq 8) * Ri = 1) {Si : G} (hS : ψ (tq 8) * Si = 1) (hcs : cells + 5 ≤ 629376 ∧ slots + 30 ≤ 7207977) {i : Nat} (hi : i + 6 ≤ L) {ρ : Nat → Nat → Int64} {fl : Nat → Int32} {τ : Nat → Nat → Int32} {cd : Int32} {fo : Nat → Int64} (h : RL φ ψ ρ fl τ) {H : Heap} {locs : List Loc} {ls : Array Slot} (X : gx E (LM E ad ρ fl τ cd fo) s H locs) (hl : lv_has ls 8 [(4, .int (nI i)), (0, .ref sb), (1, .ref (E.2.1 + 0)), (2, .ref (E.2.1 + 53)), (3, .ref (E.2.1 + 133))]) (hbad : ¬ (inR (xs (i + 1)) 8 ∧ inR (xs (i + 2)) 4))
    (kk : ∀ (ρ' : Nat → Nat → Int64) (fl' : Nat → Int32) (τ' : Nat → Nat → Int32) (cd' : Int32) (fo' : Nat → Int64) (H : Heap) (locs : List Loc) (ls : Array Slot), RL φ ψ ρ' fl' τ' → gx E (LM E ad ρ' fl' τ' cd' fo') s H locs → lv_has ls 8 [(4, .int (nI i)), (0, .ref sb), (1, .ref (E.2.1 + 0)), (2, .ref (E.2.1 + 53)), (3, .ref (E.2.1 + 133))] → W p l e room_1 s m #[Value.ref sb] below meth c H locs (cells + 5) (slots + 30) Q (F0 m 1192 ls [])) :
    W p l e room_1 s m #[Value.ref sb] below meth c H locs cells slots Q (F0 m 112 ls []) := by
  refine lv_aload_n hx hb d_Law_law_112 rfl (lv_at hl 2 rfl) ?_
  refine lv_aload_n hx hb d_Law_law_113 rfl (lv_at hl 1 rfl) ?_
  refine lv_iload hx hb d_Law_law_114 (lv_at hl 0 rfl) ?_
  refine lv_iconst (v := 1) hx hb d_Law_law_116 (by decide) ?_
  refine lv_iadd hx hb d_Law_law_117 ?_
  refine lv_eqi (v := nI (i + 1)) (nI_add i 1) ?_
  refine gm_scr hx hb hXs hbl hE X (k := i + 1) rfl ⟨by omega, by omega⟩ d_Law_law_118 ?_
  refine lv_aload_n hx hb d_Law_law_119 rfl (lv_at hl 1 rfl) ?_
  refine lv_iload hx hb d_Law_law_120 (lv_at hl 0 rfl) ?_
  refine lv_iconst (v := 2) hx hb d_Law_law_122 (by decide) ?_
  refine lv_iadd hx hb d_Law_law_123 ?_
  refine lv_eqi (v := nI (i + 2)) (nI_add i 2) ?_
  refine gm_scr hx hb hXs hbl hE X (k := i + 2) rfl ⟨by omega, by omega⟩ d_Law_law_124 ?_
  refine lv_aload_n hx hb d_Law_law_125 rfl (lv_at hl 1 rfl) ?_
  refine lv_iload hx hb d_Law_law_126 (lv_at hl 0 rfl) ?_
  refine lv_iconst (v := 3) hx hb d_Law_law_128 (by decide) ?_
  refine lv_iadd hx hb d_Law_law_129 ?_
  refine lv_eqi (v := nI (i + 3)) (nI_add i 3) ?_
  refine gm_scr hx hb hXs hbl hE X (k := i + 3) rfl ⟨by omega, by omega⟩ d_Law_law_130 ?_
  refine lv_i2l hx hb d_Law_law_131 rfl ?_
  refine lv_bipush (v := 32) hx hb d_Law_law_132 (by decide) ?_
  refine lv_lshl hx hb d_Law_law_134 rfl ?_
  refine lv_aload_n hx hb d_Law_law_135 rfl (lv_at hl 1 rfl) ?_
  refine lv_iload hx hb d_Law_law_136 (lv_at hl 0 rfl) ?_
  refine lv_iconst (v := 4) hx hb d_Law_law_138 (by decide) ?_
  refine lv_iadd hx hb d_Law_law_139 ?_
  refine lv_eqi (v := nI (i + 4)) (nI_add i 4) ?_
  refine gm_scr hx hb hXs hbl hE X (k := i + 4) rfl ⟨by omega, by omega⟩ d_Law_law_140 ?_
  refine lv_i2l hx hb d_Law_law_141 rfl ?_
  refine lv_ldc2 (v := 4294967295) hx hb hown (hW _ wk_Law_67) d_Law_law_142 ?_
  refine lv_land hx hb d_Law_law_145 ?_
  refine lv_lor hx hb d_Law_law_146 ?_
  refine gm_SHi hx hb hml hown hW X (hb_Law_set l hst E ad _ ρ fl hbad) (n := 4) ⟨⟨wl_Law_69, ws_Law_set, winit_Law, wh_Law_set⟩, by decide +kernel, Nat.le_of_ble_eq_true rfl, Nat.le_of_ble_eq_true rfl⟩ rfl hl.1 rfl (Nat.le_of_ble_eq_true rfl) d_Law_law_147 ⟨by show _ ≤ (629376 : Nat); dsimp only; omega, by show _ ≤ (7207977 : Nat); dsimp only; omega⟩ (fun k M1 H locs hp X => ?_)
  obtain ⟨rfl, rfl⟩ := hp
  rw [cw_mw] at X
  refine lv_istore (lv' := [(5, .int 1), (4, .int (nI i)), (0, .ref sb), (1, .ref (E.2.1 + 0)), (2, .ref (E.2.1 + 53)), (3, .ref (E.2.1 + 133))]) hx hb d_Law_law_150 hl (by decide) rfl (fun ls hl => ?_)
  refine lv_aload_n hx hb d_Law_law_152 rfl (lv_at hl 4 rfl) ?_
  refine lv_aload_n hx hb d_Law_law_153 rfl (lv_at hl 2 rfl) ?_
  refine lv_iload hx hb d_Law_law_154 (lv_at hl 1 rfl) ?_
  refine lv_iconst (v := 1) hx hb d_Law_law_156 (by decide) ?_
  refine lv_iadd hx hb d_Law_law_157 ?_
  refine lv_eqi (v := nI (i + 1)) (nI_add i 1) ?_
  refine gm_scr hx hb hXs hbl hE X (k := i + 1) rfl ⟨by omega, by omega⟩ d_Law_law_158 ?_
  refine lv_aload_n hx hb d_Law_law_159 rfl (lv_at hl 2 rfl) ?_
  refine lv_iload hx hb d_Law_law_160 (lv_at hl 1 rfl) ?_
  refine lv_iconst (v := 2) hx hb d_Law_law_162 (by decide) ?_
  refine lv_iadd hx hb d_Law_law_163 ?_
  refine lv_eqi (v := nI (i + 2)) (nI_add i 2) ?_
  refine gm_scr hx hb hXs hbl hE X (k := i + 2) rfl ⟨by omega, by omega⟩ d_Law_law_164 ?_
  refine lv_aload_n hx hb d_Law_law_165 rfl (lv_at hl 2 rfl) ?_
  refine lv_iload hx hb d_Law_law_166 (lv_at hl 1 rfl) ?_
  refine lv_iconst (v := 3) hx hb d_Law_law_168 (by decide) ?_
  refine lv_iadd hx hb d_Law_law_169 ?_
  refine lv_eqi (v := nI (i + 3)) (nI_add i 3) ?_
  refine gm_scr hx hb hXs hbl hE X (k := i + 3) rfl ⟨by omega, by omega⟩ d_Law_law_170 ?_
  refine lv_i2l hx hb d_Law_law_171 rfl ?_
  refine lv_bipush (v := 32) hx hb d_Law_law_172 (by decide) ?_
  refine lv_lshl hx hb d_Law_law_174 rfl ?_
  refine lv_aload_n hx hb d_Law_law_175 rfl (lv_at hl 2 rfl) ?_
  refine lv_iload hx hb d_Law_law_176 (lv_at hl 1 rfl) ?_
  refine lv_iconst (v := 4) hx hb d_Law_law_178 (by decide) ?_
  refine lv_iadd hx hb d_Law_law_179 ?_
  refine lv_eqi (v := nI (i + 4)) (nI_add i 4) ?_
  refine gm_scr hx hb hXs hbl hE X (k := i + 4) rfl ⟨by omega, by omega⟩ d_Law_law_180 ?_
  refine lv_i2l hx hb d_Law_law_181 rfl ?_
  refine lv_ldc2 (v := 4294967295) hx hb hown (hW _ wk_Law_67) d_Law_law_182 ?_
  refine lv_land hx hb d_Law_law_185 ?_
  refine lv_lor hx hb d_Law_law_186 ?_
  refine gm_Vv hx hb hml hown hW X o53 (r_Mdl_set_bad l E _ τ cd hbad) (n := 3) ⟨⟨wl_Law_74, wi_Mdl_set, wsel_Mdl_set, winit_Mdl, wc_Mdl_set⟩, by decide +kernel, ⟨Nat.le_of_ble_eq_true rfl, Nat.le_of_ble_eq_true rfl⟩, _, rfl, rfl⟩ rfl hl.1 rfl (Nat.le_of_ble_eq_true rfl) d_Law_law_187 ⟨by show _ ≤ (629376 : Nat); dsimp only; omega, by show _ ≤ (7207977 : Nat); dsimp only; omega⟩ (fun M1 H locs hp X => ?_)
  rw [hp] at X
  refine lv_aload_n hx hb d_Law_law_190 rfl (lv_at hl 4 rfl) ?_
  refine gm_Vi hx hb hml hown hW X o53 (r_Mdl_thrown l E _ τ 1) (n := 0) ⟨⟨wl_Law_75, wi_Mdl_thrown, wsel_Mdl_thrown, winit_Mdl, wc_Mdl_thrown⟩, by decide +kernel, ⟨Nat.le_of_ble_eq_true rfl, Nat.le_of_ble_eq_true rfl⟩, _, rfl, rfl⟩ rfl hl.1 rfl (Nat.le_of_ble_eq_true rfl) d_Law_law_191 ⟨by show _ ≤ (629376 : Nat); dsimp only; omega, by show _ ≤ (7207977 : Nat); dsimp only; omega⟩ (fun q9 M1 H locs hp X => ?_)
  obtain ⟨rfl, rfl⟩ := hp
  rw [← cw_mw] at X
  refine lv_iload hx hb d_Law_law_194 (lv_at hl 0 rfl) ?_
  refine lv_icmp_eq (tgt := 201) hx hb d_Law_law_196 (by decide) (fun _ => ?_) (fun c9 => absurd (by decide) c9)
  refine lv_goto (tgt := 1192) hx hb d_Law_law_201 (by decide) ?_
  refine gm_wid (k := cells + 5) (n := slots + 30) (by dsimp only; omega) (by dsimp only; omega) ?_
  exact kk ρ fl τ 1 fo H locs ls h X (lv_sub hl [1, 2, 3, 4, 5] rfl)
set_option maxRecDepth 100000 in
set_option maxHeartbeats 8000000 in
theorem cb_get {p : Program} {l : Launch} {e : Env} {s : State} {m : MethodId} {below : List Frame} {meth : Method} {c : Code} {Q : State → Prop} {F G : Type} [Lean.Grind.CommRing F] [Lean.Grind.CommRing G] {φ : Int → F} {inv : F → F} {ψ : Int → G} {E : gm_E} {ad : Nat → Nat} {sb L : Nat} {xs : Nat → Int32} {cells slots : Nat} (hx : p.tables.exec = Jvm.exec) (hb : c.code = code) (hml : c.maxLocals = 8) (hst : l.stackTraces = false) (hown : s.vm.findClass R_Law = some m.cls) (hW : ∀ w ∈ WB, w.before #[Value.ref sb] s = true) (hXs : va_X sb L xs s s.heap) (hbl : sb < s.heap.size) (hE : E.2.1 = s.heap.size) (hL : L ≤ 3072) (hg : gE E ad) (hk : fk φ inv) (hn : fm ψ nN) {Ri : F} (hR : φ (tq 8) * Ri = 1) {Si : G} (hS : ψ (tq 8) * Si = 1) (hcs : cells + 5 ≤ 629376 ∧ slots + 30 ≤ 7207977) {i : Nat} (hi : i + 6 ≤ L) {ρ : Nat → Nat → Int64} {fl : Nat → Int32} {τ : Nat → Nat → Int32} {cd : Int32} {fo : Nat → Int64} (h : RL φ ψ ρ fl τ) {H : Heap} {locs : List Loc} {ls : Array Slot} (X : gx E (LM E ad ρ fl τ cd fo) s H locs) (hl : lv_has ls 8 [(4, .int (nI i)), (0, .ref sb), (1, .ref (E.2.1 + 0)), (2, .ref (E.2.1 + 53)), (3, .ref (E.2.1 + 133))]) (hbad : ¬ (inR (xs (i + 1)) 8 ∧ inR (xs (i + 2)) 4))
    (kk : ∀ (ρ' : Nat → Nat → Int64) (fl' : Nat → Int32) (τ' : Nat → Nat → Int32) (cd' : Int32) (fo' : Nat → Int64) (H : Heap) (locs : List Loc) (ls : Array Slot), RL φ ψ ρ' fl' τ' → gx E (LM E ad ρ' fl' τ' cd' fo') s H locs → lv_has ls 8 [(4, .int (nI i)), (0, .ref sb), (1, .ref (E.2.1 + 0)), (2, .ref (E.2.1 + 53)), (3, .ref (E.2.1 + 133))] → W p l e room_1 s m #[Value.ref sb] below meth c H locs (cells + 5) (slots + 30) Q (F0 m 1192 ls [])) :
    W p l e room_1 s m #[Value.ref sb] below meth c H locs cells slots Q (F0 m 204 ls []) := by
  refine lv_aload_n hx hb d_Law_law_204 rfl (lv_at hl 2 rfl) ?_
  refine lv_aload_n hx hb d_Law_law_205 rfl (lv_at hl 1 rfl) ?_
  refine lv_iload hx hb d_Law_law_206 (lv_at hl 0 rfl) ?_
  refine lv_iconst (v := 1) hx hb d_Law_law_208 (by decide) ?_
  refine lv_iadd hx hb d_Law_law_209 ?_
  refine lv_eqi (v := nI (i + 1)) (nI_add i 1) ?_
  refine gm_scr hx hb hXs hbl hE X (k := i + 1) rfl ⟨by omega, by omega⟩ d_Law_law_210 ?_
  refine lv_aload_n hx hb d_Law_law_211 rfl (lv_at hl 1 rfl) ?_
  refine lv_iload hx hb d_Law_law_212 (lv_at hl 0 rfl) ?_
  refine lv_iconst (v := 2) hx hb d_Law_law_214 (by decide) ?_
  refine lv_iadd hx hb d_Law_law_215 ?_
  refine lv_eqi (v := nI (i + 2)) (nI_add i 2) ?_
  refine gm_scr hx hb hXs hbl hE X (k := i + 2) rfl ⟨by omega, by omega⟩ d_Law_law_216 ?_
  refine lv_aload_n hx hb d_Law_law_217 rfl (lv_at hl 4 rfl) ?_
  refine gm_SHi hx hb hml hown hW X (hb_Law_get l hst E ad _ ρ fl hbad) (n := 4) ⟨⟨wl_Law_79, ws_Law_get, winit_Law, wh_Law_get⟩, by decide +kernel, Nat.le_of_ble_eq_true rfl, Nat.le_of_ble_eq_true rfl⟩ rfl hl.1 rfl (Nat.le_of_ble_eq_true rfl) d_Law_law_218 ⟨by show _ ≤ (629376 : Nat); dsimp only; omega, by show _ ≤ (7207977 : Nat); dsimp only; omega⟩ (fun k M1 H locs hp X => ?_)
  obtain ⟨rfl, rfl⟩ := hp
  rw [cw_mw] at X
  refine lv_istore (lv' := [(5, .int 1), (4, .int (nI i)), (0, .ref sb), (1, .ref (E.2.1 + 0)), (2, .ref (E.2.1 + 53)), (3, .ref (E.2.1 + 133))]) hx hb d_Law_law_221 hl (by decide) rfl (fun ls hl => ?_)
  refine lv_aload_n hx hb d_Law_law_223 rfl (lv_at hl 4 rfl) ?_
  refine lv_aload_n hx hb d_Law_law_224 rfl (lv_at hl 2 rfl) ?_
  refine lv_iload hx hb d_Law_law_225 (lv_at hl 1 rfl) ?_
  refine lv_iconst (v := 1) hx hb d_Law_law_227 (by decide) ?_
  refine lv_iadd hx hb d_Law_law_228 ?_
  refine lv_eqi (v := nI (i + 1)) (nI_add i 1) ?_
  refine gm_scr hx hb hXs hbl hE X (k := i + 1) rfl ⟨by omega, by omega⟩ d_Law_law_229 ?_
  refine lv_aload_n hx hb d_Law_law_230 rfl (lv_at hl 2 rfl) ?_
  refine lv_iload hx hb d_Law_law_231 (lv_at hl 1 rfl) ?_
  refine lv_iconst (v := 2) hx hb d_Law_law_233 (by decide) ?_
  refine lv_iadd hx hb d_Law_law_234 ?_
  refine lv_eqi (v := nI (i + 2)) (nI_add i 2) ?_
  refine gm_scr hx hb hXs hbl hE X (k := i + 2) rfl ⟨by omega, by omega⟩ d_Law_law_235 ?_
  refine gm_Vl hx hb hml hown hW X o53 (r_Mdl_get_bad l E _ τ cd hbad) (n := 2) ⟨⟨wl_Law_82, wi_Mdl_get, wsel_Mdl_get, winit_Mdl, wc_Mdl_get⟩, by decide +kernel, ⟨Nat.le_of_ble_eq_true rfl, Nat.le_of_ble_eq_true rfl⟩, _, rfl, rfl⟩ rfl hl.1 rfl (Nat.le_of_ble_eq_true rfl) d_Law_law_236 ⟨by show _ ≤ (629376 : Nat); dsimp only; omega, by show _ ≤ (7207977 : Nat); dsimp only; omega⟩ (fun r' M1 H locs hp X => ?_)
  rw [hp] at X
  refine lv_lstore (lv' := [(6, .long r'), (5, .int 1), (4, .int (nI i)), (0, .ref sb), (1, .ref (E.2.1 + 0)), (2, .ref (E.2.1 + 53)), (3, .ref (E.2.1 + 133))]) hx hb d_Law_law_239 hl (by decide) rfl (fun ls hl => ?_)
  refine lv_aload_n hx hb d_Law_law_241 rfl (lv_at hl 5 rfl) ?_
  refine gm_Vi hx hb hml hown hW X o53 (r_Mdl_thrown l E _ τ 1) (n := 0) ⟨⟨wl_Law_75, wi_Mdl_thrown, wsel_Mdl_thrown, winit_Mdl, wc_Mdl_thrown⟩, by decide +kernel, ⟨Nat.le_of_ble_eq_true rfl, Nat.le_of_ble_eq_true rfl⟩, _, rfl, rfl⟩ rfl hl.1 rfl (Nat.le_of_ble_eq_true rfl) d_Law_law_242 ⟨by show _ ≤ (629376 : Nat); dsimp only; omega, by show _ ≤ (7207977 : Nat); dsimp only; omega⟩ (fun q9 M1 H locs hp X => ?_)
  obtain ⟨rfl, rfl⟩ := hp
  rw [← cw_mw] at X
  refine lv_iload hx hb d_Law_law_245 (lv_at hl 1 rfl) ?_
  refine lv_icmp_eq (tgt := 252) hx hb d_Law_law_247 (by decide) (fun _ => ?_) (fun c9 => absurd (by decide) c9)
  refine lv_iload hx hb d_Law_law_252 (lv_at hl 1 rfl) ?_
  refine lv_if_ne (tgt := 268) hx hb d_Law_law_254 (by decide) (fun _ => ?_) (fun c9 => absurd c9 (by decide))
  refine lv_goto (tgt := 1192) hx hb d_Law_law_268 (by decide) ?_
  refine gm_wid (k := cells + 5) (n := slots + 30) (by dsimp only; omega) (by dsimp only; omega) ?_
  exact kk ρ fl τ 1 fo H locs ls h X (lv_sub hl [2, 3, 4, 5, 6] rfl)
set_option maxRecDepth 100000 in
set_option maxHeartbeats 8000000 in
theorem cb_compare {p : Program} {l : Launch} {e : Env} {s : State} {m : MethodId} {below : List Frame} {meth : Method} {c : Code} {Q : State → Prop} {F G : Type} [Lean.Grind.CommRing F] [Lean.Grind.CommRing G] {φ : Int → F} {inv : F → F} {ψ : Int → G} {E : gm_E} {ad : Nat → Nat} {sb L : Nat} {xs : Nat → Int32} {cells slots : Nat} (hx : p.tables.exec = Jvm.exec) (hb : c.code = code) (hml : c.maxLocals = 8) (hst : l.stackTraces = false) (hown : s.vm.findClass R_Law = some m.cls) (hW : ∀ w ∈ WB, w.before #[Value.ref sb] s = true) (hXs : va_X sb L xs s s.heap) (hbl : sb < s.heap.size) (hE : E.2.1 = s.heap.size) (hL : L ≤ 3072) (hg : gE E ad) (hk : fk φ inv) (hn : fm ψ nN) {Ri : F} (hR : φ (tq 8) * Ri = 1) {Si : G} (hS : ψ (tq 8) * Si = 1) (hcs : cells + 5 ≤ 629376 ∧ slots + 30 ≤ 7207977) {i : Nat} (hi : i + 6 ≤ L) {ρ : Nat → Nat → Int64} {fl : Nat → Int32} {τ : Nat → Nat → Int32} {cd : Int32} {fo : Nat → Int64} (h : RL φ ψ ρ fl τ) {H : Heap} {locs : List Loc} {ls : Array Slot} (X : gx E (LM E ad ρ fl τ cd fo) s H locs) (hl : lv_has ls 8 [(4, .int (nI i)), (0, .ref sb), (1, .ref (E.2.1 + 0)), (2, .ref (E.2.1 + 53)), (3, .ref (E.2.1 + 133))]) (hbad : ¬ (inR (xs (i + 1)) 8 ∧ inR (xs (i + 2)) 8))
    (kk : ∀ (ρ' : Nat → Nat → Int64) (fl' : Nat → Int32) (τ' : Nat → Nat → Int32) (cd' : Int32) (fo' : Nat → Int64) (H : Heap) (locs : List Loc) (ls : Array Slot), RL φ ψ ρ' fl' τ' → gx E (LM E ad ρ' fl' τ' cd' fo') s H locs → lv_has ls 8 [(4, .int (nI i)), (0, .ref sb), (1, .ref (E.2.1 + 0)), (2, .ref (E.2.1 + 53)), (3, .ref (E.2.1 + 133))] → W p l e room_1 s m #[Value.ref sb] below meth c H locs (cells + 5) (slots + 30) Q (F0 m 1192 ls [])) :
    W p l e room_1 s m #[Value.ref sb] below meth c H locs cells slots Q (F0 m 271 ls []) := by
  refine lv_aload_n hx hb d_Law_law_271 rfl (lv_at hl 2 rfl) ?_
  refine lv_aload_n hx hb d_Law_law_272 rfl (lv_at hl 1 rfl) ?_
  refine lv_iload hx hb d_Law_law_273 (lv_at hl 0 rfl) ?_
  refine lv_iconst (v := 1) hx hb d_Law_law_275 (by decide) ?_
  refine lv_iadd hx hb d_Law_law_276 ?_
  refine lv_eqi (v := nI (i + 1)) (nI_add i 1) ?_
  refine gm_scr hx hb hXs hbl hE X (k := i + 1) rfl ⟨by omega, by omega⟩ d_Law_law_277 ?_
  refine lv_aload_n hx hb d_Law_law_278 rfl (lv_at hl 1 rfl) ?_
  refine lv_iload hx hb d_Law_law_279 (lv_at hl 0 rfl) ?_
  refine lv_iconst (v := 2) hx hb d_Law_law_281 (by decide) ?_
  refine lv_iadd hx hb d_Law_law_282 ?_
  refine lv_eqi (v := nI (i + 2)) (nI_add i 2) ?_
  refine gm_scr hx hb hXs hbl hE X (k := i + 2) rfl ⟨by omega, by omega⟩ d_Law_law_283 ?_
  refine lv_aload_n hx hb d_Law_law_284 rfl (lv_at hl 4 rfl) ?_
  refine gm_SHi hx hb hml hown hW X (hb_Law_compare l hst E ad _ ρ fl hbad) (n := 4) ⟨⟨wl_Law_83, ws_Law_compare, winit_Law, wh_Law_compare⟩, by decide +kernel, Nat.le_of_ble_eq_true rfl, Nat.le_of_ble_eq_true rfl⟩ rfl hl.1 rfl (Nat.le_of_ble_eq_true rfl) d_Law_law_285 ⟨by show _ ≤ (629376 : Nat); dsimp only; omega, by show _ ≤ (7207977 : Nat); dsimp only; omega⟩ (fun k M1 H locs hp X => ?_)
  obtain ⟨rfl, rfl⟩ := hp
  rw [cw_mw] at X
  refine lv_istore (lv' := [(5, .int 1), (4, .int (nI i)), (0, .ref sb), (1, .ref (E.2.1 + 0)), (2, .ref (E.2.1 + 53)), (3, .ref (E.2.1 + 133))]) hx hb d_Law_law_288 hl (by decide) rfl (fun ls hl => ?_)
  refine lv_aload_n hx hb d_Law_law_290 rfl (lv_at hl 4 rfl) ?_
  refine lv_aload_n hx hb d_Law_law_291 rfl (lv_at hl 2 rfl) ?_
  refine lv_iload hx hb d_Law_law_292 (lv_at hl 1 rfl) ?_
  refine lv_iconst (v := 1) hx hb d_Law_law_294 (by decide) ?_
  refine lv_iadd hx hb d_Law_law_295 ?_
  refine lv_eqi (v := nI (i + 1)) (nI_add i 1) ?_
  refine gm_scr hx hb hXs hbl hE X (k := i + 1) rfl ⟨by omega, by omega⟩ d_Law_law_296 ?_
  refine lv_aload_n hx hb d_Law_law_297 rfl (lv_at hl 2 rfl) ?_
  refine lv_iload hx hb d_Law_law_298 (lv_at hl 1 rfl) ?_
  refine lv_iconst (v := 2) hx hb d_Law_law_300 (by decide) ?_
  refine lv_iadd hx hb d_Law_law_301 ?_
  refine lv_eqi (v := nI (i + 2)) (nI_add i 2) ?_
  refine gm_scr hx hb hXs hbl hE X (k := i + 2) rfl ⟨by omega, by omega⟩ d_Law_law_302 ?_
  refine gm_Vi hx hb hml hown hW X o53 (r_Mdl_compare_bad l E _ τ cd hbad) (n := 2) ⟨⟨wl_Law_85, wi_Mdl_compare, wsel_Mdl_compare, winit_Mdl, wc_Mdl_compare⟩, by decide +kernel, ⟨Nat.le_of_ble_eq_true rfl, Nat.le_of_ble_eq_true rfl⟩, _, rfl, rfl⟩ rfl hl.1 rfl (Nat.le_of_ble_eq_true rfl) d_Law_law_303 ⟨by show _ ≤ (629376 : Nat); dsimp only; omega, by show _ ≤ (7207977 : Nat); dsimp only; omega⟩ (fun r' M1 H locs hp X => ?_)
  rw [hp] at X
  refine lv_istore (lv' := [(6, .int r'), (5, .int 1), (4, .int (nI i)), (0, .ref sb), (1, .ref (E.2.1 + 0)), (2, .ref (E.2.1 + 53)), (3, .ref (E.2.1 + 133))]) hx hb d_Law_law_306 hl (by decide) rfl (fun ls hl => ?_)
  refine lv_aload_n hx hb d_Law_law_308 rfl (lv_at hl 5 rfl) ?_
  refine gm_Vi hx hb hml hown hW X o53 (r_Mdl_thrown l E _ τ 1) (n := 0) ⟨⟨wl_Law_75, wi_Mdl_thrown, wsel_Mdl_thrown, winit_Mdl, wc_Mdl_thrown⟩, by decide +kernel, ⟨Nat.le_of_ble_eq_true rfl, Nat.le_of_ble_eq_true rfl⟩, _, rfl, rfl⟩ rfl hl.1 rfl (Nat.le_of_ble_eq_true rfl) d_Law_law_309 ⟨by show _ ≤ (629376 : Nat); dsimp only; omega, by show _ ≤ (7207977 : Nat); dsimp only; omega⟩ (fun q9 M1 H locs hp X => ?_)
  obtain ⟨rfl, rfl⟩ := hp
  rw [← cw_mw] at X
  refine lv_iload hx hb d_Law_law_312 (lv_at hl 1 rfl) ?_
  refine lv_icmp_eq (tgt := 319) hx hb d_Law_law_314 (by decide) (fun _ => ?_) (fun c9 => absurd (by decide) c9)
  refine lv_iload hx hb d_Law_law_319 (lv_at hl 1 rfl) ?_
  refine lv_if_ne (tgt := 336) hx hb d_Law_law_321 (by decide) (fun _ => ?_) (fun c9 => absurd c9 (by decide))
  refine lv_goto (tgt := 1192) hx hb d_Law_law_336 (by decide) ?_
  refine gm_wid (k := cells + 5) (n := slots + 30) (by dsimp only; omega) (by dsimp only; omega) ?_
  exact kk ρ fl τ 1 fo H locs ls h X (lv_sub hl [2, 3, 4, 5, 6] rfl)
set_option maxRecDepth 100000 in
set_option maxHeartbeats 8000000 in
theorem cb_work {p : Program} {l : Launch} {e : Env} {s : State} {m : MethodId} {below : List Frame} {meth : Method} {c : Code} {Q : State → Prop} {F G : Type} [Lean.Grind.CommRing F] [Lean.Grind.CommRing G] {φ : Int → F} {inv : F → F} {ψ : Int → G} {E : gm_E} {ad : Nat → Nat} {sb L : Nat} {xs : Nat → Int32} {cells slots : Nat} (hx : p.tables.exec = Jvm.exec) (hb : c.code = code) (hml : c.maxLocals = 8) (hst : l.stackTraces = false) (hown : s.vm.findClass R_Law = some m.cls) (hW : ∀ w ∈ WB, w.before #[Value.ref sb] s = true) (hXs : va_X sb L xs s s.heap) (hbl : sb < s.heap.size) (hE : E.2.1 = s.heap.size) (hL : L ≤ 3072) (hg : gE E ad) (hk : fk φ inv) (hn : fm ψ nN) {Ri : F} (hR : φ (tq 8) * Ri = 1) {Si : G} (hS : ψ (tq 8) * Si = 1) (hcs : cells + 5 ≤ 629376 ∧ slots + 30 ≤ 7207977) {i : Nat} (hi : i + 6 ≤ L) {ρ : Nat → Nat → Int64} {fl : Nat → Int32} {τ : Nat → Nat → Int32} {cd : Int32} {fo : Nat → Int64} (h : RL φ ψ ρ fl τ) {H : Heap} {locs : List Loc} {ls : Array Slot} (X : gx E (LM E ad ρ fl τ cd fo) s H locs) (hl : lv_has ls 8 [(4, .int (nI i)), (0, .ref sb), (1, .ref (E.2.1 + 0)), (2, .ref (E.2.1 + 53)), (3, .ref (E.2.1 + 133))]) (hbad : ¬ (inR (xs (i + 1)) 8 ∧ inR (xs (i + 2)) 8 ∧ inR (xs (i + 3)) 8 ∧ inR (xs (i + 4)) 8))
    (kk : ∀ (ρ' : Nat → Nat → Int64) (fl' : Nat → Int32) (τ' : Nat → Nat → Int32) (cd' : Int32) (fo' : Nat → Int64) (H : Heap) (locs : List Loc) (ls : Array Slot), RL φ ψ ρ' fl' τ' → gx E (LM E ad ρ' fl' τ' cd' fo') s H locs → lv_has ls 8 [(4, .int (nI i)), (0, .ref sb), (1, .ref (E.2.1 + 0)), (2, .ref (E.2.1 + 53)), (3, .ref (E.2.1 + 133))] → W p l e room_1 s m #[Value.ref sb] below meth c H locs (cells + 5) (slots + 30) Q (F0 m 1192 ls [])) :
    W p l e room_1 s m #[Value.ref sb] below meth c H locs cells slots Q (F0 m 339 ls []) := by
  refine lv_aload_n hx hb d_Law_law_339 rfl (lv_at hl 2 rfl) ?_
  refine lv_aload_n hx hb d_Law_law_340 rfl (lv_at hl 1 rfl) ?_
  refine lv_iload hx hb d_Law_law_341 (lv_at hl 0 rfl) ?_
  refine lv_iconst (v := 1) hx hb d_Law_law_343 (by decide) ?_
  refine lv_iadd hx hb d_Law_law_344 ?_
  refine lv_eqi (v := nI (i + 1)) (nI_add i 1) ?_
  refine gm_scr hx hb hXs hbl hE X (k := i + 1) rfl ⟨by omega, by omega⟩ d_Law_law_345 ?_
  refine lv_aload_n hx hb d_Law_law_346 rfl (lv_at hl 1 rfl) ?_
  refine lv_iload hx hb d_Law_law_347 (lv_at hl 0 rfl) ?_
  refine lv_iconst (v := 2) hx hb d_Law_law_349 (by decide) ?_
  refine lv_iadd hx hb d_Law_law_350 ?_
  refine lv_eqi (v := nI (i + 2)) (nI_add i 2) ?_
  refine gm_scr hx hb hXs hbl hE X (k := i + 2) rfl ⟨by omega, by omega⟩ d_Law_law_351 ?_
  refine lv_aload_n hx hb d_Law_law_352 rfl (lv_at hl 1 rfl) ?_
  refine lv_iload hx hb d_Law_law_353 (lv_at hl 0 rfl) ?_
  refine lv_iconst (v := 3) hx hb d_Law_law_355 (by decide) ?_
  refine lv_iadd hx hb d_Law_law_356 ?_
  refine lv_eqi (v := nI (i + 3)) (nI_add i 3) ?_
  refine gm_scr hx hb hXs hbl hE X (k := i + 3) rfl ⟨by omega, by omega⟩ d_Law_law_357 ?_
  refine lv_aload_n hx hb d_Law_law_358 rfl (lv_at hl 1 rfl) ?_
  refine lv_iload hx hb d_Law_law_359 (lv_at hl 0 rfl) ?_
  refine lv_iconst (v := 4) hx hb d_Law_law_361 (by decide) ?_
  refine lv_iadd hx hb d_Law_law_362 ?_
  refine lv_eqi (v := nI (i + 4)) (nI_add i 4) ?_
  refine gm_scr hx hb hXs hbl hE X (k := i + 4) rfl ⟨by omega, by omega⟩ d_Law_law_363 ?_
  refine lv_aload_n hx hb d_Law_law_364 rfl (lv_at hl 4 rfl) ?_
  refine gm_SHi hx hb hml hown hW X (hb_Law_work l hst E ad _ ρ fl hbad) (n := 6) ⟨⟨wl_Law_86, ws_Law_work, winit_Law, wh_Law_work⟩, by decide +kernel, Nat.le_of_ble_eq_true rfl, Nat.le_of_ble_eq_true rfl⟩ rfl hl.1 rfl (Nat.le_of_ble_eq_true rfl) d_Law_law_365 ⟨by show _ ≤ (629376 : Nat); dsimp only; omega, by show _ ≤ (7207977 : Nat); dsimp only; omega⟩ (fun k M1 H locs hp X => ?_)
  obtain ⟨rfl, rfl⟩ := hp
  rw [cw_mw] at X
  refine lv_istore (lv' := [(5, .int 1), (4, .int (nI i)), (0, .ref sb), (1, .ref (E.2.1 + 0)), (2, .ref (E.2.1 + 53)), (3, .ref (E.2.1 + 133))]) hx hb d_Law_law_368 hl (by decide) rfl (fun ls hl => ?_)
  refine lv_aload_n hx hb d_Law_law_370 rfl (lv_at hl 4 rfl) ?_
  refine lv_aload_n hx hb d_Law_law_371 rfl (lv_at hl 2 rfl) ?_
  refine lv_iload hx hb d_Law_law_372 (lv_at hl 1 rfl) ?_
  refine lv_iconst (v := 1) hx hb d_Law_law_374 (by decide) ?_
  refine lv_iadd hx hb d_Law_law_375 ?_
  refine lv_eqi (v := nI (i + 1)) (nI_add i 1) ?_
  refine gm_scr hx hb hXs hbl hE X (k := i + 1) rfl ⟨by omega, by omega⟩ d_Law_law_376 ?_
  refine lv_aload_n hx hb d_Law_law_377 rfl (lv_at hl 2 rfl) ?_
  refine lv_iload hx hb d_Law_law_378 (lv_at hl 1 rfl) ?_
  refine lv_iconst (v := 2) hx hb d_Law_law_380 (by decide) ?_
  refine lv_iadd hx hb d_Law_law_381 ?_
  refine lv_eqi (v := nI (i + 2)) (nI_add i 2) ?_
  refine gm_scr hx hb hXs hbl hE X (k := i + 2) rfl ⟨by omega, by omega⟩ d_Law_law_382 ?_
  refine lv_aload_n hx hb d_Law_law_383 rfl (lv_at hl 2 rfl) ?_
  refine lv_iload hx hb d_Law_law_384 (lv_at hl 1 rfl) ?_
  refine lv_iconst (v := 3) hx hb d_Law_law_386 (by decide) ?_
  refine lv_iadd hx hb d_Law_law_387 ?_
  refine lv_eqi (v := nI (i + 3)) (nI_add i 3) ?_
  refine gm_scr hx hb hXs hbl hE X (k := i + 3) rfl ⟨by omega, by omega⟩ d_Law_law_388 ?_
  refine lv_aload_n hx hb d_Law_law_389 rfl (lv_at hl 2 rfl) ?_
  refine lv_iload hx hb d_Law_law_390 (lv_at hl 1 rfl) ?_
  refine lv_iconst (v := 4) hx hb d_Law_law_392 (by decide) ?_
  refine lv_iadd hx hb d_Law_law_393 ?_
  refine lv_eqi (v := nI (i + 4)) (nI_add i 4) ?_
  refine gm_scr hx hb hXs hbl hE X (k := i + 4) rfl ⟨by omega, by omega⟩ d_Law_law_394 ?_
  refine gm_Vi hx hb hml hown hW X o53 (r_Mdl_work_bad l E _ τ cd hbad) (n := 4) ⟨⟨wl_Law_89, wi_Mdl_work, wsel_Mdl_work, winit_Mdl, wc_Mdl_work⟩, by decide +kernel, ⟨Nat.le_of_ble_eq_true rfl, Nat.le_of_ble_eq_true rfl⟩, _, rfl, rfl⟩ rfl hl.1 rfl (Nat.le_of_ble_eq_true rfl) d_Law_law_395 ⟨by show _ ≤ (629376 : Nat); dsimp only; omega, by show _ ≤ (7207977 : Nat); dsimp only; omega⟩ (fun r' M1 H locs hp X => ?_)
  rw [hp] at X
  refine lv_istore (lv' := [(6, .int r'), (5, .int 1), (4, .int (nI i)), (0, .ref sb), (1, .ref (E.2.1 + 0)), (2, .ref (E.2.1 + 53)), (3, .ref (E.2.1 + 133))]) hx hb d_Law_law_398 hl (by decide) rfl (fun ls hl => ?_)
  refine lv_aload_n hx hb d_Law_law_400 rfl (lv_at hl 5 rfl) ?_
  refine gm_Vi hx hb hml hown hW X o53 (r_Mdl_thrown l E _ τ 1) (n := 0) ⟨⟨wl_Law_75, wi_Mdl_thrown, wsel_Mdl_thrown, winit_Mdl, wc_Mdl_thrown⟩, by decide +kernel, ⟨Nat.le_of_ble_eq_true rfl, Nat.le_of_ble_eq_true rfl⟩, _, rfl, rfl⟩ rfl hl.1 rfl (Nat.le_of_ble_eq_true rfl) d_Law_law_401 ⟨by show _ ≤ (629376 : Nat); dsimp only; omega, by show _ ≤ (7207977 : Nat); dsimp only; omega⟩ (fun q9 M1 H locs hp X => ?_)
  obtain ⟨rfl, rfl⟩ := hp
  rw [← cw_mw] at X
  refine lv_iload hx hb d_Law_law_404 (lv_at hl 1 rfl) ?_
  refine lv_icmp_eq (tgt := 411) hx hb d_Law_law_406 (by decide) (fun _ => ?_) (fun c9 => absurd (by decide) c9)
  refine lv_iload hx hb d_Law_law_411 (lv_at hl 1 rfl) ?_
  refine lv_if_ne (tgt := 435) hx hb d_Law_law_413 (by decide) (fun _ => ?_) (fun c9 => absurd c9 (by decide))
  refine lv_goto (tgt := 1192) hx hb d_Law_law_435 (by decide) ?_
  refine gm_wid (k := cells + 5) (n := slots + 30) (by dsimp only; omega) (by dsimp only; omega) ?_
  exact kk ρ fl τ 1 fo H locs ls h X (lv_sub hl [2, 3, 4, 5, 6] rfl)
set_option maxRecDepth 100000 in
set_option maxHeartbeats 8000000 in
theorem cb_base {p : Program} {l : Launch} {e : Env} {s : State} {m : MethodId} {below : List Frame} {meth : Method} {c : Code} {Q : State → Prop} {F G : Type} [Lean.Grind.CommRing F] [Lean.Grind.CommRing G] {φ : Int → F} {inv : F → F} {ψ : Int → G} {E : gm_E} {ad : Nat → Nat} {sb L : Nat} {xs : Nat → Int32} {cells slots : Nat} (hx : p.tables.exec = Jvm.exec) (hb : c.code = code) (hml : c.maxLocals = 8) (hst : l.stackTraces = false) (hown : s.vm.findClass R_Law = some m.cls) (hW : ∀ w ∈ WB, w.before #[Value.ref sb] s = true) (hXs : va_X sb L xs s s.heap) (hbl : sb < s.heap.size) (hE : E.2.1 = s.heap.size) (hL : L ≤ 3072) (hg : gE E ad) (hk : fk φ inv) (hn : fm ψ nN) {Ri : F} (hR : φ (tq 8) * Ri = 1) {Si : G} (hS : ψ (tq 8) * Si = 1) (hcs : cells + 5 ≤ 629376 ∧ slots + 30 ≤ 7207977) {i : Nat} (hi : i + 6 ≤ L) {ρ : Nat → Nat → Int64} {fl : Nat → Int32} {τ : Nat → Nat → Int32} {cd : Int32} {fo : Nat → Int64} (h : RL φ ψ ρ fl τ) {H : Heap} {locs : List Loc} {ls : Array Slot} (X : gx E (LM E ad ρ fl τ cd fo) s H locs) (hl : lv_has ls 8 [(4, .int (nI i)), (0, .ref sb), (1, .ref (E.2.1 + 0)), (2, .ref (E.2.1 + 53)), (3, .ref (E.2.1 + 133))]) (hbad : ¬ (inR (xs (i + 1)) 4))
    (kk : ∀ (ρ' : Nat → Nat → Int64) (fl' : Nat → Int32) (τ' : Nat → Nat → Int32) (cd' : Int32) (fo' : Nat → Int64) (H : Heap) (locs : List Loc) (ls : Array Slot), RL φ ψ ρ' fl' τ' → gx E (LM E ad ρ' fl' τ' cd' fo') s H locs → lv_has ls 8 [(4, .int (nI i)), (0, .ref sb), (1, .ref (E.2.1 + 0)), (2, .ref (E.2.1 + 53)), (3, .ref (E.2.1 + 133))] → W p l e room_1 s m #[Value.ref sb] below meth c H locs (cells + 5) (slots + 30) Q (F0 m 1192 ls [])) :
    W p l e room_1 s m #[Value.ref sb] below meth c H locs cells slots Q (F0 m 438 ls []) := by
  refine lv_aload_n hx hb d_Law_law_438 rfl (lv_at hl 2 rfl) ?_
  refine lv_aload_n hx hb d_Law_law_439 rfl (lv_at hl 1 rfl) ?_
  refine lv_iload hx hb d_Law_law_440 (lv_at hl 0 rfl) ?_
  refine lv_iconst (v := 1) hx hb d_Law_law_442 (by decide) ?_
  refine lv_iadd hx hb d_Law_law_443 ?_
  refine lv_eqi (v := nI (i + 1)) (nI_add i 1) ?_
  refine gm_scr hx hb hXs hbl hE X (k := i + 1) rfl ⟨by omega, by omega⟩ d_Law_law_444 ?_
  refine gm_SHi hx hb hml hown hW X (hb_Law_base l hst E ad _ ρ fl hbad) (n := 2) ⟨⟨wl_Law_90, ws_Law_base, winit_Law, wh_Law_base⟩, by decide +kernel, Nat.le_of_ble_eq_true rfl, Nat.le_of_ble_eq_true rfl⟩ rfl hl.1 rfl (Nat.le_of_ble_eq_true rfl) d_Law_law_445 ⟨by show _ ≤ (629376 : Nat); dsimp only; omega, by show _ ≤ (7207977 : Nat); dsimp only; omega⟩ (fun k M1 H locs hp X => ?_)
  obtain ⟨rfl, rfl⟩ := hp
  rw [cw_mw] at X
  refine lv_istore (lv' := [(5, .int 1), (4, .int (nI i)), (0, .ref sb), (1, .ref (E.2.1 + 0)), (2, .ref (E.2.1 + 53)), (3, .ref (E.2.1 + 133))]) hx hb d_Law_law_448 hl (by decide) rfl (fun ls hl => ?_)
  refine lv_aload_n hx hb d_Law_law_450 rfl (lv_at hl 4 rfl) ?_
  refine lv_aload_n hx hb d_Law_law_451 rfl (lv_at hl 2 rfl) ?_
  refine lv_iload hx hb d_Law_law_452 (lv_at hl 1 rfl) ?_
  refine lv_iconst (v := 1) hx hb d_Law_law_454 (by decide) ?_
  refine lv_iadd hx hb d_Law_law_455 ?_
  refine lv_eqi (v := nI (i + 1)) (nI_add i 1) ?_
  refine gm_scr hx hb hXs hbl hE X (k := i + 1) rfl ⟨by omega, by omega⟩ d_Law_law_456 ?_
  refine gm_Vv hx hb hml hown hW X o53 (r_Mdl_base_bad l E _ τ cd hbad) (n := 1) ⟨⟨wl_Law_93, wi_Mdl_base, wsel_Mdl_base, winit_Mdl, wc_Mdl_base⟩, by decide +kernel, ⟨Nat.le_of_ble_eq_true rfl, Nat.le_of_ble_eq_true rfl⟩, _, rfl, rfl⟩ rfl hl.1 rfl (Nat.le_of_ble_eq_true rfl) d_Law_law_457 ⟨by show _ ≤ (629376 : Nat); dsimp only; omega, by show _ ≤ (7207977 : Nat); dsimp only; omega⟩ (fun M1 H locs hp X => ?_)
  rw [hp] at X
  refine lv_aload_n hx hb d_Law_law_460 rfl (lv_at hl 4 rfl) ?_
  refine gm_Vi hx hb hml hown hW X o53 (r_Mdl_thrown l E _ τ 1) (n := 0) ⟨⟨wl_Law_75, wi_Mdl_thrown, wsel_Mdl_thrown, winit_Mdl, wc_Mdl_thrown⟩, by decide +kernel, ⟨Nat.le_of_ble_eq_true rfl, Nat.le_of_ble_eq_true rfl⟩, _, rfl, rfl⟩ rfl hl.1 rfl (Nat.le_of_ble_eq_true rfl) d_Law_law_461 ⟨by show _ ≤ (629376 : Nat); dsimp only; omega, by show _ ≤ (7207977 : Nat); dsimp only; omega⟩ (fun q9 M1 H locs hp X => ?_)
  obtain ⟨rfl, rfl⟩ := hp
  rw [← cw_mw] at X
  refine lv_iload hx hb d_Law_law_464 (lv_at hl 0 rfl) ?_
  refine lv_icmp_eq (tgt := 471) hx hb d_Law_law_466 (by decide) (fun _ => ?_) (fun c9 => absurd (by decide) c9)
  refine lv_goto (tgt := 1192) hx hb d_Law_law_471 (by decide) ?_
  refine gm_wid (k := cells + 5) (n := slots + 30) (by dsimp only; omega) (by dsimp only; omega) ?_
  exact kk ρ fl τ 1 fo H locs ls h X (lv_sub hl [1, 2, 3, 4, 5] rfl)
set_option maxRecDepth 100000 in
set_option maxHeartbeats 8000000 in
theorem cb_none {p : Program} {l : Launch} {e : Env} {s : State} {m : MethodId} {below : List Frame} {meth : Method} {c : Code} {Q : State → Prop} {F G : Type} [Lean.Grind.CommRing F] [Lean.Grind.CommRing G] {φ : Int → F} {inv : F → F} {ψ : Int → G} {E : gm_E} {ad : Nat → Nat} {sb L : Nat} {xs : Nat → Int32} {cells slots : Nat} (hx : p.tables.exec = Jvm.exec) (hb : c.code = code) (hml : c.maxLocals = 8) (hst : l.stackTraces = false) (hown : s.vm.findClass R_Law = some m.cls) (hW : ∀ w ∈ WB, w.before #[Value.ref sb] s = true) (hXs : va_X sb L xs s s.heap) (hbl : sb < s.heap.size) (hE : E.2.1 = s.heap.size) (hL : L ≤ 3072) (hg : gE E ad) (hk : fk φ inv) (hn : fm ψ nN) {Ri : F} (hR : φ (tq 8) * Ri = 1) {Si : G} (hS : ψ (tq 8) * Si = 1) (hcs : cells + 5 ≤ 629376 ∧ slots + 30 ≤ 7207977) {i : Nat} (hi : i + 6 ≤ L) {ρ : Nat → Nat → Int64} {fl : Nat → Int32} {τ : Nat → Nat → Int32} {cd : Int32} {fo : Nat → Int64} (h : RL φ ψ ρ fl τ) {H : Heap} {locs : List Loc} {ls : Array Slot} (X : gx E (LM E ad ρ fl τ cd fo) s H locs) (hl : lv_has ls 8 [(4, .int (nI i)), (0, .ref sb), (1, .ref (E.2.1 + 0)), (2, .ref (E.2.1 + 53)), (3, .ref (E.2.1 + 133))]) (hbad : ¬ (inR (xs (i + 1)) 4))
    (kk : ∀ (ρ' : Nat → Nat → Int64) (fl' : Nat → Int32) (τ' : Nat → Nat → Int32) (cd' : Int32) (fo' : Nat → Int64) (H : Heap) (locs : List Loc) (ls : Array Slot), RL φ ψ ρ' fl' τ' → gx E (LM E ad ρ' fl' τ' cd' fo') s H locs → lv_has ls 8 [(4, .int (nI i)), (0, .ref sb), (1, .ref (E.2.1 + 0)), (2, .ref (E.2.1 + 53)), (3, .ref (E.2.1 + 133))] → W p l e room_1 s m #[Value.ref sb] below meth c H locs (cells + 5) (slots + 30) Q (F0 m 1192 ls [])) :
    W p l e room_1 s m #[Value.ref sb] below meth c H locs cells slots Q (F0 m 474 ls []) := by
  refine lv_aload_n hx hb d_Law_law_474 rfl (lv_at hl 2 rfl) ?_
  refine lv_aload_n hx hb d_Law_law_475 rfl (lv_at hl 1 rfl) ?_
  refine lv_iload hx hb d_Law_law_476 (lv_at hl 0 rfl) ?_
  refine lv_iconst (v := 1) hx hb d_Law_law_478 (by decide) ?_
  refine lv_iadd hx hb d_Law_law_479 ?_
  refine lv_eqi (v := nI (i + 1)) (nI_add i 1) ?_
  refine gm_scr hx hb hXs hbl hE X (k := i + 1) rfl ⟨by omega, by omega⟩ d_Law_law_480 ?_
  refine gm_SHi hx hb hml hown hW X (hb_Law_none l hst E ad _ ρ fl hbad) (n := 2) ⟨⟨wl_Law_94, ws_Law_none, winit_Law, wh_Law_none⟩, by decide +kernel, Nat.le_of_ble_eq_true rfl, Nat.le_of_ble_eq_true rfl⟩ rfl hl.1 rfl (Nat.le_of_ble_eq_true rfl) d_Law_law_481 ⟨by show _ ≤ (629376 : Nat); dsimp only; omega, by show _ ≤ (7207977 : Nat); dsimp only; omega⟩ (fun k M1 H locs hp X => ?_)
  obtain ⟨rfl, rfl⟩ := hp
  rw [cw_mw] at X
  refine lv_istore (lv' := [(5, .int 1), (4, .int (nI i)), (0, .ref sb), (1, .ref (E.2.1 + 0)), (2, .ref (E.2.1 + 53)), (3, .ref (E.2.1 + 133))]) hx hb d_Law_law_484 hl (by decide) rfl (fun ls hl => ?_)
  refine lv_aload_n hx hb d_Law_law_486 rfl (lv_at hl 4 rfl) ?_
  refine lv_aload_n hx hb d_Law_law_487 rfl (lv_at hl 2 rfl) ?_
  refine lv_iload hx hb d_Law_law_488 (lv_at hl 1 rfl) ?_
  refine lv_iconst (v := 1) hx hb d_Law_law_490 (by decide) ?_
  refine lv_iadd hx hb d_Law_law_491 ?_
  refine lv_eqi (v := nI (i + 1)) (nI_add i 1) ?_
  refine gm_scr hx hb hXs hbl hE X (k := i + 1) rfl ⟨by omega, by omega⟩ d_Law_law_492 ?_
  refine gm_Vv hx hb hml hown hW X o53 (r_Mdl_none_bad l E _ τ cd hbad) (n := 1) ⟨⟨wl_Law_96, wi_Mdl_none, wsel_Mdl_none, winit_Mdl, wc_Mdl_none⟩, by decide +kernel, ⟨Nat.le_of_ble_eq_true rfl, Nat.le_of_ble_eq_true rfl⟩, _, rfl, rfl⟩ rfl hl.1 rfl (Nat.le_of_ble_eq_true rfl) d_Law_law_493 ⟨by show _ ≤ (629376 : Nat); dsimp only; omega, by show _ ≤ (7207977 : Nat); dsimp only; omega⟩ (fun M1 H locs hp X => ?_)
  rw [hp] at X
  refine lv_aload_n hx hb d_Law_law_496 rfl (lv_at hl 4 rfl) ?_
  refine gm_Vi hx hb hml hown hW X o53 (r_Mdl_thrown l E _ τ 1) (n := 0) ⟨⟨wl_Law_75, wi_Mdl_thrown, wsel_Mdl_thrown, winit_Mdl, wc_Mdl_thrown⟩, by decide +kernel, ⟨Nat.le_of_ble_eq_true rfl, Nat.le_of_ble_eq_true rfl⟩, _, rfl, rfl⟩ rfl hl.1 rfl (Nat.le_of_ble_eq_true rfl) d_Law_law_497 ⟨by show _ ≤ (629376 : Nat); dsimp only; omega, by show _ ≤ (7207977 : Nat); dsimp only; omega⟩ (fun q9 M1 H locs hp X => ?_)
  obtain ⟨rfl, rfl⟩ := hp
  rw [← cw_mw] at X
  refine lv_iload hx hb d_Law_law_500 (lv_at hl 0 rfl) ?_
  refine lv_icmp_eq (tgt := 507) hx hb d_Law_law_502 (by decide) (fun _ => ?_) (fun c9 => absurd (by decide) c9)
  refine lv_goto (tgt := 1192) hx hb d_Law_law_507 (by decide) ?_
  refine gm_wid (k := cells + 5) (n := slots + 30) (by dsimp only; omega) (by dsimp only; omega) ?_
  exact kk ρ fl τ 1 fo H locs ls h X (lv_sub hl [1, 2, 3, 4, 5] rfl)
set_option maxRecDepth 100000 in
set_option maxHeartbeats 8000000 in
theorem cb_lay {p : Program} {l : Launch} {e : Env} {s : State} {m : MethodId} {below : List Frame} {meth : Method} {c : Code} {Q : State → Prop} {F G : Type} [Lean.Grind.CommRing F] [Lean.Grind.CommRing G] {φ : Int → F} {inv : F → F} {ψ : Int → G} {E : gm_E} {ad : Nat → Nat} {sb L : Nat} {xs : Nat → Int32} {cells slots : Nat} (hx : p.tables.exec = Jvm.exec) (hb : c.code = code) (hml : c.maxLocals = 8) (hst : l.stackTraces = false) (hown : s.vm.findClass R_Law = some m.cls) (hW : ∀ w ∈ WB, w.before #[Value.ref sb] s = true) (hXs : va_X sb L xs s s.heap) (hbl : sb < s.heap.size) (hE : E.2.1 = s.heap.size) (hL : L ≤ 3072) (hg : gE E ad) (hk : fk φ inv) (hn : fm ψ nN) {Ri : F} (hR : φ (tq 8) * Ri = 1) {Si : G} (hS : ψ (tq 8) * Si = 1) (hcs : cells + 5 ≤ 629376 ∧ slots + 30 ≤ 7207977) {i : Nat} (hi : i + 6 ≤ L) {ρ : Nat → Nat → Int64} {fl : Nat → Int32} {τ : Nat → Nat → Int32} {cd : Int32} {fo : Nat → Int64} (h : RL φ ψ ρ fl τ) {H : Heap} {locs : List Loc} {ls : Array Slot} (X : gx E (LM E ad ρ fl τ cd fo) s H locs) (hl : lv_has ls 8 [(4, .int (nI i)), (0, .ref sb), (1, .ref (E.2.1 + 0)), (2, .ref (E.2.1 + 53)), (3, .ref (E.2.1 + 133))]) (hbad : ¬ (inR (xs (i + 1)) 4 ∧ inR (xs (i + 2)) 8 ∧ inR (xs (i + 3)) 8))
    (kk : ∀ (ρ' : Nat → Nat → Int64) (fl' : Nat → Int32) (τ' : Nat → Nat → Int32) (cd' : Int32) (fo' : Nat → Int64) (H : Heap) (locs : List Loc) (ls : Array Slot), RL φ ψ ρ' fl' τ' → gx E (LM E ad ρ' fl' τ' cd' fo') s H locs → lv_has ls 8 [(4, .int (nI i)), (0, .ref sb), (1, .ref (E.2.1 + 0)), (2, .ref (E.2.1 + 53)), (3, .ref (E.2.1 + 133))] → W p l e room_1 s m #[Value.ref sb] below meth c H locs (cells + 5) (slots + 30) Q (F0 m 1192 ls [])) :
    W p l e room_1 s m #[Value.ref sb] below meth c H locs cells slots Q (F0 m 510 ls []) := by
  refine lv_aload_n hx hb d_Law_law_510 rfl (lv_at hl 2 rfl) ?_
  refine lv_aload_n hx hb d_Law_law_511 rfl (lv_at hl 1 rfl) ?_
  refine lv_iload hx hb d_Law_law_512 (lv_at hl 0 rfl) ?_
  refine lv_iconst (v := 1) hx hb d_Law_law_514 (by decide) ?_
  refine lv_iadd hx hb d_Law_law_515 ?_
  refine lv_eqi (v := nI (i + 1)) (nI_add i 1) ?_
  refine gm_scr hx hb hXs hbl hE X (k := i + 1) rfl ⟨by omega, by omega⟩ d_Law_law_516 ?_
  refine lv_aload_n hx hb d_Law_law_517 rfl (lv_at hl 1 rfl) ?_
  refine lv_iload hx hb d_Law_law_518 (lv_at hl 0 rfl) ?_
  refine lv_iconst (v := 2) hx hb d_Law_law_520 (by decide) ?_
  refine lv_iadd hx hb d_Law_law_521 ?_
  refine lv_eqi (v := nI (i + 2)) (nI_add i 2) ?_
  refine gm_scr hx hb hXs hbl hE X (k := i + 2) rfl ⟨by omega, by omega⟩ d_Law_law_522 ?_
  refine lv_aload_n hx hb d_Law_law_523 rfl (lv_at hl 1 rfl) ?_
  refine lv_iload hx hb d_Law_law_524 (lv_at hl 0 rfl) ?_
  refine lv_iconst (v := 3) hx hb d_Law_law_526 (by decide) ?_
  refine lv_iadd hx hb d_Law_law_527 ?_
  refine lv_eqi (v := nI (i + 3)) (nI_add i 3) ?_
  refine gm_scr hx hb hXs hbl hE X (k := i + 3) rfl ⟨by omega, by omega⟩ d_Law_law_528 ?_
  refine lv_aload_n hx hb d_Law_law_529 rfl (lv_at hl 4 rfl) ?_
  refine gm_SHi hx hb hml hown hW X (hb_Law_lay l hst E ad _ ρ fl hbad) (n := 5) ⟨⟨wl_Law_97, ws_Law_lay, winit_Law, wh_Law_lay⟩, by decide +kernel, Nat.le_of_ble_eq_true rfl, Nat.le_of_ble_eq_true rfl⟩ rfl hl.1 rfl (Nat.le_of_ble_eq_true rfl) d_Law_law_530 ⟨by show _ ≤ (629376 : Nat); dsimp only; omega, by show _ ≤ (7207977 : Nat); dsimp only; omega⟩ (fun k M1 H locs hp X => ?_)
  obtain ⟨rfl, rfl⟩ := hp
  rw [cw_mw] at X
  refine lv_istore (lv' := [(5, .int 1), (4, .int (nI i)), (0, .ref sb), (1, .ref (E.2.1 + 0)), (2, .ref (E.2.1 + 53)), (3, .ref (E.2.1 + 133))]) hx hb d_Law_law_533 hl (by decide) rfl (fun ls hl => ?_)
  refine lv_aload_n hx hb d_Law_law_535 rfl (lv_at hl 4 rfl) ?_
  refine lv_aload_n hx hb d_Law_law_536 rfl (lv_at hl 2 rfl) ?_
  refine lv_iload hx hb d_Law_law_537 (lv_at hl 1 rfl) ?_
  refine lv_iconst (v := 1) hx hb d_Law_law_539 (by decide) ?_
  refine lv_iadd hx hb d_Law_law_540 ?_
  refine lv_eqi (v := nI (i + 1)) (nI_add i 1) ?_
  refine gm_scr hx hb hXs hbl hE X (k := i + 1) rfl ⟨by omega, by omega⟩ d_Law_law_541 ?_
  refine lv_aload_n hx hb d_Law_law_542 rfl (lv_at hl 2 rfl) ?_
  refine lv_iload hx hb d_Law_law_543 (lv_at hl 1 rfl) ?_
  refine lv_iconst (v := 2) hx hb d_Law_law_545 (by decide) ?_
  refine lv_iadd hx hb d_Law_law_546 ?_
  refine lv_eqi (v := nI (i + 2)) (nI_add i 2) ?_
  refine gm_scr hx hb hXs hbl hE X (k := i + 2) rfl ⟨by omega, by omega⟩ d_Law_law_547 ?_
  refine lv_aload_n hx hb d_Law_law_548 rfl (lv_at hl 2 rfl) ?_
  refine lv_iload hx hb d_Law_law_549 (lv_at hl 1 rfl) ?_
  refine lv_iconst (v := 3) hx hb d_Law_law_551 (by decide) ?_
  refine lv_iadd hx hb d_Law_law_552 ?_
  refine lv_eqi (v := nI (i + 3)) (nI_add i 3) ?_
  refine gm_scr hx hb hXs hbl hE X (k := i + 3) rfl ⟨by omega, by omega⟩ d_Law_law_553 ?_
  refine gm_Vi hx hb hml hown hW X o53 (r_Mdl_lay_bad l E _ τ cd hbad) (n := 3) ⟨⟨wl_Law_100, wi_Mdl_lay, wsel_Mdl_lay, winit_Mdl, wc_Mdl_lay⟩, by decide +kernel, ⟨Nat.le_of_ble_eq_true rfl, Nat.le_of_ble_eq_true rfl⟩, _, rfl, rfl⟩ rfl hl.1 rfl (Nat.le_of_ble_eq_true rfl) d_Law_law_554 ⟨by show _ ≤ (629376 : Nat); dsimp only; omega, by show _ ≤ (7207977 : Nat); dsimp only; omega⟩ (fun r' M1 H locs hp X => ?_)
  rw [hp] at X
  refine lv_istore (lv' := [(6, .int r'), (5, .int 1), (4, .int (nI i)), (0, .ref sb), (1, .ref (E.2.1 + 0)), (2, .ref (E.2.1 + 53)), (3, .ref (E.2.1 + 133))]) hx hb d_Law_law_557 hl (by decide) rfl (fun ls hl => ?_)
  refine lv_aload_n hx hb d_Law_law_559 rfl (lv_at hl 5 rfl) ?_
  refine gm_Vi hx hb hml hown hW X o53 (r_Mdl_thrown l E _ τ 1) (n := 0) ⟨⟨wl_Law_75, wi_Mdl_thrown, wsel_Mdl_thrown, winit_Mdl, wc_Mdl_thrown⟩, by decide +kernel, ⟨Nat.le_of_ble_eq_true rfl, Nat.le_of_ble_eq_true rfl⟩, _, rfl, rfl⟩ rfl hl.1 rfl (Nat.le_of_ble_eq_true rfl) d_Law_law_560 ⟨by show _ ≤ (629376 : Nat); dsimp only; omega, by show _ ≤ (7207977 : Nat); dsimp only; omega⟩ (fun q9 M1 H locs hp X => ?_)
  obtain ⟨rfl, rfl⟩ := hp
  rw [← cw_mw] at X
  refine lv_iload hx hb d_Law_law_563 (lv_at hl 1 rfl) ?_
  refine lv_icmp_eq (tgt := 570) hx hb d_Law_law_565 (by decide) (fun _ => ?_) (fun c9 => absurd (by decide) c9)
  refine lv_iload hx hb d_Law_law_570 (lv_at hl 1 rfl) ?_
  refine lv_if_ne (tgt := 594) hx hb d_Law_law_572 (by decide) (fun _ => ?_) (fun c9 => absurd c9 (by decide))
  refine lv_goto (tgt := 1192) hx hb d_Law_law_594 (by decide) ?_
  refine gm_wid (k := cells + 5) (n := slots + 30) (by dsimp only; omega) (by dsimp only; omega) ?_
  exact kk ρ fl τ 1 fo H locs ls h X (lv_sub hl [2, 3, 4, 5, 6] rfl)
set_option maxRecDepth 100000 in
set_option maxHeartbeats 8000000 in
theorem cb_lift_0 {p : Program} {l : Launch} {e : Env} {s : State} {m : MethodId} {below : List Frame} {meth : Method} {c : Code} {Q : State → Prop} {F G : Type} [Lean.Grind.CommRing F] [Lean.Grind.CommRing G] {φ : Int → F} {inv : F → F} {ψ : Int → G} {E : gm_E} {ad : Nat → Nat} {sb L : Nat} {xs : Nat → Int32} {cells slots : Nat} (hx : p.tables.exec = Jvm.exec) (hb : c.code = code) (hml : c.maxLocals = 8) (hst : l.stackTraces = false) (hown : s.vm.findClass R_Law = some m.cls) (hW : ∀ w ∈ WB, w.before #[Value.ref sb] s = true) (hXs : va_X sb L xs s s.heap) (hbl : sb < s.heap.size) (hE : E.2.1 = s.heap.size) (hL : L ≤ 3072) (hg : gE E ad) (hk : fk φ inv) (hn : fm ψ nN) {Ri : F} (hR : φ (tq 8) * Ri = 1) {Si : G} (hS : ψ (tq 8) * Si = 1) (hcs : cells + 5 ≤ 629376 ∧ slots + 30 ≤ 7207977) {i : Nat} (hi : i + 6 ≤ L) {ρ : Nat → Nat → Int64} {fl : Nat → Int32} {τ : Nat → Nat → Int32} {cd : Int32} {fo : Nat → Int64} (h : RL φ ψ ρ fl τ) {H : Heap} {locs : List Loc} {ls : Array Slot} (X : gx E (LM E ad ρ fl τ cd fo) s H locs) (hl : lv_has ls 8 [(4, .int (nI i)), (0, .ref sb), (1, .ref (E.2.1 + 0)), (2, .ref (E.2.1 + 53)), (3, .ref (E.2.1 + 133))]) (hbad : ¬ (inR (xs (i + 1)) 4 ∧ inR (xs (i + 2)) 8)) (hod : xs (i + 3) = 0)
    (kk : ∀ (ρ' : Nat → Nat → Int64) (fl' : Nat → Int32) (τ' : Nat → Nat → Int32) (cd' : Int32) (fo' : Nat → Int64) (H : Heap) (locs : List Loc) (ls : Array Slot), RL φ ψ ρ' fl' τ' → gx E (LM E ad ρ' fl' τ' cd' fo') s H locs → lv_has ls 8 [(4, .int (nI i)), (0, .ref sb), (1, .ref (E.2.1 + 0)), (2, .ref (E.2.1 + 53)), (3, .ref (E.2.1 + 133))] → W p l e room_1 s m #[Value.ref sb] below meth c H locs (cells + 5) (slots + 30) Q (F0 m 1192 ls [])) :
    W p l e room_1 s m #[Value.ref sb] below meth c H locs cells slots Q (F0 m 597 ls []) := by
  refine lv_aload_n hx hb d_Law_law_597 rfl (lv_at hl 2 rfl) ?_
  refine lv_aload_n hx hb d_Law_law_598 rfl (lv_at hl 1 rfl) ?_
  refine lv_iload hx hb d_Law_law_599 (lv_at hl 0 rfl) ?_
  refine lv_iconst (v := 1) hx hb d_Law_law_601 (by decide) ?_
  refine lv_iadd hx hb d_Law_law_602 ?_
  refine lv_eqi (v := nI (i + 1)) (nI_add i 1) ?_
  refine gm_scr hx hb hXs hbl hE X (k := i + 1) rfl ⟨by omega, by omega⟩ d_Law_law_603 ?_
  refine lv_aload_n hx hb d_Law_law_604 rfl (lv_at hl 1 rfl) ?_
  refine lv_iload hx hb d_Law_law_605 (lv_at hl 0 rfl) ?_
  refine lv_iconst (v := 2) hx hb d_Law_law_607 (by decide) ?_
  refine lv_iadd hx hb d_Law_law_608 ?_
  refine lv_eqi (v := nI (i + 2)) (nI_add i 2) ?_
  refine gm_scr hx hb hXs hbl hE X (k := i + 2) rfl ⟨by omega, by omega⟩ d_Law_law_609 ?_
  refine lv_aload_n hx hb d_Law_law_610 rfl (lv_at hl 1 rfl) ?_
  refine lv_iload hx hb d_Law_law_611 (lv_at hl 0 rfl) ?_
  refine lv_iconst (v := 3) hx hb d_Law_law_613 (by decide) ?_
  refine lv_iadd hx hb d_Law_law_614 ?_
  refine lv_eqi (v := nI (i + 3)) (nI_add i 3) ?_
  refine gm_scr hx hb hXs hbl hE X (k := i + 3) rfl ⟨by omega, by omega⟩ d_Law_law_615 ?_
  refine lv_if_eq (tgt := 623) hx hb d_Law_law_616 (by decide) (fun _ => ?_) (fun c9 => absurd hod c9)
  refine lv_iconst (v := 0) hx hb d_Law_law_623 (by decide) ?_
  refine lv_aload_n hx hb d_Law_law_624 rfl (lv_at hl 4 rfl) ?_
  refine gm_SHi hx hb hml hown hW X (hb_Law_lift l hst E ad _ ρ fl hbad) (n := 5) ⟨⟨wl_Law_101, ws_Law_lift, winit_Law, wh_Law_lift⟩, by decide +kernel, Nat.le_of_ble_eq_true rfl, Nat.le_of_ble_eq_true rfl⟩ rfl hl.1 rfl (Nat.le_of_ble_eq_true rfl) d_Law_law_625 ⟨by show _ ≤ (629376 : Nat); dsimp only; omega, by show _ ≤ (7207977 : Nat); dsimp only; omega⟩ (fun k M1 H locs hp X => ?_)
  obtain ⟨rfl, rfl⟩ := hp
  rw [cw_mw] at X
  refine lv_istore (lv' := [(5, .int 1), (4, .int (nI i)), (0, .ref sb), (1, .ref (E.2.1 + 0)), (2, .ref (E.2.1 + 53)), (3, .ref (E.2.1 + 133))]) hx hb d_Law_law_628 hl (by decide) rfl (fun ls hl => ?_)
  refine lv_aload_n hx hb d_Law_law_630 rfl (lv_at hl 4 rfl) ?_
  refine lv_aload_n hx hb d_Law_law_631 rfl (lv_at hl 2 rfl) ?_
  refine lv_iload hx hb d_Law_law_632 (lv_at hl 1 rfl) ?_
  refine lv_iconst (v := 1) hx hb d_Law_law_634 (by decide) ?_
  refine lv_iadd hx hb d_Law_law_635 ?_
  refine lv_eqi (v := nI (i + 1)) (nI_add i 1) ?_
  refine gm_scr hx hb hXs hbl hE X (k := i + 1) rfl ⟨by omega, by omega⟩ d_Law_law_636 ?_
  refine lv_aload_n hx hb d_Law_law_637 rfl (lv_at hl 2 rfl) ?_
  refine lv_iload hx hb d_Law_law_638 (lv_at hl 1 rfl) ?_
  refine lv_iconst (v := 2) hx hb d_Law_law_640 (by decide) ?_
  refine lv_iadd hx hb d_Law_law_641 ?_
  refine lv_eqi (v := nI (i + 2)) (nI_add i 2) ?_
  refine gm_scr hx hb hXs hbl hE X (k := i + 2) rfl ⟨by omega, by omega⟩ d_Law_law_642 ?_
  refine lv_aload_n hx hb d_Law_law_643 rfl (lv_at hl 2 rfl) ?_
  refine lv_iload hx hb d_Law_law_644 (lv_at hl 1 rfl) ?_
  refine lv_iconst (v := 3) hx hb d_Law_law_646 (by decide) ?_
  refine lv_iadd hx hb d_Law_law_647 ?_
  refine lv_eqi (v := nI (i + 3)) (nI_add i 3) ?_
  refine gm_scr hx hb hXs hbl hE X (k := i + 3) rfl ⟨by omega, by omega⟩ d_Law_law_648 ?_
  refine lv_if_eq (tgt := 656) hx hb d_Law_law_649 (by decide) (fun _ => ?_) (fun c9 => absurd hod c9)
  refine lv_iconst (v := 0) hx hb d_Law_law_656 (by decide) ?_
  refine gm_Vi hx hb hml hown hW X o53 (r_Mdl_lift_bad l E _ τ cd hbad) (n := 3) ⟨⟨wl_Law_104, wi_Mdl_lift, wsel_Mdl_lift, winit_Mdl, wc_Mdl_lift⟩, by decide +kernel, ⟨Nat.le_of_ble_eq_true rfl, Nat.le_of_ble_eq_true rfl⟩, _, rfl, rfl⟩ rfl hl.1 rfl (Nat.le_of_ble_eq_true rfl) d_Law_law_657 ⟨by show _ ≤ (629376 : Nat); dsimp only; omega, by show _ ≤ (7207977 : Nat); dsimp only; omega⟩ (fun r' M1 H locs hp X => ?_)
  rw [hp] at X
  refine lv_istore (lv' := [(6, .int r'), (5, .int 1), (4, .int (nI i)), (0, .ref sb), (1, .ref (E.2.1 + 0)), (2, .ref (E.2.1 + 53)), (3, .ref (E.2.1 + 133))]) hx hb d_Law_law_660 hl (by decide) rfl (fun ls hl => ?_)
  refine lv_aload_n hx hb d_Law_law_662 rfl (lv_at hl 5 rfl) ?_
  refine gm_Vi hx hb hml hown hW X o53 (r_Mdl_thrown l E _ τ 1) (n := 0) ⟨⟨wl_Law_75, wi_Mdl_thrown, wsel_Mdl_thrown, winit_Mdl, wc_Mdl_thrown⟩, by decide +kernel, ⟨Nat.le_of_ble_eq_true rfl, Nat.le_of_ble_eq_true rfl⟩, _, rfl, rfl⟩ rfl hl.1 rfl (Nat.le_of_ble_eq_true rfl) d_Law_law_663 ⟨by show _ ≤ (629376 : Nat); dsimp only; omega, by show _ ≤ (7207977 : Nat); dsimp only; omega⟩ (fun q9 M1 H locs hp X => ?_)
  obtain ⟨rfl, rfl⟩ := hp
  rw [← cw_mw] at X
  refine lv_iload hx hb d_Law_law_666 (lv_at hl 1 rfl) ?_
  refine lv_icmp_eq (tgt := 673) hx hb d_Law_law_668 (by decide) (fun _ => ?_) (fun c9 => absurd (by decide) c9)
  refine lv_iload hx hb d_Law_law_673 (lv_at hl 1 rfl) ?_
  refine lv_if_ne (tgt := 697) hx hb d_Law_law_675 (by decide) (fun _ => ?_) (fun c9 => absurd c9 (by decide))
  refine lv_goto (tgt := 1192) hx hb d_Law_law_697 (by decide) ?_
  refine gm_wid (k := cells + 5) (n := slots + 30) (by dsimp only; omega) (by dsimp only; omega) ?_
  exact kk ρ fl τ 1 fo H locs ls h X (lv_sub hl [2, 3, 4, 5, 6] rfl)
theorem cb_lift_1 {p : Program} {l : Launch} {e : Env} {s : State} {m : MethodId} {below : List Frame} {meth : Method} {c : Code} {Q : State → Prop} {F G : Type} [Lean.Grind.CommRing F] [Lean.Grind.CommRing G] {φ : Int → F} {inv : F → F} {ψ : Int → G} {E : gm_E} {ad : Nat → Nat} {sb L : Nat} {xs : Nat → Int32} {cells slots : Nat} (hx : p.tables.exec = Jvm.exec) (hb : c.code = code) (hml : c.maxLocals = 8) (hst : l.stackTraces = false) (hown : s.vm.findClass R_Law = some m.cls) (hW : ∀ w ∈ WB, w.before #[Value.ref sb] s = true) (hXs : va_X sb L xs s s.heap) (hbl : sb < s.heap.size) (hE : E.2.1 = s.heap.size) (hL : L ≤ 3072) (hg : gE E ad) (hk : fk φ inv) (hn : fm ψ nN) {Ri : F} (hR : φ (tq 8) * Ri = 1) {Si : G} (hS : ψ (tq 8) * Si = 1) (hcs : cells + 5 ≤ 629376 ∧ slots + 30 ≤ 7207977) {i : Nat} (hi : i + 6 ≤ L) {ρ : Nat → Nat → Int64} {fl : Nat → Int32} {τ : Nat → Nat → Int32} {cd : Int32} {fo : Nat → Int64} (h : RL φ ψ ρ fl τ) {H : Heap} {locs : List Loc} {ls : Array Slot} (X : gx E (LM E ad ρ fl τ cd fo) s H locs) (hl : lv_has ls 8 [(4, .int (nI i)), (0, .ref sb), (1, .ref (E.2.1 + 0)), (2, .ref (E.2.1 + 53)), (3, .ref (E.2.1 + 133))]) (hbad : ¬ (inR (xs (i + 1)) 4 ∧ inR (xs (i + 2)) 8)) (hod : ¬ xs (i + 3) = 0)
    (kk : ∀ (ρ' : Nat → Nat → Int64) (fl' : Nat → Int32) (τ' : Nat → Nat → Int32) (cd' : Int32) (fo' : Nat → Int64) (H : Heap) (locs : List Loc) (ls : Array Slot), RL φ ψ ρ' fl' τ' → gx E (LM E ad ρ' fl' τ' cd' fo') s H locs → lv_has ls 8 [(4, .int (nI i)), (0, .ref sb), (1, .ref (E.2.1 + 0)), (2, .ref (E.2.1 + 53)), (3, .ref (E.2.1 + 133))] → W p l e room_1 s m #[Value.ref sb] below meth c H locs (cells + 5) (slots + 30) Q (F0 m 1192 ls [])) :
    W p l e room_1 s m #[Value.ref sb] below meth c H locs cells slots Q (F0 m 597 ls []) := by
  refine lv_aload_n hx hb d_Law_law_597 rfl (lv_at hl 2 rfl) ?_
  refine lv_aload_n hx hb d_Law_law_598 rfl (lv_at hl 1 rfl) ?_
  refine lv_iload hx hb d_Law_law_599 (lv_at hl 0 rfl) ?_
  refine lv_iconst (v := 1) hx hb d_Law_law_601 (by decide) ?_
  refine lv_iadd hx hb d_Law_law_602 ?_
  refine lv_eqi (v := nI (i + 1)) (nI_add i 1) ?_
  refine gm_scr hx hb hXs hbl hE X (k := i + 1) rfl ⟨by omega, by omega⟩ d_Law_law_603 ?_
  refine lv_aload_n hx hb d_Law_law_604 rfl (lv_at hl 1 rfl) ?_
  refine lv_iload hx hb d_Law_law_605 (lv_at hl 0 rfl) ?_
  refine lv_iconst (v := 2) hx hb d_Law_law_607 (by decide) ?_
  refine lv_iadd hx hb d_Law_law_608 ?_
  refine lv_eqi (v := nI (i + 2)) (nI_add i 2) ?_
  refine gm_scr hx hb hXs hbl hE X (k := i + 2) rfl ⟨by omega, by omega⟩ d_Law_law_609 ?_
  refine lv_aload_n hx hb d_Law_law_610 rfl (lv_at hl 1 rfl) ?_
  refine lv_iload hx hb d_Law_law_611 (lv_at hl 0 rfl) ?_
  refine lv_iconst (v := 3) hx hb d_Law_law_613 (by decide) ?_
  refine lv_iadd hx hb d_Law_law_614 ?_
  refine lv_eqi (v := nI (i + 3)) (nI_add i 3) ?_
  refine gm_scr hx hb hXs hbl hE X (k := i + 3) rfl ⟨by omega, by omega⟩ d_Law_law_615 ?_
  refine lv_if_eq (tgt := 623) hx hb d_Law_law_616 (by decide) (fun c9 => absurd c9 hod) (fun _ => ?_)
  refine lv_iconst (v := 1) hx hb d_Law_law_619 (by decide) ?_
  refine lv_goto (tgt := 624) hx hb d_Law_law_620 (by decide) ?_
  refine lv_aload_n hx hb d_Law_law_624 rfl (lv_at hl 4 rfl) ?_
  refine gm_SHi hx hb hml hown hW X (hb_Law_lift l hst E ad _ ρ fl hbad) (n := 5) ⟨⟨wl_Law_101, ws_Law_lift, winit_Law, wh_Law_lift⟩, by decide +kernel, Nat.le_of_ble_eq_true rfl, Nat.le_of_ble_eq_true rfl⟩ rfl hl.1 rfl (Nat.le_of_ble_eq_true rfl) d_Law_law_625 ⟨by show _ ≤ (629376 : Nat); dsimp only; omega, by show _ ≤ (7207977 : Nat); dsimp only; omega⟩ (fun k M1 H locs hp X => ?_)
  obtain ⟨rfl, rfl⟩ := hp
  rw [cw_mw] at X
  refine lv_istore (lv' := [(5, .int 1), (4, .int (nI i)), (0, .ref sb), (1, .ref (E.2.1 + 0)), (2, .ref (E.2.1 + 53)), (3, .ref (E.2.1 + 133))]) hx hb d_Law_law_628 hl (by decide) rfl (fun ls hl => ?_)
  refine lv_aload_n hx hb d_Law_law_630 rfl (lv_at hl 4 rfl) ?_
  refine lv_aload_n hx hb d_Law_law_631 rfl (lv_at hl 2 rfl) ?_
  refine lv_iload hx hb d_Law_law_632 (lv_at hl 1 rfl) ?_
  refine lv_iconst (v := 1) hx hb d_Law_law_634 (by decide) ?_
  refine lv_iadd hx hb d_Law_law_635 ?_
  refine lv_eqi (v := nI (i + 1)) (nI_add i 1) ?_
  refine gm_scr hx hb hXs hbl hE X (k := i + 1) rfl ⟨by omega, by omega⟩ d_Law_law_636 ?_
  refine lv_aload_n hx hb d_Law_law_637 rfl (lv_at hl 2 rfl) ?_
  refine lv_iload hx hb d_Law_law_638 (lv_at hl 1 rfl) ?_
  refine lv_iconst (v := 2) hx hb d_Law_law_640 (by decide) ?_
  refine lv_iadd hx hb d_Law_law_641 ?_
  refine lv_eqi (v := nI (i + 2)) (nI_add i 2) ?_
  refine gm_scr hx hb hXs hbl hE X (k := i + 2) rfl ⟨by omega, by omega⟩ d_Law_law_642 ?_
  refine lv_aload_n hx hb d_Law_law_643 rfl (lv_at hl 2 rfl) ?_
  refine lv_iload hx hb d_Law_law_644 (lv_at hl 1 rfl) ?_
  refine lv_iconst (v := 3) hx hb d_Law_law_646 (by decide) ?_
  refine lv_iadd hx hb d_Law_law_647 ?_
  refine lv_eqi (v := nI (i + 3)) (nI_add i 3) ?_
  refine gm_scr hx hb hXs hbl hE X (k := i + 3) rfl ⟨by omega, by omega⟩ d_Law_law_648 ?_
  refine lv_if_eq (tgt := 656) hx hb d_Law_law_649 (by decide) (fun c9 => absurd c9 hod) (fun _ => ?_)
  refine lv_iconst (v := 1) hx hb d_Law_law_652 (by decide) ?_
  refine lv_goto (tgt := 657) hx hb d_Law_law_653 (by decide) ?_
  refine gm_Vi hx hb hml hown hW X o53 (r_Mdl_lift_bad l E _ τ cd hbad) (n := 3) ⟨⟨wl_Law_104, wi_Mdl_lift, wsel_Mdl_lift, winit_Mdl, wc_Mdl_lift⟩, by decide +kernel, ⟨Nat.le_of_ble_eq_true rfl, Nat.le_of_ble_eq_true rfl⟩, _, rfl, rfl⟩ rfl hl.1 rfl (Nat.le_of_ble_eq_true rfl) d_Law_law_657 ⟨by show _ ≤ (629376 : Nat); dsimp only; omega, by show _ ≤ (7207977 : Nat); dsimp only; omega⟩ (fun r' M1 H locs hp X => ?_)
  rw [hp] at X
  refine lv_istore (lv' := [(6, .int r'), (5, .int 1), (4, .int (nI i)), (0, .ref sb), (1, .ref (E.2.1 + 0)), (2, .ref (E.2.1 + 53)), (3, .ref (E.2.1 + 133))]) hx hb d_Law_law_660 hl (by decide) rfl (fun ls hl => ?_)
  refine lv_aload_n hx hb d_Law_law_662 rfl (lv_at hl 5 rfl) ?_
  refine gm_Vi hx hb hml hown hW X o53 (r_Mdl_thrown l E _ τ 1) (n := 0) ⟨⟨wl_Law_75, wi_Mdl_thrown, wsel_Mdl_thrown, winit_Mdl, wc_Mdl_thrown⟩, by decide +kernel, ⟨Nat.le_of_ble_eq_true rfl, Nat.le_of_ble_eq_true rfl⟩, _, rfl, rfl⟩ rfl hl.1 rfl (Nat.le_of_ble_eq_true rfl) d_Law_law_663 ⟨by show _ ≤ (629376 : Nat); dsimp only; omega, by show _ ≤ (7207977 : Nat); dsimp only; omega⟩ (fun q9 M1 H locs hp X => ?_)
  obtain ⟨rfl, rfl⟩ := hp
  rw [← cw_mw] at X
  refine lv_iload hx hb d_Law_law_666 (lv_at hl 1 rfl) ?_
  refine lv_icmp_eq (tgt := 673) hx hb d_Law_law_668 (by decide) (fun _ => ?_) (fun c9 => absurd (by decide) c9)
  refine lv_iload hx hb d_Law_law_673 (lv_at hl 1 rfl) ?_
  refine lv_if_ne (tgt := 697) hx hb d_Law_law_675 (by decide) (fun _ => ?_) (fun c9 => absurd c9 (by decide))
  refine lv_goto (tgt := 1192) hx hb d_Law_law_697 (by decide) ?_
  refine gm_wid (k := cells + 5) (n := slots + 30) (by dsimp only; omega) (by dsimp only; omega) ?_
  exact kk ρ fl τ 1 fo H locs ls h X (lv_sub hl [2, 3, 4, 5, 6] rfl)
set_option maxRecDepth 100000 in
set_option maxHeartbeats 8000000 in
theorem cb_show {p : Program} {l : Launch} {e : Env} {s : State} {m : MethodId} {below : List Frame} {meth : Method} {c : Code} {Q : State → Prop} {F G : Type} [Lean.Grind.CommRing F] [Lean.Grind.CommRing G] {φ : Int → F} {inv : F → F} {ψ : Int → G} {E : gm_E} {ad : Nat → Nat} {sb L : Nat} {xs : Nat → Int32} {cells slots : Nat} (hx : p.tables.exec = Jvm.exec) (hb : c.code = code) (hml : c.maxLocals = 8) (hst : l.stackTraces = false) (hown : s.vm.findClass R_Law = some m.cls) (hW : ∀ w ∈ WB, w.before #[Value.ref sb] s = true) (hXs : va_X sb L xs s s.heap) (hbl : sb < s.heap.size) (hE : E.2.1 = s.heap.size) (hL : L ≤ 3072) (hg : gE E ad) (hk : fk φ inv) (hn : fm ψ nN) {Ri : F} (hR : φ (tq 8) * Ri = 1) {Si : G} (hS : ψ (tq 8) * Si = 1) (hcs : cells + 5 ≤ 629376 ∧ slots + 30 ≤ 7207977) {i : Nat} (hi : i + 6 ≤ L) {ρ : Nat → Nat → Int64} {fl : Nat → Int32} {τ : Nat → Nat → Int32} {cd : Int32} {fo : Nat → Int64} (h : RL φ ψ ρ fl τ) {H : Heap} {locs : List Loc} {ls : Array Slot} (X : gx E (LM E ad ρ fl τ cd fo) s H locs) (hl : lv_has ls 8 [(4, .int (nI i)), (0, .ref sb), (1, .ref (E.2.1 + 0)), (2, .ref (E.2.1 + 53)), (3, .ref (E.2.1 + 133))]) (hbad : ¬ (inR (xs (i + 1)) 4 ∧ inR (xs (i + 2)) 8 ∧ inR (xs (i + 3)) 8))
    (kk : ∀ (ρ' : Nat → Nat → Int64) (fl' : Nat → Int32) (τ' : Nat → Nat → Int32) (cd' : Int32) (fo' : Nat → Int64) (H : Heap) (locs : List Loc) (ls : Array Slot), RL φ ψ ρ' fl' τ' → gx E (LM E ad ρ' fl' τ' cd' fo') s H locs → lv_has ls 8 [(4, .int (nI i)), (0, .ref sb), (1, .ref (E.2.1 + 0)), (2, .ref (E.2.1 + 53)), (3, .ref (E.2.1 + 133))] → W p l e room_1 s m #[Value.ref sb] below meth c H locs (cells + 5) (slots + 30) Q (F0 m 1192 ls [])) :
    W p l e room_1 s m #[Value.ref sb] below meth c H locs cells slots Q (F0 m 700 ls []) := by
  refine lv_aload_n hx hb d_Law_law_700 rfl (lv_at hl 2 rfl) ?_
  refine lv_aload_n hx hb d_Law_law_701 rfl (lv_at hl 1 rfl) ?_
  refine lv_iload hx hb d_Law_law_702 (lv_at hl 0 rfl) ?_
  refine lv_iconst (v := 1) hx hb d_Law_law_704 (by decide) ?_
  refine lv_iadd hx hb d_Law_law_705 ?_
  refine lv_eqi (v := nI (i + 1)) (nI_add i 1) ?_
  refine gm_scr hx hb hXs hbl hE X (k := i + 1) rfl ⟨by omega, by omega⟩ d_Law_law_706 ?_
  refine lv_aload_n hx hb d_Law_law_707 rfl (lv_at hl 1 rfl) ?_
  refine lv_iload hx hb d_Law_law_708 (lv_at hl 0 rfl) ?_
  refine lv_iconst (v := 2) hx hb d_Law_law_710 (by decide) ?_
  refine lv_iadd hx hb d_Law_law_711 ?_
  refine lv_eqi (v := nI (i + 2)) (nI_add i 2) ?_
  refine gm_scr hx hb hXs hbl hE X (k := i + 2) rfl ⟨by omega, by omega⟩ d_Law_law_712 ?_
  refine lv_aload_n hx hb d_Law_law_713 rfl (lv_at hl 1 rfl) ?_
  refine lv_iload hx hb d_Law_law_714 (lv_at hl 0 rfl) ?_
  refine lv_iconst (v := 3) hx hb d_Law_law_716 (by decide) ?_
  refine lv_iadd hx hb d_Law_law_717 ?_
  refine lv_eqi (v := nI (i + 3)) (nI_add i 3) ?_
  refine gm_scr hx hb hXs hbl hE X (k := i + 3) rfl ⟨by omega, by omega⟩ d_Law_law_718 ?_
  refine lv_aload_n hx hb d_Law_law_719 rfl (lv_at hl 4 rfl) ?_
  refine gm_SHi hx hb hml hown hW X (hb_Law_show l hst E ad _ ρ fl hbad) (n := 5) ⟨⟨wl_Law_105, ws_Law_show, winit_Law, wh_Law_show⟩, by decide +kernel, Nat.le_of_ble_eq_true rfl, Nat.le_of_ble_eq_true rfl⟩ rfl hl.1 rfl (Nat.le_of_ble_eq_true rfl) d_Law_law_720 ⟨by show _ ≤ (629376 : Nat); dsimp only; omega, by show _ ≤ (7207977 : Nat); dsimp only; omega⟩ (fun k M1 H locs hp X => ?_)
  obtain ⟨rfl, rfl⟩ := hp
  rw [cw_mw] at X
  refine lv_istore (lv' := [(5, .int 1), (4, .int (nI i)), (0, .ref sb), (1, .ref (E.2.1 + 0)), (2, .ref (E.2.1 + 53)), (3, .ref (E.2.1 + 133))]) hx hb d_Law_law_723 hl (by decide) rfl (fun ls hl => ?_)
  refine lv_aload_n hx hb d_Law_law_725 rfl (lv_at hl 4 rfl) ?_
  refine lv_aload_n hx hb d_Law_law_726 rfl (lv_at hl 2 rfl) ?_
  refine lv_iload hx hb d_Law_law_727 (lv_at hl 1 rfl) ?_
  refine lv_iconst (v := 1) hx hb d_Law_law_729 (by decide) ?_
  refine lv_iadd hx hb d_Law_law_730 ?_
  refine lv_eqi (v := nI (i + 1)) (nI_add i 1) ?_
  refine gm_scr hx hb hXs hbl hE X (k := i + 1) rfl ⟨by omega, by omega⟩ d_Law_law_731 ?_
  refine lv_aload_n hx hb d_Law_law_732 rfl (lv_at hl 2 rfl) ?_
  refine lv_iload hx hb d_Law_law_733 (lv_at hl 1 rfl) ?_
  refine lv_iconst (v := 2) hx hb d_Law_law_735 (by decide) ?_
  refine lv_iadd hx hb d_Law_law_736 ?_
  refine lv_eqi (v := nI (i + 2)) (nI_add i 2) ?_
  refine gm_scr hx hb hXs hbl hE X (k := i + 2) rfl ⟨by omega, by omega⟩ d_Law_law_737 ?_
  refine lv_aload_n hx hb d_Law_law_738 rfl (lv_at hl 2 rfl) ?_
  refine lv_iload hx hb d_Law_law_739 (lv_at hl 1 rfl) ?_
  refine lv_iconst (v := 3) hx hb d_Law_law_741 (by decide) ?_
  refine lv_iadd hx hb d_Law_law_742 ?_
  refine lv_eqi (v := nI (i + 3)) (nI_add i 3) ?_
  refine gm_scr hx hb hXs hbl hE X (k := i + 3) rfl ⟨by omega, by omega⟩ d_Law_law_743 ?_
  refine gm_Vi hx hb hml hown hW X o53 (r_Mdl_show_bad l E _ τ cd hbad) (n := 3) ⟨⟨wl_Law_107, wi_Mdl_show, wsel_Mdl_show, winit_Mdl, wc_Mdl_show⟩, by decide +kernel, ⟨Nat.le_of_ble_eq_true rfl, Nat.le_of_ble_eq_true rfl⟩, _, rfl, rfl⟩ rfl hl.1 rfl (Nat.le_of_ble_eq_true rfl) d_Law_law_744 ⟨by show _ ≤ (629376 : Nat); dsimp only; omega, by show _ ≤ (7207977 : Nat); dsimp only; omega⟩ (fun r' M1 H locs hp X => ?_)
  rw [hp] at X
  refine lv_istore (lv' := [(6, .int r'), (5, .int 1), (4, .int (nI i)), (0, .ref sb), (1, .ref (E.2.1 + 0)), (2, .ref (E.2.1 + 53)), (3, .ref (E.2.1 + 133))]) hx hb d_Law_law_747 hl (by decide) rfl (fun ls hl => ?_)
  refine lv_aload_n hx hb d_Law_law_749 rfl (lv_at hl 5 rfl) ?_
  refine gm_Vi hx hb hml hown hW X o53 (r_Mdl_thrown l E _ τ 1) (n := 0) ⟨⟨wl_Law_75, wi_Mdl_thrown, wsel_Mdl_thrown, winit_Mdl, wc_Mdl_thrown⟩, by decide +kernel, ⟨Nat.le_of_ble_eq_true rfl, Nat.le_of_ble_eq_true rfl⟩, _, rfl, rfl⟩ rfl hl.1 rfl (Nat.le_of_ble_eq_true rfl) d_Law_law_750 ⟨by show _ ≤ (629376 : Nat); dsimp only; omega, by show _ ≤ (7207977 : Nat); dsimp only; omega⟩ (fun q9 M1 H locs hp X => ?_)
  obtain ⟨rfl, rfl⟩ := hp
  rw [← cw_mw] at X
  refine lv_iload hx hb d_Law_law_753 (lv_at hl 1 rfl) ?_
  refine lv_icmp_eq (tgt := 760) hx hb d_Law_law_755 (by decide) (fun _ => ?_) (fun c9 => absurd (by decide) c9)
  refine lv_iload hx hb d_Law_law_760 (lv_at hl 1 rfl) ?_
  refine lv_if_ne (tgt := 784) hx hb d_Law_law_762 (by decide) (fun _ => ?_) (fun c9 => absurd c9 (by decide))
  refine lv_goto (tgt := 1192) hx hb d_Law_law_784 (by decide) ?_
  refine gm_wid (k := cells + 5) (n := slots + 30) (by dsimp only; omega) (by dsimp only; omega) ?_
  exact kk ρ fl τ 1 fo H locs ls h X (lv_sub hl [2, 3, 4, 5, 6] rfl)
set_option maxRecDepth 100000 in
set_option maxHeartbeats 8000000 in
theorem cb_add {p : Program} {l : Launch} {e : Env} {s : State} {m : MethodId} {below : List Frame} {meth : Method} {c : Code} {Q : State → Prop} {F G : Type} [Lean.Grind.CommRing F] [Lean.Grind.CommRing G] {φ : Int → F} {inv : F → F} {ψ : Int → G} {E : gm_E} {ad : Nat → Nat} {sb L : Nat} {xs : Nat → Int32} {cells slots : Nat} (hx : p.tables.exec = Jvm.exec) (hb : c.code = code) (hml : c.maxLocals = 8) (hst : l.stackTraces = false) (hown : s.vm.findClass R_Law = some m.cls) (hW : ∀ w ∈ WB, w.before #[Value.ref sb] s = true) (hXs : va_X sb L xs s s.heap) (hbl : sb < s.heap.size) (hE : E.2.1 = s.heap.size) (hL : L ≤ 3072) (hg : gE E ad) (hk : fk φ inv) (hn : fm ψ nN) {Ri : F} (hR : φ (tq 8) * Ri = 1) {Si : G} (hS : ψ (tq 8) * Si = 1) (hcs : cells + 5 ≤ 629376 ∧ slots + 30 ≤ 7207977) {i : Nat} (hi : i + 6 ≤ L) {ρ : Nat → Nat → Int64} {fl : Nat → Int32} {τ : Nat → Nat → Int32} {cd : Int32} {fo : Nat → Int64} (h : RL φ ψ ρ fl τ) {H : Heap} {locs : List Loc} {ls : Array Slot} (X : gx E (LM E ad ρ fl τ cd fo) s H locs) (hl : lv_has ls 8 [(4, .int (nI i)), (0, .ref sb), (1, .ref (E.2.1 + 0)), (2, .ref (E.2.1 + 53)), (3, .ref (E.2.1 + 133))]) (hbad : ¬ (inR (xs (i + 1)) 4 ∧ inR (xs (i + 2)) 4 ∧ inR (xs (i + 3)) 4))
    (kk : ∀ (ρ' : Nat → Nat → Int64) (fl' : Nat → Int32) (τ' : Nat → Nat → Int32) (cd' : Int32) (fo' : Nat → Int64) (H : Heap) (locs : List Loc) (ls : Array Slot), RL φ ψ ρ' fl' τ' → gx E (LM E ad ρ' fl' τ' cd' fo') s H locs → lv_has ls 8 [(4, .int (nI i)), (0, .ref sb), (1, .ref (E.2.1 + 0)), (2, .ref (E.2.1 + 53)), (3, .ref (E.2.1 + 133))] → W p l e room_1 s m #[Value.ref sb] below meth c H locs (cells + 5) (slots + 30) Q (F0 m 1192 ls [])) :
    W p l e room_1 s m #[Value.ref sb] below meth c H locs cells slots Q (F0 m 787 ls []) := by
  refine lv_aload_n hx hb d_Law_law_787 rfl (lv_at hl 2 rfl) ?_
  refine lv_aload_n hx hb d_Law_law_788 rfl (lv_at hl 1 rfl) ?_
  refine lv_iload hx hb d_Law_law_789 (lv_at hl 0 rfl) ?_
  refine lv_iconst (v := 1) hx hb d_Law_law_791 (by decide) ?_
  refine lv_iadd hx hb d_Law_law_792 ?_
  refine lv_eqi (v := nI (i + 1)) (nI_add i 1) ?_
  refine gm_scr hx hb hXs hbl hE X (k := i + 1) rfl ⟨by omega, by omega⟩ d_Law_law_793 ?_
  refine lv_aload_n hx hb d_Law_law_794 rfl (lv_at hl 1 rfl) ?_
  refine lv_iload hx hb d_Law_law_795 (lv_at hl 0 rfl) ?_
  refine lv_iconst (v := 2) hx hb d_Law_law_797 (by decide) ?_
  refine lv_iadd hx hb d_Law_law_798 ?_
  refine lv_eqi (v := nI (i + 2)) (nI_add i 2) ?_
  refine gm_scr hx hb hXs hbl hE X (k := i + 2) rfl ⟨by omega, by omega⟩ d_Law_law_799 ?_
  refine lv_aload_n hx hb d_Law_law_800 rfl (lv_at hl 1 rfl) ?_
  refine lv_iload hx hb d_Law_law_801 (lv_at hl 0 rfl) ?_
  refine lv_iconst (v := 3) hx hb d_Law_law_803 (by decide) ?_
  refine lv_iadd hx hb d_Law_law_804 ?_
  refine lv_eqi (v := nI (i + 3)) (nI_add i 3) ?_
  refine gm_scr hx hb hXs hbl hE X (k := i + 3) rfl ⟨by omega, by omega⟩ d_Law_law_805 ?_
  refine gm_SHi hx hb hml hown hW X (hb_Law_add l hst E ad _ ρ fl hbad) (n := 4) ⟨⟨wl_Law_108, ws_Law_add, winit_Law, wh_Law_add⟩, by decide +kernel, Nat.le_of_ble_eq_true rfl, Nat.le_of_ble_eq_true rfl⟩ rfl hl.1 rfl (Nat.le_of_ble_eq_true rfl) d_Law_law_806 ⟨by show _ ≤ (629376 : Nat); dsimp only; omega, by show _ ≤ (7207977 : Nat); dsimp only; omega⟩ (fun k M1 H locs hp X => ?_)
  obtain ⟨rfl, rfl⟩ := hp
  rw [cw_mw] at X
  refine lv_istore (lv' := [(5, .int 1), (4, .int (nI i)), (0, .ref sb), (1, .ref (E.2.1 + 0)), (2, .ref (E.2.1 + 53)), (3, .ref (E.2.1 + 133))]) hx hb d_Law_law_809 hl (by decide) rfl (fun ls hl => ?_)
  refine lv_aload_n hx hb d_Law_law_811 rfl (lv_at hl 4 rfl) ?_
  refine lv_aload_n hx hb d_Law_law_812 rfl (lv_at hl 2 rfl) ?_
  refine lv_iload hx hb d_Law_law_813 (lv_at hl 1 rfl) ?_
  refine lv_iconst (v := 1) hx hb d_Law_law_815 (by decide) ?_
  refine lv_iadd hx hb d_Law_law_816 ?_
  refine lv_eqi (v := nI (i + 1)) (nI_add i 1) ?_
  refine gm_scr hx hb hXs hbl hE X (k := i + 1) rfl ⟨by omega, by omega⟩ d_Law_law_817 ?_
  refine lv_aload_n hx hb d_Law_law_818 rfl (lv_at hl 2 rfl) ?_
  refine lv_iload hx hb d_Law_law_819 (lv_at hl 1 rfl) ?_
  refine lv_iconst (v := 2) hx hb d_Law_law_821 (by decide) ?_
  refine lv_iadd hx hb d_Law_law_822 ?_
  refine lv_eqi (v := nI (i + 2)) (nI_add i 2) ?_
  refine gm_scr hx hb hXs hbl hE X (k := i + 2) rfl ⟨by omega, by omega⟩ d_Law_law_823 ?_
  refine lv_aload_n hx hb d_Law_law_824 rfl (lv_at hl 2 rfl) ?_
  refine lv_iload hx hb d_Law_law_825 (lv_at hl 1 rfl) ?_
  refine lv_iconst (v := 3) hx hb d_Law_law_827 (by decide) ?_
  refine lv_iadd hx hb d_Law_law_828 ?_
  refine lv_eqi (v := nI (i + 3)) (nI_add i 3) ?_
  refine gm_scr hx hb hXs hbl hE X (k := i + 3) rfl ⟨by omega, by omega⟩ d_Law_law_829 ?_
  refine gm_Vv hx hb hml hown hW X o53 (r_Mdl_add_bad l E _ τ cd hbad) (n := 3) ⟨⟨wl_Law_111, wi_Mdl_add, wsel_Mdl_add, winit_Mdl, wc_Mdl_add⟩, by decide +kernel, ⟨Nat.le_of_ble_eq_true rfl, Nat.le_of_ble_eq_true rfl⟩, _, rfl, rfl⟩ rfl hl.1 rfl (Nat.le_of_ble_eq_true rfl) d_Law_law_830 ⟨by show _ ≤ (629376 : Nat); dsimp only; omega, by show _ ≤ (7207977 : Nat); dsimp only; omega⟩ (fun M1 H locs hp X => ?_)
  rw [hp] at X
  refine lv_aload_n hx hb d_Law_law_833 rfl (lv_at hl 4 rfl) ?_
  refine gm_Vi hx hb hml hown hW X o53 (r_Mdl_thrown l E _ τ 1) (n := 0) ⟨⟨wl_Law_75, wi_Mdl_thrown, wsel_Mdl_thrown, winit_Mdl, wc_Mdl_thrown⟩, by decide +kernel, ⟨Nat.le_of_ble_eq_true rfl, Nat.le_of_ble_eq_true rfl⟩, _, rfl, rfl⟩ rfl hl.1 rfl (Nat.le_of_ble_eq_true rfl) d_Law_law_834 ⟨by show _ ≤ (629376 : Nat); dsimp only; omega, by show _ ≤ (7207977 : Nat); dsimp only; omega⟩ (fun q9 M1 H locs hp X => ?_)
  obtain ⟨rfl, rfl⟩ := hp
  rw [← cw_mw] at X
  refine lv_iload hx hb d_Law_law_837 (lv_at hl 0 rfl) ?_
  refine lv_icmp_eq (tgt := 844) hx hb d_Law_law_839 (by decide) (fun _ => ?_) (fun c9 => absurd (by decide) c9)
  refine lv_goto (tgt := 1192) hx hb d_Law_law_844 (by decide) ?_
  refine gm_wid (k := cells + 5) (n := slots + 30) (by dsimp only; omega) (by dsimp only; omega) ?_
  exact kk ρ fl τ 1 fo H locs ls h X (lv_sub hl [1, 2, 3, 4, 5] rfl)
set_option maxRecDepth 100000 in
set_option maxHeartbeats 8000000 in
theorem cb_times {p : Program} {l : Launch} {e : Env} {s : State} {m : MethodId} {below : List Frame} {meth : Method} {c : Code} {Q : State → Prop} {F G : Type} [Lean.Grind.CommRing F] [Lean.Grind.CommRing G] {φ : Int → F} {inv : F → F} {ψ : Int → G} {E : gm_E} {ad : Nat → Nat} {sb L : Nat} {xs : Nat → Int32} {cells slots : Nat} (hx : p.tables.exec = Jvm.exec) (hb : c.code = code) (hml : c.maxLocals = 8) (hst : l.stackTraces = false) (hown : s.vm.findClass R_Law = some m.cls) (hW : ∀ w ∈ WB, w.before #[Value.ref sb] s = true) (hXs : va_X sb L xs s s.heap) (hbl : sb < s.heap.size) (hE : E.2.1 = s.heap.size) (hL : L ≤ 3072) (hg : gE E ad) (hk : fk φ inv) (hn : fm ψ nN) {Ri : F} (hR : φ (tq 8) * Ri = 1) {Si : G} (hS : ψ (tq 8) * Si = 1) (hcs : cells + 5 ≤ 629376 ∧ slots + 30 ≤ 7207977) {i : Nat} (hi : i + 6 ≤ L) {ρ : Nat → Nat → Int64} {fl : Nat → Int32} {τ : Nat → Nat → Int32} {cd : Int32} {fo : Nat → Int64} (h : RL φ ψ ρ fl τ) {H : Heap} {locs : List Loc} {ls : Array Slot} (X : gx E (LM E ad ρ fl τ cd fo) s H locs) (hl : lv_has ls 8 [(4, .int (nI i)), (0, .ref sb), (1, .ref (E.2.1 + 0)), (2, .ref (E.2.1 + 53)), (3, .ref (E.2.1 + 133))]) (hbad : ¬ (inR (xs (i + 1)) 4 ∧ inR (xs (i + 2)) 8 ∧ inR (xs (i + 3)) 4))
    (kk : ∀ (ρ' : Nat → Nat → Int64) (fl' : Nat → Int32) (τ' : Nat → Nat → Int32) (cd' : Int32) (fo' : Nat → Int64) (H : Heap) (locs : List Loc) (ls : Array Slot), RL φ ψ ρ' fl' τ' → gx E (LM E ad ρ' fl' τ' cd' fo') s H locs → lv_has ls 8 [(4, .int (nI i)), (0, .ref sb), (1, .ref (E.2.1 + 0)), (2, .ref (E.2.1 + 53)), (3, .ref (E.2.1 + 133))] → W p l e room_1 s m #[Value.ref sb] below meth c H locs (cells + 5) (slots + 30) Q (F0 m 1192 ls [])) :
    W p l e room_1 s m #[Value.ref sb] below meth c H locs cells slots Q (F0 m 847 ls []) := by
  refine lv_aload_n hx hb d_Law_law_847 rfl (lv_at hl 2 rfl) ?_
  refine lv_aload_n hx hb d_Law_law_848 rfl (lv_at hl 1 rfl) ?_
  refine lv_iload hx hb d_Law_law_849 (lv_at hl 0 rfl) ?_
  refine lv_iconst (v := 1) hx hb d_Law_law_851 (by decide) ?_
  refine lv_iadd hx hb d_Law_law_852 ?_
  refine lv_eqi (v := nI (i + 1)) (nI_add i 1) ?_
  refine gm_scr hx hb hXs hbl hE X (k := i + 1) rfl ⟨by omega, by omega⟩ d_Law_law_853 ?_
  refine lv_aload_n hx hb d_Law_law_854 rfl (lv_at hl 1 rfl) ?_
  refine lv_iload hx hb d_Law_law_855 (lv_at hl 0 rfl) ?_
  refine lv_iconst (v := 2) hx hb d_Law_law_857 (by decide) ?_
  refine lv_iadd hx hb d_Law_law_858 ?_
  refine lv_eqi (v := nI (i + 2)) (nI_add i 2) ?_
  refine gm_scr hx hb hXs hbl hE X (k := i + 2) rfl ⟨by omega, by omega⟩ d_Law_law_859 ?_
  refine lv_aload_n hx hb d_Law_law_860 rfl (lv_at hl 1 rfl) ?_
  refine lv_iload hx hb d_Law_law_861 (lv_at hl 0 rfl) ?_
  refine lv_iconst (v := 3) hx hb d_Law_law_863 (by decide) ?_
  refine lv_iadd hx hb d_Law_law_864 ?_
  refine lv_eqi (v := nI (i + 3)) (nI_add i 3) ?_
  refine gm_scr hx hb hXs hbl hE X (k := i + 3) rfl ⟨by omega, by omega⟩ d_Law_law_865 ?_
  refine gm_SHi hx hb hml hown hW X (hb_Law_times l hst E ad _ ρ fl hbad) (n := 4) ⟨⟨wl_Law_112, ws_Law_times, winit_Law, wh_Law_times⟩, by decide +kernel, Nat.le_of_ble_eq_true rfl, Nat.le_of_ble_eq_true rfl⟩ rfl hl.1 rfl (Nat.le_of_ble_eq_true rfl) d_Law_law_866 ⟨by show _ ≤ (629376 : Nat); dsimp only; omega, by show _ ≤ (7207977 : Nat); dsimp only; omega⟩ (fun k M1 H locs hp X => ?_)
  obtain ⟨rfl, rfl⟩ := hp
  rw [cw_mw] at X
  refine lv_istore (lv' := [(5, .int 1), (4, .int (nI i)), (0, .ref sb), (1, .ref (E.2.1 + 0)), (2, .ref (E.2.1 + 53)), (3, .ref (E.2.1 + 133))]) hx hb d_Law_law_869 hl (by decide) rfl (fun ls hl => ?_)
  refine lv_aload_n hx hb d_Law_law_871 rfl (lv_at hl 4 rfl) ?_
  refine lv_aload_n hx hb d_Law_law_872 rfl (lv_at hl 2 rfl) ?_
  refine lv_iload hx hb d_Law_law_873 (lv_at hl 1 rfl) ?_
  refine lv_iconst (v := 1) hx hb d_Law_law_875 (by decide) ?_
  refine lv_iadd hx hb d_Law_law_876 ?_
  refine lv_eqi (v := nI (i + 1)) (nI_add i 1) ?_
  refine gm_scr hx hb hXs hbl hE X (k := i + 1) rfl ⟨by omega, by omega⟩ d_Law_law_877 ?_
  refine lv_aload_n hx hb d_Law_law_878 rfl (lv_at hl 2 rfl) ?_
  refine lv_iload hx hb d_Law_law_879 (lv_at hl 1 rfl) ?_
  refine lv_iconst (v := 2) hx hb d_Law_law_881 (by decide) ?_
  refine lv_iadd hx hb d_Law_law_882 ?_
  refine lv_eqi (v := nI (i + 2)) (nI_add i 2) ?_
  refine gm_scr hx hb hXs hbl hE X (k := i + 2) rfl ⟨by omega, by omega⟩ d_Law_law_883 ?_
  refine lv_aload_n hx hb d_Law_law_884 rfl (lv_at hl 2 rfl) ?_
  refine lv_iload hx hb d_Law_law_885 (lv_at hl 1 rfl) ?_
  refine lv_iconst (v := 3) hx hb d_Law_law_887 (by decide) ?_
  refine lv_iadd hx hb d_Law_law_888 ?_
  refine lv_eqi (v := nI (i + 3)) (nI_add i 3) ?_
  refine gm_scr hx hb hXs hbl hE X (k := i + 3) rfl ⟨by omega, by omega⟩ d_Law_law_889 ?_
  refine gm_Vv hx hb hml hown hW X o53 (r_Mdl_times_bad l E _ τ cd hbad) (n := 3) ⟨⟨wl_Law_114, wi_Mdl_times, wsel_Mdl_times, winit_Mdl, wc_Mdl_times⟩, by decide +kernel, ⟨Nat.le_of_ble_eq_true rfl, Nat.le_of_ble_eq_true rfl⟩, _, rfl, rfl⟩ rfl hl.1 rfl (Nat.le_of_ble_eq_true rfl) d_Law_law_890 ⟨by show _ ≤ (629376 : Nat); dsimp only; omega, by show _ ≤ (7207977 : Nat); dsimp only; omega⟩ (fun M1 H locs hp X => ?_)
  rw [hp] at X
  refine lv_aload_n hx hb d_Law_law_893 rfl (lv_at hl 4 rfl) ?_
  refine gm_Vi hx hb hml hown hW X o53 (r_Mdl_thrown l E _ τ 1) (n := 0) ⟨⟨wl_Law_75, wi_Mdl_thrown, wsel_Mdl_thrown, winit_Mdl, wc_Mdl_thrown⟩, by decide +kernel, ⟨Nat.le_of_ble_eq_true rfl, Nat.le_of_ble_eq_true rfl⟩, _, rfl, rfl⟩ rfl hl.1 rfl (Nat.le_of_ble_eq_true rfl) d_Law_law_894 ⟨by show _ ≤ (629376 : Nat); dsimp only; omega, by show _ ≤ (7207977 : Nat); dsimp only; omega⟩ (fun q9 M1 H locs hp X => ?_)
  obtain ⟨rfl, rfl⟩ := hp
  rw [← cw_mw] at X
  refine lv_iload hx hb d_Law_law_897 (lv_at hl 0 rfl) ?_
  refine lv_icmp_eq (tgt := 904) hx hb d_Law_law_899 (by decide) (fun _ => ?_) (fun c9 => absurd (by decide) c9)
  refine lv_goto (tgt := 1192) hx hb d_Law_law_904 (by decide) ?_
  refine gm_wid (k := cells + 5) (n := slots + 30) (by dsimp only; omega) (by dsimp only; omega) ?_
  exact kk ρ fl τ 1 fo H locs ls h X (lv_sub hl [1, 2, 3, 4, 5] rfl)
set_option maxRecDepth 100000 in
set_option maxHeartbeats 8000000 in
theorem cb_same {p : Program} {l : Launch} {e : Env} {s : State} {m : MethodId} {below : List Frame} {meth : Method} {c : Code} {Q : State → Prop} {F G : Type} [Lean.Grind.CommRing F] [Lean.Grind.CommRing G] {φ : Int → F} {inv : F → F} {ψ : Int → G} {E : gm_E} {ad : Nat → Nat} {sb L : Nat} {xs : Nat → Int32} {cells slots : Nat} (hx : p.tables.exec = Jvm.exec) (hb : c.code = code) (hml : c.maxLocals = 8) (hst : l.stackTraces = false) (hown : s.vm.findClass R_Law = some m.cls) (hW : ∀ w ∈ WB, w.before #[Value.ref sb] s = true) (hXs : va_X sb L xs s s.heap) (hbl : sb < s.heap.size) (hE : E.2.1 = s.heap.size) (hL : L ≤ 3072) (hg : gE E ad) (hk : fk φ inv) (hn : fm ψ nN) {Ri : F} (hR : φ (tq 8) * Ri = 1) {Si : G} (hS : ψ (tq 8) * Si = 1) (hcs : cells + 5 ≤ 629376 ∧ slots + 30 ≤ 7207977) {i : Nat} (hi : i + 6 ≤ L) {ρ : Nat → Nat → Int64} {fl : Nat → Int32} {τ : Nat → Nat → Int32} {cd : Int32} {fo : Nat → Int64} (h : RL φ ψ ρ fl τ) {H : Heap} {locs : List Loc} {ls : Array Slot} (X : gx E (LM E ad ρ fl τ cd fo) s H locs) (hl : lv_has ls 8 [(4, .int (nI i)), (0, .ref sb), (1, .ref (E.2.1 + 0)), (2, .ref (E.2.1 + 53)), (3, .ref (E.2.1 + 133))]) (hbad : ¬ (inR (xs (i + 1)) 4 ∧ inR (xs (i + 2)) 4))
    (kk : ∀ (ρ' : Nat → Nat → Int64) (fl' : Nat → Int32) (τ' : Nat → Nat → Int32) (cd' : Int32) (fo' : Nat → Int64) (H : Heap) (locs : List Loc) (ls : Array Slot), RL φ ψ ρ' fl' τ' → gx E (LM E ad ρ' fl' τ' cd' fo') s H locs → lv_has ls 8 [(4, .int (nI i)), (0, .ref sb), (1, .ref (E.2.1 + 0)), (2, .ref (E.2.1 + 53)), (3, .ref (E.2.1 + 133))] → W p l e room_1 s m #[Value.ref sb] below meth c H locs (cells + 5) (slots + 30) Q (F0 m 1192 ls [])) :
    W p l e room_1 s m #[Value.ref sb] below meth c H locs cells slots Q (F0 m 907 ls []) := by
  refine lv_aload_n hx hb d_Law_law_907 rfl (lv_at hl 2 rfl) ?_
  refine lv_aload_n hx hb d_Law_law_908 rfl (lv_at hl 1 rfl) ?_
  refine lv_iload hx hb d_Law_law_909 (lv_at hl 0 rfl) ?_
  refine lv_iconst (v := 1) hx hb d_Law_law_911 (by decide) ?_
  refine lv_iadd hx hb d_Law_law_912 ?_
  refine lv_eqi (v := nI (i + 1)) (nI_add i 1) ?_
  refine gm_scr hx hb hXs hbl hE X (k := i + 1) rfl ⟨by omega, by omega⟩ d_Law_law_913 ?_
  refine lv_aload_n hx hb d_Law_law_914 rfl (lv_at hl 1 rfl) ?_
  refine lv_iload hx hb d_Law_law_915 (lv_at hl 0 rfl) ?_
  refine lv_iconst (v := 2) hx hb d_Law_law_917 (by decide) ?_
  refine lv_iadd hx hb d_Law_law_918 ?_
  refine lv_eqi (v := nI (i + 2)) (nI_add i 2) ?_
  refine gm_scr hx hb hXs hbl hE X (k := i + 2) rfl ⟨by omega, by omega⟩ d_Law_law_919 ?_
  refine lv_aload_n hx hb d_Law_law_920 rfl (lv_at hl 4 rfl) ?_
  refine gm_SHi hx hb hml hown hW X (hb_Law_same l hst E ad _ ρ fl hbad) (n := 4) ⟨⟨wl_Law_115, ws_Law_same, winit_Law, wh_Law_same⟩, by decide +kernel, Nat.le_of_ble_eq_true rfl, Nat.le_of_ble_eq_true rfl⟩ rfl hl.1 rfl (Nat.le_of_ble_eq_true rfl) d_Law_law_921 ⟨by show _ ≤ (629376 : Nat); dsimp only; omega, by show _ ≤ (7207977 : Nat); dsimp only; omega⟩ (fun k M1 H locs hp X => ?_)
  obtain ⟨rfl, rfl⟩ := hp
  rw [cw_mw] at X
  refine lv_istore (lv' := [(5, .int 1), (4, .int (nI i)), (0, .ref sb), (1, .ref (E.2.1 + 0)), (2, .ref (E.2.1 + 53)), (3, .ref (E.2.1 + 133))]) hx hb d_Law_law_924 hl (by decide) rfl (fun ls hl => ?_)
  refine lv_aload_n hx hb d_Law_law_926 rfl (lv_at hl 4 rfl) ?_
  refine lv_aload_n hx hb d_Law_law_927 rfl (lv_at hl 2 rfl) ?_
  refine lv_iload hx hb d_Law_law_928 (lv_at hl 1 rfl) ?_
  refine lv_iconst (v := 1) hx hb d_Law_law_930 (by decide) ?_
  refine lv_iadd hx hb d_Law_law_931 ?_
  refine lv_eqi (v := nI (i + 1)) (nI_add i 1) ?_
  refine gm_scr hx hb hXs hbl hE X (k := i + 1) rfl ⟨by omega, by omega⟩ d_Law_law_932 ?_
  refine lv_aload_n hx hb d_Law_law_933 rfl (lv_at hl 2 rfl) ?_
  refine lv_iload hx hb d_Law_law_934 (lv_at hl 1 rfl) ?_
  refine lv_iconst (v := 2) hx hb d_Law_law_936 (by decide) ?_
  refine lv_iadd hx hb d_Law_law_937 ?_
  refine lv_eqi (v := nI (i + 2)) (nI_add i 2) ?_
  refine gm_scr hx hb hXs hbl hE X (k := i + 2) rfl ⟨by omega, by omega⟩ d_Law_law_938 ?_
  refine gm_Vi hx hb hml hown hW X o53 (r_Mdl_same_bad l E _ τ cd hbad) (n := 2) ⟨⟨wl_Law_117, wi_Mdl_same, wsel_Mdl_same, winit_Mdl, wc_Mdl_same⟩, by decide +kernel, ⟨Nat.le_of_ble_eq_true rfl, Nat.le_of_ble_eq_true rfl⟩, _, rfl, rfl⟩ rfl hl.1 rfl (Nat.le_of_ble_eq_true rfl) d_Law_law_939 ⟨by show _ ≤ (629376 : Nat); dsimp only; omega, by show _ ≤ (7207977 : Nat); dsimp only; omega⟩ (fun r' M1 H locs hp X => ?_)
  rw [hp] at X
  refine lv_istore (lv' := [(6, .int r'), (5, .int 1), (4, .int (nI i)), (0, .ref sb), (1, .ref (E.2.1 + 0)), (2, .ref (E.2.1 + 53)), (3, .ref (E.2.1 + 133))]) hx hb d_Law_law_942 hl (by decide) rfl (fun ls hl => ?_)
  refine lv_aload_n hx hb d_Law_law_944 rfl (lv_at hl 5 rfl) ?_
  refine gm_Vi hx hb hml hown hW X o53 (r_Mdl_thrown l E _ τ 1) (n := 0) ⟨⟨wl_Law_75, wi_Mdl_thrown, wsel_Mdl_thrown, winit_Mdl, wc_Mdl_thrown⟩, by decide +kernel, ⟨Nat.le_of_ble_eq_true rfl, Nat.le_of_ble_eq_true rfl⟩, _, rfl, rfl⟩ rfl hl.1 rfl (Nat.le_of_ble_eq_true rfl) d_Law_law_945 ⟨by show _ ≤ (629376 : Nat); dsimp only; omega, by show _ ≤ (7207977 : Nat); dsimp only; omega⟩ (fun q9 M1 H locs hp X => ?_)
  obtain ⟨rfl, rfl⟩ := hp
  rw [← cw_mw] at X
  refine lv_iload hx hb d_Law_law_948 (lv_at hl 1 rfl) ?_
  refine lv_icmp_eq (tgt := 955) hx hb d_Law_law_950 (by decide) (fun _ => ?_) (fun c9 => absurd (by decide) c9)
  refine lv_iload hx hb d_Law_law_955 (lv_at hl 1 rfl) ?_
  refine lv_if_ne (tgt := 979) hx hb d_Law_law_957 (by decide) (fun _ => ?_) (fun c9 => absurd c9 (by decide))
  refine lv_goto (tgt := 1192) hx hb d_Law_law_979 (by decide) ?_
  refine gm_wid (k := cells + 5) (n := slots + 30) (by dsimp only; omega) (by dsimp only; omega) ?_
  exact kk ρ fl τ 1 fo H locs ls h X (lv_sub hl [2, 3, 4, 5, 6] rfl)
set_option maxRecDepth 100000 in
set_option maxHeartbeats 8000000 in
theorem cb_sign {p : Program} {l : Launch} {e : Env} {s : State} {m : MethodId} {below : List Frame} {meth : Method} {c : Code} {Q : State → Prop} {F G : Type} [Lean.Grind.CommRing F] [Lean.Grind.CommRing G] {φ : Int → F} {inv : F → F} {ψ : Int → G} {E : gm_E} {ad : Nat → Nat} {sb L : Nat} {xs : Nat → Int32} {cells slots : Nat} (hx : p.tables.exec = Jvm.exec) (hb : c.code = code) (hml : c.maxLocals = 8) (hst : l.stackTraces = false) (hown : s.vm.findClass R_Law = some m.cls) (hW : ∀ w ∈ WB, w.before #[Value.ref sb] s = true) (hXs : va_X sb L xs s s.heap) (hbl : sb < s.heap.size) (hE : E.2.1 = s.heap.size) (hL : L ≤ 3072) (hg : gE E ad) (hk : fk φ inv) (hn : fm ψ nN) {Ri : F} (hR : φ (tq 8) * Ri = 1) {Si : G} (hS : ψ (tq 8) * Si = 1) (hcs : cells + 5 ≤ 629376 ∧ slots + 30 ≤ 7207977) {i : Nat} (hi : i + 6 ≤ L) {ρ : Nat → Nat → Int64} {fl : Nat → Int32} {τ : Nat → Nat → Int32} {cd : Int32} {fo : Nat → Int64} (h : RL φ ψ ρ fl τ) {H : Heap} {locs : List Loc} {ls : Array Slot} (X : gx E (LM E ad ρ fl τ cd fo) s H locs) (hl : lv_has ls 8 [(4, .int (nI i)), (0, .ref sb), (1, .ref (E.2.1 + 0)), (2, .ref (E.2.1 + 53)), (3, .ref (E.2.1 + 133))]) (hbad : ¬ (inR (xs (i + 1)) 8 ∧ inR (xs (i + 2)) 8 ∧ inR (xs (i + 3)) 8 ∧ inR (xs (i + 4)) 8 ∧ inR (xs (i + 5)) 8))
    (kk : ∀ (ρ' : Nat → Nat → Int64) (fl' : Nat → Int32) (τ' : Nat → Nat → Int32) (cd' : Int32) (fo' : Nat → Int64) (H : Heap) (locs : List Loc) (ls : Array Slot), RL φ ψ ρ' fl' τ' → gx E (LM E ad ρ' fl' τ' cd' fo') s H locs → lv_has ls 8 [(4, .int (nI i)), (0, .ref sb), (1, .ref (E.2.1 + 0)), (2, .ref (E.2.1 + 53)), (3, .ref (E.2.1 + 133))] → W p l e room_1 s m #[Value.ref sb] below meth c H locs (cells + 5) (slots + 30) Q (F0 m 1192 ls [])) :
    W p l e room_1 s m #[Value.ref sb] below meth c H locs cells slots Q (F0 m 982 ls []) := by
  refine lv_aload_n hx hb d_Law_law_982 rfl (lv_at hl 2 rfl) ?_
  refine lv_aload_n hx hb d_Law_law_983 rfl (lv_at hl 1 rfl) ?_
  refine lv_iload hx hb d_Law_law_984 (lv_at hl 0 rfl) ?_
  refine lv_iconst (v := 1) hx hb d_Law_law_986 (by decide) ?_
  refine lv_iadd hx hb d_Law_law_987 ?_
  refine lv_eqi (v := nI (i + 1)) (nI_add i 1) ?_
  refine gm_scr hx hb hXs hbl hE X (k := i + 1) rfl ⟨by omega, by omega⟩ d_Law_law_988 ?_
  refine lv_aload_n hx hb d_Law_law_989 rfl (lv_at hl 1 rfl) ?_
  refine lv_iload hx hb d_Law_law_990 (lv_at hl 0 rfl) ?_
  refine lv_iconst (v := 2) hx hb d_Law_law_992 (by decide) ?_
  refine lv_iadd hx hb d_Law_law_993 ?_
  refine lv_eqi (v := nI (i + 2)) (nI_add i 2) ?_
  refine gm_scr hx hb hXs hbl hE X (k := i + 2) rfl ⟨by omega, by omega⟩ d_Law_law_994 ?_
  refine lv_aload_n hx hb d_Law_law_995 rfl (lv_at hl 1 rfl) ?_
  refine lv_iload hx hb d_Law_law_996 (lv_at hl 0 rfl) ?_
  refine lv_iconst (v := 3) hx hb d_Law_law_998 (by decide) ?_
  refine lv_iadd hx hb d_Law_law_999 ?_
  refine lv_eqi (v := nI (i + 3)) (nI_add i 3) ?_
  refine gm_scr hx hb hXs hbl hE X (k := i + 3) rfl ⟨by omega, by omega⟩ d_Law_law_1000 ?_
  refine lv_aload_n hx hb d_Law_law_1001 rfl (lv_at hl 1 rfl) ?_
  refine lv_iload hx hb d_Law_law_1002 (lv_at hl 0 rfl) ?_
  refine lv_iconst (v := 4) hx hb d_Law_law_1004 (by decide) ?_
  refine lv_iadd hx hb d_Law_law_1005 ?_
  refine lv_eqi (v := nI (i + 4)) (nI_add i 4) ?_
  refine gm_scr hx hb hXs hbl hE X (k := i + 4) rfl ⟨by omega, by omega⟩ d_Law_law_1006 ?_
  refine lv_aload_n hx hb d_Law_law_1007 rfl (lv_at hl 1 rfl) ?_
  refine lv_iload hx hb d_Law_law_1008 (lv_at hl 0 rfl) ?_
  refine lv_iconst (v := 5) hx hb d_Law_law_1010 (by decide) ?_
  refine lv_iadd hx hb d_Law_law_1011 ?_
  refine lv_eqi (v := nI (i + 5)) (nI_add i 5) ?_
  refine gm_scr hx hb hXs hbl hE X (k := i + 5) rfl ⟨by omega, by omega⟩ d_Law_law_1012 ?_
  refine lv_aload_n hx hb d_Law_law_1013 rfl (lv_at hl 4 rfl) ?_
  refine gm_SHi hx hb hml hown hW X (hb_Law_sign l hst E ad _ ρ fl hbad) (n := 7) ⟨⟨wl_Law_118, ws_Law_sign, winit_Law, wh_Law_sign⟩, by decide +kernel, Nat.le_of_ble_eq_true rfl, Nat.le_of_ble_eq_true rfl⟩ rfl hl.1 rfl (Nat.le_of_ble_eq_true rfl) d_Law_law_1014 ⟨by show _ ≤ (629376 : Nat); dsimp only; omega, by show _ ≤ (7207977 : Nat); dsimp only; omega⟩ (fun k M1 H locs hp X => ?_)
  obtain ⟨rfl, rfl⟩ := hp
  rw [cw_mw] at X
  refine lv_istore (lv' := [(5, .int 1), (4, .int (nI i)), (0, .ref sb), (1, .ref (E.2.1 + 0)), (2, .ref (E.2.1 + 53)), (3, .ref (E.2.1 + 133))]) hx hb d_Law_law_1017 hl (by decide) rfl (fun ls hl => ?_)
  refine lv_aload_n hx hb d_Law_law_1019 rfl (lv_at hl 4 rfl) ?_
  refine lv_aload_n hx hb d_Law_law_1020 rfl (lv_at hl 2 rfl) ?_
  refine lv_iload hx hb d_Law_law_1021 (lv_at hl 1 rfl) ?_
  refine lv_iconst (v := 1) hx hb d_Law_law_1023 (by decide) ?_
  refine lv_iadd hx hb d_Law_law_1024 ?_
  refine lv_eqi (v := nI (i + 1)) (nI_add i 1) ?_
  refine gm_scr hx hb hXs hbl hE X (k := i + 1) rfl ⟨by omega, by omega⟩ d_Law_law_1025 ?_
  refine lv_aload_n hx hb d_Law_law_1026 rfl (lv_at hl 2 rfl) ?_
  refine lv_iload hx hb d_Law_law_1027 (lv_at hl 1 rfl) ?_
  refine lv_iconst (v := 2) hx hb d_Law_law_1029 (by decide) ?_
  refine lv_iadd hx hb d_Law_law_1030 ?_
  refine lv_eqi (v := nI (i + 2)) (nI_add i 2) ?_
  refine gm_scr hx hb hXs hbl hE X (k := i + 2) rfl ⟨by omega, by omega⟩ d_Law_law_1031 ?_
  refine lv_aload_n hx hb d_Law_law_1032 rfl (lv_at hl 2 rfl) ?_
  refine lv_iload hx hb d_Law_law_1033 (lv_at hl 1 rfl) ?_
  refine lv_iconst (v := 3) hx hb d_Law_law_1035 (by decide) ?_
  refine lv_iadd hx hb d_Law_law_1036 ?_
  refine lv_eqi (v := nI (i + 3)) (nI_add i 3) ?_
  refine gm_scr hx hb hXs hbl hE X (k := i + 3) rfl ⟨by omega, by omega⟩ d_Law_law_1037 ?_
  refine lv_aload_n hx hb d_Law_law_1038 rfl (lv_at hl 2 rfl) ?_
  refine lv_iload hx hb d_Law_law_1039 (lv_at hl 1 rfl) ?_
  refine lv_iconst (v := 4) hx hb d_Law_law_1041 (by decide) ?_
  refine lv_iadd hx hb d_Law_law_1042 ?_
  refine lv_eqi (v := nI (i + 4)) (nI_add i 4) ?_
  refine gm_scr hx hb hXs hbl hE X (k := i + 4) rfl ⟨by omega, by omega⟩ d_Law_law_1043 ?_
  refine lv_aload_n hx hb d_Law_law_1044 rfl (lv_at hl 2 rfl) ?_
  refine lv_iload hx hb d_Law_law_1045 (lv_at hl 1 rfl) ?_
  refine lv_iconst (v := 5) hx hb d_Law_law_1047 (by decide) ?_
  refine lv_iadd hx hb d_Law_law_1048 ?_
  refine lv_eqi (v := nI (i + 5)) (nI_add i 5) ?_
  refine gm_scr hx hb hXs hbl hE X (k := i + 5) rfl ⟨by omega, by omega⟩ d_Law_law_1049 ?_
  refine gm_Vi hx hb hml hown hW X o53 (r_Mdl_sign_bad l E _ τ cd hbad) (n := 5) ⟨⟨wl_Law_121, wi_Mdl_sign, wsel_Mdl_sign, winit_Mdl, wc_Mdl_sign⟩, by decide +kernel, ⟨Nat.le_of_ble_eq_true rfl, Nat.le_of_ble_eq_true rfl⟩, _, rfl, rfl⟩ rfl hl.1 rfl (Nat.le_of_ble_eq_true rfl) d_Law_law_1050 ⟨by show _ ≤ (629376 : Nat); dsimp only; omega, by show _ ≤ (7207977 : Nat); dsimp only; omega⟩ (fun r' M1 H locs hp X => ?_)
  rw [hp] at X
  refine lv_istore (lv' := [(6, .int r'), (5, .int 1), (4, .int (nI i)), (0, .ref sb), (1, .ref (E.2.1 + 0)), (2, .ref (E.2.1 + 53)), (3, .ref (E.2.1 + 133))]) hx hb d_Law_law_1053 hl (by decide) rfl (fun ls hl => ?_)
  refine lv_aload_n hx hb d_Law_law_1055 rfl (lv_at hl 5 rfl) ?_
  refine gm_Vi hx hb hml hown hW X o53 (r_Mdl_thrown l E _ τ 1) (n := 0) ⟨⟨wl_Law_75, wi_Mdl_thrown, wsel_Mdl_thrown, winit_Mdl, wc_Mdl_thrown⟩, by decide +kernel, ⟨Nat.le_of_ble_eq_true rfl, Nat.le_of_ble_eq_true rfl⟩, _, rfl, rfl⟩ rfl hl.1 rfl (Nat.le_of_ble_eq_true rfl) d_Law_law_1056 ⟨by show _ ≤ (629376 : Nat); dsimp only; omega, by show _ ≤ (7207977 : Nat); dsimp only; omega⟩ (fun q9 M1 H locs hp X => ?_)
  obtain ⟨rfl, rfl⟩ := hp
  rw [← cw_mw] at X
  refine lv_iload hx hb d_Law_law_1059 (lv_at hl 1 rfl) ?_
  refine lv_icmp_eq (tgt := 1066) hx hb d_Law_law_1061 (by decide) (fun _ => ?_) (fun c9 => absurd (by decide) c9)
  refine lv_iload hx hb d_Law_law_1066 (lv_at hl 1 rfl) ?_
  refine lv_if_ne (tgt := 1090) hx hb d_Law_law_1068 (by decide) (fun _ => ?_) (fun c9 => absurd c9 (by decide))
  refine lv_goto (tgt := 1192) hx hb d_Law_law_1090 (by decide) ?_
  refine gm_wid (k := cells + 5) (n := slots + 30) (by dsimp only; omega) (by dsimp only; omega) ?_
  exact kk ρ fl τ 1 fo H locs ls h X (lv_sub hl [2, 3, 4, 5, 6] rfl)
set_option maxRecDepth 100000 in
set_option maxHeartbeats 8000000 in
theorem cb_verify {p : Program} {l : Launch} {e : Env} {s : State} {m : MethodId} {below : List Frame} {meth : Method} {c : Code} {Q : State → Prop} {F G : Type} [Lean.Grind.CommRing F] [Lean.Grind.CommRing G] {φ : Int → F} {inv : F → F} {ψ : Int → G} {E : gm_E} {ad : Nat → Nat} {sb L : Nat} {xs : Nat → Int32} {cells slots : Nat} (hx : p.tables.exec = Jvm.exec) (hb : c.code = code) (hml : c.maxLocals = 8) (hst : l.stackTraces = false) (hown : s.vm.findClass R_Law = some m.cls) (hW : ∀ w ∈ WB, w.before #[Value.ref sb] s = true) (hXs : va_X sb L xs s s.heap) (hbl : sb < s.heap.size) (hE : E.2.1 = s.heap.size) (hL : L ≤ 3072) (hg : gE E ad) (hk : fk φ inv) (hn : fm ψ nN) {Ri : F} (hR : φ (tq 8) * Ri = 1) {Si : G} (hS : ψ (tq 8) * Si = 1) (hcs : cells + 5 ≤ 629376 ∧ slots + 30 ≤ 7207977) {i : Nat} (hi : i + 6 ≤ L) {ρ : Nat → Nat → Int64} {fl : Nat → Int32} {τ : Nat → Nat → Int32} {cd : Int32} {fo : Nat → Int64} (h : RL φ ψ ρ fl τ) {H : Heap} {locs : List Loc} {ls : Array Slot} (X : gx E (LM E ad ρ fl τ cd fo) s H locs) (hl : lv_has ls 8 [(4, .int (nI i)), (0, .ref sb), (1, .ref (E.2.1 + 0)), (2, .ref (E.2.1 + 53)), (3, .ref (E.2.1 + 133))]) (hbad : ¬ (inR (xs (i + 1)) 4 ∧ inR (xs (i + 2)) 8 ∧ inR (xs (i + 3)) 8 ∧ inR (xs (i + 4)) 8))
    (kk : ∀ (ρ' : Nat → Nat → Int64) (fl' : Nat → Int32) (τ' : Nat → Nat → Int32) (cd' : Int32) (fo' : Nat → Int64) (H : Heap) (locs : List Loc) (ls : Array Slot), RL φ ψ ρ' fl' τ' → gx E (LM E ad ρ' fl' τ' cd' fo') s H locs → lv_has ls 8 [(4, .int (nI i)), (0, .ref sb), (1, .ref (E.2.1 + 0)), (2, .ref (E.2.1 + 53)), (3, .ref (E.2.1 + 133))] → W p l e room_1 s m #[Value.ref sb] below meth c H locs (cells + 5) (slots + 30) Q (F0 m 1192 ls [])) :
    W p l e room_1 s m #[Value.ref sb] below meth c H locs cells slots Q (F0 m 1093 ls []) := by
  refine lv_aload_n hx hb d_Law_law_1093 rfl (lv_at hl 2 rfl) ?_
  refine lv_aload_n hx hb d_Law_law_1094 rfl (lv_at hl 1 rfl) ?_
  refine lv_iload hx hb d_Law_law_1095 (lv_at hl 0 rfl) ?_
  refine lv_iconst (v := 1) hx hb d_Law_law_1097 (by decide) ?_
  refine lv_iadd hx hb d_Law_law_1098 ?_
  refine lv_eqi (v := nI (i + 1)) (nI_add i 1) ?_
  refine gm_scr hx hb hXs hbl hE X (k := i + 1) rfl ⟨by omega, by omega⟩ d_Law_law_1099 ?_
  refine lv_aload_n hx hb d_Law_law_1100 rfl (lv_at hl 1 rfl) ?_
  refine lv_iload hx hb d_Law_law_1101 (lv_at hl 0 rfl) ?_
  refine lv_iconst (v := 2) hx hb d_Law_law_1103 (by decide) ?_
  refine lv_iadd hx hb d_Law_law_1104 ?_
  refine lv_eqi (v := nI (i + 2)) (nI_add i 2) ?_
  refine gm_scr hx hb hXs hbl hE X (k := i + 2) rfl ⟨by omega, by omega⟩ d_Law_law_1105 ?_
  refine lv_aload_n hx hb d_Law_law_1106 rfl (lv_at hl 1 rfl) ?_
  refine lv_iload hx hb d_Law_law_1107 (lv_at hl 0 rfl) ?_
  refine lv_iconst (v := 3) hx hb d_Law_law_1109 (by decide) ?_
  refine lv_iadd hx hb d_Law_law_1110 ?_
  refine lv_eqi (v := nI (i + 3)) (nI_add i 3) ?_
  refine gm_scr hx hb hXs hbl hE X (k := i + 3) rfl ⟨by omega, by omega⟩ d_Law_law_1111 ?_
  refine lv_aload_n hx hb d_Law_law_1112 rfl (lv_at hl 1 rfl) ?_
  refine lv_iload hx hb d_Law_law_1113 (lv_at hl 0 rfl) ?_
  refine lv_iconst (v := 4) hx hb d_Law_law_1115 (by decide) ?_
  refine lv_iadd hx hb d_Law_law_1116 ?_
  refine lv_eqi (v := nI (i + 4)) (nI_add i 4) ?_
  refine gm_scr hx hb hXs hbl hE X (k := i + 4) rfl ⟨by omega, by omega⟩ d_Law_law_1117 ?_
  refine lv_aload_n hx hb d_Law_law_1118 rfl (lv_at hl 4 rfl) ?_
  refine gm_SHi hx hb hml hown hW X (hb_Law_verify l hst E ad _ ρ fl hbad) (n := 6) ⟨⟨wl_Law_122, ws_Law_verify, winit_Law, wh_Law_verify⟩, by decide +kernel, Nat.le_of_ble_eq_true rfl, Nat.le_of_ble_eq_true rfl⟩ rfl hl.1 rfl (Nat.le_of_ble_eq_true rfl) d_Law_law_1119 ⟨by show _ ≤ (629376 : Nat); dsimp only; omega, by show _ ≤ (7207977 : Nat); dsimp only; omega⟩ (fun k M1 H locs hp X => ?_)
  obtain ⟨rfl, rfl⟩ := hp
  rw [cw_mw] at X
  refine lv_istore (lv' := [(5, .int 1), (4, .int (nI i)), (0, .ref sb), (1, .ref (E.2.1 + 0)), (2, .ref (E.2.1 + 53)), (3, .ref (E.2.1 + 133))]) hx hb d_Law_law_1122 hl (by decide) rfl (fun ls hl => ?_)
  refine lv_aload_n hx hb d_Law_law_1124 rfl (lv_at hl 4 rfl) ?_
  refine lv_aload_n hx hb d_Law_law_1125 rfl (lv_at hl 2 rfl) ?_
  refine lv_iload hx hb d_Law_law_1126 (lv_at hl 1 rfl) ?_
  refine lv_iconst (v := 1) hx hb d_Law_law_1128 (by decide) ?_
  refine lv_iadd hx hb d_Law_law_1129 ?_
  refine lv_eqi (v := nI (i + 1)) (nI_add i 1) ?_
  refine gm_scr hx hb hXs hbl hE X (k := i + 1) rfl ⟨by omega, by omega⟩ d_Law_law_1130 ?_
  refine lv_aload_n hx hb d_Law_law_1131 rfl (lv_at hl 2 rfl) ?_
  refine lv_iload hx hb d_Law_law_1132 (lv_at hl 1 rfl) ?_
  refine lv_iconst (v := 2) hx hb d_Law_law_1134 (by decide) ?_
  refine lv_iadd hx hb d_Law_law_1135 ?_
  refine lv_eqi (v := nI (i + 2)) (nI_add i 2) ?_
  refine gm_scr hx hb hXs hbl hE X (k := i + 2) rfl ⟨by omega, by omega⟩ d_Law_law_1136 ?_
  refine lv_aload_n hx hb d_Law_law_1137 rfl (lv_at hl 2 rfl) ?_
  refine lv_iload hx hb d_Law_law_1138 (lv_at hl 1 rfl) ?_
  refine lv_iconst (v := 3) hx hb d_Law_law_1140 (by decide) ?_
  refine lv_iadd hx hb d_Law_law_1141 ?_
  refine lv_eqi (v := nI (i + 3)) (nI_add i 3) ?_
  refine gm_scr hx hb hXs hbl hE X (k := i + 3) rfl ⟨by omega, by omega⟩ d_Law_law_1142 ?_
  refine lv_aload_n hx hb d_Law_law_1143 rfl (lv_at hl 2 rfl) ?_
  refine lv_iload hx hb d_Law_law_1144 (lv_at hl 1 rfl) ?_
  refine lv_iconst (v := 4) hx hb d_Law_law_1146 (by decide) ?_
  refine lv_iadd hx hb d_Law_law_1147 ?_
  refine lv_eqi (v := nI (i + 4)) (nI_add i 4) ?_
  refine gm_scr hx hb hXs hbl hE X (k := i + 4) rfl ⟨by omega, by omega⟩ d_Law_law_1148 ?_
  refine gm_Vi hx hb hml hown hW X o53 (r_Mdl_verify_bad l E _ τ cd hbad) (n := 4) ⟨⟨wl_Law_124, wi_Mdl_verify, wsel_Mdl_verify, winit_Mdl, wc_Mdl_verify⟩, by decide +kernel, ⟨Nat.le_of_ble_eq_true rfl, Nat.le_of_ble_eq_true rfl⟩, _, rfl, rfl⟩ rfl hl.1 rfl (Nat.le_of_ble_eq_true rfl) d_Law_law_1149 ⟨by show _ ≤ (629376 : Nat); dsimp only; omega, by show _ ≤ (7207977 : Nat); dsimp only; omega⟩ (fun r' M1 H locs hp X => ?_)
  rw [hp] at X
  refine lv_istore (lv' := [(6, .int r'), (5, .int 1), (4, .int (nI i)), (0, .ref sb), (1, .ref (E.2.1 + 0)), (2, .ref (E.2.1 + 53)), (3, .ref (E.2.1 + 133))]) hx hb d_Law_law_1152 hl (by decide) rfl (fun ls hl => ?_)
  refine lv_aload_n hx hb d_Law_law_1154 rfl (lv_at hl 5 rfl) ?_
  refine gm_Vi hx hb hml hown hW X o53 (r_Mdl_thrown l E _ τ 1) (n := 0) ⟨⟨wl_Law_75, wi_Mdl_thrown, wsel_Mdl_thrown, winit_Mdl, wc_Mdl_thrown⟩, by decide +kernel, ⟨Nat.le_of_ble_eq_true rfl, Nat.le_of_ble_eq_true rfl⟩, _, rfl, rfl⟩ rfl hl.1 rfl (Nat.le_of_ble_eq_true rfl) d_Law_law_1155 ⟨by show _ ≤ (629376 : Nat); dsimp only; omega, by show _ ≤ (7207977 : Nat); dsimp only; omega⟩ (fun q9 M1 H locs hp X => ?_)
  obtain ⟨rfl, rfl⟩ := hp
  rw [← cw_mw] at X
  refine lv_iload hx hb d_Law_law_1158 (lv_at hl 1 rfl) ?_
  refine lv_icmp_eq (tgt := 1165) hx hb d_Law_law_1160 (by decide) (fun _ => ?_) (fun c9 => absurd (by decide) c9)
  refine lv_iload hx hb d_Law_law_1165 (lv_at hl 1 rfl) ?_
  refine lv_if_ne (tgt := 1189) hx hb d_Law_law_1167 (by decide) (fun _ => ?_) (fun c9 => absurd c9 (by decide))
  refine lv_goto (tgt := 1192) hx hb d_Law_law_1189 (by decide) ?_
  refine gm_wid (k := cells + 5) (n := slots + 30) (by dsimp only; omega) (by dsimp only; omega) ?_
  exact kk ρ fl τ 1 fo H locs ls h X (lv_sub hl [2, 3, 4, 5, 6] rfl)
