/-! THE LAW'S BEGINNING: written by wip/gen/law4.py -/
theorem ow_1 {B lo : Nat} {N : gm_M} {e : va_E} : gm_up N (B + lo) e = oW B lo N (lo + 1) (fun _ => e) := by
  funext x
  simp only [gm_up, oW]
  by_cases hx : x = B + lo
  · rw [if_pos hx, if_pos (by omega)]
  · rw [if_neg hx, if_neg (by omega)]
theorem lm_new {E : gm_E} {ad : Nat → Nat} {ρ : Nat → Nat → Int64} {fl : Nat → Int32} {τ : Nat → Nat → Int32} {cd : Int32} : gm_up (mW E (cW E ad (fun _ => none) ρ fl) τ cd) (E.2.1 + 133) (LA E 1 (fun _ => 0)) = LM E ad ρ fl τ cd (fun _ => 0) := by
  rw [LM, cw_mw]
  funext x
  simp only [gm_up, mW, cW, oM]
  by_cases hx : x = E.2.1 + 133
  · rw [if_pos hx, if_neg (by omega), if_neg (by omega), if_pos hx]
  · rw [if_neg hx]
    by_cases h1 : E.2.1 + 53 ≤ x ∧ x < E.2.1 + 133
    · rw [if_pos h1, if_pos h1]
    · rw [if_neg h1, if_neg h1]
      by_cases h2 : E.2.1 ≤ x ∧ x < E.2.1 + 53
      · rw [if_pos h2, if_pos h2]
      · rw [if_neg h2, if_neg h2, if_neg hx]
theorem RL_0 {F G : Type} [Lean.Grind.CommRing F] [Lean.Grind.CommRing G] {φ : Int → F} {ψ : Int → G} (hf : fm φ nP) {ρ : Nat → Nat → Int64} {fl : Nat → Int32} {τ : Nat → Nat → Int32} (a1 : ∀ r, r < 8 → ρ (2 + r) = fun _ => 0) (a2 : ∀ p, p < 4 → fl (41 + 3 * p) = 1) (a3 : ptR φ ρ fl 21 (some (φ gXn, φ gYn))) (b1 : ∀ r, r < 8 → τ (80 + r) = fun _ => 0) (b2 : ∀ p, p < 4 → τ (115 + 4 * p + 3) = fun _ => 0) (b3 : mpR φ τ 55 (some (φ gXn, φ gYn))) (b4 : isR φ nP 99 τ) (b5 : isR ψ nN 107 τ) (b6 : MV φ nP (τ 54) 7) : RL φ ψ ρ fl τ := by
  refine ⟨fun r hr => ?_, fun p hp => ⟨none, a2 p hp, ?_⟩, ⟨a3, b3⟩, b4, b5, b6⟩
  · rw [a1 r hr, b1 r hr]
    intro j _
    show uN 0 = wN 0 + wN 0 * 4294967296
    decide
  · show MV φ nP (τ (115 + 4 * p + 3)) 0
    rw [b2 p hp]
    exact MV.of0 hf.1 (by decide +kernel) (IV_z 8)
set_option maxRecDepth 100000 in
set_option maxHeartbeats 8000000 in
theorem lw_go {p : Program} {l : Launch} {e : Env} {s : State} {m : MethodId} {below : List Frame} {meth : Method} {c : Code} {Q : State → Prop} {F G : Type} [Lean.Grind.CommRing F] [Lean.Grind.CommRing G] {φ : Int → F} {inv : F → F} {ψ : Int → G} {E : gm_E} {ad : Nat → Nat} {sb L : Nat} {xs : Nat → Int32} (hx : p.tables.exec = Jvm.exec) (hb : c.code = code) (hml : c.maxLocals = 8) (hst : l.stackTraces = false) (hown : s.vm.findClass R_Law = some m.cls) (hW : ∀ w ∈ WB, w.before #[Value.ref sb] s = true) (hXs : va_X sb L xs s s.heap) (hbl : sb < s.heap.size) (hE : E.2.1 = s.heap.size) (hL : L ≤ 3072) (hg : gE E ad) (hk : fk φ inv) (hn : fm ψ nN) {Ri : F} (hR : φ (tq 8) * Ri = 1) {Si : G} (hS : ψ (tq 8) * Si = 1) (hs0 : gm_st E s s.heap)
    (hend : ∀ (H : Heap) (ls : Array Slot), W p l e room_1 s m #[Value.ref sb] below meth c H [] 629376 7207977 Q (F0 m 1199 ls [.int 1])) {ls : Array Slot} (hl : lv_has ls 8 [(0, .ref sb)]) : W p l e room_1 s m #[Value.ref sb] below meth c s.heap [] 0 0 Q (F0 m 0 ls []) := by
  have X : gx E (fun _ => none) s s.heap [] := ⟨hs0, fun a e h => (by cases h), va_S.rf, Nat.le_of_eq hE⟩
  have h0 : s.heap.size = E.2.1 := hE.symm
  refine gm_new (ci := 3) (n0 := E.2.1 + 0) hx hb hW hown X (by omega) u_Ben t_Ben t_Ben_ok rfl wcl_Law_8 winst_Ben winit_Ben (fs := [.null, .null, .null, .null, .null, .null, .null, .null, .null, .null, .null, .null]) (fun j hj => by rcases (show j = 0 ∨ j = 1 ∨ j = 2 ∨ j = 3 ∨ j = 4 ∨ j = 5 ∨ j = 6 ∨ j = 7 ∨ j = 8 ∨ j = 9 ∨ j = 10 ∨ j = 11 by omega) with rfl | rfl | rfl | rfl | rfl | rfl | rfl | rfl | rfl | rfl | rfl | rfl <;> rfl) ⟨Nat.le_of_ble_eq_true rfl, Nat.le_of_ble_eq_true rfl⟩ d_Law_law_0 (fun H hz X => ?_)
  rw [ow_1] at X
  have hz : H.size = E.2.1 + 1 := hz
  refine lv_dup hx hb d_Law_law_3 rfl ?_
  refine gm_Iv hx hb hml hown hW X hz (z_Ben_init l E (fun _ => none) hk hg) (n := 0) ⟨⟨wl_Law_63, wi_Ben_init, winit_Ben, wc_Ben_init, rfl⟩, by decide +kernel, Nat.le_of_ble_eq_true rfl, Nat.le_of_ble_eq_true rfl⟩ rfl hl.1 rfl (Nat.le_of_ble_eq_true rfl) d_Law_law_4 ⟨Nat.le_of_ble_eq_true rfl, Nat.le_of_ble_eq_true rfl⟩ (fun M1 H locs hp X => ?_)
  obtain ⟨ρ, fl, rfl, a1, a2, a3⟩ := hp
  refine gm_hz (b := E.2.1 + 52) X h0 (cw_row (k := 52) (n := 10) (by decide)) (by first | (dsimp only; done) | (dsimp only; omega) | omega) (fun hz => ?_)
  have hz : H.size = E.2.1 + 53 := hz
  refine lv_astore_n (lv' := [(1, .ref (E.2.1 + 0)), (0, .ref sb)]) hx hb d_Law_law_7 rfl hl (by decide) rfl (fun ls hl => ?_)
  refine gm_new (ci := 6) (n0 := E.2.1 + 53) hx hb hW hown X hz u_Mdl t_Mdl t_Mdl_ok rfl wcl_Law_64 winst_Mdl winit_Mdl (fs := [.null, .null, .null, .null, .null, .null, .null, .null, .null, .null, .null, .null, .null, .null, .null, .null, .null, .null, .null, .null, .null, .null, .int 0]) (fun j hj => by rcases (show j = 0 ∨ j = 1 ∨ j = 2 ∨ j = 3 ∨ j = 4 ∨ j = 5 ∨ j = 6 ∨ j = 7 ∨ j = 8 ∨ j = 9 ∨ j = 10 ∨ j = 11 ∨ j = 12 ∨ j = 13 ∨ j = 14 ∨ j = 15 ∨ j = 16 ∨ j = 17 ∨ j = 18 ∨ j = 19 ∨ j = 20 ∨ j = 21 ∨ j = 22 by omega) with rfl | rfl | rfl | rfl | rfl | rfl | rfl | rfl | rfl | rfl | rfl | rfl | rfl | rfl | rfl | rfl | rfl | rfl | rfl | rfl | rfl | rfl | rfl <;> rfl) ⟨Nat.le_of_ble_eq_true rfl, Nat.le_of_ble_eq_true rfl⟩ d_Law_law_8 (fun H hz X => ?_)
  rw [ow_1] at X
  have hz : H.size = E.2.1 + 54 := hz
  refine lv_dup hx hb d_Law_law_11 rfl ?_
  refine gm_Iv hx hb hml hown hW X hz (z_Mdl_init l E (cW E ad (fun _ => none) ρ fl) hk hn hR) (n := 0) ⟨⟨wl_Law_66, wi_Mdl_init, winit_Mdl, wc_Mdl_init, rfl⟩, by decide +kernel, Nat.le_of_ble_eq_true rfl, Nat.le_of_ble_eq_true rfl⟩ rfl hl.1 rfl (Nat.le_of_ble_eq_true rfl) d_Law_law_12 ⟨Nat.le_of_ble_eq_true rfl, Nat.le_of_ble_eq_true rfl⟩ (fun M1 H locs hp X => ?_)
  obtain ⟨τ, rfl, b1, b2, b3, b4, b5, b6⟩ := hp
  refine gm_hz (b := E.2.1 + 132) X h0 (mw_row (k := 132) (n := 8) (by decide)) (by first | (dsimp only; done) | (dsimp only; omega) | omega) (fun hz => ?_)
  have hz : H.size = E.2.1 + 133 := hz
  refine lv_astore_n (lv' := [(2, .ref (E.2.1 + 53)), (1, .ref (E.2.1 + 0)), (0, .ref sb)]) hx hb d_Law_law_15 rfl hl (by decide) rfl (fun ls hl => ?_)
  refine lv_iconst (v := 1) hx hb d_Law_law_16 (by decide) ?_
  refine gm_newl hx hb hW X hz (N := 1) (by decide) (by decide) (by decide) ⟨Nat.le_of_ble_eq_true rfl, Nat.le_of_ble_eq_true rfl⟩ d_Law_law_17 (fun H hz X => ?_)
  rw [lm_new] at X
  refine lv_astore_n (lv' := [(3, .ref (E.2.1 + 133)), (2, .ref (E.2.1 + 53)), (1, .ref (E.2.1 + 0)), (0, .ref sb)]) hx hb d_Law_law_19 rfl hl (by decide) rfl (fun ls hl => ?_)
  refine lv_iconst (v := 0) hx hb d_Law_law_20 (by decide) ?_
  refine lv_istore (lv' := [(4, .int 0), (3, .ref (E.2.1 + 133)), (2, .ref (E.2.1 + 53)), (1, .ref (E.2.1 + 0)), (0, .ref sb)]) hx hb d_Law_law_21 hl (by decide) rfl (fun ls hl => ?_)
  have hl : lv_has ls 8 [(4, .int (nI (6 * 0))), (0, .ref sb), (1, .ref (E.2.1 + 0)), (2, .ref (E.2.1 + 53)), (3, .ref (E.2.1 + 133))] := lv_sub hl [0, 4, 3, 2, 1] rfl
  exact lw_loop hx hb hml hst hown hW hXs hbl hE hL hg hk hn hR hS hend L 0 (by omega) (by omega) ρ fl τ 0 (fun _ => 0) H locs ls (RL_0 hk.fm a1 a2 a3 b1 b2 b3 b4 b5 b6) X hl
