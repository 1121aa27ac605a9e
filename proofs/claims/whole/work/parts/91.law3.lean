/-! THE LAW'S LOOP: written by wip/gen/law3.py -/
theorem d_Law_law_40 : decode b_Law_law 40 = .ok (.tableswitch 1152 0 13 #[72, 164, 231, 299, 398, 434, 470, 557, 660, 747, 807, 867, 942, 1053], 72) := by decide +kernel
theorem and15 (x : Int32) : ∃ k, k < 16 ∧ x &&& 15 = nI k := by
  refine ⟨(x.toBitVec &&& 15#32).toNat, ?_, ?_⟩
  · rw [BitVec.toNat_and]
    exact Nat.lt_of_le_of_lt Nat.and_le_right (by decide)
  · apply Int32.toBitVec_inj.mp
    show x.toBitVec &&& 15#32 = BitVec.ofNat 32 _
    rw [BitVec.ofNat_toNat, BitVec.setWidth_eq]
theorem nI_sub6 {L : Nat} (h : 6 ≤ L) : Int32.ofNat L - 6 = nI (L - 6) := by
  have e := nI_add (L - 6) 6
  rw [show L - 6 + 6 = L by omega] at e
  show nI L - nI 6 = nI (L - 6)
  rw [← e, Int32.add_sub_cancel]
theorem lt6 {L j : Nat} (hL : L ≤ 3072) (hj : j ≤ 3072) : Int32.ofNat L - 6 < nI j ↔ L < j + 6 := by
  by_cases h : 6 ≤ L
  · rw [nI_sub6 h, Int32.lt_iff_toInt_lt, nI_toInt (by omega), nI_toInt (by omega)]
    omega
  · have h2 : Int32.ofNat L - 6 < 0 := by
      rcases (show L = 0 ∨ L = 1 ∨ L = 2 ∨ L = 3 ∨ L = 4 ∨ L = 5 by omega) with rfl | rfl | rfl | rfl | rfl | rfl <;> decide
    have h3 := Int32.lt_iff_toInt_lt.mp h2
    rw [show (0 : Int32).toInt = 0 by decide] at h3
    rw [Int32.lt_iff_toInt_lt, nI_toInt (by omega)]
    constructor
    · intro _; omega
    · intro _; omega
set_option maxRecDepth 100000 in
set_option maxHeartbeats 8000000 in
theorem lw_loop {p : Program} {l : Launch} {e : Env} {s : State} {m : MethodId} {below : List Frame} {meth : Method} {c : Code} {Q : State → Prop} {F G : Type} [Lean.Grind.CommRing F] [Lean.Grind.CommRing G] {φ : Int → F} {inv : F → F} {ψ : Int → G} {E : gm_E} {ad : Nat → Nat} {sb L : Nat} {xs : Nat → Int32} (hx : p.tables.exec = Jvm.exec) (hb : c.code = code) (hml : c.maxLocals = 8) (hst : l.stackTraces = false) (hown : s.vm.findClass R_Law = some m.cls) (hW : ∀ w ∈ WB, w.before #[Value.ref sb] s = true) (hXs : va_X sb L xs s s.heap) (hbl : sb < s.heap.size) (hE : E.2.1 = s.heap.size) (hL : L ≤ 3072) (hg : gE E ad) (hk : fk φ inv) (hn : fm ψ nN) {Ri : F} (hR : φ (tq 8) * Ri = 1) {Si : G} (hS : ψ (tq 8) * Si = 1)
    (hend : ∀ (H : Heap) (ls : Array Slot), W p l e room_1 s m #[Value.ref sb] below meth c H [] 629376 7207977 Q (F0 m 1199 ls [.int 1])) :
    ∀ (n j : Nat), L < 6 * (j + n) + 6 → 6 * j ≤ L → ∀ (ρ : Nat → Nat → Int64) (fl : Nat → Int32) (τ : Nat → Nat → Int32) (cd : Int32) (fo : Nat → Int64) (H : Heap) (locs : List Loc) (ls : Array Slot), RL φ ψ ρ fl τ → gx E (LM E ad ρ fl τ cd fo) s H locs → lv_has ls 8 [(4, .int (nI (6 * j))), (0, .ref sb), (1, .ref (E.2.1 + 0)), (2, .ref (E.2.1 + 53)), (3, .ref (E.2.1 + 133))] → W p l e room_1 s m #[Value.ref sb] below meth c H locs (134 + 5 * j) (1051 + 30 * j) Q (F0 m 23 ls []) := by
  intro n
  induction n with
  | zero =>
    intro j hn1 hj ρ fl τ cd fo H locs ls h X hl
    refine lv_iload hx hb d_Law_law_23 (lv_at hl 0 rfl) ?_
    refine lv_aload_n hx hb d_Law_law_25 rfl (lv_at hl 1 rfl) ?_
    refine va_slen (A := gm_A E) hx hb hXs hbl (by show ¬ E.2.1 ≤ sb; omega) X.2.2.1 d_Law_law_26 ?_
    refine lv_bipush (v := 6) hx hb d_Law_law_27 (by decide) ?_
    refine lv_isub hx hb d_Law_law_29 ?_
    refine lv_icmp_gt (tgt := 1198) hx hb d_Law_law_30 (by decide) (fun c30 => ?_) (fun c30 => ?_)
    · refine lv_iconst (v := 1) hx hb d_Law_law_1198 (by decide) ?_
      refine gm_wid (k := 629376) (n := 7207977) (by omega) (by omega) ?_
      exact va_forget (fun q hq => by have h9 : E.2.1 ≤ q.base := X.2.2.1.2.2 q hq; omega) (hend H ls)
    · exact absurd ((lt6 hL (by omega)).mpr (by omega)) c30
  | succ n ih =>
    intro j hn1 hj ρ fl τ cd fo H locs ls h X hl
    refine lv_iload hx hb d_Law_law_23 (lv_at hl 0 rfl) ?_
    refine lv_aload_n hx hb d_Law_law_25 rfl (lv_at hl 1 rfl) ?_
    refine va_slen (A := gm_A E) hx hb hXs hbl (by show ¬ E.2.1 ≤ sb; omega) X.2.2.1 d_Law_law_26 ?_
    refine lv_bipush (v := 6) hx hb d_Law_law_27 (by decide) ?_
    refine lv_isub hx hb d_Law_law_29 ?_
    refine lv_icmp_gt (tgt := 1198) hx hb d_Law_law_30 (by decide) (fun c30 => ?_) (fun c30 => ?_)
    · refine lv_iconst (v := 1) hx hb d_Law_law_1198 (by decide) ?_
      refine gm_wid (k := 629376) (n := 7207977) (by omega) (by omega) ?_
      exact va_forget (fun q hq => by have h9 : E.2.1 ≤ q.base := X.2.2.1.2.2 q hq; omega) (hend H ls)
    · have hi : 6 * j + 6 ≤ L := by have h9 : ¬ L < 6 * j + 6 := fun z => c30 ((lt6 hL (by omega)).mpr z); omega
      have kk : ∀ (ρ' : Nat → Nat → Int64) (fl' : Nat → Int32) (τ' : Nat → Nat → Int32) (cd' : Int32) (fo' : Nat → Int64) (H : Heap) (locs : List Loc) (ls : Array Slot), RL φ ψ ρ' fl' τ' → gx E (LM E ad ρ' fl' τ' cd' fo') s H locs → lv_has ls 8 [(4, .int (nI (6 * j))), (0, .ref sb), (1, .ref (E.2.1 + 0)), (2, .ref (E.2.1 + 53)), (3, .ref (E.2.1 + 133))] → W p l e room_1 s m #[Value.ref sb] below meth c H locs (134 + 5 * j + 5) (1051 + 30 * j + 30) Q (F0 m 1192 ls []) := by
        intro ρ1 fl1 τ1 cd1 fo1 H locs ls h X hl
        refine lv_iinc (v := nI (6 * (j + 1))) (lv' := [(4, .int (nI (6 * (j + 1)))), (0, .ref sb), (1, .ref (E.2.1 + 0)), (2, .ref (E.2.1 + 53)), (3, .ref (E.2.1 + 133))]) hx hb d_Law_law_1192 hl (k := 0) rfl (by rw [Nat.mul_succ]; exact nI_add (6 * j) 6) (by decide) rfl (fun ls hl => ?_)
        refine lv_goto (tgt := 23) hx hb d_Law_law_1195 (by decide) ?_
        refine gm_wid (k := 134 + 5 * (j + 1)) (n := 1051 + 30 * (j + 1)) (by omega) (by omega) ?_
        exact ih (j + 1) (by omega) (by omega) ρ1 fl1 τ1 cd1 fo1 H locs ls h X hl
      have hcs : 134 + 5 * j + 5 ≤ 629376 ∧ 1051 + 30 * j + 30 ≤ 7207977 := by omega
      refine lv_aload_n hx hb d_Law_law_33 rfl (lv_at hl 1 rfl) ?_
      refine lv_iload hx hb d_Law_law_34 (lv_at hl 0 rfl) ?_
      refine gm_scr hx hb hXs hbl hE X (k := 6 * j) rfl ⟨by omega, by omega⟩ d_Law_law_36 ?_
      refine lv_bipush (v := 15) hx hb d_Law_law_37 (by decide) ?_
      refine lv_iand hx hb d_Law_law_39 ?_
      obtain ⟨v, hv, ev⟩ := and15 (xs (6 * j))
      refine lv_eqi (v := nI v) ev ?_
      clear ev
      rcases (show v = 0 ∨ v = 1 ∨ v = 2 ∨ v = 3 ∨ v = 4 ∨ v = 5 ∨ v = 6 ∨ v = 7 ∨ v = 8 ∨ v = 9 ∨ v = 10 ∨ v = 11 ∨ v = 12 ∨ v = 13 ∨ v = 14 ∨ v = 15 by omega) with rfl | rfl | rfl | rfl | rfl | rfl | rfl | rfl | rfl | rfl | rfl | rfl | rfl | rfl | rfl | rfl
      · refine lv_tableIn (off := 72) (tgt := 112) hx hb d_Law_law_40 (by decide) (by decide) (by decide) (by decide) ?_
        by_cases g : inR (xs (6 * j + 1)) 8 ∧ inR (xs (6 * j + 2)) 4
        · exact cs_set hx hb hml hst hown hW hXs hbl hE hL hg hk hn hR hS hcs hi h X hl g.1 g.2 kk
        · exact cb_set hx hb hml hst hown hW hXs hbl hE hL hg hk hn hR hS hcs hi h X hl g kk
      · refine lv_tableIn (off := 164) (tgt := 204) hx hb d_Law_law_40 (by decide) (by decide) (by decide) (by decide) ?_
        by_cases g : inR (xs (6 * j + 1)) 8 ∧ inR (xs (6 * j + 2)) 4
        · exact cs_get hx hb hml hst hown hW hXs hbl hE hL hg hk hn hR hS hcs hi h X hl g.1 g.2 kk
        · exact cb_get hx hb hml hst hown hW hXs hbl hE hL hg hk hn hR hS hcs hi h X hl g kk
      · refine lv_tableIn (off := 231) (tgt := 271) hx hb d_Law_law_40 (by decide) (by decide) (by decide) (by decide) ?_
        by_cases g : inR (xs (6 * j + 1)) 8 ∧ inR (xs (6 * j + 2)) 8
        · exact cs_compare hx hb hml hst hown hW hXs hbl hE hL hg hk hn hR hS hcs hi h X hl g.1 g.2 kk
        · exact cb_compare hx hb hml hst hown hW hXs hbl hE hL hg hk hn hR hS hcs hi h X hl g kk
      · refine lv_tableIn (off := 299) (tgt := 339) hx hb d_Law_law_40 (by decide) (by decide) (by decide) (by decide) ?_
        by_cases g : inR (xs (6 * j + 1)) 8 ∧ inR (xs (6 * j + 2)) 8 ∧ inR (xs (6 * j + 3)) 8 ∧ inR (xs (6 * j + 4)) 8
        · obtain ⟨v1, hv1, ew⟩ := g.1
          rcases (show v1 = 0 ∨ v1 = 1 ∨ v1 = 2 ∨ v1 = 3 ∨ v1 = 4 ∨ v1 = 5 ∨ v1 = 6 ∨ v1 = 7 by omega) with rfl | rfl | rfl | rfl | rfl | rfl | rfl | rfl
          · exact cs_work_0 hx hb hml hst hown hW hXs hbl hE hL hg hk hn hR hS hcs hi h X hl (ew.trans (by decide)) g.2.1 g.2.2.1 g.2.2.2 kk
          · exact cs_work_1 hx hb hml hst hown hW hXs hbl hE hL hg hk hn hR hS hcs hi h X hl (ew.trans (by decide)) g.2.1 g.2.2.1 g.2.2.2 kk
          · exact cs_work_2 hx hb hml hst hown hW hXs hbl hE hL hg hk hn hR hS hcs hi h X hl (ew.trans (by decide)) g.2.1 g.2.2.1 g.2.2.2 kk
          · exact cs_work_3 hx hb hml hst hown hW hXs hbl hE hL hg hk hn hR hS hcs hi h X hl (ew.trans (by decide)) g.2.1 g.2.2.1 g.2.2.2 kk
          · exact cs_work_4 hx hb hml hst hown hW hXs hbl hE hL hg hk hn hR hS hcs hi h X hl (ew.trans (by decide)) g.2.1 g.2.2.1 g.2.2.2 kk
          · exact cs_work_5 hx hb hml hst hown hW hXs hbl hE hL hg hk hn hR hS hcs hi h X hl (ew.trans (by decide)) g.2.1 g.2.2.1 g.2.2.2 kk
          · exact cs_work_6 hx hb hml hst hown hW hXs hbl hE hL hg hk hn hR hS hcs hi h X hl (ew.trans (by decide)) g.2.1 g.2.2.1 g.2.2.2 kk
          · exact cs_work_7 hx hb hml hst hown hW hXs hbl hE hL hg hk hn hR hS hcs hi h X hl (ew.trans (by decide)) g.2.1 g.2.2.1 g.2.2.2 kk
        · exact cb_work hx hb hml hst hown hW hXs hbl hE hL hg hk hn hR hS hcs hi h X hl g kk
      · refine lv_tableIn (off := 398) (tgt := 438) hx hb d_Law_law_40 (by decide) (by decide) (by decide) (by decide) ?_
        by_cases g : inR (xs (6 * j + 1)) 4
        · exact cs_base hx hb hml hst hown hW hXs hbl hE hL hg hk hn hR hS hcs hi h X hl g kk
        · exact cb_base hx hb hml hst hown hW hXs hbl hE hL hg hk hn hR hS hcs hi h X hl g kk
      · refine lv_tableIn (off := 434) (tgt := 474) hx hb d_Law_law_40 (by decide) (by decide) (by decide) (by decide) ?_
        by_cases g : inR (xs (6 * j + 1)) 4
        · exact cs_none hx hb hml hst hown hW hXs hbl hE hL hg hk hn hR hS hcs hi h X hl g kk
        · exact cb_none hx hb hml hst hown hW hXs hbl hE hL hg hk hn hR hS hcs hi h X hl g kk
      · refine lv_tableIn (off := 470) (tgt := 510) hx hb d_Law_law_40 (by decide) (by decide) (by decide) (by decide) ?_
        by_cases g : inR (xs (6 * j + 1)) 4 ∧ inR (xs (6 * j + 2)) 8 ∧ inR (xs (6 * j + 3)) 8
        · exact cs_lay hx hb hml hst hown hW hXs hbl hE hL hg hk hn hR hS hcs hi h X hl g.1 g.2.1 g.2.2 kk
        · exact cb_lay hx hb hml hst hown hW hXs hbl hE hL hg hk hn hR hS hcs hi h X hl g kk
      · refine lv_tableIn (off := 557) (tgt := 597) hx hb d_Law_law_40 (by decide) (by decide) (by decide) (by decide) ?_
        by_cases g : inR (xs (6 * j + 1)) 4 ∧ inR (xs (6 * j + 2)) 8
        · by_cases hod : xs (6 * j + 3) = 0
          · exact cs_lift_0 hx hb hml hst hown hW hXs hbl hE hL hg hk hn hR hS hcs hi h X hl g.1 g.2 hod kk
          · exact cs_lift_1 hx hb hml hst hown hW hXs hbl hE hL hg hk hn hR hS hcs hi h X hl g.1 g.2 hod kk
        · by_cases hod : xs (6 * j + 3) = 0
          · exact cb_lift_0 hx hb hml hst hown hW hXs hbl hE hL hg hk hn hR hS hcs hi h X hl g hod kk
          · exact cb_lift_1 hx hb hml hst hown hW hXs hbl hE hL hg hk hn hR hS hcs hi h X hl g hod kk
      · refine lv_tableIn (off := 660) (tgt := 700) hx hb d_Law_law_40 (by decide) (by decide) (by decide) (by decide) ?_
        by_cases g : inR (xs (6 * j + 1)) 4 ∧ inR (xs (6 * j + 2)) 8 ∧ inR (xs (6 * j + 3)) 8
        · exact cs_show hx hb hml hst hown hW hXs hbl hE hL hg hk hn hR hS hcs hi h X hl g.1 g.2.1 g.2.2 kk
        · exact cb_show hx hb hml hst hown hW hXs hbl hE hL hg hk hn hR hS hcs hi h X hl g kk
      · refine lv_tableIn (off := 747) (tgt := 787) hx hb d_Law_law_40 (by decide) (by decide) (by decide) (by decide) ?_
        by_cases g : inR (xs (6 * j + 1)) 4 ∧ inR (xs (6 * j + 2)) 4 ∧ inR (xs (6 * j + 3)) 4
        · exact cs_add hx hb hml hst hown hW hXs hbl hE hL hg hk hn hR hS hcs hi h X hl g.1 g.2.1 g.2.2 kk
        · exact cb_add hx hb hml hst hown hW hXs hbl hE hL hg hk hn hR hS hcs hi h X hl g kk
      · refine lv_tableIn (off := 807) (tgt := 847) hx hb d_Law_law_40 (by decide) (by decide) (by decide) (by decide) ?_
        by_cases g : inR (xs (6 * j + 1)) 4 ∧ inR (xs (6 * j + 2)) 8 ∧ inR (xs (6 * j + 3)) 4
        · exact cs_times hx hb hml hst hown hW hXs hbl hE hL hg hk hn hR hS hcs hi h X hl g.1 g.2.1 g.2.2 kk
        · exact cb_times hx hb hml hst hown hW hXs hbl hE hL hg hk hn hR hS hcs hi h X hl g kk
      · refine lv_tableIn (off := 867) (tgt := 907) hx hb d_Law_law_40 (by decide) (by decide) (by decide) (by decide) ?_
        by_cases g : inR (xs (6 * j + 1)) 4 ∧ inR (xs (6 * j + 2)) 4
        · exact cs_same hx hb hml hst hown hW hXs hbl hE hL hg hk hn hR hS hcs hi h X hl g.1 g.2 kk
        · exact cb_same hx hb hml hst hown hW hXs hbl hE hL hg hk hn hR hS hcs hi h X hl g kk
      · refine lv_tableIn (off := 942) (tgt := 982) hx hb d_Law_law_40 (by decide) (by decide) (by decide) (by decide) ?_
        by_cases g : inR (xs (6 * j + 1)) 8 ∧ inR (xs (6 * j + 2)) 8 ∧ inR (xs (6 * j + 3)) 8 ∧ inR (xs (6 * j + 4)) 8 ∧ inR (xs (6 * j + 5)) 8
        · exact cs_sign hx hb hml hst hown hW hXs hbl hE hL hg hk hn hR hS hcs hi h X hl g.1 g.2.1 g.2.2.1 g.2.2.2.1 g.2.2.2.2 kk
        · exact cb_sign hx hb hml hst hown hW hXs hbl hE hL hg hk hn hR hS hcs hi h X hl g kk
      · refine lv_tableIn (off := 1053) (tgt := 1093) hx hb d_Law_law_40 (by decide) (by decide) (by decide) (by decide) ?_
        by_cases g : inR (xs (6 * j + 1)) 4 ∧ inR (xs (6 * j + 2)) 8 ∧ inR (xs (6 * j + 3)) 8 ∧ inR (xs (6 * j + 4)) 8
        · exact cs_verify hx hb hml hst hown hW hXs hbl hE hL hg hk hn hR hS hcs hi h X hl g.1 g.2.1 g.2.2.1 g.2.2.2 kk
        · exact cb_verify hx hb hml hst hown hW hXs hbl hE hL hg hk hn hR hS hcs hi h X hl g kk
      · refine lv_tableOut (tgt := 1192) hx hb d_Law_law_40 (Or.inr (by decide)) (by decide) ?_
        refine gm_wid (k := 134 + 5 * j + 5) (n := 1051 + 30 * j + 30) (by omega) (by omega) ?_
        exact kk ρ fl τ cd fo H locs ls h X hl
      · refine lv_tableOut (tgt := 1192) hx hb d_Law_law_40 (Or.inr (by decide)) (by decide) ?_
        refine gm_wid (k := 134 + 5 * j + 5) (n := 1051 + 30 * j + 30) (by omega) (by omega) ?_
        exact kk ρ fl τ cd fo H locs ls h X hl
