/-! PointBench's calls: written by wip/gen/ben3.py -/
set_option maxHeartbeats 4000000 in
theorem g_Ben_set {F G : Type} [Lean.Grind.CommRing F] [Lean.Grind.CommRing G] {φ : Int → F} {inv : F → F} {ψ : Int → G} (l : Launch) (E : gm_E) (ad : Nat → Nat) (N : gm_M) (ρ : Nat → Nat → Int64) (fl : Nat → Int32) (hg : gE E ad) (hk : fk φ inv) (hn : fm ψ nN) {r : Nat} (h_r : r < 8) {q : Nat} (h_q : q < 4) {v : Int64} : cv_ l y_Ben_set b_Ben_set 5 none { frames := 7, cells := 2, slots := 12, locals := 120 } E (cW E ad N ρ fl) [.ref (E.2.1 + 0), .int (nI r), .int (nI q), .long v] (fun M' => ∃ ρ' fl', M' = cW E ad N ρ' fl' ∧ (ρ' = va_up ρ (2 + r) (vp_updL (ρ (2 + r)) q v) ∧ fl' = fl)) := by
  refine gm_met (by decide) (Nat.le_of_ble_eq_true rfl) (fun p e s m below meth c ls hx hb hml hr hlk hnm hown hW X hl => ?_)
  have hl : lv_has ls 5 [(0, .ref (E.2.1 + 0)), (1, .int (nI r)), (2, .int (nI q)), (3, .long v)] := hl
  refine lv_iload_n hx hb d_Ben_set_0 rfl (lv_at hl 1 rfl) ?_
  refine gm_Sv hx hb hml hown hW X (n_Ben_needNumber l E _ ⟨r, h_r, rfl⟩) (n := 1) ⟨⟨wl_Ben_111, ws_Ben_needNumber, winit_Ben, wc_Ben_needNumber⟩, by decide +kernel, Nat.le_of_ble_eq_true rfl, Nat.le_of_ble_eq_true rfl⟩ rfl hl.1 rfl (Nat.le_of_ble_eq_true rfl) d_Ben_set_1 ⟨Nat.le_of_ble_eq_true rfl, Nat.le_of_ble_eq_true rfl⟩ (fun M1 H locs hp X => ?_)
  rw [hp] at X
  refine lv_iload_n hx hb d_Ben_set_4 rfl (lv_at hl 2 rfl) ?_
  refine gm_Sv hx hb hml hown hW X (n_Ben_needPart l E _ ⟨q, h_q, rfl⟩) (n := 1) ⟨⟨wl_Ben_115, ws_Ben_needPart, winit_Ben, wc_Ben_needPart⟩, by decide +kernel, Nat.le_of_ble_eq_true rfl, Nat.le_of_ble_eq_true rfl⟩ rfl hl.1 rfl (Nat.le_of_ble_eq_true rfl) d_Ben_set_5 ⟨Nat.le_of_ble_eq_true rfl, Nat.le_of_ble_eq_true rfl⟩ (fun M1 H locs hp X => ?_)
  rw [hp] at X
  refine gm_wid (k := 2) (n := 12) (by decide) (by decide) ?_
  exact bd_Ben_set hx hb hml hown hW hg hk hn h_r h_q X hl (fun z H locs ls ρ1 fl1 dz X hp => gm_vret hx hb hr hlk X ⟨ρ1, fl1, rfl, hp⟩ dz)
set_option maxHeartbeats 4000000 in
theorem g_Ben_get {F G : Type} [Lean.Grind.CommRing F] [Lean.Grind.CommRing G] {φ : Int → F} {inv : F → F} {ψ : Int → G} (l : Launch) (E : gm_E) (ad : Nat → Nat) (N : gm_M) (ρ : Nat → Nat → Int64) (fl : Nat → Int32) (hg : gE E ad) (hk : fk φ inv) (hn : fm ψ nN) {a : Nat} (h_a : a < 8) {q : Nat} (h_q : q < 4) : cl_ l y_Ben_get b_Ben_get 3 (some .long) { frames := 7, cells := 2, slots := 12, locals := 120 } E (cW E ad N ρ fl) [.ref (E.2.1 + 0), .int (nI a), .int (nI q)] (fun r M' => ∃ ρ' fl', M' = cW E ad N ρ' fl' ∧ (r = ρ (2 + a) q ∧ ρ' = ρ ∧ fl' = fl)) := by
  refine gm_met (by decide) (Nat.le_of_ble_eq_true rfl) (fun p e s m below meth c ls hx hb hml hr hlk hnm hown hW X hl => ?_)
  have hl : lv_has ls 3 [(0, .ref (E.2.1 + 0)), (1, .int (nI a)), (2, .int (nI q))] := hl
  refine lv_iload_n hx hb d_Ben_get_0 rfl (lv_at hl 1 rfl) ?_
  refine gm_Sv hx hb hml hown hW X (n_Ben_needNumber l E _ ⟨a, h_a, rfl⟩) (n := 1) ⟨⟨wl_Ben_111, ws_Ben_needNumber, winit_Ben, wc_Ben_needNumber⟩, by decide +kernel, Nat.le_of_ble_eq_true rfl, Nat.le_of_ble_eq_true rfl⟩ rfl hl.1 rfl (Nat.le_of_ble_eq_true rfl) d_Ben_get_1 ⟨Nat.le_of_ble_eq_true rfl, Nat.le_of_ble_eq_true rfl⟩ (fun M1 H locs hp X => ?_)
  rw [hp] at X
  refine lv_iload_n hx hb d_Ben_get_4 rfl (lv_at hl 2 rfl) ?_
  refine gm_Sv hx hb hml hown hW X (n_Ben_needPart l E _ ⟨q, h_q, rfl⟩) (n := 1) ⟨⟨wl_Ben_115, ws_Ben_needPart, winit_Ben, wc_Ben_needPart⟩, by decide +kernel, Nat.le_of_ble_eq_true rfl, Nat.le_of_ble_eq_true rfl⟩ rfl hl.1 rfl (Nat.le_of_ble_eq_true rfl) d_Ben_get_5 ⟨Nat.le_of_ble_eq_true rfl, Nat.le_of_ble_eq_true rfl⟩ (fun M1 H locs hp X => ?_)
  rw [hp] at X
  refine gm_wid (k := 2) (n := 12) (by decide) (by decide) ?_
  exact bd_Ben_get hx hb hml hown hW hg hk hn h_a h_q X hl (fun z H locs ls ρ1 fl1 r dz X hp => gm_lret hx hb hr hlk X ⟨ρ1, fl1, rfl, hp⟩ dz)
set_option maxHeartbeats 4000000 in
theorem g_Ben_compare {F G : Type} [Lean.Grind.CommRing F] [Lean.Grind.CommRing G] {φ : Int → F} {inv : F → F} {ψ : Int → G} (l : Launch) (E : gm_E) (ad : Nat → Nat) (N : gm_M) (ρ : Nat → Nat → Int64) (fl : Nat → Int32) (hg : gE E ad) (hk : fk φ inv) (hn : fm ψ nN) {a : Nat} (h_a : a < 8) {b : Nat} (h_b : b < 8) : ci_ l y_Ben_compare b_Ben_compare 3 (some .int) { frames := 7, cells := 2, slots := 12, locals := 120 } E (cW E ad N ρ fl) [.ref (E.2.1 + 0), .int (nI a), .int (nI b)] (fun r M' => ∃ ρ' fl', M' = cW E ad N ρ' fl' ∧ (r = cmN (NV (ρ (2 + a))) (NV (ρ (2 + b))) ∧ ρ' = ρ ∧ fl' = fl)) := by
  refine gm_met (by decide) (Nat.le_of_ble_eq_true rfl) (fun p e s m below meth c ls hx hb hml hr hlk hnm hown hW X hl => ?_)
  have hl : lv_has ls 3 [(0, .ref (E.2.1 + 0)), (1, .int (nI a)), (2, .int (nI b))] := hl
  refine lv_iload_n hx hb d_Ben_compare_0 rfl (lv_at hl 1 rfl) ?_
  refine gm_Sv hx hb hml hown hW X (n_Ben_needNumber l E _ ⟨a, h_a, rfl⟩) (n := 1) ⟨⟨wl_Ben_111, ws_Ben_needNumber, winit_Ben, wc_Ben_needNumber⟩, by decide +kernel, Nat.le_of_ble_eq_true rfl, Nat.le_of_ble_eq_true rfl⟩ rfl hl.1 rfl (Nat.le_of_ble_eq_true rfl) d_Ben_compare_1 ⟨Nat.le_of_ble_eq_true rfl, Nat.le_of_ble_eq_true rfl⟩ (fun M1 H locs hp X => ?_)
  rw [hp] at X
  refine lv_iload_n hx hb d_Ben_compare_4 rfl (lv_at hl 2 rfl) ?_
  refine gm_Sv hx hb hml hown hW X (n_Ben_needNumber l E _ ⟨b, h_b, rfl⟩) (n := 1) ⟨⟨wl_Ben_111, ws_Ben_needNumber, winit_Ben, wc_Ben_needNumber⟩, by decide +kernel, Nat.le_of_ble_eq_true rfl, Nat.le_of_ble_eq_true rfl⟩ rfl hl.1 rfl (Nat.le_of_ble_eq_true rfl) d_Ben_compare_5 ⟨Nat.le_of_ble_eq_true rfl, Nat.le_of_ble_eq_true rfl⟩ (fun M1 H locs hp X => ?_)
  rw [hp] at X
  refine gm_wid (k := 2) (n := 12) (by decide) (by decide) ?_
  exact bd_Ben_compare hx hb hml hown hW hg hk hn h_a h_b X hl (fun z H locs ls ρ1 fl1 r dz X hp => gm_iret hx hb hr hlk X ⟨ρ1, fl1, rfl, hp⟩ dz)
set_option maxHeartbeats 4000000 in
theorem g_Ben_work_0 {F G : Type} [Lean.Grind.CommRing F] [Lean.Grind.CommRing G] {φ : Int → F} {inv : F → F} {ψ : Int → G} (l : Launch) (E : gm_E) (ad : Nat → Nat) (N : gm_M) (ρ : Nat → Nat → Int64) (fl : Nat → Int32) (hg : gE E ad) (hk : fk φ inv) (hn : fm ψ nN) {t : Nat} (h_t : t < 8) {a : Nat} (h_a : a < 8) {b : Nat} (h_b : b < 8) : ci_ l y_Ben_work b_Ben_work 7 (some .boolean) { frames := 7, cells := 4, slots := 24, locals := 153 } E (cW E ad N ρ fl) [.ref (E.2.1 + 0), .int 0, .int (nI t), .int (nI a), .int (nI b)] (fun r M' => ∃ ρ' fl', M' = cW E ad N ρ' fl' ∧ ((r = 0 ∧ ¬ wkOK 0 nP (NV (ρ (2 + a))) (NV (ρ (2 + b))) ∧ kNu 0 0 ρ ρ' fl fl') ∨ (r = 1 ∧ wkOK 0 nP (NV (ρ (2 + a))) (NV (ρ (2 + b))) ∧ NV (ρ' (2 + t)) = rp φ nP (wkV φ 0 (NV sP2) (NV (ρ (2 + a))) (NV (ρ (2 + b)))) ∧ kNu (2 + t) 0 ρ ρ' fl fl'))) := by
  refine gm_met (by decide) (Nat.le_of_ble_eq_true rfl) (fun p e s m below meth c ls hx hb hml hr hlk hnm hown hW X hl => ?_)
  have hl : lv_has ls 7 [(0, .ref (E.2.1 + 0)), (1, .int 0), (2, .int (nI t)), (3, .int (nI a)), (4, .int (nI b))] := hl
  refine lv_iload_n hx hb d_Ben_work_0 rfl (lv_at hl 1 rfl) ?_
  refine gm_Sv hx hb hml hown hW X (n_Ben_needWork l E _ ⟨0, by decide, by decide⟩) (n := 1) ⟨⟨wl_Ben_123, ws_Ben_needWork, winit_Ben, wc_Ben_needWork⟩, by decide +kernel, Nat.le_of_ble_eq_true rfl, Nat.le_of_ble_eq_true rfl⟩ rfl hl.1 rfl (Nat.le_of_ble_eq_true rfl) d_Ben_work_1 ⟨Nat.le_of_ble_eq_true rfl, Nat.le_of_ble_eq_true rfl⟩ (fun M1 H locs hp X => ?_)
  rw [hp] at X
  refine lv_iload_n hx hb d_Ben_work_4 rfl (lv_at hl 2 rfl) ?_
  refine gm_Sv hx hb hml hown hW X (n_Ben_needNumber l E _ ⟨t, h_t, rfl⟩) (n := 1) ⟨⟨wl_Ben_111, ws_Ben_needNumber, winit_Ben, wc_Ben_needNumber⟩, by decide +kernel, Nat.le_of_ble_eq_true rfl, Nat.le_of_ble_eq_true rfl⟩ rfl hl.1 rfl (Nat.le_of_ble_eq_true rfl) d_Ben_work_5 ⟨Nat.le_of_ble_eq_true rfl, Nat.le_of_ble_eq_true rfl⟩ (fun M1 H locs hp X => ?_)
  rw [hp] at X
  refine lv_iload_n hx hb d_Ben_work_8 rfl (lv_at hl 3 rfl) ?_
  refine gm_Sv hx hb hml hown hW X (n_Ben_needNumber l E _ ⟨a, h_a, rfl⟩) (n := 1) ⟨⟨wl_Ben_111, ws_Ben_needNumber, winit_Ben, wc_Ben_needNumber⟩, by decide +kernel, Nat.le_of_ble_eq_true rfl, Nat.le_of_ble_eq_true rfl⟩ rfl hl.1 rfl (Nat.le_of_ble_eq_true rfl) d_Ben_work_9 ⟨Nat.le_of_ble_eq_true rfl, Nat.le_of_ble_eq_true rfl⟩ (fun M1 H locs hp X => ?_)
  rw [hp] at X
  refine lv_iload hx hb d_Ben_work_12 (lv_at hl 4 rfl) ?_
  refine gm_Sv hx hb hml hown hW X (n_Ben_needNumber l E _ ⟨b, h_b, rfl⟩) (n := 1) ⟨⟨wl_Ben_111, ws_Ben_needNumber, winit_Ben, wc_Ben_needNumber⟩, by decide +kernel, Nat.le_of_ble_eq_true rfl, Nat.le_of_ble_eq_true rfl⟩ rfl hl.1 rfl (Nat.le_of_ble_eq_true rfl) d_Ben_work_14 ⟨Nat.le_of_ble_eq_true rfl, Nat.le_of_ble_eq_true rfl⟩ (fun M1 H locs hp X => ?_)
  rw [hp] at X
  refine gm_wid (k := 4) (n := 24) (by decide) (by decide) ?_
  exact bd_Ben_work_0 hx hb hml hown hW hg hk hn h_t h_a h_b X hl (fun z H locs ls ρ1 fl1 r dz X hp => gm_zret hx hb hr hlk X (by first | (rcases hp with h9 | h9 <;> (obtain ⟨h9, -⟩ := h9; subst h9; rfl)) | (rcases hp.1 with h9 | h9 <;> (obtain ⟨h9, -⟩ := h9; subst h9; rfl))) ⟨ρ1, fl1, rfl, hp⟩ dz)
set_option maxHeartbeats 4000000 in
theorem g_Ben_work_1 {F G : Type} [Lean.Grind.CommRing F] [Lean.Grind.CommRing G] {φ : Int → F} {inv : F → F} {ψ : Int → G} (l : Launch) (E : gm_E) (ad : Nat → Nat) (N : gm_M) (ρ : Nat → Nat → Int64) (fl : Nat → Int32) (hg : gE E ad) (hk : fk φ inv) (hn : fm ψ nN) {t : Nat} (h_t : t < 8) {a : Nat} (h_a : a < 8) {b : Nat} (h_b : b < 8) : ci_ l y_Ben_work b_Ben_work 7 (some .boolean) { frames := 7, cells := 4, slots := 24, locals := 153 } E (cW E ad N ρ fl) [.ref (E.2.1 + 0), .int 1, .int (nI t), .int (nI a), .int (nI b)] (fun r M' => ∃ ρ' fl', M' = cW E ad N ρ' fl' ∧ ((r = 0 ∧ ¬ wkOK 1 nP (NV (ρ (2 + a))) (NV (ρ (2 + b))) ∧ kNu 0 0 ρ ρ' fl fl') ∨ (r = 1 ∧ wkOK 1 nP (NV (ρ (2 + a))) (NV (ρ (2 + b))) ∧ NV (ρ' (2 + t)) = rp φ nP (wkV φ 1 (NV sP2) (NV (ρ (2 + a))) (NV (ρ (2 + b)))) ∧ kNu (2 + t) 0 ρ ρ' fl fl'))) := by
  refine gm_met (by decide) (Nat.le_of_ble_eq_true rfl) (fun p e s m below meth c ls hx hb hml hr hlk hnm hown hW X hl => ?_)
  have hl : lv_has ls 7 [(0, .ref (E.2.1 + 0)), (1, .int 1), (2, .int (nI t)), (3, .int (nI a)), (4, .int (nI b))] := hl
  refine lv_iload_n hx hb d_Ben_work_0 rfl (lv_at hl 1 rfl) ?_
  refine gm_Sv hx hb hml hown hW X (n_Ben_needWork l E _ ⟨1, by decide, by decide⟩) (n := 1) ⟨⟨wl_Ben_123, ws_Ben_needWork, winit_Ben, wc_Ben_needWork⟩, by decide +kernel, Nat.le_of_ble_eq_true rfl, Nat.le_of_ble_eq_true rfl⟩ rfl hl.1 rfl (Nat.le_of_ble_eq_true rfl) d_Ben_work_1 ⟨Nat.le_of_ble_eq_true rfl, Nat.le_of_ble_eq_true rfl⟩ (fun M1 H locs hp X => ?_)
  rw [hp] at X
  refine lv_iload_n hx hb d_Ben_work_4 rfl (lv_at hl 2 rfl) ?_
  refine gm_Sv hx hb hml hown hW X (n_Ben_needNumber l E _ ⟨t, h_t, rfl⟩) (n := 1) ⟨⟨wl_Ben_111, ws_Ben_needNumber, winit_Ben, wc_Ben_needNumber⟩, by decide +kernel, Nat.le_of_ble_eq_true rfl, Nat.le_of_ble_eq_true rfl⟩ rfl hl.1 rfl (Nat.le_of_ble_eq_true rfl) d_Ben_work_5 ⟨Nat.le_of_ble_eq_true rfl, Nat.le_of_ble_eq_true rfl⟩ (fun M1 H locs hp X => ?_)
  rw [hp] at X
  refine lv_iload_n hx hb d_Ben_work_8 rfl (lv_at hl 3 rfl) ?_
  refine gm_Sv hx hb hml hown hW X (n_Ben_needNumber l E _ ⟨a, h_a, rfl⟩) (n := 1) ⟨⟨wl_Ben_111, ws_Ben_needNumber, winit_Ben, wc_Ben_needNumber⟩, by decide +kernel, Nat.le_of_ble_eq_true rfl, Nat.le_of_ble_eq_true rfl⟩ rfl hl.1 rfl (Nat.le_of_ble_eq_true rfl) d_Ben_work_9 ⟨Nat.le_of_ble_eq_true rfl, Nat.le_of_ble_eq_true rfl⟩ (fun M1 H locs hp X => ?_)
  rw [hp] at X
  refine lv_iload hx hb d_Ben_work_12 (lv_at hl 4 rfl) ?_
  refine gm_Sv hx hb hml hown hW X (n_Ben_needNumber l E _ ⟨b, h_b, rfl⟩) (n := 1) ⟨⟨wl_Ben_111, ws_Ben_needNumber, winit_Ben, wc_Ben_needNumber⟩, by decide +kernel, Nat.le_of_ble_eq_true rfl, Nat.le_of_ble_eq_true rfl⟩ rfl hl.1 rfl (Nat.le_of_ble_eq_true rfl) d_Ben_work_14 ⟨Nat.le_of_ble_eq_true rfl, Nat.le_of_ble_eq_true rfl⟩ (fun M1 H locs hp X => ?_)
  rw [hp] at X
  refine gm_wid (k := 4) (n := 24) (by decide) (by decide) ?_
  exact bd_Ben_work_1 hx hb hml hown hW hg hk hn h_t h_a h_b X hl (fun z H locs ls ρ1 fl1 r dz X hp => gm_zret hx hb hr hlk X (by first | (rcases hp with h9 | h9 <;> (obtain ⟨h9, -⟩ := h9; subst h9; rfl)) | (rcases hp.1 with h9 | h9 <;> (obtain ⟨h9, -⟩ := h9; subst h9; rfl))) ⟨ρ1, fl1, rfl, hp⟩ dz)
set_option maxHeartbeats 4000000 in
theorem g_Ben_work_2 {F G : Type} [Lean.Grind.CommRing F] [Lean.Grind.CommRing G] {φ : Int → F} {inv : F → F} {ψ : Int → G} (l : Launch) (E : gm_E) (ad : Nat → Nat) (N : gm_M) (ρ : Nat → Nat → Int64) (fl : Nat → Int32) (hg : gE E ad) (hk : fk φ inv) (hn : fm ψ nN) {t : Nat} (h_t : t < 8) {a : Nat} (h_a : a < 8) {b : Nat} (h_b : b < 8) : ci_ l y_Ben_work b_Ben_work 7 (some .boolean) { frames := 7, cells := 4, slots := 24, locals := 153 } E (cW E ad N ρ fl) [.ref (E.2.1 + 0), .int 2, .int (nI t), .int (nI a), .int (nI b)] (fun r M' => ∃ ρ' fl', M' = cW E ad N ρ' fl' ∧ ((r = 0 ∧ ¬ wkOK 2 nP (NV (ρ (2 + a))) (NV (ρ (2 + b))) ∧ kNu 0 0 ρ ρ' fl fl') ∨ (r = 1 ∧ wkOK 2 nP (NV (ρ (2 + a))) (NV (ρ (2 + b))) ∧ NV (ρ' (2 + t)) = rp φ nP (wkV φ 2 (NV sP2) (NV (ρ (2 + a))) (NV (ρ (2 + b)))) ∧ kNu (2 + t) 0 ρ ρ' fl fl'))) := by
  refine gm_met (by decide) (Nat.le_of_ble_eq_true rfl) (fun p e s m below meth c ls hx hb hml hr hlk hnm hown hW X hl => ?_)
  have hl : lv_has ls 7 [(0, .ref (E.2.1 + 0)), (1, .int 2), (2, .int (nI t)), (3, .int (nI a)), (4, .int (nI b))] := hl
  refine lv_iload_n hx hb d_Ben_work_0 rfl (lv_at hl 1 rfl) ?_
  refine gm_Sv hx hb hml hown hW X (n_Ben_needWork l E _ ⟨2, by decide, by decide⟩) (n := 1) ⟨⟨wl_Ben_123, ws_Ben_needWork, winit_Ben, wc_Ben_needWork⟩, by decide +kernel, Nat.le_of_ble_eq_true rfl, Nat.le_of_ble_eq_true rfl⟩ rfl hl.1 rfl (Nat.le_of_ble_eq_true rfl) d_Ben_work_1 ⟨Nat.le_of_ble_eq_true rfl, Nat.le_of_ble_eq_true rfl⟩ (fun M1 H locs hp X => ?_)
  rw [hp] at X
  refine lv_iload_n hx hb d_Ben_work_4 rfl (lv_at hl 2 rfl) ?_
  refine gm_Sv hx hb hml hown hW X (n_Ben_needNumber l E _ ⟨t, h_t, rfl⟩) (n := 1) ⟨⟨wl_Ben_111, ws_Ben_needNumber, winit_Ben, wc_Ben_needNumber⟩, by decide +kernel, Nat.le_of_ble_eq_true rfl, Nat.le_of_ble_eq_true rfl⟩ rfl hl.1 rfl (Nat.le_of_ble_eq_true rfl) d_Ben_work_5 ⟨Nat.le_of_ble_eq_true rfl, Nat.le_of_ble_eq_true rfl⟩ (fun M1 H locs hp X => ?_)
  rw [hp] at X
  refine lv_iload_n hx hb d_Ben_work_8 rfl (lv_at hl 3 rfl) ?_
  refine gm_Sv hx hb hml hown hW X (n_Ben_needNumber l E _ ⟨a, h_a, rfl⟩) (n := 1) ⟨⟨wl_Ben_111, ws_Ben_needNumber, winit_Ben, wc_Ben_needNumber⟩, by decide +kernel, Nat.le_of_ble_eq_true rfl, Nat.le_of_ble_eq_true rfl⟩ rfl hl.1 rfl (Nat.le_of_ble_eq_true rfl) d_Ben_work_9 ⟨Nat.le_of_ble_eq_true rfl, Nat.le_of_ble_eq_true rfl⟩ (fun M1 H locs hp X => ?_)
  rw [hp] at X
  refine lv_iload hx hb d_Ben_work_12 (lv_at hl 4 rfl) ?_
  refine gm_Sv hx hb hml hown hW X (n_Ben_needNumber l E _ ⟨b, h_b, rfl⟩) (n := 1) ⟨⟨wl_Ben_111, ws_Ben_needNumber, winit_Ben, wc_Ben_needNumber⟩, by decide +kernel, Nat.le_of_ble_eq_true rfl, Nat.le_of_ble_eq_true rfl⟩ rfl hl.1 rfl (Nat.le_of_ble_eq_true rfl) d_Ben_work_14 ⟨Nat.le_of_ble_eq_true rfl, Nat.le_of_ble_eq_true rfl⟩ (fun M1 H locs hp X => ?_)
  rw [hp] at X
  refine gm_wid (k := 4) (n := 24) (by decide) (by decide) ?_
  exact bd_Ben_work_2 hx hb hml hown hW hg hk hn h_t h_a h_b X hl (fun z H locs ls ρ1 fl1 r dz X hp => gm_zret hx hb hr hlk X (by first | (rcases hp with h9 | h9 <;> (obtain ⟨h9, -⟩ := h9; subst h9; rfl)) | (rcases hp.1 with h9 | h9 <;> (obtain ⟨h9, -⟩ := h9; subst h9; rfl))) ⟨ρ1, fl1, rfl, hp⟩ dz)
set_option maxHeartbeats 4000000 in
theorem g_Ben_work_3 {F G : Type} [Lean.Grind.CommRing F] [Lean.Grind.CommRing G] {φ : Int → F} {inv : F → F} {ψ : Int → G} (l : Launch) (E : gm_E) (ad : Nat → Nat) (N : gm_M) (ρ : Nat → Nat → Int64) (fl : Nat → Int32) (hg : gE E ad) (hk : fk φ inv) (hn : fm ψ nN) {t : Nat} (h_t : t < 8) {a : Nat} (h_a : a < 8) {b : Nat} (h_b : b < 8) : ci_ l y_Ben_work b_Ben_work 7 (some .boolean) { frames := 7, cells := 4, slots := 24, locals := 153 } E (cW E ad N ρ fl) [.ref (E.2.1 + 0), .int 3, .int (nI t), .int (nI a), .int (nI b)] (fun r M' => ∃ ρ' fl', M' = cW E ad N ρ' fl' ∧ ((r = 0 ∧ ¬ wkOK 3 nP (NV (ρ (2 + a))) (NV (ρ (2 + b))) ∧ kNu 0 0 ρ ρ' fl fl') ∨ (r = 1 ∧ wkOK 3 nP (NV (ρ (2 + a))) (NV (ρ (2 + b))) ∧ NV (ρ' (2 + t)) = rp φ nP (wkV φ 3 (NV sP2) (NV (ρ (2 + a))) (NV (ρ (2 + b)))) ∧ kNu (2 + t) 0 ρ ρ' fl fl'))) := by
  refine gm_met (by decide) (Nat.le_of_ble_eq_true rfl) (fun p e s m below meth c ls hx hb hml hr hlk hnm hown hW X hl => ?_)
  have hl : lv_has ls 7 [(0, .ref (E.2.1 + 0)), (1, .int 3), (2, .int (nI t)), (3, .int (nI a)), (4, .int (nI b))] := hl
  refine lv_iload_n hx hb d_Ben_work_0 rfl (lv_at hl 1 rfl) ?_
  refine gm_Sv hx hb hml hown hW X (n_Ben_needWork l E _ ⟨3, by decide, by decide⟩) (n := 1) ⟨⟨wl_Ben_123, ws_Ben_needWork, winit_Ben, wc_Ben_needWork⟩, by decide +kernel, Nat.le_of_ble_eq_true rfl, Nat.le_of_ble_eq_true rfl⟩ rfl hl.1 rfl (Nat.le_of_ble_eq_true rfl) d_Ben_work_1 ⟨Nat.le_of_ble_eq_true rfl, Nat.le_of_ble_eq_true rfl⟩ (fun M1 H locs hp X => ?_)
  rw [hp] at X
  refine lv_iload_n hx hb d_Ben_work_4 rfl (lv_at hl 2 rfl) ?_
  refine gm_Sv hx hb hml hown hW X (n_Ben_needNumber l E _ ⟨t, h_t, rfl⟩) (n := 1) ⟨⟨wl_Ben_111, ws_Ben_needNumber, winit_Ben, wc_Ben_needNumber⟩, by decide +kernel, Nat.le_of_ble_eq_true rfl, Nat.le_of_ble_eq_true rfl⟩ rfl hl.1 rfl (Nat.le_of_ble_eq_true rfl) d_Ben_work_5 ⟨Nat.le_of_ble_eq_true rfl, Nat.le_of_ble_eq_true rfl⟩ (fun M1 H locs hp X => ?_)
  rw [hp] at X
  refine lv_iload_n hx hb d_Ben_work_8 rfl (lv_at hl 3 rfl) ?_
  refine gm_Sv hx hb hml hown hW X (n_Ben_needNumber l E _ ⟨a, h_a, rfl⟩) (n := 1) ⟨⟨wl_Ben_111, ws_Ben_needNumber, winit_Ben, wc_Ben_needNumber⟩, by decide +kernel, Nat.le_of_ble_eq_true rfl, Nat.le_of_ble_eq_true rfl⟩ rfl hl.1 rfl (Nat.le_of_ble_eq_true rfl) d_Ben_work_9 ⟨Nat.le_of_ble_eq_true rfl, Nat.le_of_ble_eq_true rfl⟩ (fun M1 H locs hp X => ?_)
  rw [hp] at X
  refine lv_iload hx hb d_Ben_work_12 (lv_at hl 4 rfl) ?_
  refine gm_Sv hx hb hml hown hW X (n_Ben_needNumber l E _ ⟨b, h_b, rfl⟩) (n := 1) ⟨⟨wl_Ben_111, ws_Ben_needNumber, winit_Ben, wc_Ben_needNumber⟩, by decide +kernel, Nat.le_of_ble_eq_true rfl, Nat.le_of_ble_eq_true rfl⟩ rfl hl.1 rfl (Nat.le_of_ble_eq_true rfl) d_Ben_work_14 ⟨Nat.le_of_ble_eq_true rfl, Nat.le_of_ble_eq_true rfl⟩ (fun M1 H locs hp X => ?_)
  rw [hp] at X
  refine gm_wid (k := 4) (n := 24) (by decide) (by decide) ?_
  exact bd_Ben_work_3 hx hb hml hown hW hg hk hn h_t h_a h_b X hl (fun z H locs ls ρ1 fl1 r dz X hp => gm_zret hx hb hr hlk X (by first | (rcases hp with h9 | h9 <;> (obtain ⟨h9, -⟩ := h9; subst h9; rfl)) | (rcases hp.1 with h9 | h9 <;> (obtain ⟨h9, -⟩ := h9; subst h9; rfl))) ⟨ρ1, fl1, rfl, hp⟩ dz)
set_option maxHeartbeats 4000000 in
theorem g_Ben_work_4 {F G : Type} [Lean.Grind.CommRing F] [Lean.Grind.CommRing G] {φ : Int → F} {inv : F → F} {ψ : Int → G} (l : Launch) (E : gm_E) (ad : Nat → Nat) (N : gm_M) (ρ : Nat → Nat → Int64) (fl : Nat → Int32) (hg : gE E ad) (hk : fk φ inv) (hn : fm ψ nN) {t : Nat} (h_t : t < 8) {a : Nat} (h_a : a < 8) {b : Nat} (h_b : b < 8) : ci_ l y_Ben_work b_Ben_work 7 (some .boolean) { frames := 7, cells := 4, slots := 24, locals := 153 } E (cW E ad N ρ fl) [.ref (E.2.1 + 0), .int 4, .int (nI t), .int (nI a), .int (nI b)] (fun r M' => ∃ ρ' fl', M' = cW E ad N ρ' fl' ∧ ((r = 0 ∧ ¬ wkOK 0 nN (NV (ρ (2 + a))) (NV (ρ (2 + b))) ∧ kNu 0 0 ρ ρ' fl fl') ∨ (r = 1 ∧ wkOK 0 nN (NV (ρ (2 + a))) (NV (ρ (2 + b))) ∧ NV (ρ' (2 + t)) = rp ψ nN (wkV ψ 0 (NV sN2) (NV (ρ (2 + a))) (NV (ρ (2 + b)))) ∧ kNu (2 + t) 0 ρ ρ' fl fl'))) := by
  refine gm_met (by decide) (Nat.le_of_ble_eq_true rfl) (fun p e s m below meth c ls hx hb hml hr hlk hnm hown hW X hl => ?_)
  have hl : lv_has ls 7 [(0, .ref (E.2.1 + 0)), (1, .int 4), (2, .int (nI t)), (3, .int (nI a)), (4, .int (nI b))] := hl
  refine lv_iload_n hx hb d_Ben_work_0 rfl (lv_at hl 1 rfl) ?_
  refine gm_Sv hx hb hml hown hW X (n_Ben_needWork l E _ ⟨4, by decide, by decide⟩) (n := 1) ⟨⟨wl_Ben_123, ws_Ben_needWork, winit_Ben, wc_Ben_needWork⟩, by decide +kernel, Nat.le_of_ble_eq_true rfl, Nat.le_of_ble_eq_true rfl⟩ rfl hl.1 rfl (Nat.le_of_ble_eq_true rfl) d_Ben_work_1 ⟨Nat.le_of_ble_eq_true rfl, Nat.le_of_ble_eq_true rfl⟩ (fun M1 H locs hp X => ?_)
  rw [hp] at X
  refine lv_iload_n hx hb d_Ben_work_4 rfl (lv_at hl 2 rfl) ?_
  refine gm_Sv hx hb hml hown hW X (n_Ben_needNumber l E _ ⟨t, h_t, rfl⟩) (n := 1) ⟨⟨wl_Ben_111, ws_Ben_needNumber, winit_Ben, wc_Ben_needNumber⟩, by decide +kernel, Nat.le_of_ble_eq_true rfl, Nat.le_of_ble_eq_true rfl⟩ rfl hl.1 rfl (Nat.le_of_ble_eq_true rfl) d_Ben_work_5 ⟨Nat.le_of_ble_eq_true rfl, Nat.le_of_ble_eq_true rfl⟩ (fun M1 H locs hp X => ?_)
  rw [hp] at X
  refine lv_iload_n hx hb d_Ben_work_8 rfl (lv_at hl 3 rfl) ?_
  refine gm_Sv hx hb hml hown hW X (n_Ben_needNumber l E _ ⟨a, h_a, rfl⟩) (n := 1) ⟨⟨wl_Ben_111, ws_Ben_needNumber, winit_Ben, wc_Ben_needNumber⟩, by decide +kernel, Nat.le_of_ble_eq_true rfl, Nat.le_of_ble_eq_true rfl⟩ rfl hl.1 rfl (Nat.le_of_ble_eq_true rfl) d_Ben_work_9 ⟨Nat.le_of_ble_eq_true rfl, Nat.le_of_ble_eq_true rfl⟩ (fun M1 H locs hp X => ?_)
  rw [hp] at X
  refine lv_iload hx hb d_Ben_work_12 (lv_at hl 4 rfl) ?_
  refine gm_Sv hx hb hml hown hW X (n_Ben_needNumber l E _ ⟨b, h_b, rfl⟩) (n := 1) ⟨⟨wl_Ben_111, ws_Ben_needNumber, winit_Ben, wc_Ben_needNumber⟩, by decide +kernel, Nat.le_of_ble_eq_true rfl, Nat.le_of_ble_eq_true rfl⟩ rfl hl.1 rfl (Nat.le_of_ble_eq_true rfl) d_Ben_work_14 ⟨Nat.le_of_ble_eq_true rfl, Nat.le_of_ble_eq_true rfl⟩ (fun M1 H locs hp X => ?_)
  rw [hp] at X
  refine gm_wid (k := 4) (n := 24) (by decide) (by decide) ?_
  exact bd_Ben_work_4 hx hb hml hown hW hg hk hn h_t h_a h_b X hl (fun z H locs ls ρ1 fl1 r dz X hp => gm_zret hx hb hr hlk X (by first | (rcases hp with h9 | h9 <;> (obtain ⟨h9, -⟩ := h9; subst h9; rfl)) | (rcases hp.1 with h9 | h9 <;> (obtain ⟨h9, -⟩ := h9; subst h9; rfl))) ⟨ρ1, fl1, rfl, hp⟩ dz)
set_option maxHeartbeats 4000000 in
theorem g_Ben_work_5 {F G : Type} [Lean.Grind.CommRing F] [Lean.Grind.CommRing G] {φ : Int → F} {inv : F → F} {ψ : Int → G} (l : Launch) (E : gm_E) (ad : Nat → Nat) (N : gm_M) (ρ : Nat → Nat → Int64) (fl : Nat → Int32) (hg : gE E ad) (hk : fk φ inv) (hn : fm ψ nN) {t : Nat} (h_t : t < 8) {a : Nat} (h_a : a < 8) {b : Nat} (h_b : b < 8) : ci_ l y_Ben_work b_Ben_work 7 (some .boolean) { frames := 7, cells := 4, slots := 24, locals := 153 } E (cW E ad N ρ fl) [.ref (E.2.1 + 0), .int 5, .int (nI t), .int (nI a), .int (nI b)] (fun r M' => ∃ ρ' fl', M' = cW E ad N ρ' fl' ∧ ((r = 0 ∧ ¬ wkOK 1 nN (NV (ρ (2 + a))) (NV (ρ (2 + b))) ∧ kNu 0 0 ρ ρ' fl fl') ∨ (r = 1 ∧ wkOK 1 nN (NV (ρ (2 + a))) (NV (ρ (2 + b))) ∧ NV (ρ' (2 + t)) = rp ψ nN (wkV ψ 1 (NV sN2) (NV (ρ (2 + a))) (NV (ρ (2 + b)))) ∧ kNu (2 + t) 0 ρ ρ' fl fl'))) := by
  refine gm_met (by decide) (Nat.le_of_ble_eq_true rfl) (fun p e s m below meth c ls hx hb hml hr hlk hnm hown hW X hl => ?_)
  have hl : lv_has ls 7 [(0, .ref (E.2.1 + 0)), (1, .int 5), (2, .int (nI t)), (3, .int (nI a)), (4, .int (nI b))] := hl
  refine lv_iload_n hx hb d_Ben_work_0 rfl (lv_at hl 1 rfl) ?_
  refine gm_Sv hx hb hml hown hW X (n_Ben_needWork l E _ ⟨5, by decide, by decide⟩) (n := 1) ⟨⟨wl_Ben_123, ws_Ben_needWork, winit_Ben, wc_Ben_needWork⟩, by decide +kernel, Nat.le_of_ble_eq_true rfl, Nat.le_of_ble_eq_true rfl⟩ rfl hl.1 rfl (Nat.le_of_ble_eq_true rfl) d_Ben_work_1 ⟨Nat.le_of_ble_eq_true rfl, Nat.le_of_ble_eq_true rfl⟩ (fun M1 H locs hp X => ?_)
  rw [hp] at X
  refine lv_iload_n hx hb d_Ben_work_4 rfl (lv_at hl 2 rfl) ?_
  refine gm_Sv hx hb hml hown hW X (n_Ben_needNumber l E _ ⟨t, h_t, rfl⟩) (n := 1) ⟨⟨wl_Ben_111, ws_Ben_needNumber, winit_Ben, wc_Ben_needNumber⟩, by decide +kernel, Nat.le_of_ble_eq_true rfl, Nat.le_of_ble_eq_true rfl⟩ rfl hl.1 rfl (Nat.le_of_ble_eq_true rfl) d_Ben_work_5 ⟨Nat.le_of_ble_eq_true rfl, Nat.le_of_ble_eq_true rfl⟩ (fun M1 H locs hp X => ?_)
  rw [hp] at X
  refine lv_iload_n hx hb d_Ben_work_8 rfl (lv_at hl 3 rfl) ?_
  refine gm_Sv hx hb hml hown hW X (n_Ben_needNumber l E _ ⟨a, h_a, rfl⟩) (n := 1) ⟨⟨wl_Ben_111, ws_Ben_needNumber, winit_Ben, wc_Ben_needNumber⟩, by decide +kernel, Nat.le_of_ble_eq_true rfl, Nat.le_of_ble_eq_true rfl⟩ rfl hl.1 rfl (Nat.le_of_ble_eq_true rfl) d_Ben_work_9 ⟨Nat.le_of_ble_eq_true rfl, Nat.le_of_ble_eq_true rfl⟩ (fun M1 H locs hp X => ?_)
  rw [hp] at X
  refine lv_iload hx hb d_Ben_work_12 (lv_at hl 4 rfl) ?_
  refine gm_Sv hx hb hml hown hW X (n_Ben_needNumber l E _ ⟨b, h_b, rfl⟩) (n := 1) ⟨⟨wl_Ben_111, ws_Ben_needNumber, winit_Ben, wc_Ben_needNumber⟩, by decide +kernel, Nat.le_of_ble_eq_true rfl, Nat.le_of_ble_eq_true rfl⟩ rfl hl.1 rfl (Nat.le_of_ble_eq_true rfl) d_Ben_work_14 ⟨Nat.le_of_ble_eq_true rfl, Nat.le_of_ble_eq_true rfl⟩ (fun M1 H locs hp X => ?_)
  rw [hp] at X
  refine gm_wid (k := 4) (n := 24) (by decide) (by decide) ?_
  exact bd_Ben_work_5 hx hb hml hown hW hg hk hn h_t h_a h_b X hl (fun z H locs ls ρ1 fl1 r dz X hp => gm_zret hx hb hr hlk X (by first | (rcases hp with h9 | h9 <;> (obtain ⟨h9, -⟩ := h9; subst h9; rfl)) | (rcases hp.1 with h9 | h9 <;> (obtain ⟨h9, -⟩ := h9; subst h9; rfl))) ⟨ρ1, fl1, rfl, hp⟩ dz)
set_option maxHeartbeats 4000000 in
theorem g_Ben_work_6 {F G : Type} [Lean.Grind.CommRing F] [Lean.Grind.CommRing G] {φ : Int → F} {inv : F → F} {ψ : Int → G} (l : Launch) (E : gm_E) (ad : Nat → Nat) (N : gm_M) (ρ : Nat → Nat → Int64) (fl : Nat → Int32) (hg : gE E ad) (hk : fk φ inv) (hn : fm ψ nN) {t : Nat} (h_t : t < 8) {a : Nat} (h_a : a < 8) {b : Nat} (h_b : b < 8) : ci_ l y_Ben_work b_Ben_work 7 (some .boolean) { frames := 7, cells := 4, slots := 24, locals := 153 } E (cW E ad N ρ fl) [.ref (E.2.1 + 0), .int 6, .int (nI t), .int (nI a), .int (nI b)] (fun r M' => ∃ ρ' fl', M' = cW E ad N ρ' fl' ∧ ((r = 0 ∧ ¬ wkOK 2 nN (NV (ρ (2 + a))) (NV (ρ (2 + b))) ∧ kNu 0 0 ρ ρ' fl fl') ∨ (r = 1 ∧ wkOK 2 nN (NV (ρ (2 + a))) (NV (ρ (2 + b))) ∧ NV (ρ' (2 + t)) = rp ψ nN (wkV ψ 2 (NV sN2) (NV (ρ (2 + a))) (NV (ρ (2 + b)))) ∧ kNu (2 + t) 0 ρ ρ' fl fl'))) := by
  refine gm_met (by decide) (Nat.le_of_ble_eq_true rfl) (fun p e s m below meth c ls hx hb hml hr hlk hnm hown hW X hl => ?_)
  have hl : lv_has ls 7 [(0, .ref (E.2.1 + 0)), (1, .int 6), (2, .int (nI t)), (3, .int (nI a)), (4, .int (nI b))] := hl
  refine lv_iload_n hx hb d_Ben_work_0 rfl (lv_at hl 1 rfl) ?_
  refine gm_Sv hx hb hml hown hW X (n_Ben_needWork l E _ ⟨6, by decide, by decide⟩) (n := 1) ⟨⟨wl_Ben_123, ws_Ben_needWork, winit_Ben, wc_Ben_needWork⟩, by decide +kernel, Nat.le_of_ble_eq_true rfl, Nat.le_of_ble_eq_true rfl⟩ rfl hl.1 rfl (Nat.le_of_ble_eq_true rfl) d_Ben_work_1 ⟨Nat.le_of_ble_eq_true rfl, Nat.le_of_ble_eq_true rfl⟩ (fun M1 H locs hp X => ?_)
  rw [hp] at X
  refine lv_iload_n hx hb d_Ben_work_4 rfl (lv_at hl 2 rfl) ?_
  refine gm_Sv hx hb hml hown hW X (n_Ben_needNumber l E _ ⟨t, h_t, rfl⟩) (n := 1) ⟨⟨wl_Ben_111, ws_Ben_needNumber, winit_Ben, wc_Ben_needNumber⟩, by decide +kernel, Nat.le_of_ble_eq_true rfl, Nat.le_of_ble_eq_true rfl⟩ rfl hl.1 rfl (Nat.le_of_ble_eq_true rfl) d_Ben_work_5 ⟨Nat.le_of_ble_eq_true rfl, Nat.le_of_ble_eq_true rfl⟩ (fun M1 H locs hp X => ?_)
  rw [hp] at X
  refine lv_iload_n hx hb d_Ben_work_8 rfl (lv_at hl 3 rfl) ?_
  refine gm_Sv hx hb hml hown hW X (n_Ben_needNumber l E _ ⟨a, h_a, rfl⟩) (n := 1) ⟨⟨wl_Ben_111, ws_Ben_needNumber, winit_Ben, wc_Ben_needNumber⟩, by decide +kernel, Nat.le_of_ble_eq_true rfl, Nat.le_of_ble_eq_true rfl⟩ rfl hl.1 rfl (Nat.le_of_ble_eq_true rfl) d_Ben_work_9 ⟨Nat.le_of_ble_eq_true rfl, Nat.le_of_ble_eq_true rfl⟩ (fun M1 H locs hp X => ?_)
  rw [hp] at X
  refine lv_iload hx hb d_Ben_work_12 (lv_at hl 4 rfl) ?_
  refine gm_Sv hx hb hml hown hW X (n_Ben_needNumber l E _ ⟨b, h_b, rfl⟩) (n := 1) ⟨⟨wl_Ben_111, ws_Ben_needNumber, winit_Ben, wc_Ben_needNumber⟩, by decide +kernel, Nat.le_of_ble_eq_true rfl, Nat.le_of_ble_eq_true rfl⟩ rfl hl.1 rfl (Nat.le_of_ble_eq_true rfl) d_Ben_work_14 ⟨Nat.le_of_ble_eq_true rfl, Nat.le_of_ble_eq_true rfl⟩ (fun M1 H locs hp X => ?_)
  rw [hp] at X
  refine gm_wid (k := 4) (n := 24) (by decide) (by decide) ?_
  exact bd_Ben_work_6 hx hb hml hown hW hg hk hn h_t h_a h_b X hl (fun z H locs ls ρ1 fl1 r dz X hp => gm_zret hx hb hr hlk X (by first | (rcases hp with h9 | h9 <;> (obtain ⟨h9, -⟩ := h9; subst h9; rfl)) | (rcases hp.1 with h9 | h9 <;> (obtain ⟨h9, -⟩ := h9; subst h9; rfl))) ⟨ρ1, fl1, rfl, hp⟩ dz)
set_option maxHeartbeats 4000000 in
theorem g_Ben_work_7 {F G : Type} [Lean.Grind.CommRing F] [Lean.Grind.CommRing G] {φ : Int → F} {inv : F → F} {ψ : Int → G} (l : Launch) (E : gm_E) (ad : Nat → Nat) (N : gm_M) (ρ : Nat → Nat → Int64) (fl : Nat → Int32) (hg : gE E ad) (hk : fk φ inv) (hn : fm ψ nN) {t : Nat} (h_t : t < 8) {a : Nat} (h_a : a < 8) {b : Nat} (h_b : b < 8) : ci_ l y_Ben_work b_Ben_work 7 (some .boolean) { frames := 7, cells := 4, slots := 24, locals := 153 } E (cW E ad N ρ fl) [.ref (E.2.1 + 0), .int 7, .int (nI t), .int (nI a), .int (nI b)] (fun r M' => ∃ ρ' fl', M' = cW E ad N ρ' fl' ∧ ((r = 0 ∧ ¬ wkOK 3 nN (NV (ρ (2 + a))) (NV (ρ (2 + b))) ∧ kNu 0 0 ρ ρ' fl fl') ∨ (r = 1 ∧ wkOK 3 nN (NV (ρ (2 + a))) (NV (ρ (2 + b))) ∧ NV (ρ' (2 + t)) = rp ψ nN (wkV ψ 3 (NV sN2) (NV (ρ (2 + a))) (NV (ρ (2 + b)))) ∧ kNu (2 + t) 0 ρ ρ' fl fl'))) := by
  refine gm_met (by decide) (Nat.le_of_ble_eq_true rfl) (fun p e s m below meth c ls hx hb hml hr hlk hnm hown hW X hl => ?_)
  have hl : lv_has ls 7 [(0, .ref (E.2.1 + 0)), (1, .int 7), (2, .int (nI t)), (3, .int (nI a)), (4, .int (nI b))] := hl
  refine lv_iload_n hx hb d_Ben_work_0 rfl (lv_at hl 1 rfl) ?_
  refine gm_Sv hx hb hml hown hW X (n_Ben_needWork l E _ ⟨7, by decide, by decide⟩) (n := 1) ⟨⟨wl_Ben_123, ws_Ben_needWork, winit_Ben, wc_Ben_needWork⟩, by decide +kernel, Nat.le_of_ble_eq_true rfl, Nat.le_of_ble_eq_true rfl⟩ rfl hl.1 rfl (Nat.le_of_ble_eq_true rfl) d_Ben_work_1 ⟨Nat.le_of_ble_eq_true rfl, Nat.le_of_ble_eq_true rfl⟩ (fun M1 H locs hp X => ?_)
  rw [hp] at X
  refine lv_iload_n hx hb d_Ben_work_4 rfl (lv_at hl 2 rfl) ?_
  refine gm_Sv hx hb hml hown hW X (n_Ben_needNumber l E _ ⟨t, h_t, rfl⟩) (n := 1) ⟨⟨wl_Ben_111, ws_Ben_needNumber, winit_Ben, wc_Ben_needNumber⟩, by decide +kernel, Nat.le_of_ble_eq_true rfl, Nat.le_of_ble_eq_true rfl⟩ rfl hl.1 rfl (Nat.le_of_ble_eq_true rfl) d_Ben_work_5 ⟨Nat.le_of_ble_eq_true rfl, Nat.le_of_ble_eq_true rfl⟩ (fun M1 H locs hp X => ?_)
  rw [hp] at X
  refine lv_iload_n hx hb d_Ben_work_8 rfl (lv_at hl 3 rfl) ?_
  refine gm_Sv hx hb hml hown hW X (n_Ben_needNumber l E _ ⟨a, h_a, rfl⟩) (n := 1) ⟨⟨wl_Ben_111, ws_Ben_needNumber, winit_Ben, wc_Ben_needNumber⟩, by decide +kernel, Nat.le_of_ble_eq_true rfl, Nat.le_of_ble_eq_true rfl⟩ rfl hl.1 rfl (Nat.le_of_ble_eq_true rfl) d_Ben_work_9 ⟨Nat.le_of_ble_eq_true rfl, Nat.le_of_ble_eq_true rfl⟩ (fun M1 H locs hp X => ?_)
  rw [hp] at X
  refine lv_iload hx hb d_Ben_work_12 (lv_at hl 4 rfl) ?_
  refine gm_Sv hx hb hml hown hW X (n_Ben_needNumber l E _ ⟨b, h_b, rfl⟩) (n := 1) ⟨⟨wl_Ben_111, ws_Ben_needNumber, winit_Ben, wc_Ben_needNumber⟩, by decide +kernel, Nat.le_of_ble_eq_true rfl, Nat.le_of_ble_eq_true rfl⟩ rfl hl.1 rfl (Nat.le_of_ble_eq_true rfl) d_Ben_work_14 ⟨Nat.le_of_ble_eq_true rfl, Nat.le_of_ble_eq_true rfl⟩ (fun M1 H locs hp X => ?_)
  rw [hp] at X
  refine gm_wid (k := 4) (n := 24) (by decide) (by decide) ?_
  exact bd_Ben_work_7 hx hb hml hown hW hg hk hn h_t h_a h_b X hl (fun z H locs ls ρ1 fl1 r dz X hp => gm_zret hx hb hr hlk X (by first | (rcases hp with h9 | h9 <;> (obtain ⟨h9, -⟩ := h9; subst h9; rfl)) | (rcases hp.1 with h9 | h9 <;> (obtain ⟨h9, -⟩ := h9; subst h9; rfl))) ⟨ρ1, fl1, rfl, hp⟩ dz)
set_option maxHeartbeats 4000000 in
theorem g_Ben_base {F G : Type} [Lean.Grind.CommRing F] [Lean.Grind.CommRing G] {φ : Int → F} {inv : F → F} {ψ : Int → G} (l : Launch) (E : gm_E) (ad : Nat → Nat) (N : gm_M) (ρ : Nat → Nat → Int64) (fl : Nat → Int32) (hg : gE E ad) (hk : fk φ inv) (hn : fm ψ nN) {t : Nat} (h_t : t < 4) {g0 : F × F} (hG : ptR φ ρ fl 21 (some g0)) : cv_ l y_Ben_base b_Ben_base 2 none { frames := 7, cells := 1, slots := 6, locals := 120 } E (cW E ad N ρ fl) [.ref (E.2.1 + 0), .int (nI t)] (fun M' => ∃ ρ' fl', M' = cW E ad N ρ' fl' ∧ (ptR φ ρ' fl' (41 + 3 * t) (some g0) ∧ kPt (41 + 3 * t) ρ ρ' fl fl')) := by
  refine gm_met (by decide) (Nat.le_of_ble_eq_true rfl) (fun p e s m below meth c ls hx hb hml hr hlk hnm hown hW X hl => ?_)
  have hl : lv_has ls 2 [(0, .ref (E.2.1 + 0)), (1, .int (nI t))] := hl
  refine lv_iload_n hx hb d_Ben_base_0 rfl (lv_at hl 1 rfl) ?_
  refine gm_Sv hx hb hml hown hW X (n_Ben_needPoint l E _ ⟨t, h_t, rfl⟩) (n := 1) ⟨⟨wl_Ben_144, ws_Ben_needPoint, winit_Ben, wc_Ben_needPoint⟩, by decide +kernel, Nat.le_of_ble_eq_true rfl, Nat.le_of_ble_eq_true rfl⟩ rfl hl.1 rfl (Nat.le_of_ble_eq_true rfl) d_Ben_base_1 ⟨Nat.le_of_ble_eq_true rfl, Nat.le_of_ble_eq_true rfl⟩ (fun M1 H locs hp X => ?_)
  rw [hp] at X
  refine gm_wid (k := 1) (n := 6) (by decide) (by decide) ?_
  exact bd_Ben_base hx hb hml hown hW hg hk hn h_t hG X hl (fun z H locs ls ρ1 fl1 dz X hp => gm_vret hx hb hr hlk X ⟨ρ1, fl1, rfl, hp⟩ dz)
set_option maxHeartbeats 4000000 in
theorem g_Ben_none {F G : Type} [Lean.Grind.CommRing F] [Lean.Grind.CommRing G] {φ : Int → F} {inv : F → F} {ψ : Int → G} (l : Launch) (E : gm_E) (ad : Nat → Nat) (N : gm_M) (ρ : Nat → Nat → Int64) (fl : Nat → Int32) (hg : gE E ad) (hk : fk φ inv) (hn : fm ψ nN) {t : Nat} (h_t : t < 4) : cv_ l y_Ben_none b_Ben_none 2 none { frames := 7, cells := 1, slots := 6, locals := 120 } E (cW E ad N ρ fl) [.ref (E.2.1 + 0), .int (nI t)] (fun M' => ∃ ρ' fl', M' = cW E ad N ρ' fl' ∧ (ptR φ ρ' fl' (41 + 3 * t) none ∧ kPt (41 + 3 * t) ρ ρ' fl fl')) := by
  refine gm_met (by decide) (Nat.le_of_ble_eq_true rfl) (fun p e s m below meth c ls hx hb hml hr hlk hnm hown hW X hl => ?_)
  have hl : lv_has ls 2 [(0, .ref (E.2.1 + 0)), (1, .int (nI t))] := hl
  refine lv_iload_n hx hb d_Ben_none_0 rfl (lv_at hl 1 rfl) ?_
  refine gm_Sv hx hb hml hown hW X (n_Ben_needPoint l E _ ⟨t, h_t, rfl⟩) (n := 1) ⟨⟨wl_Ben_144, ws_Ben_needPoint, winit_Ben, wc_Ben_needPoint⟩, by decide +kernel, Nat.le_of_ble_eq_true rfl, Nat.le_of_ble_eq_true rfl⟩ rfl hl.1 rfl (Nat.le_of_ble_eq_true rfl) d_Ben_none_1 ⟨Nat.le_of_ble_eq_true rfl, Nat.le_of_ble_eq_true rfl⟩ (fun M1 H locs hp X => ?_)
  rw [hp] at X
  refine gm_wid (k := 1) (n := 6) (by decide) (by decide) ?_
  exact bd_Ben_none hx hb hml hown hW hg hk hn h_t X hl (fun z H locs ls ρ1 fl1 dz X hp => gm_vret hx hb hr hlk X ⟨ρ1, fl1, rfl, hp⟩ dz)
set_option maxHeartbeats 4000000 in
theorem g_Ben_lay {F G : Type} [Lean.Grind.CommRing F] [Lean.Grind.CommRing G] {φ : Int → F} {inv : F → F} {ψ : Int → G} (l : Launch) (E : gm_E) (ad : Nat → Nat) (N : gm_M) (ρ : Nat → Nat → Int64) (fl : Nat → Int32) (hg : gE E ad) (hk : fk φ inv) (hn : fm ψ nN) {t : Nat} (h_t : t < 4) {a : Nat} (h_a : a < 8) {b : Nat} (h_b : b < 8) : ci_ l y_Ben_lay b_Ben_lay 4 (some .boolean) { frames := 7, cells := 3, slots := 18, locals := 120 } E (cW E ad N ρ fl) [.ref (E.2.1 + 0), .int (nI t), .int (nI a), .int (nI b)] (fun r M' => ∃ ρ' fl', M' = cW E ad N ρ' fl' ∧ ((r = 0 ∧ ¬ ((NV (ρ (2 + a)) : Int) < nP ∧ (NV (ρ (2 + b)) : Int) < nP ∧ φ (NV (ρ (2 + b))) * φ (NV (ρ (2 + b))) = sqV (φ (NV (ρ (2 + a))))) ∧ kNu 0 0 ρ ρ' fl fl') ∨ (r = 1 ∧ ((NV (ρ (2 + a)) : Int) < nP ∧ (NV (ρ (2 + b)) : Int) < nP ∧ φ (NV (ρ (2 + b))) * φ (NV (ρ (2 + b))) = sqV (φ (NV (ρ (2 + a))))) ∧ ptR φ ρ' fl' (41 + 3 * t) (some (φ (NV (ρ (2 + a))), φ (NV (ρ (2 + b))))) ∧ kPt (41 + 3 * t) ρ ρ' fl fl'))) := by
  refine gm_met (by decide) (Nat.le_of_ble_eq_true rfl) (fun p e s m below meth c ls hx hb hml hr hlk hnm hown hW X hl => ?_)
  have hl : lv_has ls 4 [(0, .ref (E.2.1 + 0)), (1, .int (nI t)), (2, .int (nI a)), (3, .int (nI b))] := hl
  refine lv_iload_n hx hb d_Ben_lay_0 rfl (lv_at hl 1 rfl) ?_
  refine gm_Sv hx hb hml hown hW X (n_Ben_needPoint l E _ ⟨t, h_t, rfl⟩) (n := 1) ⟨⟨wl_Ben_144, ws_Ben_needPoint, winit_Ben, wc_Ben_needPoint⟩, by decide +kernel, Nat.le_of_ble_eq_true rfl, Nat.le_of_ble_eq_true rfl⟩ rfl hl.1 rfl (Nat.le_of_ble_eq_true rfl) d_Ben_lay_1 ⟨Nat.le_of_ble_eq_true rfl, Nat.le_of_ble_eq_true rfl⟩ (fun M1 H locs hp X => ?_)
  rw [hp] at X
  refine lv_iload_n hx hb d_Ben_lay_4 rfl (lv_at hl 2 rfl) ?_
  refine gm_Sv hx hb hml hown hW X (n_Ben_needNumber l E _ ⟨a, h_a, rfl⟩) (n := 1) ⟨⟨wl_Ben_111, ws_Ben_needNumber, winit_Ben, wc_Ben_needNumber⟩, by decide +kernel, Nat.le_of_ble_eq_true rfl, Nat.le_of_ble_eq_true rfl⟩ rfl hl.1 rfl (Nat.le_of_ble_eq_true rfl) d_Ben_lay_5 ⟨Nat.le_of_ble_eq_true rfl, Nat.le_of_ble_eq_true rfl⟩ (fun M1 H locs hp X => ?_)
  rw [hp] at X
  refine lv_iload_n hx hb d_Ben_lay_8 rfl (lv_at hl 3 rfl) ?_
  refine gm_Sv hx hb hml hown hW X (n_Ben_needNumber l E _ ⟨b, h_b, rfl⟩) (n := 1) ⟨⟨wl_Ben_111, ws_Ben_needNumber, winit_Ben, wc_Ben_needNumber⟩, by decide +kernel, Nat.le_of_ble_eq_true rfl, Nat.le_of_ble_eq_true rfl⟩ rfl hl.1 rfl (Nat.le_of_ble_eq_true rfl) d_Ben_lay_9 ⟨Nat.le_of_ble_eq_true rfl, Nat.le_of_ble_eq_true rfl⟩ (fun M1 H locs hp X => ?_)
  rw [hp] at X
  refine gm_wid (k := 3) (n := 18) (by decide) (by decide) ?_
  exact bd_Ben_lay hx hb hml hown hW hg hk hn h_t h_a h_b X hl (fun z H locs ls ρ1 fl1 r dz X hp => gm_zret hx hb hr hlk X (by first | (rcases hp with h9 | h9 <;> (obtain ⟨h9, -⟩ := h9; subst h9; rfl)) | (rcases hp.1 with h9 | h9 <;> (obtain ⟨h9, -⟩ := h9; subst h9; rfl))) ⟨ρ1, fl1, rfl, hp⟩ dz)
set_option maxHeartbeats 4000000 in
theorem g_Ben_lift {F G : Type} [Lean.Grind.CommRing F] [Lean.Grind.CommRing G] {φ : Int → F} {inv : F → F} {ψ : Int → G} (l : Launch) (E : gm_E) (ad : Nat → Nat) (N : gm_M) (ρ : Nat → Nat → Int64) (fl : Nat → Int32) (hg : gE E ad) (hk : fk φ inv) (hn : fm ψ nN) {t : Nat} (h_t : t < 4) {a : Nat} (h_a : a < 8) {odd : Int32} (hodd : odd = 0 ∨ odd = 1) : ci_ l y_Ben_lift b_Ben_lift 4 (some .boolean) { frames := 7, cells := 2, slots := 12, locals := 120 } E (cW E ad N ρ fl) [.ref (E.2.1 + 0), .int (nI t), .int (nI a), .int odd] (fun r M' => ∃ ρ' fl', M' = cW E ad N ρ' fl' ∧ ((r = 0 ∧ ¬ ((NV (ρ (2 + a)) : Int) < nP ∧ (fp_pw (sqV (φ (NV (ρ (2 + a))))) (NV sRt)) * (fp_pw (sqV (φ (NV (ρ (2 + a))))) (NV sRt)) = sqV (φ (NV (ρ (2 + a))))) ∧ kNu 0 0 ρ ρ' fl fl') ∨ (r = 1 ∧ ((NV (ρ (2 + a)) : Int) < nP ∧ (fp_pw (sqV (φ (NV (ρ (2 + a))))) (NV sRt)) * (fp_pw (sqV (φ (NV (ρ (2 + a))))) (NV sRt)) = sqV (φ (NV (ρ (2 + a))))) ∧ ptR φ ρ' fl' (41 + 3 * t) (some ((φ (NV (ρ (2 + a)))), rtV φ (φ (NV (ρ (2 + a)))) odd)) ∧ kPt (41 + 3 * t) ρ ρ' fl fl'))) := by
  refine gm_met (by decide) (Nat.le_of_ble_eq_true rfl) (fun p e s m below meth c ls hx hb hml hr hlk hnm hown hW X hl => ?_)
  have hl : lv_has ls 4 [(0, .ref (E.2.1 + 0)), (1, .int (nI t)), (2, .int (nI a)), (3, .int odd)] := hl
  refine lv_iload_n hx hb d_Ben_lift_0 rfl (lv_at hl 1 rfl) ?_
  refine gm_Sv hx hb hml hown hW X (n_Ben_needPoint l E _ ⟨t, h_t, rfl⟩) (n := 1) ⟨⟨wl_Ben_144, ws_Ben_needPoint, winit_Ben, wc_Ben_needPoint⟩, by decide +kernel, Nat.le_of_ble_eq_true rfl, Nat.le_of_ble_eq_true rfl⟩ rfl hl.1 rfl (Nat.le_of_ble_eq_true rfl) d_Ben_lift_1 ⟨Nat.le_of_ble_eq_true rfl, Nat.le_of_ble_eq_true rfl⟩ (fun M1 H locs hp X => ?_)
  rw [hp] at X
  refine lv_iload_n hx hb d_Ben_lift_4 rfl (lv_at hl 2 rfl) ?_
  refine gm_Sv hx hb hml hown hW X (n_Ben_needNumber l E _ ⟨a, h_a, rfl⟩) (n := 1) ⟨⟨wl_Ben_111, ws_Ben_needNumber, winit_Ben, wc_Ben_needNumber⟩, by decide +kernel, Nat.le_of_ble_eq_true rfl, Nat.le_of_ble_eq_true rfl⟩ rfl hl.1 rfl (Nat.le_of_ble_eq_true rfl) d_Ben_lift_5 ⟨Nat.le_of_ble_eq_true rfl, Nat.le_of_ble_eq_true rfl⟩ (fun M1 H locs hp X => ?_)
  rw [hp] at X
  refine gm_wid (k := 2) (n := 12) (by decide) (by decide) ?_
  exact bd_Ben_lift hx hb hml hown hW hg hk hn h_t h_a hodd X hl (fun z H locs ls ρ1 fl1 r dz X hp => gm_zret hx hb hr hlk X (by first | (rcases hp with h9 | h9 <;> (obtain ⟨h9, -⟩ := h9; subst h9; rfl)) | (rcases hp.1 with h9 | h9 <;> (obtain ⟨h9, -⟩ := h9; subst h9; rfl))) ⟨ρ1, fl1, rfl, hp⟩ dz)
set_option maxHeartbeats 4000000 in
theorem g_Ben_show {F G : Type} [Lean.Grind.CommRing F] [Lean.Grind.CommRing G] {φ : Int → F} {inv : F → F} {ψ : Int → G} (l : Launch) (E : gm_E) (ad : Nat → Nat) (N : gm_M) (ρ : Nat → Nat → Int64) (fl : Nat → Int32) (hg : gE E ad) (hk : fk φ inv) (hn : fm ψ nN) {t : Nat} (h_t : t < 4) {a : Nat} (h_a : a < 8) {b : Nat} (h_b : b < 8) {pp : Option (F × F)} (hpp : ptR φ ρ fl (41 + 3 * t) pp) : ci_ l y_Ben_show b_Ben_show 4 (some .boolean) { frames := 7, cells := 3, slots := 18, locals := 120 } E (cW E ad N ρ fl) [.ref (E.2.1 + 0), .int (nI t), .int (nI a), .int (nI b)] (fun r M' => ∃ ρ' fl', M' = cW E ad N ρ' fl' ∧ ((r = 0 ∧ pp = none ∧ kNu 0 0 ρ ρ' fl fl') ∨ (r = 1 ∧ ∃ a0, pp = some a0 ∧ NV (ρ' (2 + b)) = rp φ nP a0.2 ∧ (a ≠ b → NV (ρ' (2 + a)) = rp φ nP a0.1) ∧ kNu (2 + a) (2 + b) ρ ρ' fl fl'))) := by
  refine gm_met (by decide) (Nat.le_of_ble_eq_true rfl) (fun p e s m below meth c ls hx hb hml hr hlk hnm hown hW X hl => ?_)
  have hl : lv_has ls 4 [(0, .ref (E.2.1 + 0)), (1, .int (nI t)), (2, .int (nI a)), (3, .int (nI b))] := hl
  refine lv_iload_n hx hb d_Ben_show_0 rfl (lv_at hl 1 rfl) ?_
  refine gm_Sv hx hb hml hown hW X (n_Ben_needPoint l E _ ⟨t, h_t, rfl⟩) (n := 1) ⟨⟨wl_Ben_144, ws_Ben_needPoint, winit_Ben, wc_Ben_needPoint⟩, by decide +kernel, Nat.le_of_ble_eq_true rfl, Nat.le_of_ble_eq_true rfl⟩ rfl hl.1 rfl (Nat.le_of_ble_eq_true rfl) d_Ben_show_1 ⟨Nat.le_of_ble_eq_true rfl, Nat.le_of_ble_eq_true rfl⟩ (fun M1 H locs hp X => ?_)
  rw [hp] at X
  refine lv_iload_n hx hb d_Ben_show_4 rfl (lv_at hl 2 rfl) ?_
  refine gm_Sv hx hb hml hown hW X (n_Ben_needNumber l E _ ⟨a, h_a, rfl⟩) (n := 1) ⟨⟨wl_Ben_111, ws_Ben_needNumber, winit_Ben, wc_Ben_needNumber⟩, by decide +kernel, Nat.le_of_ble_eq_true rfl, Nat.le_of_ble_eq_true rfl⟩ rfl hl.1 rfl (Nat.le_of_ble_eq_true rfl) d_Ben_show_5 ⟨Nat.le_of_ble_eq_true rfl, Nat.le_of_ble_eq_true rfl⟩ (fun M1 H locs hp X => ?_)
  rw [hp] at X
  refine lv_iload_n hx hb d_Ben_show_8 rfl (lv_at hl 3 rfl) ?_
  refine gm_Sv hx hb hml hown hW X (n_Ben_needNumber l E _ ⟨b, h_b, rfl⟩) (n := 1) ⟨⟨wl_Ben_111, ws_Ben_needNumber, winit_Ben, wc_Ben_needNumber⟩, by decide +kernel, Nat.le_of_ble_eq_true rfl, Nat.le_of_ble_eq_true rfl⟩ rfl hl.1 rfl (Nat.le_of_ble_eq_true rfl) d_Ben_show_9 ⟨Nat.le_of_ble_eq_true rfl, Nat.le_of_ble_eq_true rfl⟩ (fun M1 H locs hp X => ?_)
  rw [hp] at X
  refine gm_wid (k := 3) (n := 18) (by decide) (by decide) ?_
  exact bd_Ben_show hx hb hml hown hW hg hk hn h_t h_a h_b hpp X hl (fun z H locs ls ρ1 fl1 r dz X hp => gm_zret hx hb hr hlk X (by first | (rcases hp with h9 | h9 <;> (obtain ⟨h9, -⟩ := h9; subst h9; rfl)) | (rcases hp.1 with h9 | h9 <;> (obtain ⟨h9, -⟩ := h9; subst h9; rfl))) ⟨ρ1, fl1, rfl, hp⟩ dz)
set_option maxHeartbeats 4000000 in
theorem g_Ben_add {F G : Type} [Lean.Grind.CommRing F] [Lean.Grind.CommRing G] {φ : Int → F} {inv : F → F} {ψ : Int → G} (l : Launch) (E : gm_E) (ad : Nat → Nat) (N : gm_M) (ρ : Nat → Nat → Int64) (fl : Nat → Int32) (hg : gE E ad) (hk : fk φ inv) (hn : fm ψ nN) {t : Nat} (h_t : t < 4) {a : Nat} (h_a : a < 4) {b : Nat} (h_b : b < 4) {pa pb : Option (F × F)} (hA : ptR φ ρ fl (41 + 3 * a) pa) (hB : ptR φ ρ fl (41 + 3 * b) pb) : cv_ l y_Ben_add b_Ben_add 4 none { frames := 7, cells := 3, slots := 18, locals := 152 } E (cW E ad N ρ fl) [.ref (E.2.1 + 0), .int (nI t), .int (nI a), .int (nI b)] (fun M' => ∃ ρ' fl', M' = cW E ad N ρ' fl' ∧ (ptR φ ρ' fl' (41 + 3 * t) (ec_add inv pa pb) ∧ kPt (41 + 3 * t) ρ ρ' fl fl')) := by
  refine gm_met (by decide) (Nat.le_of_ble_eq_true rfl) (fun p e s m below meth c ls hx hb hml hr hlk hnm hown hW X hl => ?_)
  have hl : lv_has ls 4 [(0, .ref (E.2.1 + 0)), (1, .int (nI t)), (2, .int (nI a)), (3, .int (nI b))] := hl
  refine lv_iload_n hx hb d_Ben_add_0 rfl (lv_at hl 1 rfl) ?_
  refine gm_Sv hx hb hml hown hW X (n_Ben_needPoint l E _ ⟨t, h_t, rfl⟩) (n := 1) ⟨⟨wl_Ben_144, ws_Ben_needPoint, winit_Ben, wc_Ben_needPoint⟩, by decide +kernel, Nat.le_of_ble_eq_true rfl, Nat.le_of_ble_eq_true rfl⟩ rfl hl.1 rfl (Nat.le_of_ble_eq_true rfl) d_Ben_add_1 ⟨Nat.le_of_ble_eq_true rfl, Nat.le_of_ble_eq_true rfl⟩ (fun M1 H locs hp X => ?_)
  rw [hp] at X
  refine lv_iload_n hx hb d_Ben_add_4 rfl (lv_at hl 2 rfl) ?_
  refine gm_Sv hx hb hml hown hW X (n_Ben_needPoint l E _ ⟨a, h_a, rfl⟩) (n := 1) ⟨⟨wl_Ben_144, ws_Ben_needPoint, winit_Ben, wc_Ben_needPoint⟩, by decide +kernel, Nat.le_of_ble_eq_true rfl, Nat.le_of_ble_eq_true rfl⟩ rfl hl.1 rfl (Nat.le_of_ble_eq_true rfl) d_Ben_add_5 ⟨Nat.le_of_ble_eq_true rfl, Nat.le_of_ble_eq_true rfl⟩ (fun M1 H locs hp X => ?_)
  rw [hp] at X
  refine lv_iload_n hx hb d_Ben_add_8 rfl (lv_at hl 3 rfl) ?_
  refine gm_Sv hx hb hml hown hW X (n_Ben_needPoint l E _ ⟨b, h_b, rfl⟩) (n := 1) ⟨⟨wl_Ben_144, ws_Ben_needPoint, winit_Ben, wc_Ben_needPoint⟩, by decide +kernel, Nat.le_of_ble_eq_true rfl, Nat.le_of_ble_eq_true rfl⟩ rfl hl.1 rfl (Nat.le_of_ble_eq_true rfl) d_Ben_add_9 ⟨Nat.le_of_ble_eq_true rfl, Nat.le_of_ble_eq_true rfl⟩ (fun M1 H locs hp X => ?_)
  rw [hp] at X
  refine gm_wid (k := 3) (n := 18) (by decide) (by decide) ?_
  exact bd_Ben_add hx hb hml hown hW hg hk hn h_t h_a h_b hA hB X hl (fun z H locs ls ρ1 fl1 dz X hp => gm_vret hx hb hr hlk X ⟨ρ1, fl1, rfl, hp⟩ dz)
set_option maxHeartbeats 4000000 in
theorem g_Ben_times {F G : Type} [Lean.Grind.CommRing F] [Lean.Grind.CommRing G] {φ : Int → F} {inv : F → F} {ψ : Int → G} (l : Launch) (E : gm_E) (ad : Nat → Nat) (N : gm_M) (ρ : Nat → Nat → Int64) (fl : Nat → Int32) (hg : gE E ad) (hk : fk φ inv) (hn : fm ψ nN) {t : Nat} (h_t : t < 4) {b : Nat} (h_b : b < 8) {a : Nat} (h_a : a < 4) {pa : Option (F × F)} (hA : ptR φ ρ fl (41 + 3 * a) pa) : cv_ l y_Ben_times b_Ben_times 4 none { frames := 7, cells := 3, slots := 18, locals := 152 } E (cW E ad N ρ fl) [.ref (E.2.1 + 0), .int (nI t), .int (nI b), .int (nI a)] (fun M' => ∃ ρ' fl', M' = cW E ad N ρ' fl' ∧ (ptR φ ρ' fl' (41 + 3 * t) (ec_nm inv (NV (ρ (2 + b))) pa) ∧ kPt (41 + 3 * t) ρ ρ' fl fl')) := by
  refine gm_met (by decide) (Nat.le_of_ble_eq_true rfl) (fun p e s m below meth c ls hx hb hml hr hlk hnm hown hW X hl => ?_)
  have hl : lv_has ls 4 [(0, .ref (E.2.1 + 0)), (1, .int (nI t)), (2, .int (nI b)), (3, .int (nI a))] := hl
  refine lv_iload_n hx hb d_Ben_times_0 rfl (lv_at hl 1 rfl) ?_
  refine gm_Sv hx hb hml hown hW X (n_Ben_needPoint l E _ ⟨t, h_t, rfl⟩) (n := 1) ⟨⟨wl_Ben_144, ws_Ben_needPoint, winit_Ben, wc_Ben_needPoint⟩, by decide +kernel, Nat.le_of_ble_eq_true rfl, Nat.le_of_ble_eq_true rfl⟩ rfl hl.1 rfl (Nat.le_of_ble_eq_true rfl) d_Ben_times_1 ⟨Nat.le_of_ble_eq_true rfl, Nat.le_of_ble_eq_true rfl⟩ (fun M1 H locs hp X => ?_)
  rw [hp] at X
  refine lv_iload_n hx hb d_Ben_times_4 rfl (lv_at hl 2 rfl) ?_
  refine gm_Sv hx hb hml hown hW X (n_Ben_needNumber l E _ ⟨b, h_b, rfl⟩) (n := 1) ⟨⟨wl_Ben_111, ws_Ben_needNumber, winit_Ben, wc_Ben_needNumber⟩, by decide +kernel, Nat.le_of_ble_eq_true rfl, Nat.le_of_ble_eq_true rfl⟩ rfl hl.1 rfl (Nat.le_of_ble_eq_true rfl) d_Ben_times_5 ⟨Nat.le_of_ble_eq_true rfl, Nat.le_of_ble_eq_true rfl⟩ (fun M1 H locs hp X => ?_)
  rw [hp] at X
  refine lv_iload_n hx hb d_Ben_times_8 rfl (lv_at hl 3 rfl) ?_
  refine gm_Sv hx hb hml hown hW X (n_Ben_needPoint l E _ ⟨a, h_a, rfl⟩) (n := 1) ⟨⟨wl_Ben_144, ws_Ben_needPoint, winit_Ben, wc_Ben_needPoint⟩, by decide +kernel, Nat.le_of_ble_eq_true rfl, Nat.le_of_ble_eq_true rfl⟩ rfl hl.1 rfl (Nat.le_of_ble_eq_true rfl) d_Ben_times_9 ⟨Nat.le_of_ble_eq_true rfl, Nat.le_of_ble_eq_true rfl⟩ (fun M1 H locs hp X => ?_)
  rw [hp] at X
  refine gm_wid (k := 3) (n := 18) (by decide) (by decide) ?_
  exact bd_Ben_times hx hb hml hown hW hg hk hn h_t h_b h_a hA X hl (fun z H locs ls ρ1 fl1 dz X hp => gm_vret hx hb hr hlk X ⟨ρ1, fl1, rfl, hp⟩ dz)
set_option maxHeartbeats 4000000 in
theorem g_Ben_same {F G : Type} [Lean.Grind.CommRing F] [Lean.Grind.CommRing G] {φ : Int → F} {inv : F → F} {ψ : Int → G} (l : Launch) (E : gm_E) (ad : Nat → Nat) (N : gm_M) (ρ : Nat → Nat → Int64) (fl : Nat → Int32) (hg : gE E ad) (hk : fk φ inv) (hn : fm ψ nN) {a : Nat} (h_a : a < 4) {b : Nat} (h_b : b < 4) {pa pb : Option (F × F)} (hA : ptR φ ρ fl (41 + 3 * a) pa) (hB : ptR φ ρ fl (41 + 3 * b) pb) : ci_ l y_Ben_same b_Ben_same 3 (some .boolean) { frames := 7, cells := 2, slots := 12, locals := 120 } E (cW E ad N ρ fl) [.ref (E.2.1 + 0), .int (nI a), .int (nI b)] (fun r M' => ∃ ρ' fl', M' = cW E ad N ρ' fl' ∧ (((r = 1 ∧ pa = pb) ∨ (r = 0 ∧ ¬ pa = pb)) ∧ ρ' = ρ ∧ fl' = fl)) := by
  refine gm_met (by decide) (Nat.le_of_ble_eq_true rfl) (fun p e s m below meth c ls hx hb hml hr hlk hnm hown hW X hl => ?_)
  have hl : lv_has ls 3 [(0, .ref (E.2.1 + 0)), (1, .int (nI a)), (2, .int (nI b))] := hl
  refine lv_iload_n hx hb d_Ben_same_0 rfl (lv_at hl 1 rfl) ?_
  refine gm_Sv hx hb hml hown hW X (n_Ben_needPoint l E _ ⟨a, h_a, rfl⟩) (n := 1) ⟨⟨wl_Ben_144, ws_Ben_needPoint, winit_Ben, wc_Ben_needPoint⟩, by decide +kernel, Nat.le_of_ble_eq_true rfl, Nat.le_of_ble_eq_true rfl⟩ rfl hl.1 rfl (Nat.le_of_ble_eq_true rfl) d_Ben_same_1 ⟨Nat.le_of_ble_eq_true rfl, Nat.le_of_ble_eq_true rfl⟩ (fun M1 H locs hp X => ?_)
  rw [hp] at X
  refine lv_iload_n hx hb d_Ben_same_4 rfl (lv_at hl 2 rfl) ?_
  refine gm_Sv hx hb hml hown hW X (n_Ben_needPoint l E _ ⟨b, h_b, rfl⟩) (n := 1) ⟨⟨wl_Ben_144, ws_Ben_needPoint, winit_Ben, wc_Ben_needPoint⟩, by decide +kernel, Nat.le_of_ble_eq_true rfl, Nat.le_of_ble_eq_true rfl⟩ rfl hl.1 rfl (Nat.le_of_ble_eq_true rfl) d_Ben_same_5 ⟨Nat.le_of_ble_eq_true rfl, Nat.le_of_ble_eq_true rfl⟩ (fun M1 H locs hp X => ?_)
  rw [hp] at X
  refine gm_wid (k := 2) (n := 12) (by decide) (by decide) ?_
  exact bd_Ben_same hx hb hml hown hW hg hk hn h_a h_b hA hB X hl (fun z H locs ls ρ1 fl1 r dz X hp => gm_zret hx hb hr hlk X (by first | (rcases hp with h9 | h9 <;> (obtain ⟨h9, -⟩ := h9; subst h9; rfl)) | (rcases hp.1 with h9 | h9 <;> (obtain ⟨h9, -⟩ := h9; subst h9; rfl))) ⟨ρ1, fl1, rfl, hp⟩ dz)
set_option maxHeartbeats 4000000 in
theorem g_Ben_sign {F G : Type} [Lean.Grind.CommRing F] [Lean.Grind.CommRing G] {φ : Int → F} {inv : F → F} {ψ : Int → G} (l : Launch) (E : gm_E) (ad : Nat → Nat) (N : gm_M) (ρ : Nat → Nat → Int64) (fl : Nat → Int32) (hg : gE E ad) (hk : fk φ inv) (hn : fm ψ nN) {t : Nat} (h_t : t < 8) {u : Nat} (h_u : u < 8) {a : Nat} (h_a : a < 8) {b : Nat} (h_b : b < 8) {d : Nat} (h_d : d < 8) {g0 : F × F} (hG : ptR φ ρ fl 21 (some g0)) (hord : ∀ n : Nat, ¬ n = 0 → (n : Int) < nN → ∃ a, ec_nm inv n (some g0) = some a) : ci_ l y_Ben_sign b_Ben_sign 6 (some .boolean) { frames := 7, cells := 5, slots := 30, locals := 152 } E (cW E ad N ρ fl) [.ref (E.2.1 + 0), .int (nI t), .int (nI u), .int (nI a), .int (nI b), .int (nI d)] (fun r M' => ∃ ρ' fl', M' = cW E ad N ρ' fl' ∧ ((r = 0 ∧ ¬ (((NV (ρ (2 + a)) : Int) < nN ∧ ¬ NV (ρ (2 + a)) = 0) ∧ ((NV (ρ (2 + b)) : Int) < nN ∧ ¬ NV (ρ (2 + b)) = 0)) ∧ kNu 0 0 ρ ρ' fl fl') ∨ (r = 1 ∧ (((NV (ρ (2 + a)) : Int) < nN ∧ ¬ NV (ρ (2 + a)) = 0) ∧ ((NV (ρ (2 + b)) : Int) < nN ∧ ¬ NV (ρ (2 + b)) = 0)) ∧ ∃ a0, ec_nm inv (NV (ρ (2 + b))) (some g0) = some a0 ∧ NV (ρ' (2 + u)) = rp ψ nN ((ψ (NV (ρ (2 + a))) * (ψ (rp φ nP a0.1 : Nat)) + ψ (NV (ρ (2 + d)))) * fp_pw (ψ (NV (ρ (2 + b)))) (NV sN2)) ∧ (t ≠ u → NV (ρ' (2 + t)) = rp ψ nN (ψ (rp φ nP a0.1 : Nat))) ∧ kNu (2 + t) (2 + u) ρ ρ' fl fl'))) := by
  refine gm_met (by decide) (Nat.le_of_ble_eq_true rfl) (fun p e s m below meth c ls hx hb hml hr hlk hnm hown hW X hl => ?_)
  have hl : lv_has ls 6 [(0, .ref (E.2.1 + 0)), (1, .int (nI t)), (2, .int (nI u)), (3, .int (nI a)), (4, .int (nI b)), (5, .int (nI d))] := hl
  refine lv_iload_n hx hb d_Ben_sign_0 rfl (lv_at hl 1 rfl) ?_
  refine gm_Sv hx hb hml hown hW X (n_Ben_needNumber l E _ ⟨t, h_t, rfl⟩) (n := 1) ⟨⟨wl_Ben_111, ws_Ben_needNumber, winit_Ben, wc_Ben_needNumber⟩, by decide +kernel, Nat.le_of_ble_eq_true rfl, Nat.le_of_ble_eq_true rfl⟩ rfl hl.1 rfl (Nat.le_of_ble_eq_true rfl) d_Ben_sign_1 ⟨Nat.le_of_ble_eq_true rfl, Nat.le_of_ble_eq_true rfl⟩ (fun M1 H locs hp X => ?_)
  rw [hp] at X
  refine lv_iload_n hx hb d_Ben_sign_4 rfl (lv_at hl 2 rfl) ?_
  refine gm_Sv hx hb hml hown hW X (n_Ben_needNumber l E _ ⟨u, h_u, rfl⟩) (n := 1) ⟨⟨wl_Ben_111, ws_Ben_needNumber, winit_Ben, wc_Ben_needNumber⟩, by decide +kernel, Nat.le_of_ble_eq_true rfl, Nat.le_of_ble_eq_true rfl⟩ rfl hl.1 rfl (Nat.le_of_ble_eq_true rfl) d_Ben_sign_5 ⟨Nat.le_of_ble_eq_true rfl, Nat.le_of_ble_eq_true rfl⟩ (fun M1 H locs hp X => ?_)
  rw [hp] at X
  refine lv_iload_n hx hb d_Ben_sign_8 rfl (lv_at hl 3 rfl) ?_
  refine gm_Sv hx hb hml hown hW X (n_Ben_needNumber l E _ ⟨a, h_a, rfl⟩) (n := 1) ⟨⟨wl_Ben_111, ws_Ben_needNumber, winit_Ben, wc_Ben_needNumber⟩, by decide +kernel, Nat.le_of_ble_eq_true rfl, Nat.le_of_ble_eq_true rfl⟩ rfl hl.1 rfl (Nat.le_of_ble_eq_true rfl) d_Ben_sign_9 ⟨Nat.le_of_ble_eq_true rfl, Nat.le_of_ble_eq_true rfl⟩ (fun M1 H locs hp X => ?_)
  rw [hp] at X
  refine lv_iload hx hb d_Ben_sign_12 (lv_at hl 4 rfl) ?_
  refine gm_Sv hx hb hml hown hW X (n_Ben_needNumber l E _ ⟨b, h_b, rfl⟩) (n := 1) ⟨⟨wl_Ben_111, ws_Ben_needNumber, winit_Ben, wc_Ben_needNumber⟩, by decide +kernel, Nat.le_of_ble_eq_true rfl, Nat.le_of_ble_eq_true rfl⟩ rfl hl.1 rfl (Nat.le_of_ble_eq_true rfl) d_Ben_sign_14 ⟨Nat.le_of_ble_eq_true rfl, Nat.le_of_ble_eq_true rfl⟩ (fun M1 H locs hp X => ?_)
  rw [hp] at X
  refine lv_iload hx hb d_Ben_sign_17 (lv_at hl 5 rfl) ?_
  refine gm_Sv hx hb hml hown hW X (n_Ben_needNumber l E _ ⟨d, h_d, rfl⟩) (n := 1) ⟨⟨wl_Ben_111, ws_Ben_needNumber, winit_Ben, wc_Ben_needNumber⟩, by decide +kernel, Nat.le_of_ble_eq_true rfl, Nat.le_of_ble_eq_true rfl⟩ rfl hl.1 rfl (Nat.le_of_ble_eq_true rfl) d_Ben_sign_19 ⟨Nat.le_of_ble_eq_true rfl, Nat.le_of_ble_eq_true rfl⟩ (fun M1 H locs hp X => ?_)
  rw [hp] at X
  refine gm_wid (k := 5) (n := 30) (by decide) (by decide) ?_
  exact bd_Ben_sign hx hb hml hown hW hg hk hn h_t h_u h_a h_b h_d hG hord X hl (fun z H locs ls ρ1 fl1 r dz X hp => gm_zret hx hb hr hlk X (by first | (rcases hp with h9 | h9 <;> (obtain ⟨h9, -⟩ := h9; subst h9; rfl)) | (rcases hp.1 with h9 | h9 <;> (obtain ⟨h9, -⟩ := h9; subst h9; rfl))) ⟨ρ1, fl1, rfl, hp⟩ dz)
set_option maxHeartbeats 4000000 in
theorem g_Ben_verify {F G : Type} [Lean.Grind.CommRing F] [Lean.Grind.CommRing G] {φ : Int → F} {inv : F → F} {ψ : Int → G} (l : Launch) (E : gm_E) (ad : Nat → Nat) (N : gm_M) (ρ : Nat → Nat → Int64) (fl : Nat → Int32) (hg : gE E ad) (hk : fk φ inv) (hn : fm ψ nN) {t : Nat} (h_t : t < 4) {d : Nat} (h_d : d < 8) {a : Nat} (h_a : a < 8) {b : Nat} (h_b : b < 8) {g0 : F × F} {pp : Option (F × F)} (hG : ptR φ ρ fl 21 (some g0)) (hpp : ptR φ ρ fl (41 + 3 * t) pp) : ci_ l y_Ben_verify b_Ben_verify 5 (some .boolean) { frames := 7, cells := 4, slots := 24, locals := 152 } E (cW E ad N ρ fl) [.ref (E.2.1 + 0), .int (nI t), .int (nI d), .int (nI a), .int (nI b)] (fun r M' => ∃ ρ' fl', M' = cW E ad N ρ' fl' ∧ (((r = 0 ∧ ¬ (¬ pp = none ∧ ((NV (ρ (2 + a)) : Int) < nN ∧ ¬ NV (ρ (2 + a)) = 0) ∧ ((NV (ρ (2 + b)) : Int) < nN ∧ ¬ NV (ρ (2 + b)) = 0) ∧ ∃ a0, (ec_add inv (ec_nm inv (rp ψ nN (ψ (NV (ρ (2 + d))) * (fp_pw (ψ (NV (ρ (2 + b)))) (NV sN2)))) (some g0)) (ec_nm inv (rp ψ nN (ψ (NV (ρ (2 + a))) * (fp_pw (ψ (NV (ρ (2 + b)))) (NV sN2)))) pp)) = some a0 ∧ ψ (rp φ nP a0.1 : Nat) = ψ (NV (ρ (2 + a))))) ∨ (r = 1 ∧ (¬ pp = none ∧ ((NV (ρ (2 + a)) : Int) < nN ∧ ¬ NV (ρ (2 + a)) = 0) ∧ ((NV (ρ (2 + b)) : Int) < nN ∧ ¬ NV (ρ (2 + b)) = 0) ∧ ∃ a0, (ec_add inv (ec_nm inv (rp ψ nN (ψ (NV (ρ (2 + d))) * (fp_pw (ψ (NV (ρ (2 + b)))) (NV sN2)))) (some g0)) (ec_nm inv (rp ψ nN (ψ (NV (ρ (2 + a))) * (fp_pw (ψ (NV (ρ (2 + b)))) (NV sN2)))) pp)) = some a0 ∧ ψ (rp φ nP a0.1 : Nat) = ψ (NV (ρ (2 + a)))))) ∧ kNu 0 0 ρ ρ' fl fl')) := by
  refine gm_met (by decide) (Nat.le_of_ble_eq_true rfl) (fun p e s m below meth c ls hx hb hml hr hlk hnm hown hW X hl => ?_)
  have hl : lv_has ls 5 [(0, .ref (E.2.1 + 0)), (1, .int (nI t)), (2, .int (nI d)), (3, .int (nI a)), (4, .int (nI b))] := hl
  refine lv_iload_n hx hb d_Ben_verify_0 rfl (lv_at hl 1 rfl) ?_
  refine gm_Sv hx hb hml hown hW X (n_Ben_needPoint l E _ ⟨t, h_t, rfl⟩) (n := 1) ⟨⟨wl_Ben_144, ws_Ben_needPoint, winit_Ben, wc_Ben_needPoint⟩, by decide +kernel, Nat.le_of_ble_eq_true rfl, Nat.le_of_ble_eq_true rfl⟩ rfl hl.1 rfl (Nat.le_of_ble_eq_true rfl) d_Ben_verify_1 ⟨Nat.le_of_ble_eq_true rfl, Nat.le_of_ble_eq_true rfl⟩ (fun M1 H locs hp X => ?_)
  rw [hp] at X
  refine lv_iload_n hx hb d_Ben_verify_4 rfl (lv_at hl 2 rfl) ?_
  refine gm_Sv hx hb hml hown hW X (n_Ben_needNumber l E _ ⟨d, h_d, rfl⟩) (n := 1) ⟨⟨wl_Ben_111, ws_Ben_needNumber, winit_Ben, wc_Ben_needNumber⟩, by decide +kernel, Nat.le_of_ble_eq_true rfl, Nat.le_of_ble_eq_true rfl⟩ rfl hl.1 rfl (Nat.le_of_ble_eq_true rfl) d_Ben_verify_5 ⟨Nat.le_of_ble_eq_true rfl, Nat.le_of_ble_eq_true rfl⟩ (fun M1 H locs hp X => ?_)
  rw [hp] at X
  refine lv_iload_n hx hb d_Ben_verify_8 rfl (lv_at hl 3 rfl) ?_
  refine gm_Sv hx hb hml hown hW X (n_Ben_needNumber l E _ ⟨a, h_a, rfl⟩) (n := 1) ⟨⟨wl_Ben_111, ws_Ben_needNumber, winit_Ben, wc_Ben_needNumber⟩, by decide +kernel, Nat.le_of_ble_eq_true rfl, Nat.le_of_ble_eq_true rfl⟩ rfl hl.1 rfl (Nat.le_of_ble_eq_true rfl) d_Ben_verify_9 ⟨Nat.le_of_ble_eq_true rfl, Nat.le_of_ble_eq_true rfl⟩ (fun M1 H locs hp X => ?_)
  rw [hp] at X
  refine lv_iload hx hb d_Ben_verify_12 (lv_at hl 4 rfl) ?_
  refine gm_Sv hx hb hml hown hW X (n_Ben_needNumber l E _ ⟨b, h_b, rfl⟩) (n := 1) ⟨⟨wl_Ben_111, ws_Ben_needNumber, winit_Ben, wc_Ben_needNumber⟩, by decide +kernel, Nat.le_of_ble_eq_true rfl, Nat.le_of_ble_eq_true rfl⟩ rfl hl.1 rfl (Nat.le_of_ble_eq_true rfl) d_Ben_verify_14 ⟨Nat.le_of_ble_eq_true rfl, Nat.le_of_ble_eq_true rfl⟩ (fun M1 H locs hp X => ?_)
  rw [hp] at X
  refine gm_wid (k := 4) (n := 24) (by decide) (by decide) ?_
  exact bd_Ben_verify hx hb hml hown hW hg hk hn h_t h_d h_a h_b hG hpp X hl (fun z H locs ls ρ1 fl1 r dz X hp => gm_zret hx hb hr hlk X (by first | (rcases hp with h9 | h9 <;> (obtain ⟨h9, -⟩ := h9; subst h9; rfl)) | (rcases hp.1 with h9 | h9 <;> (obtain ⟨h9, -⟩ := h9; subst h9; rfl))) ⟨ρ1, fl1, rfl, hp⟩ dz)
theorem t_Ben_set (l : Launch) (hst : l.stackTraces = false) (E : gm_E) (M : gm_M) {a : Nat} {p1 : Int32} {p2 : Int32} {p3 : Int64} (hbad : ¬ (inR p1 8 ∧ inR p2 4)) : ct_ l y_Ben_set b_Ben_set 5 none { frames := 7, cells := 2, slots := 12, locals := 120 } E M [.ref a, .int p1, .int p2, .long p3] := by
  refine gm_metT (by decide) (Nat.le_of_ble_eq_true rfl) (fun p e s m below meth c ls hx hb hml hlk hown hW ht X hl => ?_)
  have hl : lv_has ls 5 [(0, .ref a), (1, .int p1), (2, .int p2), (3, .long p3)] := hl
  refine lv_iload_n hx hb d_Ben_set_0 rfl (lv_at hl 1 rfl) ?_
  by_cases h1 : inR p1 8
  rotate_left
  · exact gm_St hx hb hml hown hW X (t_Ben_needNumber l hst E M h1) (n := 1) ⟨⟨wl_Ben_111, ws_Ben_needNumber, winit_Ben, wc_Ben_needNumber⟩, by decide +kernel, Nat.le_of_ble_eq_true rfl, Nat.le_of_ble_eq_true rfl⟩ rfl hl.1 rfl (Nat.le_of_ble_eq_true rfl) d_Ben_set_1 ⟨Nat.le_of_ble_eq_true rfl, Nat.le_of_ble_eq_true rfl⟩ (fun q9 ce H locs X e1 e2 e3 => gm_out ht hlk X e1 e2 e3 ⟨by decide, by decide⟩)
  refine gm_Sv hx hb hml hown hW X (n_Ben_needNumber l E _ h1) (n := 1) ⟨⟨wl_Ben_111, ws_Ben_needNumber, winit_Ben, wc_Ben_needNumber⟩, by decide +kernel, Nat.le_of_ble_eq_true rfl, Nat.le_of_ble_eq_true rfl⟩ rfl hl.1 rfl (Nat.le_of_ble_eq_true rfl) d_Ben_set_1 ⟨Nat.le_of_ble_eq_true rfl, Nat.le_of_ble_eq_true rfl⟩ (fun M1 H locs hp X => ?_)
  rw [hp] at X
  refine lv_iload_n hx hb d_Ben_set_4 rfl (lv_at hl 2 rfl) ?_
  by_cases h2 : inR p2 4
  rotate_left
  · exact gm_St hx hb hml hown hW X (t_Ben_needPart l hst E M h2) (n := 1) ⟨⟨wl_Ben_115, ws_Ben_needPart, winit_Ben, wc_Ben_needPart⟩, by decide +kernel, Nat.le_of_ble_eq_true rfl, Nat.le_of_ble_eq_true rfl⟩ rfl hl.1 rfl (Nat.le_of_ble_eq_true rfl) d_Ben_set_5 ⟨Nat.le_of_ble_eq_true rfl, Nat.le_of_ble_eq_true rfl⟩ (fun q9 ce H locs X e1 e2 e3 => gm_out ht hlk X e1 e2 e3 ⟨by decide, by decide⟩)
  refine gm_Sv hx hb hml hown hW X (n_Ben_needPart l E _ h2) (n := 1) ⟨⟨wl_Ben_115, ws_Ben_needPart, winit_Ben, wc_Ben_needPart⟩, by decide +kernel, Nat.le_of_ble_eq_true rfl, Nat.le_of_ble_eq_true rfl⟩ rfl hl.1 rfl (Nat.le_of_ble_eq_true rfl) d_Ben_set_5 ⟨Nat.le_of_ble_eq_true rfl, Nat.le_of_ble_eq_true rfl⟩ (fun M1 H locs hp X => ?_)
  rw [hp] at X
  exact absurd ⟨h1, h2⟩ hbad
theorem t_Ben_get (l : Launch) (hst : l.stackTraces = false) (E : gm_E) (M : gm_M) {a : Nat} {p1 : Int32} {p2 : Int32} (hbad : ¬ (inR p1 8 ∧ inR p2 4)) : ct_ l y_Ben_get b_Ben_get 3 (some .long) { frames := 7, cells := 2, slots := 12, locals := 120 } E M [.ref a, .int p1, .int p2] := by
  refine gm_metT (by decide) (Nat.le_of_ble_eq_true rfl) (fun p e s m below meth c ls hx hb hml hlk hown hW ht X hl => ?_)
  have hl : lv_has ls 3 [(0, .ref a), (1, .int p1), (2, .int p2)] := hl
  refine lv_iload_n hx hb d_Ben_get_0 rfl (lv_at hl 1 rfl) ?_
  by_cases h1 : inR p1 8
  rotate_left
  · exact gm_St hx hb hml hown hW X (t_Ben_needNumber l hst E M h1) (n := 1) ⟨⟨wl_Ben_111, ws_Ben_needNumber, winit_Ben, wc_Ben_needNumber⟩, by decide +kernel, Nat.le_of_ble_eq_true rfl, Nat.le_of_ble_eq_true rfl⟩ rfl hl.1 rfl (Nat.le_of_ble_eq_true rfl) d_Ben_get_1 ⟨Nat.le_of_ble_eq_true rfl, Nat.le_of_ble_eq_true rfl⟩ (fun q9 ce H locs X e1 e2 e3 => gm_out ht hlk X e1 e2 e3 ⟨by decide, by decide⟩)
  refine gm_Sv hx hb hml hown hW X (n_Ben_needNumber l E _ h1) (n := 1) ⟨⟨wl_Ben_111, ws_Ben_needNumber, winit_Ben, wc_Ben_needNumber⟩, by decide +kernel, Nat.le_of_ble_eq_true rfl, Nat.le_of_ble_eq_true rfl⟩ rfl hl.1 rfl (Nat.le_of_ble_eq_true rfl) d_Ben_get_1 ⟨Nat.le_of_ble_eq_true rfl, Nat.le_of_ble_eq_true rfl⟩ (fun M1 H locs hp X => ?_)
  rw [hp] at X
  refine lv_iload_n hx hb d_Ben_get_4 rfl (lv_at hl 2 rfl) ?_
  by_cases h2 : inR p2 4
  rotate_left
  · exact gm_St hx hb hml hown hW X (t_Ben_needPart l hst E M h2) (n := 1) ⟨⟨wl_Ben_115, ws_Ben_needPart, winit_Ben, wc_Ben_needPart⟩, by decide +kernel, Nat.le_of_ble_eq_true rfl, Nat.le_of_ble_eq_true rfl⟩ rfl hl.1 rfl (Nat.le_of_ble_eq_true rfl) d_Ben_get_5 ⟨Nat.le_of_ble_eq_true rfl, Nat.le_of_ble_eq_true rfl⟩ (fun q9 ce H locs X e1 e2 e3 => gm_out ht hlk X e1 e2 e3 ⟨by decide, by decide⟩)
  refine gm_Sv hx hb hml hown hW X (n_Ben_needPart l E _ h2) (n := 1) ⟨⟨wl_Ben_115, ws_Ben_needPart, winit_Ben, wc_Ben_needPart⟩, by decide +kernel, Nat.le_of_ble_eq_true rfl, Nat.le_of_ble_eq_true rfl⟩ rfl hl.1 rfl (Nat.le_of_ble_eq_true rfl) d_Ben_get_5 ⟨Nat.le_of_ble_eq_true rfl, Nat.le_of_ble_eq_true rfl⟩ (fun M1 H locs hp X => ?_)
  rw [hp] at X
  exact absurd ⟨h1, h2⟩ hbad
theorem t_Ben_compare (l : Launch) (hst : l.stackTraces = false) (E : gm_E) (M : gm_M) {a : Nat} {p1 : Int32} {p2 : Int32} (hbad : ¬ (inR p1 8 ∧ inR p2 8)) : ct_ l y_Ben_compare b_Ben_compare 3 (some .int) { frames := 7, cells := 2, slots := 12, locals := 120 } E M [.ref a, .int p1, .int p2] := by
  refine gm_metT (by decide) (Nat.le_of_ble_eq_true rfl) (fun p e s m below meth c ls hx hb hml hlk hown hW ht X hl => ?_)
  have hl : lv_has ls 3 [(0, .ref a), (1, .int p1), (2, .int p2)] := hl
  refine lv_iload_n hx hb d_Ben_compare_0 rfl (lv_at hl 1 rfl) ?_
  by_cases h1 : inR p1 8
  rotate_left
  · exact gm_St hx hb hml hown hW X (t_Ben_needNumber l hst E M h1) (n := 1) ⟨⟨wl_Ben_111, ws_Ben_needNumber, winit_Ben, wc_Ben_needNumber⟩, by decide +kernel, Nat.le_of_ble_eq_true rfl, Nat.le_of_ble_eq_true rfl⟩ rfl hl.1 rfl (Nat.le_of_ble_eq_true rfl) d_Ben_compare_1 ⟨Nat.le_of_ble_eq_true rfl, Nat.le_of_ble_eq_true rfl⟩ (fun q9 ce H locs X e1 e2 e3 => gm_out ht hlk X e1 e2 e3 ⟨by decide, by decide⟩)
  refine gm_Sv hx hb hml hown hW X (n_Ben_needNumber l E _ h1) (n := 1) ⟨⟨wl_Ben_111, ws_Ben_needNumber, winit_Ben, wc_Ben_needNumber⟩, by decide +kernel, Nat.le_of_ble_eq_true rfl, Nat.le_of_ble_eq_true rfl⟩ rfl hl.1 rfl (Nat.le_of_ble_eq_true rfl) d_Ben_compare_1 ⟨Nat.le_of_ble_eq_true rfl, Nat.le_of_ble_eq_true rfl⟩ (fun M1 H locs hp X => ?_)
  rw [hp] at X
  refine lv_iload_n hx hb d_Ben_compare_4 rfl (lv_at hl 2 rfl) ?_
  by_cases h2 : inR p2 8
  rotate_left
  · exact gm_St hx hb hml hown hW X (t_Ben_needNumber l hst E M h2) (n := 1) ⟨⟨wl_Ben_111, ws_Ben_needNumber, winit_Ben, wc_Ben_needNumber⟩, by decide +kernel, Nat.le_of_ble_eq_true rfl, Nat.le_of_ble_eq_true rfl⟩ rfl hl.1 rfl (Nat.le_of_ble_eq_true rfl) d_Ben_compare_5 ⟨Nat.le_of_ble_eq_true rfl, Nat.le_of_ble_eq_true rfl⟩ (fun q9 ce H locs X e1 e2 e3 => gm_out ht hlk X e1 e2 e3 ⟨by decide, by decide⟩)
  refine gm_Sv hx hb hml hown hW X (n_Ben_needNumber l E _ h2) (n := 1) ⟨⟨wl_Ben_111, ws_Ben_needNumber, winit_Ben, wc_Ben_needNumber⟩, by decide +kernel, Nat.le_of_ble_eq_true rfl, Nat.le_of_ble_eq_true rfl⟩ rfl hl.1 rfl (Nat.le_of_ble_eq_true rfl) d_Ben_compare_5 ⟨Nat.le_of_ble_eq_true rfl, Nat.le_of_ble_eq_true rfl⟩ (fun M1 H locs hp X => ?_)
  rw [hp] at X
  exact absurd ⟨h1, h2⟩ hbad
theorem t_Ben_work (l : Launch) (hst : l.stackTraces = false) (E : gm_E) (M : gm_M) {a : Nat} {p1 : Int32} {p2 : Int32} {p3 : Int32} {p4 : Int32} (hbad : ¬ (inR p1 8 ∧ inR p2 8 ∧ inR p3 8 ∧ inR p4 8)) : ct_ l y_Ben_work b_Ben_work 7 (some .boolean) { frames := 7, cells := 4, slots := 24, locals := 153 } E M [.ref a, .int p1, .int p2, .int p3, .int p4] := by
  refine gm_metT (by decide) (Nat.le_of_ble_eq_true rfl) (fun p e s m below meth c ls hx hb hml hlk hown hW ht X hl => ?_)
  have hl : lv_has ls 7 [(0, .ref a), (1, .int p1), (2, .int p2), (3, .int p3), (4, .int p4)] := hl
  refine lv_iload_n hx hb d_Ben_work_0 rfl (lv_at hl 1 rfl) ?_
  by_cases h1 : inR p1 8
  rotate_left
  · exact gm_St hx hb hml hown hW X (t_Ben_needWork l hst E M h1) (n := 1) ⟨⟨wl_Ben_123, ws_Ben_needWork, winit_Ben, wc_Ben_needWork⟩, by decide +kernel, Nat.le_of_ble_eq_true rfl, Nat.le_of_ble_eq_true rfl⟩ rfl hl.1 rfl (Nat.le_of_ble_eq_true rfl) d_Ben_work_1 ⟨Nat.le_of_ble_eq_true rfl, Nat.le_of_ble_eq_true rfl⟩ (fun q9 ce H locs X e1 e2 e3 => gm_out ht hlk X e1 e2 e3 ⟨by decide, by decide⟩)
  refine gm_Sv hx hb hml hown hW X (n_Ben_needWork l E _ h1) (n := 1) ⟨⟨wl_Ben_123, ws_Ben_needWork, winit_Ben, wc_Ben_needWork⟩, by decide +kernel, Nat.le_of_ble_eq_true rfl, Nat.le_of_ble_eq_true rfl⟩ rfl hl.1 rfl (Nat.le_of_ble_eq_true rfl) d_Ben_work_1 ⟨Nat.le_of_ble_eq_true rfl, Nat.le_of_ble_eq_true rfl⟩ (fun M1 H locs hp X => ?_)
  rw [hp] at X
  refine lv_iload_n hx hb d_Ben_work_4 rfl (lv_at hl 2 rfl) ?_
  by_cases h2 : inR p2 8
  rotate_left
  · exact gm_St hx hb hml hown hW X (t_Ben_needNumber l hst E M h2) (n := 1) ⟨⟨wl_Ben_111, ws_Ben_needNumber, winit_Ben, wc_Ben_needNumber⟩, by decide +kernel, Nat.le_of_ble_eq_true rfl, Nat.le_of_ble_eq_true rfl⟩ rfl hl.1 rfl (Nat.le_of_ble_eq_true rfl) d_Ben_work_5 ⟨Nat.le_of_ble_eq_true rfl, Nat.le_of_ble_eq_true rfl⟩ (fun q9 ce H locs X e1 e2 e3 => gm_out ht hlk X e1 e2 e3 ⟨by decide, by decide⟩)
  refine gm_Sv hx hb hml hown hW X (n_Ben_needNumber l E _ h2) (n := 1) ⟨⟨wl_Ben_111, ws_Ben_needNumber, winit_Ben, wc_Ben_needNumber⟩, by decide +kernel, Nat.le_of_ble_eq_true rfl, Nat.le_of_ble_eq_true rfl⟩ rfl hl.1 rfl (Nat.le_of_ble_eq_true rfl) d_Ben_work_5 ⟨Nat.le_of_ble_eq_true rfl, Nat.le_of_ble_eq_true rfl⟩ (fun M1 H locs hp X => ?_)
  rw [hp] at X
  refine lv_iload_n hx hb d_Ben_work_8 rfl (lv_at hl 3 rfl) ?_
  by_cases h3 : inR p3 8
  rotate_left
  · exact gm_St hx hb hml hown hW X (t_Ben_needNumber l hst E M h3) (n := 1) ⟨⟨wl_Ben_111, ws_Ben_needNumber, winit_Ben, wc_Ben_needNumber⟩, by decide +kernel, Nat.le_of_ble_eq_true rfl, Nat.le_of_ble_eq_true rfl⟩ rfl hl.1 rfl (Nat.le_of_ble_eq_true rfl) d_Ben_work_9 ⟨Nat.le_of_ble_eq_true rfl, Nat.le_of_ble_eq_true rfl⟩ (fun q9 ce H locs X e1 e2 e3 => gm_out ht hlk X e1 e2 e3 ⟨by decide, by decide⟩)
  refine gm_Sv hx hb hml hown hW X (n_Ben_needNumber l E _ h3) (n := 1) ⟨⟨wl_Ben_111, ws_Ben_needNumber, winit_Ben, wc_Ben_needNumber⟩, by decide +kernel, Nat.le_of_ble_eq_true rfl, Nat.le_of_ble_eq_true rfl⟩ rfl hl.1 rfl (Nat.le_of_ble_eq_true rfl) d_Ben_work_9 ⟨Nat.le_of_ble_eq_true rfl, Nat.le_of_ble_eq_true rfl⟩ (fun M1 H locs hp X => ?_)
  rw [hp] at X
  refine lv_iload hx hb d_Ben_work_12 (lv_at hl 4 rfl) ?_
  by_cases h4 : inR p4 8
  rotate_left
  · exact gm_St hx hb hml hown hW X (t_Ben_needNumber l hst E M h4) (n := 1) ⟨⟨wl_Ben_111, ws_Ben_needNumber, winit_Ben, wc_Ben_needNumber⟩, by decide +kernel, Nat.le_of_ble_eq_true rfl, Nat.le_of_ble_eq_true rfl⟩ rfl hl.1 rfl (Nat.le_of_ble_eq_true rfl) d_Ben_work_14 ⟨Nat.le_of_ble_eq_true rfl, Nat.le_of_ble_eq_true rfl⟩ (fun q9 ce H locs X e1 e2 e3 => gm_out ht hlk X e1 e2 e3 ⟨by decide, by decide⟩)
  refine gm_Sv hx hb hml hown hW X (n_Ben_needNumber l E _ h4) (n := 1) ⟨⟨wl_Ben_111, ws_Ben_needNumber, winit_Ben, wc_Ben_needNumber⟩, by decide +kernel, Nat.le_of_ble_eq_true rfl, Nat.le_of_ble_eq_true rfl⟩ rfl hl.1 rfl (Nat.le_of_ble_eq_true rfl) d_Ben_work_14 ⟨Nat.le_of_ble_eq_true rfl, Nat.le_of_ble_eq_true rfl⟩ (fun M1 H locs hp X => ?_)
  rw [hp] at X
  exact absurd ⟨h1, h2, h3, h4⟩ hbad
theorem t_Ben_base (l : Launch) (hst : l.stackTraces = false) (E : gm_E) (M : gm_M) {a : Nat} {p1 : Int32} (hbad : ¬ (inR p1 4)) : ct_ l y_Ben_base b_Ben_base 2 none { frames := 7, cells := 1, slots := 6, locals := 120 } E M [.ref a, .int p1] := by
  refine gm_metT (by decide) (Nat.le_of_ble_eq_true rfl) (fun p e s m below meth c ls hx hb hml hlk hown hW ht X hl => ?_)
  have hl : lv_has ls 2 [(0, .ref a), (1, .int p1)] := hl
  refine lv_iload_n hx hb d_Ben_base_0 rfl (lv_at hl 1 rfl) ?_
  by_cases h1 : inR p1 4
  rotate_left
  · exact gm_St hx hb hml hown hW X (t_Ben_needPoint l hst E M h1) (n := 1) ⟨⟨wl_Ben_144, ws_Ben_needPoint, winit_Ben, wc_Ben_needPoint⟩, by decide +kernel, Nat.le_of_ble_eq_true rfl, Nat.le_of_ble_eq_true rfl⟩ rfl hl.1 rfl (Nat.le_of_ble_eq_true rfl) d_Ben_base_1 ⟨Nat.le_of_ble_eq_true rfl, Nat.le_of_ble_eq_true rfl⟩ (fun q9 ce H locs X e1 e2 e3 => gm_out ht hlk X e1 e2 e3 ⟨by decide, by decide⟩)
  refine gm_Sv hx hb hml hown hW X (n_Ben_needPoint l E _ h1) (n := 1) ⟨⟨wl_Ben_144, ws_Ben_needPoint, winit_Ben, wc_Ben_needPoint⟩, by decide +kernel, Nat.le_of_ble_eq_true rfl, Nat.le_of_ble_eq_true rfl⟩ rfl hl.1 rfl (Nat.le_of_ble_eq_true rfl) d_Ben_base_1 ⟨Nat.le_of_ble_eq_true rfl, Nat.le_of_ble_eq_true rfl⟩ (fun M1 H locs hp X => ?_)
  rw [hp] at X
  exact absurd h1 hbad
theorem t_Ben_none (l : Launch) (hst : l.stackTraces = false) (E : gm_E) (M : gm_M) {a : Nat} {p1 : Int32} (hbad : ¬ (inR p1 4)) : ct_ l y_Ben_none b_Ben_none 2 none { frames := 7, cells := 1, slots := 6, locals := 120 } E M [.ref a, .int p1] := by
  refine gm_metT (by decide) (Nat.le_of_ble_eq_true rfl) (fun p e s m below meth c ls hx hb hml hlk hown hW ht X hl => ?_)
  have hl : lv_has ls 2 [(0, .ref a), (1, .int p1)] := hl
  refine lv_iload_n hx hb d_Ben_none_0 rfl (lv_at hl 1 rfl) ?_
  by_cases h1 : inR p1 4
  rotate_left
  · exact gm_St hx hb hml hown hW X (t_Ben_needPoint l hst E M h1) (n := 1) ⟨⟨wl_Ben_144, ws_Ben_needPoint, winit_Ben, wc_Ben_needPoint⟩, by decide +kernel, Nat.le_of_ble_eq_true rfl, Nat.le_of_ble_eq_true rfl⟩ rfl hl.1 rfl (Nat.le_of_ble_eq_true rfl) d_Ben_none_1 ⟨Nat.le_of_ble_eq_true rfl, Nat.le_of_ble_eq_true rfl⟩ (fun q9 ce H locs X e1 e2 e3 => gm_out ht hlk X e1 e2 e3 ⟨by decide, by decide⟩)
  refine gm_Sv hx hb hml hown hW X (n_Ben_needPoint l E _ h1) (n := 1) ⟨⟨wl_Ben_144, ws_Ben_needPoint, winit_Ben, wc_Ben_needPoint⟩, by decide +kernel, Nat.le_of_ble_eq_true rfl, Nat.le_of_ble_eq_true rfl⟩ rfl hl.1 rfl (Nat.le_of_ble_eq_true rfl) d_Ben_none_1 ⟨Nat.le_of_ble_eq_true rfl, Nat.le_of_ble_eq_true rfl⟩ (fun M1 H locs hp X => ?_)
  rw [hp] at X
  exact absurd h1 hbad
theorem t_Ben_lay (l : Launch) (hst : l.stackTraces = false) (E : gm_E) (M : gm_M) {a : Nat} {p1 : Int32} {p2 : Int32} {p3 : Int32} (hbad : ¬ (inR p1 4 ∧ inR p2 8 ∧ inR p3 8)) : ct_ l y_Ben_lay b_Ben_lay 4 (some .boolean) { frames := 7, cells := 3, slots := 18, locals := 120 } E M [.ref a, .int p1, .int p2, .int p3] := by
  refine gm_metT (by decide) (Nat.le_of_ble_eq_true rfl) (fun p e s m below meth c ls hx hb hml hlk hown hW ht X hl => ?_)
  have hl : lv_has ls 4 [(0, .ref a), (1, .int p1), (2, .int p2), (3, .int p3)] := hl
  refine lv_iload_n hx hb d_Ben_lay_0 rfl (lv_at hl 1 rfl) ?_
  by_cases h1 : inR p1 4
  rotate_left
  · exact gm_St hx hb hml hown hW X (t_Ben_needPoint l hst E M h1) (n := 1) ⟨⟨wl_Ben_144, ws_Ben_needPoint, winit_Ben, wc_Ben_needPoint⟩, by decide +kernel, Nat.le_of_ble_eq_true rfl, Nat.le_of_ble_eq_true rfl⟩ rfl hl.1 rfl (Nat.le_of_ble_eq_true rfl) d_Ben_lay_1 ⟨Nat.le_of_ble_eq_true rfl, Nat.le_of_ble_eq_true rfl⟩ (fun q9 ce H locs X e1 e2 e3 => gm_out ht hlk X e1 e2 e3 ⟨by decide, by decide⟩)
  refine gm_Sv hx hb hml hown hW X (n_Ben_needPoint l E _ h1) (n := 1) ⟨⟨wl_Ben_144, ws_Ben_needPoint, winit_Ben, wc_Ben_needPoint⟩, by decide +kernel, Nat.le_of_ble_eq_true rfl, Nat.le_of_ble_eq_true rfl⟩ rfl hl.1 rfl (Nat.le_of_ble_eq_true rfl) d_Ben_lay_1 ⟨Nat.le_of_ble_eq_true rfl, Nat.le_of_ble_eq_true rfl⟩ (fun M1 H locs hp X => ?_)
  rw [hp] at X
  refine lv_iload_n hx hb d_Ben_lay_4 rfl (lv_at hl 2 rfl) ?_
  by_cases h2 : inR p2 8
  rotate_left
  · exact gm_St hx hb hml hown hW X (t_Ben_needNumber l hst E M h2) (n := 1) ⟨⟨wl_Ben_111, ws_Ben_needNumber, winit_Ben, wc_Ben_needNumber⟩, by decide +kernel, Nat.le_of_ble_eq_true rfl, Nat.le_of_ble_eq_true rfl⟩ rfl hl.1 rfl (Nat.le_of_ble_eq_true rfl) d_Ben_lay_5 ⟨Nat.le_of_ble_eq_true rfl, Nat.le_of_ble_eq_true rfl⟩ (fun q9 ce H locs X e1 e2 e3 => gm_out ht hlk X e1 e2 e3 ⟨by decide, by decide⟩)
  refine gm_Sv hx hb hml hown hW X (n_Ben_needNumber l E _ h2) (n := 1) ⟨⟨wl_Ben_111, ws_Ben_needNumber, winit_Ben, wc_Ben_needNumber⟩, by decide +kernel, Nat.le_of_ble_eq_true rfl, Nat.le_of_ble_eq_true rfl⟩ rfl hl.1 rfl (Nat.le_of_ble_eq_true rfl) d_Ben_lay_5 ⟨Nat.le_of_ble_eq_true rfl, Nat.le_of_ble_eq_true rfl⟩ (fun M1 H locs hp X => ?_)
  rw [hp] at X
  refine lv_iload_n hx hb d_Ben_lay_8 rfl (lv_at hl 3 rfl) ?_
  by_cases h3 : inR p3 8
  rotate_left
  · exact gm_St hx hb hml hown hW X (t_Ben_needNumber l hst E M h3) (n := 1) ⟨⟨wl_Ben_111, ws_Ben_needNumber, winit_Ben, wc_Ben_needNumber⟩, by decide +kernel, Nat.le_of_ble_eq_true rfl, Nat.le_of_ble_eq_true rfl⟩ rfl hl.1 rfl (Nat.le_of_ble_eq_true rfl) d_Ben_lay_9 ⟨Nat.le_of_ble_eq_true rfl, Nat.le_of_ble_eq_true rfl⟩ (fun q9 ce H locs X e1 e2 e3 => gm_out ht hlk X e1 e2 e3 ⟨by decide, by decide⟩)
  refine gm_Sv hx hb hml hown hW X (n_Ben_needNumber l E _ h3) (n := 1) ⟨⟨wl_Ben_111, ws_Ben_needNumber, winit_Ben, wc_Ben_needNumber⟩, by decide +kernel, Nat.le_of_ble_eq_true rfl, Nat.le_of_ble_eq_true rfl⟩ rfl hl.1 rfl (Nat.le_of_ble_eq_true rfl) d_Ben_lay_9 ⟨Nat.le_of_ble_eq_true rfl, Nat.le_of_ble_eq_true rfl⟩ (fun M1 H locs hp X => ?_)
  rw [hp] at X
  exact absurd ⟨h1, h2, h3⟩ hbad
theorem t_Ben_lift (l : Launch) (hst : l.stackTraces = false) (E : gm_E) (M : gm_M) {a : Nat} {p1 : Int32} {p2 : Int32} {p3 : Int32} (hbad : ¬ (inR p1 4 ∧ inR p2 8)) : ct_ l y_Ben_lift b_Ben_lift 4 (some .boolean) { frames := 7, cells := 2, slots := 12, locals := 120 } E M [.ref a, .int p1, .int p2, .int p3] := by
  refine gm_metT (by decide) (Nat.le_of_ble_eq_true rfl) (fun p e s m below meth c ls hx hb hml hlk hown hW ht X hl => ?_)
  have hl : lv_has ls 4 [(0, .ref a), (1, .int p1), (2, .int p2), (3, .int p3)] := hl
  refine lv_iload_n hx hb d_Ben_lift_0 rfl (lv_at hl 1 rfl) ?_
  by_cases h1 : inR p1 4
  rotate_left
  · exact gm_St hx hb hml hown hW X (t_Ben_needPoint l hst E M h1) (n := 1) ⟨⟨wl_Ben_144, ws_Ben_needPoint, winit_Ben, wc_Ben_needPoint⟩, by decide +kernel, Nat.le_of_ble_eq_true rfl, Nat.le_of_ble_eq_true rfl⟩ rfl hl.1 rfl (Nat.le_of_ble_eq_true rfl) d_Ben_lift_1 ⟨Nat.le_of_ble_eq_true rfl, Nat.le_of_ble_eq_true rfl⟩ (fun q9 ce H locs X e1 e2 e3 => gm_out ht hlk X e1 e2 e3 ⟨by decide, by decide⟩)
  refine gm_Sv hx hb hml hown hW X (n_Ben_needPoint l E _ h1) (n := 1) ⟨⟨wl_Ben_144, ws_Ben_needPoint, winit_Ben, wc_Ben_needPoint⟩, by decide +kernel, Nat.le_of_ble_eq_true rfl, Nat.le_of_ble_eq_true rfl⟩ rfl hl.1 rfl (Nat.le_of_ble_eq_true rfl) d_Ben_lift_1 ⟨Nat.le_of_ble_eq_true rfl, Nat.le_of_ble_eq_true rfl⟩ (fun M1 H locs hp X => ?_)
  rw [hp] at X
  refine lv_iload_n hx hb d_Ben_lift_4 rfl (lv_at hl 2 rfl) ?_
  by_cases h2 : inR p2 8
  rotate_left
  · exact gm_St hx hb hml hown hW X (t_Ben_needNumber l hst E M h2) (n := 1) ⟨⟨wl_Ben_111, ws_Ben_needNumber, winit_Ben, wc_Ben_needNumber⟩, by decide +kernel, Nat.le_of_ble_eq_true rfl, Nat.le_of_ble_eq_true rfl⟩ rfl hl.1 rfl (Nat.le_of_ble_eq_true rfl) d_Ben_lift_5 ⟨Nat.le_of_ble_eq_true rfl, Nat.le_of_ble_eq_true rfl⟩ (fun q9 ce H locs X e1 e2 e3 => gm_out ht hlk X e1 e2 e3 ⟨by decide, by decide⟩)
  refine gm_Sv hx hb hml hown hW X (n_Ben_needNumber l E _ h2) (n := 1) ⟨⟨wl_Ben_111, ws_Ben_needNumber, winit_Ben, wc_Ben_needNumber⟩, by decide +kernel, Nat.le_of_ble_eq_true rfl, Nat.le_of_ble_eq_true rfl⟩ rfl hl.1 rfl (Nat.le_of_ble_eq_true rfl) d_Ben_lift_5 ⟨Nat.le_of_ble_eq_true rfl, Nat.le_of_ble_eq_true rfl⟩ (fun M1 H locs hp X => ?_)
  rw [hp] at X
  exact absurd ⟨h1, h2⟩ hbad
theorem t_Ben_show (l : Launch) (hst : l.stackTraces = false) (E : gm_E) (M : gm_M) {a : Nat} {p1 : Int32} {p2 : Int32} {p3 : Int32} (hbad : ¬ (inR p1 4 ∧ inR p2 8 ∧ inR p3 8)) : ct_ l y_Ben_show b_Ben_show 4 (some .boolean) { frames := 7, cells := 3, slots := 18, locals := 120 } E M [.ref a, .int p1, .int p2, .int p3] := by
  refine gm_metT (by decide) (Nat.le_of_ble_eq_true rfl) (fun p e s m below meth c ls hx hb hml hlk hown hW ht X hl => ?_)
  have hl : lv_has ls 4 [(0, .ref a), (1, .int p1), (2, .int p2), (3, .int p3)] := hl
  refine lv_iload_n hx hb d_Ben_show_0 rfl (lv_at hl 1 rfl) ?_
  by_cases h1 : inR p1 4
  rotate_left
  · exact gm_St hx hb hml hown hW X (t_Ben_needPoint l hst E M h1) (n := 1) ⟨⟨wl_Ben_144, ws_Ben_needPoint, winit_Ben, wc_Ben_needPoint⟩, by decide +kernel, Nat.le_of_ble_eq_true rfl, Nat.le_of_ble_eq_true rfl⟩ rfl hl.1 rfl (Nat.le_of_ble_eq_true rfl) d_Ben_show_1 ⟨Nat.le_of_ble_eq_true rfl, Nat.le_of_ble_eq_true rfl⟩ (fun q9 ce H locs X e1 e2 e3 => gm_out ht hlk X e1 e2 e3 ⟨by decide, by decide⟩)
  refine gm_Sv hx hb hml hown hW X (n_Ben_needPoint l E _ h1) (n := 1) ⟨⟨wl_Ben_144, ws_Ben_needPoint, winit_Ben, wc_Ben_needPoint⟩, by decide +kernel, Nat.le_of_ble_eq_true rfl, Nat.le_of_ble_eq_true rfl⟩ rfl hl.1 rfl (Nat.le_of_ble_eq_true rfl) d_Ben_show_1 ⟨Nat.le_of_ble_eq_true rfl, Nat.le_of_ble_eq_true rfl⟩ (fun M1 H locs hp X => ?_)
  rw [hp] at X
  refine lv_iload_n hx hb d_Ben_show_4 rfl (lv_at hl 2 rfl) ?_
  by_cases h2 : inR p2 8
  rotate_left
  · exact gm_St hx hb hml hown hW X (t_Ben_needNumber l hst E M h2) (n := 1) ⟨⟨wl_Ben_111, ws_Ben_needNumber, winit_Ben, wc_Ben_needNumber⟩, by decide +kernel, Nat.le_of_ble_eq_true rfl, Nat.le_of_ble_eq_true rfl⟩ rfl hl.1 rfl (Nat.le_of_ble_eq_true rfl) d_Ben_show_5 ⟨Nat.le_of_ble_eq_true rfl, Nat.le_of_ble_eq_true rfl⟩ (fun q9 ce H locs X e1 e2 e3 => gm_out ht hlk X e1 e2 e3 ⟨by decide, by decide⟩)
  refine gm_Sv hx hb hml hown hW X (n_Ben_needNumber l E _ h2) (n := 1) ⟨⟨wl_Ben_111, ws_Ben_needNumber, winit_Ben, wc_Ben_needNumber⟩, by decide +kernel, Nat.le_of_ble_eq_true rfl, Nat.le_of_ble_eq_true rfl⟩ rfl hl.1 rfl (Nat.le_of_ble_eq_true rfl) d_Ben_show_5 ⟨Nat.le_of_ble_eq_true rfl, Nat.le_of_ble_eq_true rfl⟩ (fun M1 H locs hp X => ?_)
  rw [hp] at X
  refine lv_iload_n hx hb d_Ben_show_8 rfl (lv_at hl 3 rfl) ?_
  by_cases h3 : inR p3 8
  rotate_left
  · exact gm_St hx hb hml hown hW X (t_Ben_needNumber l hst E M h3) (n := 1) ⟨⟨wl_Ben_111, ws_Ben_needNumber, winit_Ben, wc_Ben_needNumber⟩, by decide +kernel, Nat.le_of_ble_eq_true rfl, Nat.le_of_ble_eq_true rfl⟩ rfl hl.1 rfl (Nat.le_of_ble_eq_true rfl) d_Ben_show_9 ⟨Nat.le_of_ble_eq_true rfl, Nat.le_of_ble_eq_true rfl⟩ (fun q9 ce H locs X e1 e2 e3 => gm_out ht hlk X e1 e2 e3 ⟨by decide, by decide⟩)
  refine gm_Sv hx hb hml hown hW X (n_Ben_needNumber l E _ h3) (n := 1) ⟨⟨wl_Ben_111, ws_Ben_needNumber, winit_Ben, wc_Ben_needNumber⟩, by decide +kernel, Nat.le_of_ble_eq_true rfl, Nat.le_of_ble_eq_true rfl⟩ rfl hl.1 rfl (Nat.le_of_ble_eq_true rfl) d_Ben_show_9 ⟨Nat.le_of_ble_eq_true rfl, Nat.le_of_ble_eq_true rfl⟩ (fun M1 H locs hp X => ?_)
  rw [hp] at X
  exact absurd ⟨h1, h2, h3⟩ hbad
theorem t_Ben_add (l : Launch) (hst : l.stackTraces = false) (E : gm_E) (M : gm_M) {a : Nat} {p1 : Int32} {p2 : Int32} {p3 : Int32} (hbad : ¬ (inR p1 4 ∧ inR p2 4 ∧ inR p3 4)) : ct_ l y_Ben_add b_Ben_add 4 none { frames := 7, cells := 3, slots := 18, locals := 152 } E M [.ref a, .int p1, .int p2, .int p3] := by
  refine gm_metT (by decide) (Nat.le_of_ble_eq_true rfl) (fun p e s m below meth c ls hx hb hml hlk hown hW ht X hl => ?_)
  have hl : lv_has ls 4 [(0, .ref a), (1, .int p1), (2, .int p2), (3, .int p3)] := hl
  refine lv_iload_n hx hb d_Ben_add_0 rfl (lv_at hl 1 rfl) ?_
  by_cases h1 : inR p1 4
  rotate_left
  · exact gm_St hx hb hml hown hW X (t_Ben_needPoint l hst E M h1) (n := 1) ⟨⟨wl_Ben_144, ws_Ben_needPoint, winit_Ben, wc_Ben_needPoint⟩, by decide +kernel, Nat.le_of_ble_eq_true rfl, Nat.le_of_ble_eq_true rfl⟩ rfl hl.1 rfl (Nat.le_of_ble_eq_true rfl) d_Ben_add_1 ⟨Nat.le_of_ble_eq_true rfl, Nat.le_of_ble_eq_true rfl⟩ (fun q9 ce H locs X e1 e2 e3 => gm_out ht hlk X e1 e2 e3 ⟨by decide, by decide⟩)
  refine gm_Sv hx hb hml hown hW X (n_Ben_needPoint l E _ h1) (n := 1) ⟨⟨wl_Ben_144, ws_Ben_needPoint, winit_Ben, wc_Ben_needPoint⟩, by decide +kernel, Nat.le_of_ble_eq_true rfl, Nat.le_of_ble_eq_true rfl⟩ rfl hl.1 rfl (Nat.le_of_ble_eq_true rfl) d_Ben_add_1 ⟨Nat.le_of_ble_eq_true rfl, Nat.le_of_ble_eq_true rfl⟩ (fun M1 H locs hp X => ?_)
  rw [hp] at X
  refine lv_iload_n hx hb d_Ben_add_4 rfl (lv_at hl 2 rfl) ?_
  by_cases h2 : inR p2 4
  rotate_left
  · exact gm_St hx hb hml hown hW X (t_Ben_needPoint l hst E M h2) (n := 1) ⟨⟨wl_Ben_144, ws_Ben_needPoint, winit_Ben, wc_Ben_needPoint⟩, by decide +kernel, Nat.le_of_ble_eq_true rfl, Nat.le_of_ble_eq_true rfl⟩ rfl hl.1 rfl (Nat.le_of_ble_eq_true rfl) d_Ben_add_5 ⟨Nat.le_of_ble_eq_true rfl, Nat.le_of_ble_eq_true rfl⟩ (fun q9 ce H locs X e1 e2 e3 => gm_out ht hlk X e1 e2 e3 ⟨by decide, by decide⟩)
  refine gm_Sv hx hb hml hown hW X (n_Ben_needPoint l E _ h2) (n := 1) ⟨⟨wl_Ben_144, ws_Ben_needPoint, winit_Ben, wc_Ben_needPoint⟩, by decide +kernel, Nat.le_of_ble_eq_true rfl, Nat.le_of_ble_eq_true rfl⟩ rfl hl.1 rfl (Nat.le_of_ble_eq_true rfl) d_Ben_add_5 ⟨Nat.le_of_ble_eq_true rfl, Nat.le_of_ble_eq_true rfl⟩ (fun M1 H locs hp X => ?_)
  rw [hp] at X
  refine lv_iload_n hx hb d_Ben_add_8 rfl (lv_at hl 3 rfl) ?_
  by_cases h3 : inR p3 4
  rotate_left
  · exact gm_St hx hb hml hown hW X (t_Ben_needPoint l hst E M h3) (n := 1) ⟨⟨wl_Ben_144, ws_Ben_needPoint, winit_Ben, wc_Ben_needPoint⟩, by decide +kernel, Nat.le_of_ble_eq_true rfl, Nat.le_of_ble_eq_true rfl⟩ rfl hl.1 rfl (Nat.le_of_ble_eq_true rfl) d_Ben_add_9 ⟨Nat.le_of_ble_eq_true rfl, Nat.le_of_ble_eq_true rfl⟩ (fun q9 ce H locs X e1 e2 e3 => gm_out ht hlk X e1 e2 e3 ⟨by decide, by decide⟩)
  refine gm_Sv hx hb hml hown hW X (n_Ben_needPoint l E _ h3) (n := 1) ⟨⟨wl_Ben_144, ws_Ben_needPoint, winit_Ben, wc_Ben_needPoint⟩, by decide +kernel, Nat.le_of_ble_eq_true rfl, Nat.le_of_ble_eq_true rfl⟩ rfl hl.1 rfl (Nat.le_of_ble_eq_true rfl) d_Ben_add_9 ⟨Nat.le_of_ble_eq_true rfl, Nat.le_of_ble_eq_true rfl⟩ (fun M1 H locs hp X => ?_)
  rw [hp] at X
  exact absurd ⟨h1, h2, h3⟩ hbad
theorem t_Ben_times (l : Launch) (hst : l.stackTraces = false) (E : gm_E) (M : gm_M) {a : Nat} {p1 : Int32} {p2 : Int32} {p3 : Int32} (hbad : ¬ (inR p1 4 ∧ inR p2 8 ∧ inR p3 4)) : ct_ l y_Ben_times b_Ben_times 4 none { frames := 7, cells := 3, slots := 18, locals := 152 } E M [.ref a, .int p1, .int p2, .int p3] := by
  refine gm_metT (by decide) (Nat.le_of_ble_eq_true rfl) (fun p e s m below meth c ls hx hb hml hlk hown hW ht X hl => ?_)
  have hl : lv_has ls 4 [(0, .ref a), (1, .int p1), (2, .int p2), (3, .int p3)] := hl
  refine lv_iload_n hx hb d_Ben_times_0 rfl (lv_at hl 1 rfl) ?_
  by_cases h1 : inR p1 4
  rotate_left
  · exact gm_St hx hb hml hown hW X (t_Ben_needPoint l hst E M h1) (n := 1) ⟨⟨wl_Ben_144, ws_Ben_needPoint, winit_Ben, wc_Ben_needPoint⟩, by decide +kernel, Nat.le_of_ble_eq_true rfl, Nat.le_of_ble_eq_true rfl⟩ rfl hl.1 rfl (Nat.le_of_ble_eq_true rfl) d_Ben_times_1 ⟨Nat.le_of_ble_eq_true rfl, Nat.le_of_ble_eq_true rfl⟩ (fun q9 ce H locs X e1 e2 e3 => gm_out ht hlk X e1 e2 e3 ⟨by decide, by decide⟩)
  refine gm_Sv hx hb hml hown hW X (n_Ben_needPoint l E _ h1) (n := 1) ⟨⟨wl_Ben_144, ws_Ben_needPoint, winit_Ben, wc_Ben_needPoint⟩, by decide +kernel, Nat.le_of_ble_eq_true rfl, Nat.le_of_ble_eq_true rfl⟩ rfl hl.1 rfl (Nat.le_of_ble_eq_true rfl) d_Ben_times_1 ⟨Nat.le_of_ble_eq_true rfl, Nat.le_of_ble_eq_true rfl⟩ (fun M1 H locs hp X => ?_)
  rw [hp] at X
  refine lv_iload_n hx hb d_Ben_times_4 rfl (lv_at hl 2 rfl) ?_
  by_cases h2 : inR p2 8
  rotate_left
  · exact gm_St hx hb hml hown hW X (t_Ben_needNumber l hst E M h2) (n := 1) ⟨⟨wl_Ben_111, ws_Ben_needNumber, winit_Ben, wc_Ben_needNumber⟩, by decide +kernel, Nat.le_of_ble_eq_true rfl, Nat.le_of_ble_eq_true rfl⟩ rfl hl.1 rfl (Nat.le_of_ble_eq_true rfl) d_Ben_times_5 ⟨Nat.le_of_ble_eq_true rfl, Nat.le_of_ble_eq_true rfl⟩ (fun q9 ce H locs X e1 e2 e3 => gm_out ht hlk X e1 e2 e3 ⟨by decide, by decide⟩)
  refine gm_Sv hx hb hml hown hW X (n_Ben_needNumber l E _ h2) (n := 1) ⟨⟨wl_Ben_111, ws_Ben_needNumber, winit_Ben, wc_Ben_needNumber⟩, by decide +kernel, Nat.le_of_ble_eq_true rfl, Nat.le_of_ble_eq_true rfl⟩ rfl hl.1 rfl (Nat.le_of_ble_eq_true rfl) d_Ben_times_5 ⟨Nat.le_of_ble_eq_true rfl, Nat.le_of_ble_eq_true rfl⟩ (fun M1 H locs hp X => ?_)
  rw [hp] at X
  refine lv_iload_n hx hb d_Ben_times_8 rfl (lv_at hl 3 rfl) ?_
  by_cases h3 : inR p3 4
  rotate_left
  · exact gm_St hx hb hml hown hW X (t_Ben_needPoint l hst E M h3) (n := 1) ⟨⟨wl_Ben_144, ws_Ben_needPoint, winit_Ben, wc_Ben_needPoint⟩, by decide +kernel, Nat.le_of_ble_eq_true rfl, Nat.le_of_ble_eq_true rfl⟩ rfl hl.1 rfl (Nat.le_of_ble_eq_true rfl) d_Ben_times_9 ⟨Nat.le_of_ble_eq_true rfl, Nat.le_of_ble_eq_true rfl⟩ (fun q9 ce H locs X e1 e2 e3 => gm_out ht hlk X e1 e2 e3 ⟨by decide, by decide⟩)
  refine gm_Sv hx hb hml hown hW X (n_Ben_needPoint l E _ h3) (n := 1) ⟨⟨wl_Ben_144, ws_Ben_needPoint, winit_Ben, wc_Ben_needPoint⟩, by decide +kernel, Nat.le_of_ble_eq_true rfl, Nat.le_of_ble_eq_true rfl⟩ rfl hl.1 rfl (Nat.le_of_ble_eq_true rfl) d_Ben_times_9 ⟨Nat.le_of_ble_eq_true rfl, Nat.le_of_ble_eq_true rfl⟩ (fun M1 H locs hp X => ?_)
  rw [hp] at X
  exact absurd ⟨h1, h2, h3⟩ hbad
theorem t_Ben_same (l : Launch) (hst : l.stackTraces = false) (E : gm_E) (M : gm_M) {a : Nat} {p1 : Int32} {p2 : Int32} (hbad : ¬ (inR p1 4 ∧ inR p2 4)) : ct_ l y_Ben_same b_Ben_same 3 (some .boolean) { frames := 7, cells := 2, slots := 12, locals := 120 } E M [.ref a, .int p1, .int p2] := by
  refine gm_metT (by decide) (Nat.le_of_ble_eq_true rfl) (fun p e s m below meth c ls hx hb hml hlk hown hW ht X hl => ?_)
  have hl : lv_has ls 3 [(0, .ref a), (1, .int p1), (2, .int p2)] := hl
  refine lv_iload_n hx hb d_Ben_same_0 rfl (lv_at hl 1 rfl) ?_
  by_cases h1 : inR p1 4
  rotate_left
  · exact gm_St hx hb hml hown hW X (t_Ben_needPoint l hst E M h1) (n := 1) ⟨⟨wl_Ben_144, ws_Ben_needPoint, winit_Ben, wc_Ben_needPoint⟩, by decide +kernel, Nat.le_of_ble_eq_true rfl, Nat.le_of_ble_eq_true rfl⟩ rfl hl.1 rfl (Nat.le_of_ble_eq_true rfl) d_Ben_same_1 ⟨Nat.le_of_ble_eq_true rfl, Nat.le_of_ble_eq_true rfl⟩ (fun q9 ce H locs X e1 e2 e3 => gm_out ht hlk X e1 e2 e3 ⟨by decide, by decide⟩)
  refine gm_Sv hx hb hml hown hW X (n_Ben_needPoint l E _ h1) (n := 1) ⟨⟨wl_Ben_144, ws_Ben_needPoint, winit_Ben, wc_Ben_needPoint⟩, by decide +kernel, Nat.le_of_ble_eq_true rfl, Nat.le_of_ble_eq_true rfl⟩ rfl hl.1 rfl (Nat.le_of_ble_eq_true rfl) d_Ben_same_1 ⟨Nat.le_of_ble_eq_true rfl, Nat.le_of_ble_eq_true rfl⟩ (fun M1 H locs hp X => ?_)
  rw [hp] at X
  refine lv_iload_n hx hb d_Ben_same_4 rfl (lv_at hl 2 rfl) ?_
  by_cases h2 : inR p2 4
  rotate_left
  · exact gm_St hx hb hml hown hW X (t_Ben_needPoint l hst E M h2) (n := 1) ⟨⟨wl_Ben_144, ws_Ben_needPoint, winit_Ben, wc_Ben_needPoint⟩, by decide +kernel, Nat.le_of_ble_eq_true rfl, Nat.le_of_ble_eq_true rfl⟩ rfl hl.1 rfl (Nat.le_of_ble_eq_true rfl) d_Ben_same_5 ⟨Nat.le_of_ble_eq_true rfl, Nat.le_of_ble_eq_true rfl⟩ (fun q9 ce H locs X e1 e2 e3 => gm_out ht hlk X e1 e2 e3 ⟨by decide, by decide⟩)
  refine gm_Sv hx hb hml hown hW X (n_Ben_needPoint l E _ h2) (n := 1) ⟨⟨wl_Ben_144, ws_Ben_needPoint, winit_Ben, wc_Ben_needPoint⟩, by decide +kernel, Nat.le_of_ble_eq_true rfl, Nat.le_of_ble_eq_true rfl⟩ rfl hl.1 rfl (Nat.le_of_ble_eq_true rfl) d_Ben_same_5 ⟨Nat.le_of_ble_eq_true rfl, Nat.le_of_ble_eq_true rfl⟩ (fun M1 H locs hp X => ?_)
  rw [hp] at X
  exact absurd ⟨h1, h2⟩ hbad
theorem t_Ben_sign (l : Launch) (hst : l.stackTraces = false) (E : gm_E) (M : gm_M) {a : Nat} {p1 : Int32} {p2 : Int32} {p3 : Int32} {p4 : Int32} {p5 : Int32} (hbad : ¬ (inR p1 8 ∧ inR p2 8 ∧ inR p3 8 ∧ inR p4 8 ∧ inR p5 8)) : ct_ l y_Ben_sign b_Ben_sign 6 (some .boolean) { frames := 7, cells := 5, slots := 30, locals := 152 } E M [.ref a, .int p1, .int p2, .int p3, .int p4, .int p5] := by
  refine gm_metT (by decide) (Nat.le_of_ble_eq_true rfl) (fun p e s m below meth c ls hx hb hml hlk hown hW ht X hl => ?_)
  have hl : lv_has ls 6 [(0, .ref a), (1, .int p1), (2, .int p2), (3, .int p3), (4, .int p4), (5, .int p5)] := hl
  refine lv_iload_n hx hb d_Ben_sign_0 rfl (lv_at hl 1 rfl) ?_
  by_cases h1 : inR p1 8
  rotate_left
  · exact gm_St hx hb hml hown hW X (t_Ben_needNumber l hst E M h1) (n := 1) ⟨⟨wl_Ben_111, ws_Ben_needNumber, winit_Ben, wc_Ben_needNumber⟩, by decide +kernel, Nat.le_of_ble_eq_true rfl, Nat.le_of_ble_eq_true rfl⟩ rfl hl.1 rfl (Nat.le_of_ble_eq_true rfl) d_Ben_sign_1 ⟨Nat.le_of_ble_eq_true rfl, Nat.le_of_ble_eq_true rfl⟩ (fun q9 ce H locs X e1 e2 e3 => gm_out ht hlk X e1 e2 e3 ⟨by decide, by decide⟩)
  refine gm_Sv hx hb hml hown hW X (n_Ben_needNumber l E _ h1) (n := 1) ⟨⟨wl_Ben_111, ws_Ben_needNumber, winit_Ben, wc_Ben_needNumber⟩, by decide +kernel, Nat.le_of_ble_eq_true rfl, Nat.le_of_ble_eq_true rfl⟩ rfl hl.1 rfl (Nat.le_of_ble_eq_true rfl) d_Ben_sign_1 ⟨Nat.le_of_ble_eq_true rfl, Nat.le_of_ble_eq_true rfl⟩ (fun M1 H locs hp X => ?_)
  rw [hp] at X
  refine lv_iload_n hx hb d_Ben_sign_4 rfl (lv_at hl 2 rfl) ?_
  by_cases h2 : inR p2 8
  rotate_left
  · exact gm_St hx hb hml hown hW X (t_Ben_needNumber l hst E M h2) (n := 1) ⟨⟨wl_Ben_111, ws_Ben_needNumber, winit_Ben, wc_Ben_needNumber⟩, by decide +kernel, Nat.le_of_ble_eq_true rfl, Nat.le_of_ble_eq_true rfl⟩ rfl hl.1 rfl (Nat.le_of_ble_eq_true rfl) d_Ben_sign_5 ⟨Nat.le_of_ble_eq_true rfl, Nat.le_of_ble_eq_true rfl⟩ (fun q9 ce H locs X e1 e2 e3 => gm_out ht hlk X e1 e2 e3 ⟨by decide, by decide⟩)
  refine gm_Sv hx hb hml hown hW X (n_Ben_needNumber l E _ h2) (n := 1) ⟨⟨wl_Ben_111, ws_Ben_needNumber, winit_Ben, wc_Ben_needNumber⟩, by decide +kernel, Nat.le_of_ble_eq_true rfl, Nat.le_of_ble_eq_true rfl⟩ rfl hl.1 rfl (Nat.le_of_ble_eq_true rfl) d_Ben_sign_5 ⟨Nat.le_of_ble_eq_true rfl, Nat.le_of_ble_eq_true rfl⟩ (fun M1 H locs hp X => ?_)
  rw [hp] at X
  refine lv_iload_n hx hb d_Ben_sign_8 rfl (lv_at hl 3 rfl) ?_
  by_cases h3 : inR p3 8
  rotate_left
  · exact gm_St hx hb hml hown hW X (t_Ben_needNumber l hst E M h3) (n := 1) ⟨⟨wl_Ben_111, ws_Ben_needNumber, winit_Ben, wc_Ben_needNumber⟩, by decide +kernel, Nat.le_of_ble_eq_true rfl, Nat.le_of_ble_eq_true rfl⟩ rfl hl.1 rfl (Nat.le_of_ble_eq_true rfl) d_Ben_sign_9 ⟨Nat.le_of_ble_eq_true rfl, Nat.le_of_ble_eq_true rfl⟩ (fun q9 ce H locs X e1 e2 e3 => gm_out ht hlk X e1 e2 e3 ⟨by decide, by decide⟩)
  refine gm_Sv hx hb hml hown hW X (n_Ben_needNumber l E _ h3) (n := 1) ⟨⟨wl_Ben_111, ws_Ben_needNumber, winit_Ben, wc_Ben_needNumber⟩, by decide +kernel, Nat.le_of_ble_eq_true rfl, Nat.le_of_ble_eq_true rfl⟩ rfl hl.1 rfl (Nat.le_of_ble_eq_true rfl) d_Ben_sign_9 ⟨Nat.le_of_ble_eq_true rfl, Nat.le_of_ble_eq_true rfl⟩ (fun M1 H locs hp X => ?_)
  rw [hp] at X
  refine lv_iload hx hb d_Ben_sign_12 (lv_at hl 4 rfl) ?_
  by_cases h4 : inR p4 8
  rotate_left
  · exact gm_St hx hb hml hown hW X (t_Ben_needNumber l hst E M h4) (n := 1) ⟨⟨wl_Ben_111, ws_Ben_needNumber, winit_Ben, wc_Ben_needNumber⟩, by decide +kernel, Nat.le_of_ble_eq_true rfl, Nat.le_of_ble_eq_true rfl⟩ rfl hl.1 rfl (Nat.le_of_ble_eq_true rfl) d_Ben_sign_14 ⟨Nat.le_of_ble_eq_true rfl, Nat.le_of_ble_eq_true rfl⟩ (fun q9 ce H locs X e1 e2 e3 => gm_out ht hlk X e1 e2 e3 ⟨by decide, by decide⟩)
  refine gm_Sv hx hb hml hown hW X (n_Ben_needNumber l E _ h4) (n := 1) ⟨⟨wl_Ben_111, ws_Ben_needNumber, winit_Ben, wc_Ben_needNumber⟩, by decide +kernel, Nat.le_of_ble_eq_true rfl, Nat.le_of_ble_eq_true rfl⟩ rfl hl.1 rfl (Nat.le_of_ble_eq_true rfl) d_Ben_sign_14 ⟨Nat.le_of_ble_eq_true rfl, Nat.le_of_ble_eq_true rfl⟩ (fun M1 H locs hp X => ?_)
  rw [hp] at X
  refine lv_iload hx hb d_Ben_sign_17 (lv_at hl 5 rfl) ?_
  by_cases h5 : inR p5 8
  rotate_left
  · exact gm_St hx hb hml hown hW X (t_Ben_needNumber l hst E M h5) (n := 1) ⟨⟨wl_Ben_111, ws_Ben_needNumber, winit_Ben, wc_Ben_needNumber⟩, by decide +kernel, Nat.le_of_ble_eq_true rfl, Nat.le_of_ble_eq_true rfl⟩ rfl hl.1 rfl (Nat.le_of_ble_eq_true rfl) d_Ben_sign_19 ⟨Nat.le_of_ble_eq_true rfl, Nat.le_of_ble_eq_true rfl⟩ (fun q9 ce H locs X e1 e2 e3 => gm_out ht hlk X e1 e2 e3 ⟨by decide, by decide⟩)
  refine gm_Sv hx hb hml hown hW X (n_Ben_needNumber l E _ h5) (n := 1) ⟨⟨wl_Ben_111, ws_Ben_needNumber, winit_Ben, wc_Ben_needNumber⟩, by decide +kernel, Nat.le_of_ble_eq_true rfl, Nat.le_of_ble_eq_true rfl⟩ rfl hl.1 rfl (Nat.le_of_ble_eq_true rfl) d_Ben_sign_19 ⟨Nat.le_of_ble_eq_true rfl, Nat.le_of_ble_eq_true rfl⟩ (fun M1 H locs hp X => ?_)
  rw [hp] at X
  exact absurd ⟨h1, h2, h3, h4, h5⟩ hbad
theorem t_Ben_verify (l : Launch) (hst : l.stackTraces = false) (E : gm_E) (M : gm_M) {a : Nat} {p1 : Int32} {p2 : Int32} {p3 : Int32} {p4 : Int32} (hbad : ¬ (inR p1 4 ∧ inR p2 8 ∧ inR p3 8 ∧ inR p4 8)) : ct_ l y_Ben_verify b_Ben_verify 5 (some .boolean) { frames := 7, cells := 4, slots := 24, locals := 152 } E M [.ref a, .int p1, .int p2, .int p3, .int p4] := by
  refine gm_metT (by decide) (Nat.le_of_ble_eq_true rfl) (fun p e s m below meth c ls hx hb hml hlk hown hW ht X hl => ?_)
  have hl : lv_has ls 5 [(0, .ref a), (1, .int p1), (2, .int p2), (3, .int p3), (4, .int p4)] := hl
  refine lv_iload_n hx hb d_Ben_verify_0 rfl (lv_at hl 1 rfl) ?_
  by_cases h1 : inR p1 4
  rotate_left
  · exact gm_St hx hb hml hown hW X (t_Ben_needPoint l hst E M h1) (n := 1) ⟨⟨wl_Ben_144, ws_Ben_needPoint, winit_Ben, wc_Ben_needPoint⟩, by decide +kernel, Nat.le_of_ble_eq_true rfl, Nat.le_of_ble_eq_true rfl⟩ rfl hl.1 rfl (Nat.le_of_ble_eq_true rfl) d_Ben_verify_1 ⟨Nat.le_of_ble_eq_true rfl, Nat.le_of_ble_eq_true rfl⟩ (fun q9 ce H locs X e1 e2 e3 => gm_out ht hlk X e1 e2 e3 ⟨by decide, by decide⟩)
  refine gm_Sv hx hb hml hown hW X (n_Ben_needPoint l E _ h1) (n := 1) ⟨⟨wl_Ben_144, ws_Ben_needPoint, winit_Ben, wc_Ben_needPoint⟩, by decide +kernel, Nat.le_of_ble_eq_true rfl, Nat.le_of_ble_eq_true rfl⟩ rfl hl.1 rfl (Nat.le_of_ble_eq_true rfl) d_Ben_verify_1 ⟨Nat.le_of_ble_eq_true rfl, Nat.le_of_ble_eq_true rfl⟩ (fun M1 H locs hp X => ?_)
  rw [hp] at X
  refine lv_iload_n hx hb d_Ben_verify_4 rfl (lv_at hl 2 rfl) ?_
  by_cases h2 : inR p2 8
  rotate_left
  · exact gm_St hx hb hml hown hW X (t_Ben_needNumber l hst E M h2) (n := 1) ⟨⟨wl_Ben_111, ws_Ben_needNumber, winit_Ben, wc_Ben_needNumber⟩, by decide +kernel, Nat.le_of_ble_eq_true rfl, Nat.le_of_ble_eq_true rfl⟩ rfl hl.1 rfl (Nat.le_of_ble_eq_true rfl) d_Ben_verify_5 ⟨Nat.le_of_ble_eq_true rfl, Nat.le_of_ble_eq_true rfl⟩ (fun q9 ce H locs X e1 e2 e3 => gm_out ht hlk X e1 e2 e3 ⟨by decide, by decide⟩)
  refine gm_Sv hx hb hml hown hW X (n_Ben_needNumber l E _ h2) (n := 1) ⟨⟨wl_Ben_111, ws_Ben_needNumber, winit_Ben, wc_Ben_needNumber⟩, by decide +kernel, Nat.le_of_ble_eq_true rfl, Nat.le_of_ble_eq_true rfl⟩ rfl hl.1 rfl (Nat.le_of_ble_eq_true rfl) d_Ben_verify_5 ⟨Nat.le_of_ble_eq_true rfl, Nat.le_of_ble_eq_true rfl⟩ (fun M1 H locs hp X => ?_)
  rw [hp] at X
  refine lv_iload_n hx hb d_Ben_verify_8 rfl (lv_at hl 3 rfl) ?_
  by_cases h3 : inR p3 8
  rotate_left
  · exact gm_St hx hb hml hown hW X (t_Ben_needNumber l hst E M h3) (n := 1) ⟨⟨wl_Ben_111, ws_Ben_needNumber, winit_Ben, wc_Ben_needNumber⟩, by decide +kernel, Nat.le_of_ble_eq_true rfl, Nat.le_of_ble_eq_true rfl⟩ rfl hl.1 rfl (Nat.le_of_ble_eq_true rfl) d_Ben_verify_9 ⟨Nat.le_of_ble_eq_true rfl, Nat.le_of_ble_eq_true rfl⟩ (fun q9 ce H locs X e1 e2 e3 => gm_out ht hlk X e1 e2 e3 ⟨by decide, by decide⟩)
  refine gm_Sv hx hb hml hown hW X (n_Ben_needNumber l E _ h3) (n := 1) ⟨⟨wl_Ben_111, ws_Ben_needNumber, winit_Ben, wc_Ben_needNumber⟩, by decide +kernel, Nat.le_of_ble_eq_true rfl, Nat.le_of_ble_eq_true rfl⟩ rfl hl.1 rfl (Nat.le_of_ble_eq_true rfl) d_Ben_verify_9 ⟨Nat.le_of_ble_eq_true rfl, Nat.le_of_ble_eq_true rfl⟩ (fun M1 H locs hp X => ?_)
  rw [hp] at X
  refine lv_iload hx hb d_Ben_verify_12 (lv_at hl 4 rfl) ?_
  by_cases h4 : inR p4 8
  rotate_left
  · exact gm_St hx hb hml hown hW X (t_Ben_needNumber l hst E M h4) (n := 1) ⟨⟨wl_Ben_111, ws_Ben_needNumber, winit_Ben, wc_Ben_needNumber⟩, by decide +kernel, Nat.le_of_ble_eq_true rfl, Nat.le_of_ble_eq_true rfl⟩ rfl hl.1 rfl (Nat.le_of_ble_eq_true rfl) d_Ben_verify_14 ⟨Nat.le_of_ble_eq_true rfl, Nat.le_of_ble_eq_true rfl⟩ (fun q9 ce H locs X e1 e2 e3 => gm_out ht hlk X e1 e2 e3 ⟨by decide, by decide⟩)
  refine gm_Sv hx hb hml hown hW X (n_Ben_needNumber l E _ h4) (n := 1) ⟨⟨wl_Ben_111, ws_Ben_needNumber, winit_Ben, wc_Ben_needNumber⟩, by decide +kernel, Nat.le_of_ble_eq_true rfl, Nat.le_of_ble_eq_true rfl⟩ rfl hl.1 rfl (Nat.le_of_ble_eq_true rfl) d_Ben_verify_14 ⟨Nat.le_of_ble_eq_true rfl, Nat.le_of_ble_eq_true rfl⟩ (fun M1 H locs hp X => ?_)
  rw [hp] at X
  exact absurd ⟨h1, h2, h3, h4⟩ hbad
