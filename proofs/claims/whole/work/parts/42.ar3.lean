/-! MULTIPLY over the integers: written by wip/gen/ar3.py -/
theorem us_zero {a : Nat → Int} {fr : Nat} : ∀ k, (∀ j, j < k → a (fr + j) = 0) → us a fr k = 0
  | 0, _ => rfl
  | k + 1, h => by rw [us_s, us_zero k (fun j hj => h j (by omega)), h k (by omega)]; simp
theorem us_cut {a : Nat → Int} (n k : Nat) (h : ∀ j, n ≤ j → j < n + k → a j = 0) : us a 0 (n + k) = us a 0 n := by
  rw [us_split, us_zero k (fun j hj => h (0 + n + j) (by omega) (by omega)), Int.mul_zero, Int.add_zero]
theorem mul_last {w wz : Nat → Int} {nw : Nat} {WR Wm Hb : Int} (hn : nw ≤ 9) (hw : ∀ j, j < nw → 0 ≤ wz j ∧ wz j ≤ Wm) (hWR : us wz 0 nw = WR) (hWR0 : 0 ≤ WR) (hd : ∀ j, j < 10 → 0 ≤ w j ∧ w j < 67108864) (hz : ∀ j, 11 ≤ j → j < 20 → w j = 0) (hh : -Hb ≤ w 10 ∧ w 10 ≤ Hb) (hW0 : 0 ≤ Wm) (h1 : 67108864 + Hb * Wm ≤ 7000000000000000000) (h2 : Hb * WR < tp 9) :
    ∃ r, caF (foI (oF w) nw (oF wz) 1) 0 9 = oF r ∧ (∀ j, j < 9 → 0 ≤ r j ∧ r j < 67108864) ∧ (-1 ≤ r 9 ∧ r 9 ≤ 67108864) ∧ us r 0 10 = us w 0 11 - (tp 10 - WR) * w 10 := by
  have hHb : 0 ≤ Hb := by omega
  have hHW : 0 ≤ Hb * Wm := Int.mul_nonneg hHb hW0
  have fx : ∀ x, fzI w nw wz 1 x = if x < nw then w x + w 10 * wz x else zU w 10 0 x := fun x => by
    show fzJ (zU w (10 + 0) 0) (w (10 + 0)) 0 wz nw x = _
    rw [fzJ_at]
    by_cases hx : x < nw
    · rw [if_pos (by omega), if_pos hx, zU_n _ _ (by omega)]
      rfl
    · rw [if_neg (by omega), if_neg hx]
  have fb : ∀ j, 0 ≤ j → j < 9 → -(67108864 + Hb * Wm) ≤ fzI w nw wz 1 j ∧ fzI w nw wz 1 j ≤ 67108864 + Hb * Wm := fun j _ hj => by
    have h3 := hd j (by omega)
    rw [fx]
    split
    · next hx =>
      have h4 := hw j hx
      have := ab_mul hh (b := wz j) (B := Wm) (by omega)
      omega
    · rw [zU_n _ _ (by omega)]
      omega
  obtain ⟨e1, e2, -, e4⟩ := caF_ok (a := fzI w nw wz 1) (fr := 0) (to := 9) (B := 67108864 + Hb * Wm) (by omega) (by omega) h1 fb
  refine ⟨czF (fzI w nw wz 1) 0 9, ?_, fun j hj => e2 j (by omega) hj, ?_⟩
  · rw [foI_oF, e1]
  have hv := fzI_val w hn wz 1 (by omega)
  have c1 : us w 0 20 = us w 0 11 := us_cut 11 9 (fun j h3 h4 => hz j h3 (by omega))
  have c2 : us (fzI w nw wz 1) 0 20 = us (fzI w nw wz 1) 0 10 := us_cut 10 10 (fun j h3 h4 => by
    rw [fx, if_neg (by omega)]
    by_cases hj : j = 10
    · subst hj; exact zU_s _ _ _
    · rw [zU_n _ _ hj]; exact hz j (by omega) (by omega))
  have c3 : us w 10 1 = w 10 := by simp [us, tp_0]
  have e4' : us (czF (fzI w nw wz 1) 0 9) 0 10 = us (fzI w nw wz 1) 0 10 := e4
  have c4 : us w 0 11 = us w 0 10 + w 10 * tp 10 := by rw [us_s w 0 10, Nat.zero_add]
  have hval : us (czF (fzI w nw wz 1) 0 9) 0 10 = us w 0 11 - (tp 10 - WR) * w 10 := by rw [e4', ← c2, hv, c1, c3, hWR]
  refine ⟨?_, hval⟩
  have d1 := us_dig (a := w) (fr := 0) 10 (fun j hj => by rw [Nat.zero_add]; exact hd j hj)
  have d2 := us_dig (a := czF (fzI w nw wz 1) 0 9) (fr := 0) 9 (fun j hj => by rw [Nat.zero_add]; exact e2 j (by omega) hj)
  rw [c4, us_s _ 0 9, Nat.zero_add] at hval
  have b1 := ab_mul hh (b := WR) (B := WR) (by omega)
  rw [Int.sub_mul, Int.mul_comm WR, Int.mul_comm (tp 10)] at hval
  have t10 : tp 10 = tp 9 * 67108864 := tp_s 9
  have p9 := tp_pos 9
  generalize czF (fzI w nw wz 1) 0 9 9 = r9 at *
  generalize us (czF (fzI w nw wz 1) 0 9) 0 9 = u9 at *
  generalize us w 0 10 = v at *
  generalize w 10 * WR = q at *
  generalize w 10 * tp 10 = q2 at *
  generalize Hb * WR = q3 at *
  constructor
  · rcases Int.lt_or_le r9 (-1) with h | h
    · have := Int.mul_le_mul_of_nonneg_right (show r9 ≤ -2 by omega) (show 0 ≤ tp 9 by omega)
      omega
    · exact h
  · rcases Int.lt_or_le 67108864 r9 with h | h
    · have := Int.mul_le_mul_of_nonneg_right (show 67108865 ≤ r9 by omega) (show 0 ≤ tp 9 by omega)
      omega
    · exact h
theorem tv6 : tp 6 = 91343852333181432387730302044767688728495783936 := by decide
theorem tv7 : tp 7 = 6129982163463555433433388108601236734474956488734408704 := by decide
theorem tv8 : tp 8 = 411376139330301510538742295639337626245683966408394965837152256 := by decide
theorem tv9 : tp 9 = 27606985387162255149739023449108101809804435888681546220650096895197184 := by decide
theorem tv10 : tp 10 = 1852673427797059126777135760139006525652319754650249024631321344126610074238976 := by decide
theorem tv15 : tp 15 = 2521728396569246669585858566409191283525103313309788586748690777871726193375821479130513040312634601011624191379636224 := by decide
/-- the first half: the product, its high limbs short, these folded -/
theorem mul_core {a b wz : Nat → Int} {nw : Nat} {A B WR Wm : Int} (hn : nw ≤ 9) (hw : ∀ j, j < nw → 0 ≤ wz j ∧ wz j ≤ Wm) (hWR : us wz 0 nw = WR) (hWm : 0 ≤ Wm ∧ Wm ≤ 67108864) (ha : ∀ j, j < 10 → -A ≤ a j ∧ a j ≤ A) (hb : ∀ j, j < 10 → -B ≤ b j ∧ b j ≤ B) (hAB : A * B ≤ 450359962737049600) :
    ∃ (w2 : Nat → Int) (L U : Int), foI (caF (prF (oF a) (oF b)) 10 19) nw (oF wz) 10 = oF w2 ∧ us w2 0 20 = L + WR * U ∧ us a 0 10 * us b 0 10 = L + tp 10 * U ∧ (-129687139945794138874399503209730456795662382825517431724192494088862705196728320000000000 ≤ L ∧ L ≤ 129687139945794138874399503209730456795662382825517431724192494088862705196728320000000000) ∧ (-189233024091938694847821455994095308073014624547861684285090037760000000000000000 ≤ U ∧ U ≤ 189233024091938694847821455994095308073014624547861684285090037760000000000000000) ∧ (∀ x, x < 20 → -5100000000000000000 ≤ w2 x ∧ w2 x ≤ 5100000000000000000) ∧ ∀ x, 9 + nw ≤ x → x < 20 → 10 ≤ x → w2 x = 0 := by
  obtain ⟨p1, p2, p3⟩ := prZ_bd ha hb
  have hAB0 : 0 ≤ A * B := by have := p2; omega
  obtain ⟨e1, e2, e3, e4⟩ := caF_ok (a := prZ a b) (fr := 10) (to := 19) (B := 10 * (A * B)) (by omega) (by omega) (by omega) (fun j h1 h2 => p1 j (by omega))
  have e4' : us (czF (prZ a b) 10 19) 10 10 = us (prZ a b) 10 10 := e4
  have g1 := us_geo (a := prZ a b) (fr := 0) (B := 10 * (A * B)) (by omega) 10 (fun j hj => by rw [Nat.zero_add]; exact p1 j (by omega))
  have g2 := us_geo (a := prZ a b) (fr := 10) (B := 10 * (A * B)) (by omega) 8 (fun j hj => p1 (10 + j) (by omega))
  have u10 : us (prZ a b) 10 10 = us (prZ a b) 10 8 + prZ a b 18 * tp 8 := by
    rw [us_s _ 10 9, us_s _ 10 8, show (10 + 9) = 19 from rfl, p3, show (10 + 8) = 18 from rfl]
    simp
  have hK := ab_mul (a := prZ a b 18) (A := 450359962737049600) (b := tp 8) (B := tp 8) (by omega) (by have := tp_pos 8; omega)
  have m1 := ab_mul (a := 10 * (A * B)) (A := 4503599627370496000) (b := tp 10 - 1) (B := tp 10) (by omega) (by have := tp_pos 10; omega)
  have m2 := ab_mul (a := 10 * (A * B)) (A := 4503599627370496000) (b := tp 8 - 1) (B := tp 8) (by omega) (by have := tp_pos 8; omega)
  have hL : -129687139945794138874399503209730456795662382825517431724192494088862705196728320000000000 ≤ us (prZ a b) 0 10 ∧ us (prZ a b) 0 10 ≤ 129687139945794138874399503209730456795662382825517431724192494088862705196728320000000000 := by
    rw [tv10] at m1 g1
    generalize us (prZ a b) 0 10 = z at *
    generalize 10 * (A * B) * (1852673427797059126777135760139006525652319754650249024631321344126610074238976 - 1) = y at *
    omega
  have hU : -189233024091938694847821455994095308073014624547861684285090037760000000000000000 ≤ us (prZ a b) 10 10 ∧ us (prZ a b) 10 10 ≤ 189233024091938694847821455994095308073014624547861684285090037760000000000000000 := by
    rw [tv8] at m2 g2 hK u10
    generalize us (prZ a b) 10 8 = z at *
    generalize 10 * (A * B) * (411376139330301510538742295639337626245683966408394965837152256 - 1) = y at *
    omega
  have d9 := us_dig (a := czF (prZ a b) 10 19) (fr := 10) 9 (fun j hj => e2 (10 + j) (by omega) (by omega))
  have s19 : us (czF (prZ a b) 10 19) 10 10 = us (czF (prZ a b) 10 19) 10 9 + czF (prZ a b) 10 19 19 * tp 9 := us_s _ 10 9
  have h19 : -7000000000 ≤ czF (prZ a b) 10 19 19 ∧ czF (prZ a b) 10 19 19 ≤ 7000000000 := by
    rw [e4'] at s19
    rw [tv9] at s19 d9
    generalize us (prZ a b) 10 10 = z at *
    generalize us (czF (prZ a b) 10 19) 10 9 = y at *
    omega
  have w1b : ∀ x, x < 20 → -4503599627370496000 ≤ czF (prZ a b) 10 19 x ∧ czF (prZ a b) 10 19 x ≤ 4503599627370496000 := fun x hx => by
    rcases Nat.lt_or_ge x 10 with h | h
    · rw [e3 x (by omega)]
      have := p1 x hx
      omega
    · rcases Nat.lt_or_ge x 19 with h' | h'
      · have := e2 x h h'
        omega
      · obtain rfl : x = 19 := by omega
        omega
  have hs : 0 ≤ sH (czF (prZ a b) 10 19) 10 ∧ sH (czF (prZ a b) 10 19) 10 ≤ 9 * 67108863 + 7000000000 := by
    have q := fun j h1 h2 => e2 j h1 h2
    have q0 := q 10 (by omega) (by omega)
    have q1 := q 11 (by omega) (by omega)
    have q2 := q 12 (by omega) (by omega)
    have q3 := q 13 (by omega) (by omega)
    have q4 := q 14 (by omega) (by omega)
    have q5 := q 15 (by omega) (by omega)
    have q6 := q 16 (by omega) (by omega)
    have q7 := q 17 (by omega) (by omega)
    have q8 := q 18 (by omega) (by omega)
    simp only [sH, Nat.reduceAdd, Nat.add_zero]
    omega
  have hsW := ab_mul (a := sH (czF (prZ a b) 10 19) 10) (A := 9 * 67108863 + 7000000000) (b := Wm) (B := 67108864) (by omega) (by omega)
  refine ⟨fzI (czF (prZ a b) 10 19) nw wz 10, us (prZ a b) 0 10, us (prZ a b) 10 10, ?_, ?_, ?_, hL, hU, fun x hx => ?_, fun x h1 h2 h3 => ?_⟩
  · rw [prF_oF, e1, foI_oF]
  · have l1 : us (czF (prZ a b) 10 19) 0 10 = us (prZ a b) 0 10 := us_congr 10 (fun j hj => e3 (0 + j) (by omega))
    have sp : us (czF (prZ a b) 10 19) 0 20 = us (czF (prZ a b) 10 19) 0 10 + tp 10 * us (czF (prZ a b) 10 19) 10 10 := us_split _ 0 10 10
    rw [fzI_val _ hn wz 10 (by omega), sp, e4', hWR, l1, Int.sub_mul]
    omega
  · rw [← us_prZ]
    exact us_split _ 0 10 10
  · have := fzI_bd (czF (prZ a b) 10 19) hn wz w1b (by omega) hw hWm.1 x hx 10 (by omega)
    omega
  · exact fzI_zero _ hn wz x h3 10 (by omega) (by omega)
/-- a row of ten limbs that multiply makes -/
def rw1 (r : Nat → Int) : Prop := (∀ j, j < 9 → 0 ≤ r j ∧ r j < 67108864) ∧ -1 ≤ r 9 ∧ r 9 ≤ 67108864
theorem md_sub {m x y z : Int} (h : (tp 10 - z) % m = 0) : (x - (tp 10 - z) * y - x) % m = 0 := by
  rw [show x - (tp 10 - z) * y - x = (tp 10 - z) * (-y) by rw [Int.mul_neg]; omega, Int.mul_emod, h, Int.zero_mul, Int.zero_emod]
theorem mul_field {a b wz : Nat → Int} {A B WR m : Int} (hw : ∀ j, j < 2 → 0 ≤ wz j ∧ wz j ≤ 16384) (hWR : us wz 0 2 = WR) (hWR2 : 0 ≤ WR ∧ WR ≤ 137438953472) (hm : (tp 10 - WR) % m = 0) (ha : ∀ j, j < 10 → -A ≤ a j ∧ a j ≤ A) (hb : ∀ j, j < 10 → -B ≤ b j ∧ b j ≤ B) (hAB : A * B ≤ 450359962737049600) :
    ∃ r, muW (oF a) (oF b) 0 2 (oF wz) = oF r ∧ rw1 r ∧ (us r 0 10 - us a 0 10 * us b 0 10) % m = 0 := by
  obtain ⟨w2, L, U, f1, f2, f3, f4, f5, f6, f7⟩ := mul_core (by omega) hw hWR (by omega) ha hb hAB
  obtain ⟨e1, e2, e3, e4⟩ := caF_ok (a := w2) (fr := 0) (to := 10) (B := 5100000000000000000) (by omega) (by omega) (by omega) (fun j _ h2 => f6 j (by omega))
  have e4' : us (czF w2 0 10) 0 11 = us w2 0 11 := e4
  have c1 : us w2 0 20 = us w2 0 11 := us_cut 11 9 (fun j h3 h4 => f7 j (by omega) (by omega) (by omega))
  have d1 := us_dig (a := czF w2 0 10) (fr := 0) 10 (fun j hj => by rw [Nat.zero_add]; exact e2 j (by omega) hj)
  have s1 : us (czF w2 0 10) 0 11 = us (czF w2 0 10) 0 10 + czF w2 0 10 10 * tp 10 := by rw [us_s _ 0 10, Nat.zero_add]
  have b1 := ab_mul (a := WR) (A := 137438953472) (b := U) (B := 189233024091938694847821455994095308073014624547861684285090037760000000000000000) (by omega) f5
  have hh : -14200000000000 ≤ czF w2 0 10 10 ∧ czF w2 0 10 10 ≤ 14200000000000 := by
    rw [e4', ← c1, f2] at s1
    rw [tv10] at s1 d1
    generalize WR * U = z at *
    generalize us (czF w2 0 10) 0 10 = y at *
    omega
  obtain ⟨r, r1, r2, r3, r4⟩ := mul_last (w := czF w2 0 10) (wz := wz) (nw := 2) (WR := WR) (Wm := 16384) (Hb := 14200000000000) (by omega) hw hWR hWR2.1 (fun j hj => e2 j (by omega) hj) (fun j h1 h2 => by rw [e3 j (by omega)]; exact f7 j (by omega) (by omega) (by omega)) hh (by omega) (by omega) (by
    have := Int.mul_le_mul_of_nonneg_left hWR2.2 (show (0 : Int) ≤ 14200000000000 by omega)
    rw [tv9]
    omega)
  refine ⟨r, ?_, ⟨r2, r3⟩, ?_⟩
  · rw [muW, if_pos rfl, f1, e1, r1]
  · have h1 : us r 0 10 - us a 0 10 * us b 0 10 = (tp 10 - WR) * (-(czF w2 0 10 10 + U)) := by
      rw [r4, e4', ← c1, f2, f3, Int.mul_neg, Int.mul_add, Int.sub_mul, Int.sub_mul]
      omega
    rw [h1, Int.mul_emod, hm, Int.zero_mul, Int.zero_emod]
theorem mul_order {a b wz : Nat → Int} {A B WR m : Int} (hw : ∀ j, j < 6 → 0 ≤ wz j ∧ wz j ≤ 67108863) (hWR : us wz 0 6 = WR) (hWR2 : 0 ≤ WR ∧ WR ≤ 10889035741470030830827987437816582766592) (hm : (tp 10 - WR) % m = 0) (ha : ∀ j, j < 10 → -A ≤ a j ∧ a j ≤ A) (hb : ∀ j, j < 10 → -B ≤ b j ∧ b j ≤ B) (hAB : A * B ≤ 450359962737049600) :
    ∃ r, muW (oF a) (oF b) 1 6 (oF wz) = oF r ∧ rw1 r ∧ (us r 0 10 - us a 0 10 * us b 0 10) % m = 0 := by
  obtain ⟨w2, L, U, f1, f2, f3, f4, f5, f6, f7⟩ := mul_core (by omega) hw hWR (by omega) ha hb hAB
  obtain ⟨e1, e2, e3, e4⟩ := caF_ok (a := w2) (fr := 0) (to := 15) (B := 5100000000000000000) (by omega) (by omega) (by omega) (fun j _ h2 => f6 j (by omega))
  have e4' : us (czF w2 0 15) 0 16 = us w2 0 16 := e4
  have c1 : us w2 0 20 = us w2 0 16 := us_cut 16 4 (fun j h3 h4 => f7 j (by omega) (by omega) (by omega))
  have d1 := us_dig (a := czF w2 0 15) (fr := 0) 15 (fun j hj => by rw [Nat.zero_add]; exact e2 j (by omega) hj)
  have d0 := us_dig (a := czF w2 0 15) (fr := 0) 10 (fun j hj => by rw [Nat.zero_add]; exact e2 j (by omega) (by omega))
  have s1 : us (czF w2 0 15) 0 16 = us (czF w2 0 15) 0 15 + czF w2 0 15 15 * tp 15 := by rw [us_s _ 0 15, Nat.zero_add]
  have b1 := ab_mul (a := WR) (A := 10889035741470030830827987437816582766592) (b := U) (B := 189233024091938694847821455994095308073014624547861684285090037760000000000000000) (by omega) f5
  have h15 : -1000 ≤ czF w2 0 15 15 ∧ czF w2 0 15 15 ≤ 1000 := by
    rw [e4', ← c1, f2] at s1
    rw [tv15] at s1 d1
    generalize WR * U = z at *
    generalize us (czF w2 0 15) 0 15 = y at *
    omega
  have z16 : ∀ j, 16 ≤ j → j < 20 → czF w2 0 15 j = 0 := fun j h1 h2 => by rw [e3 j (by omega)]; exact f7 j (by omega) h2 (by omega)
  have w3b : ∀ x, x < 20 → -67108864 ≤ czF w2 0 15 x ∧ czF w2 0 15 x ≤ 67108864 := fun x hx => by
    rcases Nat.lt_or_ge x 15 with h | h
    · have := e2 x (by omega) h
      omega
    · rcases Nat.lt_or_ge x 16 with h' | h'
      · obtain rfl : x = 15 := by omega
        omega
      · rw [z16 x h' hx]
        omega
  have hs : 0 ≤ sH (czF w2 0 15) 6 ∧ sH (czF w2 0 15) 6 ≤ 5 * 67108863 + 1000 := by
    have q0 := e2 10 (by omega) (by omega)
    have q1 := e2 11 (by omega) (by omega)
    have q2 := e2 12 (by omega) (by omega)
    have q3 := e2 13 (by omega) (by omega)
    have q4 := e2 14 (by omega) (by omega)
    simp only [sH, Nat.reduceAdd, Nat.add_zero]
    omega
  have w4b : ∀ x, x < 20 → -30000000000000000 ≤ fzI (czF w2 0 15) 6 wz 6 x ∧ fzI (czF w2 0 15) 6 wz 6 x ≤ 30000000000000000 := fun x hx => by
    have := fzI_bd (czF w2 0 15) (by omega) wz w3b (by omega) hw (by omega) x hx 6 (by omega)
    omega
  have z11 : ∀ j, 11 ≤ j → j < 20 → fzI (czF w2 0 15) 6 wz 6 j = 0 := fun j h1 h2 => by
    rcases Nat.lt_or_ge j 16 with h | h
    · exact fzI_zero _ (by omega) wz j (by omega) 6 (by omega) (by omega)
    · rw [fzI_far _ (by omega) wz j 6 (by omega)]
      exact z16 j h h2
  have v4 := fzI_val (czF w2 0 15) (nw := 6) (by omega) wz 6 (by omega)
  have c4 : us (fzI (czF w2 0 15) 6 wz 6) 0 20 = us (fzI (czF w2 0 15) 6 wz 6) 0 11 := us_cut 11 9 (fun j h3 h4 => z11 j h3 (by omega))
  have c3 : us (czF w2 0 15) 0 20 = us (czF w2 0 15) 0 16 := us_cut 16 4 (fun j h3 h4 => z16 j h3 (by omega))
  have sp : us (czF w2 0 15) 0 16 = us (czF w2 0 15) 0 10 + tp 10 * us (czF w2 0 15) 10 6 := us_split _ 0 10 6
  rw [hWR, c3, c4] at v4
  have hH : -1121570681371413175575282706095108024958976 ≤ us (czF w2 0 15) 10 6 ∧ us (czF w2 0 15) 10 6 ≤ 1121570681371413175575282706095108024958976 := by
    have sp2 := sp
    rw [e4', ← c1, f2] at sp2
    rw [tv10] at sp2 d0
    generalize WR * U = z at *
    generalize us (czF w2 0 15) 0 10 = y at *
    generalize us (czF w2 0 15) 10 6 = x at *
    omega
  obtain ⟨g1, g2, g3, g4⟩ := caF_ok (a := fzI (czF w2 0 15) 6 wz 6) (fr := 0) (to := 10) (B := 30000000000000000) (by omega) (by omega) (by omega) (fun j _ h2 => w4b j (by omega))
  generalize hw4 : fzI (czF w2 0 15) 6 wz 6 = w4 at w4b z11 v4 c4 g1 g2 g3 g4
  have g4' : us (czF w4 0 10) 0 11 = us w4 0 11 := g4
  have d5 := us_dig (a := czF w4 0 10) (fr := 0) 10 (fun j hj => by rw [Nat.zero_add]; exact g2 j (by omega) hj)
  have s5 : us (czF w4 0 10) 0 11 = us (czF w4 0 10) 0 10 + czF w4 0 10 10 * tp 10 := by rw [us_s _ 0 10, Nat.zero_add]
  have b5 := ab_mul (a := WR) (A := 10889035741470030830827987437816582766592) (b := us (czF w2 0 15) 10 6) (B := 1121570681371413175575282706095108024958976) (by omega) hH
  have hh : -7000 ≤ czF w4 0 10 10 ∧ czF w4 0 10 10 ≤ 7000 := by
    rw [g4', v4, sp, Int.sub_mul] at s5
    rw [tv10] at s5 d5 d0
    generalize WR * us (czF w2 0 15) 10 6 = z at *
    generalize us (czF w4 0 10) 0 10 = y at *
    generalize us (czF w2 0 15) 0 10 = x at *
    omega
  obtain ⟨r, r1, r2, r3, r4⟩ := mul_last (w := czF w4 0 10) (wz := wz) (nw := 6) (WR := WR) (Wm := 67108863) (Hb := 7000) (by omega) hw hWR hWR2.1 (fun j hj => g2 j (by omega) hj) (fun j h1 h2 => by rw [g3 j (by omega)]; exact z11 j h1 h2) hh (by omega) (by omega) (by
    have := Int.mul_le_mul_of_nonneg_left hWR2.2 (show (0 : Int) ≤ 7000 by omega)
    rw [tv9]
    omega)
  refine ⟨r, ?_, ⟨r2, r3⟩, ?_⟩
  · rw [muW, if_neg (by decide), f1, show 9 + 6 = 15 from rfl, e1, foI_oF, hw4, g1, r1]
  · have h1 : us r 0 10 - us a 0 10 * us b 0 10 = (tp 10 - WR) * (-(czF w4 0 10 10 + us (czF w2 0 15) 10 6 + U)) := by
      rw [r4, g4', v4, e4', ← c1, f2, f3, Int.mul_neg, Int.mul_add, Int.mul_add, Int.sub_mul, Int.sub_mul, Int.sub_mul]
      omega
    rw [h1, Int.mul_emod, hm, Int.zero_mul, Int.zero_emod]
