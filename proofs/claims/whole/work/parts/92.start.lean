/-! THE LAW'S START: written by wip/gen/start.py -/
theorem ztb_i {w : Cond} {d : Nat} {v : List Cond} (h : (lw_tbl.drop d).take 20 = v) (i : Nat) (hi : v[i]? = some w) : w ∈ lw_tbl := by
  have h1 := List.mem_of_getElem? hi
  rw [← h] at h1
  exact List.mem_of_mem_drop (List.mem_of_mem_take h1)
theorem zaa_spec {args : Array Value} {s : State} {ty : FieldType} (h : (Cond.arrayOver (.array ty)).before args s = true) : ∃ comp c k, s.vm.findClass ("[" ++ (FieldType.array ty).toString) = some c ∧ s.vm.classes[c]? = some k ∧ k.kind = .array comp (.array ty) := by
  obtain ⟨comp, c, k, p1, -, p3, p4, p5⟩ := Jvm.Stand.arrayOver_specB h
  exact ⟨comp, c, k, p5, p3, p4⟩
theorem zt_uni {t n n' : Nat} {f f' : Nat → Value} {A : Nat → Prop} {s : State} {H : Heap} (h : va_T .long t n f A s H) (h' : va_T .long t n' f' A s H) (hn : n < 2 ^ 31) (hn' : n' < 2 ^ 31) : n = n' ∧ ∀ j, j < n → f j = f' j := by
  obtain ⟨c1, a1, a2, a3, a4, a5, a6, a7⟩ := h
  obtain ⟨c2, b1, b2, b3, b4, b5, b6, b7⟩ := h'
  have e := Option.some.inj (a1.symm.trans b1)
  subst e
  have e2 : nI n = nI n' := a5.symm.trans b5
  have e3 : ((n : Nat) : Int) = (n' : Nat) := by rw [← nI_toInt hn, ← nI_toInt hn', e2]
  have e4 : n = n' := by omega
  subst e4
  exact ⟨rfl, fun j hj => Option.some.inj ((a6 j hj).symm.trans (b6 j hj))⟩
def zct (i : Nat) : Nat × (Nat → Int64) := match i with
  | 0 => (4, sZ)
  | 1 => (4, sP)
  | 2 => (4, sP2)
  | 3 => (4, sRt)
  | 4 => (4, sN)
  | 5 => (4, sN2)
  | 6 => (4, sGX)
  | 7 => (4, sGY)
  | 8 => (2, (oF rzP))
  | 9 => (2, (oF wzP))
  | 10 => (5, (oF rzN))
  | _ => (6, (oF wzN))
def zsnm (i : Nat) : String := match i with
  | 0 => "ZERO"
  | 1 => "P"
  | 2 => "P_LESS_TWO"
  | 3 => "ROOT_POWER"
  | 4 => "N"
  | 5 => "N_LESS_TWO"
  | 6 => "G_X"
  | 7 => "G_Y"
  | 8 => "P_REST"
  | 9 => "P_WRAP"
  | 10 => "N_REST"
  | _ => "N_WRAP"
theorem zctd : ∀ i, i < 12 → ∀ j, j < 12 → i ≠ j → (zct i).1 ≠ (zct j).1 ∨ ∃ k, k < (zct i).1 ∧ (zct i).2 k ≠ (zct j).2 k := by decide +kernel
theorem nw_in : ∀ w ∈ NW, w ∈ lw_tbl := by decide +kernel
set_option maxRecDepth 100000 in
theorem sta_0 {s : State} {b : Nat} (hs : ∀ c ∈ flatC (Jvm.Cond.and given_1 narrow_1), c.before #[Value.ref b] s = true) {A : Nat → Prop} (hA : ∀ a : Nat, a < s.heap.size → ¬ A a) : ∃ t : Nat, (Term.static "PointBench" "ZERO" "[J").eval #[Value.ref b] s none [] s = some (.ref t) ∧ va_T .long t 4 (fun j => .long (sZ j)) A s s.heap := by
  refine va_Tof (by decide) (hs (Cond.arrayOf (Term.static "PointBench" "ZERO" "[J") .long) (by decide +kernel)) (va_eqt (hs (Cond.eq (.length (Term.static "PointBench" "ZERO" "[J")) (.int 4)) (by decide +kernel))) (fun j hj => ?_) hA
  rcases (show j = 0 ∨ j = 1 ∨ j = 2 ∨ j = 3 by omega) with rfl | rfl | rfl | rfl
  · exact va_eqtl (z := sZ 0) (hs (Cond.eq (.elem (Term.static "PointBench" "ZERO" "[J") (.int 0)) (.long (sZ 0))) (by decide +kernel))
  · exact va_eqtl (z := sZ 1) (hs (Cond.eq (.elem (Term.static "PointBench" "ZERO" "[J") (.int 1)) (.long (sZ 1))) (by decide +kernel))
  · exact va_eqtl (z := sZ 2) (hs (Cond.eq (.elem (Term.static "PointBench" "ZERO" "[J") (.int 2)) (.long (sZ 2))) (by decide +kernel))
  · exact va_eqtl (z := sZ 3) (hs (Cond.eq (.elem (Term.static "PointBench" "ZERO" "[J") (.int 3)) (.long (sZ 3))) (by decide +kernel))
set_option maxRecDepth 100000 in
theorem sta_1 {s : State} {b : Nat} (hs : ∀ c ∈ flatC (Jvm.Cond.and given_1 narrow_1), c.before #[Value.ref b] s = true) {A : Nat → Prop} (hA : ∀ a : Nat, a < s.heap.size → ¬ A a) : ∃ t : Nat, (Term.static "PointBench" "P" "[J").eval #[Value.ref b] s none [] s = some (.ref t) ∧ va_T .long t 4 (fun j => .long (sP j)) A s s.heap := by
  refine va_Tof (by decide) (hs (Cond.arrayOf (Term.static "PointBench" "P" "[J") .long) (by decide +kernel)) (va_eqt (hs (Cond.eq (.length (Term.static "PointBench" "P" "[J")) (.int 4)) (by decide +kernel))) (fun j hj => ?_) hA
  rcases (show j = 0 ∨ j = 1 ∨ j = 2 ∨ j = 3 by omega) with rfl | rfl | rfl | rfl
  · exact va_eqtl (z := sP 0) (hs (Cond.eq (.elem (Term.static "PointBench" "P" "[J") (.int 0)) (.long (sP 0))) (by decide +kernel))
  · exact va_eqtl (z := sP 1) (hs (Cond.eq (.elem (Term.static "PointBench" "P" "[J") (.int 1)) (.long (sP 1))) (by decide +kernel))
  · exact va_eqtl (z := sP 2) (hs (Cond.eq (.elem (Term.static "PointBench" "P" "[J") (.int 2)) (.long (sP 2))) (by decide +kernel))
  · exact va_eqtl (z := sP 3) (hs (Cond.eq (.elem (Term.static "PointBench" "P" "[J") (.int 3)) (.long (sP 3))) (by decide +kernel))
set_option maxRecDepth 100000 in
theorem sta_2 {s : State} {b : Nat} (hs : ∀ c ∈ flatC (Jvm.Cond.and given_1 narrow_1), c.before #[Value.ref b] s = true) {A : Nat → Prop} (hA : ∀ a : Nat, a < s.heap.size → ¬ A a) : ∃ t : Nat, (Term.static "PointBench" "P_LESS_TWO" "[J").eval #[Value.ref b] s none [] s = some (.ref t) ∧ va_T .long t 4 (fun j => .long (sP2 j)) A s s.heap := by
  refine va_Tof (by decide) (hs (Cond.arrayOf (Term.static "PointBench" "P_LESS_TWO" "[J") .long) (by decide +kernel)) (va_eqt (hs (Cond.eq (.length (Term.static "PointBench" "P_LESS_TWO" "[J")) (.int 4)) (by decide +kernel))) (fun j hj => ?_) hA
  rcases (show j = 0 ∨ j = 1 ∨ j = 2 ∨ j = 3 by omega) with rfl | rfl | rfl | rfl
  · exact va_eqtl (z := sP2 0) (hs (Cond.eq (.elem (Term.static "PointBench" "P_LESS_TWO" "[J") (.int 0)) (.long (sP2 0))) (by decide +kernel))
  · exact va_eqtl (z := sP2 1) (hs (Cond.eq (.elem (Term.static "PointBench" "P_LESS_TWO" "[J") (.int 1)) (.long (sP2 1))) (by decide +kernel))
  · exact va_eqtl (z := sP2 2) (hs (Cond.eq (.elem (Term.static "PointBench" "P_LESS_TWO" "[J") (.int 2)) (.long (sP2 2))) (by decide +kernel))
  · exact va_eqtl (z := sP2 3) (hs (Cond.eq (.elem (Term.static "PointBench" "P_LESS_TWO" "[J") (.int 3)) (.long (sP2 3))) (by decide +kernel))
set_option maxRecDepth 100000 in
theorem sta_3 {s : State} {b : Nat} (hs : ∀ c ∈ flatC (Jvm.Cond.and given_1 narrow_1), c.before #[Value.ref b] s = true) {A : Nat → Prop} (hA : ∀ a : Nat, a < s.heap.size → ¬ A a) : ∃ t : Nat, (Term.static "PointBench" "ROOT_POWER" "[J").eval #[Value.ref b] s none [] s = some (.ref t) ∧ va_T .long t 4 (fun j => .long (sRt j)) A s s.heap := by
  refine va_Tof (by decide) (hs (Cond.arrayOf (Term.static "PointBench" "ROOT_POWER" "[J") .long) (by decide +kernel)) (va_eqt (hs (Cond.eq (.length (Term.static "PointBench" "ROOT_POWER" "[J")) (.int 4)) (by decide +kernel))) (fun j hj => ?_) hA
  rcases (show j = 0 ∨ j = 1 ∨ j = 2 ∨ j = 3 by omega) with rfl | rfl | rfl | rfl
  · exact va_eqtl (z := sRt 0) (hs (Cond.eq (.elem (Term.static "PointBench" "ROOT_POWER" "[J") (.int 0)) (.long (sRt 0))) (by decide +kernel))
  · exact va_eqtl (z := sRt 1) (hs (Cond.eq (.elem (Term.static "PointBench" "ROOT_POWER" "[J") (.int 1)) (.long (sRt 1))) (by decide +kernel))
  · exact va_eqtl (z := sRt 2) (hs (Cond.eq (.elem (Term.static "PointBench" "ROOT_POWER" "[J") (.int 2)) (.long (sRt 2))) (by decide +kernel))
  · exact va_eqtl (z := sRt 3) (hs (Cond.eq (.elem (Term.static "PointBench" "ROOT_POWER" "[J") (.int 3)) (.long (sRt 3))) (by decide +kernel))
set_option maxRecDepth 100000 in
theorem sta_4 {s : State} {b : Nat} (hs : ∀ c ∈ flatC (Jvm.Cond.and given_1 narrow_1), c.before #[Value.ref b] s = true) {A : Nat → Prop} (hA : ∀ a : Nat, a < s.heap.size → ¬ A a) : ∃ t : Nat, (Term.static "PointBench" "N" "[J").eval #[Value.ref b] s none [] s = some (.ref t) ∧ va_T .long t 4 (fun j => .long (sN j)) A s s.heap := by
  refine va_Tof (by decide) (hs (Cond.arrayOf (Term.static "PointBench" "N" "[J") .long) (by decide +kernel)) (va_eqt (hs (Cond.eq (.length (Term.static "PointBench" "N" "[J")) (.int 4)) (by decide +kernel))) (fun j hj => ?_) hA
  rcases (show j = 0 ∨ j = 1 ∨ j = 2 ∨ j = 3 by omega) with rfl | rfl | rfl | rfl
  · exact va_eqtl (z := sN 0) (hs (Cond.eq (.elem (Term.static "PointBench" "N" "[J") (.int 0)) (.long (sN 0))) (by decide +kernel))
  · exact va_eqtl (z := sN 1) (hs (Cond.eq (.elem (Term.static "PointBench" "N" "[J") (.int 1)) (.long (sN 1))) (by decide +kernel))
  · exact va_eqtl (z := sN 2) (hs (Cond.eq (.elem (Term.static "PointBench" "N" "[J") (.int 2)) (.long (sN 2))) (by decide +kernel))
  · exact va_eqtl (z := sN 3) (hs (Cond.eq (.elem (Term.static "PointBench" "N" "[J") (.int 3)) (.long (sN 3))) (by decide +kernel))
set_option maxRecDepth 100000 in
theorem sta_5 {s : State} {b : Nat} (hs : ∀ c ∈ flatC (Jvm.Cond.and given_1 narrow_1), c.before #[Value.ref b] s = true) {A : Nat → Prop} (hA : ∀ a : Nat, a < s.heap.size → ¬ A a) : ∃ t : Nat, (Term.static "PointBench" "N_LESS_TWO" "[J").eval #[Value.ref b] s none [] s = some (.ref t) ∧ va_T .long t 4 (fun j => .long (sN2 j)) A s s.heap := by
  refine va_Tof (by decide) (hs (Cond.arrayOf (Term.static "PointBench" "N_LESS_TWO" "[J") .long) (by decide +kernel)) (va_eqt (hs (Cond.eq (.length (Term.static "PointBench" "N_LESS_TWO" "[J")) (.int 4)) (by decide +kernel))) (fun j hj => ?_) hA
  rcases (show j = 0 ∨ j = 1 ∨ j = 2 ∨ j = 3 by omega) with rfl | rfl | rfl | rfl
  · exact va_eqtl (z := sN2 0) (hs (Cond.eq (.elem (Term.static "PointBench" "N_LESS_TWO" "[J") (.int 0)) (.long (sN2 0))) (by decide +kernel))
  · exact va_eqtl (z := sN2 1) (hs (Cond.eq (.elem (Term.static "PointBench" "N_LESS_TWO" "[J") (.int 1)) (.long (sN2 1))) (by decide +kernel))
  · exact va_eqtl (z := sN2 2) (hs (Cond.eq (.elem (Term.static "PointBench" "N_LESS_TWO" "[J") (.int 2)) (.long (sN2 2))) (by decide +kernel))
  · exact va_eqtl (z := sN2 3) (hs (Cond.eq (.elem (Term.static "PointBench" "N_LESS_TWO" "[J") (.int 3)) (.long (sN2 3))) (by decide +kernel))
set_option maxRecDepth 100000 in
theorem sta_6 {s : State} {b : Nat} (hs : ∀ c ∈ flatC (Jvm.Cond.and given_1 narrow_1), c.before #[Value.ref b] s = true) {A : Nat → Prop} (hA : ∀ a : Nat, a < s.heap.size → ¬ A a) : ∃ t : Nat, (Term.static "PointBench" "G_X" "[J").eval #[Value.ref b] s none [] s = some (.ref t) ∧ va_T .long t 4 (fun j => .long (sGX j)) A s s.heap := by
  refine va_Tof (by decide) (hs (Cond.arrayOf (Term.static "PointBench" "G_X" "[J") .long) (by decide +kernel)) (va_eqt (hs (Cond.eq (.length (Term.static "PointBench" "G_X" "[J")) (.int 4)) (by decide +kernel))) (fun j hj => ?_) hA
  rcases (show j = 0 ∨ j = 1 ∨ j = 2 ∨ j = 3 by omega) with rfl | rfl | rfl | rfl
  · exact va_eqtl (z := sGX 0) (hs (Cond.eq (.elem (Term.static "PointBench" "G_X" "[J") (.int 0)) (.long (sGX 0))) (by decide +kernel))
  · exact va_eqtl (z := sGX 1) (hs (Cond.eq (.elem (Term.static "PointBench" "G_X" "[J") (.int 1)) (.long (sGX 1))) (by decide +kernel))
  · exact va_eqtl (z := sGX 2) (hs (Cond.eq (.elem (Term.static "PointBench" "G_X" "[J") (.int 2)) (.long (sGX 2))) (by decide +kernel))
  · exact va_eqtl (z := sGX 3) (hs (Cond.eq (.elem (Term.static "PointBench" "G_X" "[J") (.int 3)) (.long (sGX 3))) (by decide +kernel))
set_option maxRecDepth 100000 in
theorem sta_7 {s : State} {b : Nat} (hs : ∀ c ∈ flatC (Jvm.Cond.and given_1 narrow_1), c.before #[Value.ref b] s = true) {A : Nat → Prop} (hA : ∀ a : Nat, a < s.heap.size → ¬ A a) : ∃ t : Nat, (Term.static "PointBench" "G_Y" "[J").eval #[Value.ref b] s none [] s = some (.ref t) ∧ va_T .long t 4 (fun j => .long (sGY j)) A s s.heap := by
  refine va_Tof (by decide) (hs (Cond.arrayOf (Term.static "PointBench" "G_Y" "[J") .long) (by decide +kernel)) (va_eqt (hs (Cond.eq (.length (Term.static "PointBench" "G_Y" "[J")) (.int 4)) (by decide +kernel))) (fun j hj => ?_) hA
  rcases (show j = 0 ∨ j = 1 ∨ j = 2 ∨ j = 3 by omega) with rfl | rfl | rfl | rfl
  · exact va_eqtl (z := sGY 0) (hs (Cond.eq (.elem (Term.static "PointBench" "G_Y" "[J") (.int 0)) (.long (sGY 0))) (by decide +kernel))
  · exact va_eqtl (z := sGY 1) (hs (Cond.eq (.elem (Term.static "PointBench" "G_Y" "[J") (.int 1)) (.long (sGY 1))) (by decide +kernel))
  · exact va_eqtl (z := sGY 2) (hs (Cond.eq (.elem (Term.static "PointBench" "G_Y" "[J") (.int 2)) (.long (sGY 2))) (by decide +kernel))
  · exact va_eqtl (z := sGY 3) (hs (Cond.eq (.elem (Term.static "PointBench" "G_Y" "[J") (.int 3)) (.long (sGY 3))) (by decide +kernel))
set_option maxRecDepth 100000 in
theorem sta_8 {s : State} {b : Nat} (hs : ∀ c ∈ flatC (Jvm.Cond.and given_1 narrow_1), c.before #[Value.ref b] s = true) {A : Nat → Prop} (hA : ∀ a : Nat, a < s.heap.size → ¬ A a) : ∃ t : Nat, (Term.static "PointBench" "P_REST" "[J").eval #[Value.ref b] s none [] s = some (.ref t) ∧ va_T .long t 2 (fun j => .long ((oF rzP) j)) A s s.heap := by
  refine va_Tof (by decide) (hs (Cond.arrayOf (Term.static "PointBench" "P_REST" "[J") .long) (by decide +kernel)) (va_eqt (hs (Cond.eq (.length (Term.static "PointBench" "P_REST" "[J")) (.int 2)) (by decide +kernel))) (fun j hj => ?_) hA
  rcases (show j = 0 ∨ j = 1 by omega) with rfl | rfl
  · exact va_eqtl (z := (oF rzP) 0) (hs (Cond.eq (.elem (Term.static "PointBench" "P_REST" "[J") (.int 0)) (.long ((oF rzP) 0))) (by decide +kernel))
  · exact va_eqtl (z := (oF rzP) 1) (hs (Cond.eq (.elem (Term.static "PointBench" "P_REST" "[J") (.int 1)) (.long ((oF rzP) 1))) (by decide +kernel))
set_option maxRecDepth 100000 in
theorem sta_9 {s : State} {b : Nat} (hs : ∀ c ∈ flatC (Jvm.Cond.and given_1 narrow_1), c.before #[Value.ref b] s = true) {A : Nat → Prop} (hA : ∀ a : Nat, a < s.heap.size → ¬ A a) : ∃ t : Nat, (Term.static "PointBench" "P_WRAP" "[J").eval #[Value.ref b] s none [] s = some (.ref t) ∧ va_T .long t 2 (fun j => .long ((oF wzP) j)) A s s.heap := by
  refine va_Tof (by decide) (hs (Cond.arrayOf (Term.static "PointBench" "P_WRAP" "[J") .long) (by decide +kernel)) (va_eqt (hs (Cond.eq (.length (Term.static "PointBench" "P_WRAP" "[J")) (.int 2)) (by decide +kernel))) (fun j hj => ?_) hA
  rcases (show j = 0 ∨ j = 1 by omega) with rfl | rfl
  · exact va_eqtl (z := (oF wzP) 0) (hs (Cond.eq (.elem (Term.static "PointBench" "P_WRAP" "[J") (.int 0)) (.long ((oF wzP) 0))) (by decide +kernel))
  · exact va_eqtl (z := (oF wzP) 1) (hs (Cond.eq (.elem (Term.static "PointBench" "P_WRAP" "[J") (.int 1)) (.long ((oF wzP) 1))) (by decide +kernel))
set_option maxRecDepth 100000 in
theorem sta_10 {s : State} {b : Nat} (hs : ∀ c ∈ flatC (Jvm.Cond.and given_1 narrow_1), c.before #[Value.ref b] s = true) {A : Nat → Prop} (hA : ∀ a : Nat, a < s.heap.size → ¬ A a) : ∃ t : Nat, (Term.static "PointBench" "N_REST" "[J").eval #[Value.ref b] s none [] s = some (.ref t) ∧ va_T .long t 5 (fun j => .long ((oF rzN) j)) A s s.heap := by
  refine va_Tof (by decide) (hs (Cond.arrayOf (Term.static "PointBench" "N_REST" "[J") .long) (by decide +kernel)) (va_eqt (hs (Cond.eq (.length (Term.static "PointBench" "N_REST" "[J")) (.int 5)) (by decide +kernel))) (fun j hj => ?_) hA
  rcases (show j = 0 ∨ j = 1 ∨ j = 2 ∨ j = 3 ∨ j = 4 by omega) with rfl | rfl | rfl | rfl | rfl
  · exact va_eqtl (z := (oF rzN) 0) (hs (Cond.eq (.elem (Term.static "PointBench" "N_REST" "[J") (.int 0)) (.long ((oF rzN) 0))) (by decide +kernel))
  · exact va_eqtl (z := (oF rzN) 1) (hs (Cond.eq (.elem (Term.static "PointBench" "N_REST" "[J") (.int 1)) (.long ((oF rzN) 1))) (by decide +kernel))
  · exact va_eqtl (z := (oF rzN) 2) (hs (Cond.eq (.elem (Term.static "PointBench" "N_REST" "[J") (.int 2)) (.long ((oF rzN) 2))) (by decide +kernel))
  · exact va_eqtl (z := (oF rzN) 3) (hs (Cond.eq (.elem (Term.static "PointBench" "N_REST" "[J") (.int 3)) (.long ((oF rzN) 3))) (by decide +kernel))
  · exact va_eqtl (z := (oF rzN) 4) (hs (Cond.eq (.elem (Term.static "PointBench" "N_REST" "[J") (.int 4)) (.long ((oF rzN) 4))) (by decide +kernel))
set_option maxRecDepth 100000 in
theorem sta_11 {s : State} {b : Nat} (hs : ∀ c ∈ flatC (Jvm.Cond.and given_1 narrow_1), c.before #[Value.ref b] s = true) {A : Nat → Prop} (hA : ∀ a : Nat, a < s.heap.size → ¬ A a) : ∃ t : Nat, (Term.static "PointBench" "N_WRAP" "[J").eval #[Value.ref b] s none [] s = some (.ref t) ∧ va_T .long t 6 (fun j => .long ((oF wzN) j)) A s s.heap := by
  refine va_Tof (by decide) (hs (Cond.arrayOf (Term.static "PointBench" "N_WRAP" "[J") .long) (by decide +kernel)) (va_eqt (hs (Cond.eq (.length (Term.static "PointBench" "N_WRAP" "[J")) (.int 6)) (by decide +kernel))) (fun j hj => ?_) hA
  rcases (show j = 0 ∨ j = 1 ∨ j = 2 ∨ j = 3 ∨ j = 4 ∨ j = 5 by omega) with rfl | rfl | rfl | rfl | rfl | rfl
  · exact va_eqtl (z := (oF wzN) 0) (hs (Cond.eq (.elem (Term.static "PointBench" "N_WRAP" "[J") (.int 0)) (.long ((oF wzN) 0))) (by decide +kernel))
  · exact va_eqtl (z := (oF wzN) 1) (hs (Cond.eq (.elem (Term.static "PointBench" "N_WRAP" "[J") (.int 1)) (.long ((oF wzN) 1))) (by decide +kernel))
  · exact va_eqtl (z := (oF wzN) 2) (hs (Cond.eq (.elem (Term.static "PointBench" "N_WRAP" "[J") (.int 2)) (.long ((oF wzN) 2))) (by decide +kernel))
  · exact va_eqtl (z := (oF wzN) 3) (hs (Cond.eq (.elem (Term.static "PointBench" "N_WRAP" "[J") (.int 3)) (.long ((oF wzN) 3))) (by decide +kernel))
  · exact va_eqtl (z := (oF wzN) 4) (hs (Cond.eq (.elem (Term.static "PointBench" "N_WRAP" "[J") (.int 4)) (.long ((oF wzN) 4))) (by decide +kernel))
  · exact va_eqtl (z := (oF wzN) 5) (hs (Cond.eq (.elem (Term.static "PointBench" "N_WRAP" "[J") (.int 5)) (.long ((oF wzN) 5))) (by decide +kernel))
set_option maxRecDepth 100000 in
set_option maxHeartbeats 4000000 in
theorem ls_E {s : State} {b : Nat} (hts : ∀ w ∈ lw_tbl, w.before #[Value.ref b] s = true) (hgv : (Jvm.Cond.and given_1 narrow_1).before #[Value.ref b] s = true) : ∃ (E : gm_E) (ad : Nat → Nat), E.2.1 = s.heap.size ∧ gm_st E s s.heap ∧ gE E ad := by
  have hs := flat_of_before _ hgv
  have hW : ∀ w ∈ WB, w.before #[Value.ref b] s = true := fun w h => hts w (wb_in h)
  obtain ⟨A, hAd⟩ : ∃ A : Nat → Prop, A = fun q => s.heap.size ≤ q := ⟨_, rfl⟩
  have hA : ∀ a : Nat, a < s.heap.size → ¬ A a := fun a h1 h2 => by rw [hAd] at h2; exact absurd h2 (Nat.not_le.mpr h1)
  obtain ⟨t0, v0, T0⟩ := sta_0 hs hA
  obtain ⟨t1, v1, T1⟩ := sta_1 hs hA
  obtain ⟨t2, v2, T2⟩ := sta_2 hs hA
  obtain ⟨t3, v3, T3⟩ := sta_3 hs hA
  obtain ⟨t4, v4, T4⟩ := sta_4 hs hA
  obtain ⟨t5, v5, T5⟩ := sta_5 hs hA
  obtain ⟨t6, v6, T6⟩ := sta_6 hs hA
  obtain ⟨t7, v7, T7⟩ := sta_7 hs hA
  obtain ⟨t8, v8, T8⟩ := sta_8 hs hA
  obtain ⟨t9, v9, T9⟩ := sta_9 hs hA
  obtain ⟨t10, v10, T10⟩ := sta_10 hs hA
  obtain ⟨t11, v11, T11⟩ := sta_11 hs hA
  obtain ⟨c0, i0, K0⟩ := u_known hW u_Mod (hW _ winst_Mod)
  obtain ⟨c1, i1, K1⟩ := u_known hW u_Pnt (hW _ winst_Pnt)
  obtain ⟨c2, i2, K2⟩ := u_known hW u_Sum (hW _ winst_Sum)
  obtain ⟨c3, i3, K3⟩ := u_known hW u_Ben (hW _ winst_Ben)
  obtain ⟨c4, i4, K4⟩ := u_known hW u_Rng (hW _ winst_Rng)
  obtain ⟨c5, i5, K5⟩ := u_known hW u_Rpt (hW _ winst_Rpt)
  obtain ⟨c6, i6, K6⟩ := u_known hW u_Mdl (hW _ winst_Mdl)
  obtain ⟨l0, lk0, lc0, f0, g0, h0⟩ := Cond.arrayClass_spec (hW _ wac_90)
  obtain ⟨l1, lk1, lc1, f1, g1, h1⟩ := Cond.arrayClass_spec (hW _ wac_574)
  have w2 : (Cond.arrayOver (.object "PointBench$Point")).before #[Value.ref b] s = true := hts _ (ztb_i ve_2 7 rfl)
  have w4 : (Cond.arrayOver (.object "PointBenchModel$Point")).before #[Value.ref b] s = true := hts _ (ztb_i ve_28 17 rfl)
  have w3 : (Cond.arrayOver (.array .long)).before #[Value.ref b] s = true := hts _ (ztb_i ve_2 5 rfl)
  have w5 : (Cond.arrayOver (.array .int)).before #[Value.ref b] s = true := hts _ (ztb_i ve_28 16 rfl)
  obtain ⟨p2, l2, lk2, a2, -, b2, d2, f2⟩ := Cond.arrayOver_spec w2
  obtain ⟨p4, l4, lk4, a4, -, b4, d4, f4⟩ := Cond.arrayOver_spec w4
  obtain ⟨p3, l3, lk3, f3, b3, d3⟩ := zaa_spec w3
  obtain ⟨p5, l5, lk5, f5, b5, d5⟩ := zaa_spec w5
  obtain ⟨ad, had⟩ : ∃ ad : Nat → Nat, ad = fun k => match k with | 0 => t0 | 1 => t1 | 2 => t2 | 3 => t3 | 4 => t4 | 5 => t5 | 6 => t6 | 7 => t7 | 8 => t8 | 9 => t9 | 10 => t10 | _ => t11 := ⟨_, rfl⟩
  have T : ∀ i, i < 12 → va_T .long (ad i) (zct i).1 (fun j => .long ((zct i).2 j)) A s s.heap := by
    intro i hi
    subst had
    rcases (show i = 0 ∨ i = 1 ∨ i = 2 ∨ i = 3 ∨ i = 4 ∨ i = 5 ∨ i = 6 ∨ i = 7 ∨ i = 8 ∨ i = 9 ∨ i = 10 ∨ i = 11 by omega) with rfl | rfl | rfl | rfl | rfl | rfl | rfl | rfl | rfl | rfl | rfl | rfl
    · exact T0
    · exact T1
    · exact T2
    · exact T3
    · exact T4
    · exact T5
    · exact T6
    · exact T7
    · exact T8
    · exact T9
    · exact T10
    · exact T11
  have V : ∀ i, i < 12 → (Term.static "PointBench" (zsnm i) "[J").eval #[Value.ref b] s none [] s = some (.ref (ad i)) := by
    intro i hi
    subst had
    rcases (show i = 0 ∨ i = 1 ∨ i = 2 ∨ i = 3 ∨ i = 4 ∨ i = 5 ∨ i = 6 ∨ i = 7 ∨ i = 8 ∨ i = 9 ∨ i = 10 ∨ i = 11 by omega) with rfl | rfl | rfl | rfl | rfl | rfl | rfl | rfl | rfl | rfl | rfl | rfl
    · exact v0
    · exact v1
    · exact v2
    · exact v3
    · exact v4
    · exact v5
    · exact v6
    · exact v7
    · exact v8
    · exact v9
    · exact v10
    · exact v11
  have Ly : ∀ i, i < 12 → (Cond.laysStatic "PointBench" (zsnm i) "[J").before #[Value.ref b] s = true := by
    intro i hi
    rcases (show i = 0 ∨ i = 1 ∨ i = 2 ∨ i = 3 ∨ i = 4 ∨ i = 5 ∨ i = 6 ∨ i = 7 ∨ i = 8 ∨ i = 9 ∨ i = 10 ∨ i = 11 by omega) with rfl | rfl | rfl | rfl | rfl | rfl | rfl | rfl | rfl | rfl | rfl | rfl
    · exact hts _ (ztb_i ve_16 1 rfl)
    · exact hts _ (ztb_i ve_2 11 rfl)
    · exact hts _ (ztb_i ve_2 13 rfl)
    · exact hts _ (ztb_i ve_21 15 rfl)
    · exact hts _ (ztb_i ve_4 12 rfl)
    · exact hts _ (ztb_i ve_4 14 rfl)
    · exact hts _ (ztb_i ve_7 18 rfl)
    · exact hts _ (ztb_i ve_8 4 rfl)
    · exact hts _ (ztb_i ve_2 15 rfl)
    · exact hts _ (ztb_i ve_2 17 rfl)
    · exact hts _ (ztb_i ve_4 16 rfl)
    · exact hts _ (ztb_i ve_4 18 rfl)
  have ctl : ∀ i, i < 12 → (zct i).1 < 2 ^ 31 := by decide
  have inj : ∀ i, i < 12 → ∀ j, j < 12 → ad i = ad j → i = j := by
    intro i hi j hj hij
    refine Classical.byContradiction fun hne => ?_
    have q1 := T i hi
    have q2 := T j hj
    rw [← hij] at q2
    obtain ⟨u1, u2⟩ := zt_uni q1 q2 (ctl i hi) (ctl j hj)
    rcases zctd i hi j hj hne with h | ⟨k, hk, h⟩
    · exact h u1
    · exact h (Value.long.inj (u2 k hk))
  obtain ⟨stE, hstE⟩ : ∃ f : Nat → Option (Nat × (Nat → Int64)), f = fun a => ((List.range 12).find? (fun i => ad i == a)).map zct := ⟨_, rfl⟩
  have S1 : ∀ a x, stE a = some x → va_T .long a x.1 (fun j => .long (x.2 j)) A s s.heap := by
    intro a x hx
    rw [hstE] at hx
    obtain ⟨i, hi, rfl⟩ := Option.map_eq_some_iff.mp hx
    have q1 : ad i = a := beq_iff_eq.mp (List.find?_some (p := fun i => ad i == a) hi)
    have q2 := List.mem_range.mp (List.mem_of_find?_eq_some hi)
    rw [← q1]
    exact T i q2
  have S2 : ∀ k, k < 12 → stE (ad k) = some (zct k) := by
    intro k hk
    rw [hstE]
    show ((List.range 12).find? (fun i => ad i == ad k)).map zct = some (zct k)
    cases hf : (List.range 12).find? (fun i => ad i == ad k) with
    | none =>
      have q := List.find?_eq_none.mp hf k (List.mem_range.mpr hk)
      simp at q
    | some i =>
      have q1 : ad i = ad k := beq_iff_eq.mp (List.find?_some (p := fun i => ad i == ad k) hf)
      have q2 := List.mem_range.mp (List.mem_of_find?_eq_some hf)
      rw [inj i q2 k hk q1]
      rfl
  have S3 : ∀ k, k < 12 → (zsnm k, ad k) ∈ (List.range 12).map (fun i => (zsnm i, ad i)) := fun k hk => List.mem_map.mpr ⟨k, List.mem_range.mpr hk, rfl⟩
  refine ⟨(((fun c => match c with | 0 => c0 | 1 => c1 | 2 => c2 | 3 => c3 | 4 => c4 | 5 => c5 | _ => c6, fun c => match c with | 0 => i0 | 1 => i1 | 2 => i2 | 3 => i3 | 4 => i4 | 5 => i5 | _ => i6), fun k => match k with | 0 => l0 | 1 => l1 | 2 => l2 | 3 => l3 | 4 => l4 | _ => l5), s.heap.size, stE, (List.range 12).map (fun i => (zsnm i, ad i))), ad, rfl, ⟨⟨?_, ?_⟩, ?_, ?_, ?_, ?_⟩, ?_⟩
  · intro c q hq
    have hc : c < 7 := (List.getElem?_eq_some_iff.mp hq).1
    rcases (show c = 0 ∨ c = 1 ∨ c = 2 ∨ c = 3 ∨ c = 4 ∨ c = 5 ∨ c = 6 by omega) with rfl | rfl | rfl | rfl | rfl | rfl | rfl
    · cases hq; exact K0
    · cases hq; exact K1
    · cases hq; exact K2
    · cases hq; exact K3
    · cases hq; exact K4
    · cases hq; exact K5
    · cases hq; exact K6
  · intro k q hq
    have hc : k < 6 := (List.getElem?_eq_some_iff.mp hq).1
    rcases (show k = 0 ∨ k = 1 ∨ k = 2 ∨ k = 3 ∨ k = 4 ∨ k = 5 by omega) with rfl | rfl | rfl | rfl | rfl | rfl
    · cases hq; exact ⟨fun n z => ⟨fun k h => (by cases h), lk0, g0, lc0, h0⟩, f0⟩
    · cases hq; exact ⟨fun n z => ⟨fun k h => (by cases h), lk1, g1, lc1, h1⟩, f1⟩
    · cases hq; exact ⟨fun n z => ⟨fun k h => (by cases h), lk2, b2, p2, d2⟩, lk2, p2, b2, d2, a2, f2⟩
    · cases hq; exact ⟨fun n z => ⟨fun k h => (by cases h), lk3, b3, p3, d3⟩, f3⟩
    · cases hq; exact ⟨fun n z => ⟨fun k h => (by cases h), lk4, b4, p4, d4⟩, lk4, p4, b4, d4, a4, f4⟩
    · cases hq; exact ⟨fun n z => ⟨fun k h => (by cases h), lk5, b5, p5, d5⟩, f5⟩
  · rw [hAd] at S1; exact S1
  · intro q hq
    obtain ⟨i, hi, rfl⟩ := List.mem_map.mp hq
    have hi := List.mem_range.mp hi
    have q1 := va_Zref (Ly i hi) (hW _ winit_Ben) (V i hi) hA
    rw [hAd] at q1
    exact q1
  · exact fun w hw => va_Nw.of (nw_ot w hw) (hts w (nw_in w hw))
  · have z1 := vx_Zqof (C := Jvm.Bundle.tN) (n := "UNASSIGNED_STACK") (d := Jvm.Bundle.steD) (A := A) (hts _ (ztb_i ve_12 0 rfl)) (hts _ (ztb_i ve_1 10 rfl)) (hs _ (by decide +kernel)) hA
    have z2 := vx_Zqof (C := Jvm.Bundle.tN) (n := "SUPPRESSED_SENTINEL") (d := Jvm.Bundle.listD) (A := A) (hts _ (ztb_i ve_12 2 rfl)) (hts _ (ztb_i ve_1 10 rfl)) (hs _ (by decide +kernel)) hA
    rw [hAd] at z1 z2
    refine ⟨⟨z1, z2⟩, fun q hq => ?_, ⟨va_AO.of w2, va_AO.of w4⟩, w3, w5⟩
    simp only [gTX, List.mem_cons, List.not_mem_nil, or_false] at hq
    rcases hq with rfl | rfl | rfl | rfl
    · have q1 : (Cond.stringRef "PointBench" 212 "no such NUMBER").before #[Value.ref b] s = true := hts _ (ztb_i ve_12 12 rfl)
      obtain ⟨-, -, -, a, -, -, -, -, -, hev⟩ := Cond.stringRef_spec K3.2.1 q1
      exact ⟨a, vk_R.of q1 hev⟩
    · have q1 : (Cond.stringRef "PointBench" 217 "no such PART").before #[Value.ref b] s = true := hts _ (ztb_i ve_14 2 rfl)
      obtain ⟨-, -, -, a, -, -, -, -, -, hev⟩ := Cond.stringRef_spec K3.2.1 q1
      exact ⟨a, vk_R.of q1 hev⟩
    · have q1 : (Cond.stringRef "PointBench" 221 "no such work").before #[Value.ref b] s = true := hts _ (ztb_i ve_15 11 rfl)
      obtain ⟨-, -, -, a, -, -, -, -, -, hev⟩ := Cond.stringRef_spec K3.2.1 q1
      exact ⟨a, vk_R.of q1 hev⟩
    · have q1 : (Cond.stringRef "PointBench" 219 "no such POINT").before #[Value.ref b] s = true := hts _ (ztb_i ve_19 9 rfl)
      obtain ⟨-, -, -, a, -, -, -, -, -, hev⟩ := Cond.stringRef_spec K3.2.1 q1
      exact ⟨a, vk_R.of q1 hev⟩
  · exact ⟨⟨S3 0 (by decide), S2 0 (by decide)⟩, ⟨S3 1 (by decide), S2 1 (by decide)⟩, ⟨S3 2 (by decide), S2 2 (by decide)⟩, ⟨S3 3 (by decide), S2 3 (by decide)⟩, ⟨S3 4 (by decide), S2 4 (by decide)⟩, ⟨S3 5 (by decide), S2 5 (by decide)⟩, ⟨S3 6 (by decide), S2 6 (by decide)⟩, ⟨S3 7 (by decide), S2 7 (by decide)⟩, ⟨S3 8 (by decide), S2 8 (by decide)⟩, ⟨S3 9 (by decide), S2 9 (by decide)⟩, ⟨S3 10 (by decide), S2 10 (by decide)⟩, ⟨S3 11 (by decide), S2 11 (by decide)⟩⟩
