/-! the length of a static array; arrays of references -/
section GM5
variable {p : Program} {l : Launch} {e : Env} {R : Room} {s : State} {m : MethodId} {args : Array Value} {below : List Frame} {meth : Method} {c : Code} {H : Heap} {locs : List Loc} {cells slots : Nat} {Q : State → Prop}
variable {cc : ByteArray} {pc : Nat} {ls : Array Slot} {rest : List Value} {E : gm_E} {M : gm_M} {a : Nat}
theorem gm_slen (hx : p.tables.exec = Jvm.exec) (hb : c.code = cc) (X : gx E M s H locs) {n : Nat} {f : Nat → Int64} (hr : E.2.2.1 a = some (n, f)) (hdg : decode cc pc = .ok (.arraylength, 1))
    (kk : W p l e R s m args below meth c H locs cells slots Q (F0 m (pc + 1) ls (.int (nI n) :: rest))) : W p l e R s m args below meth c H locs cells slots Q (F0 m pc ls (.ref a :: rest)) :=
  va_tlen hx hb (X.1.2.1 a _ hr) X.2.2.1 rfl hdg kk
/-- a place of an array of references of class number k among the array classes -/
theorem gm_aald (hx : p.tables.exec = Jvm.exec) (hb : c.code = cc) (X : gx E M s H locs) {n k j t : Nat} {f : Nat → Option Nat} {C : String} (hr : M a = some (QA E j n f)) (hj : (gm_ty E.1)[j]? = some (E.1.2 j, .object C)) {i : Int32} (hi : i = nI k) (hk : k < n ∧ n < 2 ^ 31) (hf : f k = some t) (hdg : decode cc pc = .ok (.aaload, 1))
    (kk : W p l e R s m args below meth c H locs cells slots Q (F0 m (pc + 1) ls (.ref t :: rest))) : W p l e R s m args below meth c H locs cells slots Q (F0 m pc ls (.int i :: .ref a :: rest)) := by
  subst hi
  have hin := vp_in_nI hk.1 hk.2
  have hc : (nI k).toNatClampNeg = k := nI_clamp (by omega)
  exact va_aldq hx hb X.1.1 (gm_1 X.2.1 hr) 0 j rfl hj hin hdg (by rw [hc, hf]; exact kk)
theorem gm_aald2 (hx : p.tables.exec = Jvm.exec) (hb : c.code = cc) (X : gx E M s H locs) {n k j t : Nat} {f : Nat → Option Nat} {ty : FieldType} (hr : M a = some (QA E j n f)) (hj : (gm_ty E.1)[j]? = some (E.1.2 j, .array ty)) {i : Int32} (hi : i = nI k) (hk : k < n ∧ n < 2 ^ 31) (hf : f k = some t) (hdg : decode cc pc = .ok (.aaload, 1))
    (kk : W p l e R s m args below meth c H locs cells slots Q (F0 m (pc + 1) ls (.ref t :: rest))) : W p l e R s m args below meth c H locs cells slots Q (F0 m pc ls (.int i :: .ref a :: rest)) := by
  subst hi
  have hin := vp_in_nI hk.1 hk.2
  have hc : (nI k).toNatClampNeg = k := nI_clamp (by omega)
  have hlt : (nI k).toNatClampNeg < n := by rw [hc]; exact hk.1
  exact W.aald (v := va_rf (f (nI k).toNatClampNeg)) (ty := .array ty) hx hb (X.2.1 a _ hr) ((X.1.1.2 j _ hj).1 n (fun j => va_rf (f j))) rfl (fun q => by cases q) (by show ¬ (nI k < 0 ∨ (arrV _ _ _).slots.size ≤ _); rw [arrV_size]; exact hin) (by show (arrV _ _ _).slots[_]? = _; rw [arrV_read _ _ hlt]) rfl rfl hdg (by rw [hc, hf]; exact kk)
end GM5
