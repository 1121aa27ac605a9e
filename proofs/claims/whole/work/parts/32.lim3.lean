/-! PointBench.Limbs: unpack, pack: written by wip/gen/lim3.py -/
theorem rdL_up {E : gm_E} {M : gm_M} {a b n k : Nat} {f g h : Nat → Int64} (hr : rdL E M a n f) (hM : M b = some (LA E k g)) (hne : n ≠ k) : rdL E (gm_up M b (LA E k h)) a n f := by
  rcases hr with q | q
  · left
    rw [gm_up_n _ _ (fun e => hne (by subst e; exact (LA_inj (q.symm.trans hM)).1))]
    exact q
  · exact Or.inr q
/-- the limbs of a number in parts -/
def unF (f : Nat → Int64) (j : Nat) : Int64 := match j with
  | 0 => (((((f 0)).toUInt64 >>> ((0 : Int32).toInt64.toUInt64 &&& Int64.toUInt64 63)).toInt64) &&& 67108863)
  | 1 => (((((f 0)).toUInt64 >>> ((26 : Int32).toInt64.toUInt64 &&& Int64.toUInt64 63)).toInt64) &&& 67108863)
  | 2 => ((((((f 0)).toUInt64 >>> ((52 : Int32).toInt64.toUInt64 &&& Int64.toUInt64 63)).toInt64) ||| ((f 1) <<< ((12 : Int32).toInt64 &&& 63))) &&& 67108863)
  | 3 => (((((f 1)).toUInt64 >>> ((14 : Int32).toInt64.toUInt64 &&& Int64.toUInt64 63)).toInt64) &&& 67108863)
  | 4 => ((((((f 1)).toUInt64 >>> ((40 : Int32).toInt64.toUInt64 &&& Int64.toUInt64 63)).toInt64) ||| ((f 2) <<< ((24 : Int32).toInt64 &&& 63))) &&& 67108863)
  | 5 => (((((f 2)).toUInt64 >>> ((2 : Int32).toInt64.toUInt64 &&& Int64.toUInt64 63)).toInt64) &&& 67108863)
  | 6 => (((((f 2)).toUInt64 >>> ((28 : Int32).toInt64.toUInt64 &&& Int64.toUInt64 63)).toInt64) &&& 67108863)
  | 7 => ((((((f 2)).toUInt64 >>> ((54 : Int32).toInt64.toUInt64 &&& Int64.toUInt64 63)).toInt64) ||| ((f 3) <<< ((10 : Int32).toInt64 &&& 63))) &&& 67108863)
  | 8 => (((((f 3)).toUInt64 >>> ((16 : Int32).toInt64.toUInt64 &&& Int64.toUInt64 63)).toInt64) &&& 67108863)
  | _ => (((((f 3)).toUInt64 >>> ((42 : Int32).toInt64.toUInt64 &&& Int64.toUInt64 63)).toInt64) &&& 67108863)
set_option maxHeartbeats 4000000 in
theorem c_Lim_unpack (l : Launch) (E : gm_E) (M : gm_M) {to a : Nat} {g f : Nat → Int64} (ht : M to = some (LA E 10 g)) (hA : E.2.1 ≤ to) (hp : rdL E M a 4 f) : cv_ l y_Lim_unpack b_Lim_unpack 7 none { frames := 0, cells := 0, slots := 0, locals := 0 } E M [.ref to, .ref a] (fun M' => M' = gm_up M to (LA E 10 (unF f))) := by
  refine gm_met (by decide) (Nat.le_of_ble_eq_true rfl) (fun p e s m below meth c ls hx hb hml hr hlk hnm hown hW X hl => ?_)
  have hl : lv_has ls 7 [(0, .ref to), (1, .ref a)] := hl
  refine lv_iconst (v := 0) hx hb d_Lim_unpack_0 (by decide) ?_
  refine lv_istore_n (lv' := [(2, .int 0), (0, .ref to), (1, .ref a)]) hx hb d_Lim_unpack_1 rfl hl (by decide) rfl (fun ls hl => ?_)
  refine lv_iload_n hx hb d_Lim_unpack_2 rfl (lv_at hl 0 rfl) ?_
  refine lv_bipush (v := 10) hx hb d_Lim_unpack_3 (by decide) ?_
  refine lv_icmp_ge (tgt := 81) hx hb d_Lim_unpack_5 (by decide) (fun c9 => absurd c9 (by decide)) (fun _ => ?_)
  refine lv_iload_n hx hb d_Lim_unpack_8 rfl (lv_at hl 0 rfl) ?_
  refine lv_bipush (v := 26) hx hb d_Lim_unpack_9 (by decide) ?_
  refine lv_imul hx hb d_Lim_unpack_11 ?_
  refine lv_eqi (v := 0) (by decide) ?_
  refine lv_bipush (v := 64) hx hb d_Lim_unpack_12 (by decide) ?_
  refine lv_idiv hx hb d_Lim_unpack_14 (by decide) ?_
  refine lv_eqi (v := 0) (by decide) ?_
  refine lv_istore_n (lv' := [(3, .int 0), (2, .int 0), (0, .ref to), (1, .ref a)]) hx hb d_Lim_unpack_15 rfl hl (by decide) rfl (fun ls hl => ?_)
  refine lv_iload_n hx hb d_Lim_unpack_16 rfl (lv_at hl 1 rfl) ?_
  refine lv_bipush (v := 26) hx hb d_Lim_unpack_17 (by decide) ?_
  refine lv_imul hx hb d_Lim_unpack_19 ?_
  refine lv_eqi (v := 0) (by decide) ?_
  refine lv_bipush (v := 64) hx hb d_Lim_unpack_20 (by decide) ?_
  refine lv_irem hx hb d_Lim_unpack_22 (by decide) ?_
  refine lv_eqi (v := 0) (by decide) ?_
  refine lv_istore (lv' := [(4, .int 0), (3, .int 0), (2, .int 0), (0, .ref to), (1, .ref a)]) hx hb d_Lim_unpack_23 hl (by decide) rfl (fun ls hl => ?_)
  refine lv_aload_n hx hb d_Lim_unpack_25 rfl (lv_at hl 4 rfl) ?_
  refine lv_iload_n hx hb d_Lim_unpack_26 rfl (lv_at hl 1 rfl) ?_
  refine gm_lald hx hb X (k := 0) hp (by decide) ⟨by decide, by decide⟩ d_Lim_unpack_27 ?_
  refine lv_iload hx hb d_Lim_unpack_28 (lv_at hl 0 rfl) ?_
  refine lv_lushr hx hb d_Lim_unpack_30 rfl ?_
  refine lv_lstore (lv' := [(5, .long ((((f 0)).toUInt64 >>> ((0 : Int32).toInt64.toUInt64 &&& Int64.toUInt64 63)).toInt64)), (4, .int 0), (3, .int 0), (2, .int 0), (0, .ref to), (1, .ref a)]) hx hb d_Lim_unpack_31 hl (by decide) rfl (fun ls hl => ?_)
  refine lv_iload hx hb d_Lim_unpack_33 (lv_at hl 1 rfl) ?_
  refine lv_bipush (v := 26) hx hb d_Lim_unpack_35 (by decide) ?_
  refine lv_iadd hx hb d_Lim_unpack_37 ?_
  refine lv_eqi (v := 26) (by decide) ?_
  refine lv_bipush (v := 64) hx hb d_Lim_unpack_38 (by decide) ?_
  refine lv_icmp_le (tgt := 66) hx hb d_Lim_unpack_40 (by decide) (fun _ => ?_) (fun c9 => absurd (by decide) c9)
  refine lv_aload_n hx hb d_Lim_unpack_66 rfl (lv_at hl 4 rfl) ?_
  refine lv_iload_n hx hb d_Lim_unpack_67 rfl (lv_at hl 3 rfl) ?_
  refine lv_lload hx hb d_Lim_unpack_68 (lv_at hl 0 rfl) ?_
  refine lv_ldc2 (v := 67108863) hx hb hown (hW _ wk_Lim_15) d_Lim_unpack_70 ?_
  refine lv_land hx hb d_Lim_unpack_73 ?_
  refine gm_last hx hb X (k := 0) ht hA (by decide) ⟨by decide, by decide⟩ d_Lim_unpack_74 (fun H locs X => ?_)
  have X : gx E (gm_up M to (LA E 10 (mx 1 (unF f) g))) s H locs := by rw [← mx_sL 0 (unF f) g]; rw [mx_0]; exact X
  refine lv_iinc (v := 1) (lv' := [(2, .int 1), (5, .long ((((f 0)).toUInt64 >>> ((0 : Int32).toInt64.toUInt64 &&& Int64.toUInt64 63)).toInt64)), (4, .int 0), (3, .int 0), (0, .ref to), (1, .ref a)]) hx hb d_Lim_unpack_75 hl (k := 3) rfl (by decide) (by decide) rfl (fun ls hl => ?_)
  refine lv_goto (tgt := 2) hx hb d_Lim_unpack_78 (by decide) ?_
  refine lv_iload_n hx hb d_Lim_unpack_2 rfl (lv_at hl 0 rfl) ?_
  refine lv_bipush (v := 10) hx hb d_Lim_unpack_3 (by decide) ?_
  refine lv_icmp_ge (tgt := 81) hx hb d_Lim_unpack_5 (by decide) (fun c9 => absurd c9 (by decide)) (fun _ => ?_)
  refine lv_iload_n hx hb d_Lim_unpack_8 rfl (lv_at hl 0 rfl) ?_
  refine lv_bipush (v := 26) hx hb d_Lim_unpack_9 (by decide) ?_
  refine lv_imul hx hb d_Lim_unpack_11 ?_
  refine lv_eqi (v := 26) (by decide) ?_
  refine lv_bipush (v := 64) hx hb d_Lim_unpack_12 (by decide) ?_
  refine lv_idiv hx hb d_Lim_unpack_14 (by decide) ?_
  refine lv_eqi (v := 0) (by decide) ?_
  refine lv_istore_n (lv' := [(3, .int 0), (2, .int 1), (5, .long ((((f 0)).toUInt64 >>> ((0 : Int32).toInt64.toUInt64 &&& Int64.toUInt64 63)).toInt64)), (4, .int 0), (0, .ref to), (1, .ref a)]) hx hb d_Lim_unpack_15 rfl hl (by decide) rfl (fun ls hl => ?_)
  refine lv_iload_n hx hb d_Lim_unpack_16 rfl (lv_at hl 1 rfl) ?_
  refine lv_bipush (v := 26) hx hb d_Lim_unpack_17 (by decide) ?_
  refine lv_imul hx hb d_Lim_unpack_19 ?_
  refine lv_eqi (v := 26) (by decide) ?_
  refine lv_bipush (v := 64) hx hb d_Lim_unpack_20 (by decide) ?_
  refine lv_irem hx hb d_Lim_unpack_22 (by decide) ?_
  refine lv_eqi (v := 26) (by decide) ?_
  refine lv_istore (lv' := [(4, .int 26), (3, .int 0), (2, .int 1), (5, .long ((((f 0)).toUInt64 >>> ((0 : Int32).toInt64.toUInt64 &&& Int64.toUInt64 63)).toInt64)), (0, .ref to), (1, .ref a)]) hx hb d_Lim_unpack_23 hl (by decide) rfl (fun ls hl => ?_)
  refine lv_aload_n hx hb d_Lim_unpack_25 rfl (lv_at hl 5 rfl) ?_
  refine lv_iload_n hx hb d_Lim_unpack_26 rfl (lv_at hl 1 rfl) ?_
  refine gm_lald hx hb X (k := 0) (rdL_up hp ht (by decide)) (by decide) ⟨by decide, by decide⟩ d_Lim_unpack_27 ?_
  refine lv_iload hx hb d_Lim_unpack_28 (lv_at hl 0 rfl) ?_
  refine lv_lushr hx hb d_Lim_unpack_30 rfl ?_
  refine lv_lstore (lv' := [(5, .long ((((f 0)).toUInt64 >>> ((26 : Int32).toInt64.toUInt64 &&& Int64.toUInt64 63)).toInt64)), (4, .int 26), (3, .int 0), (2, .int 1), (0, .ref to), (1, .ref a)]) hx hb d_Lim_unpack_31 hl (by decide) rfl (fun ls hl => ?_)
  refine lv_iload hx hb d_Lim_unpack_33 (lv_at hl 1 rfl) ?_
  refine lv_bipush (v := 26) hx hb d_Lim_unpack_35 (by decide) ?_
  refine lv_iadd hx hb d_Lim_unpack_37 ?_
  refine lv_eqi (v := 52) (by decide) ?_
  refine lv_bipush (v := 64) hx hb d_Lim_unpack_38 (by decide) ?_
  refine lv_icmp_le (tgt := 66) hx hb d_Lim_unpack_40 (by decide) (fun _ => ?_) (fun c9 => absurd (by decide) c9)
  refine lv_aload_n hx hb d_Lim_unpack_66 rfl (lv_at hl 4 rfl) ?_
  refine lv_iload_n hx hb d_Lim_unpack_67 rfl (lv_at hl 3 rfl) ?_
  refine lv_lload hx hb d_Lim_unpack_68 (lv_at hl 0 rfl) ?_
  refine lv_ldc2 (v := 67108863) hx hb hown (hW _ wk_Lim_15) d_Lim_unpack_70 ?_
  refine lv_land hx hb d_Lim_unpack_73 ?_
  refine gm_last hx hb X (k := 1) (gm_up_s _ _ _) hA (by decide) ⟨by decide, by decide⟩ d_Lim_unpack_74 (fun H locs X => ?_)
  rw [gm_up_up] at X
  have X : gx E (gm_up M to (LA E 10 (mx 2 (unF f) g))) s H locs := by rw [← mx_sL 1 (unF f) g]; exact X
  refine lv_iinc (v := 2) (lv' := [(2, .int 2), (5, .long ((((f 0)).toUInt64 >>> ((26 : Int32).toInt64.toUInt64 &&& Int64.toUInt64 63)).toInt64)), (4, .int 26), (3, .int 0), (0, .ref to), (1, .ref a)]) hx hb d_Lim_unpack_75 hl (k := 3) rfl (by decide) (by decide) rfl (fun ls hl => ?_)
  refine lv_goto (tgt := 2) hx hb d_Lim_unpack_78 (by decide) ?_
  refine lv_iload_n hx hb d_Lim_unpack_2 rfl (lv_at hl 0 rfl) ?_
  refine lv_bipush (v := 10) hx hb d_Lim_unpack_3 (by decide) ?_
  refine lv_icmp_ge (tgt := 81) hx hb d_Lim_unpack_5 (by decide) (fun c9 => absurd c9 (by decide)) (fun _ => ?_)
  refine lv_iload_n hx hb d_Lim_unpack_8 rfl (lv_at hl 0 rfl) ?_
  refine lv_bipush (v := 26) hx hb d_Lim_unpack_9 (by decide) ?_
  refine lv_imul hx hb d_Lim_unpack_11 ?_
  refine lv_eqi (v := 52) (by decide) ?_
  refine lv_bipush (v := 64) hx hb d_Lim_unpack_12 (by decide) ?_
  refine lv_idiv hx hb d_Lim_unpack_14 (by decide) ?_
  refine lv_eqi (v := 0) (by decide) ?_
  refine lv_istore_n (lv' := [(3, .int 0), (2, .int 2), (5, .long ((((f 0)).toUInt64 >>> ((26 : Int32).toInt64.toUInt64 &&& Int64.toUInt64 63)).toInt64)), (4, .int 26), (0, .ref to), (1, .ref a)]) hx hb d_Lim_unpack_15 rfl hl (by decide) rfl (fun ls hl => ?_)
  refine lv_iload_n hx hb d_Lim_unpack_16 rfl (lv_at hl 1 rfl) ?_
  refine lv_bipush (v := 26) hx hb d_Lim_unpack_17 (by decide) ?_
  refine lv_imul hx hb d_Lim_unpack_19 ?_
  refine lv_eqi (v := 52) (by decide) ?_
  refine lv_bipush (v := 64) hx hb d_Lim_unpack_20 (by decide) ?_
  refine lv_irem hx hb d_Lim_unpack_22 (by decide) ?_
  refine lv_eqi (v := 52) (by decide) ?_
  refine lv_istore (lv' := [(4, .int 52), (3, .int 0), (2, .int 2), (5, .long ((((f 0)).toUInt64 >>> ((26 : Int32).toInt64.toUInt64 &&& Int64.toUInt64 63)).toInt64)), (0, .ref to), (1, .ref a)]) hx hb d_Lim_unpack_23 hl (by decide) rfl (fun ls hl => ?_)
  refine lv_aload_n hx hb d_Lim_unpack_25 rfl (lv_at hl 5 rfl) ?_
  refine lv_iload_n hx hb d_Lim_unpack_26 rfl (lv_at hl 1 rfl) ?_
  refine gm_lald hx hb X (k := 0) (rdL_up hp ht (by decide)) (by decide) ⟨by decide, by decide⟩ d_Lim_unpack_27 ?_
  refine lv_iload hx hb d_Lim_unpack_28 (lv_at hl 0 rfl) ?_
  refine lv_lushr hx hb d_Lim_unpack_30 rfl ?_
  refine lv_lstore (lv' := [(5, .long ((((f 0)).toUInt64 >>> ((52 : Int32).toInt64.toUInt64 &&& Int64.toUInt64 63)).toInt64)), (4, .int 52), (3, .int 0), (2, .int 2), (0, .ref to), (1, .ref a)]) hx hb d_Lim_unpack_31 hl (by decide) rfl (fun ls hl => ?_)
  refine lv_iload hx hb d_Lim_unpack_33 (lv_at hl 1 rfl) ?_
  refine lv_bipush (v := 26) hx hb d_Lim_unpack_35 (by decide) ?_
  refine lv_iadd hx hb d_Lim_unpack_37 ?_
  refine lv_eqi (v := 78) (by decide) ?_
  refine lv_bipush (v := 64) hx hb d_Lim_unpack_38 (by decide) ?_
  refine lv_icmp_le (tgt := 66) hx hb d_Lim_unpack_40 (by decide) (fun c9 => absurd c9 (by decide)) (fun _ => ?_)
  refine lv_iload_n hx hb d_Lim_unpack_43 rfl (lv_at hl 2 rfl) ?_
  refine lv_iconst (v := 1) hx hb d_Lim_unpack_44 (by decide) ?_
  refine lv_iadd hx hb d_Lim_unpack_45 ?_
  refine lv_eqi (v := 1) (by decide) ?_
  refine lv_iconst (v := 4) hx hb d_Lim_unpack_46 (by decide) ?_
  refine lv_icmp_ge (tgt := 66) hx hb d_Lim_unpack_47 (by decide) (fun c9 => absurd c9 (by decide)) (fun _ => ?_)
  refine lv_lload hx hb d_Lim_unpack_50 (lv_at hl 0 rfl) ?_
  refine lv_aload_n hx hb d_Lim_unpack_52 rfl (lv_at hl 5 rfl) ?_
  refine lv_iload_n hx hb d_Lim_unpack_53 rfl (lv_at hl 2 rfl) ?_
  refine lv_iconst (v := 1) hx hb d_Lim_unpack_54 (by decide) ?_
  refine lv_iadd hx hb d_Lim_unpack_55 ?_
  refine lv_eqi (v := 1) (by decide) ?_
  refine gm_lald hx hb X (k := 1) (rdL_up hp ht (by decide)) (by decide) ⟨by decide, by decide⟩ d_Lim_unpack_56 ?_
  refine lv_bipush (v := 64) hx hb d_Lim_unpack_57 (by decide) ?_
  refine lv_iload hx hb d_Lim_unpack_59 (lv_at hl 1 rfl) ?_
  refine lv_isub hx hb d_Lim_unpack_61 ?_
  refine lv_eqi (v := 12) (by decide) ?_
  refine lv_lshl hx hb d_Lim_unpack_62 rfl ?_
  refine lv_lor hx hb d_Lim_unpack_63 ?_
  refine lv_lstore (lv' := [(5, .long (((((f 0)).toUInt64 >>> ((52 : Int32).toInt64.toUInt64 &&& Int64.toUInt64 63)).toInt64) ||| ((f 1) <<< ((12 : Int32).toInt64 &&& 63)))), (4, .int 52), (3, .int 0), (2, .int 2), (0, .ref to), (1, .ref a)]) hx hb d_Lim_unpack_64 hl (by decide) rfl (fun ls hl => ?_)
  refine lv_aload_n hx hb d_Lim_unpack_66 rfl (lv_at hl 4 rfl) ?_
  refine lv_iload_n hx hb d_Lim_unpack_67 rfl (lv_at hl 3 rfl) ?_
  refine lv_lload hx hb d_Lim_unpack_68 (lv_at hl 0 rfl) ?_
  refine lv_ldc2 (v := 67108863) hx hb hown (hW _ wk_Lim_15) d_Lim_unpack_70 ?_
  refine lv_land hx hb d_Lim_unpack_73 ?_
  refine gm_last hx hb X (k := 2) (gm_up_s _ _ _) hA (by decide) ⟨by decide, by decide⟩ d_Lim_unpack_74 (fun H locs X => ?_)
  rw [gm_up_up] at X
  have X : gx E (gm_up M to (LA E 10 (mx 3 (unF f) g))) s H locs := by rw [← mx_sL 2 (unF f) g]; exact X
  refine lv_iinc (v := 3) (lv' := [(2, .int 3), (5, .long (((((f 0)).toUInt64 >>> ((52 : Int32).toInt64.toUInt64 &&& Int64.toUInt64 63)).toInt64) ||| ((f 1) <<< ((12 : Int32).toInt64 &&& 63)))), (4, .int 52), (3, .int 0), (0, .ref to), (1, .ref a)]) hx hb d_Lim_unpack_75 hl (k := 3) rfl (by decide) (by decide) rfl (fun ls hl => ?_)
  refine lv_goto (tgt := 2) hx hb d_Lim_unpack_78 (by decide) ?_
  refine lv_iload_n hx hb d_Lim_unpack_2 rfl (lv_at hl 0 rfl) ?_
  refine lv_bipush (v := 10) hx hb d_Lim_unpack_3 (by decide) ?_
  refine lv_icmp_ge (tgt := 81) hx hb d_Lim_unpack_5 (by decide) (fun c9 => absurd c9 (by decide)) (fun _ => ?_)
  refine lv_iload_n hx hb d_Lim_unpack_8 rfl (lv_at hl 0 rfl) ?_
  refine lv_bipush (v := 26) hx hb d_Lim_unpack_9 (by decide) ?_
  refine lv_imul hx hb d_Lim_unpack_11 ?_
  refine lv_eqi (v := 78) (by decide) ?_
  refine lv_bipush (v := 64) hx hb d_Lim_unpack_12 (by decide) ?_
  refine lv_idiv hx hb d_Lim_unpack_14 (by decide) ?_
  refine lv_eqi (v := 1) (by decide) ?_
  refine lv_istore_n (lv' := [(3, .int 1), (2, .int 3), (5, .long (((((f 0)).toUInt64 >>> ((52 : Int32).toInt64.toUInt64 &&& Int64.toUInt64 63)).toInt64) ||| ((f 1) <<< ((12 : Int32).toInt64 &&& 63)))), (4, .int 52), (0, .ref to), (1, .ref a)]) hx hb d_Lim_unpack_15 rfl hl (by decide) rfl (fun ls hl => ?_)
  refine lv_iload_n hx hb d_Lim_unpack_16 rfl (lv_at hl 1 rfl) ?_
  refine lv_bipush (v := 26) hx hb d_Lim_unpack_17 (by decide) ?_
  refine lv_imul hx hb d_Lim_unpack_19 ?_
  refine lv_eqi (v := 78) (by decide) ?_
  refine lv_bipush (v := 64) hx hb d_Lim_unpack_20 (by decide) ?_
  refine lv_irem hx hb d_Lim_unpack_22 (by decide) ?_
  refine lv_eqi (v := 14) (by decide) ?_
  refine lv_istore (lv' := [(4, .int 14), (3, .int 1), (2, .int 3), (5, .long (((((f 0)).toUInt64 >>> ((52 : Int32).toInt64.toUInt64 &&& Int64.toUInt64 63)).toInt64) ||| ((f 1) <<< ((12 : Int32).toInt64 &&& 63)))), (0, .ref to), (1, .ref a)]) hx hb d_Lim_unpack_23 hl (by decide) rfl (fun ls hl => ?_)
  refine lv_aload_n hx hb d_Lim_unpack_25 rfl (lv_at hl 5 rfl) ?_
  refine lv_iload_n hx hb d_Lim_unpack_26 rfl (lv_at hl 1 rfl) ?_
  refine gm_lald hx hb X (k := 1) (rdL_up hp ht (by decide)) (by decide) ⟨by decide, by decide⟩ d_Lim_unpack_27 ?_
  refine lv_iload hx hb d_Lim_unpack_28 (lv_at hl 0 rfl) ?_
  refine lv_lushr hx hb d_Lim_unpack_30 rfl ?_
  refine lv_lstore (lv' := [(5, .long ((((f 1)).toUInt64 >>> ((14 : Int32).toInt64.toUInt64 &&& Int64.toUInt64 63)).toInt64)), (4, .int 14), (3, .int 1), (2, .int 3), (0, .ref to), (1, .ref a)]) hx hb d_Lim_unpack_31 hl (by decide) rfl (fun ls hl => ?_)
  refine lv_iload hx hb d_Lim_unpack_33 (lv_at hl 1 rfl) ?_
  refine lv_bipush (v := 26) hx hb d_Lim_unpack_35 (by decide) ?_
  refine lv_iadd hx hb d_Lim_unpack_37 ?_
  refine lv_eqi (v := 40) (by decide) ?_
  refine lv_bipush (v := 64) hx hb d_Lim_unpack_38 (by decide) ?_
  refine lv_icmp_le (tgt := 66) hx hb d_Lim_unpack_40 (by decide) (fun _ => ?_) (fun c9 => absurd (by decide) c9)
  refine lv_aload_n hx hb d_Lim_unpack_66 rfl (lv_at hl 4 rfl) ?_
  refine lv_iload_n hx hb d_Lim_unpack_67 rfl (lv_at hl 3 rfl) ?_
  refine lv_lload hx hb d_Lim_unpack_68 (lv_at hl 0 rfl) ?_
  refine lv_ldc2 (v := 67108863) hx hb hown (hW _ wk_Lim_15) d_Lim_unpack_70 ?_
  refine lv_land hx hb d_Lim_unpack_73 ?_
  refine gm_last hx hb X (k := 3) (gm_up_s _ _ _) hA (by decide) ⟨by decide, by decide⟩ d_Lim_unpack_74 (fun H locs X => ?_)
  rw [gm_up_up] at X
  have X : gx E (gm_up M to (LA E 10 (mx 4 (unF f) g))) s H locs := by rw [← mx_sL 3 (unF f) g]; exact X
  refine lv_iinc (v := 4) (lv' := [(2, .int 4), (5, .long ((((f 1)).toUInt64 >>> ((14 : Int32).toInt64.toUInt64 &&& Int64.toUInt64 63)).toInt64)), (4, .int 14), (3, .int 1), (0, .ref to), (1, .ref a)]) hx hb d_Lim_unpack_75 hl (k := 3) rfl (by decide) (by decide) rfl (fun ls hl => ?_)
  refine lv_goto (tgt := 2) hx hb d_Lim_unpack_78 (by decide) ?_
  refine lv_iload_n hx hb d_Lim_unpack_2 rfl (lv_at hl 0 rfl) ?_
  refine lv_bipush (v := 10) hx hb d_Lim_unpack_3 (by decide) ?_
  refine lv_icmp_ge (tgt := 81) hx hb d_Lim_unpack_5 (by decide) (fun c9 => absurd c9 (by decide)) (fun _ => ?_)
  refine lv_iload_n hx hb d_Lim_unpack_8 rfl (lv_at hl 0 rfl) ?_
  refine lv_bipush (v := 26) hx hb d_Lim_unpack_9 (by decide) ?_
  refine lv_imul hx hb d_Lim_unpack_11 ?_
  refine lv_eqi (v := 104) (by decide) ?_
  refine lv_bipush (v := 64) hx hb d_Lim_unpack_12 (by decide) ?_
  refine lv_idiv hx hb d_Lim_unpack_14 (by decide) ?_
  refine lv_eqi (v := 1) (by decide) ?_
  refine lv_istore_n (lv' := [(3, .int 1), (2, .int 4), (5, .long ((((f 1)).toUInt64 >>> ((14 : Int32).toInt64.toUInt64 &&& Int64.toUInt64 63)).toInt64)), (4, .int 14), (0, .ref to), (1, .ref a)]) hx hb d_Lim_unpack_15 rfl hl (by decide) rfl (fun ls hl => ?_)
  refine lv_iload_n hx hb d_Lim_unpack_16 rfl (lv_at hl 1 rfl) ?_
  refine lv_bipush (v := 26) hx hb d_Lim_unpack_17 (by decide) ?_
  refine lv_imul hx hb d_Lim_unpack_19 ?_
  refine lv_eqi (v := 104) (by decide) ?_
  refine lv_bipush (v := 64) hx hb d_Lim_unpack_20 (by decide) ?_
  refine lv_irem hx hb d_Lim_unpack_22 (by decide) ?_
  refine lv_eqi (v := 40) (by decide) ?_
  refine lv_istore (lv' := [(4, .int 40), (3, .int 1), (2, .int 4), (5, .long ((((f 1)).toUInt64 >>> ((14 : Int32).toInt64.toUInt64 &&& Int64.toUInt64 63)).toInt64)), (0, .ref to), (1, .ref a)]) hx hb d_Lim_unpack_23 hl (by decide) rfl (fun ls hl => ?_)
  refine lv_aload_n hx hb d_Lim_unpack_25 rfl (lv_at hl 5 rfl) ?_
  refine lv_iload_n hx hb d_Lim_unpack_26 rfl (lv_at hl 1 rfl) ?_
  refine gm_lald hx hb X (k := 1) (rdL_up hp ht (by decide)) (by decide) ⟨by decide, by decide⟩ d_Lim_unpack_27 ?_
  refine lv_iload hx hb d_Lim_unpack_28 (lv_at hl 0 rfl) ?_
  refine lv_lushr hx hb d_Lim_unpack_30 rfl ?_
  refine lv_lstore (lv' := [(5, .long ((((f 1)).toUInt64 >>> ((40 : Int32).toInt64.toUInt64 &&& Int64.toUInt64 63)).toInt64)), (4, .int 40), (3, .int 1), (2, .int 4), (0, .ref to), (1, .ref a)]) hx hb d_Lim_unpack_31 hl (by decide) rfl (fun ls hl => ?_)
  refine lv_iload hx hb d_Lim_unpack_33 (lv_at hl 1 rfl) ?_
  refine lv_bipush (v := 26) hx hb d_Lim_unpack_35 (by decide) ?_
  refine lv_iadd hx hb d_Lim_unpack_37 ?_
  refine lv_eqi (v := 66) (by decide) ?_
  refine lv_bipush (v := 64) hx hb d_Lim_unpack_38 (by decide) ?_
  refine lv_icmp_le (tgt := 66) hx hb d_Lim_unpack_40 (by decide) (fun c9 => absurd c9 (by decide)) (fun _ => ?_)
  refine lv_iload_n hx hb d_Lim_unpack_43 rfl (lv_at hl 2 rfl) ?_
  refine lv_iconst (v := 1) hx hb d_Lim_unpack_44 (by decide) ?_
  refine lv_iadd hx hb d_Lim_unpack_45 ?_
  refine lv_eqi (v := 2) (by decide) ?_
  refine lv_iconst (v := 4) hx hb d_Lim_unpack_46 (by decide) ?_
  refine lv_icmp_ge (tgt := 66) hx hb d_Lim_unpack_47 (by decide) (fun c9 => absurd c9 (by decide)) (fun _ => ?_)
  refine lv_lload hx hb d_Lim_unpack_50 (lv_at hl 0 rfl) ?_
  refine lv_aload_n hx hb d_Lim_unpack_52 rfl (lv_at hl 5 rfl) ?_
  refine lv_iload_n hx hb d_Lim_unpack_53 rfl (lv_at hl 2 rfl) ?_
  refine lv_iconst (v := 1) hx hb d_Lim_unpack_54 (by decide) ?_
  refine lv_iadd hx hb d_Lim_unpack_55 ?_
  refine lv_eqi (v := 2) (by decide) ?_
  refine gm_lald hx hb X (k := 2) (rdL_up hp ht (by decide)) (by decide) ⟨by decide, by decide⟩ d_Lim_unpack_56 ?_
  refine lv_bipush (v := 64) hx hb d_Lim_unpack_57 (by decide) ?_
  refine lv_iload hx hb d_Lim_unpack_59 (lv_at hl 1 rfl) ?_
  refine lv_isub hx hb d_Lim_unpack_61 ?_
  refine lv_eqi (v := 24) (by decide) ?_
  refine lv_lshl hx hb d_Lim_unpack_62 rfl ?_
  refine lv_lor hx hb d_Lim_unpack_63 ?_
  refine lv_lstore (lv' := [(5, .long (((((f 1)).toUInt64 >>> ((40 : Int32).toInt64.toUInt64 &&& Int64.toUInt64 63)).toInt64) ||| ((f 2) <<< ((24 : Int32).toInt64 &&& 63)))), (4, .int 40), (3, .int 1), (2, .int 4), (0, .ref to), (1, .ref a)]) hx hb d_Lim_unpack_64 hl (by decide) rfl (fun ls hl => ?_)
  refine lv_aload_n hx hb d_Lim_unpack_66 rfl (lv_at hl 4 rfl) ?_
  refine lv_iload_n hx hb d_Lim_unpack_67 rfl (lv_at hl 3 rfl) ?_
  refine lv_lload hx hb d_Lim_unpack_68 (lv_at hl 0 rfl) ?_
  refine lv_ldc2 (v := 67108863) hx hb hown (hW _ wk_Lim_15) d_Lim_unpack_70 ?_
  refine lv_land hx hb d_Lim_unpack_73 ?_
  refine gm_last hx hb X (k := 4) (gm_up_s _ _ _) hA (by decide) ⟨by decide, by decide⟩ d_Lim_unpack_74 (fun H locs X => ?_)
  rw [gm_up_up] at X
  have X : gx E (gm_up M to (LA E 10 (mx 5 (unF f) g))) s H locs := by rw [← mx_sL 4 (unF f) g]; exact X
  refine lv_iinc (v := 5) (lv' := [(2, .int 5), (5, .long (((((f 1)).toUInt64 >>> ((40 : Int32).toInt64.toUInt64 &&& Int64.toUInt64 63)).toInt64) ||| ((f 2) <<< ((24 : Int32).toInt64 &&& 63)))), (4, .int 40), (3, .int 1), (0, .ref to), (1, .ref a)]) hx hb d_Lim_unpack_75 hl (k := 3) rfl (by decide) (by decide) rfl (fun ls hl => ?_)
  refine lv_goto (tgt := 2) hx hb d_Lim_unpack_78 (by decide) ?_
  refine lv_iload_n hx hb d_Lim_unpack_2 rfl (lv_at hl 0 rfl) ?_
  refine lv_bipush (v := 10) hx hb d_Lim_unpack_3 (by decide) ?_
  refine lv_icmp_ge (tgt := 81) hx hb d_Lim_unpack_5 (by decide) (fun c9 => absurd c9 (by decide)) (fun _ => ?_)
  refine lv_iload_n hx hb d_Lim_unpack_8 rfl (lv_at hl 0 rfl) ?_
  refine lv_bipush (v := 26) hx hb d_Lim_unpack_9 (by decide) ?_
  refine lv_imul hx hb d_Lim_unpack_11 ?_
  refine lv_eqi (v := 130) (by decide) ?_
  refine lv_bipush (v := 64) hx hb d_Lim_unpack_12 (by decide) ?_
  refine lv_idiv hx hb d_Lim_unpack_14 (by decide) ?_
  refine lv_eqi (v := 2) (by decide) ?_
  refine lv_istore_n (lv' := [(3, .int 2), (2, .int 5), (5, .long (((((f 1)).toUInt64 >>> ((40 : Int32).toInt64.toUInt64 &&& Int64.toUInt64 63)).toInt64) ||| ((f 2) <<< ((24 : Int32).toInt64 &&& 63)))), (4, .int 40), (0, .ref to), (1, .ref a)]) hx hb d_Lim_unpack_15 rfl hl (by decide) rfl (fun ls hl => ?_)
  refine lv_iload_n hx hb d_Lim_unpack_16 rfl (lv_at hl 1 rfl) ?_
  refine lv_bipush (v := 26) hx hb d_Lim_unpack_17 (by decide) ?_
  refine lv_imul hx hb d_Lim_unpack_19 ?_
  refine lv_eqi (v := 130) (by decide) ?_
  refine lv_bipush (v := 64) hx hb d_Lim_unpack_20 (by decide) ?_
  refine lv_irem hx hb d_Lim_unpack_22 (by decide) ?_
  refine lv_eqi (v := 2) (by decide) ?_
  refine lv_istore (lv' := [(4, .int 2), (3, .int 2), (2, .int 5), (5, .long (((((f 1)).toUInt64 >>> ((40 : Int32).toInt64.toUInt64 &&& Int64.toUInt64 63)).toInt64) ||| ((f 2) <<< ((24 : Int32).toInt64 &&& 63)))), (0, .ref to), (1, .ref a)]) hx hb d_Lim_unpack_23 hl (by decide) rfl (fun ls hl => ?_)
  refine lv_aload_n hx hb d_Lim_unpack_25 rfl (lv_at hl 5 rfl) ?_
  refine lv_iload_n hx hb d_Lim_unpack_26 rfl (lv_at hl 1 rfl) ?_
  refine gm_lald hx hb X (k := 2) (rdL_up hp ht (by decide)) (by decide) ⟨by decide, by decide⟩ d_Lim_unpack_27 ?_
  refine lv_iload hx hb d_Lim_unpack_28 (lv_at hl 0 rfl) ?_
  refine lv_lushr hx hb d_Lim_unpack_30 rfl ?_
  refine lv_lstore (lv' := [(5, .long ((((f 2)).toUInt64 >>> ((2 : Int32).toInt64.toUInt64 &&& Int64.toUInt64 63)).toInt64)), (4, .int 2), (3, .int 2), (2, .int 5), (0, .ref to), (1, .ref a)]) hx hb d_Lim_unpack_31 hl (by decide) rfl (fun ls hl => ?_)
  refine lv_iload hx hb d_Lim_unpack_33 (lv_at hl 1 rfl) ?_
  refine lv_bipush (v := 26) hx hb d_Lim_unpack_35 (by decide) ?_
  refine lv_iadd hx hb d_Lim_unpack_37 ?_
  refine lv_eqi (v := 28) (by decide) ?_
  refine lv_bipush (v := 64) hx hb d_Lim_unpack_38 (by decide) ?_
  refine lv_icmp_le (tgt := 66) hx hb d_Lim_unpack_40 (by decide) (fun _ => ?_) (fun c9 => absurd (by decide) c9)
  refine lv_aload_n hx hb d_Lim_unpack_66 rfl (lv_at hl 4 rfl) ?_
  refine lv_iload_n hx hb d_Lim_unpack_67 rfl (lv_at hl 3 rfl) ?_
  refine lv_lload hx hb d_Lim_unpack_68 (lv_at hl 0 rfl) ?_
  refine lv_ldc2 (v := 67108863) hx hb hown (hW _ wk_Lim_15) d_Lim_unpack_70 ?_
  refine lv_land hx hb d_Lim_unpack_73 ?_
  refine gm_last hx hb X (k := 5) (gm_up_s _ _ _) hA (by decide) ⟨by decide, by decide⟩ d_Lim_unpack_74 (fun H locs X => ?_)
  rw [gm_up_up] at X
  have X : gx E (gm_up M to (LA E 10 (mx 6 (unF f) g))) s H locs := by rw [← mx_sL 5 (unF f) g]; exact X
  refine lv_iinc (v := 6) (lv' := [(2, .int 6), (5, .long ((((f 2)).toUInt64 >>> ((2 : Int32).toInt64.toUInt64 &&& Int64.toUInt64 63)).toInt64)), (4, .int 2), (3, .int 2), (0, .ref to), (1, .ref a)]) hx hb d_Lim_unpack_75 hl (k := 3) rfl (by decide) (by decide) rfl (fun ls hl => ?_)
  refine lv_goto (tgt := 2) hx hb d_Lim_unpack_78 (by decide) ?_
  refine lv_iload_n hx hb d_Lim_unpack_2 rfl (lv_at hl 0 rfl) ?_
  refine lv_bipush (v := 10) hx hb d_Lim_unpack_3 (by decide) ?_
  refine lv_icmp_ge (tgt := 81) hx hb d_Lim_unpack_5 (by decide) (fun c9 => absurd c9 (by decide)) (fun _ => ?_)
  refine lv_iload_n hx hb d_Lim_unpack_8 rfl (lv_at hl 0 rfl) ?_
  refine lv_bipush (v := 26) hx hb d_Lim_unpack_9 (by decide) ?_
  refine lv_imul hx hb d_Lim_unpack_11 ?_
  refine lv_eqi (v := 156) (by decide) ?_
  refine lv_bipush (v := 64) hx hb d_Lim_unpack_12 (by decide) ?_
  refine lv_idiv hx hb d_Lim_unpack_14 (by decide) ?_
  refine lv_eqi (v := 2) (by decide) ?_
  refine lv_istore_n (lv' := [(3, .int 2), (2, .int 6), (5, .long ((((f 2)).toUInt64 >>> ((2 : Int32).toInt64.toUInt64 &&& Int64.toUInt64 63)).toInt64)), (4, .int 2), (0, .ref to), (1, .ref a)]) hx hb d_Lim_unpack_15 rfl hl (by decide) rfl (fun ls hl => ?_)
  refine lv_iload_n hx hb d_Lim_unpack_16 rfl (lv_at hl 1 rfl) ?_
  refine lv_bipush (v := 26) hx hb d_Lim_unpack_17 (by decide) ?_
  refine lv_imul hx hb d_Lim_unpack_19 ?_
  refine lv_eqi (v := 156) (by decide) ?_
  refine lv_bipush (v := 64) hx hb d_Lim_unpack_20 (by decide) ?_
  refine lv_irem hx hb d_Lim_unpack_22 (by decide) ?_
  refine lv_eqi (v := 28) (by decide) ?_
  refine lv_istore (lv' := [(4, .int 28), (3, .int 2), (2, .int 6), (5, .long ((((f 2)).toUInt64 >>> ((2 : Int32).toInt64.toUInt64 &&& Int64.toUInt64 63)).toInt64)), (0, .ref to), (1, .ref a)]) hx hb d_Lim_unpack_23 hl (by decide) rfl (fun ls hl => ?_)
  refine lv_aload_n hx hb d_Lim_unpack_25 rfl (lv_at hl 5 rfl) ?_
  refine lv_iload_n hx hb d_Lim_unpack_26 rfl (lv_at hl 1 rfl) ?_
  refine gm_lald hx hb X (k := 2) (rdL_up hp ht (by decide)) (by decide) ⟨by decide, by decide⟩ d_Lim_unpack_27 ?_
  refine lv_iload hx hb d_Lim_unpack_28 (lv_at hl 0 rfl) ?_
  refine lv_lushr hx hb d_Lim_unpack_30 rfl ?_
  refine lv_lstore (lv' := [(5, .long ((((f 2)).toUInt64 >>> ((28 : Int32).toInt64.toUInt64 &&& Int64.toUInt64 63)).toInt64)), (4, .int 28), (3, .int 2), (2, .int 6), (0, .ref to), (1, .ref a)]) hx hb d_Lim_unpack_31 hl (by decide) rfl (fun ls hl => ?_)
  refine lv_iload hx hb d_Lim_unpack_33 (lv_at hl 1 rfl) ?_
  refine lv_bipush (v := 26) hx hb d_Lim_unpack_35 (by decide) ?_
  refine lv_iadd hx hb d_Lim_unpack_37 ?_
  refine lv_eqi (v := 54) (by decide) ?_
  refine lv_bipush (v := 64) hx hb d_Lim_unpack_38 (by decide) ?_
  refine lv_icmp_le (tgt := 66) hx hb d_Lim_unpack_40 (by decide) (fun _ => ?_) (fun c9 => absurd (by decide) c9)
  refine lv_aload_n hx hb d_Lim_unpack_66 rfl (lv_at hl 4 rfl) ?_
  refine lv_iload_n hx hb d_Lim_unpack_67 rfl (lv_at hl 3 rfl) ?_
  refine lv_lload hx hb d_Lim_unpack_68 (lv_at hl 0 rfl) ?_
  refine lv_ldc2 (v := 67108863) hx hb hown (hW _ wk_Lim_15) d_Lim_unpack_70 ?_
  refine lv_land hx hb d_Lim_unpack_73 ?_
  refine gm_last hx hb X (k := 6) (gm_up_s _ _ _) hA (by decide) ⟨by decide, by decide⟩ d_Lim_unpack_74 (fun H locs X => ?_)
  rw [gm_up_up] at X
  have X : gx E (gm_up M to (LA E 10 (mx 7 (unF f) g))) s H locs := by rw [← mx_sL 6 (unF f) g]; exact X
  refine lv_iinc (v := 7) (lv' := [(2, .int 7), (5, .long ((((f 2)).toUInt64 >>> ((28 : Int32).toInt64.toUInt64 &&& Int64.toUInt64 63)).toInt64)), (4, .int 28), (3, .int 2), (0, .ref to), (1, .ref a)]) hx hb d_Lim_unpack_75 hl (k := 3) rfl (by decide) (by decide) rfl (fun ls hl => ?_)
  refine lv_goto (tgt := 2) hx hb d_Lim_unpack_78 (by decide) ?_
  refine lv_iload_n hx hb d_Lim_unpack_2 rfl (lv_at hl 0 rfl) ?_
  refine lv_bipush (v := 10) hx hb d_Lim_unpack_3 (by decide) ?_
  refine lv_icmp_ge (tgt := 81) hx hb d_Lim_unpack_5 (by decide) (fun c9 => absurd c9 (by decide)) (fun _ => ?_)
  refine lv_iload_n hx hb d_Lim_unpack_8 rfl (lv_at hl 0 rfl) ?_
  refine lv_bipush (v := 26) hx hb d_Lim_unpack_9 (by decide) ?_
  refine lv_imul hx hb d_Lim_unpack_11 ?_
  refine lv_eqi (v := 182) (by decide) ?_
  refine lv_bipush (v := 64) hx hb d_Lim_unpack_12 (by decide) ?_
  refine lv_idiv hx hb d_Lim_unpack_14 (by decide) ?_
  refine lv_eqi (v := 2) (by decide) ?_
  refine lv_istore_n (lv' := [(3, .int 2), (2, .int 7), (5, .long ((((f 2)).toUInt64 >>> ((28 : Int32).toInt64.toUInt64 &&& Int64.toUInt64 63)).toInt64)), (4, .int 28), (0, .ref to), (1, .ref a)]) hx hb d_Lim_unpack_15 rfl hl (by decide) rfl (fun ls hl => ?_)
  refine lv_iload_n hx hb d_Lim_unpack_16 rfl (lv_at hl 1 rfl) ?_
  refine lv_bipush (v := 26) hx hb d_Lim_unpack_17 (by decide) ?_
  refine lv_imul hx hb d_Lim_unpack_19 ?_
  refine lv_eqi (v := 182) (by decide) ?_
  refine lv_bipush (v := 64) hx hb d_Lim_unpack_20 (by decide) ?_
  refine lv_irem hx hb d_Lim_unpack_22 (by decide) ?_
  refine lv_eqi (v := 54) (by decide) ?_
  refine lv_istore (lv' := [(4, .int 54), (3, .int 2), (2, .int 7), (5, .long ((((f 2)).toUInt64 >>> ((28 : Int32).toInt64.toUInt64 &&& Int64.toUInt64 63)).toInt64)), (0, .ref to), (1, .ref a)]) hx hb d_Lim_unpack_23 hl (by decide) rfl (fun ls hl => ?_)
  refine lv_aload_n hx hb d_Lim_unpack_25 rfl (lv_at hl 5 rfl) ?_
  refine lv_iload_n hx hb d_Lim_unpack_26 rfl (lv_at hl 1 rfl) ?_
  refine gm_lald hx hb X (k := 2) (rdL_up hp ht (by decide)) (by decide) ⟨by decide, by decide⟩ d_Lim_unpack_27 ?_
  refine lv_iload hx hb d_Lim_unpack_28 (lv_at hl 0 rfl) ?_
  refine lv_lushr hx hb d_Lim_unpack_30 rfl ?_
  refine lv_lstore (lv' := [(5, .long ((((f 2)).toUInt64 >>> ((54 : Int32).toInt64.toUInt64 &&& Int64.toUInt64 63)).toInt64)), (4, .int 54), (3, .int 2), (2, .int 7), (0, .ref to), (1, .ref a)]) hx hb d_Lim_unpack_31 hl (by decide) rfl (fun ls hl => ?_)
  refine lv_iload hx hb d_Lim_unpack_33 (lv_at hl 1 rfl) ?_
  refine lv_bipush (v := 26) hx hb d_Lim_unpack_35 (by decide) ?_
  refine lv_iadd hx hb d_Lim_unpack_37 ?_
  refine lv_eqi (v := 80) (by decide) ?_
  refine lv_bipush (v := 64) hx hb d_Lim_unpack_38 (by decide) ?_
  refine lv_icmp_le (tgt := 66) hx hb d_Lim_unpack_40 (by decide) (fun c9 => absurd c9 (by decide)) (fun _ => ?_)
  refine lv_iload_n hx hb d_Lim_unpack_43 rfl (lv_at hl 2 rfl) ?_
  refine lv_iconst (v := 1) hx hb d_Lim_unpack_44 (by decide) ?_
  refine lv_iadd hx hb d_Lim_unpack_45 ?_
  refine lv_eqi (v := 3) (by decide) ?_
  refine lv_iconst (v := 4) hx hb d_Lim_unpack_46 (by decide) ?_
  refine lv_icmp_ge (tgt := 66) hx hb d_Lim_unpack_47 (by decide) (fun c9 => absurd c9 (by decide)) (fun _ => ?_)
  refine lv_lload hx hb d_Lim_unpack_50 (lv_at hl 0 rfl) ?_
  refine lv_aload_n hx hb d_Lim_unpack_52 rfl (lv_at hl 5 rfl) ?_
  refine lv_iload_n hx hb d_Lim_unpack_53 rfl (lv_at hl 2 rfl) ?_
  refine lv_iconst (v := 1) hx hb d_Lim_unpack_54 (by decide) ?_
  refine lv_iadd hx hb d_Lim_unpack_55 ?_
  refine lv_eqi (v := 3) (by decide) ?_
  refine gm_lald hx hb X (k := 3) (rdL_up hp ht (by decide)) (by decide) ⟨by decide, by decide⟩ d_Lim_unpack_56 ?_
  refine lv_bipush (v := 64) hx hb d_Lim_unpack_57 (by decide) ?_
  refine lv_iload hx hb d_Lim_unpack_59 (lv_at hl 1 rfl) ?_
  refine lv_isub hx hb d_Lim_unpack_61 ?_
  refine lv_eqi (v := 10) (by decide) ?_
  refine lv_lshl hx hb d_Lim_unpack_62 rfl ?_
  refine lv_lor hx hb d_Lim_unpack_63 ?_
  refine lv_lstore (lv' := [(5, .long (((((f 2)).toUInt64 >>> ((54 : Int32).toInt64.toUInt64 &&& Int64.toUInt64 63)).toInt64) ||| ((f 3) <<< ((10 : Int32).toInt64 &&& 63)))), (4, .int 54), (3, .int 2), (2, .int 7), (0, .ref to), (1, .ref a)]) hx hb d_Lim_unpack_64 hl (by decide) rfl (fun ls hl => ?_)
  refine lv_aload_n hx hb d_Lim_unpack_66 rfl (lv_at hl 4 rfl) ?_
  refine lv_iload_n hx hb d_Lim_unpack_67 rfl (lv_at hl 3 rfl) ?_
  refine lv_lload hx hb d_Lim_unpack_68 (lv_at hl 0 rfl) ?_
  refine lv_ldc2 (v := 67108863) hx hb hown (hW _ wk_Lim_15) d_Lim_unpack_70 ?_
  refine lv_land hx hb d_Lim_unpack_73 ?_
  refine gm_last hx hb X (k := 7) (gm_up_s _ _ _) hA (by decide) ⟨by decide, by decide⟩ d_Lim_unpack_74 (fun H locs X => ?_)
  rw [gm_up_up] at X
  have X : gx E (gm_up M to (LA E 10 (mx 8 (unF f) g))) s H locs := by rw [← mx_sL 7 (unF f) g]; exact X
  refine lv_iinc (v := 8) (lv' := [(2, .int 8), (5, .long (((((f 2)).toUInt64 >>> ((54 : Int32).toInt64.toUInt64 &&& Int64.toUInt64 63)).toInt64) ||| ((f 3) <<< ((10 : Int32).toInt64 &&& 63)))), (4, .int 54), (3, .int 2), (0, .ref to), (1, .ref a)]) hx hb d_Lim_unpack_75 hl (k := 3) rfl (by decide) (by decide) rfl (fun ls hl => ?_)
  refine lv_goto (tgt := 2) hx hb d_Lim_unpack_78 (by decide) ?_
  refine lv_iload_n hx hb d_Lim_unpack_2 rfl (lv_at hl 0 rfl) ?_
  refine lv_bipush (v := 10) hx hb d_Lim_unpack_3 (by decide) ?_
  refine lv_icmp_ge (tgt := 81) hx hb d_Lim_unpack_5 (by decide) (fun c9 => absurd c9 (by decide)) (fun _ => ?_)
  refine lv_iload_n hx hb d_Lim_unpack_8 rfl (lv_at hl 0 rfl) ?_
  refine lv_bipush (v := 26) hx hb d_Lim_unpack_9 (by decide) ?_
  refine lv_imul hx hb d_Lim_unpack_11 ?_
  refine lv_eqi (v := 208) (by decide) ?_
  refine lv_bipush (v := 64) hx hb d_Lim_unpack_12 (by decide) ?_
  refine lv_idiv hx hb d_Lim_unpack_14 (by decide) ?_
  refine lv_eqi (v := 3) (by decide) ?_
  refine lv_istore_n (lv' := [(3, .int 3), (2, .int 8), (5, .long (((((f 2)).toUInt64 >>> ((54 : Int32).toInt64.toUInt64 &&& Int64.toUInt64 63)).toInt64) ||| ((f 3) <<< ((10 : Int32).toInt64 &&& 63)))), (4, .int 54), (0, .ref to), (1, .ref a)]) hx hb d_Lim_unpack_15 rfl hl (by decide) rfl (fun ls hl => ?_)
  refine lv_iload_n hx hb d_Lim_unpack_16 rfl (lv_at hl 1 rfl) ?_
  refine lv_bipush (v := 26) hx hb d_Lim_unpack_17 (by decide) ?_
  refine lv_imul hx hb d_Lim_unpack_19 ?_
  refine lv_eqi (v := 208) (by decide) ?_
  refine lv_bipush (v := 64) hx hb d_Lim_unpack_20 (by decide) ?_
  refine lv_irem hx hb d_Lim_unpack_22 (by decide) ?_
  refine lv_eqi (v := 16) (by decide) ?_
  refine lv_istore (lv' := [(4, .int 16), (3, .int 3), (2, .int 8), (5, .long (((((f 2)).toUInt64 >>> ((54 : Int32).toInt64.toUInt64 &&& Int64.toUInt64 63)).toInt64) ||| ((f 3) <<< ((10 : Int32).toInt64 &&& 63)))), (0, .ref to), (1, .ref a)]) hx hb d_Lim_unpack_23 hl (by decide) rfl (fun ls hl => ?_)
  refine lv_aload_n hx hb d_Lim_unpack_25 rfl (lv_at hl 5 rfl) ?_
  refine lv_iload_n hx hb d_Lim_unpack_26 rfl (lv_at hl 1 rfl) ?_
  refine gm_lald hx hb X (k := 3) (rdL_up hp ht (by decide)) (by decide) ⟨by decide, by decide⟩ d_Lim_unpack_27 ?_
  refine lv_iload hx hb d_Lim_unpack_28 (lv_at hl 0 rfl) ?_
  refine lv_lushr hx hb d_Lim_unpack_30 rfl ?_
  refine lv_lstore (lv' := [(5, .long ((((f 3)).toUInt64 >>> ((16 : Int32).toInt64.toUInt64 &&& Int64.toUInt64 63)).toInt64)), (4, .int 16), (3, .int 3), (2, .int 8), (0, .ref to), (1, .ref a)]) hx hb d_Lim_unpack_31 hl (by decide) rfl (fun ls hl => ?_)
  refine lv_iload hx hb d_Lim_unpack_33 (lv_at hl 1 rfl) ?_
  refine lv_bipush (v := 26) hx hb d_Lim_unpack_35 (by decide) ?_
  refine lv_iadd hx hb d_Lim_unpack_37 ?_
  refine lv_eqi (v := 42) (by decide) ?_
  refine lv_bipush (v := 64) hx hb d_Lim_unpack_38 (by decide) ?_
  refine lv_icmp_le (tgt := 66) hx hb d_Lim_unpack_40 (by decide) (fun _ => ?_) (fun c9 => absurd (by decide) c9)
  refine lv_aload_n hx hb d_Lim_unpack_66 rfl (lv_at hl 4 rfl) ?_
  refine lv_iload_n hx hb d_Lim_unpack_67 rfl (lv_at hl 3 rfl) ?_
  refine lv_lload hx hb d_Lim_unpack_68 (lv_at hl 0 rfl) ?_
  refine lv_ldc2 (v := 67108863) hx hb hown (hW _ wk_Lim_15) d_Lim_unpack_70 ?_
  refine lv_land hx hb d_Lim_unpack_73 ?_
  refine gm_last hx hb X (k := 8) (gm_up_s _ _ _) hA (by decide) ⟨by decide, by decide⟩ d_Lim_unpack_74 (fun H locs X => ?_)
  rw [gm_up_up] at X
  have X : gx E (gm_up M to (LA E 10 (mx 9 (unF f) g))) s H locs := by rw [← mx_sL 8 (unF f) g]; exact X
  refine lv_iinc (v := 9) (lv' := [(2, .int 9), (5, .long ((((f 3)).toUInt64 >>> ((16 : Int32).toInt64.toUInt64 &&& Int64.toUInt64 63)).toInt64)), (4, .int 16), (3, .int 3), (0, .ref to), (1, .ref a)]) hx hb d_Lim_unpack_75 hl (k := 3) rfl (by decide) (by decide) rfl (fun ls hl => ?_)
  refine lv_goto (tgt := 2) hx hb d_Lim_unpack_78 (by decide) ?_
  refine lv_iload_n hx hb d_Lim_unpack_2 rfl (lv_at hl 0 rfl) ?_
  refine lv_bipush (v := 10) hx hb d_Lim_unpack_3 (by decide) ?_
  refine lv_icmp_ge (tgt := 81) hx hb d_Lim_unpack_5 (by decide) (fun c9 => absurd c9 (by decide)) (fun _ => ?_)
  refine lv_iload_n hx hb d_Lim_unpack_8 rfl (lv_at hl 0 rfl) ?_
  refine lv_bipush (v := 26) hx hb d_Lim_unpack_9 (by decide) ?_
  refine lv_imul hx hb d_Lim_unpack_11 ?_
  refine lv_eqi (v := 234) (by decide) ?_
  refine lv_bipush (v := 64) hx hb d_Lim_unpack_12 (by decide) ?_
  refine lv_idiv hx hb d_Lim_unpack_14 (by decide) ?_
  refine lv_eqi (v := 3) (by decide) ?_
  refine lv_istore_n (lv' := [(3, .int 3), (2, .int 9), (5, .long ((((f 3)).toUInt64 >>> ((16 : Int32).toInt64.toUInt64 &&& Int64.toUInt64 63)).toInt64)), (4, .int 16), (0, .ref to), (1, .ref a)]) hx hb d_Lim_unpack_15 rfl hl (by decide) rfl (fun ls hl => ?_)
  refine lv_iload_n hx hb d_Lim_unpack_16 rfl (lv_at hl 1 rfl) ?_
  refine lv_bipush (v := 26) hx hb d_Lim_unpack_17 (by decide) ?_
  refine lv_imul hx hb d_Lim_unpack_19 ?_
  refine lv_eqi (v := 234) (by decide) ?_
  refine lv_bipush (v := 64) hx hb d_Lim_unpack_20 (by decide) ?_
  refine lv_irem hx hb d_Lim_unpack_22 (by decide) ?_
  refine lv_eqi (v := 42) (by decide) ?_
  refine lv_istore (lv' := [(4, .int 42), (3, .int 3), (2, .int 9), (5, .long ((((f 3)).toUInt64 >>> ((16 : Int32).toInt64.toUInt64 &&& Int64.toUInt64 63)).toInt64)), (0, .ref to), (1, .ref a)]) hx hb d_Lim_unpack_23 hl (by decide) rfl (fun ls hl => ?_)
  refine lv_aload_n hx hb d_Lim_unpack_25 rfl (lv_at hl 5 rfl) ?_
  refine lv_iload_n hx hb d_Lim_unpack_26 rfl (lv_at hl 1 rfl) ?_
  refine gm_lald hx hb X (k := 3) (rdL_up hp ht (by decide)) (by decide) ⟨by decide, by decide⟩ d_Lim_unpack_27 ?_
  refine lv_iload hx hb d_Lim_unpack_28 (lv_at hl 0 rfl) ?_
  refine lv_lushr hx hb d_Lim_unpack_30 rfl ?_
  refine lv_lstore (lv' := [(5, .long ((((f 3)).toUInt64 >>> ((42 : Int32).toInt64.toUInt64 &&& Int64.toUInt64 63)).toInt64)), (4, .int 42), (3, .int 3), (2, .int 9), (0, .ref to), (1, .ref a)]) hx hb d_Lim_unpack_31 hl (by decide) rfl (fun ls hl => ?_)
  refine lv_iload hx hb d_Lim_unpack_33 (lv_at hl 1 rfl) ?_
  refine lv_bipush (v := 26) hx hb d_Lim_unpack_35 (by decide) ?_
  refine lv_iadd hx hb d_Lim_unpack_37 ?_
  refine lv_eqi (v := 68) (by decide) ?_
  refine lv_bipush (v := 64) hx hb d_Lim_unpack_38 (by decide) ?_
  refine lv_icmp_le (tgt := 66) hx hb d_Lim_unpack_40 (by decide) (fun c9 => absurd c9 (by decide)) (fun _ => ?_)
  refine lv_iload_n hx hb d_Lim_unpack_43 rfl (lv_at hl 2 rfl) ?_
  refine lv_iconst (v := 1) hx hb d_Lim_unpack_44 (by decide) ?_
  refine lv_iadd hx hb d_Lim_unpack_45 ?_
  refine lv_eqi (v := 4) (by decide) ?_
  refine lv_iconst (v := 4) hx hb d_Lim_unpack_46 (by decide) ?_
  refine lv_icmp_ge (tgt := 66) hx hb d_Lim_unpack_47 (by decide) (fun _ => ?_) (fun c9 => absurd (by decide) c9)
  refine lv_aload_n hx hb d_Lim_unpack_66 rfl (lv_at hl 4 rfl) ?_
  refine lv_iload_n hx hb d_Lim_unpack_67 rfl (lv_at hl 3 rfl) ?_
  refine lv_lload hx hb d_Lim_unpack_68 (lv_at hl 0 rfl) ?_
  refine lv_ldc2 (v := 67108863) hx hb hown (hW _ wk_Lim_15) d_Lim_unpack_70 ?_
  refine lv_land hx hb d_Lim_unpack_73 ?_
  refine gm_last hx hb X (k := 9) (gm_up_s _ _ _) hA (by decide) ⟨by decide, by decide⟩ d_Lim_unpack_74 (fun H locs X => ?_)
  rw [gm_up_up] at X
  have X : gx E (gm_up M to (LA E 10 (mx 10 (unF f) g))) s H locs := by rw [← mx_sL 9 (unF f) g]; exact X
  refine lv_iinc (v := 10) (lv' := [(2, .int 10), (5, .long ((((f 3)).toUInt64 >>> ((42 : Int32).toInt64.toUInt64 &&& Int64.toUInt64 63)).toInt64)), (4, .int 42), (3, .int 3), (0, .ref to), (1, .ref a)]) hx hb d_Lim_unpack_75 hl (k := 3) rfl (by decide) (by decide) rfl (fun ls hl => ?_)
  refine lv_goto (tgt := 2) hx hb d_Lim_unpack_78 (by decide) ?_
  refine lv_iload_n hx hb d_Lim_unpack_2 rfl (lv_at hl 0 rfl) ?_
  refine lv_bipush (v := 10) hx hb d_Lim_unpack_3 (by decide) ?_
  refine lv_icmp_ge (tgt := 81) hx hb d_Lim_unpack_5 (by decide) (fun _ => ?_) (fun c9 => absurd (by decide) c9)
  exact gm_vret hx hb hr hlk ⟨X.1, gm_LA X.2.1 (fun j hj => by rw [mx_lt _ _ (by omega)]), X.2.2⟩ rfl d_Lim_unpack_81
/-- four parts over what was there -/
def pk4 (a b c d : Int64) (g : Nat → Int64) : Nat → Int64 := fun j => match j with
  | 0 => a
  | 1 => b
  | 2 => c
  | 3 => d
  | _ => g j
theorem pk4_s0 (a b c d x : Int64) (g : Nat → Int64) : vp_updL (pk4 a b c d g) 0 x = pk4 x b c d g := by
  funext j
  match j with
  | 0 | 1 | 2 | 3 => rfl
  | j + 4 => simp [vp_updL, pk4]
theorem pk4_s1 (a b c d x : Int64) (g : Nat → Int64) : vp_updL (pk4 a b c d g) 1 x = pk4 a x c d g := by
  funext j
  match j with
  | 0 | 1 | 2 | 3 => rfl
  | j + 4 => simp [vp_updL, pk4]
theorem pk4_s2 (a b c d x : Int64) (g : Nat → Int64) : vp_updL (pk4 a b c d g) 2 x = pk4 a b x d g := by
  funext j
  match j with
  | 0 | 1 | 2 | 3 => rfl
  | j + 4 => simp [vp_updL, pk4]
theorem pk4_s3 (a b c d x : Int64) (g : Nat → Int64) : vp_updL (pk4 a b c d g) 3 x = pk4 a b c x g := by
  funext j
  match j with
  | 0 | 1 | 2 | 3 => rfl
  | j + 4 => simp [vp_updL, pk4]
theorem pk4_eta (g : Nat → Int64) : pk4 (g 0) (g 1) (g 2) (g 3) g = g := by
  funext j
  match j with
  | 0 | 1 | 2 | 3 => rfl
  | j + 4 => rfl
/-- the parts of a number in limbs -/
def pkF (f : Nat → Int64) (j : Nat) : Int64 := match j with
  | 0 => (((0 ||| ((f 0) <<< ((0 : Int32).toInt64 &&& 63))) ||| ((f 1) <<< ((26 : Int32).toInt64 &&& 63))) ||| ((f 2) <<< ((52 : Int32).toInt64 &&& 63)))
  | 1 => (((0 ||| ((((f 2)).toUInt64 >>> ((12 : Int32).toInt64.toUInt64 &&& Int64.toUInt64 63)).toInt64)) ||| ((f 3) <<< ((14 : Int32).toInt64 &&& 63))) ||| ((f 4) <<< ((40 : Int32).toInt64 &&& 63)))
  | 2 => ((((0 ||| ((((f 4)).toUInt64 >>> ((24 : Int32).toInt64.toUInt64 &&& Int64.toUInt64 63)).toInt64)) ||| ((f 5) <<< ((2 : Int32).toInt64 &&& 63))) ||| ((f 6) <<< ((28 : Int32).toInt64 &&& 63))) ||| ((f 7) <<< ((54 : Int32).toInt64 &&& 63)))
  | _ => (((0 ||| ((((f 7)).toUInt64 >>> ((10 : Int32).toInt64.toUInt64 &&& Int64.toUInt64 63)).toInt64)) ||| ((f 8) <<< ((16 : Int32).toInt64 &&& 63))) ||| ((f 9) <<< ((42 : Int32).toInt64 &&& 63)))
set_option maxHeartbeats 4000000 in
theorem c_Lim_pack (l : Launch) (E : gm_E) (M : gm_M) {to a : Nat} {g f : Nat → Int64} (ht : M to = some (LA E 4 g)) (hA : E.2.1 ≤ to) (ha : M a = some (LA E 10 f)) : cv_ l y_Lim_pack b_Lim_pack 5 none { frames := 0, cells := 0, slots := 0, locals := 0 } E M [.ref to, .ref a] (fun M' => M' = gm_up M to (LA E 4 (pkF f))) := by
  refine gm_met (by decide) (Nat.le_of_ble_eq_true rfl) (fun p e s m below meth c ls hx hb hml hr hlk hnm hown hW X hl => ?_)
  have hl : lv_has ls 5 [(0, .ref to), (1, .ref a)] := hl
  refine lv_iconst (v := 0) hx hb d_Lim_pack_0 (by decide) ?_
  refine lv_istore_n (lv' := [(2, .int 0), (0, .ref to), (1, .ref a)]) hx hb d_Lim_pack_1 rfl hl (by decide) rfl (fun ls hl => ?_)
  refine lv_iload_n hx hb d_Lim_pack_2 rfl (lv_at hl 0 rfl) ?_
  refine lv_iconst (v := 4) hx hb d_Lim_pack_3 (by decide) ?_
  refine lv_icmp_ge (tgt := 17) hx hb d_Lim_pack_4 (by decide) (fun c9 => absurd c9 (by decide)) (fun _ => ?_)
  refine lv_aload_n hx hb d_Lim_pack_7 rfl (lv_at hl 1 rfl) ?_
  refine lv_iload_n hx hb d_Lim_pack_8 rfl (lv_at hl 0 rfl) ?_
  refine lv_lconst (v := 0) hx hb d_Lim_pack_9 (by decide) ?_
  have X : gx E (gm_up M to (LA E 4 (pk4 (g 0) (g 1) (g 2) (g 3) g))) s s.heap [] := by rw [pk4_eta, gm_up_self ht]; exact X
  refine gm_last hx hb X (k := 0) (gm_up_s _ _ _) hA (by decide) ⟨by decide, by decide⟩ d_Lim_pack_10 (fun H locs X => ?_)
  rw [gm_up_up, pk4_s0] at X
  refine lv_iinc (v := 1) (lv' := [(2, .int 1), (0, .ref to), (1, .ref a)]) hx hb d_Lim_pack_11 hl (k := 0) rfl (by decide) (by decide) rfl (fun ls hl => ?_)
  refine lv_goto (tgt := 2) hx hb d_Lim_pack_14 (by decide) ?_
  refine lv_iload_n hx hb d_Lim_pack_2 rfl (lv_at hl 0 rfl) ?_
  refine lv_iconst (v := 4) hx hb d_Lim_pack_3 (by decide) ?_
  refine lv_icmp_ge (tgt := 17) hx hb d_Lim_pack_4 (by decide) (fun c9 => absurd c9 (by decide)) (fun _ => ?_)
  refine lv_aload_n hx hb d_Lim_pack_7 rfl (lv_at hl 1 rfl) ?_
  refine lv_iload_n hx hb d_Lim_pack_8 rfl (lv_at hl 0 rfl) ?_
  refine lv_lconst (v := 0) hx hb d_Lim_pack_9 (by decide) ?_
  refine gm_last hx hb X (k := 1) (gm_up_s _ _ _) hA (by decide) ⟨by decide, by decide⟩ d_Lim_pack_10 (fun H locs X => ?_)
  rw [gm_up_up, pk4_s1] at X
  refine lv_iinc (v := 2) (lv' := [(2, .int 2), (0, .ref to), (1, .ref a)]) hx hb d_Lim_pack_11 hl (k := 0) rfl (by decide) (by decide) rfl (fun ls hl => ?_)
  refine lv_goto (tgt := 2) hx hb d_Lim_pack_14 (by decide) ?_
  refine lv_iload_n hx hb d_Lim_pack_2 rfl (lv_at hl 0 rfl) ?_
  refine lv_iconst (v := 4) hx hb d_Lim_pack_3 (by decide) ?_
  refine lv_icmp_ge (tgt := 17) hx hb d_Lim_pack_4 (by decide) (fun c9 => absurd c9 (by decide)) (fun _ => ?_)
  refine lv_aload_n hx hb d_Lim_pack_7 rfl (lv_at hl 1 rfl) ?_
  refine lv_iload_n hx hb d_Lim_pack_8 rfl (lv_at hl 0 rfl) ?_
  refine lv_lconst (v := 0) hx hb d_Lim_pack_9 (by decide) ?_
  refine gm_last hx hb X (k := 2) (gm_up_s _ _ _) hA (by decide) ⟨by decide, by decide⟩ d_Lim_pack_10 (fun H locs X => ?_)
  rw [gm_up_up, pk4_s2] at X
  refine lv_iinc (v := 3) (lv' := [(2, .int 3), (0, .ref to), (1, .ref a)]) hx hb d_Lim_pack_11 hl (k := 0) rfl (by decide) (by decide) rfl (fun ls hl => ?_)
  refine lv_goto (tgt := 2) hx hb d_Lim_pack_14 (by decide) ?_
  refine lv_iload_n hx hb d_Lim_pack_2 rfl (lv_at hl 0 rfl) ?_
  refine lv_iconst (v := 4) hx hb d_Lim_pack_3 (by decide) ?_
  refine lv_icmp_ge (tgt := 17) hx hb d_Lim_pack_4 (by decide) (fun c9 => absurd c9 (by decide)) (fun _ => ?_)
  refine lv_aload_n hx hb d_Lim_pack_7 rfl (lv_at hl 1 rfl) ?_
  refine lv_iload_n hx hb d_Lim_pack_8 rfl (lv_at hl 0 rfl) ?_
  refine lv_lconst (v := 0) hx hb d_Lim_pack_9 (by decide) ?_
  refine gm_last hx hb X (k := 3) (gm_up_s _ _ _) hA (by decide) ⟨by decide, by decide⟩ d_Lim_pack_10 (fun H locs X => ?_)
  rw [gm_up_up, pk4_s3] at X
  refine lv_iinc (v := 4) (lv' := [(2, .int 4), (0, .ref to), (1, .ref a)]) hx hb d_Lim_pack_11 hl (k := 0) rfl (by decide) (by decide) rfl (fun ls hl => ?_)
  refine lv_goto (tgt := 2) hx hb d_Lim_pack_14 (by decide) ?_
  refine lv_iload_n hx hb d_Lim_pack_2 rfl (lv_at hl 0 rfl) ?_
  refine lv_iconst (v := 4) hx hb d_Lim_pack_3 (by decide) ?_
  refine lv_icmp_ge (tgt := 17) hx hb d_Lim_pack_4 (by decide) (fun _ => ?_) (fun c9 => absurd (by decide) c9)
  refine lv_iconst (v := 0) hx hb d_Lim_pack_17 (by decide) ?_
  refine lv_istore_n (lv' := [(2, .int 0), (0, .ref to), (1, .ref a)]) hx hb d_Lim_pack_18 rfl hl (by decide) rfl (fun ls hl => ?_)
  refine lv_iload_n hx hb d_Lim_pack_19 rfl (lv_at hl 0 rfl) ?_
  refine lv_bipush (v := 10) hx hb d_Lim_pack_20 (by decide) ?_
  refine lv_icmp_ge (tgt := 94) hx hb d_Lim_pack_22 (by decide) (fun c9 => absurd c9 (by decide)) (fun _ => ?_)
  refine lv_iload_n hx hb d_Lim_pack_25 rfl (lv_at hl 0 rfl) ?_
  refine lv_bipush (v := 26) hx hb d_Lim_pack_26 (by decide) ?_
  refine lv_imul hx hb d_Lim_pack_28 ?_
  refine lv_eqi (v := 0) (by decide) ?_
  refine lv_bipush (v := 64) hx hb d_Lim_pack_29 (by decide) ?_
  refine lv_idiv hx hb d_Lim_pack_31 (by decide) ?_
  refine lv_eqi (v := 0) (by decide) ?_
  refine lv_istore_n (lv' := [(3, .int 0), (2, .int 0), (0, .ref to), (1, .ref a)]) hx hb d_Lim_pack_32 rfl hl (by decide) rfl (fun ls hl => ?_)
  refine lv_iload_n hx hb d_Lim_pack_33 rfl (lv_at hl 1 rfl) ?_
  refine lv_bipush (v := 26) hx hb d_Lim_pack_34 (by decide) ?_
  refine lv_imul hx hb d_Lim_pack_36 ?_
  refine lv_eqi (v := 0) (by decide) ?_
  refine lv_bipush (v := 64) hx hb d_Lim_pack_37 (by decide) ?_
  refine lv_irem hx hb d_Lim_pack_39 (by decide) ?_
  refine lv_eqi (v := 0) (by decide) ?_
  refine lv_istore (lv' := [(4, .int 0), (3, .int 0), (2, .int 0), (0, .ref to), (1, .ref a)]) hx hb d_Lim_pack_40 hl (by decide) rfl (fun ls hl => ?_)
  refine lv_aload_n hx hb d_Lim_pack_42 rfl (lv_at hl 3 rfl) ?_
  refine lv_iload_n hx hb d_Lim_pack_43 rfl (lv_at hl 1 rfl) ?_
  refine lv_dup2_11 hx hb d_Lim_pack_44 rfl rfl ?_
  refine gm_lald hx hb X (k := 0) (Or.inl (gm_up_s _ _ _)) (by decide) ⟨by decide, by decide⟩ d_Lim_pack_45 ?_
  refine lv_eql (v := 0) rfl ?_
  refine lv_aload_n hx hb d_Lim_pack_46 rfl (lv_at hl 4 rfl) ?_
  refine lv_iload_n hx hb d_Lim_pack_47 rfl (lv_at hl 2 rfl) ?_
  refine gm_lald hx hb X (k := 0) (rdL_up (Or.inl ha) ht (by decide)) (by decide) ⟨by decide, by decide⟩ d_Lim_pack_48 ?_
  refine lv_iload hx hb d_Lim_pack_49 (lv_at hl 0 rfl) ?_
  refine lv_lshl hx hb d_Lim_pack_51 rfl ?_
  refine lv_lor hx hb d_Lim_pack_52 ?_
  refine lv_topl (fun v1 ev1 => ?_)
  refine gm_last hx hb X (k := 0) (gm_up_s _ _ _) hA (by decide) ⟨by decide, by decide⟩ d_Lim_pack_53 (fun H locs X => ?_)
  rw [gm_up_up, pk4_s0] at X
  refine lv_iload hx hb d_Lim_pack_54 (lv_at hl 0 rfl) ?_
  refine lv_bipush (v := 26) hx hb d_Lim_pack_56 (by decide) ?_
  refine lv_iadd hx hb d_Lim_pack_58 ?_
  refine lv_eqi (v := 26) (by decide) ?_
  refine lv_bipush (v := 64) hx hb d_Lim_pack_59 (by decide) ?_
  refine lv_icmp_le (tgt := 88) hx hb d_Lim_pack_61 (by decide) (fun _ => ?_) (fun c9 => absurd (by decide) c9)
  refine lv_iinc (v := 1) (lv' := [(2, .int 1), (4, .int 0), (3, .int 0), (0, .ref to), (1, .ref a)]) hx hb d_Lim_pack_88 hl (k := 2) rfl (by decide) (by decide) rfl (fun ls hl => ?_)
  refine lv_goto (tgt := 19) hx hb d_Lim_pack_91 (by decide) ?_
  refine lv_iload_n hx hb d_Lim_pack_19 rfl (lv_at hl 0 rfl) ?_
  refine lv_bipush (v := 10) hx hb d_Lim_pack_20 (by decide) ?_
  refine lv_icmp_ge (tgt := 94) hx hb d_Lim_pack_22 (by decide) (fun c9 => absurd c9 (by decide)) (fun _ => ?_)
  refine lv_iload_n hx hb d_Lim_pack_25 rfl (lv_at hl 0 rfl) ?_
  refine lv_bipush (v := 26) hx hb d_Lim_pack_26 (by decide) ?_
  refine lv_imul hx hb d_Lim_pack_28 ?_
  refine lv_eqi (v := 26) (by decide) ?_
  refine lv_bipush (v := 64) hx hb d_Lim_pack_29 (by decide) ?_
  refine lv_idiv hx hb d_Lim_pack_31 (by decide) ?_
  refine lv_eqi (v := 0) (by decide) ?_
  refine lv_istore_n (lv' := [(3, .int 0), (2, .int 1), (4, .int 0), (0, .ref to), (1, .ref a)]) hx hb d_Lim_pack_32 rfl hl (by decide) rfl (fun ls hl => ?_)
  refine lv_iload_n hx hb d_Lim_pack_33 rfl (lv_at hl 1 rfl) ?_
  refine lv_bipush (v := 26) hx hb d_Lim_pack_34 (by decide) ?_
  refine lv_imul hx hb d_Lim_pack_36 ?_
  refine lv_eqi (v := 26) (by decide) ?_
  refine lv_bipush (v := 64) hx hb d_Lim_pack_37 (by decide) ?_
  refine lv_irem hx hb d_Lim_pack_39 (by decide) ?_
  refine lv_eqi (v := 26) (by decide) ?_
  refine lv_istore (lv' := [(4, .int 26), (3, .int 0), (2, .int 1), (0, .ref to), (1, .ref a)]) hx hb d_Lim_pack_40 hl (by decide) rfl (fun ls hl => ?_)
  refine lv_aload_n hx hb d_Lim_pack_42 rfl (lv_at hl 3 rfl) ?_
  refine lv_iload_n hx hb d_Lim_pack_43 rfl (lv_at hl 1 rfl) ?_
  refine lv_dup2_11 hx hb d_Lim_pack_44 rfl rfl ?_
  refine gm_lald hx hb X (k := 0) (Or.inl (gm_up_s _ _ _)) (by decide) ⟨by decide, by decide⟩ d_Lim_pack_45 ?_
  refine lv_eql (v := v1) rfl ?_
  refine lv_aload_n hx hb d_Lim_pack_46 rfl (lv_at hl 4 rfl) ?_
  refine lv_iload_n hx hb d_Lim_pack_47 rfl (lv_at hl 2 rfl) ?_
  refine gm_lald hx hb X (k := 1) (rdL_up (Or.inl ha) ht (by decide)) (by decide) ⟨by decide, by decide⟩ d_Lim_pack_48 ?_
  refine lv_iload hx hb d_Lim_pack_49 (lv_at hl 0 rfl) ?_
  refine lv_lshl hx hb d_Lim_pack_51 rfl ?_
  refine lv_lor hx hb d_Lim_pack_52 ?_
  refine lv_topl (fun v2 ev2 => ?_)
  refine gm_last hx hb X (k := 0) (gm_up_s _ _ _) hA (by decide) ⟨by decide, by decide⟩ d_Lim_pack_53 (fun H locs X => ?_)
  rw [gm_up_up, pk4_s0] at X
  refine lv_iload hx hb d_Lim_pack_54 (lv_at hl 0 rfl) ?_
  refine lv_bipush (v := 26) hx hb d_Lim_pack_56 (by decide) ?_
  refine lv_iadd hx hb d_Lim_pack_58 ?_
  refine lv_eqi (v := 52) (by decide) ?_
  refine lv_bipush (v := 64) hx hb d_Lim_pack_59 (by decide) ?_
  refine lv_icmp_le (tgt := 88) hx hb d_Lim_pack_61 (by decide) (fun _ => ?_) (fun c9 => absurd (by decide) c9)
  refine lv_iinc (v := 2) (lv' := [(2, .int 2), (4, .int 26), (3, .int 0), (0, .ref to), (1, .ref a)]) hx hb d_Lim_pack_88 hl (k := 2) rfl (by decide) (by decide) rfl (fun ls hl => ?_)
  refine lv_goto (tgt := 19) hx hb d_Lim_pack_91 (by decide) ?_
  refine lv_iload_n hx hb d_Lim_pack_19 rfl (lv_at hl 0 rfl) ?_
  refine lv_bipush (v := 10) hx hb d_Lim_pack_20 (by decide) ?_
  refine lv_icmp_ge (tgt := 94) hx hb d_Lim_pack_22 (by decide) (fun c9 => absurd c9 (by decide)) (fun _ => ?_)
  refine lv_iload_n hx hb d_Lim_pack_25 rfl (lv_at hl 0 rfl) ?_
  refine lv_bipush (v := 26) hx hb d_Lim_pack_26 (by decide) ?_
  refine lv_imul hx hb d_Lim_pack_28 ?_
  refine lv_eqi (v := 52) (by decide) ?_
  refine lv_bipush (v := 64) hx hb d_Lim_pack_29 (by decide) ?_
  refine lv_idiv hx hb d_Lim_pack_31 (by decide) ?_
  refine lv_eqi (v := 0) (by decide) ?_
  refine lv_istore_n (lv' := [(3, .int 0), (2, .int 2), (4, .int 26), (0, .ref to), (1, .ref a)]) hx hb d_Lim_pack_32 rfl hl (by decide) rfl (fun ls hl => ?_)
  refine lv_iload_n hx hb d_Lim_pack_33 rfl (lv_at hl 1 rfl) ?_
  refine lv_bipush (v := 26) hx hb d_Lim_pack_34 (by decide) ?_
  refine lv_imul hx hb d_Lim_pack_36 ?_
  refine lv_eqi (v := 52) (by decide) ?_
  refine lv_bipush (v := 64) hx hb d_Lim_pack_37 (by decide) ?_
  refine lv_irem hx hb d_Lim_pack_39 (by decide) ?_
  refine lv_eqi (v := 52) (by decide) ?_
  refine lv_istore (lv' := [(4, .int 52), (3, .int 0), (2, .int 2), (0, .ref to), (1, .ref a)]) hx hb d_Lim_pack_40 hl (by decide) rfl (fun ls hl => ?_)
  refine lv_aload_n hx hb d_Lim_pack_42 rfl (lv_at hl 3 rfl) ?_
  refine lv_iload_n hx hb d_Lim_pack_43 rfl (lv_at hl 1 rfl) ?_
  refine lv_dup2_11 hx hb d_Lim_pack_44 rfl rfl ?_
  refine gm_lald hx hb X (k := 0) (Or.inl (gm_up_s _ _ _)) (by decide) ⟨by decide, by decide⟩ d_Lim_pack_45 ?_
  refine lv_eql (v := v2) rfl ?_
  refine lv_aload_n hx hb d_Lim_pack_46 rfl (lv_at hl 4 rfl) ?_
  refine lv_iload_n hx hb d_Lim_pack_47 rfl (lv_at hl 2 rfl) ?_
  refine gm_lald hx hb X (k := 2) (rdL_up (Or.inl ha) ht (by decide)) (by decide) ⟨by decide, by decide⟩ d_Lim_pack_48 ?_
  refine lv_iload hx hb d_Lim_pack_49 (lv_at hl 0 rfl) ?_
  refine lv_lshl hx hb d_Lim_pack_51 rfl ?_
  refine lv_lor hx hb d_Lim_pack_52 ?_
  refine lv_topl (fun v3 ev3 => ?_)
  refine gm_last hx hb X (k := 0) (gm_up_s _ _ _) hA (by decide) ⟨by decide, by decide⟩ d_Lim_pack_53 (fun H locs X => ?_)
  rw [gm_up_up, pk4_s0] at X
  refine lv_iload hx hb d_Lim_pack_54 (lv_at hl 0 rfl) ?_
  refine lv_bipush (v := 26) hx hb d_Lim_pack_56 (by decide) ?_
  refine lv_iadd hx hb d_Lim_pack_58 ?_
  refine lv_eqi (v := 78) (by decide) ?_
  refine lv_bipush (v := 64) hx hb d_Lim_pack_59 (by decide) ?_
  refine lv_icmp_le (tgt := 88) hx hb d_Lim_pack_61 (by decide) (fun c9 => absurd c9 (by decide)) (fun _ => ?_)
  refine lv_iload_n hx hb d_Lim_pack_64 rfl (lv_at hl 1 rfl) ?_
  refine lv_iconst (v := 1) hx hb d_Lim_pack_65 (by decide) ?_
  refine lv_iadd hx hb d_Lim_pack_66 ?_
  refine lv_eqi (v := 1) (by decide) ?_
  refine lv_iconst (v := 4) hx hb d_Lim_pack_67 (by decide) ?_
  refine lv_icmp_ge (tgt := 88) hx hb d_Lim_pack_68 (by decide) (fun c9 => absurd c9 (by decide)) (fun _ => ?_)
  refine lv_aload_n hx hb d_Lim_pack_71 rfl (lv_at hl 3 rfl) ?_
  refine lv_iload_n hx hb d_Lim_pack_72 rfl (lv_at hl 1 rfl) ?_
  refine lv_iconst (v := 1) hx hb d_Lim_pack_73 (by decide) ?_
  refine lv_iadd hx hb d_Lim_pack_74 ?_
  refine lv_eqi (v := 1) (by decide) ?_
  refine lv_dup2_11 hx hb d_Lim_pack_75 rfl rfl ?_
  refine gm_lald hx hb X (k := 1) (Or.inl (gm_up_s _ _ _)) (by decide) ⟨by decide, by decide⟩ d_Lim_pack_76 ?_
  refine lv_eql (v := 0) rfl ?_
  refine lv_aload_n hx hb d_Lim_pack_77 rfl (lv_at hl 4 rfl) ?_
  refine lv_iload_n hx hb d_Lim_pack_78 rfl (lv_at hl 2 rfl) ?_
  refine gm_lald hx hb X (k := 2) (rdL_up (Or.inl ha) ht (by decide)) (by decide) ⟨by decide, by decide⟩ d_Lim_pack_79 ?_
  refine lv_bipush (v := 64) hx hb d_Lim_pack_80 (by decide) ?_
  refine lv_iload hx hb d_Lim_pack_82 (lv_at hl 0 rfl) ?_
  refine lv_isub hx hb d_Lim_pack_84 ?_
  refine lv_eqi (v := 12) (by decide) ?_
  refine lv_lushr hx hb d_Lim_pack_85 rfl ?_
  refine lv_lor hx hb d_Lim_pack_86 ?_
  refine lv_topl (fun v4 ev4 => ?_)
  refine gm_last hx hb X (k := 1) (gm_up_s _ _ _) hA (by decide) ⟨by decide, by decide⟩ d_Lim_pack_87 (fun H locs X => ?_)
  rw [gm_up_up, pk4_s1] at X
  refine lv_iinc (v := 3) (lv' := [(2, .int 3), (4, .int 52), (3, .int 0), (0, .ref to), (1, .ref a)]) hx hb d_Lim_pack_88 hl (k := 2) rfl (by decide) (by decide) rfl (fun ls hl => ?_)
  refine lv_goto (tgt := 19) hx hb d_Lim_pack_91 (by decide) ?_
  refine lv_iload_n hx hb d_Lim_pack_19 rfl (lv_at hl 0 rfl) ?_
  refine lv_bipush (v := 10) hx hb d_Lim_pack_20 (by decide) ?_
  refine lv_icmp_ge (tgt := 94) hx hb d_Lim_pack_22 (by decide) (fun c9 => absurd c9 (by decide)) (fun _ => ?_)
  refine lv_iload_n hx hb d_Lim_pack_25 rfl (lv_at hl 0 rfl) ?_
  refine lv_bipush (v := 26) hx hb d_Lim_pack_26 (by decide) ?_
  refine lv_imul hx hb d_Lim_pack_28 ?_
  refine lv_eqi (v := 78) (by decide) ?_
  refine lv_bipush (v := 64) hx hb d_Lim_pack_29 (by decide) ?_
  refine lv_idiv hx hb d_Lim_pack_31 (by decide) ?_
  refine lv_eqi (v := 1) (by decide) ?_
  refine lv_istore_n (lv' := [(3, .int 1), (2, .int 3), (4, .int 52), (0, .ref to), (1, .ref a)]) hx hb d_Lim_pack_32 rfl hl (by decide) rfl (fun ls hl => ?_)
  refine lv_iload_n hx hb d_Lim_pack_33 rfl (lv_at hl 1 rfl) ?_
  refine lv_bipush (v := 26) hx hb d_Lim_pack_34 (by decide) ?_
  refine lv_imul hx hb d_Lim_pack_36 ?_
  refine lv_eqi (v := 78) (by decide) ?_
  refine lv_bipush (v := 64) hx hb d_Lim_pack_37 (by decide) ?_
  refine lv_irem hx hb d_Lim_pack_39 (by decide) ?_
  refine lv_eqi (v := 14) (by decide) ?_
  refine lv_istore (lv' := [(4, .int 14), (3, .int 1), (2, .int 3), (0, .ref to), (1, .ref a)]) hx hb d_Lim_pack_40 hl (by decide) rfl (fun ls hl => ?_)
  refine lv_aload_n hx hb d_Lim_pack_42 rfl (lv_at hl 3 rfl) ?_
  refine lv_iload_n hx hb d_Lim_pack_43 rfl (lv_at hl 1 rfl) ?_
  refine lv_dup2_11 hx hb d_Lim_pack_44 rfl rfl ?_
  refine gm_lald hx hb X (k := 1) (Or.inl (gm_up_s _ _ _)) (by decide) ⟨by decide, by decide⟩ d_Lim_pack_45 ?_
  refine lv_eql (v := v4) rfl ?_
  refine lv_aload_n hx hb d_Lim_pack_46 rfl (lv_at hl 4 rfl) ?_
  refine lv_iload_n hx hb d_Lim_pack_47 rfl (lv_at hl 2 rfl) ?_
  refine gm_lald hx hb X (k := 3) (rdL_up (Or.inl ha) ht (by decide)) (by decide) ⟨by decide, by decide⟩ d_Lim_pack_48 ?_
  refine lv_iload hx hb d_Lim_pack_49 (lv_at hl 0 rfl) ?_
  refine lv_lshl hx hb d_Lim_pack_51 rfl ?_
  refine lv_lor hx hb d_Lim_pack_52 ?_
  refine lv_topl (fun v5 ev5 => ?_)
  refine gm_last hx hb X (k := 1) (gm_up_s _ _ _) hA (by decide) ⟨by decide, by decide⟩ d_Lim_pack_53 (fun H locs X => ?_)
  rw [gm_up_up, pk4_s1] at X
  refine lv_iload hx hb d_Lim_pack_54 (lv_at hl 0 rfl) ?_
  refine lv_bipush (v := 26) hx hb d_Lim_pack_56 (by decide) ?_
  refine lv_iadd hx hb d_Lim_pack_58 ?_
  refine lv_eqi (v := 40) (by decide) ?_
  refine lv_bipush (v := 64) hx hb d_Lim_pack_59 (by decide) ?_
  refine lv_icmp_le (tgt := 88) hx hb d_Lim_pack_61 (by decide) (fun _ => ?_) (fun c9 => absurd (by decide) c9)
  refine lv_iinc (v := 4) (lv' := [(2, .int 4), (4, .int 14), (3, .int 1), (0, .ref to), (1, .ref a)]) hx hb d_Lim_pack_88 hl (k := 2) rfl (by decide) (by decide) rfl (fun ls hl => ?_)
  refine lv_goto (tgt := 19) hx hb d_Lim_pack_91 (by decide) ?_
  refine lv_iload_n hx hb d_Lim_pack_19 rfl (lv_at hl 0 rfl) ?_
  refine lv_bipush (v := 10) hx hb d_Lim_pack_20 (by decide) ?_
  refine lv_icmp_ge (tgt := 94) hx hb d_Lim_pack_22 (by decide) (fun c9 => absurd c9 (by decide)) (fun _ => ?_)
  refine lv_iload_n hx hb d_Lim_pack_25 rfl (lv_at hl 0 rfl) ?_
  refine lv_bipush (v := 26) hx hb d_Lim_pack_26 (by decide) ?_
  refine lv_imul hx hb d_Lim_pack_28 ?_
  refine lv_eqi (v := 104) (by decide) ?_
  refine lv_bipush (v := 64) hx hb d_Lim_pack_29 (by decide) ?_
  refine lv_idiv hx hb d_Lim_pack_31 (by decide) ?_
  refine lv_eqi (v := 1) (by decide) ?_
  refine lv_istore_n (lv' := [(3, .int 1), (2, .int 4), (4, .int 14), (0, .ref to), (1, .ref a)]) hx hb d_Lim_pack_32 rfl hl (by decide) rfl (fun ls hl => ?_)
  refine lv_iload_n hx hb d_Lim_pack_33 rfl (lv_at hl 1 rfl) ?_
  refine lv_bipush (v := 26) hx hb d_Lim_pack_34 (by decide) ?_
  refine lv_imul hx hb d_Lim_pack_36 ?_
  refine lv_eqi (v := 104) (by decide) ?_
  refine lv_bipush (v := 64) hx hb d_Lim_pack_37 (by decide) ?_
  refine lv_irem hx hb d_Lim_pack_39 (by decide) ?_
  refine lv_eqi (v := 40) (by decide) ?_
  refine lv_istore (lv' := [(4, .int 40), (3, .int 1), (2, .int 4), (0, .ref to), (1, .ref a)]) hx hb d_Lim_pack_40 hl (by decide) rfl (fun ls hl => ?_)
  refine lv_aload_n hx hb d_Lim_pack_42 rfl (lv_at hl 3 rfl) ?_
  refine lv_iload_n hx hb d_Lim_pack_43 rfl (lv_at hl 1 rfl) ?_
  refine lv_dup2_11 hx hb d_Lim_pack_44 rfl rfl ?_
  refine gm_lald hx hb X (k := 1) (Or.inl (gm_up_s _ _ _)) (by decide) ⟨by decide, by decide⟩ d_Lim_pack_45 ?_
  refine lv_eql (v := v5) rfl ?_
  refine lv_aload_n hx hb d_Lim_pack_46 rfl (lv_at hl 4 rfl) ?_
  refine lv_iload_n hx hb d_Lim_pack_47 rfl (lv_at hl 2 rfl) ?_
  refine gm_lald hx hb X (k := 4) (rdL_up (Or.inl ha) ht (by decide)) (by decide) ⟨by decide, by decide⟩ d_Lim_pack_48 ?_
  refine lv_iload hx hb d_Lim_pack_49 (lv_at hl 0 rfl) ?_
  refine lv_lshl hx hb d_Lim_pack_51 rfl ?_
  refine lv_lor hx hb d_Lim_pack_52 ?_
  refine lv_topl (fun v6 ev6 => ?_)
  refine gm_last hx hb X (k := 1) (gm_up_s _ _ _) hA (by decide) ⟨by decide, by decide⟩ d_Lim_pack_53 (fun H locs X => ?_)
  rw [gm_up_up, pk4_s1] at X
  refine lv_iload hx hb d_Lim_pack_54 (lv_at hl 0 rfl) ?_
  refine lv_bipush (v := 26) hx hb d_Lim_pack_56 (by decide) ?_
  refine lv_iadd hx hb d_Lim_pack_58 ?_
  refine lv_eqi (v := 66) (by decide) ?_
  refine lv_bipush (v := 64) hx hb d_Lim_pack_59 (by decide) ?_
  refine lv_icmp_le (tgt := 88) hx hb d_Lim_pack_61 (by decide) (fun c9 => absurd c9 (by decide)) (fun _ => ?_)
  refine lv_iload_n hx hb d_Lim_pack_64 rfl (lv_at hl 1 rfl) ?_
  refine lv_iconst (v := 1) hx hb d_Lim_pack_65 (by decide) ?_
  refine lv_iadd hx hb d_Lim_pack_66 ?_
  refine lv_eqi (v := 2) (by decide) ?_
  refine lv_iconst (v := 4) hx hb d_Lim_pack_67 (by decide) ?_
  refine lv_icmp_ge (tgt := 88) hx hb d_Lim_pack_68 (by decide) (fun c9 => absurd c9 (by decide)) (fun _ => ?_)
  refine lv_aload_n hx hb d_Lim_pack_71 rfl (lv_at hl 3 rfl) ?_
  refine lv_iload_n hx hb d_Lim_pack_72 rfl (lv_at hl 1 rfl) ?_
  refine lv_iconst (v := 1) hx hb d_Lim_pack_73 (by decide) ?_
  refine lv_iadd hx hb d_Lim_pack_74 ?_
  refine lv_eqi (v := 2) (by decide) ?_
  refine lv_dup2_11 hx hb d_Lim_pack_75 rfl rfl ?_
  refine gm_lald hx hb X (k := 2) (Or.inl (gm_up_s _ _ _)) (by decide) ⟨by decide, by decide⟩ d_Lim_pack_76 ?_
  refine lv_eql (v := 0) rfl ?_
  refine lv_aload_n hx hb d_Lim_pack_77 rfl (lv_at hl 4 rfl) ?_
  refine lv_iload_n hx hb d_Lim_pack_78 rfl (lv_at hl 2 rfl) ?_
  refine gm_lald hx hb X (k := 4) (rdL_up (Or.inl ha) ht (by decide)) (by decide) ⟨by decide, by decide⟩ d_Lim_pack_79 ?_
  refine lv_bipush (v := 64) hx hb d_Lim_pack_80 (by decide) ?_
  refine lv_iload hx hb d_Lim_pack_82 (lv_at hl 0 rfl) ?_
  refine lv_isub hx hb d_Lim_pack_84 ?_
  refine lv_eqi (v := 24) (by decide) ?_
  refine lv_lushr hx hb d_Lim_pack_85 rfl ?_
  refine lv_lor hx hb d_Lim_pack_86 ?_
  refine lv_topl (fun v7 ev7 => ?_)
  refine gm_last hx hb X (k := 2) (gm_up_s _ _ _) hA (by decide) ⟨by decide, by decide⟩ d_Lim_pack_87 (fun H locs X => ?_)
  rw [gm_up_up, pk4_s2] at X
  refine lv_iinc (v := 5) (lv' := [(2, .int 5), (4, .int 40), (3, .int 1), (0, .ref to), (1, .ref a)]) hx hb d_Lim_pack_88 hl (k := 2) rfl (by decide) (by decide) rfl (fun ls hl => ?_)
  refine lv_goto (tgt := 19) hx hb d_Lim_pack_91 (by decide) ?_
  refine lv_iload_n hx hb d_Lim_pack_19 rfl (lv_at hl 0 rfl) ?_
  refine lv_bipush (v := 10) hx hb d_Lim_pack_20 (by decide) ?_
  refine lv_icmp_ge (tgt := 94) hx hb d_Lim_pack_22 (by decide) (fun c9 => absurd c9 (by decide)) (fun _ => ?_)
  refine lv_iload_n hx hb d_Lim_pack_25 rfl (lv_at hl 0 rfl) ?_
  refine lv_bipush (v := 26) hx hb d_Lim_pack_26 (by decide) ?_
  refine lv_imul hx hb d_Lim_pack_28 ?_
  refine lv_eqi (v := 130) (by decide) ?_
  refine lv_bipush (v := 64) hx hb d_Lim_pack_29 (by decide) ?_
  refine lv_idiv hx hb d_Lim_pack_31 (by decide) ?_
  refine lv_eqi (v := 2) (by decide) ?_
  refine lv_istore_n (lv' := [(3, .int 2), (2, .int 5), (4, .int 40), (0, .ref to), (1, .ref a)]) hx hb d_Lim_pack_32 rfl hl (by decide) rfl (fun ls hl => ?_)
  refine lv_iload_n hx hb d_Lim_pack_33 rfl (lv_at hl 1 rfl) ?_
  refine lv_bipush (v := 26) hx hb d_Lim_pack_34 (by decide) ?_
  refine lv_imul hx hb d_Lim_pack_36 ?_
  refine lv_eqi (v := 130) (by decide) ?_
  refine lv_bipush (v := 64) hx hb d_Lim_pack_37 (by decide) ?_
  refine lv_irem hx hb d_Lim_pack_39 (by decide) ?_
  refine lv_eqi (v := 2) (by decide) ?_
  refine lv_istore (lv' := [(4, .int 2), (3, .int 2), (2, .int 5), (0, .ref to), (1, .ref a)]) hx hb d_Lim_pack_40 hl (by decide) rfl (fun ls hl => ?_)
  refine lv_aload_n hx hb d_Lim_pack_42 rfl (lv_at hl 3 rfl) ?_
  refine lv_iload_n hx hb d_Lim_pack_43 rfl (lv_at hl 1 rfl) ?_
  refine lv_dup2_11 hx hb d_Lim_pack_44 rfl rfl ?_
  refine gm_lald hx hb X (k := 2) (Or.inl (gm_up_s _ _ _)) (by decide) ⟨by decide, by decide⟩ d_Lim_pack_45 ?_
  refine lv_eql (v := v7) rfl ?_
  refine lv_aload_n hx hb d_Lim_pack_46 rfl (lv_at hl 4 rfl) ?_
  refine lv_iload_n hx hb d_Lim_pack_47 rfl (lv_at hl 2 rfl) ?_
  refine gm_lald hx hb X (k := 5) (rdL_up (Or.inl ha) ht (by decide)) (by decide) ⟨by decide, by decide⟩ d_Lim_pack_48 ?_
  refine lv_iload hx hb d_Lim_pack_49 (lv_at hl 0 rfl) ?_
  refine lv_lshl hx hb d_Lim_pack_51 rfl ?_
  refine lv_lor hx hb d_Lim_pack_52 ?_
  refine lv_topl (fun v8 ev8 => ?_)
  refine gm_last hx hb X (k := 2) (gm_up_s _ _ _) hA (by decide) ⟨by decide, by decide⟩ d_Lim_pack_53 (fun H locs X => ?_)
  rw [gm_up_up, pk4_s2] at X
  refine lv_iload hx hb d_Lim_pack_54 (lv_at hl 0 rfl) ?_
  refine lv_bipush (v := 26) hx hb d_Lim_pack_56 (by decide) ?_
  refine lv_iadd hx hb d_Lim_pack_58 ?_
  refine lv_eqi (v := 28) (by decide) ?_
  refine lv_bipush (v := 64) hx hb d_Lim_pack_59 (by decide) ?_
  refine lv_icmp_le (tgt := 88) hx hb d_Lim_pack_61 (by decide) (fun _ => ?_) (fun c9 => absurd (by decide) c9)
  refine lv_iinc (v := 6) (lv' := [(2, .int 6), (4, .int 2), (3, .int 2), (0, .ref to), (1, .ref a)]) hx hb d_Lim_pack_88 hl (k := 2) rfl (by decide) (by decide) rfl (fun ls hl => ?_)
  refine lv_goto (tgt := 19) hx hb d_Lim_pack_91 (by decide) ?_
  refine lv_iload_n hx hb d_Lim_pack_19 rfl (lv_at hl 0 rfl) ?_
  refine lv_bipush (v := 10) hx hb d_Lim_pack_20 (by decide) ?_
  refine lv_icmp_ge (tgt := 94) hx hb d_Lim_pack_22 (by decide) (fun c9 => absurd c9 (by decide)) (fun _ => ?_)
  refine lv_iload_n hx hb d_Lim_pack_25 rfl (lv_at hl 0 rfl) ?_
  refine lv_bipush (v := 26) hx hb d_Lim_pack_26 (by decide) ?_
  refine lv_imul hx hb d_Lim_pack_28 ?_
  refine lv_eqi (v := 156) (by decide) ?_
  refine lv_bipush (v := 64) hx hb d_Lim_pack_29 (by decide) ?_
  refine lv_idiv hx hb d_Lim_pack_31 (by decide) ?_
  refine lv_eqi (v := 2) (by decide) ?_
  refine lv_istore_n (lv' := [(3, .int 2), (2, .int 6), (4, .int 2), (0, .ref to), (1, .ref a)]) hx hb d_Lim_pack_32 rfl hl (by decide) rfl (fun ls hl => ?_)
  refine lv_iload_n hx hb d_Lim_pack_33 rfl (lv_at hl 1 rfl) ?_
  refine lv_bipush (v := 26) hx hb d_Lim_pack_34 (by decide) ?_
  refine lv_imul hx hb d_Lim_pack_36 ?_
  refine lv_eqi (v := 156) (by decide) ?_
  refine lv_bipush (v := 64) hx hb d_Lim_pack_37 (by decide) ?_
  refine lv_irem hx hb d_Lim_pack_39 (by decide) ?_
  refine lv_eqi (v := 28) (by decide) ?_
  refine lv_istore (lv' := [(4, .int 28), (3, .int 2), (2, .int 6), (0, .ref to), (1, .ref a)]) hx hb d_Lim_pack_40 hl (by decide) rfl (fun ls hl => ?_)
  refine lv_aload_n hx hb d_Lim_pack_42 rfl (lv_at hl 3 rfl) ?_
  refine lv_iload_n hx hb d_Lim_pack_43 rfl (lv_at hl 1 rfl) ?_
  refine lv_dup2_11 hx hb d_Lim_pack_44 rfl rfl ?_
  refine gm_lald hx hb X (k := 2) (Or.inl (gm_up_s _ _ _)) (by decide) ⟨by decide, by decide⟩ d_Lim_pack_45 ?_
  refine lv_eql (v := v8) rfl ?_
  refine lv_aload_n hx hb d_Lim_pack_46 rfl (lv_at hl 4 rfl) ?_
  refine lv_iload_n hx hb d_Lim_pack_47 rfl (lv_at hl 2 rfl) ?_
  refine gm_lald hx hb X (k := 6) (rdL_up (Or.inl ha) ht (by decide)) (by decide) ⟨by decide, by decide⟩ d_Lim_pack_48 ?_
  refine lv_iload hx hb d_Lim_pack_49 (lv_at hl 0 rfl) ?_
  refine lv_lshl hx hb d_Lim_pack_51 rfl ?_
  refine lv_lor hx hb d_Lim_pack_52 ?_
  refine lv_topl (fun v9 ev9 => ?_)
  refine gm_last hx hb X (k := 2) (gm_up_s _ _ _) hA (by decide) ⟨by decide, by decide⟩ d_Lim_pack_53 (fun H locs X => ?_)
  rw [gm_up_up, pk4_s2] at X
  refine lv_iload hx hb d_Lim_pack_54 (lv_at hl 0 rfl) ?_
  refine lv_bipush (v := 26) hx hb d_Lim_pack_56 (by decide) ?_
  refine lv_iadd hx hb d_Lim_pack_58 ?_
  refine lv_eqi (v := 54) (by decide) ?_
  refine lv_bipush (v := 64) hx hb d_Lim_pack_59 (by decide) ?_
  refine lv_icmp_le (tgt := 88) hx hb d_Lim_pack_61 (by decide) (fun _ => ?_) (fun c9 => absurd (by decide) c9)
  refine lv_iinc (v := 7) (lv' := [(2, .int 7), (4, .int 28), (3, .int 2), (0, .ref to), (1, .ref a)]) hx hb d_Lim_pack_88 hl (k := 2) rfl (by decide) (by decide) rfl (fun ls hl => ?_)
  refine lv_goto (tgt := 19) hx hb d_Lim_pack_91 (by decide) ?_
  refine lv_iload_n hx hb d_Lim_pack_19 rfl (lv_at hl 0 rfl) ?_
  refine lv_bipush (v := 10) hx hb d_Lim_pack_20 (by decide) ?_
  refine lv_icmp_ge (tgt := 94) hx hb d_Lim_pack_22 (by decide) (fun c9 => absurd c9 (by decide)) (fun _ => ?_)
  refine lv_iload_n hx hb d_Lim_pack_25 rfl (lv_at hl 0 rfl) ?_
  refine lv_bipush (v := 26) hx hb d_Lim_pack_26 (by decide) ?_
  refine lv_imul hx hb d_Lim_pack_28 ?_
  refine lv_eqi (v := 182) (by decide) ?_
  refine lv_bipush (v := 64) hx hb d_Lim_pack_29 (by decide) ?_
  refine lv_idiv hx hb d_Lim_pack_31 (by decide) ?_
  refine lv_eqi (v := 2) (by decide) ?_
  refine lv_istore_n (lv' := [(3, .int 2), (2, .int 7), (4, .int 28), (0, .ref to), (1, .ref a)]) hx hb d_Lim_pack_32 rfl hl (by decide) rfl (fun ls hl => ?_)
  refine lv_iload_n hx hb d_Lim_pack_33 rfl (lv_at hl 1 rfl) ?_
  refine lv_bipush (v := 26) hx hb d_Lim_pack_34 (by decide) ?_
  refine lv_imul hx hb d_Lim_pack_36 ?_
  refine lv_eqi (v := 182) (by decide) ?_
  refine lv_bipush (v := 64) hx hb d_Lim_pack_37 (by decide) ?_
  refine lv_irem hx hb d_Lim_pack_39 (by decide) ?_
  refine lv_eqi (v := 54) (by decide) ?_
  refine lv_istore (lv' := [(4, .int 54), (3, .int 2), (2, .int 7), (0, .ref to), (1, .ref a)]) hx hb d_Lim_pack_40 hl (by decide) rfl (fun ls hl => ?_)
  refine lv_aload_n hx hb d_Lim_pack_42 rfl (lv_at hl 3 rfl) ?_
  refine lv_iload_n hx hb d_Lim_pack_43 rfl (lv_at hl 1 rfl) ?_
  refine lv_dup2_11 hx hb d_Lim_pack_44 rfl rfl ?_
  refine gm_lald hx hb X (k := 2) (Or.inl (gm_up_s _ _ _)) (by decide) ⟨by decide, by decide⟩ d_Lim_pack_45 ?_
  refine lv_eql (v := v9) rfl ?_
  refine lv_aload_n hx hb d_Lim_pack_46 rfl (lv_at hl 4 rfl) ?_
  refine lv_iload_n hx hb d_Lim_pack_47 rfl (lv_at hl 2 rfl) ?_
  refine gm_lald hx hb X (k := 7) (rdL_up (Or.inl ha) ht (by decide)) (by decide) ⟨by decide, by decide⟩ d_Lim_pack_48 ?_
  refine lv_iload hx hb d_Lim_pack_49 (lv_at hl 0 rfl) ?_
  refine lv_lshl hx hb d_Lim_pack_51 rfl ?_
  refine lv_lor hx hb d_Lim_pack_52 ?_
  refine lv_topl (fun v10 ev10 => ?_)
  refine gm_last hx hb X (k := 2) (gm_up_s _ _ _) hA (by decide) ⟨by decide, by decide⟩ d_Lim_pack_53 (fun H locs X => ?_)
  rw [gm_up_up, pk4_s2] at X
  refine lv_iload hx hb d_Lim_pack_54 (lv_at hl 0 rfl) ?_
  refine lv_bipush (v := 26) hx hb d_Lim_pack_56 (by decide) ?_
  refine lv_iadd hx hb d_Lim_pack_58 ?_
  refine lv_eqi (v := 80) (by decide) ?_
  refine lv_bipush (v := 64) hx hb d_Lim_pack_59 (by decide) ?_
  refine lv_icmp_le (tgt := 88) hx hb d_Lim_pack_61 (by decide) (fun c9 => absurd c9 (by decide)) (fun _ => ?_)
  refine lv_iload_n hx hb d_Lim_pack_64 rfl (lv_at hl 1 rfl) ?_
  refine lv_iconst (v := 1) hx hb d_Lim_pack_65 (by decide) ?_
  refine lv_iadd hx hb d_Lim_pack_66 ?_
  refine lv_eqi (v := 3) (by decide) ?_
  refine lv_iconst (v := 4) hx hb d_Lim_pack_67 (by decide) ?_
  refine lv_icmp_ge (tgt := 88) hx hb d_Lim_pack_68 (by decide) (fun c9 => absurd c9 (by decide)) (fun _ => ?_)
  refine lv_aload_n hx hb d_Lim_pack_71 rfl (lv_at hl 3 rfl) ?_
  refine lv_iload_n hx hb d_Lim_pack_72 rfl (lv_at hl 1 rfl) ?_
  refine lv_iconst (v := 1) hx hb d_Lim_pack_73 (by decide) ?_
  refine lv_iadd hx hb d_Lim_pack_74 ?_
  refine lv_eqi (v := 3) (by decide) ?_
  refine lv_dup2_11 hx hb d_Lim_pack_75 rfl rfl ?_
  refine gm_lald hx hb X (k := 3) (Or.inl (gm_up_s _ _ _)) (by decide) ⟨by decide, by decide⟩ d_Lim_pack_76 ?_
  refine lv_eql (v := 0) rfl ?_
  refine lv_aload_n hx hb d_Lim_pack_77 rfl (lv_at hl 4 rfl) ?_
  refine lv_iload_n hx hb d_Lim_pack_78 rfl (lv_at hl 2 rfl) ?_
  refine gm_lald hx hb X (k := 7) (rdL_up (Or.inl ha) ht (by decide)) (by decide) ⟨by decide, by decide⟩ d_Lim_pack_79 ?_
  refine lv_bipush (v := 64) hx hb d_Lim_pack_80 (by decide) ?_
  refine lv_iload hx hb d_Lim_pack_82 (lv_at hl 0 rfl) ?_
  refine lv_isub hx hb d_Lim_pack_84 ?_
  refine lv_eqi (v := 10) (by decide) ?_
  refine lv_lushr hx hb d_Lim_pack_85 rfl ?_
  refine lv_lor hx hb d_Lim_pack_86 ?_
  refine lv_topl (fun v11 ev11 => ?_)
  refine gm_last hx hb X (k := 3) (gm_up_s _ _ _) hA (by decide) ⟨by decide, by decide⟩ d_Lim_pack_87 (fun H locs X => ?_)
  rw [gm_up_up, pk4_s3] at X
  refine lv_iinc (v := 8) (lv' := [(2, .int 8), (4, .int 54), (3, .int 2), (0, .ref to), (1, .ref a)]) hx hb d_Lim_pack_88 hl (k := 2) rfl (by decide) (by decide) rfl (fun ls hl => ?_)
  refine lv_goto (tgt := 19) hx hb d_Lim_pack_91 (by decide) ?_
  refine lv_iload_n hx hb d_Lim_pack_19 rfl (lv_at hl 0 rfl) ?_
  refine lv_bipush (v := 10) hx hb d_Lim_pack_20 (by decide) ?_
  refine lv_icmp_ge (tgt := 94) hx hb d_Lim_pack_22 (by decide) (fun c9 => absurd c9 (by decide)) (fun _ => ?_)
  refine lv_iload_n hx hb d_Lim_pack_25 rfl (lv_at hl 0 rfl) ?_
  refine lv_bipush (v := 26) hx hb d_Lim_pack_26 (by decide) ?_
  refine lv_imul hx hb d_Lim_pack_28 ?_
  refine lv_eqi (v := 208) (by decide) ?_
  refine lv_bipush (v := 64) hx hb d_Lim_pack_29 (by decide) ?_
  refine lv_idiv hx hb d_Lim_pack_31 (by decide) ?_
  refine lv_eqi (v := 3) (by decide) ?_
  refine lv_istore_n (lv' := [(3, .int 3), (2, .int 8), (4, .int 54), (0, .ref to), (1, .ref a)]) hx hb d_Lim_pack_32 rfl hl (by decide) rfl (fun ls hl => ?_)
  refine lv_iload_n hx hb d_Lim_pack_33 rfl (lv_at hl 1 rfl) ?_
  refine lv_bipush (v := 26) hx hb d_Lim_pack_34 (by decide) ?_
  refine lv_imul hx hb d_Lim_pack_36 ?_
  refine lv_eqi (v := 208) (by decide) ?_
  refine lv_bipush (v := 64) hx hb d_Lim_pack_37 (by decide) ?_
  refine lv_irem hx hb d_Lim_pack_39 (by decide) ?_
  refine lv_eqi (v := 16) (by decide) ?_
  refine lv_istore (lv' := [(4, .int 16), (3, .int 3), (2, .int 8), (0, .ref to), (1, .ref a)]) hx hb d_Lim_pack_40 hl (by decide) rfl (fun ls hl => ?_)
  refine lv_aload_n hx hb d_Lim_pack_42 rfl (lv_at hl 3 rfl) ?_
  refine lv_iload_n hx hb d_Lim_pack_43 rfl (lv_at hl 1 rfl) ?_
  refine lv_dup2_11 hx hb d_Lim_pack_44 rfl rfl ?_
  refine gm_lald hx hb X (k := 3) (Or.inl (gm_up_s _ _ _)) (by decide) ⟨by decide, by decide⟩ d_Lim_pack_45 ?_
  refine lv_eql (v := v11) rfl ?_
  refine lv_aload_n hx hb d_Lim_pack_46 rfl (lv_at hl 4 rfl) ?_
  refine lv_iload_n hx hb d_Lim_pack_47 rfl (lv_at hl 2 rfl) ?_
  refine gm_lald hx hb X (k := 8) (rdL_up (Or.inl ha) ht (by decide)) (by decide) ⟨by decide, by decide⟩ d_Lim_pack_48 ?_
  refine lv_iload hx hb d_Lim_pack_49 (lv_at hl 0 rfl) ?_
  refine lv_lshl hx hb d_Lim_pack_51 rfl ?_
  refine lv_lor hx hb d_Lim_pack_52 ?_
  refine lv_topl (fun v12 ev12 => ?_)
  refine gm_last hx hb X (k := 3) (gm_up_s _ _ _) hA (by decide) ⟨by decide, by decide⟩ d_Lim_pack_53 (fun H locs X => ?_)
  rw [gm_up_up, pk4_s3] at X
  refine lv_iload hx hb d_Lim_pack_54 (lv_at hl 0 rfl) ?_
  refine lv_bipush (v := 26) hx hb d_Lim_pack_56 (by decide) ?_
  refine lv_iadd hx hb d_Lim_pack_58 ?_
  refine lv_eqi (v := 42) (by decide) ?_
  refine lv_bipush (v := 64) hx hb d_Lim_pack_59 (by decide) ?_
  refine lv_icmp_le (tgt := 88) hx hb d_Lim_pack_61 (by decide) (fun _ => ?_) (fun c9 => absurd (by decide) c9)
  refine lv_iinc (v := 9) (lv' := [(2, .int 9), (4, .int 16), (3, .int 3), (0, .ref to), (1, .ref a)]) hx hb d_Lim_pack_88 hl (k := 2) rfl (by decide) (by decide) rfl (fun ls hl => ?_)
  refine lv_goto (tgt := 19) hx hb d_Lim_pack_91 (by decide) ?_
  refine lv_iload_n hx hb d_Lim_pack_19 rfl (lv_at hl 0 rfl) ?_
  refine lv_bipush (v := 10) hx hb d_Lim_pack_20 (by decide) ?_
  refine lv_icmp_ge (tgt := 94) hx hb d_Lim_pack_22 (by decide) (fun c9 => absurd c9 (by decide)) (fun _ => ?_)
  refine lv_iload_n hx hb d_Lim_pack_25 rfl (lv_at hl 0 rfl) ?_
  refine lv_bipush (v := 26) hx hb d_Lim_pack_26 (by decide) ?_
  refine lv_imul hx hb d_Lim_pack_28 ?_
  refine lv_eqi (v := 234) (by decide) ?_
  refine lv_bipush (v := 64) hx hb d_Lim_pack_29 (by decide) ?_
  refine lv_idiv hx hb d_Lim_pack_31 (by decide) ?_
  refine lv_eqi (v := 3) (by decide) ?_
  refine lv_istore_n (lv' := [(3, .int 3), (2, .int 9), (4, .int 16), (0, .ref to), (1, .ref a)]) hx hb d_Lim_pack_32 rfl hl (by decide) rfl (fun ls hl => ?_)
  refine lv_iload_n hx hb d_Lim_pack_33 rfl (lv_at hl 1 rfl) ?_
  refine lv_bipush (v := 26) hx hb d_Lim_pack_34 (by decide) ?_
  refine lv_imul hx hb d_Lim_pack_36 ?_
  refine lv_eqi (v := 234) (by decide) ?_
  refine lv_bipush (v := 64) hx hb d_Lim_pack_37 (by decide) ?_
  refine lv_irem hx hb d_Lim_pack_39 (by decide) ?_
  refine lv_eqi (v := 42) (by decide) ?_
  refine lv_istore (lv' := [(4, .int 42), (3, .int 3), (2, .int 9), (0, .ref to), (1, .ref a)]) hx hb d_Lim_pack_40 hl (by decide) rfl (fun ls hl => ?_)
  refine lv_aload_n hx hb d_Lim_pack_42 rfl (lv_at hl 3 rfl) ?_
  refine lv_iload_n hx hb d_Lim_pack_43 rfl (lv_at hl 1 rfl) ?_
  refine lv_dup2_11 hx hb d_Lim_pack_44 rfl rfl ?_
  refine gm_lald hx hb X (k := 3) (Or.inl (gm_up_s _ _ _)) (by decide) ⟨by decide, by decide⟩ d_Lim_pack_45 ?_
  refine lv_eql (v := v12) rfl ?_
  refine lv_aload_n hx hb d_Lim_pack_46 rfl (lv_at hl 4 rfl) ?_
  refine lv_iload_n hx hb d_Lim_pack_47 rfl (lv_at hl 2 rfl) ?_
  refine gm_lald hx hb X (k := 9) (rdL_up (Or.inl ha) ht (by decide)) (by decide) ⟨by decide, by decide⟩ d_Lim_pack_48 ?_
  refine lv_iload hx hb d_Lim_pack_49 (lv_at hl 0 rfl) ?_
  refine lv_lshl hx hb d_Lim_pack_51 rfl ?_
  refine lv_lor hx hb d_Lim_pack_52 ?_
  refine lv_topl (fun v13 ev13 => ?_)
  refine gm_last hx hb X (k := 3) (gm_up_s _ _ _) hA (by decide) ⟨by decide, by decide⟩ d_Lim_pack_53 (fun H locs X => ?_)
  rw [gm_up_up, pk4_s3] at X
  refine lv_iload hx hb d_Lim_pack_54 (lv_at hl 0 rfl) ?_
  refine lv_bipush (v := 26) hx hb d_Lim_pack_56 (by decide) ?_
  refine lv_iadd hx hb d_Lim_pack_58 ?_
  refine lv_eqi (v := 68) (by decide) ?_
  refine lv_bipush (v := 64) hx hb d_Lim_pack_59 (by decide) ?_
  refine lv_icmp_le (tgt := 88) hx hb d_Lim_pack_61 (by decide) (fun c9 => absurd c9 (by decide)) (fun _ => ?_)
  refine lv_iload_n hx hb d_Lim_pack_64 rfl (lv_at hl 1 rfl) ?_
  refine lv_iconst (v := 1) hx hb d_Lim_pack_65 (by decide) ?_
  refine lv_iadd hx hb d_Lim_pack_66 ?_
  refine lv_eqi (v := 4) (by decide) ?_
  refine lv_iconst (v := 4) hx hb d_Lim_pack_67 (by decide) ?_
  refine lv_icmp_ge (tgt := 88) hx hb d_Lim_pack_68 (by decide) (fun _ => ?_) (fun c9 => absurd (by decide) c9)
  refine lv_iinc (v := 10) (lv' := [(2, .int 10), (4, .int 42), (3, .int 3), (0, .ref to), (1, .ref a)]) hx hb d_Lim_pack_88 hl (k := 2) rfl (by decide) (by decide) rfl (fun ls hl => ?_)
  refine lv_goto (tgt := 19) hx hb d_Lim_pack_91 (by decide) ?_
  refine lv_iload_n hx hb d_Lim_pack_19 rfl (lv_at hl 0 rfl) ?_
  refine lv_bipush (v := 10) hx hb d_Lim_pack_20 (by decide) ?_
  refine lv_icmp_ge (tgt := 94) hx hb d_Lim_pack_22 (by decide) (fun _ => ?_) (fun c9 => absurd (by decide) c9)
  subst ev1 ev2 ev3 ev4 ev5 ev6 ev7 ev8 ev9 ev10 ev11 ev12 ev13
  refine gm_vret hx hb hr hlk ⟨X.1, gm_LA X.2.1 (fun j hj => ?_), X.2.2⟩ rfl d_Lim_pack_94
  rcases (show j = 0 ∨ j = 1 ∨ j = 2 ∨ j = 3 by omega) with rfl | rfl | rfl | rfl <;> rfl
