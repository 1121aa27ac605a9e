/-! PointBench.Limbs.product: written by wip/gen/lim3.py -/
/-- the bare sums of products -/
def prF (ga gb : Nat → Int64) (j : Nat) : Int64 := match j with
  | 0 => ((ga 0) * (gb 0))
  | 1 => (((ga 0) * (gb 1)) + ((ga 1) * (gb 0)))
  | 2 => ((((ga 0) * (gb 2)) + ((ga 1) * (gb 1))) + ((ga 2) * (gb 0)))
  | 3 => (((((ga 0) * (gb 3)) + ((ga 1) * (gb 2))) + ((ga 2) * (gb 1))) + ((ga 3) * (gb 0)))
  | 4 => ((((((ga 0) * (gb 4)) + ((ga 1) * (gb 3))) + ((ga 2) * (gb 2))) + ((ga 3) * (gb 1))) + ((ga 4) * (gb 0)))
  | 5 => (((((((ga 0) * (gb 5)) + ((ga 1) * (gb 4))) + ((ga 2) * (gb 3))) + ((ga 3) * (gb 2))) + ((ga 4) * (gb 1))) + ((ga 5) * (gb 0)))
  | 6 => ((((((((ga 0) * (gb 6)) + ((ga 1) * (gb 5))) + ((ga 2) * (gb 4))) + ((ga 3) * (gb 3))) + ((ga 4) * (gb 2))) + ((ga 5) * (gb 1))) + ((ga 6) * (gb 0)))
  | 7 => (((((((((ga 0) * (gb 7)) + ((ga 1) * (gb 6))) + ((ga 2) * (gb 5))) + ((ga 3) * (gb 4))) + ((ga 4) * (gb 3))) + ((ga 5) * (gb 2))) + ((ga 6) * (gb 1))) + ((ga 7) * (gb 0)))
  | 8 => ((((((((((ga 0) * (gb 8)) + ((ga 1) * (gb 7))) + ((ga 2) * (gb 6))) + ((ga 3) * (gb 5))) + ((ga 4) * (gb 4))) + ((ga 5) * (gb 3))) + ((ga 6) * (gb 2))) + ((ga 7) * (gb 1))) + ((ga 8) * (gb 0)))
  | 9 => (((((((((((ga 0) * (gb 9)) + ((ga 1) * (gb 8))) + ((ga 2) * (gb 7))) + ((ga 3) * (gb 6))) + ((ga 4) * (gb 5))) + ((ga 5) * (gb 4))) + ((ga 6) * (gb 3))) + ((ga 7) * (gb 2))) + ((ga 8) * (gb 1))) + ((ga 9) * (gb 0)))
  | 10 => ((((((((((ga 1) * (gb 9)) + ((ga 2) * (gb 8))) + ((ga 3) * (gb 7))) + ((ga 4) * (gb 6))) + ((ga 5) * (gb 5))) + ((ga 6) * (gb 4))) + ((ga 7) * (gb 3))) + ((ga 8) * (gb 2))) + ((ga 9) * (gb 1)))
  | 11 => (((((((((ga 2) * (gb 9)) + ((ga 3) * (gb 8))) + ((ga 4) * (gb 7))) + ((ga 5) * (gb 6))) + ((ga 6) * (gb 5))) + ((ga 7) * (gb 4))) + ((ga 8) * (gb 3))) + ((ga 9) * (gb 2)))
  | 12 => ((((((((ga 3) * (gb 9)) + ((ga 4) * (gb 8))) + ((ga 5) * (gb 7))) + ((ga 6) * (gb 6))) + ((ga 7) * (gb 5))) + ((ga 8) * (gb 4))) + ((ga 9) * (gb 3)))
  | 13 => (((((((ga 4) * (gb 9)) + ((ga 5) * (gb 8))) + ((ga 6) * (gb 7))) + ((ga 7) * (gb 6))) + ((ga 8) * (gb 5))) + ((ga 9) * (gb 4)))
  | 14 => ((((((ga 5) * (gb 9)) + ((ga 6) * (gb 8))) + ((ga 7) * (gb 7))) + ((ga 8) * (gb 6))) + ((ga 9) * (gb 5)))
  | 15 => (((((ga 6) * (gb 9)) + ((ga 7) * (gb 8))) + ((ga 8) * (gb 7))) + ((ga 9) * (gb 6)))
  | 16 => ((((ga 7) * (gb 9)) + ((ga 8) * (gb 8))) + ((ga 9) * (gb 7)))
  | 17 => (((ga 8) * (gb 9)) + ((ga 9) * (gb 8)))
  | 18 => ((ga 9) * (gb 9))
  | _ => 0
set_option maxHeartbeats 8000000 in
set_option maxRecDepth 100000 in
theorem c_Lim_product (l : Launch) (E : gm_E) (M : gm_M) {to a b : Nat} {g ga gb : Nat → Int64} (ht : M to = some (LA E 20 g)) (hA : E.2.1 ≤ to) (ha : M a = some (LA E 10 ga)) (hq : M b = some (LA E 10 gb)) : cv_ l y_Lim_product b_Lim_product 43 none { frames := 0, cells := 0, slots := 0, locals := 0 } E M [.ref to, .ref a, .ref b] (fun M' => M' = gm_up M to (LA E 20 (prF ga gb))) := by
  refine gm_met (by decide) (Nat.le_of_ble_eq_true rfl) (fun p e s m below meth c ls hx hb hml hr hlk hnm hown hW X hl => ?_)
  have hl : lv_has ls 43 [(0, .ref to), (1, .ref a), (2, .ref b)] := hl
  refine lv_aload_n hx hb d_Lim_product_0 rfl (lv_at hl 1 rfl) ?_
  refine lv_iconst (v := 0) hx hb d_Lim_product_1 (by decide) ?_
  refine gm_lald hx hb X (k := 0) (Or.inl ha) (by decide) ⟨by decide, by decide⟩ d_Lim_product_2 ?_
  refine lv_lstore_n (lv' := [(3, .long (ga 0)), (0, .ref to), (1, .ref a), (2, .ref b)]) hx hb d_Lim_product_3 rfl hl (by decide) rfl (fun ls hl => ?_)
  refine lv_aload_n hx hb d_Lim_product_4 rfl (lv_at hl 2 rfl) ?_
  refine lv_iconst (v := 1) hx hb d_Lim_product_5 (by decide) ?_
  refine gm_lald hx hb X (k := 1) (Or.inl ha) (by decide) ⟨by decide, by decide⟩ d_Lim_product_6 ?_
  refine lv_lstore (lv' := [(5, .long (ga 1)), (3, .long (ga 0)), (0, .ref to), (1, .ref a), (2, .ref b)]) hx hb d_Lim_product_7 hl (by decide) rfl (fun ls hl => ?_)
  refine lv_aload_n hx hb d_Lim_product_9 rfl (lv_at hl 3 rfl) ?_
  refine lv_iconst (v := 2) hx hb d_Lim_product_10 (by decide) ?_
  refine gm_lald hx hb X (k := 2) (Or.inl ha) (by decide) ⟨by decide, by decide⟩ d_Lim_product_11 ?_
  refine lv_lstore (lv' := [(7, .long (ga 2)), (5, .long (ga 1)), (3, .long (ga 0)), (0, .ref to), (1, .ref a), (2, .ref b)]) hx hb d_Lim_product_12 hl (by decide) rfl (fun ls hl => ?_)
  refine lv_aload_n hx hb d_Lim_product_14 rfl (lv_at hl 4 rfl) ?_
  refine lv_iconst (v := 3) hx hb d_Lim_product_15 (by decide) ?_
  refine gm_lald hx hb X (k := 3) (Or.inl ha) (by decide) ⟨by decide, by decide⟩ d_Lim_product_16 ?_
  refine lv_lstore (lv' := [(9, .long (ga 3)), (7, .long (ga 2)), (5, .long (ga 1)), (3, .long (ga 0)), (0, .ref to), (1, .ref a), (2, .ref b)]) hx hb d_Lim_product_17 hl (by decide) rfl (fun ls hl => ?_)
  refine lv_aload_n hx hb d_Lim_product_19 rfl (lv_at hl 5 rfl) ?_
  refine lv_iconst (v := 4) hx hb d_Lim_product_20 (by decide) ?_
  refine gm_lald hx hb X (k := 4) (Or.inl ha) (by decide) ⟨by decide, by decide⟩ d_Lim_product_21 ?_
  refine lv_lstore (lv' := [(11, .long (ga 4)), (9, .long (ga 3)), (7, .long (ga 2)), (5, .long (ga 1)), (3, .long (ga 0)), (0, .ref to), (1, .ref a), (2, .ref b)]) hx hb d_Lim_product_22 hl (by decide) rfl (fun ls hl => ?_)
  refine lv_aload_n hx hb d_Lim_product_24 rfl (lv_at hl 6 rfl) ?_
  refine lv_iconst (v := 5) hx hb d_Lim_product_25 (by decide) ?_
  refine gm_lald hx hb X (k := 5) (Or.inl ha) (by decide) ⟨by decide, by decide⟩ d_Lim_product_26 ?_
  refine lv_lstore (lv' := [(13, .long (ga 5)), (11, .long (ga 4)), (9, .long (ga 3)), (7, .long (ga 2)), (5, .long (ga 1)), (3, .long (ga 0)), (0, .ref to), (1, .ref a), (2, .ref b)]) hx hb d_Lim_product_27 hl (by decide) rfl (fun ls hl => ?_)
  refine lv_aload_n hx hb d_Lim_product_29 rfl (lv_at hl 7 rfl) ?_
  refine lv_bipush (v := 6) hx hb d_Lim_product_30 (by decide) ?_
  refine gm_lald hx hb X (k := 6) (Or.inl ha) (by decide) ⟨by decide, by decide⟩ d_Lim_product_32 ?_
  refine lv_lstore (lv' := [(15, .long (ga 6)), (13, .long (ga 5)), (11, .long (ga 4)), (9, .long (ga 3)), (7, .long (ga 2)), (5, .long (ga 1)), (3, .long (ga 0)), (0, .ref to), (1, .ref a), (2, .ref b)]) hx hb d_Lim_product_33 hl (by decide) rfl (fun ls hl => ?_)
  refine lv_aload_n hx hb d_Lim_product_35 rfl (lv_at hl 8 rfl) ?_
  refine lv_bipush (v := 7) hx hb d_Lim_product_36 (by decide) ?_
  refine gm_lald hx hb X (k := 7) (Or.inl ha) (by decide) ⟨by decide, by decide⟩ d_Lim_product_38 ?_
  refine lv_lstore (lv' := [(17, .long (ga 7)), (15, .long (ga 6)), (13, .long (ga 5)), (11, .long (ga 4)), (9, .long (ga 3)), (7, .long (ga 2)), (5, .long (ga 1)), (3, .long (ga 0)), (0, .ref to), (1, .ref a), (2, .ref b)]) hx hb d_Lim_product_39 hl (by decide) rfl (fun ls hl => ?_)
  refine lv_aload_n hx hb d_Lim_product_41 rfl (lv_at hl 9 rfl) ?_
  refine lv_bipush (v := 8) hx hb d_Lim_product_42 (by decide) ?_
  refine gm_lald hx hb X (k := 8) (Or.inl ha) (by decide) ⟨by decide, by decide⟩ d_Lim_product_44 ?_
  refine lv_lstore (lv' := [(19, .long (ga 8)), (17, .long (ga 7)), (15, .long (ga 6)), (13, .long (ga 5)), (11, .long (ga 4)), (9, .long (ga 3)), (7, .long (ga 2)), (5, .long (ga 1)), (3, .long (ga 0)), (0, .ref to), (1, .ref a), (2, .ref b)]) hx hb d_Lim_product_45 hl (by decide) rfl (fun ls hl => ?_)
  refine lv_aload_n hx hb d_Lim_product_47 rfl (lv_at hl 10 rfl) ?_
  refine lv_bipush (v := 9) hx hb d_Lim_product_48 (by decide) ?_
  refine gm_lald hx hb X (k := 9) (Or.inl ha) (by decide) ⟨by decide, by decide⟩ d_Lim_product_50 ?_
  refine lv_lstore (lv' := [(21, .long (ga 9)), (19, .long (ga 8)), (17, .long (ga 7)), (15, .long (ga 6)), (13, .long (ga 5)), (11, .long (ga 4)), (9, .long (ga 3)), (7, .long (ga 2)), (5, .long (ga 1)), (3, .long (ga 0)), (0, .ref to), (1, .ref a), (2, .ref b)]) hx hb d_Lim_product_51 hl (by decide) rfl (fun ls hl => ?_)
  refine lv_aload_n hx hb d_Lim_product_53 rfl (lv_at hl 12 rfl) ?_
  refine lv_iconst (v := 0) hx hb d_Lim_product_54 (by decide) ?_
  refine gm_lald hx hb X (k := 0) (Or.inl hq) (by decide) ⟨by decide, by decide⟩ d_Lim_product_55 ?_
  refine lv_lstore (lv' := [(23, .long (gb 0)), (21, .long (ga 9)), (19, .long (ga 8)), (17, .long (ga 7)), (15, .long (ga 6)), (13, .long (ga 5)), (11, .long (ga 4)), (9, .long (ga 3)), (7, .long (ga 2)), (5, .long (ga 1)), (3, .long (ga 0)), (0, .ref to), (1, .ref a), (2, .ref b)]) hx hb d_Lim_product_56 hl (by decide) rfl (fun ls hl => ?_)
  refine lv_aload_n hx hb d_Lim_product_58 rfl (lv_at hl 13 rfl) ?_
  refine lv_iconst (v := 1) hx hb d_Lim_product_59 (by decide) ?_
  refine gm_lald hx hb X (k := 1) (Or.inl hq) (by decide) ⟨by decide, by decide⟩ d_Lim_product_60 ?_
  refine lv_lstore (lv' := [(25, .long (gb 1)), (23, .long (gb 0)), (21, .long (ga 9)), (19, .long (ga 8)), (17, .long (ga 7)), (15, .long (ga 6)), (13, .long (ga 5)), (11, .long (ga 4)), (9, .long (ga 3)), (7, .long (ga 2)), (5, .long (ga 1)), (3, .long (ga 0)), (0, .ref to), (1, .ref a), (2, .ref b)]) hx hb d_Lim_product_61 hl (by decide) rfl (fun ls hl => ?_)
  refine lv_aload_n hx hb d_Lim_product_63 rfl (lv_at hl 14 rfl) ?_
  refine lv_iconst (v := 2) hx hb d_Lim_product_64 (by decide) ?_
  refine gm_lald hx hb X (k := 2) (Or.inl hq) (by decide) ⟨by decide, by decide⟩ d_Lim_product_65 ?_
  refine lv_lstore (lv' := [(27, .long (gb 2)), (25, .long (gb 1)), (23, .long (gb 0)), (21, .long (ga 9)), (19, .long (ga 8)), (17, .long (ga 7)), (15, .long (ga 6)), (13, .long (ga 5)), (11, .long (ga 4)), (9, .long (ga 3)), (7, .long (ga 2)), (5, .long (ga 1)), (3, .long (ga 0)), (0, .ref to), (1, .ref a), (2, .ref b)]) hx hb d_Lim_product_66 hl (by decide) rfl (fun ls hl => ?_)
  refine lv_aload_n hx hb d_Lim_product_68 rfl (lv_at hl 15 rfl) ?_
  refine lv_iconst (v := 3) hx hb d_Lim_product_69 (by decide) ?_
  refine gm_lald hx hb X (k := 3) (Or.inl hq) (by decide) ⟨by decide, by decide⟩ d_Lim_product_70 ?_
  refine lv_lstore (lv' := [(29, .long (gb 3)), (27, .long (gb 2)), (25, .long (gb 1)), (23, .long (gb 0)), (21, .long (ga 9)), (19, .long (ga 8)), (17, .long (ga 7)), (15, .long (ga 6)), (13, .long (ga 5)), (11, .long (ga 4)), (9, .long (ga 3)), (7, .long (ga 2)), (5, .long (ga 1)), (3, .long (ga 0)), (0, .ref to), (1, .ref a), (2, .ref b)]) hx hb d_Lim_product_71 hl (by decide) rfl (fun ls hl => ?_)
  refine lv_aload_n hx hb d_Lim_product_73 rfl (lv_at hl 16 rfl) ?_
  refine lv_iconst (v := 4) hx hb d_Lim_product_74 (by decide) ?_
  refine gm_lald hx hb X (k := 4) (Or.inl hq) (by decide) ⟨by decide, by decide⟩ d_Lim_product_75 ?_
  refine lv_lstore (lv' := [(31, .long (gb 4)), (29, .long (gb 3)), (27, .long (gb 2)), (25, .long (gb 1)), (23, .long (gb 0)), (21, .long (ga 9)), (19, .long (ga 8)), (17, .long (ga 7)), (15, .long (ga 6)), (13, .long (ga 5)), (11, .long (ga 4)), (9, .long (ga 3)), (7, .long (ga 2)), (5, .long (ga 1)), (3, .long (ga 0)), (0, .ref to), (1, .ref a), (2, .ref b)]) hx hb d_Lim_product_76 hl (by decide) rfl (fun ls hl => ?_)
  refine lv_aload_n hx hb d_Lim_product_78 rfl (lv_at hl 17 rfl) ?_
  refine lv_iconst (v := 5) hx hb d_Lim_product_79 (by decide) ?_
  refine gm_lald hx hb X (k := 5) (Or.inl hq) (by decide) ⟨by decide, by decide⟩ d_Lim_product_80 ?_
  refine lv_lstore (lv' := [(33, .long (gb 5)), (31, .long (gb 4)), (29, .long (gb 3)), (27, .long (gb 2)), (25, .long (gb 1)), (23, .long (gb 0)), (21, .long (ga 9)), (19, .long (ga 8)), (17, .long (ga 7)), (15, .long (ga 6)), (13, .long (ga 5)), (11, .long (ga 4)), (9, .long (ga 3)), (7, .long (ga 2)), (5, .long (ga 1)), (3, .long (ga 0)), (0, .ref to), (1, .ref a), (2, .ref b)]) hx hb d_Lim_product_81 hl (by decide) rfl (fun ls hl => ?_)
  refine lv_aload_n hx hb d_Lim_product_83 rfl (lv_at hl 18 rfl) ?_
  refine lv_bipush (v := 6) hx hb d_Lim_product_84 (by decide) ?_
  refine gm_lald hx hb X (k := 6) (Or.inl hq) (by decide) ⟨by decide, by decide⟩ d_Lim_product_86 ?_
  refine lv_lstore (lv' := [(35, .long (gb 6)), (33, .long (gb 5)), (31, .long (gb 4)), (29, .long (gb 3)), (27, .long (gb 2)), (25, .long (gb 1)), (23, .long (gb 0)), (21, .long (ga 9)), (19, .long (ga 8)), (17, .long (ga 7)), (15, .long (ga 6)), (13, .long (ga 5)), (11, .long (ga 4)), (9, .long (ga 3)), (7, .long (ga 2)), (5, .long (ga 1)), (3, .long (ga 0)), (0, .ref to), (1, .ref a), (2, .ref b)]) hx hb d_Lim_product_87 hl (by decide) rfl (fun ls hl => ?_)
  refine lv_aload_n hx hb d_Lim_product_89 rfl (lv_at hl 19 rfl) ?_
  refine lv_bipush (v := 7) hx hb d_Lim_product_90 (by decide) ?_
  refine gm_lald hx hb X (k := 7) (Or.inl hq) (by decide) ⟨by decide, by decide⟩ d_Lim_product_92 ?_
  refine lv_lstore (lv' := [(37, .long (gb 7)), (35, .long (gb 6)), (33, .long (gb 5)), (31, .long (gb 4)), (29, .long (gb 3)), (27, .long (gb 2)), (25, .long (gb 1)), (23, .long (gb 0)), (21, .long (ga 9)), (19, .long (ga 8)), (17, .long (ga 7)), (15, .long (ga 6)), (13, .long (ga 5)), (11, .long (ga 4)), (9, .long (ga 3)), (7, .long (ga 2)), (5, .long (ga 1)), (3, .long (ga 0)), (0, .ref to), (1, .ref a), (2, .ref b)]) hx hb d_Lim_product_93 hl (by decide) rfl (fun ls hl => ?_)
  refine lv_aload_n hx hb d_Lim_product_95 rfl (lv_at hl 20 rfl) ?_
  refine lv_bipush (v := 8) hx hb d_Lim_product_96 (by decide) ?_
  refine gm_lald hx hb X (k := 8) (Or.inl hq) (by decide) ⟨by decide, by decide⟩ d_Lim_product_98 ?_
  refine lv_lstore (lv' := [(39, .long (gb 8)), (37, .long (gb 7)), (35, .long (gb 6)), (33, .long (gb 5)), (31, .long (gb 4)), (29, .long (gb 3)), (27, .long (gb 2)), (25, .long (gb 1)), (23, .long (gb 0)), (21, .long (ga 9)), (19, .long (ga 8)), (17, .long (ga 7)), (15, .long (ga 6)), (13, .long (ga 5)), (11, .long (ga 4)), (9, .long (ga 3)), (7, .long (ga 2)), (5, .long (ga 1)), (3, .long (ga 0)), (0, .ref to), (1, .ref a), (2, .ref b)]) hx hb d_Lim_product_99 hl (by decide) rfl (fun ls hl => ?_)
  refine lv_aload_n hx hb d_Lim_product_101 rfl (lv_at hl 21 rfl) ?_
  refine lv_bipush (v := 9) hx hb d_Lim_product_102 (by decide) ?_
  refine gm_lald hx hb X (k := 9) (Or.inl hq) (by decide) ⟨by decide, by decide⟩ d_Lim_product_104 ?_
  refine lv_lstore (lv' := [(41, .long (gb 9)), (39, .long (gb 8)), (37, .long (gb 7)), (35, .long (gb 6)), (33, .long (gb 5)), (31, .long (gb 4)), (29, .long (gb 3)), (27, .long (gb 2)), (25, .long (gb 1)), (23, .long (gb 0)), (21, .long (ga 9)), (19, .long (ga 8)), (17, .long (ga 7)), (15, .long (ga 6)), (13, .long (ga 5)), (11, .long (ga 4)), (9, .long (ga 3)), (7, .long (ga 2)), (5, .long (ga 1)), (3, .long (ga 0)), (0, .ref to), (1, .ref a), (2, .ref b)]) hx hb d_Lim_product_105 hl (by decide) rfl (fun ls hl => ?_)
  refine lv_aload_n hx hb d_Lim_product_107 rfl (lv_at hl 20 rfl) ?_
  refine lv_iconst (v := 0) hx hb d_Lim_product_108 (by decide) ?_
  refine lv_lload_n hx hb d_Lim_product_109 rfl (lv_at hl 19 rfl) ?_
  refine lv_lload hx hb d_Lim_product_110 (lv_at hl 9 rfl) ?_
  refine lv_lmul hx hb d_Lim_product_112 ?_
  refine gm_last hx hb X (k := 0) ht hA (by decide) ⟨by decide, by decide⟩ d_Lim_product_113 (fun H locs X => ?_)
  have X : gx E (gm_up M to (LA E 20 (mx 1 (prF ga gb) g))) s H locs := by rw [← mx_sL 0 (prF ga gb) g]; rw [mx_0]; exact X
  refine lv_aload_n hx hb d_Lim_product_114 rfl (lv_at hl 20 rfl) ?_
  refine lv_iconst (v := 1) hx hb d_Lim_product_115 (by decide) ?_
  refine lv_lload_n hx hb d_Lim_product_116 rfl (lv_at hl 19 rfl) ?_
  refine lv_lload hx hb d_Lim_product_117 (lv_at hl 8 rfl) ?_
  refine lv_lmul hx hb d_Lim_product_119 ?_
  refine lv_lload hx hb d_Lim_product_120 (lv_at hl 18 rfl) ?_
  refine lv_lload hx hb d_Lim_product_122 (lv_at hl 9 rfl) ?_
  refine lv_lmul hx hb d_Lim_product_124 ?_
  refine lv_ladd hx hb d_Lim_product_125 ?_
  refine gm_last hx hb X (k := 1) (gm_up_s _ _ _) hA (by decide) ⟨by decide, by decide⟩ d_Lim_product_126 (fun H locs X => ?_)
  rw [gm_up_up] at X
  have X : gx E (gm_up M to (LA E 20 (mx 2 (prF ga gb) g))) s H locs := by rw [← mx_sL 1 (prF ga gb) g]; exact X
  refine lv_aload_n hx hb d_Lim_product_127 rfl (lv_at hl 20 rfl) ?_
  refine lv_iconst (v := 2) hx hb d_Lim_product_128 (by decide) ?_
  refine lv_lload_n hx hb d_Lim_product_129 rfl (lv_at hl 19 rfl) ?_
  refine lv_lload hx hb d_Lim_product_130 (lv_at hl 7 rfl) ?_
  refine lv_lmul hx hb d_Lim_product_132 ?_
  refine lv_lload hx hb d_Lim_product_133 (lv_at hl 18 rfl) ?_
  refine lv_lload hx hb d_Lim_product_135 (lv_at hl 8 rfl) ?_
  refine lv_lmul hx hb d_Lim_product_137 ?_
  refine lv_ladd hx hb d_Lim_product_138 ?_
  refine lv_lload hx hb d_Lim_product_139 (lv_at hl 17 rfl) ?_
  refine lv_lload hx hb d_Lim_product_141 (lv_at hl 9 rfl) ?_
  refine lv_lmul hx hb d_Lim_product_143 ?_
  refine lv_ladd hx hb d_Lim_product_144 ?_
  refine gm_last hx hb X (k := 2) (gm_up_s _ _ _) hA (by decide) ⟨by decide, by decide⟩ d_Lim_product_145 (fun H locs X => ?_)
  rw [gm_up_up] at X
  have X : gx E (gm_up M to (LA E 20 (mx 3 (prF ga gb) g))) s H locs := by rw [← mx_sL 2 (prF ga gb) g]; exact X
  refine lv_aload_n hx hb d_Lim_product_146 rfl (lv_at hl 20 rfl) ?_
  refine lv_iconst (v := 3) hx hb d_Lim_product_147 (by decide) ?_
  refine lv_lload_n hx hb d_Lim_product_148 rfl (lv_at hl 19 rfl) ?_
  refine lv_lload hx hb d_Lim_product_149 (lv_at hl 6 rfl) ?_
  refine lv_lmul hx hb d_Lim_product_151 ?_
  refine lv_lload hx hb d_Lim_product_152 (lv_at hl 18 rfl) ?_
  refine lv_lload hx hb d_Lim_product_154 (lv_at hl 7 rfl) ?_
  refine lv_lmul hx hb d_Lim_product_156 ?_
  refine lv_ladd hx hb d_Lim_product_157 ?_
  refine lv_lload hx hb d_Lim_product_158 (lv_at hl 17 rfl) ?_
  refine lv_lload hx hb d_Lim_product_160 (lv_at hl 8 rfl) ?_
  refine lv_lmul hx hb d_Lim_product_162 ?_
  refine lv_ladd hx hb d_Lim_product_163 ?_
  refine lv_lload hx hb d_Lim_product_164 (lv_at hl 16 rfl) ?_
  refine lv_lload hx hb d_Lim_product_166 (lv_at hl 9 rfl) ?_
  refine lv_lmul hx hb d_Lim_product_168 ?_
  refine lv_ladd hx hb d_Lim_product_169 ?_
  refine gm_last hx hb X (k := 3) (gm_up_s _ _ _) hA (by decide) ⟨by decide, by decide⟩ d_Lim_product_170 (fun H locs X => ?_)
  rw [gm_up_up] at X
  have X : gx E (gm_up M to (LA E 20 (mx 4 (prF ga gb) g))) s H locs := by rw [← mx_sL 3 (prF ga gb) g]; exact X
  refine lv_aload_n hx hb d_Lim_product_171 rfl (lv_at hl 20 rfl) ?_
  refine lv_iconst (v := 4) hx hb d_Lim_product_172 (by decide) ?_
  refine lv_lload_n hx hb d_Lim_product_173 rfl (lv_at hl 19 rfl) ?_
  refine lv_lload hx hb d_Lim_product_174 (lv_at hl 5 rfl) ?_
  refine lv_lmul hx hb d_Lim_product_176 ?_
  refine lv_lload hx hb d_Lim_product_177 (lv_at hl 18 rfl) ?_
  refine lv_lload hx hb d_Lim_product_179 (lv_at hl 6 rfl) ?_
  refine lv_lmul hx hb d_Lim_product_181 ?_
  refine lv_ladd hx hb d_Lim_product_182 ?_
  refine lv_lload hx hb d_Lim_product_183 (lv_at hl 17 rfl) ?_
  refine lv_lload hx hb d_Lim_product_185 (lv_at hl 7 rfl) ?_
  refine lv_lmul hx hb d_Lim_product_187 ?_
  refine lv_ladd hx hb d_Lim_product_188 ?_
  refine lv_lload hx hb d_Lim_product_189 (lv_at hl 16 rfl) ?_
  refine lv_lload hx hb d_Lim_product_191 (lv_at hl 8 rfl) ?_
  refine lv_lmul hx hb d_Lim_product_193 ?_
  refine lv_ladd hx hb d_Lim_product_194 ?_
  refine lv_lload hx hb d_Lim_product_195 (lv_at hl 15 rfl) ?_
  refine lv_lload hx hb d_Lim_product_197 (lv_at hl 9 rfl) ?_
  refine lv_lmul hx hb d_Lim_product_199 ?_
  refine lv_ladd hx hb d_Lim_product_200 ?_
  refine gm_last hx hb X (k := 4) (gm_up_s _ _ _) hA (by decide) ⟨by decide, by decide⟩ d_Lim_product_201 (fun H locs X => ?_)
  rw [gm_up_up] at X
  have X : gx E (gm_up M to (LA E 20 (mx 5 (prF ga gb) g))) s H locs := by rw [← mx_sL 4 (prF ga gb) g]; exact X
  refine lv_aload_n hx hb d_Lim_product_202 rfl (lv_at hl 20 rfl) ?_
  refine lv_iconst (v := 5) hx hb d_Lim_product_203 (by decide) ?_
  refine lv_lload_n hx hb d_Lim_product_204 rfl (lv_at hl 19 rfl) ?_
  refine lv_lload hx hb d_Lim_product_205 (lv_at hl 4 rfl) ?_
  refine lv_lmul hx hb d_Lim_product_207 ?_
  refine lv_lload hx hb d_Lim_product_208 (lv_at hl 18 rfl) ?_
  refine lv_lload hx hb d_Lim_product_210 (lv_at hl 5 rfl) ?_
  refine lv_lmul hx hb d_Lim_product_212 ?_
  refine lv_ladd hx hb d_Lim_product_213 ?_
  refine lv_lload hx hb d_Lim_product_214 (lv_at hl 17 rfl) ?_
  refine lv_lload hx hb d_Lim_product_216 (lv_at hl 6 rfl) ?_
  refine lv_lmul hx hb d_Lim_product_218 ?_
  refine lv_ladd hx hb d_Lim_product_219 ?_
  refine lv_lload hx hb d_Lim_product_220 (lv_at hl 16 rfl) ?_
  refine lv_lload hx hb d_Lim_product_222 (lv_at hl 7 rfl) ?_
  refine lv_lmul hx hb d_Lim_product_224 ?_
  refine lv_ladd hx hb d_Lim_product_225 ?_
  refine lv_lload hx hb d_Lim_product_226 (lv_at hl 15 rfl) ?_
  refine lv_lload hx hb d_Lim_product_228 (lv_at hl 8 rfl) ?_
  refine lv_lmul hx hb d_Lim_product_230 ?_
  refine lv_ladd hx hb d_Lim_product_231 ?_
  refine lv_lload hx hb d_Lim_product_232 (lv_at hl 14 rfl) ?_
  refine lv_lload hx hb d_Lim_product_234 (lv_at hl 9 rfl) ?_
  refine lv_lmul hx hb d_Lim_product_236 ?_
  refine lv_ladd hx hb d_Lim_product_237 ?_
  refine gm_last hx hb X (k := 5) (gm_up_s _ _ _) hA (by decide) ⟨by decide, by decide⟩ d_Lim_product_238 (fun H locs X => ?_)
  rw [gm_up_up] at X
  have X : gx E (gm_up M to (LA E 20 (mx 6 (prF ga gb) g))) s H locs := by rw [← mx_sL 5 (prF ga gb) g]; exact X
  refine lv_aload_n hx hb d_Lim_product_239 rfl (lv_at hl 20 rfl) ?_
  refine lv_bipush (v := 6) hx hb d_Lim_product_240 (by decide) ?_
  refine lv_lload_n hx hb d_Lim_product_242 rfl (lv_at hl 19 rfl) ?_
  refine lv_lload hx hb d_Lim_product_243 (lv_at hl 3 rfl) ?_
  refine lv_lmul hx hb d_Lim_product_245 ?_
  refine lv_lload hx hb d_Lim_product_246 (lv_at hl 18 rfl) ?_
  refine lv_lload hx hb d_Lim_product_248 (lv_at hl 4 rfl) ?_
  refine lv_lmul hx hb d_Lim_product_250 ?_
  refine lv_ladd hx hb d_Lim_product_251 ?_
  refine lv_lload hx hb d_Lim_product_252 (lv_at hl 17 rfl) ?_
  refine lv_lload hx hb d_Lim_product_254 (lv_at hl 5 rfl) ?_
  refine lv_lmul hx hb d_Lim_product_256 ?_
  refine lv_ladd hx hb d_Lim_product_257 ?_
  refine lv_lload hx hb d_Lim_product_258 (lv_at hl 16 rfl) ?_
  refine lv_lload hx hb d_Lim_product_260 (lv_at hl 6 rfl) ?_
  refine lv_lmul hx hb d_Lim_product_262 ?_
  refine lv_ladd hx hb d_Lim_product_263 ?_
  refine lv_lload hx hb d_Lim_product_264 (lv_at hl 15 rfl) ?_
  refine lv_lload hx hb d_Lim_product_266 (lv_at hl 7 rfl) ?_
  refine lv_lmul hx hb d_Lim_product_268 ?_
  refine lv_ladd hx hb d_Lim_product_269 ?_
  refine lv_lload hx hb d_Lim_product_270 (lv_at hl 14 rfl) ?_
  refine lv_lload hx hb d_Lim_product_272 (lv_at hl 8 rfl) ?_
  refine lv_lmul hx hb d_Lim_product_274 ?_
  refine lv_ladd hx hb d_Lim_product_275 ?_
  refine lv_lload hx hb d_Lim_product_276 (lv_at hl 13 rfl) ?_
  refine lv_lload hx hb d_Lim_product_278 (lv_at hl 9 rfl) ?_
  refine lv_lmul hx hb d_Lim_product_280 ?_
  refine lv_ladd hx hb d_Lim_product_281 ?_
  refine gm_last hx hb X (k := 6) (gm_up_s _ _ _) hA (by decide) ⟨by decide, by decide⟩ d_Lim_product_282 (fun H locs X => ?_)
  rw [gm_up_up] at X
  have X : gx E (gm_up M to (LA E 20 (mx 7 (prF ga gb) g))) s H locs := by rw [← mx_sL 6 (prF ga gb) g]; exact X
  refine lv_aload_n hx hb d_Lim_product_283 rfl (lv_at hl 20 rfl) ?_
  refine lv_bipush (v := 7) hx hb d_Lim_product_284 (by decide) ?_
  refine lv_lload_n hx hb d_Lim_product_286 rfl (lv_at hl 19 rfl) ?_
  refine lv_lload hx hb d_Lim_product_287 (lv_at hl 2 rfl) ?_
  refine lv_lmul hx hb d_Lim_product_289 ?_
  refine lv_lload hx hb d_Lim_product_290 (lv_at hl 18 rfl) ?_
  refine lv_lload hx hb d_Lim_product_292 (lv_at hl 3 rfl) ?_
  refine lv_lmul hx hb d_Lim_product_294 ?_
  refine lv_ladd hx hb d_Lim_product_295 ?_
  refine lv_lload hx hb d_Lim_product_296 (lv_at hl 17 rfl) ?_
  refine lv_lload hx hb d_Lim_product_298 (lv_at hl 4 rfl) ?_
  refine lv_lmul hx hb d_Lim_product_300 ?_
  refine lv_ladd hx hb d_Lim_product_301 ?_
  refine lv_lload hx hb d_Lim_product_302 (lv_at hl 16 rfl) ?_
  refine lv_lload hx hb d_Lim_product_304 (lv_at hl 5 rfl) ?_
  refine lv_lmul hx hb d_Lim_product_306 ?_
  refine lv_ladd hx hb d_Lim_product_307 ?_
  refine lv_lload hx hb d_Lim_product_308 (lv_at hl 15 rfl) ?_
  refine lv_lload hx hb d_Lim_product_310 (lv_at hl 6 rfl) ?_
  refine lv_lmul hx hb d_Lim_product_312 ?_
  refine lv_ladd hx hb d_Lim_product_313 ?_
  refine lv_lload hx hb d_Lim_product_314 (lv_at hl 14 rfl) ?_
  refine lv_lload hx hb d_Lim_product_316 (lv_at hl 7 rfl) ?_
  refine lv_lmul hx hb d_Lim_product_318 ?_
  refine lv_ladd hx hb d_Lim_product_319 ?_
  refine lv_lload hx hb d_Lim_product_320 (lv_at hl 13 rfl) ?_
  refine lv_lload hx hb d_Lim_product_322 (lv_at hl 8 rfl) ?_
  refine lv_lmul hx hb d_Lim_product_324 ?_
  refine lv_ladd hx hb d_Lim_product_325 ?_
  refine lv_lload hx hb d_Lim_product_326 (lv_at hl 12 rfl) ?_
  refine lv_lload hx hb d_Lim_product_328 (lv_at hl 9 rfl) ?_
  refine lv_lmul hx hb d_Lim_product_330 ?_
  refine lv_ladd hx hb d_Lim_product_331 ?_
  refine gm_last hx hb X (k := 7) (gm_up_s _ _ _) hA (by decide) ⟨by decide, by decide⟩ d_Lim_product_332 (fun H locs X => ?_)
  rw [gm_up_up] at X
  have X : gx E (gm_up M to (LA E 20 (mx 8 (prF ga gb) g))) s H locs := by rw [← mx_sL 7 (prF ga gb) g]; exact X
  refine lv_aload_n hx hb d_Lim_product_333 rfl (lv_at hl 20 rfl) ?_
  refine lv_bipush (v := 8) hx hb d_Lim_product_334 (by decide) ?_
  refine lv_lload_n hx hb d_Lim_product_336 rfl (lv_at hl 19 rfl) ?_
  refine lv_lload hx hb d_Lim_product_337 (lv_at hl 1 rfl) ?_
  refine lv_lmul hx hb d_Lim_product_339 ?_
  refine lv_lload hx hb d_Lim_product_340 (lv_at hl 18 rfl) ?_
  refine lv_lload hx hb d_Lim_product_342 (lv_at hl 2 rfl) ?_
  refine lv_lmul hx hb d_Lim_product_344 ?_
  refine lv_ladd hx hb d_Lim_product_345 ?_
  refine lv_lload hx hb d_Lim_product_346 (lv_at hl 17 rfl) ?_
  refine lv_lload hx hb d_Lim_product_348 (lv_at hl 3 rfl) ?_
  refine lv_lmul hx hb d_Lim_product_350 ?_
  refine lv_ladd hx hb d_Lim_product_351 ?_
  refine lv_lload hx hb d_Lim_product_352 (lv_at hl 16 rfl) ?_
  refine lv_lload hx hb d_Lim_product_354 (lv_at hl 4 rfl) ?_
  refine lv_lmul hx hb d_Lim_product_356 ?_
  refine lv_ladd hx hb d_Lim_product_357 ?_
  refine lv_lload hx hb d_Lim_product_358 (lv_at hl 15 rfl) ?_
  refine lv_lload hx hb d_Lim_product_360 (lv_at hl 5 rfl) ?_
  refine lv_lmul hx hb d_Lim_product_362 ?_
  refine lv_ladd hx hb d_Lim_product_363 ?_
  refine lv_lload hx hb d_Lim_product_364 (lv_at hl 14 rfl) ?_
  refine lv_lload hx hb d_Lim_product_366 (lv_at hl 6 rfl) ?_
  refine lv_lmul hx hb d_Lim_product_368 ?_
  refine lv_ladd hx hb d_Lim_product_369 ?_
  refine lv_lload hx hb d_Lim_product_370 (lv_at hl 13 rfl) ?_
  refine lv_lload hx hb d_Lim_product_372 (lv_at hl 7 rfl) ?_
  refine lv_lmul hx hb d_Lim_product_374 ?_
  refine lv_ladd hx hb d_Lim_product_375 ?_
  refine lv_lload hx hb d_Lim_product_376 (lv_at hl 12 rfl) ?_
  refine lv_lload hx hb d_Lim_product_378 (lv_at hl 8 rfl) ?_
  refine lv_lmul hx hb d_Lim_product_380 ?_
  refine lv_ladd hx hb d_Lim_product_381 ?_
  refine lv_lload hx hb d_Lim_product_382 (lv_at hl 11 rfl) ?_
  refine lv_lload hx hb d_Lim_product_384 (lv_at hl 9 rfl) ?_
  refine lv_lmul hx hb d_Lim_product_386 ?_
  refine lv_ladd hx hb d_Lim_product_387 ?_
  refine gm_last hx hb X (k := 8) (gm_up_s _ _ _) hA (by decide) ⟨by decide, by decide⟩ d_Lim_product_388 (fun H locs X => ?_)
  rw [gm_up_up] at X
  have X : gx E (gm_up M to (LA E 20 (mx 9 (prF ga gb) g))) s H locs := by rw [← mx_sL 8 (prF ga gb) g]; exact X
  refine lv_aload_n hx hb d_Lim_product_389 rfl (lv_at hl 20 rfl) ?_
  refine lv_bipush (v := 9) hx hb d_Lim_product_390 (by decide) ?_
  refine lv_lload_n hx hb d_Lim_product_392 rfl (lv_at hl 19 rfl) ?_
  refine lv_lload hx hb d_Lim_product_393 (lv_at hl 0 rfl) ?_
  refine lv_lmul hx hb d_Lim_product_395 ?_
  refine lv_lload hx hb d_Lim_product_396 (lv_at hl 18 rfl) ?_
  refine lv_lload hx hb d_Lim_product_398 (lv_at hl 1 rfl) ?_
  refine lv_lmul hx hb d_Lim_product_400 ?_
  refine lv_ladd hx hb d_Lim_product_401 ?_
  refine lv_lload hx hb d_Lim_product_402 (lv_at hl 17 rfl) ?_
  refine lv_lload hx hb d_Lim_product_404 (lv_at hl 2 rfl) ?_
  refine lv_lmul hx hb d_Lim_product_406 ?_
  refine lv_ladd hx hb d_Lim_product_407 ?_
  refine lv_lload hx hb d_Lim_product_408 (lv_at hl 16 rfl) ?_
  refine lv_lload hx hb d_Lim_product_410 (lv_at hl 3 rfl) ?_
  refine lv_lmul hx hb d_Lim_product_412 ?_
  refine lv_ladd hx hb d_Lim_product_413 ?_
  refine lv_lload hx hb d_Lim_product_414 (lv_at hl 15 rfl) ?_
  refine lv_lload hx hb d_Lim_product_416 (lv_at hl 4 rfl) ?_
  refine lv_lmul hx hb d_Lim_product_418 ?_
  refine lv_ladd hx hb d_Lim_product_419 ?_
  refine lv_lload hx hb d_Lim_product_420 (lv_at hl 14 rfl) ?_
  refine lv_lload hx hb d_Lim_product_422 (lv_at hl 5 rfl) ?_
  refine lv_lmul hx hb d_Lim_product_424 ?_
  refine lv_ladd hx hb d_Lim_product_425 ?_
  refine lv_lload hx hb d_Lim_product_426 (lv_at hl 13 rfl) ?_
  refine lv_lload hx hb d_Lim_product_428 (lv_at hl 6 rfl) ?_
  refine lv_lmul hx hb d_Lim_product_430 ?_
  refine lv_ladd hx hb d_Lim_product_431 ?_
  refine lv_lload hx hb d_Lim_product_432 (lv_at hl 12 rfl) ?_
  refine lv_lload hx hb d_Lim_product_434 (lv_at hl 7 rfl) ?_
  refine lv_lmul hx hb d_Lim_product_436 ?_
  refine lv_ladd hx hb d_Lim_product_437 ?_
  refine lv_lload hx hb d_Lim_product_438 (lv_at hl 11 rfl) ?_
  refine lv_lload hx hb d_Lim_product_440 (lv_at hl 8 rfl) ?_
  refine lv_lmul hx hb d_Lim_product_442 ?_
  refine lv_ladd hx hb d_Lim_product_443 ?_
  refine lv_lload hx hb d_Lim_product_444 (lv_at hl 10 rfl) ?_
  refine lv_lload hx hb d_Lim_product_446 (lv_at hl 9 rfl) ?_
  refine lv_lmul hx hb d_Lim_product_448 ?_
  refine lv_ladd hx hb d_Lim_product_449 ?_
  refine gm_last hx hb X (k := 9) (gm_up_s _ _ _) hA (by decide) ⟨by decide, by decide⟩ d_Lim_product_450 (fun H locs X => ?_)
  rw [gm_up_up] at X
  have X : gx E (gm_up M to (LA E 20 (mx 10 (prF ga gb) g))) s H locs := by rw [← mx_sL 9 (prF ga gb) g]; exact X
  refine lv_aload_n hx hb d_Lim_product_451 rfl (lv_at hl 20 rfl) ?_
  refine lv_bipush (v := 10) hx hb d_Lim_product_452 (by decide) ?_
  refine lv_lload hx hb d_Lim_product_454 (lv_at hl 18 rfl) ?_
  refine lv_lload hx hb d_Lim_product_456 (lv_at hl 0 rfl) ?_
  refine lv_lmul hx hb d_Lim_product_458 ?_
  refine lv_lload hx hb d_Lim_product_459 (lv_at hl 17 rfl) ?_
  refine lv_lload hx hb d_Lim_product_461 (lv_at hl 1 rfl) ?_
  refine lv_lmul hx hb d_Lim_product_463 ?_
  refine lv_ladd hx hb d_Lim_product_464 ?_
  refine lv_lload hx hb d_Lim_product_465 (lv_at hl 16 rfl) ?_
  refine lv_lload hx hb d_Lim_product_467 (lv_at hl 2 rfl) ?_
  refine lv_lmul hx hb d_Lim_product_469 ?_
  refine lv_ladd hx hb d_Lim_product_470 ?_
  refine lv_lload hx hb d_Lim_product_471 (lv_at hl 15 rfl) ?_
  refine lv_lload hx hb d_Lim_product_473 (lv_at hl 3 rfl) ?_
  refine lv_lmul hx hb d_Lim_product_475 ?_
  refine lv_ladd hx hb d_Lim_product_476 ?_
  refine lv_lload hx hb d_Lim_product_477 (lv_at hl 14 rfl) ?_
  refine lv_lload hx hb d_Lim_product_479 (lv_at hl 4 rfl) ?_
  refine lv_lmul hx hb d_Lim_product_481 ?_
  refine lv_ladd hx hb d_Lim_product_482 ?_
  refine lv_lload hx hb d_Lim_product_483 (lv_at hl 13 rfl) ?_
  refine lv_lload hx hb d_Lim_product_485 (lv_at hl 5 rfl) ?_
  refine lv_lmul hx hb d_Lim_product_487 ?_
  refine lv_ladd hx hb d_Lim_product_488 ?_
  refine lv_lload hx hb d_Lim_product_489 (lv_at hl 12 rfl) ?_
  refine lv_lload hx hb d_Lim_product_491 (lv_at hl 6 rfl) ?_
  refine lv_lmul hx hb d_Lim_product_493 ?_
  refine lv_ladd hx hb d_Lim_product_494 ?_
  refine lv_lload hx hb d_Lim_product_495 (lv_at hl 11 rfl) ?_
  refine lv_lload hx hb d_Lim_product_497 (lv_at hl 7 rfl) ?_
  refine lv_lmul hx hb d_Lim_product_499 ?_
  refine lv_ladd hx hb d_Lim_product_500 ?_
  refine lv_lload hx hb d_Lim_product_501 (lv_at hl 10 rfl) ?_
  refine lv_lload hx hb d_Lim_product_503 (lv_at hl 8 rfl) ?_
  refine lv_lmul hx hb d_Lim_product_505 ?_
  refine lv_ladd hx hb d_Lim_product_506 ?_
  refine gm_last hx hb X (k := 10) (gm_up_s _ _ _) hA (by decide) ⟨by decide, by decide⟩ d_Lim_product_507 (fun H locs X => ?_)
  rw [gm_up_up] at X
  have X : gx E (gm_up M to (LA E 20 (mx 11 (prF ga gb) g))) s H locs := by rw [← mx_sL 10 (prF ga gb) g]; exact X
  refine lv_aload_n hx hb d_Lim_product_508 rfl (lv_at hl 20 rfl) ?_
  refine lv_bipush (v := 11) hx hb d_Lim_product_509 (by decide) ?_
  refine lv_lload hx hb d_Lim_product_511 (lv_at hl 17 rfl) ?_
  refine lv_lload hx hb d_Lim_product_513 (lv_at hl 0 rfl) ?_
  refine lv_lmul hx hb d_Lim_product_515 ?_
  refine lv_lload hx hb d_Lim_product_516 (lv_at hl 16 rfl) ?_
  refine lv_lload hx hb d_Lim_product_518 (lv_at hl 1 rfl) ?_
  refine lv_lmul hx hb d_Lim_product_520 ?_
  refine lv_ladd hx hb d_Lim_product_521 ?_
  refine lv_lload hx hb d_Lim_product_522 (lv_at hl 15 rfl) ?_
  refine lv_lload hx hb d_Lim_product_524 (lv_at hl 2 rfl) ?_
  refine lv_lmul hx hb d_Lim_product_526 ?_
  refine lv_ladd hx hb d_Lim_product_527 ?_
  refine lv_lload hx hb d_Lim_product_528 (lv_at hl 14 rfl) ?_
  refine lv_lload hx hb d_Lim_product_530 (lv_at hl 3 rfl) ?_
  refine lv_lmul hx hb d_Lim_product_532 ?_
  refine lv_ladd hx hb d_Lim_product_533 ?_
  refine lv_lload hx hb d_Lim_product_534 (lv_at hl 13 rfl) ?_
  refine lv_lload hx hb d_Lim_product_536 (lv_at hl 4 rfl) ?_
  refine lv_lmul hx hb d_Lim_product_538 ?_
  refine lv_ladd hx hb d_Lim_product_539 ?_
  refine lv_lload hx hb d_Lim_product_540 (lv_at hl 12 rfl) ?_
  refine lv_lload hx hb d_Lim_product_542 (lv_at hl 5 rfl) ?_
  refine lv_lmul hx hb d_Lim_product_544 ?_
  refine lv_ladd hx hb d_Lim_product_545 ?_
  refine lv_lload hx hb d_Lim_product_546 (lv_at hl 11 rfl) ?_
  refine lv_lload hx hb d_Lim_product_548 (lv_at hl 6 rfl) ?_
  refine lv_lmul hx hb d_Lim_product_550 ?_
  refine lv_ladd hx hb d_Lim_product_551 ?_
  refine lv_lload hx hb d_Lim_product_552 (lv_at hl 10 rfl) ?_
  refine lv_lload hx hb d_Lim_product_554 (lv_at hl 7 rfl) ?_
  refine lv_lmul hx hb d_Lim_product_556 ?_
  refine lv_ladd hx hb d_Lim_product_557 ?_
  refine gm_last hx hb X (k := 11) (gm_up_s _ _ _) hA (by decide) ⟨by decide, by decide⟩ d_Lim_product_558 (fun H locs X => ?_)
  rw [gm_up_up] at X
  have X : gx E (gm_up M to (LA E 20 (mx 12 (prF ga gb) g))) s H locs := by rw [← mx_sL 11 (prF ga gb) g]; exact X
  refine lv_aload_n hx hb d_Lim_product_559 rfl (lv_at hl 20 rfl) ?_
  refine lv_bipush (v := 12) hx hb d_Lim_product_560 (by decide) ?_
  refine lv_lload hx hb d_Lim_product_562 (lv_at hl 16 rfl) ?_
  refine lv_lload hx hb d_Lim_product_564 (lv_at hl 0 rfl) ?_
  refine lv_lmul hx hb d_Lim_product_566 ?_
  refine lv_lload hx hb d_Lim_product_567 (lv_at hl 15 rfl) ?_
  refine lv_lload hx hb d_Lim_product_569 (lv_at hl 1 rfl) ?_
  refine lv_lmul hx hb d_Lim_product_571 ?_
  refine lv_ladd hx hb d_Lim_product_572 ?_
  refine lv_lload hx hb d_Lim_product_573 (lv_at hl 14 rfl) ?_
  refine lv_lload hx hb d_Lim_product_575 (lv_at hl 2 rfl) ?_
  refine lv_lmul hx hb d_Lim_product_577 ?_
  refine lv_ladd hx hb d_Lim_product_578 ?_
  refine lv_lload hx hb d_Lim_product_579 (lv_at hl 13 rfl) ?_
  refine lv_lload hx hb d_Lim_product_581 (lv_at hl 3 rfl) ?_
  refine lv_lmul hx hb d_Lim_product_583 ?_
  refine lv_ladd hx hb d_Lim_product_584 ?_
  refine lv_lload hx hb d_Lim_product_585 (lv_at hl 12 rfl) ?_
  refine lv_lload hx hb d_Lim_product_587 (lv_at hl 4 rfl) ?_
  refine lv_lmul hx hb d_Lim_product_589 ?_
  refine lv_ladd hx hb d_Lim_product_590 ?_
  refine lv_lload hx hb d_Lim_product_591 (lv_at hl 11 rfl) ?_
  refine lv_lload hx hb d_Lim_product_593 (lv_at hl 5 rfl) ?_
  refine lv_lmul hx hb d_Lim_product_595 ?_
  refine lv_ladd hx hb d_Lim_product_596 ?_
  refine lv_lload hx hb d_Lim_product_597 (lv_at hl 10 rfl) ?_
  refine lv_lload hx hb d_Lim_product_599 (lv_at hl 6 rfl) ?_
  refine lv_lmul hx hb d_Lim_product_601 ?_
  refine lv_ladd hx hb d_Lim_product_602 ?_
  refine gm_last hx hb X (k := 12) (gm_up_s _ _ _) hA (by decide) ⟨by decide, by decide⟩ d_Lim_product_603 (fun H locs X => ?_)
  rw [gm_up_up] at X
  have X : gx E (gm_up M to (LA E 20 (mx 13 (prF ga gb) g))) s H locs := by rw [← mx_sL 12 (prF ga gb) g]; exact X
  refine lv_aload_n hx hb d_Lim_product_604 rfl (lv_at hl 20 rfl) ?_
  refine lv_bipush (v := 13) hx hb d_Lim_product_605 (by decide) ?_
  refine lv_lload hx hb d_Lim_product_607 (lv_at hl 15 rfl) ?_
  refine lv_lload hx hb d_Lim_product_609 (lv_at hl 0 rfl) ?_
  refine lv_lmul hx hb d_Lim_product_611 ?_
  refine lv_lload hx hb d_Lim_product_612 (lv_at hl 14 rfl) ?_
  refine lv_lload hx hb d_Lim_product_614 (lv_at hl 1 rfl) ?_
  refine lv_lmul hx hb d_Lim_product_616 ?_
  refine lv_ladd hx hb d_Lim_product_617 ?_
  refine lv_lload hx hb d_Lim_product_618 (lv_at hl 13 rfl) ?_
  refine lv_lload hx hb d_Lim_product_620 (lv_at hl 2 rfl) ?_
  refine lv_lmul hx hb d_Lim_product_622 ?_
  refine lv_ladd hx hb d_Lim_product_623 ?_
  refine lv_lload hx hb d_Lim_product_624 (lv_at hl 12 rfl) ?_
  refine lv_lload hx hb d_Lim_product_626 (lv_at hl 3 rfl) ?_
  refine lv_lmul hx hb d_Lim_product_628 ?_
  refine lv_ladd hx hb d_Lim_product_629 ?_
  refine lv_lload hx hb d_Lim_product_630 (lv_at hl 11 rfl) ?_
  refine lv_lload hx hb d_Lim_product_632 (lv_at hl 4 rfl) ?_
  refine lv_lmul hx hb d_Lim_product_634 ?_
  refine lv_ladd hx hb d_Lim_product_635 ?_
  refine lv_lload hx hb d_Lim_product_636 (lv_at hl 10 rfl) ?_
  refine lv_lload hx hb d_Lim_product_638 (lv_at hl 5 rfl) ?_
  refine lv_lmul hx hb d_Lim_product_640 ?_
  refine lv_ladd hx hb d_Lim_product_641 ?_
  refine gm_last hx hb X (k := 13) (gm_up_s _ _ _) hA (by decide) ⟨by decide, by decide⟩ d_Lim_product_642 (fun H locs X => ?_)
  rw [gm_up_up] at X
  have X : gx E (gm_up M to (LA E 20 (mx 14 (prF ga gb) g))) s H locs := by rw [← mx_sL 13 (prF ga gb) g]; exact X
  refine lv_aload_n hx hb d_Lim_product_643 rfl (lv_at hl 20 rfl) ?_
  refine lv_bipush (v := 14) hx hb d_Lim_product_644 (by decide) ?_
  refine lv_lload hx hb d_Lim_product_646 (lv_at hl 14 rfl) ?_
  refine lv_lload hx hb d_Lim_product_648 (lv_at hl 0 rfl) ?_
  refine lv_lmul hx hb d_Lim_product_650 ?_
  refine lv_lload hx hb d_Lim_product_651 (lv_at hl 13 rfl) ?_
  refine lv_lload hx hb d_Lim_product_653 (lv_at hl 1 rfl) ?_
  refine lv_lmul hx hb d_Lim_product_655 ?_
  refine lv_ladd hx hb d_Lim_product_656 ?_
  refine lv_lload hx hb d_Lim_product_657 (lv_at hl 12 rfl) ?_
  refine lv_lload hx hb d_Lim_product_659 (lv_at hl 2 rfl) ?_
  refine lv_lmul hx hb d_Lim_product_661 ?_
  refine lv_ladd hx hb d_Lim_product_662 ?_
  refine lv_lload hx hb d_Lim_product_663 (lv_at hl 11 rfl) ?_
  refine lv_lload hx hb d_Lim_product_665 (lv_at hl 3 rfl) ?_
  refine lv_lmul hx hb d_Lim_product_667 ?_
  refine lv_ladd hx hb d_Lim_product_668 ?_
  refine lv_lload hx hb d_Lim_product_669 (lv_at hl 10 rfl) ?_
  refine lv_lload hx hb d_Lim_product_671 (lv_at hl 4 rfl) ?_
  refine lv_lmul hx hb d_Lim_product_673 ?_
  refine lv_ladd hx hb d_Lim_product_674 ?_
  refine gm_last hx hb X (k := 14) (gm_up_s _ _ _) hA (by decide) ⟨by decide, by decide⟩ d_Lim_product_675 (fun H locs X => ?_)
  rw [gm_up_up] at X
  have X : gx E (gm_up M to (LA E 20 (mx 15 (prF ga gb) g))) s H locs := by rw [← mx_sL 14 (prF ga gb) g]; exact X
  refine lv_aload_n hx hb d_Lim_product_676 rfl (lv_at hl 20 rfl) ?_
  refine lv_bipush (v := 15) hx hb d_Lim_product_677 (by decide) ?_
  refine lv_lload hx hb d_Lim_product_679 (lv_at hl 13 rfl) ?_
  refine lv_lload hx hb d_Lim_product_681 (lv_at hl 0 rfl) ?_
  refine lv_lmul hx hb d_Lim_product_683 ?_
  refine lv_lload hx hb d_Lim_product_684 (lv_at hl 12 rfl) ?_
  refine lv_lload hx hb d_Lim_product_686 (lv_at hl 1 rfl) ?_
  refine lv_lmul hx hb d_Lim_product_688 ?_
  refine lv_ladd hx hb d_Lim_product_689 ?_
  refine lv_lload hx hb d_Lim_product_690 (lv_at hl 11 rfl) ?_
  refine lv_lload hx hb d_Lim_product_692 (lv_at hl 2 rfl) ?_
  refine lv_lmul hx hb d_Lim_product_694 ?_
  refine lv_ladd hx hb d_Lim_product_695 ?_
  refine lv_lload hx hb d_Lim_product_696 (lv_at hl 10 rfl) ?_
  refine lv_lload hx hb d_Lim_product_698 (lv_at hl 3 rfl) ?_
  refine lv_lmul hx hb d_Lim_product_700 ?_
  refine lv_ladd hx hb d_Lim_product_701 ?_
  refine gm_last hx hb X (k := 15) (gm_up_s _ _ _) hA (by decide) ⟨by decide, by decide⟩ d_Lim_product_702 (fun H locs X => ?_)
  rw [gm_up_up] at X
  have X : gx E (gm_up M to (LA E 20 (mx 16 (prF ga gb) g))) s H locs := by rw [← mx_sL 15 (prF ga gb) g]; exact X
  refine lv_aload_n hx hb d_Lim_product_703 rfl (lv_at hl 20 rfl) ?_
  refine lv_bipush (v := 16) hx hb d_Lim_product_704 (by decide) ?_
  refine lv_lload hx hb d_Lim_product_706 (lv_at hl 12 rfl) ?_
  refine lv_lload hx hb d_Lim_product_708 (lv_at hl 0 rfl) ?_
  refine lv_lmul hx hb d_Lim_product_710 ?_
  refine lv_lload hx hb d_Lim_product_711 (lv_at hl 11 rfl) ?_
  refine lv_lload hx hb d_Lim_product_713 (lv_at hl 1 rfl) ?_
  refine lv_lmul hx hb d_Lim_product_715 ?_
  refine lv_ladd hx hb d_Lim_product_716 ?_
  refine lv_lload hx hb d_Lim_product_717 (lv_at hl 10 rfl) ?_
  refine lv_lload hx hb d_Lim_product_719 (lv_at hl 2 rfl) ?_
  refine lv_lmul hx hb d_Lim_product_721 ?_
  refine lv_ladd hx hb d_Lim_product_722 ?_
  refine gm_last hx hb X (k := 16) (gm_up_s _ _ _) hA (by decide) ⟨by decide, by decide⟩ d_Lim_product_723 (fun H locs X => ?_)
  rw [gm_up_up] at X
  have X : gx E (gm_up M to (LA E 20 (mx 17 (prF ga gb) g))) s H locs := by rw [← mx_sL 16 (prF ga gb) g]; exact X
  refine lv_aload_n hx hb d_Lim_product_724 rfl (lv_at hl 20 rfl) ?_
  refine lv_bipush (v := 17) hx hb d_Lim_product_725 (by decide) ?_
  refine lv_lload hx hb d_Lim_product_727 (lv_at hl 11 rfl) ?_
  refine lv_lload hx hb d_Lim_product_729 (lv_at hl 0 rfl) ?_
  refine lv_lmul hx hb d_Lim_product_731 ?_
  refine lv_lload hx hb d_Lim_product_732 (lv_at hl 10 rfl) ?_
  refine lv_lload hx hb d_Lim_product_734 (lv_at hl 1 rfl) ?_
  refine lv_lmul hx hb d_Lim_product_736 ?_
  refine lv_ladd hx hb d_Lim_product_737 ?_
  refine gm_last hx hb X (k := 17) (gm_up_s _ _ _) hA (by decide) ⟨by decide, by decide⟩ d_Lim_product_738 (fun H locs X => ?_)
  rw [gm_up_up] at X
  have X : gx E (gm_up M to (LA E 20 (mx 18 (prF ga gb) g))) s H locs := by rw [← mx_sL 17 (prF ga gb) g]; exact X
  refine lv_aload_n hx hb d_Lim_product_739 rfl (lv_at hl 20 rfl) ?_
  refine lv_bipush (v := 18) hx hb d_Lim_product_740 (by decide) ?_
  refine lv_lload hx hb d_Lim_product_742 (lv_at hl 10 rfl) ?_
  refine lv_lload hx hb d_Lim_product_744 (lv_at hl 0 rfl) ?_
  refine lv_lmul hx hb d_Lim_product_746 ?_
  refine gm_last hx hb X (k := 18) (gm_up_s _ _ _) hA (by decide) ⟨by decide, by decide⟩ d_Lim_product_747 (fun H locs X => ?_)
  rw [gm_up_up] at X
  have X : gx E (gm_up M to (LA E 20 (mx 19 (prF ga gb) g))) s H locs := by rw [← mx_sL 18 (prF ga gb) g]; exact X
  refine lv_aload_n hx hb d_Lim_product_748 rfl (lv_at hl 20 rfl) ?_
  refine lv_bipush (v := 19) hx hb d_Lim_product_749 (by decide) ?_
  refine lv_lconst (v := 0) hx hb d_Lim_product_751 (by decide) ?_
  refine gm_last hx hb X (k := 19) (gm_up_s _ _ _) hA (by decide) ⟨by decide, by decide⟩ d_Lim_product_752 (fun H locs X => ?_)
  rw [gm_up_up] at X
  have X : gx E (gm_up M to (LA E 20 (mx 20 (prF ga gb) g))) s H locs := by rw [← mx_sL 19 (prF ga gb) g]; exact X
  exact gm_vret hx hb hr hlk ⟨X.1, gm_LA X.2.1 (fun j hj => by rw [mx_lt _ _ (by omega)]), X.2.2⟩ rfl d_Lim_product_753
