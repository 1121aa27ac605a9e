/-! decode rows: written by wip/gen/names.py -/
theorem d_Pnt_init_0 : decode b_Pnt_init 0 = .ok (.aload_n 0, 1) := by decide +kernel
theorem d_Pnt_init_1 : decode b_Pnt_init 1 = .ok (.invokespecial 3, 3) := by decide +kernel
theorem d_Pnt_init_4 : decode b_Pnt_init 4 = .ok (.aload_n 0, 1) := by decide +kernel
theorem d_Pnt_init_5 : decode b_Pnt_init 5 = .ok (.bipush 10, 2) := by decide +kernel
theorem d_Pnt_init_7 : decode b_Pnt_init 7 = .ok (.newarray .long, 2) := by decide +kernel
theorem d_Pnt_init_9 : decode b_Pnt_init 9 = .ok (.putfield 9, 3) := by decide +kernel
theorem d_Pnt_init_12 : decode b_Pnt_init 12 = .ok (.aload_n 0, 1) := by decide +kernel
theorem d_Pnt_init_13 : decode b_Pnt_init 13 = .ok (.bipush 10, 2) := by decide +kernel
theorem d_Pnt_init_15 : decode b_Pnt_init 15 = .ok (.newarray .long, 2) := by decide +kernel
theorem d_Pnt_init_17 : decode b_Pnt_init 17 = .ok (.putfield 15, 3) := by decide +kernel
theorem d_Pnt_init_20 : decode b_Pnt_init 20 = .ok (.aload_n 0, 1) := by decide +kernel
theorem d_Pnt_init_21 : decode b_Pnt_init 21 = .ok (.iconst 1, 1) := by decide +kernel
theorem d_Pnt_init_22 : decode b_Pnt_init 22 = .ok (.putfield 18, 3) := by decide +kernel
theorem d_Pnt_init_25 : decode b_Pnt_init 25 = .ok (.return_, 1) := by decide +kernel
theorem d_Pnt_copyFrom_0 : decode b_Pnt_copyFrom 0 = .ok (.aload_n 0, 1) := by decide +kernel
theorem d_Pnt_copyFrom_1 : decode b_Pnt_copyFrom 1 = .ok (.getfield 9, 3) := by decide +kernel
theorem d_Pnt_copyFrom_4 : decode b_Pnt_copyFrom 4 = .ok (.aload_n 1, 1) := by decide +kernel
theorem d_Pnt_copyFrom_5 : decode b_Pnt_copyFrom 5 = .ok (.getfield 9, 3) := by decide +kernel
theorem d_Pnt_copyFrom_8 : decode b_Pnt_copyFrom 8 = .ok (.invokestatic 22, 3) := by decide +kernel
theorem d_Pnt_copyFrom_11 : decode b_Pnt_copyFrom 11 = .ok (.aload_n 0, 1) := by decide +kernel
theorem d_Pnt_copyFrom_12 : decode b_Pnt_copyFrom 12 = .ok (.getfield 15, 3) := by decide +kernel
theorem d_Pnt_copyFrom_15 : decode b_Pnt_copyFrom 15 = .ok (.aload_n 1, 1) := by decide +kernel
theorem d_Pnt_copyFrom_16 : decode b_Pnt_copyFrom 16 = .ok (.getfield 15, 3) := by decide +kernel
theorem d_Pnt_copyFrom_19 : decode b_Pnt_copyFrom 19 = .ok (.invokestatic 22, 3) := by decide +kernel
theorem d_Pnt_copyFrom_22 : decode b_Pnt_copyFrom 22 = .ok (.aload_n 0, 1) := by decide +kernel
theorem d_Pnt_copyFrom_23 : decode b_Pnt_copyFrom 23 = .ok (.aload_n 1, 1) := by decide +kernel
theorem d_Pnt_copyFrom_24 : decode b_Pnt_copyFrom 24 = .ok (.getfield 18, 3) := by decide +kernel
theorem d_Pnt_copyFrom_27 : decode b_Pnt_copyFrom 27 = .ok (.putfield 18, 3) := by decide +kernel
theorem d_Pnt_copyFrom_30 : decode b_Pnt_copyFrom 30 = .ok (.return_, 1) := by decide +kernel
theorem d_Pnt_matches_0 : decode b_Pnt_matches 0 = .ok (.aload_n 0, 1) := by decide +kernel
theorem d_Pnt_matches_1 : decode b_Pnt_matches 1 = .ok (.getfield 18, 3) := by decide +kernel
theorem d_Pnt_matches_4 : decode b_Pnt_matches 4 = .ok (.ifCond .ne 10, 3) := by decide +kernel
theorem d_Pnt_matches_7 : decode b_Pnt_matches 7 = .ok (.aload_n 1, 1) := by decide +kernel
theorem d_Pnt_matches_8 : decode b_Pnt_matches 8 = .ok (.getfield 18, 3) := by decide +kernel
theorem d_Pnt_matches_11 : decode b_Pnt_matches 11 = .ok (.ifCond .eq 23, 3) := by decide +kernel
theorem d_Pnt_matches_14 : decode b_Pnt_matches 14 = .ok (.aload_n 0, 1) := by decide +kernel
theorem d_Pnt_matches_15 : decode b_Pnt_matches 15 = .ok (.getfield 18, 3) := by decide +kernel
theorem d_Pnt_matches_18 : decode b_Pnt_matches 18 = .ok (.ifCond .eq 14, 3) := by decide +kernel
theorem d_Pnt_matches_21 : decode b_Pnt_matches 21 = .ok (.aload_n 1, 1) := by decide +kernel
theorem d_Pnt_matches_22 : decode b_Pnt_matches 22 = .ok (.getfield 18, 3) := by decide +kernel
theorem d_Pnt_matches_25 : decode b_Pnt_matches 25 = .ok (.ifCond .eq 7, 3) := by decide +kernel
theorem d_Pnt_matches_28 : decode b_Pnt_matches 28 = .ok (.iconst 1, 1) := by decide +kernel
theorem d_Pnt_matches_29 : decode b_Pnt_matches 29 = .ok (.goto 4, 3) := by decide +kernel
theorem d_Pnt_matches_32 : decode b_Pnt_matches 32 = .ok (.iconst 0, 1) := by decide +kernel
theorem d_Pnt_matches_33 : decode b_Pnt_matches 33 = .ok (.ireturn, 1) := by decide +kernel
theorem d_Pnt_matches_34 : decode b_Pnt_matches 34 = .ok (.aload_n 0, 1) := by decide +kernel
theorem d_Pnt_matches_35 : decode b_Pnt_matches 35 = .ok (.getfield 9, 3) := by decide +kernel
theorem d_Pnt_matches_38 : decode b_Pnt_matches 38 = .ok (.aload_n 1, 1) := by decide +kernel
theorem d_Pnt_matches_39 : decode b_Pnt_matches 39 = .ok (.getfield 9, 3) := by decide +kernel
theorem d_Pnt_matches_42 : decode b_Pnt_matches 42 = .ok (.invokestatic 28, 3) := by decide +kernel
theorem d_Pnt_matches_45 : decode b_Pnt_matches 45 = .ok (.ifCond .eq 21, 3) := by decide +kernel
theorem d_Pnt_matches_48 : decode b_Pnt_matches 48 = .ok (.aload_n 0, 1) := by decide +kernel
theorem d_Pnt_matches_49 : decode b_Pnt_matches 49 = .ok (.getfield 15, 3) := by decide +kernel
theorem d_Pnt_matches_52 : decode b_Pnt_matches 52 = .ok (.aload_n 1, 1) := by decide +kernel
theorem d_Pnt_matches_53 : decode b_Pnt_matches 53 = .ok (.getfield 15, 3) := by decide +kernel
theorem d_Pnt_matches_56 : decode b_Pnt_matches 56 = .ok (.invokestatic 28, 3) := by decide +kernel
theorem d_Pnt_matches_59 : decode b_Pnt_matches 59 = .ok (.ifCond .eq 7, 3) := by decide +kernel
theorem d_Pnt_matches_62 : decode b_Pnt_matches 62 = .ok (.iconst 1, 1) := by decide +kernel
theorem d_Pnt_matches_63 : decode b_Pnt_matches 63 = .ok (.goto 4, 3) := by decide +kernel
theorem d_Pnt_matches_66 : decode b_Pnt_matches 66 = .ok (.iconst 0, 1) := by decide +kernel
theorem d_Pnt_matches_67 : decode b_Pnt_matches 67 = .ok (.ireturn, 1) := by decide +kernel
