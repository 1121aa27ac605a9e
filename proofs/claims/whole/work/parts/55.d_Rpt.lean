/-! decode rows: written by wip/gen/names.py -/
theorem d_Rpt_init_0 : decode b_Rpt_init 0 = .ok (.aload_n 0, 1) := by decide +kernel
theorem d_Rpt_init_1 : decode b_Rpt_init 1 = .ok (.invokespecial 1, 3) := by decide +kernel
theorem d_Rpt_init_4 : decode b_Rpt_init 4 = .ok (.aload_n 0, 1) := by decide +kernel
theorem d_Rpt_init_5 : decode b_Rpt_init 5 = .ok (.bipush 8, 2) := by decide +kernel
theorem d_Rpt_init_7 : decode b_Rpt_init 7 = .ok (.newarray .int, 2) := by decide +kernel
theorem d_Rpt_init_9 : decode b_Rpt_init 9 = .ok (.putfield 7, 3) := by decide +kernel
theorem d_Rpt_init_12 : decode b_Rpt_init 12 = .ok (.aload_n 0, 1) := by decide +kernel
theorem d_Rpt_init_13 : decode b_Rpt_init 13 = .ok (.bipush 8, 2) := by decide +kernel
theorem d_Rpt_init_15 : decode b_Rpt_init 15 = .ok (.newarray .int, 2) := by decide +kernel
theorem d_Rpt_init_17 : decode b_Rpt_init 17 = .ok (.putfield 13, 3) := by decide +kernel
theorem d_Rpt_init_20 : decode b_Rpt_init 20 = .ok (.aload_n 0, 1) := by decide +kernel
theorem d_Rpt_init_21 : decode b_Rpt_init 21 = .ok (.bipush 8, 2) := by decide +kernel
theorem d_Rpt_init_23 : decode b_Rpt_init 23 = .ok (.newarray .int, 2) := by decide +kernel
theorem d_Rpt_init_25 : decode b_Rpt_init 25 = .ok (.putfield 16, 3) := by decide +kernel
theorem d_Rpt_init_28 : decode b_Rpt_init 28 = .ok (.return_, 1) := by decide +kernel
theorem d_Rpt_take_0 : decode b_Rpt_take 0 = .ok (.aload_n 1, 1) := by decide +kernel
theorem d_Rpt_take_1 : decode b_Rpt_take 1 = .ok (.getfield 7, 3) := by decide +kernel
theorem d_Rpt_take_4 : decode b_Rpt_take 4 = .ok (.aload_n 0, 1) := by decide +kernel
theorem d_Rpt_take_5 : decode b_Rpt_take 5 = .ok (.getfield 7, 3) := by decide +kernel
theorem d_Rpt_take_8 : decode b_Rpt_take 8 = .ok (.invokestatic 19, 3) := by decide +kernel
theorem d_Rpt_take_11 : decode b_Rpt_take 11 = .ok (.aload_n 1, 1) := by decide +kernel
theorem d_Rpt_take_12 : decode b_Rpt_take 12 = .ok (.getfield 13, 3) := by decide +kernel
theorem d_Rpt_take_15 : decode b_Rpt_take 15 = .ok (.aload_n 0, 1) := by decide +kernel
theorem d_Rpt_take_16 : decode b_Rpt_take 16 = .ok (.getfield 13, 3) := by decide +kernel
theorem d_Rpt_take_19 : decode b_Rpt_take 19 = .ok (.invokestatic 19, 3) := by decide +kernel
theorem d_Rpt_take_22 : decode b_Rpt_take 22 = .ok (.aload_n 1, 1) := by decide +kernel
theorem d_Rpt_take_23 : decode b_Rpt_take 23 = .ok (.getfield 16, 3) := by decide +kernel
theorem d_Rpt_take_26 : decode b_Rpt_take 26 = .ok (.aload_n 0, 1) := by decide +kernel
theorem d_Rpt_take_27 : decode b_Rpt_take 27 = .ok (.getfield 16, 3) := by decide +kernel
theorem d_Rpt_take_30 : decode b_Rpt_take 30 = .ok (.invokestatic 19, 3) := by decide +kernel
theorem d_Rpt_take_33 : decode b_Rpt_take 33 = .ok (.return_, 1) := by decide +kernel
