/-! decode rows: written by wip/gen/names.py -/
theorem d_Par_order_0 : decode b_Par_order 0 = .ok (.iconst 3, 1) := by decide +kernel
theorem d_Par_order_1 : decode b_Par_order 1 = .ok (.istore_n 2, 1) := by decide +kernel
theorem d_Par_order_2 : decode b_Par_order 2 = .ok (.iload_n 2, 1) := by decide +kernel
theorem d_Par_order_3 : decode b_Par_order 3 = .ok (.ifCond .lt 43, 3) := by decide +kernel
theorem d_Par_order_6 : decode b_Par_order 6 = .ok (.aload_n 0, 1) := by decide +kernel
theorem d_Par_order_7 : decode b_Par_order 7 = .ok (.iload_n 2, 1) := by decide +kernel
theorem d_Par_order_8 : decode b_Par_order 8 = .ok (.laload, 1) := by decide +kernel
theorem d_Par_order_9 : decode b_Par_order 9 = .ok (.aload_n 1, 1) := by decide +kernel
theorem d_Par_order_10 : decode b_Par_order 10 = .ok (.iload_n 2, 1) := by decide +kernel
theorem d_Par_order_11 : decode b_Par_order 11 = .ok (.laload, 1) := by decide +kernel
theorem d_Par_order_12 : decode b_Par_order 12 = .ok (.lcmp, 1) := by decide +kernel
theorem d_Par_order_13 : decode b_Par_order 13 = .ok (.ifCond .eq 27, 3) := by decide +kernel
theorem d_Par_order_16 : decode b_Par_order 16 = .ok (.aload_n 0, 1) := by decide +kernel
theorem d_Par_order_17 : decode b_Par_order 17 = .ok (.iload_n 2, 1) := by decide +kernel
theorem d_Par_order_18 : decode b_Par_order 18 = .ok (.laload, 1) := by decide +kernel
theorem d_Par_order_19 : decode b_Par_order 19 = .ok (.ldc2_w 9, 3) := by decide +kernel
theorem d_Par_order_22 : decode b_Par_order 22 = .ok (.lxor, 1) := by decide +kernel
theorem d_Par_order_23 : decode b_Par_order 23 = .ok (.aload_n 1, 1) := by decide +kernel
theorem d_Par_order_24 : decode b_Par_order 24 = .ok (.iload_n 2, 1) := by decide +kernel
theorem d_Par_order_25 : decode b_Par_order 25 = .ok (.laload, 1) := by decide +kernel
theorem d_Par_order_26 : decode b_Par_order 26 = .ok (.ldc2_w 9, 3) := by decide +kernel
theorem d_Par_order_29 : decode b_Par_order 29 = .ok (.lxor, 1) := by decide +kernel
theorem d_Par_order_30 : decode b_Par_order 30 = .ok (.lcmp, 1) := by decide +kernel
theorem d_Par_order_31 : decode b_Par_order 31 = .ok (.ifCond .ge 7, 3) := by decide +kernel
theorem d_Par_order_34 : decode b_Par_order 34 = .ok (.iconst (-1), 1) := by decide +kernel
theorem d_Par_order_35 : decode b_Par_order 35 = .ok (.goto 4, 3) := by decide +kernel
theorem d_Par_order_38 : decode b_Par_order 38 = .ok (.iconst 1, 1) := by decide +kernel
theorem d_Par_order_39 : decode b_Par_order 39 = .ok (.ireturn, 1) := by decide +kernel
theorem d_Par_order_40 : decode b_Par_order 40 = .ok (.iinc 2 (-1), 3) := by decide +kernel
theorem d_Par_order_43 : decode b_Par_order 43 = .ok (.goto (-41), 3) := by decide +kernel
theorem d_Par_order_46 : decode b_Par_order 46 = .ok (.iconst 0, 1) := by decide +kernel
theorem d_Par_order_47 : decode b_Par_order 47 = .ok (.ireturn, 1) := by decide +kernel
theorem d_Par_areZero_0 : decode b_Par_areZero 0 = .ok (.aload_n 0, 1) := by decide +kernel
theorem d_Par_areZero_1 : decode b_Par_areZero 1 = .ok (.getstatic 11, 3) := by decide +kernel
theorem d_Par_areZero_4 : decode b_Par_areZero 4 = .ok (.invokestatic 15, 3) := by decide +kernel
theorem d_Par_areZero_7 : decode b_Par_areZero 7 = .ok (.ifCond .ne 7, 3) := by decide +kernel
theorem d_Par_areZero_10 : decode b_Par_areZero 10 = .ok (.iconst 1, 1) := by decide +kernel
theorem d_Par_areZero_11 : decode b_Par_areZero 11 = .ok (.goto 4, 3) := by decide +kernel
theorem d_Par_areZero_14 : decode b_Par_areZero 14 = .ok (.iconst 0, 1) := by decide +kernel
theorem d_Par_areZero_15 : decode b_Par_areZero 15 = .ok (.ireturn, 1) := by decide +kernel
theorem d_Par_haveBit_0 : decode b_Par_haveBit 0 = .ok (.aload_n 0, 1) := by decide +kernel
theorem d_Par_haveBit_1 : decode b_Par_haveBit 1 = .ok (.iload_n 1, 1) := by decide +kernel
theorem d_Par_haveBit_2 : decode b_Par_haveBit 2 = .ok (.bipush 64, 2) := by decide +kernel
theorem d_Par_haveBit_4 : decode b_Par_haveBit 4 = .ok (.idiv, 1) := by decide +kernel
theorem d_Par_haveBit_5 : decode b_Par_haveBit 5 = .ok (.laload, 1) := by decide +kernel
theorem d_Par_haveBit_6 : decode b_Par_haveBit 6 = .ok (.iload_n 1, 1) := by decide +kernel
theorem d_Par_haveBit_7 : decode b_Par_haveBit 7 = .ok (.bipush 64, 2) := by decide +kernel
theorem d_Par_haveBit_9 : decode b_Par_haveBit 9 = .ok (.irem, 1) := by decide +kernel
theorem d_Par_haveBit_10 : decode b_Par_haveBit 10 = .ok (.lushr, 1) := by decide +kernel
theorem d_Par_haveBit_11 : decode b_Par_haveBit 11 = .ok (.lconst 1, 1) := by decide +kernel
theorem d_Par_haveBit_12 : decode b_Par_haveBit 12 = .ok (.land, 1) := by decide +kernel
theorem d_Par_haveBit_13 : decode b_Par_haveBit 13 = .ok (.lconst 0, 1) := by decide +kernel
theorem d_Par_haveBit_14 : decode b_Par_haveBit 14 = .ok (.lcmp, 1) := by decide +kernel
theorem d_Par_haveBit_15 : decode b_Par_haveBit 15 = .ok (.ifCond .eq 7, 3) := by decide +kernel
theorem d_Par_haveBit_18 : decode b_Par_haveBit 18 = .ok (.iconst 1, 1) := by decide +kernel
theorem d_Par_haveBit_19 : decode b_Par_haveBit 19 = .ok (.goto 4, 3) := by decide +kernel
theorem d_Par_haveBit_22 : decode b_Par_haveBit 22 = .ok (.iconst 0, 1) := by decide +kernel
theorem d_Par_haveBit_23 : decode b_Par_haveBit 23 = .ok (.ireturn, 1) := by decide +kernel
