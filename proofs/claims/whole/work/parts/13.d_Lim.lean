/-! decode rows: written by wip/gen/names.py -/
theorem d_Lim_copy_0 : decode b_Lim_copy 0 = .ok (.aload_n 1, 1) := by decide +kernel
theorem d_Lim_copy_1 : decode b_Lim_copy 1 = .ok (.iconst 0, 1) := by decide +kernel
theorem d_Lim_copy_2 : decode b_Lim_copy 2 = .ok (.aload_n 0, 1) := by decide +kernel
theorem d_Lim_copy_3 : decode b_Lim_copy 3 = .ok (.iconst 0, 1) := by decide +kernel
theorem d_Lim_copy_4 : decode b_Lim_copy 4 = .ok (.bipush 10, 2) := by decide +kernel
theorem d_Lim_copy_6 : decode b_Lim_copy 6 = .ok (.invokestatic 9, 3) := by decide +kernel
theorem d_Lim_copy_9 : decode b_Lim_copy 9 = .ok (.return_, 1) := by decide +kernel
theorem d_Lim_plus_0 : decode b_Lim_plus 0 = .ok (.iconst 0, 1) := by decide +kernel
theorem d_Lim_plus_1 : decode b_Lim_plus 1 = .ok (.istore_n 3, 1) := by decide +kernel
theorem d_Lim_plus_2 : decode b_Lim_plus 2 = .ok (.iload_n 3, 1) := by decide +kernel
theorem d_Lim_plus_3 : decode b_Lim_plus 3 = .ok (.bipush 10, 2) := by decide +kernel
theorem d_Lim_plus_5 : decode b_Lim_plus 5 = .ok (.if_icmp .ge 19, 3) := by decide +kernel
theorem d_Lim_plus_8 : decode b_Lim_plus 8 = .ok (.aload_n 0, 1) := by decide +kernel
theorem d_Lim_plus_9 : decode b_Lim_plus 9 = .ok (.iload_n 3, 1) := by decide +kernel
theorem d_Lim_plus_10 : decode b_Lim_plus 10 = .ok (.aload_n 1, 1) := by decide +kernel
theorem d_Lim_plus_11 : decode b_Lim_plus 11 = .ok (.iload_n 3, 1) := by decide +kernel
theorem d_Lim_plus_12 : decode b_Lim_plus 12 = .ok (.laload, 1) := by decide +kernel
theorem d_Lim_plus_13 : decode b_Lim_plus 13 = .ok (.aload_n 2, 1) := by decide +kernel
theorem d_Lim_plus_14 : decode b_Lim_plus 14 = .ok (.iload_n 3, 1) := by decide +kernel
theorem d_Lim_plus_15 : decode b_Lim_plus 15 = .ok (.laload, 1) := by decide +kernel
theorem d_Lim_plus_16 : decode b_Lim_plus 16 = .ok (.ladd, 1) := by decide +kernel
theorem d_Lim_plus_17 : decode b_Lim_plus 17 = .ok (.lastore, 1) := by decide +kernel
theorem d_Lim_plus_18 : decode b_Lim_plus 18 = .ok (.iinc 3 1, 3) := by decide +kernel
theorem d_Lim_plus_21 : decode b_Lim_plus 21 = .ok (.goto (-19), 3) := by decide +kernel
theorem d_Lim_plus_24 : decode b_Lim_plus 24 = .ok (.return_, 1) := by decide +kernel
theorem d_Lim_minus_0 : decode b_Lim_minus 0 = .ok (.iconst 0, 1) := by decide +kernel
theorem d_Lim_minus_1 : decode b_Lim_minus 1 = .ok (.istore_n 3, 1) := by decide +kernel
theorem d_Lim_minus_2 : decode b_Lim_minus 2 = .ok (.iload_n 3, 1) := by decide +kernel
theorem d_Lim_minus_3 : decode b_Lim_minus 3 = .ok (.bipush 10, 2) := by decide +kernel
theorem d_Lim_minus_5 : decode b_Lim_minus 5 = .ok (.if_icmp .ge 19, 3) := by decide +kernel
theorem d_Lim_minus_8 : decode b_Lim_minus 8 = .ok (.aload_n 0, 1) := by decide +kernel
theorem d_Lim_minus_9 : decode b_Lim_minus 9 = .ok (.iload_n 3, 1) := by decide +kernel
theorem d_Lim_minus_10 : decode b_Lim_minus 10 = .ok (.aload_n 1, 1) := by decide +kernel
theorem d_Lim_minus_11 : decode b_Lim_minus 11 = .ok (.iload_n 3, 1) := by decide +kernel
theorem d_Lim_minus_12 : decode b_Lim_minus 12 = .ok (.laload, 1) := by decide +kernel
theorem d_Lim_minus_13 : decode b_Lim_minus 13 = .ok (.aload_n 2, 1) := by decide +kernel
theorem d_Lim_minus_14 : decode b_Lim_minus 14 = .ok (.iload_n 3, 1) := by decide +kernel
theorem d_Lim_minus_15 : decode b_Lim_minus 15 = .ok (.laload, 1) := by decide +kernel
theorem d_Lim_minus_16 : decode b_Lim_minus 16 = .ok (.lsub, 1) := by decide +kernel
theorem d_Lim_minus_17 : decode b_Lim_minus 17 = .ok (.lastore, 1) := by decide +kernel
theorem d_Lim_minus_18 : decode b_Lim_minus 18 = .ok (.iinc 3 1, 3) := by decide +kernel
theorem d_Lim_minus_21 : decode b_Lim_minus 21 = .ok (.goto (-19), 3) := by decide +kernel
theorem d_Lim_minus_24 : decode b_Lim_minus 24 = .ok (.return_, 1) := by decide +kernel
theorem d_Lim_scale_0 : decode b_Lim_scale 0 = .ok (.iconst 0, 1) := by decide +kernel
theorem d_Lim_scale_1 : decode b_Lim_scale 1 = .ok (.istore 4, 2) := by decide +kernel
theorem d_Lim_scale_3 : decode b_Lim_scale 3 = .ok (.iload 4, 2) := by decide +kernel
theorem d_Lim_scale_5 : decode b_Lim_scale 5 = .ok (.bipush 10, 2) := by decide +kernel
theorem d_Lim_scale_7 : decode b_Lim_scale 7 = .ok (.if_icmp .ge 19, 3) := by decide +kernel
theorem d_Lim_scale_10 : decode b_Lim_scale 10 = .ok (.aload_n 0, 1) := by decide +kernel
theorem d_Lim_scale_11 : decode b_Lim_scale 11 = .ok (.iload 4, 2) := by decide +kernel
theorem d_Lim_scale_13 : decode b_Lim_scale 13 = .ok (.aload_n 1, 1) := by decide +kernel
theorem d_Lim_scale_14 : decode b_Lim_scale 14 = .ok (.iload 4, 2) := by decide +kernel
theorem d_Lim_scale_16 : decode b_Lim_scale 16 = .ok (.laload, 1) := by decide +kernel
theorem d_Lim_scale_17 : decode b_Lim_scale 17 = .ok (.lload_n 2, 1) := by decide +kernel
theorem d_Lim_scale_18 : decode b_Lim_scale 18 = .ok (.lmul, 1) := by decide +kernel
theorem d_Lim_scale_19 : decode b_Lim_scale 19 = .ok (.lastore, 1) := by decide +kernel
theorem d_Lim_scale_20 : decode b_Lim_scale 20 = .ok (.iinc 4 1, 3) := by decide +kernel
theorem d_Lim_scale_23 : decode b_Lim_scale 23 = .ok (.goto (-20), 3) := by decide +kernel
theorem d_Lim_scale_26 : decode b_Lim_scale 26 = .ok (.return_, 1) := by decide +kernel
theorem d_Lim_areEqual_0 : decode b_Lim_areEqual 0 = .ok (.iconst 0, 1) := by decide +kernel
theorem d_Lim_areEqual_1 : decode b_Lim_areEqual 1 = .ok (.istore_n 2, 1) := by decide +kernel
theorem d_Lim_areEqual_2 : decode b_Lim_areEqual 2 = .ok (.iload_n 2, 1) := by decide +kernel
theorem d_Lim_areEqual_3 : decode b_Lim_areEqual 3 = .ok (.bipush 10, 2) := by decide +kernel
theorem d_Lim_areEqual_5 : decode b_Lim_areEqual 5 = .ok (.if_icmp .ge 21, 3) := by decide +kernel
theorem d_Lim_areEqual_8 : decode b_Lim_areEqual 8 = .ok (.aload_n 0, 1) := by decide +kernel
theorem d_Lim_areEqual_9 : decode b_Lim_areEqual 9 = .ok (.iload_n 2, 1) := by decide +kernel
theorem d_Lim_areEqual_10 : decode b_Lim_areEqual 10 = .ok (.laload, 1) := by decide +kernel
theorem d_Lim_areEqual_11 : decode b_Lim_areEqual 11 = .ok (.aload_n 1, 1) := by decide +kernel
theorem d_Lim_areEqual_12 : decode b_Lim_areEqual 12 = .ok (.iload_n 2, 1) := by decide +kernel
theorem d_Lim_areEqual_13 : decode b_Lim_areEqual 13 = .ok (.laload, 1) := by decide +kernel
theorem d_Lim_areEqual_14 : decode b_Lim_areEqual 14 = .ok (.lcmp, 1) := by decide +kernel
theorem d_Lim_areEqual_15 : decode b_Lim_areEqual 15 = .ok (.ifCond .eq 5, 3) := by decide +kernel
theorem d_Lim_areEqual_18 : decode b_Lim_areEqual 18 = .ok (.iconst 0, 1) := by decide +kernel
theorem d_Lim_areEqual_19 : decode b_Lim_areEqual 19 = .ok (.ireturn, 1) := by decide +kernel
theorem d_Lim_areEqual_20 : decode b_Lim_areEqual 20 = .ok (.iinc 2 1, 3) := by decide +kernel
theorem d_Lim_areEqual_23 : decode b_Lim_areEqual 23 = .ok (.goto (-21), 3) := by decide +kernel
theorem d_Lim_areEqual_26 : decode b_Lim_areEqual 26 = .ok (.iconst 1, 1) := by decide +kernel
theorem d_Lim_areEqual_27 : decode b_Lim_areEqual 27 = .ok (.ireturn, 1) := by decide +kernel
theorem d_Lim_areZero_0 : decode b_Lim_areZero 0 = .ok (.iconst 0, 1) := by decide +kernel
theorem d_Lim_areZero_1 : decode b_Lim_areZero 1 = .ok (.istore_n 1, 1) := by decide +kernel
theorem d_Lim_areZero_2 : decode b_Lim_areZero 2 = .ok (.iload_n 1, 1) := by decide +kernel
theorem d_Lim_areZero_3 : decode b_Lim_areZero 3 = .ok (.bipush 10, 2) := by decide +kernel
theorem d_Lim_areZero_5 : decode b_Lim_areZero 5 = .ok (.if_icmp .ge 19, 3) := by decide +kernel
theorem d_Lim_areZero_8 : decode b_Lim_areZero 8 = .ok (.aload_n 0, 1) := by decide +kernel
theorem d_Lim_areZero_9 : decode b_Lim_areZero 9 = .ok (.iload_n 1, 1) := by decide +kernel
theorem d_Lim_areZero_10 : decode b_Lim_areZero 10 = .ok (.laload, 1) := by decide +kernel
theorem d_Lim_areZero_11 : decode b_Lim_areZero 11 = .ok (.lconst 0, 1) := by decide +kernel
theorem d_Lim_areZero_12 : decode b_Lim_areZero 12 = .ok (.lcmp, 1) := by decide +kernel
theorem d_Lim_areZero_13 : decode b_Lim_areZero 13 = .ok (.ifCond .eq 5, 3) := by decide +kernel
theorem d_Lim_areZero_16 : decode b_Lim_areZero 16 = .ok (.iconst 0, 1) := by decide +kernel
theorem d_Lim_areZero_17 : decode b_Lim_areZero 17 = .ok (.ireturn, 1) := by decide +kernel
theorem d_Lim_areZero_18 : decode b_Lim_areZero 18 = .ok (.iinc 1 1, 3) := by decide +kernel
theorem d_Lim_areZero_21 : decode b_Lim_areZero 21 = .ok (.goto (-19), 3) := by decide +kernel
theorem d_Lim_areZero_24 : decode b_Lim_areZero 24 = .ok (.iconst 1, 1) := by decide +kernel
theorem d_Lim_areZero_25 : decode b_Lim_areZero 25 = .ok (.ireturn, 1) := by decide +kernel
theorem d_Lim_carry_0 : decode b_Lim_carry 0 = .ok (.lconst 0, 1) := by decide +kernel
theorem d_Lim_carry_1 : decode b_Lim_carry 1 = .ok (.lstore_n 3, 1) := by decide +kernel
theorem d_Lim_carry_2 : decode b_Lim_carry 2 = .ok (.iload_n 1, 1) := by decide +kernel
theorem d_Lim_carry_3 : decode b_Lim_carry 3 = .ok (.istore 5, 2) := by decide +kernel
theorem d_Lim_carry_5 : decode b_Lim_carry 5 = .ok (.iload 5, 2) := by decide +kernel
theorem d_Lim_carry_7 : decode b_Lim_carry 7 = .ok (.iload_n 2, 1) := by decide +kernel
theorem d_Lim_carry_8 : decode b_Lim_carry 8 = .ok (.if_icmp .ge 30, 3) := by decide +kernel
theorem d_Lim_carry_11 : decode b_Lim_carry 11 = .ok (.lload_n 3, 1) := by decide +kernel
theorem d_Lim_carry_12 : decode b_Lim_carry 12 = .ok (.aload_n 0, 1) := by decide +kernel
theorem d_Lim_carry_13 : decode b_Lim_carry 13 = .ok (.iload 5, 2) := by decide +kernel
theorem d_Lim_carry_15 : decode b_Lim_carry 15 = .ok (.laload, 1) := by decide +kernel
theorem d_Lim_carry_16 : decode b_Lim_carry 16 = .ok (.ladd, 1) := by decide +kernel
theorem d_Lim_carry_17 : decode b_Lim_carry 17 = .ok (.lstore_n 3, 1) := by decide +kernel
theorem d_Lim_carry_18 : decode b_Lim_carry 18 = .ok (.aload_n 0, 1) := by decide +kernel
theorem d_Lim_carry_19 : decode b_Lim_carry 19 = .ok (.iload 5, 2) := by decide +kernel
theorem d_Lim_carry_21 : decode b_Lim_carry 21 = .ok (.lload_n 3, 1) := by decide +kernel
theorem d_Lim_carry_22 : decode b_Lim_carry 22 = .ok (.ldc2_w 15, 3) := by decide +kernel
theorem d_Lim_carry_25 : decode b_Lim_carry 25 = .ok (.land, 1) := by decide +kernel
theorem d_Lim_carry_26 : decode b_Lim_carry 26 = .ok (.lastore, 1) := by decide +kernel
theorem d_Lim_carry_27 : decode b_Lim_carry 27 = .ok (.lload_n 3, 1) := by decide +kernel
theorem d_Lim_carry_28 : decode b_Lim_carry 28 = .ok (.bipush 26, 2) := by decide +kernel
theorem d_Lim_carry_30 : decode b_Lim_carry 30 = .ok (.lshr, 1) := by decide +kernel
theorem d_Lim_carry_31 : decode b_Lim_carry 31 = .ok (.lstore_n 3, 1) := by decide +kernel
theorem d_Lim_carry_32 : decode b_Lim_carry 32 = .ok (.iinc 5 1, 3) := by decide +kernel
theorem d_Lim_carry_35 : decode b_Lim_carry 35 = .ok (.goto (-30), 3) := by decide +kernel
theorem d_Lim_carry_38 : decode b_Lim_carry 38 = .ok (.aload_n 0, 1) := by decide +kernel
theorem d_Lim_carry_39 : decode b_Lim_carry 39 = .ok (.iload_n 2, 1) := by decide +kernel
theorem d_Lim_carry_40 : decode b_Lim_carry 40 = .ok (.dup2, 1) := by decide +kernel
theorem d_Lim_carry_41 : decode b_Lim_carry 41 = .ok (.laload, 1) := by decide +kernel
theorem d_Lim_carry_42 : decode b_Lim_carry 42 = .ok (.lload_n 3, 1) := by decide +kernel
theorem d_Lim_carry_43 : decode b_Lim_carry 43 = .ok (.ladd, 1) := by decide +kernel
theorem d_Lim_carry_44 : decode b_Lim_carry 44 = .ok (.lastore, 1) := by decide +kernel
theorem d_Lim_carry_45 : decode b_Lim_carry 45 = .ok (.return_, 1) := by decide +kernel
theorem d_Lim_unpack_0 : decode b_Lim_unpack 0 = .ok (.iconst 0, 1) := by decide +kernel
theorem d_Lim_unpack_1 : decode b_Lim_unpack 1 = .ok (.istore_n 2, 1) := by decide +kernel
theorem d_Lim_unpack_2 : decode b_Lim_unpack 2 = .ok (.iload_n 2, 1) := by decide +kernel
theorem d_Lim_unpack_3 : decode b_Lim_unpack 3 = .ok (.bipush 10, 2) := by decide +kernel
theorem d_Lim_unpack_5 : decode b_Lim_unpack 5 = .ok (.if_icmp .ge 76, 3) := by decide +kernel
theorem d_Lim_unpack_8 : decode b_Lim_unpack 8 = .ok (.iload_n 2, 1) := by decide +kernel
theorem d_Lim_unpack_9 : decode b_Lim_unpack 9 = .ok (.bipush 26, 2) := by decide +kernel
theorem d_Lim_unpack_11 : decode b_Lim_unpack 11 = .ok (.imul, 1) := by decide +kernel
theorem d_Lim_unpack_12 : decode b_Lim_unpack 12 = .ok (.bipush 64, 2) := by decide +kernel
theorem d_Lim_unpack_14 : decode b_Lim_unpack 14 = .ok (.idiv, 1) := by decide +kernel
theorem d_Lim_unpack_15 : decode b_Lim_unpack 15 = .ok (.istore_n 3, 1) := by decide +kernel
theorem d_Lim_unpack_16 : decode b_Lim_unpack 16 = .ok (.iload_n 2, 1) := by decide +kernel
theorem d_Lim_unpack_17 : decode b_Lim_unpack 17 = .ok (.bipush 26, 2) := by decide +kernel
theorem d_Lim_unpack_19 : decode b_Lim_unpack 19 = .ok (.imul, 1) := by decide +kernel
theorem d_Lim_unpack_20 : decode b_Lim_unpack 20 = .ok (.bipush 64, 2) := by decide +kernel
theorem d_Lim_unpack_22 : decode b_Lim_unpack 22 = .ok (.irem, 1) := by decide +kernel
theorem d_Lim_unpack_23 : decode b_Lim_unpack 23 = .ok (.istore 4, 2) := by decide +kernel
theorem d_Lim_unpack_25 : decode b_Lim_unpack 25 = .ok (.aload_n 1, 1) := by decide +kernel
theorem d_Lim_unpack_26 : decode b_Lim_unpack 26 = .ok (.iload_n 3, 1) := by decide +kernel
theorem d_Lim_unpack_27 : decode b_Lim_unpack 27 = .ok (.laload, 1) := by decide +kernel
theorem d_Lim_unpack_28 : decode b_Lim_unpack 28 = .ok (.iload 4, 2) := by decide +kernel
theorem d_Lim_unpack_30 : decode b_Lim_unpack 30 = .ok (.lushr, 1) := by decide +kernel
theorem d_Lim_unpack_31 : decode b_Lim_unpack 31 = .ok (.lstore 5, 2) := by decide +kernel
theorem d_Lim_unpack_33 : decode b_Lim_unpack 33 = .ok (.iload 4, 2) := by decide +kernel
theorem d_Lim_unpack_35 : decode b_Lim_unpack 35 = .ok (.bipush 26, 2) := by decide +kernel
theorem d_Lim_unpack_37 : decode b_Lim_unpack 37 = .ok (.iadd, 1) := by decide +kernel
theorem d_Lim_unpack_38 : decode b_Lim_unpack 38 = .ok (.bipush 64, 2) := by decide +kernel
theorem d_Lim_unpack_40 : decode b_Lim_unpack 40 = .ok (.if_icmp .le 26, 3) := by decide +kernel
theorem d_Lim_unpack_43 : decode b_Lim_unpack 43 = .ok (.iload_n 3, 1) := by decide +kernel
theorem d_Lim_unpack_44 : decode b_Lim_unpack 44 = .ok (.iconst 1, 1) := by decide +kernel
theorem d_Lim_unpack_45 : decode b_Lim_unpack 45 = .ok (.iadd, 1) := by decide +kernel
theorem d_Lim_unpack_46 : decode b_Lim_unpack 46 = .ok (.iconst 4, 1) := by decide +kernel
theorem d_Lim_unpack_47 : decode b_Lim_unpack 47 = .ok (.if_icmp .ge 19, 3) := by decide +kernel
theorem d_Lim_unpack_50 : decode b_Lim_unpack 50 = .ok (.lload 5, 2) := by decide +kernel
theorem d_Lim_unpack_52 : decode b_Lim_unpack 52 = .ok (.aload_n 1, 1) := by decide +kernel
theorem d_Lim_unpack_53 : decode b_Lim_unpack 53 = .ok (.iload_n 3, 1) := by decide +kernel
theorem d_Lim_unpack_54 : decode b_Lim_unpack 54 = .ok (.iconst 1, 1) := by decide +kernel
theorem d_Lim_unpack_55 : decode b_Lim_unpack 55 = .ok (.iadd, 1) := by decide +kernel
theorem d_Lim_unpack_56 : decode b_Lim_unpack 56 = .ok (.laload, 1) := by decide +kernel
theorem d_Lim_unpack_57 : decode b_Lim_unpack 57 = .ok (.bipush 64, 2) := by decide +kernel
theorem d_Lim_unpack_59 : decode b_Lim_unpack 59 = .ok (.iload 4, 2) := by decide +kernel
theorem d_Lim_unpack_61 : decode b_Lim_unpack 61 = .ok (.isub, 1) := by decide +kernel
theorem d_Lim_unpack_62 : decode b_Lim_unpack 62 = .ok (.lshl, 1) := by decide +kernel
theorem d_Lim_unpack_63 : decode b_Lim_unpack 63 = .ok (.lor, 1) := by decide +kernel
theorem d_Lim_unpack_64 : decode b_Lim_unpack 64 = .ok (.lstore 5, 2) := by decide +kernel
theorem d_Lim_unpack_66 : decode b_Lim_unpack 66 = .ok (.aload_n 0, 1) := by decide +kernel
theorem d_Lim_unpack_67 : decode b_Lim_unpack 67 = .ok (.iload_n 2, 1) := by decide +kernel
theorem d_Lim_unpack_68 : decode b_Lim_unpack 68 = .ok (.lload 5, 2) := by decide +kernel
theorem d_Lim_unpack_70 : decode b_Lim_unpack 70 = .ok (.ldc2_w 15, 3) := by decide +kernel
theorem d_Lim_unpack_73 : decode b_Lim_unpack 73 = .ok (.land, 1) := by decide +kernel
theorem d_Lim_unpack_74 : decode b_Lim_unpack 74 = .ok (.lastore, 1) := by decide +kernel
theorem d_Lim_unpack_75 : decode b_Lim_unpack 75 = .ok (.iinc 2 1, 3) := by decide +kernel
theorem d_Lim_unpack_78 : decode b_Lim_unpack 78 = .ok (.goto (-76), 3) := by decide +kernel
theorem d_Lim_unpack_81 : decode b_Lim_unpack 81 = .ok (.return_, 1) := by decide +kernel
theorem d_Lim_pack_0 : decode b_Lim_pack 0 = .ok (.iconst 0, 1) := by decide +kernel
theorem d_Lim_pack_1 : decode b_Lim_pack 1 = .ok (.istore_n 2, 1) := by decide +kernel
theorem d_Lim_pack_2 : decode b_Lim_pack 2 = .ok (.iload_n 2, 1) := by decide +kernel
theorem d_Lim_pack_3 : decode b_Lim_pack 3 = .ok (.iconst 4, 1) := by decide +kernel
theorem d_Lim_pack_4 : decode b_Lim_pack 4 = .ok (.if_icmp .ge 13, 3) := by decide +kernel
theorem d_Lim_pack_7 : decode b_Lim_pack 7 = .ok (.aload_n 0, 1) := by decide +kernel
theorem d_Lim_pack_8 : decode b_Lim_pack 8 = .ok (.iload_n 2, 1) := by decide +kernel
theorem d_Lim_pack_9 : decode b_Lim_pack 9 = .ok (.lconst 0, 1) := by decide +kernel
theorem d_Lim_pack_10 : decode b_Lim_pack 10 = .ok (.lastore, 1) := by decide +kernel
theorem d_Lim_pack_11 : decode b_Lim_pack 11 = .ok (.iinc 2 1, 3) := by decide +kernel
theorem d_Lim_pack_14 : decode b_Lim_pack 14 = .ok (.goto (-12), 3) := by decide +kernel
theorem d_Lim_pack_17 : decode b_Lim_pack 17 = .ok (.iconst 0, 1) := by decide +kernel
theorem d_Lim_pack_18 : decode b_Lim_pack 18 = .ok (.istore_n 2, 1) := by decide +kernel
theorem d_Lim_pack_19 : decode b_Lim_pack 19 = .ok (.iload_n 2, 1) := by decide +kernel
theorem d_Lim_pack_20 : decode b_Lim_pack 20 = .ok (.bipush 10, 2) := by decide +kernel
theorem d_Lim_pack_22 : decode b_Lim_pack 22 = .ok (.if_icmp .ge 72, 3) := by decide +kernel
theorem d_Lim_pack_25 : decode b_Lim_pack 25 = .ok (.iload_n 2, 1) := by decide +kernel
theorem d_Lim_pack_26 : decode b_Lim_pack 26 = .ok (.bipush 26, 2) := by decide +kernel
theorem d_Lim_pack_28 : decode b_Lim_pack 28 = .ok (.imul, 1) := by decide +kernel
theorem d_Lim_pack_29 : decode b_Lim_pack 29 = .ok (.bipush 64, 2) := by decide +kernel
theorem d_Lim_pack_31 : decode b_Lim_pack 31 = .ok (.idiv, 1) := by decide +kernel
theorem d_Lim_pack_32 : decode b_Lim_pack 32 = .ok (.istore_n 3, 1) := by decide +kernel
theorem d_Lim_pack_33 : decode b_Lim_pack 33 = .ok (.iload_n 2, 1) := by decide +kernel
theorem d_Lim_pack_34 : decode b_Lim_pack 34 = .ok (.bipush 26, 2) := by decide +kernel
theorem d_Lim_pack_36 : decode b_Lim_pack 36 = .ok (.imul, 1) := by decide +kernel
theorem d_Lim_pack_37 : decode b_Lim_pack 37 = .ok (.bipush 64, 2) := by decide +kernel
theorem d_Lim_pack_39 : decode b_Lim_pack 39 = .ok (.irem, 1) := by decide +kernel
theorem d_Lim_pack_40 : decode b_Lim_pack 40 = .ok (.istore 4, 2) := by decide +kernel
theorem d_Lim_pack_42 : decode b_Lim_pack 42 = .ok (.aload_n 0, 1) := by decide +kernel
theorem d_Lim_pack_43 : decode b_Lim_pack 43 = .ok (.iload_n 3, 1) := by decide +kernel
theorem d_Lim_pack_44 : decode b_Lim_pack 44 = .ok (.dup2, 1) := by decide +kernel
theorem d_Lim_pack_45 : decode b_Lim_pack 45 = .ok (.laload, 1) := by decide +kernel
theorem d_Lim_pack_46 : decode b_Lim_pack 46 = .ok (.aload_n 1, 1) := by decide +kernel
theorem d_Lim_pack_47 : decode b_Lim_pack 47 = .ok (.iload_n 2, 1) := by decide +kernel
theorem d_Lim_pack_48 : decode b_Lim_pack 48 = .ok (.laload, 1) := by decide +kernel
theorem d_Lim_pack_49 : decode b_Lim_pack 49 = .ok (.iload 4, 2) := by decide +kernel
theorem d_Lim_pack_51 : decode b_Lim_pack 51 = .ok (.lshl, 1) := by decide +kernel
theorem d_Lim_pack_52 : decode b_Lim_pack 52 = .ok (.lor, 1) := by decide +kernel
theorem d_Lim_pack_53 : decode b_Lim_pack 53 = .ok (.lastore, 1) := by decide +kernel
theorem d_Lim_pack_54 : decode b_Lim_pack 54 = .ok (.iload 4, 2) := by decide +kernel
theorem d_Lim_pack_56 : decode b_Lim_pack 56 = .ok (.bipush 26, 2) := by decide +kernel
theorem d_Lim_pack_58 : decode b_Lim_pack 58 = .ok (.iadd, 1) := by decide +kernel
theorem d_Lim_pack_59 : decode b_Lim_pack 59 = .ok (.bipush 64, 2) := by decide +kernel
theorem d_Lim_pack_61 : decode b_Lim_pack 61 = .ok (.if_icmp .le 27, 3) := by decide +kernel
theorem d_Lim_pack_64 : decode b_Lim_pack 64 = .ok (.iload_n 3, 1) := by decide +kernel
theorem d_Lim_pack_65 : decode b_Lim_pack 65 = .ok (.iconst 1, 1) := by decide +kernel
theorem d_Lim_pack_66 : decode b_Lim_pack 66 = .ok (.iadd, 1) := by decide +kernel
theorem d_Lim_pack_67 : decode b_Lim_pack 67 = .ok (.iconst 4, 1) := by decide +kernel
theorem d_Lim_pack_68 : decode b_Lim_pack 68 = .ok (.if_icmp .ge 20, 3) := by decide +kernel
theorem d_Lim_pack_71 : decode b_Lim_pack 71 = .ok (.aload_n 0, 1) := by decide +kernel
theorem d_Lim_pack_72 : decode b_Lim_pack 72 = .ok (.iload_n 3, 1) := by decide +kernel
theorem d_Lim_pack_73 : decode b_Lim_pack 73 = .ok (.iconst 1, 1) := by decide +kernel
theorem d_Lim_pack_74 : decode b_Lim_pack 74 = .ok (.iadd, 1) := by decide +kernel
theorem d_Lim_pack_75 : decode b_Lim_pack 75 = .ok (.dup2, 1) := by decide +kernel
theorem d_Lim_pack_76 : decode b_Lim_pack 76 = .ok (.laload, 1) := by decide +kernel
theorem d_Lim_pack_77 : decode b_Lim_pack 77 = .ok (.aload_n 1, 1) := by decide +kernel
theorem d_Lim_pack_78 : decode b_Lim_pack 78 = .ok (.iload_n 2, 1) := by decide +kernel
theorem d_Lim_pack_79 : decode b_Lim_pack 79 = .ok (.laload, 1) := by decide +kernel
theorem d_Lim_pack_80 : decode b_Lim_pack 80 = .ok (.bipush 64, 2) := by decide +kernel
theorem d_Lim_pack_82 : decode b_Lim_pack 82 = .ok (.iload 4, 2) := by decide +kernel
theorem d_Lim_pack_84 : decode b_Lim_pack 84 = .ok (.isub, 1) := by decide +kernel
theorem d_Lim_pack_85 : decode b_Lim_pack 85 = .ok (.lushr, 1) := by decide +kernel
theorem d_Lim_pack_86 : decode b_Lim_pack 86 = .ok (.lor, 1) := by decide +kernel
theorem d_Lim_pack_87 : decode b_Lim_pack 87 = .ok (.lastore, 1) := by decide +kernel
theorem d_Lim_pack_88 : decode b_Lim_pack 88 = .ok (.iinc 2 1, 3) := by decide +kernel
theorem d_Lim_pack_91 : decode b_Lim_pack 91 = .ok (.goto (-72), 3) := by decide +kernel
theorem d_Lim_pack_94 : decode b_Lim_pack 94 = .ok (.return_, 1) := by decide +kernel
theorem d_Lim_product_0 : decode b_Lim_product 0 = .ok (.aload_n 1, 1) := by decide +kernel
theorem d_Lim_product_1 : decode b_Lim_product 1 = .ok (.iconst 0, 1) := by decide +kernel
theorem d_Lim_product_2 : decode b_Lim_product 2 = .ok (.laload, 1) := by decide +kernel
theorem d_Lim_product_3 : decode b_Lim_product 3 = .ok (.lstore_n 3, 1) := by decide +kernel
theorem d_Lim_product_4 : decode b_Lim_product 4 = .ok (.aload_n 1, 1) := by decide +kernel
theorem d_Lim_product_5 : decode b_Lim_product 5 = .ok (.iconst 1, 1) := by decide +kernel
theorem d_Lim_product_6 : decode b_Lim_product 6 = .ok (.laload, 1) := by decide +kernel
theorem d_Lim_product_7 : decode b_Lim_product 7 = .ok (.lstore 5, 2) := by decide +kernel
theorem d_Lim_product_9 : decode b_Lim_product 9 = .ok (.aload_n 1, 1) := by decide +kernel
theorem d_Lim_product_10 : decode b_Lim_product 10 = .ok (.iconst 2, 1) := by decide +kernel
theorem d_Lim_product_11 : decode b_Lim_product 11 = .ok (.laload, 1) := by decide +kernel
theorem d_Lim_product_12 : decode b_Lim_product 12 = .ok (.lstore 7, 2) := by decide +kernel
theorem d_Lim_product_14 : decode b_Lim_product 14 = .ok (.aload_n 1, 1) := by decide +kernel
theorem d_Lim_product_15 : decode b_Lim_product 15 = .ok (.iconst 3, 1) := by decide +kernel
theorem d_Lim_product_16 : decode b_Lim_product 16 = .ok (.laload, 1) := by decide +kernel
theorem d_Lim_product_17 : decode b_Lim_product 17 = .ok (.lstore 9, 2) := by decide +kernel
theorem d_Lim_product_19 : decode b_Lim_product 19 = .ok (.aload_n 1, 1) := by decide +kernel
theorem d_Lim_product_20 : decode b_Lim_product 20 = .ok (.iconst 4, 1) := by decide +kernel
theorem d_Lim_product_21 : decode b_Lim_product 21 = .ok (.laload, 1) := by decide +kernel
theorem d_Lim_product_22 : decode b_Lim_product 22 = .ok (.lstore 11, 2) := by decide +kernel
theorem d_Lim_product_24 : decode b_Lim_product 24 = .ok (.aload_n 1, 1) := by decide +kernel
theorem d_Lim_product_25 : decode b_Lim_product 25 = .ok (.iconst 5, 1) := by decide +kernel
theorem d_Lim_product_26 : decode b_Lim_product 26 = .ok (.laload, 1) := by decide +kernel
theorem d_Lim_product_27 : decode b_Lim_product 27 = .ok (.lstore 13, 2) := by decide +kernel
theorem d_Lim_product_29 : decode b_Lim_product 29 = .ok (.aload_n 1, 1) := by decide +kernel
theorem d_Lim_product_30 : decode b_Lim_product 30 = .ok (.bipush 6, 2) := by decide +kernel
theorem d_Lim_product_32 : decode b_Lim_product 32 = .ok (.laload, 1) := by decide +kernel
theorem d_Lim_product_33 : decode b_Lim_product 33 = .ok (.lstore 15, 2) := by decide +kernel
theorem d_Lim_product_35 : decode b_Lim_product 35 = .ok (.aload_n 1, 1) := by decide +kernel
theorem d_Lim_product_36 : decode b_Lim_product 36 = .ok (.bipush 7, 2) := by decide +kernel
theorem d_Lim_product_38 : decode b_Lim_product 38 = .ok (.laload, 1) := by decide +kernel
theorem d_Lim_product_39 : decode b_Lim_product 39 = .ok (.lstore 17, 2) := by decide +kernel
theorem d_Lim_product_41 : decode b_Lim_product 41 = .ok (.aload_n 1, 1) := by decide +kernel
theorem d_Lim_product_42 : decode b_Lim_product 42 = .ok (.bipush 8, 2) := by decide +kernel
theorem d_Lim_product_44 : decode b_Lim_product 44 = .ok (.laload, 1) := by decide +kernel
theorem d_Lim_product_45 : decode b_Lim_product 45 = .ok (.lstore 19, 2) := by decide +kernel
theorem d_Lim_product_47 : decode b_Lim_product 47 = .ok (.aload_n 1, 1) := by decide +kernel
theorem d_Lim_product_48 : decode b_Lim_product 48 = .ok (.bipush 9, 2) := by decide +kernel
theorem d_Lim_product_50 : decode b_Lim_product 50 = .ok (.laload, 1) := by decide +kernel
theorem d_Lim_product_51 : decode b_Lim_product 51 = .ok (.lstore 21, 2) := by decide +kernel
theorem d_Lim_product_53 : decode b_Lim_product 53 = .ok (.aload_n 2, 1) := by decide +kernel
theorem d_Lim_product_54 : decode b_Lim_product 54 = .ok (.iconst 0, 1) := by decide +kernel
theorem d_Lim_product_55 : decode b_Lim_product 55 = .ok (.laload, 1) := by decide +kernel
theorem d_Lim_product_56 : decode b_Lim_product 56 = .ok (.lstore 23, 2) := by decide +kernel
theorem d_Lim_product_58 : decode b_Lim_product 58 = .ok (.aload_n 2, 1) := by decide +kernel
theorem d_Lim_product_59 : decode b_Lim_product 59 = .ok (.iconst 1, 1) := by decide +kernel
theorem d_Lim_product_60 : decode b_Lim_product 60 = .ok (.laload, 1) := by decide +kernel
theorem d_Lim_product_61 : decode b_Lim_product 61 = .ok (.lstore 25, 2) := by decide +kernel
theorem d_Lim_product_63 : decode b_Lim_product 63 = .ok (.aload_n 2, 1) := by decide +kernel
theorem d_Lim_product_64 : decode b_Lim_product 64 = .ok (.iconst 2, 1) := by decide +kernel
theorem d_Lim_product_65 : decode b_Lim_product 65 = .ok (.laload, 1) := by decide +kernel
theorem d_Lim_product_66 : decode b_Lim_product 66 = .ok (.lstore 27, 2) := by decide +kernel
theorem d_Lim_product_68 : decode b_Lim_product 68 = .ok (.aload_n 2, 1) := by decide +kernel
theorem d_Lim_product_69 : decode b_Lim_product 69 = .ok (.iconst 3, 1) := by decide +kernel
theorem d_Lim_product_70 : decode b_Lim_product 70 = .ok (.laload, 1) := by decide +kernel
theorem d_Lim_product_71 : decode b_Lim_product 71 = .ok (.lstore 29, 2) := by decide +kernel
theorem d_Lim_product_73 : decode b_Lim_product 73 = .ok (.aload_n 2, 1) := by decide +kernel
theorem d_Lim_product_74 : decode b_Lim_product 74 = .ok (.iconst 4, 1) := by decide +kernel
theorem d_Lim_product_75 : decode b_Lim_product 75 = .ok (.laload, 1) := by decide +kernel
theorem d_Lim_product_76 : decode b_Lim_product 76 = .ok (.lstore 31, 2) := by decide +kernel
theorem d_Lim_product_78 : decode b_Lim_product 78 = .ok (.aload_n 2, 1) := by decide +kernel
theorem d_Lim_product_79 : decode b_Lim_product 79 = .ok (.iconst 5, 1) := by decide +kernel
theorem d_Lim_product_80 : decode b_Lim_product 80 = .ok (.laload, 1) := by decide +kernel
theorem d_Lim_product_81 : decode b_Lim_product 81 = .ok (.lstore 33, 2) := by decide +kernel
theorem d_Lim_product_83 : decode b_Lim_product 83 = .ok (.aload_n 2, 1) := by decide +kernel
theorem d_Lim_product_84 : decode b_Lim_product 84 = .ok (.bipush 6, 2) := by decide +kernel
theorem d_Lim_product_86 : decode b_Lim_product 86 = .ok (.laload, 1) := by decide +kernel
theorem d_Lim_product_87 : decode b_Lim_product 87 = .ok (.lstore 35, 2) := by decide +kernel
theorem d_Lim_product_89 : decode b_Lim_product 89 = .ok (.aload_n 2, 1) := by decide +kernel
theorem d_Lim_product_90 : decode b_Lim_product 90 = .ok (.bipush 7, 2) := by decide +kernel
theorem d_Lim_product_92 : decode b_Lim_product 92 = .ok (.laload, 1) := by decide +kernel
theorem d_Lim_product_93 : decode b_Lim_product 93 = .ok (.lstore 37, 2) := by decide +kernel
theorem d_Lim_product_95 : decode b_Lim_product 95 = .ok (.aload_n 2, 1) := by decide +kernel
theorem d_Lim_product_96 : decode b_Lim_product 96 = .ok (.bipush 8, 2) := by decide +kernel
theorem d_Lim_product_98 : decode b_Lim_product 98 = .ok (.laload, 1) := by decide +kernel
theorem d_Lim_product_99 : decode b_Lim_product 99 = .ok (.lstore 39, 2) := by decide +kernel
theorem d_Lim_product_101 : decode b_Lim_product 101 = .ok (.aload_n 2, 1) := by decide +kernel
theorem d_Lim_product_102 : decode b_Lim_product 102 = .ok (.bipush 9, 2) := by decide +kernel
theorem d_Lim_product_104 : decode b_Lim_product 104 = .ok (.laload, 1) := by decide +kernel
theorem d_Lim_product_105 : decode b_Lim_product 105 = .ok (.lstore 41, 2) := by decide +kernel
theorem d_Lim_product_107 : decode b_Lim_product 107 = .ok (.aload_n 0, 1) := by decide +kernel
theorem d_Lim_product_108 : decode b_Lim_product 108 = .ok (.iconst 0, 1) := by decide +kernel
theorem d_Lim_product_109 : decode b_Lim_product 109 = .ok (.lload_n 3, 1) := by decide +kernel
theorem d_Lim_product_110 : decode b_Lim_product 110 = .ok (.lload 23, 2) := by decide +kernel
theorem d_Lim_product_112 : decode b_Lim_product 112 = .ok (.lmul, 1) := by decide +kernel
theorem d_Lim_product_113 : decode b_Lim_product 113 = .ok (.lastore, 1) := by decide +kernel
theorem d_Lim_product_114 : decode b_Lim_product 114 = .ok (.aload_n 0, 1) := by decide +kernel
theorem d_Lim_product_115 : decode b_Lim_product 115 = .ok (.iconst 1, 1) := by decide +kernel
theorem d_Lim_product_116 : decode b_Lim_product 116 = .ok (.lload_n 3, 1) := by decide +kernel
theorem d_Lim_product_117 : decode b_Lim_product 117 = .ok (.lload 25, 2) := by decide +kernel
theorem d_Lim_product_119 : decode b_Lim_product 119 = .ok (.lmul, 1) := by decide +kernel
theorem d_Lim_product_120 : decode b_Lim_product 120 = .ok (.lload 5, 2) := by decide +kernel
theorem d_Lim_product_122 : decode b_Lim_product 122 = .ok (.lload 23, 2) := by decide +kernel
theorem d_Lim_product_124 : decode b_Lim_product 124 = .ok (.lmul, 1) := by decide +kernel
theorem d_Lim_product_125 : decode b_Lim_product 125 = .ok (.ladd, 1) := by decide +kernel
theorem d_Lim_product_126 : decode b_Lim_product 126 = .ok (.lastore, 1) := by decide +kernel
theorem d_Lim_product_127 : decode b_Lim_product 127 = .ok (.aload_n 0, 1) := by decide +kernel
theorem d_Lim_product_128 : decode b_Lim_product 128 = .ok (.iconst 2, 1) := by decide +kernel
theorem d_Lim_product_129 : decode b_Lim_product 129 = .ok (.lload_n 3, 1) := by decide +kernel
theorem d_Lim_product_130 : decode b_Lim_product 130 = .ok (.lload 27, 2) := by decide +kernel
theorem d_Lim_product_132 : decode b_Lim_product 132 = .ok (.lmul, 1) := by decide +kernel
theorem d_Lim_product_133 : decode b_Lim_product 133 = .ok (.lload 5, 2) := by decide +kernel
theorem d_Lim_product_135 : decode b_Lim_product 135 = .ok (.lload 25, 2) := by decide +kernel
theorem d_Lim_product_137 : decode b_Lim_product 137 = .ok (.lmul, 1) := by decide +kernel
theorem d_Lim_product_138 : decode b_Lim_product 138 = .ok (.ladd, 1) := by decide +kernel
theorem d_Lim_product_139 : decode b_Lim_product 139 = .ok (.lload 7, 2) := by decide +kernel
theorem d_Lim_product_141 : decode b_Lim_product 141 = .ok (.lload 23, 2) := by decide +kernel
theorem d_Lim_product_143 : decode b_Lim_product 143 = .ok (.lmul, 1) := by decide +kernel
theorem d_Lim_product_144 : decode b_Lim_product 144 = .ok (.ladd, 1) := by decide +kernel
theorem d_Lim_product_145 : decode b_Lim_product 145 = .ok (.lastore, 1) := by decide +kernel
theorem d_Lim_product_146 : decode b_Lim_product 146 = .ok (.aload_n 0, 1) := by decide +kernel
theorem d_Lim_product_147 : decode b_Lim_product 147 = .ok (.iconst 3, 1) := by decide +kernel
theorem d_Lim_product_148 : decode b_Lim_product 148 = .ok (.lload_n 3, 1) := by decide +kernel
theorem d_Lim_product_149 : decode b_Lim_product 149 = .ok (.lload 29, 2) := by decide +kernel
theorem d_Lim_product_151 : decode b_Lim_product 151 = .ok (.lmul, 1) := by decide +kernel
theorem d_Lim_product_152 : decode b_Lim_product 152 = .ok (.lload 5, 2) := by decide +kernel
theorem d_Lim_product_154 : decode b_Lim_product 154 = .ok (.lload 27, 2) := by decide +kernel
theorem d_Lim_product_156 : decode b_Lim_product 156 = .ok (.lmul, 1) := by decide +kernel
theorem d_Lim_product_157 : decode b_Lim_product 157 = .ok (.ladd, 1) := by decide +kernel
theorem d_Lim_product_158 : decode b_Lim_product 158 = .ok (.lload 7, 2) := by decide +kernel
theorem d_Lim_product_160 : decode b_Lim_product 160 = .ok (.lload 25, 2) := by decide +kernel
theorem d_Lim_product_162 : decode b_Lim_product 162 = .ok (.lmul, 1) := by decide +kernel
theorem d_Lim_product_163 : decode b_Lim_product 163 = .ok (.ladd, 1) := by decide +kernel
theorem d_Lim_product_164 : decode b_Lim_product 164 = .ok (.lload 9, 2) := by decide +kernel
theorem d_Lim_product_166 : decode b_Lim_product 166 = .ok (.lload 23, 2) := by decide +kernel
theorem d_Lim_product_168 : decode b_Lim_product 168 = .ok (.lmul, 1) := by decide +kernel
theorem d_Lim_product_169 : decode b_Lim_product 169 = .ok (.ladd, 1) := by decide +kernel
theorem d_Lim_product_170 : decode b_Lim_product 170 = .ok (.lastore, 1) := by decide +kernel
theorem d_Lim_product_171 : decode b_Lim_product 171 = .ok (.aload_n 0, 1) := by decide +kernel
theorem d_Lim_product_172 : decode b_Lim_product 172 = .ok (.iconst 4, 1) := by decide +kernel
theorem d_Lim_product_173 : decode b_Lim_product 173 = .ok (.lload_n 3, 1) := by decide +kernel
theorem d_Lim_product_174 : decode b_Lim_product 174 = .ok (.lload 31, 2) := by decide +kernel
theorem d_Lim_product_176 : decode b_Lim_product 176 = .ok (.lmul, 1) := by decide +kernel
theorem d_Lim_product_177 : decode b_Lim_product 177 = .ok (.lload 5, 2) := by decide +kernel
theorem d_Lim_product_179 : decode b_Lim_product 179 = .ok (.lload 29, 2) := by decide +kernel
theorem d_Lim_product_181 : decode b_Lim_product 181 = .ok (.lmul, 1) := by decide +kernel
theorem d_Lim_product_182 : decode b_Lim_product 182 = .ok (.ladd, 1) := by decide +kernel
theorem d_Lim_product_183 : decode b_Lim_product 183 = .ok (.lload 7, 2) := by decide +kernel
theorem d_Lim_product_185 : decode b_Lim_product 185 = .ok (.lload 27, 2) := by decide +kernel
theorem d_Lim_product_187 : decode b_Lim_product 187 = .ok (.lmul, 1) := by decide +kernel
theorem d_Lim_product_188 : decode b_Lim_product 188 = .ok (.ladd, 1) := by decide +kernel
theorem d_Lim_product_189 : decode b_Lim_product 189 = .ok (.lload 9, 2) := by decide +kernel
theorem d_Lim_product_191 : decode b_Lim_product 191 = .ok (.lload 25, 2) := by decide +kernel
theorem d_Lim_product_193 : decode b_Lim_product 193 = .ok (.lmul, 1) := by decide +kernel
theorem d_Lim_product_194 : decode b_Lim_product 194 = .ok (.ladd, 1) := by decide +kernel
theorem d_Lim_product_195 : decode b_Lim_product 195 = .ok (.lload 11, 2) := by decide +kernel
theorem d_Lim_product_197 : decode b_Lim_product 197 = .ok (.lload 23, 2) := by decide +kernel
theorem d_Lim_product_199 : decode b_Lim_product 199 = .ok (.lmul, 1) := by decide +kernel
theorem d_Lim_product_200 : decode b_Lim_product 200 = .ok (.ladd, 1) := by decide +kernel
theorem d_Lim_product_201 : decode b_Lim_product 201 = .ok (.lastore, 1) := by decide +kernel
theorem d_Lim_product_202 : decode b_Lim_product 202 = .ok (.aload_n 0, 1) := by decide +kernel
theorem d_Lim_product_203 : decode b_Lim_product 203 = .ok (.iconst 5, 1) := by decide +kernel
theorem d_Lim_product_204 : decode b_Lim_product 204 = .ok (.lload_n 3, 1) := by decide +kernel
theorem d_Lim_product_205 : decode b_Lim_product 205 = .ok (.lload 33, 2) := by decide +kernel
theorem d_Lim_product_207 : decode b_Lim_product 207 = .ok (.lmul, 1) := by decide +kernel
theorem d_Lim_product_208 : decode b_Lim_product 208 = .ok (.lload 5, 2) := by decide +kernel
theorem d_Lim_product_210 : decode b_Lim_product 210 = .ok (.lload 31, 2) := by decide +kernel
theorem d_Lim_product_212 : decode b_Lim_product 212 = .ok (.lmul, 1) := by decide +kernel
theorem d_Lim_product_213 : decode b_Lim_product 213 = .ok (.ladd, 1) := by decide +kernel
theorem d_Lim_product_214 : decode b_Lim_product 214 = .ok (.lload 7, 2) := by decide +kernel
theorem d_Lim_product_216 : decode b_Lim_product 216 = .ok (.lload 29, 2) := by decide +kernel
theorem d_Lim_product_218 : decode b_Lim_product 218 = .ok (.lmul, 1) := by decide +kernel
theorem d_Lim_product_219 : decode b_Lim_product 219 = .ok (.ladd, 1) := by decide +kernel
theorem d_Lim_product_220 : decode b_Lim_product 220 = .ok (.lload 9, 2) := by decide +kernel
theorem d_Lim_product_222 : decode b_Lim_product 222 = .ok (.lload 27, 2) := by decide +kernel
theorem d_Lim_product_224 : decode b_Lim_product 224 = .ok (.lmul, 1) := by decide +kernel
theorem d_Lim_product_225 : decode b_Lim_product 225 = .ok (.ladd, 1) := by decide +kernel
theorem d_Lim_product_226 : decode b_Lim_product 226 = .ok (.lload 11, 2) := by decide +kernel
theorem d_Lim_product_228 : decode b_Lim_product 228 = .ok (.lload 25, 2) := by decide +kernel
theorem d_Lim_product_230 : decode b_Lim_product 230 = .ok (.lmul, 1) := by decide +kernel
theorem d_Lim_product_231 : decode b_Lim_product 231 = .ok (.ladd, 1) := by decide +kernel
theorem d_Lim_product_232 : decode b_Lim_product 232 = .ok (.lload 13, 2) := by decide +kernel
theorem d_Lim_product_234 : decode b_Lim_product 234 = .ok (.lload 23, 2) := by decide +kernel
theorem d_Lim_product_236 : decode b_Lim_product 236 = .ok (.lmul, 1) := by decide +kernel
theorem d_Lim_product_237 : decode b_Lim_product 237 = .ok (.ladd, 1) := by decide +kernel
theorem d_Lim_product_238 : decode b_Lim_product 238 = .ok (.lastore, 1) := by decide +kernel
theorem d_Lim_product_239 : decode b_Lim_product 239 = .ok (.aload_n 0, 1) := by decide +kernel
theorem d_Lim_product_240 : decode b_Lim_product 240 = .ok (.bipush 6, 2) := by decide +kernel
theorem d_Lim_product_242 : decode b_Lim_product 242 = .ok (.lload_n 3, 1) := by decide +kernel
theorem d_Lim_product_243 : decode b_Lim_product 243 = .ok (.lload 35, 2) := by decide +kernel
theorem d_Lim_product_245 : decode b_Lim_product 245 = .ok (.lmul, 1) := by decide +kernel
theorem d_Lim_product_246 : decode b_Lim_product 246 = .ok (.lload 5, 2) := by decide +kernel
theorem d_Lim_product_248 : decode b_Lim_product 248 = .ok (.lload 33, 2) := by decide +kernel
theorem d_Lim_product_250 : decode b_Lim_product 250 = .ok (.lmul, 1) := by decide +kernel
theorem d_Lim_product_251 : decode b_Lim_product 251 = .ok (.ladd, 1) := by decide +kernel
theorem d_Lim_product_252 : decode b_Lim_product 252 = .ok (.lload 7, 2) := by decide +kernel
theorem d_Lim_product_254 : decode b_Lim_product 254 = .ok (.lload 31, 2) := by decide +kernel
theorem d_Lim_product_256 : decode b_Lim_product 256 = .ok (.lmul, 1) := by decide +kernel
theorem d_Lim_product_257 : decode b_Lim_product 257 = .ok (.ladd, 1) := by decide +kernel
theorem d_Lim_product_258 : decode b_Lim_product 258 = .ok (.lload 9, 2) := by decide +kernel
theorem d_Lim_product_260 : decode b_Lim_product 260 = .ok (.lload 29, 2) := by decide +kernel
theorem d_Lim_product_262 : decode b_Lim_product 262 = .ok (.lmul, 1) := by decide +kernel
theorem d_Lim_product_263 : decode b_Lim_product 263 = .ok (.ladd, 1) := by decide +kernel
theorem d_Lim_product_264 : decode b_Lim_product 264 = .ok (.lload 11, 2) := by decide +kernel
theorem d_Lim_product_266 : decode b_Lim_product 266 = .ok (.lload 27, 2) := by decide +kernel
theorem d_Lim_product_268 : decode b_Lim_product 268 = .ok (.lmul, 1) := by decide +kernel
theorem d_Lim_product_269 : decode b_Lim_product 269 = .ok (.ladd, 1) := by decide +kernel
theorem d_Lim_product_270 : decode b_Lim_product 270 = .ok (.lload 13, 2) := by decide +kernel
theorem d_Lim_product_272 : decode b_Lim_product 272 = .ok (.lload 25, 2) := by decide +kernel
theorem d_Lim_product_274 : decode b_Lim_product 274 = .ok (.lmul, 1) := by decide +kernel
theorem d_Lim_product_275 : decode b_Lim_product 275 = .ok (.ladd, 1) := by decide +kernel
theorem d_Lim_product_276 : decode b_Lim_product 276 = .ok (.lload 15, 2) := by decide +kernel
theorem d_Lim_product_278 : decode b_Lim_product 278 = .ok (.lload 23, 2) := by decide +kernel
theorem d_Lim_product_280 : decode b_Lim_product 280 = .ok (.lmul, 1) := by decide +kernel
theorem d_Lim_product_281 : decode b_Lim_product 281 = .ok (.ladd, 1) := by decide +kernel
theorem d_Lim_product_282 : decode b_Lim_product 282 = .ok (.lastore, 1) := by decide +kernel
theorem d_Lim_product_283 : decode b_Lim_product 283 = .ok (.aload_n 0, 1) := by decide +kernel
theorem d_Lim_product_284 : decode b_Lim_product 284 = .ok (.bipush 7, 2) := by decide +kernel
theorem d_Lim_product_286 : decode b_Lim_product 286 = .ok (.lload_n 3, 1) := by decide +kernel
theorem d_Lim_product_287 : decode b_Lim_product 287 = .ok (.lload 37, 2) := by decide +kernel
theorem d_Lim_product_289 : decode b_Lim_product 289 = .ok (.lmul, 1) := by decide +kernel
theorem d_Lim_product_290 : decode b_Lim_product 290 = .ok (.lload 5, 2) := by decide +kernel
theorem d_Lim_product_292 : decode b_Lim_product 292 = .ok (.lload 35, 2) := by decide +kernel
theorem d_Lim_product_294 : decode b_Lim_product 294 = .ok (.lmul, 1) := by decide +kernel
theorem d_Lim_product_295 : decode b_Lim_product 295 = .ok (.ladd, 1) := by decide +kernel
theorem d_Lim_product_296 : decode b_Lim_product 296 = .ok (.lload 7, 2) := by decide +kernel
theorem d_Lim_product_298 : decode b_Lim_product 298 = .ok (.lload 33, 2) := by decide +kernel
theorem d_Lim_product_300 : decode b_Lim_product 300 = .ok (.lmul, 1) := by decide +kernel
theorem d_Lim_product_301 : decode b_Lim_product 301 = .ok (.ladd, 1) := by decide +kernel
theorem d_Lim_product_302 : decode b_Lim_product 302 = .ok (.lload 9, 2) := by decide +kernel
theorem d_Lim_product_304 : decode b_Lim_product 304 = .ok (.lload 31, 2) := by decide +kernel
theorem d_Lim_product_306 : decode b_Lim_product 306 = .ok (.lmul, 1) := by decide +kernel
theorem d_Lim_product_307 : decode b_Lim_product 307 = .ok (.ladd, 1) := by decide +kernel
theorem d_Lim_product_308 : decode b_Lim_product 308 = .ok (.lload 11, 2) := by decide +kernel
theorem d_Lim_product_310 : decode b_Lim_product 310 = .ok (.lload 29, 2) := by decide +kernel
theorem d_Lim_product_312 : decode b_Lim_product 312 = .ok (.lmul, 1) := by decide +kernel
theorem d_Lim_product_313 : decode b_Lim_product 313 = .ok (.ladd, 1) := by decide +kernel
theorem d_Lim_product_314 : decode b_Lim_product 314 = .ok (.lload 13, 2) := by decide +kernel
theorem d_Lim_product_316 : decode b_Lim_product 316 = .ok (.lload 27, 2) := by decide +kernel
theorem d_Lim_product_318 : decode b_Lim_product 318 = .ok (.lmul, 1) := by decide +kernel
theorem d_Lim_product_319 : decode b_Lim_product 319 = .ok (.ladd, 1) := by decide +kernel
theorem d_Lim_product_320 : decode b_Lim_product 320 = .ok (.lload 15, 2) := by decide +kernel
theorem d_Lim_product_322 : decode b_Lim_product 322 = .ok (.lload 25, 2) := by decide +kernel
theorem d_Lim_product_324 : decode b_Lim_product 324 = .ok (.lmul, 1) := by decide +kernel
theorem d_Lim_product_325 : decode b_Lim_product 325 = .ok (.ladd, 1) := by decide +kernel
theorem d_Lim_product_326 : decode b_Lim_product 326 = .ok (.lload 17, 2) := by decide +kernel
theorem d_Lim_product_328 : decode b_Lim_product 328 = .ok (.lload 23, 2) := by decide +kernel
theorem d_Lim_product_330 : decode b_Lim_product 330 = .ok (.lmul, 1) := by decide +kernel
theorem d_Lim_product_331 : decode b_Lim_product 331 = .ok (.ladd, 1) := by decide +kernel
theorem d_Lim_product_332 : decode b_Lim_product 332 = .ok (.lastore, 1) := by decide +kernel
theorem d_Lim_product_333 : decode b_Lim_product 333 = .ok (.aload_n 0, 1) := by decide +kernel
theorem d_Lim_product_334 : decode b_Lim_product 334 = .ok (.bipush 8, 2) := by decide +kernel
theorem d_Lim_product_336 : decode b_Lim_product 336 = .ok (.lload_n 3, 1) := by decide +kernel
theorem d_Lim_product_337 : decode b_Lim_product 337 = .ok (.lload 39, 2) := by decide +kernel
theorem d_Lim_product_339 : decode b_Lim_product 339 = .ok (.lmul, 1) := by decide +kernel
theorem d_Lim_product_340 : decode b_Lim_product 340 = .ok (.lload 5, 2) := by decide +kernel
theorem d_Lim_product_342 : decode b_Lim_product 342 = .ok (.lload 37, 2) := by decide +kernel
theorem d_Lim_product_344 : decode b_Lim_product 344 = .ok (.lmul, 1) := by decide +kernel
theorem d_Lim_product_345 : decode b_Lim_product 345 = .ok (.ladd, 1) := by decide +kernel
theorem d_Lim_product_346 : decode b_Lim_product 346 = .ok (.lload 7, 2) := by decide +kernel
theorem d_Lim_product_348 : decode b_Lim_product 348 = .ok (.lload 35, 2) := by decide +kernel
theorem d_Lim_product_350 : decode b_Lim_product 350 = .ok (.lmul, 1) := by decide +kernel
theorem d_Lim_product_351 : decode b_Lim_product 351 = .ok (.ladd, 1) := by decide +kernel
theorem d_Lim_product_352 : decode b_Lim_product 352 = .ok (.lload 9, 2) := by decide +kernel
theorem d_Lim_product_354 : decode b_Lim_product 354 = .ok (.lload 33, 2) := by decide +kernel
theorem d_Lim_product_356 : decode b_Lim_product 356 = .ok (.lmul, 1) := by decide +kernel
theorem d_Lim_product_357 : decode b_Lim_product 357 = .ok (.ladd, 1) := by decide +kernel
theorem d_Lim_product_358 : decode b_Lim_product 358 = .ok (.lload 11, 2) := by decide +kernel
theorem d_Lim_product_360 : decode b_Lim_product 360 = .ok (.lload 31, 2) := by decide +kernel
theorem d_Lim_product_362 : decode b_Lim_product 362 = .ok (.lmul, 1) := by decide +kernel
theorem d_Lim_product_363 : decode b_Lim_product 363 = .ok (.ladd, 1) := by decide +kernel
theorem d_Lim_product_364 : decode b_Lim_product 364 = .ok (.lload 13, 2) := by decide +kernel
theorem d_Lim_product_366 : decode b_Lim_product 366 = .ok (.lload 29, 2) := by decide +kernel
theorem d_Lim_product_368 : decode b_Lim_product 368 = .ok (.lmul, 1) := by decide +kernel
theorem d_Lim_product_369 : decode b_Lim_product 369 = .ok (.ladd, 1) := by decide +kernel
theorem d_Lim_product_370 : decode b_Lim_product 370 = .ok (.lload 15, 2) := by decide +kernel
theorem d_Lim_product_372 : decode b_Lim_product 372 = .ok (.lload 27, 2) := by decide +kernel
theorem d_Lim_product_374 : decode b_Lim_product 374 = .ok (.lmul, 1) := by decide +kernel
theorem d_Lim_product_375 : decode b_Lim_product 375 = .ok (.ladd, 1) := by decide +kernel
theorem d_Lim_product_376 : decode b_Lim_product 376 = .ok (.lload 17, 2) := by decide +kernel
theorem d_Lim_product_378 : decode b_Lim_product 378 = .ok (.lload 25, 2) := by decide +kernel
theorem d_Lim_product_380 : decode b_Lim_product 380 = .ok (.lmul, 1) := by decide +kernel
theorem d_Lim_product_381 : decode b_Lim_product 381 = .ok (.ladd, 1) := by decide +kernel
theorem d_Lim_product_382 : decode b_Lim_product 382 = .ok (.lload 19, 2) := by decide +kernel
theorem d_Lim_product_384 : decode b_Lim_product 384 = .ok (.lload 23, 2) := by decide +kernel
theorem d_Lim_product_386 : decode b_Lim_product 386 = .ok (.lmul, 1) := by decide +kernel
theorem d_Lim_product_387 : decode b_Lim_product 387 = .ok (.ladd, 1) := by decide +kernel
theorem d_Lim_product_388 : decode b_Lim_product 388 = .ok (.lastore, 1) := by decide +kernel
theorem d_Lim_product_389 : decode b_Lim_product 389 = .ok (.aload_n 0, 1) := by decide +kernel
theorem d_Lim_product_390 : decode b_Lim_product 390 = .ok (.bipush 9, 2) := by decide +kernel
theorem d_Lim_product_392 : decode b_Lim_product 392 = .ok (.lload_n 3, 1) := by decide +kernel
theorem d_Lim_product_393 : decode b_Lim_product 393 = .ok (.lload 41, 2) := by decide +kernel
theorem d_Lim_product_395 : decode b_Lim_product 395 = .ok (.lmul, 1) := by decide +kernel
theorem d_Lim_product_396 : decode b_Lim_product 396 = .ok (.lload 5, 2) := by decide +kernel
theorem d_Lim_product_398 : decode b_Lim_product 398 = .ok (.lload 39, 2) := by decide +kernel
theorem d_Lim_product_400 : decode b_Lim_product 400 = .ok (.lmul, 1) := by decide +kernel
theorem d_Lim_product_401 : decode b_Lim_product 401 = .ok (.ladd, 1) := by decide +kernel
theorem d_Lim_product_402 : decode b_Lim_product 402 = .ok (.lload 7, 2) := by decide +kernel
theorem d_Lim_product_404 : decode b_Lim_product 404 = .ok (.lload 37, 2) := by decide +kernel
theorem d_Lim_product_406 : decode b_Lim_product 406 = .ok (.lmul, 1) := by decide +kernel
theorem d_Lim_product_407 : decode b_Lim_product 407 = .ok (.ladd, 1) := by decide +kernel
theorem d_Lim_product_408 : decode b_Lim_product 408 = .ok (.lload 9, 2) := by decide +kernel
theorem d_Lim_product_410 : decode b_Lim_product 410 = .ok (.lload 35, 2) := by decide +kernel
theorem d_Lim_product_412 : decode b_Lim_product 412 = .ok (.lmul, 1) := by decide +kernel
theorem d_Lim_product_413 : decode b_Lim_product 413 = .ok (.ladd, 1) := by decide +kernel
theorem d_Lim_product_414 : decode b_Lim_product 414 = .ok (.lload 11, 2) := by decide +kernel
theorem d_Lim_product_416 : decode b_Lim_product 416 = .ok (.lload 33, 2) := by decide +kernel
theorem d_Lim_product_418 : decode b_Lim_product 418 = .ok (.lmul, 1) := by decide +kernel
theorem d_Lim_product_419 : decode b_Lim_product 419 = .ok (.ladd, 1) := by decide +kernel
theorem d_Lim_product_420 : decode b_Lim_product 420 = .ok (.lload 13, 2) := by decide +kernel
theorem d_Lim_product_422 : decode b_Lim_product 422 = .ok (.lload 31, 2) := by decide +kernel
theorem d_Lim_product_424 : decode b_Lim_product 424 = .ok (.lmul, 1) := by decide +kernel
theorem d_Lim_product_425 : decode b_Lim_product 425 = .ok (.ladd, 1) := by decide +kernel
theorem d_Lim_product_426 : decode b_Lim_product 426 = .ok (.lload 15, 2) := by decide +kernel
theorem d_Lim_product_428 : decode b_Lim_product 428 = .ok (.lload 29, 2) := by decide +kernel
theorem d_Lim_product_430 : decode b_Lim_product 430 = .ok (.lmul, 1) := by decide +kernel
theorem d_Lim_product_431 : decode b_Lim_product 431 = .ok (.ladd, 1) := by decide +kernel
theorem d_Lim_product_432 : decode b_Lim_product 432 = .ok (.lload 17, 2) := by decide +kernel
theorem d_Lim_product_434 : decode b_Lim_product 434 = .ok (.lload 27, 2) := by decide +kernel
theorem d_Lim_product_436 : decode b_Lim_product 436 = .ok (.lmul, 1) := by decide +kernel
theorem d_Lim_product_437 : decode b_Lim_product 437 = .ok (.ladd, 1) := by decide +kernel
theorem d_Lim_product_438 : decode b_Lim_product 438 = .ok (.lload 19, 2) := by decide +kernel
theorem d_Lim_product_440 : decode b_Lim_product 440 = .ok (.lload 25, 2) := by decide +kernel
theorem d_Lim_product_442 : decode b_Lim_product 442 = .ok (.lmul, 1) := by decide +kernel
theorem d_Lim_product_443 : decode b_Lim_product 443 = .ok (.ladd, 1) := by decide +kernel
theorem d_Lim_product_444 : decode b_Lim_product 444 = .ok (.lload 21, 2) := by decide +kernel
theorem d_Lim_product_446 : decode b_Lim_product 446 = .ok (.lload 23, 2) := by decide +kernel
theorem d_Lim_product_448 : decode b_Lim_product 448 = .ok (.lmul, 1) := by decide +kernel
theorem d_Lim_product_449 : decode b_Lim_product 449 = .ok (.ladd, 1) := by decide +kernel
theorem d_Lim_product_450 : decode b_Lim_product 450 = .ok (.lastore, 1) := by decide +kernel
theorem d_Lim_product_451 : decode b_Lim_product 451 = .ok (.aload_n 0, 1) := by decide +kernel
theorem d_Lim_product_452 : decode b_Lim_product 452 = .ok (.bipush 10, 2) := by decide +kernel
theorem d_Lim_product_454 : decode b_Lim_product 454 = .ok (.lload 5, 2) := by decide +kernel
theorem d_Lim_product_456 : decode b_Lim_product 456 = .ok (.lload 41, 2) := by decide +kernel
theorem d_Lim_product_458 : decode b_Lim_product 458 = .ok (.lmul, 1) := by decide +kernel
theorem d_Lim_product_459 : decode b_Lim_product 459 = .ok (.lload 7, 2) := by decide +kernel
theorem d_Lim_product_461 : decode b_Lim_product 461 = .ok (.lload 39, 2) := by decide +kernel
theorem d_Lim_product_463 : decode b_Lim_product 463 = .ok (.lmul, 1) := by decide +kernel
theorem d_Lim_product_464 : decode b_Lim_product 464 = .ok (.ladd, 1) := by decide +kernel
theorem d_Lim_product_465 : decode b_Lim_product 465 = .ok (.lload 9, 2) := by decide +kernel
theorem d_Lim_product_467 : decode b_Lim_product 467 = .ok (.lload 37, 2) := by decide +kernel
theorem d_Lim_product_469 : decode b_Lim_product 469 = .ok (.lmul, 1) := by decide +kernel
theorem d_Lim_product_470 : decode b_Lim_product 470 = .ok (.ladd, 1) := by decide +kernel
theorem d_Lim_product_471 : decode b_Lim_product 471 = .ok (.lload 11, 2) := by decide +kernel
theorem d_Lim_product_473 : decode b_Lim_product 473 = .ok (.lload 35, 2) := by decide +kernel
theorem d_Lim_product_475 : decode b_Lim_product 475 = .ok (.lmul, 1) := by decide +kernel
theorem d_Lim_product_476 : decode b_Lim_product 476 = .ok (.ladd, 1) := by decide +kernel
theorem d_Lim_product_477 : decode b_Lim_product 477 = .ok (.lload 13, 2) := by decide +kernel
theorem d_Lim_product_479 : decode b_Lim_product 479 = .ok (.lload 33, 2) := by decide +kernel
theorem d_Lim_product_481 : decode b_Lim_product 481 = .ok (.lmul, 1) := by decide +kernel
theorem d_Lim_product_482 : decode b_Lim_product 482 = .ok (.ladd, 1) := by decide +kernel
theorem d_Lim_product_483 : decode b_Lim_product 483 = .ok (.lload 15, 2) := by decide +kernel
theorem d_Lim_product_485 : decode b_Lim_product 485 = .ok (.lload 31, 2) := by decide +kernel
theorem d_Lim_product_487 : decode b_Lim_product 487 = .ok (.lmul, 1) := by decide +kernel
theorem d_Lim_product_488 : decode b_Lim_product 488 = .ok (.ladd, 1) := by decide +kernel
theorem d_Lim_product_489 : decode b_Lim_product 489 = .ok (.lload 17, 2) := by decide +kernel
theorem d_Lim_product_491 : decode b_Lim_product 491 = .ok (.lload 29, 2) := by decide +kernel
theorem d_Lim_product_493 : decode b_Lim_product 493 = .ok (.lmul, 1) := by decide +kernel
theorem d_Lim_product_494 : decode b_Lim_product 494 = .ok (.ladd, 1) := by decide +kernel
theorem d_Lim_product_495 : decode b_Lim_product 495 = .ok (.lload 19, 2) := by decide +kernel
theorem d_Lim_product_497 : decode b_Lim_product 497 = .ok (.lload 27, 2) := by decide +kernel
theorem d_Lim_product_499 : decode b_Lim_product 499 = .ok (.lmul, 1) := by decide +kernel
theorem d_Lim_product_500 : decode b_Lim_product 500 = .ok (.ladd, 1) := by decide +kernel
theorem d_Lim_product_501 : decode b_Lim_product 501 = .ok (.lload 21, 2) := by decide +kernel
theorem d_Lim_product_503 : decode b_Lim_product 503 = .ok (.lload 25, 2) := by decide +kernel
theorem d_Lim_product_505 : decode b_Lim_product 505 = .ok (.lmul, 1) := by decide +kernel
theorem d_Lim_product_506 : decode b_Lim_product 506 = .ok (.ladd, 1) := by decide +kernel
theorem d_Lim_product_507 : decode b_Lim_product 507 = .ok (.lastore, 1) := by decide +kernel
theorem d_Lim_product_508 : decode b_Lim_product 508 = .ok (.aload_n 0, 1) := by decide +kernel
theorem d_Lim_product_509 : decode b_Lim_product 509 = .ok (.bipush 11, 2) := by decide +kernel
theorem d_Lim_product_511 : decode b_Lim_product 511 = .ok (.lload 7, 2) := by decide +kernel
theorem d_Lim_product_513 : decode b_Lim_product 513 = .ok (.lload 41, 2) := by decide +kernel
theorem d_Lim_product_515 : decode b_Lim_product 515 = .ok (.lmul, 1) := by decide +kernel
theorem d_Lim_product_516 : decode b_Lim_product 516 = .ok (.lload 9, 2) := by decide +kernel
theorem d_Lim_product_518 : decode b_Lim_product 518 = .ok (.lload 39, 2) := by decide +kernel
theorem d_Lim_product_520 : decode b_Lim_product 520 = .ok (.lmul, 1) := by decide +kernel
theorem d_Lim_product_521 : decode b_Lim_product 521 = .ok (.ladd, 1) := by decide +kernel
theorem d_Lim_product_522 : decode b_Lim_product 522 = .ok (.lload 11, 2) := by decide +kernel
theorem d_Lim_product_524 : decode b_Lim_product 524 = .ok (.lload 37, 2) := by decide +kernel
theorem d_Lim_product_526 : decode b_Lim_product 526 = .ok (.lmul, 1) := by decide +kernel
theorem d_Lim_product_527 : decode b_Lim_product 527 = .ok (.ladd, 1) := by decide +kernel
theorem d_Lim_product_528 : decode b_Lim_product 528 = .ok (.lload 13, 2) := by decide +kernel
theorem d_Lim_product_530 : decode b_Lim_product 530 = .ok (.lload 35, 2) := by decide +kernel
theorem d_Lim_product_532 : decode b_Lim_product 532 = .ok (.lmul, 1) := by decide +kernel
theorem d_Lim_product_533 : decode b_Lim_product 533 = .ok (.ladd, 1) := by decide +kernel
theorem d_Lim_product_534 : decode b_Lim_product 534 = .ok (.lload 15, 2) := by decide +kernel
theorem d_Lim_product_536 : decode b_Lim_product 536 = .ok (.lload 33, 2) := by decide +kernel
theorem d_Lim_product_538 : decode b_Lim_product 538 = .ok (.lmul, 1) := by decide +kernel
theorem d_Lim_product_539 : decode b_Lim_product 539 = .ok (.ladd, 1) := by decide +kernel
theorem d_Lim_product_540 : decode b_Lim_product 540 = .ok (.lload 17, 2) := by decide +kernel
theorem d_Lim_product_542 : decode b_Lim_product 542 = .ok (.lload 31, 2) := by decide +kernel
theorem d_Lim_product_544 : decode b_Lim_product 544 = .ok (.lmul, 1) := by decide +kernel
theorem d_Lim_product_545 : decode b_Lim_product 545 = .ok (.ladd, 1) := by decide +kernel
theorem d_Lim_product_546 : decode b_Lim_product 546 = .ok (.lload 19, 2) := by decide +kernel
theorem d_Lim_product_548 : decode b_Lim_product 548 = .ok (.lload 29, 2) := by decide +kernel
theorem d_Lim_product_550 : decode b_Lim_product 550 = .ok (.lmul, 1) := by decide +kernel
theorem d_Lim_product_551 : decode b_Lim_product 551 = .ok (.ladd, 1) := by decide +kernel
theorem d_Lim_product_552 : decode b_Lim_product 552 = .ok (.lload 21, 2) := by decide +kernel
theorem d_Lim_product_554 : decode b_Lim_product 554 = .ok (.lload 27, 2) := by decide +kernel
theorem d_Lim_product_556 : decode b_Lim_product 556 = .ok (.lmul, 1) := by decide +kernel
theorem d_Lim_product_557 : decode b_Lim_product 557 = .ok (.ladd, 1) := by decide +kernel
theorem d_Lim_product_558 : decode b_Lim_product 558 = .ok (.lastore, 1) := by decide +kernel
theorem d_Lim_product_559 : decode b_Lim_product 559 = .ok (.aload_n 0, 1) := by decide +kernel
theorem d_Lim_product_560 : decode b_Lim_product 560 = .ok (.bipush 12, 2) := by decide +kernel
theorem d_Lim_product_562 : decode b_Lim_product 562 = .ok (.lload 9, 2) := by decide +kernel
theorem d_Lim_product_564 : decode b_Lim_product 564 = .ok (.lload 41, 2) := by decide +kernel
theorem d_Lim_product_566 : decode b_Lim_product 566 = .ok (.lmul, 1) := by decide +kernel
theorem d_Lim_product_567 : decode b_Lim_product 567 = .ok (.lload 11, 2) := by decide +kernel
theorem d_Lim_product_569 : decode b_Lim_product 569 = .ok (.lload 39, 2) := by decide +kernel
theorem d_Lim_product_571 : decode b_Lim_product 571 = .ok (.lmul, 1) := by decide +kernel
theorem d_Lim_product_572 : decode b_Lim_product 572 = .ok (.ladd, 1) := by decide +kernel
theorem d_Lim_product_573 : decode b_Lim_product 573 = .ok (.lload 13, 2) := by decide +kernel
theorem d_Lim_product_575 : decode b_Lim_product 575 = .ok (.lload 37, 2) := by decide +kernel
theorem d_Lim_product_577 : decode b_Lim_product 577 = .ok (.lmul, 1) := by decide +kernel
theorem d_Lim_product_578 : decode b_Lim_product 578 = .ok (.ladd, 1) := by decide +kernel
theorem d_Lim_product_579 : decode b_Lim_product 579 = .ok (.lload 15, 2) := by decide +kernel
theorem d_Lim_product_581 : decode b_Lim_product 581 = .ok (.lload 35, 2) := by decide +kernel
theorem d_Lim_product_583 : decode b_Lim_product 583 = .ok (.lmul, 1) := by decide +kernel
theorem d_Lim_product_584 : decode b_Lim_product 584 = .ok (.ladd, 1) := by decide +kernel
theorem d_Lim_product_585 : decode b_Lim_product 585 = .ok (.lload 17, 2) := by decide +kernel
theorem d_Lim_product_587 : decode b_Lim_product 587 = .ok (.lload 33, 2) := by decide +kernel
theorem d_Lim_product_589 : decode b_Lim_product 589 = .ok (.lmul, 1) := by decide +kernel
theorem d_Lim_product_590 : decode b_Lim_product 590 = .ok (.ladd, 1) := by decide +kernel
theorem d_Lim_product_591 : decode b_Lim_product 591 = .ok (.lload 19, 2) := by decide +kernel
theorem d_Lim_product_593 : decode b_Lim_product 593 = .ok (.lload 31, 2) := by decide +kernel
theorem d_Lim_product_595 : decode b_Lim_product 595 = .ok (.lmul, 1) := by decide +kernel
theorem d_Lim_product_596 : decode b_Lim_product 596 = .ok (.ladd, 1) := by decide +kernel
theorem d_Lim_product_597 : decode b_Lim_product 597 = .ok (.lload 21, 2) := by decide +kernel
theorem d_Lim_product_599 : decode b_Lim_product 599 = .ok (.lload 29, 2) := by decide +kernel
theorem d_Lim_product_601 : decode b_Lim_product 601 = .ok (.lmul, 1) := by decide +kernel
theorem d_Lim_product_602 : decode b_Lim_product 602 = .ok (.ladd, 1) := by decide +kernel
theorem d_Lim_product_603 : decode b_Lim_product 603 = .ok (.lastore, 1) := by decide +kernel
theorem d_Lim_product_604 : decode b_Lim_product 604 = .ok (.aload_n 0, 1) := by decide +kernel
theorem d_Lim_product_605 : decode b_Lim_product 605 = .ok (.bipush 13, 2) := by decide +kernel
theorem d_Lim_product_607 : decode b_Lim_product 607 = .ok (.lload 11, 2) := by decide +kernel
theorem d_Lim_product_609 : decode b_Lim_product 609 = .ok (.lload 41, 2) := by decide +kernel
theorem d_Lim_product_611 : decode b_Lim_product 611 = .ok (.lmul, 1) := by decide +kernel
theorem d_Lim_product_612 : decode b_Lim_product 612 = .ok (.lload 13, 2) := by decide +kernel
theorem d_Lim_product_614 : decode b_Lim_product 614 = .ok (.lload 39, 2) := by decide +kernel
theorem d_Lim_product_616 : decode b_Lim_product 616 = .ok (.lmul, 1) := by decide +kernel
theorem d_Lim_product_617 : decode b_Lim_product 617 = .ok (.ladd, 1) := by decide +kernel
theorem d_Lim_product_618 : decode b_Lim_product 618 = .ok (.lload 15, 2) := by decide +kernel
theorem d_Lim_product_620 : decode b_Lim_product 620 = .ok (.lload 37, 2) := by decide +kernel
theorem d_Lim_product_622 : decode b_Lim_product 622 = .ok (.lmul, 1) := by decide +kernel
theorem d_Lim_product_623 : decode b_Lim_product 623 = .ok (.ladd, 1) := by decide +kernel
theorem d_Lim_product_624 : decode b_Lim_product 624 = .ok (.lload 17, 2) := by decide +kernel
theorem d_Lim_product_626 : decode b_Lim_product 626 = .ok (.lload 35, 2) := by decide +kernel
theorem d_Lim_product_628 : decode b_Lim_product 628 = .ok (.lmul, 1) := by decide +kernel
theorem d_Lim_product_629 : decode b_Lim_product 629 = .ok (.ladd, 1) := by decide +kernel
theorem d_Lim_product_630 : decode b_Lim_product 630 = .ok (.lload 19, 2) := by decide +kernel
theorem d_Lim_product_632 : decode b_Lim_product 632 = .ok (.lload 33, 2) := by decide +kernel
theorem d_Lim_product_634 : decode b_Lim_product 634 = .ok (.lmul, 1) := by decide +kernel
theorem d_Lim_product_635 : decode b_Lim_product 635 = .ok (.ladd, 1) := by decide +kernel
theorem d_Lim_product_636 : decode b_Lim_product 636 = .ok (.lload 21, 2) := by decide +kernel
theorem d_Lim_product_638 : decode b_Lim_product 638 = .ok (.lload 31, 2) := by decide +kernel
theorem d_Lim_product_640 : decode b_Lim_product 640 = .ok (.lmul, 1) := by decide +kernel
theorem d_Lim_product_641 : decode b_Lim_product 641 = .ok (.ladd, 1) := by decide +kernel
theorem d_Lim_product_642 : decode b_Lim_product 642 = .ok (.lastore, 1) := by decide +kernel
theorem d_Lim_product_643 : decode b_Lim_product 643 = .ok (.aload_n 0, 1) := by decide +kernel
theorem d_Lim_product_644 : decode b_Lim_product 644 = .ok (.bipush 14, 2) := by decide +kernel
theorem d_Lim_product_646 : decode b_Lim_product 646 = .ok (.lload 13, 2) := by decide +kernel
theorem d_Lim_product_648 : decode b_Lim_product 648 = .ok (.lload 41, 2) := by decide +kernel
theorem d_Lim_product_650 : decode b_Lim_product 650 = .ok (.lmul, 1) := by decide +kernel
theorem d_Lim_product_651 : decode b_Lim_product 651 = .ok (.lload 15, 2) := by decide +kernel
theorem d_Lim_product_653 : decode b_Lim_product 653 = .ok (.lload 39, 2) := by decide +kernel
theorem d_Lim_product_655 : decode b_Lim_product 655 = .ok (.lmul, 1) := by decide +kernel
theorem d_Lim_product_656 : decode b_Lim_product 656 = .ok (.ladd, 1) := by decide +kernel
theorem d_Lim_product_657 : decode b_Lim_product 657 = .ok (.lload 17, 2) := by decide +kernel
theorem d_Lim_product_659 : decode b_Lim_product 659 = .ok (.lload 37, 2) := by decide +kernel
theorem d_Lim_product_661 : decode b_Lim_product 661 = .ok (.lmul, 1) := by decide +kernel
theorem d_Lim_product_662 : decode b_Lim_product 662 = .ok (.ladd, 1) := by decide +kernel
theorem d_Lim_product_663 : decode b_Lim_product 663 = .ok (.lload 19, 2) := by decide +kernel
theorem d_Lim_product_665 : decode b_Lim_product 665 = .ok (.lload 35, 2) := by decide +kernel
theorem d_Lim_product_667 : decode b_Lim_product 667 = .ok (.lmul, 1) := by decide +kernel
theorem d_Lim_product_668 : decode b_Lim_product 668 = .ok (.ladd, 1) := by decide +kernel
theorem d_Lim_product_669 : decode b_Lim_product 669 = .ok (.lload 21, 2) := by decide +kernel
theorem d_Lim_product_671 : decode b_Lim_product 671 = .ok (.lload 33, 2) := by decide +kernel
theorem d_Lim_product_673 : decode b_Lim_product 673 = .ok (.lmul, 1) := by decide +kernel
theorem d_Lim_product_674 : decode b_Lim_product 674 = .ok (.ladd, 1) := by decide +kernel
theorem d_Lim_product_675 : decode b_Lim_product 675 = .ok (.lastore, 1) := by decide +kernel
theorem d_Lim_product_676 : decode b_Lim_product 676 = .ok (.aload_n 0, 1) := by decide +kernel
theorem d_Lim_product_677 : decode b_Lim_product 677 = .ok (.bipush 15, 2) := by decide +kernel
theorem d_Lim_product_679 : decode b_Lim_product 679 = .ok (.lload 15, 2) := by decide +kernel
theorem d_Lim_product_681 : decode b_Lim_product 681 = .ok (.lload 41, 2) := by decide +kernel
theorem d_Lim_product_683 : decode b_Lim_product 683 = .ok (.lmul, 1) := by decide +kernel
theorem d_Lim_product_684 : decode b_Lim_product 684 = .ok (.lload 17, 2) := by decide +kernel
theorem d_Lim_product_686 : decode b_Lim_product 686 = .ok (.lload 39, 2) := by decide +kernel
theorem d_Lim_product_688 : decode b_Lim_product 688 = .ok (.lmul, 1) := by decide +kernel
theorem d_Lim_product_689 : decode b_Lim_product 689 = .ok (.ladd, 1) := by decide +kernel
theorem d_Lim_product_690 : decode b_Lim_product 690 = .ok (.lload 19, 2) := by decide +kernel
theorem d_Lim_product_692 : decode b_Lim_product 692 = .ok (.lload 37, 2) := by decide +kernel
theorem d_Lim_product_694 : decode b_Lim_product 694 = .ok (.lmul, 1) := by decide +kernel
theorem d_Lim_product_695 : decode b_Lim_product 695 = .ok (.ladd, 1) := by decide +kernel
theorem d_Lim_product_696 : decode b_Lim_product 696 = .ok (.lload 21, 2) := by decide +kernel
theorem d_Lim_product_698 : decode b_Lim_product 698 = .ok (.lload 35, 2) := by decide +kernel
theorem d_Lim_product_700 : decode b_Lim_product 700 = .ok (.lmul, 1) := by decide +kernel
theorem d_Lim_product_701 : decode b_Lim_product 701 = .ok (.ladd, 1) := by decide +kernel
theorem d_Lim_product_702 : decode b_Lim_product 702 = .ok (.lastore, 1) := by decide +kernel
theorem d_Lim_product_703 : decode b_Lim_product 703 = .ok (.aload_n 0, 1) := by decide +kernel
theorem d_Lim_product_704 : decode b_Lim_product 704 = .ok (.bipush 16, 2) := by decide +kernel
theorem d_Lim_product_706 : decode b_Lim_product 706 = .ok (.lload 17, 2) := by decide +kernel
theorem d_Lim_product_708 : decode b_Lim_product 708 = .ok (.lload 41, 2) := by decide +kernel
theorem d_Lim_product_710 : decode b_Lim_product 710 = .ok (.lmul, 1) := by decide +kernel
theorem d_Lim_product_711 : decode b_Lim_product 711 = .ok (.lload 19, 2) := by decide +kernel
theorem d_Lim_product_713 : decode b_Lim_product 713 = .ok (.lload 39, 2) := by decide +kernel
theorem d_Lim_product_715 : decode b_Lim_product 715 = .ok (.lmul, 1) := by decide +kernel
theorem d_Lim_product_716 : decode b_Lim_product 716 = .ok (.ladd, 1) := by decide +kernel
theorem d_Lim_product_717 : decode b_Lim_product 717 = .ok (.lload 21, 2) := by decide +kernel
theorem d_Lim_product_719 : decode b_Lim_product 719 = .ok (.lload 37, 2) := by decide +kernel
theorem d_Lim_product_721 : decode b_Lim_product 721 = .ok (.lmul, 1) := by decide +kernel
theorem d_Lim_product_722 : decode b_Lim_product 722 = .ok (.ladd, 1) := by decide +kernel
theorem d_Lim_product_723 : decode b_Lim_product 723 = .ok (.lastore, 1) := by decide +kernel
theorem d_Lim_product_724 : decode b_Lim_product 724 = .ok (.aload_n 0, 1) := by decide +kernel
theorem d_Lim_product_725 : decode b_Lim_product 725 = .ok (.bipush 17, 2) := by decide +kernel
theorem d_Lim_product_727 : decode b_Lim_product 727 = .ok (.lload 19, 2) := by decide +kernel
theorem d_Lim_product_729 : decode b_Lim_product 729 = .ok (.lload 41, 2) := by decide +kernel
theorem d_Lim_product_731 : decode b_Lim_product 731 = .ok (.lmul, 1) := by decide +kernel
theorem d_Lim_product_732 : decode b_Lim_product 732 = .ok (.lload 21, 2) := by decide +kernel
theorem d_Lim_product_734 : decode b_Lim_product 734 = .ok (.lload 39, 2) := by decide +kernel
theorem d_Lim_product_736 : decode b_Lim_product 736 = .ok (.lmul, 1) := by decide +kernel
theorem d_Lim_product_737 : decode b_Lim_product 737 = .ok (.ladd, 1) := by decide +kernel
theorem d_Lim_product_738 : decode b_Lim_product 738 = .ok (.lastore, 1) := by decide +kernel
theorem d_Lim_product_739 : decode b_Lim_product 739 = .ok (.aload_n 0, 1) := by decide +kernel
theorem d_Lim_product_740 : decode b_Lim_product 740 = .ok (.bipush 18, 2) := by decide +kernel
theorem d_Lim_product_742 : decode b_Lim_product 742 = .ok (.lload 21, 2) := by decide +kernel
theorem d_Lim_product_744 : decode b_Lim_product 744 = .ok (.lload 41, 2) := by decide +kernel
theorem d_Lim_product_746 : decode b_Lim_product 746 = .ok (.lmul, 1) := by decide +kernel
theorem d_Lim_product_747 : decode b_Lim_product 747 = .ok (.lastore, 1) := by decide +kernel
theorem d_Lim_product_748 : decode b_Lim_product 748 = .ok (.aload_n 0, 1) := by decide +kernel
theorem d_Lim_product_749 : decode b_Lim_product 749 = .ok (.bipush 19, 2) := by decide +kernel
theorem d_Lim_product_751 : decode b_Lim_product 751 = .ok (.lconst 0, 1) := by decide +kernel
theorem d_Lim_product_752 : decode b_Lim_product 752 = .ok (.lastore, 1) := by decide +kernel
theorem d_Lim_product_753 : decode b_Lim_product 753 = .ok (.return_, 1) := by decide +kernel
