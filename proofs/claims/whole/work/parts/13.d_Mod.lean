/-! decode rows: written by wip/gen/names.py -/
theorem d_Mod_init_0 : decode b_Mod_init 0 = .ok (.aload_n 0, 1) := by decide +kernel
theorem d_Mod_init_1 : decode b_Mod_init 1 = .ok (.invokespecial 3, 3) := by decide +kernel
theorem d_Mod_init_4 : decode b_Mod_init 4 = .ok (.aload_n 0, 1) := by decide +kernel
theorem d_Mod_init_5 : decode b_Mod_init 5 = .ok (.bipush 20, 2) := by decide +kernel
theorem d_Mod_init_7 : decode b_Mod_init 7 = .ok (.newarray .long, 2) := by decide +kernel
theorem d_Mod_init_9 : decode b_Mod_init 9 = .ok (.putfield 9, 3) := by decide +kernel
theorem d_Mod_init_12 : decode b_Mod_init 12 = .ok (.aload_n 0, 1) := by decide +kernel
theorem d_Mod_init_13 : decode b_Mod_init 13 = .ok (.bipush 10, 2) := by decide +kernel
theorem d_Mod_init_15 : decode b_Mod_init 15 = .ok (.newarray .long, 2) := by decide +kernel
theorem d_Mod_init_17 : decode b_Mod_init 17 = .ok (.putfield 15, 3) := by decide +kernel
theorem d_Mod_init_20 : decode b_Mod_init 20 = .ok (.aload_n 0, 1) := by decide +kernel
theorem d_Mod_init_21 : decode b_Mod_init 21 = .ok (.bipush 10, 2) := by decide +kernel
theorem d_Mod_init_23 : decode b_Mod_init 23 = .ok (.newarray .long, 2) := by decide +kernel
theorem d_Mod_init_25 : decode b_Mod_init 25 = .ok (.putfield 18, 3) := by decide +kernel
theorem d_Mod_init_28 : decode b_Mod_init 28 = .ok (.aload_n 0, 1) := by decide +kernel
theorem d_Mod_init_29 : decode b_Mod_init 29 = .ok (.bipush 10, 2) := by decide +kernel
theorem d_Mod_init_31 : decode b_Mod_init 31 = .ok (.newarray .long, 2) := by decide +kernel
theorem d_Mod_init_33 : decode b_Mod_init 33 = .ok (.putfield 21, 3) := by decide +kernel
theorem d_Mod_init_36 : decode b_Mod_init 36 = .ok (.aload_n 0, 1) := by decide +kernel
theorem d_Mod_init_37 : decode b_Mod_init 37 = .ok (.aload_n 1, 1) := by decide +kernel
theorem d_Mod_init_38 : decode b_Mod_init 38 = .ok (.putfield 24, 3) := by decide +kernel
theorem d_Mod_init_41 : decode b_Mod_init 41 = .ok (.aload_n 0, 1) := by decide +kernel
theorem d_Mod_init_42 : decode b_Mod_init 42 = .ok (.aload_n 2, 1) := by decide +kernel
theorem d_Mod_init_43 : decode b_Mod_init 43 = .ok (.putfield 27, 3) := by decide +kernel
theorem d_Mod_init_46 : decode b_Mod_init 46 = .ok (.aload_n 0, 1) := by decide +kernel
theorem d_Mod_init_47 : decode b_Mod_init 47 = .ok (.aload_n 3, 1) := by decide +kernel
theorem d_Mod_init_48 : decode b_Mod_init 48 = .ok (.putfield 30, 3) := by decide +kernel
theorem d_Mod_init_51 : decode b_Mod_init 51 = .ok (.aload_n 0, 1) := by decide +kernel
theorem d_Mod_init_52 : decode b_Mod_init 52 = .ok (.aload 4, 2) := by decide +kernel
theorem d_Mod_init_54 : decode b_Mod_init 54 = .ok (.putfield 33, 3) := by decide +kernel
theorem d_Mod_init_57 : decode b_Mod_init 57 = .ok (.aload_n 0, 1) := by decide +kernel
theorem d_Mod_init_58 : decode b_Mod_init 58 = .ok (.iload 5, 2) := by decide +kernel
theorem d_Mod_init_60 : decode b_Mod_init 60 = .ok (.putfield 36, 3) := by decide +kernel
theorem d_Mod_init_63 : decode b_Mod_init 63 = .ok (.return_, 1) := by decide +kernel
theorem d_Mod_isAbove_0 : decode b_Mod_isAbove 0 = .ok (.aload_n 1, 1) := by decide +kernel
theorem d_Mod_isAbove_1 : decode b_Mod_isAbove 1 = .ok (.aload_n 0, 1) := by decide +kernel
theorem d_Mod_isAbove_2 : decode b_Mod_isAbove 2 = .ok (.getfield 24, 3) := by decide +kernel
theorem d_Mod_isAbove_5 : decode b_Mod_isAbove 5 = .ok (.invokestatic 40, 3) := by decide +kernel
theorem d_Mod_isAbove_8 : decode b_Mod_isAbove 8 = .ok (.ifCond .ge 7, 3) := by decide +kernel
theorem d_Mod_isAbove_11 : decode b_Mod_isAbove 11 = .ok (.iconst 1, 1) := by decide +kernel
theorem d_Mod_isAbove_12 : decode b_Mod_isAbove 12 = .ok (.goto 4, 3) := by decide +kernel
theorem d_Mod_isAbove_15 : decode b_Mod_isAbove 15 = .ok (.iconst 0, 1) := by decide +kernel
theorem d_Mod_isAbove_16 : decode b_Mod_isAbove 16 = .ok (.ireturn, 1) := by decide +kernel
theorem d_Mod_multiply_0 : decode b_Mod_multiply 0 = .ok (.aload_n 0, 1) := by decide +kernel
theorem d_Mod_multiply_1 : decode b_Mod_multiply 1 = .ok (.getfield 9, 3) := by decide +kernel
theorem d_Mod_multiply_4 : decode b_Mod_multiply 4 = .ok (.aload_n 2, 1) := by decide +kernel
theorem d_Mod_multiply_5 : decode b_Mod_multiply 5 = .ok (.aload_n 3, 1) := by decide +kernel
theorem d_Mod_multiply_6 : decode b_Mod_multiply 6 = .ok (.invokestatic 46, 3) := by decide +kernel
theorem d_Mod_multiply_9 : decode b_Mod_multiply 9 = .ok (.aload_n 0, 1) := by decide +kernel
theorem d_Mod_multiply_10 : decode b_Mod_multiply 10 = .ok (.getfield 9, 3) := by decide +kernel
theorem d_Mod_multiply_13 : decode b_Mod_multiply 13 = .ok (.bipush 10, 2) := by decide +kernel
theorem d_Mod_multiply_15 : decode b_Mod_multiply 15 = .ok (.bipush 19, 2) := by decide +kernel
theorem d_Mod_multiply_17 : decode b_Mod_multiply 17 = .ok (.invokestatic 52, 3) := by decide +kernel
theorem d_Mod_multiply_20 : decode b_Mod_multiply 20 = .ok (.aload_n 0, 1) := by decide +kernel
theorem d_Mod_multiply_21 : decode b_Mod_multiply 21 = .ok (.bipush 10, 2) := by decide +kernel
theorem d_Mod_multiply_23 : decode b_Mod_multiply 23 = .ok (.invokevirtual 56, 3) := by decide +kernel
theorem d_Mod_multiply_26 : decode b_Mod_multiply 26 = .ok (.aload_n 0, 1) := by decide +kernel
theorem d_Mod_multiply_27 : decode b_Mod_multiply 27 = .ok (.getfield 36, 3) := by decide +kernel
theorem d_Mod_multiply_30 : decode b_Mod_multiply 30 = .ok (.ifCond .eq 28, 3) := by decide +kernel
theorem d_Mod_multiply_33 : decode b_Mod_multiply 33 = .ok (.aload_n 0, 1) := by decide +kernel
theorem d_Mod_multiply_34 : decode b_Mod_multiply 34 = .ok (.getfield 9, 3) := by decide +kernel
theorem d_Mod_multiply_37 : decode b_Mod_multiply 37 = .ok (.iconst 0, 1) := by decide +kernel
theorem d_Mod_multiply_38 : decode b_Mod_multiply 38 = .ok (.bipush 9, 2) := by decide +kernel
theorem d_Mod_multiply_40 : decode b_Mod_multiply 40 = .ok (.aload_n 0, 1) := by decide +kernel
theorem d_Mod_multiply_41 : decode b_Mod_multiply 41 = .ok (.getfield 33, 3) := by decide +kernel
theorem d_Mod_multiply_44 : decode b_Mod_multiply 44 = .ok (.arraylength, 1) := by decide +kernel
theorem d_Mod_multiply_45 : decode b_Mod_multiply 45 = .ok (.iadd, 1) := by decide +kernel
theorem d_Mod_multiply_46 : decode b_Mod_multiply 46 = .ok (.invokestatic 52, 3) := by decide +kernel
theorem d_Mod_multiply_49 : decode b_Mod_multiply 49 = .ok (.aload_n 0, 1) := by decide +kernel
theorem d_Mod_multiply_50 : decode b_Mod_multiply 50 = .ok (.aload_n 0, 1) := by decide +kernel
theorem d_Mod_multiply_51 : decode b_Mod_multiply 51 = .ok (.getfield 33, 3) := by decide +kernel
theorem d_Mod_multiply_54 : decode b_Mod_multiply 54 = .ok (.arraylength, 1) := by decide +kernel
theorem d_Mod_multiply_55 : decode b_Mod_multiply 55 = .ok (.invokevirtual 56, 3) := by decide +kernel
theorem d_Mod_multiply_58 : decode b_Mod_multiply 58 = .ok (.aload_n 0, 1) := by decide +kernel
theorem d_Mod_multiply_59 : decode b_Mod_multiply 59 = .ok (.getfield 9, 3) := by decide +kernel
theorem d_Mod_multiply_62 : decode b_Mod_multiply 62 = .ok (.iconst 0, 1) := by decide +kernel
theorem d_Mod_multiply_63 : decode b_Mod_multiply 63 = .ok (.bipush 10, 2) := by decide +kernel
theorem d_Mod_multiply_65 : decode b_Mod_multiply 65 = .ok (.invokestatic 52, 3) := by decide +kernel
theorem d_Mod_multiply_68 : decode b_Mod_multiply 68 = .ok (.aload_n 0, 1) := by decide +kernel
theorem d_Mod_multiply_69 : decode b_Mod_multiply 69 = .ok (.iconst 1, 1) := by decide +kernel
theorem d_Mod_multiply_70 : decode b_Mod_multiply 70 = .ok (.invokevirtual 56, 3) := by decide +kernel
theorem d_Mod_multiply_73 : decode b_Mod_multiply 73 = .ok (.aload_n 0, 1) := by decide +kernel
theorem d_Mod_multiply_74 : decode b_Mod_multiply 74 = .ok (.getfield 9, 3) := by decide +kernel
theorem d_Mod_multiply_77 : decode b_Mod_multiply 77 = .ok (.iconst 0, 1) := by decide +kernel
theorem d_Mod_multiply_78 : decode b_Mod_multiply 78 = .ok (.bipush 9, 2) := by decide +kernel
theorem d_Mod_multiply_80 : decode b_Mod_multiply 80 = .ok (.invokestatic 52, 3) := by decide +kernel
theorem d_Mod_multiply_83 : decode b_Mod_multiply 83 = .ok (.aload_n 1, 1) := by decide +kernel
theorem d_Mod_multiply_84 : decode b_Mod_multiply 84 = .ok (.aload_n 0, 1) := by decide +kernel
theorem d_Mod_multiply_85 : decode b_Mod_multiply 85 = .ok (.getfield 9, 3) := by decide +kernel
theorem d_Mod_multiply_88 : decode b_Mod_multiply 88 = .ok (.invokestatic 60, 3) := by decide +kernel
theorem d_Mod_multiply_91 : decode b_Mod_multiply 91 = .ok (.return_, 1) := by decide +kernel
theorem d_Mod_fold_0 : decode b_Mod_fold 0 = .ok (.iconst 0, 1) := by decide +kernel
theorem d_Mod_fold_1 : decode b_Mod_fold 1 = .ok (.istore_n 2, 1) := by decide +kernel
theorem d_Mod_fold_2 : decode b_Mod_fold 2 = .ok (.iload_n 2, 1) := by decide +kernel
theorem d_Mod_fold_3 : decode b_Mod_fold 3 = .ok (.iload_n 1, 1) := by decide +kernel
theorem d_Mod_fold_4 : decode b_Mod_fold 4 = .ok (.if_icmp .ge 69, 3) := by decide +kernel
theorem d_Mod_fold_7 : decode b_Mod_fold 7 = .ok (.aload_n 0, 1) := by decide +kernel
theorem d_Mod_fold_8 : decode b_Mod_fold 8 = .ok (.getfield 9, 3) := by decide +kernel
theorem d_Mod_fold_11 : decode b_Mod_fold 11 = .ok (.bipush 10, 2) := by decide +kernel
theorem d_Mod_fold_13 : decode b_Mod_fold 13 = .ok (.iload_n 2, 1) := by decide +kernel
theorem d_Mod_fold_14 : decode b_Mod_fold 14 = .ok (.iadd, 1) := by decide +kernel
theorem d_Mod_fold_15 : decode b_Mod_fold 15 = .ok (.laload, 1) := by decide +kernel
theorem d_Mod_fold_16 : decode b_Mod_fold 16 = .ok (.lstore_n 3, 1) := by decide +kernel
theorem d_Mod_fold_17 : decode b_Mod_fold 17 = .ok (.aload_n 0, 1) := by decide +kernel
theorem d_Mod_fold_18 : decode b_Mod_fold 18 = .ok (.getfield 9, 3) := by decide +kernel
theorem d_Mod_fold_21 : decode b_Mod_fold 21 = .ok (.bipush 10, 2) := by decide +kernel
theorem d_Mod_fold_23 : decode b_Mod_fold 23 = .ok (.iload_n 2, 1) := by decide +kernel
theorem d_Mod_fold_24 : decode b_Mod_fold 24 = .ok (.iadd, 1) := by decide +kernel
theorem d_Mod_fold_25 : decode b_Mod_fold 25 = .ok (.lconst 0, 1) := by decide +kernel
theorem d_Mod_fold_26 : decode b_Mod_fold 26 = .ok (.lastore, 1) := by decide +kernel
theorem d_Mod_fold_27 : decode b_Mod_fold 27 = .ok (.iconst 0, 1) := by decide +kernel
theorem d_Mod_fold_28 : decode b_Mod_fold 28 = .ok (.istore 5, 2) := by decide +kernel
theorem d_Mod_fold_30 : decode b_Mod_fold 30 = .ok (.iload 5, 2) := by decide +kernel
theorem d_Mod_fold_32 : decode b_Mod_fold 32 = .ok (.aload_n 0, 1) := by decide +kernel
theorem d_Mod_fold_33 : decode b_Mod_fold 33 = .ok (.getfield 33, 3) := by decide +kernel
theorem d_Mod_fold_36 : decode b_Mod_fold 36 = .ok (.arraylength, 1) := by decide +kernel
theorem d_Mod_fold_37 : decode b_Mod_fold 37 = .ok (.if_icmp .ge 30, 3) := by decide +kernel
theorem d_Mod_fold_40 : decode b_Mod_fold 40 = .ok (.aload_n 0, 1) := by decide +kernel
theorem d_Mod_fold_41 : decode b_Mod_fold 41 = .ok (.getfield 9, 3) := by decide +kernel
theorem d_Mod_fold_44 : decode b_Mod_fold 44 = .ok (.iload_n 2, 1) := by decide +kernel
theorem d_Mod_fold_45 : decode b_Mod_fold 45 = .ok (.iload 5, 2) := by decide +kernel
theorem d_Mod_fold_47 : decode b_Mod_fold 47 = .ok (.iadd, 1) := by decide +kernel
theorem d_Mod_fold_48 : decode b_Mod_fold 48 = .ok (.dup2, 1) := by decide +kernel
theorem d_Mod_fold_49 : decode b_Mod_fold 49 = .ok (.laload, 1) := by decide +kernel
theorem d_Mod_fold_50 : decode b_Mod_fold 50 = .ok (.lload_n 3, 1) := by decide +kernel
theorem d_Mod_fold_51 : decode b_Mod_fold 51 = .ok (.aload_n 0, 1) := by decide +kernel
theorem d_Mod_fold_52 : decode b_Mod_fold 52 = .ok (.getfield 33, 3) := by decide +kernel
theorem d_Mod_fold_55 : decode b_Mod_fold 55 = .ok (.iload 5, 2) := by decide +kernel
theorem d_Mod_fold_57 : decode b_Mod_fold 57 = .ok (.laload, 1) := by decide +kernel
theorem d_Mod_fold_58 : decode b_Mod_fold 58 = .ok (.lmul, 1) := by decide +kernel
theorem d_Mod_fold_59 : decode b_Mod_fold 59 = .ok (.ladd, 1) := by decide +kernel
theorem d_Mod_fold_60 : decode b_Mod_fold 60 = .ok (.lastore, 1) := by decide +kernel
theorem d_Mod_fold_61 : decode b_Mod_fold 61 = .ok (.iinc 5 1, 3) := by decide +kernel
theorem d_Mod_fold_64 : decode b_Mod_fold 64 = .ok (.goto (-34), 3) := by decide +kernel
theorem d_Mod_fold_67 : decode b_Mod_fold 67 = .ok (.iinc 2 1, 3) := by decide +kernel
theorem d_Mod_fold_70 : decode b_Mod_fold 70 = .ok (.goto (-68), 3) := by decide +kernel
theorem d_Mod_fold_73 : decode b_Mod_fold 73 = .ok (.return_, 1) := by decide +kernel
theorem d_Mod_power_0 : decode b_Mod_power 0 = .ok (.aload_n 0, 1) := by decide +kernel
theorem d_Mod_power_1 : decode b_Mod_power 1 = .ok (.getfield 21, 3) := by decide +kernel
theorem d_Mod_power_4 : decode b_Mod_power 4 = .ok (.aload_n 2, 1) := by decide +kernel
theorem d_Mod_power_5 : decode b_Mod_power 5 = .ok (.invokestatic 60, 3) := by decide +kernel
theorem d_Mod_power_8 : decode b_Mod_power 8 = .ok (.aload_n 1, 1) := by decide +kernel
theorem d_Mod_power_9 : decode b_Mod_power 9 = .ok (.getstatic 64, 3) := by decide +kernel
theorem d_Mod_power_12 : decode b_Mod_power 12 = .ok (.invokestatic 67, 3) := by decide +kernel
theorem d_Mod_power_15 : decode b_Mod_power 15 = .ok (.aload_n 1, 1) := by decide +kernel
theorem d_Mod_power_16 : decode b_Mod_power 16 = .ok (.iconst 0, 1) := by decide +kernel
theorem d_Mod_power_17 : decode b_Mod_power 17 = .ok (.lconst 1, 1) := by decide +kernel
theorem d_Mod_power_18 : decode b_Mod_power 18 = .ok (.lastore, 1) := by decide +kernel
theorem d_Mod_power_19 : decode b_Mod_power 19 = .ok (.sipush 255, 3) := by decide +kernel
theorem d_Mod_power_22 : decode b_Mod_power 22 = .ok (.istore 4, 2) := by decide +kernel
theorem d_Mod_power_24 : decode b_Mod_power 24 = .ok (.iload 4, 2) := by decide +kernel
theorem d_Mod_power_26 : decode b_Mod_power 26 = .ok (.ifCond .lt 35, 3) := by decide +kernel
theorem d_Mod_power_29 : decode b_Mod_power 29 = .ok (.aload_n 0, 1) := by decide +kernel
theorem d_Mod_power_30 : decode b_Mod_power 30 = .ok (.aload_n 1, 1) := by decide +kernel
theorem d_Mod_power_31 : decode b_Mod_power 31 = .ok (.aload_n 1, 1) := by decide +kernel
theorem d_Mod_power_32 : decode b_Mod_power 32 = .ok (.aload_n 1, 1) := by decide +kernel
theorem d_Mod_power_33 : decode b_Mod_power 33 = .ok (.invokevirtual 70, 3) := by decide +kernel
theorem d_Mod_power_36 : decode b_Mod_power 36 = .ok (.aload_n 3, 1) := by decide +kernel
theorem d_Mod_power_37 : decode b_Mod_power 37 = .ok (.iload 4, 2) := by decide +kernel
theorem d_Mod_power_39 : decode b_Mod_power 39 = .ok (.invokestatic 73, 3) := by decide +kernel
theorem d_Mod_power_42 : decode b_Mod_power 42 = .ok (.ifCond .eq 13, 3) := by decide +kernel
theorem d_Mod_power_45 : decode b_Mod_power 45 = .ok (.aload_n 0, 1) := by decide +kernel
theorem d_Mod_power_46 : decode b_Mod_power 46 = .ok (.aload_n 1, 1) := by decide +kernel
theorem d_Mod_power_47 : decode b_Mod_power 47 = .ok (.aload_n 1, 1) := by decide +kernel
theorem d_Mod_power_48 : decode b_Mod_power 48 = .ok (.aload_n 0, 1) := by decide +kernel
theorem d_Mod_power_49 : decode b_Mod_power 49 = .ok (.getfield 21, 3) := by decide +kernel
theorem d_Mod_power_52 : decode b_Mod_power 52 = .ok (.invokevirtual 70, 3) := by decide +kernel
theorem d_Mod_power_55 : decode b_Mod_power 55 = .ok (.iinc 4 (-1), 3) := by decide +kernel
theorem d_Mod_power_58 : decode b_Mod_power 58 = .ok (.goto (-34), 3) := by decide +kernel
theorem d_Mod_power_61 : decode b_Mod_power 61 = .ok (.return_, 1) := by decide +kernel
theorem d_Mod_invert_0 : decode b_Mod_invert 0 = .ok (.aload_n 0, 1) := by decide +kernel
theorem d_Mod_invert_1 : decode b_Mod_invert 1 = .ok (.aload_n 1, 1) := by decide +kernel
theorem d_Mod_invert_2 : decode b_Mod_invert 2 = .ok (.aload_n 2, 1) := by decide +kernel
theorem d_Mod_invert_3 : decode b_Mod_invert 3 = .ok (.aload_n 0, 1) := by decide +kernel
theorem d_Mod_invert_4 : decode b_Mod_invert 4 = .ok (.getfield 27, 3) := by decide +kernel
theorem d_Mod_invert_7 : decode b_Mod_invert 7 = .ok (.invokevirtual 77, 3) := by decide +kernel
theorem d_Mod_invert_10 : decode b_Mod_invert 10 = .ok (.return_, 1) := by decide +kernel
theorem d_Mod_areCongruent_0 : decode b_Mod_areCongruent 0 = .ok (.aload_n 0, 1) := by decide +kernel
theorem d_Mod_areCongruent_1 : decode b_Mod_areCongruent 1 = .ok (.getfield 18, 3) := by decide +kernel
theorem d_Mod_areCongruent_4 : decode b_Mod_areCongruent 4 = .ok (.aload_n 1, 1) := by decide +kernel
theorem d_Mod_areCongruent_5 : decode b_Mod_areCongruent 5 = .ok (.aload_n 2, 1) := by decide +kernel
theorem d_Mod_areCongruent_6 : decode b_Mod_areCongruent 6 = .ok (.invokestatic 80, 3) := by decide +kernel
theorem d_Mod_areCongruent_9 : decode b_Mod_areCongruent 9 = .ok (.aload_n 0, 1) := by decide +kernel
theorem d_Mod_areCongruent_10 : decode b_Mod_areCongruent 10 = .ok (.aload_n 0, 1) := by decide +kernel
theorem d_Mod_areCongruent_11 : decode b_Mod_areCongruent 11 = .ok (.getfield 18, 3) := by decide +kernel
theorem d_Mod_areCongruent_14 : decode b_Mod_areCongruent 14 = .ok (.invokevirtual 83, 3) := by decide +kernel
theorem d_Mod_areCongruent_17 : decode b_Mod_areCongruent 17 = .ok (.aload_n 0, 1) := by decide +kernel
theorem d_Mod_areCongruent_18 : decode b_Mod_areCongruent 18 = .ok (.getfield 18, 3) := by decide +kernel
theorem d_Mod_areCongruent_21 : decode b_Mod_areCongruent 21 = .ok (.invokestatic 87, 3) := by decide +kernel
theorem d_Mod_areCongruent_24 : decode b_Mod_areCongruent 24 = .ok (.ireturn, 1) := by decide +kernel
theorem d_Mod_isMultiple_0 : decode b_Mod_isMultiple 0 = .ok (.aload_n 0, 1) := by decide +kernel
theorem d_Mod_isMultiple_1 : decode b_Mod_isMultiple 1 = .ok (.getfield 18, 3) := by decide +kernel
theorem d_Mod_isMultiple_4 : decode b_Mod_isMultiple 4 = .ok (.aload_n 1, 1) := by decide +kernel
theorem d_Mod_isMultiple_5 : decode b_Mod_isMultiple 5 = .ok (.invokestatic 60, 3) := by decide +kernel
theorem d_Mod_isMultiple_8 : decode b_Mod_isMultiple 8 = .ok (.aload_n 0, 1) := by decide +kernel
theorem d_Mod_isMultiple_9 : decode b_Mod_isMultiple 9 = .ok (.aload_n 0, 1) := by decide +kernel
theorem d_Mod_isMultiple_10 : decode b_Mod_isMultiple 10 = .ok (.getfield 18, 3) := by decide +kernel
theorem d_Mod_isMultiple_13 : decode b_Mod_isMultiple 13 = .ok (.invokevirtual 83, 3) := by decide +kernel
theorem d_Mod_isMultiple_16 : decode b_Mod_isMultiple 16 = .ok (.aload_n 0, 1) := by decide +kernel
theorem d_Mod_isMultiple_17 : decode b_Mod_isMultiple 17 = .ok (.getfield 18, 3) := by decide +kernel
theorem d_Mod_isMultiple_20 : decode b_Mod_isMultiple 20 = .ok (.invokestatic 87, 3) := by decide +kernel
theorem d_Mod_isMultiple_23 : decode b_Mod_isMultiple 23 = .ok (.ireturn, 1) := by decide +kernel
theorem d_Mod_settle_0 : decode b_Mod_settle 0 = .ok (.aload_n 1, 1) := by decide +kernel
theorem d_Mod_settle_1 : decode b_Mod_settle 1 = .ok (.iconst 0, 1) := by decide +kernel
theorem d_Mod_settle_2 : decode b_Mod_settle 2 = .ok (.bipush 9, 2) := by decide +kernel
theorem d_Mod_settle_4 : decode b_Mod_settle 4 = .ok (.invokestatic 52, 3) := by decide +kernel
theorem d_Mod_settle_7 : decode b_Mod_settle 7 = .ok (.aload_n 0, 1) := by decide +kernel
theorem d_Mod_settle_8 : decode b_Mod_settle 8 = .ok (.aload_n 1, 1) := by decide +kernel
theorem d_Mod_settle_9 : decode b_Mod_settle 9 = .ok (.invokevirtual 91, 3) := by decide +kernel
theorem d_Mod_settle_12 : decode b_Mod_settle 12 = .ok (.aload_n 0, 1) := by decide +kernel
theorem d_Mod_settle_13 : decode b_Mod_settle 13 = .ok (.aload_n 1, 1) := by decide +kernel
theorem d_Mod_settle_14 : decode b_Mod_settle 14 = .ok (.invokevirtual 91, 3) := by decide +kernel
theorem d_Mod_settle_17 : decode b_Mod_settle 17 = .ok (.aload_n 0, 1) := by decide +kernel
theorem d_Mod_settle_18 : decode b_Mod_settle 18 = .ok (.getfield 15, 3) := by decide +kernel
theorem d_Mod_settle_21 : decode b_Mod_settle 21 = .ok (.aload_n 1, 1) := by decide +kernel
theorem d_Mod_settle_22 : decode b_Mod_settle 22 = .ok (.invokestatic 60, 3) := by decide +kernel
theorem d_Mod_settle_25 : decode b_Mod_settle 25 = .ok (.iconst 0, 1) := by decide +kernel
theorem d_Mod_settle_26 : decode b_Mod_settle 26 = .ok (.istore_n 2, 1) := by decide +kernel
theorem d_Mod_settle_27 : decode b_Mod_settle 27 = .ok (.iload_n 2, 1) := by decide +kernel
theorem d_Mod_settle_28 : decode b_Mod_settle 28 = .ok (.aload_n 0, 1) := by decide +kernel
theorem d_Mod_settle_29 : decode b_Mod_settle 29 = .ok (.getfield 30, 3) := by decide +kernel
theorem d_Mod_settle_32 : decode b_Mod_settle 32 = .ok (.arraylength, 1) := by decide +kernel
theorem d_Mod_settle_33 : decode b_Mod_settle 33 = .ok (.if_icmp .ge 24, 3) := by decide +kernel
theorem d_Mod_settle_36 : decode b_Mod_settle 36 = .ok (.aload_n 0, 1) := by decide +kernel
theorem d_Mod_settle_37 : decode b_Mod_settle 37 = .ok (.getfield 15, 3) := by decide +kernel
theorem d_Mod_settle_40 : decode b_Mod_settle 40 = .ok (.iload_n 2, 1) := by decide +kernel
theorem d_Mod_settle_41 : decode b_Mod_settle 41 = .ok (.dup2, 1) := by decide +kernel
theorem d_Mod_settle_42 : decode b_Mod_settle 42 = .ok (.laload, 1) := by decide +kernel
theorem d_Mod_settle_43 : decode b_Mod_settle 43 = .ok (.aload_n 0, 1) := by decide +kernel
theorem d_Mod_settle_44 : decode b_Mod_settle 44 = .ok (.getfield 30, 3) := by decide +kernel
theorem d_Mod_settle_47 : decode b_Mod_settle 47 = .ok (.iload_n 2, 1) := by decide +kernel
theorem d_Mod_settle_48 : decode b_Mod_settle 48 = .ok (.laload, 1) := by decide +kernel
theorem d_Mod_settle_49 : decode b_Mod_settle 49 = .ok (.ladd, 1) := by decide +kernel
theorem d_Mod_settle_50 : decode b_Mod_settle 50 = .ok (.lastore, 1) := by decide +kernel
theorem d_Mod_settle_51 : decode b_Mod_settle 51 = .ok (.iinc 2 1, 3) := by decide +kernel
theorem d_Mod_settle_54 : decode b_Mod_settle 54 = .ok (.goto (-27), 3) := by decide +kernel
theorem d_Mod_settle_57 : decode b_Mod_settle 57 = .ok (.aload_n 0, 1) := by decide +kernel
theorem d_Mod_settle_58 : decode b_Mod_settle 58 = .ok (.getfield 15, 3) := by decide +kernel
theorem d_Mod_settle_61 : decode b_Mod_settle 61 = .ok (.iconst 0, 1) := by decide +kernel
theorem d_Mod_settle_62 : decode b_Mod_settle 62 = .ok (.bipush 9, 2) := by decide +kernel
theorem d_Mod_settle_64 : decode b_Mod_settle 64 = .ok (.invokestatic 52, 3) := by decide +kernel
theorem d_Mod_settle_67 : decode b_Mod_settle 67 = .ok (.aload_n 0, 1) := by decide +kernel
theorem d_Mod_settle_68 : decode b_Mod_settle 68 = .ok (.getfield 15, 3) := by decide +kernel
theorem d_Mod_settle_71 : decode b_Mod_settle 71 = .ok (.bipush 9, 2) := by decide +kernel
theorem d_Mod_settle_73 : decode b_Mod_settle 73 = .ok (.laload, 1) := by decide +kernel
theorem d_Mod_settle_74 : decode b_Mod_settle 74 = .ok (.bipush 22, 2) := by decide +kernel
theorem d_Mod_settle_76 : decode b_Mod_settle 76 = .ok (.lshr, 1) := by decide +kernel
theorem d_Mod_settle_77 : decode b_Mod_settle 77 = .ok (.lconst 0, 1) := by decide +kernel
theorem d_Mod_settle_78 : decode b_Mod_settle 78 = .ok (.lcmp, 1) := by decide +kernel
theorem d_Mod_settle_79 : decode b_Mod_settle 79 = .ok (.ifCond .eq 24, 3) := by decide +kernel
theorem d_Mod_settle_82 : decode b_Mod_settle 82 = .ok (.aload_n 0, 1) := by decide +kernel
theorem d_Mod_settle_83 : decode b_Mod_settle 83 = .ok (.getfield 15, 3) := by decide +kernel
theorem d_Mod_settle_86 : decode b_Mod_settle 86 = .ok (.bipush 9, 2) := by decide +kernel
theorem d_Mod_settle_88 : decode b_Mod_settle 88 = .ok (.dup2, 1) := by decide +kernel
theorem d_Mod_settle_89 : decode b_Mod_settle 89 = .ok (.laload, 1) := by decide +kernel
theorem d_Mod_settle_90 : decode b_Mod_settle 90 = .ok (.ldc2_w 94, 3) := by decide +kernel
theorem d_Mod_settle_93 : decode b_Mod_settle 93 = .ok (.lsub, 1) := by decide +kernel
theorem d_Mod_settle_94 : decode b_Mod_settle 94 = .ok (.lastore, 1) := by decide +kernel
theorem d_Mod_settle_95 : decode b_Mod_settle 95 = .ok (.aload_n 1, 1) := by decide +kernel
theorem d_Mod_settle_96 : decode b_Mod_settle 96 = .ok (.aload_n 0, 1) := by decide +kernel
theorem d_Mod_settle_97 : decode b_Mod_settle 97 = .ok (.getfield 15, 3) := by decide +kernel
theorem d_Mod_settle_100 : decode b_Mod_settle 100 = .ok (.invokestatic 60, 3) := by decide +kernel
theorem d_Mod_settle_103 : decode b_Mod_settle 103 = .ok (.return_, 1) := by decide +kernel
theorem d_Mod_dropTop_0 : decode b_Mod_dropTop 0 = .ok (.aload_n 1, 1) := by decide +kernel
theorem d_Mod_dropTop_1 : decode b_Mod_dropTop 1 = .ok (.bipush 9, 2) := by decide +kernel
theorem d_Mod_dropTop_3 : decode b_Mod_dropTop 3 = .ok (.laload, 1) := by decide +kernel
theorem d_Mod_dropTop_4 : decode b_Mod_dropTop 4 = .ok (.bipush 22, 2) := by decide +kernel
theorem d_Mod_dropTop_6 : decode b_Mod_dropTop 6 = .ok (.lshr, 1) := by decide +kernel
theorem d_Mod_dropTop_7 : decode b_Mod_dropTop 7 = .ok (.lstore_n 2, 1) := by decide +kernel
theorem d_Mod_dropTop_8 : decode b_Mod_dropTop 8 = .ok (.aload_n 1, 1) := by decide +kernel
theorem d_Mod_dropTop_9 : decode b_Mod_dropTop 9 = .ok (.bipush 9, 2) := by decide +kernel
theorem d_Mod_dropTop_11 : decode b_Mod_dropTop 11 = .ok (.dup2, 1) := by decide +kernel
theorem d_Mod_dropTop_12 : decode b_Mod_dropTop 12 = .ok (.laload, 1) := by decide +kernel
theorem d_Mod_dropTop_13 : decode b_Mod_dropTop 13 = .ok (.lload_n 2, 1) := by decide +kernel
theorem d_Mod_dropTop_14 : decode b_Mod_dropTop 14 = .ok (.bipush 22, 2) := by decide +kernel
theorem d_Mod_dropTop_16 : decode b_Mod_dropTop 16 = .ok (.lshl, 1) := by decide +kernel
theorem d_Mod_dropTop_17 : decode b_Mod_dropTop 17 = .ok (.lsub, 1) := by decide +kernel
theorem d_Mod_dropTop_18 : decode b_Mod_dropTop 18 = .ok (.lastore, 1) := by decide +kernel
theorem d_Mod_dropTop_19 : decode b_Mod_dropTop 19 = .ok (.iconst 0, 1) := by decide +kernel
theorem d_Mod_dropTop_20 : decode b_Mod_dropTop 20 = .ok (.istore 4, 2) := by decide +kernel
theorem d_Mod_dropTop_22 : decode b_Mod_dropTop 22 = .ok (.iload 4, 2) := by decide +kernel
theorem d_Mod_dropTop_24 : decode b_Mod_dropTop 24 = .ok (.aload_n 0, 1) := by decide +kernel
theorem d_Mod_dropTop_25 : decode b_Mod_dropTop 25 = .ok (.getfield 30, 3) := by decide +kernel
theorem d_Mod_dropTop_28 : decode b_Mod_dropTop 28 = .ok (.arraylength, 1) := by decide +kernel
theorem d_Mod_dropTop_29 : decode b_Mod_dropTop 29 = .ok (.if_icmp .ge 25, 3) := by decide +kernel
theorem d_Mod_dropTop_32 : decode b_Mod_dropTop 32 = .ok (.aload_n 1, 1) := by decide +kernel
theorem d_Mod_dropTop_33 : decode b_Mod_dropTop 33 = .ok (.iload 4, 2) := by decide +kernel
theorem d_Mod_dropTop_35 : decode b_Mod_dropTop 35 = .ok (.dup2, 1) := by decide +kernel
theorem d_Mod_dropTop_36 : decode b_Mod_dropTop 36 = .ok (.laload, 1) := by decide +kernel
theorem d_Mod_dropTop_37 : decode b_Mod_dropTop 37 = .ok (.lload_n 2, 1) := by decide +kernel
theorem d_Mod_dropTop_38 : decode b_Mod_dropTop 38 = .ok (.aload_n 0, 1) := by decide +kernel
theorem d_Mod_dropTop_39 : decode b_Mod_dropTop 39 = .ok (.getfield 30, 3) := by decide +kernel
theorem d_Mod_dropTop_42 : decode b_Mod_dropTop 42 = .ok (.iload 4, 2) := by decide +kernel
theorem d_Mod_dropTop_44 : decode b_Mod_dropTop 44 = .ok (.laload, 1) := by decide +kernel
theorem d_Mod_dropTop_45 : decode b_Mod_dropTop 45 = .ok (.lmul, 1) := by decide +kernel
theorem d_Mod_dropTop_46 : decode b_Mod_dropTop 46 = .ok (.ladd, 1) := by decide +kernel
theorem d_Mod_dropTop_47 : decode b_Mod_dropTop 47 = .ok (.lastore, 1) := by decide +kernel
theorem d_Mod_dropTop_48 : decode b_Mod_dropTop 48 = .ok (.iinc 4 1, 3) := by decide +kernel
theorem d_Mod_dropTop_51 : decode b_Mod_dropTop 51 = .ok (.goto (-29), 3) := by decide +kernel
theorem d_Mod_dropTop_54 : decode b_Mod_dropTop 54 = .ok (.aload_n 1, 1) := by decide +kernel
theorem d_Mod_dropTop_55 : decode b_Mod_dropTop 55 = .ok (.iconst 0, 1) := by decide +kernel
theorem d_Mod_dropTop_56 : decode b_Mod_dropTop 56 = .ok (.bipush 9, 2) := by decide +kernel
theorem d_Mod_dropTop_58 : decode b_Mod_dropTop 58 = .ok (.invokestatic 52, 3) := by decide +kernel
theorem d_Mod_dropTop_61 : decode b_Mod_dropTop 61 = .ok (.return_, 1) := by decide +kernel
