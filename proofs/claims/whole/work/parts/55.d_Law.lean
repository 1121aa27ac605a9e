/-! decode rows: written by wip/gen/names.py -/
theorem d_Law_set_0 : decode b_Law_set 0 = .ok (.aload_n 0, 1) := by decide +kernel
theorem d_Law_set_1 : decode b_Law_set 1 = .ok (.iload_n 1, 1) := by decide +kernel
theorem d_Law_set_2 : decode b_Law_set 2 = .ok (.iload_n 2, 1) := by decide +kernel
theorem d_Law_set_3 : decode b_Law_set 3 = .ok (.lload_n 3, 1) := by decide +kernel
theorem d_Law_set_4 : decode b_Law_set 4 = .ok (.invokevirtual 7, 3) := by decide +kernel
theorem d_Law_set_7 : decode b_Law_set 7 = .ok (.goto 7, 3) := by decide +kernel
theorem d_Law_set_10 : decode b_Law_set 10 = .ok (.astore 5, 2) := by decide +kernel
theorem d_Law_set_12 : decode b_Law_set 12 = .ok (.iconst 1, 1) := by decide +kernel
theorem d_Law_set_13 : decode b_Law_set 13 = .ok (.ireturn, 1) := by decide +kernel
theorem d_Law_set_14 : decode b_Law_set 14 = .ok (.iconst 0, 1) := by decide +kernel
theorem d_Law_set_15 : decode b_Law_set 15 = .ok (.ireturn, 1) := by decide +kernel
theorem d_Law_get_0 : decode b_Law_get 0 = .ok (.aload_n 3, 1) := by decide +kernel
theorem d_Law_get_1 : decode b_Law_get 1 = .ok (.iconst 0, 1) := by decide +kernel
theorem d_Law_get_2 : decode b_Law_get 2 = .ok (.aload_n 0, 1) := by decide +kernel
theorem d_Law_get_3 : decode b_Law_get 3 = .ok (.iload_n 1, 1) := by decide +kernel
theorem d_Law_get_4 : decode b_Law_get 4 = .ok (.iload_n 2, 1) := by decide +kernel
theorem d_Law_get_5 : decode b_Law_get 5 = .ok (.invokevirtual 15, 3) := by decide +kernel
theorem d_Law_get_8 : decode b_Law_get 8 = .ok (.lastore, 1) := by decide +kernel
theorem d_Law_get_9 : decode b_Law_get 9 = .ok (.goto 7, 3) := by decide +kernel
theorem d_Law_get_12 : decode b_Law_get 12 = .ok (.astore 4, 2) := by decide +kernel
theorem d_Law_get_14 : decode b_Law_get 14 = .ok (.iconst 1, 1) := by decide +kernel
theorem d_Law_get_15 : decode b_Law_get 15 = .ok (.ireturn, 1) := by decide +kernel
theorem d_Law_get_16 : decode b_Law_get 16 = .ok (.iconst 0, 1) := by decide +kernel
theorem d_Law_get_17 : decode b_Law_get 17 = .ok (.ireturn, 1) := by decide +kernel
theorem d_Law_compare_0 : decode b_Law_compare 0 = .ok (.aload_n 3, 1) := by decide +kernel
theorem d_Law_compare_1 : decode b_Law_compare 1 = .ok (.iconst 0, 1) := by decide +kernel
theorem d_Law_compare_2 : decode b_Law_compare 2 = .ok (.aload_n 0, 1) := by decide +kernel
theorem d_Law_compare_3 : decode b_Law_compare 3 = .ok (.iload_n 1, 1) := by decide +kernel
theorem d_Law_compare_4 : decode b_Law_compare 4 = .ok (.iload_n 2, 1) := by decide +kernel
theorem d_Law_compare_5 : decode b_Law_compare 5 = .ok (.invokevirtual 19, 3) := by decide +kernel
theorem d_Law_compare_8 : decode b_Law_compare 8 = .ok (.i2l, 1) := by decide +kernel
theorem d_Law_compare_9 : decode b_Law_compare 9 = .ok (.lastore, 1) := by decide +kernel
theorem d_Law_compare_10 : decode b_Law_compare 10 = .ok (.goto 7, 3) := by decide +kernel
theorem d_Law_compare_13 : decode b_Law_compare 13 = .ok (.astore 4, 2) := by decide +kernel
theorem d_Law_compare_15 : decode b_Law_compare 15 = .ok (.iconst 1, 1) := by decide +kernel
theorem d_Law_compare_16 : decode b_Law_compare 16 = .ok (.ireturn, 1) := by decide +kernel
theorem d_Law_compare_17 : decode b_Law_compare 17 = .ok (.iconst 0, 1) := by decide +kernel
theorem d_Law_compare_18 : decode b_Law_compare 18 = .ok (.ireturn, 1) := by decide +kernel
theorem d_Law_work_0 : decode b_Law_work 0 = .ok (.aload 5, 2) := by decide +kernel
theorem d_Law_work_2 : decode b_Law_work 2 = .ok (.iconst 0, 1) := by decide +kernel
theorem d_Law_work_3 : decode b_Law_work 3 = .ok (.aload_n 0, 1) := by decide +kernel
theorem d_Law_work_4 : decode b_Law_work 4 = .ok (.iload_n 1, 1) := by decide +kernel
theorem d_Law_work_5 : decode b_Law_work 5 = .ok (.iload_n 2, 1) := by decide +kernel
theorem d_Law_work_6 : decode b_Law_work 6 = .ok (.iload_n 3, 1) := by decide +kernel
theorem d_Law_work_7 : decode b_Law_work 7 = .ok (.iload 4, 2) := by decide +kernel
theorem d_Law_work_9 : decode b_Law_work 9 = .ok (.invokevirtual 23, 3) := by decide +kernel
theorem d_Law_work_12 : decode b_Law_work 12 = .ok (.ifCond .eq 7, 3) := by decide +kernel
theorem d_Law_work_15 : decode b_Law_work 15 = .ok (.lconst 1, 1) := by decide +kernel
theorem d_Law_work_16 : decode b_Law_work 16 = .ok (.goto 4, 3) := by decide +kernel
theorem d_Law_work_19 : decode b_Law_work 19 = .ok (.lconst 0, 1) := by decide +kernel
theorem d_Law_work_20 : decode b_Law_work 20 = .ok (.lastore, 1) := by decide +kernel
theorem d_Law_work_21 : decode b_Law_work 21 = .ok (.goto 7, 3) := by decide +kernel
theorem d_Law_work_24 : decode b_Law_work 24 = .ok (.astore 6, 2) := by decide +kernel
theorem d_Law_work_26 : decode b_Law_work 26 = .ok (.iconst 1, 1) := by decide +kernel
theorem d_Law_work_27 : decode b_Law_work 27 = .ok (.ireturn, 1) := by decide +kernel
theorem d_Law_work_28 : decode b_Law_work 28 = .ok (.iconst 0, 1) := by decide +kernel
theorem d_Law_work_29 : decode b_Law_work 29 = .ok (.ireturn, 1) := by decide +kernel
theorem d_Law_base_0 : decode b_Law_base 0 = .ok (.aload_n 0, 1) := by decide +kernel
theorem d_Law_base_1 : decode b_Law_base 1 = .ok (.iload_n 1, 1) := by decide +kernel
theorem d_Law_base_2 : decode b_Law_base 2 = .ok (.invokevirtual 27, 3) := by decide +kernel
theorem d_Law_base_5 : decode b_Law_base 5 = .ok (.goto 6, 3) := by decide +kernel
theorem d_Law_base_8 : decode b_Law_base 8 = .ok (.astore_n 2, 1) := by decide +kernel
theorem d_Law_base_9 : decode b_Law_base 9 = .ok (.iconst 1, 1) := by decide +kernel
theorem d_Law_base_10 : decode b_Law_base 10 = .ok (.ireturn, 1) := by decide +kernel
theorem d_Law_base_11 : decode b_Law_base 11 = .ok (.iconst 0, 1) := by decide +kernel
theorem d_Law_base_12 : decode b_Law_base 12 = .ok (.ireturn, 1) := by decide +kernel
theorem d_Law_none_0 : decode b_Law_none 0 = .ok (.aload_n 0, 1) := by decide +kernel
theorem d_Law_none_1 : decode b_Law_none 1 = .ok (.iload_n 1, 1) := by decide +kernel
theorem d_Law_none_2 : decode b_Law_none 2 = .ok (.invokevirtual 31, 3) := by decide +kernel
theorem d_Law_none_5 : decode b_Law_none 5 = .ok (.goto 6, 3) := by decide +kernel
theorem d_Law_none_8 : decode b_Law_none 8 = .ok (.astore_n 2, 1) := by decide +kernel
theorem d_Law_none_9 : decode b_Law_none 9 = .ok (.iconst 1, 1) := by decide +kernel
theorem d_Law_none_10 : decode b_Law_none 10 = .ok (.ireturn, 1) := by decide +kernel
theorem d_Law_none_11 : decode b_Law_none 11 = .ok (.iconst 0, 1) := by decide +kernel
theorem d_Law_none_12 : decode b_Law_none 12 = .ok (.ireturn, 1) := by decide +kernel
theorem d_Law_lay_0 : decode b_Law_lay 0 = .ok (.aload 4, 2) := by decide +kernel
theorem d_Law_lay_2 : decode b_Law_lay 2 = .ok (.iconst 0, 1) := by decide +kernel
theorem d_Law_lay_3 : decode b_Law_lay 3 = .ok (.aload_n 0, 1) := by decide +kernel
theorem d_Law_lay_4 : decode b_Law_lay 4 = .ok (.iload_n 1, 1) := by decide +kernel
theorem d_Law_lay_5 : decode b_Law_lay 5 = .ok (.iload_n 2, 1) := by decide +kernel
theorem d_Law_lay_6 : decode b_Law_lay 6 = .ok (.iload_n 3, 1) := by decide +kernel
theorem d_Law_lay_7 : decode b_Law_lay 7 = .ok (.invokevirtual 34, 3) := by decide +kernel
theorem d_Law_lay_10 : decode b_Law_lay 10 = .ok (.ifCond .eq 7, 3) := by decide +kernel
theorem d_Law_lay_13 : decode b_Law_lay 13 = .ok (.lconst 1, 1) := by decide +kernel
theorem d_Law_lay_14 : decode b_Law_lay 14 = .ok (.goto 4, 3) := by decide +kernel
theorem d_Law_lay_17 : decode b_Law_lay 17 = .ok (.lconst 0, 1) := by decide +kernel
theorem d_Law_lay_18 : decode b_Law_lay 18 = .ok (.lastore, 1) := by decide +kernel
theorem d_Law_lay_19 : decode b_Law_lay 19 = .ok (.goto 7, 3) := by decide +kernel
theorem d_Law_lay_22 : decode b_Law_lay 22 = .ok (.astore 5, 2) := by decide +kernel
theorem d_Law_lay_24 : decode b_Law_lay 24 = .ok (.iconst 1, 1) := by decide +kernel
theorem d_Law_lay_25 : decode b_Law_lay 25 = .ok (.ireturn, 1) := by decide +kernel
theorem d_Law_lay_26 : decode b_Law_lay 26 = .ok (.iconst 0, 1) := by decide +kernel
theorem d_Law_lay_27 : decode b_Law_lay 27 = .ok (.ireturn, 1) := by decide +kernel
theorem d_Law_lift_0 : decode b_Law_lift 0 = .ok (.aload 4, 2) := by decide +kernel
theorem d_Law_lift_2 : decode b_Law_lift 2 = .ok (.iconst 0, 1) := by decide +kernel
theorem d_Law_lift_3 : decode b_Law_lift 3 = .ok (.aload_n 0, 1) := by decide +kernel
theorem d_Law_lift_4 : decode b_Law_lift 4 = .ok (.iload_n 1, 1) := by decide +kernel
theorem d_Law_lift_5 : decode b_Law_lift 5 = .ok (.iload_n 2, 1) := by decide +kernel
theorem d_Law_lift_6 : decode b_Law_lift 6 = .ok (.iload_n 3, 1) := by decide +kernel
theorem d_Law_lift_7 : decode b_Law_lift 7 = .ok (.invokevirtual 38, 3) := by decide +kernel
theorem d_Law_lift_10 : decode b_Law_lift 10 = .ok (.ifCond .eq 7, 3) := by decide +kernel
theorem d_Law_lift_13 : decode b_Law_lift 13 = .ok (.lconst 1, 1) := by decide +kernel
theorem d_Law_lift_14 : decode b_Law_lift 14 = .ok (.goto 4, 3) := by decide +kernel
theorem d_Law_lift_17 : decode b_Law_lift 17 = .ok (.lconst 0, 1) := by decide +kernel
theorem d_Law_lift_18 : decode b_Law_lift 18 = .ok (.lastore, 1) := by decide +kernel
theorem d_Law_lift_19 : decode b_Law_lift 19 = .ok (.goto 7, 3) := by decide +kernel
theorem d_Law_lift_22 : decode b_Law_lift 22 = .ok (.astore 5, 2) := by decide +kernel
theorem d_Law_lift_24 : decode b_Law_lift 24 = .ok (.iconst 1, 1) := by decide +kernel
theorem d_Law_lift_25 : decode b_Law_lift 25 = .ok (.ireturn, 1) := by decide +kernel
theorem d_Law_lift_26 : decode b_Law_lift 26 = .ok (.iconst 0, 1) := by decide +kernel
theorem d_Law_lift_27 : decode b_Law_lift 27 = .ok (.ireturn, 1) := by decide +kernel
theorem d_Law_show_0 : decode b_Law_show 0 = .ok (.aload 4, 2) := by decide +kernel
theorem d_Law_show_2 : decode b_Law_show 2 = .ok (.iconst 0, 1) := by decide +kernel
theorem d_Law_show_3 : decode b_Law_show 3 = .ok (.aload_n 0, 1) := by decide +kernel
theorem d_Law_show_4 : decode b_Law_show 4 = .ok (.iload_n 1, 1) := by decide +kernel
theorem d_Law_show_5 : decode b_Law_show 5 = .ok (.iload_n 2, 1) := by decide +kernel
theorem d_Law_show_6 : decode b_Law_show 6 = .ok (.iload_n 3, 1) := by decide +kernel
theorem d_Law_show_7 : decode b_Law_show 7 = .ok (.invokevirtual 42, 3) := by decide +kernel
theorem d_Law_show_10 : decode b_Law_show 10 = .ok (.ifCond .eq 7, 3) := by decide +kernel
theorem d_Law_show_13 : decode b_Law_show 13 = .ok (.lconst 1, 1) := by decide +kernel
theorem d_Law_show_14 : decode b_Law_show 14 = .ok (.goto 4, 3) := by decide +kernel
theorem d_Law_show_17 : decode b_Law_show 17 = .ok (.lconst 0, 1) := by decide +kernel
theorem d_Law_show_18 : decode b_Law_show 18 = .ok (.lastore, 1) := by decide +kernel
theorem d_Law_show_19 : decode b_Law_show 19 = .ok (.goto 7, 3) := by decide +kernel
theorem d_Law_show_22 : decode b_Law_show 22 = .ok (.astore 5, 2) := by decide +kernel
theorem d_Law_show_24 : decode b_Law_show 24 = .ok (.iconst 1, 1) := by decide +kernel
theorem d_Law_show_25 : decode b_Law_show 25 = .ok (.ireturn, 1) := by decide +kernel
theorem d_Law_show_26 : decode b_Law_show 26 = .ok (.iconst 0, 1) := by decide +kernel
theorem d_Law_show_27 : decode b_Law_show 27 = .ok (.ireturn, 1) := by decide +kernel
theorem d_Law_add_0 : decode b_Law_add 0 = .ok (.aload_n 0, 1) := by decide +kernel
theorem d_Law_add_1 : decode b_Law_add 1 = .ok (.iload_n 1, 1) := by decide +kernel
theorem d_Law_add_2 : decode b_Law_add 2 = .ok (.iload_n 2, 1) := by decide +kernel
theorem d_Law_add_3 : decode b_Law_add 3 = .ok (.iload_n 3, 1) := by decide +kernel
theorem d_Law_add_4 : decode b_Law_add 4 = .ok (.invokevirtual 45, 3) := by decide +kernel
theorem d_Law_add_7 : decode b_Law_add 7 = .ok (.goto 7, 3) := by decide +kernel
theorem d_Law_add_10 : decode b_Law_add 10 = .ok (.astore 4, 2) := by decide +kernel
theorem d_Law_add_12 : decode b_Law_add 12 = .ok (.iconst 1, 1) := by decide +kernel
theorem d_Law_add_13 : decode b_Law_add 13 = .ok (.ireturn, 1) := by decide +kernel
theorem d_Law_add_14 : decode b_Law_add 14 = .ok (.iconst 0, 1) := by decide +kernel
theorem d_Law_add_15 : decode b_Law_add 15 = .ok (.ireturn, 1) := by decide +kernel
theorem d_Law_times_0 : decode b_Law_times 0 = .ok (.aload_n 0, 1) := by decide +kernel
theorem d_Law_times_1 : decode b_Law_times 1 = .ok (.iload_n 1, 1) := by decide +kernel
theorem d_Law_times_2 : decode b_Law_times 2 = .ok (.iload_n 2, 1) := by decide +kernel
theorem d_Law_times_3 : decode b_Law_times 3 = .ok (.iload_n 3, 1) := by decide +kernel
theorem d_Law_times_4 : decode b_Law_times 4 = .ok (.invokevirtual 49, 3) := by decide +kernel
theorem d_Law_times_7 : decode b_Law_times 7 = .ok (.goto 7, 3) := by decide +kernel
theorem d_Law_times_10 : decode b_Law_times 10 = .ok (.astore 4, 2) := by decide +kernel
theorem d_Law_times_12 : decode b_Law_times 12 = .ok (.iconst 1, 1) := by decide +kernel
theorem d_Law_times_13 : decode b_Law_times 13 = .ok (.ireturn, 1) := by decide +kernel
theorem d_Law_times_14 : decode b_Law_times 14 = .ok (.iconst 0, 1) := by decide +kernel
theorem d_Law_times_15 : decode b_Law_times 15 = .ok (.ireturn, 1) := by decide +kernel
theorem d_Law_same_0 : decode b_Law_same 0 = .ok (.aload_n 3, 1) := by decide +kernel
theorem d_Law_same_1 : decode b_Law_same 1 = .ok (.iconst 0, 1) := by decide +kernel
theorem d_Law_same_2 : decode b_Law_same 2 = .ok (.aload_n 0, 1) := by decide +kernel
theorem d_Law_same_3 : decode b_Law_same 3 = .ok (.iload_n 1, 1) := by decide +kernel
theorem d_Law_same_4 : decode b_Law_same 4 = .ok (.iload_n 2, 1) := by decide +kernel
theorem d_Law_same_5 : decode b_Law_same 5 = .ok (.invokevirtual 52, 3) := by decide +kernel
theorem d_Law_same_8 : decode b_Law_same 8 = .ok (.ifCond .eq 7, 3) := by decide +kernel
theorem d_Law_same_11 : decode b_Law_same 11 = .ok (.lconst 1, 1) := by decide +kernel
theorem d_Law_same_12 : decode b_Law_same 12 = .ok (.goto 4, 3) := by decide +kernel
theorem d_Law_same_15 : decode b_Law_same 15 = .ok (.lconst 0, 1) := by decide +kernel
theorem d_Law_same_16 : decode b_Law_same 16 = .ok (.lastore, 1) := by decide +kernel
theorem d_Law_same_17 : decode b_Law_same 17 = .ok (.goto 7, 3) := by decide +kernel
theorem d_Law_same_20 : decode b_Law_same 20 = .ok (.astore 4, 2) := by decide +kernel
theorem d_Law_same_22 : decode b_Law_same 22 = .ok (.iconst 1, 1) := by decide +kernel
theorem d_Law_same_23 : decode b_Law_same 23 = .ok (.ireturn, 1) := by decide +kernel
theorem d_Law_same_24 : decode b_Law_same 24 = .ok (.iconst 0, 1) := by decide +kernel
theorem d_Law_same_25 : decode b_Law_same 25 = .ok (.ireturn, 1) := by decide +kernel
theorem d_Law_sign_0 : decode b_Law_sign 0 = .ok (.aload 6, 2) := by decide +kernel
theorem d_Law_sign_2 : decode b_Law_sign 2 = .ok (.iconst 0, 1) := by decide +kernel
theorem d_Law_sign_3 : decode b_Law_sign 3 = .ok (.aload_n 0, 1) := by decide +kernel
theorem d_Law_sign_4 : decode b_Law_sign 4 = .ok (.iload_n 1, 1) := by decide +kernel
theorem d_Law_sign_5 : decode b_Law_sign 5 = .ok (.iload_n 2, 1) := by decide +kernel
theorem d_Law_sign_6 : decode b_Law_sign 6 = .ok (.iload_n 3, 1) := by decide +kernel
theorem d_Law_sign_7 : decode b_Law_sign 7 = .ok (.iload 4, 2) := by decide +kernel
theorem d_Law_sign_9 : decode b_Law_sign 9 = .ok (.iload 5, 2) := by decide +kernel
theorem d_Law_sign_11 : decode b_Law_sign 11 = .ok (.invokevirtual 56, 3) := by decide +kernel
theorem d_Law_sign_14 : decode b_Law_sign 14 = .ok (.ifCond .eq 7, 3) := by decide +kernel
theorem d_Law_sign_17 : decode b_Law_sign 17 = .ok (.lconst 1, 1) := by decide +kernel
theorem d_Law_sign_18 : decode b_Law_sign 18 = .ok (.goto 4, 3) := by decide +kernel
theorem d_Law_sign_21 : decode b_Law_sign 21 = .ok (.lconst 0, 1) := by decide +kernel
theorem d_Law_sign_22 : decode b_Law_sign 22 = .ok (.lastore, 1) := by decide +kernel
theorem d_Law_sign_23 : decode b_Law_sign 23 = .ok (.goto 7, 3) := by decide +kernel
theorem d_Law_sign_26 : decode b_Law_sign 26 = .ok (.astore 7, 2) := by decide +kernel
theorem d_Law_sign_28 : decode b_Law_sign 28 = .ok (.iconst 1, 1) := by decide +kernel
theorem d_Law_sign_29 : decode b_Law_sign 29 = .ok (.ireturn, 1) := by decide +kernel
theorem d_Law_sign_30 : decode b_Law_sign 30 = .ok (.iconst 0, 1) := by decide +kernel
theorem d_Law_sign_31 : decode b_Law_sign 31 = .ok (.ireturn, 1) := by decide +kernel
theorem d_Law_verify_0 : decode b_Law_verify 0 = .ok (.aload 5, 2) := by decide +kernel
theorem d_Law_verify_2 : decode b_Law_verify 2 = .ok (.iconst 0, 1) := by decide +kernel
theorem d_Law_verify_3 : decode b_Law_verify 3 = .ok (.aload_n 0, 1) := by decide +kernel
theorem d_Law_verify_4 : decode b_Law_verify 4 = .ok (.iload_n 1, 1) := by decide +kernel
theorem d_Law_verify_5 : decode b_Law_verify 5 = .ok (.iload_n 2, 1) := by decide +kernel
theorem d_Law_verify_6 : decode b_Law_verify 6 = .ok (.iload_n 3, 1) := by decide +kernel
theorem d_Law_verify_7 : decode b_Law_verify 7 = .ok (.iload 4, 2) := by decide +kernel
theorem d_Law_verify_9 : decode b_Law_verify 9 = .ok (.invokevirtual 60, 3) := by decide +kernel
theorem d_Law_verify_12 : decode b_Law_verify 12 = .ok (.ifCond .eq 7, 3) := by decide +kernel
theorem d_Law_verify_15 : decode b_Law_verify 15 = .ok (.lconst 1, 1) := by decide +kernel
theorem d_Law_verify_16 : decode b_Law_verify 16 = .ok (.goto 4, 3) := by decide +kernel
theorem d_Law_verify_19 : decode b_Law_verify 19 = .ok (.lconst 0, 1) := by decide +kernel
theorem d_Law_verify_20 : decode b_Law_verify 20 = .ok (.lastore, 1) := by decide +kernel
theorem d_Law_verify_21 : decode b_Law_verify 21 = .ok (.goto 7, 3) := by decide +kernel
theorem d_Law_verify_24 : decode b_Law_verify 24 = .ok (.astore 6, 2) := by decide +kernel
theorem d_Law_verify_26 : decode b_Law_verify 26 = .ok (.iconst 1, 1) := by decide +kernel
theorem d_Law_verify_27 : decode b_Law_verify 27 = .ok (.ireturn, 1) := by decide +kernel
theorem d_Law_verify_28 : decode b_Law_verify 28 = .ok (.iconst 0, 1) := by decide +kernel
theorem d_Law_verify_29 : decode b_Law_verify 29 = .ok (.ireturn, 1) := by decide +kernel
theorem d_Law_law_0 : decode b_Law_law 0 = .ok (.new 8, 3) := by decide +kernel
theorem d_Law_law_3 : decode b_Law_law 3 = .ok (.dup, 1) := by decide +kernel
theorem d_Law_law_4 : decode b_Law_law 4 = .ok (.invokespecial 63, 3) := by decide +kernel
theorem d_Law_law_7 : decode b_Law_law 7 = .ok (.astore_n 1, 1) := by decide +kernel
theorem d_Law_law_8 : decode b_Law_law 8 = .ok (.new 64, 3) := by decide +kernel
theorem d_Law_law_11 : decode b_Law_law 11 = .ok (.dup, 1) := by decide +kernel
theorem d_Law_law_12 : decode b_Law_law 12 = .ok (.invokespecial 66, 3) := by decide +kernel
theorem d_Law_law_15 : decode b_Law_law 15 = .ok (.astore_n 2, 1) := by decide +kernel
theorem d_Law_law_16 : decode b_Law_law 16 = .ok (.iconst 1, 1) := by decide +kernel
theorem d_Law_law_17 : decode b_Law_law 17 = .ok (.newarray .long, 2) := by decide +kernel
theorem d_Law_law_19 : decode b_Law_law 19 = .ok (.astore_n 3, 1) := by decide +kernel
theorem d_Law_law_20 : decode b_Law_law 20 = .ok (.iconst 0, 1) := by decide +kernel
theorem d_Law_law_21 : decode b_Law_law 21 = .ok (.istore 4, 2) := by decide +kernel
theorem d_Law_law_23 : decode b_Law_law 23 = .ok (.iload 4, 2) := by decide +kernel
theorem d_Law_law_25 : decode b_Law_law 25 = .ok (.aload_n 0, 1) := by decide +kernel
theorem d_Law_law_26 : decode b_Law_law 26 = .ok (.arraylength, 1) := by decide +kernel
theorem d_Law_law_27 : decode b_Law_law 27 = .ok (.bipush 6, 2) := by decide +kernel
theorem d_Law_law_29 : decode b_Law_law 29 = .ok (.isub, 1) := by decide +kernel
theorem d_Law_law_30 : decode b_Law_law 30 = .ok (.if_icmp .gt 1168, 3) := by decide +kernel
theorem d_Law_law_33 : decode b_Law_law 33 = .ok (.aload_n 0, 1) := by decide +kernel
theorem d_Law_law_34 : decode b_Law_law 34 = .ok (.iload 4, 2) := by decide +kernel
theorem d_Law_law_36 : decode b_Law_law 36 = .ok (.iaload, 1) := by decide +kernel
theorem d_Law_law_37 : decode b_Law_law 37 = .ok (.bipush 15, 2) := by decide +kernel
theorem d_Law_law_39 : decode b_Law_law 39 = .ok (.iand, 1) := by decide +kernel
theorem d_Law_law_112 : decode b_Law_law 112 = .ok (.aload_n 1, 1) := by decide +kernel
theorem d_Law_law_113 : decode b_Law_law 113 = .ok (.aload_n 0, 1) := by decide +kernel
theorem d_Law_law_114 : decode b_Law_law 114 = .ok (.iload 4, 2) := by decide +kernel
theorem d_Law_law_116 : decode b_Law_law 116 = .ok (.iconst 1, 1) := by decide +kernel
theorem d_Law_law_117 : decode b_Law_law 117 = .ok (.iadd, 1) := by decide +kernel
theorem d_Law_law_118 : decode b_Law_law 118 = .ok (.iaload, 1) := by decide +kernel
theorem d_Law_law_119 : decode b_Law_law 119 = .ok (.aload_n 0, 1) := by decide +kernel
theorem d_Law_law_120 : decode b_Law_law 120 = .ok (.iload 4, 2) := by decide +kernel
theorem d_Law_law_122 : decode b_Law_law 122 = .ok (.iconst 2, 1) := by decide +kernel
theorem d_Law_law_123 : decode b_Law_law 123 = .ok (.iadd, 1) := by decide +kernel
theorem d_Law_law_124 : decode b_Law_law 124 = .ok (.iaload, 1) := by decide +kernel
theorem d_Law_law_125 : decode b_Law_law 125 = .ok (.aload_n 0, 1) := by decide +kernel
theorem d_Law_law_126 : decode b_Law_law 126 = .ok (.iload 4, 2) := by decide +kernel
theorem d_Law_law_128 : decode b_Law_law 128 = .ok (.iconst 3, 1) := by decide +kernel
theorem d_Law_law_129 : decode b_Law_law 129 = .ok (.iadd, 1) := by decide +kernel
theorem d_Law_law_130 : decode b_Law_law 130 = .ok (.iaload, 1) := by decide +kernel
theorem d_Law_law_131 : decode b_Law_law 131 = .ok (.i2l, 1) := by decide +kernel
theorem d_Law_law_132 : decode b_Law_law 132 = .ok (.bipush 32, 2) := by decide +kernel
theorem d_Law_law_134 : decode b_Law_law 134 = .ok (.lshl, 1) := by decide +kernel
theorem d_Law_law_135 : decode b_Law_law 135 = .ok (.aload_n 0, 1) := by decide +kernel
theorem d_Law_law_136 : decode b_Law_law 136 = .ok (.iload 4, 2) := by decide +kernel
theorem d_Law_law_138 : decode b_Law_law 138 = .ok (.iconst 4, 1) := by decide +kernel
theorem d_Law_law_139 : decode b_Law_law 139 = .ok (.iadd, 1) := by decide +kernel
theorem d_Law_law_140 : decode b_Law_law 140 = .ok (.iaload, 1) := by decide +kernel
theorem d_Law_law_141 : decode b_Law_law 141 = .ok (.i2l, 1) := by decide +kernel
theorem d_Law_law_142 : decode b_Law_law 142 = .ok (.ldc2_w 67, 3) := by decide +kernel
theorem d_Law_law_145 : decode b_Law_law 145 = .ok (.land, 1) := by decide +kernel
theorem d_Law_law_146 : decode b_Law_law 146 = .ok (.lor, 1) := by decide +kernel
theorem d_Law_law_147 : decode b_Law_law 147 = .ok (.invokestatic 69, 3) := by decide +kernel
theorem d_Law_law_150 : decode b_Law_law 150 = .ok (.istore 5, 2) := by decide +kernel
theorem d_Law_law_152 : decode b_Law_law 152 = .ok (.aload_n 2, 1) := by decide +kernel
theorem d_Law_law_153 : decode b_Law_law 153 = .ok (.aload_n 0, 1) := by decide +kernel
theorem d_Law_law_154 : decode b_Law_law 154 = .ok (.iload 4, 2) := by decide +kernel
theorem d_Law_law_156 : decode b_Law_law 156 = .ok (.iconst 1, 1) := by decide +kernel
theorem d_Law_law_157 : decode b_Law_law 157 = .ok (.iadd, 1) := by decide +kernel
theorem d_Law_law_158 : decode b_Law_law 158 = .ok (.iaload, 1) := by decide +kernel
theorem d_Law_law_159 : decode b_Law_law 159 = .ok (.aload_n 0, 1) := by decide +kernel
theorem d_Law_law_160 : decode b_Law_law 160 = .ok (.iload 4, 2) := by decide +kernel
theorem d_Law_law_162 : decode b_Law_law 162 = .ok (.iconst 2, 1) := by decide +kernel
theorem d_Law_law_163 : decode b_Law_law 163 = .ok (.iadd, 1) := by decide +kernel
theorem d_Law_law_164 : decode b_Law_law 164 = .ok (.iaload, 1) := by decide +kernel
theorem d_Law_law_165 : decode b_Law_law 165 = .ok (.aload_n 0, 1) := by decide +kernel
theorem d_Law_law_166 : decode b_Law_law 166 = .ok (.iload 4, 2) := by decide +kernel
theorem d_Law_law_168 : decode b_Law_law 168 = .ok (.iconst 3, 1) := by decide +kernel
theorem d_Law_law_169 : decode b_Law_law 169 = .ok (.iadd, 1) := by decide +kernel
theorem d_Law_law_170 : decode b_Law_law 170 = .ok (.iaload, 1) := by decide +kernel
theorem d_Law_law_171 : decode b_Law_law 171 = .ok (.i2l, 1) := by decide +kernel
theorem d_Law_law_172 : decode b_Law_law 172 = .ok (.bipush 32, 2) := by decide +kernel
theorem d_Law_law_174 : decode b_Law_law 174 = .ok (.lshl, 1) := by decide +kernel
theorem d_Law_law_175 : decode b_Law_law 175 = .ok (.aload_n 0, 1) := by decide +kernel
theorem d_Law_law_176 : decode b_Law_law 176 = .ok (.iload 4, 2) := by decide +kernel
theorem d_Law_law_178 : decode b_Law_law 178 = .ok (.iconst 4, 1) := by decide +kernel
theorem d_Law_law_179 : decode b_Law_law 179 = .ok (.iadd, 1) := by decide +kernel
theorem d_Law_law_180 : decode b_Law_law 180 = .ok (.iaload, 1) := by decide +kernel
theorem d_Law_law_181 : decode b_Law_law 181 = .ok (.i2l, 1) := by decide +kernel
theorem d_Law_law_182 : decode b_Law_law 182 = .ok (.ldc2_w 67, 3) := by decide +kernel
theorem d_Law_law_185 : decode b_Law_law 185 = .ok (.land, 1) := by decide +kernel
theorem d_Law_law_186 : decode b_Law_law 186 = .ok (.lor, 1) := by decide +kernel
theorem d_Law_law_187 : decode b_Law_law 187 = .ok (.invokevirtual 74, 3) := by decide +kernel
theorem d_Law_law_190 : decode b_Law_law 190 = .ok (.aload_n 2, 1) := by decide +kernel
theorem d_Law_law_191 : decode b_Law_law 191 = .ok (.invokevirtual 75, 3) := by decide +kernel
theorem d_Law_law_194 : decode b_Law_law 194 = .ok (.iload 5, 2) := by decide +kernel
theorem d_Law_law_196 : decode b_Law_law 196 = .ok (.if_icmp .eq 5, 3) := by decide +kernel
theorem d_Law_law_199 : decode b_Law_law 199 = .ok (.iconst 0, 1) := by decide +kernel
theorem d_Law_law_200 : decode b_Law_law 200 = .ok (.ireturn, 1) := by decide +kernel
theorem d_Law_law_201 : decode b_Law_law 201 = .ok (.goto 991, 3) := by decide +kernel
theorem d_Law_law_204 : decode b_Law_law 204 = .ok (.aload_n 1, 1) := by decide +kernel
theorem d_Law_law_205 : decode b_Law_law 205 = .ok (.aload_n 0, 1) := by decide +kernel
theorem d_Law_law_206 : decode b_Law_law 206 = .ok (.iload 4, 2) := by decide +kernel
theorem d_Law_law_208 : decode b_Law_law 208 = .ok (.iconst 1, 1) := by decide +kernel
theorem d_Law_law_209 : decode b_Law_law 209 = .ok (.iadd, 1) := by decide +kernel
theorem d_Law_law_210 : decode b_Law_law 210 = .ok (.iaload, 1) := by decide +kernel
theorem d_Law_law_211 : decode b_Law_law 211 = .ok (.aload_n 0, 1) := by decide +kernel
theorem d_Law_law_212 : decode b_Law_law 212 = .ok (.iload 4, 2) := by decide +kernel
theorem d_Law_law_214 : decode b_Law_law 214 = .ok (.iconst 2, 1) := by decide +kernel
theorem d_Law_law_215 : decode b_Law_law 215 = .ok (.iadd, 1) := by decide +kernel
theorem d_Law_law_216 : decode b_Law_law 216 = .ok (.iaload, 1) := by decide +kernel
theorem d_Law_law_217 : decode b_Law_law 217 = .ok (.aload_n 3, 1) := by decide +kernel
theorem d_Law_law_218 : decode b_Law_law 218 = .ok (.invokestatic 79, 3) := by decide +kernel
theorem d_Law_law_221 : decode b_Law_law 221 = .ok (.istore 5, 2) := by decide +kernel
theorem d_Law_law_223 : decode b_Law_law 223 = .ok (.aload_n 2, 1) := by decide +kernel
theorem d_Law_law_224 : decode b_Law_law 224 = .ok (.aload_n 0, 1) := by decide +kernel
theorem d_Law_law_225 : decode b_Law_law 225 = .ok (.iload 4, 2) := by decide +kernel
theorem d_Law_law_227 : decode b_Law_law 227 = .ok (.iconst 1, 1) := by decide +kernel
theorem d_Law_law_228 : decode b_Law_law 228 = .ok (.iadd, 1) := by decide +kernel
theorem d_Law_law_229 : decode b_Law_law 229 = .ok (.iaload, 1) := by decide +kernel
theorem d_Law_law_230 : decode b_Law_law 230 = .ok (.aload_n 0, 1) := by decide +kernel
theorem d_Law_law_231 : decode b_Law_law 231 = .ok (.iload 4, 2) := by decide +kernel
theorem d_Law_law_233 : decode b_Law_law 233 = .ok (.iconst 2, 1) := by decide +kernel
theorem d_Law_law_234 : decode b_Law_law 234 = .ok (.iadd, 1) := by decide +kernel
theorem d_Law_law_235 : decode b_Law_law 235 = .ok (.iaload, 1) := by decide +kernel
theorem d_Law_law_236 : decode b_Law_law 236 = .ok (.invokevirtual 82, 3) := by decide +kernel
theorem d_Law_law_239 : decode b_Law_law 239 = .ok (.lstore 6, 2) := by decide +kernel
theorem d_Law_law_241 : decode b_Law_law 241 = .ok (.aload_n 2, 1) := by decide +kernel
theorem d_Law_law_242 : decode b_Law_law 242 = .ok (.invokevirtual 75, 3) := by decide +kernel
theorem d_Law_law_245 : decode b_Law_law 245 = .ok (.iload 5, 2) := by decide +kernel
theorem d_Law_law_247 : decode b_Law_law 247 = .ok (.if_icmp .eq 5, 3) := by decide +kernel
theorem d_Law_law_250 : decode b_Law_law 250 = .ok (.iconst 0, 1) := by decide +kernel
theorem d_Law_law_251 : decode b_Law_law 251 = .ok (.ireturn, 1) := by decide +kernel
theorem d_Law_law_252 : decode b_Law_law 252 = .ok (.iload 5, 2) := by decide +kernel
theorem d_Law_law_254 : decode b_Law_law 254 = .ok (.ifCond .ne 14, 3) := by decide +kernel
theorem d_Law_law_257 : decode b_Law_law 257 = .ok (.aload_n 3, 1) := by decide +kernel
theorem d_Law_law_258 : decode b_Law_law 258 = .ok (.iconst 0, 1) := by decide +kernel
theorem d_Law_law_259 : decode b_Law_law 259 = .ok (.laload, 1) := by decide +kernel
theorem d_Law_law_260 : decode b_Law_law 260 = .ok (.lload 6, 2) := by decide +kernel
theorem d_Law_law_262 : decode b_Law_law 262 = .ok (.lcmp, 1) := by decide +kernel
theorem d_Law_law_263 : decode b_Law_law 263 = .ok (.ifCond .eq 5, 3) := by decide +kernel
theorem d_Law_law_266 : decode b_Law_law 266 = .ok (.iconst 0, 1) := by decide +kernel
theorem d_Law_law_267 : decode b_Law_law 267 = .ok (.ireturn, 1) := by decide +kernel
theorem d_Law_law_268 : decode b_Law_law 268 = .ok (.goto 924, 3) := by decide +kernel
theorem d_Law_law_271 : decode b_Law_law 271 = .ok (.aload_n 1, 1) := by decide +kernel
theorem d_Law_law_272 : decode b_Law_law 272 = .ok (.aload_n 0, 1) := by decide +kernel
theorem d_Law_law_273 : decode b_Law_law 273 = .ok (.iload 4, 2) := by decide +kernel
theorem d_Law_law_275 : decode b_Law_law 275 = .ok (.iconst 1, 1) := by decide +kernel
theorem d_Law_law_276 : decode b_Law_law 276 = .ok (.iadd, 1) := by decide +kernel
theorem d_Law_law_277 : decode b_Law_law 277 = .ok (.iaload, 1) := by decide +kernel
theorem d_Law_law_278 : decode b_Law_law 278 = .ok (.aload_n 0, 1) := by decide +kernel
theorem d_Law_law_279 : decode b_Law_law 279 = .ok (.iload 4, 2) := by decide +kernel
theorem d_Law_law_281 : decode b_Law_law 281 = .ok (.iconst 2, 1) := by decide +kernel
theorem d_Law_law_282 : decode b_Law_law 282 = .ok (.iadd, 1) := by decide +kernel
theorem d_Law_law_283 : decode b_Law_law 283 = .ok (.iaload, 1) := by decide +kernel
theorem d_Law_law_284 : decode b_Law_law 284 = .ok (.aload_n 3, 1) := by decide +kernel
theorem d_Law_law_285 : decode b_Law_law 285 = .ok (.invokestatic 83, 3) := by decide +kernel
theorem d_Law_law_288 : decode b_Law_law 288 = .ok (.istore 5, 2) := by decide +kernel
theorem d_Law_law_290 : decode b_Law_law 290 = .ok (.aload_n 2, 1) := by decide +kernel
theorem d_Law_law_291 : decode b_Law_law 291 = .ok (.aload_n 0, 1) := by decide +kernel
theorem d_Law_law_292 : decode b_Law_law 292 = .ok (.iload 4, 2) := by decide +kernel
theorem d_Law_law_294 : decode b_Law_law 294 = .ok (.iconst 1, 1) := by decide +kernel
theorem d_Law_law_295 : decode b_Law_law 295 = .ok (.iadd, 1) := by decide +kernel
theorem d_Law_law_296 : decode b_Law_law 296 = .ok (.iaload, 1) := by decide +kernel
theorem d_Law_law_297 : decode b_Law_law 297 = .ok (.aload_n 0, 1) := by decide +kernel
theorem d_Law_law_298 : decode b_Law_law 298 = .ok (.iload 4, 2) := by decide +kernel
theorem d_Law_law_300 : decode b_Law_law 300 = .ok (.iconst 2, 1) := by decide +kernel
theorem d_Law_law_301 : decode b_Law_law 301 = .ok (.iadd, 1) := by decide +kernel
theorem d_Law_law_302 : decode b_Law_law 302 = .ok (.iaload, 1) := by decide +kernel
theorem d_Law_law_303 : decode b_Law_law 303 = .ok (.invokevirtual 85, 3) := by decide +kernel
theorem d_Law_law_306 : decode b_Law_law 306 = .ok (.istore 6, 2) := by decide +kernel
theorem d_Law_law_308 : decode b_Law_law 308 = .ok (.aload_n 2, 1) := by decide +kernel
theorem d_Law_law_309 : decode b_Law_law 309 = .ok (.invokevirtual 75, 3) := by decide +kernel
theorem d_Law_law_312 : decode b_Law_law 312 = .ok (.iload 5, 2) := by decide +kernel
theorem d_Law_law_314 : decode b_Law_law 314 = .ok (.if_icmp .eq 5, 3) := by decide +kernel
theorem d_Law_law_317 : decode b_Law_law 317 = .ok (.iconst 0, 1) := by decide +kernel
theorem d_Law_law_318 : decode b_Law_law 318 = .ok (.ireturn, 1) := by decide +kernel
theorem d_Law_law_319 : decode b_Law_law 319 = .ok (.iload 5, 2) := by decide +kernel
theorem d_Law_law_321 : decode b_Law_law 321 = .ok (.ifCond .ne 15, 3) := by decide +kernel
theorem d_Law_law_324 : decode b_Law_law 324 = .ok (.aload_n 3, 1) := by decide +kernel
theorem d_Law_law_325 : decode b_Law_law 325 = .ok (.iconst 0, 1) := by decide +kernel
theorem d_Law_law_326 : decode b_Law_law 326 = .ok (.laload, 1) := by decide +kernel
theorem d_Law_law_327 : decode b_Law_law 327 = .ok (.iload 6, 2) := by decide +kernel
theorem d_Law_law_329 : decode b_Law_law 329 = .ok (.i2l, 1) := by decide +kernel
theorem d_Law_law_330 : decode b_Law_law 330 = .ok (.lcmp, 1) := by decide +kernel
theorem d_Law_law_331 : decode b_Law_law 331 = .ok (.ifCond .eq 5, 3) := by decide +kernel
theorem d_Law_law_334 : decode b_Law_law 334 = .ok (.iconst 0, 1) := by decide +kernel
theorem d_Law_law_335 : decode b_Law_law 335 = .ok (.ireturn, 1) := by decide +kernel
theorem d_Law_law_336 : decode b_Law_law 336 = .ok (.goto 856, 3) := by decide +kernel
theorem d_Law_law_339 : decode b_Law_law 339 = .ok (.aload_n 1, 1) := by decide +kernel
theorem d_Law_law_340 : decode b_Law_law 340 = .ok (.aload_n 0, 1) := by decide +kernel
theorem d_Law_law_341 : decode b_Law_law 341 = .ok (.iload 4, 2) := by decide +kernel
theorem d_Law_law_343 : decode b_Law_law 343 = .ok (.iconst 1, 1) := by decide +kernel
theorem d_Law_law_344 : decode b_Law_law 344 = .ok (.iadd, 1) := by decide +kernel
theorem d_Law_law_345 : decode b_Law_law 345 = .ok (.iaload, 1) := by decide +kernel
theorem d_Law_law_346 : decode b_Law_law 346 = .ok (.aload_n 0, 1) := by decide +kernel
theorem d_Law_law_347 : decode b_Law_law 347 = .ok (.iload 4, 2) := by decide +kernel
theorem d_Law_law_349 : decode b_Law_law 349 = .ok (.iconst 2, 1) := by decide +kernel
theorem d_Law_law_350 : decode b_Law_law 350 = .ok (.iadd, 1) := by decide +kernel
theorem d_Law_law_351 : decode b_Law_law 351 = .ok (.iaload, 1) := by decide +kernel
theorem d_Law_law_352 : decode b_Law_law 352 = .ok (.aload_n 0, 1) := by decide +kernel
theorem d_Law_law_353 : decode b_Law_law 353 = .ok (.iload 4, 2) := by decide +kernel
theorem d_Law_law_355 : decode b_Law_law 355 = .ok (.iconst 3, 1) := by decide +kernel
theorem d_Law_law_356 : decode b_Law_law 356 = .ok (.iadd, 1) := by decide +kernel
theorem d_Law_law_357 : decode b_Law_law 357 = .ok (.iaload, 1) := by decide +kernel
theorem d_Law_law_358 : decode b_Law_law 358 = .ok (.aload_n 0, 1) := by decide +kernel
theorem d_Law_law_359 : decode b_Law_law 359 = .ok (.iload 4, 2) := by decide +kernel
theorem d_Law_law_361 : decode b_Law_law 361 = .ok (.iconst 4, 1) := by decide +kernel
theorem d_Law_law_362 : decode b_Law_law 362 = .ok (.iadd, 1) := by decide +kernel
theorem d_Law_law_363 : decode b_Law_law 363 = .ok (.iaload, 1) := by decide +kernel
theorem d_Law_law_364 : decode b_Law_law 364 = .ok (.aload_n 3, 1) := by decide +kernel
theorem d_Law_law_365 : decode b_Law_law 365 = .ok (.invokestatic 86, 3) := by decide +kernel
theorem d_Law_law_368 : decode b_Law_law 368 = .ok (.istore 5, 2) := by decide +kernel
theorem d_Law_law_370 : decode b_Law_law 370 = .ok (.aload_n 2, 1) := by decide +kernel
theorem d_Law_law_371 : decode b_Law_law 371 = .ok (.aload_n 0, 1) := by decide +kernel
theorem d_Law_law_372 : decode b_Law_law 372 = .ok (.iload 4, 2) := by decide +kernel
theorem d_Law_law_374 : decode b_Law_law 374 = .ok (.iconst 1, 1) := by decide +kernel
theorem d_Law_law_375 : decode b_Law_law 375 = .ok (.iadd, 1) := by decide +kernel
theorem d_Law_law_376 : decode b_Law_law 376 = .ok (.iaload, 1) := by decide +kernel
theorem d_Law_law_377 : decode b_Law_law 377 = .ok (.aload_n 0, 1) := by decide +kernel
theorem d_Law_law_378 : decode b_Law_law 378 = .ok (.iload 4, 2) := by decide +kernel
theorem d_Law_law_380 : decode b_Law_law 380 = .ok (.iconst 2, 1) := by decide +kernel
theorem d_Law_law_381 : decode b_Law_law 381 = .ok (.iadd, 1) := by decide +kernel
theorem d_Law_law_382 : decode b_Law_law 382 = .ok (.iaload, 1) := by decide +kernel
theorem d_Law_law_383 : decode b_Law_law 383 = .ok (.aload_n 0, 1) := by decide +kernel
theorem d_Law_law_384 : decode b_Law_law 384 = .ok (.iload 4, 2) := by decide +kernel
theorem d_Law_law_386 : decode b_Law_law 386 = .ok (.iconst 3, 1) := by decide +kernel
theorem d_Law_law_387 : decode b_Law_law 387 = .ok (.iadd, 1) := by decide +kernel
theorem d_Law_law_388 : decode b_Law_law 388 = .ok (.iaload, 1) := by decide +kernel
theorem d_Law_law_389 : decode b_Law_law 389 = .ok (.aload_n 0, 1) := by decide +kernel
theorem d_Law_law_390 : decode b_Law_law 390 = .ok (.iload 4, 2) := by decide +kernel
theorem d_Law_law_392 : decode b_Law_law 392 = .ok (.iconst 4, 1) := by decide +kernel
theorem d_Law_law_393 : decode b_Law_law 393 = .ok (.iadd, 1) := by decide +kernel
theorem d_Law_law_394 : decode b_Law_law 394 = .ok (.iaload, 1) := by decide +kernel
theorem d_Law_law_395 : decode b_Law_law 395 = .ok (.invokevirtual 89, 3) := by decide +kernel
theorem d_Law_law_398 : decode b_Law_law 398 = .ok (.istore 6, 2) := by decide +kernel
theorem d_Law_law_400 : decode b_Law_law 400 = .ok (.aload_n 2, 1) := by decide +kernel
theorem d_Law_law_401 : decode b_Law_law 401 = .ok (.invokevirtual 75, 3) := by decide +kernel
theorem d_Law_law_404 : decode b_Law_law 404 = .ok (.iload 5, 2) := by decide +kernel
theorem d_Law_law_406 : decode b_Law_law 406 = .ok (.if_icmp .eq 5, 3) := by decide +kernel
theorem d_Law_law_409 : decode b_Law_law 409 = .ok (.iconst 0, 1) := by decide +kernel
theorem d_Law_law_410 : decode b_Law_law 410 = .ok (.ireturn, 1) := by decide +kernel
theorem d_Law_law_411 : decode b_Law_law 411 = .ok (.iload 5, 2) := by decide +kernel
theorem d_Law_law_413 : decode b_Law_law 413 = .ok (.ifCond .ne 22, 3) := by decide +kernel
theorem d_Law_law_416 : decode b_Law_law 416 = .ok (.aload_n 3, 1) := by decide +kernel
theorem d_Law_law_417 : decode b_Law_law 417 = .ok (.iconst 0, 1) := by decide +kernel
theorem d_Law_law_418 : decode b_Law_law 418 = .ok (.laload, 1) := by decide +kernel
theorem d_Law_law_419 : decode b_Law_law 419 = .ok (.iload 6, 2) := by decide +kernel
theorem d_Law_law_421 : decode b_Law_law 421 = .ok (.ifCond .eq 7, 3) := by decide +kernel
theorem d_Law_law_424 : decode b_Law_law 424 = .ok (.lconst 1, 1) := by decide +kernel
theorem d_Law_law_425 : decode b_Law_law 425 = .ok (.goto 4, 3) := by decide +kernel
theorem d_Law_law_428 : decode b_Law_law 428 = .ok (.lconst 0, 1) := by decide +kernel
theorem d_Law_law_429 : decode b_Law_law 429 = .ok (.lcmp, 1) := by decide +kernel
theorem d_Law_law_430 : decode b_Law_law 430 = .ok (.ifCond .eq 5, 3) := by decide +kernel
theorem d_Law_law_433 : decode b_Law_law 433 = .ok (.iconst 0, 1) := by decide +kernel
theorem d_Law_law_434 : decode b_Law_law 434 = .ok (.ireturn, 1) := by decide +kernel
theorem d_Law_law_435 : decode b_Law_law 435 = .ok (.goto 757, 3) := by decide +kernel
theorem d_Law_law_438 : decode b_Law_law 438 = .ok (.aload_n 1, 1) := by decide +kernel
theorem d_Law_law_439 : decode b_Law_law 439 = .ok (.aload_n 0, 1) := by decide +kernel
theorem d_Law_law_440 : decode b_Law_law 440 = .ok (.iload 4, 2) := by decide +kernel
theorem d_Law_law_442 : decode b_Law_law 442 = .ok (.iconst 1, 1) := by decide +kernel
theorem d_Law_law_443 : decode b_Law_law 443 = .ok (.iadd, 1) := by decide +kernel
theorem d_Law_law_444 : decode b_Law_law 444 = .ok (.iaload, 1) := by decide +kernel
theorem d_Law_law_445 : decode b_Law_law 445 = .ok (.invokestatic 90, 3) := by decide +kernel
theorem d_Law_law_448 : decode b_Law_law 448 = .ok (.istore 5, 2) := by decide +kernel
theorem d_Law_law_450 : decode b_Law_law 450 = .ok (.aload_n 2, 1) := by decide +kernel
theorem d_Law_law_451 : decode b_Law_law 451 = .ok (.aload_n 0, 1) := by decide +kernel
theorem d_Law_law_452 : decode b_Law_law 452 = .ok (.iload 4, 2) := by decide +kernel
theorem d_Law_law_454 : decode b_Law_law 454 = .ok (.iconst 1, 1) := by decide +kernel
theorem d_Law_law_455 : decode b_Law_law 455 = .ok (.iadd, 1) := by decide +kernel
theorem d_Law_law_456 : decode b_Law_law 456 = .ok (.iaload, 1) := by decide +kernel
theorem d_Law_law_457 : decode b_Law_law 457 = .ok (.invokevirtual 93, 3) := by decide +kernel
theorem d_Law_law_460 : decode b_Law_law 460 = .ok (.aload_n 2, 1) := by decide +kernel
theorem d_Law_law_461 : decode b_Law_law 461 = .ok (.invokevirtual 75, 3) := by decide +kernel
theorem d_Law_law_464 : decode b_Law_law 464 = .ok (.iload 5, 2) := by decide +kernel
theorem d_Law_law_466 : decode b_Law_law 466 = .ok (.if_icmp .eq 5, 3) := by decide +kernel
theorem d_Law_law_469 : decode b_Law_law 469 = .ok (.iconst 0, 1) := by decide +kernel
theorem d_Law_law_470 : decode b_Law_law 470 = .ok (.ireturn, 1) := by decide +kernel
theorem d_Law_law_471 : decode b_Law_law 471 = .ok (.goto 721, 3) := by decide +kernel
theorem d_Law_law_474 : decode b_Law_law 474 = .ok (.aload_n 1, 1) := by decide +kernel
theorem d_Law_law_475 : decode b_Law_law 475 = .ok (.aload_n 0, 1) := by decide +kernel
theorem d_Law_law_476 : decode b_Law_law 476 = .ok (.iload 4, 2) := by decide +kernel
theorem d_Law_law_478 : decode b_Law_law 478 = .ok (.iconst 1, 1) := by decide +kernel
theorem d_Law_law_479 : decode b_Law_law 479 = .ok (.iadd, 1) := by decide +kernel
theorem d_Law_law_480 : decode b_Law_law 480 = .ok (.iaload, 1) := by decide +kernel
theorem d_Law_law_481 : decode b_Law_law 481 = .ok (.invokestatic 94, 3) := by decide +kernel
theorem d_Law_law_484 : decode b_Law_law 484 = .ok (.istore 5, 2) := by decide +kernel
theorem d_Law_law_486 : decode b_Law_law 486 = .ok (.aload_n 2, 1) := by decide +kernel
theorem d_Law_law_487 : decode b_Law_law 487 = .ok (.aload_n 0, 1) := by decide +kernel
theorem d_Law_law_488 : decode b_Law_law 488 = .ok (.iload 4, 2) := by decide +kernel
theorem d_Law_law_490 : decode b_Law_law 490 = .ok (.iconst 1, 1) := by decide +kernel
theorem d_Law_law_491 : decode b_Law_law 491 = .ok (.iadd, 1) := by decide +kernel
theorem d_Law_law_492 : decode b_Law_law 492 = .ok (.iaload, 1) := by decide +kernel
theorem d_Law_law_493 : decode b_Law_law 493 = .ok (.invokevirtual 96, 3) := by decide +kernel
theorem d_Law_law_496 : decode b_Law_law 496 = .ok (.aload_n 2, 1) := by decide +kernel
theorem d_Law_law_497 : decode b_Law_law 497 = .ok (.invokevirtual 75, 3) := by decide +kernel
theorem d_Law_law_500 : decode b_Law_law 500 = .ok (.iload 5, 2) := by decide +kernel
theorem d_Law_law_502 : decode b_Law_law 502 = .ok (.if_icmp .eq 5, 3) := by decide +kernel
theorem d_Law_law_505 : decode b_Law_law 505 = .ok (.iconst 0, 1) := by decide +kernel
theorem d_Law_law_506 : decode b_Law_law 506 = .ok (.ireturn, 1) := by decide +kernel
theorem d_Law_law_507 : decode b_Law_law 507 = .ok (.goto 685, 3) := by decide +kernel
theorem d_Law_law_510 : decode b_Law_law 510 = .ok (.aload_n 1, 1) := by decide +kernel
theorem d_Law_law_511 : decode b_Law_law 511 = .ok (.aload_n 0, 1) := by decide +kernel
theorem d_Law_law_512 : decode b_Law_law 512 = .ok (.iload 4, 2) := by decide +kernel
theorem d_Law_law_514 : decode b_Law_law 514 = .ok (.iconst 1, 1) := by decide +kernel
theorem d_Law_law_515 : decode b_Law_law 515 = .ok (.iadd, 1) := by decide +kernel
theorem d_Law_law_516 : decode b_Law_law 516 = .ok (.iaload, 1) := by decide +kernel
theorem d_Law_law_517 : decode b_Law_law 517 = .ok (.aload_n 0, 1) := by decide +kernel
theorem d_Law_law_518 : decode b_Law_law 518 = .ok (.iload 4, 2) := by decide +kernel
theorem d_Law_law_520 : decode b_Law_law 520 = .ok (.iconst 2, 1) := by decide +kernel
theorem d_Law_law_521 : decode b_Law_law 521 = .ok (.iadd, 1) := by decide +kernel
theorem d_Law_law_522 : decode b_Law_law 522 = .ok (.iaload, 1) := by decide +kernel
theorem d_Law_law_523 : decode b_Law_law 523 = .ok (.aload_n 0, 1) := by decide +kernel
theorem d_Law_law_524 : decode b_Law_law 524 = .ok (.iload 4, 2) := by decide +kernel
theorem d_Law_law_526 : decode b_Law_law 526 = .ok (.iconst 3, 1) := by decide +kernel
theorem d_Law_law_527 : decode b_Law_law 527 = .ok (.iadd, 1) := by decide +kernel
theorem d_Law_law_528 : decode b_Law_law 528 = .ok (.iaload, 1) := by decide +kernel
theorem d_Law_law_529 : decode b_Law_law 529 = .ok (.aload_n 3, 1) := by decide +kernel
theorem d_Law_law_530 : decode b_Law_law 530 = .ok (.invokestatic 97, 3) := by decide +kernel
theorem d_Law_law_533 : decode b_Law_law 533 = .ok (.istore 5, 2) := by decide +kernel
theorem d_Law_law_535 : decode b_Law_law 535 = .ok (.aload_n 2, 1) := by decide +kernel
theorem d_Law_law_536 : decode b_Law_law 536 = .ok (.aload_n 0, 1) := by decide +kernel
theorem d_Law_law_537 : decode b_Law_law 537 = .ok (.iload 4, 2) := by decide +kernel
theorem d_Law_law_539 : decode b_Law_law 539 = .ok (.iconst 1, 1) := by decide +kernel
theorem d_Law_law_540 : decode b_Law_law 540 = .ok (.iadd, 1) := by decide +kernel
theorem d_Law_law_541 : decode b_Law_law 541 = .ok (.iaload, 1) := by decide +kernel
theorem d_Law_law_542 : decode b_Law_law 542 = .ok (.aload_n 0, 1) := by decide +kernel
theorem d_Law_law_543 : decode b_Law_law 543 = .ok (.iload 4, 2) := by decide +kernel
theorem d_Law_law_545 : decode b_Law_law 545 = .ok (.iconst 2, 1) := by decide +kernel
theorem d_Law_law_546 : decode b_Law_law 546 = .ok (.iadd, 1) := by decide +kernel
theorem d_Law_law_547 : decode b_Law_law 547 = .ok (.iaload, 1) := by decide +kernel
theorem d_Law_law_548 : decode b_Law_law 548 = .ok (.aload_n 0, 1) := by decide +kernel
theorem d_Law_law_549 : decode b_Law_law 549 = .ok (.iload 4, 2) := by decide +kernel
theorem d_Law_law_551 : decode b_Law_law 551 = .ok (.iconst 3, 1) := by decide +kernel
theorem d_Law_law_552 : decode b_Law_law 552 = .ok (.iadd, 1) := by decide +kernel
theorem d_Law_law_553 : decode b_Law_law 553 = .ok (.iaload, 1) := by decide +kernel
theorem d_Law_law_554 : decode b_Law_law 554 = .ok (.invokevirtual 100, 3) := by decide +kernel
theorem d_Law_law_557 : decode b_Law_law 557 = .ok (.istore 6, 2) := by decide +kernel
theorem d_Law_law_559 : decode b_Law_law 559 = .ok (.aload_n 2, 1) := by decide +kernel
theorem d_Law_law_560 : decode b_Law_law 560 = .ok (.invokevirtual 75, 3) := by decide +kernel
theorem d_Law_law_563 : decode b_Law_law 563 = .ok (.iload 5, 2) := by decide +kernel
theorem d_Law_law_565 : decode b_Law_law 565 = .ok (.if_icmp .eq 5, 3) := by decide +kernel
theorem d_Law_law_568 : decode b_Law_law 568 = .ok (.iconst 0, 1) := by decide +kernel
theorem d_Law_law_569 : decode b_Law_law 569 = .ok (.ireturn, 1) := by decide +kernel
theorem d_Law_law_570 : decode b_Law_law 570 = .ok (.iload 5, 2) := by decide +kernel
theorem d_Law_law_572 : decode b_Law_law 572 = .ok (.ifCond .ne 22, 3) := by decide +kernel
theorem d_Law_law_575 : decode b_Law_law 575 = .ok (.aload_n 3, 1) := by decide +kernel
theorem d_Law_law_576 : decode b_Law_law 576 = .ok (.iconst 0, 1) := by decide +kernel
theorem d_Law_law_577 : decode b_Law_law 577 = .ok (.laload, 1) := by decide +kernel
theorem d_Law_law_578 : decode b_Law_law 578 = .ok (.iload 6, 2) := by decide +kernel
theorem d_Law_law_580 : decode b_Law_law 580 = .ok (.ifCond .eq 7, 3) := by decide +kernel
theorem d_Law_law_583 : decode b_Law_law 583 = .ok (.lconst 1, 1) := by decide +kernel
theorem d_Law_law_584 : decode b_Law_law 584 = .ok (.goto 4, 3) := by decide +kernel
theorem d_Law_law_587 : decode b_Law_law 587 = .ok (.lconst 0, 1) := by decide +kernel
theorem d_Law_law_588 : decode b_Law_law 588 = .ok (.lcmp, 1) := by decide +kernel
theorem d_Law_law_589 : decode b_Law_law 589 = .ok (.ifCond .eq 5, 3) := by decide +kernel
theorem d_Law_law_592 : decode b_Law_law 592 = .ok (.iconst 0, 1) := by decide +kernel
theorem d_Law_law_593 : decode b_Law_law 593 = .ok (.ireturn, 1) := by decide +kernel
theorem d_Law_law_594 : decode b_Law_law 594 = .ok (.goto 598, 3) := by decide +kernel
theorem d_Law_law_597 : decode b_Law_law 597 = .ok (.aload_n 1, 1) := by decide +kernel
theorem d_Law_law_598 : decode b_Law_law 598 = .ok (.aload_n 0, 1) := by decide +kernel
theorem d_Law_law_599 : decode b_Law_law 599 = .ok (.iload 4, 2) := by decide +kernel
theorem d_Law_law_601 : decode b_Law_law 601 = .ok (.iconst 1, 1) := by decide +kernel
theorem d_Law_law_602 : decode b_Law_law 602 = .ok (.iadd, 1) := by decide +kernel
theorem d_Law_law_603 : decode b_Law_law 603 = .ok (.iaload, 1) := by decide +kernel
theorem d_Law_law_604 : decode b_Law_law 604 = .ok (.aload_n 0, 1) := by decide +kernel
theorem d_Law_law_605 : decode b_Law_law 605 = .ok (.iload 4, 2) := by decide +kernel
theorem d_Law_law_607 : decode b_Law_law 607 = .ok (.iconst 2, 1) := by decide +kernel
theorem d_Law_law_608 : decode b_Law_law 608 = .ok (.iadd, 1) := by decide +kernel
theorem d_Law_law_609 : decode b_Law_law 609 = .ok (.iaload, 1) := by decide +kernel
theorem d_Law_law_610 : decode b_Law_law 610 = .ok (.aload_n 0, 1) := by decide +kernel
theorem d_Law_law_611 : decode b_Law_law 611 = .ok (.iload 4, 2) := by decide +kernel
theorem d_Law_law_613 : decode b_Law_law 613 = .ok (.iconst 3, 1) := by decide +kernel
theorem d_Law_law_614 : decode b_Law_law 614 = .ok (.iadd, 1) := by decide +kernel
theorem d_Law_law_615 : decode b_Law_law 615 = .ok (.iaload, 1) := by decide +kernel
theorem d_Law_law_616 : decode b_Law_law 616 = .ok (.ifCond .eq 7, 3) := by decide +kernel
theorem d_Law_law_619 : decode b_Law_law 619 = .ok (.iconst 1, 1) := by decide +kernel
theorem d_Law_law_620 : decode b_Law_law 620 = .ok (.goto 4, 3) := by decide +kernel
theorem d_Law_law_623 : decode b_Law_law 623 = .ok (.iconst 0, 1) := by decide +kernel
theorem d_Law_law_624 : decode b_Law_law 624 = .ok (.aload_n 3, 1) := by decide +kernel
theorem d_Law_law_625 : decode b_Law_law 625 = .ok (.invokestatic 101, 3) := by decide +kernel
theorem d_Law_law_628 : decode b_Law_law 628 = .ok (.istore 5, 2) := by decide +kernel
theorem d_Law_law_630 : decode b_Law_law 630 = .ok (.aload_n 2, 1) := by decide +kernel
theorem d_Law_law_631 : decode b_Law_law 631 = .ok (.aload_n 0, 1) := by decide +kernel
theorem d_Law_law_632 : decode b_Law_law 632 = .ok (.iload 4, 2) := by decide +kernel
theorem d_Law_law_634 : decode b_Law_law 634 = .ok (.iconst 1, 1) := by decide +kernel
theorem d_Law_law_635 : decode b_Law_law 635 = .ok (.iadd, 1) := by decide +kernel
theorem d_Law_law_636 : decode b_Law_law 636 = .ok (.iaload, 1) := by decide +kernel
theorem d_Law_law_637 : decode b_Law_law 637 = .ok (.aload_n 0, 1) := by decide +kernel
theorem d_Law_law_638 : decode b_Law_law 638 = .ok (.iload 4, 2) := by decide +kernel
theorem d_Law_law_640 : decode b_Law_law 640 = .ok (.iconst 2, 1) := by decide +kernel
theorem d_Law_law_641 : decode b_Law_law 641 = .ok (.iadd, 1) := by decide +kernel
theorem d_Law_law_642 : decode b_Law_law 642 = .ok (.iaload, 1) := by decide +kernel
theorem d_Law_law_643 : decode b_Law_law 643 = .ok (.aload_n 0, 1) := by decide +kernel
theorem d_Law_law_644 : decode b_Law_law 644 = .ok (.iload 4, 2) := by decide +kernel
theorem d_Law_law_646 : decode b_Law_law 646 = .ok (.iconst 3, 1) := by decide +kernel
theorem d_Law_law_647 : decode b_Law_law 647 = .ok (.iadd, 1) := by decide +kernel
theorem d_Law_law_648 : decode b_Law_law 648 = .ok (.iaload, 1) := by decide +kernel
theorem d_Law_law_649 : decode b_Law_law 649 = .ok (.ifCond .eq 7, 3) := by decide +kernel
theorem d_Law_law_652 : decode b_Law_law 652 = .ok (.iconst 1, 1) := by decide +kernel
theorem d_Law_law_653 : decode b_Law_law 653 = .ok (.goto 4, 3) := by decide +kernel
theorem d_Law_law_656 : decode b_Law_law 656 = .ok (.iconst 0, 1) := by decide +kernel
theorem d_Law_law_657 : decode b_Law_law 657 = .ok (.invokevirtual 104, 3) := by decide +kernel
theorem d_Law_law_660 : decode b_Law_law 660 = .ok (.istore 6, 2) := by decide +kernel
theorem d_Law_law_662 : decode b_Law_law 662 = .ok (.aload_n 2, 1) := by decide +kernel
theorem d_Law_law_663 : decode b_Law_law 663 = .ok (.invokevirtual 75, 3) := by decide +kernel
theorem d_Law_law_666 : decode b_Law_law 666 = .ok (.iload 5, 2) := by decide +kernel
theorem d_Law_law_668 : decode b_Law_law 668 = .ok (.if_icmp .eq 5, 3) := by decide +kernel
theorem d_Law_law_671 : decode b_Law_law 671 = .ok (.iconst 0, 1) := by decide +kernel
theorem d_Law_law_672 : decode b_Law_law 672 = .ok (.ireturn, 1) := by decide +kernel
theorem d_Law_law_673 : decode b_Law_law 673 = .ok (.iload 5, 2) := by decide +kernel
theorem d_Law_law_675 : decode b_Law_law 675 = .ok (.ifCond .ne 22, 3) := by decide +kernel
theorem d_Law_law_678 : decode b_Law_law 678 = .ok (.aload_n 3, 1) := by decide +kernel
theorem d_Law_law_679 : decode b_Law_law 679 = .ok (.iconst 0, 1) := by decide +kernel
theorem d_Law_law_680 : decode b_Law_law 680 = .ok (.laload, 1) := by decide +kernel
theorem d_Law_law_681 : decode b_Law_law 681 = .ok (.iload 6, 2) := by decide +kernel
theorem d_Law_law_683 : decode b_Law_law 683 = .ok (.ifCond .eq 7, 3) := by decide +kernel
theorem d_Law_law_686 : decode b_Law_law 686 = .ok (.lconst 1, 1) := by decide +kernel
theorem d_Law_law_687 : decode b_Law_law 687 = .ok (.goto 4, 3) := by decide +kernel
theorem d_Law_law_690 : decode b_Law_law 690 = .ok (.lconst 0, 1) := by decide +kernel
theorem d_Law_law_691 : decode b_Law_law 691 = .ok (.lcmp, 1) := by decide +kernel
theorem d_Law_law_692 : decode b_Law_law 692 = .ok (.ifCond .eq 5, 3) := by decide +kernel
theorem d_Law_law_695 : decode b_Law_law 695 = .ok (.iconst 0, 1) := by decide +kernel
theorem d_Law_law_696 : decode b_Law_law 696 = .ok (.ireturn, 1) := by decide +kernel
theorem d_Law_law_697 : decode b_Law_law 697 = .ok (.goto 495, 3) := by decide +kernel
theorem d_Law_law_700 : decode b_Law_law 700 = .ok (.aload_n 1, 1) := by decide +kernel
theorem d_Law_law_701 : decode b_Law_law 701 = .ok (.aload_n 0, 1) := by decide +kernel
theorem d_Law_law_702 : decode b_Law_law 702 = .ok (.iload 4, 2) := by decide +kernel
theorem d_Law_law_704 : decode b_Law_law 704 = .ok (.iconst 1, 1) := by decide +kernel
theorem d_Law_law_705 : decode b_Law_law 705 = .ok (.iadd, 1) := by decide +kernel
theorem d_Law_law_706 : decode b_Law_law 706 = .ok (.iaload, 1) := by decide +kernel
theorem d_Law_law_707 : decode b_Law_law 707 = .ok (.aload_n 0, 1) := by decide +kernel
theorem d_Law_law_708 : decode b_Law_law 708 = .ok (.iload 4, 2) := by decide +kernel
theorem d_Law_law_710 : decode b_Law_law 710 = .ok (.iconst 2, 1) := by decide +kernel
theorem d_Law_law_711 : decode b_Law_law 711 = .ok (.iadd, 1) := by decide +kernel
theorem d_Law_law_712 : decode b_Law_law 712 = .ok (.iaload, 1) := by decide +kernel
theorem d_Law_law_713 : decode b_Law_law 713 = .ok (.aload_n 0, 1) := by decide +kernel
theorem d_Law_law_714 : decode b_Law_law 714 = .ok (.iload 4, 2) := by decide +kernel
theorem d_Law_law_716 : decode b_Law_law 716 = .ok (.iconst 3, 1) := by decide +kernel
theorem d_Law_law_717 : decode b_Law_law 717 = .ok (.iadd, 1) := by decide +kernel
theorem d_Law_law_718 : decode b_Law_law 718 = .ok (.iaload, 1) := by decide +kernel
theorem d_Law_law_719 : decode b_Law_law 719 = .ok (.aload_n 3, 1) := by decide +kernel
theorem d_Law_law_720 : decode b_Law_law 720 = .ok (.invokestatic 105, 3) := by decide +kernel
theorem d_Law_law_723 : decode b_Law_law 723 = .ok (.istore 5, 2) := by decide +kernel
theorem d_Law_law_725 : decode b_Law_law 725 = .ok (.aload_n 2, 1) := by decide +kernel
theorem d_Law_law_726 : decode b_Law_law 726 = .ok (.aload_n 0, 1) := by decide +kernel
theorem d_Law_law_727 : decode b_Law_law 727 = .ok (.iload 4, 2) := by decide +kernel
theorem d_Law_law_729 : decode b_Law_law 729 = .ok (.iconst 1, 1) := by decide +kernel
theorem d_Law_law_730 : decode b_Law_law 730 = .ok (.iadd, 1) := by decide +kernel
theorem d_Law_law_731 : decode b_Law_law 731 = .ok (.iaload, 1) := by decide +kernel
theorem d_Law_law_732 : decode b_Law_law 732 = .ok (.aload_n 0, 1) := by decide +kernel
theorem d_Law_law_733 : decode b_Law_law 733 = .ok (.iload 4, 2) := by decide +kernel
theorem d_Law_law_735 : decode b_Law_law 735 = .ok (.iconst 2, 1) := by decide +kernel
theorem d_Law_law_736 : decode b_Law_law 736 = .ok (.iadd, 1) := by decide +kernel
theorem d_Law_law_737 : decode b_Law_law 737 = .ok (.iaload, 1) := by decide +kernel
theorem d_Law_law_738 : decode b_Law_law 738 = .ok (.aload_n 0, 1) := by decide +kernel
theorem d_Law_law_739 : decode b_Law_law 739 = .ok (.iload 4, 2) := by decide +kernel
theorem d_Law_law_741 : decode b_Law_law 741 = .ok (.iconst 3, 1) := by decide +kernel
theorem d_Law_law_742 : decode b_Law_law 742 = .ok (.iadd, 1) := by decide +kernel
theorem d_Law_law_743 : decode b_Law_law 743 = .ok (.iaload, 1) := by decide +kernel
theorem d_Law_law_744 : decode b_Law_law 744 = .ok (.invokevirtual 107, 3) := by decide +kernel
theorem d_Law_law_747 : decode b_Law_law 747 = .ok (.istore 6, 2) := by decide +kernel
theorem d_Law_law_749 : decode b_Law_law 749 = .ok (.aload_n 2, 1) := by decide +kernel
theorem d_Law_law_750 : decode b_Law_law 750 = .ok (.invokevirtual 75, 3) := by decide +kernel
theorem d_Law_law_753 : decode b_Law_law 753 = .ok (.iload 5, 2) := by decide +kernel
theorem d_Law_law_755 : decode b_Law_law 755 = .ok (.if_icmp .eq 5, 3) := by decide +kernel
theorem d_Law_law_758 : decode b_Law_law 758 = .ok (.iconst 0, 1) := by decide +kernel
theorem d_Law_law_759 : decode b_Law_law 759 = .ok (.ireturn, 1) := by decide +kernel
theorem d_Law_law_760 : decode b_Law_law 760 = .ok (.iload 5, 2) := by decide +kernel
theorem d_Law_law_762 : decode b_Law_law 762 = .ok (.ifCond .ne 22, 3) := by decide +kernel
theorem d_Law_law_765 : decode b_Law_law 765 = .ok (.aload_n 3, 1) := by decide +kernel
theorem d_Law_law_766 : decode b_Law_law 766 = .ok (.iconst 0, 1) := by decide +kernel
theorem d_Law_law_767 : decode b_Law_law 767 = .ok (.laload, 1) := by decide +kernel
theorem d_Law_law_768 : decode b_Law_law 768 = .ok (.iload 6, 2) := by decide +kernel
theorem d_Law_law_770 : decode b_Law_law 770 = .ok (.ifCond .eq 7, 3) := by decide +kernel
theorem d_Law_law_773 : decode b_Law_law 773 = .ok (.lconst 1, 1) := by decide +kernel
theorem d_Law_law_774 : decode b_Law_law 774 = .ok (.goto 4, 3) := by decide +kernel
theorem d_Law_law_777 : decode b_Law_law 777 = .ok (.lconst 0, 1) := by decide +kernel
theorem d_Law_law_778 : decode b_Law_law 778 = .ok (.lcmp, 1) := by decide +kernel
theorem d_Law_law_779 : decode b_Law_law 779 = .ok (.ifCond .eq 5, 3) := by decide +kernel
theorem d_Law_law_782 : decode b_Law_law 782 = .ok (.iconst 0, 1) := by decide +kernel
theorem d_Law_law_783 : decode b_Law_law 783 = .ok (.ireturn, 1) := by decide +kernel
theorem d_Law_law_784 : decode b_Law_law 784 = .ok (.goto 408, 3) := by decide +kernel
theorem d_Law_law_787 : decode b_Law_law 787 = .ok (.aload_n 1, 1) := by decide +kernel
theorem d_Law_law_788 : decode b_Law_law 788 = .ok (.aload_n 0, 1) := by decide +kernel
theorem d_Law_law_789 : decode b_Law_law 789 = .ok (.iload 4, 2) := by decide +kernel
theorem d_Law_law_791 : decode b_Law_law 791 = .ok (.iconst 1, 1) := by decide +kernel
theorem d_Law_law_792 : decode b_Law_law 792 = .ok (.iadd, 1) := by decide +kernel
theorem d_Law_law_793 : decode b_Law_law 793 = .ok (.iaload, 1) := by decide +kernel
theorem d_Law_law_794 : decode b_Law_law 794 = .ok (.aload_n 0, 1) := by decide +kernel
theorem d_Law_law_795 : decode b_Law_law 795 = .ok (.iload 4, 2) := by decide +kernel
theorem d_Law_law_797 : decode b_Law_law 797 = .ok (.iconst 2, 1) := by decide +kernel
theorem d_Law_law_798 : decode b_Law_law 798 = .ok (.iadd, 1) := by decide +kernel
theorem d_Law_law_799 : decode b_Law_law 799 = .ok (.iaload, 1) := by decide +kernel
theorem d_Law_law_800 : decode b_Law_law 800 = .ok (.aload_n 0, 1) := by decide +kernel
theorem d_Law_law_801 : decode b_Law_law 801 = .ok (.iload 4, 2) := by decide +kernel
theorem d_Law_law_803 : decode b_Law_law 803 = .ok (.iconst 3, 1) := by decide +kernel
theorem d_Law_law_804 : decode b_Law_law 804 = .ok (.iadd, 1) := by decide +kernel
theorem d_Law_law_805 : decode b_Law_law 805 = .ok (.iaload, 1) := by decide +kernel
theorem d_Law_law_806 : decode b_Law_law 806 = .ok (.invokestatic 108, 3) := by decide +kernel
theorem d_Law_law_809 : decode b_Law_law 809 = .ok (.istore 5, 2) := by decide +kernel
theorem d_Law_law_811 : decode b_Law_law 811 = .ok (.aload_n 2, 1) := by decide +kernel
theorem d_Law_law_812 : decode b_Law_law 812 = .ok (.aload_n 0, 1) := by decide +kernel
theorem d_Law_law_813 : decode b_Law_law 813 = .ok (.iload 4, 2) := by decide +kernel
theorem d_Law_law_815 : decode b_Law_law 815 = .ok (.iconst 1, 1) := by decide +kernel
theorem d_Law_law_816 : decode b_Law_law 816 = .ok (.iadd, 1) := by decide +kernel
theorem d_Law_law_817 : decode b_Law_law 817 = .ok (.iaload, 1) := by decide +kernel
theorem d_Law_law_818 : decode b_Law_law 818 = .ok (.aload_n 0, 1) := by decide +kernel
theorem d_Law_law_819 : decode b_Law_law 819 = .ok (.iload 4, 2) := by decide +kernel
theorem d_Law_law_821 : decode b_Law_law 821 = .ok (.iconst 2, 1) := by decide +kernel
theorem d_Law_law_822 : decode b_Law_law 822 = .ok (.iadd, 1) := by decide +kernel
theorem d_Law_law_823 : decode b_Law_law 823 = .ok (.iaload, 1) := by decide +kernel
theorem d_Law_law_824 : decode b_Law_law 824 = .ok (.aload_n 0, 1) := by decide +kernel
theorem d_Law_law_825 : decode b_Law_law 825 = .ok (.iload 4, 2) := by decide +kernel
theorem d_Law_law_827 : decode b_Law_law 827 = .ok (.iconst 3, 1) := by decide +kernel
theorem d_Law_law_828 : decode b_Law_law 828 = .ok (.iadd, 1) := by decide +kernel
theorem d_Law_law_829 : decode b_Law_law 829 = .ok (.iaload, 1) := by decide +kernel
theorem d_Law_law_830 : decode b_Law_law 830 = .ok (.invokevirtual 111, 3) := by decide +kernel
theorem d_Law_law_833 : decode b_Law_law 833 = .ok (.aload_n 2, 1) := by decide +kernel
theorem d_Law_law_834 : decode b_Law_law 834 = .ok (.invokevirtual 75, 3) := by decide +kernel
theorem d_Law_law_837 : decode b_Law_law 837 = .ok (.iload 5, 2) := by decide +kernel
theorem d_Law_law_839 : decode b_Law_law 839 = .ok (.if_icmp .eq 5, 3) := by decide +kernel
theorem d_Law_law_842 : decode b_Law_law 842 = .ok (.iconst 0, 1) := by decide +kernel
theorem d_Law_law_843 : decode b_Law_law 843 = .ok (.ireturn, 1) := by decide +kernel
theorem d_Law_law_844 : decode b_Law_law 844 = .ok (.goto 348, 3) := by decide +kernel
theorem d_Law_law_847 : decode b_Law_law 847 = .ok (.aload_n 1, 1) := by decide +kernel
theorem d_Law_law_848 : decode b_Law_law 848 = .ok (.aload_n 0, 1) := by decide +kernel
theorem d_Law_law_849 : decode b_Law_law 849 = .ok (.iload 4, 2) := by decide +kernel
theorem d_Law_law_851 : decode b_Law_law 851 = .ok (.iconst 1, 1) := by decide +kernel
theorem d_Law_law_852 : decode b_Law_law 852 = .ok (.iadd, 1) := by decide +kernel
theorem d_Law_law_853 : decode b_Law_law 853 = .ok (.iaload, 1) := by decide +kernel
theorem d_Law_law_854 : decode b_Law_law 854 = .ok (.aload_n 0, 1) := by decide +kernel
theorem d_Law_law_855 : decode b_Law_law 855 = .ok (.iload 4, 2) := by decide +kernel
theorem d_Law_law_857 : decode b_Law_law 857 = .ok (.iconst 2, 1) := by decide +kernel
theorem d_Law_law_858 : decode b_Law_law 858 = .ok (.iadd, 1) := by decide +kernel
theorem d_Law_law_859 : decode b_Law_law 859 = .ok (.iaload, 1) := by decide +kernel
theorem d_Law_law_860 : decode b_Law_law 860 = .ok (.aload_n 0, 1) := by decide +kernel
theorem d_Law_law_861 : decode b_Law_law 861 = .ok (.iload 4, 2) := by decide +kernel
theorem d_Law_law_863 : decode b_Law_law 863 = .ok (.iconst 3, 1) := by decide +kernel
theorem d_Law_law_864 : decode b_Law_law 864 = .ok (.iadd, 1) := by decide +kernel
theorem d_Law_law_865 : decode b_Law_law 865 = .ok (.iaload, 1) := by decide +kernel
theorem d_Law_law_866 : decode b_Law_law 866 = .ok (.invokestatic 112, 3) := by decide +kernel
theorem d_Law_law_869 : decode b_Law_law 869 = .ok (.istore 5, 2) := by decide +kernel
theorem d_Law_law_871 : decode b_Law_law 871 = .ok (.aload_n 2, 1) := by decide +kernel
theorem d_Law_law_872 : decode b_Law_law 872 = .ok (.aload_n 0, 1) := by decide +kernel
theorem d_Law_law_873 : decode b_Law_law 873 = .ok (.iload 4, 2) := by decide +kernel
theorem d_Law_law_875 : decode b_Law_law 875 = .ok (.iconst 1, 1) := by decide +kernel
theorem d_Law_law_876 : decode b_Law_law 876 = .ok (.iadd, 1) := by decide +kernel
theorem d_Law_law_877 : decode b_Law_law 877 = .ok (.iaload, 1) := by decide +kernel
theorem d_Law_law_878 : decode b_Law_law 878 = .ok (.aload_n 0, 1) := by decide +kernel
theorem d_Law_law_879 : decode b_Law_law 879 = .ok (.iload 4, 2) := by decide +kernel
theorem d_Law_law_881 : decode b_Law_law 881 = .ok (.iconst 2, 1) := by decide +kernel
theorem d_Law_law_882 : decode b_Law_law 882 = .ok (.iadd, 1) := by decide +kernel
theorem d_Law_law_883 : decode b_Law_law 883 = .ok (.iaload, 1) := by decide +kernel
theorem d_Law_law_884 : decode b_Law_law 884 = .ok (.aload_n 0, 1) := by decide +kernel
theorem d_Law_law_885 : decode b_Law_law 885 = .ok (.iload 4, 2) := by decide +kernel
theorem d_Law_law_887 : decode b_Law_law 887 = .ok (.iconst 3, 1) := by decide +kernel
theorem d_Law_law_888 : decode b_Law_law 888 = .ok (.iadd, 1) := by decide +kernel
theorem d_Law_law_889 : decode b_Law_law 889 = .ok (.iaload, 1) := by decide +kernel
theorem d_Law_law_890 : decode b_Law_law 890 = .ok (.invokevirtual 114, 3) := by decide +kernel
theorem d_Law_law_893 : decode b_Law_law 893 = .ok (.aload_n 2, 1) := by decide +kernel
theorem d_Law_law_894 : decode b_Law_law 894 = .ok (.invokevirtual 75, 3) := by decide +kernel
theorem d_Law_law_897 : decode b_Law_law 897 = .ok (.iload 5, 2) := by decide +kernel
theorem d_Law_law_899 : decode b_Law_law 899 = .ok (.if_icmp .eq 5, 3) := by decide +kernel
theorem d_Law_law_902 : decode b_Law_law 902 = .ok (.iconst 0, 1) := by decide +kernel
theorem d_Law_law_903 : decode b_Law_law 903 = .ok (.ireturn, 1) := by decide +kernel
theorem d_Law_law_904 : decode b_Law_law 904 = .ok (.goto 288, 3) := by decide +kernel
theorem d_Law_law_907 : decode b_Law_law 907 = .ok (.aload_n 1, 1) := by decide +kernel
theorem d_Law_law_908 : decode b_Law_law 908 = .ok (.aload_n 0, 1) := by decide +kernel
theorem d_Law_law_909 : decode b_Law_law 909 = .ok (.iload 4, 2) := by decide +kernel
theorem d_Law_law_911 : decode b_Law_law 911 = .ok (.iconst 1, 1) := by decide +kernel
theorem d_Law_law_912 : decode b_Law_law 912 = .ok (.iadd, 1) := by decide +kernel
theorem d_Law_law_913 : decode b_Law_law 913 = .ok (.iaload, 1) := by decide +kernel
theorem d_Law_law_914 : decode b_Law_law 914 = .ok (.aload_n 0, 1) := by decide +kernel
theorem d_Law_law_915 : decode b_Law_law 915 = .ok (.iload 4, 2) := by decide +kernel
theorem d_Law_law_917 : decode b_Law_law 917 = .ok (.iconst 2, 1) := by decide +kernel
theorem d_Law_law_918 : decode b_Law_law 918 = .ok (.iadd, 1) := by decide +kernel
theorem d_Law_law_919 : decode b_Law_law 919 = .ok (.iaload, 1) := by decide +kernel
theorem d_Law_law_920 : decode b_Law_law 920 = .ok (.aload_n 3, 1) := by decide +kernel
theorem d_Law_law_921 : decode b_Law_law 921 = .ok (.invokestatic 115, 3) := by decide +kernel
theorem d_Law_law_924 : decode b_Law_law 924 = .ok (.istore 5, 2) := by decide +kernel
theorem d_Law_law_926 : decode b_Law_law 926 = .ok (.aload_n 2, 1) := by decide +kernel
theorem d_Law_law_927 : decode b_Law_law 927 = .ok (.aload_n 0, 1) := by decide +kernel
theorem d_Law_law_928 : decode b_Law_law 928 = .ok (.iload 4, 2) := by decide +kernel
theorem d_Law_law_930 : decode b_Law_law 930 = .ok (.iconst 1, 1) := by decide +kernel
theorem d_Law_law_931 : decode b_Law_law 931 = .ok (.iadd, 1) := by decide +kernel
theorem d_Law_law_932 : decode b_Law_law 932 = .ok (.iaload, 1) := by decide +kernel
theorem d_Law_law_933 : decode b_Law_law 933 = .ok (.aload_n 0, 1) := by decide +kernel
theorem d_Law_law_934 : decode b_Law_law 934 = .ok (.iload 4, 2) := by decide +kernel
theorem d_Law_law_936 : decode b_Law_law 936 = .ok (.iconst 2, 1) := by decide +kernel
theorem d_Law_law_937 : decode b_Law_law 937 = .ok (.iadd, 1) := by decide +kernel
theorem d_Law_law_938 : decode b_Law_law 938 = .ok (.iaload, 1) := by decide +kernel
theorem d_Law_law_939 : decode b_Law_law 939 = .ok (.invokevirtual 117, 3) := by decide +kernel
theorem d_Law_law_942 : decode b_Law_law 942 = .ok (.istore 6, 2) := by decide +kernel
theorem d_Law_law_944 : decode b_Law_law 944 = .ok (.aload_n 2, 1) := by decide +kernel
theorem d_Law_law_945 : decode b_Law_law 945 = .ok (.invokevirtual 75, 3) := by decide +kernel
theorem d_Law_law_948 : decode b_Law_law 948 = .ok (.iload 5, 2) := by decide +kernel
theorem d_Law_law_950 : decode b_Law_law 950 = .ok (.if_icmp .eq 5, 3) := by decide +kernel
theorem d_Law_law_953 : decode b_Law_law 953 = .ok (.iconst 0, 1) := by decide +kernel
theorem d_Law_law_954 : decode b_Law_law 954 = .ok (.ireturn, 1) := by decide +kernel
theorem d_Law_law_955 : decode b_Law_law 955 = .ok (.iload 5, 2) := by decide +kernel
theorem d_Law_law_957 : decode b_Law_law 957 = .ok (.ifCond .ne 22, 3) := by decide +kernel
theorem d_Law_law_960 : decode b_Law_law 960 = .ok (.aload_n 3, 1) := by decide +kernel
theorem d_Law_law_961 : decode b_Law_law 961 = .ok (.iconst 0, 1) := by decide +kernel
theorem d_Law_law_962 : decode b_Law_law 962 = .ok (.laload, 1) := by decide +kernel
theorem d_Law_law_963 : decode b_Law_law 963 = .ok (.iload 6, 2) := by decide +kernel
theorem d_Law_law_965 : decode b_Law_law 965 = .ok (.ifCond .eq 7, 3) := by decide +kernel
theorem d_Law_law_968 : decode b_Law_law 968 = .ok (.lconst 1, 1) := by decide +kernel
theorem d_Law_law_969 : decode b_Law_law 969 = .ok (.goto 4, 3) := by decide +kernel
theorem d_Law_law_972 : decode b_Law_law 972 = .ok (.lconst 0, 1) := by decide +kernel
theorem d_Law_law_973 : decode b_Law_law 973 = .ok (.lcmp, 1) := by decide +kernel
theorem d_Law_law_974 : decode b_Law_law 974 = .ok (.ifCond .eq 5, 3) := by decide +kernel
theorem d_Law_law_977 : decode b_Law_law 977 = .ok (.iconst 0, 1) := by decide +kernel
theorem d_Law_law_978 : decode b_Law_law 978 = .ok (.ireturn, 1) := by decide +kernel
theorem d_Law_law_979 : decode b_Law_law 979 = .ok (.goto 213, 3) := by decide +kernel
theorem d_Law_law_982 : decode b_Law_law 982 = .ok (.aload_n 1, 1) := by decide +kernel
theorem d_Law_law_983 : decode b_Law_law 983 = .ok (.aload_n 0, 1) := by decide +kernel
theorem d_Law_law_984 : decode b_Law_law 984 = .ok (.iload 4, 2) := by decide +kernel
theorem d_Law_law_986 : decode b_Law_law 986 = .ok (.iconst 1, 1) := by decide +kernel
theorem d_Law_law_987 : decode b_Law_law 987 = .ok (.iadd, 1) := by decide +kernel
theorem d_Law_law_988 : decode b_Law_law 988 = .ok (.iaload, 1) := by decide +kernel
theorem d_Law_law_989 : decode b_Law_law 989 = .ok (.aload_n 0, 1) := by decide +kernel
theorem d_Law_law_990 : decode b_Law_law 990 = .ok (.iload 4, 2) := by decide +kernel
theorem d_Law_law_992 : decode b_Law_law 992 = .ok (.iconst 2, 1) := by decide +kernel
theorem d_Law_law_993 : decode b_Law_law 993 = .ok (.iadd, 1) := by decide +kernel
theorem d_Law_law_994 : decode b_Law_law 994 = .ok (.iaload, 1) := by decide +kernel
theorem d_Law_law_995 : decode b_Law_law 995 = .ok (.aload_n 0, 1) := by decide +kernel
theorem d_Law_law_996 : decode b_Law_law 996 = .ok (.iload 4, 2) := by decide +kernel
theorem d_Law_law_998 : decode b_Law_law 998 = .ok (.iconst 3, 1) := by decide +kernel
theorem d_Law_law_999 : decode b_Law_law 999 = .ok (.iadd, 1) := by decide +kernel
theorem d_Law_law_1000 : decode b_Law_law 1000 = .ok (.iaload, 1) := by decide +kernel
theorem d_Law_law_1001 : decode b_Law_law 1001 = .ok (.aload_n 0, 1) := by decide +kernel
theorem d_Law_law_1002 : decode b_Law_law 1002 = .ok (.iload 4, 2) := by decide +kernel
theorem d_Law_law_1004 : decode b_Law_law 1004 = .ok (.iconst 4, 1) := by decide +kernel
theorem d_Law_law_1005 : decode b_Law_law 1005 = .ok (.iadd, 1) := by decide +kernel
theorem d_Law_law_1006 : decode b_Law_law 1006 = .ok (.iaload, 1) := by decide +kernel
theorem d_Law_law_1007 : decode b_Law_law 1007 = .ok (.aload_n 0, 1) := by decide +kernel
theorem d_Law_law_1008 : decode b_Law_law 1008 = .ok (.iload 4, 2) := by decide +kernel
theorem d_Law_law_1010 : decode b_Law_law 1010 = .ok (.iconst 5, 1) := by decide +kernel
theorem d_Law_law_1011 : decode b_Law_law 1011 = .ok (.iadd, 1) := by decide +kernel
theorem d_Law_law_1012 : decode b_Law_law 1012 = .ok (.iaload, 1) := by decide +kernel
theorem d_Law_law_1013 : decode b_Law_law 1013 = .ok (.aload_n 3, 1) := by decide +kernel
theorem d_Law_law_1014 : decode b_Law_law 1014 = .ok (.invokestatic 118, 3) := by decide +kernel
theorem d_Law_law_1017 : decode b_Law_law 1017 = .ok (.istore 5, 2) := by decide +kernel
theorem d_Law_law_1019 : decode b_Law_law 1019 = .ok (.aload_n 2, 1) := by decide +kernel
theorem d_Law_law_1020 : decode b_Law_law 1020 = .ok (.aload_n 0, 1) := by decide +kernel
theorem d_Law_law_1021 : decode b_Law_law 1021 = .ok (.iload 4, 2) := by decide +kernel
theorem d_Law_law_1023 : decode b_Law_law 1023 = .ok (.iconst 1, 1) := by decide +kernel
theorem d_Law_law_1024 : decode b_Law_law 1024 = .ok (.iadd, 1) := by decide +kernel
theorem d_Law_law_1025 : decode b_Law_law 1025 = .ok (.iaload, 1) := by decide +kernel
theorem d_Law_law_1026 : decode b_Law_law 1026 = .ok (.aload_n 0, 1) := by decide +kernel
theorem d_Law_law_1027 : decode b_Law_law 1027 = .ok (.iload 4, 2) := by decide +kernel
theorem d_Law_law_1029 : decode b_Law_law 1029 = .ok (.iconst 2, 1) := by decide +kernel
theorem d_Law_law_1030 : decode b_Law_law 1030 = .ok (.iadd, 1) := by decide +kernel
theorem d_Law_law_1031 : decode b_Law_law 1031 = .ok (.iaload, 1) := by decide +kernel
theorem d_Law_law_1032 : decode b_Law_law 1032 = .ok (.aload_n 0, 1) := by decide +kernel
theorem d_Law_law_1033 : decode b_Law_law 1033 = .ok (.iload 4, 2) := by decide +kernel
theorem d_Law_law_1035 : decode b_Law_law 1035 = .ok (.iconst 3, 1) := by decide +kernel
theorem d_Law_law_1036 : decode b_Law_law 1036 = .ok (.iadd, 1) := by decide +kernel
theorem d_Law_law_1037 : decode b_Law_law 1037 = .ok (.iaload, 1) := by decide +kernel
theorem d_Law_law_1038 : decode b_Law_law 1038 = .ok (.aload_n 0, 1) := by decide +kernel
theorem d_Law_law_1039 : decode b_Law_law 1039 = .ok (.iload 4, 2) := by decide +kernel
theorem d_Law_law_1041 : decode b_Law_law 1041 = .ok (.iconst 4, 1) := by decide +kernel
theorem d_Law_law_1042 : decode b_Law_law 1042 = .ok (.iadd, 1) := by decide +kernel
theorem d_Law_law_1043 : decode b_Law_law 1043 = .ok (.iaload, 1) := by decide +kernel
theorem d_Law_law_1044 : decode b_Law_law 1044 = .ok (.aload_n 0, 1) := by decide +kernel
theorem d_Law_law_1045 : decode b_Law_law 1045 = .ok (.iload 4, 2) := by decide +kernel
theorem d_Law_law_1047 : decode b_Law_law 1047 = .ok (.iconst 5, 1) := by decide +kernel
theorem d_Law_law_1048 : decode b_Law_law 1048 = .ok (.iadd, 1) := by decide +kernel
theorem d_Law_law_1049 : decode b_Law_law 1049 = .ok (.iaload, 1) := by decide +kernel
theorem d_Law_law_1050 : decode b_Law_law 1050 = .ok (.invokevirtual 121, 3) := by decide +kernel
theorem d_Law_law_1053 : decode b_Law_law 1053 = .ok (.istore 6, 2) := by decide +kernel
theorem d_Law_law_1055 : decode b_Law_law 1055 = .ok (.aload_n 2, 1) := by decide +kernel
theorem d_Law_law_1056 : decode b_Law_law 1056 = .ok (.invokevirtual 75, 3) := by decide +kernel
theorem d_Law_law_1059 : decode b_Law_law 1059 = .ok (.iload 5, 2) := by decide +kernel
theorem d_Law_law_1061 : decode b_Law_law 1061 = .ok (.if_icmp .eq 5, 3) := by decide +kernel
theorem d_Law_law_1064 : decode b_Law_law 1064 = .ok (.iconst 0, 1) := by decide +kernel
theorem d_Law_law_1065 : decode b_Law_law 1065 = .ok (.ireturn, 1) := by decide +kernel
theorem d_Law_law_1066 : decode b_Law_law 1066 = .ok (.iload 5, 2) := by decide +kernel
theorem d_Law_law_1068 : decode b_Law_law 1068 = .ok (.ifCond .ne 22, 3) := by decide +kernel
theorem d_Law_law_1071 : decode b_Law_law 1071 = .ok (.aload_n 3, 1) := by decide +kernel
theorem d_Law_law_1072 : decode b_Law_law 1072 = .ok (.iconst 0, 1) := by decide +kernel
theorem d_Law_law_1073 : decode b_Law_law 1073 = .ok (.laload, 1) := by decide +kernel
theorem d_Law_law_1074 : decode b_Law_law 1074 = .ok (.iload 6, 2) := by decide +kernel
theorem d_Law_law_1076 : decode b_Law_law 1076 = .ok (.ifCond .eq 7, 3) := by decide +kernel
theorem d_Law_law_1079 : decode b_Law_law 1079 = .ok (.lconst 1, 1) := by decide +kernel
theorem d_Law_law_1080 : decode b_Law_law 1080 = .ok (.goto 4, 3) := by decide +kernel
theorem d_Law_law_1083 : decode b_Law_law 1083 = .ok (.lconst 0, 1) := by decide +kernel
theorem d_Law_law_1084 : decode b_Law_law 1084 = .ok (.lcmp, 1) := by decide +kernel
theorem d_Law_law_1085 : decode b_Law_law 1085 = .ok (.ifCond .eq 5, 3) := by decide +kernel
theorem d_Law_law_1088 : decode b_Law_law 1088 = .ok (.iconst 0, 1) := by decide +kernel
theorem d_Law_law_1089 : decode b_Law_law 1089 = .ok (.ireturn, 1) := by decide +kernel
theorem d_Law_law_1090 : decode b_Law_law 1090 = .ok (.goto 102, 3) := by decide +kernel
theorem d_Law_law_1093 : decode b_Law_law 1093 = .ok (.aload_n 1, 1) := by decide +kernel
theorem d_Law_law_1094 : decode b_Law_law 1094 = .ok (.aload_n 0, 1) := by decide +kernel
theorem d_Law_law_1095 : decode b_Law_law 1095 = .ok (.iload 4, 2) := by decide +kernel
theorem d_Law_law_1097 : decode b_Law_law 1097 = .ok (.iconst 1, 1) := by decide +kernel
theorem d_Law_law_1098 : decode b_Law_law 1098 = .ok (.iadd, 1) := by decide +kernel
theorem d_Law_law_1099 : decode b_Law_law 1099 = .ok (.iaload, 1) := by decide +kernel
theorem d_Law_law_1100 : decode b_Law_law 1100 = .ok (.aload_n 0, 1) := by decide +kernel
theorem d_Law_law_1101 : decode b_Law_law 1101 = .ok (.iload 4, 2) := by decide +kernel
theorem d_Law_law_1103 : decode b_Law_law 1103 = .ok (.iconst 2, 1) := by decide +kernel
theorem d_Law_law_1104 : decode b_Law_law 1104 = .ok (.iadd, 1) := by decide +kernel
theorem d_Law_law_1105 : decode b_Law_law 1105 = .ok (.iaload, 1) := by decide +kernel
theorem d_Law_law_1106 : decode b_Law_law 1106 = .ok (.aload_n 0, 1) := by decide +kernel
theorem d_Law_law_1107 : decode b_Law_law 1107 = .ok (.iload 4, 2) := by decide +kernel
theorem d_Law_law_1109 : decode b_Law_law 1109 = .ok (.iconst 3, 1) := by decide +kernel
theorem d_Law_law_1110 : decode b_Law_law 1110 = .ok (.iadd, 1) := by decide +kernel
theorem d_Law_law_1111 : decode b_Law_law 1111 = .ok (.iaload, 1) := by decide +kernel
theorem d_Law_law_1112 : decode b_Law_law 1112 = .ok (.aload_n 0, 1) := by decide +kernel
theorem d_Law_law_1113 : decode b_Law_law 1113 = .ok (.iload 4, 2) := by decide +kernel
theorem d_Law_law_1115 : decode b_Law_law 1115 = .ok (.iconst 4, 1) := by decide +kernel
theorem d_Law_law_1116 : decode b_Law_law 1116 = .ok (.iadd, 1) := by decide +kernel
theorem d_Law_law_1117 : decode b_Law_law 1117 = .ok (.iaload, 1) := by decide +kernel
theorem d_Law_law_1118 : decode b_Law_law 1118 = .ok (.aload_n 3, 1) := by decide +kernel
theorem d_Law_law_1119 : decode b_Law_law 1119 = .ok (.invokestatic 122, 3) := by decide +kernel
theorem d_Law_law_1122 : decode b_Law_law 1122 = .ok (.istore 5, 2) := by decide +kernel
theorem d_Law_law_1124 : decode b_Law_law 1124 = .ok (.aload_n 2, 1) := by decide +kernel
theorem d_Law_law_1125 : decode b_Law_law 1125 = .ok (.aload_n 0, 1) := by decide +kernel
theorem d_Law_law_1126 : decode b_Law_law 1126 = .ok (.iload 4, 2) := by decide +kernel
theorem d_Law_law_1128 : decode b_Law_law 1128 = .ok (.iconst 1, 1) := by decide +kernel
theorem d_Law_law_1129 : decode b_Law_law 1129 = .ok (.iadd, 1) := by decide +kernel
theorem d_Law_law_1130 : decode b_Law_law 1130 = .ok (.iaload, 1) := by decide +kernel
theorem d_Law_law_1131 : decode b_Law_law 1131 = .ok (.aload_n 0, 1) := by decide +kernel
theorem d_Law_law_1132 : decode b_Law_law 1132 = .ok (.iload 4, 2) := by decide +kernel
theorem d_Law_law_1134 : decode b_Law_law 1134 = .ok (.iconst 2, 1) := by decide +kernel
theorem d_Law_law_1135 : decode b_Law_law 1135 = .ok (.iadd, 1) := by decide +kernel
theorem d_Law_law_1136 : decode b_Law_law 1136 = .ok (.iaload, 1) := by decide +kernel
theorem d_Law_law_1137 : decode b_Law_law 1137 = .ok (.aload_n 0, 1) := by decide +kernel
theorem d_Law_law_1138 : decode b_Law_law 1138 = .ok (.iload 4, 2) := by decide +kernel
theorem d_Law_law_1140 : decode b_Law_law 1140 = .ok (.iconst 3, 1) := by decide +kernel
theorem d_Law_law_1141 : decode b_Law_law 1141 = .ok (.iadd, 1) := by decide +kernel
theorem d_Law_law_1142 : decode b_Law_law 1142 = .ok (.iaload, 1) := by decide +kernel
theorem d_Law_law_1143 : decode b_Law_law 1143 = .ok (.aload_n 0, 1) := by decide +kernel
theorem d_Law_law_1144 : decode b_Law_law 1144 = .ok (.iload 4, 2) := by decide +kernel
theorem d_Law_law_1146 : decode b_Law_law 1146 = .ok (.iconst 4, 1) := by decide +kernel
theorem d_Law_law_1147 : decode b_Law_law 1147 = .ok (.iadd, 1) := by decide +kernel
theorem d_Law_law_1148 : decode b_Law_law 1148 = .ok (.iaload, 1) := by decide +kernel
theorem d_Law_law_1149 : decode b_Law_law 1149 = .ok (.invokevirtual 124, 3) := by decide +kernel
theorem d_Law_law_1152 : decode b_Law_law 1152 = .ok (.istore 6, 2) := by decide +kernel
theorem d_Law_law_1154 : decode b_Law_law 1154 = .ok (.aload_n 2, 1) := by decide +kernel
theorem d_Law_law_1155 : decode b_Law_law 1155 = .ok (.invokevirtual 75, 3) := by decide +kernel
theorem d_Law_law_1158 : decode b_Law_law 1158 = .ok (.iload 5, 2) := by decide +kernel
theorem d_Law_law_1160 : decode b_Law_law 1160 = .ok (.if_icmp .eq 5, 3) := by decide +kernel
theorem d_Law_law_1163 : decode b_Law_law 1163 = .ok (.iconst 0, 1) := by decide +kernel
theorem d_Law_law_1164 : decode b_Law_law 1164 = .ok (.ireturn, 1) := by decide +kernel
theorem d_Law_law_1165 : decode b_Law_law 1165 = .ok (.iload 5, 2) := by decide +kernel
theorem d_Law_law_1167 : decode b_Law_law 1167 = .ok (.ifCond .ne 22, 3) := by decide +kernel
theorem d_Law_law_1170 : decode b_Law_law 1170 = .ok (.aload_n 3, 1) := by decide +kernel
theorem d_Law_law_1171 : decode b_Law_law 1171 = .ok (.iconst 0, 1) := by decide +kernel
theorem d_Law_law_1172 : decode b_Law_law 1172 = .ok (.laload, 1) := by decide +kernel
theorem d_Law_law_1173 : decode b_Law_law 1173 = .ok (.iload 6, 2) := by decide +kernel
theorem d_Law_law_1175 : decode b_Law_law 1175 = .ok (.ifCond .eq 7, 3) := by decide +kernel
theorem d_Law_law_1178 : decode b_Law_law 1178 = .ok (.lconst 1, 1) := by decide +kernel
theorem d_Law_law_1179 : decode b_Law_law 1179 = .ok (.goto 4, 3) := by decide +kernel
theorem d_Law_law_1182 : decode b_Law_law 1182 = .ok (.lconst 0, 1) := by decide +kernel
theorem d_Law_law_1183 : decode b_Law_law 1183 = .ok (.lcmp, 1) := by decide +kernel
theorem d_Law_law_1184 : decode b_Law_law 1184 = .ok (.ifCond .eq 5, 3) := by decide +kernel
theorem d_Law_law_1187 : decode b_Law_law 1187 = .ok (.iconst 0, 1) := by decide +kernel
theorem d_Law_law_1188 : decode b_Law_law 1188 = .ok (.ireturn, 1) := by decide +kernel
theorem d_Law_law_1189 : decode b_Law_law 1189 = .ok (.goto 3, 3) := by decide +kernel
theorem d_Law_law_1192 : decode b_Law_law 1192 = .ok (.iinc 4 6, 3) := by decide +kernel
theorem d_Law_law_1195 : decode b_Law_law 1195 = .ok (.goto (-1172), 3) := by decide +kernel
theorem d_Law_law_1198 : decode b_Law_law 1198 = .ok (.iconst 1, 1) := by decide +kernel
theorem d_Law_law_1199 : decode b_Law_law 1199 = .ok (.ireturn, 1) := by decide +kernel
