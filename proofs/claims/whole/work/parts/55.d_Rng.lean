/-! decode rows: written by wip/gen/names.py -/
theorem d_Rng_init_0 : decode b_Rng_init 0 = .ok (.aload_n 0, 1) := by decide +kernel
theorem d_Rng_init_1 : decode b_Rng_init 1 = .ok (.invokespecial 3, 3) := by decide +kernel
theorem d_Rng_init_4 : decode b_Rng_init 4 = .ok (.aload_n 0, 1) := by decide +kernel
theorem d_Rng_init_5 : decode b_Rng_init 5 = .ok (.bipush 8, 2) := by decide +kernel
theorem d_Rng_init_7 : decode b_Rng_init 7 = .ok (.newarray .int, 2) := by decide +kernel
theorem d_Rng_init_9 : decode b_Rng_init 9 = .ok (.putfield 9, 3) := by decide +kernel
theorem d_Rng_init_12 : decode b_Rng_init 12 = .ok (.aload_n 0, 1) := by decide +kernel
theorem d_Rng_init_13 : decode b_Rng_init 13 = .ok (.bipush 8, 2) := by decide +kernel
theorem d_Rng_init_15 : decode b_Rng_init 15 = .ok (.newarray .int, 2) := by decide +kernel
theorem d_Rng_init_17 : decode b_Rng_init 17 = .ok (.putfield 15, 3) := by decide +kernel
theorem d_Rng_init_20 : decode b_Rng_init 20 = .ok (.aload_n 0, 1) := by decide +kernel
theorem d_Rng_init_21 : decode b_Rng_init 21 = .ok (.bipush 8, 2) := by decide +kernel
theorem d_Rng_init_23 : decode b_Rng_init 23 = .ok (.newarray .int, 2) := by decide +kernel
theorem d_Rng_init_25 : decode b_Rng_init 25 = .ok (.putfield 18, 3) := by decide +kernel
theorem d_Rng_init_28 : decode b_Rng_init 28 = .ok (.aload_n 0, 1) := by decide +kernel
theorem d_Rng_init_29 : decode b_Rng_init 29 = .ok (.bipush 8, 2) := by decide +kernel
theorem d_Rng_init_31 : decode b_Rng_init 31 = .ok (.newarray .int, 2) := by decide +kernel
theorem d_Rng_init_33 : decode b_Rng_init 33 = .ok (.putfield 21, 3) := by decide +kernel
theorem d_Rng_init_36 : decode b_Rng_init 36 = .ok (.aload_n 0, 1) := by decide +kernel
theorem d_Rng_init_37 : decode b_Rng_init 37 = .ok (.bipush 10, 2) := by decide +kernel
theorem d_Rng_init_39 : decode b_Rng_init 39 = .ok (.newarray .int, 2) := by decide +kernel
theorem d_Rng_init_41 : decode b_Rng_init 41 = .ok (.putfield 24, 3) := by decide +kernel
theorem d_Rng_init_44 : decode b_Rng_init 44 = .ok (.aload_n 0, 1) := by decide +kernel
theorem d_Rng_init_45 : decode b_Rng_init 45 = .ok (.bipush 8, 2) := by decide +kernel
theorem d_Rng_init_47 : decode b_Rng_init 47 = .ok (.newarray .int, 2) := by decide +kernel
theorem d_Rng_init_49 : decode b_Rng_init 49 = .ok (.putfield 27, 3) := by decide +kernel
theorem d_Rng_init_52 : decode b_Rng_init 52 = .ok (.aload_n 0, 1) := by decide +kernel
theorem d_Rng_init_53 : decode b_Rng_init 53 = .ok (.bipush 8, 2) := by decide +kernel
theorem d_Rng_init_55 : decode b_Rng_init 55 = .ok (.newarray .int, 2) := by decide +kernel
theorem d_Rng_init_57 : decode b_Rng_init 57 = .ok (.putfield 30, 3) := by decide +kernel
theorem d_Rng_init_60 : decode b_Rng_init 60 = .ok (.iconst 0, 1) := by decide +kernel
theorem d_Rng_init_61 : decode b_Rng_init 61 = .ok (.istore_n 2, 1) := by decide +kernel
theorem d_Rng_init_62 : decode b_Rng_init 62 = .ok (.iload_n 2, 1) := by decide +kernel
theorem d_Rng_init_63 : decode b_Rng_init 63 = .ok (.bipush 8, 2) := by decide +kernel
theorem d_Rng_init_65 : decode b_Rng_init 65 = .ok (.if_icmp .ge 18, 3) := by decide +kernel
theorem d_Rng_init_68 : decode b_Rng_init 68 = .ok (.aload_n 0, 1) := by decide +kernel
theorem d_Rng_init_69 : decode b_Rng_init 69 = .ok (.getfield 9, 3) := by decide +kernel
theorem d_Rng_init_72 : decode b_Rng_init 72 = .ok (.iload_n 2, 1) := by decide +kernel
theorem d_Rng_init_73 : decode b_Rng_init 73 = .ok (.aload_n 1, 1) := by decide +kernel
theorem d_Rng_init_74 : decode b_Rng_init 74 = .ok (.iload_n 2, 1) := by decide +kernel
theorem d_Rng_init_75 : decode b_Rng_init 75 = .ok (.iaload, 1) := by decide +kernel
theorem d_Rng_init_76 : decode b_Rng_init 76 = .ok (.iastore, 1) := by decide +kernel
theorem d_Rng_init_77 : decode b_Rng_init 77 = .ok (.iinc 2 1, 3) := by decide +kernel
theorem d_Rng_init_80 : decode b_Rng_init 80 = .ok (.goto (-18), 3) := by decide +kernel
theorem d_Rng_init_83 : decode b_Rng_init 83 = .ok (.iconst 1, 1) := by decide +kernel
theorem d_Rng_init_84 : decode b_Rng_init 84 = .ok (.istore_n 2, 1) := by decide +kernel
theorem d_Rng_init_85 : decode b_Rng_init 85 = .ok (.iconst 0, 1) := by decide +kernel
theorem d_Rng_init_86 : decode b_Rng_init 86 = .ok (.istore_n 3, 1) := by decide +kernel
theorem d_Rng_init_87 : decode b_Rng_init 87 = .ok (.iload_n 3, 1) := by decide +kernel
theorem d_Rng_init_88 : decode b_Rng_init 88 = .ok (.iconst 5, 1) := by decide +kernel
theorem d_Rng_init_89 : decode b_Rng_init 89 = .ok (.if_icmp .ge 19, 3) := by decide +kernel
theorem d_Rng_init_92 : decode b_Rng_init 92 = .ok (.iload_n 2, 1) := by decide +kernel
theorem d_Rng_init_93 : decode b_Rng_init 93 = .ok (.iconst 2, 1) := by decide +kernel
theorem d_Rng_init_94 : decode b_Rng_init 94 = .ok (.aload_n 1, 1) := by decide +kernel
theorem d_Rng_init_95 : decode b_Rng_init 95 = .ok (.iconst 0, 1) := by decide +kernel
theorem d_Rng_init_96 : decode b_Rng_init 96 = .ok (.iaload, 1) := by decide +kernel
theorem d_Rng_init_97 : decode b_Rng_init 97 = .ok (.iload_n 2, 1) := by decide +kernel
theorem d_Rng_init_98 : decode b_Rng_init 98 = .ok (.imul, 1) := by decide +kernel
theorem d_Rng_init_99 : decode b_Rng_init 99 = .ok (.isub, 1) := by decide +kernel
theorem d_Rng_init_100 : decode b_Rng_init 100 = .ok (.imul, 1) := by decide +kernel
theorem d_Rng_init_101 : decode b_Rng_init 101 = .ok (.istore_n 2, 1) := by decide +kernel
theorem d_Rng_init_102 : decode b_Rng_init 102 = .ok (.iinc 3 1, 3) := by decide +kernel
theorem d_Rng_init_105 : decode b_Rng_init 105 = .ok (.goto (-18), 3) := by decide +kernel
theorem d_Rng_init_108 : decode b_Rng_init 108 = .ok (.aload_n 0, 1) := by decide +kernel
theorem d_Rng_init_109 : decode b_Rng_init 109 = .ok (.iload_n 2, 1) := by decide +kernel
theorem d_Rng_init_110 : decode b_Rng_init 110 = .ok (.ineg, 1) := by decide +kernel
theorem d_Rng_init_111 : decode b_Rng_init 111 = .ok (.putfield 33, 3) := by decide +kernel
theorem d_Rng_init_114 : decode b_Rng_init 114 = .ok (.aload_n 0, 1) := by decide +kernel
theorem d_Rng_init_115 : decode b_Rng_init 115 = .ok (.getfield 21, 3) := by decide +kernel
theorem d_Rng_init_118 : decode b_Rng_init 118 = .ok (.iconst 0, 1) := by decide +kernel
theorem d_Rng_init_119 : decode b_Rng_init 119 = .ok (.iconst 1, 1) := by decide +kernel
theorem d_Rng_init_120 : decode b_Rng_init 120 = .ok (.iastore, 1) := by decide +kernel
theorem d_Rng_init_121 : decode b_Rng_init 121 = .ok (.aload_n 0, 1) := by decide +kernel
theorem d_Rng_init_122 : decode b_Rng_init 122 = .ok (.getfield 15, 3) := by decide +kernel
theorem d_Rng_init_125 : decode b_Rng_init 125 = .ok (.iconst 0, 1) := by decide +kernel
theorem d_Rng_init_126 : decode b_Rng_init 126 = .ok (.iconst 1, 1) := by decide +kernel
theorem d_Rng_init_127 : decode b_Rng_init 127 = .ok (.iastore, 1) := by decide +kernel
theorem d_Rng_init_128 : decode b_Rng_init 128 = .ok (.iconst 0, 1) := by decide +kernel
theorem d_Rng_init_129 : decode b_Rng_init 129 = .ok (.istore_n 3, 1) := by decide +kernel
theorem d_Rng_init_130 : decode b_Rng_init 130 = .ok (.iload_n 3, 1) := by decide +kernel
theorem d_Rng_init_131 : decode b_Rng_init 131 = .ok (.sipush 256, 3) := by decide +kernel
theorem d_Rng_init_134 : decode b_Rng_init 134 = .ok (.if_icmp .ge 25, 3) := by decide +kernel
theorem d_Rng_init_137 : decode b_Rng_init 137 = .ok (.aload_n 0, 1) := by decide +kernel
theorem d_Rng_init_138 : decode b_Rng_init 138 = .ok (.aload_n 0, 1) := by decide +kernel
theorem d_Rng_init_139 : decode b_Rng_init 139 = .ok (.getfield 15, 3) := by decide +kernel
theorem d_Rng_init_142 : decode b_Rng_init 142 = .ok (.aload_n 0, 1) := by decide +kernel
theorem d_Rng_init_143 : decode b_Rng_init 143 = .ok (.getfield 15, 3) := by decide +kernel
theorem d_Rng_init_146 : decode b_Rng_init 146 = .ok (.aload_n 0, 1) := by decide +kernel
theorem d_Rng_init_147 : decode b_Rng_init 147 = .ok (.getfield 15, 3) := by decide +kernel
theorem d_Rng_init_150 : decode b_Rng_init 150 = .ok (.invokevirtual 37, 3) := by decide +kernel
theorem d_Rng_init_153 : decode b_Rng_init 153 = .ok (.iinc 3 1, 3) := by decide +kernel
theorem d_Rng_init_156 : decode b_Rng_init 156 = .ok (.goto (-26), 3) := by decide +kernel
theorem d_Rng_init_159 : decode b_Rng_init 159 = .ok (.aload_n 0, 1) := by decide +kernel
theorem d_Rng_init_160 : decode b_Rng_init 160 = .ok (.getfield 15, 3) := by decide +kernel
theorem d_Rng_init_163 : decode b_Rng_init 163 = .ok (.aload_n 0, 1) := by decide +kernel
theorem d_Rng_init_164 : decode b_Rng_init 164 = .ok (.getfield 18, 3) := by decide +kernel
theorem d_Rng_init_167 : decode b_Rng_init 167 = .ok (.invokestatic 41, 3) := by decide +kernel
theorem d_Rng_init_170 : decode b_Rng_init 170 = .ok (.iconst 0, 1) := by decide +kernel
theorem d_Rng_init_171 : decode b_Rng_init 171 = .ok (.istore_n 3, 1) := by decide +kernel
theorem d_Rng_init_172 : decode b_Rng_init 172 = .ok (.iload_n 3, 1) := by decide +kernel
theorem d_Rng_init_173 : decode b_Rng_init 173 = .ok (.sipush 256, 3) := by decide +kernel
theorem d_Rng_init_176 : decode b_Rng_init 176 = .ok (.if_icmp .ge 25, 3) := by decide +kernel
theorem d_Rng_init_179 : decode b_Rng_init 179 = .ok (.aload_n 0, 1) := by decide +kernel
theorem d_Rng_init_180 : decode b_Rng_init 180 = .ok (.aload_n 0, 1) := by decide +kernel
theorem d_Rng_init_181 : decode b_Rng_init 181 = .ok (.getfield 18, 3) := by decide +kernel
theorem d_Rng_init_184 : decode b_Rng_init 184 = .ok (.aload_n 0, 1) := by decide +kernel
theorem d_Rng_init_185 : decode b_Rng_init 185 = .ok (.getfield 18, 3) := by decide +kernel
theorem d_Rng_init_188 : decode b_Rng_init 188 = .ok (.aload_n 0, 1) := by decide +kernel
theorem d_Rng_init_189 : decode b_Rng_init 189 = .ok (.getfield 18, 3) := by decide +kernel
theorem d_Rng_init_192 : decode b_Rng_init 192 = .ok (.invokevirtual 37, 3) := by decide +kernel
theorem d_Rng_init_195 : decode b_Rng_init 195 = .ok (.iinc 3 1, 3) := by decide +kernel
theorem d_Rng_init_198 : decode b_Rng_init 198 = .ok (.goto (-26), 3) := by decide +kernel
theorem d_Rng_init_201 : decode b_Rng_init 201 = .ok (.return_, 1) := by decide +kernel
theorem d_Rng_copy_0 : decode b_Rng_copy 0 = .ok (.iconst 0, 1) := by decide +kernel
theorem d_Rng_copy_1 : decode b_Rng_copy 1 = .ok (.istore_n 2, 1) := by decide +kernel
theorem d_Rng_copy_2 : decode b_Rng_copy 2 = .ok (.iload_n 2, 1) := by decide +kernel
theorem d_Rng_copy_3 : decode b_Rng_copy 3 = .ok (.bipush 8, 2) := by decide +kernel
theorem d_Rng_copy_5 : decode b_Rng_copy 5 = .ok (.if_icmp .ge 15, 3) := by decide +kernel
theorem d_Rng_copy_8 : decode b_Rng_copy 8 = .ok (.aload_n 1, 1) := by decide +kernel
theorem d_Rng_copy_9 : decode b_Rng_copy 9 = .ok (.iload_n 2, 1) := by decide +kernel
theorem d_Rng_copy_10 : decode b_Rng_copy 10 = .ok (.aload_n 0, 1) := by decide +kernel
theorem d_Rng_copy_11 : decode b_Rng_copy 11 = .ok (.iload_n 2, 1) := by decide +kernel
theorem d_Rng_copy_12 : decode b_Rng_copy 12 = .ok (.iaload, 1) := by decide +kernel
theorem d_Rng_copy_13 : decode b_Rng_copy 13 = .ok (.iastore, 1) := by decide +kernel
theorem d_Rng_copy_14 : decode b_Rng_copy 14 = .ok (.iinc 2 1, 3) := by decide +kernel
theorem d_Rng_copy_17 : decode b_Rng_copy 17 = .ok (.goto (-15), 3) := by decide +kernel
theorem d_Rng_copy_20 : decode b_Rng_copy 20 = .ok (.return_, 1) := by decide +kernel
theorem d_Rng_isZero_0 : decode b_Rng_isZero 0 = .ok (.iconst 0, 1) := by decide +kernel
theorem d_Rng_isZero_1 : decode b_Rng_isZero 1 = .ok (.istore_n 1, 1) := by decide +kernel
theorem d_Rng_isZero_2 : decode b_Rng_isZero 2 = .ok (.iconst 0, 1) := by decide +kernel
theorem d_Rng_isZero_3 : decode b_Rng_isZero 3 = .ok (.istore_n 2, 1) := by decide +kernel
theorem d_Rng_isZero_4 : decode b_Rng_isZero 4 = .ok (.iload_n 2, 1) := by decide +kernel
theorem d_Rng_isZero_5 : decode b_Rng_isZero 5 = .ok (.bipush 8, 2) := by decide +kernel
theorem d_Rng_isZero_7 : decode b_Rng_isZero 7 = .ok (.if_icmp .ge 15, 3) := by decide +kernel
theorem d_Rng_isZero_10 : decode b_Rng_isZero 10 = .ok (.iload_n 1, 1) := by decide +kernel
theorem d_Rng_isZero_11 : decode b_Rng_isZero 11 = .ok (.aload_n 0, 1) := by decide +kernel
theorem d_Rng_isZero_12 : decode b_Rng_isZero 12 = .ok (.iload_n 2, 1) := by decide +kernel
theorem d_Rng_isZero_13 : decode b_Rng_isZero 13 = .ok (.iaload, 1) := by decide +kernel
theorem d_Rng_isZero_14 : decode b_Rng_isZero 14 = .ok (.ior, 1) := by decide +kernel
theorem d_Rng_isZero_15 : decode b_Rng_isZero 15 = .ok (.istore_n 1, 1) := by decide +kernel
theorem d_Rng_isZero_16 : decode b_Rng_isZero 16 = .ok (.iinc 2 1, 3) := by decide +kernel
theorem d_Rng_isZero_19 : decode b_Rng_isZero 19 = .ok (.goto (-15), 3) := by decide +kernel
theorem d_Rng_isZero_22 : decode b_Rng_isZero 22 = .ok (.iload_n 1, 1) := by decide +kernel
theorem d_Rng_isZero_23 : decode b_Rng_isZero 23 = .ok (.ifCond .ne 7, 3) := by decide +kernel
theorem d_Rng_isZero_26 : decode b_Rng_isZero 26 = .ok (.iconst 1, 1) := by decide +kernel
theorem d_Rng_isZero_27 : decode b_Rng_isZero 27 = .ok (.goto 4, 3) := by decide +kernel
theorem d_Rng_isZero_30 : decode b_Rng_isZero 30 = .ok (.iconst 0, 1) := by decide +kernel
theorem d_Rng_isZero_31 : decode b_Rng_isZero 31 = .ok (.ireturn, 1) := by decide +kernel
theorem d_Rng_same_0 : decode b_Rng_same 0 = .ok (.aload_n 0, 1) := by decide +kernel
theorem d_Rng_same_1 : decode b_Rng_same 1 = .ok (.aload_n 1, 1) := by decide +kernel
theorem d_Rng_same_2 : decode b_Rng_same 2 = .ok (.invokestatic 45, 3) := by decide +kernel
theorem d_Rng_same_5 : decode b_Rng_same 5 = .ok (.ifCond .ne 7, 3) := by decide +kernel
theorem d_Rng_same_8 : decode b_Rng_same 8 = .ok (.iconst 1, 1) := by decide +kernel
theorem d_Rng_same_9 : decode b_Rng_same 9 = .ok (.goto 4, 3) := by decide +kernel
theorem d_Rng_same_12 : decode b_Rng_same 12 = .ok (.iconst 0, 1) := by decide +kernel
theorem d_Rng_same_13 : decode b_Rng_same 13 = .ok (.ireturn, 1) := by decide +kernel
theorem d_Rng_compare_0 : decode b_Rng_compare 0 = .ok (.bipush 7, 2) := by decide +kernel
theorem d_Rng_compare_2 : decode b_Rng_compare 2 = .ok (.istore_n 2, 1) := by decide +kernel
theorem d_Rng_compare_3 : decode b_Rng_compare 3 = .ok (.iload_n 2, 1) := by decide +kernel
theorem d_Rng_compare_4 : decode b_Rng_compare 4 = .ok (.ifCond .lt 44, 3) := by decide +kernel
theorem d_Rng_compare_7 : decode b_Rng_compare 7 = .ok (.aload_n 0, 1) := by decide +kernel
theorem d_Rng_compare_8 : decode b_Rng_compare 8 = .ok (.iload_n 2, 1) := by decide +kernel
theorem d_Rng_compare_9 : decode b_Rng_compare 9 = .ok (.iaload, 1) := by decide +kernel
theorem d_Rng_compare_10 : decode b_Rng_compare 10 = .ok (.aload_n 1, 1) := by decide +kernel
theorem d_Rng_compare_11 : decode b_Rng_compare 11 = .ok (.iload_n 2, 1) := by decide +kernel
theorem d_Rng_compare_12 : decode b_Rng_compare 12 = .ok (.iaload, 1) := by decide +kernel
theorem d_Rng_compare_13 : decode b_Rng_compare 13 = .ok (.if_icmp .eq 29, 3) := by decide +kernel
theorem d_Rng_compare_16 : decode b_Rng_compare 16 = .ok (.aload_n 0, 1) := by decide +kernel
theorem d_Rng_compare_17 : decode b_Rng_compare 17 = .ok (.iload_n 2, 1) := by decide +kernel
theorem d_Rng_compare_18 : decode b_Rng_compare 18 = .ok (.iaload, 1) := by decide +kernel
theorem d_Rng_compare_19 : decode b_Rng_compare 19 = .ok (.i2l, 1) := by decide +kernel
theorem d_Rng_compare_20 : decode b_Rng_compare 20 = .ok (.ldc2_w 49, 3) := by decide +kernel
theorem d_Rng_compare_23 : decode b_Rng_compare 23 = .ok (.land, 1) := by decide +kernel
theorem d_Rng_compare_24 : decode b_Rng_compare 24 = .ok (.aload_n 1, 1) := by decide +kernel
theorem d_Rng_compare_25 : decode b_Rng_compare 25 = .ok (.iload_n 2, 1) := by decide +kernel
theorem d_Rng_compare_26 : decode b_Rng_compare 26 = .ok (.iaload, 1) := by decide +kernel
theorem d_Rng_compare_27 : decode b_Rng_compare 27 = .ok (.i2l, 1) := by decide +kernel
theorem d_Rng_compare_28 : decode b_Rng_compare 28 = .ok (.ldc2_w 49, 3) := by decide +kernel
theorem d_Rng_compare_31 : decode b_Rng_compare 31 = .ok (.land, 1) := by decide +kernel
theorem d_Rng_compare_32 : decode b_Rng_compare 32 = .ok (.lcmp, 1) := by decide +kernel
theorem d_Rng_compare_33 : decode b_Rng_compare 33 = .ok (.ifCond .ge 7, 3) := by decide +kernel
theorem d_Rng_compare_36 : decode b_Rng_compare 36 = .ok (.iconst (-1), 1) := by decide +kernel
theorem d_Rng_compare_37 : decode b_Rng_compare 37 = .ok (.goto 4, 3) := by decide +kernel
theorem d_Rng_compare_40 : decode b_Rng_compare 40 = .ok (.iconst 1, 1) := by decide +kernel
theorem d_Rng_compare_41 : decode b_Rng_compare 41 = .ok (.ireturn, 1) := by decide +kernel
theorem d_Rng_compare_42 : decode b_Rng_compare 42 = .ok (.iinc 2 (-1), 3) := by decide +kernel
theorem d_Rng_compare_45 : decode b_Rng_compare 45 = .ok (.goto (-42), 3) := by decide +kernel
theorem d_Rng_compare_48 : decode b_Rng_compare 48 = .ok (.iconst 0, 1) := by decide +kernel
theorem d_Rng_compare_49 : decode b_Rng_compare 49 = .ok (.ireturn, 1) := by decide +kernel
theorem d_Rng_plus_0 : decode b_Rng_plus 0 = .ok (.lconst 0, 1) := by decide +kernel
theorem d_Rng_plus_1 : decode b_Rng_plus 1 = .ok (.lstore_n 3, 1) := by decide +kernel
theorem d_Rng_plus_2 : decode b_Rng_plus 2 = .ok (.iconst 0, 1) := by decide +kernel
theorem d_Rng_plus_3 : decode b_Rng_plus 3 = .ok (.istore 5, 2) := by decide +kernel
theorem d_Rng_plus_5 : decode b_Rng_plus 5 = .ok (.iload 5, 2) := by decide +kernel
theorem d_Rng_plus_7 : decode b_Rng_plus 7 = .ok (.bipush 8, 2) := by decide +kernel
theorem d_Rng_plus_9 : decode b_Rng_plus 9 = .ok (.if_icmp .ge 42, 3) := by decide +kernel
theorem d_Rng_plus_12 : decode b_Rng_plus 12 = .ok (.lload_n 3, 1) := by decide +kernel
theorem d_Rng_plus_13 : decode b_Rng_plus 13 = .ok (.aload_n 0, 1) := by decide +kernel
theorem d_Rng_plus_14 : decode b_Rng_plus 14 = .ok (.iload 5, 2) := by decide +kernel
theorem d_Rng_plus_16 : decode b_Rng_plus 16 = .ok (.iaload, 1) := by decide +kernel
theorem d_Rng_plus_17 : decode b_Rng_plus 17 = .ok (.i2l, 1) := by decide +kernel
theorem d_Rng_plus_18 : decode b_Rng_plus 18 = .ok (.ldc2_w 49, 3) := by decide +kernel
theorem d_Rng_plus_21 : decode b_Rng_plus 21 = .ok (.land, 1) := by decide +kernel
theorem d_Rng_plus_22 : decode b_Rng_plus 22 = .ok (.aload_n 1, 1) := by decide +kernel
theorem d_Rng_plus_23 : decode b_Rng_plus 23 = .ok (.iload 5, 2) := by decide +kernel
theorem d_Rng_plus_25 : decode b_Rng_plus 25 = .ok (.iaload, 1) := by decide +kernel
theorem d_Rng_plus_26 : decode b_Rng_plus 26 = .ok (.i2l, 1) := by decide +kernel
theorem d_Rng_plus_27 : decode b_Rng_plus 27 = .ok (.ldc2_w 49, 3) := by decide +kernel
theorem d_Rng_plus_30 : decode b_Rng_plus 30 = .ok (.land, 1) := by decide +kernel
theorem d_Rng_plus_31 : decode b_Rng_plus 31 = .ok (.ladd, 1) := by decide +kernel
theorem d_Rng_plus_32 : decode b_Rng_plus 32 = .ok (.ladd, 1) := by decide +kernel
theorem d_Rng_plus_33 : decode b_Rng_plus 33 = .ok (.lstore_n 3, 1) := by decide +kernel
theorem d_Rng_plus_34 : decode b_Rng_plus 34 = .ok (.aload_n 2, 1) := by decide +kernel
theorem d_Rng_plus_35 : decode b_Rng_plus 35 = .ok (.iload 5, 2) := by decide +kernel
theorem d_Rng_plus_37 : decode b_Rng_plus 37 = .ok (.lload_n 3, 1) := by decide +kernel
theorem d_Rng_plus_38 : decode b_Rng_plus 38 = .ok (.l2i, 1) := by decide +kernel
theorem d_Rng_plus_39 : decode b_Rng_plus 39 = .ok (.iastore, 1) := by decide +kernel
theorem d_Rng_plus_40 : decode b_Rng_plus 40 = .ok (.lload_n 3, 1) := by decide +kernel
theorem d_Rng_plus_41 : decode b_Rng_plus 41 = .ok (.bipush 32, 2) := by decide +kernel
theorem d_Rng_plus_43 : decode b_Rng_plus 43 = .ok (.lushr, 1) := by decide +kernel
theorem d_Rng_plus_44 : decode b_Rng_plus 44 = .ok (.lstore_n 3, 1) := by decide +kernel
theorem d_Rng_plus_45 : decode b_Rng_plus 45 = .ok (.iinc 5 1, 3) := by decide +kernel
theorem d_Rng_plus_48 : decode b_Rng_plus 48 = .ok (.goto (-43), 3) := by decide +kernel
theorem d_Rng_plus_51 : decode b_Rng_plus 51 = .ok (.lload_n 3, 1) := by decide +kernel
theorem d_Rng_plus_52 : decode b_Rng_plus 52 = .ok (.lreturn, 1) := by decide +kernel
theorem d_Rng_less_0 : decode b_Rng_less 0 = .ok (.lconst 0, 1) := by decide +kernel
theorem d_Rng_less_1 : decode b_Rng_less 1 = .ok (.lstore_n 3, 1) := by decide +kernel
theorem d_Rng_less_2 : decode b_Rng_less 2 = .ok (.iconst 0, 1) := by decide +kernel
theorem d_Rng_less_3 : decode b_Rng_less 3 = .ok (.istore 5, 2) := by decide +kernel
theorem d_Rng_less_5 : decode b_Rng_less 5 = .ok (.iload 5, 2) := by decide +kernel
theorem d_Rng_less_7 : decode b_Rng_less 7 = .ok (.bipush 8, 2) := by decide +kernel
theorem d_Rng_less_9 : decode b_Rng_less 9 = .ok (.if_icmp .ge 52, 3) := by decide +kernel
theorem d_Rng_less_12 : decode b_Rng_less 12 = .ok (.aload_n 0, 1) := by decide +kernel
theorem d_Rng_less_13 : decode b_Rng_less 13 = .ok (.iload 5, 2) := by decide +kernel
theorem d_Rng_less_15 : decode b_Rng_less 15 = .ok (.iaload, 1) := by decide +kernel
theorem d_Rng_less_16 : decode b_Rng_less 16 = .ok (.i2l, 1) := by decide +kernel
theorem d_Rng_less_17 : decode b_Rng_less 17 = .ok (.ldc2_w 49, 3) := by decide +kernel
theorem d_Rng_less_20 : decode b_Rng_less 20 = .ok (.land, 1) := by decide +kernel
theorem d_Rng_less_21 : decode b_Rng_less 21 = .ok (.aload_n 1, 1) := by decide +kernel
theorem d_Rng_less_22 : decode b_Rng_less 22 = .ok (.iload 5, 2) := by decide +kernel
theorem d_Rng_less_24 : decode b_Rng_less 24 = .ok (.iaload, 1) := by decide +kernel
theorem d_Rng_less_25 : decode b_Rng_less 25 = .ok (.i2l, 1) := by decide +kernel
theorem d_Rng_less_26 : decode b_Rng_less 26 = .ok (.ldc2_w 49, 3) := by decide +kernel
theorem d_Rng_less_29 : decode b_Rng_less 29 = .ok (.land, 1) := by decide +kernel
theorem d_Rng_less_30 : decode b_Rng_less 30 = .ok (.lsub, 1) := by decide +kernel
theorem d_Rng_less_31 : decode b_Rng_less 31 = .ok (.lload_n 3, 1) := by decide +kernel
theorem d_Rng_less_32 : decode b_Rng_less 32 = .ok (.lsub, 1) := by decide +kernel
theorem d_Rng_less_33 : decode b_Rng_less 33 = .ok (.lstore 6, 2) := by decide +kernel
theorem d_Rng_less_35 : decode b_Rng_less 35 = .ok (.aload_n 2, 1) := by decide +kernel
theorem d_Rng_less_36 : decode b_Rng_less 36 = .ok (.iload 5, 2) := by decide +kernel
theorem d_Rng_less_38 : decode b_Rng_less 38 = .ok (.lload 6, 2) := by decide +kernel
theorem d_Rng_less_40 : decode b_Rng_less 40 = .ok (.l2i, 1) := by decide +kernel
theorem d_Rng_less_41 : decode b_Rng_less 41 = .ok (.iastore, 1) := by decide +kernel
theorem d_Rng_less_42 : decode b_Rng_less 42 = .ok (.lload 6, 2) := by decide +kernel
theorem d_Rng_less_44 : decode b_Rng_less 44 = .ok (.lconst 0, 1) := by decide +kernel
theorem d_Rng_less_45 : decode b_Rng_less 45 = .ok (.lcmp, 1) := by decide +kernel
theorem d_Rng_less_46 : decode b_Rng_less 46 = .ok (.ifCond .ge 7, 3) := by decide +kernel
theorem d_Rng_less_49 : decode b_Rng_less 49 = .ok (.lconst 1, 1) := by decide +kernel
theorem d_Rng_less_50 : decode b_Rng_less 50 = .ok (.goto 4, 3) := by decide +kernel
theorem d_Rng_less_53 : decode b_Rng_less 53 = .ok (.lconst 0, 1) := by decide +kernel
theorem d_Rng_less_54 : decode b_Rng_less 54 = .ok (.lstore_n 3, 1) := by decide +kernel
theorem d_Rng_less_55 : decode b_Rng_less 55 = .ok (.iinc 5 1, 3) := by decide +kernel
theorem d_Rng_less_58 : decode b_Rng_less 58 = .ok (.goto (-53), 3) := by decide +kernel
theorem d_Rng_less_61 : decode b_Rng_less 61 = .ok (.lload_n 3, 1) := by decide +kernel
theorem d_Rng_less_62 : decode b_Rng_less 62 = .ok (.lreturn, 1) := by decide +kernel
theorem d_Rng_add_0 : decode b_Rng_add 0 = .ok (.aload_n 1, 1) := by decide +kernel
theorem d_Rng_add_1 : decode b_Rng_add 1 = .ok (.aload_n 2, 1) := by decide +kernel
theorem d_Rng_add_2 : decode b_Rng_add 2 = .ok (.aload_n 3, 1) := by decide +kernel
theorem d_Rng_add_3 : decode b_Rng_add 3 = .ok (.invokestatic 51, 3) := by decide +kernel
theorem d_Rng_add_6 : decode b_Rng_add 6 = .ok (.lconst 0, 1) := by decide +kernel
theorem d_Rng_add_7 : decode b_Rng_add 7 = .ok (.lcmp, 1) := by decide +kernel
theorem d_Rng_add_8 : decode b_Rng_add 8 = .ok (.ifCond .ne 14, 3) := by decide +kernel
theorem d_Rng_add_11 : decode b_Rng_add 11 = .ok (.aload_n 3, 1) := by decide +kernel
theorem d_Rng_add_12 : decode b_Rng_add 12 = .ok (.aload_n 0, 1) := by decide +kernel
theorem d_Rng_add_13 : decode b_Rng_add 13 = .ok (.getfield 9, 3) := by decide +kernel
theorem d_Rng_add_16 : decode b_Rng_add 16 = .ok (.invokestatic 45, 3) := by decide +kernel
theorem d_Rng_add_19 : decode b_Rng_add 19 = .ok (.ifCond .lt 13, 3) := by decide +kernel
theorem d_Rng_add_22 : decode b_Rng_add 22 = .ok (.aload_n 3, 1) := by decide +kernel
theorem d_Rng_add_23 : decode b_Rng_add 23 = .ok (.aload_n 0, 1) := by decide +kernel
theorem d_Rng_add_24 : decode b_Rng_add 24 = .ok (.getfield 9, 3) := by decide +kernel
theorem d_Rng_add_27 : decode b_Rng_add 27 = .ok (.aload_n 3, 1) := by decide +kernel
theorem d_Rng_add_28 : decode b_Rng_add 28 = .ok (.invokestatic 55, 3) := by decide +kernel
theorem d_Rng_add_31 : decode b_Rng_add 31 = .ok (.pop2, 1) := by decide +kernel
theorem d_Rng_add_32 : decode b_Rng_add 32 = .ok (.return_, 1) := by decide +kernel
theorem d_Rng_subtract_0 : decode b_Rng_subtract 0 = .ok (.aload_n 1, 1) := by decide +kernel
theorem d_Rng_subtract_1 : decode b_Rng_subtract 1 = .ok (.aload_n 2, 1) := by decide +kernel
theorem d_Rng_subtract_2 : decode b_Rng_subtract 2 = .ok (.aload_n 3, 1) := by decide +kernel
theorem d_Rng_subtract_3 : decode b_Rng_subtract 3 = .ok (.invokestatic 55, 3) := by decide +kernel
theorem d_Rng_subtract_6 : decode b_Rng_subtract 6 = .ok (.lconst 0, 1) := by decide +kernel
theorem d_Rng_subtract_7 : decode b_Rng_subtract 7 = .ok (.lcmp, 1) := by decide +kernel
theorem d_Rng_subtract_8 : decode b_Rng_subtract 8 = .ok (.ifCond .eq 13, 3) := by decide +kernel
theorem d_Rng_subtract_11 : decode b_Rng_subtract 11 = .ok (.aload_n 3, 1) := by decide +kernel
theorem d_Rng_subtract_12 : decode b_Rng_subtract 12 = .ok (.aload_n 0, 1) := by decide +kernel
theorem d_Rng_subtract_13 : decode b_Rng_subtract 13 = .ok (.getfield 9, 3) := by decide +kernel
theorem d_Rng_subtract_16 : decode b_Rng_subtract 16 = .ok (.aload_n 3, 1) := by decide +kernel
theorem d_Rng_subtract_17 : decode b_Rng_subtract 17 = .ok (.invokestatic 51, 3) := by decide +kernel
theorem d_Rng_subtract_20 : decode b_Rng_subtract 20 = .ok (.pop2, 1) := by decide +kernel
theorem d_Rng_subtract_21 : decode b_Rng_subtract 21 = .ok (.return_, 1) := by decide +kernel
theorem d_Rng_put_0 : decode b_Rng_put 0 = .ok (.lconst 0, 1) := by decide +kernel
theorem d_Rng_put_1 : decode b_Rng_put 1 = .ok (.lstore_n 3, 1) := by decide +kernel
theorem d_Rng_put_2 : decode b_Rng_put 2 = .ok (.iconst 0, 1) := by decide +kernel
theorem d_Rng_put_3 : decode b_Rng_put 3 = .ok (.istore 5, 2) := by decide +kernel
theorem d_Rng_put_5 : decode b_Rng_put 5 = .ok (.iload 5, 2) := by decide +kernel
theorem d_Rng_put_7 : decode b_Rng_put 7 = .ok (.bipush 8, 2) := by decide +kernel
theorem d_Rng_put_9 : decode b_Rng_put 9 = .ok (.if_icmp .ge 55, 3) := by decide +kernel
theorem d_Rng_put_12 : decode b_Rng_put 12 = .ok (.lload_n 3, 1) := by decide +kernel
theorem d_Rng_put_13 : decode b_Rng_put 13 = .ok (.iload_n 1, 1) := by decide +kernel
theorem d_Rng_put_14 : decode b_Rng_put 14 = .ok (.i2l, 1) := by decide +kernel
theorem d_Rng_put_15 : decode b_Rng_put 15 = .ok (.ldc2_w 49, 3) := by decide +kernel
theorem d_Rng_put_18 : decode b_Rng_put 18 = .ok (.land, 1) := by decide +kernel
theorem d_Rng_put_19 : decode b_Rng_put 19 = .ok (.aload_n 2, 1) := by decide +kernel
theorem d_Rng_put_20 : decode b_Rng_put 20 = .ok (.iload 5, 2) := by decide +kernel
theorem d_Rng_put_22 : decode b_Rng_put 22 = .ok (.iaload, 1) := by decide +kernel
theorem d_Rng_put_23 : decode b_Rng_put 23 = .ok (.i2l, 1) := by decide +kernel
theorem d_Rng_put_24 : decode b_Rng_put 24 = .ok (.ldc2_w 49, 3) := by decide +kernel
theorem d_Rng_put_27 : decode b_Rng_put 27 = .ok (.land, 1) := by decide +kernel
theorem d_Rng_put_28 : decode b_Rng_put 28 = .ok (.lmul, 1) := by decide +kernel
theorem d_Rng_put_29 : decode b_Rng_put 29 = .ok (.aload_n 0, 1) := by decide +kernel
theorem d_Rng_put_30 : decode b_Rng_put 30 = .ok (.getfield 24, 3) := by decide +kernel
theorem d_Rng_put_33 : decode b_Rng_put 33 = .ok (.iload 5, 2) := by decide +kernel
theorem d_Rng_put_35 : decode b_Rng_put 35 = .ok (.iaload, 1) := by decide +kernel
theorem d_Rng_put_36 : decode b_Rng_put 36 = .ok (.i2l, 1) := by decide +kernel
theorem d_Rng_put_37 : decode b_Rng_put 37 = .ok (.ldc2_w 49, 3) := by decide +kernel
theorem d_Rng_put_40 : decode b_Rng_put 40 = .ok (.land, 1) := by decide +kernel
theorem d_Rng_put_41 : decode b_Rng_put 41 = .ok (.ladd, 1) := by decide +kernel
theorem d_Rng_put_42 : decode b_Rng_put 42 = .ok (.ladd, 1) := by decide +kernel
theorem d_Rng_put_43 : decode b_Rng_put 43 = .ok (.lstore_n 3, 1) := by decide +kernel
theorem d_Rng_put_44 : decode b_Rng_put 44 = .ok (.aload_n 0, 1) := by decide +kernel
theorem d_Rng_put_45 : decode b_Rng_put 45 = .ok (.getfield 24, 3) := by decide +kernel
theorem d_Rng_put_48 : decode b_Rng_put 48 = .ok (.iload 5, 2) := by decide +kernel
theorem d_Rng_put_50 : decode b_Rng_put 50 = .ok (.lload_n 3, 1) := by decide +kernel
theorem d_Rng_put_51 : decode b_Rng_put 51 = .ok (.l2i, 1) := by decide +kernel
theorem d_Rng_put_52 : decode b_Rng_put 52 = .ok (.iastore, 1) := by decide +kernel
theorem d_Rng_put_53 : decode b_Rng_put 53 = .ok (.lload_n 3, 1) := by decide +kernel
theorem d_Rng_put_54 : decode b_Rng_put 54 = .ok (.bipush 32, 2) := by decide +kernel
theorem d_Rng_put_56 : decode b_Rng_put 56 = .ok (.lushr, 1) := by decide +kernel
theorem d_Rng_put_57 : decode b_Rng_put 57 = .ok (.lstore_n 3, 1) := by decide +kernel
theorem d_Rng_put_58 : decode b_Rng_put 58 = .ok (.iinc 5 1, 3) := by decide +kernel
theorem d_Rng_put_61 : decode b_Rng_put 61 = .ok (.goto (-56), 3) := by decide +kernel
theorem d_Rng_put_64 : decode b_Rng_put 64 = .ok (.lload_n 3, 1) := by decide +kernel
theorem d_Rng_put_65 : decode b_Rng_put 65 = .ok (.aload_n 0, 1) := by decide +kernel
theorem d_Rng_put_66 : decode b_Rng_put 66 = .ok (.getfield 24, 3) := by decide +kernel
theorem d_Rng_put_69 : decode b_Rng_put 69 = .ok (.bipush 8, 2) := by decide +kernel
theorem d_Rng_put_71 : decode b_Rng_put 71 = .ok (.iaload, 1) := by decide +kernel
theorem d_Rng_put_72 : decode b_Rng_put 72 = .ok (.i2l, 1) := by decide +kernel
theorem d_Rng_put_73 : decode b_Rng_put 73 = .ok (.ldc2_w 49, 3) := by decide +kernel
theorem d_Rng_put_76 : decode b_Rng_put 76 = .ok (.land, 1) := by decide +kernel
theorem d_Rng_put_77 : decode b_Rng_put 77 = .ok (.ladd, 1) := by decide +kernel
theorem d_Rng_put_78 : decode b_Rng_put 78 = .ok (.lstore_n 3, 1) := by decide +kernel
theorem d_Rng_put_79 : decode b_Rng_put 79 = .ok (.aload_n 0, 1) := by decide +kernel
theorem d_Rng_put_80 : decode b_Rng_put 80 = .ok (.getfield 24, 3) := by decide +kernel
theorem d_Rng_put_83 : decode b_Rng_put 83 = .ok (.bipush 8, 2) := by decide +kernel
theorem d_Rng_put_85 : decode b_Rng_put 85 = .ok (.lload_n 3, 1) := by decide +kernel
theorem d_Rng_put_86 : decode b_Rng_put 86 = .ok (.l2i, 1) := by decide +kernel
theorem d_Rng_put_87 : decode b_Rng_put 87 = .ok (.iastore, 1) := by decide +kernel
theorem d_Rng_put_88 : decode b_Rng_put 88 = .ok (.aload_n 0, 1) := by decide +kernel
theorem d_Rng_put_89 : decode b_Rng_put 89 = .ok (.getfield 24, 3) := by decide +kernel
theorem d_Rng_put_92 : decode b_Rng_put 92 = .ok (.bipush 9, 2) := by decide +kernel
theorem d_Rng_put_94 : decode b_Rng_put 94 = .ok (.dup2, 1) := by decide +kernel
theorem d_Rng_put_95 : decode b_Rng_put 95 = .ok (.iaload, 1) := by decide +kernel
theorem d_Rng_put_96 : decode b_Rng_put 96 = .ok (.lload_n 3, 1) := by decide +kernel
theorem d_Rng_put_97 : decode b_Rng_put 97 = .ok (.bipush 32, 2) := by decide +kernel
theorem d_Rng_put_99 : decode b_Rng_put 99 = .ok (.lushr, 1) := by decide +kernel
theorem d_Rng_put_100 : decode b_Rng_put 100 = .ok (.l2i, 1) := by decide +kernel
theorem d_Rng_put_101 : decode b_Rng_put 101 = .ok (.iadd, 1) := by decide +kernel
theorem d_Rng_put_102 : decode b_Rng_put 102 = .ok (.iastore, 1) := by decide +kernel
theorem d_Rng_put_103 : decode b_Rng_put 103 = .ok (.return_, 1) := by decide +kernel
theorem d_Rng_multiply_0 : decode b_Rng_multiply 0 = .ok (.iconst 0, 1) := by decide +kernel
theorem d_Rng_multiply_1 : decode b_Rng_multiply 1 = .ok (.istore 4, 2) := by decide +kernel
theorem d_Rng_multiply_3 : decode b_Rng_multiply 3 = .ok (.iload 4, 2) := by decide +kernel
theorem d_Rng_multiply_5 : decode b_Rng_multiply 5 = .ok (.bipush 10, 2) := by decide +kernel
theorem d_Rng_multiply_7 : decode b_Rng_multiply 7 = .ok (.if_icmp .ge 17, 3) := by decide +kernel
theorem d_Rng_multiply_10 : decode b_Rng_multiply 10 = .ok (.aload_n 0, 1) := by decide +kernel
theorem d_Rng_multiply_11 : decode b_Rng_multiply 11 = .ok (.getfield 24, 3) := by decide +kernel
theorem d_Rng_multiply_14 : decode b_Rng_multiply 14 = .ok (.iload 4, 2) := by decide +kernel
theorem d_Rng_multiply_16 : decode b_Rng_multiply 16 = .ok (.iconst 0, 1) := by decide +kernel
theorem d_Rng_multiply_17 : decode b_Rng_multiply 17 = .ok (.iastore, 1) := by decide +kernel
theorem d_Rng_multiply_18 : decode b_Rng_multiply 18 = .ok (.iinc 4 1, 3) := by decide +kernel
theorem d_Rng_multiply_21 : decode b_Rng_multiply 21 = .ok (.goto (-18), 3) := by decide +kernel
theorem d_Rng_multiply_24 : decode b_Rng_multiply 24 = .ok (.iconst 0, 1) := by decide +kernel
theorem d_Rng_multiply_25 : decode b_Rng_multiply 25 = .ok (.istore 4, 2) := by decide +kernel
theorem d_Rng_multiply_27 : decode b_Rng_multiply 27 = .ok (.iload 4, 2) := by decide +kernel
theorem d_Rng_multiply_29 : decode b_Rng_multiply 29 = .ok (.bipush 8, 2) := by decide +kernel
theorem d_Rng_multiply_31 : decode b_Rng_multiply 31 = .ok (.if_icmp .ge 77, 3) := by decide +kernel
theorem d_Rng_multiply_34 : decode b_Rng_multiply 34 = .ok (.aload_n 0, 1) := by decide +kernel
theorem d_Rng_multiply_35 : decode b_Rng_multiply 35 = .ok (.aload_n 1, 1) := by decide +kernel
theorem d_Rng_multiply_36 : decode b_Rng_multiply 36 = .ok (.iload 4, 2) := by decide +kernel
theorem d_Rng_multiply_38 : decode b_Rng_multiply 38 = .ok (.iaload, 1) := by decide +kernel
theorem d_Rng_multiply_39 : decode b_Rng_multiply 39 = .ok (.aload_n 2, 1) := by decide +kernel
theorem d_Rng_multiply_40 : decode b_Rng_multiply 40 = .ok (.invokevirtual 58, 3) := by decide +kernel
theorem d_Rng_multiply_43 : decode b_Rng_multiply 43 = .ok (.aload_n 0, 1) := by decide +kernel
theorem d_Rng_multiply_44 : decode b_Rng_multiply 44 = .ok (.aload_n 0, 1) := by decide +kernel
theorem d_Rng_multiply_45 : decode b_Rng_multiply 45 = .ok (.getfield 24, 3) := by decide +kernel
theorem d_Rng_multiply_48 : decode b_Rng_multiply 48 = .ok (.iconst 0, 1) := by decide +kernel
theorem d_Rng_multiply_49 : decode b_Rng_multiply 49 = .ok (.iaload, 1) := by decide +kernel
theorem d_Rng_multiply_50 : decode b_Rng_multiply 50 = .ok (.aload_n 0, 1) := by decide +kernel
theorem d_Rng_multiply_51 : decode b_Rng_multiply 51 = .ok (.getfield 33, 3) := by decide +kernel
theorem d_Rng_multiply_54 : decode b_Rng_multiply 54 = .ok (.imul, 1) := by decide +kernel
theorem d_Rng_multiply_55 : decode b_Rng_multiply 55 = .ok (.aload_n 0, 1) := by decide +kernel
theorem d_Rng_multiply_56 : decode b_Rng_multiply 56 = .ok (.getfield 9, 3) := by decide +kernel
theorem d_Rng_multiply_59 : decode b_Rng_multiply 59 = .ok (.invokevirtual 58, 3) := by decide +kernel
theorem d_Rng_multiply_62 : decode b_Rng_multiply 62 = .ok (.iconst 0, 1) := by decide +kernel
theorem d_Rng_multiply_63 : decode b_Rng_multiply 63 = .ok (.istore 5, 2) := by decide +kernel
theorem d_Rng_multiply_65 : decode b_Rng_multiply 65 = .ok (.iload 5, 2) := by decide +kernel
theorem d_Rng_multiply_67 : decode b_Rng_multiply 67 = .ok (.bipush 9, 2) := by decide +kernel
theorem d_Rng_multiply_69 : decode b_Rng_multiply 69 = .ok (.if_icmp .ge 25, 3) := by decide +kernel
theorem d_Rng_multiply_72 : decode b_Rng_multiply 72 = .ok (.aload_n 0, 1) := by decide +kernel
theorem d_Rng_multiply_73 : decode b_Rng_multiply 73 = .ok (.getfield 24, 3) := by decide +kernel
theorem d_Rng_multiply_76 : decode b_Rng_multiply 76 = .ok (.iload 5, 2) := by decide +kernel
theorem d_Rng_multiply_78 : decode b_Rng_multiply 78 = .ok (.aload_n 0, 1) := by decide +kernel
theorem d_Rng_multiply_79 : decode b_Rng_multiply 79 = .ok (.getfield 24, 3) := by decide +kernel
theorem d_Rng_multiply_82 : decode b_Rng_multiply 82 = .ok (.iload 5, 2) := by decide +kernel
theorem d_Rng_multiply_84 : decode b_Rng_multiply 84 = .ok (.iconst 1, 1) := by decide +kernel
theorem d_Rng_multiply_85 : decode b_Rng_multiply 85 = .ok (.iadd, 1) := by decide +kernel
theorem d_Rng_multiply_86 : decode b_Rng_multiply 86 = .ok (.iaload, 1) := by decide +kernel
theorem d_Rng_multiply_87 : decode b_Rng_multiply 87 = .ok (.iastore, 1) := by decide +kernel
theorem d_Rng_multiply_88 : decode b_Rng_multiply 88 = .ok (.iinc 5 1, 3) := by decide +kernel
theorem d_Rng_multiply_91 : decode b_Rng_multiply 91 = .ok (.goto (-26), 3) := by decide +kernel
theorem d_Rng_multiply_94 : decode b_Rng_multiply 94 = .ok (.aload_n 0, 1) := by decide +kernel
theorem d_Rng_multiply_95 : decode b_Rng_multiply 95 = .ok (.getfield 24, 3) := by decide +kernel
theorem d_Rng_multiply_98 : decode b_Rng_multiply 98 = .ok (.bipush 9, 2) := by decide +kernel
theorem d_Rng_multiply_100 : decode b_Rng_multiply 100 = .ok (.iconst 0, 1) := by decide +kernel
theorem d_Rng_multiply_101 : decode b_Rng_multiply 101 = .ok (.iastore, 1) := by decide +kernel
theorem d_Rng_multiply_102 : decode b_Rng_multiply 102 = .ok (.iinc 4 1, 3) := by decide +kernel
theorem d_Rng_multiply_105 : decode b_Rng_multiply 105 = .ok (.goto (-78), 3) := by decide +kernel
theorem d_Rng_multiply_108 : decode b_Rng_multiply 108 = .ok (.aload_n 0, 1) := by decide +kernel
theorem d_Rng_multiply_109 : decode b_Rng_multiply 109 = .ok (.getfield 24, 3) := by decide +kernel
theorem d_Rng_multiply_112 : decode b_Rng_multiply 112 = .ok (.bipush 8, 2) := by decide +kernel
theorem d_Rng_multiply_114 : decode b_Rng_multiply 114 = .ok (.iaload, 1) := by decide +kernel
theorem d_Rng_multiply_115 : decode b_Rng_multiply 115 = .ok (.ifCond .eq 7, 3) := by decide +kernel
theorem d_Rng_multiply_118 : decode b_Rng_multiply 118 = .ok (.iconst 1, 1) := by decide +kernel
theorem d_Rng_multiply_119 : decode b_Rng_multiply 119 = .ok (.goto 4, 3) := by decide +kernel
theorem d_Rng_multiply_122 : decode b_Rng_multiply 122 = .ok (.iconst 0, 1) := by decide +kernel
theorem d_Rng_multiply_123 : decode b_Rng_multiply 123 = .ok (.istore 4, 2) := by decide +kernel
theorem d_Rng_multiply_125 : decode b_Rng_multiply 125 = .ok (.iconst 0, 1) := by decide +kernel
theorem d_Rng_multiply_126 : decode b_Rng_multiply 126 = .ok (.istore 5, 2) := by decide +kernel
theorem d_Rng_multiply_128 : decode b_Rng_multiply 128 = .ok (.iload 5, 2) := by decide +kernel
theorem d_Rng_multiply_130 : decode b_Rng_multiply 130 = .ok (.bipush 8, 2) := by decide +kernel
theorem d_Rng_multiply_132 : decode b_Rng_multiply 132 = .ok (.if_icmp .ge 20, 3) := by decide +kernel
theorem d_Rng_multiply_135 : decode b_Rng_multiply 135 = .ok (.aload_n 3, 1) := by decide +kernel
theorem d_Rng_multiply_136 : decode b_Rng_multiply 136 = .ok (.iload 5, 2) := by decide +kernel
theorem d_Rng_multiply_138 : decode b_Rng_multiply 138 = .ok (.aload_n 0, 1) := by decide +kernel
theorem d_Rng_multiply_139 : decode b_Rng_multiply 139 = .ok (.getfield 24, 3) := by decide +kernel
theorem d_Rng_multiply_142 : decode b_Rng_multiply 142 = .ok (.iload 5, 2) := by decide +kernel
theorem d_Rng_multiply_144 : decode b_Rng_multiply 144 = .ok (.iaload, 1) := by decide +kernel
theorem d_Rng_multiply_145 : decode b_Rng_multiply 145 = .ok (.iastore, 1) := by decide +kernel
theorem d_Rng_multiply_146 : decode b_Rng_multiply 146 = .ok (.iinc 5 1, 3) := by decide +kernel
theorem d_Rng_multiply_149 : decode b_Rng_multiply 149 = .ok (.goto (-21), 3) := by decide +kernel
theorem d_Rng_multiply_152 : decode b_Rng_multiply 152 = .ok (.iload 4, 2) := by decide +kernel
theorem d_Rng_multiply_154 : decode b_Rng_multiply 154 = .ok (.ifCond .ne 14, 3) := by decide +kernel
theorem d_Rng_multiply_157 : decode b_Rng_multiply 157 = .ok (.aload_n 3, 1) := by decide +kernel
theorem d_Rng_multiply_158 : decode b_Rng_multiply 158 = .ok (.aload_n 0, 1) := by decide +kernel
theorem d_Rng_multiply_159 : decode b_Rng_multiply 159 = .ok (.getfield 9, 3) := by decide +kernel
theorem d_Rng_multiply_162 : decode b_Rng_multiply 162 = .ok (.invokestatic 45, 3) := by decide +kernel
theorem d_Rng_multiply_165 : decode b_Rng_multiply 165 = .ok (.ifCond .lt 13, 3) := by decide +kernel
theorem d_Rng_multiply_168 : decode b_Rng_multiply 168 = .ok (.aload_n 3, 1) := by decide +kernel
theorem d_Rng_multiply_169 : decode b_Rng_multiply 169 = .ok (.aload_n 0, 1) := by decide +kernel
theorem d_Rng_multiply_170 : decode b_Rng_multiply 170 = .ok (.getfield 9, 3) := by decide +kernel
theorem d_Rng_multiply_173 : decode b_Rng_multiply 173 = .ok (.aload_n 3, 1) := by decide +kernel
theorem d_Rng_multiply_174 : decode b_Rng_multiply 174 = .ok (.invokestatic 55, 3) := by decide +kernel
theorem d_Rng_multiply_177 : decode b_Rng_multiply 177 = .ok (.pop2, 1) := by decide +kernel
theorem d_Rng_multiply_178 : decode b_Rng_multiply 178 = .ok (.return_, 1) := by decide +kernel
theorem d_Rng_enter_0 : decode b_Rng_enter 0 = .ok (.aload_n 0, 1) := by decide +kernel
theorem d_Rng_enter_1 : decode b_Rng_enter 1 = .ok (.aload_n 1, 1) := by decide +kernel
theorem d_Rng_enter_2 : decode b_Rng_enter 2 = .ok (.aload_n 0, 1) := by decide +kernel
theorem d_Rng_enter_3 : decode b_Rng_enter 3 = .ok (.getfield 18, 3) := by decide +kernel
theorem d_Rng_enter_6 : decode b_Rng_enter 6 = .ok (.aload_n 2, 1) := by decide +kernel
theorem d_Rng_enter_7 : decode b_Rng_enter 7 = .ok (.invokevirtual 62, 3) := by decide +kernel
theorem d_Rng_enter_10 : decode b_Rng_enter 10 = .ok (.return_, 1) := by decide +kernel
theorem d_Rng_leave_0 : decode b_Rng_leave 0 = .ok (.aload_n 0, 1) := by decide +kernel
theorem d_Rng_leave_1 : decode b_Rng_leave 1 = .ok (.aload_n 1, 1) := by decide +kernel
theorem d_Rng_leave_2 : decode b_Rng_leave 2 = .ok (.aload_n 0, 1) := by decide +kernel
theorem d_Rng_leave_3 : decode b_Rng_leave 3 = .ok (.getfield 21, 3) := by decide +kernel
theorem d_Rng_leave_6 : decode b_Rng_leave 6 = .ok (.aload_n 2, 1) := by decide +kernel
theorem d_Rng_leave_7 : decode b_Rng_leave 7 = .ok (.invokevirtual 62, 3) := by decide +kernel
theorem d_Rng_leave_10 : decode b_Rng_leave 10 = .ok (.return_, 1) := by decide +kernel
theorem d_Rng_power_0 : decode b_Rng_power 0 = .ok (.aload_n 1, 1) := by decide +kernel
theorem d_Rng_power_1 : decode b_Rng_power 1 = .ok (.aload_n 0, 1) := by decide +kernel
theorem d_Rng_power_2 : decode b_Rng_power 2 = .ok (.getfield 27, 3) := by decide +kernel
theorem d_Rng_power_5 : decode b_Rng_power 5 = .ok (.invokestatic 41, 3) := by decide +kernel
theorem d_Rng_power_8 : decode b_Rng_power 8 = .ok (.aload_n 0, 1) := by decide +kernel
theorem d_Rng_power_9 : decode b_Rng_power 9 = .ok (.getfield 15, 3) := by decide +kernel
theorem d_Rng_power_12 : decode b_Rng_power 12 = .ok (.aload_n 0, 1) := by decide +kernel
theorem d_Rng_power_13 : decode b_Rng_power 13 = .ok (.getfield 30, 3) := by decide +kernel
theorem d_Rng_power_16 : decode b_Rng_power 16 = .ok (.invokestatic 41, 3) := by decide +kernel
theorem d_Rng_power_19 : decode b_Rng_power 19 = .ok (.sipush 255, 3) := by decide +kernel
theorem d_Rng_power_22 : decode b_Rng_power 22 = .ok (.istore 5, 2) := by decide +kernel
theorem d_Rng_power_24 : decode b_Rng_power 24 = .ok (.iload 5, 2) := by decide +kernel
theorem d_Rng_power_26 : decode b_Rng_power 26 = .ok (.iload_n 3, 1) := by decide +kernel
theorem d_Rng_power_27 : decode b_Rng_power 27 = .ok (.if_icmp .lt 85, 3) := by decide +kernel
theorem d_Rng_power_30 : decode b_Rng_power 30 = .ok (.aload_n 0, 1) := by decide +kernel
theorem d_Rng_power_31 : decode b_Rng_power 31 = .ok (.aload_n 0, 1) := by decide +kernel
theorem d_Rng_power_32 : decode b_Rng_power 32 = .ok (.getfield 30, 3) := by decide +kernel
theorem d_Rng_power_35 : decode b_Rng_power 35 = .ok (.aload_n 0, 1) := by decide +kernel
theorem d_Rng_power_36 : decode b_Rng_power 36 = .ok (.getfield 30, 3) := by decide +kernel
theorem d_Rng_power_39 : decode b_Rng_power 39 = .ok (.aload_n 0, 1) := by decide +kernel
theorem d_Rng_power_40 : decode b_Rng_power 40 = .ok (.getfield 30, 3) := by decide +kernel
theorem d_Rng_power_43 : decode b_Rng_power 43 = .ok (.invokevirtual 62, 3) := by decide +kernel
theorem d_Rng_power_46 : decode b_Rng_power 46 = .ok (.iload 5, 2) := by decide +kernel
theorem d_Rng_power_48 : decode b_Rng_power 48 = .ok (.bipush 32, 2) := by decide +kernel
theorem d_Rng_power_50 : decode b_Rng_power 50 = .ok (.if_icmp .ge 14, 3) := by decide +kernel
theorem d_Rng_power_53 : decode b_Rng_power 53 = .ok (.aload_n 0, 1) := by decide +kernel
theorem d_Rng_power_54 : decode b_Rng_power 54 = .ok (.getfield 9, 3) := by decide +kernel
theorem d_Rng_power_57 : decode b_Rng_power 57 = .ok (.iconst 0, 1) := by decide +kernel
theorem d_Rng_power_58 : decode b_Rng_power 58 = .ok (.iaload, 1) := by decide +kernel
theorem d_Rng_power_59 : decode b_Rng_power 59 = .ok (.iload_n 2, 1) := by decide +kernel
theorem d_Rng_power_60 : decode b_Rng_power 60 = .ok (.iadd, 1) := by decide +kernel
theorem d_Rng_power_61 : decode b_Rng_power 61 = .ok (.goto 13, 3) := by decide +kernel
theorem d_Rng_power_64 : decode b_Rng_power 64 = .ok (.aload_n 0, 1) := by decide +kernel
theorem d_Rng_power_65 : decode b_Rng_power 65 = .ok (.getfield 9, 3) := by decide +kernel
theorem d_Rng_power_68 : decode b_Rng_power 68 = .ok (.iload 5, 2) := by decide +kernel
theorem d_Rng_power_70 : decode b_Rng_power 70 = .ok (.bipush 32, 2) := by decide +kernel
theorem d_Rng_power_72 : decode b_Rng_power 72 = .ok (.idiv, 1) := by decide +kernel
theorem d_Rng_power_73 : decode b_Rng_power 73 = .ok (.iaload, 1) := by decide +kernel
theorem d_Rng_power_74 : decode b_Rng_power 74 = .ok (.istore 6, 2) := by decide +kernel
theorem d_Rng_power_76 : decode b_Rng_power 76 = .ok (.iload 6, 2) := by decide +kernel
theorem d_Rng_power_78 : decode b_Rng_power 78 = .ok (.iload 5, 2) := by decide +kernel
theorem d_Rng_power_80 : decode b_Rng_power 80 = .ok (.bipush 32, 2) := by decide +kernel
theorem d_Rng_power_82 : decode b_Rng_power 82 = .ok (.irem, 1) := by decide +kernel
theorem d_Rng_power_83 : decode b_Rng_power 83 = .ok (.ishr, 1) := by decide +kernel
theorem d_Rng_power_84 : decode b_Rng_power 84 = .ok (.iconst 1, 1) := by decide +kernel
theorem d_Rng_power_85 : decode b_Rng_power 85 = .ok (.iand, 1) := by decide +kernel
theorem d_Rng_power_86 : decode b_Rng_power 86 = .ok (.iconst 1, 1) := by decide +kernel
theorem d_Rng_power_87 : decode b_Rng_power 87 = .ok (.if_icmp .ne 19, 3) := by decide +kernel
theorem d_Rng_power_90 : decode b_Rng_power 90 = .ok (.aload_n 0, 1) := by decide +kernel
theorem d_Rng_power_91 : decode b_Rng_power 91 = .ok (.aload_n 0, 1) := by decide +kernel
theorem d_Rng_power_92 : decode b_Rng_power 92 = .ok (.getfield 30, 3) := by decide +kernel
theorem d_Rng_power_95 : decode b_Rng_power 95 = .ok (.aload_n 0, 1) := by decide +kernel
theorem d_Rng_power_96 : decode b_Rng_power 96 = .ok (.getfield 27, 3) := by decide +kernel
theorem d_Rng_power_99 : decode b_Rng_power 99 = .ok (.aload_n 0, 1) := by decide +kernel
theorem d_Rng_power_100 : decode b_Rng_power 100 = .ok (.getfield 30, 3) := by decide +kernel
theorem d_Rng_power_103 : decode b_Rng_power 103 = .ok (.invokevirtual 62, 3) := by decide +kernel
theorem d_Rng_power_106 : decode b_Rng_power 106 = .ok (.iinc 5 (-1), 3) := by decide +kernel
theorem d_Rng_power_109 : decode b_Rng_power 109 = .ok (.goto (-85), 3) := by decide +kernel
theorem d_Rng_power_112 : decode b_Rng_power 112 = .ok (.aload_n 0, 1) := by decide +kernel
theorem d_Rng_power_113 : decode b_Rng_power 113 = .ok (.getfield 30, 3) := by decide +kernel
theorem d_Rng_power_116 : decode b_Rng_power 116 = .ok (.aload 4, 2) := by decide +kernel
theorem d_Rng_power_118 : decode b_Rng_power 118 = .ok (.invokestatic 41, 3) := by decide +kernel
theorem d_Rng_power_121 : decode b_Rng_power 121 = .ok (.return_, 1) := by decide +kernel
