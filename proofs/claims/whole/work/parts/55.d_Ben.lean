/-! decode rows: written by wip/gen/names.py -/
theorem d_Ben_init_0 : decode b_Ben_init 0 = .ok (.aload_n 0, 1) := by decide +kernel
theorem d_Ben_init_1 : decode b_Ben_init 1 = .ok (.invokespecial 3, 3) := by decide +kernel
theorem d_Ben_init_4 : decode b_Ben_init 4 = .ok (.aload_n 0, 1) := by decide +kernel
theorem d_Ben_init_5 : decode b_Ben_init 5 = .ok (.bipush 8, 2) := by decide +kernel
theorem d_Ben_init_7 : decode b_Ben_init 7 = .ok (.iconst 4, 1) := by decide +kernel
theorem d_Ben_init_8 : decode b_Ben_init 8 = .ok (.multianewarray 9 2, 4) := by decide +kernel
theorem d_Ben_init_12 : decode b_Ben_init 12 = .ok (.putfield 11, 3) := by decide +kernel
theorem d_Ben_init_15 : decode b_Ben_init 15 = .ok (.aload_n 0, 1) := by decide +kernel
theorem d_Ben_init_16 : decode b_Ben_init 16 = .ok (.iconst 4, 1) := by decide +kernel
theorem d_Ben_init_17 : decode b_Ben_init 17 = .ok (.anewarray 14, 3) := by decide +kernel
theorem d_Ben_init_20 : decode b_Ben_init 20 = .ok (.putfield 16, 3) := by decide +kernel
theorem d_Ben_init_23 : decode b_Ben_init 23 = .ok (.aload_n 0, 1) := by decide +kernel
theorem d_Ben_init_24 : decode b_Ben_init 24 = .ok (.new 20, 3) := by decide +kernel
theorem d_Ben_init_27 : decode b_Ben_init 27 = .ok (.dup, 1) := by decide +kernel
theorem d_Ben_init_28 : decode b_Ben_init 28 = .ok (.getstatic 22, 3) := by decide +kernel
theorem d_Ben_init_31 : decode b_Ben_init 31 = .ok (.getstatic 26, 3) := by decide +kernel
theorem d_Ben_init_34 : decode b_Ben_init 34 = .ok (.getstatic 29, 3) := by decide +kernel
theorem d_Ben_init_37 : decode b_Ben_init 37 = .ok (.getstatic 32, 3) := by decide +kernel
theorem d_Ben_init_40 : decode b_Ben_init 40 = .ok (.iconst 0, 1) := by decide +kernel
theorem d_Ben_init_41 : decode b_Ben_init 41 = .ok (.invokespecial 35, 3) := by decide +kernel
theorem d_Ben_init_44 : decode b_Ben_init 44 = .ok (.putfield 38, 3) := by decide +kernel
theorem d_Ben_init_47 : decode b_Ben_init 47 = .ok (.aload_n 0, 1) := by decide +kernel
theorem d_Ben_init_48 : decode b_Ben_init 48 = .ok (.new 20, 3) := by decide +kernel
theorem d_Ben_init_51 : decode b_Ben_init 51 = .ok (.dup, 1) := by decide +kernel
theorem d_Ben_init_52 : decode b_Ben_init 52 = .ok (.getstatic 42, 3) := by decide +kernel
theorem d_Ben_init_55 : decode b_Ben_init 55 = .ok (.getstatic 45, 3) := by decide +kernel
theorem d_Ben_init_58 : decode b_Ben_init 58 = .ok (.getstatic 48, 3) := by decide +kernel
theorem d_Ben_init_61 : decode b_Ben_init 61 = .ok (.getstatic 51, 3) := by decide +kernel
theorem d_Ben_init_64 : decode b_Ben_init 64 = .ok (.iconst 1, 1) := by decide +kernel
theorem d_Ben_init_65 : decode b_Ben_init 65 = .ok (.invokespecial 35, 3) := by decide +kernel
theorem d_Ben_init_68 : decode b_Ben_init 68 = .ok (.putfield 54, 3) := by decide +kernel
theorem d_Ben_init_71 : decode b_Ben_init 71 = .ok (.aload_n 0, 1) := by decide +kernel
theorem d_Ben_init_72 : decode b_Ben_init 72 = .ok (.new 14, 3) := by decide +kernel
theorem d_Ben_init_75 : decode b_Ben_init 75 = .ok (.dup, 1) := by decide +kernel
theorem d_Ben_init_76 : decode b_Ben_init 76 = .ok (.invokespecial 57, 3) := by decide +kernel
theorem d_Ben_init_79 : decode b_Ben_init 79 = .ok (.putfield 58, 3) := by decide +kernel
theorem d_Ben_init_82 : decode b_Ben_init 82 = .ok (.aload_n 0, 1) := by decide +kernel
theorem d_Ben_init_83 : decode b_Ben_init 83 = .ok (.new 62, 3) := by decide +kernel
theorem d_Ben_init_86 : decode b_Ben_init 86 = .ok (.dup, 1) := by decide +kernel
theorem d_Ben_init_87 : decode b_Ben_init 87 = .ok (.aload_n 0, 1) := by decide +kernel
theorem d_Ben_init_88 : decode b_Ben_init 88 = .ok (.getfield 38, 3) := by decide +kernel
theorem d_Ben_init_91 : decode b_Ben_init 91 = .ok (.invokespecial 64, 3) := by decide +kernel
theorem d_Ben_init_94 : decode b_Ben_init 94 = .ok (.putfield 67, 3) := by decide +kernel
theorem d_Ben_init_97 : decode b_Ben_init 97 = .ok (.aload_n 0, 1) := by decide +kernel
theorem d_Ben_init_98 : decode b_Ben_init 98 = .ok (.new 14, 3) := by decide +kernel
theorem d_Ben_init_101 : decode b_Ben_init 101 = .ok (.dup, 1) := by decide +kernel
theorem d_Ben_init_102 : decode b_Ben_init 102 = .ok (.invokespecial 57, 3) := by decide +kernel
theorem d_Ben_init_105 : decode b_Ben_init 105 = .ok (.putfield 71, 3) := by decide +kernel
theorem d_Ben_init_108 : decode b_Ben_init 108 = .ok (.aload_n 0, 1) := by decide +kernel
theorem d_Ben_init_109 : decode b_Ben_init 109 = .ok (.bipush 10, 2) := by decide +kernel
theorem d_Ben_init_111 : decode b_Ben_init 111 = .ok (.newarray .long, 2) := by decide +kernel
theorem d_Ben_init_113 : decode b_Ben_init 113 = .ok (.putfield 74, 3) := by decide +kernel
theorem d_Ben_init_116 : decode b_Ben_init 116 = .ok (.aload_n 0, 1) := by decide +kernel
theorem d_Ben_init_117 : decode b_Ben_init 117 = .ok (.bipush 10, 2) := by decide +kernel
theorem d_Ben_init_119 : decode b_Ben_init 119 = .ok (.newarray .long, 2) := by decide +kernel
theorem d_Ben_init_121 : decode b_Ben_init 121 = .ok (.putfield 77, 3) := by decide +kernel
theorem d_Ben_init_124 : decode b_Ben_init 124 = .ok (.aload_n 0, 1) := by decide +kernel
theorem d_Ben_init_125 : decode b_Ben_init 125 = .ok (.bipush 10, 2) := by decide +kernel
theorem d_Ben_init_127 : decode b_Ben_init 127 = .ok (.newarray .long, 2) := by decide +kernel
theorem d_Ben_init_129 : decode b_Ben_init 129 = .ok (.putfield 80, 3) := by decide +kernel
theorem d_Ben_init_132 : decode b_Ben_init 132 = .ok (.aload_n 0, 1) := by decide +kernel
theorem d_Ben_init_133 : decode b_Ben_init 133 = .ok (.iconst 4, 1) := by decide +kernel
theorem d_Ben_init_134 : decode b_Ben_init 134 = .ok (.newarray .long, 2) := by decide +kernel
theorem d_Ben_init_136 : decode b_Ben_init 136 = .ok (.putfield 83, 3) := by decide +kernel
theorem d_Ben_init_139 : decode b_Ben_init 139 = .ok (.aload_n 0, 1) := by decide +kernel
theorem d_Ben_init_140 : decode b_Ben_init 140 = .ok (.iconst 4, 1) := by decide +kernel
theorem d_Ben_init_141 : decode b_Ben_init 141 = .ok (.newarray .long, 2) := by decide +kernel
theorem d_Ben_init_143 : decode b_Ben_init 143 = .ok (.putfield 86, 3) := by decide +kernel
theorem d_Ben_init_146 : decode b_Ben_init 146 = .ok (.iconst 0, 1) := by decide +kernel
theorem d_Ben_init_147 : decode b_Ben_init 147 = .ok (.istore_n 1, 1) := by decide +kernel
theorem d_Ben_init_148 : decode b_Ben_init 148 = .ok (.iload_n 1, 1) := by decide +kernel
theorem d_Ben_init_149 : decode b_Ben_init 149 = .ok (.iconst 4, 1) := by decide +kernel
theorem d_Ben_init_150 : decode b_Ben_init 150 = .ok (.if_icmp .ge 22, 3) := by decide +kernel
theorem d_Ben_init_153 : decode b_Ben_init 153 = .ok (.aload_n 0, 1) := by decide +kernel
theorem d_Ben_init_154 : decode b_Ben_init 154 = .ok (.getfield 16, 3) := by decide +kernel
theorem d_Ben_init_157 : decode b_Ben_init 157 = .ok (.iload_n 1, 1) := by decide +kernel
theorem d_Ben_init_158 : decode b_Ben_init 158 = .ok (.new 14, 3) := by decide +kernel
theorem d_Ben_init_161 : decode b_Ben_init 161 = .ok (.dup, 1) := by decide +kernel
theorem d_Ben_init_162 : decode b_Ben_init 162 = .ok (.invokespecial 57, 3) := by decide +kernel
theorem d_Ben_init_165 : decode b_Ben_init 165 = .ok (.aastore, 1) := by decide +kernel
theorem d_Ben_init_166 : decode b_Ben_init 166 = .ok (.iinc 1 1, 3) := by decide +kernel
theorem d_Ben_init_169 : decode b_Ben_init 169 = .ok (.goto (-21), 3) := by decide +kernel
theorem d_Ben_init_172 : decode b_Ben_init 172 = .ok (.aload_n 0, 1) := by decide +kernel
theorem d_Ben_init_173 : decode b_Ben_init 173 = .ok (.getfield 58, 3) := by decide +kernel
theorem d_Ben_init_176 : decode b_Ben_init 176 = .ok (.getfield 89, 3) := by decide +kernel
theorem d_Ben_init_179 : decode b_Ben_init 179 = .ok (.getstatic 92, 3) := by decide +kernel
theorem d_Ben_init_182 : decode b_Ben_init 182 = .ok (.invokestatic 95, 3) := by decide +kernel
theorem d_Ben_init_185 : decode b_Ben_init 185 = .ok (.aload_n 0, 1) := by decide +kernel
theorem d_Ben_init_186 : decode b_Ben_init 186 = .ok (.getfield 58, 3) := by decide +kernel
theorem d_Ben_init_189 : decode b_Ben_init 189 = .ok (.getfield 101, 3) := by decide +kernel
theorem d_Ben_init_192 : decode b_Ben_init 192 = .ok (.getstatic 104, 3) := by decide +kernel
theorem d_Ben_init_195 : decode b_Ben_init 195 = .ok (.invokestatic 95, 3) := by decide +kernel
theorem d_Ben_init_198 : decode b_Ben_init 198 = .ok (.aload_n 0, 1) := by decide +kernel
theorem d_Ben_init_199 : decode b_Ben_init 199 = .ok (.getfield 58, 3) := by decide +kernel
theorem d_Ben_init_202 : decode b_Ben_init 202 = .ok (.iconst 0, 1) := by decide +kernel
theorem d_Ben_init_203 : decode b_Ben_init 203 = .ok (.putfield 107, 3) := by decide +kernel
theorem d_Ben_init_206 : decode b_Ben_init 206 = .ok (.return_, 1) := by decide +kernel
theorem d_Ben_set_0 : decode b_Ben_set 0 = .ok (.iload_n 1, 1) := by decide +kernel
theorem d_Ben_set_1 : decode b_Ben_set 1 = .ok (.invokestatic 111, 3) := by decide +kernel
theorem d_Ben_set_4 : decode b_Ben_set 4 = .ok (.iload_n 2, 1) := by decide +kernel
theorem d_Ben_set_5 : decode b_Ben_set 5 = .ok (.invokestatic 115, 3) := by decide +kernel
theorem d_Ben_set_8 : decode b_Ben_set 8 = .ok (.aload_n 0, 1) := by decide +kernel
theorem d_Ben_set_9 : decode b_Ben_set 9 = .ok (.getfield 11, 3) := by decide +kernel
theorem d_Ben_set_12 : decode b_Ben_set 12 = .ok (.iload_n 1, 1) := by decide +kernel
theorem d_Ben_set_13 : decode b_Ben_set 13 = .ok (.aaload, 1) := by decide +kernel
theorem d_Ben_set_14 : decode b_Ben_set 14 = .ok (.iload_n 2, 1) := by decide +kernel
theorem d_Ben_set_15 : decode b_Ben_set 15 = .ok (.lload_n 3, 1) := by decide +kernel
theorem d_Ben_set_16 : decode b_Ben_set 16 = .ok (.lastore, 1) := by decide +kernel
theorem d_Ben_set_17 : decode b_Ben_set 17 = .ok (.return_, 1) := by decide +kernel
theorem d_Ben_get_0 : decode b_Ben_get 0 = .ok (.iload_n 1, 1) := by decide +kernel
theorem d_Ben_get_1 : decode b_Ben_get 1 = .ok (.invokestatic 111, 3) := by decide +kernel
theorem d_Ben_get_4 : decode b_Ben_get 4 = .ok (.iload_n 2, 1) := by decide +kernel
theorem d_Ben_get_5 : decode b_Ben_get 5 = .ok (.invokestatic 115, 3) := by decide +kernel
theorem d_Ben_get_8 : decode b_Ben_get 8 = .ok (.aload_n 0, 1) := by decide +kernel
theorem d_Ben_get_9 : decode b_Ben_get 9 = .ok (.getfield 11, 3) := by decide +kernel
theorem d_Ben_get_12 : decode b_Ben_get 12 = .ok (.iload_n 1, 1) := by decide +kernel
theorem d_Ben_get_13 : decode b_Ben_get 13 = .ok (.aaload, 1) := by decide +kernel
theorem d_Ben_get_14 : decode b_Ben_get 14 = .ok (.iload_n 2, 1) := by decide +kernel
theorem d_Ben_get_15 : decode b_Ben_get 15 = .ok (.laload, 1) := by decide +kernel
theorem d_Ben_get_16 : decode b_Ben_get 16 = .ok (.lreturn, 1) := by decide +kernel
theorem d_Ben_compare_0 : decode b_Ben_compare 0 = .ok (.iload_n 1, 1) := by decide +kernel
theorem d_Ben_compare_1 : decode b_Ben_compare 1 = .ok (.invokestatic 111, 3) := by decide +kernel
theorem d_Ben_compare_4 : decode b_Ben_compare 4 = .ok (.iload_n 2, 1) := by decide +kernel
theorem d_Ben_compare_5 : decode b_Ben_compare 5 = .ok (.invokestatic 111, 3) := by decide +kernel
theorem d_Ben_compare_8 : decode b_Ben_compare 8 = .ok (.aload_n 0, 1) := by decide +kernel
theorem d_Ben_compare_9 : decode b_Ben_compare 9 = .ok (.getfield 11, 3) := by decide +kernel
theorem d_Ben_compare_12 : decode b_Ben_compare 12 = .ok (.iload_n 1, 1) := by decide +kernel
theorem d_Ben_compare_13 : decode b_Ben_compare 13 = .ok (.aaload, 1) := by decide +kernel
theorem d_Ben_compare_14 : decode b_Ben_compare 14 = .ok (.aload_n 0, 1) := by decide +kernel
theorem d_Ben_compare_15 : decode b_Ben_compare 15 = .ok (.getfield 11, 3) := by decide +kernel
theorem d_Ben_compare_18 : decode b_Ben_compare 18 = .ok (.iload_n 2, 1) := by decide +kernel
theorem d_Ben_compare_19 : decode b_Ben_compare 19 = .ok (.aaload, 1) := by decide +kernel
theorem d_Ben_compare_20 : decode b_Ben_compare 20 = .ok (.invokestatic 118, 3) := by decide +kernel
theorem d_Ben_compare_23 : decode b_Ben_compare 23 = .ok (.ireturn, 1) := by decide +kernel
theorem d_Ben_work_0 : decode b_Ben_work 0 = .ok (.iload_n 1, 1) := by decide +kernel
theorem d_Ben_work_1 : decode b_Ben_work 1 = .ok (.invokestatic 123, 3) := by decide +kernel
theorem d_Ben_work_4 : decode b_Ben_work 4 = .ok (.iload_n 2, 1) := by decide +kernel
theorem d_Ben_work_5 : decode b_Ben_work 5 = .ok (.invokestatic 111, 3) := by decide +kernel
theorem d_Ben_work_8 : decode b_Ben_work 8 = .ok (.iload_n 3, 1) := by decide +kernel
theorem d_Ben_work_9 : decode b_Ben_work 9 = .ok (.invokestatic 111, 3) := by decide +kernel
theorem d_Ben_work_12 : decode b_Ben_work 12 = .ok (.iload 4, 2) := by decide +kernel
theorem d_Ben_work_14 : decode b_Ben_work 14 = .ok (.invokestatic 111, 3) := by decide +kernel
theorem d_Ben_work_17 : decode b_Ben_work 17 = .ok (.iload_n 1, 1) := by decide +kernel
theorem d_Ben_work_18 : decode b_Ben_work 18 = .ok (.iconst 4, 1) := by decide +kernel
theorem d_Ben_work_19 : decode b_Ben_work 19 = .ok (.if_icmp .ge 10, 3) := by decide +kernel
theorem d_Ben_work_22 : decode b_Ben_work 22 = .ok (.aload_n 0, 1) := by decide +kernel
theorem d_Ben_work_23 : decode b_Ben_work 23 = .ok (.getfield 38, 3) := by decide +kernel
theorem d_Ben_work_26 : decode b_Ben_work 26 = .ok (.goto 7, 3) := by decide +kernel
theorem d_Ben_work_29 : decode b_Ben_work 29 = .ok (.aload_n 0, 1) := by decide +kernel
theorem d_Ben_work_30 : decode b_Ben_work 30 = .ok (.getfield 54, 3) := by decide +kernel
theorem d_Ben_work_33 : decode b_Ben_work 33 = .ok (.astore 5, 2) := by decide +kernel
theorem d_Ben_work_35 : decode b_Ben_work 35 = .ok (.iload_n 1, 1) := by decide +kernel
theorem d_Ben_work_36 : decode b_Ben_work 36 = .ok (.iconst 4, 1) := by decide +kernel
theorem d_Ben_work_37 : decode b_Ben_work 37 = .ok (.irem, 1) := by decide +kernel
theorem d_Ben_work_38 : decode b_Ben_work 38 = .ok (.istore 6, 2) := by decide +kernel
theorem d_Ben_work_40 : decode b_Ben_work 40 = .ok (.aload 5, 2) := by decide +kernel
theorem d_Ben_work_42 : decode b_Ben_work 42 = .ok (.aload_n 0, 1) := by decide +kernel
theorem d_Ben_work_43 : decode b_Ben_work 43 = .ok (.getfield 11, 3) := by decide +kernel
theorem d_Ben_work_46 : decode b_Ben_work 46 = .ok (.iload_n 3, 1) := by decide +kernel
theorem d_Ben_work_47 : decode b_Ben_work 47 = .ok (.aaload, 1) := by decide +kernel
theorem d_Ben_work_48 : decode b_Ben_work 48 = .ok (.invokevirtual 126, 3) := by decide +kernel
theorem d_Ben_work_51 : decode b_Ben_work 51 = .ok (.ifCond .ne 5, 3) := by decide +kernel
theorem d_Ben_work_54 : decode b_Ben_work 54 = .ok (.iconst 0, 1) := by decide +kernel
theorem d_Ben_work_55 : decode b_Ben_work 55 = .ok (.ireturn, 1) := by decide +kernel
theorem d_Ben_work_56 : decode b_Ben_work 56 = .ok (.iload 6, 2) := by decide +kernel
theorem d_Ben_work_58 : decode b_Ben_work 58 = .ok (.iconst 3, 1) := by decide +kernel
theorem d_Ben_work_59 : decode b_Ben_work 59 = .ok (.if_icmp .ne 18, 3) := by decide +kernel
theorem d_Ben_work_62 : decode b_Ben_work 62 = .ok (.aload_n 0, 1) := by decide +kernel
theorem d_Ben_work_63 : decode b_Ben_work 63 = .ok (.getfield 11, 3) := by decide +kernel
theorem d_Ben_work_66 : decode b_Ben_work 66 = .ok (.iload_n 3, 1) := by decide +kernel
theorem d_Ben_work_67 : decode b_Ben_work 67 = .ok (.aaload, 1) := by decide +kernel
theorem d_Ben_work_68 : decode b_Ben_work 68 = .ok (.invokestatic 130, 3) := by decide +kernel
theorem d_Ben_work_71 : decode b_Ben_work 71 = .ok (.ifCond .eq 23, 3) := by decide +kernel
theorem d_Ben_work_74 : decode b_Ben_work 74 = .ok (.goto 18, 3) := by decide +kernel
theorem d_Ben_work_77 : decode b_Ben_work 77 = .ok (.aload 5, 2) := by decide +kernel
theorem d_Ben_work_79 : decode b_Ben_work 79 = .ok (.aload_n 0, 1) := by decide +kernel
theorem d_Ben_work_80 : decode b_Ben_work 80 = .ok (.getfield 11, 3) := by decide +kernel
theorem d_Ben_work_83 : decode b_Ben_work 83 = .ok (.iload 4, 2) := by decide +kernel
theorem d_Ben_work_85 : decode b_Ben_work 85 = .ok (.aaload, 1) := by decide +kernel
theorem d_Ben_work_86 : decode b_Ben_work 86 = .ok (.invokevirtual 126, 3) := by decide +kernel
theorem d_Ben_work_89 : decode b_Ben_work 89 = .ok (.ifCond .ne 5, 3) := by decide +kernel
theorem d_Ben_work_92 : decode b_Ben_work 92 = .ok (.iconst 0, 1) := by decide +kernel
theorem d_Ben_work_93 : decode b_Ben_work 93 = .ok (.ireturn, 1) := by decide +kernel
theorem d_Ben_work_94 : decode b_Ben_work 94 = .ok (.aload_n 0, 1) := by decide +kernel
theorem d_Ben_work_95 : decode b_Ben_work 95 = .ok (.getfield 74, 3) := by decide +kernel
theorem d_Ben_work_98 : decode b_Ben_work 98 = .ok (.aload_n 0, 1) := by decide +kernel
theorem d_Ben_work_99 : decode b_Ben_work 99 = .ok (.getfield 11, 3) := by decide +kernel
theorem d_Ben_work_102 : decode b_Ben_work 102 = .ok (.iload_n 3, 1) := by decide +kernel
theorem d_Ben_work_103 : decode b_Ben_work 103 = .ok (.aaload, 1) := by decide +kernel
theorem d_Ben_work_104 : decode b_Ben_work 104 = .ok (.invokestatic 95, 3) := by decide +kernel
theorem d_Ben_work_107 : decode b_Ben_work 107 = .ok (.aload_n 0, 1) := by decide +kernel
theorem d_Ben_work_108 : decode b_Ben_work 108 = .ok (.getfield 77, 3) := by decide +kernel
theorem d_Ben_work_111 : decode b_Ben_work 111 = .ok (.aload_n 0, 1) := by decide +kernel
theorem d_Ben_work_112 : decode b_Ben_work 112 = .ok (.getfield 11, 3) := by decide +kernel
theorem d_Ben_work_115 : decode b_Ben_work 115 = .ok (.iload 4, 2) := by decide +kernel
theorem d_Ben_work_117 : decode b_Ben_work 117 = .ok (.aaload, 1) := by decide +kernel
theorem d_Ben_work_118 : decode b_Ben_work 118 = .ok (.invokestatic 95, 3) := by decide +kernel
theorem d_Ben_work_121 : decode b_Ben_work 121 = .ok (.aload_n 0, 1) := by decide +kernel
theorem d_Ben_work_122 : decode b_Ben_work 122 = .ok (.iload 6, 2) := by decide +kernel
theorem d_Ben_work_124 : decode b_Ben_work 124 = .ok (.aload 5, 2) := by decide +kernel
theorem d_Ben_work_126 : decode b_Ben_work 126 = .ok (.invokevirtual 133, 3) := by decide +kernel
theorem d_Ben_work_129 : decode b_Ben_work 129 = .ok (.aload 5, 2) := by decide +kernel
theorem d_Ben_work_131 : decode b_Ben_work 131 = .ok (.aload_n 0, 1) := by decide +kernel
theorem d_Ben_work_132 : decode b_Ben_work 132 = .ok (.getfield 74, 3) := by decide +kernel
theorem d_Ben_work_135 : decode b_Ben_work 135 = .ok (.invokevirtual 137, 3) := by decide +kernel
theorem d_Ben_work_138 : decode b_Ben_work 138 = .ok (.aload_n 0, 1) := by decide +kernel
theorem d_Ben_work_139 : decode b_Ben_work 139 = .ok (.getfield 11, 3) := by decide +kernel
theorem d_Ben_work_142 : decode b_Ben_work 142 = .ok (.iload_n 2, 1) := by decide +kernel
theorem d_Ben_work_143 : decode b_Ben_work 143 = .ok (.aaload, 1) := by decide +kernel
theorem d_Ben_work_144 : decode b_Ben_work 144 = .ok (.aload_n 0, 1) := by decide +kernel
theorem d_Ben_work_145 : decode b_Ben_work 145 = .ok (.getfield 74, 3) := by decide +kernel
theorem d_Ben_work_148 : decode b_Ben_work 148 = .ok (.invokestatic 141, 3) := by decide +kernel
theorem d_Ben_work_151 : decode b_Ben_work 151 = .ok (.iconst 1, 1) := by decide +kernel
theorem d_Ben_work_152 : decode b_Ben_work 152 = .ok (.ireturn, 1) := by decide +kernel
theorem d_Ben_base_0 : decode b_Ben_base 0 = .ok (.iload_n 1, 1) := by decide +kernel
theorem d_Ben_base_1 : decode b_Ben_base 1 = .ok (.invokestatic 144, 3) := by decide +kernel
theorem d_Ben_base_4 : decode b_Ben_base 4 = .ok (.aload_n 0, 1) := by decide +kernel
theorem d_Ben_base_5 : decode b_Ben_base 5 = .ok (.getfield 16, 3) := by decide +kernel
theorem d_Ben_base_8 : decode b_Ben_base 8 = .ok (.iload_n 1, 1) := by decide +kernel
theorem d_Ben_base_9 : decode b_Ben_base 9 = .ok (.aaload, 1) := by decide +kernel
theorem d_Ben_base_10 : decode b_Ben_base 10 = .ok (.aload_n 0, 1) := by decide +kernel
theorem d_Ben_base_11 : decode b_Ben_base 11 = .ok (.getfield 58, 3) := by decide +kernel
theorem d_Ben_base_14 : decode b_Ben_base 14 = .ok (.invokevirtual 147, 3) := by decide +kernel
theorem d_Ben_base_17 : decode b_Ben_base 17 = .ok (.return_, 1) := by decide +kernel
theorem d_Ben_none_0 : decode b_Ben_none 0 = .ok (.iload_n 1, 1) := by decide +kernel
theorem d_Ben_none_1 : decode b_Ben_none 1 = .ok (.invokestatic 144, 3) := by decide +kernel
theorem d_Ben_none_4 : decode b_Ben_none 4 = .ok (.aload_n 0, 1) := by decide +kernel
theorem d_Ben_none_5 : decode b_Ben_none 5 = .ok (.getfield 16, 3) := by decide +kernel
theorem d_Ben_none_8 : decode b_Ben_none 8 = .ok (.iload_n 1, 1) := by decide +kernel
theorem d_Ben_none_9 : decode b_Ben_none 9 = .ok (.aaload, 1) := by decide +kernel
theorem d_Ben_none_10 : decode b_Ben_none 10 = .ok (.iconst 1, 1) := by decide +kernel
theorem d_Ben_none_11 : decode b_Ben_none 11 = .ok (.putfield 107, 3) := by decide +kernel
theorem d_Ben_none_14 : decode b_Ben_none 14 = .ok (.return_, 1) := by decide +kernel
theorem d_Ben_lay_0 : decode b_Ben_lay 0 = .ok (.iload_n 1, 1) := by decide +kernel
theorem d_Ben_lay_1 : decode b_Ben_lay 1 = .ok (.invokestatic 144, 3) := by decide +kernel
theorem d_Ben_lay_4 : decode b_Ben_lay 4 = .ok (.iload_n 2, 1) := by decide +kernel
theorem d_Ben_lay_5 : decode b_Ben_lay 5 = .ok (.invokestatic 111, 3) := by decide +kernel
theorem d_Ben_lay_8 : decode b_Ben_lay 8 = .ok (.iload_n 3, 1) := by decide +kernel
theorem d_Ben_lay_9 : decode b_Ben_lay 9 = .ok (.invokestatic 111, 3) := by decide +kernel
theorem d_Ben_lay_12 : decode b_Ben_lay 12 = .ok (.aload_n 0, 1) := by decide +kernel
theorem d_Ben_lay_13 : decode b_Ben_lay 13 = .ok (.getfield 38, 3) := by decide +kernel
theorem d_Ben_lay_16 : decode b_Ben_lay 16 = .ok (.aload_n 0, 1) := by decide +kernel
theorem d_Ben_lay_17 : decode b_Ben_lay 17 = .ok (.getfield 11, 3) := by decide +kernel
theorem d_Ben_lay_20 : decode b_Ben_lay 20 = .ok (.iload_n 2, 1) := by decide +kernel
theorem d_Ben_lay_21 : decode b_Ben_lay 21 = .ok (.aaload, 1) := by decide +kernel
theorem d_Ben_lay_22 : decode b_Ben_lay 22 = .ok (.invokevirtual 126, 3) := by decide +kernel
theorem d_Ben_lay_25 : decode b_Ben_lay 25 = .ok (.ifCond .eq 19, 3) := by decide +kernel
theorem d_Ben_lay_28 : decode b_Ben_lay 28 = .ok (.aload_n 0, 1) := by decide +kernel
theorem d_Ben_lay_29 : decode b_Ben_lay 29 = .ok (.getfield 38, 3) := by decide +kernel
theorem d_Ben_lay_32 : decode b_Ben_lay 32 = .ok (.aload_n 0, 1) := by decide +kernel
theorem d_Ben_lay_33 : decode b_Ben_lay 33 = .ok (.getfield 11, 3) := by decide +kernel
theorem d_Ben_lay_36 : decode b_Ben_lay 36 = .ok (.iload_n 3, 1) := by decide +kernel
theorem d_Ben_lay_37 : decode b_Ben_lay 37 = .ok (.aaload, 1) := by decide +kernel
theorem d_Ben_lay_38 : decode b_Ben_lay 38 = .ok (.invokevirtual 126, 3) := by decide +kernel
theorem d_Ben_lay_41 : decode b_Ben_lay 41 = .ok (.ifCond .ne 5, 3) := by decide +kernel
theorem d_Ben_lay_44 : decode b_Ben_lay 44 = .ok (.iconst 0, 1) := by decide +kernel
theorem d_Ben_lay_45 : decode b_Ben_lay 45 = .ok (.ireturn, 1) := by decide +kernel
theorem d_Ben_lay_46 : decode b_Ben_lay 46 = .ok (.aload_n 0, 1) := by decide +kernel
theorem d_Ben_lay_47 : decode b_Ben_lay 47 = .ok (.getfield 71, 3) := by decide +kernel
theorem d_Ben_lay_50 : decode b_Ben_lay 50 = .ok (.getfield 89, 3) := by decide +kernel
theorem d_Ben_lay_53 : decode b_Ben_lay 53 = .ok (.aload_n 0, 1) := by decide +kernel
theorem d_Ben_lay_54 : decode b_Ben_lay 54 = .ok (.getfield 11, 3) := by decide +kernel
theorem d_Ben_lay_57 : decode b_Ben_lay 57 = .ok (.iload_n 2, 1) := by decide +kernel
theorem d_Ben_lay_58 : decode b_Ben_lay 58 = .ok (.aaload, 1) := by decide +kernel
theorem d_Ben_lay_59 : decode b_Ben_lay 59 = .ok (.invokestatic 95, 3) := by decide +kernel
theorem d_Ben_lay_62 : decode b_Ben_lay 62 = .ok (.aload_n 0, 1) := by decide +kernel
theorem d_Ben_lay_63 : decode b_Ben_lay 63 = .ok (.getfield 71, 3) := by decide +kernel
theorem d_Ben_lay_66 : decode b_Ben_lay 66 = .ok (.getfield 101, 3) := by decide +kernel
theorem d_Ben_lay_69 : decode b_Ben_lay 69 = .ok (.aload_n 0, 1) := by decide +kernel
theorem d_Ben_lay_70 : decode b_Ben_lay 70 = .ok (.getfield 11, 3) := by decide +kernel
theorem d_Ben_lay_73 : decode b_Ben_lay 73 = .ok (.iload_n 3, 1) := by decide +kernel
theorem d_Ben_lay_74 : decode b_Ben_lay 74 = .ok (.aaload, 1) := by decide +kernel
theorem d_Ben_lay_75 : decode b_Ben_lay 75 = .ok (.invokestatic 95, 3) := by decide +kernel
theorem d_Ben_lay_78 : decode b_Ben_lay 78 = .ok (.aload_n 0, 1) := by decide +kernel
theorem d_Ben_lay_79 : decode b_Ben_lay 79 = .ok (.aload_n 0, 1) := by decide +kernel
theorem d_Ben_lay_80 : decode b_Ben_lay 80 = .ok (.getfield 74, 3) := by decide +kernel
theorem d_Ben_lay_83 : decode b_Ben_lay 83 = .ok (.aload_n 0, 1) := by decide +kernel
theorem d_Ben_lay_84 : decode b_Ben_lay 84 = .ok (.getfield 71, 3) := by decide +kernel
theorem d_Ben_lay_87 : decode b_Ben_lay 87 = .ok (.getfield 89, 3) := by decide +kernel
theorem d_Ben_lay_90 : decode b_Ben_lay 90 = .ok (.invokevirtual 151, 3) := by decide +kernel
theorem d_Ben_lay_93 : decode b_Ben_lay 93 = .ok (.aload_n 0, 1) := by decide +kernel
theorem d_Ben_lay_94 : decode b_Ben_lay 94 = .ok (.aload_n 0, 1) := by decide +kernel
theorem d_Ben_lay_95 : decode b_Ben_lay 95 = .ok (.getfield 71, 3) := by decide +kernel
theorem d_Ben_lay_98 : decode b_Ben_lay 98 = .ok (.getfield 101, 3) := by decide +kernel
theorem d_Ben_lay_101 : decode b_Ben_lay 101 = .ok (.aload_n 0, 1) := by decide +kernel
theorem d_Ben_lay_102 : decode b_Ben_lay 102 = .ok (.getfield 74, 3) := by decide +kernel
theorem d_Ben_lay_105 : decode b_Ben_lay 105 = .ok (.invokevirtual 154, 3) := by decide +kernel
theorem d_Ben_lay_108 : decode b_Ben_lay 108 = .ok (.ifCond .ne 5, 3) := by decide +kernel
theorem d_Ben_lay_111 : decode b_Ben_lay 111 = .ok (.iconst 0, 1) := by decide +kernel
theorem d_Ben_lay_112 : decode b_Ben_lay 112 = .ok (.ireturn, 1) := by decide +kernel
theorem d_Ben_lay_113 : decode b_Ben_lay 113 = .ok (.aload_n 0, 1) := by decide +kernel
theorem d_Ben_lay_114 : decode b_Ben_lay 114 = .ok (.getfield 71, 3) := by decide +kernel
theorem d_Ben_lay_117 : decode b_Ben_lay 117 = .ok (.iconst 0, 1) := by decide +kernel
theorem d_Ben_lay_118 : decode b_Ben_lay 118 = .ok (.putfield 107, 3) := by decide +kernel
theorem d_Ben_lay_121 : decode b_Ben_lay 121 = .ok (.aload_n 0, 1) := by decide +kernel
theorem d_Ben_lay_122 : decode b_Ben_lay 122 = .ok (.getfield 16, 3) := by decide +kernel
theorem d_Ben_lay_125 : decode b_Ben_lay 125 = .ok (.iload_n 1, 1) := by decide +kernel
theorem d_Ben_lay_126 : decode b_Ben_lay 126 = .ok (.aaload, 1) := by decide +kernel
theorem d_Ben_lay_127 : decode b_Ben_lay 127 = .ok (.aload_n 0, 1) := by decide +kernel
theorem d_Ben_lay_128 : decode b_Ben_lay 128 = .ok (.getfield 71, 3) := by decide +kernel
theorem d_Ben_lay_131 : decode b_Ben_lay 131 = .ok (.invokevirtual 147, 3) := by decide +kernel
theorem d_Ben_lay_134 : decode b_Ben_lay 134 = .ok (.iconst 1, 1) := by decide +kernel
theorem d_Ben_lay_135 : decode b_Ben_lay 135 = .ok (.ireturn, 1) := by decide +kernel
theorem d_Ben_lift_0 : decode b_Ben_lift 0 = .ok (.iload_n 1, 1) := by decide +kernel
theorem d_Ben_lift_1 : decode b_Ben_lift 1 = .ok (.invokestatic 144, 3) := by decide +kernel
theorem d_Ben_lift_4 : decode b_Ben_lift 4 = .ok (.iload_n 2, 1) := by decide +kernel
theorem d_Ben_lift_5 : decode b_Ben_lift 5 = .ok (.invokestatic 111, 3) := by decide +kernel
theorem d_Ben_lift_8 : decode b_Ben_lift 8 = .ok (.aload_n 0, 1) := by decide +kernel
theorem d_Ben_lift_9 : decode b_Ben_lift 9 = .ok (.getfield 38, 3) := by decide +kernel
theorem d_Ben_lift_12 : decode b_Ben_lift 12 = .ok (.aload_n 0, 1) := by decide +kernel
theorem d_Ben_lift_13 : decode b_Ben_lift 13 = .ok (.getfield 11, 3) := by decide +kernel
theorem d_Ben_lift_16 : decode b_Ben_lift 16 = .ok (.iload_n 2, 1) := by decide +kernel
theorem d_Ben_lift_17 : decode b_Ben_lift 17 = .ok (.aaload, 1) := by decide +kernel
theorem d_Ben_lift_18 : decode b_Ben_lift 18 = .ok (.invokevirtual 126, 3) := by decide +kernel
theorem d_Ben_lift_21 : decode b_Ben_lift 21 = .ok (.ifCond .ne 5, 3) := by decide +kernel
theorem d_Ben_lift_24 : decode b_Ben_lift 24 = .ok (.iconst 0, 1) := by decide +kernel
theorem d_Ben_lift_25 : decode b_Ben_lift 25 = .ok (.ireturn, 1) := by decide +kernel
theorem d_Ben_lift_26 : decode b_Ben_lift 26 = .ok (.aload_n 0, 1) := by decide +kernel
theorem d_Ben_lift_27 : decode b_Ben_lift 27 = .ok (.getfield 71, 3) := by decide +kernel
theorem d_Ben_lift_30 : decode b_Ben_lift 30 = .ok (.getfield 89, 3) := by decide +kernel
theorem d_Ben_lift_33 : decode b_Ben_lift 33 = .ok (.aload_n 0, 1) := by decide +kernel
theorem d_Ben_lift_34 : decode b_Ben_lift 34 = .ok (.getfield 11, 3) := by decide +kernel
theorem d_Ben_lift_37 : decode b_Ben_lift 37 = .ok (.iload_n 2, 1) := by decide +kernel
theorem d_Ben_lift_38 : decode b_Ben_lift 38 = .ok (.aaload, 1) := by decide +kernel
theorem d_Ben_lift_39 : decode b_Ben_lift 39 = .ok (.invokestatic 95, 3) := by decide +kernel
theorem d_Ben_lift_42 : decode b_Ben_lift 42 = .ok (.aload_n 0, 1) := by decide +kernel
theorem d_Ben_lift_43 : decode b_Ben_lift 43 = .ok (.aload_n 0, 1) := by decide +kernel
theorem d_Ben_lift_44 : decode b_Ben_lift 44 = .ok (.getfield 74, 3) := by decide +kernel
theorem d_Ben_lift_47 : decode b_Ben_lift 47 = .ok (.aload_n 0, 1) := by decide +kernel
theorem d_Ben_lift_48 : decode b_Ben_lift 48 = .ok (.getfield 71, 3) := by decide +kernel
theorem d_Ben_lift_51 : decode b_Ben_lift 51 = .ok (.getfield 89, 3) := by decide +kernel
theorem d_Ben_lift_54 : decode b_Ben_lift 54 = .ok (.invokevirtual 151, 3) := by decide +kernel
theorem d_Ben_lift_57 : decode b_Ben_lift 57 = .ok (.aload_n 0, 1) := by decide +kernel
theorem d_Ben_lift_58 : decode b_Ben_lift 58 = .ok (.getfield 38, 3) := by decide +kernel
theorem d_Ben_lift_61 : decode b_Ben_lift 61 = .ok (.aload_n 0, 1) := by decide +kernel
theorem d_Ben_lift_62 : decode b_Ben_lift 62 = .ok (.getfield 71, 3) := by decide +kernel
theorem d_Ben_lift_65 : decode b_Ben_lift 65 = .ok (.getfield 101, 3) := by decide +kernel
theorem d_Ben_lift_68 : decode b_Ben_lift 68 = .ok (.aload_n 0, 1) := by decide +kernel
theorem d_Ben_lift_69 : decode b_Ben_lift 69 = .ok (.getfield 74, 3) := by decide +kernel
theorem d_Ben_lift_72 : decode b_Ben_lift 72 = .ok (.getstatic 158, 3) := by decide +kernel
theorem d_Ben_lift_75 : decode b_Ben_lift 75 = .ok (.invokevirtual 161, 3) := by decide +kernel
theorem d_Ben_lift_78 : decode b_Ben_lift 78 = .ok (.aload_n 0, 1) := by decide +kernel
theorem d_Ben_lift_79 : decode b_Ben_lift 79 = .ok (.aload_n 0, 1) := by decide +kernel
theorem d_Ben_lift_80 : decode b_Ben_lift 80 = .ok (.getfield 71, 3) := by decide +kernel
theorem d_Ben_lift_83 : decode b_Ben_lift 83 = .ok (.getfield 101, 3) := by decide +kernel
theorem d_Ben_lift_86 : decode b_Ben_lift 86 = .ok (.aload_n 0, 1) := by decide +kernel
theorem d_Ben_lift_87 : decode b_Ben_lift 87 = .ok (.getfield 74, 3) := by decide +kernel
theorem d_Ben_lift_90 : decode b_Ben_lift 90 = .ok (.invokevirtual 154, 3) := by decide +kernel
theorem d_Ben_lift_93 : decode b_Ben_lift 93 = .ok (.ifCond .ne 5, 3) := by decide +kernel
theorem d_Ben_lift_96 : decode b_Ben_lift 96 = .ok (.iconst 0, 1) := by decide +kernel
theorem d_Ben_lift_97 : decode b_Ben_lift 97 = .ok (.ireturn, 1) := by decide +kernel
theorem d_Ben_lift_98 : decode b_Ben_lift 98 = .ok (.aload_n 0, 1) := by decide +kernel
theorem d_Ben_lift_99 : decode b_Ben_lift 99 = .ok (.aload_n 0, 1) := by decide +kernel
theorem d_Ben_lift_100 : decode b_Ben_lift 100 = .ok (.getfield 71, 3) := by decide +kernel
theorem d_Ben_lift_103 : decode b_Ben_lift 103 = .ok (.getfield 101, 3) := by decide +kernel
theorem d_Ben_lift_106 : decode b_Ben_lift 106 = .ok (.iload_n 3, 1) := by decide +kernel
theorem d_Ben_lift_107 : decode b_Ben_lift 107 = .ok (.invokevirtual 165, 3) := by decide +kernel
theorem d_Ben_lift_110 : decode b_Ben_lift 110 = .ok (.aload_n 0, 1) := by decide +kernel
theorem d_Ben_lift_111 : decode b_Ben_lift 111 = .ok (.getfield 71, 3) := by decide +kernel
theorem d_Ben_lift_114 : decode b_Ben_lift 114 = .ok (.iconst 0, 1) := by decide +kernel
theorem d_Ben_lift_115 : decode b_Ben_lift 115 = .ok (.putfield 107, 3) := by decide +kernel
theorem d_Ben_lift_118 : decode b_Ben_lift 118 = .ok (.aload_n 0, 1) := by decide +kernel
theorem d_Ben_lift_119 : decode b_Ben_lift 119 = .ok (.getfield 16, 3) := by decide +kernel
theorem d_Ben_lift_122 : decode b_Ben_lift 122 = .ok (.iload_n 1, 1) := by decide +kernel
theorem d_Ben_lift_123 : decode b_Ben_lift 123 = .ok (.aaload, 1) := by decide +kernel
theorem d_Ben_lift_124 : decode b_Ben_lift 124 = .ok (.aload_n 0, 1) := by decide +kernel
theorem d_Ben_lift_125 : decode b_Ben_lift 125 = .ok (.getfield 71, 3) := by decide +kernel
theorem d_Ben_lift_128 : decode b_Ben_lift 128 = .ok (.invokevirtual 147, 3) := by decide +kernel
theorem d_Ben_lift_131 : decode b_Ben_lift 131 = .ok (.iconst 1, 1) := by decide +kernel
theorem d_Ben_lift_132 : decode b_Ben_lift 132 = .ok (.ireturn, 1) := by decide +kernel
theorem d_Ben_show_0 : decode b_Ben_show 0 = .ok (.iload_n 1, 1) := by decide +kernel
theorem d_Ben_show_1 : decode b_Ben_show 1 = .ok (.invokestatic 144, 3) := by decide +kernel
theorem d_Ben_show_4 : decode b_Ben_show 4 = .ok (.iload_n 2, 1) := by decide +kernel
theorem d_Ben_show_5 : decode b_Ben_show 5 = .ok (.invokestatic 111, 3) := by decide +kernel
theorem d_Ben_show_8 : decode b_Ben_show 8 = .ok (.iload_n 3, 1) := by decide +kernel
theorem d_Ben_show_9 : decode b_Ben_show 9 = .ok (.invokestatic 111, 3) := by decide +kernel
theorem d_Ben_show_12 : decode b_Ben_show 12 = .ok (.aload_n 0, 1) := by decide +kernel
theorem d_Ben_show_13 : decode b_Ben_show 13 = .ok (.getfield 16, 3) := by decide +kernel
theorem d_Ben_show_16 : decode b_Ben_show 16 = .ok (.iload_n 1, 1) := by decide +kernel
theorem d_Ben_show_17 : decode b_Ben_show 17 = .ok (.aaload, 1) := by decide +kernel
theorem d_Ben_show_18 : decode b_Ben_show 18 = .ok (.getfield 107, 3) := by decide +kernel
theorem d_Ben_show_21 : decode b_Ben_show 21 = .ok (.ifCond .eq 5, 3) := by decide +kernel
theorem d_Ben_show_24 : decode b_Ben_show 24 = .ok (.iconst 0, 1) := by decide +kernel
theorem d_Ben_show_25 : decode b_Ben_show 25 = .ok (.ireturn, 1) := by decide +kernel
theorem d_Ben_show_26 : decode b_Ben_show 26 = .ok (.aload_n 0, 1) := by decide +kernel
theorem d_Ben_show_27 : decode b_Ben_show 27 = .ok (.getfield 11, 3) := by decide +kernel
theorem d_Ben_show_30 : decode b_Ben_show 30 = .ok (.iload_n 2, 1) := by decide +kernel
theorem d_Ben_show_31 : decode b_Ben_show 31 = .ok (.aaload, 1) := by decide +kernel
theorem d_Ben_show_32 : decode b_Ben_show 32 = .ok (.aload_n 0, 1) := by decide +kernel
theorem d_Ben_show_33 : decode b_Ben_show 33 = .ok (.getfield 16, 3) := by decide +kernel
theorem d_Ben_show_36 : decode b_Ben_show 36 = .ok (.iload_n 1, 1) := by decide +kernel
theorem d_Ben_show_37 : decode b_Ben_show 37 = .ok (.aaload, 1) := by decide +kernel
theorem d_Ben_show_38 : decode b_Ben_show 38 = .ok (.getfield 89, 3) := by decide +kernel
theorem d_Ben_show_41 : decode b_Ben_show 41 = .ok (.invokestatic 141, 3) := by decide +kernel
theorem d_Ben_show_44 : decode b_Ben_show 44 = .ok (.aload_n 0, 1) := by decide +kernel
theorem d_Ben_show_45 : decode b_Ben_show 45 = .ok (.getfield 11, 3) := by decide +kernel
theorem d_Ben_show_48 : decode b_Ben_show 48 = .ok (.iload_n 3, 1) := by decide +kernel
theorem d_Ben_show_49 : decode b_Ben_show 49 = .ok (.aaload, 1) := by decide +kernel
theorem d_Ben_show_50 : decode b_Ben_show 50 = .ok (.aload_n 0, 1) := by decide +kernel
theorem d_Ben_show_51 : decode b_Ben_show 51 = .ok (.getfield 16, 3) := by decide +kernel
theorem d_Ben_show_54 : decode b_Ben_show 54 = .ok (.iload_n 1, 1) := by decide +kernel
theorem d_Ben_show_55 : decode b_Ben_show 55 = .ok (.aaload, 1) := by decide +kernel
theorem d_Ben_show_56 : decode b_Ben_show 56 = .ok (.getfield 101, 3) := by decide +kernel
theorem d_Ben_show_59 : decode b_Ben_show 59 = .ok (.invokestatic 141, 3) := by decide +kernel
theorem d_Ben_show_62 : decode b_Ben_show 62 = .ok (.iconst 1, 1) := by decide +kernel
theorem d_Ben_show_63 : decode b_Ben_show 63 = .ok (.ireturn, 1) := by decide +kernel
theorem d_Ben_add_0 : decode b_Ben_add 0 = .ok (.iload_n 1, 1) := by decide +kernel
theorem d_Ben_add_1 : decode b_Ben_add 1 = .ok (.invokestatic 144, 3) := by decide +kernel
theorem d_Ben_add_4 : decode b_Ben_add 4 = .ok (.iload_n 2, 1) := by decide +kernel
theorem d_Ben_add_5 : decode b_Ben_add 5 = .ok (.invokestatic 144, 3) := by decide +kernel
theorem d_Ben_add_8 : decode b_Ben_add 8 = .ok (.iload_n 3, 1) := by decide +kernel
theorem d_Ben_add_9 : decode b_Ben_add 9 = .ok (.invokestatic 144, 3) := by decide +kernel
theorem d_Ben_add_12 : decode b_Ben_add 12 = .ok (.aload_n 0, 1) := by decide +kernel
theorem d_Ben_add_13 : decode b_Ben_add 13 = .ok (.getfield 67, 3) := by decide +kernel
theorem d_Ben_add_16 : decode b_Ben_add 16 = .ok (.invokevirtual 169, 3) := by decide +kernel
theorem d_Ben_add_19 : decode b_Ben_add 19 = .ok (.aload_n 0, 1) := by decide +kernel
theorem d_Ben_add_20 : decode b_Ben_add 20 = .ok (.getfield 67, 3) := by decide +kernel
theorem d_Ben_add_23 : decode b_Ben_add 23 = .ok (.aload_n 0, 1) := by decide +kernel
theorem d_Ben_add_24 : decode b_Ben_add 24 = .ok (.getfield 16, 3) := by decide +kernel
theorem d_Ben_add_27 : decode b_Ben_add 27 = .ok (.iload_n 2, 1) := by decide +kernel
theorem d_Ben_add_28 : decode b_Ben_add 28 = .ok (.aaload, 1) := by decide +kernel
theorem d_Ben_add_29 : decode b_Ben_add 29 = .ok (.invokevirtual 172, 3) := by decide +kernel
theorem d_Ben_add_32 : decode b_Ben_add 32 = .ok (.aload_n 0, 1) := by decide +kernel
theorem d_Ben_add_33 : decode b_Ben_add 33 = .ok (.getfield 67, 3) := by decide +kernel
theorem d_Ben_add_36 : decode b_Ben_add 36 = .ok (.aload_n 0, 1) := by decide +kernel
theorem d_Ben_add_37 : decode b_Ben_add 37 = .ok (.getfield 16, 3) := by decide +kernel
theorem d_Ben_add_40 : decode b_Ben_add 40 = .ok (.iload_n 3, 1) := by decide +kernel
theorem d_Ben_add_41 : decode b_Ben_add 41 = .ok (.aaload, 1) := by decide +kernel
theorem d_Ben_add_42 : decode b_Ben_add 42 = .ok (.invokevirtual 172, 3) := by decide +kernel
theorem d_Ben_add_45 : decode b_Ben_add 45 = .ok (.aload_n 0, 1) := by decide +kernel
theorem d_Ben_add_46 : decode b_Ben_add 46 = .ok (.getfield 67, 3) := by decide +kernel
theorem d_Ben_add_49 : decode b_Ben_add 49 = .ok (.aload_n 0, 1) := by decide +kernel
theorem d_Ben_add_50 : decode b_Ben_add 50 = .ok (.getfield 16, 3) := by decide +kernel
theorem d_Ben_add_53 : decode b_Ben_add 53 = .ok (.iload_n 1, 1) := by decide +kernel
theorem d_Ben_add_54 : decode b_Ben_add 54 = .ok (.aaload, 1) := by decide +kernel
theorem d_Ben_add_55 : decode b_Ben_add 55 = .ok (.invokevirtual 175, 3) := by decide +kernel
theorem d_Ben_add_58 : decode b_Ben_add 58 = .ok (.return_, 1) := by decide +kernel
theorem d_Ben_times_0 : decode b_Ben_times 0 = .ok (.iload_n 1, 1) := by decide +kernel
theorem d_Ben_times_1 : decode b_Ben_times 1 = .ok (.invokestatic 144, 3) := by decide +kernel
theorem d_Ben_times_4 : decode b_Ben_times 4 = .ok (.iload_n 2, 1) := by decide +kernel
theorem d_Ben_times_5 : decode b_Ben_times 5 = .ok (.invokestatic 111, 3) := by decide +kernel
theorem d_Ben_times_8 : decode b_Ben_times 8 = .ok (.iload_n 3, 1) := by decide +kernel
theorem d_Ben_times_9 : decode b_Ben_times 9 = .ok (.invokestatic 144, 3) := by decide +kernel
theorem d_Ben_times_12 : decode b_Ben_times 12 = .ok (.aload_n 0, 1) := by decide +kernel
theorem d_Ben_times_13 : decode b_Ben_times 13 = .ok (.getfield 67, 3) := by decide +kernel
theorem d_Ben_times_16 : decode b_Ben_times 16 = .ok (.aload_n 0, 1) := by decide +kernel
theorem d_Ben_times_17 : decode b_Ben_times 17 = .ok (.getfield 11, 3) := by decide +kernel
theorem d_Ben_times_20 : decode b_Ben_times 20 = .ok (.iload_n 2, 1) := by decide +kernel
theorem d_Ben_times_21 : decode b_Ben_times 21 = .ok (.aaload, 1) := by decide +kernel
theorem d_Ben_times_22 : decode b_Ben_times 22 = .ok (.aload_n 0, 1) := by decide +kernel
theorem d_Ben_times_23 : decode b_Ben_times 23 = .ok (.getfield 16, 3) := by decide +kernel
theorem d_Ben_times_26 : decode b_Ben_times 26 = .ok (.iload_n 3, 1) := by decide +kernel
theorem d_Ben_times_27 : decode b_Ben_times 27 = .ok (.aaload, 1) := by decide +kernel
theorem d_Ben_times_28 : decode b_Ben_times 28 = .ok (.getstatic 178, 3) := by decide +kernel
theorem d_Ben_times_31 : decode b_Ben_times 31 = .ok (.aload_n 0, 1) := by decide +kernel
theorem d_Ben_times_32 : decode b_Ben_times 32 = .ok (.getfield 16, 3) := by decide +kernel
theorem d_Ben_times_35 : decode b_Ben_times 35 = .ok (.iload_n 3, 1) := by decide +kernel
theorem d_Ben_times_36 : decode b_Ben_times 36 = .ok (.aaload, 1) := by decide +kernel
theorem d_Ben_times_37 : decode b_Ben_times 37 = .ok (.invokevirtual 181, 3) := by decide +kernel
theorem d_Ben_times_40 : decode b_Ben_times 40 = .ok (.aload_n 0, 1) := by decide +kernel
theorem d_Ben_times_41 : decode b_Ben_times 41 = .ok (.getfield 67, 3) := by decide +kernel
theorem d_Ben_times_44 : decode b_Ben_times 44 = .ok (.aload_n 0, 1) := by decide +kernel
theorem d_Ben_times_45 : decode b_Ben_times 45 = .ok (.getfield 16, 3) := by decide +kernel
theorem d_Ben_times_48 : decode b_Ben_times 48 = .ok (.iload_n 1, 1) := by decide +kernel
theorem d_Ben_times_49 : decode b_Ben_times 49 = .ok (.aaload, 1) := by decide +kernel
theorem d_Ben_times_50 : decode b_Ben_times 50 = .ok (.invokevirtual 175, 3) := by decide +kernel
theorem d_Ben_times_53 : decode b_Ben_times 53 = .ok (.return_, 1) := by decide +kernel
theorem d_Ben_same_0 : decode b_Ben_same 0 = .ok (.iload_n 1, 1) := by decide +kernel
theorem d_Ben_same_1 : decode b_Ben_same 1 = .ok (.invokestatic 144, 3) := by decide +kernel
theorem d_Ben_same_4 : decode b_Ben_same 4 = .ok (.iload_n 2, 1) := by decide +kernel
theorem d_Ben_same_5 : decode b_Ben_same 5 = .ok (.invokestatic 144, 3) := by decide +kernel
theorem d_Ben_same_8 : decode b_Ben_same 8 = .ok (.aload_n 0, 1) := by decide +kernel
theorem d_Ben_same_9 : decode b_Ben_same 9 = .ok (.getfield 16, 3) := by decide +kernel
theorem d_Ben_same_12 : decode b_Ben_same 12 = .ok (.iload_n 1, 1) := by decide +kernel
theorem d_Ben_same_13 : decode b_Ben_same 13 = .ok (.aaload, 1) := by decide +kernel
theorem d_Ben_same_14 : decode b_Ben_same 14 = .ok (.aload_n 0, 1) := by decide +kernel
theorem d_Ben_same_15 : decode b_Ben_same 15 = .ok (.getfield 16, 3) := by decide +kernel
theorem d_Ben_same_18 : decode b_Ben_same 18 = .ok (.iload_n 2, 1) := by decide +kernel
theorem d_Ben_same_19 : decode b_Ben_same 19 = .ok (.aaload, 1) := by decide +kernel
theorem d_Ben_same_20 : decode b_Ben_same 20 = .ok (.invokevirtual 185, 3) := by decide +kernel
theorem d_Ben_same_23 : decode b_Ben_same 23 = .ok (.ireturn, 1) := by decide +kernel
theorem d_Ben_sign_0 : decode b_Ben_sign 0 = .ok (.iload_n 1, 1) := by decide +kernel
theorem d_Ben_sign_1 : decode b_Ben_sign 1 = .ok (.invokestatic 111, 3) := by decide +kernel
theorem d_Ben_sign_4 : decode b_Ben_sign 4 = .ok (.iload_n 2, 1) := by decide +kernel
theorem d_Ben_sign_5 : decode b_Ben_sign 5 = .ok (.invokestatic 111, 3) := by decide +kernel
theorem d_Ben_sign_8 : decode b_Ben_sign 8 = .ok (.iload_n 3, 1) := by decide +kernel
theorem d_Ben_sign_9 : decode b_Ben_sign 9 = .ok (.invokestatic 111, 3) := by decide +kernel
theorem d_Ben_sign_12 : decode b_Ben_sign 12 = .ok (.iload 4, 2) := by decide +kernel
theorem d_Ben_sign_14 : decode b_Ben_sign 14 = .ok (.invokestatic 111, 3) := by decide +kernel
theorem d_Ben_sign_17 : decode b_Ben_sign 17 = .ok (.iload 5, 2) := by decide +kernel
theorem d_Ben_sign_19 : decode b_Ben_sign 19 = .ok (.invokestatic 111, 3) := by decide +kernel
theorem d_Ben_sign_22 : decode b_Ben_sign 22 = .ok (.aload_n 0, 1) := by decide +kernel
theorem d_Ben_sign_23 : decode b_Ben_sign 23 = .ok (.aload_n 0, 1) := by decide +kernel
theorem d_Ben_sign_24 : decode b_Ben_sign 24 = .ok (.getfield 11, 3) := by decide +kernel
theorem d_Ben_sign_27 : decode b_Ben_sign 27 = .ok (.iload_n 3, 1) := by decide +kernel
theorem d_Ben_sign_28 : decode b_Ben_sign 28 = .ok (.aaload, 1) := by decide +kernel
theorem d_Ben_sign_29 : decode b_Ben_sign 29 = .ok (.invokevirtual 189, 3) := by decide +kernel
theorem d_Ben_sign_32 : decode b_Ben_sign 32 = .ok (.ifCond .eq 17, 3) := by decide +kernel
theorem d_Ben_sign_35 : decode b_Ben_sign 35 = .ok (.aload_n 0, 1) := by decide +kernel
theorem d_Ben_sign_36 : decode b_Ben_sign 36 = .ok (.aload_n 0, 1) := by decide +kernel
theorem d_Ben_sign_37 : decode b_Ben_sign 37 = .ok (.getfield 11, 3) := by decide +kernel
theorem d_Ben_sign_40 : decode b_Ben_sign 40 = .ok (.iload 4, 2) := by decide +kernel
theorem d_Ben_sign_42 : decode b_Ben_sign 42 = .ok (.aaload, 1) := by decide +kernel
theorem d_Ben_sign_43 : decode b_Ben_sign 43 = .ok (.invokevirtual 189, 3) := by decide +kernel
theorem d_Ben_sign_46 : decode b_Ben_sign 46 = .ok (.ifCond .ne 5, 3) := by decide +kernel
theorem d_Ben_sign_49 : decode b_Ben_sign 49 = .ok (.iconst 0, 1) := by decide +kernel
theorem d_Ben_sign_50 : decode b_Ben_sign 50 = .ok (.ireturn, 1) := by decide +kernel
theorem d_Ben_sign_51 : decode b_Ben_sign 51 = .ok (.aload_n 0, 1) := by decide +kernel
theorem d_Ben_sign_52 : decode b_Ben_sign 52 = .ok (.getfield 67, 3) := by decide +kernel
theorem d_Ben_sign_55 : decode b_Ben_sign 55 = .ok (.aload_n 0, 1) := by decide +kernel
theorem d_Ben_sign_56 : decode b_Ben_sign 56 = .ok (.getfield 11, 3) := by decide +kernel
theorem d_Ben_sign_59 : decode b_Ben_sign 59 = .ok (.iload 4, 2) := by decide +kernel
theorem d_Ben_sign_61 : decode b_Ben_sign 61 = .ok (.aaload, 1) := by decide +kernel
theorem d_Ben_sign_62 : decode b_Ben_sign 62 = .ok (.aload_n 0, 1) := by decide +kernel
theorem d_Ben_sign_63 : decode b_Ben_sign 63 = .ok (.getfield 58, 3) := by decide +kernel
theorem d_Ben_sign_66 : decode b_Ben_sign 66 = .ok (.getstatic 178, 3) := by decide +kernel
theorem d_Ben_sign_69 : decode b_Ben_sign 69 = .ok (.aload_n 0, 1) := by decide +kernel
theorem d_Ben_sign_70 : decode b_Ben_sign 70 = .ok (.getfield 58, 3) := by decide +kernel
theorem d_Ben_sign_73 : decode b_Ben_sign 73 = .ok (.invokevirtual 181, 3) := by decide +kernel
theorem d_Ben_sign_76 : decode b_Ben_sign 76 = .ok (.aload_n 0, 1) := by decide +kernel
theorem d_Ben_sign_77 : decode b_Ben_sign 77 = .ok (.getfield 67, 3) := by decide +kernel
theorem d_Ben_sign_80 : decode b_Ben_sign 80 = .ok (.aload_n 0, 1) := by decide +kernel
theorem d_Ben_sign_81 : decode b_Ben_sign 81 = .ok (.getfield 71, 3) := by decide +kernel
theorem d_Ben_sign_84 : decode b_Ben_sign 84 = .ok (.invokevirtual 175, 3) := by decide +kernel
theorem d_Ben_sign_87 : decode b_Ben_sign 87 = .ok (.aload_n 0, 1) := by decide +kernel
theorem d_Ben_sign_88 : decode b_Ben_sign 88 = .ok (.getfield 74, 3) := by decide +kernel
theorem d_Ben_sign_91 : decode b_Ben_sign 91 = .ok (.aload_n 0, 1) := by decide +kernel
theorem d_Ben_sign_92 : decode b_Ben_sign 92 = .ok (.getfield 71, 3) := by decide +kernel
theorem d_Ben_sign_95 : decode b_Ben_sign 95 = .ok (.getfield 89, 3) := by decide +kernel
theorem d_Ben_sign_98 : decode b_Ben_sign 98 = .ok (.invokestatic 192, 3) := by decide +kernel
theorem d_Ben_sign_101 : decode b_Ben_sign 101 = .ok (.aload_n 0, 1) := by decide +kernel
theorem d_Ben_sign_102 : decode b_Ben_sign 102 = .ok (.getfield 54, 3) := by decide +kernel
theorem d_Ben_sign_105 : decode b_Ben_sign 105 = .ok (.aload_n 0, 1) := by decide +kernel
theorem d_Ben_sign_106 : decode b_Ben_sign 106 = .ok (.getfield 74, 3) := by decide +kernel
theorem d_Ben_sign_109 : decode b_Ben_sign 109 = .ok (.invokevirtual 137, 3) := by decide +kernel
theorem d_Ben_sign_112 : decode b_Ben_sign 112 = .ok (.aload_n 0, 1) := by decide +kernel
theorem d_Ben_sign_113 : decode b_Ben_sign 113 = .ok (.getfield 77, 3) := by decide +kernel
theorem d_Ben_sign_116 : decode b_Ben_sign 116 = .ok (.aload_n 0, 1) := by decide +kernel
theorem d_Ben_sign_117 : decode b_Ben_sign 117 = .ok (.getfield 11, 3) := by decide +kernel
theorem d_Ben_sign_120 : decode b_Ben_sign 120 = .ok (.iload_n 3, 1) := by decide +kernel
theorem d_Ben_sign_121 : decode b_Ben_sign 121 = .ok (.aaload, 1) := by decide +kernel
theorem d_Ben_sign_122 : decode b_Ben_sign 122 = .ok (.invokestatic 95, 3) := by decide +kernel
theorem d_Ben_sign_125 : decode b_Ben_sign 125 = .ok (.aload_n 0, 1) := by decide +kernel
theorem d_Ben_sign_126 : decode b_Ben_sign 126 = .ok (.getfield 54, 3) := by decide +kernel
theorem d_Ben_sign_129 : decode b_Ben_sign 129 = .ok (.aload_n 0, 1) := by decide +kernel
theorem d_Ben_sign_130 : decode b_Ben_sign 130 = .ok (.getfield 77, 3) := by decide +kernel
theorem d_Ben_sign_133 : decode b_Ben_sign 133 = .ok (.aload_n 0, 1) := by decide +kernel
theorem d_Ben_sign_134 : decode b_Ben_sign 134 = .ok (.getfield 77, 3) := by decide +kernel
theorem d_Ben_sign_137 : decode b_Ben_sign 137 = .ok (.aload_n 0, 1) := by decide +kernel
theorem d_Ben_sign_138 : decode b_Ben_sign 138 = .ok (.getfield 74, 3) := by decide +kernel
theorem d_Ben_sign_141 : decode b_Ben_sign 141 = .ok (.invokevirtual 195, 3) := by decide +kernel
theorem d_Ben_sign_144 : decode b_Ben_sign 144 = .ok (.aload_n 0, 1) := by decide +kernel
theorem d_Ben_sign_145 : decode b_Ben_sign 145 = .ok (.getfield 80, 3) := by decide +kernel
theorem d_Ben_sign_148 : decode b_Ben_sign 148 = .ok (.aload_n 0, 1) := by decide +kernel
theorem d_Ben_sign_149 : decode b_Ben_sign 149 = .ok (.getfield 11, 3) := by decide +kernel
theorem d_Ben_sign_152 : decode b_Ben_sign 152 = .ok (.iload 5, 2) := by decide +kernel
theorem d_Ben_sign_154 : decode b_Ben_sign 154 = .ok (.aaload, 1) := by decide +kernel
theorem d_Ben_sign_155 : decode b_Ben_sign 155 = .ok (.invokestatic 95, 3) := by decide +kernel
theorem d_Ben_sign_158 : decode b_Ben_sign 158 = .ok (.aload_n 0, 1) := by decide +kernel
theorem d_Ben_sign_159 : decode b_Ben_sign 159 = .ok (.getfield 77, 3) := by decide +kernel
theorem d_Ben_sign_162 : decode b_Ben_sign 162 = .ok (.aload_n 0, 1) := by decide +kernel
theorem d_Ben_sign_163 : decode b_Ben_sign 163 = .ok (.getfield 77, 3) := by decide +kernel
theorem d_Ben_sign_166 : decode b_Ben_sign 166 = .ok (.aload_n 0, 1) := by decide +kernel
theorem d_Ben_sign_167 : decode b_Ben_sign 167 = .ok (.getfield 80, 3) := by decide +kernel
theorem d_Ben_sign_170 : decode b_Ben_sign 170 = .ok (.invokestatic 198, 3) := by decide +kernel
theorem d_Ben_sign_173 : decode b_Ben_sign 173 = .ok (.aload_n 0, 1) := by decide +kernel
theorem d_Ben_sign_174 : decode b_Ben_sign 174 = .ok (.getfield 80, 3) := by decide +kernel
theorem d_Ben_sign_177 : decode b_Ben_sign 177 = .ok (.aload_n 0, 1) := by decide +kernel
theorem d_Ben_sign_178 : decode b_Ben_sign 178 = .ok (.getfield 11, 3) := by decide +kernel
theorem d_Ben_sign_181 : decode b_Ben_sign 181 = .ok (.iload 4, 2) := by decide +kernel
theorem d_Ben_sign_183 : decode b_Ben_sign 183 = .ok (.aaload, 1) := by decide +kernel
theorem d_Ben_sign_184 : decode b_Ben_sign 184 = .ok (.invokestatic 95, 3) := by decide +kernel
theorem d_Ben_sign_187 : decode b_Ben_sign 187 = .ok (.aload_n 0, 1) := by decide +kernel
theorem d_Ben_sign_188 : decode b_Ben_sign 188 = .ok (.getfield 54, 3) := by decide +kernel
theorem d_Ben_sign_191 : decode b_Ben_sign 191 = .ok (.aload_n 0, 1) := by decide +kernel
theorem d_Ben_sign_192 : decode b_Ben_sign 192 = .ok (.getfield 80, 3) := by decide +kernel
theorem d_Ben_sign_195 : decode b_Ben_sign 195 = .ok (.aload_n 0, 1) := by decide +kernel
theorem d_Ben_sign_196 : decode b_Ben_sign 196 = .ok (.getfield 80, 3) := by decide +kernel
theorem d_Ben_sign_199 : decode b_Ben_sign 199 = .ok (.invokevirtual 201, 3) := by decide +kernel
theorem d_Ben_sign_202 : decode b_Ben_sign 202 = .ok (.aload_n 0, 1) := by decide +kernel
theorem d_Ben_sign_203 : decode b_Ben_sign 203 = .ok (.getfield 54, 3) := by decide +kernel
theorem d_Ben_sign_206 : decode b_Ben_sign 206 = .ok (.aload_n 0, 1) := by decide +kernel
theorem d_Ben_sign_207 : decode b_Ben_sign 207 = .ok (.getfield 77, 3) := by decide +kernel
theorem d_Ben_sign_210 : decode b_Ben_sign 210 = .ok (.aload_n 0, 1) := by decide +kernel
theorem d_Ben_sign_211 : decode b_Ben_sign 211 = .ok (.getfield 77, 3) := by decide +kernel
theorem d_Ben_sign_214 : decode b_Ben_sign 214 = .ok (.aload_n 0, 1) := by decide +kernel
theorem d_Ben_sign_215 : decode b_Ben_sign 215 = .ok (.getfield 80, 3) := by decide +kernel
theorem d_Ben_sign_218 : decode b_Ben_sign 218 = .ok (.invokevirtual 195, 3) := by decide +kernel
theorem d_Ben_sign_221 : decode b_Ben_sign 221 = .ok (.aload_n 0, 1) := by decide +kernel
theorem d_Ben_sign_222 : decode b_Ben_sign 222 = .ok (.getfield 54, 3) := by decide +kernel
theorem d_Ben_sign_225 : decode b_Ben_sign 225 = .ok (.aload_n 0, 1) := by decide +kernel
theorem d_Ben_sign_226 : decode b_Ben_sign 226 = .ok (.getfield 77, 3) := by decide +kernel
theorem d_Ben_sign_229 : decode b_Ben_sign 229 = .ok (.invokevirtual 137, 3) := by decide +kernel
theorem d_Ben_sign_232 : decode b_Ben_sign 232 = .ok (.aload_n 0, 1) := by decide +kernel
theorem d_Ben_sign_233 : decode b_Ben_sign 233 = .ok (.getfield 11, 3) := by decide +kernel
theorem d_Ben_sign_236 : decode b_Ben_sign 236 = .ok (.iload_n 1, 1) := by decide +kernel
theorem d_Ben_sign_237 : decode b_Ben_sign 237 = .ok (.aaload, 1) := by decide +kernel
theorem d_Ben_sign_238 : decode b_Ben_sign 238 = .ok (.aload_n 0, 1) := by decide +kernel
theorem d_Ben_sign_239 : decode b_Ben_sign 239 = .ok (.getfield 74, 3) := by decide +kernel
theorem d_Ben_sign_242 : decode b_Ben_sign 242 = .ok (.invokestatic 141, 3) := by decide +kernel
theorem d_Ben_sign_245 : decode b_Ben_sign 245 = .ok (.aload_n 0, 1) := by decide +kernel
theorem d_Ben_sign_246 : decode b_Ben_sign 246 = .ok (.getfield 11, 3) := by decide +kernel
theorem d_Ben_sign_249 : decode b_Ben_sign 249 = .ok (.iload_n 2, 1) := by decide +kernel
theorem d_Ben_sign_250 : decode b_Ben_sign 250 = .ok (.aaload, 1) := by decide +kernel
theorem d_Ben_sign_251 : decode b_Ben_sign 251 = .ok (.aload_n 0, 1) := by decide +kernel
theorem d_Ben_sign_252 : decode b_Ben_sign 252 = .ok (.getfield 77, 3) := by decide +kernel
theorem d_Ben_sign_255 : decode b_Ben_sign 255 = .ok (.invokestatic 141, 3) := by decide +kernel
theorem d_Ben_sign_258 : decode b_Ben_sign 258 = .ok (.iconst 1, 1) := by decide +kernel
theorem d_Ben_sign_259 : decode b_Ben_sign 259 = .ok (.ireturn, 1) := by decide +kernel
theorem d_Ben_verify_0 : decode b_Ben_verify 0 = .ok (.iload_n 1, 1) := by decide +kernel
theorem d_Ben_verify_1 : decode b_Ben_verify 1 = .ok (.invokestatic 144, 3) := by decide +kernel
theorem d_Ben_verify_4 : decode b_Ben_verify 4 = .ok (.iload_n 2, 1) := by decide +kernel
theorem d_Ben_verify_5 : decode b_Ben_verify 5 = .ok (.invokestatic 111, 3) := by decide +kernel
theorem d_Ben_verify_8 : decode b_Ben_verify 8 = .ok (.iload_n 3, 1) := by decide +kernel
theorem d_Ben_verify_9 : decode b_Ben_verify 9 = .ok (.invokestatic 111, 3) := by decide +kernel
theorem d_Ben_verify_12 : decode b_Ben_verify 12 = .ok (.iload 4, 2) := by decide +kernel
theorem d_Ben_verify_14 : decode b_Ben_verify 14 = .ok (.invokestatic 111, 3) := by decide +kernel
theorem d_Ben_verify_17 : decode b_Ben_verify 17 = .ok (.aload_n 0, 1) := by decide +kernel
theorem d_Ben_verify_18 : decode b_Ben_verify 18 = .ok (.getfield 16, 3) := by decide +kernel
theorem d_Ben_verify_21 : decode b_Ben_verify 21 = .ok (.iload_n 1, 1) := by decide +kernel
theorem d_Ben_verify_22 : decode b_Ben_verify 22 = .ok (.aaload, 1) := by decide +kernel
theorem d_Ben_verify_23 : decode b_Ben_verify 23 = .ok (.getfield 107, 3) := by decide +kernel
theorem d_Ben_verify_26 : decode b_Ben_verify 26 = .ok (.ifCond .ne 30, 3) := by decide +kernel
theorem d_Ben_verify_29 : decode b_Ben_verify 29 = .ok (.aload_n 0, 1) := by decide +kernel
theorem d_Ben_verify_30 : decode b_Ben_verify 30 = .ok (.aload_n 0, 1) := by decide +kernel
theorem d_Ben_verify_31 : decode b_Ben_verify 31 = .ok (.getfield 11, 3) := by decide +kernel
theorem d_Ben_verify_34 : decode b_Ben_verify 34 = .ok (.iload_n 3, 1) := by decide +kernel
theorem d_Ben_verify_35 : decode b_Ben_verify 35 = .ok (.aaload, 1) := by decide +kernel
theorem d_Ben_verify_36 : decode b_Ben_verify 36 = .ok (.invokevirtual 189, 3) := by decide +kernel
theorem d_Ben_verify_39 : decode b_Ben_verify 39 = .ok (.ifCond .eq 17, 3) := by decide +kernel
theorem d_Ben_verify_42 : decode b_Ben_verify 42 = .ok (.aload_n 0, 1) := by decide +kernel
theorem d_Ben_verify_43 : decode b_Ben_verify 43 = .ok (.aload_n 0, 1) := by decide +kernel
theorem d_Ben_verify_44 : decode b_Ben_verify 44 = .ok (.getfield 11, 3) := by decide +kernel
theorem d_Ben_verify_47 : decode b_Ben_verify 47 = .ok (.iload 4, 2) := by decide +kernel
theorem d_Ben_verify_49 : decode b_Ben_verify 49 = .ok (.aaload, 1) := by decide +kernel
theorem d_Ben_verify_50 : decode b_Ben_verify 50 = .ok (.invokevirtual 189, 3) := by decide +kernel
theorem d_Ben_verify_53 : decode b_Ben_verify 53 = .ok (.ifCond .ne 5, 3) := by decide +kernel
theorem d_Ben_verify_56 : decode b_Ben_verify 56 = .ok (.iconst 0, 1) := by decide +kernel
theorem d_Ben_verify_57 : decode b_Ben_verify 57 = .ok (.ireturn, 1) := by decide +kernel
theorem d_Ben_verify_58 : decode b_Ben_verify 58 = .ok (.aload_n 0, 1) := by decide +kernel
theorem d_Ben_verify_59 : decode b_Ben_verify 59 = .ok (.getfield 80, 3) := by decide +kernel
theorem d_Ben_verify_62 : decode b_Ben_verify 62 = .ok (.aload_n 0, 1) := by decide +kernel
theorem d_Ben_verify_63 : decode b_Ben_verify 63 = .ok (.getfield 11, 3) := by decide +kernel
theorem d_Ben_verify_66 : decode b_Ben_verify 66 = .ok (.iload 4, 2) := by decide +kernel
theorem d_Ben_verify_68 : decode b_Ben_verify 68 = .ok (.aaload, 1) := by decide +kernel
theorem d_Ben_verify_69 : decode b_Ben_verify 69 = .ok (.invokestatic 95, 3) := by decide +kernel
theorem d_Ben_verify_72 : decode b_Ben_verify 72 = .ok (.aload_n 0, 1) := by decide +kernel
theorem d_Ben_verify_73 : decode b_Ben_verify 73 = .ok (.getfield 54, 3) := by decide +kernel
theorem d_Ben_verify_76 : decode b_Ben_verify 76 = .ok (.aload_n 0, 1) := by decide +kernel
theorem d_Ben_verify_77 : decode b_Ben_verify 77 = .ok (.getfield 80, 3) := by decide +kernel
theorem d_Ben_verify_80 : decode b_Ben_verify 80 = .ok (.aload_n 0, 1) := by decide +kernel
theorem d_Ben_verify_81 : decode b_Ben_verify 81 = .ok (.getfield 80, 3) := by decide +kernel
theorem d_Ben_verify_84 : decode b_Ben_verify 84 = .ok (.invokevirtual 201, 3) := by decide +kernel
theorem d_Ben_verify_87 : decode b_Ben_verify 87 = .ok (.aload_n 0, 1) := by decide +kernel
theorem d_Ben_verify_88 : decode b_Ben_verify 88 = .ok (.aload_n 0, 1) := by decide +kernel
theorem d_Ben_verify_89 : decode b_Ben_verify 89 = .ok (.getfield 83, 3) := by decide +kernel
theorem d_Ben_verify_92 : decode b_Ben_verify 92 = .ok (.aload_n 0, 1) := by decide +kernel
theorem d_Ben_verify_93 : decode b_Ben_verify 93 = .ok (.getfield 11, 3) := by decide +kernel
theorem d_Ben_verify_96 : decode b_Ben_verify 96 = .ok (.iload_n 2, 1) := by decide +kernel
theorem d_Ben_verify_97 : decode b_Ben_verify 97 = .ok (.aaload, 1) := by decide +kernel
theorem d_Ben_verify_98 : decode b_Ben_verify 98 = .ok (.aload_n 0, 1) := by decide +kernel
theorem d_Ben_verify_99 : decode b_Ben_verify 99 = .ok (.getfield 80, 3) := by decide +kernel
theorem d_Ben_verify_102 : decode b_Ben_verify 102 = .ok (.invokevirtual 204, 3) := by decide +kernel
theorem d_Ben_verify_105 : decode b_Ben_verify 105 = .ok (.aload_n 0, 1) := by decide +kernel
theorem d_Ben_verify_106 : decode b_Ben_verify 106 = .ok (.aload_n 0, 1) := by decide +kernel
theorem d_Ben_verify_107 : decode b_Ben_verify 107 = .ok (.getfield 86, 3) := by decide +kernel
theorem d_Ben_verify_110 : decode b_Ben_verify 110 = .ok (.aload_n 0, 1) := by decide +kernel
theorem d_Ben_verify_111 : decode b_Ben_verify 111 = .ok (.getfield 11, 3) := by decide +kernel
theorem d_Ben_verify_114 : decode b_Ben_verify 114 = .ok (.iload_n 3, 1) := by decide +kernel
theorem d_Ben_verify_115 : decode b_Ben_verify 115 = .ok (.aaload, 1) := by decide +kernel
theorem d_Ben_verify_116 : decode b_Ben_verify 116 = .ok (.aload_n 0, 1) := by decide +kernel
theorem d_Ben_verify_117 : decode b_Ben_verify 117 = .ok (.getfield 80, 3) := by decide +kernel
theorem d_Ben_verify_120 : decode b_Ben_verify 120 = .ok (.invokevirtual 204, 3) := by decide +kernel
theorem d_Ben_verify_123 : decode b_Ben_verify 123 = .ok (.aload_n 0, 1) := by decide +kernel
theorem d_Ben_verify_124 : decode b_Ben_verify 124 = .ok (.getfield 67, 3) := by decide +kernel
theorem d_Ben_verify_127 : decode b_Ben_verify 127 = .ok (.aload_n 0, 1) := by decide +kernel
theorem d_Ben_verify_128 : decode b_Ben_verify 128 = .ok (.getfield 83, 3) := by decide +kernel
theorem d_Ben_verify_131 : decode b_Ben_verify 131 = .ok (.aload_n 0, 1) := by decide +kernel
theorem d_Ben_verify_132 : decode b_Ben_verify 132 = .ok (.getfield 58, 3) := by decide +kernel
theorem d_Ben_verify_135 : decode b_Ben_verify 135 = .ok (.aload_n 0, 1) := by decide +kernel
theorem d_Ben_verify_136 : decode b_Ben_verify 136 = .ok (.getfield 86, 3) := by decide +kernel
theorem d_Ben_verify_139 : decode b_Ben_verify 139 = .ok (.aload_n 0, 1) := by decide +kernel
theorem d_Ben_verify_140 : decode b_Ben_verify 140 = .ok (.getfield 16, 3) := by decide +kernel
theorem d_Ben_verify_143 : decode b_Ben_verify 143 = .ok (.iload_n 1, 1) := by decide +kernel
theorem d_Ben_verify_144 : decode b_Ben_verify 144 = .ok (.aaload, 1) := by decide +kernel
theorem d_Ben_verify_145 : decode b_Ben_verify 145 = .ok (.invokevirtual 181, 3) := by decide +kernel
theorem d_Ben_verify_148 : decode b_Ben_verify 148 = .ok (.aload_n 0, 1) := by decide +kernel
theorem d_Ben_verify_149 : decode b_Ben_verify 149 = .ok (.getfield 67, 3) := by decide +kernel
theorem d_Ben_verify_152 : decode b_Ben_verify 152 = .ok (.aload_n 0, 1) := by decide +kernel
theorem d_Ben_verify_153 : decode b_Ben_verify 153 = .ok (.getfield 71, 3) := by decide +kernel
theorem d_Ben_verify_156 : decode b_Ben_verify 156 = .ok (.invokevirtual 175, 3) := by decide +kernel
theorem d_Ben_verify_159 : decode b_Ben_verify 159 = .ok (.aload_n 0, 1) := by decide +kernel
theorem d_Ben_verify_160 : decode b_Ben_verify 160 = .ok (.getfield 71, 3) := by decide +kernel
theorem d_Ben_verify_163 : decode b_Ben_verify 163 = .ok (.getfield 107, 3) := by decide +kernel
theorem d_Ben_verify_166 : decode b_Ben_verify 166 = .ok (.ifCond .eq 5, 3) := by decide +kernel
theorem d_Ben_verify_169 : decode b_Ben_verify 169 = .ok (.iconst 0, 1) := by decide +kernel
theorem d_Ben_verify_170 : decode b_Ben_verify 170 = .ok (.ireturn, 1) := by decide +kernel
theorem d_Ben_verify_171 : decode b_Ben_verify 171 = .ok (.aload_n 0, 1) := by decide +kernel
theorem d_Ben_verify_172 : decode b_Ben_verify 172 = .ok (.getfield 74, 3) := by decide +kernel
theorem d_Ben_verify_175 : decode b_Ben_verify 175 = .ok (.aload_n 0, 1) := by decide +kernel
theorem d_Ben_verify_176 : decode b_Ben_verify 176 = .ok (.getfield 11, 3) := by decide +kernel
theorem d_Ben_verify_179 : decode b_Ben_verify 179 = .ok (.iload_n 3, 1) := by decide +kernel
theorem d_Ben_verify_180 : decode b_Ben_verify 180 = .ok (.aaload, 1) := by decide +kernel
theorem d_Ben_verify_181 : decode b_Ben_verify 181 = .ok (.invokestatic 95, 3) := by decide +kernel
theorem d_Ben_verify_184 : decode b_Ben_verify 184 = .ok (.aload_n 0, 1) := by decide +kernel
theorem d_Ben_verify_185 : decode b_Ben_verify 185 = .ok (.getfield 54, 3) := by decide +kernel
theorem d_Ben_verify_188 : decode b_Ben_verify 188 = .ok (.aload_n 0, 1) := by decide +kernel
theorem d_Ben_verify_189 : decode b_Ben_verify 189 = .ok (.getfield 71, 3) := by decide +kernel
theorem d_Ben_verify_192 : decode b_Ben_verify 192 = .ok (.getfield 89, 3) := by decide +kernel
theorem d_Ben_verify_195 : decode b_Ben_verify 195 = .ok (.aload_n 0, 1) := by decide +kernel
theorem d_Ben_verify_196 : decode b_Ben_verify 196 = .ok (.getfield 74, 3) := by decide +kernel
theorem d_Ben_verify_199 : decode b_Ben_verify 199 = .ok (.invokevirtual 207, 3) := by decide +kernel
theorem d_Ben_verify_202 : decode b_Ben_verify 202 = .ok (.ireturn, 1) := by decide +kernel
theorem d_Ben_needNumber_0 : decode b_Ben_needNumber 0 = .ok (.iload_n 0, 1) := by decide +kernel
theorem d_Ben_needNumber_1 : decode b_Ben_needNumber 1 = .ok (.ifCond .lt 9, 3) := by decide +kernel
theorem d_Ben_needNumber_4 : decode b_Ben_needNumber 4 = .ok (.iload_n 0, 1) := by decide +kernel
theorem d_Ben_needNumber_5 : decode b_Ben_needNumber 5 = .ok (.bipush 8, 2) := by decide +kernel
theorem d_Ben_needNumber_7 : decode b_Ben_needNumber 7 = .ok (.if_icmp .lt 13, 3) := by decide +kernel
theorem d_Ben_needNumber_10 : decode b_Ben_needNumber 10 = .ok (.new 210, 3) := by decide +kernel
theorem d_Ben_needNumber_13 : decode b_Ben_needNumber 13 = .ok (.dup, 1) := by decide +kernel
theorem d_Ben_needNumber_14 : decode b_Ben_needNumber 14 = .ok (.ldc 212, 2) := by decide +kernel
theorem d_Ben_needNumber_16 : decode b_Ben_needNumber 16 = .ok (.invokespecial 214, 3) := by decide +kernel
theorem d_Ben_needNumber_19 : decode b_Ben_needNumber 19 = .ok (.athrow, 1) := by decide +kernel
theorem d_Ben_needNumber_20 : decode b_Ben_needNumber 20 = .ok (.return_, 1) := by decide +kernel
theorem d_Ben_needPart_0 : decode b_Ben_needPart 0 = .ok (.iload_n 0, 1) := by decide +kernel
theorem d_Ben_needPart_1 : decode b_Ben_needPart 1 = .ok (.ifCond .lt 8, 3) := by decide +kernel
theorem d_Ben_needPart_4 : decode b_Ben_needPart 4 = .ok (.iload_n 0, 1) := by decide +kernel
theorem d_Ben_needPart_5 : decode b_Ben_needPart 5 = .ok (.iconst 4, 1) := by decide +kernel
theorem d_Ben_needPart_6 : decode b_Ben_needPart 6 = .ok (.if_icmp .lt 13, 3) := by decide +kernel
theorem d_Ben_needPart_9 : decode b_Ben_needPart 9 = .ok (.new 210, 3) := by decide +kernel
theorem d_Ben_needPart_12 : decode b_Ben_needPart 12 = .ok (.dup, 1) := by decide +kernel
theorem d_Ben_needPart_13 : decode b_Ben_needPart 13 = .ok (.ldc 217, 2) := by decide +kernel
theorem d_Ben_needPart_15 : decode b_Ben_needPart 15 = .ok (.invokespecial 214, 3) := by decide +kernel
theorem d_Ben_needPart_18 : decode b_Ben_needPart 18 = .ok (.athrow, 1) := by decide +kernel
theorem d_Ben_needPart_19 : decode b_Ben_needPart 19 = .ok (.return_, 1) := by decide +kernel
theorem d_Ben_needPoint_0 : decode b_Ben_needPoint 0 = .ok (.iload_n 0, 1) := by decide +kernel
theorem d_Ben_needPoint_1 : decode b_Ben_needPoint 1 = .ok (.ifCond .lt 8, 3) := by decide +kernel
theorem d_Ben_needPoint_4 : decode b_Ben_needPoint 4 = .ok (.iload_n 0, 1) := by decide +kernel
theorem d_Ben_needPoint_5 : decode b_Ben_needPoint 5 = .ok (.iconst 4, 1) := by decide +kernel
theorem d_Ben_needPoint_6 : decode b_Ben_needPoint 6 = .ok (.if_icmp .lt 13, 3) := by decide +kernel
theorem d_Ben_needPoint_9 : decode b_Ben_needPoint 9 = .ok (.new 210, 3) := by decide +kernel
theorem d_Ben_needPoint_12 : decode b_Ben_needPoint 12 = .ok (.dup, 1) := by decide +kernel
theorem d_Ben_needPoint_13 : decode b_Ben_needPoint 13 = .ok (.ldc 219, 2) := by decide +kernel
theorem d_Ben_needPoint_15 : decode b_Ben_needPoint 15 = .ok (.invokespecial 214, 3) := by decide +kernel
theorem d_Ben_needPoint_18 : decode b_Ben_needPoint 18 = .ok (.athrow, 1) := by decide +kernel
theorem d_Ben_needPoint_19 : decode b_Ben_needPoint 19 = .ok (.return_, 1) := by decide +kernel
theorem d_Ben_needWork_0 : decode b_Ben_needWork 0 = .ok (.iload_n 0, 1) := by decide +kernel
theorem d_Ben_needWork_1 : decode b_Ben_needWork 1 = .ok (.ifCond .lt 9, 3) := by decide +kernel
theorem d_Ben_needWork_4 : decode b_Ben_needWork 4 = .ok (.iload_n 0, 1) := by decide +kernel
theorem d_Ben_needWork_5 : decode b_Ben_needWork 5 = .ok (.bipush 8, 2) := by decide +kernel
theorem d_Ben_needWork_7 : decode b_Ben_needWork 7 = .ok (.if_icmp .lt 13, 3) := by decide +kernel
theorem d_Ben_needWork_10 : decode b_Ben_needWork 10 = .ok (.new 210, 3) := by decide +kernel
theorem d_Ben_needWork_13 : decode b_Ben_needWork 13 = .ok (.dup, 1) := by decide +kernel
theorem d_Ben_needWork_14 : decode b_Ben_needWork 14 = .ok (.ldc 221, 2) := by decide +kernel
theorem d_Ben_needWork_16 : decode b_Ben_needWork 16 = .ok (.invokespecial 214, 3) := by decide +kernel
theorem d_Ben_needWork_19 : decode b_Ben_needWork 19 = .ok (.athrow, 1) := by decide +kernel
theorem d_Ben_needWork_20 : decode b_Ben_needWork 20 = .ok (.return_, 1) := by decide +kernel
theorem d_Ben_workOnLeft_0 : decode b_Ben_workOnLeft 0 = .ok (.iload_n 1, 1) := by decide +kernel
theorem d_Ben_workOnLeft_1 : decode b_Ben_workOnLeft 1 = .ok (.ifCond .ne 21, 3) := by decide +kernel
theorem d_Ben_workOnLeft_4 : decode b_Ben_workOnLeft 4 = .ok (.aload_n 0, 1) := by decide +kernel
theorem d_Ben_workOnLeft_5 : decode b_Ben_workOnLeft 5 = .ok (.getfield 74, 3) := by decide +kernel
theorem d_Ben_workOnLeft_8 : decode b_Ben_workOnLeft 8 = .ok (.aload_n 0, 1) := by decide +kernel
theorem d_Ben_workOnLeft_9 : decode b_Ben_workOnLeft 9 = .ok (.getfield 74, 3) := by decide +kernel
theorem d_Ben_workOnLeft_12 : decode b_Ben_workOnLeft 12 = .ok (.aload_n 0, 1) := by decide +kernel
theorem d_Ben_workOnLeft_13 : decode b_Ben_workOnLeft 13 = .ok (.getfield 77, 3) := by decide +kernel
theorem d_Ben_workOnLeft_16 : decode b_Ben_workOnLeft 16 = .ok (.invokestatic 198, 3) := by decide +kernel
theorem d_Ben_workOnLeft_19 : decode b_Ben_workOnLeft 19 = .ok (.goto 62, 3) := by decide +kernel
theorem d_Ben_workOnLeft_22 : decode b_Ben_workOnLeft 22 = .ok (.iload_n 1, 1) := by decide +kernel
theorem d_Ben_workOnLeft_23 : decode b_Ben_workOnLeft 23 = .ok (.iconst 1, 1) := by decide +kernel
theorem d_Ben_workOnLeft_24 : decode b_Ben_workOnLeft 24 = .ok (.if_icmp .ne 21, 3) := by decide +kernel
theorem d_Ben_workOnLeft_27 : decode b_Ben_workOnLeft 27 = .ok (.aload_n 0, 1) := by decide +kernel
theorem d_Ben_workOnLeft_28 : decode b_Ben_workOnLeft 28 = .ok (.getfield 74, 3) := by decide +kernel
theorem d_Ben_workOnLeft_31 : decode b_Ben_workOnLeft 31 = .ok (.aload_n 0, 1) := by decide +kernel
theorem d_Ben_workOnLeft_32 : decode b_Ben_workOnLeft 32 = .ok (.getfield 74, 3) := by decide +kernel
theorem d_Ben_workOnLeft_35 : decode b_Ben_workOnLeft 35 = .ok (.aload_n 0, 1) := by decide +kernel
theorem d_Ben_workOnLeft_36 : decode b_Ben_workOnLeft 36 = .ok (.getfield 77, 3) := by decide +kernel
theorem d_Ben_workOnLeft_39 : decode b_Ben_workOnLeft 39 = .ok (.invokestatic 223, 3) := by decide +kernel
theorem d_Ben_workOnLeft_42 : decode b_Ben_workOnLeft 42 = .ok (.goto 39, 3) := by decide +kernel
theorem d_Ben_workOnLeft_45 : decode b_Ben_workOnLeft 45 = .ok (.iload_n 1, 1) := by decide +kernel
theorem d_Ben_workOnLeft_46 : decode b_Ben_workOnLeft 46 = .ok (.iconst 2, 1) := by decide +kernel
theorem d_Ben_workOnLeft_47 : decode b_Ben_workOnLeft 47 = .ok (.if_icmp .ne 22, 3) := by decide +kernel
theorem d_Ben_workOnLeft_50 : decode b_Ben_workOnLeft 50 = .ok (.aload_n 2, 1) := by decide +kernel
theorem d_Ben_workOnLeft_51 : decode b_Ben_workOnLeft 51 = .ok (.aload_n 0, 1) := by decide +kernel
theorem d_Ben_workOnLeft_52 : decode b_Ben_workOnLeft 52 = .ok (.getfield 74, 3) := by decide +kernel
theorem d_Ben_workOnLeft_55 : decode b_Ben_workOnLeft 55 = .ok (.aload_n 0, 1) := by decide +kernel
theorem d_Ben_workOnLeft_56 : decode b_Ben_workOnLeft 56 = .ok (.getfield 74, 3) := by decide +kernel
theorem d_Ben_workOnLeft_59 : decode b_Ben_workOnLeft 59 = .ok (.aload_n 0, 1) := by decide +kernel
theorem d_Ben_workOnLeft_60 : decode b_Ben_workOnLeft 60 = .ok (.getfield 77, 3) := by decide +kernel
theorem d_Ben_workOnLeft_63 : decode b_Ben_workOnLeft 63 = .ok (.invokevirtual 195, 3) := by decide +kernel
theorem d_Ben_workOnLeft_66 : decode b_Ben_workOnLeft 66 = .ok (.goto 15, 3) := by decide +kernel
theorem d_Ben_workOnLeft_69 : decode b_Ben_workOnLeft 69 = .ok (.aload_n 2, 1) := by decide +kernel
theorem d_Ben_workOnLeft_70 : decode b_Ben_workOnLeft 70 = .ok (.aload_n 0, 1) := by decide +kernel
theorem d_Ben_workOnLeft_71 : decode b_Ben_workOnLeft 71 = .ok (.getfield 74, 3) := by decide +kernel
theorem d_Ben_workOnLeft_74 : decode b_Ben_workOnLeft 74 = .ok (.aload_n 0, 1) := by decide +kernel
theorem d_Ben_workOnLeft_75 : decode b_Ben_workOnLeft 75 = .ok (.getfield 74, 3) := by decide +kernel
theorem d_Ben_workOnLeft_78 : decode b_Ben_workOnLeft 78 = .ok (.invokevirtual 201, 3) := by decide +kernel
theorem d_Ben_workOnLeft_81 : decode b_Ben_workOnLeft 81 = .ok (.return_, 1) := by decide +kernel
theorem d_Ben_isFromOneBelowN_0 : decode b_Ben_isFromOneBelowN 0 = .ok (.aload_n 0, 1) := by decide +kernel
theorem d_Ben_isFromOneBelowN_1 : decode b_Ben_isFromOneBelowN 1 = .ok (.getfield 54, 3) := by decide +kernel
theorem d_Ben_isFromOneBelowN_4 : decode b_Ben_isFromOneBelowN 4 = .ok (.aload_n 1, 1) := by decide +kernel
theorem d_Ben_isFromOneBelowN_5 : decode b_Ben_isFromOneBelowN 5 = .ok (.invokevirtual 126, 3) := by decide +kernel
theorem d_Ben_isFromOneBelowN_8 : decode b_Ben_isFromOneBelowN 8 = .ok (.ifCond .eq 14, 3) := by decide +kernel
theorem d_Ben_isFromOneBelowN_11 : decode b_Ben_isFromOneBelowN 11 = .ok (.aload_n 1, 1) := by decide +kernel
theorem d_Ben_isFromOneBelowN_12 : decode b_Ben_isFromOneBelowN 12 = .ok (.invokestatic 130, 3) := by decide +kernel
theorem d_Ben_isFromOneBelowN_15 : decode b_Ben_isFromOneBelowN 15 = .ok (.ifCond .ne 7, 3) := by decide +kernel
theorem d_Ben_isFromOneBelowN_18 : decode b_Ben_isFromOneBelowN 18 = .ok (.iconst 1, 1) := by decide +kernel
theorem d_Ben_isFromOneBelowN_19 : decode b_Ben_isFromOneBelowN 19 = .ok (.goto 4, 3) := by decide +kernel
theorem d_Ben_isFromOneBelowN_22 : decode b_Ben_isFromOneBelowN 22 = .ok (.iconst 0, 1) := by decide +kernel
theorem d_Ben_isFromOneBelowN_23 : decode b_Ben_isFromOneBelowN 23 = .ok (.ireturn, 1) := by decide +kernel
theorem d_Ben_squareOfY_0 : decode b_Ben_squareOfY 0 = .ok (.aload_n 0, 1) := by decide +kernel
theorem d_Ben_squareOfY_1 : decode b_Ben_squareOfY 1 = .ok (.getfield 38, 3) := by decide +kernel
theorem d_Ben_squareOfY_4 : decode b_Ben_squareOfY 4 = .ok (.aload_n 1, 1) := by decide +kernel
theorem d_Ben_squareOfY_5 : decode b_Ben_squareOfY 5 = .ok (.aload_n 2, 1) := by decide +kernel
theorem d_Ben_squareOfY_6 : decode b_Ben_squareOfY 6 = .ok (.aload_n 2, 1) := by decide +kernel
theorem d_Ben_squareOfY_7 : decode b_Ben_squareOfY 7 = .ok (.invokevirtual 195, 3) := by decide +kernel
theorem d_Ben_squareOfY_10 : decode b_Ben_squareOfY 10 = .ok (.aload_n 0, 1) := by decide +kernel
theorem d_Ben_squareOfY_11 : decode b_Ben_squareOfY 11 = .ok (.getfield 38, 3) := by decide +kernel
theorem d_Ben_squareOfY_14 : decode b_Ben_squareOfY 14 = .ok (.aload_n 1, 1) := by decide +kernel
theorem d_Ben_squareOfY_15 : decode b_Ben_squareOfY 15 = .ok (.aload_n 1, 1) := by decide +kernel
theorem d_Ben_squareOfY_16 : decode b_Ben_squareOfY 16 = .ok (.aload_n 2, 1) := by decide +kernel
theorem d_Ben_squareOfY_17 : decode b_Ben_squareOfY 17 = .ok (.invokevirtual 195, 3) := by decide +kernel
theorem d_Ben_squareOfY_20 : decode b_Ben_squareOfY 20 = .ok (.aload_n 1, 1) := by decide +kernel
theorem d_Ben_squareOfY_21 : decode b_Ben_squareOfY 21 = .ok (.iconst 0, 1) := by decide +kernel
theorem d_Ben_squareOfY_22 : decode b_Ben_squareOfY 22 = .ok (.dup2, 1) := by decide +kernel
theorem d_Ben_squareOfY_23 : decode b_Ben_squareOfY 23 = .ok (.laload, 1) := by decide +kernel
theorem d_Ben_squareOfY_24 : decode b_Ben_squareOfY 24 = .ok (.ldc2_w 226, 3) := by decide +kernel
theorem d_Ben_squareOfY_27 : decode b_Ben_squareOfY 27 = .ok (.ladd, 1) := by decide +kernel
theorem d_Ben_squareOfY_28 : decode b_Ben_squareOfY 28 = .ok (.lastore, 1) := by decide +kernel
theorem d_Ben_squareOfY_29 : decode b_Ben_squareOfY 29 = .ok (.return_, 1) := by decide +kernel
theorem d_Ben_isRoot_0 : decode b_Ben_isRoot 0 = .ok (.aload_n 0, 1) := by decide +kernel
theorem d_Ben_isRoot_1 : decode b_Ben_isRoot 1 = .ok (.getfield 38, 3) := by decide +kernel
theorem d_Ben_isRoot_4 : decode b_Ben_isRoot 4 = .ok (.aload_n 0, 1) := by decide +kernel
theorem d_Ben_isRoot_5 : decode b_Ben_isRoot 5 = .ok (.getfield 77, 3) := by decide +kernel
theorem d_Ben_isRoot_8 : decode b_Ben_isRoot 8 = .ok (.aload_n 1, 1) := by decide +kernel
theorem d_Ben_isRoot_9 : decode b_Ben_isRoot 9 = .ok (.aload_n 1, 1) := by decide +kernel
theorem d_Ben_isRoot_10 : decode b_Ben_isRoot 10 = .ok (.invokevirtual 195, 3) := by decide +kernel
theorem d_Ben_isRoot_13 : decode b_Ben_isRoot 13 = .ok (.aload_n 0, 1) := by decide +kernel
theorem d_Ben_isRoot_14 : decode b_Ben_isRoot 14 = .ok (.getfield 38, 3) := by decide +kernel
theorem d_Ben_isRoot_17 : decode b_Ben_isRoot 17 = .ok (.aload_n 0, 1) := by decide +kernel
theorem d_Ben_isRoot_18 : decode b_Ben_isRoot 18 = .ok (.getfield 77, 3) := by decide +kernel
theorem d_Ben_isRoot_21 : decode b_Ben_isRoot 21 = .ok (.aload_n 2, 1) := by decide +kernel
theorem d_Ben_isRoot_22 : decode b_Ben_isRoot 22 = .ok (.invokevirtual 207, 3) := by decide +kernel
theorem d_Ben_isRoot_25 : decode b_Ben_isRoot 25 = .ok (.ireturn, 1) := by decide +kernel
theorem d_Ben_makeParity_0 : decode b_Ben_makeParity 0 = .ok (.aload_n 0, 1) := by decide +kernel
theorem d_Ben_makeParity_1 : decode b_Ben_makeParity 1 = .ok (.getfield 38, 3) := by decide +kernel
theorem d_Ben_makeParity_4 : decode b_Ben_makeParity 4 = .ok (.aload_n 1, 1) := by decide +kernel
theorem d_Ben_makeParity_5 : decode b_Ben_makeParity 5 = .ok (.invokevirtual 137, 3) := by decide +kernel
theorem d_Ben_makeParity_8 : decode b_Ben_makeParity 8 = .ok (.aload_n 1, 1) := by decide +kernel
theorem d_Ben_makeParity_9 : decode b_Ben_makeParity 9 = .ok (.iconst 0, 1) := by decide +kernel
theorem d_Ben_makeParity_10 : decode b_Ben_makeParity 10 = .ok (.laload, 1) := by decide +kernel
theorem d_Ben_makeParity_11 : decode b_Ben_makeParity 11 = .ok (.lconst 1, 1) := by decide +kernel
theorem d_Ben_makeParity_12 : decode b_Ben_makeParity 12 = .ok (.land, 1) := by decide +kernel
theorem d_Ben_makeParity_13 : decode b_Ben_makeParity 13 = .ok (.lconst 0, 1) := by decide +kernel
theorem d_Ben_makeParity_14 : decode b_Ben_makeParity 14 = .ok (.lcmp, 1) := by decide +kernel
theorem d_Ben_makeParity_15 : decode b_Ben_makeParity 15 = .ok (.ifCond .eq 7, 3) := by decide +kernel
theorem d_Ben_makeParity_18 : decode b_Ben_makeParity 18 = .ok (.iconst 1, 1) := by decide +kernel
theorem d_Ben_makeParity_19 : decode b_Ben_makeParity 19 = .ok (.goto 4, 3) := by decide +kernel
theorem d_Ben_makeParity_22 : decode b_Ben_makeParity 22 = .ok (.iconst 0, 1) := by decide +kernel
theorem d_Ben_makeParity_23 : decode b_Ben_makeParity 23 = .ok (.istore_n 3, 1) := by decide +kernel
theorem d_Ben_makeParity_24 : decode b_Ben_makeParity 24 = .ok (.iload_n 3, 1) := by decide +kernel
theorem d_Ben_makeParity_25 : decode b_Ben_makeParity 25 = .ok (.iload_n 2, 1) := by decide +kernel
theorem d_Ben_makeParity_26 : decode b_Ben_makeParity 26 = .ok (.if_icmp .eq 30, 3) := by decide +kernel
theorem d_Ben_makeParity_29 : decode b_Ben_makeParity 29 = .ok (.aload_n 0, 1) := by decide +kernel
theorem d_Ben_makeParity_30 : decode b_Ben_makeParity 30 = .ok (.getfield 77, 3) := by decide +kernel
theorem d_Ben_makeParity_33 : decode b_Ben_makeParity 33 = .ok (.getstatic 178, 3) := by decide +kernel
theorem d_Ben_makeParity_36 : decode b_Ben_makeParity 36 = .ok (.invokestatic 95, 3) := by decide +kernel
theorem d_Ben_makeParity_39 : decode b_Ben_makeParity 39 = .ok (.aload_n 1, 1) := by decide +kernel
theorem d_Ben_makeParity_40 : decode b_Ben_makeParity 40 = .ok (.aload_n 0, 1) := by decide +kernel
theorem d_Ben_makeParity_41 : decode b_Ben_makeParity 41 = .ok (.getfield 77, 3) := by decide +kernel
theorem d_Ben_makeParity_44 : decode b_Ben_makeParity 44 = .ok (.aload_n 1, 1) := by decide +kernel
theorem d_Ben_makeParity_45 : decode b_Ben_makeParity 45 = .ok (.invokestatic 223, 3) := by decide +kernel
theorem d_Ben_makeParity_48 : decode b_Ben_makeParity 48 = .ok (.aload_n 0, 1) := by decide +kernel
theorem d_Ben_makeParity_49 : decode b_Ben_makeParity 49 = .ok (.getfield 38, 3) := by decide +kernel
theorem d_Ben_makeParity_52 : decode b_Ben_makeParity 52 = .ok (.aload_n 1, 1) := by decide +kernel
theorem d_Ben_makeParity_53 : decode b_Ben_makeParity 53 = .ok (.invokevirtual 137, 3) := by decide +kernel
theorem d_Ben_makeParity_56 : decode b_Ben_makeParity 56 = .ok (.return_, 1) := by decide +kernel
theorem d_Ben_productModuloN_0 : decode b_Ben_productModuloN 0 = .ok (.aload_n 0, 1) := by decide +kernel
theorem d_Ben_productModuloN_1 : decode b_Ben_productModuloN 1 = .ok (.getfield 74, 3) := by decide +kernel
theorem d_Ben_productModuloN_4 : decode b_Ben_productModuloN 4 = .ok (.aload_n 2, 1) := by decide +kernel
theorem d_Ben_productModuloN_5 : decode b_Ben_productModuloN 5 = .ok (.invokestatic 95, 3) := by decide +kernel
theorem d_Ben_productModuloN_8 : decode b_Ben_productModuloN 8 = .ok (.aload_n 0, 1) := by decide +kernel
theorem d_Ben_productModuloN_9 : decode b_Ben_productModuloN 9 = .ok (.getfield 54, 3) := by decide +kernel
theorem d_Ben_productModuloN_12 : decode b_Ben_productModuloN 12 = .ok (.aload_n 0, 1) := by decide +kernel
theorem d_Ben_productModuloN_13 : decode b_Ben_productModuloN 13 = .ok (.getfield 74, 3) := by decide +kernel
theorem d_Ben_productModuloN_16 : decode b_Ben_productModuloN 16 = .ok (.aload_n 0, 1) := by decide +kernel
theorem d_Ben_productModuloN_17 : decode b_Ben_productModuloN 17 = .ok (.getfield 74, 3) := by decide +kernel
theorem d_Ben_productModuloN_20 : decode b_Ben_productModuloN 20 = .ok (.aload_n 3, 1) := by decide +kernel
theorem d_Ben_productModuloN_21 : decode b_Ben_productModuloN 21 = .ok (.invokevirtual 195, 3) := by decide +kernel
theorem d_Ben_productModuloN_24 : decode b_Ben_productModuloN 24 = .ok (.aload_n 0, 1) := by decide +kernel
theorem d_Ben_productModuloN_25 : decode b_Ben_productModuloN 25 = .ok (.getfield 54, 3) := by decide +kernel
theorem d_Ben_productModuloN_28 : decode b_Ben_productModuloN 28 = .ok (.aload_n 0, 1) := by decide +kernel
theorem d_Ben_productModuloN_29 : decode b_Ben_productModuloN 29 = .ok (.getfield 74, 3) := by decide +kernel
theorem d_Ben_productModuloN_32 : decode b_Ben_productModuloN 32 = .ok (.invokevirtual 137, 3) := by decide +kernel
theorem d_Ben_productModuloN_35 : decode b_Ben_productModuloN 35 = .ok (.aload_n 1, 1) := by decide +kernel
theorem d_Ben_productModuloN_36 : decode b_Ben_productModuloN 36 = .ok (.aload_n 0, 1) := by decide +kernel
theorem d_Ben_productModuloN_37 : decode b_Ben_productModuloN 37 = .ok (.getfield 74, 3) := by decide +kernel
theorem d_Ben_productModuloN_40 : decode b_Ben_productModuloN 40 = .ok (.invokestatic 141, 3) := by decide +kernel
theorem d_Ben_productModuloN_43 : decode b_Ben_productModuloN 43 = .ok (.return_, 1) := by decide +kernel
