/-! decode rows: written by wip/gen/names.py -/
theorem d_Mdl_doubled_0 : decode b_Mdl_doubled 0 = .ok (.aload_n 1, 1) := by decide +kernel
theorem d_Mdl_doubled_1 : decode b_Mdl_doubled 1 = .ok (.getfield 1, 3) := by decide +kernel
theorem d_Mdl_doubled_4 : decode b_Mdl_doubled 4 = .ok (.invokestatic 7, 3) := by decide +kernel
theorem d_Mdl_doubled_7 : decode b_Mdl_doubled 7 = .ok (.ifCond .eq 4, 3) := by decide +kernel
theorem d_Mdl_doubled_10 : decode b_Mdl_doubled 10 = .ok (.return_, 1) := by decide +kernel
theorem d_Mdl_doubled_11 : decode b_Mdl_doubled 11 = .ok (.aload_n 0, 1) := by decide +kernel
theorem d_Mdl_doubled_12 : decode b_Mdl_doubled 12 = .ok (.getfield 13, 3) := by decide +kernel
theorem d_Mdl_doubled_15 : decode b_Mdl_doubled 15 = .ok (.aload_n 1, 1) := by decide +kernel
theorem d_Mdl_doubled_16 : decode b_Mdl_doubled 16 = .ok (.getfield 19, 3) := by decide +kernel
theorem d_Mdl_doubled_19 : decode b_Mdl_doubled 19 = .ok (.aload_n 1, 1) := by decide +kernel
theorem d_Mdl_doubled_20 : decode b_Mdl_doubled 20 = .ok (.getfield 19, 3) := by decide +kernel
theorem d_Mdl_doubled_23 : decode b_Mdl_doubled 23 = .ok (.aload_n 0, 1) := by decide +kernel
theorem d_Mdl_doubled_24 : decode b_Mdl_doubled 24 = .ok (.getfield 22, 3) := by decide +kernel
theorem d_Mdl_doubled_27 : decode b_Mdl_doubled 27 = .ok (.invokevirtual 25, 3) := by decide +kernel
theorem d_Mdl_doubled_30 : decode b_Mdl_doubled 30 = .ok (.aload_n 0, 1) := by decide +kernel
theorem d_Mdl_doubled_31 : decode b_Mdl_doubled 31 = .ok (.getfield 13, 3) := by decide +kernel
theorem d_Mdl_doubled_34 : decode b_Mdl_doubled 34 = .ok (.aload_n 1, 1) := by decide +kernel
theorem d_Mdl_doubled_35 : decode b_Mdl_doubled 35 = .ok (.getfield 29, 3) := by decide +kernel
theorem d_Mdl_doubled_38 : decode b_Mdl_doubled 38 = .ok (.aload_n 0, 1) := by decide +kernel
theorem d_Mdl_doubled_39 : decode b_Mdl_doubled 39 = .ok (.getfield 22, 3) := by decide +kernel
theorem d_Mdl_doubled_42 : decode b_Mdl_doubled 42 = .ok (.aload_n 0, 1) := by decide +kernel
theorem d_Mdl_doubled_43 : decode b_Mdl_doubled 43 = .ok (.getfield 32, 3) := by decide +kernel
theorem d_Mdl_doubled_46 : decode b_Mdl_doubled 46 = .ok (.invokevirtual 25, 3) := by decide +kernel
theorem d_Mdl_doubled_49 : decode b_Mdl_doubled 49 = .ok (.aload_n 0, 1) := by decide +kernel
theorem d_Mdl_doubled_50 : decode b_Mdl_doubled 50 = .ok (.getfield 13, 3) := by decide +kernel
theorem d_Mdl_doubled_53 : decode b_Mdl_doubled 53 = .ok (.aload_n 0, 1) := by decide +kernel
theorem d_Mdl_doubled_54 : decode b_Mdl_doubled 54 = .ok (.getfield 32, 3) := by decide +kernel
theorem d_Mdl_doubled_57 : decode b_Mdl_doubled 57 = .ok (.aload_n 0, 1) := by decide +kernel
theorem d_Mdl_doubled_58 : decode b_Mdl_doubled 58 = .ok (.getfield 32, 3) := by decide +kernel
theorem d_Mdl_doubled_61 : decode b_Mdl_doubled 61 = .ok (.aload_n 0, 1) := by decide +kernel
theorem d_Mdl_doubled_62 : decode b_Mdl_doubled 62 = .ok (.getfield 32, 3) := by decide +kernel
theorem d_Mdl_doubled_65 : decode b_Mdl_doubled 65 = .ok (.invokevirtual 35, 3) := by decide +kernel
theorem d_Mdl_doubled_68 : decode b_Mdl_doubled 68 = .ok (.aload_n 0, 1) := by decide +kernel
theorem d_Mdl_doubled_69 : decode b_Mdl_doubled 69 = .ok (.getfield 13, 3) := by decide +kernel
theorem d_Mdl_doubled_72 : decode b_Mdl_doubled 72 = .ok (.aload_n 0, 1) := by decide +kernel
theorem d_Mdl_doubled_73 : decode b_Mdl_doubled 73 = .ok (.getfield 32, 3) := by decide +kernel
theorem d_Mdl_doubled_76 : decode b_Mdl_doubled 76 = .ok (.aload_n 0, 1) := by decide +kernel
theorem d_Mdl_doubled_77 : decode b_Mdl_doubled 77 = .ok (.getfield 32, 3) := by decide +kernel
theorem d_Mdl_doubled_80 : decode b_Mdl_doubled 80 = .ok (.aload_n 0, 1) := by decide +kernel
theorem d_Mdl_doubled_81 : decode b_Mdl_doubled 81 = .ok (.getfield 32, 3) := by decide +kernel
theorem d_Mdl_doubled_84 : decode b_Mdl_doubled 84 = .ok (.invokevirtual 35, 3) := by decide +kernel
theorem d_Mdl_doubled_87 : decode b_Mdl_doubled 87 = .ok (.aload_n 0, 1) := by decide +kernel
theorem d_Mdl_doubled_88 : decode b_Mdl_doubled 88 = .ok (.getfield 13, 3) := by decide +kernel
theorem d_Mdl_doubled_91 : decode b_Mdl_doubled 91 = .ok (.aload_n 0, 1) := by decide +kernel
theorem d_Mdl_doubled_92 : decode b_Mdl_doubled 92 = .ok (.getfield 22, 3) := by decide +kernel
theorem d_Mdl_doubled_95 : decode b_Mdl_doubled 95 = .ok (.aload_n 0, 1) := by decide +kernel
theorem d_Mdl_doubled_96 : decode b_Mdl_doubled 96 = .ok (.getfield 22, 3) := by decide +kernel
theorem d_Mdl_doubled_99 : decode b_Mdl_doubled 99 = .ok (.aload_n 0, 1) := by decide +kernel
theorem d_Mdl_doubled_100 : decode b_Mdl_doubled 100 = .ok (.getfield 38, 3) := by decide +kernel
theorem d_Mdl_doubled_103 : decode b_Mdl_doubled 103 = .ok (.invokevirtual 25, 3) := by decide +kernel
theorem d_Mdl_doubled_106 : decode b_Mdl_doubled 106 = .ok (.aload_n 0, 1) := by decide +kernel
theorem d_Mdl_doubled_107 : decode b_Mdl_doubled 107 = .ok (.getfield 13, 3) := by decide +kernel
theorem d_Mdl_doubled_110 : decode b_Mdl_doubled 110 = .ok (.aload_n 0, 1) := by decide +kernel
theorem d_Mdl_doubled_111 : decode b_Mdl_doubled 111 = .ok (.getfield 38, 3) := by decide +kernel
theorem d_Mdl_doubled_114 : decode b_Mdl_doubled 114 = .ok (.aload_n 0, 1) := by decide +kernel
theorem d_Mdl_doubled_115 : decode b_Mdl_doubled 115 = .ok (.getfield 38, 3) := by decide +kernel
theorem d_Mdl_doubled_118 : decode b_Mdl_doubled 118 = .ok (.aload_n 0, 1) := by decide +kernel
theorem d_Mdl_doubled_119 : decode b_Mdl_doubled 119 = .ok (.getfield 38, 3) := by decide +kernel
theorem d_Mdl_doubled_122 : decode b_Mdl_doubled 122 = .ok (.invokevirtual 35, 3) := by decide +kernel
theorem d_Mdl_doubled_125 : decode b_Mdl_doubled 125 = .ok (.aload_n 0, 1) := by decide +kernel
theorem d_Mdl_doubled_126 : decode b_Mdl_doubled 126 = .ok (.getfield 13, 3) := by decide +kernel
theorem d_Mdl_doubled_129 : decode b_Mdl_doubled 129 = .ok (.aload_n 0, 1) := by decide +kernel
theorem d_Mdl_doubled_130 : decode b_Mdl_doubled 130 = .ok (.getfield 38, 3) := by decide +kernel
theorem d_Mdl_doubled_133 : decode b_Mdl_doubled 133 = .ok (.aload_n 0, 1) := by decide +kernel
theorem d_Mdl_doubled_134 : decode b_Mdl_doubled 134 = .ok (.getfield 38, 3) := by decide +kernel
theorem d_Mdl_doubled_137 : decode b_Mdl_doubled 137 = .ok (.aload_n 0, 1) := by decide +kernel
theorem d_Mdl_doubled_138 : decode b_Mdl_doubled 138 = .ok (.getfield 38, 3) := by decide +kernel
theorem d_Mdl_doubled_141 : decode b_Mdl_doubled 141 = .ok (.invokevirtual 35, 3) := by decide +kernel
theorem d_Mdl_doubled_144 : decode b_Mdl_doubled 144 = .ok (.aload_n 0, 1) := by decide +kernel
theorem d_Mdl_doubled_145 : decode b_Mdl_doubled 145 = .ok (.getfield 13, 3) := by decide +kernel
theorem d_Mdl_doubled_148 : decode b_Mdl_doubled 148 = .ok (.aload_n 0, 1) := by decide +kernel
theorem d_Mdl_doubled_149 : decode b_Mdl_doubled 149 = .ok (.getfield 38, 3) := by decide +kernel
theorem d_Mdl_doubled_152 : decode b_Mdl_doubled 152 = .ok (.aload_n 0, 1) := by decide +kernel
theorem d_Mdl_doubled_153 : decode b_Mdl_doubled 153 = .ok (.getfield 38, 3) := by decide +kernel
theorem d_Mdl_doubled_156 : decode b_Mdl_doubled 156 = .ok (.aload_n 0, 1) := by decide +kernel
theorem d_Mdl_doubled_157 : decode b_Mdl_doubled 157 = .ok (.getfield 38, 3) := by decide +kernel
theorem d_Mdl_doubled_160 : decode b_Mdl_doubled 160 = .ok (.invokevirtual 35, 3) := by decide +kernel
theorem d_Mdl_doubled_163 : decode b_Mdl_doubled 163 = .ok (.aload_n 0, 1) := by decide +kernel
theorem d_Mdl_doubled_164 : decode b_Mdl_doubled 164 = .ok (.getfield 13, 3) := by decide +kernel
theorem d_Mdl_doubled_167 : decode b_Mdl_doubled 167 = .ok (.aload_n 1, 1) := by decide +kernel
theorem d_Mdl_doubled_168 : decode b_Mdl_doubled 168 = .ok (.getfield 29, 3) := by decide +kernel
theorem d_Mdl_doubled_171 : decode b_Mdl_doubled 171 = .ok (.aload_n 1, 1) := by decide +kernel
theorem d_Mdl_doubled_172 : decode b_Mdl_doubled 172 = .ok (.getfield 29, 3) := by decide +kernel
theorem d_Mdl_doubled_175 : decode b_Mdl_doubled 175 = .ok (.aload_n 0, 1) := by decide +kernel
theorem d_Mdl_doubled_176 : decode b_Mdl_doubled 176 = .ok (.getfield 41, 3) := by decide +kernel
theorem d_Mdl_doubled_179 : decode b_Mdl_doubled 179 = .ok (.invokevirtual 25, 3) := by decide +kernel
theorem d_Mdl_doubled_182 : decode b_Mdl_doubled 182 = .ok (.aload_n 0, 1) := by decide +kernel
theorem d_Mdl_doubled_183 : decode b_Mdl_doubled 183 = .ok (.getfield 13, 3) := by decide +kernel
theorem d_Mdl_doubled_186 : decode b_Mdl_doubled 186 = .ok (.aload_n 0, 1) := by decide +kernel
theorem d_Mdl_doubled_187 : decode b_Mdl_doubled 187 = .ok (.getfield 41, 3) := by decide +kernel
theorem d_Mdl_doubled_190 : decode b_Mdl_doubled 190 = .ok (.aload_n 0, 1) := by decide +kernel
theorem d_Mdl_doubled_191 : decode b_Mdl_doubled 191 = .ok (.getfield 41, 3) := by decide +kernel
theorem d_Mdl_doubled_194 : decode b_Mdl_doubled 194 = .ok (.aload_n 0, 1) := by decide +kernel
theorem d_Mdl_doubled_195 : decode b_Mdl_doubled 195 = .ok (.getfield 44, 3) := by decide +kernel
theorem d_Mdl_doubled_198 : decode b_Mdl_doubled 198 = .ok (.invokevirtual 35, 3) := by decide +kernel
theorem d_Mdl_doubled_201 : decode b_Mdl_doubled 201 = .ok (.aload_n 0, 1) := by decide +kernel
theorem d_Mdl_doubled_202 : decode b_Mdl_doubled 202 = .ok (.getfield 13, 3) := by decide +kernel
theorem d_Mdl_doubled_205 : decode b_Mdl_doubled 205 = .ok (.aload_n 0, 1) := by decide +kernel
theorem d_Mdl_doubled_206 : decode b_Mdl_doubled 206 = .ok (.getfield 41, 3) := by decide +kernel
theorem d_Mdl_doubled_209 : decode b_Mdl_doubled 209 = .ok (.aload_n 0, 1) := by decide +kernel
theorem d_Mdl_doubled_210 : decode b_Mdl_doubled 210 = .ok (.getfield 44, 3) := by decide +kernel
theorem d_Mdl_doubled_213 : decode b_Mdl_doubled 213 = .ok (.aload_n 0, 1) := by decide +kernel
theorem d_Mdl_doubled_214 : decode b_Mdl_doubled 214 = .ok (.getfield 41, 3) := by decide +kernel
theorem d_Mdl_doubled_217 : decode b_Mdl_doubled 217 = .ok (.invokevirtual 35, 3) := by decide +kernel
theorem d_Mdl_doubled_220 : decode b_Mdl_doubled 220 = .ok (.aload_n 0, 1) := by decide +kernel
theorem d_Mdl_doubled_221 : decode b_Mdl_doubled 221 = .ok (.getfield 13, 3) := by decide +kernel
theorem d_Mdl_doubled_224 : decode b_Mdl_doubled 224 = .ok (.aload_n 1, 1) := by decide +kernel
theorem d_Mdl_doubled_225 : decode b_Mdl_doubled 225 = .ok (.getfield 19, 3) := by decide +kernel
theorem d_Mdl_doubled_228 : decode b_Mdl_doubled 228 = .ok (.aload_n 1, 1) := by decide +kernel
theorem d_Mdl_doubled_229 : decode b_Mdl_doubled 229 = .ok (.getfield 1, 3) := by decide +kernel
theorem d_Mdl_doubled_232 : decode b_Mdl_doubled 232 = .ok (.aload_n 1, 1) := by decide +kernel
theorem d_Mdl_doubled_233 : decode b_Mdl_doubled 233 = .ok (.getfield 1, 3) := by decide +kernel
theorem d_Mdl_doubled_236 : decode b_Mdl_doubled 236 = .ok (.invokevirtual 25, 3) := by decide +kernel
theorem d_Mdl_doubled_239 : decode b_Mdl_doubled 239 = .ok (.aload_n 0, 1) := by decide +kernel
theorem d_Mdl_doubled_240 : decode b_Mdl_doubled 240 = .ok (.getfield 13, 3) := by decide +kernel
theorem d_Mdl_doubled_243 : decode b_Mdl_doubled 243 = .ok (.aload_n 1, 1) := by decide +kernel
theorem d_Mdl_doubled_244 : decode b_Mdl_doubled 244 = .ok (.getfield 1, 3) := by decide +kernel
theorem d_Mdl_doubled_247 : decode b_Mdl_doubled 247 = .ok (.aload_n 1, 1) := by decide +kernel
theorem d_Mdl_doubled_248 : decode b_Mdl_doubled 248 = .ok (.getfield 1, 3) := by decide +kernel
theorem d_Mdl_doubled_251 : decode b_Mdl_doubled 251 = .ok (.aload_n 1, 1) := by decide +kernel
theorem d_Mdl_doubled_252 : decode b_Mdl_doubled 252 = .ok (.getfield 1, 3) := by decide +kernel
theorem d_Mdl_doubled_255 : decode b_Mdl_doubled 255 = .ok (.invokevirtual 35, 3) := by decide +kernel
theorem d_Mdl_doubled_258 : decode b_Mdl_doubled 258 = .ok (.aload_n 0, 1) := by decide +kernel
theorem d_Mdl_doubled_259 : decode b_Mdl_doubled 259 = .ok (.getfield 13, 3) := by decide +kernel
theorem d_Mdl_doubled_262 : decode b_Mdl_doubled 262 = .ok (.aload_n 0, 1) := by decide +kernel
theorem d_Mdl_doubled_263 : decode b_Mdl_doubled 263 = .ok (.getfield 41, 3) := by decide +kernel
theorem d_Mdl_doubled_266 : decode b_Mdl_doubled 266 = .ok (.aload_n 0, 1) := by decide +kernel
theorem d_Mdl_doubled_267 : decode b_Mdl_doubled 267 = .ok (.getfield 41, 3) := by decide +kernel
theorem d_Mdl_doubled_270 : decode b_Mdl_doubled 270 = .ok (.aload_n 1, 1) := by decide +kernel
theorem d_Mdl_doubled_271 : decode b_Mdl_doubled 271 = .ok (.getfield 29, 3) := by decide +kernel
theorem d_Mdl_doubled_274 : decode b_Mdl_doubled 274 = .ok (.invokevirtual 25, 3) := by decide +kernel
theorem d_Mdl_doubled_277 : decode b_Mdl_doubled 277 = .ok (.aload_n 0, 1) := by decide +kernel
theorem d_Mdl_doubled_278 : decode b_Mdl_doubled 278 = .ok (.getfield 13, 3) := by decide +kernel
theorem d_Mdl_doubled_281 : decode b_Mdl_doubled 281 = .ok (.aload_n 1, 1) := by decide +kernel
theorem d_Mdl_doubled_282 : decode b_Mdl_doubled 282 = .ok (.getfield 29, 3) := by decide +kernel
theorem d_Mdl_doubled_285 : decode b_Mdl_doubled 285 = .ok (.aload_n 0, 1) := by decide +kernel
theorem d_Mdl_doubled_286 : decode b_Mdl_doubled 286 = .ok (.getfield 32, 3) := by decide +kernel
theorem d_Mdl_doubled_289 : decode b_Mdl_doubled 289 = .ok (.aload_n 1, 1) := by decide +kernel
theorem d_Mdl_doubled_290 : decode b_Mdl_doubled 290 = .ok (.getfield 29, 3) := by decide +kernel
theorem d_Mdl_doubled_293 : decode b_Mdl_doubled 293 = .ok (.invokevirtual 47, 3) := by decide +kernel
theorem d_Mdl_doubled_296 : decode b_Mdl_doubled 296 = .ok (.aload_n 0, 1) := by decide +kernel
theorem d_Mdl_doubled_297 : decode b_Mdl_doubled 297 = .ok (.getfield 13, 3) := by decide +kernel
theorem d_Mdl_doubled_300 : decode b_Mdl_doubled 300 = .ok (.aload_n 1, 1) := by decide +kernel
theorem d_Mdl_doubled_301 : decode b_Mdl_doubled 301 = .ok (.getfield 29, 3) := by decide +kernel
theorem d_Mdl_doubled_304 : decode b_Mdl_doubled 304 = .ok (.aload_n 0, 1) := by decide +kernel
theorem d_Mdl_doubled_305 : decode b_Mdl_doubled 305 = .ok (.getfield 32, 3) := by decide +kernel
theorem d_Mdl_doubled_308 : decode b_Mdl_doubled 308 = .ok (.aload_n 1, 1) := by decide +kernel
theorem d_Mdl_doubled_309 : decode b_Mdl_doubled 309 = .ok (.getfield 29, 3) := by decide +kernel
theorem d_Mdl_doubled_312 : decode b_Mdl_doubled 312 = .ok (.invokevirtual 47, 3) := by decide +kernel
theorem d_Mdl_doubled_315 : decode b_Mdl_doubled 315 = .ok (.aload_n 0, 1) := by decide +kernel
theorem d_Mdl_doubled_316 : decode b_Mdl_doubled 316 = .ok (.getfield 13, 3) := by decide +kernel
theorem d_Mdl_doubled_319 : decode b_Mdl_doubled 319 = .ok (.aload_n 0, 1) := by decide +kernel
theorem d_Mdl_doubled_320 : decode b_Mdl_doubled 320 = .ok (.getfield 32, 3) := by decide +kernel
theorem d_Mdl_doubled_323 : decode b_Mdl_doubled 323 = .ok (.aload_n 1, 1) := by decide +kernel
theorem d_Mdl_doubled_324 : decode b_Mdl_doubled 324 = .ok (.getfield 29, 3) := by decide +kernel
theorem d_Mdl_doubled_327 : decode b_Mdl_doubled 327 = .ok (.aload_n 0, 1) := by decide +kernel
theorem d_Mdl_doubled_328 : decode b_Mdl_doubled 328 = .ok (.getfield 32, 3) := by decide +kernel
theorem d_Mdl_doubled_331 : decode b_Mdl_doubled 331 = .ok (.invokevirtual 47, 3) := by decide +kernel
theorem d_Mdl_doubled_334 : decode b_Mdl_doubled 334 = .ok (.aload_n 0, 1) := by decide +kernel
theorem d_Mdl_doubled_335 : decode b_Mdl_doubled 335 = .ok (.getfield 13, 3) := by decide +kernel
theorem d_Mdl_doubled_338 : decode b_Mdl_doubled 338 = .ok (.aload_n 0, 1) := by decide +kernel
theorem d_Mdl_doubled_339 : decode b_Mdl_doubled 339 = .ok (.getfield 41, 3) := by decide +kernel
theorem d_Mdl_doubled_342 : decode b_Mdl_doubled 342 = .ok (.aload_n 0, 1) := by decide +kernel
theorem d_Mdl_doubled_343 : decode b_Mdl_doubled 343 = .ok (.getfield 32, 3) := by decide +kernel
theorem d_Mdl_doubled_346 : decode b_Mdl_doubled 346 = .ok (.aload_n 1, 1) := by decide +kernel
theorem d_Mdl_doubled_347 : decode b_Mdl_doubled 347 = .ok (.getfield 19, 3) := by decide +kernel
theorem d_Mdl_doubled_350 : decode b_Mdl_doubled 350 = .ok (.invokevirtual 25, 3) := by decide +kernel
theorem d_Mdl_doubled_353 : decode b_Mdl_doubled 353 = .ok (.aload_n 0, 1) := by decide +kernel
theorem d_Mdl_doubled_354 : decode b_Mdl_doubled 354 = .ok (.getfield 13, 3) := by decide +kernel
theorem d_Mdl_doubled_357 : decode b_Mdl_doubled 357 = .ok (.aload_n 1, 1) := by decide +kernel
theorem d_Mdl_doubled_358 : decode b_Mdl_doubled 358 = .ok (.getfield 19, 3) := by decide +kernel
theorem d_Mdl_doubled_361 : decode b_Mdl_doubled 361 = .ok (.aload_n 0, 1) := by decide +kernel
theorem d_Mdl_doubled_362 : decode b_Mdl_doubled 362 = .ok (.getfield 38, 3) := by decide +kernel
theorem d_Mdl_doubled_365 : decode b_Mdl_doubled 365 = .ok (.aload_n 1, 1) := by decide +kernel
theorem d_Mdl_doubled_366 : decode b_Mdl_doubled 366 = .ok (.getfield 19, 3) := by decide +kernel
theorem d_Mdl_doubled_369 : decode b_Mdl_doubled 369 = .ok (.invokevirtual 47, 3) := by decide +kernel
theorem d_Mdl_doubled_372 : decode b_Mdl_doubled 372 = .ok (.return_, 1) := by decide +kernel
theorem d_Mdl_plus_0 : decode b_Mdl_plus 0 = .ok (.aload_n 2, 1) := by decide +kernel
theorem d_Mdl_plus_1 : decode b_Mdl_plus 1 = .ok (.getfield 1, 3) := by decide +kernel
theorem d_Mdl_plus_4 : decode b_Mdl_plus 4 = .ok (.invokestatic 7, 3) := by decide +kernel
theorem d_Mdl_plus_7 : decode b_Mdl_plus 7 = .ok (.ifCond .eq 4, 3) := by decide +kernel
theorem d_Mdl_plus_10 : decode b_Mdl_plus 10 = .ok (.return_, 1) := by decide +kernel
theorem d_Mdl_plus_11 : decode b_Mdl_plus 11 = .ok (.aload_n 1, 1) := by decide +kernel
theorem d_Mdl_plus_12 : decode b_Mdl_plus 12 = .ok (.getfield 1, 3) := by decide +kernel
theorem d_Mdl_plus_15 : decode b_Mdl_plus 15 = .ok (.invokestatic 7, 3) := by decide +kernel
theorem d_Mdl_plus_18 : decode b_Mdl_plus 18 = .ok (.ifCond .eq 9, 3) := by decide +kernel
theorem d_Mdl_plus_21 : decode b_Mdl_plus 21 = .ok (.aload_n 1, 1) := by decide +kernel
theorem d_Mdl_plus_22 : decode b_Mdl_plus 22 = .ok (.aload_n 2, 1) := by decide +kernel
theorem d_Mdl_plus_23 : decode b_Mdl_plus 23 = .ok (.invokevirtual 50, 3) := by decide +kernel
theorem d_Mdl_plus_26 : decode b_Mdl_plus 26 = .ok (.return_, 1) := by decide +kernel
theorem d_Mdl_plus_27 : decode b_Mdl_plus 27 = .ok (.aload_n 0, 1) := by decide +kernel
theorem d_Mdl_plus_28 : decode b_Mdl_plus 28 = .ok (.getfield 13, 3) := by decide +kernel
theorem d_Mdl_plus_31 : decode b_Mdl_plus 31 = .ok (.aload_n 2, 1) := by decide +kernel
theorem d_Mdl_plus_32 : decode b_Mdl_plus 32 = .ok (.getfield 1, 3) := by decide +kernel
theorem d_Mdl_plus_35 : decode b_Mdl_plus 35 = .ok (.aload_n 2, 1) := by decide +kernel
theorem d_Mdl_plus_36 : decode b_Mdl_plus 36 = .ok (.getfield 1, 3) := by decide +kernel
theorem d_Mdl_plus_39 : decode b_Mdl_plus 39 = .ok (.aload_n 0, 1) := by decide +kernel
theorem d_Mdl_plus_40 : decode b_Mdl_plus 40 = .ok (.getfield 22, 3) := by decide +kernel
theorem d_Mdl_plus_43 : decode b_Mdl_plus 43 = .ok (.invokevirtual 25, 3) := by decide +kernel
theorem d_Mdl_plus_46 : decode b_Mdl_plus 46 = .ok (.aload_n 0, 1) := by decide +kernel
theorem d_Mdl_plus_47 : decode b_Mdl_plus 47 = .ok (.getfield 13, 3) := by decide +kernel
theorem d_Mdl_plus_50 : decode b_Mdl_plus 50 = .ok (.aload_n 1, 1) := by decide +kernel
theorem d_Mdl_plus_51 : decode b_Mdl_plus 51 = .ok (.getfield 29, 3) := by decide +kernel
theorem d_Mdl_plus_54 : decode b_Mdl_plus 54 = .ok (.aload_n 0, 1) := by decide +kernel
theorem d_Mdl_plus_55 : decode b_Mdl_plus 55 = .ok (.getfield 22, 3) := by decide +kernel
theorem d_Mdl_plus_58 : decode b_Mdl_plus 58 = .ok (.aload_n 0, 1) := by decide +kernel
theorem d_Mdl_plus_59 : decode b_Mdl_plus 59 = .ok (.getfield 32, 3) := by decide +kernel
theorem d_Mdl_plus_62 : decode b_Mdl_plus 62 = .ok (.invokevirtual 25, 3) := by decide +kernel
theorem d_Mdl_plus_65 : decode b_Mdl_plus 65 = .ok (.aload_n 0, 1) := by decide +kernel
theorem d_Mdl_plus_66 : decode b_Mdl_plus 66 = .ok (.getfield 13, 3) := by decide +kernel
theorem d_Mdl_plus_69 : decode b_Mdl_plus 69 = .ok (.aload_n 0, 1) := by decide +kernel
theorem d_Mdl_plus_70 : decode b_Mdl_plus 70 = .ok (.getfield 22, 3) := by decide +kernel
theorem d_Mdl_plus_73 : decode b_Mdl_plus 73 = .ok (.aload_n 2, 1) := by decide +kernel
theorem d_Mdl_plus_74 : decode b_Mdl_plus 74 = .ok (.getfield 1, 3) := by decide +kernel
theorem d_Mdl_plus_77 : decode b_Mdl_plus 77 = .ok (.aload_n 0, 1) := by decide +kernel
theorem d_Mdl_plus_78 : decode b_Mdl_plus 78 = .ok (.getfield 22, 3) := by decide +kernel
theorem d_Mdl_plus_81 : decode b_Mdl_plus 81 = .ok (.invokevirtual 25, 3) := by decide +kernel
theorem d_Mdl_plus_84 : decode b_Mdl_plus 84 = .ok (.aload_n 0, 1) := by decide +kernel
theorem d_Mdl_plus_85 : decode b_Mdl_plus 85 = .ok (.getfield 13, 3) := by decide +kernel
theorem d_Mdl_plus_88 : decode b_Mdl_plus 88 = .ok (.aload_n 1, 1) := by decide +kernel
theorem d_Mdl_plus_89 : decode b_Mdl_plus 89 = .ok (.getfield 19, 3) := by decide +kernel
theorem d_Mdl_plus_92 : decode b_Mdl_plus 92 = .ok (.aload_n 0, 1) := by decide +kernel
theorem d_Mdl_plus_93 : decode b_Mdl_plus 93 = .ok (.getfield 22, 3) := by decide +kernel
theorem d_Mdl_plus_96 : decode b_Mdl_plus 96 = .ok (.aload_n 0, 1) := by decide +kernel
theorem d_Mdl_plus_97 : decode b_Mdl_plus 97 = .ok (.getfield 22, 3) := by decide +kernel
theorem d_Mdl_plus_100 : decode b_Mdl_plus 100 = .ok (.invokevirtual 25, 3) := by decide +kernel
theorem d_Mdl_plus_103 : decode b_Mdl_plus 103 = .ok (.aload_n 0, 1) := by decide +kernel
theorem d_Mdl_plus_104 : decode b_Mdl_plus 104 = .ok (.getfield 13, 3) := by decide +kernel
theorem d_Mdl_plus_107 : decode b_Mdl_plus 107 = .ok (.aload_n 1, 1) := by decide +kernel
theorem d_Mdl_plus_108 : decode b_Mdl_plus 108 = .ok (.getfield 1, 3) := by decide +kernel
theorem d_Mdl_plus_111 : decode b_Mdl_plus 111 = .ok (.aload_n 1, 1) := by decide +kernel
theorem d_Mdl_plus_112 : decode b_Mdl_plus 112 = .ok (.getfield 1, 3) := by decide +kernel
theorem d_Mdl_plus_115 : decode b_Mdl_plus 115 = .ok (.aload_n 0, 1) := by decide +kernel
theorem d_Mdl_plus_116 : decode b_Mdl_plus 116 = .ok (.getfield 38, 3) := by decide +kernel
theorem d_Mdl_plus_119 : decode b_Mdl_plus 119 = .ok (.invokevirtual 25, 3) := by decide +kernel
theorem d_Mdl_plus_122 : decode b_Mdl_plus 122 = .ok (.aload_n 0, 1) := by decide +kernel
theorem d_Mdl_plus_123 : decode b_Mdl_plus 123 = .ok (.getfield 13, 3) := by decide +kernel
theorem d_Mdl_plus_126 : decode b_Mdl_plus 126 = .ok (.aload_n 2, 1) := by decide +kernel
theorem d_Mdl_plus_127 : decode b_Mdl_plus 127 = .ok (.getfield 29, 3) := by decide +kernel
theorem d_Mdl_plus_130 : decode b_Mdl_plus 130 = .ok (.aload_n 0, 1) := by decide +kernel
theorem d_Mdl_plus_131 : decode b_Mdl_plus 131 = .ok (.getfield 38, 3) := by decide +kernel
theorem d_Mdl_plus_134 : decode b_Mdl_plus 134 = .ok (.aload_n 0, 1) := by decide +kernel
theorem d_Mdl_plus_135 : decode b_Mdl_plus 135 = .ok (.getfield 41, 3) := by decide +kernel
theorem d_Mdl_plus_138 : decode b_Mdl_plus 138 = .ok (.invokevirtual 25, 3) := by decide +kernel
theorem d_Mdl_plus_141 : decode b_Mdl_plus 141 = .ok (.aload_n 0, 1) := by decide +kernel
theorem d_Mdl_plus_142 : decode b_Mdl_plus 142 = .ok (.getfield 13, 3) := by decide +kernel
theorem d_Mdl_plus_145 : decode b_Mdl_plus 145 = .ok (.aload_n 0, 1) := by decide +kernel
theorem d_Mdl_plus_146 : decode b_Mdl_plus 146 = .ok (.getfield 38, 3) := by decide +kernel
theorem d_Mdl_plus_149 : decode b_Mdl_plus 149 = .ok (.aload_n 1, 1) := by decide +kernel
theorem d_Mdl_plus_150 : decode b_Mdl_plus 150 = .ok (.getfield 1, 3) := by decide +kernel
theorem d_Mdl_plus_153 : decode b_Mdl_plus 153 = .ok (.aload_n 0, 1) := by decide +kernel
theorem d_Mdl_plus_154 : decode b_Mdl_plus 154 = .ok (.getfield 38, 3) := by decide +kernel
theorem d_Mdl_plus_157 : decode b_Mdl_plus 157 = .ok (.invokevirtual 25, 3) := by decide +kernel
theorem d_Mdl_plus_160 : decode b_Mdl_plus 160 = .ok (.aload_n 0, 1) := by decide +kernel
theorem d_Mdl_plus_161 : decode b_Mdl_plus 161 = .ok (.getfield 13, 3) := by decide +kernel
theorem d_Mdl_plus_164 : decode b_Mdl_plus 164 = .ok (.aload_n 2, 1) := by decide +kernel
theorem d_Mdl_plus_165 : decode b_Mdl_plus 165 = .ok (.getfield 19, 3) := by decide +kernel
theorem d_Mdl_plus_168 : decode b_Mdl_plus 168 = .ok (.aload_n 0, 1) := by decide +kernel
theorem d_Mdl_plus_169 : decode b_Mdl_plus 169 = .ok (.getfield 38, 3) := by decide +kernel
theorem d_Mdl_plus_172 : decode b_Mdl_plus 172 = .ok (.aload_n 0, 1) := by decide +kernel
theorem d_Mdl_plus_173 : decode b_Mdl_plus 173 = .ok (.getfield 38, 3) := by decide +kernel
theorem d_Mdl_plus_176 : decode b_Mdl_plus 176 = .ok (.invokevirtual 25, 3) := by decide +kernel
theorem d_Mdl_plus_179 : decode b_Mdl_plus 179 = .ok (.aload_n 0, 1) := by decide +kernel
theorem d_Mdl_plus_180 : decode b_Mdl_plus 180 = .ok (.getfield 13, 3) := by decide +kernel
theorem d_Mdl_plus_183 : decode b_Mdl_plus 183 = .ok (.aload_n 0, 1) := by decide +kernel
theorem d_Mdl_plus_184 : decode b_Mdl_plus 184 = .ok (.getfield 41, 3) := by decide +kernel
theorem d_Mdl_plus_187 : decode b_Mdl_plus 187 = .ok (.aload_n 0, 1) := by decide +kernel
theorem d_Mdl_plus_188 : decode b_Mdl_plus 188 = .ok (.getfield 32, 3) := by decide +kernel
theorem d_Mdl_plus_191 : decode b_Mdl_plus 191 = .ok (.aload_n 0, 1) := by decide +kernel
theorem d_Mdl_plus_192 : decode b_Mdl_plus 192 = .ok (.getfield 41, 3) := by decide +kernel
theorem d_Mdl_plus_195 : decode b_Mdl_plus 195 = .ok (.invokevirtual 47, 3) := by decide +kernel
theorem d_Mdl_plus_198 : decode b_Mdl_plus 198 = .ok (.aload_n 0, 1) := by decide +kernel
theorem d_Mdl_plus_199 : decode b_Mdl_plus 199 = .ok (.getfield 13, 3) := by decide +kernel
theorem d_Mdl_plus_202 : decode b_Mdl_plus 202 = .ok (.aload_n 0, 1) := by decide +kernel
theorem d_Mdl_plus_203 : decode b_Mdl_plus 203 = .ok (.getfield 38, 3) := by decide +kernel
theorem d_Mdl_plus_206 : decode b_Mdl_plus 206 = .ok (.aload_n 0, 1) := by decide +kernel
theorem d_Mdl_plus_207 : decode b_Mdl_plus 207 = .ok (.getfield 22, 3) := by decide +kernel
theorem d_Mdl_plus_210 : decode b_Mdl_plus 210 = .ok (.aload_n 0, 1) := by decide +kernel
theorem d_Mdl_plus_211 : decode b_Mdl_plus 211 = .ok (.getfield 38, 3) := by decide +kernel
theorem d_Mdl_plus_214 : decode b_Mdl_plus 214 = .ok (.invokevirtual 47, 3) := by decide +kernel
theorem d_Mdl_plus_217 : decode b_Mdl_plus 217 = .ok (.aload_n 0, 1) := by decide +kernel
theorem d_Mdl_plus_218 : decode b_Mdl_plus 218 = .ok (.getfield 41, 3) := by decide +kernel
theorem d_Mdl_plus_221 : decode b_Mdl_plus 221 = .ok (.invokestatic 7, 3) := by decide +kernel
theorem d_Mdl_plus_224 : decode b_Mdl_plus 224 = .ok (.ifCond .eq 43, 3) := by decide +kernel
theorem d_Mdl_plus_227 : decode b_Mdl_plus 227 = .ok (.aload_n 0, 1) := by decide +kernel
theorem d_Mdl_plus_228 : decode b_Mdl_plus 228 = .ok (.getfield 38, 3) := by decide +kernel
theorem d_Mdl_plus_231 : decode b_Mdl_plus 231 = .ok (.invokestatic 7, 3) := by decide +kernel
theorem d_Mdl_plus_234 : decode b_Mdl_plus 234 = .ok (.ifCond .eq 11, 3) := by decide +kernel
theorem d_Mdl_plus_237 : decode b_Mdl_plus 237 = .ok (.aload_n 0, 1) := by decide +kernel
theorem d_Mdl_plus_238 : decode b_Mdl_plus 238 = .ok (.aload_n 1, 1) := by decide +kernel
theorem d_Mdl_plus_239 : decode b_Mdl_plus 239 = .ok (.invokevirtual 54, 3) := by decide +kernel
theorem d_Mdl_plus_242 : decode b_Mdl_plus 242 = .ok (.goto 24, 3) := by decide +kernel
theorem d_Mdl_plus_245 : decode b_Mdl_plus 245 = .ok (.iconst 0, 1) := by decide +kernel
theorem d_Mdl_plus_246 : decode b_Mdl_plus 246 = .ok (.istore_n 3, 1) := by decide +kernel
theorem d_Mdl_plus_247 : decode b_Mdl_plus 247 = .ok (.iload_n 3, 1) := by decide +kernel
theorem d_Mdl_plus_248 : decode b_Mdl_plus 248 = .ok (.bipush 8, 2) := by decide +kernel
theorem d_Mdl_plus_250 : decode b_Mdl_plus 250 = .ok (.if_icmp .ge 16, 3) := by decide +kernel
theorem d_Mdl_plus_253 : decode b_Mdl_plus 253 = .ok (.aload_n 1, 1) := by decide +kernel
theorem d_Mdl_plus_254 : decode b_Mdl_plus 254 = .ok (.getfield 1, 3) := by decide +kernel
theorem d_Mdl_plus_257 : decode b_Mdl_plus 257 = .ok (.iload_n 3, 1) := by decide +kernel
theorem d_Mdl_plus_258 : decode b_Mdl_plus 258 = .ok (.iconst 0, 1) := by decide +kernel
theorem d_Mdl_plus_259 : decode b_Mdl_plus 259 = .ok (.iastore, 1) := by decide +kernel
theorem d_Mdl_plus_260 : decode b_Mdl_plus 260 = .ok (.iinc 3 1, 3) := by decide +kernel
theorem d_Mdl_plus_263 : decode b_Mdl_plus 263 = .ok (.goto (-16), 3) := by decide +kernel
theorem d_Mdl_plus_266 : decode b_Mdl_plus 266 = .ok (.return_, 1) := by decide +kernel
theorem d_Mdl_plus_267 : decode b_Mdl_plus 267 = .ok (.aload_n 0, 1) := by decide +kernel
theorem d_Mdl_plus_268 : decode b_Mdl_plus 268 = .ok (.getfield 13, 3) := by decide +kernel
theorem d_Mdl_plus_271 : decode b_Mdl_plus 271 = .ok (.aload_n 1, 1) := by decide +kernel
theorem d_Mdl_plus_272 : decode b_Mdl_plus 272 = .ok (.getfield 1, 3) := by decide +kernel
theorem d_Mdl_plus_275 : decode b_Mdl_plus 275 = .ok (.aload_n 2, 1) := by decide +kernel
theorem d_Mdl_plus_276 : decode b_Mdl_plus 276 = .ok (.getfield 1, 3) := by decide +kernel
theorem d_Mdl_plus_279 : decode b_Mdl_plus 279 = .ok (.aload_n 1, 1) := by decide +kernel
theorem d_Mdl_plus_280 : decode b_Mdl_plus 280 = .ok (.getfield 1, 3) := by decide +kernel
theorem d_Mdl_plus_283 : decode b_Mdl_plus 283 = .ok (.invokevirtual 25, 3) := by decide +kernel
theorem d_Mdl_plus_286 : decode b_Mdl_plus 286 = .ok (.aload_n 0, 1) := by decide +kernel
theorem d_Mdl_plus_287 : decode b_Mdl_plus 287 = .ok (.getfield 13, 3) := by decide +kernel
theorem d_Mdl_plus_290 : decode b_Mdl_plus 290 = .ok (.aload_n 1, 1) := by decide +kernel
theorem d_Mdl_plus_291 : decode b_Mdl_plus 291 = .ok (.getfield 1, 3) := by decide +kernel
theorem d_Mdl_plus_294 : decode b_Mdl_plus 294 = .ok (.aload_n 0, 1) := by decide +kernel
theorem d_Mdl_plus_295 : decode b_Mdl_plus 295 = .ok (.getfield 41, 3) := by decide +kernel
theorem d_Mdl_plus_298 : decode b_Mdl_plus 298 = .ok (.aload_n 1, 1) := by decide +kernel
theorem d_Mdl_plus_299 : decode b_Mdl_plus 299 = .ok (.getfield 1, 3) := by decide +kernel
theorem d_Mdl_plus_302 : decode b_Mdl_plus 302 = .ok (.invokevirtual 25, 3) := by decide +kernel
theorem d_Mdl_plus_305 : decode b_Mdl_plus 305 = .ok (.aload_n 0, 1) := by decide +kernel
theorem d_Mdl_plus_306 : decode b_Mdl_plus 306 = .ok (.getfield 13, 3) := by decide +kernel
theorem d_Mdl_plus_309 : decode b_Mdl_plus 309 = .ok (.aload_n 0, 1) := by decide +kernel
theorem d_Mdl_plus_310 : decode b_Mdl_plus 310 = .ok (.getfield 41, 3) := by decide +kernel
theorem d_Mdl_plus_313 : decode b_Mdl_plus 313 = .ok (.aload_n 0, 1) := by decide +kernel
theorem d_Mdl_plus_314 : decode b_Mdl_plus 314 = .ok (.getfield 41, 3) := by decide +kernel
theorem d_Mdl_plus_317 : decode b_Mdl_plus 317 = .ok (.aload_n 0, 1) := by decide +kernel
theorem d_Mdl_plus_318 : decode b_Mdl_plus 318 = .ok (.getfield 44, 3) := by decide +kernel
theorem d_Mdl_plus_321 : decode b_Mdl_plus 321 = .ok (.invokevirtual 25, 3) := by decide +kernel
theorem d_Mdl_plus_324 : decode b_Mdl_plus 324 = .ok (.aload_n 0, 1) := by decide +kernel
theorem d_Mdl_plus_325 : decode b_Mdl_plus 325 = .ok (.getfield 13, 3) := by decide +kernel
theorem d_Mdl_plus_328 : decode b_Mdl_plus 328 = .ok (.aload_n 0, 1) := by decide +kernel
theorem d_Mdl_plus_329 : decode b_Mdl_plus 329 = .ok (.getfield 32, 3) := by decide +kernel
theorem d_Mdl_plus_332 : decode b_Mdl_plus 332 = .ok (.aload_n 0, 1) := by decide +kernel
theorem d_Mdl_plus_333 : decode b_Mdl_plus 333 = .ok (.getfield 44, 3) := by decide +kernel
theorem d_Mdl_plus_336 : decode b_Mdl_plus 336 = .ok (.aload_n 0, 1) := by decide +kernel
theorem d_Mdl_plus_337 : decode b_Mdl_plus 337 = .ok (.getfield 32, 3) := by decide +kernel
theorem d_Mdl_plus_340 : decode b_Mdl_plus 340 = .ok (.invokevirtual 25, 3) := by decide +kernel
theorem d_Mdl_plus_343 : decode b_Mdl_plus 343 = .ok (.aload_n 0, 1) := by decide +kernel
theorem d_Mdl_plus_344 : decode b_Mdl_plus 344 = .ok (.getfield 13, 3) := by decide +kernel
theorem d_Mdl_plus_347 : decode b_Mdl_plus 347 = .ok (.aload_n 0, 1) := by decide +kernel
theorem d_Mdl_plus_348 : decode b_Mdl_plus 348 = .ok (.getfield 44, 3) := by decide +kernel
theorem d_Mdl_plus_351 : decode b_Mdl_plus 351 = .ok (.aload_n 0, 1) := by decide +kernel
theorem d_Mdl_plus_352 : decode b_Mdl_plus 352 = .ok (.getfield 41, 3) := by decide +kernel
theorem d_Mdl_plus_355 : decode b_Mdl_plus 355 = .ok (.aload_n 0, 1) := by decide +kernel
theorem d_Mdl_plus_356 : decode b_Mdl_plus 356 = .ok (.getfield 44, 3) := by decide +kernel
theorem d_Mdl_plus_359 : decode b_Mdl_plus 359 = .ok (.invokevirtual 25, 3) := by decide +kernel
theorem d_Mdl_plus_362 : decode b_Mdl_plus 362 = .ok (.aload_n 0, 1) := by decide +kernel
theorem d_Mdl_plus_363 : decode b_Mdl_plus 363 = .ok (.getfield 13, 3) := by decide +kernel
theorem d_Mdl_plus_366 : decode b_Mdl_plus 366 = .ok (.aload_n 0, 1) := by decide +kernel
theorem d_Mdl_plus_367 : decode b_Mdl_plus 367 = .ok (.getfield 38, 3) := by decide +kernel
theorem d_Mdl_plus_370 : decode b_Mdl_plus 370 = .ok (.aload_n 0, 1) := by decide +kernel
theorem d_Mdl_plus_371 : decode b_Mdl_plus 371 = .ok (.getfield 38, 3) := by decide +kernel
theorem d_Mdl_plus_374 : decode b_Mdl_plus 374 = .ok (.aload_n 1, 1) := by decide +kernel
theorem d_Mdl_plus_375 : decode b_Mdl_plus 375 = .ok (.getfield 29, 3) := by decide +kernel
theorem d_Mdl_plus_378 : decode b_Mdl_plus 378 = .ok (.invokevirtual 25, 3) := by decide +kernel
theorem d_Mdl_plus_381 : decode b_Mdl_plus 381 = .ok (.aload_n 0, 1) := by decide +kernel
theorem d_Mdl_plus_382 : decode b_Mdl_plus 382 = .ok (.getfield 13, 3) := by decide +kernel
theorem d_Mdl_plus_385 : decode b_Mdl_plus 385 = .ok (.aload_n 1, 1) := by decide +kernel
theorem d_Mdl_plus_386 : decode b_Mdl_plus 386 = .ok (.getfield 29, 3) := by decide +kernel
theorem d_Mdl_plus_389 : decode b_Mdl_plus 389 = .ok (.aload_n 0, 1) := by decide +kernel
theorem d_Mdl_plus_390 : decode b_Mdl_plus 390 = .ok (.getfield 44, 3) := by decide +kernel
theorem d_Mdl_plus_393 : decode b_Mdl_plus 393 = .ok (.aload_n 1, 1) := by decide +kernel
theorem d_Mdl_plus_394 : decode b_Mdl_plus 394 = .ok (.getfield 29, 3) := by decide +kernel
theorem d_Mdl_plus_397 : decode b_Mdl_plus 397 = .ok (.invokevirtual 47, 3) := by decide +kernel
theorem d_Mdl_plus_400 : decode b_Mdl_plus 400 = .ok (.aload_n 0, 1) := by decide +kernel
theorem d_Mdl_plus_401 : decode b_Mdl_plus 401 = .ok (.getfield 13, 3) := by decide +kernel
theorem d_Mdl_plus_404 : decode b_Mdl_plus 404 = .ok (.aload_n 1, 1) := by decide +kernel
theorem d_Mdl_plus_405 : decode b_Mdl_plus 405 = .ok (.getfield 29, 3) := by decide +kernel
theorem d_Mdl_plus_408 : decode b_Mdl_plus 408 = .ok (.aload_n 0, 1) := by decide +kernel
theorem d_Mdl_plus_409 : decode b_Mdl_plus 409 = .ok (.getfield 32, 3) := by decide +kernel
theorem d_Mdl_plus_412 : decode b_Mdl_plus 412 = .ok (.aload_n 1, 1) := by decide +kernel
theorem d_Mdl_plus_413 : decode b_Mdl_plus 413 = .ok (.getfield 29, 3) := by decide +kernel
theorem d_Mdl_plus_416 : decode b_Mdl_plus 416 = .ok (.invokevirtual 47, 3) := by decide +kernel
theorem d_Mdl_plus_419 : decode b_Mdl_plus 419 = .ok (.aload_n 0, 1) := by decide +kernel
theorem d_Mdl_plus_420 : decode b_Mdl_plus 420 = .ok (.getfield 13, 3) := by decide +kernel
theorem d_Mdl_plus_423 : decode b_Mdl_plus 423 = .ok (.aload_n 1, 1) := by decide +kernel
theorem d_Mdl_plus_424 : decode b_Mdl_plus 424 = .ok (.getfield 29, 3) := by decide +kernel
theorem d_Mdl_plus_427 : decode b_Mdl_plus 427 = .ok (.aload_n 0, 1) := by decide +kernel
theorem d_Mdl_plus_428 : decode b_Mdl_plus 428 = .ok (.getfield 32, 3) := by decide +kernel
theorem d_Mdl_plus_431 : decode b_Mdl_plus 431 = .ok (.aload_n 1, 1) := by decide +kernel
theorem d_Mdl_plus_432 : decode b_Mdl_plus 432 = .ok (.getfield 29, 3) := by decide +kernel
theorem d_Mdl_plus_435 : decode b_Mdl_plus 435 = .ok (.invokevirtual 47, 3) := by decide +kernel
theorem d_Mdl_plus_438 : decode b_Mdl_plus 438 = .ok (.aload_n 0, 1) := by decide +kernel
theorem d_Mdl_plus_439 : decode b_Mdl_plus 439 = .ok (.getfield 13, 3) := by decide +kernel
theorem d_Mdl_plus_442 : decode b_Mdl_plus 442 = .ok (.aload_n 0, 1) := by decide +kernel
theorem d_Mdl_plus_443 : decode b_Mdl_plus 443 = .ok (.getfield 32, 3) := by decide +kernel
theorem d_Mdl_plus_446 : decode b_Mdl_plus 446 = .ok (.aload_n 1, 1) := by decide +kernel
theorem d_Mdl_plus_447 : decode b_Mdl_plus 447 = .ok (.getfield 29, 3) := by decide +kernel
theorem d_Mdl_plus_450 : decode b_Mdl_plus 450 = .ok (.aload_n 0, 1) := by decide +kernel
theorem d_Mdl_plus_451 : decode b_Mdl_plus 451 = .ok (.getfield 32, 3) := by decide +kernel
theorem d_Mdl_plus_454 : decode b_Mdl_plus 454 = .ok (.invokevirtual 47, 3) := by decide +kernel
theorem d_Mdl_plus_457 : decode b_Mdl_plus 457 = .ok (.aload_n 0, 1) := by decide +kernel
theorem d_Mdl_plus_458 : decode b_Mdl_plus 458 = .ok (.getfield 13, 3) := by decide +kernel
theorem d_Mdl_plus_461 : decode b_Mdl_plus 461 = .ok (.aload_n 0, 1) := by decide +kernel
theorem d_Mdl_plus_462 : decode b_Mdl_plus 462 = .ok (.getfield 38, 3) := by decide +kernel
theorem d_Mdl_plus_465 : decode b_Mdl_plus 465 = .ok (.aload_n 0, 1) := by decide +kernel
theorem d_Mdl_plus_466 : decode b_Mdl_plus 466 = .ok (.getfield 32, 3) := by decide +kernel
theorem d_Mdl_plus_469 : decode b_Mdl_plus 469 = .ok (.aload_n 1, 1) := by decide +kernel
theorem d_Mdl_plus_470 : decode b_Mdl_plus 470 = .ok (.getfield 19, 3) := by decide +kernel
theorem d_Mdl_plus_473 : decode b_Mdl_plus 473 = .ok (.invokevirtual 25, 3) := by decide +kernel
theorem d_Mdl_plus_476 : decode b_Mdl_plus 476 = .ok (.aload_n 0, 1) := by decide +kernel
theorem d_Mdl_plus_477 : decode b_Mdl_plus 477 = .ok (.getfield 13, 3) := by decide +kernel
theorem d_Mdl_plus_480 : decode b_Mdl_plus 480 = .ok (.aload_n 0, 1) := by decide +kernel
theorem d_Mdl_plus_481 : decode b_Mdl_plus 481 = .ok (.getfield 22, 3) := by decide +kernel
theorem d_Mdl_plus_484 : decode b_Mdl_plus 484 = .ok (.aload_n 0, 1) := by decide +kernel
theorem d_Mdl_plus_485 : decode b_Mdl_plus 485 = .ok (.getfield 44, 3) := by decide +kernel
theorem d_Mdl_plus_488 : decode b_Mdl_plus 488 = .ok (.aload_n 0, 1) := by decide +kernel
theorem d_Mdl_plus_489 : decode b_Mdl_plus 489 = .ok (.getfield 22, 3) := by decide +kernel
theorem d_Mdl_plus_492 : decode b_Mdl_plus 492 = .ok (.invokevirtual 25, 3) := by decide +kernel
theorem d_Mdl_plus_495 : decode b_Mdl_plus 495 = .ok (.aload_n 0, 1) := by decide +kernel
theorem d_Mdl_plus_496 : decode b_Mdl_plus 496 = .ok (.getfield 13, 3) := by decide +kernel
theorem d_Mdl_plus_499 : decode b_Mdl_plus 499 = .ok (.aload_n 1, 1) := by decide +kernel
theorem d_Mdl_plus_500 : decode b_Mdl_plus 500 = .ok (.getfield 19, 3) := by decide +kernel
theorem d_Mdl_plus_503 : decode b_Mdl_plus 503 = .ok (.aload_n 0, 1) := by decide +kernel
theorem d_Mdl_plus_504 : decode b_Mdl_plus 504 = .ok (.getfield 22, 3) := by decide +kernel
theorem d_Mdl_plus_507 : decode b_Mdl_plus 507 = .ok (.aload_n 1, 1) := by decide +kernel
theorem d_Mdl_plus_508 : decode b_Mdl_plus 508 = .ok (.getfield 19, 3) := by decide +kernel
theorem d_Mdl_plus_511 : decode b_Mdl_plus 511 = .ok (.invokevirtual 47, 3) := by decide +kernel
theorem d_Mdl_plus_514 : decode b_Mdl_plus 514 = .ok (.return_, 1) := by decide +kernel
theorem d_Mdl_times_p_0 : decode b_Mdl_times_p 0 = .ok (.iconst 0, 1) := by decide +kernel
theorem d_Mdl_times_p_1 : decode b_Mdl_times_p 1 = .ok (.istore 4, 2) := by decide +kernel
theorem d_Mdl_times_p_3 : decode b_Mdl_times_p 3 = .ok (.iload 4, 2) := by decide +kernel
theorem d_Mdl_times_p_5 : decode b_Mdl_times_p 5 = .ok (.bipush 8, 2) := by decide +kernel
theorem d_Mdl_times_p_7 : decode b_Mdl_times_p 7 = .ok (.if_icmp .ge 17, 3) := by decide +kernel
theorem d_Mdl_times_p_10 : decode b_Mdl_times_p 10 = .ok (.aload_n 3, 1) := by decide +kernel
theorem d_Mdl_times_p_11 : decode b_Mdl_times_p 11 = .ok (.getfield 1, 3) := by decide +kernel
theorem d_Mdl_times_p_14 : decode b_Mdl_times_p 14 = .ok (.iload 4, 2) := by decide +kernel
theorem d_Mdl_times_p_16 : decode b_Mdl_times_p 16 = .ok (.iconst 0, 1) := by decide +kernel
theorem d_Mdl_times_p_17 : decode b_Mdl_times_p 17 = .ok (.iastore, 1) := by decide +kernel
theorem d_Mdl_times_p_18 : decode b_Mdl_times_p 18 = .ok (.iinc 4 1, 3) := by decide +kernel
theorem d_Mdl_times_p_21 : decode b_Mdl_times_p 21 = .ok (.goto (-18), 3) := by decide +kernel
theorem d_Mdl_times_p_24 : decode b_Mdl_times_p 24 = .ok (.sipush 255, 3) := by decide +kernel
theorem d_Mdl_times_p_27 : decode b_Mdl_times_p 27 = .ok (.istore 4, 2) := by decide +kernel
theorem d_Mdl_times_p_29 : decode b_Mdl_times_p 29 = .ok (.iload 4, 2) := by decide +kernel
theorem d_Mdl_times_p_31 : decode b_Mdl_times_p 31 = .ok (.ifCond .lt 39, 3) := by decide +kernel
theorem d_Mdl_times_p_34 : decode b_Mdl_times_p 34 = .ok (.aload_n 0, 1) := by decide +kernel
theorem d_Mdl_times_p_35 : decode b_Mdl_times_p 35 = .ok (.aload_n 3, 1) := by decide +kernel
theorem d_Mdl_times_p_36 : decode b_Mdl_times_p 36 = .ok (.invokevirtual 54, 3) := by decide +kernel
theorem d_Mdl_times_p_39 : decode b_Mdl_times_p 39 = .ok (.aload_n 1, 1) := by decide +kernel
theorem d_Mdl_times_p_40 : decode b_Mdl_times_p 40 = .ok (.iload 4, 2) := by decide +kernel
theorem d_Mdl_times_p_42 : decode b_Mdl_times_p 42 = .ok (.bipush 32, 2) := by decide +kernel
theorem d_Mdl_times_p_44 : decode b_Mdl_times_p 44 = .ok (.idiv, 1) := by decide +kernel
theorem d_Mdl_times_p_45 : decode b_Mdl_times_p 45 = .ok (.iaload, 1) := by decide +kernel
theorem d_Mdl_times_p_46 : decode b_Mdl_times_p 46 = .ok (.iload 4, 2) := by decide +kernel
theorem d_Mdl_times_p_48 : decode b_Mdl_times_p 48 = .ok (.bipush 32, 2) := by decide +kernel
theorem d_Mdl_times_p_50 : decode b_Mdl_times_p 50 = .ok (.irem, 1) := by decide +kernel
theorem d_Mdl_times_p_51 : decode b_Mdl_times_p 51 = .ok (.ishr, 1) := by decide +kernel
theorem d_Mdl_times_p_52 : decode b_Mdl_times_p 52 = .ok (.iconst 1, 1) := by decide +kernel
theorem d_Mdl_times_p_53 : decode b_Mdl_times_p 53 = .ok (.iand, 1) := by decide +kernel
theorem d_Mdl_times_p_54 : decode b_Mdl_times_p 54 = .ok (.iconst 1, 1) := by decide +kernel
theorem d_Mdl_times_p_55 : decode b_Mdl_times_p 55 = .ok (.if_icmp .ne 9, 3) := by decide +kernel
theorem d_Mdl_times_p_58 : decode b_Mdl_times_p 58 = .ok (.aload_n 0, 1) := by decide +kernel
theorem d_Mdl_times_p_59 : decode b_Mdl_times_p 59 = .ok (.aload_n 3, 1) := by decide +kernel
theorem d_Mdl_times_p_60 : decode b_Mdl_times_p 60 = .ok (.aload_n 2, 1) := by decide +kernel
theorem d_Mdl_times_p_61 : decode b_Mdl_times_p 61 = .ok (.invokevirtual 57, 3) := by decide +kernel
theorem d_Mdl_times_p_64 : decode b_Mdl_times_p 64 = .ok (.iinc 4 (-1), 3) := by decide +kernel
theorem d_Mdl_times_p_67 : decode b_Mdl_times_p 67 = .ok (.goto (-38), 3) := by decide +kernel
theorem d_Mdl_times_p_70 : decode b_Mdl_times_p 70 = .ok (.return_, 1) := by decide +kernel
theorem d_Mdl_flat_0 : decode b_Mdl_flat 0 = .ok (.aload_n 0, 1) := by decide +kernel
theorem d_Mdl_flat_1 : decode b_Mdl_flat 1 = .ok (.getfield 13, 3) := by decide +kernel
theorem d_Mdl_flat_4 : decode b_Mdl_flat 4 = .ok (.aload_n 1, 1) := by decide +kernel
theorem d_Mdl_flat_5 : decode b_Mdl_flat 5 = .ok (.getfield 1, 3) := by decide +kernel
theorem d_Mdl_flat_8 : decode b_Mdl_flat 8 = .ok (.bipush (-2), 2) := by decide +kernel
theorem d_Mdl_flat_10 : decode b_Mdl_flat 10 = .ok (.iconst 0, 1) := by decide +kernel
theorem d_Mdl_flat_11 : decode b_Mdl_flat 11 = .ok (.aload_n 0, 1) := by decide +kernel
theorem d_Mdl_flat_12 : decode b_Mdl_flat 12 = .ok (.getfield 22, 3) := by decide +kernel
theorem d_Mdl_flat_15 : decode b_Mdl_flat 15 = .ok (.invokevirtual 61, 3) := by decide +kernel
theorem d_Mdl_flat_18 : decode b_Mdl_flat 18 = .ok (.aload_n 0, 1) := by decide +kernel
theorem d_Mdl_flat_19 : decode b_Mdl_flat 19 = .ok (.getfield 13, 3) := by decide +kernel
theorem d_Mdl_flat_22 : decode b_Mdl_flat 22 = .ok (.aload_n 0, 1) := by decide +kernel
theorem d_Mdl_flat_23 : decode b_Mdl_flat 23 = .ok (.getfield 22, 3) := by decide +kernel
theorem d_Mdl_flat_26 : decode b_Mdl_flat 26 = .ok (.aload_n 0, 1) := by decide +kernel
theorem d_Mdl_flat_27 : decode b_Mdl_flat 27 = .ok (.getfield 22, 3) := by decide +kernel
theorem d_Mdl_flat_30 : decode b_Mdl_flat 30 = .ok (.aload_n 0, 1) := by decide +kernel
theorem d_Mdl_flat_31 : decode b_Mdl_flat 31 = .ok (.getfield 32, 3) := by decide +kernel
theorem d_Mdl_flat_34 : decode b_Mdl_flat 34 = .ok (.invokevirtual 25, 3) := by decide +kernel
theorem d_Mdl_flat_37 : decode b_Mdl_flat 37 = .ok (.aload_n 0, 1) := by decide +kernel
theorem d_Mdl_flat_38 : decode b_Mdl_flat 38 = .ok (.getfield 13, 3) := by decide +kernel
theorem d_Mdl_flat_41 : decode b_Mdl_flat 41 = .ok (.aload_n 1, 1) := by decide +kernel
theorem d_Mdl_flat_42 : decode b_Mdl_flat 42 = .ok (.getfield 29, 3) := by decide +kernel
theorem d_Mdl_flat_45 : decode b_Mdl_flat 45 = .ok (.aload_n 0, 1) := by decide +kernel
theorem d_Mdl_flat_46 : decode b_Mdl_flat 46 = .ok (.getfield 32, 3) := by decide +kernel
theorem d_Mdl_flat_49 : decode b_Mdl_flat 49 = .ok (.aload_n 2, 1) := by decide +kernel
theorem d_Mdl_flat_50 : decode b_Mdl_flat 50 = .ok (.invokevirtual 25, 3) := by decide +kernel
theorem d_Mdl_flat_53 : decode b_Mdl_flat 53 = .ok (.aload_n 0, 1) := by decide +kernel
theorem d_Mdl_flat_54 : decode b_Mdl_flat 54 = .ok (.getfield 13, 3) := by decide +kernel
theorem d_Mdl_flat_57 : decode b_Mdl_flat 57 = .ok (.aload_n 0, 1) := by decide +kernel
theorem d_Mdl_flat_58 : decode b_Mdl_flat 58 = .ok (.getfield 32, 3) := by decide +kernel
theorem d_Mdl_flat_61 : decode b_Mdl_flat 61 = .ok (.aload_n 0, 1) := by decide +kernel
theorem d_Mdl_flat_62 : decode b_Mdl_flat 62 = .ok (.getfield 22, 3) := by decide +kernel
theorem d_Mdl_flat_65 : decode b_Mdl_flat 65 = .ok (.aload_n 0, 1) := by decide +kernel
theorem d_Mdl_flat_66 : decode b_Mdl_flat 66 = .ok (.getfield 32, 3) := by decide +kernel
theorem d_Mdl_flat_69 : decode b_Mdl_flat 69 = .ok (.invokevirtual 25, 3) := by decide +kernel
theorem d_Mdl_flat_72 : decode b_Mdl_flat 72 = .ok (.aload_n 0, 1) := by decide +kernel
theorem d_Mdl_flat_73 : decode b_Mdl_flat 73 = .ok (.getfield 13, 3) := by decide +kernel
theorem d_Mdl_flat_76 : decode b_Mdl_flat 76 = .ok (.aload_n 1, 1) := by decide +kernel
theorem d_Mdl_flat_77 : decode b_Mdl_flat 77 = .ok (.getfield 19, 3) := by decide +kernel
theorem d_Mdl_flat_80 : decode b_Mdl_flat 80 = .ok (.aload_n 0, 1) := by decide +kernel
theorem d_Mdl_flat_81 : decode b_Mdl_flat 81 = .ok (.getfield 32, 3) := by decide +kernel
theorem d_Mdl_flat_84 : decode b_Mdl_flat 84 = .ok (.aload_n 3, 1) := by decide +kernel
theorem d_Mdl_flat_85 : decode b_Mdl_flat 85 = .ok (.invokevirtual 25, 3) := by decide +kernel
theorem d_Mdl_flat_88 : decode b_Mdl_flat 88 = .ok (.aload_n 0, 1) := by decide +kernel
theorem d_Mdl_flat_89 : decode b_Mdl_flat 89 = .ok (.getfield 13, 3) := by decide +kernel
theorem d_Mdl_flat_92 : decode b_Mdl_flat 92 = .ok (.aload_n 2, 1) := by decide +kernel
theorem d_Mdl_flat_93 : decode b_Mdl_flat 93 = .ok (.aload_n 2, 1) := by decide +kernel
theorem d_Mdl_flat_94 : decode b_Mdl_flat 94 = .ok (.invokevirtual 65, 3) := by decide +kernel
theorem d_Mdl_flat_97 : decode b_Mdl_flat 97 = .ok (.aload_n 0, 1) := by decide +kernel
theorem d_Mdl_flat_98 : decode b_Mdl_flat 98 = .ok (.getfield 13, 3) := by decide +kernel
theorem d_Mdl_flat_101 : decode b_Mdl_flat 101 = .ok (.aload_n 3, 1) := by decide +kernel
theorem d_Mdl_flat_102 : decode b_Mdl_flat 102 = .ok (.aload_n 3, 1) := by decide +kernel
theorem d_Mdl_flat_103 : decode b_Mdl_flat 103 = .ok (.invokevirtual 65, 3) := by decide +kernel
theorem d_Mdl_flat_106 : decode b_Mdl_flat 106 = .ok (.return_, 1) := by decide +kernel
theorem d_Mdl_init_0 : decode b_Mdl_init 0 = .ok (.aload_n 0, 1) := by decide +kernel
theorem d_Mdl_init_1 : decode b_Mdl_init 1 = .ok (.invokespecial 69, 3) := by decide +kernel
theorem d_Mdl_init_4 : decode b_Mdl_init 4 = .ok (.aload_n 0, 1) := by decide +kernel
theorem d_Mdl_init_5 : decode b_Mdl_init 5 = .ok (.bipush 8, 2) := by decide +kernel
theorem d_Mdl_init_7 : decode b_Mdl_init 7 = .ok (.newarray .int, 2) := by decide +kernel
theorem d_Mdl_init_9 : decode b_Mdl_init 9 = .ok (.putfield 75, 3) := by decide +kernel
theorem d_Mdl_init_12 : decode b_Mdl_init 12 = .ok (.aload_n 0, 1) := by decide +kernel
theorem d_Mdl_init_13 : decode b_Mdl_init 13 = .ok (.new 2, 3) := by decide +kernel
theorem d_Mdl_init_16 : decode b_Mdl_init 16 = .ok (.dup, 1) := by decide +kernel
theorem d_Mdl_init_17 : decode b_Mdl_init 17 = .ok (.invokespecial 78, 3) := by decide +kernel
theorem d_Mdl_init_20 : decode b_Mdl_init 20 = .ok (.putfield 79, 3) := by decide +kernel
theorem d_Mdl_init_23 : decode b_Mdl_init 23 = .ok (.aload_n 0, 1) := by decide +kernel
theorem d_Mdl_init_24 : decode b_Mdl_init 24 = .ok (.new 2, 3) := by decide +kernel
theorem d_Mdl_init_27 : decode b_Mdl_init 27 = .ok (.dup, 1) := by decide +kernel
theorem d_Mdl_init_28 : decode b_Mdl_init 28 = .ok (.invokespecial 78, 3) := by decide +kernel
theorem d_Mdl_init_31 : decode b_Mdl_init 31 = .ok (.putfield 83, 3) := by decide +kernel
theorem d_Mdl_init_34 : decode b_Mdl_init 34 = .ok (.aload_n 0, 1) := by decide +kernel
theorem d_Mdl_init_35 : decode b_Mdl_init 35 = .ok (.new 2, 3) := by decide +kernel
theorem d_Mdl_init_38 : decode b_Mdl_init 38 = .ok (.dup, 1) := by decide +kernel
theorem d_Mdl_init_39 : decode b_Mdl_init 39 = .ok (.invokespecial 78, 3) := by decide +kernel
theorem d_Mdl_init_42 : decode b_Mdl_init 42 = .ok (.putfield 86, 3) := by decide +kernel
theorem d_Mdl_init_45 : decode b_Mdl_init 45 = .ok (.aload_n 0, 1) := by decide +kernel
theorem d_Mdl_init_46 : decode b_Mdl_init 46 = .ok (.new 2, 3) := by decide +kernel
theorem d_Mdl_init_49 : decode b_Mdl_init 49 = .ok (.dup, 1) := by decide +kernel
theorem d_Mdl_init_50 : decode b_Mdl_init 50 = .ok (.invokespecial 78, 3) := by decide +kernel
theorem d_Mdl_init_53 : decode b_Mdl_init 53 = .ok (.putfield 89, 3) := by decide +kernel
theorem d_Mdl_init_56 : decode b_Mdl_init 56 = .ok (.aload_n 0, 1) := by decide +kernel
theorem d_Mdl_init_57 : decode b_Mdl_init 57 = .ok (.bipush 8, 2) := by decide +kernel
theorem d_Mdl_init_59 : decode b_Mdl_init 59 = .ok (.newarray .int, 2) := by decide +kernel
theorem d_Mdl_init_61 : decode b_Mdl_init 61 = .ok (.putfield 22, 3) := by decide +kernel
theorem d_Mdl_init_64 : decode b_Mdl_init 64 = .ok (.aload_n 0, 1) := by decide +kernel
theorem d_Mdl_init_65 : decode b_Mdl_init 65 = .ok (.bipush 8, 2) := by decide +kernel
theorem d_Mdl_init_67 : decode b_Mdl_init 67 = .ok (.newarray .int, 2) := by decide +kernel
theorem d_Mdl_init_69 : decode b_Mdl_init 69 = .ok (.putfield 32, 3) := by decide +kernel
theorem d_Mdl_init_72 : decode b_Mdl_init 72 = .ok (.aload_n 0, 1) := by decide +kernel
theorem d_Mdl_init_73 : decode b_Mdl_init 73 = .ok (.bipush 8, 2) := by decide +kernel
theorem d_Mdl_init_75 : decode b_Mdl_init 75 = .ok (.newarray .int, 2) := by decide +kernel
theorem d_Mdl_init_77 : decode b_Mdl_init 77 = .ok (.putfield 38, 3) := by decide +kernel
theorem d_Mdl_init_80 : decode b_Mdl_init 80 = .ok (.aload_n 0, 1) := by decide +kernel
theorem d_Mdl_init_81 : decode b_Mdl_init 81 = .ok (.bipush 8, 2) := by decide +kernel
theorem d_Mdl_init_83 : decode b_Mdl_init 83 = .ok (.newarray .int, 2) := by decide +kernel
theorem d_Mdl_init_85 : decode b_Mdl_init 85 = .ok (.putfield 41, 3) := by decide +kernel
theorem d_Mdl_init_88 : decode b_Mdl_init 88 = .ok (.aload_n 0, 1) := by decide +kernel
theorem d_Mdl_init_89 : decode b_Mdl_init 89 = .ok (.bipush 8, 2) := by decide +kernel
theorem d_Mdl_init_91 : decode b_Mdl_init 91 = .ok (.newarray .int, 2) := by decide +kernel
theorem d_Mdl_init_93 : decode b_Mdl_init 93 = .ok (.putfield 44, 3) := by decide +kernel
theorem d_Mdl_init_96 : decode b_Mdl_init 96 = .ok (.aload_n 0, 1) := by decide +kernel
theorem d_Mdl_init_97 : decode b_Mdl_init 97 = .ok (.bipush 8, 2) := by decide +kernel
theorem d_Mdl_init_99 : decode b_Mdl_init 99 = .ok (.newarray .int, 2) := by decide +kernel
theorem d_Mdl_init_101 : decode b_Mdl_init 101 = .ok (.putfield 92, 3) := by decide +kernel
theorem d_Mdl_init_104 : decode b_Mdl_init 104 = .ok (.aload_n 0, 1) := by decide +kernel
theorem d_Mdl_init_105 : decode b_Mdl_init 105 = .ok (.bipush 8, 2) := by decide +kernel
theorem d_Mdl_init_107 : decode b_Mdl_init 107 = .ok (.newarray .int, 2) := by decide +kernel
theorem d_Mdl_init_109 : decode b_Mdl_init 109 = .ok (.putfield 95, 3) := by decide +kernel
theorem d_Mdl_init_112 : decode b_Mdl_init 112 = .ok (.aload_n 0, 1) := by decide +kernel
theorem d_Mdl_init_113 : decode b_Mdl_init 113 = .ok (.bipush 8, 2) := by decide +kernel
theorem d_Mdl_init_115 : decode b_Mdl_init 115 = .ok (.newarray .int, 2) := by decide +kernel
theorem d_Mdl_init_117 : decode b_Mdl_init 117 = .ok (.putfield 98, 3) := by decide +kernel
theorem d_Mdl_init_120 : decode b_Mdl_init 120 = .ok (.aload_n 0, 1) := by decide +kernel
theorem d_Mdl_init_121 : decode b_Mdl_init 121 = .ok (.bipush 8, 2) := by decide +kernel
theorem d_Mdl_init_123 : decode b_Mdl_init 123 = .ok (.bipush 8, 2) := by decide +kernel
theorem d_Mdl_init_125 : decode b_Mdl_init 125 = .ok (.multianewarray 101 2, 4) := by decide +kernel
theorem d_Mdl_init_129 : decode b_Mdl_init 129 = .ok (.putfield 103, 3) := by decide +kernel
theorem d_Mdl_init_132 : decode b_Mdl_init 132 = .ok (.aload_n 0, 1) := by decide +kernel
theorem d_Mdl_init_133 : decode b_Mdl_init 133 = .ok (.iconst 4, 1) := by decide +kernel
theorem d_Mdl_init_134 : decode b_Mdl_init 134 = .ok (.anewarray 2, 3) := by decide +kernel
theorem d_Mdl_init_137 : decode b_Mdl_init 137 = .ok (.putfield 106, 3) := by decide +kernel
theorem d_Mdl_init_140 : decode b_Mdl_init 140 = .ok (.aload_n 0, 1) := by decide +kernel
theorem d_Mdl_init_141 : decode b_Mdl_init 141 = .ok (.new 2, 3) := by decide +kernel
theorem d_Mdl_init_144 : decode b_Mdl_init 144 = .ok (.dup, 1) := by decide +kernel
theorem d_Mdl_init_145 : decode b_Mdl_init 145 = .ok (.invokespecial 78, 3) := by decide +kernel
theorem d_Mdl_init_148 : decode b_Mdl_init 148 = .ok (.putfield 110, 3) := by decide +kernel
theorem d_Mdl_init_151 : decode b_Mdl_init 151 = .ok (.aload_n 0, 1) := by decide +kernel
theorem d_Mdl_init_152 : decode b_Mdl_init 152 = .ok (.bipush 8, 2) := by decide +kernel
theorem d_Mdl_init_154 : decode b_Mdl_init 154 = .ok (.newarray .int, 2) := by decide +kernel
theorem d_Mdl_init_156 : decode b_Mdl_init 156 = .ok (.putfield 113, 3) := by decide +kernel
theorem d_Mdl_init_159 : decode b_Mdl_init 159 = .ok (.aload_n 0, 1) := by decide +kernel
theorem d_Mdl_init_160 : decode b_Mdl_init 160 = .ok (.bipush 8, 2) := by decide +kernel
theorem d_Mdl_init_162 : decode b_Mdl_init 162 = .ok (.newarray .int, 2) := by decide +kernel
theorem d_Mdl_init_164 : decode b_Mdl_init 164 = .ok (.putfield 116, 3) := by decide +kernel
theorem d_Mdl_init_167 : decode b_Mdl_init 167 = .ok (.aload_n 0, 1) := by decide +kernel
theorem d_Mdl_init_168 : decode b_Mdl_init 168 = .ok (.bipush 8, 2) := by decide +kernel
theorem d_Mdl_init_170 : decode b_Mdl_init 170 = .ok (.newarray .int, 2) := by decide +kernel
theorem d_Mdl_init_172 : decode b_Mdl_init 172 = .ok (.putfield 119, 3) := by decide +kernel
theorem d_Mdl_init_175 : decode b_Mdl_init 175 = .ok (.aload_n 0, 1) := by decide +kernel
theorem d_Mdl_init_176 : decode b_Mdl_init 176 = .ok (.bipush 8, 2) := by decide +kernel
theorem d_Mdl_init_178 : decode b_Mdl_init 178 = .ok (.newarray .int, 2) := by decide +kernel
theorem d_Mdl_init_180 : decode b_Mdl_init 180 = .ok (.putfield 122, 3) := by decide +kernel
theorem d_Mdl_init_183 : decode b_Mdl_init 183 = .ok (.bipush 8, 2) := by decide +kernel
theorem d_Mdl_init_185 : decode b_Mdl_init 185 = .ok (.newarray .int, 2) := by decide +kernel
theorem d_Mdl_init_187 : decode b_Mdl_init 187 = .ok (.dup, 1) := by decide +kernel
theorem d_Mdl_init_188 : decode b_Mdl_init 188 = .ok (.iconst 0, 1) := by decide +kernel
theorem d_Mdl_init_189 : decode b_Mdl_init 189 = .ok (.sipush (-977), 3) := by decide +kernel
theorem d_Mdl_init_192 : decode b_Mdl_init 192 = .ok (.iastore, 1) := by decide +kernel
theorem d_Mdl_init_193 : decode b_Mdl_init 193 = .ok (.dup, 1) := by decide +kernel
theorem d_Mdl_init_194 : decode b_Mdl_init 194 = .ok (.iconst 1, 1) := by decide +kernel
theorem d_Mdl_init_195 : decode b_Mdl_init 195 = .ok (.bipush (-2), 2) := by decide +kernel
theorem d_Mdl_init_197 : decode b_Mdl_init 197 = .ok (.iastore, 1) := by decide +kernel
theorem d_Mdl_init_198 : decode b_Mdl_init 198 = .ok (.dup, 1) := by decide +kernel
theorem d_Mdl_init_199 : decode b_Mdl_init 199 = .ok (.iconst 2, 1) := by decide +kernel
theorem d_Mdl_init_200 : decode b_Mdl_init 200 = .ok (.iconst (-1), 1) := by decide +kernel
theorem d_Mdl_init_201 : decode b_Mdl_init 201 = .ok (.iastore, 1) := by decide +kernel
theorem d_Mdl_init_202 : decode b_Mdl_init 202 = .ok (.dup, 1) := by decide +kernel
theorem d_Mdl_init_203 : decode b_Mdl_init 203 = .ok (.iconst 3, 1) := by decide +kernel
theorem d_Mdl_init_204 : decode b_Mdl_init 204 = .ok (.iconst (-1), 1) := by decide +kernel
theorem d_Mdl_init_205 : decode b_Mdl_init 205 = .ok (.iastore, 1) := by decide +kernel
theorem d_Mdl_init_206 : decode b_Mdl_init 206 = .ok (.dup, 1) := by decide +kernel
theorem d_Mdl_init_207 : decode b_Mdl_init 207 = .ok (.iconst 4, 1) := by decide +kernel
theorem d_Mdl_init_208 : decode b_Mdl_init 208 = .ok (.iconst (-1), 1) := by decide +kernel
theorem d_Mdl_init_209 : decode b_Mdl_init 209 = .ok (.iastore, 1) := by decide +kernel
theorem d_Mdl_init_210 : decode b_Mdl_init 210 = .ok (.dup, 1) := by decide +kernel
theorem d_Mdl_init_211 : decode b_Mdl_init 211 = .ok (.iconst 5, 1) := by decide +kernel
theorem d_Mdl_init_212 : decode b_Mdl_init 212 = .ok (.iconst (-1), 1) := by decide +kernel
theorem d_Mdl_init_213 : decode b_Mdl_init 213 = .ok (.iastore, 1) := by decide +kernel
theorem d_Mdl_init_214 : decode b_Mdl_init 214 = .ok (.dup, 1) := by decide +kernel
theorem d_Mdl_init_215 : decode b_Mdl_init 215 = .ok (.bipush 6, 2) := by decide +kernel
theorem d_Mdl_init_217 : decode b_Mdl_init 217 = .ok (.iconst (-1), 1) := by decide +kernel
theorem d_Mdl_init_218 : decode b_Mdl_init 218 = .ok (.iastore, 1) := by decide +kernel
theorem d_Mdl_init_219 : decode b_Mdl_init 219 = .ok (.dup, 1) := by decide +kernel
theorem d_Mdl_init_220 : decode b_Mdl_init 220 = .ok (.bipush 7, 2) := by decide +kernel
theorem d_Mdl_init_222 : decode b_Mdl_init 222 = .ok (.iconst (-1), 1) := by decide +kernel
theorem d_Mdl_init_223 : decode b_Mdl_init 223 = .ok (.iastore, 1) := by decide +kernel
theorem d_Mdl_init_224 : decode b_Mdl_init 224 = .ok (.astore_n 1, 1) := by decide +kernel
theorem d_Mdl_init_225 : decode b_Mdl_init 225 = .ok (.bipush 8, 2) := by decide +kernel
theorem d_Mdl_init_227 : decode b_Mdl_init 227 = .ok (.newarray .int, 2) := by decide +kernel
theorem d_Mdl_init_229 : decode b_Mdl_init 229 = .ok (.dup, 1) := by decide +kernel
theorem d_Mdl_init_230 : decode b_Mdl_init 230 = .ok (.iconst 0, 1) := by decide +kernel
theorem d_Mdl_init_231 : decode b_Mdl_init 231 = .ok (.ldc 125, 2) := by decide +kernel
theorem d_Mdl_init_233 : decode b_Mdl_init 233 = .ok (.iastore, 1) := by decide +kernel
theorem d_Mdl_init_234 : decode b_Mdl_init 234 = .ok (.dup, 1) := by decide +kernel
theorem d_Mdl_init_235 : decode b_Mdl_init 235 = .ok (.iconst 1, 1) := by decide +kernel
theorem d_Mdl_init_236 : decode b_Mdl_init 236 = .ok (.ldc 126, 2) := by decide +kernel
theorem d_Mdl_init_238 : decode b_Mdl_init 238 = .ok (.iastore, 1) := by decide +kernel
theorem d_Mdl_init_239 : decode b_Mdl_init 239 = .ok (.dup, 1) := by decide +kernel
theorem d_Mdl_init_240 : decode b_Mdl_init 240 = .ok (.iconst 2, 1) := by decide +kernel
theorem d_Mdl_init_241 : decode b_Mdl_init 241 = .ok (.ldc 127, 2) := by decide +kernel
theorem d_Mdl_init_243 : decode b_Mdl_init 243 = .ok (.iastore, 1) := by decide +kernel
theorem d_Mdl_init_244 : decode b_Mdl_init 244 = .ok (.dup, 1) := by decide +kernel
theorem d_Mdl_init_245 : decode b_Mdl_init 245 = .ok (.iconst 3, 1) := by decide +kernel
theorem d_Mdl_init_246 : decode b_Mdl_init 246 = .ok (.ldc 128, 2) := by decide +kernel
theorem d_Mdl_init_248 : decode b_Mdl_init 248 = .ok (.iastore, 1) := by decide +kernel
theorem d_Mdl_init_249 : decode b_Mdl_init 249 = .ok (.dup, 1) := by decide +kernel
theorem d_Mdl_init_250 : decode b_Mdl_init 250 = .ok (.iconst 4, 1) := by decide +kernel
theorem d_Mdl_init_251 : decode b_Mdl_init 251 = .ok (.bipush (-2), 2) := by decide +kernel
theorem d_Mdl_init_253 : decode b_Mdl_init 253 = .ok (.iastore, 1) := by decide +kernel
theorem d_Mdl_init_254 : decode b_Mdl_init 254 = .ok (.dup, 1) := by decide +kernel
theorem d_Mdl_init_255 : decode b_Mdl_init 255 = .ok (.iconst 5, 1) := by decide +kernel
theorem d_Mdl_init_256 : decode b_Mdl_init 256 = .ok (.iconst (-1), 1) := by decide +kernel
theorem d_Mdl_init_257 : decode b_Mdl_init 257 = .ok (.iastore, 1) := by decide +kernel
theorem d_Mdl_init_258 : decode b_Mdl_init 258 = .ok (.dup, 1) := by decide +kernel
theorem d_Mdl_init_259 : decode b_Mdl_init 259 = .ok (.bipush 6, 2) := by decide +kernel
theorem d_Mdl_init_261 : decode b_Mdl_init 261 = .ok (.iconst (-1), 1) := by decide +kernel
theorem d_Mdl_init_262 : decode b_Mdl_init 262 = .ok (.iastore, 1) := by decide +kernel
theorem d_Mdl_init_263 : decode b_Mdl_init 263 = .ok (.dup, 1) := by decide +kernel
theorem d_Mdl_init_264 : decode b_Mdl_init 264 = .ok (.bipush 7, 2) := by decide +kernel
theorem d_Mdl_init_266 : decode b_Mdl_init 266 = .ok (.iconst (-1), 1) := by decide +kernel
theorem d_Mdl_init_267 : decode b_Mdl_init 267 = .ok (.iastore, 1) := by decide +kernel
theorem d_Mdl_init_268 : decode b_Mdl_init 268 = .ok (.astore_n 2, 1) := by decide +kernel
theorem d_Mdl_init_269 : decode b_Mdl_init 269 = .ok (.aload_n 0, 1) := by decide +kernel
theorem d_Mdl_init_270 : decode b_Mdl_init 270 = .ok (.new 8, 3) := by decide +kernel
theorem d_Mdl_init_273 : decode b_Mdl_init 273 = .ok (.dup, 1) := by decide +kernel
theorem d_Mdl_init_274 : decode b_Mdl_init 274 = .ok (.aload_n 1, 1) := by decide +kernel
theorem d_Mdl_init_275 : decode b_Mdl_init 275 = .ok (.invokespecial 129, 3) := by decide +kernel
theorem d_Mdl_init_278 : decode b_Mdl_init 278 = .ok (.putfield 13, 3) := by decide +kernel
theorem d_Mdl_init_281 : decode b_Mdl_init 281 = .ok (.aload_n 0, 1) := by decide +kernel
theorem d_Mdl_init_282 : decode b_Mdl_init 282 = .ok (.new 8, 3) := by decide +kernel
theorem d_Mdl_init_285 : decode b_Mdl_init 285 = .ok (.dup, 1) := by decide +kernel
theorem d_Mdl_init_286 : decode b_Mdl_init 286 = .ok (.aload_n 2, 1) := by decide +kernel
theorem d_Mdl_init_287 : decode b_Mdl_init 287 = .ok (.invokespecial 129, 3) := by decide +kernel
theorem d_Mdl_init_290 : decode b_Mdl_init 290 = .ok (.putfield 132, 3) := by decide +kernel
theorem d_Mdl_init_293 : decode b_Mdl_init 293 = .ok (.iconst 0, 1) := by decide +kernel
theorem d_Mdl_init_294 : decode b_Mdl_init 294 = .ok (.istore_n 3, 1) := by decide +kernel
theorem d_Mdl_init_295 : decode b_Mdl_init 295 = .ok (.iload_n 3, 1) := by decide +kernel
theorem d_Mdl_init_296 : decode b_Mdl_init 296 = .ok (.iconst 4, 1) := by decide +kernel
theorem d_Mdl_init_297 : decode b_Mdl_init 297 = .ok (.if_icmp .ge 22, 3) := by decide +kernel
theorem d_Mdl_init_300 : decode b_Mdl_init 300 = .ok (.aload_n 0, 1) := by decide +kernel
theorem d_Mdl_init_301 : decode b_Mdl_init 301 = .ok (.getfield 106, 3) := by decide +kernel
theorem d_Mdl_init_304 : decode b_Mdl_init 304 = .ok (.iload_n 3, 1) := by decide +kernel
theorem d_Mdl_init_305 : decode b_Mdl_init 305 = .ok (.new 2, 3) := by decide +kernel
theorem d_Mdl_init_308 : decode b_Mdl_init 308 = .ok (.dup, 1) := by decide +kernel
theorem d_Mdl_init_309 : decode b_Mdl_init 309 = .ok (.invokespecial 78, 3) := by decide +kernel
theorem d_Mdl_init_312 : decode b_Mdl_init 312 = .ok (.aastore, 1) := by decide +kernel
theorem d_Mdl_init_313 : decode b_Mdl_init 313 = .ok (.iinc 3 1, 3) := by decide +kernel
theorem d_Mdl_init_316 : decode b_Mdl_init 316 = .ok (.goto (-21), 3) := by decide +kernel
theorem d_Mdl_init_319 : decode b_Mdl_init 319 = .ok (.aload_n 0, 1) := by decide +kernel
theorem d_Mdl_init_320 : decode b_Mdl_init 320 = .ok (.getfield 75, 3) := by decide +kernel
theorem d_Mdl_init_323 : decode b_Mdl_init 323 = .ok (.iconst 0, 1) := by decide +kernel
theorem d_Mdl_init_324 : decode b_Mdl_init 324 = .ok (.bipush 7, 2) := by decide +kernel
theorem d_Mdl_init_326 : decode b_Mdl_init 326 = .ok (.iastore, 1) := by decide +kernel
theorem d_Mdl_init_327 : decode b_Mdl_init 327 = .ok (.aload_n 0, 1) := by decide +kernel
theorem d_Mdl_init_328 : decode b_Mdl_init 328 = .ok (.getfield 13, 3) := by decide +kernel
theorem d_Mdl_init_331 : decode b_Mdl_init 331 = .ok (.aload_n 0, 1) := by decide +kernel
theorem d_Mdl_init_332 : decode b_Mdl_init 332 = .ok (.getfield 75, 3) := by decide +kernel
theorem d_Mdl_init_335 : decode b_Mdl_init 335 = .ok (.aload_n 0, 1) := by decide +kernel
theorem d_Mdl_init_336 : decode b_Mdl_init 336 = .ok (.getfield 75, 3) := by decide +kernel
theorem d_Mdl_init_339 : decode b_Mdl_init 339 = .ok (.invokevirtual 135, 3) := by decide +kernel
theorem d_Mdl_init_342 : decode b_Mdl_init 342 = .ok (.bipush 8, 2) := by decide +kernel
theorem d_Mdl_init_344 : decode b_Mdl_init 344 = .ok (.newarray .int, 2) := by decide +kernel
theorem d_Mdl_init_346 : decode b_Mdl_init 346 = .ok (.dup, 1) := by decide +kernel
theorem d_Mdl_init_347 : decode b_Mdl_init 347 = .ok (.iconst 0, 1) := by decide +kernel
theorem d_Mdl_init_348 : decode b_Mdl_init 348 = .ok (.ldc 138, 2) := by decide +kernel
theorem d_Mdl_init_350 : decode b_Mdl_init 350 = .ok (.iastore, 1) := by decide +kernel
theorem d_Mdl_init_351 : decode b_Mdl_init 351 = .ok (.dup, 1) := by decide +kernel
theorem d_Mdl_init_352 : decode b_Mdl_init 352 = .ok (.iconst 1, 1) := by decide +kernel
theorem d_Mdl_init_353 : decode b_Mdl_init 353 = .ok (.ldc 139, 2) := by decide +kernel
theorem d_Mdl_init_355 : decode b_Mdl_init 355 = .ok (.iastore, 1) := by decide +kernel
theorem d_Mdl_init_356 : decode b_Mdl_init 356 = .ok (.dup, 1) := by decide +kernel
theorem d_Mdl_init_357 : decode b_Mdl_init 357 = .ok (.iconst 2, 1) := by decide +kernel
theorem d_Mdl_init_358 : decode b_Mdl_init 358 = .ok (.ldc 140, 2) := by decide +kernel
theorem d_Mdl_init_360 : decode b_Mdl_init 360 = .ok (.iastore, 1) := by decide +kernel
theorem d_Mdl_init_361 : decode b_Mdl_init 361 = .ok (.dup, 1) := by decide +kernel
theorem d_Mdl_init_362 : decode b_Mdl_init 362 = .ok (.iconst 3, 1) := by decide +kernel
theorem d_Mdl_init_363 : decode b_Mdl_init 363 = .ok (.ldc 141, 2) := by decide +kernel
theorem d_Mdl_init_365 : decode b_Mdl_init 365 = .ok (.iastore, 1) := by decide +kernel
theorem d_Mdl_init_366 : decode b_Mdl_init 366 = .ok (.dup, 1) := by decide +kernel
theorem d_Mdl_init_367 : decode b_Mdl_init 367 = .ok (.iconst 4, 1) := by decide +kernel
theorem d_Mdl_init_368 : decode b_Mdl_init 368 = .ok (.ldc 142, 2) := by decide +kernel
theorem d_Mdl_init_370 : decode b_Mdl_init 370 = .ok (.iastore, 1) := by decide +kernel
theorem d_Mdl_init_371 : decode b_Mdl_init 371 = .ok (.dup, 1) := by decide +kernel
theorem d_Mdl_init_372 : decode b_Mdl_init 372 = .ok (.iconst 5, 1) := by decide +kernel
theorem d_Mdl_init_373 : decode b_Mdl_init 373 = .ok (.ldc 143, 2) := by decide +kernel
theorem d_Mdl_init_375 : decode b_Mdl_init 375 = .ok (.iastore, 1) := by decide +kernel
theorem d_Mdl_init_376 : decode b_Mdl_init 376 = .ok (.dup, 1) := by decide +kernel
theorem d_Mdl_init_377 : decode b_Mdl_init 377 = .ok (.bipush 6, 2) := by decide +kernel
theorem d_Mdl_init_379 : decode b_Mdl_init 379 = .ok (.ldc 144, 2) := by decide +kernel
theorem d_Mdl_init_381 : decode b_Mdl_init 381 = .ok (.iastore, 1) := by decide +kernel
theorem d_Mdl_init_382 : decode b_Mdl_init 382 = .ok (.dup, 1) := by decide +kernel
theorem d_Mdl_init_383 : decode b_Mdl_init 383 = .ok (.bipush 7, 2) := by decide +kernel
theorem d_Mdl_init_385 : decode b_Mdl_init 385 = .ok (.ldc 145, 2) := by decide +kernel
theorem d_Mdl_init_387 : decode b_Mdl_init 387 = .ok (.iastore, 1) := by decide +kernel
theorem d_Mdl_init_388 : decode b_Mdl_init 388 = .ok (.astore_n 3, 1) := by decide +kernel
theorem d_Mdl_init_389 : decode b_Mdl_init 389 = .ok (.bipush 8, 2) := by decide +kernel
theorem d_Mdl_init_391 : decode b_Mdl_init 391 = .ok (.newarray .int, 2) := by decide +kernel
theorem d_Mdl_init_393 : decode b_Mdl_init 393 = .ok (.dup, 1) := by decide +kernel
theorem d_Mdl_init_394 : decode b_Mdl_init 394 = .ok (.iconst 0, 1) := by decide +kernel
theorem d_Mdl_init_395 : decode b_Mdl_init 395 = .ok (.ldc 146, 2) := by decide +kernel
theorem d_Mdl_init_397 : decode b_Mdl_init 397 = .ok (.iastore, 1) := by decide +kernel
theorem d_Mdl_init_398 : decode b_Mdl_init 398 = .ok (.dup, 1) := by decide +kernel
theorem d_Mdl_init_399 : decode b_Mdl_init 399 = .ok (.iconst 1, 1) := by decide +kernel
theorem d_Mdl_init_400 : decode b_Mdl_init 400 = .ok (.ldc 147, 2) := by decide +kernel
theorem d_Mdl_init_402 : decode b_Mdl_init 402 = .ok (.iastore, 1) := by decide +kernel
theorem d_Mdl_init_403 : decode b_Mdl_init 403 = .ok (.dup, 1) := by decide +kernel
theorem d_Mdl_init_404 : decode b_Mdl_init 404 = .ok (.iconst 2, 1) := by decide +kernel
theorem d_Mdl_init_405 : decode b_Mdl_init 405 = .ok (.ldc 148, 2) := by decide +kernel
theorem d_Mdl_init_407 : decode b_Mdl_init 407 = .ok (.iastore, 1) := by decide +kernel
theorem d_Mdl_init_408 : decode b_Mdl_init 408 = .ok (.dup, 1) := by decide +kernel
theorem d_Mdl_init_409 : decode b_Mdl_init 409 = .ok (.iconst 3, 1) := by decide +kernel
theorem d_Mdl_init_410 : decode b_Mdl_init 410 = .ok (.ldc 149, 2) := by decide +kernel
theorem d_Mdl_init_412 : decode b_Mdl_init 412 = .ok (.iastore, 1) := by decide +kernel
theorem d_Mdl_init_413 : decode b_Mdl_init 413 = .ok (.dup, 1) := by decide +kernel
theorem d_Mdl_init_414 : decode b_Mdl_init 414 = .ok (.iconst 4, 1) := by decide +kernel
theorem d_Mdl_init_415 : decode b_Mdl_init 415 = .ok (.ldc 150, 2) := by decide +kernel
theorem d_Mdl_init_417 : decode b_Mdl_init 417 = .ok (.iastore, 1) := by decide +kernel
theorem d_Mdl_init_418 : decode b_Mdl_init 418 = .ok (.dup, 1) := by decide +kernel
theorem d_Mdl_init_419 : decode b_Mdl_init 419 = .ok (.iconst 5, 1) := by decide +kernel
theorem d_Mdl_init_420 : decode b_Mdl_init 420 = .ok (.ldc 151, 2) := by decide +kernel
theorem d_Mdl_init_422 : decode b_Mdl_init 422 = .ok (.iastore, 1) := by decide +kernel
theorem d_Mdl_init_423 : decode b_Mdl_init 423 = .ok (.dup, 1) := by decide +kernel
theorem d_Mdl_init_424 : decode b_Mdl_init 424 = .ok (.bipush 6, 2) := by decide +kernel
theorem d_Mdl_init_426 : decode b_Mdl_init 426 = .ok (.ldc 152, 2) := by decide +kernel
theorem d_Mdl_init_428 : decode b_Mdl_init 428 = .ok (.iastore, 1) := by decide +kernel
theorem d_Mdl_init_429 : decode b_Mdl_init 429 = .ok (.dup, 1) := by decide +kernel
theorem d_Mdl_init_430 : decode b_Mdl_init 430 = .ok (.bipush 7, 2) := by decide +kernel
theorem d_Mdl_init_432 : decode b_Mdl_init 432 = .ok (.ldc 153, 2) := by decide +kernel
theorem d_Mdl_init_434 : decode b_Mdl_init 434 = .ok (.iastore, 1) := by decide +kernel
theorem d_Mdl_init_435 : decode b_Mdl_init 435 = .ok (.astore 4, 2) := by decide +kernel
theorem d_Mdl_init_437 : decode b_Mdl_init 437 = .ok (.aload_n 0, 1) := by decide +kernel
theorem d_Mdl_init_438 : decode b_Mdl_init 438 = .ok (.getfield 13, 3) := by decide +kernel
theorem d_Mdl_init_441 : decode b_Mdl_init 441 = .ok (.aload_n 3, 1) := by decide +kernel
theorem d_Mdl_init_442 : decode b_Mdl_init 442 = .ok (.aload_n 0, 1) := by decide +kernel
theorem d_Mdl_init_443 : decode b_Mdl_init 443 = .ok (.getfield 79, 3) := by decide +kernel
theorem d_Mdl_init_446 : decode b_Mdl_init 446 = .ok (.getfield 29, 3) := by decide +kernel
theorem d_Mdl_init_449 : decode b_Mdl_init 449 = .ok (.invokevirtual 135, 3) := by decide +kernel
theorem d_Mdl_init_452 : decode b_Mdl_init 452 = .ok (.aload_n 0, 1) := by decide +kernel
theorem d_Mdl_init_453 : decode b_Mdl_init 453 = .ok (.getfield 13, 3) := by decide +kernel
theorem d_Mdl_init_456 : decode b_Mdl_init 456 = .ok (.aload 4, 2) := by decide +kernel
theorem d_Mdl_init_458 : decode b_Mdl_init 458 = .ok (.aload_n 0, 1) := by decide +kernel
theorem d_Mdl_init_459 : decode b_Mdl_init 459 = .ok (.getfield 79, 3) := by decide +kernel
theorem d_Mdl_init_462 : decode b_Mdl_init 462 = .ok (.getfield 19, 3) := by decide +kernel
theorem d_Mdl_init_465 : decode b_Mdl_init 465 = .ok (.invokevirtual 135, 3) := by decide +kernel
theorem d_Mdl_init_468 : decode b_Mdl_init 468 = .ok (.aload_n 0, 1) := by decide +kernel
theorem d_Mdl_init_469 : decode b_Mdl_init 469 = .ok (.getfield 13, 3) := by decide +kernel
theorem d_Mdl_init_472 : decode b_Mdl_init 472 = .ok (.getfield 154, 3) := by decide +kernel
theorem d_Mdl_init_475 : decode b_Mdl_init 475 = .ok (.aload_n 0, 1) := by decide +kernel
theorem d_Mdl_init_476 : decode b_Mdl_init 476 = .ok (.getfield 79, 3) := by decide +kernel
theorem d_Mdl_init_479 : decode b_Mdl_init 479 = .ok (.getfield 1, 3) := by decide +kernel
theorem d_Mdl_init_482 : decode b_Mdl_init 482 = .ok (.invokestatic 157, 3) := by decide +kernel
theorem d_Mdl_init_485 : decode b_Mdl_init 485 = .ok (.return_, 1) := by decide +kernel
theorem d_Mdl_thrown_0 : decode b_Mdl_thrown 0 = .ok (.aload_n 0, 1) := by decide +kernel
theorem d_Mdl_thrown_1 : decode b_Mdl_thrown 1 = .ok (.getfield 160, 3) := by decide +kernel
theorem d_Mdl_thrown_4 : decode b_Mdl_thrown 4 = .ok (.ireturn, 1) := by decide +kernel
theorem d_Mdl_good_0 : decode b_Mdl_good 0 = .ok (.aload_n 0, 1) := by decide +kernel
theorem d_Mdl_good_1 : decode b_Mdl_good 1 = .ok (.iload_n 1, 1) := by decide +kernel
theorem d_Mdl_good_2 : decode b_Mdl_good 2 = .ok (.ifCond .eq 7, 3) := by decide +kernel
theorem d_Mdl_good_5 : decode b_Mdl_good 5 = .ok (.iconst 0, 1) := by decide +kernel
theorem d_Mdl_good_6 : decode b_Mdl_good 6 = .ok (.goto 4, 3) := by decide +kernel
theorem d_Mdl_good_9 : decode b_Mdl_good 9 = .ok (.iconst 1, 1) := by decide +kernel
theorem d_Mdl_good_10 : decode b_Mdl_good 10 = .ok (.putfield 160, 3) := by decide +kernel
theorem d_Mdl_good_13 : decode b_Mdl_good 13 = .ok (.iload_n 1, 1) := by decide +kernel
theorem d_Mdl_good_14 : decode b_Mdl_good 14 = .ok (.ireturn, 1) := by decide +kernel
theorem d_Mdl_in_0 : decode b_Mdl_in 0 = .ok (.iload_n 0, 1) := by decide +kernel
theorem d_Mdl_in_1 : decode b_Mdl_in 1 = .ok (.ifCond .lt 12, 3) := by decide +kernel
theorem d_Mdl_in_4 : decode b_Mdl_in 4 = .ok (.iload_n 0, 1) := by decide +kernel
theorem d_Mdl_in_5 : decode b_Mdl_in 5 = .ok (.iload_n 1, 1) := by decide +kernel
theorem d_Mdl_in_6 : decode b_Mdl_in 6 = .ok (.if_icmp .gt 7, 3) := by decide +kernel
theorem d_Mdl_in_9 : decode b_Mdl_in 9 = .ok (.iconst 1, 1) := by decide +kernel
theorem d_Mdl_in_10 : decode b_Mdl_in 10 = .ok (.goto 4, 3) := by decide +kernel
theorem d_Mdl_in_13 : decode b_Mdl_in 13 = .ok (.iconst 0, 1) := by decide +kernel
theorem d_Mdl_in_14 : decode b_Mdl_in 14 = .ok (.ireturn, 1) := by decide +kernel
theorem d_Mdl_set_0 : decode b_Mdl_set 0 = .ok (.aload_n 0, 1) := by decide +kernel
theorem d_Mdl_set_1 : decode b_Mdl_set 1 = .ok (.iload_n 1, 1) := by decide +kernel
theorem d_Mdl_set_2 : decode b_Mdl_set 2 = .ok (.bipush 7, 2) := by decide +kernel
theorem d_Mdl_set_4 : decode b_Mdl_set 4 = .ok (.invokestatic 164, 3) := by decide +kernel
theorem d_Mdl_set_7 : decode b_Mdl_set 7 = .ok (.ifCond .eq 15, 3) := by decide +kernel
theorem d_Mdl_set_10 : decode b_Mdl_set 10 = .ok (.iload_n 2, 1) := by decide +kernel
theorem d_Mdl_set_11 : decode b_Mdl_set 11 = .ok (.iconst 3, 1) := by decide +kernel
theorem d_Mdl_set_12 : decode b_Mdl_set 12 = .ok (.invokestatic 164, 3) := by decide +kernel
theorem d_Mdl_set_15 : decode b_Mdl_set 15 = .ok (.ifCond .eq 7, 3) := by decide +kernel
theorem d_Mdl_set_18 : decode b_Mdl_set 18 = .ok (.iconst 1, 1) := by decide +kernel
theorem d_Mdl_set_19 : decode b_Mdl_set 19 = .ok (.goto 4, 3) := by decide +kernel
theorem d_Mdl_set_22 : decode b_Mdl_set 22 = .ok (.iconst 0, 1) := by decide +kernel
theorem d_Mdl_set_23 : decode b_Mdl_set 23 = .ok (.invokevirtual 168, 3) := by decide +kernel
theorem d_Mdl_set_26 : decode b_Mdl_set 26 = .ok (.ifCond .ne 4, 3) := by decide +kernel
theorem d_Mdl_set_29 : decode b_Mdl_set 29 = .ok (.return_, 1) := by decide +kernel
theorem d_Mdl_set_30 : decode b_Mdl_set 30 = .ok (.aload_n 0, 1) := by decide +kernel
theorem d_Mdl_set_31 : decode b_Mdl_set 31 = .ok (.getfield 103, 3) := by decide +kernel
theorem d_Mdl_set_34 : decode b_Mdl_set 34 = .ok (.iload_n 1, 1) := by decide +kernel
theorem d_Mdl_set_35 : decode b_Mdl_set 35 = .ok (.aaload, 1) := by decide +kernel
theorem d_Mdl_set_36 : decode b_Mdl_set 36 = .ok (.iconst 2, 1) := by decide +kernel
theorem d_Mdl_set_37 : decode b_Mdl_set 37 = .ok (.iload_n 2, 1) := by decide +kernel
theorem d_Mdl_set_38 : decode b_Mdl_set 38 = .ok (.imul, 1) := by decide +kernel
theorem d_Mdl_set_39 : decode b_Mdl_set 39 = .ok (.lload_n 3, 1) := by decide +kernel
theorem d_Mdl_set_40 : decode b_Mdl_set 40 = .ok (.l2i, 1) := by decide +kernel
theorem d_Mdl_set_41 : decode b_Mdl_set 41 = .ok (.iastore, 1) := by decide +kernel
theorem d_Mdl_set_42 : decode b_Mdl_set 42 = .ok (.aload_n 0, 1) := by decide +kernel
theorem d_Mdl_set_43 : decode b_Mdl_set 43 = .ok (.getfield 103, 3) := by decide +kernel
theorem d_Mdl_set_46 : decode b_Mdl_set 46 = .ok (.iload_n 1, 1) := by decide +kernel
theorem d_Mdl_set_47 : decode b_Mdl_set 47 = .ok (.aaload, 1) := by decide +kernel
theorem d_Mdl_set_48 : decode b_Mdl_set 48 = .ok (.iconst 2, 1) := by decide +kernel
theorem d_Mdl_set_49 : decode b_Mdl_set 49 = .ok (.iload_n 2, 1) := by decide +kernel
theorem d_Mdl_set_50 : decode b_Mdl_set 50 = .ok (.imul, 1) := by decide +kernel
theorem d_Mdl_set_51 : decode b_Mdl_set 51 = .ok (.iconst 1, 1) := by decide +kernel
theorem d_Mdl_set_52 : decode b_Mdl_set 52 = .ok (.iadd, 1) := by decide +kernel
theorem d_Mdl_set_53 : decode b_Mdl_set 53 = .ok (.lload_n 3, 1) := by decide +kernel
theorem d_Mdl_set_54 : decode b_Mdl_set 54 = .ok (.bipush 32, 2) := by decide +kernel
theorem d_Mdl_set_56 : decode b_Mdl_set 56 = .ok (.lushr, 1) := by decide +kernel
theorem d_Mdl_set_57 : decode b_Mdl_set 57 = .ok (.l2i, 1) := by decide +kernel
theorem d_Mdl_set_58 : decode b_Mdl_set 58 = .ok (.iastore, 1) := by decide +kernel
theorem d_Mdl_set_59 : decode b_Mdl_set 59 = .ok (.return_, 1) := by decide +kernel
theorem d_Mdl_get_0 : decode b_Mdl_get 0 = .ok (.aload_n 0, 1) := by decide +kernel
theorem d_Mdl_get_1 : decode b_Mdl_get 1 = .ok (.iload_n 1, 1) := by decide +kernel
theorem d_Mdl_get_2 : decode b_Mdl_get 2 = .ok (.bipush 7, 2) := by decide +kernel
theorem d_Mdl_get_4 : decode b_Mdl_get 4 = .ok (.invokestatic 164, 3) := by decide +kernel
theorem d_Mdl_get_7 : decode b_Mdl_get 7 = .ok (.ifCond .eq 15, 3) := by decide +kernel
theorem d_Mdl_get_10 : decode b_Mdl_get 10 = .ok (.iload_n 2, 1) := by decide +kernel
theorem d_Mdl_get_11 : decode b_Mdl_get 11 = .ok (.iconst 3, 1) := by decide +kernel
theorem d_Mdl_get_12 : decode b_Mdl_get 12 = .ok (.invokestatic 164, 3) := by decide +kernel
theorem d_Mdl_get_15 : decode b_Mdl_get 15 = .ok (.ifCond .eq 7, 3) := by decide +kernel
theorem d_Mdl_get_18 : decode b_Mdl_get 18 = .ok (.iconst 1, 1) := by decide +kernel
theorem d_Mdl_get_19 : decode b_Mdl_get 19 = .ok (.goto 4, 3) := by decide +kernel
theorem d_Mdl_get_22 : decode b_Mdl_get 22 = .ok (.iconst 0, 1) := by decide +kernel
theorem d_Mdl_get_23 : decode b_Mdl_get 23 = .ok (.invokevirtual 168, 3) := by decide +kernel
theorem d_Mdl_get_26 : decode b_Mdl_get 26 = .ok (.ifCond .ne 5, 3) := by decide +kernel
theorem d_Mdl_get_29 : decode b_Mdl_get 29 = .ok (.lconst 0, 1) := by decide +kernel
theorem d_Mdl_get_30 : decode b_Mdl_get 30 = .ok (.lreturn, 1) := by decide +kernel
theorem d_Mdl_get_31 : decode b_Mdl_get 31 = .ok (.aload_n 0, 1) := by decide +kernel
theorem d_Mdl_get_32 : decode b_Mdl_get 32 = .ok (.getfield 103, 3) := by decide +kernel
theorem d_Mdl_get_35 : decode b_Mdl_get 35 = .ok (.iload_n 1, 1) := by decide +kernel
theorem d_Mdl_get_36 : decode b_Mdl_get 36 = .ok (.aaload, 1) := by decide +kernel
theorem d_Mdl_get_37 : decode b_Mdl_get 37 = .ok (.iconst 2, 1) := by decide +kernel
theorem d_Mdl_get_38 : decode b_Mdl_get 38 = .ok (.iload_n 2, 1) := by decide +kernel
theorem d_Mdl_get_39 : decode b_Mdl_get 39 = .ok (.imul, 1) := by decide +kernel
theorem d_Mdl_get_40 : decode b_Mdl_get 40 = .ok (.iconst 1, 1) := by decide +kernel
theorem d_Mdl_get_41 : decode b_Mdl_get 41 = .ok (.iadd, 1) := by decide +kernel
theorem d_Mdl_get_42 : decode b_Mdl_get 42 = .ok (.iaload, 1) := by decide +kernel
theorem d_Mdl_get_43 : decode b_Mdl_get 43 = .ok (.i2l, 1) := by decide +kernel
theorem d_Mdl_get_44 : decode b_Mdl_get 44 = .ok (.ldc2_w 172, 3) := by decide +kernel
theorem d_Mdl_get_47 : decode b_Mdl_get 47 = .ok (.land, 1) := by decide +kernel
theorem d_Mdl_get_48 : decode b_Mdl_get 48 = .ok (.bipush 32, 2) := by decide +kernel
theorem d_Mdl_get_50 : decode b_Mdl_get 50 = .ok (.lshl, 1) := by decide +kernel
theorem d_Mdl_get_51 : decode b_Mdl_get 51 = .ok (.aload_n 0, 1) := by decide +kernel
theorem d_Mdl_get_52 : decode b_Mdl_get 52 = .ok (.getfield 103, 3) := by decide +kernel
theorem d_Mdl_get_55 : decode b_Mdl_get 55 = .ok (.iload_n 1, 1) := by decide +kernel
theorem d_Mdl_get_56 : decode b_Mdl_get 56 = .ok (.aaload, 1) := by decide +kernel
theorem d_Mdl_get_57 : decode b_Mdl_get 57 = .ok (.iconst 2, 1) := by decide +kernel
theorem d_Mdl_get_58 : decode b_Mdl_get 58 = .ok (.iload_n 2, 1) := by decide +kernel
theorem d_Mdl_get_59 : decode b_Mdl_get 59 = .ok (.imul, 1) := by decide +kernel
theorem d_Mdl_get_60 : decode b_Mdl_get 60 = .ok (.iaload, 1) := by decide +kernel
theorem d_Mdl_get_61 : decode b_Mdl_get 61 = .ok (.i2l, 1) := by decide +kernel
theorem d_Mdl_get_62 : decode b_Mdl_get 62 = .ok (.ldc2_w 172, 3) := by decide +kernel
theorem d_Mdl_get_65 : decode b_Mdl_get 65 = .ok (.land, 1) := by decide +kernel
theorem d_Mdl_get_66 : decode b_Mdl_get 66 = .ok (.lor, 1) := by decide +kernel
theorem d_Mdl_get_67 : decode b_Mdl_get 67 = .ok (.lreturn, 1) := by decide +kernel
theorem d_Mdl_compare_0 : decode b_Mdl_compare 0 = .ok (.aload_n 0, 1) := by decide +kernel
theorem d_Mdl_compare_1 : decode b_Mdl_compare 1 = .ok (.iload_n 1, 1) := by decide +kernel
theorem d_Mdl_compare_2 : decode b_Mdl_compare 2 = .ok (.bipush 7, 2) := by decide +kernel
theorem d_Mdl_compare_4 : decode b_Mdl_compare 4 = .ok (.invokestatic 164, 3) := by decide +kernel
theorem d_Mdl_compare_7 : decode b_Mdl_compare 7 = .ok (.ifCond .eq 16, 3) := by decide +kernel
theorem d_Mdl_compare_10 : decode b_Mdl_compare 10 = .ok (.iload_n 2, 1) := by decide +kernel
theorem d_Mdl_compare_11 : decode b_Mdl_compare 11 = .ok (.bipush 7, 2) := by decide +kernel
theorem d_Mdl_compare_13 : decode b_Mdl_compare 13 = .ok (.invokestatic 164, 3) := by decide +kernel
theorem d_Mdl_compare_16 : decode b_Mdl_compare 16 = .ok (.ifCond .eq 7, 3) := by decide +kernel
theorem d_Mdl_compare_19 : decode b_Mdl_compare 19 = .ok (.iconst 1, 1) := by decide +kernel
theorem d_Mdl_compare_20 : decode b_Mdl_compare 20 = .ok (.goto 4, 3) := by decide +kernel
theorem d_Mdl_compare_23 : decode b_Mdl_compare 23 = .ok (.iconst 0, 1) := by decide +kernel
theorem d_Mdl_compare_24 : decode b_Mdl_compare 24 = .ok (.invokevirtual 168, 3) := by decide +kernel
theorem d_Mdl_compare_27 : decode b_Mdl_compare 27 = .ok (.ifCond .ne 5, 3) := by decide +kernel
theorem d_Mdl_compare_30 : decode b_Mdl_compare 30 = .ok (.iconst 0, 1) := by decide +kernel
theorem d_Mdl_compare_31 : decode b_Mdl_compare 31 = .ok (.ireturn, 1) := by decide +kernel
theorem d_Mdl_compare_32 : decode b_Mdl_compare 32 = .ok (.aload_n 0, 1) := by decide +kernel
theorem d_Mdl_compare_33 : decode b_Mdl_compare 33 = .ok (.getfield 103, 3) := by decide +kernel
theorem d_Mdl_compare_36 : decode b_Mdl_compare 36 = .ok (.iload_n 1, 1) := by decide +kernel
theorem d_Mdl_compare_37 : decode b_Mdl_compare 37 = .ok (.aaload, 1) := by decide +kernel
theorem d_Mdl_compare_38 : decode b_Mdl_compare 38 = .ok (.aload_n 0, 1) := by decide +kernel
theorem d_Mdl_compare_39 : decode b_Mdl_compare 39 = .ok (.getfield 103, 3) := by decide +kernel
theorem d_Mdl_compare_42 : decode b_Mdl_compare 42 = .ok (.iload_n 2, 1) := by decide +kernel
theorem d_Mdl_compare_43 : decode b_Mdl_compare 43 = .ok (.aaload, 1) := by decide +kernel
theorem d_Mdl_compare_44 : decode b_Mdl_compare 44 = .ok (.invokestatic 174, 3) := by decide +kernel
theorem d_Mdl_compare_47 : decode b_Mdl_compare 47 = .ok (.ireturn, 1) := by decide +kernel
theorem d_Mdl_work_0 : decode b_Mdl_work 0 = .ok (.aload_n 0, 1) := by decide +kernel
theorem d_Mdl_work_1 : decode b_Mdl_work 1 = .ok (.iload_n 1, 1) := by decide +kernel
theorem d_Mdl_work_2 : decode b_Mdl_work 2 = .ok (.bipush 7, 2) := by decide +kernel
theorem d_Mdl_work_4 : decode b_Mdl_work 4 = .ok (.invokestatic 164, 3) := by decide +kernel
theorem d_Mdl_work_7 : decode b_Mdl_work 7 = .ok (.ifCond .eq 35, 3) := by decide +kernel
theorem d_Mdl_work_10 : decode b_Mdl_work 10 = .ok (.iload_n 2, 1) := by decide +kernel
theorem d_Mdl_work_11 : decode b_Mdl_work 11 = .ok (.bipush 7, 2) := by decide +kernel
theorem d_Mdl_work_13 : decode b_Mdl_work 13 = .ok (.invokestatic 164, 3) := by decide +kernel
theorem d_Mdl_work_16 : decode b_Mdl_work 16 = .ok (.ifCond .eq 26, 3) := by decide +kernel
theorem d_Mdl_work_19 : decode b_Mdl_work 19 = .ok (.iload_n 3, 1) := by decide +kernel
theorem d_Mdl_work_20 : decode b_Mdl_work 20 = .ok (.bipush 7, 2) := by decide +kernel
theorem d_Mdl_work_22 : decode b_Mdl_work 22 = .ok (.invokestatic 164, 3) := by decide +kernel
theorem d_Mdl_work_25 : decode b_Mdl_work 25 = .ok (.ifCond .eq 17, 3) := by decide +kernel
theorem d_Mdl_work_28 : decode b_Mdl_work 28 = .ok (.iload 4, 2) := by decide +kernel
theorem d_Mdl_work_30 : decode b_Mdl_work 30 = .ok (.bipush 7, 2) := by decide +kernel
theorem d_Mdl_work_32 : decode b_Mdl_work 32 = .ok (.invokestatic 164, 3) := by decide +kernel
theorem d_Mdl_work_35 : decode b_Mdl_work 35 = .ok (.ifCond .eq 7, 3) := by decide +kernel
theorem d_Mdl_work_38 : decode b_Mdl_work 38 = .ok (.iconst 1, 1) := by decide +kernel
theorem d_Mdl_work_39 : decode b_Mdl_work 39 = .ok (.goto 4, 3) := by decide +kernel
theorem d_Mdl_work_42 : decode b_Mdl_work 42 = .ok (.iconst 0, 1) := by decide +kernel
theorem d_Mdl_work_43 : decode b_Mdl_work 43 = .ok (.invokevirtual 168, 3) := by decide +kernel
theorem d_Mdl_work_46 : decode b_Mdl_work 46 = .ok (.ifCond .ne 5, 3) := by decide +kernel
theorem d_Mdl_work_49 : decode b_Mdl_work 49 = .ok (.iconst 0, 1) := by decide +kernel
theorem d_Mdl_work_50 : decode b_Mdl_work 50 = .ok (.ireturn, 1) := by decide +kernel
theorem d_Mdl_work_51 : decode b_Mdl_work 51 = .ok (.iload_n 1, 1) := by decide +kernel
theorem d_Mdl_work_52 : decode b_Mdl_work 52 = .ok (.iconst 4, 1) := by decide +kernel
theorem d_Mdl_work_53 : decode b_Mdl_work 53 = .ok (.if_icmp .ge 10, 3) := by decide +kernel
theorem d_Mdl_work_56 : decode b_Mdl_work 56 = .ok (.aload_n 0, 1) := by decide +kernel
theorem d_Mdl_work_57 : decode b_Mdl_work 57 = .ok (.getfield 13, 3) := by decide +kernel
theorem d_Mdl_work_60 : decode b_Mdl_work 60 = .ok (.goto 7, 3) := by decide +kernel
theorem d_Mdl_work_63 : decode b_Mdl_work 63 = .ok (.aload_n 0, 1) := by decide +kernel
theorem d_Mdl_work_64 : decode b_Mdl_work 64 = .ok (.getfield 132, 3) := by decide +kernel
theorem d_Mdl_work_67 : decode b_Mdl_work 67 = .ok (.astore 5, 2) := by decide +kernel
theorem d_Mdl_work_69 : decode b_Mdl_work 69 = .ok (.iload_n 1, 1) := by decide +kernel
theorem d_Mdl_work_70 : decode b_Mdl_work 70 = .ok (.iconst 3, 1) := by decide +kernel
theorem d_Mdl_work_71 : decode b_Mdl_work 71 = .ok (.iand, 1) := by decide +kernel
theorem d_Mdl_work_72 : decode b_Mdl_work 72 = .ok (.istore 6, 2) := by decide +kernel
theorem d_Mdl_work_74 : decode b_Mdl_work 74 = .ok (.aload_n 0, 1) := by decide +kernel
theorem d_Mdl_work_75 : decode b_Mdl_work 75 = .ok (.getfield 103, 3) := by decide +kernel
theorem d_Mdl_work_78 : decode b_Mdl_work 78 = .ok (.iload_n 3, 1) := by decide +kernel
theorem d_Mdl_work_79 : decode b_Mdl_work 79 = .ok (.aaload, 1) := by decide +kernel
theorem d_Mdl_work_80 : decode b_Mdl_work 80 = .ok (.aload 5, 2) := by decide +kernel
theorem d_Mdl_work_82 : decode b_Mdl_work 82 = .ok (.getfield 178, 3) := by decide +kernel
theorem d_Mdl_work_85 : decode b_Mdl_work 85 = .ok (.invokestatic 174, 3) := by decide +kernel
theorem d_Mdl_work_88 : decode b_Mdl_work 88 = .ok (.ifCond .ge 45, 3) := by decide +kernel
theorem d_Mdl_work_91 : decode b_Mdl_work 91 = .ok (.iload 6, 2) := by decide +kernel
theorem d_Mdl_work_93 : decode b_Mdl_work 93 = .ok (.iconst 3, 1) := by decide +kernel
theorem d_Mdl_work_94 : decode b_Mdl_work 94 = .ok (.if_icmp .ge 21, 3) := by decide +kernel
theorem d_Mdl_work_97 : decode b_Mdl_work 97 = .ok (.aload_n 0, 1) := by decide +kernel
theorem d_Mdl_work_98 : decode b_Mdl_work 98 = .ok (.getfield 103, 3) := by decide +kernel
theorem d_Mdl_work_101 : decode b_Mdl_work 101 = .ok (.iload 4, 2) := by decide +kernel
theorem d_Mdl_work_103 : decode b_Mdl_work 103 = .ok (.aaload, 1) := by decide +kernel
theorem d_Mdl_work_104 : decode b_Mdl_work 104 = .ok (.aload 5, 2) := by decide +kernel
theorem d_Mdl_work_106 : decode b_Mdl_work 106 = .ok (.getfield 178, 3) := by decide +kernel
theorem d_Mdl_work_109 : decode b_Mdl_work 109 = .ok (.invokestatic 174, 3) := by decide +kernel
theorem d_Mdl_work_112 : decode b_Mdl_work 112 = .ok (.ifCond .ge 21, 3) := by decide +kernel
theorem d_Mdl_work_115 : decode b_Mdl_work 115 = .ok (.iload 6, 2) := by decide +kernel
theorem d_Mdl_work_117 : decode b_Mdl_work 117 = .ok (.iconst 3, 1) := by decide +kernel
theorem d_Mdl_work_118 : decode b_Mdl_work 118 = .ok (.if_icmp .ne 17, 3) := by decide +kernel
theorem d_Mdl_work_121 : decode b_Mdl_work 121 = .ok (.aload_n 0, 1) := by decide +kernel
theorem d_Mdl_work_122 : decode b_Mdl_work 122 = .ok (.getfield 103, 3) := by decide +kernel
theorem d_Mdl_work_125 : decode b_Mdl_work 125 = .ok (.iload_n 3, 1) := by decide +kernel
theorem d_Mdl_work_126 : decode b_Mdl_work 126 = .ok (.aaload, 1) := by decide +kernel
theorem d_Mdl_work_127 : decode b_Mdl_work 127 = .ok (.invokestatic 7, 3) := by decide +kernel
theorem d_Mdl_work_130 : decode b_Mdl_work 130 = .ok (.ifCond .eq 5, 3) := by decide +kernel
theorem d_Mdl_work_133 : decode b_Mdl_work 133 = .ok (.iconst 0, 1) := by decide +kernel
theorem d_Mdl_work_134 : decode b_Mdl_work 134 = .ok (.ireturn, 1) := by decide +kernel
theorem d_Mdl_work_135 : decode b_Mdl_work 135 = .ok (.aload 5, 2) := by decide +kernel
theorem d_Mdl_work_137 : decode b_Mdl_work 137 = .ok (.aload_n 0, 1) := by decide +kernel
theorem d_Mdl_work_138 : decode b_Mdl_work 138 = .ok (.getfield 103, 3) := by decide +kernel
theorem d_Mdl_work_141 : decode b_Mdl_work 141 = .ok (.iload_n 3, 1) := by decide +kernel
theorem d_Mdl_work_142 : decode b_Mdl_work 142 = .ok (.aaload, 1) := by decide +kernel
theorem d_Mdl_work_143 : decode b_Mdl_work 143 = .ok (.aload_n 0, 1) := by decide +kernel
theorem d_Mdl_work_144 : decode b_Mdl_work 144 = .ok (.getfield 119, 3) := by decide +kernel
theorem d_Mdl_work_147 : decode b_Mdl_work 147 = .ok (.invokevirtual 135, 3) := by decide +kernel
theorem d_Mdl_work_150 : decode b_Mdl_work 150 = .ok (.iload 6, 2) := by decide +kernel
theorem d_Mdl_work_152 : decode b_Mdl_work 152 = .ok (.iconst 3, 1) := by decide +kernel
theorem d_Mdl_work_153 : decode b_Mdl_work 153 = .ok (.if_icmp .ge 19, 3) := by decide +kernel
theorem d_Mdl_work_156 : decode b_Mdl_work 156 = .ok (.aload 5, 2) := by decide +kernel
theorem d_Mdl_work_158 : decode b_Mdl_work 158 = .ok (.aload_n 0, 1) := by decide +kernel
theorem d_Mdl_work_159 : decode b_Mdl_work 159 = .ok (.getfield 103, 3) := by decide +kernel
theorem d_Mdl_work_162 : decode b_Mdl_work 162 = .ok (.iload 4, 2) := by decide +kernel
theorem d_Mdl_work_164 : decode b_Mdl_work 164 = .ok (.aaload, 1) := by decide +kernel
theorem d_Mdl_work_165 : decode b_Mdl_work 165 = .ok (.aload_n 0, 1) := by decide +kernel
theorem d_Mdl_work_166 : decode b_Mdl_work 166 = .ok (.getfield 122, 3) := by decide +kernel
theorem d_Mdl_work_169 : decode b_Mdl_work 169 = .ok (.invokevirtual 135, 3) := by decide +kernel
theorem d_Mdl_work_172 : decode b_Mdl_work 172 = .ok (.iload 6, 2) := by decide +kernel
theorem d_Mdl_work_174 : decode b_Mdl_work 174 = .ok (.ifCond .ne 23, 3) := by decide +kernel
theorem d_Mdl_work_177 : decode b_Mdl_work 177 = .ok (.aload 5, 2) := by decide +kernel
theorem d_Mdl_work_179 : decode b_Mdl_work 179 = .ok (.aload_n 0, 1) := by decide +kernel
theorem d_Mdl_work_180 : decode b_Mdl_work 180 = .ok (.getfield 119, 3) := by decide +kernel
theorem d_Mdl_work_183 : decode b_Mdl_work 183 = .ok (.aload_n 0, 1) := by decide +kernel
theorem d_Mdl_work_184 : decode b_Mdl_work 184 = .ok (.getfield 122, 3) := by decide +kernel
theorem d_Mdl_work_187 : decode b_Mdl_work 187 = .ok (.aload_n 0, 1) := by decide +kernel
theorem d_Mdl_work_188 : decode b_Mdl_work 188 = .ok (.getfield 119, 3) := by decide +kernel
theorem d_Mdl_work_191 : decode b_Mdl_work 191 = .ok (.invokevirtual 35, 3) := by decide +kernel
theorem d_Mdl_work_194 : decode b_Mdl_work 194 = .ok (.goto 71, 3) := by decide +kernel
theorem d_Mdl_work_197 : decode b_Mdl_work 197 = .ok (.iload 6, 2) := by decide +kernel
theorem d_Mdl_work_199 : decode b_Mdl_work 199 = .ok (.iconst 1, 1) := by decide +kernel
theorem d_Mdl_work_200 : decode b_Mdl_work 200 = .ok (.if_icmp .ne 23, 3) := by decide +kernel
theorem d_Mdl_work_203 : decode b_Mdl_work 203 = .ok (.aload 5, 2) := by decide +kernel
theorem d_Mdl_work_205 : decode b_Mdl_work 205 = .ok (.aload_n 0, 1) := by decide +kernel
theorem d_Mdl_work_206 : decode b_Mdl_work 206 = .ok (.getfield 119, 3) := by decide +kernel
theorem d_Mdl_work_209 : decode b_Mdl_work 209 = .ok (.aload_n 0, 1) := by decide +kernel
theorem d_Mdl_work_210 : decode b_Mdl_work 210 = .ok (.getfield 122, 3) := by decide +kernel
theorem d_Mdl_work_213 : decode b_Mdl_work 213 = .ok (.aload_n 0, 1) := by decide +kernel
theorem d_Mdl_work_214 : decode b_Mdl_work 214 = .ok (.getfield 119, 3) := by decide +kernel
theorem d_Mdl_work_217 : decode b_Mdl_work 217 = .ok (.invokevirtual 47, 3) := by decide +kernel
theorem d_Mdl_work_220 : decode b_Mdl_work 220 = .ok (.goto 45, 3) := by decide +kernel
theorem d_Mdl_work_223 : decode b_Mdl_work 223 = .ok (.iload 6, 2) := by decide +kernel
theorem d_Mdl_work_225 : decode b_Mdl_work 225 = .ok (.iconst 2, 1) := by decide +kernel
theorem d_Mdl_work_226 : decode b_Mdl_work 226 = .ok (.if_icmp .ne 23, 3) := by decide +kernel
theorem d_Mdl_work_229 : decode b_Mdl_work 229 = .ok (.aload 5, 2) := by decide +kernel
theorem d_Mdl_work_231 : decode b_Mdl_work 231 = .ok (.aload_n 0, 1) := by decide +kernel
theorem d_Mdl_work_232 : decode b_Mdl_work 232 = .ok (.getfield 119, 3) := by decide +kernel
theorem d_Mdl_work_235 : decode b_Mdl_work 235 = .ok (.aload_n 0, 1) := by decide +kernel
theorem d_Mdl_work_236 : decode b_Mdl_work 236 = .ok (.getfield 122, 3) := by decide +kernel
theorem d_Mdl_work_239 : decode b_Mdl_work 239 = .ok (.aload_n 0, 1) := by decide +kernel
theorem d_Mdl_work_240 : decode b_Mdl_work 240 = .ok (.getfield 119, 3) := by decide +kernel
theorem d_Mdl_work_243 : decode b_Mdl_work 243 = .ok (.invokevirtual 25, 3) := by decide +kernel
theorem d_Mdl_work_246 : decode b_Mdl_work 246 = .ok (.goto 19, 3) := by decide +kernel
theorem d_Mdl_work_249 : decode b_Mdl_work 249 = .ok (.aload 5, 2) := by decide +kernel
theorem d_Mdl_work_251 : decode b_Mdl_work 251 = .ok (.aload_n 0, 1) := by decide +kernel
theorem d_Mdl_work_252 : decode b_Mdl_work 252 = .ok (.getfield 119, 3) := by decide +kernel
theorem d_Mdl_work_255 : decode b_Mdl_work 255 = .ok (.bipush (-2), 2) := by decide +kernel
theorem d_Mdl_work_257 : decode b_Mdl_work 257 = .ok (.iconst 0, 1) := by decide +kernel
theorem d_Mdl_work_258 : decode b_Mdl_work 258 = .ok (.aload_n 0, 1) := by decide +kernel
theorem d_Mdl_work_259 : decode b_Mdl_work 259 = .ok (.getfield 119, 3) := by decide +kernel
theorem d_Mdl_work_262 : decode b_Mdl_work 262 = .ok (.invokevirtual 61, 3) := by decide +kernel
theorem d_Mdl_work_265 : decode b_Mdl_work 265 = .ok (.aload 5, 2) := by decide +kernel
theorem d_Mdl_work_267 : decode b_Mdl_work 267 = .ok (.aload_n 0, 1) := by decide +kernel
theorem d_Mdl_work_268 : decode b_Mdl_work 268 = .ok (.getfield 119, 3) := by decide +kernel
theorem d_Mdl_work_271 : decode b_Mdl_work 271 = .ok (.aload_n 0, 1) := by decide +kernel
theorem d_Mdl_work_272 : decode b_Mdl_work 272 = .ok (.getfield 103, 3) := by decide +kernel
theorem d_Mdl_work_275 : decode b_Mdl_work 275 = .ok (.iload_n 2, 1) := by decide +kernel
theorem d_Mdl_work_276 : decode b_Mdl_work 276 = .ok (.aaload, 1) := by decide +kernel
theorem d_Mdl_work_277 : decode b_Mdl_work 277 = .ok (.invokevirtual 65, 3) := by decide +kernel
theorem d_Mdl_work_280 : decode b_Mdl_work 280 = .ok (.iconst 1, 1) := by decide +kernel
theorem d_Mdl_work_281 : decode b_Mdl_work 281 = .ok (.ireturn, 1) := by decide +kernel
theorem d_Mdl_base_0 : decode b_Mdl_base 0 = .ok (.aload_n 0, 1) := by decide +kernel
theorem d_Mdl_base_1 : decode b_Mdl_base 1 = .ok (.iload_n 1, 1) := by decide +kernel
theorem d_Mdl_base_2 : decode b_Mdl_base 2 = .ok (.iconst 3, 1) := by decide +kernel
theorem d_Mdl_base_3 : decode b_Mdl_base 3 = .ok (.invokestatic 164, 3) := by decide +kernel
theorem d_Mdl_base_6 : decode b_Mdl_base 6 = .ok (.invokevirtual 168, 3) := by decide +kernel
theorem d_Mdl_base_9 : decode b_Mdl_base 9 = .ok (.ifCond .eq 16, 3) := by decide +kernel
theorem d_Mdl_base_12 : decode b_Mdl_base 12 = .ok (.aload_n 0, 1) := by decide +kernel
theorem d_Mdl_base_13 : decode b_Mdl_base 13 = .ok (.getfield 106, 3) := by decide +kernel
theorem d_Mdl_base_16 : decode b_Mdl_base 16 = .ok (.iload_n 1, 1) := by decide +kernel
theorem d_Mdl_base_17 : decode b_Mdl_base 17 = .ok (.aaload, 1) := by decide +kernel
theorem d_Mdl_base_18 : decode b_Mdl_base 18 = .ok (.aload_n 0, 1) := by decide +kernel
theorem d_Mdl_base_19 : decode b_Mdl_base 19 = .ok (.getfield 79, 3) := by decide +kernel
theorem d_Mdl_base_22 : decode b_Mdl_base 22 = .ok (.invokevirtual 50, 3) := by decide +kernel
theorem d_Mdl_base_25 : decode b_Mdl_base 25 = .ok (.return_, 1) := by decide +kernel
theorem d_Mdl_none_0 : decode b_Mdl_none 0 = .ok (.aload_n 0, 1) := by decide +kernel
theorem d_Mdl_none_1 : decode b_Mdl_none 1 = .ok (.iload_n 1, 1) := by decide +kernel
theorem d_Mdl_none_2 : decode b_Mdl_none 2 = .ok (.iconst 3, 1) := by decide +kernel
theorem d_Mdl_none_3 : decode b_Mdl_none 3 = .ok (.invokestatic 164, 3) := by decide +kernel
theorem d_Mdl_none_6 : decode b_Mdl_none 6 = .ok (.invokevirtual 168, 3) := by decide +kernel
theorem d_Mdl_none_9 : decode b_Mdl_none 9 = .ok (.ifCond .ne 4, 3) := by decide +kernel
theorem d_Mdl_none_12 : decode b_Mdl_none 12 = .ok (.return_, 1) := by decide +kernel
theorem d_Mdl_none_13 : decode b_Mdl_none 13 = .ok (.iconst 0, 1) := by decide +kernel
theorem d_Mdl_none_14 : decode b_Mdl_none 14 = .ok (.istore_n 2, 1) := by decide +kernel
theorem d_Mdl_none_15 : decode b_Mdl_none 15 = .ok (.iload_n 2, 1) := by decide +kernel
theorem d_Mdl_none_16 : decode b_Mdl_none 16 = .ok (.bipush 8, 2) := by decide +kernel
theorem d_Mdl_none_18 : decode b_Mdl_none 18 = .ok (.if_icmp .ge 21, 3) := by decide +kernel
theorem d_Mdl_none_21 : decode b_Mdl_none 21 = .ok (.aload_n 0, 1) := by decide +kernel
theorem d_Mdl_none_22 : decode b_Mdl_none 22 = .ok (.getfield 106, 3) := by decide +kernel
theorem d_Mdl_none_25 : decode b_Mdl_none 25 = .ok (.iload_n 1, 1) := by decide +kernel
theorem d_Mdl_none_26 : decode b_Mdl_none 26 = .ok (.aaload, 1) := by decide +kernel
theorem d_Mdl_none_27 : decode b_Mdl_none 27 = .ok (.getfield 1, 3) := by decide +kernel
theorem d_Mdl_none_30 : decode b_Mdl_none 30 = .ok (.iload_n 2, 1) := by decide +kernel
theorem d_Mdl_none_31 : decode b_Mdl_none 31 = .ok (.iconst 0, 1) := by decide +kernel
theorem d_Mdl_none_32 : decode b_Mdl_none 32 = .ok (.iastore, 1) := by decide +kernel
theorem d_Mdl_none_33 : decode b_Mdl_none 33 = .ok (.iinc 2 1, 3) := by decide +kernel
theorem d_Mdl_none_36 : decode b_Mdl_none 36 = .ok (.goto (-21), 3) := by decide +kernel
theorem d_Mdl_none_39 : decode b_Mdl_none 39 = .ok (.return_, 1) := by decide +kernel
theorem d_Mdl_square_0 : decode b_Mdl_square 0 = .ok (.aload_n 1, 1) := by decide +kernel
theorem d_Mdl_square_1 : decode b_Mdl_square 1 = .ok (.aload_n 0, 1) := by decide +kernel
theorem d_Mdl_square_2 : decode b_Mdl_square 2 = .ok (.getfield 13, 3) := by decide +kernel
theorem d_Mdl_square_5 : decode b_Mdl_square 5 = .ok (.getfield 178, 3) := by decide +kernel
theorem d_Mdl_square_8 : decode b_Mdl_square 8 = .ok (.invokestatic 174, 3) := by decide +kernel
theorem d_Mdl_square_11 : decode b_Mdl_square 11 = .ok (.ifCond .lt 5, 3) := by decide +kernel
theorem d_Mdl_square_14 : decode b_Mdl_square 14 = .ok (.iconst 0, 1) := by decide +kernel
theorem d_Mdl_square_15 : decode b_Mdl_square 15 = .ok (.ireturn, 1) := by decide +kernel
theorem d_Mdl_square_16 : decode b_Mdl_square 16 = .ok (.aload_n 0, 1) := by decide +kernel
theorem d_Mdl_square_17 : decode b_Mdl_square 17 = .ok (.getfield 13, 3) := by decide +kernel
theorem d_Mdl_square_20 : decode b_Mdl_square 20 = .ok (.aload_n 1, 1) := by decide +kernel
theorem d_Mdl_square_21 : decode b_Mdl_square 21 = .ok (.aload_n 0, 1) := by decide +kernel
theorem d_Mdl_square_22 : decode b_Mdl_square 22 = .ok (.getfield 110, 3) := by decide +kernel
theorem d_Mdl_square_25 : decode b_Mdl_square 25 = .ok (.getfield 29, 3) := by decide +kernel
theorem d_Mdl_square_28 : decode b_Mdl_square 28 = .ok (.invokevirtual 135, 3) := by decide +kernel
theorem d_Mdl_square_31 : decode b_Mdl_square 31 = .ok (.aload_n 0, 1) := by decide +kernel
theorem d_Mdl_square_32 : decode b_Mdl_square 32 = .ok (.getfield 13, 3) := by decide +kernel
theorem d_Mdl_square_35 : decode b_Mdl_square 35 = .ok (.aload_n 0, 1) := by decide +kernel
theorem d_Mdl_square_36 : decode b_Mdl_square 36 = .ok (.getfield 110, 3) := by decide +kernel
theorem d_Mdl_square_39 : decode b_Mdl_square 39 = .ok (.getfield 29, 3) := by decide +kernel
theorem d_Mdl_square_42 : decode b_Mdl_square 42 = .ok (.aload_n 0, 1) := by decide +kernel
theorem d_Mdl_square_43 : decode b_Mdl_square 43 = .ok (.getfield 110, 3) := by decide +kernel
theorem d_Mdl_square_46 : decode b_Mdl_square 46 = .ok (.getfield 29, 3) := by decide +kernel
theorem d_Mdl_square_49 : decode b_Mdl_square 49 = .ok (.aload_n 0, 1) := by decide +kernel
theorem d_Mdl_square_50 : decode b_Mdl_square 50 = .ok (.getfield 119, 3) := by decide +kernel
theorem d_Mdl_square_53 : decode b_Mdl_square 53 = .ok (.invokevirtual 25, 3) := by decide +kernel
theorem d_Mdl_square_56 : decode b_Mdl_square 56 = .ok (.aload_n 0, 1) := by decide +kernel
theorem d_Mdl_square_57 : decode b_Mdl_square 57 = .ok (.getfield 13, 3) := by decide +kernel
theorem d_Mdl_square_60 : decode b_Mdl_square 60 = .ok (.aload_n 0, 1) := by decide +kernel
theorem d_Mdl_square_61 : decode b_Mdl_square 61 = .ok (.getfield 119, 3) := by decide +kernel
theorem d_Mdl_square_64 : decode b_Mdl_square 64 = .ok (.aload_n 0, 1) := by decide +kernel
theorem d_Mdl_square_65 : decode b_Mdl_square 65 = .ok (.getfield 110, 3) := by decide +kernel
theorem d_Mdl_square_68 : decode b_Mdl_square 68 = .ok (.getfield 29, 3) := by decide +kernel
theorem d_Mdl_square_71 : decode b_Mdl_square 71 = .ok (.aload_n 0, 1) := by decide +kernel
theorem d_Mdl_square_72 : decode b_Mdl_square 72 = .ok (.getfield 119, 3) := by decide +kernel
theorem d_Mdl_square_75 : decode b_Mdl_square 75 = .ok (.invokevirtual 25, 3) := by decide +kernel
theorem d_Mdl_square_78 : decode b_Mdl_square 78 = .ok (.aload_n 0, 1) := by decide +kernel
theorem d_Mdl_square_79 : decode b_Mdl_square 79 = .ok (.getfield 13, 3) := by decide +kernel
theorem d_Mdl_square_82 : decode b_Mdl_square 82 = .ok (.aload_n 0, 1) := by decide +kernel
theorem d_Mdl_square_83 : decode b_Mdl_square 83 = .ok (.getfield 119, 3) := by decide +kernel
theorem d_Mdl_square_86 : decode b_Mdl_square 86 = .ok (.aload_n 0, 1) := by decide +kernel
theorem d_Mdl_square_87 : decode b_Mdl_square 87 = .ok (.getfield 75, 3) := by decide +kernel
theorem d_Mdl_square_90 : decode b_Mdl_square 90 = .ok (.aload_n 0, 1) := by decide +kernel
theorem d_Mdl_square_91 : decode b_Mdl_square 91 = .ok (.getfield 119, 3) := by decide +kernel
theorem d_Mdl_square_94 : decode b_Mdl_square 94 = .ok (.invokevirtual 35, 3) := by decide +kernel
theorem d_Mdl_square_97 : decode b_Mdl_square 97 = .ok (.aload_n 0, 1) := by decide +kernel
theorem d_Mdl_square_98 : decode b_Mdl_square 98 = .ok (.getfield 13, 3) := by decide +kernel
theorem d_Mdl_square_101 : decode b_Mdl_square 101 = .ok (.getfield 154, 3) := by decide +kernel
theorem d_Mdl_square_104 : decode b_Mdl_square 104 = .ok (.aload_n 0, 1) := by decide +kernel
theorem d_Mdl_square_105 : decode b_Mdl_square 105 = .ok (.getfield 110, 3) := by decide +kernel
theorem d_Mdl_square_108 : decode b_Mdl_square 108 = .ok (.getfield 1, 3) := by decide +kernel
theorem d_Mdl_square_111 : decode b_Mdl_square 111 = .ok (.invokestatic 157, 3) := by decide +kernel
theorem d_Mdl_square_114 : decode b_Mdl_square 114 = .ok (.iconst 1, 1) := by decide +kernel
theorem d_Mdl_square_115 : decode b_Mdl_square 115 = .ok (.ireturn, 1) := by decide +kernel
theorem d_Mdl_lay_0 : decode b_Mdl_lay 0 = .ok (.aload_n 0, 1) := by decide +kernel
theorem d_Mdl_lay_1 : decode b_Mdl_lay 1 = .ok (.iload_n 1, 1) := by decide +kernel
theorem d_Mdl_lay_2 : decode b_Mdl_lay 2 = .ok (.iconst 3, 1) := by decide +kernel
theorem d_Mdl_lay_3 : decode b_Mdl_lay 3 = .ok (.invokestatic 164, 3) := by decide +kernel
theorem d_Mdl_lay_6 : decode b_Mdl_lay 6 = .ok (.ifCond .eq 25, 3) := by decide +kernel
theorem d_Mdl_lay_9 : decode b_Mdl_lay 9 = .ok (.iload_n 2, 1) := by decide +kernel
theorem d_Mdl_lay_10 : decode b_Mdl_lay 10 = .ok (.bipush 7, 2) := by decide +kernel
theorem d_Mdl_lay_12 : decode b_Mdl_lay 12 = .ok (.invokestatic 164, 3) := by decide +kernel
theorem d_Mdl_lay_15 : decode b_Mdl_lay 15 = .ok (.ifCond .eq 16, 3) := by decide +kernel
theorem d_Mdl_lay_18 : decode b_Mdl_lay 18 = .ok (.iload_n 3, 1) := by decide +kernel
theorem d_Mdl_lay_19 : decode b_Mdl_lay 19 = .ok (.bipush 7, 2) := by decide +kernel
theorem d_Mdl_lay_21 : decode b_Mdl_lay 21 = .ok (.invokestatic 164, 3) := by decide +kernel
theorem d_Mdl_lay_24 : decode b_Mdl_lay 24 = .ok (.ifCond .eq 7, 3) := by decide +kernel
theorem d_Mdl_lay_27 : decode b_Mdl_lay 27 = .ok (.iconst 1, 1) := by decide +kernel
theorem d_Mdl_lay_28 : decode b_Mdl_lay 28 = .ok (.goto 4, 3) := by decide +kernel
theorem d_Mdl_lay_31 : decode b_Mdl_lay 31 = .ok (.iconst 0, 1) := by decide +kernel
theorem d_Mdl_lay_32 : decode b_Mdl_lay 32 = .ok (.invokevirtual 168, 3) := by decide +kernel
theorem d_Mdl_lay_35 : decode b_Mdl_lay 35 = .ok (.ifCond .ne 5, 3) := by decide +kernel
theorem d_Mdl_lay_38 : decode b_Mdl_lay 38 = .ok (.iconst 0, 1) := by decide +kernel
theorem d_Mdl_lay_39 : decode b_Mdl_lay 39 = .ok (.ireturn, 1) := by decide +kernel
theorem d_Mdl_lay_40 : decode b_Mdl_lay 40 = .ok (.aload_n 0, 1) := by decide +kernel
theorem d_Mdl_lay_41 : decode b_Mdl_lay 41 = .ok (.aload_n 0, 1) := by decide +kernel
theorem d_Mdl_lay_42 : decode b_Mdl_lay 42 = .ok (.getfield 103, 3) := by decide +kernel
theorem d_Mdl_lay_45 : decode b_Mdl_lay 45 = .ok (.iload_n 2, 1) := by decide +kernel
theorem d_Mdl_lay_46 : decode b_Mdl_lay 46 = .ok (.aaload, 1) := by decide +kernel
theorem d_Mdl_lay_47 : decode b_Mdl_lay 47 = .ok (.invokevirtual 181, 3) := by decide +kernel
theorem d_Mdl_lay_50 : decode b_Mdl_lay 50 = .ok (.ifCond .eq 22, 3) := by decide +kernel
theorem d_Mdl_lay_53 : decode b_Mdl_lay 53 = .ok (.aload_n 0, 1) := by decide +kernel
theorem d_Mdl_lay_54 : decode b_Mdl_lay 54 = .ok (.getfield 103, 3) := by decide +kernel
theorem d_Mdl_lay_57 : decode b_Mdl_lay 57 = .ok (.iload_n 3, 1) := by decide +kernel
theorem d_Mdl_lay_58 : decode b_Mdl_lay 58 = .ok (.aaload, 1) := by decide +kernel
theorem d_Mdl_lay_59 : decode b_Mdl_lay 59 = .ok (.aload_n 0, 1) := by decide +kernel
theorem d_Mdl_lay_60 : decode b_Mdl_lay 60 = .ok (.getfield 13, 3) := by decide +kernel
theorem d_Mdl_lay_63 : decode b_Mdl_lay 63 = .ok (.getfield 178, 3) := by decide +kernel
theorem d_Mdl_lay_66 : decode b_Mdl_lay 66 = .ok (.invokestatic 174, 3) := by decide +kernel
theorem d_Mdl_lay_69 : decode b_Mdl_lay 69 = .ok (.ifCond .lt 5, 3) := by decide +kernel
theorem d_Mdl_lay_72 : decode b_Mdl_lay 72 = .ok (.iconst 0, 1) := by decide +kernel
theorem d_Mdl_lay_73 : decode b_Mdl_lay 73 = .ok (.ireturn, 1) := by decide +kernel
theorem d_Mdl_lay_74 : decode b_Mdl_lay 74 = .ok (.aload_n 0, 1) := by decide +kernel
theorem d_Mdl_lay_75 : decode b_Mdl_lay 75 = .ok (.getfield 13, 3) := by decide +kernel
theorem d_Mdl_lay_78 : decode b_Mdl_lay 78 = .ok (.aload_n 0, 1) := by decide +kernel
theorem d_Mdl_lay_79 : decode b_Mdl_lay 79 = .ok (.getfield 103, 3) := by decide +kernel
theorem d_Mdl_lay_82 : decode b_Mdl_lay 82 = .ok (.iload_n 3, 1) := by decide +kernel
theorem d_Mdl_lay_83 : decode b_Mdl_lay 83 = .ok (.aaload, 1) := by decide +kernel
theorem d_Mdl_lay_84 : decode b_Mdl_lay 84 = .ok (.aload_n 0, 1) := by decide +kernel
theorem d_Mdl_lay_85 : decode b_Mdl_lay 85 = .ok (.getfield 110, 3) := by decide +kernel
theorem d_Mdl_lay_88 : decode b_Mdl_lay 88 = .ok (.getfield 19, 3) := by decide +kernel
theorem d_Mdl_lay_91 : decode b_Mdl_lay 91 = .ok (.invokevirtual 135, 3) := by decide +kernel
theorem d_Mdl_lay_94 : decode b_Mdl_lay 94 = .ok (.aload_n 0, 1) := by decide +kernel
theorem d_Mdl_lay_95 : decode b_Mdl_lay 95 = .ok (.getfield 13, 3) := by decide +kernel
theorem d_Mdl_lay_98 : decode b_Mdl_lay 98 = .ok (.aload_n 0, 1) := by decide +kernel
theorem d_Mdl_lay_99 : decode b_Mdl_lay 99 = .ok (.getfield 110, 3) := by decide +kernel
theorem d_Mdl_lay_102 : decode b_Mdl_lay 102 = .ok (.getfield 19, 3) := by decide +kernel
theorem d_Mdl_lay_105 : decode b_Mdl_lay 105 = .ok (.aload_n 0, 1) := by decide +kernel
theorem d_Mdl_lay_106 : decode b_Mdl_lay 106 = .ok (.getfield 110, 3) := by decide +kernel
theorem d_Mdl_lay_109 : decode b_Mdl_lay 109 = .ok (.getfield 19, 3) := by decide +kernel
theorem d_Mdl_lay_112 : decode b_Mdl_lay 112 = .ok (.aload_n 0, 1) := by decide +kernel
theorem d_Mdl_lay_113 : decode b_Mdl_lay 113 = .ok (.getfield 122, 3) := by decide +kernel
theorem d_Mdl_lay_116 : decode b_Mdl_lay 116 = .ok (.invokevirtual 25, 3) := by decide +kernel
theorem d_Mdl_lay_119 : decode b_Mdl_lay 119 = .ok (.aload_n 0, 1) := by decide +kernel
theorem d_Mdl_lay_120 : decode b_Mdl_lay 120 = .ok (.getfield 119, 3) := by decide +kernel
theorem d_Mdl_lay_123 : decode b_Mdl_lay 123 = .ok (.aload_n 0, 1) := by decide +kernel
theorem d_Mdl_lay_124 : decode b_Mdl_lay 124 = .ok (.getfield 122, 3) := by decide +kernel
theorem d_Mdl_lay_127 : decode b_Mdl_lay 127 = .ok (.invokestatic 184, 3) := by decide +kernel
theorem d_Mdl_lay_130 : decode b_Mdl_lay 130 = .ok (.ifCond .ne 5, 3) := by decide +kernel
theorem d_Mdl_lay_133 : decode b_Mdl_lay 133 = .ok (.iconst 0, 1) := by decide +kernel
theorem d_Mdl_lay_134 : decode b_Mdl_lay 134 = .ok (.ireturn, 1) := by decide +kernel
theorem d_Mdl_lay_135 : decode b_Mdl_lay 135 = .ok (.aload_n 0, 1) := by decide +kernel
theorem d_Mdl_lay_136 : decode b_Mdl_lay 136 = .ok (.getfield 106, 3) := by decide +kernel
theorem d_Mdl_lay_139 : decode b_Mdl_lay 139 = .ok (.iload_n 1, 1) := by decide +kernel
theorem d_Mdl_lay_140 : decode b_Mdl_lay 140 = .ok (.aaload, 1) := by decide +kernel
theorem d_Mdl_lay_141 : decode b_Mdl_lay 141 = .ok (.aload_n 0, 1) := by decide +kernel
theorem d_Mdl_lay_142 : decode b_Mdl_lay 142 = .ok (.getfield 110, 3) := by decide +kernel
theorem d_Mdl_lay_145 : decode b_Mdl_lay 145 = .ok (.invokevirtual 50, 3) := by decide +kernel
theorem d_Mdl_lay_148 : decode b_Mdl_lay 148 = .ok (.iconst 1, 1) := by decide +kernel
theorem d_Mdl_lay_149 : decode b_Mdl_lay 149 = .ok (.ireturn, 1) := by decide +kernel
theorem d_Mdl_lift_0 : decode b_Mdl_lift 0 = .ok (.aload_n 0, 1) := by decide +kernel
theorem d_Mdl_lift_1 : decode b_Mdl_lift 1 = .ok (.iload_n 1, 1) := by decide +kernel
theorem d_Mdl_lift_2 : decode b_Mdl_lift 2 = .ok (.iconst 3, 1) := by decide +kernel
theorem d_Mdl_lift_3 : decode b_Mdl_lift 3 = .ok (.invokestatic 164, 3) := by decide +kernel
theorem d_Mdl_lift_6 : decode b_Mdl_lift 6 = .ok (.ifCond .eq 16, 3) := by decide +kernel
theorem d_Mdl_lift_9 : decode b_Mdl_lift 9 = .ok (.iload_n 2, 1) := by decide +kernel
theorem d_Mdl_lift_10 : decode b_Mdl_lift 10 = .ok (.bipush 7, 2) := by decide +kernel
theorem d_Mdl_lift_12 : decode b_Mdl_lift 12 = .ok (.invokestatic 164, 3) := by decide +kernel
theorem d_Mdl_lift_15 : decode b_Mdl_lift 15 = .ok (.ifCond .eq 7, 3) := by decide +kernel
theorem d_Mdl_lift_18 : decode b_Mdl_lift 18 = .ok (.iconst 1, 1) := by decide +kernel
theorem d_Mdl_lift_19 : decode b_Mdl_lift 19 = .ok (.goto 4, 3) := by decide +kernel
theorem d_Mdl_lift_22 : decode b_Mdl_lift 22 = .ok (.iconst 0, 1) := by decide +kernel
theorem d_Mdl_lift_23 : decode b_Mdl_lift 23 = .ok (.invokevirtual 168, 3) := by decide +kernel
theorem d_Mdl_lift_26 : decode b_Mdl_lift 26 = .ok (.ifCond .eq 16, 3) := by decide +kernel
theorem d_Mdl_lift_29 : decode b_Mdl_lift 29 = .ok (.aload_n 0, 1) := by decide +kernel
theorem d_Mdl_lift_30 : decode b_Mdl_lift 30 = .ok (.aload_n 0, 1) := by decide +kernel
theorem d_Mdl_lift_31 : decode b_Mdl_lift 31 = .ok (.getfield 103, 3) := by decide +kernel
theorem d_Mdl_lift_34 : decode b_Mdl_lift 34 = .ok (.iload_n 2, 1) := by decide +kernel
theorem d_Mdl_lift_35 : decode b_Mdl_lift 35 = .ok (.aaload, 1) := by decide +kernel
theorem d_Mdl_lift_36 : decode b_Mdl_lift 36 = .ok (.invokevirtual 181, 3) := by decide +kernel
theorem d_Mdl_lift_39 : decode b_Mdl_lift 39 = .ok (.ifCond .ne 5, 3) := by decide +kernel
theorem d_Mdl_lift_42 : decode b_Mdl_lift 42 = .ok (.iconst 0, 1) := by decide +kernel
theorem d_Mdl_lift_43 : decode b_Mdl_lift 43 = .ok (.ireturn, 1) := by decide +kernel
theorem d_Mdl_lift_44 : decode b_Mdl_lift 44 = .ok (.aload_n 0, 1) := by decide +kernel
theorem d_Mdl_lift_45 : decode b_Mdl_lift 45 = .ok (.getfield 13, 3) := by decide +kernel
theorem d_Mdl_lift_48 : decode b_Mdl_lift 48 = .ok (.aload_n 0, 1) := by decide +kernel
theorem d_Mdl_lift_49 : decode b_Mdl_lift 49 = .ok (.getfield 119, 3) := by decide +kernel
theorem d_Mdl_lift_52 : decode b_Mdl_lift 52 = .ok (.iconst 1, 1) := by decide +kernel
theorem d_Mdl_lift_53 : decode b_Mdl_lift 53 = .ok (.iconst 2, 1) := by decide +kernel
theorem d_Mdl_lift_54 : decode b_Mdl_lift 54 = .ok (.aload_n 0, 1) := by decide +kernel
theorem d_Mdl_lift_55 : decode b_Mdl_lift 55 = .ok (.getfield 110, 3) := by decide +kernel
theorem d_Mdl_lift_58 : decode b_Mdl_lift 58 = .ok (.getfield 19, 3) := by decide +kernel
theorem d_Mdl_lift_61 : decode b_Mdl_lift 61 = .ok (.invokevirtual 61, 3) := by decide +kernel
theorem d_Mdl_lift_64 : decode b_Mdl_lift 64 = .ok (.aload_n 0, 1) := by decide +kernel
theorem d_Mdl_lift_65 : decode b_Mdl_lift 65 = .ok (.getfield 13, 3) := by decide +kernel
theorem d_Mdl_lift_68 : decode b_Mdl_lift 68 = .ok (.aload_n 0, 1) := by decide +kernel
theorem d_Mdl_lift_69 : decode b_Mdl_lift 69 = .ok (.getfield 110, 3) := by decide +kernel
theorem d_Mdl_lift_72 : decode b_Mdl_lift 72 = .ok (.getfield 19, 3) := by decide +kernel
theorem d_Mdl_lift_75 : decode b_Mdl_lift 75 = .ok (.aload_n 0, 1) := by decide +kernel
theorem d_Mdl_lift_76 : decode b_Mdl_lift 76 = .ok (.getfield 110, 3) := by decide +kernel
theorem d_Mdl_lift_79 : decode b_Mdl_lift 79 = .ok (.getfield 19, 3) := by decide +kernel
theorem d_Mdl_lift_82 : decode b_Mdl_lift 82 = .ok (.aload_n 0, 1) := by decide +kernel
theorem d_Mdl_lift_83 : decode b_Mdl_lift 83 = .ok (.getfield 122, 3) := by decide +kernel
theorem d_Mdl_lift_86 : decode b_Mdl_lift 86 = .ok (.invokevirtual 25, 3) := by decide +kernel
theorem d_Mdl_lift_89 : decode b_Mdl_lift 89 = .ok (.aload_n 0, 1) := by decide +kernel
theorem d_Mdl_lift_90 : decode b_Mdl_lift 90 = .ok (.getfield 119, 3) := by decide +kernel
theorem d_Mdl_lift_93 : decode b_Mdl_lift 93 = .ok (.aload_n 0, 1) := by decide +kernel
theorem d_Mdl_lift_94 : decode b_Mdl_lift 94 = .ok (.getfield 122, 3) := by decide +kernel
theorem d_Mdl_lift_97 : decode b_Mdl_lift 97 = .ok (.invokestatic 184, 3) := by decide +kernel
theorem d_Mdl_lift_100 : decode b_Mdl_lift 100 = .ok (.ifCond .ne 5, 3) := by decide +kernel
theorem d_Mdl_lift_103 : decode b_Mdl_lift 103 = .ok (.iconst 0, 1) := by decide +kernel
theorem d_Mdl_lift_104 : decode b_Mdl_lift 104 = .ok (.ireturn, 1) := by decide +kernel
theorem d_Mdl_lift_105 : decode b_Mdl_lift 105 = .ok (.aload_n 0, 1) := by decide +kernel
theorem d_Mdl_lift_106 : decode b_Mdl_lift 106 = .ok (.getfield 13, 3) := by decide +kernel
theorem d_Mdl_lift_109 : decode b_Mdl_lift 109 = .ok (.aload_n 0, 1) := by decide +kernel
theorem d_Mdl_lift_110 : decode b_Mdl_lift 110 = .ok (.getfield 110, 3) := by decide +kernel
theorem d_Mdl_lift_113 : decode b_Mdl_lift 113 = .ok (.getfield 19, 3) := by decide +kernel
theorem d_Mdl_lift_116 : decode b_Mdl_lift 116 = .ok (.aload_n 0, 1) := by decide +kernel
theorem d_Mdl_lift_117 : decode b_Mdl_lift 117 = .ok (.getfield 116, 3) := by decide +kernel
theorem d_Mdl_lift_120 : decode b_Mdl_lift 120 = .ok (.invokevirtual 65, 3) := by decide +kernel
theorem d_Mdl_lift_123 : decode b_Mdl_lift 123 = .ok (.aload_n 0, 1) := by decide +kernel
theorem d_Mdl_lift_124 : decode b_Mdl_lift 124 = .ok (.getfield 116, 3) := by decide +kernel
theorem d_Mdl_lift_127 : decode b_Mdl_lift 127 = .ok (.iconst 0, 1) := by decide +kernel
theorem d_Mdl_lift_128 : decode b_Mdl_lift 128 = .ok (.iaload, 1) := by decide +kernel
theorem d_Mdl_lift_129 : decode b_Mdl_lift 129 = .ok (.iconst 1, 1) := by decide +kernel
theorem d_Mdl_lift_130 : decode b_Mdl_lift 130 = .ok (.iand, 1) := by decide +kernel
theorem d_Mdl_lift_131 : decode b_Mdl_lift 131 = .ok (.iconst 1, 1) := by decide +kernel
theorem d_Mdl_lift_132 : decode b_Mdl_lift 132 = .ok (.if_icmp .ne 7, 3) := by decide +kernel
theorem d_Mdl_lift_135 : decode b_Mdl_lift 135 = .ok (.iconst 1, 1) := by decide +kernel
theorem d_Mdl_lift_136 : decode b_Mdl_lift 136 = .ok (.goto 4, 3) := by decide +kernel
theorem d_Mdl_lift_139 : decode b_Mdl_lift 139 = .ok (.iconst 0, 1) := by decide +kernel
theorem d_Mdl_lift_140 : decode b_Mdl_lift 140 = .ok (.iload_n 3, 1) := by decide +kernel
theorem d_Mdl_lift_141 : decode b_Mdl_lift 141 = .ok (.if_icmp .eq 52, 3) := by decide +kernel
theorem d_Mdl_lift_144 : decode b_Mdl_lift 144 = .ok (.iconst 0, 1) := by decide +kernel
theorem d_Mdl_lift_145 : decode b_Mdl_lift 145 = .ok (.istore 4, 2) := by decide +kernel
theorem d_Mdl_lift_147 : decode b_Mdl_lift 147 = .ok (.iload 4, 2) := by decide +kernel
theorem d_Mdl_lift_149 : decode b_Mdl_lift 149 = .ok (.bipush 8, 2) := by decide +kernel
theorem d_Mdl_lift_151 : decode b_Mdl_lift 151 = .ok (.if_icmp .ge 17, 3) := by decide +kernel
theorem d_Mdl_lift_154 : decode b_Mdl_lift 154 = .ok (.aload_n 0, 1) := by decide +kernel
theorem d_Mdl_lift_155 : decode b_Mdl_lift 155 = .ok (.getfield 122, 3) := by decide +kernel
theorem d_Mdl_lift_158 : decode b_Mdl_lift 158 = .ok (.iload 4, 2) := by decide +kernel
theorem d_Mdl_lift_160 : decode b_Mdl_lift 160 = .ok (.iconst 0, 1) := by decide +kernel
theorem d_Mdl_lift_161 : decode b_Mdl_lift 161 = .ok (.iastore, 1) := by decide +kernel
theorem d_Mdl_lift_162 : decode b_Mdl_lift 162 = .ok (.iinc 4 1, 3) := by decide +kernel
theorem d_Mdl_lift_165 : decode b_Mdl_lift 165 = .ok (.goto (-18), 3) := by decide +kernel
theorem d_Mdl_lift_168 : decode b_Mdl_lift 168 = .ok (.aload_n 0, 1) := by decide +kernel
theorem d_Mdl_lift_169 : decode b_Mdl_lift 169 = .ok (.getfield 13, 3) := by decide +kernel
theorem d_Mdl_lift_172 : decode b_Mdl_lift 172 = .ok (.aload_n 0, 1) := by decide +kernel
theorem d_Mdl_lift_173 : decode b_Mdl_lift 173 = .ok (.getfield 122, 3) := by decide +kernel
theorem d_Mdl_lift_176 : decode b_Mdl_lift 176 = .ok (.aload_n 0, 1) := by decide +kernel
theorem d_Mdl_lift_177 : decode b_Mdl_lift 177 = .ok (.getfield 110, 3) := by decide +kernel
theorem d_Mdl_lift_180 : decode b_Mdl_lift 180 = .ok (.getfield 19, 3) := by decide +kernel
theorem d_Mdl_lift_183 : decode b_Mdl_lift 183 = .ok (.aload_n 0, 1) := by decide +kernel
theorem d_Mdl_lift_184 : decode b_Mdl_lift 184 = .ok (.getfield 110, 3) := by decide +kernel
theorem d_Mdl_lift_187 : decode b_Mdl_lift 187 = .ok (.getfield 19, 3) := by decide +kernel
theorem d_Mdl_lift_190 : decode b_Mdl_lift 190 = .ok (.invokevirtual 47, 3) := by decide +kernel
theorem d_Mdl_lift_193 : decode b_Mdl_lift 193 = .ok (.aload_n 0, 1) := by decide +kernel
theorem d_Mdl_lift_194 : decode b_Mdl_lift 194 = .ok (.getfield 106, 3) := by decide +kernel
theorem d_Mdl_lift_197 : decode b_Mdl_lift 197 = .ok (.iload_n 1, 1) := by decide +kernel
theorem d_Mdl_lift_198 : decode b_Mdl_lift 198 = .ok (.aaload, 1) := by decide +kernel
theorem d_Mdl_lift_199 : decode b_Mdl_lift 199 = .ok (.aload_n 0, 1) := by decide +kernel
theorem d_Mdl_lift_200 : decode b_Mdl_lift 200 = .ok (.getfield 110, 3) := by decide +kernel
theorem d_Mdl_lift_203 : decode b_Mdl_lift 203 = .ok (.invokevirtual 50, 3) := by decide +kernel
theorem d_Mdl_lift_206 : decode b_Mdl_lift 206 = .ok (.iconst 1, 1) := by decide +kernel
theorem d_Mdl_lift_207 : decode b_Mdl_lift 207 = .ok (.ireturn, 1) := by decide +kernel
theorem d_Mdl_show_0 : decode b_Mdl_show 0 = .ok (.aload_n 0, 1) := by decide +kernel
theorem d_Mdl_show_1 : decode b_Mdl_show 1 = .ok (.iload_n 1, 1) := by decide +kernel
theorem d_Mdl_show_2 : decode b_Mdl_show 2 = .ok (.iconst 3, 1) := by decide +kernel
theorem d_Mdl_show_3 : decode b_Mdl_show 3 = .ok (.invokestatic 164, 3) := by decide +kernel
theorem d_Mdl_show_6 : decode b_Mdl_show 6 = .ok (.ifCond .eq 25, 3) := by decide +kernel
theorem d_Mdl_show_9 : decode b_Mdl_show 9 = .ok (.iload_n 2, 1) := by decide +kernel
theorem d_Mdl_show_10 : decode b_Mdl_show 10 = .ok (.bipush 7, 2) := by decide +kernel
theorem d_Mdl_show_12 : decode b_Mdl_show 12 = .ok (.invokestatic 164, 3) := by decide +kernel
theorem d_Mdl_show_15 : decode b_Mdl_show 15 = .ok (.ifCond .eq 16, 3) := by decide +kernel
theorem d_Mdl_show_18 : decode b_Mdl_show 18 = .ok (.iload_n 3, 1) := by decide +kernel
theorem d_Mdl_show_19 : decode b_Mdl_show 19 = .ok (.bipush 7, 2) := by decide +kernel
theorem d_Mdl_show_21 : decode b_Mdl_show 21 = .ok (.invokestatic 164, 3) := by decide +kernel
theorem d_Mdl_show_24 : decode b_Mdl_show 24 = .ok (.ifCond .eq 7, 3) := by decide +kernel
theorem d_Mdl_show_27 : decode b_Mdl_show 27 = .ok (.iconst 1, 1) := by decide +kernel
theorem d_Mdl_show_28 : decode b_Mdl_show 28 = .ok (.goto 4, 3) := by decide +kernel
theorem d_Mdl_show_31 : decode b_Mdl_show 31 = .ok (.iconst 0, 1) := by decide +kernel
theorem d_Mdl_show_32 : decode b_Mdl_show 32 = .ok (.invokevirtual 168, 3) := by decide +kernel
theorem d_Mdl_show_35 : decode b_Mdl_show 35 = .ok (.ifCond .eq 18, 3) := by decide +kernel
theorem d_Mdl_show_38 : decode b_Mdl_show 38 = .ok (.aload_n 0, 1) := by decide +kernel
theorem d_Mdl_show_39 : decode b_Mdl_show 39 = .ok (.getfield 106, 3) := by decide +kernel
theorem d_Mdl_show_42 : decode b_Mdl_show 42 = .ok (.iload_n 1, 1) := by decide +kernel
theorem d_Mdl_show_43 : decode b_Mdl_show 43 = .ok (.aaload, 1) := by decide +kernel
theorem d_Mdl_show_44 : decode b_Mdl_show 44 = .ok (.getfield 1, 3) := by decide +kernel
theorem d_Mdl_show_47 : decode b_Mdl_show 47 = .ok (.invokestatic 7, 3) := by decide +kernel
theorem d_Mdl_show_50 : decode b_Mdl_show 50 = .ok (.ifCond .eq 5, 3) := by decide +kernel
theorem d_Mdl_show_53 : decode b_Mdl_show 53 = .ok (.iconst 0, 1) := by decide +kernel
theorem d_Mdl_show_54 : decode b_Mdl_show 54 = .ok (.ireturn, 1) := by decide +kernel
theorem d_Mdl_show_55 : decode b_Mdl_show 55 = .ok (.aload_n 0, 1) := by decide +kernel
theorem d_Mdl_show_56 : decode b_Mdl_show 56 = .ok (.aload_n 0, 1) := by decide +kernel
theorem d_Mdl_show_57 : decode b_Mdl_show 57 = .ok (.getfield 106, 3) := by decide +kernel
theorem d_Mdl_show_60 : decode b_Mdl_show 60 = .ok (.iload_n 1, 1) := by decide +kernel
theorem d_Mdl_show_61 : decode b_Mdl_show 61 = .ok (.aaload, 1) := by decide +kernel
theorem d_Mdl_show_62 : decode b_Mdl_show 62 = .ok (.aload_n 0, 1) := by decide +kernel
theorem d_Mdl_show_63 : decode b_Mdl_show 63 = .ok (.getfield 95, 3) := by decide +kernel
theorem d_Mdl_show_66 : decode b_Mdl_show 66 = .ok (.aload_n 0, 1) := by decide +kernel
theorem d_Mdl_show_67 : decode b_Mdl_show 67 = .ok (.getfield 98, 3) := by decide +kernel
theorem d_Mdl_show_70 : decode b_Mdl_show 70 = .ok (.invokevirtual 188, 3) := by decide +kernel
theorem d_Mdl_show_73 : decode b_Mdl_show 73 = .ok (.aload_n 0, 1) := by decide +kernel
theorem d_Mdl_show_74 : decode b_Mdl_show 74 = .ok (.getfield 95, 3) := by decide +kernel
theorem d_Mdl_show_77 : decode b_Mdl_show 77 = .ok (.aload_n 0, 1) := by decide +kernel
theorem d_Mdl_show_78 : decode b_Mdl_show 78 = .ok (.getfield 103, 3) := by decide +kernel
theorem d_Mdl_show_81 : decode b_Mdl_show 81 = .ok (.iload_n 2, 1) := by decide +kernel
theorem d_Mdl_show_82 : decode b_Mdl_show 82 = .ok (.aaload, 1) := by decide +kernel
theorem d_Mdl_show_83 : decode b_Mdl_show 83 = .ok (.invokestatic 157, 3) := by decide +kernel
theorem d_Mdl_show_86 : decode b_Mdl_show 86 = .ok (.aload_n 0, 1) := by decide +kernel
theorem d_Mdl_show_87 : decode b_Mdl_show 87 = .ok (.getfield 98, 3) := by decide +kernel
theorem d_Mdl_show_90 : decode b_Mdl_show 90 = .ok (.aload_n 0, 1) := by decide +kernel
theorem d_Mdl_show_91 : decode b_Mdl_show 91 = .ok (.getfield 103, 3) := by decide +kernel
theorem d_Mdl_show_94 : decode b_Mdl_show 94 = .ok (.iload_n 3, 1) := by decide +kernel
theorem d_Mdl_show_95 : decode b_Mdl_show 95 = .ok (.aaload, 1) := by decide +kernel
theorem d_Mdl_show_96 : decode b_Mdl_show 96 = .ok (.invokestatic 157, 3) := by decide +kernel
theorem d_Mdl_show_99 : decode b_Mdl_show 99 = .ok (.iconst 1, 1) := by decide +kernel
theorem d_Mdl_show_100 : decode b_Mdl_show 100 = .ok (.ireturn, 1) := by decide +kernel
theorem d_Mdl_add_0 : decode b_Mdl_add 0 = .ok (.aload_n 0, 1) := by decide +kernel
theorem d_Mdl_add_1 : decode b_Mdl_add 1 = .ok (.iload_n 1, 1) := by decide +kernel
theorem d_Mdl_add_2 : decode b_Mdl_add 2 = .ok (.iconst 3, 1) := by decide +kernel
theorem d_Mdl_add_3 : decode b_Mdl_add 3 = .ok (.invokestatic 164, 3) := by decide +kernel
theorem d_Mdl_add_6 : decode b_Mdl_add 6 = .ok (.ifCond .eq 23, 3) := by decide +kernel
theorem d_Mdl_add_9 : decode b_Mdl_add 9 = .ok (.iload_n 2, 1) := by decide +kernel
theorem d_Mdl_add_10 : decode b_Mdl_add 10 = .ok (.iconst 3, 1) := by decide +kernel
theorem d_Mdl_add_11 : decode b_Mdl_add 11 = .ok (.invokestatic 164, 3) := by decide +kernel
theorem d_Mdl_add_14 : decode b_Mdl_add 14 = .ok (.ifCond .eq 15, 3) := by decide +kernel
theorem d_Mdl_add_17 : decode b_Mdl_add 17 = .ok (.iload_n 3, 1) := by decide +kernel
theorem d_Mdl_add_18 : decode b_Mdl_add 18 = .ok (.iconst 3, 1) := by decide +kernel
theorem d_Mdl_add_19 : decode b_Mdl_add 19 = .ok (.invokestatic 164, 3) := by decide +kernel
theorem d_Mdl_add_22 : decode b_Mdl_add 22 = .ok (.ifCond .eq 7, 3) := by decide +kernel
theorem d_Mdl_add_25 : decode b_Mdl_add 25 = .ok (.iconst 1, 1) := by decide +kernel
theorem d_Mdl_add_26 : decode b_Mdl_add 26 = .ok (.goto 4, 3) := by decide +kernel
theorem d_Mdl_add_29 : decode b_Mdl_add 29 = .ok (.iconst 0, 1) := by decide +kernel
theorem d_Mdl_add_30 : decode b_Mdl_add 30 = .ok (.invokevirtual 168, 3) := by decide +kernel
theorem d_Mdl_add_33 : decode b_Mdl_add 33 = .ok (.ifCond .ne 4, 3) := by decide +kernel
theorem d_Mdl_add_36 : decode b_Mdl_add 36 = .ok (.return_, 1) := by decide +kernel
theorem d_Mdl_add_37 : decode b_Mdl_add 37 = .ok (.aload_n 0, 1) := by decide +kernel
theorem d_Mdl_add_38 : decode b_Mdl_add 38 = .ok (.getfield 86, 3) := by decide +kernel
theorem d_Mdl_add_41 : decode b_Mdl_add 41 = .ok (.aload_n 0, 1) := by decide +kernel
theorem d_Mdl_add_42 : decode b_Mdl_add 42 = .ok (.getfield 106, 3) := by decide +kernel
theorem d_Mdl_add_45 : decode b_Mdl_add 45 = .ok (.iload_n 2, 1) := by decide +kernel
theorem d_Mdl_add_46 : decode b_Mdl_add 46 = .ok (.aaload, 1) := by decide +kernel
theorem d_Mdl_add_47 : decode b_Mdl_add 47 = .ok (.invokevirtual 50, 3) := by decide +kernel
theorem d_Mdl_add_50 : decode b_Mdl_add 50 = .ok (.aload_n 0, 1) := by decide +kernel
theorem d_Mdl_add_51 : decode b_Mdl_add 51 = .ok (.getfield 89, 3) := by decide +kernel
theorem d_Mdl_add_54 : decode b_Mdl_add 54 = .ok (.aload_n 0, 1) := by decide +kernel
theorem d_Mdl_add_55 : decode b_Mdl_add 55 = .ok (.getfield 106, 3) := by decide +kernel
theorem d_Mdl_add_58 : decode b_Mdl_add 58 = .ok (.iload_n 3, 1) := by decide +kernel
theorem d_Mdl_add_59 : decode b_Mdl_add 59 = .ok (.aaload, 1) := by decide +kernel
theorem d_Mdl_add_60 : decode b_Mdl_add 60 = .ok (.invokevirtual 50, 3) := by decide +kernel
theorem d_Mdl_add_63 : decode b_Mdl_add 63 = .ok (.aload_n 0, 1) := by decide +kernel
theorem d_Mdl_add_64 : decode b_Mdl_add 64 = .ok (.aload_n 0, 1) := by decide +kernel
theorem d_Mdl_add_65 : decode b_Mdl_add 65 = .ok (.getfield 86, 3) := by decide +kernel
theorem d_Mdl_add_68 : decode b_Mdl_add 68 = .ok (.aload_n 0, 1) := by decide +kernel
theorem d_Mdl_add_69 : decode b_Mdl_add 69 = .ok (.getfield 89, 3) := by decide +kernel
theorem d_Mdl_add_72 : decode b_Mdl_add 72 = .ok (.invokevirtual 57, 3) := by decide +kernel
theorem d_Mdl_add_75 : decode b_Mdl_add 75 = .ok (.aload_n 0, 1) := by decide +kernel
theorem d_Mdl_add_76 : decode b_Mdl_add 76 = .ok (.getfield 106, 3) := by decide +kernel
theorem d_Mdl_add_79 : decode b_Mdl_add 79 = .ok (.iload_n 1, 1) := by decide +kernel
theorem d_Mdl_add_80 : decode b_Mdl_add 80 = .ok (.aaload, 1) := by decide +kernel
theorem d_Mdl_add_81 : decode b_Mdl_add 81 = .ok (.aload_n 0, 1) := by decide +kernel
theorem d_Mdl_add_82 : decode b_Mdl_add 82 = .ok (.getfield 86, 3) := by decide +kernel
theorem d_Mdl_add_85 : decode b_Mdl_add 85 = .ok (.invokevirtual 50, 3) := by decide +kernel
theorem d_Mdl_add_88 : decode b_Mdl_add 88 = .ok (.return_, 1) := by decide +kernel
theorem d_Mdl_times_0 : decode b_Mdl_times 0 = .ok (.aload_n 0, 1) := by decide +kernel
theorem d_Mdl_times_1 : decode b_Mdl_times 1 = .ok (.iload_n 1, 1) := by decide +kernel
theorem d_Mdl_times_2 : decode b_Mdl_times 2 = .ok (.iconst 3, 1) := by decide +kernel
theorem d_Mdl_times_3 : decode b_Mdl_times 3 = .ok (.invokestatic 164, 3) := by decide +kernel
theorem d_Mdl_times_6 : decode b_Mdl_times 6 = .ok (.ifCond .eq 24, 3) := by decide +kernel
theorem d_Mdl_times_9 : decode b_Mdl_times 9 = .ok (.iload_n 2, 1) := by decide +kernel
theorem d_Mdl_times_10 : decode b_Mdl_times 10 = .ok (.bipush 7, 2) := by decide +kernel
theorem d_Mdl_times_12 : decode b_Mdl_times 12 = .ok (.invokestatic 164, 3) := by decide +kernel
theorem d_Mdl_times_15 : decode b_Mdl_times 15 = .ok (.ifCond .eq 15, 3) := by decide +kernel
theorem d_Mdl_times_18 : decode b_Mdl_times 18 = .ok (.iload_n 3, 1) := by decide +kernel
theorem d_Mdl_times_19 : decode b_Mdl_times 19 = .ok (.iconst 3, 1) := by decide +kernel
theorem d_Mdl_times_20 : decode b_Mdl_times 20 = .ok (.invokestatic 164, 3) := by decide +kernel
theorem d_Mdl_times_23 : decode b_Mdl_times 23 = .ok (.ifCond .eq 7, 3) := by decide +kernel
theorem d_Mdl_times_26 : decode b_Mdl_times 26 = .ok (.iconst 1, 1) := by decide +kernel
theorem d_Mdl_times_27 : decode b_Mdl_times 27 = .ok (.goto 4, 3) := by decide +kernel
theorem d_Mdl_times_30 : decode b_Mdl_times 30 = .ok (.iconst 0, 1) := by decide +kernel
theorem d_Mdl_times_31 : decode b_Mdl_times 31 = .ok (.invokevirtual 168, 3) := by decide +kernel
theorem d_Mdl_times_34 : decode b_Mdl_times 34 = .ok (.ifCond .ne 4, 3) := by decide +kernel
theorem d_Mdl_times_37 : decode b_Mdl_times 37 = .ok (.return_, 1) := by decide +kernel
theorem d_Mdl_times_38 : decode b_Mdl_times 38 = .ok (.aload_n 0, 1) := by decide +kernel
theorem d_Mdl_times_39 : decode b_Mdl_times 39 = .ok (.getfield 89, 3) := by decide +kernel
theorem d_Mdl_times_42 : decode b_Mdl_times 42 = .ok (.aload_n 0, 1) := by decide +kernel
theorem d_Mdl_times_43 : decode b_Mdl_times 43 = .ok (.getfield 106, 3) := by decide +kernel
theorem d_Mdl_times_46 : decode b_Mdl_times 46 = .ok (.iload_n 3, 1) := by decide +kernel
theorem d_Mdl_times_47 : decode b_Mdl_times 47 = .ok (.aaload, 1) := by decide +kernel
theorem d_Mdl_times_48 : decode b_Mdl_times 48 = .ok (.invokevirtual 50, 3) := by decide +kernel
theorem d_Mdl_times_51 : decode b_Mdl_times 51 = .ok (.aload_n 0, 1) := by decide +kernel
theorem d_Mdl_times_52 : decode b_Mdl_times 52 = .ok (.aload_n 0, 1) := by decide +kernel
theorem d_Mdl_times_53 : decode b_Mdl_times 53 = .ok (.getfield 103, 3) := by decide +kernel
theorem d_Mdl_times_56 : decode b_Mdl_times 56 = .ok (.iload_n 2, 1) := by decide +kernel
theorem d_Mdl_times_57 : decode b_Mdl_times 57 = .ok (.aaload, 1) := by decide +kernel
theorem d_Mdl_times_58 : decode b_Mdl_times 58 = .ok (.aload_n 0, 1) := by decide +kernel
theorem d_Mdl_times_59 : decode b_Mdl_times 59 = .ok (.getfield 89, 3) := by decide +kernel
theorem d_Mdl_times_62 : decode b_Mdl_times 62 = .ok (.aload_n 0, 1) := by decide +kernel
theorem d_Mdl_times_63 : decode b_Mdl_times 63 = .ok (.getfield 86, 3) := by decide +kernel
theorem d_Mdl_times_66 : decode b_Mdl_times 66 = .ok (.invokevirtual 192, 3) := by decide +kernel
theorem d_Mdl_times_69 : decode b_Mdl_times 69 = .ok (.aload_n 0, 1) := by decide +kernel
theorem d_Mdl_times_70 : decode b_Mdl_times 70 = .ok (.getfield 106, 3) := by decide +kernel
theorem d_Mdl_times_73 : decode b_Mdl_times 73 = .ok (.iload_n 1, 1) := by decide +kernel
theorem d_Mdl_times_74 : decode b_Mdl_times 74 = .ok (.aaload, 1) := by decide +kernel
theorem d_Mdl_times_75 : decode b_Mdl_times 75 = .ok (.aload_n 0, 1) := by decide +kernel
theorem d_Mdl_times_76 : decode b_Mdl_times 76 = .ok (.getfield 86, 3) := by decide +kernel
theorem d_Mdl_times_79 : decode b_Mdl_times 79 = .ok (.invokevirtual 50, 3) := by decide +kernel
theorem d_Mdl_times_82 : decode b_Mdl_times 82 = .ok (.return_, 1) := by decide +kernel
theorem d_Mdl_same_0 : decode b_Mdl_same 0 = .ok (.aload_n 0, 1) := by decide +kernel
theorem d_Mdl_same_1 : decode b_Mdl_same 1 = .ok (.iload_n 1, 1) := by decide +kernel
theorem d_Mdl_same_2 : decode b_Mdl_same 2 = .ok (.iconst 3, 1) := by decide +kernel
theorem d_Mdl_same_3 : decode b_Mdl_same 3 = .ok (.invokestatic 164, 3) := by decide +kernel
theorem d_Mdl_same_6 : decode b_Mdl_same 6 = .ok (.ifCond .eq 15, 3) := by decide +kernel
theorem d_Mdl_same_9 : decode b_Mdl_same 9 = .ok (.iload_n 2, 1) := by decide +kernel
theorem d_Mdl_same_10 : decode b_Mdl_same 10 = .ok (.iconst 3, 1) := by decide +kernel
theorem d_Mdl_same_11 : decode b_Mdl_same 11 = .ok (.invokestatic 164, 3) := by decide +kernel
theorem d_Mdl_same_14 : decode b_Mdl_same 14 = .ok (.ifCond .eq 7, 3) := by decide +kernel
theorem d_Mdl_same_17 : decode b_Mdl_same 17 = .ok (.iconst 1, 1) := by decide +kernel
theorem d_Mdl_same_18 : decode b_Mdl_same 18 = .ok (.goto 4, 3) := by decide +kernel
theorem d_Mdl_same_21 : decode b_Mdl_same 21 = .ok (.iconst 0, 1) := by decide +kernel
theorem d_Mdl_same_22 : decode b_Mdl_same 22 = .ok (.invokevirtual 168, 3) := by decide +kernel
theorem d_Mdl_same_25 : decode b_Mdl_same 25 = .ok (.ifCond .ne 5, 3) := by decide +kernel
theorem d_Mdl_same_28 : decode b_Mdl_same 28 = .ok (.iconst 0, 1) := by decide +kernel
theorem d_Mdl_same_29 : decode b_Mdl_same 29 = .ok (.ireturn, 1) := by decide +kernel
theorem d_Mdl_same_30 : decode b_Mdl_same 30 = .ok (.aload_n 0, 1) := by decide +kernel
theorem d_Mdl_same_31 : decode b_Mdl_same 31 = .ok (.getfield 106, 3) := by decide +kernel
theorem d_Mdl_same_34 : decode b_Mdl_same 34 = .ok (.iload_n 1, 1) := by decide +kernel
theorem d_Mdl_same_35 : decode b_Mdl_same 35 = .ok (.aaload, 1) := by decide +kernel
theorem d_Mdl_same_36 : decode b_Mdl_same 36 = .ok (.getfield 1, 3) := by decide +kernel
theorem d_Mdl_same_39 : decode b_Mdl_same 39 = .ok (.invokestatic 7, 3) := by decide +kernel
theorem d_Mdl_same_42 : decode b_Mdl_same 42 = .ok (.istore_n 3, 1) := by decide +kernel
theorem d_Mdl_same_43 : decode b_Mdl_same 43 = .ok (.iload_n 3, 1) := by decide +kernel
theorem d_Mdl_same_44 : decode b_Mdl_same 44 = .ok (.ifCond .ne 18, 3) := by decide +kernel
theorem d_Mdl_same_47 : decode b_Mdl_same 47 = .ok (.aload_n 0, 1) := by decide +kernel
theorem d_Mdl_same_48 : decode b_Mdl_same 48 = .ok (.getfield 106, 3) := by decide +kernel
theorem d_Mdl_same_51 : decode b_Mdl_same 51 = .ok (.iload_n 2, 1) := by decide +kernel
theorem d_Mdl_same_52 : decode b_Mdl_same 52 = .ok (.aaload, 1) := by decide +kernel
theorem d_Mdl_same_53 : decode b_Mdl_same 53 = .ok (.getfield 1, 3) := by decide +kernel
theorem d_Mdl_same_56 : decode b_Mdl_same 56 = .ok (.invokestatic 7, 3) := by decide +kernel
theorem d_Mdl_same_59 : decode b_Mdl_same 59 = .ok (.ifCond .eq 28, 3) := by decide +kernel
theorem d_Mdl_same_62 : decode b_Mdl_same 62 = .ok (.iload_n 3, 1) := by decide +kernel
theorem d_Mdl_same_63 : decode b_Mdl_same 63 = .ok (.ifCond .eq 22, 3) := by decide +kernel
theorem d_Mdl_same_66 : decode b_Mdl_same 66 = .ok (.aload_n 0, 1) := by decide +kernel
theorem d_Mdl_same_67 : decode b_Mdl_same 67 = .ok (.getfield 106, 3) := by decide +kernel
theorem d_Mdl_same_70 : decode b_Mdl_same 70 = .ok (.iload_n 2, 1) := by decide +kernel
theorem d_Mdl_same_71 : decode b_Mdl_same 71 = .ok (.aaload, 1) := by decide +kernel
theorem d_Mdl_same_72 : decode b_Mdl_same 72 = .ok (.getfield 1, 3) := by decide +kernel
theorem d_Mdl_same_75 : decode b_Mdl_same 75 = .ok (.invokestatic 7, 3) := by decide +kernel
theorem d_Mdl_same_78 : decode b_Mdl_same 78 = .ok (.ifCond .eq 7, 3) := by decide +kernel
theorem d_Mdl_same_81 : decode b_Mdl_same 81 = .ok (.iconst 1, 1) := by decide +kernel
theorem d_Mdl_same_82 : decode b_Mdl_same 82 = .ok (.goto 4, 3) := by decide +kernel
theorem d_Mdl_same_85 : decode b_Mdl_same 85 = .ok (.iconst 0, 1) := by decide +kernel
theorem d_Mdl_same_86 : decode b_Mdl_same 86 = .ok (.ireturn, 1) := by decide +kernel
theorem d_Mdl_same_87 : decode b_Mdl_same 87 = .ok (.aload_n 0, 1) := by decide +kernel
theorem d_Mdl_same_88 : decode b_Mdl_same 88 = .ok (.aload_n 0, 1) := by decide +kernel
theorem d_Mdl_same_89 : decode b_Mdl_same 89 = .ok (.getfield 106, 3) := by decide +kernel
theorem d_Mdl_same_92 : decode b_Mdl_same 92 = .ok (.iload_n 1, 1) := by decide +kernel
theorem d_Mdl_same_93 : decode b_Mdl_same 93 = .ok (.aaload, 1) := by decide +kernel
theorem d_Mdl_same_94 : decode b_Mdl_same 94 = .ok (.aload_n 0, 1) := by decide +kernel
theorem d_Mdl_same_95 : decode b_Mdl_same 95 = .ok (.getfield 95, 3) := by decide +kernel
theorem d_Mdl_same_98 : decode b_Mdl_same 98 = .ok (.aload_n 0, 1) := by decide +kernel
theorem d_Mdl_same_99 : decode b_Mdl_same 99 = .ok (.getfield 98, 3) := by decide +kernel
theorem d_Mdl_same_102 : decode b_Mdl_same 102 = .ok (.invokevirtual 188, 3) := by decide +kernel
theorem d_Mdl_same_105 : decode b_Mdl_same 105 = .ok (.aload_n 0, 1) := by decide +kernel
theorem d_Mdl_same_106 : decode b_Mdl_same 106 = .ok (.aload_n 0, 1) := by decide +kernel
theorem d_Mdl_same_107 : decode b_Mdl_same 107 = .ok (.getfield 106, 3) := by decide +kernel
theorem d_Mdl_same_110 : decode b_Mdl_same 110 = .ok (.iload_n 2, 1) := by decide +kernel
theorem d_Mdl_same_111 : decode b_Mdl_same 111 = .ok (.aaload, 1) := by decide +kernel
theorem d_Mdl_same_112 : decode b_Mdl_same 112 = .ok (.aload_n 0, 1) := by decide +kernel
theorem d_Mdl_same_113 : decode b_Mdl_same 113 = .ok (.getfield 113, 3) := by decide +kernel
theorem d_Mdl_same_116 : decode b_Mdl_same 116 = .ok (.aload_n 0, 1) := by decide +kernel
theorem d_Mdl_same_117 : decode b_Mdl_same 117 = .ok (.getfield 116, 3) := by decide +kernel
theorem d_Mdl_same_120 : decode b_Mdl_same 120 = .ok (.invokevirtual 188, 3) := by decide +kernel
theorem d_Mdl_same_123 : decode b_Mdl_same 123 = .ok (.aload_n 0, 1) := by decide +kernel
theorem d_Mdl_same_124 : decode b_Mdl_same 124 = .ok (.getfield 95, 3) := by decide +kernel
theorem d_Mdl_same_127 : decode b_Mdl_same 127 = .ok (.aload_n 0, 1) := by decide +kernel
theorem d_Mdl_same_128 : decode b_Mdl_same 128 = .ok (.getfield 113, 3) := by decide +kernel
theorem d_Mdl_same_131 : decode b_Mdl_same 131 = .ok (.invokestatic 184, 3) := by decide +kernel
theorem d_Mdl_same_134 : decode b_Mdl_same 134 = .ok (.ifCond .eq 21, 3) := by decide +kernel
theorem d_Mdl_same_137 : decode b_Mdl_same 137 = .ok (.aload_n 0, 1) := by decide +kernel
theorem d_Mdl_same_138 : decode b_Mdl_same 138 = .ok (.getfield 98, 3) := by decide +kernel
theorem d_Mdl_same_141 : decode b_Mdl_same 141 = .ok (.aload_n 0, 1) := by decide +kernel
theorem d_Mdl_same_142 : decode b_Mdl_same 142 = .ok (.getfield 116, 3) := by decide +kernel
theorem d_Mdl_same_145 : decode b_Mdl_same 145 = .ok (.invokestatic 184, 3) := by decide +kernel
theorem d_Mdl_same_148 : decode b_Mdl_same 148 = .ok (.ifCond .eq 7, 3) := by decide +kernel
theorem d_Mdl_same_151 : decode b_Mdl_same 151 = .ok (.iconst 1, 1) := by decide +kernel
theorem d_Mdl_same_152 : decode b_Mdl_same 152 = .ok (.goto 4, 3) := by decide +kernel
theorem d_Mdl_same_155 : decode b_Mdl_same 155 = .ok (.iconst 0, 1) := by decide +kernel
theorem d_Mdl_same_156 : decode b_Mdl_same 156 = .ok (.ireturn, 1) := by decide +kernel
theorem d_Mdl_isPart_0 : decode b_Mdl_isPart 0 = .ok (.aload_n 1, 1) := by decide +kernel
theorem d_Mdl_isPart_1 : decode b_Mdl_isPart 1 = .ok (.invokestatic 7, 3) := by decide +kernel
theorem d_Mdl_isPart_4 : decode b_Mdl_isPart 4 = .ok (.ifCond .ne 21, 3) := by decide +kernel
theorem d_Mdl_isPart_7 : decode b_Mdl_isPart 7 = .ok (.aload_n 1, 1) := by decide +kernel
theorem d_Mdl_isPart_8 : decode b_Mdl_isPart 8 = .ok (.aload_n 0, 1) := by decide +kernel
theorem d_Mdl_isPart_9 : decode b_Mdl_isPart 9 = .ok (.getfield 132, 3) := by decide +kernel
theorem d_Mdl_isPart_12 : decode b_Mdl_isPart 12 = .ok (.getfield 178, 3) := by decide +kernel
theorem d_Mdl_isPart_15 : decode b_Mdl_isPart 15 = .ok (.invokestatic 174, 3) := by decide +kernel
theorem d_Mdl_isPart_18 : decode b_Mdl_isPart 18 = .ok (.ifCond .ge 7, 3) := by decide +kernel
theorem d_Mdl_isPart_21 : decode b_Mdl_isPart 21 = .ok (.iconst 1, 1) := by decide +kernel
theorem d_Mdl_isPart_22 : decode b_Mdl_isPart 22 = .ok (.goto 4, 3) := by decide +kernel
theorem d_Mdl_isPart_25 : decode b_Mdl_isPart 25 = .ok (.iconst 0, 1) := by decide +kernel
theorem d_Mdl_isPart_26 : decode b_Mdl_isPart 26 = .ok (.ireturn, 1) := by decide +kernel
theorem d_Mdl_reduce_0 : decode b_Mdl_reduce 0 = .ok (.aload_n 1, 1) := by decide +kernel
theorem d_Mdl_reduce_1 : decode b_Mdl_reduce 1 = .ok (.aload_n 0, 1) := by decide +kernel
theorem d_Mdl_reduce_2 : decode b_Mdl_reduce 2 = .ok (.getfield 132, 3) := by decide +kernel
theorem d_Mdl_reduce_5 : decode b_Mdl_reduce 5 = .ok (.getfield 178, 3) := by decide +kernel
theorem d_Mdl_reduce_8 : decode b_Mdl_reduce 8 = .ok (.invokestatic 174, 3) := by decide +kernel
theorem d_Mdl_reduce_11 : decode b_Mdl_reduce 11 = .ok (.ifCond .lt 16, 3) := by decide +kernel
theorem d_Mdl_reduce_14 : decode b_Mdl_reduce 14 = .ok (.aload_n 1, 1) := by decide +kernel
theorem d_Mdl_reduce_15 : decode b_Mdl_reduce 15 = .ok (.aload_n 0, 1) := by decide +kernel
theorem d_Mdl_reduce_16 : decode b_Mdl_reduce 16 = .ok (.getfield 132, 3) := by decide +kernel
theorem d_Mdl_reduce_19 : decode b_Mdl_reduce 19 = .ok (.getfield 178, 3) := by decide +kernel
theorem d_Mdl_reduce_22 : decode b_Mdl_reduce 22 = .ok (.aload_n 1, 1) := by decide +kernel
theorem d_Mdl_reduce_23 : decode b_Mdl_reduce 23 = .ok (.invokestatic 196, 3) := by decide +kernel
theorem d_Mdl_reduce_26 : decode b_Mdl_reduce 26 = .ok (.pop2, 1) := by decide +kernel
theorem d_Mdl_reduce_27 : decode b_Mdl_reduce 27 = .ok (.return_, 1) := by decide +kernel
theorem d_Mdl_sign_0 : decode b_Mdl_sign 0 = .ok (.aload_n 0, 1) := by decide +kernel
theorem d_Mdl_sign_1 : decode b_Mdl_sign 1 = .ok (.iload_n 1, 1) := by decide +kernel
theorem d_Mdl_sign_2 : decode b_Mdl_sign 2 = .ok (.bipush 7, 2) := by decide +kernel
theorem d_Mdl_sign_4 : decode b_Mdl_sign 4 = .ok (.invokestatic 164, 3) := by decide +kernel
theorem d_Mdl_sign_7 : decode b_Mdl_sign 7 = .ok (.ifCond .eq 45, 3) := by decide +kernel
theorem d_Mdl_sign_10 : decode b_Mdl_sign 10 = .ok (.iload_n 2, 1) := by decide +kernel
theorem d_Mdl_sign_11 : decode b_Mdl_sign 11 = .ok (.bipush 7, 2) := by decide +kernel
theorem d_Mdl_sign_13 : decode b_Mdl_sign 13 = .ok (.invokestatic 164, 3) := by decide +kernel
theorem d_Mdl_sign_16 : decode b_Mdl_sign 16 = .ok (.ifCond .eq 36, 3) := by decide +kernel
theorem d_Mdl_sign_19 : decode b_Mdl_sign 19 = .ok (.iload_n 3, 1) := by decide +kernel
theorem d_Mdl_sign_20 : decode b_Mdl_sign 20 = .ok (.bipush 7, 2) := by decide +kernel
theorem d_Mdl_sign_22 : decode b_Mdl_sign 22 = .ok (.invokestatic 164, 3) := by decide +kernel
theorem d_Mdl_sign_25 : decode b_Mdl_sign 25 = .ok (.ifCond .eq 27, 3) := by decide +kernel
theorem d_Mdl_sign_28 : decode b_Mdl_sign 28 = .ok (.iload 4, 2) := by decide +kernel
theorem d_Mdl_sign_30 : decode b_Mdl_sign 30 = .ok (.bipush 7, 2) := by decide +kernel
theorem d_Mdl_sign_32 : decode b_Mdl_sign 32 = .ok (.invokestatic 164, 3) := by decide +kernel
theorem d_Mdl_sign_35 : decode b_Mdl_sign 35 = .ok (.ifCond .eq 17, 3) := by decide +kernel
theorem d_Mdl_sign_38 : decode b_Mdl_sign 38 = .ok (.iload 5, 2) := by decide +kernel
theorem d_Mdl_sign_40 : decode b_Mdl_sign 40 = .ok (.bipush 7, 2) := by decide +kernel
theorem d_Mdl_sign_42 : decode b_Mdl_sign 42 = .ok (.invokestatic 164, 3) := by decide +kernel
theorem d_Mdl_sign_45 : decode b_Mdl_sign 45 = .ok (.ifCond .eq 7, 3) := by decide +kernel
theorem d_Mdl_sign_48 : decode b_Mdl_sign 48 = .ok (.iconst 1, 1) := by decide +kernel
theorem d_Mdl_sign_49 : decode b_Mdl_sign 49 = .ok (.goto 4, 3) := by decide +kernel
theorem d_Mdl_sign_52 : decode b_Mdl_sign 52 = .ok (.iconst 0, 1) := by decide +kernel
theorem d_Mdl_sign_53 : decode b_Mdl_sign 53 = .ok (.invokevirtual 168, 3) := by decide +kernel
theorem d_Mdl_sign_56 : decode b_Mdl_sign 56 = .ok (.ifCond .ne 5, 3) := by decide +kernel
theorem d_Mdl_sign_59 : decode b_Mdl_sign 59 = .ok (.iconst 0, 1) := by decide +kernel
theorem d_Mdl_sign_60 : decode b_Mdl_sign 60 = .ok (.ireturn, 1) := by decide +kernel
theorem d_Mdl_sign_61 : decode b_Mdl_sign 61 = .ok (.aload_n 0, 1) := by decide +kernel
theorem d_Mdl_sign_62 : decode b_Mdl_sign 62 = .ok (.aload_n 0, 1) := by decide +kernel
theorem d_Mdl_sign_63 : decode b_Mdl_sign 63 = .ok (.getfield 103, 3) := by decide +kernel
theorem d_Mdl_sign_66 : decode b_Mdl_sign 66 = .ok (.iload_n 3, 1) := by decide +kernel
theorem d_Mdl_sign_67 : decode b_Mdl_sign 67 = .ok (.aaload, 1) := by decide +kernel
theorem d_Mdl_sign_68 : decode b_Mdl_sign 68 = .ok (.invokevirtual 200, 3) := by decide +kernel
theorem d_Mdl_sign_71 : decode b_Mdl_sign 71 = .ok (.ifCond .eq 17, 3) := by decide +kernel
theorem d_Mdl_sign_74 : decode b_Mdl_sign 74 = .ok (.aload_n 0, 1) := by decide +kernel
theorem d_Mdl_sign_75 : decode b_Mdl_sign 75 = .ok (.aload_n 0, 1) := by decide +kernel
theorem d_Mdl_sign_76 : decode b_Mdl_sign 76 = .ok (.getfield 103, 3) := by decide +kernel
theorem d_Mdl_sign_79 : decode b_Mdl_sign 79 = .ok (.iload 4, 2) := by decide +kernel
theorem d_Mdl_sign_81 : decode b_Mdl_sign 81 = .ok (.aaload, 1) := by decide +kernel
theorem d_Mdl_sign_82 : decode b_Mdl_sign 82 = .ok (.invokevirtual 200, 3) := by decide +kernel
theorem d_Mdl_sign_85 : decode b_Mdl_sign 85 = .ok (.ifCond .ne 5, 3) := by decide +kernel
theorem d_Mdl_sign_88 : decode b_Mdl_sign 88 = .ok (.iconst 0, 1) := by decide +kernel
theorem d_Mdl_sign_89 : decode b_Mdl_sign 89 = .ok (.ireturn, 1) := by decide +kernel
theorem d_Mdl_sign_90 : decode b_Mdl_sign 90 = .ok (.aload_n 0, 1) := by decide +kernel
theorem d_Mdl_sign_91 : decode b_Mdl_sign 91 = .ok (.getfield 89, 3) := by decide +kernel
theorem d_Mdl_sign_94 : decode b_Mdl_sign 94 = .ok (.aload_n 0, 1) := by decide +kernel
theorem d_Mdl_sign_95 : decode b_Mdl_sign 95 = .ok (.getfield 79, 3) := by decide +kernel
theorem d_Mdl_sign_98 : decode b_Mdl_sign 98 = .ok (.invokevirtual 50, 3) := by decide +kernel
theorem d_Mdl_sign_101 : decode b_Mdl_sign 101 = .ok (.aload_n 0, 1) := by decide +kernel
theorem d_Mdl_sign_102 : decode b_Mdl_sign 102 = .ok (.aload_n 0, 1) := by decide +kernel
theorem d_Mdl_sign_103 : decode b_Mdl_sign 103 = .ok (.getfield 103, 3) := by decide +kernel
theorem d_Mdl_sign_106 : decode b_Mdl_sign 106 = .ok (.iload 4, 2) := by decide +kernel
theorem d_Mdl_sign_108 : decode b_Mdl_sign 108 = .ok (.aaload, 1) := by decide +kernel
theorem d_Mdl_sign_109 : decode b_Mdl_sign 109 = .ok (.aload_n 0, 1) := by decide +kernel
theorem d_Mdl_sign_110 : decode b_Mdl_sign 110 = .ok (.getfield 89, 3) := by decide +kernel
theorem d_Mdl_sign_113 : decode b_Mdl_sign 113 = .ok (.aload_n 0, 1) := by decide +kernel
theorem d_Mdl_sign_114 : decode b_Mdl_sign 114 = .ok (.getfield 86, 3) := by decide +kernel
theorem d_Mdl_sign_117 : decode b_Mdl_sign 117 = .ok (.invokevirtual 192, 3) := by decide +kernel
theorem d_Mdl_sign_120 : decode b_Mdl_sign 120 = .ok (.aload_n 0, 1) := by decide +kernel
theorem d_Mdl_sign_121 : decode b_Mdl_sign 121 = .ok (.aload_n 0, 1) := by decide +kernel
theorem d_Mdl_sign_122 : decode b_Mdl_sign 122 = .ok (.getfield 86, 3) := by decide +kernel
theorem d_Mdl_sign_125 : decode b_Mdl_sign 125 = .ok (.aload_n 0, 1) := by decide +kernel
theorem d_Mdl_sign_126 : decode b_Mdl_sign 126 = .ok (.getfield 95, 3) := by decide +kernel
theorem d_Mdl_sign_129 : decode b_Mdl_sign 129 = .ok (.aload_n 0, 1) := by decide +kernel
theorem d_Mdl_sign_130 : decode b_Mdl_sign 130 = .ok (.getfield 98, 3) := by decide +kernel
theorem d_Mdl_sign_133 : decode b_Mdl_sign 133 = .ok (.invokevirtual 188, 3) := by decide +kernel
theorem d_Mdl_sign_136 : decode b_Mdl_sign 136 = .ok (.aload_n 0, 1) := by decide +kernel
theorem d_Mdl_sign_137 : decode b_Mdl_sign 137 = .ok (.aload_n 0, 1) := by decide +kernel
theorem d_Mdl_sign_138 : decode b_Mdl_sign 138 = .ok (.getfield 95, 3) := by decide +kernel
theorem d_Mdl_sign_141 : decode b_Mdl_sign 141 = .ok (.invokevirtual 203, 3) := by decide +kernel
theorem d_Mdl_sign_144 : decode b_Mdl_sign 144 = .ok (.aload_n 0, 1) := by decide +kernel
theorem d_Mdl_sign_145 : decode b_Mdl_sign 145 = .ok (.getfield 132, 3) := by decide +kernel
theorem d_Mdl_sign_148 : decode b_Mdl_sign 148 = .ok (.aload_n 0, 1) := by decide +kernel
theorem d_Mdl_sign_149 : decode b_Mdl_sign 149 = .ok (.getfield 95, 3) := by decide +kernel
theorem d_Mdl_sign_152 : decode b_Mdl_sign 152 = .ok (.aload_n 0, 1) := by decide +kernel
theorem d_Mdl_sign_153 : decode b_Mdl_sign 153 = .ok (.getfield 119, 3) := by decide +kernel
theorem d_Mdl_sign_156 : decode b_Mdl_sign 156 = .ok (.invokevirtual 135, 3) := by decide +kernel
theorem d_Mdl_sign_159 : decode b_Mdl_sign 159 = .ok (.aload_n 0, 1) := by decide +kernel
theorem d_Mdl_sign_160 : decode b_Mdl_sign 160 = .ok (.getfield 132, 3) := by decide +kernel
theorem d_Mdl_sign_163 : decode b_Mdl_sign 163 = .ok (.aload_n 0, 1) := by decide +kernel
theorem d_Mdl_sign_164 : decode b_Mdl_sign 164 = .ok (.getfield 103, 3) := by decide +kernel
theorem d_Mdl_sign_167 : decode b_Mdl_sign 167 = .ok (.iload_n 3, 1) := by decide +kernel
theorem d_Mdl_sign_168 : decode b_Mdl_sign 168 = .ok (.aaload, 1) := by decide +kernel
theorem d_Mdl_sign_169 : decode b_Mdl_sign 169 = .ok (.aload_n 0, 1) := by decide +kernel
theorem d_Mdl_sign_170 : decode b_Mdl_sign 170 = .ok (.getfield 122, 3) := by decide +kernel
theorem d_Mdl_sign_173 : decode b_Mdl_sign 173 = .ok (.invokevirtual 135, 3) := by decide +kernel
theorem d_Mdl_sign_176 : decode b_Mdl_sign 176 = .ok (.aload_n 0, 1) := by decide +kernel
theorem d_Mdl_sign_177 : decode b_Mdl_sign 177 = .ok (.getfield 132, 3) := by decide +kernel
theorem d_Mdl_sign_180 : decode b_Mdl_sign 180 = .ok (.aload_n 0, 1) := by decide +kernel
theorem d_Mdl_sign_181 : decode b_Mdl_sign 181 = .ok (.getfield 119, 3) := by decide +kernel
theorem d_Mdl_sign_184 : decode b_Mdl_sign 184 = .ok (.aload_n 0, 1) := by decide +kernel
theorem d_Mdl_sign_185 : decode b_Mdl_sign 185 = .ok (.getfield 122, 3) := by decide +kernel
theorem d_Mdl_sign_188 : decode b_Mdl_sign 188 = .ok (.aload_n 0, 1) := by decide +kernel
theorem d_Mdl_sign_189 : decode b_Mdl_sign 189 = .ok (.getfield 119, 3) := by decide +kernel
theorem d_Mdl_sign_192 : decode b_Mdl_sign 192 = .ok (.invokevirtual 25, 3) := by decide +kernel
theorem d_Mdl_sign_195 : decode b_Mdl_sign 195 = .ok (.aload_n 0, 1) := by decide +kernel
theorem d_Mdl_sign_196 : decode b_Mdl_sign 196 = .ok (.getfield 132, 3) := by decide +kernel
theorem d_Mdl_sign_199 : decode b_Mdl_sign 199 = .ok (.aload_n 0, 1) := by decide +kernel
theorem d_Mdl_sign_200 : decode b_Mdl_sign 200 = .ok (.getfield 103, 3) := by decide +kernel
theorem d_Mdl_sign_203 : decode b_Mdl_sign 203 = .ok (.iload 5, 2) := by decide +kernel
theorem d_Mdl_sign_205 : decode b_Mdl_sign 205 = .ok (.aaload, 1) := by decide +kernel
theorem d_Mdl_sign_206 : decode b_Mdl_sign 206 = .ok (.aload_n 0, 1) := by decide +kernel
theorem d_Mdl_sign_207 : decode b_Mdl_sign 207 = .ok (.getfield 122, 3) := by decide +kernel
theorem d_Mdl_sign_210 : decode b_Mdl_sign 210 = .ok (.invokevirtual 135, 3) := by decide +kernel
theorem d_Mdl_sign_213 : decode b_Mdl_sign 213 = .ok (.aload_n 0, 1) := by decide +kernel
theorem d_Mdl_sign_214 : decode b_Mdl_sign 214 = .ok (.getfield 132, 3) := by decide +kernel
theorem d_Mdl_sign_217 : decode b_Mdl_sign 217 = .ok (.aload_n 0, 1) := by decide +kernel
theorem d_Mdl_sign_218 : decode b_Mdl_sign 218 = .ok (.getfield 119, 3) := by decide +kernel
theorem d_Mdl_sign_221 : decode b_Mdl_sign 221 = .ok (.aload_n 0, 1) := by decide +kernel
theorem d_Mdl_sign_222 : decode b_Mdl_sign 222 = .ok (.getfield 122, 3) := by decide +kernel
theorem d_Mdl_sign_225 : decode b_Mdl_sign 225 = .ok (.aload_n 0, 1) := by decide +kernel
theorem d_Mdl_sign_226 : decode b_Mdl_sign 226 = .ok (.getfield 119, 3) := by decide +kernel
theorem d_Mdl_sign_229 : decode b_Mdl_sign 229 = .ok (.invokevirtual 35, 3) := by decide +kernel
theorem d_Mdl_sign_232 : decode b_Mdl_sign 232 = .ok (.aload_n 0, 1) := by decide +kernel
theorem d_Mdl_sign_233 : decode b_Mdl_sign 233 = .ok (.getfield 132, 3) := by decide +kernel
theorem d_Mdl_sign_236 : decode b_Mdl_sign 236 = .ok (.aload_n 0, 1) := by decide +kernel
theorem d_Mdl_sign_237 : decode b_Mdl_sign 237 = .ok (.getfield 103, 3) := by decide +kernel
theorem d_Mdl_sign_240 : decode b_Mdl_sign 240 = .ok (.iload 4, 2) := by decide +kernel
theorem d_Mdl_sign_242 : decode b_Mdl_sign 242 = .ok (.aaload, 1) := by decide +kernel
theorem d_Mdl_sign_243 : decode b_Mdl_sign 243 = .ok (.aload_n 0, 1) := by decide +kernel
theorem d_Mdl_sign_244 : decode b_Mdl_sign 244 = .ok (.getfield 122, 3) := by decide +kernel
theorem d_Mdl_sign_247 : decode b_Mdl_sign 247 = .ok (.invokevirtual 135, 3) := by decide +kernel
theorem d_Mdl_sign_250 : decode b_Mdl_sign 250 = .ok (.aload_n 0, 1) := by decide +kernel
theorem d_Mdl_sign_251 : decode b_Mdl_sign 251 = .ok (.getfield 132, 3) := by decide +kernel
theorem d_Mdl_sign_254 : decode b_Mdl_sign 254 = .ok (.aload_n 0, 1) := by decide +kernel
theorem d_Mdl_sign_255 : decode b_Mdl_sign 255 = .ok (.getfield 122, 3) := by decide +kernel
theorem d_Mdl_sign_258 : decode b_Mdl_sign 258 = .ok (.bipush (-2), 2) := by decide +kernel
theorem d_Mdl_sign_260 : decode b_Mdl_sign 260 = .ok (.iconst 0, 1) := by decide +kernel
theorem d_Mdl_sign_261 : decode b_Mdl_sign 261 = .ok (.aload_n 0, 1) := by decide +kernel
theorem d_Mdl_sign_262 : decode b_Mdl_sign 262 = .ok (.getfield 122, 3) := by decide +kernel
theorem d_Mdl_sign_265 : decode b_Mdl_sign 265 = .ok (.invokevirtual 61, 3) := by decide +kernel
theorem d_Mdl_sign_268 : decode b_Mdl_sign 268 = .ok (.aload_n 0, 1) := by decide +kernel
theorem d_Mdl_sign_269 : decode b_Mdl_sign 269 = .ok (.getfield 132, 3) := by decide +kernel
theorem d_Mdl_sign_272 : decode b_Mdl_sign 272 = .ok (.aload_n 0, 1) := by decide +kernel
theorem d_Mdl_sign_273 : decode b_Mdl_sign 273 = .ok (.getfield 119, 3) := by decide +kernel
theorem d_Mdl_sign_276 : decode b_Mdl_sign 276 = .ok (.aload_n 0, 1) := by decide +kernel
theorem d_Mdl_sign_277 : decode b_Mdl_sign 277 = .ok (.getfield 122, 3) := by decide +kernel
theorem d_Mdl_sign_280 : decode b_Mdl_sign 280 = .ok (.aload_n 0, 1) := by decide +kernel
theorem d_Mdl_sign_281 : decode b_Mdl_sign 281 = .ok (.getfield 119, 3) := by decide +kernel
theorem d_Mdl_sign_284 : decode b_Mdl_sign 284 = .ok (.invokevirtual 25, 3) := by decide +kernel
theorem d_Mdl_sign_287 : decode b_Mdl_sign 287 = .ok (.aload_n 0, 1) := by decide +kernel
theorem d_Mdl_sign_288 : decode b_Mdl_sign 288 = .ok (.getfield 132, 3) := by decide +kernel
theorem d_Mdl_sign_291 : decode b_Mdl_sign 291 = .ok (.aload_n 0, 1) := by decide +kernel
theorem d_Mdl_sign_292 : decode b_Mdl_sign 292 = .ok (.getfield 119, 3) := by decide +kernel
theorem d_Mdl_sign_295 : decode b_Mdl_sign 295 = .ok (.aload_n 0, 1) := by decide +kernel
theorem d_Mdl_sign_296 : decode b_Mdl_sign 296 = .ok (.getfield 119, 3) := by decide +kernel
theorem d_Mdl_sign_299 : decode b_Mdl_sign 299 = .ok (.invokevirtual 65, 3) := by decide +kernel
theorem d_Mdl_sign_302 : decode b_Mdl_sign 302 = .ok (.aload_n 0, 1) := by decide +kernel
theorem d_Mdl_sign_303 : decode b_Mdl_sign 303 = .ok (.getfield 95, 3) := by decide +kernel
theorem d_Mdl_sign_306 : decode b_Mdl_sign 306 = .ok (.aload_n 0, 1) := by decide +kernel
theorem d_Mdl_sign_307 : decode b_Mdl_sign 307 = .ok (.getfield 103, 3) := by decide +kernel
theorem d_Mdl_sign_310 : decode b_Mdl_sign 310 = .ok (.iload_n 1, 1) := by decide +kernel
theorem d_Mdl_sign_311 : decode b_Mdl_sign 311 = .ok (.aaload, 1) := by decide +kernel
theorem d_Mdl_sign_312 : decode b_Mdl_sign 312 = .ok (.invokestatic 157, 3) := by decide +kernel
theorem d_Mdl_sign_315 : decode b_Mdl_sign 315 = .ok (.aload_n 0, 1) := by decide +kernel
theorem d_Mdl_sign_316 : decode b_Mdl_sign 316 = .ok (.getfield 119, 3) := by decide +kernel
theorem d_Mdl_sign_319 : decode b_Mdl_sign 319 = .ok (.aload_n 0, 1) := by decide +kernel
theorem d_Mdl_sign_320 : decode b_Mdl_sign 320 = .ok (.getfield 103, 3) := by decide +kernel
theorem d_Mdl_sign_323 : decode b_Mdl_sign 323 = .ok (.iload_n 2, 1) := by decide +kernel
theorem d_Mdl_sign_324 : decode b_Mdl_sign 324 = .ok (.aaload, 1) := by decide +kernel
theorem d_Mdl_sign_325 : decode b_Mdl_sign 325 = .ok (.invokestatic 157, 3) := by decide +kernel
theorem d_Mdl_sign_328 : decode b_Mdl_sign 328 = .ok (.iconst 1, 1) := by decide +kernel
theorem d_Mdl_sign_329 : decode b_Mdl_sign 329 = .ok (.ireturn, 1) := by decide +kernel
theorem d_Mdl_verify_0 : decode b_Mdl_verify 0 = .ok (.aload_n 0, 1) := by decide +kernel
theorem d_Mdl_verify_1 : decode b_Mdl_verify 1 = .ok (.iload_n 1, 1) := by decide +kernel
theorem d_Mdl_verify_2 : decode b_Mdl_verify 2 = .ok (.iconst 3, 1) := by decide +kernel
theorem d_Mdl_verify_3 : decode b_Mdl_verify 3 = .ok (.invokestatic 164, 3) := by decide +kernel
theorem d_Mdl_verify_6 : decode b_Mdl_verify 6 = .ok (.ifCond .eq 35, 3) := by decide +kernel
theorem d_Mdl_verify_9 : decode b_Mdl_verify 9 = .ok (.iload_n 2, 1) := by decide +kernel
theorem d_Mdl_verify_10 : decode b_Mdl_verify 10 = .ok (.bipush 7, 2) := by decide +kernel
theorem d_Mdl_verify_12 : decode b_Mdl_verify 12 = .ok (.invokestatic 164, 3) := by decide +kernel
theorem d_Mdl_verify_15 : decode b_Mdl_verify 15 = .ok (.ifCond .eq 26, 3) := by decide +kernel
theorem d_Mdl_verify_18 : decode b_Mdl_verify 18 = .ok (.iload_n 3, 1) := by decide +kernel
theorem d_Mdl_verify_19 : decode b_Mdl_verify 19 = .ok (.bipush 7, 2) := by decide +kernel
theorem d_Mdl_verify_21 : decode b_Mdl_verify 21 = .ok (.invokestatic 164, 3) := by decide +kernel
theorem d_Mdl_verify_24 : decode b_Mdl_verify 24 = .ok (.ifCond .eq 17, 3) := by decide +kernel
theorem d_Mdl_verify_27 : decode b_Mdl_verify 27 = .ok (.iload 4, 2) := by decide +kernel
theorem d_Mdl_verify_29 : decode b_Mdl_verify 29 = .ok (.bipush 7, 2) := by decide +kernel
theorem d_Mdl_verify_31 : decode b_Mdl_verify 31 = .ok (.invokestatic 164, 3) := by decide +kernel
theorem d_Mdl_verify_34 : decode b_Mdl_verify 34 = .ok (.ifCond .eq 7, 3) := by decide +kernel
theorem d_Mdl_verify_37 : decode b_Mdl_verify 37 = .ok (.iconst 1, 1) := by decide +kernel
theorem d_Mdl_verify_38 : decode b_Mdl_verify 38 = .ok (.goto 4, 3) := by decide +kernel
theorem d_Mdl_verify_41 : decode b_Mdl_verify 41 = .ok (.iconst 0, 1) := by decide +kernel
theorem d_Mdl_verify_42 : decode b_Mdl_verify 42 = .ok (.invokevirtual 168, 3) := by decide +kernel
theorem d_Mdl_verify_45 : decode b_Mdl_verify 45 = .ok (.ifCond .ne 5, 3) := by decide +kernel
theorem d_Mdl_verify_48 : decode b_Mdl_verify 48 = .ok (.iconst 0, 1) := by decide +kernel
theorem d_Mdl_verify_49 : decode b_Mdl_verify 49 = .ok (.ireturn, 1) := by decide +kernel
theorem d_Mdl_verify_50 : decode b_Mdl_verify 50 = .ok (.aload_n 0, 1) := by decide +kernel
theorem d_Mdl_verify_51 : decode b_Mdl_verify 51 = .ok (.getfield 106, 3) := by decide +kernel
theorem d_Mdl_verify_54 : decode b_Mdl_verify 54 = .ok (.iload_n 1, 1) := by decide +kernel
theorem d_Mdl_verify_55 : decode b_Mdl_verify 55 = .ok (.aaload, 1) := by decide +kernel
theorem d_Mdl_verify_56 : decode b_Mdl_verify 56 = .ok (.getfield 1, 3) := by decide +kernel
theorem d_Mdl_verify_59 : decode b_Mdl_verify 59 = .ok (.invokestatic 7, 3) := by decide +kernel
theorem d_Mdl_verify_62 : decode b_Mdl_verify 62 = .ok (.ifCond .ne 30, 3) := by decide +kernel
theorem d_Mdl_verify_65 : decode b_Mdl_verify 65 = .ok (.aload_n 0, 1) := by decide +kernel
theorem d_Mdl_verify_66 : decode b_Mdl_verify 66 = .ok (.aload_n 0, 1) := by decide +kernel
theorem d_Mdl_verify_67 : decode b_Mdl_verify 67 = .ok (.getfield 103, 3) := by decide +kernel
theorem d_Mdl_verify_70 : decode b_Mdl_verify 70 = .ok (.iload_n 3, 1) := by decide +kernel
theorem d_Mdl_verify_71 : decode b_Mdl_verify 71 = .ok (.aaload, 1) := by decide +kernel
theorem d_Mdl_verify_72 : decode b_Mdl_verify 72 = .ok (.invokevirtual 200, 3) := by decide +kernel
theorem d_Mdl_verify_75 : decode b_Mdl_verify 75 = .ok (.ifCond .eq 17, 3) := by decide +kernel
theorem d_Mdl_verify_78 : decode b_Mdl_verify 78 = .ok (.aload_n 0, 1) := by decide +kernel
theorem d_Mdl_verify_79 : decode b_Mdl_verify 79 = .ok (.aload_n 0, 1) := by decide +kernel
theorem d_Mdl_verify_80 : decode b_Mdl_verify 80 = .ok (.getfield 103, 3) := by decide +kernel
theorem d_Mdl_verify_83 : decode b_Mdl_verify 83 = .ok (.iload 4, 2) := by decide +kernel
theorem d_Mdl_verify_85 : decode b_Mdl_verify 85 = .ok (.aaload, 1) := by decide +kernel
theorem d_Mdl_verify_86 : decode b_Mdl_verify 86 = .ok (.invokevirtual 200, 3) := by decide +kernel
theorem d_Mdl_verify_89 : decode b_Mdl_verify 89 = .ok (.ifCond .ne 5, 3) := by decide +kernel
theorem d_Mdl_verify_92 : decode b_Mdl_verify 92 = .ok (.iconst 0, 1) := by decide +kernel
theorem d_Mdl_verify_93 : decode b_Mdl_verify 93 = .ok (.ireturn, 1) := by decide +kernel
theorem d_Mdl_verify_94 : decode b_Mdl_verify 94 = .ok (.aload_n 0, 1) := by decide +kernel
theorem d_Mdl_verify_95 : decode b_Mdl_verify 95 = .ok (.getfield 132, 3) := by decide +kernel
theorem d_Mdl_verify_98 : decode b_Mdl_verify 98 = .ok (.aload_n 0, 1) := by decide +kernel
theorem d_Mdl_verify_99 : decode b_Mdl_verify 99 = .ok (.getfield 103, 3) := by decide +kernel
theorem d_Mdl_verify_102 : decode b_Mdl_verify 102 = .ok (.iload 4, 2) := by decide +kernel
theorem d_Mdl_verify_104 : decode b_Mdl_verify 104 = .ok (.aaload, 1) := by decide +kernel
theorem d_Mdl_verify_105 : decode b_Mdl_verify 105 = .ok (.aload_n 0, 1) := by decide +kernel
theorem d_Mdl_verify_106 : decode b_Mdl_verify 106 = .ok (.getfield 113, 3) := by decide +kernel
theorem d_Mdl_verify_109 : decode b_Mdl_verify 109 = .ok (.invokevirtual 135, 3) := by decide +kernel
theorem d_Mdl_verify_112 : decode b_Mdl_verify 112 = .ok (.aload_n 0, 1) := by decide +kernel
theorem d_Mdl_verify_113 : decode b_Mdl_verify 113 = .ok (.getfield 132, 3) := by decide +kernel
theorem d_Mdl_verify_116 : decode b_Mdl_verify 116 = .ok (.aload_n 0, 1) := by decide +kernel
theorem d_Mdl_verify_117 : decode b_Mdl_verify 117 = .ok (.getfield 113, 3) := by decide +kernel
theorem d_Mdl_verify_120 : decode b_Mdl_verify 120 = .ok (.bipush (-2), 2) := by decide +kernel
theorem d_Mdl_verify_122 : decode b_Mdl_verify 122 = .ok (.iconst 0, 1) := by decide +kernel
theorem d_Mdl_verify_123 : decode b_Mdl_verify 123 = .ok (.aload_n 0, 1) := by decide +kernel
theorem d_Mdl_verify_124 : decode b_Mdl_verify 124 = .ok (.getfield 113, 3) := by decide +kernel
theorem d_Mdl_verify_127 : decode b_Mdl_verify 127 = .ok (.invokevirtual 61, 3) := by decide +kernel
theorem d_Mdl_verify_130 : decode b_Mdl_verify 130 = .ok (.aload_n 0, 1) := by decide +kernel
theorem d_Mdl_verify_131 : decode b_Mdl_verify 131 = .ok (.getfield 132, 3) := by decide +kernel
theorem d_Mdl_verify_134 : decode b_Mdl_verify 134 = .ok (.aload_n 0, 1) := by decide +kernel
theorem d_Mdl_verify_135 : decode b_Mdl_verify 135 = .ok (.getfield 103, 3) := by decide +kernel
theorem d_Mdl_verify_138 : decode b_Mdl_verify 138 = .ok (.iload_n 2, 1) := by decide +kernel
theorem d_Mdl_verify_139 : decode b_Mdl_verify 139 = .ok (.aaload, 1) := by decide +kernel
theorem d_Mdl_verify_140 : decode b_Mdl_verify 140 = .ok (.aload_n 0, 1) := by decide +kernel
theorem d_Mdl_verify_141 : decode b_Mdl_verify 141 = .ok (.getfield 119, 3) := by decide +kernel
theorem d_Mdl_verify_144 : decode b_Mdl_verify 144 = .ok (.invokevirtual 135, 3) := by decide +kernel
theorem d_Mdl_verify_147 : decode b_Mdl_verify 147 = .ok (.aload_n 0, 1) := by decide +kernel
theorem d_Mdl_verify_148 : decode b_Mdl_verify 148 = .ok (.getfield 132, 3) := by decide +kernel
theorem d_Mdl_verify_151 : decode b_Mdl_verify 151 = .ok (.aload_n 0, 1) := by decide +kernel
theorem d_Mdl_verify_152 : decode b_Mdl_verify 152 = .ok (.getfield 119, 3) := by decide +kernel
theorem d_Mdl_verify_155 : decode b_Mdl_verify 155 = .ok (.aload_n 0, 1) := by decide +kernel
theorem d_Mdl_verify_156 : decode b_Mdl_verify 156 = .ok (.getfield 113, 3) := by decide +kernel
theorem d_Mdl_verify_159 : decode b_Mdl_verify 159 = .ok (.aload_n 0, 1) := by decide +kernel
theorem d_Mdl_verify_160 : decode b_Mdl_verify 160 = .ok (.getfield 119, 3) := by decide +kernel
theorem d_Mdl_verify_163 : decode b_Mdl_verify 163 = .ok (.invokevirtual 25, 3) := by decide +kernel
theorem d_Mdl_verify_166 : decode b_Mdl_verify 166 = .ok (.aload_n 0, 1) := by decide +kernel
theorem d_Mdl_verify_167 : decode b_Mdl_verify 167 = .ok (.getfield 132, 3) := by decide +kernel
theorem d_Mdl_verify_170 : decode b_Mdl_verify 170 = .ok (.aload_n 0, 1) := by decide +kernel
theorem d_Mdl_verify_171 : decode b_Mdl_verify 171 = .ok (.getfield 119, 3) := by decide +kernel
theorem d_Mdl_verify_174 : decode b_Mdl_verify 174 = .ok (.aload_n 0, 1) := by decide +kernel
theorem d_Mdl_verify_175 : decode b_Mdl_verify 175 = .ok (.getfield 119, 3) := by decide +kernel
theorem d_Mdl_verify_178 : decode b_Mdl_verify 178 = .ok (.invokevirtual 65, 3) := by decide +kernel
theorem d_Mdl_verify_181 : decode b_Mdl_verify 181 = .ok (.aload_n 0, 1) := by decide +kernel
theorem d_Mdl_verify_182 : decode b_Mdl_verify 182 = .ok (.getfield 132, 3) := by decide +kernel
theorem d_Mdl_verify_185 : decode b_Mdl_verify 185 = .ok (.aload_n 0, 1) := by decide +kernel
theorem d_Mdl_verify_186 : decode b_Mdl_verify 186 = .ok (.getfield 103, 3) := by decide +kernel
theorem d_Mdl_verify_189 : decode b_Mdl_verify 189 = .ok (.iload_n 3, 1) := by decide +kernel
theorem d_Mdl_verify_190 : decode b_Mdl_verify 190 = .ok (.aaload, 1) := by decide +kernel
theorem d_Mdl_verify_191 : decode b_Mdl_verify 191 = .ok (.aload_n 0, 1) := by decide +kernel
theorem d_Mdl_verify_192 : decode b_Mdl_verify 192 = .ok (.getfield 122, 3) := by decide +kernel
theorem d_Mdl_verify_195 : decode b_Mdl_verify 195 = .ok (.invokevirtual 135, 3) := by decide +kernel
theorem d_Mdl_verify_198 : decode b_Mdl_verify 198 = .ok (.aload_n 0, 1) := by decide +kernel
theorem d_Mdl_verify_199 : decode b_Mdl_verify 199 = .ok (.getfield 132, 3) := by decide +kernel
theorem d_Mdl_verify_202 : decode b_Mdl_verify 202 = .ok (.aload_n 0, 1) := by decide +kernel
theorem d_Mdl_verify_203 : decode b_Mdl_verify 203 = .ok (.getfield 122, 3) := by decide +kernel
theorem d_Mdl_verify_206 : decode b_Mdl_verify 206 = .ok (.aload_n 0, 1) := by decide +kernel
theorem d_Mdl_verify_207 : decode b_Mdl_verify 207 = .ok (.getfield 113, 3) := by decide +kernel
theorem d_Mdl_verify_210 : decode b_Mdl_verify 210 = .ok (.aload_n 0, 1) := by decide +kernel
theorem d_Mdl_verify_211 : decode b_Mdl_verify 211 = .ok (.getfield 122, 3) := by decide +kernel
theorem d_Mdl_verify_214 : decode b_Mdl_verify 214 = .ok (.invokevirtual 25, 3) := by decide +kernel
theorem d_Mdl_verify_217 : decode b_Mdl_verify 217 = .ok (.aload_n 0, 1) := by decide +kernel
theorem d_Mdl_verify_218 : decode b_Mdl_verify 218 = .ok (.getfield 132, 3) := by decide +kernel
theorem d_Mdl_verify_221 : decode b_Mdl_verify 221 = .ok (.aload_n 0, 1) := by decide +kernel
theorem d_Mdl_verify_222 : decode b_Mdl_verify 222 = .ok (.getfield 122, 3) := by decide +kernel
theorem d_Mdl_verify_225 : decode b_Mdl_verify 225 = .ok (.aload_n 0, 1) := by decide +kernel
theorem d_Mdl_verify_226 : decode b_Mdl_verify 226 = .ok (.getfield 122, 3) := by decide +kernel
theorem d_Mdl_verify_229 : decode b_Mdl_verify 229 = .ok (.invokevirtual 65, 3) := by decide +kernel
theorem d_Mdl_verify_232 : decode b_Mdl_verify 232 = .ok (.aload_n 0, 1) := by decide +kernel
theorem d_Mdl_verify_233 : decode b_Mdl_verify 233 = .ok (.getfield 83, 3) := by decide +kernel
theorem d_Mdl_verify_236 : decode b_Mdl_verify 236 = .ok (.aload_n 0, 1) := by decide +kernel
theorem d_Mdl_verify_237 : decode b_Mdl_verify 237 = .ok (.getfield 106, 3) := by decide +kernel
theorem d_Mdl_verify_240 : decode b_Mdl_verify 240 = .ok (.iload_n 1, 1) := by decide +kernel
theorem d_Mdl_verify_241 : decode b_Mdl_verify 241 = .ok (.aaload, 1) := by decide +kernel
theorem d_Mdl_verify_242 : decode b_Mdl_verify 242 = .ok (.invokevirtual 50, 3) := by decide +kernel
theorem d_Mdl_verify_245 : decode b_Mdl_verify 245 = .ok (.aload_n 0, 1) := by decide +kernel
theorem d_Mdl_verify_246 : decode b_Mdl_verify 246 = .ok (.getfield 89, 3) := by decide +kernel
theorem d_Mdl_verify_249 : decode b_Mdl_verify 249 = .ok (.aload_n 0, 1) := by decide +kernel
theorem d_Mdl_verify_250 : decode b_Mdl_verify 250 = .ok (.getfield 79, 3) := by decide +kernel
theorem d_Mdl_verify_253 : decode b_Mdl_verify 253 = .ok (.invokevirtual 50, 3) := by decide +kernel
theorem d_Mdl_verify_256 : decode b_Mdl_verify 256 = .ok (.aload_n 0, 1) := by decide +kernel
theorem d_Mdl_verify_257 : decode b_Mdl_verify 257 = .ok (.aload_n 0, 1) := by decide +kernel
theorem d_Mdl_verify_258 : decode b_Mdl_verify 258 = .ok (.getfield 119, 3) := by decide +kernel
theorem d_Mdl_verify_261 : decode b_Mdl_verify 261 = .ok (.aload_n 0, 1) := by decide +kernel
theorem d_Mdl_verify_262 : decode b_Mdl_verify 262 = .ok (.getfield 89, 3) := by decide +kernel
theorem d_Mdl_verify_265 : decode b_Mdl_verify 265 = .ok (.aload_n 0, 1) := by decide +kernel
theorem d_Mdl_verify_266 : decode b_Mdl_verify 266 = .ok (.getfield 86, 3) := by decide +kernel
theorem d_Mdl_verify_269 : decode b_Mdl_verify 269 = .ok (.invokevirtual 192, 3) := by decide +kernel
theorem d_Mdl_verify_272 : decode b_Mdl_verify 272 = .ok (.aload_n 0, 1) := by decide +kernel
theorem d_Mdl_verify_273 : decode b_Mdl_verify 273 = .ok (.aload_n 0, 1) := by decide +kernel
theorem d_Mdl_verify_274 : decode b_Mdl_verify 274 = .ok (.getfield 122, 3) := by decide +kernel
theorem d_Mdl_verify_277 : decode b_Mdl_verify 277 = .ok (.aload_n 0, 1) := by decide +kernel
theorem d_Mdl_verify_278 : decode b_Mdl_verify 278 = .ok (.getfield 83, 3) := by decide +kernel
theorem d_Mdl_verify_281 : decode b_Mdl_verify 281 = .ok (.aload_n 0, 1) := by decide +kernel
theorem d_Mdl_verify_282 : decode b_Mdl_verify 282 = .ok (.getfield 110, 3) := by decide +kernel
theorem d_Mdl_verify_285 : decode b_Mdl_verify 285 = .ok (.invokevirtual 192, 3) := by decide +kernel
theorem d_Mdl_verify_288 : decode b_Mdl_verify 288 = .ok (.aload_n 0, 1) := by decide +kernel
theorem d_Mdl_verify_289 : decode b_Mdl_verify 289 = .ok (.aload_n 0, 1) := by decide +kernel
theorem d_Mdl_verify_290 : decode b_Mdl_verify 290 = .ok (.getfield 86, 3) := by decide +kernel
theorem d_Mdl_verify_293 : decode b_Mdl_verify 293 = .ok (.aload_n 0, 1) := by decide +kernel
theorem d_Mdl_verify_294 : decode b_Mdl_verify 294 = .ok (.getfield 110, 3) := by decide +kernel
theorem d_Mdl_verify_297 : decode b_Mdl_verify 297 = .ok (.invokevirtual 57, 3) := by decide +kernel
theorem d_Mdl_verify_300 : decode b_Mdl_verify 300 = .ok (.aload_n 0, 1) := by decide +kernel
theorem d_Mdl_verify_301 : decode b_Mdl_verify 301 = .ok (.getfield 86, 3) := by decide +kernel
theorem d_Mdl_verify_304 : decode b_Mdl_verify 304 = .ok (.getfield 1, 3) := by decide +kernel
theorem d_Mdl_verify_307 : decode b_Mdl_verify 307 = .ok (.invokestatic 7, 3) := by decide +kernel
theorem d_Mdl_verify_310 : decode b_Mdl_verify 310 = .ok (.ifCond .eq 5, 3) := by decide +kernel
theorem d_Mdl_verify_313 : decode b_Mdl_verify 313 = .ok (.iconst 0, 1) := by decide +kernel
theorem d_Mdl_verify_314 : decode b_Mdl_verify 314 = .ok (.ireturn, 1) := by decide +kernel
theorem d_Mdl_verify_315 : decode b_Mdl_verify 315 = .ok (.aload_n 0, 1) := by decide +kernel
theorem d_Mdl_verify_316 : decode b_Mdl_verify 316 = .ok (.aload_n 0, 1) := by decide +kernel
theorem d_Mdl_verify_317 : decode b_Mdl_verify 317 = .ok (.getfield 86, 3) := by decide +kernel
theorem d_Mdl_verify_320 : decode b_Mdl_verify 320 = .ok (.aload_n 0, 1) := by decide +kernel
theorem d_Mdl_verify_321 : decode b_Mdl_verify 321 = .ok (.getfield 95, 3) := by decide +kernel
theorem d_Mdl_verify_324 : decode b_Mdl_verify 324 = .ok (.aload_n 0, 1) := by decide +kernel
theorem d_Mdl_verify_325 : decode b_Mdl_verify 325 = .ok (.getfield 98, 3) := by decide +kernel
theorem d_Mdl_verify_328 : decode b_Mdl_verify 328 = .ok (.invokevirtual 188, 3) := by decide +kernel
theorem d_Mdl_verify_331 : decode b_Mdl_verify 331 = .ok (.aload_n 0, 1) := by decide +kernel
theorem d_Mdl_verify_332 : decode b_Mdl_verify 332 = .ok (.aload_n 0, 1) := by decide +kernel
theorem d_Mdl_verify_333 : decode b_Mdl_verify 333 = .ok (.getfield 95, 3) := by decide +kernel
theorem d_Mdl_verify_336 : decode b_Mdl_verify 336 = .ok (.invokevirtual 203, 3) := by decide +kernel
theorem d_Mdl_verify_339 : decode b_Mdl_verify 339 = .ok (.aload_n 0, 1) := by decide +kernel
theorem d_Mdl_verify_340 : decode b_Mdl_verify 340 = .ok (.getfield 95, 3) := by decide +kernel
theorem d_Mdl_verify_343 : decode b_Mdl_verify 343 = .ok (.aload_n 0, 1) := by decide +kernel
theorem d_Mdl_verify_344 : decode b_Mdl_verify 344 = .ok (.getfield 103, 3) := by decide +kernel
theorem d_Mdl_verify_347 : decode b_Mdl_verify 347 = .ok (.iload_n 3, 1) := by decide +kernel
theorem d_Mdl_verify_348 : decode b_Mdl_verify 348 = .ok (.aaload, 1) := by decide +kernel
theorem d_Mdl_verify_349 : decode b_Mdl_verify 349 = .ok (.invokestatic 184, 3) := by decide +kernel
theorem d_Mdl_verify_352 : decode b_Mdl_verify 352 = .ok (.ireturn, 1) := by decide +kernel
