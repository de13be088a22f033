theorem topP_cons' {P : List (Int × Int)} (h : ¬ topP P = 0) : ∃ x k P2, P = (x, k) :: P2 := by
  cases P with
  | nil => exact absurd rfl h
  | cons x r => obtain ⟨y, k⟩ := x; exact ⟨y, k, r, rfl⟩
theorem d_Mo_behind_0 : decode b_Mo_behind 0 = .ok (.aload_n 0, 1) := by decide +kernel
theorem d_Mo_behind_1 : decode b_Mo_behind 1 = .ok (.getfield 66, 3) := by decide +kernel
theorem d_Mo_behind_4 : decode b_Mo_behind 4 = .ok (.iload_n 1, 1) := by decide +kernel
theorem d_Mo_behind_5 : decode b_Mo_behind 5 = .ok (.iaload, 1) := by decide +kernel
theorem d_Mo_behind_6 : decode b_Mo_behind 6 = .ok (.istore_n 2, 1) := by decide +kernel
theorem d_Mo_behind_7 : decode b_Mo_behind 7 = .ok (.aload_n 0, 1) := by decide +kernel
theorem d_Mo_behind_8 : decode b_Mo_behind 8 = .ok (.getfield 239, 3) := by decide +kernel
theorem d_Mo_behind_11 : decode b_Mo_behind 11 = .ok (.istore_n 3, 1) := by decide +kernel
theorem d_Mo_behind_12 : decode b_Mo_behind 12 = .ok (.aload_n 0, 1) := by decide +kernel
theorem d_Mo_behind_13 : decode b_Mo_behind 13 = .ok (.iload_n 2, 1) := by decide +kernel
theorem d_Mo_behind_14 : decode b_Mo_behind 14 = .ok (.bipush 13, 2) := by decide +kernel
theorem d_Mo_behind_16 : decode b_Mo_behind 16 = .ok (.if_icmp .ne 7, 3) := by decide +kernel
theorem d_Mo_behind_19 : decode b_Mo_behind 19 = .ok (.iconst 1, 1) := by decide +kernel
theorem d_Mo_behind_20 : decode b_Mo_behind 20 = .ok (.goto 4, 3) := by decide +kernel
theorem d_Mo_behind_23 : decode b_Mo_behind 23 = .ok (.iconst 0, 1) := by decide +kernel
theorem d_Mo_behind_24 : decode b_Mo_behind 24 = .ok (.putfield 239, 3) := by decide +kernel
theorem d_Mo_behind_27 : decode b_Mo_behind 27 = .ok (.iload_n 2, 1) := by decide +kernel
theorem d_Mo_behind_28 : decode b_Mo_behind 28 = .ok (.bipush 24, 2) := by decide +kernel
theorem d_Mo_behind_30 : decode b_Mo_behind 30 = .ok (.if_icmp .ne 94, 3) := by decide +kernel
theorem d_Mo_behind_33 : decode b_Mo_behind 33 = .ok (.aload_n 0, 1) := by decide +kernel
theorem d_Mo_behind_34 : decode b_Mo_behind 34 = .ok (.iload_n 1, 1) := by decide +kernel
theorem d_Mo_behind_35 : decode b_Mo_behind 35 = .ok (.iconst 1, 1) := by decide +kernel
theorem d_Mo_behind_36 : decode b_Mo_behind 36 = .ok (.iadd, 1) := by decide +kernel
theorem d_Mo_behind_37 : decode b_Mo_behind 37 = .ok (.invokevirtual 254, 3) := by decide +kernel
theorem d_Mo_behind_40 : decode b_Mo_behind 40 = .ok (.istore 4, 2) := by decide +kernel
theorem d_Mo_behind_42 : decode b_Mo_behind 42 = .ok (.aload_n 0, 1) := by decide +kernel
theorem d_Mo_behind_43 : decode b_Mo_behind 43 = .ok (.iload_n 3, 1) := by decide +kernel
theorem d_Mo_behind_44 : decode b_Mo_behind 44 = .ok (.ifCond .ne 17, 3) := by decide +kernel
theorem d_Mo_behind_47 : decode b_Mo_behind 47 = .ok (.iload 4, 2) := by decide +kernel
theorem d_Mo_behind_49 : decode b_Mo_behind 49 = .ok (.bipush 7, 2) := by decide +kernel
theorem d_Mo_behind_51 : decode b_Mo_behind 51 = .ok (.if_icmp .eq 14, 3) := by decide +kernel
theorem d_Mo_behind_54 : decode b_Mo_behind 54 = .ok (.iload 4, 2) := by decide +kernel
theorem d_Mo_behind_56 : decode b_Mo_behind 56 = .ok (.bipush 14, 2) := by decide +kernel
theorem d_Mo_behind_58 : decode b_Mo_behind 58 = .ok (.if_icmp .eq 7, 3) := by decide +kernel
theorem d_Mo_behind_61 : decode b_Mo_behind 61 = .ok (.iconst 1, 1) := by decide +kernel
theorem d_Mo_behind_62 : decode b_Mo_behind 62 = .ok (.goto 4, 3) := by decide +kernel
theorem d_Mo_behind_65 : decode b_Mo_behind 65 = .ok (.iconst 0, 1) := by decide +kernel
theorem d_Mo_behind_66 : decode b_Mo_behind 66 = .ok (.putfield 166, 3) := by decide +kernel
theorem d_Mo_behind_69 : decode b_Mo_behind 69 = .ok (.aload_n 0, 1) := by decide +kernel
theorem d_Mo_behind_70 : decode b_Mo_behind 70 = .ok (.invokevirtual 223, 3) := by decide +kernel
theorem d_Mo_behind_73 : decode b_Mo_behind 73 = .ok (.istore 5, 2) := by decide +kernel
theorem d_Mo_behind_75 : decode b_Mo_behind 75 = .ok (.aload_n 0, 1) := by decide +kernel
theorem d_Mo_behind_76 : decode b_Mo_behind 76 = .ok (.aload_n 0, 1) := by decide +kernel
theorem d_Mo_behind_77 : decode b_Mo_behind 77 = .ok (.iload 4, 2) := by decide +kernel
theorem d_Mo_behind_79 : decode b_Mo_behind 79 = .ok (.bipush 7, 2) := by decide +kernel
theorem d_Mo_behind_81 : decode b_Mo_behind 81 = .ok (.if_icmp .ne 8, 3) := by decide +kernel
theorem d_Mo_behind_84 : decode b_Mo_behind 84 = .ok (.bipush 60, 2) := by decide +kernel
theorem d_Mo_behind_86 : decode b_Mo_behind 86 = .ok (.goto 5, 3) := by decide +kernel
theorem d_Mo_behind_89 : decode b_Mo_behind 89 = .ok (.bipush 61, 2) := by decide +kernel
theorem d_Mo_behind_91 : decode b_Mo_behind 91 = .ok (.iload 5, 2) := by decide +kernel
theorem d_Mo_behind_93 : decode b_Mo_behind 93 = .ok (.iconst (-1), 1) := by decide +kernel
theorem d_Mo_behind_94 : decode b_Mo_behind 94 = .ok (.iconst (-1), 1) := by decide +kernel
theorem d_Mo_behind_95 : decode b_Mo_behind 95 = .ok (.aload_n 0, 1) := by decide +kernel
theorem d_Mo_behind_96 : decode b_Mo_behind 96 = .ok (.getfield 166, 3) := by decide +kernel
theorem d_Mo_behind_99 : decode b_Mo_behind 99 = .ok (.ifCond .eq 7, 3) := by decide +kernel
theorem d_Mo_behind_102 : decode b_Mo_behind 102 = .ok (.lconst 0, 1) := by decide +kernel
theorem d_Mo_behind_103 : decode b_Mo_behind 103 = .ok (.goto 11, 3) := by decide +kernel
theorem d_Mo_behind_106 : decode b_Mo_behind 106 = .ok (.aload_n 0, 1) := by decide +kernel
theorem d_Mo_behind_107 : decode b_Mo_behind 107 = .ok (.getfield 69, 3) := by decide +kernel
theorem d_Mo_behind_110 : decode b_Mo_behind 110 = .ok (.iload_n 1, 1) := by decide +kernel
theorem d_Mo_behind_111 : decode b_Mo_behind 111 = .ok (.iconst 1, 1) := by decide +kernel
theorem d_Mo_behind_112 : decode b_Mo_behind 112 = .ok (.iadd, 1) := by decide +kernel
theorem d_Mo_behind_113 : decode b_Mo_behind 113 = .ok (.laload, 1) := by decide +kernel
theorem d_Mo_behind_114 : decode b_Mo_behind 114 = .ok (.invokevirtual 226, 3) := by decide +kernel
theorem d_Mo_behind_117 : decode b_Mo_behind 117 = .ok (.invokevirtual 230, 3) := by decide +kernel
theorem d_Mo_behind_120 : decode b_Mo_behind 120 = .ok (.iload_n 1, 1) := by decide +kernel
theorem d_Mo_behind_121 : decode b_Mo_behind 121 = .ok (.iconst 2, 1) := by decide +kernel
theorem d_Mo_behind_122 : decode b_Mo_behind 122 = .ok (.iadd, 1) := by decide +kernel
theorem d_Mo_behind_123 : decode b_Mo_behind 123 = .ok (.ireturn, 1) := by decide +kernel
theorem d_Mo_behind_124 : decode b_Mo_behind 124 = .ok (.iload_n 2, 1) := by decide +kernel
theorem d_Mo_behind_125 : decode b_Mo_behind 125 = .ok (.bipush 22, 2) := by decide +kernel
theorem d_Mo_behind_127 : decode b_Mo_behind 127 = .ok (.if_icmp .ne 46, 3) := by decide +kernel
theorem d_Mo_behind_130 : decode b_Mo_behind 130 = .ok (.aload_n 0, 1) := by decide +kernel
theorem d_Mo_behind_131 : decode b_Mo_behind 131 = .ok (.dup, 1) := by decide +kernel
theorem d_Mo_behind_132 : decode b_Mo_behind 132 = .ok (.getfield 233, 3) := by decide +kernel
theorem d_Mo_behind_135 : decode b_Mo_behind 135 = .ok (.iconst 1, 1) := by decide +kernel
theorem d_Mo_behind_136 : decode b_Mo_behind 136 = .ok (.iadd, 1) := by decide +kernel
theorem d_Mo_behind_137 : decode b_Mo_behind 137 = .ok (.putfield 233, 3) := by decide +kernel
theorem d_Mo_behind_140 : decode b_Mo_behind 140 = .ok (.aload_n 0, 1) := by decide +kernel
theorem d_Mo_behind_141 : decode b_Mo_behind 141 = .ok (.iload_n 3, 1) := by decide +kernel
theorem d_Mo_behind_142 : decode b_Mo_behind 142 = .ok (.ifCond .ne 12, 3) := by decide +kernel
theorem d_Mo_behind_145 : decode b_Mo_behind 145 = .ok (.aload_n 0, 1) := by decide +kernel
theorem d_Mo_behind_146 : decode b_Mo_behind 146 = .ok (.getfield 233, 3) := by decide +kernel
theorem d_Mo_behind_149 : decode b_Mo_behind 149 = .ok (.bipush 6, 2) := by decide +kernel
theorem d_Mo_behind_151 : decode b_Mo_behind 151 = .ok (.if_icmp .le 7, 3) := by decide +kernel
theorem d_Mo_behind_154 : decode b_Mo_behind 154 = .ok (.iconst 1, 1) := by decide +kernel
theorem d_Mo_behind_155 : decode b_Mo_behind 155 = .ok (.goto 4, 3) := by decide +kernel
theorem d_Mo_behind_158 : decode b_Mo_behind 158 = .ok (.iconst 0, 1) := by decide +kernel
theorem d_Mo_behind_159 : decode b_Mo_behind 159 = .ok (.putfield 166, 3) := by decide +kernel
theorem d_Mo_behind_162 : decode b_Mo_behind 162 = .ok (.aload_n 0, 1) := by decide +kernel
theorem d_Mo_behind_163 : decode b_Mo_behind 163 = .ok (.bipush 22, 2) := by decide +kernel
theorem d_Mo_behind_165 : decode b_Mo_behind 165 = .ok (.iconst 0, 1) := by decide +kernel
theorem d_Mo_behind_166 : decode b_Mo_behind 166 = .ok (.invokevirtual 257, 3) := by decide +kernel
theorem d_Mo_behind_169 : decode b_Mo_behind 169 = .ok (.iload_n 1, 1) := by decide +kernel
theorem d_Mo_behind_170 : decode b_Mo_behind 170 = .ok (.iconst 1, 1) := by decide +kernel
theorem d_Mo_behind_171 : decode b_Mo_behind 171 = .ok (.iadd, 1) := by decide +kernel
theorem d_Mo_behind_172 : decode b_Mo_behind 172 = .ok (.ireturn, 1) := by decide +kernel
theorem d_Mo_behind_173 : decode b_Mo_behind 173 = .ok (.iload_n 2, 1) := by decide +kernel
theorem d_Mo_behind_174 : decode b_Mo_behind 174 = .ok (.bipush 21, 2) := by decide +kernel
theorem d_Mo_behind_176 : decode b_Mo_behind 176 = .ok (.if_icmp .eq 9, 3) := by decide +kernel
theorem d_Mo_behind_179 : decode b_Mo_behind 179 = .ok (.iload_n 2, 1) := by decide +kernel
theorem d_Mo_behind_180 : decode b_Mo_behind 180 = .ok (.bipush 23, 2) := by decide +kernel
theorem d_Mo_behind_182 : decode b_Mo_behind 182 = .ok (.if_icmp .ne 104, 3) := by decide +kernel
theorem d_Mo_behind_185 : decode b_Mo_behind 185 = .ok (.aload_n 0, 1) := by decide +kernel
theorem d_Mo_behind_186 : decode b_Mo_behind 186 = .ok (.iconst 0, 1) := by decide +kernel
theorem d_Mo_behind_187 : decode b_Mo_behind 187 = .ok (.invokevirtual 251, 3) := by decide +kernel
theorem d_Mo_behind_190 : decode b_Mo_behind 190 = .ok (.aload_n 0, 1) := by decide +kernel
theorem d_Mo_behind_191 : decode b_Mo_behind 191 = .ok (.aload_n 0, 1) := by decide +kernel
theorem d_Mo_behind_192 : decode b_Mo_behind 192 = .ok (.invokevirtual 216, 3) := by decide +kernel
theorem d_Mo_behind_195 : decode b_Mo_behind 195 = .ok (.iload_n 2, 1) := by decide +kernel
theorem d_Mo_behind_196 : decode b_Mo_behind 196 = .ok (.bipush 21, 2) := by decide +kernel
theorem d_Mo_behind_198 : decode b_Mo_behind 198 = .ok (.if_icmp .ne 8, 3) := by decide +kernel
theorem d_Mo_behind_201 : decode b_Mo_behind 201 = .ok (.bipush 20, 2) := by decide +kernel
theorem d_Mo_behind_203 : decode b_Mo_behind 203 = .ok (.goto 5, 3) := by decide +kernel
theorem d_Mo_behind_206 : decode b_Mo_behind 206 = .ok (.bipush 22, 2) := by decide +kernel
theorem d_Mo_behind_208 : decode b_Mo_behind 208 = .ok (.if_icmp .eq 7, 3) := by decide +kernel
theorem d_Mo_behind_211 : decode b_Mo_behind 211 = .ok (.iconst 1, 1) := by decide +kernel
theorem d_Mo_behind_212 : decode b_Mo_behind 212 = .ok (.goto 4, 3) := by decide +kernel
theorem d_Mo_behind_215 : decode b_Mo_behind 215 = .ok (.iconst 0, 1) := by decide +kernel
theorem d_Mo_behind_216 : decode b_Mo_behind 216 = .ok (.putfield 166, 3) := by decide +kernel
theorem d_Mo_behind_219 : decode b_Mo_behind 219 = .ok (.aload_n 0, 1) := by decide +kernel
theorem d_Mo_behind_220 : decode b_Mo_behind 220 = .ok (.getfield 166, 3) := by decide +kernel
theorem d_Mo_behind_223 : decode b_Mo_behind 223 = .ok (.ifCond .eq 5, 3) := by decide +kernel
theorem d_Mo_behind_226 : decode b_Mo_behind 226 = .ok (.iload_n 1, 1) := by decide +kernel
theorem d_Mo_behind_227 : decode b_Mo_behind 227 = .ok (.ireturn, 1) := by decide +kernel
theorem d_Mo_behind_228 : decode b_Mo_behind 228 = .ok (.aload_n 0, 1) := by decide +kernel
theorem d_Mo_behind_229 : decode b_Mo_behind 229 = .ok (.dup, 1) := by decide +kernel
theorem d_Mo_behind_230 : decode b_Mo_behind 230 = .ok (.getfield 213, 3) := by decide +kernel
theorem d_Mo_behind_233 : decode b_Mo_behind 233 = .ok (.iconst 1, 1) := by decide +kernel
theorem d_Mo_behind_234 : decode b_Mo_behind 234 = .ok (.isub, 1) := by decide +kernel
theorem d_Mo_behind_235 : decode b_Mo_behind 235 = .ok (.putfield 213, 3) := by decide +kernel
theorem d_Mo_behind_238 : decode b_Mo_behind 238 = .ok (.aload_n 0, 1) := by decide +kernel
theorem d_Mo_behind_239 : decode b_Mo_behind 239 = .ok (.dup, 1) := by decide +kernel
theorem d_Mo_behind_240 : decode b_Mo_behind 240 = .ok (.getfield 233, 3) := by decide +kernel
theorem d_Mo_behind_243 : decode b_Mo_behind 243 = .ok (.iconst 1, 1) := by decide +kernel
theorem d_Mo_behind_244 : decode b_Mo_behind 244 = .ok (.isub, 1) := by decide +kernel
theorem d_Mo_behind_245 : decode b_Mo_behind 245 = .ok (.putfield 233, 3) := by decide +kernel
theorem d_Mo_behind_248 : decode b_Mo_behind 248 = .ok (.iload_n 2, 1) := by decide +kernel
theorem d_Mo_behind_249 : decode b_Mo_behind 249 = .ok (.bipush 23, 2) := by decide +kernel
theorem d_Mo_behind_251 : decode b_Mo_behind 251 = .ok (.if_icmp .ne 31, 3) := by decide +kernel
theorem d_Mo_behind_254 : decode b_Mo_behind 254 = .ok (.aload_n 0, 1) := by decide +kernel
theorem d_Mo_behind_255 : decode b_Mo_behind 255 = .ok (.invokevirtual 223, 3) := by decide +kernel
theorem d_Mo_behind_258 : decode b_Mo_behind 258 = .ok (.istore 4, 2) := by decide +kernel
theorem d_Mo_behind_260 : decode b_Mo_behind 260 = .ok (.aload_n 0, 1) := by decide +kernel
theorem d_Mo_behind_261 : decode b_Mo_behind 261 = .ok (.invokevirtual 223, 3) := by decide +kernel
theorem d_Mo_behind_264 : decode b_Mo_behind 264 = .ok (.istore 5, 2) := by decide +kernel
theorem d_Mo_behind_266 : decode b_Mo_behind 266 = .ok (.aload_n 0, 1) := by decide +kernel
theorem d_Mo_behind_267 : decode b_Mo_behind 267 = .ok (.aload_n 0, 1) := by decide +kernel
theorem d_Mo_behind_268 : decode b_Mo_behind 268 = .ok (.bipush 62, 2) := by decide +kernel
theorem d_Mo_behind_270 : decode b_Mo_behind 270 = .ok (.iload 5, 2) := by decide +kernel
theorem d_Mo_behind_272 : decode b_Mo_behind 272 = .ok (.iload 4, 2) := by decide +kernel
theorem d_Mo_behind_274 : decode b_Mo_behind 274 = .ok (.iconst (-1), 1) := by decide +kernel
theorem d_Mo_behind_275 : decode b_Mo_behind 275 = .ok (.lconst 0, 1) := by decide +kernel
theorem d_Mo_behind_276 : decode b_Mo_behind 276 = .ok (.invokevirtual 226, 3) := by decide +kernel
theorem d_Mo_behind_279 : decode b_Mo_behind 279 = .ok (.invokevirtual 230, 3) := by decide +kernel
theorem d_Mo_behind_282 : decode b_Mo_behind 282 = .ok (.iload_n 1, 1) := by decide +kernel
theorem d_Mo_behind_283 : decode b_Mo_behind 283 = .ok (.iconst 1, 1) := by decide +kernel
theorem d_Mo_behind_284 : decode b_Mo_behind 284 = .ok (.iadd, 1) := by decide +kernel
theorem d_Mo_behind_285 : decode b_Mo_behind 285 = .ok (.ireturn, 1) := by decide +kernel
theorem d_Mo_behind_286 : decode b_Mo_behind 286 = .ok (.iload_n 2, 1) := by decide +kernel
theorem d_Mo_behind_287 : decode b_Mo_behind 287 = .ok (.bipush 25, 2) := by decide +kernel
theorem d_Mo_behind_289 : decode b_Mo_behind 289 = .ok (.if_icmp .ne 46, 3) := by decide +kernel
theorem d_Mo_behind_292 : decode b_Mo_behind 292 = .ok (.aload_n 0, 1) := by decide +kernel
theorem d_Mo_behind_293 : decode b_Mo_behind 293 = .ok (.iconst 1, 1) := by decide +kernel
theorem d_Mo_behind_294 : decode b_Mo_behind 294 = .ok (.invokevirtual 251, 3) := by decide +kernel
theorem d_Mo_behind_297 : decode b_Mo_behind 297 = .ok (.aload_n 0, 1) := by decide +kernel
theorem d_Mo_behind_298 : decode b_Mo_behind 298 = .ok (.dup, 1) := by decide +kernel
theorem d_Mo_behind_299 : decode b_Mo_behind 299 = .ok (.getfield 236, 3) := by decide +kernel
theorem d_Mo_behind_302 : decode b_Mo_behind 302 = .ok (.iconst 1, 1) := by decide +kernel
theorem d_Mo_behind_303 : decode b_Mo_behind 303 = .ok (.iadd, 1) := by decide +kernel
theorem d_Mo_behind_304 : decode b_Mo_behind 304 = .ok (.putfield 236, 3) := by decide +kernel
theorem d_Mo_behind_307 : decode b_Mo_behind 307 = .ok (.aload_n 0, 1) := by decide +kernel
theorem d_Mo_behind_308 : decode b_Mo_behind 308 = .ok (.aload_n 0, 1) := by decide +kernel
theorem d_Mo_behind_309 : decode b_Mo_behind 309 = .ok (.getfield 236, 3) := by decide +kernel
theorem d_Mo_behind_312 : decode b_Mo_behind 312 = .ok (.iconst 4, 1) := by decide +kernel
theorem d_Mo_behind_313 : decode b_Mo_behind 313 = .ok (.if_icmp .le 7, 3) := by decide +kernel
theorem d_Mo_behind_316 : decode b_Mo_behind 316 = .ok (.iconst 1, 1) := by decide +kernel
theorem d_Mo_behind_317 : decode b_Mo_behind 317 = .ok (.goto 4, 3) := by decide +kernel
theorem d_Mo_behind_320 : decode b_Mo_behind 320 = .ok (.iconst 0, 1) := by decide +kernel
theorem d_Mo_behind_321 : decode b_Mo_behind 321 = .ok (.putfield 166, 3) := by decide +kernel
theorem d_Mo_behind_324 : decode b_Mo_behind 324 = .ok (.aload_n 0, 1) := by decide +kernel
theorem d_Mo_behind_325 : decode b_Mo_behind 325 = .ok (.bipush 25, 2) := by decide +kernel
theorem d_Mo_behind_327 : decode b_Mo_behind 327 = .ok (.iconst 0, 1) := by decide +kernel
theorem d_Mo_behind_328 : decode b_Mo_behind 328 = .ok (.invokevirtual 257, 3) := by decide +kernel
theorem d_Mo_behind_331 : decode b_Mo_behind 331 = .ok (.iload_n 1, 1) := by decide +kernel
theorem d_Mo_behind_332 : decode b_Mo_behind 332 = .ok (.iconst 1, 1) := by decide +kernel
theorem d_Mo_behind_333 : decode b_Mo_behind 333 = .ok (.iadd, 1) := by decide +kernel
theorem d_Mo_behind_334 : decode b_Mo_behind 334 = .ok (.ireturn, 1) := by decide +kernel
theorem d_Mo_behind_335 : decode b_Mo_behind 335 = .ok (.iload_n 2, 1) := by decide +kernel
theorem d_Mo_behind_336 : decode b_Mo_behind 336 = .ok (.bipush 26, 2) := by decide +kernel
theorem d_Mo_behind_338 : decode b_Mo_behind 338 = .ok (.if_icmp .ne 50, 3) := by decide +kernel
theorem d_Mo_behind_341 : decode b_Mo_behind 341 = .ok (.aload_n 0, 1) := by decide +kernel
theorem d_Mo_behind_342 : decode b_Mo_behind 342 = .ok (.iconst 0, 1) := by decide +kernel
theorem d_Mo_behind_343 : decode b_Mo_behind 343 = .ok (.invokevirtual 251, 3) := by decide +kernel
theorem d_Mo_behind_346 : decode b_Mo_behind 346 = .ok (.aload_n 0, 1) := by decide +kernel
theorem d_Mo_behind_347 : decode b_Mo_behind 347 = .ok (.aload_n 0, 1) := by decide +kernel
theorem d_Mo_behind_348 : decode b_Mo_behind 348 = .ok (.invokevirtual 216, 3) := by decide +kernel
theorem d_Mo_behind_351 : decode b_Mo_behind 351 = .ok (.bipush 25, 2) := by decide +kernel
theorem d_Mo_behind_353 : decode b_Mo_behind 353 = .ok (.if_icmp .eq 7, 3) := by decide +kernel
theorem d_Mo_behind_356 : decode b_Mo_behind 356 = .ok (.iconst 1, 1) := by decide +kernel
theorem d_Mo_behind_357 : decode b_Mo_behind 357 = .ok (.goto 4, 3) := by decide +kernel
theorem d_Mo_behind_360 : decode b_Mo_behind 360 = .ok (.iconst 0, 1) := by decide +kernel
theorem d_Mo_behind_361 : decode b_Mo_behind 361 = .ok (.putfield 166, 3) := by decide +kernel
theorem d_Mo_behind_364 : decode b_Mo_behind 364 = .ok (.aload_n 0, 1) := by decide +kernel
theorem d_Mo_behind_365 : decode b_Mo_behind 365 = .ok (.getfield 166, 3) := by decide +kernel
theorem d_Mo_behind_368 : decode b_Mo_behind 368 = .ok (.ifCond .ne 16, 3) := by decide +kernel
theorem d_Mo_behind_371 : decode b_Mo_behind 371 = .ok (.aload_n 0, 1) := by decide +kernel
theorem d_Mo_behind_372 : decode b_Mo_behind 372 = .ok (.getfield 99, 3) := by decide +kernel
theorem d_Mo_behind_375 : decode b_Mo_behind 375 = .ok (.aload_n 0, 1) := by decide +kernel
theorem d_Mo_behind_376 : decode b_Mo_behind 376 = .ok (.getfield 213, 3) := by decide +kernel
theorem d_Mo_behind_379 : decode b_Mo_behind 379 = .ok (.iconst 1, 1) := by decide +kernel
theorem d_Mo_behind_380 : decode b_Mo_behind 380 = .ok (.isub, 1) := by decide +kernel
theorem d_Mo_behind_381 : decode b_Mo_behind 381 = .ok (.bipush 26, 2) := by decide +kernel
theorem d_Mo_behind_383 : decode b_Mo_behind 383 = .ok (.iastore, 1) := by decide +kernel
theorem d_Mo_behind_384 : decode b_Mo_behind 384 = .ok (.iload_n 1, 1) := by decide +kernel
theorem d_Mo_behind_385 : decode b_Mo_behind 385 = .ok (.iconst 1, 1) := by decide +kernel
theorem d_Mo_behind_386 : decode b_Mo_behind 386 = .ok (.iadd, 1) := by decide +kernel
theorem d_Mo_behind_387 : decode b_Mo_behind 387 = .ok (.ireturn, 1) := by decide +kernel
theorem d_Mo_behind_388 : decode b_Mo_behind 388 = .ok (.iload_n 2, 1) := by decide +kernel
theorem d_Mo_behind_389 : decode b_Mo_behind 389 = .ok (.bipush 13, 2) := by decide +kernel
theorem d_Mo_behind_391 : decode b_Mo_behind 391 = .ok (.if_icmp .ne 73, 3) := by decide +kernel
theorem d_Mo_behind_394 : decode b_Mo_behind 394 = .ok (.aload_n 0, 1) := by decide +kernel
theorem d_Mo_behind_395 : decode b_Mo_behind 395 = .ok (.bipush 7, 2) := by decide +kernel
theorem d_Mo_behind_397 : decode b_Mo_behind 397 = .ok (.invokevirtual 251, 3) := by decide +kernel
theorem d_Mo_behind_400 : decode b_Mo_behind 400 = .ok (.aload_n 0, 1) := by decide +kernel
theorem d_Mo_behind_401 : decode b_Mo_behind 401 = .ok (.aload_n 0, 1) := by decide +kernel
theorem d_Mo_behind_402 : decode b_Mo_behind 402 = .ok (.iload_n 1, 1) := by decide +kernel
theorem d_Mo_behind_403 : decode b_Mo_behind 403 = .ok (.iconst 1, 1) := by decide +kernel
theorem d_Mo_behind_404 : decode b_Mo_behind 404 = .ok (.iadd, 1) := by decide +kernel
theorem d_Mo_behind_405 : decode b_Mo_behind 405 = .ok (.invokevirtual 254, 3) := by decide +kernel
theorem d_Mo_behind_408 : decode b_Mo_behind 408 = .ok (.bipush 8, 2) := by decide +kernel
theorem d_Mo_behind_410 : decode b_Mo_behind 410 = .ok (.if_icmp .eq 7, 3) := by decide +kernel
theorem d_Mo_behind_413 : decode b_Mo_behind 413 = .ok (.iconst 1, 1) := by decide +kernel
theorem d_Mo_behind_414 : decode b_Mo_behind 414 = .ok (.goto 4, 3) := by decide +kernel
theorem d_Mo_behind_417 : decode b_Mo_behind 417 = .ok (.iconst 0, 1) := by decide +kernel
theorem d_Mo_behind_418 : decode b_Mo_behind 418 = .ok (.putfield 166, 3) := by decide +kernel
theorem d_Mo_behind_421 : decode b_Mo_behind 421 = .ok (.aload_n 0, 1) := by decide +kernel
theorem d_Mo_behind_422 : decode b_Mo_behind 422 = .ok (.invokevirtual 223, 3) := by decide +kernel
theorem d_Mo_behind_425 : decode b_Mo_behind 425 = .ok (.istore 4, 2) := by decide +kernel
theorem d_Mo_behind_427 : decode b_Mo_behind 427 = .ok (.aload_n 0, 1) := by decide +kernel
theorem d_Mo_behind_428 : decode b_Mo_behind 428 = .ok (.aload_n 0, 1) := by decide +kernel
theorem d_Mo_behind_429 : decode b_Mo_behind 429 = .ok (.bipush 63, 2) := by decide +kernel
theorem d_Mo_behind_431 : decode b_Mo_behind 431 = .ok (.iload 4, 2) := by decide +kernel
theorem d_Mo_behind_433 : decode b_Mo_behind 433 = .ok (.iconst (-1), 1) := by decide +kernel
theorem d_Mo_behind_434 : decode b_Mo_behind 434 = .ok (.iconst (-1), 1) := by decide +kernel
theorem d_Mo_behind_435 : decode b_Mo_behind 435 = .ok (.aload_n 0, 1) := by decide +kernel
theorem d_Mo_behind_436 : decode b_Mo_behind 436 = .ok (.getfield 166, 3) := by decide +kernel
theorem d_Mo_behind_439 : decode b_Mo_behind 439 = .ok (.ifCond .eq 7, 3) := by decide +kernel
theorem d_Mo_behind_442 : decode b_Mo_behind 442 = .ok (.lconst 0, 1) := by decide +kernel
theorem d_Mo_behind_443 : decode b_Mo_behind 443 = .ok (.goto 11, 3) := by decide +kernel
theorem d_Mo_behind_446 : decode b_Mo_behind 446 = .ok (.aload_n 0, 1) := by decide +kernel
theorem d_Mo_behind_447 : decode b_Mo_behind 447 = .ok (.getfield 69, 3) := by decide +kernel
theorem d_Mo_behind_450 : decode b_Mo_behind 450 = .ok (.iload_n 1, 1) := by decide +kernel
theorem d_Mo_behind_451 : decode b_Mo_behind 451 = .ok (.iconst 1, 1) := by decide +kernel
theorem d_Mo_behind_452 : decode b_Mo_behind 452 = .ok (.iadd, 1) := by decide +kernel
theorem d_Mo_behind_453 : decode b_Mo_behind 453 = .ok (.laload, 1) := by decide +kernel
theorem d_Mo_behind_454 : decode b_Mo_behind 454 = .ok (.invokevirtual 226, 3) := by decide +kernel
theorem d_Mo_behind_457 : decode b_Mo_behind 457 = .ok (.invokevirtual 230, 3) := by decide +kernel
theorem d_Mo_behind_460 : decode b_Mo_behind 460 = .ok (.iload_n 1, 1) := by decide +kernel
theorem d_Mo_behind_461 : decode b_Mo_behind 461 = .ok (.iconst 2, 1) := by decide +kernel
theorem d_Mo_behind_462 : decode b_Mo_behind 462 = .ok (.iadd, 1) := by decide +kernel
theorem d_Mo_behind_463 : decode b_Mo_behind 463 = .ok (.ireturn, 1) := by decide +kernel
theorem d_Mo_behind_464 : decode b_Mo_behind 464 = .ok (.aload_n 0, 1) := by decide +kernel
theorem d_Mo_behind_465 : decode b_Mo_behind 465 = .ok (.iload_n 2, 1) := by decide +kernel
theorem d_Mo_behind_466 : decode b_Mo_behind 466 = .ok (.invokestatic 220, 3) := by decide +kernel
theorem d_Mo_behind_469 : decode b_Mo_behind 469 = .ok (.ifCond .eq 16, 3) := by decide +kernel
theorem d_Mo_behind_472 : decode b_Mo_behind 472 = .ok (.iload_n 3, 1) := by decide +kernel
theorem d_Mo_behind_473 : decode b_Mo_behind 473 = .ok (.ifCond .eq 16, 3) := by decide +kernel
theorem d_Mo_behind_476 : decode b_Mo_behind 476 = .ok (.iload_n 2, 1) := by decide +kernel
theorem d_Mo_behind_477 : decode b_Mo_behind 477 = .ok (.invokestatic 220, 3) := by decide +kernel
theorem d_Mo_behind_480 : decode b_Mo_behind 480 = .ok (.bipush 7, 2) := by decide +kernel
theorem d_Mo_behind_482 : decode b_Mo_behind 482 = .ok (.if_icmp .le 7, 3) := by decide +kernel
theorem d_Mo_behind_485 : decode b_Mo_behind 485 = .ok (.iconst 1, 1) := by decide +kernel
theorem d_Mo_behind_486 : decode b_Mo_behind 486 = .ok (.goto 4, 3) := by decide +kernel
theorem d_Mo_behind_489 : decode b_Mo_behind 489 = .ok (.iconst 0, 1) := by decide +kernel
theorem d_Mo_behind_490 : decode b_Mo_behind 490 = .ok (.putfield 166, 3) := by decide +kernel
theorem d_Mo_behind_493 : decode b_Mo_behind 493 = .ok (.aload_n 0, 1) := by decide +kernel
theorem d_Mo_behind_494 : decode b_Mo_behind 494 = .ok (.iload_n 2, 1) := by decide +kernel
theorem d_Mo_behind_495 : decode b_Mo_behind 495 = .ok (.invokestatic 220, 3) := by decide +kernel
theorem d_Mo_behind_498 : decode b_Mo_behind 498 = .ok (.invokevirtual 251, 3) := by decide +kernel
theorem d_Mo_behind_501 : decode b_Mo_behind 501 = .ok (.aload_n 0, 1) := by decide +kernel
theorem d_Mo_behind_502 : decode b_Mo_behind 502 = .ok (.iload_n 2, 1) := by decide +kernel
theorem d_Mo_behind_503 : decode b_Mo_behind 503 = .ok (.iconst 0, 1) := by decide +kernel
theorem d_Mo_behind_504 : decode b_Mo_behind 504 = .ok (.invokevirtual 257, 3) := by decide +kernel
theorem d_Mo_behind_507 : decode b_Mo_behind 507 = .ok (.iload_n 1, 1) := by decide +kernel
theorem d_Mo_behind_508 : decode b_Mo_behind 508 = .ok (.iconst 1, 1) := by decide +kernel
theorem d_Mo_behind_509 : decode b_Mo_behind 509 = .ok (.iadd, 1) := by decide +kernel
theorem d_Mo_behind_510 : decode b_Mo_behind 510 = .ok (.ireturn, 1) := by decide +kernel
set_option maxHeartbeats 4000000 in
theorem g_Mo_behind {X : WX} {d : Nat} (hd : 2 ≤ d) (k : Int) (M0 : Mem) (N : List ND) (O : List Int) (P : List (Int × Int)) (o a cl : Int) (M : Mem) (hR : RP M0 M N O P o a cl 0) (hk : 0 ≤ k ∧ k < M0 55 25) (hT : M0 55 25 ≤ 24) (hB : N.length + P.length ≤ 23) (hC : O.length ≤ N.length) (ho : -100 ≤ o ∧ o ≤ 100 ∧ -100 ≤ a ∧ a ≤ 100) (hA : O.length = 1 + arP P) (hcl : 0 ≤ cl ∧ cl ≤ 1) : MG X gt d KE KE y_Mo_behind b_Mo_behind 6 (some .int) [vr 55, vi k] M (stepQ M0 (behindS (tkA M0 k) (tkA M0 (k + 1)) (M0 75 (k + 1)) k (N, O, P, o, a, cl))) := by
  refine MG_of_G (by decide) (Nat.le_of_ble_eq_true rfl) (Nat.le_refl _) (by decide) ?_
  show G X gt d KE KE y_Mo_behind b_Mo_behind 6 (some .int) _ 0 [(0, vr 55), (1, vi k)] [] KE M
  have hRN := RP_N hR
  have hRO := RP_O hR
  have hRP := RP_P hR
  refine G_rngl (i := 1) rfl (fun hr1 => ?_)
  refine G_aload (i := 0) (n := 0) (len := 1) (Or.inl ⟨0, rfl, rfl, d_Mo_behind_0⟩) rfl (by decide) (G_pc (pc' := 1) rfl ?_)
  refine G_get (o := 55) (c := 9) (k := 26) (v := 74) d_Mo_behind_1 fl_Mo_66 rfl (by decide) (by decide) rfl rfl (G_pc (pc' := 4) rfl ?_)
  refine G_iload (i := 1) (n := 1) (len := 1) (Or.inl ⟨1, rfl, rfl, d_Mo_behind_4⟩) rfl (G_pc (pc' := 5) rfl ?_)
  refine G_iaload (o := 74) (n := 25) (i := k) (v := M 74 k) d_Mo_behind_5 rfl ⟨by decide, by decide⟩ (by omega) (rd_arr rfl) (fun t1 => G_pc (pc' := 6) rfl ?_)
  have t1 := tok_i t1
  rw [show M 74 k = tkA M0 k from RP_t hR (by omega)]
  refine G_istore (i := 2) (len := 1) (ls' := [(2, vi (tkA M0 k)), (0, vr 55), (1, vi k)]) (Or.inl ⟨2, rfl, rfl, d_Mo_behind_6⟩) (by decide) rfl (G_pc (pc' := 7) rfl ?_)
  refine G_aload (i := 0) (n := 1) (len := 1) (Or.inl ⟨0, rfl, rfl, d_Mo_behind_7⟩) rfl (by decide) (G_pc (pc' := 8) rfl ?_)
  refine G_get (o := 55) (c := 9) (k := 45) (v := M 55 45) d_Mo_behind_8 fl_Mo_239 rfl (by decide) (by decide) rfl rfl (G_pc (pc' := 11) rfl ?_)
  rw [show M 55 45 = cl from (show M 55 45 = cl from RP_C hR)]
  refine G_istore (i := 3) (len := 1) (ls' := [(3, vi cl), (2, vi (tkA M0 k)), (0, vr 55), (1, vi k)]) (Or.inl ⟨3, rfl, rfl, d_Mo_behind_11⟩) (by decide) rfl (G_pc (pc' := 12) rfl ?_)
  refine G_aload (i := 0) (n := 2) (len := 1) (Or.inl ⟨0, rfl, rfl, d_Mo_behind_12⟩) rfl (by decide) (G_pc (pc' := 13) rfl ?_)
  refine G_iload (i := 2) (n := 1) (len := 1) (Or.inl ⟨2, rfl, rfl, d_Mo_behind_13⟩) rfl (G_pc (pc' := 14) rfl ?_)
  refine G_bipush (n := 13) d_Mo_behind_14 (by decide) (G_pc (pc' := 16) rfl ?_)
  refine G_icmp_ne (tgt := 23) d_Mo_behind_16 (by decide) (fun h2 => ?_) (fun h2 => G_pc (pc' := 19) rfl ?_)
  · skip
    refine G_iconst (n := 0) d_Mo_behind_23 (by decide) (G_pc (pc' := 24) rfl ?_)
    refine G_putL (o := 55) (c := 9) (k := 45) (ki := 45) (x := 0) d_Mo_behind_24 fl_Mo_239 rfl rfl (by decide) (by decide) (by decide) rfl rfl (tokZ (by decide)) rfl (G_pc (pc' := 27) rfl ?_)
    have hR3 : RP M0 (mset M 55 45 0) N O P o a 0 0 := RP_cl hR
    have hR3N := RP_N hR3
    (try simp only [List.length_cons, List.length_append, List.length_nil] at hR3N)
    have hR3O := RP_O hR3
    (try simp only [List.length_cons, List.length_append, List.length_nil] at hR3O)
    have hR3P := RP_P hR3
    (try simp only [List.length_cons, List.length_append, List.length_nil] at hR3P)
    refine G_iload (i := 2) (n := 1) (len := 1) (Or.inl ⟨2, rfl, rfl, d_Mo_behind_27⟩) rfl (G_pc (pc' := 28) rfl ?_)
    refine G_bipush (n := 24) d_Mo_behind_28 (by decide) (G_pc (pc' := 30) rfl ?_)
    refine G_icmp_ne (tgt := 124) d_Mo_behind_30 (by decide) (fun h4 => ?_) (fun h4 => G_pc (pc' := 33) rfl ?_)
    · skip
      refine G_iload (i := 2) (n := 1) (len := 1) (Or.inl ⟨2, rfl, rfl, d_Mo_behind_124⟩) rfl (G_pc (pc' := 125) rfl ?_)
      refine G_bipush (n := 22) d_Mo_behind_125 (by decide) (G_pc (pc' := 127) rfl ?_)
      refine G_icmp_ne (tgt := 173) d_Mo_behind_127 (by decide) (fun h5 => ?_) (fun h5 => G_pc (pc' := 130) rfl ?_)
      · skip
        refine G_iload (i := 2) (n := 1) (len := 1) (Or.inl ⟨2, rfl, rfl, d_Mo_behind_173⟩) rfl (G_pc (pc' := 174) rfl ?_)
        refine G_bipush (n := 21) d_Mo_behind_174 (by decide) (G_pc (pc' := 176) rfl ?_)
        refine G_icmp_eq (tgt := 185) d_Mo_behind_176 (by decide) (fun h6 => ?_) (fun h6 => G_pc (pc' := 179) rfl ?_)
        · skip
          refine G_aload (i := 0) (n := 2) (len := 1) (Or.inl ⟨0, rfl, rfl, d_Mo_behind_185⟩) rfl (by decide) (G_pc (pc' := 186) rfl ?_)
          refine G_iconst (n := 0) d_Mo_behind_186 (by decide) (G_pc (pc' := 187) rfl ?_)
          refine G_callV (K1 := KE) (d2 := 1) (o := 55) (cl := 9) (as := [vi 0]) (rest := []) d_Mo_behind_187 mf_Mo_reduce ml_Mo_251 rfl rfl (by decide) rfl rfl (Nat.le_of_ble_eq_true rfl) (by omega) ⟨Nat.le_refl _, Nat.le_refl _⟩ (g_Mo_reduce (by omega) 0 M0 _ _ _ _ _ _ _ (reduceL 0 N O P) _ hR3 (by omega) (by omega) (by omega) rfl) (fun r8 M9 kq10 q10 => ?_)
          clear kq10; obtain ⟨q10a, q10b⟩ := q10; subst r8
          obtain ⟨N_7, O_7, P_7, hF_7⟩ : ∃ N1 O1 P1, (reduceL 0 N O P) = (N1, O1, P1) := ⟨_, _, _, rfl⟩
          rw [hF_7] at q10b
          have hI_7 := reduceL_inv hF_7 (by omega) (by omega)
          refine G_ps (pc' := 190) (st' := []) rfl rfl ?_
          have hR11 : RP M0 M9 N_7 O_7 P_7 o a 0 0 := q10b
          have hR11N := RP_N hR11
          (try simp only [List.length_cons, List.length_append, List.length_nil] at hR11N)
          have hR11O := RP_O hR11
          (try simp only [List.length_cons, List.length_append, List.length_nil] at hR11O)
          have hR11P := RP_P hR11
          (try simp only [List.length_cons, List.length_append, List.length_nil] at hR11P)
          refine G_aload (i := 0) (n := 2) (len := 1) (Or.inl ⟨0, rfl, rfl, d_Mo_behind_190⟩) rfl (by decide) (G_pc (pc' := 191) rfl ?_)
          refine G_aload (i := 0) (n := 2) (len := 1) (Or.inl ⟨0, rfl, rfl, d_Mo_behind_191⟩) rfl (by decide) (G_pc (pc' := 192) rfl ?_)
          refine G_callV (K1 := KE) (d2 := 0) (o := 55) (cl := 9) (as := []) (rest := [vr 55]) d_Mo_behind_192 mf_Mo_top ml_Mo_216 rfl rfl (by decide) rfl rfl (Nat.le_of_ble_eq_true rfl) (by omega) ⟨Nat.le_refl _, Nat.le_refl _⟩ (g_Mo_top (by omega)  _ (by omega)) (fun r12 M13 kq14 q14 => ?_)
          clear kq14; obtain ⟨q14a, q14b⟩ := q14; subst r12; subst M13
          refine G_ps (pc' := 195) (st' := [vi (topM M9), vr 55]) rfl rfl ?_
          rw [show topM M9 = topP P_7 from RP_top hR11]
          refine G_iload (i := 2) (n := 1) (len := 1) (Or.inl ⟨2, rfl, rfl, d_Mo_behind_195⟩) rfl (G_pc (pc' := 196) rfl ?_)
          refine G_bipush (n := 21) d_Mo_behind_196 (by decide) (G_pc (pc' := 198) rfl ?_)
          refine G_icmp_ne (tgt := 206) d_Mo_behind_198 (by decide) (fun h15 => ?_) (fun h15 => G_pc (pc' := 201) rfl ?_)
          · skip
            refine G_bipush (n := 22) d_Mo_behind_206 (by decide) (G_pc (pc' := 208) rfl ?_)
            refine G_icmp_eq (tgt := 215) d_Mo_behind_208 (by decide) (fun h16 => ?_) (fun h16 => G_pc (pc' := 211) rfl ?_)
            · skip
              refine G_iconst (n := 0) d_Mo_behind_215 (by decide) (G_pc (pc' := 216) rfl ?_)
              refine G_putL (o := 55) (c := 9) (k := 44) (ki := 44) (x := 0) d_Mo_behind_216 fl_Mo_166 rfl rfl (by decide) (by decide) (by decide) rfl rfl (tokZ (by decide)) rfl (G_pc (pc' := 219) rfl ?_)
              have hR17 : RP M0 (mset M9 55 44 0) N_7 O_7 P_7 o a 0 0 := RP_w hR11
              have hR17N := RP_N hR17
              (try simp only [List.length_cons, List.length_append, List.length_nil] at hR17N)
              have hR17O := RP_O hR17
              (try simp only [List.length_cons, List.length_append, List.length_nil] at hR17O)
              have hR17P := RP_P hR17
              (try simp only [List.length_cons, List.length_append, List.length_nil] at hR17P)
              refine G_aload (i := 0) (n := 2) (len := 1) (Or.inl ⟨0, rfl, rfl, d_Mo_behind_219⟩) rfl (by decide) (G_pc (pc' := 220) rfl ?_)
              refine G_get (o := 55) (c := 9) (k := 44) (v := 0) d_Mo_behind_220 fl_Mo_166 rfl (by decide) (by decide) rfl rfl (G_pc (pc' := 223) rfl ?_)
              refine G_if_eq (tgt := 228) d_Mo_behind_223 (by decide) (fun h18 => ?_) (fun h18 => absurd h18 (by decide))
              obtain ⟨tt, kk, PP, rfl⟩ := topP_cons' (P := P_7) (by omega)
              have htp : topP ((tt, kk) :: PP) = tt := rfl
              have haw : arP ((tt, kk) :: PP) = arW tt + arP PP := rfl
              simp only [List.length_cons] at *
              refine G_aload (i := 0) (n := 2) (len := 1) (Or.inl ⟨0, rfl, rfl, d_Mo_behind_228⟩) rfl (by decide) (G_pc (pc' := 229) rfl ?_)
              refine G_dup d_Mo_behind_229 (fun _ h => by cases h) (G_pc (pc' := 230) rfl ?_)
              refine G_get (o := 55) (c := 9) (k := 39) (v := M9 55 39) d_Mo_behind_230 fl_Mo_213 rfl (by decide) (by decide) rfl rfl (G_pc (pc' := 233) rfl ?_)
              refine G_iconst (n := 1) d_Mo_behind_233 (by decide) (G_pc (pc' := 234) rfl ?_)
              refine G_isub d_Mo_behind_234 (by omega) (G_pc (pc' := 235) rfl ?_)
              refine G_putL (o := 55) (c := 9) (k := 39) (ki := 39) (x := (M9 55 39) - 1) d_Mo_behind_235 fl_Mo_213 rfl rfl (by decide) (by decide) (by decide) rfl rfl (tokI (by omega)) rfl (G_pc (pc' := 238) rfl ?_)
              have hR19 : RP M0 (mset (mset M9 55 44 0) 55 39 ((M9 55 39) - 1)) N_7 O_7 PP o a 0 0 := (RP_drop hR17).2.2.2
              have hR19N := RP_N hR19
              (try simp only [List.length_cons, List.length_append, List.length_nil] at hR19N)
              have hR19O := RP_O hR19
              (try simp only [List.length_cons, List.length_append, List.length_nil] at hR19O)
              have hR19P := RP_P hR19
              (try simp only [List.length_cons, List.length_append, List.length_nil] at hR19P)
              refine G_aload (i := 0) (n := 2) (len := 1) (Or.inl ⟨0, rfl, rfl, d_Mo_behind_238⟩) rfl (by decide) (G_pc (pc' := 239) rfl ?_)
              refine G_dup d_Mo_behind_239 (fun _ h => by cases h) (G_pc (pc' := 240) rfl ?_)
              refine G_get (o := 55) (c := 9) (k := 42) (v := M9 55 42) d_Mo_behind_240 fl_Mo_233 rfl (by decide) (by decide) rfl rfl (G_pc (pc' := 243) rfl ?_)
              rw [show M9 55 42 = o from (show (mset (mset M9 55 44 0) 55 39 ((M9 55 39) - 1)) 55 42 = o from RP_OP hR19)]
              refine G_iconst (n := 1) d_Mo_behind_243 (by decide) (G_pc (pc' := 244) rfl ?_)
              refine G_isub d_Mo_behind_244 (by omega) (G_pc (pc' := 245) rfl ?_)
              refine G_putL (o := 55) (c := 9) (k := 42) (ki := 42) (x := o - 1) d_Mo_behind_245 fl_Mo_233 rfl rfl (by decide) (by decide) (by decide) rfl rfl (tokI (by omega)) rfl (G_pc (pc' := 248) rfl ?_)
              have hR20 : RP M0 (mset (mset (mset M9 55 44 0) 55 39 ((M9 55 39) - 1)) 55 42 (o - 1)) N_7 O_7 PP (o - 1) a 0 0 := RP_o hR19
              have hR20N := RP_N hR20
              (try simp only [List.length_cons, List.length_append, List.length_nil] at hR20N)
              have hR20O := RP_O hR20
              (try simp only [List.length_cons, List.length_append, List.length_nil] at hR20O)
              have hR20P := RP_P hR20
              (try simp only [List.length_cons, List.length_append, List.length_nil] at hR20P)
              refine G_iload (i := 2) (n := 1) (len := 1) (Or.inl ⟨2, rfl, rfl, d_Mo_behind_248⟩) rfl (G_pc (pc' := 249) rfl ?_)
              refine G_bipush (n := 23) d_Mo_behind_249 (by decide) (G_pc (pc' := 251) rfl ?_)
              refine G_icmp_ne (tgt := 282) d_Mo_behind_251 (by decide) (fun h21 => ?_) (fun h21 => G_pc (pc' := 254) rfl ?_)
              · skip
                refine G_iload (i := 1) (n := 3) (len := 1) (Or.inl ⟨1, rfl, rfl, d_Mo_behind_282⟩) rfl (G_pc (pc' := 283) rfl ?_)
                refine G_iconst (n := 1) d_Mo_behind_283 (by decide) (G_pc (pc' := 284) rfl ?_)
                refine G_iadd d_Mo_behind_284 (by omega) (G_pc (pc' := 285) rfl ?_)
                refine G_iret d_Mo_behind_285 rfl (tokI (by omega)) rfl rfl ?_
                exact Or.inr ⟨_, _, _, _, _, _, _, by unfold behindS; rw [if_neg (by omega), if_neg (by omega), if_pos (by omega), redS_e hF_7]; unfold closeS; simp only []; first | grind | (simp; grind), rfl, hR20⟩
              · skip
                have htt : tt = 22 := by omega
                have haw2 : arW tt = 1 := by rw [htt]; decide
                obtain ⟨x2, x1, Y, rfl⟩ := cons2 (O := O_7) (by omega)
                simp only [List.length_cons] at *
                refine G_aload (i := 0) (n := 2) (len := 1) (Or.inl ⟨0, rfl, rfl, d_Mo_behind_254⟩) rfl (by decide) (G_pc (pc' := 255) rfl ?_)
                refine G_callV (K1 := KE) (d2 := 0) (o := 55) (cl := 9) (as := []) (rest := []) d_Mo_behind_255 mf_Mo_pop ml_Mo_223 rfl rfl (by decide) rfl rfl (Nat.le_of_ble_eq_true rfl) (by omega) ⟨Nat.le_refl _, Nat.le_refl _⟩ (g_Mo_pop (by omega)  _ (by omega)) (fun r22 M23 kq24 q24 => ?_)
                clear kq24; obtain ⟨q24a, q24b⟩ := q24; subst r22; subst M23
                refine G_ps (pc' := 258) (st' := [vi ((mset (mset (mset M9 55 44 0) 55 39 ((M9 55 39) - 1)) 55 42 (o - 1)) 84 ((mset (mset (mset M9 55 44 0) 55 39 ((M9 55 39) - 1)) 55 42 (o - 1)) 55 37 - 1))]) rfl rfl ?_
                rw [show (mset (mset (mset M9 55 44 0) 55 39 ((M9 55 39) - 1)) 55 42 (o - 1)) 84 ((mset (mset (mset M9 55 44 0) 55 39 ((M9 55 39) - 1)) 55 42 (o - 1)) 55 37 - 1) = x2 from (RP_pop hR20).1]
                have hR25 : RP M0 (popM (mset (mset (mset M9 55 44 0) 55 39 ((M9 55 39) - 1)) 55 42 (o - 1))) N_7 (x1 :: Y) PP (o - 1) a 0 0 := (RP_pop hR20).2
                have hR25N := RP_N hR25
                (try simp only [List.length_cons, List.length_append, List.length_nil] at hR25N)
                have hR25O := RP_O hR25
                (try simp only [List.length_cons, List.length_append, List.length_nil] at hR25O)
                have hR25P := RP_P hR25
                (try simp only [List.length_cons, List.length_append, List.length_nil] at hR25P)
                refine G_istore (i := 4) (len := 2) (ls' := [(4, vi x2), (3, vi cl), (2, vi (tkA M0 k)), (0, vr 55), (1, vi k)]) (Or.inr ⟨rfl, d_Mo_behind_258⟩) (by decide) rfl (G_pc (pc' := 260) rfl ?_)
                refine G_aload (i := 0) (n := 3) (len := 1) (Or.inl ⟨0, rfl, rfl, d_Mo_behind_260⟩) rfl (by decide) (G_pc (pc' := 261) rfl ?_)
                refine G_callV (K1 := KE) (d2 := 0) (o := 55) (cl := 9) (as := []) (rest := []) d_Mo_behind_261 mf_Mo_pop ml_Mo_223 rfl rfl (by decide) rfl rfl (Nat.le_of_ble_eq_true rfl) (by omega) ⟨Nat.le_refl _, Nat.le_refl _⟩ (g_Mo_pop (by omega)  _ (by omega)) (fun r26 M27 kq28 q28 => ?_)
                clear kq28; obtain ⟨q28a, q28b⟩ := q28; subst r26; subst M27
                refine G_ps (pc' := 264) (st' := [vi ((popM (mset (mset (mset M9 55 44 0) 55 39 ((M9 55 39) - 1)) 55 42 (o - 1))) 84 ((popM (mset (mset (mset M9 55 44 0) 55 39 ((M9 55 39) - 1)) 55 42 (o - 1))) 55 37 - 1))]) rfl rfl ?_
                rw [show (popM (mset (mset (mset M9 55 44 0) 55 39 ((M9 55 39) - 1)) 55 42 (o - 1))) 84 ((popM (mset (mset (mset M9 55 44 0) 55 39 ((M9 55 39) - 1)) 55 42 (o - 1))) 55 37 - 1) = x1 from (RP_pop hR25).1]
                have hR29 : RP M0 (popM (popM (mset (mset (mset M9 55 44 0) 55 39 ((M9 55 39) - 1)) 55 42 (o - 1)))) N_7 Y PP (o - 1) a 0 0 := (RP_pop hR25).2
                have hR29N := RP_N hR29
                (try simp only [List.length_cons, List.length_append, List.length_nil] at hR29N)
                have hR29O := RP_O hR29
                (try simp only [List.length_cons, List.length_append, List.length_nil] at hR29O)
                have hR29P := RP_P hR29
                (try simp only [List.length_cons, List.length_append, List.length_nil] at hR29P)
                refine G_istore (i := 5) (len := 2) (ls' := [(5, vi x1), (4, vi x2), (3, vi cl), (2, vi (tkA M0 k)), (0, vr 55), (1, vi k)]) (Or.inr ⟨rfl, d_Mo_behind_264⟩) (by decide) rfl (G_pc (pc' := 266) rfl ?_)
                refine G_aload (i := 0) (n := 4) (len := 1) (Or.inl ⟨0, rfl, rfl, d_Mo_behind_266⟩) rfl (by decide) (G_pc (pc' := 267) rfl ?_)
                refine G_aload (i := 0) (n := 4) (len := 1) (Or.inl ⟨0, rfl, rfl, d_Mo_behind_267⟩) rfl (by decide) (G_pc (pc' := 268) rfl ?_)
                refine G_bipush (n := 62) d_Mo_behind_268 (by decide) (G_pc (pc' := 270) rfl ?_)
                refine G_iload (i := 5) (n := 0) (len := 2) (Or.inr ⟨rfl, d_Mo_behind_270⟩) rfl (G_pc (pc' := 272) rfl ?_)
                refine G_iload (i := 4) (n := 1) (len := 2) (Or.inr ⟨rfl, d_Mo_behind_272⟩) rfl (G_pc (pc' := 274) rfl ?_)
                refine G_iconst (n := (-1)) d_Mo_behind_274 (by decide) (G_pc (pc' := 275) rfl ?_)
                refine G_lconst0 d_Mo_behind_275 (G_pc (pc' := 276) rfl ?_)
                refine G_callV (K1 := KE) (d2 := 0) (o := 55) (cl := 9) (as := [vi 62, vi x1, vi x2, vi (-1), vl 0]) (rest := [vr 55]) d_Mo_behind_276 mf_Mo_node ml_Mo_226 rfl rfl (by decide) rfl rfl (Nat.le_of_ble_eq_true rfl) (by omega) ⟨Nat.le_refl _, Nat.le_refl _⟩ (g_Mo_node (by omega) 62 x1 x2 (-1) 0 _ (by omega)) (fun r30 M31 kq32 q32 => ?_)
                clear kq32; obtain ⟨q32a, q32b⟩ := q32; subst r30; subst M31
                refine G_ps (pc' := 279) (st' := [vi ((popM (popM (mset (mset (mset M9 55 44 0) 55 39 ((M9 55 39) - 1)) 55 42 (o - 1)))) 55 28), vr 55]) rfl rfl ?_
                rw [show (popM (popM (mset (mset (mset M9 55 44 0) 55 39 ((M9 55 39) - 1)) 55 42 (o - 1)))) 55 28 = ((N_7).length : Int) from RP_N hR29]
                have hR33 : RP M0 (nodeM (popM (popM (mset (mset (mset M9 55 44 0) 55 39 ((M9 55 39) - 1)) 55 42 (o - 1)))) 62 x1 x2 (-1) 0) (N_7 ++ [(62, x1, x2, (-1), 0)]) Y PP (o - 1) a 0 0 := RP_node hR29
                have hR33N := RP_N hR33
                (try simp only [List.length_cons, List.length_append, List.length_nil] at hR33N)
                have hR33O := RP_O hR33
                (try simp only [List.length_cons, List.length_append, List.length_nil] at hR33O)
                have hR33P := RP_P hR33
                (try simp only [List.length_cons, List.length_append, List.length_nil] at hR33P)
                refine G_callV (K1 := KE) (d2 := 0) (o := 55) (cl := 9) (as := [vi ((N_7).length : Int)]) (rest := []) d_Mo_behind_279 mf_Mo_push ml_Mo_230 rfl rfl (by decide) rfl rfl (Nat.le_of_ble_eq_true rfl) (by omega) ⟨Nat.le_refl _, Nat.le_refl _⟩ (g_Mo_push (by omega) ((N_7).length : Int) _ (by omega)) (fun r34 M35 kq36 q36 => ?_)
                clear kq36; obtain ⟨q36a, q36b⟩ := q36; subst r34; subst M35
                refine G_ps (pc' := 282) (st' := []) rfl rfl ?_
                have hR37 : RP M0 (pushM (nodeM (popM (popM (mset (mset (mset M9 55 44 0) 55 39 ((M9 55 39) - 1)) 55 42 (o - 1)))) 62 x1 x2 (-1) 0) ((N_7).length : Int)) (N_7 ++ [(62, x1, x2, (-1), 0)]) ((((N_7).length : Int)) :: Y) PP (o - 1) a 0 0 := RP_push hR33
                have hR37N := RP_N hR37
                (try simp only [List.length_cons, List.length_append, List.length_nil] at hR37N)
                have hR37O := RP_O hR37
                (try simp only [List.length_cons, List.length_append, List.length_nil] at hR37O)
                have hR37P := RP_P hR37
                (try simp only [List.length_cons, List.length_append, List.length_nil] at hR37P)
                refine G_iload (i := 1) (n := 5) (len := 1) (Or.inl ⟨1, rfl, rfl, d_Mo_behind_282⟩) rfl (G_pc (pc' := 283) rfl ?_)
                refine G_iconst (n := 1) d_Mo_behind_283 (by decide) (G_pc (pc' := 284) rfl ?_)
                refine G_iadd d_Mo_behind_284 (by omega) (G_pc (pc' := 285) rfl ?_)
                refine G_iret d_Mo_behind_285 rfl (tokI (by omega)) rfl rfl ?_
                exact Or.inr ⟨_, _, _, _, _, _, _, by unfold behindS; rw [if_neg (by omega), if_neg (by omega), if_pos (by omega), redS_e hF_7]; unfold closeS; simp only []; first | grind | (simp; grind), rfl, hR37⟩
            · skip
              refine G_iconst (n := 1) d_Mo_behind_211 (by decide) (G_pc (pc' := 212) rfl ?_)
              refine G_goto (tgt := 216) d_Mo_behind_212 (by decide) ?_
              refine G_putL (o := 55) (c := 9) (k := 44) (ki := 44) (x := 1) d_Mo_behind_216 fl_Mo_166 rfl rfl (by decide) (by decide) (by decide) rfl rfl (tokZ (by decide)) rfl (G_pc (pc' := 219) rfl ?_)
              have hR38 : RP M0 (mset M9 55 44 1) N_7 O_7 P_7 o a 0 1 := RP_w hR11
              have hR38N := RP_N hR38
              (try simp only [List.length_cons, List.length_append, List.length_nil] at hR38N)
              have hR38O := RP_O hR38
              (try simp only [List.length_cons, List.length_append, List.length_nil] at hR38O)
              have hR38P := RP_P hR38
              (try simp only [List.length_cons, List.length_append, List.length_nil] at hR38P)
              refine G_aload (i := 0) (n := 2) (len := 1) (Or.inl ⟨0, rfl, rfl, d_Mo_behind_219⟩) rfl (by decide) (G_pc (pc' := 220) rfl ?_)
              refine G_get (o := 55) (c := 9) (k := 44) (v := 1) d_Mo_behind_220 fl_Mo_166 rfl (by decide) (by decide) rfl rfl (G_pc (pc' := 223) rfl ?_)
              refine G_if_eq (tgt := 228) d_Mo_behind_223 (by decide) (fun h39 => absurd h39 (by decide)) (fun h39 => G_pc (pc' := 226) rfl ?_)
              refine G_iload (i := 1) (n := 3) (len := 1) (Or.inl ⟨1, rfl, rfl, d_Mo_behind_226⟩) rfl (G_pc (pc' := 227) rfl ?_)
              refine G_iret d_Mo_behind_227 rfl (tokI (by omega)) rfl rfl ?_
              exact Or.inl ⟨by unfold behindS; rw [if_neg (by omega), if_neg (by omega), if_pos (by omega), redS_e hF_7]; unfold closeS; simp only []; first | grind | (simp; grind), hR38.1, RP_W hR38, _, rfl⟩
          · skip
            refine G_bipush (n := 20) d_Mo_behind_201 (by decide) (G_pc (pc' := 203) rfl ?_)
            refine G_goto (tgt := 208) d_Mo_behind_203 (by decide) ?_
            refine G_icmp_eq (tgt := 215) d_Mo_behind_208 (by decide) (fun h40 => ?_) (fun h40 => G_pc (pc' := 211) rfl ?_)
            · skip
              refine G_iconst (n := 0) d_Mo_behind_215 (by decide) (G_pc (pc' := 216) rfl ?_)
              refine G_putL (o := 55) (c := 9) (k := 44) (ki := 44) (x := 0) d_Mo_behind_216 fl_Mo_166 rfl rfl (by decide) (by decide) (by decide) rfl rfl (tokZ (by decide)) rfl (G_pc (pc' := 219) rfl ?_)
              have hR41 : RP M0 (mset M9 55 44 0) N_7 O_7 P_7 o a 0 0 := RP_w hR11
              have hR41N := RP_N hR41
              (try simp only [List.length_cons, List.length_append, List.length_nil] at hR41N)
              have hR41O := RP_O hR41
              (try simp only [List.length_cons, List.length_append, List.length_nil] at hR41O)
              have hR41P := RP_P hR41
              (try simp only [List.length_cons, List.length_append, List.length_nil] at hR41P)
              refine G_aload (i := 0) (n := 2) (len := 1) (Or.inl ⟨0, rfl, rfl, d_Mo_behind_219⟩) rfl (by decide) (G_pc (pc' := 220) rfl ?_)
              refine G_get (o := 55) (c := 9) (k := 44) (v := 0) d_Mo_behind_220 fl_Mo_166 rfl (by decide) (by decide) rfl rfl (G_pc (pc' := 223) rfl ?_)
              refine G_if_eq (tgt := 228) d_Mo_behind_223 (by decide) (fun h42 => ?_) (fun h42 => absurd h42 (by decide))
              obtain ⟨tt, kk, PP, rfl⟩ := topP_cons' (P := P_7) (by omega)
              have htp : topP ((tt, kk) :: PP) = tt := rfl
              have haw : arP ((tt, kk) :: PP) = arW tt + arP PP := rfl
              simp only [List.length_cons] at *
              refine G_aload (i := 0) (n := 2) (len := 1) (Or.inl ⟨0, rfl, rfl, d_Mo_behind_228⟩) rfl (by decide) (G_pc (pc' := 229) rfl ?_)
              refine G_dup d_Mo_behind_229 (fun _ h => by cases h) (G_pc (pc' := 230) rfl ?_)
              refine G_get (o := 55) (c := 9) (k := 39) (v := M9 55 39) d_Mo_behind_230 fl_Mo_213 rfl (by decide) (by decide) rfl rfl (G_pc (pc' := 233) rfl ?_)
              refine G_iconst (n := 1) d_Mo_behind_233 (by decide) (G_pc (pc' := 234) rfl ?_)
              refine G_isub d_Mo_behind_234 (by omega) (G_pc (pc' := 235) rfl ?_)
              refine G_putL (o := 55) (c := 9) (k := 39) (ki := 39) (x := (M9 55 39) - 1) d_Mo_behind_235 fl_Mo_213 rfl rfl (by decide) (by decide) (by decide) rfl rfl (tokI (by omega)) rfl (G_pc (pc' := 238) rfl ?_)
              have hR43 : RP M0 (mset (mset M9 55 44 0) 55 39 ((M9 55 39) - 1)) N_7 O_7 PP o a 0 0 := (RP_drop hR41).2.2.2
              have hR43N := RP_N hR43
              (try simp only [List.length_cons, List.length_append, List.length_nil] at hR43N)
              have hR43O := RP_O hR43
              (try simp only [List.length_cons, List.length_append, List.length_nil] at hR43O)
              have hR43P := RP_P hR43
              (try simp only [List.length_cons, List.length_append, List.length_nil] at hR43P)
              refine G_aload (i := 0) (n := 2) (len := 1) (Or.inl ⟨0, rfl, rfl, d_Mo_behind_238⟩) rfl (by decide) (G_pc (pc' := 239) rfl ?_)
              refine G_dup d_Mo_behind_239 (fun _ h => by cases h) (G_pc (pc' := 240) rfl ?_)
              refine G_get (o := 55) (c := 9) (k := 42) (v := M9 55 42) d_Mo_behind_240 fl_Mo_233 rfl (by decide) (by decide) rfl rfl (G_pc (pc' := 243) rfl ?_)
              rw [show M9 55 42 = o from (show (mset (mset M9 55 44 0) 55 39 ((M9 55 39) - 1)) 55 42 = o from RP_OP hR43)]
              refine G_iconst (n := 1) d_Mo_behind_243 (by decide) (G_pc (pc' := 244) rfl ?_)
              refine G_isub d_Mo_behind_244 (by omega) (G_pc (pc' := 245) rfl ?_)
              refine G_putL (o := 55) (c := 9) (k := 42) (ki := 42) (x := o - 1) d_Mo_behind_245 fl_Mo_233 rfl rfl (by decide) (by decide) (by decide) rfl rfl (tokI (by omega)) rfl (G_pc (pc' := 248) rfl ?_)
              have hR44 : RP M0 (mset (mset (mset M9 55 44 0) 55 39 ((M9 55 39) - 1)) 55 42 (o - 1)) N_7 O_7 PP (o - 1) a 0 0 := RP_o hR43
              have hR44N := RP_N hR44
              (try simp only [List.length_cons, List.length_append, List.length_nil] at hR44N)
              have hR44O := RP_O hR44
              (try simp only [List.length_cons, List.length_append, List.length_nil] at hR44O)
              have hR44P := RP_P hR44
              (try simp only [List.length_cons, List.length_append, List.length_nil] at hR44P)
              refine G_iload (i := 2) (n := 1) (len := 1) (Or.inl ⟨2, rfl, rfl, d_Mo_behind_248⟩) rfl (G_pc (pc' := 249) rfl ?_)
              refine G_bipush (n := 23) d_Mo_behind_249 (by decide) (G_pc (pc' := 251) rfl ?_)
              refine G_icmp_ne (tgt := 282) d_Mo_behind_251 (by decide) (fun h45 => ?_) (fun h45 => G_pc (pc' := 254) rfl ?_)
              · skip
                refine G_iload (i := 1) (n := 3) (len := 1) (Or.inl ⟨1, rfl, rfl, d_Mo_behind_282⟩) rfl (G_pc (pc' := 283) rfl ?_)
                refine G_iconst (n := 1) d_Mo_behind_283 (by decide) (G_pc (pc' := 284) rfl ?_)
                refine G_iadd d_Mo_behind_284 (by omega) (G_pc (pc' := 285) rfl ?_)
                refine G_iret d_Mo_behind_285 rfl (tokI (by omega)) rfl rfl ?_
                exact Or.inr ⟨_, _, _, _, _, _, _, by unfold behindS; rw [if_neg (by omega), if_neg (by omega), if_pos (by omega), redS_e hF_7]; unfold closeS; simp only []; first | grind | (simp; grind), rfl, hR44⟩
              · skip
                have htt : tt = 22 := by omega
                have haw2 : arW tt = 1 := by rw [htt]; decide
                obtain ⟨x2, x1, Y, rfl⟩ := cons2 (O := O_7) (by omega)
                simp only [List.length_cons] at *
                refine G_aload (i := 0) (n := 2) (len := 1) (Or.inl ⟨0, rfl, rfl, d_Mo_behind_254⟩) rfl (by decide) (G_pc (pc' := 255) rfl ?_)
                refine G_callV (K1 := KE) (d2 := 0) (o := 55) (cl := 9) (as := []) (rest := []) d_Mo_behind_255 mf_Mo_pop ml_Mo_223 rfl rfl (by decide) rfl rfl (Nat.le_of_ble_eq_true rfl) (by omega) ⟨Nat.le_refl _, Nat.le_refl _⟩ (g_Mo_pop (by omega)  _ (by omega)) (fun r46 M47 kq48 q48 => ?_)
                clear kq48; obtain ⟨q48a, q48b⟩ := q48; subst r46; subst M47
                refine G_ps (pc' := 258) (st' := [vi ((mset (mset (mset M9 55 44 0) 55 39 ((M9 55 39) - 1)) 55 42 (o - 1)) 84 ((mset (mset (mset M9 55 44 0) 55 39 ((M9 55 39) - 1)) 55 42 (o - 1)) 55 37 - 1))]) rfl rfl ?_
                rw [show (mset (mset (mset M9 55 44 0) 55 39 ((M9 55 39) - 1)) 55 42 (o - 1)) 84 ((mset (mset (mset M9 55 44 0) 55 39 ((M9 55 39) - 1)) 55 42 (o - 1)) 55 37 - 1) = x2 from (RP_pop hR44).1]
                have hR49 : RP M0 (popM (mset (mset (mset M9 55 44 0) 55 39 ((M9 55 39) - 1)) 55 42 (o - 1))) N_7 (x1 :: Y) PP (o - 1) a 0 0 := (RP_pop hR44).2
                have hR49N := RP_N hR49
                (try simp only [List.length_cons, List.length_append, List.length_nil] at hR49N)
                have hR49O := RP_O hR49
                (try simp only [List.length_cons, List.length_append, List.length_nil] at hR49O)
                have hR49P := RP_P hR49
                (try simp only [List.length_cons, List.length_append, List.length_nil] at hR49P)
                refine G_istore (i := 4) (len := 2) (ls' := [(4, vi x2), (3, vi cl), (2, vi (tkA M0 k)), (0, vr 55), (1, vi k)]) (Or.inr ⟨rfl, d_Mo_behind_258⟩) (by decide) rfl (G_pc (pc' := 260) rfl ?_)
                refine G_aload (i := 0) (n := 3) (len := 1) (Or.inl ⟨0, rfl, rfl, d_Mo_behind_260⟩) rfl (by decide) (G_pc (pc' := 261) rfl ?_)
                refine G_callV (K1 := KE) (d2 := 0) (o := 55) (cl := 9) (as := []) (rest := []) d_Mo_behind_261 mf_Mo_pop ml_Mo_223 rfl rfl (by decide) rfl rfl (Nat.le_of_ble_eq_true rfl) (by omega) ⟨Nat.le_refl _, Nat.le_refl _⟩ (g_Mo_pop (by omega)  _ (by omega)) (fun r50 M51 kq52 q52 => ?_)
                clear kq52; obtain ⟨q52a, q52b⟩ := q52; subst r50; subst M51
                refine G_ps (pc' := 264) (st' := [vi ((popM (mset (mset (mset M9 55 44 0) 55 39 ((M9 55 39) - 1)) 55 42 (o - 1))) 84 ((popM (mset (mset (mset M9 55 44 0) 55 39 ((M9 55 39) - 1)) 55 42 (o - 1))) 55 37 - 1))]) rfl rfl ?_
                rw [show (popM (mset (mset (mset M9 55 44 0) 55 39 ((M9 55 39) - 1)) 55 42 (o - 1))) 84 ((popM (mset (mset (mset M9 55 44 0) 55 39 ((M9 55 39) - 1)) 55 42 (o - 1))) 55 37 - 1) = x1 from (RP_pop hR49).1]
                have hR53 : RP M0 (popM (popM (mset (mset (mset M9 55 44 0) 55 39 ((M9 55 39) - 1)) 55 42 (o - 1)))) N_7 Y PP (o - 1) a 0 0 := (RP_pop hR49).2
                have hR53N := RP_N hR53
                (try simp only [List.length_cons, List.length_append, List.length_nil] at hR53N)
                have hR53O := RP_O hR53
                (try simp only [List.length_cons, List.length_append, List.length_nil] at hR53O)
                have hR53P := RP_P hR53
                (try simp only [List.length_cons, List.length_append, List.length_nil] at hR53P)
                refine G_istore (i := 5) (len := 2) (ls' := [(5, vi x1), (4, vi x2), (3, vi cl), (2, vi (tkA M0 k)), (0, vr 55), (1, vi k)]) (Or.inr ⟨rfl, d_Mo_behind_264⟩) (by decide) rfl (G_pc (pc' := 266) rfl ?_)
                refine G_aload (i := 0) (n := 4) (len := 1) (Or.inl ⟨0, rfl, rfl, d_Mo_behind_266⟩) rfl (by decide) (G_pc (pc' := 267) rfl ?_)
                refine G_aload (i := 0) (n := 4) (len := 1) (Or.inl ⟨0, rfl, rfl, d_Mo_behind_267⟩) rfl (by decide) (G_pc (pc' := 268) rfl ?_)
                refine G_bipush (n := 62) d_Mo_behind_268 (by decide) (G_pc (pc' := 270) rfl ?_)
                refine G_iload (i := 5) (n := 0) (len := 2) (Or.inr ⟨rfl, d_Mo_behind_270⟩) rfl (G_pc (pc' := 272) rfl ?_)
                refine G_iload (i := 4) (n := 1) (len := 2) (Or.inr ⟨rfl, d_Mo_behind_272⟩) rfl (G_pc (pc' := 274) rfl ?_)
                refine G_iconst (n := (-1)) d_Mo_behind_274 (by decide) (G_pc (pc' := 275) rfl ?_)
                refine G_lconst0 d_Mo_behind_275 (G_pc (pc' := 276) rfl ?_)
                refine G_callV (K1 := KE) (d2 := 0) (o := 55) (cl := 9) (as := [vi 62, vi x1, vi x2, vi (-1), vl 0]) (rest := [vr 55]) d_Mo_behind_276 mf_Mo_node ml_Mo_226 rfl rfl (by decide) rfl rfl (Nat.le_of_ble_eq_true rfl) (by omega) ⟨Nat.le_refl _, Nat.le_refl _⟩ (g_Mo_node (by omega) 62 x1 x2 (-1) 0 _ (by omega)) (fun r54 M55 kq56 q56 => ?_)
                clear kq56; obtain ⟨q56a, q56b⟩ := q56; subst r54; subst M55
                refine G_ps (pc' := 279) (st' := [vi ((popM (popM (mset (mset (mset M9 55 44 0) 55 39 ((M9 55 39) - 1)) 55 42 (o - 1)))) 55 28), vr 55]) rfl rfl ?_
                rw [show (popM (popM (mset (mset (mset M9 55 44 0) 55 39 ((M9 55 39) - 1)) 55 42 (o - 1)))) 55 28 = ((N_7).length : Int) from RP_N hR53]
                have hR57 : RP M0 (nodeM (popM (popM (mset (mset (mset M9 55 44 0) 55 39 ((M9 55 39) - 1)) 55 42 (o - 1)))) 62 x1 x2 (-1) 0) (N_7 ++ [(62, x1, x2, (-1), 0)]) Y PP (o - 1) a 0 0 := RP_node hR53
                have hR57N := RP_N hR57
                (try simp only [List.length_cons, List.length_append, List.length_nil] at hR57N)
                have hR57O := RP_O hR57
                (try simp only [List.length_cons, List.length_append, List.length_nil] at hR57O)
                have hR57P := RP_P hR57
                (try simp only [List.length_cons, List.length_append, List.length_nil] at hR57P)
                refine G_callV (K1 := KE) (d2 := 0) (o := 55) (cl := 9) (as := [vi ((N_7).length : Int)]) (rest := []) d_Mo_behind_279 mf_Mo_push ml_Mo_230 rfl rfl (by decide) rfl rfl (Nat.le_of_ble_eq_true rfl) (by omega) ⟨Nat.le_refl _, Nat.le_refl _⟩ (g_Mo_push (by omega) ((N_7).length : Int) _ (by omega)) (fun r58 M59 kq60 q60 => ?_)
                clear kq60; obtain ⟨q60a, q60b⟩ := q60; subst r58; subst M59
                refine G_ps (pc' := 282) (st' := []) rfl rfl ?_
                have hR61 : RP M0 (pushM (nodeM (popM (popM (mset (mset (mset M9 55 44 0) 55 39 ((M9 55 39) - 1)) 55 42 (o - 1)))) 62 x1 x2 (-1) 0) ((N_7).length : Int)) (N_7 ++ [(62, x1, x2, (-1), 0)]) ((((N_7).length : Int)) :: Y) PP (o - 1) a 0 0 := RP_push hR57
                have hR61N := RP_N hR61
                (try simp only [List.length_cons, List.length_append, List.length_nil] at hR61N)
                have hR61O := RP_O hR61
                (try simp only [List.length_cons, List.length_append, List.length_nil] at hR61O)
                have hR61P := RP_P hR61
                (try simp only [List.length_cons, List.length_append, List.length_nil] at hR61P)
                refine G_iload (i := 1) (n := 5) (len := 1) (Or.inl ⟨1, rfl, rfl, d_Mo_behind_282⟩) rfl (G_pc (pc' := 283) rfl ?_)
                refine G_iconst (n := 1) d_Mo_behind_283 (by decide) (G_pc (pc' := 284) rfl ?_)
                refine G_iadd d_Mo_behind_284 (by omega) (G_pc (pc' := 285) rfl ?_)
                refine G_iret d_Mo_behind_285 rfl (tokI (by omega)) rfl rfl ?_
                exact Or.inr ⟨_, _, _, _, _, _, _, by unfold behindS; rw [if_neg (by omega), if_neg (by omega), if_pos (by omega), redS_e hF_7]; unfold closeS; simp only []; first | grind | (simp; grind), rfl, hR61⟩
            · skip
              refine G_iconst (n := 1) d_Mo_behind_211 (by decide) (G_pc (pc' := 212) rfl ?_)
              refine G_goto (tgt := 216) d_Mo_behind_212 (by decide) ?_
              refine G_putL (o := 55) (c := 9) (k := 44) (ki := 44) (x := 1) d_Mo_behind_216 fl_Mo_166 rfl rfl (by decide) (by decide) (by decide) rfl rfl (tokZ (by decide)) rfl (G_pc (pc' := 219) rfl ?_)
              have hR62 : RP M0 (mset M9 55 44 1) N_7 O_7 P_7 o a 0 1 := RP_w hR11
              have hR62N := RP_N hR62
              (try simp only [List.length_cons, List.length_append, List.length_nil] at hR62N)
              have hR62O := RP_O hR62
              (try simp only [List.length_cons, List.length_append, List.length_nil] at hR62O)
              have hR62P := RP_P hR62
              (try simp only [List.length_cons, List.length_append, List.length_nil] at hR62P)
              refine G_aload (i := 0) (n := 2) (len := 1) (Or.inl ⟨0, rfl, rfl, d_Mo_behind_219⟩) rfl (by decide) (G_pc (pc' := 220) rfl ?_)
              refine G_get (o := 55) (c := 9) (k := 44) (v := 1) d_Mo_behind_220 fl_Mo_166 rfl (by decide) (by decide) rfl rfl (G_pc (pc' := 223) rfl ?_)
              refine G_if_eq (tgt := 228) d_Mo_behind_223 (by decide) (fun h63 => absurd h63 (by decide)) (fun h63 => G_pc (pc' := 226) rfl ?_)
              refine G_iload (i := 1) (n := 3) (len := 1) (Or.inl ⟨1, rfl, rfl, d_Mo_behind_226⟩) rfl (G_pc (pc' := 227) rfl ?_)
              refine G_iret d_Mo_behind_227 rfl (tokI (by omega)) rfl rfl ?_
              exact Or.inl ⟨by unfold behindS; rw [if_neg (by omega), if_neg (by omega), if_pos (by omega), redS_e hF_7]; unfold closeS; simp only []; first | grind | (simp; grind), hR62.1, RP_W hR62, _, rfl⟩
        · skip
          refine G_iload (i := 2) (n := 1) (len := 1) (Or.inl ⟨2, rfl, rfl, d_Mo_behind_179⟩) rfl (G_pc (pc' := 180) rfl ?_)
          refine G_bipush (n := 23) d_Mo_behind_180 (by decide) (G_pc (pc' := 182) rfl ?_)
          refine G_icmp_ne (tgt := 286) d_Mo_behind_182 (by decide) (fun h64 => ?_) (fun h64 => G_pc (pc' := 185) rfl ?_)
          · skip
            refine G_iload (i := 2) (n := 1) (len := 1) (Or.inl ⟨2, rfl, rfl, d_Mo_behind_286⟩) rfl (G_pc (pc' := 287) rfl ?_)
            refine G_bipush (n := 25) d_Mo_behind_287 (by decide) (G_pc (pc' := 289) rfl ?_)
            refine G_icmp_ne (tgt := 335) d_Mo_behind_289 (by decide) (fun h65 => ?_) (fun h65 => G_pc (pc' := 292) rfl ?_)
            · skip
              refine G_iload (i := 2) (n := 1) (len := 1) (Or.inl ⟨2, rfl, rfl, d_Mo_behind_335⟩) rfl (G_pc (pc' := 336) rfl ?_)
              refine G_bipush (n := 26) d_Mo_behind_336 (by decide) (G_pc (pc' := 338) rfl ?_)
              refine G_icmp_ne (tgt := 388) d_Mo_behind_338 (by decide) (fun h66 => ?_) (fun h66 => G_pc (pc' := 341) rfl ?_)
              · skip
                refine G_iload (i := 2) (n := 1) (len := 1) (Or.inl ⟨2, rfl, rfl, d_Mo_behind_388⟩) rfl (G_pc (pc' := 389) rfl ?_)
                refine G_bipush (n := 13) d_Mo_behind_389 (by decide) (G_pc (pc' := 391) rfl ?_)
                refine G_icmp_ne (tgt := 464) d_Mo_behind_391 (by decide) (fun h67 => ?_) (fun h67 => G_pc (pc' := 394) rfl ?_)
                · skip
                  refine G_aload (i := 0) (n := 2) (len := 1) (Or.inl ⟨0, rfl, rfl, d_Mo_behind_464⟩) rfl (by decide) (G_pc (pc' := 465) rfl ?_)
                  refine G_iload (i := 2) (n := 1) (len := 1) (Or.inl ⟨2, rfl, rfl, d_Mo_behind_465⟩) rfl (G_pc (pc' := 466) rfl ?_)
                  refine G_callS (K1 := KE) (d2 := 0) (as := [vi (tkA M0 k)]) (rest := [vr 55]) d_Mo_behind_466 mf_Mo_binds ml_Mo_220 rfl rfl (Nat.le_of_ble_eq_true rfl) (by omega) ⟨Nat.le_refl _, Nat.le_refl _⟩ (g_Mo_binds (by omega) (tkA M0 k) _) (fun r68 M69 kq70 q70 => ?_)
                  clear kq70; obtain ⟨q70a, q70b⟩ := q70; subst r68; subst M69
                  refine G_ps (pc' := 469) (st' := [vi (bdV (tkA M0 k)), vr 55]) rfl rfl ?_
                  refine G_if_eq (tgt := 485) d_Mo_behind_469 (by decide) (fun h71 => ?_) (fun h71 => G_pc (pc' := 472) rfl ?_)
                  · skip
                    refine G_iconst (n := 1) d_Mo_behind_485 (by decide) (G_pc (pc' := 486) rfl ?_)
                    refine G_goto (tgt := 490) d_Mo_behind_486 (by decide) ?_
                    refine G_putL (o := 55) (c := 9) (k := 44) (ki := 44) (x := 1) d_Mo_behind_490 fl_Mo_166 rfl rfl (by decide) (by decide) (by decide) rfl rfl (tokZ (by decide)) rfl (G_pc (pc' := 493) rfl ?_)
                    have hR72 : RP M0 (mset (mset M 55 45 0) 55 44 1) N O P o a 0 1 := RP_w hR3
                    have hR72N := RP_N hR72
                    (try simp only [List.length_cons, List.length_append, List.length_nil] at hR72N)
                    have hR72O := RP_O hR72
                    (try simp only [List.length_cons, List.length_append, List.length_nil] at hR72O)
                    have hR72P := RP_P hR72
                    (try simp only [List.length_cons, List.length_append, List.length_nil] at hR72P)
                    refine G_aload (i := 0) (n := 2) (len := 1) (Or.inl ⟨0, rfl, rfl, d_Mo_behind_493⟩) rfl (by decide) (G_pc (pc' := 494) rfl ?_)
                    refine G_iload (i := 2) (n := 1) (len := 1) (Or.inl ⟨2, rfl, rfl, d_Mo_behind_494⟩) rfl (G_pc (pc' := 495) rfl ?_)
                    refine G_callS (K1 := KE) (d2 := 0) (as := [vi (tkA M0 k)]) (rest := [vr 55]) d_Mo_behind_495 mf_Mo_binds ml_Mo_220 rfl rfl (Nat.le_of_ble_eq_true rfl) (by omega) ⟨Nat.le_refl _, Nat.le_refl _⟩ (g_Mo_binds (by omega) (tkA M0 k) _) (fun r73 M74 kq75 q75 => ?_)
                    clear kq75; obtain ⟨q75a, q75b⟩ := q75; subst r73; subst M74
                    refine G_ps (pc' := 498) (st' := [vi (bdV (tkA M0 k)), vr 55]) rfl rfl ?_
                    refine G_callV (K1 := KE) (d2 := 1) (o := 55) (cl := 9) (as := [vi (bdV (tkA M0 k))]) (rest := []) d_Mo_behind_498 mf_Mo_reduce ml_Mo_251 rfl rfl (by decide) rfl rfl (Nat.le_of_ble_eq_true rfl) (by omega) ⟨Nat.le_refl _, Nat.le_refl _⟩ (g_Mo_reduce (by omega) (bdV (tkA M0 k)) M0 _ _ _ _ _ _ _ (reduceL (bdV (tkA M0 k)) N O P) _ hR72 (by omega) (by omega) (by omega) rfl) (fun r77 M78 kq79 q79 => ?_)
                    clear kq79; obtain ⟨q79a, q79b⟩ := q79; subst r77
                    obtain ⟨N_76, O_76, P_76, hF_76⟩ : ∃ N1 O1 P1, (reduceL (bdV (tkA M0 k)) N O P) = (N1, O1, P1) := ⟨_, _, _, rfl⟩
                    rw [hF_76] at q79b
                    have hI_76 := reduceL_inv hF_76 (by omega) (by omega)
                    refine G_ps (pc' := 501) (st' := []) rfl rfl ?_
                    have hR80 : RP M0 M78 N_76 O_76 P_76 o a 0 1 := q79b
                    have hR80N := RP_N hR80
                    (try simp only [List.length_cons, List.length_append, List.length_nil] at hR80N)
                    have hR80O := RP_O hR80
                    (try simp only [List.length_cons, List.length_append, List.length_nil] at hR80O)
                    have hR80P := RP_P hR80
                    (try simp only [List.length_cons, List.length_append, List.length_nil] at hR80P)
                    refine G_aload (i := 0) (n := 2) (len := 1) (Or.inl ⟨0, rfl, rfl, d_Mo_behind_501⟩) rfl (by decide) (G_pc (pc' := 502) rfl ?_)
                    refine G_iload (i := 2) (n := 1) (len := 1) (Or.inl ⟨2, rfl, rfl, d_Mo_behind_502⟩) rfl (G_pc (pc' := 503) rfl ?_)
                    refine G_iconst (n := 0) d_Mo_behind_503 (by decide) (G_pc (pc' := 504) rfl ?_)
                    refine G_callV (K1 := KE) (d2 := 0) (o := 55) (cl := 9) (as := [vi (tkA M0 k), vi 0]) (rest := []) d_Mo_behind_504 mf_Mo_hold ml_Mo_257 rfl rfl (by decide) rfl rfl (Nat.le_of_ble_eq_true rfl) (by omega) ⟨Nat.le_refl _, Nat.le_refl _⟩ (g_Mo_hold (by omega) (tkA M0 k) 0 _ (by omega)) (fun r81 M82 kq83 q83 => ?_)
                    clear kq83; obtain ⟨q83a, q83b⟩ := q83; subst r81; subst M82
                    refine G_ps (pc' := 507) (st' := []) rfl rfl ?_
                    have hR84 : RP M0 (holdM M78 (tkA M0 k) 0) N_76 O_76 ((tkA M0 k, 0) :: P_76) o a 0 1 := RP_hold hR80
                    have hR84N := RP_N hR84
                    (try simp only [List.length_cons, List.length_append, List.length_nil] at hR84N)
                    have hR84O := RP_O hR84
                    (try simp only [List.length_cons, List.length_append, List.length_nil] at hR84O)
                    have hR84P := RP_P hR84
                    (try simp only [List.length_cons, List.length_append, List.length_nil] at hR84P)
                    refine G_iload (i := 1) (n := 3) (len := 1) (Or.inl ⟨1, rfl, rfl, d_Mo_behind_507⟩) rfl (G_pc (pc' := 508) rfl ?_)
                    refine G_iconst (n := 1) d_Mo_behind_508 (by decide) (G_pc (pc' := 509) rfl ?_)
                    refine G_iadd d_Mo_behind_509 (by omega) (G_pc (pc' := 510) rfl ?_)
                    refine G_iret d_Mo_behind_510 rfl (tokI (by omega)) rfl rfl ?_
                    exact Or.inl ⟨by unfold behindS; rw [if_neg (by omega), if_neg (by omega), if_neg (by omega), if_neg (by omega), if_neg (by omega), if_neg (by omega), redS_e hF_76]; unfold binS; simp only []; first | grind | (simp; grind), hR84.1, RP_W hR84, _, rfl⟩
                  · skip
                    refine G_iload (i := 3) (n := 0) (len := 1) (Or.inl ⟨3, rfl, rfl, d_Mo_behind_472⟩) rfl (G_pc (pc' := 473) rfl ?_)
                    refine G_if_eq (tgt := 489) d_Mo_behind_473 (by decide) (fun h85 => ?_) (fun h85 => G_pc (pc' := 476) rfl ?_)
                    · skip
                      refine G_iconst (n := 0) d_Mo_behind_489 (by decide) (G_pc (pc' := 490) rfl ?_)
                      refine G_putL (o := 55) (c := 9) (k := 44) (ki := 44) (x := 0) d_Mo_behind_490 fl_Mo_166 rfl rfl (by decide) (by decide) (by decide) rfl rfl (tokZ (by decide)) rfl (G_pc (pc' := 493) rfl ?_)
                      have hR86 : RP M0 (mset (mset M 55 45 0) 55 44 0) N O P o a 0 0 := RP_w hR3
                      have hR86N := RP_N hR86
                      (try simp only [List.length_cons, List.length_append, List.length_nil] at hR86N)
                      have hR86O := RP_O hR86
                      (try simp only [List.length_cons, List.length_append, List.length_nil] at hR86O)
                      have hR86P := RP_P hR86
                      (try simp only [List.length_cons, List.length_append, List.length_nil] at hR86P)
                      refine G_aload (i := 0) (n := 2) (len := 1) (Or.inl ⟨0, rfl, rfl, d_Mo_behind_493⟩) rfl (by decide) (G_pc (pc' := 494) rfl ?_)
                      refine G_iload (i := 2) (n := 1) (len := 1) (Or.inl ⟨2, rfl, rfl, d_Mo_behind_494⟩) rfl (G_pc (pc' := 495) rfl ?_)
                      refine G_callS (K1 := KE) (d2 := 0) (as := [vi (tkA M0 k)]) (rest := [vr 55]) d_Mo_behind_495 mf_Mo_binds ml_Mo_220 rfl rfl (Nat.le_of_ble_eq_true rfl) (by omega) ⟨Nat.le_refl _, Nat.le_refl _⟩ (g_Mo_binds (by omega) (tkA M0 k) _) (fun r87 M88 kq89 q89 => ?_)
                      clear kq89; obtain ⟨q89a, q89b⟩ := q89; subst r87; subst M88
                      refine G_ps (pc' := 498) (st' := [vi (bdV (tkA M0 k)), vr 55]) rfl rfl ?_
                      refine G_callV (K1 := KE) (d2 := 1) (o := 55) (cl := 9) (as := [vi (bdV (tkA M0 k))]) (rest := []) d_Mo_behind_498 mf_Mo_reduce ml_Mo_251 rfl rfl (by decide) rfl rfl (Nat.le_of_ble_eq_true rfl) (by omega) ⟨Nat.le_refl _, Nat.le_refl _⟩ (g_Mo_reduce (by omega) (bdV (tkA M0 k)) M0 _ _ _ _ _ _ _ (reduceL (bdV (tkA M0 k)) N O P) _ hR86 (by omega) (by omega) (by omega) rfl) (fun r91 M92 kq93 q93 => ?_)
                      clear kq93; obtain ⟨q93a, q93b⟩ := q93; subst r91
                      obtain ⟨N_90, O_90, P_90, hF_90⟩ : ∃ N1 O1 P1, (reduceL (bdV (tkA M0 k)) N O P) = (N1, O1, P1) := ⟨_, _, _, rfl⟩
                      rw [hF_90] at q93b
                      have hI_90 := reduceL_inv hF_90 (by omega) (by omega)
                      refine G_ps (pc' := 501) (st' := []) rfl rfl ?_
                      have hR94 : RP M0 M92 N_90 O_90 P_90 o a 0 0 := q93b
                      have hR94N := RP_N hR94
                      (try simp only [List.length_cons, List.length_append, List.length_nil] at hR94N)
                      have hR94O := RP_O hR94
                      (try simp only [List.length_cons, List.length_append, List.length_nil] at hR94O)
                      have hR94P := RP_P hR94
                      (try simp only [List.length_cons, List.length_append, List.length_nil] at hR94P)
                      refine G_aload (i := 0) (n := 2) (len := 1) (Or.inl ⟨0, rfl, rfl, d_Mo_behind_501⟩) rfl (by decide) (G_pc (pc' := 502) rfl ?_)
                      refine G_iload (i := 2) (n := 1) (len := 1) (Or.inl ⟨2, rfl, rfl, d_Mo_behind_502⟩) rfl (G_pc (pc' := 503) rfl ?_)
                      refine G_iconst (n := 0) d_Mo_behind_503 (by decide) (G_pc (pc' := 504) rfl ?_)
                      refine G_callV (K1 := KE) (d2 := 0) (o := 55) (cl := 9) (as := [vi (tkA M0 k), vi 0]) (rest := []) d_Mo_behind_504 mf_Mo_hold ml_Mo_257 rfl rfl (by decide) rfl rfl (Nat.le_of_ble_eq_true rfl) (by omega) ⟨Nat.le_refl _, Nat.le_refl _⟩ (g_Mo_hold (by omega) (tkA M0 k) 0 _ (by omega)) (fun r95 M96 kq97 q97 => ?_)
                      clear kq97; obtain ⟨q97a, q97b⟩ := q97; subst r95; subst M96
                      refine G_ps (pc' := 507) (st' := []) rfl rfl ?_
                      have hR98 : RP M0 (holdM M92 (tkA M0 k) 0) N_90 O_90 ((tkA M0 k, 0) :: P_90) o a 0 0 := RP_hold hR94
                      have hR98N := RP_N hR98
                      (try simp only [List.length_cons, List.length_append, List.length_nil] at hR98N)
                      have hR98O := RP_O hR98
                      (try simp only [List.length_cons, List.length_append, List.length_nil] at hR98O)
                      have hR98P := RP_P hR98
                      (try simp only [List.length_cons, List.length_append, List.length_nil] at hR98P)
                      refine G_iload (i := 1) (n := 3) (len := 1) (Or.inl ⟨1, rfl, rfl, d_Mo_behind_507⟩) rfl (G_pc (pc' := 508) rfl ?_)
                      refine G_iconst (n := 1) d_Mo_behind_508 (by decide) (G_pc (pc' := 509) rfl ?_)
                      refine G_iadd d_Mo_behind_509 (by omega) (G_pc (pc' := 510) rfl ?_)
                      refine G_iret d_Mo_behind_510 rfl (tokI (by omega)) rfl rfl ?_
                      exact Or.inr ⟨_, _, _, _, _, _, _, by unfold behindS; rw [if_neg (by omega), if_neg (by omega), if_neg (by omega), if_neg (by omega), if_neg (by omega), if_neg (by omega), redS_e hF_90]; unfold binS; simp only []; first | grind | (simp; grind), rfl, hR98⟩
                    · skip
                      refine G_iload (i := 2) (n := 1) (len := 1) (Or.inl ⟨2, rfl, rfl, d_Mo_behind_476⟩) rfl (G_pc (pc' := 477) rfl ?_)
                      refine G_callS (K1 := KE) (d2 := 0) (as := [vi (tkA M0 k)]) (rest := [vr 55]) d_Mo_behind_477 mf_Mo_binds ml_Mo_220 rfl rfl (Nat.le_of_ble_eq_true rfl) (by omega) ⟨Nat.le_refl _, Nat.le_refl _⟩ (g_Mo_binds (by omega) (tkA M0 k) _) (fun r99 M100 kq101 q101 => ?_)
                      clear kq101; obtain ⟨q101a, q101b⟩ := q101; subst r99; subst M100
                      refine G_ps (pc' := 480) (st' := [vi (bdV (tkA M0 k)), vr 55]) rfl rfl ?_
                      refine G_bipush (n := 7) d_Mo_behind_480 (by decide) (G_pc (pc' := 482) rfl ?_)
                      refine G_icmp_le (tgt := 489) d_Mo_behind_482 (by decide) (fun h102 => ?_) (fun h102 => G_pc (pc' := 485) rfl ?_)
                      · skip
                        refine G_iconst (n := 0) d_Mo_behind_489 (by decide) (G_pc (pc' := 490) rfl ?_)
                        refine G_putL (o := 55) (c := 9) (k := 44) (ki := 44) (x := 0) d_Mo_behind_490 fl_Mo_166 rfl rfl (by decide) (by decide) (by decide) rfl rfl (tokZ (by decide)) rfl (G_pc (pc' := 493) rfl ?_)
                        have hR103 : RP M0 (mset (mset M 55 45 0) 55 44 0) N O P o a 0 0 := RP_w hR3
                        have hR103N := RP_N hR103
                        (try simp only [List.length_cons, List.length_append, List.length_nil] at hR103N)
                        have hR103O := RP_O hR103
                        (try simp only [List.length_cons, List.length_append, List.length_nil] at hR103O)
                        have hR103P := RP_P hR103
                        (try simp only [List.length_cons, List.length_append, List.length_nil] at hR103P)
                        refine G_aload (i := 0) (n := 2) (len := 1) (Or.inl ⟨0, rfl, rfl, d_Mo_behind_493⟩) rfl (by decide) (G_pc (pc' := 494) rfl ?_)
                        refine G_iload (i := 2) (n := 1) (len := 1) (Or.inl ⟨2, rfl, rfl, d_Mo_behind_494⟩) rfl (G_pc (pc' := 495) rfl ?_)
                        refine G_callS (K1 := KE) (d2 := 0) (as := [vi (tkA M0 k)]) (rest := [vr 55]) d_Mo_behind_495 mf_Mo_binds ml_Mo_220 rfl rfl (Nat.le_of_ble_eq_true rfl) (by omega) ⟨Nat.le_refl _, Nat.le_refl _⟩ (g_Mo_binds (by omega) (tkA M0 k) _) (fun r104 M105 kq106 q106 => ?_)
                        clear kq106; obtain ⟨q106a, q106b⟩ := q106; subst r104; subst M105
                        refine G_ps (pc' := 498) (st' := [vi (bdV (tkA M0 k)), vr 55]) rfl rfl ?_
                        refine G_callV (K1 := KE) (d2 := 1) (o := 55) (cl := 9) (as := [vi (bdV (tkA M0 k))]) (rest := []) d_Mo_behind_498 mf_Mo_reduce ml_Mo_251 rfl rfl (by decide) rfl rfl (Nat.le_of_ble_eq_true rfl) (by omega) ⟨Nat.le_refl _, Nat.le_refl _⟩ (g_Mo_reduce (by omega) (bdV (tkA M0 k)) M0 _ _ _ _ _ _ _ (reduceL (bdV (tkA M0 k)) N O P) _ hR103 (by omega) (by omega) (by omega) rfl) (fun r108 M109 kq110 q110 => ?_)
                        clear kq110; obtain ⟨q110a, q110b⟩ := q110; subst r108
                        obtain ⟨N_107, O_107, P_107, hF_107⟩ : ∃ N1 O1 P1, (reduceL (bdV (tkA M0 k)) N O P) = (N1, O1, P1) := ⟨_, _, _, rfl⟩
                        rw [hF_107] at q110b
                        have hI_107 := reduceL_inv hF_107 (by omega) (by omega)
                        refine G_ps (pc' := 501) (st' := []) rfl rfl ?_
                        have hR111 : RP M0 M109 N_107 O_107 P_107 o a 0 0 := q110b
                        have hR111N := RP_N hR111
                        (try simp only [List.length_cons, List.length_append, List.length_nil] at hR111N)
                        have hR111O := RP_O hR111
                        (try simp only [List.length_cons, List.length_append, List.length_nil] at hR111O)
                        have hR111P := RP_P hR111
                        (try simp only [List.length_cons, List.length_append, List.length_nil] at hR111P)
                        refine G_aload (i := 0) (n := 2) (len := 1) (Or.inl ⟨0, rfl, rfl, d_Mo_behind_501⟩) rfl (by decide) (G_pc (pc' := 502) rfl ?_)
                        refine G_iload (i := 2) (n := 1) (len := 1) (Or.inl ⟨2, rfl, rfl, d_Mo_behind_502⟩) rfl (G_pc (pc' := 503) rfl ?_)
                        refine G_iconst (n := 0) d_Mo_behind_503 (by decide) (G_pc (pc' := 504) rfl ?_)
                        refine G_callV (K1 := KE) (d2 := 0) (o := 55) (cl := 9) (as := [vi (tkA M0 k), vi 0]) (rest := []) d_Mo_behind_504 mf_Mo_hold ml_Mo_257 rfl rfl (by decide) rfl rfl (Nat.le_of_ble_eq_true rfl) (by omega) ⟨Nat.le_refl _, Nat.le_refl _⟩ (g_Mo_hold (by omega) (tkA M0 k) 0 _ (by omega)) (fun r112 M113 kq114 q114 => ?_)
                        clear kq114; obtain ⟨q114a, q114b⟩ := q114; subst r112; subst M113
                        refine G_ps (pc' := 507) (st' := []) rfl rfl ?_
                        have hR115 : RP M0 (holdM M109 (tkA M0 k) 0) N_107 O_107 ((tkA M0 k, 0) :: P_107) o a 0 0 := RP_hold hR111
                        have hR115N := RP_N hR115
                        (try simp only [List.length_cons, List.length_append, List.length_nil] at hR115N)
                        have hR115O := RP_O hR115
                        (try simp only [List.length_cons, List.length_append, List.length_nil] at hR115O)
                        have hR115P := RP_P hR115
                        (try simp only [List.length_cons, List.length_append, List.length_nil] at hR115P)
                        refine G_iload (i := 1) (n := 3) (len := 1) (Or.inl ⟨1, rfl, rfl, d_Mo_behind_507⟩) rfl (G_pc (pc' := 508) rfl ?_)
                        refine G_iconst (n := 1) d_Mo_behind_508 (by decide) (G_pc (pc' := 509) rfl ?_)
                        refine G_iadd d_Mo_behind_509 (by omega) (G_pc (pc' := 510) rfl ?_)
                        refine G_iret d_Mo_behind_510 rfl (tokI (by omega)) rfl rfl ?_
                        exact Or.inr ⟨_, _, _, _, _, _, _, by unfold behindS; rw [if_neg (by omega), if_neg (by omega), if_neg (by omega), if_neg (by omega), if_neg (by omega), if_neg (by omega), redS_e hF_107]; unfold binS; simp only []; first | grind | (simp; grind), rfl, hR115⟩
                      · skip
                        refine G_iconst (n := 1) d_Mo_behind_485 (by decide) (G_pc (pc' := 486) rfl ?_)
                        refine G_goto (tgt := 490) d_Mo_behind_486 (by decide) ?_
                        refine G_putL (o := 55) (c := 9) (k := 44) (ki := 44) (x := 1) d_Mo_behind_490 fl_Mo_166 rfl rfl (by decide) (by decide) (by decide) rfl rfl (tokZ (by decide)) rfl (G_pc (pc' := 493) rfl ?_)
                        have hR116 : RP M0 (mset (mset M 55 45 0) 55 44 1) N O P o a 0 1 := RP_w hR3
                        have hR116N := RP_N hR116
                        (try simp only [List.length_cons, List.length_append, List.length_nil] at hR116N)
                        have hR116O := RP_O hR116
                        (try simp only [List.length_cons, List.length_append, List.length_nil] at hR116O)
                        have hR116P := RP_P hR116
                        (try simp only [List.length_cons, List.length_append, List.length_nil] at hR116P)
                        refine G_aload (i := 0) (n := 2) (len := 1) (Or.inl ⟨0, rfl, rfl, d_Mo_behind_493⟩) rfl (by decide) (G_pc (pc' := 494) rfl ?_)
                        refine G_iload (i := 2) (n := 1) (len := 1) (Or.inl ⟨2, rfl, rfl, d_Mo_behind_494⟩) rfl (G_pc (pc' := 495) rfl ?_)
                        refine G_callS (K1 := KE) (d2 := 0) (as := [vi (tkA M0 k)]) (rest := [vr 55]) d_Mo_behind_495 mf_Mo_binds ml_Mo_220 rfl rfl (Nat.le_of_ble_eq_true rfl) (by omega) ⟨Nat.le_refl _, Nat.le_refl _⟩ (g_Mo_binds (by omega) (tkA M0 k) _) (fun r117 M118 kq119 q119 => ?_)
                        clear kq119; obtain ⟨q119a, q119b⟩ := q119; subst r117; subst M118
                        refine G_ps (pc' := 498) (st' := [vi (bdV (tkA M0 k)), vr 55]) rfl rfl ?_
                        refine G_callV (K1 := KE) (d2 := 1) (o := 55) (cl := 9) (as := [vi (bdV (tkA M0 k))]) (rest := []) d_Mo_behind_498 mf_Mo_reduce ml_Mo_251 rfl rfl (by decide) rfl rfl (Nat.le_of_ble_eq_true rfl) (by omega) ⟨Nat.le_refl _, Nat.le_refl _⟩ (g_Mo_reduce (by omega) (bdV (tkA M0 k)) M0 _ _ _ _ _ _ _ (reduceL (bdV (tkA M0 k)) N O P) _ hR116 (by omega) (by omega) (by omega) rfl) (fun r121 M122 kq123 q123 => ?_)
                        clear kq123; obtain ⟨q123a, q123b⟩ := q123; subst r121
                        obtain ⟨N_120, O_120, P_120, hF_120⟩ : ∃ N1 O1 P1, (reduceL (bdV (tkA M0 k)) N O P) = (N1, O1, P1) := ⟨_, _, _, rfl⟩
                        rw [hF_120] at q123b
                        have hI_120 := reduceL_inv hF_120 (by omega) (by omega)
                        refine G_ps (pc' := 501) (st' := []) rfl rfl ?_
                        have hR124 : RP M0 M122 N_120 O_120 P_120 o a 0 1 := q123b
                        have hR124N := RP_N hR124
                        (try simp only [List.length_cons, List.length_append, List.length_nil] at hR124N)
                        have hR124O := RP_O hR124
                        (try simp only [List.length_cons, List.length_append, List.length_nil] at hR124O)
                        have hR124P := RP_P hR124
                        (try simp only [List.length_cons, List.length_append, List.length_nil] at hR124P)
                        refine G_aload (i := 0) (n := 2) (len := 1) (Or.inl ⟨0, rfl, rfl, d_Mo_behind_501⟩) rfl (by decide) (G_pc (pc' := 502) rfl ?_)
                        refine G_iload (i := 2) (n := 1) (len := 1) (Or.inl ⟨2, rfl, rfl, d_Mo_behind_502⟩) rfl (G_pc (pc' := 503) rfl ?_)
                        refine G_iconst (n := 0) d_Mo_behind_503 (by decide) (G_pc (pc' := 504) rfl ?_)
                        refine G_callV (K1 := KE) (d2 := 0) (o := 55) (cl := 9) (as := [vi (tkA M0 k), vi 0]) (rest := []) d_Mo_behind_504 mf_Mo_hold ml_Mo_257 rfl rfl (by decide) rfl rfl (Nat.le_of_ble_eq_true rfl) (by omega) ⟨Nat.le_refl _, Nat.le_refl _⟩ (g_Mo_hold (by omega) (tkA M0 k) 0 _ (by omega)) (fun r125 M126 kq127 q127 => ?_)
                        clear kq127; obtain ⟨q127a, q127b⟩ := q127; subst r125; subst M126
                        refine G_ps (pc' := 507) (st' := []) rfl rfl ?_
                        have hR128 : RP M0 (holdM M122 (tkA M0 k) 0) N_120 O_120 ((tkA M0 k, 0) :: P_120) o a 0 1 := RP_hold hR124
                        have hR128N := RP_N hR128
                        (try simp only [List.length_cons, List.length_append, List.length_nil] at hR128N)
                        have hR128O := RP_O hR128
                        (try simp only [List.length_cons, List.length_append, List.length_nil] at hR128O)
                        have hR128P := RP_P hR128
                        (try simp only [List.length_cons, List.length_append, List.length_nil] at hR128P)
                        refine G_iload (i := 1) (n := 3) (len := 1) (Or.inl ⟨1, rfl, rfl, d_Mo_behind_507⟩) rfl (G_pc (pc' := 508) rfl ?_)
                        refine G_iconst (n := 1) d_Mo_behind_508 (by decide) (G_pc (pc' := 509) rfl ?_)
                        refine G_iadd d_Mo_behind_509 (by omega) (G_pc (pc' := 510) rfl ?_)
                        refine G_iret d_Mo_behind_510 rfl (tokI (by omega)) rfl rfl ?_
                        exact Or.inl ⟨by unfold behindS; rw [if_neg (by omega), if_neg (by omega), if_neg (by omega), if_neg (by omega), if_neg (by omega), if_neg (by omega), redS_e hF_120]; unfold binS; simp only []; first | grind | (simp; grind), hR128.1, RP_W hR128, _, rfl⟩
                · skip
                  refine G_aload (i := 0) (n := 2) (len := 1) (Or.inl ⟨0, rfl, rfl, d_Mo_behind_394⟩) rfl (by decide) (G_pc (pc' := 395) rfl ?_)
                  refine G_bipush (n := 7) d_Mo_behind_395 (by decide) (G_pc (pc' := 397) rfl ?_)
                  refine G_callV (K1 := KE) (d2 := 1) (o := 55) (cl := 9) (as := [vi 7]) (rest := []) d_Mo_behind_397 mf_Mo_reduce ml_Mo_251 rfl rfl (by decide) rfl rfl (Nat.le_of_ble_eq_true rfl) (by omega) ⟨Nat.le_refl _, Nat.le_refl _⟩ (g_Mo_reduce (by omega) 7 M0 _ _ _ _ _ _ _ (reduceL 7 N O P) _ hR3 (by omega) (by omega) (by omega) rfl) (fun r130 M131 kq132 q132 => ?_)
                  clear kq132; obtain ⟨q132a, q132b⟩ := q132; subst r130
                  obtain ⟨N_129, O_129, P_129, hF_129⟩ : ∃ N1 O1 P1, (reduceL 7 N O P) = (N1, O1, P1) := ⟨_, _, _, rfl⟩
                  rw [hF_129] at q132b
                  have hI_129 := reduceL_inv hF_129 (by omega) (by omega)
                  refine G_ps (pc' := 400) (st' := []) rfl rfl ?_
                  have hR133 : RP M0 M131 N_129 O_129 P_129 o a 0 0 := q132b
                  have hR133N := RP_N hR133
                  (try simp only [List.length_cons, List.length_append, List.length_nil] at hR133N)
                  have hR133O := RP_O hR133
                  (try simp only [List.length_cons, List.length_append, List.length_nil] at hR133O)
                  have hR133P := RP_P hR133
                  (try simp only [List.length_cons, List.length_append, List.length_nil] at hR133P)
                  refine G_aload (i := 0) (n := 2) (len := 1) (Or.inl ⟨0, rfl, rfl, d_Mo_behind_400⟩) rfl (by decide) (G_pc (pc' := 401) rfl ?_)
                  refine G_aload (i := 0) (n := 2) (len := 1) (Or.inl ⟨0, rfl, rfl, d_Mo_behind_401⟩) rfl (by decide) (G_pc (pc' := 402) rfl ?_)
                  refine G_iload (i := 1) (n := 3) (len := 1) (Or.inl ⟨1, rfl, rfl, d_Mo_behind_402⟩) rfl (G_pc (pc' := 403) rfl ?_)
                  refine G_iconst (n := 1) d_Mo_behind_403 (by decide) (G_pc (pc' := 404) rfl ?_)
                  refine G_iadd d_Mo_behind_404 (by omega) (G_pc (pc' := 405) rfl ?_)
                  refine G_callV (K1 := KE) (d2 := 0) (o := 55) (cl := 9) (as := [vi (k + 1)]) (rest := [vr 55]) d_Mo_behind_405 mf_Mo_tokenAt ml_Mo_254 rfl rfl (by decide) rfl rfl (Nat.le_of_ble_eq_true rfl) (by omega) ⟨Nat.le_refl _, Nat.le_refl _⟩ (g_Mo_tokenAt (by omega) (k + 1) _ (by omega) (by rw [RP_n hR133]; omega)) (fun r134 M135 kq136 q136 => ?_)
                  clear kq136; obtain ⟨q136a, q136b⟩ := q136; subst r134; subst M135
                  refine G_ps (pc' := 408) (st' := [vi (tkA M131 (k + 1)), vr 55]) rfl rfl ?_
                  rw [show tkA M131 (k + 1) = tkA M0 (k + 1) from RP_tk hR133 _]
                  refine G_bipush (n := 8) d_Mo_behind_408 (by decide) (G_pc (pc' := 410) rfl ?_)
                  refine G_icmp_eq (tgt := 417) d_Mo_behind_410 (by decide) (fun h137 => ?_) (fun h137 => G_pc (pc' := 413) rfl ?_)
                  · skip
                    refine G_iconst (n := 0) d_Mo_behind_417 (by decide) (G_pc (pc' := 418) rfl ?_)
                    refine G_putL (o := 55) (c := 9) (k := 44) (ki := 44) (x := 0) d_Mo_behind_418 fl_Mo_166 rfl rfl (by decide) (by decide) (by decide) rfl rfl (tokZ (by decide)) rfl (G_pc (pc' := 421) rfl ?_)
                    have hR138 : RP M0 (mset M131 55 44 0) N_129 O_129 P_129 o a 0 0 := RP_w hR133
                    have hR138N := RP_N hR138
                    (try simp only [List.length_cons, List.length_append, List.length_nil] at hR138N)
                    have hR138O := RP_O hR138
                    (try simp only [List.length_cons, List.length_append, List.length_nil] at hR138O)
                    have hR138P := RP_P hR138
                    (try simp only [List.length_cons, List.length_append, List.length_nil] at hR138P)
                    obtain ⟨x1, Y, rfl⟩ := cons1 (O := O_129) (by omega)
                    simp only [List.length_cons] at *
                    refine G_aload (i := 0) (n := 2) (len := 1) (Or.inl ⟨0, rfl, rfl, d_Mo_behind_421⟩) rfl (by decide) (G_pc (pc' := 422) rfl ?_)
                    refine G_callV (K1 := KE) (d2 := 0) (o := 55) (cl := 9) (as := []) (rest := []) d_Mo_behind_422 mf_Mo_pop ml_Mo_223 rfl rfl (by decide) rfl rfl (Nat.le_of_ble_eq_true rfl) (by omega) ⟨Nat.le_refl _, Nat.le_refl _⟩ (g_Mo_pop (by omega)  _ (by omega)) (fun r139 M140 kq141 q141 => ?_)
                    clear kq141; obtain ⟨q141a, q141b⟩ := q141; subst r139; subst M140
                    refine G_ps (pc' := 425) (st' := [vi ((mset M131 55 44 0) 84 ((mset M131 55 44 0) 55 37 - 1))]) rfl rfl ?_
                    rw [show (mset M131 55 44 0) 84 ((mset M131 55 44 0) 55 37 - 1) = x1 from (RP_pop hR138).1]
                    have hR142 : RP M0 (popM (mset M131 55 44 0)) N_129 Y P_129 o a 0 0 := (RP_pop hR138).2
                    have hR142N := RP_N hR142
                    (try simp only [List.length_cons, List.length_append, List.length_nil] at hR142N)
                    have hR142O := RP_O hR142
                    (try simp only [List.length_cons, List.length_append, List.length_nil] at hR142O)
                    have hR142P := RP_P hR142
                    (try simp only [List.length_cons, List.length_append, List.length_nil] at hR142P)
                    refine G_istore (i := 4) (len := 2) (ls' := [(4, vi x1), (3, vi cl), (2, vi (tkA M0 k)), (0, vr 55), (1, vi k)]) (Or.inr ⟨rfl, d_Mo_behind_425⟩) (by decide) rfl (G_pc (pc' := 427) rfl ?_)
                    refine G_aload (i := 0) (n := 3) (len := 1) (Or.inl ⟨0, rfl, rfl, d_Mo_behind_427⟩) rfl (by decide) (G_pc (pc' := 428) rfl ?_)
                    refine G_aload (i := 0) (n := 3) (len := 1) (Or.inl ⟨0, rfl, rfl, d_Mo_behind_428⟩) rfl (by decide) (G_pc (pc' := 429) rfl ?_)
                    refine G_bipush (n := 63) d_Mo_behind_429 (by decide) (G_pc (pc' := 431) rfl ?_)
                    refine G_iload (i := 4) (n := 0) (len := 2) (Or.inr ⟨rfl, d_Mo_behind_431⟩) rfl (G_pc (pc' := 433) rfl ?_)
                    refine G_iconst (n := (-1)) d_Mo_behind_433 (by decide) (G_pc (pc' := 434) rfl ?_)
                    refine G_iconst (n := (-1)) d_Mo_behind_434 (by decide) (G_pc (pc' := 435) rfl ?_)
                    refine G_aload (i := 0) (n := 3) (len := 1) (Or.inl ⟨0, rfl, rfl, d_Mo_behind_435⟩) rfl (by decide) (G_pc (pc' := 436) rfl ?_)
                    refine G_get (o := 55) (c := 9) (k := 44) (v := (popM (mset M131 55 44 0)) 55 44) d_Mo_behind_436 fl_Mo_166 rfl (by decide) (by decide) rfl rfl (G_pc (pc' := 439) rfl ?_)
                    rw [show (popM (mset M131 55 44 0)) 55 44 = 0 from (show (popM (mset M131 55 44 0)) 55 44 = 0 from RP_W hR142)]
                    refine G_if_eq (tgt := 446) d_Mo_behind_439 (by decide) (fun h143 => ?_) (fun h143 => absurd h143 (by decide))
                    refine G_aload (i := 0) (n := 3) (len := 1) (Or.inl ⟨0, rfl, rfl, d_Mo_behind_446⟩) rfl (by decide) (G_pc (pc' := 447) rfl ?_)
                    refine G_get (o := 55) (c := 9) (k := 27) (v := 75) d_Mo_behind_447 fl_Mo_69 rfl (by decide) (by decide) rfl rfl (G_pc (pc' := 450) rfl ?_)
                    refine G_iload (i := 1) (n := 4) (len := 1) (Or.inl ⟨1, rfl, rfl, d_Mo_behind_450⟩) rfl (G_pc (pc' := 451) rfl ?_)
                    refine G_iconst (n := 1) d_Mo_behind_451 (by decide) (G_pc (pc' := 452) rfl ?_)
                    refine G_iadd d_Mo_behind_452 (by omega) (G_pc (pc' := 453) rfl ?_)
                    refine G_laload (o := 75) (n := 25) (i := k + 1) (v := (popM (mset M131 55 44 0)) 75 (k + 1)) d_Mo_behind_453 rfl ⟨by decide, by decide⟩ (by omega) (rd_arr rfl) (fun t144 => G_pc (pc' := 454) rfl ?_)
                    have t144 := tok_l t144
                    rw [show (popM (mset M131 55 44 0)) 75 (k + 1) = M0 75 (k + 1) from RP_v hR142]
                    refine G_callV (K1 := KE) (d2 := 0) (o := 55) (cl := 9) (as := [vi 63, vi x1, vi (-1), vi (-1), vl (M0 75 (k + 1))]) (rest := [vr 55]) d_Mo_behind_454 mf_Mo_node ml_Mo_226 rfl rfl (by decide) rfl rfl (Nat.le_of_ble_eq_true rfl) (by omega) ⟨Nat.le_refl _, Nat.le_refl _⟩ (g_Mo_node (by omega) 63 x1 (-1) (-1) (M0 75 (k + 1)) _ (by omega)) (fun r145 M146 kq147 q147 => ?_)
                    clear kq147; obtain ⟨q147a, q147b⟩ := q147; subst r145; subst M146
                    refine G_ps (pc' := 457) (st' := [vi ((popM (mset M131 55 44 0)) 55 28), vr 55]) rfl rfl ?_
                    rw [show (popM (mset M131 55 44 0)) 55 28 = ((N_129).length : Int) from RP_N hR142]
                    have hR148 : RP M0 (nodeM (popM (mset M131 55 44 0)) 63 x1 (-1) (-1) (M0 75 (k + 1))) (N_129 ++ [(63, x1, (-1), (-1), M0 75 (k + 1))]) Y P_129 o a 0 0 := RP_node hR142
                    have hR148N := RP_N hR148
                    (try simp only [List.length_cons, List.length_append, List.length_nil] at hR148N)
                    have hR148O := RP_O hR148
                    (try simp only [List.length_cons, List.length_append, List.length_nil] at hR148O)
                    have hR148P := RP_P hR148
                    (try simp only [List.length_cons, List.length_append, List.length_nil] at hR148P)
                    refine G_callV (K1 := KE) (d2 := 0) (o := 55) (cl := 9) (as := [vi ((N_129).length : Int)]) (rest := []) d_Mo_behind_457 mf_Mo_push ml_Mo_230 rfl rfl (by decide) rfl rfl (Nat.le_of_ble_eq_true rfl) (by omega) ⟨Nat.le_refl _, Nat.le_refl _⟩ (g_Mo_push (by omega) ((N_129).length : Int) _ (by omega)) (fun r149 M150 kq151 q151 => ?_)
                    clear kq151; obtain ⟨q151a, q151b⟩ := q151; subst r149; subst M150
                    refine G_ps (pc' := 460) (st' := []) rfl rfl ?_
                    have hR152 : RP M0 (pushM (nodeM (popM (mset M131 55 44 0)) 63 x1 (-1) (-1) (M0 75 (k + 1))) ((N_129).length : Int)) (N_129 ++ [(63, x1, (-1), (-1), M0 75 (k + 1))]) ((((N_129).length : Int)) :: Y) P_129 o a 0 0 := RP_push hR148
                    have hR152N := RP_N hR152
                    (try simp only [List.length_cons, List.length_append, List.length_nil] at hR152N)
                    have hR152O := RP_O hR152
                    (try simp only [List.length_cons, List.length_append, List.length_nil] at hR152O)
                    have hR152P := RP_P hR152
                    (try simp only [List.length_cons, List.length_append, List.length_nil] at hR152P)
                    refine G_iload (i := 1) (n := 4) (len := 1) (Or.inl ⟨1, rfl, rfl, d_Mo_behind_460⟩) rfl (G_pc (pc' := 461) rfl ?_)
                    refine G_iconst (n := 2) d_Mo_behind_461 (by decide) (G_pc (pc' := 462) rfl ?_)
                    refine G_iadd d_Mo_behind_462 (by omega) (G_pc (pc' := 463) rfl ?_)
                    refine G_iret d_Mo_behind_463 rfl (tokI (by omega)) rfl rfl ?_
                    exact Or.inr ⟨_, _, _, _, _, _, _, by unfold behindS; rw [if_neg (by omega), if_neg (by omega), if_neg (by omega), if_neg (by omega), if_neg (by omega), if_pos (by omega), redS_e hF_129]; unfold ofS; simp only []; first | grind | (simp; grind), rfl, hR152⟩
                  · skip
                    refine G_iconst (n := 1) d_Mo_behind_413 (by decide) (G_pc (pc' := 414) rfl ?_)
                    refine G_goto (tgt := 418) d_Mo_behind_414 (by decide) ?_
                    refine G_putL (o := 55) (c := 9) (k := 44) (ki := 44) (x := 1) d_Mo_behind_418 fl_Mo_166 rfl rfl (by decide) (by decide) (by decide) rfl rfl (tokZ (by decide)) rfl (G_pc (pc' := 421) rfl ?_)
                    have hR153 : RP M0 (mset M131 55 44 1) N_129 O_129 P_129 o a 0 1 := RP_w hR133
                    have hR153N := RP_N hR153
                    (try simp only [List.length_cons, List.length_append, List.length_nil] at hR153N)
                    have hR153O := RP_O hR153
                    (try simp only [List.length_cons, List.length_append, List.length_nil] at hR153O)
                    have hR153P := RP_P hR153
                    (try simp only [List.length_cons, List.length_append, List.length_nil] at hR153P)
                    obtain ⟨x1, Y, rfl⟩ := cons1 (O := O_129) (by omega)
                    simp only [List.length_cons] at *
                    refine G_aload (i := 0) (n := 2) (len := 1) (Or.inl ⟨0, rfl, rfl, d_Mo_behind_421⟩) rfl (by decide) (G_pc (pc' := 422) rfl ?_)
                    refine G_callV (K1 := KE) (d2 := 0) (o := 55) (cl := 9) (as := []) (rest := []) d_Mo_behind_422 mf_Mo_pop ml_Mo_223 rfl rfl (by decide) rfl rfl (Nat.le_of_ble_eq_true rfl) (by omega) ⟨Nat.le_refl _, Nat.le_refl _⟩ (g_Mo_pop (by omega)  _ (by omega)) (fun r154 M155 kq156 q156 => ?_)
                    clear kq156; obtain ⟨q156a, q156b⟩ := q156; subst r154; subst M155
                    refine G_ps (pc' := 425) (st' := [vi ((mset M131 55 44 1) 84 ((mset M131 55 44 1) 55 37 - 1))]) rfl rfl ?_
                    rw [show (mset M131 55 44 1) 84 ((mset M131 55 44 1) 55 37 - 1) = x1 from (RP_pop hR153).1]
                    have hR157 : RP M0 (popM (mset M131 55 44 1)) N_129 Y P_129 o a 0 1 := (RP_pop hR153).2
                    have hR157N := RP_N hR157
                    (try simp only [List.length_cons, List.length_append, List.length_nil] at hR157N)
                    have hR157O := RP_O hR157
                    (try simp only [List.length_cons, List.length_append, List.length_nil] at hR157O)
                    have hR157P := RP_P hR157
                    (try simp only [List.length_cons, List.length_append, List.length_nil] at hR157P)
                    refine G_istore (i := 4) (len := 2) (ls' := [(4, vi x1), (3, vi cl), (2, vi (tkA M0 k)), (0, vr 55), (1, vi k)]) (Or.inr ⟨rfl, d_Mo_behind_425⟩) (by decide) rfl (G_pc (pc' := 427) rfl ?_)
                    refine G_aload (i := 0) (n := 3) (len := 1) (Or.inl ⟨0, rfl, rfl, d_Mo_behind_427⟩) rfl (by decide) (G_pc (pc' := 428) rfl ?_)
                    refine G_aload (i := 0) (n := 3) (len := 1) (Or.inl ⟨0, rfl, rfl, d_Mo_behind_428⟩) rfl (by decide) (G_pc (pc' := 429) rfl ?_)
                    refine G_bipush (n := 63) d_Mo_behind_429 (by decide) (G_pc (pc' := 431) rfl ?_)
                    refine G_iload (i := 4) (n := 0) (len := 2) (Or.inr ⟨rfl, d_Mo_behind_431⟩) rfl (G_pc (pc' := 433) rfl ?_)
                    refine G_iconst (n := (-1)) d_Mo_behind_433 (by decide) (G_pc (pc' := 434) rfl ?_)
                    refine G_iconst (n := (-1)) d_Mo_behind_434 (by decide) (G_pc (pc' := 435) rfl ?_)
                    refine G_aload (i := 0) (n := 3) (len := 1) (Or.inl ⟨0, rfl, rfl, d_Mo_behind_435⟩) rfl (by decide) (G_pc (pc' := 436) rfl ?_)
                    refine G_get (o := 55) (c := 9) (k := 44) (v := (popM (mset M131 55 44 1)) 55 44) d_Mo_behind_436 fl_Mo_166 rfl (by decide) (by decide) rfl rfl (G_pc (pc' := 439) rfl ?_)
                    rw [show (popM (mset M131 55 44 1)) 55 44 = 1 from (show (popM (mset M131 55 44 1)) 55 44 = 1 from RP_W hR157)]
                    refine G_if_eq (tgt := 446) d_Mo_behind_439 (by decide) (fun h158 => absurd h158 (by decide)) (fun h158 => G_pc (pc' := 442) rfl ?_)
                    refine G_lconst0 d_Mo_behind_442 (G_pc (pc' := 443) rfl ?_)
                    refine G_goto (tgt := 454) d_Mo_behind_443 (by decide) ?_
                    refine G_callV (K1 := KE) (d2 := 0) (o := 55) (cl := 9) (as := [vi 63, vi x1, vi (-1), vi (-1), vl 0]) (rest := [vr 55]) d_Mo_behind_454 mf_Mo_node ml_Mo_226 rfl rfl (by decide) rfl rfl (Nat.le_of_ble_eq_true rfl) (by omega) ⟨Nat.le_refl _, Nat.le_refl _⟩ (g_Mo_node (by omega) 63 x1 (-1) (-1) 0 _ (by omega)) (fun r159 M160 kq161 q161 => ?_)
                    clear kq161; obtain ⟨q161a, q161b⟩ := q161; subst r159; subst M160
                    refine G_ps (pc' := 457) (st' := [vi ((popM (mset M131 55 44 1)) 55 28), vr 55]) rfl rfl ?_
                    rw [show (popM (mset M131 55 44 1)) 55 28 = ((N_129).length : Int) from RP_N hR157]
                    have hR162 : RP M0 (nodeM (popM (mset M131 55 44 1)) 63 x1 (-1) (-1) 0) (N_129 ++ [(63, x1, (-1), (-1), 0)]) Y P_129 o a 0 1 := RP_node hR157
                    have hR162N := RP_N hR162
                    (try simp only [List.length_cons, List.length_append, List.length_nil] at hR162N)
                    have hR162O := RP_O hR162
                    (try simp only [List.length_cons, List.length_append, List.length_nil] at hR162O)
                    have hR162P := RP_P hR162
                    (try simp only [List.length_cons, List.length_append, List.length_nil] at hR162P)
                    refine G_callV (K1 := KE) (d2 := 0) (o := 55) (cl := 9) (as := [vi ((N_129).length : Int)]) (rest := []) d_Mo_behind_457 mf_Mo_push ml_Mo_230 rfl rfl (by decide) rfl rfl (Nat.le_of_ble_eq_true rfl) (by omega) ⟨Nat.le_refl _, Nat.le_refl _⟩ (g_Mo_push (by omega) ((N_129).length : Int) _ (by omega)) (fun r163 M164 kq165 q165 => ?_)
                    clear kq165; obtain ⟨q165a, q165b⟩ := q165; subst r163; subst M164
                    refine G_ps (pc' := 460) (st' := []) rfl rfl ?_
                    have hR166 : RP M0 (pushM (nodeM (popM (mset M131 55 44 1)) 63 x1 (-1) (-1) 0) ((N_129).length : Int)) (N_129 ++ [(63, x1, (-1), (-1), 0)]) ((((N_129).length : Int)) :: Y) P_129 o a 0 1 := RP_push hR162
                    have hR166N := RP_N hR166
                    (try simp only [List.length_cons, List.length_append, List.length_nil] at hR166N)
                    have hR166O := RP_O hR166
                    (try simp only [List.length_cons, List.length_append, List.length_nil] at hR166O)
                    have hR166P := RP_P hR166
                    (try simp only [List.length_cons, List.length_append, List.length_nil] at hR166P)
                    refine G_iload (i := 1) (n := 4) (len := 1) (Or.inl ⟨1, rfl, rfl, d_Mo_behind_460⟩) rfl (G_pc (pc' := 461) rfl ?_)
                    refine G_iconst (n := 2) d_Mo_behind_461 (by decide) (G_pc (pc' := 462) rfl ?_)
                    refine G_iadd d_Mo_behind_462 (by omega) (G_pc (pc' := 463) rfl ?_)
                    refine G_iret d_Mo_behind_463 rfl (tokI (by omega)) rfl rfl ?_
                    exact Or.inl ⟨by unfold behindS; rw [if_neg (by omega), if_neg (by omega), if_neg (by omega), if_neg (by omega), if_neg (by omega), if_pos (by omega), redS_e hF_129]; unfold ofS; simp only []; first | grind | (simp; grind), hR166.1, RP_W hR166, _, rfl⟩
              · skip
                refine G_aload (i := 0) (n := 2) (len := 1) (Or.inl ⟨0, rfl, rfl, d_Mo_behind_341⟩) rfl (by decide) (G_pc (pc' := 342) rfl ?_)
                refine G_iconst (n := 0) d_Mo_behind_342 (by decide) (G_pc (pc' := 343) rfl ?_)
                refine G_callV (K1 := KE) (d2 := 1) (o := 55) (cl := 9) (as := [vi 0]) (rest := []) d_Mo_behind_343 mf_Mo_reduce ml_Mo_251 rfl rfl (by decide) rfl rfl (Nat.le_of_ble_eq_true rfl) (by omega) ⟨Nat.le_refl _, Nat.le_refl _⟩ (g_Mo_reduce (by omega) 0 M0 _ _ _ _ _ _ _ (reduceL 0 N O P) _ hR3 (by omega) (by omega) (by omega) rfl) (fun r168 M169 kq170 q170 => ?_)
                clear kq170; obtain ⟨q170a, q170b⟩ := q170; subst r168
                obtain ⟨N_167, O_167, P_167, hF_167⟩ : ∃ N1 O1 P1, (reduceL 0 N O P) = (N1, O1, P1) := ⟨_, _, _, rfl⟩
                rw [hF_167] at q170b
                have hI_167 := reduceL_inv hF_167 (by omega) (by omega)
                refine G_ps (pc' := 346) (st' := []) rfl rfl ?_
                have hR171 : RP M0 M169 N_167 O_167 P_167 o a 0 0 := q170b
                have hR171N := RP_N hR171
                (try simp only [List.length_cons, List.length_append, List.length_nil] at hR171N)
                have hR171O := RP_O hR171
                (try simp only [List.length_cons, List.length_append, List.length_nil] at hR171O)
                have hR171P := RP_P hR171
                (try simp only [List.length_cons, List.length_append, List.length_nil] at hR171P)
                refine G_aload (i := 0) (n := 2) (len := 1) (Or.inl ⟨0, rfl, rfl, d_Mo_behind_346⟩) rfl (by decide) (G_pc (pc' := 347) rfl ?_)
                refine G_aload (i := 0) (n := 2) (len := 1) (Or.inl ⟨0, rfl, rfl, d_Mo_behind_347⟩) rfl (by decide) (G_pc (pc' := 348) rfl ?_)
                refine G_callV (K1 := KE) (d2 := 0) (o := 55) (cl := 9) (as := []) (rest := [vr 55]) d_Mo_behind_348 mf_Mo_top ml_Mo_216 rfl rfl (by decide) rfl rfl (Nat.le_of_ble_eq_true rfl) (by omega) ⟨Nat.le_refl _, Nat.le_refl _⟩ (g_Mo_top (by omega)  _ (by omega)) (fun r172 M173 kq174 q174 => ?_)
                clear kq174; obtain ⟨q174a, q174b⟩ := q174; subst r172; subst M173
                refine G_ps (pc' := 351) (st' := [vi (topM M169), vr 55]) rfl rfl ?_
                rw [show topM M169 = topP P_167 from RP_top hR171]
                refine G_bipush (n := 25) d_Mo_behind_351 (by decide) (G_pc (pc' := 353) rfl ?_)
                refine G_icmp_eq (tgt := 360) d_Mo_behind_353 (by decide) (fun h175 => ?_) (fun h175 => G_pc (pc' := 356) rfl ?_)
                · skip
                  refine G_iconst (n := 0) d_Mo_behind_360 (by decide) (G_pc (pc' := 361) rfl ?_)
                  refine G_putL (o := 55) (c := 9) (k := 44) (ki := 44) (x := 0) d_Mo_behind_361 fl_Mo_166 rfl rfl (by decide) (by decide) (by decide) rfl rfl (tokZ (by decide)) rfl (G_pc (pc' := 364) rfl ?_)
                  have hR176 : RP M0 (mset M169 55 44 0) N_167 O_167 P_167 o a 0 0 := RP_w hR171
                  have hR176N := RP_N hR176
                  (try simp only [List.length_cons, List.length_append, List.length_nil] at hR176N)
                  have hR176O := RP_O hR176
                  (try simp only [List.length_cons, List.length_append, List.length_nil] at hR176O)
                  have hR176P := RP_P hR176
                  (try simp only [List.length_cons, List.length_append, List.length_nil] at hR176P)
                  refine G_aload (i := 0) (n := 2) (len := 1) (Or.inl ⟨0, rfl, rfl, d_Mo_behind_364⟩) rfl (by decide) (G_pc (pc' := 365) rfl ?_)
                  refine G_get (o := 55) (c := 9) (k := 44) (v := 0) d_Mo_behind_365 fl_Mo_166 rfl (by decide) (by decide) rfl rfl (G_pc (pc' := 368) rfl ?_)
                  refine G_if_ne (tgt := 384) d_Mo_behind_368 (by decide) (fun h177 => absurd h177 (by decide)) (fun h177 => G_pc (pc' := 371) rfl ?_)
                  obtain ⟨tt, kk, PP, rfl⟩ := topP_cons' (P := P_167) (by omega)
                  have htp : topP ((tt, kk) :: PP) = tt := rfl
                  have haw : arP ((tt, kk) :: PP) = arW tt + arP PP := rfl
                  simp only [List.length_cons] at *
                  refine G_aload (i := 0) (n := 2) (len := 1) (Or.inl ⟨0, rfl, rfl, d_Mo_behind_371⟩) rfl (by decide) (G_pc (pc' := 372) rfl ?_)
                  refine G_get (o := 55) (c := 9) (k := 40) (v := 85) d_Mo_behind_372 fl_Mo_99 rfl (by decide) (by decide) rfl rfl (G_pc (pc' := 375) rfl ?_)
                  refine G_aload (i := 0) (n := 2) (len := 1) (Or.inl ⟨0, rfl, rfl, d_Mo_behind_375⟩) rfl (by decide) (G_pc (pc' := 376) rfl ?_)
                  refine G_get (o := 55) (c := 9) (k := 39) (v := M169 55 39) d_Mo_behind_376 fl_Mo_213 rfl (by decide) (by decide) rfl rfl (G_pc (pc' := 379) rfl ?_)
                  refine G_iconst (n := 1) d_Mo_behind_379 (by decide) (G_pc (pc' := 380) rfl ?_)
                  refine G_isub d_Mo_behind_380 (by omega) (G_pc (pc' := 381) rfl ?_)
                  refine G_bipush (n := 26) d_Mo_behind_381 (by decide) (G_pc (pc' := 383) rfl ?_)
                  refine G_iastore (o := 85) (n := 32) (i := (M169 55 39) - 1) (x := 26) d_Mo_behind_383 rfl ⟨by decide, by decide⟩ (by decide) (gt_arr rfl _) (by omega) (tokI (by decide)) (G_pc (pc' := 384) rfl ?_)
                  have hR178 : RP M0 (mset (mset M169 55 44 0) 85 ((M169 55 39) - 1) 26) N_167 O_167 ((26, kk) :: PP) o a 0 0 := RP_retop hR176
                  have hR178N := RP_N hR178
                  (try simp only [List.length_cons, List.length_append, List.length_nil] at hR178N)
                  have hR178O := RP_O hR178
                  (try simp only [List.length_cons, List.length_append, List.length_nil] at hR178O)
                  have hR178P := RP_P hR178
                  (try simp only [List.length_cons, List.length_append, List.length_nil] at hR178P)
                  refine G_iload (i := 1) (n := 3) (len := 1) (Or.inl ⟨1, rfl, rfl, d_Mo_behind_384⟩) rfl (G_pc (pc' := 385) rfl ?_)
                  refine G_iconst (n := 1) d_Mo_behind_385 (by decide) (G_pc (pc' := 386) rfl ?_)
                  refine G_iadd d_Mo_behind_386 (by omega) (G_pc (pc' := 387) rfl ?_)
                  refine G_iret d_Mo_behind_387 rfl (tokI (by omega)) rfl rfl ?_
                  exact Or.inr ⟨_, _, _, _, _, _, _, by unfold behindS; rw [if_neg (by omega), if_neg (by omega), if_neg (by omega), if_neg (by omega), if_pos (by omega), redS_e hF_167]; unfold colS; simp only []; first | grind | (simp; grind), rfl, hR178⟩
                · skip
                  refine G_iconst (n := 1) d_Mo_behind_356 (by decide) (G_pc (pc' := 357) rfl ?_)
                  refine G_goto (tgt := 361) d_Mo_behind_357 (by decide) ?_
                  refine G_putL (o := 55) (c := 9) (k := 44) (ki := 44) (x := 1) d_Mo_behind_361 fl_Mo_166 rfl rfl (by decide) (by decide) (by decide) rfl rfl (tokZ (by decide)) rfl (G_pc (pc' := 364) rfl ?_)
                  have hR179 : RP M0 (mset M169 55 44 1) N_167 O_167 P_167 o a 0 1 := RP_w hR171
                  have hR179N := RP_N hR179
                  (try simp only [List.length_cons, List.length_append, List.length_nil] at hR179N)
                  have hR179O := RP_O hR179
                  (try simp only [List.length_cons, List.length_append, List.length_nil] at hR179O)
                  have hR179P := RP_P hR179
                  (try simp only [List.length_cons, List.length_append, List.length_nil] at hR179P)
                  refine G_aload (i := 0) (n := 2) (len := 1) (Or.inl ⟨0, rfl, rfl, d_Mo_behind_364⟩) rfl (by decide) (G_pc (pc' := 365) rfl ?_)
                  refine G_get (o := 55) (c := 9) (k := 44) (v := 1) d_Mo_behind_365 fl_Mo_166 rfl (by decide) (by decide) rfl rfl (G_pc (pc' := 368) rfl ?_)
                  refine G_if_ne (tgt := 384) d_Mo_behind_368 (by decide) (fun h180 => ?_) (fun h180 => absurd h180 (by decide))
                  refine G_iload (i := 1) (n := 3) (len := 1) (Or.inl ⟨1, rfl, rfl, d_Mo_behind_384⟩) rfl (G_pc (pc' := 385) rfl ?_)
                  refine G_iconst (n := 1) d_Mo_behind_385 (by decide) (G_pc (pc' := 386) rfl ?_)
                  refine G_iadd d_Mo_behind_386 (by omega) (G_pc (pc' := 387) rfl ?_)
                  refine G_iret d_Mo_behind_387 rfl (tokI (by omega)) rfl rfl ?_
                  exact Or.inl ⟨by unfold behindS; rw [if_neg (by omega), if_neg (by omega), if_neg (by omega), if_neg (by omega), if_pos (by omega), redS_e hF_167]; unfold colS; simp only []; first | grind | (simp; grind), hR179.1, RP_W hR179, _, rfl⟩
            · skip
              refine G_aload (i := 0) (n := 2) (len := 1) (Or.inl ⟨0, rfl, rfl, d_Mo_behind_292⟩) rfl (by decide) (G_pc (pc' := 293) rfl ?_)
              refine G_iconst (n := 1) d_Mo_behind_293 (by decide) (G_pc (pc' := 294) rfl ?_)
              refine G_callV (K1 := KE) (d2 := 1) (o := 55) (cl := 9) (as := [vi 1]) (rest := []) d_Mo_behind_294 mf_Mo_reduce ml_Mo_251 rfl rfl (by decide) rfl rfl (Nat.le_of_ble_eq_true rfl) (by omega) ⟨Nat.le_refl _, Nat.le_refl _⟩ (g_Mo_reduce (by omega) 1 M0 _ _ _ _ _ _ _ (reduceL 1 N O P) _ hR3 (by omega) (by omega) (by omega) rfl) (fun r182 M183 kq184 q184 => ?_)
              clear kq184; obtain ⟨q184a, q184b⟩ := q184; subst r182
              obtain ⟨N_181, O_181, P_181, hF_181⟩ : ∃ N1 O1 P1, (reduceL 1 N O P) = (N1, O1, P1) := ⟨_, _, _, rfl⟩
              rw [hF_181] at q184b
              have hI_181 := reduceL_inv hF_181 (by omega) (by omega)
              refine G_ps (pc' := 297) (st' := []) rfl rfl ?_
              have hR185 : RP M0 M183 N_181 O_181 P_181 o a 0 0 := q184b
              have hR185N := RP_N hR185
              (try simp only [List.length_cons, List.length_append, List.length_nil] at hR185N)
              have hR185O := RP_O hR185
              (try simp only [List.length_cons, List.length_append, List.length_nil] at hR185O)
              have hR185P := RP_P hR185
              (try simp only [List.length_cons, List.length_append, List.length_nil] at hR185P)
              refine G_aload (i := 0) (n := 2) (len := 1) (Or.inl ⟨0, rfl, rfl, d_Mo_behind_297⟩) rfl (by decide) (G_pc (pc' := 298) rfl ?_)
              refine G_dup d_Mo_behind_298 (fun _ h => by cases h) (G_pc (pc' := 299) rfl ?_)
              refine G_get (o := 55) (c := 9) (k := 43) (v := M183 55 43) d_Mo_behind_299 fl_Mo_236 rfl (by decide) (by decide) rfl rfl (G_pc (pc' := 302) rfl ?_)
              rw [show M183 55 43 = a from (show M183 55 43 = a from RP_A hR185)]
              refine G_iconst (n := 1) d_Mo_behind_302 (by decide) (G_pc (pc' := 303) rfl ?_)
              refine G_iadd d_Mo_behind_303 (by omega) (G_pc (pc' := 304) rfl ?_)
              refine G_putL (o := 55) (c := 9) (k := 43) (ki := 43) (x := a + 1) d_Mo_behind_304 fl_Mo_236 rfl rfl (by decide) (by decide) (by decide) rfl rfl (tokI (by omega)) rfl (G_pc (pc' := 307) rfl ?_)
              have hR186 : RP M0 (mset M183 55 43 (a + 1)) N_181 O_181 P_181 o (a + 1) 0 0 := RP_a hR185
              have hR186N := RP_N hR186
              (try simp only [List.length_cons, List.length_append, List.length_nil] at hR186N)
              have hR186O := RP_O hR186
              (try simp only [List.length_cons, List.length_append, List.length_nil] at hR186O)
              have hR186P := RP_P hR186
              (try simp only [List.length_cons, List.length_append, List.length_nil] at hR186P)
              refine G_aload (i := 0) (n := 2) (len := 1) (Or.inl ⟨0, rfl, rfl, d_Mo_behind_307⟩) rfl (by decide) (G_pc (pc' := 308) rfl ?_)
              refine G_aload (i := 0) (n := 2) (len := 1) (Or.inl ⟨0, rfl, rfl, d_Mo_behind_308⟩) rfl (by decide) (G_pc (pc' := 309) rfl ?_)
              refine G_get (o := 55) (c := 9) (k := 43) (v := a + 1) d_Mo_behind_309 fl_Mo_236 rfl (by decide) (by decide) rfl rfl (G_pc (pc' := 312) rfl ?_)
              refine G_iconst (n := 4) d_Mo_behind_312 (by decide) (G_pc (pc' := 313) rfl ?_)
              refine G_icmp_le (tgt := 320) d_Mo_behind_313 (by decide) (fun h187 => ?_) (fun h187 => G_pc (pc' := 316) rfl ?_)
              · skip
                refine G_iconst (n := 0) d_Mo_behind_320 (by decide) (G_pc (pc' := 321) rfl ?_)
                refine G_putL (o := 55) (c := 9) (k := 44) (ki := 44) (x := 0) d_Mo_behind_321 fl_Mo_166 rfl rfl (by decide) (by decide) (by decide) rfl rfl (tokZ (by decide)) rfl (G_pc (pc' := 324) rfl ?_)
                have hR188 : RP M0 (mset (mset M183 55 43 (a + 1)) 55 44 0) N_181 O_181 P_181 o (a + 1) 0 0 := RP_w hR186
                have hR188N := RP_N hR188
                (try simp only [List.length_cons, List.length_append, List.length_nil] at hR188N)
                have hR188O := RP_O hR188
                (try simp only [List.length_cons, List.length_append, List.length_nil] at hR188O)
                have hR188P := RP_P hR188
                (try simp only [List.length_cons, List.length_append, List.length_nil] at hR188P)
                refine G_aload (i := 0) (n := 2) (len := 1) (Or.inl ⟨0, rfl, rfl, d_Mo_behind_324⟩) rfl (by decide) (G_pc (pc' := 325) rfl ?_)
                refine G_bipush (n := 25) d_Mo_behind_325 (by decide) (G_pc (pc' := 327) rfl ?_)
                refine G_iconst (n := 0) d_Mo_behind_327 (by decide) (G_pc (pc' := 328) rfl ?_)
                refine G_callV (K1 := KE) (d2 := 0) (o := 55) (cl := 9) (as := [vi 25, vi 0]) (rest := []) d_Mo_behind_328 mf_Mo_hold ml_Mo_257 rfl rfl (by decide) rfl rfl (Nat.le_of_ble_eq_true rfl) (by omega) ⟨Nat.le_refl _, Nat.le_refl _⟩ (g_Mo_hold (by omega) 25 0 _ (by omega)) (fun r189 M190 kq191 q191 => ?_)
                clear kq191; obtain ⟨q191a, q191b⟩ := q191; subst r189; subst M190
                refine G_ps (pc' := 331) (st' := []) rfl rfl ?_
                have hR192 : RP M0 (holdM (mset (mset M183 55 43 (a + 1)) 55 44 0) 25 0) N_181 O_181 ((25, 0) :: P_181) o (a + 1) 0 0 := RP_hold hR188
                have hR192N := RP_N hR192
                (try simp only [List.length_cons, List.length_append, List.length_nil] at hR192N)
                have hR192O := RP_O hR192
                (try simp only [List.length_cons, List.length_append, List.length_nil] at hR192O)
                have hR192P := RP_P hR192
                (try simp only [List.length_cons, List.length_append, List.length_nil] at hR192P)
                refine G_iload (i := 1) (n := 3) (len := 1) (Or.inl ⟨1, rfl, rfl, d_Mo_behind_331⟩) rfl (G_pc (pc' := 332) rfl ?_)
                refine G_iconst (n := 1) d_Mo_behind_332 (by decide) (G_pc (pc' := 333) rfl ?_)
                refine G_iadd d_Mo_behind_333 (by omega) (G_pc (pc' := 334) rfl ?_)
                refine G_iret d_Mo_behind_334 rfl (tokI (by omega)) rfl rfl ?_
                exact Or.inr ⟨_, _, _, _, _, _, _, by unfold behindS; rw [if_neg (by omega), if_neg (by omega), if_neg (by omega), if_pos (by omega), redS_e hF_181]; unfold askS; simp only []; first | grind | (simp; grind), rfl, hR192⟩
              · skip
                refine G_iconst (n := 1) d_Mo_behind_316 (by decide) (G_pc (pc' := 317) rfl ?_)
                refine G_goto (tgt := 321) d_Mo_behind_317 (by decide) ?_
                refine G_putL (o := 55) (c := 9) (k := 44) (ki := 44) (x := 1) d_Mo_behind_321 fl_Mo_166 rfl rfl (by decide) (by decide) (by decide) rfl rfl (tokZ (by decide)) rfl (G_pc (pc' := 324) rfl ?_)
                have hR193 : RP M0 (mset (mset M183 55 43 (a + 1)) 55 44 1) N_181 O_181 P_181 o (a + 1) 0 1 := RP_w hR186
                have hR193N := RP_N hR193
                (try simp only [List.length_cons, List.length_append, List.length_nil] at hR193N)
                have hR193O := RP_O hR193
                (try simp only [List.length_cons, List.length_append, List.length_nil] at hR193O)
                have hR193P := RP_P hR193
                (try simp only [List.length_cons, List.length_append, List.length_nil] at hR193P)
                refine G_aload (i := 0) (n := 2) (len := 1) (Or.inl ⟨0, rfl, rfl, d_Mo_behind_324⟩) rfl (by decide) (G_pc (pc' := 325) rfl ?_)
                refine G_bipush (n := 25) d_Mo_behind_325 (by decide) (G_pc (pc' := 327) rfl ?_)
                refine G_iconst (n := 0) d_Mo_behind_327 (by decide) (G_pc (pc' := 328) rfl ?_)
                refine G_callV (K1 := KE) (d2 := 0) (o := 55) (cl := 9) (as := [vi 25, vi 0]) (rest := []) d_Mo_behind_328 mf_Mo_hold ml_Mo_257 rfl rfl (by decide) rfl rfl (Nat.le_of_ble_eq_true rfl) (by omega) ⟨Nat.le_refl _, Nat.le_refl _⟩ (g_Mo_hold (by omega) 25 0 _ (by omega)) (fun r194 M195 kq196 q196 => ?_)
                clear kq196; obtain ⟨q196a, q196b⟩ := q196; subst r194; subst M195
                refine G_ps (pc' := 331) (st' := []) rfl rfl ?_
                have hR197 : RP M0 (holdM (mset (mset M183 55 43 (a + 1)) 55 44 1) 25 0) N_181 O_181 ((25, 0) :: P_181) o (a + 1) 0 1 := RP_hold hR193
                have hR197N := RP_N hR197
                (try simp only [List.length_cons, List.length_append, List.length_nil] at hR197N)
                have hR197O := RP_O hR197
                (try simp only [List.length_cons, List.length_append, List.length_nil] at hR197O)
                have hR197P := RP_P hR197
                (try simp only [List.length_cons, List.length_append, List.length_nil] at hR197P)
                refine G_iload (i := 1) (n := 3) (len := 1) (Or.inl ⟨1, rfl, rfl, d_Mo_behind_331⟩) rfl (G_pc (pc' := 332) rfl ?_)
                refine G_iconst (n := 1) d_Mo_behind_332 (by decide) (G_pc (pc' := 333) rfl ?_)
                refine G_iadd d_Mo_behind_333 (by omega) (G_pc (pc' := 334) rfl ?_)
                refine G_iret d_Mo_behind_334 rfl (tokI (by omega)) rfl rfl ?_
                exact Or.inl ⟨by unfold behindS; rw [if_neg (by omega), if_neg (by omega), if_neg (by omega), if_pos (by omega), redS_e hF_181]; unfold askS; simp only []; first | grind | (simp; grind), hR197.1, RP_W hR197, _, rfl⟩
          · skip
            refine G_aload (i := 0) (n := 2) (len := 1) (Or.inl ⟨0, rfl, rfl, d_Mo_behind_185⟩) rfl (by decide) (G_pc (pc' := 186) rfl ?_)
            refine G_iconst (n := 0) d_Mo_behind_186 (by decide) (G_pc (pc' := 187) rfl ?_)
            refine G_callV (K1 := KE) (d2 := 1) (o := 55) (cl := 9) (as := [vi 0]) (rest := []) d_Mo_behind_187 mf_Mo_reduce ml_Mo_251 rfl rfl (by decide) rfl rfl (Nat.le_of_ble_eq_true rfl) (by omega) ⟨Nat.le_refl _, Nat.le_refl _⟩ (g_Mo_reduce (by omega) 0 M0 _ _ _ _ _ _ _ (reduceL 0 N O P) _ hR3 (by omega) (by omega) (by omega) rfl) (fun r199 M200 kq201 q201 => ?_)
            clear kq201; obtain ⟨q201a, q201b⟩ := q201; subst r199
            obtain ⟨N_198, O_198, P_198, hF_198⟩ : ∃ N1 O1 P1, (reduceL 0 N O P) = (N1, O1, P1) := ⟨_, _, _, rfl⟩
            rw [hF_198] at q201b
            have hI_198 := reduceL_inv hF_198 (by omega) (by omega)
            refine G_ps (pc' := 190) (st' := []) rfl rfl ?_
            have hR202 : RP M0 M200 N_198 O_198 P_198 o a 0 0 := q201b
            have hR202N := RP_N hR202
            (try simp only [List.length_cons, List.length_append, List.length_nil] at hR202N)
            have hR202O := RP_O hR202
            (try simp only [List.length_cons, List.length_append, List.length_nil] at hR202O)
            have hR202P := RP_P hR202
            (try simp only [List.length_cons, List.length_append, List.length_nil] at hR202P)
            refine G_aload (i := 0) (n := 2) (len := 1) (Or.inl ⟨0, rfl, rfl, d_Mo_behind_190⟩) rfl (by decide) (G_pc (pc' := 191) rfl ?_)
            refine G_aload (i := 0) (n := 2) (len := 1) (Or.inl ⟨0, rfl, rfl, d_Mo_behind_191⟩) rfl (by decide) (G_pc (pc' := 192) rfl ?_)
            refine G_callV (K1 := KE) (d2 := 0) (o := 55) (cl := 9) (as := []) (rest := [vr 55]) d_Mo_behind_192 mf_Mo_top ml_Mo_216 rfl rfl (by decide) rfl rfl (Nat.le_of_ble_eq_true rfl) (by omega) ⟨Nat.le_refl _, Nat.le_refl _⟩ (g_Mo_top (by omega)  _ (by omega)) (fun r203 M204 kq205 q205 => ?_)
            clear kq205; obtain ⟨q205a, q205b⟩ := q205; subst r203; subst M204
            refine G_ps (pc' := 195) (st' := [vi (topM M200), vr 55]) rfl rfl ?_
            rw [show topM M200 = topP P_198 from RP_top hR202]
            refine G_iload (i := 2) (n := 1) (len := 1) (Or.inl ⟨2, rfl, rfl, d_Mo_behind_195⟩) rfl (G_pc (pc' := 196) rfl ?_)
            refine G_bipush (n := 21) d_Mo_behind_196 (by decide) (G_pc (pc' := 198) rfl ?_)
            refine G_icmp_ne (tgt := 206) d_Mo_behind_198 (by decide) (fun h206 => ?_) (fun h206 => G_pc (pc' := 201) rfl ?_)
            · skip
              refine G_bipush (n := 22) d_Mo_behind_206 (by decide) (G_pc (pc' := 208) rfl ?_)
              refine G_icmp_eq (tgt := 215) d_Mo_behind_208 (by decide) (fun h207 => ?_) (fun h207 => G_pc (pc' := 211) rfl ?_)
              · skip
                refine G_iconst (n := 0) d_Mo_behind_215 (by decide) (G_pc (pc' := 216) rfl ?_)
                refine G_putL (o := 55) (c := 9) (k := 44) (ki := 44) (x := 0) d_Mo_behind_216 fl_Mo_166 rfl rfl (by decide) (by decide) (by decide) rfl rfl (tokZ (by decide)) rfl (G_pc (pc' := 219) rfl ?_)
                have hR208 : RP M0 (mset M200 55 44 0) N_198 O_198 P_198 o a 0 0 := RP_w hR202
                have hR208N := RP_N hR208
                (try simp only [List.length_cons, List.length_append, List.length_nil] at hR208N)
                have hR208O := RP_O hR208
                (try simp only [List.length_cons, List.length_append, List.length_nil] at hR208O)
                have hR208P := RP_P hR208
                (try simp only [List.length_cons, List.length_append, List.length_nil] at hR208P)
                refine G_aload (i := 0) (n := 2) (len := 1) (Or.inl ⟨0, rfl, rfl, d_Mo_behind_219⟩) rfl (by decide) (G_pc (pc' := 220) rfl ?_)
                refine G_get (o := 55) (c := 9) (k := 44) (v := 0) d_Mo_behind_220 fl_Mo_166 rfl (by decide) (by decide) rfl rfl (G_pc (pc' := 223) rfl ?_)
                refine G_if_eq (tgt := 228) d_Mo_behind_223 (by decide) (fun h209 => ?_) (fun h209 => absurd h209 (by decide))
                obtain ⟨tt, kk, PP, rfl⟩ := topP_cons' (P := P_198) (by omega)
                have htp : topP ((tt, kk) :: PP) = tt := rfl
                have haw : arP ((tt, kk) :: PP) = arW tt + arP PP := rfl
                simp only [List.length_cons] at *
                refine G_aload (i := 0) (n := 2) (len := 1) (Or.inl ⟨0, rfl, rfl, d_Mo_behind_228⟩) rfl (by decide) (G_pc (pc' := 229) rfl ?_)
                refine G_dup d_Mo_behind_229 (fun _ h => by cases h) (G_pc (pc' := 230) rfl ?_)
                refine G_get (o := 55) (c := 9) (k := 39) (v := M200 55 39) d_Mo_behind_230 fl_Mo_213 rfl (by decide) (by decide) rfl rfl (G_pc (pc' := 233) rfl ?_)
                refine G_iconst (n := 1) d_Mo_behind_233 (by decide) (G_pc (pc' := 234) rfl ?_)
                refine G_isub d_Mo_behind_234 (by omega) (G_pc (pc' := 235) rfl ?_)
                refine G_putL (o := 55) (c := 9) (k := 39) (ki := 39) (x := (M200 55 39) - 1) d_Mo_behind_235 fl_Mo_213 rfl rfl (by decide) (by decide) (by decide) rfl rfl (tokI (by omega)) rfl (G_pc (pc' := 238) rfl ?_)
                have hR210 : RP M0 (mset (mset M200 55 44 0) 55 39 ((M200 55 39) - 1)) N_198 O_198 PP o a 0 0 := (RP_drop hR208).2.2.2
                have hR210N := RP_N hR210
                (try simp only [List.length_cons, List.length_append, List.length_nil] at hR210N)
                have hR210O := RP_O hR210
                (try simp only [List.length_cons, List.length_append, List.length_nil] at hR210O)
                have hR210P := RP_P hR210
                (try simp only [List.length_cons, List.length_append, List.length_nil] at hR210P)
                refine G_aload (i := 0) (n := 2) (len := 1) (Or.inl ⟨0, rfl, rfl, d_Mo_behind_238⟩) rfl (by decide) (G_pc (pc' := 239) rfl ?_)
                refine G_dup d_Mo_behind_239 (fun _ h => by cases h) (G_pc (pc' := 240) rfl ?_)
                refine G_get (o := 55) (c := 9) (k := 42) (v := M200 55 42) d_Mo_behind_240 fl_Mo_233 rfl (by decide) (by decide) rfl rfl (G_pc (pc' := 243) rfl ?_)
                rw [show M200 55 42 = o from (show (mset (mset M200 55 44 0) 55 39 ((M200 55 39) - 1)) 55 42 = o from RP_OP hR210)]
                refine G_iconst (n := 1) d_Mo_behind_243 (by decide) (G_pc (pc' := 244) rfl ?_)
                refine G_isub d_Mo_behind_244 (by omega) (G_pc (pc' := 245) rfl ?_)
                refine G_putL (o := 55) (c := 9) (k := 42) (ki := 42) (x := o - 1) d_Mo_behind_245 fl_Mo_233 rfl rfl (by decide) (by decide) (by decide) rfl rfl (tokI (by omega)) rfl (G_pc (pc' := 248) rfl ?_)
                have hR211 : RP M0 (mset (mset (mset M200 55 44 0) 55 39 ((M200 55 39) - 1)) 55 42 (o - 1)) N_198 O_198 PP (o - 1) a 0 0 := RP_o hR210
                have hR211N := RP_N hR211
                (try simp only [List.length_cons, List.length_append, List.length_nil] at hR211N)
                have hR211O := RP_O hR211
                (try simp only [List.length_cons, List.length_append, List.length_nil] at hR211O)
                have hR211P := RP_P hR211
                (try simp only [List.length_cons, List.length_append, List.length_nil] at hR211P)
                refine G_iload (i := 2) (n := 1) (len := 1) (Or.inl ⟨2, rfl, rfl, d_Mo_behind_248⟩) rfl (G_pc (pc' := 249) rfl ?_)
                refine G_bipush (n := 23) d_Mo_behind_249 (by decide) (G_pc (pc' := 251) rfl ?_)
                refine G_icmp_ne (tgt := 282) d_Mo_behind_251 (by decide) (fun h212 => ?_) (fun h212 => G_pc (pc' := 254) rfl ?_)
                · skip
                  refine G_iload (i := 1) (n := 3) (len := 1) (Or.inl ⟨1, rfl, rfl, d_Mo_behind_282⟩) rfl (G_pc (pc' := 283) rfl ?_)
                  refine G_iconst (n := 1) d_Mo_behind_283 (by decide) (G_pc (pc' := 284) rfl ?_)
                  refine G_iadd d_Mo_behind_284 (by omega) (G_pc (pc' := 285) rfl ?_)
                  refine G_iret d_Mo_behind_285 rfl (tokI (by omega)) rfl rfl ?_
                  exact Or.inr ⟨_, _, _, _, _, _, _, by unfold behindS; rw [if_neg (by omega), if_neg (by omega), if_pos (by omega), redS_e hF_198]; unfold closeS; simp only []; first | grind | (simp; grind), rfl, hR211⟩
                · skip
                  have htt : tt = 22 := by omega
                  have haw2 : arW tt = 1 := by rw [htt]; decide
                  obtain ⟨x2, x1, Y, rfl⟩ := cons2 (O := O_198) (by omega)
                  simp only [List.length_cons] at *
                  refine G_aload (i := 0) (n := 2) (len := 1) (Or.inl ⟨0, rfl, rfl, d_Mo_behind_254⟩) rfl (by decide) (G_pc (pc' := 255) rfl ?_)
                  refine G_callV (K1 := KE) (d2 := 0) (o := 55) (cl := 9) (as := []) (rest := []) d_Mo_behind_255 mf_Mo_pop ml_Mo_223 rfl rfl (by decide) rfl rfl (Nat.le_of_ble_eq_true rfl) (by omega) ⟨Nat.le_refl _, Nat.le_refl _⟩ (g_Mo_pop (by omega)  _ (by omega)) (fun r213 M214 kq215 q215 => ?_)
                  clear kq215; obtain ⟨q215a, q215b⟩ := q215; subst r213; subst M214
                  refine G_ps (pc' := 258) (st' := [vi ((mset (mset (mset M200 55 44 0) 55 39 ((M200 55 39) - 1)) 55 42 (o - 1)) 84 ((mset (mset (mset M200 55 44 0) 55 39 ((M200 55 39) - 1)) 55 42 (o - 1)) 55 37 - 1))]) rfl rfl ?_
                  rw [show (mset (mset (mset M200 55 44 0) 55 39 ((M200 55 39) - 1)) 55 42 (o - 1)) 84 ((mset (mset (mset M200 55 44 0) 55 39 ((M200 55 39) - 1)) 55 42 (o - 1)) 55 37 - 1) = x2 from (RP_pop hR211).1]
                  have hR216 : RP M0 (popM (mset (mset (mset M200 55 44 0) 55 39 ((M200 55 39) - 1)) 55 42 (o - 1))) N_198 (x1 :: Y) PP (o - 1) a 0 0 := (RP_pop hR211).2
                  have hR216N := RP_N hR216
                  (try simp only [List.length_cons, List.length_append, List.length_nil] at hR216N)
                  have hR216O := RP_O hR216
                  (try simp only [List.length_cons, List.length_append, List.length_nil] at hR216O)
                  have hR216P := RP_P hR216
                  (try simp only [List.length_cons, List.length_append, List.length_nil] at hR216P)
                  refine G_istore (i := 4) (len := 2) (ls' := [(4, vi x2), (3, vi cl), (2, vi (tkA M0 k)), (0, vr 55), (1, vi k)]) (Or.inr ⟨rfl, d_Mo_behind_258⟩) (by decide) rfl (G_pc (pc' := 260) rfl ?_)
                  refine G_aload (i := 0) (n := 3) (len := 1) (Or.inl ⟨0, rfl, rfl, d_Mo_behind_260⟩) rfl (by decide) (G_pc (pc' := 261) rfl ?_)
                  refine G_callV (K1 := KE) (d2 := 0) (o := 55) (cl := 9) (as := []) (rest := []) d_Mo_behind_261 mf_Mo_pop ml_Mo_223 rfl rfl (by decide) rfl rfl (Nat.le_of_ble_eq_true rfl) (by omega) ⟨Nat.le_refl _, Nat.le_refl _⟩ (g_Mo_pop (by omega)  _ (by omega)) (fun r217 M218 kq219 q219 => ?_)
                  clear kq219; obtain ⟨q219a, q219b⟩ := q219; subst r217; subst M218
                  refine G_ps (pc' := 264) (st' := [vi ((popM (mset (mset (mset M200 55 44 0) 55 39 ((M200 55 39) - 1)) 55 42 (o - 1))) 84 ((popM (mset (mset (mset M200 55 44 0) 55 39 ((M200 55 39) - 1)) 55 42 (o - 1))) 55 37 - 1))]) rfl rfl ?_
                  rw [show (popM (mset (mset (mset M200 55 44 0) 55 39 ((M200 55 39) - 1)) 55 42 (o - 1))) 84 ((popM (mset (mset (mset M200 55 44 0) 55 39 ((M200 55 39) - 1)) 55 42 (o - 1))) 55 37 - 1) = x1 from (RP_pop hR216).1]
                  have hR220 : RP M0 (popM (popM (mset (mset (mset M200 55 44 0) 55 39 ((M200 55 39) - 1)) 55 42 (o - 1)))) N_198 Y PP (o - 1) a 0 0 := (RP_pop hR216).2
                  have hR220N := RP_N hR220
                  (try simp only [List.length_cons, List.length_append, List.length_nil] at hR220N)
                  have hR220O := RP_O hR220
                  (try simp only [List.length_cons, List.length_append, List.length_nil] at hR220O)
                  have hR220P := RP_P hR220
                  (try simp only [List.length_cons, List.length_append, List.length_nil] at hR220P)
                  refine G_istore (i := 5) (len := 2) (ls' := [(5, vi x1), (4, vi x2), (3, vi cl), (2, vi (tkA M0 k)), (0, vr 55), (1, vi k)]) (Or.inr ⟨rfl, d_Mo_behind_264⟩) (by decide) rfl (G_pc (pc' := 266) rfl ?_)
                  refine G_aload (i := 0) (n := 4) (len := 1) (Or.inl ⟨0, rfl, rfl, d_Mo_behind_266⟩) rfl (by decide) (G_pc (pc' := 267) rfl ?_)
                  refine G_aload (i := 0) (n := 4) (len := 1) (Or.inl ⟨0, rfl, rfl, d_Mo_behind_267⟩) rfl (by decide) (G_pc (pc' := 268) rfl ?_)
                  refine G_bipush (n := 62) d_Mo_behind_268 (by decide) (G_pc (pc' := 270) rfl ?_)
                  refine G_iload (i := 5) (n := 0) (len := 2) (Or.inr ⟨rfl, d_Mo_behind_270⟩) rfl (G_pc (pc' := 272) rfl ?_)
                  refine G_iload (i := 4) (n := 1) (len := 2) (Or.inr ⟨rfl, d_Mo_behind_272⟩) rfl (G_pc (pc' := 274) rfl ?_)
                  refine G_iconst (n := (-1)) d_Mo_behind_274 (by decide) (G_pc (pc' := 275) rfl ?_)
                  refine G_lconst0 d_Mo_behind_275 (G_pc (pc' := 276) rfl ?_)
                  refine G_callV (K1 := KE) (d2 := 0) (o := 55) (cl := 9) (as := [vi 62, vi x1, vi x2, vi (-1), vl 0]) (rest := [vr 55]) d_Mo_behind_276 mf_Mo_node ml_Mo_226 rfl rfl (by decide) rfl rfl (Nat.le_of_ble_eq_true rfl) (by omega) ⟨Nat.le_refl _, Nat.le_refl _⟩ (g_Mo_node (by omega) 62 x1 x2 (-1) 0 _ (by omega)) (fun r221 M222 kq223 q223 => ?_)
                  clear kq223; obtain ⟨q223a, q223b⟩ := q223; subst r221; subst M222
                  refine G_ps (pc' := 279) (st' := [vi ((popM (popM (mset (mset (mset M200 55 44 0) 55 39 ((M200 55 39) - 1)) 55 42 (o - 1)))) 55 28), vr 55]) rfl rfl ?_
                  rw [show (popM (popM (mset (mset (mset M200 55 44 0) 55 39 ((M200 55 39) - 1)) 55 42 (o - 1)))) 55 28 = ((N_198).length : Int) from RP_N hR220]
                  have hR224 : RP M0 (nodeM (popM (popM (mset (mset (mset M200 55 44 0) 55 39 ((M200 55 39) - 1)) 55 42 (o - 1)))) 62 x1 x2 (-1) 0) (N_198 ++ [(62, x1, x2, (-1), 0)]) Y PP (o - 1) a 0 0 := RP_node hR220
                  have hR224N := RP_N hR224
                  (try simp only [List.length_cons, List.length_append, List.length_nil] at hR224N)
                  have hR224O := RP_O hR224
                  (try simp only [List.length_cons, List.length_append, List.length_nil] at hR224O)
                  have hR224P := RP_P hR224
                  (try simp only [List.length_cons, List.length_append, List.length_nil] at hR224P)
                  refine G_callV (K1 := KE) (d2 := 0) (o := 55) (cl := 9) (as := [vi ((N_198).length : Int)]) (rest := []) d_Mo_behind_279 mf_Mo_push ml_Mo_230 rfl rfl (by decide) rfl rfl (Nat.le_of_ble_eq_true rfl) (by omega) ⟨Nat.le_refl _, Nat.le_refl _⟩ (g_Mo_push (by omega) ((N_198).length : Int) _ (by omega)) (fun r225 M226 kq227 q227 => ?_)
                  clear kq227; obtain ⟨q227a, q227b⟩ := q227; subst r225; subst M226
                  refine G_ps (pc' := 282) (st' := []) rfl rfl ?_
                  have hR228 : RP M0 (pushM (nodeM (popM (popM (mset (mset (mset M200 55 44 0) 55 39 ((M200 55 39) - 1)) 55 42 (o - 1)))) 62 x1 x2 (-1) 0) ((N_198).length : Int)) (N_198 ++ [(62, x1, x2, (-1), 0)]) ((((N_198).length : Int)) :: Y) PP (o - 1) a 0 0 := RP_push hR224
                  have hR228N := RP_N hR228
                  (try simp only [List.length_cons, List.length_append, List.length_nil] at hR228N)
                  have hR228O := RP_O hR228
                  (try simp only [List.length_cons, List.length_append, List.length_nil] at hR228O)
                  have hR228P := RP_P hR228
                  (try simp only [List.length_cons, List.length_append, List.length_nil] at hR228P)
                  refine G_iload (i := 1) (n := 5) (len := 1) (Or.inl ⟨1, rfl, rfl, d_Mo_behind_282⟩) rfl (G_pc (pc' := 283) rfl ?_)
                  refine G_iconst (n := 1) d_Mo_behind_283 (by decide) (G_pc (pc' := 284) rfl ?_)
                  refine G_iadd d_Mo_behind_284 (by omega) (G_pc (pc' := 285) rfl ?_)
                  refine G_iret d_Mo_behind_285 rfl (tokI (by omega)) rfl rfl ?_
                  exact Or.inr ⟨_, _, _, _, _, _, _, by unfold behindS; rw [if_neg (by omega), if_neg (by omega), if_pos (by omega), redS_e hF_198]; unfold closeS; simp only []; first | grind | (simp; grind), rfl, hR228⟩
              · skip
                refine G_iconst (n := 1) d_Mo_behind_211 (by decide) (G_pc (pc' := 212) rfl ?_)
                refine G_goto (tgt := 216) d_Mo_behind_212 (by decide) ?_
                refine G_putL (o := 55) (c := 9) (k := 44) (ki := 44) (x := 1) d_Mo_behind_216 fl_Mo_166 rfl rfl (by decide) (by decide) (by decide) rfl rfl (tokZ (by decide)) rfl (G_pc (pc' := 219) rfl ?_)
                have hR229 : RP M0 (mset M200 55 44 1) N_198 O_198 P_198 o a 0 1 := RP_w hR202
                have hR229N := RP_N hR229
                (try simp only [List.length_cons, List.length_append, List.length_nil] at hR229N)
                have hR229O := RP_O hR229
                (try simp only [List.length_cons, List.length_append, List.length_nil] at hR229O)
                have hR229P := RP_P hR229
                (try simp only [List.length_cons, List.length_append, List.length_nil] at hR229P)
                refine G_aload (i := 0) (n := 2) (len := 1) (Or.inl ⟨0, rfl, rfl, d_Mo_behind_219⟩) rfl (by decide) (G_pc (pc' := 220) rfl ?_)
                refine G_get (o := 55) (c := 9) (k := 44) (v := 1) d_Mo_behind_220 fl_Mo_166 rfl (by decide) (by decide) rfl rfl (G_pc (pc' := 223) rfl ?_)
                refine G_if_eq (tgt := 228) d_Mo_behind_223 (by decide) (fun h230 => absurd h230 (by decide)) (fun h230 => G_pc (pc' := 226) rfl ?_)
                refine G_iload (i := 1) (n := 3) (len := 1) (Or.inl ⟨1, rfl, rfl, d_Mo_behind_226⟩) rfl (G_pc (pc' := 227) rfl ?_)
                refine G_iret d_Mo_behind_227 rfl (tokI (by omega)) rfl rfl ?_
                exact Or.inl ⟨by unfold behindS; rw [if_neg (by omega), if_neg (by omega), if_pos (by omega), redS_e hF_198]; unfold closeS; simp only []; first | grind | (simp; grind), hR229.1, RP_W hR229, _, rfl⟩
            · skip
              refine G_bipush (n := 20) d_Mo_behind_201 (by decide) (G_pc (pc' := 203) rfl ?_)
              refine G_goto (tgt := 208) d_Mo_behind_203 (by decide) ?_
              refine G_icmp_eq (tgt := 215) d_Mo_behind_208 (by decide) (fun h231 => ?_) (fun h231 => G_pc (pc' := 211) rfl ?_)
              · skip
                refine G_iconst (n := 0) d_Mo_behind_215 (by decide) (G_pc (pc' := 216) rfl ?_)
                refine G_putL (o := 55) (c := 9) (k := 44) (ki := 44) (x := 0) d_Mo_behind_216 fl_Mo_166 rfl rfl (by decide) (by decide) (by decide) rfl rfl (tokZ (by decide)) rfl (G_pc (pc' := 219) rfl ?_)
                have hR232 : RP M0 (mset M200 55 44 0) N_198 O_198 P_198 o a 0 0 := RP_w hR202
                have hR232N := RP_N hR232
                (try simp only [List.length_cons, List.length_append, List.length_nil] at hR232N)
                have hR232O := RP_O hR232
                (try simp only [List.length_cons, List.length_append, List.length_nil] at hR232O)
                have hR232P := RP_P hR232
                (try simp only [List.length_cons, List.length_append, List.length_nil] at hR232P)
                refine G_aload (i := 0) (n := 2) (len := 1) (Or.inl ⟨0, rfl, rfl, d_Mo_behind_219⟩) rfl (by decide) (G_pc (pc' := 220) rfl ?_)
                refine G_get (o := 55) (c := 9) (k := 44) (v := 0) d_Mo_behind_220 fl_Mo_166 rfl (by decide) (by decide) rfl rfl (G_pc (pc' := 223) rfl ?_)
                refine G_if_eq (tgt := 228) d_Mo_behind_223 (by decide) (fun h233 => ?_) (fun h233 => absurd h233 (by decide))
                obtain ⟨tt, kk, PP, rfl⟩ := topP_cons' (P := P_198) (by omega)
                have htp : topP ((tt, kk) :: PP) = tt := rfl
                have haw : arP ((tt, kk) :: PP) = arW tt + arP PP := rfl
                simp only [List.length_cons] at *
                refine G_aload (i := 0) (n := 2) (len := 1) (Or.inl ⟨0, rfl, rfl, d_Mo_behind_228⟩) rfl (by decide) (G_pc (pc' := 229) rfl ?_)
                refine G_dup d_Mo_behind_229 (fun _ h => by cases h) (G_pc (pc' := 230) rfl ?_)
                refine G_get (o := 55) (c := 9) (k := 39) (v := M200 55 39) d_Mo_behind_230 fl_Mo_213 rfl (by decide) (by decide) rfl rfl (G_pc (pc' := 233) rfl ?_)
                refine G_iconst (n := 1) d_Mo_behind_233 (by decide) (G_pc (pc' := 234) rfl ?_)
                refine G_isub d_Mo_behind_234 (by omega) (G_pc (pc' := 235) rfl ?_)
                refine G_putL (o := 55) (c := 9) (k := 39) (ki := 39) (x := (M200 55 39) - 1) d_Mo_behind_235 fl_Mo_213 rfl rfl (by decide) (by decide) (by decide) rfl rfl (tokI (by omega)) rfl (G_pc (pc' := 238) rfl ?_)
                have hR234 : RP M0 (mset (mset M200 55 44 0) 55 39 ((M200 55 39) - 1)) N_198 O_198 PP o a 0 0 := (RP_drop hR232).2.2.2
                have hR234N := RP_N hR234
                (try simp only [List.length_cons, List.length_append, List.length_nil] at hR234N)
                have hR234O := RP_O hR234
                (try simp only [List.length_cons, List.length_append, List.length_nil] at hR234O)
                have hR234P := RP_P hR234
                (try simp only [List.length_cons, List.length_append, List.length_nil] at hR234P)
                refine G_aload (i := 0) (n := 2) (len := 1) (Or.inl ⟨0, rfl, rfl, d_Mo_behind_238⟩) rfl (by decide) (G_pc (pc' := 239) rfl ?_)
                refine G_dup d_Mo_behind_239 (fun _ h => by cases h) (G_pc (pc' := 240) rfl ?_)
                refine G_get (o := 55) (c := 9) (k := 42) (v := M200 55 42) d_Mo_behind_240 fl_Mo_233 rfl (by decide) (by decide) rfl rfl (G_pc (pc' := 243) rfl ?_)
                rw [show M200 55 42 = o from (show (mset (mset M200 55 44 0) 55 39 ((M200 55 39) - 1)) 55 42 = o from RP_OP hR234)]
                refine G_iconst (n := 1) d_Mo_behind_243 (by decide) (G_pc (pc' := 244) rfl ?_)
                refine G_isub d_Mo_behind_244 (by omega) (G_pc (pc' := 245) rfl ?_)
                refine G_putL (o := 55) (c := 9) (k := 42) (ki := 42) (x := o - 1) d_Mo_behind_245 fl_Mo_233 rfl rfl (by decide) (by decide) (by decide) rfl rfl (tokI (by omega)) rfl (G_pc (pc' := 248) rfl ?_)
                have hR235 : RP M0 (mset (mset (mset M200 55 44 0) 55 39 ((M200 55 39) - 1)) 55 42 (o - 1)) N_198 O_198 PP (o - 1) a 0 0 := RP_o hR234
                have hR235N := RP_N hR235
                (try simp only [List.length_cons, List.length_append, List.length_nil] at hR235N)
                have hR235O := RP_O hR235
                (try simp only [List.length_cons, List.length_append, List.length_nil] at hR235O)
                have hR235P := RP_P hR235
                (try simp only [List.length_cons, List.length_append, List.length_nil] at hR235P)
                refine G_iload (i := 2) (n := 1) (len := 1) (Or.inl ⟨2, rfl, rfl, d_Mo_behind_248⟩) rfl (G_pc (pc' := 249) rfl ?_)
                refine G_bipush (n := 23) d_Mo_behind_249 (by decide) (G_pc (pc' := 251) rfl ?_)
                refine G_icmp_ne (tgt := 282) d_Mo_behind_251 (by decide) (fun h236 => ?_) (fun h236 => G_pc (pc' := 254) rfl ?_)
                · skip
                  refine G_iload (i := 1) (n := 3) (len := 1) (Or.inl ⟨1, rfl, rfl, d_Mo_behind_282⟩) rfl (G_pc (pc' := 283) rfl ?_)
                  refine G_iconst (n := 1) d_Mo_behind_283 (by decide) (G_pc (pc' := 284) rfl ?_)
                  refine G_iadd d_Mo_behind_284 (by omega) (G_pc (pc' := 285) rfl ?_)
                  refine G_iret d_Mo_behind_285 rfl (tokI (by omega)) rfl rfl ?_
                  exact Or.inr ⟨_, _, _, _, _, _, _, by unfold behindS; rw [if_neg (by omega), if_neg (by omega), if_pos (by omega), redS_e hF_198]; unfold closeS; simp only []; first | grind | (simp; grind), rfl, hR235⟩
                · skip
                  have htt : tt = 22 := by omega
                  have haw2 : arW tt = 1 := by rw [htt]; decide
                  obtain ⟨x2, x1, Y, rfl⟩ := cons2 (O := O_198) (by omega)
                  simp only [List.length_cons] at *
                  refine G_aload (i := 0) (n := 2) (len := 1) (Or.inl ⟨0, rfl, rfl, d_Mo_behind_254⟩) rfl (by decide) (G_pc (pc' := 255) rfl ?_)
                  refine G_callV (K1 := KE) (d2 := 0) (o := 55) (cl := 9) (as := []) (rest := []) d_Mo_behind_255 mf_Mo_pop ml_Mo_223 rfl rfl (by decide) rfl rfl (Nat.le_of_ble_eq_true rfl) (by omega) ⟨Nat.le_refl _, Nat.le_refl _⟩ (g_Mo_pop (by omega)  _ (by omega)) (fun r237 M238 kq239 q239 => ?_)
                  clear kq239; obtain ⟨q239a, q239b⟩ := q239; subst r237; subst M238
                  refine G_ps (pc' := 258) (st' := [vi ((mset (mset (mset M200 55 44 0) 55 39 ((M200 55 39) - 1)) 55 42 (o - 1)) 84 ((mset (mset (mset M200 55 44 0) 55 39 ((M200 55 39) - 1)) 55 42 (o - 1)) 55 37 - 1))]) rfl rfl ?_
                  rw [show (mset (mset (mset M200 55 44 0) 55 39 ((M200 55 39) - 1)) 55 42 (o - 1)) 84 ((mset (mset (mset M200 55 44 0) 55 39 ((M200 55 39) - 1)) 55 42 (o - 1)) 55 37 - 1) = x2 from (RP_pop hR235).1]
                  have hR240 : RP M0 (popM (mset (mset (mset M200 55 44 0) 55 39 ((M200 55 39) - 1)) 55 42 (o - 1))) N_198 (x1 :: Y) PP (o - 1) a 0 0 := (RP_pop hR235).2
                  have hR240N := RP_N hR240
                  (try simp only [List.length_cons, List.length_append, List.length_nil] at hR240N)
                  have hR240O := RP_O hR240
                  (try simp only [List.length_cons, List.length_append, List.length_nil] at hR240O)
                  have hR240P := RP_P hR240
                  (try simp only [List.length_cons, List.length_append, List.length_nil] at hR240P)
                  refine G_istore (i := 4) (len := 2) (ls' := [(4, vi x2), (3, vi cl), (2, vi (tkA M0 k)), (0, vr 55), (1, vi k)]) (Or.inr ⟨rfl, d_Mo_behind_258⟩) (by decide) rfl (G_pc (pc' := 260) rfl ?_)
                  refine G_aload (i := 0) (n := 3) (len := 1) (Or.inl ⟨0, rfl, rfl, d_Mo_behind_260⟩) rfl (by decide) (G_pc (pc' := 261) rfl ?_)
                  refine G_callV (K1 := KE) (d2 := 0) (o := 55) (cl := 9) (as := []) (rest := []) d_Mo_behind_261 mf_Mo_pop ml_Mo_223 rfl rfl (by decide) rfl rfl (Nat.le_of_ble_eq_true rfl) (by omega) ⟨Nat.le_refl _, Nat.le_refl _⟩ (g_Mo_pop (by omega)  _ (by omega)) (fun r241 M242 kq243 q243 => ?_)
                  clear kq243; obtain ⟨q243a, q243b⟩ := q243; subst r241; subst M242
                  refine G_ps (pc' := 264) (st' := [vi ((popM (mset (mset (mset M200 55 44 0) 55 39 ((M200 55 39) - 1)) 55 42 (o - 1))) 84 ((popM (mset (mset (mset M200 55 44 0) 55 39 ((M200 55 39) - 1)) 55 42 (o - 1))) 55 37 - 1))]) rfl rfl ?_
                  rw [show (popM (mset (mset (mset M200 55 44 0) 55 39 ((M200 55 39) - 1)) 55 42 (o - 1))) 84 ((popM (mset (mset (mset M200 55 44 0) 55 39 ((M200 55 39) - 1)) 55 42 (o - 1))) 55 37 - 1) = x1 from (RP_pop hR240).1]
                  have hR244 : RP M0 (popM (popM (mset (mset (mset M200 55 44 0) 55 39 ((M200 55 39) - 1)) 55 42 (o - 1)))) N_198 Y PP (o - 1) a 0 0 := (RP_pop hR240).2
                  have hR244N := RP_N hR244
                  (try simp only [List.length_cons, List.length_append, List.length_nil] at hR244N)
                  have hR244O := RP_O hR244
                  (try simp only [List.length_cons, List.length_append, List.length_nil] at hR244O)
                  have hR244P := RP_P hR244
                  (try simp only [List.length_cons, List.length_append, List.length_nil] at hR244P)
                  refine G_istore (i := 5) (len := 2) (ls' := [(5, vi x1), (4, vi x2), (3, vi cl), (2, vi (tkA M0 k)), (0, vr 55), (1, vi k)]) (Or.inr ⟨rfl, d_Mo_behind_264⟩) (by decide) rfl (G_pc (pc' := 266) rfl ?_)
                  refine G_aload (i := 0) (n := 4) (len := 1) (Or.inl ⟨0, rfl, rfl, d_Mo_behind_266⟩) rfl (by decide) (G_pc (pc' := 267) rfl ?_)
                  refine G_aload (i := 0) (n := 4) (len := 1) (Or.inl ⟨0, rfl, rfl, d_Mo_behind_267⟩) rfl (by decide) (G_pc (pc' := 268) rfl ?_)
                  refine G_bipush (n := 62) d_Mo_behind_268 (by decide) (G_pc (pc' := 270) rfl ?_)
                  refine G_iload (i := 5) (n := 0) (len := 2) (Or.inr ⟨rfl, d_Mo_behind_270⟩) rfl (G_pc (pc' := 272) rfl ?_)
                  refine G_iload (i := 4) (n := 1) (len := 2) (Or.inr ⟨rfl, d_Mo_behind_272⟩) rfl (G_pc (pc' := 274) rfl ?_)
                  refine G_iconst (n := (-1)) d_Mo_behind_274 (by decide) (G_pc (pc' := 275) rfl ?_)
                  refine G_lconst0 d_Mo_behind_275 (G_pc (pc' := 276) rfl ?_)
                  refine G_callV (K1 := KE) (d2 := 0) (o := 55) (cl := 9) (as := [vi 62, vi x1, vi x2, vi (-1), vl 0]) (rest := [vr 55]) d_Mo_behind_276 mf_Mo_node ml_Mo_226 rfl rfl (by decide) rfl rfl (Nat.le_of_ble_eq_true rfl) (by omega) ⟨Nat.le_refl _, Nat.le_refl _⟩ (g_Mo_node (by omega) 62 x1 x2 (-1) 0 _ (by omega)) (fun r245 M246 kq247 q247 => ?_)
                  clear kq247; obtain ⟨q247a, q247b⟩ := q247; subst r245; subst M246
                  refine G_ps (pc' := 279) (st' := [vi ((popM (popM (mset (mset (mset M200 55 44 0) 55 39 ((M200 55 39) - 1)) 55 42 (o - 1)))) 55 28), vr 55]) rfl rfl ?_
                  rw [show (popM (popM (mset (mset (mset M200 55 44 0) 55 39 ((M200 55 39) - 1)) 55 42 (o - 1)))) 55 28 = ((N_198).length : Int) from RP_N hR244]
                  have hR248 : RP M0 (nodeM (popM (popM (mset (mset (mset M200 55 44 0) 55 39 ((M200 55 39) - 1)) 55 42 (o - 1)))) 62 x1 x2 (-1) 0) (N_198 ++ [(62, x1, x2, (-1), 0)]) Y PP (o - 1) a 0 0 := RP_node hR244
                  have hR248N := RP_N hR248
                  (try simp only [List.length_cons, List.length_append, List.length_nil] at hR248N)
                  have hR248O := RP_O hR248
                  (try simp only [List.length_cons, List.length_append, List.length_nil] at hR248O)
                  have hR248P := RP_P hR248
                  (try simp only [List.length_cons, List.length_append, List.length_nil] at hR248P)
                  refine G_callV (K1 := KE) (d2 := 0) (o := 55) (cl := 9) (as := [vi ((N_198).length : Int)]) (rest := []) d_Mo_behind_279 mf_Mo_push ml_Mo_230 rfl rfl (by decide) rfl rfl (Nat.le_of_ble_eq_true rfl) (by omega) ⟨Nat.le_refl _, Nat.le_refl _⟩ (g_Mo_push (by omega) ((N_198).length : Int) _ (by omega)) (fun r249 M250 kq251 q251 => ?_)
                  clear kq251; obtain ⟨q251a, q251b⟩ := q251; subst r249; subst M250
                  refine G_ps (pc' := 282) (st' := []) rfl rfl ?_
                  have hR252 : RP M0 (pushM (nodeM (popM (popM (mset (mset (mset M200 55 44 0) 55 39 ((M200 55 39) - 1)) 55 42 (o - 1)))) 62 x1 x2 (-1) 0) ((N_198).length : Int)) (N_198 ++ [(62, x1, x2, (-1), 0)]) ((((N_198).length : Int)) :: Y) PP (o - 1) a 0 0 := RP_push hR248
                  have hR252N := RP_N hR252
                  (try simp only [List.length_cons, List.length_append, List.length_nil] at hR252N)
                  have hR252O := RP_O hR252
                  (try simp only [List.length_cons, List.length_append, List.length_nil] at hR252O)
                  have hR252P := RP_P hR252
                  (try simp only [List.length_cons, List.length_append, List.length_nil] at hR252P)
                  refine G_iload (i := 1) (n := 5) (len := 1) (Or.inl ⟨1, rfl, rfl, d_Mo_behind_282⟩) rfl (G_pc (pc' := 283) rfl ?_)
                  refine G_iconst (n := 1) d_Mo_behind_283 (by decide) (G_pc (pc' := 284) rfl ?_)
                  refine G_iadd d_Mo_behind_284 (by omega) (G_pc (pc' := 285) rfl ?_)
                  refine G_iret d_Mo_behind_285 rfl (tokI (by omega)) rfl rfl ?_
                  exact Or.inr ⟨_, _, _, _, _, _, _, by unfold behindS; rw [if_neg (by omega), if_neg (by omega), if_pos (by omega), redS_e hF_198]; unfold closeS; simp only []; first | grind | (simp; grind), rfl, hR252⟩
              · skip
                refine G_iconst (n := 1) d_Mo_behind_211 (by decide) (G_pc (pc' := 212) rfl ?_)
                refine G_goto (tgt := 216) d_Mo_behind_212 (by decide) ?_
                refine G_putL (o := 55) (c := 9) (k := 44) (ki := 44) (x := 1) d_Mo_behind_216 fl_Mo_166 rfl rfl (by decide) (by decide) (by decide) rfl rfl (tokZ (by decide)) rfl (G_pc (pc' := 219) rfl ?_)
                have hR253 : RP M0 (mset M200 55 44 1) N_198 O_198 P_198 o a 0 1 := RP_w hR202
                have hR253N := RP_N hR253
                (try simp only [List.length_cons, List.length_append, List.length_nil] at hR253N)
                have hR253O := RP_O hR253
                (try simp only [List.length_cons, List.length_append, List.length_nil] at hR253O)
                have hR253P := RP_P hR253
                (try simp only [List.length_cons, List.length_append, List.length_nil] at hR253P)
                refine G_aload (i := 0) (n := 2) (len := 1) (Or.inl ⟨0, rfl, rfl, d_Mo_behind_219⟩) rfl (by decide) (G_pc (pc' := 220) rfl ?_)
                refine G_get (o := 55) (c := 9) (k := 44) (v := 1) d_Mo_behind_220 fl_Mo_166 rfl (by decide) (by decide) rfl rfl (G_pc (pc' := 223) rfl ?_)
                refine G_if_eq (tgt := 228) d_Mo_behind_223 (by decide) (fun h254 => absurd h254 (by decide)) (fun h254 => G_pc (pc' := 226) rfl ?_)
                refine G_iload (i := 1) (n := 3) (len := 1) (Or.inl ⟨1, rfl, rfl, d_Mo_behind_226⟩) rfl (G_pc (pc' := 227) rfl ?_)
                refine G_iret d_Mo_behind_227 rfl (tokI (by omega)) rfl rfl ?_
                exact Or.inl ⟨by unfold behindS; rw [if_neg (by omega), if_neg (by omega), if_pos (by omega), redS_e hF_198]; unfold closeS; simp only []; first | grind | (simp; grind), hR253.1, RP_W hR253, _, rfl⟩
      · skip
        refine G_aload (i := 0) (n := 2) (len := 1) (Or.inl ⟨0, rfl, rfl, d_Mo_behind_130⟩) rfl (by decide) (G_pc (pc' := 131) rfl ?_)
        refine G_dup d_Mo_behind_131 (fun _ h => by cases h) (G_pc (pc' := 132) rfl ?_)
        refine G_get (o := 55) (c := 9) (k := 42) (v := M 55 42) d_Mo_behind_132 fl_Mo_233 rfl (by decide) (by decide) rfl rfl (G_pc (pc' := 135) rfl ?_)
        rw [show M 55 42 = o from (show (mset M 55 45 0) 55 42 = o from RP_OP hR3)]
        refine G_iconst (n := 1) d_Mo_behind_135 (by decide) (G_pc (pc' := 136) rfl ?_)
        refine G_iadd d_Mo_behind_136 (by omega) (G_pc (pc' := 137) rfl ?_)
        refine G_putL (o := 55) (c := 9) (k := 42) (ki := 42) (x := o + 1) d_Mo_behind_137 fl_Mo_233 rfl rfl (by decide) (by decide) (by decide) rfl rfl (tokI (by omega)) rfl (G_pc (pc' := 140) rfl ?_)
        have hR255 : RP M0 (mset (mset M 55 45 0) 55 42 (o + 1)) N O P (o + 1) a 0 0 := RP_o hR3
        have hR255N := RP_N hR255
        (try simp only [List.length_cons, List.length_append, List.length_nil] at hR255N)
        have hR255O := RP_O hR255
        (try simp only [List.length_cons, List.length_append, List.length_nil] at hR255O)
        have hR255P := RP_P hR255
        (try simp only [List.length_cons, List.length_append, List.length_nil] at hR255P)
        refine G_aload (i := 0) (n := 2) (len := 1) (Or.inl ⟨0, rfl, rfl, d_Mo_behind_140⟩) rfl (by decide) (G_pc (pc' := 141) rfl ?_)
        refine G_iload (i := 3) (n := 0) (len := 1) (Or.inl ⟨3, rfl, rfl, d_Mo_behind_141⟩) rfl (G_pc (pc' := 142) rfl ?_)
        refine G_if_ne (tgt := 154) d_Mo_behind_142 (by decide) (fun h256 => ?_) (fun h256 => G_pc (pc' := 145) rfl ?_)
        · skip
          refine G_iconst (n := 1) d_Mo_behind_154 (by decide) (G_pc (pc' := 155) rfl ?_)
          refine G_goto (tgt := 159) d_Mo_behind_155 (by decide) ?_
          refine G_putL (o := 55) (c := 9) (k := 44) (ki := 44) (x := 1) d_Mo_behind_159 fl_Mo_166 rfl rfl (by decide) (by decide) (by decide) rfl rfl (tokZ (by decide)) rfl (G_pc (pc' := 162) rfl ?_)
          have hR257 : RP M0 (mset (mset (mset M 55 45 0) 55 42 (o + 1)) 55 44 1) N O P (o + 1) a 0 1 := RP_w hR255
          have hR257N := RP_N hR257
          (try simp only [List.length_cons, List.length_append, List.length_nil] at hR257N)
          have hR257O := RP_O hR257
          (try simp only [List.length_cons, List.length_append, List.length_nil] at hR257O)
          have hR257P := RP_P hR257
          (try simp only [List.length_cons, List.length_append, List.length_nil] at hR257P)
          refine G_aload (i := 0) (n := 2) (len := 1) (Or.inl ⟨0, rfl, rfl, d_Mo_behind_162⟩) rfl (by decide) (G_pc (pc' := 163) rfl ?_)
          refine G_bipush (n := 22) d_Mo_behind_163 (by decide) (G_pc (pc' := 165) rfl ?_)
          refine G_iconst (n := 0) d_Mo_behind_165 (by decide) (G_pc (pc' := 166) rfl ?_)
          refine G_callV (K1 := KE) (d2 := 0) (o := 55) (cl := 9) (as := [vi 22, vi 0]) (rest := []) d_Mo_behind_166 mf_Mo_hold ml_Mo_257 rfl rfl (by decide) rfl rfl (Nat.le_of_ble_eq_true rfl) (by omega) ⟨Nat.le_refl _, Nat.le_refl _⟩ (g_Mo_hold (by omega) 22 0 _ (by omega)) (fun r258 M259 kq260 q260 => ?_)
          clear kq260; obtain ⟨q260a, q260b⟩ := q260; subst r258; subst M259
          refine G_ps (pc' := 169) (st' := []) rfl rfl ?_
          have hR261 : RP M0 (holdM (mset (mset (mset M 55 45 0) 55 42 (o + 1)) 55 44 1) 22 0) N O ((22, 0) :: P) (o + 1) a 0 1 := RP_hold hR257
          have hR261N := RP_N hR261
          (try simp only [List.length_cons, List.length_append, List.length_nil] at hR261N)
          have hR261O := RP_O hR261
          (try simp only [List.length_cons, List.length_append, List.length_nil] at hR261O)
          have hR261P := RP_P hR261
          (try simp only [List.length_cons, List.length_append, List.length_nil] at hR261P)
          refine G_iload (i := 1) (n := 3) (len := 1) (Or.inl ⟨1, rfl, rfl, d_Mo_behind_169⟩) rfl (G_pc (pc' := 170) rfl ?_)
          refine G_iconst (n := 1) d_Mo_behind_170 (by decide) (G_pc (pc' := 171) rfl ?_)
          refine G_iadd d_Mo_behind_171 (by omega) (G_pc (pc' := 172) rfl ?_)
          refine G_iret d_Mo_behind_172 rfl (tokI (by omega)) rfl rfl ?_
          exact Or.inl ⟨by unfold behindS; rw [if_neg (by omega), if_pos (by omega)]; unfold sqS; simp only []; first | grind | (simp; grind), hR261.1, RP_W hR261, _, rfl⟩
        · skip
          refine G_aload (i := 0) (n := 2) (len := 1) (Or.inl ⟨0, rfl, rfl, d_Mo_behind_145⟩) rfl (by decide) (G_pc (pc' := 146) rfl ?_)
          refine G_get (o := 55) (c := 9) (k := 42) (v := o + 1) d_Mo_behind_146 fl_Mo_233 rfl (by decide) (by decide) rfl rfl (G_pc (pc' := 149) rfl ?_)
          refine G_bipush (n := 6) d_Mo_behind_149 (by decide) (G_pc (pc' := 151) rfl ?_)
          refine G_icmp_le (tgt := 158) d_Mo_behind_151 (by decide) (fun h262 => ?_) (fun h262 => G_pc (pc' := 154) rfl ?_)
          · skip
            refine G_iconst (n := 0) d_Mo_behind_158 (by decide) (G_pc (pc' := 159) rfl ?_)
            refine G_putL (o := 55) (c := 9) (k := 44) (ki := 44) (x := 0) d_Mo_behind_159 fl_Mo_166 rfl rfl (by decide) (by decide) (by decide) rfl rfl (tokZ (by decide)) rfl (G_pc (pc' := 162) rfl ?_)
            have hR263 : RP M0 (mset (mset (mset M 55 45 0) 55 42 (o + 1)) 55 44 0) N O P (o + 1) a 0 0 := RP_w hR255
            have hR263N := RP_N hR263
            (try simp only [List.length_cons, List.length_append, List.length_nil] at hR263N)
            have hR263O := RP_O hR263
            (try simp only [List.length_cons, List.length_append, List.length_nil] at hR263O)
            have hR263P := RP_P hR263
            (try simp only [List.length_cons, List.length_append, List.length_nil] at hR263P)
            refine G_aload (i := 0) (n := 2) (len := 1) (Or.inl ⟨0, rfl, rfl, d_Mo_behind_162⟩) rfl (by decide) (G_pc (pc' := 163) rfl ?_)
            refine G_bipush (n := 22) d_Mo_behind_163 (by decide) (G_pc (pc' := 165) rfl ?_)
            refine G_iconst (n := 0) d_Mo_behind_165 (by decide) (G_pc (pc' := 166) rfl ?_)
            refine G_callV (K1 := KE) (d2 := 0) (o := 55) (cl := 9) (as := [vi 22, vi 0]) (rest := []) d_Mo_behind_166 mf_Mo_hold ml_Mo_257 rfl rfl (by decide) rfl rfl (Nat.le_of_ble_eq_true rfl) (by omega) ⟨Nat.le_refl _, Nat.le_refl _⟩ (g_Mo_hold (by omega) 22 0 _ (by omega)) (fun r264 M265 kq266 q266 => ?_)
            clear kq266; obtain ⟨q266a, q266b⟩ := q266; subst r264; subst M265
            refine G_ps (pc' := 169) (st' := []) rfl rfl ?_
            have hR267 : RP M0 (holdM (mset (mset (mset M 55 45 0) 55 42 (o + 1)) 55 44 0) 22 0) N O ((22, 0) :: P) (o + 1) a 0 0 := RP_hold hR263
            have hR267N := RP_N hR267
            (try simp only [List.length_cons, List.length_append, List.length_nil] at hR267N)
            have hR267O := RP_O hR267
            (try simp only [List.length_cons, List.length_append, List.length_nil] at hR267O)
            have hR267P := RP_P hR267
            (try simp only [List.length_cons, List.length_append, List.length_nil] at hR267P)
            refine G_iload (i := 1) (n := 3) (len := 1) (Or.inl ⟨1, rfl, rfl, d_Mo_behind_169⟩) rfl (G_pc (pc' := 170) rfl ?_)
            refine G_iconst (n := 1) d_Mo_behind_170 (by decide) (G_pc (pc' := 171) rfl ?_)
            refine G_iadd d_Mo_behind_171 (by omega) (G_pc (pc' := 172) rfl ?_)
            refine G_iret d_Mo_behind_172 rfl (tokI (by omega)) rfl rfl ?_
            exact Or.inr ⟨_, _, _, _, _, _, _, by unfold behindS; rw [if_neg (by omega), if_pos (by omega)]; unfold sqS; simp only []; first | grind | (simp; grind), rfl, hR267⟩
          · skip
            refine G_iconst (n := 1) d_Mo_behind_154 (by decide) (G_pc (pc' := 155) rfl ?_)
            refine G_goto (tgt := 159) d_Mo_behind_155 (by decide) ?_
            refine G_putL (o := 55) (c := 9) (k := 44) (ki := 44) (x := 1) d_Mo_behind_159 fl_Mo_166 rfl rfl (by decide) (by decide) (by decide) rfl rfl (tokZ (by decide)) rfl (G_pc (pc' := 162) rfl ?_)
            have hR268 : RP M0 (mset (mset (mset M 55 45 0) 55 42 (o + 1)) 55 44 1) N O P (o + 1) a 0 1 := RP_w hR255
            have hR268N := RP_N hR268
            (try simp only [List.length_cons, List.length_append, List.length_nil] at hR268N)
            have hR268O := RP_O hR268
            (try simp only [List.length_cons, List.length_append, List.length_nil] at hR268O)
            have hR268P := RP_P hR268
            (try simp only [List.length_cons, List.length_append, List.length_nil] at hR268P)
            refine G_aload (i := 0) (n := 2) (len := 1) (Or.inl ⟨0, rfl, rfl, d_Mo_behind_162⟩) rfl (by decide) (G_pc (pc' := 163) rfl ?_)
            refine G_bipush (n := 22) d_Mo_behind_163 (by decide) (G_pc (pc' := 165) rfl ?_)
            refine G_iconst (n := 0) d_Mo_behind_165 (by decide) (G_pc (pc' := 166) rfl ?_)
            refine G_callV (K1 := KE) (d2 := 0) (o := 55) (cl := 9) (as := [vi 22, vi 0]) (rest := []) d_Mo_behind_166 mf_Mo_hold ml_Mo_257 rfl rfl (by decide) rfl rfl (Nat.le_of_ble_eq_true rfl) (by omega) ⟨Nat.le_refl _, Nat.le_refl _⟩ (g_Mo_hold (by omega) 22 0 _ (by omega)) (fun r269 M270 kq271 q271 => ?_)
            clear kq271; obtain ⟨q271a, q271b⟩ := q271; subst r269; subst M270
            refine G_ps (pc' := 169) (st' := []) rfl rfl ?_
            have hR272 : RP M0 (holdM (mset (mset (mset M 55 45 0) 55 42 (o + 1)) 55 44 1) 22 0) N O ((22, 0) :: P) (o + 1) a 0 1 := RP_hold hR268
            have hR272N := RP_N hR272
            (try simp only [List.length_cons, List.length_append, List.length_nil] at hR272N)
            have hR272O := RP_O hR272
            (try simp only [List.length_cons, List.length_append, List.length_nil] at hR272O)
            have hR272P := RP_P hR272
            (try simp only [List.length_cons, List.length_append, List.length_nil] at hR272P)
            refine G_iload (i := 1) (n := 3) (len := 1) (Or.inl ⟨1, rfl, rfl, d_Mo_behind_169⟩) rfl (G_pc (pc' := 170) rfl ?_)
            refine G_iconst (n := 1) d_Mo_behind_170 (by decide) (G_pc (pc' := 171) rfl ?_)
            refine G_iadd d_Mo_behind_171 (by omega) (G_pc (pc' := 172) rfl ?_)
            refine G_iret d_Mo_behind_172 rfl (tokI (by omega)) rfl rfl ?_
            exact Or.inl ⟨by unfold behindS; rw [if_neg (by omega), if_pos (by omega)]; unfold sqS; simp only []; first | grind | (simp; grind), hR272.1, RP_W hR272, _, rfl⟩
    · skip
      refine G_aload (i := 0) (n := 2) (len := 1) (Or.inl ⟨0, rfl, rfl, d_Mo_behind_33⟩) rfl (by decide) (G_pc (pc' := 34) rfl ?_)
      refine G_iload (i := 1) (n := 3) (len := 1) (Or.inl ⟨1, rfl, rfl, d_Mo_behind_34⟩) rfl (G_pc (pc' := 35) rfl ?_)
      refine G_iconst (n := 1) d_Mo_behind_35 (by decide) (G_pc (pc' := 36) rfl ?_)
      refine G_iadd d_Mo_behind_36 (by omega) (G_pc (pc' := 37) rfl ?_)
      refine G_callV (K1 := KE) (d2 := 0) (o := 55) (cl := 9) (as := [vi (k + 1)]) (rest := []) d_Mo_behind_37 mf_Mo_tokenAt ml_Mo_254 rfl rfl (by decide) rfl rfl (Nat.le_of_ble_eq_true rfl) (by omega) ⟨Nat.le_refl _, Nat.le_refl _⟩ (g_Mo_tokenAt (by omega) (k + 1) _ (by omega) (by rw [RP_n hR3]; omega)) (fun r273 M274 kq275 q275 => ?_)
      clear kq275; obtain ⟨q275a, q275b⟩ := q275; subst r273; subst M274
      refine G_ps (pc' := 40) (st' := [vi (tkA (mset M 55 45 0) (k + 1))]) rfl rfl ?_
      rw [show tkA (mset M 55 45 0) (k + 1) = tkA M0 (k + 1) from RP_tk hR3 _]
      refine G_istore (i := 4) (len := 2) (ls' := [(4, vi (tkA M0 (k + 1))), (3, vi cl), (2, vi (tkA M0 k)), (0, vr 55), (1, vi k)]) (Or.inr ⟨rfl, d_Mo_behind_40⟩) (by decide) rfl (G_pc (pc' := 42) rfl ?_)
      refine G_aload (i := 0) (n := 3) (len := 1) (Or.inl ⟨0, rfl, rfl, d_Mo_behind_42⟩) rfl (by decide) (G_pc (pc' := 43) rfl ?_)
      refine G_iload (i := 3) (n := 1) (len := 1) (Or.inl ⟨3, rfl, rfl, d_Mo_behind_43⟩) rfl (G_pc (pc' := 44) rfl ?_)
      refine G_if_ne (tgt := 61) d_Mo_behind_44 (by decide) (fun h276 => ?_) (fun h276 => G_pc (pc' := 47) rfl ?_)
      · skip
        refine G_iconst (n := 1) d_Mo_behind_61 (by decide) (G_pc (pc' := 62) rfl ?_)
        refine G_goto (tgt := 66) d_Mo_behind_62 (by decide) ?_
        refine G_putL (o := 55) (c := 9) (k := 44) (ki := 44) (x := 1) d_Mo_behind_66 fl_Mo_166 rfl rfl (by decide) (by decide) (by decide) rfl rfl (tokZ (by decide)) rfl (G_pc (pc' := 69) rfl ?_)
        have hR277 : RP M0 (mset (mset M 55 45 0) 55 44 1) N O P o a 0 1 := RP_w hR3
        have hR277N := RP_N hR277
        (try simp only [List.length_cons, List.length_append, List.length_nil] at hR277N)
        have hR277O := RP_O hR277
        (try simp only [List.length_cons, List.length_append, List.length_nil] at hR277O)
        have hR277P := RP_P hR277
        (try simp only [List.length_cons, List.length_append, List.length_nil] at hR277P)
        obtain ⟨x1, Y, rfl⟩ := cons1 (O := O) (by omega)
        simp only [List.length_cons] at *
        refine G_aload (i := 0) (n := 3) (len := 1) (Or.inl ⟨0, rfl, rfl, d_Mo_behind_69⟩) rfl (by decide) (G_pc (pc' := 70) rfl ?_)
        refine G_callV (K1 := KE) (d2 := 0) (o := 55) (cl := 9) (as := []) (rest := []) d_Mo_behind_70 mf_Mo_pop ml_Mo_223 rfl rfl (by decide) rfl rfl (Nat.le_of_ble_eq_true rfl) (by omega) ⟨Nat.le_refl _, Nat.le_refl _⟩ (g_Mo_pop (by omega)  _ (by omega)) (fun r278 M279 kq280 q280 => ?_)
        clear kq280; obtain ⟨q280a, q280b⟩ := q280; subst r278; subst M279
        refine G_ps (pc' := 73) (st' := [vi ((mset (mset M 55 45 0) 55 44 1) 84 ((mset (mset M 55 45 0) 55 44 1) 55 37 - 1))]) rfl rfl ?_
        rw [show (mset (mset M 55 45 0) 55 44 1) 84 ((mset (mset M 55 45 0) 55 44 1) 55 37 - 1) = x1 from (RP_pop hR277).1]
        have hR281 : RP M0 (popM (mset (mset M 55 45 0) 55 44 1)) N Y P o a 0 1 := (RP_pop hR277).2
        have hR281N := RP_N hR281
        (try simp only [List.length_cons, List.length_append, List.length_nil] at hR281N)
        have hR281O := RP_O hR281
        (try simp only [List.length_cons, List.length_append, List.length_nil] at hR281O)
        have hR281P := RP_P hR281
        (try simp only [List.length_cons, List.length_append, List.length_nil] at hR281P)
        refine G_istore (i := 5) (len := 2) (ls' := [(5, vi x1), (4, vi (tkA M0 (k + 1))), (3, vi cl), (2, vi (tkA M0 k)), (0, vr 55), (1, vi k)]) (Or.inr ⟨rfl, d_Mo_behind_73⟩) (by decide) rfl (G_pc (pc' := 75) rfl ?_)
        refine G_aload (i := 0) (n := 4) (len := 1) (Or.inl ⟨0, rfl, rfl, d_Mo_behind_75⟩) rfl (by decide) (G_pc (pc' := 76) rfl ?_)
        refine G_aload (i := 0) (n := 4) (len := 1) (Or.inl ⟨0, rfl, rfl, d_Mo_behind_76⟩) rfl (by decide) (G_pc (pc' := 77) rfl ?_)
        refine G_iload (i := 4) (n := 1) (len := 2) (Or.inr ⟨rfl, d_Mo_behind_77⟩) rfl (G_pc (pc' := 79) rfl ?_)
        refine G_bipush (n := 7) d_Mo_behind_79 (by decide) (G_pc (pc' := 81) rfl ?_)
        refine G_icmp_ne (tgt := 89) d_Mo_behind_81 (by decide) (fun h282 => ?_) (fun h282 => G_pc (pc' := 84) rfl ?_)
        · skip
          refine G_bipush (n := 61) d_Mo_behind_89 (by decide) (G_pc (pc' := 91) rfl ?_)
          refine G_iload (i := 5) (n := 0) (len := 2) (Or.inr ⟨rfl, d_Mo_behind_91⟩) rfl (G_pc (pc' := 93) rfl ?_)
          refine G_iconst (n := (-1)) d_Mo_behind_93 (by decide) (G_pc (pc' := 94) rfl ?_)
          refine G_iconst (n := (-1)) d_Mo_behind_94 (by decide) (G_pc (pc' := 95) rfl ?_)
          refine G_aload (i := 0) (n := 4) (len := 1) (Or.inl ⟨0, rfl, rfl, d_Mo_behind_95⟩) rfl (by decide) (G_pc (pc' := 96) rfl ?_)
          refine G_get (o := 55) (c := 9) (k := 44) (v := (popM (mset (mset M 55 45 0) 55 44 1)) 55 44) d_Mo_behind_96 fl_Mo_166 rfl (by decide) (by decide) rfl rfl (G_pc (pc' := 99) rfl ?_)
          rw [show (popM (mset (mset M 55 45 0) 55 44 1)) 55 44 = 1 from (show (popM (mset (mset M 55 45 0) 55 44 1)) 55 44 = 1 from RP_W hR281)]
          refine G_if_eq (tgt := 106) d_Mo_behind_99 (by decide) (fun h283 => absurd h283 (by decide)) (fun h283 => G_pc (pc' := 102) rfl ?_)
          refine G_lconst0 d_Mo_behind_102 (G_pc (pc' := 103) rfl ?_)
          refine G_goto (tgt := 114) d_Mo_behind_103 (by decide) ?_
          refine G_callV (K1 := KE) (d2 := 0) (o := 55) (cl := 9) (as := [vi 61, vi x1, vi (-1), vi (-1), vl 0]) (rest := [vr 55]) d_Mo_behind_114 mf_Mo_node ml_Mo_226 rfl rfl (by decide) rfl rfl (Nat.le_of_ble_eq_true rfl) (by omega) ⟨Nat.le_refl _, Nat.le_refl _⟩ (g_Mo_node (by omega) 61 x1 (-1) (-1) 0 _ (by omega)) (fun r284 M285 kq286 q286 => ?_)
          clear kq286; obtain ⟨q286a, q286b⟩ := q286; subst r284; subst M285
          refine G_ps (pc' := 117) (st' := [vi ((popM (mset (mset M 55 45 0) 55 44 1)) 55 28), vr 55]) rfl rfl ?_
          rw [show (popM (mset (mset M 55 45 0) 55 44 1)) 55 28 = ((N).length : Int) from RP_N hR281]
          have hR287 : RP M0 (nodeM (popM (mset (mset M 55 45 0) 55 44 1)) 61 x1 (-1) (-1) 0) (N ++ [(61, x1, (-1), (-1), 0)]) Y P o a 0 1 := RP_node hR281
          have hR287N := RP_N hR287
          (try simp only [List.length_cons, List.length_append, List.length_nil] at hR287N)
          have hR287O := RP_O hR287
          (try simp only [List.length_cons, List.length_append, List.length_nil] at hR287O)
          have hR287P := RP_P hR287
          (try simp only [List.length_cons, List.length_append, List.length_nil] at hR287P)
          refine G_callV (K1 := KE) (d2 := 0) (o := 55) (cl := 9) (as := [vi ((N).length : Int)]) (rest := []) d_Mo_behind_117 mf_Mo_push ml_Mo_230 rfl rfl (by decide) rfl rfl (Nat.le_of_ble_eq_true rfl) (by omega) ⟨Nat.le_refl _, Nat.le_refl _⟩ (g_Mo_push (by omega) ((N).length : Int) _ (by omega)) (fun r288 M289 kq290 q290 => ?_)
          clear kq290; obtain ⟨q290a, q290b⟩ := q290; subst r288; subst M289
          refine G_ps (pc' := 120) (st' := []) rfl rfl ?_
          have hR291 : RP M0 (pushM (nodeM (popM (mset (mset M 55 45 0) 55 44 1)) 61 x1 (-1) (-1) 0) ((N).length : Int)) (N ++ [(61, x1, (-1), (-1), 0)]) ((((N).length : Int)) :: Y) P o a 0 1 := RP_push hR287
          have hR291N := RP_N hR291
          (try simp only [List.length_cons, List.length_append, List.length_nil] at hR291N)
          have hR291O := RP_O hR291
          (try simp only [List.length_cons, List.length_append, List.length_nil] at hR291O)
          have hR291P := RP_P hR291
          (try simp only [List.length_cons, List.length_append, List.length_nil] at hR291P)
          refine G_iload (i := 1) (n := 5) (len := 1) (Or.inl ⟨1, rfl, rfl, d_Mo_behind_120⟩) rfl (G_pc (pc' := 121) rfl ?_)
          refine G_iconst (n := 2) d_Mo_behind_121 (by decide) (G_pc (pc' := 122) rfl ?_)
          refine G_iadd d_Mo_behind_122 (by omega) (G_pc (pc' := 123) rfl ?_)
          refine G_iret d_Mo_behind_123 rfl (tokI (by omega)) rfl rfl ?_
          exact Or.inl ⟨by unfold behindS; rw [if_pos (by omega)]; unfold dotS; simp only []; first | grind | (simp; grind), hR291.1, RP_W hR291, _, rfl⟩
        · skip
          refine G_bipush (n := 60) d_Mo_behind_84 (by decide) (G_pc (pc' := 86) rfl ?_)
          refine G_goto (tgt := 91) d_Mo_behind_86 (by decide) ?_
          refine G_iload (i := 5) (n := 0) (len := 2) (Or.inr ⟨rfl, d_Mo_behind_91⟩) rfl (G_pc (pc' := 93) rfl ?_)
          refine G_iconst (n := (-1)) d_Mo_behind_93 (by decide) (G_pc (pc' := 94) rfl ?_)
          refine G_iconst (n := (-1)) d_Mo_behind_94 (by decide) (G_pc (pc' := 95) rfl ?_)
          refine G_aload (i := 0) (n := 4) (len := 1) (Or.inl ⟨0, rfl, rfl, d_Mo_behind_95⟩) rfl (by decide) (G_pc (pc' := 96) rfl ?_)
          refine G_get (o := 55) (c := 9) (k := 44) (v := (popM (mset (mset M 55 45 0) 55 44 1)) 55 44) d_Mo_behind_96 fl_Mo_166 rfl (by decide) (by decide) rfl rfl (G_pc (pc' := 99) rfl ?_)
          rw [show (popM (mset (mset M 55 45 0) 55 44 1)) 55 44 = 1 from (show (popM (mset (mset M 55 45 0) 55 44 1)) 55 44 = 1 from RP_W hR281)]
          refine G_if_eq (tgt := 106) d_Mo_behind_99 (by decide) (fun h292 => absurd h292 (by decide)) (fun h292 => G_pc (pc' := 102) rfl ?_)
          refine G_lconst0 d_Mo_behind_102 (G_pc (pc' := 103) rfl ?_)
          refine G_goto (tgt := 114) d_Mo_behind_103 (by decide) ?_
          refine G_callV (K1 := KE) (d2 := 0) (o := 55) (cl := 9) (as := [vi 60, vi x1, vi (-1), vi (-1), vl 0]) (rest := [vr 55]) d_Mo_behind_114 mf_Mo_node ml_Mo_226 rfl rfl (by decide) rfl rfl (Nat.le_of_ble_eq_true rfl) (by omega) ⟨Nat.le_refl _, Nat.le_refl _⟩ (g_Mo_node (by omega) 60 x1 (-1) (-1) 0 _ (by omega)) (fun r293 M294 kq295 q295 => ?_)
          clear kq295; obtain ⟨q295a, q295b⟩ := q295; subst r293; subst M294
          refine G_ps (pc' := 117) (st' := [vi ((popM (mset (mset M 55 45 0) 55 44 1)) 55 28), vr 55]) rfl rfl ?_
          rw [show (popM (mset (mset M 55 45 0) 55 44 1)) 55 28 = ((N).length : Int) from RP_N hR281]
          have hR296 : RP M0 (nodeM (popM (mset (mset M 55 45 0) 55 44 1)) 60 x1 (-1) (-1) 0) (N ++ [(60, x1, (-1), (-1), 0)]) Y P o a 0 1 := RP_node hR281
          have hR296N := RP_N hR296
          (try simp only [List.length_cons, List.length_append, List.length_nil] at hR296N)
          have hR296O := RP_O hR296
          (try simp only [List.length_cons, List.length_append, List.length_nil] at hR296O)
          have hR296P := RP_P hR296
          (try simp only [List.length_cons, List.length_append, List.length_nil] at hR296P)
          refine G_callV (K1 := KE) (d2 := 0) (o := 55) (cl := 9) (as := [vi ((N).length : Int)]) (rest := []) d_Mo_behind_117 mf_Mo_push ml_Mo_230 rfl rfl (by decide) rfl rfl (Nat.le_of_ble_eq_true rfl) (by omega) ⟨Nat.le_refl _, Nat.le_refl _⟩ (g_Mo_push (by omega) ((N).length : Int) _ (by omega)) (fun r297 M298 kq299 q299 => ?_)
          clear kq299; obtain ⟨q299a, q299b⟩ := q299; subst r297; subst M298
          refine G_ps (pc' := 120) (st' := []) rfl rfl ?_
          have hR300 : RP M0 (pushM (nodeM (popM (mset (mset M 55 45 0) 55 44 1)) 60 x1 (-1) (-1) 0) ((N).length : Int)) (N ++ [(60, x1, (-1), (-1), 0)]) ((((N).length : Int)) :: Y) P o a 0 1 := RP_push hR296
          have hR300N := RP_N hR300
          (try simp only [List.length_cons, List.length_append, List.length_nil] at hR300N)
          have hR300O := RP_O hR300
          (try simp only [List.length_cons, List.length_append, List.length_nil] at hR300O)
          have hR300P := RP_P hR300
          (try simp only [List.length_cons, List.length_append, List.length_nil] at hR300P)
          refine G_iload (i := 1) (n := 5) (len := 1) (Or.inl ⟨1, rfl, rfl, d_Mo_behind_120⟩) rfl (G_pc (pc' := 121) rfl ?_)
          refine G_iconst (n := 2) d_Mo_behind_121 (by decide) (G_pc (pc' := 122) rfl ?_)
          refine G_iadd d_Mo_behind_122 (by omega) (G_pc (pc' := 123) rfl ?_)
          refine G_iret d_Mo_behind_123 rfl (tokI (by omega)) rfl rfl ?_
          exact Or.inl ⟨by unfold behindS; rw [if_pos (by omega)]; unfold dotS; simp only []; first | grind | (simp; grind), hR300.1, RP_W hR300, _, rfl⟩
      · skip
        refine G_iload (i := 4) (n := 0) (len := 2) (Or.inr ⟨rfl, d_Mo_behind_47⟩) rfl (G_pc (pc' := 49) rfl ?_)
        refine G_bipush (n := 7) d_Mo_behind_49 (by decide) (G_pc (pc' := 51) rfl ?_)
        refine G_icmp_eq (tgt := 65) d_Mo_behind_51 (by decide) (fun h301 => ?_) (fun h301 => G_pc (pc' := 54) rfl ?_)
        · skip
          refine G_iconst (n := 0) d_Mo_behind_65 (by decide) (G_pc (pc' := 66) rfl ?_)
          refine G_putL (o := 55) (c := 9) (k := 44) (ki := 44) (x := 0) d_Mo_behind_66 fl_Mo_166 rfl rfl (by decide) (by decide) (by decide) rfl rfl (tokZ (by decide)) rfl (G_pc (pc' := 69) rfl ?_)
          have hR302 : RP M0 (mset (mset M 55 45 0) 55 44 0) N O P o a 0 0 := RP_w hR3
          have hR302N := RP_N hR302
          (try simp only [List.length_cons, List.length_append, List.length_nil] at hR302N)
          have hR302O := RP_O hR302
          (try simp only [List.length_cons, List.length_append, List.length_nil] at hR302O)
          have hR302P := RP_P hR302
          (try simp only [List.length_cons, List.length_append, List.length_nil] at hR302P)
          obtain ⟨x1, Y, rfl⟩ := cons1 (O := O) (by omega)
          simp only [List.length_cons] at *
          refine G_aload (i := 0) (n := 3) (len := 1) (Or.inl ⟨0, rfl, rfl, d_Mo_behind_69⟩) rfl (by decide) (G_pc (pc' := 70) rfl ?_)
          refine G_callV (K1 := KE) (d2 := 0) (o := 55) (cl := 9) (as := []) (rest := []) d_Mo_behind_70 mf_Mo_pop ml_Mo_223 rfl rfl (by decide) rfl rfl (Nat.le_of_ble_eq_true rfl) (by omega) ⟨Nat.le_refl _, Nat.le_refl _⟩ (g_Mo_pop (by omega)  _ (by omega)) (fun r303 M304 kq305 q305 => ?_)
          clear kq305; obtain ⟨q305a, q305b⟩ := q305; subst r303; subst M304
          refine G_ps (pc' := 73) (st' := [vi ((mset (mset M 55 45 0) 55 44 0) 84 ((mset (mset M 55 45 0) 55 44 0) 55 37 - 1))]) rfl rfl ?_
          rw [show (mset (mset M 55 45 0) 55 44 0) 84 ((mset (mset M 55 45 0) 55 44 0) 55 37 - 1) = x1 from (RP_pop hR302).1]
          have hR306 : RP M0 (popM (mset (mset M 55 45 0) 55 44 0)) N Y P o a 0 0 := (RP_pop hR302).2
          have hR306N := RP_N hR306
          (try simp only [List.length_cons, List.length_append, List.length_nil] at hR306N)
          have hR306O := RP_O hR306
          (try simp only [List.length_cons, List.length_append, List.length_nil] at hR306O)
          have hR306P := RP_P hR306
          (try simp only [List.length_cons, List.length_append, List.length_nil] at hR306P)
          refine G_istore (i := 5) (len := 2) (ls' := [(5, vi x1), (4, vi (tkA M0 (k + 1))), (3, vi cl), (2, vi (tkA M0 k)), (0, vr 55), (1, vi k)]) (Or.inr ⟨rfl, d_Mo_behind_73⟩) (by decide) rfl (G_pc (pc' := 75) rfl ?_)
          refine G_aload (i := 0) (n := 4) (len := 1) (Or.inl ⟨0, rfl, rfl, d_Mo_behind_75⟩) rfl (by decide) (G_pc (pc' := 76) rfl ?_)
          refine G_aload (i := 0) (n := 4) (len := 1) (Or.inl ⟨0, rfl, rfl, d_Mo_behind_76⟩) rfl (by decide) (G_pc (pc' := 77) rfl ?_)
          refine G_iload (i := 4) (n := 1) (len := 2) (Or.inr ⟨rfl, d_Mo_behind_77⟩) rfl (G_pc (pc' := 79) rfl ?_)
          refine G_bipush (n := 7) d_Mo_behind_79 (by decide) (G_pc (pc' := 81) rfl ?_)
          refine G_icmp_ne (tgt := 89) d_Mo_behind_81 (by decide) (fun h307 => ?_) (fun h307 => G_pc (pc' := 84) rfl ?_)
          · skip
            refine G_bipush (n := 61) d_Mo_behind_89 (by decide) (G_pc (pc' := 91) rfl ?_)
            refine G_iload (i := 5) (n := 0) (len := 2) (Or.inr ⟨rfl, d_Mo_behind_91⟩) rfl (G_pc (pc' := 93) rfl ?_)
            refine G_iconst (n := (-1)) d_Mo_behind_93 (by decide) (G_pc (pc' := 94) rfl ?_)
            refine G_iconst (n := (-1)) d_Mo_behind_94 (by decide) (G_pc (pc' := 95) rfl ?_)
            refine G_aload (i := 0) (n := 4) (len := 1) (Or.inl ⟨0, rfl, rfl, d_Mo_behind_95⟩) rfl (by decide) (G_pc (pc' := 96) rfl ?_)
            refine G_get (o := 55) (c := 9) (k := 44) (v := (popM (mset (mset M 55 45 0) 55 44 0)) 55 44) d_Mo_behind_96 fl_Mo_166 rfl (by decide) (by decide) rfl rfl (G_pc (pc' := 99) rfl ?_)
            rw [show (popM (mset (mset M 55 45 0) 55 44 0)) 55 44 = 0 from (show (popM (mset (mset M 55 45 0) 55 44 0)) 55 44 = 0 from RP_W hR306)]
            refine G_if_eq (tgt := 106) d_Mo_behind_99 (by decide) (fun h308 => ?_) (fun h308 => absurd h308 (by decide))
            refine G_aload (i := 0) (n := 4) (len := 1) (Or.inl ⟨0, rfl, rfl, d_Mo_behind_106⟩) rfl (by decide) (G_pc (pc' := 107) rfl ?_)
            refine G_get (o := 55) (c := 9) (k := 27) (v := 75) d_Mo_behind_107 fl_Mo_69 rfl (by decide) (by decide) rfl rfl (G_pc (pc' := 110) rfl ?_)
            refine G_iload (i := 1) (n := 5) (len := 1) (Or.inl ⟨1, rfl, rfl, d_Mo_behind_110⟩) rfl (G_pc (pc' := 111) rfl ?_)
            refine G_iconst (n := 1) d_Mo_behind_111 (by decide) (G_pc (pc' := 112) rfl ?_)
            refine G_iadd d_Mo_behind_112 (by omega) (G_pc (pc' := 113) rfl ?_)
            refine G_laload (o := 75) (n := 25) (i := k + 1) (v := (popM (mset (mset M 55 45 0) 55 44 0)) 75 (k + 1)) d_Mo_behind_113 rfl ⟨by decide, by decide⟩ (by omega) (rd_arr rfl) (fun t309 => G_pc (pc' := 114) rfl ?_)
            have t309 := tok_l t309
            rw [show (popM (mset (mset M 55 45 0) 55 44 0)) 75 (k + 1) = M0 75 (k + 1) from RP_v hR306]
            refine G_callV (K1 := KE) (d2 := 0) (o := 55) (cl := 9) (as := [vi 61, vi x1, vi (-1), vi (-1), vl (M0 75 (k + 1))]) (rest := [vr 55]) d_Mo_behind_114 mf_Mo_node ml_Mo_226 rfl rfl (by decide) rfl rfl (Nat.le_of_ble_eq_true rfl) (by omega) ⟨Nat.le_refl _, Nat.le_refl _⟩ (g_Mo_node (by omega) 61 x1 (-1) (-1) (M0 75 (k + 1)) _ (by omega)) (fun r310 M311 kq312 q312 => ?_)
            clear kq312; obtain ⟨q312a, q312b⟩ := q312; subst r310; subst M311
            refine G_ps (pc' := 117) (st' := [vi ((popM (mset (mset M 55 45 0) 55 44 0)) 55 28), vr 55]) rfl rfl ?_
            rw [show (popM (mset (mset M 55 45 0) 55 44 0)) 55 28 = ((N).length : Int) from RP_N hR306]
            have hR313 : RP M0 (nodeM (popM (mset (mset M 55 45 0) 55 44 0)) 61 x1 (-1) (-1) (M0 75 (k + 1))) (N ++ [(61, x1, (-1), (-1), M0 75 (k + 1))]) Y P o a 0 0 := RP_node hR306
            have hR313N := RP_N hR313
            (try simp only [List.length_cons, List.length_append, List.length_nil] at hR313N)
            have hR313O := RP_O hR313
            (try simp only [List.length_cons, List.length_append, List.length_nil] at hR313O)
            have hR313P := RP_P hR313
            (try simp only [List.length_cons, List.length_append, List.length_nil] at hR313P)
            refine G_callV (K1 := KE) (d2 := 0) (o := 55) (cl := 9) (as := [vi ((N).length : Int)]) (rest := []) d_Mo_behind_117 mf_Mo_push ml_Mo_230 rfl rfl (by decide) rfl rfl (Nat.le_of_ble_eq_true rfl) (by omega) ⟨Nat.le_refl _, Nat.le_refl _⟩ (g_Mo_push (by omega) ((N).length : Int) _ (by omega)) (fun r314 M315 kq316 q316 => ?_)
            clear kq316; obtain ⟨q316a, q316b⟩ := q316; subst r314; subst M315
            refine G_ps (pc' := 120) (st' := []) rfl rfl ?_
            have hR317 : RP M0 (pushM (nodeM (popM (mset (mset M 55 45 0) 55 44 0)) 61 x1 (-1) (-1) (M0 75 (k + 1))) ((N).length : Int)) (N ++ [(61, x1, (-1), (-1), M0 75 (k + 1))]) ((((N).length : Int)) :: Y) P o a 0 0 := RP_push hR313
            have hR317N := RP_N hR317
            (try simp only [List.length_cons, List.length_append, List.length_nil] at hR317N)
            have hR317O := RP_O hR317
            (try simp only [List.length_cons, List.length_append, List.length_nil] at hR317O)
            have hR317P := RP_P hR317
            (try simp only [List.length_cons, List.length_append, List.length_nil] at hR317P)
            refine G_iload (i := 1) (n := 5) (len := 1) (Or.inl ⟨1, rfl, rfl, d_Mo_behind_120⟩) rfl (G_pc (pc' := 121) rfl ?_)
            refine G_iconst (n := 2) d_Mo_behind_121 (by decide) (G_pc (pc' := 122) rfl ?_)
            refine G_iadd d_Mo_behind_122 (by omega) (G_pc (pc' := 123) rfl ?_)
            refine G_iret d_Mo_behind_123 rfl (tokI (by omega)) rfl rfl ?_
            exact Or.inr ⟨_, _, _, _, _, _, _, by unfold behindS; rw [if_pos (by omega)]; unfold dotS; simp only []; first | grind | (simp; grind), rfl, hR317⟩
          · skip
            refine G_bipush (n := 60) d_Mo_behind_84 (by decide) (G_pc (pc' := 86) rfl ?_)
            refine G_goto (tgt := 91) d_Mo_behind_86 (by decide) ?_
            refine G_iload (i := 5) (n := 0) (len := 2) (Or.inr ⟨rfl, d_Mo_behind_91⟩) rfl (G_pc (pc' := 93) rfl ?_)
            refine G_iconst (n := (-1)) d_Mo_behind_93 (by decide) (G_pc (pc' := 94) rfl ?_)
            refine G_iconst (n := (-1)) d_Mo_behind_94 (by decide) (G_pc (pc' := 95) rfl ?_)
            refine G_aload (i := 0) (n := 4) (len := 1) (Or.inl ⟨0, rfl, rfl, d_Mo_behind_95⟩) rfl (by decide) (G_pc (pc' := 96) rfl ?_)
            refine G_get (o := 55) (c := 9) (k := 44) (v := (popM (mset (mset M 55 45 0) 55 44 0)) 55 44) d_Mo_behind_96 fl_Mo_166 rfl (by decide) (by decide) rfl rfl (G_pc (pc' := 99) rfl ?_)
            rw [show (popM (mset (mset M 55 45 0) 55 44 0)) 55 44 = 0 from (show (popM (mset (mset M 55 45 0) 55 44 0)) 55 44 = 0 from RP_W hR306)]
            refine G_if_eq (tgt := 106) d_Mo_behind_99 (by decide) (fun h318 => ?_) (fun h318 => absurd h318 (by decide))
            refine G_aload (i := 0) (n := 4) (len := 1) (Or.inl ⟨0, rfl, rfl, d_Mo_behind_106⟩) rfl (by decide) (G_pc (pc' := 107) rfl ?_)
            refine G_get (o := 55) (c := 9) (k := 27) (v := 75) d_Mo_behind_107 fl_Mo_69 rfl (by decide) (by decide) rfl rfl (G_pc (pc' := 110) rfl ?_)
            refine G_iload (i := 1) (n := 5) (len := 1) (Or.inl ⟨1, rfl, rfl, d_Mo_behind_110⟩) rfl (G_pc (pc' := 111) rfl ?_)
            refine G_iconst (n := 1) d_Mo_behind_111 (by decide) (G_pc (pc' := 112) rfl ?_)
            refine G_iadd d_Mo_behind_112 (by omega) (G_pc (pc' := 113) rfl ?_)
            refine G_laload (o := 75) (n := 25) (i := k + 1) (v := (popM (mset (mset M 55 45 0) 55 44 0)) 75 (k + 1)) d_Mo_behind_113 rfl ⟨by decide, by decide⟩ (by omega) (rd_arr rfl) (fun t319 => G_pc (pc' := 114) rfl ?_)
            have t319 := tok_l t319
            rw [show (popM (mset (mset M 55 45 0) 55 44 0)) 75 (k + 1) = M0 75 (k + 1) from RP_v hR306]
            refine G_callV (K1 := KE) (d2 := 0) (o := 55) (cl := 9) (as := [vi 60, vi x1, vi (-1), vi (-1), vl (M0 75 (k + 1))]) (rest := [vr 55]) d_Mo_behind_114 mf_Mo_node ml_Mo_226 rfl rfl (by decide) rfl rfl (Nat.le_of_ble_eq_true rfl) (by omega) ⟨Nat.le_refl _, Nat.le_refl _⟩ (g_Mo_node (by omega) 60 x1 (-1) (-1) (M0 75 (k + 1)) _ (by omega)) (fun r320 M321 kq322 q322 => ?_)
            clear kq322; obtain ⟨q322a, q322b⟩ := q322; subst r320; subst M321
            refine G_ps (pc' := 117) (st' := [vi ((popM (mset (mset M 55 45 0) 55 44 0)) 55 28), vr 55]) rfl rfl ?_
            rw [show (popM (mset (mset M 55 45 0) 55 44 0)) 55 28 = ((N).length : Int) from RP_N hR306]
            have hR323 : RP M0 (nodeM (popM (mset (mset M 55 45 0) 55 44 0)) 60 x1 (-1) (-1) (M0 75 (k + 1))) (N ++ [(60, x1, (-1), (-1), M0 75 (k + 1))]) Y P o a 0 0 := RP_node hR306
            have hR323N := RP_N hR323
            (try simp only [List.length_cons, List.length_append, List.length_nil] at hR323N)
            have hR323O := RP_O hR323
            (try simp only [List.length_cons, List.length_append, List.length_nil] at hR323O)
            have hR323P := RP_P hR323
            (try simp only [List.length_cons, List.length_append, List.length_nil] at hR323P)
            refine G_callV (K1 := KE) (d2 := 0) (o := 55) (cl := 9) (as := [vi ((N).length : Int)]) (rest := []) d_Mo_behind_117 mf_Mo_push ml_Mo_230 rfl rfl (by decide) rfl rfl (Nat.le_of_ble_eq_true rfl) (by omega) ⟨Nat.le_refl _, Nat.le_refl _⟩ (g_Mo_push (by omega) ((N).length : Int) _ (by omega)) (fun r324 M325 kq326 q326 => ?_)
            clear kq326; obtain ⟨q326a, q326b⟩ := q326; subst r324; subst M325
            refine G_ps (pc' := 120) (st' := []) rfl rfl ?_
            have hR327 : RP M0 (pushM (nodeM (popM (mset (mset M 55 45 0) 55 44 0)) 60 x1 (-1) (-1) (M0 75 (k + 1))) ((N).length : Int)) (N ++ [(60, x1, (-1), (-1), M0 75 (k + 1))]) ((((N).length : Int)) :: Y) P o a 0 0 := RP_push hR323
            have hR327N := RP_N hR327
            (try simp only [List.length_cons, List.length_append, List.length_nil] at hR327N)
            have hR327O := RP_O hR327
            (try simp only [List.length_cons, List.length_append, List.length_nil] at hR327O)
            have hR327P := RP_P hR327
            (try simp only [List.length_cons, List.length_append, List.length_nil] at hR327P)
            refine G_iload (i := 1) (n := 5) (len := 1) (Or.inl ⟨1, rfl, rfl, d_Mo_behind_120⟩) rfl (G_pc (pc' := 121) rfl ?_)
            refine G_iconst (n := 2) d_Mo_behind_121 (by decide) (G_pc (pc' := 122) rfl ?_)
            refine G_iadd d_Mo_behind_122 (by omega) (G_pc (pc' := 123) rfl ?_)
            refine G_iret d_Mo_behind_123 rfl (tokI (by omega)) rfl rfl ?_
            exact Or.inr ⟨_, _, _, _, _, _, _, by unfold behindS; rw [if_pos (by omega)]; unfold dotS; simp only []; first | grind | (simp; grind), rfl, hR327⟩
        · skip
          refine G_iload (i := 4) (n := 0) (len := 2) (Or.inr ⟨rfl, d_Mo_behind_54⟩) rfl (G_pc (pc' := 56) rfl ?_)
          refine G_bipush (n := 14) d_Mo_behind_56 (by decide) (G_pc (pc' := 58) rfl ?_)
          refine G_icmp_eq (tgt := 65) d_Mo_behind_58 (by decide) (fun h328 => ?_) (fun h328 => G_pc (pc' := 61) rfl ?_)
          · skip
            refine G_iconst (n := 0) d_Mo_behind_65 (by decide) (G_pc (pc' := 66) rfl ?_)
            refine G_putL (o := 55) (c := 9) (k := 44) (ki := 44) (x := 0) d_Mo_behind_66 fl_Mo_166 rfl rfl (by decide) (by decide) (by decide) rfl rfl (tokZ (by decide)) rfl (G_pc (pc' := 69) rfl ?_)
            have hR329 : RP M0 (mset (mset M 55 45 0) 55 44 0) N O P o a 0 0 := RP_w hR3
            have hR329N := RP_N hR329
            (try simp only [List.length_cons, List.length_append, List.length_nil] at hR329N)
            have hR329O := RP_O hR329
            (try simp only [List.length_cons, List.length_append, List.length_nil] at hR329O)
            have hR329P := RP_P hR329
            (try simp only [List.length_cons, List.length_append, List.length_nil] at hR329P)
            obtain ⟨x1, Y, rfl⟩ := cons1 (O := O) (by omega)
            simp only [List.length_cons] at *
            refine G_aload (i := 0) (n := 3) (len := 1) (Or.inl ⟨0, rfl, rfl, d_Mo_behind_69⟩) rfl (by decide) (G_pc (pc' := 70) rfl ?_)
            refine G_callV (K1 := KE) (d2 := 0) (o := 55) (cl := 9) (as := []) (rest := []) d_Mo_behind_70 mf_Mo_pop ml_Mo_223 rfl rfl (by decide) rfl rfl (Nat.le_of_ble_eq_true rfl) (by omega) ⟨Nat.le_refl _, Nat.le_refl _⟩ (g_Mo_pop (by omega)  _ (by omega)) (fun r330 M331 kq332 q332 => ?_)
            clear kq332; obtain ⟨q332a, q332b⟩ := q332; subst r330; subst M331
            refine G_ps (pc' := 73) (st' := [vi ((mset (mset M 55 45 0) 55 44 0) 84 ((mset (mset M 55 45 0) 55 44 0) 55 37 - 1))]) rfl rfl ?_
            rw [show (mset (mset M 55 45 0) 55 44 0) 84 ((mset (mset M 55 45 0) 55 44 0) 55 37 - 1) = x1 from (RP_pop hR329).1]
            have hR333 : RP M0 (popM (mset (mset M 55 45 0) 55 44 0)) N Y P o a 0 0 := (RP_pop hR329).2
            have hR333N := RP_N hR333
            (try simp only [List.length_cons, List.length_append, List.length_nil] at hR333N)
            have hR333O := RP_O hR333
            (try simp only [List.length_cons, List.length_append, List.length_nil] at hR333O)
            have hR333P := RP_P hR333
            (try simp only [List.length_cons, List.length_append, List.length_nil] at hR333P)
            refine G_istore (i := 5) (len := 2) (ls' := [(5, vi x1), (4, vi (tkA M0 (k + 1))), (3, vi cl), (2, vi (tkA M0 k)), (0, vr 55), (1, vi k)]) (Or.inr ⟨rfl, d_Mo_behind_73⟩) (by decide) rfl (G_pc (pc' := 75) rfl ?_)
            refine G_aload (i := 0) (n := 4) (len := 1) (Or.inl ⟨0, rfl, rfl, d_Mo_behind_75⟩) rfl (by decide) (G_pc (pc' := 76) rfl ?_)
            refine G_aload (i := 0) (n := 4) (len := 1) (Or.inl ⟨0, rfl, rfl, d_Mo_behind_76⟩) rfl (by decide) (G_pc (pc' := 77) rfl ?_)
            refine G_iload (i := 4) (n := 1) (len := 2) (Or.inr ⟨rfl, d_Mo_behind_77⟩) rfl (G_pc (pc' := 79) rfl ?_)
            refine G_bipush (n := 7) d_Mo_behind_79 (by decide) (G_pc (pc' := 81) rfl ?_)
            refine G_icmp_ne (tgt := 89) d_Mo_behind_81 (by decide) (fun h334 => ?_) (fun h334 => G_pc (pc' := 84) rfl ?_)
            · skip
              refine G_bipush (n := 61) d_Mo_behind_89 (by decide) (G_pc (pc' := 91) rfl ?_)
              refine G_iload (i := 5) (n := 0) (len := 2) (Or.inr ⟨rfl, d_Mo_behind_91⟩) rfl (G_pc (pc' := 93) rfl ?_)
              refine G_iconst (n := (-1)) d_Mo_behind_93 (by decide) (G_pc (pc' := 94) rfl ?_)
              refine G_iconst (n := (-1)) d_Mo_behind_94 (by decide) (G_pc (pc' := 95) rfl ?_)
              refine G_aload (i := 0) (n := 4) (len := 1) (Or.inl ⟨0, rfl, rfl, d_Mo_behind_95⟩) rfl (by decide) (G_pc (pc' := 96) rfl ?_)
              refine G_get (o := 55) (c := 9) (k := 44) (v := (popM (mset (mset M 55 45 0) 55 44 0)) 55 44) d_Mo_behind_96 fl_Mo_166 rfl (by decide) (by decide) rfl rfl (G_pc (pc' := 99) rfl ?_)
              rw [show (popM (mset (mset M 55 45 0) 55 44 0)) 55 44 = 0 from (show (popM (mset (mset M 55 45 0) 55 44 0)) 55 44 = 0 from RP_W hR333)]
              refine G_if_eq (tgt := 106) d_Mo_behind_99 (by decide) (fun h335 => ?_) (fun h335 => absurd h335 (by decide))
              refine G_aload (i := 0) (n := 4) (len := 1) (Or.inl ⟨0, rfl, rfl, d_Mo_behind_106⟩) rfl (by decide) (G_pc (pc' := 107) rfl ?_)
              refine G_get (o := 55) (c := 9) (k := 27) (v := 75) d_Mo_behind_107 fl_Mo_69 rfl (by decide) (by decide) rfl rfl (G_pc (pc' := 110) rfl ?_)
              refine G_iload (i := 1) (n := 5) (len := 1) (Or.inl ⟨1, rfl, rfl, d_Mo_behind_110⟩) rfl (G_pc (pc' := 111) rfl ?_)
              refine G_iconst (n := 1) d_Mo_behind_111 (by decide) (G_pc (pc' := 112) rfl ?_)
              refine G_iadd d_Mo_behind_112 (by omega) (G_pc (pc' := 113) rfl ?_)
              refine G_laload (o := 75) (n := 25) (i := k + 1) (v := (popM (mset (mset M 55 45 0) 55 44 0)) 75 (k + 1)) d_Mo_behind_113 rfl ⟨by decide, by decide⟩ (by omega) (rd_arr rfl) (fun t336 => G_pc (pc' := 114) rfl ?_)
              have t336 := tok_l t336
              rw [show (popM (mset (mset M 55 45 0) 55 44 0)) 75 (k + 1) = M0 75 (k + 1) from RP_v hR333]
              refine G_callV (K1 := KE) (d2 := 0) (o := 55) (cl := 9) (as := [vi 61, vi x1, vi (-1), vi (-1), vl (M0 75 (k + 1))]) (rest := [vr 55]) d_Mo_behind_114 mf_Mo_node ml_Mo_226 rfl rfl (by decide) rfl rfl (Nat.le_of_ble_eq_true rfl) (by omega) ⟨Nat.le_refl _, Nat.le_refl _⟩ (g_Mo_node (by omega) 61 x1 (-1) (-1) (M0 75 (k + 1)) _ (by omega)) (fun r337 M338 kq339 q339 => ?_)
              clear kq339; obtain ⟨q339a, q339b⟩ := q339; subst r337; subst M338
              refine G_ps (pc' := 117) (st' := [vi ((popM (mset (mset M 55 45 0) 55 44 0)) 55 28), vr 55]) rfl rfl ?_
              rw [show (popM (mset (mset M 55 45 0) 55 44 0)) 55 28 = ((N).length : Int) from RP_N hR333]
              have hR340 : RP M0 (nodeM (popM (mset (mset M 55 45 0) 55 44 0)) 61 x1 (-1) (-1) (M0 75 (k + 1))) (N ++ [(61, x1, (-1), (-1), M0 75 (k + 1))]) Y P o a 0 0 := RP_node hR333
              have hR340N := RP_N hR340
              (try simp only [List.length_cons, List.length_append, List.length_nil] at hR340N)
              have hR340O := RP_O hR340
              (try simp only [List.length_cons, List.length_append, List.length_nil] at hR340O)
              have hR340P := RP_P hR340
              (try simp only [List.length_cons, List.length_append, List.length_nil] at hR340P)
              refine G_callV (K1 := KE) (d2 := 0) (o := 55) (cl := 9) (as := [vi ((N).length : Int)]) (rest := []) d_Mo_behind_117 mf_Mo_push ml_Mo_230 rfl rfl (by decide) rfl rfl (Nat.le_of_ble_eq_true rfl) (by omega) ⟨Nat.le_refl _, Nat.le_refl _⟩ (g_Mo_push (by omega) ((N).length : Int) _ (by omega)) (fun r341 M342 kq343 q343 => ?_)
              clear kq343; obtain ⟨q343a, q343b⟩ := q343; subst r341; subst M342
              refine G_ps (pc' := 120) (st' := []) rfl rfl ?_
              have hR344 : RP M0 (pushM (nodeM (popM (mset (mset M 55 45 0) 55 44 0)) 61 x1 (-1) (-1) (M0 75 (k + 1))) ((N).length : Int)) (N ++ [(61, x1, (-1), (-1), M0 75 (k + 1))]) ((((N).length : Int)) :: Y) P o a 0 0 := RP_push hR340
              have hR344N := RP_N hR344
              (try simp only [List.length_cons, List.length_append, List.length_nil] at hR344N)
              have hR344O := RP_O hR344
              (try simp only [List.length_cons, List.length_append, List.length_nil] at hR344O)
              have hR344P := RP_P hR344
              (try simp only [List.length_cons, List.length_append, List.length_nil] at hR344P)
              refine G_iload (i := 1) (n := 5) (len := 1) (Or.inl ⟨1, rfl, rfl, d_Mo_behind_120⟩) rfl (G_pc (pc' := 121) rfl ?_)
              refine G_iconst (n := 2) d_Mo_behind_121 (by decide) (G_pc (pc' := 122) rfl ?_)
              refine G_iadd d_Mo_behind_122 (by omega) (G_pc (pc' := 123) rfl ?_)
              refine G_iret d_Mo_behind_123 rfl (tokI (by omega)) rfl rfl ?_
              exact Or.inr ⟨_, _, _, _, _, _, _, by unfold behindS; rw [if_pos (by omega)]; unfold dotS; simp only []; first | grind | (simp; grind), rfl, hR344⟩
            · skip
              refine G_bipush (n := 60) d_Mo_behind_84 (by decide) (G_pc (pc' := 86) rfl ?_)
              refine G_goto (tgt := 91) d_Mo_behind_86 (by decide) ?_
              refine G_iload (i := 5) (n := 0) (len := 2) (Or.inr ⟨rfl, d_Mo_behind_91⟩) rfl (G_pc (pc' := 93) rfl ?_)
              refine G_iconst (n := (-1)) d_Mo_behind_93 (by decide) (G_pc (pc' := 94) rfl ?_)
              refine G_iconst (n := (-1)) d_Mo_behind_94 (by decide) (G_pc (pc' := 95) rfl ?_)
              refine G_aload (i := 0) (n := 4) (len := 1) (Or.inl ⟨0, rfl, rfl, d_Mo_behind_95⟩) rfl (by decide) (G_pc (pc' := 96) rfl ?_)
              refine G_get (o := 55) (c := 9) (k := 44) (v := (popM (mset (mset M 55 45 0) 55 44 0)) 55 44) d_Mo_behind_96 fl_Mo_166 rfl (by decide) (by decide) rfl rfl (G_pc (pc' := 99) rfl ?_)
              rw [show (popM (mset (mset M 55 45 0) 55 44 0)) 55 44 = 0 from (show (popM (mset (mset M 55 45 0) 55 44 0)) 55 44 = 0 from RP_W hR333)]
              refine G_if_eq (tgt := 106) d_Mo_behind_99 (by decide) (fun h345 => ?_) (fun h345 => absurd h345 (by decide))
              refine G_aload (i := 0) (n := 4) (len := 1) (Or.inl ⟨0, rfl, rfl, d_Mo_behind_106⟩) rfl (by decide) (G_pc (pc' := 107) rfl ?_)
              refine G_get (o := 55) (c := 9) (k := 27) (v := 75) d_Mo_behind_107 fl_Mo_69 rfl (by decide) (by decide) rfl rfl (G_pc (pc' := 110) rfl ?_)
              refine G_iload (i := 1) (n := 5) (len := 1) (Or.inl ⟨1, rfl, rfl, d_Mo_behind_110⟩) rfl (G_pc (pc' := 111) rfl ?_)
              refine G_iconst (n := 1) d_Mo_behind_111 (by decide) (G_pc (pc' := 112) rfl ?_)
              refine G_iadd d_Mo_behind_112 (by omega) (G_pc (pc' := 113) rfl ?_)
              refine G_laload (o := 75) (n := 25) (i := k + 1) (v := (popM (mset (mset M 55 45 0) 55 44 0)) 75 (k + 1)) d_Mo_behind_113 rfl ⟨by decide, by decide⟩ (by omega) (rd_arr rfl) (fun t346 => G_pc (pc' := 114) rfl ?_)
              have t346 := tok_l t346
              rw [show (popM (mset (mset M 55 45 0) 55 44 0)) 75 (k + 1) = M0 75 (k + 1) from RP_v hR333]
              refine G_callV (K1 := KE) (d2 := 0) (o := 55) (cl := 9) (as := [vi 60, vi x1, vi (-1), vi (-1), vl (M0 75 (k + 1))]) (rest := [vr 55]) d_Mo_behind_114 mf_Mo_node ml_Mo_226 rfl rfl (by decide) rfl rfl (Nat.le_of_ble_eq_true rfl) (by omega) ⟨Nat.le_refl _, Nat.le_refl _⟩ (g_Mo_node (by omega) 60 x1 (-1) (-1) (M0 75 (k + 1)) _ (by omega)) (fun r347 M348 kq349 q349 => ?_)
              clear kq349; obtain ⟨q349a, q349b⟩ := q349; subst r347; subst M348
              refine G_ps (pc' := 117) (st' := [vi ((popM (mset (mset M 55 45 0) 55 44 0)) 55 28), vr 55]) rfl rfl ?_
              rw [show (popM (mset (mset M 55 45 0) 55 44 0)) 55 28 = ((N).length : Int) from RP_N hR333]
              have hR350 : RP M0 (nodeM (popM (mset (mset M 55 45 0) 55 44 0)) 60 x1 (-1) (-1) (M0 75 (k + 1))) (N ++ [(60, x1, (-1), (-1), M0 75 (k + 1))]) Y P o a 0 0 := RP_node hR333
              have hR350N := RP_N hR350
              (try simp only [List.length_cons, List.length_append, List.length_nil] at hR350N)
              have hR350O := RP_O hR350
              (try simp only [List.length_cons, List.length_append, List.length_nil] at hR350O)
              have hR350P := RP_P hR350
              (try simp only [List.length_cons, List.length_append, List.length_nil] at hR350P)
              refine G_callV (K1 := KE) (d2 := 0) (o := 55) (cl := 9) (as := [vi ((N).length : Int)]) (rest := []) d_Mo_behind_117 mf_Mo_push ml_Mo_230 rfl rfl (by decide) rfl rfl (Nat.le_of_ble_eq_true rfl) (by omega) ⟨Nat.le_refl _, Nat.le_refl _⟩ (g_Mo_push (by omega) ((N).length : Int) _ (by omega)) (fun r351 M352 kq353 q353 => ?_)
              clear kq353; obtain ⟨q353a, q353b⟩ := q353; subst r351; subst M352
              refine G_ps (pc' := 120) (st' := []) rfl rfl ?_
              have hR354 : RP M0 (pushM (nodeM (popM (mset (mset M 55 45 0) 55 44 0)) 60 x1 (-1) (-1) (M0 75 (k + 1))) ((N).length : Int)) (N ++ [(60, x1, (-1), (-1), M0 75 (k + 1))]) ((((N).length : Int)) :: Y) P o a 0 0 := RP_push hR350
              have hR354N := RP_N hR354
              (try simp only [List.length_cons, List.length_append, List.length_nil] at hR354N)
              have hR354O := RP_O hR354
              (try simp only [List.length_cons, List.length_append, List.length_nil] at hR354O)
              have hR354P := RP_P hR354
              (try simp only [List.length_cons, List.length_append, List.length_nil] at hR354P)
              refine G_iload (i := 1) (n := 5) (len := 1) (Or.inl ⟨1, rfl, rfl, d_Mo_behind_120⟩) rfl (G_pc (pc' := 121) rfl ?_)
              refine G_iconst (n := 2) d_Mo_behind_121 (by decide) (G_pc (pc' := 122) rfl ?_)
              refine G_iadd d_Mo_behind_122 (by omega) (G_pc (pc' := 123) rfl ?_)
              refine G_iret d_Mo_behind_123 rfl (tokI (by omega)) rfl rfl ?_
              exact Or.inr ⟨_, _, _, _, _, _, _, by unfold behindS; rw [if_pos (by omega)]; unfold dotS; simp only []; first | grind | (simp; grind), rfl, hR354⟩
          · skip
            refine G_iconst (n := 1) d_Mo_behind_61 (by decide) (G_pc (pc' := 62) rfl ?_)
            refine G_goto (tgt := 66) d_Mo_behind_62 (by decide) ?_
            refine G_putL (o := 55) (c := 9) (k := 44) (ki := 44) (x := 1) d_Mo_behind_66 fl_Mo_166 rfl rfl (by decide) (by decide) (by decide) rfl rfl (tokZ (by decide)) rfl (G_pc (pc' := 69) rfl ?_)
            have hR355 : RP M0 (mset (mset M 55 45 0) 55 44 1) N O P o a 0 1 := RP_w hR3
            have hR355N := RP_N hR355
            (try simp only [List.length_cons, List.length_append, List.length_nil] at hR355N)
            have hR355O := RP_O hR355
            (try simp only [List.length_cons, List.length_append, List.length_nil] at hR355O)
            have hR355P := RP_P hR355
            (try simp only [List.length_cons, List.length_append, List.length_nil] at hR355P)
            obtain ⟨x1, Y, rfl⟩ := cons1 (O := O) (by omega)
            simp only [List.length_cons] at *
            refine G_aload (i := 0) (n := 3) (len := 1) (Or.inl ⟨0, rfl, rfl, d_Mo_behind_69⟩) rfl (by decide) (G_pc (pc' := 70) rfl ?_)
            refine G_callV (K1 := KE) (d2 := 0) (o := 55) (cl := 9) (as := []) (rest := []) d_Mo_behind_70 mf_Mo_pop ml_Mo_223 rfl rfl (by decide) rfl rfl (Nat.le_of_ble_eq_true rfl) (by omega) ⟨Nat.le_refl _, Nat.le_refl _⟩ (g_Mo_pop (by omega)  _ (by omega)) (fun r356 M357 kq358 q358 => ?_)
            clear kq358; obtain ⟨q358a, q358b⟩ := q358; subst r356; subst M357
            refine G_ps (pc' := 73) (st' := [vi ((mset (mset M 55 45 0) 55 44 1) 84 ((mset (mset M 55 45 0) 55 44 1) 55 37 - 1))]) rfl rfl ?_
            rw [show (mset (mset M 55 45 0) 55 44 1) 84 ((mset (mset M 55 45 0) 55 44 1) 55 37 - 1) = x1 from (RP_pop hR355).1]
            have hR359 : RP M0 (popM (mset (mset M 55 45 0) 55 44 1)) N Y P o a 0 1 := (RP_pop hR355).2
            have hR359N := RP_N hR359
            (try simp only [List.length_cons, List.length_append, List.length_nil] at hR359N)
            have hR359O := RP_O hR359
            (try simp only [List.length_cons, List.length_append, List.length_nil] at hR359O)
            have hR359P := RP_P hR359
            (try simp only [List.length_cons, List.length_append, List.length_nil] at hR359P)
            refine G_istore (i := 5) (len := 2) (ls' := [(5, vi x1), (4, vi (tkA M0 (k + 1))), (3, vi cl), (2, vi (tkA M0 k)), (0, vr 55), (1, vi k)]) (Or.inr ⟨rfl, d_Mo_behind_73⟩) (by decide) rfl (G_pc (pc' := 75) rfl ?_)
            refine G_aload (i := 0) (n := 4) (len := 1) (Or.inl ⟨0, rfl, rfl, d_Mo_behind_75⟩) rfl (by decide) (G_pc (pc' := 76) rfl ?_)
            refine G_aload (i := 0) (n := 4) (len := 1) (Or.inl ⟨0, rfl, rfl, d_Mo_behind_76⟩) rfl (by decide) (G_pc (pc' := 77) rfl ?_)
            refine G_iload (i := 4) (n := 1) (len := 2) (Or.inr ⟨rfl, d_Mo_behind_77⟩) rfl (G_pc (pc' := 79) rfl ?_)
            refine G_bipush (n := 7) d_Mo_behind_79 (by decide) (G_pc (pc' := 81) rfl ?_)
            refine G_icmp_ne (tgt := 89) d_Mo_behind_81 (by decide) (fun h360 => ?_) (fun h360 => G_pc (pc' := 84) rfl ?_)
            · skip
              refine G_bipush (n := 61) d_Mo_behind_89 (by decide) (G_pc (pc' := 91) rfl ?_)
              refine G_iload (i := 5) (n := 0) (len := 2) (Or.inr ⟨rfl, d_Mo_behind_91⟩) rfl (G_pc (pc' := 93) rfl ?_)
              refine G_iconst (n := (-1)) d_Mo_behind_93 (by decide) (G_pc (pc' := 94) rfl ?_)
              refine G_iconst (n := (-1)) d_Mo_behind_94 (by decide) (G_pc (pc' := 95) rfl ?_)
              refine G_aload (i := 0) (n := 4) (len := 1) (Or.inl ⟨0, rfl, rfl, d_Mo_behind_95⟩) rfl (by decide) (G_pc (pc' := 96) rfl ?_)
              refine G_get (o := 55) (c := 9) (k := 44) (v := (popM (mset (mset M 55 45 0) 55 44 1)) 55 44) d_Mo_behind_96 fl_Mo_166 rfl (by decide) (by decide) rfl rfl (G_pc (pc' := 99) rfl ?_)
              rw [show (popM (mset (mset M 55 45 0) 55 44 1)) 55 44 = 1 from (show (popM (mset (mset M 55 45 0) 55 44 1)) 55 44 = 1 from RP_W hR359)]
              refine G_if_eq (tgt := 106) d_Mo_behind_99 (by decide) (fun h361 => absurd h361 (by decide)) (fun h361 => G_pc (pc' := 102) rfl ?_)
              refine G_lconst0 d_Mo_behind_102 (G_pc (pc' := 103) rfl ?_)
              refine G_goto (tgt := 114) d_Mo_behind_103 (by decide) ?_
              refine G_callV (K1 := KE) (d2 := 0) (o := 55) (cl := 9) (as := [vi 61, vi x1, vi (-1), vi (-1), vl 0]) (rest := [vr 55]) d_Mo_behind_114 mf_Mo_node ml_Mo_226 rfl rfl (by decide) rfl rfl (Nat.le_of_ble_eq_true rfl) (by omega) ⟨Nat.le_refl _, Nat.le_refl _⟩ (g_Mo_node (by omega) 61 x1 (-1) (-1) 0 _ (by omega)) (fun r362 M363 kq364 q364 => ?_)
              clear kq364; obtain ⟨q364a, q364b⟩ := q364; subst r362; subst M363
              refine G_ps (pc' := 117) (st' := [vi ((popM (mset (mset M 55 45 0) 55 44 1)) 55 28), vr 55]) rfl rfl ?_
              rw [show (popM (mset (mset M 55 45 0) 55 44 1)) 55 28 = ((N).length : Int) from RP_N hR359]
              have hR365 : RP M0 (nodeM (popM (mset (mset M 55 45 0) 55 44 1)) 61 x1 (-1) (-1) 0) (N ++ [(61, x1, (-1), (-1), 0)]) Y P o a 0 1 := RP_node hR359
              have hR365N := RP_N hR365
              (try simp only [List.length_cons, List.length_append, List.length_nil] at hR365N)
              have hR365O := RP_O hR365
              (try simp only [List.length_cons, List.length_append, List.length_nil] at hR365O)
              have hR365P := RP_P hR365
              (try simp only [List.length_cons, List.length_append, List.length_nil] at hR365P)
              refine G_callV (K1 := KE) (d2 := 0) (o := 55) (cl := 9) (as := [vi ((N).length : Int)]) (rest := []) d_Mo_behind_117 mf_Mo_push ml_Mo_230 rfl rfl (by decide) rfl rfl (Nat.le_of_ble_eq_true rfl) (by omega) ⟨Nat.le_refl _, Nat.le_refl _⟩ (g_Mo_push (by omega) ((N).length : Int) _ (by omega)) (fun r366 M367 kq368 q368 => ?_)
              clear kq368; obtain ⟨q368a, q368b⟩ := q368; subst r366; subst M367
              refine G_ps (pc' := 120) (st' := []) rfl rfl ?_
              have hR369 : RP M0 (pushM (nodeM (popM (mset (mset M 55 45 0) 55 44 1)) 61 x1 (-1) (-1) 0) ((N).length : Int)) (N ++ [(61, x1, (-1), (-1), 0)]) ((((N).length : Int)) :: Y) P o a 0 1 := RP_push hR365
              have hR369N := RP_N hR369
              (try simp only [List.length_cons, List.length_append, List.length_nil] at hR369N)
              have hR369O := RP_O hR369
              (try simp only [List.length_cons, List.length_append, List.length_nil] at hR369O)
              have hR369P := RP_P hR369
              (try simp only [List.length_cons, List.length_append, List.length_nil] at hR369P)
              refine G_iload (i := 1) (n := 5) (len := 1) (Or.inl ⟨1, rfl, rfl, d_Mo_behind_120⟩) rfl (G_pc (pc' := 121) rfl ?_)
              refine G_iconst (n := 2) d_Mo_behind_121 (by decide) (G_pc (pc' := 122) rfl ?_)
              refine G_iadd d_Mo_behind_122 (by omega) (G_pc (pc' := 123) rfl ?_)
              refine G_iret d_Mo_behind_123 rfl (tokI (by omega)) rfl rfl ?_
              exact Or.inl ⟨by unfold behindS; rw [if_pos (by omega)]; unfold dotS; simp only []; first | grind | (simp; grind), hR369.1, RP_W hR369, _, rfl⟩
            · skip
              refine G_bipush (n := 60) d_Mo_behind_84 (by decide) (G_pc (pc' := 86) rfl ?_)
              refine G_goto (tgt := 91) d_Mo_behind_86 (by decide) ?_
              refine G_iload (i := 5) (n := 0) (len := 2) (Or.inr ⟨rfl, d_Mo_behind_91⟩) rfl (G_pc (pc' := 93) rfl ?_)
              refine G_iconst (n := (-1)) d_Mo_behind_93 (by decide) (G_pc (pc' := 94) rfl ?_)
              refine G_iconst (n := (-1)) d_Mo_behind_94 (by decide) (G_pc (pc' := 95) rfl ?_)
              refine G_aload (i := 0) (n := 4) (len := 1) (Or.inl ⟨0, rfl, rfl, d_Mo_behind_95⟩) rfl (by decide) (G_pc (pc' := 96) rfl ?_)
              refine G_get (o := 55) (c := 9) (k := 44) (v := (popM (mset (mset M 55 45 0) 55 44 1)) 55 44) d_Mo_behind_96 fl_Mo_166 rfl (by decide) (by decide) rfl rfl (G_pc (pc' := 99) rfl ?_)
              rw [show (popM (mset (mset M 55 45 0) 55 44 1)) 55 44 = 1 from (show (popM (mset (mset M 55 45 0) 55 44 1)) 55 44 = 1 from RP_W hR359)]
              refine G_if_eq (tgt := 106) d_Mo_behind_99 (by decide) (fun h370 => absurd h370 (by decide)) (fun h370 => G_pc (pc' := 102) rfl ?_)
              refine G_lconst0 d_Mo_behind_102 (G_pc (pc' := 103) rfl ?_)
              refine G_goto (tgt := 114) d_Mo_behind_103 (by decide) ?_
              refine G_callV (K1 := KE) (d2 := 0) (o := 55) (cl := 9) (as := [vi 60, vi x1, vi (-1), vi (-1), vl 0]) (rest := [vr 55]) d_Mo_behind_114 mf_Mo_node ml_Mo_226 rfl rfl (by decide) rfl rfl (Nat.le_of_ble_eq_true rfl) (by omega) ⟨Nat.le_refl _, Nat.le_refl _⟩ (g_Mo_node (by omega) 60 x1 (-1) (-1) 0 _ (by omega)) (fun r371 M372 kq373 q373 => ?_)
              clear kq373; obtain ⟨q373a, q373b⟩ := q373; subst r371; subst M372
              refine G_ps (pc' := 117) (st' := [vi ((popM (mset (mset M 55 45 0) 55 44 1)) 55 28), vr 55]) rfl rfl ?_
              rw [show (popM (mset (mset M 55 45 0) 55 44 1)) 55 28 = ((N).length : Int) from RP_N hR359]
              have hR374 : RP M0 (nodeM (popM (mset (mset M 55 45 0) 55 44 1)) 60 x1 (-1) (-1) 0) (N ++ [(60, x1, (-1), (-1), 0)]) Y P o a 0 1 := RP_node hR359
              have hR374N := RP_N hR374
              (try simp only [List.length_cons, List.length_append, List.length_nil] at hR374N)
              have hR374O := RP_O hR374
              (try simp only [List.length_cons, List.length_append, List.length_nil] at hR374O)
              have hR374P := RP_P hR374
              (try simp only [List.length_cons, List.length_append, List.length_nil] at hR374P)
              refine G_callV (K1 := KE) (d2 := 0) (o := 55) (cl := 9) (as := [vi ((N).length : Int)]) (rest := []) d_Mo_behind_117 mf_Mo_push ml_Mo_230 rfl rfl (by decide) rfl rfl (Nat.le_of_ble_eq_true rfl) (by omega) ⟨Nat.le_refl _, Nat.le_refl _⟩ (g_Mo_push (by omega) ((N).length : Int) _ (by omega)) (fun r375 M376 kq377 q377 => ?_)
              clear kq377; obtain ⟨q377a, q377b⟩ := q377; subst r375; subst M376
              refine G_ps (pc' := 120) (st' := []) rfl rfl ?_
              have hR378 : RP M0 (pushM (nodeM (popM (mset (mset M 55 45 0) 55 44 1)) 60 x1 (-1) (-1) 0) ((N).length : Int)) (N ++ [(60, x1, (-1), (-1), 0)]) ((((N).length : Int)) :: Y) P o a 0 1 := RP_push hR374
              have hR378N := RP_N hR378
              (try simp only [List.length_cons, List.length_append, List.length_nil] at hR378N)
              have hR378O := RP_O hR378
              (try simp only [List.length_cons, List.length_append, List.length_nil] at hR378O)
              have hR378P := RP_P hR378
              (try simp only [List.length_cons, List.length_append, List.length_nil] at hR378P)
              refine G_iload (i := 1) (n := 5) (len := 1) (Or.inl ⟨1, rfl, rfl, d_Mo_behind_120⟩) rfl (G_pc (pc' := 121) rfl ?_)
              refine G_iconst (n := 2) d_Mo_behind_121 (by decide) (G_pc (pc' := 122) rfl ?_)
              refine G_iadd d_Mo_behind_122 (by omega) (G_pc (pc' := 123) rfl ?_)
              refine G_iret d_Mo_behind_123 rfl (tokI (by omega)) rfl rfl ?_
              exact Or.inl ⟨by unfold behindS; rw [if_pos (by omega)]; unfold dotS; simp only []; first | grind | (simp; grind), hR378.1, RP_W hR378, _, rfl⟩
  · skip
    refine G_iconst (n := 1) d_Mo_behind_19 (by decide) (G_pc (pc' := 20) rfl ?_)
    refine G_goto (tgt := 24) d_Mo_behind_20 (by decide) ?_
    refine G_putL (o := 55) (c := 9) (k := 45) (ki := 45) (x := 1) d_Mo_behind_24 fl_Mo_239 rfl rfl (by decide) (by decide) (by decide) rfl rfl (tokZ (by decide)) rfl (G_pc (pc' := 27) rfl ?_)
    have hR379 : RP M0 (mset M 55 45 1) N O P o a 1 0 := RP_cl hR
    have hR379N := RP_N hR379
    (try simp only [List.length_cons, List.length_append, List.length_nil] at hR379N)
    have hR379O := RP_O hR379
    (try simp only [List.length_cons, List.length_append, List.length_nil] at hR379O)
    have hR379P := RP_P hR379
    (try simp only [List.length_cons, List.length_append, List.length_nil] at hR379P)
    refine G_iload (i := 2) (n := 1) (len := 1) (Or.inl ⟨2, rfl, rfl, d_Mo_behind_27⟩) rfl (G_pc (pc' := 28) rfl ?_)
    refine G_bipush (n := 24) d_Mo_behind_28 (by decide) (G_pc (pc' := 30) rfl ?_)
    refine G_icmp_ne (tgt := 124) d_Mo_behind_30 (by decide) (fun h380 => ?_) (fun h380 => G_pc (pc' := 33) rfl ?_)
    · skip
      refine G_iload (i := 2) (n := 1) (len := 1) (Or.inl ⟨2, rfl, rfl, d_Mo_behind_124⟩) rfl (G_pc (pc' := 125) rfl ?_)
      refine G_bipush (n := 22) d_Mo_behind_125 (by decide) (G_pc (pc' := 127) rfl ?_)
      refine G_icmp_ne (tgt := 173) d_Mo_behind_127 (by decide) (fun h381 => ?_) (fun h381 => G_pc (pc' := 130) rfl ?_)
      · skip
        refine G_iload (i := 2) (n := 1) (len := 1) (Or.inl ⟨2, rfl, rfl, d_Mo_behind_173⟩) rfl (G_pc (pc' := 174) rfl ?_)
        refine G_bipush (n := 21) d_Mo_behind_174 (by decide) (G_pc (pc' := 176) rfl ?_)
        refine G_icmp_eq (tgt := 185) d_Mo_behind_176 (by decide) (fun h382 => ?_) (fun h382 => G_pc (pc' := 179) rfl ?_)
        · skip
          refine G_aload (i := 0) (n := 2) (len := 1) (Or.inl ⟨0, rfl, rfl, d_Mo_behind_185⟩) rfl (by decide) (G_pc (pc' := 186) rfl ?_)
          refine G_iconst (n := 0) d_Mo_behind_186 (by decide) (G_pc (pc' := 187) rfl ?_)
          refine G_callV (K1 := KE) (d2 := 1) (o := 55) (cl := 9) (as := [vi 0]) (rest := []) d_Mo_behind_187 mf_Mo_reduce ml_Mo_251 rfl rfl (by decide) rfl rfl (Nat.le_of_ble_eq_true rfl) (by omega) ⟨Nat.le_refl _, Nat.le_refl _⟩ (g_Mo_reduce (by omega) 0 M0 _ _ _ _ _ _ _ (reduceL 0 N O P) _ hR379 (by omega) (by omega) (by omega) rfl) (fun r384 M385 kq386 q386 => ?_)
          clear kq386; obtain ⟨q386a, q386b⟩ := q386; subst r384
          obtain ⟨N_383, O_383, P_383, hF_383⟩ : ∃ N1 O1 P1, (reduceL 0 N O P) = (N1, O1, P1) := ⟨_, _, _, rfl⟩
          rw [hF_383] at q386b
          have hI_383 := reduceL_inv hF_383 (by omega) (by omega)
          refine G_ps (pc' := 190) (st' := []) rfl rfl ?_
          have hR387 : RP M0 M385 N_383 O_383 P_383 o a 1 0 := q386b
          have hR387N := RP_N hR387
          (try simp only [List.length_cons, List.length_append, List.length_nil] at hR387N)
          have hR387O := RP_O hR387
          (try simp only [List.length_cons, List.length_append, List.length_nil] at hR387O)
          have hR387P := RP_P hR387
          (try simp only [List.length_cons, List.length_append, List.length_nil] at hR387P)
          refine G_aload (i := 0) (n := 2) (len := 1) (Or.inl ⟨0, rfl, rfl, d_Mo_behind_190⟩) rfl (by decide) (G_pc (pc' := 191) rfl ?_)
          refine G_aload (i := 0) (n := 2) (len := 1) (Or.inl ⟨0, rfl, rfl, d_Mo_behind_191⟩) rfl (by decide) (G_pc (pc' := 192) rfl ?_)
          refine G_callV (K1 := KE) (d2 := 0) (o := 55) (cl := 9) (as := []) (rest := [vr 55]) d_Mo_behind_192 mf_Mo_top ml_Mo_216 rfl rfl (by decide) rfl rfl (Nat.le_of_ble_eq_true rfl) (by omega) ⟨Nat.le_refl _, Nat.le_refl _⟩ (g_Mo_top (by omega)  _ (by omega)) (fun r388 M389 kq390 q390 => ?_)
          clear kq390; obtain ⟨q390a, q390b⟩ := q390; subst r388; subst M389
          refine G_ps (pc' := 195) (st' := [vi (topM M385), vr 55]) rfl rfl ?_
          rw [show topM M385 = topP P_383 from RP_top hR387]
          refine G_iload (i := 2) (n := 1) (len := 1) (Or.inl ⟨2, rfl, rfl, d_Mo_behind_195⟩) rfl (G_pc (pc' := 196) rfl ?_)
          refine G_bipush (n := 21) d_Mo_behind_196 (by decide) (G_pc (pc' := 198) rfl ?_)
          refine G_icmp_ne (tgt := 206) d_Mo_behind_198 (by decide) (fun h391 => ?_) (fun h391 => G_pc (pc' := 201) rfl ?_)
          · skip
            refine G_bipush (n := 22) d_Mo_behind_206 (by decide) (G_pc (pc' := 208) rfl ?_)
            refine G_icmp_eq (tgt := 215) d_Mo_behind_208 (by decide) (fun h392 => ?_) (fun h392 => G_pc (pc' := 211) rfl ?_)
            · skip
              refine G_iconst (n := 0) d_Mo_behind_215 (by decide) (G_pc (pc' := 216) rfl ?_)
              refine G_putL (o := 55) (c := 9) (k := 44) (ki := 44) (x := 0) d_Mo_behind_216 fl_Mo_166 rfl rfl (by decide) (by decide) (by decide) rfl rfl (tokZ (by decide)) rfl (G_pc (pc' := 219) rfl ?_)
              have hR393 : RP M0 (mset M385 55 44 0) N_383 O_383 P_383 o a 1 0 := RP_w hR387
              have hR393N := RP_N hR393
              (try simp only [List.length_cons, List.length_append, List.length_nil] at hR393N)
              have hR393O := RP_O hR393
              (try simp only [List.length_cons, List.length_append, List.length_nil] at hR393O)
              have hR393P := RP_P hR393
              (try simp only [List.length_cons, List.length_append, List.length_nil] at hR393P)
              refine G_aload (i := 0) (n := 2) (len := 1) (Or.inl ⟨0, rfl, rfl, d_Mo_behind_219⟩) rfl (by decide) (G_pc (pc' := 220) rfl ?_)
              refine G_get (o := 55) (c := 9) (k := 44) (v := 0) d_Mo_behind_220 fl_Mo_166 rfl (by decide) (by decide) rfl rfl (G_pc (pc' := 223) rfl ?_)
              refine G_if_eq (tgt := 228) d_Mo_behind_223 (by decide) (fun h394 => ?_) (fun h394 => absurd h394 (by decide))
              obtain ⟨tt, kk, PP, rfl⟩ := topP_cons' (P := P_383) (by omega)
              have htp : topP ((tt, kk) :: PP) = tt := rfl
              have haw : arP ((tt, kk) :: PP) = arW tt + arP PP := rfl
              simp only [List.length_cons] at *
              refine G_aload (i := 0) (n := 2) (len := 1) (Or.inl ⟨0, rfl, rfl, d_Mo_behind_228⟩) rfl (by decide) (G_pc (pc' := 229) rfl ?_)
              refine G_dup d_Mo_behind_229 (fun _ h => by cases h) (G_pc (pc' := 230) rfl ?_)
              refine G_get (o := 55) (c := 9) (k := 39) (v := M385 55 39) d_Mo_behind_230 fl_Mo_213 rfl (by decide) (by decide) rfl rfl (G_pc (pc' := 233) rfl ?_)
              refine G_iconst (n := 1) d_Mo_behind_233 (by decide) (G_pc (pc' := 234) rfl ?_)
              refine G_isub d_Mo_behind_234 (by omega) (G_pc (pc' := 235) rfl ?_)
              refine G_putL (o := 55) (c := 9) (k := 39) (ki := 39) (x := (M385 55 39) - 1) d_Mo_behind_235 fl_Mo_213 rfl rfl (by decide) (by decide) (by decide) rfl rfl (tokI (by omega)) rfl (G_pc (pc' := 238) rfl ?_)
              have hR395 : RP M0 (mset (mset M385 55 44 0) 55 39 ((M385 55 39) - 1)) N_383 O_383 PP o a 1 0 := (RP_drop hR393).2.2.2
              have hR395N := RP_N hR395
              (try simp only [List.length_cons, List.length_append, List.length_nil] at hR395N)
              have hR395O := RP_O hR395
              (try simp only [List.length_cons, List.length_append, List.length_nil] at hR395O)
              have hR395P := RP_P hR395
              (try simp only [List.length_cons, List.length_append, List.length_nil] at hR395P)
              refine G_aload (i := 0) (n := 2) (len := 1) (Or.inl ⟨0, rfl, rfl, d_Mo_behind_238⟩) rfl (by decide) (G_pc (pc' := 239) rfl ?_)
              refine G_dup d_Mo_behind_239 (fun _ h => by cases h) (G_pc (pc' := 240) rfl ?_)
              refine G_get (o := 55) (c := 9) (k := 42) (v := M385 55 42) d_Mo_behind_240 fl_Mo_233 rfl (by decide) (by decide) rfl rfl (G_pc (pc' := 243) rfl ?_)
              rw [show M385 55 42 = o from (show (mset (mset M385 55 44 0) 55 39 ((M385 55 39) - 1)) 55 42 = o from RP_OP hR395)]
              refine G_iconst (n := 1) d_Mo_behind_243 (by decide) (G_pc (pc' := 244) rfl ?_)
              refine G_isub d_Mo_behind_244 (by omega) (G_pc (pc' := 245) rfl ?_)
              refine G_putL (o := 55) (c := 9) (k := 42) (ki := 42) (x := o - 1) d_Mo_behind_245 fl_Mo_233 rfl rfl (by decide) (by decide) (by decide) rfl rfl (tokI (by omega)) rfl (G_pc (pc' := 248) rfl ?_)
              have hR396 : RP M0 (mset (mset (mset M385 55 44 0) 55 39 ((M385 55 39) - 1)) 55 42 (o - 1)) N_383 O_383 PP (o - 1) a 1 0 := RP_o hR395
              have hR396N := RP_N hR396
              (try simp only [List.length_cons, List.length_append, List.length_nil] at hR396N)
              have hR396O := RP_O hR396
              (try simp only [List.length_cons, List.length_append, List.length_nil] at hR396O)
              have hR396P := RP_P hR396
              (try simp only [List.length_cons, List.length_append, List.length_nil] at hR396P)
              refine G_iload (i := 2) (n := 1) (len := 1) (Or.inl ⟨2, rfl, rfl, d_Mo_behind_248⟩) rfl (G_pc (pc' := 249) rfl ?_)
              refine G_bipush (n := 23) d_Mo_behind_249 (by decide) (G_pc (pc' := 251) rfl ?_)
              refine G_icmp_ne (tgt := 282) d_Mo_behind_251 (by decide) (fun h397 => ?_) (fun h397 => G_pc (pc' := 254) rfl ?_)
              · skip
                refine G_iload (i := 1) (n := 3) (len := 1) (Or.inl ⟨1, rfl, rfl, d_Mo_behind_282⟩) rfl (G_pc (pc' := 283) rfl ?_)
                refine G_iconst (n := 1) d_Mo_behind_283 (by decide) (G_pc (pc' := 284) rfl ?_)
                refine G_iadd d_Mo_behind_284 (by omega) (G_pc (pc' := 285) rfl ?_)
                refine G_iret d_Mo_behind_285 rfl (tokI (by omega)) rfl rfl ?_
                exact Or.inr ⟨_, _, _, _, _, _, _, by unfold behindS; rw [if_neg (by omega), if_neg (by omega), if_pos (by omega), redS_e hF_383]; unfold closeS; simp only []; first | grind | (simp; grind), rfl, hR396⟩
              · skip
                have htt : tt = 22 := by omega
                have haw2 : arW tt = 1 := by rw [htt]; decide
                obtain ⟨x2, x1, Y, rfl⟩ := cons2 (O := O_383) (by omega)
                simp only [List.length_cons] at *
                refine G_aload (i := 0) (n := 2) (len := 1) (Or.inl ⟨0, rfl, rfl, d_Mo_behind_254⟩) rfl (by decide) (G_pc (pc' := 255) rfl ?_)
                refine G_callV (K1 := KE) (d2 := 0) (o := 55) (cl := 9) (as := []) (rest := []) d_Mo_behind_255 mf_Mo_pop ml_Mo_223 rfl rfl (by decide) rfl rfl (Nat.le_of_ble_eq_true rfl) (by omega) ⟨Nat.le_refl _, Nat.le_refl _⟩ (g_Mo_pop (by omega)  _ (by omega)) (fun r398 M399 kq400 q400 => ?_)
                clear kq400; obtain ⟨q400a, q400b⟩ := q400; subst r398; subst M399
                refine G_ps (pc' := 258) (st' := [vi ((mset (mset (mset M385 55 44 0) 55 39 ((M385 55 39) - 1)) 55 42 (o - 1)) 84 ((mset (mset (mset M385 55 44 0) 55 39 ((M385 55 39) - 1)) 55 42 (o - 1)) 55 37 - 1))]) rfl rfl ?_
                rw [show (mset (mset (mset M385 55 44 0) 55 39 ((M385 55 39) - 1)) 55 42 (o - 1)) 84 ((mset (mset (mset M385 55 44 0) 55 39 ((M385 55 39) - 1)) 55 42 (o - 1)) 55 37 - 1) = x2 from (RP_pop hR396).1]
                have hR401 : RP M0 (popM (mset (mset (mset M385 55 44 0) 55 39 ((M385 55 39) - 1)) 55 42 (o - 1))) N_383 (x1 :: Y) PP (o - 1) a 1 0 := (RP_pop hR396).2
                have hR401N := RP_N hR401
                (try simp only [List.length_cons, List.length_append, List.length_nil] at hR401N)
                have hR401O := RP_O hR401
                (try simp only [List.length_cons, List.length_append, List.length_nil] at hR401O)
                have hR401P := RP_P hR401
                (try simp only [List.length_cons, List.length_append, List.length_nil] at hR401P)
                refine G_istore (i := 4) (len := 2) (ls' := [(4, vi x2), (3, vi cl), (2, vi (tkA M0 k)), (0, vr 55), (1, vi k)]) (Or.inr ⟨rfl, d_Mo_behind_258⟩) (by decide) rfl (G_pc (pc' := 260) rfl ?_)
                refine G_aload (i := 0) (n := 3) (len := 1) (Or.inl ⟨0, rfl, rfl, d_Mo_behind_260⟩) rfl (by decide) (G_pc (pc' := 261) rfl ?_)
                refine G_callV (K1 := KE) (d2 := 0) (o := 55) (cl := 9) (as := []) (rest := []) d_Mo_behind_261 mf_Mo_pop ml_Mo_223 rfl rfl (by decide) rfl rfl (Nat.le_of_ble_eq_true rfl) (by omega) ⟨Nat.le_refl _, Nat.le_refl _⟩ (g_Mo_pop (by omega)  _ (by omega)) (fun r402 M403 kq404 q404 => ?_)
                clear kq404; obtain ⟨q404a, q404b⟩ := q404; subst r402; subst M403
                refine G_ps (pc' := 264) (st' := [vi ((popM (mset (mset (mset M385 55 44 0) 55 39 ((M385 55 39) - 1)) 55 42 (o - 1))) 84 ((popM (mset (mset (mset M385 55 44 0) 55 39 ((M385 55 39) - 1)) 55 42 (o - 1))) 55 37 - 1))]) rfl rfl ?_
                rw [show (popM (mset (mset (mset M385 55 44 0) 55 39 ((M385 55 39) - 1)) 55 42 (o - 1))) 84 ((popM (mset (mset (mset M385 55 44 0) 55 39 ((M385 55 39) - 1)) 55 42 (o - 1))) 55 37 - 1) = x1 from (RP_pop hR401).1]
                have hR405 : RP M0 (popM (popM (mset (mset (mset M385 55 44 0) 55 39 ((M385 55 39) - 1)) 55 42 (o - 1)))) N_383 Y PP (o - 1) a 1 0 := (RP_pop hR401).2
                have hR405N := RP_N hR405
                (try simp only [List.length_cons, List.length_append, List.length_nil] at hR405N)
                have hR405O := RP_O hR405
                (try simp only [List.length_cons, List.length_append, List.length_nil] at hR405O)
                have hR405P := RP_P hR405
                (try simp only [List.length_cons, List.length_append, List.length_nil] at hR405P)
                refine G_istore (i := 5) (len := 2) (ls' := [(5, vi x1), (4, vi x2), (3, vi cl), (2, vi (tkA M0 k)), (0, vr 55), (1, vi k)]) (Or.inr ⟨rfl, d_Mo_behind_264⟩) (by decide) rfl (G_pc (pc' := 266) rfl ?_)
                refine G_aload (i := 0) (n := 4) (len := 1) (Or.inl ⟨0, rfl, rfl, d_Mo_behind_266⟩) rfl (by decide) (G_pc (pc' := 267) rfl ?_)
                refine G_aload (i := 0) (n := 4) (len := 1) (Or.inl ⟨0, rfl, rfl, d_Mo_behind_267⟩) rfl (by decide) (G_pc (pc' := 268) rfl ?_)
                refine G_bipush (n := 62) d_Mo_behind_268 (by decide) (G_pc (pc' := 270) rfl ?_)
                refine G_iload (i := 5) (n := 0) (len := 2) (Or.inr ⟨rfl, d_Mo_behind_270⟩) rfl (G_pc (pc' := 272) rfl ?_)
                refine G_iload (i := 4) (n := 1) (len := 2) (Or.inr ⟨rfl, d_Mo_behind_272⟩) rfl (G_pc (pc' := 274) rfl ?_)
                refine G_iconst (n := (-1)) d_Mo_behind_274 (by decide) (G_pc (pc' := 275) rfl ?_)
                refine G_lconst0 d_Mo_behind_275 (G_pc (pc' := 276) rfl ?_)
                refine G_callV (K1 := KE) (d2 := 0) (o := 55) (cl := 9) (as := [vi 62, vi x1, vi x2, vi (-1), vl 0]) (rest := [vr 55]) d_Mo_behind_276 mf_Mo_node ml_Mo_226 rfl rfl (by decide) rfl rfl (Nat.le_of_ble_eq_true rfl) (by omega) ⟨Nat.le_refl _, Nat.le_refl _⟩ (g_Mo_node (by omega) 62 x1 x2 (-1) 0 _ (by omega)) (fun r406 M407 kq408 q408 => ?_)
                clear kq408; obtain ⟨q408a, q408b⟩ := q408; subst r406; subst M407
                refine G_ps (pc' := 279) (st' := [vi ((popM (popM (mset (mset (mset M385 55 44 0) 55 39 ((M385 55 39) - 1)) 55 42 (o - 1)))) 55 28), vr 55]) rfl rfl ?_
                rw [show (popM (popM (mset (mset (mset M385 55 44 0) 55 39 ((M385 55 39) - 1)) 55 42 (o - 1)))) 55 28 = ((N_383).length : Int) from RP_N hR405]
                have hR409 : RP M0 (nodeM (popM (popM (mset (mset (mset M385 55 44 0) 55 39 ((M385 55 39) - 1)) 55 42 (o - 1)))) 62 x1 x2 (-1) 0) (N_383 ++ [(62, x1, x2, (-1), 0)]) Y PP (o - 1) a 1 0 := RP_node hR405
                have hR409N := RP_N hR409
                (try simp only [List.length_cons, List.length_append, List.length_nil] at hR409N)
                have hR409O := RP_O hR409
                (try simp only [List.length_cons, List.length_append, List.length_nil] at hR409O)
                have hR409P := RP_P hR409
                (try simp only [List.length_cons, List.length_append, List.length_nil] at hR409P)
                refine G_callV (K1 := KE) (d2 := 0) (o := 55) (cl := 9) (as := [vi ((N_383).length : Int)]) (rest := []) d_Mo_behind_279 mf_Mo_push ml_Mo_230 rfl rfl (by decide) rfl rfl (Nat.le_of_ble_eq_true rfl) (by omega) ⟨Nat.le_refl _, Nat.le_refl _⟩ (g_Mo_push (by omega) ((N_383).length : Int) _ (by omega)) (fun r410 M411 kq412 q412 => ?_)
                clear kq412; obtain ⟨q412a, q412b⟩ := q412; subst r410; subst M411
                refine G_ps (pc' := 282) (st' := []) rfl rfl ?_
                have hR413 : RP M0 (pushM (nodeM (popM (popM (mset (mset (mset M385 55 44 0) 55 39 ((M385 55 39) - 1)) 55 42 (o - 1)))) 62 x1 x2 (-1) 0) ((N_383).length : Int)) (N_383 ++ [(62, x1, x2, (-1), 0)]) ((((N_383).length : Int)) :: Y) PP (o - 1) a 1 0 := RP_push hR409
                have hR413N := RP_N hR413
                (try simp only [List.length_cons, List.length_append, List.length_nil] at hR413N)
                have hR413O := RP_O hR413
                (try simp only [List.length_cons, List.length_append, List.length_nil] at hR413O)
                have hR413P := RP_P hR413
                (try simp only [List.length_cons, List.length_append, List.length_nil] at hR413P)
                refine G_iload (i := 1) (n := 5) (len := 1) (Or.inl ⟨1, rfl, rfl, d_Mo_behind_282⟩) rfl (G_pc (pc' := 283) rfl ?_)
                refine G_iconst (n := 1) d_Mo_behind_283 (by decide) (G_pc (pc' := 284) rfl ?_)
                refine G_iadd d_Mo_behind_284 (by omega) (G_pc (pc' := 285) rfl ?_)
                refine G_iret d_Mo_behind_285 rfl (tokI (by omega)) rfl rfl ?_
                exact Or.inr ⟨_, _, _, _, _, _, _, by unfold behindS; rw [if_neg (by omega), if_neg (by omega), if_pos (by omega), redS_e hF_383]; unfold closeS; simp only []; first | grind | (simp; grind), rfl, hR413⟩
            · skip
              refine G_iconst (n := 1) d_Mo_behind_211 (by decide) (G_pc (pc' := 212) rfl ?_)
              refine G_goto (tgt := 216) d_Mo_behind_212 (by decide) ?_
              refine G_putL (o := 55) (c := 9) (k := 44) (ki := 44) (x := 1) d_Mo_behind_216 fl_Mo_166 rfl rfl (by decide) (by decide) (by decide) rfl rfl (tokZ (by decide)) rfl (G_pc (pc' := 219) rfl ?_)
              have hR414 : RP M0 (mset M385 55 44 1) N_383 O_383 P_383 o a 1 1 := RP_w hR387
              have hR414N := RP_N hR414
              (try simp only [List.length_cons, List.length_append, List.length_nil] at hR414N)
              have hR414O := RP_O hR414
              (try simp only [List.length_cons, List.length_append, List.length_nil] at hR414O)
              have hR414P := RP_P hR414
              (try simp only [List.length_cons, List.length_append, List.length_nil] at hR414P)
              refine G_aload (i := 0) (n := 2) (len := 1) (Or.inl ⟨0, rfl, rfl, d_Mo_behind_219⟩) rfl (by decide) (G_pc (pc' := 220) rfl ?_)
              refine G_get (o := 55) (c := 9) (k := 44) (v := 1) d_Mo_behind_220 fl_Mo_166 rfl (by decide) (by decide) rfl rfl (G_pc (pc' := 223) rfl ?_)
              refine G_if_eq (tgt := 228) d_Mo_behind_223 (by decide) (fun h415 => absurd h415 (by decide)) (fun h415 => G_pc (pc' := 226) rfl ?_)
              refine G_iload (i := 1) (n := 3) (len := 1) (Or.inl ⟨1, rfl, rfl, d_Mo_behind_226⟩) rfl (G_pc (pc' := 227) rfl ?_)
              refine G_iret d_Mo_behind_227 rfl (tokI (by omega)) rfl rfl ?_
              exact Or.inl ⟨by unfold behindS; rw [if_neg (by omega), if_neg (by omega), if_pos (by omega), redS_e hF_383]; unfold closeS; simp only []; first | grind | (simp; grind), hR414.1, RP_W hR414, _, rfl⟩
          · skip
            refine G_bipush (n := 20) d_Mo_behind_201 (by decide) (G_pc (pc' := 203) rfl ?_)
            refine G_goto (tgt := 208) d_Mo_behind_203 (by decide) ?_
            refine G_icmp_eq (tgt := 215) d_Mo_behind_208 (by decide) (fun h416 => ?_) (fun h416 => G_pc (pc' := 211) rfl ?_)
            · skip
              refine G_iconst (n := 0) d_Mo_behind_215 (by decide) (G_pc (pc' := 216) rfl ?_)
              refine G_putL (o := 55) (c := 9) (k := 44) (ki := 44) (x := 0) d_Mo_behind_216 fl_Mo_166 rfl rfl (by decide) (by decide) (by decide) rfl rfl (tokZ (by decide)) rfl (G_pc (pc' := 219) rfl ?_)
              have hR417 : RP M0 (mset M385 55 44 0) N_383 O_383 P_383 o a 1 0 := RP_w hR387
              have hR417N := RP_N hR417
              (try simp only [List.length_cons, List.length_append, List.length_nil] at hR417N)
              have hR417O := RP_O hR417
              (try simp only [List.length_cons, List.length_append, List.length_nil] at hR417O)
              have hR417P := RP_P hR417
              (try simp only [List.length_cons, List.length_append, List.length_nil] at hR417P)
              refine G_aload (i := 0) (n := 2) (len := 1) (Or.inl ⟨0, rfl, rfl, d_Mo_behind_219⟩) rfl (by decide) (G_pc (pc' := 220) rfl ?_)
              refine G_get (o := 55) (c := 9) (k := 44) (v := 0) d_Mo_behind_220 fl_Mo_166 rfl (by decide) (by decide) rfl rfl (G_pc (pc' := 223) rfl ?_)
              refine G_if_eq (tgt := 228) d_Mo_behind_223 (by decide) (fun h418 => ?_) (fun h418 => absurd h418 (by decide))
              obtain ⟨tt, kk, PP, rfl⟩ := topP_cons' (P := P_383) (by omega)
              have htp : topP ((tt, kk) :: PP) = tt := rfl
              have haw : arP ((tt, kk) :: PP) = arW tt + arP PP := rfl
              simp only [List.length_cons] at *
              refine G_aload (i := 0) (n := 2) (len := 1) (Or.inl ⟨0, rfl, rfl, d_Mo_behind_228⟩) rfl (by decide) (G_pc (pc' := 229) rfl ?_)
              refine G_dup d_Mo_behind_229 (fun _ h => by cases h) (G_pc (pc' := 230) rfl ?_)
              refine G_get (o := 55) (c := 9) (k := 39) (v := M385 55 39) d_Mo_behind_230 fl_Mo_213 rfl (by decide) (by decide) rfl rfl (G_pc (pc' := 233) rfl ?_)
              refine G_iconst (n := 1) d_Mo_behind_233 (by decide) (G_pc (pc' := 234) rfl ?_)
              refine G_isub d_Mo_behind_234 (by omega) (G_pc (pc' := 235) rfl ?_)
              refine G_putL (o := 55) (c := 9) (k := 39) (ki := 39) (x := (M385 55 39) - 1) d_Mo_behind_235 fl_Mo_213 rfl rfl (by decide) (by decide) (by decide) rfl rfl (tokI (by omega)) rfl (G_pc (pc' := 238) rfl ?_)
              have hR419 : RP M0 (mset (mset M385 55 44 0) 55 39 ((M385 55 39) - 1)) N_383 O_383 PP o a 1 0 := (RP_drop hR417).2.2.2
              have hR419N := RP_N hR419
              (try simp only [List.length_cons, List.length_append, List.length_nil] at hR419N)
              have hR419O := RP_O hR419
              (try simp only [List.length_cons, List.length_append, List.length_nil] at hR419O)
              have hR419P := RP_P hR419
              (try simp only [List.length_cons, List.length_append, List.length_nil] at hR419P)
              refine G_aload (i := 0) (n := 2) (len := 1) (Or.inl ⟨0, rfl, rfl, d_Mo_behind_238⟩) rfl (by decide) (G_pc (pc' := 239) rfl ?_)
              refine G_dup d_Mo_behind_239 (fun _ h => by cases h) (G_pc (pc' := 240) rfl ?_)
              refine G_get (o := 55) (c := 9) (k := 42) (v := M385 55 42) d_Mo_behind_240 fl_Mo_233 rfl (by decide) (by decide) rfl rfl (G_pc (pc' := 243) rfl ?_)
              rw [show M385 55 42 = o from (show (mset (mset M385 55 44 0) 55 39 ((M385 55 39) - 1)) 55 42 = o from RP_OP hR419)]
              refine G_iconst (n := 1) d_Mo_behind_243 (by decide) (G_pc (pc' := 244) rfl ?_)
              refine G_isub d_Mo_behind_244 (by omega) (G_pc (pc' := 245) rfl ?_)
              refine G_putL (o := 55) (c := 9) (k := 42) (ki := 42) (x := o - 1) d_Mo_behind_245 fl_Mo_233 rfl rfl (by decide) (by decide) (by decide) rfl rfl (tokI (by omega)) rfl (G_pc (pc' := 248) rfl ?_)
              have hR420 : RP M0 (mset (mset (mset M385 55 44 0) 55 39 ((M385 55 39) - 1)) 55 42 (o - 1)) N_383 O_383 PP (o - 1) a 1 0 := RP_o hR419
              have hR420N := RP_N hR420
              (try simp only [List.length_cons, List.length_append, List.length_nil] at hR420N)
              have hR420O := RP_O hR420
              (try simp only [List.length_cons, List.length_append, List.length_nil] at hR420O)
              have hR420P := RP_P hR420
              (try simp only [List.length_cons, List.length_append, List.length_nil] at hR420P)
              refine G_iload (i := 2) (n := 1) (len := 1) (Or.inl ⟨2, rfl, rfl, d_Mo_behind_248⟩) rfl (G_pc (pc' := 249) rfl ?_)
              refine G_bipush (n := 23) d_Mo_behind_249 (by decide) (G_pc (pc' := 251) rfl ?_)
              refine G_icmp_ne (tgt := 282) d_Mo_behind_251 (by decide) (fun h421 => ?_) (fun h421 => G_pc (pc' := 254) rfl ?_)
              · skip
                refine G_iload (i := 1) (n := 3) (len := 1) (Or.inl ⟨1, rfl, rfl, d_Mo_behind_282⟩) rfl (G_pc (pc' := 283) rfl ?_)
                refine G_iconst (n := 1) d_Mo_behind_283 (by decide) (G_pc (pc' := 284) rfl ?_)
                refine G_iadd d_Mo_behind_284 (by omega) (G_pc (pc' := 285) rfl ?_)
                refine G_iret d_Mo_behind_285 rfl (tokI (by omega)) rfl rfl ?_
                exact Or.inr ⟨_, _, _, _, _, _, _, by unfold behindS; rw [if_neg (by omega), if_neg (by omega), if_pos (by omega), redS_e hF_383]; unfold closeS; simp only []; first | grind | (simp; grind), rfl, hR420⟩
              · skip
                have htt : tt = 22 := by omega
                have haw2 : arW tt = 1 := by rw [htt]; decide
                obtain ⟨x2, x1, Y, rfl⟩ := cons2 (O := O_383) (by omega)
                simp only [List.length_cons] at *
                refine G_aload (i := 0) (n := 2) (len := 1) (Or.inl ⟨0, rfl, rfl, d_Mo_behind_254⟩) rfl (by decide) (G_pc (pc' := 255) rfl ?_)
                refine G_callV (K1 := KE) (d2 := 0) (o := 55) (cl := 9) (as := []) (rest := []) d_Mo_behind_255 mf_Mo_pop ml_Mo_223 rfl rfl (by decide) rfl rfl (Nat.le_of_ble_eq_true rfl) (by omega) ⟨Nat.le_refl _, Nat.le_refl _⟩ (g_Mo_pop (by omega)  _ (by omega)) (fun r422 M423 kq424 q424 => ?_)
                clear kq424; obtain ⟨q424a, q424b⟩ := q424; subst r422; subst M423
                refine G_ps (pc' := 258) (st' := [vi ((mset (mset (mset M385 55 44 0) 55 39 ((M385 55 39) - 1)) 55 42 (o - 1)) 84 ((mset (mset (mset M385 55 44 0) 55 39 ((M385 55 39) - 1)) 55 42 (o - 1)) 55 37 - 1))]) rfl rfl ?_
                rw [show (mset (mset (mset M385 55 44 0) 55 39 ((M385 55 39) - 1)) 55 42 (o - 1)) 84 ((mset (mset (mset M385 55 44 0) 55 39 ((M385 55 39) - 1)) 55 42 (o - 1)) 55 37 - 1) = x2 from (RP_pop hR420).1]
                have hR425 : RP M0 (popM (mset (mset (mset M385 55 44 0) 55 39 ((M385 55 39) - 1)) 55 42 (o - 1))) N_383 (x1 :: Y) PP (o - 1) a 1 0 := (RP_pop hR420).2
                have hR425N := RP_N hR425
                (try simp only [List.length_cons, List.length_append, List.length_nil] at hR425N)
                have hR425O := RP_O hR425
                (try simp only [List.length_cons, List.length_append, List.length_nil] at hR425O)
                have hR425P := RP_P hR425
                (try simp only [List.length_cons, List.length_append, List.length_nil] at hR425P)
                refine G_istore (i := 4) (len := 2) (ls' := [(4, vi x2), (3, vi cl), (2, vi (tkA M0 k)), (0, vr 55), (1, vi k)]) (Or.inr ⟨rfl, d_Mo_behind_258⟩) (by decide) rfl (G_pc (pc' := 260) rfl ?_)
                refine G_aload (i := 0) (n := 3) (len := 1) (Or.inl ⟨0, rfl, rfl, d_Mo_behind_260⟩) rfl (by decide) (G_pc (pc' := 261) rfl ?_)
                refine G_callV (K1 := KE) (d2 := 0) (o := 55) (cl := 9) (as := []) (rest := []) d_Mo_behind_261 mf_Mo_pop ml_Mo_223 rfl rfl (by decide) rfl rfl (Nat.le_of_ble_eq_true rfl) (by omega) ⟨Nat.le_refl _, Nat.le_refl _⟩ (g_Mo_pop (by omega)  _ (by omega)) (fun r426 M427 kq428 q428 => ?_)
                clear kq428; obtain ⟨q428a, q428b⟩ := q428; subst r426; subst M427
                refine G_ps (pc' := 264) (st' := [vi ((popM (mset (mset (mset M385 55 44 0) 55 39 ((M385 55 39) - 1)) 55 42 (o - 1))) 84 ((popM (mset (mset (mset M385 55 44 0) 55 39 ((M385 55 39) - 1)) 55 42 (o - 1))) 55 37 - 1))]) rfl rfl ?_
                rw [show (popM (mset (mset (mset M385 55 44 0) 55 39 ((M385 55 39) - 1)) 55 42 (o - 1))) 84 ((popM (mset (mset (mset M385 55 44 0) 55 39 ((M385 55 39) - 1)) 55 42 (o - 1))) 55 37 - 1) = x1 from (RP_pop hR425).1]
                have hR429 : RP M0 (popM (popM (mset (mset (mset M385 55 44 0) 55 39 ((M385 55 39) - 1)) 55 42 (o - 1)))) N_383 Y PP (o - 1) a 1 0 := (RP_pop hR425).2
                have hR429N := RP_N hR429
                (try simp only [List.length_cons, List.length_append, List.length_nil] at hR429N)
                have hR429O := RP_O hR429
                (try simp only [List.length_cons, List.length_append, List.length_nil] at hR429O)
                have hR429P := RP_P hR429
                (try simp only [List.length_cons, List.length_append, List.length_nil] at hR429P)
                refine G_istore (i := 5) (len := 2) (ls' := [(5, vi x1), (4, vi x2), (3, vi cl), (2, vi (tkA M0 k)), (0, vr 55), (1, vi k)]) (Or.inr ⟨rfl, d_Mo_behind_264⟩) (by decide) rfl (G_pc (pc' := 266) rfl ?_)
                refine G_aload (i := 0) (n := 4) (len := 1) (Or.inl ⟨0, rfl, rfl, d_Mo_behind_266⟩) rfl (by decide) (G_pc (pc' := 267) rfl ?_)
                refine G_aload (i := 0) (n := 4) (len := 1) (Or.inl ⟨0, rfl, rfl, d_Mo_behind_267⟩) rfl (by decide) (G_pc (pc' := 268) rfl ?_)
                refine G_bipush (n := 62) d_Mo_behind_268 (by decide) (G_pc (pc' := 270) rfl ?_)
                refine G_iload (i := 5) (n := 0) (len := 2) (Or.inr ⟨rfl, d_Mo_behind_270⟩) rfl (G_pc (pc' := 272) rfl ?_)
                refine G_iload (i := 4) (n := 1) (len := 2) (Or.inr ⟨rfl, d_Mo_behind_272⟩) rfl (G_pc (pc' := 274) rfl ?_)
                refine G_iconst (n := (-1)) d_Mo_behind_274 (by decide) (G_pc (pc' := 275) rfl ?_)
                refine G_lconst0 d_Mo_behind_275 (G_pc (pc' := 276) rfl ?_)
                refine G_callV (K1 := KE) (d2 := 0) (o := 55) (cl := 9) (as := [vi 62, vi x1, vi x2, vi (-1), vl 0]) (rest := [vr 55]) d_Mo_behind_276 mf_Mo_node ml_Mo_226 rfl rfl (by decide) rfl rfl (Nat.le_of_ble_eq_true rfl) (by omega) ⟨Nat.le_refl _, Nat.le_refl _⟩ (g_Mo_node (by omega) 62 x1 x2 (-1) 0 _ (by omega)) (fun r430 M431 kq432 q432 => ?_)
                clear kq432; obtain ⟨q432a, q432b⟩ := q432; subst r430; subst M431
                refine G_ps (pc' := 279) (st' := [vi ((popM (popM (mset (mset (mset M385 55 44 0) 55 39 ((M385 55 39) - 1)) 55 42 (o - 1)))) 55 28), vr 55]) rfl rfl ?_
                rw [show (popM (popM (mset (mset (mset M385 55 44 0) 55 39 ((M385 55 39) - 1)) 55 42 (o - 1)))) 55 28 = ((N_383).length : Int) from RP_N hR429]
                have hR433 : RP M0 (nodeM (popM (popM (mset (mset (mset M385 55 44 0) 55 39 ((M385 55 39) - 1)) 55 42 (o - 1)))) 62 x1 x2 (-1) 0) (N_383 ++ [(62, x1, x2, (-1), 0)]) Y PP (o - 1) a 1 0 := RP_node hR429
                have hR433N := RP_N hR433
                (try simp only [List.length_cons, List.length_append, List.length_nil] at hR433N)
                have hR433O := RP_O hR433
                (try simp only [List.length_cons, List.length_append, List.length_nil] at hR433O)
                have hR433P := RP_P hR433
                (try simp only [List.length_cons, List.length_append, List.length_nil] at hR433P)
                refine G_callV (K1 := KE) (d2 := 0) (o := 55) (cl := 9) (as := [vi ((N_383).length : Int)]) (rest := []) d_Mo_behind_279 mf_Mo_push ml_Mo_230 rfl rfl (by decide) rfl rfl (Nat.le_of_ble_eq_true rfl) (by omega) ⟨Nat.le_refl _, Nat.le_refl _⟩ (g_Mo_push (by omega) ((N_383).length : Int) _ (by omega)) (fun r434 M435 kq436 q436 => ?_)
                clear kq436; obtain ⟨q436a, q436b⟩ := q436; subst r434; subst M435
                refine G_ps (pc' := 282) (st' := []) rfl rfl ?_
                have hR437 : RP M0 (pushM (nodeM (popM (popM (mset (mset (mset M385 55 44 0) 55 39 ((M385 55 39) - 1)) 55 42 (o - 1)))) 62 x1 x2 (-1) 0) ((N_383).length : Int)) (N_383 ++ [(62, x1, x2, (-1), 0)]) ((((N_383).length : Int)) :: Y) PP (o - 1) a 1 0 := RP_push hR433
                have hR437N := RP_N hR437
                (try simp only [List.length_cons, List.length_append, List.length_nil] at hR437N)
                have hR437O := RP_O hR437
                (try simp only [List.length_cons, List.length_append, List.length_nil] at hR437O)
                have hR437P := RP_P hR437
                (try simp only [List.length_cons, List.length_append, List.length_nil] at hR437P)
                refine G_iload (i := 1) (n := 5) (len := 1) (Or.inl ⟨1, rfl, rfl, d_Mo_behind_282⟩) rfl (G_pc (pc' := 283) rfl ?_)
                refine G_iconst (n := 1) d_Mo_behind_283 (by decide) (G_pc (pc' := 284) rfl ?_)
                refine G_iadd d_Mo_behind_284 (by omega) (G_pc (pc' := 285) rfl ?_)
                refine G_iret d_Mo_behind_285 rfl (tokI (by omega)) rfl rfl ?_
                exact Or.inr ⟨_, _, _, _, _, _, _, by unfold behindS; rw [if_neg (by omega), if_neg (by omega), if_pos (by omega), redS_e hF_383]; unfold closeS; simp only []; first | grind | (simp; grind), rfl, hR437⟩
            · skip
              refine G_iconst (n := 1) d_Mo_behind_211 (by decide) (G_pc (pc' := 212) rfl ?_)
              refine G_goto (tgt := 216) d_Mo_behind_212 (by decide) ?_
              refine G_putL (o := 55) (c := 9) (k := 44) (ki := 44) (x := 1) d_Mo_behind_216 fl_Mo_166 rfl rfl (by decide) (by decide) (by decide) rfl rfl (tokZ (by decide)) rfl (G_pc (pc' := 219) rfl ?_)
              have hR438 : RP M0 (mset M385 55 44 1) N_383 O_383 P_383 o a 1 1 := RP_w hR387
              have hR438N := RP_N hR438
              (try simp only [List.length_cons, List.length_append, List.length_nil] at hR438N)
              have hR438O := RP_O hR438
              (try simp only [List.length_cons, List.length_append, List.length_nil] at hR438O)
              have hR438P := RP_P hR438
              (try simp only [List.length_cons, List.length_append, List.length_nil] at hR438P)
              refine G_aload (i := 0) (n := 2) (len := 1) (Or.inl ⟨0, rfl, rfl, d_Mo_behind_219⟩) rfl (by decide) (G_pc (pc' := 220) rfl ?_)
              refine G_get (o := 55) (c := 9) (k := 44) (v := 1) d_Mo_behind_220 fl_Mo_166 rfl (by decide) (by decide) rfl rfl (G_pc (pc' := 223) rfl ?_)
              refine G_if_eq (tgt := 228) d_Mo_behind_223 (by decide) (fun h439 => absurd h439 (by decide)) (fun h439 => G_pc (pc' := 226) rfl ?_)
              refine G_iload (i := 1) (n := 3) (len := 1) (Or.inl ⟨1, rfl, rfl, d_Mo_behind_226⟩) rfl (G_pc (pc' := 227) rfl ?_)
              refine G_iret d_Mo_behind_227 rfl (tokI (by omega)) rfl rfl ?_
              exact Or.inl ⟨by unfold behindS; rw [if_neg (by omega), if_neg (by omega), if_pos (by omega), redS_e hF_383]; unfold closeS; simp only []; first | grind | (simp; grind), hR438.1, RP_W hR438, _, rfl⟩
        · skip
          refine G_iload (i := 2) (n := 1) (len := 1) (Or.inl ⟨2, rfl, rfl, d_Mo_behind_179⟩) rfl (G_pc (pc' := 180) rfl ?_)
          refine G_bipush (n := 23) d_Mo_behind_180 (by decide) (G_pc (pc' := 182) rfl ?_)
          refine G_icmp_ne (tgt := 286) d_Mo_behind_182 (by decide) (fun h440 => ?_) (fun h440 => G_pc (pc' := 185) rfl ?_)
          · skip
            refine G_iload (i := 2) (n := 1) (len := 1) (Or.inl ⟨2, rfl, rfl, d_Mo_behind_286⟩) rfl (G_pc (pc' := 287) rfl ?_)
            refine G_bipush (n := 25) d_Mo_behind_287 (by decide) (G_pc (pc' := 289) rfl ?_)
            refine G_icmp_ne (tgt := 335) d_Mo_behind_289 (by decide) (fun h441 => ?_) (fun h441 => G_pc (pc' := 292) rfl ?_)
            · skip
              refine G_iload (i := 2) (n := 1) (len := 1) (Or.inl ⟨2, rfl, rfl, d_Mo_behind_335⟩) rfl (G_pc (pc' := 336) rfl ?_)
              refine G_bipush (n := 26) d_Mo_behind_336 (by decide) (G_pc (pc' := 338) rfl ?_)
              refine G_icmp_ne (tgt := 388) d_Mo_behind_338 (by decide) (fun h442 => ?_) (fun h442 => G_pc (pc' := 341) rfl ?_)
              · skip
                refine G_iload (i := 2) (n := 1) (len := 1) (Or.inl ⟨2, rfl, rfl, d_Mo_behind_388⟩) rfl (G_pc (pc' := 389) rfl ?_)
                refine G_bipush (n := 13) d_Mo_behind_389 (by decide) (G_pc (pc' := 391) rfl ?_)
                refine G_icmp_ne (tgt := 464) d_Mo_behind_391 (by decide) (fun h443 => ?_) (fun h443 => G_pc (pc' := 394) rfl ?_)
                · skip
                  refine G_aload (i := 0) (n := 2) (len := 1) (Or.inl ⟨0, rfl, rfl, d_Mo_behind_464⟩) rfl (by decide) (G_pc (pc' := 465) rfl ?_)
                  refine G_iload (i := 2) (n := 1) (len := 1) (Or.inl ⟨2, rfl, rfl, d_Mo_behind_465⟩) rfl (G_pc (pc' := 466) rfl ?_)
                  refine G_callS (K1 := KE) (d2 := 0) (as := [vi (tkA M0 k)]) (rest := [vr 55]) d_Mo_behind_466 mf_Mo_binds ml_Mo_220 rfl rfl (Nat.le_of_ble_eq_true rfl) (by omega) ⟨Nat.le_refl _, Nat.le_refl _⟩ (g_Mo_binds (by omega) (tkA M0 k) _) (fun r444 M445 kq446 q446 => ?_)
                  clear kq446; obtain ⟨q446a, q446b⟩ := q446; subst r444; subst M445
                  refine G_ps (pc' := 469) (st' := [vi (bdV (tkA M0 k)), vr 55]) rfl rfl ?_
                  refine G_if_eq (tgt := 485) d_Mo_behind_469 (by decide) (fun h447 => ?_) (fun h447 => G_pc (pc' := 472) rfl ?_)
                  · skip
                    refine G_iconst (n := 1) d_Mo_behind_485 (by decide) (G_pc (pc' := 486) rfl ?_)
                    refine G_goto (tgt := 490) d_Mo_behind_486 (by decide) ?_
                    refine G_putL (o := 55) (c := 9) (k := 44) (ki := 44) (x := 1) d_Mo_behind_490 fl_Mo_166 rfl rfl (by decide) (by decide) (by decide) rfl rfl (tokZ (by decide)) rfl (G_pc (pc' := 493) rfl ?_)
                    have hR448 : RP M0 (mset (mset M 55 45 1) 55 44 1) N O P o a 1 1 := RP_w hR379
                    have hR448N := RP_N hR448
                    (try simp only [List.length_cons, List.length_append, List.length_nil] at hR448N)
                    have hR448O := RP_O hR448
                    (try simp only [List.length_cons, List.length_append, List.length_nil] at hR448O)
                    have hR448P := RP_P hR448
                    (try simp only [List.length_cons, List.length_append, List.length_nil] at hR448P)
                    refine G_aload (i := 0) (n := 2) (len := 1) (Or.inl ⟨0, rfl, rfl, d_Mo_behind_493⟩) rfl (by decide) (G_pc (pc' := 494) rfl ?_)
                    refine G_iload (i := 2) (n := 1) (len := 1) (Or.inl ⟨2, rfl, rfl, d_Mo_behind_494⟩) rfl (G_pc (pc' := 495) rfl ?_)
                    refine G_callS (K1 := KE) (d2 := 0) (as := [vi (tkA M0 k)]) (rest := [vr 55]) d_Mo_behind_495 mf_Mo_binds ml_Mo_220 rfl rfl (Nat.le_of_ble_eq_true rfl) (by omega) ⟨Nat.le_refl _, Nat.le_refl _⟩ (g_Mo_binds (by omega) (tkA M0 k) _) (fun r449 M450 kq451 q451 => ?_)
                    clear kq451; obtain ⟨q451a, q451b⟩ := q451; subst r449; subst M450
                    refine G_ps (pc' := 498) (st' := [vi (bdV (tkA M0 k)), vr 55]) rfl rfl ?_
                    refine G_callV (K1 := KE) (d2 := 1) (o := 55) (cl := 9) (as := [vi (bdV (tkA M0 k))]) (rest := []) d_Mo_behind_498 mf_Mo_reduce ml_Mo_251 rfl rfl (by decide) rfl rfl (Nat.le_of_ble_eq_true rfl) (by omega) ⟨Nat.le_refl _, Nat.le_refl _⟩ (g_Mo_reduce (by omega) (bdV (tkA M0 k)) M0 _ _ _ _ _ _ _ (reduceL (bdV (tkA M0 k)) N O P) _ hR448 (by omega) (by omega) (by omega) rfl) (fun r453 M454 kq455 q455 => ?_)
                    clear kq455; obtain ⟨q455a, q455b⟩ := q455; subst r453
                    obtain ⟨N_452, O_452, P_452, hF_452⟩ : ∃ N1 O1 P1, (reduceL (bdV (tkA M0 k)) N O P) = (N1, O1, P1) := ⟨_, _, _, rfl⟩
                    rw [hF_452] at q455b
                    have hI_452 := reduceL_inv hF_452 (by omega) (by omega)
                    refine G_ps (pc' := 501) (st' := []) rfl rfl ?_
                    have hR456 : RP M0 M454 N_452 O_452 P_452 o a 1 1 := q455b
                    have hR456N := RP_N hR456
                    (try simp only [List.length_cons, List.length_append, List.length_nil] at hR456N)
                    have hR456O := RP_O hR456
                    (try simp only [List.length_cons, List.length_append, List.length_nil] at hR456O)
                    have hR456P := RP_P hR456
                    (try simp only [List.length_cons, List.length_append, List.length_nil] at hR456P)
                    refine G_aload (i := 0) (n := 2) (len := 1) (Or.inl ⟨0, rfl, rfl, d_Mo_behind_501⟩) rfl (by decide) (G_pc (pc' := 502) rfl ?_)
                    refine G_iload (i := 2) (n := 1) (len := 1) (Or.inl ⟨2, rfl, rfl, d_Mo_behind_502⟩) rfl (G_pc (pc' := 503) rfl ?_)
                    refine G_iconst (n := 0) d_Mo_behind_503 (by decide) (G_pc (pc' := 504) rfl ?_)
                    refine G_callV (K1 := KE) (d2 := 0) (o := 55) (cl := 9) (as := [vi (tkA M0 k), vi 0]) (rest := []) d_Mo_behind_504 mf_Mo_hold ml_Mo_257 rfl rfl (by decide) rfl rfl (Nat.le_of_ble_eq_true rfl) (by omega) ⟨Nat.le_refl _, Nat.le_refl _⟩ (g_Mo_hold (by omega) (tkA M0 k) 0 _ (by omega)) (fun r457 M458 kq459 q459 => ?_)
                    clear kq459; obtain ⟨q459a, q459b⟩ := q459; subst r457; subst M458
                    refine G_ps (pc' := 507) (st' := []) rfl rfl ?_
                    have hR460 : RP M0 (holdM M454 (tkA M0 k) 0) N_452 O_452 ((tkA M0 k, 0) :: P_452) o a 1 1 := RP_hold hR456
                    have hR460N := RP_N hR460
                    (try simp only [List.length_cons, List.length_append, List.length_nil] at hR460N)
                    have hR460O := RP_O hR460
                    (try simp only [List.length_cons, List.length_append, List.length_nil] at hR460O)
                    have hR460P := RP_P hR460
                    (try simp only [List.length_cons, List.length_append, List.length_nil] at hR460P)
                    refine G_iload (i := 1) (n := 3) (len := 1) (Or.inl ⟨1, rfl, rfl, d_Mo_behind_507⟩) rfl (G_pc (pc' := 508) rfl ?_)
                    refine G_iconst (n := 1) d_Mo_behind_508 (by decide) (G_pc (pc' := 509) rfl ?_)
                    refine G_iadd d_Mo_behind_509 (by omega) (G_pc (pc' := 510) rfl ?_)
                    refine G_iret d_Mo_behind_510 rfl (tokI (by omega)) rfl rfl ?_
                    exact Or.inl ⟨by unfold behindS; rw [if_neg (by omega), if_neg (by omega), if_neg (by omega), if_neg (by omega), if_neg (by omega), if_neg (by omega), redS_e hF_452]; unfold binS; simp only []; first | grind | (simp; grind), hR460.1, RP_W hR460, _, rfl⟩
                  · skip
                    refine G_iload (i := 3) (n := 0) (len := 1) (Or.inl ⟨3, rfl, rfl, d_Mo_behind_472⟩) rfl (G_pc (pc' := 473) rfl ?_)
                    refine G_if_eq (tgt := 489) d_Mo_behind_473 (by decide) (fun h461 => ?_) (fun h461 => G_pc (pc' := 476) rfl ?_)
                    · skip
                      refine G_iconst (n := 0) d_Mo_behind_489 (by decide) (G_pc (pc' := 490) rfl ?_)
                      refine G_putL (o := 55) (c := 9) (k := 44) (ki := 44) (x := 0) d_Mo_behind_490 fl_Mo_166 rfl rfl (by decide) (by decide) (by decide) rfl rfl (tokZ (by decide)) rfl (G_pc (pc' := 493) rfl ?_)
                      have hR462 : RP M0 (mset (mset M 55 45 1) 55 44 0) N O P o a 1 0 := RP_w hR379
                      have hR462N := RP_N hR462
                      (try simp only [List.length_cons, List.length_append, List.length_nil] at hR462N)
                      have hR462O := RP_O hR462
                      (try simp only [List.length_cons, List.length_append, List.length_nil] at hR462O)
                      have hR462P := RP_P hR462
                      (try simp only [List.length_cons, List.length_append, List.length_nil] at hR462P)
                      refine G_aload (i := 0) (n := 2) (len := 1) (Or.inl ⟨0, rfl, rfl, d_Mo_behind_493⟩) rfl (by decide) (G_pc (pc' := 494) rfl ?_)
                      refine G_iload (i := 2) (n := 1) (len := 1) (Or.inl ⟨2, rfl, rfl, d_Mo_behind_494⟩) rfl (G_pc (pc' := 495) rfl ?_)
                      refine G_callS (K1 := KE) (d2 := 0) (as := [vi (tkA M0 k)]) (rest := [vr 55]) d_Mo_behind_495 mf_Mo_binds ml_Mo_220 rfl rfl (Nat.le_of_ble_eq_true rfl) (by omega) ⟨Nat.le_refl _, Nat.le_refl _⟩ (g_Mo_binds (by omega) (tkA M0 k) _) (fun r463 M464 kq465 q465 => ?_)
                      clear kq465; obtain ⟨q465a, q465b⟩ := q465; subst r463; subst M464
                      refine G_ps (pc' := 498) (st' := [vi (bdV (tkA M0 k)), vr 55]) rfl rfl ?_
                      refine G_callV (K1 := KE) (d2 := 1) (o := 55) (cl := 9) (as := [vi (bdV (tkA M0 k))]) (rest := []) d_Mo_behind_498 mf_Mo_reduce ml_Mo_251 rfl rfl (by decide) rfl rfl (Nat.le_of_ble_eq_true rfl) (by omega) ⟨Nat.le_refl _, Nat.le_refl _⟩ (g_Mo_reduce (by omega) (bdV (tkA M0 k)) M0 _ _ _ _ _ _ _ (reduceL (bdV (tkA M0 k)) N O P) _ hR462 (by omega) (by omega) (by omega) rfl) (fun r467 M468 kq469 q469 => ?_)
                      clear kq469; obtain ⟨q469a, q469b⟩ := q469; subst r467
                      obtain ⟨N_466, O_466, P_466, hF_466⟩ : ∃ N1 O1 P1, (reduceL (bdV (tkA M0 k)) N O P) = (N1, O1, P1) := ⟨_, _, _, rfl⟩
                      rw [hF_466] at q469b
                      have hI_466 := reduceL_inv hF_466 (by omega) (by omega)
                      refine G_ps (pc' := 501) (st' := []) rfl rfl ?_
                      have hR470 : RP M0 M468 N_466 O_466 P_466 o a 1 0 := q469b
                      have hR470N := RP_N hR470
                      (try simp only [List.length_cons, List.length_append, List.length_nil] at hR470N)
                      have hR470O := RP_O hR470
                      (try simp only [List.length_cons, List.length_append, List.length_nil] at hR470O)
                      have hR470P := RP_P hR470
                      (try simp only [List.length_cons, List.length_append, List.length_nil] at hR470P)
                      refine G_aload (i := 0) (n := 2) (len := 1) (Or.inl ⟨0, rfl, rfl, d_Mo_behind_501⟩) rfl (by decide) (G_pc (pc' := 502) rfl ?_)
                      refine G_iload (i := 2) (n := 1) (len := 1) (Or.inl ⟨2, rfl, rfl, d_Mo_behind_502⟩) rfl (G_pc (pc' := 503) rfl ?_)
                      refine G_iconst (n := 0) d_Mo_behind_503 (by decide) (G_pc (pc' := 504) rfl ?_)
                      refine G_callV (K1 := KE) (d2 := 0) (o := 55) (cl := 9) (as := [vi (tkA M0 k), vi 0]) (rest := []) d_Mo_behind_504 mf_Mo_hold ml_Mo_257 rfl rfl (by decide) rfl rfl (Nat.le_of_ble_eq_true rfl) (by omega) ⟨Nat.le_refl _, Nat.le_refl _⟩ (g_Mo_hold (by omega) (tkA M0 k) 0 _ (by omega)) (fun r471 M472 kq473 q473 => ?_)
                      clear kq473; obtain ⟨q473a, q473b⟩ := q473; subst r471; subst M472
                      refine G_ps (pc' := 507) (st' := []) rfl rfl ?_
                      have hR474 : RP M0 (holdM M468 (tkA M0 k) 0) N_466 O_466 ((tkA M0 k, 0) :: P_466) o a 1 0 := RP_hold hR470
                      have hR474N := RP_N hR474
                      (try simp only [List.length_cons, List.length_append, List.length_nil] at hR474N)
                      have hR474O := RP_O hR474
                      (try simp only [List.length_cons, List.length_append, List.length_nil] at hR474O)
                      have hR474P := RP_P hR474
                      (try simp only [List.length_cons, List.length_append, List.length_nil] at hR474P)
                      refine G_iload (i := 1) (n := 3) (len := 1) (Or.inl ⟨1, rfl, rfl, d_Mo_behind_507⟩) rfl (G_pc (pc' := 508) rfl ?_)
                      refine G_iconst (n := 1) d_Mo_behind_508 (by decide) (G_pc (pc' := 509) rfl ?_)
                      refine G_iadd d_Mo_behind_509 (by omega) (G_pc (pc' := 510) rfl ?_)
                      refine G_iret d_Mo_behind_510 rfl (tokI (by omega)) rfl rfl ?_
                      exact Or.inr ⟨_, _, _, _, _, _, _, by unfold behindS; rw [if_neg (by omega), if_neg (by omega), if_neg (by omega), if_neg (by omega), if_neg (by omega), if_neg (by omega), redS_e hF_466]; unfold binS; simp only []; first | grind | (simp; grind), rfl, hR474⟩
                    · skip
                      refine G_iload (i := 2) (n := 1) (len := 1) (Or.inl ⟨2, rfl, rfl, d_Mo_behind_476⟩) rfl (G_pc (pc' := 477) rfl ?_)
                      refine G_callS (K1 := KE) (d2 := 0) (as := [vi (tkA M0 k)]) (rest := [vr 55]) d_Mo_behind_477 mf_Mo_binds ml_Mo_220 rfl rfl (Nat.le_of_ble_eq_true rfl) (by omega) ⟨Nat.le_refl _, Nat.le_refl _⟩ (g_Mo_binds (by omega) (tkA M0 k) _) (fun r475 M476 kq477 q477 => ?_)
                      clear kq477; obtain ⟨q477a, q477b⟩ := q477; subst r475; subst M476
                      refine G_ps (pc' := 480) (st' := [vi (bdV (tkA M0 k)), vr 55]) rfl rfl ?_
                      refine G_bipush (n := 7) d_Mo_behind_480 (by decide) (G_pc (pc' := 482) rfl ?_)
                      refine G_icmp_le (tgt := 489) d_Mo_behind_482 (by decide) (fun h478 => ?_) (fun h478 => G_pc (pc' := 485) rfl ?_)
                      · skip
                        refine G_iconst (n := 0) d_Mo_behind_489 (by decide) (G_pc (pc' := 490) rfl ?_)
                        refine G_putL (o := 55) (c := 9) (k := 44) (ki := 44) (x := 0) d_Mo_behind_490 fl_Mo_166 rfl rfl (by decide) (by decide) (by decide) rfl rfl (tokZ (by decide)) rfl (G_pc (pc' := 493) rfl ?_)
                        have hR479 : RP M0 (mset (mset M 55 45 1) 55 44 0) N O P o a 1 0 := RP_w hR379
                        have hR479N := RP_N hR479
                        (try simp only [List.length_cons, List.length_append, List.length_nil] at hR479N)
                        have hR479O := RP_O hR479
                        (try simp only [List.length_cons, List.length_append, List.length_nil] at hR479O)
                        have hR479P := RP_P hR479
                        (try simp only [List.length_cons, List.length_append, List.length_nil] at hR479P)
                        refine G_aload (i := 0) (n := 2) (len := 1) (Or.inl ⟨0, rfl, rfl, d_Mo_behind_493⟩) rfl (by decide) (G_pc (pc' := 494) rfl ?_)
                        refine G_iload (i := 2) (n := 1) (len := 1) (Or.inl ⟨2, rfl, rfl, d_Mo_behind_494⟩) rfl (G_pc (pc' := 495) rfl ?_)
                        refine G_callS (K1 := KE) (d2 := 0) (as := [vi (tkA M0 k)]) (rest := [vr 55]) d_Mo_behind_495 mf_Mo_binds ml_Mo_220 rfl rfl (Nat.le_of_ble_eq_true rfl) (by omega) ⟨Nat.le_refl _, Nat.le_refl _⟩ (g_Mo_binds (by omega) (tkA M0 k) _) (fun r480 M481 kq482 q482 => ?_)
                        clear kq482; obtain ⟨q482a, q482b⟩ := q482; subst r480; subst M481
                        refine G_ps (pc' := 498) (st' := [vi (bdV (tkA M0 k)), vr 55]) rfl rfl ?_
                        refine G_callV (K1 := KE) (d2 := 1) (o := 55) (cl := 9) (as := [vi (bdV (tkA M0 k))]) (rest := []) d_Mo_behind_498 mf_Mo_reduce ml_Mo_251 rfl rfl (by decide) rfl rfl (Nat.le_of_ble_eq_true rfl) (by omega) ⟨Nat.le_refl _, Nat.le_refl _⟩ (g_Mo_reduce (by omega) (bdV (tkA M0 k)) M0 _ _ _ _ _ _ _ (reduceL (bdV (tkA M0 k)) N O P) _ hR479 (by omega) (by omega) (by omega) rfl) (fun r484 M485 kq486 q486 => ?_)
                        clear kq486; obtain ⟨q486a, q486b⟩ := q486; subst r484
                        obtain ⟨N_483, O_483, P_483, hF_483⟩ : ∃ N1 O1 P1, (reduceL (bdV (tkA M0 k)) N O P) = (N1, O1, P1) := ⟨_, _, _, rfl⟩
                        rw [hF_483] at q486b
                        have hI_483 := reduceL_inv hF_483 (by omega) (by omega)
                        refine G_ps (pc' := 501) (st' := []) rfl rfl ?_
                        have hR487 : RP M0 M485 N_483 O_483 P_483 o a 1 0 := q486b
                        have hR487N := RP_N hR487
                        (try simp only [List.length_cons, List.length_append, List.length_nil] at hR487N)
                        have hR487O := RP_O hR487
                        (try simp only [List.length_cons, List.length_append, List.length_nil] at hR487O)
                        have hR487P := RP_P hR487
                        (try simp only [List.length_cons, List.length_append, List.length_nil] at hR487P)
                        refine G_aload (i := 0) (n := 2) (len := 1) (Or.inl ⟨0, rfl, rfl, d_Mo_behind_501⟩) rfl (by decide) (G_pc (pc' := 502) rfl ?_)
                        refine G_iload (i := 2) (n := 1) (len := 1) (Or.inl ⟨2, rfl, rfl, d_Mo_behind_502⟩) rfl (G_pc (pc' := 503) rfl ?_)
                        refine G_iconst (n := 0) d_Mo_behind_503 (by decide) (G_pc (pc' := 504) rfl ?_)
                        refine G_callV (K1 := KE) (d2 := 0) (o := 55) (cl := 9) (as := [vi (tkA M0 k), vi 0]) (rest := []) d_Mo_behind_504 mf_Mo_hold ml_Mo_257 rfl rfl (by decide) rfl rfl (Nat.le_of_ble_eq_true rfl) (by omega) ⟨Nat.le_refl _, Nat.le_refl _⟩ (g_Mo_hold (by omega) (tkA M0 k) 0 _ (by omega)) (fun r488 M489 kq490 q490 => ?_)
                        clear kq490; obtain ⟨q490a, q490b⟩ := q490; subst r488; subst M489
                        refine G_ps (pc' := 507) (st' := []) rfl rfl ?_
                        have hR491 : RP M0 (holdM M485 (tkA M0 k) 0) N_483 O_483 ((tkA M0 k, 0) :: P_483) o a 1 0 := RP_hold hR487
                        have hR491N := RP_N hR491
                        (try simp only [List.length_cons, List.length_append, List.length_nil] at hR491N)
                        have hR491O := RP_O hR491
                        (try simp only [List.length_cons, List.length_append, List.length_nil] at hR491O)
                        have hR491P := RP_P hR491
                        (try simp only [List.length_cons, List.length_append, List.length_nil] at hR491P)
                        refine G_iload (i := 1) (n := 3) (len := 1) (Or.inl ⟨1, rfl, rfl, d_Mo_behind_507⟩) rfl (G_pc (pc' := 508) rfl ?_)
                        refine G_iconst (n := 1) d_Mo_behind_508 (by decide) (G_pc (pc' := 509) rfl ?_)
                        refine G_iadd d_Mo_behind_509 (by omega) (G_pc (pc' := 510) rfl ?_)
                        refine G_iret d_Mo_behind_510 rfl (tokI (by omega)) rfl rfl ?_
                        exact Or.inr ⟨_, _, _, _, _, _, _, by unfold behindS; rw [if_neg (by omega), if_neg (by omega), if_neg (by omega), if_neg (by omega), if_neg (by omega), if_neg (by omega), redS_e hF_483]; unfold binS; simp only []; first | grind | (simp; grind), rfl, hR491⟩
                      · skip
                        refine G_iconst (n := 1) d_Mo_behind_485 (by decide) (G_pc (pc' := 486) rfl ?_)
                        refine G_goto (tgt := 490) d_Mo_behind_486 (by decide) ?_
                        refine G_putL (o := 55) (c := 9) (k := 44) (ki := 44) (x := 1) d_Mo_behind_490 fl_Mo_166 rfl rfl (by decide) (by decide) (by decide) rfl rfl (tokZ (by decide)) rfl (G_pc (pc' := 493) rfl ?_)
                        have hR492 : RP M0 (mset (mset M 55 45 1) 55 44 1) N O P o a 1 1 := RP_w hR379
                        have hR492N := RP_N hR492
                        (try simp only [List.length_cons, List.length_append, List.length_nil] at hR492N)
                        have hR492O := RP_O hR492
                        (try simp only [List.length_cons, List.length_append, List.length_nil] at hR492O)
                        have hR492P := RP_P hR492
                        (try simp only [List.length_cons, List.length_append, List.length_nil] at hR492P)
                        refine G_aload (i := 0) (n := 2) (len := 1) (Or.inl ⟨0, rfl, rfl, d_Mo_behind_493⟩) rfl (by decide) (G_pc (pc' := 494) rfl ?_)
                        refine G_iload (i := 2) (n := 1) (len := 1) (Or.inl ⟨2, rfl, rfl, d_Mo_behind_494⟩) rfl (G_pc (pc' := 495) rfl ?_)
                        refine G_callS (K1 := KE) (d2 := 0) (as := [vi (tkA M0 k)]) (rest := [vr 55]) d_Mo_behind_495 mf_Mo_binds ml_Mo_220 rfl rfl (Nat.le_of_ble_eq_true rfl) (by omega) ⟨Nat.le_refl _, Nat.le_refl _⟩ (g_Mo_binds (by omega) (tkA M0 k) _) (fun r493 M494 kq495 q495 => ?_)
                        clear kq495; obtain ⟨q495a, q495b⟩ := q495; subst r493; subst M494
                        refine G_ps (pc' := 498) (st' := [vi (bdV (tkA M0 k)), vr 55]) rfl rfl ?_
                        refine G_callV (K1 := KE) (d2 := 1) (o := 55) (cl := 9) (as := [vi (bdV (tkA M0 k))]) (rest := []) d_Mo_behind_498 mf_Mo_reduce ml_Mo_251 rfl rfl (by decide) rfl rfl (Nat.le_of_ble_eq_true rfl) (by omega) ⟨Nat.le_refl _, Nat.le_refl _⟩ (g_Mo_reduce (by omega) (bdV (tkA M0 k)) M0 _ _ _ _ _ _ _ (reduceL (bdV (tkA M0 k)) N O P) _ hR492 (by omega) (by omega) (by omega) rfl) (fun r497 M498 kq499 q499 => ?_)
                        clear kq499; obtain ⟨q499a, q499b⟩ := q499; subst r497
                        obtain ⟨N_496, O_496, P_496, hF_496⟩ : ∃ N1 O1 P1, (reduceL (bdV (tkA M0 k)) N O P) = (N1, O1, P1) := ⟨_, _, _, rfl⟩
                        rw [hF_496] at q499b
                        have hI_496 := reduceL_inv hF_496 (by omega) (by omega)
                        refine G_ps (pc' := 501) (st' := []) rfl rfl ?_
                        have hR500 : RP M0 M498 N_496 O_496 P_496 o a 1 1 := q499b
                        have hR500N := RP_N hR500
                        (try simp only [List.length_cons, List.length_append, List.length_nil] at hR500N)
                        have hR500O := RP_O hR500
                        (try simp only [List.length_cons, List.length_append, List.length_nil] at hR500O)
                        have hR500P := RP_P hR500
                        (try simp only [List.length_cons, List.length_append, List.length_nil] at hR500P)
                        refine G_aload (i := 0) (n := 2) (len := 1) (Or.inl ⟨0, rfl, rfl, d_Mo_behind_501⟩) rfl (by decide) (G_pc (pc' := 502) rfl ?_)
                        refine G_iload (i := 2) (n := 1) (len := 1) (Or.inl ⟨2, rfl, rfl, d_Mo_behind_502⟩) rfl (G_pc (pc' := 503) rfl ?_)
                        refine G_iconst (n := 0) d_Mo_behind_503 (by decide) (G_pc (pc' := 504) rfl ?_)
                        refine G_callV (K1 := KE) (d2 := 0) (o := 55) (cl := 9) (as := [vi (tkA M0 k), vi 0]) (rest := []) d_Mo_behind_504 mf_Mo_hold ml_Mo_257 rfl rfl (by decide) rfl rfl (Nat.le_of_ble_eq_true rfl) (by omega) ⟨Nat.le_refl _, Nat.le_refl _⟩ (g_Mo_hold (by omega) (tkA M0 k) 0 _ (by omega)) (fun r501 M502 kq503 q503 => ?_)
                        clear kq503; obtain ⟨q503a, q503b⟩ := q503; subst r501; subst M502
                        refine G_ps (pc' := 507) (st' := []) rfl rfl ?_
                        have hR504 : RP M0 (holdM M498 (tkA M0 k) 0) N_496 O_496 ((tkA M0 k, 0) :: P_496) o a 1 1 := RP_hold hR500
                        have hR504N := RP_N hR504
                        (try simp only [List.length_cons, List.length_append, List.length_nil] at hR504N)
                        have hR504O := RP_O hR504
                        (try simp only [List.length_cons, List.length_append, List.length_nil] at hR504O)
                        have hR504P := RP_P hR504
                        (try simp only [List.length_cons, List.length_append, List.length_nil] at hR504P)
                        refine G_iload (i := 1) (n := 3) (len := 1) (Or.inl ⟨1, rfl, rfl, d_Mo_behind_507⟩) rfl (G_pc (pc' := 508) rfl ?_)
                        refine G_iconst (n := 1) d_Mo_behind_508 (by decide) (G_pc (pc' := 509) rfl ?_)
                        refine G_iadd d_Mo_behind_509 (by omega) (G_pc (pc' := 510) rfl ?_)
                        refine G_iret d_Mo_behind_510 rfl (tokI (by omega)) rfl rfl ?_
                        exact Or.inl ⟨by unfold behindS; rw [if_neg (by omega), if_neg (by omega), if_neg (by omega), if_neg (by omega), if_neg (by omega), if_neg (by omega), redS_e hF_496]; unfold binS; simp only []; first | grind | (simp; grind), hR504.1, RP_W hR504, _, rfl⟩
                · skip
                  refine G_aload (i := 0) (n := 2) (len := 1) (Or.inl ⟨0, rfl, rfl, d_Mo_behind_394⟩) rfl (by decide) (G_pc (pc' := 395) rfl ?_)
                  refine G_bipush (n := 7) d_Mo_behind_395 (by decide) (G_pc (pc' := 397) rfl ?_)
                  refine G_callV (K1 := KE) (d2 := 1) (o := 55) (cl := 9) (as := [vi 7]) (rest := []) d_Mo_behind_397 mf_Mo_reduce ml_Mo_251 rfl rfl (by decide) rfl rfl (Nat.le_of_ble_eq_true rfl) (by omega) ⟨Nat.le_refl _, Nat.le_refl _⟩ (g_Mo_reduce (by omega) 7 M0 _ _ _ _ _ _ _ (reduceL 7 N O P) _ hR379 (by omega) (by omega) (by omega) rfl) (fun r506 M507 kq508 q508 => ?_)
                  clear kq508; obtain ⟨q508a, q508b⟩ := q508; subst r506
                  obtain ⟨N_505, O_505, P_505, hF_505⟩ : ∃ N1 O1 P1, (reduceL 7 N O P) = (N1, O1, P1) := ⟨_, _, _, rfl⟩
                  rw [hF_505] at q508b
                  have hI_505 := reduceL_inv hF_505 (by omega) (by omega)
                  refine G_ps (pc' := 400) (st' := []) rfl rfl ?_
                  have hR509 : RP M0 M507 N_505 O_505 P_505 o a 1 0 := q508b
                  have hR509N := RP_N hR509
                  (try simp only [List.length_cons, List.length_append, List.length_nil] at hR509N)
                  have hR509O := RP_O hR509
                  (try simp only [List.length_cons, List.length_append, List.length_nil] at hR509O)
                  have hR509P := RP_P hR509
                  (try simp only [List.length_cons, List.length_append, List.length_nil] at hR509P)
                  refine G_aload (i := 0) (n := 2) (len := 1) (Or.inl ⟨0, rfl, rfl, d_Mo_behind_400⟩) rfl (by decide) (G_pc (pc' := 401) rfl ?_)
                  refine G_aload (i := 0) (n := 2) (len := 1) (Or.inl ⟨0, rfl, rfl, d_Mo_behind_401⟩) rfl (by decide) (G_pc (pc' := 402) rfl ?_)
                  refine G_iload (i := 1) (n := 3) (len := 1) (Or.inl ⟨1, rfl, rfl, d_Mo_behind_402⟩) rfl (G_pc (pc' := 403) rfl ?_)
                  refine G_iconst (n := 1) d_Mo_behind_403 (by decide) (G_pc (pc' := 404) rfl ?_)
                  refine G_iadd d_Mo_behind_404 (by omega) (G_pc (pc' := 405) rfl ?_)
                  refine G_callV (K1 := KE) (d2 := 0) (o := 55) (cl := 9) (as := [vi (k + 1)]) (rest := [vr 55]) d_Mo_behind_405 mf_Mo_tokenAt ml_Mo_254 rfl rfl (by decide) rfl rfl (Nat.le_of_ble_eq_true rfl) (by omega) ⟨Nat.le_refl _, Nat.le_refl _⟩ (g_Mo_tokenAt (by omega) (k + 1) _ (by omega) (by rw [RP_n hR509]; omega)) (fun r510 M511 kq512 q512 => ?_)
                  clear kq512; obtain ⟨q512a, q512b⟩ := q512; subst r510; subst M511
                  refine G_ps (pc' := 408) (st' := [vi (tkA M507 (k + 1)), vr 55]) rfl rfl ?_
                  rw [show tkA M507 (k + 1) = tkA M0 (k + 1) from RP_tk hR509 _]
                  refine G_bipush (n := 8) d_Mo_behind_408 (by decide) (G_pc (pc' := 410) rfl ?_)
                  refine G_icmp_eq (tgt := 417) d_Mo_behind_410 (by decide) (fun h513 => ?_) (fun h513 => G_pc (pc' := 413) rfl ?_)
                  · skip
                    refine G_iconst (n := 0) d_Mo_behind_417 (by decide) (G_pc (pc' := 418) rfl ?_)
                    refine G_putL (o := 55) (c := 9) (k := 44) (ki := 44) (x := 0) d_Mo_behind_418 fl_Mo_166 rfl rfl (by decide) (by decide) (by decide) rfl rfl (tokZ (by decide)) rfl (G_pc (pc' := 421) rfl ?_)
                    have hR514 : RP M0 (mset M507 55 44 0) N_505 O_505 P_505 o a 1 0 := RP_w hR509
                    have hR514N := RP_N hR514
                    (try simp only [List.length_cons, List.length_append, List.length_nil] at hR514N)
                    have hR514O := RP_O hR514
                    (try simp only [List.length_cons, List.length_append, List.length_nil] at hR514O)
                    have hR514P := RP_P hR514
                    (try simp only [List.length_cons, List.length_append, List.length_nil] at hR514P)
                    obtain ⟨x1, Y, rfl⟩ := cons1 (O := O_505) (by omega)
                    simp only [List.length_cons] at *
                    refine G_aload (i := 0) (n := 2) (len := 1) (Or.inl ⟨0, rfl, rfl, d_Mo_behind_421⟩) rfl (by decide) (G_pc (pc' := 422) rfl ?_)
                    refine G_callV (K1 := KE) (d2 := 0) (o := 55) (cl := 9) (as := []) (rest := []) d_Mo_behind_422 mf_Mo_pop ml_Mo_223 rfl rfl (by decide) rfl rfl (Nat.le_of_ble_eq_true rfl) (by omega) ⟨Nat.le_refl _, Nat.le_refl _⟩ (g_Mo_pop (by omega)  _ (by omega)) (fun r515 M516 kq517 q517 => ?_)
                    clear kq517; obtain ⟨q517a, q517b⟩ := q517; subst r515; subst M516
                    refine G_ps (pc' := 425) (st' := [vi ((mset M507 55 44 0) 84 ((mset M507 55 44 0) 55 37 - 1))]) rfl rfl ?_
                    rw [show (mset M507 55 44 0) 84 ((mset M507 55 44 0) 55 37 - 1) = x1 from (RP_pop hR514).1]
                    have hR518 : RP M0 (popM (mset M507 55 44 0)) N_505 Y P_505 o a 1 0 := (RP_pop hR514).2
                    have hR518N := RP_N hR518
                    (try simp only [List.length_cons, List.length_append, List.length_nil] at hR518N)
                    have hR518O := RP_O hR518
                    (try simp only [List.length_cons, List.length_append, List.length_nil] at hR518O)
                    have hR518P := RP_P hR518
                    (try simp only [List.length_cons, List.length_append, List.length_nil] at hR518P)
                    refine G_istore (i := 4) (len := 2) (ls' := [(4, vi x1), (3, vi cl), (2, vi (tkA M0 k)), (0, vr 55), (1, vi k)]) (Or.inr ⟨rfl, d_Mo_behind_425⟩) (by decide) rfl (G_pc (pc' := 427) rfl ?_)
                    refine G_aload (i := 0) (n := 3) (len := 1) (Or.inl ⟨0, rfl, rfl, d_Mo_behind_427⟩) rfl (by decide) (G_pc (pc' := 428) rfl ?_)
                    refine G_aload (i := 0) (n := 3) (len := 1) (Or.inl ⟨0, rfl, rfl, d_Mo_behind_428⟩) rfl (by decide) (G_pc (pc' := 429) rfl ?_)
                    refine G_bipush (n := 63) d_Mo_behind_429 (by decide) (G_pc (pc' := 431) rfl ?_)
                    refine G_iload (i := 4) (n := 0) (len := 2) (Or.inr ⟨rfl, d_Mo_behind_431⟩) rfl (G_pc (pc' := 433) rfl ?_)
                    refine G_iconst (n := (-1)) d_Mo_behind_433 (by decide) (G_pc (pc' := 434) rfl ?_)
                    refine G_iconst (n := (-1)) d_Mo_behind_434 (by decide) (G_pc (pc' := 435) rfl ?_)
                    refine G_aload (i := 0) (n := 3) (len := 1) (Or.inl ⟨0, rfl, rfl, d_Mo_behind_435⟩) rfl (by decide) (G_pc (pc' := 436) rfl ?_)
                    refine G_get (o := 55) (c := 9) (k := 44) (v := (popM (mset M507 55 44 0)) 55 44) d_Mo_behind_436 fl_Mo_166 rfl (by decide) (by decide) rfl rfl (G_pc (pc' := 439) rfl ?_)
                    rw [show (popM (mset M507 55 44 0)) 55 44 = 0 from (show (popM (mset M507 55 44 0)) 55 44 = 0 from RP_W hR518)]
                    refine G_if_eq (tgt := 446) d_Mo_behind_439 (by decide) (fun h519 => ?_) (fun h519 => absurd h519 (by decide))
                    refine G_aload (i := 0) (n := 3) (len := 1) (Or.inl ⟨0, rfl, rfl, d_Mo_behind_446⟩) rfl (by decide) (G_pc (pc' := 447) rfl ?_)
                    refine G_get (o := 55) (c := 9) (k := 27) (v := 75) d_Mo_behind_447 fl_Mo_69 rfl (by decide) (by decide) rfl rfl (G_pc (pc' := 450) rfl ?_)
                    refine G_iload (i := 1) (n := 4) (len := 1) (Or.inl ⟨1, rfl, rfl, d_Mo_behind_450⟩) rfl (G_pc (pc' := 451) rfl ?_)
                    refine G_iconst (n := 1) d_Mo_behind_451 (by decide) (G_pc (pc' := 452) rfl ?_)
                    refine G_iadd d_Mo_behind_452 (by omega) (G_pc (pc' := 453) rfl ?_)
                    refine G_laload (o := 75) (n := 25) (i := k + 1) (v := (popM (mset M507 55 44 0)) 75 (k + 1)) d_Mo_behind_453 rfl ⟨by decide, by decide⟩ (by omega) (rd_arr rfl) (fun t520 => G_pc (pc' := 454) rfl ?_)
                    have t520 := tok_l t520
                    rw [show (popM (mset M507 55 44 0)) 75 (k + 1) = M0 75 (k + 1) from RP_v hR518]
                    refine G_callV (K1 := KE) (d2 := 0) (o := 55) (cl := 9) (as := [vi 63, vi x1, vi (-1), vi (-1), vl (M0 75 (k + 1))]) (rest := [vr 55]) d_Mo_behind_454 mf_Mo_node ml_Mo_226 rfl rfl (by decide) rfl rfl (Nat.le_of_ble_eq_true rfl) (by omega) ⟨Nat.le_refl _, Nat.le_refl _⟩ (g_Mo_node (by omega) 63 x1 (-1) (-1) (M0 75 (k + 1)) _ (by omega)) (fun r521 M522 kq523 q523 => ?_)
                    clear kq523; obtain ⟨q523a, q523b⟩ := q523; subst r521; subst M522
                    refine G_ps (pc' := 457) (st' := [vi ((popM (mset M507 55 44 0)) 55 28), vr 55]) rfl rfl ?_
                    rw [show (popM (mset M507 55 44 0)) 55 28 = ((N_505).length : Int) from RP_N hR518]
                    have hR524 : RP M0 (nodeM (popM (mset M507 55 44 0)) 63 x1 (-1) (-1) (M0 75 (k + 1))) (N_505 ++ [(63, x1, (-1), (-1), M0 75 (k + 1))]) Y P_505 o a 1 0 := RP_node hR518
                    have hR524N := RP_N hR524
                    (try simp only [List.length_cons, List.length_append, List.length_nil] at hR524N)
                    have hR524O := RP_O hR524
                    (try simp only [List.length_cons, List.length_append, List.length_nil] at hR524O)
                    have hR524P := RP_P hR524
                    (try simp only [List.length_cons, List.length_append, List.length_nil] at hR524P)
                    refine G_callV (K1 := KE) (d2 := 0) (o := 55) (cl := 9) (as := [vi ((N_505).length : Int)]) (rest := []) d_Mo_behind_457 mf_Mo_push ml_Mo_230 rfl rfl (by decide) rfl rfl (Nat.le_of_ble_eq_true rfl) (by omega) ⟨Nat.le_refl _, Nat.le_refl _⟩ (g_Mo_push (by omega) ((N_505).length : Int) _ (by omega)) (fun r525 M526 kq527 q527 => ?_)
                    clear kq527; obtain ⟨q527a, q527b⟩ := q527; subst r525; subst M526
                    refine G_ps (pc' := 460) (st' := []) rfl rfl ?_
                    have hR528 : RP M0 (pushM (nodeM (popM (mset M507 55 44 0)) 63 x1 (-1) (-1) (M0 75 (k + 1))) ((N_505).length : Int)) (N_505 ++ [(63, x1, (-1), (-1), M0 75 (k + 1))]) ((((N_505).length : Int)) :: Y) P_505 o a 1 0 := RP_push hR524
                    have hR528N := RP_N hR528
                    (try simp only [List.length_cons, List.length_append, List.length_nil] at hR528N)
                    have hR528O := RP_O hR528
                    (try simp only [List.length_cons, List.length_append, List.length_nil] at hR528O)
                    have hR528P := RP_P hR528
                    (try simp only [List.length_cons, List.length_append, List.length_nil] at hR528P)
                    refine G_iload (i := 1) (n := 4) (len := 1) (Or.inl ⟨1, rfl, rfl, d_Mo_behind_460⟩) rfl (G_pc (pc' := 461) rfl ?_)
                    refine G_iconst (n := 2) d_Mo_behind_461 (by decide) (G_pc (pc' := 462) rfl ?_)
                    refine G_iadd d_Mo_behind_462 (by omega) (G_pc (pc' := 463) rfl ?_)
                    refine G_iret d_Mo_behind_463 rfl (tokI (by omega)) rfl rfl ?_
                    exact Or.inr ⟨_, _, _, _, _, _, _, by unfold behindS; rw [if_neg (by omega), if_neg (by omega), if_neg (by omega), if_neg (by omega), if_neg (by omega), if_pos (by omega), redS_e hF_505]; unfold ofS; simp only []; first | grind | (simp; grind), rfl, hR528⟩
                  · skip
                    refine G_iconst (n := 1) d_Mo_behind_413 (by decide) (G_pc (pc' := 414) rfl ?_)
                    refine G_goto (tgt := 418) d_Mo_behind_414 (by decide) ?_
                    refine G_putL (o := 55) (c := 9) (k := 44) (ki := 44) (x := 1) d_Mo_behind_418 fl_Mo_166 rfl rfl (by decide) (by decide) (by decide) rfl rfl (tokZ (by decide)) rfl (G_pc (pc' := 421) rfl ?_)
                    have hR529 : RP M0 (mset M507 55 44 1) N_505 O_505 P_505 o a 1 1 := RP_w hR509
                    have hR529N := RP_N hR529
                    (try simp only [List.length_cons, List.length_append, List.length_nil] at hR529N)
                    have hR529O := RP_O hR529
                    (try simp only [List.length_cons, List.length_append, List.length_nil] at hR529O)
                    have hR529P := RP_P hR529
                    (try simp only [List.length_cons, List.length_append, List.length_nil] at hR529P)
                    obtain ⟨x1, Y, rfl⟩ := cons1 (O := O_505) (by omega)
                    simp only [List.length_cons] at *
                    refine G_aload (i := 0) (n := 2) (len := 1) (Or.inl ⟨0, rfl, rfl, d_Mo_behind_421⟩) rfl (by decide) (G_pc (pc' := 422) rfl ?_)
                    refine G_callV (K1 := KE) (d2 := 0) (o := 55) (cl := 9) (as := []) (rest := []) d_Mo_behind_422 mf_Mo_pop ml_Mo_223 rfl rfl (by decide) rfl rfl (Nat.le_of_ble_eq_true rfl) (by omega) ⟨Nat.le_refl _, Nat.le_refl _⟩ (g_Mo_pop (by omega)  _ (by omega)) (fun r530 M531 kq532 q532 => ?_)
                    clear kq532; obtain ⟨q532a, q532b⟩ := q532; subst r530; subst M531
                    refine G_ps (pc' := 425) (st' := [vi ((mset M507 55 44 1) 84 ((mset M507 55 44 1) 55 37 - 1))]) rfl rfl ?_
                    rw [show (mset M507 55 44 1) 84 ((mset M507 55 44 1) 55 37 - 1) = x1 from (RP_pop hR529).1]
                    have hR533 : RP M0 (popM (mset M507 55 44 1)) N_505 Y P_505 o a 1 1 := (RP_pop hR529).2
                    have hR533N := RP_N hR533
                    (try simp only [List.length_cons, List.length_append, List.length_nil] at hR533N)
                    have hR533O := RP_O hR533
                    (try simp only [List.length_cons, List.length_append, List.length_nil] at hR533O)
                    have hR533P := RP_P hR533
                    (try simp only [List.length_cons, List.length_append, List.length_nil] at hR533P)
                    refine G_istore (i := 4) (len := 2) (ls' := [(4, vi x1), (3, vi cl), (2, vi (tkA M0 k)), (0, vr 55), (1, vi k)]) (Or.inr ⟨rfl, d_Mo_behind_425⟩) (by decide) rfl (G_pc (pc' := 427) rfl ?_)
                    refine G_aload (i := 0) (n := 3) (len := 1) (Or.inl ⟨0, rfl, rfl, d_Mo_behind_427⟩) rfl (by decide) (G_pc (pc' := 428) rfl ?_)
                    refine G_aload (i := 0) (n := 3) (len := 1) (Or.inl ⟨0, rfl, rfl, d_Mo_behind_428⟩) rfl (by decide) (G_pc (pc' := 429) rfl ?_)
                    refine G_bipush (n := 63) d_Mo_behind_429 (by decide) (G_pc (pc' := 431) rfl ?_)
                    refine G_iload (i := 4) (n := 0) (len := 2) (Or.inr ⟨rfl, d_Mo_behind_431⟩) rfl (G_pc (pc' := 433) rfl ?_)
                    refine G_iconst (n := (-1)) d_Mo_behind_433 (by decide) (G_pc (pc' := 434) rfl ?_)
                    refine G_iconst (n := (-1)) d_Mo_behind_434 (by decide) (G_pc (pc' := 435) rfl ?_)
                    refine G_aload (i := 0) (n := 3) (len := 1) (Or.inl ⟨0, rfl, rfl, d_Mo_behind_435⟩) rfl (by decide) (G_pc (pc' := 436) rfl ?_)
                    refine G_get (o := 55) (c := 9) (k := 44) (v := (popM (mset M507 55 44 1)) 55 44) d_Mo_behind_436 fl_Mo_166 rfl (by decide) (by decide) rfl rfl (G_pc (pc' := 439) rfl ?_)
                    rw [show (popM (mset M507 55 44 1)) 55 44 = 1 from (show (popM (mset M507 55 44 1)) 55 44 = 1 from RP_W hR533)]
                    refine G_if_eq (tgt := 446) d_Mo_behind_439 (by decide) (fun h534 => absurd h534 (by decide)) (fun h534 => G_pc (pc' := 442) rfl ?_)
                    refine G_lconst0 d_Mo_behind_442 (G_pc (pc' := 443) rfl ?_)
                    refine G_goto (tgt := 454) d_Mo_behind_443 (by decide) ?_
                    refine G_callV (K1 := KE) (d2 := 0) (o := 55) (cl := 9) (as := [vi 63, vi x1, vi (-1), vi (-1), vl 0]) (rest := [vr 55]) d_Mo_behind_454 mf_Mo_node ml_Mo_226 rfl rfl (by decide) rfl rfl (Nat.le_of_ble_eq_true rfl) (by omega) ⟨Nat.le_refl _, Nat.le_refl _⟩ (g_Mo_node (by omega) 63 x1 (-1) (-1) 0 _ (by omega)) (fun r535 M536 kq537 q537 => ?_)
                    clear kq537; obtain ⟨q537a, q537b⟩ := q537; subst r535; subst M536
                    refine G_ps (pc' := 457) (st' := [vi ((popM (mset M507 55 44 1)) 55 28), vr 55]) rfl rfl ?_
                    rw [show (popM (mset M507 55 44 1)) 55 28 = ((N_505).length : Int) from RP_N hR533]
                    have hR538 : RP M0 (nodeM (popM (mset M507 55 44 1)) 63 x1 (-1) (-1) 0) (N_505 ++ [(63, x1, (-1), (-1), 0)]) Y P_505 o a 1 1 := RP_node hR533
                    have hR538N := RP_N hR538
                    (try simp only [List.length_cons, List.length_append, List.length_nil] at hR538N)
                    have hR538O := RP_O hR538
                    (try simp only [List.length_cons, List.length_append, List.length_nil] at hR538O)
                    have hR538P := RP_P hR538
                    (try simp only [List.length_cons, List.length_append, List.length_nil] at hR538P)
                    refine G_callV (K1 := KE) (d2 := 0) (o := 55) (cl := 9) (as := [vi ((N_505).length : Int)]) (rest := []) d_Mo_behind_457 mf_Mo_push ml_Mo_230 rfl rfl (by decide) rfl rfl (Nat.le_of_ble_eq_true rfl) (by omega) ⟨Nat.le_refl _, Nat.le_refl _⟩ (g_Mo_push (by omega) ((N_505).length : Int) _ (by omega)) (fun r539 M540 kq541 q541 => ?_)
                    clear kq541; obtain ⟨q541a, q541b⟩ := q541; subst r539; subst M540
                    refine G_ps (pc' := 460) (st' := []) rfl rfl ?_
                    have hR542 : RP M0 (pushM (nodeM (popM (mset M507 55 44 1)) 63 x1 (-1) (-1) 0) ((N_505).length : Int)) (N_505 ++ [(63, x1, (-1), (-1), 0)]) ((((N_505).length : Int)) :: Y) P_505 o a 1 1 := RP_push hR538
                    have hR542N := RP_N hR542
                    (try simp only [List.length_cons, List.length_append, List.length_nil] at hR542N)
                    have hR542O := RP_O hR542
                    (try simp only [List.length_cons, List.length_append, List.length_nil] at hR542O)
                    have hR542P := RP_P hR542
                    (try simp only [List.length_cons, List.length_append, List.length_nil] at hR542P)
                    refine G_iload (i := 1) (n := 4) (len := 1) (Or.inl ⟨1, rfl, rfl, d_Mo_behind_460⟩) rfl (G_pc (pc' := 461) rfl ?_)
                    refine G_iconst (n := 2) d_Mo_behind_461 (by decide) (G_pc (pc' := 462) rfl ?_)
                    refine G_iadd d_Mo_behind_462 (by omega) (G_pc (pc' := 463) rfl ?_)
                    refine G_iret d_Mo_behind_463 rfl (tokI (by omega)) rfl rfl ?_
                    exact Or.inl ⟨by unfold behindS; rw [if_neg (by omega), if_neg (by omega), if_neg (by omega), if_neg (by omega), if_neg (by omega), if_pos (by omega), redS_e hF_505]; unfold ofS; simp only []; first | grind | (simp; grind), hR542.1, RP_W hR542, _, rfl⟩
              · skip
                refine G_aload (i := 0) (n := 2) (len := 1) (Or.inl ⟨0, rfl, rfl, d_Mo_behind_341⟩) rfl (by decide) (G_pc (pc' := 342) rfl ?_)
                refine G_iconst (n := 0) d_Mo_behind_342 (by decide) (G_pc (pc' := 343) rfl ?_)
                refine G_callV (K1 := KE) (d2 := 1) (o := 55) (cl := 9) (as := [vi 0]) (rest := []) d_Mo_behind_343 mf_Mo_reduce ml_Mo_251 rfl rfl (by decide) rfl rfl (Nat.le_of_ble_eq_true rfl) (by omega) ⟨Nat.le_refl _, Nat.le_refl _⟩ (g_Mo_reduce (by omega) 0 M0 _ _ _ _ _ _ _ (reduceL 0 N O P) _ hR379 (by omega) (by omega) (by omega) rfl) (fun r544 M545 kq546 q546 => ?_)
                clear kq546; obtain ⟨q546a, q546b⟩ := q546; subst r544
                obtain ⟨N_543, O_543, P_543, hF_543⟩ : ∃ N1 O1 P1, (reduceL 0 N O P) = (N1, O1, P1) := ⟨_, _, _, rfl⟩
                rw [hF_543] at q546b
                have hI_543 := reduceL_inv hF_543 (by omega) (by omega)
                refine G_ps (pc' := 346) (st' := []) rfl rfl ?_
                have hR547 : RP M0 M545 N_543 O_543 P_543 o a 1 0 := q546b
                have hR547N := RP_N hR547
                (try simp only [List.length_cons, List.length_append, List.length_nil] at hR547N)
                have hR547O := RP_O hR547
                (try simp only [List.length_cons, List.length_append, List.length_nil] at hR547O)
                have hR547P := RP_P hR547
                (try simp only [List.length_cons, List.length_append, List.length_nil] at hR547P)
                refine G_aload (i := 0) (n := 2) (len := 1) (Or.inl ⟨0, rfl, rfl, d_Mo_behind_346⟩) rfl (by decide) (G_pc (pc' := 347) rfl ?_)
                refine G_aload (i := 0) (n := 2) (len := 1) (Or.inl ⟨0, rfl, rfl, d_Mo_behind_347⟩) rfl (by decide) (G_pc (pc' := 348) rfl ?_)
                refine G_callV (K1 := KE) (d2 := 0) (o := 55) (cl := 9) (as := []) (rest := [vr 55]) d_Mo_behind_348 mf_Mo_top ml_Mo_216 rfl rfl (by decide) rfl rfl (Nat.le_of_ble_eq_true rfl) (by omega) ⟨Nat.le_refl _, Nat.le_refl _⟩ (g_Mo_top (by omega)  _ (by omega)) (fun r548 M549 kq550 q550 => ?_)
                clear kq550; obtain ⟨q550a, q550b⟩ := q550; subst r548; subst M549
                refine G_ps (pc' := 351) (st' := [vi (topM M545), vr 55]) rfl rfl ?_
                rw [show topM M545 = topP P_543 from RP_top hR547]
                refine G_bipush (n := 25) d_Mo_behind_351 (by decide) (G_pc (pc' := 353) rfl ?_)
                refine G_icmp_eq (tgt := 360) d_Mo_behind_353 (by decide) (fun h551 => ?_) (fun h551 => G_pc (pc' := 356) rfl ?_)
                · skip
                  refine G_iconst (n := 0) d_Mo_behind_360 (by decide) (G_pc (pc' := 361) rfl ?_)
                  refine G_putL (o := 55) (c := 9) (k := 44) (ki := 44) (x := 0) d_Mo_behind_361 fl_Mo_166 rfl rfl (by decide) (by decide) (by decide) rfl rfl (tokZ (by decide)) rfl (G_pc (pc' := 364) rfl ?_)
                  have hR552 : RP M0 (mset M545 55 44 0) N_543 O_543 P_543 o a 1 0 := RP_w hR547
                  have hR552N := RP_N hR552
                  (try simp only [List.length_cons, List.length_append, List.length_nil] at hR552N)
                  have hR552O := RP_O hR552
                  (try simp only [List.length_cons, List.length_append, List.length_nil] at hR552O)
                  have hR552P := RP_P hR552
                  (try simp only [List.length_cons, List.length_append, List.length_nil] at hR552P)
                  refine G_aload (i := 0) (n := 2) (len := 1) (Or.inl ⟨0, rfl, rfl, d_Mo_behind_364⟩) rfl (by decide) (G_pc (pc' := 365) rfl ?_)
                  refine G_get (o := 55) (c := 9) (k := 44) (v := 0) d_Mo_behind_365 fl_Mo_166 rfl (by decide) (by decide) rfl rfl (G_pc (pc' := 368) rfl ?_)
                  refine G_if_ne (tgt := 384) d_Mo_behind_368 (by decide) (fun h553 => absurd h553 (by decide)) (fun h553 => G_pc (pc' := 371) rfl ?_)
                  obtain ⟨tt, kk, PP, rfl⟩ := topP_cons' (P := P_543) (by omega)
                  have htp : topP ((tt, kk) :: PP) = tt := rfl
                  have haw : arP ((tt, kk) :: PP) = arW tt + arP PP := rfl
                  simp only [List.length_cons] at *
                  refine G_aload (i := 0) (n := 2) (len := 1) (Or.inl ⟨0, rfl, rfl, d_Mo_behind_371⟩) rfl (by decide) (G_pc (pc' := 372) rfl ?_)
                  refine G_get (o := 55) (c := 9) (k := 40) (v := 85) d_Mo_behind_372 fl_Mo_99 rfl (by decide) (by decide) rfl rfl (G_pc (pc' := 375) rfl ?_)
                  refine G_aload (i := 0) (n := 2) (len := 1) (Or.inl ⟨0, rfl, rfl, d_Mo_behind_375⟩) rfl (by decide) (G_pc (pc' := 376) rfl ?_)
                  refine G_get (o := 55) (c := 9) (k := 39) (v := M545 55 39) d_Mo_behind_376 fl_Mo_213 rfl (by decide) (by decide) rfl rfl (G_pc (pc' := 379) rfl ?_)
                  refine G_iconst (n := 1) d_Mo_behind_379 (by decide) (G_pc (pc' := 380) rfl ?_)
                  refine G_isub d_Mo_behind_380 (by omega) (G_pc (pc' := 381) rfl ?_)
                  refine G_bipush (n := 26) d_Mo_behind_381 (by decide) (G_pc (pc' := 383) rfl ?_)
                  refine G_iastore (o := 85) (n := 32) (i := (M545 55 39) - 1) (x := 26) d_Mo_behind_383 rfl ⟨by decide, by decide⟩ (by decide) (gt_arr rfl _) (by omega) (tokI (by decide)) (G_pc (pc' := 384) rfl ?_)
                  have hR554 : RP M0 (mset (mset M545 55 44 0) 85 ((M545 55 39) - 1) 26) N_543 O_543 ((26, kk) :: PP) o a 1 0 := RP_retop hR552
                  have hR554N := RP_N hR554
                  (try simp only [List.length_cons, List.length_append, List.length_nil] at hR554N)
                  have hR554O := RP_O hR554
                  (try simp only [List.length_cons, List.length_append, List.length_nil] at hR554O)
                  have hR554P := RP_P hR554
                  (try simp only [List.length_cons, List.length_append, List.length_nil] at hR554P)
                  refine G_iload (i := 1) (n := 3) (len := 1) (Or.inl ⟨1, rfl, rfl, d_Mo_behind_384⟩) rfl (G_pc (pc' := 385) rfl ?_)
                  refine G_iconst (n := 1) d_Mo_behind_385 (by decide) (G_pc (pc' := 386) rfl ?_)
                  refine G_iadd d_Mo_behind_386 (by omega) (G_pc (pc' := 387) rfl ?_)
                  refine G_iret d_Mo_behind_387 rfl (tokI (by omega)) rfl rfl ?_
                  exact Or.inr ⟨_, _, _, _, _, _, _, by unfold behindS; rw [if_neg (by omega), if_neg (by omega), if_neg (by omega), if_neg (by omega), if_pos (by omega), redS_e hF_543]; unfold colS; simp only []; first | grind | (simp; grind), rfl, hR554⟩
                · skip
                  refine G_iconst (n := 1) d_Mo_behind_356 (by decide) (G_pc (pc' := 357) rfl ?_)
                  refine G_goto (tgt := 361) d_Mo_behind_357 (by decide) ?_
                  refine G_putL (o := 55) (c := 9) (k := 44) (ki := 44) (x := 1) d_Mo_behind_361 fl_Mo_166 rfl rfl (by decide) (by decide) (by decide) rfl rfl (tokZ (by decide)) rfl (G_pc (pc' := 364) rfl ?_)
                  have hR555 : RP M0 (mset M545 55 44 1) N_543 O_543 P_543 o a 1 1 := RP_w hR547
                  have hR555N := RP_N hR555
                  (try simp only [List.length_cons, List.length_append, List.length_nil] at hR555N)
                  have hR555O := RP_O hR555
                  (try simp only [List.length_cons, List.length_append, List.length_nil] at hR555O)
                  have hR555P := RP_P hR555
                  (try simp only [List.length_cons, List.length_append, List.length_nil] at hR555P)
                  refine G_aload (i := 0) (n := 2) (len := 1) (Or.inl ⟨0, rfl, rfl, d_Mo_behind_364⟩) rfl (by decide) (G_pc (pc' := 365) rfl ?_)
                  refine G_get (o := 55) (c := 9) (k := 44) (v := 1) d_Mo_behind_365 fl_Mo_166 rfl (by decide) (by decide) rfl rfl (G_pc (pc' := 368) rfl ?_)
                  refine G_if_ne (tgt := 384) d_Mo_behind_368 (by decide) (fun h556 => ?_) (fun h556 => absurd h556 (by decide))
                  refine G_iload (i := 1) (n := 3) (len := 1) (Or.inl ⟨1, rfl, rfl, d_Mo_behind_384⟩) rfl (G_pc (pc' := 385) rfl ?_)
                  refine G_iconst (n := 1) d_Mo_behind_385 (by decide) (G_pc (pc' := 386) rfl ?_)
                  refine G_iadd d_Mo_behind_386 (by omega) (G_pc (pc' := 387) rfl ?_)
                  refine G_iret d_Mo_behind_387 rfl (tokI (by omega)) rfl rfl ?_
                  exact Or.inl ⟨by unfold behindS; rw [if_neg (by omega), if_neg (by omega), if_neg (by omega), if_neg (by omega), if_pos (by omega), redS_e hF_543]; unfold colS; simp only []; first | grind | (simp; grind), hR555.1, RP_W hR555, _, rfl⟩
            · skip
              refine G_aload (i := 0) (n := 2) (len := 1) (Or.inl ⟨0, rfl, rfl, d_Mo_behind_292⟩) rfl (by decide) (G_pc (pc' := 293) rfl ?_)
              refine G_iconst (n := 1) d_Mo_behind_293 (by decide) (G_pc (pc' := 294) rfl ?_)
              refine G_callV (K1 := KE) (d2 := 1) (o := 55) (cl := 9) (as := [vi 1]) (rest := []) d_Mo_behind_294 mf_Mo_reduce ml_Mo_251 rfl rfl (by decide) rfl rfl (Nat.le_of_ble_eq_true rfl) (by omega) ⟨Nat.le_refl _, Nat.le_refl _⟩ (g_Mo_reduce (by omega) 1 M0 _ _ _ _ _ _ _ (reduceL 1 N O P) _ hR379 (by omega) (by omega) (by omega) rfl) (fun r558 M559 kq560 q560 => ?_)
              clear kq560; obtain ⟨q560a, q560b⟩ := q560; subst r558
              obtain ⟨N_557, O_557, P_557, hF_557⟩ : ∃ N1 O1 P1, (reduceL 1 N O P) = (N1, O1, P1) := ⟨_, _, _, rfl⟩
              rw [hF_557] at q560b
              have hI_557 := reduceL_inv hF_557 (by omega) (by omega)
              refine G_ps (pc' := 297) (st' := []) rfl rfl ?_
              have hR561 : RP M0 M559 N_557 O_557 P_557 o a 1 0 := q560b
              have hR561N := RP_N hR561
              (try simp only [List.length_cons, List.length_append, List.length_nil] at hR561N)
              have hR561O := RP_O hR561
              (try simp only [List.length_cons, List.length_append, List.length_nil] at hR561O)
              have hR561P := RP_P hR561
              (try simp only [List.length_cons, List.length_append, List.length_nil] at hR561P)
              refine G_aload (i := 0) (n := 2) (len := 1) (Or.inl ⟨0, rfl, rfl, d_Mo_behind_297⟩) rfl (by decide) (G_pc (pc' := 298) rfl ?_)
              refine G_dup d_Mo_behind_298 (fun _ h => by cases h) (G_pc (pc' := 299) rfl ?_)
              refine G_get (o := 55) (c := 9) (k := 43) (v := M559 55 43) d_Mo_behind_299 fl_Mo_236 rfl (by decide) (by decide) rfl rfl (G_pc (pc' := 302) rfl ?_)
              rw [show M559 55 43 = a from (show M559 55 43 = a from RP_A hR561)]
              refine G_iconst (n := 1) d_Mo_behind_302 (by decide) (G_pc (pc' := 303) rfl ?_)
              refine G_iadd d_Mo_behind_303 (by omega) (G_pc (pc' := 304) rfl ?_)
              refine G_putL (o := 55) (c := 9) (k := 43) (ki := 43) (x := a + 1) d_Mo_behind_304 fl_Mo_236 rfl rfl (by decide) (by decide) (by decide) rfl rfl (tokI (by omega)) rfl (G_pc (pc' := 307) rfl ?_)
              have hR562 : RP M0 (mset M559 55 43 (a + 1)) N_557 O_557 P_557 o (a + 1) 1 0 := RP_a hR561
              have hR562N := RP_N hR562
              (try simp only [List.length_cons, List.length_append, List.length_nil] at hR562N)
              have hR562O := RP_O hR562
              (try simp only [List.length_cons, List.length_append, List.length_nil] at hR562O)
              have hR562P := RP_P hR562
              (try simp only [List.length_cons, List.length_append, List.length_nil] at hR562P)
              refine G_aload (i := 0) (n := 2) (len := 1) (Or.inl ⟨0, rfl, rfl, d_Mo_behind_307⟩) rfl (by decide) (G_pc (pc' := 308) rfl ?_)
              refine G_aload (i := 0) (n := 2) (len := 1) (Or.inl ⟨0, rfl, rfl, d_Mo_behind_308⟩) rfl (by decide) (G_pc (pc' := 309) rfl ?_)
              refine G_get (o := 55) (c := 9) (k := 43) (v := a + 1) d_Mo_behind_309 fl_Mo_236 rfl (by decide) (by decide) rfl rfl (G_pc (pc' := 312) rfl ?_)
              refine G_iconst (n := 4) d_Mo_behind_312 (by decide) (G_pc (pc' := 313) rfl ?_)
              refine G_icmp_le (tgt := 320) d_Mo_behind_313 (by decide) (fun h563 => ?_) (fun h563 => G_pc (pc' := 316) rfl ?_)
              · skip
                refine G_iconst (n := 0) d_Mo_behind_320 (by decide) (G_pc (pc' := 321) rfl ?_)
                refine G_putL (o := 55) (c := 9) (k := 44) (ki := 44) (x := 0) d_Mo_behind_321 fl_Mo_166 rfl rfl (by decide) (by decide) (by decide) rfl rfl (tokZ (by decide)) rfl (G_pc (pc' := 324) rfl ?_)
                have hR564 : RP M0 (mset (mset M559 55 43 (a + 1)) 55 44 0) N_557 O_557 P_557 o (a + 1) 1 0 := RP_w hR562
                have hR564N := RP_N hR564
                (try simp only [List.length_cons, List.length_append, List.length_nil] at hR564N)
                have hR564O := RP_O hR564
                (try simp only [List.length_cons, List.length_append, List.length_nil] at hR564O)
                have hR564P := RP_P hR564
                (try simp only [List.length_cons, List.length_append, List.length_nil] at hR564P)
                refine G_aload (i := 0) (n := 2) (len := 1) (Or.inl ⟨0, rfl, rfl, d_Mo_behind_324⟩) rfl (by decide) (G_pc (pc' := 325) rfl ?_)
                refine G_bipush (n := 25) d_Mo_behind_325 (by decide) (G_pc (pc' := 327) rfl ?_)
                refine G_iconst (n := 0) d_Mo_behind_327 (by decide) (G_pc (pc' := 328) rfl ?_)
                refine G_callV (K1 := KE) (d2 := 0) (o := 55) (cl := 9) (as := [vi 25, vi 0]) (rest := []) d_Mo_behind_328 mf_Mo_hold ml_Mo_257 rfl rfl (by decide) rfl rfl (Nat.le_of_ble_eq_true rfl) (by omega) ⟨Nat.le_refl _, Nat.le_refl _⟩ (g_Mo_hold (by omega) 25 0 _ (by omega)) (fun r565 M566 kq567 q567 => ?_)
                clear kq567; obtain ⟨q567a, q567b⟩ := q567; subst r565; subst M566
                refine G_ps (pc' := 331) (st' := []) rfl rfl ?_
                have hR568 : RP M0 (holdM (mset (mset M559 55 43 (a + 1)) 55 44 0) 25 0) N_557 O_557 ((25, 0) :: P_557) o (a + 1) 1 0 := RP_hold hR564
                have hR568N := RP_N hR568
                (try simp only [List.length_cons, List.length_append, List.length_nil] at hR568N)
                have hR568O := RP_O hR568
                (try simp only [List.length_cons, List.length_append, List.length_nil] at hR568O)
                have hR568P := RP_P hR568
                (try simp only [List.length_cons, List.length_append, List.length_nil] at hR568P)
                refine G_iload (i := 1) (n := 3) (len := 1) (Or.inl ⟨1, rfl, rfl, d_Mo_behind_331⟩) rfl (G_pc (pc' := 332) rfl ?_)
                refine G_iconst (n := 1) d_Mo_behind_332 (by decide) (G_pc (pc' := 333) rfl ?_)
                refine G_iadd d_Mo_behind_333 (by omega) (G_pc (pc' := 334) rfl ?_)
                refine G_iret d_Mo_behind_334 rfl (tokI (by omega)) rfl rfl ?_
                exact Or.inr ⟨_, _, _, _, _, _, _, by unfold behindS; rw [if_neg (by omega), if_neg (by omega), if_neg (by omega), if_pos (by omega), redS_e hF_557]; unfold askS; simp only []; first | grind | (simp; grind), rfl, hR568⟩
              · skip
                refine G_iconst (n := 1) d_Mo_behind_316 (by decide) (G_pc (pc' := 317) rfl ?_)
                refine G_goto (tgt := 321) d_Mo_behind_317 (by decide) ?_
                refine G_putL (o := 55) (c := 9) (k := 44) (ki := 44) (x := 1) d_Mo_behind_321 fl_Mo_166 rfl rfl (by decide) (by decide) (by decide) rfl rfl (tokZ (by decide)) rfl (G_pc (pc' := 324) rfl ?_)
                have hR569 : RP M0 (mset (mset M559 55 43 (a + 1)) 55 44 1) N_557 O_557 P_557 o (a + 1) 1 1 := RP_w hR562
                have hR569N := RP_N hR569
                (try simp only [List.length_cons, List.length_append, List.length_nil] at hR569N)
                have hR569O := RP_O hR569
                (try simp only [List.length_cons, List.length_append, List.length_nil] at hR569O)
                have hR569P := RP_P hR569
                (try simp only [List.length_cons, List.length_append, List.length_nil] at hR569P)
                refine G_aload (i := 0) (n := 2) (len := 1) (Or.inl ⟨0, rfl, rfl, d_Mo_behind_324⟩) rfl (by decide) (G_pc (pc' := 325) rfl ?_)
                refine G_bipush (n := 25) d_Mo_behind_325 (by decide) (G_pc (pc' := 327) rfl ?_)
                refine G_iconst (n := 0) d_Mo_behind_327 (by decide) (G_pc (pc' := 328) rfl ?_)
                refine G_callV (K1 := KE) (d2 := 0) (o := 55) (cl := 9) (as := [vi 25, vi 0]) (rest := []) d_Mo_behind_328 mf_Mo_hold ml_Mo_257 rfl rfl (by decide) rfl rfl (Nat.le_of_ble_eq_true rfl) (by omega) ⟨Nat.le_refl _, Nat.le_refl _⟩ (g_Mo_hold (by omega) 25 0 _ (by omega)) (fun r570 M571 kq572 q572 => ?_)
                clear kq572; obtain ⟨q572a, q572b⟩ := q572; subst r570; subst M571
                refine G_ps (pc' := 331) (st' := []) rfl rfl ?_
                have hR573 : RP M0 (holdM (mset (mset M559 55 43 (a + 1)) 55 44 1) 25 0) N_557 O_557 ((25, 0) :: P_557) o (a + 1) 1 1 := RP_hold hR569
                have hR573N := RP_N hR573
                (try simp only [List.length_cons, List.length_append, List.length_nil] at hR573N)
                have hR573O := RP_O hR573
                (try simp only [List.length_cons, List.length_append, List.length_nil] at hR573O)
                have hR573P := RP_P hR573
                (try simp only [List.length_cons, List.length_append, List.length_nil] at hR573P)
                refine G_iload (i := 1) (n := 3) (len := 1) (Or.inl ⟨1, rfl, rfl, d_Mo_behind_331⟩) rfl (G_pc (pc' := 332) rfl ?_)
                refine G_iconst (n := 1) d_Mo_behind_332 (by decide) (G_pc (pc' := 333) rfl ?_)
                refine G_iadd d_Mo_behind_333 (by omega) (G_pc (pc' := 334) rfl ?_)
                refine G_iret d_Mo_behind_334 rfl (tokI (by omega)) rfl rfl ?_
                exact Or.inl ⟨by unfold behindS; rw [if_neg (by omega), if_neg (by omega), if_neg (by omega), if_pos (by omega), redS_e hF_557]; unfold askS; simp only []; first | grind | (simp; grind), hR573.1, RP_W hR573, _, rfl⟩
          · skip
            refine G_aload (i := 0) (n := 2) (len := 1) (Or.inl ⟨0, rfl, rfl, d_Mo_behind_185⟩) rfl (by decide) (G_pc (pc' := 186) rfl ?_)
            refine G_iconst (n := 0) d_Mo_behind_186 (by decide) (G_pc (pc' := 187) rfl ?_)
            refine G_callV (K1 := KE) (d2 := 1) (o := 55) (cl := 9) (as := [vi 0]) (rest := []) d_Mo_behind_187 mf_Mo_reduce ml_Mo_251 rfl rfl (by decide) rfl rfl (Nat.le_of_ble_eq_true rfl) (by omega) ⟨Nat.le_refl _, Nat.le_refl _⟩ (g_Mo_reduce (by omega) 0 M0 _ _ _ _ _ _ _ (reduceL 0 N O P) _ hR379 (by omega) (by omega) (by omega) rfl) (fun r575 M576 kq577 q577 => ?_)
            clear kq577; obtain ⟨q577a, q577b⟩ := q577; subst r575
            obtain ⟨N_574, O_574, P_574, hF_574⟩ : ∃ N1 O1 P1, (reduceL 0 N O P) = (N1, O1, P1) := ⟨_, _, _, rfl⟩
            rw [hF_574] at q577b
            have hI_574 := reduceL_inv hF_574 (by omega) (by omega)
            refine G_ps (pc' := 190) (st' := []) rfl rfl ?_
            have hR578 : RP M0 M576 N_574 O_574 P_574 o a 1 0 := q577b
            have hR578N := RP_N hR578
            (try simp only [List.length_cons, List.length_append, List.length_nil] at hR578N)
            have hR578O := RP_O hR578
            (try simp only [List.length_cons, List.length_append, List.length_nil] at hR578O)
            have hR578P := RP_P hR578
            (try simp only [List.length_cons, List.length_append, List.length_nil] at hR578P)
            refine G_aload (i := 0) (n := 2) (len := 1) (Or.inl ⟨0, rfl, rfl, d_Mo_behind_190⟩) rfl (by decide) (G_pc (pc' := 191) rfl ?_)
            refine G_aload (i := 0) (n := 2) (len := 1) (Or.inl ⟨0, rfl, rfl, d_Mo_behind_191⟩) rfl (by decide) (G_pc (pc' := 192) rfl ?_)
            refine G_callV (K1 := KE) (d2 := 0) (o := 55) (cl := 9) (as := []) (rest := [vr 55]) d_Mo_behind_192 mf_Mo_top ml_Mo_216 rfl rfl (by decide) rfl rfl (Nat.le_of_ble_eq_true rfl) (by omega) ⟨Nat.le_refl _, Nat.le_refl _⟩ (g_Mo_top (by omega)  _ (by omega)) (fun r579 M580 kq581 q581 => ?_)
            clear kq581; obtain ⟨q581a, q581b⟩ := q581; subst r579; subst M580
            refine G_ps (pc' := 195) (st' := [vi (topM M576), vr 55]) rfl rfl ?_
            rw [show topM M576 = topP P_574 from RP_top hR578]
            refine G_iload (i := 2) (n := 1) (len := 1) (Or.inl ⟨2, rfl, rfl, d_Mo_behind_195⟩) rfl (G_pc (pc' := 196) rfl ?_)
            refine G_bipush (n := 21) d_Mo_behind_196 (by decide) (G_pc (pc' := 198) rfl ?_)
            refine G_icmp_ne (tgt := 206) d_Mo_behind_198 (by decide) (fun h582 => ?_) (fun h582 => G_pc (pc' := 201) rfl ?_)
            · skip
              refine G_bipush (n := 22) d_Mo_behind_206 (by decide) (G_pc (pc' := 208) rfl ?_)
              refine G_icmp_eq (tgt := 215) d_Mo_behind_208 (by decide) (fun h583 => ?_) (fun h583 => G_pc (pc' := 211) rfl ?_)
              · skip
                refine G_iconst (n := 0) d_Mo_behind_215 (by decide) (G_pc (pc' := 216) rfl ?_)
                refine G_putL (o := 55) (c := 9) (k := 44) (ki := 44) (x := 0) d_Mo_behind_216 fl_Mo_166 rfl rfl (by decide) (by decide) (by decide) rfl rfl (tokZ (by decide)) rfl (G_pc (pc' := 219) rfl ?_)
                have hR584 : RP M0 (mset M576 55 44 0) N_574 O_574 P_574 o a 1 0 := RP_w hR578
                have hR584N := RP_N hR584
                (try simp only [List.length_cons, List.length_append, List.length_nil] at hR584N)
                have hR584O := RP_O hR584
                (try simp only [List.length_cons, List.length_append, List.length_nil] at hR584O)
                have hR584P := RP_P hR584
                (try simp only [List.length_cons, List.length_append, List.length_nil] at hR584P)
                refine G_aload (i := 0) (n := 2) (len := 1) (Or.inl ⟨0, rfl, rfl, d_Mo_behind_219⟩) rfl (by decide) (G_pc (pc' := 220) rfl ?_)
                refine G_get (o := 55) (c := 9) (k := 44) (v := 0) d_Mo_behind_220 fl_Mo_166 rfl (by decide) (by decide) rfl rfl (G_pc (pc' := 223) rfl ?_)
                refine G_if_eq (tgt := 228) d_Mo_behind_223 (by decide) (fun h585 => ?_) (fun h585 => absurd h585 (by decide))
                obtain ⟨tt, kk, PP, rfl⟩ := topP_cons' (P := P_574) (by omega)
                have htp : topP ((tt, kk) :: PP) = tt := rfl
                have haw : arP ((tt, kk) :: PP) = arW tt + arP PP := rfl
                simp only [List.length_cons] at *
                refine G_aload (i := 0) (n := 2) (len := 1) (Or.inl ⟨0, rfl, rfl, d_Mo_behind_228⟩) rfl (by decide) (G_pc (pc' := 229) rfl ?_)
                refine G_dup d_Mo_behind_229 (fun _ h => by cases h) (G_pc (pc' := 230) rfl ?_)
                refine G_get (o := 55) (c := 9) (k := 39) (v := M576 55 39) d_Mo_behind_230 fl_Mo_213 rfl (by decide) (by decide) rfl rfl (G_pc (pc' := 233) rfl ?_)
                refine G_iconst (n := 1) d_Mo_behind_233 (by decide) (G_pc (pc' := 234) rfl ?_)
                refine G_isub d_Mo_behind_234 (by omega) (G_pc (pc' := 235) rfl ?_)
                refine G_putL (o := 55) (c := 9) (k := 39) (ki := 39) (x := (M576 55 39) - 1) d_Mo_behind_235 fl_Mo_213 rfl rfl (by decide) (by decide) (by decide) rfl rfl (tokI (by omega)) rfl (G_pc (pc' := 238) rfl ?_)
                have hR586 : RP M0 (mset (mset M576 55 44 0) 55 39 ((M576 55 39) - 1)) N_574 O_574 PP o a 1 0 := (RP_drop hR584).2.2.2
                have hR586N := RP_N hR586
                (try simp only [List.length_cons, List.length_append, List.length_nil] at hR586N)
                have hR586O := RP_O hR586
                (try simp only [List.length_cons, List.length_append, List.length_nil] at hR586O)
                have hR586P := RP_P hR586
                (try simp only [List.length_cons, List.length_append, List.length_nil] at hR586P)
                refine G_aload (i := 0) (n := 2) (len := 1) (Or.inl ⟨0, rfl, rfl, d_Mo_behind_238⟩) rfl (by decide) (G_pc (pc' := 239) rfl ?_)
                refine G_dup d_Mo_behind_239 (fun _ h => by cases h) (G_pc (pc' := 240) rfl ?_)
                refine G_get (o := 55) (c := 9) (k := 42) (v := M576 55 42) d_Mo_behind_240 fl_Mo_233 rfl (by decide) (by decide) rfl rfl (G_pc (pc' := 243) rfl ?_)
                rw [show M576 55 42 = o from (show (mset (mset M576 55 44 0) 55 39 ((M576 55 39) - 1)) 55 42 = o from RP_OP hR586)]
                refine G_iconst (n := 1) d_Mo_behind_243 (by decide) (G_pc (pc' := 244) rfl ?_)
                refine G_isub d_Mo_behind_244 (by omega) (G_pc (pc' := 245) rfl ?_)
                refine G_putL (o := 55) (c := 9) (k := 42) (ki := 42) (x := o - 1) d_Mo_behind_245 fl_Mo_233 rfl rfl (by decide) (by decide) (by decide) rfl rfl (tokI (by omega)) rfl (G_pc (pc' := 248) rfl ?_)
                have hR587 : RP M0 (mset (mset (mset M576 55 44 0) 55 39 ((M576 55 39) - 1)) 55 42 (o - 1)) N_574 O_574 PP (o - 1) a 1 0 := RP_o hR586
                have hR587N := RP_N hR587
                (try simp only [List.length_cons, List.length_append, List.length_nil] at hR587N)
                have hR587O := RP_O hR587
                (try simp only [List.length_cons, List.length_append, List.length_nil] at hR587O)
                have hR587P := RP_P hR587
                (try simp only [List.length_cons, List.length_append, List.length_nil] at hR587P)
                refine G_iload (i := 2) (n := 1) (len := 1) (Or.inl ⟨2, rfl, rfl, d_Mo_behind_248⟩) rfl (G_pc (pc' := 249) rfl ?_)
                refine G_bipush (n := 23) d_Mo_behind_249 (by decide) (G_pc (pc' := 251) rfl ?_)
                refine G_icmp_ne (tgt := 282) d_Mo_behind_251 (by decide) (fun h588 => ?_) (fun h588 => G_pc (pc' := 254) rfl ?_)
                · skip
                  refine G_iload (i := 1) (n := 3) (len := 1) (Or.inl ⟨1, rfl, rfl, d_Mo_behind_282⟩) rfl (G_pc (pc' := 283) rfl ?_)
                  refine G_iconst (n := 1) d_Mo_behind_283 (by decide) (G_pc (pc' := 284) rfl ?_)
                  refine G_iadd d_Mo_behind_284 (by omega) (G_pc (pc' := 285) rfl ?_)
                  refine G_iret d_Mo_behind_285 rfl (tokI (by omega)) rfl rfl ?_
                  exact Or.inr ⟨_, _, _, _, _, _, _, by unfold behindS; rw [if_neg (by omega), if_neg (by omega), if_pos (by omega), redS_e hF_574]; unfold closeS; simp only []; first | grind | (simp; grind), rfl, hR587⟩
                · skip
                  have htt : tt = 22 := by omega
                  have haw2 : arW tt = 1 := by rw [htt]; decide
                  obtain ⟨x2, x1, Y, rfl⟩ := cons2 (O := O_574) (by omega)
                  simp only [List.length_cons] at *
                  refine G_aload (i := 0) (n := 2) (len := 1) (Or.inl ⟨0, rfl, rfl, d_Mo_behind_254⟩) rfl (by decide) (G_pc (pc' := 255) rfl ?_)
                  refine G_callV (K1 := KE) (d2 := 0) (o := 55) (cl := 9) (as := []) (rest := []) d_Mo_behind_255 mf_Mo_pop ml_Mo_223 rfl rfl (by decide) rfl rfl (Nat.le_of_ble_eq_true rfl) (by omega) ⟨Nat.le_refl _, Nat.le_refl _⟩ (g_Mo_pop (by omega)  _ (by omega)) (fun r589 M590 kq591 q591 => ?_)
                  clear kq591; obtain ⟨q591a, q591b⟩ := q591; subst r589; subst M590
                  refine G_ps (pc' := 258) (st' := [vi ((mset (mset (mset M576 55 44 0) 55 39 ((M576 55 39) - 1)) 55 42 (o - 1)) 84 ((mset (mset (mset M576 55 44 0) 55 39 ((M576 55 39) - 1)) 55 42 (o - 1)) 55 37 - 1))]) rfl rfl ?_
                  rw [show (mset (mset (mset M576 55 44 0) 55 39 ((M576 55 39) - 1)) 55 42 (o - 1)) 84 ((mset (mset (mset M576 55 44 0) 55 39 ((M576 55 39) - 1)) 55 42 (o - 1)) 55 37 - 1) = x2 from (RP_pop hR587).1]
                  have hR592 : RP M0 (popM (mset (mset (mset M576 55 44 0) 55 39 ((M576 55 39) - 1)) 55 42 (o - 1))) N_574 (x1 :: Y) PP (o - 1) a 1 0 := (RP_pop hR587).2
                  have hR592N := RP_N hR592
                  (try simp only [List.length_cons, List.length_append, List.length_nil] at hR592N)
                  have hR592O := RP_O hR592
                  (try simp only [List.length_cons, List.length_append, List.length_nil] at hR592O)
                  have hR592P := RP_P hR592
                  (try simp only [List.length_cons, List.length_append, List.length_nil] at hR592P)
                  refine G_istore (i := 4) (len := 2) (ls' := [(4, vi x2), (3, vi cl), (2, vi (tkA M0 k)), (0, vr 55), (1, vi k)]) (Or.inr ⟨rfl, d_Mo_behind_258⟩) (by decide) rfl (G_pc (pc' := 260) rfl ?_)
                  refine G_aload (i := 0) (n := 3) (len := 1) (Or.inl ⟨0, rfl, rfl, d_Mo_behind_260⟩) rfl (by decide) (G_pc (pc' := 261) rfl ?_)
                  refine G_callV (K1 := KE) (d2 := 0) (o := 55) (cl := 9) (as := []) (rest := []) d_Mo_behind_261 mf_Mo_pop ml_Mo_223 rfl rfl (by decide) rfl rfl (Nat.le_of_ble_eq_true rfl) (by omega) ⟨Nat.le_refl _, Nat.le_refl _⟩ (g_Mo_pop (by omega)  _ (by omega)) (fun r593 M594 kq595 q595 => ?_)
                  clear kq595; obtain ⟨q595a, q595b⟩ := q595; subst r593; subst M594
                  refine G_ps (pc' := 264) (st' := [vi ((popM (mset (mset (mset M576 55 44 0) 55 39 ((M576 55 39) - 1)) 55 42 (o - 1))) 84 ((popM (mset (mset (mset M576 55 44 0) 55 39 ((M576 55 39) - 1)) 55 42 (o - 1))) 55 37 - 1))]) rfl rfl ?_
                  rw [show (popM (mset (mset (mset M576 55 44 0) 55 39 ((M576 55 39) - 1)) 55 42 (o - 1))) 84 ((popM (mset (mset (mset M576 55 44 0) 55 39 ((M576 55 39) - 1)) 55 42 (o - 1))) 55 37 - 1) = x1 from (RP_pop hR592).1]
                  have hR596 : RP M0 (popM (popM (mset (mset (mset M576 55 44 0) 55 39 ((M576 55 39) - 1)) 55 42 (o - 1)))) N_574 Y PP (o - 1) a 1 0 := (RP_pop hR592).2
                  have hR596N := RP_N hR596
                  (try simp only [List.length_cons, List.length_append, List.length_nil] at hR596N)
                  have hR596O := RP_O hR596
                  (try simp only [List.length_cons, List.length_append, List.length_nil] at hR596O)
                  have hR596P := RP_P hR596
                  (try simp only [List.length_cons, List.length_append, List.length_nil] at hR596P)
                  refine G_istore (i := 5) (len := 2) (ls' := [(5, vi x1), (4, vi x2), (3, vi cl), (2, vi (tkA M0 k)), (0, vr 55), (1, vi k)]) (Or.inr ⟨rfl, d_Mo_behind_264⟩) (by decide) rfl (G_pc (pc' := 266) rfl ?_)
                  refine G_aload (i := 0) (n := 4) (len := 1) (Or.inl ⟨0, rfl, rfl, d_Mo_behind_266⟩) rfl (by decide) (G_pc (pc' := 267) rfl ?_)
                  refine G_aload (i := 0) (n := 4) (len := 1) (Or.inl ⟨0, rfl, rfl, d_Mo_behind_267⟩) rfl (by decide) (G_pc (pc' := 268) rfl ?_)
                  refine G_bipush (n := 62) d_Mo_behind_268 (by decide) (G_pc (pc' := 270) rfl ?_)
                  refine G_iload (i := 5) (n := 0) (len := 2) (Or.inr ⟨rfl, d_Mo_behind_270⟩) rfl (G_pc (pc' := 272) rfl ?_)
                  refine G_iload (i := 4) (n := 1) (len := 2) (Or.inr ⟨rfl, d_Mo_behind_272⟩) rfl (G_pc (pc' := 274) rfl ?_)
                  refine G_iconst (n := (-1)) d_Mo_behind_274 (by decide) (G_pc (pc' := 275) rfl ?_)
                  refine G_lconst0 d_Mo_behind_275 (G_pc (pc' := 276) rfl ?_)
                  refine G_callV (K1 := KE) (d2 := 0) (o := 55) (cl := 9) (as := [vi 62, vi x1, vi x2, vi (-1), vl 0]) (rest := [vr 55]) d_Mo_behind_276 mf_Mo_node ml_Mo_226 rfl rfl (by decide) rfl rfl (Nat.le_of_ble_eq_true rfl) (by omega) ⟨Nat.le_refl _, Nat.le_refl _⟩ (g_Mo_node (by omega) 62 x1 x2 (-1) 0 _ (by omega)) (fun r597 M598 kq599 q599 => ?_)
                  clear kq599; obtain ⟨q599a, q599b⟩ := q599; subst r597; subst M598
                  refine G_ps (pc' := 279) (st' := [vi ((popM (popM (mset (mset (mset M576 55 44 0) 55 39 ((M576 55 39) - 1)) 55 42 (o - 1)))) 55 28), vr 55]) rfl rfl ?_
                  rw [show (popM (popM (mset (mset (mset M576 55 44 0) 55 39 ((M576 55 39) - 1)) 55 42 (o - 1)))) 55 28 = ((N_574).length : Int) from RP_N hR596]
                  have hR600 : RP M0 (nodeM (popM (popM (mset (mset (mset M576 55 44 0) 55 39 ((M576 55 39) - 1)) 55 42 (o - 1)))) 62 x1 x2 (-1) 0) (N_574 ++ [(62, x1, x2, (-1), 0)]) Y PP (o - 1) a 1 0 := RP_node hR596
                  have hR600N := RP_N hR600
                  (try simp only [List.length_cons, List.length_append, List.length_nil] at hR600N)
                  have hR600O := RP_O hR600
                  (try simp only [List.length_cons, List.length_append, List.length_nil] at hR600O)
                  have hR600P := RP_P hR600
                  (try simp only [List.length_cons, List.length_append, List.length_nil] at hR600P)
                  refine G_callV (K1 := KE) (d2 := 0) (o := 55) (cl := 9) (as := [vi ((N_574).length : Int)]) (rest := []) d_Mo_behind_279 mf_Mo_push ml_Mo_230 rfl rfl (by decide) rfl rfl (Nat.le_of_ble_eq_true rfl) (by omega) ⟨Nat.le_refl _, Nat.le_refl _⟩ (g_Mo_push (by omega) ((N_574).length : Int) _ (by omega)) (fun r601 M602 kq603 q603 => ?_)
                  clear kq603; obtain ⟨q603a, q603b⟩ := q603; subst r601; subst M602
                  refine G_ps (pc' := 282) (st' := []) rfl rfl ?_
                  have hR604 : RP M0 (pushM (nodeM (popM (popM (mset (mset (mset M576 55 44 0) 55 39 ((M576 55 39) - 1)) 55 42 (o - 1)))) 62 x1 x2 (-1) 0) ((N_574).length : Int)) (N_574 ++ [(62, x1, x2, (-1), 0)]) ((((N_574).length : Int)) :: Y) PP (o - 1) a 1 0 := RP_push hR600
                  have hR604N := RP_N hR604
                  (try simp only [List.length_cons, List.length_append, List.length_nil] at hR604N)
                  have hR604O := RP_O hR604
                  (try simp only [List.length_cons, List.length_append, List.length_nil] at hR604O)
                  have hR604P := RP_P hR604
                  (try simp only [List.length_cons, List.length_append, List.length_nil] at hR604P)
                  refine G_iload (i := 1) (n := 5) (len := 1) (Or.inl ⟨1, rfl, rfl, d_Mo_behind_282⟩) rfl (G_pc (pc' := 283) rfl ?_)
                  refine G_iconst (n := 1) d_Mo_behind_283 (by decide) (G_pc (pc' := 284) rfl ?_)
                  refine G_iadd d_Mo_behind_284 (by omega) (G_pc (pc' := 285) rfl ?_)
                  refine G_iret d_Mo_behind_285 rfl (tokI (by omega)) rfl rfl ?_
                  exact Or.inr ⟨_, _, _, _, _, _, _, by unfold behindS; rw [if_neg (by omega), if_neg (by omega), if_pos (by omega), redS_e hF_574]; unfold closeS; simp only []; first | grind | (simp; grind), rfl, hR604⟩
              · skip
                refine G_iconst (n := 1) d_Mo_behind_211 (by decide) (G_pc (pc' := 212) rfl ?_)
                refine G_goto (tgt := 216) d_Mo_behind_212 (by decide) ?_
                refine G_putL (o := 55) (c := 9) (k := 44) (ki := 44) (x := 1) d_Mo_behind_216 fl_Mo_166 rfl rfl (by decide) (by decide) (by decide) rfl rfl (tokZ (by decide)) rfl (G_pc (pc' := 219) rfl ?_)
                have hR605 : RP M0 (mset M576 55 44 1) N_574 O_574 P_574 o a 1 1 := RP_w hR578
                have hR605N := RP_N hR605
                (try simp only [List.length_cons, List.length_append, List.length_nil] at hR605N)
                have hR605O := RP_O hR605
                (try simp only [List.length_cons, List.length_append, List.length_nil] at hR605O)
                have hR605P := RP_P hR605
                (try simp only [List.length_cons, List.length_append, List.length_nil] at hR605P)
                refine G_aload (i := 0) (n := 2) (len := 1) (Or.inl ⟨0, rfl, rfl, d_Mo_behind_219⟩) rfl (by decide) (G_pc (pc' := 220) rfl ?_)
                refine G_get (o := 55) (c := 9) (k := 44) (v := 1) d_Mo_behind_220 fl_Mo_166 rfl (by decide) (by decide) rfl rfl (G_pc (pc' := 223) rfl ?_)
                refine G_if_eq (tgt := 228) d_Mo_behind_223 (by decide) (fun h606 => absurd h606 (by decide)) (fun h606 => G_pc (pc' := 226) rfl ?_)
                refine G_iload (i := 1) (n := 3) (len := 1) (Or.inl ⟨1, rfl, rfl, d_Mo_behind_226⟩) rfl (G_pc (pc' := 227) rfl ?_)
                refine G_iret d_Mo_behind_227 rfl (tokI (by omega)) rfl rfl ?_
                exact Or.inl ⟨by unfold behindS; rw [if_neg (by omega), if_neg (by omega), if_pos (by omega), redS_e hF_574]; unfold closeS; simp only []; first | grind | (simp; grind), hR605.1, RP_W hR605, _, rfl⟩
            · skip
              refine G_bipush (n := 20) d_Mo_behind_201 (by decide) (G_pc (pc' := 203) rfl ?_)
              refine G_goto (tgt := 208) d_Mo_behind_203 (by decide) ?_
              refine G_icmp_eq (tgt := 215) d_Mo_behind_208 (by decide) (fun h607 => ?_) (fun h607 => G_pc (pc' := 211) rfl ?_)
              · skip
                refine G_iconst (n := 0) d_Mo_behind_215 (by decide) (G_pc (pc' := 216) rfl ?_)
                refine G_putL (o := 55) (c := 9) (k := 44) (ki := 44) (x := 0) d_Mo_behind_216 fl_Mo_166 rfl rfl (by decide) (by decide) (by decide) rfl rfl (tokZ (by decide)) rfl (G_pc (pc' := 219) rfl ?_)
                have hR608 : RP M0 (mset M576 55 44 0) N_574 O_574 P_574 o a 1 0 := RP_w hR578
                have hR608N := RP_N hR608
                (try simp only [List.length_cons, List.length_append, List.length_nil] at hR608N)
                have hR608O := RP_O hR608
                (try simp only [List.length_cons, List.length_append, List.length_nil] at hR608O)
                have hR608P := RP_P hR608
                (try simp only [List.length_cons, List.length_append, List.length_nil] at hR608P)
                refine G_aload (i := 0) (n := 2) (len := 1) (Or.inl ⟨0, rfl, rfl, d_Mo_behind_219⟩) rfl (by decide) (G_pc (pc' := 220) rfl ?_)
                refine G_get (o := 55) (c := 9) (k := 44) (v := 0) d_Mo_behind_220 fl_Mo_166 rfl (by decide) (by decide) rfl rfl (G_pc (pc' := 223) rfl ?_)
                refine G_if_eq (tgt := 228) d_Mo_behind_223 (by decide) (fun h609 => ?_) (fun h609 => absurd h609 (by decide))
                obtain ⟨tt, kk, PP, rfl⟩ := topP_cons' (P := P_574) (by omega)
                have htp : topP ((tt, kk) :: PP) = tt := rfl
                have haw : arP ((tt, kk) :: PP) = arW tt + arP PP := rfl
                simp only [List.length_cons] at *
                refine G_aload (i := 0) (n := 2) (len := 1) (Or.inl ⟨0, rfl, rfl, d_Mo_behind_228⟩) rfl (by decide) (G_pc (pc' := 229) rfl ?_)
                refine G_dup d_Mo_behind_229 (fun _ h => by cases h) (G_pc (pc' := 230) rfl ?_)
                refine G_get (o := 55) (c := 9) (k := 39) (v := M576 55 39) d_Mo_behind_230 fl_Mo_213 rfl (by decide) (by decide) rfl rfl (G_pc (pc' := 233) rfl ?_)
                refine G_iconst (n := 1) d_Mo_behind_233 (by decide) (G_pc (pc' := 234) rfl ?_)
                refine G_isub d_Mo_behind_234 (by omega) (G_pc (pc' := 235) rfl ?_)
                refine G_putL (o := 55) (c := 9) (k := 39) (ki := 39) (x := (M576 55 39) - 1) d_Mo_behind_235 fl_Mo_213 rfl rfl (by decide) (by decide) (by decide) rfl rfl (tokI (by omega)) rfl (G_pc (pc' := 238) rfl ?_)
                have hR610 : RP M0 (mset (mset M576 55 44 0) 55 39 ((M576 55 39) - 1)) N_574 O_574 PP o a 1 0 := (RP_drop hR608).2.2.2
                have hR610N := RP_N hR610
                (try simp only [List.length_cons, List.length_append, List.length_nil] at hR610N)
                have hR610O := RP_O hR610
                (try simp only [List.length_cons, List.length_append, List.length_nil] at hR610O)
                have hR610P := RP_P hR610
                (try simp only [List.length_cons, List.length_append, List.length_nil] at hR610P)
                refine G_aload (i := 0) (n := 2) (len := 1) (Or.inl ⟨0, rfl, rfl, d_Mo_behind_238⟩) rfl (by decide) (G_pc (pc' := 239) rfl ?_)
                refine G_dup d_Mo_behind_239 (fun _ h => by cases h) (G_pc (pc' := 240) rfl ?_)
                refine G_get (o := 55) (c := 9) (k := 42) (v := M576 55 42) d_Mo_behind_240 fl_Mo_233 rfl (by decide) (by decide) rfl rfl (G_pc (pc' := 243) rfl ?_)
                rw [show M576 55 42 = o from (show (mset (mset M576 55 44 0) 55 39 ((M576 55 39) - 1)) 55 42 = o from RP_OP hR610)]
                refine G_iconst (n := 1) d_Mo_behind_243 (by decide) (G_pc (pc' := 244) rfl ?_)
                refine G_isub d_Mo_behind_244 (by omega) (G_pc (pc' := 245) rfl ?_)
                refine G_putL (o := 55) (c := 9) (k := 42) (ki := 42) (x := o - 1) d_Mo_behind_245 fl_Mo_233 rfl rfl (by decide) (by decide) (by decide) rfl rfl (tokI (by omega)) rfl (G_pc (pc' := 248) rfl ?_)
                have hR611 : RP M0 (mset (mset (mset M576 55 44 0) 55 39 ((M576 55 39) - 1)) 55 42 (o - 1)) N_574 O_574 PP (o - 1) a 1 0 := RP_o hR610
                have hR611N := RP_N hR611
                (try simp only [List.length_cons, List.length_append, List.length_nil] at hR611N)
                have hR611O := RP_O hR611
                (try simp only [List.length_cons, List.length_append, List.length_nil] at hR611O)
                have hR611P := RP_P hR611
                (try simp only [List.length_cons, List.length_append, List.length_nil] at hR611P)
                refine G_iload (i := 2) (n := 1) (len := 1) (Or.inl ⟨2, rfl, rfl, d_Mo_behind_248⟩) rfl (G_pc (pc' := 249) rfl ?_)
                refine G_bipush (n := 23) d_Mo_behind_249 (by decide) (G_pc (pc' := 251) rfl ?_)
                refine G_icmp_ne (tgt := 282) d_Mo_behind_251 (by decide) (fun h612 => ?_) (fun h612 => G_pc (pc' := 254) rfl ?_)
                · skip
                  refine G_iload (i := 1) (n := 3) (len := 1) (Or.inl ⟨1, rfl, rfl, d_Mo_behind_282⟩) rfl (G_pc (pc' := 283) rfl ?_)
                  refine G_iconst (n := 1) d_Mo_behind_283 (by decide) (G_pc (pc' := 284) rfl ?_)
                  refine G_iadd d_Mo_behind_284 (by omega) (G_pc (pc' := 285) rfl ?_)
                  refine G_iret d_Mo_behind_285 rfl (tokI (by omega)) rfl rfl ?_
                  exact Or.inr ⟨_, _, _, _, _, _, _, by unfold behindS; rw [if_neg (by omega), if_neg (by omega), if_pos (by omega), redS_e hF_574]; unfold closeS; simp only []; first | grind | (simp; grind), rfl, hR611⟩
                · skip
                  have htt : tt = 22 := by omega
                  have haw2 : arW tt = 1 := by rw [htt]; decide
                  obtain ⟨x2, x1, Y, rfl⟩ := cons2 (O := O_574) (by omega)
                  simp only [List.length_cons] at *
                  refine G_aload (i := 0) (n := 2) (len := 1) (Or.inl ⟨0, rfl, rfl, d_Mo_behind_254⟩) rfl (by decide) (G_pc (pc' := 255) rfl ?_)
                  refine G_callV (K1 := KE) (d2 := 0) (o := 55) (cl := 9) (as := []) (rest := []) d_Mo_behind_255 mf_Mo_pop ml_Mo_223 rfl rfl (by decide) rfl rfl (Nat.le_of_ble_eq_true rfl) (by omega) ⟨Nat.le_refl _, Nat.le_refl _⟩ (g_Mo_pop (by omega)  _ (by omega)) (fun r613 M614 kq615 q615 => ?_)
                  clear kq615; obtain ⟨q615a, q615b⟩ := q615; subst r613; subst M614
                  refine G_ps (pc' := 258) (st' := [vi ((mset (mset (mset M576 55 44 0) 55 39 ((M576 55 39) - 1)) 55 42 (o - 1)) 84 ((mset (mset (mset M576 55 44 0) 55 39 ((M576 55 39) - 1)) 55 42 (o - 1)) 55 37 - 1))]) rfl rfl ?_
                  rw [show (mset (mset (mset M576 55 44 0) 55 39 ((M576 55 39) - 1)) 55 42 (o - 1)) 84 ((mset (mset (mset M576 55 44 0) 55 39 ((M576 55 39) - 1)) 55 42 (o - 1)) 55 37 - 1) = x2 from (RP_pop hR611).1]
                  have hR616 : RP M0 (popM (mset (mset (mset M576 55 44 0) 55 39 ((M576 55 39) - 1)) 55 42 (o - 1))) N_574 (x1 :: Y) PP (o - 1) a 1 0 := (RP_pop hR611).2
                  have hR616N := RP_N hR616
                  (try simp only [List.length_cons, List.length_append, List.length_nil] at hR616N)
                  have hR616O := RP_O hR616
                  (try simp only [List.length_cons, List.length_append, List.length_nil] at hR616O)
                  have hR616P := RP_P hR616
                  (try simp only [List.length_cons, List.length_append, List.length_nil] at hR616P)
                  refine G_istore (i := 4) (len := 2) (ls' := [(4, vi x2), (3, vi cl), (2, vi (tkA M0 k)), (0, vr 55), (1, vi k)]) (Or.inr ⟨rfl, d_Mo_behind_258⟩) (by decide) rfl (G_pc (pc' := 260) rfl ?_)
                  refine G_aload (i := 0) (n := 3) (len := 1) (Or.inl ⟨0, rfl, rfl, d_Mo_behind_260⟩) rfl (by decide) (G_pc (pc' := 261) rfl ?_)
                  refine G_callV (K1 := KE) (d2 := 0) (o := 55) (cl := 9) (as := []) (rest := []) d_Mo_behind_261 mf_Mo_pop ml_Mo_223 rfl rfl (by decide) rfl rfl (Nat.le_of_ble_eq_true rfl) (by omega) ⟨Nat.le_refl _, Nat.le_refl _⟩ (g_Mo_pop (by omega)  _ (by omega)) (fun r617 M618 kq619 q619 => ?_)
                  clear kq619; obtain ⟨q619a, q619b⟩ := q619; subst r617; subst M618
                  refine G_ps (pc' := 264) (st' := [vi ((popM (mset (mset (mset M576 55 44 0) 55 39 ((M576 55 39) - 1)) 55 42 (o - 1))) 84 ((popM (mset (mset (mset M576 55 44 0) 55 39 ((M576 55 39) - 1)) 55 42 (o - 1))) 55 37 - 1))]) rfl rfl ?_
                  rw [show (popM (mset (mset (mset M576 55 44 0) 55 39 ((M576 55 39) - 1)) 55 42 (o - 1))) 84 ((popM (mset (mset (mset M576 55 44 0) 55 39 ((M576 55 39) - 1)) 55 42 (o - 1))) 55 37 - 1) = x1 from (RP_pop hR616).1]
                  have hR620 : RP M0 (popM (popM (mset (mset (mset M576 55 44 0) 55 39 ((M576 55 39) - 1)) 55 42 (o - 1)))) N_574 Y PP (o - 1) a 1 0 := (RP_pop hR616).2
                  have hR620N := RP_N hR620
                  (try simp only [List.length_cons, List.length_append, List.length_nil] at hR620N)
                  have hR620O := RP_O hR620
                  (try simp only [List.length_cons, List.length_append, List.length_nil] at hR620O)
                  have hR620P := RP_P hR620
                  (try simp only [List.length_cons, List.length_append, List.length_nil] at hR620P)
                  refine G_istore (i := 5) (len := 2) (ls' := [(5, vi x1), (4, vi x2), (3, vi cl), (2, vi (tkA M0 k)), (0, vr 55), (1, vi k)]) (Or.inr ⟨rfl, d_Mo_behind_264⟩) (by decide) rfl (G_pc (pc' := 266) rfl ?_)
                  refine G_aload (i := 0) (n := 4) (len := 1) (Or.inl ⟨0, rfl, rfl, d_Mo_behind_266⟩) rfl (by decide) (G_pc (pc' := 267) rfl ?_)
                  refine G_aload (i := 0) (n := 4) (len := 1) (Or.inl ⟨0, rfl, rfl, d_Mo_behind_267⟩) rfl (by decide) (G_pc (pc' := 268) rfl ?_)
                  refine G_bipush (n := 62) d_Mo_behind_268 (by decide) (G_pc (pc' := 270) rfl ?_)
                  refine G_iload (i := 5) (n := 0) (len := 2) (Or.inr ⟨rfl, d_Mo_behind_270⟩) rfl (G_pc (pc' := 272) rfl ?_)
                  refine G_iload (i := 4) (n := 1) (len := 2) (Or.inr ⟨rfl, d_Mo_behind_272⟩) rfl (G_pc (pc' := 274) rfl ?_)
                  refine G_iconst (n := (-1)) d_Mo_behind_274 (by decide) (G_pc (pc' := 275) rfl ?_)
                  refine G_lconst0 d_Mo_behind_275 (G_pc (pc' := 276) rfl ?_)
                  refine G_callV (K1 := KE) (d2 := 0) (o := 55) (cl := 9) (as := [vi 62, vi x1, vi x2, vi (-1), vl 0]) (rest := [vr 55]) d_Mo_behind_276 mf_Mo_node ml_Mo_226 rfl rfl (by decide) rfl rfl (Nat.le_of_ble_eq_true rfl) (by omega) ⟨Nat.le_refl _, Nat.le_refl _⟩ (g_Mo_node (by omega) 62 x1 x2 (-1) 0 _ (by omega)) (fun r621 M622 kq623 q623 => ?_)
                  clear kq623; obtain ⟨q623a, q623b⟩ := q623; subst r621; subst M622
                  refine G_ps (pc' := 279) (st' := [vi ((popM (popM (mset (mset (mset M576 55 44 0) 55 39 ((M576 55 39) - 1)) 55 42 (o - 1)))) 55 28), vr 55]) rfl rfl ?_
                  rw [show (popM (popM (mset (mset (mset M576 55 44 0) 55 39 ((M576 55 39) - 1)) 55 42 (o - 1)))) 55 28 = ((N_574).length : Int) from RP_N hR620]
                  have hR624 : RP M0 (nodeM (popM (popM (mset (mset (mset M576 55 44 0) 55 39 ((M576 55 39) - 1)) 55 42 (o - 1)))) 62 x1 x2 (-1) 0) (N_574 ++ [(62, x1, x2, (-1), 0)]) Y PP (o - 1) a 1 0 := RP_node hR620
                  have hR624N := RP_N hR624
                  (try simp only [List.length_cons, List.length_append, List.length_nil] at hR624N)
                  have hR624O := RP_O hR624
                  (try simp only [List.length_cons, List.length_append, List.length_nil] at hR624O)
                  have hR624P := RP_P hR624
                  (try simp only [List.length_cons, List.length_append, List.length_nil] at hR624P)
                  refine G_callV (K1 := KE) (d2 := 0) (o := 55) (cl := 9) (as := [vi ((N_574).length : Int)]) (rest := []) d_Mo_behind_279 mf_Mo_push ml_Mo_230 rfl rfl (by decide) rfl rfl (Nat.le_of_ble_eq_true rfl) (by omega) ⟨Nat.le_refl _, Nat.le_refl _⟩ (g_Mo_push (by omega) ((N_574).length : Int) _ (by omega)) (fun r625 M626 kq627 q627 => ?_)
                  clear kq627; obtain ⟨q627a, q627b⟩ := q627; subst r625; subst M626
                  refine G_ps (pc' := 282) (st' := []) rfl rfl ?_
                  have hR628 : RP M0 (pushM (nodeM (popM (popM (mset (mset (mset M576 55 44 0) 55 39 ((M576 55 39) - 1)) 55 42 (o - 1)))) 62 x1 x2 (-1) 0) ((N_574).length : Int)) (N_574 ++ [(62, x1, x2, (-1), 0)]) ((((N_574).length : Int)) :: Y) PP (o - 1) a 1 0 := RP_push hR624
                  have hR628N := RP_N hR628
                  (try simp only [List.length_cons, List.length_append, List.length_nil] at hR628N)
                  have hR628O := RP_O hR628
                  (try simp only [List.length_cons, List.length_append, List.length_nil] at hR628O)
                  have hR628P := RP_P hR628
                  (try simp only [List.length_cons, List.length_append, List.length_nil] at hR628P)
                  refine G_iload (i := 1) (n := 5) (len := 1) (Or.inl ⟨1, rfl, rfl, d_Mo_behind_282⟩) rfl (G_pc (pc' := 283) rfl ?_)
                  refine G_iconst (n := 1) d_Mo_behind_283 (by decide) (G_pc (pc' := 284) rfl ?_)
                  refine G_iadd d_Mo_behind_284 (by omega) (G_pc (pc' := 285) rfl ?_)
                  refine G_iret d_Mo_behind_285 rfl (tokI (by omega)) rfl rfl ?_
                  exact Or.inr ⟨_, _, _, _, _, _, _, by unfold behindS; rw [if_neg (by omega), if_neg (by omega), if_pos (by omega), redS_e hF_574]; unfold closeS; simp only []; first | grind | (simp; grind), rfl, hR628⟩
              · skip
                refine G_iconst (n := 1) d_Mo_behind_211 (by decide) (G_pc (pc' := 212) rfl ?_)
                refine G_goto (tgt := 216) d_Mo_behind_212 (by decide) ?_
                refine G_putL (o := 55) (c := 9) (k := 44) (ki := 44) (x := 1) d_Mo_behind_216 fl_Mo_166 rfl rfl (by decide) (by decide) (by decide) rfl rfl (tokZ (by decide)) rfl (G_pc (pc' := 219) rfl ?_)
                have hR629 : RP M0 (mset M576 55 44 1) N_574 O_574 P_574 o a 1 1 := RP_w hR578
                have hR629N := RP_N hR629
                (try simp only [List.length_cons, List.length_append, List.length_nil] at hR629N)
                have hR629O := RP_O hR629
                (try simp only [List.length_cons, List.length_append, List.length_nil] at hR629O)
                have hR629P := RP_P hR629
                (try simp only [List.length_cons, List.length_append, List.length_nil] at hR629P)
                refine G_aload (i := 0) (n := 2) (len := 1) (Or.inl ⟨0, rfl, rfl, d_Mo_behind_219⟩) rfl (by decide) (G_pc (pc' := 220) rfl ?_)
                refine G_get (o := 55) (c := 9) (k := 44) (v := 1) d_Mo_behind_220 fl_Mo_166 rfl (by decide) (by decide) rfl rfl (G_pc (pc' := 223) rfl ?_)
                refine G_if_eq (tgt := 228) d_Mo_behind_223 (by decide) (fun h630 => absurd h630 (by decide)) (fun h630 => G_pc (pc' := 226) rfl ?_)
                refine G_iload (i := 1) (n := 3) (len := 1) (Or.inl ⟨1, rfl, rfl, d_Mo_behind_226⟩) rfl (G_pc (pc' := 227) rfl ?_)
                refine G_iret d_Mo_behind_227 rfl (tokI (by omega)) rfl rfl ?_
                exact Or.inl ⟨by unfold behindS; rw [if_neg (by omega), if_neg (by omega), if_pos (by omega), redS_e hF_574]; unfold closeS; simp only []; first | grind | (simp; grind), hR629.1, RP_W hR629, _, rfl⟩
      · skip
        refine G_aload (i := 0) (n := 2) (len := 1) (Or.inl ⟨0, rfl, rfl, d_Mo_behind_130⟩) rfl (by decide) (G_pc (pc' := 131) rfl ?_)
        refine G_dup d_Mo_behind_131 (fun _ h => by cases h) (G_pc (pc' := 132) rfl ?_)
        refine G_get (o := 55) (c := 9) (k := 42) (v := M 55 42) d_Mo_behind_132 fl_Mo_233 rfl (by decide) (by decide) rfl rfl (G_pc (pc' := 135) rfl ?_)
        rw [show M 55 42 = o from (show (mset M 55 45 1) 55 42 = o from RP_OP hR379)]
        refine G_iconst (n := 1) d_Mo_behind_135 (by decide) (G_pc (pc' := 136) rfl ?_)
        refine G_iadd d_Mo_behind_136 (by omega) (G_pc (pc' := 137) rfl ?_)
        refine G_putL (o := 55) (c := 9) (k := 42) (ki := 42) (x := o + 1) d_Mo_behind_137 fl_Mo_233 rfl rfl (by decide) (by decide) (by decide) rfl rfl (tokI (by omega)) rfl (G_pc (pc' := 140) rfl ?_)
        have hR631 : RP M0 (mset (mset M 55 45 1) 55 42 (o + 1)) N O P (o + 1) a 1 0 := RP_o hR379
        have hR631N := RP_N hR631
        (try simp only [List.length_cons, List.length_append, List.length_nil] at hR631N)
        have hR631O := RP_O hR631
        (try simp only [List.length_cons, List.length_append, List.length_nil] at hR631O)
        have hR631P := RP_P hR631
        (try simp only [List.length_cons, List.length_append, List.length_nil] at hR631P)
        refine G_aload (i := 0) (n := 2) (len := 1) (Or.inl ⟨0, rfl, rfl, d_Mo_behind_140⟩) rfl (by decide) (G_pc (pc' := 141) rfl ?_)
        refine G_iload (i := 3) (n := 0) (len := 1) (Or.inl ⟨3, rfl, rfl, d_Mo_behind_141⟩) rfl (G_pc (pc' := 142) rfl ?_)
        refine G_if_ne (tgt := 154) d_Mo_behind_142 (by decide) (fun h632 => ?_) (fun h632 => G_pc (pc' := 145) rfl ?_)
        · skip
          refine G_iconst (n := 1) d_Mo_behind_154 (by decide) (G_pc (pc' := 155) rfl ?_)
          refine G_goto (tgt := 159) d_Mo_behind_155 (by decide) ?_
          refine G_putL (o := 55) (c := 9) (k := 44) (ki := 44) (x := 1) d_Mo_behind_159 fl_Mo_166 rfl rfl (by decide) (by decide) (by decide) rfl rfl (tokZ (by decide)) rfl (G_pc (pc' := 162) rfl ?_)
          have hR633 : RP M0 (mset (mset (mset M 55 45 1) 55 42 (o + 1)) 55 44 1) N O P (o + 1) a 1 1 := RP_w hR631
          have hR633N := RP_N hR633
          (try simp only [List.length_cons, List.length_append, List.length_nil] at hR633N)
          have hR633O := RP_O hR633
          (try simp only [List.length_cons, List.length_append, List.length_nil] at hR633O)
          have hR633P := RP_P hR633
          (try simp only [List.length_cons, List.length_append, List.length_nil] at hR633P)
          refine G_aload (i := 0) (n := 2) (len := 1) (Or.inl ⟨0, rfl, rfl, d_Mo_behind_162⟩) rfl (by decide) (G_pc (pc' := 163) rfl ?_)
          refine G_bipush (n := 22) d_Mo_behind_163 (by decide) (G_pc (pc' := 165) rfl ?_)
          refine G_iconst (n := 0) d_Mo_behind_165 (by decide) (G_pc (pc' := 166) rfl ?_)
          refine G_callV (K1 := KE) (d2 := 0) (o := 55) (cl := 9) (as := [vi 22, vi 0]) (rest := []) d_Mo_behind_166 mf_Mo_hold ml_Mo_257 rfl rfl (by decide) rfl rfl (Nat.le_of_ble_eq_true rfl) (by omega) ⟨Nat.le_refl _, Nat.le_refl _⟩ (g_Mo_hold (by omega) 22 0 _ (by omega)) (fun r634 M635 kq636 q636 => ?_)
          clear kq636; obtain ⟨q636a, q636b⟩ := q636; subst r634; subst M635
          refine G_ps (pc' := 169) (st' := []) rfl rfl ?_
          have hR637 : RP M0 (holdM (mset (mset (mset M 55 45 1) 55 42 (o + 1)) 55 44 1) 22 0) N O ((22, 0) :: P) (o + 1) a 1 1 := RP_hold hR633
          have hR637N := RP_N hR637
          (try simp only [List.length_cons, List.length_append, List.length_nil] at hR637N)
          have hR637O := RP_O hR637
          (try simp only [List.length_cons, List.length_append, List.length_nil] at hR637O)
          have hR637P := RP_P hR637
          (try simp only [List.length_cons, List.length_append, List.length_nil] at hR637P)
          refine G_iload (i := 1) (n := 3) (len := 1) (Or.inl ⟨1, rfl, rfl, d_Mo_behind_169⟩) rfl (G_pc (pc' := 170) rfl ?_)
          refine G_iconst (n := 1) d_Mo_behind_170 (by decide) (G_pc (pc' := 171) rfl ?_)
          refine G_iadd d_Mo_behind_171 (by omega) (G_pc (pc' := 172) rfl ?_)
          refine G_iret d_Mo_behind_172 rfl (tokI (by omega)) rfl rfl ?_
          exact Or.inl ⟨by unfold behindS; rw [if_neg (by omega), if_pos (by omega)]; unfold sqS; simp only []; first | grind | (simp; grind), hR637.1, RP_W hR637, _, rfl⟩
        · skip
          refine G_aload (i := 0) (n := 2) (len := 1) (Or.inl ⟨0, rfl, rfl, d_Mo_behind_145⟩) rfl (by decide) (G_pc (pc' := 146) rfl ?_)
          refine G_get (o := 55) (c := 9) (k := 42) (v := o + 1) d_Mo_behind_146 fl_Mo_233 rfl (by decide) (by decide) rfl rfl (G_pc (pc' := 149) rfl ?_)
          refine G_bipush (n := 6) d_Mo_behind_149 (by decide) (G_pc (pc' := 151) rfl ?_)
          refine G_icmp_le (tgt := 158) d_Mo_behind_151 (by decide) (fun h638 => ?_) (fun h638 => G_pc (pc' := 154) rfl ?_)
          · skip
            refine G_iconst (n := 0) d_Mo_behind_158 (by decide) (G_pc (pc' := 159) rfl ?_)
            refine G_putL (o := 55) (c := 9) (k := 44) (ki := 44) (x := 0) d_Mo_behind_159 fl_Mo_166 rfl rfl (by decide) (by decide) (by decide) rfl rfl (tokZ (by decide)) rfl (G_pc (pc' := 162) rfl ?_)
            have hR639 : RP M0 (mset (mset (mset M 55 45 1) 55 42 (o + 1)) 55 44 0) N O P (o + 1) a 1 0 := RP_w hR631
            have hR639N := RP_N hR639
            (try simp only [List.length_cons, List.length_append, List.length_nil] at hR639N)
            have hR639O := RP_O hR639
            (try simp only [List.length_cons, List.length_append, List.length_nil] at hR639O)
            have hR639P := RP_P hR639
            (try simp only [List.length_cons, List.length_append, List.length_nil] at hR639P)
            refine G_aload (i := 0) (n := 2) (len := 1) (Or.inl ⟨0, rfl, rfl, d_Mo_behind_162⟩) rfl (by decide) (G_pc (pc' := 163) rfl ?_)
            refine G_bipush (n := 22) d_Mo_behind_163 (by decide) (G_pc (pc' := 165) rfl ?_)
            refine G_iconst (n := 0) d_Mo_behind_165 (by decide) (G_pc (pc' := 166) rfl ?_)
            refine G_callV (K1 := KE) (d2 := 0) (o := 55) (cl := 9) (as := [vi 22, vi 0]) (rest := []) d_Mo_behind_166 mf_Mo_hold ml_Mo_257 rfl rfl (by decide) rfl rfl (Nat.le_of_ble_eq_true rfl) (by omega) ⟨Nat.le_refl _, Nat.le_refl _⟩ (g_Mo_hold (by omega) 22 0 _ (by omega)) (fun r640 M641 kq642 q642 => ?_)
            clear kq642; obtain ⟨q642a, q642b⟩ := q642; subst r640; subst M641
            refine G_ps (pc' := 169) (st' := []) rfl rfl ?_
            have hR643 : RP M0 (holdM (mset (mset (mset M 55 45 1) 55 42 (o + 1)) 55 44 0) 22 0) N O ((22, 0) :: P) (o + 1) a 1 0 := RP_hold hR639
            have hR643N := RP_N hR643
            (try simp only [List.length_cons, List.length_append, List.length_nil] at hR643N)
            have hR643O := RP_O hR643
            (try simp only [List.length_cons, List.length_append, List.length_nil] at hR643O)
            have hR643P := RP_P hR643
            (try simp only [List.length_cons, List.length_append, List.length_nil] at hR643P)
            refine G_iload (i := 1) (n := 3) (len := 1) (Or.inl ⟨1, rfl, rfl, d_Mo_behind_169⟩) rfl (G_pc (pc' := 170) rfl ?_)
            refine G_iconst (n := 1) d_Mo_behind_170 (by decide) (G_pc (pc' := 171) rfl ?_)
            refine G_iadd d_Mo_behind_171 (by omega) (G_pc (pc' := 172) rfl ?_)
            refine G_iret d_Mo_behind_172 rfl (tokI (by omega)) rfl rfl ?_
            exact Or.inr ⟨_, _, _, _, _, _, _, by unfold behindS; rw [if_neg (by omega), if_pos (by omega)]; unfold sqS; simp only []; first | grind | (simp; grind), rfl, hR643⟩
          · skip
            refine G_iconst (n := 1) d_Mo_behind_154 (by decide) (G_pc (pc' := 155) rfl ?_)
            refine G_goto (tgt := 159) d_Mo_behind_155 (by decide) ?_
            refine G_putL (o := 55) (c := 9) (k := 44) (ki := 44) (x := 1) d_Mo_behind_159 fl_Mo_166 rfl rfl (by decide) (by decide) (by decide) rfl rfl (tokZ (by decide)) rfl (G_pc (pc' := 162) rfl ?_)
            have hR644 : RP M0 (mset (mset (mset M 55 45 1) 55 42 (o + 1)) 55 44 1) N O P (o + 1) a 1 1 := RP_w hR631
            have hR644N := RP_N hR644
            (try simp only [List.length_cons, List.length_append, List.length_nil] at hR644N)
            have hR644O := RP_O hR644
            (try simp only [List.length_cons, List.length_append, List.length_nil] at hR644O)
            have hR644P := RP_P hR644
            (try simp only [List.length_cons, List.length_append, List.length_nil] at hR644P)
            refine G_aload (i := 0) (n := 2) (len := 1) (Or.inl ⟨0, rfl, rfl, d_Mo_behind_162⟩) rfl (by decide) (G_pc (pc' := 163) rfl ?_)
            refine G_bipush (n := 22) d_Mo_behind_163 (by decide) (G_pc (pc' := 165) rfl ?_)
            refine G_iconst (n := 0) d_Mo_behind_165 (by decide) (G_pc (pc' := 166) rfl ?_)
            refine G_callV (K1 := KE) (d2 := 0) (o := 55) (cl := 9) (as := [vi 22, vi 0]) (rest := []) d_Mo_behind_166 mf_Mo_hold ml_Mo_257 rfl rfl (by decide) rfl rfl (Nat.le_of_ble_eq_true rfl) (by omega) ⟨Nat.le_refl _, Nat.le_refl _⟩ (g_Mo_hold (by omega) 22 0 _ (by omega)) (fun r645 M646 kq647 q647 => ?_)
            clear kq647; obtain ⟨q647a, q647b⟩ := q647; subst r645; subst M646
            refine G_ps (pc' := 169) (st' := []) rfl rfl ?_
            have hR648 : RP M0 (holdM (mset (mset (mset M 55 45 1) 55 42 (o + 1)) 55 44 1) 22 0) N O ((22, 0) :: P) (o + 1) a 1 1 := RP_hold hR644
            have hR648N := RP_N hR648
            (try simp only [List.length_cons, List.length_append, List.length_nil] at hR648N)
            have hR648O := RP_O hR648
            (try simp only [List.length_cons, List.length_append, List.length_nil] at hR648O)
            have hR648P := RP_P hR648
            (try simp only [List.length_cons, List.length_append, List.length_nil] at hR648P)
            refine G_iload (i := 1) (n := 3) (len := 1) (Or.inl ⟨1, rfl, rfl, d_Mo_behind_169⟩) rfl (G_pc (pc' := 170) rfl ?_)
            refine G_iconst (n := 1) d_Mo_behind_170 (by decide) (G_pc (pc' := 171) rfl ?_)
            refine G_iadd d_Mo_behind_171 (by omega) (G_pc (pc' := 172) rfl ?_)
            refine G_iret d_Mo_behind_172 rfl (tokI (by omega)) rfl rfl ?_
            exact Or.inl ⟨by unfold behindS; rw [if_neg (by omega), if_pos (by omega)]; unfold sqS; simp only []; first | grind | (simp; grind), hR648.1, RP_W hR648, _, rfl⟩
    · skip
      refine G_aload (i := 0) (n := 2) (len := 1) (Or.inl ⟨0, rfl, rfl, d_Mo_behind_33⟩) rfl (by decide) (G_pc (pc' := 34) rfl ?_)
      refine G_iload (i := 1) (n := 3) (len := 1) (Or.inl ⟨1, rfl, rfl, d_Mo_behind_34⟩) rfl (G_pc (pc' := 35) rfl ?_)
      refine G_iconst (n := 1) d_Mo_behind_35 (by decide) (G_pc (pc' := 36) rfl ?_)
      refine G_iadd d_Mo_behind_36 (by omega) (G_pc (pc' := 37) rfl ?_)
      refine G_callV (K1 := KE) (d2 := 0) (o := 55) (cl := 9) (as := [vi (k + 1)]) (rest := []) d_Mo_behind_37 mf_Mo_tokenAt ml_Mo_254 rfl rfl (by decide) rfl rfl (Nat.le_of_ble_eq_true rfl) (by omega) ⟨Nat.le_refl _, Nat.le_refl _⟩ (g_Mo_tokenAt (by omega) (k + 1) _ (by omega) (by rw [RP_n hR379]; omega)) (fun r649 M650 kq651 q651 => ?_)
      clear kq651; obtain ⟨q651a, q651b⟩ := q651; subst r649; subst M650
      refine G_ps (pc' := 40) (st' := [vi (tkA (mset M 55 45 1) (k + 1))]) rfl rfl ?_
      rw [show tkA (mset M 55 45 1) (k + 1) = tkA M0 (k + 1) from RP_tk hR379 _]
      refine G_istore (i := 4) (len := 2) (ls' := [(4, vi (tkA M0 (k + 1))), (3, vi cl), (2, vi (tkA M0 k)), (0, vr 55), (1, vi k)]) (Or.inr ⟨rfl, d_Mo_behind_40⟩) (by decide) rfl (G_pc (pc' := 42) rfl ?_)
      refine G_aload (i := 0) (n := 3) (len := 1) (Or.inl ⟨0, rfl, rfl, d_Mo_behind_42⟩) rfl (by decide) (G_pc (pc' := 43) rfl ?_)
      refine G_iload (i := 3) (n := 1) (len := 1) (Or.inl ⟨3, rfl, rfl, d_Mo_behind_43⟩) rfl (G_pc (pc' := 44) rfl ?_)
      refine G_if_ne (tgt := 61) d_Mo_behind_44 (by decide) (fun h652 => ?_) (fun h652 => G_pc (pc' := 47) rfl ?_)
      · skip
        refine G_iconst (n := 1) d_Mo_behind_61 (by decide) (G_pc (pc' := 62) rfl ?_)
        refine G_goto (tgt := 66) d_Mo_behind_62 (by decide) ?_
        refine G_putL (o := 55) (c := 9) (k := 44) (ki := 44) (x := 1) d_Mo_behind_66 fl_Mo_166 rfl rfl (by decide) (by decide) (by decide) rfl rfl (tokZ (by decide)) rfl (G_pc (pc' := 69) rfl ?_)
        have hR653 : RP M0 (mset (mset M 55 45 1) 55 44 1) N O P o a 1 1 := RP_w hR379
        have hR653N := RP_N hR653
        (try simp only [List.length_cons, List.length_append, List.length_nil] at hR653N)
        have hR653O := RP_O hR653
        (try simp only [List.length_cons, List.length_append, List.length_nil] at hR653O)
        have hR653P := RP_P hR653
        (try simp only [List.length_cons, List.length_append, List.length_nil] at hR653P)
        obtain ⟨x1, Y, rfl⟩ := cons1 (O := O) (by omega)
        simp only [List.length_cons] at *
        refine G_aload (i := 0) (n := 3) (len := 1) (Or.inl ⟨0, rfl, rfl, d_Mo_behind_69⟩) rfl (by decide) (G_pc (pc' := 70) rfl ?_)
        refine G_callV (K1 := KE) (d2 := 0) (o := 55) (cl := 9) (as := []) (rest := []) d_Mo_behind_70 mf_Mo_pop ml_Mo_223 rfl rfl (by decide) rfl rfl (Nat.le_of_ble_eq_true rfl) (by omega) ⟨Nat.le_refl _, Nat.le_refl _⟩ (g_Mo_pop (by omega)  _ (by omega)) (fun r654 M655 kq656 q656 => ?_)
        clear kq656; obtain ⟨q656a, q656b⟩ := q656; subst r654; subst M655
        refine G_ps (pc' := 73) (st' := [vi ((mset (mset M 55 45 1) 55 44 1) 84 ((mset (mset M 55 45 1) 55 44 1) 55 37 - 1))]) rfl rfl ?_
        rw [show (mset (mset M 55 45 1) 55 44 1) 84 ((mset (mset M 55 45 1) 55 44 1) 55 37 - 1) = x1 from (RP_pop hR653).1]
        have hR657 : RP M0 (popM (mset (mset M 55 45 1) 55 44 1)) N Y P o a 1 1 := (RP_pop hR653).2
        have hR657N := RP_N hR657
        (try simp only [List.length_cons, List.length_append, List.length_nil] at hR657N)
        have hR657O := RP_O hR657
        (try simp only [List.length_cons, List.length_append, List.length_nil] at hR657O)
        have hR657P := RP_P hR657
        (try simp only [List.length_cons, List.length_append, List.length_nil] at hR657P)
        refine G_istore (i := 5) (len := 2) (ls' := [(5, vi x1), (4, vi (tkA M0 (k + 1))), (3, vi cl), (2, vi (tkA M0 k)), (0, vr 55), (1, vi k)]) (Or.inr ⟨rfl, d_Mo_behind_73⟩) (by decide) rfl (G_pc (pc' := 75) rfl ?_)
        refine G_aload (i := 0) (n := 4) (len := 1) (Or.inl ⟨0, rfl, rfl, d_Mo_behind_75⟩) rfl (by decide) (G_pc (pc' := 76) rfl ?_)
        refine G_aload (i := 0) (n := 4) (len := 1) (Or.inl ⟨0, rfl, rfl, d_Mo_behind_76⟩) rfl (by decide) (G_pc (pc' := 77) rfl ?_)
        refine G_iload (i := 4) (n := 1) (len := 2) (Or.inr ⟨rfl, d_Mo_behind_77⟩) rfl (G_pc (pc' := 79) rfl ?_)
        refine G_bipush (n := 7) d_Mo_behind_79 (by decide) (G_pc (pc' := 81) rfl ?_)
        refine G_icmp_ne (tgt := 89) d_Mo_behind_81 (by decide) (fun h658 => ?_) (fun h658 => G_pc (pc' := 84) rfl ?_)
        · skip
          refine G_bipush (n := 61) d_Mo_behind_89 (by decide) (G_pc (pc' := 91) rfl ?_)
          refine G_iload (i := 5) (n := 0) (len := 2) (Or.inr ⟨rfl, d_Mo_behind_91⟩) rfl (G_pc (pc' := 93) rfl ?_)
          refine G_iconst (n := (-1)) d_Mo_behind_93 (by decide) (G_pc (pc' := 94) rfl ?_)
          refine G_iconst (n := (-1)) d_Mo_behind_94 (by decide) (G_pc (pc' := 95) rfl ?_)
          refine G_aload (i := 0) (n := 4) (len := 1) (Or.inl ⟨0, rfl, rfl, d_Mo_behind_95⟩) rfl (by decide) (G_pc (pc' := 96) rfl ?_)
          refine G_get (o := 55) (c := 9) (k := 44) (v := (popM (mset (mset M 55 45 1) 55 44 1)) 55 44) d_Mo_behind_96 fl_Mo_166 rfl (by decide) (by decide) rfl rfl (G_pc (pc' := 99) rfl ?_)
          rw [show (popM (mset (mset M 55 45 1) 55 44 1)) 55 44 = 1 from (show (popM (mset (mset M 55 45 1) 55 44 1)) 55 44 = 1 from RP_W hR657)]
          refine G_if_eq (tgt := 106) d_Mo_behind_99 (by decide) (fun h659 => absurd h659 (by decide)) (fun h659 => G_pc (pc' := 102) rfl ?_)
          refine G_lconst0 d_Mo_behind_102 (G_pc (pc' := 103) rfl ?_)
          refine G_goto (tgt := 114) d_Mo_behind_103 (by decide) ?_
          refine G_callV (K1 := KE) (d2 := 0) (o := 55) (cl := 9) (as := [vi 61, vi x1, vi (-1), vi (-1), vl 0]) (rest := [vr 55]) d_Mo_behind_114 mf_Mo_node ml_Mo_226 rfl rfl (by decide) rfl rfl (Nat.le_of_ble_eq_true rfl) (by omega) ⟨Nat.le_refl _, Nat.le_refl _⟩ (g_Mo_node (by omega) 61 x1 (-1) (-1) 0 _ (by omega)) (fun r660 M661 kq662 q662 => ?_)
          clear kq662; obtain ⟨q662a, q662b⟩ := q662; subst r660; subst M661
          refine G_ps (pc' := 117) (st' := [vi ((popM (mset (mset M 55 45 1) 55 44 1)) 55 28), vr 55]) rfl rfl ?_
          rw [show (popM (mset (mset M 55 45 1) 55 44 1)) 55 28 = ((N).length : Int) from RP_N hR657]
          have hR663 : RP M0 (nodeM (popM (mset (mset M 55 45 1) 55 44 1)) 61 x1 (-1) (-1) 0) (N ++ [(61, x1, (-1), (-1), 0)]) Y P o a 1 1 := RP_node hR657
          have hR663N := RP_N hR663
          (try simp only [List.length_cons, List.length_append, List.length_nil] at hR663N)
          have hR663O := RP_O hR663
          (try simp only [List.length_cons, List.length_append, List.length_nil] at hR663O)
          have hR663P := RP_P hR663
          (try simp only [List.length_cons, List.length_append, List.length_nil] at hR663P)
          refine G_callV (K1 := KE) (d2 := 0) (o := 55) (cl := 9) (as := [vi ((N).length : Int)]) (rest := []) d_Mo_behind_117 mf_Mo_push ml_Mo_230 rfl rfl (by decide) rfl rfl (Nat.le_of_ble_eq_true rfl) (by omega) ⟨Nat.le_refl _, Nat.le_refl _⟩ (g_Mo_push (by omega) ((N).length : Int) _ (by omega)) (fun r664 M665 kq666 q666 => ?_)
          clear kq666; obtain ⟨q666a, q666b⟩ := q666; subst r664; subst M665
          refine G_ps (pc' := 120) (st' := []) rfl rfl ?_
          have hR667 : RP M0 (pushM (nodeM (popM (mset (mset M 55 45 1) 55 44 1)) 61 x1 (-1) (-1) 0) ((N).length : Int)) (N ++ [(61, x1, (-1), (-1), 0)]) ((((N).length : Int)) :: Y) P o a 1 1 := RP_push hR663
          have hR667N := RP_N hR667
          (try simp only [List.length_cons, List.length_append, List.length_nil] at hR667N)
          have hR667O := RP_O hR667
          (try simp only [List.length_cons, List.length_append, List.length_nil] at hR667O)
          have hR667P := RP_P hR667
          (try simp only [List.length_cons, List.length_append, List.length_nil] at hR667P)
          refine G_iload (i := 1) (n := 5) (len := 1) (Or.inl ⟨1, rfl, rfl, d_Mo_behind_120⟩) rfl (G_pc (pc' := 121) rfl ?_)
          refine G_iconst (n := 2) d_Mo_behind_121 (by decide) (G_pc (pc' := 122) rfl ?_)
          refine G_iadd d_Mo_behind_122 (by omega) (G_pc (pc' := 123) rfl ?_)
          refine G_iret d_Mo_behind_123 rfl (tokI (by omega)) rfl rfl ?_
          exact Or.inl ⟨by unfold behindS; rw [if_pos (by omega)]; unfold dotS; simp only []; first | grind | (simp; grind), hR667.1, RP_W hR667, _, rfl⟩
        · skip
          refine G_bipush (n := 60) d_Mo_behind_84 (by decide) (G_pc (pc' := 86) rfl ?_)
          refine G_goto (tgt := 91) d_Mo_behind_86 (by decide) ?_
          refine G_iload (i := 5) (n := 0) (len := 2) (Or.inr ⟨rfl, d_Mo_behind_91⟩) rfl (G_pc (pc' := 93) rfl ?_)
          refine G_iconst (n := (-1)) d_Mo_behind_93 (by decide) (G_pc (pc' := 94) rfl ?_)
          refine G_iconst (n := (-1)) d_Mo_behind_94 (by decide) (G_pc (pc' := 95) rfl ?_)
          refine G_aload (i := 0) (n := 4) (len := 1) (Or.inl ⟨0, rfl, rfl, d_Mo_behind_95⟩) rfl (by decide) (G_pc (pc' := 96) rfl ?_)
          refine G_get (o := 55) (c := 9) (k := 44) (v := (popM (mset (mset M 55 45 1) 55 44 1)) 55 44) d_Mo_behind_96 fl_Mo_166 rfl (by decide) (by decide) rfl rfl (G_pc (pc' := 99) rfl ?_)
          rw [show (popM (mset (mset M 55 45 1) 55 44 1)) 55 44 = 1 from (show (popM (mset (mset M 55 45 1) 55 44 1)) 55 44 = 1 from RP_W hR657)]
          refine G_if_eq (tgt := 106) d_Mo_behind_99 (by decide) (fun h668 => absurd h668 (by decide)) (fun h668 => G_pc (pc' := 102) rfl ?_)
          refine G_lconst0 d_Mo_behind_102 (G_pc (pc' := 103) rfl ?_)
          refine G_goto (tgt := 114) d_Mo_behind_103 (by decide) ?_
          refine G_callV (K1 := KE) (d2 := 0) (o := 55) (cl := 9) (as := [vi 60, vi x1, vi (-1), vi (-1), vl 0]) (rest := [vr 55]) d_Mo_behind_114 mf_Mo_node ml_Mo_226 rfl rfl (by decide) rfl rfl (Nat.le_of_ble_eq_true rfl) (by omega) ⟨Nat.le_refl _, Nat.le_refl _⟩ (g_Mo_node (by omega) 60 x1 (-1) (-1) 0 _ (by omega)) (fun r669 M670 kq671 q671 => ?_)
          clear kq671; obtain ⟨q671a, q671b⟩ := q671; subst r669; subst M670
          refine G_ps (pc' := 117) (st' := [vi ((popM (mset (mset M 55 45 1) 55 44 1)) 55 28), vr 55]) rfl rfl ?_
          rw [show (popM (mset (mset M 55 45 1) 55 44 1)) 55 28 = ((N).length : Int) from RP_N hR657]
          have hR672 : RP M0 (nodeM (popM (mset (mset M 55 45 1) 55 44 1)) 60 x1 (-1) (-1) 0) (N ++ [(60, x1, (-1), (-1), 0)]) Y P o a 1 1 := RP_node hR657
          have hR672N := RP_N hR672
          (try simp only [List.length_cons, List.length_append, List.length_nil] at hR672N)
          have hR672O := RP_O hR672
          (try simp only [List.length_cons, List.length_append, List.length_nil] at hR672O)
          have hR672P := RP_P hR672
          (try simp only [List.length_cons, List.length_append, List.length_nil] at hR672P)
          refine G_callV (K1 := KE) (d2 := 0) (o := 55) (cl := 9) (as := [vi ((N).length : Int)]) (rest := []) d_Mo_behind_117 mf_Mo_push ml_Mo_230 rfl rfl (by decide) rfl rfl (Nat.le_of_ble_eq_true rfl) (by omega) ⟨Nat.le_refl _, Nat.le_refl _⟩ (g_Mo_push (by omega) ((N).length : Int) _ (by omega)) (fun r673 M674 kq675 q675 => ?_)
          clear kq675; obtain ⟨q675a, q675b⟩ := q675; subst r673; subst M674
          refine G_ps (pc' := 120) (st' := []) rfl rfl ?_
          have hR676 : RP M0 (pushM (nodeM (popM (mset (mset M 55 45 1) 55 44 1)) 60 x1 (-1) (-1) 0) ((N).length : Int)) (N ++ [(60, x1, (-1), (-1), 0)]) ((((N).length : Int)) :: Y) P o a 1 1 := RP_push hR672
          have hR676N := RP_N hR676
          (try simp only [List.length_cons, List.length_append, List.length_nil] at hR676N)
          have hR676O := RP_O hR676
          (try simp only [List.length_cons, List.length_append, List.length_nil] at hR676O)
          have hR676P := RP_P hR676
          (try simp only [List.length_cons, List.length_append, List.length_nil] at hR676P)
          refine G_iload (i := 1) (n := 5) (len := 1) (Or.inl ⟨1, rfl, rfl, d_Mo_behind_120⟩) rfl (G_pc (pc' := 121) rfl ?_)
          refine G_iconst (n := 2) d_Mo_behind_121 (by decide) (G_pc (pc' := 122) rfl ?_)
          refine G_iadd d_Mo_behind_122 (by omega) (G_pc (pc' := 123) rfl ?_)
          refine G_iret d_Mo_behind_123 rfl (tokI (by omega)) rfl rfl ?_
          exact Or.inl ⟨by unfold behindS; rw [if_pos (by omega)]; unfold dotS; simp only []; first | grind | (simp; grind), hR676.1, RP_W hR676, _, rfl⟩
      · skip
        refine G_iload (i := 4) (n := 0) (len := 2) (Or.inr ⟨rfl, d_Mo_behind_47⟩) rfl (G_pc (pc' := 49) rfl ?_)
        refine G_bipush (n := 7) d_Mo_behind_49 (by decide) (G_pc (pc' := 51) rfl ?_)
        refine G_icmp_eq (tgt := 65) d_Mo_behind_51 (by decide) (fun h677 => ?_) (fun h677 => G_pc (pc' := 54) rfl ?_)
        · skip
          refine G_iconst (n := 0) d_Mo_behind_65 (by decide) (G_pc (pc' := 66) rfl ?_)
          refine G_putL (o := 55) (c := 9) (k := 44) (ki := 44) (x := 0) d_Mo_behind_66 fl_Mo_166 rfl rfl (by decide) (by decide) (by decide) rfl rfl (tokZ (by decide)) rfl (G_pc (pc' := 69) rfl ?_)
          have hR678 : RP M0 (mset (mset M 55 45 1) 55 44 0) N O P o a 1 0 := RP_w hR379
          have hR678N := RP_N hR678
          (try simp only [List.length_cons, List.length_append, List.length_nil] at hR678N)
          have hR678O := RP_O hR678
          (try simp only [List.length_cons, List.length_append, List.length_nil] at hR678O)
          have hR678P := RP_P hR678
          (try simp only [List.length_cons, List.length_append, List.length_nil] at hR678P)
          obtain ⟨x1, Y, rfl⟩ := cons1 (O := O) (by omega)
          simp only [List.length_cons] at *
          refine G_aload (i := 0) (n := 3) (len := 1) (Or.inl ⟨0, rfl, rfl, d_Mo_behind_69⟩) rfl (by decide) (G_pc (pc' := 70) rfl ?_)
          refine G_callV (K1 := KE) (d2 := 0) (o := 55) (cl := 9) (as := []) (rest := []) d_Mo_behind_70 mf_Mo_pop ml_Mo_223 rfl rfl (by decide) rfl rfl (Nat.le_of_ble_eq_true rfl) (by omega) ⟨Nat.le_refl _, Nat.le_refl _⟩ (g_Mo_pop (by omega)  _ (by omega)) (fun r679 M680 kq681 q681 => ?_)
          clear kq681; obtain ⟨q681a, q681b⟩ := q681; subst r679; subst M680
          refine G_ps (pc' := 73) (st' := [vi ((mset (mset M 55 45 1) 55 44 0) 84 ((mset (mset M 55 45 1) 55 44 0) 55 37 - 1))]) rfl rfl ?_
          rw [show (mset (mset M 55 45 1) 55 44 0) 84 ((mset (mset M 55 45 1) 55 44 0) 55 37 - 1) = x1 from (RP_pop hR678).1]
          have hR682 : RP M0 (popM (mset (mset M 55 45 1) 55 44 0)) N Y P o a 1 0 := (RP_pop hR678).2
          have hR682N := RP_N hR682
          (try simp only [List.length_cons, List.length_append, List.length_nil] at hR682N)
          have hR682O := RP_O hR682
          (try simp only [List.length_cons, List.length_append, List.length_nil] at hR682O)
          have hR682P := RP_P hR682
          (try simp only [List.length_cons, List.length_append, List.length_nil] at hR682P)
          refine G_istore (i := 5) (len := 2) (ls' := [(5, vi x1), (4, vi (tkA M0 (k + 1))), (3, vi cl), (2, vi (tkA M0 k)), (0, vr 55), (1, vi k)]) (Or.inr ⟨rfl, d_Mo_behind_73⟩) (by decide) rfl (G_pc (pc' := 75) rfl ?_)
          refine G_aload (i := 0) (n := 4) (len := 1) (Or.inl ⟨0, rfl, rfl, d_Mo_behind_75⟩) rfl (by decide) (G_pc (pc' := 76) rfl ?_)
          refine G_aload (i := 0) (n := 4) (len := 1) (Or.inl ⟨0, rfl, rfl, d_Mo_behind_76⟩) rfl (by decide) (G_pc (pc' := 77) rfl ?_)
          refine G_iload (i := 4) (n := 1) (len := 2) (Or.inr ⟨rfl, d_Mo_behind_77⟩) rfl (G_pc (pc' := 79) rfl ?_)
          refine G_bipush (n := 7) d_Mo_behind_79 (by decide) (G_pc (pc' := 81) rfl ?_)
          refine G_icmp_ne (tgt := 89) d_Mo_behind_81 (by decide) (fun h683 => ?_) (fun h683 => G_pc (pc' := 84) rfl ?_)
          · skip
            refine G_bipush (n := 61) d_Mo_behind_89 (by decide) (G_pc (pc' := 91) rfl ?_)
            refine G_iload (i := 5) (n := 0) (len := 2) (Or.inr ⟨rfl, d_Mo_behind_91⟩) rfl (G_pc (pc' := 93) rfl ?_)
            refine G_iconst (n := (-1)) d_Mo_behind_93 (by decide) (G_pc (pc' := 94) rfl ?_)
            refine G_iconst (n := (-1)) d_Mo_behind_94 (by decide) (G_pc (pc' := 95) rfl ?_)
            refine G_aload (i := 0) (n := 4) (len := 1) (Or.inl ⟨0, rfl, rfl, d_Mo_behind_95⟩) rfl (by decide) (G_pc (pc' := 96) rfl ?_)
            refine G_get (o := 55) (c := 9) (k := 44) (v := (popM (mset (mset M 55 45 1) 55 44 0)) 55 44) d_Mo_behind_96 fl_Mo_166 rfl (by decide) (by decide) rfl rfl (G_pc (pc' := 99) rfl ?_)
            rw [show (popM (mset (mset M 55 45 1) 55 44 0)) 55 44 = 0 from (show (popM (mset (mset M 55 45 1) 55 44 0)) 55 44 = 0 from RP_W hR682)]
            refine G_if_eq (tgt := 106) d_Mo_behind_99 (by decide) (fun h684 => ?_) (fun h684 => absurd h684 (by decide))
            refine G_aload (i := 0) (n := 4) (len := 1) (Or.inl ⟨0, rfl, rfl, d_Mo_behind_106⟩) rfl (by decide) (G_pc (pc' := 107) rfl ?_)
            refine G_get (o := 55) (c := 9) (k := 27) (v := 75) d_Mo_behind_107 fl_Mo_69 rfl (by decide) (by decide) rfl rfl (G_pc (pc' := 110) rfl ?_)
            refine G_iload (i := 1) (n := 5) (len := 1) (Or.inl ⟨1, rfl, rfl, d_Mo_behind_110⟩) rfl (G_pc (pc' := 111) rfl ?_)
            refine G_iconst (n := 1) d_Mo_behind_111 (by decide) (G_pc (pc' := 112) rfl ?_)
            refine G_iadd d_Mo_behind_112 (by omega) (G_pc (pc' := 113) rfl ?_)
            refine G_laload (o := 75) (n := 25) (i := k + 1) (v := (popM (mset (mset M 55 45 1) 55 44 0)) 75 (k + 1)) d_Mo_behind_113 rfl ⟨by decide, by decide⟩ (by omega) (rd_arr rfl) (fun t685 => G_pc (pc' := 114) rfl ?_)
            have t685 := tok_l t685
            rw [show (popM (mset (mset M 55 45 1) 55 44 0)) 75 (k + 1) = M0 75 (k + 1) from RP_v hR682]
            refine G_callV (K1 := KE) (d2 := 0) (o := 55) (cl := 9) (as := [vi 61, vi x1, vi (-1), vi (-1), vl (M0 75 (k + 1))]) (rest := [vr 55]) d_Mo_behind_114 mf_Mo_node ml_Mo_226 rfl rfl (by decide) rfl rfl (Nat.le_of_ble_eq_true rfl) (by omega) ⟨Nat.le_refl _, Nat.le_refl _⟩ (g_Mo_node (by omega) 61 x1 (-1) (-1) (M0 75 (k + 1)) _ (by omega)) (fun r686 M687 kq688 q688 => ?_)
            clear kq688; obtain ⟨q688a, q688b⟩ := q688; subst r686; subst M687
            refine G_ps (pc' := 117) (st' := [vi ((popM (mset (mset M 55 45 1) 55 44 0)) 55 28), vr 55]) rfl rfl ?_
            rw [show (popM (mset (mset M 55 45 1) 55 44 0)) 55 28 = ((N).length : Int) from RP_N hR682]
            have hR689 : RP M0 (nodeM (popM (mset (mset M 55 45 1) 55 44 0)) 61 x1 (-1) (-1) (M0 75 (k + 1))) (N ++ [(61, x1, (-1), (-1), M0 75 (k + 1))]) Y P o a 1 0 := RP_node hR682
            have hR689N := RP_N hR689
            (try simp only [List.length_cons, List.length_append, List.length_nil] at hR689N)
            have hR689O := RP_O hR689
            (try simp only [List.length_cons, List.length_append, List.length_nil] at hR689O)
            have hR689P := RP_P hR689
            (try simp only [List.length_cons, List.length_append, List.length_nil] at hR689P)
            refine G_callV (K1 := KE) (d2 := 0) (o := 55) (cl := 9) (as := [vi ((N).length : Int)]) (rest := []) d_Mo_behind_117 mf_Mo_push ml_Mo_230 rfl rfl (by decide) rfl rfl (Nat.le_of_ble_eq_true rfl) (by omega) ⟨Nat.le_refl _, Nat.le_refl _⟩ (g_Mo_push (by omega) ((N).length : Int) _ (by omega)) (fun r690 M691 kq692 q692 => ?_)
            clear kq692; obtain ⟨q692a, q692b⟩ := q692; subst r690; subst M691
            refine G_ps (pc' := 120) (st' := []) rfl rfl ?_
            have hR693 : RP M0 (pushM (nodeM (popM (mset (mset M 55 45 1) 55 44 0)) 61 x1 (-1) (-1) (M0 75 (k + 1))) ((N).length : Int)) (N ++ [(61, x1, (-1), (-1), M0 75 (k + 1))]) ((((N).length : Int)) :: Y) P o a 1 0 := RP_push hR689
            have hR693N := RP_N hR693
            (try simp only [List.length_cons, List.length_append, List.length_nil] at hR693N)
            have hR693O := RP_O hR693
            (try simp only [List.length_cons, List.length_append, List.length_nil] at hR693O)
            have hR693P := RP_P hR693
            (try simp only [List.length_cons, List.length_append, List.length_nil] at hR693P)
            refine G_iload (i := 1) (n := 5) (len := 1) (Or.inl ⟨1, rfl, rfl, d_Mo_behind_120⟩) rfl (G_pc (pc' := 121) rfl ?_)
            refine G_iconst (n := 2) d_Mo_behind_121 (by decide) (G_pc (pc' := 122) rfl ?_)
            refine G_iadd d_Mo_behind_122 (by omega) (G_pc (pc' := 123) rfl ?_)
            refine G_iret d_Mo_behind_123 rfl (tokI (by omega)) rfl rfl ?_
            exact Or.inr ⟨_, _, _, _, _, _, _, by unfold behindS; rw [if_pos (by omega)]; unfold dotS; simp only []; first | grind | (simp; grind), rfl, hR693⟩
          · skip
            refine G_bipush (n := 60) d_Mo_behind_84 (by decide) (G_pc (pc' := 86) rfl ?_)
            refine G_goto (tgt := 91) d_Mo_behind_86 (by decide) ?_
            refine G_iload (i := 5) (n := 0) (len := 2) (Or.inr ⟨rfl, d_Mo_behind_91⟩) rfl (G_pc (pc' := 93) rfl ?_)
            refine G_iconst (n := (-1)) d_Mo_behind_93 (by decide) (G_pc (pc' := 94) rfl ?_)
            refine G_iconst (n := (-1)) d_Mo_behind_94 (by decide) (G_pc (pc' := 95) rfl ?_)
            refine G_aload (i := 0) (n := 4) (len := 1) (Or.inl ⟨0, rfl, rfl, d_Mo_behind_95⟩) rfl (by decide) (G_pc (pc' := 96) rfl ?_)
            refine G_get (o := 55) (c := 9) (k := 44) (v := (popM (mset (mset M 55 45 1) 55 44 0)) 55 44) d_Mo_behind_96 fl_Mo_166 rfl (by decide) (by decide) rfl rfl (G_pc (pc' := 99) rfl ?_)
            rw [show (popM (mset (mset M 55 45 1) 55 44 0)) 55 44 = 0 from (show (popM (mset (mset M 55 45 1) 55 44 0)) 55 44 = 0 from RP_W hR682)]
            refine G_if_eq (tgt := 106) d_Mo_behind_99 (by decide) (fun h694 => ?_) (fun h694 => absurd h694 (by decide))
            refine G_aload (i := 0) (n := 4) (len := 1) (Or.inl ⟨0, rfl, rfl, d_Mo_behind_106⟩) rfl (by decide) (G_pc (pc' := 107) rfl ?_)
            refine G_get (o := 55) (c := 9) (k := 27) (v := 75) d_Mo_behind_107 fl_Mo_69 rfl (by decide) (by decide) rfl rfl (G_pc (pc' := 110) rfl ?_)
            refine G_iload (i := 1) (n := 5) (len := 1) (Or.inl ⟨1, rfl, rfl, d_Mo_behind_110⟩) rfl (G_pc (pc' := 111) rfl ?_)
            refine G_iconst (n := 1) d_Mo_behind_111 (by decide) (G_pc (pc' := 112) rfl ?_)
            refine G_iadd d_Mo_behind_112 (by omega) (G_pc (pc' := 113) rfl ?_)
            refine G_laload (o := 75) (n := 25) (i := k + 1) (v := (popM (mset (mset M 55 45 1) 55 44 0)) 75 (k + 1)) d_Mo_behind_113 rfl ⟨by decide, by decide⟩ (by omega) (rd_arr rfl) (fun t695 => G_pc (pc' := 114) rfl ?_)
            have t695 := tok_l t695
            rw [show (popM (mset (mset M 55 45 1) 55 44 0)) 75 (k + 1) = M0 75 (k + 1) from RP_v hR682]
            refine G_callV (K1 := KE) (d2 := 0) (o := 55) (cl := 9) (as := [vi 60, vi x1, vi (-1), vi (-1), vl (M0 75 (k + 1))]) (rest := [vr 55]) d_Mo_behind_114 mf_Mo_node ml_Mo_226 rfl rfl (by decide) rfl rfl (Nat.le_of_ble_eq_true rfl) (by omega) ⟨Nat.le_refl _, Nat.le_refl _⟩ (g_Mo_node (by omega) 60 x1 (-1) (-1) (M0 75 (k + 1)) _ (by omega)) (fun r696 M697 kq698 q698 => ?_)
            clear kq698; obtain ⟨q698a, q698b⟩ := q698; subst r696; subst M697
            refine G_ps (pc' := 117) (st' := [vi ((popM (mset (mset M 55 45 1) 55 44 0)) 55 28), vr 55]) rfl rfl ?_
            rw [show (popM (mset (mset M 55 45 1) 55 44 0)) 55 28 = ((N).length : Int) from RP_N hR682]
            have hR699 : RP M0 (nodeM (popM (mset (mset M 55 45 1) 55 44 0)) 60 x1 (-1) (-1) (M0 75 (k + 1))) (N ++ [(60, x1, (-1), (-1), M0 75 (k + 1))]) Y P o a 1 0 := RP_node hR682
            have hR699N := RP_N hR699
            (try simp only [List.length_cons, List.length_append, List.length_nil] at hR699N)
            have hR699O := RP_O hR699
            (try simp only [List.length_cons, List.length_append, List.length_nil] at hR699O)
            have hR699P := RP_P hR699
            (try simp only [List.length_cons, List.length_append, List.length_nil] at hR699P)
            refine G_callV (K1 := KE) (d2 := 0) (o := 55) (cl := 9) (as := [vi ((N).length : Int)]) (rest := []) d_Mo_behind_117 mf_Mo_push ml_Mo_230 rfl rfl (by decide) rfl rfl (Nat.le_of_ble_eq_true rfl) (by omega) ⟨Nat.le_refl _, Nat.le_refl _⟩ (g_Mo_push (by omega) ((N).length : Int) _ (by omega)) (fun r700 M701 kq702 q702 => ?_)
            clear kq702; obtain ⟨q702a, q702b⟩ := q702; subst r700; subst M701
            refine G_ps (pc' := 120) (st' := []) rfl rfl ?_
            have hR703 : RP M0 (pushM (nodeM (popM (mset (mset M 55 45 1) 55 44 0)) 60 x1 (-1) (-1) (M0 75 (k + 1))) ((N).length : Int)) (N ++ [(60, x1, (-1), (-1), M0 75 (k + 1))]) ((((N).length : Int)) :: Y) P o a 1 0 := RP_push hR699
            have hR703N := RP_N hR703
            (try simp only [List.length_cons, List.length_append, List.length_nil] at hR703N)
            have hR703O := RP_O hR703
            (try simp only [List.length_cons, List.length_append, List.length_nil] at hR703O)
            have hR703P := RP_P hR703
            (try simp only [List.length_cons, List.length_append, List.length_nil] at hR703P)
            refine G_iload (i := 1) (n := 5) (len := 1) (Or.inl ⟨1, rfl, rfl, d_Mo_behind_120⟩) rfl (G_pc (pc' := 121) rfl ?_)
            refine G_iconst (n := 2) d_Mo_behind_121 (by decide) (G_pc (pc' := 122) rfl ?_)
            refine G_iadd d_Mo_behind_122 (by omega) (G_pc (pc' := 123) rfl ?_)
            refine G_iret d_Mo_behind_123 rfl (tokI (by omega)) rfl rfl ?_
            exact Or.inr ⟨_, _, _, _, _, _, _, by unfold behindS; rw [if_pos (by omega)]; unfold dotS; simp only []; first | grind | (simp; grind), rfl, hR703⟩
        · skip
          refine G_iload (i := 4) (n := 0) (len := 2) (Or.inr ⟨rfl, d_Mo_behind_54⟩) rfl (G_pc (pc' := 56) rfl ?_)
          refine G_bipush (n := 14) d_Mo_behind_56 (by decide) (G_pc (pc' := 58) rfl ?_)
          refine G_icmp_eq (tgt := 65) d_Mo_behind_58 (by decide) (fun h704 => ?_) (fun h704 => G_pc (pc' := 61) rfl ?_)
          · skip
            refine G_iconst (n := 0) d_Mo_behind_65 (by decide) (G_pc (pc' := 66) rfl ?_)
            refine G_putL (o := 55) (c := 9) (k := 44) (ki := 44) (x := 0) d_Mo_behind_66 fl_Mo_166 rfl rfl (by decide) (by decide) (by decide) rfl rfl (tokZ (by decide)) rfl (G_pc (pc' := 69) rfl ?_)
            have hR705 : RP M0 (mset (mset M 55 45 1) 55 44 0) N O P o a 1 0 := RP_w hR379
            have hR705N := RP_N hR705
            (try simp only [List.length_cons, List.length_append, List.length_nil] at hR705N)
            have hR705O := RP_O hR705
            (try simp only [List.length_cons, List.length_append, List.length_nil] at hR705O)
            have hR705P := RP_P hR705
            (try simp only [List.length_cons, List.length_append, List.length_nil] at hR705P)
            obtain ⟨x1, Y, rfl⟩ := cons1 (O := O) (by omega)
            simp only [List.length_cons] at *
            refine G_aload (i := 0) (n := 3) (len := 1) (Or.inl ⟨0, rfl, rfl, d_Mo_behind_69⟩) rfl (by decide) (G_pc (pc' := 70) rfl ?_)
            refine G_callV (K1 := KE) (d2 := 0) (o := 55) (cl := 9) (as := []) (rest := []) d_Mo_behind_70 mf_Mo_pop ml_Mo_223 rfl rfl (by decide) rfl rfl (Nat.le_of_ble_eq_true rfl) (by omega) ⟨Nat.le_refl _, Nat.le_refl _⟩ (g_Mo_pop (by omega)  _ (by omega)) (fun r706 M707 kq708 q708 => ?_)
            clear kq708; obtain ⟨q708a, q708b⟩ := q708; subst r706; subst M707
            refine G_ps (pc' := 73) (st' := [vi ((mset (mset M 55 45 1) 55 44 0) 84 ((mset (mset M 55 45 1) 55 44 0) 55 37 - 1))]) rfl rfl ?_
            rw [show (mset (mset M 55 45 1) 55 44 0) 84 ((mset (mset M 55 45 1) 55 44 0) 55 37 - 1) = x1 from (RP_pop hR705).1]
            have hR709 : RP M0 (popM (mset (mset M 55 45 1) 55 44 0)) N Y P o a 1 0 := (RP_pop hR705).2
            have hR709N := RP_N hR709
            (try simp only [List.length_cons, List.length_append, List.length_nil] at hR709N)
            have hR709O := RP_O hR709
            (try simp only [List.length_cons, List.length_append, List.length_nil] at hR709O)
            have hR709P := RP_P hR709
            (try simp only [List.length_cons, List.length_append, List.length_nil] at hR709P)
            refine G_istore (i := 5) (len := 2) (ls' := [(5, vi x1), (4, vi (tkA M0 (k + 1))), (3, vi cl), (2, vi (tkA M0 k)), (0, vr 55), (1, vi k)]) (Or.inr ⟨rfl, d_Mo_behind_73⟩) (by decide) rfl (G_pc (pc' := 75) rfl ?_)
            refine G_aload (i := 0) (n := 4) (len := 1) (Or.inl ⟨0, rfl, rfl, d_Mo_behind_75⟩) rfl (by decide) (G_pc (pc' := 76) rfl ?_)
            refine G_aload (i := 0) (n := 4) (len := 1) (Or.inl ⟨0, rfl, rfl, d_Mo_behind_76⟩) rfl (by decide) (G_pc (pc' := 77) rfl ?_)
            refine G_iload (i := 4) (n := 1) (len := 2) (Or.inr ⟨rfl, d_Mo_behind_77⟩) rfl (G_pc (pc' := 79) rfl ?_)
            refine G_bipush (n := 7) d_Mo_behind_79 (by decide) (G_pc (pc' := 81) rfl ?_)
            refine G_icmp_ne (tgt := 89) d_Mo_behind_81 (by decide) (fun h710 => ?_) (fun h710 => G_pc (pc' := 84) rfl ?_)
            · skip
              refine G_bipush (n := 61) d_Mo_behind_89 (by decide) (G_pc (pc' := 91) rfl ?_)
              refine G_iload (i := 5) (n := 0) (len := 2) (Or.inr ⟨rfl, d_Mo_behind_91⟩) rfl (G_pc (pc' := 93) rfl ?_)
              refine G_iconst (n := (-1)) d_Mo_behind_93 (by decide) (G_pc (pc' := 94) rfl ?_)
              refine G_iconst (n := (-1)) d_Mo_behind_94 (by decide) (G_pc (pc' := 95) rfl ?_)
              refine G_aload (i := 0) (n := 4) (len := 1) (Or.inl ⟨0, rfl, rfl, d_Mo_behind_95⟩) rfl (by decide) (G_pc (pc' := 96) rfl ?_)
              refine G_get (o := 55) (c := 9) (k := 44) (v := (popM (mset (mset M 55 45 1) 55 44 0)) 55 44) d_Mo_behind_96 fl_Mo_166 rfl (by decide) (by decide) rfl rfl (G_pc (pc' := 99) rfl ?_)
              rw [show (popM (mset (mset M 55 45 1) 55 44 0)) 55 44 = 0 from (show (popM (mset (mset M 55 45 1) 55 44 0)) 55 44 = 0 from RP_W hR709)]
              refine G_if_eq (tgt := 106) d_Mo_behind_99 (by decide) (fun h711 => ?_) (fun h711 => absurd h711 (by decide))
              refine G_aload (i := 0) (n := 4) (len := 1) (Or.inl ⟨0, rfl, rfl, d_Mo_behind_106⟩) rfl (by decide) (G_pc (pc' := 107) rfl ?_)
              refine G_get (o := 55) (c := 9) (k := 27) (v := 75) d_Mo_behind_107 fl_Mo_69 rfl (by decide) (by decide) rfl rfl (G_pc (pc' := 110) rfl ?_)
              refine G_iload (i := 1) (n := 5) (len := 1) (Or.inl ⟨1, rfl, rfl, d_Mo_behind_110⟩) rfl (G_pc (pc' := 111) rfl ?_)
              refine G_iconst (n := 1) d_Mo_behind_111 (by decide) (G_pc (pc' := 112) rfl ?_)
              refine G_iadd d_Mo_behind_112 (by omega) (G_pc (pc' := 113) rfl ?_)
              refine G_laload (o := 75) (n := 25) (i := k + 1) (v := (popM (mset (mset M 55 45 1) 55 44 0)) 75 (k + 1)) d_Mo_behind_113 rfl ⟨by decide, by decide⟩ (by omega) (rd_arr rfl) (fun t712 => G_pc (pc' := 114) rfl ?_)
              have t712 := tok_l t712
              rw [show (popM (mset (mset M 55 45 1) 55 44 0)) 75 (k + 1) = M0 75 (k + 1) from RP_v hR709]
              refine G_callV (K1 := KE) (d2 := 0) (o := 55) (cl := 9) (as := [vi 61, vi x1, vi (-1), vi (-1), vl (M0 75 (k + 1))]) (rest := [vr 55]) d_Mo_behind_114 mf_Mo_node ml_Mo_226 rfl rfl (by decide) rfl rfl (Nat.le_of_ble_eq_true rfl) (by omega) ⟨Nat.le_refl _, Nat.le_refl _⟩ (g_Mo_node (by omega) 61 x1 (-1) (-1) (M0 75 (k + 1)) _ (by omega)) (fun r713 M714 kq715 q715 => ?_)
              clear kq715; obtain ⟨q715a, q715b⟩ := q715; subst r713; subst M714
              refine G_ps (pc' := 117) (st' := [vi ((popM (mset (mset M 55 45 1) 55 44 0)) 55 28), vr 55]) rfl rfl ?_
              rw [show (popM (mset (mset M 55 45 1) 55 44 0)) 55 28 = ((N).length : Int) from RP_N hR709]
              have hR716 : RP M0 (nodeM (popM (mset (mset M 55 45 1) 55 44 0)) 61 x1 (-1) (-1) (M0 75 (k + 1))) (N ++ [(61, x1, (-1), (-1), M0 75 (k + 1))]) Y P o a 1 0 := RP_node hR709
              have hR716N := RP_N hR716
              (try simp only [List.length_cons, List.length_append, List.length_nil] at hR716N)
              have hR716O := RP_O hR716
              (try simp only [List.length_cons, List.length_append, List.length_nil] at hR716O)
              have hR716P := RP_P hR716
              (try simp only [List.length_cons, List.length_append, List.length_nil] at hR716P)
              refine G_callV (K1 := KE) (d2 := 0) (o := 55) (cl := 9) (as := [vi ((N).length : Int)]) (rest := []) d_Mo_behind_117 mf_Mo_push ml_Mo_230 rfl rfl (by decide) rfl rfl (Nat.le_of_ble_eq_true rfl) (by omega) ⟨Nat.le_refl _, Nat.le_refl _⟩ (g_Mo_push (by omega) ((N).length : Int) _ (by omega)) (fun r717 M718 kq719 q719 => ?_)
              clear kq719; obtain ⟨q719a, q719b⟩ := q719; subst r717; subst M718
              refine G_ps (pc' := 120) (st' := []) rfl rfl ?_
              have hR720 : RP M0 (pushM (nodeM (popM (mset (mset M 55 45 1) 55 44 0)) 61 x1 (-1) (-1) (M0 75 (k + 1))) ((N).length : Int)) (N ++ [(61, x1, (-1), (-1), M0 75 (k + 1))]) ((((N).length : Int)) :: Y) P o a 1 0 := RP_push hR716
              have hR720N := RP_N hR720
              (try simp only [List.length_cons, List.length_append, List.length_nil] at hR720N)
              have hR720O := RP_O hR720
              (try simp only [List.length_cons, List.length_append, List.length_nil] at hR720O)
              have hR720P := RP_P hR720
              (try simp only [List.length_cons, List.length_append, List.length_nil] at hR720P)
              refine G_iload (i := 1) (n := 5) (len := 1) (Or.inl ⟨1, rfl, rfl, d_Mo_behind_120⟩) rfl (G_pc (pc' := 121) rfl ?_)
              refine G_iconst (n := 2) d_Mo_behind_121 (by decide) (G_pc (pc' := 122) rfl ?_)
              refine G_iadd d_Mo_behind_122 (by omega) (G_pc (pc' := 123) rfl ?_)
              refine G_iret d_Mo_behind_123 rfl (tokI (by omega)) rfl rfl ?_
              exact Or.inr ⟨_, _, _, _, _, _, _, by unfold behindS; rw [if_pos (by omega)]; unfold dotS; simp only []; first | grind | (simp; grind), rfl, hR720⟩
            · skip
              refine G_bipush (n := 60) d_Mo_behind_84 (by decide) (G_pc (pc' := 86) rfl ?_)
              refine G_goto (tgt := 91) d_Mo_behind_86 (by decide) ?_
              refine G_iload (i := 5) (n := 0) (len := 2) (Or.inr ⟨rfl, d_Mo_behind_91⟩) rfl (G_pc (pc' := 93) rfl ?_)
              refine G_iconst (n := (-1)) d_Mo_behind_93 (by decide) (G_pc (pc' := 94) rfl ?_)
              refine G_iconst (n := (-1)) d_Mo_behind_94 (by decide) (G_pc (pc' := 95) rfl ?_)
              refine G_aload (i := 0) (n := 4) (len := 1) (Or.inl ⟨0, rfl, rfl, d_Mo_behind_95⟩) rfl (by decide) (G_pc (pc' := 96) rfl ?_)
              refine G_get (o := 55) (c := 9) (k := 44) (v := (popM (mset (mset M 55 45 1) 55 44 0)) 55 44) d_Mo_behind_96 fl_Mo_166 rfl (by decide) (by decide) rfl rfl (G_pc (pc' := 99) rfl ?_)
              rw [show (popM (mset (mset M 55 45 1) 55 44 0)) 55 44 = 0 from (show (popM (mset (mset M 55 45 1) 55 44 0)) 55 44 = 0 from RP_W hR709)]
              refine G_if_eq (tgt := 106) d_Mo_behind_99 (by decide) (fun h721 => ?_) (fun h721 => absurd h721 (by decide))
              refine G_aload (i := 0) (n := 4) (len := 1) (Or.inl ⟨0, rfl, rfl, d_Mo_behind_106⟩) rfl (by decide) (G_pc (pc' := 107) rfl ?_)
              refine G_get (o := 55) (c := 9) (k := 27) (v := 75) d_Mo_behind_107 fl_Mo_69 rfl (by decide) (by decide) rfl rfl (G_pc (pc' := 110) rfl ?_)
              refine G_iload (i := 1) (n := 5) (len := 1) (Or.inl ⟨1, rfl, rfl, d_Mo_behind_110⟩) rfl (G_pc (pc' := 111) rfl ?_)
              refine G_iconst (n := 1) d_Mo_behind_111 (by decide) (G_pc (pc' := 112) rfl ?_)
              refine G_iadd d_Mo_behind_112 (by omega) (G_pc (pc' := 113) rfl ?_)
              refine G_laload (o := 75) (n := 25) (i := k + 1) (v := (popM (mset (mset M 55 45 1) 55 44 0)) 75 (k + 1)) d_Mo_behind_113 rfl ⟨by decide, by decide⟩ (by omega) (rd_arr rfl) (fun t722 => G_pc (pc' := 114) rfl ?_)
              have t722 := tok_l t722
              rw [show (popM (mset (mset M 55 45 1) 55 44 0)) 75 (k + 1) = M0 75 (k + 1) from RP_v hR709]
              refine G_callV (K1 := KE) (d2 := 0) (o := 55) (cl := 9) (as := [vi 60, vi x1, vi (-1), vi (-1), vl (M0 75 (k + 1))]) (rest := [vr 55]) d_Mo_behind_114 mf_Mo_node ml_Mo_226 rfl rfl (by decide) rfl rfl (Nat.le_of_ble_eq_true rfl) (by omega) ⟨Nat.le_refl _, Nat.le_refl _⟩ (g_Mo_node (by omega) 60 x1 (-1) (-1) (M0 75 (k + 1)) _ (by omega)) (fun r723 M724 kq725 q725 => ?_)
              clear kq725; obtain ⟨q725a, q725b⟩ := q725; subst r723; subst M724
              refine G_ps (pc' := 117) (st' := [vi ((popM (mset (mset M 55 45 1) 55 44 0)) 55 28), vr 55]) rfl rfl ?_
              rw [show (popM (mset (mset M 55 45 1) 55 44 0)) 55 28 = ((N).length : Int) from RP_N hR709]
              have hR726 : RP M0 (nodeM (popM (mset (mset M 55 45 1) 55 44 0)) 60 x1 (-1) (-1) (M0 75 (k + 1))) (N ++ [(60, x1, (-1), (-1), M0 75 (k + 1))]) Y P o a 1 0 := RP_node hR709
              have hR726N := RP_N hR726
              (try simp only [List.length_cons, List.length_append, List.length_nil] at hR726N)
              have hR726O := RP_O hR726
              (try simp only [List.length_cons, List.length_append, List.length_nil] at hR726O)
              have hR726P := RP_P hR726
              (try simp only [List.length_cons, List.length_append, List.length_nil] at hR726P)
              refine G_callV (K1 := KE) (d2 := 0) (o := 55) (cl := 9) (as := [vi ((N).length : Int)]) (rest := []) d_Mo_behind_117 mf_Mo_push ml_Mo_230 rfl rfl (by decide) rfl rfl (Nat.le_of_ble_eq_true rfl) (by omega) ⟨Nat.le_refl _, Nat.le_refl _⟩ (g_Mo_push (by omega) ((N).length : Int) _ (by omega)) (fun r727 M728 kq729 q729 => ?_)
              clear kq729; obtain ⟨q729a, q729b⟩ := q729; subst r727; subst M728
              refine G_ps (pc' := 120) (st' := []) rfl rfl ?_
              have hR730 : RP M0 (pushM (nodeM (popM (mset (mset M 55 45 1) 55 44 0)) 60 x1 (-1) (-1) (M0 75 (k + 1))) ((N).length : Int)) (N ++ [(60, x1, (-1), (-1), M0 75 (k + 1))]) ((((N).length : Int)) :: Y) P o a 1 0 := RP_push hR726
              have hR730N := RP_N hR730
              (try simp only [List.length_cons, List.length_append, List.length_nil] at hR730N)
              have hR730O := RP_O hR730
              (try simp only [List.length_cons, List.length_append, List.length_nil] at hR730O)
              have hR730P := RP_P hR730
              (try simp only [List.length_cons, List.length_append, List.length_nil] at hR730P)
              refine G_iload (i := 1) (n := 5) (len := 1) (Or.inl ⟨1, rfl, rfl, d_Mo_behind_120⟩) rfl (G_pc (pc' := 121) rfl ?_)
              refine G_iconst (n := 2) d_Mo_behind_121 (by decide) (G_pc (pc' := 122) rfl ?_)
              refine G_iadd d_Mo_behind_122 (by omega) (G_pc (pc' := 123) rfl ?_)
              refine G_iret d_Mo_behind_123 rfl (tokI (by omega)) rfl rfl ?_
              exact Or.inr ⟨_, _, _, _, _, _, _, by unfold behindS; rw [if_pos (by omega)]; unfold dotS; simp only []; first | grind | (simp; grind), rfl, hR730⟩
          · skip
            refine G_iconst (n := 1) d_Mo_behind_61 (by decide) (G_pc (pc' := 62) rfl ?_)
            refine G_goto (tgt := 66) d_Mo_behind_62 (by decide) ?_
            refine G_putL (o := 55) (c := 9) (k := 44) (ki := 44) (x := 1) d_Mo_behind_66 fl_Mo_166 rfl rfl (by decide) (by decide) (by decide) rfl rfl (tokZ (by decide)) rfl (G_pc (pc' := 69) rfl ?_)
            have hR731 : RP M0 (mset (mset M 55 45 1) 55 44 1) N O P o a 1 1 := RP_w hR379
            have hR731N := RP_N hR731
            (try simp only [List.length_cons, List.length_append, List.length_nil] at hR731N)
            have hR731O := RP_O hR731
            (try simp only [List.length_cons, List.length_append, List.length_nil] at hR731O)
            have hR731P := RP_P hR731
            (try simp only [List.length_cons, List.length_append, List.length_nil] at hR731P)
            obtain ⟨x1, Y, rfl⟩ := cons1 (O := O) (by omega)
            simp only [List.length_cons] at *
            refine G_aload (i := 0) (n := 3) (len := 1) (Or.inl ⟨0, rfl, rfl, d_Mo_behind_69⟩) rfl (by decide) (G_pc (pc' := 70) rfl ?_)
            refine G_callV (K1 := KE) (d2 := 0) (o := 55) (cl := 9) (as := []) (rest := []) d_Mo_behind_70 mf_Mo_pop ml_Mo_223 rfl rfl (by decide) rfl rfl (Nat.le_of_ble_eq_true rfl) (by omega) ⟨Nat.le_refl _, Nat.le_refl _⟩ (g_Mo_pop (by omega)  _ (by omega)) (fun r732 M733 kq734 q734 => ?_)
            clear kq734; obtain ⟨q734a, q734b⟩ := q734; subst r732; subst M733
            refine G_ps (pc' := 73) (st' := [vi ((mset (mset M 55 45 1) 55 44 1) 84 ((mset (mset M 55 45 1) 55 44 1) 55 37 - 1))]) rfl rfl ?_
            rw [show (mset (mset M 55 45 1) 55 44 1) 84 ((mset (mset M 55 45 1) 55 44 1) 55 37 - 1) = x1 from (RP_pop hR731).1]
            have hR735 : RP M0 (popM (mset (mset M 55 45 1) 55 44 1)) N Y P o a 1 1 := (RP_pop hR731).2
            have hR735N := RP_N hR735
            (try simp only [List.length_cons, List.length_append, List.length_nil] at hR735N)
            have hR735O := RP_O hR735
            (try simp only [List.length_cons, List.length_append, List.length_nil] at hR735O)
            have hR735P := RP_P hR735
            (try simp only [List.length_cons, List.length_append, List.length_nil] at hR735P)
            refine G_istore (i := 5) (len := 2) (ls' := [(5, vi x1), (4, vi (tkA M0 (k + 1))), (3, vi cl), (2, vi (tkA M0 k)), (0, vr 55), (1, vi k)]) (Or.inr ⟨rfl, d_Mo_behind_73⟩) (by decide) rfl (G_pc (pc' := 75) rfl ?_)
            refine G_aload (i := 0) (n := 4) (len := 1) (Or.inl ⟨0, rfl, rfl, d_Mo_behind_75⟩) rfl (by decide) (G_pc (pc' := 76) rfl ?_)
            refine G_aload (i := 0) (n := 4) (len := 1) (Or.inl ⟨0, rfl, rfl, d_Mo_behind_76⟩) rfl (by decide) (G_pc (pc' := 77) rfl ?_)
            refine G_iload (i := 4) (n := 1) (len := 2) (Or.inr ⟨rfl, d_Mo_behind_77⟩) rfl (G_pc (pc' := 79) rfl ?_)
            refine G_bipush (n := 7) d_Mo_behind_79 (by decide) (G_pc (pc' := 81) rfl ?_)
            refine G_icmp_ne (tgt := 89) d_Mo_behind_81 (by decide) (fun h736 => ?_) (fun h736 => G_pc (pc' := 84) rfl ?_)
            · skip
              refine G_bipush (n := 61) d_Mo_behind_89 (by decide) (G_pc (pc' := 91) rfl ?_)
              refine G_iload (i := 5) (n := 0) (len := 2) (Or.inr ⟨rfl, d_Mo_behind_91⟩) rfl (G_pc (pc' := 93) rfl ?_)
              refine G_iconst (n := (-1)) d_Mo_behind_93 (by decide) (G_pc (pc' := 94) rfl ?_)
              refine G_iconst (n := (-1)) d_Mo_behind_94 (by decide) (G_pc (pc' := 95) rfl ?_)
              refine G_aload (i := 0) (n := 4) (len := 1) (Or.inl ⟨0, rfl, rfl, d_Mo_behind_95⟩) rfl (by decide) (G_pc (pc' := 96) rfl ?_)
              refine G_get (o := 55) (c := 9) (k := 44) (v := (popM (mset (mset M 55 45 1) 55 44 1)) 55 44) d_Mo_behind_96 fl_Mo_166 rfl (by decide) (by decide) rfl rfl (G_pc (pc' := 99) rfl ?_)
              rw [show (popM (mset (mset M 55 45 1) 55 44 1)) 55 44 = 1 from (show (popM (mset (mset M 55 45 1) 55 44 1)) 55 44 = 1 from RP_W hR735)]
              refine G_if_eq (tgt := 106) d_Mo_behind_99 (by decide) (fun h737 => absurd h737 (by decide)) (fun h737 => G_pc (pc' := 102) rfl ?_)
              refine G_lconst0 d_Mo_behind_102 (G_pc (pc' := 103) rfl ?_)
              refine G_goto (tgt := 114) d_Mo_behind_103 (by decide) ?_
              refine G_callV (K1 := KE) (d2 := 0) (o := 55) (cl := 9) (as := [vi 61, vi x1, vi (-1), vi (-1), vl 0]) (rest := [vr 55]) d_Mo_behind_114 mf_Mo_node ml_Mo_226 rfl rfl (by decide) rfl rfl (Nat.le_of_ble_eq_true rfl) (by omega) ⟨Nat.le_refl _, Nat.le_refl _⟩ (g_Mo_node (by omega) 61 x1 (-1) (-1) 0 _ (by omega)) (fun r738 M739 kq740 q740 => ?_)
              clear kq740; obtain ⟨q740a, q740b⟩ := q740; subst r738; subst M739
              refine G_ps (pc' := 117) (st' := [vi ((popM (mset (mset M 55 45 1) 55 44 1)) 55 28), vr 55]) rfl rfl ?_
              rw [show (popM (mset (mset M 55 45 1) 55 44 1)) 55 28 = ((N).length : Int) from RP_N hR735]
              have hR741 : RP M0 (nodeM (popM (mset (mset M 55 45 1) 55 44 1)) 61 x1 (-1) (-1) 0) (N ++ [(61, x1, (-1), (-1), 0)]) Y P o a 1 1 := RP_node hR735
              have hR741N := RP_N hR741
              (try simp only [List.length_cons, List.length_append, List.length_nil] at hR741N)
              have hR741O := RP_O hR741
              (try simp only [List.length_cons, List.length_append, List.length_nil] at hR741O)
              have hR741P := RP_P hR741
              (try simp only [List.length_cons, List.length_append, List.length_nil] at hR741P)
              refine G_callV (K1 := KE) (d2 := 0) (o := 55) (cl := 9) (as := [vi ((N).length : Int)]) (rest := []) d_Mo_behind_117 mf_Mo_push ml_Mo_230 rfl rfl (by decide) rfl rfl (Nat.le_of_ble_eq_true rfl) (by omega) ⟨Nat.le_refl _, Nat.le_refl _⟩ (g_Mo_push (by omega) ((N).length : Int) _ (by omega)) (fun r742 M743 kq744 q744 => ?_)
              clear kq744; obtain ⟨q744a, q744b⟩ := q744; subst r742; subst M743
              refine G_ps (pc' := 120) (st' := []) rfl rfl ?_
              have hR745 : RP M0 (pushM (nodeM (popM (mset (mset M 55 45 1) 55 44 1)) 61 x1 (-1) (-1) 0) ((N).length : Int)) (N ++ [(61, x1, (-1), (-1), 0)]) ((((N).length : Int)) :: Y) P o a 1 1 := RP_push hR741
              have hR745N := RP_N hR745
              (try simp only [List.length_cons, List.length_append, List.length_nil] at hR745N)
              have hR745O := RP_O hR745
              (try simp only [List.length_cons, List.length_append, List.length_nil] at hR745O)
              have hR745P := RP_P hR745
              (try simp only [List.length_cons, List.length_append, List.length_nil] at hR745P)
              refine G_iload (i := 1) (n := 5) (len := 1) (Or.inl ⟨1, rfl, rfl, d_Mo_behind_120⟩) rfl (G_pc (pc' := 121) rfl ?_)
              refine G_iconst (n := 2) d_Mo_behind_121 (by decide) (G_pc (pc' := 122) rfl ?_)
              refine G_iadd d_Mo_behind_122 (by omega) (G_pc (pc' := 123) rfl ?_)
              refine G_iret d_Mo_behind_123 rfl (tokI (by omega)) rfl rfl ?_
              exact Or.inl ⟨by unfold behindS; rw [if_pos (by omega)]; unfold dotS; simp only []; first | grind | (simp; grind), hR745.1, RP_W hR745, _, rfl⟩
            · skip
              refine G_bipush (n := 60) d_Mo_behind_84 (by decide) (G_pc (pc' := 86) rfl ?_)
              refine G_goto (tgt := 91) d_Mo_behind_86 (by decide) ?_
              refine G_iload (i := 5) (n := 0) (len := 2) (Or.inr ⟨rfl, d_Mo_behind_91⟩) rfl (G_pc (pc' := 93) rfl ?_)
              refine G_iconst (n := (-1)) d_Mo_behind_93 (by decide) (G_pc (pc' := 94) rfl ?_)
              refine G_iconst (n := (-1)) d_Mo_behind_94 (by decide) (G_pc (pc' := 95) rfl ?_)
              refine G_aload (i := 0) (n := 4) (len := 1) (Or.inl ⟨0, rfl, rfl, d_Mo_behind_95⟩) rfl (by decide) (G_pc (pc' := 96) rfl ?_)
              refine G_get (o := 55) (c := 9) (k := 44) (v := (popM (mset (mset M 55 45 1) 55 44 1)) 55 44) d_Mo_behind_96 fl_Mo_166 rfl (by decide) (by decide) rfl rfl (G_pc (pc' := 99) rfl ?_)
              rw [show (popM (mset (mset M 55 45 1) 55 44 1)) 55 44 = 1 from (show (popM (mset (mset M 55 45 1) 55 44 1)) 55 44 = 1 from RP_W hR735)]
              refine G_if_eq (tgt := 106) d_Mo_behind_99 (by decide) (fun h746 => absurd h746 (by decide)) (fun h746 => G_pc (pc' := 102) rfl ?_)
              refine G_lconst0 d_Mo_behind_102 (G_pc (pc' := 103) rfl ?_)
              refine G_goto (tgt := 114) d_Mo_behind_103 (by decide) ?_
              refine G_callV (K1 := KE) (d2 := 0) (o := 55) (cl := 9) (as := [vi 60, vi x1, vi (-1), vi (-1), vl 0]) (rest := [vr 55]) d_Mo_behind_114 mf_Mo_node ml_Mo_226 rfl rfl (by decide) rfl rfl (Nat.le_of_ble_eq_true rfl) (by omega) ⟨Nat.le_refl _, Nat.le_refl _⟩ (g_Mo_node (by omega) 60 x1 (-1) (-1) 0 _ (by omega)) (fun r747 M748 kq749 q749 => ?_)
              clear kq749; obtain ⟨q749a, q749b⟩ := q749; subst r747; subst M748
              refine G_ps (pc' := 117) (st' := [vi ((popM (mset (mset M 55 45 1) 55 44 1)) 55 28), vr 55]) rfl rfl ?_
              rw [show (popM (mset (mset M 55 45 1) 55 44 1)) 55 28 = ((N).length : Int) from RP_N hR735]
              have hR750 : RP M0 (nodeM (popM (mset (mset M 55 45 1) 55 44 1)) 60 x1 (-1) (-1) 0) (N ++ [(60, x1, (-1), (-1), 0)]) Y P o a 1 1 := RP_node hR735
              have hR750N := RP_N hR750
              (try simp only [List.length_cons, List.length_append, List.length_nil] at hR750N)
              have hR750O := RP_O hR750
              (try simp only [List.length_cons, List.length_append, List.length_nil] at hR750O)
              have hR750P := RP_P hR750
              (try simp only [List.length_cons, List.length_append, List.length_nil] at hR750P)
              refine G_callV (K1 := KE) (d2 := 0) (o := 55) (cl := 9) (as := [vi ((N).length : Int)]) (rest := []) d_Mo_behind_117 mf_Mo_push ml_Mo_230 rfl rfl (by decide) rfl rfl (Nat.le_of_ble_eq_true rfl) (by omega) ⟨Nat.le_refl _, Nat.le_refl _⟩ (g_Mo_push (by omega) ((N).length : Int) _ (by omega)) (fun r751 M752 kq753 q753 => ?_)
              clear kq753; obtain ⟨q753a, q753b⟩ := q753; subst r751; subst M752
              refine G_ps (pc' := 120) (st' := []) rfl rfl ?_
              have hR754 : RP M0 (pushM (nodeM (popM (mset (mset M 55 45 1) 55 44 1)) 60 x1 (-1) (-1) 0) ((N).length : Int)) (N ++ [(60, x1, (-1), (-1), 0)]) ((((N).length : Int)) :: Y) P o a 1 1 := RP_push hR750
              have hR754N := RP_N hR754
              (try simp only [List.length_cons, List.length_append, List.length_nil] at hR754N)
              have hR754O := RP_O hR754
              (try simp only [List.length_cons, List.length_append, List.length_nil] at hR754O)
              have hR754P := RP_P hR754
              (try simp only [List.length_cons, List.length_append, List.length_nil] at hR754P)
              refine G_iload (i := 1) (n := 5) (len := 1) (Or.inl ⟨1, rfl, rfl, d_Mo_behind_120⟩) rfl (G_pc (pc' := 121) rfl ?_)
              refine G_iconst (n := 2) d_Mo_behind_121 (by decide) (G_pc (pc' := 122) rfl ?_)
              refine G_iadd d_Mo_behind_122 (by omega) (G_pc (pc' := 123) rfl ?_)
              refine G_iret d_Mo_behind_123 rfl (tokI (by omega)) rfl rfl ?_
              exact Or.inl ⟨by unfold behindS; rw [if_pos (by omega)]; unfold dotS; simp only []; first | grind | (simp; grind), hR754.1, RP_W hR754, _, rfl⟩

