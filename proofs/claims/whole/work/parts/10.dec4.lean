theorem d_Md_finds_0 : decode b_Md_finds 0 = .ok (.aload_n 0, 1) := by decide +kernel
theorem d_Md_finds_1 : decode b_Md_finds 1 = .ok (.aload_n 0, 1) := by decide +kernel
theorem d_Md_finds_2 : decode b_Md_finds 2 = .ok (.getfield 36, 3) := by decide +kernel
theorem d_Md_finds_5 : decode b_Md_finds 5 = .ok (.iload_n 1, 1) := by decide +kernel
theorem d_Md_finds_6 : decode b_Md_finds 6 = .ok (.iaload, 1) := by decide +kernel
theorem d_Md_finds_7 : decode b_Md_finds 7 = .ok (.invokevirtual 106, 3) := by decide +kernel
theorem d_Md_finds_10 : decode b_Md_finds 10 = .ok (.istore 4, 2) := by decide +kernel
theorem d_Md_finds_12 : decode b_Md_finds 12 = .ok (.aload_n 0, 1) := by decide +kernel
theorem d_Md_finds_13 : decode b_Md_finds 13 = .ok (.aload_n 0, 1) := by decide +kernel
theorem d_Md_finds_14 : decode b_Md_finds 14 = .ok (.getfield 39, 3) := by decide +kernel
theorem d_Md_finds_17 : decode b_Md_finds 17 = .ok (.iload_n 1, 1) := by decide +kernel
theorem d_Md_finds_18 : decode b_Md_finds 18 = .ok (.iaload, 1) := by decide +kernel
theorem d_Md_finds_19 : decode b_Md_finds 19 = .ok (.invokevirtual 106, 3) := by decide +kernel
theorem d_Md_finds_22 : decode b_Md_finds 22 = .ok (.istore 5, 2) := by decide +kernel
theorem d_Md_finds_24 : decode b_Md_finds 24 = .ok (.iload_n 2, 1) := by decide +kernel
theorem d_Md_finds_25 : decode b_Md_finds 25 = .ok (.iconst 2, 1) := by decide +kernel
theorem d_Md_finds_26 : decode b_Md_finds 26 = .ok (.if_icmp .ne 11, 3) := by decide +kernel
theorem d_Md_finds_29 : decode b_Md_finds 29 = .ok (.iload 5, 2) := by decide +kernel
theorem d_Md_finds_31 : decode b_Md_finds 31 = .ok (.iconst (-1), 1) := by decide +kernel
theorem d_Md_finds_32 : decode b_Md_finds 32 = .ok (.if_icmp .ne 5, 3) := by decide +kernel
theorem d_Md_finds_35 : decode b_Md_finds 35 = .ok (.iconst 5, 1) := by decide +kernel
theorem d_Md_finds_36 : decode b_Md_finds 36 = .ok (.ireturn, 1) := by decide +kernel
theorem d_Md_finds_37 : decode b_Md_finds 37 = .ok (.iload_n 2, 1) := by decide +kernel
theorem d_Md_finds_38 : decode b_Md_finds 38 = .ok (.iconst 2, 1) := by decide +kernel
theorem d_Md_finds_39 : decode b_Md_finds 39 = .ok (.if_icmp .ne 30, 3) := by decide +kernel
theorem d_Md_finds_42 : decode b_Md_finds 42 = .ok (.iload 4, 2) := by decide +kernel
theorem d_Md_finds_44 : decode b_Md_finds 44 = .ok (.iconst (-1), 1) := by decide +kernel
theorem d_Md_finds_45 : decode b_Md_finds 45 = .ok (.if_icmp .eq 24, 3) := by decide +kernel
theorem d_Md_finds_48 : decode b_Md_finds 48 = .ok (.aload_n 0, 1) := by decide +kernel
theorem d_Md_finds_49 : decode b_Md_finds 49 = .ok (.iload 4, 2) := by decide +kernel
theorem d_Md_finds_51 : decode b_Md_finds 51 = .ok (.aload_n 0, 1) := by decide +kernel
theorem d_Md_finds_52 : decode b_Md_finds 52 = .ok (.iload 5, 2) := by decide +kernel
theorem d_Md_finds_54 : decode b_Md_finds 54 = .ok (.invokevirtual 77, 3) := by decide +kernel
theorem d_Md_finds_57 : decode b_Md_finds 57 = .ok (.invokevirtual 81, 3) := by decide +kernel
theorem d_Md_finds_60 : decode b_Md_finds 60 = .ok (.iload 5, 2) := by decide +kernel
theorem d_Md_finds_62 : decode b_Md_finds 62 = .ok (.if_icmp .ne 7, 3) := by decide +kernel
theorem d_Md_finds_65 : decode b_Md_finds 65 = .ok (.iconst 1, 1) := by decide +kernel
theorem d_Md_finds_66 : decode b_Md_finds 66 = .ok (.goto 4, 3) := by decide +kernel
theorem d_Md_finds_69 : decode b_Md_finds 69 = .ok (.iconst 0, 1) := by decide +kernel
theorem d_Md_finds_70 : decode b_Md_finds 70 = .ok (.istore 6, 2) := by decide +kernel
theorem d_Md_finds_72 : decode b_Md_finds 72 = .ok (.iload_n 2, 1) := by decide +kernel
theorem d_Md_finds_73 : decode b_Md_finds 73 = .ok (.ifCond .ne 7, 3) := by decide +kernel
theorem d_Md_finds_76 : decode b_Md_finds 76 = .ok (.iconst 0, 1) := by decide +kernel
theorem d_Md_finds_77 : decode b_Md_finds 77 = .ok (.goto 31, 3) := by decide +kernel
theorem d_Md_finds_80 : decode b_Md_finds 80 = .ok (.iload_n 2, 1) := by decide +kernel
theorem d_Md_finds_81 : decode b_Md_finds 81 = .ok (.iconst 1, 1) := by decide +kernel
theorem d_Md_finds_82 : decode b_Md_finds 82 = .ok (.if_icmp .ne 10, 3) := by decide +kernel
theorem d_Md_finds_85 : decode b_Md_finds 85 = .ok (.iload 4, 2) := by decide +kernel
theorem d_Md_finds_87 : decode b_Md_finds 87 = .ok (.iconst 1, 1) := by decide +kernel
theorem d_Md_finds_88 : decode b_Md_finds 88 = .ok (.iadd, 1) := by decide +kernel
theorem d_Md_finds_89 : decode b_Md_finds 89 = .ok (.goto 19, 3) := by decide +kernel
theorem d_Md_finds_92 : decode b_Md_finds 92 = .ok (.iload 6, 2) := by decide +kernel
theorem d_Md_finds_94 : decode b_Md_finds 94 = .ok (.ifCond .eq 10, 3) := by decide +kernel
theorem d_Md_finds_97 : decode b_Md_finds 97 = .ok (.iload 4, 2) := by decide +kernel
theorem d_Md_finds_99 : decode b_Md_finds 99 = .ok (.iconst 1, 1) := by decide +kernel
theorem d_Md_finds_100 : decode b_Md_finds 100 = .ok (.iadd, 1) := by decide +kernel
theorem d_Md_finds_101 : decode b_Md_finds 101 = .ok (.goto 7, 3) := by decide +kernel
theorem d_Md_finds_104 : decode b_Md_finds 104 = .ok (.iload 5, 2) := by decide +kernel
theorem d_Md_finds_106 : decode b_Md_finds 106 = .ok (.iconst 1, 1) := by decide +kernel
theorem d_Md_finds_107 : decode b_Md_finds 107 = .ok (.iadd, 1) := by decide +kernel
theorem d_Md_finds_108 : decode b_Md_finds 108 = .ok (.istore 7, 2) := by decide +kernel
theorem d_Md_finds_110 : decode b_Md_finds 110 = .ok (.aload_n 0, 1) := by decide +kernel
theorem d_Md_finds_111 : decode b_Md_finds 111 = .ok (.iload 7, 2) := by decide +kernel
theorem d_Md_finds_113 : decode b_Md_finds 113 = .ok (.iload_n 2, 1) := by decide +kernel
theorem d_Md_finds_114 : decode b_Md_finds 114 = .ok (.iconst 2, 1) := by decide +kernel
theorem d_Md_finds_115 : decode b_Md_finds 115 = .ok (.if_icmp .ne 12, 3) := by decide +kernel
theorem d_Md_finds_118 : decode b_Md_finds 118 = .ok (.aload_n 0, 1) := by decide +kernel
theorem d_Md_finds_119 : decode b_Md_finds 119 = .ok (.iload 5, 2) := by decide +kernel
theorem d_Md_finds_121 : decode b_Md_finds 121 = .ok (.invokevirtual 85, 3) := by decide +kernel
theorem d_Md_finds_124 : decode b_Md_finds 124 = .ok (.goto 7, 3) := by decide +kernel
theorem d_Md_finds_127 : decode b_Md_finds 127 = .ok (.aload_n 0, 1) := by decide +kernel
theorem d_Md_finds_128 : decode b_Md_finds 128 = .ok (.getfield 74, 3) := by decide +kernel
theorem d_Md_finds_131 : decode b_Md_finds 131 = .ok (.iload_n 3, 1) := by decide +kernel
theorem d_Md_finds_132 : decode b_Md_finds 132 = .ok (.iload 4, 2) := by decide +kernel
theorem d_Md_finds_134 : decode b_Md_finds 134 = .ok (.invokevirtual 109, 3) := by decide +kernel
theorem d_Md_finds_137 : decode b_Md_finds 137 = .ok (.istore 8, 2) := by decide +kernel
theorem d_Md_finds_139 : decode b_Md_finds 139 = .ok (.iload 8, 2) := by decide +kernel
theorem d_Md_finds_141 : decode b_Md_finds 141 = .ok (.iconst (-1), 1) := by decide +kernel
theorem d_Md_finds_142 : decode b_Md_finds 142 = .ok (.if_icmp .ne 15, 3) := by decide +kernel
theorem d_Md_finds_145 : decode b_Md_finds 145 = .ok (.iload_n 2, 1) := by decide +kernel
theorem d_Md_finds_146 : decode b_Md_finds 146 = .ok (.iconst 1, 1) := by decide +kernel
theorem d_Md_finds_147 : decode b_Md_finds 147 = .ok (.if_icmp .ne 10, 3) := by decide +kernel
theorem d_Md_finds_150 : decode b_Md_finds 150 = .ok (.aload_n 0, 1) := by decide +kernel
theorem d_Md_finds_151 : decode b_Md_finds 151 = .ok (.getfield 36, 3) := by decide +kernel
theorem d_Md_finds_154 : decode b_Md_finds 154 = .ok (.iload_n 1, 1) := by decide +kernel
theorem d_Md_finds_155 : decode b_Md_finds 155 = .ok (.iconst 0, 1) := by decide +kernel
theorem d_Md_finds_156 : decode b_Md_finds 156 = .ok (.iastore, 1) := by decide +kernel
theorem d_Md_finds_157 : decode b_Md_finds 157 = .ok (.iload 8, 2) := by decide +kernel
theorem d_Md_finds_159 : decode b_Md_finds 159 = .ok (.iconst (-1), 1) := by decide +kernel
theorem d_Md_finds_160 : decode b_Md_finds 160 = .ok (.if_icmp .ne 14, 3) := by decide +kernel
theorem d_Md_finds_163 : decode b_Md_finds 163 = .ok (.iload_n 2, 1) := by decide +kernel
theorem d_Md_finds_164 : decode b_Md_finds 164 = .ok (.iconst 1, 1) := by decide +kernel
theorem d_Md_finds_165 : decode b_Md_finds 165 = .ok (.if_icmp .ne 7, 3) := by decide +kernel
theorem d_Md_finds_168 : decode b_Md_finds 168 = .ok (.iconst 2, 1) := by decide +kernel
theorem d_Md_finds_169 : decode b_Md_finds 169 = .ok (.goto 4, 3) := by decide +kernel
theorem d_Md_finds_172 : decode b_Md_finds 172 = .ok (.iconst 1, 1) := by decide +kernel
theorem d_Md_finds_173 : decode b_Md_finds 173 = .ok (.ireturn, 1) := by decide +kernel
theorem d_Md_finds_174 : decode b_Md_finds 174 = .ok (.iconst 0, 1) := by decide +kernel
theorem d_Md_finds_175 : decode b_Md_finds 175 = .ok (.istore 9, 2) := by decide +kernel
theorem d_Md_finds_177 : decode b_Md_finds 177 = .ok (.iload_n 2, 1) := by decide +kernel
theorem d_Md_finds_178 : decode b_Md_finds 178 = .ok (.iconst 1, 1) := by decide +kernel
theorem d_Md_finds_179 : decode b_Md_finds 179 = .ok (.if_icmp .ne 71, 3) := by decide +kernel
theorem d_Md_finds_182 : decode b_Md_finds 182 = .ok (.iload_n 3, 1) := by decide +kernel
theorem d_Md_finds_183 : decode b_Md_finds 183 = .ok (.ifCond .ne 67, 3) := by decide +kernel
theorem d_Md_finds_186 : decode b_Md_finds 186 = .ok (.iload 4, 2) := by decide +kernel
theorem d_Md_finds_188 : decode b_Md_finds 188 = .ok (.iconst (-1), 1) := by decide +kernel
theorem d_Md_finds_189 : decode b_Md_finds 189 = .ok (.if_icmp .eq 61, 3) := by decide +kernel
theorem d_Md_finds_192 : decode b_Md_finds 192 = .ok (.aload_n 0, 1) := by decide +kernel
theorem d_Md_finds_193 : decode b_Md_finds 193 = .ok (.getfield 26, 3) := by decide +kernel
theorem d_Md_finds_196 : decode b_Md_finds 196 = .ok (.iload 8, 2) := by decide +kernel
theorem d_Md_finds_198 : decode b_Md_finds 198 = .ok (.iaload, 1) := by decide +kernel
theorem d_Md_finds_199 : decode b_Md_finds 199 = .ok (.aload_n 0, 1) := by decide +kernel
theorem d_Md_finds_200 : decode b_Md_finds 200 = .ok (.getfield 26, 3) := by decide +kernel
theorem d_Md_finds_203 : decode b_Md_finds 203 = .ok (.iload 4, 2) := by decide +kernel
theorem d_Md_finds_205 : decode b_Md_finds 205 = .ok (.iaload, 1) := by decide +kernel
theorem d_Md_finds_206 : decode b_Md_finds 206 = .ok (.if_icmp .eq 44, 3) := by decide +kernel
theorem d_Md_finds_209 : decode b_Md_finds 209 = .ok (.aload_n 0, 1) := by decide +kernel
theorem d_Md_finds_210 : decode b_Md_finds 210 = .ok (.iload 8, 2) := by decide +kernel
theorem d_Md_finds_212 : decode b_Md_finds 212 = .ok (.invokevirtual 77, 3) := by decide +kernel
theorem d_Md_finds_215 : decode b_Md_finds 215 = .ok (.aload_n 0, 1) := by decide +kernel
theorem d_Md_finds_216 : decode b_Md_finds 216 = .ok (.iload 4, 2) := by decide +kernel
theorem d_Md_finds_218 : decode b_Md_finds 218 = .ok (.invokevirtual 77, 3) := by decide +kernel
theorem d_Md_finds_221 : decode b_Md_finds 221 = .ok (.if_icmp .ge 7, 3) := by decide +kernel
theorem d_Md_finds_224 : decode b_Md_finds 224 = .ok (.iconst 3, 1) := by decide +kernel
theorem d_Md_finds_225 : decode b_Md_finds 225 = .ok (.goto 23, 3) := by decide +kernel
theorem d_Md_finds_228 : decode b_Md_finds 228 = .ok (.aload_n 0, 1) := by decide +kernel
theorem d_Md_finds_229 : decode b_Md_finds 229 = .ok (.iload 8, 2) := by decide +kernel
theorem d_Md_finds_231 : decode b_Md_finds 231 = .ok (.invokevirtual 77, 3) := by decide +kernel
theorem d_Md_finds_234 : decode b_Md_finds 234 = .ok (.aload_n 0, 1) := by decide +kernel
theorem d_Md_finds_235 : decode b_Md_finds 235 = .ok (.iload 4, 2) := by decide +kernel
theorem d_Md_finds_237 : decode b_Md_finds 237 = .ok (.invokevirtual 77, 3) := by decide +kernel
theorem d_Md_finds_240 : decode b_Md_finds 240 = .ok (.if_icmp .ne 7, 3) := by decide +kernel
theorem d_Md_finds_243 : decode b_Md_finds 243 = .ok (.iconst 4, 1) := by decide +kernel
theorem d_Md_finds_244 : decode b_Md_finds 244 = .ok (.goto 4, 3) := by decide +kernel
theorem d_Md_finds_247 : decode b_Md_finds 247 = .ok (.iconst 0, 1) := by decide +kernel
theorem d_Md_finds_248 : decode b_Md_finds 248 = .ok (.istore 9, 2) := by decide +kernel
theorem d_Md_finds_250 : decode b_Md_finds 250 = .ok (.aload_n 0, 1) := by decide +kernel
theorem d_Md_finds_251 : decode b_Md_finds 251 = .ok (.getfield 36, 3) := by decide +kernel
theorem d_Md_finds_254 : decode b_Md_finds 254 = .ok (.iload_n 1, 1) := by decide +kernel
theorem d_Md_finds_255 : decode b_Md_finds 255 = .ok (.aload_n 0, 1) := by decide +kernel
theorem d_Md_finds_256 : decode b_Md_finds 256 = .ok (.getfield 23, 3) := by decide +kernel
theorem d_Md_finds_259 : decode b_Md_finds 259 = .ok (.iload 8, 2) := by decide +kernel
theorem d_Md_finds_261 : decode b_Md_finds 261 = .ok (.iaload, 1) := by decide +kernel
theorem d_Md_finds_262 : decode b_Md_finds 262 = .ok (.iastore, 1) := by decide +kernel
theorem d_Md_finds_263 : decode b_Md_finds 263 = .ok (.aload_n 0, 1) := by decide +kernel
theorem d_Md_finds_264 : decode b_Md_finds 264 = .ok (.getfield 39, 3) := by decide +kernel
theorem d_Md_finds_267 : decode b_Md_finds 267 = .ok (.iload_n 1, 1) := by decide +kernel
theorem d_Md_finds_268 : decode b_Md_finds 268 = .ok (.iload_n 2, 1) := by decide +kernel
theorem d_Md_finds_269 : decode b_Md_finds 269 = .ok (.iconst 2, 1) := by decide +kernel
theorem d_Md_finds_270 : decode b_Md_finds 270 = .ok (.if_icmp .ge 13, 3) := by decide +kernel
theorem d_Md_finds_273 : decode b_Md_finds 273 = .ok (.aload_n 0, 1) := by decide +kernel
theorem d_Md_finds_274 : decode b_Md_finds 274 = .ok (.getfield 23, 3) := by decide +kernel
theorem d_Md_finds_277 : decode b_Md_finds 277 = .ok (.iload 8, 2) := by decide +kernel
theorem d_Md_finds_279 : decode b_Md_finds 279 = .ok (.iaload, 1) := by decide +kernel
theorem d_Md_finds_280 : decode b_Md_finds 280 = .ok (.goto 9, 3) := by decide +kernel
theorem d_Md_finds_283 : decode b_Md_finds 283 = .ok (.aload_n 0, 1) := by decide +kernel
theorem d_Md_finds_284 : decode b_Md_finds 284 = .ok (.getfield 39, 3) := by decide +kernel
theorem d_Md_finds_287 : decode b_Md_finds 287 = .ok (.iload_n 1, 1) := by decide +kernel
theorem d_Md_finds_288 : decode b_Md_finds 288 = .ok (.iaload, 1) := by decide +kernel
theorem d_Md_finds_289 : decode b_Md_finds 289 = .ok (.iastore, 1) := by decide +kernel
theorem d_Md_finds_290 : decode b_Md_finds 290 = .ok (.iconst 0, 1) := by decide +kernel
theorem d_Md_finds_291 : decode b_Md_finds 291 = .ok (.istore 10, 2) := by decide +kernel
theorem d_Md_finds_293 : decode b_Md_finds 293 = .ok (.iload 10, 2) := by decide +kernel
theorem d_Md_finds_295 : decode b_Md_finds 295 = .ok (.bipush 8, 2) := by decide +kernel
theorem d_Md_finds_297 : decode b_Md_finds 297 = .ok (.if_icmp .gt 17, 3) := by decide +kernel
theorem d_Md_finds_300 : decode b_Md_finds 300 = .ok (.aload_n 0, 1) := by decide +kernel
theorem d_Md_finds_301 : decode b_Md_finds 301 = .ok (.getfield 57, 3) := by decide +kernel
theorem d_Md_finds_304 : decode b_Md_finds 304 = .ok (.iload 10, 2) := by decide +kernel
theorem d_Md_finds_306 : decode b_Md_finds 306 = .ok (.lconst 0, 1) := by decide +kernel
theorem d_Md_finds_307 : decode b_Md_finds 307 = .ok (.lastore, 1) := by decide +kernel
theorem d_Md_finds_308 : decode b_Md_finds 308 = .ok (.iinc 10 1, 3) := by decide +kernel
theorem d_Md_finds_311 : decode b_Md_finds 311 = .ok (.goto (-18), 3) := by decide +kernel
theorem d_Md_finds_314 : decode b_Md_finds 314 = .ok (.aload_n 0, 1) := by decide +kernel
theorem d_Md_finds_315 : decode b_Md_finds 315 = .ok (.getfield 57, 3) := by decide +kernel
theorem d_Md_finds_318 : decode b_Md_finds 318 = .ok (.aload_n 0, 1) := by decide +kernel
theorem d_Md_finds_319 : decode b_Md_finds 319 = .ok (.iload 8, 2) := by decide +kernel
theorem d_Md_finds_321 : decode b_Md_finds 321 = .ok (.invokevirtual 77, 3) := by decide +kernel
theorem d_Md_finds_324 : decode b_Md_finds 324 = .ok (.aload_n 0, 1) := by decide +kernel
theorem d_Md_finds_325 : decode b_Md_finds 325 = .ok (.getfield 33, 3) := by decide +kernel
theorem d_Md_finds_328 : decode b_Md_finds 328 = .ok (.iload 8, 2) := by decide +kernel
theorem d_Md_finds_330 : decode b_Md_finds 330 = .ok (.laload, 1) := by decide +kernel
theorem d_Md_finds_331 : decode b_Md_finds 331 = .ok (.lastore, 1) := by decide +kernel
theorem d_Md_finds_332 : decode b_Md_finds 332 = .ok (.iconst 0, 1) := by decide +kernel
theorem d_Md_finds_333 : decode b_Md_finds 333 = .ok (.istore 10, 2) := by decide +kernel
theorem d_Md_finds_335 : decode b_Md_finds 335 = .ok (.iload 10, 2) := by decide +kernel
theorem d_Md_finds_337 : decode b_Md_finds 337 = .ok (.iload_n 3, 1) := by decide +kernel
theorem d_Md_finds_338 : decode b_Md_finds 338 = .ok (.if_icmp .ge 86, 3) := by decide +kernel
theorem d_Md_finds_341 : decode b_Md_finds 341 = .ok (.aload_n 0, 1) := by decide +kernel
theorem d_Md_finds_342 : decode b_Md_finds 342 = .ok (.iload 8, 2) := by decide +kernel
theorem d_Md_finds_344 : decode b_Md_finds 344 = .ok (.aload_n 0, 1) := by decide +kernel
theorem d_Md_finds_345 : decode b_Md_finds 345 = .ok (.getfield 45, 3) := by decide +kernel
theorem d_Md_finds_348 : decode b_Md_finds 348 = .ok (.iload 10, 2) := by decide +kernel
theorem d_Md_finds_350 : decode b_Md_finds 350 = .ok (.iaload, 1) := by decide +kernel
theorem d_Md_finds_351 : decode b_Md_finds 351 = .ok (.invokevirtual 92, 3) := by decide +kernel
theorem d_Md_finds_354 : decode b_Md_finds 354 = .ok (.istore 11, 2) := by decide +kernel
theorem d_Md_finds_356 : decode b_Md_finds 356 = .ok (.aload_n 0, 1) := by decide +kernel
theorem d_Md_finds_357 : decode b_Md_finds 357 = .ok (.getfield 51, 3) := by decide +kernel
theorem d_Md_finds_360 : decode b_Md_finds 360 = .ok (.iload 10, 2) := by decide +kernel
theorem d_Md_finds_362 : decode b_Md_finds 362 = .ok (.iaload, 1) := by decide +kernel
theorem d_Md_finds_363 : decode b_Md_finds 363 = .ok (.iconst 4, 1) := by decide +kernel
theorem d_Md_finds_364 : decode b_Md_finds 364 = .ok (.iand, 1) := by decide +kernel
theorem d_Md_finds_365 : decode b_Md_finds 365 = .ok (.ifCond .eq 16, 3) := by decide +kernel
theorem d_Md_finds_368 : decode b_Md_finds 368 = .ok (.aload_n 0, 1) := by decide +kernel
theorem d_Md_finds_369 : decode b_Md_finds 369 = .ok (.getfield 39, 3) := by decide +kernel
theorem d_Md_finds_372 : decode b_Md_finds 372 = .ok (.iload_n 1, 1) := by decide +kernel
theorem d_Md_finds_373 : decode b_Md_finds 373 = .ok (.aload_n 0, 1) := by decide +kernel
theorem d_Md_finds_374 : decode b_Md_finds 374 = .ok (.getfield 23, 3) := by decide +kernel
theorem d_Md_finds_377 : decode b_Md_finds 377 = .ok (.iload 11, 2) := by decide +kernel
theorem d_Md_finds_379 : decode b_Md_finds 379 = .ok (.iaload, 1) := by decide +kernel
theorem d_Md_finds_380 : decode b_Md_finds 380 = .ok (.iastore, 1) := by decide +kernel
theorem d_Md_finds_381 : decode b_Md_finds 381 = .ok (.aload_n 0, 1) := by decide +kernel
theorem d_Md_finds_382 : decode b_Md_finds 382 = .ok (.getfield 51, 3) := by decide +kernel
theorem d_Md_finds_385 : decode b_Md_finds 385 = .ok (.iload 10, 2) := by decide +kernel
theorem d_Md_finds_387 : decode b_Md_finds 387 = .ok (.iaload, 1) := by decide +kernel
theorem d_Md_finds_388 : decode b_Md_finds 388 = .ok (.bipush 8, 2) := by decide +kernel
theorem d_Md_finds_390 : decode b_Md_finds 390 = .ok (.iand, 1) := by decide +kernel
theorem d_Md_finds_391 : decode b_Md_finds 391 = .ok (.ifCond .eq 27, 3) := by decide +kernel
theorem d_Md_finds_394 : decode b_Md_finds 394 = .ok (.aload_n 0, 1) := by decide +kernel
theorem d_Md_finds_395 : decode b_Md_finds 395 = .ok (.getfield 57, 3) := by decide +kernel
theorem d_Md_finds_398 : decode b_Md_finds 398 = .ok (.aload_n 0, 1) := by decide +kernel
theorem d_Md_finds_399 : decode b_Md_finds 399 = .ok (.getfield 13, 3) := by decide +kernel
theorem d_Md_finds_402 : decode b_Md_finds 402 = .ok (.aload_n 0, 1) := by decide +kernel
theorem d_Md_finds_403 : decode b_Md_finds 403 = .ok (.getfield 45, 3) := by decide +kernel
theorem d_Md_finds_406 : decode b_Md_finds 406 = .ok (.iload 10, 2) := by decide +kernel
theorem d_Md_finds_408 : decode b_Md_finds 408 = .ok (.iaload, 1) := by decide +kernel
theorem d_Md_finds_409 : decode b_Md_finds 409 = .ok (.iaload, 1) := by decide +kernel
theorem d_Md_finds_410 : decode b_Md_finds 410 = .ok (.aload_n 0, 1) := by decide +kernel
theorem d_Md_finds_411 : decode b_Md_finds 411 = .ok (.getfield 33, 3) := by decide +kernel
theorem d_Md_finds_414 : decode b_Md_finds 414 = .ok (.iload 11, 2) := by decide +kernel
theorem d_Md_finds_416 : decode b_Md_finds 416 = .ok (.laload, 1) := by decide +kernel
theorem d_Md_finds_417 : decode b_Md_finds 417 = .ok (.lastore, 1) := by decide +kernel
theorem d_Md_finds_418 : decode b_Md_finds 418 = .ok (.iinc 10 1, 3) := by decide +kernel
theorem d_Md_finds_421 : decode b_Md_finds 421 = .ok (.goto (-86), 3) := by decide +kernel
theorem d_Md_finds_424 : decode b_Md_finds 424 = .ok (.iload 9, 2) := by decide +kernel
theorem d_Md_finds_426 : decode b_Md_finds 426 = .ok (.ireturn, 1) := by decide +kernel
theorem d_Md_get_0 : decode b_Md_get 0 = .ok (.iload_n 1, 1) := by decide +kernel
theorem d_Md_get_1 : decode b_Md_get 1 = .ok (.iconst 1, 1) := by decide +kernel
theorem d_Md_get_2 : decode b_Md_get 2 = .ok (.if_icmp .lt 11, 3) := by decide +kernel
theorem d_Md_get_5 : decode b_Md_get 5 = .ok (.iload_n 1, 1) := by decide +kernel
theorem d_Md_get_6 : decode b_Md_get 6 = .ok (.aload_n 0, 1) := by decide +kernel
theorem d_Md_get_7 : decode b_Md_get 7 = .ok (.getfield 68, 3) := by decide +kernel
theorem d_Md_get_10 : decode b_Md_get 10 = .ok (.if_icmp .le 5, 3) := by decide +kernel
theorem d_Md_get_13 : decode b_Md_get 13 = .ok (.iconst (-1), 1) := by decide +kernel
theorem d_Md_get_14 : decode b_Md_get 14 = .ok (.ireturn, 1) := by decide +kernel
theorem d_Md_get_15 : decode b_Md_get 15 = .ok (.aload_n 0, 1) := by decide +kernel
theorem d_Md_get_16 : decode b_Md_get 16 = .ok (.getfield 71, 3) := by decide +kernel
theorem d_Md_get_19 : decode b_Md_get 19 = .ok (.istore_n 3, 1) := by decide +kernel
theorem d_Md_get_20 : decode b_Md_get 20 = .ok (.aload_n 0, 1) := by decide +kernel
theorem d_Md_get_21 : decode b_Md_get 21 = .ok (.invokevirtual 113, 3) := by decide +kernel
theorem d_Md_get_24 : decode b_Md_get 24 = .ok (.ifCond .eq 18, 3) := by decide +kernel
theorem d_Md_get_27 : decode b_Md_get 27 = .ok (.iload_n 2, 1) := by decide +kernel
theorem d_Md_get_28 : decode b_Md_get 28 = .ok (.ifCond .lt 14, 3) := by decide +kernel
theorem d_Md_get_31 : decode b_Md_get 31 = .ok (.iload_n 2, 1) := by decide +kernel
theorem d_Md_get_32 : decode b_Md_get 32 = .ok (.bipush 6, 2) := by decide +kernel
theorem d_Md_get_34 : decode b_Md_get 34 = .ok (.if_icmp .gt 8, 3) := by decide +kernel
theorem d_Md_get_37 : decode b_Md_get 37 = .ok (.iload_n 2, 1) := by decide +kernel
theorem d_Md_get_38 : decode b_Md_get 38 = .ok (.iconst 3, 1) := by decide +kernel
theorem d_Md_get_39 : decode b_Md_get 39 = .ok (.if_icmp .ne 7, 3) := by decide +kernel
theorem d_Md_get_42 : decode b_Md_get 42 = .ok (.iconst 1, 1) := by decide +kernel
theorem d_Md_get_43 : decode b_Md_get 43 = .ok (.goto 4, 3) := by decide +kernel
theorem d_Md_get_46 : decode b_Md_get 46 = .ok (.iconst 0, 1) := by decide +kernel
theorem d_Md_get_47 : decode b_Md_get 47 = .ok (.istore 4, 2) := by decide +kernel
theorem d_Md_get_49 : decode b_Md_get 49 = .ok (.aload_n 0, 1) := by decide +kernel
theorem d_Md_get_50 : decode b_Md_get 50 = .ok (.iconst 0, 1) := by decide +kernel
theorem d_Md_get_51 : decode b_Md_get 51 = .ok (.putfield 71, 3) := by decide +kernel
theorem d_Md_get_54 : decode b_Md_get 54 = .ok (.aload_n 0, 1) := by decide +kernel
theorem d_Md_get_55 : decode b_Md_get 55 = .ok (.getfield 42, 3) := by decide +kernel
theorem d_Md_get_58 : decode b_Md_get 58 = .ok (.iload_n 1, 1) := by decide +kernel
theorem d_Md_get_59 : decode b_Md_get 59 = .ok (.iconst 0, 1) := by decide +kernel
theorem d_Md_get_60 : decode b_Md_get 60 = .ok (.bastore, 1) := by decide +kernel
theorem d_Md_get_61 : decode b_Md_get 61 = .ok (.iload 4, 2) := by decide +kernel
theorem d_Md_get_63 : decode b_Md_get 63 = .ok (.ifCond .eq 6, 3) := by decide +kernel
theorem d_Md_get_66 : decode b_Md_get 66 = .ok (.bipush 6, 2) := by decide +kernel
theorem d_Md_get_68 : decode b_Md_get 68 = .ok (.ireturn, 1) := by decide +kernel
theorem d_Md_get_69 : decode b_Md_get 69 = .ok (.aload_n 0, 1) := by decide +kernel
theorem d_Md_get_70 : decode b_Md_get 70 = .ok (.iload_n 1, 1) := by decide +kernel
theorem d_Md_get_71 : decode b_Md_get 71 = .ok (.iload_n 2, 1) := by decide +kernel
theorem d_Md_get_72 : decode b_Md_get 72 = .ok (.iconst 4, 1) := by decide +kernel
theorem d_Md_get_73 : decode b_Md_get 73 = .ok (.irem, 1) := by decide +kernel
theorem d_Md_get_74 : decode b_Md_get 74 = .ok (.iload_n 3, 1) := by decide +kernel
theorem d_Md_get_75 : decode b_Md_get 75 = .ok (.invokevirtual 117, 3) := by decide +kernel
theorem d_Md_get_78 : decode b_Md_get 78 = .ok (.istore 5, 2) := by decide +kernel
theorem d_Md_get_80 : decode b_Md_get 80 = .ok (.aload_n 0, 1) := by decide +kernel
theorem d_Md_get_81 : decode b_Md_get 81 = .ok (.getfield 42, 3) := by decide +kernel
theorem d_Md_get_84 : decode b_Md_get 84 = .ok (.iload_n 1, 1) := by decide +kernel
theorem d_Md_get_85 : decode b_Md_get 85 = .ok (.iload_n 2, 1) := by decide +kernel
theorem d_Md_get_86 : decode b_Md_get 86 = .ok (.iconst 3, 1) := by decide +kernel
theorem d_Md_get_87 : decode b_Md_get 87 = .ok (.if_icmp .le 24, 3) := by decide +kernel
theorem d_Md_get_90 : decode b_Md_get 90 = .ok (.iload 5, 2) := by decide +kernel
theorem d_Md_get_92 : decode b_Md_get 92 = .ok (.ifCond .eq 15, 3) := by decide +kernel
theorem d_Md_get_95 : decode b_Md_get 95 = .ok (.iload 5, 2) := by decide +kernel
theorem d_Md_get_97 : decode b_Md_get 97 = .ok (.iconst 3, 1) := by decide +kernel
theorem d_Md_get_98 : decode b_Md_get 98 = .ok (.if_icmp .eq 9, 3) := by decide +kernel
theorem d_Md_get_101 : decode b_Md_get 101 = .ok (.iload 5, 2) := by decide +kernel
theorem d_Md_get_103 : decode b_Md_get 103 = .ok (.iconst 4, 1) := by decide +kernel
theorem d_Md_get_104 : decode b_Md_get 104 = .ok (.if_icmp .ne 7, 3) := by decide +kernel
theorem d_Md_get_107 : decode b_Md_get 107 = .ok (.iconst 1, 1) := by decide +kernel
theorem d_Md_get_108 : decode b_Md_get 108 = .ok (.goto 4, 3) := by decide +kernel
theorem d_Md_get_111 : decode b_Md_get 111 = .ok (.iconst 0, 1) := by decide +kernel
theorem d_Md_get_112 : decode b_Md_get 112 = .ok (.bastore, 1) := by decide +kernel
theorem d_Md_get_113 : decode b_Md_get 113 = .ok (.iload 5, 2) := by decide +kernel
theorem d_Md_get_115 : decode b_Md_get 115 = .ok (.ireturn, 1) := by decide +kernel
theorem d_Md_segment_0 : decode b_Md_segment 0 = .ok (.iload_n 1, 1) := by decide +kernel
theorem d_Md_segment_1 : decode b_Md_segment 1 = .ok (.ifCond .le 18, 3) := by decide +kernel
theorem d_Md_segment_4 : decode b_Md_segment 4 = .ok (.iload_n 1, 1) := by decide +kernel
theorem d_Md_segment_5 : decode b_Md_segment 5 = .ok (.bipush 8, 2) := by decide +kernel
theorem d_Md_segment_7 : decode b_Md_segment 7 = .ok (.if_icmp .gt 12, 3) := by decide +kernel
theorem d_Md_segment_10 : decode b_Md_segment 10 = .ok (.aload_n 0, 1) := by decide +kernel
theorem d_Md_segment_11 : decode b_Md_segment 11 = .ok (.getfield 57, 3) := by decide +kernel
theorem d_Md_segment_14 : decode b_Md_segment 14 = .ok (.iload_n 1, 1) := by decide +kernel
theorem d_Md_segment_15 : decode b_Md_segment 15 = .ok (.laload, 1) := by decide +kernel
theorem d_Md_segment_16 : decode b_Md_segment 16 = .ok (.goto 4, 3) := by decide +kernel
theorem d_Md_segment_19 : decode b_Md_segment 19 = .ok (.lconst 0, 1) := by decide +kernel
theorem d_Md_segment_20 : decode b_Md_segment 20 = .ok (.lreturn, 1) := by decide +kernel
theorem d_Md_insertion_0 : decode b_Md_insertion 0 = .ok (.aload_n 0, 1) := by decide +kernel
theorem d_Md_insertion_1 : decode b_Md_insertion 1 = .ok (.getfield 45, 3) := by decide +kernel
theorem d_Md_insertion_4 : decode b_Md_insertion 4 = .ok (.iload_n 2, 1) := by decide +kernel
theorem d_Md_insertion_5 : decode b_Md_insertion 5 = .ok (.iconst 1, 1) := by decide +kernel
theorem d_Md_insertion_6 : decode b_Md_insertion 6 = .ok (.isub, 1) := by decide +kernel
theorem d_Md_insertion_7 : decode b_Md_insertion 7 = .ok (.iaload, 1) := by decide +kernel
theorem d_Md_insertion_8 : decode b_Md_insertion 8 = .ok (.istore 7, 2) := by decide +kernel
theorem d_Md_insertion_10 : decode b_Md_insertion 10 = .ok (.aload_n 0, 1) := by decide +kernel
theorem d_Md_insertion_11 : decode b_Md_insertion 11 = .ok (.aload_n 0, 1) := by decide +kernel
theorem d_Md_insertion_12 : decode b_Md_insertion 12 = .ok (.getfield 36, 3) := by decide +kernel
theorem d_Md_insertion_15 : decode b_Md_insertion 15 = .ok (.iload_n 1, 1) := by decide +kernel
theorem d_Md_insertion_16 : decode b_Md_insertion 16 = .ok (.iaload, 1) := by decide +kernel
theorem d_Md_insertion_17 : decode b_Md_insertion 17 = .ok (.invokevirtual 106, 3) := by decide +kernel
theorem d_Md_insertion_20 : decode b_Md_insertion 20 = .ok (.istore 8, 2) := by decide +kernel
theorem d_Md_insertion_22 : decode b_Md_insertion 22 = .ok (.iconst (-1), 1) := by decide +kernel
theorem d_Md_insertion_23 : decode b_Md_insertion 23 = .ok (.istore 9, 2) := by decide +kernel
theorem d_Md_insertion_25 : decode b_Md_insertion 25 = .ok (.aload_n 0, 1) := by decide +kernel
theorem d_Md_insertion_26 : decode b_Md_insertion 26 = .ok (.getfield 7, 3) := by decide +kernel
theorem d_Md_insertion_29 : decode b_Md_insertion 29 = .ok (.iload 7, 2) := by decide +kernel
theorem d_Md_insertion_31 : decode b_Md_insertion 31 = .ok (.iaload, 1) := by decide +kernel
theorem d_Md_insertion_32 : decode b_Md_insertion 32 = .ok (.ifCond .eq 48, 3) := by decide +kernel
theorem d_Md_insertion_35 : decode b_Md_insertion 35 = .ok (.iload_n 2, 1) := by decide +kernel
theorem d_Md_insertion_36 : decode b_Md_insertion 36 = .ok (.iconst 1, 1) := by decide +kernel
theorem d_Md_insertion_37 : decode b_Md_insertion 37 = .ok (.if_icmp .le 20, 3) := by decide +kernel
theorem d_Md_insertion_40 : decode b_Md_insertion 40 = .ok (.aload_n 0, 1) := by decide +kernel
theorem d_Md_insertion_41 : decode b_Md_insertion 41 = .ok (.iconst 0, 1) := by decide +kernel
theorem d_Md_insertion_42 : decode b_Md_insertion 42 = .ok (.aload_n 0, 1) := by decide +kernel
theorem d_Md_insertion_43 : decode b_Md_insertion 43 = .ok (.getfield 74, 3) := by decide +kernel
theorem d_Md_insertion_46 : decode b_Md_insertion 46 = .ok (.iload_n 2, 1) := by decide +kernel
theorem d_Md_insertion_47 : decode b_Md_insertion 47 = .ok (.iconst 1, 1) := by decide +kernel
theorem d_Md_insertion_48 : decode b_Md_insertion 48 = .ok (.isub, 1) := by decide +kernel
theorem d_Md_insertion_49 : decode b_Md_insertion 49 = .ok (.iload 8, 2) := by decide +kernel
theorem d_Md_insertion_51 : decode b_Md_insertion 51 = .ok (.invokevirtual 109, 3) := by decide +kernel
theorem d_Md_insertion_54 : decode b_Md_insertion 54 = .ok (.goto 16, 3) := by decide +kernel
theorem d_Md_insertion_57 : decode b_Md_insertion 57 = .ok (.aload_n 0, 1) := by decide +kernel
theorem d_Md_insertion_58 : decode b_Md_insertion 58 = .ok (.iload 8, 2) := by decide +kernel
theorem d_Md_insertion_60 : decode b_Md_insertion 60 = .ok (.aload_n 0, 1) := by decide +kernel
theorem d_Md_insertion_61 : decode b_Md_insertion 61 = .ok (.getfield 7, 3) := by decide +kernel
theorem d_Md_insertion_64 : decode b_Md_insertion 64 = .ok (.iload 7, 2) := by decide +kernel
theorem d_Md_insertion_66 : decode b_Md_insertion 66 = .ok (.iaload, 1) := by decide +kernel
theorem d_Md_insertion_67 : decode b_Md_insertion 67 = .ok (.invokevirtual 92, 3) := by decide +kernel
theorem d_Md_insertion_70 : decode b_Md_insertion 70 = .ok (.istore 9, 2) := by decide +kernel
theorem d_Md_insertion_72 : decode b_Md_insertion 72 = .ok (.iload 9, 2) := by decide +kernel
theorem d_Md_insertion_74 : decode b_Md_insertion 74 = .ok (.iconst (-1), 1) := by decide +kernel
theorem d_Md_insertion_75 : decode b_Md_insertion 75 = .ok (.if_icmp .ne 5, 3) := by decide +kernel
theorem d_Md_insertion_78 : decode b_Md_insertion 78 = .ok (.iconst 1, 1) := by decide +kernel
theorem d_Md_insertion_79 : decode b_Md_insertion 79 = .ok (.ireturn, 1) := by decide +kernel
theorem d_Md_insertion_80 : decode b_Md_insertion 80 = .ok (.iload 9, 2) := by decide +kernel
theorem d_Md_insertion_82 : decode b_Md_insertion 82 = .ok (.iconst (-1), 1) := by decide +kernel
theorem d_Md_insertion_83 : decode b_Md_insertion 83 = .ok (.if_icmp .ne 10, 3) := by decide +kernel
theorem d_Md_insertion_86 : decode b_Md_insertion 86 = .ok (.aload_n 0, 1) := by decide +kernel
theorem d_Md_insertion_87 : decode b_Md_insertion 87 = .ok (.getfield 74, 3) := by decide +kernel
theorem d_Md_insertion_90 : decode b_Md_insertion 90 = .ok (.goto 9, 3) := by decide +kernel
theorem d_Md_insertion_93 : decode b_Md_insertion 93 = .ok (.aload_n 0, 1) := by decide +kernel
theorem d_Md_insertion_94 : decode b_Md_insertion 94 = .ok (.iload 9, 2) := by decide +kernel
theorem d_Md_insertion_96 : decode b_Md_insertion 96 = .ok (.invokevirtual 85, 3) := by decide +kernel
theorem d_Md_insertion_99 : decode b_Md_insertion 99 = .ok (.istore 10, 2) := by decide +kernel
theorem d_Md_insertion_101 : decode b_Md_insertion 101 = .ok (.iload 9, 2) := by decide +kernel
theorem d_Md_insertion_103 : decode b_Md_insertion 103 = .ok (.iconst 1, 1) := by decide +kernel
theorem d_Md_insertion_104 : decode b_Md_insertion 104 = .ok (.iadd, 1) := by decide +kernel
theorem d_Md_insertion_105 : decode b_Md_insertion 105 = .ok (.istore 11, 2) := by decide +kernel
theorem d_Md_insertion_107 : decode b_Md_insertion 107 = .ok (.iconst 1, 1) := by decide +kernel
theorem d_Md_insertion_108 : decode b_Md_insertion 108 = .ok (.istore 12, 2) := by decide +kernel
theorem d_Md_insertion_110 : decode b_Md_insertion 110 = .ok (.iconst (-1), 1) := by decide +kernel
theorem d_Md_insertion_111 : decode b_Md_insertion 111 = .ok (.istore 13, 2) := by decide +kernel
theorem d_Md_insertion_113 : decode b_Md_insertion 113 = .ok (.iconst 0, 1) := by decide +kernel
theorem d_Md_insertion_114 : decode b_Md_insertion 114 = .ok (.istore 14, 2) := by decide +kernel
theorem d_Md_insertion_116 : decode b_Md_insertion 116 = .ok (.iload 11, 2) := by decide +kernel
theorem d_Md_insertion_118 : decode b_Md_insertion 118 = .ok (.iload 10, 2) := by decide +kernel
theorem d_Md_insertion_120 : decode b_Md_insertion 120 = .ok (.if_icmp .ge 26, 3) := by decide +kernel
theorem d_Md_insertion_123 : decode b_Md_insertion 123 = .ok (.aload_n 0, 1) := by decide +kernel
theorem d_Md_insertion_124 : decode b_Md_insertion 124 = .ok (.getfield 26, 3) := by decide +kernel
theorem d_Md_insertion_127 : decode b_Md_insertion 127 = .ok (.iload 11, 2) := by decide +kernel
theorem d_Md_insertion_129 : decode b_Md_insertion 129 = .ok (.iaload, 1) := by decide +kernel
theorem d_Md_insertion_130 : decode b_Md_insertion 130 = .ok (.iload 7, 2) := by decide +kernel
theorem d_Md_insertion_132 : decode b_Md_insertion 132 = .ok (.if_icmp .ge 14, 3) := by decide +kernel
theorem d_Md_insertion_135 : decode b_Md_insertion 135 = .ok (.aload_n 0, 1) := by decide +kernel
theorem d_Md_insertion_136 : decode b_Md_insertion 136 = .ok (.iload 11, 2) := by decide +kernel
theorem d_Md_insertion_138 : decode b_Md_insertion 138 = .ok (.invokevirtual 85, 3) := by decide +kernel
theorem d_Md_insertion_141 : decode b_Md_insertion 141 = .ok (.istore 11, 2) := by decide +kernel
theorem d_Md_insertion_143 : decode b_Md_insertion 143 = .ok (.goto (-27), 3) := by decide +kernel
theorem d_Md_insertion_146 : decode b_Md_insertion 146 = .ok (.iload 11, 2) := by decide +kernel
theorem d_Md_insertion_148 : decode b_Md_insertion 148 = .ok (.istore 15, 2) := by decide +kernel
theorem d_Md_insertion_150 : decode b_Md_insertion 150 = .ok (.iload 15, 2) := by decide +kernel
theorem d_Md_insertion_152 : decode b_Md_insertion 152 = .ok (.iload 10, 2) := by decide +kernel
theorem d_Md_insertion_154 : decode b_Md_insertion 154 = .ok (.if_icmp .ge 73, 3) := by decide +kernel
theorem d_Md_insertion_157 : decode b_Md_insertion 157 = .ok (.aload_n 0, 1) := by decide +kernel
theorem d_Md_insertion_158 : decode b_Md_insertion 158 = .ok (.getfield 26, 3) := by decide +kernel
theorem d_Md_insertion_161 : decode b_Md_insertion 161 = .ok (.iload 15, 2) := by decide +kernel
theorem d_Md_insertion_163 : decode b_Md_insertion 163 = .ok (.iaload, 1) := by decide +kernel
theorem d_Md_insertion_164 : decode b_Md_insertion 164 = .ok (.iload 7, 2) := by decide +kernel
theorem d_Md_insertion_166 : decode b_Md_insertion 166 = .ok (.if_icmp .ne 61, 3) := by decide +kernel
theorem d_Md_insertion_169 : decode b_Md_insertion 169 = .ok (.iload 14, 2) := by decide +kernel
theorem d_Md_insertion_171 : decode b_Md_insertion 171 = .ok (.ifCond .ne 15, 3) := by decide +kernel
theorem d_Md_insertion_174 : decode b_Md_insertion 174 = .ok (.aload_n 0, 1) := by decide +kernel
theorem d_Md_insertion_175 : decode b_Md_insertion 175 = .ok (.getfield 29, 3) := by decide +kernel
theorem d_Md_insertion_178 : decode b_Md_insertion 178 = .ok (.iload 15, 2) := by decide +kernel
theorem d_Md_insertion_180 : decode b_Md_insertion 180 = .ok (.laload, 1) := by decide +kernel
theorem d_Md_insertion_181 : decode b_Md_insertion 181 = .ok (.lload_n 3, 1) := by decide +kernel
theorem d_Md_insertion_182 : decode b_Md_insertion 182 = .ok (.lcmp, 1) := by decide +kernel
theorem d_Md_insertion_183 : decode b_Md_insertion 183 = .ok (.ifCond .ne 7, 3) := by decide +kernel
theorem d_Md_insertion_186 : decode b_Md_insertion 186 = .ok (.iconst 1, 1) := by decide +kernel
theorem d_Md_insertion_187 : decode b_Md_insertion 187 = .ok (.goto 4, 3) := by decide +kernel
theorem d_Md_insertion_190 : decode b_Md_insertion 190 = .ok (.iconst 0, 1) := by decide +kernel
theorem d_Md_insertion_191 : decode b_Md_insertion 191 = .ok (.istore 14, 2) := by decide +kernel
theorem d_Md_insertion_193 : decode b_Md_insertion 193 = .ok (.aload_n 0, 1) := by decide +kernel
theorem d_Md_insertion_194 : decode b_Md_insertion 194 = .ok (.getfield 29, 3) := by decide +kernel
theorem d_Md_insertion_197 : decode b_Md_insertion 197 = .ok (.iload 15, 2) := by decide +kernel
theorem d_Md_insertion_199 : decode b_Md_insertion 199 = .ok (.laload, 1) := by decide +kernel
theorem d_Md_insertion_200 : decode b_Md_insertion 200 = .ok (.lload_n 3, 1) := by decide +kernel
theorem d_Md_insertion_201 : decode b_Md_insertion 201 = .ok (.lcmp, 1) := by decide +kernel
theorem d_Md_insertion_202 : decode b_Md_insertion 202 = .ok (.ifCond .ne 14, 3) := by decide +kernel
theorem d_Md_insertion_205 : decode b_Md_insertion 205 = .ok (.iload 15, 2) := by decide +kernel
theorem d_Md_insertion_207 : decode b_Md_insertion 207 = .ok (.iload 8, 2) := by decide +kernel
theorem d_Md_insertion_209 : decode b_Md_insertion 209 = .ok (.if_icmp .ne 7, 3) := by decide +kernel
theorem d_Md_insertion_212 : decode b_Md_insertion 212 = .ok (.iload 15, 2) := by decide +kernel
theorem d_Md_insertion_214 : decode b_Md_insertion 214 = .ok (.istore 13, 2) := by decide +kernel
theorem d_Md_insertion_216 : decode b_Md_insertion 216 = .ok (.aload_n 0, 1) := by decide +kernel
theorem d_Md_insertion_217 : decode b_Md_insertion 217 = .ok (.iload 15, 2) := by decide +kernel
theorem d_Md_insertion_219 : decode b_Md_insertion 219 = .ok (.invokevirtual 85, 3) := by decide +kernel
theorem d_Md_insertion_222 : decode b_Md_insertion 222 = .ok (.istore 15, 2) := by decide +kernel
theorem d_Md_insertion_224 : decode b_Md_insertion 224 = .ok (.goto (-74), 3) := by decide +kernel
theorem d_Md_insertion_227 : decode b_Md_insertion 227 = .ok (.iload 14, 2) := by decide +kernel
theorem d_Md_insertion_229 : decode b_Md_insertion 229 = .ok (.ifCond .eq 16, 3) := by decide +kernel
theorem d_Md_insertion_232 : decode b_Md_insertion 232 = .ok (.aload_n 0, 1) := by decide +kernel
theorem d_Md_insertion_233 : decode b_Md_insertion 233 = .ok (.getfield 19, 3) := by decide +kernel
theorem d_Md_insertion_236 : decode b_Md_insertion 236 = .ok (.iload 7, 2) := by decide +kernel
theorem d_Md_insertion_238 : decode b_Md_insertion 238 = .ok (.baload, 1) := by decide +kernel
theorem d_Md_insertion_239 : decode b_Md_insertion 239 = .ok (.ifCond .eq 6, 3) := by decide +kernel
theorem d_Md_insertion_242 : decode b_Md_insertion 242 = .ok (.bipush 7, 2) := by decide +kernel
theorem d_Md_insertion_244 : decode b_Md_insertion 244 = .ok (.ireturn, 1) := by decide +kernel
theorem d_Md_insertion_245 : decode b_Md_insertion 245 = .ok (.iload 12, 2) := by decide +kernel
theorem d_Md_insertion_247 : decode b_Md_insertion 247 = .ok (.ifCond .eq 109, 3) := by decide +kernel
theorem d_Md_insertion_250 : decode b_Md_insertion 250 = .ok (.iload 11, 2) := by decide +kernel
theorem d_Md_insertion_252 : decode b_Md_insertion 252 = .ok (.iload 10, 2) := by decide +kernel
theorem d_Md_insertion_254 : decode b_Md_insertion 254 = .ok (.if_icmp .ge 102, 3) := by decide +kernel
theorem d_Md_insertion_257 : decode b_Md_insertion 257 = .ok (.aload_n 0, 1) := by decide +kernel
theorem d_Md_insertion_258 : decode b_Md_insertion 258 = .ok (.getfield 26, 3) := by decide +kernel
theorem d_Md_insertion_261 : decode b_Md_insertion 261 = .ok (.iload 11, 2) := by decide +kernel
theorem d_Md_insertion_263 : decode b_Md_insertion 263 = .ok (.iaload, 1) := by decide +kernel
theorem d_Md_insertion_264 : decode b_Md_insertion 264 = .ok (.iload 7, 2) := by decide +kernel
theorem d_Md_insertion_266 : decode b_Md_insertion 266 = .ok (.if_icmp .ne 90, 3) := by decide +kernel
theorem d_Md_insertion_269 : decode b_Md_insertion 269 = .ok (.aload_n 0, 1) := by decide +kernel
theorem d_Md_insertion_270 : decode b_Md_insertion 270 = .ok (.getfield 29, 3) := by decide +kernel
theorem d_Md_insertion_273 : decode b_Md_insertion 273 = .ok (.iload 11, 2) := by decide +kernel
theorem d_Md_insertion_275 : decode b_Md_insertion 275 = .ok (.laload, 1) := by decide +kernel
theorem d_Md_insertion_276 : decode b_Md_insertion 276 = .ok (.lload_n 3, 1) := by decide +kernel
theorem d_Md_insertion_277 : decode b_Md_insertion 277 = .ok (.lcmp, 1) := by decide +kernel
theorem d_Md_insertion_278 : decode b_Md_insertion 278 = .ok (.ifCond .lt 50, 3) := by decide +kernel
theorem d_Md_insertion_281 : decode b_Md_insertion 281 = .ok (.aload_n 0, 1) := by decide +kernel
theorem d_Md_insertion_282 : decode b_Md_insertion 282 = .ok (.getfield 29, 3) := by decide +kernel
theorem d_Md_insertion_285 : decode b_Md_insertion 285 = .ok (.iload 11, 2) := by decide +kernel
theorem d_Md_insertion_287 : decode b_Md_insertion 287 = .ok (.laload, 1) := by decide +kernel
theorem d_Md_insertion_288 : decode b_Md_insertion 288 = .ok (.lload_n 3, 1) := by decide +kernel
theorem d_Md_insertion_289 : decode b_Md_insertion 289 = .ok (.lcmp, 1) := by decide +kernel
theorem d_Md_insertion_290 : decode b_Md_insertion 290 = .ok (.ifCond .ne 42, 3) := by decide +kernel
theorem d_Md_insertion_293 : decode b_Md_insertion 293 = .ok (.aload_n 0, 1) := by decide +kernel
theorem d_Md_insertion_294 : decode b_Md_insertion 294 = .ok (.getfield 16, 3) := by decide +kernel
theorem d_Md_insertion_297 : decode b_Md_insertion 297 = .ok (.iload 7, 2) := by decide +kernel
theorem d_Md_insertion_299 : decode b_Md_insertion 299 = .ok (.iaload, 1) := by decide +kernel
theorem d_Md_insertion_300 : decode b_Md_insertion 300 = .ok (.iconst 1, 1) := by decide +kernel
theorem d_Md_insertion_301 : decode b_Md_insertion 301 = .ok (.if_icmp .eq 27, 3) := by decide +kernel
theorem d_Md_insertion_304 : decode b_Md_insertion 304 = .ok (.aload_n 0, 1) := by decide +kernel
theorem d_Md_insertion_305 : decode b_Md_insertion 305 = .ok (.getfield 16, 3) := by decide +kernel
theorem d_Md_insertion_308 : decode b_Md_insertion 308 = .ok (.iload 7, 2) := by decide +kernel
theorem d_Md_insertion_310 : decode b_Md_insertion 310 = .ok (.iaload, 1) := by decide +kernel
theorem d_Md_insertion_311 : decode b_Md_insertion 311 = .ok (.iconst 2, 1) := by decide +kernel
theorem d_Md_insertion_312 : decode b_Md_insertion 312 = .ok (.if_icmp .ne 20, 3) := by decide +kernel
theorem d_Md_insertion_315 : decode b_Md_insertion 315 = .ok (.iload 13, 2) := by decide +kernel
theorem d_Md_insertion_317 : decode b_Md_insertion 317 = .ok (.iconst (-1), 1) := by decide +kernel
theorem d_Md_insertion_318 : decode b_Md_insertion 318 = .ok (.if_icmp .eq 14, 3) := by decide +kernel
theorem d_Md_insertion_321 : decode b_Md_insertion 321 = .ok (.iload 11, 2) := by decide +kernel
theorem d_Md_insertion_323 : decode b_Md_insertion 323 = .ok (.iload 13, 2) := by decide +kernel
theorem d_Md_insertion_325 : decode b_Md_insertion 325 = .ok (.if_icmp .ge 7, 3) := by decide +kernel
theorem d_Md_insertion_328 : decode b_Md_insertion 328 = .ok (.iconst 1, 1) := by decide +kernel
theorem d_Md_insertion_329 : decode b_Md_insertion 329 = .ok (.goto 4, 3) := by decide +kernel
theorem d_Md_insertion_332 : decode b_Md_insertion 332 = .ok (.iconst 0, 1) := by decide +kernel
theorem d_Md_insertion_333 : decode b_Md_insertion 333 = .ok (.istore 12, 2) := by decide +kernel
theorem d_Md_insertion_335 : decode b_Md_insertion 335 = .ok (.iload 12, 2) := by decide +kernel
theorem d_Md_insertion_337 : decode b_Md_insertion 337 = .ok (.ifCond .eq 12, 3) := by decide +kernel
theorem d_Md_insertion_340 : decode b_Md_insertion 340 = .ok (.aload_n 0, 1) := by decide +kernel
theorem d_Md_insertion_341 : decode b_Md_insertion 341 = .ok (.iload 11, 2) := by decide +kernel
theorem d_Md_insertion_343 : decode b_Md_insertion 343 = .ok (.invokevirtual 85, 3) := by decide +kernel
theorem d_Md_insertion_346 : decode b_Md_insertion 346 = .ok (.goto 5, 3) := by decide +kernel
theorem d_Md_insertion_349 : decode b_Md_insertion 349 = .ok (.iload 11, 2) := by decide +kernel
theorem d_Md_insertion_351 : decode b_Md_insertion 351 = .ok (.istore 11, 2) := by decide +kernel
theorem d_Md_insertion_353 : decode b_Md_insertion 353 = .ok (.goto (-108), 3) := by decide +kernel
theorem d_Md_insertion_356 : decode b_Md_insertion 356 = .ok (.aload_n 0, 1) := by decide +kernel
theorem d_Md_insertion_357 : decode b_Md_insertion 357 = .ok (.getfield 74, 3) := by decide +kernel
theorem d_Md_insertion_360 : decode b_Md_insertion 360 = .ok (.istore 15, 2) := by decide +kernel
theorem d_Md_insertion_362 : decode b_Md_insertion 362 = .ok (.iload 15, 2) := by decide +kernel
theorem d_Md_insertion_364 : decode b_Md_insertion 364 = .ok (.iload 11, 2) := by decide +kernel
theorem d_Md_insertion_366 : decode b_Md_insertion 366 = .ok (.if_icmp .le 73, 3) := by decide +kernel
theorem d_Md_insertion_369 : decode b_Md_insertion 369 = .ok (.aload_n 0, 1) := by decide +kernel
theorem d_Md_insertion_370 : decode b_Md_insertion 370 = .ok (.getfield 23, 3) := by decide +kernel
theorem d_Md_insertion_373 : decode b_Md_insertion 373 = .ok (.iload 15, 2) := by decide +kernel
theorem d_Md_insertion_375 : decode b_Md_insertion 375 = .ok (.aload_n 0, 1) := by decide +kernel
theorem d_Md_insertion_376 : decode b_Md_insertion 376 = .ok (.getfield 23, 3) := by decide +kernel
theorem d_Md_insertion_379 : decode b_Md_insertion 379 = .ok (.iload 15, 2) := by decide +kernel
theorem d_Md_insertion_381 : decode b_Md_insertion 381 = .ok (.iconst 1, 1) := by decide +kernel
theorem d_Md_insertion_382 : decode b_Md_insertion 382 = .ok (.isub, 1) := by decide +kernel
theorem d_Md_insertion_383 : decode b_Md_insertion 383 = .ok (.iaload, 1) := by decide +kernel
theorem d_Md_insertion_384 : decode b_Md_insertion 384 = .ok (.iastore, 1) := by decide +kernel
theorem d_Md_insertion_385 : decode b_Md_insertion 385 = .ok (.aload_n 0, 1) := by decide +kernel
theorem d_Md_insertion_386 : decode b_Md_insertion 386 = .ok (.getfield 26, 3) := by decide +kernel
theorem d_Md_insertion_389 : decode b_Md_insertion 389 = .ok (.iload 15, 2) := by decide +kernel
theorem d_Md_insertion_391 : decode b_Md_insertion 391 = .ok (.aload_n 0, 1) := by decide +kernel
theorem d_Md_insertion_392 : decode b_Md_insertion 392 = .ok (.getfield 26, 3) := by decide +kernel
theorem d_Md_insertion_395 : decode b_Md_insertion 395 = .ok (.iload 15, 2) := by decide +kernel
theorem d_Md_insertion_397 : decode b_Md_insertion 397 = .ok (.iconst 1, 1) := by decide +kernel
theorem d_Md_insertion_398 : decode b_Md_insertion 398 = .ok (.isub, 1) := by decide +kernel
theorem d_Md_insertion_399 : decode b_Md_insertion 399 = .ok (.iaload, 1) := by decide +kernel
theorem d_Md_insertion_400 : decode b_Md_insertion 400 = .ok (.iastore, 1) := by decide +kernel
theorem d_Md_insertion_401 : decode b_Md_insertion 401 = .ok (.aload_n 0, 1) := by decide +kernel
theorem d_Md_insertion_402 : decode b_Md_insertion 402 = .ok (.getfield 29, 3) := by decide +kernel
theorem d_Md_insertion_405 : decode b_Md_insertion 405 = .ok (.iload 15, 2) := by decide +kernel
theorem d_Md_insertion_407 : decode b_Md_insertion 407 = .ok (.aload_n 0, 1) := by decide +kernel
theorem d_Md_insertion_408 : decode b_Md_insertion 408 = .ok (.getfield 29, 3) := by decide +kernel
theorem d_Md_insertion_411 : decode b_Md_insertion 411 = .ok (.iload 15, 2) := by decide +kernel
theorem d_Md_insertion_413 : decode b_Md_insertion 413 = .ok (.iconst 1, 1) := by decide +kernel
theorem d_Md_insertion_414 : decode b_Md_insertion 414 = .ok (.isub, 1) := by decide +kernel
theorem d_Md_insertion_415 : decode b_Md_insertion 415 = .ok (.laload, 1) := by decide +kernel
theorem d_Md_insertion_416 : decode b_Md_insertion 416 = .ok (.lastore, 1) := by decide +kernel
theorem d_Md_insertion_417 : decode b_Md_insertion 417 = .ok (.aload_n 0, 1) := by decide +kernel
theorem d_Md_insertion_418 : decode b_Md_insertion 418 = .ok (.getfield 33, 3) := by decide +kernel
theorem d_Md_insertion_421 : decode b_Md_insertion 421 = .ok (.iload 15, 2) := by decide +kernel
theorem d_Md_insertion_423 : decode b_Md_insertion 423 = .ok (.aload_n 0, 1) := by decide +kernel
theorem d_Md_insertion_424 : decode b_Md_insertion 424 = .ok (.getfield 33, 3) := by decide +kernel
theorem d_Md_insertion_427 : decode b_Md_insertion 427 = .ok (.iload 15, 2) := by decide +kernel
theorem d_Md_insertion_429 : decode b_Md_insertion 429 = .ok (.iconst 1, 1) := by decide +kernel
theorem d_Md_insertion_430 : decode b_Md_insertion 430 = .ok (.isub, 1) := by decide +kernel
theorem d_Md_insertion_431 : decode b_Md_insertion 431 = .ok (.laload, 1) := by decide +kernel
theorem d_Md_insertion_432 : decode b_Md_insertion 432 = .ok (.lastore, 1) := by decide +kernel
theorem d_Md_insertion_433 : decode b_Md_insertion 433 = .ok (.iinc 15 (-1), 3) := by decide +kernel
theorem d_Md_insertion_436 : decode b_Md_insertion 436 = .ok (.goto (-74), 3) := by decide +kernel
theorem d_Md_insertion_439 : decode b_Md_insertion 439 = .ok (.aload_n 0, 1) := by decide +kernel
theorem d_Md_insertion_440 : decode b_Md_insertion 440 = .ok (.dup, 1) := by decide +kernel
theorem d_Md_insertion_441 : decode b_Md_insertion 441 = .ok (.getfield 74, 3) := by decide +kernel
theorem d_Md_insertion_444 : decode b_Md_insertion 444 = .ok (.iconst 1, 1) := by decide +kernel
theorem d_Md_insertion_445 : decode b_Md_insertion 445 = .ok (.iadd, 1) := by decide +kernel
theorem d_Md_insertion_446 : decode b_Md_insertion 446 = .ok (.putfield 74, 3) := by decide +kernel
theorem d_Md_insertion_449 : decode b_Md_insertion 449 = .ok (.aload_n 0, 1) := by decide +kernel
theorem d_Md_insertion_450 : decode b_Md_insertion 450 = .ok (.dup, 1) := by decide +kernel
theorem d_Md_insertion_451 : decode b_Md_insertion 451 = .ok (.getfield 121, 3) := by decide +kernel
theorem d_Md_insertion_454 : decode b_Md_insertion 454 = .ok (.iconst 1, 1) := by decide +kernel
theorem d_Md_insertion_455 : decode b_Md_insertion 455 = .ok (.iadd, 1) := by decide +kernel
theorem d_Md_insertion_456 : decode b_Md_insertion 456 = .ok (.putfield 121, 3) := by decide +kernel
theorem d_Md_insertion_459 : decode b_Md_insertion 459 = .ok (.aload_n 0, 1) := by decide +kernel
theorem d_Md_insertion_460 : decode b_Md_insertion 460 = .ok (.getfield 23, 3) := by decide +kernel
theorem d_Md_insertion_463 : decode b_Md_insertion 463 = .ok (.iload 11, 2) := by decide +kernel
theorem d_Md_insertion_465 : decode b_Md_insertion 465 = .ok (.aload_n 0, 1) := by decide +kernel
theorem d_Md_insertion_466 : decode b_Md_insertion 466 = .ok (.getfield 121, 3) := by decide +kernel
theorem d_Md_insertion_469 : decode b_Md_insertion 469 = .ok (.iastore, 1) := by decide +kernel
theorem d_Md_insertion_470 : decode b_Md_insertion 470 = .ok (.aload_n 0, 1) := by decide +kernel
theorem d_Md_insertion_471 : decode b_Md_insertion 471 = .ok (.getfield 26, 3) := by decide +kernel
theorem d_Md_insertion_474 : decode b_Md_insertion 474 = .ok (.iload 11, 2) := by decide +kernel
theorem d_Md_insertion_476 : decode b_Md_insertion 476 = .ok (.iload 7, 2) := by decide +kernel
theorem d_Md_insertion_478 : decode b_Md_insertion 478 = .ok (.iastore, 1) := by decide +kernel
theorem d_Md_insertion_479 : decode b_Md_insertion 479 = .ok (.aload_n 0, 1) := by decide +kernel
theorem d_Md_insertion_480 : decode b_Md_insertion 480 = .ok (.getfield 29, 3) := by decide +kernel
theorem d_Md_insertion_483 : decode b_Md_insertion 483 = .ok (.iload 11, 2) := by decide +kernel
theorem d_Md_insertion_485 : decode b_Md_insertion 485 = .ok (.lload_n 3, 1) := by decide +kernel
theorem d_Md_insertion_486 : decode b_Md_insertion 486 = .ok (.lastore, 1) := by decide +kernel
theorem d_Md_insertion_487 : decode b_Md_insertion 487 = .ok (.aload_n 0, 1) := by decide +kernel
theorem d_Md_insertion_488 : decode b_Md_insertion 488 = .ok (.getfield 33, 3) := by decide +kernel
theorem d_Md_insertion_491 : decode b_Md_insertion 491 = .ok (.iload 11, 2) := by decide +kernel
theorem d_Md_insertion_493 : decode b_Md_insertion 493 = .ok (.lload 5, 2) := by decide +kernel
theorem d_Md_insertion_495 : decode b_Md_insertion 495 = .ok (.lastore, 1) := by decide +kernel
theorem d_Md_insertion_496 : decode b_Md_insertion 496 = .ok (.aload_n 0, 1) := by decide +kernel
theorem d_Md_insertion_497 : decode b_Md_insertion 497 = .ok (.getfield 36, 3) := by decide +kernel
theorem d_Md_insertion_500 : decode b_Md_insertion 500 = .ok (.iload_n 1, 1) := by decide +kernel
theorem d_Md_insertion_501 : decode b_Md_insertion 501 = .ok (.aload_n 0, 1) := by decide +kernel
theorem d_Md_insertion_502 : decode b_Md_insertion 502 = .ok (.getfield 121, 3) := by decide +kernel
theorem d_Md_insertion_505 : decode b_Md_insertion 505 = .ok (.iastore, 1) := by decide +kernel
theorem d_Md_insertion_506 : decode b_Md_insertion 506 = .ok (.iconst 0, 1) := by decide +kernel
theorem d_Md_insertion_507 : decode b_Md_insertion 507 = .ok (.ireturn, 1) := by decide +kernel
theorem d_Md_insert_0 : decode b_Md_insert 0 = .ok (.iload_n 1, 1) := by decide +kernel
theorem d_Md_insert_1 : decode b_Md_insert 1 = .ok (.iconst 1, 1) := by decide +kernel
theorem d_Md_insert_2 : decode b_Md_insert 2 = .ok (.if_icmp .lt 11, 3) := by decide +kernel
theorem d_Md_insert_5 : decode b_Md_insert 5 = .ok (.iload_n 1, 1) := by decide +kernel
theorem d_Md_insert_6 : decode b_Md_insert 6 = .ok (.aload_n 0, 1) := by decide +kernel
theorem d_Md_insert_7 : decode b_Md_insert 7 = .ok (.getfield 68, 3) := by decide +kernel
theorem d_Md_insert_10 : decode b_Md_insert 10 = .ok (.if_icmp .le 5, 3) := by decide +kernel
theorem d_Md_insert_13 : decode b_Md_insert 13 = .ok (.iconst (-1), 1) := by decide +kernel
theorem d_Md_insert_14 : decode b_Md_insert 14 = .ok (.ireturn, 1) := by decide +kernel
theorem d_Md_insert_15 : decode b_Md_insert 15 = .ok (.aload_n 0, 1) := by decide +kernel
theorem d_Md_insert_16 : decode b_Md_insert 16 = .ok (.getfield 71, 3) := by decide +kernel
theorem d_Md_insert_19 : decode b_Md_insert 19 = .ok (.istore 6, 2) := by decide +kernel
theorem d_Md_insert_21 : decode b_Md_insert 21 = .ok (.iload 6, 2) := by decide +kernel
theorem d_Md_insert_23 : decode b_Md_insert 23 = .ok (.ifCond .eq 10, 3) := by decide +kernel
theorem d_Md_insert_26 : decode b_Md_insert 26 = .ok (.aload_n 0, 1) := by decide +kernel
theorem d_Md_insert_27 : decode b_Md_insert 27 = .ok (.invokevirtual 113, 3) := by decide +kernel
theorem d_Md_insert_30 : decode b_Md_insert 30 = .ok (.ifCond .ne 7, 3) := by decide +kernel
theorem d_Md_insert_33 : decode b_Md_insert 33 = .ok (.iconst 1, 1) := by decide +kernel
theorem d_Md_insert_34 : decode b_Md_insert 34 = .ok (.goto 4, 3) := by decide +kernel
theorem d_Md_insert_37 : decode b_Md_insert 37 = .ok (.iconst 0, 1) := by decide +kernel
theorem d_Md_insert_38 : decode b_Md_insert 38 = .ok (.istore 7, 2) := by decide +kernel
theorem d_Md_insert_40 : decode b_Md_insert 40 = .ok (.iload 7, 2) := by decide +kernel
theorem d_Md_insert_42 : decode b_Md_insert 42 = .ok (.ifCond .ne 42, 3) := by decide +kernel
theorem d_Md_insert_45 : decode b_Md_insert 45 = .ok (.iload 6, 2) := by decide +kernel
theorem d_Md_insert_47 : decode b_Md_insert 47 = .ok (.iconst 1, 1) := by decide +kernel
theorem d_Md_insert_48 : decode b_Md_insert 48 = .ok (.if_icmp .le 33, 3) := by decide +kernel
theorem d_Md_insert_51 : decode b_Md_insert 51 = .ok (.aload_n 0, 1) := by decide +kernel
theorem d_Md_insert_52 : decode b_Md_insert 52 = .ok (.getfield 7, 3) := by decide +kernel
theorem d_Md_insert_55 : decode b_Md_insert 55 = .ok (.aload_n 0, 1) := by decide +kernel
theorem d_Md_insert_56 : decode b_Md_insert 56 = .ok (.getfield 45, 3) := by decide +kernel
theorem d_Md_insert_59 : decode b_Md_insert 59 = .ok (.iload 6, 2) := by decide +kernel
theorem d_Md_insert_61 : decode b_Md_insert 61 = .ok (.iconst 1, 1) := by decide +kernel
theorem d_Md_insert_62 : decode b_Md_insert 62 = .ok (.isub, 1) := by decide +kernel
theorem d_Md_insert_63 : decode b_Md_insert 63 = .ok (.iaload, 1) := by decide +kernel
theorem d_Md_insert_64 : decode b_Md_insert 64 = .ok (.iaload, 1) := by decide +kernel
theorem d_Md_insert_65 : decode b_Md_insert 65 = .ok (.aload_n 0, 1) := by decide +kernel
theorem d_Md_insert_66 : decode b_Md_insert 66 = .ok (.getfield 45, 3) := by decide +kernel
theorem d_Md_insert_69 : decode b_Md_insert 69 = .ok (.iload 6, 2) := by decide +kernel
theorem d_Md_insert_71 : decode b_Md_insert 71 = .ok (.iconst 2, 1) := by decide +kernel
theorem d_Md_insert_72 : decode b_Md_insert 72 = .ok (.isub, 1) := by decide +kernel
theorem d_Md_insert_73 : decode b_Md_insert 73 = .ok (.iaload, 1) := by decide +kernel
theorem d_Md_insert_74 : decode b_Md_insert 74 = .ok (.if_icmp .eq 7, 3) := by decide +kernel
theorem d_Md_insert_77 : decode b_Md_insert 77 = .ok (.iconst 1, 1) := by decide +kernel
theorem d_Md_insert_78 : decode b_Md_insert 78 = .ok (.goto 4, 3) := by decide +kernel
theorem d_Md_insert_81 : decode b_Md_insert 81 = .ok (.iconst 0, 1) := by decide +kernel
theorem d_Md_insert_82 : decode b_Md_insert 82 = .ok (.istore 7, 2) := by decide +kernel
theorem d_Md_insert_84 : decode b_Md_insert 84 = .ok (.aload_n 0, 1) := by decide +kernel
theorem d_Md_insert_85 : decode b_Md_insert 85 = .ok (.iconst 0, 1) := by decide +kernel
theorem d_Md_insert_86 : decode b_Md_insert 86 = .ok (.putfield 71, 3) := by decide +kernel
theorem d_Md_insert_89 : decode b_Md_insert 89 = .ok (.aload_n 0, 1) := by decide +kernel
theorem d_Md_insert_90 : decode b_Md_insert 90 = .ok (.getfield 42, 3) := by decide +kernel
theorem d_Md_insert_93 : decode b_Md_insert 93 = .ok (.iload_n 1, 1) := by decide +kernel
theorem d_Md_insert_94 : decode b_Md_insert 94 = .ok (.iconst 0, 1) := by decide +kernel
theorem d_Md_insert_95 : decode b_Md_insert 95 = .ok (.bastore, 1) := by decide +kernel
theorem d_Md_insert_96 : decode b_Md_insert 96 = .ok (.iload 7, 2) := by decide +kernel
theorem d_Md_insert_98 : decode b_Md_insert 98 = .ok (.ifCond .eq 8, 3) := by decide +kernel
theorem d_Md_insert_101 : decode b_Md_insert 101 = .ok (.bipush 6, 2) := by decide +kernel
theorem d_Md_insert_103 : decode b_Md_insert 103 = .ok (.goto 13, 3) := by decide +kernel
theorem d_Md_insert_106 : decode b_Md_insert 106 = .ok (.aload_n 0, 1) := by decide +kernel
theorem d_Md_insert_107 : decode b_Md_insert 107 = .ok (.iload_n 1, 1) := by decide +kernel
theorem d_Md_insert_108 : decode b_Md_insert 108 = .ok (.iload 6, 2) := by decide +kernel
theorem d_Md_insert_110 : decode b_Md_insert 110 = .ok (.lload_n 2, 1) := by decide +kernel
theorem d_Md_insert_111 : decode b_Md_insert 111 = .ok (.lload 4, 2) := by decide +kernel
theorem d_Md_insert_113 : decode b_Md_insert 113 = .ok (.invokevirtual 124, 3) := by decide +kernel
theorem d_Md_insert_116 : decode b_Md_insert 116 = .ok (.ireturn, 1) := by decide +kernel
theorem d_Md_replace_0 : decode b_Md_replace 0 = .ok (.iload_n 1, 1) := by decide +kernel
theorem d_Md_replace_1 : decode b_Md_replace 1 = .ok (.iconst 1, 1) := by decide +kernel
theorem d_Md_replace_2 : decode b_Md_replace 2 = .ok (.if_icmp .lt 11, 3) := by decide +kernel
theorem d_Md_replace_5 : decode b_Md_replace 5 = .ok (.iload_n 1, 1) := by decide +kernel
theorem d_Md_replace_6 : decode b_Md_replace 6 = .ok (.aload_n 0, 1) := by decide +kernel
theorem d_Md_replace_7 : decode b_Md_replace 7 = .ok (.getfield 68, 3) := by decide +kernel
theorem d_Md_replace_10 : decode b_Md_replace 10 = .ok (.if_icmp .le 5, 3) := by decide +kernel
theorem d_Md_replace_13 : decode b_Md_replace 13 = .ok (.iconst (-1), 1) := by decide +kernel
theorem d_Md_replace_14 : decode b_Md_replace 14 = .ok (.ireturn, 1) := by decide +kernel
theorem d_Md_replace_15 : decode b_Md_replace 15 = .ok (.aload_n 0, 1) := by decide +kernel
theorem d_Md_replace_16 : decode b_Md_replace 16 = .ok (.getfield 42, 3) := by decide +kernel
theorem d_Md_replace_19 : decode b_Md_replace 19 = .ok (.iload_n 1, 1) := by decide +kernel
theorem d_Md_replace_20 : decode b_Md_replace 20 = .ok (.baload, 1) := by decide +kernel
theorem d_Md_replace_21 : decode b_Md_replace 21 = .ok (.ifCond .ne 6, 3) := by decide +kernel
theorem d_Md_replace_24 : decode b_Md_replace 24 = .ok (.bipush 8, 2) := by decide +kernel
theorem d_Md_replace_26 : decode b_Md_replace 26 = .ok (.ireturn, 1) := by decide +kernel
theorem d_Md_replace_27 : decode b_Md_replace 27 = .ok (.aload_n 0, 1) := by decide +kernel
theorem d_Md_replace_28 : decode b_Md_replace 28 = .ok (.getfield 33, 3) := by decide +kernel
theorem d_Md_replace_31 : decode b_Md_replace 31 = .ok (.aload_n 0, 1) := by decide +kernel
theorem d_Md_replace_32 : decode b_Md_replace 32 = .ok (.aload_n 0, 1) := by decide +kernel
theorem d_Md_replace_33 : decode b_Md_replace 33 = .ok (.getfield 36, 3) := by decide +kernel
theorem d_Md_replace_36 : decode b_Md_replace 36 = .ok (.iload_n 1, 1) := by decide +kernel
theorem d_Md_replace_37 : decode b_Md_replace 37 = .ok (.iaload, 1) := by decide +kernel
theorem d_Md_replace_38 : decode b_Md_replace 38 = .ok (.invokevirtual 106, 3) := by decide +kernel
theorem d_Md_replace_41 : decode b_Md_replace 41 = .ok (.lload_n 2, 1) := by decide +kernel
theorem d_Md_replace_42 : decode b_Md_replace 42 = .ok (.lastore, 1) := by decide +kernel
theorem d_Md_replace_43 : decode b_Md_replace 43 = .ok (.aload_n 0, 1) := by decide +kernel
theorem d_Md_replace_44 : decode b_Md_replace 44 = .ok (.getfield 42, 3) := by decide +kernel
theorem d_Md_replace_47 : decode b_Md_replace 47 = .ok (.iload_n 1, 1) := by decide +kernel
theorem d_Md_replace_48 : decode b_Md_replace 48 = .ok (.iconst 0, 1) := by decide +kernel
theorem d_Md_replace_49 : decode b_Md_replace 49 = .ok (.bastore, 1) := by decide +kernel
theorem d_Md_replace_50 : decode b_Md_replace 50 = .ok (.iconst 0, 1) := by decide +kernel
theorem d_Md_replace_51 : decode b_Md_replace 51 = .ok (.ireturn, 1) := by decide +kernel
theorem d_Md_delete_0 : decode b_Md_delete 0 = .ok (.iload_n 1, 1) := by decide +kernel
theorem d_Md_delete_1 : decode b_Md_delete 1 = .ok (.iconst 1, 1) := by decide +kernel
theorem d_Md_delete_2 : decode b_Md_delete 2 = .ok (.if_icmp .lt 11, 3) := by decide +kernel
theorem d_Md_delete_5 : decode b_Md_delete 5 = .ok (.iload_n 1, 1) := by decide +kernel
theorem d_Md_delete_6 : decode b_Md_delete 6 = .ok (.aload_n 0, 1) := by decide +kernel
theorem d_Md_delete_7 : decode b_Md_delete 7 = .ok (.getfield 68, 3) := by decide +kernel
theorem d_Md_delete_10 : decode b_Md_delete 10 = .ok (.if_icmp .le 5, 3) := by decide +kernel
theorem d_Md_delete_13 : decode b_Md_delete 13 = .ok (.iconst (-1), 1) := by decide +kernel
theorem d_Md_delete_14 : decode b_Md_delete 14 = .ok (.ireturn, 1) := by decide +kernel
theorem d_Md_delete_15 : decode b_Md_delete 15 = .ok (.aload_n 0, 1) := by decide +kernel
theorem d_Md_delete_16 : decode b_Md_delete 16 = .ok (.getfield 42, 3) := by decide +kernel
theorem d_Md_delete_19 : decode b_Md_delete 19 = .ok (.iload_n 1, 1) := by decide +kernel
theorem d_Md_delete_20 : decode b_Md_delete 20 = .ok (.baload, 1) := by decide +kernel
theorem d_Md_delete_21 : decode b_Md_delete 21 = .ok (.ifCond .ne 6, 3) := by decide +kernel
theorem d_Md_delete_24 : decode b_Md_delete 24 = .ok (.bipush 8, 2) := by decide +kernel
theorem d_Md_delete_26 : decode b_Md_delete 26 = .ok (.ireturn, 1) := by decide +kernel
theorem d_Md_delete_27 : decode b_Md_delete 27 = .ok (.aload_n 0, 1) := by decide +kernel
theorem d_Md_delete_28 : decode b_Md_delete 28 = .ok (.aload_n 0, 1) := by decide +kernel
theorem d_Md_delete_29 : decode b_Md_delete 29 = .ok (.getfield 36, 3) := by decide +kernel
theorem d_Md_delete_32 : decode b_Md_delete 32 = .ok (.iload_n 1, 1) := by decide +kernel
theorem d_Md_delete_33 : decode b_Md_delete 33 = .ok (.iaload, 1) := by decide +kernel
theorem d_Md_delete_34 : decode b_Md_delete 34 = .ok (.invokevirtual 106, 3) := by decide +kernel
theorem d_Md_delete_37 : decode b_Md_delete 37 = .ok (.istore_n 2, 1) := by decide +kernel
theorem d_Md_delete_38 : decode b_Md_delete 38 = .ok (.aload_n 0, 1) := by decide +kernel
theorem d_Md_delete_39 : decode b_Md_delete 39 = .ok (.iload_n 2, 1) := by decide +kernel
theorem d_Md_delete_40 : decode b_Md_delete 40 = .ok (.invokevirtual 85, 3) := by decide +kernel
theorem d_Md_delete_43 : decode b_Md_delete 43 = .ok (.istore_n 3, 1) := by decide +kernel
theorem d_Md_delete_44 : decode b_Md_delete 44 = .ok (.iload_n 2, 1) := by decide +kernel
theorem d_Md_delete_45 : decode b_Md_delete 45 = .ok (.ifCond .ne 7, 3) := by decide +kernel
theorem d_Md_delete_48 : decode b_Md_delete 48 = .ok (.iconst 0, 1) := by decide +kernel
theorem d_Md_delete_49 : decode b_Md_delete 49 = .ok (.goto 11, 3) := by decide +kernel
theorem d_Md_delete_52 : decode b_Md_delete 52 = .ok (.aload_n 0, 1) := by decide +kernel
theorem d_Md_delete_53 : decode b_Md_delete 53 = .ok (.getfield 23, 3) := by decide +kernel
theorem d_Md_delete_56 : decode b_Md_delete 56 = .ok (.iload_n 2, 1) := by decide +kernel
theorem d_Md_delete_57 : decode b_Md_delete 57 = .ok (.iconst 1, 1) := by decide +kernel
theorem d_Md_delete_58 : decode b_Md_delete 58 = .ok (.isub, 1) := by decide +kernel
theorem d_Md_delete_59 : decode b_Md_delete 59 = .ok (.iaload, 1) := by decide +kernel
theorem d_Md_delete_60 : decode b_Md_delete 60 = .ok (.istore 4, 2) := by decide +kernel
theorem d_Md_delete_62 : decode b_Md_delete 62 = .ok (.iconst 1, 1) := by decide +kernel
theorem d_Md_delete_63 : decode b_Md_delete 63 = .ok (.istore 5, 2) := by decide +kernel
theorem d_Md_delete_65 : decode b_Md_delete 65 = .ok (.iload 5, 2) := by decide +kernel
theorem d_Md_delete_67 : decode b_Md_delete 67 = .ok (.aload_n 0, 1) := by decide +kernel
theorem d_Md_delete_68 : decode b_Md_delete 68 = .ok (.getfield 68, 3) := by decide +kernel
theorem d_Md_delete_71 : decode b_Md_delete 71 = .ok (.if_icmp .gt 84, 3) := by decide +kernel
theorem d_Md_delete_74 : decode b_Md_delete 74 = .ok (.aload_n 0, 1) := by decide +kernel
theorem d_Md_delete_75 : decode b_Md_delete 75 = .ok (.aload_n 0, 1) := by decide +kernel
theorem d_Md_delete_76 : decode b_Md_delete 76 = .ok (.getfield 36, 3) := by decide +kernel
theorem d_Md_delete_79 : decode b_Md_delete 79 = .ok (.iload 5, 2) := by decide +kernel
theorem d_Md_delete_81 : decode b_Md_delete 81 = .ok (.iaload, 1) := by decide +kernel
theorem d_Md_delete_82 : decode b_Md_delete 82 = .ok (.invokevirtual 106, 3) := by decide +kernel
theorem d_Md_delete_85 : decode b_Md_delete 85 = .ok (.istore 6, 2) := by decide +kernel
theorem d_Md_delete_87 : decode b_Md_delete 87 = .ok (.iload 6, 2) := by decide +kernel
theorem d_Md_delete_89 : decode b_Md_delete 89 = .ok (.iload_n 2, 1) := by decide +kernel
theorem d_Md_delete_90 : decode b_Md_delete 90 = .ok (.if_icmp .lt 26, 3) := by decide +kernel
theorem d_Md_delete_93 : decode b_Md_delete 93 = .ok (.iload 6, 2) := by decide +kernel
theorem d_Md_delete_95 : decode b_Md_delete 95 = .ok (.iload_n 3, 1) := by decide +kernel
theorem d_Md_delete_96 : decode b_Md_delete 96 = .ok (.if_icmp .ge 20, 3) := by decide +kernel
theorem d_Md_delete_99 : decode b_Md_delete 99 = .ok (.aload_n 0, 1) := by decide +kernel
theorem d_Md_delete_100 : decode b_Md_delete 100 = .ok (.getfield 36, 3) := by decide +kernel
theorem d_Md_delete_103 : decode b_Md_delete 103 = .ok (.iload 5, 2) := by decide +kernel
theorem d_Md_delete_105 : decode b_Md_delete 105 = .ok (.iload 4, 2) := by decide +kernel
theorem d_Md_delete_107 : decode b_Md_delete 107 = .ok (.iastore, 1) := by decide +kernel
theorem d_Md_delete_108 : decode b_Md_delete 108 = .ok (.aload_n 0, 1) := by decide +kernel
theorem d_Md_delete_109 : decode b_Md_delete 109 = .ok (.getfield 42, 3) := by decide +kernel
theorem d_Md_delete_112 : decode b_Md_delete 112 = .ok (.iload 5, 2) := by decide +kernel
theorem d_Md_delete_114 : decode b_Md_delete 114 = .ok (.iconst 0, 1) := by decide +kernel
theorem d_Md_delete_115 : decode b_Md_delete 115 = .ok (.bastore, 1) := by decide +kernel
theorem d_Md_delete_116 : decode b_Md_delete 116 = .ok (.aload_n 0, 1) := by decide +kernel
theorem d_Md_delete_117 : decode b_Md_delete 117 = .ok (.aload_n 0, 1) := by decide +kernel
theorem d_Md_delete_118 : decode b_Md_delete 118 = .ok (.getfield 39, 3) := by decide +kernel
theorem d_Md_delete_121 : decode b_Md_delete 121 = .ok (.iload 5, 2) := by decide +kernel
theorem d_Md_delete_123 : decode b_Md_delete 123 = .ok (.iaload, 1) := by decide +kernel
theorem d_Md_delete_124 : decode b_Md_delete 124 = .ok (.invokevirtual 106, 3) := by decide +kernel
theorem d_Md_delete_127 : decode b_Md_delete 127 = .ok (.istore 7, 2) := by decide +kernel
theorem d_Md_delete_129 : decode b_Md_delete 129 = .ok (.iload 7, 2) := by decide +kernel
theorem d_Md_delete_131 : decode b_Md_delete 131 = .ok (.iload_n 2, 1) := by decide +kernel
theorem d_Md_delete_132 : decode b_Md_delete 132 = .ok (.if_icmp .lt 17, 3) := by decide +kernel
theorem d_Md_delete_135 : decode b_Md_delete 135 = .ok (.iload 7, 2) := by decide +kernel
theorem d_Md_delete_137 : decode b_Md_delete 137 = .ok (.iload_n 3, 1) := by decide +kernel
theorem d_Md_delete_138 : decode b_Md_delete 138 = .ok (.if_icmp .ge 11, 3) := by decide +kernel
theorem d_Md_delete_141 : decode b_Md_delete 141 = .ok (.aload_n 0, 1) := by decide +kernel
theorem d_Md_delete_142 : decode b_Md_delete 142 = .ok (.getfield 39, 3) := by decide +kernel
theorem d_Md_delete_145 : decode b_Md_delete 145 = .ok (.iload 5, 2) := by decide +kernel
theorem d_Md_delete_147 : decode b_Md_delete 147 = .ok (.iconst 0, 1) := by decide +kernel
theorem d_Md_delete_148 : decode b_Md_delete 148 = .ok (.iastore, 1) := by decide +kernel
theorem d_Md_delete_149 : decode b_Md_delete 149 = .ok (.iinc 5 1, 3) := by decide +kernel
theorem d_Md_delete_152 : decode b_Md_delete 152 = .ok (.goto (-87), 3) := by decide +kernel
theorem d_Md_delete_155 : decode b_Md_delete 155 = .ok (.iload_n 3, 1) := by decide +kernel
theorem d_Md_delete_156 : decode b_Md_delete 156 = .ok (.iload_n 2, 1) := by decide +kernel
theorem d_Md_delete_157 : decode b_Md_delete 157 = .ok (.isub, 1) := by decide +kernel
theorem d_Md_delete_158 : decode b_Md_delete 158 = .ok (.istore 5, 2) := by decide +kernel
theorem d_Md_delete_160 : decode b_Md_delete 160 = .ok (.iload_n 3, 1) := by decide +kernel
theorem d_Md_delete_161 : decode b_Md_delete 161 = .ok (.istore 6, 2) := by decide +kernel
theorem d_Md_delete_163 : decode b_Md_delete 163 = .ok (.iload 6, 2) := by decide +kernel
theorem d_Md_delete_165 : decode b_Md_delete 165 = .ok (.aload_n 0, 1) := by decide +kernel
theorem d_Md_delete_166 : decode b_Md_delete 166 = .ok (.getfield 74, 3) := by decide +kernel
theorem d_Md_delete_169 : decode b_Md_delete 169 = .ok (.if_icmp .ge 77, 3) := by decide +kernel
theorem d_Md_delete_172 : decode b_Md_delete 172 = .ok (.aload_n 0, 1) := by decide +kernel
theorem d_Md_delete_173 : decode b_Md_delete 173 = .ok (.getfield 23, 3) := by decide +kernel
theorem d_Md_delete_176 : decode b_Md_delete 176 = .ok (.iload 6, 2) := by decide +kernel
theorem d_Md_delete_178 : decode b_Md_delete 178 = .ok (.iload 5, 2) := by decide +kernel
theorem d_Md_delete_180 : decode b_Md_delete 180 = .ok (.isub, 1) := by decide +kernel
theorem d_Md_delete_181 : decode b_Md_delete 181 = .ok (.aload_n 0, 1) := by decide +kernel
theorem d_Md_delete_182 : decode b_Md_delete 182 = .ok (.getfield 23, 3) := by decide +kernel
theorem d_Md_delete_185 : decode b_Md_delete 185 = .ok (.iload 6, 2) := by decide +kernel
theorem d_Md_delete_187 : decode b_Md_delete 187 = .ok (.iaload, 1) := by decide +kernel
theorem d_Md_delete_188 : decode b_Md_delete 188 = .ok (.iastore, 1) := by decide +kernel
theorem d_Md_delete_189 : decode b_Md_delete 189 = .ok (.aload_n 0, 1) := by decide +kernel
theorem d_Md_delete_190 : decode b_Md_delete 190 = .ok (.getfield 26, 3) := by decide +kernel
theorem d_Md_delete_193 : decode b_Md_delete 193 = .ok (.iload 6, 2) := by decide +kernel
theorem d_Md_delete_195 : decode b_Md_delete 195 = .ok (.iload 5, 2) := by decide +kernel
theorem d_Md_delete_197 : decode b_Md_delete 197 = .ok (.isub, 1) := by decide +kernel
theorem d_Md_delete_198 : decode b_Md_delete 198 = .ok (.aload_n 0, 1) := by decide +kernel
theorem d_Md_delete_199 : decode b_Md_delete 199 = .ok (.getfield 26, 3) := by decide +kernel
theorem d_Md_delete_202 : decode b_Md_delete 202 = .ok (.iload 6, 2) := by decide +kernel
theorem d_Md_delete_204 : decode b_Md_delete 204 = .ok (.iaload, 1) := by decide +kernel
theorem d_Md_delete_205 : decode b_Md_delete 205 = .ok (.iastore, 1) := by decide +kernel
theorem d_Md_delete_206 : decode b_Md_delete 206 = .ok (.aload_n 0, 1) := by decide +kernel
theorem d_Md_delete_207 : decode b_Md_delete 207 = .ok (.getfield 29, 3) := by decide +kernel
theorem d_Md_delete_210 : decode b_Md_delete 210 = .ok (.iload 6, 2) := by decide +kernel
theorem d_Md_delete_212 : decode b_Md_delete 212 = .ok (.iload 5, 2) := by decide +kernel
theorem d_Md_delete_214 : decode b_Md_delete 214 = .ok (.isub, 1) := by decide +kernel
theorem d_Md_delete_215 : decode b_Md_delete 215 = .ok (.aload_n 0, 1) := by decide +kernel
theorem d_Md_delete_216 : decode b_Md_delete 216 = .ok (.getfield 29, 3) := by decide +kernel
theorem d_Md_delete_219 : decode b_Md_delete 219 = .ok (.iload 6, 2) := by decide +kernel
theorem d_Md_delete_221 : decode b_Md_delete 221 = .ok (.laload, 1) := by decide +kernel
theorem d_Md_delete_222 : decode b_Md_delete 222 = .ok (.lastore, 1) := by decide +kernel
theorem d_Md_delete_223 : decode b_Md_delete 223 = .ok (.aload_n 0, 1) := by decide +kernel
theorem d_Md_delete_224 : decode b_Md_delete 224 = .ok (.getfield 33, 3) := by decide +kernel
theorem d_Md_delete_227 : decode b_Md_delete 227 = .ok (.iload 6, 2) := by decide +kernel
theorem d_Md_delete_229 : decode b_Md_delete 229 = .ok (.iload 5, 2) := by decide +kernel
theorem d_Md_delete_231 : decode b_Md_delete 231 = .ok (.isub, 1) := by decide +kernel
theorem d_Md_delete_232 : decode b_Md_delete 232 = .ok (.aload_n 0, 1) := by decide +kernel
theorem d_Md_delete_233 : decode b_Md_delete 233 = .ok (.getfield 33, 3) := by decide +kernel
theorem d_Md_delete_236 : decode b_Md_delete 236 = .ok (.iload 6, 2) := by decide +kernel
theorem d_Md_delete_238 : decode b_Md_delete 238 = .ok (.laload, 1) := by decide +kernel
theorem d_Md_delete_239 : decode b_Md_delete 239 = .ok (.lastore, 1) := by decide +kernel
theorem d_Md_delete_240 : decode b_Md_delete 240 = .ok (.iinc 6 1, 3) := by decide +kernel
theorem d_Md_delete_243 : decode b_Md_delete 243 = .ok (.goto (-80), 3) := by decide +kernel
theorem d_Md_delete_246 : decode b_Md_delete 246 = .ok (.aload_n 0, 1) := by decide +kernel
theorem d_Md_delete_247 : decode b_Md_delete 247 = .ok (.dup, 1) := by decide +kernel
theorem d_Md_delete_248 : decode b_Md_delete 248 = .ok (.getfield 74, 3) := by decide +kernel
theorem d_Md_delete_251 : decode b_Md_delete 251 = .ok (.iload 5, 2) := by decide +kernel
theorem d_Md_delete_253 : decode b_Md_delete 253 = .ok (.isub, 1) := by decide +kernel
theorem d_Md_delete_254 : decode b_Md_delete 254 = .ok (.putfield 74, 3) := by decide +kernel
theorem d_Md_delete_257 : decode b_Md_delete 257 = .ok (.iconst 0, 1) := by decide +kernel
theorem d_Md_delete_258 : decode b_Md_delete 258 = .ok (.ireturn, 1) := by decide +kernel
theorem d_Md_position_0 : decode b_Md_position 0 = .ok (.iload_n 1, 1) := by decide +kernel
theorem d_Md_position_1 : decode b_Md_position 1 = .ok (.iconst 1, 1) := by decide +kernel
theorem d_Md_position_2 : decode b_Md_position 2 = .ok (.if_icmp .lt 11, 3) := by decide +kernel
theorem d_Md_position_5 : decode b_Md_position 5 = .ok (.iload_n 1, 1) := by decide +kernel
theorem d_Md_position_6 : decode b_Md_position 6 = .ok (.aload_n 0, 1) := by decide +kernel
theorem d_Md_position_7 : decode b_Md_position 7 = .ok (.getfield 68, 3) := by decide +kernel
theorem d_Md_position_10 : decode b_Md_position 10 = .ok (.if_icmp .le 5, 3) := by decide +kernel
theorem d_Md_position_13 : decode b_Md_position 13 = .ok (.iconst (-1), 1) := by decide +kernel
theorem d_Md_position_14 : decode b_Md_position 14 = .ok (.ireturn, 1) := by decide +kernel
theorem d_Md_position_15 : decode b_Md_position 15 = .ok (.aload_n 0, 1) := by decide +kernel
theorem d_Md_position_16 : decode b_Md_position 16 = .ok (.aload_n 0, 1) := by decide +kernel
theorem d_Md_position_17 : decode b_Md_position 17 = .ok (.getfield 36, 3) := by decide +kernel
theorem d_Md_position_20 : decode b_Md_position 20 = .ok (.iload_n 1, 1) := by decide +kernel
theorem d_Md_position_21 : decode b_Md_position 21 = .ok (.iaload, 1) := by decide +kernel
theorem d_Md_position_22 : decode b_Md_position 22 = .ok (.invokevirtual 106, 3) := by decide +kernel
theorem d_Md_position_25 : decode b_Md_position 25 = .ok (.istore_n 3, 1) := by decide +kernel
theorem d_Md_position_26 : decode b_Md_position 26 = .ok (.aload_n 0, 1) := by decide +kernel
theorem d_Md_position_27 : decode b_Md_position 27 = .ok (.aload_n 0, 1) := by decide +kernel
theorem d_Md_position_28 : decode b_Md_position 28 = .ok (.getfield 39, 3) := by decide +kernel
theorem d_Md_position_31 : decode b_Md_position 31 = .ok (.iload_n 1, 1) := by decide +kernel
theorem d_Md_position_32 : decode b_Md_position 32 = .ok (.iaload, 1) := by decide +kernel
theorem d_Md_position_33 : decode b_Md_position 33 = .ok (.invokevirtual 106, 3) := by decide +kernel
theorem d_Md_position_36 : decode b_Md_position 36 = .ok (.istore 4, 2) := by decide +kernel
theorem d_Md_position_38 : decode b_Md_position 38 = .ok (.iload_n 2, 1) := by decide +kernel
theorem d_Md_position_39 : decode b_Md_position 39 = .ok (.tableswitch 93 0 3 #[29, 45, 60, 78], 29) := by decide +kernel
theorem d_Md_position_68 : decode b_Md_position 68 = .ok (.iload_n 3, 1) := by decide +kernel
theorem d_Md_position_69 : decode b_Md_position 69 = .ok (.iconst (-1), 1) := by decide +kernel
theorem d_Md_position_70 : decode b_Md_position 70 = .ok (.if_icmp .ne 7, 3) := by decide +kernel
theorem d_Md_position_73 : decode b_Md_position 73 = .ok (.iconst 0, 1) := by decide +kernel
theorem d_Md_position_74 : decode b_Md_position 74 = .ok (.goto 9, 3) := by decide +kernel
theorem d_Md_position_77 : decode b_Md_position 77 = .ok (.aload_n 0, 1) := by decide +kernel
theorem d_Md_position_78 : decode b_Md_position 78 = .ok (.getfield 26, 3) := by decide +kernel
theorem d_Md_position_81 : decode b_Md_position 81 = .ok (.iload_n 3, 1) := by decide +kernel
theorem d_Md_position_82 : decode b_Md_position 82 = .ok (.iaload, 1) := by decide +kernel
theorem d_Md_position_83 : decode b_Md_position 83 = .ok (.ireturn, 1) := by decide +kernel
theorem d_Md_position_84 : decode b_Md_position 84 = .ok (.iload_n 3, 1) := by decide +kernel
theorem d_Md_position_85 : decode b_Md_position 85 = .ok (.iconst (-1), 1) := by decide +kernel
theorem d_Md_position_86 : decode b_Md_position 86 = .ok (.if_icmp .ne 7, 3) := by decide +kernel
theorem d_Md_position_89 : decode b_Md_position 89 = .ok (.iconst 0, 1) := by decide +kernel
theorem d_Md_position_90 : decode b_Md_position 90 = .ok (.goto 8, 3) := by decide +kernel
theorem d_Md_position_93 : decode b_Md_position 93 = .ok (.aload_n 0, 1) := by decide +kernel
theorem d_Md_position_94 : decode b_Md_position 94 = .ok (.iload_n 3, 1) := by decide +kernel
theorem d_Md_position_95 : decode b_Md_position 95 = .ok (.invokevirtual 77, 3) := by decide +kernel
theorem d_Md_position_98 : decode b_Md_position 98 = .ok (.ireturn, 1) := by decide +kernel
theorem d_Md_position_99 : decode b_Md_position 99 = .ok (.iload 4, 2) := by decide +kernel
theorem d_Md_position_101 : decode b_Md_position 101 = .ok (.iconst (-1), 1) := by decide +kernel
theorem d_Md_position_102 : decode b_Md_position 102 = .ok (.if_icmp .ne 7, 3) := by decide +kernel
theorem d_Md_position_105 : decode b_Md_position 105 = .ok (.iconst 0, 1) := by decide +kernel
theorem d_Md_position_106 : decode b_Md_position 106 = .ok (.goto 10, 3) := by decide +kernel
theorem d_Md_position_109 : decode b_Md_position 109 = .ok (.aload_n 0, 1) := by decide +kernel
theorem d_Md_position_110 : decode b_Md_position 110 = .ok (.getfield 26, 3) := by decide +kernel
theorem d_Md_position_113 : decode b_Md_position 113 = .ok (.iload 4, 2) := by decide +kernel
theorem d_Md_position_115 : decode b_Md_position 115 = .ok (.iaload, 1) := by decide +kernel
theorem d_Md_position_116 : decode b_Md_position 116 = .ok (.ireturn, 1) := by decide +kernel
theorem d_Md_position_117 : decode b_Md_position 117 = .ok (.aload_n 0, 1) := by decide +kernel
theorem d_Md_position_118 : decode b_Md_position 118 = .ok (.getfield 42, 3) := by decide +kernel
theorem d_Md_position_121 : decode b_Md_position 121 = .ok (.iload_n 1, 1) := by decide +kernel
theorem d_Md_position_122 : decode b_Md_position 122 = .ok (.baload, 1) := by decide +kernel
theorem d_Md_position_123 : decode b_Md_position 123 = .ok (.ifCond .eq 7, 3) := by decide +kernel
theorem d_Md_position_126 : decode b_Md_position 126 = .ok (.iconst 1, 1) := by decide +kernel
theorem d_Md_position_127 : decode b_Md_position 127 = .ok (.goto 4, 3) := by decide +kernel
theorem d_Md_position_130 : decode b_Md_position 130 = .ok (.iconst 0, 1) := by decide +kernel
theorem d_Md_position_131 : decode b_Md_position 131 = .ok (.ireturn, 1) := by decide +kernel
theorem d_Md_position_132 : decode b_Md_position 132 = .ok (.iconst (-1), 1) := by decide +kernel
theorem d_Md_position_133 : decode b_Md_position 133 = .ok (.ireturn, 1) := by decide +kernel
theorem d_Md_order_0 : decode b_Md_order 0 = .ok (.iload_n 1, 1) := by decide +kernel
theorem d_Md_order_1 : decode b_Md_order 1 = .ok (.ifCond .lt 11, 3) := by decide +kernel
theorem d_Md_order_4 : decode b_Md_order 4 = .ok (.iload_n 1, 1) := by decide +kernel
theorem d_Md_order_5 : decode b_Md_order 5 = .ok (.aload_n 0, 1) := by decide +kernel
theorem d_Md_order_6 : decode b_Md_order 6 = .ok (.getfield 74, 3) := by decide +kernel
theorem d_Md_order_9 : decode b_Md_order 9 = .ok (.if_icmp .lt 5, 3) := by decide +kernel
theorem d_Md_order_12 : decode b_Md_order 12 = .ok (.iconst (-1), 1) := by decide +kernel
theorem d_Md_order_13 : decode b_Md_order 13 = .ok (.ireturn, 1) := by decide +kernel
theorem d_Md_order_14 : decode b_Md_order 14 = .ok (.iload_n 2, 1) := by decide +kernel
theorem d_Md_order_15 : decode b_Md_order 15 = .ok (.tableswitch 58 0 3 #[29, 36, 42, 50], 29) := by decide +kernel
theorem d_Md_order_44 : decode b_Md_order 44 = .ok (.aload_n 0, 1) := by decide +kernel
theorem d_Md_order_45 : decode b_Md_order 45 = .ok (.getfield 26, 3) := by decide +kernel
theorem d_Md_order_48 : decode b_Md_order 48 = .ok (.iload_n 1, 1) := by decide +kernel
theorem d_Md_order_49 : decode b_Md_order 49 = .ok (.iaload, 1) := by decide +kernel
theorem d_Md_order_50 : decode b_Md_order 50 = .ok (.ireturn, 1) := by decide +kernel
theorem d_Md_order_51 : decode b_Md_order 51 = .ok (.aload_n 0, 1) := by decide +kernel
theorem d_Md_order_52 : decode b_Md_order 52 = .ok (.iload_n 1, 1) := by decide +kernel
theorem d_Md_order_53 : decode b_Md_order 53 = .ok (.invokevirtual 77, 3) := by decide +kernel
theorem d_Md_order_56 : decode b_Md_order 56 = .ok (.ireturn, 1) := by decide +kernel
theorem d_Md_order_57 : decode b_Md_order 57 = .ok (.aload_n 0, 1) := by decide +kernel
theorem d_Md_order_58 : decode b_Md_order 58 = .ok (.getfield 29, 3) := by decide +kernel
theorem d_Md_order_61 : decode b_Md_order 61 = .ok (.iload_n 1, 1) := by decide +kernel
theorem d_Md_order_62 : decode b_Md_order 62 = .ok (.laload, 1) := by decide +kernel
theorem d_Md_order_63 : decode b_Md_order 63 = .ok (.l2i, 1) := by decide +kernel
theorem d_Md_order_64 : decode b_Md_order 64 = .ok (.ireturn, 1) := by decide +kernel
theorem d_Md_order_65 : decode b_Md_order 65 = .ok (.aload_n 0, 1) := by decide +kernel
theorem d_Md_order_66 : decode b_Md_order 66 = .ok (.getfield 33, 3) := by decide +kernel
theorem d_Md_order_69 : decode b_Md_order 69 = .ok (.iload_n 1, 1) := by decide +kernel
theorem d_Md_order_70 : decode b_Md_order 70 = .ok (.laload, 1) := by decide +kernel
theorem d_Md_order_71 : decode b_Md_order 71 = .ok (.l2i, 1) := by decide +kernel
theorem d_Md_order_72 : decode b_Md_order 72 = .ok (.ireturn, 1) := by decide +kernel
theorem d_Md_order_73 : decode b_Md_order 73 = .ok (.iconst (-1), 1) := by decide +kernel
theorem d_Md_order_74 : decode b_Md_order 74 = .ok (.ireturn, 1) := by decide +kernel
theorem d_Md_count_0 : decode b_Md_count 0 = .ok (.aload_n 0, 1) := by decide +kernel
theorem d_Md_count_1 : decode b_Md_count 1 = .ok (.getfield 74, 3) := by decide +kernel
theorem d_Md_count_4 : decode b_Md_count 4 = .ok (.ireturn, 1) := by decide +kernel
theorem d_Md_within_0 : decode b_Md_within 0 = .ok (.iload_n 1, 1) := by decide +kernel
theorem d_Md_within_1 : decode b_Md_within 1 = .ok (.iconst 1, 1) := by decide +kernel
theorem d_Md_within_2 : decode b_Md_within 2 = .ok (.if_icmp .lt 11, 3) := by decide +kernel
theorem d_Md_within_5 : decode b_Md_within 5 = .ok (.iload_n 1, 1) := by decide +kernel
theorem d_Md_within_6 : decode b_Md_within 6 = .ok (.aload_n 0, 1) := by decide +kernel
theorem d_Md_within_7 : decode b_Md_within 7 = .ok (.getfield 68, 3) := by decide +kernel
theorem d_Md_within_10 : decode b_Md_within 10 = .ok (.if_icmp .le 5, 3) := by decide +kernel
theorem d_Md_within_13 : decode b_Md_within 13 = .ok (.iconst (-1), 1) := by decide +kernel
theorem d_Md_within_14 : decode b_Md_within 14 = .ok (.ireturn, 1) := by decide +kernel
theorem d_Md_within_15 : decode b_Md_within 15 = .ok (.aload_n 0, 1) := by decide +kernel
theorem d_Md_within_16 : decode b_Md_within 16 = .ok (.aload_n 0, 1) := by decide +kernel
theorem d_Md_within_17 : decode b_Md_within 17 = .ok (.getfield 39, 3) := by decide +kernel
theorem d_Md_within_20 : decode b_Md_within 20 = .ok (.iload_n 1, 1) := by decide +kernel
theorem d_Md_within_21 : decode b_Md_within 21 = .ok (.iaload, 1) := by decide +kernel
theorem d_Md_within_22 : decode b_Md_within 22 = .ok (.invokevirtual 106, 3) := by decide +kernel
theorem d_Md_within_25 : decode b_Md_within 25 = .ok (.istore_n 2, 1) := by decide +kernel
theorem d_Md_within_26 : decode b_Md_within 26 = .ok (.iload_n 2, 1) := by decide +kernel
theorem d_Md_within_27 : decode b_Md_within 27 = .ok (.iconst (-1), 1) := by decide +kernel
theorem d_Md_within_28 : decode b_Md_within 28 = .ok (.if_icmp .ne 7, 3) := by decide +kernel
theorem d_Md_within_31 : decode b_Md_within 31 = .ok (.iconst (-1), 1) := by decide +kernel
theorem d_Md_within_32 : decode b_Md_within 32 = .ok (.goto 12, 3) := by decide +kernel
theorem d_Md_within_35 : decode b_Md_within 35 = .ok (.aload_n 0, 1) := by decide +kernel
theorem d_Md_within_36 : decode b_Md_within 36 = .ok (.iload_n 2, 1) := by decide +kernel
theorem d_Md_within_37 : decode b_Md_within 37 = .ok (.invokevirtual 85, 3) := by decide +kernel
theorem d_Md_within_40 : decode b_Md_within 40 = .ok (.iload_n 2, 1) := by decide +kernel
theorem d_Md_within_41 : decode b_Md_within 41 = .ok (.isub, 1) := by decide +kernel
theorem d_Md_within_42 : decode b_Md_within 42 = .ok (.iconst 1, 1) := by decide +kernel
theorem d_Md_within_43 : decode b_Md_within 43 = .ok (.isub, 1) := by decide +kernel
theorem d_Md_within_44 : decode b_Md_within 44 = .ok (.ireturn, 1) := by decide +kernel
