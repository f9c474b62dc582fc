theorem d_Lw_law_0 : decode code 0 = .ok (.new 7, 3) := by decide +kernel
theorem d_Lw_law_3 : decode code 3 = .ok (.dup, 1) := by decide +kernel
theorem d_Lw_law_4 : decode code 4 = .ok (.invokespecial 9, 3) := by decide +kernel
theorem d_Lw_law_7 : decode code 7 = .ok (.astore_n 1, 1) := by decide +kernel
theorem d_Lw_law_8 : decode code 8 = .ok (.new 10, 3) := by decide +kernel
theorem d_Lw_law_11 : decode code 11 = .ok (.dup, 1) := by decide +kernel
theorem d_Lw_law_12 : decode code 12 = .ok (.invokespecial 12, 3) := by decide +kernel
theorem d_Lw_law_15 : decode code 15 = .ok (.astore_n 2, 1) := by decide +kernel
theorem d_Lw_law_16 : decode code 16 = .ok (.iconst 0, 1) := by decide +kernel
theorem d_Lw_law_17 : decode code 17 = .ok (.istore_n 3, 1) := by decide +kernel
theorem d_Lw_law_18 : decode code 18 = .ok (.iload_n 3, 1) := by decide +kernel
theorem d_Lw_law_19 : decode code 19 = .ok (.aload_n 0, 1) := by decide +kernel
theorem d_Lw_law_20 : decode code 20 = .ok (.arraylength, 1) := by decide +kernel
theorem d_Lw_law_21 : decode code 21 = .ok (.bipush 6, 2) := by decide +kernel
theorem d_Lw_law_23 : decode code 23 = .ok (.isub, 1) := by decide +kernel
theorem d_Lw_law_24 : decode code 24 = .ok (.if_icmp .gt 635, 3) := by decide +kernel
theorem d_Lw_law_27 : decode code 27 = .ok (.aload_n 0, 1) := by decide +kernel
theorem d_Lw_law_28 : decode code 28 = .ok (.iload_n 3, 1) := by decide +kernel
theorem d_Lw_law_29 : decode code 29 = .ok (.iaload, 1) := by decide +kernel
theorem d_Lw_law_30 : decode code 30 = .ok (.bipush 15, 2) := by decide +kernel
theorem d_Lw_law_32 : decode code 32 = .ok (.iand, 1) := by decide +kernel
theorem d_Lw_law_33 : decode code 33 = .ok (.tableswitch 620 0 13 #[71, 120, 133, 206, 239, 272, 296, 399, 462, 485, 518, 551, 564, 597], 71) := by decide +kernel
theorem d_Lw_law_104 : decode code 104 = .ok (.aload_n 1, 1) := by decide +kernel
theorem d_Lw_law_105 : decode code 105 = .ok (.aload_n 0, 1) := by decide +kernel
theorem d_Lw_law_106 : decode code 106 = .ok (.iload_n 3, 1) := by decide +kernel
theorem d_Lw_law_107 : decode code 107 = .ok (.iconst 1, 1) := by decide +kernel
theorem d_Lw_law_108 : decode code 108 = .ok (.iadd, 1) := by decide +kernel
theorem d_Lw_law_109 : decode code 109 = .ok (.iaload, 1) := by decide +kernel
theorem d_Lw_law_110 : decode code 110 = .ok (.aload_n 0, 1) := by decide +kernel
theorem d_Lw_law_111 : decode code 111 = .ok (.iload_n 3, 1) := by decide +kernel
theorem d_Lw_law_112 : decode code 112 = .ok (.iconst 2, 1) := by decide +kernel
theorem d_Lw_law_113 : decode code 113 = .ok (.iadd, 1) := by decide +kernel
theorem d_Lw_law_114 : decode code 114 = .ok (.iaload, 1) := by decide +kernel
theorem d_Lw_law_115 : decode code 115 = .ok (.ifCond .eq 7, 3) := by decide +kernel
theorem d_Lw_law_118 : decode code 118 = .ok (.iconst 1, 1) := by decide +kernel
theorem d_Lw_law_119 : decode code 119 = .ok (.goto 4, 3) := by decide +kernel
theorem d_Lw_law_122 : decode code 122 = .ok (.iconst 0, 1) := by decide +kernel
theorem d_Lw_law_123 : decode code 123 = .ok (.invokevirtual 13, 3) := by decide +kernel
theorem d_Lw_law_126 : decode code 126 = .ok (.aload_n 2, 1) := by decide +kernel
theorem d_Lw_law_127 : decode code 127 = .ok (.aload_n 0, 1) := by decide +kernel
theorem d_Lw_law_128 : decode code 128 = .ok (.iload_n 3, 1) := by decide +kernel
theorem d_Lw_law_129 : decode code 129 = .ok (.iconst 1, 1) := by decide +kernel
theorem d_Lw_law_130 : decode code 130 = .ok (.iadd, 1) := by decide +kernel
theorem d_Lw_law_131 : decode code 131 = .ok (.iaload, 1) := by decide +kernel
theorem d_Lw_law_132 : decode code 132 = .ok (.aload_n 0, 1) := by decide +kernel
theorem d_Lw_law_133 : decode code 133 = .ok (.iload_n 3, 1) := by decide +kernel
theorem d_Lw_law_134 : decode code 134 = .ok (.iconst 2, 1) := by decide +kernel
theorem d_Lw_law_135 : decode code 135 = .ok (.iadd, 1) := by decide +kernel
theorem d_Lw_law_136 : decode code 136 = .ok (.iaload, 1) := by decide +kernel
theorem d_Lw_law_137 : decode code 137 = .ok (.ifCond .eq 7, 3) := by decide +kernel
theorem d_Lw_law_140 : decode code 140 = .ok (.iconst 1, 1) := by decide +kernel
theorem d_Lw_law_141 : decode code 141 = .ok (.goto 4, 3) := by decide +kernel
theorem d_Lw_law_144 : decode code 144 = .ok (.iconst 0, 1) := by decide +kernel
theorem d_Lw_law_145 : decode code 145 = .ok (.invokevirtual 17, 3) := by decide +kernel
theorem d_Lw_law_148 : decode code 148 = .ok (.if_icmp .eq 505, 3) := by decide +kernel
theorem d_Lw_law_151 : decode code 151 = .ok (.iconst 0, 1) := by decide +kernel
theorem d_Lw_law_152 : decode code 152 = .ok (.ireturn, 1) := by decide +kernel
theorem d_Lw_law_153 : decode code 153 = .ok (.aload_n 1, 1) := by decide +kernel
theorem d_Lw_law_154 : decode code 154 = .ok (.invokevirtual 18, 3) := by decide +kernel
theorem d_Lw_law_157 : decode code 157 = .ok (.aload_n 2, 1) := by decide +kernel
theorem d_Lw_law_158 : decode code 158 = .ok (.invokevirtual 22, 3) := by decide +kernel
theorem d_Lw_law_161 : decode code 161 = .ok (.if_icmp .eq 492, 3) := by decide +kernel
theorem d_Lw_law_164 : decode code 164 = .ok (.iconst 0, 1) := by decide +kernel
theorem d_Lw_law_165 : decode code 165 = .ok (.ireturn, 1) := by decide +kernel
theorem d_Lw_law_166 : decode code 166 = .ok (.aload_n 1, 1) := by decide +kernel
theorem d_Lw_law_167 : decode code 167 = .ok (.aload_n 0, 1) := by decide +kernel
theorem d_Lw_law_168 : decode code 168 = .ok (.iload_n 3, 1) := by decide +kernel
theorem d_Lw_law_169 : decode code 169 = .ok (.iconst 1, 1) := by decide +kernel
theorem d_Lw_law_170 : decode code 170 = .ok (.iadd, 1) := by decide +kernel
theorem d_Lw_law_171 : decode code 171 = .ok (.iaload, 1) := by decide +kernel
theorem d_Lw_law_172 : decode code 172 = .ok (.aload_n 0, 1) := by decide +kernel
theorem d_Lw_law_173 : decode code 173 = .ok (.iload_n 3, 1) := by decide +kernel
theorem d_Lw_law_174 : decode code 174 = .ok (.iconst 2, 1) := by decide +kernel
theorem d_Lw_law_175 : decode code 175 = .ok (.iadd, 1) := by decide +kernel
theorem d_Lw_law_176 : decode code 176 = .ok (.iaload, 1) := by decide +kernel
theorem d_Lw_law_177 : decode code 177 = .ok (.aload_n 0, 1) := by decide +kernel
theorem d_Lw_law_178 : decode code 178 = .ok (.iload_n 3, 1) := by decide +kernel
theorem d_Lw_law_179 : decode code 179 = .ok (.iconst 3, 1) := by decide +kernel
theorem d_Lw_law_180 : decode code 180 = .ok (.iadd, 1) := by decide +kernel
theorem d_Lw_law_181 : decode code 181 = .ok (.iaload, 1) := by decide +kernel
theorem d_Lw_law_182 : decode code 182 = .ok (.i2l, 1) := by decide +kernel
theorem d_Lw_law_183 : decode code 183 = .ok (.bipush 32, 2) := by decide +kernel
theorem d_Lw_law_185 : decode code 185 = .ok (.lshl, 1) := by decide +kernel
theorem d_Lw_law_186 : decode code 186 = .ok (.aload_n 0, 1) := by decide +kernel
theorem d_Lw_law_187 : decode code 187 = .ok (.iload_n 3, 1) := by decide +kernel
theorem d_Lw_law_188 : decode code 188 = .ok (.iconst 4, 1) := by decide +kernel
theorem d_Lw_law_189 : decode code 189 = .ok (.iadd, 1) := by decide +kernel
theorem d_Lw_law_190 : decode code 190 = .ok (.iaload, 1) := by decide +kernel
theorem d_Lw_law_191 : decode code 191 = .ok (.i2l, 1) := by decide +kernel
theorem d_Lw_law_192 : decode code 192 = .ok (.ldc2_w 23, 3) := by decide +kernel
theorem d_Lw_law_195 : decode code 195 = .ok (.land, 1) := by decide +kernel
theorem d_Lw_law_196 : decode code 196 = .ok (.lor, 1) := by decide +kernel
theorem d_Lw_law_197 : decode code 197 = .ok (.invokevirtual 25, 3) := by decide +kernel
theorem d_Lw_law_200 : decode code 200 = .ok (.aload_n 2, 1) := by decide +kernel
theorem d_Lw_law_201 : decode code 201 = .ok (.aload_n 0, 1) := by decide +kernel
theorem d_Lw_law_202 : decode code 202 = .ok (.iload_n 3, 1) := by decide +kernel
theorem d_Lw_law_203 : decode code 203 = .ok (.iconst 1, 1) := by decide +kernel
theorem d_Lw_law_204 : decode code 204 = .ok (.iadd, 1) := by decide +kernel
theorem d_Lw_law_205 : decode code 205 = .ok (.iaload, 1) := by decide +kernel
theorem d_Lw_law_206 : decode code 206 = .ok (.aload_n 0, 1) := by decide +kernel
theorem d_Lw_law_207 : decode code 207 = .ok (.iload_n 3, 1) := by decide +kernel
theorem d_Lw_law_208 : decode code 208 = .ok (.iconst 2, 1) := by decide +kernel
theorem d_Lw_law_209 : decode code 209 = .ok (.iadd, 1) := by decide +kernel
theorem d_Lw_law_210 : decode code 210 = .ok (.iaload, 1) := by decide +kernel
theorem d_Lw_law_211 : decode code 211 = .ok (.aload_n 0, 1) := by decide +kernel
theorem d_Lw_law_212 : decode code 212 = .ok (.iload_n 3, 1) := by decide +kernel
theorem d_Lw_law_213 : decode code 213 = .ok (.iconst 3, 1) := by decide +kernel
theorem d_Lw_law_214 : decode code 214 = .ok (.iadd, 1) := by decide +kernel
theorem d_Lw_law_215 : decode code 215 = .ok (.iaload, 1) := by decide +kernel
theorem d_Lw_law_216 : decode code 216 = .ok (.i2l, 1) := by decide +kernel
theorem d_Lw_law_217 : decode code 217 = .ok (.bipush 32, 2) := by decide +kernel
theorem d_Lw_law_219 : decode code 219 = .ok (.lshl, 1) := by decide +kernel
theorem d_Lw_law_220 : decode code 220 = .ok (.aload_n 0, 1) := by decide +kernel
theorem d_Lw_law_221 : decode code 221 = .ok (.iload_n 3, 1) := by decide +kernel
theorem d_Lw_law_222 : decode code 222 = .ok (.iconst 4, 1) := by decide +kernel
theorem d_Lw_law_223 : decode code 223 = .ok (.iadd, 1) := by decide +kernel
theorem d_Lw_law_224 : decode code 224 = .ok (.iaload, 1) := by decide +kernel
theorem d_Lw_law_225 : decode code 225 = .ok (.i2l, 1) := by decide +kernel
theorem d_Lw_law_226 : decode code 226 = .ok (.ldc2_w 23, 3) := by decide +kernel
theorem d_Lw_law_229 : decode code 229 = .ok (.land, 1) := by decide +kernel
theorem d_Lw_law_230 : decode code 230 = .ok (.lor, 1) := by decide +kernel
theorem d_Lw_law_231 : decode code 231 = .ok (.invokevirtual 29, 3) := by decide +kernel
theorem d_Lw_law_234 : decode code 234 = .ok (.if_icmp .eq 419, 3) := by decide +kernel
theorem d_Lw_law_237 : decode code 237 = .ok (.iconst 0, 1) := by decide +kernel
theorem d_Lw_law_238 : decode code 238 = .ok (.ireturn, 1) := by decide +kernel
theorem d_Lw_law_239 : decode code 239 = .ok (.aload_n 1, 1) := by decide +kernel
theorem d_Lw_law_240 : decode code 240 = .ok (.aload_n 0, 1) := by decide +kernel
theorem d_Lw_law_241 : decode code 241 = .ok (.iload_n 3, 1) := by decide +kernel
theorem d_Lw_law_242 : decode code 242 = .ok (.iconst 1, 1) := by decide +kernel
theorem d_Lw_law_243 : decode code 243 = .ok (.iadd, 1) := by decide +kernel
theorem d_Lw_law_244 : decode code 244 = .ok (.iaload, 1) := by decide +kernel
theorem d_Lw_law_245 : decode code 245 = .ok (.aload_n 0, 1) := by decide +kernel
theorem d_Lw_law_246 : decode code 246 = .ok (.iload_n 3, 1) := by decide +kernel
theorem d_Lw_law_247 : decode code 247 = .ok (.iconst 2, 1) := by decide +kernel
theorem d_Lw_law_248 : decode code 248 = .ok (.iadd, 1) := by decide +kernel
theorem d_Lw_law_249 : decode code 249 = .ok (.iaload, 1) := by decide +kernel
theorem d_Lw_law_250 : decode code 250 = .ok (.invokevirtual 30, 3) := by decide +kernel
theorem d_Lw_law_253 : decode code 253 = .ok (.aload_n 2, 1) := by decide +kernel
theorem d_Lw_law_254 : decode code 254 = .ok (.aload_n 0, 1) := by decide +kernel
theorem d_Lw_law_255 : decode code 255 = .ok (.iload_n 3, 1) := by decide +kernel
theorem d_Lw_law_256 : decode code 256 = .ok (.iconst 1, 1) := by decide +kernel
theorem d_Lw_law_257 : decode code 257 = .ok (.iadd, 1) := by decide +kernel
theorem d_Lw_law_258 : decode code 258 = .ok (.iaload, 1) := by decide +kernel
theorem d_Lw_law_259 : decode code 259 = .ok (.aload_n 0, 1) := by decide +kernel
theorem d_Lw_law_260 : decode code 260 = .ok (.iload_n 3, 1) := by decide +kernel
theorem d_Lw_law_261 : decode code 261 = .ok (.iconst 2, 1) := by decide +kernel
theorem d_Lw_law_262 : decode code 262 = .ok (.iadd, 1) := by decide +kernel
theorem d_Lw_law_263 : decode code 263 = .ok (.iaload, 1) := by decide +kernel
theorem d_Lw_law_264 : decode code 264 = .ok (.invokevirtual 34, 3) := by decide +kernel
theorem d_Lw_law_267 : decode code 267 = .ok (.if_icmp .eq 386, 3) := by decide +kernel
theorem d_Lw_law_270 : decode code 270 = .ok (.iconst 0, 1) := by decide +kernel
theorem d_Lw_law_271 : decode code 271 = .ok (.ireturn, 1) := by decide +kernel
theorem d_Lw_law_272 : decode code 272 = .ok (.aload_n 1, 1) := by decide +kernel
theorem d_Lw_law_273 : decode code 273 = .ok (.aload_n 0, 1) := by decide +kernel
theorem d_Lw_law_274 : decode code 274 = .ok (.iload_n 3, 1) := by decide +kernel
theorem d_Lw_law_275 : decode code 275 = .ok (.iconst 1, 1) := by decide +kernel
theorem d_Lw_law_276 : decode code 276 = .ok (.iadd, 1) := by decide +kernel
theorem d_Lw_law_277 : decode code 277 = .ok (.iaload, 1) := by decide +kernel
theorem d_Lw_law_278 : decode code 278 = .ok (.aload_n 0, 1) := by decide +kernel
theorem d_Lw_law_279 : decode code 279 = .ok (.iload_n 3, 1) := by decide +kernel
theorem d_Lw_law_280 : decode code 280 = .ok (.iconst 2, 1) := by decide +kernel
theorem d_Lw_law_281 : decode code 281 = .ok (.iadd, 1) := by decide +kernel
theorem d_Lw_law_282 : decode code 282 = .ok (.iaload, 1) := by decide +kernel
theorem d_Lw_law_283 : decode code 283 = .ok (.invokevirtual 35, 3) := by decide +kernel
theorem d_Lw_law_286 : decode code 286 = .ok (.aload_n 2, 1) := by decide +kernel
theorem d_Lw_law_287 : decode code 287 = .ok (.aload_n 0, 1) := by decide +kernel
theorem d_Lw_law_288 : decode code 288 = .ok (.iload_n 3, 1) := by decide +kernel
theorem d_Lw_law_289 : decode code 289 = .ok (.iconst 1, 1) := by decide +kernel
theorem d_Lw_law_290 : decode code 290 = .ok (.iadd, 1) := by decide +kernel
theorem d_Lw_law_291 : decode code 291 = .ok (.iaload, 1) := by decide +kernel
theorem d_Lw_law_292 : decode code 292 = .ok (.aload_n 0, 1) := by decide +kernel
theorem d_Lw_law_293 : decode code 293 = .ok (.iload_n 3, 1) := by decide +kernel
theorem d_Lw_law_294 : decode code 294 = .ok (.iconst 2, 1) := by decide +kernel
theorem d_Lw_law_295 : decode code 295 = .ok (.iadd, 1) := by decide +kernel
theorem d_Lw_law_296 : decode code 296 = .ok (.iaload, 1) := by decide +kernel
theorem d_Lw_law_297 : decode code 297 = .ok (.invokevirtual 38, 3) := by decide +kernel
theorem d_Lw_law_300 : decode code 300 = .ok (.if_icmp .eq 353, 3) := by decide +kernel
theorem d_Lw_law_303 : decode code 303 = .ok (.iconst 0, 1) := by decide +kernel
theorem d_Lw_law_304 : decode code 304 = .ok (.ireturn, 1) := by decide +kernel
theorem d_Lw_law_305 : decode code 305 = .ok (.aload_n 1, 1) := by decide +kernel
theorem d_Lw_law_306 : decode code 306 = .ok (.aload_n 0, 1) := by decide +kernel
theorem d_Lw_law_307 : decode code 307 = .ok (.iload_n 3, 1) := by decide +kernel
theorem d_Lw_law_308 : decode code 308 = .ok (.iconst 1, 1) := by decide +kernel
theorem d_Lw_law_309 : decode code 309 = .ok (.iadd, 1) := by decide +kernel
theorem d_Lw_law_310 : decode code 310 = .ok (.iaload, 1) := by decide +kernel
theorem d_Lw_law_311 : decode code 311 = .ok (.invokevirtual 39, 3) := by decide +kernel
theorem d_Lw_law_314 : decode code 314 = .ok (.aload_n 2, 1) := by decide +kernel
theorem d_Lw_law_315 : decode code 315 = .ok (.aload_n 0, 1) := by decide +kernel
theorem d_Lw_law_316 : decode code 316 = .ok (.iload_n 3, 1) := by decide +kernel
theorem d_Lw_law_317 : decode code 317 = .ok (.iconst 1, 1) := by decide +kernel
theorem d_Lw_law_318 : decode code 318 = .ok (.iadd, 1) := by decide +kernel
theorem d_Lw_law_319 : decode code 319 = .ok (.iaload, 1) := by decide +kernel
theorem d_Lw_law_320 : decode code 320 = .ok (.invokevirtual 43, 3) := by decide +kernel
theorem d_Lw_law_323 : decode code 323 = .ok (.lcmp, 1) := by decide +kernel
theorem d_Lw_law_324 : decode code 324 = .ok (.ifCond .eq 329, 3) := by decide +kernel
theorem d_Lw_law_327 : decode code 327 = .ok (.iconst 0, 1) := by decide +kernel
theorem d_Lw_law_328 : decode code 328 = .ok (.ireturn, 1) := by decide +kernel
theorem d_Lw_law_329 : decode code 329 = .ok (.aload_n 1, 1) := by decide +kernel
theorem d_Lw_law_330 : decode code 330 = .ok (.aload_n 0, 1) := by decide +kernel
theorem d_Lw_law_331 : decode code 331 = .ok (.iload_n 3, 1) := by decide +kernel
theorem d_Lw_law_332 : decode code 332 = .ok (.iconst 1, 1) := by decide +kernel
theorem d_Lw_law_333 : decode code 333 = .ok (.iadd, 1) := by decide +kernel
theorem d_Lw_law_334 : decode code 334 = .ok (.iaload, 1) := by decide +kernel
theorem d_Lw_law_335 : decode code 335 = .ok (.aload_n 0, 1) := by decide +kernel
theorem d_Lw_law_336 : decode code 336 = .ok (.iload_n 3, 1) := by decide +kernel
theorem d_Lw_law_337 : decode code 337 = .ok (.iconst 2, 1) := by decide +kernel
theorem d_Lw_law_338 : decode code 338 = .ok (.iadd, 1) := by decide +kernel
theorem d_Lw_law_339 : decode code 339 = .ok (.iaload, 1) := by decide +kernel
theorem d_Lw_law_340 : decode code 340 = .ok (.i2l, 1) := by decide +kernel
theorem d_Lw_law_341 : decode code 341 = .ok (.bipush 32, 2) := by decide +kernel
theorem d_Lw_law_343 : decode code 343 = .ok (.lshl, 1) := by decide +kernel
theorem d_Lw_law_344 : decode code 344 = .ok (.aload_n 0, 1) := by decide +kernel
theorem d_Lw_law_345 : decode code 345 = .ok (.iload_n 3, 1) := by decide +kernel
theorem d_Lw_law_346 : decode code 346 = .ok (.iconst 3, 1) := by decide +kernel
theorem d_Lw_law_347 : decode code 347 = .ok (.iadd, 1) := by decide +kernel
theorem d_Lw_law_348 : decode code 348 = .ok (.iaload, 1) := by decide +kernel
theorem d_Lw_law_349 : decode code 349 = .ok (.i2l, 1) := by decide +kernel
theorem d_Lw_law_350 : decode code 350 = .ok (.ldc2_w 23, 3) := by decide +kernel
theorem d_Lw_law_353 : decode code 353 = .ok (.land, 1) := by decide +kernel
theorem d_Lw_law_354 : decode code 354 = .ok (.lor, 1) := by decide +kernel
theorem d_Lw_law_355 : decode code 355 = .ok (.aload_n 0, 1) := by decide +kernel
theorem d_Lw_law_356 : decode code 356 = .ok (.iload_n 3, 1) := by decide +kernel
theorem d_Lw_law_357 : decode code 357 = .ok (.iconst 4, 1) := by decide +kernel
theorem d_Lw_law_358 : decode code 358 = .ok (.iadd, 1) := by decide +kernel
theorem d_Lw_law_359 : decode code 359 = .ok (.iaload, 1) := by decide +kernel
theorem d_Lw_law_360 : decode code 360 = .ok (.i2l, 1) := by decide +kernel
theorem d_Lw_law_361 : decode code 361 = .ok (.bipush 32, 2) := by decide +kernel
theorem d_Lw_law_363 : decode code 363 = .ok (.lshl, 1) := by decide +kernel
theorem d_Lw_law_364 : decode code 364 = .ok (.aload_n 0, 1) := by decide +kernel
theorem d_Lw_law_365 : decode code 365 = .ok (.iload_n 3, 1) := by decide +kernel
theorem d_Lw_law_366 : decode code 366 = .ok (.iconst 5, 1) := by decide +kernel
theorem d_Lw_law_367 : decode code 367 = .ok (.iadd, 1) := by decide +kernel
theorem d_Lw_law_368 : decode code 368 = .ok (.iaload, 1) := by decide +kernel
theorem d_Lw_law_369 : decode code 369 = .ok (.i2l, 1) := by decide +kernel
theorem d_Lw_law_370 : decode code 370 = .ok (.ldc2_w 23, 3) := by decide +kernel
theorem d_Lw_law_373 : decode code 373 = .ok (.land, 1) := by decide +kernel
theorem d_Lw_law_374 : decode code 374 = .ok (.lor, 1) := by decide +kernel
theorem d_Lw_law_375 : decode code 375 = .ok (.invokevirtual 44, 3) := by decide +kernel
theorem d_Lw_law_378 : decode code 378 = .ok (.aload_n 2, 1) := by decide +kernel
theorem d_Lw_law_379 : decode code 379 = .ok (.aload_n 0, 1) := by decide +kernel
theorem d_Lw_law_380 : decode code 380 = .ok (.iload_n 3, 1) := by decide +kernel
theorem d_Lw_law_381 : decode code 381 = .ok (.iconst 1, 1) := by decide +kernel
theorem d_Lw_law_382 : decode code 382 = .ok (.iadd, 1) := by decide +kernel
theorem d_Lw_law_383 : decode code 383 = .ok (.iaload, 1) := by decide +kernel
theorem d_Lw_law_384 : decode code 384 = .ok (.aload_n 0, 1) := by decide +kernel
theorem d_Lw_law_385 : decode code 385 = .ok (.iload_n 3, 1) := by decide +kernel
theorem d_Lw_law_386 : decode code 386 = .ok (.iconst 2, 1) := by decide +kernel
theorem d_Lw_law_387 : decode code 387 = .ok (.iadd, 1) := by decide +kernel
theorem d_Lw_law_388 : decode code 388 = .ok (.iaload, 1) := by decide +kernel
theorem d_Lw_law_389 : decode code 389 = .ok (.i2l, 1) := by decide +kernel
theorem d_Lw_law_390 : decode code 390 = .ok (.bipush 32, 2) := by decide +kernel
theorem d_Lw_law_392 : decode code 392 = .ok (.lshl, 1) := by decide +kernel
theorem d_Lw_law_393 : decode code 393 = .ok (.aload_n 0, 1) := by decide +kernel
theorem d_Lw_law_394 : decode code 394 = .ok (.iload_n 3, 1) := by decide +kernel
theorem d_Lw_law_395 : decode code 395 = .ok (.iconst 3, 1) := by decide +kernel
theorem d_Lw_law_396 : decode code 396 = .ok (.iadd, 1) := by decide +kernel
theorem d_Lw_law_397 : decode code 397 = .ok (.iaload, 1) := by decide +kernel
theorem d_Lw_law_398 : decode code 398 = .ok (.i2l, 1) := by decide +kernel
theorem d_Lw_law_399 : decode code 399 = .ok (.ldc2_w 23, 3) := by decide +kernel
theorem d_Lw_law_402 : decode code 402 = .ok (.land, 1) := by decide +kernel
theorem d_Lw_law_403 : decode code 403 = .ok (.lor, 1) := by decide +kernel
theorem d_Lw_law_404 : decode code 404 = .ok (.aload_n 0, 1) := by decide +kernel
theorem d_Lw_law_405 : decode code 405 = .ok (.iload_n 3, 1) := by decide +kernel
theorem d_Lw_law_406 : decode code 406 = .ok (.iconst 4, 1) := by decide +kernel
theorem d_Lw_law_407 : decode code 407 = .ok (.iadd, 1) := by decide +kernel
theorem d_Lw_law_408 : decode code 408 = .ok (.iaload, 1) := by decide +kernel
theorem d_Lw_law_409 : decode code 409 = .ok (.i2l, 1) := by decide +kernel
theorem d_Lw_law_410 : decode code 410 = .ok (.bipush 32, 2) := by decide +kernel
theorem d_Lw_law_412 : decode code 412 = .ok (.lshl, 1) := by decide +kernel
theorem d_Lw_law_413 : decode code 413 = .ok (.aload_n 0, 1) := by decide +kernel
theorem d_Lw_law_414 : decode code 414 = .ok (.iload_n 3, 1) := by decide +kernel
theorem d_Lw_law_415 : decode code 415 = .ok (.iconst 5, 1) := by decide +kernel
theorem d_Lw_law_416 : decode code 416 = .ok (.iadd, 1) := by decide +kernel
theorem d_Lw_law_417 : decode code 417 = .ok (.iaload, 1) := by decide +kernel
theorem d_Lw_law_418 : decode code 418 = .ok (.i2l, 1) := by decide +kernel
theorem d_Lw_law_419 : decode code 419 = .ok (.ldc2_w 23, 3) := by decide +kernel
theorem d_Lw_law_422 : decode code 422 = .ok (.land, 1) := by decide +kernel
theorem d_Lw_law_423 : decode code 423 = .ok (.lor, 1) := by decide +kernel
theorem d_Lw_law_424 : decode code 424 = .ok (.invokevirtual 48, 3) := by decide +kernel
theorem d_Lw_law_427 : decode code 427 = .ok (.if_icmp .eq 226, 3) := by decide +kernel
theorem d_Lw_law_430 : decode code 430 = .ok (.iconst 0, 1) := by decide +kernel
theorem d_Lw_law_431 : decode code 431 = .ok (.ireturn, 1) := by decide +kernel
theorem d_Lw_law_432 : decode code 432 = .ok (.aload_n 1, 1) := by decide +kernel
theorem d_Lw_law_433 : decode code 433 = .ok (.aload_n 0, 1) := by decide +kernel
theorem d_Lw_law_434 : decode code 434 = .ok (.iload_n 3, 1) := by decide +kernel
theorem d_Lw_law_435 : decode code 435 = .ok (.iconst 1, 1) := by decide +kernel
theorem d_Lw_law_436 : decode code 436 = .ok (.iadd, 1) := by decide +kernel
theorem d_Lw_law_437 : decode code 437 = .ok (.iaload, 1) := by decide +kernel
theorem d_Lw_law_438 : decode code 438 = .ok (.aload_n 0, 1) := by decide +kernel
theorem d_Lw_law_439 : decode code 439 = .ok (.iload_n 3, 1) := by decide +kernel
theorem d_Lw_law_440 : decode code 440 = .ok (.iconst 2, 1) := by decide +kernel
theorem d_Lw_law_441 : decode code 441 = .ok (.iadd, 1) := by decide +kernel
theorem d_Lw_law_442 : decode code 442 = .ok (.iaload, 1) := by decide +kernel
theorem d_Lw_law_443 : decode code 443 = .ok (.i2l, 1) := by decide +kernel
theorem d_Lw_law_444 : decode code 444 = .ok (.bipush 32, 2) := by decide +kernel
theorem d_Lw_law_446 : decode code 446 = .ok (.lshl, 1) := by decide +kernel
theorem d_Lw_law_447 : decode code 447 = .ok (.aload_n 0, 1) := by decide +kernel
theorem d_Lw_law_448 : decode code 448 = .ok (.iload_n 3, 1) := by decide +kernel
theorem d_Lw_law_449 : decode code 449 = .ok (.iconst 3, 1) := by decide +kernel
theorem d_Lw_law_450 : decode code 450 = .ok (.iadd, 1) := by decide +kernel
theorem d_Lw_law_451 : decode code 451 = .ok (.iaload, 1) := by decide +kernel
theorem d_Lw_law_452 : decode code 452 = .ok (.i2l, 1) := by decide +kernel
theorem d_Lw_law_453 : decode code 453 = .ok (.ldc2_w 23, 3) := by decide +kernel
theorem d_Lw_law_456 : decode code 456 = .ok (.land, 1) := by decide +kernel
theorem d_Lw_law_457 : decode code 457 = .ok (.lor, 1) := by decide +kernel
theorem d_Lw_law_458 : decode code 458 = .ok (.invokevirtual 49, 3) := by decide +kernel
theorem d_Lw_law_461 : decode code 461 = .ok (.aload_n 2, 1) := by decide +kernel
theorem d_Lw_law_462 : decode code 462 = .ok (.aload_n 0, 1) := by decide +kernel
theorem d_Lw_law_463 : decode code 463 = .ok (.iload_n 3, 1) := by decide +kernel
theorem d_Lw_law_464 : decode code 464 = .ok (.iconst 1, 1) := by decide +kernel
theorem d_Lw_law_465 : decode code 465 = .ok (.iadd, 1) := by decide +kernel
theorem d_Lw_law_466 : decode code 466 = .ok (.iaload, 1) := by decide +kernel
theorem d_Lw_law_467 : decode code 467 = .ok (.aload_n 0, 1) := by decide +kernel
theorem d_Lw_law_468 : decode code 468 = .ok (.iload_n 3, 1) := by decide +kernel
theorem d_Lw_law_469 : decode code 469 = .ok (.iconst 2, 1) := by decide +kernel
theorem d_Lw_law_470 : decode code 470 = .ok (.iadd, 1) := by decide +kernel
theorem d_Lw_law_471 : decode code 471 = .ok (.iaload, 1) := by decide +kernel
theorem d_Lw_law_472 : decode code 472 = .ok (.i2l, 1) := by decide +kernel
theorem d_Lw_law_473 : decode code 473 = .ok (.bipush 32, 2) := by decide +kernel
theorem d_Lw_law_475 : decode code 475 = .ok (.lshl, 1) := by decide +kernel
theorem d_Lw_law_476 : decode code 476 = .ok (.aload_n 0, 1) := by decide +kernel
theorem d_Lw_law_477 : decode code 477 = .ok (.iload_n 3, 1) := by decide +kernel
theorem d_Lw_law_478 : decode code 478 = .ok (.iconst 3, 1) := by decide +kernel
theorem d_Lw_law_479 : decode code 479 = .ok (.iadd, 1) := by decide +kernel
theorem d_Lw_law_480 : decode code 480 = .ok (.iaload, 1) := by decide +kernel
theorem d_Lw_law_481 : decode code 481 = .ok (.i2l, 1) := by decide +kernel
theorem d_Lw_law_482 : decode code 482 = .ok (.ldc2_w 23, 3) := by decide +kernel
theorem d_Lw_law_485 : decode code 485 = .ok (.land, 1) := by decide +kernel
theorem d_Lw_law_486 : decode code 486 = .ok (.lor, 1) := by decide +kernel
theorem d_Lw_law_487 : decode code 487 = .ok (.invokevirtual 53, 3) := by decide +kernel
theorem d_Lw_law_490 : decode code 490 = .ok (.if_icmp .eq 163, 3) := by decide +kernel
theorem d_Lw_law_493 : decode code 493 = .ok (.iconst 0, 1) := by decide +kernel
theorem d_Lw_law_494 : decode code 494 = .ok (.ireturn, 1) := by decide +kernel
theorem d_Lw_law_495 : decode code 495 = .ok (.aload_n 1, 1) := by decide +kernel
theorem d_Lw_law_496 : decode code 496 = .ok (.aload_n 0, 1) := by decide +kernel
theorem d_Lw_law_497 : decode code 497 = .ok (.iload_n 3, 1) := by decide +kernel
theorem d_Lw_law_498 : decode code 498 = .ok (.iconst 1, 1) := by decide +kernel
theorem d_Lw_law_499 : decode code 499 = .ok (.iadd, 1) := by decide +kernel
theorem d_Lw_law_500 : decode code 500 = .ok (.iaload, 1) := by decide +kernel
theorem d_Lw_law_501 : decode code 501 = .ok (.invokevirtual 54, 3) := by decide +kernel
theorem d_Lw_law_504 : decode code 504 = .ok (.aload_n 2, 1) := by decide +kernel
theorem d_Lw_law_505 : decode code 505 = .ok (.aload_n 0, 1) := by decide +kernel
theorem d_Lw_law_506 : decode code 506 = .ok (.iload_n 3, 1) := by decide +kernel
theorem d_Lw_law_507 : decode code 507 = .ok (.iconst 1, 1) := by decide +kernel
theorem d_Lw_law_508 : decode code 508 = .ok (.iadd, 1) := by decide +kernel
theorem d_Lw_law_509 : decode code 509 = .ok (.iaload, 1) := by decide +kernel
theorem d_Lw_law_510 : decode code 510 = .ok (.invokevirtual 58, 3) := by decide +kernel
theorem d_Lw_law_513 : decode code 513 = .ok (.if_icmp .eq 140, 3) := by decide +kernel
theorem d_Lw_law_516 : decode code 516 = .ok (.iconst 0, 1) := by decide +kernel
theorem d_Lw_law_517 : decode code 517 = .ok (.ireturn, 1) := by decide +kernel
theorem d_Lw_law_518 : decode code 518 = .ok (.aload_n 1, 1) := by decide +kernel
theorem d_Lw_law_519 : decode code 519 = .ok (.aload_n 0, 1) := by decide +kernel
theorem d_Lw_law_520 : decode code 520 = .ok (.iload_n 3, 1) := by decide +kernel
theorem d_Lw_law_521 : decode code 521 = .ok (.iconst 1, 1) := by decide +kernel
theorem d_Lw_law_522 : decode code 522 = .ok (.iadd, 1) := by decide +kernel
theorem d_Lw_law_523 : decode code 523 = .ok (.iaload, 1) := by decide +kernel
theorem d_Lw_law_524 : decode code 524 = .ok (.aload_n 0, 1) := by decide +kernel
theorem d_Lw_law_525 : decode code 525 = .ok (.iload_n 3, 1) := by decide +kernel
theorem d_Lw_law_526 : decode code 526 = .ok (.iconst 2, 1) := by decide +kernel
theorem d_Lw_law_527 : decode code 527 = .ok (.iadd, 1) := by decide +kernel
theorem d_Lw_law_528 : decode code 528 = .ok (.iaload, 1) := by decide +kernel
theorem d_Lw_law_529 : decode code 529 = .ok (.invokevirtual 59, 3) := by decide +kernel
theorem d_Lw_law_532 : decode code 532 = .ok (.aload_n 2, 1) := by decide +kernel
theorem d_Lw_law_533 : decode code 533 = .ok (.aload_n 0, 1) := by decide +kernel
theorem d_Lw_law_534 : decode code 534 = .ok (.iload_n 3, 1) := by decide +kernel
theorem d_Lw_law_535 : decode code 535 = .ok (.iconst 1, 1) := by decide +kernel
theorem d_Lw_law_536 : decode code 536 = .ok (.iadd, 1) := by decide +kernel
theorem d_Lw_law_537 : decode code 537 = .ok (.iaload, 1) := by decide +kernel
theorem d_Lw_law_538 : decode code 538 = .ok (.aload_n 0, 1) := by decide +kernel
theorem d_Lw_law_539 : decode code 539 = .ok (.iload_n 3, 1) := by decide +kernel
theorem d_Lw_law_540 : decode code 540 = .ok (.iconst 2, 1) := by decide +kernel
theorem d_Lw_law_541 : decode code 541 = .ok (.iadd, 1) := by decide +kernel
theorem d_Lw_law_542 : decode code 542 = .ok (.iaload, 1) := by decide +kernel
theorem d_Lw_law_543 : decode code 543 = .ok (.invokevirtual 62, 3) := by decide +kernel
theorem d_Lw_law_546 : decode code 546 = .ok (.if_icmp .eq 107, 3) := by decide +kernel
theorem d_Lw_law_549 : decode code 549 = .ok (.iconst 0, 1) := by decide +kernel
theorem d_Lw_law_550 : decode code 550 = .ok (.ireturn, 1) := by decide +kernel
theorem d_Lw_law_551 : decode code 551 = .ok (.aload_n 1, 1) := by decide +kernel
theorem d_Lw_law_552 : decode code 552 = .ok (.aload_n 0, 1) := by decide +kernel
theorem d_Lw_law_553 : decode code 553 = .ok (.iload_n 3, 1) := by decide +kernel
theorem d_Lw_law_554 : decode code 554 = .ok (.iconst 1, 1) := by decide +kernel
theorem d_Lw_law_555 : decode code 555 = .ok (.iadd, 1) := by decide +kernel
theorem d_Lw_law_556 : decode code 556 = .ok (.iaload, 1) := by decide +kernel
theorem d_Lw_law_557 : decode code 557 = .ok (.aload_n 0, 1) := by decide +kernel
theorem d_Lw_law_558 : decode code 558 = .ok (.iload_n 3, 1) := by decide +kernel
theorem d_Lw_law_559 : decode code 559 = .ok (.iconst 2, 1) := by decide +kernel
theorem d_Lw_law_560 : decode code 560 = .ok (.iadd, 1) := by decide +kernel
theorem d_Lw_law_561 : decode code 561 = .ok (.iaload, 1) := by decide +kernel
theorem d_Lw_law_562 : decode code 562 = .ok (.invokevirtual 63, 3) := by decide +kernel
theorem d_Lw_law_565 : decode code 565 = .ok (.aload_n 2, 1) := by decide +kernel
theorem d_Lw_law_566 : decode code 566 = .ok (.aload_n 0, 1) := by decide +kernel
theorem d_Lw_law_567 : decode code 567 = .ok (.iload_n 3, 1) := by decide +kernel
theorem d_Lw_law_568 : decode code 568 = .ok (.iconst 1, 1) := by decide +kernel
theorem d_Lw_law_569 : decode code 569 = .ok (.iadd, 1) := by decide +kernel
theorem d_Lw_law_570 : decode code 570 = .ok (.iaload, 1) := by decide +kernel
theorem d_Lw_law_571 : decode code 571 = .ok (.aload_n 0, 1) := by decide +kernel
theorem d_Lw_law_572 : decode code 572 = .ok (.iload_n 3, 1) := by decide +kernel
theorem d_Lw_law_573 : decode code 573 = .ok (.iconst 2, 1) := by decide +kernel
theorem d_Lw_law_574 : decode code 574 = .ok (.iadd, 1) := by decide +kernel
theorem d_Lw_law_575 : decode code 575 = .ok (.iaload, 1) := by decide +kernel
theorem d_Lw_law_576 : decode code 576 = .ok (.invokevirtual 66, 3) := by decide +kernel
theorem d_Lw_law_579 : decode code 579 = .ok (.if_icmp .eq 74, 3) := by decide +kernel
theorem d_Lw_law_582 : decode code 582 = .ok (.iconst 0, 1) := by decide +kernel
theorem d_Lw_law_583 : decode code 583 = .ok (.ireturn, 1) := by decide +kernel
theorem d_Lw_law_584 : decode code 584 = .ok (.aload_n 1, 1) := by decide +kernel
theorem d_Lw_law_585 : decode code 585 = .ok (.invokevirtual 67, 3) := by decide +kernel
theorem d_Lw_law_588 : decode code 588 = .ok (.aload_n 2, 1) := by decide +kernel
theorem d_Lw_law_589 : decode code 589 = .ok (.invokevirtual 70, 3) := by decide +kernel
theorem d_Lw_law_592 : decode code 592 = .ok (.if_icmp .eq 61, 3) := by decide +kernel
theorem d_Lw_law_595 : decode code 595 = .ok (.iconst 0, 1) := by decide +kernel
theorem d_Lw_law_596 : decode code 596 = .ok (.ireturn, 1) := by decide +kernel
theorem d_Lw_law_597 : decode code 597 = .ok (.aload_n 1, 1) := by decide +kernel
theorem d_Lw_law_598 : decode code 598 = .ok (.aload_n 0, 1) := by decide +kernel
theorem d_Lw_law_599 : decode code 599 = .ok (.iload_n 3, 1) := by decide +kernel
theorem d_Lw_law_600 : decode code 600 = .ok (.iconst 1, 1) := by decide +kernel
theorem d_Lw_law_601 : decode code 601 = .ok (.iadd, 1) := by decide +kernel
theorem d_Lw_law_602 : decode code 602 = .ok (.iaload, 1) := by decide +kernel
theorem d_Lw_law_603 : decode code 603 = .ok (.aload_n 0, 1) := by decide +kernel
theorem d_Lw_law_604 : decode code 604 = .ok (.iload_n 3, 1) := by decide +kernel
theorem d_Lw_law_605 : decode code 605 = .ok (.iconst 2, 1) := by decide +kernel
theorem d_Lw_law_606 : decode code 606 = .ok (.iadd, 1) := by decide +kernel
theorem d_Lw_law_607 : decode code 607 = .ok (.iaload, 1) := by decide +kernel
theorem d_Lw_law_608 : decode code 608 = .ok (.invokevirtual 71, 3) := by decide +kernel
theorem d_Lw_law_611 : decode code 611 = .ok (.aload_n 2, 1) := by decide +kernel
theorem d_Lw_law_612 : decode code 612 = .ok (.aload_n 0, 1) := by decide +kernel
theorem d_Lw_law_613 : decode code 613 = .ok (.iload_n 3, 1) := by decide +kernel
theorem d_Lw_law_614 : decode code 614 = .ok (.iconst 1, 1) := by decide +kernel
theorem d_Lw_law_615 : decode code 615 = .ok (.iadd, 1) := by decide +kernel
theorem d_Lw_law_616 : decode code 616 = .ok (.iaload, 1) := by decide +kernel
theorem d_Lw_law_617 : decode code 617 = .ok (.aload_n 0, 1) := by decide +kernel
theorem d_Lw_law_618 : decode code 618 = .ok (.iload_n 3, 1) := by decide +kernel
theorem d_Lw_law_619 : decode code 619 = .ok (.iconst 2, 1) := by decide +kernel
theorem d_Lw_law_620 : decode code 620 = .ok (.iadd, 1) := by decide +kernel
theorem d_Lw_law_621 : decode code 621 = .ok (.iaload, 1) := by decide +kernel
theorem d_Lw_law_622 : decode code 622 = .ok (.invokevirtual 74, 3) := by decide +kernel
theorem d_Lw_law_625 : decode code 625 = .ok (.if_icmp .eq 28, 3) := by decide +kernel
theorem d_Lw_law_628 : decode code 628 = .ok (.iconst 0, 1) := by decide +kernel
theorem d_Lw_law_629 : decode code 629 = .ok (.ireturn, 1) := by decide +kernel
theorem d_Lw_law_630 : decode code 630 = .ok (.aload_n 1, 1) := by decide +kernel
theorem d_Lw_law_631 : decode code 631 = .ok (.aload_n 0, 1) := by decide +kernel
theorem d_Lw_law_632 : decode code 632 = .ok (.iload_n 3, 1) := by decide +kernel
theorem d_Lw_law_633 : decode code 633 = .ok (.iconst 1, 1) := by decide +kernel
theorem d_Lw_law_634 : decode code 634 = .ok (.iadd, 1) := by decide +kernel
theorem d_Lw_law_635 : decode code 635 = .ok (.iaload, 1) := by decide +kernel
theorem d_Lw_law_636 : decode code 636 = .ok (.invokevirtual 75, 3) := by decide +kernel
theorem d_Lw_law_639 : decode code 639 = .ok (.aload_n 2, 1) := by decide +kernel
theorem d_Lw_law_640 : decode code 640 = .ok (.aload_n 0, 1) := by decide +kernel
theorem d_Lw_law_641 : decode code 641 = .ok (.iload_n 3, 1) := by decide +kernel
theorem d_Lw_law_642 : decode code 642 = .ok (.iconst 1, 1) := by decide +kernel
theorem d_Lw_law_643 : decode code 643 = .ok (.iadd, 1) := by decide +kernel
theorem d_Lw_law_644 : decode code 644 = .ok (.iaload, 1) := by decide +kernel
theorem d_Lw_law_645 : decode code 645 = .ok (.invokevirtual 78, 3) := by decide +kernel
theorem d_Lw_law_648 : decode code 648 = .ok (.if_icmp .eq 5, 3) := by decide +kernel
theorem d_Lw_law_651 : decode code 651 = .ok (.iconst 0, 1) := by decide +kernel
theorem d_Lw_law_652 : decode code 652 = .ok (.ireturn, 1) := by decide +kernel
theorem d_Lw_law_653 : decode code 653 = .ok (.iinc 3 6, 3) := by decide +kernel
theorem d_Lw_law_656 : decode code 656 = .ok (.goto (-638), 3) := by decide +kernel
theorem d_Lw_law_659 : decode code 659 = .ok (.iconst 1, 1) := by decide +kernel
theorem d_Lw_law_660 : decode code 660 = .ok (.ireturn, 1) := by decide +kernel
