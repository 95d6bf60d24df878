/-! THE LAW, CASE BY CASE -/
abbrev b_LW_law : ByteArray := code
theorem d_LW_law_0 : decode b_LW_law 0 = .ok (.new 8, 3) := by decide +kernel
theorem d_LW_law_3 : decode b_LW_law 3 = .ok (.dup, 1) := by decide +kernel
theorem d_LW_law_4 : decode b_LW_law 4 = .ok (.invokespecial 30, 3) := by decide +kernel
theorem d_LW_law_7 : decode b_LW_law 7 = .ok (.astore_n 1, 1) := by decide +kernel
theorem d_LW_law_8 : decode b_LW_law 8 = .ok (.new 31, 3) := by decide +kernel
theorem d_LW_law_11 : decode b_LW_law 11 = .ok (.dup, 1) := by decide +kernel
theorem d_LW_law_12 : decode b_LW_law 12 = .ok (.invokespecial 33, 3) := by decide +kernel
theorem d_LW_law_15 : decode b_LW_law 15 = .ok (.astore_n 2, 1) := by decide +kernel
theorem d_LW_law_16 : decode b_LW_law 16 = .ok (.iconst 1, 1) := by decide +kernel
theorem d_LW_law_17 : decode b_LW_law 17 = .ok (.newarray .long, 2) := by decide +kernel
theorem d_LW_law_19 : decode b_LW_law 19 = .ok (.astore_n 3, 1) := by decide +kernel
theorem d_LW_law_20 : decode b_LW_law 20 = .ok (.iconst 0, 1) := by decide +kernel
theorem d_LW_law_21 : decode b_LW_law 21 = .ok (.istore 4, 2) := by decide +kernel
theorem d_LW_law_23 : decode b_LW_law 23 = .ok (.iload 4, 2) := by decide +kernel
theorem d_LW_law_25 : decode b_LW_law 25 = .ok (.aload_n 0, 1) := by decide +kernel
theorem d_LW_law_26 : decode b_LW_law 26 = .ok (.arraylength, 1) := by decide +kernel
theorem d_LW_law_27 : decode b_LW_law 27 = .ok (.iconst 3, 1) := by decide +kernel
theorem d_LW_law_28 : decode b_LW_law 28 = .ok (.isub, 1) := by decide +kernel
theorem d_LW_law_29 : decode b_LW_law 29 = .ok (.if_icmp .gt 534, 3) := by decide +kernel
theorem d_LW_law_32 : decode b_LW_law 32 = .ok (.aload_n 0, 1) := by decide +kernel
theorem d_LW_law_33 : decode b_LW_law 33 = .ok (.iload 4, 2) := by decide +kernel
theorem d_LW_law_35 : decode b_LW_law 35 = .ok (.iaload, 1) := by decide +kernel
theorem d_LW_law_36 : decode b_LW_law 36 = .ok (.bipush 15, 2) := by decide +kernel
theorem d_LW_law_38 : decode b_LW_law 38 = .ok (.iand, 1) := by decide +kernel
theorem d_LW_law_39 : decode b_LW_law 39 = .ok (.tableswitch 518 0 13 #[69, 96, 140, 151, 199, 247, 271, 295, 320, 357, 382, 419, 456, 493], 69) := by decide +kernel
theorem d_LW_law_108 : decode b_LW_law 108 = .ok (.aload_n 1, 1) := by decide +kernel
theorem d_LW_law_109 : decode b_LW_law 109 = .ok (.aload_n 0, 1) := by decide +kernel
theorem d_LW_law_110 : decode b_LW_law 110 = .ok (.iload 4, 2) := by decide +kernel
theorem d_LW_law_112 : decode b_LW_law 112 = .ok (.iconst 1, 1) := by decide +kernel
theorem d_LW_law_113 : decode b_LW_law 113 = .ok (.iadd, 1) := by decide +kernel
theorem d_LW_law_114 : decode b_LW_law 114 = .ok (.iaload, 1) := by decide +kernel
theorem d_LW_law_115 : decode b_LW_law 115 = .ok (.i2c, 1) := by decide +kernel
theorem d_LW_law_116 : decode b_LW_law 116 = .ok (.invokevirtual 34, 3) := by decide +kernel
theorem d_LW_law_119 : decode b_LW_law 119 = .ok (.aload_n 2, 1) := by decide +kernel
theorem d_LW_law_120 : decode b_LW_law 120 = .ok (.aload_n 0, 1) := by decide +kernel
theorem d_LW_law_121 : decode b_LW_law 121 = .ok (.iload 4, 2) := by decide +kernel
theorem d_LW_law_123 : decode b_LW_law 123 = .ok (.iconst 1, 1) := by decide +kernel
theorem d_LW_law_124 : decode b_LW_law 124 = .ok (.iadd, 1) := by decide +kernel
theorem d_LW_law_125 : decode b_LW_law 125 = .ok (.iaload, 1) := by decide +kernel
theorem d_LW_law_126 : decode b_LW_law 126 = .ok (.i2c, 1) := by decide +kernel
theorem d_LW_law_127 : decode b_LW_law 127 = .ok (.invokevirtual 38, 3) := by decide +kernel
theorem d_LW_law_130 : decode b_LW_law 130 = .ok (.if_icmp .eq 427, 3) := by decide +kernel
theorem d_LW_law_133 : decode b_LW_law 133 = .ok (.iconst 0, 1) := by decide +kernel
theorem d_LW_law_134 : decode b_LW_law 134 = .ok (.ireturn, 1) := by decide +kernel
theorem d_LW_law_135 : decode b_LW_law 135 = .ok (.aload_n 1, 1) := by decide +kernel
theorem d_LW_law_136 : decode b_LW_law 136 = .ok (.aload_n 3, 1) := by decide +kernel
theorem d_LW_law_137 : decode b_LW_law 137 = .ok (.invokestatic 39, 3) := by decide +kernel
theorem d_LW_law_140 : decode b_LW_law 140 = .ok (.istore 5, 2) := by decide +kernel
theorem d_LW_law_142 : decode b_LW_law 142 = .ok (.aload_n 2, 1) := by decide +kernel
theorem d_LW_law_143 : decode b_LW_law 143 = .ok (.invokevirtual 44, 3) := by decide +kernel
theorem d_LW_law_146 : decode b_LW_law 146 = .ok (.istore 6, 2) := by decide +kernel
theorem d_LW_law_148 : decode b_LW_law 148 = .ok (.aload_n 2, 1) := by decide +kernel
theorem d_LW_law_149 : decode b_LW_law 149 = .ok (.invokevirtual 45, 3) := by decide +kernel
theorem d_LW_law_152 : decode b_LW_law 152 = .ok (.iload 5, 2) := by decide +kernel
theorem d_LW_law_154 : decode b_LW_law 154 = .ok (.if_icmp .eq 5, 3) := by decide +kernel
theorem d_LW_law_157 : decode b_LW_law 157 = .ok (.iconst 0, 1) := by decide +kernel
theorem d_LW_law_158 : decode b_LW_law 158 = .ok (.ireturn, 1) := by decide +kernel
theorem d_LW_law_159 : decode b_LW_law 159 = .ok (.iload 5, 2) := by decide +kernel
theorem d_LW_law_161 : decode b_LW_law 161 = .ok (.ifCond .ne 15, 3) := by decide +kernel
theorem d_LW_law_164 : decode b_LW_law 164 = .ok (.aload_n 3, 1) := by decide +kernel
theorem d_LW_law_165 : decode b_LW_law 165 = .ok (.iconst 0, 1) := by decide +kernel
theorem d_LW_law_166 : decode b_LW_law 166 = .ok (.laload, 1) := by decide +kernel
theorem d_LW_law_167 : decode b_LW_law 167 = .ok (.iload 6, 2) := by decide +kernel
theorem d_LW_law_169 : decode b_LW_law 169 = .ok (.i2l, 1) := by decide +kernel
theorem d_LW_law_170 : decode b_LW_law 170 = .ok (.lcmp, 1) := by decide +kernel
theorem d_LW_law_171 : decode b_LW_law 171 = .ok (.ifCond .eq 5, 3) := by decide +kernel
theorem d_LW_law_174 : decode b_LW_law 174 = .ok (.iconst 0, 1) := by decide +kernel
theorem d_LW_law_175 : decode b_LW_law 175 = .ok (.ireturn, 1) := by decide +kernel
theorem d_LW_law_176 : decode b_LW_law 176 = .ok (.goto 381, 3) := by decide +kernel
theorem d_LW_law_179 : decode b_LW_law 179 = .ok (.aload_n 1, 1) := by decide +kernel
theorem d_LW_law_180 : decode b_LW_law 180 = .ok (.invokevirtual 48, 3) := by decide +kernel
theorem d_LW_law_183 : decode b_LW_law 183 = .ok (.aload_n 2, 1) := by decide +kernel
theorem d_LW_law_184 : decode b_LW_law 184 = .ok (.invokevirtual 51, 3) := by decide +kernel
theorem d_LW_law_187 : decode b_LW_law 187 = .ok (.goto 370, 3) := by decide +kernel
theorem d_LW_law_190 : decode b_LW_law 190 = .ok (.aload_n 1, 1) := by decide +kernel
theorem d_LW_law_191 : decode b_LW_law 191 = .ok (.aload_n 0, 1) := by decide +kernel
theorem d_LW_law_192 : decode b_LW_law 192 = .ok (.iload 4, 2) := by decide +kernel
theorem d_LW_law_194 : decode b_LW_law 194 = .ok (.iconst 1, 1) := by decide +kernel
theorem d_LW_law_195 : decode b_LW_law 195 = .ok (.iadd, 1) := by decide +kernel
theorem d_LW_law_196 : decode b_LW_law 196 = .ok (.iaload, 1) := by decide +kernel
theorem d_LW_law_197 : decode b_LW_law 197 = .ok (.aload_n 0, 1) := by decide +kernel
theorem d_LW_law_198 : decode b_LW_law 198 = .ok (.iload 4, 2) := by decide +kernel
theorem d_LW_law_200 : decode b_LW_law 200 = .ok (.iconst 2, 1) := by decide +kernel
theorem d_LW_law_201 : decode b_LW_law 201 = .ok (.iadd, 1) := by decide +kernel
theorem d_LW_law_202 : decode b_LW_law 202 = .ok (.iaload, 1) := by decide +kernel
theorem d_LW_law_203 : decode b_LW_law 203 = .ok (.invokestatic 52, 3) := by decide +kernel
theorem d_LW_law_206 : decode b_LW_law 206 = .ok (.istore 5, 2) := by decide +kernel
theorem d_LW_law_208 : decode b_LW_law 208 = .ok (.aload_n 2, 1) := by decide +kernel
theorem d_LW_law_209 : decode b_LW_law 209 = .ok (.aload_n 0, 1) := by decide +kernel
theorem d_LW_law_210 : decode b_LW_law 210 = .ok (.iload 4, 2) := by decide +kernel
theorem d_LW_law_212 : decode b_LW_law 212 = .ok (.iconst 1, 1) := by decide +kernel
theorem d_LW_law_213 : decode b_LW_law 213 = .ok (.iadd, 1) := by decide +kernel
theorem d_LW_law_214 : decode b_LW_law 214 = .ok (.iaload, 1) := by decide +kernel
theorem d_LW_law_215 : decode b_LW_law 215 = .ok (.aload_n 0, 1) := by decide +kernel
theorem d_LW_law_216 : decode b_LW_law 216 = .ok (.iload 4, 2) := by decide +kernel
theorem d_LW_law_218 : decode b_LW_law 218 = .ok (.iconst 2, 1) := by decide +kernel
theorem d_LW_law_219 : decode b_LW_law 219 = .ok (.iadd, 1) := by decide +kernel
theorem d_LW_law_220 : decode b_LW_law 220 = .ok (.iaload, 1) := by decide +kernel
theorem d_LW_law_221 : decode b_LW_law 221 = .ok (.invokevirtual 55, 3) := by decide +kernel
theorem d_LW_law_224 : decode b_LW_law 224 = .ok (.aload_n 2, 1) := by decide +kernel
theorem d_LW_law_225 : decode b_LW_law 225 = .ok (.invokevirtual 45, 3) := by decide +kernel
theorem d_LW_law_228 : decode b_LW_law 228 = .ok (.iload 5, 2) := by decide +kernel
theorem d_LW_law_230 : decode b_LW_law 230 = .ok (.if_icmp .eq 5, 3) := by decide +kernel
theorem d_LW_law_233 : decode b_LW_law 233 = .ok (.iconst 0, 1) := by decide +kernel
theorem d_LW_law_234 : decode b_LW_law 234 = .ok (.ireturn, 1) := by decide +kernel
theorem d_LW_law_235 : decode b_LW_law 235 = .ok (.goto 322, 3) := by decide +kernel
theorem d_LW_law_238 : decode b_LW_law 238 = .ok (.aload_n 1, 1) := by decide +kernel
theorem d_LW_law_239 : decode b_LW_law 239 = .ok (.aload_n 0, 1) := by decide +kernel
theorem d_LW_law_240 : decode b_LW_law 240 = .ok (.iload 4, 2) := by decide +kernel
theorem d_LW_law_242 : decode b_LW_law 242 = .ok (.iconst 1, 1) := by decide +kernel
theorem d_LW_law_243 : decode b_LW_law 243 = .ok (.iadd, 1) := by decide +kernel
theorem d_LW_law_244 : decode b_LW_law 244 = .ok (.iaload, 1) := by decide +kernel
theorem d_LW_law_245 : decode b_LW_law 245 = .ok (.aload_n 0, 1) := by decide +kernel
theorem d_LW_law_246 : decode b_LW_law 246 = .ok (.iload 4, 2) := by decide +kernel
theorem d_LW_law_248 : decode b_LW_law 248 = .ok (.iconst 2, 1) := by decide +kernel
theorem d_LW_law_249 : decode b_LW_law 249 = .ok (.iadd, 1) := by decide +kernel
theorem d_LW_law_250 : decode b_LW_law 250 = .ok (.iaload, 1) := by decide +kernel
theorem d_LW_law_251 : decode b_LW_law 251 = .ok (.invokestatic 56, 3) := by decide +kernel
theorem d_LW_law_254 : decode b_LW_law 254 = .ok (.istore 5, 2) := by decide +kernel
theorem d_LW_law_256 : decode b_LW_law 256 = .ok (.aload_n 2, 1) := by decide +kernel
theorem d_LW_law_257 : decode b_LW_law 257 = .ok (.aload_n 0, 1) := by decide +kernel
theorem d_LW_law_258 : decode b_LW_law 258 = .ok (.iload 4, 2) := by decide +kernel
theorem d_LW_law_260 : decode b_LW_law 260 = .ok (.iconst 1, 1) := by decide +kernel
theorem d_LW_law_261 : decode b_LW_law 261 = .ok (.iadd, 1) := by decide +kernel
theorem d_LW_law_262 : decode b_LW_law 262 = .ok (.iaload, 1) := by decide +kernel
theorem d_LW_law_263 : decode b_LW_law 263 = .ok (.aload_n 0, 1) := by decide +kernel
theorem d_LW_law_264 : decode b_LW_law 264 = .ok (.iload 4, 2) := by decide +kernel
theorem d_LW_law_266 : decode b_LW_law 266 = .ok (.iconst 2, 1) := by decide +kernel
theorem d_LW_law_267 : decode b_LW_law 267 = .ok (.iadd, 1) := by decide +kernel
theorem d_LW_law_268 : decode b_LW_law 268 = .ok (.iaload, 1) := by decide +kernel
theorem d_LW_law_269 : decode b_LW_law 269 = .ok (.invokevirtual 58, 3) := by decide +kernel
theorem d_LW_law_272 : decode b_LW_law 272 = .ok (.aload_n 2, 1) := by decide +kernel
theorem d_LW_law_273 : decode b_LW_law 273 = .ok (.invokevirtual 45, 3) := by decide +kernel
theorem d_LW_law_276 : decode b_LW_law 276 = .ok (.iload 5, 2) := by decide +kernel
theorem d_LW_law_278 : decode b_LW_law 278 = .ok (.if_icmp .eq 5, 3) := by decide +kernel
theorem d_LW_law_281 : decode b_LW_law 281 = .ok (.iconst 0, 1) := by decide +kernel
theorem d_LW_law_282 : decode b_LW_law 282 = .ok (.ireturn, 1) := by decide +kernel
theorem d_LW_law_283 : decode b_LW_law 283 = .ok (.goto 274, 3) := by decide +kernel
theorem d_LW_law_286 : decode b_LW_law 286 = .ok (.aload_n 1, 1) := by decide +kernel
theorem d_LW_law_287 : decode b_LW_law 287 = .ok (.invokestatic 59, 3) := by decide +kernel
theorem d_LW_law_290 : decode b_LW_law 290 = .ok (.istore 5, 2) := by decide +kernel
theorem d_LW_law_292 : decode b_LW_law 292 = .ok (.aload_n 2, 1) := by decide +kernel
theorem d_LW_law_293 : decode b_LW_law 293 = .ok (.invokevirtual 62, 3) := by decide +kernel
theorem d_LW_law_296 : decode b_LW_law 296 = .ok (.aload_n 2, 1) := by decide +kernel
theorem d_LW_law_297 : decode b_LW_law 297 = .ok (.invokevirtual 45, 3) := by decide +kernel
theorem d_LW_law_300 : decode b_LW_law 300 = .ok (.iload 5, 2) := by decide +kernel
theorem d_LW_law_302 : decode b_LW_law 302 = .ok (.if_icmp .eq 5, 3) := by decide +kernel
theorem d_LW_law_305 : decode b_LW_law 305 = .ok (.iconst 0, 1) := by decide +kernel
theorem d_LW_law_306 : decode b_LW_law 306 = .ok (.ireturn, 1) := by decide +kernel
theorem d_LW_law_307 : decode b_LW_law 307 = .ok (.goto 250, 3) := by decide +kernel
theorem d_LW_law_310 : decode b_LW_law 310 = .ok (.aload_n 1, 1) := by decide +kernel
theorem d_LW_law_311 : decode b_LW_law 311 = .ok (.invokestatic 63, 3) := by decide +kernel
theorem d_LW_law_314 : decode b_LW_law 314 = .ok (.istore 5, 2) := by decide +kernel
theorem d_LW_law_316 : decode b_LW_law 316 = .ok (.aload_n 2, 1) := by decide +kernel
theorem d_LW_law_317 : decode b_LW_law 317 = .ok (.invokevirtual 65, 3) := by decide +kernel
theorem d_LW_law_320 : decode b_LW_law 320 = .ok (.aload_n 2, 1) := by decide +kernel
theorem d_LW_law_321 : decode b_LW_law 321 = .ok (.invokevirtual 45, 3) := by decide +kernel
theorem d_LW_law_324 : decode b_LW_law 324 = .ok (.iload 5, 2) := by decide +kernel
theorem d_LW_law_326 : decode b_LW_law 326 = .ok (.if_icmp .eq 5, 3) := by decide +kernel
theorem d_LW_law_329 : decode b_LW_law 329 = .ok (.iconst 0, 1) := by decide +kernel
theorem d_LW_law_330 : decode b_LW_law 330 = .ok (.ireturn, 1) := by decide +kernel
theorem d_LW_law_331 : decode b_LW_law 331 = .ok (.goto 226, 3) := by decide +kernel
theorem d_LW_law_334 : decode b_LW_law 334 = .ok (.aload_n 1, 1) := by decide +kernel
theorem d_LW_law_335 : decode b_LW_law 335 = .ok (.aload_n 0, 1) := by decide +kernel
theorem d_LW_law_336 : decode b_LW_law 336 = .ok (.iload 4, 2) := by decide +kernel
theorem d_LW_law_338 : decode b_LW_law 338 = .ok (.iconst 1, 1) := by decide +kernel
theorem d_LW_law_339 : decode b_LW_law 339 = .ok (.iadd, 1) := by decide +kernel
theorem d_LW_law_340 : decode b_LW_law 340 = .ok (.iaload, 1) := by decide +kernel
theorem d_LW_law_341 : decode b_LW_law 341 = .ok (.invokevirtual 66, 3) := by decide +kernel
theorem d_LW_law_344 : decode b_LW_law 344 = .ok (.aload_n 2, 1) := by decide +kernel
theorem d_LW_law_345 : decode b_LW_law 345 = .ok (.aload_n 0, 1) := by decide +kernel
theorem d_LW_law_346 : decode b_LW_law 346 = .ok (.iload 4, 2) := by decide +kernel
theorem d_LW_law_348 : decode b_LW_law 348 = .ok (.iconst 1, 1) := by decide +kernel
theorem d_LW_law_349 : decode b_LW_law 349 = .ok (.iadd, 1) := by decide +kernel
theorem d_LW_law_350 : decode b_LW_law 350 = .ok (.iaload, 1) := by decide +kernel
theorem d_LW_law_351 : decode b_LW_law 351 = .ok (.invokevirtual 70, 3) := by decide +kernel
theorem d_LW_law_354 : decode b_LW_law 354 = .ok (.if_icmp .eq 203, 3) := by decide +kernel
theorem d_LW_law_357 : decode b_LW_law 357 = .ok (.iconst 0, 1) := by decide +kernel
theorem d_LW_law_358 : decode b_LW_law 358 = .ok (.ireturn, 1) := by decide +kernel
theorem d_LW_law_359 : decode b_LW_law 359 = .ok (.aload_n 1, 1) := by decide +kernel
theorem d_LW_law_360 : decode b_LW_law 360 = .ok (.aload_n 0, 1) := by decide +kernel
theorem d_LW_law_361 : decode b_LW_law 361 = .ok (.iload 4, 2) := by decide +kernel
theorem d_LW_law_363 : decode b_LW_law 363 = .ok (.iconst 1, 1) := by decide +kernel
theorem d_LW_law_364 : decode b_LW_law 364 = .ok (.iadd, 1) := by decide +kernel
theorem d_LW_law_365 : decode b_LW_law 365 = .ok (.iaload, 1) := by decide +kernel
theorem d_LW_law_366 : decode b_LW_law 366 = .ok (.aload_n 0, 1) := by decide +kernel
theorem d_LW_law_367 : decode b_LW_law 367 = .ok (.iload 4, 2) := by decide +kernel
theorem d_LW_law_369 : decode b_LW_law 369 = .ok (.iconst 2, 1) := by decide +kernel
theorem d_LW_law_370 : decode b_LW_law 370 = .ok (.iadd, 1) := by decide +kernel
theorem d_LW_law_371 : decode b_LW_law 371 = .ok (.iaload, 1) := by decide +kernel
theorem d_LW_law_372 : decode b_LW_law 372 = .ok (.invokevirtual 71, 3) := by decide +kernel
theorem d_LW_law_375 : decode b_LW_law 375 = .ok (.aload_n 2, 1) := by decide +kernel
theorem d_LW_law_376 : decode b_LW_law 376 = .ok (.aload_n 0, 1) := by decide +kernel
theorem d_LW_law_377 : decode b_LW_law 377 = .ok (.iload 4, 2) := by decide +kernel
theorem d_LW_law_379 : decode b_LW_law 379 = .ok (.iconst 1, 1) := by decide +kernel
theorem d_LW_law_380 : decode b_LW_law 380 = .ok (.iadd, 1) := by decide +kernel
theorem d_LW_law_381 : decode b_LW_law 381 = .ok (.iaload, 1) := by decide +kernel
theorem d_LW_law_382 : decode b_LW_law 382 = .ok (.aload_n 0, 1) := by decide +kernel
theorem d_LW_law_383 : decode b_LW_law 383 = .ok (.iload 4, 2) := by decide +kernel
theorem d_LW_law_385 : decode b_LW_law 385 = .ok (.iconst 2, 1) := by decide +kernel
theorem d_LW_law_386 : decode b_LW_law 386 = .ok (.iadd, 1) := by decide +kernel
theorem d_LW_law_387 : decode b_LW_law 387 = .ok (.iaload, 1) := by decide +kernel
theorem d_LW_law_388 : decode b_LW_law 388 = .ok (.invokevirtual 75, 3) := by decide +kernel
theorem d_LW_law_391 : decode b_LW_law 391 = .ok (.if_icmp .eq 166, 3) := by decide +kernel
theorem d_LW_law_394 : decode b_LW_law 394 = .ok (.iconst 0, 1) := by decide +kernel
theorem d_LW_law_395 : decode b_LW_law 395 = .ok (.ireturn, 1) := by decide +kernel
theorem d_LW_law_396 : decode b_LW_law 396 = .ok (.aload_n 1, 1) := by decide +kernel
theorem d_LW_law_397 : decode b_LW_law 397 = .ok (.aload_n 0, 1) := by decide +kernel
theorem d_LW_law_398 : decode b_LW_law 398 = .ok (.iload 4, 2) := by decide +kernel
theorem d_LW_law_400 : decode b_LW_law 400 = .ok (.iconst 1, 1) := by decide +kernel
theorem d_LW_law_401 : decode b_LW_law 401 = .ok (.iadd, 1) := by decide +kernel
theorem d_LW_law_402 : decode b_LW_law 402 = .ok (.iaload, 1) := by decide +kernel
theorem d_LW_law_403 : decode b_LW_law 403 = .ok (.invokevirtual 76, 3) := by decide +kernel
theorem d_LW_law_406 : decode b_LW_law 406 = .ok (.aload_n 2, 1) := by decide +kernel
theorem d_LW_law_407 : decode b_LW_law 407 = .ok (.aload_n 0, 1) := by decide +kernel
theorem d_LW_law_408 : decode b_LW_law 408 = .ok (.iload 4, 2) := by decide +kernel
theorem d_LW_law_410 : decode b_LW_law 410 = .ok (.iconst 1, 1) := by decide +kernel
theorem d_LW_law_411 : decode b_LW_law 411 = .ok (.iadd, 1) := by decide +kernel
theorem d_LW_law_412 : decode b_LW_law 412 = .ok (.iaload, 1) := by decide +kernel
theorem d_LW_law_413 : decode b_LW_law 413 = .ok (.invokevirtual 79, 3) := by decide +kernel
theorem d_LW_law_416 : decode b_LW_law 416 = .ok (.if_icmp .eq 141, 3) := by decide +kernel
theorem d_LW_law_419 : decode b_LW_law 419 = .ok (.iconst 0, 1) := by decide +kernel
theorem d_LW_law_420 : decode b_LW_law 420 = .ok (.ireturn, 1) := by decide +kernel
theorem d_LW_law_421 : decode b_LW_law 421 = .ok (.aload_n 1, 1) := by decide +kernel
theorem d_LW_law_422 : decode b_LW_law 422 = .ok (.aload_n 0, 1) := by decide +kernel
theorem d_LW_law_423 : decode b_LW_law 423 = .ok (.iload 4, 2) := by decide +kernel
theorem d_LW_law_425 : decode b_LW_law 425 = .ok (.iconst 1, 1) := by decide +kernel
theorem d_LW_law_426 : decode b_LW_law 426 = .ok (.iadd, 1) := by decide +kernel
theorem d_LW_law_427 : decode b_LW_law 427 = .ok (.iaload, 1) := by decide +kernel
theorem d_LW_law_428 : decode b_LW_law 428 = .ok (.aload_n 0, 1) := by decide +kernel
theorem d_LW_law_429 : decode b_LW_law 429 = .ok (.iload 4, 2) := by decide +kernel
theorem d_LW_law_431 : decode b_LW_law 431 = .ok (.iconst 2, 1) := by decide +kernel
theorem d_LW_law_432 : decode b_LW_law 432 = .ok (.iadd, 1) := by decide +kernel
theorem d_LW_law_433 : decode b_LW_law 433 = .ok (.iaload, 1) := by decide +kernel
theorem d_LW_law_434 : decode b_LW_law 434 = .ok (.invokevirtual 80, 3) := by decide +kernel
theorem d_LW_law_437 : decode b_LW_law 437 = .ok (.aload_n 2, 1) := by decide +kernel
theorem d_LW_law_438 : decode b_LW_law 438 = .ok (.aload_n 0, 1) := by decide +kernel
theorem d_LW_law_439 : decode b_LW_law 439 = .ok (.iload 4, 2) := by decide +kernel
theorem d_LW_law_441 : decode b_LW_law 441 = .ok (.iconst 1, 1) := by decide +kernel
theorem d_LW_law_442 : decode b_LW_law 442 = .ok (.iadd, 1) := by decide +kernel
theorem d_LW_law_443 : decode b_LW_law 443 = .ok (.iaload, 1) := by decide +kernel
theorem d_LW_law_444 : decode b_LW_law 444 = .ok (.aload_n 0, 1) := by decide +kernel
theorem d_LW_law_445 : decode b_LW_law 445 = .ok (.iload 4, 2) := by decide +kernel
theorem d_LW_law_447 : decode b_LW_law 447 = .ok (.iconst 2, 1) := by decide +kernel
theorem d_LW_law_448 : decode b_LW_law 448 = .ok (.iadd, 1) := by decide +kernel
theorem d_LW_law_449 : decode b_LW_law 449 = .ok (.iaload, 1) := by decide +kernel
theorem d_LW_law_450 : decode b_LW_law 450 = .ok (.invokevirtual 83, 3) := by decide +kernel
theorem d_LW_law_453 : decode b_LW_law 453 = .ok (.if_icmp .eq 104, 3) := by decide +kernel
theorem d_LW_law_456 : decode b_LW_law 456 = .ok (.iconst 0, 1) := by decide +kernel
theorem d_LW_law_457 : decode b_LW_law 457 = .ok (.ireturn, 1) := by decide +kernel
theorem d_LW_law_458 : decode b_LW_law 458 = .ok (.aload_n 1, 1) := by decide +kernel
theorem d_LW_law_459 : decode b_LW_law 459 = .ok (.aload_n 0, 1) := by decide +kernel
theorem d_LW_law_460 : decode b_LW_law 460 = .ok (.iload 4, 2) := by decide +kernel
theorem d_LW_law_462 : decode b_LW_law 462 = .ok (.iconst 1, 1) := by decide +kernel
theorem d_LW_law_463 : decode b_LW_law 463 = .ok (.iadd, 1) := by decide +kernel
theorem d_LW_law_464 : decode b_LW_law 464 = .ok (.iaload, 1) := by decide +kernel
theorem d_LW_law_465 : decode b_LW_law 465 = .ok (.aload_n 0, 1) := by decide +kernel
theorem d_LW_law_466 : decode b_LW_law 466 = .ok (.iload 4, 2) := by decide +kernel
theorem d_LW_law_468 : decode b_LW_law 468 = .ok (.iconst 2, 1) := by decide +kernel
theorem d_LW_law_469 : decode b_LW_law 469 = .ok (.iadd, 1) := by decide +kernel
theorem d_LW_law_470 : decode b_LW_law 470 = .ok (.iaload, 1) := by decide +kernel
theorem d_LW_law_471 : decode b_LW_law 471 = .ok (.invokevirtual 84, 3) := by decide +kernel
theorem d_LW_law_474 : decode b_LW_law 474 = .ok (.aload_n 2, 1) := by decide +kernel
theorem d_LW_law_475 : decode b_LW_law 475 = .ok (.aload_n 0, 1) := by decide +kernel
theorem d_LW_law_476 : decode b_LW_law 476 = .ok (.iload 4, 2) := by decide +kernel
theorem d_LW_law_478 : decode b_LW_law 478 = .ok (.iconst 1, 1) := by decide +kernel
theorem d_LW_law_479 : decode b_LW_law 479 = .ok (.iadd, 1) := by decide +kernel
theorem d_LW_law_480 : decode b_LW_law 480 = .ok (.iaload, 1) := by decide +kernel
theorem d_LW_law_481 : decode b_LW_law 481 = .ok (.aload_n 0, 1) := by decide +kernel
theorem d_LW_law_482 : decode b_LW_law 482 = .ok (.iload 4, 2) := by decide +kernel
theorem d_LW_law_484 : decode b_LW_law 484 = .ok (.iconst 2, 1) := by decide +kernel
theorem d_LW_law_485 : decode b_LW_law 485 = .ok (.iadd, 1) := by decide +kernel
theorem d_LW_law_486 : decode b_LW_law 486 = .ok (.iaload, 1) := by decide +kernel
theorem d_LW_law_487 : decode b_LW_law 487 = .ok (.invokevirtual 87, 3) := by decide +kernel
theorem d_LW_law_490 : decode b_LW_law 490 = .ok (.if_icmp .eq 67, 3) := by decide +kernel
theorem d_LW_law_493 : decode b_LW_law 493 = .ok (.iconst 0, 1) := by decide +kernel
theorem d_LW_law_494 : decode b_LW_law 494 = .ok (.ireturn, 1) := by decide +kernel
theorem d_LW_law_495 : decode b_LW_law 495 = .ok (.aload_n 1, 1) := by decide +kernel
theorem d_LW_law_496 : decode b_LW_law 496 = .ok (.aload_n 0, 1) := by decide +kernel
theorem d_LW_law_497 : decode b_LW_law 497 = .ok (.iload 4, 2) := by decide +kernel
theorem d_LW_law_499 : decode b_LW_law 499 = .ok (.iconst 1, 1) := by decide +kernel
theorem d_LW_law_500 : decode b_LW_law 500 = .ok (.iadd, 1) := by decide +kernel
theorem d_LW_law_501 : decode b_LW_law 501 = .ok (.iaload, 1) := by decide +kernel
theorem d_LW_law_502 : decode b_LW_law 502 = .ok (.aload_n 0, 1) := by decide +kernel
theorem d_LW_law_503 : decode b_LW_law 503 = .ok (.iload 4, 2) := by decide +kernel
theorem d_LW_law_505 : decode b_LW_law 505 = .ok (.iconst 2, 1) := by decide +kernel
theorem d_LW_law_506 : decode b_LW_law 506 = .ok (.iadd, 1) := by decide +kernel
theorem d_LW_law_507 : decode b_LW_law 507 = .ok (.iaload, 1) := by decide +kernel
theorem d_LW_law_508 : decode b_LW_law 508 = .ok (.invokevirtual 88, 3) := by decide +kernel
theorem d_LW_law_511 : decode b_LW_law 511 = .ok (.aload_n 2, 1) := by decide +kernel
theorem d_LW_law_512 : decode b_LW_law 512 = .ok (.aload_n 0, 1) := by decide +kernel
theorem d_LW_law_513 : decode b_LW_law 513 = .ok (.iload 4, 2) := by decide +kernel
theorem d_LW_law_515 : decode b_LW_law 515 = .ok (.iconst 1, 1) := by decide +kernel
theorem d_LW_law_516 : decode b_LW_law 516 = .ok (.iadd, 1) := by decide +kernel
theorem d_LW_law_517 : decode b_LW_law 517 = .ok (.iaload, 1) := by decide +kernel
theorem d_LW_law_518 : decode b_LW_law 518 = .ok (.aload_n 0, 1) := by decide +kernel
theorem d_LW_law_519 : decode b_LW_law 519 = .ok (.iload 4, 2) := by decide +kernel
theorem d_LW_law_521 : decode b_LW_law 521 = .ok (.iconst 2, 1) := by decide +kernel
theorem d_LW_law_522 : decode b_LW_law 522 = .ok (.iadd, 1) := by decide +kernel
theorem d_LW_law_523 : decode b_LW_law 523 = .ok (.iaload, 1) := by decide +kernel
theorem d_LW_law_524 : decode b_LW_law 524 = .ok (.invokevirtual 91, 3) := by decide +kernel
theorem d_LW_law_527 : decode b_LW_law 527 = .ok (.if_icmp .eq 30, 3) := by decide +kernel
theorem d_LW_law_530 : decode b_LW_law 530 = .ok (.iconst 0, 1) := by decide +kernel
theorem d_LW_law_531 : decode b_LW_law 531 = .ok (.ireturn, 1) := by decide +kernel
theorem d_LW_law_532 : decode b_LW_law 532 = .ok (.aload_n 1, 1) := by decide +kernel
theorem d_LW_law_533 : decode b_LW_law 533 = .ok (.aload_n 0, 1) := by decide +kernel
theorem d_LW_law_534 : decode b_LW_law 534 = .ok (.iload 4, 2) := by decide +kernel
theorem d_LW_law_536 : decode b_LW_law 536 = .ok (.iconst 1, 1) := by decide +kernel
theorem d_LW_law_537 : decode b_LW_law 537 = .ok (.iadd, 1) := by decide +kernel
theorem d_LW_law_538 : decode b_LW_law 538 = .ok (.iaload, 1) := by decide +kernel
theorem d_LW_law_539 : decode b_LW_law 539 = .ok (.invokevirtual 92, 3) := by decide +kernel
theorem d_LW_law_542 : decode b_LW_law 542 = .ok (.aload_n 2, 1) := by decide +kernel
theorem d_LW_law_543 : decode b_LW_law 543 = .ok (.aload_n 0, 1) := by decide +kernel
theorem d_LW_law_544 : decode b_LW_law 544 = .ok (.iload 4, 2) := by decide +kernel
theorem d_LW_law_546 : decode b_LW_law 546 = .ok (.iconst 1, 1) := by decide +kernel
theorem d_LW_law_547 : decode b_LW_law 547 = .ok (.iadd, 1) := by decide +kernel
theorem d_LW_law_548 : decode b_LW_law 548 = .ok (.iaload, 1) := by decide +kernel
theorem d_LW_law_549 : decode b_LW_law 549 = .ok (.invokevirtual 95, 3) := by decide +kernel
theorem d_LW_law_552 : decode b_LW_law 552 = .ok (.if_icmp .eq 5, 3) := by decide +kernel
theorem d_LW_law_555 : decode b_LW_law 555 = .ok (.iconst 0, 1) := by decide +kernel
theorem d_LW_law_556 : decode b_LW_law 556 = .ok (.ireturn, 1) := by decide +kernel
theorem d_LW_law_557 : decode b_LW_law 557 = .ok (.iinc 4 3, 3) := by decide +kernel
theorem d_LW_law_560 : decode b_LW_law 560 = .ok (.goto (-537), 3) := by decide +kernel
theorem d_LW_law_563 : decode b_LW_law 563 = .ok (.iconst 1, 1) := by decide +kernel
theorem d_LW_law_564 : decode b_LW_law 564 = .ok (.ireturn, 1) := by decide +kernel
/-- class, model and the long[1] lie apart -/
def lawP (D : va_G) (ct : Nat → ClassId) (A : Nat → Prop) (Mc Mm : hp_M) (o : Nat) (fo : Nat → Int64) (H : Heap) : Prop := hp_H D ccl A Mc H ∧ hp_H D ccl A Mm H ∧ hp_H D ccl A (hp_1 o (oE ct fo)) H ∧ (∀ a, Mc a ≠ none → Mm a = none) ∧ (∀ a, Mc a ≠ none → hp_1 o (oE ct fo) a = none) ∧ ∀ a, Mm a ≠ none → hp_1 o (oE ct fo) a = none
theorem ap_sym {M N : hp_M} (h : ∀ a, M a ≠ none → N a = none) : ∀ a, N a ≠ none → M a = none := fun a ha => by
  cases hm : M a with
  | none => rfl
  | some x => exact absurd (h a (by rw [hm]; exact Option.some_ne_none _)) ha
theorem lawP.c {D : va_G} {ct : Nat → ClassId} {A : Nat → Prop} {Mc Mm M1 : hp_M} {o : Nat} {fo : Nat → Int64} {H H1 : Heap} (h : lawP D ct A Mc Mm o fo H) (h1 : hp_H D ccl A M1 H1) (hB : hp_H D ccl (hp_A Mc H.size) M1 H1) (hk : ∀ q : Nat, q < H.size → ¬ hp_A Mc H.size q → H1[q]? = H[q]?) : lawP D ct A M1 Mm o fo H1 := by
  obtain ⟨a, b, c, d, e, f⟩ := h
  obtain ⟨b1, d1⟩ := fr_keep b d hB hk
  obtain ⟨c1, e1⟩ := fr_keep c e hB hk
  exact ⟨h1, b1, c1, d1, e1, f⟩
theorem lawP.m {D : va_G} {ct : Nat → ClassId} {A : Nat → Prop} {Mc Mm M1 : hp_M} {o : Nat} {fo : Nat → Int64} {H H1 : Heap} (h : lawP D ct A Mc Mm o fo H) (h1 : hp_H D ccl A M1 H1) (hB : hp_H D ccl (hp_A Mm H.size) M1 H1) (hk : ∀ q : Nat, q < H.size → ¬ hp_A Mm H.size q → H1[q]? = H[q]?) : lawP D ct A Mc M1 o fo H1 := by
  obtain ⟨a, b, c, d, e, f⟩ := h
  obtain ⟨a1, d1⟩ := fr_keep a (ap_sym d) hB hk
  obtain ⟨c1, f1⟩ := fr_keep c f hB hk
  exact ⟨a1, h1, c1, ap_sym d1, e, f1⟩
theorem hp_or_n {M N : hp_M} {a : Nat} (h : hp_or M N a ≠ none) : M a ≠ none ∨ N a ≠ none := by
  by_cases z : M a = none
  · rw [hp_or_r z] at h; exact Or.inr h
  · exact Or.inl z
theorem lawP.o {D : va_G} {ct : Nat → ClassId} {A : Nat → Prop} {Mc Mm : hp_M} {o : Nat} {fo : Nat → Int64} {H : Heap} (h : lawP D ct A Mc Mm o fo H) : hp_H D ccl A (hp_or Mc (hp_1 o (oE ct fo))) H := h.1.join h.2.2.1 h.2.2.2.2.1
theorem lawP.a {D : va_G} {ct : Nat → ClassId} {A : Nat → Prop} {Mc Mm M1 : hp_M} {o : Nat} {fo f1 : Nat → Int64} {H H1 : Heap} (h : lawP D ct A Mc Mm o fo H) (h1 : hp_H D ccl A (hp_or M1 (hp_1 o (oE ct f1))) H1) (hB : hp_H D ccl (hp_A (hp_or Mc (hp_1 o (oE ct fo))) H.size) (hp_or M1 (hp_1 o (oE ct f1))) H1) (hap : ∀ a, M1 a ≠ none → hp_1 o (oE ct f1) a = none) (hk : ∀ q : Nat, q < H.size → ¬ hp_A (hp_or Mc (hp_1 o (oE ct fo))) H.size q → H1[q]? = H[q]?) : lawP D ct A M1 Mm o f1 H1 := by
  obtain ⟨a, b, c, d, e, f⟩ := h
  obtain ⟨b1, d1⟩ := fr_keep b (M := hp_or Mc (hp_1 o (oE ct fo))) (fun q hq => by
    rcases hp_or_n hq with z | z
    · exact d q z
    · exact ap_sym f q z) hB hk
  refine ⟨h1.part (fun q x hx => hp_or_l hx), b1, h1.part (or_r hap), fun q hq => d1 q ?_, hap, ap_sym (fun q hq => d1 q ?_)⟩
  · cases hm : M1 q with
    | none => exact absurd hm hq
    | some x => rw [hp_or_l hm]; exact Option.some_ne_none _
  · cases hm : hp_1 o (oE ct f1) q with
    | none => exact absurd hm hq
    | some x => rw [or_r hap q x hm]; exact Option.some_ne_none _
abbrev A0 (s : State) : Nat → Prop := fun q => s.heap.size ≤ q
def lwI (D : va_G) (ct : Nat → ClassId) (s : State) (x md o : Nat) (H : Heap) : Prop := ∃ Mc Mm fo, both ct Mc Mm x md ∧ lawP D ct (A0 s) Mc Mm o fo H
/-- what stays -/
def lwF (l : Launch) (p : Program) (s : State) (m : MethodId) (c : Code) (b L : Nat) (xs : Nat → Int32) (D : va_G) (ct : Nat → ClassId) (Z : hp_Z) (tk th : Nat) : Prop := CallFix p m c code 7 s #[Value.ref b] tb "ActionDigestsLaw" ∧ hp_Zok Z ∧ va_K D ccl (tys ct) s ∧ Z (A0 s) s s.heap ∧ va_X b L xs s s.heap ∧ b < s.heap.size ∧ zK Z tk ∧ zH Z th ∧ zN Z ∧ zA Z ∧ zX Z ∧ zC Z ∧ l.stackTraces = false ∧ L ≤ 1536
set_option maxHeartbeats 4000000 in
set_option maxRecDepth 100000 in
theorem lw_0 (l : Launch) {p : Program} {e : Env} {s : State} {m : MethodId} {below : List Frame} {meth : Method} {c : Code} {b L : Nat} {xs : Nat → Int32} {D : va_G} {ct : Nat → ClassId} {Z : hp_Z} {x md o tk th : Nat} {H : Heap} {locs : List Loc} {cells slots : Nat} {Q : State → Prop} {ls : Array Slot} {j : Nat} (F : lwF l p s m c b L xs D ct Z tk th) (hj : j + 2 < L) (hrc : cells + 8 ≤ 500000) (hrs : slots + 300 ≤ 7000000) (hl : lv_has ls 7 [(4, .int (nI j)), (0, .ref b), (1, .ref x), (2, .ref md), (3, .ref o)]) (I : lwI D ct s x md o H) (hS : va_S (A0 s) s.heap H locs) (kk : ∀ (H1 : Heap) (locs1 : List Loc) (ls1 : Array Slot), lwI D ct s x md o H1 → va_S (A0 s) s.heap H1 locs1 → lv_has ls1 7 [(4, .int (nI j)), (0, .ref b), (1, .ref x), (2, .ref md), (3, .ref o)] → W p l e room_1 s m #[Value.ref b] below meth c H1 locs1 (cells + 8) (slots + 300) Q (F0 m 557 ls1 [])) : W p l e room_1 s m #[Value.ref b] below meth c H locs cells slots Q (F0 m 108 ls []) := by
  obtain ⟨S, hZ, hK, hz, hX, hbl, hzk, hzh, hzn, hza, hzx, hzc, hlt, hL⟩ := F
  have hx := S.1
  have hb := S.2.1
  have hA : ∀ q, s.heap.size ≤ q → A0 s q := fun q h => h
  have hbA : ¬ A0 s b := Nat.not_le.mpr hbl
  obtain ⟨Mc, Mm, fo, hbo, hP⟩ := I
  obtain ⟨Pc, Pm, hC, hM, hag⟩ := b_type l D ct Z hZ hbo ((xs (j + 1)).toBitVec.toNat % 65536) (Nat.mod_lt _ (by decide))
  obtain ⟨fs, fx⟩ := hbo.x
  obtain ⟨fs2, fm⟩ := hbo.m
  refine lv_aload_n hx hb d_LW_law_108 rfl (lv_at hl 2 rfl) ?_
  refine lv_aload_n hx hb d_LW_law_109 rfl (lv_at hl 1 rfl) ?_
  refine lv_iload hx hb d_LW_law_110 (lv_at hl 0 rfl) ?_
  refine lv_iconst (v := nI 1) hx hb d_LW_law_112 rfl ?_
  refine nb_iadd hx hb d_LW_law_113 ?_
  refine va_sld hx hb hX hbl hbA hS (i := nI (j + 1)) (vp_in_nI (by omega) (by omega)) d_LW_law_114 ?_
  rw [nI_clamp (n := j + 1) (by omega)]
  refine lv_i2c hx hb d_LW_law_115 (pk_char _) ?_
  refine hq_calli (go_V S hZ hK hP.1 hS hA hz (hC _) mc_AD_type mz_AD ml_LW_34 mi_AD_type mx_AD_type hd_AD_type rfl ⟨by decide, by decide⟩ fx rfl rfl hl.1 rfl (Nat.le_of_ble_eq_true rfl) d_LW_law_116 ⟨by show cells + 0 ≤ _; exact Nat.le_trans (by omega : _ ≤ 500000) (by decide), by show slots + 0 ≤ _; exact Nat.le_trans (by omega : _ ≤ 7000000) (by decide)⟩) hP.1 hS hA (fun r1 M1 H locs hp1 h1 h2 h3 hS => ?_)
  replace hP := hP.c h1 h2 h3
  clear h1 h2 h3
  refine lv_aload_n hx hb d_LW_law_119 rfl (lv_at hl 3 rfl) ?_
  refine lv_aload_n hx hb d_LW_law_120 rfl (lv_at hl 1 rfl) ?_
  refine lv_iload hx hb d_LW_law_121 (lv_at hl 0 rfl) ?_
  refine lv_iconst (v := nI 1) hx hb d_LW_law_123 rfl ?_
  refine nb_iadd hx hb d_LW_law_124 ?_
  refine va_sld hx hb hX hbl hbA hS (i := nI (j + 1)) (vp_in_nI (by omega) (by omega)) d_LW_law_125 ?_
  rw [nI_clamp (n := j + 1) (by omega)]
  refine lv_i2c hx hb d_LW_law_126 (pk_char _) ?_
  refine hq_calli (go_V S hZ hK hP.2.1 hS hA hz (hM _) mc_MD_type mz_MD ml_LW_38 mi_MD_type mx_MD_type hd_MD_type rfl ⟨by decide, by decide⟩ fm rfl rfl hl.1 rfl (Nat.le_of_ble_eq_true rfl) d_LW_law_127 ⟨by show cells + 0 + 0 ≤ _; exact Nat.le_trans (by omega : _ ≤ 500000) (by decide), by show slots + 0 + 0 ≤ _; exact Nat.le_trans (by omega : _ ≤ 7000000) (by decide)⟩) hP.2.1 hS hA (fun r2 M2 H locs hp2 h1 h2 h3 hS => ?_)
  replace hP := hP.m h1 h2 h3
  clear h1 h2 h3
  obtain ⟨er, hbo1⟩ := hag _ _ _ _ hp1 hp2
  subst er
  refine lv_icmp_eq (tgt := 557) hx hb d_LW_law_130 (by decide) (fun _ => ?_) (fun h => absurd rfl h)
  refine W.widen (k := cells + 8) (n := slots + 300) (by omega) (by omega) ?_
  exact kk _ _ _ ⟨_, _, _, hbo1, hP⟩ hS (lv_sub hl [0, 1, 2, 3, 4] rfl)
set_option maxHeartbeats 4000000 in
set_option maxRecDepth 100000 in
theorem lw_7 (l : Launch) {p : Program} {e : Env} {s : State} {m : MethodId} {below : List Frame} {meth : Method} {c : Code} {b L : Nat} {xs : Nat → Int32} {D : va_G} {ct : Nat → ClassId} {Z : hp_Z} {x md o tk th : Nat} {H : Heap} {locs : List Loc} {cells slots : Nat} {Q : State → Prop} {ls : Array Slot} {j : Nat} (F : lwF l p s m c b L xs D ct Z tk th) (hj : j + 2 < L) (hrc : cells + 8 ≤ 500000) (hrs : slots + 300 ≤ 7000000) (hl : lv_has ls 7 [(4, .int (nI j)), (0, .ref b), (1, .ref x), (2, .ref md), (3, .ref o)]) (I : lwI D ct s x md o H) (hS : va_S (A0 s) s.heap H locs) (kk : ∀ (H1 : Heap) (locs1 : List Loc) (ls1 : Array Slot), lwI D ct s x md o H1 → va_S (A0 s) s.heap H1 locs1 → lv_has ls1 7 [(4, .int (nI j)), (0, .ref b), (1, .ref x), (2, .ref md), (3, .ref o)] → W p l e room_1 s m #[Value.ref b] below meth c H1 locs1 (cells + 8) (slots + 300) Q (F0 m 557 ls1 [])) : W p l e room_1 s m #[Value.ref b] below meth c H locs cells slots Q (F0 m 334 ls []) := by
  obtain ⟨S, hZ, hK, hz, hX, hbl, hzk, hzh, hzn, hza, hzx, hzc, hlt, hL⟩ := F
  have hx := S.1
  have hb := S.2.1
  have hA : ∀ q, s.heap.size ≤ q → A0 s q := fun q h => h
  have hbA : ¬ A0 s b := Nat.not_le.mpr hbl
  obtain ⟨Mc, Mm, fo, hbo, hP⟩ := I
  obtain ⟨Pc, Pm, hC, hM, hag⟩ := b_rows l D ct Z hZ hbo (xs (j + 1))
  obtain ⟨fs, fx⟩ := hbo.x
  obtain ⟨fs2, fm⟩ := hbo.m
  refine lv_aload_n hx hb d_LW_law_334 rfl (lv_at hl 2 rfl) ?_
  refine lv_aload_n hx hb d_LW_law_335 rfl (lv_at hl 1 rfl) ?_
  refine lv_iload hx hb d_LW_law_336 (lv_at hl 0 rfl) ?_
  refine lv_iconst (v := nI 1) hx hb d_LW_law_338 rfl ?_
  refine nb_iadd hx hb d_LW_law_339 ?_
  refine va_sld hx hb hX hbl hbA hS (i := nI (j + 1)) (vp_in_nI (by omega) (by omega)) d_LW_law_340 ?_
  rw [nI_clamp (n := j + 1) (by omega)]
  refine hq_calli (go_V S hZ hK hP.1 hS hA hz (hC _) mc_AD_rows mz_AD ml_LW_66 mi_AD_rows mx_AD_rows hd_AD_rows rfl ⟨by decide, by decide⟩ fx rfl rfl hl.1 rfl (Nat.le_of_ble_eq_true rfl) d_LW_law_341 ⟨by show cells + 0 ≤ _; exact Nat.le_trans (by omega : _ ≤ 500000) (by decide), by show slots + 0 ≤ _; exact Nat.le_trans (by omega : _ ≤ 7000000) (by decide)⟩) hP.1 hS hA (fun r1 M1 H locs hp1 h1 h2 h3 hS => ?_)
  replace hP := hP.c h1 h2 h3
  clear h1 h2 h3
  refine lv_aload_n hx hb d_LW_law_344 rfl (lv_at hl 3 rfl) ?_
  refine lv_aload_n hx hb d_LW_law_345 rfl (lv_at hl 1 rfl) ?_
  refine lv_iload hx hb d_LW_law_346 (lv_at hl 0 rfl) ?_
  refine lv_iconst (v := nI 1) hx hb d_LW_law_348 rfl ?_
  refine nb_iadd hx hb d_LW_law_349 ?_
  refine va_sld hx hb hX hbl hbA hS (i := nI (j + 1)) (vp_in_nI (by omega) (by omega)) d_LW_law_350 ?_
  rw [nI_clamp (n := j + 1) (by omega)]
  refine hq_calli (go_V S hZ hK hP.2.1 hS hA hz (hM _) mc_MD_rows mz_MD ml_LW_70 mi_MD_rows mx_MD_rows hd_MD_rows rfl ⟨by decide, by decide⟩ fm rfl rfl hl.1 rfl (Nat.le_of_ble_eq_true rfl) d_LW_law_351 ⟨by show cells + 0 + 0 ≤ _; exact Nat.le_trans (by omega : _ ≤ 500000) (by decide), by show slots + 0 + 0 ≤ _; exact Nat.le_trans (by omega : _ ≤ 7000000) (by decide)⟩) hP.2.1 hS hA (fun r2 M2 H locs hp2 h1 h2 h3 hS => ?_)
  replace hP := hP.m h1 h2 h3
  clear h1 h2 h3
  obtain ⟨er, hbo1⟩ := hag _ _ _ _ hp1 hp2
  subst er
  refine lv_icmp_eq (tgt := 557) hx hb d_LW_law_354 (by decide) (fun _ => ?_) (fun h => absurd rfl h)
  refine W.widen (k := cells + 8) (n := slots + 300) (by omega) (by omega) ?_
  exact kk _ _ _ ⟨_, _, _, hbo1, hP⟩ hS (lv_sub hl [0, 1, 2, 3, 4] rfl)
set_option maxHeartbeats 4000000 in
set_option maxRecDepth 100000 in
theorem lw_8 (l : Launch) {p : Program} {e : Env} {s : State} {m : MethodId} {below : List Frame} {meth : Method} {c : Code} {b L : Nat} {xs : Nat → Int32} {D : va_G} {ct : Nat → ClassId} {Z : hp_Z} {x md o tk th : Nat} {H : Heap} {locs : List Loc} {cells slots : Nat} {Q : State → Prop} {ls : Array Slot} {j : Nat} (F : lwF l p s m c b L xs D ct Z tk th) (hj : j + 2 < L) (hrc : cells + 8 ≤ 500000) (hrs : slots + 300 ≤ 7000000) (hl : lv_has ls 7 [(4, .int (nI j)), (0, .ref b), (1, .ref x), (2, .ref md), (3, .ref o)]) (I : lwI D ct s x md o H) (hS : va_S (A0 s) s.heap H locs) (kk : ∀ (H1 : Heap) (locs1 : List Loc) (ls1 : Array Slot), lwI D ct s x md o H1 → va_S (A0 s) s.heap H1 locs1 → lv_has ls1 7 [(4, .int (nI j)), (0, .ref b), (1, .ref x), (2, .ref md), (3, .ref o)] → W p l e room_1 s m #[Value.ref b] below meth c H1 locs1 (cells + 8) (slots + 300) Q (F0 m 557 ls1 [])) : W p l e room_1 s m #[Value.ref b] below meth c H locs cells slots Q (F0 m 359 ls []) := by
  obtain ⟨S, hZ, hK, hz, hX, hbl, hzk, hzh, hzn, hza, hzx, hzc, hlt, hL⟩ := F
  have hx := S.1
  have hb := S.2.1
  have hA : ∀ q, s.heap.size ≤ q → A0 s q := fun q h => h
  have hbA : ¬ A0 s b := Nat.not_le.mpr hbl
  obtain ⟨Mc, Mm, fo, hbo, hP⟩ := I
  obtain ⟨Pc, Pm, hC, hM, hag⟩ := b_kind l D ct Z hZ hbo (xs (j + 1)) (xs (j + 2))
  obtain ⟨fs, fx⟩ := hbo.x
  obtain ⟨fs2, fm⟩ := hbo.m
  refine lv_aload_n hx hb d_LW_law_359 rfl (lv_at hl 2 rfl) ?_
  refine lv_aload_n hx hb d_LW_law_360 rfl (lv_at hl 1 rfl) ?_
  refine lv_iload hx hb d_LW_law_361 (lv_at hl 0 rfl) ?_
  refine lv_iconst (v := nI 1) hx hb d_LW_law_363 rfl ?_
  refine nb_iadd hx hb d_LW_law_364 ?_
  refine va_sld hx hb hX hbl hbA hS (i := nI (j + 1)) (vp_in_nI (by omega) (by omega)) d_LW_law_365 ?_
  rw [nI_clamp (n := j + 1) (by omega)]
  refine lv_aload_n hx hb d_LW_law_366 rfl (lv_at hl 1 rfl) ?_
  refine lv_iload hx hb d_LW_law_367 (lv_at hl 0 rfl) ?_
  refine lv_iconst (v := nI 2) hx hb d_LW_law_369 rfl ?_
  refine nb_iadd hx hb d_LW_law_370 ?_
  refine va_sld hx hb hX hbl hbA hS (i := nI (j + 2)) (vp_in_nI (by omega) (by omega)) d_LW_law_371 ?_
  rw [nI_clamp (n := j + 2) (by omega)]
  refine hq_calli (go_V S hZ hK hP.1 hS hA hz (hC _) mc_AD_kind mz_AD ml_LW_71 mi_AD_kind mx_AD_kind hd_AD_kind rfl ⟨by decide, by decide⟩ fx rfl rfl hl.1 rfl (Nat.le_of_ble_eq_true rfl) d_LW_law_372 ⟨by show cells + 0 ≤ _; exact Nat.le_trans (by omega : _ ≤ 500000) (by decide), by show slots + 0 ≤ _; exact Nat.le_trans (by omega : _ ≤ 7000000) (by decide)⟩) hP.1 hS hA (fun r1 M1 H locs hp1 h1 h2 h3 hS => ?_)
  replace hP := hP.c h1 h2 h3
  clear h1 h2 h3
  refine lv_aload_n hx hb d_LW_law_375 rfl (lv_at hl 3 rfl) ?_
  refine lv_aload_n hx hb d_LW_law_376 rfl (lv_at hl 1 rfl) ?_
  refine lv_iload hx hb d_LW_law_377 (lv_at hl 0 rfl) ?_
  refine lv_iconst (v := nI 1) hx hb d_LW_law_379 rfl ?_
  refine nb_iadd hx hb d_LW_law_380 ?_
  refine va_sld hx hb hX hbl hbA hS (i := nI (j + 1)) (vp_in_nI (by omega) (by omega)) d_LW_law_381 ?_
  rw [nI_clamp (n := j + 1) (by omega)]
  refine lv_aload_n hx hb d_LW_law_382 rfl (lv_at hl 1 rfl) ?_
  refine lv_iload hx hb d_LW_law_383 (lv_at hl 0 rfl) ?_
  refine lv_iconst (v := nI 2) hx hb d_LW_law_385 rfl ?_
  refine nb_iadd hx hb d_LW_law_386 ?_
  refine va_sld hx hb hX hbl hbA hS (i := nI (j + 2)) (vp_in_nI (by omega) (by omega)) d_LW_law_387 ?_
  rw [nI_clamp (n := j + 2) (by omega)]
  refine hq_calli (go_V S hZ hK hP.2.1 hS hA hz (hM _) mc_MD_kind mz_MD ml_LW_75 mi_MD_kind mx_MD_kind hd_MD_kind rfl ⟨by decide, by decide⟩ fm rfl rfl hl.1 rfl (Nat.le_of_ble_eq_true rfl) d_LW_law_388 ⟨by show cells + 0 + 0 ≤ _; exact Nat.le_trans (by omega : _ ≤ 500000) (by decide), by show slots + 0 + 0 ≤ _; exact Nat.le_trans (by omega : _ ≤ 7000000) (by decide)⟩) hP.2.1 hS hA (fun r2 M2 H locs hp2 h1 h2 h3 hS => ?_)
  replace hP := hP.m h1 h2 h3
  clear h1 h2 h3
  obtain ⟨er, hbo1⟩ := hag _ _ _ _ hp1 hp2
  subst er
  refine lv_icmp_eq (tgt := 557) hx hb d_LW_law_391 (by decide) (fun _ => ?_) (fun h => absurd rfl h)
  refine W.widen (k := cells + 8) (n := slots + 300) (by omega) (by omega) ?_
  exact kk _ _ _ ⟨_, _, _, hbo1, hP⟩ hS (lv_sub hl [0, 1, 2, 3, 4] rfl)
set_option maxHeartbeats 4000000 in
set_option maxRecDepth 100000 in
theorem lw_9 (l : Launch) {p : Program} {e : Env} {s : State} {m : MethodId} {below : List Frame} {meth : Method} {c : Code} {b L : Nat} {xs : Nat → Int32} {D : va_G} {ct : Nat → ClassId} {Z : hp_Z} {x md o tk th : Nat} {H : Heap} {locs : List Loc} {cells slots : Nat} {Q : State → Prop} {ls : Array Slot} {j : Nat} (F : lwF l p s m c b L xs D ct Z tk th) (hj : j + 2 < L) (hrc : cells + 8 ≤ 500000) (hrs : slots + 300 ≤ 7000000) (hl : lv_has ls 7 [(4, .int (nI j)), (0, .ref b), (1, .ref x), (2, .ref md), (3, .ref o)]) (I : lwI D ct s x md o H) (hS : va_S (A0 s) s.heap H locs) (kk : ∀ (H1 : Heap) (locs1 : List Loc) (ls1 : Array Slot), lwI D ct s x md o H1 → va_S (A0 s) s.heap H1 locs1 → lv_has ls1 7 [(4, .int (nI j)), (0, .ref b), (1, .ref x), (2, .ref md), (3, .ref o)] → W p l e room_1 s m #[Value.ref b] below meth c H1 locs1 (cells + 8) (slots + 300) Q (F0 m 557 ls1 [])) : W p l e room_1 s m #[Value.ref b] below meth c H locs cells slots Q (F0 m 396 ls []) := by
  obtain ⟨S, hZ, hK, hz, hX, hbl, hzk, hzh, hzn, hza, hzx, hzc, hlt, hL⟩ := F
  have hx := S.1
  have hb := S.2.1
  have hA : ∀ q, s.heap.size ≤ q → A0 s q := fun q h => h
  have hbA : ¬ A0 s b := Nat.not_le.mpr hbl
  obtain ⟨Mc, Mm, fo, hbo, hP⟩ := I
  obtain ⟨Pc, Pm, hC, hM, hag⟩ := b_size l D ct Z hZ hbo (xs (j + 1))
  obtain ⟨fs, fx⟩ := hbo.x
  obtain ⟨fs2, fm⟩ := hbo.m
  refine lv_aload_n hx hb d_LW_law_396 rfl (lv_at hl 2 rfl) ?_
  refine lv_aload_n hx hb d_LW_law_397 rfl (lv_at hl 1 rfl) ?_
  refine lv_iload hx hb d_LW_law_398 (lv_at hl 0 rfl) ?_
  refine lv_iconst (v := nI 1) hx hb d_LW_law_400 rfl ?_
  refine nb_iadd hx hb d_LW_law_401 ?_
  refine va_sld hx hb hX hbl hbA hS (i := nI (j + 1)) (vp_in_nI (by omega) (by omega)) d_LW_law_402 ?_
  rw [nI_clamp (n := j + 1) (by omega)]
  refine hq_calli (go_V S hZ hK hP.1 hS hA hz (hC _) mc_AD_size mz_AD ml_LW_76 mi_AD_size mx_AD_size hd_AD_size rfl ⟨by decide, by decide⟩ fx rfl rfl hl.1 rfl (Nat.le_of_ble_eq_true rfl) d_LW_law_403 ⟨by show cells + 0 ≤ _; exact Nat.le_trans (by omega : _ ≤ 500000) (by decide), by show slots + 0 ≤ _; exact Nat.le_trans (by omega : _ ≤ 7000000) (by decide)⟩) hP.1 hS hA (fun r1 M1 H locs hp1 h1 h2 h3 hS => ?_)
  replace hP := hP.c h1 h2 h3
  clear h1 h2 h3
  refine lv_aload_n hx hb d_LW_law_406 rfl (lv_at hl 3 rfl) ?_
  refine lv_aload_n hx hb d_LW_law_407 rfl (lv_at hl 1 rfl) ?_
  refine lv_iload hx hb d_LW_law_408 (lv_at hl 0 rfl) ?_
  refine lv_iconst (v := nI 1) hx hb d_LW_law_410 rfl ?_
  refine nb_iadd hx hb d_LW_law_411 ?_
  refine va_sld hx hb hX hbl hbA hS (i := nI (j + 1)) (vp_in_nI (by omega) (by omega)) d_LW_law_412 ?_
  rw [nI_clamp (n := j + 1) (by omega)]
  refine hq_calli (go_V S hZ hK hP.2.1 hS hA hz (hM _) mc_MD_size mz_MD ml_LW_79 mi_MD_size mx_MD_size hd_MD_size rfl ⟨by decide, by decide⟩ fm rfl rfl hl.1 rfl (Nat.le_of_ble_eq_true rfl) d_LW_law_413 ⟨by show cells + 0 + 0 ≤ _; exact Nat.le_trans (by omega : _ ≤ 500000) (by decide), by show slots + 0 + 0 ≤ _; exact Nat.le_trans (by omega : _ ≤ 7000000) (by decide)⟩) hP.2.1 hS hA (fun r2 M2 H locs hp2 h1 h2 h3 hS => ?_)
  replace hP := hP.m h1 h2 h3
  clear h1 h2 h3
  obtain ⟨er, hbo1⟩ := hag _ _ _ _ hp1 hp2
  subst er
  refine lv_icmp_eq (tgt := 557) hx hb d_LW_law_416 (by decide) (fun _ => ?_) (fun h => absurd rfl h)
  refine W.widen (k := cells + 8) (n := slots + 300) (by omega) (by omega) ?_
  exact kk _ _ _ ⟨_, _, _, hbo1, hP⟩ hS (lv_sub hl [0, 1, 2, 3, 4] rfl)
set_option maxHeartbeats 4000000 in
set_option maxRecDepth 100000 in
theorem lw_10 (l : Launch) {p : Program} {e : Env} {s : State} {m : MethodId} {below : List Frame} {meth : Method} {c : Code} {b L : Nat} {xs : Nat → Int32} {D : va_G} {ct : Nat → ClassId} {Z : hp_Z} {x md o tk th : Nat} {H : Heap} {locs : List Loc} {cells slots : Nat} {Q : State → Prop} {ls : Array Slot} {j : Nat} (F : lwF l p s m c b L xs D ct Z tk th) (hj : j + 2 < L) (hrc : cells + 8 ≤ 500000) (hrs : slots + 300 ≤ 7000000) (hl : lv_has ls 7 [(4, .int (nI j)), (0, .ref b), (1, .ref x), (2, .ref md), (3, .ref o)]) (I : lwI D ct s x md o H) (hS : va_S (A0 s) s.heap H locs) (kk : ∀ (H1 : Heap) (locs1 : List Loc) (ls1 : Array Slot), lwI D ct s x md o H1 → va_S (A0 s) s.heap H1 locs1 → lv_has ls1 7 [(4, .int (nI j)), (0, .ref b), (1, .ref x), (2, .ref md), (3, .ref o)] → W p l e room_1 s m #[Value.ref b] below meth c H1 locs1 (cells + 8) (slots + 300) Q (F0 m 557 ls1 [])) : W p l e room_1 s m #[Value.ref b] below meth c H locs cells slots Q (F0 m 421 ls []) := by
  obtain ⟨S, hZ, hK, hz, hX, hbl, hzk, hzh, hzn, hza, hzx, hzc, hlt, hL⟩ := F
  have hx := S.1
  have hb := S.2.1
  have hA : ∀ q, s.heap.size ≤ q → A0 s q := fun q h => h
  have hbA : ¬ A0 s b := Nat.not_le.mpr hbl
  obtain ⟨Mc, Mm, fo, hbo, hP⟩ := I
  obtain ⟨Pc, Pm, hC, hM, hag⟩ := b_character l D ct Z hZ hbo (xs (j + 1)) (xs (j + 2))
  obtain ⟨fs, fx⟩ := hbo.x
  obtain ⟨fs2, fm⟩ := hbo.m
  refine lv_aload_n hx hb d_LW_law_421 rfl (lv_at hl 2 rfl) ?_
  refine lv_aload_n hx hb d_LW_law_422 rfl (lv_at hl 1 rfl) ?_
  refine lv_iload hx hb d_LW_law_423 (lv_at hl 0 rfl) ?_
  refine lv_iconst (v := nI 1) hx hb d_LW_law_425 rfl ?_
  refine nb_iadd hx hb d_LW_law_426 ?_
  refine va_sld hx hb hX hbl hbA hS (i := nI (j + 1)) (vp_in_nI (by omega) (by omega)) d_LW_law_427 ?_
  rw [nI_clamp (n := j + 1) (by omega)]
  refine lv_aload_n hx hb d_LW_law_428 rfl (lv_at hl 1 rfl) ?_
  refine lv_iload hx hb d_LW_law_429 (lv_at hl 0 rfl) ?_
  refine lv_iconst (v := nI 2) hx hb d_LW_law_431 rfl ?_
  refine nb_iadd hx hb d_LW_law_432 ?_
  refine va_sld hx hb hX hbl hbA hS (i := nI (j + 2)) (vp_in_nI (by omega) (by omega)) d_LW_law_433 ?_
  rw [nI_clamp (n := j + 2) (by omega)]
  refine hq_calli (go_V S hZ hK hP.1 hS hA hz (hC _) mc_AD_character mz_AD ml_LW_80 mi_AD_character mx_AD_character hd_AD_character rfl ⟨by decide, by decide⟩ fx rfl rfl hl.1 rfl (Nat.le_of_ble_eq_true rfl) d_LW_law_434 ⟨by show cells + 0 ≤ _; exact Nat.le_trans (by omega : _ ≤ 500000) (by decide), by show slots + 0 ≤ _; exact Nat.le_trans (by omega : _ ≤ 7000000) (by decide)⟩) hP.1 hS hA (fun r1 M1 H locs hp1 h1 h2 h3 hS => ?_)
  replace hP := hP.c h1 h2 h3
  clear h1 h2 h3
  refine lv_aload_n hx hb d_LW_law_437 rfl (lv_at hl 3 rfl) ?_
  refine lv_aload_n hx hb d_LW_law_438 rfl (lv_at hl 1 rfl) ?_
  refine lv_iload hx hb d_LW_law_439 (lv_at hl 0 rfl) ?_
  refine lv_iconst (v := nI 1) hx hb d_LW_law_441 rfl ?_
  refine nb_iadd hx hb d_LW_law_442 ?_
  refine va_sld hx hb hX hbl hbA hS (i := nI (j + 1)) (vp_in_nI (by omega) (by omega)) d_LW_law_443 ?_
  rw [nI_clamp (n := j + 1) (by omega)]
  refine lv_aload_n hx hb d_LW_law_444 rfl (lv_at hl 1 rfl) ?_
  refine lv_iload hx hb d_LW_law_445 (lv_at hl 0 rfl) ?_
  refine lv_iconst (v := nI 2) hx hb d_LW_law_447 rfl ?_
  refine nb_iadd hx hb d_LW_law_448 ?_
  refine va_sld hx hb hX hbl hbA hS (i := nI (j + 2)) (vp_in_nI (by omega) (by omega)) d_LW_law_449 ?_
  rw [nI_clamp (n := j + 2) (by omega)]
  refine hq_calli (go_V S hZ hK hP.2.1 hS hA hz (hM _) mc_MD_character mz_MD ml_LW_83 mi_MD_character mx_MD_character hd_MD_character rfl ⟨by decide, by decide⟩ fm rfl rfl hl.1 rfl (Nat.le_of_ble_eq_true rfl) d_LW_law_450 ⟨by show cells + 0 + 0 ≤ _; exact Nat.le_trans (by omega : _ ≤ 500000) (by decide), by show slots + 0 + 0 ≤ _; exact Nat.le_trans (by omega : _ ≤ 7000000) (by decide)⟩) hP.2.1 hS hA (fun r2 M2 H locs hp2 h1 h2 h3 hS => ?_)
  replace hP := hP.m h1 h2 h3
  clear h1 h2 h3
  obtain ⟨er, hbo1⟩ := hag _ _ _ _ hp1 hp2
  subst er
  refine lv_icmp_eq (tgt := 557) hx hb d_LW_law_453 (by decide) (fun _ => ?_) (fun h => absurd rfl h)
  refine W.widen (k := cells + 8) (n := slots + 300) (by omega) (by omega) ?_
  exact kk _ _ _ ⟨_, _, _, hbo1, hP⟩ hS (lv_sub hl [0, 1, 2, 3, 4] rfl)
set_option maxHeartbeats 4000000 in
set_option maxRecDepth 100000 in
theorem lw_11 (l : Launch) {p : Program} {e : Env} {s : State} {m : MethodId} {below : List Frame} {meth : Method} {c : Code} {b L : Nat} {xs : Nat → Int32} {D : va_G} {ct : Nat → ClassId} {Z : hp_Z} {x md o tk th : Nat} {H : Heap} {locs : List Loc} {cells slots : Nat} {Q : State → Prop} {ls : Array Slot} {j : Nat} (F : lwF l p s m c b L xs D ct Z tk th) (hj : j + 2 < L) (hrc : cells + 8 ≤ 500000) (hrs : slots + 300 ≤ 7000000) (hl : lv_has ls 7 [(4, .int (nI j)), (0, .ref b), (1, .ref x), (2, .ref md), (3, .ref o)]) (I : lwI D ct s x md o H) (hS : va_S (A0 s) s.heap H locs) (kk : ∀ (H1 : Heap) (locs1 : List Loc) (ls1 : Array Slot), lwI D ct s x md o H1 → va_S (A0 s) s.heap H1 locs1 → lv_has ls1 7 [(4, .int (nI j)), (0, .ref b), (1, .ref x), (2, .ref md), (3, .ref o)] → W p l e room_1 s m #[Value.ref b] below meth c H1 locs1 (cells + 8) (slots + 300) Q (F0 m 557 ls1 [])) : W p l e room_1 s m #[Value.ref b] below meth c H locs cells slots Q (F0 m 458 ls []) := by
  obtain ⟨S, hZ, hK, hz, hX, hbl, hzk, hzh, hzn, hza, hzx, hzc, hlt, hL⟩ := F
  have hx := S.1
  have hb := S.2.1
  have hA : ∀ q, s.heap.size ≤ q → A0 s q := fun q h => h
  have hbA : ¬ A0 s b := Nat.not_le.mpr hbl
  obtain ⟨Mc, Mm, fo, hbo, hP⟩ := I
  obtain ⟨Pc, Pm, hC, hM, hag⟩ := b_digest l D ct Z hZ tk th hzk hzh (ct_ne hK (i := 0) (j := 1) rfl rfl (by decide)) hbo (xs (j + 1)) (xs (j + 2))
  obtain ⟨fs, fx⟩ := hbo.x
  obtain ⟨fs2, fm⟩ := hbo.m
  refine lv_aload_n hx hb d_LW_law_458 rfl (lv_at hl 2 rfl) ?_
  refine lv_aload_n hx hb d_LW_law_459 rfl (lv_at hl 1 rfl) ?_
  refine lv_iload hx hb d_LW_law_460 (lv_at hl 0 rfl) ?_
  refine lv_iconst (v := nI 1) hx hb d_LW_law_462 rfl ?_
  refine nb_iadd hx hb d_LW_law_463 ?_
  refine va_sld hx hb hX hbl hbA hS (i := nI (j + 1)) (vp_in_nI (by omega) (by omega)) d_LW_law_464 ?_
  rw [nI_clamp (n := j + 1) (by omega)]
  refine lv_aload_n hx hb d_LW_law_465 rfl (lv_at hl 1 rfl) ?_
  refine lv_iload hx hb d_LW_law_466 (lv_at hl 0 rfl) ?_
  refine lv_iconst (v := nI 2) hx hb d_LW_law_468 rfl ?_
  refine nb_iadd hx hb d_LW_law_469 ?_
  refine va_sld hx hb hX hbl hbA hS (i := nI (j + 2)) (vp_in_nI (by omega) (by omega)) d_LW_law_470 ?_
  rw [nI_clamp (n := j + 2) (by omega)]
  refine hq_calli (go_V S hZ hK hP.1 hS hA hz (hC _) mc_AD_digest mz_AD ml_LW_84 mi_AD_digest mx_AD_digest hd_AD_digest rfl ⟨by decide, by decide⟩ fx rfl rfl hl.1 rfl (Nat.le_of_ble_eq_true rfl) d_LW_law_471 ⟨by show cells + 0 ≤ _; exact Nat.le_trans (by omega : _ ≤ 500000) (by decide), by show slots + 0 ≤ _; exact Nat.le_trans (by omega : _ ≤ 7000000) (by decide)⟩) hP.1 hS hA (fun r1 M1 H locs hp1 h1 h2 h3 hS => ?_)
  replace hP := hP.c h1 h2 h3
  clear h1 h2 h3
  refine lv_aload_n hx hb d_LW_law_474 rfl (lv_at hl 3 rfl) ?_
  refine lv_aload_n hx hb d_LW_law_475 rfl (lv_at hl 1 rfl) ?_
  refine lv_iload hx hb d_LW_law_476 (lv_at hl 0 rfl) ?_
  refine lv_iconst (v := nI 1) hx hb d_LW_law_478 rfl ?_
  refine nb_iadd hx hb d_LW_law_479 ?_
  refine va_sld hx hb hX hbl hbA hS (i := nI (j + 1)) (vp_in_nI (by omega) (by omega)) d_LW_law_480 ?_
  rw [nI_clamp (n := j + 1) (by omega)]
  refine lv_aload_n hx hb d_LW_law_481 rfl (lv_at hl 1 rfl) ?_
  refine lv_iload hx hb d_LW_law_482 (lv_at hl 0 rfl) ?_
  refine lv_iconst (v := nI 2) hx hb d_LW_law_484 rfl ?_
  refine nb_iadd hx hb d_LW_law_485 ?_
  refine va_sld hx hb hX hbl hbA hS (i := nI (j + 2)) (vp_in_nI (by omega) (by omega)) d_LW_law_486 ?_
  rw [nI_clamp (n := j + 2) (by omega)]
  refine hq_calli (go_V S hZ hK hP.2.1 hS hA hz (hM _) mc_MD_digest mz_MD ml_LW_87 mi_MD_digest mx_MD_digest hd_MD_digest rfl ⟨by decide, by decide⟩ fm rfl rfl hl.1 rfl (Nat.le_of_ble_eq_true rfl) d_LW_law_487 ⟨by show cells + 0 + 0 ≤ _; exact Nat.le_trans (by omega : _ ≤ 500000) (by decide), by show slots + 0 + 0 ≤ _; exact Nat.le_trans (by omega : _ ≤ 7000000) (by decide)⟩) hP.2.1 hS hA (fun r2 M2 H locs hp2 h1 h2 h3 hS => ?_)
  replace hP := hP.m h1 h2 h3
  clear h1 h2 h3
  obtain ⟨er, hbo1⟩ := hag _ _ _ _ hp1 hp2
  subst er
  refine lv_icmp_eq (tgt := 557) hx hb d_LW_law_490 (by decide) (fun _ => ?_) (fun h => absurd rfl h)
  refine W.widen (k := cells + 8) (n := slots + 300) (by omega) (by omega) ?_
  exact kk _ _ _ ⟨_, _, _, hbo1, hP⟩ hS (lv_sub hl [0, 1, 2, 3, 4] rfl)
set_option maxHeartbeats 4000000 in
set_option maxRecDepth 100000 in
theorem lw_12 (l : Launch) {p : Program} {e : Env} {s : State} {m : MethodId} {below : List Frame} {meth : Method} {c : Code} {b L : Nat} {xs : Nat → Int32} {D : va_G} {ct : Nat → ClassId} {Z : hp_Z} {x md o tk th : Nat} {H : Heap} {locs : List Loc} {cells slots : Nat} {Q : State → Prop} {ls : Array Slot} {j : Nat} (F : lwF l p s m c b L xs D ct Z tk th) (hj : j + 2 < L) (hrc : cells + 8 ≤ 500000) (hrs : slots + 300 ≤ 7000000) (hl : lv_has ls 7 [(4, .int (nI j)), (0, .ref b), (1, .ref x), (2, .ref md), (3, .ref o)]) (I : lwI D ct s x md o H) (hS : va_S (A0 s) s.heap H locs) (kk : ∀ (H1 : Heap) (locs1 : List Loc) (ls1 : Array Slot), lwI D ct s x md o H1 → va_S (A0 s) s.heap H1 locs1 → lv_has ls1 7 [(4, .int (nI j)), (0, .ref b), (1, .ref x), (2, .ref md), (3, .ref o)] → W p l e room_1 s m #[Value.ref b] below meth c H1 locs1 (cells + 8) (slots + 300) Q (F0 m 557 ls1 [])) : W p l e room_1 s m #[Value.ref b] below meth c H locs cells slots Q (F0 m 495 ls []) := by
  obtain ⟨S, hZ, hK, hz, hX, hbl, hzk, hzh, hzn, hza, hzx, hzc, hlt, hL⟩ := F
  have hx := S.1
  have hb := S.2.1
  have hA : ∀ q, s.heap.size ≤ q → A0 s q := fun q h => h
  have hbA : ¬ A0 s b := Nat.not_le.mpr hbl
  obtain ⟨Mc, Mm, fo, hbo, hP⟩ := I
  obtain ⟨Pc, Pm, hC, hM, hag⟩ := b_differ l D ct Z hZ hbo (xs (j + 1)) (xs (j + 2))
  obtain ⟨fs, fx⟩ := hbo.x
  obtain ⟨fs2, fm⟩ := hbo.m
  refine lv_aload_n hx hb d_LW_law_495 rfl (lv_at hl 2 rfl) ?_
  refine lv_aload_n hx hb d_LW_law_496 rfl (lv_at hl 1 rfl) ?_
  refine lv_iload hx hb d_LW_law_497 (lv_at hl 0 rfl) ?_
  refine lv_iconst (v := nI 1) hx hb d_LW_law_499 rfl ?_
  refine nb_iadd hx hb d_LW_law_500 ?_
  refine va_sld hx hb hX hbl hbA hS (i := nI (j + 1)) (vp_in_nI (by omega) (by omega)) d_LW_law_501 ?_
  rw [nI_clamp (n := j + 1) (by omega)]
  refine lv_aload_n hx hb d_LW_law_502 rfl (lv_at hl 1 rfl) ?_
  refine lv_iload hx hb d_LW_law_503 (lv_at hl 0 rfl) ?_
  refine lv_iconst (v := nI 2) hx hb d_LW_law_505 rfl ?_
  refine nb_iadd hx hb d_LW_law_506 ?_
  refine va_sld hx hb hX hbl hbA hS (i := nI (j + 2)) (vp_in_nI (by omega) (by omega)) d_LW_law_507 ?_
  rw [nI_clamp (n := j + 2) (by omega)]
  refine hq_calli (go_V S hZ hK hP.1 hS hA hz (hC _) mc_AD_differ mz_AD ml_LW_88 mi_AD_differ mx_AD_differ hd_AD_differ rfl ⟨by decide, by decide⟩ fx rfl rfl hl.1 rfl (Nat.le_of_ble_eq_true rfl) d_LW_law_508 ⟨by show cells + 0 ≤ _; exact Nat.le_trans (by omega : _ ≤ 500000) (by decide), by show slots + 0 ≤ _; exact Nat.le_trans (by omega : _ ≤ 7000000) (by decide)⟩) hP.1 hS hA (fun r1 M1 H locs hp1 h1 h2 h3 hS => ?_)
  replace hP := hP.c h1 h2 h3
  clear h1 h2 h3
  refine lv_aload_n hx hb d_LW_law_511 rfl (lv_at hl 3 rfl) ?_
  refine lv_aload_n hx hb d_LW_law_512 rfl (lv_at hl 1 rfl) ?_
  refine lv_iload hx hb d_LW_law_513 (lv_at hl 0 rfl) ?_
  refine lv_iconst (v := nI 1) hx hb d_LW_law_515 rfl ?_
  refine nb_iadd hx hb d_LW_law_516 ?_
  refine va_sld hx hb hX hbl hbA hS (i := nI (j + 1)) (vp_in_nI (by omega) (by omega)) d_LW_law_517 ?_
  rw [nI_clamp (n := j + 1) (by omega)]
  refine lv_aload_n hx hb d_LW_law_518 rfl (lv_at hl 1 rfl) ?_
  refine lv_iload hx hb d_LW_law_519 (lv_at hl 0 rfl) ?_
  refine lv_iconst (v := nI 2) hx hb d_LW_law_521 rfl ?_
  refine nb_iadd hx hb d_LW_law_522 ?_
  refine va_sld hx hb hX hbl hbA hS (i := nI (j + 2)) (vp_in_nI (by omega) (by omega)) d_LW_law_523 ?_
  rw [nI_clamp (n := j + 2) (by omega)]
  refine hq_calli (go_V S hZ hK hP.2.1 hS hA hz (hM _) mc_MD_differ mz_MD ml_LW_91 mi_MD_differ mx_MD_differ hd_MD_differ rfl ⟨by decide, by decide⟩ fm rfl rfl hl.1 rfl (Nat.le_of_ble_eq_true rfl) d_LW_law_524 ⟨by show cells + 0 + 0 ≤ _; exact Nat.le_trans (by omega : _ ≤ 500000) (by decide), by show slots + 0 + 0 ≤ _; exact Nat.le_trans (by omega : _ ≤ 7000000) (by decide)⟩) hP.2.1 hS hA (fun r2 M2 H locs hp2 h1 h2 h3 hS => ?_)
  replace hP := hP.m h1 h2 h3
  clear h1 h2 h3
  obtain ⟨er, hbo1⟩ := hag _ _ _ _ hp1 hp2
  subst er
  refine lv_icmp_eq (tgt := 557) hx hb d_LW_law_527 (by decide) (fun _ => ?_) (fun h => absurd rfl h)
  refine W.widen (k := cells + 8) (n := slots + 300) (by omega) (by omega) ?_
  exact kk _ _ _ ⟨_, _, _, hbo1, hP⟩ hS (lv_sub hl [0, 1, 2, 3, 4] rfl)
set_option maxHeartbeats 4000000 in
set_option maxRecDepth 100000 in
theorem lw_13 (l : Launch) {p : Program} {e : Env} {s : State} {m : MethodId} {below : List Frame} {meth : Method} {c : Code} {b L : Nat} {xs : Nat → Int32} {D : va_G} {ct : Nat → ClassId} {Z : hp_Z} {x md o tk th : Nat} {H : Heap} {locs : List Loc} {cells slots : Nat} {Q : State → Prop} {ls : Array Slot} {j : Nat} (F : lwF l p s m c b L xs D ct Z tk th) (hj : j + 2 < L) (hrc : cells + 8 ≤ 500000) (hrs : slots + 300 ≤ 7000000) (hl : lv_has ls 7 [(4, .int (nI j)), (0, .ref b), (1, .ref x), (2, .ref md), (3, .ref o)]) (I : lwI D ct s x md o H) (hS : va_S (A0 s) s.heap H locs) (kk : ∀ (H1 : Heap) (locs1 : List Loc) (ls1 : Array Slot), lwI D ct s x md o H1 → va_S (A0 s) s.heap H1 locs1 → lv_has ls1 7 [(4, .int (nI j)), (0, .ref b), (1, .ref x), (2, .ref md), (3, .ref o)] → W p l e room_1 s m #[Value.ref b] below meth c H1 locs1 (cells + 8) (slots + 300) Q (F0 m 557 ls1 [])) : W p l e room_1 s m #[Value.ref b] below meth c H locs cells slots Q (F0 m 532 ls []) := by
  obtain ⟨S, hZ, hK, hz, hX, hbl, hzk, hzh, hzn, hza, hzx, hzc, hlt, hL⟩ := F
  have hx := S.1
  have hb := S.2.1
  have hA : ∀ q, s.heap.size ≤ q → A0 s q := fun q h => h
  have hbA : ¬ A0 s b := Nat.not_le.mpr hbl
  obtain ⟨Mc, Mm, fo, hbo, hP⟩ := I
  obtain ⟨Pc, Pm, hC, hM, hag⟩ := b_constant l D ct Z hZ tk th hzk hzh hbo (xs (j + 1))
  obtain ⟨fs, fx⟩ := hbo.x
  obtain ⟨fs2, fm⟩ := hbo.m
  refine lv_aload_n hx hb d_LW_law_532 rfl (lv_at hl 2 rfl) ?_
  refine lv_aload_n hx hb d_LW_law_533 rfl (lv_at hl 1 rfl) ?_
  refine lv_iload hx hb d_LW_law_534 (lv_at hl 0 rfl) ?_
  refine lv_iconst (v := nI 1) hx hb d_LW_law_536 rfl ?_
  refine nb_iadd hx hb d_LW_law_537 ?_
  refine va_sld hx hb hX hbl hbA hS (i := nI (j + 1)) (vp_in_nI (by omega) (by omega)) d_LW_law_538 ?_
  rw [nI_clamp (n := j + 1) (by omega)]
  refine hq_calli (go_V S hZ hK hP.1 hS hA hz (hC _) mc_AD_constant mz_AD ml_LW_92 mi_AD_constant mx_AD_constant hd_AD_constant rfl ⟨by decide, by decide⟩ fx rfl rfl hl.1 rfl (Nat.le_of_ble_eq_true rfl) d_LW_law_539 ⟨by show cells + 0 ≤ _; exact Nat.le_trans (by omega : _ ≤ 500000) (by decide), by show slots + 0 ≤ _; exact Nat.le_trans (by omega : _ ≤ 7000000) (by decide)⟩) hP.1 hS hA (fun r1 M1 H locs hp1 h1 h2 h3 hS => ?_)
  replace hP := hP.c h1 h2 h3
  clear h1 h2 h3
  refine lv_aload_n hx hb d_LW_law_542 rfl (lv_at hl 3 rfl) ?_
  refine lv_aload_n hx hb d_LW_law_543 rfl (lv_at hl 1 rfl) ?_
  refine lv_iload hx hb d_LW_law_544 (lv_at hl 0 rfl) ?_
  refine lv_iconst (v := nI 1) hx hb d_LW_law_546 rfl ?_
  refine nb_iadd hx hb d_LW_law_547 ?_
  refine va_sld hx hb hX hbl hbA hS (i := nI (j + 1)) (vp_in_nI (by omega) (by omega)) d_LW_law_548 ?_
  rw [nI_clamp (n := j + 1) (by omega)]
  refine hq_calli (go_V S hZ hK hP.2.1 hS hA hz (hM _) mc_MD_constant mz_MD ml_LW_95 mi_MD_constant mx_MD_constant hd_MD_constant rfl ⟨by decide, by decide⟩ fm rfl rfl hl.1 rfl (Nat.le_of_ble_eq_true rfl) d_LW_law_549 ⟨by show cells + 0 + 0 ≤ _; exact Nat.le_trans (by omega : _ ≤ 500000) (by decide), by show slots + 0 + 0 ≤ _; exact Nat.le_trans (by omega : _ ≤ 7000000) (by decide)⟩) hP.2.1 hS hA (fun r2 M2 H locs hp2 h1 h2 h3 hS => ?_)
  replace hP := hP.m h1 h2 h3
  clear h1 h2 h3
  obtain ⟨er, hbo1⟩ := hag _ _ _ _ hp1 hp2
  subst er
  refine lv_icmp_eq (tgt := 557) hx hb d_LW_law_552 (by decide) (fun _ => ?_) (fun h => absurd rfl h)
  refine W.widen (k := cells + 8) (n := slots + 300) (by omega) (by omega) ?_
  exact kk _ _ _ ⟨_, _, _, hbo1, hP⟩ hS (lv_sub hl [0, 1, 2, 3, 4] rfl)
set_option maxHeartbeats 4000000 in
set_option maxRecDepth 100000 in
theorem lw_2 (l : Launch) {p : Program} {e : Env} {s : State} {m : MethodId} {below : List Frame} {meth : Method} {c : Code} {b L : Nat} {xs : Nat → Int32} {D : va_G} {ct : Nat → ClassId} {Z : hp_Z} {x md o tk th : Nat} {H : Heap} {locs : List Loc} {cells slots : Nat} {Q : State → Prop} {ls : Array Slot} {j : Nat} (F : lwF l p s m c b L xs D ct Z tk th) (hj : j + 2 < L) (hrc : cells + 8 ≤ 500000) (hrs : slots + 300 ≤ 7000000) (hl : lv_has ls 7 [(4, .int (nI j)), (0, .ref b), (1, .ref x), (2, .ref md), (3, .ref o)]) (I : lwI D ct s x md o H) (hS : va_S (A0 s) s.heap H locs) (kk : ∀ (H1 : Heap) (locs1 : List Loc) (ls1 : Array Slot), lwI D ct s x md o H1 → va_S (A0 s) s.heap H1 locs1 → lv_has ls1 7 [(4, .int (nI j)), (0, .ref b), (1, .ref x), (2, .ref md), (3, .ref o)] → W p l e room_1 s m #[Value.ref b] below meth c H1 locs1 (cells + 8) (slots + 300) Q (F0 m 557 ls1 [])) : W p l e room_1 s m #[Value.ref b] below meth c H locs cells slots Q (F0 m 179 ls []) := by
  obtain ⟨S, hZ, hK, hz, hX, hbl, hzk, hzh, hzn, hza, hzx, hzc, hlt, hL⟩ := F
  have hx := S.1
  have hb := S.2.1
  have hA : ∀ q, s.heap.size ≤ q → A0 s q := fun q h => h
  have hbA : ¬ A0 s b := Nat.not_le.mpr hbl
  obtain ⟨Mc, Mm, fo, hbo, hP⟩ := I
  obtain ⟨Pc, Pm, hC, hM, hag⟩ := b_hold l D ct Z hZ tk th hzk hzh hbo
  obtain ⟨fs, fx⟩ := hbo.x
  obtain ⟨fs2, fm⟩ := hbo.m
  refine lv_aload_n hx hb d_LW_law_179 rfl (lv_at hl 2 rfl) ?_
  refine hq_callv (go_V S hZ hK hP.1 hS hA hz (hC _) mc_AD_hold mz_AD ml_LW_48 mi_AD_hold mx_AD_hold hd_AD_hold rfl ⟨by decide, by decide⟩ fx rfl rfl hl.1 rfl (Nat.le_of_ble_eq_true rfl) d_LW_law_180 ⟨by show cells + 1 ≤ _; exact Nat.le_trans (by omega : _ ≤ 500000) (by decide), by show slots + 64 ≤ _; exact Nat.le_trans (by omega : _ ≤ 7000000) (by decide)⟩) hP.1 hS hA (fun M1 H locs hp1 h1 h2 h3 hS => ?_)
  replace hP := hP.c h1 h2 h3
  clear h1 h2 h3
  refine lv_aload_n hx hb d_LW_law_183 rfl (lv_at hl 3 rfl) ?_
  refine hq_callv (go_V S hZ hK hP.2.1 hS hA hz (hM _) mc_MD_hold mz_MD ml_LW_51 mi_MD_hold mx_MD_hold hd_MD_hold rfl ⟨by decide, by decide⟩ fm rfl rfl hl.1 rfl (Nat.le_of_ble_eq_true rfl) d_LW_law_184 ⟨by show cells + 1 + 0 ≤ _; exact Nat.le_trans (by omega : _ ≤ 500000) (by decide), by show slots + 64 + 0 ≤ _; exact Nat.le_trans (by omega : _ ≤ 7000000) (by decide)⟩) hP.2.1 hS hA (fun M2 H locs hp2 h1 h2 h3 hS => ?_)
  replace hP := hP.m h1 h2 h3
  clear h1 h2 h3
  refine lv_goto (tgt := 557) hx hb d_LW_law_187 (by decide) ?_
  refine W.widen (k := cells + 8) (n := slots + 300) (by omega) (by omega) ?_
  exact kk _ _ _ ⟨_, _, _, hag _ _ hp1 hp2, hP⟩ hS (lv_sub hl [0, 1, 2, 3, 4] rfl)
set_option maxHeartbeats 4000000 in
set_option maxRecDepth 100000 in
theorem lw_3 (l : Launch) {p : Program} {e : Env} {s : State} {m : MethodId} {below : List Frame} {meth : Method} {c : Code} {b L : Nat} {xs : Nat → Int32} {D : va_G} {ct : Nat → ClassId} {Z : hp_Z} {x md o tk th : Nat} {H : Heap} {locs : List Loc} {cells slots : Nat} {Q : State → Prop} {ls : Array Slot} {j : Nat} (F : lwF l p s m c b L xs D ct Z tk th) (hj : j + 2 < L) (hrc : cells + 8 ≤ 500000) (hrs : slots + 300 ≤ 7000000) (hl : lv_has ls 7 [(4, .int (nI j)), (0, .ref b), (1, .ref x), (2, .ref md), (3, .ref o)]) (I : lwI D ct s x md o H) (hS : va_S (A0 s) s.heap H locs) (kk : ∀ (H1 : Heap) (locs1 : List Loc) (ls1 : Array Slot), lwI D ct s x md o H1 → va_S (A0 s) s.heap H1 locs1 → lv_has ls1 7 [(4, .int (nI j)), (0, .ref b), (1, .ref x), (2, .ref md), (3, .ref o)] → W p l e room_1 s m #[Value.ref b] below meth c H1 locs1 (cells + 8) (slots + 300) Q (F0 m 557 ls1 [])) : W p l e room_1 s m #[Value.ref b] below meth c H locs cells slots Q (F0 m 190 ls []) := by
  obtain ⟨S, hZ, hK, hz, hX, hbl, hzk, hzh, hzn, hza, hzx, hzc, hlt, hL⟩ := F
  have hx := S.1
  have hb := S.2.1
  have hA : ∀ q, s.heap.size ≤ q → A0 s q := fun q h => h
  have hbA : ¬ A0 s b := Nat.not_le.mpr hbl
  obtain ⟨Mc, Mm, fo, hbo, hP⟩ := I
  obtain ⟨Pc, Px, Pm, hC, hM, hEx, hg0, hgx⟩ := b_row l D ct Z hZ hlt hzx hbo (xs (j + 1)) (xs (j + 2))
  obtain ⟨fs, fx⟩ := hbo.x
  obtain ⟨fs2, fm⟩ := hbo.m
  refine lv_aload_n hx hb d_LW_law_190 rfl (lv_at hl 2 rfl) ?_
  refine lv_aload_n hx hb d_LW_law_191 rfl (lv_at hl 1 rfl) ?_
  refine lv_iload hx hb d_LW_law_192 (lv_at hl 0 rfl) ?_
  refine lv_iconst (v := nI 1) hx hb d_LW_law_194 rfl ?_
  refine nb_iadd hx hb d_LW_law_195 ?_
  refine va_sld hx hb hX hbl hbA hS (i := nI (j + 1)) (vp_in_nI (by omega) (by omega)) d_LW_law_196 ?_
  rw [nI_clamp (n := j + 1) (by omega)]
  refine lv_aload_n hx hb d_LW_law_197 rfl (lv_at hl 1 rfl) ?_
  refine lv_iload hx hb d_LW_law_198 (lv_at hl 0 rfl) ?_
  refine lv_iconst (v := nI 2) hx hb d_LW_law_200 rfl ?_
  refine nb_iadd hx hb d_LW_law_201 ?_
  refine va_sld hx hb hX hbl hbA hS (i := nI (j + 2)) (vp_in_nI (by omega) (by omega)) d_LW_law_202 ?_
  rw [nI_clamp (n := j + 2) (by omega)]
  refine hq_calli (go_SW S hZ hK hP.1 hS hA hz (h_row l D ct Z hZ hzx hzc fx (xs (j + 1)) (xs (j + 2)) hC hEx _) mw_LW_row mz_LW ml_LW_52 ms_LW_row hd_LW_row rfl ⟨by decide, by decide⟩ hl.1 rfl (Nat.le_of_ble_eq_true rfl) d_LW_law_203 ⟨by show cells + 4 ≤ _; exact Nat.le_trans (by omega : _ ≤ 500000) (by decide), by show slots + 198 ≤ _; exact Nat.le_trans (by omega : _ ≤ 7000000) (by decide)⟩) hP.1 hS hA (fun r M H locs hp h1 h2 h3 hS => ?_)
  replace hP := hP.c h1 h2 h3
  clear h1 h2 h3
  refine lv_istore (lv' := [(5, .int r), (4, .int (nI j)), (0, .ref b), (1, .ref x), (2, .ref md), (3, .ref o)]) hx hb d_LW_law_206 hl (by decide) rfl (fun ls hl => ?_)
  refine lv_aload_n hx hb d_LW_law_208 rfl (lv_at hl 4 rfl) ?_
  refine lv_aload_n hx hb d_LW_law_209 rfl (lv_at hl 2 rfl) ?_
  refine lv_iload hx hb d_LW_law_210 (lv_at hl 1 rfl) ?_
  refine lv_iconst (v := nI 1) hx hb d_LW_law_212 rfl ?_
  refine nb_iadd hx hb d_LW_law_213 ?_
  refine va_sld hx hb hX hbl hbA hS (i := nI (j + 1)) (vp_in_nI (by omega) (by omega)) d_LW_law_214 ?_
  rw [nI_clamp (n := j + 1) (by omega)]
  refine lv_aload_n hx hb d_LW_law_215 rfl (lv_at hl 2 rfl) ?_
  refine lv_iload hx hb d_LW_law_216 (lv_at hl 1 rfl) ?_
  refine lv_iconst (v := nI 2) hx hb d_LW_law_218 rfl ?_
  refine nb_iadd hx hb d_LW_law_219 ?_
  refine va_sld hx hb hX hbl hbA hS (i := nI (j + 2)) (vp_in_nI (by omega) (by omega)) d_LW_law_220 ?_
  rw [nI_clamp (n := j + 2) (by omega)]
  refine hq_callv (go_V S hZ hK hP.2.1 hS hA hz (hM _) mc_MD_row mz_MD ml_LW_55 mi_MD_row mx_MD_row hd_MD_row rfl ⟨by decide, by decide⟩ fm rfl rfl hl.1 rfl (Nat.le_of_ble_eq_true rfl) d_LW_law_221 ⟨by show cells + 4 + 0 ≤ _; exact Nat.le_trans (by omega : _ ≤ 500000) (by decide), by show slots + 198 + 0 ≤ _; exact Nat.le_trans (by omega : _ ≤ 7000000) (by decide)⟩) hP.2.1 hS hA (fun M2 H locs hp2 h1 h2 h3 hS => ?_)
  replace hP := hP.m h1 h2 h3
  clear h1 h2 h3
  obtain ⟨cd, ec, hbc⟩ : ∃ cd : Nat, r = nI cd ∧ bothC ct M M2 x md cd := by
    rcases hp with ⟨rfl, hp⟩ | ⟨rfl, hp⟩ | ⟨rfl, hp⟩
    · exact ⟨0, rfl, hg0 _ _ hp hp2⟩
    · rcases hgx _ _ _ hp hp2 with ⟨-, h⟩ | ⟨h, -⟩
      · exact ⟨1, rfl, h⟩
      · exact absurd h (by decide)
    · rcases hgx _ _ _ hp hp2 with ⟨h, -⟩ | ⟨-, h⟩
      · exact absurd h (by decide)
      · exact ⟨2, rfl, h⟩
  clear fm
  obtain ⟨fs2, fm⟩ := hbc.b.m
  obtain ⟨Pt, hT, hgt⟩ := b_thrown l D ct Z hZ hbc
  refine lv_aload_n hx hb d_LW_law_224 rfl (lv_at hl 4 rfl) ?_
  refine hq_calli (go_V S hZ hK hP.2.1 hS hA hz (hT _) mc_MD_thrown mz_MD ml_LW_45 mi_MD_thrown mx_MD_thrown hd_MD_thrown rfl ⟨by decide, by decide⟩ fm rfl rfl hl.1 rfl (Nat.le_of_ble_eq_true rfl) d_LW_law_225 ⟨by show cells + 4 + 0 + 0 ≤ _; exact Nat.le_trans (by omega : _ ≤ 500000) (by decide), by show slots + 198 + 0 + 0 ≤ _; exact Nat.le_trans (by omega : _ ≤ 7000000) (by decide)⟩) hP.2.1 hS hA (fun r3 M3 H locs hp3 h1 h2 h3 hS => ?_)
  replace hP := hP.m h1 h2 h3
  clear h1 h2 h3
  obtain ⟨e3, hbc⟩ := hgt _ _ hp3
  refine lv_iload hx hb d_LW_law_228 (lv_at hl 0 rfl) ?_
  refine lv_icmp_eq (tgt := 235) hx hb d_LW_law_230 (by decide) (fun _ => ?_) (fun h => absurd (e3.trans ec.symm) h)
  refine lv_goto (tgt := 557) hx hb d_LW_law_235 (by decide) ?_
  refine W.widen (k := cells + 8) (n := slots + 300) (by omega) (by omega) ?_
  exact kk _ _ _ ⟨_, _, _, hbc.b, hP⟩ hS (lv_sub hl [1, 2, 3, 4, 5] rfl)
set_option maxHeartbeats 4000000 in
set_option maxRecDepth 100000 in
theorem lw_4 (l : Launch) {p : Program} {e : Env} {s : State} {m : MethodId} {below : List Frame} {meth : Method} {c : Code} {b L : Nat} {xs : Nat → Int32} {D : va_G} {ct : Nat → ClassId} {Z : hp_Z} {x md o tk th : Nat} {H : Heap} {locs : List Loc} {cells slots : Nat} {Q : State → Prop} {ls : Array Slot} {j : Nat} (F : lwF l p s m c b L xs D ct Z tk th) (hj : j + 2 < L) (hrc : cells + 8 ≤ 500000) (hrs : slots + 300 ≤ 7000000) (hl : lv_has ls 7 [(4, .int (nI j)), (0, .ref b), (1, .ref x), (2, .ref md), (3, .ref o)]) (I : lwI D ct s x md o H) (hS : va_S (A0 s) s.heap H locs) (kk : ∀ (H1 : Heap) (locs1 : List Loc) (ls1 : Array Slot), lwI D ct s x md o H1 → va_S (A0 s) s.heap H1 locs1 → lv_has ls1 7 [(4, .int (nI j)), (0, .ref b), (1, .ref x), (2, .ref md), (3, .ref o)] → W p l e room_1 s m #[Value.ref b] below meth c H1 locs1 (cells + 8) (slots + 300) Q (F0 m 557 ls1 [])) : W p l e room_1 s m #[Value.ref b] below meth c H locs cells slots Q (F0 m 238 ls []) := by
  obtain ⟨S, hZ, hK, hz, hX, hbl, hzk, hzh, hzn, hza, hzx, hzc, hlt, hL⟩ := F
  have hx := S.1
  have hb := S.2.1
  have hA : ∀ q, s.heap.size ≤ q → A0 s q := fun q h => h
  have hbA : ¬ A0 s b := Nat.not_le.mpr hbl
  obtain ⟨Mc, Mm, fo, hbo, hP⟩ := I
  obtain ⟨Pc, Px, Pm, hC, hM, hEx, hg0, hgx⟩ := b_edition l D ct Z hZ hlt hzx hbo (xs (j + 1)) (xs (j + 2))
  obtain ⟨fs, fx⟩ := hbo.x
  obtain ⟨fs2, fm⟩ := hbo.m
  refine lv_aload_n hx hb d_LW_law_238 rfl (lv_at hl 2 rfl) ?_
  refine lv_aload_n hx hb d_LW_law_239 rfl (lv_at hl 1 rfl) ?_
  refine lv_iload hx hb d_LW_law_240 (lv_at hl 0 rfl) ?_
  refine lv_iconst (v := nI 1) hx hb d_LW_law_242 rfl ?_
  refine nb_iadd hx hb d_LW_law_243 ?_
  refine va_sld hx hb hX hbl hbA hS (i := nI (j + 1)) (vp_in_nI (by omega) (by omega)) d_LW_law_244 ?_
  rw [nI_clamp (n := j + 1) (by omega)]
  refine lv_aload_n hx hb d_LW_law_245 rfl (lv_at hl 1 rfl) ?_
  refine lv_iload hx hb d_LW_law_246 (lv_at hl 0 rfl) ?_
  refine lv_iconst (v := nI 2) hx hb d_LW_law_248 rfl ?_
  refine nb_iadd hx hb d_LW_law_249 ?_
  refine va_sld hx hb hX hbl hbA hS (i := nI (j + 2)) (vp_in_nI (by omega) (by omega)) d_LW_law_250 ?_
  rw [nI_clamp (n := j + 2) (by omega)]
  refine hq_calli (go_SW S hZ hK hP.1 hS hA hz (h_edition l D ct Z hZ hzx hzc fx (xs (j + 1)) (xs (j + 2)) hC hEx _) mw_LW_edition mz_LW ml_LW_56 ms_LW_edition hd_LW_edition rfl ⟨by decide, by decide⟩ hl.1 rfl (Nat.le_of_ble_eq_true rfl) d_LW_law_251 ⟨by show cells + 4 ≤ _; exact Nat.le_trans (by omega : _ ≤ 500000) (by decide), by show slots + 19 ≤ _; exact Nat.le_trans (by omega : _ ≤ 7000000) (by decide)⟩) hP.1 hS hA (fun r M H locs hp h1 h2 h3 hS => ?_)
  replace hP := hP.c h1 h2 h3
  clear h1 h2 h3
  refine lv_istore (lv' := [(5, .int r), (4, .int (nI j)), (0, .ref b), (1, .ref x), (2, .ref md), (3, .ref o)]) hx hb d_LW_law_254 hl (by decide) rfl (fun ls hl => ?_)
  refine lv_aload_n hx hb d_LW_law_256 rfl (lv_at hl 4 rfl) ?_
  refine lv_aload_n hx hb d_LW_law_257 rfl (lv_at hl 2 rfl) ?_
  refine lv_iload hx hb d_LW_law_258 (lv_at hl 1 rfl) ?_
  refine lv_iconst (v := nI 1) hx hb d_LW_law_260 rfl ?_
  refine nb_iadd hx hb d_LW_law_261 ?_
  refine va_sld hx hb hX hbl hbA hS (i := nI (j + 1)) (vp_in_nI (by omega) (by omega)) d_LW_law_262 ?_
  rw [nI_clamp (n := j + 1) (by omega)]
  refine lv_aload_n hx hb d_LW_law_263 rfl (lv_at hl 2 rfl) ?_
  refine lv_iload hx hb d_LW_law_264 (lv_at hl 1 rfl) ?_
  refine lv_iconst (v := nI 2) hx hb d_LW_law_266 rfl ?_
  refine nb_iadd hx hb d_LW_law_267 ?_
  refine va_sld hx hb hX hbl hbA hS (i := nI (j + 2)) (vp_in_nI (by omega) (by omega)) d_LW_law_268 ?_
  rw [nI_clamp (n := j + 2) (by omega)]
  refine hq_callv (go_V S hZ hK hP.2.1 hS hA hz (hM _) mc_MD_edition mz_MD ml_LW_58 mi_MD_edition mx_MD_edition hd_MD_edition rfl ⟨by decide, by decide⟩ fm rfl rfl hl.1 rfl (Nat.le_of_ble_eq_true rfl) d_LW_law_269 ⟨by show cells + 4 + 0 ≤ _; exact Nat.le_trans (by omega : _ ≤ 500000) (by decide), by show slots + 19 + 0 ≤ _; exact Nat.le_trans (by omega : _ ≤ 7000000) (by decide)⟩) hP.2.1 hS hA (fun M2 H locs hp2 h1 h2 h3 hS => ?_)
  replace hP := hP.m h1 h2 h3
  clear h1 h2 h3
  obtain ⟨cd, ec, hbc⟩ : ∃ cd : Nat, r = nI cd ∧ bothC ct M M2 x md cd := by
    rcases hp with ⟨rfl, hp⟩ | ⟨rfl, hp⟩ | ⟨rfl, hp⟩
    · exact ⟨0, rfl, hg0 _ _ hp hp2⟩
    · rcases hgx _ _ _ hp hp2 with ⟨-, h⟩ | ⟨h, -⟩
      · exact ⟨1, rfl, h⟩
      · exact absurd h (by decide)
    · rcases hgx _ _ _ hp hp2 with ⟨h, -⟩ | ⟨-, h⟩
      · exact absurd h (by decide)
      · exact ⟨2, rfl, h⟩
  clear fm
  obtain ⟨fs2, fm⟩ := hbc.b.m
  obtain ⟨Pt, hT, hgt⟩ := b_thrown l D ct Z hZ hbc
  refine lv_aload_n hx hb d_LW_law_272 rfl (lv_at hl 4 rfl) ?_
  refine hq_calli (go_V S hZ hK hP.2.1 hS hA hz (hT _) mc_MD_thrown mz_MD ml_LW_45 mi_MD_thrown mx_MD_thrown hd_MD_thrown rfl ⟨by decide, by decide⟩ fm rfl rfl hl.1 rfl (Nat.le_of_ble_eq_true rfl) d_LW_law_273 ⟨by show cells + 4 + 0 + 0 ≤ _; exact Nat.le_trans (by omega : _ ≤ 500000) (by decide), by show slots + 19 + 0 + 0 ≤ _; exact Nat.le_trans (by omega : _ ≤ 7000000) (by decide)⟩) hP.2.1 hS hA (fun r3 M3 H locs hp3 h1 h2 h3 hS => ?_)
  replace hP := hP.m h1 h2 h3
  clear h1 h2 h3
  obtain ⟨e3, hbc⟩ := hgt _ _ hp3
  refine lv_iload hx hb d_LW_law_276 (lv_at hl 0 rfl) ?_
  refine lv_icmp_eq (tgt := 283) hx hb d_LW_law_278 (by decide) (fun _ => ?_) (fun h => absurd (e3.trans ec.symm) h)
  refine lv_goto (tgt := 557) hx hb d_LW_law_283 (by decide) ?_
  refine W.widen (k := cells + 8) (n := slots + 300) (by omega) (by omega) ?_
  exact kk _ _ _ ⟨_, _, _, hbc.b, hP⟩ hS (lv_sub hl [1, 2, 3, 4, 5] rfl)
set_option maxHeartbeats 4000000 in
set_option maxRecDepth 100000 in
theorem lw_5 (l : Launch) {p : Program} {e : Env} {s : State} {m : MethodId} {below : List Frame} {meth : Method} {c : Code} {b L : Nat} {xs : Nat → Int32} {D : va_G} {ct : Nat → ClassId} {Z : hp_Z} {x md o tk th : Nat} {H : Heap} {locs : List Loc} {cells slots : Nat} {Q : State → Prop} {ls : Array Slot} {j : Nat} (F : lwF l p s m c b L xs D ct Z tk th) (hj : j + 2 < L) (hrc : cells + 8 ≤ 500000) (hrs : slots + 300 ≤ 7000000) (hl : lv_has ls 7 [(4, .int (nI j)), (0, .ref b), (1, .ref x), (2, .ref md), (3, .ref o)]) (I : lwI D ct s x md o H) (hS : va_S (A0 s) s.heap H locs) (kk : ∀ (H1 : Heap) (locs1 : List Loc) (ls1 : Array Slot), lwI D ct s x md o H1 → va_S (A0 s) s.heap H1 locs1 → lv_has ls1 7 [(4, .int (nI j)), (0, .ref b), (1, .ref x), (2, .ref md), (3, .ref o)] → W p l e room_1 s m #[Value.ref b] below meth c H1 locs1 (cells + 8) (slots + 300) Q (F0 m 557 ls1 [])) : W p l e room_1 s m #[Value.ref b] below meth c H locs cells slots Q (F0 m 286 ls []) := by
  obtain ⟨S, hZ, hK, hz, hX, hbl, hzk, hzh, hzn, hza, hzx, hzc, hlt, hL⟩ := F
  have hx := S.1
  have hb := S.2.1
  have hA : ∀ q, s.heap.size ≤ q → A0 s q := fun q h => h
  have hbA : ¬ A0 s b := Nat.not_le.mpr hbl
  obtain ⟨Mc, Mm, fo, hbo, hP⟩ := I
  obtain ⟨Pc, Px, Pm, hC, hM, hEx, hg0, hgx⟩ := b_allow l D ct Z hZ hlt hzx hbo 
  obtain ⟨fs, fx⟩ := hbo.x
  obtain ⟨fs2, fm⟩ := hbo.m
  refine lv_aload_n hx hb d_LW_law_286 rfl (lv_at hl 2 rfl) ?_
  refine hq_calli (go_SW S hZ hK hP.1 hS hA hz (h_allow l D ct Z hZ hzx hzc fx  hC hEx _) mw_LW_allow mz_LW ml_LW_59 ms_LW_allow hd_LW_allow rfl ⟨by decide, by decide⟩ hl.1 rfl (Nat.le_of_ble_eq_true rfl) d_LW_law_287 ⟨by show cells + 3 ≤ _; exact Nat.le_trans (by omega : _ ≤ 500000) (by decide), by show slots + 72 ≤ _; exact Nat.le_trans (by omega : _ ≤ 7000000) (by decide)⟩) hP.1 hS hA (fun r M H locs hp h1 h2 h3 hS => ?_)
  replace hP := hP.c h1 h2 h3
  clear h1 h2 h3
  refine lv_istore (lv' := [(5, .int r), (4, .int (nI j)), (0, .ref b), (1, .ref x), (2, .ref md), (3, .ref o)]) hx hb d_LW_law_290 hl (by decide) rfl (fun ls hl => ?_)
  refine lv_aload_n hx hb d_LW_law_292 rfl (lv_at hl 4 rfl) ?_
  refine hq_callv (go_V S hZ hK hP.2.1 hS hA hz (hM _) mc_MD_allow mz_MD ml_LW_62 mi_MD_allow mx_MD_allow hd_MD_allow rfl ⟨by decide, by decide⟩ fm rfl rfl hl.1 rfl (Nat.le_of_ble_eq_true rfl) d_LW_law_293 ⟨by show cells + 3 + 0 ≤ _; exact Nat.le_trans (by omega : _ ≤ 500000) (by decide), by show slots + 72 + 0 ≤ _; exact Nat.le_trans (by omega : _ ≤ 7000000) (by decide)⟩) hP.2.1 hS hA (fun M2 H locs hp2 h1 h2 h3 hS => ?_)
  replace hP := hP.m h1 h2 h3
  clear h1 h2 h3
  obtain ⟨cd, ec, hbc⟩ : ∃ cd : Nat, r = nI cd ∧ bothC ct M M2 x md cd := by
    rcases hp with ⟨rfl, hp⟩ | ⟨rfl, hp⟩ | ⟨rfl, hp⟩
    · exact ⟨0, rfl, hg0 _ _ hp hp2⟩
    · rcases hgx _ _ _ hp hp2 with ⟨-, h⟩ | ⟨h, -⟩
      · exact ⟨1, rfl, h⟩
      · exact absurd h (by decide)
    · rcases hgx _ _ _ hp hp2 with ⟨h, -⟩ | ⟨-, h⟩
      · exact absurd h (by decide)
      · exact ⟨2, rfl, h⟩
  clear fm
  obtain ⟨fs2, fm⟩ := hbc.b.m
  obtain ⟨Pt, hT, hgt⟩ := b_thrown l D ct Z hZ hbc
  refine lv_aload_n hx hb d_LW_law_296 rfl (lv_at hl 4 rfl) ?_
  refine hq_calli (go_V S hZ hK hP.2.1 hS hA hz (hT _) mc_MD_thrown mz_MD ml_LW_45 mi_MD_thrown mx_MD_thrown hd_MD_thrown rfl ⟨by decide, by decide⟩ fm rfl rfl hl.1 rfl (Nat.le_of_ble_eq_true rfl) d_LW_law_297 ⟨by show cells + 3 + 0 + 0 ≤ _; exact Nat.le_trans (by omega : _ ≤ 500000) (by decide), by show slots + 72 + 0 + 0 ≤ _; exact Nat.le_trans (by omega : _ ≤ 7000000) (by decide)⟩) hP.2.1 hS hA (fun r3 M3 H locs hp3 h1 h2 h3 hS => ?_)
  replace hP := hP.m h1 h2 h3
  clear h1 h2 h3
  obtain ⟨e3, hbc⟩ := hgt _ _ hp3
  refine lv_iload hx hb d_LW_law_300 (lv_at hl 0 rfl) ?_
  refine lv_icmp_eq (tgt := 307) hx hb d_LW_law_302 (by decide) (fun _ => ?_) (fun h => absurd (e3.trans ec.symm) h)
  refine lv_goto (tgt := 557) hx hb d_LW_law_307 (by decide) ?_
  refine W.widen (k := cells + 8) (n := slots + 300) (by omega) (by omega) ?_
  exact kk _ _ _ ⟨_, _, _, hbc.b, hP⟩ hS (lv_sub hl [1, 2, 3, 4, 5] rfl)
set_option maxHeartbeats 4000000 in
set_option maxRecDepth 100000 in
theorem lw_6 (l : Launch) {p : Program} {e : Env} {s : State} {m : MethodId} {below : List Frame} {meth : Method} {c : Code} {b L : Nat} {xs : Nat → Int32} {D : va_G} {ct : Nat → ClassId} {Z : hp_Z} {x md o tk th : Nat} {H : Heap} {locs : List Loc} {cells slots : Nat} {Q : State → Prop} {ls : Array Slot} {j : Nat} (F : lwF l p s m c b L xs D ct Z tk th) (hj : j + 2 < L) (hrc : cells + 8 ≤ 500000) (hrs : slots + 300 ≤ 7000000) (hl : lv_has ls 7 [(4, .int (nI j)), (0, .ref b), (1, .ref x), (2, .ref md), (3, .ref o)]) (I : lwI D ct s x md o H) (hS : va_S (A0 s) s.heap H locs) (kk : ∀ (H1 : Heap) (locs1 : List Loc) (ls1 : Array Slot), lwI D ct s x md o H1 → va_S (A0 s) s.heap H1 locs1 → lv_has ls1 7 [(4, .int (nI j)), (0, .ref b), (1, .ref x), (2, .ref md), (3, .ref o)] → W p l e room_1 s m #[Value.ref b] below meth c H1 locs1 (cells + 8) (slots + 300) Q (F0 m 557 ls1 [])) : W p l e room_1 s m #[Value.ref b] below meth c H locs cells slots Q (F0 m 310 ls []) := by
  obtain ⟨S, hZ, hK, hz, hX, hbl, hzk, hzh, hzn, hza, hzx, hzc, hlt, hL⟩ := F
  have hx := S.1
  have hb := S.2.1
  have hA : ∀ q, s.heap.size ≤ q → A0 s q := fun q h => h
  have hbA : ¬ A0 s b := Nat.not_le.mpr hbl
  obtain ⟨Mc, Mm, fo, hbo, hP⟩ := I
  obtain ⟨Pc, Px, Pm, hC, hM, hEx, hg0, hgx⟩ := b_salt l D ct Z hZ hlt hzx hbo 
  obtain ⟨fs, fx⟩ := hbo.x
  obtain ⟨fs2, fm⟩ := hbo.m
  refine lv_aload_n hx hb d_LW_law_310 rfl (lv_at hl 2 rfl) ?_
  refine hq_calli (go_SW S hZ hK hP.1 hS hA hz (h_salt l D ct Z hZ hzx hzc fx  hC hEx _) mw_LW_salt mz_LW ml_LW_63 ms_LW_salt hd_LW_salt rfl ⟨by decide, by decide⟩ hl.1 rfl (Nat.le_of_ble_eq_true rfl) d_LW_law_311 ⟨by show cells + 2 ≤ _; exact Nat.le_trans (by omega : _ ≤ 500000) (by decide), by show slots + 70 ≤ _; exact Nat.le_trans (by omega : _ ≤ 7000000) (by decide)⟩) hP.1 hS hA (fun r M H locs hp h1 h2 h3 hS => ?_)
  replace hP := hP.c h1 h2 h3
  clear h1 h2 h3
  refine lv_istore (lv' := [(5, .int r), (4, .int (nI j)), (0, .ref b), (1, .ref x), (2, .ref md), (3, .ref o)]) hx hb d_LW_law_314 hl (by decide) rfl (fun ls hl => ?_)
  refine lv_aload_n hx hb d_LW_law_316 rfl (lv_at hl 4 rfl) ?_
  refine hq_callv (go_V S hZ hK hP.2.1 hS hA hz (hM _) mc_MD_salt mz_MD ml_LW_65 mi_MD_salt mx_MD_salt hd_MD_salt rfl ⟨by decide, by decide⟩ fm rfl rfl hl.1 rfl (Nat.le_of_ble_eq_true rfl) d_LW_law_317 ⟨by show cells + 2 + 0 ≤ _; exact Nat.le_trans (by omega : _ ≤ 500000) (by decide), by show slots + 70 + 0 ≤ _; exact Nat.le_trans (by omega : _ ≤ 7000000) (by decide)⟩) hP.2.1 hS hA (fun M2 H locs hp2 h1 h2 h3 hS => ?_)
  replace hP := hP.m h1 h2 h3
  clear h1 h2 h3
  obtain ⟨cd, ec, hbc⟩ : ∃ cd : Nat, r = nI cd ∧ bothC ct M M2 x md cd := by
    rcases hp with ⟨rfl, hp⟩ | ⟨rfl, hp⟩
    · exact ⟨0, rfl, hg0 _ _ hp hp2⟩
    · rcases hgx _ _ _ hp hp2 with ⟨-, h⟩ | ⟨h, -⟩
      · exact ⟨1, rfl, h⟩
      · exact absurd h (by decide)
  clear fm
  obtain ⟨fs2, fm⟩ := hbc.b.m
  obtain ⟨Pt, hT, hgt⟩ := b_thrown l D ct Z hZ hbc
  refine lv_aload_n hx hb d_LW_law_320 rfl (lv_at hl 4 rfl) ?_
  refine hq_calli (go_V S hZ hK hP.2.1 hS hA hz (hT _) mc_MD_thrown mz_MD ml_LW_45 mi_MD_thrown mx_MD_thrown hd_MD_thrown rfl ⟨by decide, by decide⟩ fm rfl rfl hl.1 rfl (Nat.le_of_ble_eq_true rfl) d_LW_law_321 ⟨by show cells + 2 + 0 + 0 ≤ _; exact Nat.le_trans (by omega : _ ≤ 500000) (by decide), by show slots + 70 + 0 + 0 ≤ _; exact Nat.le_trans (by omega : _ ≤ 7000000) (by decide)⟩) hP.2.1 hS hA (fun r3 M3 H locs hp3 h1 h2 h3 hS => ?_)
  replace hP := hP.m h1 h2 h3
  clear h1 h2 h3
  obtain ⟨e3, hbc⟩ := hgt _ _ hp3
  refine lv_iload hx hb d_LW_law_324 (lv_at hl 0 rfl) ?_
  refine lv_icmp_eq (tgt := 331) hx hb d_LW_law_326 (by decide) (fun _ => ?_) (fun h => absurd (e3.trans ec.symm) h)
  refine lv_goto (tgt := 557) hx hb d_LW_law_331 (by decide) ?_
  refine W.widen (k := cells + 8) (n := slots + 300) (by omega) (by omega) ?_
  exact kk _ _ _ ⟨_, _, _, hbc.b, hP⟩ hS (lv_sub hl [1, 2, 3, 4, 5] rfl)
theorem lcmp_s (x : Int64) : lg_cmp x x = 0 := by
  unfold lg_cmp
  simp
set_option maxHeartbeats 4000000 in
set_option maxRecDepth 100000 in
theorem lw_1 (l : Launch) {p : Program} {e : Env} {s : State} {m : MethodId} {below : List Frame} {meth : Method} {c : Code} {b L : Nat} {xs : Nat → Int32} {D : va_G} {ct : Nat → ClassId} {Z : hp_Z} {x md o tk th : Nat} {H : Heap} {locs : List Loc} {cells slots : Nat} {Q : State → Prop} {ls : Array Slot} {j : Nat} (F : lwF l p s m c b L xs D ct Z tk th) (hj : j + 2 < L) (hrc : cells + 8 ≤ 500000) (hrs : slots + 300 ≤ 7000000) (hl : lv_has ls 7 [(4, .int (nI j)), (0, .ref b), (1, .ref x), (2, .ref md), (3, .ref o)]) (I : lwI D ct s x md o H) (hS : va_S (A0 s) s.heap H locs) (kk : ∀ (H1 : Heap) (locs1 : List Loc) (ls1 : Array Slot), lwI D ct s x md o H1 → va_S (A0 s) s.heap H1 locs1 → lv_has ls1 7 [(4, .int (nI j)), (0, .ref b), (1, .ref x), (2, .ref md), (3, .ref o)] → W p l e room_1 s m #[Value.ref b] below meth c H1 locs1 (cells + 8) (slots + 300) Q (F0 m 557 ls1 [])) : W p l e room_1 s m #[Value.ref b] below meth c H locs cells slots Q (F0 m 135 ls []) := by
  obtain ⟨S, hZ, hK, hz, hX, hbl, hzk, hzh, hzn, hza, hzx, hzc, hlt, hL⟩ := F
  have hx := S.1
  have hb := S.2.1
  have hA : ∀ q, s.heap.size ≤ q → A0 s q := fun q h => h
  have hbA : ¬ A0 s b := Nat.not_le.mpr hbl
  obtain ⟨Mc, Mm, fo, hbo, hP⟩ := I
  obtain ⟨Pc, Px, Pm, hC, hM, hEx, hg0, hgx⟩ := b_action l D ct Z hZ hlt hzx hzn hza hbo
  obtain ⟨fs, fx⟩ := hbo.x
  obtain ⟨fs2, fm⟩ := hbo.m
  refine lv_aload_n hx hb d_LW_law_135 rfl (lv_at hl 2 rfl) ?_
  refine lv_aload_n hx hb d_LW_law_136 rfl (lv_at hl 4 rfl) ?_
  refine hq_calli (go_SW S hZ hK hP.o hS hA hz (h_action l D ct Z hZ hzx fx hP.2.2.2.2.1 hC hEx _) mw_LW_action mz_LW ml_LW_39 ms_LW_action hd_LW_action rfl ⟨by decide, by decide⟩ hl.1 rfl (Nat.le_of_ble_eq_true rfl) d_LW_law_137 ⟨by show cells + 2 ≤ _; exact Nat.le_trans (by omega : _ ≤ 500000) (by decide), by show slots + 26 ≤ _; exact Nat.le_trans (by omega : _ ≤ 7000000) (by decide)⟩) hP.o hS hA (fun r M H locs hp h1 h2 h3 hS => ?_)
  obtain ⟨Mc1, f1, rfl, hap, hp⟩ := hp
  replace hP := hP.a h1 h2 hap h3
  clear h1 h2 h3
  refine lv_istore (lv' := [(5, .int r), (4, .int (nI j)), (0, .ref b), (1, .ref x), (2, .ref md), (3, .ref o)]) hx hb d_LW_law_140 hl (by decide) rfl (fun ls hl => ?_)
  refine lv_aload_n hx hb d_LW_law_142 rfl (lv_at hl 4 rfl) ?_
  refine hq_calli (go_V S hZ hK hP.2.1 hS hA hz (hM _) mc_MD_action mz_MD ml_LW_44 mi_MD_action mx_MD_action hd_MD_action rfl ⟨by decide, by decide⟩ fm rfl rfl hl.1 rfl (Nat.le_of_ble_eq_true rfl) d_LW_law_143 ⟨by show cells + 2 + 0 ≤ _; exact Nat.le_trans (by omega : _ ≤ 500000) (by decide), by show slots + 26 + 0 ≤ _; exact Nat.le_trans (by omega : _ ≤ 7000000) (by decide)⟩) hP.2.1 hS hA (fun r2 M2 H locs hp2 h1 h2 h3 hS => ?_)
  replace hP := hP.m h1 h2 h3
  clear h1 h2 h3
  refine lv_istore (lv' := [(6, .int r2), (5, .int r), (4, .int (nI j)), (0, .ref b), (1, .ref x), (2, .ref md), (3, .ref o)]) hx hb d_LW_law_146 hl (by decide) rfl (fun ls hl => ?_)
  clear fm
  rcases hp with ⟨rfl, v, hpv, ev⟩ | ⟨rfl, hp⟩
  · obtain ⟨er, hbc⟩ := hg0 _ _ _ _ hpv hp2
    obtain ⟨fs2, fm⟩ := hbc.b.m
    obtain ⟨Pt, hT, hgt⟩ := b_thrown l D ct Z hZ hbc
    refine lv_aload_n hx hb d_LW_law_148 rfl (lv_at hl 5 rfl) ?_
    refine hq_calli (go_V S hZ hK hP.2.1 hS hA hz (hT _) mc_MD_thrown mz_MD ml_LW_45 mi_MD_thrown mx_MD_thrown hd_MD_thrown rfl ⟨by decide, by decide⟩ fm rfl rfl hl.1 rfl (Nat.le_of_ble_eq_true rfl) d_LW_law_149 ⟨by show cells + 2 + 0 + 0 ≤ _; exact Nat.le_trans (by omega : _ ≤ 500000) (by decide), by show slots + 26 + 0 + 0 ≤ _; exact Nat.le_trans (by omega : _ ≤ 7000000) (by decide)⟩) hP.2.1 hS hA (fun r3 M3 H locs hp3 h1 h2 h3 hS => ?_)
    replace hP := hP.m h1 h2 h3
    clear h1 h2 h3
    obtain ⟨e3, hbc⟩ := hgt _ _ hp3
    refine lv_iload hx hb d_LW_law_152 (lv_at hl 1 rfl) ?_
    refine lv_icmp_eq (tgt := 159) hx hb d_LW_law_154 (by decide) (fun _ => ?_) (fun h => absurd e3 h)
    refine lv_iload hx hb d_LW_law_159 (lv_at hl 1 rfl) ?_
    refine nz_ne (tgt := 176) hx hb d_LW_law_161 (by decide) (by decide) (fun h => absurd rfl h) (fun _ => ?_)
    refine lv_aload_n hx hb d_LW_law_164 rfl (lv_at hl 6 rfl) ?_
    refine lv_iconst (v := nI 0) hx hb d_LW_law_165 rfl ?_
    refine hp_lald S hK hP.2.2.1 5 hp_1s rfl 0 rfl (by decide) (by decide) d_LW_law_166 ?_
    refine lv_iload hx hb d_LW_law_167 (lv_at hl 0 rfl) ?_
    refine lv_i2l hx hb d_LW_law_169 rfl ?_
    refine W.lcmp hx hb d_LW_law_170 ?_
    rw [ev, er, lcmp_s]
    refine lv_if_eq (tgt := 176) hx hb d_LW_law_171 (by decide) (fun _ => ?_) (fun h => absurd rfl h)
    refine lv_goto (tgt := 557) hx hb d_LW_law_176 (by decide) ?_
    refine W.widen (k := cells + 8) (n := slots + 300) (by omega) (by omega) ?_
    exact kk _ _ _ ⟨_, _, _, hbc.b, hP⟩ hS (lv_sub hl [2, 3, 4, 5, 6] rfl)
  · obtain hbc : bothC ct Mc1 M2 x md 1 := by
      rcases hgx _ _ _ _ hp hp2 with ⟨-, h⟩ | ⟨h, -⟩
      · exact h
      · exact absurd h (by decide)
    obtain ⟨fs2, fm⟩ := hbc.b.m
    obtain ⟨Pt, hT, hgt⟩ := b_thrown l D ct Z hZ hbc
    refine lv_aload_n hx hb d_LW_law_148 rfl (lv_at hl 5 rfl) ?_
    refine hq_calli (go_V S hZ hK hP.2.1 hS hA hz (hT _) mc_MD_thrown mz_MD ml_LW_45 mi_MD_thrown mx_MD_thrown hd_MD_thrown rfl ⟨by decide, by decide⟩ fm rfl rfl hl.1 rfl (Nat.le_of_ble_eq_true rfl) d_LW_law_149 ⟨by show cells + 2 + 0 + 0 ≤ _; exact Nat.le_trans (by omega : _ ≤ 500000) (by decide), by show slots + 26 + 0 + 0 ≤ _; exact Nat.le_trans (by omega : _ ≤ 7000000) (by decide)⟩) hP.2.1 hS hA (fun r3 M3 H locs hp3 h1 h2 h3 hS => ?_)
    replace hP := hP.m h1 h2 h3
    clear h1 h2 h3
    obtain ⟨e3, hbc⟩ := hgt _ _ hp3
    refine lv_iload hx hb d_LW_law_152 (lv_at hl 1 rfl) ?_
    refine lv_icmp_eq (tgt := 159) hx hb d_LW_law_154 (by decide) (fun _ => ?_) (fun h => absurd e3 h)
    refine lv_iload hx hb d_LW_law_159 (lv_at hl 1 rfl) ?_
    refine nz_ne (tgt := 176) hx hb d_LW_law_161 (by decide) (by decide) (fun _ => ?_) (fun h => absurd h (by decide))
    refine lv_goto (tgt := 557) hx hb d_LW_law_176 (by decide) ?_
    refine W.widen (k := cells + 8) (n := slots + 300) (by omega) (by omega) ?_
    exact kk _ _ _ ⟨_, _, _, hbc.b, hP⟩ hS (lv_sub hl [2, 3, 4, 5, 6] rfl)
