theorem rof_s {g : Nat → Int32} {k : Nat} {v : Int32} (h : ∀ i, i < k → g i = roF i) (hv : v = roF k) : ∀ i, i < k + 1 → upd g k v i = roF i := fun i hi => by
  by_cases z : i = k
  · rw [z, pk_us]; exact hv
  · rw [pk_un z]; exact h i (by omega)
theorem d_MD_init_0 : decode b_MD_init 0 = .ok (.aload_n 0, 1) := by decide +kernel
theorem d_MD_init_1 : decode b_MD_init 1 = .ok (.invokespecial 1, 3) := by decide +kernel
theorem d_MD_init_4 : decode b_MD_init 4 = .ok (.aload_n 0, 1) := by decide +kernel
theorem d_MD_init_5 : decode b_MD_init 5 = .ok (.bipush 72, 2) := by decide +kernel
theorem d_MD_init_7 : decode b_MD_init 7 = .ok (.newarray .int, 2) := by decide +kernel
theorem d_MD_init_9 : decode b_MD_init 9 = .ok (.dup, 1) := by decide +kernel
theorem d_MD_init_10 : decode b_MD_init 10 = .ok (.iconst 0, 1) := by decide +kernel
theorem d_MD_init_11 : decode b_MD_init 11 = .ok (.ldc 7, 2) := by decide +kernel
theorem d_MD_init_13 : decode b_MD_init 13 = .ok (.iastore, 1) := by decide +kernel
theorem d_MD_init_14 : decode b_MD_init 14 = .ok (.dup, 1) := by decide +kernel
theorem d_MD_init_15 : decode b_MD_init 15 = .ok (.iconst 1, 1) := by decide +kernel
theorem d_MD_init_16 : decode b_MD_init 16 = .ok (.ldc 8, 2) := by decide +kernel
theorem d_MD_init_18 : decode b_MD_init 18 = .ok (.iastore, 1) := by decide +kernel
theorem d_MD_init_19 : decode b_MD_init 19 = .ok (.dup, 1) := by decide +kernel
theorem d_MD_init_20 : decode b_MD_init 20 = .ok (.iconst 2, 1) := by decide +kernel
theorem d_MD_init_21 : decode b_MD_init 21 = .ok (.ldc 9, 2) := by decide +kernel
theorem d_MD_init_23 : decode b_MD_init 23 = .ok (.iastore, 1) := by decide +kernel
theorem d_MD_init_24 : decode b_MD_init 24 = .ok (.dup, 1) := by decide +kernel
theorem d_MD_init_25 : decode b_MD_init 25 = .ok (.iconst 3, 1) := by decide +kernel
theorem d_MD_init_26 : decode b_MD_init 26 = .ok (.ldc 10, 2) := by decide +kernel
theorem d_MD_init_28 : decode b_MD_init 28 = .ok (.iastore, 1) := by decide +kernel
theorem d_MD_init_29 : decode b_MD_init 29 = .ok (.dup, 1) := by decide +kernel
theorem d_MD_init_30 : decode b_MD_init 30 = .ok (.iconst 4, 1) := by decide +kernel
theorem d_MD_init_31 : decode b_MD_init 31 = .ok (.ldc 11, 2) := by decide +kernel
theorem d_MD_init_33 : decode b_MD_init 33 = .ok (.iastore, 1) := by decide +kernel
theorem d_MD_init_34 : decode b_MD_init 34 = .ok (.dup, 1) := by decide +kernel
theorem d_MD_init_35 : decode b_MD_init 35 = .ok (.iconst 5, 1) := by decide +kernel
theorem d_MD_init_36 : decode b_MD_init 36 = .ok (.ldc 12, 2) := by decide +kernel
theorem d_MD_init_38 : decode b_MD_init 38 = .ok (.iastore, 1) := by decide +kernel
theorem d_MD_init_39 : decode b_MD_init 39 = .ok (.dup, 1) := by decide +kernel
theorem d_MD_init_40 : decode b_MD_init 40 = .ok (.bipush 6, 2) := by decide +kernel
theorem d_MD_init_42 : decode b_MD_init 42 = .ok (.ldc 13, 2) := by decide +kernel
theorem d_MD_init_44 : decode b_MD_init 44 = .ok (.iastore, 1) := by decide +kernel
theorem d_MD_init_45 : decode b_MD_init 45 = .ok (.dup, 1) := by decide +kernel
theorem d_MD_init_46 : decode b_MD_init 46 = .ok (.bipush 7, 2) := by decide +kernel
theorem d_MD_init_48 : decode b_MD_init 48 = .ok (.ldc 14, 2) := by decide +kernel
theorem d_MD_init_50 : decode b_MD_init 50 = .ok (.iastore, 1) := by decide +kernel
theorem d_MD_init_51 : decode b_MD_init 51 = .ok (.dup, 1) := by decide +kernel
theorem d_MD_init_52 : decode b_MD_init 52 = .ok (.bipush 8, 2) := by decide +kernel
theorem d_MD_init_54 : decode b_MD_init 54 = .ok (.ldc 15, 2) := by decide +kernel
theorem d_MD_init_56 : decode b_MD_init 56 = .ok (.iastore, 1) := by decide +kernel
theorem d_MD_init_57 : decode b_MD_init 57 = .ok (.dup, 1) := by decide +kernel
theorem d_MD_init_58 : decode b_MD_init 58 = .ok (.bipush 9, 2) := by decide +kernel
theorem d_MD_init_60 : decode b_MD_init 60 = .ok (.ldc 16, 2) := by decide +kernel
theorem d_MD_init_62 : decode b_MD_init 62 = .ok (.iastore, 1) := by decide +kernel
theorem d_MD_init_63 : decode b_MD_init 63 = .ok (.dup, 1) := by decide +kernel
theorem d_MD_init_64 : decode b_MD_init 64 = .ok (.bipush 10, 2) := by decide +kernel
theorem d_MD_init_66 : decode b_MD_init 66 = .ok (.ldc 17, 2) := by decide +kernel
theorem d_MD_init_68 : decode b_MD_init 68 = .ok (.iastore, 1) := by decide +kernel
theorem d_MD_init_69 : decode b_MD_init 69 = .ok (.dup, 1) := by decide +kernel
theorem d_MD_init_70 : decode b_MD_init 70 = .ok (.bipush 11, 2) := by decide +kernel
theorem d_MD_init_72 : decode b_MD_init 72 = .ok (.ldc 18, 2) := by decide +kernel
theorem d_MD_init_74 : decode b_MD_init 74 = .ok (.iastore, 1) := by decide +kernel
theorem d_MD_init_75 : decode b_MD_init 75 = .ok (.dup, 1) := by decide +kernel
theorem d_MD_init_76 : decode b_MD_init 76 = .ok (.bipush 12, 2) := by decide +kernel
theorem d_MD_init_78 : decode b_MD_init 78 = .ok (.ldc 19, 2) := by decide +kernel
theorem d_MD_init_80 : decode b_MD_init 80 = .ok (.iastore, 1) := by decide +kernel
theorem d_MD_init_81 : decode b_MD_init 81 = .ok (.dup, 1) := by decide +kernel
theorem d_MD_init_82 : decode b_MD_init 82 = .ok (.bipush 13, 2) := by decide +kernel
theorem d_MD_init_84 : decode b_MD_init 84 = .ok (.ldc 20, 2) := by decide +kernel
theorem d_MD_init_86 : decode b_MD_init 86 = .ok (.iastore, 1) := by decide +kernel
theorem d_MD_init_87 : decode b_MD_init 87 = .ok (.dup, 1) := by decide +kernel
theorem d_MD_init_88 : decode b_MD_init 88 = .ok (.bipush 14, 2) := by decide +kernel
theorem d_MD_init_90 : decode b_MD_init 90 = .ok (.ldc 21, 2) := by decide +kernel
theorem d_MD_init_92 : decode b_MD_init 92 = .ok (.iastore, 1) := by decide +kernel
theorem d_MD_init_93 : decode b_MD_init 93 = .ok (.dup, 1) := by decide +kernel
theorem d_MD_init_94 : decode b_MD_init 94 = .ok (.bipush 15, 2) := by decide +kernel
theorem d_MD_init_96 : decode b_MD_init 96 = .ok (.ldc 22, 2) := by decide +kernel
theorem d_MD_init_98 : decode b_MD_init 98 = .ok (.iastore, 1) := by decide +kernel
theorem d_MD_init_99 : decode b_MD_init 99 = .ok (.dup, 1) := by decide +kernel
theorem d_MD_init_100 : decode b_MD_init 100 = .ok (.bipush 16, 2) := by decide +kernel
theorem d_MD_init_102 : decode b_MD_init 102 = .ok (.ldc 23, 2) := by decide +kernel
theorem d_MD_init_104 : decode b_MD_init 104 = .ok (.iastore, 1) := by decide +kernel
theorem d_MD_init_105 : decode b_MD_init 105 = .ok (.dup, 1) := by decide +kernel
theorem d_MD_init_106 : decode b_MD_init 106 = .ok (.bipush 17, 2) := by decide +kernel
theorem d_MD_init_108 : decode b_MD_init 108 = .ok (.ldc 24, 2) := by decide +kernel
theorem d_MD_init_110 : decode b_MD_init 110 = .ok (.iastore, 1) := by decide +kernel
theorem d_MD_init_111 : decode b_MD_init 111 = .ok (.dup, 1) := by decide +kernel
theorem d_MD_init_112 : decode b_MD_init 112 = .ok (.bipush 18, 2) := by decide +kernel
theorem d_MD_init_114 : decode b_MD_init 114 = .ok (.ldc 25, 2) := by decide +kernel
theorem d_MD_init_116 : decode b_MD_init 116 = .ok (.iastore, 1) := by decide +kernel
theorem d_MD_init_117 : decode b_MD_init 117 = .ok (.dup, 1) := by decide +kernel
theorem d_MD_init_118 : decode b_MD_init 118 = .ok (.bipush 19, 2) := by decide +kernel
theorem d_MD_init_120 : decode b_MD_init 120 = .ok (.ldc 26, 2) := by decide +kernel
theorem d_MD_init_122 : decode b_MD_init 122 = .ok (.iastore, 1) := by decide +kernel
theorem d_MD_init_123 : decode b_MD_init 123 = .ok (.dup, 1) := by decide +kernel
theorem d_MD_init_124 : decode b_MD_init 124 = .ok (.bipush 20, 2) := by decide +kernel
theorem d_MD_init_126 : decode b_MD_init 126 = .ok (.ldc 27, 2) := by decide +kernel
theorem d_MD_init_128 : decode b_MD_init 128 = .ok (.iastore, 1) := by decide +kernel
theorem d_MD_init_129 : decode b_MD_init 129 = .ok (.dup, 1) := by decide +kernel
theorem d_MD_init_130 : decode b_MD_init 130 = .ok (.bipush 21, 2) := by decide +kernel
theorem d_MD_init_132 : decode b_MD_init 132 = .ok (.ldc 28, 2) := by decide +kernel
theorem d_MD_init_134 : decode b_MD_init 134 = .ok (.iastore, 1) := by decide +kernel
theorem d_MD_init_135 : decode b_MD_init 135 = .ok (.dup, 1) := by decide +kernel
theorem d_MD_init_136 : decode b_MD_init 136 = .ok (.bipush 22, 2) := by decide +kernel
theorem d_MD_init_138 : decode b_MD_init 138 = .ok (.ldc 29, 2) := by decide +kernel
theorem d_MD_init_140 : decode b_MD_init 140 = .ok (.iastore, 1) := by decide +kernel
theorem d_MD_init_141 : decode b_MD_init 141 = .ok (.dup, 1) := by decide +kernel
theorem d_MD_init_142 : decode b_MD_init 142 = .ok (.bipush 23, 2) := by decide +kernel
theorem d_MD_init_144 : decode b_MD_init 144 = .ok (.ldc 30, 2) := by decide +kernel
theorem d_MD_init_146 : decode b_MD_init 146 = .ok (.iastore, 1) := by decide +kernel
theorem d_MD_init_147 : decode b_MD_init 147 = .ok (.dup, 1) := by decide +kernel
theorem d_MD_init_148 : decode b_MD_init 148 = .ok (.bipush 24, 2) := by decide +kernel
theorem d_MD_init_150 : decode b_MD_init 150 = .ok (.ldc 31, 2) := by decide +kernel
theorem d_MD_init_152 : decode b_MD_init 152 = .ok (.iastore, 1) := by decide +kernel
theorem d_MD_init_153 : decode b_MD_init 153 = .ok (.dup, 1) := by decide +kernel
theorem d_MD_init_154 : decode b_MD_init 154 = .ok (.bipush 25, 2) := by decide +kernel
theorem d_MD_init_156 : decode b_MD_init 156 = .ok (.ldc 32, 2) := by decide +kernel
theorem d_MD_init_158 : decode b_MD_init 158 = .ok (.iastore, 1) := by decide +kernel
theorem d_MD_init_159 : decode b_MD_init 159 = .ok (.dup, 1) := by decide +kernel
theorem d_MD_init_160 : decode b_MD_init 160 = .ok (.bipush 26, 2) := by decide +kernel
theorem d_MD_init_162 : decode b_MD_init 162 = .ok (.ldc 33, 2) := by decide +kernel
theorem d_MD_init_164 : decode b_MD_init 164 = .ok (.iastore, 1) := by decide +kernel
theorem d_MD_init_165 : decode b_MD_init 165 = .ok (.dup, 1) := by decide +kernel
theorem d_MD_init_166 : decode b_MD_init 166 = .ok (.bipush 27, 2) := by decide +kernel
theorem d_MD_init_168 : decode b_MD_init 168 = .ok (.ldc 34, 2) := by decide +kernel
theorem d_MD_init_170 : decode b_MD_init 170 = .ok (.iastore, 1) := by decide +kernel
theorem d_MD_init_171 : decode b_MD_init 171 = .ok (.dup, 1) := by decide +kernel
theorem d_MD_init_172 : decode b_MD_init 172 = .ok (.bipush 28, 2) := by decide +kernel
theorem d_MD_init_174 : decode b_MD_init 174 = .ok (.ldc 35, 2) := by decide +kernel
theorem d_MD_init_176 : decode b_MD_init 176 = .ok (.iastore, 1) := by decide +kernel
theorem d_MD_init_177 : decode b_MD_init 177 = .ok (.dup, 1) := by decide +kernel
theorem d_MD_init_178 : decode b_MD_init 178 = .ok (.bipush 29, 2) := by decide +kernel
theorem d_MD_init_180 : decode b_MD_init 180 = .ok (.ldc 36, 2) := by decide +kernel
theorem d_MD_init_182 : decode b_MD_init 182 = .ok (.iastore, 1) := by decide +kernel
theorem d_MD_init_183 : decode b_MD_init 183 = .ok (.dup, 1) := by decide +kernel
theorem d_MD_init_184 : decode b_MD_init 184 = .ok (.bipush 30, 2) := by decide +kernel
theorem d_MD_init_186 : decode b_MD_init 186 = .ok (.ldc 37, 2) := by decide +kernel
theorem d_MD_init_188 : decode b_MD_init 188 = .ok (.iastore, 1) := by decide +kernel
theorem d_MD_init_189 : decode b_MD_init 189 = .ok (.dup, 1) := by decide +kernel
theorem d_MD_init_190 : decode b_MD_init 190 = .ok (.bipush 31, 2) := by decide +kernel
theorem d_MD_init_192 : decode b_MD_init 192 = .ok (.ldc 38, 2) := by decide +kernel
theorem d_MD_init_194 : decode b_MD_init 194 = .ok (.iastore, 1) := by decide +kernel
theorem d_MD_init_195 : decode b_MD_init 195 = .ok (.dup, 1) := by decide +kernel
theorem d_MD_init_196 : decode b_MD_init 196 = .ok (.bipush 32, 2) := by decide +kernel
theorem d_MD_init_198 : decode b_MD_init 198 = .ok (.ldc 39, 2) := by decide +kernel
theorem d_MD_init_200 : decode b_MD_init 200 = .ok (.iastore, 1) := by decide +kernel
theorem d_MD_init_201 : decode b_MD_init 201 = .ok (.dup, 1) := by decide +kernel
theorem d_MD_init_202 : decode b_MD_init 202 = .ok (.bipush 33, 2) := by decide +kernel
theorem d_MD_init_204 : decode b_MD_init 204 = .ok (.ldc 40, 2) := by decide +kernel
theorem d_MD_init_206 : decode b_MD_init 206 = .ok (.iastore, 1) := by decide +kernel
theorem d_MD_init_207 : decode b_MD_init 207 = .ok (.dup, 1) := by decide +kernel
theorem d_MD_init_208 : decode b_MD_init 208 = .ok (.bipush 34, 2) := by decide +kernel
theorem d_MD_init_210 : decode b_MD_init 210 = .ok (.ldc 41, 2) := by decide +kernel
theorem d_MD_init_212 : decode b_MD_init 212 = .ok (.iastore, 1) := by decide +kernel
theorem d_MD_init_213 : decode b_MD_init 213 = .ok (.dup, 1) := by decide +kernel
theorem d_MD_init_214 : decode b_MD_init 214 = .ok (.bipush 35, 2) := by decide +kernel
theorem d_MD_init_216 : decode b_MD_init 216 = .ok (.ldc 42, 2) := by decide +kernel
theorem d_MD_init_218 : decode b_MD_init 218 = .ok (.iastore, 1) := by decide +kernel
theorem d_MD_init_219 : decode b_MD_init 219 = .ok (.dup, 1) := by decide +kernel
theorem d_MD_init_220 : decode b_MD_init 220 = .ok (.bipush 36, 2) := by decide +kernel
theorem d_MD_init_222 : decode b_MD_init 222 = .ok (.ldc 43, 2) := by decide +kernel
theorem d_MD_init_224 : decode b_MD_init 224 = .ok (.iastore, 1) := by decide +kernel
theorem d_MD_init_225 : decode b_MD_init 225 = .ok (.dup, 1) := by decide +kernel
theorem d_MD_init_226 : decode b_MD_init 226 = .ok (.bipush 37, 2) := by decide +kernel
theorem d_MD_init_228 : decode b_MD_init 228 = .ok (.ldc 44, 2) := by decide +kernel
theorem d_MD_init_230 : decode b_MD_init 230 = .ok (.iastore, 1) := by decide +kernel
theorem d_MD_init_231 : decode b_MD_init 231 = .ok (.dup, 1) := by decide +kernel
theorem d_MD_init_232 : decode b_MD_init 232 = .ok (.bipush 38, 2) := by decide +kernel
theorem d_MD_init_234 : decode b_MD_init 234 = .ok (.ldc 45, 2) := by decide +kernel
theorem d_MD_init_236 : decode b_MD_init 236 = .ok (.iastore, 1) := by decide +kernel
theorem d_MD_init_237 : decode b_MD_init 237 = .ok (.dup, 1) := by decide +kernel
theorem d_MD_init_238 : decode b_MD_init 238 = .ok (.bipush 39, 2) := by decide +kernel
theorem d_MD_init_240 : decode b_MD_init 240 = .ok (.ldc 46, 2) := by decide +kernel
theorem d_MD_init_242 : decode b_MD_init 242 = .ok (.iastore, 1) := by decide +kernel
theorem d_MD_init_243 : decode b_MD_init 243 = .ok (.dup, 1) := by decide +kernel
theorem d_MD_init_244 : decode b_MD_init 244 = .ok (.bipush 40, 2) := by decide +kernel
theorem d_MD_init_246 : decode b_MD_init 246 = .ok (.ldc 47, 2) := by decide +kernel
theorem d_MD_init_248 : decode b_MD_init 248 = .ok (.iastore, 1) := by decide +kernel
theorem d_MD_init_249 : decode b_MD_init 249 = .ok (.dup, 1) := by decide +kernel
theorem d_MD_init_250 : decode b_MD_init 250 = .ok (.bipush 41, 2) := by decide +kernel
theorem d_MD_init_252 : decode b_MD_init 252 = .ok (.ldc 48, 2) := by decide +kernel
theorem d_MD_init_254 : decode b_MD_init 254 = .ok (.iastore, 1) := by decide +kernel
theorem d_MD_init_255 : decode b_MD_init 255 = .ok (.dup, 1) := by decide +kernel
theorem d_MD_init_256 : decode b_MD_init 256 = .ok (.bipush 42, 2) := by decide +kernel
theorem d_MD_init_258 : decode b_MD_init 258 = .ok (.ldc 49, 2) := by decide +kernel
theorem d_MD_init_260 : decode b_MD_init 260 = .ok (.iastore, 1) := by decide +kernel
theorem d_MD_init_261 : decode b_MD_init 261 = .ok (.dup, 1) := by decide +kernel
theorem d_MD_init_262 : decode b_MD_init 262 = .ok (.bipush 43, 2) := by decide +kernel
theorem d_MD_init_264 : decode b_MD_init 264 = .ok (.ldc 50, 2) := by decide +kernel
theorem d_MD_init_266 : decode b_MD_init 266 = .ok (.iastore, 1) := by decide +kernel
theorem d_MD_init_267 : decode b_MD_init 267 = .ok (.dup, 1) := by decide +kernel
theorem d_MD_init_268 : decode b_MD_init 268 = .ok (.bipush 44, 2) := by decide +kernel
theorem d_MD_init_270 : decode b_MD_init 270 = .ok (.ldc 51, 2) := by decide +kernel
theorem d_MD_init_272 : decode b_MD_init 272 = .ok (.iastore, 1) := by decide +kernel
theorem d_MD_init_273 : decode b_MD_init 273 = .ok (.dup, 1) := by decide +kernel
theorem d_MD_init_274 : decode b_MD_init 274 = .ok (.bipush 45, 2) := by decide +kernel
theorem d_MD_init_276 : decode b_MD_init 276 = .ok (.ldc 52, 2) := by decide +kernel
theorem d_MD_init_278 : decode b_MD_init 278 = .ok (.iastore, 1) := by decide +kernel
theorem d_MD_init_279 : decode b_MD_init 279 = .ok (.dup, 1) := by decide +kernel
theorem d_MD_init_280 : decode b_MD_init 280 = .ok (.bipush 46, 2) := by decide +kernel
theorem d_MD_init_282 : decode b_MD_init 282 = .ok (.ldc 53, 2) := by decide +kernel
theorem d_MD_init_284 : decode b_MD_init 284 = .ok (.iastore, 1) := by decide +kernel
theorem d_MD_init_285 : decode b_MD_init 285 = .ok (.dup, 1) := by decide +kernel
theorem d_MD_init_286 : decode b_MD_init 286 = .ok (.bipush 47, 2) := by decide +kernel
theorem d_MD_init_288 : decode b_MD_init 288 = .ok (.ldc 54, 2) := by decide +kernel
theorem d_MD_init_290 : decode b_MD_init 290 = .ok (.iastore, 1) := by decide +kernel
theorem d_MD_init_291 : decode b_MD_init 291 = .ok (.dup, 1) := by decide +kernel
theorem d_MD_init_292 : decode b_MD_init 292 = .ok (.bipush 48, 2) := by decide +kernel
theorem d_MD_init_294 : decode b_MD_init 294 = .ok (.ldc 55, 2) := by decide +kernel
theorem d_MD_init_296 : decode b_MD_init 296 = .ok (.iastore, 1) := by decide +kernel
theorem d_MD_init_297 : decode b_MD_init 297 = .ok (.dup, 1) := by decide +kernel
theorem d_MD_init_298 : decode b_MD_init 298 = .ok (.bipush 49, 2) := by decide +kernel
theorem d_MD_init_300 : decode b_MD_init 300 = .ok (.ldc 56, 2) := by decide +kernel
theorem d_MD_init_302 : decode b_MD_init 302 = .ok (.iastore, 1) := by decide +kernel
theorem d_MD_init_303 : decode b_MD_init 303 = .ok (.dup, 1) := by decide +kernel
theorem d_MD_init_304 : decode b_MD_init 304 = .ok (.bipush 50, 2) := by decide +kernel
theorem d_MD_init_306 : decode b_MD_init 306 = .ok (.ldc 57, 2) := by decide +kernel
theorem d_MD_init_308 : decode b_MD_init 308 = .ok (.iastore, 1) := by decide +kernel
theorem d_MD_init_309 : decode b_MD_init 309 = .ok (.dup, 1) := by decide +kernel
theorem d_MD_init_310 : decode b_MD_init 310 = .ok (.bipush 51, 2) := by decide +kernel
theorem d_MD_init_312 : decode b_MD_init 312 = .ok (.ldc 58, 2) := by decide +kernel
theorem d_MD_init_314 : decode b_MD_init 314 = .ok (.iastore, 1) := by decide +kernel
theorem d_MD_init_315 : decode b_MD_init 315 = .ok (.dup, 1) := by decide +kernel
theorem d_MD_init_316 : decode b_MD_init 316 = .ok (.bipush 52, 2) := by decide +kernel
theorem d_MD_init_318 : decode b_MD_init 318 = .ok (.ldc 59, 2) := by decide +kernel
theorem d_MD_init_320 : decode b_MD_init 320 = .ok (.iastore, 1) := by decide +kernel
theorem d_MD_init_321 : decode b_MD_init 321 = .ok (.dup, 1) := by decide +kernel
theorem d_MD_init_322 : decode b_MD_init 322 = .ok (.bipush 53, 2) := by decide +kernel
theorem d_MD_init_324 : decode b_MD_init 324 = .ok (.ldc 60, 2) := by decide +kernel
theorem d_MD_init_326 : decode b_MD_init 326 = .ok (.iastore, 1) := by decide +kernel
theorem d_MD_init_327 : decode b_MD_init 327 = .ok (.dup, 1) := by decide +kernel
theorem d_MD_init_328 : decode b_MD_init 328 = .ok (.bipush 54, 2) := by decide +kernel
theorem d_MD_init_330 : decode b_MD_init 330 = .ok (.ldc 61, 2) := by decide +kernel
theorem d_MD_init_332 : decode b_MD_init 332 = .ok (.iastore, 1) := by decide +kernel
theorem d_MD_init_333 : decode b_MD_init 333 = .ok (.dup, 1) := by decide +kernel
theorem d_MD_init_334 : decode b_MD_init 334 = .ok (.bipush 55, 2) := by decide +kernel
theorem d_MD_init_336 : decode b_MD_init 336 = .ok (.ldc 62, 2) := by decide +kernel
theorem d_MD_init_338 : decode b_MD_init 338 = .ok (.iastore, 1) := by decide +kernel
theorem d_MD_init_339 : decode b_MD_init 339 = .ok (.dup, 1) := by decide +kernel
theorem d_MD_init_340 : decode b_MD_init 340 = .ok (.bipush 56, 2) := by decide +kernel
theorem d_MD_init_342 : decode b_MD_init 342 = .ok (.ldc 63, 2) := by decide +kernel
theorem d_MD_init_344 : decode b_MD_init 344 = .ok (.iastore, 1) := by decide +kernel
theorem d_MD_init_345 : decode b_MD_init 345 = .ok (.dup, 1) := by decide +kernel
theorem d_MD_init_346 : decode b_MD_init 346 = .ok (.bipush 57, 2) := by decide +kernel
theorem d_MD_init_348 : decode b_MD_init 348 = .ok (.ldc 64, 2) := by decide +kernel
theorem d_MD_init_350 : decode b_MD_init 350 = .ok (.iastore, 1) := by decide +kernel
theorem d_MD_init_351 : decode b_MD_init 351 = .ok (.dup, 1) := by decide +kernel
theorem d_MD_init_352 : decode b_MD_init 352 = .ok (.bipush 58, 2) := by decide +kernel
theorem d_MD_init_354 : decode b_MD_init 354 = .ok (.ldc 65, 2) := by decide +kernel
theorem d_MD_init_356 : decode b_MD_init 356 = .ok (.iastore, 1) := by decide +kernel
theorem d_MD_init_357 : decode b_MD_init 357 = .ok (.dup, 1) := by decide +kernel
theorem d_MD_init_358 : decode b_MD_init 358 = .ok (.bipush 59, 2) := by decide +kernel
theorem d_MD_init_360 : decode b_MD_init 360 = .ok (.ldc 66, 2) := by decide +kernel
theorem d_MD_init_362 : decode b_MD_init 362 = .ok (.iastore, 1) := by decide +kernel
theorem d_MD_init_363 : decode b_MD_init 363 = .ok (.dup, 1) := by decide +kernel
theorem d_MD_init_364 : decode b_MD_init 364 = .ok (.bipush 60, 2) := by decide +kernel
theorem d_MD_init_366 : decode b_MD_init 366 = .ok (.ldc 67, 2) := by decide +kernel
theorem d_MD_init_368 : decode b_MD_init 368 = .ok (.iastore, 1) := by decide +kernel
theorem d_MD_init_369 : decode b_MD_init 369 = .ok (.dup, 1) := by decide +kernel
theorem d_MD_init_370 : decode b_MD_init 370 = .ok (.bipush 61, 2) := by decide +kernel
theorem d_MD_init_372 : decode b_MD_init 372 = .ok (.ldc 68, 2) := by decide +kernel
theorem d_MD_init_374 : decode b_MD_init 374 = .ok (.iastore, 1) := by decide +kernel
theorem d_MD_init_375 : decode b_MD_init 375 = .ok (.dup, 1) := by decide +kernel
theorem d_MD_init_376 : decode b_MD_init 376 = .ok (.bipush 62, 2) := by decide +kernel
theorem d_MD_init_378 : decode b_MD_init 378 = .ok (.ldc 69, 2) := by decide +kernel
theorem d_MD_init_380 : decode b_MD_init 380 = .ok (.iastore, 1) := by decide +kernel
theorem d_MD_init_381 : decode b_MD_init 381 = .ok (.dup, 1) := by decide +kernel
theorem d_MD_init_382 : decode b_MD_init 382 = .ok (.bipush 63, 2) := by decide +kernel
theorem d_MD_init_384 : decode b_MD_init 384 = .ok (.ldc 70, 2) := by decide +kernel
theorem d_MD_init_386 : decode b_MD_init 386 = .ok (.iastore, 1) := by decide +kernel
theorem d_MD_init_387 : decode b_MD_init 387 = .ok (.dup, 1) := by decide +kernel
theorem d_MD_init_388 : decode b_MD_init 388 = .ok (.bipush 64, 2) := by decide +kernel
theorem d_MD_init_390 : decode b_MD_init 390 = .ok (.ldc 71, 2) := by decide +kernel
theorem d_MD_init_392 : decode b_MD_init 392 = .ok (.iastore, 1) := by decide +kernel
theorem d_MD_init_393 : decode b_MD_init 393 = .ok (.dup, 1) := by decide +kernel
theorem d_MD_init_394 : decode b_MD_init 394 = .ok (.bipush 65, 2) := by decide +kernel
theorem d_MD_init_396 : decode b_MD_init 396 = .ok (.ldc 72, 2) := by decide +kernel
theorem d_MD_init_398 : decode b_MD_init 398 = .ok (.iastore, 1) := by decide +kernel
theorem d_MD_init_399 : decode b_MD_init 399 = .ok (.dup, 1) := by decide +kernel
theorem d_MD_init_400 : decode b_MD_init 400 = .ok (.bipush 66, 2) := by decide +kernel
theorem d_MD_init_402 : decode b_MD_init 402 = .ok (.ldc 73, 2) := by decide +kernel
theorem d_MD_init_404 : decode b_MD_init 404 = .ok (.iastore, 1) := by decide +kernel
theorem d_MD_init_405 : decode b_MD_init 405 = .ok (.dup, 1) := by decide +kernel
theorem d_MD_init_406 : decode b_MD_init 406 = .ok (.bipush 67, 2) := by decide +kernel
theorem d_MD_init_408 : decode b_MD_init 408 = .ok (.ldc 74, 2) := by decide +kernel
theorem d_MD_init_410 : decode b_MD_init 410 = .ok (.iastore, 1) := by decide +kernel
theorem d_MD_init_411 : decode b_MD_init 411 = .ok (.dup, 1) := by decide +kernel
theorem d_MD_init_412 : decode b_MD_init 412 = .ok (.bipush 68, 2) := by decide +kernel
theorem d_MD_init_414 : decode b_MD_init 414 = .ok (.ldc 75, 2) := by decide +kernel
theorem d_MD_init_416 : decode b_MD_init 416 = .ok (.iastore, 1) := by decide +kernel
theorem d_MD_init_417 : decode b_MD_init 417 = .ok (.dup, 1) := by decide +kernel
theorem d_MD_init_418 : decode b_MD_init 418 = .ok (.bipush 69, 2) := by decide +kernel
theorem d_MD_init_420 : decode b_MD_init 420 = .ok (.ldc 76, 2) := by decide +kernel
theorem d_MD_init_422 : decode b_MD_init 422 = .ok (.iastore, 1) := by decide +kernel
theorem d_MD_init_423 : decode b_MD_init 423 = .ok (.dup, 1) := by decide +kernel
theorem d_MD_init_424 : decode b_MD_init 424 = .ok (.bipush 70, 2) := by decide +kernel
theorem d_MD_init_426 : decode b_MD_init 426 = .ok (.ldc 77, 2) := by decide +kernel
theorem d_MD_init_428 : decode b_MD_init 428 = .ok (.iastore, 1) := by decide +kernel
theorem d_MD_init_429 : decode b_MD_init 429 = .ok (.dup, 1) := by decide +kernel
theorem d_MD_init_430 : decode b_MD_init 430 = .ok (.bipush 71, 2) := by decide +kernel
theorem d_MD_init_432 : decode b_MD_init 432 = .ok (.ldc 78, 2) := by decide +kernel
theorem d_MD_init_434 : decode b_MD_init 434 = .ok (.iastore, 1) := by decide +kernel
theorem d_MD_init_435 : decode b_MD_init 435 = .ok (.putfield 79, 3) := by decide +kernel
theorem d_MD_init_438 : decode b_MD_init 438 = .ok (.aload_n 0, 1) := by decide +kernel
theorem d_MD_init_439 : decode b_MD_init 439 = .ok (.bipush 64, 2) := by decide +kernel
theorem d_MD_init_441 : decode b_MD_init 441 = .ok (.newarray .int, 2) := by decide +kernel
theorem d_MD_init_443 : decode b_MD_init 443 = .ok (.putfield 85, 3) := by decide +kernel
theorem d_MD_init_446 : decode b_MD_init 446 = .ok (.aload_n 0, 1) := by decide +kernel
theorem d_MD_init_447 : decode b_MD_init 447 = .ok (.bipush 8, 2) := by decide +kernel
theorem d_MD_init_449 : decode b_MD_init 449 = .ok (.newarray .int, 2) := by decide +kernel
theorem d_MD_init_451 : decode b_MD_init 451 = .ok (.putfield 88, 3) := by decide +kernel
theorem d_MD_init_454 : decode b_MD_init 454 = .ok (.aload_n 0, 1) := by decide +kernel
theorem d_MD_init_455 : decode b_MD_init 455 = .ok (.bipush 12, 2) := by decide +kernel
theorem d_MD_init_457 : decode b_MD_init 457 = .ok (.newarray .int, 2) := by decide +kernel
theorem d_MD_init_459 : decode b_MD_init 459 = .ok (.putfield 91, 3) := by decide +kernel
theorem d_MD_init_462 : decode b_MD_init 462 = .ok (.aload_n 0, 1) := by decide +kernel
theorem d_MD_init_463 : decode b_MD_init 463 = .ok (.sipush 288, 3) := by decide +kernel
theorem d_MD_init_466 : decode b_MD_init 466 = .ok (.newarray .int, 2) := by decide +kernel
theorem d_MD_init_468 : decode b_MD_init 468 = .ok (.putfield 94, 3) := by decide +kernel
theorem d_MD_init_471 : decode b_MD_init 471 = .ok (.aload_n 0, 1) := by decide +kernel
theorem d_MD_init_472 : decode b_MD_init 472 = .ok (.sipush 288, 3) := by decide +kernel
theorem d_MD_init_475 : decode b_MD_init 475 = .ok (.newarray .int, 2) := by decide +kernel
theorem d_MD_init_477 : decode b_MD_init 477 = .ok (.putfield 97, 3) := by decide +kernel
theorem d_MD_init_480 : decode b_MD_init 480 = .ok (.aload_n 0, 1) := by decide +kernel
theorem d_MD_init_481 : decode b_MD_init 481 = .ok (.sipush 288, 3) := by decide +kernel
theorem d_MD_init_484 : decode b_MD_init 484 = .ok (.newarray .int, 2) := by decide +kernel
theorem d_MD_init_486 : decode b_MD_init 486 = .ok (.putfield 100, 3) := by decide +kernel
theorem d_MD_init_489 : decode b_MD_init 489 = .ok (.aload_n 0, 1) := by decide +kernel
theorem d_MD_init_490 : decode b_MD_init 490 = .ok (.sipush 18432, 3) := by decide +kernel
theorem d_MD_init_493 : decode b_MD_init 493 = .ok (.newarray .int, 2) := by decide +kernel
theorem d_MD_init_495 : decode b_MD_init 495 = .ok (.putfield 103, 3) := by decide +kernel
theorem d_MD_init_498 : decode b_MD_init 498 = .ok (.aload_n 0, 1) := by decide +kernel
theorem d_MD_init_499 : decode b_MD_init 499 = .ok (.sipush 2304, 3) := by decide +kernel
theorem d_MD_init_502 : decode b_MD_init 502 = .ok (.newarray .int, 2) := by decide +kernel
theorem d_MD_init_504 : decode b_MD_init 504 = .ok (.putfield 106, 3) := by decide +kernel
theorem d_MD_init_507 : decode b_MD_init 507 = .ok (.aload_n 0, 1) := by decide +kernel
theorem d_MD_init_508 : decode b_MD_init 508 = .ok (.sipush 128, 3) := by decide +kernel
theorem d_MD_init_511 : decode b_MD_init 511 = .ok (.newarray .int, 2) := by decide +kernel
theorem d_MD_init_513 : decode b_MD_init 513 = .ok (.putfield 109, 3) := by decide +kernel
theorem d_MD_init_516 : decode b_MD_init 516 = .ok (.aload_n 0, 1) := by decide +kernel
theorem d_MD_init_517 : decode b_MD_init 517 = .ok (.bipush 8, 2) := by decide +kernel
theorem d_MD_init_519 : decode b_MD_init 519 = .ok (.newarray .int, 2) := by decide +kernel
theorem d_MD_init_521 : decode b_MD_init 521 = .ok (.putfield 112, 3) := by decide +kernel
theorem d_MD_init_524 : decode b_MD_init 524 = .ok (.aload_n 0, 1) := by decide +kernel
theorem d_MD_init_525 : decode b_MD_init 525 = .ok (.bipush 16, 2) := by decide +kernel
theorem d_MD_init_527 : decode b_MD_init 527 = .ok (.newarray .int, 2) := by decide +kernel
theorem d_MD_init_529 : decode b_MD_init 529 = .ok (.putfield 115, 3) := by decide +kernel
theorem d_MD_init_532 : decode b_MD_init 532 = .ok (.aload_n 0, 1) := by decide +kernel
theorem d_MD_init_533 : decode b_MD_init 533 = .ok (.sipush 3000, 3) := by decide +kernel
theorem d_MD_init_536 : decode b_MD_init 536 = .ok (.newarray .int, 2) := by decide +kernel
theorem d_MD_init_538 : decode b_MD_init 538 = .ok (.putfield 118, 3) := by decide +kernel
theorem d_MD_init_541 : decode b_MD_init 541 = .ok (.aload_n 0, 1) := by decide +kernel
theorem d_MD_init_542 : decode b_MD_init 542 = .ok (.bipush 8, 2) := by decide +kernel
theorem d_MD_init_544 : decode b_MD_init 544 = .ok (.newarray .int, 2) := by decide +kernel
theorem d_MD_init_546 : decode b_MD_init 546 = .ok (.putfield 121, 3) := by decide +kernel
theorem d_MD_init_549 : decode b_MD_init 549 = .ok (.aload_n 0, 1) := by decide +kernel
theorem d_MD_init_550 : decode b_MD_init 550 = .ok (.bipush 64, 2) := by decide +kernel
theorem d_MD_init_552 : decode b_MD_init 552 = .ok (.newarray .int, 2) := by decide +kernel
theorem d_MD_init_554 : decode b_MD_init 554 = .ok (.putfield 124, 3) := by decide +kernel
theorem d_MD_init_557 : decode b_MD_init 557 = .ok (.aload_n 0, 1) := by decide +kernel
theorem d_MD_init_558 : decode b_MD_init 558 = .ok (.bipush 8, 2) := by decide +kernel
theorem d_MD_init_560 : decode b_MD_init 560 = .ok (.newarray .int, 2) := by decide +kernel
theorem d_MD_init_562 : decode b_MD_init 562 = .ok (.putfield 127, 3) := by decide +kernel
theorem d_MD_init_565 : decode b_MD_init 565 = .ok (.aload_n 0, 1) := by decide +kernel
theorem d_MD_init_566 : decode b_MD_init 566 = .ok (.iconst 0, 1) := by decide +kernel
theorem d_MD_init_567 : decode b_MD_init 567 = .ok (.invokevirtual 130, 3) := by decide +kernel
theorem d_MD_init_570 : decode b_MD_init 570 = .ok (.aload_n 0, 1) := by decide +kernel
theorem d_MD_init_571 : decode b_MD_init 571 = .ok (.invokevirtual 134, 3) := by decide +kernel
theorem d_MD_init_574 : decode b_MD_init 574 = .ok (.return_, 1) := by decide +kernel
set_option maxHeartbeats 4000000 in
set_option maxRecDepth 100000 in
/-- a new model -/
theorem c_MD_init (l : Launch) (D : va_G) (ct : Nat → ClassId) (Z : hp_Z) (hZ : hp_Zok Z) (M : hp_M) (sz : Nat) (md : Nat) (f_md : M md = some (.inr (6, [.null, .int (nI 0), .null, .int (nI 0), .int (nI 0), .int (nI 0), .int (nI 0), .null, .null, .null, .null, .null, .null, .null, .null, .null, .null, .null, .int (nI 0), .null, .null, .null]))) : Mv l y_MD_init b_MD_init 1 none 3 76 16 24988 [.ref md] D ct Z M sz (fun M1 => ∃ B V, mdS ct M1 md B V ∧ (∀ i, i < 8 → V.he i = shaM [] i) ∧ V.co = 0 ∧ V.ty = 0 ∧ V.ac = 0 ∧ V.al = 0 ∧ V.sd = 0 ∧ ∀ a, V.cn a = 0) := by
  refine hp_start (by decide) (Nat.le_of_ble_eq_true rfl) (fun p e s m below meth c ls S hret hlk hnm hsz hK hM hS hA hz hl => ?_)
  have hx := S.1
  have hb := S.2.1
  have hl : lv_has ls 1 [(0, .ref md)] := hl
  refine lv_aload_n hx hb d_MD_init_0 rfl (lv_at hl 0 rfl) ?_
  refine W.objInit hx hb S.2.2.2.1 (S.2.2.2.2 _ ml_MD_1) (S.2.2.2.2 _ mi_OB_init) (S.2.2.2.2 _ mc_OB_init) rfl (by rw [S.2.2.1]; exact hl.1) rfl d_MD_init_1 (by decide) (Nat.le_of_ble_eq_true rfl) ?_
  refine W.eq (g2 := F0 m 4 ls []) rfl ?_
  refine lv_aload_n hx hb d_MD_init_4 rfl (lv_at hl 0 rfl) ?_
  refine lv_bipush (v := nI 72) hx hb d_MD_init_5 rfl ?_
  refine hp_newi S hK hM hS hA (atype := .int) rfl ma_int 1 rfl rfl (by decide) 72 rfl (by omega) (by decide) (by decide) d_MD_init_7 (fun qro H hq_qro hM hS => ?_)
  refine W.widen (k := 1) (n := 72) (by omega) (by omega) ?_
  rw [nf_0] at hM
  have ne_md_qro : md ≠ qro := hp_nn f_md hq_qro
  have f_md := hp_k (e := (.inl (ct 1, 72, .inl (nf (fun _ => 0))))) ne_md_qro f_md
  have f_qro : hp_up M qro (.inl (ct 1, 72, .inl (nf (fun _ => 0)))) qro = some (.inl (ct 1, 72, .inl (nf (fun _ => 0)))) := hp_us
  obtain ⟨M1, eM1⟩ : ∃ z, z = hp_up M qro (.inl (ct 1, 72, .inl (nf (fun _ => 0)))) := ⟨_, rfl⟩
  rw [← eM1] at hM f_md f_qro
  obtain ⟨g0, eg0⟩ : ∃ z, z = nf (fun _ => 0) := ⟨_, rfl⟩
  have hg0 : ∀ i, i < 0 → g0 i = roF i := fun i hi => absurd hi (Nat.not_lt_zero i)
  rw [← eg0] at f_qro
  clear eg0
  refine lv_dup hx hb d_MD_init_9 rfl ?_
  refine lv_iconst (v := nI 0) hx hb d_MD_init_10 rfl ?_
  refine lv_ldc (v := 1116352408) hx hb S.2.2.2.1 (S.2.2.2.2 _ mq_MD_7) d_MD_init_11 ?_
  refine hp_iast S hK hM hS 1 f_qro rfl 0 rfl (by decide) (by decide) d_MD_init_13 (fun H locs hM hS => ?_)
  obtain ⟨g1, eg1⟩ : ∃ z, z = upd g0 0 (1116352408) := ⟨_, rfl⟩
  have hg1 : ∀ i, i < 1 → g1 i = roF i := by rw [eg1]; exact rof_s hg0 rfl
  rw [← eg1] at hM
  clear eg1 hg0
  have f_md := hp_k (e := (.inl (ct 1, 72, .inl g1))) ne_md_qro f_md
  have f_qro : hp_up M1 qro (.inl (ct 1, 72, .inl g1)) qro = some (.inl (ct 1, 72, .inl g1)) := hp_us
  obtain ⟨M2, eM2⟩ : ∃ z, z = hp_up M1 qro (.inl (ct 1, 72, .inl g1)) := ⟨_, rfl⟩
  rw [← eM2] at hM f_md f_qro
  refine lv_dup hx hb d_MD_init_14 rfl ?_
  refine lv_iconst (v := nI 1) hx hb d_MD_init_15 rfl ?_
  refine lv_ldc (v := 1899447441) hx hb S.2.2.2.1 (S.2.2.2.2 _ mq_MD_8) d_MD_init_16 ?_
  refine hp_iast S hK hM hS 1 f_qro rfl 1 rfl (by decide) (by decide) d_MD_init_18 (fun H locs hM hS => ?_)
  obtain ⟨g2, eg2⟩ : ∃ z, z = upd g1 1 (1899447441) := ⟨_, rfl⟩
  have hg2 : ∀ i, i < 2 → g2 i = roF i := by rw [eg2]; exact rof_s hg1 rfl
  rw [← eg2] at hM
  clear eg2 hg1
  have f_md := hp_k (e := (.inl (ct 1, 72, .inl g2))) ne_md_qro f_md
  have f_qro : hp_up M2 qro (.inl (ct 1, 72, .inl g2)) qro = some (.inl (ct 1, 72, .inl g2)) := hp_us
  obtain ⟨M3, eM3⟩ : ∃ z, z = hp_up M2 qro (.inl (ct 1, 72, .inl g2)) := ⟨_, rfl⟩
  rw [← eM3] at hM f_md f_qro
  refine lv_dup hx hb d_MD_init_19 rfl ?_
  refine lv_iconst (v := nI 2) hx hb d_MD_init_20 rfl ?_
  refine lv_ldc (v := -1245643825) hx hb S.2.2.2.1 (S.2.2.2.2 _ mq_MD_9) d_MD_init_21 ?_
  refine hp_iast S hK hM hS 1 f_qro rfl 2 rfl (by decide) (by decide) d_MD_init_23 (fun H locs hM hS => ?_)
  obtain ⟨g3, eg3⟩ : ∃ z, z = upd g2 2 (-1245643825) := ⟨_, rfl⟩
  have hg3 : ∀ i, i < 3 → g3 i = roF i := by rw [eg3]; exact rof_s hg2 rfl
  rw [← eg3] at hM
  clear eg3 hg2
  have f_md := hp_k (e := (.inl (ct 1, 72, .inl g3))) ne_md_qro f_md
  have f_qro : hp_up M3 qro (.inl (ct 1, 72, .inl g3)) qro = some (.inl (ct 1, 72, .inl g3)) := hp_us
  obtain ⟨M4, eM4⟩ : ∃ z, z = hp_up M3 qro (.inl (ct 1, 72, .inl g3)) := ⟨_, rfl⟩
  rw [← eM4] at hM f_md f_qro
  refine lv_dup hx hb d_MD_init_24 rfl ?_
  refine lv_iconst (v := nI 3) hx hb d_MD_init_25 rfl ?_
  refine lv_ldc (v := -373957723) hx hb S.2.2.2.1 (S.2.2.2.2 _ mq_MD_10) d_MD_init_26 ?_
  refine hp_iast S hK hM hS 1 f_qro rfl 3 rfl (by decide) (by decide) d_MD_init_28 (fun H locs hM hS => ?_)
  obtain ⟨g4, eg4⟩ : ∃ z, z = upd g3 3 (-373957723) := ⟨_, rfl⟩
  have hg4 : ∀ i, i < 4 → g4 i = roF i := by rw [eg4]; exact rof_s hg3 rfl
  rw [← eg4] at hM
  clear eg4 hg3
  have f_md := hp_k (e := (.inl (ct 1, 72, .inl g4))) ne_md_qro f_md
  have f_qro : hp_up M4 qro (.inl (ct 1, 72, .inl g4)) qro = some (.inl (ct 1, 72, .inl g4)) := hp_us
  obtain ⟨M5, eM5⟩ : ∃ z, z = hp_up M4 qro (.inl (ct 1, 72, .inl g4)) := ⟨_, rfl⟩
  rw [← eM5] at hM f_md f_qro
  refine lv_dup hx hb d_MD_init_29 rfl ?_
  refine lv_iconst (v := nI 4) hx hb d_MD_init_30 rfl ?_
  refine lv_ldc (v := 961987163) hx hb S.2.2.2.1 (S.2.2.2.2 _ mq_MD_11) d_MD_init_31 ?_
  refine hp_iast S hK hM hS 1 f_qro rfl 4 rfl (by decide) (by decide) d_MD_init_33 (fun H locs hM hS => ?_)
  obtain ⟨g5, eg5⟩ : ∃ z, z = upd g4 4 (961987163) := ⟨_, rfl⟩
  have hg5 : ∀ i, i < 5 → g5 i = roF i := by rw [eg5]; exact rof_s hg4 rfl
  rw [← eg5] at hM
  clear eg5 hg4
  have f_md := hp_k (e := (.inl (ct 1, 72, .inl g5))) ne_md_qro f_md
  have f_qro : hp_up M5 qro (.inl (ct 1, 72, .inl g5)) qro = some (.inl (ct 1, 72, .inl g5)) := hp_us
  obtain ⟨M6, eM6⟩ : ∃ z, z = hp_up M5 qro (.inl (ct 1, 72, .inl g5)) := ⟨_, rfl⟩
  rw [← eM6] at hM f_md f_qro
  refine lv_dup hx hb d_MD_init_34 rfl ?_
  refine lv_iconst (v := nI 5) hx hb d_MD_init_35 rfl ?_
  refine lv_ldc (v := 1508970993) hx hb S.2.2.2.1 (S.2.2.2.2 _ mq_MD_12) d_MD_init_36 ?_
  refine hp_iast S hK hM hS 1 f_qro rfl 5 rfl (by decide) (by decide) d_MD_init_38 (fun H locs hM hS => ?_)
  obtain ⟨g6, eg6⟩ : ∃ z, z = upd g5 5 (1508970993) := ⟨_, rfl⟩
  have hg6 : ∀ i, i < 6 → g6 i = roF i := by rw [eg6]; exact rof_s hg5 rfl
  rw [← eg6] at hM
  clear eg6 hg5
  have f_md := hp_k (e := (.inl (ct 1, 72, .inl g6))) ne_md_qro f_md
  have f_qro : hp_up M6 qro (.inl (ct 1, 72, .inl g6)) qro = some (.inl (ct 1, 72, .inl g6)) := hp_us
  obtain ⟨M7, eM7⟩ : ∃ z, z = hp_up M6 qro (.inl (ct 1, 72, .inl g6)) := ⟨_, rfl⟩
  rw [← eM7] at hM f_md f_qro
  refine lv_dup hx hb d_MD_init_39 rfl ?_
  refine lv_bipush (v := nI 6) hx hb d_MD_init_40 rfl ?_
  refine lv_ldc (v := -1841331548) hx hb S.2.2.2.1 (S.2.2.2.2 _ mq_MD_13) d_MD_init_42 ?_
  refine hp_iast S hK hM hS 1 f_qro rfl 6 rfl (by decide) (by decide) d_MD_init_44 (fun H locs hM hS => ?_)
  obtain ⟨g7, eg7⟩ : ∃ z, z = upd g6 6 (-1841331548) := ⟨_, rfl⟩
  have hg7 : ∀ i, i < 7 → g7 i = roF i := by rw [eg7]; exact rof_s hg6 rfl
  rw [← eg7] at hM
  clear eg7 hg6
  have f_md := hp_k (e := (.inl (ct 1, 72, .inl g7))) ne_md_qro f_md
  have f_qro : hp_up M7 qro (.inl (ct 1, 72, .inl g7)) qro = some (.inl (ct 1, 72, .inl g7)) := hp_us
  obtain ⟨M8, eM8⟩ : ∃ z, z = hp_up M7 qro (.inl (ct 1, 72, .inl g7)) := ⟨_, rfl⟩
  rw [← eM8] at hM f_md f_qro
  refine lv_dup hx hb d_MD_init_45 rfl ?_
  refine lv_bipush (v := nI 7) hx hb d_MD_init_46 rfl ?_
  refine lv_ldc (v := -1424204075) hx hb S.2.2.2.1 (S.2.2.2.2 _ mq_MD_14) d_MD_init_48 ?_
  refine hp_iast S hK hM hS 1 f_qro rfl 7 rfl (by decide) (by decide) d_MD_init_50 (fun H locs hM hS => ?_)
  obtain ⟨g8, eg8⟩ : ∃ z, z = upd g7 7 (-1424204075) := ⟨_, rfl⟩
  have hg8 : ∀ i, i < 8 → g8 i = roF i := by rw [eg8]; exact rof_s hg7 rfl
  rw [← eg8] at hM
  clear eg8 hg7
  have f_md := hp_k (e := (.inl (ct 1, 72, .inl g8))) ne_md_qro f_md
  have f_qro : hp_up M8 qro (.inl (ct 1, 72, .inl g8)) qro = some (.inl (ct 1, 72, .inl g8)) := hp_us
  obtain ⟨M9, eM9⟩ : ∃ z, z = hp_up M8 qro (.inl (ct 1, 72, .inl g8)) := ⟨_, rfl⟩
  rw [← eM9] at hM f_md f_qro
  refine lv_dup hx hb d_MD_init_51 rfl ?_
  refine lv_bipush (v := nI 8) hx hb d_MD_init_52 rfl ?_
  refine lv_ldc (v := -670586216) hx hb S.2.2.2.1 (S.2.2.2.2 _ mq_MD_15) d_MD_init_54 ?_
  refine hp_iast S hK hM hS 1 f_qro rfl 8 rfl (by decide) (by decide) d_MD_init_56 (fun H locs hM hS => ?_)
  obtain ⟨g9, eg9⟩ : ∃ z, z = upd g8 8 (-670586216) := ⟨_, rfl⟩
  have hg9 : ∀ i, i < 9 → g9 i = roF i := by rw [eg9]; exact rof_s hg8 rfl
  rw [← eg9] at hM
  clear eg9 hg8
  have f_md := hp_k (e := (.inl (ct 1, 72, .inl g9))) ne_md_qro f_md
  have f_qro : hp_up M9 qro (.inl (ct 1, 72, .inl g9)) qro = some (.inl (ct 1, 72, .inl g9)) := hp_us
  obtain ⟨M10, eM10⟩ : ∃ z, z = hp_up M9 qro (.inl (ct 1, 72, .inl g9)) := ⟨_, rfl⟩
  rw [← eM10] at hM f_md f_qro
  refine lv_dup hx hb d_MD_init_57 rfl ?_
  refine lv_bipush (v := nI 9) hx hb d_MD_init_58 rfl ?_
  refine lv_ldc (v := 310598401) hx hb S.2.2.2.1 (S.2.2.2.2 _ mq_MD_16) d_MD_init_60 ?_
  refine hp_iast S hK hM hS 1 f_qro rfl 9 rfl (by decide) (by decide) d_MD_init_62 (fun H locs hM hS => ?_)
  obtain ⟨g10, eg10⟩ : ∃ z, z = upd g9 9 (310598401) := ⟨_, rfl⟩
  have hg10 : ∀ i, i < 10 → g10 i = roF i := by rw [eg10]; exact rof_s hg9 rfl
  rw [← eg10] at hM
  clear eg10 hg9
  have f_md := hp_k (e := (.inl (ct 1, 72, .inl g10))) ne_md_qro f_md
  have f_qro : hp_up M10 qro (.inl (ct 1, 72, .inl g10)) qro = some (.inl (ct 1, 72, .inl g10)) := hp_us
  obtain ⟨M11, eM11⟩ : ∃ z, z = hp_up M10 qro (.inl (ct 1, 72, .inl g10)) := ⟨_, rfl⟩
  rw [← eM11] at hM f_md f_qro
  refine lv_dup hx hb d_MD_init_63 rfl ?_
  refine lv_bipush (v := nI 10) hx hb d_MD_init_64 rfl ?_
  refine lv_ldc (v := 607225278) hx hb S.2.2.2.1 (S.2.2.2.2 _ mq_MD_17) d_MD_init_66 ?_
  refine hp_iast S hK hM hS 1 f_qro rfl 10 rfl (by decide) (by decide) d_MD_init_68 (fun H locs hM hS => ?_)
  obtain ⟨g11, eg11⟩ : ∃ z, z = upd g10 10 (607225278) := ⟨_, rfl⟩
  have hg11 : ∀ i, i < 11 → g11 i = roF i := by rw [eg11]; exact rof_s hg10 rfl
  rw [← eg11] at hM
  clear eg11 hg10
  have f_md := hp_k (e := (.inl (ct 1, 72, .inl g11))) ne_md_qro f_md
  have f_qro : hp_up M11 qro (.inl (ct 1, 72, .inl g11)) qro = some (.inl (ct 1, 72, .inl g11)) := hp_us
  obtain ⟨M12, eM12⟩ : ∃ z, z = hp_up M11 qro (.inl (ct 1, 72, .inl g11)) := ⟨_, rfl⟩
  rw [← eM12] at hM f_md f_qro
  refine lv_dup hx hb d_MD_init_69 rfl ?_
  refine lv_bipush (v := nI 11) hx hb d_MD_init_70 rfl ?_
  refine lv_ldc (v := 1426881987) hx hb S.2.2.2.1 (S.2.2.2.2 _ mq_MD_18) d_MD_init_72 ?_
  refine hp_iast S hK hM hS 1 f_qro rfl 11 rfl (by decide) (by decide) d_MD_init_74 (fun H locs hM hS => ?_)
  obtain ⟨g12, eg12⟩ : ∃ z, z = upd g11 11 (1426881987) := ⟨_, rfl⟩
  have hg12 : ∀ i, i < 12 → g12 i = roF i := by rw [eg12]; exact rof_s hg11 rfl
  rw [← eg12] at hM
  clear eg12 hg11
  have f_md := hp_k (e := (.inl (ct 1, 72, .inl g12))) ne_md_qro f_md
  have f_qro : hp_up M12 qro (.inl (ct 1, 72, .inl g12)) qro = some (.inl (ct 1, 72, .inl g12)) := hp_us
  obtain ⟨M13, eM13⟩ : ∃ z, z = hp_up M12 qro (.inl (ct 1, 72, .inl g12)) := ⟨_, rfl⟩
  rw [← eM13] at hM f_md f_qro
  refine lv_dup hx hb d_MD_init_75 rfl ?_
  refine lv_bipush (v := nI 12) hx hb d_MD_init_76 rfl ?_
  refine lv_ldc (v := 1925078388) hx hb S.2.2.2.1 (S.2.2.2.2 _ mq_MD_19) d_MD_init_78 ?_
  refine hp_iast S hK hM hS 1 f_qro rfl 12 rfl (by decide) (by decide) d_MD_init_80 (fun H locs hM hS => ?_)
  obtain ⟨g13, eg13⟩ : ∃ z, z = upd g12 12 (1925078388) := ⟨_, rfl⟩
  have hg13 : ∀ i, i < 13 → g13 i = roF i := by rw [eg13]; exact rof_s hg12 rfl
  rw [← eg13] at hM
  clear eg13 hg12
  have f_md := hp_k (e := (.inl (ct 1, 72, .inl g13))) ne_md_qro f_md
  have f_qro : hp_up M13 qro (.inl (ct 1, 72, .inl g13)) qro = some (.inl (ct 1, 72, .inl g13)) := hp_us
  obtain ⟨M14, eM14⟩ : ∃ z, z = hp_up M13 qro (.inl (ct 1, 72, .inl g13)) := ⟨_, rfl⟩
  rw [← eM14] at hM f_md f_qro
  refine lv_dup hx hb d_MD_init_81 rfl ?_
  refine lv_bipush (v := nI 13) hx hb d_MD_init_82 rfl ?_
  refine lv_ldc (v := -2132889090) hx hb S.2.2.2.1 (S.2.2.2.2 _ mq_MD_20) d_MD_init_84 ?_
  refine hp_iast S hK hM hS 1 f_qro rfl 13 rfl (by decide) (by decide) d_MD_init_86 (fun H locs hM hS => ?_)
  obtain ⟨g14, eg14⟩ : ∃ z, z = upd g13 13 (-2132889090) := ⟨_, rfl⟩
  have hg14 : ∀ i, i < 14 → g14 i = roF i := by rw [eg14]; exact rof_s hg13 rfl
  rw [← eg14] at hM
  clear eg14 hg13
  have f_md := hp_k (e := (.inl (ct 1, 72, .inl g14))) ne_md_qro f_md
  have f_qro : hp_up M14 qro (.inl (ct 1, 72, .inl g14)) qro = some (.inl (ct 1, 72, .inl g14)) := hp_us
  obtain ⟨M15, eM15⟩ : ∃ z, z = hp_up M14 qro (.inl (ct 1, 72, .inl g14)) := ⟨_, rfl⟩
  rw [← eM15] at hM f_md f_qro
  refine lv_dup hx hb d_MD_init_87 rfl ?_
  refine lv_bipush (v := nI 14) hx hb d_MD_init_88 rfl ?_
  refine lv_ldc (v := -1680079193) hx hb S.2.2.2.1 (S.2.2.2.2 _ mq_MD_21) d_MD_init_90 ?_
  refine hp_iast S hK hM hS 1 f_qro rfl 14 rfl (by decide) (by decide) d_MD_init_92 (fun H locs hM hS => ?_)
  obtain ⟨g15, eg15⟩ : ∃ z, z = upd g14 14 (-1680079193) := ⟨_, rfl⟩
  have hg15 : ∀ i, i < 15 → g15 i = roF i := by rw [eg15]; exact rof_s hg14 rfl
  rw [← eg15] at hM
  clear eg15 hg14
  have f_md := hp_k (e := (.inl (ct 1, 72, .inl g15))) ne_md_qro f_md
  have f_qro : hp_up M15 qro (.inl (ct 1, 72, .inl g15)) qro = some (.inl (ct 1, 72, .inl g15)) := hp_us
  obtain ⟨M16, eM16⟩ : ∃ z, z = hp_up M15 qro (.inl (ct 1, 72, .inl g15)) := ⟨_, rfl⟩
  rw [← eM16] at hM f_md f_qro
  refine lv_dup hx hb d_MD_init_93 rfl ?_
  refine lv_bipush (v := nI 15) hx hb d_MD_init_94 rfl ?_
  refine lv_ldc (v := -1046744716) hx hb S.2.2.2.1 (S.2.2.2.2 _ mq_MD_22) d_MD_init_96 ?_
  refine hp_iast S hK hM hS 1 f_qro rfl 15 rfl (by decide) (by decide) d_MD_init_98 (fun H locs hM hS => ?_)
  obtain ⟨g16, eg16⟩ : ∃ z, z = upd g15 15 (-1046744716) := ⟨_, rfl⟩
  have hg16 : ∀ i, i < 16 → g16 i = roF i := by rw [eg16]; exact rof_s hg15 rfl
  rw [← eg16] at hM
  clear eg16 hg15
  have f_md := hp_k (e := (.inl (ct 1, 72, .inl g16))) ne_md_qro f_md
  have f_qro : hp_up M16 qro (.inl (ct 1, 72, .inl g16)) qro = some (.inl (ct 1, 72, .inl g16)) := hp_us
  obtain ⟨M17, eM17⟩ : ∃ z, z = hp_up M16 qro (.inl (ct 1, 72, .inl g16)) := ⟨_, rfl⟩
  rw [← eM17] at hM f_md f_qro
  refine lv_dup hx hb d_MD_init_99 rfl ?_
  refine lv_bipush (v := nI 16) hx hb d_MD_init_100 rfl ?_
  refine lv_ldc (v := -459576895) hx hb S.2.2.2.1 (S.2.2.2.2 _ mq_MD_23) d_MD_init_102 ?_
  refine hp_iast S hK hM hS 1 f_qro rfl 16 rfl (by decide) (by decide) d_MD_init_104 (fun H locs hM hS => ?_)
  obtain ⟨g17, eg17⟩ : ∃ z, z = upd g16 16 (-459576895) := ⟨_, rfl⟩
  have hg17 : ∀ i, i < 17 → g17 i = roF i := by rw [eg17]; exact rof_s hg16 rfl
  rw [← eg17] at hM
  clear eg17 hg16
  have f_md := hp_k (e := (.inl (ct 1, 72, .inl g17))) ne_md_qro f_md
  have f_qro : hp_up M17 qro (.inl (ct 1, 72, .inl g17)) qro = some (.inl (ct 1, 72, .inl g17)) := hp_us
  obtain ⟨M18, eM18⟩ : ∃ z, z = hp_up M17 qro (.inl (ct 1, 72, .inl g17)) := ⟨_, rfl⟩
  rw [← eM18] at hM f_md f_qro
  refine lv_dup hx hb d_MD_init_105 rfl ?_
  refine lv_bipush (v := nI 17) hx hb d_MD_init_106 rfl ?_
  refine lv_ldc (v := -272742522) hx hb S.2.2.2.1 (S.2.2.2.2 _ mq_MD_24) d_MD_init_108 ?_
  refine hp_iast S hK hM hS 1 f_qro rfl 17 rfl (by decide) (by decide) d_MD_init_110 (fun H locs hM hS => ?_)
  obtain ⟨g18, eg18⟩ : ∃ z, z = upd g17 17 (-272742522) := ⟨_, rfl⟩
  have hg18 : ∀ i, i < 18 → g18 i = roF i := by rw [eg18]; exact rof_s hg17 rfl
  rw [← eg18] at hM
  clear eg18 hg17
  have f_md := hp_k (e := (.inl (ct 1, 72, .inl g18))) ne_md_qro f_md
  have f_qro : hp_up M18 qro (.inl (ct 1, 72, .inl g18)) qro = some (.inl (ct 1, 72, .inl g18)) := hp_us
  obtain ⟨M19, eM19⟩ : ∃ z, z = hp_up M18 qro (.inl (ct 1, 72, .inl g18)) := ⟨_, rfl⟩
  rw [← eM19] at hM f_md f_qro
  refine lv_dup hx hb d_MD_init_111 rfl ?_
  refine lv_bipush (v := nI 18) hx hb d_MD_init_112 rfl ?_
  refine lv_ldc (v := 264347078) hx hb S.2.2.2.1 (S.2.2.2.2 _ mq_MD_25) d_MD_init_114 ?_
  refine hp_iast S hK hM hS 1 f_qro rfl 18 rfl (by decide) (by decide) d_MD_init_116 (fun H locs hM hS => ?_)
  obtain ⟨g19, eg19⟩ : ∃ z, z = upd g18 18 (264347078) := ⟨_, rfl⟩
  have hg19 : ∀ i, i < 19 → g19 i = roF i := by rw [eg19]; exact rof_s hg18 rfl
  rw [← eg19] at hM
  clear eg19 hg18
  have f_md := hp_k (e := (.inl (ct 1, 72, .inl g19))) ne_md_qro f_md
  have f_qro : hp_up M19 qro (.inl (ct 1, 72, .inl g19)) qro = some (.inl (ct 1, 72, .inl g19)) := hp_us
  obtain ⟨M20, eM20⟩ : ∃ z, z = hp_up M19 qro (.inl (ct 1, 72, .inl g19)) := ⟨_, rfl⟩
  rw [← eM20] at hM f_md f_qro
  refine lv_dup hx hb d_MD_init_117 rfl ?_
  refine lv_bipush (v := nI 19) hx hb d_MD_init_118 rfl ?_
  refine lv_ldc (v := 604807628) hx hb S.2.2.2.1 (S.2.2.2.2 _ mq_MD_26) d_MD_init_120 ?_
  refine hp_iast S hK hM hS 1 f_qro rfl 19 rfl (by decide) (by decide) d_MD_init_122 (fun H locs hM hS => ?_)
  obtain ⟨g20, eg20⟩ : ∃ z, z = upd g19 19 (604807628) := ⟨_, rfl⟩
  have hg20 : ∀ i, i < 20 → g20 i = roF i := by rw [eg20]; exact rof_s hg19 rfl
  rw [← eg20] at hM
  clear eg20 hg19
  have f_md := hp_k (e := (.inl (ct 1, 72, .inl g20))) ne_md_qro f_md
  have f_qro : hp_up M20 qro (.inl (ct 1, 72, .inl g20)) qro = some (.inl (ct 1, 72, .inl g20)) := hp_us
  obtain ⟨M21, eM21⟩ : ∃ z, z = hp_up M20 qro (.inl (ct 1, 72, .inl g20)) := ⟨_, rfl⟩
  rw [← eM21] at hM f_md f_qro
  refine lv_dup hx hb d_MD_init_123 rfl ?_
  refine lv_bipush (v := nI 20) hx hb d_MD_init_124 rfl ?_
  refine lv_ldc (v := 770255983) hx hb S.2.2.2.1 (S.2.2.2.2 _ mq_MD_27) d_MD_init_126 ?_
  refine hp_iast S hK hM hS 1 f_qro rfl 20 rfl (by decide) (by decide) d_MD_init_128 (fun H locs hM hS => ?_)
  obtain ⟨g21, eg21⟩ : ∃ z, z = upd g20 20 (770255983) := ⟨_, rfl⟩
  have hg21 : ∀ i, i < 21 → g21 i = roF i := by rw [eg21]; exact rof_s hg20 rfl
  rw [← eg21] at hM
  clear eg21 hg20
  have f_md := hp_k (e := (.inl (ct 1, 72, .inl g21))) ne_md_qro f_md
  have f_qro : hp_up M21 qro (.inl (ct 1, 72, .inl g21)) qro = some (.inl (ct 1, 72, .inl g21)) := hp_us
  obtain ⟨M22, eM22⟩ : ∃ z, z = hp_up M21 qro (.inl (ct 1, 72, .inl g21)) := ⟨_, rfl⟩
  rw [← eM22] at hM f_md f_qro
  refine lv_dup hx hb d_MD_init_129 rfl ?_
  refine lv_bipush (v := nI 21) hx hb d_MD_init_130 rfl ?_
  refine lv_ldc (v := 1249150122) hx hb S.2.2.2.1 (S.2.2.2.2 _ mq_MD_28) d_MD_init_132 ?_
  refine hp_iast S hK hM hS 1 f_qro rfl 21 rfl (by decide) (by decide) d_MD_init_134 (fun H locs hM hS => ?_)
  obtain ⟨g22, eg22⟩ : ∃ z, z = upd g21 21 (1249150122) := ⟨_, rfl⟩
  have hg22 : ∀ i, i < 22 → g22 i = roF i := by rw [eg22]; exact rof_s hg21 rfl
  rw [← eg22] at hM
  clear eg22 hg21
  have f_md := hp_k (e := (.inl (ct 1, 72, .inl g22))) ne_md_qro f_md
  have f_qro : hp_up M22 qro (.inl (ct 1, 72, .inl g22)) qro = some (.inl (ct 1, 72, .inl g22)) := hp_us
  obtain ⟨M23, eM23⟩ : ∃ z, z = hp_up M22 qro (.inl (ct 1, 72, .inl g22)) := ⟨_, rfl⟩
  rw [← eM23] at hM f_md f_qro
  refine lv_dup hx hb d_MD_init_135 rfl ?_
  refine lv_bipush (v := nI 22) hx hb d_MD_init_136 rfl ?_
  refine lv_ldc (v := 1555081692) hx hb S.2.2.2.1 (S.2.2.2.2 _ mq_MD_29) d_MD_init_138 ?_
  refine hp_iast S hK hM hS 1 f_qro rfl 22 rfl (by decide) (by decide) d_MD_init_140 (fun H locs hM hS => ?_)
  obtain ⟨g23, eg23⟩ : ∃ z, z = upd g22 22 (1555081692) := ⟨_, rfl⟩
  have hg23 : ∀ i, i < 23 → g23 i = roF i := by rw [eg23]; exact rof_s hg22 rfl
  rw [← eg23] at hM
  clear eg23 hg22
  have f_md := hp_k (e := (.inl (ct 1, 72, .inl g23))) ne_md_qro f_md
  have f_qro : hp_up M23 qro (.inl (ct 1, 72, .inl g23)) qro = some (.inl (ct 1, 72, .inl g23)) := hp_us
  obtain ⟨M24, eM24⟩ : ∃ z, z = hp_up M23 qro (.inl (ct 1, 72, .inl g23)) := ⟨_, rfl⟩
  rw [← eM24] at hM f_md f_qro
  refine lv_dup hx hb d_MD_init_141 rfl ?_
  refine lv_bipush (v := nI 23) hx hb d_MD_init_142 rfl ?_
  refine lv_ldc (v := 1996064986) hx hb S.2.2.2.1 (S.2.2.2.2 _ mq_MD_30) d_MD_init_144 ?_
  refine hp_iast S hK hM hS 1 f_qro rfl 23 rfl (by decide) (by decide) d_MD_init_146 (fun H locs hM hS => ?_)
  obtain ⟨g24, eg24⟩ : ∃ z, z = upd g23 23 (1996064986) := ⟨_, rfl⟩
  have hg24 : ∀ i, i < 24 → g24 i = roF i := by rw [eg24]; exact rof_s hg23 rfl
  rw [← eg24] at hM
  clear eg24 hg23
  have f_md := hp_k (e := (.inl (ct 1, 72, .inl g24))) ne_md_qro f_md
  have f_qro : hp_up M24 qro (.inl (ct 1, 72, .inl g24)) qro = some (.inl (ct 1, 72, .inl g24)) := hp_us
  obtain ⟨M25, eM25⟩ : ∃ z, z = hp_up M24 qro (.inl (ct 1, 72, .inl g24)) := ⟨_, rfl⟩
  rw [← eM25] at hM f_md f_qro
  refine lv_dup hx hb d_MD_init_147 rfl ?_
  refine lv_bipush (v := nI 24) hx hb d_MD_init_148 rfl ?_
  refine lv_ldc (v := -1740746414) hx hb S.2.2.2.1 (S.2.2.2.2 _ mq_MD_31) d_MD_init_150 ?_
  refine hp_iast S hK hM hS 1 f_qro rfl 24 rfl (by decide) (by decide) d_MD_init_152 (fun H locs hM hS => ?_)
  obtain ⟨g25, eg25⟩ : ∃ z, z = upd g24 24 (-1740746414) := ⟨_, rfl⟩
  have hg25 : ∀ i, i < 25 → g25 i = roF i := by rw [eg25]; exact rof_s hg24 rfl
  rw [← eg25] at hM
  clear eg25 hg24
  have f_md := hp_k (e := (.inl (ct 1, 72, .inl g25))) ne_md_qro f_md
  have f_qro : hp_up M25 qro (.inl (ct 1, 72, .inl g25)) qro = some (.inl (ct 1, 72, .inl g25)) := hp_us
  obtain ⟨M26, eM26⟩ : ∃ z, z = hp_up M25 qro (.inl (ct 1, 72, .inl g25)) := ⟨_, rfl⟩
  rw [← eM26] at hM f_md f_qro
  refine lv_dup hx hb d_MD_init_153 rfl ?_
  refine lv_bipush (v := nI 25) hx hb d_MD_init_154 rfl ?_
  refine lv_ldc (v := -1473132947) hx hb S.2.2.2.1 (S.2.2.2.2 _ mq_MD_32) d_MD_init_156 ?_
  refine hp_iast S hK hM hS 1 f_qro rfl 25 rfl (by decide) (by decide) d_MD_init_158 (fun H locs hM hS => ?_)
  obtain ⟨g26, eg26⟩ : ∃ z, z = upd g25 25 (-1473132947) := ⟨_, rfl⟩
  have hg26 : ∀ i, i < 26 → g26 i = roF i := by rw [eg26]; exact rof_s hg25 rfl
  rw [← eg26] at hM
  clear eg26 hg25
  have f_md := hp_k (e := (.inl (ct 1, 72, .inl g26))) ne_md_qro f_md
  have f_qro : hp_up M26 qro (.inl (ct 1, 72, .inl g26)) qro = some (.inl (ct 1, 72, .inl g26)) := hp_us
  obtain ⟨M27, eM27⟩ : ∃ z, z = hp_up M26 qro (.inl (ct 1, 72, .inl g26)) := ⟨_, rfl⟩
  rw [← eM27] at hM f_md f_qro
  refine lv_dup hx hb d_MD_init_159 rfl ?_
  refine lv_bipush (v := nI 26) hx hb d_MD_init_160 rfl ?_
  refine lv_ldc (v := -1341970488) hx hb S.2.2.2.1 (S.2.2.2.2 _ mq_MD_33) d_MD_init_162 ?_
  refine hp_iast S hK hM hS 1 f_qro rfl 26 rfl (by decide) (by decide) d_MD_init_164 (fun H locs hM hS => ?_)
  obtain ⟨g27, eg27⟩ : ∃ z, z = upd g26 26 (-1341970488) := ⟨_, rfl⟩
  have hg27 : ∀ i, i < 27 → g27 i = roF i := by rw [eg27]; exact rof_s hg26 rfl
  rw [← eg27] at hM
  clear eg27 hg26
  have f_md := hp_k (e := (.inl (ct 1, 72, .inl g27))) ne_md_qro f_md
  have f_qro : hp_up M27 qro (.inl (ct 1, 72, .inl g27)) qro = some (.inl (ct 1, 72, .inl g27)) := hp_us
  obtain ⟨M28, eM28⟩ : ∃ z, z = hp_up M27 qro (.inl (ct 1, 72, .inl g27)) := ⟨_, rfl⟩
  rw [← eM28] at hM f_md f_qro
  refine lv_dup hx hb d_MD_init_165 rfl ?_
  refine lv_bipush (v := nI 27) hx hb d_MD_init_166 rfl ?_
  refine lv_ldc (v := -1084653625) hx hb S.2.2.2.1 (S.2.2.2.2 _ mq_MD_34) d_MD_init_168 ?_
  refine hp_iast S hK hM hS 1 f_qro rfl 27 rfl (by decide) (by decide) d_MD_init_170 (fun H locs hM hS => ?_)
  obtain ⟨g28, eg28⟩ : ∃ z, z = upd g27 27 (-1084653625) := ⟨_, rfl⟩
  have hg28 : ∀ i, i < 28 → g28 i = roF i := by rw [eg28]; exact rof_s hg27 rfl
  rw [← eg28] at hM
  clear eg28 hg27
  have f_md := hp_k (e := (.inl (ct 1, 72, .inl g28))) ne_md_qro f_md
  have f_qro : hp_up M28 qro (.inl (ct 1, 72, .inl g28)) qro = some (.inl (ct 1, 72, .inl g28)) := hp_us
  obtain ⟨M29, eM29⟩ : ∃ z, z = hp_up M28 qro (.inl (ct 1, 72, .inl g28)) := ⟨_, rfl⟩
  rw [← eM29] at hM f_md f_qro
  refine lv_dup hx hb d_MD_init_171 rfl ?_
  refine lv_bipush (v := nI 28) hx hb d_MD_init_172 rfl ?_
  refine lv_ldc (v := -958395405) hx hb S.2.2.2.1 (S.2.2.2.2 _ mq_MD_35) d_MD_init_174 ?_
  refine hp_iast S hK hM hS 1 f_qro rfl 28 rfl (by decide) (by decide) d_MD_init_176 (fun H locs hM hS => ?_)
  obtain ⟨g29, eg29⟩ : ∃ z, z = upd g28 28 (-958395405) := ⟨_, rfl⟩
  have hg29 : ∀ i, i < 29 → g29 i = roF i := by rw [eg29]; exact rof_s hg28 rfl
  rw [← eg29] at hM
  clear eg29 hg28
  have f_md := hp_k (e := (.inl (ct 1, 72, .inl g29))) ne_md_qro f_md
  have f_qro : hp_up M29 qro (.inl (ct 1, 72, .inl g29)) qro = some (.inl (ct 1, 72, .inl g29)) := hp_us
  obtain ⟨M30, eM30⟩ : ∃ z, z = hp_up M29 qro (.inl (ct 1, 72, .inl g29)) := ⟨_, rfl⟩
  rw [← eM30] at hM f_md f_qro
  refine lv_dup hx hb d_MD_init_177 rfl ?_
  refine lv_bipush (v := nI 29) hx hb d_MD_init_178 rfl ?_
  refine lv_ldc (v := -710438585) hx hb S.2.2.2.1 (S.2.2.2.2 _ mq_MD_36) d_MD_init_180 ?_
  refine hp_iast S hK hM hS 1 f_qro rfl 29 rfl (by decide) (by decide) d_MD_init_182 (fun H locs hM hS => ?_)
  obtain ⟨g30, eg30⟩ : ∃ z, z = upd g29 29 (-710438585) := ⟨_, rfl⟩
  have hg30 : ∀ i, i < 30 → g30 i = roF i := by rw [eg30]; exact rof_s hg29 rfl
  rw [← eg30] at hM
  clear eg30 hg29
  have f_md := hp_k (e := (.inl (ct 1, 72, .inl g30))) ne_md_qro f_md
  have f_qro : hp_up M30 qro (.inl (ct 1, 72, .inl g30)) qro = some (.inl (ct 1, 72, .inl g30)) := hp_us
  obtain ⟨M31, eM31⟩ : ∃ z, z = hp_up M30 qro (.inl (ct 1, 72, .inl g30)) := ⟨_, rfl⟩
  rw [← eM31] at hM f_md f_qro
  refine lv_dup hx hb d_MD_init_183 rfl ?_
  refine lv_bipush (v := nI 30) hx hb d_MD_init_184 rfl ?_
  refine lv_ldc (v := 113926993) hx hb S.2.2.2.1 (S.2.2.2.2 _ mq_MD_37) d_MD_init_186 ?_
  refine hp_iast S hK hM hS 1 f_qro rfl 30 rfl (by decide) (by decide) d_MD_init_188 (fun H locs hM hS => ?_)
  obtain ⟨g31, eg31⟩ : ∃ z, z = upd g30 30 (113926993) := ⟨_, rfl⟩
  have hg31 : ∀ i, i < 31 → g31 i = roF i := by rw [eg31]; exact rof_s hg30 rfl
  rw [← eg31] at hM
  clear eg31 hg30
  have f_md := hp_k (e := (.inl (ct 1, 72, .inl g31))) ne_md_qro f_md
  have f_qro : hp_up M31 qro (.inl (ct 1, 72, .inl g31)) qro = some (.inl (ct 1, 72, .inl g31)) := hp_us
  obtain ⟨M32, eM32⟩ : ∃ z, z = hp_up M31 qro (.inl (ct 1, 72, .inl g31)) := ⟨_, rfl⟩
  rw [← eM32] at hM f_md f_qro
  refine lv_dup hx hb d_MD_init_189 rfl ?_
  refine lv_bipush (v := nI 31) hx hb d_MD_init_190 rfl ?_
  refine lv_ldc (v := 338241895) hx hb S.2.2.2.1 (S.2.2.2.2 _ mq_MD_38) d_MD_init_192 ?_
  refine hp_iast S hK hM hS 1 f_qro rfl 31 rfl (by decide) (by decide) d_MD_init_194 (fun H locs hM hS => ?_)
  obtain ⟨g32, eg32⟩ : ∃ z, z = upd g31 31 (338241895) := ⟨_, rfl⟩
  have hg32 : ∀ i, i < 32 → g32 i = roF i := by rw [eg32]; exact rof_s hg31 rfl
  rw [← eg32] at hM
  clear eg32 hg31
  have f_md := hp_k (e := (.inl (ct 1, 72, .inl g32))) ne_md_qro f_md
  have f_qro : hp_up M32 qro (.inl (ct 1, 72, .inl g32)) qro = some (.inl (ct 1, 72, .inl g32)) := hp_us
  obtain ⟨M33, eM33⟩ : ∃ z, z = hp_up M32 qro (.inl (ct 1, 72, .inl g32)) := ⟨_, rfl⟩
  rw [← eM33] at hM f_md f_qro
  refine lv_dup hx hb d_MD_init_195 rfl ?_
  refine lv_bipush (v := nI 32) hx hb d_MD_init_196 rfl ?_
  refine lv_ldc (v := 666307205) hx hb S.2.2.2.1 (S.2.2.2.2 _ mq_MD_39) d_MD_init_198 ?_
  refine hp_iast S hK hM hS 1 f_qro rfl 32 rfl (by decide) (by decide) d_MD_init_200 (fun H locs hM hS => ?_)
  obtain ⟨g33, eg33⟩ : ∃ z, z = upd g32 32 (666307205) := ⟨_, rfl⟩
  have hg33 : ∀ i, i < 33 → g33 i = roF i := by rw [eg33]; exact rof_s hg32 rfl
  rw [← eg33] at hM
  clear eg33 hg32
  have f_md := hp_k (e := (.inl (ct 1, 72, .inl g33))) ne_md_qro f_md
  have f_qro : hp_up M33 qro (.inl (ct 1, 72, .inl g33)) qro = some (.inl (ct 1, 72, .inl g33)) := hp_us
  obtain ⟨M34, eM34⟩ : ∃ z, z = hp_up M33 qro (.inl (ct 1, 72, .inl g33)) := ⟨_, rfl⟩
  rw [← eM34] at hM f_md f_qro
  refine lv_dup hx hb d_MD_init_201 rfl ?_
  refine lv_bipush (v := nI 33) hx hb d_MD_init_202 rfl ?_
  refine lv_ldc (v := 773529912) hx hb S.2.2.2.1 (S.2.2.2.2 _ mq_MD_40) d_MD_init_204 ?_
  refine hp_iast S hK hM hS 1 f_qro rfl 33 rfl (by decide) (by decide) d_MD_init_206 (fun H locs hM hS => ?_)
  obtain ⟨g34, eg34⟩ : ∃ z, z = upd g33 33 (773529912) := ⟨_, rfl⟩
  have hg34 : ∀ i, i < 34 → g34 i = roF i := by rw [eg34]; exact rof_s hg33 rfl
  rw [← eg34] at hM
  clear eg34 hg33
  have f_md := hp_k (e := (.inl (ct 1, 72, .inl g34))) ne_md_qro f_md
  have f_qro : hp_up M34 qro (.inl (ct 1, 72, .inl g34)) qro = some (.inl (ct 1, 72, .inl g34)) := hp_us
  obtain ⟨M35, eM35⟩ : ∃ z, z = hp_up M34 qro (.inl (ct 1, 72, .inl g34)) := ⟨_, rfl⟩
  rw [← eM35] at hM f_md f_qro
  refine lv_dup hx hb d_MD_init_207 rfl ?_
  refine lv_bipush (v := nI 34) hx hb d_MD_init_208 rfl ?_
  refine lv_ldc (v := 1294757372) hx hb S.2.2.2.1 (S.2.2.2.2 _ mq_MD_41) d_MD_init_210 ?_
  refine hp_iast S hK hM hS 1 f_qro rfl 34 rfl (by decide) (by decide) d_MD_init_212 (fun H locs hM hS => ?_)
  obtain ⟨g35, eg35⟩ : ∃ z, z = upd g34 34 (1294757372) := ⟨_, rfl⟩
  have hg35 : ∀ i, i < 35 → g35 i = roF i := by rw [eg35]; exact rof_s hg34 rfl
  rw [← eg35] at hM
  clear eg35 hg34
  have f_md := hp_k (e := (.inl (ct 1, 72, .inl g35))) ne_md_qro f_md
  have f_qro : hp_up M35 qro (.inl (ct 1, 72, .inl g35)) qro = some (.inl (ct 1, 72, .inl g35)) := hp_us
  obtain ⟨M36, eM36⟩ : ∃ z, z = hp_up M35 qro (.inl (ct 1, 72, .inl g35)) := ⟨_, rfl⟩
  rw [← eM36] at hM f_md f_qro
  refine lv_dup hx hb d_MD_init_213 rfl ?_
  refine lv_bipush (v := nI 35) hx hb d_MD_init_214 rfl ?_
  refine lv_ldc (v := 1396182291) hx hb S.2.2.2.1 (S.2.2.2.2 _ mq_MD_42) d_MD_init_216 ?_
  refine hp_iast S hK hM hS 1 f_qro rfl 35 rfl (by decide) (by decide) d_MD_init_218 (fun H locs hM hS => ?_)
  obtain ⟨g36, eg36⟩ : ∃ z, z = upd g35 35 (1396182291) := ⟨_, rfl⟩
  have hg36 : ∀ i, i < 36 → g36 i = roF i := by rw [eg36]; exact rof_s hg35 rfl
  rw [← eg36] at hM
  clear eg36 hg35
  have f_md := hp_k (e := (.inl (ct 1, 72, .inl g36))) ne_md_qro f_md
  have f_qro : hp_up M36 qro (.inl (ct 1, 72, .inl g36)) qro = some (.inl (ct 1, 72, .inl g36)) := hp_us
  obtain ⟨M37, eM37⟩ : ∃ z, z = hp_up M36 qro (.inl (ct 1, 72, .inl g36)) := ⟨_, rfl⟩
  rw [← eM37] at hM f_md f_qro
  refine lv_dup hx hb d_MD_init_219 rfl ?_
  refine lv_bipush (v := nI 36) hx hb d_MD_init_220 rfl ?_
  refine lv_ldc (v := 1695183700) hx hb S.2.2.2.1 (S.2.2.2.2 _ mq_MD_43) d_MD_init_222 ?_
  refine hp_iast S hK hM hS 1 f_qro rfl 36 rfl (by decide) (by decide) d_MD_init_224 (fun H locs hM hS => ?_)
  obtain ⟨g37, eg37⟩ : ∃ z, z = upd g36 36 (1695183700) := ⟨_, rfl⟩
  have hg37 : ∀ i, i < 37 → g37 i = roF i := by rw [eg37]; exact rof_s hg36 rfl
  rw [← eg37] at hM
  clear eg37 hg36
  have f_md := hp_k (e := (.inl (ct 1, 72, .inl g37))) ne_md_qro f_md
  have f_qro : hp_up M37 qro (.inl (ct 1, 72, .inl g37)) qro = some (.inl (ct 1, 72, .inl g37)) := hp_us
  obtain ⟨M38, eM38⟩ : ∃ z, z = hp_up M37 qro (.inl (ct 1, 72, .inl g37)) := ⟨_, rfl⟩
  rw [← eM38] at hM f_md f_qro
  refine lv_dup hx hb d_MD_init_225 rfl ?_
  refine lv_bipush (v := nI 37) hx hb d_MD_init_226 rfl ?_
  refine lv_ldc (v := 1986661051) hx hb S.2.2.2.1 (S.2.2.2.2 _ mq_MD_44) d_MD_init_228 ?_
  refine hp_iast S hK hM hS 1 f_qro rfl 37 rfl (by decide) (by decide) d_MD_init_230 (fun H locs hM hS => ?_)
  obtain ⟨g38, eg38⟩ : ∃ z, z = upd g37 37 (1986661051) := ⟨_, rfl⟩
  have hg38 : ∀ i, i < 38 → g38 i = roF i := by rw [eg38]; exact rof_s hg37 rfl
  rw [← eg38] at hM
  clear eg38 hg37
  have f_md := hp_k (e := (.inl (ct 1, 72, .inl g38))) ne_md_qro f_md
  have f_qro : hp_up M38 qro (.inl (ct 1, 72, .inl g38)) qro = some (.inl (ct 1, 72, .inl g38)) := hp_us
  obtain ⟨M39, eM39⟩ : ∃ z, z = hp_up M38 qro (.inl (ct 1, 72, .inl g38)) := ⟨_, rfl⟩
  rw [← eM39] at hM f_md f_qro
  refine lv_dup hx hb d_MD_init_231 rfl ?_
  refine lv_bipush (v := nI 38) hx hb d_MD_init_232 rfl ?_
  refine lv_ldc (v := -2117940946) hx hb S.2.2.2.1 (S.2.2.2.2 _ mq_MD_45) d_MD_init_234 ?_
  refine hp_iast S hK hM hS 1 f_qro rfl 38 rfl (by decide) (by decide) d_MD_init_236 (fun H locs hM hS => ?_)
  obtain ⟨g39, eg39⟩ : ∃ z, z = upd g38 38 (-2117940946) := ⟨_, rfl⟩
  have hg39 : ∀ i, i < 39 → g39 i = roF i := by rw [eg39]; exact rof_s hg38 rfl
  rw [← eg39] at hM
  clear eg39 hg38
  have f_md := hp_k (e := (.inl (ct 1, 72, .inl g39))) ne_md_qro f_md
  have f_qro : hp_up M39 qro (.inl (ct 1, 72, .inl g39)) qro = some (.inl (ct 1, 72, .inl g39)) := hp_us
  obtain ⟨M40, eM40⟩ : ∃ z, z = hp_up M39 qro (.inl (ct 1, 72, .inl g39)) := ⟨_, rfl⟩
  rw [← eM40] at hM f_md f_qro
  refine lv_dup hx hb d_MD_init_237 rfl ?_
  refine lv_bipush (v := nI 39) hx hb d_MD_init_238 rfl ?_
  refine lv_ldc (v := -1838011259) hx hb S.2.2.2.1 (S.2.2.2.2 _ mq_MD_46) d_MD_init_240 ?_
  refine hp_iast S hK hM hS 1 f_qro rfl 39 rfl (by decide) (by decide) d_MD_init_242 (fun H locs hM hS => ?_)
  obtain ⟨g40, eg40⟩ : ∃ z, z = upd g39 39 (-1838011259) := ⟨_, rfl⟩
  have hg40 : ∀ i, i < 40 → g40 i = roF i := by rw [eg40]; exact rof_s hg39 rfl
  rw [← eg40] at hM
  clear eg40 hg39
  have f_md := hp_k (e := (.inl (ct 1, 72, .inl g40))) ne_md_qro f_md
  have f_qro : hp_up M40 qro (.inl (ct 1, 72, .inl g40)) qro = some (.inl (ct 1, 72, .inl g40)) := hp_us
  obtain ⟨M41, eM41⟩ : ∃ z, z = hp_up M40 qro (.inl (ct 1, 72, .inl g40)) := ⟨_, rfl⟩
  rw [← eM41] at hM f_md f_qro
  refine lv_dup hx hb d_MD_init_243 rfl ?_
  refine lv_bipush (v := nI 40) hx hb d_MD_init_244 rfl ?_
  refine lv_ldc (v := -1564481375) hx hb S.2.2.2.1 (S.2.2.2.2 _ mq_MD_47) d_MD_init_246 ?_
  refine hp_iast S hK hM hS 1 f_qro rfl 40 rfl (by decide) (by decide) d_MD_init_248 (fun H locs hM hS => ?_)
  obtain ⟨g41, eg41⟩ : ∃ z, z = upd g40 40 (-1564481375) := ⟨_, rfl⟩
  have hg41 : ∀ i, i < 41 → g41 i = roF i := by rw [eg41]; exact rof_s hg40 rfl
  rw [← eg41] at hM
  clear eg41 hg40
  have f_md := hp_k (e := (.inl (ct 1, 72, .inl g41))) ne_md_qro f_md
  have f_qro : hp_up M41 qro (.inl (ct 1, 72, .inl g41)) qro = some (.inl (ct 1, 72, .inl g41)) := hp_us
  obtain ⟨M42, eM42⟩ : ∃ z, z = hp_up M41 qro (.inl (ct 1, 72, .inl g41)) := ⟨_, rfl⟩
  rw [← eM42] at hM f_md f_qro
  refine lv_dup hx hb d_MD_init_249 rfl ?_
  refine lv_bipush (v := nI 41) hx hb d_MD_init_250 rfl ?_
  refine lv_ldc (v := -1474664885) hx hb S.2.2.2.1 (S.2.2.2.2 _ mq_MD_48) d_MD_init_252 ?_
  refine hp_iast S hK hM hS 1 f_qro rfl 41 rfl (by decide) (by decide) d_MD_init_254 (fun H locs hM hS => ?_)
  obtain ⟨g42, eg42⟩ : ∃ z, z = upd g41 41 (-1474664885) := ⟨_, rfl⟩
  have hg42 : ∀ i, i < 42 → g42 i = roF i := by rw [eg42]; exact rof_s hg41 rfl
  rw [← eg42] at hM
  clear eg42 hg41
  have f_md := hp_k (e := (.inl (ct 1, 72, .inl g42))) ne_md_qro f_md
  have f_qro : hp_up M42 qro (.inl (ct 1, 72, .inl g42)) qro = some (.inl (ct 1, 72, .inl g42)) := hp_us
  obtain ⟨M43, eM43⟩ : ∃ z, z = hp_up M42 qro (.inl (ct 1, 72, .inl g42)) := ⟨_, rfl⟩
  rw [← eM43] at hM f_md f_qro
  refine lv_dup hx hb d_MD_init_255 rfl ?_
  refine lv_bipush (v := nI 42) hx hb d_MD_init_256 rfl ?_
  refine lv_ldc (v := -1035236496) hx hb S.2.2.2.1 (S.2.2.2.2 _ mq_MD_49) d_MD_init_258 ?_
  refine hp_iast S hK hM hS 1 f_qro rfl 42 rfl (by decide) (by decide) d_MD_init_260 (fun H locs hM hS => ?_)
  obtain ⟨g43, eg43⟩ : ∃ z, z = upd g42 42 (-1035236496) := ⟨_, rfl⟩
  have hg43 : ∀ i, i < 43 → g43 i = roF i := by rw [eg43]; exact rof_s hg42 rfl
  rw [← eg43] at hM
  clear eg43 hg42
  have f_md := hp_k (e := (.inl (ct 1, 72, .inl g43))) ne_md_qro f_md
  have f_qro : hp_up M43 qro (.inl (ct 1, 72, .inl g43)) qro = some (.inl (ct 1, 72, .inl g43)) := hp_us
  obtain ⟨M44, eM44⟩ : ∃ z, z = hp_up M43 qro (.inl (ct 1, 72, .inl g43)) := ⟨_, rfl⟩
  rw [← eM44] at hM f_md f_qro
  refine lv_dup hx hb d_MD_init_261 rfl ?_
  refine lv_bipush (v := nI 43) hx hb d_MD_init_262 rfl ?_
  refine lv_ldc (v := -949202525) hx hb S.2.2.2.1 (S.2.2.2.2 _ mq_MD_50) d_MD_init_264 ?_
  refine hp_iast S hK hM hS 1 f_qro rfl 43 rfl (by decide) (by decide) d_MD_init_266 (fun H locs hM hS => ?_)
  obtain ⟨g44, eg44⟩ : ∃ z, z = upd g43 43 (-949202525) := ⟨_, rfl⟩
  have hg44 : ∀ i, i < 44 → g44 i = roF i := by rw [eg44]; exact rof_s hg43 rfl
  rw [← eg44] at hM
  clear eg44 hg43
  have f_md := hp_k (e := (.inl (ct 1, 72, .inl g44))) ne_md_qro f_md
  have f_qro : hp_up M44 qro (.inl (ct 1, 72, .inl g44)) qro = some (.inl (ct 1, 72, .inl g44)) := hp_us
  obtain ⟨M45, eM45⟩ : ∃ z, z = hp_up M44 qro (.inl (ct 1, 72, .inl g44)) := ⟨_, rfl⟩
  rw [← eM45] at hM f_md f_qro
  refine lv_dup hx hb d_MD_init_267 rfl ?_
  refine lv_bipush (v := nI 44) hx hb d_MD_init_268 rfl ?_
  refine lv_ldc (v := -778901479) hx hb S.2.2.2.1 (S.2.2.2.2 _ mq_MD_51) d_MD_init_270 ?_
  refine hp_iast S hK hM hS 1 f_qro rfl 44 rfl (by decide) (by decide) d_MD_init_272 (fun H locs hM hS => ?_)
  obtain ⟨g45, eg45⟩ : ∃ z, z = upd g44 44 (-778901479) := ⟨_, rfl⟩
  have hg45 : ∀ i, i < 45 → g45 i = roF i := by rw [eg45]; exact rof_s hg44 rfl
  rw [← eg45] at hM
  clear eg45 hg44
  have f_md := hp_k (e := (.inl (ct 1, 72, .inl g45))) ne_md_qro f_md
  have f_qro : hp_up M45 qro (.inl (ct 1, 72, .inl g45)) qro = some (.inl (ct 1, 72, .inl g45)) := hp_us
  obtain ⟨M46, eM46⟩ : ∃ z, z = hp_up M45 qro (.inl (ct 1, 72, .inl g45)) := ⟨_, rfl⟩
  rw [← eM46] at hM f_md f_qro
  refine lv_dup hx hb d_MD_init_273 rfl ?_
  refine lv_bipush (v := nI 45) hx hb d_MD_init_274 rfl ?_
  refine lv_ldc (v := -694614492) hx hb S.2.2.2.1 (S.2.2.2.2 _ mq_MD_52) d_MD_init_276 ?_
  refine hp_iast S hK hM hS 1 f_qro rfl 45 rfl (by decide) (by decide) d_MD_init_278 (fun H locs hM hS => ?_)
  obtain ⟨g46, eg46⟩ : ∃ z, z = upd g45 45 (-694614492) := ⟨_, rfl⟩
  have hg46 : ∀ i, i < 46 → g46 i = roF i := by rw [eg46]; exact rof_s hg45 rfl
  rw [← eg46] at hM
  clear eg46 hg45
  have f_md := hp_k (e := (.inl (ct 1, 72, .inl g46))) ne_md_qro f_md
  have f_qro : hp_up M46 qro (.inl (ct 1, 72, .inl g46)) qro = some (.inl (ct 1, 72, .inl g46)) := hp_us
  obtain ⟨M47, eM47⟩ : ∃ z, z = hp_up M46 qro (.inl (ct 1, 72, .inl g46)) := ⟨_, rfl⟩
  rw [← eM47] at hM f_md f_qro
  refine lv_dup hx hb d_MD_init_279 rfl ?_
  refine lv_bipush (v := nI 46) hx hb d_MD_init_280 rfl ?_
  refine lv_ldc (v := -200395387) hx hb S.2.2.2.1 (S.2.2.2.2 _ mq_MD_53) d_MD_init_282 ?_
  refine hp_iast S hK hM hS 1 f_qro rfl 46 rfl (by decide) (by decide) d_MD_init_284 (fun H locs hM hS => ?_)
  obtain ⟨g47, eg47⟩ : ∃ z, z = upd g46 46 (-200395387) := ⟨_, rfl⟩
  have hg47 : ∀ i, i < 47 → g47 i = roF i := by rw [eg47]; exact rof_s hg46 rfl
  rw [← eg47] at hM
  clear eg47 hg46
  have f_md := hp_k (e := (.inl (ct 1, 72, .inl g47))) ne_md_qro f_md
  have f_qro : hp_up M47 qro (.inl (ct 1, 72, .inl g47)) qro = some (.inl (ct 1, 72, .inl g47)) := hp_us
  obtain ⟨M48, eM48⟩ : ∃ z, z = hp_up M47 qro (.inl (ct 1, 72, .inl g47)) := ⟨_, rfl⟩
  rw [← eM48] at hM f_md f_qro
  refine lv_dup hx hb d_MD_init_285 rfl ?_
  refine lv_bipush (v := nI 47) hx hb d_MD_init_286 rfl ?_
  refine lv_ldc (v := 275423344) hx hb S.2.2.2.1 (S.2.2.2.2 _ mq_MD_54) d_MD_init_288 ?_
  refine hp_iast S hK hM hS 1 f_qro rfl 47 rfl (by decide) (by decide) d_MD_init_290 (fun H locs hM hS => ?_)
  obtain ⟨g48, eg48⟩ : ∃ z, z = upd g47 47 (275423344) := ⟨_, rfl⟩
  have hg48 : ∀ i, i < 48 → g48 i = roF i := by rw [eg48]; exact rof_s hg47 rfl
  rw [← eg48] at hM
  clear eg48 hg47
  have f_md := hp_k (e := (.inl (ct 1, 72, .inl g48))) ne_md_qro f_md
  have f_qro : hp_up M48 qro (.inl (ct 1, 72, .inl g48)) qro = some (.inl (ct 1, 72, .inl g48)) := hp_us
  obtain ⟨M49, eM49⟩ : ∃ z, z = hp_up M48 qro (.inl (ct 1, 72, .inl g48)) := ⟨_, rfl⟩
  rw [← eM49] at hM f_md f_qro
  refine lv_dup hx hb d_MD_init_291 rfl ?_
  refine lv_bipush (v := nI 48) hx hb d_MD_init_292 rfl ?_
  refine lv_ldc (v := 430227734) hx hb S.2.2.2.1 (S.2.2.2.2 _ mq_MD_55) d_MD_init_294 ?_
  refine hp_iast S hK hM hS 1 f_qro rfl 48 rfl (by decide) (by decide) d_MD_init_296 (fun H locs hM hS => ?_)
  obtain ⟨g49, eg49⟩ : ∃ z, z = upd g48 48 (430227734) := ⟨_, rfl⟩
  have hg49 : ∀ i, i < 49 → g49 i = roF i := by rw [eg49]; exact rof_s hg48 rfl
  rw [← eg49] at hM
  clear eg49 hg48
  have f_md := hp_k (e := (.inl (ct 1, 72, .inl g49))) ne_md_qro f_md
  have f_qro : hp_up M49 qro (.inl (ct 1, 72, .inl g49)) qro = some (.inl (ct 1, 72, .inl g49)) := hp_us
  obtain ⟨M50, eM50⟩ : ∃ z, z = hp_up M49 qro (.inl (ct 1, 72, .inl g49)) := ⟨_, rfl⟩
  rw [← eM50] at hM f_md f_qro
  refine lv_dup hx hb d_MD_init_297 rfl ?_
  refine lv_bipush (v := nI 49) hx hb d_MD_init_298 rfl ?_
  refine lv_ldc (v := 506948616) hx hb S.2.2.2.1 (S.2.2.2.2 _ mq_MD_56) d_MD_init_300 ?_
  refine hp_iast S hK hM hS 1 f_qro rfl 49 rfl (by decide) (by decide) d_MD_init_302 (fun H locs hM hS => ?_)
  obtain ⟨g50, eg50⟩ : ∃ z, z = upd g49 49 (506948616) := ⟨_, rfl⟩
  have hg50 : ∀ i, i < 50 → g50 i = roF i := by rw [eg50]; exact rof_s hg49 rfl
  rw [← eg50] at hM
  clear eg50 hg49
  have f_md := hp_k (e := (.inl (ct 1, 72, .inl g50))) ne_md_qro f_md
  have f_qro : hp_up M50 qro (.inl (ct 1, 72, .inl g50)) qro = some (.inl (ct 1, 72, .inl g50)) := hp_us
  obtain ⟨M51, eM51⟩ : ∃ z, z = hp_up M50 qro (.inl (ct 1, 72, .inl g50)) := ⟨_, rfl⟩
  rw [← eM51] at hM f_md f_qro
  refine lv_dup hx hb d_MD_init_303 rfl ?_
  refine lv_bipush (v := nI 50) hx hb d_MD_init_304 rfl ?_
  refine lv_ldc (v := 659060556) hx hb S.2.2.2.1 (S.2.2.2.2 _ mq_MD_57) d_MD_init_306 ?_
  refine hp_iast S hK hM hS 1 f_qro rfl 50 rfl (by decide) (by decide) d_MD_init_308 (fun H locs hM hS => ?_)
  obtain ⟨g51, eg51⟩ : ∃ z, z = upd g50 50 (659060556) := ⟨_, rfl⟩
  have hg51 : ∀ i, i < 51 → g51 i = roF i := by rw [eg51]; exact rof_s hg50 rfl
  rw [← eg51] at hM
  clear eg51 hg50
  have f_md := hp_k (e := (.inl (ct 1, 72, .inl g51))) ne_md_qro f_md
  have f_qro : hp_up M51 qro (.inl (ct 1, 72, .inl g51)) qro = some (.inl (ct 1, 72, .inl g51)) := hp_us
  obtain ⟨M52, eM52⟩ : ∃ z, z = hp_up M51 qro (.inl (ct 1, 72, .inl g51)) := ⟨_, rfl⟩
  rw [← eM52] at hM f_md f_qro
  refine lv_dup hx hb d_MD_init_309 rfl ?_
  refine lv_bipush (v := nI 51) hx hb d_MD_init_310 rfl ?_
  refine lv_ldc (v := 883997877) hx hb S.2.2.2.1 (S.2.2.2.2 _ mq_MD_58) d_MD_init_312 ?_
  refine hp_iast S hK hM hS 1 f_qro rfl 51 rfl (by decide) (by decide) d_MD_init_314 (fun H locs hM hS => ?_)
  obtain ⟨g52, eg52⟩ : ∃ z, z = upd g51 51 (883997877) := ⟨_, rfl⟩
  have hg52 : ∀ i, i < 52 → g52 i = roF i := by rw [eg52]; exact rof_s hg51 rfl
  rw [← eg52] at hM
  clear eg52 hg51
  have f_md := hp_k (e := (.inl (ct 1, 72, .inl g52))) ne_md_qro f_md
  have f_qro : hp_up M52 qro (.inl (ct 1, 72, .inl g52)) qro = some (.inl (ct 1, 72, .inl g52)) := hp_us
  obtain ⟨M53, eM53⟩ : ∃ z, z = hp_up M52 qro (.inl (ct 1, 72, .inl g52)) := ⟨_, rfl⟩
  rw [← eM53] at hM f_md f_qro
  refine lv_dup hx hb d_MD_init_315 rfl ?_
  refine lv_bipush (v := nI 52) hx hb d_MD_init_316 rfl ?_
  refine lv_ldc (v := 958139571) hx hb S.2.2.2.1 (S.2.2.2.2 _ mq_MD_59) d_MD_init_318 ?_
  refine hp_iast S hK hM hS 1 f_qro rfl 52 rfl (by decide) (by decide) d_MD_init_320 (fun H locs hM hS => ?_)
  obtain ⟨g53, eg53⟩ : ∃ z, z = upd g52 52 (958139571) := ⟨_, rfl⟩
  have hg53 : ∀ i, i < 53 → g53 i = roF i := by rw [eg53]; exact rof_s hg52 rfl
  rw [← eg53] at hM
  clear eg53 hg52
  have f_md := hp_k (e := (.inl (ct 1, 72, .inl g53))) ne_md_qro f_md
  have f_qro : hp_up M53 qro (.inl (ct 1, 72, .inl g53)) qro = some (.inl (ct 1, 72, .inl g53)) := hp_us
  obtain ⟨M54, eM54⟩ : ∃ z, z = hp_up M53 qro (.inl (ct 1, 72, .inl g53)) := ⟨_, rfl⟩
  rw [← eM54] at hM f_md f_qro
  refine lv_dup hx hb d_MD_init_321 rfl ?_
  refine lv_bipush (v := nI 53) hx hb d_MD_init_322 rfl ?_
  refine lv_ldc (v := 1322822218) hx hb S.2.2.2.1 (S.2.2.2.2 _ mq_MD_60) d_MD_init_324 ?_
  refine hp_iast S hK hM hS 1 f_qro rfl 53 rfl (by decide) (by decide) d_MD_init_326 (fun H locs hM hS => ?_)
  obtain ⟨g54, eg54⟩ : ∃ z, z = upd g53 53 (1322822218) := ⟨_, rfl⟩
  have hg54 : ∀ i, i < 54 → g54 i = roF i := by rw [eg54]; exact rof_s hg53 rfl
  rw [← eg54] at hM
  clear eg54 hg53
  have f_md := hp_k (e := (.inl (ct 1, 72, .inl g54))) ne_md_qro f_md
  have f_qro : hp_up M54 qro (.inl (ct 1, 72, .inl g54)) qro = some (.inl (ct 1, 72, .inl g54)) := hp_us
  obtain ⟨M55, eM55⟩ : ∃ z, z = hp_up M54 qro (.inl (ct 1, 72, .inl g54)) := ⟨_, rfl⟩
  rw [← eM55] at hM f_md f_qro
  refine lv_dup hx hb d_MD_init_327 rfl ?_
  refine lv_bipush (v := nI 54) hx hb d_MD_init_328 rfl ?_
  refine lv_ldc (v := 1537002063) hx hb S.2.2.2.1 (S.2.2.2.2 _ mq_MD_61) d_MD_init_330 ?_
  refine hp_iast S hK hM hS 1 f_qro rfl 54 rfl (by decide) (by decide) d_MD_init_332 (fun H locs hM hS => ?_)
  obtain ⟨g55, eg55⟩ : ∃ z, z = upd g54 54 (1537002063) := ⟨_, rfl⟩
  have hg55 : ∀ i, i < 55 → g55 i = roF i := by rw [eg55]; exact rof_s hg54 rfl
  rw [← eg55] at hM
  clear eg55 hg54
  have f_md := hp_k (e := (.inl (ct 1, 72, .inl g55))) ne_md_qro f_md
  have f_qro : hp_up M55 qro (.inl (ct 1, 72, .inl g55)) qro = some (.inl (ct 1, 72, .inl g55)) := hp_us
  obtain ⟨M56, eM56⟩ : ∃ z, z = hp_up M55 qro (.inl (ct 1, 72, .inl g55)) := ⟨_, rfl⟩
  rw [← eM56] at hM f_md f_qro
  refine lv_dup hx hb d_MD_init_333 rfl ?_
  refine lv_bipush (v := nI 55) hx hb d_MD_init_334 rfl ?_
  refine lv_ldc (v := 1747873779) hx hb S.2.2.2.1 (S.2.2.2.2 _ mq_MD_62) d_MD_init_336 ?_
  refine hp_iast S hK hM hS 1 f_qro rfl 55 rfl (by decide) (by decide) d_MD_init_338 (fun H locs hM hS => ?_)
  obtain ⟨g56, eg56⟩ : ∃ z, z = upd g55 55 (1747873779) := ⟨_, rfl⟩
  have hg56 : ∀ i, i < 56 → g56 i = roF i := by rw [eg56]; exact rof_s hg55 rfl
  rw [← eg56] at hM
  clear eg56 hg55
  have f_md := hp_k (e := (.inl (ct 1, 72, .inl g56))) ne_md_qro f_md
  have f_qro : hp_up M56 qro (.inl (ct 1, 72, .inl g56)) qro = some (.inl (ct 1, 72, .inl g56)) := hp_us
  obtain ⟨M57, eM57⟩ : ∃ z, z = hp_up M56 qro (.inl (ct 1, 72, .inl g56)) := ⟨_, rfl⟩
  rw [← eM57] at hM f_md f_qro
  refine lv_dup hx hb d_MD_init_339 rfl ?_
  refine lv_bipush (v := nI 56) hx hb d_MD_init_340 rfl ?_
  refine lv_ldc (v := 1955562222) hx hb S.2.2.2.1 (S.2.2.2.2 _ mq_MD_63) d_MD_init_342 ?_
  refine hp_iast S hK hM hS 1 f_qro rfl 56 rfl (by decide) (by decide) d_MD_init_344 (fun H locs hM hS => ?_)
  obtain ⟨g57, eg57⟩ : ∃ z, z = upd g56 56 (1955562222) := ⟨_, rfl⟩
  have hg57 : ∀ i, i < 57 → g57 i = roF i := by rw [eg57]; exact rof_s hg56 rfl
  rw [← eg57] at hM
  clear eg57 hg56
  have f_md := hp_k (e := (.inl (ct 1, 72, .inl g57))) ne_md_qro f_md
  have f_qro : hp_up M57 qro (.inl (ct 1, 72, .inl g57)) qro = some (.inl (ct 1, 72, .inl g57)) := hp_us
  obtain ⟨M58, eM58⟩ : ∃ z, z = hp_up M57 qro (.inl (ct 1, 72, .inl g57)) := ⟨_, rfl⟩
  rw [← eM58] at hM f_md f_qro
  refine lv_dup hx hb d_MD_init_345 rfl ?_
  refine lv_bipush (v := nI 57) hx hb d_MD_init_346 rfl ?_
  refine lv_ldc (v := 2024104815) hx hb S.2.2.2.1 (S.2.2.2.2 _ mq_MD_64) d_MD_init_348 ?_
  refine hp_iast S hK hM hS 1 f_qro rfl 57 rfl (by decide) (by decide) d_MD_init_350 (fun H locs hM hS => ?_)
  obtain ⟨g58, eg58⟩ : ∃ z, z = upd g57 57 (2024104815) := ⟨_, rfl⟩
  have hg58 : ∀ i, i < 58 → g58 i = roF i := by rw [eg58]; exact rof_s hg57 rfl
  rw [← eg58] at hM
  clear eg58 hg57
  have f_md := hp_k (e := (.inl (ct 1, 72, .inl g58))) ne_md_qro f_md
  have f_qro : hp_up M58 qro (.inl (ct 1, 72, .inl g58)) qro = some (.inl (ct 1, 72, .inl g58)) := hp_us
  obtain ⟨M59, eM59⟩ : ∃ z, z = hp_up M58 qro (.inl (ct 1, 72, .inl g58)) := ⟨_, rfl⟩
  rw [← eM59] at hM f_md f_qro
  refine lv_dup hx hb d_MD_init_351 rfl ?_
  refine lv_bipush (v := nI 58) hx hb d_MD_init_352 rfl ?_
  refine lv_ldc (v := -2067236844) hx hb S.2.2.2.1 (S.2.2.2.2 _ mq_MD_65) d_MD_init_354 ?_
  refine hp_iast S hK hM hS 1 f_qro rfl 58 rfl (by decide) (by decide) d_MD_init_356 (fun H locs hM hS => ?_)
  obtain ⟨g59, eg59⟩ : ∃ z, z = upd g58 58 (-2067236844) := ⟨_, rfl⟩
  have hg59 : ∀ i, i < 59 → g59 i = roF i := by rw [eg59]; exact rof_s hg58 rfl
  rw [← eg59] at hM
  clear eg59 hg58
  have f_md := hp_k (e := (.inl (ct 1, 72, .inl g59))) ne_md_qro f_md
  have f_qro : hp_up M59 qro (.inl (ct 1, 72, .inl g59)) qro = some (.inl (ct 1, 72, .inl g59)) := hp_us
  obtain ⟨M60, eM60⟩ : ∃ z, z = hp_up M59 qro (.inl (ct 1, 72, .inl g59)) := ⟨_, rfl⟩
  rw [← eM60] at hM f_md f_qro
  refine lv_dup hx hb d_MD_init_357 rfl ?_
  refine lv_bipush (v := nI 59) hx hb d_MD_init_358 rfl ?_
  refine lv_ldc (v := -1933114872) hx hb S.2.2.2.1 (S.2.2.2.2 _ mq_MD_66) d_MD_init_360 ?_
  refine hp_iast S hK hM hS 1 f_qro rfl 59 rfl (by decide) (by decide) d_MD_init_362 (fun H locs hM hS => ?_)
  obtain ⟨g60, eg60⟩ : ∃ z, z = upd g59 59 (-1933114872) := ⟨_, rfl⟩
  have hg60 : ∀ i, i < 60 → g60 i = roF i := by rw [eg60]; exact rof_s hg59 rfl
  rw [← eg60] at hM
  clear eg60 hg59
  have f_md := hp_k (e := (.inl (ct 1, 72, .inl g60))) ne_md_qro f_md
  have f_qro : hp_up M60 qro (.inl (ct 1, 72, .inl g60)) qro = some (.inl (ct 1, 72, .inl g60)) := hp_us
  obtain ⟨M61, eM61⟩ : ∃ z, z = hp_up M60 qro (.inl (ct 1, 72, .inl g60)) := ⟨_, rfl⟩
  rw [← eM61] at hM f_md f_qro
  refine lv_dup hx hb d_MD_init_363 rfl ?_
  refine lv_bipush (v := nI 60) hx hb d_MD_init_364 rfl ?_
  refine lv_ldc (v := -1866530822) hx hb S.2.2.2.1 (S.2.2.2.2 _ mq_MD_67) d_MD_init_366 ?_
  refine hp_iast S hK hM hS 1 f_qro rfl 60 rfl (by decide) (by decide) d_MD_init_368 (fun H locs hM hS => ?_)
  obtain ⟨g61, eg61⟩ : ∃ z, z = upd g60 60 (-1866530822) := ⟨_, rfl⟩
  have hg61 : ∀ i, i < 61 → g61 i = roF i := by rw [eg61]; exact rof_s hg60 rfl
  rw [← eg61] at hM
  clear eg61 hg60
  have f_md := hp_k (e := (.inl (ct 1, 72, .inl g61))) ne_md_qro f_md
  have f_qro : hp_up M61 qro (.inl (ct 1, 72, .inl g61)) qro = some (.inl (ct 1, 72, .inl g61)) := hp_us
  obtain ⟨M62, eM62⟩ : ∃ z, z = hp_up M61 qro (.inl (ct 1, 72, .inl g61)) := ⟨_, rfl⟩
  rw [← eM62] at hM f_md f_qro
  refine lv_dup hx hb d_MD_init_369 rfl ?_
  refine lv_bipush (v := nI 61) hx hb d_MD_init_370 rfl ?_
  refine lv_ldc (v := -1538233109) hx hb S.2.2.2.1 (S.2.2.2.2 _ mq_MD_68) d_MD_init_372 ?_
  refine hp_iast S hK hM hS 1 f_qro rfl 61 rfl (by decide) (by decide) d_MD_init_374 (fun H locs hM hS => ?_)
  obtain ⟨g62, eg62⟩ : ∃ z, z = upd g61 61 (-1538233109) := ⟨_, rfl⟩
  have hg62 : ∀ i, i < 62 → g62 i = roF i := by rw [eg62]; exact rof_s hg61 rfl
  rw [← eg62] at hM
  clear eg62 hg61
  have f_md := hp_k (e := (.inl (ct 1, 72, .inl g62))) ne_md_qro f_md
  have f_qro : hp_up M62 qro (.inl (ct 1, 72, .inl g62)) qro = some (.inl (ct 1, 72, .inl g62)) := hp_us
  obtain ⟨M63, eM63⟩ : ∃ z, z = hp_up M62 qro (.inl (ct 1, 72, .inl g62)) := ⟨_, rfl⟩
  rw [← eM63] at hM f_md f_qro
  refine lv_dup hx hb d_MD_init_375 rfl ?_
  refine lv_bipush (v := nI 62) hx hb d_MD_init_376 rfl ?_
  refine lv_ldc (v := -1090935817) hx hb S.2.2.2.1 (S.2.2.2.2 _ mq_MD_69) d_MD_init_378 ?_
  refine hp_iast S hK hM hS 1 f_qro rfl 62 rfl (by decide) (by decide) d_MD_init_380 (fun H locs hM hS => ?_)
  obtain ⟨g63, eg63⟩ : ∃ z, z = upd g62 62 (-1090935817) := ⟨_, rfl⟩
  have hg63 : ∀ i, i < 63 → g63 i = roF i := by rw [eg63]; exact rof_s hg62 rfl
  rw [← eg63] at hM
  clear eg63 hg62
  have f_md := hp_k (e := (.inl (ct 1, 72, .inl g63))) ne_md_qro f_md
  have f_qro : hp_up M63 qro (.inl (ct 1, 72, .inl g63)) qro = some (.inl (ct 1, 72, .inl g63)) := hp_us
  obtain ⟨M64, eM64⟩ : ∃ z, z = hp_up M63 qro (.inl (ct 1, 72, .inl g63)) := ⟨_, rfl⟩
  rw [← eM64] at hM f_md f_qro
  refine lv_dup hx hb d_MD_init_381 rfl ?_
  refine lv_bipush (v := nI 63) hx hb d_MD_init_382 rfl ?_
  refine lv_ldc (v := -965641998) hx hb S.2.2.2.1 (S.2.2.2.2 _ mq_MD_70) d_MD_init_384 ?_
  refine hp_iast S hK hM hS 1 f_qro rfl 63 rfl (by decide) (by decide) d_MD_init_386 (fun H locs hM hS => ?_)
  obtain ⟨g64, eg64⟩ : ∃ z, z = upd g63 63 (-965641998) := ⟨_, rfl⟩
  have hg64 : ∀ i, i < 64 → g64 i = roF i := by rw [eg64]; exact rof_s hg63 rfl
  rw [← eg64] at hM
  clear eg64 hg63
  have f_md := hp_k (e := (.inl (ct 1, 72, .inl g64))) ne_md_qro f_md
  have f_qro : hp_up M64 qro (.inl (ct 1, 72, .inl g64)) qro = some (.inl (ct 1, 72, .inl g64)) := hp_us
  obtain ⟨M65, eM65⟩ : ∃ z, z = hp_up M64 qro (.inl (ct 1, 72, .inl g64)) := ⟨_, rfl⟩
  rw [← eM65] at hM f_md f_qro
  refine lv_dup hx hb d_MD_init_387 rfl ?_
  refine lv_bipush (v := nI 64) hx hb d_MD_init_388 rfl ?_
  refine lv_ldc (v := 1779033703) hx hb S.2.2.2.1 (S.2.2.2.2 _ mq_MD_71) d_MD_init_390 ?_
  refine hp_iast S hK hM hS 1 f_qro rfl 64 rfl (by decide) (by decide) d_MD_init_392 (fun H locs hM hS => ?_)
  obtain ⟨g65, eg65⟩ : ∃ z, z = upd g64 64 (1779033703) := ⟨_, rfl⟩
  have hg65 : ∀ i, i < 65 → g65 i = roF i := by rw [eg65]; exact rof_s hg64 rfl
  rw [← eg65] at hM
  clear eg65 hg64
  have f_md := hp_k (e := (.inl (ct 1, 72, .inl g65))) ne_md_qro f_md
  have f_qro : hp_up M65 qro (.inl (ct 1, 72, .inl g65)) qro = some (.inl (ct 1, 72, .inl g65)) := hp_us
  obtain ⟨M66, eM66⟩ : ∃ z, z = hp_up M65 qro (.inl (ct 1, 72, .inl g65)) := ⟨_, rfl⟩
  rw [← eM66] at hM f_md f_qro
  refine lv_dup hx hb d_MD_init_393 rfl ?_
  refine lv_bipush (v := nI 65) hx hb d_MD_init_394 rfl ?_
  refine lv_ldc (v := -1150833019) hx hb S.2.2.2.1 (S.2.2.2.2 _ mq_MD_72) d_MD_init_396 ?_
  refine hp_iast S hK hM hS 1 f_qro rfl 65 rfl (by decide) (by decide) d_MD_init_398 (fun H locs hM hS => ?_)
  obtain ⟨g66, eg66⟩ : ∃ z, z = upd g65 65 (-1150833019) := ⟨_, rfl⟩
  have hg66 : ∀ i, i < 66 → g66 i = roF i := by rw [eg66]; exact rof_s hg65 rfl
  rw [← eg66] at hM
  clear eg66 hg65
  have f_md := hp_k (e := (.inl (ct 1, 72, .inl g66))) ne_md_qro f_md
  have f_qro : hp_up M66 qro (.inl (ct 1, 72, .inl g66)) qro = some (.inl (ct 1, 72, .inl g66)) := hp_us
  obtain ⟨M67, eM67⟩ : ∃ z, z = hp_up M66 qro (.inl (ct 1, 72, .inl g66)) := ⟨_, rfl⟩
  rw [← eM67] at hM f_md f_qro
  refine lv_dup hx hb d_MD_init_399 rfl ?_
  refine lv_bipush (v := nI 66) hx hb d_MD_init_400 rfl ?_
  refine lv_ldc (v := 1013904242) hx hb S.2.2.2.1 (S.2.2.2.2 _ mq_MD_73) d_MD_init_402 ?_
  refine hp_iast S hK hM hS 1 f_qro rfl 66 rfl (by decide) (by decide) d_MD_init_404 (fun H locs hM hS => ?_)
  obtain ⟨g67, eg67⟩ : ∃ z, z = upd g66 66 (1013904242) := ⟨_, rfl⟩
  have hg67 : ∀ i, i < 67 → g67 i = roF i := by rw [eg67]; exact rof_s hg66 rfl
  rw [← eg67] at hM
  clear eg67 hg66
  have f_md := hp_k (e := (.inl (ct 1, 72, .inl g67))) ne_md_qro f_md
  have f_qro : hp_up M67 qro (.inl (ct 1, 72, .inl g67)) qro = some (.inl (ct 1, 72, .inl g67)) := hp_us
  obtain ⟨M68, eM68⟩ : ∃ z, z = hp_up M67 qro (.inl (ct 1, 72, .inl g67)) := ⟨_, rfl⟩
  rw [← eM68] at hM f_md f_qro
  refine lv_dup hx hb d_MD_init_405 rfl ?_
  refine lv_bipush (v := nI 67) hx hb d_MD_init_406 rfl ?_
  refine lv_ldc (v := -1521486534) hx hb S.2.2.2.1 (S.2.2.2.2 _ mq_MD_74) d_MD_init_408 ?_
  refine hp_iast S hK hM hS 1 f_qro rfl 67 rfl (by decide) (by decide) d_MD_init_410 (fun H locs hM hS => ?_)
  obtain ⟨g68, eg68⟩ : ∃ z, z = upd g67 67 (-1521486534) := ⟨_, rfl⟩
  have hg68 : ∀ i, i < 68 → g68 i = roF i := by rw [eg68]; exact rof_s hg67 rfl
  rw [← eg68] at hM
  clear eg68 hg67
  have f_md := hp_k (e := (.inl (ct 1, 72, .inl g68))) ne_md_qro f_md
  have f_qro : hp_up M68 qro (.inl (ct 1, 72, .inl g68)) qro = some (.inl (ct 1, 72, .inl g68)) := hp_us
  obtain ⟨M69, eM69⟩ : ∃ z, z = hp_up M68 qro (.inl (ct 1, 72, .inl g68)) := ⟨_, rfl⟩
  rw [← eM69] at hM f_md f_qro
  refine lv_dup hx hb d_MD_init_411 rfl ?_
  refine lv_bipush (v := nI 68) hx hb d_MD_init_412 rfl ?_
  refine lv_ldc (v := 1359893119) hx hb S.2.2.2.1 (S.2.2.2.2 _ mq_MD_75) d_MD_init_414 ?_
  refine hp_iast S hK hM hS 1 f_qro rfl 68 rfl (by decide) (by decide) d_MD_init_416 (fun H locs hM hS => ?_)
  obtain ⟨g69, eg69⟩ : ∃ z, z = upd g68 68 (1359893119) := ⟨_, rfl⟩
  have hg69 : ∀ i, i < 69 → g69 i = roF i := by rw [eg69]; exact rof_s hg68 rfl
  rw [← eg69] at hM
  clear eg69 hg68
  have f_md := hp_k (e := (.inl (ct 1, 72, .inl g69))) ne_md_qro f_md
  have f_qro : hp_up M69 qro (.inl (ct 1, 72, .inl g69)) qro = some (.inl (ct 1, 72, .inl g69)) := hp_us
  obtain ⟨M70, eM70⟩ : ∃ z, z = hp_up M69 qro (.inl (ct 1, 72, .inl g69)) := ⟨_, rfl⟩
  rw [← eM70] at hM f_md f_qro
  refine lv_dup hx hb d_MD_init_417 rfl ?_
  refine lv_bipush (v := nI 69) hx hb d_MD_init_418 rfl ?_
  refine lv_ldc (v := -1694144372) hx hb S.2.2.2.1 (S.2.2.2.2 _ mq_MD_76) d_MD_init_420 ?_
  refine hp_iast S hK hM hS 1 f_qro rfl 69 rfl (by decide) (by decide) d_MD_init_422 (fun H locs hM hS => ?_)
  obtain ⟨g70, eg70⟩ : ∃ z, z = upd g69 69 (-1694144372) := ⟨_, rfl⟩
  have hg70 : ∀ i, i < 70 → g70 i = roF i := by rw [eg70]; exact rof_s hg69 rfl
  rw [← eg70] at hM
  clear eg70 hg69
  have f_md := hp_k (e := (.inl (ct 1, 72, .inl g70))) ne_md_qro f_md
  have f_qro : hp_up M70 qro (.inl (ct 1, 72, .inl g70)) qro = some (.inl (ct 1, 72, .inl g70)) := hp_us
  obtain ⟨M71, eM71⟩ : ∃ z, z = hp_up M70 qro (.inl (ct 1, 72, .inl g70)) := ⟨_, rfl⟩
  rw [← eM71] at hM f_md f_qro
  refine lv_dup hx hb d_MD_init_423 rfl ?_
  refine lv_bipush (v := nI 70) hx hb d_MD_init_424 rfl ?_
  refine lv_ldc (v := 528734635) hx hb S.2.2.2.1 (S.2.2.2.2 _ mq_MD_77) d_MD_init_426 ?_
  refine hp_iast S hK hM hS 1 f_qro rfl 70 rfl (by decide) (by decide) d_MD_init_428 (fun H locs hM hS => ?_)
  obtain ⟨g71, eg71⟩ : ∃ z, z = upd g70 70 (528734635) := ⟨_, rfl⟩
  have hg71 : ∀ i, i < 71 → g71 i = roF i := by rw [eg71]; exact rof_s hg70 rfl
  rw [← eg71] at hM
  clear eg71 hg70
  have f_md := hp_k (e := (.inl (ct 1, 72, .inl g71))) ne_md_qro f_md
  have f_qro : hp_up M71 qro (.inl (ct 1, 72, .inl g71)) qro = some (.inl (ct 1, 72, .inl g71)) := hp_us
  obtain ⟨M72, eM72⟩ : ∃ z, z = hp_up M71 qro (.inl (ct 1, 72, .inl g71)) := ⟨_, rfl⟩
  rw [← eM72] at hM f_md f_qro
  refine lv_dup hx hb d_MD_init_429 rfl ?_
  refine lv_bipush (v := nI 71) hx hb d_MD_init_430 rfl ?_
  refine lv_ldc (v := 1541459225) hx hb S.2.2.2.1 (S.2.2.2.2 _ mq_MD_78) d_MD_init_432 ?_
  refine hp_iast S hK hM hS 1 f_qro rfl 71 rfl (by decide) (by decide) d_MD_init_434 (fun H locs hM hS => ?_)
  obtain ⟨g72, eg72⟩ : ∃ z, z = upd g71 71 (1541459225) := ⟨_, rfl⟩
  have hg72 : ∀ i, i < 72 → g72 i = roF i := by rw [eg72]; exact rof_s hg71 rfl
  rw [← eg72] at hM
  clear eg72 hg71
  have f_md := hp_k (e := (.inl (ct 1, 72, .inl g72))) ne_md_qro f_md
  have f_qro : hp_up M72 qro (.inl (ct 1, 72, .inl g72)) qro = some (.inl (ct 1, 72, .inl g72)) := hp_us
  obtain ⟨M73, eM73⟩ : ∃ z, z = hp_up M72 qro (.inl (ct 1, 72, .inl g72)) := ⟨_, rfl⟩
  rw [← eM73] at hM f_md f_qro
  replace hM := hM.cong f_qro (g := roF) (fun i hi => hg72 i hi)
  have f_md := hp_k (e := (.inl (ct 1, 72, .inl roF))) ne_md_qro f_md
  have f_qro : hp_up M73 qro (.inl (ct 1, 72, .inl roF)) qro = some (.inl (ct 1, 72, .inl roF)) := hp_us
  obtain ⟨M74, eM74⟩ : ∃ z, z = hp_up M73 qro (.inl (ct 1, 72, .inl roF)) := ⟨_, rfl⟩
  rw [← eM74] at hM f_md f_qro
  refine hp_putF (ty := (.array .int)) (fs' := [.ref qro, .int (nI 0), .null, .int (nI 0), .int (nI 0), .int (nI 0), .int (nI 0), .null, .null, .null, .null, .null, .null, .null, .null, .null, .null, .null, .int (nI 0), .null, .null, .null]) S hK hM hS i_MD t_MD to_MD n_MD f_md rfl 0 (by decide) mf_MD_79 (fun _ h9 => h9) rfl hnm rfl (by decide +kernel) rfl rfl (by simp) rfl d_MD_init_435 (fun H locs hM hS => ?_)
  have f_qro := hp_k (e := (.inr (6, [.ref qro, .int (nI 0), .null, .int (nI 0), .int (nI 0), .int (nI 0), .int (nI 0), .null, .null, .null, .null, .null, .null, .null, .null, .null, .null, .null, .int (nI 0), .null, .null, .null]))) (Ne.symm ne_md_qro) f_qro
  have f_md : hp_up M74 md (.inr (6, [.ref qro, .int (nI 0), .null, .int (nI 0), .int (nI 0), .int (nI 0), .int (nI 0), .null, .null, .null, .null, .null, .null, .null, .null, .null, .null, .null, .int (nI 0), .null, .null, .null])) md = some (.inr (6, [.ref qro, .int (nI 0), .null, .int (nI 0), .int (nI 0), .int (nI 0), .int (nI 0), .null, .null, .null, .null, .null, .null, .null, .null, .null, .null, .null, .int (nI 0), .null, .null, .null])) := hp_us
  obtain ⟨M75, eM75⟩ : ∃ z, z = hp_up M74 md (.inr (6, [.ref qro, .int (nI 0), .null, .int (nI 0), .int (nI 0), .int (nI 0), .int (nI 0), .null, .null, .null, .null, .null, .null, .null, .null, .null, .null, .null, .int (nI 0), .null, .null, .null])) := ⟨_, rfl⟩
  rw [← eM75] at hM f_md f_qro
  refine lv_aload_n hx hb d_MD_init_438 rfl (lv_at hl 0 rfl) ?_
  refine lv_bipush (v := nI 64) hx hb d_MD_init_439 rfl ?_
  refine hp_newi S hK hM hS hA (atype := .int) rfl ma_int 1 rfl rfl (by decide) 64 rfl (by omega) (by decide) (by decide) d_MD_init_441 (fun qte H hq_qte hM hS => ?_)
  refine W.widen (k := 2) (n := 136) (by omega) (by omega) ?_
  rw [nf_0] at hM
  have ne_md_qte : md ≠ qte := hp_nn f_md hq_qte
  have f_md := hp_k (e := (.inl (ct 1, 64, .inl (nf (fun _ => 0))))) ne_md_qte f_md
  have ne_qro_qte : qro ≠ qte := hp_nn f_qro hq_qte
  have f_qro := hp_k (e := (.inl (ct 1, 64, .inl (nf (fun _ => 0))))) ne_qro_qte f_qro
  have f_qte : hp_up M75 qte (.inl (ct 1, 64, .inl (nf (fun _ => 0)))) qte = some (.inl (ct 1, 64, .inl (nf (fun _ => 0)))) := hp_us
  obtain ⟨M76, eM76⟩ : ∃ z, z = hp_up M75 qte (.inl (ct 1, 64, .inl (nf (fun _ => 0)))) := ⟨_, rfl⟩
  rw [← eM76] at hM f_md f_qro f_qte
  refine hp_putF (ty := (.array .int)) (fs' := [.ref qro, .int (nI 0), .ref qte, .int (nI 0), .int (nI 0), .int (nI 0), .int (nI 0), .null, .null, .null, .null, .null, .null, .null, .null, .null, .null, .null, .int (nI 0), .null, .null, .null]) S hK hM hS i_MD t_MD to_MD n_MD f_md rfl 2 (by decide) mf_MD_85 (fun _ h9 => h9) rfl hnm rfl (by decide +kernel) rfl rfl (by simp) rfl d_MD_init_443 (fun H locs hM hS => ?_)
  have f_qro := hp_k (e := (.inr (6, [.ref qro, .int (nI 0), .ref qte, .int (nI 0), .int (nI 0), .int (nI 0), .int (nI 0), .null, .null, .null, .null, .null, .null, .null, .null, .null, .null, .null, .int (nI 0), .null, .null, .null]))) (Ne.symm ne_md_qro) f_qro
  have f_qte := hp_k (e := (.inr (6, [.ref qro, .int (nI 0), .ref qte, .int (nI 0), .int (nI 0), .int (nI 0), .int (nI 0), .null, .null, .null, .null, .null, .null, .null, .null, .null, .null, .null, .int (nI 0), .null, .null, .null]))) (Ne.symm ne_md_qte) f_qte
  have f_md : hp_up M76 md (.inr (6, [.ref qro, .int (nI 0), .ref qte, .int (nI 0), .int (nI 0), .int (nI 0), .int (nI 0), .null, .null, .null, .null, .null, .null, .null, .null, .null, .null, .null, .int (nI 0), .null, .null, .null])) md = some (.inr (6, [.ref qro, .int (nI 0), .ref qte, .int (nI 0), .int (nI 0), .int (nI 0), .int (nI 0), .null, .null, .null, .null, .null, .null, .null, .null, .null, .null, .null, .int (nI 0), .null, .null, .null])) := hp_us
  obtain ⟨M77, eM77⟩ : ∃ z, z = hp_up M76 md (.inr (6, [.ref qro, .int (nI 0), .ref qte, .int (nI 0), .int (nI 0), .int (nI 0), .int (nI 0), .null, .null, .null, .null, .null, .null, .null, .null, .null, .null, .null, .int (nI 0), .null, .null, .null])) := ⟨_, rfl⟩
  rw [← eM77] at hM f_md f_qro f_qte
  refine lv_aload_n hx hb d_MD_init_446 rfl (lv_at hl 0 rfl) ?_
  refine lv_bipush (v := nI 8) hx hb d_MD_init_447 rfl ?_
  refine hp_newi S hK hM hS hA (atype := .int) rfl ma_int 1 rfl rfl (by decide) 8 rfl (by omega) (by decide) (by decide) d_MD_init_449 (fun qhe H hq_qhe hM hS => ?_)
  refine W.widen (k := 3) (n := 144) (by omega) (by omega) ?_
  rw [nf_0] at hM
  have ne_md_qhe : md ≠ qhe := hp_nn f_md hq_qhe
  have f_md := hp_k (e := (.inl (ct 1, 8, .inl (nf (fun _ => 0))))) ne_md_qhe f_md
  have ne_qro_qhe : qro ≠ qhe := hp_nn f_qro hq_qhe
  have f_qro := hp_k (e := (.inl (ct 1, 8, .inl (nf (fun _ => 0))))) ne_qro_qhe f_qro
  have ne_qte_qhe : qte ≠ qhe := hp_nn f_qte hq_qhe
  have f_qte := hp_k (e := (.inl (ct 1, 8, .inl (nf (fun _ => 0))))) ne_qte_qhe f_qte
  have f_qhe : hp_up M77 qhe (.inl (ct 1, 8, .inl (nf (fun _ => 0)))) qhe = some (.inl (ct 1, 8, .inl (nf (fun _ => 0)))) := hp_us
  obtain ⟨M78, eM78⟩ : ∃ z, z = hp_up M77 qhe (.inl (ct 1, 8, .inl (nf (fun _ => 0)))) := ⟨_, rfl⟩
  rw [← eM78] at hM f_md f_qro f_qte f_qhe
  refine hp_putF (ty := (.array .int)) (fs' := [.ref qro, .int (nI 0), .ref qte, .int (nI 0), .int (nI 0), .int (nI 0), .int (nI 0), .ref qhe, .null, .null, .null, .null, .null, .null, .null, .null, .null, .null, .int (nI 0), .null, .null, .null]) S hK hM hS i_MD t_MD to_MD n_MD f_md rfl 7 (by decide) mf_MD_88 (fun _ h9 => h9) rfl hnm rfl (by decide +kernel) rfl rfl (by simp) rfl d_MD_init_451 (fun H locs hM hS => ?_)
  have f_qro := hp_k (e := (.inr (6, [.ref qro, .int (nI 0), .ref qte, .int (nI 0), .int (nI 0), .int (nI 0), .int (nI 0), .ref qhe, .null, .null, .null, .null, .null, .null, .null, .null, .null, .null, .int (nI 0), .null, .null, .null]))) (Ne.symm ne_md_qro) f_qro
  have f_qte := hp_k (e := (.inr (6, [.ref qro, .int (nI 0), .ref qte, .int (nI 0), .int (nI 0), .int (nI 0), .int (nI 0), .ref qhe, .null, .null, .null, .null, .null, .null, .null, .null, .null, .null, .int (nI 0), .null, .null, .null]))) (Ne.symm ne_md_qte) f_qte
  have f_qhe := hp_k (e := (.inr (6, [.ref qro, .int (nI 0), .ref qte, .int (nI 0), .int (nI 0), .int (nI 0), .int (nI 0), .ref qhe, .null, .null, .null, .null, .null, .null, .null, .null, .null, .null, .int (nI 0), .null, .null, .null]))) (Ne.symm ne_md_qhe) f_qhe
  have f_md : hp_up M78 md (.inr (6, [.ref qro, .int (nI 0), .ref qte, .int (nI 0), .int (nI 0), .int (nI 0), .int (nI 0), .ref qhe, .null, .null, .null, .null, .null, .null, .null, .null, .null, .null, .int (nI 0), .null, .null, .null])) md = some (.inr (6, [.ref qro, .int (nI 0), .ref qte, .int (nI 0), .int (nI 0), .int (nI 0), .int (nI 0), .ref qhe, .null, .null, .null, .null, .null, .null, .null, .null, .null, .null, .int (nI 0), .null, .null, .null])) := hp_us
  obtain ⟨M79, eM79⟩ : ∃ z, z = hp_up M78 md (.inr (6, [.ref qro, .int (nI 0), .ref qte, .int (nI 0), .int (nI 0), .int (nI 0), .int (nI 0), .ref qhe, .null, .null, .null, .null, .null, .null, .null, .null, .null, .null, .int (nI 0), .null, .null, .null])) := ⟨_, rfl⟩
  rw [← eM79] at hM f_md f_qro f_qte f_qhe
  refine lv_aload_n hx hb d_MD_init_454 rfl (lv_at hl 0 rfl) ?_
  refine lv_bipush (v := nI 12) hx hb d_MD_init_455 rfl ?_
  refine hp_newi S hK hM hS hA (atype := .int) rfl ma_int 1 rfl rfl (by decide) 12 rfl (by omega) (by decide) (by decide) d_MD_init_457 (fun qcn H hq_qcn hM hS => ?_)
  refine W.widen (k := 4) (n := 156) (by omega) (by omega) ?_
  rw [nf_0] at hM
  have ne_md_qcn : md ≠ qcn := hp_nn f_md hq_qcn
  have f_md := hp_k (e := (.inl (ct 1, 12, .inl (nf (fun _ => 0))))) ne_md_qcn f_md
  have ne_qro_qcn : qro ≠ qcn := hp_nn f_qro hq_qcn
  have f_qro := hp_k (e := (.inl (ct 1, 12, .inl (nf (fun _ => 0))))) ne_qro_qcn f_qro
  have ne_qte_qcn : qte ≠ qcn := hp_nn f_qte hq_qcn
  have f_qte := hp_k (e := (.inl (ct 1, 12, .inl (nf (fun _ => 0))))) ne_qte_qcn f_qte
  have ne_qhe_qcn : qhe ≠ qcn := hp_nn f_qhe hq_qcn
  have f_qhe := hp_k (e := (.inl (ct 1, 12, .inl (nf (fun _ => 0))))) ne_qhe_qcn f_qhe
  have f_qcn : hp_up M79 qcn (.inl (ct 1, 12, .inl (nf (fun _ => 0)))) qcn = some (.inl (ct 1, 12, .inl (nf (fun _ => 0)))) := hp_us
  obtain ⟨M80, eM80⟩ : ∃ z, z = hp_up M79 qcn (.inl (ct 1, 12, .inl (nf (fun _ => 0)))) := ⟨_, rfl⟩
  rw [← eM80] at hM f_md f_qro f_qte f_qhe f_qcn
  refine hp_putF (ty := (.array .int)) (fs' := [.ref qro, .int (nI 0), .ref qte, .int (nI 0), .int (nI 0), .int (nI 0), .int (nI 0), .ref qhe, .ref qcn, .null, .null, .null, .null, .null, .null, .null, .null, .null, .int (nI 0), .null, .null, .null]) S hK hM hS i_MD t_MD to_MD n_MD f_md rfl 8 (by decide) mf_MD_91 (fun _ h9 => h9) rfl hnm rfl (by decide +kernel) rfl rfl (by simp) rfl d_MD_init_459 (fun H locs hM hS => ?_)
  have f_qro := hp_k (e := (.inr (6, [.ref qro, .int (nI 0), .ref qte, .int (nI 0), .int (nI 0), .int (nI 0), .int (nI 0), .ref qhe, .ref qcn, .null, .null, .null, .null, .null, .null, .null, .null, .null, .int (nI 0), .null, .null, .null]))) (Ne.symm ne_md_qro) f_qro
  have f_qte := hp_k (e := (.inr (6, [.ref qro, .int (nI 0), .ref qte, .int (nI 0), .int (nI 0), .int (nI 0), .int (nI 0), .ref qhe, .ref qcn, .null, .null, .null, .null, .null, .null, .null, .null, .null, .int (nI 0), .null, .null, .null]))) (Ne.symm ne_md_qte) f_qte
  have f_qhe := hp_k (e := (.inr (6, [.ref qro, .int (nI 0), .ref qte, .int (nI 0), .int (nI 0), .int (nI 0), .int (nI 0), .ref qhe, .ref qcn, .null, .null, .null, .null, .null, .null, .null, .null, .null, .int (nI 0), .null, .null, .null]))) (Ne.symm ne_md_qhe) f_qhe
  have f_qcn := hp_k (e := (.inr (6, [.ref qro, .int (nI 0), .ref qte, .int (nI 0), .int (nI 0), .int (nI 0), .int (nI 0), .ref qhe, .ref qcn, .null, .null, .null, .null, .null, .null, .null, .null, .null, .int (nI 0), .null, .null, .null]))) (Ne.symm ne_md_qcn) f_qcn
  have f_md : hp_up M80 md (.inr (6, [.ref qro, .int (nI 0), .ref qte, .int (nI 0), .int (nI 0), .int (nI 0), .int (nI 0), .ref qhe, .ref qcn, .null, .null, .null, .null, .null, .null, .null, .null, .null, .int (nI 0), .null, .null, .null])) md = some (.inr (6, [.ref qro, .int (nI 0), .ref qte, .int (nI 0), .int (nI 0), .int (nI 0), .int (nI 0), .ref qhe, .ref qcn, .null, .null, .null, .null, .null, .null, .null, .null, .null, .int (nI 0), .null, .null, .null])) := hp_us
  obtain ⟨M81, eM81⟩ : ∃ z, z = hp_up M80 md (.inr (6, [.ref qro, .int (nI 0), .ref qte, .int (nI 0), .int (nI 0), .int (nI 0), .int (nI 0), .ref qhe, .ref qcn, .null, .null, .null, .null, .null, .null, .null, .null, .null, .int (nI 0), .null, .null, .null])) := ⟨_, rfl⟩
  rw [← eM81] at hM f_md f_qro f_qte f_qhe f_qcn
  refine lv_aload_n hx hb d_MD_init_462 rfl (lv_at hl 0 rfl) ?_
  refine lv_sipush (v := nI 288) hx hb d_MD_init_463 rfl ?_
  refine hp_newi S hK hM hS hA (atype := .int) rfl ma_int 1 rfl rfl (by decide) 288 rfl (by omega) (by decide) (by decide) d_MD_init_466 (fun qkd H hq_qkd hM hS => ?_)
  refine W.widen (k := 5) (n := 444) (by omega) (by omega) ?_
  rw [nf_0] at hM
  have ne_md_qkd : md ≠ qkd := hp_nn f_md hq_qkd
  have f_md := hp_k (e := (.inl (ct 1, 288, .inl (nf (fun _ => 0))))) ne_md_qkd f_md
  have ne_qro_qkd : qro ≠ qkd := hp_nn f_qro hq_qkd
  have f_qro := hp_k (e := (.inl (ct 1, 288, .inl (nf (fun _ => 0))))) ne_qro_qkd f_qro
  have ne_qte_qkd : qte ≠ qkd := hp_nn f_qte hq_qkd
  have f_qte := hp_k (e := (.inl (ct 1, 288, .inl (nf (fun _ => 0))))) ne_qte_qkd f_qte
  have ne_qhe_qkd : qhe ≠ qkd := hp_nn f_qhe hq_qkd
  have f_qhe := hp_k (e := (.inl (ct 1, 288, .inl (nf (fun _ => 0))))) ne_qhe_qkd f_qhe
  have ne_qcn_qkd : qcn ≠ qkd := hp_nn f_qcn hq_qkd
  have f_qcn := hp_k (e := (.inl (ct 1, 288, .inl (nf (fun _ => 0))))) ne_qcn_qkd f_qcn
  have f_qkd : hp_up M81 qkd (.inl (ct 1, 288, .inl (nf (fun _ => 0)))) qkd = some (.inl (ct 1, 288, .inl (nf (fun _ => 0)))) := hp_us
  obtain ⟨M82, eM82⟩ : ∃ z, z = hp_up M81 qkd (.inl (ct 1, 288, .inl (nf (fun _ => 0)))) := ⟨_, rfl⟩
  rw [← eM82] at hM f_md f_qro f_qte f_qhe f_qcn f_qkd
  refine hp_putF (ty := (.array .int)) (fs' := [.ref qro, .int (nI 0), .ref qte, .int (nI 0), .int (nI 0), .int (nI 0), .int (nI 0), .ref qhe, .ref qcn, .ref qkd, .null, .null, .null, .null, .null, .null, .null, .null, .int (nI 0), .null, .null, .null]) S hK hM hS i_MD t_MD to_MD n_MD f_md rfl 9 (by decide) mf_MD_94 (fun _ h9 => h9) rfl hnm rfl (by decide +kernel) rfl rfl (by simp) rfl d_MD_init_468 (fun H locs hM hS => ?_)
  have f_qro := hp_k (e := (.inr (6, [.ref qro, .int (nI 0), .ref qte, .int (nI 0), .int (nI 0), .int (nI 0), .int (nI 0), .ref qhe, .ref qcn, .ref qkd, .null, .null, .null, .null, .null, .null, .null, .null, .int (nI 0), .null, .null, .null]))) (Ne.symm ne_md_qro) f_qro
  have f_qte := hp_k (e := (.inr (6, [.ref qro, .int (nI 0), .ref qte, .int (nI 0), .int (nI 0), .int (nI 0), .int (nI 0), .ref qhe, .ref qcn, .ref qkd, .null, .null, .null, .null, .null, .null, .null, .null, .int (nI 0), .null, .null, .null]))) (Ne.symm ne_md_qte) f_qte
  have f_qhe := hp_k (e := (.inr (6, [.ref qro, .int (nI 0), .ref qte, .int (nI 0), .int (nI 0), .int (nI 0), .int (nI 0), .ref qhe, .ref qcn, .ref qkd, .null, .null, .null, .null, .null, .null, .null, .null, .int (nI 0), .null, .null, .null]))) (Ne.symm ne_md_qhe) f_qhe
  have f_qcn := hp_k (e := (.inr (6, [.ref qro, .int (nI 0), .ref qte, .int (nI 0), .int (nI 0), .int (nI 0), .int (nI 0), .ref qhe, .ref qcn, .ref qkd, .null, .null, .null, .null, .null, .null, .null, .null, .int (nI 0), .null, .null, .null]))) (Ne.symm ne_md_qcn) f_qcn
  have f_qkd := hp_k (e := (.inr (6, [.ref qro, .int (nI 0), .ref qte, .int (nI 0), .int (nI 0), .int (nI 0), .int (nI 0), .ref qhe, .ref qcn, .ref qkd, .null, .null, .null, .null, .null, .null, .null, .null, .int (nI 0), .null, .null, .null]))) (Ne.symm ne_md_qkd) f_qkd
  have f_md : hp_up M82 md (.inr (6, [.ref qro, .int (nI 0), .ref qte, .int (nI 0), .int (nI 0), .int (nI 0), .int (nI 0), .ref qhe, .ref qcn, .ref qkd, .null, .null, .null, .null, .null, .null, .null, .null, .int (nI 0), .null, .null, .null])) md = some (.inr (6, [.ref qro, .int (nI 0), .ref qte, .int (nI 0), .int (nI 0), .int (nI 0), .int (nI 0), .ref qhe, .ref qcn, .ref qkd, .null, .null, .null, .null, .null, .null, .null, .null, .int (nI 0), .null, .null, .null])) := hp_us
  obtain ⟨M83, eM83⟩ : ∃ z, z = hp_up M82 md (.inr (6, [.ref qro, .int (nI 0), .ref qte, .int (nI 0), .int (nI 0), .int (nI 0), .int (nI 0), .ref qhe, .ref qcn, .ref qkd, .null, .null, .null, .null, .null, .null, .null, .null, .int (nI 0), .null, .null, .null])) := ⟨_, rfl⟩
  rw [← eM83] at hM f_md f_qro f_qte f_qhe f_qcn f_qkd
  refine lv_aload_n hx hb d_MD_init_471 rfl (lv_at hl 0 rfl) ?_
  refine lv_sipush (v := nI 288) hx hb d_MD_init_472 rfl ?_
  refine hp_newi S hK hM hS hA (atype := .int) rfl ma_int 1 rfl rfl (by decide) 288 rfl (by omega) (by decide) (by decide) d_MD_init_475 (fun qsz H hq_qsz hM hS => ?_)
  refine W.widen (k := 6) (n := 732) (by omega) (by omega) ?_
  rw [nf_0] at hM
  have ne_md_qsz : md ≠ qsz := hp_nn f_md hq_qsz
  have f_md := hp_k (e := (.inl (ct 1, 288, .inl (nf (fun _ => 0))))) ne_md_qsz f_md
  have ne_qro_qsz : qro ≠ qsz := hp_nn f_qro hq_qsz
  have f_qro := hp_k (e := (.inl (ct 1, 288, .inl (nf (fun _ => 0))))) ne_qro_qsz f_qro
  have ne_qte_qsz : qte ≠ qsz := hp_nn f_qte hq_qsz
  have f_qte := hp_k (e := (.inl (ct 1, 288, .inl (nf (fun _ => 0))))) ne_qte_qsz f_qte
  have ne_qhe_qsz : qhe ≠ qsz := hp_nn f_qhe hq_qsz
  have f_qhe := hp_k (e := (.inl (ct 1, 288, .inl (nf (fun _ => 0))))) ne_qhe_qsz f_qhe
  have ne_qcn_qsz : qcn ≠ qsz := hp_nn f_qcn hq_qsz
  have f_qcn := hp_k (e := (.inl (ct 1, 288, .inl (nf (fun _ => 0))))) ne_qcn_qsz f_qcn
  have ne_qkd_qsz : qkd ≠ qsz := hp_nn f_qkd hq_qsz
  have f_qkd := hp_k (e := (.inl (ct 1, 288, .inl (nf (fun _ => 0))))) ne_qkd_qsz f_qkd
  have f_qsz : hp_up M83 qsz (.inl (ct 1, 288, .inl (nf (fun _ => 0)))) qsz = some (.inl (ct 1, 288, .inl (nf (fun _ => 0)))) := hp_us
  obtain ⟨M84, eM84⟩ : ∃ z, z = hp_up M83 qsz (.inl (ct 1, 288, .inl (nf (fun _ => 0)))) := ⟨_, rfl⟩
  rw [← eM84] at hM f_md f_qro f_qte f_qhe f_qcn f_qkd f_qsz
  refine hp_putF (ty := (.array .int)) (fs' := [.ref qro, .int (nI 0), .ref qte, .int (nI 0), .int (nI 0), .int (nI 0), .int (nI 0), .ref qhe, .ref qcn, .ref qkd, .ref qsz, .null, .null, .null, .null, .null, .null, .null, .int (nI 0), .null, .null, .null]) S hK hM hS i_MD t_MD to_MD n_MD f_md rfl 10 (by decide) mf_MD_97 (fun _ h9 => h9) rfl hnm rfl (by decide +kernel) rfl rfl (by simp) rfl d_MD_init_477 (fun H locs hM hS => ?_)
  have f_qro := hp_k (e := (.inr (6, [.ref qro, .int (nI 0), .ref qte, .int (nI 0), .int (nI 0), .int (nI 0), .int (nI 0), .ref qhe, .ref qcn, .ref qkd, .ref qsz, .null, .null, .null, .null, .null, .null, .null, .int (nI 0), .null, .null, .null]))) (Ne.symm ne_md_qro) f_qro
  have f_qte := hp_k (e := (.inr (6, [.ref qro, .int (nI 0), .ref qte, .int (nI 0), .int (nI 0), .int (nI 0), .int (nI 0), .ref qhe, .ref qcn, .ref qkd, .ref qsz, .null, .null, .null, .null, .null, .null, .null, .int (nI 0), .null, .null, .null]))) (Ne.symm ne_md_qte) f_qte
  have f_qhe := hp_k (e := (.inr (6, [.ref qro, .int (nI 0), .ref qte, .int (nI 0), .int (nI 0), .int (nI 0), .int (nI 0), .ref qhe, .ref qcn, .ref qkd, .ref qsz, .null, .null, .null, .null, .null, .null, .null, .int (nI 0), .null, .null, .null]))) (Ne.symm ne_md_qhe) f_qhe
  have f_qcn := hp_k (e := (.inr (6, [.ref qro, .int (nI 0), .ref qte, .int (nI 0), .int (nI 0), .int (nI 0), .int (nI 0), .ref qhe, .ref qcn, .ref qkd, .ref qsz, .null, .null, .null, .null, .null, .null, .null, .int (nI 0), .null, .null, .null]))) (Ne.symm ne_md_qcn) f_qcn
  have f_qkd := hp_k (e := (.inr (6, [.ref qro, .int (nI 0), .ref qte, .int (nI 0), .int (nI 0), .int (nI 0), .int (nI 0), .ref qhe, .ref qcn, .ref qkd, .ref qsz, .null, .null, .null, .null, .null, .null, .null, .int (nI 0), .null, .null, .null]))) (Ne.symm ne_md_qkd) f_qkd
  have f_qsz := hp_k (e := (.inr (6, [.ref qro, .int (nI 0), .ref qte, .int (nI 0), .int (nI 0), .int (nI 0), .int (nI 0), .ref qhe, .ref qcn, .ref qkd, .ref qsz, .null, .null, .null, .null, .null, .null, .null, .int (nI 0), .null, .null, .null]))) (Ne.symm ne_md_qsz) f_qsz
  have f_md : hp_up M84 md (.inr (6, [.ref qro, .int (nI 0), .ref qte, .int (nI 0), .int (nI 0), .int (nI 0), .int (nI 0), .ref qhe, .ref qcn, .ref qkd, .ref qsz, .null, .null, .null, .null, .null, .null, .null, .int (nI 0), .null, .null, .null])) md = some (.inr (6, [.ref qro, .int (nI 0), .ref qte, .int (nI 0), .int (nI 0), .int (nI 0), .int (nI 0), .ref qhe, .ref qcn, .ref qkd, .ref qsz, .null, .null, .null, .null, .null, .null, .null, .int (nI 0), .null, .null, .null])) := hp_us
  obtain ⟨M85, eM85⟩ : ∃ z, z = hp_up M84 md (.inr (6, [.ref qro, .int (nI 0), .ref qte, .int (nI 0), .int (nI 0), .int (nI 0), .int (nI 0), .ref qhe, .ref qcn, .ref qkd, .ref qsz, .null, .null, .null, .null, .null, .null, .null, .int (nI 0), .null, .null, .null])) := ⟨_, rfl⟩
  rw [← eM85] at hM f_md f_qro f_qte f_qhe f_qcn f_qkd f_qsz
  refine lv_aload_n hx hb d_MD_init_480 rfl (lv_at hl 0 rfl) ?_
  refine lv_sipush (v := nI 288) hx hb d_MD_init_481 rfl ?_
  refine hp_newi S hK hM hS hA (atype := .int) rfl ma_int 1 rfl rfl (by decide) 288 rfl (by omega) (by decide) (by decide) d_MD_init_484 (fun qky H hq_qky hM hS => ?_)
  refine W.widen (k := 7) (n := 1020) (by omega) (by omega) ?_
  rw [nf_0] at hM
  have ne_md_qky : md ≠ qky := hp_nn f_md hq_qky
  have f_md := hp_k (e := (.inl (ct 1, 288, .inl (nf (fun _ => 0))))) ne_md_qky f_md
  have ne_qro_qky : qro ≠ qky := hp_nn f_qro hq_qky
  have f_qro := hp_k (e := (.inl (ct 1, 288, .inl (nf (fun _ => 0))))) ne_qro_qky f_qro
  have ne_qte_qky : qte ≠ qky := hp_nn f_qte hq_qky
  have f_qte := hp_k (e := (.inl (ct 1, 288, .inl (nf (fun _ => 0))))) ne_qte_qky f_qte
  have ne_qhe_qky : qhe ≠ qky := hp_nn f_qhe hq_qky
  have f_qhe := hp_k (e := (.inl (ct 1, 288, .inl (nf (fun _ => 0))))) ne_qhe_qky f_qhe
  have ne_qcn_qky : qcn ≠ qky := hp_nn f_qcn hq_qky
  have f_qcn := hp_k (e := (.inl (ct 1, 288, .inl (nf (fun _ => 0))))) ne_qcn_qky f_qcn
  have ne_qkd_qky : qkd ≠ qky := hp_nn f_qkd hq_qky
  have f_qkd := hp_k (e := (.inl (ct 1, 288, .inl (nf (fun _ => 0))))) ne_qkd_qky f_qkd
  have ne_qsz_qky : qsz ≠ qky := hp_nn f_qsz hq_qky
  have f_qsz := hp_k (e := (.inl (ct 1, 288, .inl (nf (fun _ => 0))))) ne_qsz_qky f_qsz
  have f_qky : hp_up M85 qky (.inl (ct 1, 288, .inl (nf (fun _ => 0)))) qky = some (.inl (ct 1, 288, .inl (nf (fun _ => 0)))) := hp_us
  obtain ⟨M86, eM86⟩ : ∃ z, z = hp_up M85 qky (.inl (ct 1, 288, .inl (nf (fun _ => 0)))) := ⟨_, rfl⟩
  rw [← eM86] at hM f_md f_qro f_qte f_qhe f_qcn f_qkd f_qsz f_qky
  refine hp_putF (ty := (.array .int)) (fs' := [.ref qro, .int (nI 0), .ref qte, .int (nI 0), .int (nI 0), .int (nI 0), .int (nI 0), .ref qhe, .ref qcn, .ref qkd, .ref qsz, .ref qky, .null, .null, .null, .null, .null, .null, .int (nI 0), .null, .null, .null]) S hK hM hS i_MD t_MD to_MD n_MD f_md rfl 11 (by decide) mf_MD_100 (fun _ h9 => h9) rfl hnm rfl (by decide +kernel) rfl rfl (by simp) rfl d_MD_init_486 (fun H locs hM hS => ?_)
  have f_qro := hp_k (e := (.inr (6, [.ref qro, .int (nI 0), .ref qte, .int (nI 0), .int (nI 0), .int (nI 0), .int (nI 0), .ref qhe, .ref qcn, .ref qkd, .ref qsz, .ref qky, .null, .null, .null, .null, .null, .null, .int (nI 0), .null, .null, .null]))) (Ne.symm ne_md_qro) f_qro
  have f_qte := hp_k (e := (.inr (6, [.ref qro, .int (nI 0), .ref qte, .int (nI 0), .int (nI 0), .int (nI 0), .int (nI 0), .ref qhe, .ref qcn, .ref qkd, .ref qsz, .ref qky, .null, .null, .null, .null, .null, .null, .int (nI 0), .null, .null, .null]))) (Ne.symm ne_md_qte) f_qte
  have f_qhe := hp_k (e := (.inr (6, [.ref qro, .int (nI 0), .ref qte, .int (nI 0), .int (nI 0), .int (nI 0), .int (nI 0), .ref qhe, .ref qcn, .ref qkd, .ref qsz, .ref qky, .null, .null, .null, .null, .null, .null, .int (nI 0), .null, .null, .null]))) (Ne.symm ne_md_qhe) f_qhe
  have f_qcn := hp_k (e := (.inr (6, [.ref qro, .int (nI 0), .ref qte, .int (nI 0), .int (nI 0), .int (nI 0), .int (nI 0), .ref qhe, .ref qcn, .ref qkd, .ref qsz, .ref qky, .null, .null, .null, .null, .null, .null, .int (nI 0), .null, .null, .null]))) (Ne.symm ne_md_qcn) f_qcn
  have f_qkd := hp_k (e := (.inr (6, [.ref qro, .int (nI 0), .ref qte, .int (nI 0), .int (nI 0), .int (nI 0), .int (nI 0), .ref qhe, .ref qcn, .ref qkd, .ref qsz, .ref qky, .null, .null, .null, .null, .null, .null, .int (nI 0), .null, .null, .null]))) (Ne.symm ne_md_qkd) f_qkd
  have f_qsz := hp_k (e := (.inr (6, [.ref qro, .int (nI 0), .ref qte, .int (nI 0), .int (nI 0), .int (nI 0), .int (nI 0), .ref qhe, .ref qcn, .ref qkd, .ref qsz, .ref qky, .null, .null, .null, .null, .null, .null, .int (nI 0), .null, .null, .null]))) (Ne.symm ne_md_qsz) f_qsz
  have f_qky := hp_k (e := (.inr (6, [.ref qro, .int (nI 0), .ref qte, .int (nI 0), .int (nI 0), .int (nI 0), .int (nI 0), .ref qhe, .ref qcn, .ref qkd, .ref qsz, .ref qky, .null, .null, .null, .null, .null, .null, .int (nI 0), .null, .null, .null]))) (Ne.symm ne_md_qky) f_qky
  have f_md : hp_up M86 md (.inr (6, [.ref qro, .int (nI 0), .ref qte, .int (nI 0), .int (nI 0), .int (nI 0), .int (nI 0), .ref qhe, .ref qcn, .ref qkd, .ref qsz, .ref qky, .null, .null, .null, .null, .null, .null, .int (nI 0), .null, .null, .null])) md = some (.inr (6, [.ref qro, .int (nI 0), .ref qte, .int (nI 0), .int (nI 0), .int (nI 0), .int (nI 0), .ref qhe, .ref qcn, .ref qkd, .ref qsz, .ref qky, .null, .null, .null, .null, .null, .null, .int (nI 0), .null, .null, .null])) := hp_us
  obtain ⟨M87, eM87⟩ : ∃ z, z = hp_up M86 md (.inr (6, [.ref qro, .int (nI 0), .ref qte, .int (nI 0), .int (nI 0), .int (nI 0), .int (nI 0), .ref qhe, .ref qcn, .ref qkd, .ref qsz, .ref qky, .null, .null, .null, .null, .null, .null, .int (nI 0), .null, .null, .null])) := ⟨_, rfl⟩
  rw [← eM87] at hM f_md f_qro f_qte f_qhe f_qcn f_qkd f_qsz f_qky
  refine lv_aload_n hx hb d_MD_init_489 rfl (lv_at hl 0 rfl) ?_
  refine lv_sipush (v := nI 18432) hx hb d_MD_init_490 rfl ?_
  refine hp_newi S hK hM hS hA (atype := .int) rfl ma_int 1 rfl rfl (by decide) 18432 rfl (by omega) (by decide) (by decide) d_MD_init_493 (fun qle H hq_qle hM hS => ?_)
  refine W.widen (k := 8) (n := 19452) (by omega) (by omega) ?_
  rw [nf_0] at hM
  have ne_md_qle : md ≠ qle := hp_nn f_md hq_qle
  have f_md := hp_k (e := (.inl (ct 1, 18432, .inl (nf (fun _ => 0))))) ne_md_qle f_md
  have ne_qro_qle : qro ≠ qle := hp_nn f_qro hq_qle
  have f_qro := hp_k (e := (.inl (ct 1, 18432, .inl (nf (fun _ => 0))))) ne_qro_qle f_qro
  have ne_qte_qle : qte ≠ qle := hp_nn f_qte hq_qle
  have f_qte := hp_k (e := (.inl (ct 1, 18432, .inl (nf (fun _ => 0))))) ne_qte_qle f_qte
  have ne_qhe_qle : qhe ≠ qle := hp_nn f_qhe hq_qle
  have f_qhe := hp_k (e := (.inl (ct 1, 18432, .inl (nf (fun _ => 0))))) ne_qhe_qle f_qhe
  have ne_qcn_qle : qcn ≠ qle := hp_nn f_qcn hq_qle
  have f_qcn := hp_k (e := (.inl (ct 1, 18432, .inl (nf (fun _ => 0))))) ne_qcn_qle f_qcn
  have ne_qkd_qle : qkd ≠ qle := hp_nn f_qkd hq_qle
  have f_qkd := hp_k (e := (.inl (ct 1, 18432, .inl (nf (fun _ => 0))))) ne_qkd_qle f_qkd
  have ne_qsz_qle : qsz ≠ qle := hp_nn f_qsz hq_qle
  have f_qsz := hp_k (e := (.inl (ct 1, 18432, .inl (nf (fun _ => 0))))) ne_qsz_qle f_qsz
  have ne_qky_qle : qky ≠ qle := hp_nn f_qky hq_qle
  have f_qky := hp_k (e := (.inl (ct 1, 18432, .inl (nf (fun _ => 0))))) ne_qky_qle f_qky
  have f_qle : hp_up M87 qle (.inl (ct 1, 18432, .inl (nf (fun _ => 0)))) qle = some (.inl (ct 1, 18432, .inl (nf (fun _ => 0)))) := hp_us
  obtain ⟨M88, eM88⟩ : ∃ z, z = hp_up M87 qle (.inl (ct 1, 18432, .inl (nf (fun _ => 0)))) := ⟨_, rfl⟩
  rw [← eM88] at hM f_md f_qro f_qte f_qhe f_qcn f_qkd f_qsz f_qky f_qle
  refine hp_putF (ty := (.array .int)) (fs' := [.ref qro, .int (nI 0), .ref qte, .int (nI 0), .int (nI 0), .int (nI 0), .int (nI 0), .ref qhe, .ref qcn, .ref qkd, .ref qsz, .ref qky, .ref qle, .null, .null, .null, .null, .null, .int (nI 0), .null, .null, .null]) S hK hM hS i_MD t_MD to_MD n_MD f_md rfl 12 (by decide) mf_MD_103 (fun _ h9 => h9) rfl hnm rfl (by decide +kernel) rfl rfl (by simp) rfl d_MD_init_495 (fun H locs hM hS => ?_)
  have f_qro := hp_k (e := (.inr (6, [.ref qro, .int (nI 0), .ref qte, .int (nI 0), .int (nI 0), .int (nI 0), .int (nI 0), .ref qhe, .ref qcn, .ref qkd, .ref qsz, .ref qky, .ref qle, .null, .null, .null, .null, .null, .int (nI 0), .null, .null, .null]))) (Ne.symm ne_md_qro) f_qro
  have f_qte := hp_k (e := (.inr (6, [.ref qro, .int (nI 0), .ref qte, .int (nI 0), .int (nI 0), .int (nI 0), .int (nI 0), .ref qhe, .ref qcn, .ref qkd, .ref qsz, .ref qky, .ref qle, .null, .null, .null, .null, .null, .int (nI 0), .null, .null, .null]))) (Ne.symm ne_md_qte) f_qte
  have f_qhe := hp_k (e := (.inr (6, [.ref qro, .int (nI 0), .ref qte, .int (nI 0), .int (nI 0), .int (nI 0), .int (nI 0), .ref qhe, .ref qcn, .ref qkd, .ref qsz, .ref qky, .ref qle, .null, .null, .null, .null, .null, .int (nI 0), .null, .null, .null]))) (Ne.symm ne_md_qhe) f_qhe
  have f_qcn := hp_k (e := (.inr (6, [.ref qro, .int (nI 0), .ref qte, .int (nI 0), .int (nI 0), .int (nI 0), .int (nI 0), .ref qhe, .ref qcn, .ref qkd, .ref qsz, .ref qky, .ref qle, .null, .null, .null, .null, .null, .int (nI 0), .null, .null, .null]))) (Ne.symm ne_md_qcn) f_qcn
  have f_qkd := hp_k (e := (.inr (6, [.ref qro, .int (nI 0), .ref qte, .int (nI 0), .int (nI 0), .int (nI 0), .int (nI 0), .ref qhe, .ref qcn, .ref qkd, .ref qsz, .ref qky, .ref qle, .null, .null, .null, .null, .null, .int (nI 0), .null, .null, .null]))) (Ne.symm ne_md_qkd) f_qkd
  have f_qsz := hp_k (e := (.inr (6, [.ref qro, .int (nI 0), .ref qte, .int (nI 0), .int (nI 0), .int (nI 0), .int (nI 0), .ref qhe, .ref qcn, .ref qkd, .ref qsz, .ref qky, .ref qle, .null, .null, .null, .null, .null, .int (nI 0), .null, .null, .null]))) (Ne.symm ne_md_qsz) f_qsz
  have f_qky := hp_k (e := (.inr (6, [.ref qro, .int (nI 0), .ref qte, .int (nI 0), .int (nI 0), .int (nI 0), .int (nI 0), .ref qhe, .ref qcn, .ref qkd, .ref qsz, .ref qky, .ref qle, .null, .null, .null, .null, .null, .int (nI 0), .null, .null, .null]))) (Ne.symm ne_md_qky) f_qky
  have f_qle := hp_k (e := (.inr (6, [.ref qro, .int (nI 0), .ref qte, .int (nI 0), .int (nI 0), .int (nI 0), .int (nI 0), .ref qhe, .ref qcn, .ref qkd, .ref qsz, .ref qky, .ref qle, .null, .null, .null, .null, .null, .int (nI 0), .null, .null, .null]))) (Ne.symm ne_md_qle) f_qle
  have f_md : hp_up M88 md (.inr (6, [.ref qro, .int (nI 0), .ref qte, .int (nI 0), .int (nI 0), .int (nI 0), .int (nI 0), .ref qhe, .ref qcn, .ref qkd, .ref qsz, .ref qky, .ref qle, .null, .null, .null, .null, .null, .int (nI 0), .null, .null, .null])) md = some (.inr (6, [.ref qro, .int (nI 0), .ref qte, .int (nI 0), .int (nI 0), .int (nI 0), .int (nI 0), .ref qhe, .ref qcn, .ref qkd, .ref qsz, .ref qky, .ref qle, .null, .null, .null, .null, .null, .int (nI 0), .null, .null, .null])) := hp_us
  obtain ⟨M89, eM89⟩ : ∃ z, z = hp_up M88 md (.inr (6, [.ref qro, .int (nI 0), .ref qte, .int (nI 0), .int (nI 0), .int (nI 0), .int (nI 0), .ref qhe, .ref qcn, .ref qkd, .ref qsz, .ref qky, .ref qle, .null, .null, .null, .null, .null, .int (nI 0), .null, .null, .null])) := ⟨_, rfl⟩
  rw [← eM89] at hM f_md f_qro f_qte f_qhe f_qcn f_qkd f_qsz f_qky f_qle
  refine lv_aload_n hx hb d_MD_init_498 rfl (lv_at hl 0 rfl) ?_
  refine lv_sipush (v := nI 2304) hx hb d_MD_init_499 rfl ?_
  refine hp_newi S hK hM hS hA (atype := .int) rfl ma_int 1 rfl rfl (by decide) 2304 rfl (by omega) (by decide) (by decide) d_MD_init_502 (fun qdg H hq_qdg hM hS => ?_)
  refine W.widen (k := 9) (n := 21756) (by omega) (by omega) ?_
  rw [nf_0] at hM
  have ne_md_qdg : md ≠ qdg := hp_nn f_md hq_qdg
  have f_md := hp_k (e := (.inl (ct 1, 2304, .inl (nf (fun _ => 0))))) ne_md_qdg f_md
  have ne_qro_qdg : qro ≠ qdg := hp_nn f_qro hq_qdg
  have f_qro := hp_k (e := (.inl (ct 1, 2304, .inl (nf (fun _ => 0))))) ne_qro_qdg f_qro
  have ne_qte_qdg : qte ≠ qdg := hp_nn f_qte hq_qdg
  have f_qte := hp_k (e := (.inl (ct 1, 2304, .inl (nf (fun _ => 0))))) ne_qte_qdg f_qte
  have ne_qhe_qdg : qhe ≠ qdg := hp_nn f_qhe hq_qdg
  have f_qhe := hp_k (e := (.inl (ct 1, 2304, .inl (nf (fun _ => 0))))) ne_qhe_qdg f_qhe
  have ne_qcn_qdg : qcn ≠ qdg := hp_nn f_qcn hq_qdg
  have f_qcn := hp_k (e := (.inl (ct 1, 2304, .inl (nf (fun _ => 0))))) ne_qcn_qdg f_qcn
  have ne_qkd_qdg : qkd ≠ qdg := hp_nn f_qkd hq_qdg
  have f_qkd := hp_k (e := (.inl (ct 1, 2304, .inl (nf (fun _ => 0))))) ne_qkd_qdg f_qkd
  have ne_qsz_qdg : qsz ≠ qdg := hp_nn f_qsz hq_qdg
  have f_qsz := hp_k (e := (.inl (ct 1, 2304, .inl (nf (fun _ => 0))))) ne_qsz_qdg f_qsz
  have ne_qky_qdg : qky ≠ qdg := hp_nn f_qky hq_qdg
  have f_qky := hp_k (e := (.inl (ct 1, 2304, .inl (nf (fun _ => 0))))) ne_qky_qdg f_qky
  have ne_qle_qdg : qle ≠ qdg := hp_nn f_qle hq_qdg
  have f_qle := hp_k (e := (.inl (ct 1, 2304, .inl (nf (fun _ => 0))))) ne_qle_qdg f_qle
  have f_qdg : hp_up M89 qdg (.inl (ct 1, 2304, .inl (nf (fun _ => 0)))) qdg = some (.inl (ct 1, 2304, .inl (nf (fun _ => 0)))) := hp_us
  obtain ⟨M90, eM90⟩ : ∃ z, z = hp_up M89 qdg (.inl (ct 1, 2304, .inl (nf (fun _ => 0)))) := ⟨_, rfl⟩
  rw [← eM90] at hM f_md f_qro f_qte f_qhe f_qcn f_qkd f_qsz f_qky f_qle f_qdg
  refine hp_putF (ty := (.array .int)) (fs' := [.ref qro, .int (nI 0), .ref qte, .int (nI 0), .int (nI 0), .int (nI 0), .int (nI 0), .ref qhe, .ref qcn, .ref qkd, .ref qsz, .ref qky, .ref qle, .ref qdg, .null, .null, .null, .null, .int (nI 0), .null, .null, .null]) S hK hM hS i_MD t_MD to_MD n_MD f_md rfl 13 (by decide) mf_MD_106 (fun _ h9 => h9) rfl hnm rfl (by decide +kernel) rfl rfl (by simp) rfl d_MD_init_504 (fun H locs hM hS => ?_)
  have f_qro := hp_k (e := (.inr (6, [.ref qro, .int (nI 0), .ref qte, .int (nI 0), .int (nI 0), .int (nI 0), .int (nI 0), .ref qhe, .ref qcn, .ref qkd, .ref qsz, .ref qky, .ref qle, .ref qdg, .null, .null, .null, .null, .int (nI 0), .null, .null, .null]))) (Ne.symm ne_md_qro) f_qro
  have f_qte := hp_k (e := (.inr (6, [.ref qro, .int (nI 0), .ref qte, .int (nI 0), .int (nI 0), .int (nI 0), .int (nI 0), .ref qhe, .ref qcn, .ref qkd, .ref qsz, .ref qky, .ref qle, .ref qdg, .null, .null, .null, .null, .int (nI 0), .null, .null, .null]))) (Ne.symm ne_md_qte) f_qte
  have f_qhe := hp_k (e := (.inr (6, [.ref qro, .int (nI 0), .ref qte, .int (nI 0), .int (nI 0), .int (nI 0), .int (nI 0), .ref qhe, .ref qcn, .ref qkd, .ref qsz, .ref qky, .ref qle, .ref qdg, .null, .null, .null, .null, .int (nI 0), .null, .null, .null]))) (Ne.symm ne_md_qhe) f_qhe
  have f_qcn := hp_k (e := (.inr (6, [.ref qro, .int (nI 0), .ref qte, .int (nI 0), .int (nI 0), .int (nI 0), .int (nI 0), .ref qhe, .ref qcn, .ref qkd, .ref qsz, .ref qky, .ref qle, .ref qdg, .null, .null, .null, .null, .int (nI 0), .null, .null, .null]))) (Ne.symm ne_md_qcn) f_qcn
  have f_qkd := hp_k (e := (.inr (6, [.ref qro, .int (nI 0), .ref qte, .int (nI 0), .int (nI 0), .int (nI 0), .int (nI 0), .ref qhe, .ref qcn, .ref qkd, .ref qsz, .ref qky, .ref qle, .ref qdg, .null, .null, .null, .null, .int (nI 0), .null, .null, .null]))) (Ne.symm ne_md_qkd) f_qkd
  have f_qsz := hp_k (e := (.inr (6, [.ref qro, .int (nI 0), .ref qte, .int (nI 0), .int (nI 0), .int (nI 0), .int (nI 0), .ref qhe, .ref qcn, .ref qkd, .ref qsz, .ref qky, .ref qle, .ref qdg, .null, .null, .null, .null, .int (nI 0), .null, .null, .null]))) (Ne.symm ne_md_qsz) f_qsz
  have f_qky := hp_k (e := (.inr (6, [.ref qro, .int (nI 0), .ref qte, .int (nI 0), .int (nI 0), .int (nI 0), .int (nI 0), .ref qhe, .ref qcn, .ref qkd, .ref qsz, .ref qky, .ref qle, .ref qdg, .null, .null, .null, .null, .int (nI 0), .null, .null, .null]))) (Ne.symm ne_md_qky) f_qky
  have f_qle := hp_k (e := (.inr (6, [.ref qro, .int (nI 0), .ref qte, .int (nI 0), .int (nI 0), .int (nI 0), .int (nI 0), .ref qhe, .ref qcn, .ref qkd, .ref qsz, .ref qky, .ref qle, .ref qdg, .null, .null, .null, .null, .int (nI 0), .null, .null, .null]))) (Ne.symm ne_md_qle) f_qle
  have f_qdg := hp_k (e := (.inr (6, [.ref qro, .int (nI 0), .ref qte, .int (nI 0), .int (nI 0), .int (nI 0), .int (nI 0), .ref qhe, .ref qcn, .ref qkd, .ref qsz, .ref qky, .ref qle, .ref qdg, .null, .null, .null, .null, .int (nI 0), .null, .null, .null]))) (Ne.symm ne_md_qdg) f_qdg
  have f_md : hp_up M90 md (.inr (6, [.ref qro, .int (nI 0), .ref qte, .int (nI 0), .int (nI 0), .int (nI 0), .int (nI 0), .ref qhe, .ref qcn, .ref qkd, .ref qsz, .ref qky, .ref qle, .ref qdg, .null, .null, .null, .null, .int (nI 0), .null, .null, .null])) md = some (.inr (6, [.ref qro, .int (nI 0), .ref qte, .int (nI 0), .int (nI 0), .int (nI 0), .int (nI 0), .ref qhe, .ref qcn, .ref qkd, .ref qsz, .ref qky, .ref qle, .ref qdg, .null, .null, .null, .null, .int (nI 0), .null, .null, .null])) := hp_us
  obtain ⟨M91, eM91⟩ : ∃ z, z = hp_up M90 md (.inr (6, [.ref qro, .int (nI 0), .ref qte, .int (nI 0), .int (nI 0), .int (nI 0), .int (nI 0), .ref qhe, .ref qcn, .ref qkd, .ref qsz, .ref qky, .ref qle, .ref qdg, .null, .null, .null, .null, .int (nI 0), .null, .null, .null])) := ⟨_, rfl⟩
  rw [← eM91] at hM f_md f_qro f_qte f_qhe f_qcn f_qkd f_qsz f_qky f_qle f_qdg
  refine lv_aload_n hx hb d_MD_init_507 rfl (lv_at hl 0 rfl) ?_
  refine lv_sipush (v := nI 128) hx hb d_MD_init_508 rfl ?_
  refine hp_newi S hK hM hS hA (atype := .int) rfl ma_int 1 rfl rfl (by decide) 128 rfl (by omega) (by decide) (by decide) d_MD_init_511 (fun qnm H hq_qnm hM hS => ?_)
  refine W.widen (k := 10) (n := 21884) (by omega) (by omega) ?_
  rw [nf_0] at hM
  have ne_md_qnm : md ≠ qnm := hp_nn f_md hq_qnm
  have f_md := hp_k (e := (.inl (ct 1, 128, .inl (nf (fun _ => 0))))) ne_md_qnm f_md
  have ne_qro_qnm : qro ≠ qnm := hp_nn f_qro hq_qnm
  have f_qro := hp_k (e := (.inl (ct 1, 128, .inl (nf (fun _ => 0))))) ne_qro_qnm f_qro
  have ne_qte_qnm : qte ≠ qnm := hp_nn f_qte hq_qnm
  have f_qte := hp_k (e := (.inl (ct 1, 128, .inl (nf (fun _ => 0))))) ne_qte_qnm f_qte
  have ne_qhe_qnm : qhe ≠ qnm := hp_nn f_qhe hq_qnm
  have f_qhe := hp_k (e := (.inl (ct 1, 128, .inl (nf (fun _ => 0))))) ne_qhe_qnm f_qhe
  have ne_qcn_qnm : qcn ≠ qnm := hp_nn f_qcn hq_qnm
  have f_qcn := hp_k (e := (.inl (ct 1, 128, .inl (nf (fun _ => 0))))) ne_qcn_qnm f_qcn
  have ne_qkd_qnm : qkd ≠ qnm := hp_nn f_qkd hq_qnm
  have f_qkd := hp_k (e := (.inl (ct 1, 128, .inl (nf (fun _ => 0))))) ne_qkd_qnm f_qkd
  have ne_qsz_qnm : qsz ≠ qnm := hp_nn f_qsz hq_qnm
  have f_qsz := hp_k (e := (.inl (ct 1, 128, .inl (nf (fun _ => 0))))) ne_qsz_qnm f_qsz
  have ne_qky_qnm : qky ≠ qnm := hp_nn f_qky hq_qnm
  have f_qky := hp_k (e := (.inl (ct 1, 128, .inl (nf (fun _ => 0))))) ne_qky_qnm f_qky
  have ne_qle_qnm : qle ≠ qnm := hp_nn f_qle hq_qnm
  have f_qle := hp_k (e := (.inl (ct 1, 128, .inl (nf (fun _ => 0))))) ne_qle_qnm f_qle
  have ne_qdg_qnm : qdg ≠ qnm := hp_nn f_qdg hq_qnm
  have f_qdg := hp_k (e := (.inl (ct 1, 128, .inl (nf (fun _ => 0))))) ne_qdg_qnm f_qdg
  have f_qnm : hp_up M91 qnm (.inl (ct 1, 128, .inl (nf (fun _ => 0)))) qnm = some (.inl (ct 1, 128, .inl (nf (fun _ => 0)))) := hp_us
  obtain ⟨M92, eM92⟩ : ∃ z, z = hp_up M91 qnm (.inl (ct 1, 128, .inl (nf (fun _ => 0)))) := ⟨_, rfl⟩
  rw [← eM92] at hM f_md f_qro f_qte f_qhe f_qcn f_qkd f_qsz f_qky f_qle f_qdg f_qnm
  refine hp_putF (ty := (.array .int)) (fs' := [.ref qro, .int (nI 0), .ref qte, .int (nI 0), .int (nI 0), .int (nI 0), .int (nI 0), .ref qhe, .ref qcn, .ref qkd, .ref qsz, .ref qky, .ref qle, .ref qdg, .ref qnm, .null, .null, .null, .int (nI 0), .null, .null, .null]) S hK hM hS i_MD t_MD to_MD n_MD f_md rfl 14 (by decide) mf_MD_109 (fun _ h9 => h9) rfl hnm rfl (by decide +kernel) rfl rfl (by simp) rfl d_MD_init_513 (fun H locs hM hS => ?_)
  have f_qro := hp_k (e := (.inr (6, [.ref qro, .int (nI 0), .ref qte, .int (nI 0), .int (nI 0), .int (nI 0), .int (nI 0), .ref qhe, .ref qcn, .ref qkd, .ref qsz, .ref qky, .ref qle, .ref qdg, .ref qnm, .null, .null, .null, .int (nI 0), .null, .null, .null]))) (Ne.symm ne_md_qro) f_qro
  have f_qte := hp_k (e := (.inr (6, [.ref qro, .int (nI 0), .ref qte, .int (nI 0), .int (nI 0), .int (nI 0), .int (nI 0), .ref qhe, .ref qcn, .ref qkd, .ref qsz, .ref qky, .ref qle, .ref qdg, .ref qnm, .null, .null, .null, .int (nI 0), .null, .null, .null]))) (Ne.symm ne_md_qte) f_qte
  have f_qhe := hp_k (e := (.inr (6, [.ref qro, .int (nI 0), .ref qte, .int (nI 0), .int (nI 0), .int (nI 0), .int (nI 0), .ref qhe, .ref qcn, .ref qkd, .ref qsz, .ref qky, .ref qle, .ref qdg, .ref qnm, .null, .null, .null, .int (nI 0), .null, .null, .null]))) (Ne.symm ne_md_qhe) f_qhe
  have f_qcn := hp_k (e := (.inr (6, [.ref qro, .int (nI 0), .ref qte, .int (nI 0), .int (nI 0), .int (nI 0), .int (nI 0), .ref qhe, .ref qcn, .ref qkd, .ref qsz, .ref qky, .ref qle, .ref qdg, .ref qnm, .null, .null, .null, .int (nI 0), .null, .null, .null]))) (Ne.symm ne_md_qcn) f_qcn
  have f_qkd := hp_k (e := (.inr (6, [.ref qro, .int (nI 0), .ref qte, .int (nI 0), .int (nI 0), .int (nI 0), .int (nI 0), .ref qhe, .ref qcn, .ref qkd, .ref qsz, .ref qky, .ref qle, .ref qdg, .ref qnm, .null, .null, .null, .int (nI 0), .null, .null, .null]))) (Ne.symm ne_md_qkd) f_qkd
  have f_qsz := hp_k (e := (.inr (6, [.ref qro, .int (nI 0), .ref qte, .int (nI 0), .int (nI 0), .int (nI 0), .int (nI 0), .ref qhe, .ref qcn, .ref qkd, .ref qsz, .ref qky, .ref qle, .ref qdg, .ref qnm, .null, .null, .null, .int (nI 0), .null, .null, .null]))) (Ne.symm ne_md_qsz) f_qsz
  have f_qky := hp_k (e := (.inr (6, [.ref qro, .int (nI 0), .ref qte, .int (nI 0), .int (nI 0), .int (nI 0), .int (nI 0), .ref qhe, .ref qcn, .ref qkd, .ref qsz, .ref qky, .ref qle, .ref qdg, .ref qnm, .null, .null, .null, .int (nI 0), .null, .null, .null]))) (Ne.symm ne_md_qky) f_qky
  have f_qle := hp_k (e := (.inr (6, [.ref qro, .int (nI 0), .ref qte, .int (nI 0), .int (nI 0), .int (nI 0), .int (nI 0), .ref qhe, .ref qcn, .ref qkd, .ref qsz, .ref qky, .ref qle, .ref qdg, .ref qnm, .null, .null, .null, .int (nI 0), .null, .null, .null]))) (Ne.symm ne_md_qle) f_qle
  have f_qdg := hp_k (e := (.inr (6, [.ref qro, .int (nI 0), .ref qte, .int (nI 0), .int (nI 0), .int (nI 0), .int (nI 0), .ref qhe, .ref qcn, .ref qkd, .ref qsz, .ref qky, .ref qle, .ref qdg, .ref qnm, .null, .null, .null, .int (nI 0), .null, .null, .null]))) (Ne.symm ne_md_qdg) f_qdg
  have f_qnm := hp_k (e := (.inr (6, [.ref qro, .int (nI 0), .ref qte, .int (nI 0), .int (nI 0), .int (nI 0), .int (nI 0), .ref qhe, .ref qcn, .ref qkd, .ref qsz, .ref qky, .ref qle, .ref qdg, .ref qnm, .null, .null, .null, .int (nI 0), .null, .null, .null]))) (Ne.symm ne_md_qnm) f_qnm
  have f_md : hp_up M92 md (.inr (6, [.ref qro, .int (nI 0), .ref qte, .int (nI 0), .int (nI 0), .int (nI 0), .int (nI 0), .ref qhe, .ref qcn, .ref qkd, .ref qsz, .ref qky, .ref qle, .ref qdg, .ref qnm, .null, .null, .null, .int (nI 0), .null, .null, .null])) md = some (.inr (6, [.ref qro, .int (nI 0), .ref qte, .int (nI 0), .int (nI 0), .int (nI 0), .int (nI 0), .ref qhe, .ref qcn, .ref qkd, .ref qsz, .ref qky, .ref qle, .ref qdg, .ref qnm, .null, .null, .null, .int (nI 0), .null, .null, .null])) := hp_us
  obtain ⟨M93, eM93⟩ : ∃ z, z = hp_up M92 md (.inr (6, [.ref qro, .int (nI 0), .ref qte, .int (nI 0), .int (nI 0), .int (nI 0), .int (nI 0), .ref qhe, .ref qcn, .ref qkd, .ref qsz, .ref qky, .ref qle, .ref qdg, .ref qnm, .null, .null, .null, .int (nI 0), .null, .null, .null])) := ⟨_, rfl⟩
  rw [← eM93] at hM f_md f_qro f_qte f_qhe f_qcn f_qkd f_qsz f_qky f_qle f_qdg f_qnm
  refine lv_aload_n hx hb d_MD_init_516 rfl (lv_at hl 0 rfl) ?_
  refine lv_bipush (v := nI 8) hx hb d_MD_init_517 rfl ?_
  refine hp_newi S hK hM hS hA (atype := .int) rfl ma_int 1 rfl rfl (by decide) 8 rfl (by omega) (by decide) (by decide) d_MD_init_519 (fun qns H hq_qns hM hS => ?_)
  refine W.widen (k := 11) (n := 21892) (by omega) (by omega) ?_
  rw [nf_0] at hM
  have ne_md_qns : md ≠ qns := hp_nn f_md hq_qns
  have f_md := hp_k (e := (.inl (ct 1, 8, .inl (nf (fun _ => 0))))) ne_md_qns f_md
  have ne_qro_qns : qro ≠ qns := hp_nn f_qro hq_qns
  have f_qro := hp_k (e := (.inl (ct 1, 8, .inl (nf (fun _ => 0))))) ne_qro_qns f_qro
  have ne_qte_qns : qte ≠ qns := hp_nn f_qte hq_qns
  have f_qte := hp_k (e := (.inl (ct 1, 8, .inl (nf (fun _ => 0))))) ne_qte_qns f_qte
  have ne_qhe_qns : qhe ≠ qns := hp_nn f_qhe hq_qns
  have f_qhe := hp_k (e := (.inl (ct 1, 8, .inl (nf (fun _ => 0))))) ne_qhe_qns f_qhe
  have ne_qcn_qns : qcn ≠ qns := hp_nn f_qcn hq_qns
  have f_qcn := hp_k (e := (.inl (ct 1, 8, .inl (nf (fun _ => 0))))) ne_qcn_qns f_qcn
  have ne_qkd_qns : qkd ≠ qns := hp_nn f_qkd hq_qns
  have f_qkd := hp_k (e := (.inl (ct 1, 8, .inl (nf (fun _ => 0))))) ne_qkd_qns f_qkd
  have ne_qsz_qns : qsz ≠ qns := hp_nn f_qsz hq_qns
  have f_qsz := hp_k (e := (.inl (ct 1, 8, .inl (nf (fun _ => 0))))) ne_qsz_qns f_qsz
  have ne_qky_qns : qky ≠ qns := hp_nn f_qky hq_qns
  have f_qky := hp_k (e := (.inl (ct 1, 8, .inl (nf (fun _ => 0))))) ne_qky_qns f_qky
  have ne_qle_qns : qle ≠ qns := hp_nn f_qle hq_qns
  have f_qle := hp_k (e := (.inl (ct 1, 8, .inl (nf (fun _ => 0))))) ne_qle_qns f_qle
  have ne_qdg_qns : qdg ≠ qns := hp_nn f_qdg hq_qns
  have f_qdg := hp_k (e := (.inl (ct 1, 8, .inl (nf (fun _ => 0))))) ne_qdg_qns f_qdg
  have ne_qnm_qns : qnm ≠ qns := hp_nn f_qnm hq_qns
  have f_qnm := hp_k (e := (.inl (ct 1, 8, .inl (nf (fun _ => 0))))) ne_qnm_qns f_qnm
  have f_qns : hp_up M93 qns (.inl (ct 1, 8, .inl (nf (fun _ => 0)))) qns = some (.inl (ct 1, 8, .inl (nf (fun _ => 0)))) := hp_us
  obtain ⟨M94, eM94⟩ : ∃ z, z = hp_up M93 qns (.inl (ct 1, 8, .inl (nf (fun _ => 0)))) := ⟨_, rfl⟩
  rw [← eM94] at hM f_md f_qro f_qte f_qhe f_qcn f_qkd f_qsz f_qky f_qle f_qdg f_qnm f_qns
  refine hp_putF (ty := (.array .int)) (fs' := [.ref qro, .int (nI 0), .ref qte, .int (nI 0), .int (nI 0), .int (nI 0), .int (nI 0), .ref qhe, .ref qcn, .ref qkd, .ref qsz, .ref qky, .ref qle, .ref qdg, .ref qnm, .ref qns, .null, .null, .int (nI 0), .null, .null, .null]) S hK hM hS i_MD t_MD to_MD n_MD f_md rfl 15 (by decide) mf_MD_112 (fun _ h9 => h9) rfl hnm rfl (by decide +kernel) rfl rfl (by simp) rfl d_MD_init_521 (fun H locs hM hS => ?_)
  have f_qro := hp_k (e := (.inr (6, [.ref qro, .int (nI 0), .ref qte, .int (nI 0), .int (nI 0), .int (nI 0), .int (nI 0), .ref qhe, .ref qcn, .ref qkd, .ref qsz, .ref qky, .ref qle, .ref qdg, .ref qnm, .ref qns, .null, .null, .int (nI 0), .null, .null, .null]))) (Ne.symm ne_md_qro) f_qro
  have f_qte := hp_k (e := (.inr (6, [.ref qro, .int (nI 0), .ref qte, .int (nI 0), .int (nI 0), .int (nI 0), .int (nI 0), .ref qhe, .ref qcn, .ref qkd, .ref qsz, .ref qky, .ref qle, .ref qdg, .ref qnm, .ref qns, .null, .null, .int (nI 0), .null, .null, .null]))) (Ne.symm ne_md_qte) f_qte
  have f_qhe := hp_k (e := (.inr (6, [.ref qro, .int (nI 0), .ref qte, .int (nI 0), .int (nI 0), .int (nI 0), .int (nI 0), .ref qhe, .ref qcn, .ref qkd, .ref qsz, .ref qky, .ref qle, .ref qdg, .ref qnm, .ref qns, .null, .null, .int (nI 0), .null, .null, .null]))) (Ne.symm ne_md_qhe) f_qhe
  have f_qcn := hp_k (e := (.inr (6, [.ref qro, .int (nI 0), .ref qte, .int (nI 0), .int (nI 0), .int (nI 0), .int (nI 0), .ref qhe, .ref qcn, .ref qkd, .ref qsz, .ref qky, .ref qle, .ref qdg, .ref qnm, .ref qns, .null, .null, .int (nI 0), .null, .null, .null]))) (Ne.symm ne_md_qcn) f_qcn
  have f_qkd := hp_k (e := (.inr (6, [.ref qro, .int (nI 0), .ref qte, .int (nI 0), .int (nI 0), .int (nI 0), .int (nI 0), .ref qhe, .ref qcn, .ref qkd, .ref qsz, .ref qky, .ref qle, .ref qdg, .ref qnm, .ref qns, .null, .null, .int (nI 0), .null, .null, .null]))) (Ne.symm ne_md_qkd) f_qkd
  have f_qsz := hp_k (e := (.inr (6, [.ref qro, .int (nI 0), .ref qte, .int (nI 0), .int (nI 0), .int (nI 0), .int (nI 0), .ref qhe, .ref qcn, .ref qkd, .ref qsz, .ref qky, .ref qle, .ref qdg, .ref qnm, .ref qns, .null, .null, .int (nI 0), .null, .null, .null]))) (Ne.symm ne_md_qsz) f_qsz
  have f_qky := hp_k (e := (.inr (6, [.ref qro, .int (nI 0), .ref qte, .int (nI 0), .int (nI 0), .int (nI 0), .int (nI 0), .ref qhe, .ref qcn, .ref qkd, .ref qsz, .ref qky, .ref qle, .ref qdg, .ref qnm, .ref qns, .null, .null, .int (nI 0), .null, .null, .null]))) (Ne.symm ne_md_qky) f_qky
  have f_qle := hp_k (e := (.inr (6, [.ref qro, .int (nI 0), .ref qte, .int (nI 0), .int (nI 0), .int (nI 0), .int (nI 0), .ref qhe, .ref qcn, .ref qkd, .ref qsz, .ref qky, .ref qle, .ref qdg, .ref qnm, .ref qns, .null, .null, .int (nI 0), .null, .null, .null]))) (Ne.symm ne_md_qle) f_qle
  have f_qdg := hp_k (e := (.inr (6, [.ref qro, .int (nI 0), .ref qte, .int (nI 0), .int (nI 0), .int (nI 0), .int (nI 0), .ref qhe, .ref qcn, .ref qkd, .ref qsz, .ref qky, .ref qle, .ref qdg, .ref qnm, .ref qns, .null, .null, .int (nI 0), .null, .null, .null]))) (Ne.symm ne_md_qdg) f_qdg
  have f_qnm := hp_k (e := (.inr (6, [.ref qro, .int (nI 0), .ref qte, .int (nI 0), .int (nI 0), .int (nI 0), .int (nI 0), .ref qhe, .ref qcn, .ref qkd, .ref qsz, .ref qky, .ref qle, .ref qdg, .ref qnm, .ref qns, .null, .null, .int (nI 0), .null, .null, .null]))) (Ne.symm ne_md_qnm) f_qnm
  have f_qns := hp_k (e := (.inr (6, [.ref qro, .int (nI 0), .ref qte, .int (nI 0), .int (nI 0), .int (nI 0), .int (nI 0), .ref qhe, .ref qcn, .ref qkd, .ref qsz, .ref qky, .ref qle, .ref qdg, .ref qnm, .ref qns, .null, .null, .int (nI 0), .null, .null, .null]))) (Ne.symm ne_md_qns) f_qns
  have f_md : hp_up M94 md (.inr (6, [.ref qro, .int (nI 0), .ref qte, .int (nI 0), .int (nI 0), .int (nI 0), .int (nI 0), .ref qhe, .ref qcn, .ref qkd, .ref qsz, .ref qky, .ref qle, .ref qdg, .ref qnm, .ref qns, .null, .null, .int (nI 0), .null, .null, .null])) md = some (.inr (6, [.ref qro, .int (nI 0), .ref qte, .int (nI 0), .int (nI 0), .int (nI 0), .int (nI 0), .ref qhe, .ref qcn, .ref qkd, .ref qsz, .ref qky, .ref qle, .ref qdg, .ref qnm, .ref qns, .null, .null, .int (nI 0), .null, .null, .null])) := hp_us
  obtain ⟨M95, eM95⟩ : ∃ z, z = hp_up M94 md (.inr (6, [.ref qro, .int (nI 0), .ref qte, .int (nI 0), .int (nI 0), .int (nI 0), .int (nI 0), .ref qhe, .ref qcn, .ref qkd, .ref qsz, .ref qky, .ref qle, .ref qdg, .ref qnm, .ref qns, .null, .null, .int (nI 0), .null, .null, .null])) := ⟨_, rfl⟩
  rw [← eM95] at hM f_md f_qro f_qte f_qhe f_qcn f_qkd f_qsz f_qky f_qle f_qdg f_qnm f_qns
  refine lv_aload_n hx hb d_MD_init_524 rfl (lv_at hl 0 rfl) ?_
  refine lv_bipush (v := nI 16) hx hb d_MD_init_525 rfl ?_
  refine hp_newi S hK hM hS hA (atype := .int) rfl ma_int 1 rfl rfl (by decide) 16 rfl (by omega) (by decide) (by decide) d_MD_init_527 (fun qsl H hq_qsl hM hS => ?_)
  refine W.widen (k := 12) (n := 21908) (by omega) (by omega) ?_
  rw [nf_0] at hM
  have ne_md_qsl : md ≠ qsl := hp_nn f_md hq_qsl
  have f_md := hp_k (e := (.inl (ct 1, 16, .inl (nf (fun _ => 0))))) ne_md_qsl f_md
  have ne_qro_qsl : qro ≠ qsl := hp_nn f_qro hq_qsl
  have f_qro := hp_k (e := (.inl (ct 1, 16, .inl (nf (fun _ => 0))))) ne_qro_qsl f_qro
  have ne_qte_qsl : qte ≠ qsl := hp_nn f_qte hq_qsl
  have f_qte := hp_k (e := (.inl (ct 1, 16, .inl (nf (fun _ => 0))))) ne_qte_qsl f_qte
  have ne_qhe_qsl : qhe ≠ qsl := hp_nn f_qhe hq_qsl
  have f_qhe := hp_k (e := (.inl (ct 1, 16, .inl (nf (fun _ => 0))))) ne_qhe_qsl f_qhe
  have ne_qcn_qsl : qcn ≠ qsl := hp_nn f_qcn hq_qsl
  have f_qcn := hp_k (e := (.inl (ct 1, 16, .inl (nf (fun _ => 0))))) ne_qcn_qsl f_qcn
  have ne_qkd_qsl : qkd ≠ qsl := hp_nn f_qkd hq_qsl
  have f_qkd := hp_k (e := (.inl (ct 1, 16, .inl (nf (fun _ => 0))))) ne_qkd_qsl f_qkd
  have ne_qsz_qsl : qsz ≠ qsl := hp_nn f_qsz hq_qsl
  have f_qsz := hp_k (e := (.inl (ct 1, 16, .inl (nf (fun _ => 0))))) ne_qsz_qsl f_qsz
  have ne_qky_qsl : qky ≠ qsl := hp_nn f_qky hq_qsl
  have f_qky := hp_k (e := (.inl (ct 1, 16, .inl (nf (fun _ => 0))))) ne_qky_qsl f_qky
  have ne_qle_qsl : qle ≠ qsl := hp_nn f_qle hq_qsl
  have f_qle := hp_k (e := (.inl (ct 1, 16, .inl (nf (fun _ => 0))))) ne_qle_qsl f_qle
  have ne_qdg_qsl : qdg ≠ qsl := hp_nn f_qdg hq_qsl
  have f_qdg := hp_k (e := (.inl (ct 1, 16, .inl (nf (fun _ => 0))))) ne_qdg_qsl f_qdg
  have ne_qnm_qsl : qnm ≠ qsl := hp_nn f_qnm hq_qsl
  have f_qnm := hp_k (e := (.inl (ct 1, 16, .inl (nf (fun _ => 0))))) ne_qnm_qsl f_qnm
  have ne_qns_qsl : qns ≠ qsl := hp_nn f_qns hq_qsl
  have f_qns := hp_k (e := (.inl (ct 1, 16, .inl (nf (fun _ => 0))))) ne_qns_qsl f_qns
  have f_qsl : hp_up M95 qsl (.inl (ct 1, 16, .inl (nf (fun _ => 0)))) qsl = some (.inl (ct 1, 16, .inl (nf (fun _ => 0)))) := hp_us
  obtain ⟨M96, eM96⟩ : ∃ z, z = hp_up M95 qsl (.inl (ct 1, 16, .inl (nf (fun _ => 0)))) := ⟨_, rfl⟩
  rw [← eM96] at hM f_md f_qro f_qte f_qhe f_qcn f_qkd f_qsz f_qky f_qle f_qdg f_qnm f_qns f_qsl
  refine hp_putF (ty := (.array .int)) (fs' := [.ref qro, .int (nI 0), .ref qte, .int (nI 0), .int (nI 0), .int (nI 0), .int (nI 0), .ref qhe, .ref qcn, .ref qkd, .ref qsz, .ref qky, .ref qle, .ref qdg, .ref qnm, .ref qns, .ref qsl, .null, .int (nI 0), .null, .null, .null]) S hK hM hS i_MD t_MD to_MD n_MD f_md rfl 16 (by decide) mf_MD_115 (fun _ h9 => h9) rfl hnm rfl (by decide +kernel) rfl rfl (by simp) rfl d_MD_init_529 (fun H locs hM hS => ?_)
  have f_qro := hp_k (e := (.inr (6, [.ref qro, .int (nI 0), .ref qte, .int (nI 0), .int (nI 0), .int (nI 0), .int (nI 0), .ref qhe, .ref qcn, .ref qkd, .ref qsz, .ref qky, .ref qle, .ref qdg, .ref qnm, .ref qns, .ref qsl, .null, .int (nI 0), .null, .null, .null]))) (Ne.symm ne_md_qro) f_qro
  have f_qte := hp_k (e := (.inr (6, [.ref qro, .int (nI 0), .ref qte, .int (nI 0), .int (nI 0), .int (nI 0), .int (nI 0), .ref qhe, .ref qcn, .ref qkd, .ref qsz, .ref qky, .ref qle, .ref qdg, .ref qnm, .ref qns, .ref qsl, .null, .int (nI 0), .null, .null, .null]))) (Ne.symm ne_md_qte) f_qte
  have f_qhe := hp_k (e := (.inr (6, [.ref qro, .int (nI 0), .ref qte, .int (nI 0), .int (nI 0), .int (nI 0), .int (nI 0), .ref qhe, .ref qcn, .ref qkd, .ref qsz, .ref qky, .ref qle, .ref qdg, .ref qnm, .ref qns, .ref qsl, .null, .int (nI 0), .null, .null, .null]))) (Ne.symm ne_md_qhe) f_qhe
  have f_qcn := hp_k (e := (.inr (6, [.ref qro, .int (nI 0), .ref qte, .int (nI 0), .int (nI 0), .int (nI 0), .int (nI 0), .ref qhe, .ref qcn, .ref qkd, .ref qsz, .ref qky, .ref qle, .ref qdg, .ref qnm, .ref qns, .ref qsl, .null, .int (nI 0), .null, .null, .null]))) (Ne.symm ne_md_qcn) f_qcn
  have f_qkd := hp_k (e := (.inr (6, [.ref qro, .int (nI 0), .ref qte, .int (nI 0), .int (nI 0), .int (nI 0), .int (nI 0), .ref qhe, .ref qcn, .ref qkd, .ref qsz, .ref qky, .ref qle, .ref qdg, .ref qnm, .ref qns, .ref qsl, .null, .int (nI 0), .null, .null, .null]))) (Ne.symm ne_md_qkd) f_qkd
  have f_qsz := hp_k (e := (.inr (6, [.ref qro, .int (nI 0), .ref qte, .int (nI 0), .int (nI 0), .int (nI 0), .int (nI 0), .ref qhe, .ref qcn, .ref qkd, .ref qsz, .ref qky, .ref qle, .ref qdg, .ref qnm, .ref qns, .ref qsl, .null, .int (nI 0), .null, .null, .null]))) (Ne.symm ne_md_qsz) f_qsz
  have f_qky := hp_k (e := (.inr (6, [.ref qro, .int (nI 0), .ref qte, .int (nI 0), .int (nI 0), .int (nI 0), .int (nI 0), .ref qhe, .ref qcn, .ref qkd, .ref qsz, .ref qky, .ref qle, .ref qdg, .ref qnm, .ref qns, .ref qsl, .null, .int (nI 0), .null, .null, .null]))) (Ne.symm ne_md_qky) f_qky
  have f_qle := hp_k (e := (.inr (6, [.ref qro, .int (nI 0), .ref qte, .int (nI 0), .int (nI 0), .int (nI 0), .int (nI 0), .ref qhe, .ref qcn, .ref qkd, .ref qsz, .ref qky, .ref qle, .ref qdg, .ref qnm, .ref qns, .ref qsl, .null, .int (nI 0), .null, .null, .null]))) (Ne.symm ne_md_qle) f_qle
  have f_qdg := hp_k (e := (.inr (6, [.ref qro, .int (nI 0), .ref qte, .int (nI 0), .int (nI 0), .int (nI 0), .int (nI 0), .ref qhe, .ref qcn, .ref qkd, .ref qsz, .ref qky, .ref qle, .ref qdg, .ref qnm, .ref qns, .ref qsl, .null, .int (nI 0), .null, .null, .null]))) (Ne.symm ne_md_qdg) f_qdg
  have f_qnm := hp_k (e := (.inr (6, [.ref qro, .int (nI 0), .ref qte, .int (nI 0), .int (nI 0), .int (nI 0), .int (nI 0), .ref qhe, .ref qcn, .ref qkd, .ref qsz, .ref qky, .ref qle, .ref qdg, .ref qnm, .ref qns, .ref qsl, .null, .int (nI 0), .null, .null, .null]))) (Ne.symm ne_md_qnm) f_qnm
  have f_qns := hp_k (e := (.inr (6, [.ref qro, .int (nI 0), .ref qte, .int (nI 0), .int (nI 0), .int (nI 0), .int (nI 0), .ref qhe, .ref qcn, .ref qkd, .ref qsz, .ref qky, .ref qle, .ref qdg, .ref qnm, .ref qns, .ref qsl, .null, .int (nI 0), .null, .null, .null]))) (Ne.symm ne_md_qns) f_qns
  have f_qsl := hp_k (e := (.inr (6, [.ref qro, .int (nI 0), .ref qte, .int (nI 0), .int (nI 0), .int (nI 0), .int (nI 0), .ref qhe, .ref qcn, .ref qkd, .ref qsz, .ref qky, .ref qle, .ref qdg, .ref qnm, .ref qns, .ref qsl, .null, .int (nI 0), .null, .null, .null]))) (Ne.symm ne_md_qsl) f_qsl
  have f_md : hp_up M96 md (.inr (6, [.ref qro, .int (nI 0), .ref qte, .int (nI 0), .int (nI 0), .int (nI 0), .int (nI 0), .ref qhe, .ref qcn, .ref qkd, .ref qsz, .ref qky, .ref qle, .ref qdg, .ref qnm, .ref qns, .ref qsl, .null, .int (nI 0), .null, .null, .null])) md = some (.inr (6, [.ref qro, .int (nI 0), .ref qte, .int (nI 0), .int (nI 0), .int (nI 0), .int (nI 0), .ref qhe, .ref qcn, .ref qkd, .ref qsz, .ref qky, .ref qle, .ref qdg, .ref qnm, .ref qns, .ref qsl, .null, .int (nI 0), .null, .null, .null])) := hp_us
  obtain ⟨M97, eM97⟩ : ∃ z, z = hp_up M96 md (.inr (6, [.ref qro, .int (nI 0), .ref qte, .int (nI 0), .int (nI 0), .int (nI 0), .int (nI 0), .ref qhe, .ref qcn, .ref qkd, .ref qsz, .ref qky, .ref qle, .ref qdg, .ref qnm, .ref qns, .ref qsl, .null, .int (nI 0), .null, .null, .null])) := ⟨_, rfl⟩
  rw [← eM97] at hM f_md f_qro f_qte f_qhe f_qcn f_qkd f_qsz f_qky f_qle f_qdg f_qnm f_qns f_qsl
  refine lv_aload_n hx hb d_MD_init_532 rfl (lv_at hl 0 rfl) ?_
  refine lv_sipush (v := nI 3000) hx hb d_MD_init_533 rfl ?_
  refine hp_newi S hK hM hS hA (atype := .int) rfl ma_int 1 rfl rfl (by decide) 3000 rfl (by omega) (by decide) (by decide) d_MD_init_536 (fun qsb H hq_qsb hM hS => ?_)
  refine W.widen (k := 13) (n := 24908) (by omega) (by omega) ?_
  rw [nf_0] at hM
  have ne_md_qsb : md ≠ qsb := hp_nn f_md hq_qsb
  have f_md := hp_k (e := (.inl (ct 1, 3000, .inl (nf (fun _ => 0))))) ne_md_qsb f_md
  have ne_qro_qsb : qro ≠ qsb := hp_nn f_qro hq_qsb
  have f_qro := hp_k (e := (.inl (ct 1, 3000, .inl (nf (fun _ => 0))))) ne_qro_qsb f_qro
  have ne_qte_qsb : qte ≠ qsb := hp_nn f_qte hq_qsb
  have f_qte := hp_k (e := (.inl (ct 1, 3000, .inl (nf (fun _ => 0))))) ne_qte_qsb f_qte
  have ne_qhe_qsb : qhe ≠ qsb := hp_nn f_qhe hq_qsb
  have f_qhe := hp_k (e := (.inl (ct 1, 3000, .inl (nf (fun _ => 0))))) ne_qhe_qsb f_qhe
  have ne_qcn_qsb : qcn ≠ qsb := hp_nn f_qcn hq_qsb
  have f_qcn := hp_k (e := (.inl (ct 1, 3000, .inl (nf (fun _ => 0))))) ne_qcn_qsb f_qcn
  have ne_qkd_qsb : qkd ≠ qsb := hp_nn f_qkd hq_qsb
  have f_qkd := hp_k (e := (.inl (ct 1, 3000, .inl (nf (fun _ => 0))))) ne_qkd_qsb f_qkd
  have ne_qsz_qsb : qsz ≠ qsb := hp_nn f_qsz hq_qsb
  have f_qsz := hp_k (e := (.inl (ct 1, 3000, .inl (nf (fun _ => 0))))) ne_qsz_qsb f_qsz
  have ne_qky_qsb : qky ≠ qsb := hp_nn f_qky hq_qsb
  have f_qky := hp_k (e := (.inl (ct 1, 3000, .inl (nf (fun _ => 0))))) ne_qky_qsb f_qky
  have ne_qle_qsb : qle ≠ qsb := hp_nn f_qle hq_qsb
  have f_qle := hp_k (e := (.inl (ct 1, 3000, .inl (nf (fun _ => 0))))) ne_qle_qsb f_qle
  have ne_qdg_qsb : qdg ≠ qsb := hp_nn f_qdg hq_qsb
  have f_qdg := hp_k (e := (.inl (ct 1, 3000, .inl (nf (fun _ => 0))))) ne_qdg_qsb f_qdg
  have ne_qnm_qsb : qnm ≠ qsb := hp_nn f_qnm hq_qsb
  have f_qnm := hp_k (e := (.inl (ct 1, 3000, .inl (nf (fun _ => 0))))) ne_qnm_qsb f_qnm
  have ne_qns_qsb : qns ≠ qsb := hp_nn f_qns hq_qsb
  have f_qns := hp_k (e := (.inl (ct 1, 3000, .inl (nf (fun _ => 0))))) ne_qns_qsb f_qns
  have ne_qsl_qsb : qsl ≠ qsb := hp_nn f_qsl hq_qsb
  have f_qsl := hp_k (e := (.inl (ct 1, 3000, .inl (nf (fun _ => 0))))) ne_qsl_qsb f_qsl
  have f_qsb : hp_up M97 qsb (.inl (ct 1, 3000, .inl (nf (fun _ => 0)))) qsb = some (.inl (ct 1, 3000, .inl (nf (fun _ => 0)))) := hp_us
  obtain ⟨M98, eM98⟩ : ∃ z, z = hp_up M97 qsb (.inl (ct 1, 3000, .inl (nf (fun _ => 0)))) := ⟨_, rfl⟩
  rw [← eM98] at hM f_md f_qro f_qte f_qhe f_qcn f_qkd f_qsz f_qky f_qle f_qdg f_qnm f_qns f_qsl f_qsb
  refine hp_putF (ty := (.array .int)) (fs' := [.ref qro, .int (nI 0), .ref qte, .int (nI 0), .int (nI 0), .int (nI 0), .int (nI 0), .ref qhe, .ref qcn, .ref qkd, .ref qsz, .ref qky, .ref qle, .ref qdg, .ref qnm, .ref qns, .ref qsl, .ref qsb, .int (nI 0), .null, .null, .null]) S hK hM hS i_MD t_MD to_MD n_MD f_md rfl 17 (by decide) mf_MD_118 (fun _ h9 => h9) rfl hnm rfl (by decide +kernel) rfl rfl (by simp) rfl d_MD_init_538 (fun H locs hM hS => ?_)
  have f_qro := hp_k (e := (.inr (6, [.ref qro, .int (nI 0), .ref qte, .int (nI 0), .int (nI 0), .int (nI 0), .int (nI 0), .ref qhe, .ref qcn, .ref qkd, .ref qsz, .ref qky, .ref qle, .ref qdg, .ref qnm, .ref qns, .ref qsl, .ref qsb, .int (nI 0), .null, .null, .null]))) (Ne.symm ne_md_qro) f_qro
  have f_qte := hp_k (e := (.inr (6, [.ref qro, .int (nI 0), .ref qte, .int (nI 0), .int (nI 0), .int (nI 0), .int (nI 0), .ref qhe, .ref qcn, .ref qkd, .ref qsz, .ref qky, .ref qle, .ref qdg, .ref qnm, .ref qns, .ref qsl, .ref qsb, .int (nI 0), .null, .null, .null]))) (Ne.symm ne_md_qte) f_qte
  have f_qhe := hp_k (e := (.inr (6, [.ref qro, .int (nI 0), .ref qte, .int (nI 0), .int (nI 0), .int (nI 0), .int (nI 0), .ref qhe, .ref qcn, .ref qkd, .ref qsz, .ref qky, .ref qle, .ref qdg, .ref qnm, .ref qns, .ref qsl, .ref qsb, .int (nI 0), .null, .null, .null]))) (Ne.symm ne_md_qhe) f_qhe
  have f_qcn := hp_k (e := (.inr (6, [.ref qro, .int (nI 0), .ref qte, .int (nI 0), .int (nI 0), .int (nI 0), .int (nI 0), .ref qhe, .ref qcn, .ref qkd, .ref qsz, .ref qky, .ref qle, .ref qdg, .ref qnm, .ref qns, .ref qsl, .ref qsb, .int (nI 0), .null, .null, .null]))) (Ne.symm ne_md_qcn) f_qcn
  have f_qkd := hp_k (e := (.inr (6, [.ref qro, .int (nI 0), .ref qte, .int (nI 0), .int (nI 0), .int (nI 0), .int (nI 0), .ref qhe, .ref qcn, .ref qkd, .ref qsz, .ref qky, .ref qle, .ref qdg, .ref qnm, .ref qns, .ref qsl, .ref qsb, .int (nI 0), .null, .null, .null]))) (Ne.symm ne_md_qkd) f_qkd
  have f_qsz := hp_k (e := (.inr (6, [.ref qro, .int (nI 0), .ref qte, .int (nI 0), .int (nI 0), .int (nI 0), .int (nI 0), .ref qhe, .ref qcn, .ref qkd, .ref qsz, .ref qky, .ref qle, .ref qdg, .ref qnm, .ref qns, .ref qsl, .ref qsb, .int (nI 0), .null, .null, .null]))) (Ne.symm ne_md_qsz) f_qsz
  have f_qky := hp_k (e := (.inr (6, [.ref qro, .int (nI 0), .ref qte, .int (nI 0), .int (nI 0), .int (nI 0), .int (nI 0), .ref qhe, .ref qcn, .ref qkd, .ref qsz, .ref qky, .ref qle, .ref qdg, .ref qnm, .ref qns, .ref qsl, .ref qsb, .int (nI 0), .null, .null, .null]))) (Ne.symm ne_md_qky) f_qky
  have f_qle := hp_k (e := (.inr (6, [.ref qro, .int (nI 0), .ref qte, .int (nI 0), .int (nI 0), .int (nI 0), .int (nI 0), .ref qhe, .ref qcn, .ref qkd, .ref qsz, .ref qky, .ref qle, .ref qdg, .ref qnm, .ref qns, .ref qsl, .ref qsb, .int (nI 0), .null, .null, .null]))) (Ne.symm ne_md_qle) f_qle
  have f_qdg := hp_k (e := (.inr (6, [.ref qro, .int (nI 0), .ref qte, .int (nI 0), .int (nI 0), .int (nI 0), .int (nI 0), .ref qhe, .ref qcn, .ref qkd, .ref qsz, .ref qky, .ref qle, .ref qdg, .ref qnm, .ref qns, .ref qsl, .ref qsb, .int (nI 0), .null, .null, .null]))) (Ne.symm ne_md_qdg) f_qdg
  have f_qnm := hp_k (e := (.inr (6, [.ref qro, .int (nI 0), .ref qte, .int (nI 0), .int (nI 0), .int (nI 0), .int (nI 0), .ref qhe, .ref qcn, .ref qkd, .ref qsz, .ref qky, .ref qle, .ref qdg, .ref qnm, .ref qns, .ref qsl, .ref qsb, .int (nI 0), .null, .null, .null]))) (Ne.symm ne_md_qnm) f_qnm
  have f_qns := hp_k (e := (.inr (6, [.ref qro, .int (nI 0), .ref qte, .int (nI 0), .int (nI 0), .int (nI 0), .int (nI 0), .ref qhe, .ref qcn, .ref qkd, .ref qsz, .ref qky, .ref qle, .ref qdg, .ref qnm, .ref qns, .ref qsl, .ref qsb, .int (nI 0), .null, .null, .null]))) (Ne.symm ne_md_qns) f_qns
  have f_qsl := hp_k (e := (.inr (6, [.ref qro, .int (nI 0), .ref qte, .int (nI 0), .int (nI 0), .int (nI 0), .int (nI 0), .ref qhe, .ref qcn, .ref qkd, .ref qsz, .ref qky, .ref qle, .ref qdg, .ref qnm, .ref qns, .ref qsl, .ref qsb, .int (nI 0), .null, .null, .null]))) (Ne.symm ne_md_qsl) f_qsl
  have f_qsb := hp_k (e := (.inr (6, [.ref qro, .int (nI 0), .ref qte, .int (nI 0), .int (nI 0), .int (nI 0), .int (nI 0), .ref qhe, .ref qcn, .ref qkd, .ref qsz, .ref qky, .ref qle, .ref qdg, .ref qnm, .ref qns, .ref qsl, .ref qsb, .int (nI 0), .null, .null, .null]))) (Ne.symm ne_md_qsb) f_qsb
  have f_md : hp_up M98 md (.inr (6, [.ref qro, .int (nI 0), .ref qte, .int (nI 0), .int (nI 0), .int (nI 0), .int (nI 0), .ref qhe, .ref qcn, .ref qkd, .ref qsz, .ref qky, .ref qle, .ref qdg, .ref qnm, .ref qns, .ref qsl, .ref qsb, .int (nI 0), .null, .null, .null])) md = some (.inr (6, [.ref qro, .int (nI 0), .ref qte, .int (nI 0), .int (nI 0), .int (nI 0), .int (nI 0), .ref qhe, .ref qcn, .ref qkd, .ref qsz, .ref qky, .ref qle, .ref qdg, .ref qnm, .ref qns, .ref qsl, .ref qsb, .int (nI 0), .null, .null, .null])) := hp_us
  obtain ⟨M99, eM99⟩ : ∃ z, z = hp_up M98 md (.inr (6, [.ref qro, .int (nI 0), .ref qte, .int (nI 0), .int (nI 0), .int (nI 0), .int (nI 0), .ref qhe, .ref qcn, .ref qkd, .ref qsz, .ref qky, .ref qle, .ref qdg, .ref qnm, .ref qns, .ref qsl, .ref qsb, .int (nI 0), .null, .null, .null])) := ⟨_, rfl⟩
  rw [← eM99] at hM f_md f_qro f_qte f_qhe f_qcn f_qkd f_qsz f_qky f_qle f_qdg f_qnm f_qns f_qsl f_qsb
  refine lv_aload_n hx hb d_MD_init_541 rfl (lv_at hl 0 rfl) ?_
  refine lv_bipush (v := nI 8) hx hb d_MD_init_542 rfl ?_
  refine hp_newi S hK hM hS hA (atype := .int) rfl ma_int 1 rfl rfl (by decide) 8 rfl (by omega) (by decide) (by decide) d_MD_init_544 (fun qsu H hq_qsu hM hS => ?_)
  refine W.widen (k := 14) (n := 24916) (by omega) (by omega) ?_
  rw [nf_0] at hM
  have ne_md_qsu : md ≠ qsu := hp_nn f_md hq_qsu
  have f_md := hp_k (e := (.inl (ct 1, 8, .inl (nf (fun _ => 0))))) ne_md_qsu f_md
  have ne_qro_qsu : qro ≠ qsu := hp_nn f_qro hq_qsu
  have f_qro := hp_k (e := (.inl (ct 1, 8, .inl (nf (fun _ => 0))))) ne_qro_qsu f_qro
  have ne_qte_qsu : qte ≠ qsu := hp_nn f_qte hq_qsu
  have f_qte := hp_k (e := (.inl (ct 1, 8, .inl (nf (fun _ => 0))))) ne_qte_qsu f_qte
  have ne_qhe_qsu : qhe ≠ qsu := hp_nn f_qhe hq_qsu
  have f_qhe := hp_k (e := (.inl (ct 1, 8, .inl (nf (fun _ => 0))))) ne_qhe_qsu f_qhe
  have ne_qcn_qsu : qcn ≠ qsu := hp_nn f_qcn hq_qsu
  have f_qcn := hp_k (e := (.inl (ct 1, 8, .inl (nf (fun _ => 0))))) ne_qcn_qsu f_qcn
  have ne_qkd_qsu : qkd ≠ qsu := hp_nn f_qkd hq_qsu
  have f_qkd := hp_k (e := (.inl (ct 1, 8, .inl (nf (fun _ => 0))))) ne_qkd_qsu f_qkd
  have ne_qsz_qsu : qsz ≠ qsu := hp_nn f_qsz hq_qsu
  have f_qsz := hp_k (e := (.inl (ct 1, 8, .inl (nf (fun _ => 0))))) ne_qsz_qsu f_qsz
  have ne_qky_qsu : qky ≠ qsu := hp_nn f_qky hq_qsu
  have f_qky := hp_k (e := (.inl (ct 1, 8, .inl (nf (fun _ => 0))))) ne_qky_qsu f_qky
  have ne_qle_qsu : qle ≠ qsu := hp_nn f_qle hq_qsu
  have f_qle := hp_k (e := (.inl (ct 1, 8, .inl (nf (fun _ => 0))))) ne_qle_qsu f_qle
  have ne_qdg_qsu : qdg ≠ qsu := hp_nn f_qdg hq_qsu
  have f_qdg := hp_k (e := (.inl (ct 1, 8, .inl (nf (fun _ => 0))))) ne_qdg_qsu f_qdg
  have ne_qnm_qsu : qnm ≠ qsu := hp_nn f_qnm hq_qsu
  have f_qnm := hp_k (e := (.inl (ct 1, 8, .inl (nf (fun _ => 0))))) ne_qnm_qsu f_qnm
  have ne_qns_qsu : qns ≠ qsu := hp_nn f_qns hq_qsu
  have f_qns := hp_k (e := (.inl (ct 1, 8, .inl (nf (fun _ => 0))))) ne_qns_qsu f_qns
  have ne_qsl_qsu : qsl ≠ qsu := hp_nn f_qsl hq_qsu
  have f_qsl := hp_k (e := (.inl (ct 1, 8, .inl (nf (fun _ => 0))))) ne_qsl_qsu f_qsl
  have ne_qsb_qsu : qsb ≠ qsu := hp_nn f_qsb hq_qsu
  have f_qsb := hp_k (e := (.inl (ct 1, 8, .inl (nf (fun _ => 0))))) ne_qsb_qsu f_qsb
  have f_qsu : hp_up M99 qsu (.inl (ct 1, 8, .inl (nf (fun _ => 0)))) qsu = some (.inl (ct 1, 8, .inl (nf (fun _ => 0)))) := hp_us
  obtain ⟨M100, eM100⟩ : ∃ z, z = hp_up M99 qsu (.inl (ct 1, 8, .inl (nf (fun _ => 0)))) := ⟨_, rfl⟩
  rw [← eM100] at hM f_md f_qro f_qte f_qhe f_qcn f_qkd f_qsz f_qky f_qle f_qdg f_qnm f_qns f_qsl f_qsb f_qsu
  refine hp_putF (ty := (.array .int)) (fs' := [.ref qro, .int (nI 0), .ref qte, .int (nI 0), .int (nI 0), .int (nI 0), .int (nI 0), .ref qhe, .ref qcn, .ref qkd, .ref qsz, .ref qky, .ref qle, .ref qdg, .ref qnm, .ref qns, .ref qsl, .ref qsb, .int (nI 0), .ref qsu, .null, .null]) S hK hM hS i_MD t_MD to_MD n_MD f_md rfl 19 (by decide) mf_MD_121 (fun _ h9 => h9) rfl hnm rfl (by decide +kernel) rfl rfl (by simp) rfl d_MD_init_546 (fun H locs hM hS => ?_)
  have f_qro := hp_k (e := (.inr (6, [.ref qro, .int (nI 0), .ref qte, .int (nI 0), .int (nI 0), .int (nI 0), .int (nI 0), .ref qhe, .ref qcn, .ref qkd, .ref qsz, .ref qky, .ref qle, .ref qdg, .ref qnm, .ref qns, .ref qsl, .ref qsb, .int (nI 0), .ref qsu, .null, .null]))) (Ne.symm ne_md_qro) f_qro
  have f_qte := hp_k (e := (.inr (6, [.ref qro, .int (nI 0), .ref qte, .int (nI 0), .int (nI 0), .int (nI 0), .int (nI 0), .ref qhe, .ref qcn, .ref qkd, .ref qsz, .ref qky, .ref qle, .ref qdg, .ref qnm, .ref qns, .ref qsl, .ref qsb, .int (nI 0), .ref qsu, .null, .null]))) (Ne.symm ne_md_qte) f_qte
  have f_qhe := hp_k (e := (.inr (6, [.ref qro, .int (nI 0), .ref qte, .int (nI 0), .int (nI 0), .int (nI 0), .int (nI 0), .ref qhe, .ref qcn, .ref qkd, .ref qsz, .ref qky, .ref qle, .ref qdg, .ref qnm, .ref qns, .ref qsl, .ref qsb, .int (nI 0), .ref qsu, .null, .null]))) (Ne.symm ne_md_qhe) f_qhe
  have f_qcn := hp_k (e := (.inr (6, [.ref qro, .int (nI 0), .ref qte, .int (nI 0), .int (nI 0), .int (nI 0), .int (nI 0), .ref qhe, .ref qcn, .ref qkd, .ref qsz, .ref qky, .ref qle, .ref qdg, .ref qnm, .ref qns, .ref qsl, .ref qsb, .int (nI 0), .ref qsu, .null, .null]))) (Ne.symm ne_md_qcn) f_qcn
  have f_qkd := hp_k (e := (.inr (6, [.ref qro, .int (nI 0), .ref qte, .int (nI 0), .int (nI 0), .int (nI 0), .int (nI 0), .ref qhe, .ref qcn, .ref qkd, .ref qsz, .ref qky, .ref qle, .ref qdg, .ref qnm, .ref qns, .ref qsl, .ref qsb, .int (nI 0), .ref qsu, .null, .null]))) (Ne.symm ne_md_qkd) f_qkd
  have f_qsz := hp_k (e := (.inr (6, [.ref qro, .int (nI 0), .ref qte, .int (nI 0), .int (nI 0), .int (nI 0), .int (nI 0), .ref qhe, .ref qcn, .ref qkd, .ref qsz, .ref qky, .ref qle, .ref qdg, .ref qnm, .ref qns, .ref qsl, .ref qsb, .int (nI 0), .ref qsu, .null, .null]))) (Ne.symm ne_md_qsz) f_qsz
  have f_qky := hp_k (e := (.inr (6, [.ref qro, .int (nI 0), .ref qte, .int (nI 0), .int (nI 0), .int (nI 0), .int (nI 0), .ref qhe, .ref qcn, .ref qkd, .ref qsz, .ref qky, .ref qle, .ref qdg, .ref qnm, .ref qns, .ref qsl, .ref qsb, .int (nI 0), .ref qsu, .null, .null]))) (Ne.symm ne_md_qky) f_qky
  have f_qle := hp_k (e := (.inr (6, [.ref qro, .int (nI 0), .ref qte, .int (nI 0), .int (nI 0), .int (nI 0), .int (nI 0), .ref qhe, .ref qcn, .ref qkd, .ref qsz, .ref qky, .ref qle, .ref qdg, .ref qnm, .ref qns, .ref qsl, .ref qsb, .int (nI 0), .ref qsu, .null, .null]))) (Ne.symm ne_md_qle) f_qle
  have f_qdg := hp_k (e := (.inr (6, [.ref qro, .int (nI 0), .ref qte, .int (nI 0), .int (nI 0), .int (nI 0), .int (nI 0), .ref qhe, .ref qcn, .ref qkd, .ref qsz, .ref qky, .ref qle, .ref qdg, .ref qnm, .ref qns, .ref qsl, .ref qsb, .int (nI 0), .ref qsu, .null, .null]))) (Ne.symm ne_md_qdg) f_qdg
  have f_qnm := hp_k (e := (.inr (6, [.ref qro, .int (nI 0), .ref qte, .int (nI 0), .int (nI 0), .int (nI 0), .int (nI 0), .ref qhe, .ref qcn, .ref qkd, .ref qsz, .ref qky, .ref qle, .ref qdg, .ref qnm, .ref qns, .ref qsl, .ref qsb, .int (nI 0), .ref qsu, .null, .null]))) (Ne.symm ne_md_qnm) f_qnm
  have f_qns := hp_k (e := (.inr (6, [.ref qro, .int (nI 0), .ref qte, .int (nI 0), .int (nI 0), .int (nI 0), .int (nI 0), .ref qhe, .ref qcn, .ref qkd, .ref qsz, .ref qky, .ref qle, .ref qdg, .ref qnm, .ref qns, .ref qsl, .ref qsb, .int (nI 0), .ref qsu, .null, .null]))) (Ne.symm ne_md_qns) f_qns
  have f_qsl := hp_k (e := (.inr (6, [.ref qro, .int (nI 0), .ref qte, .int (nI 0), .int (nI 0), .int (nI 0), .int (nI 0), .ref qhe, .ref qcn, .ref qkd, .ref qsz, .ref qky, .ref qle, .ref qdg, .ref qnm, .ref qns, .ref qsl, .ref qsb, .int (nI 0), .ref qsu, .null, .null]))) (Ne.symm ne_md_qsl) f_qsl
  have f_qsb := hp_k (e := (.inr (6, [.ref qro, .int (nI 0), .ref qte, .int (nI 0), .int (nI 0), .int (nI 0), .int (nI 0), .ref qhe, .ref qcn, .ref qkd, .ref qsz, .ref qky, .ref qle, .ref qdg, .ref qnm, .ref qns, .ref qsl, .ref qsb, .int (nI 0), .ref qsu, .null, .null]))) (Ne.symm ne_md_qsb) f_qsb
  have f_qsu := hp_k (e := (.inr (6, [.ref qro, .int (nI 0), .ref qte, .int (nI 0), .int (nI 0), .int (nI 0), .int (nI 0), .ref qhe, .ref qcn, .ref qkd, .ref qsz, .ref qky, .ref qle, .ref qdg, .ref qnm, .ref qns, .ref qsl, .ref qsb, .int (nI 0), .ref qsu, .null, .null]))) (Ne.symm ne_md_qsu) f_qsu
  have f_md : hp_up M100 md (.inr (6, [.ref qro, .int (nI 0), .ref qte, .int (nI 0), .int (nI 0), .int (nI 0), .int (nI 0), .ref qhe, .ref qcn, .ref qkd, .ref qsz, .ref qky, .ref qle, .ref qdg, .ref qnm, .ref qns, .ref qsl, .ref qsb, .int (nI 0), .ref qsu, .null, .null])) md = some (.inr (6, [.ref qro, .int (nI 0), .ref qte, .int (nI 0), .int (nI 0), .int (nI 0), .int (nI 0), .ref qhe, .ref qcn, .ref qkd, .ref qsz, .ref qky, .ref qle, .ref qdg, .ref qnm, .ref qns, .ref qsl, .ref qsb, .int (nI 0), .ref qsu, .null, .null])) := hp_us
  obtain ⟨M101, eM101⟩ : ∃ z, z = hp_up M100 md (.inr (6, [.ref qro, .int (nI 0), .ref qte, .int (nI 0), .int (nI 0), .int (nI 0), .int (nI 0), .ref qhe, .ref qcn, .ref qkd, .ref qsz, .ref qky, .ref qle, .ref qdg, .ref qnm, .ref qns, .ref qsl, .ref qsb, .int (nI 0), .ref qsu, .null, .null])) := ⟨_, rfl⟩
  rw [← eM101] at hM f_md f_qro f_qte f_qhe f_qcn f_qkd f_qsz f_qky f_qle f_qdg f_qnm f_qns f_qsl f_qsb f_qsu
  refine lv_aload_n hx hb d_MD_init_549 rfl (lv_at hl 0 rfl) ?_
  refine lv_bipush (v := nI 64) hx hb d_MD_init_550 rfl ?_
  refine hp_newi S hK hM hS hA (atype := .int) rfl ma_int 1 rfl rfl (by decide) 64 rfl (by omega) (by decide) (by decide) d_MD_init_552 (fun qwi H hq_qwi hM hS => ?_)
  refine W.widen (k := 15) (n := 24980) (by omega) (by omega) ?_
  rw [nf_0] at hM
  have ne_md_qwi : md ≠ qwi := hp_nn f_md hq_qwi
  have f_md := hp_k (e := (.inl (ct 1, 64, .inl (nf (fun _ => 0))))) ne_md_qwi f_md
  have ne_qro_qwi : qro ≠ qwi := hp_nn f_qro hq_qwi
  have f_qro := hp_k (e := (.inl (ct 1, 64, .inl (nf (fun _ => 0))))) ne_qro_qwi f_qro
  have ne_qte_qwi : qte ≠ qwi := hp_nn f_qte hq_qwi
  have f_qte := hp_k (e := (.inl (ct 1, 64, .inl (nf (fun _ => 0))))) ne_qte_qwi f_qte
  have ne_qhe_qwi : qhe ≠ qwi := hp_nn f_qhe hq_qwi
  have f_qhe := hp_k (e := (.inl (ct 1, 64, .inl (nf (fun _ => 0))))) ne_qhe_qwi f_qhe
  have ne_qcn_qwi : qcn ≠ qwi := hp_nn f_qcn hq_qwi
  have f_qcn := hp_k (e := (.inl (ct 1, 64, .inl (nf (fun _ => 0))))) ne_qcn_qwi f_qcn
  have ne_qkd_qwi : qkd ≠ qwi := hp_nn f_qkd hq_qwi
  have f_qkd := hp_k (e := (.inl (ct 1, 64, .inl (nf (fun _ => 0))))) ne_qkd_qwi f_qkd
  have ne_qsz_qwi : qsz ≠ qwi := hp_nn f_qsz hq_qwi
  have f_qsz := hp_k (e := (.inl (ct 1, 64, .inl (nf (fun _ => 0))))) ne_qsz_qwi f_qsz
  have ne_qky_qwi : qky ≠ qwi := hp_nn f_qky hq_qwi
  have f_qky := hp_k (e := (.inl (ct 1, 64, .inl (nf (fun _ => 0))))) ne_qky_qwi f_qky
  have ne_qle_qwi : qle ≠ qwi := hp_nn f_qle hq_qwi
  have f_qle := hp_k (e := (.inl (ct 1, 64, .inl (nf (fun _ => 0))))) ne_qle_qwi f_qle
  have ne_qdg_qwi : qdg ≠ qwi := hp_nn f_qdg hq_qwi
  have f_qdg := hp_k (e := (.inl (ct 1, 64, .inl (nf (fun _ => 0))))) ne_qdg_qwi f_qdg
  have ne_qnm_qwi : qnm ≠ qwi := hp_nn f_qnm hq_qwi
  have f_qnm := hp_k (e := (.inl (ct 1, 64, .inl (nf (fun _ => 0))))) ne_qnm_qwi f_qnm
  have ne_qns_qwi : qns ≠ qwi := hp_nn f_qns hq_qwi
  have f_qns := hp_k (e := (.inl (ct 1, 64, .inl (nf (fun _ => 0))))) ne_qns_qwi f_qns
  have ne_qsl_qwi : qsl ≠ qwi := hp_nn f_qsl hq_qwi
  have f_qsl := hp_k (e := (.inl (ct 1, 64, .inl (nf (fun _ => 0))))) ne_qsl_qwi f_qsl
  have ne_qsb_qwi : qsb ≠ qwi := hp_nn f_qsb hq_qwi
  have f_qsb := hp_k (e := (.inl (ct 1, 64, .inl (nf (fun _ => 0))))) ne_qsb_qwi f_qsb
  have ne_qsu_qwi : qsu ≠ qwi := hp_nn f_qsu hq_qwi
  have f_qsu := hp_k (e := (.inl (ct 1, 64, .inl (nf (fun _ => 0))))) ne_qsu_qwi f_qsu
  have f_qwi : hp_up M101 qwi (.inl (ct 1, 64, .inl (nf (fun _ => 0)))) qwi = some (.inl (ct 1, 64, .inl (nf (fun _ => 0)))) := hp_us
  obtain ⟨M102, eM102⟩ : ∃ z, z = hp_up M101 qwi (.inl (ct 1, 64, .inl (nf (fun _ => 0)))) := ⟨_, rfl⟩
  rw [← eM102] at hM f_md f_qro f_qte f_qhe f_qcn f_qkd f_qsz f_qky f_qle f_qdg f_qnm f_qns f_qsl f_qsb f_qsu f_qwi
  refine hp_putF (ty := (.array .int)) (fs' := [.ref qro, .int (nI 0), .ref qte, .int (nI 0), .int (nI 0), .int (nI 0), .int (nI 0), .ref qhe, .ref qcn, .ref qkd, .ref qsz, .ref qky, .ref qle, .ref qdg, .ref qnm, .ref qns, .ref qsl, .ref qsb, .int (nI 0), .ref qsu, .ref qwi, .null]) S hK hM hS i_MD t_MD to_MD n_MD f_md rfl 20 (by decide) mf_MD_124 (fun _ h9 => h9) rfl hnm rfl (by decide +kernel) rfl rfl (by simp) rfl d_MD_init_554 (fun H locs hM hS => ?_)
  have f_qro := hp_k (e := (.inr (6, [.ref qro, .int (nI 0), .ref qte, .int (nI 0), .int (nI 0), .int (nI 0), .int (nI 0), .ref qhe, .ref qcn, .ref qkd, .ref qsz, .ref qky, .ref qle, .ref qdg, .ref qnm, .ref qns, .ref qsl, .ref qsb, .int (nI 0), .ref qsu, .ref qwi, .null]))) (Ne.symm ne_md_qro) f_qro
  have f_qte := hp_k (e := (.inr (6, [.ref qro, .int (nI 0), .ref qte, .int (nI 0), .int (nI 0), .int (nI 0), .int (nI 0), .ref qhe, .ref qcn, .ref qkd, .ref qsz, .ref qky, .ref qle, .ref qdg, .ref qnm, .ref qns, .ref qsl, .ref qsb, .int (nI 0), .ref qsu, .ref qwi, .null]))) (Ne.symm ne_md_qte) f_qte
  have f_qhe := hp_k (e := (.inr (6, [.ref qro, .int (nI 0), .ref qte, .int (nI 0), .int (nI 0), .int (nI 0), .int (nI 0), .ref qhe, .ref qcn, .ref qkd, .ref qsz, .ref qky, .ref qle, .ref qdg, .ref qnm, .ref qns, .ref qsl, .ref qsb, .int (nI 0), .ref qsu, .ref qwi, .null]))) (Ne.symm ne_md_qhe) f_qhe
  have f_qcn := hp_k (e := (.inr (6, [.ref qro, .int (nI 0), .ref qte, .int (nI 0), .int (nI 0), .int (nI 0), .int (nI 0), .ref qhe, .ref qcn, .ref qkd, .ref qsz, .ref qky, .ref qle, .ref qdg, .ref qnm, .ref qns, .ref qsl, .ref qsb, .int (nI 0), .ref qsu, .ref qwi, .null]))) (Ne.symm ne_md_qcn) f_qcn
  have f_qkd := hp_k (e := (.inr (6, [.ref qro, .int (nI 0), .ref qte, .int (nI 0), .int (nI 0), .int (nI 0), .int (nI 0), .ref qhe, .ref qcn, .ref qkd, .ref qsz, .ref qky, .ref qle, .ref qdg, .ref qnm, .ref qns, .ref qsl, .ref qsb, .int (nI 0), .ref qsu, .ref qwi, .null]))) (Ne.symm ne_md_qkd) f_qkd
  have f_qsz := hp_k (e := (.inr (6, [.ref qro, .int (nI 0), .ref qte, .int (nI 0), .int (nI 0), .int (nI 0), .int (nI 0), .ref qhe, .ref qcn, .ref qkd, .ref qsz, .ref qky, .ref qle, .ref qdg, .ref qnm, .ref qns, .ref qsl, .ref qsb, .int (nI 0), .ref qsu, .ref qwi, .null]))) (Ne.symm ne_md_qsz) f_qsz
  have f_qky := hp_k (e := (.inr (6, [.ref qro, .int (nI 0), .ref qte, .int (nI 0), .int (nI 0), .int (nI 0), .int (nI 0), .ref qhe, .ref qcn, .ref qkd, .ref qsz, .ref qky, .ref qle, .ref qdg, .ref qnm, .ref qns, .ref qsl, .ref qsb, .int (nI 0), .ref qsu, .ref qwi, .null]))) (Ne.symm ne_md_qky) f_qky
  have f_qle := hp_k (e := (.inr (6, [.ref qro, .int (nI 0), .ref qte, .int (nI 0), .int (nI 0), .int (nI 0), .int (nI 0), .ref qhe, .ref qcn, .ref qkd, .ref qsz, .ref qky, .ref qle, .ref qdg, .ref qnm, .ref qns, .ref qsl, .ref qsb, .int (nI 0), .ref qsu, .ref qwi, .null]))) (Ne.symm ne_md_qle) f_qle
  have f_qdg := hp_k (e := (.inr (6, [.ref qro, .int (nI 0), .ref qte, .int (nI 0), .int (nI 0), .int (nI 0), .int (nI 0), .ref qhe, .ref qcn, .ref qkd, .ref qsz, .ref qky, .ref qle, .ref qdg, .ref qnm, .ref qns, .ref qsl, .ref qsb, .int (nI 0), .ref qsu, .ref qwi, .null]))) (Ne.symm ne_md_qdg) f_qdg
  have f_qnm := hp_k (e := (.inr (6, [.ref qro, .int (nI 0), .ref qte, .int (nI 0), .int (nI 0), .int (nI 0), .int (nI 0), .ref qhe, .ref qcn, .ref qkd, .ref qsz, .ref qky, .ref qle, .ref qdg, .ref qnm, .ref qns, .ref qsl, .ref qsb, .int (nI 0), .ref qsu, .ref qwi, .null]))) (Ne.symm ne_md_qnm) f_qnm
  have f_qns := hp_k (e := (.inr (6, [.ref qro, .int (nI 0), .ref qte, .int (nI 0), .int (nI 0), .int (nI 0), .int (nI 0), .ref qhe, .ref qcn, .ref qkd, .ref qsz, .ref qky, .ref qle, .ref qdg, .ref qnm, .ref qns, .ref qsl, .ref qsb, .int (nI 0), .ref qsu, .ref qwi, .null]))) (Ne.symm ne_md_qns) f_qns
  have f_qsl := hp_k (e := (.inr (6, [.ref qro, .int (nI 0), .ref qte, .int (nI 0), .int (nI 0), .int (nI 0), .int (nI 0), .ref qhe, .ref qcn, .ref qkd, .ref qsz, .ref qky, .ref qle, .ref qdg, .ref qnm, .ref qns, .ref qsl, .ref qsb, .int (nI 0), .ref qsu, .ref qwi, .null]))) (Ne.symm ne_md_qsl) f_qsl
  have f_qsb := hp_k (e := (.inr (6, [.ref qro, .int (nI 0), .ref qte, .int (nI 0), .int (nI 0), .int (nI 0), .int (nI 0), .ref qhe, .ref qcn, .ref qkd, .ref qsz, .ref qky, .ref qle, .ref qdg, .ref qnm, .ref qns, .ref qsl, .ref qsb, .int (nI 0), .ref qsu, .ref qwi, .null]))) (Ne.symm ne_md_qsb) f_qsb
  have f_qsu := hp_k (e := (.inr (6, [.ref qro, .int (nI 0), .ref qte, .int (nI 0), .int (nI 0), .int (nI 0), .int (nI 0), .ref qhe, .ref qcn, .ref qkd, .ref qsz, .ref qky, .ref qle, .ref qdg, .ref qnm, .ref qns, .ref qsl, .ref qsb, .int (nI 0), .ref qsu, .ref qwi, .null]))) (Ne.symm ne_md_qsu) f_qsu
  have f_qwi := hp_k (e := (.inr (6, [.ref qro, .int (nI 0), .ref qte, .int (nI 0), .int (nI 0), .int (nI 0), .int (nI 0), .ref qhe, .ref qcn, .ref qkd, .ref qsz, .ref qky, .ref qle, .ref qdg, .ref qnm, .ref qns, .ref qsl, .ref qsb, .int (nI 0), .ref qsu, .ref qwi, .null]))) (Ne.symm ne_md_qwi) f_qwi
  have f_md : hp_up M102 md (.inr (6, [.ref qro, .int (nI 0), .ref qte, .int (nI 0), .int (nI 0), .int (nI 0), .int (nI 0), .ref qhe, .ref qcn, .ref qkd, .ref qsz, .ref qky, .ref qle, .ref qdg, .ref qnm, .ref qns, .ref qsl, .ref qsb, .int (nI 0), .ref qsu, .ref qwi, .null])) md = some (.inr (6, [.ref qro, .int (nI 0), .ref qte, .int (nI 0), .int (nI 0), .int (nI 0), .int (nI 0), .ref qhe, .ref qcn, .ref qkd, .ref qsz, .ref qky, .ref qle, .ref qdg, .ref qnm, .ref qns, .ref qsl, .ref qsb, .int (nI 0), .ref qsu, .ref qwi, .null])) := hp_us
  obtain ⟨M103, eM103⟩ : ∃ z, z = hp_up M102 md (.inr (6, [.ref qro, .int (nI 0), .ref qte, .int (nI 0), .int (nI 0), .int (nI 0), .int (nI 0), .ref qhe, .ref qcn, .ref qkd, .ref qsz, .ref qky, .ref qle, .ref qdg, .ref qnm, .ref qns, .ref qsl, .ref qsb, .int (nI 0), .ref qsu, .ref qwi, .null])) := ⟨_, rfl⟩
  rw [← eM103] at hM f_md f_qro f_qte f_qhe f_qcn f_qkd f_qsz f_qky f_qle f_qdg f_qnm f_qns f_qsl f_qsb f_qsu f_qwi
  refine lv_aload_n hx hb d_MD_init_557 rfl (lv_at hl 0 rfl) ?_
  refine lv_bipush (v := nI 8) hx hb d_MD_init_558 rfl ?_
  refine hp_newi S hK hM hS hA (atype := .int) rfl ma_int 1 rfl rfl (by decide) 8 rfl (by omega) (by decide) (by decide) d_MD_init_560 (fun qtu H hq_qtu hM hS => ?_)
  refine W.widen (k := 16) (n := 24988) (by omega) (by omega) ?_
  rw [nf_0] at hM
  have ne_md_qtu : md ≠ qtu := hp_nn f_md hq_qtu
  have f_md := hp_k (e := (.inl (ct 1, 8, .inl (nf (fun _ => 0))))) ne_md_qtu f_md
  have ne_qro_qtu : qro ≠ qtu := hp_nn f_qro hq_qtu
  have f_qro := hp_k (e := (.inl (ct 1, 8, .inl (nf (fun _ => 0))))) ne_qro_qtu f_qro
  have ne_qte_qtu : qte ≠ qtu := hp_nn f_qte hq_qtu
  have f_qte := hp_k (e := (.inl (ct 1, 8, .inl (nf (fun _ => 0))))) ne_qte_qtu f_qte
  have ne_qhe_qtu : qhe ≠ qtu := hp_nn f_qhe hq_qtu
  have f_qhe := hp_k (e := (.inl (ct 1, 8, .inl (nf (fun _ => 0))))) ne_qhe_qtu f_qhe
  have ne_qcn_qtu : qcn ≠ qtu := hp_nn f_qcn hq_qtu
  have f_qcn := hp_k (e := (.inl (ct 1, 8, .inl (nf (fun _ => 0))))) ne_qcn_qtu f_qcn
  have ne_qkd_qtu : qkd ≠ qtu := hp_nn f_qkd hq_qtu
  have f_qkd := hp_k (e := (.inl (ct 1, 8, .inl (nf (fun _ => 0))))) ne_qkd_qtu f_qkd
  have ne_qsz_qtu : qsz ≠ qtu := hp_nn f_qsz hq_qtu
  have f_qsz := hp_k (e := (.inl (ct 1, 8, .inl (nf (fun _ => 0))))) ne_qsz_qtu f_qsz
  have ne_qky_qtu : qky ≠ qtu := hp_nn f_qky hq_qtu
  have f_qky := hp_k (e := (.inl (ct 1, 8, .inl (nf (fun _ => 0))))) ne_qky_qtu f_qky
  have ne_qle_qtu : qle ≠ qtu := hp_nn f_qle hq_qtu
  have f_qle := hp_k (e := (.inl (ct 1, 8, .inl (nf (fun _ => 0))))) ne_qle_qtu f_qle
  have ne_qdg_qtu : qdg ≠ qtu := hp_nn f_qdg hq_qtu
  have f_qdg := hp_k (e := (.inl (ct 1, 8, .inl (nf (fun _ => 0))))) ne_qdg_qtu f_qdg
  have ne_qnm_qtu : qnm ≠ qtu := hp_nn f_qnm hq_qtu
  have f_qnm := hp_k (e := (.inl (ct 1, 8, .inl (nf (fun _ => 0))))) ne_qnm_qtu f_qnm
  have ne_qns_qtu : qns ≠ qtu := hp_nn f_qns hq_qtu
  have f_qns := hp_k (e := (.inl (ct 1, 8, .inl (nf (fun _ => 0))))) ne_qns_qtu f_qns
  have ne_qsl_qtu : qsl ≠ qtu := hp_nn f_qsl hq_qtu
  have f_qsl := hp_k (e := (.inl (ct 1, 8, .inl (nf (fun _ => 0))))) ne_qsl_qtu f_qsl
  have ne_qsb_qtu : qsb ≠ qtu := hp_nn f_qsb hq_qtu
  have f_qsb := hp_k (e := (.inl (ct 1, 8, .inl (nf (fun _ => 0))))) ne_qsb_qtu f_qsb
  have ne_qsu_qtu : qsu ≠ qtu := hp_nn f_qsu hq_qtu
  have f_qsu := hp_k (e := (.inl (ct 1, 8, .inl (nf (fun _ => 0))))) ne_qsu_qtu f_qsu
  have ne_qwi_qtu : qwi ≠ qtu := hp_nn f_qwi hq_qtu
  have f_qwi := hp_k (e := (.inl (ct 1, 8, .inl (nf (fun _ => 0))))) ne_qwi_qtu f_qwi
  have f_qtu : hp_up M103 qtu (.inl (ct 1, 8, .inl (nf (fun _ => 0)))) qtu = some (.inl (ct 1, 8, .inl (nf (fun _ => 0)))) := hp_us
  obtain ⟨M104, eM104⟩ : ∃ z, z = hp_up M103 qtu (.inl (ct 1, 8, .inl (nf (fun _ => 0)))) := ⟨_, rfl⟩
  rw [← eM104] at hM f_md f_qro f_qte f_qhe f_qcn f_qkd f_qsz f_qky f_qle f_qdg f_qnm f_qns f_qsl f_qsb f_qsu f_qwi f_qtu
  refine hp_putF (ty := (.array .int)) (fs' := [.ref qro, .int (nI 0), .ref qte, .int (nI 0), .int (nI 0), .int (nI 0), .int (nI 0), .ref qhe, .ref qcn, .ref qkd, .ref qsz, .ref qky, .ref qle, .ref qdg, .ref qnm, .ref qns, .ref qsl, .ref qsb, .int (nI 0), .ref qsu, .ref qwi, .ref qtu]) S hK hM hS i_MD t_MD to_MD n_MD f_md rfl 21 (by decide) mf_MD_127 (fun _ h9 => h9) rfl hnm rfl (by decide +kernel) rfl rfl (by simp) rfl d_MD_init_562 (fun H locs hM hS => ?_)
  have f_qro := hp_k (e := (.inr (6, [.ref qro, .int (nI 0), .ref qte, .int (nI 0), .int (nI 0), .int (nI 0), .int (nI 0), .ref qhe, .ref qcn, .ref qkd, .ref qsz, .ref qky, .ref qle, .ref qdg, .ref qnm, .ref qns, .ref qsl, .ref qsb, .int (nI 0), .ref qsu, .ref qwi, .ref qtu]))) (Ne.symm ne_md_qro) f_qro
  have f_qte := hp_k (e := (.inr (6, [.ref qro, .int (nI 0), .ref qte, .int (nI 0), .int (nI 0), .int (nI 0), .int (nI 0), .ref qhe, .ref qcn, .ref qkd, .ref qsz, .ref qky, .ref qle, .ref qdg, .ref qnm, .ref qns, .ref qsl, .ref qsb, .int (nI 0), .ref qsu, .ref qwi, .ref qtu]))) (Ne.symm ne_md_qte) f_qte
  have f_qhe := hp_k (e := (.inr (6, [.ref qro, .int (nI 0), .ref qte, .int (nI 0), .int (nI 0), .int (nI 0), .int (nI 0), .ref qhe, .ref qcn, .ref qkd, .ref qsz, .ref qky, .ref qle, .ref qdg, .ref qnm, .ref qns, .ref qsl, .ref qsb, .int (nI 0), .ref qsu, .ref qwi, .ref qtu]))) (Ne.symm ne_md_qhe) f_qhe
  have f_qcn := hp_k (e := (.inr (6, [.ref qro, .int (nI 0), .ref qte, .int (nI 0), .int (nI 0), .int (nI 0), .int (nI 0), .ref qhe, .ref qcn, .ref qkd, .ref qsz, .ref qky, .ref qle, .ref qdg, .ref qnm, .ref qns, .ref qsl, .ref qsb, .int (nI 0), .ref qsu, .ref qwi, .ref qtu]))) (Ne.symm ne_md_qcn) f_qcn
  have f_qkd := hp_k (e := (.inr (6, [.ref qro, .int (nI 0), .ref qte, .int (nI 0), .int (nI 0), .int (nI 0), .int (nI 0), .ref qhe, .ref qcn, .ref qkd, .ref qsz, .ref qky, .ref qle, .ref qdg, .ref qnm, .ref qns, .ref qsl, .ref qsb, .int (nI 0), .ref qsu, .ref qwi, .ref qtu]))) (Ne.symm ne_md_qkd) f_qkd
  have f_qsz := hp_k (e := (.inr (6, [.ref qro, .int (nI 0), .ref qte, .int (nI 0), .int (nI 0), .int (nI 0), .int (nI 0), .ref qhe, .ref qcn, .ref qkd, .ref qsz, .ref qky, .ref qle, .ref qdg, .ref qnm, .ref qns, .ref qsl, .ref qsb, .int (nI 0), .ref qsu, .ref qwi, .ref qtu]))) (Ne.symm ne_md_qsz) f_qsz
  have f_qky := hp_k (e := (.inr (6, [.ref qro, .int (nI 0), .ref qte, .int (nI 0), .int (nI 0), .int (nI 0), .int (nI 0), .ref qhe, .ref qcn, .ref qkd, .ref qsz, .ref qky, .ref qle, .ref qdg, .ref qnm, .ref qns, .ref qsl, .ref qsb, .int (nI 0), .ref qsu, .ref qwi, .ref qtu]))) (Ne.symm ne_md_qky) f_qky
  have f_qle := hp_k (e := (.inr (6, [.ref qro, .int (nI 0), .ref qte, .int (nI 0), .int (nI 0), .int (nI 0), .int (nI 0), .ref qhe, .ref qcn, .ref qkd, .ref qsz, .ref qky, .ref qle, .ref qdg, .ref qnm, .ref qns, .ref qsl, .ref qsb, .int (nI 0), .ref qsu, .ref qwi, .ref qtu]))) (Ne.symm ne_md_qle) f_qle
  have f_qdg := hp_k (e := (.inr (6, [.ref qro, .int (nI 0), .ref qte, .int (nI 0), .int (nI 0), .int (nI 0), .int (nI 0), .ref qhe, .ref qcn, .ref qkd, .ref qsz, .ref qky, .ref qle, .ref qdg, .ref qnm, .ref qns, .ref qsl, .ref qsb, .int (nI 0), .ref qsu, .ref qwi, .ref qtu]))) (Ne.symm ne_md_qdg) f_qdg
  have f_qnm := hp_k (e := (.inr (6, [.ref qro, .int (nI 0), .ref qte, .int (nI 0), .int (nI 0), .int (nI 0), .int (nI 0), .ref qhe, .ref qcn, .ref qkd, .ref qsz, .ref qky, .ref qle, .ref qdg, .ref qnm, .ref qns, .ref qsl, .ref qsb, .int (nI 0), .ref qsu, .ref qwi, .ref qtu]))) (Ne.symm ne_md_qnm) f_qnm
  have f_qns := hp_k (e := (.inr (6, [.ref qro, .int (nI 0), .ref qte, .int (nI 0), .int (nI 0), .int (nI 0), .int (nI 0), .ref qhe, .ref qcn, .ref qkd, .ref qsz, .ref qky, .ref qle, .ref qdg, .ref qnm, .ref qns, .ref qsl, .ref qsb, .int (nI 0), .ref qsu, .ref qwi, .ref qtu]))) (Ne.symm ne_md_qns) f_qns
  have f_qsl := hp_k (e := (.inr (6, [.ref qro, .int (nI 0), .ref qte, .int (nI 0), .int (nI 0), .int (nI 0), .int (nI 0), .ref qhe, .ref qcn, .ref qkd, .ref qsz, .ref qky, .ref qle, .ref qdg, .ref qnm, .ref qns, .ref qsl, .ref qsb, .int (nI 0), .ref qsu, .ref qwi, .ref qtu]))) (Ne.symm ne_md_qsl) f_qsl
  have f_qsb := hp_k (e := (.inr (6, [.ref qro, .int (nI 0), .ref qte, .int (nI 0), .int (nI 0), .int (nI 0), .int (nI 0), .ref qhe, .ref qcn, .ref qkd, .ref qsz, .ref qky, .ref qle, .ref qdg, .ref qnm, .ref qns, .ref qsl, .ref qsb, .int (nI 0), .ref qsu, .ref qwi, .ref qtu]))) (Ne.symm ne_md_qsb) f_qsb
  have f_qsu := hp_k (e := (.inr (6, [.ref qro, .int (nI 0), .ref qte, .int (nI 0), .int (nI 0), .int (nI 0), .int (nI 0), .ref qhe, .ref qcn, .ref qkd, .ref qsz, .ref qky, .ref qle, .ref qdg, .ref qnm, .ref qns, .ref qsl, .ref qsb, .int (nI 0), .ref qsu, .ref qwi, .ref qtu]))) (Ne.symm ne_md_qsu) f_qsu
  have f_qwi := hp_k (e := (.inr (6, [.ref qro, .int (nI 0), .ref qte, .int (nI 0), .int (nI 0), .int (nI 0), .int (nI 0), .ref qhe, .ref qcn, .ref qkd, .ref qsz, .ref qky, .ref qle, .ref qdg, .ref qnm, .ref qns, .ref qsl, .ref qsb, .int (nI 0), .ref qsu, .ref qwi, .ref qtu]))) (Ne.symm ne_md_qwi) f_qwi
  have f_qtu := hp_k (e := (.inr (6, [.ref qro, .int (nI 0), .ref qte, .int (nI 0), .int (nI 0), .int (nI 0), .int (nI 0), .ref qhe, .ref qcn, .ref qkd, .ref qsz, .ref qky, .ref qle, .ref qdg, .ref qnm, .ref qns, .ref qsl, .ref qsb, .int (nI 0), .ref qsu, .ref qwi, .ref qtu]))) (Ne.symm ne_md_qtu) f_qtu
  have f_md : hp_up M104 md (.inr (6, [.ref qro, .int (nI 0), .ref qte, .int (nI 0), .int (nI 0), .int (nI 0), .int (nI 0), .ref qhe, .ref qcn, .ref qkd, .ref qsz, .ref qky, .ref qle, .ref qdg, .ref qnm, .ref qns, .ref qsl, .ref qsb, .int (nI 0), .ref qsu, .ref qwi, .ref qtu])) md = some (.inr (6, [.ref qro, .int (nI 0), .ref qte, .int (nI 0), .int (nI 0), .int (nI 0), .int (nI 0), .ref qhe, .ref qcn, .ref qkd, .ref qsz, .ref qky, .ref qle, .ref qdg, .ref qnm, .ref qns, .ref qsl, .ref qsb, .int (nI 0), .ref qsu, .ref qwi, .ref qtu])) := hp_us
  obtain ⟨M105, eM105⟩ : ∃ z, z = hp_up M104 md (.inr (6, [.ref qro, .int (nI 0), .ref qte, .int (nI 0), .int (nI 0), .int (nI 0), .int (nI 0), .ref qhe, .ref qcn, .ref qkd, .ref qsz, .ref qky, .ref qle, .ref qdg, .ref qnm, .ref qns, .ref qsl, .ref qsb, .int (nI 0), .ref qsu, .ref qwi, .ref qtu])) := ⟨_, rfl⟩
  rw [← eM105] at hM f_md f_qro f_qte f_qhe f_qcn f_qkd f_qsz f_qky f_qle f_qdg f_qnm f_qns f_qsl f_qsb f_qsu f_qwi f_qtu
  have hB : MA.ok (mkA qro qte qhe qcn qkd qsz qky qle qdg qnm qns qsl qsb qsu qwi qtu) := ⟨ne_qkd_qsz, ne_qkd_qky, ne_qsz_qky, ne_qhe_qns, ne_qhe_qsu, ne_qhe_qtu, ne_qns_qsu, ne_qns_qtu, ne_qsu_qtu, ne_qte_qwi⟩
  have hV0 : MS.ok (mkS (fun _ => 0) (fun _ => 0) (fun _ => 0) (fun _ => 0) (fun _ => 0) (fun _ => 0) (fun _ => 0) (fun _ => 0) (fun _ => 0) (fun _ => 0) (nf (fun _ => 0)) (nf (fun _ => 0)) (nf (fun _ => 0)) (nf (fun _ => 0)) (nf (fun _ => 0)) 0 0 0 0 0 0) := ⟨fun _ => (by decide : 0 < 65536), fun _ => (by decide : 0 ≤ 24), fun _ => (by decide : 0 ≤ 7), fun _ => (by decide : 0 ≤ 64), fun _ => (by decide : 0 ≤ 64), fun _ => (by decide : 0 < 65536), fun _ => (by decide : 0 < 65536), fun _ => (by decide : 0 ≤ 16), fun _ => (by decide : 0 < 65536), fun _ => (by decide : 0 < 65536), by decide, by decide, by decide, by decide, by decide, by decide⟩
  have hw0 : mdS ct M105 md (mkA qro qte qhe qcn qkd qsz qky qle qdg qnm qns qsl qsb qsu qwi qtu) (mkS (fun _ => 0) (fun _ => 0) (fun _ => 0) (fun _ => 0) (fun _ => 0) (fun _ => 0) (fun _ => 0) (fun _ => 0) (fun _ => 0) (fun _ => 0) (nf (fun _ => 0)) (nf (fun _ => 0)) (nf (fun _ => 0)) (nf (fun _ => 0)) (nf (fun _ => 0)) 0 0 0 0 0 0) := ⟨f_md, f_qro, f_qte, f_qhe, f_qcn, f_qkd, f_qsz, f_qky, f_qle, f_qdg, f_qnm, f_qns, f_qsl, f_qsb, f_qsu, f_qwi, f_qtu, hB, hV0⟩
  refine lv_aload_n hx hb d_MD_init_565 rfl (lv_at hl 0 rfl) ?_
  refine lv_iconst (v := nI 0) hx hb d_MD_init_566 rfl ?_
  refine hp_callv (go_V S hZ hK hM hS hA hz (c_MD_sumUp l D ct Z hZ _ _ md (mkA qro qte qhe qcn qkd qsz qky qle qdg qnm qns qsl qsb qsu qwi qtu) (mkS (fun _ => 0) (fun _ => 0) (fun _ => 0) (fun _ => 0) (fun _ => 0) (fun _ => 0) (fun _ => 0) (fun _ => 0) (fun _ => 0) (fun _ => 0) (nf (fun _ => 0)) (nf (fun _ => 0)) (nf (fun _ => 0)) (nf (fun _ => 0)) (nf (fun _ => 0)) 0 0 0 0 0 0) hw0 [] (by decide) (fun i => by show ([] : List Nat).getD i 0 < 65536; simp) (fun i hi => absurd hi (Nat.not_lt_zero i))) mc_MD_sumUp mz_MD ml_MD_130 mi_MD_sumUp mx_MD_sumUp hd_MD_sumUp rfl ⟨by decide, by decide⟩ f_md rfl rfl hl.1 rfl (Nat.le_of_ble_eq_true rfl) d_MD_init_567 ⟨by decide, by decide⟩) hM hS hA (fun M9 H locs h9 hM hS => ?_)
  obtain ⟨su, wi, tu, hw1, hsu⟩ := h9
  have f_md := hw1.1
  refine lv_aload_n hx hb d_MD_init_570 rfl (lv_at hl 0 rfl) ?_
  refine hp_callv (go_V S hZ hK hM hS hA hz (c_MD_keepSum l D ct Z hZ _ _ md (mkA qro qte qhe qcn qkd qsz qky qle qdg qnm qns qsl qsb qsu qwi qtu) (mkS (fun _ => 0) (fun _ => 0) (fun _ => 0) (fun _ => 0) (fun _ => 0) (fun _ => 0) (fun _ => 0) (fun _ => 0) (fun _ => 0) (fun _ => 0) (nf (fun _ => 0)) (nf (fun _ => 0)) su wi tu 0 0 0 0 0 0) hw1) mc_MD_keepSum mz_MD ml_MD_134 mi_MD_keepSum mx_MD_keepSum hd_MD_keepSum rfl ⟨by decide, by decide⟩ f_md rfl rfl hl.1 rfl (Nat.le_of_ble_eq_true rfl) d_MD_init_571 ⟨by decide, by decide⟩) hM hS hA (fun M9 H locs h9 hM hS => ?_)
  obtain ⟨h8, hh8, hw2⟩ := h9
  exact hp_vret S hret hlk hM hS (⟨_, _, hw2, fun i hi => (hh8 i hi).trans (hsu i hi), rfl, rfl, rfl, rfl, rfl, fun a => rfl⟩) d_MD_init_574
