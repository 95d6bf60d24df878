theorem d_SH_mixBlock_0 : decode b_SH_mixBlock 0 = .ok (.aload_n 0, 1) := by decide +kernel
theorem d_SH_mixBlock_1 : decode b_SH_mixBlock 1 = .ok (.getfield 9, 3) := by decide +kernel
theorem d_SH_mixBlock_4 : decode b_SH_mixBlock 4 = .ok (.iconst 0, 1) := by decide +kernel
theorem d_SH_mixBlock_5 : decode b_SH_mixBlock 5 = .ok (.iaload, 1) := by decide +kernel
theorem d_SH_mixBlock_6 : decode b_SH_mixBlock 6 = .ok (.istore_n 1, 1) := by decide +kernel
theorem d_SH_mixBlock_7 : decode b_SH_mixBlock 7 = .ok (.aload_n 0, 1) := by decide +kernel
theorem d_SH_mixBlock_8 : decode b_SH_mixBlock 8 = .ok (.getfield 9, 3) := by decide +kernel
theorem d_SH_mixBlock_11 : decode b_SH_mixBlock 11 = .ok (.iconst 1, 1) := by decide +kernel
theorem d_SH_mixBlock_12 : decode b_SH_mixBlock 12 = .ok (.iaload, 1) := by decide +kernel
theorem d_SH_mixBlock_13 : decode b_SH_mixBlock 13 = .ok (.istore_n 2, 1) := by decide +kernel
theorem d_SH_mixBlock_14 : decode b_SH_mixBlock 14 = .ok (.aload_n 0, 1) := by decide +kernel
theorem d_SH_mixBlock_15 : decode b_SH_mixBlock 15 = .ok (.getfield 9, 3) := by decide +kernel
theorem d_SH_mixBlock_18 : decode b_SH_mixBlock 18 = .ok (.iconst 2, 1) := by decide +kernel
theorem d_SH_mixBlock_19 : decode b_SH_mixBlock 19 = .ok (.iaload, 1) := by decide +kernel
theorem d_SH_mixBlock_20 : decode b_SH_mixBlock 20 = .ok (.istore_n 3, 1) := by decide +kernel
theorem d_SH_mixBlock_21 : decode b_SH_mixBlock 21 = .ok (.aload_n 0, 1) := by decide +kernel
theorem d_SH_mixBlock_22 : decode b_SH_mixBlock 22 = .ok (.getfield 9, 3) := by decide +kernel
theorem d_SH_mixBlock_25 : decode b_SH_mixBlock 25 = .ok (.iconst 3, 1) := by decide +kernel
theorem d_SH_mixBlock_26 : decode b_SH_mixBlock 26 = .ok (.iaload, 1) := by decide +kernel
theorem d_SH_mixBlock_27 : decode b_SH_mixBlock 27 = .ok (.istore 4, 2) := by decide +kernel
theorem d_SH_mixBlock_29 : decode b_SH_mixBlock 29 = .ok (.aload_n 0, 1) := by decide +kernel
theorem d_SH_mixBlock_30 : decode b_SH_mixBlock 30 = .ok (.getfield 9, 3) := by decide +kernel
theorem d_SH_mixBlock_33 : decode b_SH_mixBlock 33 = .ok (.iconst 4, 1) := by decide +kernel
theorem d_SH_mixBlock_34 : decode b_SH_mixBlock 34 = .ok (.iaload, 1) := by decide +kernel
theorem d_SH_mixBlock_35 : decode b_SH_mixBlock 35 = .ok (.istore 5, 2) := by decide +kernel
theorem d_SH_mixBlock_37 : decode b_SH_mixBlock 37 = .ok (.aload_n 0, 1) := by decide +kernel
theorem d_SH_mixBlock_38 : decode b_SH_mixBlock 38 = .ok (.getfield 9, 3) := by decide +kernel
theorem d_SH_mixBlock_41 : decode b_SH_mixBlock 41 = .ok (.iconst 5, 1) := by decide +kernel
theorem d_SH_mixBlock_42 : decode b_SH_mixBlock 42 = .ok (.iaload, 1) := by decide +kernel
theorem d_SH_mixBlock_43 : decode b_SH_mixBlock 43 = .ok (.istore 6, 2) := by decide +kernel
theorem d_SH_mixBlock_45 : decode b_SH_mixBlock 45 = .ok (.aload_n 0, 1) := by decide +kernel
theorem d_SH_mixBlock_46 : decode b_SH_mixBlock 46 = .ok (.getfield 9, 3) := by decide +kernel
theorem d_SH_mixBlock_49 : decode b_SH_mixBlock 49 = .ok (.bipush 6, 2) := by decide +kernel
theorem d_SH_mixBlock_51 : decode b_SH_mixBlock 51 = .ok (.iaload, 1) := by decide +kernel
theorem d_SH_mixBlock_52 : decode b_SH_mixBlock 52 = .ok (.istore 7, 2) := by decide +kernel
theorem d_SH_mixBlock_54 : decode b_SH_mixBlock 54 = .ok (.aload_n 0, 1) := by decide +kernel
theorem d_SH_mixBlock_55 : decode b_SH_mixBlock 55 = .ok (.getfield 9, 3) := by decide +kernel
theorem d_SH_mixBlock_58 : decode b_SH_mixBlock 58 = .ok (.bipush 7, 2) := by decide +kernel
theorem d_SH_mixBlock_60 : decode b_SH_mixBlock 60 = .ok (.iaload, 1) := by decide +kernel
theorem d_SH_mixBlock_61 : decode b_SH_mixBlock 61 = .ok (.istore 8, 2) := by decide +kernel
theorem d_SH_mixBlock_63 : decode b_SH_mixBlock 63 = .ok (.iconst 0, 1) := by decide +kernel
theorem d_SH_mixBlock_64 : decode b_SH_mixBlock 64 = .ok (.istore 9, 2) := by decide +kernel
theorem d_SH_mixBlock_66 : decode b_SH_mixBlock 66 = .ok (.iload 9, 2) := by decide +kernel
theorem d_SH_mixBlock_68 : decode b_SH_mixBlock 68 = .ok (.bipush 64, 2) := by decide +kernel
theorem d_SH_mixBlock_70 : decode b_SH_mixBlock 70 = .ok (.if_icmp .ge 139, 3) := by decide +kernel
theorem d_SH_mixBlock_73 : decode b_SH_mixBlock 73 = .ok (.iload 5, 2) := by decide +kernel
theorem d_SH_mixBlock_75 : decode b_SH_mixBlock 75 = .ok (.bipush 6, 2) := by decide +kernel
theorem d_SH_mixBlock_77 : decode b_SH_mixBlock 77 = .ok (.invokestatic 43, 3) := by decide +kernel
theorem d_SH_mixBlock_80 : decode b_SH_mixBlock 80 = .ok (.iload 5, 2) := by decide +kernel
theorem d_SH_mixBlock_82 : decode b_SH_mixBlock 82 = .ok (.bipush 11, 2) := by decide +kernel
theorem d_SH_mixBlock_84 : decode b_SH_mixBlock 84 = .ok (.invokestatic 43, 3) := by decide +kernel
theorem d_SH_mixBlock_87 : decode b_SH_mixBlock 87 = .ok (.ixor, 1) := by decide +kernel
theorem d_SH_mixBlock_88 : decode b_SH_mixBlock 88 = .ok (.iload 5, 2) := by decide +kernel
theorem d_SH_mixBlock_90 : decode b_SH_mixBlock 90 = .ok (.bipush 25, 2) := by decide +kernel
theorem d_SH_mixBlock_92 : decode b_SH_mixBlock 92 = .ok (.invokestatic 43, 3) := by decide +kernel
theorem d_SH_mixBlock_95 : decode b_SH_mixBlock 95 = .ok (.ixor, 1) := by decide +kernel
theorem d_SH_mixBlock_96 : decode b_SH_mixBlock 96 = .ok (.istore 10, 2) := by decide +kernel
theorem d_SH_mixBlock_98 : decode b_SH_mixBlock 98 = .ok (.iload_n 1, 1) := by decide +kernel
theorem d_SH_mixBlock_99 : decode b_SH_mixBlock 99 = .ok (.iconst 2, 1) := by decide +kernel
theorem d_SH_mixBlock_100 : decode b_SH_mixBlock 100 = .ok (.invokestatic 43, 3) := by decide +kernel
theorem d_SH_mixBlock_103 : decode b_SH_mixBlock 103 = .ok (.iload_n 1, 1) := by decide +kernel
theorem d_SH_mixBlock_104 : decode b_SH_mixBlock 104 = .ok (.bipush 13, 2) := by decide +kernel
theorem d_SH_mixBlock_106 : decode b_SH_mixBlock 106 = .ok (.invokestatic 43, 3) := by decide +kernel
theorem d_SH_mixBlock_109 : decode b_SH_mixBlock 109 = .ok (.ixor, 1) := by decide +kernel
theorem d_SH_mixBlock_110 : decode b_SH_mixBlock 110 = .ok (.iload_n 1, 1) := by decide +kernel
theorem d_SH_mixBlock_111 : decode b_SH_mixBlock 111 = .ok (.bipush 22, 2) := by decide +kernel
theorem d_SH_mixBlock_113 : decode b_SH_mixBlock 113 = .ok (.invokestatic 43, 3) := by decide +kernel
theorem d_SH_mixBlock_116 : decode b_SH_mixBlock 116 = .ok (.ixor, 1) := by decide +kernel
theorem d_SH_mixBlock_117 : decode b_SH_mixBlock 117 = .ok (.istore 11, 2) := by decide +kernel
theorem d_SH_mixBlock_119 : decode b_SH_mixBlock 119 = .ok (.iload 8, 2) := by decide +kernel
theorem d_SH_mixBlock_121 : decode b_SH_mixBlock 121 = .ok (.iload 10, 2) := by decide +kernel
theorem d_SH_mixBlock_123 : decode b_SH_mixBlock 123 = .ok (.iadd, 1) := by decide +kernel
theorem d_SH_mixBlock_124 : decode b_SH_mixBlock 124 = .ok (.iload 5, 2) := by decide +kernel
theorem d_SH_mixBlock_126 : decode b_SH_mixBlock 126 = .ok (.iload 6, 2) := by decide +kernel
theorem d_SH_mixBlock_128 : decode b_SH_mixBlock 128 = .ok (.iand, 1) := by decide +kernel
theorem d_SH_mixBlock_129 : decode b_SH_mixBlock 129 = .ok (.iload 5, 2) := by decide +kernel
theorem d_SH_mixBlock_131 : decode b_SH_mixBlock 131 = .ok (.iconst (-1), 1) := by decide +kernel
theorem d_SH_mixBlock_132 : decode b_SH_mixBlock 132 = .ok (.ixor, 1) := by decide +kernel
theorem d_SH_mixBlock_133 : decode b_SH_mixBlock 133 = .ok (.iload 7, 2) := by decide +kernel
theorem d_SH_mixBlock_135 : decode b_SH_mixBlock 135 = .ok (.iand, 1) := by decide +kernel
theorem d_SH_mixBlock_136 : decode b_SH_mixBlock 136 = .ok (.ixor, 1) := by decide +kernel
theorem d_SH_mixBlock_137 : decode b_SH_mixBlock 137 = .ok (.iadd, 1) := by decide +kernel
theorem d_SH_mixBlock_138 : decode b_SH_mixBlock 138 = .ok (.getstatic 47, 3) := by decide +kernel
theorem d_SH_mixBlock_141 : decode b_SH_mixBlock 141 = .ok (.iload 9, 2) := by decide +kernel
theorem d_SH_mixBlock_143 : decode b_SH_mixBlock 143 = .ok (.iaload, 1) := by decide +kernel
theorem d_SH_mixBlock_144 : decode b_SH_mixBlock 144 = .ok (.iadd, 1) := by decide +kernel
theorem d_SH_mixBlock_145 : decode b_SH_mixBlock 145 = .ok (.aload_n 0, 1) := by decide +kernel
theorem d_SH_mixBlock_146 : decode b_SH_mixBlock 146 = .ok (.getfield 15, 3) := by decide +kernel
theorem d_SH_mixBlock_149 : decode b_SH_mixBlock 149 = .ok (.iload 9, 2) := by decide +kernel
theorem d_SH_mixBlock_151 : decode b_SH_mixBlock 151 = .ok (.iaload, 1) := by decide +kernel
theorem d_SH_mixBlock_152 : decode b_SH_mixBlock 152 = .ok (.iadd, 1) := by decide +kernel
theorem d_SH_mixBlock_153 : decode b_SH_mixBlock 153 = .ok (.istore 12, 2) := by decide +kernel
theorem d_SH_mixBlock_155 : decode b_SH_mixBlock 155 = .ok (.iload 11, 2) := by decide +kernel
theorem d_SH_mixBlock_157 : decode b_SH_mixBlock 157 = .ok (.iload_n 1, 1) := by decide +kernel
theorem d_SH_mixBlock_158 : decode b_SH_mixBlock 158 = .ok (.iload_n 2, 1) := by decide +kernel
theorem d_SH_mixBlock_159 : decode b_SH_mixBlock 159 = .ok (.iand, 1) := by decide +kernel
theorem d_SH_mixBlock_160 : decode b_SH_mixBlock 160 = .ok (.iload_n 1, 1) := by decide +kernel
theorem d_SH_mixBlock_161 : decode b_SH_mixBlock 161 = .ok (.iload_n 3, 1) := by decide +kernel
theorem d_SH_mixBlock_162 : decode b_SH_mixBlock 162 = .ok (.iand, 1) := by decide +kernel
theorem d_SH_mixBlock_163 : decode b_SH_mixBlock 163 = .ok (.ixor, 1) := by decide +kernel
theorem d_SH_mixBlock_164 : decode b_SH_mixBlock 164 = .ok (.iload_n 2, 1) := by decide +kernel
theorem d_SH_mixBlock_165 : decode b_SH_mixBlock 165 = .ok (.iload_n 3, 1) := by decide +kernel
theorem d_SH_mixBlock_166 : decode b_SH_mixBlock 166 = .ok (.iand, 1) := by decide +kernel
theorem d_SH_mixBlock_167 : decode b_SH_mixBlock 167 = .ok (.ixor, 1) := by decide +kernel
theorem d_SH_mixBlock_168 : decode b_SH_mixBlock 168 = .ok (.iadd, 1) := by decide +kernel
theorem d_SH_mixBlock_169 : decode b_SH_mixBlock 169 = .ok (.istore 13, 2) := by decide +kernel
theorem d_SH_mixBlock_171 : decode b_SH_mixBlock 171 = .ok (.iload 7, 2) := by decide +kernel
theorem d_SH_mixBlock_173 : decode b_SH_mixBlock 173 = .ok (.istore 8, 2) := by decide +kernel
theorem d_SH_mixBlock_175 : decode b_SH_mixBlock 175 = .ok (.iload 6, 2) := by decide +kernel
theorem d_SH_mixBlock_177 : decode b_SH_mixBlock 177 = .ok (.istore 7, 2) := by decide +kernel
theorem d_SH_mixBlock_179 : decode b_SH_mixBlock 179 = .ok (.iload 5, 2) := by decide +kernel
theorem d_SH_mixBlock_181 : decode b_SH_mixBlock 181 = .ok (.istore 6, 2) := by decide +kernel
theorem d_SH_mixBlock_183 : decode b_SH_mixBlock 183 = .ok (.iload 4, 2) := by decide +kernel
theorem d_SH_mixBlock_185 : decode b_SH_mixBlock 185 = .ok (.iload 12, 2) := by decide +kernel
theorem d_SH_mixBlock_187 : decode b_SH_mixBlock 187 = .ok (.iadd, 1) := by decide +kernel
theorem d_SH_mixBlock_188 : decode b_SH_mixBlock 188 = .ok (.istore 5, 2) := by decide +kernel
theorem d_SH_mixBlock_190 : decode b_SH_mixBlock 190 = .ok (.iload_n 3, 1) := by decide +kernel
theorem d_SH_mixBlock_191 : decode b_SH_mixBlock 191 = .ok (.istore 4, 2) := by decide +kernel
theorem d_SH_mixBlock_193 : decode b_SH_mixBlock 193 = .ok (.iload_n 2, 1) := by decide +kernel
theorem d_SH_mixBlock_194 : decode b_SH_mixBlock 194 = .ok (.istore_n 3, 1) := by decide +kernel
theorem d_SH_mixBlock_195 : decode b_SH_mixBlock 195 = .ok (.iload_n 1, 1) := by decide +kernel
theorem d_SH_mixBlock_196 : decode b_SH_mixBlock 196 = .ok (.istore_n 2, 1) := by decide +kernel
theorem d_SH_mixBlock_197 : decode b_SH_mixBlock 197 = .ok (.iload 12, 2) := by decide +kernel
theorem d_SH_mixBlock_199 : decode b_SH_mixBlock 199 = .ok (.iload 13, 2) := by decide +kernel
theorem d_SH_mixBlock_201 : decode b_SH_mixBlock 201 = .ok (.iadd, 1) := by decide +kernel
theorem d_SH_mixBlock_202 : decode b_SH_mixBlock 202 = .ok (.istore_n 1, 1) := by decide +kernel
theorem d_SH_mixBlock_203 : decode b_SH_mixBlock 203 = .ok (.iinc 9 1, 3) := by decide +kernel
theorem d_SH_mixBlock_206 : decode b_SH_mixBlock 206 = .ok (.goto (-140), 3) := by decide +kernel
theorem d_SH_mixBlock_209 : decode b_SH_mixBlock 209 = .ok (.aload_n 0, 1) := by decide +kernel
theorem d_SH_mixBlock_210 : decode b_SH_mixBlock 210 = .ok (.getfield 9, 3) := by decide +kernel
theorem d_SH_mixBlock_213 : decode b_SH_mixBlock 213 = .ok (.iconst 0, 1) := by decide +kernel
theorem d_SH_mixBlock_214 : decode b_SH_mixBlock 214 = .ok (.dup2, 1) := by decide +kernel
theorem d_SH_mixBlock_215 : decode b_SH_mixBlock 215 = .ok (.iaload, 1) := by decide +kernel
theorem d_SH_mixBlock_216 : decode b_SH_mixBlock 216 = .ok (.iload_n 1, 1) := by decide +kernel
theorem d_SH_mixBlock_217 : decode b_SH_mixBlock 217 = .ok (.iadd, 1) := by decide +kernel
theorem d_SH_mixBlock_218 : decode b_SH_mixBlock 218 = .ok (.iastore, 1) := by decide +kernel
theorem d_SH_mixBlock_219 : decode b_SH_mixBlock 219 = .ok (.aload_n 0, 1) := by decide +kernel
theorem d_SH_mixBlock_220 : decode b_SH_mixBlock 220 = .ok (.getfield 9, 3) := by decide +kernel
theorem d_SH_mixBlock_223 : decode b_SH_mixBlock 223 = .ok (.iconst 1, 1) := by decide +kernel
theorem d_SH_mixBlock_224 : decode b_SH_mixBlock 224 = .ok (.dup2, 1) := by decide +kernel
theorem d_SH_mixBlock_225 : decode b_SH_mixBlock 225 = .ok (.iaload, 1) := by decide +kernel
theorem d_SH_mixBlock_226 : decode b_SH_mixBlock 226 = .ok (.iload_n 2, 1) := by decide +kernel
theorem d_SH_mixBlock_227 : decode b_SH_mixBlock 227 = .ok (.iadd, 1) := by decide +kernel
theorem d_SH_mixBlock_228 : decode b_SH_mixBlock 228 = .ok (.iastore, 1) := by decide +kernel
theorem d_SH_mixBlock_229 : decode b_SH_mixBlock 229 = .ok (.aload_n 0, 1) := by decide +kernel
theorem d_SH_mixBlock_230 : decode b_SH_mixBlock 230 = .ok (.getfield 9, 3) := by decide +kernel
theorem d_SH_mixBlock_233 : decode b_SH_mixBlock 233 = .ok (.iconst 2, 1) := by decide +kernel
theorem d_SH_mixBlock_234 : decode b_SH_mixBlock 234 = .ok (.dup2, 1) := by decide +kernel
theorem d_SH_mixBlock_235 : decode b_SH_mixBlock 235 = .ok (.iaload, 1) := by decide +kernel
theorem d_SH_mixBlock_236 : decode b_SH_mixBlock 236 = .ok (.iload_n 3, 1) := by decide +kernel
theorem d_SH_mixBlock_237 : decode b_SH_mixBlock 237 = .ok (.iadd, 1) := by decide +kernel
theorem d_SH_mixBlock_238 : decode b_SH_mixBlock 238 = .ok (.iastore, 1) := by decide +kernel
theorem d_SH_mixBlock_239 : decode b_SH_mixBlock 239 = .ok (.aload_n 0, 1) := by decide +kernel
theorem d_SH_mixBlock_240 : decode b_SH_mixBlock 240 = .ok (.getfield 9, 3) := by decide +kernel
theorem d_SH_mixBlock_243 : decode b_SH_mixBlock 243 = .ok (.iconst 3, 1) := by decide +kernel
theorem d_SH_mixBlock_244 : decode b_SH_mixBlock 244 = .ok (.dup2, 1) := by decide +kernel
theorem d_SH_mixBlock_245 : decode b_SH_mixBlock 245 = .ok (.iaload, 1) := by decide +kernel
theorem d_SH_mixBlock_246 : decode b_SH_mixBlock 246 = .ok (.iload 4, 2) := by decide +kernel
theorem d_SH_mixBlock_248 : decode b_SH_mixBlock 248 = .ok (.iadd, 1) := by decide +kernel
theorem d_SH_mixBlock_249 : decode b_SH_mixBlock 249 = .ok (.iastore, 1) := by decide +kernel
theorem d_SH_mixBlock_250 : decode b_SH_mixBlock 250 = .ok (.aload_n 0, 1) := by decide +kernel
theorem d_SH_mixBlock_251 : decode b_SH_mixBlock 251 = .ok (.getfield 9, 3) := by decide +kernel
theorem d_SH_mixBlock_254 : decode b_SH_mixBlock 254 = .ok (.iconst 4, 1) := by decide +kernel
theorem d_SH_mixBlock_255 : decode b_SH_mixBlock 255 = .ok (.dup2, 1) := by decide +kernel
theorem d_SH_mixBlock_256 : decode b_SH_mixBlock 256 = .ok (.iaload, 1) := by decide +kernel
theorem d_SH_mixBlock_257 : decode b_SH_mixBlock 257 = .ok (.iload 5, 2) := by decide +kernel
theorem d_SH_mixBlock_259 : decode b_SH_mixBlock 259 = .ok (.iadd, 1) := by decide +kernel
theorem d_SH_mixBlock_260 : decode b_SH_mixBlock 260 = .ok (.iastore, 1) := by decide +kernel
theorem d_SH_mixBlock_261 : decode b_SH_mixBlock 261 = .ok (.aload_n 0, 1) := by decide +kernel
theorem d_SH_mixBlock_262 : decode b_SH_mixBlock 262 = .ok (.getfield 9, 3) := by decide +kernel
theorem d_SH_mixBlock_265 : decode b_SH_mixBlock 265 = .ok (.iconst 5, 1) := by decide +kernel
theorem d_SH_mixBlock_266 : decode b_SH_mixBlock 266 = .ok (.dup2, 1) := by decide +kernel
theorem d_SH_mixBlock_267 : decode b_SH_mixBlock 267 = .ok (.iaload, 1) := by decide +kernel
theorem d_SH_mixBlock_268 : decode b_SH_mixBlock 268 = .ok (.iload 6, 2) := by decide +kernel
theorem d_SH_mixBlock_270 : decode b_SH_mixBlock 270 = .ok (.iadd, 1) := by decide +kernel
theorem d_SH_mixBlock_271 : decode b_SH_mixBlock 271 = .ok (.iastore, 1) := by decide +kernel
theorem d_SH_mixBlock_272 : decode b_SH_mixBlock 272 = .ok (.aload_n 0, 1) := by decide +kernel
theorem d_SH_mixBlock_273 : decode b_SH_mixBlock 273 = .ok (.getfield 9, 3) := by decide +kernel
theorem d_SH_mixBlock_276 : decode b_SH_mixBlock 276 = .ok (.bipush 6, 2) := by decide +kernel
theorem d_SH_mixBlock_278 : decode b_SH_mixBlock 278 = .ok (.dup2, 1) := by decide +kernel
theorem d_SH_mixBlock_279 : decode b_SH_mixBlock 279 = .ok (.iaload, 1) := by decide +kernel
theorem d_SH_mixBlock_280 : decode b_SH_mixBlock 280 = .ok (.iload 7, 2) := by decide +kernel
theorem d_SH_mixBlock_282 : decode b_SH_mixBlock 282 = .ok (.iadd, 1) := by decide +kernel
theorem d_SH_mixBlock_283 : decode b_SH_mixBlock 283 = .ok (.iastore, 1) := by decide +kernel
theorem d_SH_mixBlock_284 : decode b_SH_mixBlock 284 = .ok (.aload_n 0, 1) := by decide +kernel
theorem d_SH_mixBlock_285 : decode b_SH_mixBlock 285 = .ok (.getfield 9, 3) := by decide +kernel
theorem d_SH_mixBlock_288 : decode b_SH_mixBlock 288 = .ok (.bipush 7, 2) := by decide +kernel
theorem d_SH_mixBlock_290 : decode b_SH_mixBlock 290 = .ok (.dup2, 1) := by decide +kernel
theorem d_SH_mixBlock_291 : decode b_SH_mixBlock 291 = .ok (.iaload, 1) := by decide +kernel
theorem d_SH_mixBlock_292 : decode b_SH_mixBlock 292 = .ok (.iload 8, 2) := by decide +kernel
theorem d_SH_mixBlock_294 : decode b_SH_mixBlock 294 = .ok (.iadd, 1) := by decide +kernel
theorem d_SH_mixBlock_295 : decode b_SH_mixBlock 295 = .ok (.iastore, 1) := by decide +kernel
theorem d_SH_mixBlock_296 : decode b_SH_mixBlock 296 = .ok (.return_, 1) := by decide +kernel
theorem d_SH_begin_0 : decode b_SH_begin 0 = .ok (.iconst 0, 1) := by decide +kernel
theorem d_SH_begin_1 : decode b_SH_begin 1 = .ok (.istore_n 1, 1) := by decide +kernel
theorem d_SH_begin_2 : decode b_SH_begin 2 = .ok (.iload_n 1, 1) := by decide +kernel
theorem d_SH_begin_3 : decode b_SH_begin 3 = .ok (.bipush 8, 2) := by decide +kernel
theorem d_SH_begin_5 : decode b_SH_begin 5 = .ok (.if_icmp .ge 20, 3) := by decide +kernel
theorem d_SH_begin_8 : decode b_SH_begin 8 = .ok (.aload_n 0, 1) := by decide +kernel
theorem d_SH_begin_9 : decode b_SH_begin 9 = .ok (.getfield 9, 3) := by decide +kernel
theorem d_SH_begin_12 : decode b_SH_begin 12 = .ok (.iload_n 1, 1) := by decide +kernel
theorem d_SH_begin_13 : decode b_SH_begin 13 = .ok (.getstatic 26, 3) := by decide +kernel
theorem d_SH_begin_16 : decode b_SH_begin 16 = .ok (.iload_n 1, 1) := by decide +kernel
theorem d_SH_begin_17 : decode b_SH_begin 17 = .ok (.iaload, 1) := by decide +kernel
theorem d_SH_begin_18 : decode b_SH_begin 18 = .ok (.iastore, 1) := by decide +kernel
theorem d_SH_begin_19 : decode b_SH_begin 19 = .ok (.iinc 1 1, 3) := by decide +kernel
theorem d_SH_begin_22 : decode b_SH_begin 22 = .ok (.goto (-20), 3) := by decide +kernel
theorem d_SH_begin_25 : decode b_SH_begin 25 = .ok (.aload_n 0, 1) := by decide +kernel
theorem d_SH_begin_26 : decode b_SH_begin 26 = .ok (.iconst 0, 1) := by decide +kernel
theorem d_SH_begin_27 : decode b_SH_begin 27 = .ok (.putfield 18, 3) := by decide +kernel
theorem d_SH_begin_30 : decode b_SH_begin 30 = .ok (.aload_n 0, 1) := by decide +kernel
theorem d_SH_begin_31 : decode b_SH_begin 31 = .ok (.lconst 0, 1) := by decide +kernel
theorem d_SH_begin_32 : decode b_SH_begin 32 = .ok (.putfield 22, 3) := by decide +kernel
theorem d_SH_begin_35 : decode b_SH_begin 35 = .ok (.return_, 1) := by decide +kernel
theorem d_SH_feed_0 : decode b_SH_feed 0 = .ok (.aload_n 0, 1) := by decide +kernel
theorem d_SH_feed_1 : decode b_SH_feed 1 = .ok (.getfield 18, 3) := by decide +kernel
theorem d_SH_feed_4 : decode b_SH_feed 4 = .ok (.iconst 2, 1) := by decide +kernel
theorem d_SH_feed_5 : decode b_SH_feed 5 = .ok (.ishr, 1) := by decide +kernel
theorem d_SH_feed_6 : decode b_SH_feed 6 = .ok (.bipush 15, 2) := by decide +kernel
theorem d_SH_feed_8 : decode b_SH_feed 8 = .ok (.iand, 1) := by decide +kernel
theorem d_SH_feed_9 : decode b_SH_feed 9 = .ok (.istore_n 2, 1) := by decide +kernel
theorem d_SH_feed_10 : decode b_SH_feed 10 = .ok (.aload_n 0, 1) := by decide +kernel
theorem d_SH_feed_11 : decode b_SH_feed 11 = .ok (.getfield 15, 3) := by decide +kernel
theorem d_SH_feed_14 : decode b_SH_feed 14 = .ok (.iload_n 2, 1) := by decide +kernel
theorem d_SH_feed_15 : decode b_SH_feed 15 = .ok (.aload_n 0, 1) := by decide +kernel
theorem d_SH_feed_16 : decode b_SH_feed 16 = .ok (.getfield 15, 3) := by decide +kernel
theorem d_SH_feed_19 : decode b_SH_feed 19 = .ok (.iload_n 2, 1) := by decide +kernel
theorem d_SH_feed_20 : decode b_SH_feed 20 = .ok (.iaload, 1) := by decide +kernel
theorem d_SH_feed_21 : decode b_SH_feed 21 = .ok (.bipush 8, 2) := by decide +kernel
theorem d_SH_feed_23 : decode b_SH_feed 23 = .ok (.ishl, 1) := by decide +kernel
theorem d_SH_feed_24 : decode b_SH_feed 24 = .ok (.iload_n 1, 1) := by decide +kernel
theorem d_SH_feed_25 : decode b_SH_feed 25 = .ok (.sipush 255, 3) := by decide +kernel
theorem d_SH_feed_28 : decode b_SH_feed 28 = .ok (.iand, 1) := by decide +kernel
theorem d_SH_feed_29 : decode b_SH_feed 29 = .ok (.ior, 1) := by decide +kernel
theorem d_SH_feed_30 : decode b_SH_feed 30 = .ok (.iastore, 1) := by decide +kernel
theorem d_SH_feed_31 : decode b_SH_feed 31 = .ok (.aload_n 0, 1) := by decide +kernel
theorem d_SH_feed_32 : decode b_SH_feed 32 = .ok (.dup, 1) := by decide +kernel
theorem d_SH_feed_33 : decode b_SH_feed 33 = .ok (.getfield 18, 3) := by decide +kernel
theorem d_SH_feed_36 : decode b_SH_feed 36 = .ok (.iconst 1, 1) := by decide +kernel
theorem d_SH_feed_37 : decode b_SH_feed 37 = .ok (.iadd, 1) := by decide +kernel
theorem d_SH_feed_38 : decode b_SH_feed 38 = .ok (.putfield 18, 3) := by decide +kernel
theorem d_SH_feed_41 : decode b_SH_feed 41 = .ok (.aload_n 0, 1) := by decide +kernel
theorem d_SH_feed_42 : decode b_SH_feed 42 = .ok (.dup, 1) := by decide +kernel
theorem d_SH_feed_43 : decode b_SH_feed 43 = .ok (.getfield 22, 3) := by decide +kernel
theorem d_SH_feed_46 : decode b_SH_feed 46 = .ok (.lconst 1, 1) := by decide +kernel
theorem d_SH_feed_47 : decode b_SH_feed 47 = .ok (.ladd, 1) := by decide +kernel
theorem d_SH_feed_48 : decode b_SH_feed 48 = .ok (.putfield 22, 3) := by decide +kernel
theorem d_SH_feed_51 : decode b_SH_feed 51 = .ok (.aload_n 0, 1) := by decide +kernel
theorem d_SH_feed_52 : decode b_SH_feed 52 = .ok (.getfield 18, 3) := by decide +kernel
theorem d_SH_feed_55 : decode b_SH_feed 55 = .ok (.bipush 64, 2) := by decide +kernel
theorem d_SH_feed_57 : decode b_SH_feed 57 = .ok (.if_icmp .lt 16, 3) := by decide +kernel
theorem d_SH_feed_60 : decode b_SH_feed 60 = .ok (.aload_n 0, 1) := by decide +kernel
theorem d_SH_feed_61 : decode b_SH_feed 61 = .ok (.invokevirtual 33, 3) := by decide +kernel
theorem d_SH_feed_64 : decode b_SH_feed 64 = .ok (.aload_n 0, 1) := by decide +kernel
theorem d_SH_feed_65 : decode b_SH_feed 65 = .ok (.invokevirtual 36, 3) := by decide +kernel
theorem d_SH_feed_68 : decode b_SH_feed 68 = .ok (.aload_n 0, 1) := by decide +kernel
theorem d_SH_feed_69 : decode b_SH_feed 69 = .ok (.iconst 0, 1) := by decide +kernel
theorem d_SH_feed_70 : decode b_SH_feed 70 = .ok (.putfield 18, 3) := by decide +kernel
theorem d_SH_feed_73 : decode b_SH_feed 73 = .ok (.return_, 1) := by decide +kernel
theorem d_SH_feedAll_0 : decode b_SH_feedAll 0 = .ok (.iconst 0, 1) := by decide +kernel
theorem d_SH_feedAll_1 : decode b_SH_feedAll 1 = .ok (.istore_n 2, 1) := by decide +kernel
theorem d_SH_feedAll_2 : decode b_SH_feedAll 2 = .ok (.iload_n 2, 1) := by decide +kernel
theorem d_SH_feedAll_3 : decode b_SH_feedAll 3 = .ok (.aload_n 1, 1) := by decide +kernel
theorem d_SH_feedAll_4 : decode b_SH_feedAll 4 = .ok (.arraylength, 1) := by decide +kernel
theorem d_SH_feedAll_5 : decode b_SH_feedAll 5 = .ok (.if_icmp .ge 16, 3) := by decide +kernel
theorem d_SH_feedAll_8 : decode b_SH_feedAll 8 = .ok (.aload_n 0, 1) := by decide +kernel
theorem d_SH_feedAll_9 : decode b_SH_feedAll 9 = .ok (.aload_n 1, 1) := by decide +kernel
theorem d_SH_feedAll_10 : decode b_SH_feedAll 10 = .ok (.iload_n 2, 1) := by decide +kernel
theorem d_SH_feedAll_11 : decode b_SH_feedAll 11 = .ok (.caload, 1) := by decide +kernel
theorem d_SH_feedAll_12 : decode b_SH_feedAll 12 = .ok (.invokevirtual 29, 3) := by decide +kernel
theorem d_SH_feedAll_15 : decode b_SH_feedAll 15 = .ok (.iinc 2 1, 3) := by decide +kernel
theorem d_SH_feedAll_18 : decode b_SH_feedAll 18 = .ok (.goto (-16), 3) := by decide +kernel
theorem d_SH_feedAll_21 : decode b_SH_feedAll 21 = .ok (.return_, 1) := by decide +kernel
theorem d_SH_end_0 : decode b_SH_end 0 = .ok (.aload_n 0, 1) := by decide +kernel
theorem d_SH_end_1 : decode b_SH_end 1 = .ok (.getfield 22, 3) := by decide +kernel
theorem d_SH_end_4 : decode b_SH_end 4 = .ok (.ldc2_w 39, 3) := by decide +kernel
theorem d_SH_end_7 : decode b_SH_end 7 = .ok (.lmul, 1) := by decide +kernel
theorem d_SH_end_8 : decode b_SH_end 8 = .ok (.lstore_n 1, 1) := by decide +kernel
theorem d_SH_end_9 : decode b_SH_end 9 = .ok (.aload_n 0, 1) := by decide +kernel
theorem d_SH_end_10 : decode b_SH_end 10 = .ok (.sipush 128, 3) := by decide +kernel
theorem d_SH_end_13 : decode b_SH_end 13 = .ok (.invokevirtual 29, 3) := by decide +kernel
theorem d_SH_end_16 : decode b_SH_end 16 = .ok (.iconst 0, 1) := by decide +kernel
theorem d_SH_end_17 : decode b_SH_end 17 = .ok (.istore_n 3, 1) := by decide +kernel
theorem d_SH_end_18 : decode b_SH_end 18 = .ok (.iload_n 3, 1) := by decide +kernel
theorem d_SH_end_19 : decode b_SH_end 19 = .ok (.bipush 64, 2) := by decide +kernel
theorem d_SH_end_21 : decode b_SH_end 21 = .ok (.if_icmp .ge 23, 3) := by decide +kernel
theorem d_SH_end_24 : decode b_SH_end 24 = .ok (.aload_n 0, 1) := by decide +kernel
theorem d_SH_end_25 : decode b_SH_end 25 = .ok (.getfield 18, 3) := by decide +kernel
theorem d_SH_end_28 : decode b_SH_end 28 = .ok (.bipush 56, 2) := by decide +kernel
theorem d_SH_end_30 : decode b_SH_end 30 = .ok (.if_icmp .eq 14, 3) := by decide +kernel
theorem d_SH_end_33 : decode b_SH_end 33 = .ok (.aload_n 0, 1) := by decide +kernel
theorem d_SH_end_34 : decode b_SH_end 34 = .ok (.iconst 0, 1) := by decide +kernel
theorem d_SH_end_35 : decode b_SH_end 35 = .ok (.invokevirtual 29, 3) := by decide +kernel
theorem d_SH_end_38 : decode b_SH_end 38 = .ok (.iinc 3 1, 3) := by decide +kernel
theorem d_SH_end_41 : decode b_SH_end 41 = .ok (.goto (-23), 3) := by decide +kernel
theorem d_SH_end_44 : decode b_SH_end 44 = .ok (.bipush 56, 2) := by decide +kernel
theorem d_SH_end_46 : decode b_SH_end 46 = .ok (.istore_n 3, 1) := by decide +kernel
theorem d_SH_end_47 : decode b_SH_end 47 = .ok (.iload_n 3, 1) := by decide +kernel
theorem d_SH_end_48 : decode b_SH_end 48 = .ok (.ifCond .lt 21, 3) := by decide +kernel
theorem d_SH_end_51 : decode b_SH_end 51 = .ok (.aload_n 0, 1) := by decide +kernel
theorem d_SH_end_52 : decode b_SH_end 52 = .ok (.lload_n 1, 1) := by decide +kernel
theorem d_SH_end_53 : decode b_SH_end 53 = .ok (.iload_n 3, 1) := by decide +kernel
theorem d_SH_end_54 : decode b_SH_end 54 = .ok (.lushr, 1) := by decide +kernel
theorem d_SH_end_55 : decode b_SH_end 55 = .ok (.ldc2_w 41, 3) := by decide +kernel
theorem d_SH_end_58 : decode b_SH_end 58 = .ok (.land, 1) := by decide +kernel
theorem d_SH_end_59 : decode b_SH_end 59 = .ok (.l2i, 1) := by decide +kernel
theorem d_SH_end_60 : decode b_SH_end 60 = .ok (.invokevirtual 29, 3) := by decide +kernel
theorem d_SH_end_63 : decode b_SH_end 63 = .ok (.iinc 3 (-8), 3) := by decide +kernel
theorem d_SH_end_66 : decode b_SH_end 66 = .ok (.goto (-19), 3) := by decide +kernel
theorem d_SH_end_69 : decode b_SH_end 69 = .ok (.return_, 1) := by decide +kernel
theorem d_SH_writeDigits_0 : decode b_SH_writeDigits 0 = .ok (.iconst 0, 1) := by decide +kernel
theorem d_SH_writeDigits_1 : decode b_SH_writeDigits 1 = .ok (.istore_n 2, 1) := by decide +kernel
theorem d_SH_writeDigits_2 : decode b_SH_writeDigits 2 = .ok (.iload_n 2, 1) := by decide +kernel
theorem d_SH_writeDigits_3 : decode b_SH_writeDigits 3 = .ok (.bipush 64, 2) := by decide +kernel
theorem d_SH_writeDigits_5 : decode b_SH_writeDigits 5 = .ok (.if_icmp .ge 61, 3) := by decide +kernel
theorem d_SH_writeDigits_8 : decode b_SH_writeDigits 8 = .ok (.iload_n 2, 1) := by decide +kernel
theorem d_SH_writeDigits_9 : decode b_SH_writeDigits 9 = .ok (.aload_n 1, 1) := by decide +kernel
theorem d_SH_writeDigits_10 : decode b_SH_writeDigits 10 = .ok (.arraylength, 1) := by decide +kernel
theorem d_SH_writeDigits_11 : decode b_SH_writeDigits 11 = .ok (.if_icmp .ge 55, 3) := by decide +kernel
theorem d_SH_writeDigits_14 : decode b_SH_writeDigits 14 = .ok (.aload_n 0, 1) := by decide +kernel
theorem d_SH_writeDigits_15 : decode b_SH_writeDigits 15 = .ok (.getfield 9, 3) := by decide +kernel
theorem d_SH_writeDigits_18 : decode b_SH_writeDigits 18 = .ok (.iload_n 2, 1) := by decide +kernel
theorem d_SH_writeDigits_19 : decode b_SH_writeDigits 19 = .ok (.iconst 3, 1) := by decide +kernel
theorem d_SH_writeDigits_20 : decode b_SH_writeDigits 20 = .ok (.ishr, 1) := by decide +kernel
theorem d_SH_writeDigits_21 : decode b_SH_writeDigits 21 = .ok (.iaload, 1) := by decide +kernel
theorem d_SH_writeDigits_22 : decode b_SH_writeDigits 22 = .ok (.bipush 28, 2) := by decide +kernel
theorem d_SH_writeDigits_24 : decode b_SH_writeDigits 24 = .ok (.iconst 4, 1) := by decide +kernel
theorem d_SH_writeDigits_25 : decode b_SH_writeDigits 25 = .ok (.iload_n 2, 1) := by decide +kernel
theorem d_SH_writeDigits_26 : decode b_SH_writeDigits 26 = .ok (.bipush 7, 2) := by decide +kernel
theorem d_SH_writeDigits_28 : decode b_SH_writeDigits 28 = .ok (.iand, 1) := by decide +kernel
theorem d_SH_writeDigits_29 : decode b_SH_writeDigits 29 = .ok (.imul, 1) := by decide +kernel
theorem d_SH_writeDigits_30 : decode b_SH_writeDigits 30 = .ok (.isub, 1) := by decide +kernel
theorem d_SH_writeDigits_31 : decode b_SH_writeDigits 31 = .ok (.iushr, 1) := by decide +kernel
theorem d_SH_writeDigits_32 : decode b_SH_writeDigits 32 = .ok (.bipush 15, 2) := by decide +kernel
theorem d_SH_writeDigits_34 : decode b_SH_writeDigits 34 = .ok (.iand, 1) := by decide +kernel
theorem d_SH_writeDigits_35 : decode b_SH_writeDigits 35 = .ok (.istore_n 3, 1) := by decide +kernel
theorem d_SH_writeDigits_36 : decode b_SH_writeDigits 36 = .ok (.aload_n 1, 1) := by decide +kernel
theorem d_SH_writeDigits_37 : decode b_SH_writeDigits 37 = .ok (.iload_n 2, 1) := by decide +kernel
theorem d_SH_writeDigits_38 : decode b_SH_writeDigits 38 = .ok (.iload_n 3, 1) := by decide +kernel
theorem d_SH_writeDigits_39 : decode b_SH_writeDigits 39 = .ok (.bipush 10, 2) := by decide +kernel
theorem d_SH_writeDigits_41 : decode b_SH_writeDigits 41 = .ok (.if_icmp .ge 10, 3) := by decide +kernel
theorem d_SH_writeDigits_44 : decode b_SH_writeDigits 44 = .ok (.bipush 48, 2) := by decide +kernel
theorem d_SH_writeDigits_46 : decode b_SH_writeDigits 46 = .ok (.iload_n 3, 1) := by decide +kernel
theorem d_SH_writeDigits_47 : decode b_SH_writeDigits 47 = .ok (.iadd, 1) := by decide +kernel
theorem d_SH_writeDigits_48 : decode b_SH_writeDigits 48 = .ok (.goto 10, 3) := by decide +kernel
theorem d_SH_writeDigits_51 : decode b_SH_writeDigits 51 = .ok (.bipush 97, 2) := by decide +kernel
theorem d_SH_writeDigits_53 : decode b_SH_writeDigits 53 = .ok (.iload_n 3, 1) := by decide +kernel
theorem d_SH_writeDigits_54 : decode b_SH_writeDigits 54 = .ok (.iadd, 1) := by decide +kernel
theorem d_SH_writeDigits_55 : decode b_SH_writeDigits 55 = .ok (.bipush 10, 2) := by decide +kernel
theorem d_SH_writeDigits_57 : decode b_SH_writeDigits 57 = .ok (.isub, 1) := by decide +kernel
theorem d_SH_writeDigits_58 : decode b_SH_writeDigits 58 = .ok (.i2c, 1) := by decide +kernel
theorem d_SH_writeDigits_59 : decode b_SH_writeDigits 59 = .ok (.castore, 1) := by decide +kernel
theorem d_SH_writeDigits_60 : decode b_SH_writeDigits 60 = .ok (.iinc 2 1, 3) := by decide +kernel
theorem d_SH_writeDigits_63 : decode b_SH_writeDigits 63 = .ok (.goto (-61), 3) := by decide +kernel
theorem d_SH_writeDigits_66 : decode b_SH_writeDigits 66 = .ok (.return_, 1) := by decide +kernel
set_option maxHeartbeats 4000000 in
set_option maxRecDepth 100000 in
/-- the rounds over a block -/
theorem c_SH_mixBlock (l : Launch) (D : va_G) (ct : Nat → ClassId) (Z : hp_Z) (hZ : hp_Zok Z) (M : hp_M) (sz : Nat) (tk : Nat) (hzk : zK Z tk) (sh su wo : Nat) (Y : ShT) (hsh : shOk ct M sh su wo Y) : Mv l y_SH_mixBlock b_SH_mixBlock 14 none 1 21 0 0 [.ref sh] D ct Z M sz (fun M1 => M1 = shM ct M sh su wo (adds (mixn Y.2.1 Y.1 64) Y.1, Y.2.1, Y.2.2.1, Y.2.2.2)) := by
  refine hp_start (by decide) (Nat.le_of_ble_eq_true rfl) (fun p e s m below meth c ls S hret hlk hnm hsz hK hM hS hA hz hl => ?_)
  have hx := S.1
  have hb := S.2.1
  have hl : lv_has ls 14 [(0, .ref sh)] := hl
  obtain ⟨f_su, f_wo, f_sh, hfl⟩ := id hsh
  refine lv_aload_n hx hb d_SH_mixBlock_0 rfl (lv_at hl 0 rfl) ?_
  refine hp_get S hK hM i_SH f_sh rfl 0 (by decide) mf_SH_9 (fun _ h9 => h9) rfl d_SH_mixBlock_1 ?_
  refine lv_iconst (v := nI 0) hx hb d_SH_mixBlock_4 rfl ?_
  refine hp_iald S hK hM 1 f_su rfl 0 rfl (by omega) (by omega) d_SH_mixBlock_5 ?_
  refine lv_istore_n (lv' := [(1, .int ((Y.1) 0)), (0, .ref sh)]) hx hb d_SH_mixBlock_6 rfl hl (by decide) rfl (fun ls hl => ?_)
  refine lv_aload_n hx hb d_SH_mixBlock_7 rfl (lv_at hl 1 rfl) ?_
  refine hp_get S hK hM i_SH f_sh rfl 0 (by decide) mf_SH_9 (fun _ h9 => h9) rfl d_SH_mixBlock_8 ?_
  refine lv_iconst (v := nI 1) hx hb d_SH_mixBlock_11 rfl ?_
  refine hp_iald S hK hM 1 f_su rfl 1 rfl (by omega) (by omega) d_SH_mixBlock_12 ?_
  refine lv_istore_n (lv' := [(2, .int ((Y.1) 1)), (1, .int ((Y.1) 0)), (0, .ref sh)]) hx hb d_SH_mixBlock_13 rfl hl (by decide) rfl (fun ls hl => ?_)
  refine lv_aload_n hx hb d_SH_mixBlock_14 rfl (lv_at hl 2 rfl) ?_
  refine hp_get S hK hM i_SH f_sh rfl 0 (by decide) mf_SH_9 (fun _ h9 => h9) rfl d_SH_mixBlock_15 ?_
  refine lv_iconst (v := nI 2) hx hb d_SH_mixBlock_18 rfl ?_
  refine hp_iald S hK hM 1 f_su rfl 2 rfl (by omega) (by omega) d_SH_mixBlock_19 ?_
  refine lv_istore_n (lv' := [(3, .int ((Y.1) 2)), (2, .int ((Y.1) 1)), (1, .int ((Y.1) 0)), (0, .ref sh)]) hx hb d_SH_mixBlock_20 rfl hl (by decide) rfl (fun ls hl => ?_)
  refine lv_aload_n hx hb d_SH_mixBlock_21 rfl (lv_at hl 3 rfl) ?_
  refine hp_get S hK hM i_SH f_sh rfl 0 (by decide) mf_SH_9 (fun _ h9 => h9) rfl d_SH_mixBlock_22 ?_
  refine lv_iconst (v := nI 3) hx hb d_SH_mixBlock_25 rfl ?_
  refine hp_iald S hK hM 1 f_su rfl 3 rfl (by omega) (by omega) d_SH_mixBlock_26 ?_
  refine lv_istore (lv' := [(4, .int ((Y.1) 3)), (3, .int ((Y.1) 2)), (2, .int ((Y.1) 1)), (1, .int ((Y.1) 0)), (0, .ref sh)]) hx hb d_SH_mixBlock_27 hl (by decide) rfl (fun ls hl => ?_)
  refine lv_aload_n hx hb d_SH_mixBlock_29 rfl (lv_at hl 4 rfl) ?_
  refine hp_get S hK hM i_SH f_sh rfl 0 (by decide) mf_SH_9 (fun _ h9 => h9) rfl d_SH_mixBlock_30 ?_
  refine lv_iconst (v := nI 4) hx hb d_SH_mixBlock_33 rfl ?_
  refine hp_iald S hK hM 1 f_su rfl 4 rfl (by omega) (by omega) d_SH_mixBlock_34 ?_
  refine lv_istore (lv' := [(5, .int ((Y.1) 4)), (4, .int ((Y.1) 3)), (3, .int ((Y.1) 2)), (2, .int ((Y.1) 1)), (1, .int ((Y.1) 0)), (0, .ref sh)]) hx hb d_SH_mixBlock_35 hl (by decide) rfl (fun ls hl => ?_)
  refine lv_aload_n hx hb d_SH_mixBlock_37 rfl (lv_at hl 5 rfl) ?_
  refine hp_get S hK hM i_SH f_sh rfl 0 (by decide) mf_SH_9 (fun _ h9 => h9) rfl d_SH_mixBlock_38 ?_
  refine lv_iconst (v := nI 5) hx hb d_SH_mixBlock_41 rfl ?_
  refine hp_iald S hK hM 1 f_su rfl 5 rfl (by omega) (by omega) d_SH_mixBlock_42 ?_
  refine lv_istore (lv' := [(6, .int ((Y.1) 5)), (5, .int ((Y.1) 4)), (4, .int ((Y.1) 3)), (3, .int ((Y.1) 2)), (2, .int ((Y.1) 1)), (1, .int ((Y.1) 0)), (0, .ref sh)]) hx hb d_SH_mixBlock_43 hl (by decide) rfl (fun ls hl => ?_)
  refine lv_aload_n hx hb d_SH_mixBlock_45 rfl (lv_at hl 6 rfl) ?_
  refine hp_get S hK hM i_SH f_sh rfl 0 (by decide) mf_SH_9 (fun _ h9 => h9) rfl d_SH_mixBlock_46 ?_
  refine lv_bipush (v := nI 6) hx hb d_SH_mixBlock_49 rfl ?_
  refine hp_iald S hK hM 1 f_su rfl 6 rfl (by omega) (by omega) d_SH_mixBlock_51 ?_
  refine lv_istore (lv' := [(7, .int ((Y.1) 6)), (6, .int ((Y.1) 5)), (5, .int ((Y.1) 4)), (4, .int ((Y.1) 3)), (3, .int ((Y.1) 2)), (2, .int ((Y.1) 1)), (1, .int ((Y.1) 0)), (0, .ref sh)]) hx hb d_SH_mixBlock_52 hl (by decide) rfl (fun ls hl => ?_)
  refine lv_aload_n hx hb d_SH_mixBlock_54 rfl (lv_at hl 7 rfl) ?_
  refine hp_get S hK hM i_SH f_sh rfl 0 (by decide) mf_SH_9 (fun _ h9 => h9) rfl d_SH_mixBlock_55 ?_
  refine lv_bipush (v := nI 7) hx hb d_SH_mixBlock_58 rfl ?_
  refine hp_iald S hK hM 1 f_su rfl 7 rfl (by omega) (by omega) d_SH_mixBlock_60 ?_
  refine lv_istore (lv' := [(8, .int ((Y.1) 7)), (7, .int ((Y.1) 6)), (6, .int ((Y.1) 5)), (5, .int ((Y.1) 4)), (4, .int ((Y.1) 3)), (3, .int ((Y.1) 2)), (2, .int ((Y.1) 1)), (1, .int ((Y.1) 0)), (0, .ref sh)]) hx hb d_SH_mixBlock_61 hl (by decide) rfl (fun ls hl => ?_)
  refine lv_iconst (v := nI 0) hx hb d_SH_mixBlock_63 rfl ?_
  refine lv_istore (lv' := [(9, .int (nI 0)), (8, .int ((Y.1) 7)), (7, .int ((Y.1) 6)), (6, .int ((Y.1) 5)), (5, .int ((Y.1) 4)), (4, .int ((Y.1) 3)), (3, .int ((Y.1) 2)), (2, .int ((Y.1) 1)), (1, .int ((Y.1) 0)), (0, .ref sh)]) hx hb d_SH_mixBlock_64 hl (by decide) rfl (fun ls hl => ?_)
  replace hl : lv_has ls 14 [(0, .ref sh), (1, .int ((Y.1) 0)), (2, .int ((Y.1) 1)), (3, .int ((Y.1) 2)), (4, .int ((Y.1) 3)), (5, .int ((Y.1) 4)), (6, .int ((Y.1) 5)), (7, .int ((Y.1) 6)), (8, .int ((Y.1) 7)), (9, .int (nI 0))] := lv_sub hl [9, 8, 7, 6, 5, 4, 3, 2, 1, 0] rfl
  obtain ⟨j, e9j⟩ : ∃ z : Nat, z = 0 := ⟨_, rfl⟩
  obtain ⟨V, e9V⟩ : ∃ z : Nat → Int32, z = Y.1 := ⟨_, rfl⟩
  replace hl : lv_has ls 14 [(0, .ref sh), (1, .int (V 0)), (2, .int (V 1)), (3, .int (V 2)), (4, .int (V 3)), (5, .int (V 4)), (6, .int (V 5)), (7, .int (V 6)), (8, .int (V 7)), (9, .int (nI j))] := by subst e9j e9V; exact hl
  obtain ⟨H, e9H⟩ : ∃ z : Heap, z = s.heap := ⟨_, rfl⟩
  replace hM : hp_H D ccl (hp_A M sz) M H := by rw [e9H]; exact hM
  replace hS : va_S (hp_A M sz) s.heap H [] := by rw [e9H]; exact hS
  rw [← e9H]
  clear e9H
  obtain ⟨locs, e9L⟩ : ∃ z : List Loc, z = [] := ⟨_, rfl⟩
  replace hS : va_S (hp_A M sz) s.heap H locs := by rw [e9L]; exact hS
  rw [← e9L]
  clear e9L
  have hV : V = mixn Y.2.1 Y.1 j := by subst e9j e9V; rfl
  obtain ⟨fu, hn⟩ : ∃ fu : Nat, j + fu = 64 := ⟨64 - j, by omega⟩
  clear e9j e9V
  induction fu generalizing j V H locs ls with
  | zero =>
    have hn : j = 64 := by omega
    subst hn
    refine lv_iload hx hb d_SH_mixBlock_66 (lv_at hl 9 rfl) ?_
    refine lv_bipush (v := nI 64) hx hb d_SH_mixBlock_68 rfl ?_
    refine nb_ge (tgt := 209) hx hb d_SH_mixBlock_70 (by decide) (by omega) (by omega) (fun h1 => ?_) (fun h1 => ?_)
    · refine lv_aload_n hx hb d_SH_mixBlock_209 rfl (lv_at hl 0 rfl) ?_
      refine hp_get S hK hM i_SH f_sh rfl 0 (by decide) mf_SH_9 (fun _ h9 => h9) rfl d_SH_mixBlock_210 ?_
      refine lv_iconst (v := nI 0) hx hb d_SH_mixBlock_213 rfl ?_
      refine lv_dup2_11 hx hb d_SH_mixBlock_214 rfl rfl ?_
      refine hp_iald S hK hM 1 f_su rfl 0 rfl (by omega) (by omega) d_SH_mixBlock_215 ?_
      refine lv_iload_n hx hb d_SH_mixBlock_216 rfl (lv_at hl 1 rfl) ?_
      refine lv_iadd hx hb d_SH_mixBlock_217 ?_
      refine hp_iast S hK hM hS 1 f_su rfl 0 rfl (by omega) (by omega) d_SH_mixBlock_218 (fun H locs hM hS => ?_)
      have f_wo := hp_k (e := (.inl (ct 1, 8, .inl (upd (Y.1) 0 (((Y.1) 0) + (V 0)))))) (hp_ne f_wo f_su (by simp)) f_wo
      have f_sh := hp_k (e := (.inl (ct 1, 8, .inl (upd (Y.1) 0 (((Y.1) 0) + (V 0)))))) (hp_ne f_sh f_su (by simp)) f_sh
      have f_su : hp_up M su (.inl (ct 1, 8, .inl (upd (Y.1) 0 (((Y.1) 0) + (V 0))))) su = some (.inl (ct 1, 8, .inl (upd (Y.1) 0 (((Y.1) 0) + (V 0))))) := hp_us
      obtain ⟨M2, eM2⟩ : ∃ z, z = hp_up M su (.inl (ct 1, 8, .inl (upd (Y.1) 0 (((Y.1) 0) + (V 0))))) := ⟨_, rfl⟩
      rw [← eM2] at hM f_su f_wo f_sh
      refine lv_aload_n hx hb d_SH_mixBlock_219 rfl (lv_at hl 0 rfl) ?_
      refine hp_get S hK hM i_SH f_sh rfl 0 (by decide) mf_SH_9 (fun _ h9 => h9) rfl d_SH_mixBlock_220 ?_
      refine lv_iconst (v := nI 1) hx hb d_SH_mixBlock_223 rfl ?_
      refine lv_dup2_11 hx hb d_SH_mixBlock_224 rfl rfl ?_
      refine hp_iald S hK hM 1 f_su rfl 1 rfl (by omega) (by omega) d_SH_mixBlock_225 ?_
      refine lv_iload_n hx hb d_SH_mixBlock_226 rfl (lv_at hl 2 rfl) ?_
      refine lv_iadd hx hb d_SH_mixBlock_227 ?_
      refine hp_iast S hK hM hS 1 f_su rfl 1 rfl (by omega) (by omega) d_SH_mixBlock_228 (fun H locs hM hS => ?_)
      have f_wo := hp_k (e := (.inl (ct 1, 8, .inl (upd (upd (Y.1) 0 (((Y.1) 0) + (V 0))) 1 (((upd (Y.1) 0 (((Y.1) 0) + (V 0))) 1) + (V 1)))))) (hp_ne f_wo f_su (by simp)) f_wo
      have f_sh := hp_k (e := (.inl (ct 1, 8, .inl (upd (upd (Y.1) 0 (((Y.1) 0) + (V 0))) 1 (((upd (Y.1) 0 (((Y.1) 0) + (V 0))) 1) + (V 1)))))) (hp_ne f_sh f_su (by simp)) f_sh
      have f_su : hp_up M2 su (.inl (ct 1, 8, .inl (upd (upd (Y.1) 0 (((Y.1) 0) + (V 0))) 1 (((upd (Y.1) 0 (((Y.1) 0) + (V 0))) 1) + (V 1))))) su = some (.inl (ct 1, 8, .inl (upd (upd (Y.1) 0 (((Y.1) 0) + (V 0))) 1 (((upd (Y.1) 0 (((Y.1) 0) + (V 0))) 1) + (V 1))))) := hp_us
      obtain ⟨M3, eM3⟩ : ∃ z, z = hp_up M2 su (.inl (ct 1, 8, .inl (upd (upd (Y.1) 0 (((Y.1) 0) + (V 0))) 1 (((upd (Y.1) 0 (((Y.1) 0) + (V 0))) 1) + (V 1))))) := ⟨_, rfl⟩
      rw [← eM3] at hM f_su f_wo f_sh
      refine lv_aload_n hx hb d_SH_mixBlock_229 rfl (lv_at hl 0 rfl) ?_
      refine hp_get S hK hM i_SH f_sh rfl 0 (by decide) mf_SH_9 (fun _ h9 => h9) rfl d_SH_mixBlock_230 ?_
      refine lv_iconst (v := nI 2) hx hb d_SH_mixBlock_233 rfl ?_
      refine lv_dup2_11 hx hb d_SH_mixBlock_234 rfl rfl ?_
      refine hp_iald S hK hM 1 f_su rfl 2 rfl (by omega) (by omega) d_SH_mixBlock_235 ?_
      refine lv_iload_n hx hb d_SH_mixBlock_236 rfl (lv_at hl 3 rfl) ?_
      refine lv_iadd hx hb d_SH_mixBlock_237 ?_
      refine hp_iast S hK hM hS 1 f_su rfl 2 rfl (by omega) (by omega) d_SH_mixBlock_238 (fun H locs hM hS => ?_)
      have f_wo := hp_k (e := (.inl (ct 1, 8, .inl (upd (upd (upd (Y.1) 0 (((Y.1) 0) + (V 0))) 1 (((upd (Y.1) 0 (((Y.1) 0) + (V 0))) 1) + (V 1))) 2 (((upd (upd (Y.1) 0 (((Y.1) 0) + (V 0))) 1 (((upd (Y.1) 0 (((Y.1) 0) + (V 0))) 1) + (V 1))) 2) + (V 2)))))) (hp_ne f_wo f_su (by simp)) f_wo
      have f_sh := hp_k (e := (.inl (ct 1, 8, .inl (upd (upd (upd (Y.1) 0 (((Y.1) 0) + (V 0))) 1 (((upd (Y.1) 0 (((Y.1) 0) + (V 0))) 1) + (V 1))) 2 (((upd (upd (Y.1) 0 (((Y.1) 0) + (V 0))) 1 (((upd (Y.1) 0 (((Y.1) 0) + (V 0))) 1) + (V 1))) 2) + (V 2)))))) (hp_ne f_sh f_su (by simp)) f_sh
      have f_su : hp_up M3 su (.inl (ct 1, 8, .inl (upd (upd (upd (Y.1) 0 (((Y.1) 0) + (V 0))) 1 (((upd (Y.1) 0 (((Y.1) 0) + (V 0))) 1) + (V 1))) 2 (((upd (upd (Y.1) 0 (((Y.1) 0) + (V 0))) 1 (((upd (Y.1) 0 (((Y.1) 0) + (V 0))) 1) + (V 1))) 2) + (V 2))))) su = some (.inl (ct 1, 8, .inl (upd (upd (upd (Y.1) 0 (((Y.1) 0) + (V 0))) 1 (((upd (Y.1) 0 (((Y.1) 0) + (V 0))) 1) + (V 1))) 2 (((upd (upd (Y.1) 0 (((Y.1) 0) + (V 0))) 1 (((upd (Y.1) 0 (((Y.1) 0) + (V 0))) 1) + (V 1))) 2) + (V 2))))) := hp_us
      obtain ⟨M4, eM4⟩ : ∃ z, z = hp_up M3 su (.inl (ct 1, 8, .inl (upd (upd (upd (Y.1) 0 (((Y.1) 0) + (V 0))) 1 (((upd (Y.1) 0 (((Y.1) 0) + (V 0))) 1) + (V 1))) 2 (((upd (upd (Y.1) 0 (((Y.1) 0) + (V 0))) 1 (((upd (Y.1) 0 (((Y.1) 0) + (V 0))) 1) + (V 1))) 2) + (V 2))))) := ⟨_, rfl⟩
      rw [← eM4] at hM f_su f_wo f_sh
      refine lv_aload_n hx hb d_SH_mixBlock_239 rfl (lv_at hl 0 rfl) ?_
      refine hp_get S hK hM i_SH f_sh rfl 0 (by decide) mf_SH_9 (fun _ h9 => h9) rfl d_SH_mixBlock_240 ?_
      refine lv_iconst (v := nI 3) hx hb d_SH_mixBlock_243 rfl ?_
      refine lv_dup2_11 hx hb d_SH_mixBlock_244 rfl rfl ?_
      refine hp_iald S hK hM 1 f_su rfl 3 rfl (by omega) (by omega) d_SH_mixBlock_245 ?_
      refine lv_iload hx hb d_SH_mixBlock_246 (lv_at hl 4 rfl) ?_
      refine lv_iadd hx hb d_SH_mixBlock_248 ?_
      refine hp_iast S hK hM hS 1 f_su rfl 3 rfl (by omega) (by omega) d_SH_mixBlock_249 (fun H locs hM hS => ?_)
      have f_wo := hp_k (e := (.inl (ct 1, 8, .inl (upd (upd (upd (upd (Y.1) 0 (((Y.1) 0) + (V 0))) 1 (((upd (Y.1) 0 (((Y.1) 0) + (V 0))) 1) + (V 1))) 2 (((upd (upd (Y.1) 0 (((Y.1) 0) + (V 0))) 1 (((upd (Y.1) 0 (((Y.1) 0) + (V 0))) 1) + (V 1))) 2) + (V 2))) 3 (((upd (upd (upd (Y.1) 0 (((Y.1) 0) + (V 0))) 1 (((upd (Y.1) 0 (((Y.1) 0) + (V 0))) 1) + (V 1))) 2 (((upd (upd (Y.1) 0 (((Y.1) 0) + (V 0))) 1 (((upd (Y.1) 0 (((Y.1) 0) + (V 0))) 1) + (V 1))) 2) + (V 2))) 3) + (V 3)))))) (hp_ne f_wo f_su (by simp)) f_wo
      have f_sh := hp_k (e := (.inl (ct 1, 8, .inl (upd (upd (upd (upd (Y.1) 0 (((Y.1) 0) + (V 0))) 1 (((upd (Y.1) 0 (((Y.1) 0) + (V 0))) 1) + (V 1))) 2 (((upd (upd (Y.1) 0 (((Y.1) 0) + (V 0))) 1 (((upd (Y.1) 0 (((Y.1) 0) + (V 0))) 1) + (V 1))) 2) + (V 2))) 3 (((upd (upd (upd (Y.1) 0 (((Y.1) 0) + (V 0))) 1 (((upd (Y.1) 0 (((Y.1) 0) + (V 0))) 1) + (V 1))) 2 (((upd (upd (Y.1) 0 (((Y.1) 0) + (V 0))) 1 (((upd (Y.1) 0 (((Y.1) 0) + (V 0))) 1) + (V 1))) 2) + (V 2))) 3) + (V 3)))))) (hp_ne f_sh f_su (by simp)) f_sh
      have f_su : hp_up M4 su (.inl (ct 1, 8, .inl (upd (upd (upd (upd (Y.1) 0 (((Y.1) 0) + (V 0))) 1 (((upd (Y.1) 0 (((Y.1) 0) + (V 0))) 1) + (V 1))) 2 (((upd (upd (Y.1) 0 (((Y.1) 0) + (V 0))) 1 (((upd (Y.1) 0 (((Y.1) 0) + (V 0))) 1) + (V 1))) 2) + (V 2))) 3 (((upd (upd (upd (Y.1) 0 (((Y.1) 0) + (V 0))) 1 (((upd (Y.1) 0 (((Y.1) 0) + (V 0))) 1) + (V 1))) 2 (((upd (upd (Y.1) 0 (((Y.1) 0) + (V 0))) 1 (((upd (Y.1) 0 (((Y.1) 0) + (V 0))) 1) + (V 1))) 2) + (V 2))) 3) + (V 3))))) su = some (.inl (ct 1, 8, .inl (upd (upd (upd (upd (Y.1) 0 (((Y.1) 0) + (V 0))) 1 (((upd (Y.1) 0 (((Y.1) 0) + (V 0))) 1) + (V 1))) 2 (((upd (upd (Y.1) 0 (((Y.1) 0) + (V 0))) 1 (((upd (Y.1) 0 (((Y.1) 0) + (V 0))) 1) + (V 1))) 2) + (V 2))) 3 (((upd (upd (upd (Y.1) 0 (((Y.1) 0) + (V 0))) 1 (((upd (Y.1) 0 (((Y.1) 0) + (V 0))) 1) + (V 1))) 2 (((upd (upd (Y.1) 0 (((Y.1) 0) + (V 0))) 1 (((upd (Y.1) 0 (((Y.1) 0) + (V 0))) 1) + (V 1))) 2) + (V 2))) 3) + (V 3))))) := hp_us
      obtain ⟨M5, eM5⟩ : ∃ z, z = hp_up M4 su (.inl (ct 1, 8, .inl (upd (upd (upd (upd (Y.1) 0 (((Y.1) 0) + (V 0))) 1 (((upd (Y.1) 0 (((Y.1) 0) + (V 0))) 1) + (V 1))) 2 (((upd (upd (Y.1) 0 (((Y.1) 0) + (V 0))) 1 (((upd (Y.1) 0 (((Y.1) 0) + (V 0))) 1) + (V 1))) 2) + (V 2))) 3 (((upd (upd (upd (Y.1) 0 (((Y.1) 0) + (V 0))) 1 (((upd (Y.1) 0 (((Y.1) 0) + (V 0))) 1) + (V 1))) 2 (((upd (upd (Y.1) 0 (((Y.1) 0) + (V 0))) 1 (((upd (Y.1) 0 (((Y.1) 0) + (V 0))) 1) + (V 1))) 2) + (V 2))) 3) + (V 3))))) := ⟨_, rfl⟩
      rw [← eM5] at hM f_su f_wo f_sh
      refine lv_aload_n hx hb d_SH_mixBlock_250 rfl (lv_at hl 0 rfl) ?_
      refine hp_get S hK hM i_SH f_sh rfl 0 (by decide) mf_SH_9 (fun _ h9 => h9) rfl d_SH_mixBlock_251 ?_
      refine lv_iconst (v := nI 4) hx hb d_SH_mixBlock_254 rfl ?_
      refine lv_dup2_11 hx hb d_SH_mixBlock_255 rfl rfl ?_
      refine hp_iald S hK hM 1 f_su rfl 4 rfl (by omega) (by omega) d_SH_mixBlock_256 ?_
      refine lv_iload hx hb d_SH_mixBlock_257 (lv_at hl 5 rfl) ?_
      refine lv_iadd hx hb d_SH_mixBlock_259 ?_
      refine hp_iast S hK hM hS 1 f_su rfl 4 rfl (by omega) (by omega) d_SH_mixBlock_260 (fun H locs hM hS => ?_)
      have f_wo := hp_k (e := (.inl (ct 1, 8, .inl (upd (upd (upd (upd (upd (Y.1) 0 (((Y.1) 0) + (V 0))) 1 (((upd (Y.1) 0 (((Y.1) 0) + (V 0))) 1) + (V 1))) 2 (((upd (upd (Y.1) 0 (((Y.1) 0) + (V 0))) 1 (((upd (Y.1) 0 (((Y.1) 0) + (V 0))) 1) + (V 1))) 2) + (V 2))) 3 (((upd (upd (upd (Y.1) 0 (((Y.1) 0) + (V 0))) 1 (((upd (Y.1) 0 (((Y.1) 0) + (V 0))) 1) + (V 1))) 2 (((upd (upd (Y.1) 0 (((Y.1) 0) + (V 0))) 1 (((upd (Y.1) 0 (((Y.1) 0) + (V 0))) 1) + (V 1))) 2) + (V 2))) 3) + (V 3))) 4 (((upd (upd (upd (upd (Y.1) 0 (((Y.1) 0) + (V 0))) 1 (((upd (Y.1) 0 (((Y.1) 0) + (V 0))) 1) + (V 1))) 2 (((upd (upd (Y.1) 0 (((Y.1) 0) + (V 0))) 1 (((upd (Y.1) 0 (((Y.1) 0) + (V 0))) 1) + (V 1))) 2) + (V 2))) 3 (((upd (upd (upd (Y.1) 0 (((Y.1) 0) + (V 0))) 1 (((upd (Y.1) 0 (((Y.1) 0) + (V 0))) 1) + (V 1))) 2 (((upd (upd (Y.1) 0 (((Y.1) 0) + (V 0))) 1 (((upd (Y.1) 0 (((Y.1) 0) + (V 0))) 1) + (V 1))) 2) + (V 2))) 3) + (V 3))) 4) + (V 4)))))) (hp_ne f_wo f_su (by simp)) f_wo
      have f_sh := hp_k (e := (.inl (ct 1, 8, .inl (upd (upd (upd (upd (upd (Y.1) 0 (((Y.1) 0) + (V 0))) 1 (((upd (Y.1) 0 (((Y.1) 0) + (V 0))) 1) + (V 1))) 2 (((upd (upd (Y.1) 0 (((Y.1) 0) + (V 0))) 1 (((upd (Y.1) 0 (((Y.1) 0) + (V 0))) 1) + (V 1))) 2) + (V 2))) 3 (((upd (upd (upd (Y.1) 0 (((Y.1) 0) + (V 0))) 1 (((upd (Y.1) 0 (((Y.1) 0) + (V 0))) 1) + (V 1))) 2 (((upd (upd (Y.1) 0 (((Y.1) 0) + (V 0))) 1 (((upd (Y.1) 0 (((Y.1) 0) + (V 0))) 1) + (V 1))) 2) + (V 2))) 3) + (V 3))) 4 (((upd (upd (upd (upd (Y.1) 0 (((Y.1) 0) + (V 0))) 1 (((upd (Y.1) 0 (((Y.1) 0) + (V 0))) 1) + (V 1))) 2 (((upd (upd (Y.1) 0 (((Y.1) 0) + (V 0))) 1 (((upd (Y.1) 0 (((Y.1) 0) + (V 0))) 1) + (V 1))) 2) + (V 2))) 3 (((upd (upd (upd (Y.1) 0 (((Y.1) 0) + (V 0))) 1 (((upd (Y.1) 0 (((Y.1) 0) + (V 0))) 1) + (V 1))) 2 (((upd (upd (Y.1) 0 (((Y.1) 0) + (V 0))) 1 (((upd (Y.1) 0 (((Y.1) 0) + (V 0))) 1) + (V 1))) 2) + (V 2))) 3) + (V 3))) 4) + (V 4)))))) (hp_ne f_sh f_su (by simp)) f_sh
      have f_su : hp_up M5 su (.inl (ct 1, 8, .inl (upd (upd (upd (upd (upd (Y.1) 0 (((Y.1) 0) + (V 0))) 1 (((upd (Y.1) 0 (((Y.1) 0) + (V 0))) 1) + (V 1))) 2 (((upd (upd (Y.1) 0 (((Y.1) 0) + (V 0))) 1 (((upd (Y.1) 0 (((Y.1) 0) + (V 0))) 1) + (V 1))) 2) + (V 2))) 3 (((upd (upd (upd (Y.1) 0 (((Y.1) 0) + (V 0))) 1 (((upd (Y.1) 0 (((Y.1) 0) + (V 0))) 1) + (V 1))) 2 (((upd (upd (Y.1) 0 (((Y.1) 0) + (V 0))) 1 (((upd (Y.1) 0 (((Y.1) 0) + (V 0))) 1) + (V 1))) 2) + (V 2))) 3) + (V 3))) 4 (((upd (upd (upd (upd (Y.1) 0 (((Y.1) 0) + (V 0))) 1 (((upd (Y.1) 0 (((Y.1) 0) + (V 0))) 1) + (V 1))) 2 (((upd (upd (Y.1) 0 (((Y.1) 0) + (V 0))) 1 (((upd (Y.1) 0 (((Y.1) 0) + (V 0))) 1) + (V 1))) 2) + (V 2))) 3 (((upd (upd (upd (Y.1) 0 (((Y.1) 0) + (V 0))) 1 (((upd (Y.1) 0 (((Y.1) 0) + (V 0))) 1) + (V 1))) 2 (((upd (upd (Y.1) 0 (((Y.1) 0) + (V 0))) 1 (((upd (Y.1) 0 (((Y.1) 0) + (V 0))) 1) + (V 1))) 2) + (V 2))) 3) + (V 3))) 4) + (V 4))))) su = some (.inl (ct 1, 8, .inl (upd (upd (upd (upd (upd (Y.1) 0 (((Y.1) 0) + (V 0))) 1 (((upd (Y.1) 0 (((Y.1) 0) + (V 0))) 1) + (V 1))) 2 (((upd (upd (Y.1) 0 (((Y.1) 0) + (V 0))) 1 (((upd (Y.1) 0 (((Y.1) 0) + (V 0))) 1) + (V 1))) 2) + (V 2))) 3 (((upd (upd (upd (Y.1) 0 (((Y.1) 0) + (V 0))) 1 (((upd (Y.1) 0 (((Y.1) 0) + (V 0))) 1) + (V 1))) 2 (((upd (upd (Y.1) 0 (((Y.1) 0) + (V 0))) 1 (((upd (Y.1) 0 (((Y.1) 0) + (V 0))) 1) + (V 1))) 2) + (V 2))) 3) + (V 3))) 4 (((upd (upd (upd (upd (Y.1) 0 (((Y.1) 0) + (V 0))) 1 (((upd (Y.1) 0 (((Y.1) 0) + (V 0))) 1) + (V 1))) 2 (((upd (upd (Y.1) 0 (((Y.1) 0) + (V 0))) 1 (((upd (Y.1) 0 (((Y.1) 0) + (V 0))) 1) + (V 1))) 2) + (V 2))) 3 (((upd (upd (upd (Y.1) 0 (((Y.1) 0) + (V 0))) 1 (((upd (Y.1) 0 (((Y.1) 0) + (V 0))) 1) + (V 1))) 2 (((upd (upd (Y.1) 0 (((Y.1) 0) + (V 0))) 1 (((upd (Y.1) 0 (((Y.1) 0) + (V 0))) 1) + (V 1))) 2) + (V 2))) 3) + (V 3))) 4) + (V 4))))) := hp_us
      obtain ⟨M6, eM6⟩ : ∃ z, z = hp_up M5 su (.inl (ct 1, 8, .inl (upd (upd (upd (upd (upd (Y.1) 0 (((Y.1) 0) + (V 0))) 1 (((upd (Y.1) 0 (((Y.1) 0) + (V 0))) 1) + (V 1))) 2 (((upd (upd (Y.1) 0 (((Y.1) 0) + (V 0))) 1 (((upd (Y.1) 0 (((Y.1) 0) + (V 0))) 1) + (V 1))) 2) + (V 2))) 3 (((upd (upd (upd (Y.1) 0 (((Y.1) 0) + (V 0))) 1 (((upd (Y.1) 0 (((Y.1) 0) + (V 0))) 1) + (V 1))) 2 (((upd (upd (Y.1) 0 (((Y.1) 0) + (V 0))) 1 (((upd (Y.1) 0 (((Y.1) 0) + (V 0))) 1) + (V 1))) 2) + (V 2))) 3) + (V 3))) 4 (((upd (upd (upd (upd (Y.1) 0 (((Y.1) 0) + (V 0))) 1 (((upd (Y.1) 0 (((Y.1) 0) + (V 0))) 1) + (V 1))) 2 (((upd (upd (Y.1) 0 (((Y.1) 0) + (V 0))) 1 (((upd (Y.1) 0 (((Y.1) 0) + (V 0))) 1) + (V 1))) 2) + (V 2))) 3 (((upd (upd (upd (Y.1) 0 (((Y.1) 0) + (V 0))) 1 (((upd (Y.1) 0 (((Y.1) 0) + (V 0))) 1) + (V 1))) 2 (((upd (upd (Y.1) 0 (((Y.1) 0) + (V 0))) 1 (((upd (Y.1) 0 (((Y.1) 0) + (V 0))) 1) + (V 1))) 2) + (V 2))) 3) + (V 3))) 4) + (V 4))))) := ⟨_, rfl⟩
      rw [← eM6] at hM f_su f_wo f_sh
      refine lv_aload_n hx hb d_SH_mixBlock_261 rfl (lv_at hl 0 rfl) ?_
      refine hp_get S hK hM i_SH f_sh rfl 0 (by decide) mf_SH_9 (fun _ h9 => h9) rfl d_SH_mixBlock_262 ?_
      refine lv_iconst (v := nI 5) hx hb d_SH_mixBlock_265 rfl ?_
      refine lv_dup2_11 hx hb d_SH_mixBlock_266 rfl rfl ?_
      refine hp_iald S hK hM 1 f_su rfl 5 rfl (by omega) (by omega) d_SH_mixBlock_267 ?_
      refine lv_iload hx hb d_SH_mixBlock_268 (lv_at hl 6 rfl) ?_
      refine lv_iadd hx hb d_SH_mixBlock_270 ?_
      refine hp_iast S hK hM hS 1 f_su rfl 5 rfl (by omega) (by omega) d_SH_mixBlock_271 (fun H locs hM hS => ?_)
      have f_wo := hp_k (e := (.inl (ct 1, 8, .inl (upd (upd (upd (upd (upd (upd (Y.1) 0 (((Y.1) 0) + (V 0))) 1 (((upd (Y.1) 0 (((Y.1) 0) + (V 0))) 1) + (V 1))) 2 (((upd (upd (Y.1) 0 (((Y.1) 0) + (V 0))) 1 (((upd (Y.1) 0 (((Y.1) 0) + (V 0))) 1) + (V 1))) 2) + (V 2))) 3 (((upd (upd (upd (Y.1) 0 (((Y.1) 0) + (V 0))) 1 (((upd (Y.1) 0 (((Y.1) 0) + (V 0))) 1) + (V 1))) 2 (((upd (upd (Y.1) 0 (((Y.1) 0) + (V 0))) 1 (((upd (Y.1) 0 (((Y.1) 0) + (V 0))) 1) + (V 1))) 2) + (V 2))) 3) + (V 3))) 4 (((upd (upd (upd (upd (Y.1) 0 (((Y.1) 0) + (V 0))) 1 (((upd (Y.1) 0 (((Y.1) 0) + (V 0))) 1) + (V 1))) 2 (((upd (upd (Y.1) 0 (((Y.1) 0) + (V 0))) 1 (((upd (Y.1) 0 (((Y.1) 0) + (V 0))) 1) + (V 1))) 2) + (V 2))) 3 (((upd (upd (upd (Y.1) 0 (((Y.1) 0) + (V 0))) 1 (((upd (Y.1) 0 (((Y.1) 0) + (V 0))) 1) + (V 1))) 2 (((upd (upd (Y.1) 0 (((Y.1) 0) + (V 0))) 1 (((upd (Y.1) 0 (((Y.1) 0) + (V 0))) 1) + (V 1))) 2) + (V 2))) 3) + (V 3))) 4) + (V 4))) 5 (((upd (upd (upd (upd (upd (Y.1) 0 (((Y.1) 0) + (V 0))) 1 (((upd (Y.1) 0 (((Y.1) 0) + (V 0))) 1) + (V 1))) 2 (((upd (upd (Y.1) 0 (((Y.1) 0) + (V 0))) 1 (((upd (Y.1) 0 (((Y.1) 0) + (V 0))) 1) + (V 1))) 2) + (V 2))) 3 (((upd (upd (upd (Y.1) 0 (((Y.1) 0) + (V 0))) 1 (((upd (Y.1) 0 (((Y.1) 0) + (V 0))) 1) + (V 1))) 2 (((upd (upd (Y.1) 0 (((Y.1) 0) + (V 0))) 1 (((upd (Y.1) 0 (((Y.1) 0) + (V 0))) 1) + (V 1))) 2) + (V 2))) 3) + (V 3))) 4 (((upd (upd (upd (upd (Y.1) 0 (((Y.1) 0) + (V 0))) 1 (((upd (Y.1) 0 (((Y.1) 0) + (V 0))) 1) + (V 1))) 2 (((upd (upd (Y.1) 0 (((Y.1) 0) + (V 0))) 1 (((upd (Y.1) 0 (((Y.1) 0) + (V 0))) 1) + (V 1))) 2) + (V 2))) 3 (((upd (upd (upd (Y.1) 0 (((Y.1) 0) + (V 0))) 1 (((upd (Y.1) 0 (((Y.1) 0) + (V 0))) 1) + (V 1))) 2 (((upd (upd (Y.1) 0 (((Y.1) 0) + (V 0))) 1 (((upd (Y.1) 0 (((Y.1) 0) + (V 0))) 1) + (V 1))) 2) + (V 2))) 3) + (V 3))) 4) + (V 4))) 5) + (V 5)))))) (hp_ne f_wo f_su (by simp)) f_wo
      have f_sh := hp_k (e := (.inl (ct 1, 8, .inl (upd (upd (upd (upd (upd (upd (Y.1) 0 (((Y.1) 0) + (V 0))) 1 (((upd (Y.1) 0 (((Y.1) 0) + (V 0))) 1) + (V 1))) 2 (((upd (upd (Y.1) 0 (((Y.1) 0) + (V 0))) 1 (((upd (Y.1) 0 (((Y.1) 0) + (V 0))) 1) + (V 1))) 2) + (V 2))) 3 (((upd (upd (upd (Y.1) 0 (((Y.1) 0) + (V 0))) 1 (((upd (Y.1) 0 (((Y.1) 0) + (V 0))) 1) + (V 1))) 2 (((upd (upd (Y.1) 0 (((Y.1) 0) + (V 0))) 1 (((upd (Y.1) 0 (((Y.1) 0) + (V 0))) 1) + (V 1))) 2) + (V 2))) 3) + (V 3))) 4 (((upd (upd (upd (upd (Y.1) 0 (((Y.1) 0) + (V 0))) 1 (((upd (Y.1) 0 (((Y.1) 0) + (V 0))) 1) + (V 1))) 2 (((upd (upd (Y.1) 0 (((Y.1) 0) + (V 0))) 1 (((upd (Y.1) 0 (((Y.1) 0) + (V 0))) 1) + (V 1))) 2) + (V 2))) 3 (((upd (upd (upd (Y.1) 0 (((Y.1) 0) + (V 0))) 1 (((upd (Y.1) 0 (((Y.1) 0) + (V 0))) 1) + (V 1))) 2 (((upd (upd (Y.1) 0 (((Y.1) 0) + (V 0))) 1 (((upd (Y.1) 0 (((Y.1) 0) + (V 0))) 1) + (V 1))) 2) + (V 2))) 3) + (V 3))) 4) + (V 4))) 5 (((upd (upd (upd (upd (upd (Y.1) 0 (((Y.1) 0) + (V 0))) 1 (((upd (Y.1) 0 (((Y.1) 0) + (V 0))) 1) + (V 1))) 2 (((upd (upd (Y.1) 0 (((Y.1) 0) + (V 0))) 1 (((upd (Y.1) 0 (((Y.1) 0) + (V 0))) 1) + (V 1))) 2) + (V 2))) 3 (((upd (upd (upd (Y.1) 0 (((Y.1) 0) + (V 0))) 1 (((upd (Y.1) 0 (((Y.1) 0) + (V 0))) 1) + (V 1))) 2 (((upd (upd (Y.1) 0 (((Y.1) 0) + (V 0))) 1 (((upd (Y.1) 0 (((Y.1) 0) + (V 0))) 1) + (V 1))) 2) + (V 2))) 3) + (V 3))) 4 (((upd (upd (upd (upd (Y.1) 0 (((Y.1) 0) + (V 0))) 1 (((upd (Y.1) 0 (((Y.1) 0) + (V 0))) 1) + (V 1))) 2 (((upd (upd (Y.1) 0 (((Y.1) 0) + (V 0))) 1 (((upd (Y.1) 0 (((Y.1) 0) + (V 0))) 1) + (V 1))) 2) + (V 2))) 3 (((upd (upd (upd (Y.1) 0 (((Y.1) 0) + (V 0))) 1 (((upd (Y.1) 0 (((Y.1) 0) + (V 0))) 1) + (V 1))) 2 (((upd (upd (Y.1) 0 (((Y.1) 0) + (V 0))) 1 (((upd (Y.1) 0 (((Y.1) 0) + (V 0))) 1) + (V 1))) 2) + (V 2))) 3) + (V 3))) 4) + (V 4))) 5) + (V 5)))))) (hp_ne f_sh f_su (by simp)) f_sh
      have f_su : hp_up M6 su (.inl (ct 1, 8, .inl (upd (upd (upd (upd (upd (upd (Y.1) 0 (((Y.1) 0) + (V 0))) 1 (((upd (Y.1) 0 (((Y.1) 0) + (V 0))) 1) + (V 1))) 2 (((upd (upd (Y.1) 0 (((Y.1) 0) + (V 0))) 1 (((upd (Y.1) 0 (((Y.1) 0) + (V 0))) 1) + (V 1))) 2) + (V 2))) 3 (((upd (upd (upd (Y.1) 0 (((Y.1) 0) + (V 0))) 1 (((upd (Y.1) 0 (((Y.1) 0) + (V 0))) 1) + (V 1))) 2 (((upd (upd (Y.1) 0 (((Y.1) 0) + (V 0))) 1 (((upd (Y.1) 0 (((Y.1) 0) + (V 0))) 1) + (V 1))) 2) + (V 2))) 3) + (V 3))) 4 (((upd (upd (upd (upd (Y.1) 0 (((Y.1) 0) + (V 0))) 1 (((upd (Y.1) 0 (((Y.1) 0) + (V 0))) 1) + (V 1))) 2 (((upd (upd (Y.1) 0 (((Y.1) 0) + (V 0))) 1 (((upd (Y.1) 0 (((Y.1) 0) + (V 0))) 1) + (V 1))) 2) + (V 2))) 3 (((upd (upd (upd (Y.1) 0 (((Y.1) 0) + (V 0))) 1 (((upd (Y.1) 0 (((Y.1) 0) + (V 0))) 1) + (V 1))) 2 (((upd (upd (Y.1) 0 (((Y.1) 0) + (V 0))) 1 (((upd (Y.1) 0 (((Y.1) 0) + (V 0))) 1) + (V 1))) 2) + (V 2))) 3) + (V 3))) 4) + (V 4))) 5 (((upd (upd (upd (upd (upd (Y.1) 0 (((Y.1) 0) + (V 0))) 1 (((upd (Y.1) 0 (((Y.1) 0) + (V 0))) 1) + (V 1))) 2 (((upd (upd (Y.1) 0 (((Y.1) 0) + (V 0))) 1 (((upd (Y.1) 0 (((Y.1) 0) + (V 0))) 1) + (V 1))) 2) + (V 2))) 3 (((upd (upd (upd (Y.1) 0 (((Y.1) 0) + (V 0))) 1 (((upd (Y.1) 0 (((Y.1) 0) + (V 0))) 1) + (V 1))) 2 (((upd (upd (Y.1) 0 (((Y.1) 0) + (V 0))) 1 (((upd (Y.1) 0 (((Y.1) 0) + (V 0))) 1) + (V 1))) 2) + (V 2))) 3) + (V 3))) 4 (((upd (upd (upd (upd (Y.1) 0 (((Y.1) 0) + (V 0))) 1 (((upd (Y.1) 0 (((Y.1) 0) + (V 0))) 1) + (V 1))) 2 (((upd (upd (Y.1) 0 (((Y.1) 0) + (V 0))) 1 (((upd (Y.1) 0 (((Y.1) 0) + (V 0))) 1) + (V 1))) 2) + (V 2))) 3 (((upd (upd (upd (Y.1) 0 (((Y.1) 0) + (V 0))) 1 (((upd (Y.1) 0 (((Y.1) 0) + (V 0))) 1) + (V 1))) 2 (((upd (upd (Y.1) 0 (((Y.1) 0) + (V 0))) 1 (((upd (Y.1) 0 (((Y.1) 0) + (V 0))) 1) + (V 1))) 2) + (V 2))) 3) + (V 3))) 4) + (V 4))) 5) + (V 5))))) su = some (.inl (ct 1, 8, .inl (upd (upd (upd (upd (upd (upd (Y.1) 0 (((Y.1) 0) + (V 0))) 1 (((upd (Y.1) 0 (((Y.1) 0) + (V 0))) 1) + (V 1))) 2 (((upd (upd (Y.1) 0 (((Y.1) 0) + (V 0))) 1 (((upd (Y.1) 0 (((Y.1) 0) + (V 0))) 1) + (V 1))) 2) + (V 2))) 3 (((upd (upd (upd (Y.1) 0 (((Y.1) 0) + (V 0))) 1 (((upd (Y.1) 0 (((Y.1) 0) + (V 0))) 1) + (V 1))) 2 (((upd (upd (Y.1) 0 (((Y.1) 0) + (V 0))) 1 (((upd (Y.1) 0 (((Y.1) 0) + (V 0))) 1) + (V 1))) 2) + (V 2))) 3) + (V 3))) 4 (((upd (upd (upd (upd (Y.1) 0 (((Y.1) 0) + (V 0))) 1 (((upd (Y.1) 0 (((Y.1) 0) + (V 0))) 1) + (V 1))) 2 (((upd (upd (Y.1) 0 (((Y.1) 0) + (V 0))) 1 (((upd (Y.1) 0 (((Y.1) 0) + (V 0))) 1) + (V 1))) 2) + (V 2))) 3 (((upd (upd (upd (Y.1) 0 (((Y.1) 0) + (V 0))) 1 (((upd (Y.1) 0 (((Y.1) 0) + (V 0))) 1) + (V 1))) 2 (((upd (upd (Y.1) 0 (((Y.1) 0) + (V 0))) 1 (((upd (Y.1) 0 (((Y.1) 0) + (V 0))) 1) + (V 1))) 2) + (V 2))) 3) + (V 3))) 4) + (V 4))) 5 (((upd (upd (upd (upd (upd (Y.1) 0 (((Y.1) 0) + (V 0))) 1 (((upd (Y.1) 0 (((Y.1) 0) + (V 0))) 1) + (V 1))) 2 (((upd (upd (Y.1) 0 (((Y.1) 0) + (V 0))) 1 (((upd (Y.1) 0 (((Y.1) 0) + (V 0))) 1) + (V 1))) 2) + (V 2))) 3 (((upd (upd (upd (Y.1) 0 (((Y.1) 0) + (V 0))) 1 (((upd (Y.1) 0 (((Y.1) 0) + (V 0))) 1) + (V 1))) 2 (((upd (upd (Y.1) 0 (((Y.1) 0) + (V 0))) 1 (((upd (Y.1) 0 (((Y.1) 0) + (V 0))) 1) + (V 1))) 2) + (V 2))) 3) + (V 3))) 4 (((upd (upd (upd (upd (Y.1) 0 (((Y.1) 0) + (V 0))) 1 (((upd (Y.1) 0 (((Y.1) 0) + (V 0))) 1) + (V 1))) 2 (((upd (upd (Y.1) 0 (((Y.1) 0) + (V 0))) 1 (((upd (Y.1) 0 (((Y.1) 0) + (V 0))) 1) + (V 1))) 2) + (V 2))) 3 (((upd (upd (upd (Y.1) 0 (((Y.1) 0) + (V 0))) 1 (((upd (Y.1) 0 (((Y.1) 0) + (V 0))) 1) + (V 1))) 2 (((upd (upd (Y.1) 0 (((Y.1) 0) + (V 0))) 1 (((upd (Y.1) 0 (((Y.1) 0) + (V 0))) 1) + (V 1))) 2) + (V 2))) 3) + (V 3))) 4) + (V 4))) 5) + (V 5))))) := hp_us
      obtain ⟨M7, eM7⟩ : ∃ z, z = hp_up M6 su (.inl (ct 1, 8, .inl (upd (upd (upd (upd (upd (upd (Y.1) 0 (((Y.1) 0) + (V 0))) 1 (((upd (Y.1) 0 (((Y.1) 0) + (V 0))) 1) + (V 1))) 2 (((upd (upd (Y.1) 0 (((Y.1) 0) + (V 0))) 1 (((upd (Y.1) 0 (((Y.1) 0) + (V 0))) 1) + (V 1))) 2) + (V 2))) 3 (((upd (upd (upd (Y.1) 0 (((Y.1) 0) + (V 0))) 1 (((upd (Y.1) 0 (((Y.1) 0) + (V 0))) 1) + (V 1))) 2 (((upd (upd (Y.1) 0 (((Y.1) 0) + (V 0))) 1 (((upd (Y.1) 0 (((Y.1) 0) + (V 0))) 1) + (V 1))) 2) + (V 2))) 3) + (V 3))) 4 (((upd (upd (upd (upd (Y.1) 0 (((Y.1) 0) + (V 0))) 1 (((upd (Y.1) 0 (((Y.1) 0) + (V 0))) 1) + (V 1))) 2 (((upd (upd (Y.1) 0 (((Y.1) 0) + (V 0))) 1 (((upd (Y.1) 0 (((Y.1) 0) + (V 0))) 1) + (V 1))) 2) + (V 2))) 3 (((upd (upd (upd (Y.1) 0 (((Y.1) 0) + (V 0))) 1 (((upd (Y.1) 0 (((Y.1) 0) + (V 0))) 1) + (V 1))) 2 (((upd (upd (Y.1) 0 (((Y.1) 0) + (V 0))) 1 (((upd (Y.1) 0 (((Y.1) 0) + (V 0))) 1) + (V 1))) 2) + (V 2))) 3) + (V 3))) 4) + (V 4))) 5 (((upd (upd (upd (upd (upd (Y.1) 0 (((Y.1) 0) + (V 0))) 1 (((upd (Y.1) 0 (((Y.1) 0) + (V 0))) 1) + (V 1))) 2 (((upd (upd (Y.1) 0 (((Y.1) 0) + (V 0))) 1 (((upd (Y.1) 0 (((Y.1) 0) + (V 0))) 1) + (V 1))) 2) + (V 2))) 3 (((upd (upd (upd (Y.1) 0 (((Y.1) 0) + (V 0))) 1 (((upd (Y.1) 0 (((Y.1) 0) + (V 0))) 1) + (V 1))) 2 (((upd (upd (Y.1) 0 (((Y.1) 0) + (V 0))) 1 (((upd (Y.1) 0 (((Y.1) 0) + (V 0))) 1) + (V 1))) 2) + (V 2))) 3) + (V 3))) 4 (((upd (upd (upd (upd (Y.1) 0 (((Y.1) 0) + (V 0))) 1 (((upd (Y.1) 0 (((Y.1) 0) + (V 0))) 1) + (V 1))) 2 (((upd (upd (Y.1) 0 (((Y.1) 0) + (V 0))) 1 (((upd (Y.1) 0 (((Y.1) 0) + (V 0))) 1) + (V 1))) 2) + (V 2))) 3 (((upd (upd (upd (Y.1) 0 (((Y.1) 0) + (V 0))) 1 (((upd (Y.1) 0 (((Y.1) 0) + (V 0))) 1) + (V 1))) 2 (((upd (upd (Y.1) 0 (((Y.1) 0) + (V 0))) 1 (((upd (Y.1) 0 (((Y.1) 0) + (V 0))) 1) + (V 1))) 2) + (V 2))) 3) + (V 3))) 4) + (V 4))) 5) + (V 5))))) := ⟨_, rfl⟩
      rw [← eM7] at hM f_su f_wo f_sh
      refine lv_aload_n hx hb d_SH_mixBlock_272 rfl (lv_at hl 0 rfl) ?_
      refine hp_get S hK hM i_SH f_sh rfl 0 (by decide) mf_SH_9 (fun _ h9 => h9) rfl d_SH_mixBlock_273 ?_
      refine lv_bipush (v := nI 6) hx hb d_SH_mixBlock_276 rfl ?_
      refine lv_dup2_11 hx hb d_SH_mixBlock_278 rfl rfl ?_
      refine hp_iald S hK hM 1 f_su rfl 6 rfl (by omega) (by omega) d_SH_mixBlock_279 ?_
      refine lv_iload hx hb d_SH_mixBlock_280 (lv_at hl 7 rfl) ?_
      refine lv_iadd hx hb d_SH_mixBlock_282 ?_
      refine hp_iast S hK hM hS 1 f_su rfl 6 rfl (by omega) (by omega) d_SH_mixBlock_283 (fun H locs hM hS => ?_)
      have f_wo := hp_k (e := (.inl (ct 1, 8, .inl (upd (upd (upd (upd (upd (upd (upd (Y.1) 0 (((Y.1) 0) + (V 0))) 1 (((upd (Y.1) 0 (((Y.1) 0) + (V 0))) 1) + (V 1))) 2 (((upd (upd (Y.1) 0 (((Y.1) 0) + (V 0))) 1 (((upd (Y.1) 0 (((Y.1) 0) + (V 0))) 1) + (V 1))) 2) + (V 2))) 3 (((upd (upd (upd (Y.1) 0 (((Y.1) 0) + (V 0))) 1 (((upd (Y.1) 0 (((Y.1) 0) + (V 0))) 1) + (V 1))) 2 (((upd (upd (Y.1) 0 (((Y.1) 0) + (V 0))) 1 (((upd (Y.1) 0 (((Y.1) 0) + (V 0))) 1) + (V 1))) 2) + (V 2))) 3) + (V 3))) 4 (((upd (upd (upd (upd (Y.1) 0 (((Y.1) 0) + (V 0))) 1 (((upd (Y.1) 0 (((Y.1) 0) + (V 0))) 1) + (V 1))) 2 (((upd (upd (Y.1) 0 (((Y.1) 0) + (V 0))) 1 (((upd (Y.1) 0 (((Y.1) 0) + (V 0))) 1) + (V 1))) 2) + (V 2))) 3 (((upd (upd (upd (Y.1) 0 (((Y.1) 0) + (V 0))) 1 (((upd (Y.1) 0 (((Y.1) 0) + (V 0))) 1) + (V 1))) 2 (((upd (upd (Y.1) 0 (((Y.1) 0) + (V 0))) 1 (((upd (Y.1) 0 (((Y.1) 0) + (V 0))) 1) + (V 1))) 2) + (V 2))) 3) + (V 3))) 4) + (V 4))) 5 (((upd (upd (upd (upd (upd (Y.1) 0 (((Y.1) 0) + (V 0))) 1 (((upd (Y.1) 0 (((Y.1) 0) + (V 0))) 1) + (V 1))) 2 (((upd (upd (Y.1) 0 (((Y.1) 0) + (V 0))) 1 (((upd (Y.1) 0 (((Y.1) 0) + (V 0))) 1) + (V 1))) 2) + (V 2))) 3 (((upd (upd (upd (Y.1) 0 (((Y.1) 0) + (V 0))) 1 (((upd (Y.1) 0 (((Y.1) 0) + (V 0))) 1) + (V 1))) 2 (((upd (upd (Y.1) 0 (((Y.1) 0) + (V 0))) 1 (((upd (Y.1) 0 (((Y.1) 0) + (V 0))) 1) + (V 1))) 2) + (V 2))) 3) + (V 3))) 4 (((upd (upd (upd (upd (Y.1) 0 (((Y.1) 0) + (V 0))) 1 (((upd (Y.1) 0 (((Y.1) 0) + (V 0))) 1) + (V 1))) 2 (((upd (upd (Y.1) 0 (((Y.1) 0) + (V 0))) 1 (((upd (Y.1) 0 (((Y.1) 0) + (V 0))) 1) + (V 1))) 2) + (V 2))) 3 (((upd (upd (upd (Y.1) 0 (((Y.1) 0) + (V 0))) 1 (((upd (Y.1) 0 (((Y.1) 0) + (V 0))) 1) + (V 1))) 2 (((upd (upd (Y.1) 0 (((Y.1) 0) + (V 0))) 1 (((upd (Y.1) 0 (((Y.1) 0) + (V 0))) 1) + (V 1))) 2) + (V 2))) 3) + (V 3))) 4) + (V 4))) 5) + (V 5))) 6 (((upd (upd (upd (upd (upd (upd (Y.1) 0 (((Y.1) 0) + (V 0))) 1 (((upd (Y.1) 0 (((Y.1) 0) + (V 0))) 1) + (V 1))) 2 (((upd (upd (Y.1) 0 (((Y.1) 0) + (V 0))) 1 (((upd (Y.1) 0 (((Y.1) 0) + (V 0))) 1) + (V 1))) 2) + (V 2))) 3 (((upd (upd (upd (Y.1) 0 (((Y.1) 0) + (V 0))) 1 (((upd (Y.1) 0 (((Y.1) 0) + (V 0))) 1) + (V 1))) 2 (((upd (upd (Y.1) 0 (((Y.1) 0) + (V 0))) 1 (((upd (Y.1) 0 (((Y.1) 0) + (V 0))) 1) + (V 1))) 2) + (V 2))) 3) + (V 3))) 4 (((upd (upd (upd (upd (Y.1) 0 (((Y.1) 0) + (V 0))) 1 (((upd (Y.1) 0 (((Y.1) 0) + (V 0))) 1) + (V 1))) 2 (((upd (upd (Y.1) 0 (((Y.1) 0) + (V 0))) 1 (((upd (Y.1) 0 (((Y.1) 0) + (V 0))) 1) + (V 1))) 2) + (V 2))) 3 (((upd (upd (upd (Y.1) 0 (((Y.1) 0) + (V 0))) 1 (((upd (Y.1) 0 (((Y.1) 0) + (V 0))) 1) + (V 1))) 2 (((upd (upd (Y.1) 0 (((Y.1) 0) + (V 0))) 1 (((upd (Y.1) 0 (((Y.1) 0) + (V 0))) 1) + (V 1))) 2) + (V 2))) 3) + (V 3))) 4) + (V 4))) 5 (((upd (upd (upd (upd (upd (Y.1) 0 (((Y.1) 0) + (V 0))) 1 (((upd (Y.1) 0 (((Y.1) 0) + (V 0))) 1) + (V 1))) 2 (((upd (upd (Y.1) 0 (((Y.1) 0) + (V 0))) 1 (((upd (Y.1) 0 (((Y.1) 0) + (V 0))) 1) + (V 1))) 2) + (V 2))) 3 (((upd (upd (upd (Y.1) 0 (((Y.1) 0) + (V 0))) 1 (((upd (Y.1) 0 (((Y.1) 0) + (V 0))) 1) + (V 1))) 2 (((upd (upd (Y.1) 0 (((Y.1) 0) + (V 0))) 1 (((upd (Y.1) 0 (((Y.1) 0) + (V 0))) 1) + (V 1))) 2) + (V 2))) 3) + (V 3))) 4 (((upd (upd (upd (upd (Y.1) 0 (((Y.1) 0) + (V 0))) 1 (((upd (Y.1) 0 (((Y.1) 0) + (V 0))) 1) + (V 1))) 2 (((upd (upd (Y.1) 0 (((Y.1) 0) + (V 0))) 1 (((upd (Y.1) 0 (((Y.1) 0) + (V 0))) 1) + (V 1))) 2) + (V 2))) 3 (((upd (upd (upd (Y.1) 0 (((Y.1) 0) + (V 0))) 1 (((upd (Y.1) 0 (((Y.1) 0) + (V 0))) 1) + (V 1))) 2 (((upd (upd (Y.1) 0 (((Y.1) 0) + (V 0))) 1 (((upd (Y.1) 0 (((Y.1) 0) + (V 0))) 1) + (V 1))) 2) + (V 2))) 3) + (V 3))) 4) + (V 4))) 5) + (V 5))) 6) + (V 6)))))) (hp_ne f_wo f_su (by simp)) f_wo
      have f_sh := hp_k (e := (.inl (ct 1, 8, .inl (upd (upd (upd (upd (upd (upd (upd (Y.1) 0 (((Y.1) 0) + (V 0))) 1 (((upd (Y.1) 0 (((Y.1) 0) + (V 0))) 1) + (V 1))) 2 (((upd (upd (Y.1) 0 (((Y.1) 0) + (V 0))) 1 (((upd (Y.1) 0 (((Y.1) 0) + (V 0))) 1) + (V 1))) 2) + (V 2))) 3 (((upd (upd (upd (Y.1) 0 (((Y.1) 0) + (V 0))) 1 (((upd (Y.1) 0 (((Y.1) 0) + (V 0))) 1) + (V 1))) 2 (((upd (upd (Y.1) 0 (((Y.1) 0) + (V 0))) 1 (((upd (Y.1) 0 (((Y.1) 0) + (V 0))) 1) + (V 1))) 2) + (V 2))) 3) + (V 3))) 4 (((upd (upd (upd (upd (Y.1) 0 (((Y.1) 0) + (V 0))) 1 (((upd (Y.1) 0 (((Y.1) 0) + (V 0))) 1) + (V 1))) 2 (((upd (upd (Y.1) 0 (((Y.1) 0) + (V 0))) 1 (((upd (Y.1) 0 (((Y.1) 0) + (V 0))) 1) + (V 1))) 2) + (V 2))) 3 (((upd (upd (upd (Y.1) 0 (((Y.1) 0) + (V 0))) 1 (((upd (Y.1) 0 (((Y.1) 0) + (V 0))) 1) + (V 1))) 2 (((upd (upd (Y.1) 0 (((Y.1) 0) + (V 0))) 1 (((upd (Y.1) 0 (((Y.1) 0) + (V 0))) 1) + (V 1))) 2) + (V 2))) 3) + (V 3))) 4) + (V 4))) 5 (((upd (upd (upd (upd (upd (Y.1) 0 (((Y.1) 0) + (V 0))) 1 (((upd (Y.1) 0 (((Y.1) 0) + (V 0))) 1) + (V 1))) 2 (((upd (upd (Y.1) 0 (((Y.1) 0) + (V 0))) 1 (((upd (Y.1) 0 (((Y.1) 0) + (V 0))) 1) + (V 1))) 2) + (V 2))) 3 (((upd (upd (upd (Y.1) 0 (((Y.1) 0) + (V 0))) 1 (((upd (Y.1) 0 (((Y.1) 0) + (V 0))) 1) + (V 1))) 2 (((upd (upd (Y.1) 0 (((Y.1) 0) + (V 0))) 1 (((upd (Y.1) 0 (((Y.1) 0) + (V 0))) 1) + (V 1))) 2) + (V 2))) 3) + (V 3))) 4 (((upd (upd (upd (upd (Y.1) 0 (((Y.1) 0) + (V 0))) 1 (((upd (Y.1) 0 (((Y.1) 0) + (V 0))) 1) + (V 1))) 2 (((upd (upd (Y.1) 0 (((Y.1) 0) + (V 0))) 1 (((upd (Y.1) 0 (((Y.1) 0) + (V 0))) 1) + (V 1))) 2) + (V 2))) 3 (((upd (upd (upd (Y.1) 0 (((Y.1) 0) + (V 0))) 1 (((upd (Y.1) 0 (((Y.1) 0) + (V 0))) 1) + (V 1))) 2 (((upd (upd (Y.1) 0 (((Y.1) 0) + (V 0))) 1 (((upd (Y.1) 0 (((Y.1) 0) + (V 0))) 1) + (V 1))) 2) + (V 2))) 3) + (V 3))) 4) + (V 4))) 5) + (V 5))) 6 (((upd (upd (upd (upd (upd (upd (Y.1) 0 (((Y.1) 0) + (V 0))) 1 (((upd (Y.1) 0 (((Y.1) 0) + (V 0))) 1) + (V 1))) 2 (((upd (upd (Y.1) 0 (((Y.1) 0) + (V 0))) 1 (((upd (Y.1) 0 (((Y.1) 0) + (V 0))) 1) + (V 1))) 2) + (V 2))) 3 (((upd (upd (upd (Y.1) 0 (((Y.1) 0) + (V 0))) 1 (((upd (Y.1) 0 (((Y.1) 0) + (V 0))) 1) + (V 1))) 2 (((upd (upd (Y.1) 0 (((Y.1) 0) + (V 0))) 1 (((upd (Y.1) 0 (((Y.1) 0) + (V 0))) 1) + (V 1))) 2) + (V 2))) 3) + (V 3))) 4 (((upd (upd (upd (upd (Y.1) 0 (((Y.1) 0) + (V 0))) 1 (((upd (Y.1) 0 (((Y.1) 0) + (V 0))) 1) + (V 1))) 2 (((upd (upd (Y.1) 0 (((Y.1) 0) + (V 0))) 1 (((upd (Y.1) 0 (((Y.1) 0) + (V 0))) 1) + (V 1))) 2) + (V 2))) 3 (((upd (upd (upd (Y.1) 0 (((Y.1) 0) + (V 0))) 1 (((upd (Y.1) 0 (((Y.1) 0) + (V 0))) 1) + (V 1))) 2 (((upd (upd (Y.1) 0 (((Y.1) 0) + (V 0))) 1 (((upd (Y.1) 0 (((Y.1) 0) + (V 0))) 1) + (V 1))) 2) + (V 2))) 3) + (V 3))) 4) + (V 4))) 5 (((upd (upd (upd (upd (upd (Y.1) 0 (((Y.1) 0) + (V 0))) 1 (((upd (Y.1) 0 (((Y.1) 0) + (V 0))) 1) + (V 1))) 2 (((upd (upd (Y.1) 0 (((Y.1) 0) + (V 0))) 1 (((upd (Y.1) 0 (((Y.1) 0) + (V 0))) 1) + (V 1))) 2) + (V 2))) 3 (((upd (upd (upd (Y.1) 0 (((Y.1) 0) + (V 0))) 1 (((upd (Y.1) 0 (((Y.1) 0) + (V 0))) 1) + (V 1))) 2 (((upd (upd (Y.1) 0 (((Y.1) 0) + (V 0))) 1 (((upd (Y.1) 0 (((Y.1) 0) + (V 0))) 1) + (V 1))) 2) + (V 2))) 3) + (V 3))) 4 (((upd (upd (upd (upd (Y.1) 0 (((Y.1) 0) + (V 0))) 1 (((upd (Y.1) 0 (((Y.1) 0) + (V 0))) 1) + (V 1))) 2 (((upd (upd (Y.1) 0 (((Y.1) 0) + (V 0))) 1 (((upd (Y.1) 0 (((Y.1) 0) + (V 0))) 1) + (V 1))) 2) + (V 2))) 3 (((upd (upd (upd (Y.1) 0 (((Y.1) 0) + (V 0))) 1 (((upd (Y.1) 0 (((Y.1) 0) + (V 0))) 1) + (V 1))) 2 (((upd (upd (Y.1) 0 (((Y.1) 0) + (V 0))) 1 (((upd (Y.1) 0 (((Y.1) 0) + (V 0))) 1) + (V 1))) 2) + (V 2))) 3) + (V 3))) 4) + (V 4))) 5) + (V 5))) 6) + (V 6)))))) (hp_ne f_sh f_su (by simp)) f_sh
      have f_su : hp_up M7 su (.inl (ct 1, 8, .inl (upd (upd (upd (upd (upd (upd (upd (Y.1) 0 (((Y.1) 0) + (V 0))) 1 (((upd (Y.1) 0 (((Y.1) 0) + (V 0))) 1) + (V 1))) 2 (((upd (upd (Y.1) 0 (((Y.1) 0) + (V 0))) 1 (((upd (Y.1) 0 (((Y.1) 0) + (V 0))) 1) + (V 1))) 2) + (V 2))) 3 (((upd (upd (upd (Y.1) 0 (((Y.1) 0) + (V 0))) 1 (((upd (Y.1) 0 (((Y.1) 0) + (V 0))) 1) + (V 1))) 2 (((upd (upd (Y.1) 0 (((Y.1) 0) + (V 0))) 1 (((upd (Y.1) 0 (((Y.1) 0) + (V 0))) 1) + (V 1))) 2) + (V 2))) 3) + (V 3))) 4 (((upd (upd (upd (upd (Y.1) 0 (((Y.1) 0) + (V 0))) 1 (((upd (Y.1) 0 (((Y.1) 0) + (V 0))) 1) + (V 1))) 2 (((upd (upd (Y.1) 0 (((Y.1) 0) + (V 0))) 1 (((upd (Y.1) 0 (((Y.1) 0) + (V 0))) 1) + (V 1))) 2) + (V 2))) 3 (((upd (upd (upd (Y.1) 0 (((Y.1) 0) + (V 0))) 1 (((upd (Y.1) 0 (((Y.1) 0) + (V 0))) 1) + (V 1))) 2 (((upd (upd (Y.1) 0 (((Y.1) 0) + (V 0))) 1 (((upd (Y.1) 0 (((Y.1) 0) + (V 0))) 1) + (V 1))) 2) + (V 2))) 3) + (V 3))) 4) + (V 4))) 5 (((upd (upd (upd (upd (upd (Y.1) 0 (((Y.1) 0) + (V 0))) 1 (((upd (Y.1) 0 (((Y.1) 0) + (V 0))) 1) + (V 1))) 2 (((upd (upd (Y.1) 0 (((Y.1) 0) + (V 0))) 1 (((upd (Y.1) 0 (((Y.1) 0) + (V 0))) 1) + (V 1))) 2) + (V 2))) 3 (((upd (upd (upd (Y.1) 0 (((Y.1) 0) + (V 0))) 1 (((upd (Y.1) 0 (((Y.1) 0) + (V 0))) 1) + (V 1))) 2 (((upd (upd (Y.1) 0 (((Y.1) 0) + (V 0))) 1 (((upd (Y.1) 0 (((Y.1) 0) + (V 0))) 1) + (V 1))) 2) + (V 2))) 3) + (V 3))) 4 (((upd (upd (upd (upd (Y.1) 0 (((Y.1) 0) + (V 0))) 1 (((upd (Y.1) 0 (((Y.1) 0) + (V 0))) 1) + (V 1))) 2 (((upd (upd (Y.1) 0 (((Y.1) 0) + (V 0))) 1 (((upd (Y.1) 0 (((Y.1) 0) + (V 0))) 1) + (V 1))) 2) + (V 2))) 3 (((upd (upd (upd (Y.1) 0 (((Y.1) 0) + (V 0))) 1 (((upd (Y.1) 0 (((Y.1) 0) + (V 0))) 1) + (V 1))) 2 (((upd (upd (Y.1) 0 (((Y.1) 0) + (V 0))) 1 (((upd (Y.1) 0 (((Y.1) 0) + (V 0))) 1) + (V 1))) 2) + (V 2))) 3) + (V 3))) 4) + (V 4))) 5) + (V 5))) 6 (((upd (upd (upd (upd (upd (upd (Y.1) 0 (((Y.1) 0) + (V 0))) 1 (((upd (Y.1) 0 (((Y.1) 0) + (V 0))) 1) + (V 1))) 2 (((upd (upd (Y.1) 0 (((Y.1) 0) + (V 0))) 1 (((upd (Y.1) 0 (((Y.1) 0) + (V 0))) 1) + (V 1))) 2) + (V 2))) 3 (((upd (upd (upd (Y.1) 0 (((Y.1) 0) + (V 0))) 1 (((upd (Y.1) 0 (((Y.1) 0) + (V 0))) 1) + (V 1))) 2 (((upd (upd (Y.1) 0 (((Y.1) 0) + (V 0))) 1 (((upd (Y.1) 0 (((Y.1) 0) + (V 0))) 1) + (V 1))) 2) + (V 2))) 3) + (V 3))) 4 (((upd (upd (upd (upd (Y.1) 0 (((Y.1) 0) + (V 0))) 1 (((upd (Y.1) 0 (((Y.1) 0) + (V 0))) 1) + (V 1))) 2 (((upd (upd (Y.1) 0 (((Y.1) 0) + (V 0))) 1 (((upd (Y.1) 0 (((Y.1) 0) + (V 0))) 1) + (V 1))) 2) + (V 2))) 3 (((upd (upd (upd (Y.1) 0 (((Y.1) 0) + (V 0))) 1 (((upd (Y.1) 0 (((Y.1) 0) + (V 0))) 1) + (V 1))) 2 (((upd (upd (Y.1) 0 (((Y.1) 0) + (V 0))) 1 (((upd (Y.1) 0 (((Y.1) 0) + (V 0))) 1) + (V 1))) 2) + (V 2))) 3) + (V 3))) 4) + (V 4))) 5 (((upd (upd (upd (upd (upd (Y.1) 0 (((Y.1) 0) + (V 0))) 1 (((upd (Y.1) 0 (((Y.1) 0) + (V 0))) 1) + (V 1))) 2 (((upd (upd (Y.1) 0 (((Y.1) 0) + (V 0))) 1 (((upd (Y.1) 0 (((Y.1) 0) + (V 0))) 1) + (V 1))) 2) + (V 2))) 3 (((upd (upd (upd (Y.1) 0 (((Y.1) 0) + (V 0))) 1 (((upd (Y.1) 0 (((Y.1) 0) + (V 0))) 1) + (V 1))) 2 (((upd (upd (Y.1) 0 (((Y.1) 0) + (V 0))) 1 (((upd (Y.1) 0 (((Y.1) 0) + (V 0))) 1) + (V 1))) 2) + (V 2))) 3) + (V 3))) 4 (((upd (upd (upd (upd (Y.1) 0 (((Y.1) 0) + (V 0))) 1 (((upd (Y.1) 0 (((Y.1) 0) + (V 0))) 1) + (V 1))) 2 (((upd (upd (Y.1) 0 (((Y.1) 0) + (V 0))) 1 (((upd (Y.1) 0 (((Y.1) 0) + (V 0))) 1) + (V 1))) 2) + (V 2))) 3 (((upd (upd (upd (Y.1) 0 (((Y.1) 0) + (V 0))) 1 (((upd (Y.1) 0 (((Y.1) 0) + (V 0))) 1) + (V 1))) 2 (((upd (upd (Y.1) 0 (((Y.1) 0) + (V 0))) 1 (((upd (Y.1) 0 (((Y.1) 0) + (V 0))) 1) + (V 1))) 2) + (V 2))) 3) + (V 3))) 4) + (V 4))) 5) + (V 5))) 6) + (V 6))))) su = some (.inl (ct 1, 8, .inl (upd (upd (upd (upd (upd (upd (upd (Y.1) 0 (((Y.1) 0) + (V 0))) 1 (((upd (Y.1) 0 (((Y.1) 0) + (V 0))) 1) + (V 1))) 2 (((upd (upd (Y.1) 0 (((Y.1) 0) + (V 0))) 1 (((upd (Y.1) 0 (((Y.1) 0) + (V 0))) 1) + (V 1))) 2) + (V 2))) 3 (((upd (upd (upd (Y.1) 0 (((Y.1) 0) + (V 0))) 1 (((upd (Y.1) 0 (((Y.1) 0) + (V 0))) 1) + (V 1))) 2 (((upd (upd (Y.1) 0 (((Y.1) 0) + (V 0))) 1 (((upd (Y.1) 0 (((Y.1) 0) + (V 0))) 1) + (V 1))) 2) + (V 2))) 3) + (V 3))) 4 (((upd (upd (upd (upd (Y.1) 0 (((Y.1) 0) + (V 0))) 1 (((upd (Y.1) 0 (((Y.1) 0) + (V 0))) 1) + (V 1))) 2 (((upd (upd (Y.1) 0 (((Y.1) 0) + (V 0))) 1 (((upd (Y.1) 0 (((Y.1) 0) + (V 0))) 1) + (V 1))) 2) + (V 2))) 3 (((upd (upd (upd (Y.1) 0 (((Y.1) 0) + (V 0))) 1 (((upd (Y.1) 0 (((Y.1) 0) + (V 0))) 1) + (V 1))) 2 (((upd (upd (Y.1) 0 (((Y.1) 0) + (V 0))) 1 (((upd (Y.1) 0 (((Y.1) 0) + (V 0))) 1) + (V 1))) 2) + (V 2))) 3) + (V 3))) 4) + (V 4))) 5 (((upd (upd (upd (upd (upd (Y.1) 0 (((Y.1) 0) + (V 0))) 1 (((upd (Y.1) 0 (((Y.1) 0) + (V 0))) 1) + (V 1))) 2 (((upd (upd (Y.1) 0 (((Y.1) 0) + (V 0))) 1 (((upd (Y.1) 0 (((Y.1) 0) + (V 0))) 1) + (V 1))) 2) + (V 2))) 3 (((upd (upd (upd (Y.1) 0 (((Y.1) 0) + (V 0))) 1 (((upd (Y.1) 0 (((Y.1) 0) + (V 0))) 1) + (V 1))) 2 (((upd (upd (Y.1) 0 (((Y.1) 0) + (V 0))) 1 (((upd (Y.1) 0 (((Y.1) 0) + (V 0))) 1) + (V 1))) 2) + (V 2))) 3) + (V 3))) 4 (((upd (upd (upd (upd (Y.1) 0 (((Y.1) 0) + (V 0))) 1 (((upd (Y.1) 0 (((Y.1) 0) + (V 0))) 1) + (V 1))) 2 (((upd (upd (Y.1) 0 (((Y.1) 0) + (V 0))) 1 (((upd (Y.1) 0 (((Y.1) 0) + (V 0))) 1) + (V 1))) 2) + (V 2))) 3 (((upd (upd (upd (Y.1) 0 (((Y.1) 0) + (V 0))) 1 (((upd (Y.1) 0 (((Y.1) 0) + (V 0))) 1) + (V 1))) 2 (((upd (upd (Y.1) 0 (((Y.1) 0) + (V 0))) 1 (((upd (Y.1) 0 (((Y.1) 0) + (V 0))) 1) + (V 1))) 2) + (V 2))) 3) + (V 3))) 4) + (V 4))) 5) + (V 5))) 6 (((upd (upd (upd (upd (upd (upd (Y.1) 0 (((Y.1) 0) + (V 0))) 1 (((upd (Y.1) 0 (((Y.1) 0) + (V 0))) 1) + (V 1))) 2 (((upd (upd (Y.1) 0 (((Y.1) 0) + (V 0))) 1 (((upd (Y.1) 0 (((Y.1) 0) + (V 0))) 1) + (V 1))) 2) + (V 2))) 3 (((upd (upd (upd (Y.1) 0 (((Y.1) 0) + (V 0))) 1 (((upd (Y.1) 0 (((Y.1) 0) + (V 0))) 1) + (V 1))) 2 (((upd (upd (Y.1) 0 (((Y.1) 0) + (V 0))) 1 (((upd (Y.1) 0 (((Y.1) 0) + (V 0))) 1) + (V 1))) 2) + (V 2))) 3) + (V 3))) 4 (((upd (upd (upd (upd (Y.1) 0 (((Y.1) 0) + (V 0))) 1 (((upd (Y.1) 0 (((Y.1) 0) + (V 0))) 1) + (V 1))) 2 (((upd (upd (Y.1) 0 (((Y.1) 0) + (V 0))) 1 (((upd (Y.1) 0 (((Y.1) 0) + (V 0))) 1) + (V 1))) 2) + (V 2))) 3 (((upd (upd (upd (Y.1) 0 (((Y.1) 0) + (V 0))) 1 (((upd (Y.1) 0 (((Y.1) 0) + (V 0))) 1) + (V 1))) 2 (((upd (upd (Y.1) 0 (((Y.1) 0) + (V 0))) 1 (((upd (Y.1) 0 (((Y.1) 0) + (V 0))) 1) + (V 1))) 2) + (V 2))) 3) + (V 3))) 4) + (V 4))) 5 (((upd (upd (upd (upd (upd (Y.1) 0 (((Y.1) 0) + (V 0))) 1 (((upd (Y.1) 0 (((Y.1) 0) + (V 0))) 1) + (V 1))) 2 (((upd (upd (Y.1) 0 (((Y.1) 0) + (V 0))) 1 (((upd (Y.1) 0 (((Y.1) 0) + (V 0))) 1) + (V 1))) 2) + (V 2))) 3 (((upd (upd (upd (Y.1) 0 (((Y.1) 0) + (V 0))) 1 (((upd (Y.1) 0 (((Y.1) 0) + (V 0))) 1) + (V 1))) 2 (((upd (upd (Y.1) 0 (((Y.1) 0) + (V 0))) 1 (((upd (Y.1) 0 (((Y.1) 0) + (V 0))) 1) + (V 1))) 2) + (V 2))) 3) + (V 3))) 4 (((upd (upd (upd (upd (Y.1) 0 (((Y.1) 0) + (V 0))) 1 (((upd (Y.1) 0 (((Y.1) 0) + (V 0))) 1) + (V 1))) 2 (((upd (upd (Y.1) 0 (((Y.1) 0) + (V 0))) 1 (((upd (Y.1) 0 (((Y.1) 0) + (V 0))) 1) + (V 1))) 2) + (V 2))) 3 (((upd (upd (upd (Y.1) 0 (((Y.1) 0) + (V 0))) 1 (((upd (Y.1) 0 (((Y.1) 0) + (V 0))) 1) + (V 1))) 2 (((upd (upd (Y.1) 0 (((Y.1) 0) + (V 0))) 1 (((upd (Y.1) 0 (((Y.1) 0) + (V 0))) 1) + (V 1))) 2) + (V 2))) 3) + (V 3))) 4) + (V 4))) 5) + (V 5))) 6) + (V 6))))) := hp_us
      obtain ⟨M8, eM8⟩ : ∃ z, z = hp_up M7 su (.inl (ct 1, 8, .inl (upd (upd (upd (upd (upd (upd (upd (Y.1) 0 (((Y.1) 0) + (V 0))) 1 (((upd (Y.1) 0 (((Y.1) 0) + (V 0))) 1) + (V 1))) 2 (((upd (upd (Y.1) 0 (((Y.1) 0) + (V 0))) 1 (((upd (Y.1) 0 (((Y.1) 0) + (V 0))) 1) + (V 1))) 2) + (V 2))) 3 (((upd (upd (upd (Y.1) 0 (((Y.1) 0) + (V 0))) 1 (((upd (Y.1) 0 (((Y.1) 0) + (V 0))) 1) + (V 1))) 2 (((upd (upd (Y.1) 0 (((Y.1) 0) + (V 0))) 1 (((upd (Y.1) 0 (((Y.1) 0) + (V 0))) 1) + (V 1))) 2) + (V 2))) 3) + (V 3))) 4 (((upd (upd (upd (upd (Y.1) 0 (((Y.1) 0) + (V 0))) 1 (((upd (Y.1) 0 (((Y.1) 0) + (V 0))) 1) + (V 1))) 2 (((upd (upd (Y.1) 0 (((Y.1) 0) + (V 0))) 1 (((upd (Y.1) 0 (((Y.1) 0) + (V 0))) 1) + (V 1))) 2) + (V 2))) 3 (((upd (upd (upd (Y.1) 0 (((Y.1) 0) + (V 0))) 1 (((upd (Y.1) 0 (((Y.1) 0) + (V 0))) 1) + (V 1))) 2 (((upd (upd (Y.1) 0 (((Y.1) 0) + (V 0))) 1 (((upd (Y.1) 0 (((Y.1) 0) + (V 0))) 1) + (V 1))) 2) + (V 2))) 3) + (V 3))) 4) + (V 4))) 5 (((upd (upd (upd (upd (upd (Y.1) 0 (((Y.1) 0) + (V 0))) 1 (((upd (Y.1) 0 (((Y.1) 0) + (V 0))) 1) + (V 1))) 2 (((upd (upd (Y.1) 0 (((Y.1) 0) + (V 0))) 1 (((upd (Y.1) 0 (((Y.1) 0) + (V 0))) 1) + (V 1))) 2) + (V 2))) 3 (((upd (upd (upd (Y.1) 0 (((Y.1) 0) + (V 0))) 1 (((upd (Y.1) 0 (((Y.1) 0) + (V 0))) 1) + (V 1))) 2 (((upd (upd (Y.1) 0 (((Y.1) 0) + (V 0))) 1 (((upd (Y.1) 0 (((Y.1) 0) + (V 0))) 1) + (V 1))) 2) + (V 2))) 3) + (V 3))) 4 (((upd (upd (upd (upd (Y.1) 0 (((Y.1) 0) + (V 0))) 1 (((upd (Y.1) 0 (((Y.1) 0) + (V 0))) 1) + (V 1))) 2 (((upd (upd (Y.1) 0 (((Y.1) 0) + (V 0))) 1 (((upd (Y.1) 0 (((Y.1) 0) + (V 0))) 1) + (V 1))) 2) + (V 2))) 3 (((upd (upd (upd (Y.1) 0 (((Y.1) 0) + (V 0))) 1 (((upd (Y.1) 0 (((Y.1) 0) + (V 0))) 1) + (V 1))) 2 (((upd (upd (Y.1) 0 (((Y.1) 0) + (V 0))) 1 (((upd (Y.1) 0 (((Y.1) 0) + (V 0))) 1) + (V 1))) 2) + (V 2))) 3) + (V 3))) 4) + (V 4))) 5) + (V 5))) 6 (((upd (upd (upd (upd (upd (upd (Y.1) 0 (((Y.1) 0) + (V 0))) 1 (((upd (Y.1) 0 (((Y.1) 0) + (V 0))) 1) + (V 1))) 2 (((upd (upd (Y.1) 0 (((Y.1) 0) + (V 0))) 1 (((upd (Y.1) 0 (((Y.1) 0) + (V 0))) 1) + (V 1))) 2) + (V 2))) 3 (((upd (upd (upd (Y.1) 0 (((Y.1) 0) + (V 0))) 1 (((upd (Y.1) 0 (((Y.1) 0) + (V 0))) 1) + (V 1))) 2 (((upd (upd (Y.1) 0 (((Y.1) 0) + (V 0))) 1 (((upd (Y.1) 0 (((Y.1) 0) + (V 0))) 1) + (V 1))) 2) + (V 2))) 3) + (V 3))) 4 (((upd (upd (upd (upd (Y.1) 0 (((Y.1) 0) + (V 0))) 1 (((upd (Y.1) 0 (((Y.1) 0) + (V 0))) 1) + (V 1))) 2 (((upd (upd (Y.1) 0 (((Y.1) 0) + (V 0))) 1 (((upd (Y.1) 0 (((Y.1) 0) + (V 0))) 1) + (V 1))) 2) + (V 2))) 3 (((upd (upd (upd (Y.1) 0 (((Y.1) 0) + (V 0))) 1 (((upd (Y.1) 0 (((Y.1) 0) + (V 0))) 1) + (V 1))) 2 (((upd (upd (Y.1) 0 (((Y.1) 0) + (V 0))) 1 (((upd (Y.1) 0 (((Y.1) 0) + (V 0))) 1) + (V 1))) 2) + (V 2))) 3) + (V 3))) 4) + (V 4))) 5 (((upd (upd (upd (upd (upd (Y.1) 0 (((Y.1) 0) + (V 0))) 1 (((upd (Y.1) 0 (((Y.1) 0) + (V 0))) 1) + (V 1))) 2 (((upd (upd (Y.1) 0 (((Y.1) 0) + (V 0))) 1 (((upd (Y.1) 0 (((Y.1) 0) + (V 0))) 1) + (V 1))) 2) + (V 2))) 3 (((upd (upd (upd (Y.1) 0 (((Y.1) 0) + (V 0))) 1 (((upd (Y.1) 0 (((Y.1) 0) + (V 0))) 1) + (V 1))) 2 (((upd (upd (Y.1) 0 (((Y.1) 0) + (V 0))) 1 (((upd (Y.1) 0 (((Y.1) 0) + (V 0))) 1) + (V 1))) 2) + (V 2))) 3) + (V 3))) 4 (((upd (upd (upd (upd (Y.1) 0 (((Y.1) 0) + (V 0))) 1 (((upd (Y.1) 0 (((Y.1) 0) + (V 0))) 1) + (V 1))) 2 (((upd (upd (Y.1) 0 (((Y.1) 0) + (V 0))) 1 (((upd (Y.1) 0 (((Y.1) 0) + (V 0))) 1) + (V 1))) 2) + (V 2))) 3 (((upd (upd (upd (Y.1) 0 (((Y.1) 0) + (V 0))) 1 (((upd (Y.1) 0 (((Y.1) 0) + (V 0))) 1) + (V 1))) 2 (((upd (upd (Y.1) 0 (((Y.1) 0) + (V 0))) 1 (((upd (Y.1) 0 (((Y.1) 0) + (V 0))) 1) + (V 1))) 2) + (V 2))) 3) + (V 3))) 4) + (V 4))) 5) + (V 5))) 6) + (V 6))))) := ⟨_, rfl⟩
      rw [← eM8] at hM f_su f_wo f_sh
      refine lv_aload_n hx hb d_SH_mixBlock_284 rfl (lv_at hl 0 rfl) ?_
      refine hp_get S hK hM i_SH f_sh rfl 0 (by decide) mf_SH_9 (fun _ h9 => h9) rfl d_SH_mixBlock_285 ?_
      refine lv_bipush (v := nI 7) hx hb d_SH_mixBlock_288 rfl ?_
      refine lv_dup2_11 hx hb d_SH_mixBlock_290 rfl rfl ?_
      refine hp_iald S hK hM 1 f_su rfl 7 rfl (by omega) (by omega) d_SH_mixBlock_291 ?_
      refine lv_iload hx hb d_SH_mixBlock_292 (lv_at hl 8 rfl) ?_
      refine lv_iadd hx hb d_SH_mixBlock_294 ?_
      refine hp_iast S hK hM hS 1 f_su rfl 7 rfl (by omega) (by omega) d_SH_mixBlock_295 (fun H locs hM hS => ?_)
      have f_wo := hp_k (e := (.inl (ct 1, 8, .inl (upd (upd (upd (upd (upd (upd (upd (upd (Y.1) 0 (((Y.1) 0) + (V 0))) 1 (((upd (Y.1) 0 (((Y.1) 0) + (V 0))) 1) + (V 1))) 2 (((upd (upd (Y.1) 0 (((Y.1) 0) + (V 0))) 1 (((upd (Y.1) 0 (((Y.1) 0) + (V 0))) 1) + (V 1))) 2) + (V 2))) 3 (((upd (upd (upd (Y.1) 0 (((Y.1) 0) + (V 0))) 1 (((upd (Y.1) 0 (((Y.1) 0) + (V 0))) 1) + (V 1))) 2 (((upd (upd (Y.1) 0 (((Y.1) 0) + (V 0))) 1 (((upd (Y.1) 0 (((Y.1) 0) + (V 0))) 1) + (V 1))) 2) + (V 2))) 3) + (V 3))) 4 (((upd (upd (upd (upd (Y.1) 0 (((Y.1) 0) + (V 0))) 1 (((upd (Y.1) 0 (((Y.1) 0) + (V 0))) 1) + (V 1))) 2 (((upd (upd (Y.1) 0 (((Y.1) 0) + (V 0))) 1 (((upd (Y.1) 0 (((Y.1) 0) + (V 0))) 1) + (V 1))) 2) + (V 2))) 3 (((upd (upd (upd (Y.1) 0 (((Y.1) 0) + (V 0))) 1 (((upd (Y.1) 0 (((Y.1) 0) + (V 0))) 1) + (V 1))) 2 (((upd (upd (Y.1) 0 (((Y.1) 0) + (V 0))) 1 (((upd (Y.1) 0 (((Y.1) 0) + (V 0))) 1) + (V 1))) 2) + (V 2))) 3) + (V 3))) 4) + (V 4))) 5 (((upd (upd (upd (upd (upd (Y.1) 0 (((Y.1) 0) + (V 0))) 1 (((upd (Y.1) 0 (((Y.1) 0) + (V 0))) 1) + (V 1))) 2 (((upd (upd (Y.1) 0 (((Y.1) 0) + (V 0))) 1 (((upd (Y.1) 0 (((Y.1) 0) + (V 0))) 1) + (V 1))) 2) + (V 2))) 3 (((upd (upd (upd (Y.1) 0 (((Y.1) 0) + (V 0))) 1 (((upd (Y.1) 0 (((Y.1) 0) + (V 0))) 1) + (V 1))) 2 (((upd (upd (Y.1) 0 (((Y.1) 0) + (V 0))) 1 (((upd (Y.1) 0 (((Y.1) 0) + (V 0))) 1) + (V 1))) 2) + (V 2))) 3) + (V 3))) 4 (((upd (upd (upd (upd (Y.1) 0 (((Y.1) 0) + (V 0))) 1 (((upd (Y.1) 0 (((Y.1) 0) + (V 0))) 1) + (V 1))) 2 (((upd (upd (Y.1) 0 (((Y.1) 0) + (V 0))) 1 (((upd (Y.1) 0 (((Y.1) 0) + (V 0))) 1) + (V 1))) 2) + (V 2))) 3 (((upd (upd (upd (Y.1) 0 (((Y.1) 0) + (V 0))) 1 (((upd (Y.1) 0 (((Y.1) 0) + (V 0))) 1) + (V 1))) 2 (((upd (upd (Y.1) 0 (((Y.1) 0) + (V 0))) 1 (((upd (Y.1) 0 (((Y.1) 0) + (V 0))) 1) + (V 1))) 2) + (V 2))) 3) + (V 3))) 4) + (V 4))) 5) + (V 5))) 6 (((upd (upd (upd (upd (upd (upd (Y.1) 0 (((Y.1) 0) + (V 0))) 1 (((upd (Y.1) 0 (((Y.1) 0) + (V 0))) 1) + (V 1))) 2 (((upd (upd (Y.1) 0 (((Y.1) 0) + (V 0))) 1 (((upd (Y.1) 0 (((Y.1) 0) + (V 0))) 1) + (V 1))) 2) + (V 2))) 3 (((upd (upd (upd (Y.1) 0 (((Y.1) 0) + (V 0))) 1 (((upd (Y.1) 0 (((Y.1) 0) + (V 0))) 1) + (V 1))) 2 (((upd (upd (Y.1) 0 (((Y.1) 0) + (V 0))) 1 (((upd (Y.1) 0 (((Y.1) 0) + (V 0))) 1) + (V 1))) 2) + (V 2))) 3) + (V 3))) 4 (((upd (upd (upd (upd (Y.1) 0 (((Y.1) 0) + (V 0))) 1 (((upd (Y.1) 0 (((Y.1) 0) + (V 0))) 1) + (V 1))) 2 (((upd (upd (Y.1) 0 (((Y.1) 0) + (V 0))) 1 (((upd (Y.1) 0 (((Y.1) 0) + (V 0))) 1) + (V 1))) 2) + (V 2))) 3 (((upd (upd (upd (Y.1) 0 (((Y.1) 0) + (V 0))) 1 (((upd (Y.1) 0 (((Y.1) 0) + (V 0))) 1) + (V 1))) 2 (((upd (upd (Y.1) 0 (((Y.1) 0) + (V 0))) 1 (((upd (Y.1) 0 (((Y.1) 0) + (V 0))) 1) + (V 1))) 2) + (V 2))) 3) + (V 3))) 4) + (V 4))) 5 (((upd (upd (upd (upd (upd (Y.1) 0 (((Y.1) 0) + (V 0))) 1 (((upd (Y.1) 0 (((Y.1) 0) + (V 0))) 1) + (V 1))) 2 (((upd (upd (Y.1) 0 (((Y.1) 0) + (V 0))) 1 (((upd (Y.1) 0 (((Y.1) 0) + (V 0))) 1) + (V 1))) 2) + (V 2))) 3 (((upd (upd (upd (Y.1) 0 (((Y.1) 0) + (V 0))) 1 (((upd (Y.1) 0 (((Y.1) 0) + (V 0))) 1) + (V 1))) 2 (((upd (upd (Y.1) 0 (((Y.1) 0) + (V 0))) 1 (((upd (Y.1) 0 (((Y.1) 0) + (V 0))) 1) + (V 1))) 2) + (V 2))) 3) + (V 3))) 4 (((upd (upd (upd (upd (Y.1) 0 (((Y.1) 0) + (V 0))) 1 (((upd (Y.1) 0 (((Y.1) 0) + (V 0))) 1) + (V 1))) 2 (((upd (upd (Y.1) 0 (((Y.1) 0) + (V 0))) 1 (((upd (Y.1) 0 (((Y.1) 0) + (V 0))) 1) + (V 1))) 2) + (V 2))) 3 (((upd (upd (upd (Y.1) 0 (((Y.1) 0) + (V 0))) 1 (((upd (Y.1) 0 (((Y.1) 0) + (V 0))) 1) + (V 1))) 2 (((upd (upd (Y.1) 0 (((Y.1) 0) + (V 0))) 1 (((upd (Y.1) 0 (((Y.1) 0) + (V 0))) 1) + (V 1))) 2) + (V 2))) 3) + (V 3))) 4) + (V 4))) 5) + (V 5))) 6) + (V 6))) 7 (((upd (upd (upd (upd (upd (upd (upd (Y.1) 0 (((Y.1) 0) + (V 0))) 1 (((upd (Y.1) 0 (((Y.1) 0) + (V 0))) 1) + (V 1))) 2 (((upd (upd (Y.1) 0 (((Y.1) 0) + (V 0))) 1 (((upd (Y.1) 0 (((Y.1) 0) + (V 0))) 1) + (V 1))) 2) + (V 2))) 3 (((upd (upd (upd (Y.1) 0 (((Y.1) 0) + (V 0))) 1 (((upd (Y.1) 0 (((Y.1) 0) + (V 0))) 1) + (V 1))) 2 (((upd (upd (Y.1) 0 (((Y.1) 0) + (V 0))) 1 (((upd (Y.1) 0 (((Y.1) 0) + (V 0))) 1) + (V 1))) 2) + (V 2))) 3) + (V 3))) 4 (((upd (upd (upd (upd (Y.1) 0 (((Y.1) 0) + (V 0))) 1 (((upd (Y.1) 0 (((Y.1) 0) + (V 0))) 1) + (V 1))) 2 (((upd (upd (Y.1) 0 (((Y.1) 0) + (V 0))) 1 (((upd (Y.1) 0 (((Y.1) 0) + (V 0))) 1) + (V 1))) 2) + (V 2))) 3 (((upd (upd (upd (Y.1) 0 (((Y.1) 0) + (V 0))) 1 (((upd (Y.1) 0 (((Y.1) 0) + (V 0))) 1) + (V 1))) 2 (((upd (upd (Y.1) 0 (((Y.1) 0) + (V 0))) 1 (((upd (Y.1) 0 (((Y.1) 0) + (V 0))) 1) + (V 1))) 2) + (V 2))) 3) + (V 3))) 4) + (V 4))) 5 (((upd (upd (upd (upd (upd (Y.1) 0 (((Y.1) 0) + (V 0))) 1 (((upd (Y.1) 0 (((Y.1) 0) + (V 0))) 1) + (V 1))) 2 (((upd (upd (Y.1) 0 (((Y.1) 0) + (V 0))) 1 (((upd (Y.1) 0 (((Y.1) 0) + (V 0))) 1) + (V 1))) 2) + (V 2))) 3 (((upd (upd (upd (Y.1) 0 (((Y.1) 0) + (V 0))) 1 (((upd (Y.1) 0 (((Y.1) 0) + (V 0))) 1) + (V 1))) 2 (((upd (upd (Y.1) 0 (((Y.1) 0) + (V 0))) 1 (((upd (Y.1) 0 (((Y.1) 0) + (V 0))) 1) + (V 1))) 2) + (V 2))) 3) + (V 3))) 4 (((upd (upd (upd (upd (Y.1) 0 (((Y.1) 0) + (V 0))) 1 (((upd (Y.1) 0 (((Y.1) 0) + (V 0))) 1) + (V 1))) 2 (((upd (upd (Y.1) 0 (((Y.1) 0) + (V 0))) 1 (((upd (Y.1) 0 (((Y.1) 0) + (V 0))) 1) + (V 1))) 2) + (V 2))) 3 (((upd (upd (upd (Y.1) 0 (((Y.1) 0) + (V 0))) 1 (((upd (Y.1) 0 (((Y.1) 0) + (V 0))) 1) + (V 1))) 2 (((upd (upd (Y.1) 0 (((Y.1) 0) + (V 0))) 1 (((upd (Y.1) 0 (((Y.1) 0) + (V 0))) 1) + (V 1))) 2) + (V 2))) 3) + (V 3))) 4) + (V 4))) 5) + (V 5))) 6 (((upd (upd (upd (upd (upd (upd (Y.1) 0 (((Y.1) 0) + (V 0))) 1 (((upd (Y.1) 0 (((Y.1) 0) + (V 0))) 1) + (V 1))) 2 (((upd (upd (Y.1) 0 (((Y.1) 0) + (V 0))) 1 (((upd (Y.1) 0 (((Y.1) 0) + (V 0))) 1) + (V 1))) 2) + (V 2))) 3 (((upd (upd (upd (Y.1) 0 (((Y.1) 0) + (V 0))) 1 (((upd (Y.1) 0 (((Y.1) 0) + (V 0))) 1) + (V 1))) 2 (((upd (upd (Y.1) 0 (((Y.1) 0) + (V 0))) 1 (((upd (Y.1) 0 (((Y.1) 0) + (V 0))) 1) + (V 1))) 2) + (V 2))) 3) + (V 3))) 4 (((upd (upd (upd (upd (Y.1) 0 (((Y.1) 0) + (V 0))) 1 (((upd (Y.1) 0 (((Y.1) 0) + (V 0))) 1) + (V 1))) 2 (((upd (upd (Y.1) 0 (((Y.1) 0) + (V 0))) 1 (((upd (Y.1) 0 (((Y.1) 0) + (V 0))) 1) + (V 1))) 2) + (V 2))) 3 (((upd (upd (upd (Y.1) 0 (((Y.1) 0) + (V 0))) 1 (((upd (Y.1) 0 (((Y.1) 0) + (V 0))) 1) + (V 1))) 2 (((upd (upd (Y.1) 0 (((Y.1) 0) + (V 0))) 1 (((upd (Y.1) 0 (((Y.1) 0) + (V 0))) 1) + (V 1))) 2) + (V 2))) 3) + (V 3))) 4) + (V 4))) 5 (((upd (upd (upd (upd (upd (Y.1) 0 (((Y.1) 0) + (V 0))) 1 (((upd (Y.1) 0 (((Y.1) 0) + (V 0))) 1) + (V 1))) 2 (((upd (upd (Y.1) 0 (((Y.1) 0) + (V 0))) 1 (((upd (Y.1) 0 (((Y.1) 0) + (V 0))) 1) + (V 1))) 2) + (V 2))) 3 (((upd (upd (upd (Y.1) 0 (((Y.1) 0) + (V 0))) 1 (((upd (Y.1) 0 (((Y.1) 0) + (V 0))) 1) + (V 1))) 2 (((upd (upd (Y.1) 0 (((Y.1) 0) + (V 0))) 1 (((upd (Y.1) 0 (((Y.1) 0) + (V 0))) 1) + (V 1))) 2) + (V 2))) 3) + (V 3))) 4 (((upd (upd (upd (upd (Y.1) 0 (((Y.1) 0) + (V 0))) 1 (((upd (Y.1) 0 (((Y.1) 0) + (V 0))) 1) + (V 1))) 2 (((upd (upd (Y.1) 0 (((Y.1) 0) + (V 0))) 1 (((upd (Y.1) 0 (((Y.1) 0) + (V 0))) 1) + (V 1))) 2) + (V 2))) 3 (((upd (upd (upd (Y.1) 0 (((Y.1) 0) + (V 0))) 1 (((upd (Y.1) 0 (((Y.1) 0) + (V 0))) 1) + (V 1))) 2 (((upd (upd (Y.1) 0 (((Y.1) 0) + (V 0))) 1 (((upd (Y.1) 0 (((Y.1) 0) + (V 0))) 1) + (V 1))) 2) + (V 2))) 3) + (V 3))) 4) + (V 4))) 5) + (V 5))) 6) + (V 6))) 7) + (V 7)))))) (hp_ne f_wo f_su (by simp)) f_wo
      have f_sh := hp_k (e := (.inl (ct 1, 8, .inl (upd (upd (upd (upd (upd (upd (upd (upd (Y.1) 0 (((Y.1) 0) + (V 0))) 1 (((upd (Y.1) 0 (((Y.1) 0) + (V 0))) 1) + (V 1))) 2 (((upd (upd (Y.1) 0 (((Y.1) 0) + (V 0))) 1 (((upd (Y.1) 0 (((Y.1) 0) + (V 0))) 1) + (V 1))) 2) + (V 2))) 3 (((upd (upd (upd (Y.1) 0 (((Y.1) 0) + (V 0))) 1 (((upd (Y.1) 0 (((Y.1) 0) + (V 0))) 1) + (V 1))) 2 (((upd (upd (Y.1) 0 (((Y.1) 0) + (V 0))) 1 (((upd (Y.1) 0 (((Y.1) 0) + (V 0))) 1) + (V 1))) 2) + (V 2))) 3) + (V 3))) 4 (((upd (upd (upd (upd (Y.1) 0 (((Y.1) 0) + (V 0))) 1 (((upd (Y.1) 0 (((Y.1) 0) + (V 0))) 1) + (V 1))) 2 (((upd (upd (Y.1) 0 (((Y.1) 0) + (V 0))) 1 (((upd (Y.1) 0 (((Y.1) 0) + (V 0))) 1) + (V 1))) 2) + (V 2))) 3 (((upd (upd (upd (Y.1) 0 (((Y.1) 0) + (V 0))) 1 (((upd (Y.1) 0 (((Y.1) 0) + (V 0))) 1) + (V 1))) 2 (((upd (upd (Y.1) 0 (((Y.1) 0) + (V 0))) 1 (((upd (Y.1) 0 (((Y.1) 0) + (V 0))) 1) + (V 1))) 2) + (V 2))) 3) + (V 3))) 4) + (V 4))) 5 (((upd (upd (upd (upd (upd (Y.1) 0 (((Y.1) 0) + (V 0))) 1 (((upd (Y.1) 0 (((Y.1) 0) + (V 0))) 1) + (V 1))) 2 (((upd (upd (Y.1) 0 (((Y.1) 0) + (V 0))) 1 (((upd (Y.1) 0 (((Y.1) 0) + (V 0))) 1) + (V 1))) 2) + (V 2))) 3 (((upd (upd (upd (Y.1) 0 (((Y.1) 0) + (V 0))) 1 (((upd (Y.1) 0 (((Y.1) 0) + (V 0))) 1) + (V 1))) 2 (((upd (upd (Y.1) 0 (((Y.1) 0) + (V 0))) 1 (((upd (Y.1) 0 (((Y.1) 0) + (V 0))) 1) + (V 1))) 2) + (V 2))) 3) + (V 3))) 4 (((upd (upd (upd (upd (Y.1) 0 (((Y.1) 0) + (V 0))) 1 (((upd (Y.1) 0 (((Y.1) 0) + (V 0))) 1) + (V 1))) 2 (((upd (upd (Y.1) 0 (((Y.1) 0) + (V 0))) 1 (((upd (Y.1) 0 (((Y.1) 0) + (V 0))) 1) + (V 1))) 2) + (V 2))) 3 (((upd (upd (upd (Y.1) 0 (((Y.1) 0) + (V 0))) 1 (((upd (Y.1) 0 (((Y.1) 0) + (V 0))) 1) + (V 1))) 2 (((upd (upd (Y.1) 0 (((Y.1) 0) + (V 0))) 1 (((upd (Y.1) 0 (((Y.1) 0) + (V 0))) 1) + (V 1))) 2) + (V 2))) 3) + (V 3))) 4) + (V 4))) 5) + (V 5))) 6 (((upd (upd (upd (upd (upd (upd (Y.1) 0 (((Y.1) 0) + (V 0))) 1 (((upd (Y.1) 0 (((Y.1) 0) + (V 0))) 1) + (V 1))) 2 (((upd (upd (Y.1) 0 (((Y.1) 0) + (V 0))) 1 (((upd (Y.1) 0 (((Y.1) 0) + (V 0))) 1) + (V 1))) 2) + (V 2))) 3 (((upd (upd (upd (Y.1) 0 (((Y.1) 0) + (V 0))) 1 (((upd (Y.1) 0 (((Y.1) 0) + (V 0))) 1) + (V 1))) 2 (((upd (upd (Y.1) 0 (((Y.1) 0) + (V 0))) 1 (((upd (Y.1) 0 (((Y.1) 0) + (V 0))) 1) + (V 1))) 2) + (V 2))) 3) + (V 3))) 4 (((upd (upd (upd (upd (Y.1) 0 (((Y.1) 0) + (V 0))) 1 (((upd (Y.1) 0 (((Y.1) 0) + (V 0))) 1) + (V 1))) 2 (((upd (upd (Y.1) 0 (((Y.1) 0) + (V 0))) 1 (((upd (Y.1) 0 (((Y.1) 0) + (V 0))) 1) + (V 1))) 2) + (V 2))) 3 (((upd (upd (upd (Y.1) 0 (((Y.1) 0) + (V 0))) 1 (((upd (Y.1) 0 (((Y.1) 0) + (V 0))) 1) + (V 1))) 2 (((upd (upd (Y.1) 0 (((Y.1) 0) + (V 0))) 1 (((upd (Y.1) 0 (((Y.1) 0) + (V 0))) 1) + (V 1))) 2) + (V 2))) 3) + (V 3))) 4) + (V 4))) 5 (((upd (upd (upd (upd (upd (Y.1) 0 (((Y.1) 0) + (V 0))) 1 (((upd (Y.1) 0 (((Y.1) 0) + (V 0))) 1) + (V 1))) 2 (((upd (upd (Y.1) 0 (((Y.1) 0) + (V 0))) 1 (((upd (Y.1) 0 (((Y.1) 0) + (V 0))) 1) + (V 1))) 2) + (V 2))) 3 (((upd (upd (upd (Y.1) 0 (((Y.1) 0) + (V 0))) 1 (((upd (Y.1) 0 (((Y.1) 0) + (V 0))) 1) + (V 1))) 2 (((upd (upd (Y.1) 0 (((Y.1) 0) + (V 0))) 1 (((upd (Y.1) 0 (((Y.1) 0) + (V 0))) 1) + (V 1))) 2) + (V 2))) 3) + (V 3))) 4 (((upd (upd (upd (upd (Y.1) 0 (((Y.1) 0) + (V 0))) 1 (((upd (Y.1) 0 (((Y.1) 0) + (V 0))) 1) + (V 1))) 2 (((upd (upd (Y.1) 0 (((Y.1) 0) + (V 0))) 1 (((upd (Y.1) 0 (((Y.1) 0) + (V 0))) 1) + (V 1))) 2) + (V 2))) 3 (((upd (upd (upd (Y.1) 0 (((Y.1) 0) + (V 0))) 1 (((upd (Y.1) 0 (((Y.1) 0) + (V 0))) 1) + (V 1))) 2 (((upd (upd (Y.1) 0 (((Y.1) 0) + (V 0))) 1 (((upd (Y.1) 0 (((Y.1) 0) + (V 0))) 1) + (V 1))) 2) + (V 2))) 3) + (V 3))) 4) + (V 4))) 5) + (V 5))) 6) + (V 6))) 7 (((upd (upd (upd (upd (upd (upd (upd (Y.1) 0 (((Y.1) 0) + (V 0))) 1 (((upd (Y.1) 0 (((Y.1) 0) + (V 0))) 1) + (V 1))) 2 (((upd (upd (Y.1) 0 (((Y.1) 0) + (V 0))) 1 (((upd (Y.1) 0 (((Y.1) 0) + (V 0))) 1) + (V 1))) 2) + (V 2))) 3 (((upd (upd (upd (Y.1) 0 (((Y.1) 0) + (V 0))) 1 (((upd (Y.1) 0 (((Y.1) 0) + (V 0))) 1) + (V 1))) 2 (((upd (upd (Y.1) 0 (((Y.1) 0) + (V 0))) 1 (((upd (Y.1) 0 (((Y.1) 0) + (V 0))) 1) + (V 1))) 2) + (V 2))) 3) + (V 3))) 4 (((upd (upd (upd (upd (Y.1) 0 (((Y.1) 0) + (V 0))) 1 (((upd (Y.1) 0 (((Y.1) 0) + (V 0))) 1) + (V 1))) 2 (((upd (upd (Y.1) 0 (((Y.1) 0) + (V 0))) 1 (((upd (Y.1) 0 (((Y.1) 0) + (V 0))) 1) + (V 1))) 2) + (V 2))) 3 (((upd (upd (upd (Y.1) 0 (((Y.1) 0) + (V 0))) 1 (((upd (Y.1) 0 (((Y.1) 0) + (V 0))) 1) + (V 1))) 2 (((upd (upd (Y.1) 0 (((Y.1) 0) + (V 0))) 1 (((upd (Y.1) 0 (((Y.1) 0) + (V 0))) 1) + (V 1))) 2) + (V 2))) 3) + (V 3))) 4) + (V 4))) 5 (((upd (upd (upd (upd (upd (Y.1) 0 (((Y.1) 0) + (V 0))) 1 (((upd (Y.1) 0 (((Y.1) 0) + (V 0))) 1) + (V 1))) 2 (((upd (upd (Y.1) 0 (((Y.1) 0) + (V 0))) 1 (((upd (Y.1) 0 (((Y.1) 0) + (V 0))) 1) + (V 1))) 2) + (V 2))) 3 (((upd (upd (upd (Y.1) 0 (((Y.1) 0) + (V 0))) 1 (((upd (Y.1) 0 (((Y.1) 0) + (V 0))) 1) + (V 1))) 2 (((upd (upd (Y.1) 0 (((Y.1) 0) + (V 0))) 1 (((upd (Y.1) 0 (((Y.1) 0) + (V 0))) 1) + (V 1))) 2) + (V 2))) 3) + (V 3))) 4 (((upd (upd (upd (upd (Y.1) 0 (((Y.1) 0) + (V 0))) 1 (((upd (Y.1) 0 (((Y.1) 0) + (V 0))) 1) + (V 1))) 2 (((upd (upd (Y.1) 0 (((Y.1) 0) + (V 0))) 1 (((upd (Y.1) 0 (((Y.1) 0) + (V 0))) 1) + (V 1))) 2) + (V 2))) 3 (((upd (upd (upd (Y.1) 0 (((Y.1) 0) + (V 0))) 1 (((upd (Y.1) 0 (((Y.1) 0) + (V 0))) 1) + (V 1))) 2 (((upd (upd (Y.1) 0 (((Y.1) 0) + (V 0))) 1 (((upd (Y.1) 0 (((Y.1) 0) + (V 0))) 1) + (V 1))) 2) + (V 2))) 3) + (V 3))) 4) + (V 4))) 5) + (V 5))) 6 (((upd (upd (upd (upd (upd (upd (Y.1) 0 (((Y.1) 0) + (V 0))) 1 (((upd (Y.1) 0 (((Y.1) 0) + (V 0))) 1) + (V 1))) 2 (((upd (upd (Y.1) 0 (((Y.1) 0) + (V 0))) 1 (((upd (Y.1) 0 (((Y.1) 0) + (V 0))) 1) + (V 1))) 2) + (V 2))) 3 (((upd (upd (upd (Y.1) 0 (((Y.1) 0) + (V 0))) 1 (((upd (Y.1) 0 (((Y.1) 0) + (V 0))) 1) + (V 1))) 2 (((upd (upd (Y.1) 0 (((Y.1) 0) + (V 0))) 1 (((upd (Y.1) 0 (((Y.1) 0) + (V 0))) 1) + (V 1))) 2) + (V 2))) 3) + (V 3))) 4 (((upd (upd (upd (upd (Y.1) 0 (((Y.1) 0) + (V 0))) 1 (((upd (Y.1) 0 (((Y.1) 0) + (V 0))) 1) + (V 1))) 2 (((upd (upd (Y.1) 0 (((Y.1) 0) + (V 0))) 1 (((upd (Y.1) 0 (((Y.1) 0) + (V 0))) 1) + (V 1))) 2) + (V 2))) 3 (((upd (upd (upd (Y.1) 0 (((Y.1) 0) + (V 0))) 1 (((upd (Y.1) 0 (((Y.1) 0) + (V 0))) 1) + (V 1))) 2 (((upd (upd (Y.1) 0 (((Y.1) 0) + (V 0))) 1 (((upd (Y.1) 0 (((Y.1) 0) + (V 0))) 1) + (V 1))) 2) + (V 2))) 3) + (V 3))) 4) + (V 4))) 5 (((upd (upd (upd (upd (upd (Y.1) 0 (((Y.1) 0) + (V 0))) 1 (((upd (Y.1) 0 (((Y.1) 0) + (V 0))) 1) + (V 1))) 2 (((upd (upd (Y.1) 0 (((Y.1) 0) + (V 0))) 1 (((upd (Y.1) 0 (((Y.1) 0) + (V 0))) 1) + (V 1))) 2) + (V 2))) 3 (((upd (upd (upd (Y.1) 0 (((Y.1) 0) + (V 0))) 1 (((upd (Y.1) 0 (((Y.1) 0) + (V 0))) 1) + (V 1))) 2 (((upd (upd (Y.1) 0 (((Y.1) 0) + (V 0))) 1 (((upd (Y.1) 0 (((Y.1) 0) + (V 0))) 1) + (V 1))) 2) + (V 2))) 3) + (V 3))) 4 (((upd (upd (upd (upd (Y.1) 0 (((Y.1) 0) + (V 0))) 1 (((upd (Y.1) 0 (((Y.1) 0) + (V 0))) 1) + (V 1))) 2 (((upd (upd (Y.1) 0 (((Y.1) 0) + (V 0))) 1 (((upd (Y.1) 0 (((Y.1) 0) + (V 0))) 1) + (V 1))) 2) + (V 2))) 3 (((upd (upd (upd (Y.1) 0 (((Y.1) 0) + (V 0))) 1 (((upd (Y.1) 0 (((Y.1) 0) + (V 0))) 1) + (V 1))) 2 (((upd (upd (Y.1) 0 (((Y.1) 0) + (V 0))) 1 (((upd (Y.1) 0 (((Y.1) 0) + (V 0))) 1) + (V 1))) 2) + (V 2))) 3) + (V 3))) 4) + (V 4))) 5) + (V 5))) 6) + (V 6))) 7) + (V 7)))))) (hp_ne f_sh f_su (by simp)) f_sh
      have f_su : hp_up M8 su (.inl (ct 1, 8, .inl (upd (upd (upd (upd (upd (upd (upd (upd (Y.1) 0 (((Y.1) 0) + (V 0))) 1 (((upd (Y.1) 0 (((Y.1) 0) + (V 0))) 1) + (V 1))) 2 (((upd (upd (Y.1) 0 (((Y.1) 0) + (V 0))) 1 (((upd (Y.1) 0 (((Y.1) 0) + (V 0))) 1) + (V 1))) 2) + (V 2))) 3 (((upd (upd (upd (Y.1) 0 (((Y.1) 0) + (V 0))) 1 (((upd (Y.1) 0 (((Y.1) 0) + (V 0))) 1) + (V 1))) 2 (((upd (upd (Y.1) 0 (((Y.1) 0) + (V 0))) 1 (((upd (Y.1) 0 (((Y.1) 0) + (V 0))) 1) + (V 1))) 2) + (V 2))) 3) + (V 3))) 4 (((upd (upd (upd (upd (Y.1) 0 (((Y.1) 0) + (V 0))) 1 (((upd (Y.1) 0 (((Y.1) 0) + (V 0))) 1) + (V 1))) 2 (((upd (upd (Y.1) 0 (((Y.1) 0) + (V 0))) 1 (((upd (Y.1) 0 (((Y.1) 0) + (V 0))) 1) + (V 1))) 2) + (V 2))) 3 (((upd (upd (upd (Y.1) 0 (((Y.1) 0) + (V 0))) 1 (((upd (Y.1) 0 (((Y.1) 0) + (V 0))) 1) + (V 1))) 2 (((upd (upd (Y.1) 0 (((Y.1) 0) + (V 0))) 1 (((upd (Y.1) 0 (((Y.1) 0) + (V 0))) 1) + (V 1))) 2) + (V 2))) 3) + (V 3))) 4) + (V 4))) 5 (((upd (upd (upd (upd (upd (Y.1) 0 (((Y.1) 0) + (V 0))) 1 (((upd (Y.1) 0 (((Y.1) 0) + (V 0))) 1) + (V 1))) 2 (((upd (upd (Y.1) 0 (((Y.1) 0) + (V 0))) 1 (((upd (Y.1) 0 (((Y.1) 0) + (V 0))) 1) + (V 1))) 2) + (V 2))) 3 (((upd (upd (upd (Y.1) 0 (((Y.1) 0) + (V 0))) 1 (((upd (Y.1) 0 (((Y.1) 0) + (V 0))) 1) + (V 1))) 2 (((upd (upd (Y.1) 0 (((Y.1) 0) + (V 0))) 1 (((upd (Y.1) 0 (((Y.1) 0) + (V 0))) 1) + (V 1))) 2) + (V 2))) 3) + (V 3))) 4 (((upd (upd (upd (upd (Y.1) 0 (((Y.1) 0) + (V 0))) 1 (((upd (Y.1) 0 (((Y.1) 0) + (V 0))) 1) + (V 1))) 2 (((upd (upd (Y.1) 0 (((Y.1) 0) + (V 0))) 1 (((upd (Y.1) 0 (((Y.1) 0) + (V 0))) 1) + (V 1))) 2) + (V 2))) 3 (((upd (upd (upd (Y.1) 0 (((Y.1) 0) + (V 0))) 1 (((upd (Y.1) 0 (((Y.1) 0) + (V 0))) 1) + (V 1))) 2 (((upd (upd (Y.1) 0 (((Y.1) 0) + (V 0))) 1 (((upd (Y.1) 0 (((Y.1) 0) + (V 0))) 1) + (V 1))) 2) + (V 2))) 3) + (V 3))) 4) + (V 4))) 5) + (V 5))) 6 (((upd (upd (upd (upd (upd (upd (Y.1) 0 (((Y.1) 0) + (V 0))) 1 (((upd (Y.1) 0 (((Y.1) 0) + (V 0))) 1) + (V 1))) 2 (((upd (upd (Y.1) 0 (((Y.1) 0) + (V 0))) 1 (((upd (Y.1) 0 (((Y.1) 0) + (V 0))) 1) + (V 1))) 2) + (V 2))) 3 (((upd (upd (upd (Y.1) 0 (((Y.1) 0) + (V 0))) 1 (((upd (Y.1) 0 (((Y.1) 0) + (V 0))) 1) + (V 1))) 2 (((upd (upd (Y.1) 0 (((Y.1) 0) + (V 0))) 1 (((upd (Y.1) 0 (((Y.1) 0) + (V 0))) 1) + (V 1))) 2) + (V 2))) 3) + (V 3))) 4 (((upd (upd (upd (upd (Y.1) 0 (((Y.1) 0) + (V 0))) 1 (((upd (Y.1) 0 (((Y.1) 0) + (V 0))) 1) + (V 1))) 2 (((upd (upd (Y.1) 0 (((Y.1) 0) + (V 0))) 1 (((upd (Y.1) 0 (((Y.1) 0) + (V 0))) 1) + (V 1))) 2) + (V 2))) 3 (((upd (upd (upd (Y.1) 0 (((Y.1) 0) + (V 0))) 1 (((upd (Y.1) 0 (((Y.1) 0) + (V 0))) 1) + (V 1))) 2 (((upd (upd (Y.1) 0 (((Y.1) 0) + (V 0))) 1 (((upd (Y.1) 0 (((Y.1) 0) + (V 0))) 1) + (V 1))) 2) + (V 2))) 3) + (V 3))) 4) + (V 4))) 5 (((upd (upd (upd (upd (upd (Y.1) 0 (((Y.1) 0) + (V 0))) 1 (((upd (Y.1) 0 (((Y.1) 0) + (V 0))) 1) + (V 1))) 2 (((upd (upd (Y.1) 0 (((Y.1) 0) + (V 0))) 1 (((upd (Y.1) 0 (((Y.1) 0) + (V 0))) 1) + (V 1))) 2) + (V 2))) 3 (((upd (upd (upd (Y.1) 0 (((Y.1) 0) + (V 0))) 1 (((upd (Y.1) 0 (((Y.1) 0) + (V 0))) 1) + (V 1))) 2 (((upd (upd (Y.1) 0 (((Y.1) 0) + (V 0))) 1 (((upd (Y.1) 0 (((Y.1) 0) + (V 0))) 1) + (V 1))) 2) + (V 2))) 3) + (V 3))) 4 (((upd (upd (upd (upd (Y.1) 0 (((Y.1) 0) + (V 0))) 1 (((upd (Y.1) 0 (((Y.1) 0) + (V 0))) 1) + (V 1))) 2 (((upd (upd (Y.1) 0 (((Y.1) 0) + (V 0))) 1 (((upd (Y.1) 0 (((Y.1) 0) + (V 0))) 1) + (V 1))) 2) + (V 2))) 3 (((upd (upd (upd (Y.1) 0 (((Y.1) 0) + (V 0))) 1 (((upd (Y.1) 0 (((Y.1) 0) + (V 0))) 1) + (V 1))) 2 (((upd (upd (Y.1) 0 (((Y.1) 0) + (V 0))) 1 (((upd (Y.1) 0 (((Y.1) 0) + (V 0))) 1) + (V 1))) 2) + (V 2))) 3) + (V 3))) 4) + (V 4))) 5) + (V 5))) 6) + (V 6))) 7 (((upd (upd (upd (upd (upd (upd (upd (Y.1) 0 (((Y.1) 0) + (V 0))) 1 (((upd (Y.1) 0 (((Y.1) 0) + (V 0))) 1) + (V 1))) 2 (((upd (upd (Y.1) 0 (((Y.1) 0) + (V 0))) 1 (((upd (Y.1) 0 (((Y.1) 0) + (V 0))) 1) + (V 1))) 2) + (V 2))) 3 (((upd (upd (upd (Y.1) 0 (((Y.1) 0) + (V 0))) 1 (((upd (Y.1) 0 (((Y.1) 0) + (V 0))) 1) + (V 1))) 2 (((upd (upd (Y.1) 0 (((Y.1) 0) + (V 0))) 1 (((upd (Y.1) 0 (((Y.1) 0) + (V 0))) 1) + (V 1))) 2) + (V 2))) 3) + (V 3))) 4 (((upd (upd (upd (upd (Y.1) 0 (((Y.1) 0) + (V 0))) 1 (((upd (Y.1) 0 (((Y.1) 0) + (V 0))) 1) + (V 1))) 2 (((upd (upd (Y.1) 0 (((Y.1) 0) + (V 0))) 1 (((upd (Y.1) 0 (((Y.1) 0) + (V 0))) 1) + (V 1))) 2) + (V 2))) 3 (((upd (upd (upd (Y.1) 0 (((Y.1) 0) + (V 0))) 1 (((upd (Y.1) 0 (((Y.1) 0) + (V 0))) 1) + (V 1))) 2 (((upd (upd (Y.1) 0 (((Y.1) 0) + (V 0))) 1 (((upd (Y.1) 0 (((Y.1) 0) + (V 0))) 1) + (V 1))) 2) + (V 2))) 3) + (V 3))) 4) + (V 4))) 5 (((upd (upd (upd (upd (upd (Y.1) 0 (((Y.1) 0) + (V 0))) 1 (((upd (Y.1) 0 (((Y.1) 0) + (V 0))) 1) + (V 1))) 2 (((upd (upd (Y.1) 0 (((Y.1) 0) + (V 0))) 1 (((upd (Y.1) 0 (((Y.1) 0) + (V 0))) 1) + (V 1))) 2) + (V 2))) 3 (((upd (upd (upd (Y.1) 0 (((Y.1) 0) + (V 0))) 1 (((upd (Y.1) 0 (((Y.1) 0) + (V 0))) 1) + (V 1))) 2 (((upd (upd (Y.1) 0 (((Y.1) 0) + (V 0))) 1 (((upd (Y.1) 0 (((Y.1) 0) + (V 0))) 1) + (V 1))) 2) + (V 2))) 3) + (V 3))) 4 (((upd (upd (upd (upd (Y.1) 0 (((Y.1) 0) + (V 0))) 1 (((upd (Y.1) 0 (((Y.1) 0) + (V 0))) 1) + (V 1))) 2 (((upd (upd (Y.1) 0 (((Y.1) 0) + (V 0))) 1 (((upd (Y.1) 0 (((Y.1) 0) + (V 0))) 1) + (V 1))) 2) + (V 2))) 3 (((upd (upd (upd (Y.1) 0 (((Y.1) 0) + (V 0))) 1 (((upd (Y.1) 0 (((Y.1) 0) + (V 0))) 1) + (V 1))) 2 (((upd (upd (Y.1) 0 (((Y.1) 0) + (V 0))) 1 (((upd (Y.1) 0 (((Y.1) 0) + (V 0))) 1) + (V 1))) 2) + (V 2))) 3) + (V 3))) 4) + (V 4))) 5) + (V 5))) 6 (((upd (upd (upd (upd (upd (upd (Y.1) 0 (((Y.1) 0) + (V 0))) 1 (((upd (Y.1) 0 (((Y.1) 0) + (V 0))) 1) + (V 1))) 2 (((upd (upd (Y.1) 0 (((Y.1) 0) + (V 0))) 1 (((upd (Y.1) 0 (((Y.1) 0) + (V 0))) 1) + (V 1))) 2) + (V 2))) 3 (((upd (upd (upd (Y.1) 0 (((Y.1) 0) + (V 0))) 1 (((upd (Y.1) 0 (((Y.1) 0) + (V 0))) 1) + (V 1))) 2 (((upd (upd (Y.1) 0 (((Y.1) 0) + (V 0))) 1 (((upd (Y.1) 0 (((Y.1) 0) + (V 0))) 1) + (V 1))) 2) + (V 2))) 3) + (V 3))) 4 (((upd (upd (upd (upd (Y.1) 0 (((Y.1) 0) + (V 0))) 1 (((upd (Y.1) 0 (((Y.1) 0) + (V 0))) 1) + (V 1))) 2 (((upd (upd (Y.1) 0 (((Y.1) 0) + (V 0))) 1 (((upd (Y.1) 0 (((Y.1) 0) + (V 0))) 1) + (V 1))) 2) + (V 2))) 3 (((upd (upd (upd (Y.1) 0 (((Y.1) 0) + (V 0))) 1 (((upd (Y.1) 0 (((Y.1) 0) + (V 0))) 1) + (V 1))) 2 (((upd (upd (Y.1) 0 (((Y.1) 0) + (V 0))) 1 (((upd (Y.1) 0 (((Y.1) 0) + (V 0))) 1) + (V 1))) 2) + (V 2))) 3) + (V 3))) 4) + (V 4))) 5 (((upd (upd (upd (upd (upd (Y.1) 0 (((Y.1) 0) + (V 0))) 1 (((upd (Y.1) 0 (((Y.1) 0) + (V 0))) 1) + (V 1))) 2 (((upd (upd (Y.1) 0 (((Y.1) 0) + (V 0))) 1 (((upd (Y.1) 0 (((Y.1) 0) + (V 0))) 1) + (V 1))) 2) + (V 2))) 3 (((upd (upd (upd (Y.1) 0 (((Y.1) 0) + (V 0))) 1 (((upd (Y.1) 0 (((Y.1) 0) + (V 0))) 1) + (V 1))) 2 (((upd (upd (Y.1) 0 (((Y.1) 0) + (V 0))) 1 (((upd (Y.1) 0 (((Y.1) 0) + (V 0))) 1) + (V 1))) 2) + (V 2))) 3) + (V 3))) 4 (((upd (upd (upd (upd (Y.1) 0 (((Y.1) 0) + (V 0))) 1 (((upd (Y.1) 0 (((Y.1) 0) + (V 0))) 1) + (V 1))) 2 (((upd (upd (Y.1) 0 (((Y.1) 0) + (V 0))) 1 (((upd (Y.1) 0 (((Y.1) 0) + (V 0))) 1) + (V 1))) 2) + (V 2))) 3 (((upd (upd (upd (Y.1) 0 (((Y.1) 0) + (V 0))) 1 (((upd (Y.1) 0 (((Y.1) 0) + (V 0))) 1) + (V 1))) 2 (((upd (upd (Y.1) 0 (((Y.1) 0) + (V 0))) 1 (((upd (Y.1) 0 (((Y.1) 0) + (V 0))) 1) + (V 1))) 2) + (V 2))) 3) + (V 3))) 4) + (V 4))) 5) + (V 5))) 6) + (V 6))) 7) + (V 7))))) su = some (.inl (ct 1, 8, .inl (upd (upd (upd (upd (upd (upd (upd (upd (Y.1) 0 (((Y.1) 0) + (V 0))) 1 (((upd (Y.1) 0 (((Y.1) 0) + (V 0))) 1) + (V 1))) 2 (((upd (upd (Y.1) 0 (((Y.1) 0) + (V 0))) 1 (((upd (Y.1) 0 (((Y.1) 0) + (V 0))) 1) + (V 1))) 2) + (V 2))) 3 (((upd (upd (upd (Y.1) 0 (((Y.1) 0) + (V 0))) 1 (((upd (Y.1) 0 (((Y.1) 0) + (V 0))) 1) + (V 1))) 2 (((upd (upd (Y.1) 0 (((Y.1) 0) + (V 0))) 1 (((upd (Y.1) 0 (((Y.1) 0) + (V 0))) 1) + (V 1))) 2) + (V 2))) 3) + (V 3))) 4 (((upd (upd (upd (upd (Y.1) 0 (((Y.1) 0) + (V 0))) 1 (((upd (Y.1) 0 (((Y.1) 0) + (V 0))) 1) + (V 1))) 2 (((upd (upd (Y.1) 0 (((Y.1) 0) + (V 0))) 1 (((upd (Y.1) 0 (((Y.1) 0) + (V 0))) 1) + (V 1))) 2) + (V 2))) 3 (((upd (upd (upd (Y.1) 0 (((Y.1) 0) + (V 0))) 1 (((upd (Y.1) 0 (((Y.1) 0) + (V 0))) 1) + (V 1))) 2 (((upd (upd (Y.1) 0 (((Y.1) 0) + (V 0))) 1 (((upd (Y.1) 0 (((Y.1) 0) + (V 0))) 1) + (V 1))) 2) + (V 2))) 3) + (V 3))) 4) + (V 4))) 5 (((upd (upd (upd (upd (upd (Y.1) 0 (((Y.1) 0) + (V 0))) 1 (((upd (Y.1) 0 (((Y.1) 0) + (V 0))) 1) + (V 1))) 2 (((upd (upd (Y.1) 0 (((Y.1) 0) + (V 0))) 1 (((upd (Y.1) 0 (((Y.1) 0) + (V 0))) 1) + (V 1))) 2) + (V 2))) 3 (((upd (upd (upd (Y.1) 0 (((Y.1) 0) + (V 0))) 1 (((upd (Y.1) 0 (((Y.1) 0) + (V 0))) 1) + (V 1))) 2 (((upd (upd (Y.1) 0 (((Y.1) 0) + (V 0))) 1 (((upd (Y.1) 0 (((Y.1) 0) + (V 0))) 1) + (V 1))) 2) + (V 2))) 3) + (V 3))) 4 (((upd (upd (upd (upd (Y.1) 0 (((Y.1) 0) + (V 0))) 1 (((upd (Y.1) 0 (((Y.1) 0) + (V 0))) 1) + (V 1))) 2 (((upd (upd (Y.1) 0 (((Y.1) 0) + (V 0))) 1 (((upd (Y.1) 0 (((Y.1) 0) + (V 0))) 1) + (V 1))) 2) + (V 2))) 3 (((upd (upd (upd (Y.1) 0 (((Y.1) 0) + (V 0))) 1 (((upd (Y.1) 0 (((Y.1) 0) + (V 0))) 1) + (V 1))) 2 (((upd (upd (Y.1) 0 (((Y.1) 0) + (V 0))) 1 (((upd (Y.1) 0 (((Y.1) 0) + (V 0))) 1) + (V 1))) 2) + (V 2))) 3) + (V 3))) 4) + (V 4))) 5) + (V 5))) 6 (((upd (upd (upd (upd (upd (upd (Y.1) 0 (((Y.1) 0) + (V 0))) 1 (((upd (Y.1) 0 (((Y.1) 0) + (V 0))) 1) + (V 1))) 2 (((upd (upd (Y.1) 0 (((Y.1) 0) + (V 0))) 1 (((upd (Y.1) 0 (((Y.1) 0) + (V 0))) 1) + (V 1))) 2) + (V 2))) 3 (((upd (upd (upd (Y.1) 0 (((Y.1) 0) + (V 0))) 1 (((upd (Y.1) 0 (((Y.1) 0) + (V 0))) 1) + (V 1))) 2 (((upd (upd (Y.1) 0 (((Y.1) 0) + (V 0))) 1 (((upd (Y.1) 0 (((Y.1) 0) + (V 0))) 1) + (V 1))) 2) + (V 2))) 3) + (V 3))) 4 (((upd (upd (upd (upd (Y.1) 0 (((Y.1) 0) + (V 0))) 1 (((upd (Y.1) 0 (((Y.1) 0) + (V 0))) 1) + (V 1))) 2 (((upd (upd (Y.1) 0 (((Y.1) 0) + (V 0))) 1 (((upd (Y.1) 0 (((Y.1) 0) + (V 0))) 1) + (V 1))) 2) + (V 2))) 3 (((upd (upd (upd (Y.1) 0 (((Y.1) 0) + (V 0))) 1 (((upd (Y.1) 0 (((Y.1) 0) + (V 0))) 1) + (V 1))) 2 (((upd (upd (Y.1) 0 (((Y.1) 0) + (V 0))) 1 (((upd (Y.1) 0 (((Y.1) 0) + (V 0))) 1) + (V 1))) 2) + (V 2))) 3) + (V 3))) 4) + (V 4))) 5 (((upd (upd (upd (upd (upd (Y.1) 0 (((Y.1) 0) + (V 0))) 1 (((upd (Y.1) 0 (((Y.1) 0) + (V 0))) 1) + (V 1))) 2 (((upd (upd (Y.1) 0 (((Y.1) 0) + (V 0))) 1 (((upd (Y.1) 0 (((Y.1) 0) + (V 0))) 1) + (V 1))) 2) + (V 2))) 3 (((upd (upd (upd (Y.1) 0 (((Y.1) 0) + (V 0))) 1 (((upd (Y.1) 0 (((Y.1) 0) + (V 0))) 1) + (V 1))) 2 (((upd (upd (Y.1) 0 (((Y.1) 0) + (V 0))) 1 (((upd (Y.1) 0 (((Y.1) 0) + (V 0))) 1) + (V 1))) 2) + (V 2))) 3) + (V 3))) 4 (((upd (upd (upd (upd (Y.1) 0 (((Y.1) 0) + (V 0))) 1 (((upd (Y.1) 0 (((Y.1) 0) + (V 0))) 1) + (V 1))) 2 (((upd (upd (Y.1) 0 (((Y.1) 0) + (V 0))) 1 (((upd (Y.1) 0 (((Y.1) 0) + (V 0))) 1) + (V 1))) 2) + (V 2))) 3 (((upd (upd (upd (Y.1) 0 (((Y.1) 0) + (V 0))) 1 (((upd (Y.1) 0 (((Y.1) 0) + (V 0))) 1) + (V 1))) 2 (((upd (upd (Y.1) 0 (((Y.1) 0) + (V 0))) 1 (((upd (Y.1) 0 (((Y.1) 0) + (V 0))) 1) + (V 1))) 2) + (V 2))) 3) + (V 3))) 4) + (V 4))) 5) + (V 5))) 6) + (V 6))) 7 (((upd (upd (upd (upd (upd (upd (upd (Y.1) 0 (((Y.1) 0) + (V 0))) 1 (((upd (Y.1) 0 (((Y.1) 0) + (V 0))) 1) + (V 1))) 2 (((upd (upd (Y.1) 0 (((Y.1) 0) + (V 0))) 1 (((upd (Y.1) 0 (((Y.1) 0) + (V 0))) 1) + (V 1))) 2) + (V 2))) 3 (((upd (upd (upd (Y.1) 0 (((Y.1) 0) + (V 0))) 1 (((upd (Y.1) 0 (((Y.1) 0) + (V 0))) 1) + (V 1))) 2 (((upd (upd (Y.1) 0 (((Y.1) 0) + (V 0))) 1 (((upd (Y.1) 0 (((Y.1) 0) + (V 0))) 1) + (V 1))) 2) + (V 2))) 3) + (V 3))) 4 (((upd (upd (upd (upd (Y.1) 0 (((Y.1) 0) + (V 0))) 1 (((upd (Y.1) 0 (((Y.1) 0) + (V 0))) 1) + (V 1))) 2 (((upd (upd (Y.1) 0 (((Y.1) 0) + (V 0))) 1 (((upd (Y.1) 0 (((Y.1) 0) + (V 0))) 1) + (V 1))) 2) + (V 2))) 3 (((upd (upd (upd (Y.1) 0 (((Y.1) 0) + (V 0))) 1 (((upd (Y.1) 0 (((Y.1) 0) + (V 0))) 1) + (V 1))) 2 (((upd (upd (Y.1) 0 (((Y.1) 0) + (V 0))) 1 (((upd (Y.1) 0 (((Y.1) 0) + (V 0))) 1) + (V 1))) 2) + (V 2))) 3) + (V 3))) 4) + (V 4))) 5 (((upd (upd (upd (upd (upd (Y.1) 0 (((Y.1) 0) + (V 0))) 1 (((upd (Y.1) 0 (((Y.1) 0) + (V 0))) 1) + (V 1))) 2 (((upd (upd (Y.1) 0 (((Y.1) 0) + (V 0))) 1 (((upd (Y.1) 0 (((Y.1) 0) + (V 0))) 1) + (V 1))) 2) + (V 2))) 3 (((upd (upd (upd (Y.1) 0 (((Y.1) 0) + (V 0))) 1 (((upd (Y.1) 0 (((Y.1) 0) + (V 0))) 1) + (V 1))) 2 (((upd (upd (Y.1) 0 (((Y.1) 0) + (V 0))) 1 (((upd (Y.1) 0 (((Y.1) 0) + (V 0))) 1) + (V 1))) 2) + (V 2))) 3) + (V 3))) 4 (((upd (upd (upd (upd (Y.1) 0 (((Y.1) 0) + (V 0))) 1 (((upd (Y.1) 0 (((Y.1) 0) + (V 0))) 1) + (V 1))) 2 (((upd (upd (Y.1) 0 (((Y.1) 0) + (V 0))) 1 (((upd (Y.1) 0 (((Y.1) 0) + (V 0))) 1) + (V 1))) 2) + (V 2))) 3 (((upd (upd (upd (Y.1) 0 (((Y.1) 0) + (V 0))) 1 (((upd (Y.1) 0 (((Y.1) 0) + (V 0))) 1) + (V 1))) 2 (((upd (upd (Y.1) 0 (((Y.1) 0) + (V 0))) 1 (((upd (Y.1) 0 (((Y.1) 0) + (V 0))) 1) + (V 1))) 2) + (V 2))) 3) + (V 3))) 4) + (V 4))) 5) + (V 5))) 6 (((upd (upd (upd (upd (upd (upd (Y.1) 0 (((Y.1) 0) + (V 0))) 1 (((upd (Y.1) 0 (((Y.1) 0) + (V 0))) 1) + (V 1))) 2 (((upd (upd (Y.1) 0 (((Y.1) 0) + (V 0))) 1 (((upd (Y.1) 0 (((Y.1) 0) + (V 0))) 1) + (V 1))) 2) + (V 2))) 3 (((upd (upd (upd (Y.1) 0 (((Y.1) 0) + (V 0))) 1 (((upd (Y.1) 0 (((Y.1) 0) + (V 0))) 1) + (V 1))) 2 (((upd (upd (Y.1) 0 (((Y.1) 0) + (V 0))) 1 (((upd (Y.1) 0 (((Y.1) 0) + (V 0))) 1) + (V 1))) 2) + (V 2))) 3) + (V 3))) 4 (((upd (upd (upd (upd (Y.1) 0 (((Y.1) 0) + (V 0))) 1 (((upd (Y.1) 0 (((Y.1) 0) + (V 0))) 1) + (V 1))) 2 (((upd (upd (Y.1) 0 (((Y.1) 0) + (V 0))) 1 (((upd (Y.1) 0 (((Y.1) 0) + (V 0))) 1) + (V 1))) 2) + (V 2))) 3 (((upd (upd (upd (Y.1) 0 (((Y.1) 0) + (V 0))) 1 (((upd (Y.1) 0 (((Y.1) 0) + (V 0))) 1) + (V 1))) 2 (((upd (upd (Y.1) 0 (((Y.1) 0) + (V 0))) 1 (((upd (Y.1) 0 (((Y.1) 0) + (V 0))) 1) + (V 1))) 2) + (V 2))) 3) + (V 3))) 4) + (V 4))) 5 (((upd (upd (upd (upd (upd (Y.1) 0 (((Y.1) 0) + (V 0))) 1 (((upd (Y.1) 0 (((Y.1) 0) + (V 0))) 1) + (V 1))) 2 (((upd (upd (Y.1) 0 (((Y.1) 0) + (V 0))) 1 (((upd (Y.1) 0 (((Y.1) 0) + (V 0))) 1) + (V 1))) 2) + (V 2))) 3 (((upd (upd (upd (Y.1) 0 (((Y.1) 0) + (V 0))) 1 (((upd (Y.1) 0 (((Y.1) 0) + (V 0))) 1) + (V 1))) 2 (((upd (upd (Y.1) 0 (((Y.1) 0) + (V 0))) 1 (((upd (Y.1) 0 (((Y.1) 0) + (V 0))) 1) + (V 1))) 2) + (V 2))) 3) + (V 3))) 4 (((upd (upd (upd (upd (Y.1) 0 (((Y.1) 0) + (V 0))) 1 (((upd (Y.1) 0 (((Y.1) 0) + (V 0))) 1) + (V 1))) 2 (((upd (upd (Y.1) 0 (((Y.1) 0) + (V 0))) 1 (((upd (Y.1) 0 (((Y.1) 0) + (V 0))) 1) + (V 1))) 2) + (V 2))) 3 (((upd (upd (upd (Y.1) 0 (((Y.1) 0) + (V 0))) 1 (((upd (Y.1) 0 (((Y.1) 0) + (V 0))) 1) + (V 1))) 2 (((upd (upd (Y.1) 0 (((Y.1) 0) + (V 0))) 1 (((upd (Y.1) 0 (((Y.1) 0) + (V 0))) 1) + (V 1))) 2) + (V 2))) 3) + (V 3))) 4) + (V 4))) 5) + (V 5))) 6) + (V 6))) 7) + (V 7))))) := hp_us
      obtain ⟨M9, eM9⟩ : ∃ z, z = hp_up M8 su (.inl (ct 1, 8, .inl (upd (upd (upd (upd (upd (upd (upd (upd (Y.1) 0 (((Y.1) 0) + (V 0))) 1 (((upd (Y.1) 0 (((Y.1) 0) + (V 0))) 1) + (V 1))) 2 (((upd (upd (Y.1) 0 (((Y.1) 0) + (V 0))) 1 (((upd (Y.1) 0 (((Y.1) 0) + (V 0))) 1) + (V 1))) 2) + (V 2))) 3 (((upd (upd (upd (Y.1) 0 (((Y.1) 0) + (V 0))) 1 (((upd (Y.1) 0 (((Y.1) 0) + (V 0))) 1) + (V 1))) 2 (((upd (upd (Y.1) 0 (((Y.1) 0) + (V 0))) 1 (((upd (Y.1) 0 (((Y.1) 0) + (V 0))) 1) + (V 1))) 2) + (V 2))) 3) + (V 3))) 4 (((upd (upd (upd (upd (Y.1) 0 (((Y.1) 0) + (V 0))) 1 (((upd (Y.1) 0 (((Y.1) 0) + (V 0))) 1) + (V 1))) 2 (((upd (upd (Y.1) 0 (((Y.1) 0) + (V 0))) 1 (((upd (Y.1) 0 (((Y.1) 0) + (V 0))) 1) + (V 1))) 2) + (V 2))) 3 (((upd (upd (upd (Y.1) 0 (((Y.1) 0) + (V 0))) 1 (((upd (Y.1) 0 (((Y.1) 0) + (V 0))) 1) + (V 1))) 2 (((upd (upd (Y.1) 0 (((Y.1) 0) + (V 0))) 1 (((upd (Y.1) 0 (((Y.1) 0) + (V 0))) 1) + (V 1))) 2) + (V 2))) 3) + (V 3))) 4) + (V 4))) 5 (((upd (upd (upd (upd (upd (Y.1) 0 (((Y.1) 0) + (V 0))) 1 (((upd (Y.1) 0 (((Y.1) 0) + (V 0))) 1) + (V 1))) 2 (((upd (upd (Y.1) 0 (((Y.1) 0) + (V 0))) 1 (((upd (Y.1) 0 (((Y.1) 0) + (V 0))) 1) + (V 1))) 2) + (V 2))) 3 (((upd (upd (upd (Y.1) 0 (((Y.1) 0) + (V 0))) 1 (((upd (Y.1) 0 (((Y.1) 0) + (V 0))) 1) + (V 1))) 2 (((upd (upd (Y.1) 0 (((Y.1) 0) + (V 0))) 1 (((upd (Y.1) 0 (((Y.1) 0) + (V 0))) 1) + (V 1))) 2) + (V 2))) 3) + (V 3))) 4 (((upd (upd (upd (upd (Y.1) 0 (((Y.1) 0) + (V 0))) 1 (((upd (Y.1) 0 (((Y.1) 0) + (V 0))) 1) + (V 1))) 2 (((upd (upd (Y.1) 0 (((Y.1) 0) + (V 0))) 1 (((upd (Y.1) 0 (((Y.1) 0) + (V 0))) 1) + (V 1))) 2) + (V 2))) 3 (((upd (upd (upd (Y.1) 0 (((Y.1) 0) + (V 0))) 1 (((upd (Y.1) 0 (((Y.1) 0) + (V 0))) 1) + (V 1))) 2 (((upd (upd (Y.1) 0 (((Y.1) 0) + (V 0))) 1 (((upd (Y.1) 0 (((Y.1) 0) + (V 0))) 1) + (V 1))) 2) + (V 2))) 3) + (V 3))) 4) + (V 4))) 5) + (V 5))) 6 (((upd (upd (upd (upd (upd (upd (Y.1) 0 (((Y.1) 0) + (V 0))) 1 (((upd (Y.1) 0 (((Y.1) 0) + (V 0))) 1) + (V 1))) 2 (((upd (upd (Y.1) 0 (((Y.1) 0) + (V 0))) 1 (((upd (Y.1) 0 (((Y.1) 0) + (V 0))) 1) + (V 1))) 2) + (V 2))) 3 (((upd (upd (upd (Y.1) 0 (((Y.1) 0) + (V 0))) 1 (((upd (Y.1) 0 (((Y.1) 0) + (V 0))) 1) + (V 1))) 2 (((upd (upd (Y.1) 0 (((Y.1) 0) + (V 0))) 1 (((upd (Y.1) 0 (((Y.1) 0) + (V 0))) 1) + (V 1))) 2) + (V 2))) 3) + (V 3))) 4 (((upd (upd (upd (upd (Y.1) 0 (((Y.1) 0) + (V 0))) 1 (((upd (Y.1) 0 (((Y.1) 0) + (V 0))) 1) + (V 1))) 2 (((upd (upd (Y.1) 0 (((Y.1) 0) + (V 0))) 1 (((upd (Y.1) 0 (((Y.1) 0) + (V 0))) 1) + (V 1))) 2) + (V 2))) 3 (((upd (upd (upd (Y.1) 0 (((Y.1) 0) + (V 0))) 1 (((upd (Y.1) 0 (((Y.1) 0) + (V 0))) 1) + (V 1))) 2 (((upd (upd (Y.1) 0 (((Y.1) 0) + (V 0))) 1 (((upd (Y.1) 0 (((Y.1) 0) + (V 0))) 1) + (V 1))) 2) + (V 2))) 3) + (V 3))) 4) + (V 4))) 5 (((upd (upd (upd (upd (upd (Y.1) 0 (((Y.1) 0) + (V 0))) 1 (((upd (Y.1) 0 (((Y.1) 0) + (V 0))) 1) + (V 1))) 2 (((upd (upd (Y.1) 0 (((Y.1) 0) + (V 0))) 1 (((upd (Y.1) 0 (((Y.1) 0) + (V 0))) 1) + (V 1))) 2) + (V 2))) 3 (((upd (upd (upd (Y.1) 0 (((Y.1) 0) + (V 0))) 1 (((upd (Y.1) 0 (((Y.1) 0) + (V 0))) 1) + (V 1))) 2 (((upd (upd (Y.1) 0 (((Y.1) 0) + (V 0))) 1 (((upd (Y.1) 0 (((Y.1) 0) + (V 0))) 1) + (V 1))) 2) + (V 2))) 3) + (V 3))) 4 (((upd (upd (upd (upd (Y.1) 0 (((Y.1) 0) + (V 0))) 1 (((upd (Y.1) 0 (((Y.1) 0) + (V 0))) 1) + (V 1))) 2 (((upd (upd (Y.1) 0 (((Y.1) 0) + (V 0))) 1 (((upd (Y.1) 0 (((Y.1) 0) + (V 0))) 1) + (V 1))) 2) + (V 2))) 3 (((upd (upd (upd (Y.1) 0 (((Y.1) 0) + (V 0))) 1 (((upd (Y.1) 0 (((Y.1) 0) + (V 0))) 1) + (V 1))) 2 (((upd (upd (Y.1) 0 (((Y.1) 0) + (V 0))) 1 (((upd (Y.1) 0 (((Y.1) 0) + (V 0))) 1) + (V 1))) 2) + (V 2))) 3) + (V 3))) 4) + (V 4))) 5) + (V 5))) 6) + (V 6))) 7 (((upd (upd (upd (upd (upd (upd (upd (Y.1) 0 (((Y.1) 0) + (V 0))) 1 (((upd (Y.1) 0 (((Y.1) 0) + (V 0))) 1) + (V 1))) 2 (((upd (upd (Y.1) 0 (((Y.1) 0) + (V 0))) 1 (((upd (Y.1) 0 (((Y.1) 0) + (V 0))) 1) + (V 1))) 2) + (V 2))) 3 (((upd (upd (upd (Y.1) 0 (((Y.1) 0) + (V 0))) 1 (((upd (Y.1) 0 (((Y.1) 0) + (V 0))) 1) + (V 1))) 2 (((upd (upd (Y.1) 0 (((Y.1) 0) + (V 0))) 1 (((upd (Y.1) 0 (((Y.1) 0) + (V 0))) 1) + (V 1))) 2) + (V 2))) 3) + (V 3))) 4 (((upd (upd (upd (upd (Y.1) 0 (((Y.1) 0) + (V 0))) 1 (((upd (Y.1) 0 (((Y.1) 0) + (V 0))) 1) + (V 1))) 2 (((upd (upd (Y.1) 0 (((Y.1) 0) + (V 0))) 1 (((upd (Y.1) 0 (((Y.1) 0) + (V 0))) 1) + (V 1))) 2) + (V 2))) 3 (((upd (upd (upd (Y.1) 0 (((Y.1) 0) + (V 0))) 1 (((upd (Y.1) 0 (((Y.1) 0) + (V 0))) 1) + (V 1))) 2 (((upd (upd (Y.1) 0 (((Y.1) 0) + (V 0))) 1 (((upd (Y.1) 0 (((Y.1) 0) + (V 0))) 1) + (V 1))) 2) + (V 2))) 3) + (V 3))) 4) + (V 4))) 5 (((upd (upd (upd (upd (upd (Y.1) 0 (((Y.1) 0) + (V 0))) 1 (((upd (Y.1) 0 (((Y.1) 0) + (V 0))) 1) + (V 1))) 2 (((upd (upd (Y.1) 0 (((Y.1) 0) + (V 0))) 1 (((upd (Y.1) 0 (((Y.1) 0) + (V 0))) 1) + (V 1))) 2) + (V 2))) 3 (((upd (upd (upd (Y.1) 0 (((Y.1) 0) + (V 0))) 1 (((upd (Y.1) 0 (((Y.1) 0) + (V 0))) 1) + (V 1))) 2 (((upd (upd (Y.1) 0 (((Y.1) 0) + (V 0))) 1 (((upd (Y.1) 0 (((Y.1) 0) + (V 0))) 1) + (V 1))) 2) + (V 2))) 3) + (V 3))) 4 (((upd (upd (upd (upd (Y.1) 0 (((Y.1) 0) + (V 0))) 1 (((upd (Y.1) 0 (((Y.1) 0) + (V 0))) 1) + (V 1))) 2 (((upd (upd (Y.1) 0 (((Y.1) 0) + (V 0))) 1 (((upd (Y.1) 0 (((Y.1) 0) + (V 0))) 1) + (V 1))) 2) + (V 2))) 3 (((upd (upd (upd (Y.1) 0 (((Y.1) 0) + (V 0))) 1 (((upd (Y.1) 0 (((Y.1) 0) + (V 0))) 1) + (V 1))) 2 (((upd (upd (Y.1) 0 (((Y.1) 0) + (V 0))) 1 (((upd (Y.1) 0 (((Y.1) 0) + (V 0))) 1) + (V 1))) 2) + (V 2))) 3) + (V 3))) 4) + (V 4))) 5) + (V 5))) 6 (((upd (upd (upd (upd (upd (upd (Y.1) 0 (((Y.1) 0) + (V 0))) 1 (((upd (Y.1) 0 (((Y.1) 0) + (V 0))) 1) + (V 1))) 2 (((upd (upd (Y.1) 0 (((Y.1) 0) + (V 0))) 1 (((upd (Y.1) 0 (((Y.1) 0) + (V 0))) 1) + (V 1))) 2) + (V 2))) 3 (((upd (upd (upd (Y.1) 0 (((Y.1) 0) + (V 0))) 1 (((upd (Y.1) 0 (((Y.1) 0) + (V 0))) 1) + (V 1))) 2 (((upd (upd (Y.1) 0 (((Y.1) 0) + (V 0))) 1 (((upd (Y.1) 0 (((Y.1) 0) + (V 0))) 1) + (V 1))) 2) + (V 2))) 3) + (V 3))) 4 (((upd (upd (upd (upd (Y.1) 0 (((Y.1) 0) + (V 0))) 1 (((upd (Y.1) 0 (((Y.1) 0) + (V 0))) 1) + (V 1))) 2 (((upd (upd (Y.1) 0 (((Y.1) 0) + (V 0))) 1 (((upd (Y.1) 0 (((Y.1) 0) + (V 0))) 1) + (V 1))) 2) + (V 2))) 3 (((upd (upd (upd (Y.1) 0 (((Y.1) 0) + (V 0))) 1 (((upd (Y.1) 0 (((Y.1) 0) + (V 0))) 1) + (V 1))) 2 (((upd (upd (Y.1) 0 (((Y.1) 0) + (V 0))) 1 (((upd (Y.1) 0 (((Y.1) 0) + (V 0))) 1) + (V 1))) 2) + (V 2))) 3) + (V 3))) 4) + (V 4))) 5 (((upd (upd (upd (upd (upd (Y.1) 0 (((Y.1) 0) + (V 0))) 1 (((upd (Y.1) 0 (((Y.1) 0) + (V 0))) 1) + (V 1))) 2 (((upd (upd (Y.1) 0 (((Y.1) 0) + (V 0))) 1 (((upd (Y.1) 0 (((Y.1) 0) + (V 0))) 1) + (V 1))) 2) + (V 2))) 3 (((upd (upd (upd (Y.1) 0 (((Y.1) 0) + (V 0))) 1 (((upd (Y.1) 0 (((Y.1) 0) + (V 0))) 1) + (V 1))) 2 (((upd (upd (Y.1) 0 (((Y.1) 0) + (V 0))) 1 (((upd (Y.1) 0 (((Y.1) 0) + (V 0))) 1) + (V 1))) 2) + (V 2))) 3) + (V 3))) 4 (((upd (upd (upd (upd (Y.1) 0 (((Y.1) 0) + (V 0))) 1 (((upd (Y.1) 0 (((Y.1) 0) + (V 0))) 1) + (V 1))) 2 (((upd (upd (Y.1) 0 (((Y.1) 0) + (V 0))) 1 (((upd (Y.1) 0 (((Y.1) 0) + (V 0))) 1) + (V 1))) 2) + (V 2))) 3 (((upd (upd (upd (Y.1) 0 (((Y.1) 0) + (V 0))) 1 (((upd (Y.1) 0 (((Y.1) 0) + (V 0))) 1) + (V 1))) 2 (((upd (upd (Y.1) 0 (((Y.1) 0) + (V 0))) 1 (((upd (Y.1) 0 (((Y.1) 0) + (V 0))) 1) + (V 1))) 2) + (V 2))) 3) + (V 3))) 4) + (V 4))) 5) + (V 5))) 6) + (V 6))) 7) + (V 7))))) := ⟨_, rfl⟩
      rw [← eM9] at hM f_su f_wo f_sh
      exact hp_vret S hret hlk hM hS (by rw [eM9, eM8, eM7, eM6, eM5, eM4, eM3, eM2, hp_uu, hp_uu, hp_uu, hp_uu, hp_uu, hp_uu, hp_uu, ← hV]; exact shM_su hsh (adds V Y.1)) d_SH_mixBlock_296
    · exact absurd hn (by omega)
  | succ fu ih =>
    refine lv_iload hx hb d_SH_mixBlock_66 (lv_at hl 9 rfl) ?_
    refine lv_bipush (v := nI 64) hx hb d_SH_mixBlock_68 rfl ?_
    refine nb_ge (tgt := 209) hx hb d_SH_mixBlock_70 (by decide) (by omega) (by omega) (fun h10 => ?_) (fun h10 => ?_)
    · exact absurd hn (by omega)
    · refine lv_iload hx hb d_SH_mixBlock_73 (lv_at hl 5 rfl) ?_
      refine lv_bipush (v := nI 6) hx hb d_SH_mixBlock_75 rfl ?_
      refine hp_calli (go_S S hZ hK hM hS hA hz (c_SH_turned l D ct Z hZ _ _ (V 4) 6 (by decide)) mc_SH_turned mz_SH ml_SH_43 ms_SH_turned hd_SH_turned rfl ⟨by decide, by decide⟩ hl.1 rfl (Nat.le_of_ble_eq_true rfl) d_SH_mixBlock_77 ⟨by decide, by decide⟩) hM hS hA (fun r11 N12 H locs hr11 hM hS => ?_)
      rw [hr11.1] at hM
      replace hr11 := hr11.2
      subst hr11
      refine lv_iload hx hb d_SH_mixBlock_80 (lv_at hl 5 rfl) ?_
      refine lv_bipush (v := nI 11) hx hb d_SH_mixBlock_82 rfl ?_
      refine hp_calli (go_S S hZ hK hM hS hA hz (c_SH_turned l D ct Z hZ _ _ (V 4) 11 (by decide)) mc_SH_turned mz_SH ml_SH_43 ms_SH_turned hd_SH_turned rfl ⟨by decide, by decide⟩ hl.1 rfl (Nat.le_of_ble_eq_true rfl) d_SH_mixBlock_84 ⟨by decide, by decide⟩) hM hS hA (fun r13 N14 H locs hr13 hM hS => ?_)
      rw [hr13.1] at hM
      replace hr13 := hr13.2
      subst hr13
      refine lv_ixor hx hb d_SH_mixBlock_87 ?_
      refine lv_iload hx hb d_SH_mixBlock_88 (lv_at hl 5 rfl) ?_
      refine lv_bipush (v := nI 25) hx hb d_SH_mixBlock_90 rfl ?_
      refine hp_calli (go_S S hZ hK hM hS hA hz (c_SH_turned l D ct Z hZ _ _ (V 4) 25 (by decide)) mc_SH_turned mz_SH ml_SH_43 ms_SH_turned hd_SH_turned rfl ⟨by decide, by decide⟩ hl.1 rfl (Nat.le_of_ble_eq_true rfl) d_SH_mixBlock_92 ⟨by decide, by decide⟩) hM hS hA (fun r15 N16 H locs hr15 hM hS => ?_)
      rw [hr15.1] at hM
      replace hr15 := hr15.2
      subst hr15
      refine lv_ixor hx hb d_SH_mixBlock_95 ?_
      refine lv_istore (lv' := [(10, .int (((tr (V 4) 6) ^^^ (tr (V 4) 11)) ^^^ (tr (V 4) 25))), (0, .ref sh), (1, .int (V 0)), (2, .int (V 1)), (3, .int (V 2)), (4, .int (V 3)), (5, .int (V 4)), (6, .int (V 5)), (7, .int (V 6)), (8, .int (V 7)), (9, .int (nI j))]) hx hb d_SH_mixBlock_96 hl (by decide) rfl (fun ls hl => ?_)
      refine lv_iload_n hx hb d_SH_mixBlock_98 rfl (lv_at hl 2 rfl) ?_
      refine lv_iconst (v := nI 2) hx hb d_SH_mixBlock_99 rfl ?_
      refine hp_calli (go_S S hZ hK hM hS hA hz (c_SH_turned l D ct Z hZ _ _ (V 0) 2 (by decide)) mc_SH_turned mz_SH ml_SH_43 ms_SH_turned hd_SH_turned rfl ⟨by decide, by decide⟩ hl.1 rfl (Nat.le_of_ble_eq_true rfl) d_SH_mixBlock_100 ⟨by decide, by decide⟩) hM hS hA (fun r17 N18 H locs hr17 hM hS => ?_)
      rw [hr17.1] at hM
      replace hr17 := hr17.2
      subst hr17
      refine lv_iload_n hx hb d_SH_mixBlock_103 rfl (lv_at hl 2 rfl) ?_
      refine lv_bipush (v := nI 13) hx hb d_SH_mixBlock_104 rfl ?_
      refine hp_calli (go_S S hZ hK hM hS hA hz (c_SH_turned l D ct Z hZ _ _ (V 0) 13 (by decide)) mc_SH_turned mz_SH ml_SH_43 ms_SH_turned hd_SH_turned rfl ⟨by decide, by decide⟩ hl.1 rfl (Nat.le_of_ble_eq_true rfl) d_SH_mixBlock_106 ⟨by decide, by decide⟩) hM hS hA (fun r19 N20 H locs hr19 hM hS => ?_)
      rw [hr19.1] at hM
      replace hr19 := hr19.2
      subst hr19
      refine lv_ixor hx hb d_SH_mixBlock_109 ?_
      refine lv_iload_n hx hb d_SH_mixBlock_110 rfl (lv_at hl 2 rfl) ?_
      refine lv_bipush (v := nI 22) hx hb d_SH_mixBlock_111 rfl ?_
      refine hp_calli (go_S S hZ hK hM hS hA hz (c_SH_turned l D ct Z hZ _ _ (V 0) 22 (by decide)) mc_SH_turned mz_SH ml_SH_43 ms_SH_turned hd_SH_turned rfl ⟨by decide, by decide⟩ hl.1 rfl (Nat.le_of_ble_eq_true rfl) d_SH_mixBlock_113 ⟨by decide, by decide⟩) hM hS hA (fun r21 N22 H locs hr21 hM hS => ?_)
      rw [hr21.1] at hM
      replace hr21 := hr21.2
      subst hr21
      refine lv_ixor hx hb d_SH_mixBlock_116 ?_
      refine lv_istore (lv' := [(11, .int (((tr (V 0) 2) ^^^ (tr (V 0) 13)) ^^^ (tr (V 0) 22))), (10, .int (((tr (V 4) 6) ^^^ (tr (V 4) 11)) ^^^ (tr (V 4) 25))), (0, .ref sh), (1, .int (V 0)), (2, .int (V 1)), (3, .int (V 2)), (4, .int (V 3)), (5, .int (V 4)), (6, .int (V 5)), (7, .int (V 6)), (8, .int (V 7)), (9, .int (nI j))]) hx hb d_SH_mixBlock_117 hl (by decide) rfl (fun ls hl => ?_)
      refine lv_iload hx hb d_SH_mixBlock_119 (lv_at hl 10 rfl) ?_
      refine lv_iload hx hb d_SH_mixBlock_121 (lv_at hl 1 rfl) ?_
      refine lv_iadd hx hb d_SH_mixBlock_123 ?_
      refine lv_iload hx hb d_SH_mixBlock_124 (lv_at hl 7 rfl) ?_
      refine lv_iload hx hb d_SH_mixBlock_126 (lv_at hl 8 rfl) ?_
      refine lv_iand hx hb d_SH_mixBlock_128 ?_
      refine lv_iload hx hb d_SH_mixBlock_129 (lv_at hl 7 rfl) ?_
      refine lv_iconst (v := -1) hx hb d_SH_mixBlock_131 (by decide) ?_
      refine lv_ixor hx hb d_SH_mixBlock_132 ?_
      refine lv_iload hx hb d_SH_mixBlock_133 (lv_at hl 9 rfl) ?_
      refine lv_iand hx hb d_SH_mixBlock_135 ?_
      refine lv_ixor hx hb d_SH_mixBlock_136 ?_
      refine lv_iadd hx hb d_SH_mixBlock_137 ?_
      refine va_getsN hx hb (hzk _ _ _ hz).1 hS S.2.2.2.1 (va_Nw.use rfl (hzk _ _ _ hz).2.2) (fun _ h9 => h9) d_SH_mixBlock_138 ?_
      refine lv_iload hx hb d_SH_mixBlock_141 (lv_at hl 11 rfl) ?_
      refine va_ti hx hb (hzk _ _ _ hz).2.1 hS (vp_in_nI (show j < 64 by omega) (by decide)) (v := .int (kF j)) (by show Value.int (kF (nI j).toNatClampNeg) = _; rw [nI_clamp (by omega)]) d_SH_mixBlock_143 ?_
      refine lv_iadd hx hb d_SH_mixBlock_144 ?_
      refine lv_aload_n hx hb d_SH_mixBlock_145 rfl (lv_at hl 2 rfl) ?_
      refine hp_get S hK hM i_SH f_sh rfl 1 (by decide) mf_SH_15 (fun _ h9 => h9) rfl d_SH_mixBlock_146 ?_
      refine lv_iload hx hb d_SH_mixBlock_149 (lv_at hl 11 rfl) ?_
      refine hp_iald S hK hM 1 f_wo rfl j rfl (by omega) (by omega) d_SH_mixBlock_151 ?_
      refine lv_iadd hx hb d_SH_mixBlock_152 ?_
      refine lv_istore (lv' := [(12, .int (((((V 7) + (((tr (V 4) 6) ^^^ (tr (V 4) 11)) ^^^ (tr (V 4) 25))) + (((V 4) &&& (V 5)) ^^^ (((V 4) ^^^ (-1)) &&& (V 6)))) + (kF j)) + ((Y.2.1) j))), (11, .int (((tr (V 0) 2) ^^^ (tr (V 0) 13)) ^^^ (tr (V 0) 22))), (10, .int (((tr (V 4) 6) ^^^ (tr (V 4) 11)) ^^^ (tr (V 4) 25))), (0, .ref sh), (1, .int (V 0)), (2, .int (V 1)), (3, .int (V 2)), (4, .int (V 3)), (5, .int (V 4)), (6, .int (V 5)), (7, .int (V 6)), (8, .int (V 7)), (9, .int (nI j))]) hx hb d_SH_mixBlock_153 hl (by decide) rfl (fun ls hl => ?_)
      refine lv_iload hx hb d_SH_mixBlock_155 (lv_at hl 1 rfl) ?_
      refine lv_iload_n hx hb d_SH_mixBlock_157 rfl (lv_at hl 4 rfl) ?_
      refine lv_iload_n hx hb d_SH_mixBlock_158 rfl (lv_at hl 5 rfl) ?_
      refine lv_iand hx hb d_SH_mixBlock_159 ?_
      refine lv_iload_n hx hb d_SH_mixBlock_160 rfl (lv_at hl 4 rfl) ?_
      refine lv_iload_n hx hb d_SH_mixBlock_161 rfl (lv_at hl 6 rfl) ?_
      refine lv_iand hx hb d_SH_mixBlock_162 ?_
      refine lv_ixor hx hb d_SH_mixBlock_163 ?_
      refine lv_iload_n hx hb d_SH_mixBlock_164 rfl (lv_at hl 5 rfl) ?_
      refine lv_iload_n hx hb d_SH_mixBlock_165 rfl (lv_at hl 6 rfl) ?_
      refine lv_iand hx hb d_SH_mixBlock_166 ?_
      refine lv_ixor hx hb d_SH_mixBlock_167 ?_
      refine lv_iadd hx hb d_SH_mixBlock_168 ?_
      refine lv_istore (lv' := [(13, .int ((((tr (V 0) 2) ^^^ (tr (V 0) 13)) ^^^ (tr (V 0) 22)) + ((((V 0) &&& (V 1)) ^^^ ((V 0) &&& (V 2))) ^^^ ((V 1) &&& (V 2))))), (12, .int (((((V 7) + (((tr (V 4) 6) ^^^ (tr (V 4) 11)) ^^^ (tr (V 4) 25))) + (((V 4) &&& (V 5)) ^^^ (((V 4) ^^^ (-1)) &&& (V 6)))) + (kF j)) + ((Y.2.1) j))), (11, .int (((tr (V 0) 2) ^^^ (tr (V 0) 13)) ^^^ (tr (V 0) 22))), (10, .int (((tr (V 4) 6) ^^^ (tr (V 4) 11)) ^^^ (tr (V 4) 25))), (0, .ref sh), (1, .int (V 0)), (2, .int (V 1)), (3, .int (V 2)), (4, .int (V 3)), (5, .int (V 4)), (6, .int (V 5)), (7, .int (V 6)), (8, .int (V 7)), (9, .int (nI j))]) hx hb d_SH_mixBlock_169 hl (by decide) rfl (fun ls hl => ?_)
      refine lv_iload hx hb d_SH_mixBlock_171 (lv_at hl 11 rfl) ?_
      refine lv_istore (lv' := [(8, .int (V 6)), (13, .int ((((tr (V 0) 2) ^^^ (tr (V 0) 13)) ^^^ (tr (V 0) 22)) + ((((V 0) &&& (V 1)) ^^^ ((V 0) &&& (V 2))) ^^^ ((V 1) &&& (V 2))))), (12, .int (((((V 7) + (((tr (V 4) 6) ^^^ (tr (V 4) 11)) ^^^ (tr (V 4) 25))) + (((V 4) &&& (V 5)) ^^^ (((V 4) ^^^ (-1)) &&& (V 6)))) + (kF j)) + ((Y.2.1) j))), (11, .int (((tr (V 0) 2) ^^^ (tr (V 0) 13)) ^^^ (tr (V 0) 22))), (10, .int (((tr (V 4) 6) ^^^ (tr (V 4) 11)) ^^^ (tr (V 4) 25))), (0, .ref sh), (1, .int (V 0)), (2, .int (V 1)), (3, .int (V 2)), (4, .int (V 3)), (5, .int (V 4)), (6, .int (V 5)), (7, .int (V 6)), (9, .int (nI j))]) hx hb d_SH_mixBlock_173 hl (by decide) rfl (fun ls hl => ?_)
      refine lv_iload hx hb d_SH_mixBlock_175 (lv_at hl 11 rfl) ?_
      refine lv_istore (lv' := [(7, .int (V 5)), (8, .int (V 6)), (13, .int ((((tr (V 0) 2) ^^^ (tr (V 0) 13)) ^^^ (tr (V 0) 22)) + ((((V 0) &&& (V 1)) ^^^ ((V 0) &&& (V 2))) ^^^ ((V 1) &&& (V 2))))), (12, .int (((((V 7) + (((tr (V 4) 6) ^^^ (tr (V 4) 11)) ^^^ (tr (V 4) 25))) + (((V 4) &&& (V 5)) ^^^ (((V 4) ^^^ (-1)) &&& (V 6)))) + (kF j)) + ((Y.2.1) j))), (11, .int (((tr (V 0) 2) ^^^ (tr (V 0) 13)) ^^^ (tr (V 0) 22))), (10, .int (((tr (V 4) 6) ^^^ (tr (V 4) 11)) ^^^ (tr (V 4) 25))), (0, .ref sh), (1, .int (V 0)), (2, .int (V 1)), (3, .int (V 2)), (4, .int (V 3)), (5, .int (V 4)), (6, .int (V 5)), (9, .int (nI j))]) hx hb d_SH_mixBlock_177 hl (by decide) rfl (fun ls hl => ?_)
      refine lv_iload hx hb d_SH_mixBlock_179 (lv_at hl 11 rfl) ?_
      refine lv_istore (lv' := [(6, .int (V 4)), (7, .int (V 5)), (8, .int (V 6)), (13, .int ((((tr (V 0) 2) ^^^ (tr (V 0) 13)) ^^^ (tr (V 0) 22)) + ((((V 0) &&& (V 1)) ^^^ ((V 0) &&& (V 2))) ^^^ ((V 1) &&& (V 2))))), (12, .int (((((V 7) + (((tr (V 4) 6) ^^^ (tr (V 4) 11)) ^^^ (tr (V 4) 25))) + (((V 4) &&& (V 5)) ^^^ (((V 4) ^^^ (-1)) &&& (V 6)))) + (kF j)) + ((Y.2.1) j))), (11, .int (((tr (V 0) 2) ^^^ (tr (V 0) 13)) ^^^ (tr (V 0) 22))), (10, .int (((tr (V 4) 6) ^^^ (tr (V 4) 11)) ^^^ (tr (V 4) 25))), (0, .ref sh), (1, .int (V 0)), (2, .int (V 1)), (3, .int (V 2)), (4, .int (V 3)), (5, .int (V 4)), (9, .int (nI j))]) hx hb d_SH_mixBlock_181 hl (by decide) rfl (fun ls hl => ?_)
      refine lv_iload hx hb d_SH_mixBlock_183 (lv_at hl 11 rfl) ?_
      refine lv_iload hx hb d_SH_mixBlock_185 (lv_at hl 4 rfl) ?_
      refine lv_iadd hx hb d_SH_mixBlock_187 ?_
      refine lv_istore (lv' := [(5, .int ((V 3) + (((((V 7) + (((tr (V 4) 6) ^^^ (tr (V 4) 11)) ^^^ (tr (V 4) 25))) + (((V 4) &&& (V 5)) ^^^ (((V 4) ^^^ (-1)) &&& (V 6)))) + (kF j)) + ((Y.2.1) j)))), (6, .int (V 4)), (7, .int (V 5)), (8, .int (V 6)), (13, .int ((((tr (V 0) 2) ^^^ (tr (V 0) 13)) ^^^ (tr (V 0) 22)) + ((((V 0) &&& (V 1)) ^^^ ((V 0) &&& (V 2))) ^^^ ((V 1) &&& (V 2))))), (12, .int (((((V 7) + (((tr (V 4) 6) ^^^ (tr (V 4) 11)) ^^^ (tr (V 4) 25))) + (((V 4) &&& (V 5)) ^^^ (((V 4) ^^^ (-1)) &&& (V 6)))) + (kF j)) + ((Y.2.1) j))), (11, .int (((tr (V 0) 2) ^^^ (tr (V 0) 13)) ^^^ (tr (V 0) 22))), (10, .int (((tr (V 4) 6) ^^^ (tr (V 4) 11)) ^^^ (tr (V 4) 25))), (0, .ref sh), (1, .int (V 0)), (2, .int (V 1)), (3, .int (V 2)), (4, .int (V 3)), (9, .int (nI j))]) hx hb d_SH_mixBlock_188 hl (by decide) rfl (fun ls hl => ?_)
      refine lv_iload_n hx hb d_SH_mixBlock_190 rfl (lv_at hl 11 rfl) ?_
      refine lv_istore (lv' := [(4, .int (V 2)), (5, .int ((V 3) + (((((V 7) + (((tr (V 4) 6) ^^^ (tr (V 4) 11)) ^^^ (tr (V 4) 25))) + (((V 4) &&& (V 5)) ^^^ (((V 4) ^^^ (-1)) &&& (V 6)))) + (kF j)) + ((Y.2.1) j)))), (6, .int (V 4)), (7, .int (V 5)), (8, .int (V 6)), (13, .int ((((tr (V 0) 2) ^^^ (tr (V 0) 13)) ^^^ (tr (V 0) 22)) + ((((V 0) &&& (V 1)) ^^^ ((V 0) &&& (V 2))) ^^^ ((V 1) &&& (V 2))))), (12, .int (((((V 7) + (((tr (V 4) 6) ^^^ (tr (V 4) 11)) ^^^ (tr (V 4) 25))) + (((V 4) &&& (V 5)) ^^^ (((V 4) ^^^ (-1)) &&& (V 6)))) + (kF j)) + ((Y.2.1) j))), (11, .int (((tr (V 0) 2) ^^^ (tr (V 0) 13)) ^^^ (tr (V 0) 22))), (10, .int (((tr (V 4) 6) ^^^ (tr (V 4) 11)) ^^^ (tr (V 4) 25))), (0, .ref sh), (1, .int (V 0)), (2, .int (V 1)), (3, .int (V 2)), (9, .int (nI j))]) hx hb d_SH_mixBlock_191 hl (by decide) rfl (fun ls hl => ?_)
      refine lv_iload_n hx hb d_SH_mixBlock_193 rfl (lv_at hl 11 rfl) ?_
      refine lv_istore_n (lv' := [(3, .int (V 1)), (4, .int (V 2)), (5, .int ((V 3) + (((((V 7) + (((tr (V 4) 6) ^^^ (tr (V 4) 11)) ^^^ (tr (V 4) 25))) + (((V 4) &&& (V 5)) ^^^ (((V 4) ^^^ (-1)) &&& (V 6)))) + (kF j)) + ((Y.2.1) j)))), (6, .int (V 4)), (7, .int (V 5)), (8, .int (V 6)), (13, .int ((((tr (V 0) 2) ^^^ (tr (V 0) 13)) ^^^ (tr (V 0) 22)) + ((((V 0) &&& (V 1)) ^^^ ((V 0) &&& (V 2))) ^^^ ((V 1) &&& (V 2))))), (12, .int (((((V 7) + (((tr (V 4) 6) ^^^ (tr (V 4) 11)) ^^^ (tr (V 4) 25))) + (((V 4) &&& (V 5)) ^^^ (((V 4) ^^^ (-1)) &&& (V 6)))) + (kF j)) + ((Y.2.1) j))), (11, .int (((tr (V 0) 2) ^^^ (tr (V 0) 13)) ^^^ (tr (V 0) 22))), (10, .int (((tr (V 4) 6) ^^^ (tr (V 4) 11)) ^^^ (tr (V 4) 25))), (0, .ref sh), (1, .int (V 0)), (2, .int (V 1)), (9, .int (nI j))]) hx hb d_SH_mixBlock_194 rfl hl (by decide) rfl (fun ls hl => ?_)
      refine lv_iload_n hx hb d_SH_mixBlock_195 rfl (lv_at hl 11 rfl) ?_
      refine lv_istore_n (lv' := [(2, .int (V 0)), (3, .int (V 1)), (4, .int (V 2)), (5, .int ((V 3) + (((((V 7) + (((tr (V 4) 6) ^^^ (tr (V 4) 11)) ^^^ (tr (V 4) 25))) + (((V 4) &&& (V 5)) ^^^ (((V 4) ^^^ (-1)) &&& (V 6)))) + (kF j)) + ((Y.2.1) j)))), (6, .int (V 4)), (7, .int (V 5)), (8, .int (V 6)), (13, .int ((((tr (V 0) 2) ^^^ (tr (V 0) 13)) ^^^ (tr (V 0) 22)) + ((((V 0) &&& (V 1)) ^^^ ((V 0) &&& (V 2))) ^^^ ((V 1) &&& (V 2))))), (12, .int (((((V 7) + (((tr (V 4) 6) ^^^ (tr (V 4) 11)) ^^^ (tr (V 4) 25))) + (((V 4) &&& (V 5)) ^^^ (((V 4) ^^^ (-1)) &&& (V 6)))) + (kF j)) + ((Y.2.1) j))), (11, .int (((tr (V 0) 2) ^^^ (tr (V 0) 13)) ^^^ (tr (V 0) 22))), (10, .int (((tr (V 4) 6) ^^^ (tr (V 4) 11)) ^^^ (tr (V 4) 25))), (0, .ref sh), (1, .int (V 0)), (9, .int (nI j))]) hx hb d_SH_mixBlock_196 rfl hl (by decide) rfl (fun ls hl => ?_)
      refine lv_iload hx hb d_SH_mixBlock_197 (lv_at hl 8 rfl) ?_
      refine lv_iload hx hb d_SH_mixBlock_199 (lv_at hl 7 rfl) ?_
      refine lv_iadd hx hb d_SH_mixBlock_201 ?_
      refine lv_istore_n (lv' := [(1, .int ((((((V 7) + (((tr (V 4) 6) ^^^ (tr (V 4) 11)) ^^^ (tr (V 4) 25))) + (((V 4) &&& (V 5)) ^^^ (((V 4) ^^^ (-1)) &&& (V 6)))) + (kF j)) + ((Y.2.1) j)) + ((((tr (V 0) 2) ^^^ (tr (V 0) 13)) ^^^ (tr (V 0) 22)) + ((((V 0) &&& (V 1)) ^^^ ((V 0) &&& (V 2))) ^^^ ((V 1) &&& (V 2)))))), (2, .int (V 0)), (3, .int (V 1)), (4, .int (V 2)), (5, .int ((V 3) + (((((V 7) + (((tr (V 4) 6) ^^^ (tr (V 4) 11)) ^^^ (tr (V 4) 25))) + (((V 4) &&& (V 5)) ^^^ (((V 4) ^^^ (-1)) &&& (V 6)))) + (kF j)) + ((Y.2.1) j)))), (6, .int (V 4)), (7, .int (V 5)), (8, .int (V 6)), (13, .int ((((tr (V 0) 2) ^^^ (tr (V 0) 13)) ^^^ (tr (V 0) 22)) + ((((V 0) &&& (V 1)) ^^^ ((V 0) &&& (V 2))) ^^^ ((V 1) &&& (V 2))))), (12, .int (((((V 7) + (((tr (V 4) 6) ^^^ (tr (V 4) 11)) ^^^ (tr (V 4) 25))) + (((V 4) &&& (V 5)) ^^^ (((V 4) ^^^ (-1)) &&& (V 6)))) + (kF j)) + ((Y.2.1) j))), (11, .int (((tr (V 0) 2) ^^^ (tr (V 0) 13)) ^^^ (tr (V 0) 22))), (10, .int (((tr (V 4) 6) ^^^ (tr (V 4) 11)) ^^^ (tr (V 4) 25))), (0, .ref sh), (9, .int (nI j))]) hx hb d_SH_mixBlock_202 rfl hl (by decide) rfl (fun ls hl => ?_)
      refine lv_iinc (v := nI (j + 1)) (lv' := [(9, .int (nI (j + 1))), (1, .int ((((((V 7) + (((tr (V 4) 6) ^^^ (tr (V 4) 11)) ^^^ (tr (V 4) 25))) + (((V 4) &&& (V 5)) ^^^ (((V 4) ^^^ (-1)) &&& (V 6)))) + (kF j)) + ((Y.2.1) j)) + ((((tr (V 0) 2) ^^^ (tr (V 0) 13)) ^^^ (tr (V 0) 22)) + ((((V 0) &&& (V 1)) ^^^ ((V 0) &&& (V 2))) ^^^ ((V 1) &&& (V 2)))))), (2, .int (V 0)), (3, .int (V 1)), (4, .int (V 2)), (5, .int ((V 3) + (((((V 7) + (((tr (V 4) 6) ^^^ (tr (V 4) 11)) ^^^ (tr (V 4) 25))) + (((V 4) &&& (V 5)) ^^^ (((V 4) ^^^ (-1)) &&& (V 6)))) + (kF j)) + ((Y.2.1) j)))), (6, .int (V 4)), (7, .int (V 5)), (8, .int (V 6)), (13, .int ((((tr (V 0) 2) ^^^ (tr (V 0) 13)) ^^^ (tr (V 0) 22)) + ((((V 0) &&& (V 1)) ^^^ ((V 0) &&& (V 2))) ^^^ ((V 1) &&& (V 2))))), (12, .int (((((V 7) + (((tr (V 4) 6) ^^^ (tr (V 4) 11)) ^^^ (tr (V 4) 25))) + (((V 4) &&& (V 5)) ^^^ (((V 4) ^^^ (-1)) &&& (V 6)))) + (kF j)) + ((Y.2.1) j))), (11, .int (((tr (V 0) 2) ^^^ (tr (V 0) 13)) ^^^ (tr (V 0) 22))), (10, .int (((tr (V 4) 6) ^^^ (tr (V 4) 11)) ^^^ (tr (V 4) 25))), (0, .ref sh)]) hx hb d_SH_mixBlock_203 hl (k := 13) rfl (nI_add j 1) (by decide) rfl (fun ls hl => ?_)
      refine lv_goto (tgt := 66) hx hb d_SH_mixBlock_206 (by decide) ?_
      exact ih (ls := ls) (hl := lv_sub hl [13, 1, 2, 3, 4, 5, 6, 7, 8, 0] rfl) (j := j + 1) (hn := by omega) (V := rnd (kF j) (Y.2.1 j) V) (hV := by rw [hV]; rfl) (H := H) (locs := locs) (hM := hM) (hS := hS)
set_option maxHeartbeats 4000000 in
set_option maxRecDepth 100000 in
/-- the sums at first -/
theorem c_SH_begin (l : Launch) (D : va_G) (ct : Nat → ClassId) (Z : hp_Z) (hZ : hp_Zok Z) (M : hp_M) (sz : Nat) (th : Nat) (hzh : zH Z th) (sh su wo : Nat) (Y : ShT) (hsh : shOk ct M sh su wo Y) : Mv l y_SH_begin b_SH_begin 2 none 0 0 0 0 [.ref sh] D ct Z M sz (fun M1 => M1 = shM ct M sh su wo (hF, Y.2.1, 0, 0)) := by
  refine hp_start (by decide) (Nat.le_of_ble_eq_true rfl) (fun p e s m below meth c ls S hret hlk hnm hsz hK hM hS hA hz hl => ?_)
  have hx := S.1
  have hb := S.2.1
  have hl : lv_has ls 2 [(0, .ref sh)] := hl
  obtain ⟨f_su, f_wo, f_sh, hfl⟩ := id hsh
  have f0_su := f_su
  refine lv_iconst (v := nI 0) hx hb d_SH_begin_0 rfl ?_
  refine lv_istore_n (lv' := [(1, .int (nI 0)), (0, .ref sh)]) hx hb d_SH_begin_1 rfl hl (by decide) rfl (fun ls hl => ?_)
  replace hl : lv_has ls 2 [(0, .ref sh), (1, .int (nI 0))] := lv_sub hl [1, 0] rfl
  obtain ⟨j, e9j⟩ : ∃ z : Nat, z = 0 := ⟨_, rfl⟩
  obtain ⟨sv, e9sv⟩ : ∃ z : Nat → Int32, z = Y.1 := ⟨_, rfl⟩
  replace hl : lv_has ls 2 [(0, .ref sh), (1, .int (nI j))] := by subst e9j e9sv; exact hl
  obtain ⟨H, e9H⟩ : ∃ z : Heap, z = s.heap := ⟨_, rfl⟩
  replace hM : hp_H D ccl (hp_A M sz) M H := by rw [e9H]; exact hM
  replace hS : va_S (hp_A M sz) s.heap H [] := by rw [e9H]; exact hS
  rw [← e9H]
  clear e9H
  obtain ⟨locs, e9L⟩ : ∃ z : List Loc, z = [] := ⟨_, rfl⟩
  replace hS : va_S (hp_A M sz) s.heap H locs := by rw [e9L]; exact hS
  rw [← e9L]
  clear e9L
  obtain ⟨N1, e9N1⟩ : ∃ z : hp_M, z = M := ⟨_, rfl⟩
  replace hM : hp_H D ccl (hp_A M sz) N1 H := by rw [e9N1]; exact hM
  replace f_su : N1 su = some (.inl (ct 1, 8, .inl (Y.1))) := by rw [e9N1]; exact f_su
  replace f_wo : N1 wo = some (.inl (ct 1, 64, .inl (Y.2.1))) := by rw [e9N1]; exact f_wo
  replace f_sh : N1 sh = some (.inr (2, [.ref su, .ref wo, .int (nI Y.2.2.1), .long Y.2.2.2])) := by rw [e9N1]; exact f_sh
  replace f_su : N1 su = some (.inl (ct 1, 8, .inl sv)) := by subst e9j e9sv; exact f_su
  have hN : N1 = hp_up M su (.inl (ct 1, 8, .inl sv)) := by subst e9j e9sv; rw [hp_same f0_su]; exact e9N1
  have hsv : ∀ i, i < j → sv i = hF i := by subst e9j e9sv; intro i hi; omega
  obtain ⟨fu, hn⟩ : ∃ fu : Nat, j + fu = 8 := ⟨8 - j, by omega⟩
  clear e9j e9sv e9N1
  induction fu generalizing j sv H locs N1 ls with
  | zero =>
    have hn : j = 8 := by omega
    replace hM := hM.cong f_su (g := hF) (fun i hi => hsv i (by omega))
    rw [hN, hp_uu, shM_su hsh] at hM
    obtain ⟨f_su, f_wo, f_sh, -⟩ := shM_ok hsh (X := (hF, Y.2.1, Y.2.2.1, Y.2.2.2)) hfl
    have hsh1 := shM_ok hsh (X := (hF, Y.2.1, Y.2.2.1, Y.2.2.2)) hfl
    refine lv_iload_n hx hb d_SH_begin_2 rfl (lv_at hl 1 rfl) ?_
    refine lv_bipush (v := nI 8) hx hb d_SH_begin_3 rfl ?_
    refine nb_ge (tgt := 25) hx hb d_SH_begin_5 (by decide) (by omega) (by omega) (fun h2 => ?_) (fun h2 => ?_)
    · refine lv_aload_n hx hb d_SH_begin_25 rfl (lv_at hl 0 rfl) ?_
      refine lv_iconst (v := nI 0) hx hb d_SH_begin_26 rfl ?_
      refine hp_put (ty := .int) (fs' := [.ref su, .ref wo, .int (nI 0), .long Y.2.2.2]) S hK hM hS i_SH t_SH to_SH n_SH f_sh rfl 2 (by decide) mf_SH_18 (fun _ h9 => h9) rfl (by decide +kernel) rfl rfl (by simp) rfl d_SH_begin_27 (fun H locs hM hS => ?_)
      have f_su := hp_k (e := (.inr (2, [.ref su, .ref wo, .int (nI 0), .long Y.2.2.2]))) (hp_ne f_su f_sh (by simp)) f_su
      have f_wo := hp_k (e := (.inr (2, [.ref su, .ref wo, .int (nI 0), .long Y.2.2.2]))) (hp_ne f_wo f_sh (by simp)) f_wo
      have f_sh : hp_up (shM ct M sh su wo (hF, Y.2.1, Y.2.2.1, Y.2.2.2)) sh (.inr (2, [.ref su, .ref wo, .int (nI 0), .long Y.2.2.2])) sh = some (.inr (2, [.ref su, .ref wo, .int (nI 0), .long Y.2.2.2])) := hp_us
      obtain ⟨M3, eM3⟩ : ∃ z, z = hp_up (shM ct M sh su wo (hF, Y.2.1, Y.2.2.1, Y.2.2.2)) sh (.inr (2, [.ref su, .ref wo, .int (nI 0), .long Y.2.2.2])) := ⟨_, rfl⟩
      rw [← eM3] at hM f_su f_wo f_sh
      refine lv_aload_n hx hb d_SH_begin_30 rfl (lv_at hl 0 rfl) ?_
      refine lv_lconst (v := 0) hx hb d_SH_begin_31 (by decide) ?_
      refine hp_put (ty := .long) (fs' := [.ref su, .ref wo, .int (nI 0), .long 0]) S hK hM hS i_SH t_SH to_SH n_SH f_sh rfl 3 (by decide) mf_SH_22 (fun _ h9 => h9) rfl (by decide +kernel) rfl rfl (by simp) rfl d_SH_begin_32 (fun H locs hM hS => ?_)
      have f_su := hp_k (e := (.inr (2, [.ref su, .ref wo, .int (nI 0), .long 0]))) (hp_ne f_su f_sh (by simp)) f_su
      have f_wo := hp_k (e := (.inr (2, [.ref su, .ref wo, .int (nI 0), .long 0]))) (hp_ne f_wo f_sh (by simp)) f_wo
      have f_sh : hp_up M3 sh (.inr (2, [.ref su, .ref wo, .int (nI 0), .long 0])) sh = some (.inr (2, [.ref su, .ref wo, .int (nI 0), .long 0])) := hp_us
      obtain ⟨M4, eM4⟩ : ∃ z, z = hp_up M3 sh (.inr (2, [.ref su, .ref wo, .int (nI 0), .long 0])) := ⟨_, rfl⟩
      rw [← eM4] at hM f_su f_wo f_sh
      exact hp_vret S hret hlk hM hS (by rw [eM4, eM3, hp_uu, shM_sh hsh1, shM_uu]) d_SH_begin_35
    · exact absurd hn (by omega)
  | succ fu ih =>
    refine lv_iload_n hx hb d_SH_begin_2 rfl (lv_at hl 1 rfl) ?_
    refine lv_bipush (v := nI 8) hx hb d_SH_begin_3 rfl ?_
    refine nb_ge (tgt := 25) hx hb d_SH_begin_5 (by decide) (by omega) (by omega) (fun h5 => ?_) (fun h5 => ?_)
    · exact absurd hn (by omega)
    · refine lv_aload_n hx hb d_SH_begin_8 rfl (lv_at hl 0 rfl) ?_
      refine hp_get S hK hM i_SH f_sh rfl 0 (by decide) mf_SH_9 (fun _ h9 => h9) rfl d_SH_begin_9 ?_
      refine lv_iload_n hx hb d_SH_begin_12 rfl (lv_at hl 1 rfl) ?_
      refine va_getsN hx hb (hzh _ _ _ hz).1 hS S.2.2.2.1 (va_Nw.use rfl (hzh _ _ _ hz).2.2) (fun _ h9 => h9) d_SH_begin_13 ?_
      refine lv_iload_n hx hb d_SH_begin_16 rfl (lv_at hl 1 rfl) ?_
      refine va_ti hx hb (hzh _ _ _ hz).2.1 hS (vp_in_nI (show j < 8 by omega) (by decide)) (v := .int (hF j)) (by show Value.int (hF (nI j).toNatClampNeg) = _; rw [nI_clamp (by omega)]) d_SH_begin_17 ?_
      refine hp_iast S hK hM hS 1 f_su rfl j rfl (by omega) (by omega) d_SH_begin_18 (fun H locs hM hS => ?_)
      have f_wo := hp_k (e := (.inl (ct 1, 8, .inl (upd sv j (hF j))))) (hp_ne f_wo f_su (by simp)) f_wo
      have f_sh := hp_k (e := (.inl (ct 1, 8, .inl (upd sv j (hF j))))) (hp_ne f_sh f_su (by simp)) f_sh
      have f_su : hp_up N1 su (.inl (ct 1, 8, .inl (upd sv j (hF j)))) su = some (.inl (ct 1, 8, .inl (upd sv j (hF j)))) := hp_us
      obtain ⟨M6, eM6⟩ : ∃ z, z = hp_up N1 su (.inl (ct 1, 8, .inl (upd sv j (hF j)))) := ⟨_, rfl⟩
      rw [← eM6] at hM f_su f_wo f_sh
      refine lv_iinc (v := nI (j + 1)) (lv' := [(1, .int (nI (j + 1))), (0, .ref sh)]) hx hb d_SH_begin_19 hl (k := 1) rfl (nI_add j 1) (by decide) rfl (fun ls hl => ?_)
      refine lv_goto (tgt := 2) hx hb d_SH_begin_22 (by decide) ?_
      exact ih (ls := ls) (hl := lv_sub hl [1, 0] rfl) (j := j + 1) (hn := by omega) (sv := upd sv j (hF j)) (hN := by rw [eM6, hN, hp_uu]) (hsv := lt_s (fun i hi => by rw [pk_un (Nat.ne_of_lt hi)]; exact hsv i hi) pk_us) (H := H) (locs := locs) (hM := hM) (hS := hS) (N1 := M6) (f_su := f_su) (f_wo := f_wo) (f_sh := f_sh)
