/-! decode rows (printed): the law -/
theorem dL_draw_0 : decode cL_draw 0 = .ok (.iload_n 1, 1) := by decide +kernel
theorem dL_draw_1 : decode cL_draw 1 = .ok (.aload_n 0, 1) := by decide +kernel
theorem dL_draw_2 : decode cL_draw 2 = .ok (.arraylength, 1) := by decide +kernel
theorem dL_draw_3 : decode cL_draw 3 = .ok (.if_icmp .ge 12, 3) := by decide +kernel
theorem dL_draw_6 : decode cL_draw 6 = .ok (.aload_n 0, 1) := by decide +kernel
theorem dL_draw_7 : decode cL_draw 7 = .ok (.iload_n 1, 1) := by decide +kernel
theorem dL_draw_8 : decode cL_draw 8 = .ok (.iaload, 1) := by decide +kernel
theorem dL_draw_9 : decode cL_draw 9 = .ok (.ldc 7, 2) := by decide +kernel
theorem dL_draw_11 : decode cL_draw 11 = .ok (.iand, 1) := by decide +kernel
theorem dL_draw_12 : decode cL_draw 12 = .ok (.goto 12, 3) := by decide +kernel
theorem dL_draw_15 : decode cL_draw 15 = .ok (.ldc 8, 2) := by decide +kernel
theorem dL_draw_17 : decode cL_draw 17 = .ok (.iload_n 1, 1) := by decide +kernel
theorem dL_draw_18 : decode cL_draw 18 = .ok (.iconst 2, 1) := by decide +kernel
theorem dL_draw_19 : decode cL_draw 19 = .ok (.iadd, 1) := by decide +kernel
theorem dL_draw_20 : decode cL_draw 20 = .ok (.imul, 1) := by decide +kernel
theorem dL_draw_21 : decode cL_draw 21 = .ok (.ldc 9, 2) := by decide +kernel
theorem dL_draw_23 : decode cL_draw 23 = .ok (.irem, 1) := by decide +kernel
theorem dL_draw_24 : decode cL_draw 24 = .ok (.ireturn, 1) := by decide +kernel
theorem dL_step_0 : decode cL_step 0 = .ok (.aload_n 1, 1) := by decide +kernel
theorem dL_step_1 : decode cL_step 1 = .ok (.iconst 1, 1) := by decide +kernel
theorem dL_step_2 : decode cL_step 2 = .ok (.iaload, 1) := by decide +kernel
theorem dL_step_3 : decode cL_step 3 = .ok (.ifCond .ne 7, 3) := by decide +kernel
theorem dL_step_6 : decode cL_step 6 = .ok (.iconst 0, 1) := by decide +kernel
theorem dL_step_7 : decode cL_step 7 = .ok (.goto 9, 3) := by decide +kernel
theorem dL_step_10 : decode cL_step 10 = .ok (.iload 4, 2) := by decide +kernel
theorem dL_step_12 : decode cL_step 12 = .ok (.aload_n 1, 1) := by decide +kernel
theorem dL_step_13 : decode cL_step 13 = .ok (.iconst 1, 1) := by decide +kernel
theorem dL_step_14 : decode cL_step 14 = .ok (.iaload, 1) := by decide +kernel
theorem dL_step_15 : decode cL_step 15 = .ok (.irem, 1) := by decide +kernel
theorem dL_step_16 : decode cL_step 16 = .ok (.istore 6, 2) := by decide +kernel
theorem dL_step_18 : decode cL_step 18 = .ok (.iload 5, 2) := by decide +kernel
theorem dL_step_20 : decode cL_step 20 = .ok (.iconst 3, 1) := by decide +kernel
theorem dL_step_21 : decode cL_step 21 = .ok (.irem, 1) := by decide +kernel
theorem dL_step_22 : decode cL_step 22 = .ok (.istore 7, 2) := by decide +kernel
theorem dL_step_24 : decode cL_step 24 = .ok (.iload_n 3, 1) := by decide +kernel
theorem dL_step_25 : decode cL_step 25 = .ok (.bipush 14, 2) := by decide +kernel
theorem dL_step_27 : decode cL_step 27 = .ok (.irem, 1) := by decide +kernel
theorem dL_step_28 : decode cL_step 28 = .ok (.tableswitch 520 0 9 #[56, 56, 174, 174, 174, 174, 239, 355, 421, 421], 56) := by decide +kernel
theorem dL_step_84 : decode cL_step 84 = .ok (.aload_n 1, 1) := by decide +kernel
theorem dL_step_85 : decode cL_step 85 = .ok (.iconst 1, 1) := by decide +kernel
theorem dL_step_86 : decode cL_step 86 = .ok (.iaload, 1) := by decide +kernel
theorem dL_step_87 : decode cL_step 87 = .ok (.bipush 12, 2) := by decide +kernel
theorem dL_step_89 : decode cL_step 89 = .ok (.if_icmp .ne 19, 3) := by decide +kernel
theorem dL_step_92 : decode cL_step 92 = .ok (.aload_n 0, 1) := by decide +kernel
theorem dL_step_93 : decode cL_step 93 = .ok (.invokevirtual 10, 3) := by decide +kernel
theorem dL_step_96 : decode cL_step 96 = .ok (.aload_n 1, 1) := by decide +kernel
theorem dL_step_97 : decode cL_step 97 = .ok (.iconst 0, 1) := by decide +kernel
theorem dL_step_98 : decode cL_step 98 = .ok (.iaload, 1) := by decide +kernel
theorem dL_step_99 : decode cL_step 99 = .ok (.if_icmp .ne 7, 3) := by decide +kernel
theorem dL_step_102 : decode cL_step 102 = .ok (.iconst 1, 1) := by decide +kernel
theorem dL_step_103 : decode cL_step 103 = .ok (.goto 4, 3) := by decide +kernel
theorem dL_step_106 : decode cL_step 106 = .ok (.iconst 0, 1) := by decide +kernel
theorem dL_step_107 : decode cL_step 107 = .ok (.ireturn, 1) := by decide +kernel
theorem dL_step_108 : decode cL_step 108 = .ok (.aload_n 1, 1) := by decide +kernel
theorem dL_step_109 : decode cL_step 109 = .ok (.iconst 3, 1) := by decide +kernel
theorem dL_step_110 : decode cL_step 110 = .ok (.aload_n 1, 1) := by decide +kernel
theorem dL_step_111 : decode cL_step 111 = .ok (.iconst 1, 1) := by decide +kernel
theorem dL_step_112 : decode cL_step 112 = .ok (.iaload, 1) := by decide +kernel
theorem dL_step_113 : decode cL_step 113 = .ok (.iadd, 1) := by decide +kernel
theorem dL_step_114 : decode cL_step 114 = .ok (.iload 7, 2) := by decide +kernel
theorem dL_step_116 : decode cL_step 116 = .ok (.iastore, 1) := by decide +kernel
theorem dL_step_117 : decode cL_step 117 = .ok (.aload_n 1, 1) := by decide +kernel
theorem dL_step_118 : decode cL_step 118 = .ok (.iconst 1, 1) := by decide +kernel
theorem dL_step_119 : decode cL_step 119 = .ok (.dup2, 1) := by decide +kernel
theorem dL_step_120 : decode cL_step 120 = .ok (.iaload, 1) := by decide +kernel
theorem dL_step_121 : decode cL_step 121 = .ok (.iconst 1, 1) := by decide +kernel
theorem dL_step_122 : decode cL_step 122 = .ok (.iadd, 1) := by decide +kernel
theorem dL_step_123 : decode cL_step 123 = .ok (.iastore, 1) := by decide +kernel
theorem dL_step_124 : decode cL_step 124 = .ok (.aload_n 0, 1) := by decide +kernel
theorem dL_step_125 : decode cL_step 125 = .ok (.iload 7, 2) := by decide +kernel
theorem dL_step_127 : decode cL_step 127 = .ok (.invokevirtual 16, 3) := by decide +kernel
theorem dL_step_130 : decode cL_step 130 = .ok (.aload_n 1, 1) := by decide +kernel
theorem dL_step_131 : decode cL_step 131 = .ok (.iconst 1, 1) := by decide +kernel
theorem dL_step_132 : decode cL_step 132 = .ok (.iaload, 1) := by decide +kernel
theorem dL_step_133 : decode cL_step 133 = .ok (.iconst 1, 1) := by decide +kernel
theorem dL_step_134 : decode cL_step 134 = .ok (.isub, 1) := by decide +kernel
theorem dL_step_135 : decode cL_step 135 = .ok (.if_icmp .ne 65, 3) := by decide +kernel
theorem dL_step_138 : decode cL_step 138 = .ok (.aload_n 0, 1) := by decide +kernel
theorem dL_step_139 : decode cL_step 139 = .ok (.aload_n 1, 1) := by decide +kernel
theorem dL_step_140 : decode cL_step 140 = .ok (.iconst 1, 1) := by decide +kernel
theorem dL_step_141 : decode cL_step 141 = .ok (.iaload, 1) := by decide +kernel
theorem dL_step_142 : decode cL_step 142 = .ok (.iconst 1, 1) := by decide +kernel
theorem dL_step_143 : decode cL_step 143 = .ok (.isub, 1) := by decide +kernel
theorem dL_step_144 : decode cL_step 144 = .ok (.invokevirtual 20, 3) := by decide +kernel
theorem dL_step_147 : decode cL_step 147 = .ok (.aload_n 0, 1) := by decide +kernel
theorem dL_step_148 : decode cL_step 148 = .ok (.iload 7, 2) := by decide +kernel
theorem dL_step_150 : decode cL_step 150 = .ok (.invokevirtual 23, 3) := by decide +kernel
theorem dL_step_153 : decode cL_step 153 = .ok (.if_icmp .ne 47, 3) := by decide +kernel
theorem dL_step_156 : decode cL_step 156 = .ok (.aload_n 0, 1) := by decide +kernel
theorem dL_step_157 : decode cL_step 157 = .ok (.aload_n 1, 1) := by decide +kernel
theorem dL_step_158 : decode cL_step 158 = .ok (.iconst 1, 1) := by decide +kernel
theorem dL_step_159 : decode cL_step 159 = .ok (.iaload, 1) := by decide +kernel
theorem dL_step_160 : decode cL_step 160 = .ok (.iconst 1, 1) := by decide +kernel
theorem dL_step_161 : decode cL_step 161 = .ok (.isub, 1) := by decide +kernel
theorem dL_step_162 : decode cL_step 162 = .ok (.invokevirtual 26, 3) := by decide +kernel
theorem dL_step_165 : decode cL_step 165 = .ok (.sipush 1000, 3) := by decide +kernel
theorem dL_step_168 : decode cL_step 168 = .ok (.if_icmp .ne 32, 3) := by decide +kernel
theorem dL_step_171 : decode cL_step 171 = .ok (.aload_n 0, 1) := by decide +kernel
theorem dL_step_172 : decode cL_step 172 = .ok (.aload_n 1, 1) := by decide +kernel
theorem dL_step_173 : decode cL_step 173 = .ok (.iconst 1, 1) := by decide +kernel
theorem dL_step_174 : decode cL_step 174 = .ok (.iaload, 1) := by decide +kernel
theorem dL_step_175 : decode cL_step 175 = .ok (.iconst 1, 1) := by decide +kernel
theorem dL_step_176 : decode cL_step 176 = .ok (.isub, 1) := by decide +kernel
theorem dL_step_177 : decode cL_step 177 = .ok (.invokevirtual 29, 3) := by decide +kernel
theorem dL_step_180 : decode cL_step 180 = .ok (.ifCond .ne 20, 3) := by decide +kernel
theorem dL_step_183 : decode cL_step 183 = .ok (.aload_n 0, 1) := by decide +kernel
theorem dL_step_184 : decode cL_step 184 = .ok (.aload_n 1, 1) := by decide +kernel
theorem dL_step_185 : decode cL_step 185 = .ok (.iconst 1, 1) := by decide +kernel
theorem dL_step_186 : decode cL_step 186 = .ok (.iaload, 1) := by decide +kernel
theorem dL_step_187 : decode cL_step 187 = .ok (.iconst 1, 1) := by decide +kernel
theorem dL_step_188 : decode cL_step 188 = .ok (.isub, 1) := by decide +kernel
theorem dL_step_189 : decode cL_step 189 = .ok (.invokevirtual 32, 3) := by decide +kernel
theorem dL_step_192 : decode cL_step 192 = .ok (.iconst (-1), 1) := by decide +kernel
theorem dL_step_193 : decode cL_step 193 = .ok (.if_icmp .ne 7, 3) := by decide +kernel
theorem dL_step_196 : decode cL_step 196 = .ok (.iconst 1, 1) := by decide +kernel
theorem dL_step_197 : decode cL_step 197 = .ok (.goto 4, 3) := by decide +kernel
theorem dL_step_200 : decode cL_step 200 = .ok (.iconst 0, 1) := by decide +kernel
theorem dL_step_201 : decode cL_step 201 = .ok (.ireturn, 1) := by decide +kernel
theorem dL_step_202 : decode cL_step 202 = .ok (.aload_n 0, 1) := by decide +kernel
theorem dL_step_203 : decode cL_step 203 = .ok (.aload_n 1, 1) := by decide +kernel
theorem dL_step_204 : decode cL_step 204 = .ok (.iload 7, 2) := by decide +kernel
theorem dL_step_206 : decode cL_step 206 = .ok (.iload 4, 2) := by decide +kernel
theorem dL_step_208 : decode cL_step 208 = .ok (.iconst 5, 1) := by decide +kernel
theorem dL_step_209 : decode cL_step 209 = .ok (.irem, 1) := by decide +kernel
theorem dL_step_210 : decode cL_step 210 = .ok (.ifCond .ne 14, 3) := by decide +kernel
theorem dL_step_213 : decode cL_step 213 = .ok (.iload 5, 2) := by decide +kernel
theorem dL_step_215 : decode cL_step 215 = .ok (.iconst 3, 1) := by decide +kernel
theorem dL_step_216 : decode cL_step 216 = .ok (.idiv, 1) := by decide +kernel
theorem dL_step_217 : decode cL_step 217 = .ok (.sipush 10000, 3) := by decide +kernel
theorem dL_step_220 : decode cL_step 220 = .ok (.irem, 1) := by decide +kernel
theorem dL_step_221 : decode cL_step 221 = .ok (.goto 42, 3) := by decide +kernel
theorem dL_step_224 : decode cL_step 224 = .ok (.iload 4, 2) := by decide +kernel
theorem dL_step_226 : decode cL_step 226 = .ok (.iconst 3, 1) := by decide +kernel
theorem dL_step_227 : decode cL_step 227 = .ok (.irem, 1) := by decide +kernel
theorem dL_step_228 : decode cL_step 228 = .ok (.ifCond .ne 17, 3) := by decide +kernel
theorem dL_step_231 : decode cL_step 231 = .ok (.iload 5, 2) := by decide +kernel
theorem dL_step_233 : decode cL_step 233 = .ok (.iconst 3, 1) := by decide +kernel
theorem dL_step_234 : decode cL_step 234 = .ok (.idiv, 1) := by decide +kernel
theorem dL_step_235 : decode cL_step 235 = .ok (.bipush 10, 2) := by decide +kernel
theorem dL_step_237 : decode cL_step 237 = .ok (.irem, 1) := by decide +kernel
theorem dL_step_238 : decode cL_step 238 = .ok (.sipush 1111, 3) := by decide +kernel
theorem dL_step_241 : decode cL_step 241 = .ok (.imul, 1) := by decide +kernel
theorem dL_step_242 : decode cL_step 242 = .ok (.goto 21, 3) := by decide +kernel
theorem dL_step_245 : decode cL_step 245 = .ok (.aload_n 0, 1) := by decide +kernel
theorem dL_step_246 : decode cL_step 246 = .ok (.iload 7, 2) := by decide +kernel
theorem dL_step_248 : decode cL_step 248 = .ok (.invokevirtual 23, 3) := by decide +kernel
theorem dL_step_251 : decode cL_step 251 = .ok (.iload 5, 2) := by decide +kernel
theorem dL_step_253 : decode cL_step 253 = .ok (.iconst 3, 1) := by decide +kernel
theorem dL_step_254 : decode cL_step 254 = .ok (.idiv, 1) := by decide +kernel
theorem dL_step_255 : decode cL_step 255 = .ok (.bipush 40, 2) := by decide +kernel
theorem dL_step_257 : decode cL_step 257 = .ok (.irem, 1) := by decide +kernel
theorem dL_step_258 : decode cL_step 258 = .ok (.iadd, 1) := by decide +kernel
theorem dL_step_259 : decode cL_step 259 = .ok (.sipush 10000, 3) := by decide +kernel
theorem dL_step_262 : decode cL_step 262 = .ok (.irem, 1) := by decide +kernel
theorem dL_step_263 : decode cL_step 263 = .ok (.invokestatic 37, 3) := by decide +kernel
theorem dL_step_266 : decode cL_step 266 = .ok (.ireturn, 1) := by decide +kernel
theorem dL_step_267 : decode cL_step 267 = .ok (.aload_n 1, 1) := by decide +kernel
theorem dL_step_268 : decode cL_step 268 = .ok (.iconst 1, 1) := by decide +kernel
theorem dL_step_269 : decode cL_step 269 = .ok (.iaload, 1) := by decide +kernel
theorem dL_step_270 : decode cL_step 270 = .ok (.ifCond .eq 14, 3) := by decide +kernel
theorem dL_step_273 : decode cL_step 273 = .ok (.aload_n 1, 1) := by decide +kernel
theorem dL_step_274 : decode cL_step 274 = .ok (.iconst 3, 1) := by decide +kernel
theorem dL_step_275 : decode cL_step 275 = .ok (.iload 6, 2) := by decide +kernel
theorem dL_step_277 : decode cL_step 277 = .ok (.iadd, 1) := by decide +kernel
theorem dL_step_278 : decode cL_step 278 = .ok (.iaload, 1) := by decide +kernel
theorem dL_step_279 : decode cL_step 279 = .ok (.iload 7, 2) := by decide +kernel
theorem dL_step_281 : decode cL_step 281 = .ok (.if_icmp .ne 16, 3) := by decide +kernel
theorem dL_step_284 : decode cL_step 284 = .ok (.aload_n 0, 1) := by decide +kernel
theorem dL_step_285 : decode cL_step 285 = .ok (.invokevirtual 41, 3) := by decide +kernel
theorem dL_step_288 : decode cL_step 288 = .ok (.ifCond .lt 7, 3) := by decide +kernel
theorem dL_step_291 : decode cL_step 291 = .ok (.iconst 1, 1) := by decide +kernel
theorem dL_step_292 : decode cL_step 292 = .ok (.goto 4, 3) := by decide +kernel
theorem dL_step_295 : decode cL_step 295 = .ok (.iconst 0, 1) := by decide +kernel
theorem dL_step_296 : decode cL_step 296 = .ok (.ireturn, 1) := by decide +kernel
theorem dL_step_297 : decode cL_step 297 = .ok (.aload_n 1, 1) := by decide +kernel
theorem dL_step_298 : decode cL_step 298 = .ok (.iconst 3, 1) := by decide +kernel
theorem dL_step_299 : decode cL_step 299 = .ok (.iload 6, 2) := by decide +kernel
theorem dL_step_301 : decode cL_step 301 = .ok (.iadd, 1) := by decide +kernel
theorem dL_step_302 : decode cL_step 302 = .ok (.iload 7, 2) := by decide +kernel
theorem dL_step_304 : decode cL_step 304 = .ok (.iastore, 1) := by decide +kernel
theorem dL_step_305 : decode cL_step 305 = .ok (.aload_n 0, 1) := by decide +kernel
theorem dL_step_306 : decode cL_step 306 = .ok (.iload 6, 2) := by decide +kernel
theorem dL_step_308 : decode cL_step 308 = .ok (.invokevirtual 20, 3) := by decide +kernel
theorem dL_step_311 : decode cL_step 311 = .ok (.aload_n 0, 1) := by decide +kernel
theorem dL_step_312 : decode cL_step 312 = .ok (.iload 7, 2) := by decide +kernel
theorem dL_step_314 : decode cL_step 314 = .ok (.invokevirtual 23, 3) := by decide +kernel
theorem dL_step_317 : decode cL_step 317 = .ok (.if_icmp .eq 7, 3) := by decide +kernel
theorem dL_step_320 : decode cL_step 320 = .ok (.iconst 1, 1) := by decide +kernel
theorem dL_step_321 : decode cL_step 321 = .ok (.goto 4, 3) := by decide +kernel
theorem dL_step_324 : decode cL_step 324 = .ok (.iconst 0, 1) := by decide +kernel
theorem dL_step_325 : decode cL_step 325 = .ok (.istore 8, 2) := by decide +kernel
theorem dL_step_327 : decode cL_step 327 = .ok (.aload_n 1, 1) := by decide +kernel
theorem dL_step_328 : decode cL_step 328 = .ok (.iconst 2, 1) := by decide +kernel
theorem dL_step_329 : decode cL_step 329 = .ok (.dup2, 1) := by decide +kernel
theorem dL_step_330 : decode cL_step 330 = .ok (.iaload, 1) := by decide +kernel
theorem dL_step_331 : decode cL_step 331 = .ok (.iload 8, 2) := by decide +kernel
theorem dL_step_333 : decode cL_step 333 = .ok (.ifCond .eq 7, 3) := by decide +kernel
theorem dL_step_336 : decode cL_step 336 = .ok (.iconst 1, 1) := by decide +kernel
theorem dL_step_337 : decode cL_step 337 = .ok (.goto 4, 3) := by decide +kernel
theorem dL_step_340 : decode cL_step 340 = .ok (.iconst 0, 1) := by decide +kernel
theorem dL_step_341 : decode cL_step 341 = .ok (.iadd, 1) := by decide +kernel
theorem dL_step_342 : decode cL_step 342 = .ok (.iastore, 1) := by decide +kernel
theorem dL_step_343 : decode cL_step 343 = .ok (.aload_n 0, 1) := by decide +kernel
theorem dL_step_344 : decode cL_step 344 = .ok (.iload 6, 2) := by decide +kernel
theorem dL_step_346 : decode cL_step 346 = .ok (.iload 7, 2) := by decide +kernel
theorem dL_step_348 : decode cL_step 348 = .ok (.invokevirtual 44, 3) := by decide +kernel
theorem dL_step_351 : decode cL_step 351 = .ok (.iload 8, 2) := by decide +kernel
theorem dL_step_353 : decode cL_step 353 = .ok (.if_icmp .ne 28, 3) := by decide +kernel
theorem dL_step_356 : decode cL_step 356 = .ok (.aload_n 0, 1) := by decide +kernel
theorem dL_step_357 : decode cL_step 357 = .ok (.iload 6, 2) := by decide +kernel
theorem dL_step_359 : decode cL_step 359 = .ok (.invokevirtual 32, 3) := by decide +kernel
theorem dL_step_362 : decode cL_step 362 = .ok (.iload 8, 2) := by decide +kernel
theorem dL_step_364 : decode cL_step 364 = .ok (.ifCond .eq 9, 3) := by decide +kernel
theorem dL_step_367 : decode cL_step 367 = .ok (.aload_n 1, 1) := by decide +kernel
theorem dL_step_368 : decode cL_step 368 = .ok (.iconst 2, 1) := by decide +kernel
theorem dL_step_369 : decode cL_step 369 = .ok (.iaload, 1) := by decide +kernel
theorem dL_step_370 : decode cL_step 370 = .ok (.goto 4, 3) := by decide +kernel
theorem dL_step_373 : decode cL_step 373 = .ok (.iconst (-1), 1) := by decide +kernel
theorem dL_step_374 : decode cL_step 374 = .ok (.if_icmp .ne 7, 3) := by decide +kernel
theorem dL_step_377 : decode cL_step 377 = .ok (.iconst 1, 1) := by decide +kernel
theorem dL_step_378 : decode cL_step 378 = .ok (.goto 4, 3) := by decide +kernel
theorem dL_step_381 : decode cL_step 381 = .ok (.iconst 0, 1) := by decide +kernel
theorem dL_step_382 : decode cL_step 382 = .ok (.ireturn, 1) := by decide +kernel
theorem dL_step_383 : decode cL_step 383 = .ok (.aload_n 1, 1) := by decide +kernel
theorem dL_step_384 : decode cL_step 384 = .ok (.iconst 1, 1) := by decide +kernel
theorem dL_step_385 : decode cL_step 385 = .ok (.iaload, 1) := by decide +kernel
theorem dL_step_386 : decode cL_step 386 = .ok (.ifCond .eq 10, 3) := by decide +kernel
theorem dL_step_389 : decode cL_step 389 = .ok (.iload 5, 2) := by decide +kernel
theorem dL_step_391 : decode cL_step 391 = .ok (.iconst 4, 1) := by decide +kernel
theorem dL_step_392 : decode cL_step 392 = .ok (.irem, 1) := by decide +kernel
theorem dL_step_393 : decode cL_step 393 = .ok (.ifCond .le 19, 3) := by decide +kernel
theorem dL_step_396 : decode cL_step 396 = .ok (.aload_n 0, 1) := by decide +kernel
theorem dL_step_397 : decode cL_step 397 = .ok (.invokevirtual 10, 3) := by decide +kernel
theorem dL_step_400 : decode cL_step 400 = .ok (.aload_n 1, 1) := by decide +kernel
theorem dL_step_401 : decode cL_step 401 = .ok (.iconst 0, 1) := by decide +kernel
theorem dL_step_402 : decode cL_step 402 = .ok (.iaload, 1) := by decide +kernel
theorem dL_step_403 : decode cL_step 403 = .ok (.if_icmp .ne 7, 3) := by decide +kernel
theorem dL_step_406 : decode cL_step 406 = .ok (.iconst 1, 1) := by decide +kernel
theorem dL_step_407 : decode cL_step 407 = .ok (.goto 4, 3) := by decide +kernel
theorem dL_step_410 : decode cL_step 410 = .ok (.iconst 0, 1) := by decide +kernel
theorem dL_step_411 : decode cL_step 411 = .ok (.ireturn, 1) := by decide +kernel
theorem dL_step_412 : decode cL_step 412 = .ok (.aload_n 0, 1) := by decide +kernel
theorem dL_step_413 : decode cL_step 413 = .ok (.iload 6, 2) := by decide +kernel
theorem dL_step_415 : decode cL_step 415 = .ok (.invokevirtual 26, 3) := by decide +kernel
theorem dL_step_418 : decode cL_step 418 = .ok (.istore 9, 2) := by decide +kernel
theorem dL_step_420 : decode cL_step 420 = .ok (.aload_n 0, 1) := by decide +kernel
theorem dL_step_421 : decode cL_step 421 = .ok (.iload 6, 2) := by decide +kernel
theorem dL_step_423 : decode cL_step 423 = .ok (.invokevirtual 48, 3) := by decide +kernel
theorem dL_step_426 : decode cL_step 426 = .ok (.iload 9, 2) := by decide +kernel
theorem dL_step_428 : decode cL_step 428 = .ok (.if_icmp .ne 19, 3) := by decide +kernel
theorem dL_step_431 : decode cL_step 431 = .ok (.aload_n 0, 1) := by decide +kernel
theorem dL_step_432 : decode cL_step 432 = .ok (.iload 6, 2) := by decide +kernel
theorem dL_step_434 : decode cL_step 434 = .ok (.invokevirtual 26, 3) := by decide +kernel
theorem dL_step_437 : decode cL_step 437 = .ok (.sipush 1000, 3) := by decide +kernel
theorem dL_step_440 : decode cL_step 440 = .ok (.if_icmp .ne 7, 3) := by decide +kernel
theorem dL_step_443 : decode cL_step 443 = .ok (.iconst 1, 1) := by decide +kernel
theorem dL_step_444 : decode cL_step 444 = .ok (.goto 4, 3) := by decide +kernel
theorem dL_step_447 : decode cL_step 447 = .ok (.iconst 0, 1) := by decide +kernel
theorem dL_step_448 : decode cL_step 448 = .ok (.ireturn, 1) := by decide +kernel
theorem dL_step_449 : decode cL_step 449 = .ok (.aload_n 1, 1) := by decide +kernel
theorem dL_step_450 : decode cL_step 450 = .ok (.iconst 1, 1) := by decide +kernel
theorem dL_step_451 : decode cL_step 451 = .ok (.iaload, 1) := by decide +kernel
theorem dL_step_452 : decode cL_step 452 = .ok (.ifCond .ne 17, 3) := by decide +kernel
theorem dL_step_455 : decode cL_step 455 = .ok (.aload_n 0, 1) := by decide +kernel
theorem dL_step_456 : decode cL_step 456 = .ok (.invokevirtual 51, 3) := by decide +kernel
theorem dL_step_459 : decode cL_step 459 = .ok (.iconst (-1), 1) := by decide +kernel
theorem dL_step_460 : decode cL_step 460 = .ok (.if_icmp .ne 7, 3) := by decide +kernel
theorem dL_step_463 : decode cL_step 463 = .ok (.iconst 1, 1) := by decide +kernel
theorem dL_step_464 : decode cL_step 464 = .ok (.goto 4, 3) := by decide +kernel
theorem dL_step_467 : decode cL_step 467 = .ok (.iconst 0, 1) := by decide +kernel
theorem dL_step_468 : decode cL_step 468 = .ok (.ireturn, 1) := by decide +kernel
theorem dL_step_469 : decode cL_step 469 = .ok (.iload 5, 2) := by decide +kernel
theorem dL_step_471 : decode cL_step 471 = .ok (.bipush 21, 2) := by decide +kernel
theorem dL_step_473 : decode cL_step 473 = .ok (.irem, 1) := by decide +kernel
theorem dL_step_474 : decode cL_step 474 = .ok (.istore 10, 2) := by decide +kernel
theorem dL_step_476 : decode cL_step 476 = .ok (.iload 4, 2) := by decide +kernel
theorem dL_step_478 : decode cL_step 478 = .ok (.bipush 12, 2) := by decide +kernel
theorem dL_step_480 : decode cL_step 480 = .ok (.idiv, 1) := by decide +kernel
theorem dL_step_481 : decode cL_step 481 = .ok (.iconst 2, 1) := by decide +kernel
theorem dL_step_482 : decode cL_step 482 = .ok (.irem, 1) := by decide +kernel
theorem dL_step_483 : decode cL_step 483 = .ok (.ifCond .ne 14, 3) := by decide +kernel
theorem dL_step_486 : decode cL_step 486 = .ok (.aload_n 0, 1) := by decide +kernel
theorem dL_step_487 : decode cL_step 487 = .ok (.iload 6, 2) := by decide +kernel
theorem dL_step_489 : decode cL_step 489 = .ok (.iload 10, 2) := by decide +kernel
theorem dL_step_491 : decode cL_step 491 = .ok (.invokevirtual 54, 3) := by decide +kernel
theorem dL_step_494 : decode cL_step 494 = .ok (.goto 11, 3) := by decide +kernel
theorem dL_step_497 : decode cL_step 497 = .ok (.aload_n 0, 1) := by decide +kernel
theorem dL_step_498 : decode cL_step 498 = .ok (.iload 6, 2) := by decide +kernel
theorem dL_step_500 : decode cL_step 500 = .ok (.iload 10, 2) := by decide +kernel
theorem dL_step_502 : decode cL_step 502 = .ok (.invokevirtual 58, 3) := by decide +kernel
theorem dL_step_505 : decode cL_step 505 = .ok (.ifCond .lt 41, 3) := by decide +kernel
theorem dL_step_508 : decode cL_step 508 = .ok (.iload 4, 2) := by decide +kernel
theorem dL_step_510 : decode cL_step 510 = .ok (.bipush 12, 2) := by decide +kernel
theorem dL_step_512 : decode cL_step 512 = .ok (.idiv, 1) := by decide +kernel
theorem dL_step_513 : decode cL_step 513 = .ok (.iconst 2, 1) := by decide +kernel
theorem dL_step_514 : decode cL_step 514 = .ok (.irem, 1) := by decide +kernel
theorem dL_step_515 : decode cL_step 515 = .ok (.ifCond .ne 14, 3) := by decide +kernel
theorem dL_step_518 : decode cL_step 518 = .ok (.aload_n 0, 1) := by decide +kernel
theorem dL_step_519 : decode cL_step 519 = .ok (.iload 6, 2) := by decide +kernel
theorem dL_step_521 : decode cL_step 521 = .ok (.iload 10, 2) := by decide +kernel
theorem dL_step_523 : decode cL_step 523 = .ok (.invokevirtual 54, 3) := by decide +kernel
theorem dL_step_526 : decode cL_step 526 = .ok (.goto 11, 3) := by decide +kernel
theorem dL_step_529 : decode cL_step 529 = .ok (.aload_n 0, 1) := by decide +kernel
theorem dL_step_530 : decode cL_step 530 = .ok (.iload 6, 2) := by decide +kernel
theorem dL_step_532 : decode cL_step 532 = .ok (.iload 10, 2) := by decide +kernel
theorem dL_step_534 : decode cL_step 534 = .ok (.invokevirtual 58, 3) := by decide +kernel
theorem dL_step_537 : decode cL_step 537 = .ok (.iload 10, 2) := by decide +kernel
theorem dL_step_539 : decode cL_step 539 = .ok (.if_icmp .ne 7, 3) := by decide +kernel
theorem dL_step_542 : decode cL_step 542 = .ok (.iconst 1, 1) := by decide +kernel
theorem dL_step_543 : decode cL_step 543 = .ok (.goto 4, 3) := by decide +kernel
theorem dL_step_546 : decode cL_step 546 = .ok (.iconst 0, 1) := by decide +kernel
theorem dL_step_547 : decode cL_step 547 = .ok (.ireturn, 1) := by decide +kernel
theorem dL_step_548 : decode cL_step 548 = .ok (.iconst 1, 1) := by decide +kernel
theorem dL_step_549 : decode cL_step 549 = .ok (.istore 11, 2) := by decide +kernel
theorem dL_step_551 : decode cL_step 551 = .ok (.iconst 0, 1) := by decide +kernel
theorem dL_step_552 : decode cL_step 552 = .ok (.istore 12, 2) := by decide +kernel
theorem dL_step_554 : decode cL_step 554 = .ok (.iload 12, 2) := by decide +kernel
theorem dL_step_556 : decode cL_step 556 = .ok (.iconst 1, 1) := by decide +kernel
theorem dL_step_557 : decode cL_step 557 = .ok (.iload 5, 2) := by decide +kernel
theorem dL_step_559 : decode cL_step 559 = .ok (.iload 4, 2) := by decide +kernel
theorem dL_step_561 : decode cL_step 561 = .ok (.iconst 4, 1) := by decide +kernel
theorem dL_step_562 : decode cL_step 562 = .ok (.irem, 1) := by decide +kernel
theorem dL_step_563 : decode cL_step 563 = .ok (.ifCond .ne 8, 3) := by decide +kernel
theorem dL_step_566 : decode cL_step 566 = .ok (.bipush 25, 2) := by decide +kernel
theorem dL_step_568 : decode cL_step 568 = .ok (.goto 5, 3) := by decide +kernel
theorem dL_step_571 : decode cL_step 571 = .ok (.bipush 6, 2) := by decide +kernel
theorem dL_step_573 : decode cL_step 573 = .ok (.irem, 1) := by decide +kernel
theorem dL_step_574 : decode cL_step 574 = .ok (.iadd, 1) := by decide +kernel
theorem dL_step_575 : decode cL_step 575 = .ok (.if_icmp .ge 22, 3) := by decide +kernel
theorem dL_step_578 : decode cL_step 578 = .ok (.iload 11, 2) := by decide +kernel
theorem dL_step_580 : decode cL_step 580 = .ok (.ifCond .eq 17, 3) := by decide +kernel
theorem dL_step_583 : decode cL_step 583 = .ok (.aload_n 0, 1) := by decide +kernel
theorem dL_step_584 : decode cL_step 584 = .ok (.aload_n 1, 1) := by decide +kernel
theorem dL_step_585 : decode cL_step 585 = .ok (.aload_n 2, 1) := by decide +kernel
theorem dL_step_586 : decode cL_step 586 = .ok (.invokestatic 61, 3) := by decide +kernel
theorem dL_step_589 : decode cL_step 589 = .ok (.istore 11, 2) := by decide +kernel
theorem dL_step_591 : decode cL_step 591 = .ok (.iinc 12 1, 3) := by decide +kernel
theorem dL_step_594 : decode cL_step 594 = .ok (.goto (-40), 3) := by decide +kernel
theorem dL_step_597 : decode cL_step 597 = .ok (.iload 11, 2) := by decide +kernel
theorem dL_step_599 : decode cL_step 599 = .ok (.ireturn, 1) := by decide +kernel
theorem dL_prices_0 : decode cL_prices 0 = .ok (.aload_n 0, 1) := by decide +kernel
theorem dL_prices_1 : decode cL_prices 1 = .ok (.iload_n 2, 1) := by decide +kernel
theorem dL_prices_2 : decode cL_prices 2 = .ok (.invokevirtual 23, 3) := by decide +kernel
theorem dL_prices_5 : decode cL_prices 5 = .ok (.iload_n 3, 1) := by decide +kernel
theorem dL_prices_6 : decode cL_prices 6 = .ok (.if_icmp .ne 7, 3) := by decide +kernel
theorem dL_prices_9 : decode cL_prices 9 = .ok (.iconst 1, 1) := by decide +kernel
theorem dL_prices_10 : decode cL_prices 10 = .ok (.goto 4, 3) := by decide +kernel
theorem dL_prices_13 : decode cL_prices 13 = .ok (.iconst 0, 1) := by decide +kernel
theorem dL_prices_14 : decode cL_prices 14 = .ok (.istore 4, 2) := by decide +kernel
theorem dL_prices_16 : decode cL_prices 16 = .ok (.iconst 0, 1) := by decide +kernel
theorem dL_prices_17 : decode cL_prices 17 = .ok (.istore 5, 2) := by decide +kernel
theorem dL_prices_19 : decode cL_prices 19 = .ok (.iconst 0, 1) := by decide +kernel
theorem dL_prices_20 : decode cL_prices 20 = .ok (.istore 6, 2) := by decide +kernel
theorem dL_prices_22 : decode cL_prices 22 = .ok (.iload 6, 2) := by decide +kernel
theorem dL_prices_24 : decode cL_prices 24 = .ok (.aload_n 1, 1) := by decide +kernel
theorem dL_prices_25 : decode cL_prices 25 = .ok (.iconst 1, 1) := by decide +kernel
theorem dL_prices_26 : decode cL_prices 26 = .ok (.iaload, 1) := by decide +kernel
theorem dL_prices_27 : decode cL_prices 27 = .ok (.if_icmp .ge 34, 3) := by decide +kernel
theorem dL_prices_30 : decode cL_prices 30 = .ok (.iload 5, 2) := by decide +kernel
theorem dL_prices_32 : decode cL_prices 32 = .ok (.aload_n 1, 1) := by decide +kernel
theorem dL_prices_33 : decode cL_prices 33 = .ok (.iconst 3, 1) := by decide +kernel
theorem dL_prices_34 : decode cL_prices 34 = .ok (.iload 6, 2) := by decide +kernel
theorem dL_prices_36 : decode cL_prices 36 = .ok (.iadd, 1) := by decide +kernel
theorem dL_prices_37 : decode cL_prices 37 = .ok (.iaload, 1) := by decide +kernel
theorem dL_prices_38 : decode cL_prices 38 = .ok (.iload_n 2, 1) := by decide +kernel
theorem dL_prices_39 : decode cL_prices 39 = .ok (.if_icmp .ne 12, 3) := by decide +kernel
theorem dL_prices_42 : decode cL_prices 42 = .ok (.iload 4, 2) := by decide +kernel
theorem dL_prices_44 : decode cL_prices 44 = .ok (.ifCond .ne 7, 3) := by decide +kernel
theorem dL_prices_47 : decode cL_prices 47 = .ok (.iconst 1, 1) := by decide +kernel
theorem dL_prices_48 : decode cL_prices 48 = .ok (.goto 4, 3) := by decide +kernel
theorem dL_prices_51 : decode cL_prices 51 = .ok (.iconst 0, 1) := by decide +kernel
theorem dL_prices_52 : decode cL_prices 52 = .ok (.iadd, 1) := by decide +kernel
theorem dL_prices_53 : decode cL_prices 53 = .ok (.istore 5, 2) := by decide +kernel
theorem dL_prices_55 : decode cL_prices 55 = .ok (.iinc 6 1, 3) := by decide +kernel
theorem dL_prices_58 : decode cL_prices 58 = .ok (.goto (-36), 3) := by decide +kernel
theorem dL_prices_61 : decode cL_prices 61 = .ok (.aload_n 0, 1) := by decide +kernel
theorem dL_prices_62 : decode cL_prices 62 = .ok (.iload_n 2, 1) := by decide +kernel
theorem dL_prices_63 : decode cL_prices 63 = .ok (.iload_n 3, 1) := by decide +kernel
theorem dL_prices_64 : decode cL_prices 64 = .ok (.invokevirtual 65, 3) := by decide +kernel
theorem dL_prices_67 : decode cL_prices 67 = .ok (.iload 5, 2) := by decide +kernel
theorem dL_prices_69 : decode cL_prices 69 = .ok (.if_icmp .ne 16, 3) := by decide +kernel
theorem dL_prices_72 : decode cL_prices 72 = .ok (.aload_n 0, 1) := by decide +kernel
theorem dL_prices_73 : decode cL_prices 73 = .ok (.iload_n 2, 1) := by decide +kernel
theorem dL_prices_74 : decode cL_prices 74 = .ok (.invokevirtual 23, 3) := by decide +kernel
theorem dL_prices_77 : decode cL_prices 77 = .ok (.iload_n 3, 1) := by decide +kernel
theorem dL_prices_78 : decode cL_prices 78 = .ok (.if_icmp .ne 7, 3) := by decide +kernel
theorem dL_prices_81 : decode cL_prices 81 = .ok (.iconst 1, 1) := by decide +kernel
theorem dL_prices_82 : decode cL_prices 82 = .ok (.goto 4, 3) := by decide +kernel
theorem dL_prices_85 : decode cL_prices 85 = .ok (.iconst 0, 1) := by decide +kernel
theorem dL_prices_86 : decode cL_prices 86 = .ok (.istore 6, 2) := by decide +kernel
theorem dL_prices_88 : decode cL_prices 88 = .ok (.iconst 0, 1) := by decide +kernel
theorem dL_prices_89 : decode cL_prices 89 = .ok (.istore 7, 2) := by decide +kernel
theorem dL_prices_91 : decode cL_prices 91 = .ok (.iload 7, 2) := by decide +kernel
theorem dL_prices_93 : decode cL_prices 93 = .ok (.aload_n 1, 1) := by decide +kernel
theorem dL_prices_94 : decode cL_prices 94 = .ok (.iconst 1, 1) := by decide +kernel
theorem dL_prices_95 : decode cL_prices 95 = .ok (.iaload, 1) := by decide +kernel
theorem dL_prices_96 : decode cL_prices 96 = .ok (.if_icmp .ge 55, 3) := by decide +kernel
theorem dL_prices_99 : decode cL_prices 99 = .ok (.aload_n 1, 1) := by decide +kernel
theorem dL_prices_100 : decode cL_prices 100 = .ok (.iconst 3, 1) := by decide +kernel
theorem dL_prices_101 : decode cL_prices 101 = .ok (.iload 7, 2) := by decide +kernel
theorem dL_prices_103 : decode cL_prices 103 = .ok (.iadd, 1) := by decide +kernel
theorem dL_prices_104 : decode cL_prices 104 = .ok (.iaload, 1) := by decide +kernel
theorem dL_prices_105 : decode cL_prices 105 = .ok (.iload_n 2, 1) := by decide +kernel
theorem dL_prices_106 : decode cL_prices 106 = .ok (.if_icmp .ne 39, 3) := by decide +kernel
theorem dL_prices_109 : decode cL_prices 109 = .ok (.iload 4, 2) := by decide +kernel
theorem dL_prices_111 : decode cL_prices 111 = .ok (.ifCond .ne 34, 3) := by decide +kernel
theorem dL_prices_114 : decode cL_prices 114 = .ok (.aload_n 1, 1) := by decide +kernel
theorem dL_prices_115 : decode cL_prices 115 = .ok (.iconst 2, 1) := by decide +kernel
theorem dL_prices_116 : decode cL_prices 116 = .ok (.dup2, 1) := by decide +kernel
theorem dL_prices_117 : decode cL_prices 117 = .ok (.iaload, 1) := by decide +kernel
theorem dL_prices_118 : decode cL_prices 118 = .ok (.iconst 1, 1) := by decide +kernel
theorem dL_prices_119 : decode cL_prices 119 = .ok (.iadd, 1) := by decide +kernel
theorem dL_prices_120 : decode cL_prices 120 = .ok (.iastore, 1) := by decide +kernel
theorem dL_prices_121 : decode cL_prices 121 = .ok (.iload 6, 2) := by decide +kernel
theorem dL_prices_123 : decode cL_prices 123 = .ok (.ifCond .eq 19, 3) := by decide +kernel
theorem dL_prices_126 : decode cL_prices 126 = .ok (.aload_n 0, 1) := by decide +kernel
theorem dL_prices_127 : decode cL_prices 127 = .ok (.iload 7, 2) := by decide +kernel
theorem dL_prices_129 : decode cL_prices 129 = .ok (.invokevirtual 32, 3) := by decide +kernel
theorem dL_prices_132 : decode cL_prices 132 = .ok (.aload_n 1, 1) := by decide +kernel
theorem dL_prices_133 : decode cL_prices 133 = .ok (.iconst 2, 1) := by decide +kernel
theorem dL_prices_134 : decode cL_prices 134 = .ok (.iaload, 1) := by decide +kernel
theorem dL_prices_135 : decode cL_prices 135 = .ok (.if_icmp .ne 7, 3) := by decide +kernel
theorem dL_prices_138 : decode cL_prices 138 = .ok (.iconst 1, 1) := by decide +kernel
theorem dL_prices_139 : decode cL_prices 139 = .ok (.goto 4, 3) := by decide +kernel
theorem dL_prices_142 : decode cL_prices 142 = .ok (.iconst 0, 1) := by decide +kernel
theorem dL_prices_143 : decode cL_prices 143 = .ok (.istore 6, 2) := by decide +kernel
theorem dL_prices_145 : decode cL_prices 145 = .ok (.iinc 7 1, 3) := by decide +kernel
theorem dL_prices_148 : decode cL_prices 148 = .ok (.goto (-57), 3) := by decide +kernel
theorem dL_prices_151 : decode cL_prices 151 = .ok (.iload 6, 2) := by decide +kernel
theorem dL_prices_153 : decode cL_prices 153 = .ok (.ireturn, 1) := by decide +kernel
theorem dL_changed_0 : decode cL_changed 0 = .ok (.iload_n 0, 1) := by decide +kernel
theorem dL_changed_1 : decode cL_changed 1 = .ok (.bipush 10, 2) := by decide +kernel
theorem dL_changed_3 : decode cL_changed 3 = .ok (.irem, 1) := by decide +kernel
theorem dL_changed_4 : decode cL_changed 4 = .ok (.iload_n 1, 1) := by decide +kernel
theorem dL_changed_5 : decode cL_changed 5 = .ok (.bipush 10, 2) := by decide +kernel
theorem dL_changed_7 : decode cL_changed 7 = .ok (.irem, 1) := by decide +kernel
theorem dL_changed_8 : decode cL_changed 8 = .ok (.if_icmp .eq 7, 3) := by decide +kernel
theorem dL_changed_11 : decode cL_changed 11 = .ok (.iconst 1, 1) := by decide +kernel
theorem dL_changed_12 : decode cL_changed 12 = .ok (.goto 4, 3) := by decide +kernel
theorem dL_changed_15 : decode cL_changed 15 = .ok (.iconst 0, 1) := by decide +kernel
theorem dL_changed_16 : decode cL_changed 16 = .ok (.iload_n 0, 1) := by decide +kernel
theorem dL_changed_17 : decode cL_changed 17 = .ok (.bipush 10, 2) := by decide +kernel
theorem dL_changed_19 : decode cL_changed 19 = .ok (.idiv, 1) := by decide +kernel
theorem dL_changed_20 : decode cL_changed 20 = .ok (.bipush 10, 2) := by decide +kernel
theorem dL_changed_22 : decode cL_changed 22 = .ok (.irem, 1) := by decide +kernel
theorem dL_changed_23 : decode cL_changed 23 = .ok (.iload_n 1, 1) := by decide +kernel
theorem dL_changed_24 : decode cL_changed 24 = .ok (.bipush 10, 2) := by decide +kernel
theorem dL_changed_26 : decode cL_changed 26 = .ok (.idiv, 1) := by decide +kernel
theorem dL_changed_27 : decode cL_changed 27 = .ok (.bipush 10, 2) := by decide +kernel
theorem dL_changed_29 : decode cL_changed 29 = .ok (.irem, 1) := by decide +kernel
theorem dL_changed_30 : decode cL_changed 30 = .ok (.if_icmp .eq 7, 3) := by decide +kernel
theorem dL_changed_33 : decode cL_changed 33 = .ok (.iconst 1, 1) := by decide +kernel
theorem dL_changed_34 : decode cL_changed 34 = .ok (.goto 4, 3) := by decide +kernel
theorem dL_changed_37 : decode cL_changed 37 = .ok (.iconst 0, 1) := by decide +kernel
theorem dL_changed_38 : decode cL_changed 38 = .ok (.iadd, 1) := by decide +kernel
theorem dL_changed_39 : decode cL_changed 39 = .ok (.iload_n 0, 1) := by decide +kernel
theorem dL_changed_40 : decode cL_changed 40 = .ok (.bipush 100, 2) := by decide +kernel
theorem dL_changed_42 : decode cL_changed 42 = .ok (.idiv, 1) := by decide +kernel
theorem dL_changed_43 : decode cL_changed 43 = .ok (.bipush 10, 2) := by decide +kernel
theorem dL_changed_45 : decode cL_changed 45 = .ok (.irem, 1) := by decide +kernel
theorem dL_changed_46 : decode cL_changed 46 = .ok (.iload_n 1, 1) := by decide +kernel
theorem dL_changed_47 : decode cL_changed 47 = .ok (.bipush 100, 2) := by decide +kernel
theorem dL_changed_49 : decode cL_changed 49 = .ok (.idiv, 1) := by decide +kernel
theorem dL_changed_50 : decode cL_changed 50 = .ok (.bipush 10, 2) := by decide +kernel
theorem dL_changed_52 : decode cL_changed 52 = .ok (.irem, 1) := by decide +kernel
theorem dL_changed_53 : decode cL_changed 53 = .ok (.if_icmp .eq 7, 3) := by decide +kernel
theorem dL_changed_56 : decode cL_changed 56 = .ok (.iconst 1, 1) := by decide +kernel
theorem dL_changed_57 : decode cL_changed 57 = .ok (.goto 4, 3) := by decide +kernel
theorem dL_changed_60 : decode cL_changed 60 = .ok (.iconst 0, 1) := by decide +kernel
theorem dL_changed_61 : decode cL_changed 61 = .ok (.iadd, 1) := by decide +kernel
theorem dL_changed_62 : decode cL_changed 62 = .ok (.iload_n 0, 1) := by decide +kernel
theorem dL_changed_63 : decode cL_changed 63 = .ok (.sipush 1000, 3) := by decide +kernel
theorem dL_changed_66 : decode cL_changed 66 = .ok (.idiv, 1) := by decide +kernel
theorem dL_changed_67 : decode cL_changed 67 = .ok (.iload_n 1, 1) := by decide +kernel
theorem dL_changed_68 : decode cL_changed 68 = .ok (.sipush 1000, 3) := by decide +kernel
theorem dL_changed_71 : decode cL_changed 71 = .ok (.idiv, 1) := by decide +kernel
theorem dL_changed_72 : decode cL_changed 72 = .ok (.if_icmp .eq 7, 3) := by decide +kernel
theorem dL_changed_75 : decode cL_changed 75 = .ok (.iconst 1, 1) := by decide +kernel
theorem dL_changed_76 : decode cL_changed 76 = .ok (.goto 4, 3) := by decide +kernel
theorem dL_changed_79 : decode cL_changed 79 = .ok (.iconst 0, 1) := by decide +kernel
theorem dL_changed_80 : decode cL_changed 80 = .ok (.iadd, 1) := by decide +kernel
theorem dL_changed_81 : decode cL_changed 81 = .ok (.ireturn, 1) := by decide +kernel
theorem dL_minute_0 : decode cL_minute 0 = .ok (.bipush 12, 2) := by decide +kernel
theorem dL_minute_2 : decode cL_minute 2 = .ok (.newarray .int, 2) := by decide +kernel
theorem dL_minute_4 : decode cL_minute 4 = .ok (.astore_n 3, 1) := by decide +kernel
theorem dL_minute_5 : decode cL_minute 5 = .ok (.bipush 12, 2) := by decide +kernel
theorem dL_minute_7 : decode cL_minute 7 = .ok (.newarray .int, 2) := by decide +kernel
theorem dL_minute_9 : decode cL_minute 9 = .ok (.astore 4, 2) := by decide +kernel
theorem dL_minute_11 : decode cL_minute 11 = .ok (.bipush 12, 2) := by decide +kernel
theorem dL_minute_13 : decode cL_minute 13 = .ok (.newarray .int, 2) := by decide +kernel
theorem dL_minute_15 : decode cL_minute 15 = .ok (.astore 5, 2) := by decide +kernel
theorem dL_minute_17 : decode cL_minute 17 = .ok (.bipush 12, 2) := by decide +kernel
theorem dL_minute_19 : decode cL_minute 19 = .ok (.newarray .int, 2) := by decide +kernel
theorem dL_minute_21 : decode cL_minute 21 = .ok (.astore 6, 2) := by decide +kernel
theorem dL_minute_23 : decode cL_minute 23 = .ok (.iconst 0, 1) := by decide +kernel
theorem dL_minute_24 : decode cL_minute 24 = .ok (.istore 7, 2) := by decide +kernel
theorem dL_minute_26 : decode cL_minute 26 = .ok (.iload 7, 2) := by decide +kernel
theorem dL_minute_28 : decode cL_minute 28 = .ok (.aload_n 1, 1) := by decide +kernel
theorem dL_minute_29 : decode cL_minute 29 = .ok (.iconst 1, 1) := by decide +kernel
theorem dL_minute_30 : decode cL_minute 30 = .ok (.iaload, 1) := by decide +kernel
theorem dL_minute_31 : decode cL_minute 31 = .ok (.if_icmp .ge 52, 3) := by decide +kernel
theorem dL_minute_34 : decode cL_minute 34 = .ok (.aload_n 3, 1) := by decide +kernel
theorem dL_minute_35 : decode cL_minute 35 = .ok (.iload 7, 2) := by decide +kernel
theorem dL_minute_37 : decode cL_minute 37 = .ok (.aload_n 0, 1) := by decide +kernel
theorem dL_minute_38 : decode cL_minute 38 = .ok (.iload 7, 2) := by decide +kernel
theorem dL_minute_40 : decode cL_minute 40 = .ok (.invokevirtual 20, 3) := by decide +kernel
theorem dL_minute_43 : decode cL_minute 43 = .ok (.iastore, 1) := by decide +kernel
theorem dL_minute_44 : decode cL_minute 44 = .ok (.aload 4, 2) := by decide +kernel
theorem dL_minute_46 : decode cL_minute 46 = .ok (.iload 7, 2) := by decide +kernel
theorem dL_minute_48 : decode cL_minute 48 = .ok (.aload_n 0, 1) := by decide +kernel
theorem dL_minute_49 : decode cL_minute 49 = .ok (.iload 7, 2) := by decide +kernel
theorem dL_minute_51 : decode cL_minute 51 = .ok (.invokevirtual 29, 3) := by decide +kernel
theorem dL_minute_54 : decode cL_minute 54 = .ok (.iastore, 1) := by decide +kernel
theorem dL_minute_55 : decode cL_minute 55 = .ok (.aload 5, 2) := by decide +kernel
theorem dL_minute_57 : decode cL_minute 57 = .ok (.iload 7, 2) := by decide +kernel
theorem dL_minute_59 : decode cL_minute 59 = .ok (.aload_n 0, 1) := by decide +kernel
theorem dL_minute_60 : decode cL_minute 60 = .ok (.iload 7, 2) := by decide +kernel
theorem dL_minute_62 : decode cL_minute 62 = .ok (.invokevirtual 26, 3) := by decide +kernel
theorem dL_minute_65 : decode cL_minute 65 = .ok (.iastore, 1) := by decide +kernel
theorem dL_minute_66 : decode cL_minute 66 = .ok (.aload 6, 2) := by decide +kernel
theorem dL_minute_68 : decode cL_minute 68 = .ok (.iload 7, 2) := by decide +kernel
theorem dL_minute_70 : decode cL_minute 70 = .ok (.aload_n 0, 1) := by decide +kernel
theorem dL_minute_71 : decode cL_minute 71 = .ok (.iload 7, 2) := by decide +kernel
theorem dL_minute_73 : decode cL_minute 73 = .ok (.invokevirtual 32, 3) := by decide +kernel
theorem dL_minute_76 : decode cL_minute 76 = .ok (.iastore, 1) := by decide +kernel
theorem dL_minute_77 : decode cL_minute 77 = .ok (.iinc 7 1, 3) := by decide +kernel
theorem dL_minute_80 : decode cL_minute 80 = .ok (.goto (-54), 3) := by decide +kernel
theorem dL_minute_83 : decode cL_minute 83 = .ok (.aload_n 0, 1) := by decide +kernel
theorem dL_minute_84 : decode cL_minute 84 = .ok (.invokevirtual 68, 3) := by decide +kernel
theorem dL_minute_87 : decode cL_minute 87 = .ok (.istore 7, 2) := by decide +kernel
theorem dL_minute_89 : decode cL_minute 89 = .ok (.aload_n 0, 1) := by decide +kernel
theorem dL_minute_90 : decode cL_minute 90 = .ok (.iconst 1, 1) := by decide +kernel
theorem dL_minute_91 : decode cL_minute 91 = .ok (.invokevirtual 71, 3) := by decide +kernel
theorem dL_minute_94 : decode cL_minute 94 = .ok (.istore 8, 2) := by decide +kernel
theorem dL_minute_96 : decode cL_minute 96 = .ok (.iconst 0, 1) := by decide +kernel
theorem dL_minute_97 : decode cL_minute 97 = .ok (.istore 9, 2) := by decide +kernel
theorem dL_minute_99 : decode cL_minute 99 = .ok (.iload 8, 2) := by decide +kernel
theorem dL_minute_101 : decode cL_minute 101 = .ok (.ifCond .lt 41, 3) := by decide +kernel
theorem dL_minute_104 : decode cL_minute 104 = .ok (.iload 8, 2) := by decide +kernel
theorem dL_minute_106 : decode cL_minute 106 = .ok (.iconst 2, 1) := by decide +kernel
theorem dL_minute_107 : decode cL_minute 107 = .ok (.if_icmp .gt 35, 3) := by decide +kernel
theorem dL_minute_110 : decode cL_minute 110 = .ok (.iload 8, 2) := by decide +kernel
theorem dL_minute_112 : decode cL_minute 112 = .ok (.iload 7, 2) := by decide +kernel
theorem dL_minute_114 : decode cL_minute 114 = .ok (.if_icmp .gt 28, 3) := by decide +kernel
theorem dL_minute_117 : decode cL_minute 117 = .ok (.aload_n 0, 1) := by decide +kernel
theorem dL_minute_118 : decode cL_minute 118 = .ok (.invokevirtual 68, 3) := by decide +kernel
theorem dL_minute_121 : decode cL_minute 121 = .ok (.iload 7, 2) := by decide +kernel
theorem dL_minute_123 : decode cL_minute 123 = .ok (.if_icmp .gt 19, 3) := by decide +kernel
theorem dL_minute_126 : decode cL_minute 126 = .ok (.aload_n 0, 1) := by decide +kernel
theorem dL_minute_127 : decode cL_minute 127 = .ok (.invokevirtual 68, 3) := by decide +kernel
theorem dL_minute_130 : decode cL_minute 130 = .ok (.iload 7, 2) := by decide +kernel
theorem dL_minute_132 : decode cL_minute 132 = .ok (.iload 8, 2) := by decide +kernel
theorem dL_minute_134 : decode cL_minute 134 = .ok (.isub, 1) := by decide +kernel
theorem dL_minute_135 : decode cL_minute 135 = .ok (.if_icmp .lt 7, 3) := by decide +kernel
theorem dL_minute_138 : decode cL_minute 138 = .ok (.iconst 1, 1) := by decide +kernel
theorem dL_minute_139 : decode cL_minute 139 = .ok (.goto 4, 3) := by decide +kernel
theorem dL_minute_142 : decode cL_minute 142 = .ok (.iconst 0, 1) := by decide +kernel
theorem dL_minute_143 : decode cL_minute 143 = .ok (.istore 10, 2) := by decide +kernel
theorem dL_minute_145 : decode cL_minute 145 = .ok (.aload_n 1, 1) := by decide +kernel
theorem dL_minute_146 : decode cL_minute 146 = .ok (.iconst 0, 1) := by decide +kernel
theorem dL_minute_147 : decode cL_minute 147 = .ok (.dup2, 1) := by decide +kernel
theorem dL_minute_148 : decode cL_minute 148 = .ok (.iaload, 1) := by decide +kernel
theorem dL_minute_149 : decode cL_minute 149 = .ok (.iconst 1, 1) := by decide +kernel
theorem dL_minute_150 : decode cL_minute 150 = .ok (.iadd, 1) := by decide +kernel
theorem dL_minute_151 : decode cL_minute 151 = .ok (.iastore, 1) := by decide +kernel
theorem dL_minute_152 : decode cL_minute 152 = .ok (.iconst 0, 1) := by decide +kernel
theorem dL_minute_153 : decode cL_minute 153 = .ok (.istore 11, 2) := by decide +kernel
theorem dL_minute_155 : decode cL_minute 155 = .ok (.iload 11, 2) := by decide +kernel
theorem dL_minute_157 : decode cL_minute 157 = .ok (.aload_n 1, 1) := by decide +kernel
theorem dL_minute_158 : decode cL_minute 158 = .ok (.iconst 1, 1) := by decide +kernel
theorem dL_minute_159 : decode cL_minute 159 = .ok (.iaload, 1) := by decide +kernel
theorem dL_minute_160 : decode cL_minute 160 = .ok (.if_icmp .ge 256, 3) := by decide +kernel
theorem dL_minute_163 : decode cL_minute 163 = .ok (.iload 10, 2) := by decide +kernel
theorem dL_minute_165 : decode cL_minute 165 = .ok (.ifCond .eq 251, 3) := by decide +kernel
theorem dL_minute_168 : decode cL_minute 168 = .ok (.aload_n 0, 1) := by decide +kernel
theorem dL_minute_169 : decode cL_minute 169 = .ok (.iload 11, 2) := by decide +kernel
theorem dL_minute_171 : decode cL_minute 171 = .ok (.invokevirtual 20, 3) := by decide +kernel
theorem dL_minute_174 : decode cL_minute 174 = .ok (.istore 12, 2) := by decide +kernel
theorem dL_minute_176 : decode cL_minute 176 = .ok (.aload_n 3, 1) := by decide +kernel
theorem dL_minute_177 : decode cL_minute 177 = .ok (.iload 11, 2) := by decide +kernel
theorem dL_minute_179 : decode cL_minute 179 = .ok (.iaload, 1) := by decide +kernel
theorem dL_minute_180 : decode cL_minute 180 = .ok (.iload 12, 2) := by decide +kernel
theorem dL_minute_182 : decode cL_minute 182 = .ok (.invokestatic 74, 3) := by decide +kernel
theorem dL_minute_185 : decode cL_minute 185 = .ok (.istore 13, 2) := by decide +kernel
theorem dL_minute_187 : decode cL_minute 187 = .ok (.aload 4, 2) := by decide +kernel
theorem dL_minute_189 : decode cL_minute 189 = .ok (.iload 11, 2) := by decide +kernel
theorem dL_minute_191 : decode cL_minute 191 = .ok (.iaload, 1) := by decide +kernel
theorem dL_minute_192 : decode cL_minute 192 = .ok (.iload 13, 2) := by decide +kernel
theorem dL_minute_194 : decode cL_minute 194 = .ok (.iadd, 1) := by decide +kernel
theorem dL_minute_195 : decode cL_minute 195 = .ok (.bipush 9, 2) := by decide +kernel
theorem dL_minute_197 : decode cL_minute 197 = .ok (.if_icmp .le 7, 3) := by decide +kernel
theorem dL_minute_200 : decode cL_minute 200 = .ok (.iconst 1, 1) := by decide +kernel
theorem dL_minute_201 : decode cL_minute 201 = .ok (.goto 4, 3) := by decide +kernel
theorem dL_minute_204 : decode cL_minute 204 = .ok (.iconst 0, 1) := by decide +kernel
theorem dL_minute_205 : decode cL_minute 205 = .ok (.istore 14, 2) := by decide +kernel
theorem dL_minute_207 : decode cL_minute 207 = .ok (.iload 13, 2) := by decide +kernel
theorem dL_minute_209 : decode cL_minute 209 = .ok (.ifCond .ne 7, 3) := by decide +kernel
theorem dL_minute_212 : decode cL_minute 212 = .ok (.iconst 0, 1) := by decide +kernel
theorem dL_minute_213 : decode cL_minute 213 = .ok (.goto 15, 3) := by decide +kernel
theorem dL_minute_216 : decode cL_minute 216 = .ok (.iload 14, 2) := by decide +kernel
theorem dL_minute_218 : decode cL_minute 218 = .ok (.ifCond .eq 8, 3) := by decide +kernel
theorem dL_minute_221 : decode cL_minute 221 = .ok (.bipush 20, 2) := by decide +kernel
theorem dL_minute_223 : decode cL_minute 223 = .ok (.goto 5, 3) := by decide +kernel
theorem dL_minute_226 : decode cL_minute 226 = .ok (.bipush 10, 2) := by decide +kernel
theorem dL_minute_228 : decode cL_minute 228 = .ok (.istore 15, 2) := by decide +kernel
theorem dL_minute_230 : decode cL_minute 230 = .ok (.aload 5, 2) := by decide +kernel
theorem dL_minute_232 : decode cL_minute 232 = .ok (.iload 11, 2) := by decide +kernel
theorem dL_minute_234 : decode cL_minute 234 = .ok (.iaload, 1) := by decide +kernel
theorem dL_minute_235 : decode cL_minute 235 = .ok (.iload 15, 2) := by decide +kernel
theorem dL_minute_237 : decode cL_minute 237 = .ok (.isub, 1) := by decide +kernel
theorem dL_minute_238 : decode cL_minute 238 = .ok (.istore 16, 2) := by decide +kernel
theorem dL_minute_240 : decode cL_minute 240 = .ok (.iload 9, 2) := by decide +kernel
theorem dL_minute_242 : decode cL_minute 242 = .ok (.iload 13, 2) := by decide +kernel
theorem dL_minute_244 : decode cL_minute 244 = .ok (.ifCond .gt 17, 3) := by decide +kernel
theorem dL_minute_247 : decode cL_minute 247 = .ok (.aload_n 0, 1) := by decide +kernel
theorem dL_minute_248 : decode cL_minute 248 = .ok (.iload 11, 2) := by decide +kernel
theorem dL_minute_250 : decode cL_minute 250 = .ok (.invokevirtual 32, 3) := by decide +kernel
theorem dL_minute_253 : decode cL_minute 253 = .ok (.aload 6, 2) := by decide +kernel
theorem dL_minute_255 : decode cL_minute 255 = .ok (.iload 11, 2) := by decide +kernel
theorem dL_minute_257 : decode cL_minute 257 = .ok (.iaload, 1) := by decide +kernel
theorem dL_minute_258 : decode cL_minute 258 = .ok (.if_icmp .eq 7, 3) := by decide +kernel
theorem dL_minute_261 : decode cL_minute 261 = .ok (.iconst 1, 1) := by decide +kernel
theorem dL_minute_262 : decode cL_minute 262 = .ok (.goto 4, 3) := by decide +kernel
theorem dL_minute_265 : decode cL_minute 265 = .ok (.iconst 0, 1) := by decide +kernel
theorem dL_minute_266 : decode cL_minute 266 = .ok (.iadd, 1) := by decide +kernel
theorem dL_minute_267 : decode cL_minute 267 = .ok (.istore 9, 2) := by decide +kernel
theorem dL_minute_269 : decode cL_minute 269 = .ok (.iload 13, 2) := by decide +kernel
theorem dL_minute_271 : decode cL_minute 271 = .ok (.ifCond .eq 37, 3) := by decide +kernel
theorem dL_minute_274 : decode cL_minute 274 = .ok (.iload 12, 2) := by decide +kernel
theorem dL_minute_276 : decode cL_minute 276 = .ok (.aload_n 0, 1) := by decide +kernel
theorem dL_minute_277 : decode cL_minute 277 = .ok (.aload_n 1, 1) := by decide +kernel
theorem dL_minute_278 : decode cL_minute 278 = .ok (.iconst 3, 1) := by decide +kernel
theorem dL_minute_279 : decode cL_minute 279 = .ok (.iload 11, 2) := by decide +kernel
theorem dL_minute_281 : decode cL_minute 281 = .ok (.iadd, 1) := by decide +kernel
theorem dL_minute_282 : decode cL_minute 282 = .ok (.iaload, 1) := by decide +kernel
theorem dL_minute_283 : decode cL_minute 283 = .ok (.invokevirtual 23, 3) := by decide +kernel
theorem dL_minute_286 : decode cL_minute 286 = .ok (.if_icmp .ne 121, 3) := by decide +kernel
theorem dL_minute_289 : decode cL_minute 289 = .ok (.aload 5, 2) := by decide +kernel
theorem dL_minute_291 : decode cL_minute 291 = .ok (.iload 11, 2) := by decide +kernel
theorem dL_minute_293 : decode cL_minute 293 = .ok (.iaload, 1) := by decide +kernel
theorem dL_minute_294 : decode cL_minute 294 = .ok (.bipush 20, 2) := by decide +kernel
theorem dL_minute_296 : decode cL_minute 296 = .ok (.if_icmp .lt 111, 3) := by decide +kernel
theorem dL_minute_299 : decode cL_minute 299 = .ok (.aload 6, 2) := by decide +kernel
theorem dL_minute_301 : decode cL_minute 301 = .ok (.iload 11, 2) := by decide +kernel
theorem dL_minute_303 : decode cL_minute 303 = .ok (.iaload, 1) := by decide +kernel
theorem dL_minute_304 : decode cL_minute 304 = .ok (.iconst (-1), 1) := by decide +kernel
theorem dL_minute_305 : decode cL_minute 305 = .ok (.if_icmp .eq 102, 3) := by decide +kernel
theorem dL_minute_308 : decode cL_minute 308 = .ok (.aload_n 0, 1) := by decide +kernel
theorem dL_minute_309 : decode cL_minute 309 = .ok (.iload 11, 2) := by decide +kernel
theorem dL_minute_311 : decode cL_minute 311 = .ok (.invokevirtual 29, 3) := by decide +kernel
theorem dL_minute_314 : decode cL_minute 314 = .ok (.iload 13, 2) := by decide +kernel
theorem dL_minute_316 : decode cL_minute 316 = .ok (.ifCond .ne 11, 3) := by decide +kernel
theorem dL_minute_319 : decode cL_minute 319 = .ok (.aload 4, 2) := by decide +kernel
theorem dL_minute_321 : decode cL_minute 321 = .ok (.iload 11, 2) := by decide +kernel
theorem dL_minute_323 : decode cL_minute 323 = .ok (.iaload, 1) := by decide +kernel
theorem dL_minute_324 : decode cL_minute 324 = .ok (.goto 20, 3) := by decide +kernel
theorem dL_minute_327 : decode cL_minute 327 = .ok (.iload 14, 2) := by decide +kernel
theorem dL_minute_329 : decode cL_minute 329 = .ok (.ifCond .eq 7, 3) := by decide +kernel
theorem dL_minute_332 : decode cL_minute 332 = .ok (.iconst 0, 1) := by decide +kernel
theorem dL_minute_333 : decode cL_minute 333 = .ok (.goto 11, 3) := by decide +kernel
theorem dL_minute_336 : decode cL_minute 336 = .ok (.aload 4, 2) := by decide +kernel
theorem dL_minute_338 : decode cL_minute 338 = .ok (.iload 11, 2) := by decide +kernel
theorem dL_minute_340 : decode cL_minute 340 = .ok (.iaload, 1) := by decide +kernel
theorem dL_minute_341 : decode cL_minute 341 = .ok (.iload 13, 2) := by decide +kernel
theorem dL_minute_343 : decode cL_minute 343 = .ok (.iadd, 1) := by decide +kernel
theorem dL_minute_344 : decode cL_minute 344 = .ok (.if_icmp .ne 63, 3) := by decide +kernel
theorem dL_minute_347 : decode cL_minute 347 = .ok (.aload_n 0, 1) := by decide +kernel
theorem dL_minute_348 : decode cL_minute 348 = .ok (.iload 11, 2) := by decide +kernel
theorem dL_minute_350 : decode cL_minute 350 = .ok (.invokevirtual 26, 3) := by decide +kernel
theorem dL_minute_353 : decode cL_minute 353 = .ok (.iload 16, 2) := by decide +kernel
theorem dL_minute_355 : decode cL_minute 355 = .ok (.ifCond .le 10, 3) := by decide +kernel
theorem dL_minute_358 : decode cL_minute 358 = .ok (.iload 16, 2) := by decide +kernel
theorem dL_minute_360 : decode cL_minute 360 = .ok (.iconst 1, 1) := by decide +kernel
theorem dL_minute_361 : decode cL_minute 361 = .ok (.isub, 1) := by decide +kernel
theorem dL_minute_362 : decode cL_minute 362 = .ok (.goto 4, 3) := by decide +kernel
theorem dL_minute_365 : decode cL_minute 365 = .ok (.iconst 0, 1) := by decide +kernel
theorem dL_minute_366 : decode cL_minute 366 = .ok (.if_icmp .ne 41, 3) := by decide +kernel
theorem dL_minute_369 : decode cL_minute 369 = .ok (.aload_n 0, 1) := by decide +kernel
theorem dL_minute_370 : decode cL_minute 370 = .ok (.iload 11, 2) := by decide +kernel
theorem dL_minute_372 : decode cL_minute 372 = .ok (.invokevirtual 32, 3) := by decide +kernel
theorem dL_minute_375 : decode cL_minute 375 = .ok (.aload 6, 2) := by decide +kernel
theorem dL_minute_377 : decode cL_minute 377 = .ok (.iload 11, 2) := by decide +kernel
theorem dL_minute_379 : decode cL_minute 379 = .ok (.iaload, 1) := by decide +kernel
theorem dL_minute_380 : decode cL_minute 380 = .ok (.if_icmp .eq 23, 3) := by decide +kernel
theorem dL_minute_383 : decode cL_minute 383 = .ok (.aload_n 0, 1) := by decide +kernel
theorem dL_minute_384 : decode cL_minute 384 = .ok (.iload 11, 2) := by decide +kernel
theorem dL_minute_386 : decode cL_minute 386 = .ok (.invokevirtual 32, 3) := by decide +kernel
theorem dL_minute_389 : decode cL_minute 389 = .ok (.iconst (-1), 1) := by decide +kernel
theorem dL_minute_390 : decode cL_minute 390 = .ok (.if_icmp .ne 17, 3) := by decide +kernel
theorem dL_minute_393 : decode cL_minute 393 = .ok (.aload 5, 2) := by decide +kernel
theorem dL_minute_395 : decode cL_minute 395 = .ok (.iload 11, 2) := by decide +kernel
theorem dL_minute_397 : decode cL_minute 397 = .ok (.iaload, 1) := by decide +kernel
theorem dL_minute_398 : decode cL_minute 398 = .ok (.bipush 20, 2) := by decide +kernel
theorem dL_minute_400 : decode cL_minute 400 = .ok (.if_icmp .lt 7, 3) := by decide +kernel
theorem dL_minute_403 : decode cL_minute 403 = .ok (.iconst 1, 1) := by decide +kernel
theorem dL_minute_404 : decode cL_minute 404 = .ok (.goto 4, 3) := by decide +kernel
theorem dL_minute_407 : decode cL_minute 407 = .ok (.iconst 0, 1) := by decide +kernel
theorem dL_minute_408 : decode cL_minute 408 = .ok (.istore 10, 2) := by decide +kernel
theorem dL_minute_410 : decode cL_minute 410 = .ok (.iinc 11 1, 3) := by decide +kernel
theorem dL_minute_413 : decode cL_minute 413 = .ok (.goto (-258), 3) := by decide +kernel
theorem dL_minute_416 : decode cL_minute 416 = .ok (.lconst 0, 1) := by decide +kernel
theorem dL_minute_417 : decode cL_minute 417 = .ok (.lstore 11, 2) := by decide +kernel
theorem dL_minute_419 : decode cL_minute 419 = .ok (.iconst 0, 1) := by decide +kernel
theorem dL_minute_420 : decode cL_minute 420 = .ok (.istore 13, 2) := by decide +kernel
theorem dL_minute_422 : decode cL_minute 422 = .ok (.iload 13, 2) := by decide +kernel
theorem dL_minute_424 : decode cL_minute 424 = .ok (.iconst 3, 1) := by decide +kernel
theorem dL_minute_425 : decode cL_minute 425 = .ok (.if_icmp .ge 84, 3) := by decide +kernel
theorem dL_minute_428 : decode cL_minute 428 = .ok (.aload_n 0, 1) := by decide +kernel
theorem dL_minute_429 : decode cL_minute 429 = .ok (.aload_n 1, 1) := by decide +kernel
theorem dL_minute_430 : decode cL_minute 430 = .ok (.iload 13, 2) := by decide +kernel
theorem dL_minute_432 : decode cL_minute 432 = .ok (.invokestatic 77, 3) := by decide +kernel
theorem dL_minute_435 : decode cL_minute 435 = .ok (.istore 14, 2) := by decide +kernel
theorem dL_minute_437 : decode cL_minute 437 = .ok (.lload 11, 2) := by decide +kernel
theorem dL_minute_439 : decode cL_minute 439 = .ok (.iload 14, 2) := by decide +kernel
theorem dL_minute_441 : decode cL_minute 441 = .ok (.iconst 1, 1) := by decide +kernel
theorem dL_minute_442 : decode cL_minute 442 = .ok (.iadd, 1) := by decide +kernel
theorem dL_minute_443 : decode cL_minute 443 = .ok (.i2l, 1) := by decide +kernel
theorem dL_minute_444 : decode cL_minute 444 = .ok (.bipush 14, 2) := by decide +kernel
theorem dL_minute_446 : decode cL_minute 446 = .ok (.iload 13, 2) := by decide +kernel
theorem dL_minute_448 : decode cL_minute 448 = .ok (.imul, 1) := by decide +kernel
theorem dL_minute_449 : decode cL_minute 449 = .ok (.lshl, 1) := by decide +kernel
theorem dL_minute_450 : decode cL_minute 450 = .ok (.lor, 1) := by decide +kernel
theorem dL_minute_451 : decode cL_minute 451 = .ok (.lstore 11, 2) := by decide +kernel
theorem dL_minute_453 : decode cL_minute 453 = .ok (.aload_n 1, 1) := by decide +kernel
theorem dL_minute_454 : decode cL_minute 454 = .ok (.bipush 15, 2) := by decide +kernel
theorem dL_minute_456 : decode cL_minute 456 = .ok (.iload 13, 2) := by decide +kernel
theorem dL_minute_458 : decode cL_minute 458 = .ok (.iadd, 1) := by decide +kernel
theorem dL_minute_459 : decode cL_minute 459 = .ok (.aload_n 1, 1) := by decide +kernel
theorem dL_minute_460 : decode cL_minute 460 = .ok (.bipush 15, 2) := by decide +kernel
theorem dL_minute_462 : decode cL_minute 462 = .ok (.iload 13, 2) := by decide +kernel
theorem dL_minute_464 : decode cL_minute 464 = .ok (.iadd, 1) := by decide +kernel
theorem dL_minute_465 : decode cL_minute 465 = .ok (.iaload, 1) := by decide +kernel
theorem dL_minute_466 : decode cL_minute 466 = .ok (.ifCond .eq 22, 3) := by decide +kernel
theorem dL_minute_469 : decode cL_minute 469 = .ok (.iload 14, 2) := by decide +kernel
theorem dL_minute_471 : decode cL_minute 471 = .ok (.ifCond .lt 24, 3) := by decide +kernel
theorem dL_minute_474 : decode cL_minute 474 = .ok (.iload 14, 2) := by decide +kernel
theorem dL_minute_476 : decode cL_minute 476 = .ok (.iconst 1, 1) := by decide +kernel
theorem dL_minute_477 : decode cL_minute 477 = .ok (.iadd, 1) := by decide +kernel
theorem dL_minute_478 : decode cL_minute 478 = .ok (.aload_n 1, 1) := by decide +kernel
theorem dL_minute_479 : decode cL_minute 479 = .ok (.bipush 15, 2) := by decide +kernel
theorem dL_minute_481 : decode cL_minute 481 = .ok (.iload 13, 2) := by decide +kernel
theorem dL_minute_483 : decode cL_minute 483 = .ok (.iadd, 1) := by decide +kernel
theorem dL_minute_484 : decode cL_minute 484 = .ok (.iaload, 1) := by decide +kernel
theorem dL_minute_485 : decode cL_minute 485 = .ok (.if_icmp .ge 10, 3) := by decide +kernel
theorem dL_minute_488 : decode cL_minute 488 = .ok (.iload 14, 2) := by decide +kernel
theorem dL_minute_490 : decode cL_minute 490 = .ok (.iconst 1, 1) := by decide +kernel
theorem dL_minute_491 : decode cL_minute 491 = .ok (.iadd, 1) := by decide +kernel
theorem dL_minute_492 : decode cL_minute 492 = .ok (.goto 10, 3) := by decide +kernel
theorem dL_minute_495 : decode cL_minute 495 = .ok (.aload_n 1, 1) := by decide +kernel
theorem dL_minute_496 : decode cL_minute 496 = .ok (.bipush 15, 2) := by decide +kernel
theorem dL_minute_498 : decode cL_minute 498 = .ok (.iload 13, 2) := by decide +kernel
theorem dL_minute_500 : decode cL_minute 500 = .ok (.iadd, 1) := by decide +kernel
theorem dL_minute_501 : decode cL_minute 501 = .ok (.iaload, 1) := by decide +kernel
theorem dL_minute_502 : decode cL_minute 502 = .ok (.iastore, 1) := by decide +kernel
theorem dL_minute_503 : decode cL_minute 503 = .ok (.iinc 13 1, 3) := by decide +kernel
theorem dL_minute_506 : decode cL_minute 506 = .ok (.goto (-84), 3) := by decide +kernel
theorem dL_minute_509 : decode cL_minute 509 = .ok (.aload_n 2, 1) := by decide +kernel
theorem dL_minute_510 : decode cL_minute 510 = .ok (.aload_n 1, 1) := by decide +kernel
theorem dL_minute_511 : decode cL_minute 511 = .ok (.iconst 0, 1) := by decide +kernel
theorem dL_minute_512 : decode cL_minute 512 = .ok (.iaload, 1) := by decide +kernel
theorem dL_minute_513 : decode cL_minute 513 = .ok (.bipush 60, 2) := by decide +kernel
theorem dL_minute_515 : decode cL_minute 515 = .ok (.irem, 1) := by decide +kernel
theorem dL_minute_516 : decode cL_minute 516 = .ok (.lload 11, 2) := by decide +kernel
theorem dL_minute_518 : decode cL_minute 518 = .ok (.lastore, 1) := by decide +kernel
theorem dL_minute_519 : decode cL_minute 519 = .ok (.iload 10, 2) := by decide +kernel
theorem dL_minute_521 : decode cL_minute 521 = .ok (.ifCond .eq 24, 3) := by decide +kernel
theorem dL_minute_524 : decode cL_minute 524 = .ok (.iload 9, 2) := by decide +kernel
theorem dL_minute_526 : decode cL_minute 526 = .ok (.iload 8, 2) := by decide +kernel
theorem dL_minute_528 : decode cL_minute 528 = .ok (.if_icmp .gt 17, 3) := by decide +kernel
theorem dL_minute_531 : decode cL_minute 531 = .ok (.aload_n 0, 1) := by decide +kernel
theorem dL_minute_532 : decode cL_minute 532 = .ok (.invokevirtual 10, 3) := by decide +kernel
theorem dL_minute_535 : decode cL_minute 535 = .ok (.aload_n 1, 1) := by decide +kernel
theorem dL_minute_536 : decode cL_minute 536 = .ok (.iconst 0, 1) := by decide +kernel
theorem dL_minute_537 : decode cL_minute 537 = .ok (.iaload, 1) := by decide +kernel
theorem dL_minute_538 : decode cL_minute 538 = .ok (.if_icmp .ne 7, 3) := by decide +kernel
theorem dL_minute_541 : decode cL_minute 541 = .ok (.iconst 1, 1) := by decide +kernel
theorem dL_minute_542 : decode cL_minute 542 = .ok (.goto 4, 3) := by decide +kernel
theorem dL_minute_545 : decode cL_minute 545 = .ok (.iconst 0, 1) := by decide +kernel
theorem dL_minute_546 : decode cL_minute 546 = .ok (.ireturn, 1) := by decide +kernel
theorem dL_leastNow_0 : decode cL_leastNow 0 = .ok (.iconst (-1), 1) := by decide +kernel
theorem dL_leastNow_1 : decode cL_leastNow 1 = .ok (.istore_n 3, 1) := by decide +kernel
theorem dL_leastNow_2 : decode cL_leastNow 2 = .ok (.iconst 0, 1) := by decide +kernel
theorem dL_leastNow_3 : decode cL_leastNow 3 = .ok (.istore 4, 2) := by decide +kernel
theorem dL_leastNow_5 : decode cL_leastNow 5 = .ok (.iload 4, 2) := by decide +kernel
theorem dL_leastNow_7 : decode cL_leastNow 7 = .ok (.aload_n 1, 1) := by decide +kernel
theorem dL_leastNow_8 : decode cL_leastNow 8 = .ok (.iconst 1, 1) := by decide +kernel
theorem dL_leastNow_9 : decode cL_leastNow 9 = .ok (.iaload, 1) := by decide +kernel
theorem dL_leastNow_10 : decode cL_leastNow 10 = .ok (.if_icmp .ge 45, 3) := by decide +kernel
theorem dL_leastNow_13 : decode cL_leastNow 13 = .ok (.aload_n 0, 1) := by decide +kernel
theorem dL_leastNow_14 : decode cL_leastNow 14 = .ok (.iload 4, 2) := by decide +kernel
theorem dL_leastNow_16 : decode cL_leastNow 16 = .ok (.invokevirtual 20, 3) := by decide +kernel
theorem dL_leastNow_19 : decode cL_leastNow 19 = .ok (.istore 5, 2) := by decide +kernel
theorem dL_leastNow_21 : decode cL_leastNow 21 = .ok (.aload_n 1, 1) := by decide +kernel
theorem dL_leastNow_22 : decode cL_leastNow 22 = .ok (.iconst 3, 1) := by decide +kernel
theorem dL_leastNow_23 : decode cL_leastNow 23 = .ok (.iload 4, 2) := by decide +kernel
theorem dL_leastNow_25 : decode cL_leastNow 25 = .ok (.iadd, 1) := by decide +kernel
theorem dL_leastNow_26 : decode cL_leastNow 26 = .ok (.iaload, 1) := by decide +kernel
theorem dL_leastNow_27 : decode cL_leastNow 27 = .ok (.iload_n 2, 1) := by decide +kernel
theorem dL_leastNow_28 : decode cL_leastNow 28 = .ok (.if_icmp .ne 19, 3) := by decide +kernel
theorem dL_leastNow_31 : decode cL_leastNow 31 = .ok (.iload_n 3, 1) := by decide +kernel
theorem dL_leastNow_32 : decode cL_leastNow 32 = .ok (.iconst (-1), 1) := by decide +kernel
theorem dL_leastNow_33 : decode cL_leastNow 33 = .ok (.if_icmp .eq 9, 3) := by decide +kernel
theorem dL_leastNow_36 : decode cL_leastNow 36 = .ok (.iload 5, 2) := by decide +kernel
theorem dL_leastNow_38 : decode cL_leastNow 38 = .ok (.iload_n 3, 1) := by decide +kernel
theorem dL_leastNow_39 : decode cL_leastNow 39 = .ok (.if_icmp .ge 8, 3) := by decide +kernel
theorem dL_leastNow_42 : decode cL_leastNow 42 = .ok (.iload 5, 2) := by decide +kernel
theorem dL_leastNow_44 : decode cL_leastNow 44 = .ok (.goto 4, 3) := by decide +kernel
theorem dL_leastNow_47 : decode cL_leastNow 47 = .ok (.iload_n 3, 1) := by decide +kernel
theorem dL_leastNow_48 : decode cL_leastNow 48 = .ok (.istore_n 3, 1) := by decide +kernel
theorem dL_leastNow_49 : decode cL_leastNow 49 = .ok (.iinc 4 1, 3) := by decide +kernel
theorem dL_leastNow_52 : decode cL_leastNow 52 = .ok (.goto (-47), 3) := by decide +kernel
theorem dL_leastNow_55 : decode cL_leastNow 55 = .ok (.iload_n 3, 1) := by decide +kernel
theorem dL_leastNow_56 : decode cL_leastNow 56 = .ok (.ireturn, 1) := by decide +kernel
theorem dL_isTill_0 : decode cL_isTill 0 = .ok (.iconst 1, 1) := by decide +kernel
theorem dL_isTill_1 : decode cL_isTill 1 = .ok (.istore_n 3, 1) := by decide +kernel
theorem dL_isTill_2 : decode cL_isTill 2 = .ok (.iconst 0, 1) := by decide +kernel
theorem dL_isTill_3 : decode cL_isTill 3 = .ok (.istore 4, 2) := by decide +kernel
theorem dL_isTill_5 : decode cL_isTill 5 = .ok (.iconst 0, 1) := by decide +kernel
theorem dL_isTill_6 : decode cL_isTill 6 = .ok (.istore 5, 2) := by decide +kernel
theorem dL_isTill_8 : decode cL_isTill 8 = .ok (.iconst 0, 1) := by decide +kernel
theorem dL_isTill_9 : decode cL_isTill 9 = .ok (.istore 6, 2) := by decide +kernel
theorem dL_isTill_11 : decode cL_isTill 11 = .ok (.iload 6, 2) := by decide +kernel
theorem dL_isTill_13 : decode cL_isTill 13 = .ok (.iconst 3, 1) := by decide +kernel
theorem dL_isTill_14 : decode cL_isTill 14 = .ok (.if_icmp .ge 173, 3) := by decide +kernel
theorem dL_isTill_17 : decode cL_isTill 17 = .ok (.iload_n 3, 1) := by decide +kernel
theorem dL_isTill_18 : decode cL_isTill 18 = .ok (.ifCond .eq 169, 3) := by decide +kernel
theorem dL_isTill_21 : decode cL_isTill 21 = .ok (.aload_n 0, 1) := by decide +kernel
theorem dL_isTill_22 : decode cL_isTill 22 = .ok (.iload 6, 2) := by decide +kernel
theorem dL_isTill_24 : decode cL_isTill 24 = .ok (.invokevirtual 23, 3) := by decide +kernel
theorem dL_isTill_27 : decode cL_isTill 27 = .ok (.istore 7, 2) := by decide +kernel
theorem dL_isTill_29 : decode cL_isTill 29 = .ok (.aload_n 0, 1) := by decide +kernel
theorem dL_isTill_30 : decode cL_isTill 30 = .ok (.aload_n 1, 1) := by decide +kernel
theorem dL_isTill_31 : decode cL_isTill 31 = .ok (.iload 6, 2) := by decide +kernel
theorem dL_isTill_33 : decode cL_isTill 33 = .ok (.invokestatic 77, 3) := by decide +kernel
theorem dL_isTill_36 : decode cL_isTill 36 = .ok (.istore 8, 2) := by decide +kernel
theorem dL_isTill_38 : decode cL_isTill 38 = .ok (.iload 8, 2) := by decide +kernel
theorem dL_isTill_40 : decode cL_isTill 40 = .ok (.ifCond .lt 15, 3) := by decide +kernel
theorem dL_isTill_43 : decode cL_isTill 43 = .ok (.iload 8, 2) := by decide +kernel
theorem dL_isTill_45 : decode cL_isTill 45 = .ok (.iload 7, 2) := by decide +kernel
theorem dL_isTill_47 : decode cL_isTill 47 = .ok (.if_icmp .ge 8, 3) := by decide +kernel
theorem dL_isTill_50 : decode cL_isTill 50 = .ok (.iload 8, 2) := by decide +kernel
theorem dL_isTill_52 : decode cL_isTill 52 = .ok (.goto 5, 3) := by decide +kernel
theorem dL_isTill_55 : decode cL_isTill 55 = .ok (.iload 7, 2) := by decide +kernel
theorem dL_isTill_57 : decode cL_isTill 57 = .ok (.istore 9, 2) := by decide +kernel
theorem dL_isTill_59 : decode cL_isTill 59 = .ok (.iconst 0, 1) := by decide +kernel
theorem dL_isTill_60 : decode cL_isTill 60 = .ok (.istore 10, 2) := by decide +kernel
theorem dL_isTill_62 : decode cL_isTill 62 = .ok (.iload 10, 2) := by decide +kernel
theorem dL_isTill_64 : decode cL_isTill 64 = .ok (.bipush 60, 2) := by decide +kernel
theorem dL_isTill_66 : decode cL_isTill 66 = .ok (.if_icmp .ge 49, 3) := by decide +kernel
theorem dL_isTill_69 : decode cL_isTill 69 = .ok (.aload_n 2, 1) := by decide +kernel
theorem dL_isTill_70 : decode cL_isTill 70 = .ok (.iload 10, 2) := by decide +kernel
theorem dL_isTill_72 : decode cL_isTill 72 = .ok (.laload, 1) := by decide +kernel
theorem dL_isTill_73 : decode cL_isTill 73 = .ok (.bipush 14, 2) := by decide +kernel
theorem dL_isTill_75 : decode cL_isTill 75 = .ok (.iload 6, 2) := by decide +kernel
theorem dL_isTill_77 : decode cL_isTill 77 = .ok (.imul, 1) := by decide +kernel
theorem dL_isTill_78 : decode cL_isTill 78 = .ok (.lshr, 1) := by decide +kernel
theorem dL_isTill_79 : decode cL_isTill 79 = .ok (.ldc2_w 81, 3) := by decide +kernel
theorem dL_isTill_82 : decode cL_isTill 82 = .ok (.land, 1) := by decide +kernel
theorem dL_isTill_83 : decode cL_isTill 83 = .ok (.l2i, 1) := by decide +kernel
theorem dL_isTill_84 : decode cL_isTill 84 = .ok (.iconst 1, 1) := by decide +kernel
theorem dL_isTill_85 : decode cL_isTill 85 = .ok (.isub, 1) := by decide +kernel
theorem dL_isTill_86 : decode cL_isTill 86 = .ok (.istore 11, 2) := by decide +kernel
theorem dL_isTill_88 : decode cL_isTill 88 = .ok (.iload 11, 2) := by decide +kernel
theorem dL_isTill_90 : decode cL_isTill 90 = .ok (.ifCond .lt 15, 3) := by decide +kernel
theorem dL_isTill_93 : decode cL_isTill 93 = .ok (.iload 11, 2) := by decide +kernel
theorem dL_isTill_95 : decode cL_isTill 95 = .ok (.iload 9, 2) := by decide +kernel
theorem dL_isTill_97 : decode cL_isTill 97 = .ok (.if_icmp .ge 8, 3) := by decide +kernel
theorem dL_isTill_100 : decode cL_isTill 100 = .ok (.iload 11, 2) := by decide +kernel
theorem dL_isTill_102 : decode cL_isTill 102 = .ok (.goto 5, 3) := by decide +kernel
theorem dL_isTill_105 : decode cL_isTill 105 = .ok (.iload 9, 2) := by decide +kernel
theorem dL_isTill_107 : decode cL_isTill 107 = .ok (.istore 9, 2) := by decide +kernel
theorem dL_isTill_109 : decode cL_isTill 109 = .ok (.iinc 10 1, 3) := by decide +kernel
theorem dL_isTill_112 : decode cL_isTill 112 = .ok (.goto (-50), 3) := by decide +kernel
theorem dL_isTill_115 : decode cL_isTill 115 = .ok (.aload_n 1, 1) := by decide +kernel
theorem dL_isTill_116 : decode cL_isTill 116 = .ok (.bipush 15, 2) := by decide +kernel
theorem dL_isTill_118 : decode cL_isTill 118 = .ok (.iload 6, 2) := by decide +kernel
theorem dL_isTill_120 : decode cL_isTill 120 = .ok (.iadd, 1) := by decide +kernel
theorem dL_isTill_121 : decode cL_isTill 121 = .ok (.iaload, 1) := by decide +kernel
theorem dL_isTill_122 : decode cL_isTill 122 = .ok (.iconst 1, 1) := by decide +kernel
theorem dL_isTill_123 : decode cL_isTill 123 = .ok (.isub, 1) := by decide +kernel
theorem dL_isTill_124 : decode cL_isTill 124 = .ok (.istore 10, 2) := by decide +kernel
theorem dL_isTill_126 : decode cL_isTill 126 = .ok (.aload_n 0, 1) := by decide +kernel
theorem dL_isTill_127 : decode cL_isTill 127 = .ok (.iload 6, 2) := by decide +kernel
theorem dL_isTill_129 : decode cL_isTill 129 = .ok (.invokevirtual 83, 3) := by decide +kernel
theorem dL_isTill_132 : decode cL_isTill 132 = .ok (.iload 9, 2) := by decide +kernel
theorem dL_isTill_134 : decode cL_isTill 134 = .ok (.if_icmp .ne 45, 3) := by decide +kernel
theorem dL_isTill_137 : decode cL_isTill 137 = .ok (.aload_n 0, 1) := by decide +kernel
theorem dL_isTill_138 : decode cL_isTill 138 = .ok (.iload 6, 2) := by decide +kernel
theorem dL_isTill_140 : decode cL_isTill 140 = .ok (.invokevirtual 86, 3) := by decide +kernel
theorem dL_isTill_143 : decode cL_isTill 143 = .ok (.iload 8, 2) := by decide +kernel
theorem dL_isTill_145 : decode cL_isTill 145 = .ok (.ifCond .ge 8, 3) := by decide +kernel
theorem dL_isTill_148 : decode cL_isTill 148 = .ok (.iload 10, 2) := by decide +kernel
theorem dL_isTill_150 : decode cL_isTill 150 = .ok (.goto 22, 3) := by decide +kernel
theorem dL_isTill_153 : decode cL_isTill 153 = .ok (.iload 10, 2) := by decide +kernel
theorem dL_isTill_155 : decode cL_isTill 155 = .ok (.ifCond .lt 10, 3) := by decide +kernel
theorem dL_isTill_158 : decode cL_isTill 158 = .ok (.iload 8, 2) := by decide +kernel
theorem dL_isTill_160 : decode cL_isTill 160 = .ok (.iload 10, 2) := by decide +kernel
theorem dL_isTill_162 : decode cL_isTill 162 = .ok (.if_icmp .ge 8, 3) := by decide +kernel
theorem dL_isTill_165 : decode cL_isTill 165 = .ok (.iload 8, 2) := by decide +kernel
theorem dL_isTill_167 : decode cL_isTill 167 = .ok (.goto 5, 3) := by decide +kernel
theorem dL_isTill_170 : decode cL_isTill 170 = .ok (.iload 10, 2) := by decide +kernel
theorem dL_isTill_172 : decode cL_isTill 172 = .ok (.if_icmp .ne 7, 3) := by decide +kernel
theorem dL_isTill_175 : decode cL_isTill 175 = .ok (.iconst 1, 1) := by decide +kernel
theorem dL_isTill_176 : decode cL_isTill 176 = .ok (.goto 4, 3) := by decide +kernel
theorem dL_isTill_179 : decode cL_isTill 179 = .ok (.iconst 0, 1) := by decide +kernel
theorem dL_isTill_180 : decode cL_isTill 180 = .ok (.istore_n 3, 1) := by decide +kernel
theorem dL_isTill_181 : decode cL_isTill 181 = .ok (.iinc 6 1, 3) := by decide +kernel
theorem dL_isTill_184 : decode cL_isTill 184 = .ok (.goto (-173), 3) := by decide +kernel
theorem dL_isTill_187 : decode cL_isTill 187 = .ok (.iconst 0, 1) := by decide +kernel
theorem dL_isTill_188 : decode cL_isTill 188 = .ok (.istore 6, 2) := by decide +kernel
theorem dL_isTill_190 : decode cL_isTill 190 = .ok (.iload 6, 2) := by decide +kernel
theorem dL_isTill_192 : decode cL_isTill 192 = .ok (.aload_n 1, 1) := by decide +kernel
theorem dL_isTill_193 : decode cL_isTill 193 = .ok (.iconst 1, 1) := by decide +kernel
theorem dL_isTill_194 : decode cL_isTill 194 = .ok (.iaload, 1) := by decide +kernel
theorem dL_isTill_195 : decode cL_isTill 195 = .ok (.if_icmp .ge 111, 3) := by decide +kernel
theorem dL_isTill_198 : decode cL_isTill 198 = .ok (.iload_n 3, 1) := by decide +kernel
theorem dL_isTill_199 : decode cL_isTill 199 = .ok (.ifCond .eq 107, 3) := by decide +kernel
theorem dL_isTill_202 : decode cL_isTill 202 = .ok (.iload 4, 2) := by decide +kernel
theorem dL_isTill_204 : decode cL_isTill 204 = .ok (.aload_n 0, 1) := by decide +kernel
theorem dL_isTill_205 : decode cL_isTill 205 = .ok (.iload 6, 2) := by decide +kernel
theorem dL_isTill_207 : decode cL_isTill 207 = .ok (.invokevirtual 20, 3) := by decide +kernel
theorem dL_isTill_210 : decode cL_isTill 210 = .ok (.aload_n 0, 1) := by decide +kernel
theorem dL_isTill_211 : decode cL_isTill 211 = .ok (.aload_n 1, 1) := by decide +kernel
theorem dL_isTill_212 : decode cL_isTill 212 = .ok (.iconst 3, 1) := by decide +kernel
theorem dL_isTill_213 : decode cL_isTill 213 = .ok (.iload 6, 2) := by decide +kernel
theorem dL_isTill_215 : decode cL_isTill 215 = .ok (.iadd, 1) := by decide +kernel
theorem dL_isTill_216 : decode cL_isTill 216 = .ok (.iaload, 1) := by decide +kernel
theorem dL_isTill_217 : decode cL_isTill 217 = .ok (.invokevirtual 23, 3) := by decide +kernel
theorem dL_isTill_220 : decode cL_isTill 220 = .ok (.if_icmp .ge 10, 3) := by decide +kernel
theorem dL_isTill_223 : decode cL_isTill 223 = .ok (.iconst 1, 1) := by decide +kernel
theorem dL_isTill_224 : decode cL_isTill 224 = .ok (.iload 6, 2) := by decide +kernel
theorem dL_isTill_226 : decode cL_isTill 226 = .ok (.ishl, 1) := by decide +kernel
theorem dL_isTill_227 : decode cL_isTill 227 = .ok (.goto 4, 3) := by decide +kernel
theorem dL_isTill_230 : decode cL_isTill 230 = .ok (.iconst 0, 1) := by decide +kernel
theorem dL_isTill_231 : decode cL_isTill 231 = .ok (.ior, 1) := by decide +kernel
theorem dL_isTill_232 : decode cL_isTill 232 = .ok (.istore 4, 2) := by decide +kernel
theorem dL_isTill_234 : decode cL_isTill 234 = .ok (.iload 5, 2) := by decide +kernel
theorem dL_isTill_236 : decode cL_isTill 236 = .ok (.aload_n 0, 1) := by decide +kernel
theorem dL_isTill_237 : decode cL_isTill 237 = .ok (.iload 6, 2) := by decide +kernel
theorem dL_isTill_239 : decode cL_isTill 239 = .ok (.invokevirtual 32, 3) := by decide +kernel
theorem dL_isTill_242 : decode cL_isTill 242 = .ok (.iconst (-1), 1) := by decide +kernel
theorem dL_isTill_243 : decode cL_isTill 243 = .ok (.if_icmp .ne 7, 3) := by decide +kernel
theorem dL_isTill_246 : decode cL_isTill 246 = .ok (.iconst 0, 1) := by decide +kernel
theorem dL_isTill_247 : decode cL_isTill 247 = .ok (.goto 4, 3) := by decide +kernel
theorem dL_isTill_250 : decode cL_isTill 250 = .ok (.iconst 1, 1) := by decide +kernel
theorem dL_isTill_251 : decode cL_isTill 251 = .ok (.iadd, 1) := by decide +kernel
theorem dL_isTill_252 : decode cL_isTill 252 = .ok (.istore 5, 2) := by decide +kernel
theorem dL_isTill_254 : decode cL_isTill 254 = .ok (.aload_n 0, 1) := by decide +kernel
theorem dL_isTill_255 : decode cL_isTill 255 = .ok (.iload 6, 2) := by decide +kernel
theorem dL_isTill_257 : decode cL_isTill 257 = .ok (.invokevirtual 32, 3) := by decide +kernel
theorem dL_isTill_260 : decode cL_isTill 260 = .ok (.iconst (-1), 1) := by decide +kernel
theorem dL_isTill_261 : decode cL_isTill 261 = .ok (.if_icmp .ne 22, 3) := by decide +kernel
theorem dL_isTill_264 : decode cL_isTill 264 = .ok (.aload_n 0, 1) := by decide +kernel
theorem dL_isTill_265 : decode cL_isTill 265 = .ok (.iload 6, 2) := by decide +kernel
theorem dL_isTill_267 : decode cL_isTill 267 = .ok (.invokevirtual 20, 3) := by decide +kernel
theorem dL_isTill_270 : decode cL_isTill 270 = .ok (.aload_n 0, 1) := by decide +kernel
theorem dL_isTill_271 : decode cL_isTill 271 = .ok (.aload_n 1, 1) := by decide +kernel
theorem dL_isTill_272 : decode cL_isTill 272 = .ok (.iconst 3, 1) := by decide +kernel
theorem dL_isTill_273 : decode cL_isTill 273 = .ok (.iload 6, 2) := by decide +kernel
theorem dL_isTill_275 : decode cL_isTill 275 = .ok (.iadd, 1) := by decide +kernel
theorem dL_isTill_276 : decode cL_isTill 276 = .ok (.iaload, 1) := by decide +kernel
theorem dL_isTill_277 : decode cL_isTill 277 = .ok (.invokevirtual 23, 3) := by decide +kernel
theorem dL_isTill_280 : decode cL_isTill 280 = .ok (.if_icmp .ne 18, 3) := by decide +kernel
theorem dL_isTill_283 : decode cL_isTill 283 = .ok (.aload_n 0, 1) := by decide +kernel
theorem dL_isTill_284 : decode cL_isTill 284 = .ok (.iload 6, 2) := by decide +kernel
theorem dL_isTill_286 : decode cL_isTill 286 = .ok (.invokevirtual 29, 3) := by decide +kernel
theorem dL_isTill_289 : decode cL_isTill 289 = .ok (.bipush 9, 2) := by decide +kernel
theorem dL_isTill_291 : decode cL_isTill 291 = .ok (.if_icmp .gt 7, 3) := by decide +kernel
theorem dL_isTill_294 : decode cL_isTill 294 = .ok (.iconst 1, 1) := by decide +kernel
theorem dL_isTill_295 : decode cL_isTill 295 = .ok (.goto 4, 3) := by decide +kernel
theorem dL_isTill_298 : decode cL_isTill 298 = .ok (.iconst 0, 1) := by decide +kernel
theorem dL_isTill_299 : decode cL_isTill 299 = .ok (.istore_n 3, 1) := by decide +kernel
theorem dL_isTill_300 : decode cL_isTill 300 = .ok (.iinc 6 1, 3) := by decide +kernel
theorem dL_isTill_303 : decode cL_isTill 303 = .ok (.goto (-113), 3) := by decide +kernel
theorem dL_isTill_306 : decode cL_isTill 306 = .ok (.aload_n 0, 1) := by decide +kernel
theorem dL_isTill_307 : decode cL_isTill 307 = .ok (.invokevirtual 51, 3) := by decide +kernel
theorem dL_isTill_310 : decode cL_isTill 310 = .ok (.istore 6, 2) := by decide +kernel
theorem dL_isTill_312 : decode cL_isTill 312 = .ok (.iload_n 3, 1) := by decide +kernel
theorem dL_isTill_313 : decode cL_isTill 313 = .ok (.ifCond .eq 60, 3) := by decide +kernel
theorem dL_isTill_316 : decode cL_isTill 316 = .ok (.aload_n 0, 1) := by decide +kernel
theorem dL_isTill_317 : decode cL_isTill 317 = .ok (.invokevirtual 41, 3) := by decide +kernel
theorem dL_isTill_320 : decode cL_isTill 320 = .ok (.iload 4, 2) := by decide +kernel
theorem dL_isTill_322 : decode cL_isTill 322 = .ok (.if_icmp .ne 51, 3) := by decide +kernel
theorem dL_isTill_325 : decode cL_isTill 325 = .ok (.aload_n 0, 1) := by decide +kernel
theorem dL_isTill_326 : decode cL_isTill 326 = .ok (.invokevirtual 68, 3) := by decide +kernel
theorem dL_isTill_329 : decode cL_isTill 329 = .ok (.iload 5, 2) := by decide +kernel
theorem dL_isTill_331 : decode cL_isTill 331 = .ok (.if_icmp .ne 42, 3) := by decide +kernel
theorem dL_isTill_334 : decode cL_isTill 334 = .ok (.iload 6, 2) := by decide +kernel
theorem dL_isTill_336 : decode cL_isTill 336 = .ok (.iconst (-1), 1) := by decide +kernel
theorem dL_isTill_337 : decode cL_isTill 337 = .ok (.if_icmp .eq 13, 3) := by decide +kernel
theorem dL_isTill_340 : decode cL_isTill 340 = .ok (.aload_n 0, 1) := by decide +kernel
theorem dL_isTill_341 : decode cL_isTill 341 = .ok (.iload 6, 2) := by decide +kernel
theorem dL_isTill_343 : decode cL_isTill 343 = .ok (.invokevirtual 32, 3) := by decide +kernel
theorem dL_isTill_346 : decode cL_isTill 346 = .ok (.iconst (-1), 1) := by decide +kernel
theorem dL_isTill_347 : decode cL_isTill 347 = .ok (.if_icmp .eq 26, 3) := by decide +kernel
theorem dL_isTill_350 : decode cL_isTill 350 = .ok (.aload_n 0, 1) := by decide +kernel
theorem dL_isTill_351 : decode cL_isTill 351 = .ok (.bipush 11, 2) := by decide +kernel
theorem dL_isTill_353 : decode cL_isTill 353 = .ok (.invokevirtual 86, 3) := by decide +kernel
theorem dL_isTill_356 : decode cL_isTill 356 = .ok (.iconst (-1), 1) := by decide +kernel
theorem dL_isTill_357 : decode cL_isTill 357 = .ok (.if_icmp .ne 16, 3) := by decide +kernel
theorem dL_isTill_360 : decode cL_isTill 360 = .ok (.aload_n 0, 1) := by decide +kernel
theorem dL_isTill_361 : decode cL_isTill 361 = .ok (.bipush 11, 2) := by decide +kernel
theorem dL_isTill_363 : decode cL_isTill 363 = .ok (.invokevirtual 83, 3) := by decide +kernel
theorem dL_isTill_366 : decode cL_isTill 366 = .ok (.ifCond .ne 7, 3) := by decide +kernel
theorem dL_isTill_369 : decode cL_isTill 369 = .ok (.iconst 1, 1) := by decide +kernel
theorem dL_isTill_370 : decode cL_isTill 370 = .ok (.goto 4, 3) := by decide +kernel
theorem dL_isTill_373 : decode cL_isTill 373 = .ok (.iconst 0, 1) := by decide +kernel
theorem dL_isTill_374 : decode cL_isTill 374 = .ok (.ireturn, 1) := by decide +kernel
theorem dL_law_0 : decode cL_law 0 = .ok (.new 11, 3) := by decide +kernel
theorem dL_law_3 : decode cL_law 3 = .ok (.dup, 1) := by decide +kernel
theorem dL_law_4 : decode cL_law 4 = .ok (.invokespecial 89, 3) := by decide +kernel
theorem dL_law_7 : decode cL_law 7 = .ok (.astore_n 1, 1) := by decide +kernel
theorem dL_law_8 : decode cL_law 8 = .ok (.bipush 18, 2) := by decide +kernel
theorem dL_law_10 : decode cL_law 10 = .ok (.newarray .int, 2) := by decide +kernel
theorem dL_law_12 : decode cL_law 12 = .ok (.astore_n 2, 1) := by decide +kernel
theorem dL_law_13 : decode cL_law 13 = .ok (.bipush 60, 2) := by decide +kernel
theorem dL_law_15 : decode cL_law 15 = .ok (.newarray .long, 2) := by decide +kernel
theorem dL_law_17 : decode cL_law 17 = .ok (.astore_n 3, 1) := by decide +kernel
theorem dL_law_18 : decode cL_law 18 = .ok (.aload_n 1, 1) := by decide +kernel
theorem dL_law_19 : decode cL_law 19 = .ok (.invokevirtual 10, 3) := by decide +kernel
theorem dL_law_22 : decode cL_law 22 = .ok (.ifCond .ne 39, 3) := by decide +kernel
theorem dL_law_25 : decode cL_law 25 = .ok (.aload_n 1, 1) := by decide +kernel
theorem dL_law_26 : decode cL_law 26 = .ok (.invokevirtual 68, 3) := by decide +kernel
theorem dL_law_29 : decode cL_law 29 = .ok (.ifCond .ne 32, 3) := by decide +kernel
theorem dL_law_32 : decode cL_law 32 = .ok (.aload_n 1, 1) := by decide +kernel
theorem dL_law_33 : decode cL_law 33 = .ok (.invokevirtual 51, 3) := by decide +kernel
theorem dL_law_36 : decode cL_law 36 = .ok (.iconst (-1), 1) := by decide +kernel
theorem dL_law_37 : decode cL_law 37 = .ok (.if_icmp .ne 24, 3) := by decide +kernel
theorem dL_law_40 : decode cL_law 40 = .ok (.aload_n 1, 1) := by decide +kernel
theorem dL_law_41 : decode cL_law 41 = .ok (.iconst 3, 1) := by decide +kernel
theorem dL_law_42 : decode cL_law 42 = .ok (.invokevirtual 83, 3) := by decide +kernel
theorem dL_law_45 : decode cL_law 45 = .ok (.ifCond .ne 16, 3) := by decide +kernel
theorem dL_law_48 : decode cL_law 48 = .ok (.aload_n 1, 1) := by decide +kernel
theorem dL_law_49 : decode cL_law 49 = .ok (.iconst 0, 1) := by decide +kernel
theorem dL_law_50 : decode cL_law 50 = .ok (.invokevirtual 86, 3) := by decide +kernel
theorem dL_law_53 : decode cL_law 53 = .ok (.iconst (-1), 1) := by decide +kernel
theorem dL_law_54 : decode cL_law 54 = .ok (.if_icmp .ne 7, 3) := by decide +kernel
theorem dL_law_57 : decode cL_law 57 = .ok (.iconst 1, 1) := by decide +kernel
theorem dL_law_58 : decode cL_law 58 = .ok (.goto 4, 3) := by decide +kernel
theorem dL_law_61 : decode cL_law 61 = .ok (.iconst 0, 1) := by decide +kernel
theorem dL_law_62 : decode cL_law 62 = .ok (.istore 4, 2) := by decide +kernel
theorem dL_law_64 : decode cL_law 64 = .ok (.aload_n 0, 1) := by decide +kernel
theorem dL_law_65 : decode cL_law 65 = .ok (.arraylength, 1) := by decide +kernel
theorem dL_law_66 : decode cL_law 66 = .ok (.iconst 3, 1) := by decide +kernel
theorem dL_law_67 : decode cL_law 67 = .ok (.idiv, 1) := by decide +kernel
theorem dL_law_68 : decode cL_law 68 = .ok (.bipush 70, 2) := by decide +kernel
theorem dL_law_70 : decode cL_law 70 = .ok (.if_icmp .le 8, 3) := by decide +kernel
theorem dL_law_73 : decode cL_law 73 = .ok (.bipush 70, 2) := by decide +kernel
theorem dL_law_75 : decode cL_law 75 = .ok (.goto 7, 3) := by decide +kernel
theorem dL_law_78 : decode cL_law 78 = .ok (.aload_n 0, 1) := by decide +kernel
theorem dL_law_79 : decode cL_law 79 = .ok (.arraylength, 1) := by decide +kernel
theorem dL_law_80 : decode cL_law 80 = .ok (.iconst 3, 1) := by decide +kernel
theorem dL_law_81 : decode cL_law 81 = .ok (.idiv, 1) := by decide +kernel
theorem dL_law_82 : decode cL_law 82 = .ok (.istore 5, 2) := by decide +kernel
theorem dL_law_84 : decode cL_law 84 = .ok (.iconst 0, 1) := by decide +kernel
theorem dL_law_85 : decode cL_law 85 = .ok (.istore 6, 2) := by decide +kernel
theorem dL_law_87 : decode cL_law 87 = .ok (.iload 6, 2) := by decide +kernel
theorem dL_law_89 : decode cL_law 89 = .ok (.iload 5, 2) := by decide +kernel
theorem dL_law_91 : decode cL_law 91 = .ok (.if_icmp .ge 67, 3) := by decide +kernel
theorem dL_law_94 : decode cL_law 94 = .ok (.iload 4, 2) := by decide +kernel
theorem dL_law_96 : decode cL_law 96 = .ok (.ifCond .eq 62, 3) := by decide +kernel
theorem dL_law_99 : decode cL_law 99 = .ok (.aload_n 1, 1) := by decide +kernel
theorem dL_law_100 : decode cL_law 100 = .ok (.aload_n 2, 1) := by decide +kernel
theorem dL_law_101 : decode cL_law 101 = .ok (.aload_n 3, 1) := by decide +kernel
theorem dL_law_102 : decode cL_law 102 = .ok (.aload_n 0, 1) := by decide +kernel
theorem dL_law_103 : decode cL_law 103 = .ok (.iconst 3, 1) := by decide +kernel
theorem dL_law_104 : decode cL_law 104 = .ok (.iload 6, 2) := by decide +kernel
theorem dL_law_106 : decode cL_law 106 = .ok (.imul, 1) := by decide +kernel
theorem dL_law_107 : decode cL_law 107 = .ok (.invokestatic 90, 3) := by decide +kernel
theorem dL_law_110 : decode cL_law 110 = .ok (.aload_n 0, 1) := by decide +kernel
theorem dL_law_111 : decode cL_law 111 = .ok (.iconst 3, 1) := by decide +kernel
theorem dL_law_112 : decode cL_law 112 = .ok (.iload 6, 2) := by decide +kernel
theorem dL_law_114 : decode cL_law 114 = .ok (.imul, 1) := by decide +kernel
theorem dL_law_115 : decode cL_law 115 = .ok (.iconst 1, 1) := by decide +kernel
theorem dL_law_116 : decode cL_law 116 = .ok (.iadd, 1) := by decide +kernel
theorem dL_law_117 : decode cL_law 117 = .ok (.invokestatic 90, 3) := by decide +kernel
theorem dL_law_120 : decode cL_law 120 = .ok (.aload_n 0, 1) := by decide +kernel
theorem dL_law_121 : decode cL_law 121 = .ok (.iconst 3, 1) := by decide +kernel
theorem dL_law_122 : decode cL_law 122 = .ok (.iload 6, 2) := by decide +kernel
theorem dL_law_124 : decode cL_law 124 = .ok (.imul, 1) := by decide +kernel
theorem dL_law_125 : decode cL_law 125 = .ok (.iconst 2, 1) := by decide +kernel
theorem dL_law_126 : decode cL_law 126 = .ok (.iadd, 1) := by decide +kernel
theorem dL_law_127 : decode cL_law 127 = .ok (.invokestatic 90, 3) := by decide +kernel
theorem dL_law_130 : decode cL_law 130 = .ok (.invokestatic 94, 3) := by decide +kernel
theorem dL_law_133 : decode cL_law 133 = .ok (.ifCond .eq 16, 3) := by decide +kernel
theorem dL_law_136 : decode cL_law 136 = .ok (.aload_n 1, 1) := by decide +kernel
theorem dL_law_137 : decode cL_law 137 = .ok (.aload_n 2, 1) := by decide +kernel
theorem dL_law_138 : decode cL_law 138 = .ok (.aload_n 3, 1) := by decide +kernel
theorem dL_law_139 : decode cL_law 139 = .ok (.invokestatic 98, 3) := by decide +kernel
theorem dL_law_142 : decode cL_law 142 = .ok (.ifCond .eq 7, 3) := by decide +kernel
theorem dL_law_145 : decode cL_law 145 = .ok (.iconst 1, 1) := by decide +kernel
theorem dL_law_146 : decode cL_law 146 = .ok (.goto 4, 3) := by decide +kernel
theorem dL_law_149 : decode cL_law 149 = .ok (.iconst 0, 1) := by decide +kernel
theorem dL_law_150 : decode cL_law 150 = .ok (.istore 4, 2) := by decide +kernel
theorem dL_law_152 : decode cL_law 152 = .ok (.iinc 6 1, 3) := by decide +kernel
theorem dL_law_155 : decode cL_law 155 = .ok (.goto (-68), 3) := by decide +kernel
theorem dL_law_158 : decode cL_law 158 = .ok (.iload 4, 2) := by decide +kernel
theorem dL_law_160 : decode cL_law 160 = .ok (.ireturn, 1) := by decide +kernel
