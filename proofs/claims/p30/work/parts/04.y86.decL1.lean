theorem dL_goesOn_133 : decode cL_goesOn 133 = .ok (.goto 35, 3) := by decide +kernel
theorem dL_goesOn_136 : decode cL_goesOn 136 = .ok (.iload 9, 2) := by decide +kernel
theorem dL_goesOn_138 : decode cL_goesOn 138 = .ok (.ldc 44, 2) := by decide +kernel
theorem dL_goesOn_140 : decode cL_goesOn 140 = .ok (.if_icmp .eq 23, 3) := by decide +kernel
theorem dL_goesOn_143 : decode cL_goesOn 143 = .ok (.iload 9, 2) := by decide +kernel
theorem dL_goesOn_145 : decode cL_goesOn 145 = .ok (.aload_n 1, 1) := by decide +kernel
theorem dL_goesOn_146 : decode cL_goesOn 146 = .ok (.iconst 1, 1) := by decide +kernel
theorem dL_goesOn_147 : decode cL_goesOn 147 = .ok (.iaload, 1) := by decide +kernel
theorem dL_goesOn_148 : decode cL_goesOn 148 = .ok (.iconst 2, 1) := by decide +kernel
theorem dL_goesOn_149 : decode cL_goesOn 149 = .ok (.iadd, 1) := by decide +kernel
theorem dL_goesOn_150 : decode cL_goesOn 150 = .ok (.if_icmp .ne 17, 3) := by decide +kernel
theorem dL_goesOn_153 : decode cL_goesOn 153 = .ok (.aload_n 0, 1) := by decide +kernel
theorem dL_goesOn_154 : decode cL_goesOn 154 = .ok (.iload 8, 2) := by decide +kernel
theorem dL_goesOn_156 : decode cL_goesOn 156 = .ok (.invokestatic 144, 3) := by decide +kernel
theorem dL_goesOn_159 : decode cL_goesOn 159 = .ok (.iconst 4, 1) := by decide +kernel
theorem dL_goesOn_160 : decode cL_goesOn 160 = .ok (.if_icmp .ne 7, 3) := by decide +kernel
theorem dL_goesOn_163 : decode cL_goesOn 163 = .ok (.iconst 1, 1) := by decide +kernel
theorem dL_goesOn_164 : decode cL_goesOn 164 = .ok (.goto 4, 3) := by decide +kernel
theorem dL_goesOn_167 : decode cL_goesOn 167 = .ok (.iconst 0, 1) := by decide +kernel
theorem dL_goesOn_168 : decode cL_goesOn 168 = .ok (.ireturn, 1) := by decide +kernel
theorem dL_goesOn_169 : decode cL_goesOn 169 = .ok (.iload 7, 2) := by decide +kernel
theorem dL_goesOn_171 : decode cL_goesOn 171 = .ok (.iconst 3, 1) := by decide +kernel
theorem dL_goesOn_172 : decode cL_goesOn 172 = .ok (.if_icmp .ne 119, 3) := by decide +kernel
theorem dL_goesOn_175 : decode cL_goesOn 175 = .ok (.aload_n 0, 1) := by decide +kernel
theorem dL_goesOn_176 : decode cL_goesOn 176 = .ok (.iload 8, 2) := by decide +kernel
theorem dL_goesOn_178 : decode cL_goesOn 178 = .ok (.iconst 1, 1) := by decide +kernel
theorem dL_goesOn_179 : decode cL_goesOn 179 = .ok (.invokestatic 163, 3) := by decide +kernel
theorem dL_goesOn_182 : decode cL_goesOn 182 = .ok (.istore 9, 2) := by decide +kernel
theorem dL_goesOn_184 : decode cL_goesOn 184 = .ok (.iload 9, 2) := by decide +kernel
theorem dL_goesOn_186 : decode cL_goesOn 186 = .ok (.aload_n 1, 1) := by decide +kernel
theorem dL_goesOn_187 : decode cL_goesOn 187 = .ok (.iconst 0, 1) := by decide +kernel
theorem dL_goesOn_188 : decode cL_goesOn 188 = .ok (.iaload, 1) := by decide +kernel
theorem dL_goesOn_189 : decode cL_goesOn 189 = .ok (.if_icmp .ne 78, 3) := by decide +kernel
theorem dL_goesOn_192 : decode cL_goesOn 192 = .ok (.aload_n 1, 1) := by decide +kernel
theorem dL_goesOn_193 : decode cL_goesOn 193 = .ok (.iconst 0, 1) := by decide +kernel
theorem dL_goesOn_194 : decode cL_goesOn 194 = .ok (.iaload, 1) := by decide +kernel
theorem dL_goesOn_195 : decode cL_goesOn 195 = .ok (.ifCond .le 72, 3) := by decide +kernel
theorem dL_goesOn_198 : decode cL_goesOn 198 = .ok (.aload_n 2, 1) := by decide +kernel
theorem dL_goesOn_199 : decode cL_goesOn 199 = .ok (.iload 9, 2) := by decide +kernel
theorem dL_goesOn_201 : decode cL_goesOn 201 = .ok (.bipush 8, 2) := by decide +kernel
theorem dL_goesOn_203 : decode cL_goesOn 203 = .ok (.aload_n 2, 1) := by decide +kernel
theorem dL_goesOn_204 : decode cL_goesOn 204 = .ok (.iload 8, 2) := by decide +kernel
theorem dL_goesOn_206 : decode cL_goesOn 206 = .ok (.iaload, 1) := by decide +kernel
theorem dL_goesOn_207 : decode cL_goesOn 207 = .ok (.bipush 8, 2) := by decide +kernel
theorem dL_goesOn_209 : decode cL_goesOn 209 = .ok (.irem, 1) := by decide +kernel
theorem dL_goesOn_210 : decode cL_goesOn 210 = .ok (.imul, 1) := by decide +kernel
theorem dL_goesOn_211 : decode cL_goesOn 211 = .ok (.aload_n 2, 1) := by decide +kernel
theorem dL_goesOn_212 : decode cL_goesOn 212 = .ok (.iload 8, 2) := by decide +kernel
theorem dL_goesOn_214 : decode cL_goesOn 214 = .ok (.iaload, 1) := by decide +kernel
theorem dL_goesOn_215 : decode cL_goesOn 215 = .ok (.bipush 8, 2) := by decide +kernel
theorem dL_goesOn_217 : decode cL_goesOn 217 = .ok (.idiv, 1) := by decide +kernel
theorem dL_goesOn_218 : decode cL_goesOn 218 = .ok (.iadd, 1) := by decide +kernel
theorem dL_goesOn_219 : decode cL_goesOn 219 = .ok (.iastore, 1) := by decide +kernel
theorem dL_goesOn_220 : decode cL_goesOn 220 = .ok (.aload_n 3, 1) := by decide +kernel
theorem dL_goesOn_221 : decode cL_goesOn 221 = .ok (.iload 9, 2) := by decide +kernel
theorem dL_goesOn_223 : decode cL_goesOn 223 = .ok (.aload_n 3, 1) := by decide +kernel
theorem dL_goesOn_224 : decode cL_goesOn 224 = .ok (.iload 8, 2) := by decide +kernel
theorem dL_goesOn_226 : decode cL_goesOn 226 = .ok (.iaload, 1) := by decide +kernel
theorem dL_goesOn_227 : decode cL_goesOn 227 = .ok (.iastore, 1) := by decide +kernel
theorem dL_goesOn_228 : decode cL_goesOn 228 = .ok (.aload 4, 2) := by decide +kernel
theorem dL_goesOn_230 : decode cL_goesOn 230 = .ok (.iload 9, 2) := by decide +kernel
theorem dL_goesOn_232 : decode cL_goesOn 232 = .ok (.iconst 5, 1) := by decide +kernel
theorem dL_goesOn_233 : decode cL_goesOn 233 = .ok (.iastore, 1) := by decide +kernel
theorem dL_goesOn_234 : decode cL_goesOn 234 = .ok (.aload_n 1, 1) := by decide +kernel
theorem dL_goesOn_235 : decode cL_goesOn 235 = .ok (.iconst 0, 1) := by decide +kernel
theorem dL_goesOn_236 : decode cL_goesOn 236 = .ok (.dup2, 1) := by decide +kernel
theorem dL_goesOn_237 : decode cL_goesOn 237 = .ok (.iaload, 1) := by decide +kernel
theorem dL_goesOn_238 : decode cL_goesOn 238 = .ok (.iconst 1, 1) := by decide +kernel
theorem dL_goesOn_239 : decode cL_goesOn 239 = .ok (.iadd, 1) := by decide +kernel
theorem dL_goesOn_240 : decode cL_goesOn 240 = .ok (.iastore, 1) := by decide +kernel
theorem dL_goesOn_241 : decode cL_goesOn 241 = .ok (.aload_n 0, 1) := by decide +kernel
theorem dL_goesOn_242 : decode cL_goesOn 242 = .ok (.invokevirtual 118, 3) := by decide +kernel
theorem dL_goesOn_245 : decode cL_goesOn 245 = .ok (.aload_n 1, 1) := by decide +kernel
theorem dL_goesOn_246 : decode cL_goesOn 246 = .ok (.iconst 0, 1) := by decide +kernel
theorem dL_goesOn_247 : decode cL_goesOn 247 = .ok (.iaload, 1) := by decide +kernel
theorem dL_goesOn_248 : decode cL_goesOn 248 = .ok (.if_icmp .ne 17, 3) := by decide +kernel
theorem dL_goesOn_251 : decode cL_goesOn 251 = .ok (.aload_n 0, 1) := by decide +kernel
theorem dL_goesOn_252 : decode cL_goesOn 252 = .ok (.iload 8, 2) := by decide +kernel
theorem dL_goesOn_254 : decode cL_goesOn 254 = .ok (.invokestatic 144, 3) := by decide +kernel
theorem dL_goesOn_257 : decode cL_goesOn 257 = .ok (.iconst 4, 1) := by decide +kernel
theorem dL_goesOn_258 : decode cL_goesOn 258 = .ok (.if_icmp .ne 7, 3) := by decide +kernel
theorem dL_goesOn_261 : decode cL_goesOn 261 = .ok (.iconst 1, 1) := by decide +kernel
theorem dL_goesOn_262 : decode cL_goesOn 262 = .ok (.goto 4, 3) := by decide +kernel
theorem dL_goesOn_265 : decode cL_goesOn 265 = .ok (.iconst 0, 1) := by decide +kernel
theorem dL_goesOn_266 : decode cL_goesOn 266 = .ok (.ireturn, 1) := by decide +kernel
theorem dL_goesOn_267 : decode cL_goesOn 267 = .ok (.iload 9, 2) := by decide +kernel
theorem dL_goesOn_269 : decode cL_goesOn 269 = .ok (.aload_n 1, 1) := by decide +kernel
theorem dL_goesOn_270 : decode cL_goesOn 270 = .ok (.iconst 0, 1) := by decide +kernel
theorem dL_goesOn_271 : decode cL_goesOn 271 = .ok (.iaload, 1) := by decide +kernel
theorem dL_goesOn_272 : decode cL_goesOn 272 = .ok (.ifCond .ne 8, 3) := by decide +kernel
theorem dL_goesOn_275 : decode cL_goesOn 275 = .ok (.ldc 18, 2) := by decide +kernel
theorem dL_goesOn_277 : decode cL_goesOn 277 = .ok (.goto 5, 3) := by decide +kernel
theorem dL_goesOn_280 : decode cL_goesOn 280 = .ok (.ldc 44, 2) := by decide +kernel
theorem dL_goesOn_282 : decode cL_goesOn 282 = .ok (.if_icmp .ne 7, 3) := by decide +kernel
theorem dL_goesOn_285 : decode cL_goesOn 285 = .ok (.iconst 1, 1) := by decide +kernel
theorem dL_goesOn_286 : decode cL_goesOn 286 = .ok (.goto 4, 3) := by decide +kernel
theorem dL_goesOn_289 : decode cL_goesOn 289 = .ok (.iconst 0, 1) := by decide +kernel
theorem dL_goesOn_290 : decode cL_goesOn 290 = .ok (.ireturn, 1) := by decide +kernel
theorem dL_goesOn_291 : decode cL_goesOn 291 = .ok (.iload 5, 2) := by decide +kernel
theorem dL_goesOn_293 : decode cL_goesOn 293 = .ok (.iconst 3, 1) := by decide +kernel
theorem dL_goesOn_294 : decode cL_goesOn 294 = .ok (.ishr, 1) := by decide +kernel
theorem dL_goesOn_295 : decode cL_goesOn 295 = .ok (.bipush 6, 2) := by decide +kernel
theorem dL_goesOn_297 : decode cL_goesOn 297 = .ok (.invokestatic 107, 3) := by decide +kernel
theorem dL_goesOn_300 : decode cL_goesOn 300 = .ok (.istore 9, 2) := by decide +kernel
theorem dL_goesOn_302 : decode cL_goesOn 302 = .ok (.iload 7, 2) := by decide +kernel
theorem dL_goesOn_304 : decode cL_goesOn 304 = .ok (.iconst 4, 1) := by decide +kernel
theorem dL_goesOn_305 : decode cL_goesOn 305 = .ok (.if_icmp .ne 58, 3) := by decide +kernel
theorem dL_goesOn_308 : decode cL_goesOn 308 = .ok (.aload_n 0, 1) := by decide +kernel
theorem dL_goesOn_309 : decode cL_goesOn 309 = .ok (.iload 9, 2) := by decide +kernel
theorem dL_goesOn_311 : decode cL_goesOn 311 = .ok (.invokestatic 165, 3) := by decide +kernel
theorem dL_goesOn_314 : decode cL_goesOn 314 = .ok (.istore 10, 2) := by decide +kernel
theorem dL_goesOn_316 : decode cL_goesOn 316 = .ok (.iload 10, 2) := by decide +kernel
theorem dL_goesOn_318 : decode cL_goesOn 318 = .ok (.iconst (-1), 1) := by decide +kernel
theorem dL_goesOn_319 : decode cL_goesOn 319 = .ok (.if_icmp .eq 38, 3) := by decide +kernel
theorem dL_goesOn_322 : decode cL_goesOn 322 = .ok (.iload 10, 2) := by decide +kernel
theorem dL_goesOn_324 : decode cL_goesOn 324 = .ok (.ifCond .lt 37, 3) := by decide +kernel
theorem dL_goesOn_327 : decode cL_goesOn 327 = .ok (.iload 10, 2) := by decide +kernel
theorem dL_goesOn_329 : decode cL_goesOn 329 = .ok (.aload_n 1, 1) := by decide +kernel
theorem dL_goesOn_330 : decode cL_goesOn 330 = .ok (.iconst 0, 1) := by decide +kernel
theorem dL_goesOn_331 : decode cL_goesOn 331 = .ok (.iaload, 1) := by decide +kernel
theorem dL_goesOn_332 : decode cL_goesOn 332 = .ok (.if_icmp .ge 29, 3) := by decide +kernel
theorem dL_goesOn_335 : decode cL_goesOn 335 = .ok (.aload_n 2, 1) := by decide +kernel
theorem dL_goesOn_336 : decode cL_goesOn 336 = .ok (.iload 10, 2) := by decide +kernel
theorem dL_goesOn_338 : decode cL_goesOn 338 = .ok (.iaload, 1) := by decide +kernel
theorem dL_goesOn_339 : decode cL_goesOn 339 = .ok (.bipush 8, 2) := by decide +kernel
theorem dL_goesOn_341 : decode cL_goesOn 341 = .ok (.irem, 1) := by decide +kernel
theorem dL_goesOn_342 : decode cL_goesOn 342 = .ok (.iload 9, 2) := by decide +kernel
theorem dL_goesOn_344 : decode cL_goesOn 344 = .ok (.if_icmp .ne 17, 3) := by decide +kernel
theorem dL_goesOn_347 : decode cL_goesOn 347 = .ok (.aload_n 0, 1) := by decide +kernel
theorem dL_goesOn_348 : decode cL_goesOn 348 = .ok (.iload 10, 2) := by decide +kernel
theorem dL_goesOn_350 : decode cL_goesOn 350 = .ok (.invokestatic 144, 3) := by decide +kernel
theorem dL_goesOn_353 : decode cL_goesOn 353 = .ok (.iconst 4, 1) := by decide +kernel
theorem dL_goesOn_354 : decode cL_goesOn 354 = .ok (.if_icmp .ne 7, 3) := by decide +kernel
theorem dL_goesOn_357 : decode cL_goesOn 357 = .ok (.iconst 1, 1) := by decide +kernel
theorem dL_goesOn_358 : decode cL_goesOn 358 = .ok (.goto 4, 3) := by decide +kernel
theorem dL_goesOn_361 : decode cL_goesOn 361 = .ok (.iconst 0, 1) := by decide +kernel
theorem dL_goesOn_362 : decode cL_goesOn 362 = .ok (.ireturn, 1) := by decide +kernel
theorem dL_goesOn_363 : decode cL_goesOn 363 = .ok (.aload_n 0, 1) := by decide +kernel
theorem dL_goesOn_364 : decode cL_goesOn 364 = .ok (.iload 9, 2) := by decide +kernel
theorem dL_goesOn_366 : decode cL_goesOn 366 = .ok (.iload 6, 2) := by decide +kernel
theorem dL_goesOn_368 : decode cL_goesOn 368 = .ok (.iconst 4, 1) := by decide +kernel
theorem dL_goesOn_369 : decode cL_goesOn 369 = .ok (.invokestatic 107, 3) := by decide +kernel
theorem dL_goesOn_372 : decode cL_goesOn 372 = .ok (.invokestatic 167, 3) := by decide +kernel
theorem dL_goesOn_375 : decode cL_goesOn 375 = .ok (.istore 10, 2) := by decide +kernel
theorem dL_goesOn_377 : decode cL_goesOn 377 = .ok (.iload 10, 2) := by decide +kernel
theorem dL_goesOn_379 : decode cL_goesOn 379 = .ok (.ifCond .lt 11, 3) := by decide +kernel
theorem dL_goesOn_382 : decode cL_goesOn 382 = .ok (.iload 10, 2) := by decide +kernel
theorem dL_goesOn_384 : decode cL_goesOn 384 = .ok (.aload_n 1, 1) := by decide +kernel
theorem dL_goesOn_385 : decode cL_goesOn 385 = .ok (.iconst 0, 1) := by decide +kernel
theorem dL_goesOn_386 : decode cL_goesOn 386 = .ok (.iaload, 1) := by decide +kernel
theorem dL_goesOn_387 : decode cL_goesOn 387 = .ok (.if_icmp .le 10, 3) := by decide +kernel
theorem dL_goesOn_390 : decode cL_goesOn 390 = .ok (.iload 10, 2) := by decide +kernel
theorem dL_goesOn_392 : decode cL_goesOn 392 = .ok (.ldc 21, 2) := by decide +kernel
theorem dL_goesOn_394 : decode cL_goesOn 394 = .ok (.if_icmp .ne 7, 3) := by decide +kernel
theorem dL_goesOn_397 : decode cL_goesOn 397 = .ok (.iconst 1, 1) := by decide +kernel
theorem dL_goesOn_398 : decode cL_goesOn 398 = .ok (.goto 4, 3) := by decide +kernel
theorem dL_goesOn_401 : decode cL_goesOn 401 = .ok (.iconst 0, 1) := by decide +kernel
theorem dL_goesOn_402 : decode cL_goesOn 402 = .ok (.ireturn, 1) := by decide +kernel
theorem dL_isBook_0 : decode cL_isBook 0 = .ok (.aload_n 0, 1) := by decide +kernel
theorem dL_isBook_1 : decode cL_isBook 1 = .ok (.invokevirtual 118, 3) := by decide +kernel
theorem dL_isBook_4 : decode cL_isBook 4 = .ok (.aload_n 1, 1) := by decide +kernel
theorem dL_isBook_5 : decode cL_isBook 5 = .ok (.iconst 0, 1) := by decide +kernel
theorem dL_isBook_6 : decode cL_isBook 6 = .ok (.iaload, 1) := by decide +kernel
theorem dL_isBook_7 : decode cL_isBook 7 = .ok (.if_icmp .ne 17, 3) := by decide +kernel
theorem dL_isBook_10 : decode cL_isBook 10 = .ok (.aload_n 0, 1) := by decide +kernel
theorem dL_isBook_11 : decode cL_isBook 11 = .ok (.invokevirtual 169, 3) := by decide +kernel
theorem dL_isBook_14 : decode cL_isBook 14 = .ok (.aload_n 1, 1) := by decide +kernel
theorem dL_isBook_15 : decode cL_isBook 15 = .ok (.iconst 2, 1) := by decide +kernel
theorem dL_isBook_16 : decode cL_isBook 16 = .ok (.iaload, 1) := by decide +kernel
theorem dL_isBook_17 : decode cL_isBook 17 = .ok (.if_icmp .lt 7, 3) := by decide +kernel
theorem dL_isBook_20 : decode cL_isBook 20 = .ok (.iconst 1, 1) := by decide +kernel
theorem dL_isBook_21 : decode cL_isBook 21 = .ok (.goto 4, 3) := by decide +kernel
theorem dL_isBook_24 : decode cL_isBook 24 = .ok (.iconst 0, 1) := by decide +kernel
theorem dL_isBook_25 : decode cL_isBook 25 = .ok (.istore 7, 2) := by decide +kernel
theorem dL_isBook_27 : decode cL_isBook 27 = .ok (.iconst 0, 1) := by decide +kernel
theorem dL_isBook_28 : decode cL_isBook 28 = .ok (.istore 8, 2) := by decide +kernel
theorem dL_isBook_30 : decode cL_isBook 30 = .ok (.iload 8, 2) := by decide +kernel
theorem dL_isBook_32 : decode cL_isBook 32 = .ok (.iconst 3, 1) := by decide +kernel
theorem dL_isBook_33 : decode cL_isBook 33 = .ok (.if_icmp .ge 94, 3) := by decide +kernel
theorem dL_isBook_36 : decode cL_isBook 36 = .ok (.lconst 0, 1) := by decide +kernel
theorem dL_isBook_37 : decode cL_isBook 37 = .ok (.lstore 9, 2) := by decide +kernel
theorem dL_isBook_39 : decode cL_isBook 39 = .ok (.iconst 0, 1) := by decide +kernel
theorem dL_isBook_40 : decode cL_isBook 40 = .ok (.istore 11, 2) := by decide +kernel
theorem dL_isBook_42 : decode cL_isBook 42 = .ok (.iload 11, 2) := by decide +kernel
theorem dL_isBook_44 : decode cL_isBook 44 = .ok (.bipush 7, 2) := by decide +kernel
theorem dL_isBook_46 : decode cL_isBook 46 = .ok (.if_icmp .ge 52, 3) := by decide +kernel
theorem dL_isBook_49 : decode cL_isBook 49 = .ok (.aload_n 0, 1) := by decide +kernel
theorem dL_isBook_50 : decode cL_isBook 50 = .ok (.iload 11, 2) := by decide +kernel
theorem dL_isBook_52 : decode cL_isBook 52 = .ok (.iload 8, 2) := by decide +kernel
theorem dL_isBook_54 : decode cL_isBook 54 = .ok (.invokestatic 124, 3) := by decide +kernel
theorem dL_isBook_57 : decode cL_isBook 57 = .ok (.lstore 12, 2) := by decide +kernel
theorem dL_isBook_59 : decode cL_isBook 59 = .ok (.lload 9, 2) := by decide +kernel
theorem dL_isBook_61 : decode cL_isBook 61 = .ok (.lload 12, 2) := by decide +kernel
theorem dL_isBook_63 : decode cL_isBook 63 = .ok (.ladd, 1) := by decide +kernel
theorem dL_isBook_64 : decode cL_isBook 64 = .ok (.lstore 9, 2) := by decide +kernel
theorem dL_isBook_66 : decode cL_isBook 66 = .ok (.iload 7, 2) := by decide +kernel
theorem dL_isBook_68 : decode cL_isBook 68 = .ok (.ifCond .eq 21, 3) := by decide +kernel
theorem dL_isBook_71 : decode cL_isBook 71 = .ok (.lload 12, 2) := by decide +kernel
theorem dL_isBook_73 : decode cL_isBook 73 = .ok (.aload_n 0, 1) := by decide +kernel
theorem dL_isBook_74 : decode cL_isBook 74 = .ok (.iload 11, 2) := by decide +kernel
theorem dL_isBook_76 : decode cL_isBook 76 = .ok (.iload 8, 2) := by decide +kernel
theorem dL_isBook_78 : decode cL_isBook 78 = .ok (.invokestatic 172, 3) := by decide +kernel
theorem dL_isBook_81 : decode cL_isBook 81 = .ok (.lcmp, 1) := by decide +kernel
theorem dL_isBook_82 : decode cL_isBook 82 = .ok (.ifCond .ne 7, 3) := by decide +kernel
theorem dL_isBook_85 : decode cL_isBook 85 = .ok (.iconst 1, 1) := by decide +kernel
theorem dL_isBook_86 : decode cL_isBook 86 = .ok (.goto 4, 3) := by decide +kernel
theorem dL_isBook_89 : decode cL_isBook 89 = .ok (.iconst 0, 1) := by decide +kernel
theorem dL_isBook_90 : decode cL_isBook 90 = .ok (.istore 7, 2) := by decide +kernel
theorem dL_isBook_92 : decode cL_isBook 92 = .ok (.iinc 11 1, 3) := by decide +kernel
theorem dL_isBook_95 : decode cL_isBook 95 = .ok (.goto (-53), 3) := by decide +kernel
theorem dL_isBook_98 : decode cL_isBook 98 = .ok (.iload 7, 2) := by decide +kernel
theorem dL_isBook_100 : decode cL_isBook 100 = .ok (.ifCond .eq 18, 3) := by decide +kernel
theorem dL_isBook_103 : decode cL_isBook 103 = .ok (.lload 9, 2) := by decide +kernel
theorem dL_isBook_105 : decode cL_isBook 105 = .ok (.aload 6, 2) := by decide +kernel
theorem dL_isBook_107 : decode cL_isBook 107 = .ok (.iload 8, 2) := by decide +kernel
theorem dL_isBook_109 : decode cL_isBook 109 = .ok (.laload, 1) := by decide +kernel
theorem dL_isBook_110 : decode cL_isBook 110 = .ok (.lcmp, 1) := by decide +kernel
theorem dL_isBook_111 : decode cL_isBook 111 = .ok (.ifCond .ne 7, 3) := by decide +kernel
theorem dL_isBook_114 : decode cL_isBook 114 = .ok (.iconst 1, 1) := by decide +kernel
theorem dL_isBook_115 : decode cL_isBook 115 = .ok (.goto 4, 3) := by decide +kernel
theorem dL_isBook_118 : decode cL_isBook 118 = .ok (.iconst 0, 1) := by decide +kernel
theorem dL_isBook_119 : decode cL_isBook 119 = .ok (.istore 7, 2) := by decide +kernel
theorem dL_isBook_121 : decode cL_isBook 121 = .ok (.iinc 8 1, 3) := by decide +kernel
theorem dL_isBook_124 : decode cL_isBook 124 = .ok (.goto (-94), 3) := by decide +kernel
theorem dL_isBook_127 : decode cL_isBook 127 = .ok (.aload_n 1, 1) := by decide +kernel
theorem dL_isBook_128 : decode cL_isBook 128 = .ok (.iconst 2, 1) := by decide +kernel
theorem dL_isBook_129 : decode cL_isBook 129 = .ok (.iaload, 1) := by decide +kernel
theorem dL_isBook_130 : decode cL_isBook 130 = .ok (.istore 8, 2) := by decide +kernel
theorem dL_isBook_132 : decode cL_isBook 132 = .ok (.iload 8, 2) := by decide +kernel
theorem dL_isBook_134 : decode cL_isBook 134 = .ok (.aload_n 0, 1) := by decide +kernel
theorem dL_isBook_135 : decode cL_isBook 135 = .ok (.invokevirtual 169, 3) := by decide +kernel
theorem dL_isBook_138 : decode cL_isBook 138 = .ok (.if_icmp .ge 160, 3) := by decide +kernel
theorem dL_isBook_141 : decode cL_isBook 141 = .ok (.iload 7, 2) := by decide +kernel
theorem dL_isBook_143 : decode cL_isBook 143 = .ok (.ifCond .eq 155, 3) := by decide +kernel
theorem dL_isBook_146 : decode cL_isBook 146 = .ok (.aload_n 0, 1) := by decide +kernel
theorem dL_isBook_147 : decode cL_isBook 147 = .ok (.iload 8, 2) := by decide +kernel
theorem dL_isBook_149 : decode cL_isBook 149 = .ok (.iconst 4, 1) := by decide +kernel
theorem dL_isBook_150 : decode cL_isBook 150 = .ok (.invokestatic 174, 3) := by decide +kernel
theorem dL_isBook_153 : decode cL_isBook 153 = .ok (.l2i, 1) := by decide +kernel
theorem dL_isBook_154 : decode cL_isBook 154 = .ok (.istore 9, 2) := by decide +kernel
theorem dL_isBook_156 : decode cL_isBook 156 = .ok (.aload_n 0, 1) := by decide +kernel
theorem dL_isBook_157 : decode cL_isBook 157 = .ok (.iload 8, 2) := by decide +kernel
theorem dL_isBook_159 : decode cL_isBook 159 = .ok (.iconst 3, 1) := by decide +kernel
theorem dL_isBook_160 : decode cL_isBook 160 = .ok (.invokestatic 174, 3) := by decide +kernel
theorem dL_isBook_163 : decode cL_isBook 163 = .ok (.lconst 0, 1) := by decide +kernel
theorem dL_isBook_164 : decode cL_isBook 164 = .ok (.lcmp, 1) := by decide +kernel
theorem dL_isBook_165 : decode cL_isBook 165 = .ok (.ifCond .le 108, 3) := by decide +kernel
theorem dL_isBook_168 : decode cL_isBook 168 = .ok (.iload 9, 2) := by decide +kernel
theorem dL_isBook_170 : decode cL_isBook 170 = .ok (.iconst (-1), 1) := by decide +kernel
theorem dL_isBook_171 : decode cL_isBook 171 = .ok (.if_icmp .eq 98, 3) := by decide +kernel
theorem dL_isBook_174 : decode cL_isBook 174 = .ok (.aload 5, 2) := by decide +kernel
theorem dL_isBook_176 : decode cL_isBook 176 = .ok (.iload 9, 2) := by decide +kernel
theorem dL_isBook_178 : decode cL_isBook 178 = .ok (.iaload, 1) := by decide +kernel
theorem dL_isBook_179 : decode cL_isBook 179 = .ok (.iconst 4, 1) := by decide +kernel
theorem dL_isBook_180 : decode cL_isBook 180 = .ok (.if_icmp .ge 93, 3) := by decide +kernel
theorem dL_isBook_183 : decode cL_isBook 183 = .ok (.aload_n 0, 1) := by decide +kernel
theorem dL_isBook_184 : decode cL_isBook 184 = .ok (.iload 9, 2) := by decide +kernel
theorem dL_isBook_186 : decode cL_isBook 186 = .ok (.invokestatic 144, 3) := by decide +kernel
theorem dL_isBook_189 : decode cL_isBook 189 = .ok (.iconst 4, 1) := by decide +kernel
theorem dL_isBook_190 : decode cL_isBook 190 = .ok (.if_icmp .ne 83, 3) := by decide +kernel
theorem dL_isBook_193 : decode cL_isBook 193 = .ok (.aload_n 0, 1) := by decide +kernel
theorem dL_isBook_194 : decode cL_isBook 194 = .ok (.iload 8, 2) := by decide +kernel
theorem dL_isBook_196 : decode cL_isBook 196 = .ok (.iconst 0, 1) := by decide +kernel
theorem dL_isBook_197 : decode cL_isBook 197 = .ok (.invokestatic 174, 3) := by decide +kernel
theorem dL_isBook_200 : decode cL_isBook 200 = .ok (.aload_n 2, 1) := by decide +kernel
theorem dL_isBook_201 : decode cL_isBook 201 = .ok (.iload 9, 2) := by decide +kernel
theorem dL_isBook_203 : decode cL_isBook 203 = .ok (.iaload, 1) := by decide +kernel
theorem dL_isBook_204 : decode cL_isBook 204 = .ok (.bipush 8, 2) := by decide +kernel
theorem dL_isBook_206 : decode cL_isBook 206 = .ok (.idiv, 1) := by decide +kernel
theorem dL_isBook_207 : decode cL_isBook 207 = .ok (.i2l, 1) := by decide +kernel
theorem dL_isBook_208 : decode cL_isBook 208 = .ok (.lcmp, 1) := by decide +kernel
theorem dL_isBook_209 : decode cL_isBook 209 = .ok (.ifCond .ne 64, 3) := by decide +kernel
theorem dL_isBook_212 : decode cL_isBook 212 = .ok (.aload_n 0, 1) := by decide +kernel
theorem dL_isBook_213 : decode cL_isBook 213 = .ok (.iload 8, 2) := by decide +kernel
theorem dL_isBook_215 : decode cL_isBook 215 = .ok (.iconst 1, 1) := by decide +kernel
theorem dL_isBook_216 : decode cL_isBook 216 = .ok (.invokestatic 174, 3) := by decide +kernel
theorem dL_isBook_219 : decode cL_isBook 219 = .ok (.aload_n 2, 1) := by decide +kernel
theorem dL_isBook_220 : decode cL_isBook 220 = .ok (.iload 9, 2) := by decide +kernel
theorem dL_isBook_222 : decode cL_isBook 222 = .ok (.iaload, 1) := by decide +kernel
theorem dL_isBook_223 : decode cL_isBook 223 = .ok (.bipush 8, 2) := by decide +kernel
theorem dL_isBook_225 : decode cL_isBook 225 = .ok (.irem, 1) := by decide +kernel
theorem dL_isBook_226 : decode cL_isBook 226 = .ok (.i2l, 1) := by decide +kernel
theorem dL_isBook_227 : decode cL_isBook 227 = .ok (.lcmp, 1) := by decide +kernel
theorem dL_isBook_228 : decode cL_isBook 228 = .ok (.ifCond .ne 45, 3) := by decide +kernel
theorem dL_isBook_231 : decode cL_isBook 231 = .ok (.aload_n 0, 1) := by decide +kernel
theorem dL_isBook_232 : decode cL_isBook 232 = .ok (.iload 8, 2) := by decide +kernel
theorem dL_isBook_234 : decode cL_isBook 234 = .ok (.iconst 2, 1) := by decide +kernel
theorem dL_isBook_235 : decode cL_isBook 235 = .ok (.invokestatic 174, 3) := by decide +kernel
theorem dL_isBook_238 : decode cL_isBook 238 = .ok (.aload_n 3, 1) := by decide +kernel
theorem dL_isBook_239 : decode cL_isBook 239 = .ok (.iload 9, 2) := by decide +kernel
theorem dL_isBook_241 : decode cL_isBook 241 = .ok (.iaload, 1) := by decide +kernel
theorem dL_isBook_242 : decode cL_isBook 242 = .ok (.bipush 64, 2) := by decide +kernel
theorem dL_isBook_244 : decode cL_isBook 244 = .ok (.idiv, 1) := by decide +kernel
theorem dL_isBook_245 : decode cL_isBook 245 = .ok (.i2l, 1) := by decide +kernel
theorem dL_isBook_246 : decode cL_isBook 246 = .ok (.lcmp, 1) := by decide +kernel
theorem dL_isBook_247 : decode cL_isBook 247 = .ok (.ifCond .ne 26, 3) := by decide +kernel
theorem dL_isBook_250 : decode cL_isBook 250 = .ok (.aload_n 0, 1) := by decide +kernel
theorem dL_isBook_251 : decode cL_isBook 251 = .ok (.iload 8, 2) := by decide +kernel
theorem dL_isBook_253 : decode cL_isBook 253 = .ok (.iconst 3, 1) := by decide +kernel
theorem dL_isBook_254 : decode cL_isBook 254 = .ok (.invokestatic 174, 3) := by decide +kernel
theorem dL_isBook_257 : decode cL_isBook 257 = .ok (.aload_n 3, 1) := by decide +kernel
theorem dL_isBook_258 : decode cL_isBook 258 = .ok (.iload 9, 2) := by decide +kernel
theorem dL_isBook_260 : decode cL_isBook 260 = .ok (.iaload, 1) := by decide +kernel
theorem dL_isBook_261 : decode cL_isBook 261 = .ok (.bipush 64, 2) := by decide +kernel
theorem dL_isBook_263 : decode cL_isBook 263 = .ok (.irem, 1) := by decide +kernel
theorem dL_isBook_264 : decode cL_isBook 264 = .ok (.i2l, 1) := by decide +kernel
theorem dL_isBook_265 : decode cL_isBook 265 = .ok (.lcmp, 1) := by decide +kernel
theorem dL_isBook_266 : decode cL_isBook 266 = .ok (.ifCond .ne 7, 3) := by decide +kernel
theorem dL_isBook_269 : decode cL_isBook 269 = .ok (.iconst 1, 1) := by decide +kernel
theorem dL_isBook_270 : decode cL_isBook 270 = .ok (.goto 4, 3) := by decide +kernel
theorem dL_isBook_273 : decode cL_isBook 273 = .ok (.iconst 0, 1) := by decide +kernel
theorem dL_isBook_274 : decode cL_isBook 274 = .ok (.istore 7, 2) := by decide +kernel
theorem dL_isBook_276 : decode cL_isBook 276 = .ok (.iload 7, 2) := by decide +kernel
theorem dL_isBook_278 : decode cL_isBook 278 = .ok (.ifCond .eq 14, 3) := by decide +kernel
theorem dL_isBook_281 : decode cL_isBook 281 = .ok (.iload 9, 2) := by decide +kernel
theorem dL_isBook_283 : decode cL_isBook 283 = .ok (.ifCond .lt 9, 3) := by decide +kernel
theorem dL_isBook_286 : decode cL_isBook 286 = .ok (.aload 5, 2) := by decide +kernel
theorem dL_isBook_288 : decode cL_isBook 288 = .ok (.iload 9, 2) := by decide +kernel
theorem dL_isBook_290 : decode cL_isBook 290 = .ok (.iconst 4, 1) := by decide +kernel
theorem dL_isBook_291 : decode cL_isBook 291 = .ok (.iastore, 1) := by decide +kernel
theorem dL_isBook_292 : decode cL_isBook 292 = .ok (.iinc 8 1, 3) := by decide +kernel
theorem dL_isBook_295 : decode cL_isBook 295 = .ok (.goto (-163), 3) := by decide +kernel
theorem dL_isBook_298 : decode cL_isBook 298 = .ok (.aload_n 1, 1) := by decide +kernel
theorem dL_isBook_299 : decode cL_isBook 299 = .ok (.iconst 2, 1) := by decide +kernel
theorem dL_isBook_300 : decode cL_isBook 300 = .ok (.aload_n 0, 1) := by decide +kernel
theorem dL_isBook_301 : decode cL_isBook 301 = .ok (.invokevirtual 169, 3) := by decide +kernel
theorem dL_isBook_304 : decode cL_isBook 304 = .ok (.iastore, 1) := by decide +kernel
theorem dL_isBook_305 : decode cL_isBook 305 = .ok (.iconst 0, 1) := by decide +kernel
theorem dL_isBook_306 : decode cL_isBook 306 = .ok (.istore 8, 2) := by decide +kernel
theorem dL_isBook_308 : decode cL_isBook 308 = .ok (.iload 8, 2) := by decide +kernel
theorem dL_isBook_310 : decode cL_isBook 310 = .ok (.aload_n 1, 1) := by decide +kernel
theorem dL_isBook_311 : decode cL_isBook 311 = .ok (.iconst 0, 1) := by decide +kernel
theorem dL_isBook_312 : decode cL_isBook 312 = .ok (.iaload, 1) := by decide +kernel
theorem dL_isBook_313 : decode cL_isBook 313 = .ok (.if_icmp .ge 90, 3) := by decide +kernel
theorem dL_isBook_316 : decode cL_isBook 316 = .ok (.iload 7, 2) := by decide +kernel
theorem dL_isBook_318 : decode cL_isBook 318 = .ok (.ifCond .eq 85, 3) := by decide +kernel
theorem dL_isBook_321 : decode cL_isBook 321 = .ok (.aload_n 0, 1) := by decide +kernel
theorem dL_isBook_322 : decode cL_isBook 322 = .ok (.iload 8, 2) := by decide +kernel
theorem dL_isBook_324 : decode cL_isBook 324 = .ok (.invokestatic 144, 3) := by decide +kernel
theorem dL_isBook_327 : decode cL_isBook 327 = .ok (.istore 9, 2) := by decide +kernel
theorem dL_isBook_329 : decode cL_isBook 329 = .ok (.iload 9, 2) := by decide +kernel
theorem dL_isBook_331 : decode cL_isBook 331 = .ok (.ifCond .lt 56, 3) := by decide +kernel
theorem dL_isBook_334 : decode cL_isBook 334 = .ok (.iload 9, 2) := by decide +kernel
theorem dL_isBook_336 : decode cL_isBook 336 = .ok (.iconst 5, 1) := by decide +kernel
theorem dL_isBook_337 : decode cL_isBook 337 = .ok (.if_icmp .gt 50, 3) := by decide +kernel
theorem dL_isBook_340 : decode cL_isBook 340 = .ok (.aload 5, 2) := by decide +kernel
theorem dL_isBook_342 : decode cL_isBook 342 = .ok (.iload 8, 2) := by decide +kernel
theorem dL_isBook_344 : decode cL_isBook 344 = .ok (.iaload, 1) := by decide +kernel
theorem dL_isBook_345 : decode cL_isBook 345 = .ok (.iconst 4, 1) := by decide +kernel
theorem dL_isBook_346 : decode cL_isBook 346 = .ok (.if_icmp .ne 7, 3) := by decide +kernel
theorem dL_isBook_349 : decode cL_isBook 349 = .ok (.iconst 1, 1) := by decide +kernel
theorem dL_isBook_350 : decode cL_isBook 350 = .ok (.goto 4, 3) := by decide +kernel
theorem dL_isBook_353 : decode cL_isBook 353 = .ok (.iconst 0, 1) := by decide +kernel
theorem dL_isBook_354 : decode cL_isBook 354 = .ok (.iload 9, 2) := by decide +kernel
theorem dL_isBook_356 : decode cL_isBook 356 = .ok (.iconst 4, 1) := by decide +kernel
theorem dL_isBook_357 : decode cL_isBook 357 = .ok (.if_icmp .ne 7, 3) := by decide +kernel
theorem dL_isBook_360 : decode cL_isBook 360 = .ok (.iconst 1, 1) := by decide +kernel
theorem dL_isBook_361 : decode cL_isBook 361 = .ok (.goto 4, 3) := by decide +kernel
theorem dL_isBook_364 : decode cL_isBook 364 = .ok (.iconst 0, 1) := by decide +kernel
theorem dL_isBook_365 : decode cL_isBook 365 = .ok (.if_icmp .ne 22, 3) := by decide +kernel
theorem dL_isBook_368 : decode cL_isBook 368 = .ok (.aload 5, 2) := by decide +kernel
theorem dL_isBook_370 : decode cL_isBook 370 = .ok (.iload 8, 2) := by decide +kernel
theorem dL_isBook_372 : decode cL_isBook 372 = .ok (.iaload, 1) := by decide +kernel
theorem dL_isBook_373 : decode cL_isBook 373 = .ok (.iconst 5, 1) := by decide +kernel
theorem dL_isBook_374 : decode cL_isBook 374 = .ok (.if_icmp .ne 9, 3) := by decide +kernel
theorem dL_isBook_377 : decode cL_isBook 377 = .ok (.iload 9, 2) := by decide +kernel
theorem dL_isBook_379 : decode cL_isBook 379 = .ok (.iconst 5, 1) := by decide +kernel
theorem dL_isBook_380 : decode cL_isBook 380 = .ok (.if_icmp .ne 7, 3) := by decide +kernel
theorem dL_isBook_383 : decode cL_isBook 383 = .ok (.iconst 1, 1) := by decide +kernel
theorem dL_isBook_384 : decode cL_isBook 384 = .ok (.goto 4, 3) := by decide +kernel
theorem dL_isBook_387 : decode cL_isBook 387 = .ok (.iconst 0, 1) := by decide +kernel
theorem dL_isBook_388 : decode cL_isBook 388 = .ok (.istore 7, 2) := by decide +kernel
theorem dL_isBook_390 : decode cL_isBook 390 = .ok (.aload 5, 2) := by decide +kernel
theorem dL_isBook_392 : decode cL_isBook 392 = .ok (.iload 8, 2) := by decide +kernel
theorem dL_isBook_394 : decode cL_isBook 394 = .ok (.iload 9, 2) := by decide +kernel
theorem dL_isBook_396 : decode cL_isBook 396 = .ok (.iastore, 1) := by decide +kernel
theorem dL_isBook_397 : decode cL_isBook 397 = .ok (.iinc 8 1, 3) := by decide +kernel
theorem dL_isBook_400 : decode cL_isBook 400 = .ok (.goto (-92), 3) := by decide +kernel
theorem dL_isBook_403 : decode cL_isBook 403 = .ok (.iload 7, 2) := by decide +kernel
theorem dL_isBook_405 : decode cL_isBook 405 = .ok (.ireturn, 1) := by decide +kernel
theorem dL_areQueues_0 : decode cL_areQueues 0 = .ok (.iload 5, 2) := by decide +kernel
theorem dL_areQueues_2 : decode cL_areQueues 2 = .ok (.bipush 6, 2) := by decide +kernel
theorem dL_areQueues_4 : decode cL_areQueues 4 = .ok (.invokestatic 107, 3) := by decide +kernel
theorem dL_areQueues_7 : decode cL_areQueues 7 = .ok (.istore 6, 2) := by decide +kernel
theorem dL_areQueues_9 : decode cL_areQueues 9 = .ok (.iload 5, 2) := by decide +kernel
theorem dL_areQueues_11 : decode cL_areQueues 11 = .ok (.iconst 3, 1) := by decide +kernel
theorem dL_areQueues_12 : decode cL_areQueues 12 = .ok (.ishr, 1) := by decide +kernel
theorem dL_areQueues_13 : decode cL_areQueues 13 = .ok (.iconst 3, 1) := by decide +kernel
theorem dL_areQueues_14 : decode cL_areQueues 14 = .ok (.invokestatic 107, 3) := by decide +kernel
theorem dL_areQueues_17 : decode cL_areQueues 17 = .ok (.istore 7, 2) := by decide +kernel
theorem dL_areQueues_19 : decode cL_areQueues 19 = .ok (.iconst (-1), 1) := by decide +kernel
theorem dL_areQueues_20 : decode cL_areQueues 20 = .ok (.istore 8, 2) := by decide +kernel
theorem dL_areQueues_22 : decode cL_areQueues 22 = .ok (.iconst 0, 1) := by decide +kernel
theorem dL_areQueues_23 : decode cL_areQueues 23 = .ok (.istore 9, 2) := by decide +kernel
theorem dL_areQueues_25 : decode cL_areQueues 25 = .ok (.iconst 1, 1) := by decide +kernel
theorem dL_areQueues_26 : decode cL_areQueues 26 = .ok (.istore 10, 2) := by decide +kernel
theorem dL_areQueues_28 : decode cL_areQueues 28 = .ok (.aload_n 0, 1) := by decide +kernel
theorem dL_areQueues_29 : decode cL_areQueues 29 = .ok (.iload 6, 2) := by decide +kernel
theorem dL_areQueues_31 : decode cL_areQueues 31 = .ok (.iload 7, 2) := by decide +kernel
theorem dL_areQueues_33 : decode cL_areQueues 33 = .ok (.iconst 0, 1) := by decide +kernel
theorem dL_areQueues_34 : decode cL_areQueues 34 = .ok (.invokestatic 176, 3) := by decide +kernel
theorem dL_areQueues_37 : decode cL_areQueues 37 = .ok (.istore 11, 2) := by decide +kernel
theorem dL_areQueues_39 : decode cL_areQueues 39 = .ok (.iload 11, 2) := by decide +kernel
theorem dL_areQueues_41 : decode cL_areQueues 41 = .ok (.ifCond .lt 128, 3) := by decide +kernel
theorem dL_areQueues_44 : decode cL_areQueues 44 = .ok (.iload 10, 2) := by decide +kernel
theorem dL_areQueues_46 : decode cL_areQueues 46 = .ok (.ifCond .eq 123, 3) := by decide +kernel
theorem dL_areQueues_49 : decode cL_areQueues 49 = .ok (.aload_n 0, 1) := by decide +kernel
theorem dL_areQueues_50 : decode cL_areQueues 50 = .ok (.iload 11, 2) := by decide +kernel
theorem dL_areQueues_52 : decode cL_areQueues 52 = .ok (.invokestatic 144, 3) := by decide +kernel
theorem dL_areQueues_55 : decode cL_areQueues 55 = .ok (.iconst 2, 1) := by decide +kernel
theorem dL_areQueues_56 : decode cL_areQueues 56 = .ok (.if_icmp .ne 88, 3) := by decide +kernel
theorem dL_areQueues_59 : decode cL_areQueues 59 = .ok (.aload_n 2, 1) := by decide +kernel
theorem dL_areQueues_60 : decode cL_areQueues 60 = .ok (.iload 11, 2) := by decide +kernel
theorem dL_areQueues_62 : decode cL_areQueues 62 = .ok (.iaload, 1) := by decide +kernel
theorem dL_areQueues_63 : decode cL_areQueues 63 = .ok (.bipush 8, 2) := by decide +kernel
theorem dL_areQueues_65 : decode cL_areQueues 65 = .ok (.idiv, 1) := by decide +kernel
theorem dL_areQueues_66 : decode cL_areQueues 66 = .ok (.iload 6, 2) := by decide +kernel
theorem dL_areQueues_68 : decode cL_areQueues 68 = .ok (.if_icmp .ne 76, 3) := by decide +kernel
theorem dL_areQueues_71 : decode cL_areQueues 71 = .ok (.aload_n 3, 1) := by decide +kernel
theorem dL_areQueues_72 : decode cL_areQueues 72 = .ok (.iload 11, 2) := by decide +kernel
theorem dL_areQueues_74 : decode cL_areQueues 74 = .ok (.iaload, 1) := by decide +kernel
theorem dL_areQueues_75 : decode cL_areQueues 75 = .ok (.bipush 64, 2) := by decide +kernel
theorem dL_areQueues_77 : decode cL_areQueues 77 = .ok (.idiv, 1) := by decide +kernel
theorem dL_areQueues_78 : decode cL_areQueues 78 = .ok (.iload 7, 2) := by decide +kernel
theorem dL_areQueues_80 : decode cL_areQueues 80 = .ok (.if_icmp .ne 64, 3) := by decide +kernel
theorem dL_areQueues_83 : decode cL_areQueues 83 = .ok (.aload 4, 2) := by decide +kernel
theorem dL_areQueues_85 : decode cL_areQueues 85 = .ok (.iload 11, 2) := by decide +kernel
theorem dL_areQueues_87 : decode cL_areQueues 87 = .ok (.iaload, 1) := by decide +kernel
theorem dL_areQueues_88 : decode cL_areQueues 88 = .ok (.iconst 2, 1) := by decide +kernel
theorem dL_areQueues_89 : decode cL_areQueues 89 = .ok (.irem, 1) := by decide +kernel
theorem dL_areQueues_90 : decode cL_areQueues 90 = .ok (.iconst 1, 1) := by decide +kernel
theorem dL_areQueues_91 : decode cL_areQueues 91 = .ok (.if_icmp .ne 53, 3) := by decide +kernel
theorem dL_areQueues_94 : decode cL_areQueues 94 = .ok (.iload 8, 2) := by decide +kernel
theorem dL_areQueues_96 : decode cL_areQueues 96 = .ok (.ifCond .lt 44, 3) := by decide +kernel
theorem dL_areQueues_99 : decode cL_areQueues 99 = .ok (.aload 4, 2) := by decide +kernel
theorem dL_areQueues_101 : decode cL_areQueues 101 = .ok (.iload 11, 2) := by decide +kernel
theorem dL_areQueues_103 : decode cL_areQueues 103 = .ok (.iaload, 1) := by decide +kernel
theorem dL_areQueues_104 : decode cL_areQueues 104 = .ok (.iconst 2, 1) := by decide +kernel
theorem dL_areQueues_105 : decode cL_areQueues 105 = .ok (.idiv, 1) := by decide +kernel
theorem dL_areQueues_106 : decode cL_areQueues 106 = .ok (.aload 4, 2) := by decide +kernel
theorem dL_areQueues_108 : decode cL_areQueues 108 = .ok (.iload 8, 2) := by decide +kernel
theorem dL_areQueues_110 : decode cL_areQueues 110 = .ok (.iaload, 1) := by decide +kernel
theorem dL_areQueues_111 : decode cL_areQueues 111 = .ok (.iconst 2, 1) := by decide +kernel
theorem dL_areQueues_112 : decode cL_areQueues 112 = .ok (.idiv, 1) := by decide +kernel
theorem dL_areQueues_113 : decode cL_areQueues 113 = .ok (.if_icmp .lt 27, 3) := by decide +kernel
theorem dL_areQueues_116 : decode cL_areQueues 116 = .ok (.aload 4, 2) := by decide +kernel
theorem dL_areQueues_118 : decode cL_areQueues 118 = .ok (.iload 11, 2) := by decide +kernel
theorem dL_areQueues_120 : decode cL_areQueues 120 = .ok (.iaload, 1) := by decide +kernel
theorem dL_areQueues_121 : decode cL_areQueues 121 = .ok (.iconst 2, 1) := by decide +kernel
theorem dL_areQueues_122 : decode cL_areQueues 122 = .ok (.idiv, 1) := by decide +kernel
theorem dL_areQueues_123 : decode cL_areQueues 123 = .ok (.aload 4, 2) := by decide +kernel
theorem dL_areQueues_125 : decode cL_areQueues 125 = .ok (.iload 8, 2) := by decide +kernel
theorem dL_areQueues_127 : decode cL_areQueues 127 = .ok (.iaload, 1) := by decide +kernel
theorem dL_areQueues_128 : decode cL_areQueues 128 = .ok (.iconst 2, 1) := by decide +kernel
theorem dL_areQueues_129 : decode cL_areQueues 129 = .ok (.idiv, 1) := by decide +kernel
theorem dL_areQueues_130 : decode cL_areQueues 130 = .ok (.if_icmp .ne 14, 3) := by decide +kernel
theorem dL_areQueues_133 : decode cL_areQueues 133 = .ok (.iload 11, 2) := by decide +kernel
theorem dL_areQueues_135 : decode cL_areQueues 135 = .ok (.iload 8, 2) := by decide +kernel
theorem dL_areQueues_137 : decode cL_areQueues 137 = .ok (.if_icmp .le 7, 3) := by decide +kernel
theorem dL_areQueues_140 : decode cL_areQueues 140 = .ok (.iconst 1, 1) := by decide +kernel
theorem dL_areQueues_141 : decode cL_areQueues 141 = .ok (.goto 4, 3) := by decide +kernel
theorem dL_areQueues_144 : decode cL_areQueues 144 = .ok (.iconst 0, 1) := by decide +kernel
theorem dL_areQueues_145 : decode cL_areQueues 145 = .ok (.istore 10, 2) := by decide +kernel
theorem dL_areQueues_147 : decode cL_areQueues 147 = .ok (.iload 11, 2) := by decide +kernel
theorem dL_areQueues_149 : decode cL_areQueues 149 = .ok (.istore 8, 2) := by decide +kernel
theorem dL_areQueues_151 : decode cL_areQueues 151 = .ok (.iinc 9 1, 3) := by decide +kernel
theorem dL_areQueues_154 : decode cL_areQueues 154 = .ok (.aload_n 0, 1) := by decide +kernel
theorem dL_areQueues_155 : decode cL_areQueues 155 = .ok (.iload 6, 2) := by decide +kernel
theorem dL_areQueues_157 : decode cL_areQueues 157 = .ok (.iload 7, 2) := by decide +kernel
theorem dL_areQueues_159 : decode cL_areQueues 159 = .ok (.iload 9, 2) := by decide +kernel
theorem dL_areQueues_161 : decode cL_areQueues 161 = .ok (.invokestatic 176, 3) := by decide +kernel
theorem dL_areQueues_164 : decode cL_areQueues 164 = .ok (.istore 11, 2) := by decide +kernel
theorem dL_areQueues_166 : decode cL_areQueues 166 = .ok (.goto (-127), 3) := by decide +kernel
theorem dL_areQueues_169 : decode cL_areQueues 169 = .ok (.iconst 0, 1) := by decide +kernel
theorem dL_areQueues_170 : decode cL_areQueues 170 = .ok (.istore 11, 2) := by decide +kernel
theorem dL_areQueues_172 : decode cL_areQueues 172 = .ok (.iconst 0, 1) := by decide +kernel
theorem dL_areQueues_173 : decode cL_areQueues 173 = .ok (.istore 12, 2) := by decide +kernel
theorem dL_areQueues_175 : decode cL_areQueues 175 = .ok (.iload 12, 2) := by decide +kernel
theorem dL_areQueues_177 : decode cL_areQueues 177 = .ok (.aload_n 1, 1) := by decide +kernel
theorem dL_areQueues_178 : decode cL_areQueues 178 = .ok (.iconst 0, 1) := by decide +kernel
theorem dL_areQueues_179 : decode cL_areQueues 179 = .ok (.iaload, 1) := by decide +kernel
theorem dL_areQueues_180 : decode cL_areQueues 180 = .ok (.if_icmp .ge 53, 3) := by decide +kernel
theorem dL_areQueues_183 : decode cL_areQueues 183 = .ok (.iload 11, 2) := by decide +kernel
theorem dL_areQueues_185 : decode cL_areQueues 185 = .ok (.aload_n 0, 1) := by decide +kernel
theorem dL_areQueues_186 : decode cL_areQueues 186 = .ok (.iload 12, 2) := by decide +kernel
theorem dL_areQueues_188 : decode cL_areQueues 188 = .ok (.invokestatic 144, 3) := by decide +kernel
theorem dL_areQueues_191 : decode cL_areQueues 191 = .ok (.iconst 2, 1) := by decide +kernel
theorem dL_areQueues_192 : decode cL_areQueues 192 = .ok (.if_icmp .ne 31, 3) := by decide +kernel
theorem dL_areQueues_195 : decode cL_areQueues 195 = .ok (.aload_n 2, 1) := by decide +kernel
theorem dL_areQueues_196 : decode cL_areQueues 196 = .ok (.iload 12, 2) := by decide +kernel
theorem dL_areQueues_198 : decode cL_areQueues 198 = .ok (.iaload, 1) := by decide +kernel
theorem dL_areQueues_199 : decode cL_areQueues 199 = .ok (.bipush 8, 2) := by decide +kernel
theorem dL_areQueues_201 : decode cL_areQueues 201 = .ok (.idiv, 1) := by decide +kernel
theorem dL_areQueues_202 : decode cL_areQueues 202 = .ok (.iload 6, 2) := by decide +kernel
theorem dL_areQueues_204 : decode cL_areQueues 204 = .ok (.if_icmp .ne 19, 3) := by decide +kernel
theorem dL_areQueues_207 : decode cL_areQueues 207 = .ok (.aload_n 3, 1) := by decide +kernel
theorem dL_areQueues_208 : decode cL_areQueues 208 = .ok (.iload 12, 2) := by decide +kernel
theorem dL_areQueues_210 : decode cL_areQueues 210 = .ok (.iaload, 1) := by decide +kernel
theorem dL_areQueues_211 : decode cL_areQueues 211 = .ok (.bipush 64, 2) := by decide +kernel
theorem dL_areQueues_213 : decode cL_areQueues 213 = .ok (.idiv, 1) := by decide +kernel
theorem dL_areQueues_214 : decode cL_areQueues 214 = .ok (.iload 7, 2) := by decide +kernel
theorem dL_areQueues_216 : decode cL_areQueues 216 = .ok (.if_icmp .ne 7, 3) := by decide +kernel
theorem dL_areQueues_219 : decode cL_areQueues 219 = .ok (.iconst 1, 1) := by decide +kernel
theorem dL_areQueues_220 : decode cL_areQueues 220 = .ok (.goto 4, 3) := by decide +kernel
theorem dL_areQueues_223 : decode cL_areQueues 223 = .ok (.iconst 0, 1) := by decide +kernel
theorem dL_areQueues_224 : decode cL_areQueues 224 = .ok (.iadd, 1) := by decide +kernel
theorem dL_areQueues_225 : decode cL_areQueues 225 = .ok (.istore 11, 2) := by decide +kernel
theorem dL_areQueues_227 : decode cL_areQueues 227 = .ok (.iinc 12 1, 3) := by decide +kernel
theorem dL_areQueues_230 : decode cL_areQueues 230 = .ok (.goto (-55), 3) := by decide +kernel
theorem dL_areQueues_233 : decode cL_areQueues 233 = .ok (.iload 10, 2) := by decide +kernel
theorem dL_areQueues_235 : decode cL_areQueues 235 = .ok (.ifCond .eq 64, 3) := by decide +kernel
theorem dL_areQueues_238 : decode cL_areQueues 238 = .ok (.iload 11, 2) := by decide +kernel
theorem dL_areQueues_240 : decode cL_areQueues 240 = .ok (.iload 9, 2) := by decide +kernel
theorem dL_areQueues_242 : decode cL_areQueues 242 = .ok (.if_icmp .ne 57, 3) := by decide +kernel
theorem dL_areQueues_245 : decode cL_areQueues 245 = .ok (.aload_n 0, 1) := by decide +kernel
theorem dL_areQueues_246 : decode cL_areQueues 246 = .ok (.iload 6, 2) := by decide +kernel
theorem dL_areQueues_248 : decode cL_areQueues 248 = .ok (.iload 6, 2) := by decide +kernel
theorem dL_areQueues_250 : decode cL_areQueues 250 = .ok (.iload 7, 2) := by decide +kernel
theorem dL_areQueues_252 : decode cL_areQueues 252 = .ok (.invokestatic 178, 3) := by decide +kernel
theorem dL_areQueues_255 : decode cL_areQueues 255 = .ok (.lconst 0, 1) := by decide +kernel
theorem dL_areQueues_256 : decode cL_areQueues 256 = .ok (.lcmp, 1) := by decide +kernel
theorem dL_areQueues_257 : decode cL_areQueues 257 = .ok (.ifCond .ne 42, 3) := by decide +kernel
theorem dL_areQueues_260 : decode cL_areQueues 260 = .ok (.aload_n 0, 1) := by decide +kernel
theorem dL_areQueues_261 : decode cL_areQueues 261 = .ok (.iload 6, 2) := by decide +kernel
theorem dL_areQueues_263 : decode cL_areQueues 263 = .ok (.iload 6, 2) := by decide +kernel
theorem dL_areQueues_265 : decode cL_areQueues 265 = .ok (.iconst 1, 1) := by decide +kernel
theorem dL_areQueues_266 : decode cL_areQueues 266 = .ok (.iadd, 1) := by decide +kernel
theorem dL_areQueues_267 : decode cL_areQueues 267 = .ok (.bipush 6, 2) := by decide +kernel
theorem dL_areQueues_269 : decode cL_areQueues 269 = .ok (.irem, 1) := by decide +kernel
theorem dL_areQueues_270 : decode cL_areQueues 270 = .ok (.iload 7, 2) := by decide +kernel
theorem dL_areQueues_272 : decode cL_areQueues 272 = .ok (.invokestatic 178, 3) := by decide +kernel
theorem dL_areQueues_275 : decode cL_areQueues 275 = .ok (.aload_n 0, 1) := by decide +kernel
theorem dL_areQueues_276 : decode cL_areQueues 276 = .ok (.iload 6, 2) := by decide +kernel
theorem dL_areQueues_278 : decode cL_areQueues 278 = .ok (.iconst 1, 1) := by decide +kernel
theorem dL_areQueues_279 : decode cL_areQueues 279 = .ok (.iadd, 1) := by decide +kernel
theorem dL_areQueues_280 : decode cL_areQueues 280 = .ok (.bipush 6, 2) := by decide +kernel
theorem dL_areQueues_282 : decode cL_areQueues 282 = .ok (.irem, 1) := by decide +kernel
theorem dL_areQueues_283 : decode cL_areQueues 283 = .ok (.iload 6, 2) := by decide +kernel
theorem dL_areQueues_285 : decode cL_areQueues 285 = .ok (.iload 7, 2) := by decide +kernel
theorem dL_areQueues_287 : decode cL_areQueues 287 = .ok (.invokestatic 178, 3) := by decide +kernel
theorem dL_areQueues_290 : decode cL_areQueues 290 = .ok (.lneg, 1) := by decide +kernel
theorem dL_areQueues_291 : decode cL_areQueues 291 = .ok (.lcmp, 1) := by decide +kernel
theorem dL_areQueues_292 : decode cL_areQueues 292 = .ok (.ifCond .ne 7, 3) := by decide +kernel
theorem dL_areQueues_295 : decode cL_areQueues 295 = .ok (.iconst 1, 1) := by decide +kernel
theorem dL_areQueues_296 : decode cL_areQueues 296 = .ok (.goto 4, 3) := by decide +kernel
theorem dL_areQueues_299 : decode cL_areQueues 299 = .ok (.iconst 0, 1) := by decide +kernel
theorem dL_areQueues_300 : decode cL_areQueues 300 = .ok (.ireturn, 1) := by decide +kernel
theorem dL_law_0 : decode cL_law 0 = .ok (.new 11, 3) := by decide +kernel
theorem dL_law_3 : decode cL_law 3 = .ok (.dup, 1) := by decide +kernel
theorem dL_law_4 : decode cL_law 4 = .ok (.invokespecial 180, 3) := by decide +kernel
theorem dL_law_7 : decode cL_law 7 = .ok (.astore_n 1, 1) := by decide +kernel
theorem dL_law_8 : decode cL_law 8 = .ok (.iconst 4, 1) := by decide +kernel
theorem dL_law_9 : decode cL_law 9 = .ok (.newarray .int, 2) := by decide +kernel
theorem dL_law_11 : decode cL_law 11 = .ok (.astore_n 2, 1) := by decide +kernel
theorem dL_law_12 : decode cL_law 12 = .ok (.bipush 60, 2) := by decide +kernel
theorem dL_law_14 : decode cL_law 14 = .ok (.newarray .int, 2) := by decide +kernel
theorem dL_law_16 : decode cL_law 16 = .ok (.astore_n 3, 1) := by decide +kernel
theorem dL_law_17 : decode cL_law 17 = .ok (.bipush 60, 2) := by decide +kernel
theorem dL_law_19 : decode cL_law 19 = .ok (.newarray .int, 2) := by decide +kernel
theorem dL_law_21 : decode cL_law 21 = .ok (.astore 4, 2) := by decide +kernel
theorem dL_law_23 : decode cL_law 23 = .ok (.bipush 60, 2) := by decide +kernel
theorem dL_law_25 : decode cL_law 25 = .ok (.newarray .int, 2) := by decide +kernel
theorem dL_law_27 : decode cL_law 27 = .ok (.astore 5, 2) := by decide +kernel
theorem dL_law_29 : decode cL_law 29 = .ok (.bipush 60, 2) := by decide +kernel
theorem dL_law_31 : decode cL_law 31 = .ok (.newarray .int, 2) := by decide +kernel
theorem dL_law_33 : decode cL_law 33 = .ok (.astore 6, 2) := by decide +kernel
theorem dL_law_35 : decode cL_law 35 = .ok (.iconst 3, 1) := by decide +kernel
theorem dL_law_36 : decode cL_law 36 = .ok (.newarray .long, 2) := by decide +kernel
theorem dL_law_38 : decode cL_law 38 = .ok (.astore 7, 2) := by decide +kernel
theorem dL_law_40 : decode cL_law 40 = .ok (.aload_n 1, 1) := by decide +kernel
theorem dL_law_41 : decode cL_law 41 = .ok (.invokevirtual 118, 3) := by decide +kernel
theorem dL_law_44 : decode cL_law 44 = .ok (.ifCond .ne 7, 3) := by decide +kernel
theorem dL_law_47 : decode cL_law 47 = .ok (.iconst 1, 1) := by decide +kernel
theorem dL_law_48 : decode cL_law 48 = .ok (.goto 4, 3) := by decide +kernel
theorem dL_law_51 : decode cL_law 51 = .ok (.iconst 0, 1) := by decide +kernel
theorem dL_law_52 : decode cL_law 52 = .ok (.istore 8, 2) := by decide +kernel
theorem dL_law_54 : decode cL_law 54 = .ok (.iconst 0, 1) := by decide +kernel
theorem dL_law_55 : decode cL_law 55 = .ok (.istore 9, 2) := by decide +kernel
theorem dL_law_57 : decode cL_law 57 = .ok (.iload 9, 2) := by decide +kernel
theorem dL_law_59 : decode cL_law 59 = .ok (.bipush 110, 2) := by decide +kernel
theorem dL_law_61 : decode cL_law 61 = .ok (.if_icmp .ge 157, 3) := by decide +kernel
theorem dL_law_64 : decode cL_law 64 = .ok (.iload 8, 2) := by decide +kernel
theorem dL_law_66 : decode cL_law 66 = .ok (.ifCond .eq 152, 3) := by decide +kernel
theorem dL_law_69 : decode cL_law 69 = .ok (.aload_n 0, 1) := by decide +kernel
theorem dL_law_70 : decode cL_law 70 = .ok (.iconst 2, 1) := by decide +kernel
theorem dL_law_71 : decode cL_law 71 = .ok (.iload 9, 2) := by decide +kernel
theorem dL_law_73 : decode cL_law 73 = .ok (.imul, 1) := by decide +kernel
theorem dL_law_74 : decode cL_law 74 = .ok (.invokestatic 181, 3) := by decide +kernel
theorem dL_law_77 : decode cL_law 77 = .ok (.istore 10, 2) := by decide +kernel
theorem dL_law_79 : decode cL_law 79 = .ok (.aload_n 0, 1) := by decide +kernel
theorem dL_law_80 : decode cL_law 80 = .ok (.iconst 2, 1) := by decide +kernel
theorem dL_law_81 : decode cL_law 81 = .ok (.iload 9, 2) := by decide +kernel
theorem dL_law_83 : decode cL_law 83 = .ok (.imul, 1) := by decide +kernel
theorem dL_law_84 : decode cL_law 84 = .ok (.iconst 1, 1) := by decide +kernel
theorem dL_law_85 : decode cL_law 85 = .ok (.iadd, 1) := by decide +kernel
theorem dL_law_86 : decode cL_law 86 = .ok (.invokestatic 181, 3) := by decide +kernel
theorem dL_law_89 : decode cL_law 89 = .ok (.istore 11, 2) := by decide +kernel
theorem dL_law_91 : decode cL_law 91 = .ok (.iload 10, 2) := by decide +kernel
theorem dL_law_93 : decode cL_law 93 = .ok (.bipush 10, 2) := by decide +kernel
theorem dL_law_95 : decode cL_law 95 = .ok (.invokestatic 107, 3) := by decide +kernel
theorem dL_law_98 : decode cL_law 98 = .ok (.istore 12, 2) := by decide +kernel
theorem dL_law_100 : decode cL_law 100 = .ok (.iload 12, 2) := by decide +kernel
theorem dL_law_102 : decode cL_law 102 = .ok (.iconst 4, 1) := by decide +kernel
theorem dL_law_103 : decode cL_law 103 = .ok (.if_icmp .ge 22, 3) := by decide +kernel
theorem dL_law_106 : decode cL_law 106 = .ok (.aload_n 1, 1) := by decide +kernel
theorem dL_law_107 : decode cL_law 107 = .ok (.aload_n 2, 1) := by decide +kernel
theorem dL_law_108 : decode cL_law 108 = .ok (.aload_n 3, 1) := by decide +kernel
theorem dL_law_109 : decode cL_law 109 = .ok (.aload 4, 2) := by decide +kernel
theorem dL_law_111 : decode cL_law 111 = .ok (.aload 5, 2) := by decide +kernel
theorem dL_law_113 : decode cL_law 113 = .ok (.iload 10, 2) := by decide +kernel
theorem dL_law_115 : decode cL_law 115 = .ok (.iconst 4, 1) := by decide +kernel
theorem dL_law_116 : decode cL_law 116 = .ok (.ishr, 1) := by decide +kernel
theorem dL_law_117 : decode cL_law 117 = .ok (.iload 11, 2) := by decide +kernel
theorem dL_law_119 : decode cL_law 119 = .ok (.invokestatic 185, 3) := by decide +kernel
theorem dL_law_122 : decode cL_law 122 = .ok (.goto 42, 3) := by decide +kernel
theorem dL_law_125 : decode cL_law 125 = .ok (.iload 12, 2) := by decide +kernel
theorem dL_law_127 : decode cL_law 127 = .ok (.bipush 8, 2) := by decide +kernel
theorem dL_law_129 : decode cL_law 129 = .ok (.if_icmp .ge 19, 3) := by decide +kernel
theorem dL_law_132 : decode cL_law 132 = .ok (.aload_n 1, 1) := by decide +kernel
theorem dL_law_133 : decode cL_law 133 = .ok (.aload_n 2, 1) := by decide +kernel
theorem dL_law_134 : decode cL_law 134 = .ok (.aload 7, 2) := by decide +kernel
theorem dL_law_136 : decode cL_law 136 = .ok (.iload 10, 2) := by decide +kernel
theorem dL_law_138 : decode cL_law 138 = .ok (.iconst 4, 1) := by decide +kernel
theorem dL_law_139 : decode cL_law 139 = .ok (.ishr, 1) := by decide +kernel
theorem dL_law_140 : decode cL_law 140 = .ok (.iload 11, 2) := by decide +kernel
theorem dL_law_142 : decode cL_law 142 = .ok (.invokestatic 189, 3) := by decide +kernel
theorem dL_law_145 : decode cL_law 145 = .ok (.goto 19, 3) := by decide +kernel
theorem dL_law_148 : decode cL_law 148 = .ok (.aload_n 1, 1) := by decide +kernel
theorem dL_law_149 : decode cL_law 149 = .ok (.aload_n 2, 1) := by decide +kernel
theorem dL_law_150 : decode cL_law 150 = .ok (.aload_n 3, 1) := by decide +kernel
theorem dL_law_151 : decode cL_law 151 = .ok (.aload 4, 2) := by decide +kernel
theorem dL_law_153 : decode cL_law 153 = .ok (.aload 5, 2) := by decide +kernel
theorem dL_law_155 : decode cL_law 155 = .ok (.iload 10, 2) := by decide +kernel
theorem dL_law_157 : decode cL_law 157 = .ok (.iconst 4, 1) := by decide +kernel
theorem dL_law_158 : decode cL_law 158 = .ok (.ishr, 1) := by decide +kernel
theorem dL_law_159 : decode cL_law 159 = .ok (.iload 11, 2) := by decide +kernel
theorem dL_law_161 : decode cL_law 161 = .ok (.invokestatic 193, 3) := by decide +kernel
theorem dL_law_164 : decode cL_law 164 = .ok (.istore 8, 2) := by decide +kernel
theorem dL_law_166 : decode cL_law 166 = .ok (.iload 8, 2) := by decide +kernel
theorem dL_law_168 : decode cL_law 168 = .ok (.ifCond .eq 41, 3) := by decide +kernel
theorem dL_law_171 : decode cL_law 171 = .ok (.aload_n 1, 1) := by decide +kernel
theorem dL_law_172 : decode cL_law 172 = .ok (.aload_n 2, 1) := by decide +kernel
theorem dL_law_173 : decode cL_law 173 = .ok (.aload_n 3, 1) := by decide +kernel
theorem dL_law_174 : decode cL_law 174 = .ok (.aload 4, 2) := by decide +kernel
theorem dL_law_176 : decode cL_law 176 = .ok (.aload 5, 2) := by decide +kernel
theorem dL_law_178 : decode cL_law 178 = .ok (.aload 6, 2) := by decide +kernel
theorem dL_law_180 : decode cL_law 180 = .ok (.aload 7, 2) := by decide +kernel
theorem dL_law_182 : decode cL_law 182 = .ok (.invokestatic 196, 3) := by decide +kernel
theorem dL_law_185 : decode cL_law 185 = .ok (.ifCond .eq 24, 3) := by decide +kernel
theorem dL_law_188 : decode cL_law 188 = .ok (.aload_n 1, 1) := by decide +kernel
theorem dL_law_189 : decode cL_law 189 = .ok (.aload_n 2, 1) := by decide +kernel
theorem dL_law_190 : decode cL_law 190 = .ok (.aload_n 3, 1) := by decide +kernel
theorem dL_law_191 : decode cL_law 191 = .ok (.aload 4, 2) := by decide +kernel
theorem dL_law_193 : decode cL_law 193 = .ok (.aload 5, 2) := by decide +kernel
theorem dL_law_195 : decode cL_law 195 = .ok (.iload 11, 2) := by decide +kernel
theorem dL_law_197 : decode cL_law 197 = .ok (.iconst 5, 1) := by decide +kernel
theorem dL_law_198 : decode cL_law 198 = .ok (.ishr, 1) := by decide +kernel
theorem dL_law_199 : decode cL_law 199 = .ok (.invokestatic 200, 3) := by decide +kernel
theorem dL_law_202 : decode cL_law 202 = .ok (.ifCond .eq 7, 3) := by decide +kernel
theorem dL_law_205 : decode cL_law 205 = .ok (.iconst 1, 1) := by decide +kernel
theorem dL_law_206 : decode cL_law 206 = .ok (.goto 4, 3) := by decide +kernel
theorem dL_law_209 : decode cL_law 209 = .ok (.iconst 0, 1) := by decide +kernel
theorem dL_law_210 : decode cL_law 210 = .ok (.istore 8, 2) := by decide +kernel
theorem dL_law_212 : decode cL_law 212 = .ok (.iinc 9 1, 3) := by decide +kernel
theorem dL_law_215 : decode cL_law 215 = .ok (.goto (-158), 3) := by decide +kernel
theorem dL_law_218 : decode cL_law 218 = .ok (.iload 8, 2) := by decide +kernel
theorem dL_law_220 : decode cL_law 220 = .ok (.ireturn, 1) := by decide +kernel
