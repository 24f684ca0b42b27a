theorem d_La_law_0 : decode code 0 = .ok (.new 8, 3) := by decide +kernel
theorem d_La_law_3 : decode code 3 = .ok (.dup, 1) := by decide +kernel
theorem d_La_law_4 : decode code 4 = .ok (.invokespecial 26, 3) := by decide +kernel
theorem d_La_law_7 : decode code 7 = .ok (.astore_n 1, 1) := by decide +kernel
theorem d_La_law_8 : decode code 8 = .ok (.new 27, 3) := by decide +kernel
theorem d_La_law_11 : decode code 11 = .ok (.dup, 1) := by decide +kernel
theorem d_La_law_12 : decode code 12 = .ok (.invokespecial 29, 3) := by decide +kernel
theorem d_La_law_15 : decode code 15 = .ok (.astore_n 2, 1) := by decide +kernel
theorem d_La_law_16 : decode code 16 = .ok (.iconst 1, 1) := by decide +kernel
theorem d_La_law_17 : decode code 17 = .ok (.newarray .long, 2) := by decide +kernel
theorem d_La_law_19 : decode code 19 = .ok (.astore_n 3, 1) := by decide +kernel
theorem d_La_law_20 : decode code 20 = .ok (.iconst 0, 1) := by decide +kernel
theorem d_La_law_21 : decode code 21 = .ok (.istore 4, 2) := by decide +kernel
theorem d_La_law_23 : decode code 23 = .ok (.iload 4, 2) := by decide +kernel
theorem d_La_law_25 : decode code 25 = .ok (.aload_n 0, 1) := by decide +kernel
theorem d_La_law_26 : decode code 26 = .ok (.arraylength, 1) := by decide +kernel
theorem d_La_law_27 : decode code 27 = .ok (.iconst 4, 1) := by decide +kernel
theorem d_La_law_28 : decode code 28 = .ok (.isub, 1) := by decide +kernel
theorem d_La_law_29 : decode code 29 = .ok (.if_icmp .gt 379, 3) := by decide +kernel
theorem d_La_law_32 : decode code 32 = .ok (.aload_n 0, 1) := by decide +kernel
theorem d_La_law_33 : decode code 33 = .ok (.iload 4, 2) := by decide +kernel
theorem d_La_law_35 : decode code 35 = .ok (.iaload, 1) := by decide +kernel
theorem d_La_law_36 : decode code 36 = .ok (.bipush 15, 2) := by decide +kernel
theorem d_La_law_38 : decode code 38 = .ok (.iand, 1) := by decide +kernel
theorem d_La_law_39 : decode code 39 = .ok (.tableswitch 363 0 8 #[49, 118, 131, 175, 188, 232, 257, 313, 326], 49) := by decide +kernel
theorem d_La_law_88 : decode code 88 = .ok (.aload_n 1, 1) := by decide +kernel
theorem d_La_law_89 : decode code 89 = .ok (.aload_n 0, 1) := by decide +kernel
theorem d_La_law_90 : decode code 90 = .ok (.iload 4, 2) := by decide +kernel
theorem d_La_law_92 : decode code 92 = .ok (.iconst 1, 1) := by decide +kernel
theorem d_La_law_93 : decode code 93 = .ok (.iadd, 1) := by decide +kernel
theorem d_La_law_94 : decode code 94 = .ok (.iaload, 1) := by decide +kernel
theorem d_La_law_95 : decode code 95 = .ok (.i2l, 1) := by decide +kernel
theorem d_La_law_96 : decode code 96 = .ok (.bipush 32, 2) := by decide +kernel
theorem d_La_law_98 : decode code 98 = .ok (.lshl, 1) := by decide +kernel
theorem d_La_law_99 : decode code 99 = .ok (.aload_n 0, 1) := by decide +kernel
theorem d_La_law_100 : decode code 100 = .ok (.iload 4, 2) := by decide +kernel
theorem d_La_law_102 : decode code 102 = .ok (.iconst 2, 1) := by decide +kernel
theorem d_La_law_103 : decode code 103 = .ok (.iadd, 1) := by decide +kernel
theorem d_La_law_104 : decode code 104 = .ok (.iaload, 1) := by decide +kernel
theorem d_La_law_105 : decode code 105 = .ok (.i2l, 1) := by decide +kernel
theorem d_La_law_106 : decode code 106 = .ok (.ldc2_w 30, 3) := by decide +kernel
theorem d_La_law_109 : decode code 109 = .ok (.land, 1) := by decide +kernel
theorem d_La_law_110 : decode code 110 = .ok (.lor, 1) := by decide +kernel
theorem d_La_law_111 : decode code 111 = .ok (.aload_n 0, 1) := by decide +kernel
theorem d_La_law_112 : decode code 112 = .ok (.iload 4, 2) := by decide +kernel
theorem d_La_law_114 : decode code 114 = .ok (.iconst 3, 1) := by decide +kernel
theorem d_La_law_115 : decode code 115 = .ok (.iadd, 1) := by decide +kernel
theorem d_La_law_116 : decode code 116 = .ok (.iaload, 1) := by decide +kernel
theorem d_La_law_117 : decode code 117 = .ok (.invokevirtual 32, 3) := by decide +kernel
theorem d_La_law_120 : decode code 120 = .ok (.aload_n 2, 1) := by decide +kernel
theorem d_La_law_121 : decode code 121 = .ok (.aload_n 0, 1) := by decide +kernel
theorem d_La_law_122 : decode code 122 = .ok (.iload 4, 2) := by decide +kernel
theorem d_La_law_124 : decode code 124 = .ok (.iconst 1, 1) := by decide +kernel
theorem d_La_law_125 : decode code 125 = .ok (.iadd, 1) := by decide +kernel
theorem d_La_law_126 : decode code 126 = .ok (.iaload, 1) := by decide +kernel
theorem d_La_law_127 : decode code 127 = .ok (.i2l, 1) := by decide +kernel
theorem d_La_law_128 : decode code 128 = .ok (.bipush 32, 2) := by decide +kernel
theorem d_La_law_130 : decode code 130 = .ok (.lshl, 1) := by decide +kernel
theorem d_La_law_131 : decode code 131 = .ok (.aload_n 0, 1) := by decide +kernel
theorem d_La_law_132 : decode code 132 = .ok (.iload 4, 2) := by decide +kernel
theorem d_La_law_134 : decode code 134 = .ok (.iconst 2, 1) := by decide +kernel
theorem d_La_law_135 : decode code 135 = .ok (.iadd, 1) := by decide +kernel
theorem d_La_law_136 : decode code 136 = .ok (.iaload, 1) := by decide +kernel
theorem d_La_law_137 : decode code 137 = .ok (.i2l, 1) := by decide +kernel
theorem d_La_law_138 : decode code 138 = .ok (.ldc2_w 30, 3) := by decide +kernel
theorem d_La_law_141 : decode code 141 = .ok (.land, 1) := by decide +kernel
theorem d_La_law_142 : decode code 142 = .ok (.lor, 1) := by decide +kernel
theorem d_La_law_143 : decode code 143 = .ok (.aload_n 0, 1) := by decide +kernel
theorem d_La_law_144 : decode code 144 = .ok (.iload 4, 2) := by decide +kernel
theorem d_La_law_146 : decode code 146 = .ok (.iconst 3, 1) := by decide +kernel
theorem d_La_law_147 : decode code 147 = .ok (.iadd, 1) := by decide +kernel
theorem d_La_law_148 : decode code 148 = .ok (.iaload, 1) := by decide +kernel
theorem d_La_law_149 : decode code 149 = .ok (.invokevirtual 36, 3) := by decide +kernel
theorem d_La_law_152 : decode code 152 = .ok (.if_icmp .eq 250, 3) := by decide +kernel
theorem d_La_law_155 : decode code 155 = .ok (.iconst 0, 1) := by decide +kernel
theorem d_La_law_156 : decode code 156 = .ok (.ireturn, 1) := by decide +kernel
theorem d_La_law_157 : decode code 157 = .ok (.aload_n 1, 1) := by decide +kernel
theorem d_La_law_158 : decode code 158 = .ok (.invokevirtual 37, 3) := by decide +kernel
theorem d_La_law_161 : decode code 161 = .ok (.aload_n 2, 1) := by decide +kernel
theorem d_La_law_162 : decode code 162 = .ok (.invokevirtual 40, 3) := by decide +kernel
theorem d_La_law_165 : decode code 165 = .ok (.if_icmp .eq 237, 3) := by decide +kernel
theorem d_La_law_168 : decode code 168 = .ok (.iconst 0, 1) := by decide +kernel
theorem d_La_law_169 : decode code 169 = .ok (.ireturn, 1) := by decide +kernel
theorem d_La_law_170 : decode code 170 = .ok (.aload_n 1, 1) := by decide +kernel
theorem d_La_law_171 : decode code 171 = .ok (.aload_n 3, 1) := by decide +kernel
theorem d_La_law_172 : decode code 172 = .ok (.invokestatic 41, 3) := by decide +kernel
theorem d_La_law_175 : decode code 175 = .ok (.istore 5, 2) := by decide +kernel
theorem d_La_law_177 : decode code 177 = .ok (.aload_n 2, 1) := by decide +kernel
theorem d_La_law_178 : decode code 178 = .ok (.invokevirtual 46, 3) := by decide +kernel
theorem d_La_law_181 : decode code 181 = .ok (.istore 6, 2) := by decide +kernel
theorem d_La_law_183 : decode code 183 = .ok (.aload_n 2, 1) := by decide +kernel
theorem d_La_law_184 : decode code 184 = .ok (.invokevirtual 47, 3) := by decide +kernel
theorem d_La_law_187 : decode code 187 = .ok (.iload 5, 2) := by decide +kernel
theorem d_La_law_189 : decode code 189 = .ok (.if_icmp .eq 5, 3) := by decide +kernel
theorem d_La_law_192 : decode code 192 = .ok (.iconst 0, 1) := by decide +kernel
theorem d_La_law_193 : decode code 193 = .ok (.ireturn, 1) := by decide +kernel
theorem d_La_law_194 : decode code 194 = .ok (.iload 5, 2) := by decide +kernel
theorem d_La_law_196 : decode code 196 = .ok (.ifCond .ne 15, 3) := by decide +kernel
theorem d_La_law_199 : decode code 199 = .ok (.aload_n 3, 1) := by decide +kernel
theorem d_La_law_200 : decode code 200 = .ok (.iconst 0, 1) := by decide +kernel
theorem d_La_law_201 : decode code 201 = .ok (.laload, 1) := by decide +kernel
theorem d_La_law_202 : decode code 202 = .ok (.iload 6, 2) := by decide +kernel
theorem d_La_law_204 : decode code 204 = .ok (.i2l, 1) := by decide +kernel
theorem d_La_law_205 : decode code 205 = .ok (.lcmp, 1) := by decide +kernel
theorem d_La_law_206 : decode code 206 = .ok (.ifCond .eq 5, 3) := by decide +kernel
theorem d_La_law_209 : decode code 209 = .ok (.iconst 0, 1) := by decide +kernel
theorem d_La_law_210 : decode code 210 = .ok (.ireturn, 1) := by decide +kernel
theorem d_La_law_211 : decode code 211 = .ok (.goto 191, 3) := by decide +kernel
theorem d_La_law_214 : decode code 214 = .ok (.aload_n 1, 1) := by decide +kernel
theorem d_La_law_215 : decode code 215 = .ok (.invokevirtual 50, 3) := by decide +kernel
theorem d_La_law_218 : decode code 218 = .ok (.aload_n 2, 1) := by decide +kernel
theorem d_La_law_219 : decode code 219 = .ok (.invokevirtual 53, 3) := by decide +kernel
theorem d_La_law_222 : decode code 222 = .ok (.if_icmp .eq 180, 3) := by decide +kernel
theorem d_La_law_225 : decode code 225 = .ok (.iconst 0, 1) := by decide +kernel
theorem d_La_law_226 : decode code 226 = .ok (.ireturn, 1) := by decide +kernel
theorem d_La_law_227 : decode code 227 = .ok (.aload_n 1, 1) := by decide +kernel
theorem d_La_law_228 : decode code 228 = .ok (.aload_n 3, 1) := by decide +kernel
theorem d_La_law_229 : decode code 229 = .ok (.invokestatic 54, 3) := by decide +kernel
theorem d_La_law_232 : decode code 232 = .ok (.istore 5, 2) := by decide +kernel
theorem d_La_law_234 : decode code 234 = .ok (.aload_n 2, 1) := by decide +kernel
theorem d_La_law_235 : decode code 235 = .ok (.invokevirtual 56, 3) := by decide +kernel
theorem d_La_law_238 : decode code 238 = .ok (.istore 6, 2) := by decide +kernel
theorem d_La_law_240 : decode code 240 = .ok (.aload_n 2, 1) := by decide +kernel
theorem d_La_law_241 : decode code 241 = .ok (.invokevirtual 47, 3) := by decide +kernel
theorem d_La_law_244 : decode code 244 = .ok (.iload 5, 2) := by decide +kernel
theorem d_La_law_246 : decode code 246 = .ok (.if_icmp .eq 5, 3) := by decide +kernel
theorem d_La_law_249 : decode code 249 = .ok (.iconst 0, 1) := by decide +kernel
theorem d_La_law_250 : decode code 250 = .ok (.ireturn, 1) := by decide +kernel
theorem d_La_law_251 : decode code 251 = .ok (.iload 5, 2) := by decide +kernel
theorem d_La_law_253 : decode code 253 = .ok (.ifCond .ne 15, 3) := by decide +kernel
theorem d_La_law_256 : decode code 256 = .ok (.aload_n 3, 1) := by decide +kernel
theorem d_La_law_257 : decode code 257 = .ok (.iconst 0, 1) := by decide +kernel
theorem d_La_law_258 : decode code 258 = .ok (.laload, 1) := by decide +kernel
theorem d_La_law_259 : decode code 259 = .ok (.iload 6, 2) := by decide +kernel
theorem d_La_law_261 : decode code 261 = .ok (.i2l, 1) := by decide +kernel
theorem d_La_law_262 : decode code 262 = .ok (.lcmp, 1) := by decide +kernel
theorem d_La_law_263 : decode code 263 = .ok (.ifCond .eq 5, 3) := by decide +kernel
theorem d_La_law_266 : decode code 266 = .ok (.iconst 0, 1) := by decide +kernel
theorem d_La_law_267 : decode code 267 = .ok (.ireturn, 1) := by decide +kernel
theorem d_La_law_268 : decode code 268 = .ok (.goto 134, 3) := by decide +kernel
theorem d_La_law_271 : decode code 271 = .ok (.aload_n 1, 1) := by decide +kernel
theorem d_La_law_272 : decode code 272 = .ok (.aload_n 0, 1) := by decide +kernel
theorem d_La_law_273 : decode code 273 = .ok (.iload 4, 2) := by decide +kernel
theorem d_La_law_275 : decode code 275 = .ok (.iconst 1, 1) := by decide +kernel
theorem d_La_law_276 : decode code 276 = .ok (.iadd, 1) := by decide +kernel
theorem d_La_law_277 : decode code 277 = .ok (.iaload, 1) := by decide +kernel
theorem d_La_law_278 : decode code 278 = .ok (.invokevirtual 57, 3) := by decide +kernel
theorem d_La_law_281 : decode code 281 = .ok (.aload_n 2, 1) := by decide +kernel
theorem d_La_law_282 : decode code 282 = .ok (.aload_n 0, 1) := by decide +kernel
theorem d_La_law_283 : decode code 283 = .ok (.iload 4, 2) := by decide +kernel
theorem d_La_law_285 : decode code 285 = .ok (.iconst 1, 1) := by decide +kernel
theorem d_La_law_286 : decode code 286 = .ok (.iadd, 1) := by decide +kernel
theorem d_La_law_287 : decode code 287 = .ok (.iaload, 1) := by decide +kernel
theorem d_La_law_288 : decode code 288 = .ok (.invokevirtual 60, 3) := by decide +kernel
theorem d_La_law_291 : decode code 291 = .ok (.if_icmp .eq 111, 3) := by decide +kernel
theorem d_La_law_294 : decode code 294 = .ok (.iconst 0, 1) := by decide +kernel
theorem d_La_law_295 : decode code 295 = .ok (.ireturn, 1) := by decide +kernel
theorem d_La_law_296 : decode code 296 = .ok (.aload_n 1, 1) := by decide +kernel
theorem d_La_law_297 : decode code 297 = .ok (.aload_n 0, 1) := by decide +kernel
theorem d_La_law_298 : decode code 298 = .ok (.iload 4, 2) := by decide +kernel
theorem d_La_law_300 : decode code 300 = .ok (.iconst 1, 1) := by decide +kernel
theorem d_La_law_301 : decode code 301 = .ok (.iadd, 1) := by decide +kernel
theorem d_La_law_302 : decode code 302 = .ok (.iaload, 1) := by decide +kernel
theorem d_La_law_303 : decode code 303 = .ok (.aload_n 3, 1) := by decide +kernel
theorem d_La_law_304 : decode code 304 = .ok (.invokestatic 61, 3) := by decide +kernel
theorem d_La_law_307 : decode code 307 = .ok (.istore 5, 2) := by decide +kernel
theorem d_La_law_309 : decode code 309 = .ok (.aload_n 2, 1) := by decide +kernel
theorem d_La_law_310 : decode code 310 = .ok (.aload_n 0, 1) := by decide +kernel
theorem d_La_law_311 : decode code 311 = .ok (.iload 4, 2) := by decide +kernel
theorem d_La_law_313 : decode code 313 = .ok (.iconst 1, 1) := by decide +kernel
theorem d_La_law_314 : decode code 314 = .ok (.iadd, 1) := by decide +kernel
theorem d_La_law_315 : decode code 315 = .ok (.iaload, 1) := by decide +kernel
theorem d_La_law_316 : decode code 316 = .ok (.invokevirtual 64, 3) := by decide +kernel
theorem d_La_law_319 : decode code 319 = .ok (.istore 6, 2) := by decide +kernel
theorem d_La_law_321 : decode code 321 = .ok (.aload_n 2, 1) := by decide +kernel
theorem d_La_law_322 : decode code 322 = .ok (.invokevirtual 47, 3) := by decide +kernel
theorem d_La_law_325 : decode code 325 = .ok (.iload 5, 2) := by decide +kernel
theorem d_La_law_327 : decode code 327 = .ok (.if_icmp .eq 5, 3) := by decide +kernel
theorem d_La_law_330 : decode code 330 = .ok (.iconst 0, 1) := by decide +kernel
theorem d_La_law_331 : decode code 331 = .ok (.ireturn, 1) := by decide +kernel
theorem d_La_law_332 : decode code 332 = .ok (.iload 5, 2) := by decide +kernel
theorem d_La_law_334 : decode code 334 = .ok (.ifCond .ne 15, 3) := by decide +kernel
theorem d_La_law_337 : decode code 337 = .ok (.aload_n 3, 1) := by decide +kernel
theorem d_La_law_338 : decode code 338 = .ok (.iconst 0, 1) := by decide +kernel
theorem d_La_law_339 : decode code 339 = .ok (.laload, 1) := by decide +kernel
theorem d_La_law_340 : decode code 340 = .ok (.iload 6, 2) := by decide +kernel
theorem d_La_law_342 : decode code 342 = .ok (.i2l, 1) := by decide +kernel
theorem d_La_law_343 : decode code 343 = .ok (.lcmp, 1) := by decide +kernel
theorem d_La_law_344 : decode code 344 = .ok (.ifCond .eq 5, 3) := by decide +kernel
theorem d_La_law_347 : decode code 347 = .ok (.iconst 0, 1) := by decide +kernel
theorem d_La_law_348 : decode code 348 = .ok (.ireturn, 1) := by decide +kernel
theorem d_La_law_349 : decode code 349 = .ok (.goto 53, 3) := by decide +kernel
theorem d_La_law_352 : decode code 352 = .ok (.aload_n 1, 1) := by decide +kernel
theorem d_La_law_353 : decode code 353 = .ok (.invokevirtual 65, 3) := by decide +kernel
theorem d_La_law_356 : decode code 356 = .ok (.aload_n 2, 1) := by decide +kernel
theorem d_La_law_357 : decode code 357 = .ok (.invokevirtual 68, 3) := by decide +kernel
theorem d_La_law_360 : decode code 360 = .ok (.if_icmp .eq 42, 3) := by decide +kernel
theorem d_La_law_363 : decode code 363 = .ok (.iconst 0, 1) := by decide +kernel
theorem d_La_law_364 : decode code 364 = .ok (.ireturn, 1) := by decide +kernel
theorem d_La_law_365 : decode code 365 = .ok (.aload_n 1, 1) := by decide +kernel
theorem d_La_law_366 : decode code 366 = .ok (.aload_n 0, 1) := by decide +kernel
theorem d_La_law_367 : decode code 367 = .ok (.iload 4, 2) := by decide +kernel
theorem d_La_law_369 : decode code 369 = .ok (.iconst 1, 1) := by decide +kernel
theorem d_La_law_370 : decode code 370 = .ok (.iadd, 1) := by decide +kernel
theorem d_La_law_371 : decode code 371 = .ok (.iaload, 1) := by decide +kernel
theorem d_La_law_372 : decode code 372 = .ok (.aload_n 0, 1) := by decide +kernel
theorem d_La_law_373 : decode code 373 = .ok (.iload 4, 2) := by decide +kernel
theorem d_La_law_375 : decode code 375 = .ok (.iconst 2, 1) := by decide +kernel
theorem d_La_law_376 : decode code 376 = .ok (.iadd, 1) := by decide +kernel
theorem d_La_law_377 : decode code 377 = .ok (.iaload, 1) := by decide +kernel
theorem d_La_law_378 : decode code 378 = .ok (.invokevirtual 69, 3) := by decide +kernel
theorem d_La_law_381 : decode code 381 = .ok (.aload_n 2, 1) := by decide +kernel
theorem d_La_law_382 : decode code 382 = .ok (.aload_n 0, 1) := by decide +kernel
theorem d_La_law_383 : decode code 383 = .ok (.iload 4, 2) := by decide +kernel
theorem d_La_law_385 : decode code 385 = .ok (.iconst 1, 1) := by decide +kernel
theorem d_La_law_386 : decode code 386 = .ok (.iadd, 1) := by decide +kernel
theorem d_La_law_387 : decode code 387 = .ok (.iaload, 1) := by decide +kernel
theorem d_La_law_388 : decode code 388 = .ok (.aload_n 0, 1) := by decide +kernel
theorem d_La_law_389 : decode code 389 = .ok (.iload 4, 2) := by decide +kernel
theorem d_La_law_391 : decode code 391 = .ok (.iconst 2, 1) := by decide +kernel
theorem d_La_law_392 : decode code 392 = .ok (.iadd, 1) := by decide +kernel
theorem d_La_law_393 : decode code 393 = .ok (.iaload, 1) := by decide +kernel
theorem d_La_law_394 : decode code 394 = .ok (.invokevirtual 73, 3) := by decide +kernel
theorem d_La_law_397 : decode code 397 = .ok (.if_icmp .eq 5, 3) := by decide +kernel
theorem d_La_law_400 : decode code 400 = .ok (.iconst 0, 1) := by decide +kernel
theorem d_La_law_401 : decode code 401 = .ok (.ireturn, 1) := by decide +kernel
theorem d_La_law_402 : decode code 402 = .ok (.iinc 4 4, 3) := by decide +kernel
theorem d_La_law_405 : decode code 405 = .ok (.goto (-382), 3) := by decide +kernel
theorem d_La_law_408 : decode code 408 = .ok (.iconst 1, 1) := by decide +kernel
theorem d_La_law_409 : decode code 409 = .ok (.ireturn, 1) := by decide +kernel
