theorem xd_La_law_0 : decode code 0 = .ok (.new 8, 3) := by decide +kernel
theorem xd_La_law_3 : decode code 3 = .ok (.dup, 1) := by decide +kernel
theorem xd_La_law_4 : decode code 4 = .ok (.invokespecial 29, 3) := by decide +kernel
theorem xd_La_law_7 : decode code 7 = .ok (.astore_n 1, 1) := by decide +kernel
theorem xd_La_law_8 : decode code 8 = .ok (.new 30, 3) := by decide +kernel
theorem xd_La_law_11 : decode code 11 = .ok (.dup, 1) := by decide +kernel
theorem xd_La_law_12 : decode code 12 = .ok (.invokespecial 32, 3) := by decide +kernel
theorem xd_La_law_15 : decode code 15 = .ok (.astore_n 2, 1) := by decide +kernel
theorem xd_La_law_16 : decode code 16 = .ok (.iconst 1, 1) := by decide +kernel
theorem xd_La_law_17 : decode code 17 = .ok (.newarray .long, 2) := by decide +kernel
theorem xd_La_law_19 : decode code 19 = .ok (.astore_n 3, 1) := by decide +kernel
theorem xd_La_law_20 : decode code 20 = .ok (.iconst 0, 1) := by decide +kernel
theorem xd_La_law_21 : decode code 21 = .ok (.istore 4, 2) := by decide +kernel
theorem xd_La_law_23 : decode code 23 = .ok (.iload 4, 2) := by decide +kernel
theorem xd_La_law_25 : decode code 25 = .ok (.aload_n 0, 1) := by decide +kernel
theorem xd_La_law_26 : decode code 26 = .ok (.arraylength, 1) := by decide +kernel
theorem xd_La_law_27 : decode code 27 = .ok (.iconst 3, 1) := by decide +kernel
theorem xd_La_law_28 : decode code 28 = .ok (.isub, 1) := by decide +kernel
theorem xd_La_law_29 : decode code 29 = .ok (.if_icmp .gt 424, 3) := by decide +kernel
theorem xd_La_law_32 : decode code 32 = .ok (.aload_n 0, 1) := by decide +kernel
theorem xd_La_law_33 : decode code 33 = .ok (.iload 4, 2) := by decide +kernel
theorem xd_La_law_35 : decode code 35 = .ok (.iaload, 1) := by decide +kernel
theorem xd_La_law_36 : decode code 36 = .ok (.bipush 15, 2) := by decide +kernel
theorem xd_La_law_38 : decode code 38 = .ok (.iand, 1) := by decide +kernel
theorem xd_La_law_39 : decode code 39 = .ok (.tableswitch 408 0 11 #[61, 86, 127, 168, 196, 209, 222, 235, 263, 303, 343, 383], 61) := by decide +kernel
theorem xd_La_law_100 : decode code 100 = .ok (.aload_n 1, 1) := by decide +kernel
theorem xd_La_law_101 : decode code 101 = .ok (.aload_n 0, 1) := by decide +kernel
theorem xd_La_law_102 : decode code 102 = .ok (.iload 4, 2) := by decide +kernel
theorem xd_La_law_104 : decode code 104 = .ok (.iconst 1, 1) := by decide +kernel
theorem xd_La_law_105 : decode code 105 = .ok (.iadd, 1) := by decide +kernel
theorem xd_La_law_106 : decode code 106 = .ok (.iaload, 1) := by decide +kernel
theorem xd_La_law_107 : decode code 107 = .ok (.invokevirtual 33, 3) := by decide +kernel
theorem xd_La_law_110 : decode code 110 = .ok (.pop, 1) := by decide +kernel
theorem xd_La_law_111 : decode code 111 = .ok (.aload_n 2, 1) := by decide +kernel
theorem xd_La_law_112 : decode code 112 = .ok (.aload_n 0, 1) := by decide +kernel
theorem xd_La_law_113 : decode code 113 = .ok (.iload 4, 2) := by decide +kernel
theorem xd_La_law_115 : decode code 115 = .ok (.iconst 1, 1) := by decide +kernel
theorem xd_La_law_116 : decode code 116 = .ok (.iadd, 1) := by decide +kernel
theorem xd_La_law_117 : decode code 117 = .ok (.iaload, 1) := by decide +kernel
theorem xd_La_law_118 : decode code 118 = .ok (.invokevirtual 36, 3) := by decide +kernel
theorem xd_La_law_121 : decode code 121 = .ok (.pop, 1) := by decide +kernel
theorem xd_La_law_122 : decode code 122 = .ok (.goto 325, 3) := by decide +kernel
theorem xd_La_law_125 : decode code 125 = .ok (.aload_n 1, 1) := by decide +kernel
theorem xd_La_law_126 : decode code 126 = .ok (.aload_n 0, 1) := by decide +kernel
theorem xd_La_law_127 : decode code 127 = .ok (.iload 4, 2) := by decide +kernel
theorem xd_La_law_129 : decode code 129 = .ok (.iconst 1, 1) := by decide +kernel
theorem xd_La_law_130 : decode code 130 = .ok (.iadd, 1) := by decide +kernel
theorem xd_La_law_131 : decode code 131 = .ok (.iaload, 1) := by decide +kernel
theorem xd_La_law_132 : decode code 132 = .ok (.ifCond .eq 7, 3) := by decide +kernel
theorem xd_La_law_135 : decode code 135 = .ok (.iconst 1, 1) := by decide +kernel
theorem xd_La_law_136 : decode code 136 = .ok (.goto 4, 3) := by decide +kernel
theorem xd_La_law_139 : decode code 139 = .ok (.iconst 0, 1) := by decide +kernel
theorem xd_La_law_140 : decode code 140 = .ok (.invokevirtual 37, 3) := by decide +kernel
theorem xd_La_law_143 : decode code 143 = .ok (.pop, 1) := by decide +kernel
theorem xd_La_law_144 : decode code 144 = .ok (.aload_n 2, 1) := by decide +kernel
theorem xd_La_law_145 : decode code 145 = .ok (.aload_n 0, 1) := by decide +kernel
theorem xd_La_law_146 : decode code 146 = .ok (.iload 4, 2) := by decide +kernel
theorem xd_La_law_148 : decode code 148 = .ok (.iconst 1, 1) := by decide +kernel
theorem xd_La_law_149 : decode code 149 = .ok (.iadd, 1) := by decide +kernel
theorem xd_La_law_150 : decode code 150 = .ok (.iaload, 1) := by decide +kernel
theorem xd_La_law_151 : decode code 151 = .ok (.ifCond .eq 7, 3) := by decide +kernel
theorem xd_La_law_154 : decode code 154 = .ok (.iconst 1, 1) := by decide +kernel
theorem xd_La_law_155 : decode code 155 = .ok (.goto 4, 3) := by decide +kernel
theorem xd_La_law_158 : decode code 158 = .ok (.iconst 0, 1) := by decide +kernel
theorem xd_La_law_159 : decode code 159 = .ok (.invokevirtual 41, 3) := by decide +kernel
theorem xd_La_law_162 : decode code 162 = .ok (.pop, 1) := by decide +kernel
theorem xd_La_law_163 : decode code 163 = .ok (.goto 284, 3) := by decide +kernel
theorem xd_La_law_166 : decode code 166 = .ok (.aload_n 1, 1) := by decide +kernel
theorem xd_La_law_167 : decode code 167 = .ok (.aload_n 0, 1) := by decide +kernel
theorem xd_La_law_168 : decode code 168 = .ok (.iload 4, 2) := by decide +kernel
theorem xd_La_law_170 : decode code 170 = .ok (.iconst 1, 1) := by decide +kernel
theorem xd_La_law_171 : decode code 171 = .ok (.iadd, 1) := by decide +kernel
theorem xd_La_law_172 : decode code 172 = .ok (.iaload, 1) := by decide +kernel
theorem xd_La_law_173 : decode code 173 = .ok (.ifCond .eq 7, 3) := by decide +kernel
theorem xd_La_law_176 : decode code 176 = .ok (.iconst 1, 1) := by decide +kernel
theorem xd_La_law_177 : decode code 177 = .ok (.goto 4, 3) := by decide +kernel
theorem xd_La_law_180 : decode code 180 = .ok (.iconst 0, 1) := by decide +kernel
theorem xd_La_law_181 : decode code 181 = .ok (.invokevirtual 42, 3) := by decide +kernel
theorem xd_La_law_184 : decode code 184 = .ok (.pop, 1) := by decide +kernel
theorem xd_La_law_185 : decode code 185 = .ok (.aload_n 2, 1) := by decide +kernel
theorem xd_La_law_186 : decode code 186 = .ok (.aload_n 0, 1) := by decide +kernel
theorem xd_La_law_187 : decode code 187 = .ok (.iload 4, 2) := by decide +kernel
theorem xd_La_law_189 : decode code 189 = .ok (.iconst 1, 1) := by decide +kernel
theorem xd_La_law_190 : decode code 190 = .ok (.iadd, 1) := by decide +kernel
theorem xd_La_law_191 : decode code 191 = .ok (.iaload, 1) := by decide +kernel
theorem xd_La_law_192 : decode code 192 = .ok (.ifCond .eq 7, 3) := by decide +kernel
theorem xd_La_law_195 : decode code 195 = .ok (.iconst 1, 1) := by decide +kernel
theorem xd_La_law_196 : decode code 196 = .ok (.goto 4, 3) := by decide +kernel
theorem xd_La_law_199 : decode code 199 = .ok (.iconst 0, 1) := by decide +kernel
theorem xd_La_law_200 : decode code 200 = .ok (.invokevirtual 45, 3) := by decide +kernel
theorem xd_La_law_203 : decode code 203 = .ok (.pop, 1) := by decide +kernel
theorem xd_La_law_204 : decode code 204 = .ok (.goto 243, 3) := by decide +kernel
theorem xd_La_law_207 : decode code 207 = .ok (.aload_n 1, 1) := by decide +kernel
theorem xd_La_law_208 : decode code 208 = .ok (.aload_n 0, 1) := by decide +kernel
theorem xd_La_law_209 : decode code 209 = .ok (.iload 4, 2) := by decide +kernel
theorem xd_La_law_211 : decode code 211 = .ok (.iconst 1, 1) := by decide +kernel
theorem xd_La_law_212 : decode code 212 = .ok (.iadd, 1) := by decide +kernel
theorem xd_La_law_213 : decode code 213 = .ok (.iaload, 1) := by decide +kernel
theorem xd_La_law_214 : decode code 214 = .ok (.aload_n 3, 1) := by decide +kernel
theorem xd_La_law_215 : decode code 215 = .ok (.invokestatic 46, 3) := by decide +kernel
theorem xd_La_law_218 : decode code 218 = .ok (.istore 5, 2) := by decide +kernel
theorem xd_La_law_220 : decode code 220 = .ok (.aload_n 2, 1) := by decide +kernel
theorem xd_La_law_221 : decode code 221 = .ok (.aload_n 0, 1) := by decide +kernel
theorem xd_La_law_222 : decode code 222 = .ok (.iload 4, 2) := by decide +kernel
theorem xd_La_law_224 : decode code 224 = .ok (.iconst 1, 1) := by decide +kernel
theorem xd_La_law_225 : decode code 225 = .ok (.iadd, 1) := by decide +kernel
theorem xd_La_law_226 : decode code 226 = .ok (.iaload, 1) := by decide +kernel
theorem xd_La_law_227 : decode code 227 = .ok (.invokevirtual 51, 3) := by decide +kernel
theorem xd_La_law_230 : decode code 230 = .ok (.istore 6, 2) := by decide +kernel
theorem xd_La_law_232 : decode code 232 = .ok (.goto 215, 3) := by decide +kernel
theorem xd_La_law_235 : decode code 235 = .ok (.aload_n 1, 1) := by decide +kernel
theorem xd_La_law_236 : decode code 236 = .ok (.invokevirtual 52, 3) := by decide +kernel
theorem xd_La_law_239 : decode code 239 = .ok (.pop, 1) := by decide +kernel
theorem xd_La_law_240 : decode code 240 = .ok (.aload_n 2, 1) := by decide +kernel
theorem xd_La_law_241 : decode code 241 = .ok (.invokevirtual 56, 3) := by decide +kernel
theorem xd_La_law_244 : decode code 244 = .ok (.pop, 1) := by decide +kernel
theorem xd_La_law_245 : decode code 245 = .ok (.goto 202, 3) := by decide +kernel
theorem xd_La_law_248 : decode code 248 = .ok (.aload_n 1, 1) := by decide +kernel
theorem xd_La_law_249 : decode code 249 = .ok (.invokevirtual 57, 3) := by decide +kernel
theorem xd_La_law_252 : decode code 252 = .ok (.pop, 1) := by decide +kernel
theorem xd_La_law_253 : decode code 253 = .ok (.aload_n 2, 1) := by decide +kernel
theorem xd_La_law_254 : decode code 254 = .ok (.invokevirtual 60, 3) := by decide +kernel
theorem xd_La_law_257 : decode code 257 = .ok (.pop, 1) := by decide +kernel
theorem xd_La_law_258 : decode code 258 = .ok (.goto 189, 3) := by decide +kernel
theorem xd_La_law_261 : decode code 261 = .ok (.aload_n 1, 1) := by decide +kernel
theorem xd_La_law_262 : decode code 262 = .ok (.invokevirtual 61, 3) := by decide +kernel
theorem xd_La_law_265 : decode code 265 = .ok (.pop, 1) := by decide +kernel
theorem xd_La_law_266 : decode code 266 = .ok (.aload_n 2, 1) := by decide +kernel
theorem xd_La_law_267 : decode code 267 = .ok (.invokevirtual 64, 3) := by decide +kernel
theorem xd_La_law_270 : decode code 270 = .ok (.pop, 1) := by decide +kernel
theorem xd_La_law_271 : decode code 271 = .ok (.goto 176, 3) := by decide +kernel
theorem xd_La_law_274 : decode code 274 = .ok (.aload_n 1, 1) := by decide +kernel
theorem xd_La_law_275 : decode code 275 = .ok (.aload_n 0, 1) := by decide +kernel
theorem xd_La_law_276 : decode code 276 = .ok (.iload 4, 2) := by decide +kernel
theorem xd_La_law_278 : decode code 278 = .ok (.iconst 1, 1) := by decide +kernel
theorem xd_La_law_279 : decode code 279 = .ok (.iadd, 1) := by decide +kernel
theorem xd_La_law_280 : decode code 280 = .ok (.iaload, 1) := by decide +kernel
theorem xd_La_law_281 : decode code 281 = .ok (.aload_n 3, 1) := by decide +kernel
theorem xd_La_law_282 : decode code 282 = .ok (.invokestatic 65, 3) := by decide +kernel
theorem xd_La_law_285 : decode code 285 = .ok (.istore 5, 2) := by decide +kernel
theorem xd_La_law_287 : decode code 287 = .ok (.aload_n 2, 1) := by decide +kernel
theorem xd_La_law_288 : decode code 288 = .ok (.aload_n 0, 1) := by decide +kernel
theorem xd_La_law_289 : decode code 289 = .ok (.iload 4, 2) := by decide +kernel
theorem xd_La_law_291 : decode code 291 = .ok (.iconst 1, 1) := by decide +kernel
theorem xd_La_law_292 : decode code 292 = .ok (.iadd, 1) := by decide +kernel
theorem xd_La_law_293 : decode code 293 = .ok (.iaload, 1) := by decide +kernel
theorem xd_La_law_294 : decode code 294 = .ok (.invokevirtual 67, 3) := by decide +kernel
theorem xd_La_law_297 : decode code 297 = .ok (.istore 6, 2) := by decide +kernel
theorem xd_La_law_299 : decode code 299 = .ok (.goto 148, 3) := by decide +kernel
theorem xd_La_law_302 : decode code 302 = .ok (.aload_n 1, 1) := by decide +kernel
theorem xd_La_law_303 : decode code 303 = .ok (.aload_n 0, 1) := by decide +kernel
theorem xd_La_law_304 : decode code 304 = .ok (.iload 4, 2) := by decide +kernel
theorem xd_La_law_306 : decode code 306 = .ok (.iconst 1, 1) := by decide +kernel
theorem xd_La_law_307 : decode code 307 = .ok (.iadd, 1) := by decide +kernel
theorem xd_La_law_308 : decode code 308 = .ok (.iaload, 1) := by decide +kernel
theorem xd_La_law_309 : decode code 309 = .ok (.aload_n 0, 1) := by decide +kernel
theorem xd_La_law_310 : decode code 310 = .ok (.iload 4, 2) := by decide +kernel
theorem xd_La_law_312 : decode code 312 = .ok (.iconst 2, 1) := by decide +kernel
theorem xd_La_law_313 : decode code 313 = .ok (.iadd, 1) := by decide +kernel
theorem xd_La_law_314 : decode code 314 = .ok (.iaload, 1) := by decide +kernel
theorem xd_La_law_315 : decode code 315 = .ok (.aload_n 3, 1) := by decide +kernel
theorem xd_La_law_316 : decode code 316 = .ok (.invokestatic 68, 3) := by decide +kernel
theorem xd_La_law_319 : decode code 319 = .ok (.istore 5, 2) := by decide +kernel
theorem xd_La_law_321 : decode code 321 = .ok (.aload_n 2, 1) := by decide +kernel
theorem xd_La_law_322 : decode code 322 = .ok (.aload_n 0, 1) := by decide +kernel
theorem xd_La_law_323 : decode code 323 = .ok (.iload 4, 2) := by decide +kernel
theorem xd_La_law_325 : decode code 325 = .ok (.iconst 1, 1) := by decide +kernel
theorem xd_La_law_326 : decode code 326 = .ok (.iadd, 1) := by decide +kernel
theorem xd_La_law_327 : decode code 327 = .ok (.iaload, 1) := by decide +kernel
theorem xd_La_law_328 : decode code 328 = .ok (.aload_n 0, 1) := by decide +kernel
theorem xd_La_law_329 : decode code 329 = .ok (.iload 4, 2) := by decide +kernel
theorem xd_La_law_331 : decode code 331 = .ok (.iconst 2, 1) := by decide +kernel
theorem xd_La_law_332 : decode code 332 = .ok (.iadd, 1) := by decide +kernel
theorem xd_La_law_333 : decode code 333 = .ok (.iaload, 1) := by decide +kernel
theorem xd_La_law_334 : decode code 334 = .ok (.invokevirtual 71, 3) := by decide +kernel
theorem xd_La_law_337 : decode code 337 = .ok (.istore 6, 2) := by decide +kernel
theorem xd_La_law_339 : decode code 339 = .ok (.goto 108, 3) := by decide +kernel
theorem xd_La_law_342 : decode code 342 = .ok (.aload_n 1, 1) := by decide +kernel
theorem xd_La_law_343 : decode code 343 = .ok (.aload_n 0, 1) := by decide +kernel
theorem xd_La_law_344 : decode code 344 = .ok (.iload 4, 2) := by decide +kernel
theorem xd_La_law_346 : decode code 346 = .ok (.iconst 1, 1) := by decide +kernel
theorem xd_La_law_347 : decode code 347 = .ok (.iadd, 1) := by decide +kernel
theorem xd_La_law_348 : decode code 348 = .ok (.iaload, 1) := by decide +kernel
theorem xd_La_law_349 : decode code 349 = .ok (.aload_n 0, 1) := by decide +kernel
theorem xd_La_law_350 : decode code 350 = .ok (.iload 4, 2) := by decide +kernel
theorem xd_La_law_352 : decode code 352 = .ok (.iconst 2, 1) := by decide +kernel
theorem xd_La_law_353 : decode code 353 = .ok (.iadd, 1) := by decide +kernel
theorem xd_La_law_354 : decode code 354 = .ok (.iaload, 1) := by decide +kernel
theorem xd_La_law_355 : decode code 355 = .ok (.aload_n 3, 1) := by decide +kernel
theorem xd_La_law_356 : decode code 356 = .ok (.invokestatic 72, 3) := by decide +kernel
theorem xd_La_law_359 : decode code 359 = .ok (.istore 5, 2) := by decide +kernel
theorem xd_La_law_361 : decode code 361 = .ok (.aload_n 2, 1) := by decide +kernel
theorem xd_La_law_362 : decode code 362 = .ok (.aload_n 0, 1) := by decide +kernel
theorem xd_La_law_363 : decode code 363 = .ok (.iload 4, 2) := by decide +kernel
theorem xd_La_law_365 : decode code 365 = .ok (.iconst 1, 1) := by decide +kernel
theorem xd_La_law_366 : decode code 366 = .ok (.iadd, 1) := by decide +kernel
theorem xd_La_law_367 : decode code 367 = .ok (.iaload, 1) := by decide +kernel
theorem xd_La_law_368 : decode code 368 = .ok (.aload_n 0, 1) := by decide +kernel
theorem xd_La_law_369 : decode code 369 = .ok (.iload 4, 2) := by decide +kernel
theorem xd_La_law_371 : decode code 371 = .ok (.iconst 2, 1) := by decide +kernel
theorem xd_La_law_372 : decode code 372 = .ok (.iadd, 1) := by decide +kernel
theorem xd_La_law_373 : decode code 373 = .ok (.iaload, 1) := by decide +kernel
theorem xd_La_law_374 : decode code 374 = .ok (.invokevirtual 74, 3) := by decide +kernel
theorem xd_La_law_377 : decode code 377 = .ok (.istore 6, 2) := by decide +kernel
theorem xd_La_law_379 : decode code 379 = .ok (.goto 68, 3) := by decide +kernel
theorem xd_La_law_382 : decode code 382 = .ok (.aload_n 1, 1) := by decide +kernel
theorem xd_La_law_383 : decode code 383 = .ok (.aload_n 0, 1) := by decide +kernel
theorem xd_La_law_384 : decode code 384 = .ok (.iload 4, 2) := by decide +kernel
theorem xd_La_law_386 : decode code 386 = .ok (.iconst 1, 1) := by decide +kernel
theorem xd_La_law_387 : decode code 387 = .ok (.iadd, 1) := by decide +kernel
theorem xd_La_law_388 : decode code 388 = .ok (.iaload, 1) := by decide +kernel
theorem xd_La_law_389 : decode code 389 = .ok (.aload_n 0, 1) := by decide +kernel
theorem xd_La_law_390 : decode code 390 = .ok (.iload 4, 2) := by decide +kernel
theorem xd_La_law_392 : decode code 392 = .ok (.iconst 2, 1) := by decide +kernel
theorem xd_La_law_393 : decode code 393 = .ok (.iadd, 1) := by decide +kernel
theorem xd_La_law_394 : decode code 394 = .ok (.iaload, 1) := by decide +kernel
theorem xd_La_law_395 : decode code 395 = .ok (.aload_n 3, 1) := by decide +kernel
theorem xd_La_law_396 : decode code 396 = .ok (.invokestatic 75, 3) := by decide +kernel
theorem xd_La_law_399 : decode code 399 = .ok (.istore 5, 2) := by decide +kernel
theorem xd_La_law_401 : decode code 401 = .ok (.aload_n 2, 1) := by decide +kernel
theorem xd_La_law_402 : decode code 402 = .ok (.aload_n 0, 1) := by decide +kernel
theorem xd_La_law_403 : decode code 403 = .ok (.iload 4, 2) := by decide +kernel
theorem xd_La_law_405 : decode code 405 = .ok (.iconst 1, 1) := by decide +kernel
theorem xd_La_law_406 : decode code 406 = .ok (.iadd, 1) := by decide +kernel
theorem xd_La_law_407 : decode code 407 = .ok (.iaload, 1) := by decide +kernel
theorem xd_La_law_408 : decode code 408 = .ok (.aload_n 0, 1) := by decide +kernel
theorem xd_La_law_409 : decode code 409 = .ok (.iload 4, 2) := by decide +kernel
theorem xd_La_law_411 : decode code 411 = .ok (.iconst 2, 1) := by decide +kernel
theorem xd_La_law_412 : decode code 412 = .ok (.iadd, 1) := by decide +kernel
theorem xd_La_law_413 : decode code 413 = .ok (.iaload, 1) := by decide +kernel
theorem xd_La_law_414 : decode code 414 = .ok (.invokevirtual 77, 3) := by decide +kernel
theorem xd_La_law_417 : decode code 417 = .ok (.istore 6, 2) := by decide +kernel
theorem xd_La_law_419 : decode code 419 = .ok (.goto 28, 3) := by decide +kernel
theorem xd_La_law_422 : decode code 422 = .ok (.aload_n 1, 1) := by decide +kernel
theorem xd_La_law_423 : decode code 423 = .ok (.aload_n 0, 1) := by decide +kernel
theorem xd_La_law_424 : decode code 424 = .ok (.iload 4, 2) := by decide +kernel
theorem xd_La_law_426 : decode code 426 = .ok (.iconst 1, 1) := by decide +kernel
theorem xd_La_law_427 : decode code 427 = .ok (.iadd, 1) := by decide +kernel
theorem xd_La_law_428 : decode code 428 = .ok (.iaload, 1) := by decide +kernel
theorem xd_La_law_429 : decode code 429 = .ok (.invokevirtual 78, 3) := by decide +kernel
theorem xd_La_law_432 : decode code 432 = .ok (.aload_n 2, 1) := by decide +kernel
theorem xd_La_law_433 : decode code 433 = .ok (.aload_n 0, 1) := by decide +kernel
theorem xd_La_law_434 : decode code 434 = .ok (.iload 4, 2) := by decide +kernel
theorem xd_La_law_436 : decode code 436 = .ok (.iconst 1, 1) := by decide +kernel
theorem xd_La_law_437 : decode code 437 = .ok (.iadd, 1) := by decide +kernel
theorem xd_La_law_438 : decode code 438 = .ok (.iaload, 1) := by decide +kernel
theorem xd_La_law_439 : decode code 439 = .ok (.invokevirtual 81, 3) := by decide +kernel
theorem xd_La_law_442 : decode code 442 = .ok (.if_icmp .eq 5, 3) := by decide +kernel
theorem xd_La_law_445 : decode code 445 = .ok (.iconst 0, 1) := by decide +kernel
theorem xd_La_law_446 : decode code 446 = .ok (.ireturn, 1) := by decide +kernel
theorem xd_La_law_447 : decode code 447 = .ok (.iinc 4 3, 3) := by decide +kernel
theorem xd_La_law_450 : decode code 450 = .ok (.goto (-427), 3) := by decide +kernel
theorem xd_La_law_453 : decode code 453 = .ok (.iconst 1, 1) := by decide +kernel
theorem xd_La_law_454 : decode code 454 = .ok (.ireturn, 1) := by decide +kernel
