theorem xd_La_law_0 : decode code 0 = .ok (.new 8, 3) := by decide +kernel
theorem xd_La_law_3 : decode code 3 = .ok (.dup, 1) := by decide +kernel
theorem xd_La_law_4 : decode code 4 = .ok (.invokespecial 29, 3) := by decide +kernel
theorem xd_La_law_7 : decode code 7 = .ok (.astore_n 1, 1) := by decide +kernel
theorem xd_La_law_8 : decode code 8 = .ok (.new 30, 3) := by decide +kernel
theorem xd_La_law_11 : decode code 11 = .ok (.dup, 1) := by decide +kernel
theorem xd_La_law_12 : decode code 12 = .ok (.invokespecial 32, 3) := by decide +kernel
theorem xd_La_law_15 : decode code 15 = .ok (.astore_n 2, 1) := by decide +kernel
theorem xd_La_law_16 : decode code 16 = .ok (.iconst 1, 1) := by decide +kernel
theorem xd_La_law_17 : decode code 17 = .ok (.newarray .long, 2) := by decide +kernel
theorem xd_La_law_19 : decode code 19 = .ok (.astore_n 3, 1) := by decide +kernel
theorem xd_La_law_20 : decode code 20 = .ok (.iconst 0, 1) := by decide +kernel
theorem xd_La_law_21 : decode code 21 = .ok (.istore 4, 2) := by decide +kernel
theorem xd_La_law_23 : decode code 23 = .ok (.iload 4, 2) := by decide +kernel
theorem xd_La_law_25 : decode code 25 = .ok (.aload_n 0, 1) := by decide +kernel
theorem xd_La_law_26 : decode code 26 = .ok (.arraylength, 1) := by decide +kernel
theorem xd_La_law_27 : decode code 27 = .ok (.iconst 3, 1) := by decide +kernel
theorem xd_La_law_28 : decode code 28 = .ok (.isub, 1) := by decide +kernel
theorem xd_La_law_29 : decode code 29 = .ok (.if_icmp .gt 571, 3) := by decide +kernel
theorem xd_La_law_32 : decode code 32 = .ok (.aload_n 0, 1) := by decide +kernel
theorem xd_La_law_33 : decode code 33 = .ok (.iload 4, 2) := by decide +kernel
theorem xd_La_law_35 : decode code 35 = .ok (.iaload, 1) := by decide +kernel
theorem xd_La_law_36 : decode code 36 = .ok (.bipush 15, 2) := by decide +kernel
theorem xd_La_law_38 : decode code 38 = .ok (.iand, 1) := by decide +kernel
theorem xd_La_law_39 : decode code 39 = .ok (.tableswitch 555 0 11 #[61, 86, 127, 168, 224, 237, 250, 263, 326, 394, 462, 530], 61) := by decide +kernel
theorem xd_La_law_100 : decode code 100 = .ok (.aload_n 1, 1) := by decide +kernel
theorem xd_La_law_101 : decode code 101 = .ok (.aload_n 0, 1) := by decide +kernel
theorem xd_La_law_102 : decode code 102 = .ok (.iload 4, 2) := by decide +kernel
theorem xd_La_law_104 : decode code 104 = .ok (.iconst 1, 1) := by decide +kernel
theorem xd_La_law_105 : decode code 105 = .ok (.iadd, 1) := by decide +kernel
theorem xd_La_law_106 : decode code 106 = .ok (.iaload, 1) := by decide +kernel
theorem xd_La_law_107 : decode code 107 = .ok (.invokevirtual 33, 3) := by decide +kernel
theorem xd_La_law_110 : decode code 110 = .ok (.aload_n 2, 1) := by decide +kernel
theorem xd_La_law_111 : decode code 111 = .ok (.aload_n 0, 1) := by decide +kernel
theorem xd_La_law_112 : decode code 112 = .ok (.iload 4, 2) := by decide +kernel
theorem xd_La_law_114 : decode code 114 = .ok (.iconst 1, 1) := by decide +kernel
theorem xd_La_law_115 : decode code 115 = .ok (.iadd, 1) := by decide +kernel
theorem xd_La_law_116 : decode code 116 = .ok (.iaload, 1) := by decide +kernel
theorem xd_La_law_117 : decode code 117 = .ok (.invokevirtual 36, 3) := by decide +kernel
theorem xd_La_law_120 : decode code 120 = .ok (.if_icmp .eq 474, 3) := by decide +kernel
theorem xd_La_law_123 : decode code 123 = .ok (.iconst 0, 1) := by decide +kernel
theorem xd_La_law_124 : decode code 124 = .ok (.ireturn, 1) := by decide +kernel
theorem xd_La_law_125 : decode code 125 = .ok (.aload_n 1, 1) := by decide +kernel
theorem xd_La_law_126 : decode code 126 = .ok (.aload_n 0, 1) := by decide +kernel
theorem xd_La_law_127 : decode code 127 = .ok (.iload 4, 2) := by decide +kernel
theorem xd_La_law_129 : decode code 129 = .ok (.iconst 1, 1) := by decide +kernel
theorem xd_La_law_130 : decode code 130 = .ok (.iadd, 1) := by decide +kernel
theorem xd_La_law_131 : decode code 131 = .ok (.iaload, 1) := by decide +kernel
theorem xd_La_law_132 : decode code 132 = .ok (.ifCond .eq 7, 3) := by decide +kernel
theorem xd_La_law_135 : decode code 135 = .ok (.iconst 1, 1) := by decide +kernel
theorem xd_La_law_136 : decode code 136 = .ok (.goto 4, 3) := by decide +kernel
theorem xd_La_law_139 : decode code 139 = .ok (.iconst 0, 1) := by decide +kernel
theorem xd_La_law_140 : decode code 140 = .ok (.invokevirtual 37, 3) := by decide +kernel
theorem xd_La_law_143 : decode code 143 = .ok (.aload_n 2, 1) := by decide +kernel
theorem xd_La_law_144 : decode code 144 = .ok (.aload_n 0, 1) := by decide +kernel
theorem xd_La_law_145 : decode code 145 = .ok (.iload 4, 2) := by decide +kernel
theorem xd_La_law_147 : decode code 147 = .ok (.iconst 1, 1) := by decide +kernel
theorem xd_La_law_148 : decode code 148 = .ok (.iadd, 1) := by decide +kernel
theorem xd_La_law_149 : decode code 149 = .ok (.iaload, 1) := by decide +kernel
theorem xd_La_law_150 : decode code 150 = .ok (.ifCond .eq 7, 3) := by decide +kernel
theorem xd_La_law_153 : decode code 153 = .ok (.iconst 1, 1) := by decide +kernel
theorem xd_La_law_154 : decode code 154 = .ok (.goto 4, 3) := by decide +kernel
theorem xd_La_law_157 : decode code 157 = .ok (.iconst 0, 1) := by decide +kernel
theorem xd_La_law_158 : decode code 158 = .ok (.invokevirtual 41, 3) := by decide +kernel
theorem xd_La_law_161 : decode code 161 = .ok (.if_icmp .eq 433, 3) := by decide +kernel
theorem xd_La_law_164 : decode code 164 = .ok (.iconst 0, 1) := by decide +kernel
theorem xd_La_law_165 : decode code 165 = .ok (.ireturn, 1) := by decide +kernel
theorem xd_La_law_166 : decode code 166 = .ok (.aload_n 1, 1) := by decide +kernel
theorem xd_La_law_167 : decode code 167 = .ok (.aload_n 0, 1) := by decide +kernel
theorem xd_La_law_168 : decode code 168 = .ok (.iload 4, 2) := by decide +kernel
theorem xd_La_law_170 : decode code 170 = .ok (.iconst 1, 1) := by decide +kernel
theorem xd_La_law_171 : decode code 171 = .ok (.iadd, 1) := by decide +kernel
theorem xd_La_law_172 : decode code 172 = .ok (.iaload, 1) := by decide +kernel
theorem xd_La_law_173 : decode code 173 = .ok (.ifCond .eq 7, 3) := by decide +kernel
theorem xd_La_law_176 : decode code 176 = .ok (.iconst 1, 1) := by decide +kernel
theorem xd_La_law_177 : decode code 177 = .ok (.goto 4, 3) := by decide +kernel
theorem xd_La_law_180 : decode code 180 = .ok (.iconst 0, 1) := by decide +kernel
theorem xd_La_law_181 : decode code 181 = .ok (.invokevirtual 42, 3) := by decide +kernel
theorem xd_La_law_184 : decode code 184 = .ok (.aload_n 2, 1) := by decide +kernel
theorem xd_La_law_185 : decode code 185 = .ok (.aload_n 0, 1) := by decide +kernel
theorem xd_La_law_186 : decode code 186 = .ok (.iload 4, 2) := by decide +kernel
theorem xd_La_law_188 : decode code 188 = .ok (.iconst 1, 1) := by decide +kernel
theorem xd_La_law_189 : decode code 189 = .ok (.iadd, 1) := by decide +kernel
theorem xd_La_law_190 : decode code 190 = .ok (.iaload, 1) := by decide +kernel
theorem xd_La_law_191 : decode code 191 = .ok (.ifCond .eq 7, 3) := by decide +kernel
theorem xd_La_law_194 : decode code 194 = .ok (.iconst 1, 1) := by decide +kernel
theorem xd_La_law_195 : decode code 195 = .ok (.goto 4, 3) := by decide +kernel
theorem xd_La_law_198 : decode code 198 = .ok (.iconst 0, 1) := by decide +kernel
theorem xd_La_law_199 : decode code 199 = .ok (.invokevirtual 45, 3) := by decide +kernel
theorem xd_La_law_202 : decode code 202 = .ok (.if_icmp .eq 392, 3) := by decide +kernel
theorem xd_La_law_205 : decode code 205 = .ok (.iconst 0, 1) := by decide +kernel
theorem xd_La_law_206 : decode code 206 = .ok (.ireturn, 1) := by decide +kernel
theorem xd_La_law_207 : decode code 207 = .ok (.aload_n 1, 1) := by decide +kernel
theorem xd_La_law_208 : decode code 208 = .ok (.aload_n 0, 1) := by decide +kernel
theorem xd_La_law_209 : decode code 209 = .ok (.iload 4, 2) := by decide +kernel
theorem xd_La_law_211 : decode code 211 = .ok (.iconst 1, 1) := by decide +kernel
theorem xd_La_law_212 : decode code 212 = .ok (.iadd, 1) := by decide +kernel
theorem xd_La_law_213 : decode code 213 = .ok (.iaload, 1) := by decide +kernel
theorem xd_La_law_214 : decode code 214 = .ok (.aload_n 3, 1) := by decide +kernel
theorem xd_La_law_215 : decode code 215 = .ok (.invokestatic 46, 3) := by decide +kernel
theorem xd_La_law_218 : decode code 218 = .ok (.istore 5, 2) := by decide +kernel
theorem xd_La_law_220 : decode code 220 = .ok (.aload_n 2, 1) := by decide +kernel
theorem xd_La_law_221 : decode code 221 = .ok (.aload_n 0, 1) := by decide +kernel
theorem xd_La_law_222 : decode code 222 = .ok (.iload 4, 2) := by decide +kernel
theorem xd_La_law_224 : decode code 224 = .ok (.iconst 1, 1) := by decide +kernel
theorem xd_La_law_225 : decode code 225 = .ok (.iadd, 1) := by decide +kernel
theorem xd_La_law_226 : decode code 226 = .ok (.iaload, 1) := by decide +kernel
theorem xd_La_law_227 : decode code 227 = .ok (.invokevirtual 51, 3) := by decide +kernel
theorem xd_La_law_230 : decode code 230 = .ok (.istore 6, 2) := by decide +kernel
theorem xd_La_law_232 : decode code 232 = .ok (.aload_n 2, 1) := by decide +kernel
theorem xd_La_law_233 : decode code 233 = .ok (.invokevirtual 52, 3) := by decide +kernel
theorem xd_La_law_236 : decode code 236 = .ok (.iload 5, 2) := by decide +kernel
theorem xd_La_law_238 : decode code 238 = .ok (.if_icmp .eq 5, 3) := by decide +kernel
theorem xd_La_law_241 : decode code 241 = .ok (.iconst 0, 1) := by decide +kernel
theorem xd_La_law_242 : decode code 242 = .ok (.ireturn, 1) := by decide +kernel
theorem xd_La_law_243 : decode code 243 = .ok (.iload 5, 2) := by decide +kernel
theorem xd_La_law_245 : decode code 245 = .ok (.ifCond .ne 15, 3) := by decide +kernel
theorem xd_La_law_248 : decode code 248 = .ok (.aload_n 3, 1) := by decide +kernel
theorem xd_La_law_249 : decode code 249 = .ok (.iconst 0, 1) := by decide +kernel
theorem xd_La_law_250 : decode code 250 = .ok (.laload, 1) := by decide +kernel
theorem xd_La_law_251 : decode code 251 = .ok (.iload 6, 2) := by decide +kernel
theorem xd_La_law_253 : decode code 253 = .ok (.i2l, 1) := by decide +kernel
theorem xd_La_law_254 : decode code 254 = .ok (.lcmp, 1) := by decide +kernel
theorem xd_La_law_255 : decode code 255 = .ok (.ifCond .eq 5, 3) := by decide +kernel
theorem xd_La_law_258 : decode code 258 = .ok (.iconst 0, 1) := by decide +kernel
theorem xd_La_law_259 : decode code 259 = .ok (.ireturn, 1) := by decide +kernel
theorem xd_La_law_260 : decode code 260 = .ok (.goto 334, 3) := by decide +kernel
theorem xd_La_law_263 : decode code 263 = .ok (.aload_n 1, 1) := by decide +kernel
theorem xd_La_law_264 : decode code 264 = .ok (.invokevirtual 56, 3) := by decide +kernel
theorem xd_La_law_267 : decode code 267 = .ok (.aload_n 2, 1) := by decide +kernel
theorem xd_La_law_268 : decode code 268 = .ok (.invokevirtual 59, 3) := by decide +kernel
theorem xd_La_law_271 : decode code 271 = .ok (.if_icmp .eq 323, 3) := by decide +kernel
theorem xd_La_law_274 : decode code 274 = .ok (.iconst 0, 1) := by decide +kernel
theorem xd_La_law_275 : decode code 275 = .ok (.ireturn, 1) := by decide +kernel
theorem xd_La_law_276 : decode code 276 = .ok (.aload_n 1, 1) := by decide +kernel
theorem xd_La_law_277 : decode code 277 = .ok (.invokevirtual 60, 3) := by decide +kernel
theorem xd_La_law_280 : decode code 280 = .ok (.aload_n 2, 1) := by decide +kernel
theorem xd_La_law_281 : decode code 281 = .ok (.invokevirtual 63, 3) := by decide +kernel
theorem xd_La_law_284 : decode code 284 = .ok (.if_icmp .eq 310, 3) := by decide +kernel
theorem xd_La_law_287 : decode code 287 = .ok (.iconst 0, 1) := by decide +kernel
theorem xd_La_law_288 : decode code 288 = .ok (.ireturn, 1) := by decide +kernel
theorem xd_La_law_289 : decode code 289 = .ok (.aload_n 1, 1) := by decide +kernel
theorem xd_La_law_290 : decode code 290 = .ok (.invokevirtual 64, 3) := by decide +kernel
theorem xd_La_law_293 : decode code 293 = .ok (.aload_n 2, 1) := by decide +kernel
theorem xd_La_law_294 : decode code 294 = .ok (.invokevirtual 67, 3) := by decide +kernel
theorem xd_La_law_297 : decode code 297 = .ok (.if_icmp .eq 297, 3) := by decide +kernel
theorem xd_La_law_300 : decode code 300 = .ok (.iconst 0, 1) := by decide +kernel
theorem xd_La_law_301 : decode code 301 = .ok (.ireturn, 1) := by decide +kernel
theorem xd_La_law_302 : decode code 302 = .ok (.aload_n 1, 1) := by decide +kernel
theorem xd_La_law_303 : decode code 303 = .ok (.aload_n 0, 1) := by decide +kernel
theorem xd_La_law_304 : decode code 304 = .ok (.iload 4, 2) := by decide +kernel
theorem xd_La_law_306 : decode code 306 = .ok (.iconst 1, 1) := by decide +kernel
theorem xd_La_law_307 : decode code 307 = .ok (.iadd, 1) := by decide +kernel
theorem xd_La_law_308 : decode code 308 = .ok (.iaload, 1) := by decide +kernel
theorem xd_La_law_309 : decode code 309 = .ok (.aload_n 3, 1) := by decide +kernel
theorem xd_La_law_310 : decode code 310 = .ok (.invokestatic 68, 3) := by decide +kernel
theorem xd_La_law_313 : decode code 313 = .ok (.istore 5, 2) := by decide +kernel
theorem xd_La_law_315 : decode code 315 = .ok (.aload_n 2, 1) := by decide +kernel
theorem xd_La_law_316 : decode code 316 = .ok (.aload_n 0, 1) := by decide +kernel
theorem xd_La_law_317 : decode code 317 = .ok (.iload 4, 2) := by decide +kernel
theorem xd_La_law_319 : decode code 319 = .ok (.iconst 1, 1) := by decide +kernel
theorem xd_La_law_320 : decode code 320 = .ok (.iadd, 1) := by decide +kernel
theorem xd_La_law_321 : decode code 321 = .ok (.iaload, 1) := by decide +kernel
theorem xd_La_law_322 : decode code 322 = .ok (.invokevirtual 70, 3) := by decide +kernel
theorem xd_La_law_325 : decode code 325 = .ok (.istore 6, 2) := by decide +kernel
theorem xd_La_law_327 : decode code 327 = .ok (.aload_n 2, 1) := by decide +kernel
theorem xd_La_law_328 : decode code 328 = .ok (.invokevirtual 52, 3) := by decide +kernel
theorem xd_La_law_331 : decode code 331 = .ok (.iload 5, 2) := by decide +kernel
theorem xd_La_law_333 : decode code 333 = .ok (.if_icmp .eq 5, 3) := by decide +kernel
theorem xd_La_law_336 : decode code 336 = .ok (.iconst 0, 1) := by decide +kernel
theorem xd_La_law_337 : decode code 337 = .ok (.ireturn, 1) := by decide +kernel
theorem xd_La_law_338 : decode code 338 = .ok (.iload 5, 2) := by decide +kernel
theorem xd_La_law_340 : decode code 340 = .ok (.ifCond .ne 22, 3) := by decide +kernel
theorem xd_La_law_343 : decode code 343 = .ok (.aload_n 3, 1) := by decide +kernel
theorem xd_La_law_344 : decode code 344 = .ok (.iconst 0, 1) := by decide +kernel
theorem xd_La_law_345 : decode code 345 = .ok (.laload, 1) := by decide +kernel
theorem xd_La_law_346 : decode code 346 = .ok (.iload 6, 2) := by decide +kernel
theorem xd_La_law_348 : decode code 348 = .ok (.ifCond .eq 7, 3) := by decide +kernel
theorem xd_La_law_351 : decode code 351 = .ok (.lconst 1, 1) := by decide +kernel
theorem xd_La_law_352 : decode code 352 = .ok (.goto 4, 3) := by decide +kernel
theorem xd_La_law_355 : decode code 355 = .ok (.lconst 0, 1) := by decide +kernel
theorem xd_La_law_356 : decode code 356 = .ok (.lcmp, 1) := by decide +kernel
theorem xd_La_law_357 : decode code 357 = .ok (.ifCond .eq 5, 3) := by decide +kernel
theorem xd_La_law_360 : decode code 360 = .ok (.iconst 0, 1) := by decide +kernel
theorem xd_La_law_361 : decode code 361 = .ok (.ireturn, 1) := by decide +kernel
theorem xd_La_law_362 : decode code 362 = .ok (.goto 232, 3) := by decide +kernel
theorem xd_La_law_365 : decode code 365 = .ok (.aload_n 1, 1) := by decide +kernel
theorem xd_La_law_366 : decode code 366 = .ok (.aload_n 0, 1) := by decide +kernel
theorem xd_La_law_367 : decode code 367 = .ok (.iload 4, 2) := by decide +kernel
theorem xd_La_law_369 : decode code 369 = .ok (.iconst 1, 1) := by decide +kernel
theorem xd_La_law_370 : decode code 370 = .ok (.iadd, 1) := by decide +kernel
theorem xd_La_law_371 : decode code 371 = .ok (.iaload, 1) := by decide +kernel
theorem xd_La_law_372 : decode code 372 = .ok (.aload_n 0, 1) := by decide +kernel
theorem xd_La_law_373 : decode code 373 = .ok (.iload 4, 2) := by decide +kernel
theorem xd_La_law_375 : decode code 375 = .ok (.iconst 2, 1) := by decide +kernel
theorem xd_La_law_376 : decode code 376 = .ok (.iadd, 1) := by decide +kernel
theorem xd_La_law_377 : decode code 377 = .ok (.iaload, 1) := by decide +kernel
theorem xd_La_law_378 : decode code 378 = .ok (.aload_n 3, 1) := by decide +kernel
theorem xd_La_law_379 : decode code 379 = .ok (.invokestatic 71, 3) := by decide +kernel
theorem xd_La_law_382 : decode code 382 = .ok (.istore 5, 2) := by decide +kernel
theorem xd_La_law_384 : decode code 384 = .ok (.aload_n 2, 1) := by decide +kernel
theorem xd_La_law_385 : decode code 385 = .ok (.aload_n 0, 1) := by decide +kernel
theorem xd_La_law_386 : decode code 386 = .ok (.iload 4, 2) := by decide +kernel
theorem xd_La_law_388 : decode code 388 = .ok (.iconst 1, 1) := by decide +kernel
theorem xd_La_law_389 : decode code 389 = .ok (.iadd, 1) := by decide +kernel
theorem xd_La_law_390 : decode code 390 = .ok (.iaload, 1) := by decide +kernel
theorem xd_La_law_391 : decode code 391 = .ok (.aload_n 0, 1) := by decide +kernel
theorem xd_La_law_392 : decode code 392 = .ok (.iload 4, 2) := by decide +kernel
theorem xd_La_law_394 : decode code 394 = .ok (.iconst 2, 1) := by decide +kernel
theorem xd_La_law_395 : decode code 395 = .ok (.iadd, 1) := by decide +kernel
theorem xd_La_law_396 : decode code 396 = .ok (.iaload, 1) := by decide +kernel
theorem xd_La_law_397 : decode code 397 = .ok (.invokevirtual 74, 3) := by decide +kernel
theorem xd_La_law_400 : decode code 400 = .ok (.istore 6, 2) := by decide +kernel
theorem xd_La_law_402 : decode code 402 = .ok (.aload_n 2, 1) := by decide +kernel
theorem xd_La_law_403 : decode code 403 = .ok (.invokevirtual 52, 3) := by decide +kernel
theorem xd_La_law_406 : decode code 406 = .ok (.iload 5, 2) := by decide +kernel
theorem xd_La_law_408 : decode code 408 = .ok (.if_icmp .eq 5, 3) := by decide +kernel
theorem xd_La_law_411 : decode code 411 = .ok (.iconst 0, 1) := by decide +kernel
theorem xd_La_law_412 : decode code 412 = .ok (.ireturn, 1) := by decide +kernel
theorem xd_La_law_413 : decode code 413 = .ok (.iload 5, 2) := by decide +kernel
theorem xd_La_law_415 : decode code 415 = .ok (.ifCond .ne 15, 3) := by decide +kernel
theorem xd_La_law_418 : decode code 418 = .ok (.aload_n 3, 1) := by decide +kernel
theorem xd_La_law_419 : decode code 419 = .ok (.iconst 0, 1) := by decide +kernel
theorem xd_La_law_420 : decode code 420 = .ok (.laload, 1) := by decide +kernel
theorem xd_La_law_421 : decode code 421 = .ok (.iload 6, 2) := by decide +kernel
theorem xd_La_law_423 : decode code 423 = .ok (.i2l, 1) := by decide +kernel
theorem xd_La_law_424 : decode code 424 = .ok (.lcmp, 1) := by decide +kernel
theorem xd_La_law_425 : decode code 425 = .ok (.ifCond .eq 5, 3) := by decide +kernel
theorem xd_La_law_428 : decode code 428 = .ok (.iconst 0, 1) := by decide +kernel
theorem xd_La_law_429 : decode code 429 = .ok (.ireturn, 1) := by decide +kernel
theorem xd_La_law_430 : decode code 430 = .ok (.goto 164, 3) := by decide +kernel
theorem xd_La_law_433 : decode code 433 = .ok (.aload_n 1, 1) := by decide +kernel
theorem xd_La_law_434 : decode code 434 = .ok (.aload_n 0, 1) := by decide +kernel
theorem xd_La_law_435 : decode code 435 = .ok (.iload 4, 2) := by decide +kernel
theorem xd_La_law_437 : decode code 437 = .ok (.iconst 1, 1) := by decide +kernel
theorem xd_La_law_438 : decode code 438 = .ok (.iadd, 1) := by decide +kernel
theorem xd_La_law_439 : decode code 439 = .ok (.iaload, 1) := by decide +kernel
theorem xd_La_law_440 : decode code 440 = .ok (.aload_n 0, 1) := by decide +kernel
theorem xd_La_law_441 : decode code 441 = .ok (.iload 4, 2) := by decide +kernel
theorem xd_La_law_443 : decode code 443 = .ok (.iconst 2, 1) := by decide +kernel
theorem xd_La_law_444 : decode code 444 = .ok (.iadd, 1) := by decide +kernel
theorem xd_La_law_445 : decode code 445 = .ok (.iaload, 1) := by decide +kernel
theorem xd_La_law_446 : decode code 446 = .ok (.aload_n 3, 1) := by decide +kernel
theorem xd_La_law_447 : decode code 447 = .ok (.invokestatic 75, 3) := by decide +kernel
theorem xd_La_law_450 : decode code 450 = .ok (.istore 5, 2) := by decide +kernel
theorem xd_La_law_452 : decode code 452 = .ok (.aload_n 2, 1) := by decide +kernel
theorem xd_La_law_453 : decode code 453 = .ok (.aload_n 0, 1) := by decide +kernel
theorem xd_La_law_454 : decode code 454 = .ok (.iload 4, 2) := by decide +kernel
theorem xd_La_law_456 : decode code 456 = .ok (.iconst 1, 1) := by decide +kernel
theorem xd_La_law_457 : decode code 457 = .ok (.iadd, 1) := by decide +kernel
theorem xd_La_law_458 : decode code 458 = .ok (.iaload, 1) := by decide +kernel
theorem xd_La_law_459 : decode code 459 = .ok (.aload_n 0, 1) := by decide +kernel
theorem xd_La_law_460 : decode code 460 = .ok (.iload 4, 2) := by decide +kernel
theorem xd_La_law_462 : decode code 462 = .ok (.iconst 2, 1) := by decide +kernel
theorem xd_La_law_463 : decode code 463 = .ok (.iadd, 1) := by decide +kernel
theorem xd_La_law_464 : decode code 464 = .ok (.iaload, 1) := by decide +kernel
theorem xd_La_law_465 : decode code 465 = .ok (.invokevirtual 77, 3) := by decide +kernel
theorem xd_La_law_468 : decode code 468 = .ok (.istore 6, 2) := by decide +kernel
theorem xd_La_law_470 : decode code 470 = .ok (.aload_n 2, 1) := by decide +kernel
theorem xd_La_law_471 : decode code 471 = .ok (.invokevirtual 52, 3) := by decide +kernel
theorem xd_La_law_474 : decode code 474 = .ok (.iload 5, 2) := by decide +kernel
theorem xd_La_law_476 : decode code 476 = .ok (.if_icmp .eq 5, 3) := by decide +kernel
theorem xd_La_law_479 : decode code 479 = .ok (.iconst 0, 1) := by decide +kernel
theorem xd_La_law_480 : decode code 480 = .ok (.ireturn, 1) := by decide +kernel
theorem xd_La_law_481 : decode code 481 = .ok (.iload 5, 2) := by decide +kernel
theorem xd_La_law_483 : decode code 483 = .ok (.ifCond .ne 15, 3) := by decide +kernel
theorem xd_La_law_486 : decode code 486 = .ok (.aload_n 3, 1) := by decide +kernel
theorem xd_La_law_487 : decode code 487 = .ok (.iconst 0, 1) := by decide +kernel
theorem xd_La_law_488 : decode code 488 = .ok (.laload, 1) := by decide +kernel
theorem xd_La_law_489 : decode code 489 = .ok (.iload 6, 2) := by decide +kernel
theorem xd_La_law_491 : decode code 491 = .ok (.i2l, 1) := by decide +kernel
theorem xd_La_law_492 : decode code 492 = .ok (.lcmp, 1) := by decide +kernel
theorem xd_La_law_493 : decode code 493 = .ok (.ifCond .eq 5, 3) := by decide +kernel
theorem xd_La_law_496 : decode code 496 = .ok (.iconst 0, 1) := by decide +kernel
theorem xd_La_law_497 : decode code 497 = .ok (.ireturn, 1) := by decide +kernel
theorem xd_La_law_498 : decode code 498 = .ok (.goto 96, 3) := by decide +kernel
theorem xd_La_law_501 : decode code 501 = .ok (.aload_n 1, 1) := by decide +kernel
theorem xd_La_law_502 : decode code 502 = .ok (.aload_n 0, 1) := by decide +kernel
theorem xd_La_law_503 : decode code 503 = .ok (.iload 4, 2) := by decide +kernel
theorem xd_La_law_505 : decode code 505 = .ok (.iconst 1, 1) := by decide +kernel
theorem xd_La_law_506 : decode code 506 = .ok (.iadd, 1) := by decide +kernel
theorem xd_La_law_507 : decode code 507 = .ok (.iaload, 1) := by decide +kernel
theorem xd_La_law_508 : decode code 508 = .ok (.aload_n 0, 1) := by decide +kernel
theorem xd_La_law_509 : decode code 509 = .ok (.iload 4, 2) := by decide +kernel
theorem xd_La_law_511 : decode code 511 = .ok (.iconst 2, 1) := by decide +kernel
theorem xd_La_law_512 : decode code 512 = .ok (.iadd, 1) := by decide +kernel
theorem xd_La_law_513 : decode code 513 = .ok (.iaload, 1) := by decide +kernel
theorem xd_La_law_514 : decode code 514 = .ok (.aload_n 3, 1) := by decide +kernel
theorem xd_La_law_515 : decode code 515 = .ok (.invokestatic 78, 3) := by decide +kernel
theorem xd_La_law_518 : decode code 518 = .ok (.istore 5, 2) := by decide +kernel
theorem xd_La_law_520 : decode code 520 = .ok (.aload_n 2, 1) := by decide +kernel
theorem xd_La_law_521 : decode code 521 = .ok (.aload_n 0, 1) := by decide +kernel
theorem xd_La_law_522 : decode code 522 = .ok (.iload 4, 2) := by decide +kernel
theorem xd_La_law_524 : decode code 524 = .ok (.iconst 1, 1) := by decide +kernel
theorem xd_La_law_525 : decode code 525 = .ok (.iadd, 1) := by decide +kernel
theorem xd_La_law_526 : decode code 526 = .ok (.iaload, 1) := by decide +kernel
theorem xd_La_law_527 : decode code 527 = .ok (.aload_n 0, 1) := by decide +kernel
theorem xd_La_law_528 : decode code 528 = .ok (.iload 4, 2) := by decide +kernel
theorem xd_La_law_530 : decode code 530 = .ok (.iconst 2, 1) := by decide +kernel
theorem xd_La_law_531 : decode code 531 = .ok (.iadd, 1) := by decide +kernel
theorem xd_La_law_532 : decode code 532 = .ok (.iaload, 1) := by decide +kernel
theorem xd_La_law_533 : decode code 533 = .ok (.invokevirtual 80, 3) := by decide +kernel
theorem xd_La_law_536 : decode code 536 = .ok (.istore 6, 2) := by decide +kernel
theorem xd_La_law_538 : decode code 538 = .ok (.aload_n 2, 1) := by decide +kernel
theorem xd_La_law_539 : decode code 539 = .ok (.invokevirtual 52, 3) := by decide +kernel
theorem xd_La_law_542 : decode code 542 = .ok (.iload 5, 2) := by decide +kernel
theorem xd_La_law_544 : decode code 544 = .ok (.if_icmp .eq 5, 3) := by decide +kernel
theorem xd_La_law_547 : decode code 547 = .ok (.iconst 0, 1) := by decide +kernel
theorem xd_La_law_548 : decode code 548 = .ok (.ireturn, 1) := by decide +kernel
theorem xd_La_law_549 : decode code 549 = .ok (.iload 5, 2) := by decide +kernel
theorem xd_La_law_551 : decode code 551 = .ok (.ifCond .ne 15, 3) := by decide +kernel
theorem xd_La_law_554 : decode code 554 = .ok (.aload_n 3, 1) := by decide +kernel
theorem xd_La_law_555 : decode code 555 = .ok (.iconst 0, 1) := by decide +kernel
theorem xd_La_law_556 : decode code 556 = .ok (.laload, 1) := by decide +kernel
theorem xd_La_law_557 : decode code 557 = .ok (.iload 6, 2) := by decide +kernel
theorem xd_La_law_559 : decode code 559 = .ok (.i2l, 1) := by decide +kernel
theorem xd_La_law_560 : decode code 560 = .ok (.lcmp, 1) := by decide +kernel
theorem xd_La_law_561 : decode code 561 = .ok (.ifCond .eq 5, 3) := by decide +kernel
theorem xd_La_law_564 : decode code 564 = .ok (.iconst 0, 1) := by decide +kernel
theorem xd_La_law_565 : decode code 565 = .ok (.ireturn, 1) := by decide +kernel
theorem xd_La_law_566 : decode code 566 = .ok (.goto 28, 3) := by decide +kernel
theorem xd_La_law_569 : decode code 569 = .ok (.aload_n 1, 1) := by decide +kernel
theorem xd_La_law_570 : decode code 570 = .ok (.aload_n 0, 1) := by decide +kernel
theorem xd_La_law_571 : decode code 571 = .ok (.iload 4, 2) := by decide +kernel
theorem xd_La_law_573 : decode code 573 = .ok (.iconst 1, 1) := by decide +kernel
theorem xd_La_law_574 : decode code 574 = .ok (.iadd, 1) := by decide +kernel
theorem xd_La_law_575 : decode code 575 = .ok (.iaload, 1) := by decide +kernel
theorem xd_La_law_576 : decode code 576 = .ok (.invokevirtual 81, 3) := by decide +kernel
theorem xd_La_law_579 : decode code 579 = .ok (.aload_n 2, 1) := by decide +kernel
theorem xd_La_law_580 : decode code 580 = .ok (.aload_n 0, 1) := by decide +kernel
theorem xd_La_law_581 : decode code 581 = .ok (.iload 4, 2) := by decide +kernel
theorem xd_La_law_583 : decode code 583 = .ok (.iconst 1, 1) := by decide +kernel
theorem xd_La_law_584 : decode code 584 = .ok (.iadd, 1) := by decide +kernel
theorem xd_La_law_585 : decode code 585 = .ok (.iaload, 1) := by decide +kernel
theorem xd_La_law_586 : decode code 586 = .ok (.invokevirtual 84, 3) := by decide +kernel
theorem xd_La_law_589 : decode code 589 = .ok (.if_icmp .eq 5, 3) := by decide +kernel
theorem xd_La_law_592 : decode code 592 = .ok (.iconst 0, 1) := by decide +kernel
theorem xd_La_law_593 : decode code 593 = .ok (.ireturn, 1) := by decide +kernel
theorem xd_La_law_594 : decode code 594 = .ok (.iinc 4 3, 3) := by decide +kernel
theorem xd_La_law_597 : decode code 597 = .ok (.goto (-574), 3) := by decide +kernel
theorem xd_La_law_600 : decode code 600 = .ok (.iconst 1, 1) := by decide +kernel
theorem xd_La_law_601 : decode code 601 = .ok (.ireturn, 1) := by decide +kernel
