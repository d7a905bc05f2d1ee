/-! the law's instructions, 1 -/
theorem dl_0 : decode code 0 = .ok (.new 8, 3) := by decide +kernel
theorem dl_3 : decode code 3 = .ok (.dup, 1) := by decide +kernel
theorem dl_4 : decode code 4 = .ok (.invokespecial 84, 3) := by decide +kernel
theorem dl_7 : decode code 7 = .ok (.astore_n 1, 1) := by decide +kernel
theorem dl_8 : decode code 8 = .ok (.new 85, 3) := by decide +kernel
theorem dl_11 : decode code 11 = .ok (.dup, 1) := by decide +kernel
theorem dl_12 : decode code 12 = .ok (.invokespecial 87, 3) := by decide +kernel
theorem dl_15 : decode code 15 = .ok (.astore_n 2, 1) := by decide +kernel
theorem dl_16 : decode code 16 = .ok (.iconst 1, 1) := by decide +kernel
theorem dl_17 : decode code 17 = .ok (.newarray .long, 2) := by decide +kernel
theorem dl_19 : decode code 19 = .ok (.astore_n 3, 1) := by decide +kernel
theorem dl_20 : decode code 20 = .ok (.iconst 0, 1) := by decide +kernel
theorem dl_21 : decode code 21 = .ok (.istore 4, 2) := by decide +kernel
theorem dl_23 : decode code 23 = .ok (.iload 4, 2) := by decide +kernel
theorem dl_25 : decode code 25 = .ok (.aload_n 0, 1) := by decide +kernel
theorem dl_26 : decode code 26 = .ok (.arraylength, 1) := by decide +kernel
theorem dl_27 : decode code 27 = .ok (.iconst 3, 1) := by decide +kernel
theorem dl_28 : decode code 28 = .ok (.isub, 1) := by decide +kernel
theorem dl_29 : decode code 29 = .ok (.if_icmp .gt 1191, 3) := by decide +kernel
theorem dl_32 : decode code 32 = .ok (.aload_n 0, 1) := by decide +kernel
theorem dl_33 : decode code 33 = .ok (.iload 4, 2) := by decide +kernel
theorem dl_35 : decode code 35 = .ok (.iaload, 1) := by decide +kernel
theorem dl_36 : decode code 36 = .ok (.bipush 31, 2) := by decide +kernel
theorem dl_38 : decode code 38 = .ok (.iand, 1) := by decide +kernel
theorem dl_39 : decode code 39 = .ok (.tableswitch 1175 0 23 #[109, 165, 221, 245, 269, 293, 349, 417, 473, 486, 522, 546, 602, 665, 709, 722, 773, 821, 889, 945, 958, 1026, 1094, 1162], 109) := by decide +kernel
theorem dl_148 : decode code 148 = .ok (.aload_n 1, 1) := by decide +kernel
theorem dl_149 : decode code 149 = .ok (.aload_n 0, 1) := by decide +kernel
theorem dl_150 : decode code 150 = .ok (.iload 4, 2) := by decide +kernel
theorem dl_152 : decode code 152 = .ok (.iconst 1, 1) := by decide +kernel
theorem dl_153 : decode code 153 = .ok (.iadd, 1) := by decide +kernel
theorem dl_154 : decode code 154 = .ok (.iaload, 1) := by decide +kernel
theorem dl_155 : decode code 155 = .ok (.aload_n 3, 1) := by decide +kernel
theorem dl_156 : decode code 156 = .ok (.invokestatic 88, 3) := by decide +kernel
theorem dl_159 : decode code 159 = .ok (.istore 5, 2) := by decide +kernel
theorem dl_161 : decode code 161 = .ok (.aload_n 2, 1) := by decide +kernel
theorem dl_162 : decode code 162 = .ok (.aload_n 0, 1) := by decide +kernel
theorem dl_163 : decode code 163 = .ok (.iload 4, 2) := by decide +kernel
theorem dl_165 : decode code 165 = .ok (.iconst 1, 1) := by decide +kernel
theorem dl_166 : decode code 166 = .ok (.iadd, 1) := by decide +kernel
theorem dl_167 : decode code 167 = .ok (.iaload, 1) := by decide +kernel
theorem dl_168 : decode code 168 = .ok (.invokevirtual 93, 3) := by decide +kernel
theorem dl_171 : decode code 171 = .ok (.istore 6, 2) := by decide +kernel
theorem dl_173 : decode code 173 = .ok (.aload_n 2, 1) := by decide +kernel
theorem dl_174 : decode code 174 = .ok (.invokevirtual 94, 3) := by decide +kernel
theorem dl_177 : decode code 177 = .ok (.iload 5, 2) := by decide +kernel
theorem dl_179 : decode code 179 = .ok (.if_icmp .eq 5, 3) := by decide +kernel
theorem dl_182 : decode code 182 = .ok (.iconst 0, 1) := by decide +kernel
theorem dl_183 : decode code 183 = .ok (.ireturn, 1) := by decide +kernel
theorem dl_184 : decode code 184 = .ok (.iload 5, 2) := by decide +kernel
theorem dl_186 : decode code 186 = .ok (.ifCond .ne 15, 3) := by decide +kernel
theorem dl_189 : decode code 189 = .ok (.aload_n 3, 1) := by decide +kernel
theorem dl_190 : decode code 190 = .ok (.iconst 0, 1) := by decide +kernel
theorem dl_191 : decode code 191 = .ok (.laload, 1) := by decide +kernel
theorem dl_192 : decode code 192 = .ok (.iload 6, 2) := by decide +kernel
theorem dl_194 : decode code 194 = .ok (.i2l, 1) := by decide +kernel
theorem dl_195 : decode code 195 = .ok (.lcmp, 1) := by decide +kernel
theorem dl_196 : decode code 196 = .ok (.ifCond .eq 5, 3) := by decide +kernel
theorem dl_199 : decode code 199 = .ok (.iconst 0, 1) := by decide +kernel
theorem dl_200 : decode code 200 = .ok (.ireturn, 1) := by decide +kernel
theorem dl_201 : decode code 201 = .ok (.goto 1013, 3) := by decide +kernel
theorem dl_204 : decode code 204 = .ok (.aload_n 1, 1) := by decide +kernel
theorem dl_205 : decode code 205 = .ok (.aload_n 0, 1) := by decide +kernel
theorem dl_206 : decode code 206 = .ok (.iload 4, 2) := by decide +kernel
theorem dl_208 : decode code 208 = .ok (.iconst 1, 1) := by decide +kernel
theorem dl_209 : decode code 209 = .ok (.iadd, 1) := by decide +kernel
theorem dl_210 : decode code 210 = .ok (.iaload, 1) := by decide +kernel
theorem dl_211 : decode code 211 = .ok (.aload_n 3, 1) := by decide +kernel
theorem dl_212 : decode code 212 = .ok (.invokestatic 97, 3) := by decide +kernel
theorem dl_215 : decode code 215 = .ok (.istore 5, 2) := by decide +kernel
theorem dl_217 : decode code 217 = .ok (.aload_n 2, 1) := by decide +kernel
theorem dl_218 : decode code 218 = .ok (.aload_n 0, 1) := by decide +kernel
theorem dl_219 : decode code 219 = .ok (.iload 4, 2) := by decide +kernel
theorem dl_221 : decode code 221 = .ok (.iconst 1, 1) := by decide +kernel
theorem dl_222 : decode code 222 = .ok (.iadd, 1) := by decide +kernel
theorem dl_223 : decode code 223 = .ok (.iaload, 1) := by decide +kernel
theorem dl_224 : decode code 224 = .ok (.invokevirtual 99, 3) := by decide +kernel
theorem dl_227 : decode code 227 = .ok (.istore 6, 2) := by decide +kernel
theorem dl_229 : decode code 229 = .ok (.aload_n 2, 1) := by decide +kernel
theorem dl_230 : decode code 230 = .ok (.invokevirtual 94, 3) := by decide +kernel
theorem dl_233 : decode code 233 = .ok (.iload 5, 2) := by decide +kernel
theorem dl_235 : decode code 235 = .ok (.if_icmp .eq 5, 3) := by decide +kernel
theorem dl_238 : decode code 238 = .ok (.iconst 0, 1) := by decide +kernel
theorem dl_239 : decode code 239 = .ok (.ireturn, 1) := by decide +kernel
theorem dl_240 : decode code 240 = .ok (.iload 5, 2) := by decide +kernel
theorem dl_242 : decode code 242 = .ok (.ifCond .ne 15, 3) := by decide +kernel
theorem dl_245 : decode code 245 = .ok (.aload_n 3, 1) := by decide +kernel
theorem dl_246 : decode code 246 = .ok (.iconst 0, 1) := by decide +kernel
theorem dl_247 : decode code 247 = .ok (.laload, 1) := by decide +kernel
theorem dl_248 : decode code 248 = .ok (.iload 6, 2) := by decide +kernel
theorem dl_250 : decode code 250 = .ok (.i2l, 1) := by decide +kernel
theorem dl_251 : decode code 251 = .ok (.lcmp, 1) := by decide +kernel
theorem dl_252 : decode code 252 = .ok (.ifCond .eq 5, 3) := by decide +kernel
theorem dl_255 : decode code 255 = .ok (.iconst 0, 1) := by decide +kernel
theorem dl_256 : decode code 256 = .ok (.ireturn, 1) := by decide +kernel
theorem dl_257 : decode code 257 = .ok (.goto 957, 3) := by decide +kernel
theorem dl_260 : decode code 260 = .ok (.aload_n 1, 1) := by decide +kernel
theorem dl_261 : decode code 261 = .ok (.invokestatic 100, 3) := by decide +kernel
theorem dl_264 : decode code 264 = .ok (.istore 5, 2) := by decide +kernel
theorem dl_266 : decode code 266 = .ok (.aload_n 2, 1) := by decide +kernel
theorem dl_267 : decode code 267 = .ok (.invokevirtual 103, 3) := by decide +kernel
theorem dl_270 : decode code 270 = .ok (.aload_n 2, 1) := by decide +kernel
theorem dl_271 : decode code 271 = .ok (.invokevirtual 94, 3) := by decide +kernel
theorem dl_274 : decode code 274 = .ok (.iload 5, 2) := by decide +kernel
theorem dl_276 : decode code 276 = .ok (.if_icmp .eq 5, 3) := by decide +kernel
theorem dl_279 : decode code 279 = .ok (.iconst 0, 1) := by decide +kernel
theorem dl_280 : decode code 280 = .ok (.ireturn, 1) := by decide +kernel
theorem dl_281 : decode code 281 = .ok (.goto 933, 3) := by decide +kernel
theorem dl_284 : decode code 284 = .ok (.aload_n 1, 1) := by decide +kernel
theorem dl_285 : decode code 285 = .ok (.invokestatic 104, 3) := by decide +kernel
theorem dl_288 : decode code 288 = .ok (.istore 5, 2) := by decide +kernel
theorem dl_290 : decode code 290 = .ok (.aload_n 2, 1) := by decide +kernel
theorem dl_291 : decode code 291 = .ok (.invokevirtual 106, 3) := by decide +kernel
theorem dl_294 : decode code 294 = .ok (.aload_n 2, 1) := by decide +kernel
theorem dl_295 : decode code 295 = .ok (.invokevirtual 94, 3) := by decide +kernel
theorem dl_298 : decode code 298 = .ok (.iload 5, 2) := by decide +kernel
theorem dl_300 : decode code 300 = .ok (.if_icmp .eq 5, 3) := by decide +kernel
theorem dl_303 : decode code 303 = .ok (.iconst 0, 1) := by decide +kernel
theorem dl_304 : decode code 304 = .ok (.ireturn, 1) := by decide +kernel
theorem dl_305 : decode code 305 = .ok (.goto 909, 3) := by decide +kernel
theorem dl_308 : decode code 308 = .ok (.aload_n 1, 1) := by decide +kernel
theorem dl_309 : decode code 309 = .ok (.invokestatic 107, 3) := by decide +kernel
theorem dl_312 : decode code 312 = .ok (.istore 5, 2) := by decide +kernel
theorem dl_314 : decode code 314 = .ok (.aload_n 2, 1) := by decide +kernel
theorem dl_315 : decode code 315 = .ok (.invokevirtual 109, 3) := by decide +kernel
theorem dl_318 : decode code 318 = .ok (.aload_n 2, 1) := by decide +kernel
theorem dl_319 : decode code 319 = .ok (.invokevirtual 94, 3) := by decide +kernel
theorem dl_322 : decode code 322 = .ok (.iload 5, 2) := by decide +kernel
theorem dl_324 : decode code 324 = .ok (.if_icmp .eq 5, 3) := by decide +kernel
theorem dl_327 : decode code 327 = .ok (.iconst 0, 1) := by decide +kernel
theorem dl_328 : decode code 328 = .ok (.ireturn, 1) := by decide +kernel
theorem dl_329 : decode code 329 = .ok (.goto 885, 3) := by decide +kernel
theorem dl_332 : decode code 332 = .ok (.aload_n 1, 1) := by decide +kernel
theorem dl_333 : decode code 333 = .ok (.aload_n 0, 1) := by decide +kernel
theorem dl_334 : decode code 334 = .ok (.iload 4, 2) := by decide +kernel
theorem dl_336 : decode code 336 = .ok (.iconst 1, 1) := by decide +kernel
theorem dl_337 : decode code 337 = .ok (.iadd, 1) := by decide +kernel
theorem dl_338 : decode code 338 = .ok (.iaload, 1) := by decide +kernel
theorem dl_339 : decode code 339 = .ok (.aload_n 3, 1) := by decide +kernel
theorem dl_340 : decode code 340 = .ok (.invokestatic 110, 3) := by decide +kernel
theorem dl_343 : decode code 343 = .ok (.istore 5, 2) := by decide +kernel
theorem dl_345 : decode code 345 = .ok (.aload_n 2, 1) := by decide +kernel
theorem dl_346 : decode code 346 = .ok (.aload_n 0, 1) := by decide +kernel
theorem dl_347 : decode code 347 = .ok (.iload 4, 2) := by decide +kernel
theorem dl_349 : decode code 349 = .ok (.iconst 1, 1) := by decide +kernel
theorem dl_350 : decode code 350 = .ok (.iadd, 1) := by decide +kernel
theorem dl_351 : decode code 351 = .ok (.iaload, 1) := by decide +kernel
theorem dl_352 : decode code 352 = .ok (.invokevirtual 112, 3) := by decide +kernel
theorem dl_355 : decode code 355 = .ok (.istore 6, 2) := by decide +kernel
theorem dl_357 : decode code 357 = .ok (.aload_n 2, 1) := by decide +kernel
theorem dl_358 : decode code 358 = .ok (.invokevirtual 94, 3) := by decide +kernel
theorem dl_361 : decode code 361 = .ok (.iload 5, 2) := by decide +kernel
theorem dl_363 : decode code 363 = .ok (.if_icmp .eq 5, 3) := by decide +kernel
theorem dl_366 : decode code 366 = .ok (.iconst 0, 1) := by decide +kernel
theorem dl_367 : decode code 367 = .ok (.ireturn, 1) := by decide +kernel
theorem dl_368 : decode code 368 = .ok (.iload 5, 2) := by decide +kernel
theorem dl_370 : decode code 370 = .ok (.ifCond .ne 15, 3) := by decide +kernel
theorem dl_373 : decode code 373 = .ok (.aload_n 3, 1) := by decide +kernel
theorem dl_374 : decode code 374 = .ok (.iconst 0, 1) := by decide +kernel
theorem dl_375 : decode code 375 = .ok (.laload, 1) := by decide +kernel
theorem dl_376 : decode code 376 = .ok (.iload 6, 2) := by decide +kernel
theorem dl_378 : decode code 378 = .ok (.i2l, 1) := by decide +kernel
theorem dl_379 : decode code 379 = .ok (.lcmp, 1) := by decide +kernel
theorem dl_380 : decode code 380 = .ok (.ifCond .eq 5, 3) := by decide +kernel
theorem dl_383 : decode code 383 = .ok (.iconst 0, 1) := by decide +kernel
theorem dl_384 : decode code 384 = .ok (.ireturn, 1) := by decide +kernel
theorem dl_385 : decode code 385 = .ok (.goto 829, 3) := by decide +kernel
theorem dl_388 : decode code 388 = .ok (.aload_n 1, 1) := by decide +kernel
theorem dl_389 : decode code 389 = .ok (.aload_n 0, 1) := by decide +kernel
theorem dl_390 : decode code 390 = .ok (.iload 4, 2) := by decide +kernel
theorem dl_392 : decode code 392 = .ok (.iconst 1, 1) := by decide +kernel
theorem dl_393 : decode code 393 = .ok (.iadd, 1) := by decide +kernel
theorem dl_394 : decode code 394 = .ok (.iaload, 1) := by decide +kernel
theorem dl_395 : decode code 395 = .ok (.aload_n 0, 1) := by decide +kernel
theorem dl_396 : decode code 396 = .ok (.iload 4, 2) := by decide +kernel
theorem dl_398 : decode code 398 = .ok (.iconst 2, 1) := by decide +kernel
theorem dl_399 : decode code 399 = .ok (.iadd, 1) := by decide +kernel
theorem dl_400 : decode code 400 = .ok (.iaload, 1) := by decide +kernel
theorem dl_401 : decode code 401 = .ok (.aload_n 3, 1) := by decide +kernel
theorem dl_402 : decode code 402 = .ok (.invokestatic 113, 3) := by decide +kernel
theorem dl_405 : decode code 405 = .ok (.istore 5, 2) := by decide +kernel
theorem dl_407 : decode code 407 = .ok (.aload_n 2, 1) := by decide +kernel
theorem dl_408 : decode code 408 = .ok (.aload_n 0, 1) := by decide +kernel
theorem dl_409 : decode code 409 = .ok (.iload 4, 2) := by decide +kernel
theorem dl_411 : decode code 411 = .ok (.iconst 1, 1) := by decide +kernel
theorem dl_412 : decode code 412 = .ok (.iadd, 1) := by decide +kernel
theorem dl_413 : decode code 413 = .ok (.iaload, 1) := by decide +kernel
theorem dl_414 : decode code 414 = .ok (.aload_n 0, 1) := by decide +kernel
theorem dl_415 : decode code 415 = .ok (.iload 4, 2) := by decide +kernel
theorem dl_417 : decode code 417 = .ok (.iconst 2, 1) := by decide +kernel
theorem dl_418 : decode code 418 = .ok (.iadd, 1) := by decide +kernel
theorem dl_419 : decode code 419 = .ok (.iaload, 1) := by decide +kernel
theorem dl_420 : decode code 420 = .ok (.invokevirtual 116, 3) := by decide +kernel
theorem dl_423 : decode code 423 = .ok (.istore 6, 2) := by decide +kernel
theorem dl_425 : decode code 425 = .ok (.aload_n 2, 1) := by decide +kernel
theorem dl_426 : decode code 426 = .ok (.invokevirtual 94, 3) := by decide +kernel
theorem dl_429 : decode code 429 = .ok (.iload 5, 2) := by decide +kernel
theorem dl_431 : decode code 431 = .ok (.if_icmp .eq 5, 3) := by decide +kernel
theorem dl_434 : decode code 434 = .ok (.iconst 0, 1) := by decide +kernel
theorem dl_435 : decode code 435 = .ok (.ireturn, 1) := by decide +kernel
theorem dl_436 : decode code 436 = .ok (.iload 5, 2) := by decide +kernel
theorem dl_438 : decode code 438 = .ok (.ifCond .ne 15, 3) := by decide +kernel
theorem dl_441 : decode code 441 = .ok (.aload_n 3, 1) := by decide +kernel
theorem dl_442 : decode code 442 = .ok (.iconst 0, 1) := by decide +kernel
theorem dl_443 : decode code 443 = .ok (.laload, 1) := by decide +kernel
theorem dl_444 : decode code 444 = .ok (.iload 6, 2) := by decide +kernel
theorem dl_446 : decode code 446 = .ok (.i2l, 1) := by decide +kernel
theorem dl_447 : decode code 447 = .ok (.lcmp, 1) := by decide +kernel
theorem dl_448 : decode code 448 = .ok (.ifCond .eq 5, 3) := by decide +kernel
theorem dl_451 : decode code 451 = .ok (.iconst 0, 1) := by decide +kernel
theorem dl_452 : decode code 452 = .ok (.ireturn, 1) := by decide +kernel
theorem dl_453 : decode code 453 = .ok (.goto 761, 3) := by decide +kernel
theorem dl_456 : decode code 456 = .ok (.aload_n 1, 1) := by decide +kernel
theorem dl_457 : decode code 457 = .ok (.aload_n 0, 1) := by decide +kernel
theorem dl_458 : decode code 458 = .ok (.iload 4, 2) := by decide +kernel
theorem dl_460 : decode code 460 = .ok (.iconst 1, 1) := by decide +kernel
theorem dl_461 : decode code 461 = .ok (.iadd, 1) := by decide +kernel
theorem dl_462 : decode code 462 = .ok (.iaload, 1) := by decide +kernel
theorem dl_463 : decode code 463 = .ok (.aload_n 3, 1) := by decide +kernel
theorem dl_464 : decode code 464 = .ok (.invokestatic 117, 3) := by decide +kernel
theorem dl_467 : decode code 467 = .ok (.istore 5, 2) := by decide +kernel
theorem dl_469 : decode code 469 = .ok (.aload_n 2, 1) := by decide +kernel
theorem dl_470 : decode code 470 = .ok (.aload_n 0, 1) := by decide +kernel
theorem dl_471 : decode code 471 = .ok (.iload 4, 2) := by decide +kernel
theorem dl_473 : decode code 473 = .ok (.iconst 1, 1) := by decide +kernel
theorem dl_474 : decode code 474 = .ok (.iadd, 1) := by decide +kernel
theorem dl_475 : decode code 475 = .ok (.iaload, 1) := by decide +kernel
theorem dl_476 : decode code 476 = .ok (.invokevirtual 119, 3) := by decide +kernel
theorem dl_479 : decode code 479 = .ok (.istore 6, 2) := by decide +kernel
theorem dl_481 : decode code 481 = .ok (.aload_n 2, 1) := by decide +kernel
