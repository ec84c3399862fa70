/-! the law: decode rows 8 -/
theorem dL_isPassed_180 : decode cL_isPassed 180 = .ok (.imul, 1) := by decide +kernel
theorem dL_isPassed_181 : decode cL_isPassed 181 = .ok (.iadd, 1) := by decide +kernel
theorem dL_isPassed_182 : decode cL_isPassed 182 = .ok (.iaload, 1) := by decide +kernel
theorem dL_isPassed_183 : decode cL_isPassed 183 = .ok (.iload_n 2, 1) := by decide +kernel
theorem dL_isPassed_184 : decode cL_isPassed 184 = .ok (.if_icmp .ne 7, 3) := by decide +kernel
theorem dL_isPassed_187 : decode cL_isPassed 187 = .ok (.iconst 1, 1) := by decide +kernel
theorem dL_isPassed_188 : decode cL_isPassed 188 = .ok (.goto 4, 3) := by decide +kernel
theorem dL_isPassed_191 : decode cL_isPassed 191 = .ok (.iconst 0, 1) := by decide +kernel
theorem dL_isPassed_192 : decode cL_isPassed 192 = .ok (.iadd, 1) := by decide +kernel
theorem dL_isPassed_193 : decode cL_isPassed 193 = .ok (.istore 6, 2) := by decide +kernel
theorem dL_isPassed_195 : decode cL_isPassed 195 = .ok (.iinc 7 1, 3) := by decide +kernel
theorem dL_isPassed_198 : decode cL_isPassed 198 = .ok (.goto (-57), 3) := by decide +kernel
theorem dL_isPassed_201 : decode cL_isPassed 201 = .ok (.aload_n 0, 1) := by decide +kernel
theorem dL_isPassed_202 : decode cL_isPassed 202 = .ok (.iconst 1, 1) := by decide +kernel
theorem dL_isPassed_203 : decode cL_isPassed 203 = .ok (.invokestatic 227, 3) := by decide +kernel
theorem dL_isPassed_206 : decode cL_isPassed 206 = .ok (.iload 6, 2) := by decide +kernel
theorem dL_isPassed_208 : decode cL_isPassed 208 = .ok (.if_icmp .ne 11, 3) := by decide +kernel
theorem dL_isPassed_211 : decode cL_isPassed 211 = .ok (.aload_n 0, 1) := by decide +kernel
theorem dL_isPassed_212 : decode cL_isPassed 212 = .ok (.invokevirtual 124, 3) := by decide +kernel
theorem dL_isPassed_215 : decode cL_isPassed 215 = .ok (.iload_n 2, 1) := by decide +kernel
theorem dL_isPassed_216 : decode cL_isPassed 216 = .ok (.if_icmp .eq 5, 3) := by decide +kernel
theorem dL_isPassed_219 : decode cL_isPassed 219 = .ok (.iconst 0, 1) := by decide +kernel
theorem dL_isPassed_220 : decode cL_isPassed 220 = .ok (.ireturn, 1) := by decide +kernel
theorem dL_isPassed_221 : decode cL_isPassed 221 = .ok (.iconst 0, 1) := by decide +kernel
theorem dL_isPassed_222 : decode cL_isPassed 222 = .ok (.istore 7, 2) := by decide +kernel
theorem dL_isPassed_224 : decode cL_isPassed 224 = .ok (.iload 7, 2) := by decide +kernel
theorem dL_isPassed_226 : decode cL_isPassed 226 = .ok (.aload_n 1, 1) := by decide +kernel
theorem dL_isPassed_227 : decode cL_isPassed 227 = .ok (.iconst 2, 1) := by decide +kernel
theorem dL_isPassed_228 : decode cL_isPassed 228 = .ok (.iaload, 1) := by decide +kernel
theorem dL_isPassed_229 : decode cL_isPassed 229 = .ok (.if_icmp .ge 269, 3) := by decide +kernel
theorem dL_isPassed_232 : decode cL_isPassed 232 = .ok (.sipush 140, 3) := by decide +kernel
theorem dL_isPassed_235 : decode cL_isPassed 235 = .ok (.bipush 12, 2) := by decide +kernel
theorem dL_isPassed_237 : decode cL_isPassed 237 = .ok (.iload 7, 2) := by decide +kernel
theorem dL_isPassed_239 : decode cL_isPassed 239 = .ok (.imul, 1) := by decide +kernel
theorem dL_isPassed_240 : decode cL_isPassed 240 = .ok (.iadd, 1) := by decide +kernel
theorem dL_isPassed_241 : decode cL_isPassed 241 = .ok (.istore 8, 2) := by decide +kernel
theorem dL_isPassed_243 : decode cL_isPassed 243 = .ok (.aload 5, 2) := by decide +kernel
theorem dL_isPassed_245 : decode cL_isPassed 245 = .ok (.iload 7, 2) := by decide +kernel
theorem dL_isPassed_247 : decode cL_isPassed 247 = .ok (.iaload, 1) := by decide +kernel
theorem dL_isPassed_248 : decode cL_isPassed 248 = .ok (.bipush 116, 2) := by decide +kernel
theorem dL_isPassed_250 : decode cL_isPassed 250 = .ok (.if_icmp .ne 17, 3) := by decide +kernel
theorem dL_isPassed_253 : decode cL_isPassed 253 = .ok (.aload_n 1, 1) := by decide +kernel
theorem dL_isPassed_254 : decode cL_isPassed 254 = .ok (.iload 8, 2) := by decide +kernel
theorem dL_isPassed_256 : decode cL_isPassed 256 = .ok (.iconst 4, 1) := by decide +kernel
theorem dL_isPassed_257 : decode cL_isPassed 257 = .ok (.iadd, 1) := by decide +kernel
theorem dL_isPassed_258 : decode cL_isPassed 258 = .ok (.iaload, 1) := by decide +kernel
theorem dL_isPassed_259 : decode cL_isPassed 259 = .ok (.iload_n 2, 1) := by decide +kernel
theorem dL_isPassed_260 : decode cL_isPassed 260 = .ok (.if_icmp .ne 7, 3) := by decide +kernel
theorem dL_isPassed_263 : decode cL_isPassed 263 = .ok (.iconst 1, 1) := by decide +kernel
theorem dL_isPassed_264 : decode cL_isPassed 264 = .ok (.goto 4, 3) := by decide +kernel
theorem dL_isPassed_267 : decode cL_isPassed 267 = .ok (.iconst 0, 1) := by decide +kernel
theorem dL_isPassed_268 : decode cL_isPassed 268 = .ok (.istore 9, 2) := by decide +kernel
theorem dL_isPassed_270 : decode cL_isPassed 270 = .ok (.aload_n 3, 1) := by decide +kernel
theorem dL_isPassed_271 : decode cL_isPassed 271 = .ok (.iload 7, 2) := by decide +kernel
theorem dL_isPassed_273 : decode cL_isPassed 273 = .ok (.iaload, 1) := by decide +kernel
theorem dL_isPassed_274 : decode cL_isPassed 274 = .ok (.ifCond .le 8, 3) := by decide +kernel
theorem dL_isPassed_277 : decode cL_isPassed 277 = .ok (.bipush 116, 2) := by decide +kernel
theorem dL_isPassed_279 : decode cL_isPassed 279 = .ok (.goto 18, 3) := by decide +kernel
theorem dL_isPassed_282 : decode cL_isPassed 282 = .ok (.iload 9, 2) := by decide +kernel
theorem dL_isPassed_284 : decode cL_isPassed 284 = .ok (.ifCond .eq 8, 3) := by decide +kernel
theorem dL_isPassed_287 : decode cL_isPassed 287 = .ok (.bipush 117, 2) := by decide +kernel
theorem dL_isPassed_289 : decode cL_isPassed 289 = .ok (.goto 8, 3) := by decide +kernel
theorem dL_isPassed_292 : decode cL_isPassed 292 = .ok (.aload 5, 2) := by decide +kernel
theorem dL_isPassed_294 : decode cL_isPassed 294 = .ok (.iload 7, 2) := by decide +kernel
theorem dL_isPassed_296 : decode cL_isPassed 296 = .ok (.iaload, 1) := by decide +kernel
theorem dL_isPassed_297 : decode cL_isPassed 297 = .ok (.istore 10, 2) := by decide +kernel
theorem dL_isPassed_299 : decode cL_isPassed 299 = .ok (.aload_n 3, 1) := by decide +kernel
theorem dL_isPassed_300 : decode cL_isPassed 300 = .ok (.iload 7, 2) := by decide +kernel
theorem dL_isPassed_302 : decode cL_isPassed 302 = .ok (.iaload, 1) := by decide +kernel
theorem dL_isPassed_303 : decode cL_isPassed 303 = .ok (.ifCond .le 37, 3) := by decide +kernel
theorem dL_isPassed_306 : decode cL_isPassed 306 = .ok (.aload_n 1, 1) := by decide +kernel
theorem dL_isPassed_307 : decode cL_isPassed 307 = .ok (.iload 8, 2) := by decide +kernel
theorem dL_isPassed_309 : decode cL_isPassed 309 = .ok (.iconst 5, 1) := by decide +kernel
theorem dL_isPassed_310 : decode cL_isPassed 310 = .ok (.iadd, 1) := by decide +kernel
theorem dL_isPassed_311 : decode cL_isPassed 311 = .ok (.aload_n 3, 1) := by decide +kernel
theorem dL_isPassed_312 : decode cL_isPassed 312 = .ok (.iload 7, 2) := by decide +kernel
theorem dL_isPassed_314 : decode cL_isPassed 314 = .ok (.iaload, 1) := by decide +kernel
theorem dL_isPassed_315 : decode cL_isPassed 315 = .ok (.iconst 1, 1) := by decide +kernel
theorem dL_isPassed_316 : decode cL_isPassed 316 = .ok (.isub, 1) := by decide +kernel
theorem dL_isPassed_317 : decode cL_isPassed 317 = .ok (.iastore, 1) := by decide +kernel
theorem dL_isPassed_318 : decode cL_isPassed 318 = .ok (.aload_n 1, 1) := by decide +kernel
theorem dL_isPassed_319 : decode cL_isPassed 319 = .ok (.iload 8, 2) := by decide +kernel
theorem dL_isPassed_321 : decode cL_isPassed 321 = .ok (.iconst 4, 1) := by decide +kernel
theorem dL_isPassed_322 : decode cL_isPassed 322 = .ok (.iadd, 1) := by decide +kernel
theorem dL_isPassed_323 : decode cL_isPassed 323 = .ok (.iload_n 2, 1) := by decide +kernel
theorem dL_isPassed_324 : decode cL_isPassed 324 = .ok (.aload_n 1, 1) := by decide +kernel
theorem dL_isPassed_325 : decode cL_isPassed 325 = .ok (.bipush 34, 2) := by decide +kernel
theorem dL_isPassed_327 : decode cL_isPassed 327 = .ok (.bipush 8, 2) := by decide +kernel
theorem dL_isPassed_329 : decode cL_isPassed 329 = .ok (.aload_n 1, 1) := by decide +kernel
theorem dL_isPassed_330 : decode cL_isPassed 330 = .ok (.iload 8, 2) := by decide +kernel
theorem dL_isPassed_332 : decode cL_isPassed 332 = .ok (.iconst 5, 1) := by decide +kernel
theorem dL_isPassed_333 : decode cL_isPassed 333 = .ok (.iadd, 1) := by decide +kernel
theorem dL_isPassed_334 : decode cL_isPassed 334 = .ok (.iaload, 1) := by decide +kernel
theorem dL_isPassed_335 : decode cL_isPassed 335 = .ok (.imul, 1) := by decide +kernel
theorem dL_isPassed_336 : decode cL_isPassed 336 = .ok (.iadd, 1) := by decide +kernel
theorem dL_isPassed_337 : decode cL_isPassed 337 = .ok (.iaload, 1) := by decide +kernel
theorem dL_isPassed_338 : decode cL_isPassed 338 = .ok (.iadd, 1) := by decide +kernel
theorem dL_isPassed_339 : decode cL_isPassed 339 = .ok (.iastore, 1) := by decide +kernel
theorem dL_isPassed_340 : decode cL_isPassed 340 = .ok (.aload_n 1, 1) := by decide +kernel
theorem dL_isPassed_341 : decode cL_isPassed 341 = .ok (.iload 8, 2) := by decide +kernel
theorem dL_isPassed_343 : decode cL_isPassed 343 = .ok (.bipush 10, 2) := by decide +kernel
theorem dL_isPassed_345 : decode cL_isPassed 345 = .ok (.iadd, 1) := by decide +kernel
theorem dL_isPassed_346 : decode cL_isPassed 346 = .ok (.dup2, 1) := by decide +kernel
theorem dL_isPassed_347 : decode cL_isPassed 347 = .ok (.iaload, 1) := by decide +kernel
theorem dL_isPassed_348 : decode cL_isPassed 348 = .ok (.aload_n 3, 1) := by decide +kernel
theorem dL_isPassed_349 : decode cL_isPassed 349 = .ok (.iload 7, 2) := by decide +kernel
theorem dL_isPassed_351 : decode cL_isPassed 351 = .ok (.iaload, 1) := by decide +kernel
theorem dL_isPassed_352 : decode cL_isPassed 352 = .ok (.ifCond .ge 7, 3) := by decide +kernel
theorem dL_isPassed_355 : decode cL_isPassed 355 = .ok (.iconst 1, 1) := by decide +kernel
theorem dL_isPassed_356 : decode cL_isPassed 356 = .ok (.goto 4, 3) := by decide +kernel
theorem dL_isPassed_359 : decode cL_isPassed 359 = .ok (.iconst 0, 1) := by decide +kernel
theorem dL_isPassed_360 : decode cL_isPassed 360 = .ok (.iadd, 1) := by decide +kernel
theorem dL_isPassed_361 : decode cL_isPassed 361 = .ok (.iastore, 1) := by decide +kernel
theorem dL_isPassed_362 : decode cL_isPassed 362 = .ok (.aload_n 0, 1) := by decide +kernel
theorem dL_isPassed_363 : decode cL_isPassed 363 = .ok (.iload 7, 2) := by decide +kernel
theorem dL_isPassed_365 : decode cL_isPassed 365 = .ok (.invokestatic 147, 3) := by decide +kernel
theorem dL_isPassed_368 : decode cL_isPassed 368 = .ok (.iload 10, 2) := by decide +kernel
theorem dL_isPassed_370 : decode cL_isPassed 370 = .ok (.if_icmp .ne 120, 3) := by decide +kernel
theorem dL_isPassed_373 : decode cL_isPassed 373 = .ok (.aload_n 0, 1) := by decide +kernel
theorem dL_isPassed_374 : decode cL_isPassed 374 = .ok (.iload 7, 2) := by decide +kernel
theorem dL_isPassed_376 : decode cL_isPassed 376 = .ok (.invokevirtual 229, 3) := by decide +kernel
theorem dL_isPassed_379 : decode cL_isPassed 379 = .ok (.aload_n 1, 1) := by decide +kernel
theorem dL_isPassed_380 : decode cL_isPassed 380 = .ok (.iload 8, 2) := by decide +kernel
theorem dL_isPassed_382 : decode cL_isPassed 382 = .ok (.bipush 10, 2) := by decide +kernel
theorem dL_isPassed_384 : decode cL_isPassed 384 = .ok (.iadd, 1) := by decide +kernel
theorem dL_isPassed_385 : decode cL_isPassed 385 = .ok (.iaload, 1) := by decide +kernel
theorem dL_isPassed_386 : decode cL_isPassed 386 = .ok (.if_icmp .ne 104, 3) := by decide +kernel
theorem dL_isPassed_389 : decode cL_isPassed 389 = .ok (.iload 10, 2) := by decide +kernel
theorem dL_isPassed_391 : decode cL_isPassed 391 = .ok (.bipush 116, 2) := by decide +kernel
theorem dL_isPassed_393 : decode cL_isPassed 393 = .ok (.if_icmp .ne 29, 3) := by decide +kernel
theorem dL_isPassed_396 : decode cL_isPassed 396 = .ok (.aload_n 0, 1) := by decide +kernel
theorem dL_isPassed_397 : decode cL_isPassed 397 = .ok (.iload 7, 2) := by decide +kernel
theorem dL_isPassed_399 : decode cL_isPassed 399 = .ok (.invokestatic 155, 3) := by decide +kernel
theorem dL_isPassed_402 : decode cL_isPassed 402 = .ok (.aload_n 1, 1) := by decide +kernel
theorem dL_isPassed_403 : decode cL_isPassed 403 = .ok (.iload 8, 2) := by decide +kernel
theorem dL_isPassed_405 : decode cL_isPassed 405 = .ok (.iconst 5, 1) := by decide +kernel
theorem dL_isPassed_406 : decode cL_isPassed 406 = .ok (.iadd, 1) := by decide +kernel
theorem dL_isPassed_407 : decode cL_isPassed 407 = .ok (.iaload, 1) := by decide +kernel
theorem dL_isPassed_408 : decode cL_isPassed 408 = .ok (.if_icmp .ne 82, 3) := by decide +kernel
theorem dL_isPassed_411 : decode cL_isPassed 411 = .ok (.aload_n 0, 1) := by decide +kernel
theorem dL_isPassed_412 : decode cL_isPassed 412 = .ok (.iload 7, 2) := by decide +kernel
theorem dL_isPassed_414 : decode cL_isPassed 414 = .ok (.invokestatic 149, 3) := by decide +kernel
theorem dL_isPassed_417 : decode cL_isPassed 417 = .ok (.ldc 20, 2) := by decide +kernel
theorem dL_isPassed_419 : decode cL_isPassed 419 = .ok (.if_icmp .ne 71, 3) := by decide +kernel
theorem dL_isPassed_422 : decode cL_isPassed 422 = .ok (.iload 10, 2) := by decide +kernel
theorem dL_isPassed_424 : decode cL_isPassed 424 = .ok (.bipush 116, 2) := by decide +kernel
theorem dL_isPassed_426 : decode cL_isPassed 426 = .ok (.if_icmp .eq 14, 3) := by decide +kernel
theorem dL_isPassed_429 : decode cL_isPassed 429 = .ok (.aload_n 0, 1) := by decide +kernel
theorem dL_isPassed_430 : decode cL_isPassed 430 = .ok (.iload 7, 2) := by decide +kernel
theorem dL_isPassed_432 : decode cL_isPassed 432 = .ok (.invokestatic 155, 3) := by decide +kernel
theorem dL_isPassed_435 : decode cL_isPassed 435 = .ok (.ldc 20, 2) := by decide +kernel
theorem dL_isPassed_437 : decode cL_isPassed 437 = .ok (.if_icmp .ne 53, 3) := by decide +kernel
theorem dL_isPassed_440 : decode cL_isPassed 440 = .ok (.iload 9, 2) := by decide +kernel
theorem dL_isPassed_442 : decode cL_isPassed 442 = .ok (.ifCond .eq 26, 3) := by decide +kernel
theorem dL_isPassed_445 : decode cL_isPassed 445 = .ok (.aload_n 0, 1) := by decide +kernel
theorem dL_isPassed_446 : decode cL_isPassed 446 = .ok (.iload 7, 2) := by decide +kernel
theorem dL_isPassed_448 : decode cL_isPassed 448 = .ok (.invokestatic 149, 3) := by decide +kernel
theorem dL_isPassed_451 : decode cL_isPassed 451 = .ok (.aload_n 1, 1) := by decide +kernel
theorem dL_isPassed_452 : decode cL_isPassed 452 = .ok (.bipush 31, 2) := by decide +kernel
theorem dL_isPassed_454 : decode cL_isPassed 454 = .ok (.bipush 8, 2) := by decide +kernel
theorem dL_isPassed_456 : decode cL_isPassed 456 = .ok (.aload_n 1, 1) := by decide +kernel
theorem dL_isPassed_457 : decode cL_isPassed 457 = .ok (.iload 8, 2) := by decide +kernel
theorem dL_isPassed_459 : decode cL_isPassed 459 = .ok (.iconst 5, 1) := by decide +kernel
theorem dL_isPassed_460 : decode cL_isPassed 460 = .ok (.iadd, 1) := by decide +kernel
theorem dL_isPassed_461 : decode cL_isPassed 461 = .ok (.iaload, 1) := by decide +kernel
theorem dL_isPassed_462 : decode cL_isPassed 462 = .ok (.imul, 1) := by decide +kernel
theorem dL_isPassed_463 : decode cL_isPassed 463 = .ok (.iadd, 1) := by decide +kernel
theorem dL_isPassed_464 : decode cL_isPassed 464 = .ok (.iaload, 1) := by decide +kernel
theorem dL_isPassed_465 : decode cL_isPassed 465 = .ok (.if_icmp .ne 25, 3) := by decide +kernel
theorem dL_isPassed_468 : decode cL_isPassed 468 = .ok (.aload_n 3, 1) := by decide +kernel
theorem dL_isPassed_469 : decode cL_isPassed 469 = .ok (.iload 7, 2) := by decide +kernel
theorem dL_isPassed_471 : decode cL_isPassed 471 = .ok (.iaload, 1) := by decide +kernel
theorem dL_isPassed_472 : decode cL_isPassed 472 = .ok (.ifCond .ge 20, 3) := by decide +kernel
theorem dL_isPassed_475 : decode cL_isPassed 475 = .ok (.aload_n 0, 1) := by decide +kernel
theorem dL_isPassed_476 : decode cL_isPassed 476 = .ok (.iload 7, 2) := by decide +kernel
theorem dL_isPassed_478 : decode cL_isPassed 478 = .ok (.invokestatic 203, 3) := by decide +kernel
theorem dL_isPassed_481 : decode cL_isPassed 481 = .ok (.aload_n 0, 1) := by decide +kernel
theorem dL_isPassed_482 : decode cL_isPassed 482 = .ok (.iload 7, 2) := by decide +kernel
theorem dL_isPassed_484 : decode cL_isPassed 484 = .ok (.invokestatic 232, 3) := by decide +kernel
theorem dL_isPassed_487 : decode cL_isPassed 487 = .ok (.if_icmp .eq 5, 3) := by decide +kernel
theorem dL_isPassed_490 : decode cL_isPassed 490 = .ok (.iconst 0, 1) := by decide +kernel
theorem dL_isPassed_491 : decode cL_isPassed 491 = .ok (.ireturn, 1) := by decide +kernel
theorem dL_isPassed_492 : decode cL_isPassed 492 = .ok (.iinc 7 1, 3) := by decide +kernel
theorem dL_isPassed_495 : decode cL_isPassed 495 = .ok (.goto (-271), 3) := by decide +kernel
theorem dL_isPassed_498 : decode cL_isPassed 498 = .ok (.aload_n 0, 1) := by decide +kernel
theorem dL_isPassed_499 : decode cL_isPassed 499 = .ok (.aload_n 1, 1) := by decide +kernel
theorem dL_isPassed_500 : decode cL_isPassed 500 = .ok (.aload 4, 2) := by decide +kernel
theorem dL_isPassed_502 : decode cL_isPassed 502 = .ok (.invokestatic 234, 3) := by decide +kernel
theorem dL_isPassed_505 : decode cL_isPassed 505 = .ok (.ireturn, 1) := by decide +kernel
theorem dL_areBagged_0 : decode cL_areBagged 0 = .ok (.iconst 0, 1) := by decide +kernel
theorem dL_areBagged_1 : decode cL_areBagged 1 = .ok (.istore_n 3, 1) := by decide +kernel
theorem dL_areBagged_2 : decode cL_areBagged 2 = .ok (.iload_n 3, 1) := by decide +kernel
theorem dL_areBagged_3 : decode cL_areBagged 3 = .ok (.aload_n 1, 1) := by decide +kernel
theorem dL_areBagged_4 : decode cL_areBagged 4 = .ok (.iconst 1, 1) := by decide +kernel
theorem dL_areBagged_5 : decode cL_areBagged 5 = .ok (.iaload, 1) := by decide +kernel
theorem dL_areBagged_6 : decode cL_areBagged 6 = .ok (.if_icmp .ge 161, 3) := by decide +kernel
theorem dL_areBagged_9 : decode cL_areBagged 9 = .ok (.iconst 0, 1) := by decide +kernel
theorem dL_areBagged_10 : decode cL_areBagged 10 = .ok (.istore 4, 2) := by decide +kernel
theorem dL_areBagged_12 : decode cL_areBagged 12 = .ok (.iconst 0, 1) := by decide +kernel
theorem dL_areBagged_13 : decode cL_areBagged 13 = .ok (.istore 5, 2) := by decide +kernel
theorem dL_areBagged_15 : decode cL_areBagged 15 = .ok (.iload 5, 2) := by decide +kernel
theorem dL_areBagged_17 : decode cL_areBagged 17 = .ok (.aload_n 1, 1) := by decide +kernel
theorem dL_areBagged_18 : decode cL_areBagged 18 = .ok (.iconst 2, 1) := by decide +kernel
theorem dL_areBagged_19 : decode cL_areBagged 19 = .ok (.iaload, 1) := by decide +kernel
theorem dL_areBagged_20 : decode cL_areBagged 20 = .ok (.if_icmp .ge 45, 3) := by decide +kernel
theorem dL_areBagged_23 : decode cL_areBagged 23 = .ok (.iload 4, 2) := by decide +kernel
theorem dL_areBagged_25 : decode cL_areBagged 25 = .ok (.aload_n 0, 1) := by decide +kernel
theorem dL_areBagged_26 : decode cL_areBagged 26 = .ok (.iload 5, 2) := by decide +kernel
theorem dL_areBagged_28 : decode cL_areBagged 28 = .ok (.invokestatic 147, 3) := by decide +kernel
theorem dL_areBagged_31 : decode cL_areBagged 31 = .ok (.bipush 116, 2) := by decide +kernel
theorem dL_areBagged_33 : decode cL_areBagged 33 = .ok (.if_icmp .ne 22, 3) := by decide +kernel
theorem dL_areBagged_36 : decode cL_areBagged 36 = .ok (.aload_n 1, 1) := by decide +kernel
theorem dL_areBagged_37 : decode cL_areBagged 37 = .ok (.sipush 145, 3) := by decide +kernel
theorem dL_areBagged_40 : decode cL_areBagged 40 = .ok (.bipush 12, 2) := by decide +kernel
theorem dL_areBagged_42 : decode cL_areBagged 42 = .ok (.iload 5, 2) := by decide +kernel
theorem dL_areBagged_44 : decode cL_areBagged 44 = .ok (.imul, 1) := by decide +kernel
theorem dL_areBagged_45 : decode cL_areBagged 45 = .ok (.iadd, 1) := by decide +kernel
theorem dL_areBagged_46 : decode cL_areBagged 46 = .ok (.iaload, 1) := by decide +kernel
theorem dL_areBagged_47 : decode cL_areBagged 47 = .ok (.iload_n 3, 1) := by decide +kernel
theorem dL_areBagged_48 : decode cL_areBagged 48 = .ok (.if_icmp .ne 7, 3) := by decide +kernel
theorem dL_areBagged_51 : decode cL_areBagged 51 = .ok (.iconst 1, 1) := by decide +kernel
theorem dL_areBagged_52 : decode cL_areBagged 52 = .ok (.goto 4, 3) := by decide +kernel
theorem dL_areBagged_55 : decode cL_areBagged 55 = .ok (.iconst 0, 1) := by decide +kernel
theorem dL_areBagged_56 : decode cL_areBagged 56 = .ok (.iadd, 1) := by decide +kernel
theorem dL_areBagged_57 : decode cL_areBagged 57 = .ok (.istore 4, 2) := by decide +kernel
theorem dL_areBagged_59 : decode cL_areBagged 59 = .ok (.iinc 5 1, 3) := by decide +kernel
theorem dL_areBagged_62 : decode cL_areBagged 62 = .ok (.goto (-47), 3) := by decide +kernel
theorem dL_areBagged_65 : decode cL_areBagged 65 = .ok (.aload_n 0, 1) := by decide +kernel
theorem dL_areBagged_66 : decode cL_areBagged 66 = .ok (.iload_n 3, 1) := by decide +kernel
theorem dL_areBagged_67 : decode cL_areBagged 67 = .ok (.invokevirtual 238, 3) := by decide +kernel
theorem dL_areBagged_70 : decode cL_areBagged 70 = .ok (.iload 4, 2) := by decide +kernel
theorem dL_areBagged_72 : decode cL_areBagged 72 = .ok (.if_icmp .eq 5, 3) := by decide +kernel
theorem dL_areBagged_75 : decode cL_areBagged 75 = .ok (.iconst 0, 1) := by decide +kernel
theorem dL_areBagged_76 : decode cL_areBagged 76 = .ok (.ireturn, 1) := by decide +kernel
theorem dL_areBagged_77 : decode cL_areBagged 77 = .ok (.aload_n 2, 1) := by decide +kernel
theorem dL_areBagged_78 : decode cL_areBagged 78 = .ok (.iload_n 3, 1) := by decide +kernel
theorem dL_areBagged_79 : decode cL_areBagged 79 = .ok (.aaload, 1) := by decide +kernel
theorem dL_areBagged_80 : decode cL_areBagged 80 = .ok (.ifnonnull 7, 3) := by decide +kernel
theorem dL_areBagged_83 : decode cL_areBagged 83 = .ok (.iconst 0, 1) := by decide +kernel
theorem dL_areBagged_84 : decode cL_areBagged 84 = .ok (.goto 8, 3) := by decide +kernel
theorem dL_areBagged_87 : decode cL_areBagged 87 = .ok (.aload_n 2, 1) := by decide +kernel
theorem dL_areBagged_88 : decode cL_areBagged 88 = .ok (.iload_n 3, 1) := by decide +kernel
theorem dL_areBagged_89 : decode cL_areBagged 89 = .ok (.aaload, 1) := by decide +kernel
theorem dL_areBagged_90 : decode cL_areBagged 90 = .ok (.iconst 0, 1) := by decide +kernel
theorem dL_areBagged_91 : decode cL_areBagged 91 = .ok (.iaload, 1) := by decide +kernel
theorem dL_areBagged_92 : decode cL_areBagged 92 = .ok (.istore 5, 2) := by decide +kernel
theorem dL_areBagged_94 : decode cL_areBagged 94 = .ok (.iload 5, 2) := by decide +kernel
theorem dL_areBagged_96 : decode cL_areBagged 96 = .ok (.ifCond .le 27, 3) := by decide +kernel
theorem dL_areBagged_99 : decode cL_areBagged 99 = .ok (.aload_n 0, 1) := by decide +kernel
theorem dL_areBagged_100 : decode cL_areBagged 100 = .ok (.iload_n 3, 1) := by decide +kernel
theorem dL_areBagged_101 : decode cL_areBagged 101 = .ok (.invokevirtual 241, 3) := by decide +kernel
theorem dL_areBagged_104 : decode cL_areBagged 104 = .ok (.iload 5, 2) := by decide +kernel
theorem dL_areBagged_106 : decode cL_areBagged 106 = .ok (.if_icmp .ne 15, 3) := by decide +kernel
theorem dL_areBagged_109 : decode cL_areBagged 109 = .ok (.aload_n 0, 1) := by decide +kernel
theorem dL_areBagged_110 : decode cL_areBagged 110 = .ok (.iload_n 3, 1) := by decide +kernel
theorem dL_areBagged_111 : decode cL_areBagged 111 = .ok (.iload 5, 2) := by decide +kernel
theorem dL_areBagged_113 : decode cL_areBagged 113 = .ok (.invokestatic 244, 3) := by decide +kernel
theorem dL_areBagged_116 : decode cL_areBagged 116 = .ok (.ldc 20, 2) := by decide +kernel
theorem dL_areBagged_118 : decode cL_areBagged 118 = .ok (.if_icmp .eq 5, 3) := by decide +kernel
theorem dL_areBagged_121 : decode cL_areBagged 121 = .ok (.iconst 0, 1) := by decide +kernel
