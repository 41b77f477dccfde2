theorem dX9_works_196 : decode cX9_works 196 = .ok (.aload_n 0, 1) := by decide +kernel
theorem dX9_works_197 : decode cX9_works 197 = .ok (.iconst 1, 1) := by decide +kernel
theorem dX9_works_198 : decode cX9_works 198 = .ok (.invokevirtual 187, 3) := by decide +kernel
theorem dX9_works_201 : decode cX9_works 201 = .ok (.lconst 1, 1) := by decide +kernel
theorem dX9_works_202 : decode cX9_works 202 = .ok (.invokevirtual 200, 3) := by decide +kernel
theorem dX9_works_205 : decode cX9_works 205 = .ok (.aload_n 0, 1) := by decide +kernel
theorem dX9_works_206 : decode cX9_works 206 = .ok (.getfield 63, 3) := by decide +kernel
theorem dX9_works_209 : decode cX9_works 209 = .ok (.iload_n 1, 1) := by decide +kernel
theorem dX9_works_210 : decode cX9_works 210 = .ok (.aload_n 0, 1) := by decide +kernel
theorem dX9_works_211 : decode cX9_works 211 = .ok (.getfield 16, 3) := by decide +kernel
theorem dX9_works_214 : decode cX9_works 214 = .ok (.aload_n 0, 1) := by decide +kernel
theorem dX9_works_215 : decode cX9_works 215 = .ok (.iconst 1, 1) := by decide +kernel
theorem dX9_works_216 : decode cX9_works 216 = .ok (.invokevirtual 187, 3) := by decide +kernel
theorem dX9_works_219 : decode cX9_works 219 = .ok (.iaload, 1) := by decide +kernel
theorem dX9_works_220 : decode cX9_works 220 = .ok (.i2l, 1) := by decide +kernel
theorem dX9_works_221 : decode cX9_works 221 = .ok (.lastore, 1) := by decide +kernel
theorem dX9_works_222 : decode cX9_works 222 = .ok (.goto 346, 3) := by decide +kernel
theorem dX9_works_225 : decode cX9_works 225 = .ok (.aload_n 0, 1) := by decide +kernel
theorem dX9_works_226 : decode cX9_works 226 = .ok (.iload_n 1, 1) := by decide +kernel
theorem dX9_works_227 : decode cX9_works 227 = .ok (.aload_n 0, 1) := by decide +kernel
theorem dX9_works_228 : decode cX9_works 228 = .ok (.iconst 1, 1) := by decide +kernel
theorem dX9_works_229 : decode cX9_works 229 = .ok (.invokevirtual 187, 3) := by decide +kernel
theorem dX9_works_232 : decode cX9_works 232 = .ok (.ldc2_w 204, 3) := by decide +kernel
theorem dX9_works_235 : decode cX9_works 235 = .ok (.invokevirtual 200, 3) := by decide +kernel
theorem dX9_works_238 : decode cX9_works 238 = .ok (.aload_n 0, 1) := by decide +kernel
theorem dX9_works_239 : decode cX9_works 239 = .ok (.getfield 63, 3) := by decide +kernel
theorem dX9_works_242 : decode cX9_works 242 = .ok (.iload_n 1, 1) := by decide +kernel
theorem dX9_works_243 : decode cX9_works 243 = .ok (.aload_n 0, 1) := by decide +kernel
theorem dX9_works_244 : decode cX9_works 244 = .ok (.getfield 13, 3) := by decide +kernel
theorem dX9_works_247 : decode cX9_works 247 = .ok (.aload_n 0, 1) := by decide +kernel
theorem dX9_works_248 : decode cX9_works 248 = .ok (.iconst 1, 1) := by decide +kernel
theorem dX9_works_249 : decode cX9_works 249 = .ok (.invokevirtual 187, 3) := by decide +kernel
theorem dX9_works_252 : decode cX9_works 252 = .ok (.iaload, 1) := by decide +kernel
theorem dX9_works_253 : decode cX9_works 253 = .ok (.ineg, 1) := by decide +kernel
theorem dX9_works_254 : decode cX9_works 254 = .ok (.i2l, 1) := by decide +kernel
theorem dX9_works_255 : decode cX9_works 255 = .ok (.lastore, 1) := by decide +kernel
theorem dX9_works_256 : decode cX9_works 256 = .ok (.goto 312, 3) := by decide +kernel
theorem dX9_works_259 : decode cX9_works 259 = .ok (.aload_n 0, 1) := by decide +kernel
theorem dX9_works_260 : decode cX9_works 260 = .ok (.iload_n 1, 1) := by decide +kernel
theorem dX9_works_261 : decode cX9_works 261 = .ok (.invokevirtual 206, 3) := by decide +kernel
theorem dX9_works_264 : decode cX9_works 264 = .ok (.goto 304, 3) := by decide +kernel
theorem dX9_works_267 : decode cX9_works 267 = .ok (.iconst 0, 1) := by decide +kernel
theorem dX9_works_268 : decode cX9_works 268 = .ok (.istore_n 3, 1) := by decide +kernel
theorem dX9_works_269 : decode cX9_works 269 = .ok (.iload_n 3, 1) := by decide +kernel
theorem dX9_works_270 : decode cX9_works 270 = .ok (.aload_n 0, 1) := by decide +kernel
theorem dX9_works_271 : decode cX9_works 271 = .ok (.iconst 1, 1) := by decide +kernel
theorem dX9_works_272 : decode cX9_works 272 = .ok (.invokevirtual 187, 3) := by decide +kernel
theorem dX9_works_275 : decode cX9_works 275 = .ok (.if_icmp .ge 112, 3) := by decide +kernel
theorem dX9_works_278 : decode cX9_works 278 = .ok (.aload_n 0, 1) := by decide +kernel
theorem dX9_works_279 : decode cX9_works 279 = .ok (.iconst 2, 1) := by decide +kernel
theorem dX9_works_280 : decode cX9_works 280 = .ok (.iconst 2, 1) := by decide +kernel
theorem dX9_works_281 : decode cX9_works 281 = .ok (.iload_n 3, 1) := by decide +kernel
theorem dX9_works_282 : decode cX9_works 282 = .ok (.imul, 1) := by decide +kernel
theorem dX9_works_283 : decode cX9_works 283 = .ok (.iadd, 1) := by decide +kernel
theorem dX9_works_284 : decode cX9_works 284 = .ok (.invokevirtual 187, 3) := by decide +kernel
theorem dX9_works_287 : decode cX9_works 287 = .ok (.istore 4, 2) := by decide +kernel
theorem dX9_works_289 : decode cX9_works 289 = .ok (.iconst 0, 1) := by decide +kernel
theorem dX9_works_290 : decode cX9_works 290 = .ok (.istore 5, 2) := by decide +kernel
theorem dX9_works_292 : decode cX9_works 292 = .ok (.iload 5, 2) := by decide +kernel
theorem dX9_works_294 : decode cX9_works 294 = .ok (.aload_n 0, 1) := by decide +kernel
theorem dX9_works_295 : decode cX9_works 295 = .ok (.getfield 112, 3) := by decide +kernel
theorem dX9_works_298 : decode cX9_works 298 = .ok (.if_icmp .ge 48, 3) := by decide +kernel
theorem dX9_works_301 : decode cX9_works 301 = .ok (.aload_n 0, 1) := by decide +kernel
theorem dX9_works_302 : decode cX9_works 302 = .ok (.getfield 59, 3) := by decide +kernel
theorem dX9_works_305 : decode cX9_works 305 = .ok (.bipush 8, 2) := by decide +kernel
theorem dX9_works_307 : decode cX9_works 307 = .ok (.iload_n 1, 1) := by decide +kernel
theorem dX9_works_308 : decode cX9_works 308 = .ok (.imul, 1) := by decide +kernel
theorem dX9_works_309 : decode cX9_works 309 = .ok (.iload 5, 2) := by decide +kernel
theorem dX9_works_311 : decode cX9_works 311 = .ok (.iadd, 1) := by decide +kernel
theorem dX9_works_312 : decode cX9_works 312 = .ok (.dup2, 1) := by decide +kernel
theorem dX9_works_313 : decode cX9_works 313 = .ok (.laload, 1) := by decide +kernel
theorem dX9_works_314 : decode cX9_works 314 = .ok (.aload_n 0, 1) := by decide +kernel
theorem dX9_works_315 : decode cX9_works 315 = .ok (.getfield 59, 3) := by decide +kernel
theorem dX9_works_318 : decode cX9_works 318 = .ok (.bipush 8, 2) := by decide +kernel
theorem dX9_works_320 : decode cX9_works 320 = .ok (.iload 4, 2) := by decide +kernel
theorem dX9_works_322 : decode cX9_works 322 = .ok (.imul, 1) := by decide +kernel
theorem dX9_works_323 : decode cX9_works 323 = .ok (.iload 5, 2) := by decide +kernel
theorem dX9_works_325 : decode cX9_works 325 = .ok (.iadd, 1) := by decide +kernel
theorem dX9_works_326 : decode cX9_works 326 = .ok (.laload, 1) := by decide +kernel
theorem dX9_works_327 : decode cX9_works 327 = .ok (.aload_n 0, 1) := by decide +kernel
theorem dX9_works_328 : decode cX9_works 328 = .ok (.iconst 3, 1) := by decide +kernel
theorem dX9_works_329 : decode cX9_works 329 = .ok (.iconst 2, 1) := by decide +kernel
theorem dX9_works_330 : decode cX9_works 330 = .ok (.iload_n 3, 1) := by decide +kernel
theorem dX9_works_331 : decode cX9_works 331 = .ok (.imul, 1) := by decide +kernel
theorem dX9_works_332 : decode cX9_works 332 = .ok (.iadd, 1) := by decide +kernel
theorem dX9_works_333 : decode cX9_works 333 = .ok (.invokevirtual 187, 3) := by decide +kernel
theorem dX9_works_336 : decode cX9_works 336 = .ok (.i2l, 1) := by decide +kernel
theorem dX9_works_337 : decode cX9_works 337 = .ok (.lmul, 1) := by decide +kernel
theorem dX9_works_338 : decode cX9_works 338 = .ok (.ladd, 1) := by decide +kernel
theorem dX9_works_339 : decode cX9_works 339 = .ok (.lastore, 1) := by decide +kernel
theorem dX9_works_340 : decode cX9_works 340 = .ok (.iinc 5 1, 3) := by decide +kernel
theorem dX9_works_343 : decode cX9_works 343 = .ok (.goto (-51), 3) := by decide +kernel
theorem dX9_works_346 : decode cX9_works 346 = .ok (.aload_n 0, 1) := by decide +kernel
theorem dX9_works_347 : decode cX9_works 347 = .ok (.getfield 63, 3) := by decide +kernel
theorem dX9_works_350 : decode cX9_works 350 = .ok (.iload_n 1, 1) := by decide +kernel
theorem dX9_works_351 : decode cX9_works 351 = .ok (.dup2, 1) := by decide +kernel
theorem dX9_works_352 : decode cX9_works 352 = .ok (.laload, 1) := by decide +kernel
theorem dX9_works_353 : decode cX9_works 353 = .ok (.aload_n 0, 1) := by decide +kernel
theorem dX9_works_354 : decode cX9_works 354 = .ok (.getfield 63, 3) := by decide +kernel
theorem dX9_works_357 : decode cX9_works 357 = .ok (.iload 4, 2) := by decide +kernel
theorem dX9_works_359 : decode cX9_works 359 = .ok (.laload, 1) := by decide +kernel
theorem dX9_works_360 : decode cX9_works 360 = .ok (.aload_n 0, 1) := by decide +kernel
theorem dX9_works_361 : decode cX9_works 361 = .ok (.iconst 3, 1) := by decide +kernel
theorem dX9_works_362 : decode cX9_works 362 = .ok (.iconst 2, 1) := by decide +kernel
theorem dX9_works_363 : decode cX9_works 363 = .ok (.iload_n 3, 1) := by decide +kernel
theorem dX9_works_364 : decode cX9_works 364 = .ok (.imul, 1) := by decide +kernel
theorem dX9_works_365 : decode cX9_works 365 = .ok (.iadd, 1) := by decide +kernel
theorem dX9_works_366 : decode cX9_works 366 = .ok (.invokevirtual 187, 3) := by decide +kernel
theorem dX9_works_369 : decode cX9_works 369 = .ok (.i2l, 1) := by decide +kernel
theorem dX9_works_370 : decode cX9_works 370 = .ok (.lmul, 1) := by decide +kernel
theorem dX9_works_371 : decode cX9_works 371 = .ok (.ladd, 1) := by decide +kernel
theorem dX9_works_372 : decode cX9_works 372 = .ok (.lastore, 1) := by decide +kernel
theorem dX9_works_373 : decode cX9_works 373 = .ok (.aload_n 0, 1) := by decide +kernel
theorem dX9_works_374 : decode cX9_works 374 = .ok (.iload_n 1, 1) := by decide +kernel
theorem dX9_works_375 : decode cX9_works 375 = .ok (.iload 4, 2) := by decide +kernel
theorem dX9_works_377 : decode cX9_works 377 = .ok (.iconst (-1), 1) := by decide +kernel
theorem dX9_works_378 : decode cX9_works 378 = .ok (.invokevirtual 209, 3) := by decide +kernel
theorem dX9_works_381 : decode cX9_works 381 = .ok (.iinc 3 1, 3) := by decide +kernel
theorem dX9_works_384 : decode cX9_works 384 = .ok (.goto (-115), 3) := by decide +kernel
theorem dX9_works_387 : decode cX9_works 387 = .ok (.goto 181, 3) := by decide +kernel
theorem dX9_works_390 : decode cX9_works 390 = .ok (.aload_n 0, 1) := by decide +kernel
theorem dX9_works_391 : decode cX9_works 391 = .ok (.iload_n 1, 1) := by decide +kernel
theorem dX9_works_392 : decode cX9_works 392 = .ok (.invokevirtual 212, 3) := by decide +kernel
theorem dX9_works_395 : decode cX9_works 395 = .ok (.istore_n 2, 1) := by decide +kernel
theorem dX9_works_396 : decode cX9_works 396 = .ok (.goto 172, 3) := by decide +kernel
theorem dX9_works_399 : decode cX9_works 399 = .ok (.aload_n 0, 1) := by decide +kernel
theorem dX9_works_400 : decode cX9_works 400 = .ok (.iload_n 1, 1) := by decide +kernel
theorem dX9_works_401 : decode cX9_works 401 = .ok (.aload_n 0, 1) := by decide +kernel
theorem dX9_works_402 : decode cX9_works 402 = .ok (.iconst 1, 1) := by decide +kernel
theorem dX9_works_403 : decode cX9_works 403 = .ok (.invokevirtual 187, 3) := by decide +kernel
theorem dX9_works_406 : decode cX9_works 406 = .ok (.aload_n 0, 1) := by decide +kernel
theorem dX9_works_407 : decode cX9_works 407 = .ok (.iconst 3, 1) := by decide +kernel
theorem dX9_works_408 : decode cX9_works 408 = .ok (.invokevirtual 187, 3) := by decide +kernel
theorem dX9_works_411 : decode cX9_works 411 = .ok (.ifCond .ne 7, 3) := by decide +kernel
theorem dX9_works_414 : decode cX9_works 414 = .ok (.lconst 1, 1) := by decide +kernel
theorem dX9_works_415 : decode cX9_works 415 = .ok (.goto 6, 3) := by decide +kernel
theorem dX9_works_418 : decode cX9_works 418 = .ok (.ldc2_w 204, 3) := by decide +kernel
theorem dX9_works_421 : decode cX9_works 421 = .ok (.invokevirtual 200, 3) := by decide +kernel
theorem dX9_works_424 : decode cX9_works 424 = .ok (.aload_n 0, 1) := by decide +kernel
theorem dX9_works_425 : decode cX9_works 425 = .ok (.getfield 63, 3) := by decide +kernel
theorem dX9_works_428 : decode cX9_works 428 = .ok (.iload_n 1, 1) := by decide +kernel
theorem dX9_works_429 : decode cX9_works 429 = .ok (.aload_n 0, 1) := by decide +kernel
theorem dX9_works_430 : decode cX9_works 430 = .ok (.iconst 3, 1) := by decide +kernel
theorem dX9_works_431 : decode cX9_works 431 = .ok (.invokevirtual 187, 3) := by decide +kernel
theorem dX9_works_434 : decode cX9_works 434 = .ok (.ifCond .ne 12, 3) := by decide +kernel
theorem dX9_works_437 : decode cX9_works 437 = .ok (.aload_n 0, 1) := by decide +kernel
theorem dX9_works_438 : decode cX9_works 438 = .ok (.iconst 2, 1) := by decide +kernel
theorem dX9_works_439 : decode cX9_works 439 = .ok (.invokevirtual 187, 3) := by decide +kernel
theorem dX9_works_442 : decode cX9_works 442 = .ok (.i2l, 1) := by decide +kernel
theorem dX9_works_443 : decode cX9_works 443 = .ok (.goto 12, 3) := by decide +kernel
theorem dX9_works_446 : decode cX9_works 446 = .ok (.aload_n 0, 1) := by decide +kernel
theorem dX9_works_447 : decode cX9_works 447 = .ok (.iconst 2, 1) := by decide +kernel
theorem dX9_works_448 : decode cX9_works 448 = .ok (.invokevirtual 187, 3) := by decide +kernel
theorem dX9_works_451 : decode cX9_works 451 = .ok (.ineg, 1) := by decide +kernel
theorem dX9_works_452 : decode cX9_works 452 = .ok (.i2l, 1) := by decide +kernel
theorem dX9_works_453 : decode cX9_works 453 = .ok (.lconst 1, 1) := by decide +kernel
theorem dX9_works_454 : decode cX9_works 454 = .ok (.lsub, 1) := by decide +kernel
theorem dX9_works_455 : decode cX9_works 455 = .ok (.lastore, 1) := by decide +kernel
theorem dX9_works_456 : decode cX9_works 456 = .ok (.aload_n 0, 1) := by decide +kernel
theorem dX9_works_457 : decode cX9_works 457 = .ok (.getfield 74, 3) := by decide +kernel
theorem dX9_works_460 : decode cX9_works 460 = .ok (.sipush 200, 3) := by decide +kernel
theorem dX9_works_463 : decode cX9_works 463 = .ok (.iload_n 1, 1) := by decide +kernel
theorem dX9_works_464 : decode cX9_works 464 = .ok (.imul, 1) := by decide +kernel
theorem dX9_works_465 : decode cX9_works 465 = .ok (.iload_n 1, 1) := by decide +kernel
theorem dX9_works_466 : decode cX9_works 466 = .ok (.iadd, 1) := by decide +kernel
theorem dX9_works_467 : decode cX9_works 467 = .ok (.iconst 1, 1) := by decide +kernel
theorem dX9_works_468 : decode cX9_works 468 = .ok (.bastore, 1) := by decide +kernel
theorem dX9_works_469 : decode cX9_works 469 = .ok (.aload_n 0, 1) := by decide +kernel
theorem dX9_works_470 : decode cX9_works 470 = .ok (.dup, 1) := by decide +kernel
theorem dX9_works_471 : decode cX9_works 471 = .ok (.getfield 148, 3) := by decide +kernel
theorem dX9_works_474 : decode cX9_works 474 = .ok (.iconst 1, 1) := by decide +kernel
theorem dX9_works_475 : decode cX9_works 475 = .ok (.iadd, 1) := by decide +kernel
theorem dX9_works_476 : decode cX9_works 476 = .ok (.putfield 148, 3) := by decide +kernel
theorem dX9_works_479 : decode cX9_works 479 = .ok (.goto 89, 3) := by decide +kernel
theorem dX9_works_482 : decode cX9_works 482 = .ok (.aload_n 0, 1) := by decide +kernel
theorem dX9_works_483 : decode cX9_works 483 = .ok (.iload_n 1, 1) := by decide +kernel
theorem dX9_works_484 : decode cX9_works 484 = .ok (.invokevirtual 215, 3) := by decide +kernel
theorem dX9_works_487 : decode cX9_works 487 = .ok (.istore_n 2, 1) := by decide +kernel
theorem dX9_works_488 : decode cX9_works 488 = .ok (.goto 80, 3) := by decide +kernel
theorem dX9_works_491 : decode cX9_works 491 = .ok (.iconst 0, 1) := by decide +kernel
theorem dX9_works_492 : decode cX9_works 492 = .ok (.istore_n 3, 1) := by decide +kernel
theorem dX9_works_493 : decode cX9_works 493 = .ok (.iload_n 3, 1) := by decide +kernel
theorem dX9_works_494 : decode cX9_works 494 = .ok (.aload_n 0, 1) := by decide +kernel
theorem dX9_works_495 : decode cX9_works 495 = .ok (.getfield 112, 3) := by decide +kernel
theorem dX9_works_498 : decode cX9_works 498 = .ok (.if_icmp .ge 22, 3) := by decide +kernel
theorem dX9_works_501 : decode cX9_works 501 = .ok (.aload_n 0, 1) := by decide +kernel
theorem dX9_works_502 : decode cX9_works 502 = .ok (.iload_n 1, 1) := by decide +kernel
theorem dX9_works_503 : decode cX9_works 503 = .ok (.iload_n 3, 1) := by decide +kernel
theorem dX9_works_504 : decode cX9_works 504 = .ok (.aload_n 0, 1) := by decide +kernel
theorem dX9_works_505 : decode cX9_works 505 = .ok (.getfield 19, 3) := by decide +kernel
theorem dX9_works_508 : decode cX9_works 508 = .ok (.iload_n 3, 1) := by decide +kernel
theorem dX9_works_509 : decode cX9_works 509 = .ok (.iaload, 1) := by decide +kernel
theorem dX9_works_510 : decode cX9_works 510 = .ok (.i2l, 1) := by decide +kernel
theorem dX9_works_511 : decode cX9_works 511 = .ok (.invokevirtual 200, 3) := by decide +kernel
theorem dX9_works_514 : decode cX9_works 514 = .ok (.iinc 3 1, 3) := by decide +kernel
theorem dX9_works_517 : decode cX9_works 517 = .ok (.goto (-24), 3) := by decide +kernel
theorem dX9_works_520 : decode cX9_works 520 = .ok (.aload_n 0, 1) := by decide +kernel
theorem dX9_works_521 : decode cX9_works 521 = .ok (.getfield 63, 3) := by decide +kernel
theorem dX9_works_524 : decode cX9_works 524 = .ok (.iload_n 1, 1) := by decide +kernel
theorem dX9_works_525 : decode cX9_works 525 = .ok (.aload_n 0, 1) := by decide +kernel
theorem dX9_works_526 : decode cX9_works 526 = .ok (.aload_n 0, 1) := by decide +kernel
theorem dX9_works_527 : decode cX9_works 527 = .ok (.iconst 1, 1) := by decide +kernel
theorem dX9_works_528 : decode cX9_works 528 = .ok (.invokevirtual 187, 3) := by decide +kernel
theorem dX9_works_531 : decode cX9_works 531 = .ok (.invokevirtual 161, 3) := by decide +kernel
theorem dX9_works_534 : decode cX9_works 534 = .ok (.lconst 1, 1) := by decide +kernel
theorem dX9_works_535 : decode cX9_works 535 = .ok (.lsub, 1) := by decide +kernel
theorem dX9_works_536 : decode cX9_works 536 = .ok (.lastore, 1) := by decide +kernel
theorem dX9_works_537 : decode cX9_works 537 = .ok (.aload_n 0, 1) := by decide +kernel
theorem dX9_works_538 : decode cX9_works 538 = .ok (.getfield 66, 3) := by decide +kernel
theorem dX9_works_541 : decode cX9_works 541 = .ok (.iload_n 1, 1) := by decide +kernel
theorem dX9_works_542 : decode cX9_works 542 = .ok (.iconst 1, 1) := by decide +kernel
theorem dX9_works_543 : decode cX9_works 543 = .ok (.bastore, 1) := by decide +kernel
theorem dX9_works_544 : decode cX9_works 544 = .ok (.aload_n 0, 1) := by decide +kernel
theorem dX9_works_545 : decode cX9_works 545 = .ok (.getfield 70, 3) := by decide +kernel
theorem dX9_works_548 : decode cX9_works 548 = .ok (.iload_n 1, 1) := by decide +kernel
theorem dX9_works_549 : decode cX9_works 549 = .ok (.aload_n 0, 1) := by decide +kernel
theorem dX9_works_550 : decode cX9_works 550 = .ok (.aload_n 0, 1) := by decide +kernel
theorem dX9_works_551 : decode cX9_works 551 = .ok (.iconst 1, 1) := by decide +kernel
theorem dX9_works_552 : decode cX9_works 552 = .ok (.invokevirtual 187, 3) := by decide +kernel
theorem dX9_works_555 : decode cX9_works 555 = .ok (.invokevirtual 161, 3) := by decide +kernel
theorem dX9_works_558 : decode cX9_works 558 = .ok (.lastore, 1) := by decide +kernel
theorem dX9_works_559 : decode cX9_works 559 = .ok (.goto 9, 3) := by decide +kernel
theorem dX9_works_562 : decode cX9_works 562 = .ok (.aload_n 0, 1) := by decide +kernel
theorem dX9_works_563 : decode cX9_works 563 = .ok (.iload_n 1, 1) := by decide +kernel
theorem dX9_works_564 : decode cX9_works 564 = .ok (.invokevirtual 218, 3) := by decide +kernel
theorem dX9_works_567 : decode cX9_works 567 = .ok (.istore_n 2, 1) := by decide +kernel
theorem dX9_works_568 : decode cX9_works 568 = .ok (.iload_n 2, 1) := by decide +kernel
theorem dX9_works_569 : decode cX9_works 569 = .ok (.ifCond .eq 7, 3) := by decide +kernel
theorem dX9_works_572 : decode cX9_works 572 = .ok (.iload_n 2, 1) := by decide +kernel
theorem dX9_works_573 : decode cX9_works 573 = .ok (.goto 17, 3) := by decide +kernel
theorem dX9_works_576 : decode cX9_works 576 = .ok (.aload_n 0, 1) := by decide +kernel
theorem dX9_works_577 : decode cX9_works 577 = .ok (.iload_n 1, 1) := by decide +kernel
theorem dX9_works_578 : decode cX9_works 578 = .ok (.invokevirtual 221, 3) := by decide +kernel
theorem dX9_works_581 : decode cX9_works 581 = .ok (.ifCond .eq 8, 3) := by decide +kernel
theorem dX9_works_584 : decode cX9_works 584 = .ok (.bipush 8, 2) := by decide +kernel
theorem dX9_works_586 : decode cX9_works 586 = .ok (.goto 4, 3) := by decide +kernel
theorem dX9_works_589 : decode cX9_works 589 = .ok (.iconst 0, 1) := by decide +kernel
theorem dX9_works_590 : decode cX9_works 590 = .ok (.ireturn, 1) := by decide +kernel
theorem dX9_isGreat_0 : decode cX9_isGreat 0 = .ok (.aload_n 0, 1) := by decide +kernel
theorem dX9_isGreat_1 : decode cX9_isGreat 1 = .ok (.getfield 63, 3) := by decide +kernel
theorem dX9_isGreat_4 : decode cX9_isGreat 4 = .ok (.iload_n 1, 1) := by decide +kernel
theorem dX9_isGreat_5 : decode cX9_isGreat 5 = .ok (.laload, 1) := by decide +kernel
theorem dX9_isGreat_6 : decode cX9_isGreat 6 = .ok (.ldc2_w 225, 3) := by decide +kernel
theorem dX9_isGreat_9 : decode cX9_isGreat 9 = .ok (.lcmp, 1) := by decide +kernel
theorem dX9_isGreat_10 : decode cX9_isGreat 10 = .ok (.ifCond .lt 16, 3) := by decide +kernel
theorem dX9_isGreat_13 : decode cX9_isGreat 13 = .ok (.aload_n 0, 1) := by decide +kernel
theorem dX9_isGreat_14 : decode cX9_isGreat 14 = .ok (.getfield 63, 3) := by decide +kernel
theorem dX9_isGreat_17 : decode cX9_isGreat 17 = .ok (.iload_n 1, 1) := by decide +kernel
theorem dX9_isGreat_18 : decode cX9_isGreat 18 = .ok (.laload, 1) := by decide +kernel
theorem dX9_isGreat_19 : decode cX9_isGreat 19 = .ok (.ldc2_w 227, 3) := by decide +kernel
theorem dX9_isGreat_22 : decode cX9_isGreat 22 = .ok (.lcmp, 1) := by decide +kernel
theorem dX9_isGreat_23 : decode cX9_isGreat 23 = .ok (.ifCond .le 7, 3) := by decide +kernel
theorem dX9_isGreat_26 : decode cX9_isGreat 26 = .ok (.iconst 1, 1) := by decide +kernel
theorem dX9_isGreat_27 : decode cX9_isGreat 27 = .ok (.goto 4, 3) := by decide +kernel
theorem dX9_isGreat_30 : decode cX9_isGreat 30 = .ok (.iconst 0, 1) := by decide +kernel
theorem dX9_isGreat_31 : decode cX9_isGreat 31 = .ok (.istore_n 2, 1) := by decide +kernel
theorem dX9_isGreat_32 : decode cX9_isGreat 32 = .ok (.iconst 0, 1) := by decide +kernel
theorem dX9_isGreat_33 : decode cX9_isGreat 33 = .ok (.istore_n 3, 1) := by decide +kernel
theorem dX9_isGreat_34 : decode cX9_isGreat 34 = .ok (.iload_n 3, 1) := by decide +kernel
theorem dX9_isGreat_35 : decode cX9_isGreat 35 = .ok (.aload_n 0, 1) := by decide +kernel
theorem dX9_isGreat_36 : decode cX9_isGreat 36 = .ok (.getfield 112, 3) := by decide +kernel
theorem dX9_isGreat_39 : decode cX9_isGreat 39 = .ok (.if_icmp .ge 55, 3) := by decide +kernel
theorem dX9_isGreat_42 : decode cX9_isGreat 42 = .ok (.iload_n 2, 1) := by decide +kernel
theorem dX9_isGreat_43 : decode cX9_isGreat 43 = .ok (.ifCond .ne 39, 3) := by decide +kernel
theorem dX9_isGreat_46 : decode cX9_isGreat 46 = .ok (.aload_n 0, 1) := by decide +kernel
theorem dX9_isGreat_47 : decode cX9_isGreat 47 = .ok (.getfield 59, 3) := by decide +kernel
theorem dX9_isGreat_50 : decode cX9_isGreat 50 = .ok (.bipush 8, 2) := by decide +kernel
theorem dX9_isGreat_52 : decode cX9_isGreat 52 = .ok (.iload_n 1, 1) := by decide +kernel
theorem dX9_isGreat_53 : decode cX9_isGreat 53 = .ok (.imul, 1) := by decide +kernel
theorem dX9_isGreat_54 : decode cX9_isGreat 54 = .ok (.iload_n 3, 1) := by decide +kernel
theorem dX9_isGreat_55 : decode cX9_isGreat 55 = .ok (.iadd, 1) := by decide +kernel
theorem dX9_isGreat_56 : decode cX9_isGreat 56 = .ok (.laload, 1) := by decide +kernel
theorem dX9_isGreat_57 : decode cX9_isGreat 57 = .ok (.ldc2_w 225, 3) := by decide +kernel
theorem dX9_isGreat_60 : decode cX9_isGreat 60 = .ok (.lcmp, 1) := by decide +kernel
theorem dX9_isGreat_61 : decode cX9_isGreat 61 = .ok (.ifCond .lt 21, 3) := by decide +kernel
theorem dX9_isGreat_64 : decode cX9_isGreat 64 = .ok (.aload_n 0, 1) := by decide +kernel
theorem dX9_isGreat_65 : decode cX9_isGreat 65 = .ok (.getfield 59, 3) := by decide +kernel
theorem dX9_isGreat_68 : decode cX9_isGreat 68 = .ok (.bipush 8, 2) := by decide +kernel
theorem dX9_isGreat_70 : decode cX9_isGreat 70 = .ok (.iload_n 1, 1) := by decide +kernel
theorem dX9_isGreat_71 : decode cX9_isGreat 71 = .ok (.imul, 1) := by decide +kernel
theorem dX9_isGreat_72 : decode cX9_isGreat 72 = .ok (.iload_n 3, 1) := by decide +kernel
theorem dX9_isGreat_73 : decode cX9_isGreat 73 = .ok (.iadd, 1) := by decide +kernel
theorem dX9_isGreat_74 : decode cX9_isGreat 74 = .ok (.laload, 1) := by decide +kernel
theorem dX9_isGreat_75 : decode cX9_isGreat 75 = .ok (.ldc2_w 227, 3) := by decide +kernel
theorem dX9_isGreat_78 : decode cX9_isGreat 78 = .ok (.lcmp, 1) := by decide +kernel
theorem dX9_isGreat_79 : decode cX9_isGreat 79 = .ok (.ifCond .le 7, 3) := by decide +kernel
theorem dX9_isGreat_82 : decode cX9_isGreat 82 = .ok (.iconst 1, 1) := by decide +kernel
theorem dX9_isGreat_83 : decode cX9_isGreat 83 = .ok (.goto 4, 3) := by decide +kernel
theorem dX9_isGreat_86 : decode cX9_isGreat 86 = .ok (.iconst 0, 1) := by decide +kernel
theorem dX9_isGreat_87 : decode cX9_isGreat 87 = .ok (.istore_n 2, 1) := by decide +kernel
theorem dX9_isGreat_88 : decode cX9_isGreat 88 = .ok (.iinc 3 1, 3) := by decide +kernel
theorem dX9_isGreat_91 : decode cX9_isGreat 91 = .ok (.goto (-57), 3) := by decide +kernel
theorem dX9_isGreat_94 : decode cX9_isGreat 94 = .ok (.iload_n 2, 1) := by decide +kernel
theorem dX9_isGreat_95 : decode cX9_isGreat 95 = .ok (.ireturn, 1) := by decide +kernel
theorem dX9_table_0 : decode cX9_table 0 = .ok (.aload_n 0, 1) := by decide +kernel
theorem dX9_table_1 : decode cX9_table 1 = .ok (.iconst 1, 1) := by decide +kernel
theorem dX9_table_2 : decode cX9_table 2 = .ok (.invokevirtual 187, 3) := by decide +kernel
theorem dX9_table_5 : decode cX9_table 5 = .ok (.istore_n 2, 1) := by decide +kernel
theorem dX9_table_6 : decode cX9_table 6 = .ok (.aload_n 0, 1) := by decide +kernel
theorem dX9_table_7 : decode cX9_table 7 = .ok (.iload_n 1, 1) := by decide +kernel
theorem dX9_table_8 : decode cX9_table 8 = .ok (.aload_n 0, 1) := by decide +kernel
theorem dX9_table_9 : decode cX9_table 9 = .ok (.getfield 28, 3) := by decide +kernel
theorem dX9_table_12 : decode cX9_table 12 = .ok (.iload_n 2, 1) := by decide +kernel
theorem dX9_table_13 : decode cX9_table 13 = .ok (.iaload, 1) := by decide +kernel
theorem dX9_table_14 : decode cX9_table 14 = .ok (.aload_n 0, 1) := by decide +kernel
theorem dX9_table_15 : decode cX9_table 15 = .ok (.iconst 2, 1) := by decide +kernel
theorem dX9_table_16 : decode cX9_table 16 = .ok (.invokevirtual 187, 3) := by decide +kernel
theorem dX9_table_19 : decode cX9_table 19 = .ok (.i2l, 1) := by decide +kernel
theorem dX9_table_20 : decode cX9_table 20 = .ok (.invokevirtual 200, 3) := by decide +kernel
theorem dX9_table_23 : decode cX9_table 23 = .ok (.aload_n 0, 1) := by decide +kernel
theorem dX9_table_24 : decode cX9_table 24 = .ok (.iload_n 1, 1) := by decide +kernel
theorem dX9_table_25 : decode cX9_table 25 = .ok (.aload_n 0, 1) := by decide +kernel
theorem dX9_table_26 : decode cX9_table 26 = .ok (.getfield 31, 3) := by decide +kernel
theorem dX9_table_29 : decode cX9_table 29 = .ok (.iload_n 2, 1) := by decide +kernel
theorem dX9_table_30 : decode cX9_table 30 = .ok (.iaload, 1) := by decide +kernel
theorem dX9_table_31 : decode cX9_table 31 = .ok (.aload_n 0, 1) := by decide +kernel
theorem dX9_table_32 : decode cX9_table 32 = .ok (.iconst 3, 1) := by decide +kernel
theorem dX9_table_33 : decode cX9_table 33 = .ok (.invokevirtual 187, 3) := by decide +kernel
theorem dX9_table_36 : decode cX9_table 36 = .ok (.i2l, 1) := by decide +kernel
theorem dX9_table_37 : decode cX9_table 37 = .ok (.invokevirtual 200, 3) := by decide +kernel
theorem dX9_table_40 : decode cX9_table 40 = .ok (.iconst 0, 1) := by decide +kernel
theorem dX9_table_41 : decode cX9_table 41 = .ok (.istore_n 3, 1) := by decide +kernel
theorem dX9_table_42 : decode cX9_table 42 = .ok (.iload_n 3, 1) := by decide +kernel
theorem dX9_table_43 : decode cX9_table 43 = .ok (.aload_n 0, 1) := by decide +kernel
theorem dX9_table_44 : decode cX9_table 44 = .ok (.getfield 34, 3) := by decide +kernel
theorem dX9_table_47 : decode cX9_table 47 = .ok (.iload_n 2, 1) := by decide +kernel
theorem dX9_table_48 : decode cX9_table 48 = .ok (.iaload, 1) := by decide +kernel
theorem dX9_table_49 : decode cX9_table 49 = .ok (.if_icmp .ge 83, 3) := by decide +kernel
theorem dX9_table_52 : decode cX9_table 52 = .ok (.aload_n 0, 1) := by decide +kernel
theorem dX9_table_53 : decode cX9_table 53 = .ok (.iconst 2, 1) := by decide +kernel
theorem dX9_table_54 : decode cX9_table 54 = .ok (.invokevirtual 187, 3) := by decide +kernel
theorem dX9_table_57 : decode cX9_table 57 = .ok (.i2l, 1) := by decide +kernel
theorem dX9_table_58 : decode cX9_table 58 = .ok (.aload_n 0, 1) := by decide +kernel
theorem dX9_table_59 : decode cX9_table 59 = .ok (.getfield 37, 3) := by decide +kernel
theorem dX9_table_62 : decode cX9_table 62 = .ok (.bipush 20, 2) := by decide +kernel
theorem dX9_table_64 : decode cX9_table 64 = .ok (.iload_n 2, 1) := by decide +kernel
theorem dX9_table_65 : decode cX9_table 65 = .ok (.imul, 1) := by decide +kernel
theorem dX9_table_66 : decode cX9_table 66 = .ok (.iload_n 3, 1) := by decide +kernel
theorem dX9_table_67 : decode cX9_table 67 = .ok (.iadd, 1) := by decide +kernel
theorem dX9_table_68 : decode cX9_table 68 = .ok (.iaload, 1) := by decide +kernel
theorem dX9_table_69 : decode cX9_table 69 = .ok (.i2l, 1) := by decide +kernel
theorem dX9_table_70 : decode cX9_table 70 = .ok (.lmul, 1) := by decide +kernel
theorem dX9_table_71 : decode cX9_table 71 = .ok (.aload_n 0, 1) := by decide +kernel
theorem dX9_table_72 : decode cX9_table 72 = .ok (.iconst 3, 1) := by decide +kernel
theorem dX9_table_73 : decode cX9_table 73 = .ok (.invokevirtual 187, 3) := by decide +kernel
theorem dX9_table_76 : decode cX9_table 76 = .ok (.i2l, 1) := by decide +kernel
theorem dX9_table_77 : decode cX9_table 77 = .ok (.aload_n 0, 1) := by decide +kernel
theorem dX9_table_78 : decode cX9_table 78 = .ok (.getfield 40, 3) := by decide +kernel
theorem dX9_table_81 : decode cX9_table 81 = .ok (.bipush 20, 2) := by decide +kernel
theorem dX9_table_83 : decode cX9_table 83 = .ok (.iload_n 2, 1) := by decide +kernel
theorem dX9_table_84 : decode cX9_table 84 = .ok (.imul, 1) := by decide +kernel
theorem dX9_table_85 : decode cX9_table 85 = .ok (.iload_n 3, 1) := by decide +kernel
theorem dX9_table_86 : decode cX9_table 86 = .ok (.iadd, 1) := by decide +kernel
theorem dX9_table_87 : decode cX9_table 87 = .ok (.iaload, 1) := by decide +kernel
theorem dX9_table_88 : decode cX9_table 88 = .ok (.i2l, 1) := by decide +kernel
theorem dX9_table_89 : decode cX9_table 89 = .ok (.lmul, 1) := by decide +kernel
theorem dX9_table_90 : decode cX9_table 90 = .ok (.ladd, 1) := by decide +kernel
theorem dX9_table_91 : decode cX9_table 91 = .ok (.lstore 4, 2) := by decide +kernel
theorem dX9_table_93 : decode cX9_table 93 = .ok (.aload_n 0, 1) := by decide +kernel
theorem dX9_table_94 : decode cX9_table 94 = .ok (.getfield 63, 3) := by decide +kernel
theorem dX9_table_97 : decode cX9_table 97 = .ok (.iload_n 1, 1) := by decide +kernel
theorem dX9_table_98 : decode cX9_table 98 = .ok (.iload_n 3, 1) := by decide +kernel
theorem dX9_table_99 : decode cX9_table 99 = .ok (.ifCond .eq 15, 3) := by decide +kernel
theorem dX9_table_102 : decode cX9_table 102 = .ok (.lload 4, 2) := by decide +kernel
theorem dX9_table_104 : decode cX9_table 104 = .ok (.aload_n 0, 1) := by decide +kernel
theorem dX9_table_105 : decode cX9_table 105 = .ok (.getfield 63, 3) := by decide +kernel
theorem dX9_table_108 : decode cX9_table 108 = .ok (.iload_n 1, 1) := by decide +kernel
theorem dX9_table_109 : decode cX9_table 109 = .ok (.laload, 1) := by decide +kernel
theorem dX9_table_110 : decode cX9_table 110 = .ok (.lcmp, 1) := by decide +kernel
theorem dX9_table_111 : decode cX9_table 111 = .ok (.ifCond .le 8, 3) := by decide +kernel
theorem dX9_table_114 : decode cX9_table 114 = .ok (.lload 4, 2) := by decide +kernel
theorem dX9_table_116 : decode cX9_table 116 = .ok (.goto 9, 3) := by decide +kernel
theorem dX9_table_119 : decode cX9_table 119 = .ok (.aload_n 0, 1) := by decide +kernel
theorem dX9_table_120 : decode cX9_table 120 = .ok (.getfield 63, 3) := by decide +kernel
theorem dX9_table_123 : decode cX9_table 123 = .ok (.iload_n 1, 1) := by decide +kernel
theorem dX9_table_124 : decode cX9_table 124 = .ok (.laload, 1) := by decide +kernel
theorem dX9_table_125 : decode cX9_table 125 = .ok (.lastore, 1) := by decide +kernel
theorem dX9_table_126 : decode cX9_table 126 = .ok (.iinc 3 1, 3) := by decide +kernel
theorem dX9_table_129 : decode cX9_table 129 = .ok (.goto (-87), 3) := by decide +kernel
theorem dX9_table_132 : decode cX9_table 132 = .ok (.return_, 1) := by decide +kernel
theorem dX9_down_0 : decode cX9_down 0 = .ok (.lload_n 0, 1) := by decide +kernel
theorem dX9_down_1 : decode cX9_down 1 = .ok (.lload_n 2, 1) := by decide +kernel
theorem dX9_down_2 : decode cX9_down 2 = .ok (.ldiv, 1) := by decide +kernel
theorem dX9_down_3 : decode cX9_down 3 = .ok (.lstore 4, 2) := by decide +kernel
theorem dX9_down_5 : decode cX9_down 5 = .ok (.lload 4, 2) := by decide +kernel
theorem dX9_down_7 : decode cX9_down 7 = .ok (.lload_n 2, 1) := by decide +kernel
theorem dX9_down_8 : decode cX9_down 8 = .ok (.lmul, 1) := by decide +kernel
theorem dX9_down_9 : decode cX9_down 9 = .ok (.lload_n 0, 1) := by decide +kernel
theorem dX9_down_10 : decode cX9_down 10 = .ok (.lcmp, 1) := by decide +kernel
theorem dX9_down_11 : decode cX9_down 11 = .ok (.ifCond .le 10, 3) := by decide +kernel
theorem dX9_down_14 : decode cX9_down 14 = .ok (.lload 4, 2) := by decide +kernel
theorem dX9_down_16 : decode cX9_down 16 = .ok (.lconst 1, 1) := by decide +kernel
theorem dX9_down_17 : decode cX9_down 17 = .ok (.lsub, 1) := by decide +kernel
theorem dX9_down_18 : decode cX9_down 18 = .ok (.goto 5, 3) := by decide +kernel
theorem dX9_down_21 : decode cX9_down 21 = .ok (.lload 4, 2) := by decide +kernel
theorem dX9_down_23 : decode cX9_down 23 = .ok (.lreturn, 1) := by decide +kernel
theorem dX9_divides_0 : decode cX9_divides 0 = .ok (.aload_n 0, 1) := by decide +kernel
theorem dX9_divides_1 : decode cX9_divides 1 = .ok (.iconst 1, 1) := by decide +kernel
theorem dX9_divides_2 : decode cX9_divides 2 = .ok (.invokevirtual 187, 3) := by decide +kernel
theorem dX9_divides_5 : decode cX9_divides 5 = .ok (.istore_n 2, 1) := by decide +kernel
theorem dX9_divides_6 : decode cX9_divides 6 = .ok (.aload_n 0, 1) := by decide +kernel
theorem dX9_divides_7 : decode cX9_divides 7 = .ok (.iconst 2, 1) := by decide +kernel
theorem dX9_divides_8 : decode cX9_divides 8 = .ok (.invokevirtual 187, 3) := by decide +kernel
theorem dX9_divides_11 : decode cX9_divides 11 = .ok (.i2l, 1) := by decide +kernel
theorem dX9_divides_12 : decode cX9_divides 12 = .ok (.lstore_n 3, 1) := by decide +kernel
theorem dX9_divides_13 : decode cX9_divides 13 = .ok (.iconst 0, 1) := by decide +kernel
theorem dX9_divides_14 : decode cX9_divides 14 = .ok (.istore 5, 2) := by decide +kernel
theorem dX9_divides_16 : decode cX9_divides 16 = .ok (.iload 5, 2) := by decide +kernel
theorem dX9_divides_18 : decode cX9_divides 18 = .ok (.aload_n 0, 1) := by decide +kernel
theorem dX9_divides_19 : decode cX9_divides 19 = .ok (.getfield 112, 3) := by decide +kernel
theorem dX9_divides_22 : decode cX9_divides 22 = .ok (.if_icmp .ge 51, 3) := by decide +kernel
theorem dX9_divides_25 : decode cX9_divides 25 = .ok (.aload_n 0, 1) := by decide +kernel
theorem dX9_divides_26 : decode cX9_divides 26 = .ok (.getfield 59, 3) := by decide +kernel
theorem dX9_divides_29 : decode cX9_divides 29 = .ok (.bipush 8, 2) := by decide +kernel
theorem dX9_divides_31 : decode cX9_divides 31 = .ok (.iload_n 2, 1) := by decide +kernel
theorem dX9_divides_32 : decode cX9_divides 32 = .ok (.imul, 1) := by decide +kernel
theorem dX9_divides_33 : decode cX9_divides 33 = .ok (.iload 5, 2) := by decide +kernel
theorem dX9_divides_35 : decode cX9_divides 35 = .ok (.iadd, 1) := by decide +kernel
theorem dX9_divides_36 : decode cX9_divides 36 = .ok (.laload, 1) := by decide +kernel
theorem dX9_divides_37 : decode cX9_divides 37 = .ok (.lload_n 3, 1) := by decide +kernel
theorem dX9_divides_38 : decode cX9_divides 38 = .ok (.lrem, 1) := by decide +kernel
theorem dX9_divides_39 : decode cX9_divides 39 = .ok (.lconst 0, 1) := by decide +kernel
theorem dX9_divides_40 : decode cX9_divides 40 = .ok (.lcmp, 1) := by decide +kernel
theorem dX9_divides_41 : decode cX9_divides 41 = .ok (.ifCond .eq 5, 3) := by decide +kernel
theorem dX9_divides_44 : decode cX9_divides 44 = .ok (.iconst 5, 1) := by decide +kernel
theorem dX9_divides_45 : decode cX9_divides 45 = .ok (.ireturn, 1) := by decide +kernel
theorem dX9_divides_46 : decode cX9_divides 46 = .ok (.aload_n 0, 1) := by decide +kernel
theorem dX9_divides_47 : decode cX9_divides 47 = .ok (.iload_n 1, 1) := by decide +kernel
theorem dX9_divides_48 : decode cX9_divides 48 = .ok (.iload 5, 2) := by decide +kernel
theorem dX9_divides_50 : decode cX9_divides 50 = .ok (.aload_n 0, 1) := by decide +kernel
theorem dX9_divides_51 : decode cX9_divides 51 = .ok (.getfield 59, 3) := by decide +kernel
theorem dX9_divides_54 : decode cX9_divides 54 = .ok (.bipush 8, 2) := by decide +kernel
theorem dX9_divides_56 : decode cX9_divides 56 = .ok (.iload_n 2, 1) := by decide +kernel
theorem dX9_divides_57 : decode cX9_divides 57 = .ok (.imul, 1) := by decide +kernel
theorem dX9_divides_58 : decode cX9_divides 58 = .ok (.iload 5, 2) := by decide +kernel
theorem dX9_divides_60 : decode cX9_divides 60 = .ok (.iadd, 1) := by decide +kernel
theorem dX9_divides_61 : decode cX9_divides 61 = .ok (.laload, 1) := by decide +kernel
theorem dX9_divides_62 : decode cX9_divides 62 = .ok (.lload_n 3, 1) := by decide +kernel
theorem dX9_divides_63 : decode cX9_divides 63 = .ok (.ldiv, 1) := by decide +kernel
theorem dX9_divides_64 : decode cX9_divides 64 = .ok (.invokevirtual 200, 3) := by decide +kernel
theorem dX9_divides_67 : decode cX9_divides 67 = .ok (.iinc 5 1, 3) := by decide +kernel
theorem dX9_divides_70 : decode cX9_divides 70 = .ok (.goto (-54), 3) := by decide +kernel
theorem dX9_divides_73 : decode cX9_divides 73 = .ok (.aload_n 0, 1) := by decide +kernel
theorem dX9_divides_74 : decode cX9_divides 74 = .ok (.getfield 63, 3) := by decide +kernel
theorem dX9_divides_77 : decode cX9_divides 77 = .ok (.iload_n 1, 1) := by decide +kernel
theorem dX9_divides_78 : decode cX9_divides 78 = .ok (.aload_n 0, 1) := by decide +kernel
theorem dX9_divides_79 : decode cX9_divides 79 = .ok (.getfield 63, 3) := by decide +kernel
theorem dX9_divides_82 : decode cX9_divides 82 = .ok (.iload_n 2, 1) := by decide +kernel
theorem dX9_divides_83 : decode cX9_divides 83 = .ok (.laload, 1) := by decide +kernel
theorem dX9_divides_84 : decode cX9_divides 84 = .ok (.lload_n 3, 1) := by decide +kernel
theorem dX9_divides_85 : decode cX9_divides 85 = .ok (.invokestatic 229, 3) := by decide +kernel
theorem dX9_divides_88 : decode cX9_divides 88 = .ok (.lastore, 1) := by decide +kernel
theorem dX9_divides_89 : decode cX9_divides 89 = .ok (.aload_n 0, 1) := by decide +kernel
theorem dX9_divides_90 : decode cX9_divides 90 = .ok (.iload_n 1, 1) := by decide +kernel
theorem dX9_divides_91 : decode cX9_divides 91 = .ok (.iload_n 2, 1) := by decide +kernel
theorem dX9_divides_92 : decode cX9_divides 92 = .ok (.iconst (-1), 1) := by decide +kernel
theorem dX9_divides_93 : decode cX9_divides 93 = .ok (.invokevirtual 209, 3) := by decide +kernel
theorem dX9_divides_96 : decode cX9_divides 96 = .ok (.iconst 0, 1) := by decide +kernel
theorem dX9_divides_97 : decode cX9_divides 97 = .ok (.ireturn, 1) := by decide +kernel
theorem dX9_kind_0 : decode cX9_kind 0 = .ok (.aload_n 0, 1) := by decide +kernel
theorem dX9_kind_1 : decode cX9_kind 1 = .ok (.getfield 46, 3) := by decide +kernel
theorem dX9_kind_4 : decode cX9_kind 4 = .ok (.aload_n 0, 1) := by decide +kernel
theorem dX9_kind_5 : decode cX9_kind 5 = .ok (.getfield 56, 3) := by decide +kernel
theorem dX9_kind_8 : decode cX9_kind 8 = .ok (.iload_n 1, 1) := by decide +kernel
theorem dX9_kind_9 : decode cX9_kind 9 = .ok (.iaload, 1) := by decide +kernel
theorem dX9_kind_10 : decode cX9_kind 10 = .ok (.iaload, 1) := by decide +kernel
theorem dX9_kind_11 : decode cX9_kind 11 = .ok (.ireturn, 1) := by decide +kernel
theorem dX9_isImpossible_0 : decode cX9_isImpossible 0 = .ok (.aload_n 0, 1) := by decide +kernel
theorem dX9_isImpossible_1 : decode cX9_isImpossible 1 = .ok (.getfield 63, 3) := by decide +kernel
theorem dX9_isImpossible_4 : decode cX9_isImpossible 4 = .ok (.iload_n 1, 1) := by decide +kernel
theorem dX9_isImpossible_5 : decode cX9_isImpossible 5 = .ok (.laload, 1) := by decide +kernel
theorem dX9_isImpossible_6 : decode cX9_isImpossible 6 = .ok (.lconst 0, 1) := by decide +kernel
theorem dX9_isImpossible_7 : decode cX9_isImpossible 7 = .ok (.lcmp, 1) := by decide +kernel
theorem dX9_isImpossible_8 : decode cX9_isImpossible 8 = .ok (.ifCond .ge 7, 3) := by decide +kernel
theorem dX9_isImpossible_11 : decode cX9_isImpossible 11 = .ok (.iconst 1, 1) := by decide +kernel
theorem dX9_isImpossible_12 : decode cX9_isImpossible 12 = .ok (.goto 4, 3) := by decide +kernel
theorem dX9_isImpossible_15 : decode cX9_isImpossible 15 = .ok (.iconst 0, 1) := by decide +kernel
theorem dX9_isImpossible_16 : decode cX9_isImpossible 16 = .ok (.istore_n 2, 1) := by decide +kernel
theorem dX9_isImpossible_17 : decode cX9_isImpossible 17 = .ok (.iconst 0, 1) := by decide +kernel
theorem dX9_isImpossible_18 : decode cX9_isImpossible 18 = .ok (.istore_n 3, 1) := by decide +kernel
theorem dX9_isImpossible_19 : decode cX9_isImpossible 19 = .ok (.iload_n 3, 1) := by decide +kernel
theorem dX9_isImpossible_20 : decode cX9_isImpossible 20 = .ok (.aload_n 0, 1) := by decide +kernel
theorem dX9_isImpossible_21 : decode cX9_isImpossible 21 = .ok (.getfield 112, 3) := by decide +kernel
theorem dX9_isImpossible_24 : decode cX9_isImpossible 24 = .ok (.if_icmp .ge 35, 3) := by decide +kernel
theorem dX9_isImpossible_27 : decode cX9_isImpossible 27 = .ok (.iload_n 2, 1) := by decide +kernel
theorem dX9_isImpossible_28 : decode cX9_isImpossible 28 = .ok (.ifCond .eq 23, 3) := by decide +kernel
theorem dX9_isImpossible_31 : decode cX9_isImpossible 31 = .ok (.aload_n 0, 1) := by decide +kernel
theorem dX9_isImpossible_32 : decode cX9_isImpossible 32 = .ok (.getfield 59, 3) := by decide +kernel
theorem dX9_isImpossible_35 : decode cX9_isImpossible 35 = .ok (.bipush 8, 2) := by decide +kernel
theorem dX9_isImpossible_37 : decode cX9_isImpossible 37 = .ok (.iload_n 1, 1) := by decide +kernel
theorem dX9_isImpossible_38 : decode cX9_isImpossible 38 = .ok (.imul, 1) := by decide +kernel
theorem dX9_isImpossible_39 : decode cX9_isImpossible 39 = .ok (.iload_n 3, 1) := by decide +kernel
theorem dX9_isImpossible_40 : decode cX9_isImpossible 40 = .ok (.iadd, 1) := by decide +kernel
theorem dX9_isImpossible_41 : decode cX9_isImpossible 41 = .ok (.laload, 1) := by decide +kernel
theorem dX9_isImpossible_42 : decode cX9_isImpossible 42 = .ok (.lconst 0, 1) := by decide +kernel
theorem dX9_isImpossible_43 : decode cX9_isImpossible 43 = .ok (.lcmp, 1) := by decide +kernel
theorem dX9_isImpossible_44 : decode cX9_isImpossible 44 = .ok (.ifCond .ne 7, 3) := by decide +kernel
theorem dX9_isImpossible_47 : decode cX9_isImpossible 47 = .ok (.iconst 1, 1) := by decide +kernel
theorem dX9_isImpossible_48 : decode cX9_isImpossible 48 = .ok (.goto 4, 3) := by decide +kernel
theorem dX9_isImpossible_51 : decode cX9_isImpossible 51 = .ok (.iconst 0, 1) := by decide +kernel
theorem dX9_isImpossible_52 : decode cX9_isImpossible 52 = .ok (.istore_n 2, 1) := by decide +kernel
theorem dX9_isImpossible_53 : decode cX9_isImpossible 53 = .ok (.iinc 3 1, 3) := by decide +kernel
theorem dX9_isImpossible_56 : decode cX9_isImpossible 56 = .ok (.goto (-37), 3) := by decide +kernel
theorem dX9_isImpossible_59 : decode cX9_isImpossible 59 = .ok (.iload_n 2, 1) := by decide +kernel
theorem dX9_isImpossible_60 : decode cX9_isImpossible 60 = .ok (.ireturn, 1) := by decide +kernel
theorem dX9_joins_0 : decode cX9_joins 0 = .ok (.aload_n 0, 1) := by decide +kernel
theorem dX9_joins_1 : decode cX9_joins 1 = .ok (.iconst 1, 1) := by decide +kernel
theorem dX9_joins_2 : decode cX9_joins 2 = .ok (.invokevirtual 187, 3) := by decide +kernel
theorem dX9_joins_5 : decode cX9_joins 5 = .ok (.istore_n 2, 1) := by decide +kernel
theorem dX9_joins_6 : decode cX9_joins 6 = .ok (.aload_n 0, 1) := by decide +kernel
theorem dX9_joins_7 : decode cX9_joins 7 = .ok (.iconst 2, 1) := by decide +kernel
theorem dX9_joins_8 : decode cX9_joins 8 = .ok (.invokevirtual 187, 3) := by decide +kernel
theorem dX9_joins_11 : decode cX9_joins 11 = .ok (.istore_n 3, 1) := by decide +kernel
theorem dX9_joins_12 : decode cX9_joins 12 = .ok (.aload_n 0, 1) := by decide +kernel
theorem dX9_joins_13 : decode cX9_joins 13 = .ok (.iconst 3, 1) := by decide +kernel
theorem dX9_joins_14 : decode cX9_joins 14 = .ok (.invokevirtual 187, 3) := by decide +kernel
theorem dX9_joins_17 : decode cX9_joins 17 = .ok (.istore 4, 2) := by decide +kernel
theorem dX9_joins_19 : decode cX9_joins 19 = .ok (.aload_n 0, 1) := by decide +kernel
theorem dX9_joins_20 : decode cX9_joins 20 = .ok (.iconst 4, 1) := by decide +kernel
theorem dX9_joins_21 : decode cX9_joins 21 = .ok (.invokevirtual 187, 3) := by decide +kernel
theorem dX9_joins_24 : decode cX9_joins 24 = .ok (.istore 5, 2) := by decide +kernel
theorem dX9_joins_26 : decode cX9_joins 26 = .ok (.aload_n 0, 1) := by decide +kernel
theorem dX9_joins_27 : decode cX9_joins 27 = .ok (.iload 4, 2) := by decide +kernel
theorem dX9_joins_29 : decode cX9_joins 29 = .ok (.invokevirtual 233, 3) := by decide +kernel
theorem dX9_joins_32 : decode cX9_joins 32 = .ok (.bipush 6, 2) := by decide +kernel
theorem dX9_joins_34 : decode cX9_joins 34 = .ok (.if_icmp .ne 18, 3) := by decide +kernel
theorem dX9_joins_37 : decode cX9_joins 37 = .ok (.aload_n 0, 1) := by decide +kernel
theorem dX9_joins_38 : decode cX9_joins 38 = .ok (.iload 5, 2) := by decide +kernel
theorem dX9_joins_40 : decode cX9_joins 40 = .ok (.invokevirtual 233, 3) := by decide +kernel
theorem dX9_joins_43 : decode cX9_joins 43 = .ok (.bipush 6, 2) := by decide +kernel
theorem dX9_joins_45 : decode cX9_joins 45 = .ok (.if_icmp .ne 7, 3) := by decide +kernel
theorem dX9_joins_48 : decode cX9_joins 48 = .ok (.iconst 1, 1) := by decide +kernel
theorem dX9_joins_49 : decode cX9_joins 49 = .ok (.goto 4, 3) := by decide +kernel
theorem dX9_joins_52 : decode cX9_joins 52 = .ok (.iconst 0, 1) := by decide +kernel
theorem dX9_joins_53 : decode cX9_joins 53 = .ok (.istore 6, 2) := by decide +kernel
theorem dX9_joins_55 : decode cX9_joins 55 = .ok (.iload 6, 2) := by decide +kernel
theorem dX9_joins_57 : decode cX9_joins 57 = .ok (.ifCond .eq 69, 3) := by decide +kernel
theorem dX9_joins_60 : decode cX9_joins 60 = .ok (.aload_n 0, 1) := by decide +kernel
theorem dX9_joins_61 : decode cX9_joins 61 = .ok (.getfield 46, 3) := by decide +kernel
theorem dX9_joins_64 : decode cX9_joins 64 = .ok (.aload_n 0, 1) := by decide +kernel
theorem dX9_joins_65 : decode cX9_joins 65 = .ok (.getfield 56, 3) := by decide +kernel
theorem dX9_joins_68 : decode cX9_joins 68 = .ok (.iload 4, 2) := by decide +kernel
theorem dX9_joins_70 : decode cX9_joins 70 = .ok (.iaload, 1) := by decide +kernel
theorem dX9_joins_71 : decode cX9_joins 71 = .ok (.iconst 1, 1) := by decide +kernel
theorem dX9_joins_72 : decode cX9_joins 72 = .ok (.iadd, 1) := by decide +kernel
theorem dX9_joins_73 : decode cX9_joins 73 = .ok (.iaload, 1) := by decide +kernel
theorem dX9_joins_74 : decode cX9_joins 74 = .ok (.aload_n 0, 1) := by decide +kernel
theorem dX9_joins_75 : decode cX9_joins 75 = .ok (.getfield 46, 3) := by decide +kernel
theorem dX9_joins_78 : decode cX9_joins 78 = .ok (.aload_n 0, 1) := by decide +kernel
theorem dX9_joins_79 : decode cX9_joins 79 = .ok (.getfield 56, 3) := by decide +kernel
theorem dX9_joins_82 : decode cX9_joins 82 = .ok (.iload 5, 2) := by decide +kernel
theorem dX9_joins_84 : decode cX9_joins 84 = .ok (.iaload, 1) := by decide +kernel
theorem dX9_joins_85 : decode cX9_joins 85 = .ok (.iconst 1, 1) := by decide +kernel
theorem dX9_joins_86 : decode cX9_joins 86 = .ok (.iadd, 1) := by decide +kernel
theorem dX9_joins_87 : decode cX9_joins 87 = .ok (.iaload, 1) := by decide +kernel
theorem dX9_joins_88 : decode cX9_joins 88 = .ok (.if_icmp .ne 38, 3) := by decide +kernel
theorem dX9_joins_91 : decode cX9_joins 91 = .ok (.aload_n 0, 1) := by decide +kernel
theorem dX9_joins_92 : decode cX9_joins 92 = .ok (.getfield 46, 3) := by decide +kernel
theorem dX9_joins_95 : decode cX9_joins 95 = .ok (.aload_n 0, 1) := by decide +kernel
theorem dX9_joins_96 : decode cX9_joins 96 = .ok (.getfield 56, 3) := by decide +kernel
theorem dX9_joins_99 : decode cX9_joins 99 = .ok (.iload 4, 2) := by decide +kernel
theorem dX9_joins_101 : decode cX9_joins 101 = .ok (.iaload, 1) := by decide +kernel
theorem dX9_joins_102 : decode cX9_joins 102 = .ok (.iconst 2, 1) := by decide +kernel
theorem dX9_joins_103 : decode cX9_joins 103 = .ok (.iadd, 1) := by decide +kernel
theorem dX9_joins_104 : decode cX9_joins 104 = .ok (.iaload, 1) := by decide +kernel
theorem dX9_joins_105 : decode cX9_joins 105 = .ok (.aload_n 0, 1) := by decide +kernel
theorem dX9_joins_106 : decode cX9_joins 106 = .ok (.getfield 46, 3) := by decide +kernel
theorem dX9_joins_109 : decode cX9_joins 109 = .ok (.aload_n 0, 1) := by decide +kernel
theorem dX9_joins_110 : decode cX9_joins 110 = .ok (.getfield 56, 3) := by decide +kernel
theorem dX9_joins_113 : decode cX9_joins 113 = .ok (.iload 5, 2) := by decide +kernel
theorem dX9_joins_115 : decode cX9_joins 115 = .ok (.iaload, 1) := by decide +kernel
theorem dX9_joins_116 : decode cX9_joins 116 = .ok (.iconst 2, 1) := by decide +kernel
theorem dX9_joins_117 : decode cX9_joins 117 = .ok (.iadd, 1) := by decide +kernel
theorem dX9_joins_118 : decode cX9_joins 118 = .ok (.iaload, 1) := by decide +kernel
theorem dX9_joins_119 : decode cX9_joins 119 = .ok (.if_icmp .ne 7, 3) := by decide +kernel
theorem dX9_joins_122 : decode cX9_joins 122 = .ok (.iconst 1, 1) := by decide +kernel
theorem dX9_joins_123 : decode cX9_joins 123 = .ok (.goto 4, 3) := by decide +kernel
theorem dX9_joins_126 : decode cX9_joins 126 = .ok (.iconst 0, 1) := by decide +kernel
theorem dX9_joins_127 : decode cX9_joins 127 = .ok (.istore 6, 2) := by decide +kernel
theorem dX9_joins_129 : decode cX9_joins 129 = .ok (.iload 6, 2) := by decide +kernel
theorem dX9_joins_131 : decode cX9_joins 131 = .ok (.ifCond .eq 38, 3) := by decide +kernel
theorem dX9_joins_134 : decode cX9_joins 134 = .ok (.aload_n 0, 1) := by decide +kernel
theorem dX9_joins_135 : decode cX9_joins 135 = .ok (.getfield 46, 3) := by decide +kernel
theorem dX9_joins_138 : decode cX9_joins 138 = .ok (.aload_n 0, 1) := by decide +kernel
theorem dX9_joins_139 : decode cX9_joins 139 = .ok (.getfield 56, 3) := by decide +kernel
theorem dX9_joins_142 : decode cX9_joins 142 = .ok (.iload 4, 2) := by decide +kernel
theorem dX9_joins_144 : decode cX9_joins 144 = .ok (.iaload, 1) := by decide +kernel
theorem dX9_joins_145 : decode cX9_joins 145 = .ok (.iconst 3, 1) := by decide +kernel
theorem dX9_joins_146 : decode cX9_joins 146 = .ok (.iadd, 1) := by decide +kernel
theorem dX9_joins_147 : decode cX9_joins 147 = .ok (.iaload, 1) := by decide +kernel
theorem dX9_joins_148 : decode cX9_joins 148 = .ok (.ifCond .ne 21, 3) := by decide +kernel
theorem dX9_joins_151 : decode cX9_joins 151 = .ok (.aload_n 0, 1) := by decide +kernel
theorem dX9_joins_152 : decode cX9_joins 152 = .ok (.getfield 46, 3) := by decide +kernel
theorem dX9_joins_155 : decode cX9_joins 155 = .ok (.aload_n 0, 1) := by decide +kernel
theorem dX9_joins_156 : decode cX9_joins 156 = .ok (.getfield 56, 3) := by decide +kernel
theorem dX9_joins_159 : decode cX9_joins 159 = .ok (.iload 5, 2) := by decide +kernel
theorem dX9_joins_161 : decode cX9_joins 161 = .ok (.iaload, 1) := by decide +kernel
theorem dX9_joins_162 : decode cX9_joins 162 = .ok (.iconst 3, 1) := by decide +kernel
theorem dX9_joins_163 : decode cX9_joins 163 = .ok (.iadd, 1) := by decide +kernel
theorem dX9_joins_164 : decode cX9_joins 164 = .ok (.iaload, 1) := by decide +kernel
theorem dX9_joins_165 : decode cX9_joins 165 = .ok (.iconst 1, 1) := by decide +kernel
theorem dX9_joins_166 : decode cX9_joins 166 = .ok (.if_icmp .eq 6, 3) := by decide +kernel
theorem dX9_joins_169 : decode cX9_joins 169 = .ok (.bipush 6, 2) := by decide +kernel
theorem dX9_joins_171 : decode cX9_joins 171 = .ok (.ireturn, 1) := by decide +kernel
theorem dX9_joins_172 : decode cX9_joins 172 = .ok (.iconst 1, 1) := by decide +kernel
theorem dX9_joins_173 : decode cX9_joins 173 = .ok (.istore 7, 2) := by decide +kernel
theorem dX9_joins_175 : decode cX9_joins 175 = .ok (.iconst 0, 1) := by decide +kernel
theorem dX9_joins_176 : decode cX9_joins 176 = .ok (.istore 8, 2) := by decide +kernel
theorem dX9_joins_178 : decode cX9_joins 178 = .ok (.iload 8, 2) := by decide +kernel
theorem dX9_joins_180 : decode cX9_joins 180 = .ok (.aload_n 0, 1) := by decide +kernel
theorem dX9_joins_181 : decode cX9_joins 181 = .ok (.getfield 112, 3) := by decide +kernel
theorem dX9_joins_184 : decode cX9_joins 184 = .ok (.if_icmp .ge 49, 3) := by decide +kernel
theorem dX9_joins_187 : decode cX9_joins 187 = .ok (.iload 7, 2) := by decide +kernel
theorem dX9_joins_189 : decode cX9_joins 189 = .ok (.ifCond .eq 35, 3) := by decide +kernel
theorem dX9_joins_192 : decode cX9_joins 192 = .ok (.aload_n 0, 1) := by decide +kernel
theorem dX9_joins_193 : decode cX9_joins 193 = .ok (.getfield 59, 3) := by decide +kernel
theorem dX9_joins_196 : decode cX9_joins 196 = .ok (.bipush 8, 2) := by decide +kernel
theorem dX9_joins_198 : decode cX9_joins 198 = .ok (.iload_n 2, 1) := by decide +kernel
theorem dX9_joins_199 : decode cX9_joins 199 = .ok (.imul, 1) := by decide +kernel
theorem dX9_joins_200 : decode cX9_joins 200 = .ok (.iload 8, 2) := by decide +kernel
theorem dX9_joins_202 : decode cX9_joins 202 = .ok (.iadd, 1) := by decide +kernel
theorem dX9_joins_203 : decode cX9_joins 203 = .ok (.laload, 1) := by decide +kernel
theorem dX9_joins_204 : decode cX9_joins 204 = .ok (.aload_n 0, 1) := by decide +kernel
theorem dX9_joins_205 : decode cX9_joins 205 = .ok (.getfield 59, 3) := by decide +kernel
theorem dX9_joins_208 : decode cX9_joins 208 = .ok (.bipush 8, 2) := by decide +kernel
theorem dX9_joins_210 : decode cX9_joins 210 = .ok (.iload_n 3, 1) := by decide +kernel
theorem dX9_joins_211 : decode cX9_joins 211 = .ok (.imul, 1) := by decide +kernel
theorem dX9_joins_212 : decode cX9_joins 212 = .ok (.iload 8, 2) := by decide +kernel
theorem dX9_joins_214 : decode cX9_joins 214 = .ok (.iadd, 1) := by decide +kernel
theorem dX9_joins_215 : decode cX9_joins 215 = .ok (.laload, 1) := by decide +kernel
theorem dX9_joins_216 : decode cX9_joins 216 = .ok (.lcmp, 1) := by decide +kernel
theorem dX9_joins_217 : decode cX9_joins 217 = .ok (.ifCond .ne 7, 3) := by decide +kernel
theorem dX9_joins_220 : decode cX9_joins 220 = .ok (.iconst 1, 1) := by decide +kernel
theorem dX9_joins_221 : decode cX9_joins 221 = .ok (.goto 4, 3) := by decide +kernel
theorem dX9_joins_224 : decode cX9_joins 224 = .ok (.iconst 0, 1) := by decide +kernel
theorem dX9_joins_225 : decode cX9_joins 225 = .ok (.istore 7, 2) := by decide +kernel
theorem dX9_joins_227 : decode cX9_joins 227 = .ok (.iinc 8 1, 3) := by decide +kernel
theorem dX9_joins_230 : decode cX9_joins 230 = .ok (.goto (-52), 3) := by decide +kernel
theorem dX9_joins_233 : decode cX9_joins 233 = .ok (.iload 7, 2) := by decide +kernel
theorem dX9_joins_235 : decode cX9_joins 235 = .ok (.ifCond .ne 22, 3) := by decide +kernel
theorem dX9_joins_238 : decode cX9_joins 238 = .ok (.aload_n 0, 1) := by decide +kernel
theorem dX9_joins_239 : decode cX9_joins 239 = .ok (.iload_n 2, 1) := by decide +kernel
theorem dX9_joins_240 : decode cX9_joins 240 = .ok (.invokevirtual 236, 3) := by decide +kernel
theorem dX9_joins_243 : decode cX9_joins 243 = .ok (.ifCond .ne 14, 3) := by decide +kernel
theorem dX9_joins_246 : decode cX9_joins 246 = .ok (.aload_n 0, 1) := by decide +kernel
theorem dX9_joins_247 : decode cX9_joins 247 = .ok (.iload_n 3, 1) := by decide +kernel
theorem dX9_joins_248 : decode cX9_joins 248 = .ok (.invokevirtual 236, 3) := by decide +kernel
theorem dX9_joins_251 : decode cX9_joins 251 = .ok (.ifCond .ne 6, 3) := by decide +kernel
theorem dX9_joins_254 : decode cX9_joins 254 = .ok (.bipush 7, 2) := by decide +kernel
theorem dX9_joins_256 : decode cX9_joins 256 = .ok (.ireturn, 1) := by decide +kernel
theorem dX9_joins_257 : decode cX9_joins 257 = .ok (.iload 7, 2) := by decide +kernel
theorem dX9_joins_259 : decode cX9_joins 259 = .ok (.ifCond .eq 27, 3) := by decide +kernel
theorem dX9_joins_262 : decode cX9_joins 262 = .ok (.aload_n 0, 1) := by decide +kernel
theorem dX9_joins_263 : decode cX9_joins 263 = .ok (.getfield 63, 3) := by decide +kernel
theorem dX9_joins_266 : decode cX9_joins 266 = .ok (.iload_n 2, 1) := by decide +kernel
theorem dX9_joins_267 : decode cX9_joins 267 = .ok (.laload, 1) := by decide +kernel
theorem dX9_joins_268 : decode cX9_joins 268 = .ok (.aload_n 0, 1) := by decide +kernel
theorem dX9_joins_269 : decode cX9_joins 269 = .ok (.getfield 63, 3) := by decide +kernel
theorem dX9_joins_272 : decode cX9_joins 272 = .ok (.iload_n 3, 1) := by decide +kernel
theorem dX9_joins_273 : decode cX9_joins 273 = .ok (.laload, 1) := by decide +kernel
theorem dX9_joins_274 : decode cX9_joins 274 = .ok (.lcmp, 1) := by decide +kernel
theorem dX9_joins_275 : decode cX9_joins 275 = .ok (.ifCond .lt 7, 3) := by decide +kernel
theorem dX9_joins_278 : decode cX9_joins 278 = .ok (.iload_n 2, 1) := by decide +kernel
theorem dX9_joins_279 : decode cX9_joins 279 = .ok (.goto 20, 3) := by decide +kernel
theorem dX9_joins_282 : decode cX9_joins 282 = .ok (.iload_n 3, 1) := by decide +kernel
theorem dX9_joins_283 : decode cX9_joins 283 = .ok (.goto 16, 3) := by decide +kernel
theorem dX9_joins_286 : decode cX9_joins 286 = .ok (.aload_n 0, 1) := by decide +kernel
theorem dX9_joins_287 : decode cX9_joins 287 = .ok (.iload_n 2, 1) := by decide +kernel
theorem dX9_joins_288 : decode cX9_joins 288 = .ok (.invokevirtual 236, 3) := by decide +kernel
theorem dX9_joins_291 : decode cX9_joins 291 = .ok (.ifCond .eq 7, 3) := by decide +kernel
theorem dX9_joins_294 : decode cX9_joins 294 = .ok (.iload_n 3, 1) := by decide +kernel
theorem dX9_joins_295 : decode cX9_joins 295 = .ok (.goto 4, 3) := by decide +kernel
theorem dX9_joins_298 : decode cX9_joins 298 = .ok (.iload_n 2, 1) := by decide +kernel
theorem dX9_joins_299 : decode cX9_joins 299 = .ok (.istore 8, 2) := by decide +kernel
theorem dX9_joins_301 : decode cX9_joins 301 = .ok (.iconst 0, 1) := by decide +kernel
theorem dX9_joins_302 : decode cX9_joins 302 = .ok (.istore 9, 2) := by decide +kernel
theorem dX9_joins_304 : decode cX9_joins 304 = .ok (.iload 9, 2) := by decide +kernel
theorem dX9_joins_306 : decode cX9_joins 306 = .ok (.aload_n 0, 1) := by decide +kernel
theorem dX9_joins_307 : decode cX9_joins 307 = .ok (.getfield 112, 3) := by decide +kernel
theorem dX9_joins_310 : decode cX9_joins 310 = .ok (.if_icmp .ge 29, 3) := by decide +kernel
theorem dX9_joins_313 : decode cX9_joins 313 = .ok (.aload_n 0, 1) := by decide +kernel
theorem dX9_joins_314 : decode cX9_joins 314 = .ok (.iload_n 1, 1) := by decide +kernel
theorem dX9_joins_315 : decode cX9_joins 315 = .ok (.iload 9, 2) := by decide +kernel
theorem dX9_joins_317 : decode cX9_joins 317 = .ok (.aload_n 0, 1) := by decide +kernel
theorem dX9_joins_318 : decode cX9_joins 318 = .ok (.getfield 59, 3) := by decide +kernel
theorem dX9_joins_321 : decode cX9_joins 321 = .ok (.bipush 8, 2) := by decide +kernel
theorem dX9_joins_323 : decode cX9_joins 323 = .ok (.iload 8, 2) := by decide +kernel
theorem dX9_joins_325 : decode cX9_joins 325 = .ok (.imul, 1) := by decide +kernel
theorem dX9_joins_326 : decode cX9_joins 326 = .ok (.iload 9, 2) := by decide +kernel
theorem dX9_joins_328 : decode cX9_joins 328 = .ok (.iadd, 1) := by decide +kernel
theorem dX9_joins_329 : decode cX9_joins 329 = .ok (.laload, 1) := by decide +kernel
theorem dX9_joins_330 : decode cX9_joins 330 = .ok (.invokevirtual 200, 3) := by decide +kernel
theorem dX9_joins_333 : decode cX9_joins 333 = .ok (.iinc 9 1, 3) := by decide +kernel
theorem dX9_joins_336 : decode cX9_joins 336 = .ok (.goto (-32), 3) := by decide +kernel
theorem dX9_joins_339 : decode cX9_joins 339 = .ok (.aload_n 0, 1) := by decide +kernel
theorem dX9_joins_340 : decode cX9_joins 340 = .ok (.getfield 63, 3) := by decide +kernel
theorem dX9_joins_343 : decode cX9_joins 343 = .ok (.iload_n 1, 1) := by decide +kernel
theorem dX9_joins_344 : decode cX9_joins 344 = .ok (.aload_n 0, 1) := by decide +kernel
theorem dX9_joins_345 : decode cX9_joins 345 = .ok (.getfield 63, 3) := by decide +kernel
theorem dX9_joins_348 : decode cX9_joins 348 = .ok (.iload 8, 2) := by decide +kernel
theorem dX9_joins_350 : decode cX9_joins 350 = .ok (.laload, 1) := by decide +kernel
theorem dX9_joins_351 : decode cX9_joins 351 = .ok (.lastore, 1) := by decide +kernel
theorem dX9_joins_352 : decode cX9_joins 352 = .ok (.aload_n 0, 1) := by decide +kernel
theorem dX9_joins_353 : decode cX9_joins 353 = .ok (.iload_n 1, 1) := by decide +kernel
theorem dX9_joins_354 : decode cX9_joins 354 = .ok (.iload_n 2, 1) := by decide +kernel
theorem dX9_joins_355 : decode cX9_joins 355 = .ok (.iload 4, 2) := by decide +kernel
theorem dX9_joins_357 : decode cX9_joins 357 = .ok (.invokevirtual 209, 3) := by decide +kernel
theorem dX9_joins_360 : decode cX9_joins 360 = .ok (.aload_n 0, 1) := by decide +kernel
theorem dX9_joins_361 : decode cX9_joins 361 = .ok (.iload_n 1, 1) := by decide +kernel
theorem dX9_joins_362 : decode cX9_joins 362 = .ok (.iload_n 3, 1) := by decide +kernel
theorem dX9_joins_363 : decode cX9_joins 363 = .ok (.iload 5, 2) := by decide +kernel
theorem dX9_joins_365 : decode cX9_joins 365 = .ok (.invokevirtual 209, 3) := by decide +kernel
theorem dX9_joins_368 : decode cX9_joins 368 = .ok (.iconst 0, 1) := by decide +kernel
theorem dX9_joins_369 : decode cX9_joins 369 = .ok (.ireturn, 1) := by decide +kernel
theorem dX9_pushes_0 : decode cX9_pushes 0 = .ok (.aload_n 0, 1) := by decide +kernel
theorem dX9_pushes_1 : decode cX9_pushes 1 = .ok (.iconst 1, 1) := by decide +kernel
theorem dX9_pushes_2 : decode cX9_pushes 2 = .ok (.invokevirtual 187, 3) := by decide +kernel
theorem dX9_pushes_5 : decode cX9_pushes 5 = .ok (.istore_n 2, 1) := by decide +kernel
theorem dX9_pushes_6 : decode cX9_pushes 6 = .ok (.aload_n 0, 1) := by decide +kernel
theorem dX9_pushes_7 : decode cX9_pushes 7 = .ok (.iconst 2, 1) := by decide +kernel
theorem dX9_pushes_8 : decode cX9_pushes 8 = .ok (.invokevirtual 187, 3) := by decide +kernel
theorem dX9_pushes_11 : decode cX9_pushes 11 = .ok (.istore_n 3, 1) := by decide +kernel
theorem dX9_pushes_12 : decode cX9_pushes 12 = .ok (.aload_n 0, 1) := by decide +kernel
theorem dX9_pushes_13 : decode cX9_pushes 13 = .ok (.getfield 59, 3) := by decide +kernel
theorem dX9_pushes_16 : decode cX9_pushes 16 = .ok (.bipush 8, 2) := by decide +kernel
theorem dX9_pushes_18 : decode cX9_pushes 18 = .ok (.iload_n 2, 1) := by decide +kernel
theorem dX9_pushes_19 : decode cX9_pushes 19 = .ok (.imul, 1) := by decide +kernel
theorem dX9_pushes_20 : decode cX9_pushes 20 = .ok (.iload_n 3, 1) := by decide +kernel
theorem dX9_pushes_21 : decode cX9_pushes 21 = .ok (.iadd, 1) := by decide +kernel
theorem dX9_pushes_22 : decode cX9_pushes 22 = .ok (.laload, 1) := by decide +kernel
theorem dX9_pushes_23 : decode cX9_pushes 23 = .ok (.lstore 4, 2) := by decide +kernel
theorem dX9_pushes_25 : decode cX9_pushes 25 = .ok (.lload 4, 2) := by decide +kernel
theorem dX9_pushes_27 : decode cX9_pushes 27 = .ok (.lconst 0, 1) := by decide +kernel
theorem dX9_pushes_28 : decode cX9_pushes 28 = .ok (.lcmp, 1) := by decide +kernel
theorem dX9_pushes_29 : decode cX9_pushes 29 = .ok (.ifCond .ne 5, 3) := by decide +kernel
theorem dX9_pushes_32 : decode cX9_pushes 32 = .ok (.iconst 5, 1) := by decide +kernel
theorem dX9_pushes_33 : decode cX9_pushes 33 = .ok (.ireturn, 1) := by decide +kernel
theorem dX9_pushes_34 : decode cX9_pushes 34 = .ok (.aload_n 0, 1) := by decide +kernel
theorem dX9_pushes_35 : decode cX9_pushes 35 = .ok (.getfield 63, 3) := by decide +kernel
theorem dX9_pushes_38 : decode cX9_pushes 38 = .ok (.iload_n 2, 1) := by decide +kernel
theorem dX9_pushes_39 : decode cX9_pushes 39 = .ok (.laload, 1) := by decide +kernel
theorem dX9_pushes_40 : decode cX9_pushes 40 = .ok (.lstore 6, 2) := by decide +kernel
theorem dX9_pushes_42 : decode cX9_pushes 42 = .ok (.iconst 0, 1) := by decide +kernel
theorem dX9_pushes_43 : decode cX9_pushes 43 = .ok (.istore 8, 2) := by decide +kernel
theorem dX9_pushes_45 : decode cX9_pushes 45 = .ok (.iload 8, 2) := by decide +kernel
theorem dX9_pushes_47 : decode cX9_pushes 47 = .ok (.aload_n 0, 1) := by decide +kernel
theorem dX9_pushes_48 : decode cX9_pushes 48 = .ok (.getfield 112, 3) := by decide +kernel
theorem dX9_pushes_51 : decode cX9_pushes 51 = .ok (.if_icmp .ge 85, 3) := by decide +kernel
theorem dX9_pushes_54 : decode cX9_pushes 54 = .ok (.aload_n 0, 1) := by decide +kernel
theorem dX9_pushes_55 : decode cX9_pushes 55 = .ok (.getfield 59, 3) := by decide +kernel
theorem dX9_pushes_58 : decode cX9_pushes 58 = .ok (.bipush 8, 2) := by decide +kernel
theorem dX9_pushes_60 : decode cX9_pushes 60 = .ok (.iload_n 2, 1) := by decide +kernel
theorem dX9_pushes_61 : decode cX9_pushes 61 = .ok (.imul, 1) := by decide +kernel
theorem dX9_pushes_62 : decode cX9_pushes 62 = .ok (.iload 8, 2) := by decide +kernel
theorem dX9_pushes_64 : decode cX9_pushes 64 = .ok (.iadd, 1) := by decide +kernel
theorem dX9_pushes_65 : decode cX9_pushes 65 = .ok (.laload, 1) := by decide +kernel
theorem dX9_pushes_66 : decode cX9_pushes 66 = .ok (.lstore 9, 2) := by decide +kernel
theorem dX9_pushes_68 : decode cX9_pushes 68 = .ok (.iload 8, 2) := by decide +kernel
theorem dX9_pushes_70 : decode cX9_pushes 70 = .ok (.iload_n 3, 1) := by decide +kernel
theorem dX9_pushes_71 : decode cX9_pushes 71 = .ok (.if_icmp .eq 59, 3) := by decide +kernel
theorem dX9_pushes_74 : decode cX9_pushes 74 = .ok (.lload 6, 2) := by decide +kernel
theorem dX9_pushes_76 : decode cX9_pushes 76 = .ok (.lload 9, 2) := by decide +kernel
theorem dX9_pushes_78 : decode cX9_pushes 78 = .ok (.aload_n 0, 1) := by decide +kernel
theorem dX9_pushes_79 : decode cX9_pushes 79 = .ok (.getfield 13, 3) := by decide +kernel
theorem dX9_pushes_82 : decode cX9_pushes 82 = .ok (.iload 8, 2) := by decide +kernel
theorem dX9_pushes_84 : decode cX9_pushes 84 = .ok (.iaload, 1) := by decide +kernel
theorem dX9_pushes_85 : decode cX9_pushes 85 = .ok (.i2l, 1) := by decide +kernel
theorem dX9_pushes_86 : decode cX9_pushes 86 = .ok (.lmul, 1) := by decide +kernel
theorem dX9_pushes_87 : decode cX9_pushes 87 = .ok (.lload 9, 2) := by decide +kernel
theorem dX9_pushes_89 : decode cX9_pushes 89 = .ok (.aload_n 0, 1) := by decide +kernel
theorem dX9_pushes_90 : decode cX9_pushes 90 = .ok (.getfield 16, 3) := by decide +kernel
theorem dX9_pushes_93 : decode cX9_pushes 93 = .ok (.iload 8, 2) := by decide +kernel
theorem dX9_pushes_95 : decode cX9_pushes 95 = .ok (.iaload, 1) := by decide +kernel
theorem dX9_pushes_96 : decode cX9_pushes 96 = .ok (.i2l, 1) := by decide +kernel
theorem dX9_pushes_97 : decode cX9_pushes 97 = .ok (.lmul, 1) := by decide +kernel
theorem dX9_pushes_98 : decode cX9_pushes 98 = .ok (.lcmp, 1) := by decide +kernel
theorem dX9_pushes_99 : decode cX9_pushes 99 = .ok (.ifCond .ge 17, 3) := by decide +kernel
theorem dX9_pushes_102 : decode cX9_pushes 102 = .ok (.lload 9, 2) := by decide +kernel
theorem dX9_pushes_104 : decode cX9_pushes 104 = .ok (.aload_n 0, 1) := by decide +kernel
theorem dX9_pushes_105 : decode cX9_pushes 105 = .ok (.getfield 13, 3) := by decide +kernel
theorem dX9_pushes_108 : decode cX9_pushes 108 = .ok (.iload 8, 2) := by decide +kernel
theorem dX9_pushes_110 : decode cX9_pushes 110 = .ok (.iaload, 1) := by decide +kernel
theorem dX9_pushes_111 : decode cX9_pushes 111 = .ok (.i2l, 1) := by decide +kernel
theorem dX9_pushes_112 : decode cX9_pushes 112 = .ok (.lmul, 1) := by decide +kernel
theorem dX9_pushes_113 : decode cX9_pushes 113 = .ok (.goto 14, 3) := by decide +kernel
theorem dX9_pushes_116 : decode cX9_pushes 116 = .ok (.lload 9, 2) := by decide +kernel
theorem dX9_pushes_118 : decode cX9_pushes 118 = .ok (.aload_n 0, 1) := by decide +kernel
theorem dX9_pushes_119 : decode cX9_pushes 119 = .ok (.getfield 16, 3) := by decide +kernel
theorem dX9_pushes_122 : decode cX9_pushes 122 = .ok (.iload 8, 2) := by decide +kernel
theorem dX9_pushes_124 : decode cX9_pushes 124 = .ok (.iaload, 1) := by decide +kernel
theorem dX9_pushes_125 : decode cX9_pushes 125 = .ok (.i2l, 1) := by decide +kernel
theorem dX9_pushes_126 : decode cX9_pushes 126 = .ok (.lmul, 1) := by decide +kernel
theorem dX9_pushes_127 : decode cX9_pushes 127 = .ok (.lsub, 1) := by decide +kernel
theorem dX9_pushes_128 : decode cX9_pushes 128 = .ok (.lstore 6, 2) := by decide +kernel
theorem dX9_pushes_130 : decode cX9_pushes 130 = .ok (.iinc 8 1, 3) := by decide +kernel
theorem dX9_pushes_133 : decode cX9_pushes 133 = .ok (.goto (-88), 3) := by decide +kernel
theorem dX9_pushes_136 : decode cX9_pushes 136 = .ok (.aload_n 0, 1) := by decide +kernel
theorem dX9_pushes_137 : decode cX9_pushes 137 = .ok (.iload_n 1, 1) := by decide +kernel
theorem dX9_pushes_138 : decode cX9_pushes 138 = .ok (.iload_n 3, 1) := by decide +kernel
theorem dX9_pushes_139 : decode cX9_pushes 139 = .ok (.lload 4, 2) := by decide +kernel
theorem dX9_pushes_141 : decode cX9_pushes 141 = .ok (.lconst 0, 1) := by decide +kernel
theorem dX9_pushes_142 : decode cX9_pushes 142 = .ok (.lcmp, 1) := by decide +kernel
theorem dX9_pushes_143 : decode cX9_pushes 143 = .ok (.ifCond .le 7, 3) := by decide +kernel
theorem dX9_pushes_146 : decode cX9_pushes 146 = .ok (.lconst 1, 1) := by decide +kernel
theorem dX9_pushes_147 : decode cX9_pushes 147 = .ok (.goto 6, 3) := by decide +kernel
theorem dX9_pushes_150 : decode cX9_pushes 150 = .ok (.ldc2_w 204, 3) := by decide +kernel
theorem dX9_pushes_153 : decode cX9_pushes 153 = .ok (.invokevirtual 200, 3) := by decide +kernel
theorem dX9_pushes_156 : decode cX9_pushes 156 = .ok (.aload_n 0, 1) := by decide +kernel
theorem dX9_pushes_157 : decode cX9_pushes 157 = .ok (.getfield 63, 3) := by decide +kernel
theorem dX9_pushes_160 : decode cX9_pushes 160 = .ok (.iload_n 1, 1) := by decide +kernel
theorem dX9_pushes_161 : decode cX9_pushes 161 = .ok (.lload 6, 2) := by decide +kernel
theorem dX9_pushes_163 : decode cX9_pushes 163 = .ok (.lload 4, 2) := by decide +kernel
theorem dX9_pushes_165 : decode cX9_pushes 165 = .ok (.lconst 0, 1) := by decide +kernel
theorem dX9_pushes_166 : decode cX9_pushes 166 = .ok (.lcmp, 1) := by decide +kernel
theorem dX9_pushes_167 : decode cX9_pushes 167 = .ok (.ifCond .le 8, 3) := by decide +kernel
theorem dX9_pushes_170 : decode cX9_pushes 170 = .ok (.lload 4, 2) := by decide +kernel
theorem dX9_pushes_172 : decode cX9_pushes 172 = .ok (.goto 6, 3) := by decide +kernel
theorem dX9_pushes_175 : decode cX9_pushes 175 = .ok (.lload 4, 2) := by decide +kernel
theorem dX9_pushes_177 : decode cX9_pushes 177 = .ok (.lneg, 1) := by decide +kernel
theorem dX9_pushes_178 : decode cX9_pushes 178 = .ok (.invokestatic 229, 3) := by decide +kernel
theorem dX9_pushes_181 : decode cX9_pushes 181 = .ok (.lastore, 1) := by decide +kernel
theorem dX9_pushes_182 : decode cX9_pushes 182 = .ok (.aload_n 0, 1) := by decide +kernel
theorem dX9_pushes_183 : decode cX9_pushes 183 = .ok (.iload_n 1, 1) := by decide +kernel
theorem dX9_pushes_184 : decode cX9_pushes 184 = .ok (.iload_n 2, 1) := by decide +kernel
theorem dX9_pushes_185 : decode cX9_pushes 185 = .ok (.iconst (-1), 1) := by decide +kernel
theorem dX9_pushes_186 : decode cX9_pushes 186 = .ok (.invokevirtual 209, 3) := by decide +kernel
theorem dX9_pushes_189 : decode cX9_pushes 189 = .ok (.iconst 0, 1) := by decide +kernel
theorem dX9_pushes_190 : decode cX9_pushes 190 = .ok (.ireturn, 1) := by decide +kernel
theorem dX9_fault_0 : decode cX9_fault 0 = .ok (.aload_n 0, 1) := by decide +kernel
theorem dX9_fault_1 : decode cX9_fault 1 = .ok (.iconst 0, 1) := by decide +kernel
theorem dX9_fault_2 : decode cX9_fault 2 = .ok (.putfield 86, 3) := by decide +kernel
theorem dX9_fault_5 : decode cX9_fault 5 = .ok (.iload_n 1, 1) := by decide +kernel
theorem dX9_fault_6 : decode cX9_fault 6 = .ok (.ifCond .ne 10, 3) := by decide +kernel
theorem dX9_fault_9 : decode cX9_fault 9 = .ok (.aload_n 0, 1) := by decide +kernel
theorem dX9_fault_10 : decode cX9_fault 10 = .ok (.getfield 139, 3) := by decide +kernel
theorem dX9_fault_13 : decode cX9_fault 13 = .ok (.goto 29, 3) := by decide +kernel
theorem dX9_fault_16 : decode cX9_fault 16 = .ok (.iload_n 1, 1) := by decide +kernel
theorem dX9_fault_17 : decode cX9_fault 17 = .ok (.iconst 1, 1) := by decide +kernel
theorem dX9_fault_18 : decode cX9_fault 18 = .ok (.if_icmp .ne 10, 3) := by decide +kernel
theorem dX9_fault_21 : decode cX9_fault 21 = .ok (.aload_n 0, 1) := by decide +kernel
theorem dX9_fault_22 : decode cX9_fault 22 = .ok (.getfield 49, 3) := by decide +kernel
theorem dX9_fault_25 : decode cX9_fault 25 = .ok (.goto 17, 3) := by decide +kernel
theorem dX9_fault_28 : decode cX9_fault 28 = .ok (.iload_n 1, 1) := by decide +kernel
theorem dX9_fault_29 : decode cX9_fault 29 = .ok (.iconst 2, 1) := by decide +kernel
theorem dX9_fault_30 : decode cX9_fault 30 = .ok (.if_icmp .ne 10, 3) := by decide +kernel
theorem dX9_fault_33 : decode cX9_fault 33 = .ok (.aload_n 0, 1) := by decide +kernel
theorem dX9_fault_34 : decode cX9_fault 34 = .ok (.getfield 53, 3) := by decide +kernel
theorem dX9_fault_37 : decode cX9_fault 37 = .ok (.goto 5, 3) := by decide +kernel
theorem dX9_fault_40 : decode cX9_fault 40 = .ok (.bipush (-3), 2) := by decide +kernel
theorem dX9_fault_42 : decode cX9_fault 42 = .ok (.ireturn, 1) := by decide +kernel
theorem dX9_assumptions_0 : decode cX9_assumptions 0 = .ok (.iconst 0, 1) := by decide +kernel
theorem dX9_assumptions_1 : decode cX9_assumptions 1 = .ok (.istore_n 2, 1) := by decide +kernel
theorem dX9_assumptions_2 : decode cX9_assumptions 2 = .ok (.iconst 0, 1) := by decide +kernel
theorem dX9_assumptions_3 : decode cX9_assumptions 3 = .ok (.istore_n 3, 1) := by decide +kernel
theorem dX9_assumptions_4 : decode cX9_assumptions 4 = .ok (.iload_n 3, 1) := by decide +kernel
theorem dX9_assumptions_5 : decode cX9_assumptions 5 = .ok (.iload_n 1, 1) := by decide +kernel
theorem dX9_assumptions_6 : decode cX9_assumptions 6 = .ok (.if_icmp .gt 32, 3) := by decide +kernel
theorem dX9_assumptions_9 : decode cX9_assumptions 9 = .ok (.iload_n 2, 1) := by decide +kernel
theorem dX9_assumptions_10 : decode cX9_assumptions 10 = .ok (.aload_n 0, 1) := by decide +kernel
theorem dX9_assumptions_11 : decode cX9_assumptions 11 = .ok (.getfield 74, 3) := by decide +kernel
theorem dX9_assumptions_14 : decode cX9_assumptions 14 = .ok (.sipush 200, 3) := by decide +kernel
theorem dX9_assumptions_17 : decode cX9_assumptions 17 = .ok (.iload_n 1, 1) := by decide +kernel
theorem dX9_assumptions_18 : decode cX9_assumptions 18 = .ok (.imul, 1) := by decide +kernel
theorem dX9_assumptions_19 : decode cX9_assumptions 19 = .ok (.iload_n 3, 1) := by decide +kernel
theorem dX9_assumptions_20 : decode cX9_assumptions 20 = .ok (.iadd, 1) := by decide +kernel
theorem dX9_assumptions_21 : decode cX9_assumptions 21 = .ok (.baload, 1) := by decide +kernel
theorem dX9_assumptions_22 : decode cX9_assumptions 22 = .ok (.ifCond .eq 7, 3) := by decide +kernel
theorem dX9_assumptions_25 : decode cX9_assumptions 25 = .ok (.iconst 1, 1) := by decide +kernel
theorem dX9_assumptions_26 : decode cX9_assumptions 26 = .ok (.goto 4, 3) := by decide +kernel
theorem dX9_assumptions_29 : decode cX9_assumptions 29 = .ok (.iconst 0, 1) := by decide +kernel
theorem dX9_assumptions_30 : decode cX9_assumptions 30 = .ok (.iadd, 1) := by decide +kernel
theorem dX9_assumptions_31 : decode cX9_assumptions 31 = .ok (.istore_n 2, 1) := by decide +kernel
theorem dX9_assumptions_32 : decode cX9_assumptions 32 = .ok (.iinc 3 1, 3) := by decide +kernel
theorem dX9_assumptions_35 : decode cX9_assumptions 35 = .ok (.goto (-31), 3) := by decide +kernel
theorem dX9_assumptions_38 : decode cX9_assumptions 38 = .ok (.iload_n 2, 1) := by decide +kernel
theorem dX9_assumptions_39 : decode cX9_assumptions 39 = .ok (.ireturn, 1) := by decide +kernel
theorem dX9_need_0 : decode cX9_need 0 = .ok (.iconst 0, 1) := by decide +kernel
theorem dX9_need_1 : decode cX9_need 1 = .ok (.istore_n 2, 1) := by decide +kernel
theorem dX9_need_2 : decode cX9_need 2 = .ok (.iload_n 2, 1) := by decide +kernel
theorem dX9_need_3 : decode cX9_need 3 = .ok (.sipush 200, 3) := by decide +kernel
theorem dX9_need_6 : decode cX9_need 6 = .ok (.if_icmp .ge 25, 3) := by decide +kernel
theorem dX9_need_9 : decode cX9_need 9 = .ok (.aload_n 0, 1) := by decide +kernel
theorem dX9_need_10 : decode cX9_need 10 = .ok (.getfield 77, 3) := by decide +kernel
theorem dX9_need_13 : decode cX9_need 13 = .ok (.iload_n 2, 1) := by decide +kernel
theorem dX9_need_14 : decode cX9_need 14 = .ok (.iload_n 2, 1) := by decide +kernel
theorem dX9_need_15 : decode cX9_need 15 = .ok (.iload_n 1, 1) := by decide +kernel
theorem dX9_need_16 : decode cX9_need 16 = .ok (.if_icmp .ne 7, 3) := by decide +kernel
theorem dX9_need_19 : decode cX9_need 19 = .ok (.iconst 1, 1) := by decide +kernel
theorem dX9_need_20 : decode cX9_need 20 = .ok (.goto 4, 3) := by decide +kernel
theorem dX9_need_23 : decode cX9_need 23 = .ok (.iconst 0, 1) := by decide +kernel
theorem dX9_need_24 : decode cX9_need 24 = .ok (.bastore, 1) := by decide +kernel
theorem dX9_need_25 : decode cX9_need 25 = .ok (.iinc 2 1, 3) := by decide +kernel
theorem dX9_need_28 : decode cX9_need 28 = .ok (.goto (-26), 3) := by decide +kernel
theorem dX9_need_31 : decode cX9_need 31 = .ok (.iconst 0, 1) := by decide +kernel
theorem dX9_need_32 : decode cX9_need 32 = .ok (.istore_n 2, 1) := by decide +kernel
theorem dX9_need_33 : decode cX9_need 33 = .ok (.iload_n 1, 1) := by decide +kernel
theorem dX9_need_34 : decode cX9_need 34 = .ok (.istore_n 3, 1) := by decide +kernel
theorem dX9_need_35 : decode cX9_need 35 = .ok (.iload_n 3, 1) := by decide +kernel
theorem dX9_need_36 : decode cX9_need 36 = .ok (.ifCond .lt 159, 3) := by decide +kernel
theorem dX9_need_39 : decode cX9_need 39 = .ok (.aload_n 0, 1) := by decide +kernel
theorem dX9_need_40 : decode cX9_need 40 = .ok (.getfield 77, 3) := by decide +kernel
theorem dX9_need_43 : decode cX9_need 43 = .ok (.iload_n 3, 1) := by decide +kernel
theorem dX9_need_44 : decode cX9_need 44 = .ok (.baload, 1) := by decide +kernel
theorem dX9_need_45 : decode cX9_need 45 = .ok (.ifCond .eq 144, 3) := by decide +kernel
theorem dX9_need_48 : decode cX9_need 48 = .ok (.iinc 2 1, 3) := by decide +kernel
theorem dX9_need_51 : decode cX9_need 51 = .ok (.aload_n 0, 1) := by decide +kernel
theorem dX9_need_52 : decode cX9_need 52 = .ok (.getfield 56, 3) := by decide +kernel
theorem dX9_need_55 : decode cX9_need 55 = .ok (.iload_n 3, 1) := by decide +kernel
theorem dX9_need_56 : decode cX9_need 56 = .ok (.iaload, 1) := by decide +kernel
theorem dX9_need_57 : decode cX9_need 57 = .ok (.istore 4, 2) := by decide +kernel
theorem dX9_need_59 : decode cX9_need 59 = .ok (.aload_n 0, 1) := by decide +kernel
theorem dX9_need_60 : decode cX9_need 60 = .ok (.getfield 46, 3) := by decide +kernel
theorem dX9_need_63 : decode cX9_need 63 = .ok (.iload 4, 2) := by decide +kernel
theorem dX9_need_65 : decode cX9_need 65 = .ok (.iaload, 1) := by decide +kernel
theorem dX9_need_66 : decode cX9_need 66 = .ok (.istore 5, 2) := by decide +kernel
theorem dX9_need_68 : decode cX9_need 68 = .ok (.iload 5, 2) := by decide +kernel
theorem dX9_need_70 : decode cX9_need 70 = .ok (.iconst 4, 1) := by decide +kernel
theorem dX9_need_71 : decode cX9_need 71 = .ok (.if_icmp .ne 49, 3) := by decide +kernel
theorem dX9_need_74 : decode cX9_need 74 = .ok (.iconst 0, 1) := by decide +kernel
theorem dX9_need_75 : decode cX9_need 75 = .ok (.istore 6, 2) := by decide +kernel
theorem dX9_need_77 : decode cX9_need 77 = .ok (.iload 6, 2) := by decide +kernel
theorem dX9_need_79 : decode cX9_need 79 = .ok (.aload_n 0, 1) := by decide +kernel
theorem dX9_need_80 : decode cX9_need 80 = .ok (.getfield 46, 3) := by decide +kernel
theorem dX9_need_83 : decode cX9_need 83 = .ok (.iload 4, 2) := by decide +kernel
theorem dX9_need_85 : decode cX9_need 85 = .ok (.iconst 1, 1) := by decide +kernel
theorem dX9_need_86 : decode cX9_need 86 = .ok (.iadd, 1) := by decide +kernel
theorem dX9_need_87 : decode cX9_need 87 = .ok (.iaload, 1) := by decide +kernel
theorem dX9_need_88 : decode cX9_need 88 = .ok (.if_icmp .ge 29, 3) := by decide +kernel
theorem dX9_need_91 : decode cX9_need 91 = .ok (.aload_n 0, 1) := by decide +kernel
theorem dX9_need_92 : decode cX9_need 92 = .ok (.getfield 77, 3) := by decide +kernel
theorem dX9_need_95 : decode cX9_need 95 = .ok (.aload_n 0, 1) := by decide +kernel
theorem dX9_need_96 : decode cX9_need 96 = .ok (.getfield 46, 3) := by decide +kernel
theorem dX9_need_99 : decode cX9_need 99 = .ok (.iload 4, 2) := by decide +kernel
theorem dX9_need_101 : decode cX9_need 101 = .ok (.iconst 2, 1) := by decide +kernel
theorem dX9_need_102 : decode cX9_need 102 = .ok (.iadd, 1) := by decide +kernel
theorem dX9_need_103 : decode cX9_need 103 = .ok (.iconst 2, 1) := by decide +kernel
theorem dX9_need_104 : decode cX9_need 104 = .ok (.iload 6, 2) := by decide +kernel
theorem dX9_need_106 : decode cX9_need 106 = .ok (.imul, 1) := by decide +kernel
theorem dX9_need_107 : decode cX9_need 107 = .ok (.iadd, 1) := by decide +kernel
theorem dX9_need_108 : decode cX9_need 108 = .ok (.iaload, 1) := by decide +kernel
theorem dX9_need_109 : decode cX9_need 109 = .ok (.iconst 1, 1) := by decide +kernel
theorem dX9_need_110 : decode cX9_need 110 = .ok (.bastore, 1) := by decide +kernel
theorem dX9_need_111 : decode cX9_need 111 = .ok (.iinc 6 1, 3) := by decide +kernel
theorem dX9_need_114 : decode cX9_need 114 = .ok (.goto (-37), 3) := by decide +kernel
theorem dX9_need_117 : decode cX9_need 117 = .ok (.goto 72, 3) := by decide +kernel
theorem dX9_need_120 : decode cX9_need 120 = .ok (.iload 5, 2) := by decide +kernel
theorem dX9_need_122 : decode cX9_need 122 = .ok (.iconst 5, 1) := by decide +kernel
theorem dX9_need_123 : decode cX9_need 123 = .ok (.if_icmp .eq 10, 3) := by decide +kernel
theorem dX9_need_126 : decode cX9_need 126 = .ok (.iload 5, 2) := by decide +kernel
theorem dX9_need_128 : decode cX9_need 128 = .ok (.bipush 9, 2) := by decide +kernel
theorem dX9_need_130 : decode cX9_need 130 = .ok (.if_icmp .ne 21, 3) := by decide +kernel
theorem dX9_need_133 : decode cX9_need 133 = .ok (.aload_n 0, 1) := by decide +kernel
theorem dX9_need_134 : decode cX9_need 134 = .ok (.getfield 77, 3) := by decide +kernel
theorem dX9_need_137 : decode cX9_need 137 = .ok (.aload_n 0, 1) := by decide +kernel
theorem dX9_need_138 : decode cX9_need 138 = .ok (.getfield 46, 3) := by decide +kernel
theorem dX9_need_141 : decode cX9_need 141 = .ok (.iload 4, 2) := by decide +kernel
theorem dX9_need_143 : decode cX9_need 143 = .ok (.iconst 1, 1) := by decide +kernel
theorem dX9_need_144 : decode cX9_need 144 = .ok (.iadd, 1) := by decide +kernel
theorem dX9_need_145 : decode cX9_need 145 = .ok (.iaload, 1) := by decide +kernel
theorem dX9_need_146 : decode cX9_need 146 = .ok (.iconst 1, 1) := by decide +kernel
theorem dX9_need_147 : decode cX9_need 147 = .ok (.bastore, 1) := by decide +kernel
theorem dX9_need_148 : decode cX9_need 148 = .ok (.goto 41, 3) := by decide +kernel
theorem dX9_need_151 : decode cX9_need 151 = .ok (.iload 5, 2) := by decide +kernel
theorem dX9_need_153 : decode cX9_need 153 = .ok (.bipush 7, 2) := by decide +kernel
theorem dX9_need_155 : decode cX9_need 155 = .ok (.if_icmp .ne 34, 3) := by decide +kernel
theorem dX9_need_158 : decode cX9_need 158 = .ok (.iconst 1, 1) := by decide +kernel
theorem dX9_need_159 : decode cX9_need 159 = .ok (.istore 6, 2) := by decide +kernel
theorem dX9_need_161 : decode cX9_need 161 = .ok (.iload 6, 2) := by decide +kernel
theorem dX9_need_163 : decode cX9_need 163 = .ok (.iconst 4, 1) := by decide +kernel
theorem dX9_need_164 : decode cX9_need 164 = .ok (.if_icmp .gt 25, 3) := by decide +kernel
theorem dX9_need_167 : decode cX9_need 167 = .ok (.aload_n 0, 1) := by decide +kernel
theorem dX9_need_168 : decode cX9_need 168 = .ok (.getfield 77, 3) := by decide +kernel
theorem dX9_need_171 : decode cX9_need 171 = .ok (.aload_n 0, 1) := by decide +kernel
theorem dX9_need_172 : decode cX9_need 172 = .ok (.getfield 46, 3) := by decide +kernel
theorem dX9_need_175 : decode cX9_need 175 = .ok (.iload 4, 2) := by decide +kernel
theorem dX9_need_177 : decode cX9_need 177 = .ok (.iload 6, 2) := by decide +kernel
theorem dX9_need_179 : decode cX9_need 179 = .ok (.iadd, 1) := by decide +kernel
theorem dX9_need_180 : decode cX9_need 180 = .ok (.iaload, 1) := by decide +kernel
theorem dX9_need_181 : decode cX9_need 181 = .ok (.iconst 1, 1) := by decide +kernel
theorem dX9_need_182 : decode cX9_need 182 = .ok (.bastore, 1) := by decide +kernel
theorem dX9_need_183 : decode cX9_need 183 = .ok (.iinc 6 1, 3) := by decide +kernel
theorem dX9_need_186 : decode cX9_need 186 = .ok (.goto (-25), 3) := by decide +kernel
theorem dX9_need_189 : decode cX9_need 189 = .ok (.iinc 3 (-1), 3) := by decide +kernel
theorem dX9_need_192 : decode cX9_need 192 = .ok (.goto (-157), 3) := by decide +kernel
theorem dX9_need_195 : decode cX9_need 195 = .ok (.iload_n 2, 1) := by decide +kernel
theorem dX9_need_196 : decode cX9_need 196 = .ok (.ireturn, 1) := by decide +kernel
theorem dX9_row__0 : decode cX9_row_ 0 = .ok (.aload_n 0, 1) := by decide +kernel
theorem dX9_row__1 : decode cX9_row_ 1 = .ok (.iload_n 1, 1) := by decide +kernel
theorem dX9_row__2 : decode cX9_row_ 2 = .ok (.iconst 0, 1) := by decide +kernel
theorem dX9_row__3 : decode cX9_row_ 3 = .ok (.aload_n 0, 1) := by decide +kernel
theorem dX9_row__4 : decode cX9_row_ 4 = .ok (.getfield 145, 3) := by decide +kernel
theorem dX9_row__7 : decode cX9_row_ 7 = .ok (.iconst 1, 1) := by decide +kernel
theorem dX9_row__8 : decode cX9_row_ 8 = .ok (.isub, 1) := by decide +kernel
theorem dX9_row__9 : decode cX9_row_ 9 = .ok (.invokestatic 89, 3) := by decide +kernel
theorem dX9_row__12 : decode cX9_row_ 12 = .ok (.ifCond .eq 28, 3) := by decide +kernel
theorem dX9_row__15 : decode cX9_row_ 15 = .ok (.iload_n 2, 1) := by decide +kernel
theorem dX9_row__16 : decode cX9_row_ 16 = .ok (.iconst 0, 1) := by decide +kernel
theorem dX9_row__17 : decode cX9_row_ 17 = .ok (.aload_n 0, 1) := by decide +kernel
theorem dX9_row__18 : decode cX9_row_ 18 = .ok (.getfield 112, 3) := by decide +kernel
theorem dX9_row__21 : decode cX9_row_ 21 = .ok (.iconst 1, 1) := by decide +kernel
theorem dX9_row__22 : decode cX9_row_ 22 = .ok (.isub, 1) := by decide +kernel
theorem dX9_row__23 : decode cX9_row_ 23 = .ok (.invokestatic 89, 3) := by decide +kernel
theorem dX9_row__26 : decode cX9_row_ 26 = .ok (.ifCond .ne 18, 3) := by decide +kernel
theorem dX9_row__29 : decode cX9_row_ 29 = .ok (.iload_n 2, 1) := by decide +kernel
theorem dX9_row__30 : decode cX9_row_ 30 = .ok (.bipush 8, 2) := by decide +kernel
theorem dX9_row__32 : decode cX9_row_ 32 = .ok (.bipush 13, 2) := by decide +kernel
theorem dX9_row__34 : decode cX9_row_ 34 = .ok (.invokestatic 89, 3) := by decide +kernel
theorem dX9_row__37 : decode cX9_row_ 37 = .ok (.ifCond .ne 7, 3) := by decide +kernel
theorem dX9_row__40 : decode cX9_row_ 40 = .ok (.iconst 1, 1) := by decide +kernel
theorem dX9_row__41 : decode cX9_row_ 41 = .ok (.goto 4, 3) := by decide +kernel
theorem dX9_row__44 : decode cX9_row_ 44 = .ok (.iconst 0, 1) := by decide +kernel
theorem dX9_row__45 : decode cX9_row_ 45 = .ok (.invokevirtual 157, 3) := by decide +kernel
theorem dX9_row__48 : decode cX9_row_ 48 = .ok (.ifCond .eq 5, 3) := by decide +kernel
theorem dX9_row__51 : decode cX9_row_ 51 = .ok (.lconst 0, 1) := by decide +kernel
theorem dX9_row__52 : decode cX9_row_ 52 = .ok (.lreturn, 1) := by decide +kernel
theorem dX9_row__53 : decode cX9_row_ 53 = .ok (.iload_n 2, 1) := by decide +kernel
theorem dX9_row__54 : decode cX9_row_ 54 = .ok (.tableswitch 101 8 13 #[38, 45, 52, 67, 87, 94], 38) := by decide +kernel
theorem dX9_row__92 : decode cX9_row_ 92 = .ok (.aload_n 0, 1) := by decide +kernel
theorem dX9_row__93 : decode cX9_row_ 93 = .ok (.getfield 63, 3) := by decide +kernel
theorem dX9_row__96 : decode cX9_row_ 96 = .ok (.iload_n 1, 1) := by decide +kernel
theorem dX9_row__97 : decode cX9_row_ 97 = .ok (.laload, 1) := by decide +kernel
theorem dX9_row__98 : decode cX9_row_ 98 = .ok (.lreturn, 1) := by decide +kernel
theorem dX9_row__99 : decode cX9_row_ 99 = .ok (.aload_n 0, 1) := by decide +kernel
theorem dX9_row__100 : decode cX9_row_ 100 = .ok (.iload_n 1, 1) := by decide +kernel
theorem dX9_row__101 : decode cX9_row_ 101 = .ok (.invokevirtual 239, 3) := by decide +kernel
theorem dX9_row__104 : decode cX9_row_ 104 = .ok (.i2l, 1) := by decide +kernel
theorem dX9_row__105 : decode cX9_row_ 105 = .ok (.lreturn, 1) := by decide +kernel
theorem dX9_row__106 : decode cX9_row_ 106 = .ok (.aload_n 0, 1) := by decide +kernel
theorem dX9_row__107 : decode cX9_row_ 107 = .ok (.getfield 66, 3) := by decide +kernel
theorem dX9_row__110 : decode cX9_row_ 110 = .ok (.iload_n 1, 1) := by decide +kernel
theorem dX9_row__111 : decode cX9_row_ 111 = .ok (.baload, 1) := by decide +kernel
theorem dX9_row__112 : decode cX9_row_ 112 = .ok (.ifCond .eq 7, 3) := by decide +kernel
theorem dX9_row__115 : decode cX9_row_ 115 = .ok (.lconst 1, 1) := by decide +kernel
theorem dX9_row__116 : decode cX9_row_ 116 = .ok (.goto 4, 3) := by decide +kernel
theorem dX9_row__119 : decode cX9_row_ 119 = .ok (.lconst 0, 1) := by decide +kernel
theorem dX9_row__120 : decode cX9_row_ 120 = .ok (.lreturn, 1) := by decide +kernel
theorem dX9_row__121 : decode cX9_row_ 121 = .ok (.aload_n 0, 1) := by decide +kernel
theorem dX9_row__122 : decode cX9_row_ 122 = .ok (.getfield 66, 3) := by decide +kernel
theorem dX9_row__125 : decode cX9_row_ 125 = .ok (.iload_n 1, 1) := by decide +kernel
theorem dX9_row__126 : decode cX9_row_ 126 = .ok (.baload, 1) := by decide +kernel
theorem dX9_row__127 : decode cX9_row_ 127 = .ok (.ifCond .eq 12, 3) := by decide +kernel
theorem dX9_row__130 : decode cX9_row_ 130 = .ok (.aload_n 0, 1) := by decide +kernel
theorem dX9_row__131 : decode cX9_row_ 131 = .ok (.getfield 70, 3) := by decide +kernel
theorem dX9_row__134 : decode cX9_row_ 134 = .ok (.iload_n 1, 1) := by decide +kernel
theorem dX9_row__135 : decode cX9_row_ 135 = .ok (.laload, 1) := by decide +kernel
theorem dX9_row__136 : decode cX9_row_ 136 = .ok (.goto 4, 3) := by decide +kernel
theorem dX9_row__139 : decode cX9_row_ 139 = .ok (.lconst 0, 1) := by decide +kernel
theorem dX9_row__140 : decode cX9_row_ 140 = .ok (.lreturn, 1) := by decide +kernel
theorem dX9_row__141 : decode cX9_row_ 141 = .ok (.aload_n 0, 1) := by decide +kernel
theorem dX9_row__142 : decode cX9_row_ 142 = .ok (.iload_n 1, 1) := by decide +kernel
theorem dX9_row__143 : decode cX9_row_ 143 = .ok (.invokevirtual 233, 3) := by decide +kernel
theorem dX9_row__146 : decode cX9_row_ 146 = .ok (.i2l, 1) := by decide +kernel
theorem dX9_row__147 : decode cX9_row_ 147 = .ok (.lreturn, 1) := by decide +kernel
theorem dX9_row__148 : decode cX9_row_ 148 = .ok (.aload_n 0, 1) := by decide +kernel
theorem dX9_row__149 : decode cX9_row_ 149 = .ok (.iload_n 1, 1) := by decide +kernel
theorem dX9_row__150 : decode cX9_row_ 150 = .ok (.invokevirtual 242, 3) := by decide +kernel
theorem dX9_row__153 : decode cX9_row_ 153 = .ok (.i2l, 1) := by decide +kernel
theorem dX9_row__154 : decode cX9_row_ 154 = .ok (.lreturn, 1) := by decide +kernel
theorem dX9_row__155 : decode cX9_row_ 155 = .ok (.aload_n 0, 1) := by decide +kernel
theorem dX9_row__156 : decode cX9_row_ 156 = .ok (.getfield 59, 3) := by decide +kernel
theorem dX9_row__159 : decode cX9_row_ 159 = .ok (.bipush 8, 2) := by decide +kernel
theorem dX9_row__161 : decode cX9_row_ 161 = .ok (.iload_n 1, 1) := by decide +kernel
theorem dX9_row__162 : decode cX9_row_ 162 = .ok (.imul, 1) := by decide +kernel
theorem dX9_row__163 : decode cX9_row_ 163 = .ok (.iload_n 2, 1) := by decide +kernel
theorem dX9_row__164 : decode cX9_row_ 164 = .ok (.iadd, 1) := by decide +kernel
theorem dX9_row__165 : decode cX9_row_ 165 = .ok (.laload, 1) := by decide +kernel
theorem dX9_row__166 : decode cX9_row_ 166 = .ok (.lreturn, 1) := by decide +kernel
theorem dX9_assumes__0 : decode cX9_assumes_ 0 = .ok (.aload_n 0, 1) := by decide +kernel
theorem dX9_assumes__1 : decode cX9_assumes_ 1 = .ok (.iload_n 1, 1) := by decide +kernel
theorem dX9_assumes__2 : decode cX9_assumes_ 2 = .ok (.iconst 0, 1) := by decide +kernel
theorem dX9_assumes__3 : decode cX9_assumes_ 3 = .ok (.aload_n 0, 1) := by decide +kernel
theorem dX9_assumes__4 : decode cX9_assumes_ 4 = .ok (.getfield 145, 3) := by decide +kernel
theorem dX9_assumes__7 : decode cX9_assumes_ 7 = .ok (.iconst 1, 1) := by decide +kernel
theorem dX9_assumes__8 : decode cX9_assumes_ 8 = .ok (.isub, 1) := by decide +kernel
theorem dX9_assumes__9 : decode cX9_assumes_ 9 = .ok (.invokestatic 89, 3) := by decide +kernel
theorem dX9_assumes__12 : decode cX9_assumes_ 12 = .ok (.ifCond .ne 7, 3) := by decide +kernel
theorem dX9_assumes__15 : decode cX9_assumes_ 15 = .ok (.iconst 1, 1) := by decide +kernel
theorem dX9_assumes__16 : decode cX9_assumes_ 16 = .ok (.goto 4, 3) := by decide +kernel
theorem dX9_assumes__19 : decode cX9_assumes_ 19 = .ok (.iconst 0, 1) := by decide +kernel
theorem dX9_assumes__20 : decode cX9_assumes_ 20 = .ok (.invokevirtual 157, 3) := by decide +kernel
theorem dX9_assumes__23 : decode cX9_assumes_ 23 = .ok (.ifCond .eq 5, 3) := by decide +kernel
theorem dX9_assumes__26 : decode cX9_assumes_ 26 = .ok (.iconst 0, 1) := by decide +kernel
theorem dX9_assumes__27 : decode cX9_assumes_ 27 = .ok (.ireturn, 1) := by decide +kernel
theorem dX9_assumes__28 : decode cX9_assumes_ 28 = .ok (.iconst 0, 1) := by decide +kernel
theorem dX9_assumes__29 : decode cX9_assumes_ 29 = .ok (.istore_n 3, 1) := by decide +kernel
theorem dX9_assumes__30 : decode cX9_assumes_ 30 = .ok (.iconst 0, 1) := by decide +kernel
theorem dX9_assumes__31 : decode cX9_assumes_ 31 = .ok (.istore 4, 2) := by decide +kernel
theorem dX9_assumes__33 : decode cX9_assumes_ 33 = .ok (.iload 4, 2) := by decide +kernel
theorem dX9_assumes__35 : decode cX9_assumes_ 35 = .ok (.iload_n 1, 1) := by decide +kernel
theorem dX9_assumes__36 : decode cX9_assumes_ 36 = .ok (.if_icmp .gt 36, 3) := by decide +kernel
theorem dX9_assumes__39 : decode cX9_assumes_ 39 = .ok (.aload_n 0, 1) := by decide +kernel
theorem dX9_assumes__40 : decode cX9_assumes_ 40 = .ok (.getfield 74, 3) := by decide +kernel
theorem dX9_assumes__43 : decode cX9_assumes_ 43 = .ok (.sipush 200, 3) := by decide +kernel
theorem dX9_assumes__46 : decode cX9_assumes_ 46 = .ok (.iload_n 1, 1) := by decide +kernel
theorem dX9_assumes__47 : decode cX9_assumes_ 47 = .ok (.imul, 1) := by decide +kernel
theorem dX9_assumes__48 : decode cX9_assumes_ 48 = .ok (.iload 4, 2) := by decide +kernel
theorem dX9_assumes__50 : decode cX9_assumes_ 50 = .ok (.iadd, 1) := by decide +kernel
theorem dX9_assumes__51 : decode cX9_assumes_ 51 = .ok (.baload, 1) := by decide +kernel
theorem dX9_assumes__52 : decode cX9_assumes_ 52 = .ok (.ifCond .eq 14, 3) := by decide +kernel
theorem dX9_assumes__55 : decode cX9_assumes_ 55 = .ok (.iload_n 3, 1) := by decide +kernel
theorem dX9_assumes__56 : decode cX9_assumes_ 56 = .ok (.iload_n 2, 1) := by decide +kernel
theorem dX9_assumes__57 : decode cX9_assumes_ 57 = .ok (.if_icmp .ne 6, 3) := by decide +kernel
theorem dX9_assumes__60 : decode cX9_assumes_ 60 = .ok (.iload 4, 2) := by decide +kernel
theorem dX9_assumes__62 : decode cX9_assumes_ 62 = .ok (.ireturn, 1) := by decide +kernel
theorem dX9_assumes__63 : decode cX9_assumes_ 63 = .ok (.iinc 3 1, 3) := by decide +kernel
theorem dX9_assumes__66 : decode cX9_assumes_ 66 = .ok (.iinc 4 1, 3) := by decide +kernel
theorem dX9_assumes__69 : decode cX9_assumes_ 69 = .ok (.goto (-36), 3) := by decide +kernel
theorem dX9_assumes__72 : decode cX9_assumes_ 72 = .ok (.iconst (-1), 1) := by decide +kernel
theorem dX9_assumes__73 : decode cX9_assumes_ 73 = .ok (.ireturn, 1) := by decide +kernel
theorem dX9_sum_0 : decode cX9_sum 0 = .ok (.lconst 0, 1) := by decide +kernel
theorem dX9_sum_1 : decode cX9_sum 1 = .ok (.lstore_n 3, 1) := by decide +kernel
theorem dX9_sum_2 : decode cX9_sum 2 = .ok (.iconst 0, 1) := by decide +kernel
theorem dX9_sum_3 : decode cX9_sum 3 = .ok (.istore 5, 2) := by decide +kernel
theorem dX9_sum_5 : decode cX9_sum 5 = .ok (.iload 5, 2) := by decide +kernel
theorem dX9_sum_7 : decode cX9_sum 7 = .ok (.aload_n 0, 1) := by decide +kernel
theorem dX9_sum_8 : decode cX9_sum 8 = .ok (.getfield 112, 3) := by decide +kernel
theorem dX9_sum_11 : decode cX9_sum 11 = .ok (.if_icmp .ge 38, 3) := by decide +kernel
theorem dX9_sum_14 : decode cX9_sum 14 = .ok (.lload_n 3, 1) := by decide +kernel
theorem dX9_sum_15 : decode cX9_sum 15 = .ok (.aload_n 0, 1) := by decide +kernel
theorem dX9_sum_16 : decode cX9_sum 16 = .ok (.getfield 59, 3) := by decide +kernel
theorem dX9_sum_19 : decode cX9_sum 19 = .ok (.bipush 8, 2) := by decide +kernel
theorem dX9_sum_21 : decode cX9_sum 21 = .ok (.iload_n 1, 1) := by decide +kernel
theorem dX9_sum_22 : decode cX9_sum 22 = .ok (.imul, 1) := by decide +kernel
theorem dX9_sum_23 : decode cX9_sum 23 = .ok (.iload 5, 2) := by decide +kernel
theorem dX9_sum_25 : decode cX9_sum 25 = .ok (.iadd, 1) := by decide +kernel
theorem dX9_sum_26 : decode cX9_sum 26 = .ok (.laload, 1) := by decide +kernel
theorem dX9_sum_27 : decode cX9_sum 27 = .ok (.aload_n 0, 1) := by decide +kernel
theorem dX9_sum_28 : decode cX9_sum 28 = .ok (.getfield 43, 3) := by decide +kernel
theorem dX9_sum_31 : decode cX9_sum 31 = .ok (.bipush 8, 2) := by decide +kernel
theorem dX9_sum_33 : decode cX9_sum 33 = .ok (.iload_n 2, 1) := by decide +kernel
theorem dX9_sum_34 : decode cX9_sum 34 = .ok (.imul, 1) := by decide +kernel
theorem dX9_sum_35 : decode cX9_sum 35 = .ok (.iload 5, 2) := by decide +kernel
theorem dX9_sum_37 : decode cX9_sum 37 = .ok (.iadd, 1) := by decide +kernel
theorem dX9_sum_38 : decode cX9_sum 38 = .ok (.iaload, 1) := by decide +kernel
theorem dX9_sum_39 : decode cX9_sum 39 = .ok (.i2l, 1) := by decide +kernel
theorem dX9_sum_40 : decode cX9_sum 40 = .ok (.lmul, 1) := by decide +kernel
theorem dX9_sum_41 : decode cX9_sum 41 = .ok (.ladd, 1) := by decide +kernel
theorem dX9_sum_42 : decode cX9_sum 42 = .ok (.lstore_n 3, 1) := by decide +kernel
theorem dX9_sum_43 : decode cX9_sum 43 = .ok (.iinc 5 1, 3) := by decide +kernel
theorem dX9_sum_46 : decode cX9_sum 46 = .ok (.goto (-41), 3) := by decide +kernel
theorem dX9_sum_49 : decode cX9_sum 49 = .ok (.lload_n 3, 1) := by decide +kernel
theorem dX9_sum_50 : decode cX9_sum 50 = .ok (.lreturn, 1) := by decide +kernel
theorem dX9_holds_0 : decode cX9_holds 0 = .ok (.aload_n 0, 1) := by decide +kernel
theorem dX9_holds_1 : decode cX9_holds 1 = .ok (.iload_n 1, 1) := by decide +kernel
theorem dX9_holds_2 : decode cX9_holds 2 = .ok (.iconst 0, 1) := by decide +kernel
theorem dX9_holds_3 : decode cX9_holds 3 = .ok (.aload_n 0, 1) := by decide +kernel
theorem dX9_holds_4 : decode cX9_holds 4 = .ok (.getfield 145, 3) := by decide +kernel
theorem dX9_holds_7 : decode cX9_holds 7 = .ok (.iconst 1, 1) := by decide +kernel
theorem dX9_holds_8 : decode cX9_holds 8 = .ok (.isub, 1) := by decide +kernel
theorem dX9_holds_9 : decode cX9_holds 9 = .ok (.invokestatic 89, 3) := by decide +kernel
theorem dX9_holds_12 : decode cX9_holds 12 = .ok (.ifCond .eq 17, 3) := by decide +kernel
theorem dX9_holds_15 : decode cX9_holds 15 = .ok (.iload_n 2, 1) := by decide +kernel
theorem dX9_holds_16 : decode cX9_holds 16 = .ok (.iconst 0, 1) := by decide +kernel
theorem dX9_holds_17 : decode cX9_holds 17 = .ok (.aload_n 0, 1) := by decide +kernel
theorem dX9_holds_18 : decode cX9_holds 18 = .ok (.getfield 127, 3) := by decide +kernel
theorem dX9_holds_21 : decode cX9_holds 21 = .ok (.iconst 1, 1) := by decide +kernel
theorem dX9_holds_22 : decode cX9_holds 22 = .ok (.isub, 1) := by decide +kernel
theorem dX9_holds_23 : decode cX9_holds 23 = .ok (.invokestatic 89, 3) := by decide +kernel
theorem dX9_holds_26 : decode cX9_holds 26 = .ok (.ifCond .ne 7, 3) := by decide +kernel
theorem dX9_holds_29 : decode cX9_holds 29 = .ok (.iconst 1, 1) := by decide +kernel
theorem dX9_holds_30 : decode cX9_holds 30 = .ok (.goto 4, 3) := by decide +kernel
theorem dX9_holds_33 : decode cX9_holds 33 = .ok (.iconst 0, 1) := by decide +kernel
theorem dX9_holds_34 : decode cX9_holds 34 = .ok (.invokevirtual 157, 3) := by decide +kernel
theorem dX9_holds_37 : decode cX9_holds 37 = .ok (.ifCond .eq 5, 3) := by decide +kernel
theorem dX9_holds_40 : decode cX9_holds 40 = .ok (.iconst 0, 1) := by decide +kernel
theorem dX9_holds_41 : decode cX9_holds 41 = .ok (.ireturn, 1) := by decide +kernel
theorem dX9_holds_42 : decode cX9_holds 42 = .ok (.aload_n 0, 1) := by decide +kernel
theorem dX9_holds_43 : decode cX9_holds 43 = .ok (.getfield 66, 3) := by decide +kernel
theorem dX9_holds_46 : decode cX9_holds 46 = .ok (.iload_n 1, 1) := by decide +kernel
theorem dX9_holds_47 : decode cX9_holds 47 = .ok (.baload, 1) := by decide +kernel
theorem dX9_holds_48 : decode cX9_holds 48 = .ok (.ifCond .eq 18, 3) := by decide +kernel
theorem dX9_holds_51 : decode cX9_holds 51 = .ok (.aload_n 0, 1) := by decide +kernel
theorem dX9_holds_52 : decode cX9_holds 52 = .ok (.iload_n 2, 1) := by decide +kernel
theorem dX9_holds_53 : decode cX9_holds 53 = .ok (.invokevirtual 161, 3) := by decide +kernel
theorem dX9_holds_56 : decode cX9_holds 56 = .ok (.aload_n 0, 1) := by decide +kernel
theorem dX9_holds_57 : decode cX9_holds 57 = .ok (.getfield 70, 3) := by decide +kernel
theorem dX9_holds_60 : decode cX9_holds 60 = .ok (.iload_n 1, 1) := by decide +kernel
theorem dX9_holds_61 : decode cX9_holds 61 = .ok (.laload, 1) := by decide +kernel
theorem dX9_holds_62 : decode cX9_holds 62 = .ok (.lcmp, 1) := by decide +kernel
theorem dX9_holds_63 : decode cX9_holds 63 = .ok (.ifCond .ge 7, 3) := by decide +kernel
theorem dX9_holds_66 : decode cX9_holds 66 = .ok (.iconst 1, 1) := by decide +kernel
theorem dX9_holds_67 : decode cX9_holds 67 = .ok (.goto 4, 3) := by decide +kernel
theorem dX9_holds_70 : decode cX9_holds 70 = .ok (.iconst 0, 1) := by decide +kernel
theorem dX9_holds_71 : decode cX9_holds 71 = .ok (.istore_n 3, 1) := by decide +kernel
theorem dX9_holds_72 : decode cX9_holds 72 = .ok (.iconst 0, 1) := by decide +kernel
theorem dX9_holds_73 : decode cX9_holds 73 = .ok (.istore 4, 2) := by decide +kernel
theorem dX9_holds_75 : decode cX9_holds 75 = .ok (.iload 4, 2) := by decide +kernel
theorem dX9_holds_77 : decode cX9_holds 77 = .ok (.iload_n 1, 1) := by decide +kernel
theorem dX9_holds_78 : decode cX9_holds 78 = .ok (.if_icmp .gt 53, 3) := by decide +kernel
theorem dX9_holds_81 : decode cX9_holds 81 = .ok (.iload_n 3, 1) := by decide +kernel
theorem dX9_holds_82 : decode cX9_holds 82 = .ok (.ifCond .eq 41, 3) := by decide +kernel
theorem dX9_holds_85 : decode cX9_holds 85 = .ok (.aload_n 0, 1) := by decide +kernel
theorem dX9_holds_86 : decode cX9_holds 86 = .ok (.getfield 74, 3) := by decide +kernel
theorem dX9_holds_89 : decode cX9_holds 89 = .ok (.sipush 200, 3) := by decide +kernel
theorem dX9_holds_92 : decode cX9_holds 92 = .ok (.iload_n 1, 1) := by decide +kernel
theorem dX9_holds_93 : decode cX9_holds 93 = .ok (.imul, 1) := by decide +kernel
theorem dX9_holds_94 : decode cX9_holds 94 = .ok (.iload 4, 2) := by decide +kernel
theorem dX9_holds_96 : decode cX9_holds 96 = .ok (.iadd, 1) := by decide +kernel
theorem dX9_holds_97 : decode cX9_holds 97 = .ok (.baload, 1) := by decide +kernel
theorem dX9_holds_98 : decode cX9_holds 98 = .ok (.ifCond .eq 21, 3) := by decide +kernel
theorem dX9_holds_101 : decode cX9_holds 101 = .ok (.aload_n 0, 1) := by decide +kernel
theorem dX9_holds_102 : decode cX9_holds 102 = .ok (.iload 4, 2) := by decide +kernel
theorem dX9_holds_104 : decode cX9_holds 104 = .ok (.iload_n 2, 1) := by decide +kernel
theorem dX9_holds_105 : decode cX9_holds 105 = .ok (.invokevirtual 245, 3) := by decide +kernel
theorem dX9_holds_108 : decode cX9_holds 108 = .ok (.aload_n 0, 1) := by decide +kernel
theorem dX9_holds_109 : decode cX9_holds 109 = .ok (.getfield 63, 3) := by decide +kernel
theorem dX9_holds_112 : decode cX9_holds 112 = .ok (.iload 4, 2) := by decide +kernel
theorem dX9_holds_114 : decode cX9_holds 114 = .ok (.laload, 1) := by decide +kernel
theorem dX9_holds_115 : decode cX9_holds 115 = .ok (.lcmp, 1) := by decide +kernel
theorem dX9_holds_116 : decode cX9_holds 116 = .ok (.ifCond .gt 7, 3) := by decide +kernel
theorem dX9_holds_119 : decode cX9_holds 119 = .ok (.iconst 1, 1) := by decide +kernel
theorem dX9_holds_120 : decode cX9_holds 120 = .ok (.goto 4, 3) := by decide +kernel
theorem dX9_holds_123 : decode cX9_holds 123 = .ok (.iconst 0, 1) := by decide +kernel
theorem dX9_holds_124 : decode cX9_holds 124 = .ok (.istore_n 3, 1) := by decide +kernel
theorem dX9_holds_125 : decode cX9_holds 125 = .ok (.iinc 4 1, 3) := by decide +kernel
theorem dX9_holds_128 : decode cX9_holds 128 = .ok (.goto (-53), 3) := by decide +kernel
theorem dX9_holds_131 : decode cX9_holds 131 = .ok (.iload_n 3, 1) := by decide +kernel
theorem dX9_holds_132 : decode cX9_holds 132 = .ok (.ifCond .ne 7, 3) := by decide +kernel
theorem dX9_holds_135 : decode cX9_holds 135 = .ok (.iconst 2, 1) := by decide +kernel
theorem dX9_holds_136 : decode cX9_holds 136 = .ok (.goto 24, 3) := by decide +kernel
theorem dX9_holds_139 : decode cX9_holds 139 = .ok (.aload_n 0, 1) := by decide +kernel
theorem dX9_holds_140 : decode cX9_holds 140 = .ok (.iload_n 1, 1) := by decide +kernel
theorem dX9_holds_141 : decode cX9_holds 141 = .ok (.iload_n 2, 1) := by decide +kernel
theorem dX9_holds_142 : decode cX9_holds 142 = .ok (.invokevirtual 245, 3) := by decide +kernel
theorem dX9_holds_145 : decode cX9_holds 145 = .ok (.aload_n 0, 1) := by decide +kernel
theorem dX9_holds_146 : decode cX9_holds 146 = .ok (.getfield 63, 3) := by decide +kernel
theorem dX9_holds_149 : decode cX9_holds 149 = .ok (.iload_n 1, 1) := by decide +kernel
theorem dX9_holds_150 : decode cX9_holds 150 = .ok (.laload, 1) := by decide +kernel
theorem dX9_holds_151 : decode cX9_holds 151 = .ok (.lcmp, 1) := by decide +kernel
theorem dX9_holds_152 : decode cX9_holds 152 = .ok (.ifCond .gt 7, 3) := by decide +kernel
theorem dX9_holds_155 : decode cX9_holds 155 = .ok (.iconst 1, 1) := by decide +kernel
theorem dX9_holds_156 : decode cX9_holds 156 = .ok (.goto 4, 3) := by decide +kernel
theorem dX9_holds_159 : decode cX9_holds 159 = .ok (.iconst 0, 1) := by decide +kernel
theorem dX9_holds_160 : decode cX9_holds 160 = .ok (.ireturn, 1) := by decide +kernel
theorem dX9_proof_0 : decode cX9_proof 0 = .ok (.iconst 0, 1) := by decide +kernel
theorem dX9_proof_1 : decode cX9_proof 1 = .ok (.istore_n 2, 1) := by decide +kernel
theorem dX9_proof_2 : decode cX9_proof 2 = .ok (.iload_n 2, 1) := by decide +kernel
theorem dX9_proof_3 : decode cX9_proof 3 = .ok (.aload_n 0, 1) := by decide +kernel
theorem dX9_proof_4 : decode cX9_proof 4 = .ok (.getfield 145, 3) := by decide +kernel
theorem dX9_proof_7 : decode cX9_proof 7 = .ok (.if_icmp .ge 37, 3) := by decide +kernel
theorem dX9_proof_10 : decode cX9_proof 10 = .ok (.aload_n 0, 1) := by decide +kernel
theorem dX9_proof_11 : decode cX9_proof 11 = .ok (.iload_n 2, 1) := by decide +kernel
theorem dX9_proof_12 : decode cX9_proof 12 = .ok (.invokevirtual 236, 3) := by decide +kernel
theorem dX9_proof_15 : decode cX9_proof 15 = .ok (.ifCond .eq 23, 3) := by decide +kernel
theorem dX9_proof_18 : decode cX9_proof 18 = .ok (.aload_n 0, 1) := by decide +kernel
theorem dX9_proof_19 : decode cX9_proof 19 = .ok (.iload_n 2, 1) := by decide +kernel
theorem dX9_proof_20 : decode cX9_proof 20 = .ok (.invokevirtual 239, 3) := by decide +kernel
theorem dX9_proof_23 : decode cX9_proof 23 = .ok (.ifCond .ne 15, 3) := by decide +kernel
theorem dX9_proof_26 : decode cX9_proof 26 = .ok (.aload_n 0, 1) := by decide +kernel
theorem dX9_proof_27 : decode cX9_proof 27 = .ok (.getfield 66, 3) := by decide +kernel
theorem dX9_proof_30 : decode cX9_proof 30 = .ok (.iload_n 2, 1) := by decide +kernel
theorem dX9_proof_31 : decode cX9_proof 31 = .ok (.baload, 1) := by decide +kernel
theorem dX9_proof_32 : decode cX9_proof 32 = .ok (.iload_n 1, 1) := by decide +kernel
theorem dX9_proof_33 : decode cX9_proof 33 = .ok (.if_icmp .ne 5, 3) := by decide +kernel
theorem dX9_proof_36 : decode cX9_proof 36 = .ok (.iload_n 2, 1) := by decide +kernel
theorem dX9_proof_37 : decode cX9_proof 37 = .ok (.ireturn, 1) := by decide +kernel
theorem dX9_proof_38 : decode cX9_proof 38 = .ok (.iinc 2 1, 3) := by decide +kernel
theorem dX9_proof_41 : decode cX9_proof 41 = .ok (.goto (-39), 3) := by decide +kernel
theorem dX9_proof_44 : decode cX9_proof 44 = .ok (.iconst (-1), 1) := by decide +kernel
theorem dX9_proof_45 : decode cX9_proof 45 = .ok (.ireturn, 1) := by decide +kernel
theorem dX9_proved_0 : decode cX9_proved 0 = .ok (.aload_n 0, 1) := by decide +kernel
theorem dX9_proved_1 : decode cX9_proved 1 = .ok (.iconst 0, 1) := by decide +kernel
theorem dX9_proved_2 : decode cX9_proved 2 = .ok (.putfield 86, 3) := by decide +kernel
theorem dX9_proved_5 : decode cX9_proved 5 = .ok (.aload_n 0, 1) := by decide +kernel
theorem dX9_proved_6 : decode cX9_proved 6 = .ok (.iconst 0, 1) := by decide +kernel
theorem dX9_proved_7 : decode cX9_proved 7 = .ok (.invokevirtual 249, 3) := by decide +kernel
theorem dX9_proved_10 : decode cX9_proved 10 = .ok (.iconst (-1), 1) := by decide +kernel
theorem dX9_proved_11 : decode cX9_proved 11 = .ok (.if_icmp .eq 7, 3) := by decide +kernel
theorem dX9_proved_14 : decode cX9_proved 14 = .ok (.iconst 1, 1) := by decide +kernel
theorem dX9_proved_15 : decode cX9_proved 15 = .ok (.goto 17, 3) := by decide +kernel
theorem dX9_proved_18 : decode cX9_proved 18 = .ok (.aload_n 0, 1) := by decide +kernel
theorem dX9_proved_19 : decode cX9_proved 19 = .ok (.iconst 1, 1) := by decide +kernel
theorem dX9_proved_20 : decode cX9_proved 20 = .ok (.invokevirtual 249, 3) := by decide +kernel
theorem dX9_proved_23 : decode cX9_proved 23 = .ok (.iconst (-1), 1) := by decide +kernel
theorem dX9_proved_24 : decode cX9_proved 24 = .ok (.if_icmp .eq 7, 3) := by decide +kernel
theorem dX9_proved_27 : decode cX9_proved 27 = .ok (.iconst 2, 1) := by decide +kernel
theorem dX9_proved_28 : decode cX9_proved 28 = .ok (.goto 4, 3) := by decide +kernel
theorem dX9_proved_31 : decode cX9_proved 31 = .ok (.iconst 0, 1) := by decide +kernel
theorem dX9_proved_32 : decode cX9_proved 32 = .ok (.ireturn, 1) := by decide +kernel
theorem dX9_best_0 : decode cX9_best 0 = .ok (.aload_n 0, 1) := by decide +kernel
theorem dX9_best_1 : decode cX9_best 1 = .ok (.aload_n 0, 1) := by decide +kernel
theorem dX9_best_2 : decode cX9_best 2 = .ok (.iconst 0, 1) := by decide +kernel
theorem dX9_best_3 : decode cX9_best 3 = .ok (.invokevirtual 249, 3) := by decide +kernel
theorem dX9_best_6 : decode cX9_best 6 = .ok (.iconst (-1), 1) := by decide +kernel
theorem dX9_best_7 : decode cX9_best 7 = .ok (.if_icmp .ne 12, 3) := by decide +kernel
theorem dX9_best_10 : decode cX9_best 10 = .ok (.aload_n 0, 1) := by decide +kernel
theorem dX9_best_11 : decode cX9_best 11 = .ok (.iconst 1, 1) := by decide +kernel
theorem dX9_best_12 : decode cX9_best 12 = .ok (.invokevirtual 249, 3) := by decide +kernel
theorem dX9_best_15 : decode cX9_best 15 = .ok (.iconst (-1), 1) := by decide +kernel
theorem dX9_best_16 : decode cX9_best 16 = .ok (.if_icmp .ne 7, 3) := by decide +kernel
theorem dX9_best_19 : decode cX9_best 19 = .ok (.iconst 1, 1) := by decide +kernel
theorem dX9_best_20 : decode cX9_best 20 = .ok (.goto 4, 3) := by decide +kernel
theorem dX9_best_23 : decode cX9_best 23 = .ok (.iconst 0, 1) := by decide +kernel
theorem dX9_best_24 : decode cX9_best 24 = .ok (.invokevirtual 157, 3) := by decide +kernel
theorem dX9_best_27 : decode cX9_best 27 = .ok (.ifCond .eq 7, 3) := by decide +kernel
theorem dX9_best_30 : decode cX9_best 30 = .ok (.lconst 0, 1) := by decide +kernel
theorem dX9_best_31 : decode cX9_best 31 = .ok (.goto 13, 3) := by decide +kernel
theorem dX9_best_34 : decode cX9_best 34 = .ok (.aload_n 0, 1) := by decide +kernel
theorem dX9_best_35 : decode cX9_best 35 = .ok (.getfield 70, 3) := by decide +kernel
theorem dX9_best_38 : decode cX9_best 38 = .ok (.aload_n 0, 1) := by decide +kernel
theorem dX9_best_39 : decode cX9_best 39 = .ok (.iconst 1, 1) := by decide +kernel
theorem dX9_best_40 : decode cX9_best 40 = .ok (.invokevirtual 249, 3) := by decide +kernel
theorem dX9_best_43 : decode cX9_best 43 = .ok (.laload, 1) := by decide +kernel
theorem dX9_best_44 : decode cX9_best 44 = .ok (.lreturn, 1) := by decide +kernel
theorem dX9_times_0 : decode cX9_times 0 = .ok (.lconst 0, 1) := by decide +kernel
theorem dX9_times_1 : decode cX9_times 1 = .ok (.lstore_n 2, 1) := by decide +kernel
theorem dX9_times_2 : decode cX9_times 2 = .ok (.iconst 0, 1) := by decide +kernel
theorem dX9_times_3 : decode cX9_times 3 = .ok (.istore 4, 2) := by decide +kernel
theorem dX9_times_5 : decode cX9_times 5 = .ok (.iload 4, 2) := by decide +kernel
theorem dX9_times_7 : decode cX9_times 7 = .ok (.aload_n 0, 1) := by decide +kernel
theorem dX9_times_8 : decode cX9_times 8 = .ok (.getfield 112, 3) := by decide +kernel
theorem dX9_times_11 : decode cX9_times 11 = .ok (.if_icmp .ge 48, 3) := by decide +kernel
theorem dX9_times_14 : decode cX9_times 14 = .ok (.aload_n 0, 1) := by decide +kernel
theorem dX9_times_15 : decode cX9_times 15 = .ok (.getfield 19, 3) := by decide +kernel
theorem dX9_times_18 : decode cX9_times 18 = .ok (.iload 4, 2) := by decide +kernel
theorem dX9_times_20 : decode cX9_times 20 = .ok (.iaload, 1) := by decide +kernel
theorem dX9_times_21 : decode cX9_times 21 = .ok (.ifCond .eq 32, 3) := by decide +kernel
theorem dX9_times_24 : decode cX9_times 24 = .ok (.lload_n 2, 1) := by decide +kernel
theorem dX9_times_25 : decode cX9_times 25 = .ok (.lconst 0, 1) := by decide +kernel
theorem dX9_times_26 : decode cX9_times 26 = .ok (.lcmp, 1) := by decide +kernel
theorem dX9_times_27 : decode cX9_times 27 = .ok (.ifCond .ne 26, 3) := by decide +kernel
theorem dX9_times_30 : decode cX9_times 30 = .ok (.aload_n 0, 1) := by decide +kernel
theorem dX9_times_31 : decode cX9_times 31 = .ok (.getfield 59, 3) := by decide +kernel
theorem dX9_times_34 : decode cX9_times 34 = .ok (.bipush 8, 2) := by decide +kernel
theorem dX9_times_36 : decode cX9_times 36 = .ok (.iload_n 1, 1) := by decide +kernel
theorem dX9_times_37 : decode cX9_times 37 = .ok (.imul, 1) := by decide +kernel
theorem dX9_times_38 : decode cX9_times 38 = .ok (.iload 4, 2) := by decide +kernel
theorem dX9_times_40 : decode cX9_times 40 = .ok (.iadd, 1) := by decide +kernel
theorem dX9_times_41 : decode cX9_times 41 = .ok (.laload, 1) := by decide +kernel
theorem dX9_times_42 : decode cX9_times 42 = .ok (.lneg, 1) := by decide +kernel
theorem dX9_times_43 : decode cX9_times 43 = .ok (.aload_n 0, 1) := by decide +kernel
theorem dX9_times_44 : decode cX9_times 44 = .ok (.getfield 19, 3) := by decide +kernel
theorem dX9_times_47 : decode cX9_times 47 = .ok (.iload 4, 2) := by decide +kernel
theorem dX9_times_49 : decode cX9_times 49 = .ok (.iaload, 1) := by decide +kernel
theorem dX9_times_50 : decode cX9_times 50 = .ok (.i2l, 1) := by decide +kernel
theorem dX9_times_51 : decode cX9_times 51 = .ok (.ldiv, 1) := by decide +kernel
theorem dX9_times_52 : decode cX9_times 52 = .ok (.lstore_n 2, 1) := by decide +kernel
theorem dX9_times_53 : decode cX9_times 53 = .ok (.iinc 4 1, 3) := by decide +kernel
theorem dX9_times_56 : decode cX9_times 56 = .ok (.goto (-51), 3) := by decide +kernel
theorem dX9_times_59 : decode cX9_times 59 = .ok (.lload_n 2, 1) := by decide +kernel
theorem dX9_times_60 : decode cX9_times 60 = .ok (.lconst 1, 1) := by decide +kernel
theorem dX9_times_61 : decode cX9_times 61 = .ok (.lcmp, 1) := by decide +kernel
theorem dX9_times_62 : decode cX9_times 62 = .ok (.ifCond .ge 5, 3) := by decide +kernel
theorem dX9_times_65 : decode cX9_times 65 = .ok (.lconst 0, 1) := by decide +kernel
theorem dX9_times_66 : decode cX9_times 66 = .ok (.lreturn, 1) := by decide +kernel
theorem dX9_times_67 : decode cX9_times 67 = .ok (.iconst 0, 1) := by decide +kernel
theorem dX9_times_68 : decode cX9_times 68 = .ok (.istore 4, 2) := by decide +kernel
theorem dX9_times_70 : decode cX9_times 70 = .ok (.iload 4, 2) := by decide +kernel
theorem dX9_times_72 : decode cX9_times 72 = .ok (.aload_n 0, 1) := by decide +kernel
theorem dX9_times_73 : decode cX9_times 73 = .ok (.getfield 112, 3) := by decide +kernel
theorem dX9_times_76 : decode cX9_times 76 = .ok (.if_icmp .ge 38, 3) := by decide +kernel
theorem dX9_times_79 : decode cX9_times 79 = .ok (.aload_n 0, 1) := by decide +kernel
theorem dX9_times_80 : decode cX9_times 80 = .ok (.getfield 59, 3) := by decide +kernel
theorem dX9_times_83 : decode cX9_times 83 = .ok (.bipush 8, 2) := by decide +kernel
theorem dX9_times_85 : decode cX9_times 85 = .ok (.iload_n 1, 1) := by decide +kernel
theorem dX9_times_86 : decode cX9_times 86 = .ok (.imul, 1) := by decide +kernel
theorem dX9_times_87 : decode cX9_times 87 = .ok (.iload 4, 2) := by decide +kernel
theorem dX9_times_89 : decode cX9_times 89 = .ok (.iadd, 1) := by decide +kernel
theorem dX9_times_90 : decode cX9_times 90 = .ok (.laload, 1) := by decide +kernel
theorem dX9_times_91 : decode cX9_times 91 = .ok (.lload_n 2, 1) := by decide +kernel
theorem dX9_times_92 : decode cX9_times 92 = .ok (.lneg, 1) := by decide +kernel
theorem dX9_times_93 : decode cX9_times 93 = .ok (.aload_n 0, 1) := by decide +kernel
theorem dX9_times_94 : decode cX9_times 94 = .ok (.getfield 19, 3) := by decide +kernel
theorem dX9_times_97 : decode cX9_times 97 = .ok (.iload 4, 2) := by decide +kernel
theorem dX9_times_99 : decode cX9_times 99 = .ok (.iaload, 1) := by decide +kernel
theorem dX9_times_100 : decode cX9_times 100 = .ok (.i2l, 1) := by decide +kernel
theorem dX9_times_101 : decode cX9_times 101 = .ok (.lmul, 1) := by decide +kernel
theorem dX9_times_102 : decode cX9_times 102 = .ok (.lcmp, 1) := by decide +kernel
theorem dX9_times_103 : decode cX9_times 103 = .ok (.ifCond .eq 5, 3) := by decide +kernel
theorem dX9_times_106 : decode cX9_times 106 = .ok (.lconst 0, 1) := by decide +kernel
theorem dX9_times_107 : decode cX9_times 107 = .ok (.lreturn, 1) := by decide +kernel
theorem dX9_times_108 : decode cX9_times 108 = .ok (.iinc 4 1, 3) := by decide +kernel
theorem dX9_times_111 : decode cX9_times 111 = .ok (.goto (-41), 3) := by decide +kernel
theorem dX9_times_114 : decode cX9_times 114 = .ok (.lload_n 2, 1) := by decide +kernel
theorem dX9_times_115 : decode cX9_times 115 = .ok (.lreturn, 1) := by decide +kernel
theorem dX9_least_0 : decode cX9_least 0 = .ok (.iconst 0, 1) := by decide +kernel
theorem dX9_least_1 : decode cX9_least 1 = .ok (.istore_n 1, 1) := by decide +kernel
theorem dX9_least_2 : decode cX9_least 2 = .ok (.lconst 0, 1) := by decide +kernel
theorem dX9_least_3 : decode cX9_least 3 = .ok (.lstore_n 2, 1) := by decide +kernel
theorem dX9_least_4 : decode cX9_least 4 = .ok (.iconst 0, 1) := by decide +kernel
theorem dX9_least_5 : decode cX9_least 5 = .ok (.istore 4, 2) := by decide +kernel
theorem dX9_least_7 : decode cX9_least 7 = .ok (.iload 4, 2) := by decide +kernel
theorem dX9_least_9 : decode cX9_least 9 = .ok (.aload_n 0, 1) := by decide +kernel
theorem dX9_least_10 : decode cX9_least 10 = .ok (.getfield 145, 3) := by decide +kernel
theorem dX9_least_13 : decode cX9_least 13 = .ok (.if_icmp .ge 82, 3) := by decide +kernel
theorem dX9_least_16 : decode cX9_least 16 = .ok (.aload_n 0, 1) := by decide +kernel
theorem dX9_least_17 : decode cX9_least 17 = .ok (.iload 4, 2) := by decide +kernel
theorem dX9_least_19 : decode cX9_least 19 = .ok (.invokevirtual 239, 3) := by decide +kernel
theorem dX9_least_22 : decode cX9_least 22 = .ok (.ifCond .ne 22, 3) := by decide +kernel
theorem dX9_least_25 : decode cX9_least 25 = .ok (.aload_n 0, 1) := by decide +kernel
theorem dX9_least_26 : decode cX9_least 26 = .ok (.getfield 66, 3) := by decide +kernel
theorem dX9_least_29 : decode cX9_least 29 = .ok (.iload 4, 2) := by decide +kernel
theorem dX9_least_31 : decode cX9_least 31 = .ok (.baload, 1) := by decide +kernel
theorem dX9_least_32 : decode cX9_least 32 = .ok (.ifCond .ne 12, 3) := by decide +kernel
theorem dX9_least_35 : decode cX9_least 35 = .ok (.aload_n 0, 1) := by decide +kernel
theorem dX9_least_36 : decode cX9_least 36 = .ok (.iload 4, 2) := by decide +kernel
theorem dX9_least_38 : decode cX9_least 38 = .ok (.invokevirtual 253, 3) := by decide +kernel
theorem dX9_least_41 : decode cX9_least 41 = .ok (.goto 4, 3) := by decide +kernel
theorem dX9_least_44 : decode cX9_least 44 = .ok (.lconst 0, 1) := by decide +kernel
theorem dX9_least_45 : decode cX9_least 45 = .ok (.lstore 5, 2) := by decide +kernel
theorem dX9_least_47 : decode cX9_least 47 = .ok (.lload 5, 2) := by decide +kernel
theorem dX9_least_49 : decode cX9_least 49 = .ok (.lconst 0, 1) := by decide +kernel
theorem dX9_least_50 : decode cX9_least 50 = .ok (.lcmp, 1) := by decide +kernel
theorem dX9_least_51 : decode cX9_least 51 = .ok (.ifCond .le 38, 3) := by decide +kernel
theorem dX9_least_54 : decode cX9_least 54 = .ok (.aload_n 0, 1) := by decide +kernel
theorem dX9_least_55 : decode cX9_least 55 = .ok (.getfield 63, 3) := by decide +kernel
theorem dX9_least_58 : decode cX9_least 58 = .ok (.iload 4, 2) := by decide +kernel
theorem dX9_least_60 : decode cX9_least 60 = .ok (.laload, 1) := by decide +kernel
theorem dX9_least_61 : decode cX9_least 61 = .ok (.lload 5, 2) := by decide +kernel
theorem dX9_least_63 : decode cX9_least 63 = .ok (.invokestatic 229, 3) := by decide +kernel
theorem dX9_least_66 : decode cX9_least 66 = .ok (.lneg, 1) := by decide +kernel
theorem dX9_least_67 : decode cX9_least 67 = .ok (.lstore 7, 2) := by decide +kernel
theorem dX9_least_69 : decode cX9_least 69 = .ok (.iload_n 1, 1) := by decide +kernel
theorem dX9_least_70 : decode cX9_least 70 = .ok (.ifCond .eq 10, 3) := by decide +kernel
theorem dX9_least_73 : decode cX9_least 73 = .ok (.lload 7, 2) := by decide +kernel
theorem dX9_least_75 : decode cX9_least 75 = .ok (.lload_n 2, 1) := by decide +kernel
theorem dX9_least_76 : decode cX9_least 76 = .ok (.lcmp, 1) := by decide +kernel
theorem dX9_least_77 : decode cX9_least 77 = .ok (.ifCond .le 8, 3) := by decide +kernel
theorem dX9_least_80 : decode cX9_least 80 = .ok (.lload 7, 2) := by decide +kernel
theorem dX9_least_82 : decode cX9_least 82 = .ok (.goto 4, 3) := by decide +kernel
theorem dX9_least_85 : decode cX9_least 85 = .ok (.lload_n 2, 1) := by decide +kernel
theorem dX9_least_86 : decode cX9_least 86 = .ok (.lstore_n 2, 1) := by decide +kernel
theorem dX9_least_87 : decode cX9_least 87 = .ok (.iconst 1, 1) := by decide +kernel
theorem dX9_least_88 : decode cX9_least 88 = .ok (.istore_n 1, 1) := by decide +kernel
theorem dX9_least_89 : decode cX9_least 89 = .ok (.iinc 4 1, 3) := by decide +kernel
theorem dX9_least_92 : decode cX9_least 92 = .ok (.goto (-85), 3) := by decide +kernel
theorem dX9_least_95 : decode cX9_least 95 = .ok (.aload_n 0, 1) := by decide +kernel
theorem dX9_least_96 : decode cX9_least 96 = .ok (.iload_n 1, 1) := by decide +kernel
theorem dX9_least_97 : decode cX9_least 97 = .ok (.ifCond .ne 7, 3) := by decide +kernel
theorem dX9_least_100 : decode cX9_least 100 = .ok (.iconst 1, 1) := by decide +kernel
theorem dX9_least_101 : decode cX9_least 101 = .ok (.goto 4, 3) := by decide +kernel
theorem dX9_least_104 : decode cX9_least 104 = .ok (.iconst 0, 1) := by decide +kernel
theorem dX9_least_105 : decode cX9_least 105 = .ok (.invokevirtual 157, 3) := by decide +kernel
theorem dX9_least_108 : decode cX9_least 108 = .ok (.ifCond .eq 7, 3) := by decide +kernel
theorem dX9_least_111 : decode cX9_least 111 = .ok (.lconst 0, 1) := by decide +kernel
theorem dX9_least_112 : decode cX9_least 112 = .ok (.goto 4, 3) := by decide +kernel
theorem dX9_least_115 : decode cX9_least 115 = .ok (.lload_n 2, 1) := by decide +kernel
theorem dX9_least_116 : decode cX9_least 116 = .ok (.lreturn, 1) := by decide +kernel
theorem dX9_trim_0 : decode cX9_trim 0 = .ok (.aload_n 0, 1) := by decide +kernel
theorem dX9_trim_1 : decode cX9_trim 1 = .ok (.iload_n 1, 1) := by decide +kernel
theorem dX9_trim_2 : decode cX9_trim 2 = .ok (.iconst 0, 1) := by decide +kernel
theorem dX9_trim_3 : decode cX9_trim 3 = .ok (.aload_n 0, 1) := by decide +kernel
theorem dX9_trim_4 : decode cX9_trim 4 = .ok (.getfield 145, 3) := by decide +kernel
theorem dX9_trim_7 : decode cX9_trim 7 = .ok (.iconst 1, 1) := by decide +kernel
theorem dX9_trim_8 : decode cX9_trim 8 = .ok (.isub, 1) := by decide +kernel
theorem dX9_trim_9 : decode cX9_trim 9 = .ok (.invokestatic 89, 3) := by decide +kernel
theorem dX9_trim_12 : decode cX9_trim 12 = .ok (.ifCond .ne 7, 3) := by decide +kernel
theorem dX9_trim_15 : decode cX9_trim 15 = .ok (.iconst 1, 1) := by decide +kernel
theorem dX9_trim_16 : decode cX9_trim 16 = .ok (.goto 4, 3) := by decide +kernel
theorem dX9_trim_19 : decode cX9_trim 19 = .ok (.iconst 0, 1) := by decide +kernel
theorem dX9_trim_20 : decode cX9_trim 20 = .ok (.invokevirtual 157, 3) := by decide +kernel
theorem dX9_trim_23 : decode cX9_trim 23 = .ok (.ifCond .eq 5, 3) := by decide +kernel
theorem dX9_trim_26 : decode cX9_trim 26 = .ok (.iconst 0, 1) := by decide +kernel
theorem dX9_trim_27 : decode cX9_trim 27 = .ok (.ireturn, 1) := by decide +kernel
theorem dX9_trim_28 : decode cX9_trim 28 = .ok (.aload_n 0, 1) := by decide +kernel
theorem dX9_trim_29 : decode cX9_trim 29 = .ok (.iload_n 1, 1) := by decide +kernel
theorem dX9_trim_30 : decode cX9_trim 30 = .ok (.invokevirtual 242, 3) := by decide +kernel
theorem dX9_trim_33 : decode cX9_trim 33 = .ok (.istore_n 2, 1) := by decide +kernel
theorem dX9_trim_34 : decode cX9_trim 34 = .ok (.iconst 1, 1) := by decide +kernel
theorem dX9_trim_35 : decode cX9_trim 35 = .ok (.istore_n 3, 1) := by decide +kernel
theorem dX9_trim_36 : decode cX9_trim 36 = .ok (.iconst 0, 1) := by decide +kernel
theorem dX9_trim_37 : decode cX9_trim 37 = .ok (.istore 4, 2) := by decide +kernel
theorem dX9_trim_39 : decode cX9_trim 39 = .ok (.aload_n 0, 1) := by decide +kernel
theorem dX9_trim_40 : decode cX9_trim 40 = .ok (.getfield 83, 3) := by decide +kernel
theorem dX9_trim_43 : decode cX9_trim 43 = .ok (.iconst 0, 1) := by decide +kernel
theorem dX9_trim_44 : decode cX9_trim 44 = .ok (.aload_n 0, 1) := by decide +kernel
theorem dX9_trim_45 : decode cX9_trim 45 = .ok (.getfield 124, 3) := by decide +kernel
theorem dX9_trim_48 : decode cX9_trim 48 = .ok (.iastore, 1) := by decide +kernel
theorem dX9_trim_49 : decode cX9_trim 49 = .ok (.iconst 0, 1) := by decide +kernel
theorem dX9_trim_50 : decode cX9_trim 50 = .ok (.istore 5, 2) := by decide +kernel
theorem dX9_trim_52 : decode cX9_trim 52 = .ok (.iload 5, 2) := by decide +kernel
theorem dX9_trim_54 : decode cX9_trim 54 = .ok (.iload_n 1, 1) := by decide +kernel
theorem dX9_trim_55 : decode cX9_trim 55 = .ok (.if_icmp .gt 168, 3) := by decide +kernel
theorem dX9_trim_58 : decode cX9_trim 58 = .ok (.aload_n 0, 1) := by decide +kernel
theorem dX9_trim_59 : decode cX9_trim 59 = .ok (.getfield 77, 3) := by decide +kernel
theorem dX9_trim_62 : decode cX9_trim 62 = .ok (.iload 5, 2) := by decide +kernel
theorem dX9_trim_64 : decode cX9_trim 64 = .ok (.baload, 1) := by decide +kernel
theorem dX9_trim_65 : decode cX9_trim 65 = .ok (.ifCond .eq 152, 3) := by decide +kernel
theorem dX9_trim_68 : decode cX9_trim 68 = .ok (.aload_n 0, 1) := by decide +kernel
theorem dX9_trim_69 : decode cX9_trim 69 = .ok (.getfield 80, 3) := by decide +kernel
theorem dX9_trim_72 : decode cX9_trim 72 = .ok (.iload 5, 2) := by decide +kernel
theorem dX9_trim_74 : decode cX9_trim 74 = .ok (.iload 4, 2) := by decide +kernel
theorem dX9_trim_76 : decode cX9_trim 76 = .ok (.iastore, 1) := by decide +kernel
theorem dX9_trim_77 : decode cX9_trim 77 = .ok (.aload_n 0, 1) := by decide +kernel
theorem dX9_trim_78 : decode cX9_trim 78 = .ok (.getfield 56, 3) := by decide +kernel
theorem dX9_trim_81 : decode cX9_trim 81 = .ok (.iload 5, 2) := by decide +kernel
theorem dX9_trim_83 : decode cX9_trim 83 = .ok (.iaload, 1) := by decide +kernel
theorem dX9_trim_84 : decode cX9_trim 84 = .ok (.istore 6, 2) := by decide +kernel
theorem dX9_trim_86 : decode cX9_trim 86 = .ok (.aload_n 0, 1) := by decide +kernel
theorem dX9_trim_87 : decode cX9_trim 87 = .ok (.iload 6, 2) := by decide +kernel
theorem dX9_trim_89 : decode cX9_trim 89 = .ok (.invokevirtual 184, 3) := by decide +kernel
theorem dX9_trim_92 : decode cX9_trim 92 = .ok (.istore 7, 2) := by decide +kernel
theorem dX9_trim_94 : decode cX9_trim 94 = .ok (.iconst 0, 1) := by decide +kernel
theorem dX9_trim_95 : decode cX9_trim 95 = .ok (.istore 8, 2) := by decide +kernel
theorem dX9_trim_97 : decode cX9_trim 97 = .ok (.iload 8, 2) := by decide +kernel
theorem dX9_trim_99 : decode cX9_trim 99 = .ok (.iload 7, 2) := by decide +kernel
theorem dX9_trim_101 : decode cX9_trim 101 = .ok (.if_icmp .ge 113, 3) := by decide +kernel
theorem dX9_trim_104 : decode cX9_trim 104 = .ok (.aload_n 0, 1) := by decide +kernel
theorem dX9_trim_105 : decode cX9_trim 105 = .ok (.getfield 46, 3) := by decide +kernel
theorem dX9_trim_108 : decode cX9_trim 108 = .ok (.iload 6, 2) := by decide +kernel
theorem dX9_trim_110 : decode cX9_trim 110 = .ok (.iload 8, 2) := by decide +kernel
theorem dX9_trim_112 : decode cX9_trim 112 = .ok (.iadd, 1) := by decide +kernel
theorem dX9_trim_113 : decode cX9_trim 113 = .ok (.iaload, 1) := by decide +kernel
theorem dX9_trim_114 : decode cX9_trim 114 = .ok (.istore 9, 2) := by decide +kernel
theorem dX9_trim_116 : decode cX9_trim 116 = .ok (.aload_n 0, 1) := by decide +kernel
theorem dX9_trim_117 : decode cX9_trim 117 = .ok (.getfield 46, 3) := by decide +kernel
theorem dX9_trim_120 : decode cX9_trim 120 = .ok (.iload 6, 2) := by decide +kernel
theorem dX9_trim_122 : decode cX9_trim 122 = .ok (.iaload, 1) := by decide +kernel
theorem dX9_trim_123 : decode cX9_trim 123 = .ok (.istore 10, 2) := by decide +kernel
theorem dX9_trim_125 : decode cX9_trim 125 = .ok (.iload 10, 2) := by decide +kernel
theorem dX9_trim_127 : decode cX9_trim 127 = .ok (.iconst 4, 1) := by decide +kernel
theorem dX9_trim_128 : decode cX9_trim 128 = .ok (.if_icmp .ne 16, 3) := by decide +kernel
theorem dX9_trim_131 : decode cX9_trim 131 = .ok (.iload 8, 2) := by decide +kernel
theorem dX9_trim_133 : decode cX9_trim 133 = .ok (.iconst 2, 1) := by decide +kernel
theorem dX9_trim_134 : decode cX9_trim 134 = .ok (.if_icmp .lt 10, 3) := by decide +kernel
theorem dX9_trim_137 : decode cX9_trim 137 = .ok (.iload 8, 2) := by decide +kernel
theorem dX9_trim_139 : decode cX9_trim 139 = .ok (.iconst 2, 1) := by decide +kernel
theorem dX9_trim_140 : decode cX9_trim 140 = .ok (.irem, 1) := by decide +kernel
theorem dX9_trim_141 : decode cX9_trim 141 = .ok (.ifCond .eq 34, 3) := by decide +kernel
theorem dX9_trim_144 : decode cX9_trim 144 = .ok (.iload 10, 2) := by decide +kernel
theorem dX9_trim_146 : decode cX9_trim 146 = .ok (.iconst 5, 1) := by decide +kernel
theorem dX9_trim_147 : decode cX9_trim 147 = .ok (.if_icmp .eq 10, 3) := by decide +kernel
theorem dX9_trim_150 : decode cX9_trim 150 = .ok (.iload 10, 2) := by decide +kernel
theorem dX9_trim_152 : decode cX9_trim 152 = .ok (.bipush 9, 2) := by decide +kernel
theorem dX9_trim_154 : decode cX9_trim 154 = .ok (.if_icmp .ne 9, 3) := by decide +kernel
theorem dX9_trim_157 : decode cX9_trim 157 = .ok (.iload 8, 2) := by decide +kernel
theorem dX9_trim_159 : decode cX9_trim 159 = .ok (.iconst 1, 1) := by decide +kernel
theorem dX9_trim_160 : decode cX9_trim 160 = .ok (.if_icmp .eq 15, 3) := by decide +kernel
theorem dX9_trim_163 : decode cX9_trim 163 = .ok (.iload 10, 2) := by decide +kernel
theorem dX9_trim_165 : decode cX9_trim 165 = .ok (.bipush 7, 2) := by decide +kernel
theorem dX9_trim_167 : decode cX9_trim 167 = .ok (.if_icmp .ne 12, 3) := by decide +kernel
theorem dX9_trim_170 : decode cX9_trim 170 = .ok (.iload 8, 2) := by decide +kernel
theorem dX9_trim_172 : decode cX9_trim 172 = .ok (.ifCond .le 7, 3) := by decide +kernel
theorem dX9_trim_175 : decode cX9_trim 175 = .ok (.iconst 1, 1) := by decide +kernel
theorem dX9_trim_176 : decode cX9_trim 176 = .ok (.goto 4, 3) := by decide +kernel
theorem dX9_trim_179 : decode cX9_trim 179 = .ok (.iconst 0, 1) := by decide +kernel
theorem dX9_trim_180 : decode cX9_trim 180 = .ok (.istore 11, 2) := by decide +kernel
theorem dX9_trim_182 : decode cX9_trim 182 = .ok (.aload_n 0, 1) := by decide +kernel
theorem dX9_trim_183 : decode cX9_trim 183 = .ok (.getfield 83, 3) := by decide +kernel
theorem dX9_trim_186 : decode cX9_trim 186 = .ok (.iload_n 3, 1) := by decide +kernel
theorem dX9_trim_187 : decode cX9_trim 187 = .ok (.iload 11, 2) := by decide +kernel
theorem dX9_trim_189 : decode cX9_trim 189 = .ok (.ifCond .eq 13, 3) := by decide +kernel
theorem dX9_trim_192 : decode cX9_trim 192 = .ok (.aload_n 0, 1) := by decide +kernel
theorem dX9_trim_193 : decode cX9_trim 193 = .ok (.getfield 80, 3) := by decide +kernel
theorem dX9_trim_196 : decode cX9_trim 196 = .ok (.iload 9, 2) := by decide +kernel
theorem dX9_trim_198 : decode cX9_trim 198 = .ok (.iaload, 1) := by decide +kernel
theorem dX9_trim_199 : decode cX9_trim 199 = .ok (.goto 5, 3) := by decide +kernel
theorem dX9_trim_202 : decode cX9_trim 202 = .ok (.iload 9, 2) := by decide +kernel
theorem dX9_trim_204 : decode cX9_trim 204 = .ok (.iastore, 1) := by decide +kernel
theorem dX9_trim_205 : decode cX9_trim 205 = .ok (.iinc 3 1, 3) := by decide +kernel
theorem dX9_trim_208 : decode cX9_trim 208 = .ok (.iinc 8 1, 3) := by decide +kernel
theorem dX9_trim_211 : decode cX9_trim 211 = .ok (.goto (-114), 3) := by decide +kernel
theorem dX9_trim_214 : decode cX9_trim 214 = .ok (.iinc 4 1, 3) := by decide +kernel
theorem dX9_trim_217 : decode cX9_trim 217 = .ok (.iinc 5 1, 3) := by decide +kernel
theorem dX9_trim_220 : decode cX9_trim 220 = .ok (.goto (-168), 3) := by decide +kernel
theorem dX9_trim_223 : decode cX9_trim 223 = .ok (.aload_n 0, 1) := by decide +kernel
theorem dX9_trim_224 : decode cX9_trim 224 = .ok (.invokevirtual 130, 3) := by decide +kernel
theorem dX9_trim_227 : decode cX9_trim 227 = .ok (.aload_n 0, 1) := by decide +kernel
theorem dX9_trim_228 : decode cX9_trim 228 = .ok (.iconst 1, 1) := by decide +kernel
theorem dX9_trim_229 : decode cX9_trim 229 = .ok (.putfield 133, 3) := by decide +kernel
theorem dX9_trim_232 : decode cX9_trim 232 = .ok (.iconst 0, 1) := by decide +kernel
theorem dX9_trim_233 : decode cX9_trim 233 = .ok (.istore 5, 2) := by decide +kernel
theorem dX9_trim_235 : decode cX9_trim 235 = .ok (.iload 5, 2) := by decide +kernel
theorem dX9_trim_237 : decode cX9_trim 237 = .ok (.iload_n 3, 1) := by decide +kernel
theorem dX9_trim_238 : decode cX9_trim 238 = .ok (.if_icmp .ge 20, 3) := by decide +kernel
theorem dX9_trim_241 : decode cX9_trim 241 = .ok (.aload_n 0, 1) := by decide +kernel
theorem dX9_trim_242 : decode cX9_trim 242 = .ok (.aload_n 0, 1) := by decide +kernel
theorem dX9_trim_243 : decode cX9_trim 243 = .ok (.getfield 83, 3) := by decide +kernel
theorem dX9_trim_246 : decode cX9_trim 246 = .ok (.iload 5, 2) := by decide +kernel
theorem dX9_trim_248 : decode cX9_trim 248 = .ok (.iaload, 1) := by decide +kernel
theorem dX9_trim_249 : decode cX9_trim 249 = .ok (.invokevirtual 165, 3) := by decide +kernel
theorem dX9_trim_252 : decode cX9_trim 252 = .ok (.iinc 5 1, 3) := by decide +kernel
theorem dX9_trim_255 : decode cX9_trim 255 = .ok (.goto (-20), 3) := by decide +kernel
theorem dX9_trim_258 : decode cX9_trim 258 = .ok (.iload_n 2, 1) := by decide +kernel
theorem dX9_trim_259 : decode cX9_trim 259 = .ok (.ireturn, 1) := by decide +kernel
theorem dX9_number_0 : decode cX9_number 0 = .ok (.aload_n 0, 1) := by decide +kernel
theorem dX9_number_1 : decode cX9_number 1 = .ok (.iload_n 1, 1) := by decide +kernel
theorem dX9_number_2 : decode cX9_number 2 = .ok (.iconst 0, 1) := by decide +kernel
theorem dX9_number_3 : decode cX9_number 3 = .ok (.aload_n 0, 1) := by decide +kernel
theorem dX9_number_4 : decode cX9_number 4 = .ok (.getfield 136, 3) := by decide +kernel
theorem dX9_number_7 : decode cX9_number 7 = .ok (.iconst 1, 1) := by decide +kernel
theorem dX9_number_8 : decode cX9_number 8 = .ok (.isub, 1) := by decide +kernel
theorem dX9_number_9 : decode cX9_number 9 = .ok (.invokestatic 89, 3) := by decide +kernel
theorem dX9_number_12 : decode cX9_number 12 = .ok (.ifCond .ne 7, 3) := by decide +kernel
theorem dX9_number_15 : decode cX9_number 15 = .ok (.iconst 1, 1) := by decide +kernel
theorem dX9_number_16 : decode cX9_number 16 = .ok (.goto 4, 3) := by decide +kernel
theorem dX9_number_19 : decode cX9_number 19 = .ok (.iconst 0, 1) := by decide +kernel
theorem dX9_number_20 : decode cX9_number 20 = .ok (.invokevirtual 157, 3) := by decide +kernel
theorem dX9_number_23 : decode cX9_number 23 = .ok (.ifCond .eq 7, 3) := by decide +kernel
theorem dX9_number_26 : decode cX9_number 26 = .ok (.iconst 0, 1) := by decide +kernel
theorem dX9_number_27 : decode cX9_number 27 = .ok (.goto 9, 3) := by decide +kernel
theorem dX9_number_30 : decode cX9_number 30 = .ok (.aload_n 0, 1) := by decide +kernel
theorem dX9_number_31 : decode cX9_number 31 = .ok (.getfield 46, 3) := by decide +kernel
theorem dX9_number_34 : decode cX9_number 34 = .ok (.iload_n 1, 1) := by decide +kernel
theorem dX9_number_35 : decode cX9_number 35 = .ok (.iaload, 1) := by decide +kernel
theorem dX9_number_36 : decode cX9_number 36 = .ok (.ireturn, 1) := by decide +kernel
theorem dX9_told_0 : decode cX9_told 0 = .ok (.aload_n 0, 1) := by decide +kernel
theorem dX9_told_1 : decode cX9_told 1 = .ok (.iconst 0, 1) := by decide +kernel
theorem dX9_told_2 : decode cX9_told 2 = .ok (.putfield 86, 3) := by decide +kernel
theorem dX9_told_5 : decode cX9_told 5 = .ok (.iload_n 1, 1) := by decide +kernel
theorem dX9_told_6 : decode cX9_told 6 = .ok (.tableswitch 86 0 7 #[46, 51, 56, 61, 66, 71, 76, 81], 46) := by decide +kernel
theorem dX9_told_52 : decode cX9_told 52 = .ok (.aload_n 0, 1) := by decide +kernel
theorem dX9_told_53 : decode cX9_told 53 = .ok (.getfield 93, 3) := by decide +kernel
theorem dX9_told_56 : decode cX9_told 56 = .ok (.ireturn, 1) := by decide +kernel
theorem dX9_told_57 : decode cX9_told 57 = .ok (.aload_n 0, 1) := by decide +kernel
theorem dX9_told_58 : decode cX9_told 58 = .ok (.getfield 112, 3) := by decide +kernel
theorem dX9_told_61 : decode cX9_told 61 = .ok (.ireturn, 1) := by decide +kernel
theorem dX9_told_62 : decode cX9_told 62 = .ok (.aload_n 0, 1) := by decide +kernel
theorem dX9_told_63 : decode cX9_told 63 = .ok (.getfield 115, 3) := by decide +kernel
theorem dX9_told_66 : decode cX9_told 66 = .ok (.ireturn, 1) := by decide +kernel
theorem dX9_told_67 : decode cX9_told 67 = .ok (.aload_n 0, 1) := by decide +kernel
theorem dX9_told_68 : decode cX9_told 68 = .ok (.getfield 118, 3) := by decide +kernel
theorem dX9_told_71 : decode cX9_told 71 = .ok (.ireturn, 1) := by decide +kernel
theorem dX9_told_72 : decode cX9_told 72 = .ok (.aload_n 0, 1) := by decide +kernel
theorem dX9_told_73 : decode cX9_told 73 = .ok (.getfield 127, 3) := by decide +kernel
theorem dX9_told_76 : decode cX9_told 76 = .ok (.ireturn, 1) := by decide +kernel
theorem dX9_told_77 : decode cX9_told 77 = .ok (.aload_n 0, 1) := by decide +kernel
theorem dX9_told_78 : decode cX9_told 78 = .ok (.getfield 145, 3) := by decide +kernel
theorem dX9_told_81 : decode cX9_told 81 = .ok (.ireturn, 1) := by decide +kernel
theorem dX9_told_82 : decode cX9_told 82 = .ok (.aload_n 0, 1) := by decide +kernel
theorem dX9_told_83 : decode cX9_told 83 = .ok (.getfield 148, 3) := by decide +kernel
theorem dX9_told_86 : decode cX9_told 86 = .ok (.ireturn, 1) := by decide +kernel
theorem dX9_told_87 : decode cX9_told 87 = .ok (.aload_n 0, 1) := by decide +kernel
theorem dX9_told_88 : decode cX9_told 88 = .ok (.getfield 136, 3) := by decide +kernel
theorem dX9_told_91 : decode cX9_told 91 = .ok (.ireturn, 1) := by decide +kernel
theorem dX9_told_92 : decode cX9_told 92 = .ok (.bipush (-3), 2) := by decide +kernel
theorem dX9_told_94 : decode cX9_told 94 = .ok (.ireturn, 1) := by decide +kernel
theorem dJ13_bitCount_95d88_0 : decode cJ13_bitCount_95d88 0 = .ok (.lload_n 0, 1) := by decide +kernel
theorem dJ13_bitCount_95d88_1 : decode cJ13_bitCount_95d88 1 = .ok (.lload_n 0, 1) := by decide +kernel
theorem dJ13_bitCount_95d88_2 : decode cJ13_bitCount_95d88 2 = .ok (.iconst 1, 1) := by decide +kernel
theorem dJ13_bitCount_95d88_3 : decode cJ13_bitCount_95d88 3 = .ok (.lushr, 1) := by decide +kernel
theorem dJ13_bitCount_95d88_4 : decode cJ13_bitCount_95d88 4 = .ok (.ldc2_w 314, 3) := by decide +kernel
theorem dJ13_bitCount_95d88_7 : decode cJ13_bitCount_95d88 7 = .ok (.land, 1) := by decide +kernel
theorem dJ13_bitCount_95d88_8 : decode cJ13_bitCount_95d88 8 = .ok (.lsub, 1) := by decide +kernel
theorem dJ13_bitCount_95d88_9 : decode cJ13_bitCount_95d88 9 = .ok (.lstore_n 0, 1) := by decide +kernel
theorem dJ13_bitCount_95d88_10 : decode cJ13_bitCount_95d88 10 = .ok (.lload_n 0, 1) := by decide +kernel
theorem dJ13_bitCount_95d88_11 : decode cJ13_bitCount_95d88 11 = .ok (.ldc2_w 316, 3) := by decide +kernel
theorem dJ13_bitCount_95d88_14 : decode cJ13_bitCount_95d88 14 = .ok (.land, 1) := by decide +kernel
theorem dJ13_bitCount_95d88_15 : decode cJ13_bitCount_95d88 15 = .ok (.lload_n 0, 1) := by decide +kernel
theorem dJ13_bitCount_95d88_16 : decode cJ13_bitCount_95d88 16 = .ok (.iconst 2, 1) := by decide +kernel
theorem dJ13_bitCount_95d88_17 : decode cJ13_bitCount_95d88 17 = .ok (.lushr, 1) := by decide +kernel
theorem dJ13_bitCount_95d88_18 : decode cJ13_bitCount_95d88 18 = .ok (.ldc2_w 316, 3) := by decide +kernel
theorem dJ13_bitCount_95d88_21 : decode cJ13_bitCount_95d88 21 = .ok (.land, 1) := by decide +kernel
theorem dJ13_bitCount_95d88_22 : decode cJ13_bitCount_95d88 22 = .ok (.ladd, 1) := by decide +kernel
theorem dJ13_bitCount_95d88_23 : decode cJ13_bitCount_95d88 23 = .ok (.lstore_n 0, 1) := by decide +kernel
theorem dJ13_bitCount_95d88_24 : decode cJ13_bitCount_95d88 24 = .ok (.lload_n 0, 1) := by decide +kernel
theorem dJ13_bitCount_95d88_25 : decode cJ13_bitCount_95d88 25 = .ok (.lload_n 0, 1) := by decide +kernel
theorem dJ13_bitCount_95d88_26 : decode cJ13_bitCount_95d88 26 = .ok (.iconst 4, 1) := by decide +kernel
theorem dJ13_bitCount_95d88_27 : decode cJ13_bitCount_95d88 27 = .ok (.lushr, 1) := by decide +kernel
theorem dJ13_bitCount_95d88_28 : decode cJ13_bitCount_95d88 28 = .ok (.ladd, 1) := by decide +kernel
theorem dJ13_bitCount_95d88_29 : decode cJ13_bitCount_95d88 29 = .ok (.ldc2_w 318, 3) := by decide +kernel
theorem dJ13_bitCount_95d88_32 : decode cJ13_bitCount_95d88 32 = .ok (.land, 1) := by decide +kernel
theorem dJ13_bitCount_95d88_33 : decode cJ13_bitCount_95d88 33 = .ok (.lstore_n 0, 1) := by decide +kernel
theorem dJ13_bitCount_95d88_34 : decode cJ13_bitCount_95d88 34 = .ok (.lload_n 0, 1) := by decide +kernel
theorem dJ13_bitCount_95d88_35 : decode cJ13_bitCount_95d88 35 = .ok (.lload_n 0, 1) := by decide +kernel
theorem dJ13_bitCount_95d88_36 : decode cJ13_bitCount_95d88 36 = .ok (.bipush 8, 2) := by decide +kernel
theorem dJ13_bitCount_95d88_38 : decode cJ13_bitCount_95d88 38 = .ok (.lushr, 1) := by decide +kernel
theorem dJ13_bitCount_95d88_39 : decode cJ13_bitCount_95d88 39 = .ok (.ladd, 1) := by decide +kernel
theorem dJ13_bitCount_95d88_40 : decode cJ13_bitCount_95d88 40 = .ok (.lstore_n 0, 1) := by decide +kernel
theorem dJ13_bitCount_95d88_41 : decode cJ13_bitCount_95d88 41 = .ok (.lload_n 0, 1) := by decide +kernel
theorem dJ13_bitCount_95d88_42 : decode cJ13_bitCount_95d88 42 = .ok (.lload_n 0, 1) := by decide +kernel
theorem dJ13_bitCount_95d88_43 : decode cJ13_bitCount_95d88 43 = .ok (.bipush 16, 2) := by decide +kernel
theorem dJ13_bitCount_95d88_45 : decode cJ13_bitCount_95d88 45 = .ok (.lushr, 1) := by decide +kernel
theorem dJ13_bitCount_95d88_46 : decode cJ13_bitCount_95d88 46 = .ok (.ladd, 1) := by decide +kernel
theorem dJ13_bitCount_95d88_47 : decode cJ13_bitCount_95d88 47 = .ok (.lstore_n 0, 1) := by decide +kernel
theorem dJ13_bitCount_95d88_48 : decode cJ13_bitCount_95d88 48 = .ok (.lload_n 0, 1) := by decide +kernel
theorem dJ13_bitCount_95d88_49 : decode cJ13_bitCount_95d88 49 = .ok (.lload_n 0, 1) := by decide +kernel
theorem dJ13_bitCount_95d88_50 : decode cJ13_bitCount_95d88 50 = .ok (.bipush 32, 2) := by decide +kernel
theorem dJ13_bitCount_95d88_52 : decode cJ13_bitCount_95d88 52 = .ok (.lushr, 1) := by decide +kernel
theorem dJ13_bitCount_95d88_53 : decode cJ13_bitCount_95d88 53 = .ok (.ladd, 1) := by decide +kernel
theorem dJ13_bitCount_95d88_54 : decode cJ13_bitCount_95d88 54 = .ok (.lstore_n 0, 1) := by decide +kernel
theorem dJ13_bitCount_95d88_55 : decode cJ13_bitCount_95d88 55 = .ok (.lload_n 0, 1) := by decide +kernel
theorem dJ13_bitCount_95d88_56 : decode cJ13_bitCount_95d88 56 = .ok (.l2i, 1) := by decide +kernel
theorem dJ13_bitCount_95d88_57 : decode cJ13_bitCount_95d88 57 = .ok (.bipush 127, 2) := by decide +kernel
theorem dJ13_bitCount_95d88_59 : decode cJ13_bitCount_95d88 59 = .ok (.iand, 1) := by decide +kernel
theorem dJ13_bitCount_95d88_60 : decode cJ13_bitCount_95d88 60 = .ok (.ireturn, 1) := by decide +kernel
theorem dJ9_floorDiv_f86c9_0 : decode cJ9_floorDiv_f86c9 0 = .ok (.lload_n 0, 1) := by decide +kernel
theorem dJ9_floorDiv_f86c9_1 : decode cJ9_floorDiv_f86c9 1 = .ok (.lload_n 2, 1) := by decide +kernel
theorem dJ9_floorDiv_f86c9_2 : decode cJ9_floorDiv_f86c9 2 = .ok (.ldiv, 1) := by decide +kernel
theorem dJ9_floorDiv_f86c9_3 : decode cJ9_floorDiv_f86c9 3 = .ok (.lstore 4, 2) := by decide +kernel
theorem dJ9_floorDiv_f86c9_5 : decode cJ9_floorDiv_f86c9 5 = .ok (.lload_n 0, 1) := by decide +kernel
theorem dJ9_floorDiv_f86c9_6 : decode cJ9_floorDiv_f86c9 6 = .ok (.lload_n 2, 1) := by decide +kernel
theorem dJ9_floorDiv_f86c9_7 : decode cJ9_floorDiv_f86c9 7 = .ok (.lxor, 1) := by decide +kernel
theorem dJ9_floorDiv_f86c9_8 : decode cJ9_floorDiv_f86c9 8 = .ok (.lconst 0, 1) := by decide +kernel
theorem dJ9_floorDiv_f86c9_9 : decode cJ9_floorDiv_f86c9 9 = .ok (.lcmp, 1) := by decide +kernel
theorem dJ9_floorDiv_f86c9_10 : decode cJ9_floorDiv_f86c9 10 = .ok (.ifCond .ge 17, 3) := by decide +kernel
theorem dJ9_floorDiv_f86c9_13 : decode cJ9_floorDiv_f86c9 13 = .ok (.lload 4, 2) := by decide +kernel
theorem dJ9_floorDiv_f86c9_15 : decode cJ9_floorDiv_f86c9 15 = .ok (.lload_n 2, 1) := by decide +kernel
theorem dJ9_floorDiv_f86c9_16 : decode cJ9_floorDiv_f86c9 16 = .ok (.lmul, 1) := by decide +kernel
theorem dJ9_floorDiv_f86c9_17 : decode cJ9_floorDiv_f86c9 17 = .ok (.lload_n 0, 1) := by decide +kernel
theorem dJ9_floorDiv_f86c9_18 : decode cJ9_floorDiv_f86c9 18 = .ok (.lcmp, 1) := by decide +kernel
theorem dJ9_floorDiv_f86c9_19 : decode cJ9_floorDiv_f86c9 19 = .ok (.ifCond .eq 8, 3) := by decide +kernel
theorem dJ9_floorDiv_f86c9_22 : decode cJ9_floorDiv_f86c9 22 = .ok (.lload 4, 2) := by decide +kernel
theorem dJ9_floorDiv_f86c9_24 : decode cJ9_floorDiv_f86c9 24 = .ok (.lconst 1, 1) := by decide +kernel
theorem dJ9_floorDiv_f86c9_25 : decode cJ9_floorDiv_f86c9 25 = .ok (.lsub, 1) := by decide +kernel
theorem dJ9_floorDiv_f86c9_26 : decode cJ9_floorDiv_f86c9 26 = .ok (.lreturn, 1) := by decide +kernel
theorem dJ9_floorDiv_f86c9_27 : decode cJ9_floorDiv_f86c9 27 = .ok (.lload 4, 2) := by decide +kernel
theorem dJ9_floorDiv_f86c9_29 : decode cJ9_floorDiv_f86c9 29 = .ok (.lreturn, 1) := by decide +kernel
theorem dJ9_max_f86c9_0 : decode cJ9_max_f86c9 0 = .ok (.lload_n 0, 1) := by decide +kernel
theorem dJ9_max_f86c9_1 : decode cJ9_max_f86c9 1 = .ok (.lload_n 2, 1) := by decide +kernel
theorem dJ9_max_f86c9_2 : decode cJ9_max_f86c9 2 = .ok (.lcmp, 1) := by decide +kernel
theorem dJ9_max_f86c9_3 : decode cJ9_max_f86c9 3 = .ok (.ifCond .lt 7, 3) := by decide +kernel
theorem dJ9_max_f86c9_6 : decode cJ9_max_f86c9 6 = .ok (.lload_n 0, 1) := by decide +kernel
theorem dJ9_max_f86c9_7 : decode cJ9_max_f86c9 7 = .ok (.goto 4, 3) := by decide +kernel
theorem dJ9_max_f86c9_10 : decode cJ9_max_f86c9 10 = .ok (.lload_n 2, 1) := by decide +kernel
theorem dJ9_max_f86c9_11 : decode cJ9_max_f86c9 11 = .ok (.lreturn, 1) := by decide +kernel
theorem dJ9_min_f86c9_0 : decode cJ9_min_f86c9 0 = .ok (.lload_n 0, 1) := by decide +kernel
theorem dJ9_min_f86c9_1 : decode cJ9_min_f86c9 1 = .ok (.lload_n 2, 1) := by decide +kernel
theorem dJ9_min_f86c9_2 : decode cJ9_min_f86c9 2 = .ok (.lcmp, 1) := by decide +kernel
theorem dJ9_min_f86c9_3 : decode cJ9_min_f86c9 3 = .ok (.ifCond .gt 7, 3) := by decide +kernel
theorem dJ9_min_f86c9_6 : decode cJ9_min_f86c9 6 = .ok (.lload_n 0, 1) := by decide +kernel
theorem dJ9_min_f86c9_7 : decode cJ9_min_f86c9 7 = .ok (.goto 4, 3) := by decide +kernel
theorem dJ9_min_f86c9_10 : decode cJ9_min_f86c9 10 = .ok (.lload_n 2, 1) := by decide +kernel
theorem dJ9_min_f86c9_11 : decode cJ9_min_f86c9 11 = .ok (.lreturn, 1) := by decide +kernel
theorem dL_cost_0 : decode cL_cost 0 = .ok (.aload_n 2, 1) := by decide +kernel
theorem dL_cost_1 : decode cL_cost 1 = .ok (.iconst 0, 1) := by decide +kernel
theorem dL_cost_2 : decode cL_cost 2 = .ok (.aload_n 0, 1) := by decide +kernel
theorem dL_cost_3 : decode cL_cost 3 = .ok (.iload_n 1, 1) := by decide +kernel
theorem dL_cost_4 : decode cL_cost 4 = .ok (.invokevirtual 7, 3) := by decide +kernel
theorem dL_cost_7 : decode cL_cost 7 = .ok (.lastore, 1) := by decide +kernel
theorem dL_cost_8 : decode cL_cost 8 = .ok (.goto 6, 3) := by decide +kernel
theorem dL_cost_11 : decode cL_cost 11 = .ok (.astore_n 3, 1) := by decide +kernel
theorem dL_cost_12 : decode cL_cost 12 = .ok (.iconst 1, 1) := by decide +kernel
theorem dL_cost_13 : decode cL_cost 13 = .ok (.ireturn, 1) := by decide +kernel
theorem dL_cost_14 : decode cL_cost 14 = .ok (.iconst 0, 1) := by decide +kernel
theorem dL_cost_15 : decode cL_cost 15 = .ok (.ireturn, 1) := by decide +kernel
theorem dL_row_0 : decode cL_row 0 = .ok (.aload_n 3, 1) := by decide +kernel
theorem dL_row_1 : decode cL_row 1 = .ok (.iconst 0, 1) := by decide +kernel
theorem dL_row_2 : decode cL_row 2 = .ok (.aload_n 0, 1) := by decide +kernel
theorem dL_row_3 : decode cL_row 3 = .ok (.iload_n 1, 1) := by decide +kernel
theorem dL_row_4 : decode cL_row 4 = .ok (.iload_n 2, 1) := by decide +kernel
theorem dL_row_5 : decode cL_row 5 = .ok (.invokevirtual 15, 3) := by decide +kernel
theorem dL_row_8 : decode cL_row 8 = .ok (.lastore, 1) := by decide +kernel
theorem dL_row_9 : decode cL_row 9 = .ok (.goto 7, 3) := by decide +kernel
theorem dL_row_12 : decode cL_row 12 = .ok (.astore 4, 2) := by decide +kernel
theorem dL_row_14 : decode cL_row 14 = .ok (.iconst 1, 1) := by decide +kernel
theorem dL_row_15 : decode cL_row 15 = .ok (.ireturn, 1) := by decide +kernel
theorem dL_row_16 : decode cL_row 16 = .ok (.iconst 0, 1) := by decide +kernel
theorem dL_row_17 : decode cL_row 17 = .ok (.ireturn, 1) := by decide +kernel
theorem dL_assumes_0 : decode cL_assumes 0 = .ok (.aload_n 3, 1) := by decide +kernel
theorem dL_assumes_1 : decode cL_assumes 1 = .ok (.iconst 0, 1) := by decide +kernel
theorem dL_assumes_2 : decode cL_assumes 2 = .ok (.aload_n 0, 1) := by decide +kernel
theorem dL_assumes_3 : decode cL_assumes 3 = .ok (.iload_n 1, 1) := by decide +kernel
theorem dL_assumes_4 : decode cL_assumes 4 = .ok (.iload_n 2, 1) := by decide +kernel
theorem dL_assumes_5 : decode cL_assumes 5 = .ok (.invokevirtual 19, 3) := by decide +kernel
theorem dL_assumes_8 : decode cL_assumes 8 = .ok (.i2l, 1) := by decide +kernel
theorem dL_assumes_9 : decode cL_assumes 9 = .ok (.lastore, 1) := by decide +kernel
theorem dL_assumes_10 : decode cL_assumes 10 = .ok (.goto 7, 3) := by decide +kernel
theorem dL_assumes_13 : decode cL_assumes 13 = .ok (.astore 4, 2) := by decide +kernel
theorem dL_assumes_15 : decode cL_assumes 15 = .ok (.iconst 1, 1) := by decide +kernel
theorem dL_assumes_16 : decode cL_assumes 16 = .ok (.ireturn, 1) := by decide +kernel
theorem dL_assumes_17 : decode cL_assumes 17 = .ok (.iconst 0, 1) := by decide +kernel
theorem dL_assumes_18 : decode cL_assumes 18 = .ok (.ireturn, 1) := by decide +kernel
theorem dL_holds_0 : decode cL_holds 0 = .ok (.aload_n 3, 1) := by decide +kernel
theorem dL_holds_1 : decode cL_holds 1 = .ok (.iconst 0, 1) := by decide +kernel
theorem dL_holds_2 : decode cL_holds 2 = .ok (.aload_n 0, 1) := by decide +kernel
theorem dL_holds_3 : decode cL_holds 3 = .ok (.iload_n 1, 1) := by decide +kernel
theorem dL_holds_4 : decode cL_holds 4 = .ok (.iload_n 2, 1) := by decide +kernel
theorem dL_holds_5 : decode cL_holds 5 = .ok (.invokevirtual 23, 3) := by decide +kernel
theorem dL_holds_8 : decode cL_holds 8 = .ok (.i2l, 1) := by decide +kernel
theorem dL_holds_9 : decode cL_holds 9 = .ok (.lastore, 1) := by decide +kernel
theorem dL_holds_10 : decode cL_holds 10 = .ok (.goto 7, 3) := by decide +kernel
theorem dL_holds_13 : decode cL_holds 13 = .ok (.astore 4, 2) := by decide +kernel
theorem dL_holds_15 : decode cL_holds 15 = .ok (.iconst 1, 1) := by decide +kernel
theorem dL_holds_16 : decode cL_holds 16 = .ok (.ireturn, 1) := by decide +kernel
theorem dL_holds_17 : decode cL_holds 17 = .ok (.iconst 0, 1) := by decide +kernel
theorem dL_holds_18 : decode cL_holds 18 = .ok (.ireturn, 1) := by decide +kernel
theorem dL_best_0 : decode cL_best 0 = .ok (.aload_n 1, 1) := by decide +kernel
theorem dL_best_1 : decode cL_best 1 = .ok (.iconst 0, 1) := by decide +kernel
theorem dL_best_2 : decode cL_best 2 = .ok (.aload_n 0, 1) := by decide +kernel
theorem dL_best_3 : decode cL_best 3 = .ok (.invokevirtual 26, 3) := by decide +kernel
theorem dL_best_6 : decode cL_best 6 = .ok (.lastore, 1) := by decide +kernel
theorem dL_best_7 : decode cL_best 7 = .ok (.goto 6, 3) := by decide +kernel
theorem dL_best_10 : decode cL_best 10 = .ok (.astore_n 2, 1) := by decide +kernel
theorem dL_best_11 : decode cL_best 11 = .ok (.iconst 1, 1) := by decide +kernel
theorem dL_best_12 : decode cL_best 12 = .ok (.ireturn, 1) := by decide +kernel
theorem dL_best_13 : decode cL_best 13 = .ok (.iconst 0, 1) := by decide +kernel
theorem dL_best_14 : decode cL_best 14 = .ok (.ireturn, 1) := by decide +kernel
theorem dL_least_0 : decode cL_least 0 = .ok (.aload_n 1, 1) := by decide +kernel
theorem dL_least_1 : decode cL_least 1 = .ok (.iconst 0, 1) := by decide +kernel
theorem dL_least_2 : decode cL_least 2 = .ok (.aload_n 0, 1) := by decide +kernel
theorem dL_least_3 : decode cL_least 3 = .ok (.invokevirtual 32, 3) := by decide +kernel
theorem dL_least_6 : decode cL_least 6 = .ok (.lastore, 1) := by decide +kernel
theorem dL_least_7 : decode cL_least 7 = .ok (.goto 6, 3) := by decide +kernel
theorem dL_least_10 : decode cL_least 10 = .ok (.astore_n 2, 1) := by decide +kernel
theorem dL_least_11 : decode cL_least 11 = .ok (.iconst 1, 1) := by decide +kernel
theorem dL_least_12 : decode cL_least 12 = .ok (.ireturn, 1) := by decide +kernel
theorem dL_least_13 : decode cL_least 13 = .ok (.iconst 0, 1) := by decide +kernel
theorem dL_least_14 : decode cL_least 14 = .ok (.ireturn, 1) := by decide +kernel
theorem dL_trim_0 : decode cL_trim 0 = .ok (.aload_n 2, 1) := by decide +kernel
theorem dL_trim_1 : decode cL_trim 1 = .ok (.iconst 0, 1) := by decide +kernel
theorem dL_trim_2 : decode cL_trim 2 = .ok (.aload_n 0, 1) := by decide +kernel
theorem dL_trim_3 : decode cL_trim 3 = .ok (.iload_n 1, 1) := by decide +kernel
theorem dL_trim_4 : decode cL_trim 4 = .ok (.invokevirtual 35, 3) := by decide +kernel
theorem dL_trim_7 : decode cL_trim 7 = .ok (.i2l, 1) := by decide +kernel
theorem dL_trim_8 : decode cL_trim 8 = .ok (.lastore, 1) := by decide +kernel
theorem dL_trim_9 : decode cL_trim 9 = .ok (.goto 6, 3) := by decide +kernel
theorem dL_trim_12 : decode cL_trim 12 = .ok (.astore_n 3, 1) := by decide +kernel
theorem dL_trim_13 : decode cL_trim 13 = .ok (.iconst 1, 1) := by decide +kernel
theorem dL_trim_14 : decode cL_trim 14 = .ok (.ireturn, 1) := by decide +kernel
theorem dL_trim_15 : decode cL_trim 15 = .ok (.iconst 0, 1) := by decide +kernel
theorem dL_trim_16 : decode cL_trim 16 = .ok (.ireturn, 1) := by decide +kernel
theorem dL_number_0 : decode cL_number 0 = .ok (.aload_n 2, 1) := by decide +kernel
theorem dL_number_1 : decode cL_number 1 = .ok (.iconst 0, 1) := by decide +kernel
theorem dL_number_2 : decode cL_number 2 = .ok (.aload_n 0, 1) := by decide +kernel
theorem dL_number_3 : decode cL_number 3 = .ok (.iload_n 1, 1) := by decide +kernel
theorem dL_number_4 : decode cL_number 4 = .ok (.invokevirtual 39, 3) := by decide +kernel
theorem dL_number_7 : decode cL_number 7 = .ok (.i2l, 1) := by decide +kernel
theorem dL_number_8 : decode cL_number 8 = .ok (.lastore, 1) := by decide +kernel
theorem dL_number_9 : decode cL_number 9 = .ok (.goto 6, 3) := by decide +kernel
theorem dL_number_12 : decode cL_number 12 = .ok (.astore_n 3, 1) := by decide +kernel
theorem dL_number_13 : decode cL_number 13 = .ok (.iconst 1, 1) := by decide +kernel
theorem dL_number_14 : decode cL_number 14 = .ok (.ireturn, 1) := by decide +kernel
theorem dL_number_15 : decode cL_number 15 = .ok (.iconst 0, 1) := by decide +kernel
theorem dL_number_16 : decode cL_number 16 = .ok (.ireturn, 1) := by decide +kernel
theorem dL_law_0 : decode cL_law 0 = .ok (.new 8, 3) := by decide +kernel
theorem dL_law_3 : decode cL_law 3 = .ok (.dup, 1) := by decide +kernel
theorem dL_law_4 : decode cL_law 4 = .ok (.invokespecial 42, 3) := by decide +kernel
theorem dL_law_7 : decode cL_law 7 = .ok (.astore_n 1, 1) := by decide +kernel
theorem dL_law_8 : decode cL_law 8 = .ok (.new 43, 3) := by decide +kernel
theorem dL_law_11 : decode cL_law 11 = .ok (.dup, 1) := by decide +kernel
theorem dL_law_12 : decode cL_law 12 = .ok (.invokespecial 45, 3) := by decide +kernel
theorem dL_law_15 : decode cL_law 15 = .ok (.astore_n 2, 1) := by decide +kernel
theorem dL_law_16 : decode cL_law 16 = .ok (.iconst 1, 1) := by decide +kernel
theorem dL_law_17 : decode cL_law 17 = .ok (.newarray .long, 2) := by decide +kernel
theorem dL_law_19 : decode cL_law 19 = .ok (.astore_n 3, 1) := by decide +kernel
theorem dL_law_20 : decode cL_law 20 = .ok (.iconst 0, 1) := by decide +kernel
theorem dL_law_21 : decode cL_law 21 = .ok (.istore 4, 2) := by decide +kernel
theorem dL_law_23 : decode cL_law 23 = .ok (.iload 4, 2) := by decide +kernel
theorem dL_law_25 : decode cL_law 25 = .ok (.aload_n 0, 1) := by decide +kernel
theorem dL_law_26 : decode cL_law 26 = .ok (.arraylength, 1) := by decide +kernel
theorem dL_law_27 : decode cL_law 27 = .ok (.bipush 6, 2) := by decide +kernel
theorem dL_law_29 : decode cL_law 29 = .ok (.isub, 1) := by decide +kernel
theorem dL_law_30 : decode cL_law 30 = .ok (.if_icmp .gt 803, 3) := by decide +kernel
theorem dL_law_33 : decode cL_law 33 = .ok (.aload_n 0, 1) := by decide +kernel
theorem dL_law_34 : decode cL_law 34 = .ok (.iload 4, 2) := by decide +kernel
theorem dL_law_36 : decode cL_law 36 = .ok (.iaload, 1) := by decide +kernel
theorem dL_law_37 : decode cL_law 37 = .ok (.bipush 31, 2) := by decide +kernel
theorem dL_law_39 : decode cL_law 39 = .ok (.iand, 1) := by decide +kernel
theorem dL_law_40 : decode cL_law 40 = .ok (.tableswitch 787 0 18 #[92, 165, 178, 191, 204, 229, 284, 297, 310, 323, 348, 415, 483, 551, 564, 607, 650, 706, 762], 92) := by decide +kernel
theorem dL_law_132 : decode cL_law 132 = .ok (.aload_n 1, 1) := by decide +kernel
theorem dL_law_133 : decode cL_law 133 = .ok (.aload_n 0, 1) := by decide +kernel
theorem dL_law_134 : decode cL_law 134 = .ok (.iload 4, 2) := by decide +kernel
theorem dL_law_136 : decode cL_law 136 = .ok (.iconst 1, 1) := by decide +kernel
theorem dL_law_137 : decode cL_law 137 = .ok (.iadd, 1) := by decide +kernel
theorem dL_law_138 : decode cL_law 138 = .ok (.iaload, 1) := by decide +kernel
theorem dL_law_139 : decode cL_law 139 = .ok (.aload_n 0, 1) := by decide +kernel
theorem dL_law_140 : decode cL_law 140 = .ok (.iload 4, 2) := by decide +kernel
theorem dL_law_142 : decode cL_law 142 = .ok (.iconst 2, 1) := by decide +kernel
theorem dL_law_143 : decode cL_law 143 = .ok (.iadd, 1) := by decide +kernel
theorem dL_law_144 : decode cL_law 144 = .ok (.iaload, 1) := by decide +kernel
theorem dL_law_145 : decode cL_law 145 = .ok (.aload_n 0, 1) := by decide +kernel
theorem dL_law_146 : decode cL_law 146 = .ok (.iload 4, 2) := by decide +kernel
theorem dL_law_148 : decode cL_law 148 = .ok (.iconst 3, 1) := by decide +kernel
theorem dL_law_149 : decode cL_law 149 = .ok (.iadd, 1) := by decide +kernel
theorem dL_law_150 : decode cL_law 150 = .ok (.iaload, 1) := by decide +kernel
theorem dL_law_151 : decode cL_law 151 = .ok (.aload_n 0, 1) := by decide +kernel
theorem dL_law_152 : decode cL_law 152 = .ok (.iload 4, 2) := by decide +kernel
theorem dL_law_154 : decode cL_law 154 = .ok (.iconst 4, 1) := by decide +kernel
theorem dL_law_155 : decode cL_law 155 = .ok (.iadd, 1) := by decide +kernel
theorem dL_law_156 : decode cL_law 156 = .ok (.iaload, 1) := by decide +kernel
theorem dL_law_157 : decode cL_law 157 = .ok (.aload_n 0, 1) := by decide +kernel
theorem dL_law_158 : decode cL_law 158 = .ok (.iload 4, 2) := by decide +kernel
theorem dL_law_160 : decode cL_law 160 = .ok (.iconst 5, 1) := by decide +kernel
theorem dL_law_161 : decode cL_law 161 = .ok (.iadd, 1) := by decide +kernel
theorem dL_law_162 : decode cL_law 162 = .ok (.iaload, 1) := by decide +kernel
theorem dL_law_163 : decode cL_law 163 = .ok (.invokevirtual 46, 3) := by decide +kernel
theorem dL_law_166 : decode cL_law 166 = .ok (.aload_n 2, 1) := by decide +kernel
theorem dL_law_167 : decode cL_law 167 = .ok (.aload_n 0, 1) := by decide +kernel
theorem dL_law_168 : decode cL_law 168 = .ok (.iload 4, 2) := by decide +kernel
theorem dL_law_170 : decode cL_law 170 = .ok (.iconst 1, 1) := by decide +kernel
theorem dL_law_171 : decode cL_law 171 = .ok (.iadd, 1) := by decide +kernel
theorem dL_law_172 : decode cL_law 172 = .ok (.iaload, 1) := by decide +kernel
theorem dL_law_173 : decode cL_law 173 = .ok (.aload_n 0, 1) := by decide +kernel
theorem dL_law_174 : decode cL_law 174 = .ok (.iload 4, 2) := by decide +kernel
theorem dL_law_176 : decode cL_law 176 = .ok (.iconst 2, 1) := by decide +kernel
theorem dL_law_177 : decode cL_law 177 = .ok (.iadd, 1) := by decide +kernel
theorem dL_law_178 : decode cL_law 178 = .ok (.iaload, 1) := by decide +kernel
theorem dL_law_179 : decode cL_law 179 = .ok (.aload_n 0, 1) := by decide +kernel
theorem dL_law_180 : decode cL_law 180 = .ok (.iload 4, 2) := by decide +kernel
theorem dL_law_182 : decode cL_law 182 = .ok (.iconst 3, 1) := by decide +kernel
theorem dL_law_183 : decode cL_law 183 = .ok (.iadd, 1) := by decide +kernel
theorem dL_law_184 : decode cL_law 184 = .ok (.iaload, 1) := by decide +kernel
theorem dL_law_185 : decode cL_law 185 = .ok (.aload_n 0, 1) := by decide +kernel
theorem dL_law_186 : decode cL_law 186 = .ok (.iload 4, 2) := by decide +kernel
theorem dL_law_188 : decode cL_law 188 = .ok (.iconst 4, 1) := by decide +kernel
theorem dL_law_189 : decode cL_law 189 = .ok (.iadd, 1) := by decide +kernel
theorem dL_law_190 : decode cL_law 190 = .ok (.iaload, 1) := by decide +kernel
theorem dL_law_191 : decode cL_law 191 = .ok (.aload_n 0, 1) := by decide +kernel
theorem dL_law_192 : decode cL_law 192 = .ok (.iload 4, 2) := by decide +kernel
theorem dL_law_194 : decode cL_law 194 = .ok (.iconst 5, 1) := by decide +kernel
theorem dL_law_195 : decode cL_law 195 = .ok (.iadd, 1) := by decide +kernel
theorem dL_law_196 : decode cL_law 196 = .ok (.iaload, 1) := by decide +kernel
theorem dL_law_197 : decode cL_law 197 = .ok (.invokevirtual 50, 3) := by decide +kernel
theorem dL_law_200 : decode cL_law 200 = .ok (.if_icmp .eq 627, 3) := by decide +kernel
theorem dL_law_203 : decode cL_law 203 = .ok (.iconst 0, 1) := by decide +kernel
theorem dL_law_204 : decode cL_law 204 = .ok (.ireturn, 1) := by decide +kernel
theorem dL_law_205 : decode cL_law 205 = .ok (.aload_n 1, 1) := by decide +kernel
theorem dL_law_206 : decode cL_law 206 = .ok (.invokevirtual 51, 3) := by decide +kernel
theorem dL_law_209 : decode cL_law 209 = .ok (.aload_n 2, 1) := by decide +kernel
theorem dL_law_210 : decode cL_law 210 = .ok (.invokevirtual 55, 3) := by decide +kernel
theorem dL_law_213 : decode cL_law 213 = .ok (.if_icmp .eq 614, 3) := by decide +kernel
theorem dL_law_216 : decode cL_law 216 = .ok (.iconst 0, 1) := by decide +kernel
theorem dL_law_217 : decode cL_law 217 = .ok (.ireturn, 1) := by decide +kernel
theorem dL_law_218 : decode cL_law 218 = .ok (.aload_n 1, 1) := by decide +kernel
theorem dL_law_219 : decode cL_law 219 = .ok (.invokevirtual 56, 3) := by decide +kernel
theorem dL_law_222 : decode cL_law 222 = .ok (.aload_n 2, 1) := by decide +kernel
theorem dL_law_223 : decode cL_law 223 = .ok (.invokevirtual 59, 3) := by decide +kernel
theorem dL_law_226 : decode cL_law 226 = .ok (.if_icmp .eq 601, 3) := by decide +kernel
theorem dL_law_229 : decode cL_law 229 = .ok (.iconst 0, 1) := by decide +kernel
theorem dL_law_230 : decode cL_law 230 = .ok (.ireturn, 1) := by decide +kernel
theorem dL_law_231 : decode cL_law 231 = .ok (.aload_n 1, 1) := by decide +kernel
theorem dL_law_232 : decode cL_law 232 = .ok (.invokevirtual 60, 3) := by decide +kernel
theorem dL_law_235 : decode cL_law 235 = .ok (.aload_n 2, 1) := by decide +kernel
theorem dL_law_236 : decode cL_law 236 = .ok (.invokevirtual 63, 3) := by decide +kernel
theorem dL_law_239 : decode cL_law 239 = .ok (.if_icmp .eq 588, 3) := by decide +kernel
theorem dL_law_242 : decode cL_law 242 = .ok (.iconst 0, 1) := by decide +kernel
theorem dL_law_243 : decode cL_law 243 = .ok (.ireturn, 1) := by decide +kernel
theorem dL_law_244 : decode cL_law 244 = .ok (.aload_n 1, 1) := by decide +kernel
theorem dL_law_245 : decode cL_law 245 = .ok (.aload_n 0, 1) := by decide +kernel
theorem dL_law_246 : decode cL_law 246 = .ok (.iload 4, 2) := by decide +kernel
theorem dL_law_248 : decode cL_law 248 = .ok (.iconst 1, 1) := by decide +kernel
theorem dL_law_249 : decode cL_law 249 = .ok (.iadd, 1) := by decide +kernel
theorem dL_law_250 : decode cL_law 250 = .ok (.iaload, 1) := by decide +kernel
theorem dL_law_251 : decode cL_law 251 = .ok (.invokevirtual 64, 3) := by decide +kernel
theorem dL_law_254 : decode cL_law 254 = .ok (.aload_n 2, 1) := by decide +kernel
theorem dL_law_255 : decode cL_law 255 = .ok (.aload_n 0, 1) := by decide +kernel
theorem dL_law_256 : decode cL_law 256 = .ok (.iload 4, 2) := by decide +kernel
theorem dL_law_258 : decode cL_law 258 = .ok (.iconst 1, 1) := by decide +kernel
theorem dL_law_259 : decode cL_law 259 = .ok (.iadd, 1) := by decide +kernel
theorem dL_law_260 : decode cL_law 260 = .ok (.iaload, 1) := by decide +kernel
theorem dL_law_261 : decode cL_law 261 = .ok (.invokevirtual 67, 3) := by decide +kernel
theorem dL_law_264 : decode cL_law 264 = .ok (.if_icmp .eq 563, 3) := by decide +kernel
theorem dL_law_267 : decode cL_law 267 = .ok (.iconst 0, 1) := by decide +kernel
theorem dL_law_268 : decode cL_law 268 = .ok (.ireturn, 1) := by decide +kernel
theorem dL_law_269 : decode cL_law 269 = .ok (.aload_n 1, 1) := by decide +kernel
theorem dL_law_270 : decode cL_law 270 = .ok (.aload_n 0, 1) := by decide +kernel
theorem dL_law_271 : decode cL_law 271 = .ok (.iload 4, 2) := by decide +kernel
theorem dL_law_273 : decode cL_law 273 = .ok (.iconst 1, 1) := by decide +kernel
theorem dL_law_274 : decode cL_law 274 = .ok (.iadd, 1) := by decide +kernel
theorem dL_law_275 : decode cL_law 275 = .ok (.iaload, 1) := by decide +kernel
theorem dL_law_276 : decode cL_law 276 = .ok (.aload_n 3, 1) := by decide +kernel
theorem dL_law_277 : decode cL_law 277 = .ok (.invokestatic 68, 3) := by decide +kernel
theorem dL_law_280 : decode cL_law 280 = .ok (.istore 5, 2) := by decide +kernel
theorem dL_law_282 : decode cL_law 282 = .ok (.aload_n 2, 1) := by decide +kernel
theorem dL_law_283 : decode cL_law 283 = .ok (.aload_n 0, 1) := by decide +kernel
theorem dL_law_284 : decode cL_law 284 = .ok (.iload 4, 2) := by decide +kernel
theorem dL_law_286 : decode cL_law 286 = .ok (.iconst 1, 1) := by decide +kernel
theorem dL_law_287 : decode cL_law 287 = .ok (.iadd, 1) := by decide +kernel
theorem dL_law_288 : decode cL_law 288 = .ok (.iaload, 1) := by decide +kernel
theorem dL_law_289 : decode cL_law 289 = .ok (.invokevirtual 73, 3) := by decide +kernel
theorem dL_law_292 : decode cL_law 292 = .ok (.lstore 6, 2) := by decide +kernel
theorem dL_law_294 : decode cL_law 294 = .ok (.aload_n 2, 1) := by decide +kernel
theorem dL_law_295 : decode cL_law 295 = .ok (.invokevirtual 74, 3) := by decide +kernel
theorem dL_law_298 : decode cL_law 298 = .ok (.iload 5, 2) := by decide +kernel
theorem dL_law_300 : decode cL_law 300 = .ok (.if_icmp .eq 5, 3) := by decide +kernel
theorem dL_law_303 : decode cL_law 303 = .ok (.iconst 0, 1) := by decide +kernel
theorem dL_law_304 : decode cL_law 304 = .ok (.ireturn, 1) := by decide +kernel
theorem dL_law_305 : decode cL_law 305 = .ok (.iload 5, 2) := by decide +kernel
theorem dL_law_307 : decode cL_law 307 = .ok (.ifCond .ne 14, 3) := by decide +kernel
theorem dL_law_310 : decode cL_law 310 = .ok (.aload_n 3, 1) := by decide +kernel
theorem dL_law_311 : decode cL_law 311 = .ok (.iconst 0, 1) := by decide +kernel
theorem dL_law_312 : decode cL_law 312 = .ok (.laload, 1) := by decide +kernel
theorem dL_law_313 : decode cL_law 313 = .ok (.lload 6, 2) := by decide +kernel
theorem dL_law_315 : decode cL_law 315 = .ok (.lcmp, 1) := by decide +kernel
theorem dL_law_316 : decode cL_law 316 = .ok (.ifCond .eq 5, 3) := by decide +kernel
theorem dL_law_319 : decode cL_law 319 = .ok (.iconst 0, 1) := by decide +kernel
theorem dL_law_320 : decode cL_law 320 = .ok (.ireturn, 1) := by decide +kernel
theorem dL_law_321 : decode cL_law 321 = .ok (.goto 506, 3) := by decide +kernel
theorem dL_law_324 : decode cL_law 324 = .ok (.aload_n 1, 1) := by decide +kernel
theorem dL_law_325 : decode cL_law 325 = .ok (.invokevirtual 77, 3) := by decide +kernel
theorem dL_law_328 : decode cL_law 328 = .ok (.aload_n 2, 1) := by decide +kernel
theorem dL_law_329 : decode cL_law 329 = .ok (.invokevirtual 80, 3) := by decide +kernel
theorem dL_law_332 : decode cL_law 332 = .ok (.if_icmp .eq 495, 3) := by decide +kernel
theorem dL_law_335 : decode cL_law 335 = .ok (.iconst 0, 1) := by decide +kernel
theorem dL_law_336 : decode cL_law 336 = .ok (.ireturn, 1) := by decide +kernel
theorem dL_law_337 : decode cL_law 337 = .ok (.aload_n 1, 1) := by decide +kernel
theorem dL_law_338 : decode cL_law 338 = .ok (.invokevirtual 81, 3) := by decide +kernel
theorem dL_law_341 : decode cL_law 341 = .ok (.aload_n 2, 1) := by decide +kernel
theorem dL_law_342 : decode cL_law 342 = .ok (.invokevirtual 84, 3) := by decide +kernel
theorem dL_law_345 : decode cL_law 345 = .ok (.if_icmp .eq 482, 3) := by decide +kernel
theorem dL_law_348 : decode cL_law 348 = .ok (.iconst 0, 1) := by decide +kernel
theorem dL_law_349 : decode cL_law 349 = .ok (.ireturn, 1) := by decide +kernel
theorem dL_law_350 : decode cL_law 350 = .ok (.aload_n 1, 1) := by decide +kernel
theorem dL_law_351 : decode cL_law 351 = .ok (.invokevirtual 85, 3) := by decide +kernel
theorem dL_law_354 : decode cL_law 354 = .ok (.aload_n 2, 1) := by decide +kernel
theorem dL_law_355 : decode cL_law 355 = .ok (.invokevirtual 88, 3) := by decide +kernel
theorem dL_law_358 : decode cL_law 358 = .ok (.if_icmp .eq 469, 3) := by decide +kernel
theorem dL_law_361 : decode cL_law 361 = .ok (.iconst 0, 1) := by decide +kernel
theorem dL_law_362 : decode cL_law 362 = .ok (.ireturn, 1) := by decide +kernel
theorem dL_law_363 : decode cL_law 363 = .ok (.aload_n 1, 1) := by decide +kernel
theorem dL_law_364 : decode cL_law 364 = .ok (.aload_n 0, 1) := by decide +kernel
theorem dL_law_365 : decode cL_law 365 = .ok (.iload 4, 2) := by decide +kernel
theorem dL_law_367 : decode cL_law 367 = .ok (.iconst 1, 1) := by decide +kernel
theorem dL_law_368 : decode cL_law 368 = .ok (.iadd, 1) := by decide +kernel
theorem dL_law_369 : decode cL_law 369 = .ok (.iaload, 1) := by decide +kernel
theorem dL_law_370 : decode cL_law 370 = .ok (.invokevirtual 89, 3) := by decide +kernel
theorem dL_law_373 : decode cL_law 373 = .ok (.aload_n 2, 1) := by decide +kernel
theorem dL_law_374 : decode cL_law 374 = .ok (.aload_n 0, 1) := by decide +kernel
theorem dL_law_375 : decode cL_law 375 = .ok (.iload 4, 2) := by decide +kernel
theorem dL_law_377 : decode cL_law 377 = .ok (.iconst 1, 1) := by decide +kernel
theorem dL_law_378 : decode cL_law 378 = .ok (.iadd, 1) := by decide +kernel
theorem dL_law_379 : decode cL_law 379 = .ok (.iaload, 1) := by decide +kernel
theorem dL_law_380 : decode cL_law 380 = .ok (.invokevirtual 92, 3) := by decide +kernel
theorem dL_law_383 : decode cL_law 383 = .ok (.if_icmp .eq 444, 3) := by decide +kernel
theorem dL_law_386 : decode cL_law 386 = .ok (.iconst 0, 1) := by decide +kernel
theorem dL_law_387 : decode cL_law 387 = .ok (.ireturn, 1) := by decide +kernel
theorem dL_law_388 : decode cL_law 388 = .ok (.aload_n 1, 1) := by decide +kernel
theorem dL_law_389 : decode cL_law 389 = .ok (.aload_n 0, 1) := by decide +kernel
theorem dL_law_390 : decode cL_law 390 = .ok (.iload 4, 2) := by decide +kernel
theorem dL_law_392 : decode cL_law 392 = .ok (.iconst 1, 1) := by decide +kernel
theorem dL_law_393 : decode cL_law 393 = .ok (.iadd, 1) := by decide +kernel
theorem dL_law_394 : decode cL_law 394 = .ok (.iaload, 1) := by decide +kernel
theorem dL_law_395 : decode cL_law 395 = .ok (.aload_n 0, 1) := by decide +kernel
theorem dL_law_396 : decode cL_law 396 = .ok (.iload 4, 2) := by decide +kernel
theorem dL_law_398 : decode cL_law 398 = .ok (.iconst 2, 1) := by decide +kernel
theorem dL_law_399 : decode cL_law 399 = .ok (.iadd, 1) := by decide +kernel
theorem dL_law_400 : decode cL_law 400 = .ok (.iaload, 1) := by decide +kernel
theorem dL_law_401 : decode cL_law 401 = .ok (.aload_n 3, 1) := by decide +kernel
theorem dL_law_402 : decode cL_law 402 = .ok (.invokestatic 93, 3) := by decide +kernel
theorem dL_law_405 : decode cL_law 405 = .ok (.istore 5, 2) := by decide +kernel
theorem dL_law_407 : decode cL_law 407 = .ok (.aload_n 2, 1) := by decide +kernel
theorem dL_law_408 : decode cL_law 408 = .ok (.aload_n 0, 1) := by decide +kernel
theorem dL_law_409 : decode cL_law 409 = .ok (.iload 4, 2) := by decide +kernel
theorem dL_law_411 : decode cL_law 411 = .ok (.iconst 1, 1) := by decide +kernel
theorem dL_law_412 : decode cL_law 412 = .ok (.iadd, 1) := by decide +kernel
theorem dL_law_413 : decode cL_law 413 = .ok (.iaload, 1) := by decide +kernel
theorem dL_law_414 : decode cL_law 414 = .ok (.aload_n 0, 1) := by decide +kernel
theorem dL_law_415 : decode cL_law 415 = .ok (.iload 4, 2) := by decide +kernel
theorem dL_law_417 : decode cL_law 417 = .ok (.iconst 2, 1) := by decide +kernel
theorem dL_law_418 : decode cL_law 418 = .ok (.iadd, 1) := by decide +kernel
theorem dL_law_419 : decode cL_law 419 = .ok (.iaload, 1) := by decide +kernel
theorem dL_law_420 : decode cL_law 420 = .ok (.invokevirtual 96, 3) := by decide +kernel
theorem dL_law_423 : decode cL_law 423 = .ok (.lstore 6, 2) := by decide +kernel
theorem dL_law_425 : decode cL_law 425 = .ok (.aload_n 2, 1) := by decide +kernel
theorem dL_law_426 : decode cL_law 426 = .ok (.invokevirtual 74, 3) := by decide +kernel
theorem dL_law_429 : decode cL_law 429 = .ok (.iload 5, 2) := by decide +kernel
theorem dL_law_431 : decode cL_law 431 = .ok (.if_icmp .eq 5, 3) := by decide +kernel
theorem dL_law_434 : decode cL_law 434 = .ok (.iconst 0, 1) := by decide +kernel
theorem dL_law_435 : decode cL_law 435 = .ok (.ireturn, 1) := by decide +kernel
theorem dL_law_436 : decode cL_law 436 = .ok (.iload 5, 2) := by decide +kernel
theorem dL_law_438 : decode cL_law 438 = .ok (.ifCond .ne 14, 3) := by decide +kernel
theorem dL_law_441 : decode cL_law 441 = .ok (.aload_n 3, 1) := by decide +kernel
theorem dL_law_442 : decode cL_law 442 = .ok (.iconst 0, 1) := by decide +kernel
theorem dL_law_443 : decode cL_law 443 = .ok (.laload, 1) := by decide +kernel
theorem dL_law_444 : decode cL_law 444 = .ok (.lload 6, 2) := by decide +kernel
theorem dL_law_446 : decode cL_law 446 = .ok (.lcmp, 1) := by decide +kernel
theorem dL_law_447 : decode cL_law 447 = .ok (.ifCond .eq 5, 3) := by decide +kernel
theorem dL_law_450 : decode cL_law 450 = .ok (.iconst 0, 1) := by decide +kernel
theorem dL_law_451 : decode cL_law 451 = .ok (.ireturn, 1) := by decide +kernel
theorem dL_law_452 : decode cL_law 452 = .ok (.goto 375, 3) := by decide +kernel
theorem dL_law_455 : decode cL_law 455 = .ok (.aload_n 1, 1) := by decide +kernel
theorem dL_law_456 : decode cL_law 456 = .ok (.aload_n 0, 1) := by decide +kernel
theorem dL_law_457 : decode cL_law 457 = .ok (.iload 4, 2) := by decide +kernel
theorem dL_law_459 : decode cL_law 459 = .ok (.iconst 1, 1) := by decide +kernel
theorem dL_law_460 : decode cL_law 460 = .ok (.iadd, 1) := by decide +kernel
theorem dL_law_461 : decode cL_law 461 = .ok (.iaload, 1) := by decide +kernel
theorem dL_law_462 : decode cL_law 462 = .ok (.aload_n 0, 1) := by decide +kernel
theorem dL_law_463 : decode cL_law 463 = .ok (.iload 4, 2) := by decide +kernel
theorem dL_law_465 : decode cL_law 465 = .ok (.iconst 2, 1) := by decide +kernel
theorem dL_law_466 : decode cL_law 466 = .ok (.iadd, 1) := by decide +kernel
theorem dL_law_467 : decode cL_law 467 = .ok (.iaload, 1) := by decide +kernel
theorem dL_law_468 : decode cL_law 468 = .ok (.aload_n 3, 1) := by decide +kernel
theorem dL_law_469 : decode cL_law 469 = .ok (.invokestatic 97, 3) := by decide +kernel
theorem dL_law_472 : decode cL_law 472 = .ok (.istore 5, 2) := by decide +kernel
theorem dL_law_474 : decode cL_law 474 = .ok (.aload_n 2, 1) := by decide +kernel
theorem dL_law_475 : decode cL_law 475 = .ok (.aload_n 0, 1) := by decide +kernel
theorem dL_law_476 : decode cL_law 476 = .ok (.iload 4, 2) := by decide +kernel
theorem dL_law_478 : decode cL_law 478 = .ok (.iconst 1, 1) := by decide +kernel
theorem dL_law_479 : decode cL_law 479 = .ok (.iadd, 1) := by decide +kernel
theorem dL_law_480 : decode cL_law 480 = .ok (.iaload, 1) := by decide +kernel
theorem dL_law_481 : decode cL_law 481 = .ok (.aload_n 0, 1) := by decide +kernel
theorem dL_law_482 : decode cL_law 482 = .ok (.iload 4, 2) := by decide +kernel
theorem dL_law_484 : decode cL_law 484 = .ok (.iconst 2, 1) := by decide +kernel
theorem dL_law_485 : decode cL_law 485 = .ok (.iadd, 1) := by decide +kernel
theorem dL_law_486 : decode cL_law 486 = .ok (.iaload, 1) := by decide +kernel
theorem dL_law_487 : decode cL_law 487 = .ok (.invokevirtual 99, 3) := by decide +kernel
theorem dL_law_490 : decode cL_law 490 = .ok (.istore 6, 2) := by decide +kernel
theorem dL_law_492 : decode cL_law 492 = .ok (.aload_n 2, 1) := by decide +kernel
theorem dL_law_493 : decode cL_law 493 = .ok (.invokevirtual 74, 3) := by decide +kernel
theorem dL_law_496 : decode cL_law 496 = .ok (.iload 5, 2) := by decide +kernel
theorem dL_law_498 : decode cL_law 498 = .ok (.if_icmp .eq 5, 3) := by decide +kernel
theorem dL_law_501 : decode cL_law 501 = .ok (.iconst 0, 1) := by decide +kernel
theorem dL_law_502 : decode cL_law 502 = .ok (.ireturn, 1) := by decide +kernel
theorem dL_law_503 : decode cL_law 503 = .ok (.iload 5, 2) := by decide +kernel
theorem dL_law_505 : decode cL_law 505 = .ok (.ifCond .ne 15, 3) := by decide +kernel
theorem dL_law_508 : decode cL_law 508 = .ok (.aload_n 3, 1) := by decide +kernel
theorem dL_law_509 : decode cL_law 509 = .ok (.iconst 0, 1) := by decide +kernel
theorem dL_law_510 : decode cL_law 510 = .ok (.laload, 1) := by decide +kernel
theorem dL_law_511 : decode cL_law 511 = .ok (.iload 6, 2) := by decide +kernel
theorem dL_law_513 : decode cL_law 513 = .ok (.i2l, 1) := by decide +kernel
theorem dL_law_514 : decode cL_law 514 = .ok (.lcmp, 1) := by decide +kernel
theorem dL_law_515 : decode cL_law 515 = .ok (.ifCond .eq 5, 3) := by decide +kernel
theorem dL_law_518 : decode cL_law 518 = .ok (.iconst 0, 1) := by decide +kernel
theorem dL_law_519 : decode cL_law 519 = .ok (.ireturn, 1) := by decide +kernel
theorem dL_law_520 : decode cL_law 520 = .ok (.goto 307, 3) := by decide +kernel
theorem dL_law_523 : decode cL_law 523 = .ok (.aload_n 1, 1) := by decide +kernel
theorem dL_law_524 : decode cL_law 524 = .ok (.aload_n 0, 1) := by decide +kernel
theorem dL_law_525 : decode cL_law 525 = .ok (.iload 4, 2) := by decide +kernel
theorem dL_law_527 : decode cL_law 527 = .ok (.iconst 1, 1) := by decide +kernel
theorem dL_law_528 : decode cL_law 528 = .ok (.iadd, 1) := by decide +kernel
theorem dL_law_529 : decode cL_law 529 = .ok (.iaload, 1) := by decide +kernel
theorem dL_law_530 : decode cL_law 530 = .ok (.aload_n 0, 1) := by decide +kernel
theorem dL_law_531 : decode cL_law 531 = .ok (.iload 4, 2) := by decide +kernel
theorem dL_law_533 : decode cL_law 533 = .ok (.iconst 2, 1) := by decide +kernel
theorem dL_law_534 : decode cL_law 534 = .ok (.iadd, 1) := by decide +kernel
theorem dL_law_535 : decode cL_law 535 = .ok (.iaload, 1) := by decide +kernel
theorem dL_law_536 : decode cL_law 536 = .ok (.aload_n 3, 1) := by decide +kernel
theorem dL_law_537 : decode cL_law 537 = .ok (.invokestatic 100, 3) := by decide +kernel
theorem dL_law_540 : decode cL_law 540 = .ok (.istore 5, 2) := by decide +kernel
theorem dL_law_542 : decode cL_law 542 = .ok (.aload_n 2, 1) := by decide +kernel
theorem dL_law_543 : decode cL_law 543 = .ok (.aload_n 0, 1) := by decide +kernel
theorem dL_law_544 : decode cL_law 544 = .ok (.iload 4, 2) := by decide +kernel
theorem dL_law_546 : decode cL_law 546 = .ok (.iconst 1, 1) := by decide +kernel
theorem dL_law_547 : decode cL_law 547 = .ok (.iadd, 1) := by decide +kernel
theorem dL_law_548 : decode cL_law 548 = .ok (.iaload, 1) := by decide +kernel
theorem dL_law_549 : decode cL_law 549 = .ok (.aload_n 0, 1) := by decide +kernel
theorem dL_law_550 : decode cL_law 550 = .ok (.iload 4, 2) := by decide +kernel
theorem dL_law_552 : decode cL_law 552 = .ok (.iconst 2, 1) := by decide +kernel
theorem dL_law_553 : decode cL_law 553 = .ok (.iadd, 1) := by decide +kernel
theorem dL_law_554 : decode cL_law 554 = .ok (.iaload, 1) := by decide +kernel
theorem dL_law_555 : decode cL_law 555 = .ok (.invokevirtual 102, 3) := by decide +kernel
theorem dL_law_558 : decode cL_law 558 = .ok (.istore 6, 2) := by decide +kernel
theorem dL_law_560 : decode cL_law 560 = .ok (.aload_n 2, 1) := by decide +kernel
theorem dL_law_561 : decode cL_law 561 = .ok (.invokevirtual 74, 3) := by decide +kernel
theorem dL_law_564 : decode cL_law 564 = .ok (.iload 5, 2) := by decide +kernel
theorem dL_law_566 : decode cL_law 566 = .ok (.if_icmp .eq 5, 3) := by decide +kernel
theorem dL_law_569 : decode cL_law 569 = .ok (.iconst 0, 1) := by decide +kernel
theorem dL_law_570 : decode cL_law 570 = .ok (.ireturn, 1) := by decide +kernel
theorem dL_law_571 : decode cL_law 571 = .ok (.iload 5, 2) := by decide +kernel
theorem dL_law_573 : decode cL_law 573 = .ok (.ifCond .ne 15, 3) := by decide +kernel
theorem dL_law_576 : decode cL_law 576 = .ok (.aload_n 3, 1) := by decide +kernel
theorem dL_law_577 : decode cL_law 577 = .ok (.iconst 0, 1) := by decide +kernel
theorem dL_law_578 : decode cL_law 578 = .ok (.laload, 1) := by decide +kernel
theorem dL_law_579 : decode cL_law 579 = .ok (.iload 6, 2) := by decide +kernel
theorem dL_law_581 : decode cL_law 581 = .ok (.i2l, 1) := by decide +kernel
theorem dL_law_582 : decode cL_law 582 = .ok (.lcmp, 1) := by decide +kernel
theorem dL_law_583 : decode cL_law 583 = .ok (.ifCond .eq 5, 3) := by decide +kernel
theorem dL_law_586 : decode cL_law 586 = .ok (.iconst 0, 1) := by decide +kernel
theorem dL_law_587 : decode cL_law 587 = .ok (.ireturn, 1) := by decide +kernel
theorem dL_law_588 : decode cL_law 588 = .ok (.goto 239, 3) := by decide +kernel
theorem dL_law_591 : decode cL_law 591 = .ok (.aload_n 1, 1) := by decide +kernel
theorem dL_law_592 : decode cL_law 592 = .ok (.invokevirtual 103, 3) := by decide +kernel
theorem dL_law_595 : decode cL_law 595 = .ok (.aload_n 2, 1) := by decide +kernel
theorem dL_law_596 : decode cL_law 596 = .ok (.invokevirtual 106, 3) := by decide +kernel
theorem dL_law_599 : decode cL_law 599 = .ok (.if_icmp .eq 228, 3) := by decide +kernel
theorem dL_law_602 : decode cL_law 602 = .ok (.iconst 0, 1) := by decide +kernel
theorem dL_law_603 : decode cL_law 603 = .ok (.ireturn, 1) := by decide +kernel
theorem dL_law_604 : decode cL_law 604 = .ok (.aload_n 1, 1) := by decide +kernel
theorem dL_law_605 : decode cL_law 605 = .ok (.aload_n 3, 1) := by decide +kernel
theorem dL_law_606 : decode cL_law 606 = .ok (.invokestatic 107, 3) := by decide +kernel
theorem dL_law_609 : decode cL_law 609 = .ok (.istore 5, 2) := by decide +kernel
theorem dL_law_611 : decode cL_law 611 = .ok (.aload_n 2, 1) := by decide +kernel
theorem dL_law_612 : decode cL_law 612 = .ok (.invokevirtual 110, 3) := by decide +kernel
theorem dL_law_615 : decode cL_law 615 = .ok (.lstore 6, 2) := by decide +kernel
theorem dL_law_617 : decode cL_law 617 = .ok (.aload_n 2, 1) := by decide +kernel
theorem dL_law_618 : decode cL_law 618 = .ok (.invokevirtual 74, 3) := by decide +kernel
theorem dL_law_621 : decode cL_law 621 = .ok (.iload 5, 2) := by decide +kernel
theorem dL_law_623 : decode cL_law 623 = .ok (.if_icmp .eq 5, 3) := by decide +kernel
theorem dL_law_626 : decode cL_law 626 = .ok (.iconst 0, 1) := by decide +kernel
theorem dL_law_627 : decode cL_law 627 = .ok (.ireturn, 1) := by decide +kernel
theorem dL_law_628 : decode cL_law 628 = .ok (.iload 5, 2) := by decide +kernel
theorem dL_law_630 : decode cL_law 630 = .ok (.ifCond .ne 14, 3) := by decide +kernel
theorem dL_law_633 : decode cL_law 633 = .ok (.aload_n 3, 1) := by decide +kernel
theorem dL_law_634 : decode cL_law 634 = .ok (.iconst 0, 1) := by decide +kernel
theorem dL_law_635 : decode cL_law 635 = .ok (.laload, 1) := by decide +kernel
theorem dL_law_636 : decode cL_law 636 = .ok (.lload 6, 2) := by decide +kernel
theorem dL_law_638 : decode cL_law 638 = .ok (.lcmp, 1) := by decide +kernel
theorem dL_law_639 : decode cL_law 639 = .ok (.ifCond .eq 5, 3) := by decide +kernel
theorem dL_law_642 : decode cL_law 642 = .ok (.iconst 0, 1) := by decide +kernel
theorem dL_law_643 : decode cL_law 643 = .ok (.ireturn, 1) := by decide +kernel
theorem dL_law_644 : decode cL_law 644 = .ok (.goto 183, 3) := by decide +kernel
theorem dL_law_647 : decode cL_law 647 = .ok (.aload_n 1, 1) := by decide +kernel
theorem dL_law_648 : decode cL_law 648 = .ok (.aload_n 3, 1) := by decide +kernel
theorem dL_law_649 : decode cL_law 649 = .ok (.invokestatic 111, 3) := by decide +kernel
theorem dL_law_652 : decode cL_law 652 = .ok (.istore 5, 2) := by decide +kernel
theorem dL_law_654 : decode cL_law 654 = .ok (.aload_n 2, 1) := by decide +kernel
theorem dL_law_655 : decode cL_law 655 = .ok (.invokevirtual 113, 3) := by decide +kernel
theorem dL_law_658 : decode cL_law 658 = .ok (.lstore 6, 2) := by decide +kernel
theorem dL_law_660 : decode cL_law 660 = .ok (.aload_n 2, 1) := by decide +kernel
theorem dL_law_661 : decode cL_law 661 = .ok (.invokevirtual 74, 3) := by decide +kernel
theorem dL_law_664 : decode cL_law 664 = .ok (.iload 5, 2) := by decide +kernel
theorem dL_law_666 : decode cL_law 666 = .ok (.if_icmp .eq 5, 3) := by decide +kernel
theorem dL_law_669 : decode cL_law 669 = .ok (.iconst 0, 1) := by decide +kernel
theorem dL_law_670 : decode cL_law 670 = .ok (.ireturn, 1) := by decide +kernel
theorem dL_law_671 : decode cL_law 671 = .ok (.iload 5, 2) := by decide +kernel
theorem dL_law_673 : decode cL_law 673 = .ok (.ifCond .ne 14, 3) := by decide +kernel
theorem dL_law_676 : decode cL_law 676 = .ok (.aload_n 3, 1) := by decide +kernel
theorem dL_law_677 : decode cL_law 677 = .ok (.iconst 0, 1) := by decide +kernel
theorem dL_law_678 : decode cL_law 678 = .ok (.laload, 1) := by decide +kernel
theorem dL_law_679 : decode cL_law 679 = .ok (.lload 6, 2) := by decide +kernel
theorem dL_law_681 : decode cL_law 681 = .ok (.lcmp, 1) := by decide +kernel
theorem dL_law_682 : decode cL_law 682 = .ok (.ifCond .eq 5, 3) := by decide +kernel
theorem dL_law_685 : decode cL_law 685 = .ok (.iconst 0, 1) := by decide +kernel
theorem dL_law_686 : decode cL_law 686 = .ok (.ireturn, 1) := by decide +kernel
theorem dL_law_687 : decode cL_law 687 = .ok (.goto 140, 3) := by decide +kernel
theorem dL_law_690 : decode cL_law 690 = .ok (.aload_n 1, 1) := by decide +kernel
theorem dL_law_691 : decode cL_law 691 = .ok (.aload_n 0, 1) := by decide +kernel
theorem dL_law_692 : decode cL_law 692 = .ok (.iload 4, 2) := by decide +kernel
theorem dL_law_694 : decode cL_law 694 = .ok (.iconst 1, 1) := by decide +kernel
theorem dL_law_695 : decode cL_law 695 = .ok (.iadd, 1) := by decide +kernel
theorem dL_law_696 : decode cL_law 696 = .ok (.iaload, 1) := by decide +kernel
theorem dL_law_697 : decode cL_law 697 = .ok (.aload_n 3, 1) := by decide +kernel
theorem dL_law_698 : decode cL_law 698 = .ok (.invokestatic 114, 3) := by decide +kernel
theorem dL_law_701 : decode cL_law 701 = .ok (.istore 5, 2) := by decide +kernel
theorem dL_law_703 : decode cL_law 703 = .ok (.aload_n 2, 1) := by decide +kernel
theorem dL_law_704 : decode cL_law 704 = .ok (.aload_n 0, 1) := by decide +kernel
theorem dL_law_705 : decode cL_law 705 = .ok (.iload 4, 2) := by decide +kernel
theorem dL_law_707 : decode cL_law 707 = .ok (.iconst 1, 1) := by decide +kernel
theorem dL_law_708 : decode cL_law 708 = .ok (.iadd, 1) := by decide +kernel
theorem dL_law_709 : decode cL_law 709 = .ok (.iaload, 1) := by decide +kernel
theorem dL_law_710 : decode cL_law 710 = .ok (.invokevirtual 116, 3) := by decide +kernel
theorem dL_law_713 : decode cL_law 713 = .ok (.istore 6, 2) := by decide +kernel
theorem dL_law_715 : decode cL_law 715 = .ok (.aload_n 2, 1) := by decide +kernel
theorem dL_law_716 : decode cL_law 716 = .ok (.invokevirtual 74, 3) := by decide +kernel
theorem dL_law_719 : decode cL_law 719 = .ok (.iload 5, 2) := by decide +kernel
theorem dL_law_721 : decode cL_law 721 = .ok (.if_icmp .eq 5, 3) := by decide +kernel
theorem dL_law_724 : decode cL_law 724 = .ok (.iconst 0, 1) := by decide +kernel
theorem dL_law_725 : decode cL_law 725 = .ok (.ireturn, 1) := by decide +kernel
theorem dL_law_726 : decode cL_law 726 = .ok (.iload 5, 2) := by decide +kernel
theorem dL_law_728 : decode cL_law 728 = .ok (.ifCond .ne 15, 3) := by decide +kernel
theorem dL_law_731 : decode cL_law 731 = .ok (.aload_n 3, 1) := by decide +kernel
theorem dL_law_732 : decode cL_law 732 = .ok (.iconst 0, 1) := by decide +kernel
theorem dL_law_733 : decode cL_law 733 = .ok (.laload, 1) := by decide +kernel
theorem dL_law_734 : decode cL_law 734 = .ok (.iload 6, 2) := by decide +kernel
theorem dL_law_736 : decode cL_law 736 = .ok (.i2l, 1) := by decide +kernel
theorem dL_law_737 : decode cL_law 737 = .ok (.lcmp, 1) := by decide +kernel
theorem dL_law_738 : decode cL_law 738 = .ok (.ifCond .eq 5, 3) := by decide +kernel
theorem dL_law_741 : decode cL_law 741 = .ok (.iconst 0, 1) := by decide +kernel
theorem dL_law_742 : decode cL_law 742 = .ok (.ireturn, 1) := by decide +kernel
theorem dL_law_743 : decode cL_law 743 = .ok (.goto 84, 3) := by decide +kernel
theorem dL_law_746 : decode cL_law 746 = .ok (.aload_n 1, 1) := by decide +kernel
theorem dL_law_747 : decode cL_law 747 = .ok (.aload_n 0, 1) := by decide +kernel
theorem dL_law_748 : decode cL_law 748 = .ok (.iload 4, 2) := by decide +kernel
theorem dL_law_750 : decode cL_law 750 = .ok (.iconst 1, 1) := by decide +kernel
theorem dL_law_751 : decode cL_law 751 = .ok (.iadd, 1) := by decide +kernel
theorem dL_law_752 : decode cL_law 752 = .ok (.iaload, 1) := by decide +kernel
theorem dL_law_753 : decode cL_law 753 = .ok (.aload_n 3, 1) := by decide +kernel
theorem dL_law_754 : decode cL_law 754 = .ok (.invokestatic 117, 3) := by decide +kernel
theorem dL_law_757 : decode cL_law 757 = .ok (.istore 5, 2) := by decide +kernel
theorem dL_law_759 : decode cL_law 759 = .ok (.aload_n 2, 1) := by decide +kernel
theorem dL_law_760 : decode cL_law 760 = .ok (.aload_n 0, 1) := by decide +kernel
theorem dL_law_761 : decode cL_law 761 = .ok (.iload 4, 2) := by decide +kernel
theorem dL_law_763 : decode cL_law 763 = .ok (.iconst 1, 1) := by decide +kernel
theorem dL_law_764 : decode cL_law 764 = .ok (.iadd, 1) := by decide +kernel
theorem dL_law_765 : decode cL_law 765 = .ok (.iaload, 1) := by decide +kernel
theorem dL_law_766 : decode cL_law 766 = .ok (.invokevirtual 119, 3) := by decide +kernel
theorem dL_law_769 : decode cL_law 769 = .ok (.istore 6, 2) := by decide +kernel
theorem dL_law_771 : decode cL_law 771 = .ok (.aload_n 2, 1) := by decide +kernel
theorem dL_law_772 : decode cL_law 772 = .ok (.invokevirtual 74, 3) := by decide +kernel
theorem dL_law_775 : decode cL_law 775 = .ok (.iload 5, 2) := by decide +kernel
theorem dL_law_777 : decode cL_law 777 = .ok (.if_icmp .eq 5, 3) := by decide +kernel
theorem dL_law_780 : decode cL_law 780 = .ok (.iconst 0, 1) := by decide +kernel
theorem dL_law_781 : decode cL_law 781 = .ok (.ireturn, 1) := by decide +kernel
theorem dL_law_782 : decode cL_law 782 = .ok (.iload 5, 2) := by decide +kernel
theorem dL_law_784 : decode cL_law 784 = .ok (.ifCond .ne 15, 3) := by decide +kernel
theorem dL_law_787 : decode cL_law 787 = .ok (.aload_n 3, 1) := by decide +kernel
theorem dL_law_788 : decode cL_law 788 = .ok (.iconst 0, 1) := by decide +kernel
theorem dL_law_789 : decode cL_law 789 = .ok (.laload, 1) := by decide +kernel
theorem dL_law_790 : decode cL_law 790 = .ok (.iload 6, 2) := by decide +kernel
theorem dL_law_792 : decode cL_law 792 = .ok (.i2l, 1) := by decide +kernel
theorem dL_law_793 : decode cL_law 793 = .ok (.lcmp, 1) := by decide +kernel
theorem dL_law_794 : decode cL_law 794 = .ok (.ifCond .eq 5, 3) := by decide +kernel
theorem dL_law_797 : decode cL_law 797 = .ok (.iconst 0, 1) := by decide +kernel
theorem dL_law_798 : decode cL_law 798 = .ok (.ireturn, 1) := by decide +kernel
theorem dL_law_799 : decode cL_law 799 = .ok (.goto 28, 3) := by decide +kernel
theorem dL_law_802 : decode cL_law 802 = .ok (.aload_n 1, 1) := by decide +kernel
theorem dL_law_803 : decode cL_law 803 = .ok (.aload_n 0, 1) := by decide +kernel
theorem dL_law_804 : decode cL_law 804 = .ok (.iload 4, 2) := by decide +kernel
theorem dL_law_806 : decode cL_law 806 = .ok (.iconst 1, 1) := by decide +kernel
theorem dL_law_807 : decode cL_law 807 = .ok (.iadd, 1) := by decide +kernel
theorem dL_law_808 : decode cL_law 808 = .ok (.iaload, 1) := by decide +kernel
theorem dL_law_809 : decode cL_law 809 = .ok (.invokevirtual 120, 3) := by decide +kernel
theorem dL_law_812 : decode cL_law 812 = .ok (.aload_n 2, 1) := by decide +kernel
theorem dL_law_813 : decode cL_law 813 = .ok (.aload_n 0, 1) := by decide +kernel
theorem dL_law_814 : decode cL_law 814 = .ok (.iload 4, 2) := by decide +kernel
theorem dL_law_816 : decode cL_law 816 = .ok (.iconst 1, 1) := by decide +kernel
theorem dL_law_817 : decode cL_law 817 = .ok (.iadd, 1) := by decide +kernel
theorem dL_law_818 : decode cL_law 818 = .ok (.iaload, 1) := by decide +kernel
theorem dL_law_819 : decode cL_law 819 = .ok (.invokevirtual 123, 3) := by decide +kernel
theorem dL_law_822 : decode cL_law 822 = .ok (.if_icmp .eq 5, 3) := by decide +kernel
theorem dL_law_825 : decode cL_law 825 = .ok (.iconst 0, 1) := by decide +kernel
theorem dL_law_826 : decode cL_law 826 = .ok (.ireturn, 1) := by decide +kernel
theorem dL_law_827 : decode cL_law 827 = .ok (.iinc 4 6, 3) := by decide +kernel
theorem dL_law_830 : decode cL_law 830 = .ok (.goto (-807), 3) := by decide +kernel
theorem dL_law_833 : decode cL_law 833 = .ok (.iconst 1, 1) := by decide +kernel
theorem dL_law_834 : decode cL_law 834 = .ok (.ireturn, 1) := by decide +kernel
