theorem dJ7_fill_53178_0 : decode cJ7_fill_53178 0 = .ok (.iconst 0, 1) := by decide +kernel
theorem dJ7_fill_53178_1 : decode cJ7_fill_53178 1 = .ok (.istore_n 2, 1) := by decide +kernel
theorem dJ7_fill_53178_2 : decode cJ7_fill_53178 2 = .ok (.aload_n 0, 1) := by decide +kernel
theorem dJ7_fill_53178_3 : decode cJ7_fill_53178 3 = .ok (.arraylength, 1) := by decide +kernel
theorem dJ7_fill_53178_4 : decode cJ7_fill_53178 4 = .ok (.istore_n 3, 1) := by decide +kernel
theorem dJ7_fill_53178_5 : decode cJ7_fill_53178 5 = .ok (.iload_n 2, 1) := by decide +kernel
theorem dJ7_fill_53178_6 : decode cJ7_fill_53178 6 = .ok (.iload_n 3, 1) := by decide +kernel
theorem dJ7_fill_53178_7 : decode cJ7_fill_53178 7 = .ok (.if_icmp .ge 13, 3) := by decide +kernel
theorem dJ7_fill_53178_10 : decode cJ7_fill_53178 10 = .ok (.aload_n 0, 1) := by decide +kernel
theorem dJ7_fill_53178_11 : decode cJ7_fill_53178 11 = .ok (.iload_n 2, 1) := by decide +kernel
theorem dJ7_fill_53178_12 : decode cJ7_fill_53178 12 = .ok (.iload_n 1, 1) := by decide +kernel
theorem dJ7_fill_53178_13 : decode cJ7_fill_53178 13 = .ok (.iastore, 1) := by decide +kernel
theorem dJ7_fill_53178_14 : decode cJ7_fill_53178 14 = .ok (.iinc 2 1, 3) := by decide +kernel
theorem dJ7_fill_53178_17 : decode cJ7_fill_53178 17 = .ok (.goto (-12), 3) := by decide +kernel
theorem dJ7_fill_53178_20 : decode cJ7_fill_53178 20 = .ok (.return_, 1) := by decide +kernel
theorem dL_law_0 : decode cL_law 0 = .ok (.new 7, 3) := by decide +kernel
theorem dL_law_3 : decode cL_law 3 = .ok (.dup, 1) := by decide +kernel
theorem dL_law_4 : decode cL_law 4 = .ok (.invokespecial 9, 3) := by decide +kernel
theorem dL_law_7 : decode cL_law 7 = .ok (.astore_n 1, 1) := by decide +kernel
theorem dL_law_8 : decode cL_law 8 = .ok (.new 10, 3) := by decide +kernel
theorem dL_law_11 : decode cL_law 11 = .ok (.dup, 1) := by decide +kernel
theorem dL_law_12 : decode cL_law 12 = .ok (.invokespecial 12, 3) := by decide +kernel
theorem dL_law_15 : decode cL_law 15 = .ok (.astore_n 2, 1) := by decide +kernel
theorem dL_law_16 : decode cL_law 16 = .ok (.iconst 0, 1) := by decide +kernel
theorem dL_law_17 : decode cL_law 17 = .ok (.istore_n 3, 1) := by decide +kernel
theorem dL_law_18 : decode cL_law 18 = .ok (.iload_n 3, 1) := by decide +kernel
theorem dL_law_19 : decode cL_law 19 = .ok (.aload_n 0, 1) := by decide +kernel
theorem dL_law_20 : decode cL_law 20 = .ok (.arraylength, 1) := by decide +kernel
theorem dL_law_21 : decode cL_law 21 = .ok (.bipush 7, 2) := by decide +kernel
theorem dL_law_23 : decode cL_law 23 = .ok (.isub, 1) := by decide +kernel
theorem dL_law_24 : decode cL_law 24 = .ok (.if_icmp .gt 1249, 3) := by decide +kernel
theorem dL_law_27 : decode cL_law 27 = .ok (.aload_n 0, 1) := by decide +kernel
theorem dL_law_28 : decode cL_law 28 = .ok (.iload_n 3, 1) := by decide +kernel
theorem dL_law_29 : decode cL_law 29 = .ok (.iaload, 1) := by decide +kernel
theorem dL_law_30 : decode cL_law 30 = .ok (.bipush 63, 2) := by decide +kernel
theorem dL_law_32 : decode cL_law 32 = .ok (.iand, 1) := by decide +kernel
theorem dL_law_33 : decode cL_law 33 = .ok (.tableswitch 1234 0 40 #[179, 202, 225, 248, 271, 294, 327, 350, 373, 386, 409, 432, 465, 518, 541, 564, 587, 610, 643, 666, 679, 702, 715, 728, 751, 764, 797, 830, 853, 886, 919, 952, 975, 998, 1031, 1074, 1087, 1162, 1175, 1188, 1211], 179) := by decide +kernel
theorem dL_law_212 : decode cL_law 212 = .ok (.aload_n 1, 1) := by decide +kernel
theorem dL_law_213 : decode cL_law 213 = .ok (.aload_n 0, 1) := by decide +kernel
theorem dL_law_214 : decode cL_law 214 = .ok (.iload_n 3, 1) := by decide +kernel
theorem dL_law_215 : decode cL_law 215 = .ok (.iconst 1, 1) := by decide +kernel
theorem dL_law_216 : decode cL_law 216 = .ok (.iadd, 1) := by decide +kernel
theorem dL_law_217 : decode cL_law 217 = .ok (.iaload, 1) := by decide +kernel
theorem dL_law_218 : decode cL_law 218 = .ok (.invokevirtual 13, 3) := by decide +kernel
theorem dL_law_221 : decode cL_law 221 = .ok (.aload_n 2, 1) := by decide +kernel
theorem dL_law_222 : decode cL_law 222 = .ok (.aload_n 0, 1) := by decide +kernel
theorem dL_law_223 : decode cL_law 223 = .ok (.iload_n 3, 1) := by decide +kernel
theorem dL_law_224 : decode cL_law 224 = .ok (.iconst 1, 1) := by decide +kernel
theorem dL_law_225 : decode cL_law 225 = .ok (.iadd, 1) := by decide +kernel
theorem dL_law_226 : decode cL_law 226 = .ok (.iaload, 1) := by decide +kernel
theorem dL_law_227 : decode cL_law 227 = .ok (.invokevirtual 17, 3) := by decide +kernel
theorem dL_law_230 : decode cL_law 230 = .ok (.if_icmp .eq 1037, 3) := by decide +kernel
theorem dL_law_235 : decode cL_law 235 = .ok (.aload_n 1, 1) := by decide +kernel
theorem dL_law_236 : decode cL_law 236 = .ok (.aload_n 0, 1) := by decide +kernel
theorem dL_law_237 : decode cL_law 237 = .ok (.iload_n 3, 1) := by decide +kernel
theorem dL_law_238 : decode cL_law 238 = .ok (.iconst 1, 1) := by decide +kernel
theorem dL_law_239 : decode cL_law 239 = .ok (.iadd, 1) := by decide +kernel
theorem dL_law_240 : decode cL_law 240 = .ok (.iaload, 1) := by decide +kernel
theorem dL_law_241 : decode cL_law 241 = .ok (.invokevirtual 18, 3) := by decide +kernel
theorem dL_law_244 : decode cL_law 244 = .ok (.aload_n 2, 1) := by decide +kernel
theorem dL_law_245 : decode cL_law 245 = .ok (.aload_n 0, 1) := by decide +kernel
theorem dL_law_246 : decode cL_law 246 = .ok (.iload_n 3, 1) := by decide +kernel
theorem dL_law_247 : decode cL_law 247 = .ok (.iconst 1, 1) := by decide +kernel
theorem dL_law_248 : decode cL_law 248 = .ok (.iadd, 1) := by decide +kernel
theorem dL_law_249 : decode cL_law 249 = .ok (.iaload, 1) := by decide +kernel
theorem dL_law_250 : decode cL_law 250 = .ok (.invokevirtual 21, 3) := by decide +kernel
theorem dL_law_253 : decode cL_law 253 = .ok (.if_icmp .eq 1014, 3) := by decide +kernel
theorem dL_law_258 : decode cL_law 258 = .ok (.aload_n 1, 1) := by decide +kernel
theorem dL_law_259 : decode cL_law 259 = .ok (.aload_n 0, 1) := by decide +kernel
theorem dL_law_260 : decode cL_law 260 = .ok (.iload_n 3, 1) := by decide +kernel
theorem dL_law_261 : decode cL_law 261 = .ok (.iconst 1, 1) := by decide +kernel
theorem dL_law_262 : decode cL_law 262 = .ok (.iadd, 1) := by decide +kernel
theorem dL_law_263 : decode cL_law 263 = .ok (.iaload, 1) := by decide +kernel
theorem dL_law_264 : decode cL_law 264 = .ok (.invokevirtual 22, 3) := by decide +kernel
theorem dL_law_267 : decode cL_law 267 = .ok (.aload_n 2, 1) := by decide +kernel
theorem dL_law_268 : decode cL_law 268 = .ok (.aload_n 0, 1) := by decide +kernel
theorem dL_law_269 : decode cL_law 269 = .ok (.iload_n 3, 1) := by decide +kernel
theorem dL_law_270 : decode cL_law 270 = .ok (.iconst 1, 1) := by decide +kernel
theorem dL_law_271 : decode cL_law 271 = .ok (.iadd, 1) := by decide +kernel
theorem dL_law_272 : decode cL_law 272 = .ok (.iaload, 1) := by decide +kernel
theorem dL_law_273 : decode cL_law 273 = .ok (.invokevirtual 25, 3) := by decide +kernel
theorem dL_law_276 : decode cL_law 276 = .ok (.if_icmp .eq 991, 3) := by decide +kernel
theorem dL_law_281 : decode cL_law 281 = .ok (.aload_n 1, 1) := by decide +kernel
theorem dL_law_282 : decode cL_law 282 = .ok (.aload_n 0, 1) := by decide +kernel
theorem dL_law_283 : decode cL_law 283 = .ok (.iload_n 3, 1) := by decide +kernel
theorem dL_law_284 : decode cL_law 284 = .ok (.iconst 1, 1) := by decide +kernel
theorem dL_law_285 : decode cL_law 285 = .ok (.iadd, 1) := by decide +kernel
theorem dL_law_286 : decode cL_law 286 = .ok (.iaload, 1) := by decide +kernel
theorem dL_law_287 : decode cL_law 287 = .ok (.invokevirtual 26, 3) := by decide +kernel
theorem dL_law_290 : decode cL_law 290 = .ok (.aload_n 2, 1) := by decide +kernel
theorem dL_law_291 : decode cL_law 291 = .ok (.aload_n 0, 1) := by decide +kernel
theorem dL_law_292 : decode cL_law 292 = .ok (.iload_n 3, 1) := by decide +kernel
theorem dL_law_293 : decode cL_law 293 = .ok (.iconst 1, 1) := by decide +kernel
theorem dL_law_294 : decode cL_law 294 = .ok (.iadd, 1) := by decide +kernel
theorem dL_law_295 : decode cL_law 295 = .ok (.iaload, 1) := by decide +kernel
theorem dL_law_296 : decode cL_law 296 = .ok (.invokevirtual 29, 3) := by decide +kernel
theorem dL_law_299 : decode cL_law 299 = .ok (.if_icmp .eq 968, 3) := by decide +kernel
theorem dL_law_304 : decode cL_law 304 = .ok (.aload_n 1, 1) := by decide +kernel
theorem dL_law_305 : decode cL_law 305 = .ok (.aload_n 0, 1) := by decide +kernel
theorem dL_law_306 : decode cL_law 306 = .ok (.iload_n 3, 1) := by decide +kernel
theorem dL_law_307 : decode cL_law 307 = .ok (.iconst 1, 1) := by decide +kernel
theorem dL_law_308 : decode cL_law 308 = .ok (.iadd, 1) := by decide +kernel
theorem dL_law_309 : decode cL_law 309 = .ok (.iaload, 1) := by decide +kernel
theorem dL_law_310 : decode cL_law 310 = .ok (.invokevirtual 30, 3) := by decide +kernel
theorem dL_law_313 : decode cL_law 313 = .ok (.aload_n 2, 1) := by decide +kernel
theorem dL_law_314 : decode cL_law 314 = .ok (.aload_n 0, 1) := by decide +kernel
theorem dL_law_315 : decode cL_law 315 = .ok (.iload_n 3, 1) := by decide +kernel
theorem dL_law_316 : decode cL_law 316 = .ok (.iconst 1, 1) := by decide +kernel
theorem dL_law_317 : decode cL_law 317 = .ok (.iadd, 1) := by decide +kernel
theorem dL_law_318 : decode cL_law 318 = .ok (.iaload, 1) := by decide +kernel
theorem dL_law_319 : decode cL_law 319 = .ok (.invokevirtual 33, 3) := by decide +kernel
theorem dL_law_322 : decode cL_law 322 = .ok (.if_icmp .eq 945, 3) := by decide +kernel
theorem dL_law_327 : decode cL_law 327 = .ok (.aload_n 1, 1) := by decide +kernel
theorem dL_law_328 : decode cL_law 328 = .ok (.aload_n 0, 1) := by decide +kernel
theorem dL_law_329 : decode cL_law 329 = .ok (.iload_n 3, 1) := by decide +kernel
theorem dL_law_330 : decode cL_law 330 = .ok (.iconst 1, 1) := by decide +kernel
theorem dL_law_331 : decode cL_law 331 = .ok (.iadd, 1) := by decide +kernel
theorem dL_law_332 : decode cL_law 332 = .ok (.iaload, 1) := by decide +kernel
theorem dL_law_333 : decode cL_law 333 = .ok (.aload_n 0, 1) := by decide +kernel
theorem dL_law_334 : decode cL_law 334 = .ok (.iload_n 3, 1) := by decide +kernel
theorem dL_law_335 : decode cL_law 335 = .ok (.iconst 2, 1) := by decide +kernel
theorem dL_law_336 : decode cL_law 336 = .ok (.iadd, 1) := by decide +kernel
theorem dL_law_337 : decode cL_law 337 = .ok (.iaload, 1) := by decide +kernel
theorem dL_law_338 : decode cL_law 338 = .ok (.invokevirtual 34, 3) := by decide +kernel
theorem dL_law_341 : decode cL_law 341 = .ok (.aload_n 2, 1) := by decide +kernel
theorem dL_law_342 : decode cL_law 342 = .ok (.aload_n 0, 1) := by decide +kernel
theorem dL_law_343 : decode cL_law 343 = .ok (.iload_n 3, 1) := by decide +kernel
theorem dL_law_344 : decode cL_law 344 = .ok (.iconst 1, 1) := by decide +kernel
theorem dL_law_345 : decode cL_law 345 = .ok (.iadd, 1) := by decide +kernel
theorem dL_law_346 : decode cL_law 346 = .ok (.iaload, 1) := by decide +kernel
theorem dL_law_347 : decode cL_law 347 = .ok (.aload_n 0, 1) := by decide +kernel
theorem dL_law_348 : decode cL_law 348 = .ok (.iload_n 3, 1) := by decide +kernel
theorem dL_law_349 : decode cL_law 349 = .ok (.iconst 2, 1) := by decide +kernel
theorem dL_law_350 : decode cL_law 350 = .ok (.iadd, 1) := by decide +kernel
theorem dL_law_351 : decode cL_law 351 = .ok (.iaload, 1) := by decide +kernel
theorem dL_law_352 : decode cL_law 352 = .ok (.invokevirtual 38, 3) := by decide +kernel
theorem dL_law_355 : decode cL_law 355 = .ok (.if_icmp .eq 912, 3) := by decide +kernel
theorem dL_law_360 : decode cL_law 360 = .ok (.aload_n 1, 1) := by decide +kernel
theorem dL_law_361 : decode cL_law 361 = .ok (.aload_n 0, 1) := by decide +kernel
theorem dL_law_362 : decode cL_law 362 = .ok (.iload_n 3, 1) := by decide +kernel
theorem dL_law_363 : decode cL_law 363 = .ok (.iconst 1, 1) := by decide +kernel
theorem dL_law_364 : decode cL_law 364 = .ok (.iadd, 1) := by decide +kernel
theorem dL_law_365 : decode cL_law 365 = .ok (.iaload, 1) := by decide +kernel
theorem dL_law_366 : decode cL_law 366 = .ok (.invokevirtual 39, 3) := by decide +kernel
theorem dL_law_369 : decode cL_law 369 = .ok (.aload_n 2, 1) := by decide +kernel
theorem dL_law_370 : decode cL_law 370 = .ok (.aload_n 0, 1) := by decide +kernel
theorem dL_law_371 : decode cL_law 371 = .ok (.iload_n 3, 1) := by decide +kernel
theorem dL_law_372 : decode cL_law 372 = .ok (.iconst 1, 1) := by decide +kernel
theorem dL_law_373 : decode cL_law 373 = .ok (.iadd, 1) := by decide +kernel
theorem dL_law_374 : decode cL_law 374 = .ok (.iaload, 1) := by decide +kernel
theorem dL_law_375 : decode cL_law 375 = .ok (.invokevirtual 42, 3) := by decide +kernel
theorem dL_law_378 : decode cL_law 378 = .ok (.if_icmp .eq 889, 3) := by decide +kernel
theorem dL_law_383 : decode cL_law 383 = .ok (.aload_n 1, 1) := by decide +kernel
theorem dL_law_384 : decode cL_law 384 = .ok (.aload_n 0, 1) := by decide +kernel
theorem dL_law_385 : decode cL_law 385 = .ok (.iload_n 3, 1) := by decide +kernel
theorem dL_law_386 : decode cL_law 386 = .ok (.iconst 1, 1) := by decide +kernel
theorem dL_law_387 : decode cL_law 387 = .ok (.iadd, 1) := by decide +kernel
theorem dL_law_388 : decode cL_law 388 = .ok (.iaload, 1) := by decide +kernel
theorem dL_law_389 : decode cL_law 389 = .ok (.invokevirtual 43, 3) := by decide +kernel
theorem dL_law_392 : decode cL_law 392 = .ok (.aload_n 2, 1) := by decide +kernel
theorem dL_law_393 : decode cL_law 393 = .ok (.aload_n 0, 1) := by decide +kernel
theorem dL_law_394 : decode cL_law 394 = .ok (.iload_n 3, 1) := by decide +kernel
theorem dL_law_395 : decode cL_law 395 = .ok (.iconst 1, 1) := by decide +kernel
theorem dL_law_396 : decode cL_law 396 = .ok (.iadd, 1) := by decide +kernel
theorem dL_law_397 : decode cL_law 397 = .ok (.iaload, 1) := by decide +kernel
theorem dL_law_398 : decode cL_law 398 = .ok (.invokevirtual 46, 3) := by decide +kernel
theorem dL_law_401 : decode cL_law 401 = .ok (.if_icmp .eq 866, 3) := by decide +kernel
theorem dL_law_406 : decode cL_law 406 = .ok (.aload_n 1, 1) := by decide +kernel
theorem dL_law_407 : decode cL_law 407 = .ok (.invokevirtual 47, 3) := by decide +kernel
theorem dL_law_410 : decode cL_law 410 = .ok (.aload_n 2, 1) := by decide +kernel
theorem dL_law_411 : decode cL_law 411 = .ok (.invokevirtual 51, 3) := by decide +kernel
theorem dL_law_414 : decode cL_law 414 = .ok (.if_icmp .eq 853, 3) := by decide +kernel
theorem dL_law_419 : decode cL_law 419 = .ok (.aload_n 1, 1) := by decide +kernel
theorem dL_law_420 : decode cL_law 420 = .ok (.aload_n 0, 1) := by decide +kernel
theorem dL_law_421 : decode cL_law 421 = .ok (.iload_n 3, 1) := by decide +kernel
theorem dL_law_422 : decode cL_law 422 = .ok (.iconst 1, 1) := by decide +kernel
theorem dL_law_423 : decode cL_law 423 = .ok (.iadd, 1) := by decide +kernel
theorem dL_law_424 : decode cL_law 424 = .ok (.iaload, 1) := by decide +kernel
theorem dL_law_425 : decode cL_law 425 = .ok (.invokevirtual 52, 3) := by decide +kernel
theorem dL_law_428 : decode cL_law 428 = .ok (.aload_n 2, 1) := by decide +kernel
theorem dL_law_429 : decode cL_law 429 = .ok (.aload_n 0, 1) := by decide +kernel
theorem dL_law_430 : decode cL_law 430 = .ok (.iload_n 3, 1) := by decide +kernel
theorem dL_law_431 : decode cL_law 431 = .ok (.iconst 1, 1) := by decide +kernel
theorem dL_law_432 : decode cL_law 432 = .ok (.iadd, 1) := by decide +kernel
theorem dL_law_433 : decode cL_law 433 = .ok (.iaload, 1) := by decide +kernel
theorem dL_law_434 : decode cL_law 434 = .ok (.invokevirtual 55, 3) := by decide +kernel
theorem dL_law_437 : decode cL_law 437 = .ok (.if_icmp .eq 830, 3) := by decide +kernel
theorem dL_law_442 : decode cL_law 442 = .ok (.aload_n 1, 1) := by decide +kernel
theorem dL_law_443 : decode cL_law 443 = .ok (.aload_n 0, 1) := by decide +kernel
theorem dL_law_444 : decode cL_law 444 = .ok (.iload_n 3, 1) := by decide +kernel
theorem dL_law_445 : decode cL_law 445 = .ok (.iconst 1, 1) := by decide +kernel
theorem dL_law_446 : decode cL_law 446 = .ok (.iadd, 1) := by decide +kernel
theorem dL_law_447 : decode cL_law 447 = .ok (.iaload, 1) := by decide +kernel
theorem dL_law_448 : decode cL_law 448 = .ok (.invokevirtual 56, 3) := by decide +kernel
theorem dL_law_451 : decode cL_law 451 = .ok (.aload_n 2, 1) := by decide +kernel
theorem dL_law_452 : decode cL_law 452 = .ok (.aload_n 0, 1) := by decide +kernel
theorem dL_law_453 : decode cL_law 453 = .ok (.iload_n 3, 1) := by decide +kernel
theorem dL_law_454 : decode cL_law 454 = .ok (.iconst 1, 1) := by decide +kernel
theorem dL_law_455 : decode cL_law 455 = .ok (.iadd, 1) := by decide +kernel
theorem dL_law_456 : decode cL_law 456 = .ok (.iaload, 1) := by decide +kernel
theorem dL_law_457 : decode cL_law 457 = .ok (.invokevirtual 59, 3) := by decide +kernel
theorem dL_law_460 : decode cL_law 460 = .ok (.if_icmp .eq 807, 3) := by decide +kernel
theorem dL_law_465 : decode cL_law 465 = .ok (.aload_n 1, 1) := by decide +kernel
theorem dL_law_466 : decode cL_law 466 = .ok (.aload_n 0, 1) := by decide +kernel
theorem dL_law_467 : decode cL_law 467 = .ok (.iload_n 3, 1) := by decide +kernel
theorem dL_law_468 : decode cL_law 468 = .ok (.iconst 1, 1) := by decide +kernel
theorem dL_law_469 : decode cL_law 469 = .ok (.iadd, 1) := by decide +kernel
theorem dL_law_470 : decode cL_law 470 = .ok (.iaload, 1) := by decide +kernel
theorem dL_law_471 : decode cL_law 471 = .ok (.aload_n 0, 1) := by decide +kernel
theorem dL_law_472 : decode cL_law 472 = .ok (.iload_n 3, 1) := by decide +kernel
theorem dL_law_473 : decode cL_law 473 = .ok (.iconst 2, 1) := by decide +kernel
theorem dL_law_474 : decode cL_law 474 = .ok (.iadd, 1) := by decide +kernel
theorem dL_law_475 : decode cL_law 475 = .ok (.iaload, 1) := by decide +kernel
theorem dL_law_476 : decode cL_law 476 = .ok (.invokevirtual 60, 3) := by decide +kernel
theorem dL_law_479 : decode cL_law 479 = .ok (.aload_n 2, 1) := by decide +kernel
theorem dL_law_480 : decode cL_law 480 = .ok (.aload_n 0, 1) := by decide +kernel
theorem dL_law_481 : decode cL_law 481 = .ok (.iload_n 3, 1) := by decide +kernel
theorem dL_law_482 : decode cL_law 482 = .ok (.iconst 1, 1) := by decide +kernel
theorem dL_law_483 : decode cL_law 483 = .ok (.iadd, 1) := by decide +kernel
theorem dL_law_484 : decode cL_law 484 = .ok (.iaload, 1) := by decide +kernel
theorem dL_law_485 : decode cL_law 485 = .ok (.aload_n 0, 1) := by decide +kernel
theorem dL_law_486 : decode cL_law 486 = .ok (.iload_n 3, 1) := by decide +kernel
theorem dL_law_487 : decode cL_law 487 = .ok (.iconst 2, 1) := by decide +kernel
theorem dL_law_488 : decode cL_law 488 = .ok (.iadd, 1) := by decide +kernel
theorem dL_law_489 : decode cL_law 489 = .ok (.iaload, 1) := by decide +kernel
theorem dL_law_490 : decode cL_law 490 = .ok (.invokevirtual 63, 3) := by decide +kernel
theorem dL_law_493 : decode cL_law 493 = .ok (.if_icmp .eq 774, 3) := by decide +kernel
theorem dL_law_498 : decode cL_law 498 = .ok (.aload_n 1, 1) := by decide +kernel
theorem dL_law_499 : decode cL_law 499 = .ok (.aload_n 0, 1) := by decide +kernel
theorem dL_law_500 : decode cL_law 500 = .ok (.iload_n 3, 1) := by decide +kernel
theorem dL_law_501 : decode cL_law 501 = .ok (.iconst 1, 1) := by decide +kernel
theorem dL_law_502 : decode cL_law 502 = .ok (.iadd, 1) := by decide +kernel
theorem dL_law_503 : decode cL_law 503 = .ok (.iaload, 1) := by decide +kernel
theorem dL_law_504 : decode cL_law 504 = .ok (.aload_n 0, 1) := by decide +kernel
theorem dL_law_505 : decode cL_law 505 = .ok (.iload_n 3, 1) := by decide +kernel
theorem dL_law_506 : decode cL_law 506 = .ok (.iconst 2, 1) := by decide +kernel
theorem dL_law_507 : decode cL_law 507 = .ok (.iadd, 1) := by decide +kernel
theorem dL_law_508 : decode cL_law 508 = .ok (.iaload, 1) := by decide +kernel
theorem dL_law_509 : decode cL_law 509 = .ok (.aload_n 0, 1) := by decide +kernel
theorem dL_law_510 : decode cL_law 510 = .ok (.iload_n 3, 1) := by decide +kernel
theorem dL_law_511 : decode cL_law 511 = .ok (.iconst 3, 1) := by decide +kernel
theorem dL_law_512 : decode cL_law 512 = .ok (.iadd, 1) := by decide +kernel
theorem dL_law_513 : decode cL_law 513 = .ok (.iaload, 1) := by decide +kernel
theorem dL_law_514 : decode cL_law 514 = .ok (.aload_n 0, 1) := by decide +kernel
theorem dL_law_515 : decode cL_law 515 = .ok (.iload_n 3, 1) := by decide +kernel
theorem dL_law_516 : decode cL_law 516 = .ok (.iconst 4, 1) := by decide +kernel
theorem dL_law_517 : decode cL_law 517 = .ok (.iadd, 1) := by decide +kernel
theorem dL_law_518 : decode cL_law 518 = .ok (.iaload, 1) := by decide +kernel
theorem dL_law_519 : decode cL_law 519 = .ok (.invokevirtual 64, 3) := by decide +kernel
theorem dL_law_522 : decode cL_law 522 = .ok (.aload_n 2, 1) := by decide +kernel
theorem dL_law_523 : decode cL_law 523 = .ok (.aload_n 0, 1) := by decide +kernel
theorem dL_law_524 : decode cL_law 524 = .ok (.iload_n 3, 1) := by decide +kernel
theorem dL_law_525 : decode cL_law 525 = .ok (.iconst 1, 1) := by decide +kernel
theorem dL_law_526 : decode cL_law 526 = .ok (.iadd, 1) := by decide +kernel
theorem dL_law_527 : decode cL_law 527 = .ok (.iaload, 1) := by decide +kernel
theorem dL_law_528 : decode cL_law 528 = .ok (.aload_n 0, 1) := by decide +kernel
theorem dL_law_529 : decode cL_law 529 = .ok (.iload_n 3, 1) := by decide +kernel
theorem dL_law_530 : decode cL_law 530 = .ok (.iconst 2, 1) := by decide +kernel
theorem dL_law_531 : decode cL_law 531 = .ok (.iadd, 1) := by decide +kernel
theorem dL_law_532 : decode cL_law 532 = .ok (.iaload, 1) := by decide +kernel
theorem dL_law_533 : decode cL_law 533 = .ok (.aload_n 0, 1) := by decide +kernel
theorem dL_law_534 : decode cL_law 534 = .ok (.iload_n 3, 1) := by decide +kernel
theorem dL_law_535 : decode cL_law 535 = .ok (.iconst 3, 1) := by decide +kernel
theorem dL_law_536 : decode cL_law 536 = .ok (.iadd, 1) := by decide +kernel
theorem dL_law_537 : decode cL_law 537 = .ok (.iaload, 1) := by decide +kernel
theorem dL_law_538 : decode cL_law 538 = .ok (.aload_n 0, 1) := by decide +kernel
theorem dL_law_539 : decode cL_law 539 = .ok (.iload_n 3, 1) := by decide +kernel
theorem dL_law_540 : decode cL_law 540 = .ok (.iconst 4, 1) := by decide +kernel
theorem dL_law_541 : decode cL_law 541 = .ok (.iadd, 1) := by decide +kernel
theorem dL_law_542 : decode cL_law 542 = .ok (.iaload, 1) := by decide +kernel
theorem dL_law_543 : decode cL_law 543 = .ok (.invokevirtual 68, 3) := by decide +kernel
theorem dL_law_546 : decode cL_law 546 = .ok (.if_icmp .eq 721, 3) := by decide +kernel
theorem dL_law_551 : decode cL_law 551 = .ok (.aload_n 1, 1) := by decide +kernel
theorem dL_law_552 : decode cL_law 552 = .ok (.aload_n 0, 1) := by decide +kernel
theorem dL_law_553 : decode cL_law 553 = .ok (.iload_n 3, 1) := by decide +kernel
theorem dL_law_554 : decode cL_law 554 = .ok (.iconst 1, 1) := by decide +kernel
theorem dL_law_555 : decode cL_law 555 = .ok (.iadd, 1) := by decide +kernel
theorem dL_law_556 : decode cL_law 556 = .ok (.iaload, 1) := by decide +kernel
theorem dL_law_557 : decode cL_law 557 = .ok (.invokevirtual 69, 3) := by decide +kernel
theorem dL_law_560 : decode cL_law 560 = .ok (.aload_n 2, 1) := by decide +kernel
theorem dL_law_561 : decode cL_law 561 = .ok (.aload_n 0, 1) := by decide +kernel
theorem dL_law_562 : decode cL_law 562 = .ok (.iload_n 3, 1) := by decide +kernel
theorem dL_law_563 : decode cL_law 563 = .ok (.iconst 1, 1) := by decide +kernel
theorem dL_law_564 : decode cL_law 564 = .ok (.iadd, 1) := by decide +kernel
theorem dL_law_565 : decode cL_law 565 = .ok (.iaload, 1) := by decide +kernel
theorem dL_law_566 : decode cL_law 566 = .ok (.invokevirtual 72, 3) := by decide +kernel
theorem dL_law_569 : decode cL_law 569 = .ok (.if_icmp .eq 698, 3) := by decide +kernel
theorem dL_law_574 : decode cL_law 574 = .ok (.aload_n 1, 1) := by decide +kernel
theorem dL_law_575 : decode cL_law 575 = .ok (.aload_n 0, 1) := by decide +kernel
theorem dL_law_576 : decode cL_law 576 = .ok (.iload_n 3, 1) := by decide +kernel
theorem dL_law_577 : decode cL_law 577 = .ok (.iconst 1, 1) := by decide +kernel
theorem dL_law_578 : decode cL_law 578 = .ok (.iadd, 1) := by decide +kernel
theorem dL_law_579 : decode cL_law 579 = .ok (.iaload, 1) := by decide +kernel
theorem dL_law_580 : decode cL_law 580 = .ok (.invokevirtual 73, 3) := by decide +kernel
theorem dL_law_583 : decode cL_law 583 = .ok (.aload_n 2, 1) := by decide +kernel
theorem dL_law_584 : decode cL_law 584 = .ok (.aload_n 0, 1) := by decide +kernel
theorem dL_law_585 : decode cL_law 585 = .ok (.iload_n 3, 1) := by decide +kernel
theorem dL_law_586 : decode cL_law 586 = .ok (.iconst 1, 1) := by decide +kernel
theorem dL_law_587 : decode cL_law 587 = .ok (.iadd, 1) := by decide +kernel
theorem dL_law_588 : decode cL_law 588 = .ok (.iaload, 1) := by decide +kernel
theorem dL_law_589 : decode cL_law 589 = .ok (.invokevirtual 76, 3) := by decide +kernel
theorem dL_law_592 : decode cL_law 592 = .ok (.if_icmp .eq 675, 3) := by decide +kernel
theorem dL_law_597 : decode cL_law 597 = .ok (.aload_n 1, 1) := by decide +kernel
theorem dL_law_598 : decode cL_law 598 = .ok (.aload_n 0, 1) := by decide +kernel
theorem dL_law_599 : decode cL_law 599 = .ok (.iload_n 3, 1) := by decide +kernel
theorem dL_law_600 : decode cL_law 600 = .ok (.iconst 1, 1) := by decide +kernel
theorem dL_law_601 : decode cL_law 601 = .ok (.iadd, 1) := by decide +kernel
theorem dL_law_602 : decode cL_law 602 = .ok (.iaload, 1) := by decide +kernel
theorem dL_law_603 : decode cL_law 603 = .ok (.invokevirtual 77, 3) := by decide +kernel
theorem dL_law_606 : decode cL_law 606 = .ok (.aload_n 2, 1) := by decide +kernel
theorem dL_law_607 : decode cL_law 607 = .ok (.aload_n 0, 1) := by decide +kernel
theorem dL_law_608 : decode cL_law 608 = .ok (.iload_n 3, 1) := by decide +kernel
theorem dL_law_609 : decode cL_law 609 = .ok (.iconst 1, 1) := by decide +kernel
theorem dL_law_610 : decode cL_law 610 = .ok (.iadd, 1) := by decide +kernel
theorem dL_law_611 : decode cL_law 611 = .ok (.iaload, 1) := by decide +kernel
theorem dL_law_612 : decode cL_law 612 = .ok (.invokevirtual 80, 3) := by decide +kernel
theorem dL_law_615 : decode cL_law 615 = .ok (.if_icmp .eq 652, 3) := by decide +kernel
theorem dL_law_620 : decode cL_law 620 = .ok (.aload_n 1, 1) := by decide +kernel
theorem dL_law_621 : decode cL_law 621 = .ok (.aload_n 0, 1) := by decide +kernel
theorem dL_law_622 : decode cL_law 622 = .ok (.iload_n 3, 1) := by decide +kernel
theorem dL_law_623 : decode cL_law 623 = .ok (.iconst 1, 1) := by decide +kernel
theorem dL_law_624 : decode cL_law 624 = .ok (.iadd, 1) := by decide +kernel
theorem dL_law_625 : decode cL_law 625 = .ok (.iaload, 1) := by decide +kernel
theorem dL_law_626 : decode cL_law 626 = .ok (.invokevirtual 81, 3) := by decide +kernel
theorem dL_law_629 : decode cL_law 629 = .ok (.aload_n 2, 1) := by decide +kernel
theorem dL_law_630 : decode cL_law 630 = .ok (.aload_n 0, 1) := by decide +kernel
theorem dL_law_631 : decode cL_law 631 = .ok (.iload_n 3, 1) := by decide +kernel
theorem dL_law_632 : decode cL_law 632 = .ok (.iconst 1, 1) := by decide +kernel
theorem dL_law_633 : decode cL_law 633 = .ok (.iadd, 1) := by decide +kernel
theorem dL_law_634 : decode cL_law 634 = .ok (.iaload, 1) := by decide +kernel
theorem dL_law_635 : decode cL_law 635 = .ok (.invokevirtual 84, 3) := by decide +kernel
theorem dL_law_638 : decode cL_law 638 = .ok (.if_icmp .eq 629, 3) := by decide +kernel
theorem dL_law_643 : decode cL_law 643 = .ok (.aload_n 1, 1) := by decide +kernel
theorem dL_law_644 : decode cL_law 644 = .ok (.aload_n 0, 1) := by decide +kernel
theorem dL_law_645 : decode cL_law 645 = .ok (.iload_n 3, 1) := by decide +kernel
theorem dL_law_646 : decode cL_law 646 = .ok (.iconst 1, 1) := by decide +kernel
theorem dL_law_647 : decode cL_law 647 = .ok (.iadd, 1) := by decide +kernel
theorem dL_law_648 : decode cL_law 648 = .ok (.iaload, 1) := by decide +kernel
theorem dL_law_649 : decode cL_law 649 = .ok (.aload_n 0, 1) := by decide +kernel
theorem dL_law_650 : decode cL_law 650 = .ok (.iload_n 3, 1) := by decide +kernel
theorem dL_law_651 : decode cL_law 651 = .ok (.iconst 2, 1) := by decide +kernel
theorem dL_law_652 : decode cL_law 652 = .ok (.iadd, 1) := by decide +kernel
theorem dL_law_653 : decode cL_law 653 = .ok (.iaload, 1) := by decide +kernel
theorem dL_law_654 : decode cL_law 654 = .ok (.invokevirtual 85, 3) := by decide +kernel
theorem dL_law_657 : decode cL_law 657 = .ok (.aload_n 2, 1) := by decide +kernel
theorem dL_law_658 : decode cL_law 658 = .ok (.aload_n 0, 1) := by decide +kernel
theorem dL_law_659 : decode cL_law 659 = .ok (.iload_n 3, 1) := by decide +kernel
theorem dL_law_660 : decode cL_law 660 = .ok (.iconst 1, 1) := by decide +kernel
theorem dL_law_661 : decode cL_law 661 = .ok (.iadd, 1) := by decide +kernel
theorem dL_law_662 : decode cL_law 662 = .ok (.iaload, 1) := by decide +kernel
theorem dL_law_663 : decode cL_law 663 = .ok (.aload_n 0, 1) := by decide +kernel
theorem dL_law_664 : decode cL_law 664 = .ok (.iload_n 3, 1) := by decide +kernel
theorem dL_law_665 : decode cL_law 665 = .ok (.iconst 2, 1) := by decide +kernel
theorem dL_law_666 : decode cL_law 666 = .ok (.iadd, 1) := by decide +kernel
theorem dL_law_667 : decode cL_law 667 = .ok (.iaload, 1) := by decide +kernel
theorem dL_law_668 : decode cL_law 668 = .ok (.invokevirtual 88, 3) := by decide +kernel
theorem dL_law_671 : decode cL_law 671 = .ok (.if_icmp .eq 596, 3) := by decide +kernel
theorem dL_law_676 : decode cL_law 676 = .ok (.aload_n 1, 1) := by decide +kernel
theorem dL_law_677 : decode cL_law 677 = .ok (.aload_n 0, 1) := by decide +kernel
theorem dL_law_678 : decode cL_law 678 = .ok (.iload_n 3, 1) := by decide +kernel
theorem dL_law_679 : decode cL_law 679 = .ok (.iconst 1, 1) := by decide +kernel
theorem dL_law_680 : decode cL_law 680 = .ok (.iadd, 1) := by decide +kernel
theorem dL_law_681 : decode cL_law 681 = .ok (.iaload, 1) := by decide +kernel
theorem dL_law_682 : decode cL_law 682 = .ok (.invokevirtual 89, 3) := by decide +kernel
theorem dL_law_685 : decode cL_law 685 = .ok (.aload_n 2, 1) := by decide +kernel
theorem dL_law_686 : decode cL_law 686 = .ok (.aload_n 0, 1) := by decide +kernel
theorem dL_law_687 : decode cL_law 687 = .ok (.iload_n 3, 1) := by decide +kernel
theorem dL_law_688 : decode cL_law 688 = .ok (.iconst 1, 1) := by decide +kernel
theorem dL_law_689 : decode cL_law 689 = .ok (.iadd, 1) := by decide +kernel
theorem dL_law_690 : decode cL_law 690 = .ok (.iaload, 1) := by decide +kernel
theorem dL_law_691 : decode cL_law 691 = .ok (.invokevirtual 92, 3) := by decide +kernel
theorem dL_law_694 : decode cL_law 694 = .ok (.if_icmp .eq 573, 3) := by decide +kernel
theorem dL_law_699 : decode cL_law 699 = .ok (.aload_n 1, 1) := by decide +kernel
theorem dL_law_700 : decode cL_law 700 = .ok (.invokevirtual 93, 3) := by decide +kernel
theorem dL_law_703 : decode cL_law 703 = .ok (.aload_n 2, 1) := by decide +kernel
theorem dL_law_704 : decode cL_law 704 = .ok (.invokevirtual 96, 3) := by decide +kernel
theorem dL_law_707 : decode cL_law 707 = .ok (.if_icmp .eq 560, 3) := by decide +kernel
theorem dL_law_712 : decode cL_law 712 = .ok (.aload_n 1, 1) := by decide +kernel
theorem dL_law_713 : decode cL_law 713 = .ok (.aload_n 0, 1) := by decide +kernel
theorem dL_law_714 : decode cL_law 714 = .ok (.iload_n 3, 1) := by decide +kernel
theorem dL_law_715 : decode cL_law 715 = .ok (.iconst 1, 1) := by decide +kernel
theorem dL_law_716 : decode cL_law 716 = .ok (.iadd, 1) := by decide +kernel
theorem dL_law_717 : decode cL_law 717 = .ok (.iaload, 1) := by decide +kernel
theorem dL_law_718 : decode cL_law 718 = .ok (.invokevirtual 97, 3) := by decide +kernel
theorem dL_law_721 : decode cL_law 721 = .ok (.aload_n 2, 1) := by decide +kernel
theorem dL_law_722 : decode cL_law 722 = .ok (.aload_n 0, 1) := by decide +kernel
theorem dL_law_723 : decode cL_law 723 = .ok (.iload_n 3, 1) := by decide +kernel
theorem dL_law_724 : decode cL_law 724 = .ok (.iconst 1, 1) := by decide +kernel
theorem dL_law_725 : decode cL_law 725 = .ok (.iadd, 1) := by decide +kernel
theorem dL_law_726 : decode cL_law 726 = .ok (.iaload, 1) := by decide +kernel
theorem dL_law_727 : decode cL_law 727 = .ok (.invokevirtual 100, 3) := by decide +kernel
theorem dL_law_730 : decode cL_law 730 = .ok (.if_icmp .eq 537, 3) := by decide +kernel
theorem dL_law_735 : decode cL_law 735 = .ok (.aload_n 1, 1) := by decide +kernel
theorem dL_law_736 : decode cL_law 736 = .ok (.invokevirtual 101, 3) := by decide +kernel
theorem dL_law_739 : decode cL_law 739 = .ok (.aload_n 2, 1) := by decide +kernel
theorem dL_law_740 : decode cL_law 740 = .ok (.invokevirtual 104, 3) := by decide +kernel
theorem dL_law_743 : decode cL_law 743 = .ok (.if_icmp .eq 524, 3) := by decide +kernel
theorem dL_law_748 : decode cL_law 748 = .ok (.aload_n 1, 1) := by decide +kernel
theorem dL_law_749 : decode cL_law 749 = .ok (.invokevirtual 105, 3) := by decide +kernel
theorem dL_law_752 : decode cL_law 752 = .ok (.aload_n 2, 1) := by decide +kernel
theorem dL_law_753 : decode cL_law 753 = .ok (.invokevirtual 108, 3) := by decide +kernel
theorem dL_law_756 : decode cL_law 756 = .ok (.if_icmp .eq 511, 3) := by decide +kernel
theorem dL_law_761 : decode cL_law 761 = .ok (.aload_n 1, 1) := by decide +kernel
theorem dL_law_762 : decode cL_law 762 = .ok (.aload_n 0, 1) := by decide +kernel
theorem dL_law_763 : decode cL_law 763 = .ok (.iload_n 3, 1) := by decide +kernel
theorem dL_law_764 : decode cL_law 764 = .ok (.iconst 1, 1) := by decide +kernel
theorem dL_law_765 : decode cL_law 765 = .ok (.iadd, 1) := by decide +kernel
theorem dL_law_766 : decode cL_law 766 = .ok (.iaload, 1) := by decide +kernel
theorem dL_law_767 : decode cL_law 767 = .ok (.invokevirtual 109, 3) := by decide +kernel
theorem dL_law_770 : decode cL_law 770 = .ok (.aload_n 2, 1) := by decide +kernel
theorem dL_law_771 : decode cL_law 771 = .ok (.aload_n 0, 1) := by decide +kernel
theorem dL_law_772 : decode cL_law 772 = .ok (.iload_n 3, 1) := by decide +kernel
theorem dL_law_773 : decode cL_law 773 = .ok (.iconst 1, 1) := by decide +kernel
theorem dL_law_774 : decode cL_law 774 = .ok (.iadd, 1) := by decide +kernel
theorem dL_law_775 : decode cL_law 775 = .ok (.iaload, 1) := by decide +kernel
theorem dL_law_776 : decode cL_law 776 = .ok (.invokevirtual 112, 3) := by decide +kernel
theorem dL_law_779 : decode cL_law 779 = .ok (.if_icmp .eq 488, 3) := by decide +kernel
theorem dL_law_784 : decode cL_law 784 = .ok (.aload_n 1, 1) := by decide +kernel
theorem dL_law_785 : decode cL_law 785 = .ok (.invokevirtual 113, 3) := by decide +kernel
theorem dL_law_788 : decode cL_law 788 = .ok (.aload_n 2, 1) := by decide +kernel
theorem dL_law_789 : decode cL_law 789 = .ok (.invokevirtual 116, 3) := by decide +kernel
theorem dL_law_792 : decode cL_law 792 = .ok (.if_icmp .eq 475, 3) := by decide +kernel
theorem dL_law_797 : decode cL_law 797 = .ok (.aload_n 1, 1) := by decide +kernel
theorem dL_law_798 : decode cL_law 798 = .ok (.aload_n 0, 1) := by decide +kernel
theorem dL_law_799 : decode cL_law 799 = .ok (.iload_n 3, 1) := by decide +kernel
theorem dL_law_800 : decode cL_law 800 = .ok (.iconst 1, 1) := by decide +kernel
theorem dL_law_801 : decode cL_law 801 = .ok (.iadd, 1) := by decide +kernel
theorem dL_law_802 : decode cL_law 802 = .ok (.iaload, 1) := by decide +kernel
theorem dL_law_803 : decode cL_law 803 = .ok (.aload_n 0, 1) := by decide +kernel
theorem dL_law_804 : decode cL_law 804 = .ok (.iload_n 3, 1) := by decide +kernel
theorem dL_law_805 : decode cL_law 805 = .ok (.iconst 2, 1) := by decide +kernel
theorem dL_law_806 : decode cL_law 806 = .ok (.iadd, 1) := by decide +kernel
theorem dL_law_807 : decode cL_law 807 = .ok (.iaload, 1) := by decide +kernel
theorem dL_law_808 : decode cL_law 808 = .ok (.invokevirtual 117, 3) := by decide +kernel
theorem dL_law_811 : decode cL_law 811 = .ok (.aload_n 2, 1) := by decide +kernel
theorem dL_law_812 : decode cL_law 812 = .ok (.aload_n 0, 1) := by decide +kernel
theorem dL_law_813 : decode cL_law 813 = .ok (.iload_n 3, 1) := by decide +kernel
theorem dL_law_814 : decode cL_law 814 = .ok (.iconst 1, 1) := by decide +kernel
theorem dL_law_815 : decode cL_law 815 = .ok (.iadd, 1) := by decide +kernel
theorem dL_law_816 : decode cL_law 816 = .ok (.iaload, 1) := by decide +kernel
theorem dL_law_817 : decode cL_law 817 = .ok (.aload_n 0, 1) := by decide +kernel
theorem dL_law_818 : decode cL_law 818 = .ok (.iload_n 3, 1) := by decide +kernel
theorem dL_law_819 : decode cL_law 819 = .ok (.iconst 2, 1) := by decide +kernel
theorem dL_law_820 : decode cL_law 820 = .ok (.iadd, 1) := by decide +kernel
theorem dL_law_821 : decode cL_law 821 = .ok (.iaload, 1) := by decide +kernel
theorem dL_law_822 : decode cL_law 822 = .ok (.invokevirtual 120, 3) := by decide +kernel
theorem dL_law_825 : decode cL_law 825 = .ok (.if_icmp .eq 442, 3) := by decide +kernel
theorem dL_law_830 : decode cL_law 830 = .ok (.aload_n 1, 1) := by decide +kernel
theorem dL_law_831 : decode cL_law 831 = .ok (.aload_n 0, 1) := by decide +kernel
theorem dL_law_832 : decode cL_law 832 = .ok (.iload_n 3, 1) := by decide +kernel
theorem dL_law_833 : decode cL_law 833 = .ok (.iconst 1, 1) := by decide +kernel
theorem dL_law_834 : decode cL_law 834 = .ok (.iadd, 1) := by decide +kernel
theorem dL_law_835 : decode cL_law 835 = .ok (.iaload, 1) := by decide +kernel
theorem dL_law_836 : decode cL_law 836 = .ok (.aload_n 0, 1) := by decide +kernel
theorem dL_law_837 : decode cL_law 837 = .ok (.iload_n 3, 1) := by decide +kernel
theorem dL_law_838 : decode cL_law 838 = .ok (.iconst 2, 1) := by decide +kernel
theorem dL_law_839 : decode cL_law 839 = .ok (.iadd, 1) := by decide +kernel
theorem dL_law_840 : decode cL_law 840 = .ok (.iaload, 1) := by decide +kernel
theorem dL_law_841 : decode cL_law 841 = .ok (.invokevirtual 121, 3) := by decide +kernel
theorem dL_law_844 : decode cL_law 844 = .ok (.aload_n 2, 1) := by decide +kernel
theorem dL_law_845 : decode cL_law 845 = .ok (.aload_n 0, 1) := by decide +kernel
theorem dL_law_846 : decode cL_law 846 = .ok (.iload_n 3, 1) := by decide +kernel
theorem dL_law_847 : decode cL_law 847 = .ok (.iconst 1, 1) := by decide +kernel
theorem dL_law_848 : decode cL_law 848 = .ok (.iadd, 1) := by decide +kernel
theorem dL_law_849 : decode cL_law 849 = .ok (.iaload, 1) := by decide +kernel
theorem dL_law_850 : decode cL_law 850 = .ok (.aload_n 0, 1) := by decide +kernel
theorem dL_law_851 : decode cL_law 851 = .ok (.iload_n 3, 1) := by decide +kernel
theorem dL_law_852 : decode cL_law 852 = .ok (.iconst 2, 1) := by decide +kernel
theorem dL_law_853 : decode cL_law 853 = .ok (.iadd, 1) := by decide +kernel
theorem dL_law_854 : decode cL_law 854 = .ok (.iaload, 1) := by decide +kernel
theorem dL_law_855 : decode cL_law 855 = .ok (.invokevirtual 124, 3) := by decide +kernel
theorem dL_law_858 : decode cL_law 858 = .ok (.if_icmp .eq 409, 3) := by decide +kernel
theorem dL_law_863 : decode cL_law 863 = .ok (.aload_n 1, 1) := by decide +kernel
theorem dL_law_864 : decode cL_law 864 = .ok (.aload_n 0, 1) := by decide +kernel
theorem dL_law_865 : decode cL_law 865 = .ok (.iload_n 3, 1) := by decide +kernel
theorem dL_law_866 : decode cL_law 866 = .ok (.iconst 1, 1) := by decide +kernel
theorem dL_law_867 : decode cL_law 867 = .ok (.iadd, 1) := by decide +kernel
theorem dL_law_868 : decode cL_law 868 = .ok (.iaload, 1) := by decide +kernel
theorem dL_law_869 : decode cL_law 869 = .ok (.invokevirtual 125, 3) := by decide +kernel
theorem dL_law_872 : decode cL_law 872 = .ok (.aload_n 2, 1) := by decide +kernel
theorem dL_law_873 : decode cL_law 873 = .ok (.aload_n 0, 1) := by decide +kernel
theorem dL_law_874 : decode cL_law 874 = .ok (.iload_n 3, 1) := by decide +kernel
theorem dL_law_875 : decode cL_law 875 = .ok (.iconst 1, 1) := by decide +kernel
theorem dL_law_876 : decode cL_law 876 = .ok (.iadd, 1) := by decide +kernel
theorem dL_law_877 : decode cL_law 877 = .ok (.iaload, 1) := by decide +kernel
theorem dL_law_878 : decode cL_law 878 = .ok (.invokevirtual 128, 3) := by decide +kernel
theorem dL_law_881 : decode cL_law 881 = .ok (.if_icmp .eq 386, 3) := by decide +kernel
theorem dL_law_886 : decode cL_law 886 = .ok (.aload_n 1, 1) := by decide +kernel
theorem dL_law_887 : decode cL_law 887 = .ok (.aload_n 0, 1) := by decide +kernel
theorem dL_law_888 : decode cL_law 888 = .ok (.iload_n 3, 1) := by decide +kernel
theorem dL_law_889 : decode cL_law 889 = .ok (.iconst 1, 1) := by decide +kernel
theorem dL_law_890 : decode cL_law 890 = .ok (.iadd, 1) := by decide +kernel
theorem dL_law_891 : decode cL_law 891 = .ok (.iaload, 1) := by decide +kernel
theorem dL_law_892 : decode cL_law 892 = .ok (.aload_n 0, 1) := by decide +kernel
theorem dL_law_893 : decode cL_law 893 = .ok (.iload_n 3, 1) := by decide +kernel
theorem dL_law_894 : decode cL_law 894 = .ok (.iconst 2, 1) := by decide +kernel
theorem dL_law_895 : decode cL_law 895 = .ok (.iadd, 1) := by decide +kernel
theorem dL_law_896 : decode cL_law 896 = .ok (.iaload, 1) := by decide +kernel
theorem dL_law_897 : decode cL_law 897 = .ok (.invokevirtual 129, 3) := by decide +kernel
theorem dL_law_900 : decode cL_law 900 = .ok (.aload_n 2, 1) := by decide +kernel
theorem dL_law_901 : decode cL_law 901 = .ok (.aload_n 0, 1) := by decide +kernel
theorem dL_law_902 : decode cL_law 902 = .ok (.iload_n 3, 1) := by decide +kernel
theorem dL_law_903 : decode cL_law 903 = .ok (.iconst 1, 1) := by decide +kernel
theorem dL_law_904 : decode cL_law 904 = .ok (.iadd, 1) := by decide +kernel
theorem dL_law_905 : decode cL_law 905 = .ok (.iaload, 1) := by decide +kernel
theorem dL_law_906 : decode cL_law 906 = .ok (.aload_n 0, 1) := by decide +kernel
theorem dL_law_907 : decode cL_law 907 = .ok (.iload_n 3, 1) := by decide +kernel
theorem dL_law_908 : decode cL_law 908 = .ok (.iconst 2, 1) := by decide +kernel
theorem dL_law_909 : decode cL_law 909 = .ok (.iadd, 1) := by decide +kernel
theorem dL_law_910 : decode cL_law 910 = .ok (.iaload, 1) := by decide +kernel
theorem dL_law_911 : decode cL_law 911 = .ok (.invokevirtual 132, 3) := by decide +kernel
theorem dL_law_914 : decode cL_law 914 = .ok (.if_icmp .eq 353, 3) := by decide +kernel
theorem dL_law_919 : decode cL_law 919 = .ok (.aload_n 1, 1) := by decide +kernel
theorem dL_law_920 : decode cL_law 920 = .ok (.aload_n 0, 1) := by decide +kernel
theorem dL_law_921 : decode cL_law 921 = .ok (.iload_n 3, 1) := by decide +kernel
theorem dL_law_922 : decode cL_law 922 = .ok (.iconst 1, 1) := by decide +kernel
theorem dL_law_923 : decode cL_law 923 = .ok (.iadd, 1) := by decide +kernel
theorem dL_law_924 : decode cL_law 924 = .ok (.iaload, 1) := by decide +kernel
theorem dL_law_925 : decode cL_law 925 = .ok (.aload_n 0, 1) := by decide +kernel
theorem dL_law_926 : decode cL_law 926 = .ok (.iload_n 3, 1) := by decide +kernel
theorem dL_law_927 : decode cL_law 927 = .ok (.iconst 2, 1) := by decide +kernel
theorem dL_law_928 : decode cL_law 928 = .ok (.iadd, 1) := by decide +kernel
theorem dL_law_929 : decode cL_law 929 = .ok (.iaload, 1) := by decide +kernel
theorem dL_law_930 : decode cL_law 930 = .ok (.invokevirtual 133, 3) := by decide +kernel
theorem dL_law_933 : decode cL_law 933 = .ok (.aload_n 2, 1) := by decide +kernel
theorem dL_law_934 : decode cL_law 934 = .ok (.aload_n 0, 1) := by decide +kernel
theorem dL_law_935 : decode cL_law 935 = .ok (.iload_n 3, 1) := by decide +kernel
theorem dL_law_936 : decode cL_law 936 = .ok (.iconst 1, 1) := by decide +kernel
theorem dL_law_937 : decode cL_law 937 = .ok (.iadd, 1) := by decide +kernel
theorem dL_law_938 : decode cL_law 938 = .ok (.iaload, 1) := by decide +kernel
theorem dL_law_939 : decode cL_law 939 = .ok (.aload_n 0, 1) := by decide +kernel
theorem dL_law_940 : decode cL_law 940 = .ok (.iload_n 3, 1) := by decide +kernel
theorem dL_law_941 : decode cL_law 941 = .ok (.iconst 2, 1) := by decide +kernel
theorem dL_law_942 : decode cL_law 942 = .ok (.iadd, 1) := by decide +kernel
theorem dL_law_943 : decode cL_law 943 = .ok (.iaload, 1) := by decide +kernel
theorem dL_law_944 : decode cL_law 944 = .ok (.invokevirtual 136, 3) := by decide +kernel
theorem dL_law_947 : decode cL_law 947 = .ok (.if_icmp .eq 320, 3) := by decide +kernel
theorem dL_law_952 : decode cL_law 952 = .ok (.aload_n 1, 1) := by decide +kernel
theorem dL_law_953 : decode cL_law 953 = .ok (.aload_n 0, 1) := by decide +kernel
theorem dL_law_954 : decode cL_law 954 = .ok (.iload_n 3, 1) := by decide +kernel
theorem dL_law_955 : decode cL_law 955 = .ok (.iconst 1, 1) := by decide +kernel
theorem dL_law_956 : decode cL_law 956 = .ok (.iadd, 1) := by decide +kernel
theorem dL_law_957 : decode cL_law 957 = .ok (.iaload, 1) := by decide +kernel
theorem dL_law_958 : decode cL_law 958 = .ok (.aload_n 0, 1) := by decide +kernel
theorem dL_law_959 : decode cL_law 959 = .ok (.iload_n 3, 1) := by decide +kernel
theorem dL_law_960 : decode cL_law 960 = .ok (.iconst 2, 1) := by decide +kernel
theorem dL_law_961 : decode cL_law 961 = .ok (.iadd, 1) := by decide +kernel
theorem dL_law_962 : decode cL_law 962 = .ok (.iaload, 1) := by decide +kernel
theorem dL_law_963 : decode cL_law 963 = .ok (.invokevirtual 137, 3) := by decide +kernel
theorem dL_law_966 : decode cL_law 966 = .ok (.aload_n 2, 1) := by decide +kernel
theorem dL_law_967 : decode cL_law 967 = .ok (.aload_n 0, 1) := by decide +kernel
theorem dL_law_968 : decode cL_law 968 = .ok (.iload_n 3, 1) := by decide +kernel
theorem dL_law_969 : decode cL_law 969 = .ok (.iconst 1, 1) := by decide +kernel
theorem dL_law_970 : decode cL_law 970 = .ok (.iadd, 1) := by decide +kernel
theorem dL_law_971 : decode cL_law 971 = .ok (.iaload, 1) := by decide +kernel
theorem dL_law_972 : decode cL_law 972 = .ok (.aload_n 0, 1) := by decide +kernel
theorem dL_law_973 : decode cL_law 973 = .ok (.iload_n 3, 1) := by decide +kernel
theorem dL_law_974 : decode cL_law 974 = .ok (.iconst 2, 1) := by decide +kernel
theorem dL_law_975 : decode cL_law 975 = .ok (.iadd, 1) := by decide +kernel
theorem dL_law_976 : decode cL_law 976 = .ok (.iaload, 1) := by decide +kernel
theorem dL_law_977 : decode cL_law 977 = .ok (.invokevirtual 140, 3) := by decide +kernel
theorem dL_law_980 : decode cL_law 980 = .ok (.if_icmp .eq 287, 3) := by decide +kernel
theorem dL_law_985 : decode cL_law 985 = .ok (.aload_n 1, 1) := by decide +kernel
theorem dL_law_986 : decode cL_law 986 = .ok (.aload_n 0, 1) := by decide +kernel
theorem dL_law_987 : decode cL_law 987 = .ok (.iload_n 3, 1) := by decide +kernel
theorem dL_law_988 : decode cL_law 988 = .ok (.iconst 1, 1) := by decide +kernel
theorem dL_law_989 : decode cL_law 989 = .ok (.iadd, 1) := by decide +kernel
theorem dL_law_990 : decode cL_law 990 = .ok (.iaload, 1) := by decide +kernel
theorem dL_law_991 : decode cL_law 991 = .ok (.invokevirtual 141, 3) := by decide +kernel
theorem dL_law_994 : decode cL_law 994 = .ok (.aload_n 2, 1) := by decide +kernel
theorem dL_law_995 : decode cL_law 995 = .ok (.aload_n 0, 1) := by decide +kernel
theorem dL_law_996 : decode cL_law 996 = .ok (.iload_n 3, 1) := by decide +kernel
theorem dL_law_997 : decode cL_law 997 = .ok (.iconst 1, 1) := by decide +kernel
theorem dL_law_998 : decode cL_law 998 = .ok (.iadd, 1) := by decide +kernel
theorem dL_law_999 : decode cL_law 999 = .ok (.iaload, 1) := by decide +kernel
theorem dL_law_1000 : decode cL_law 1000 = .ok (.invokevirtual 144, 3) := by decide +kernel
theorem dL_law_1003 : decode cL_law 1003 = .ok (.if_icmp .eq 264, 3) := by decide +kernel
theorem dL_law_1008 : decode cL_law 1008 = .ok (.aload_n 1, 1) := by decide +kernel
theorem dL_law_1009 : decode cL_law 1009 = .ok (.aload_n 0, 1) := by decide +kernel
theorem dL_law_1010 : decode cL_law 1010 = .ok (.iload_n 3, 1) := by decide +kernel
theorem dL_law_1011 : decode cL_law 1011 = .ok (.iconst 1, 1) := by decide +kernel
theorem dL_law_1012 : decode cL_law 1012 = .ok (.iadd, 1) := by decide +kernel
theorem dL_law_1013 : decode cL_law 1013 = .ok (.iaload, 1) := by decide +kernel
theorem dL_law_1014 : decode cL_law 1014 = .ok (.invokevirtual 145, 3) := by decide +kernel
theorem dL_law_1017 : decode cL_law 1017 = .ok (.aload_n 2, 1) := by decide +kernel
theorem dL_law_1018 : decode cL_law 1018 = .ok (.aload_n 0, 1) := by decide +kernel
theorem dL_law_1019 : decode cL_law 1019 = .ok (.iload_n 3, 1) := by decide +kernel
theorem dL_law_1020 : decode cL_law 1020 = .ok (.iconst 1, 1) := by decide +kernel
theorem dL_law_1021 : decode cL_law 1021 = .ok (.iadd, 1) := by decide +kernel
theorem dL_law_1022 : decode cL_law 1022 = .ok (.iaload, 1) := by decide +kernel
theorem dL_law_1023 : decode cL_law 1023 = .ok (.invokevirtual 148, 3) := by decide +kernel
theorem dL_law_1026 : decode cL_law 1026 = .ok (.if_icmp .eq 241, 3) := by decide +kernel
theorem dL_law_1031 : decode cL_law 1031 = .ok (.aload_n 1, 1) := by decide +kernel
theorem dL_law_1032 : decode cL_law 1032 = .ok (.aload_n 0, 1) := by decide +kernel
theorem dL_law_1033 : decode cL_law 1033 = .ok (.iload_n 3, 1) := by decide +kernel
theorem dL_law_1034 : decode cL_law 1034 = .ok (.iconst 1, 1) := by decide +kernel
theorem dL_law_1035 : decode cL_law 1035 = .ok (.iadd, 1) := by decide +kernel
theorem dL_law_1036 : decode cL_law 1036 = .ok (.iaload, 1) := by decide +kernel
theorem dL_law_1037 : decode cL_law 1037 = .ok (.aload_n 0, 1) := by decide +kernel
theorem dL_law_1038 : decode cL_law 1038 = .ok (.iload_n 3, 1) := by decide +kernel
theorem dL_law_1039 : decode cL_law 1039 = .ok (.iconst 2, 1) := by decide +kernel
theorem dL_law_1040 : decode cL_law 1040 = .ok (.iadd, 1) := by decide +kernel
theorem dL_law_1041 : decode cL_law 1041 = .ok (.iaload, 1) := by decide +kernel
theorem dL_law_1042 : decode cL_law 1042 = .ok (.invokevirtual 149, 3) := by decide +kernel
theorem dL_law_1045 : decode cL_law 1045 = .ok (.aload_n 2, 1) := by decide +kernel
theorem dL_law_1046 : decode cL_law 1046 = .ok (.aload_n 0, 1) := by decide +kernel
theorem dL_law_1047 : decode cL_law 1047 = .ok (.iload_n 3, 1) := by decide +kernel
theorem dL_law_1048 : decode cL_law 1048 = .ok (.iconst 1, 1) := by decide +kernel
theorem dL_law_1049 : decode cL_law 1049 = .ok (.iadd, 1) := by decide +kernel
theorem dL_law_1050 : decode cL_law 1050 = .ok (.iaload, 1) := by decide +kernel
theorem dL_law_1051 : decode cL_law 1051 = .ok (.aload_n 0, 1) := by decide +kernel
theorem dL_law_1052 : decode cL_law 1052 = .ok (.iload_n 3, 1) := by decide +kernel
theorem dL_law_1053 : decode cL_law 1053 = .ok (.iconst 2, 1) := by decide +kernel
theorem dL_law_1054 : decode cL_law 1054 = .ok (.iadd, 1) := by decide +kernel
theorem dL_law_1055 : decode cL_law 1055 = .ok (.iaload, 1) := by decide +kernel
theorem dL_law_1056 : decode cL_law 1056 = .ok (.invokevirtual 152, 3) := by decide +kernel
theorem dL_law_1059 : decode cL_law 1059 = .ok (.if_icmp .eq 208, 3) := by decide +kernel
theorem dL_law_1064 : decode cL_law 1064 = .ok (.aload_n 1, 1) := by decide +kernel
theorem dL_law_1065 : decode cL_law 1065 = .ok (.aload_n 0, 1) := by decide +kernel
theorem dL_law_1066 : decode cL_law 1066 = .ok (.iload_n 3, 1) := by decide +kernel
theorem dL_law_1067 : decode cL_law 1067 = .ok (.iconst 1, 1) := by decide +kernel
theorem dL_law_1068 : decode cL_law 1068 = .ok (.iadd, 1) := by decide +kernel
theorem dL_law_1069 : decode cL_law 1069 = .ok (.iaload, 1) := by decide +kernel
theorem dL_law_1070 : decode cL_law 1070 = .ok (.aload_n 0, 1) := by decide +kernel
theorem dL_law_1071 : decode cL_law 1071 = .ok (.iload_n 3, 1) := by decide +kernel
theorem dL_law_1072 : decode cL_law 1072 = .ok (.iconst 2, 1) := by decide +kernel
theorem dL_law_1073 : decode cL_law 1073 = .ok (.iadd, 1) := by decide +kernel
theorem dL_law_1074 : decode cL_law 1074 = .ok (.iaload, 1) := by decide +kernel
theorem dL_law_1075 : decode cL_law 1075 = .ok (.aload_n 0, 1) := by decide +kernel
theorem dL_law_1076 : decode cL_law 1076 = .ok (.iload_n 3, 1) := by decide +kernel
theorem dL_law_1077 : decode cL_law 1077 = .ok (.iconst 3, 1) := by decide +kernel
theorem dL_law_1078 : decode cL_law 1078 = .ok (.iadd, 1) := by decide +kernel
theorem dL_law_1079 : decode cL_law 1079 = .ok (.iaload, 1) := by decide +kernel
theorem dL_law_1080 : decode cL_law 1080 = .ok (.invokevirtual 153, 3) := by decide +kernel
theorem dL_law_1083 : decode cL_law 1083 = .ok (.aload_n 2, 1) := by decide +kernel
theorem dL_law_1084 : decode cL_law 1084 = .ok (.aload_n 0, 1) := by decide +kernel
theorem dL_law_1085 : decode cL_law 1085 = .ok (.iload_n 3, 1) := by decide +kernel
theorem dL_law_1086 : decode cL_law 1086 = .ok (.iconst 1, 1) := by decide +kernel
theorem dL_law_1087 : decode cL_law 1087 = .ok (.iadd, 1) := by decide +kernel
theorem dL_law_1088 : decode cL_law 1088 = .ok (.iaload, 1) := by decide +kernel
theorem dL_law_1089 : decode cL_law 1089 = .ok (.aload_n 0, 1) := by decide +kernel
theorem dL_law_1090 : decode cL_law 1090 = .ok (.iload_n 3, 1) := by decide +kernel
theorem dL_law_1091 : decode cL_law 1091 = .ok (.iconst 2, 1) := by decide +kernel
theorem dL_law_1092 : decode cL_law 1092 = .ok (.iadd, 1) := by decide +kernel
theorem dL_law_1093 : decode cL_law 1093 = .ok (.iaload, 1) := by decide +kernel
theorem dL_law_1094 : decode cL_law 1094 = .ok (.aload_n 0, 1) := by decide +kernel
theorem dL_law_1095 : decode cL_law 1095 = .ok (.iload_n 3, 1) := by decide +kernel
theorem dL_law_1096 : decode cL_law 1096 = .ok (.iconst 3, 1) := by decide +kernel
theorem dL_law_1097 : decode cL_law 1097 = .ok (.iadd, 1) := by decide +kernel
theorem dL_law_1098 : decode cL_law 1098 = .ok (.iaload, 1) := by decide +kernel
theorem dL_law_1099 : decode cL_law 1099 = .ok (.invokevirtual 157, 3) := by decide +kernel
theorem dL_law_1102 : decode cL_law 1102 = .ok (.if_icmp .eq 165, 3) := by decide +kernel
theorem dL_law_1107 : decode cL_law 1107 = .ok (.aload_n 1, 1) := by decide +kernel
theorem dL_law_1108 : decode cL_law 1108 = .ok (.invokevirtual 158, 3) := by decide +kernel
theorem dL_law_1111 : decode cL_law 1111 = .ok (.aload_n 2, 1) := by decide +kernel
theorem dL_law_1112 : decode cL_law 1112 = .ok (.invokevirtual 161, 3) := by decide +kernel
theorem dL_law_1115 : decode cL_law 1115 = .ok (.if_icmp .eq 152, 3) := by decide +kernel
theorem dL_law_1120 : decode cL_law 1120 = .ok (.aload_n 1, 1) := by decide +kernel
theorem dL_law_1121 : decode cL_law 1121 = .ok (.aload_n 0, 1) := by decide +kernel
theorem dL_law_1122 : decode cL_law 1122 = .ok (.iload_n 3, 1) := by decide +kernel
theorem dL_law_1123 : decode cL_law 1123 = .ok (.iconst 1, 1) := by decide +kernel
theorem dL_law_1124 : decode cL_law 1124 = .ok (.iadd, 1) := by decide +kernel
theorem dL_law_1125 : decode cL_law 1125 = .ok (.iaload, 1) := by decide +kernel
theorem dL_law_1126 : decode cL_law 1126 = .ok (.aload_n 0, 1) := by decide +kernel
theorem dL_law_1127 : decode cL_law 1127 = .ok (.iload_n 3, 1) := by decide +kernel
theorem dL_law_1128 : decode cL_law 1128 = .ok (.iconst 2, 1) := by decide +kernel
theorem dL_law_1129 : decode cL_law 1129 = .ok (.iadd, 1) := by decide +kernel
theorem dL_law_1130 : decode cL_law 1130 = .ok (.iaload, 1) := by decide +kernel
theorem dL_law_1131 : decode cL_law 1131 = .ok (.aload_n 0, 1) := by decide +kernel
theorem dL_law_1132 : decode cL_law 1132 = .ok (.iload_n 3, 1) := by decide +kernel
theorem dL_law_1133 : decode cL_law 1133 = .ok (.iconst 3, 1) := by decide +kernel
theorem dL_law_1134 : decode cL_law 1134 = .ok (.iadd, 1) := by decide +kernel
theorem dL_law_1135 : decode cL_law 1135 = .ok (.iaload, 1) := by decide +kernel
theorem dL_law_1136 : decode cL_law 1136 = .ok (.aload_n 0, 1) := by decide +kernel
theorem dL_law_1137 : decode cL_law 1137 = .ok (.iload_n 3, 1) := by decide +kernel
theorem dL_law_1138 : decode cL_law 1138 = .ok (.iconst 4, 1) := by decide +kernel
theorem dL_law_1139 : decode cL_law 1139 = .ok (.iadd, 1) := by decide +kernel
theorem dL_law_1140 : decode cL_law 1140 = .ok (.iaload, 1) := by decide +kernel
theorem dL_law_1141 : decode cL_law 1141 = .ok (.aload_n 0, 1) := by decide +kernel
theorem dL_law_1142 : decode cL_law 1142 = .ok (.iload_n 3, 1) := by decide +kernel
theorem dL_law_1143 : decode cL_law 1143 = .ok (.iconst 5, 1) := by decide +kernel
theorem dL_law_1144 : decode cL_law 1144 = .ok (.iadd, 1) := by decide +kernel
theorem dL_law_1145 : decode cL_law 1145 = .ok (.iaload, 1) := by decide +kernel
theorem dL_law_1146 : decode cL_law 1146 = .ok (.aload_n 0, 1) := by decide +kernel
theorem dL_law_1147 : decode cL_law 1147 = .ok (.iload_n 3, 1) := by decide +kernel
theorem dL_law_1148 : decode cL_law 1148 = .ok (.bipush 6, 2) := by decide +kernel
theorem dL_law_1150 : decode cL_law 1150 = .ok (.iadd, 1) := by decide +kernel
theorem dL_law_1151 : decode cL_law 1151 = .ok (.iaload, 1) := by decide +kernel
theorem dL_law_1152 : decode cL_law 1152 = .ok (.invokevirtual 162, 3) := by decide +kernel
theorem dL_law_1155 : decode cL_law 1155 = .ok (.aload_n 2, 1) := by decide +kernel
theorem dL_law_1156 : decode cL_law 1156 = .ok (.aload_n 0, 1) := by decide +kernel
theorem dL_law_1157 : decode cL_law 1157 = .ok (.iload_n 3, 1) := by decide +kernel
theorem dL_law_1158 : decode cL_law 1158 = .ok (.iconst 1, 1) := by decide +kernel
theorem dL_law_1159 : decode cL_law 1159 = .ok (.iadd, 1) := by decide +kernel
theorem dL_law_1160 : decode cL_law 1160 = .ok (.iaload, 1) := by decide +kernel
theorem dL_law_1161 : decode cL_law 1161 = .ok (.aload_n 0, 1) := by decide +kernel
theorem dL_law_1162 : decode cL_law 1162 = .ok (.iload_n 3, 1) := by decide +kernel
theorem dL_law_1163 : decode cL_law 1163 = .ok (.iconst 2, 1) := by decide +kernel
theorem dL_law_1164 : decode cL_law 1164 = .ok (.iadd, 1) := by decide +kernel
theorem dL_law_1165 : decode cL_law 1165 = .ok (.iaload, 1) := by decide +kernel
theorem dL_law_1166 : decode cL_law 1166 = .ok (.aload_n 0, 1) := by decide +kernel
theorem dL_law_1167 : decode cL_law 1167 = .ok (.iload_n 3, 1) := by decide +kernel
theorem dL_law_1168 : decode cL_law 1168 = .ok (.iconst 3, 1) := by decide +kernel
theorem dL_law_1169 : decode cL_law 1169 = .ok (.iadd, 1) := by decide +kernel
theorem dL_law_1170 : decode cL_law 1170 = .ok (.iaload, 1) := by decide +kernel
theorem dL_law_1171 : decode cL_law 1171 = .ok (.aload_n 0, 1) := by decide +kernel
theorem dL_law_1172 : decode cL_law 1172 = .ok (.iload_n 3, 1) := by decide +kernel
theorem dL_law_1173 : decode cL_law 1173 = .ok (.iconst 4, 1) := by decide +kernel
theorem dL_law_1174 : decode cL_law 1174 = .ok (.iadd, 1) := by decide +kernel
theorem dL_law_1175 : decode cL_law 1175 = .ok (.iaload, 1) := by decide +kernel
theorem dL_law_1176 : decode cL_law 1176 = .ok (.aload_n 0, 1) := by decide +kernel
theorem dL_law_1177 : decode cL_law 1177 = .ok (.iload_n 3, 1) := by decide +kernel
theorem dL_law_1178 : decode cL_law 1178 = .ok (.iconst 5, 1) := by decide +kernel
theorem dL_law_1179 : decode cL_law 1179 = .ok (.iadd, 1) := by decide +kernel
theorem dL_law_1180 : decode cL_law 1180 = .ok (.iaload, 1) := by decide +kernel
theorem dL_law_1181 : decode cL_law 1181 = .ok (.aload_n 0, 1) := by decide +kernel
theorem dL_law_1182 : decode cL_law 1182 = .ok (.iload_n 3, 1) := by decide +kernel
theorem dL_law_1183 : decode cL_law 1183 = .ok (.bipush 6, 2) := by decide +kernel
theorem dL_law_1185 : decode cL_law 1185 = .ok (.iadd, 1) := by decide +kernel
theorem dL_law_1186 : decode cL_law 1186 = .ok (.iaload, 1) := by decide +kernel
theorem dL_law_1187 : decode cL_law 1187 = .ok (.invokevirtual 166, 3) := by decide +kernel
theorem dL_law_1190 : decode cL_law 1190 = .ok (.if_icmp .eq 77, 3) := by decide +kernel
theorem dL_law_1195 : decode cL_law 1195 = .ok (.aload_n 1, 1) := by decide +kernel
theorem dL_law_1196 : decode cL_law 1196 = .ok (.invokevirtual 167, 3) := by decide +kernel
theorem dL_law_1199 : decode cL_law 1199 = .ok (.aload_n 2, 1) := by decide +kernel
theorem dL_law_1200 : decode cL_law 1200 = .ok (.invokevirtual 170, 3) := by decide +kernel
theorem dL_law_1203 : decode cL_law 1203 = .ok (.if_icmp .eq 64, 3) := by decide +kernel
theorem dL_law_1208 : decode cL_law 1208 = .ok (.aload_n 1, 1) := by decide +kernel
theorem dL_law_1209 : decode cL_law 1209 = .ok (.invokevirtual 171, 3) := by decide +kernel
theorem dL_law_1212 : decode cL_law 1212 = .ok (.aload_n 2, 1) := by decide +kernel
theorem dL_law_1213 : decode cL_law 1213 = .ok (.invokevirtual 174, 3) := by decide +kernel
theorem dL_law_1216 : decode cL_law 1216 = .ok (.if_icmp .eq 51, 3) := by decide +kernel
theorem dL_law_1221 : decode cL_law 1221 = .ok (.aload_n 1, 1) := by decide +kernel
theorem dL_law_1222 : decode cL_law 1222 = .ok (.aload_n 0, 1) := by decide +kernel
theorem dL_law_1223 : decode cL_law 1223 = .ok (.iload_n 3, 1) := by decide +kernel
theorem dL_law_1224 : decode cL_law 1224 = .ok (.iconst 1, 1) := by decide +kernel
theorem dL_law_1225 : decode cL_law 1225 = .ok (.iadd, 1) := by decide +kernel
theorem dL_law_1226 : decode cL_law 1226 = .ok (.iaload, 1) := by decide +kernel
theorem dL_law_1227 : decode cL_law 1227 = .ok (.invokevirtual 175, 3) := by decide +kernel
theorem dL_law_1230 : decode cL_law 1230 = .ok (.aload_n 2, 1) := by decide +kernel
theorem dL_law_1231 : decode cL_law 1231 = .ok (.aload_n 0, 1) := by decide +kernel
theorem dL_law_1232 : decode cL_law 1232 = .ok (.iload_n 3, 1) := by decide +kernel
theorem dL_law_1233 : decode cL_law 1233 = .ok (.iconst 1, 1) := by decide +kernel
theorem dL_law_1234 : decode cL_law 1234 = .ok (.iadd, 1) := by decide +kernel
theorem dL_law_1235 : decode cL_law 1235 = .ok (.iaload, 1) := by decide +kernel
theorem dL_law_1236 : decode cL_law 1236 = .ok (.invokevirtual 178, 3) := by decide +kernel
theorem dL_law_1239 : decode cL_law 1239 = .ok (.if_icmp .eq 28, 3) := by decide +kernel
theorem dL_law_1244 : decode cL_law 1244 = .ok (.aload_n 1, 1) := by decide +kernel
theorem dL_law_1245 : decode cL_law 1245 = .ok (.aload_n 0, 1) := by decide +kernel
theorem dL_law_1246 : decode cL_law 1246 = .ok (.iload_n 3, 1) := by decide +kernel
theorem dL_law_1247 : decode cL_law 1247 = .ok (.iconst 1, 1) := by decide +kernel
theorem dL_law_1248 : decode cL_law 1248 = .ok (.iadd, 1) := by decide +kernel
theorem dL_law_1249 : decode cL_law 1249 = .ok (.iaload, 1) := by decide +kernel
theorem dL_law_1250 : decode cL_law 1250 = .ok (.invokevirtual 179, 3) := by decide +kernel
theorem dL_law_1253 : decode cL_law 1253 = .ok (.aload_n 2, 1) := by decide +kernel
theorem dL_law_1254 : decode cL_law 1254 = .ok (.aload_n 0, 1) := by decide +kernel
theorem dL_law_1255 : decode cL_law 1255 = .ok (.iload_n 3, 1) := by decide +kernel
theorem dL_law_1256 : decode cL_law 1256 = .ok (.iconst 1, 1) := by decide +kernel
theorem dL_law_1257 : decode cL_law 1257 = .ok (.iadd, 1) := by decide +kernel
theorem dL_law_1258 : decode cL_law 1258 = .ok (.iaload, 1) := by decide +kernel
theorem dL_law_1259 : decode cL_law 1259 = .ok (.invokevirtual 182, 3) := by decide +kernel
theorem dL_law_1262 : decode cL_law 1262 = .ok (.if_icmp .eq 5, 3) := by decide +kernel
theorem dL_law_1267 : decode cL_law 1267 = .ok (.iinc 3 7, 3) := by decide +kernel
theorem dL_law_1270 : decode cL_law 1270 = .ok (.goto (-1252), 3) := by decide +kernel
theorem dL_law_1273 : decode cL_law 1273 = .ok (.iconst 1, 1) := by decide +kernel
theorem dL_law_1274 : decode cL_law 1274 = .ok (.ireturn, 1) := by decide +kernel
theorem dX0_become_0 : decode cX0_become 0 = .ok (.aload_n 0, 1) := by decide +kernel
theorem dX0_become_1 : decode cX0_become 1 = .ok (.invokevirtual 59, 3) := by decide +kernel
theorem dX0_become_4 : decode cX0_become 4 = .ok (.aload_n 0, 1) := by decide +kernel
theorem dX0_become_5 : decode cX0_become 5 = .ok (.getfield 12, 3) := by decide +kernel
theorem dX0_become_8 : decode cX0_become 8 = .ok (.aload_n 1, 1) := by decide +kernel
theorem dX0_become_9 : decode cX0_become 9 = .ok (.getfield 12, 3) := by decide +kernel
theorem dX0_become_12 : decode cX0_become 12 = .ok (.invokevirtual 76, 3) := by decide +kernel
theorem dX0_become_15 : decode cX0_become 15 = .ok (.aload_n 0, 1) := by decide +kernel
theorem dX0_become_16 : decode cX0_become 16 = .ok (.aload_n 1, 1) := by decide +kernel
theorem dX0_become_17 : decode cX0_become 17 = .ok (.getfield 21, 3) := by decide +kernel
theorem dX0_become_20 : decode cX0_become 20 = .ok (.aload_n 0, 1) := by decide +kernel
theorem dX0_become_21 : decode cX0_become 21 = .ok (.getfield 21, 3) := by decide +kernel
theorem dX0_become_24 : decode cX0_become 24 = .ok (.invokevirtual 80, 3) := by decide +kernel
theorem dX0_become_27 : decode cX0_become 27 = .ok (.aload_n 0, 1) := by decide +kernel
theorem dX0_become_28 : decode cX0_become 28 = .ok (.getfield 28, 3) := by decide +kernel
theorem dX0_become_31 : decode cX0_become 31 = .ok (.aload_n 1, 1) := by decide +kernel
theorem dX0_become_32 : decode cX0_become 32 = .ok (.getfield 28, 3) := by decide +kernel
theorem dX0_become_35 : decode cX0_become 35 = .ok (.getfield 84, 3) := by decide +kernel
theorem dX0_become_38 : decode cX0_become 38 = .ok (.putfield 84, 3) := by decide +kernel
theorem dX0_become_41 : decode cX0_become 41 = .ok (.aload_n 0, 1) := by decide +kernel
theorem dX0_become_42 : decode cX0_become 42 = .ok (.aload_n 1, 1) := by decide +kernel
theorem dX0_become_43 : decode cX0_become 43 = .ok (.getfield 28, 3) := by decide +kernel
theorem dX0_become_46 : decode cX0_become 46 = .ok (.getfield 87, 3) := by decide +kernel
theorem dX0_become_49 : decode cX0_become 49 = .ok (.aload_n 0, 1) := by decide +kernel
theorem dX0_become_50 : decode cX0_become 50 = .ok (.getfield 28, 3) := by decide +kernel
theorem dX0_become_53 : decode cX0_become 53 = .ok (.getfield 87, 3) := by decide +kernel
theorem dX0_become_56 : decode cX0_become 56 = .ok (.invokevirtual 80, 3) := by decide +kernel
theorem dX0_become_59 : decode cX0_become 59 = .ok (.iconst 0, 1) := by decide +kernel
theorem dX0_become_60 : decode cX0_become 60 = .ok (.istore_n 2, 1) := by decide +kernel
theorem dX0_become_61 : decode cX0_become 61 = .ok (.iload_n 2, 1) := by decide +kernel
theorem dX0_become_62 : decode cX0_become 62 = .ok (.bipush 8, 2) := by decide +kernel
theorem dX0_become_64 : decode cX0_become 64 = .ok (.if_icmp .ge 49, 3) := by decide +kernel
theorem dX0_become_67 : decode cX0_become 67 = .ok (.aload_n 0, 1) := by decide +kernel
theorem dX0_become_68 : decode cX0_become 68 = .ok (.getfield 32, 3) := by decide +kernel
theorem dX0_become_71 : decode cX0_become 71 = .ok (.iload_n 2, 1) := by decide +kernel
theorem dX0_become_72 : decode cX0_become 72 = .ok (.aaload, 1) := by decide +kernel
theorem dX0_become_73 : decode cX0_become 73 = .ok (.aload_n 1, 1) := by decide +kernel
theorem dX0_become_74 : decode cX0_become 74 = .ok (.getfield 32, 3) := by decide +kernel
theorem dX0_become_77 : decode cX0_become 77 = .ok (.iload_n 2, 1) := by decide +kernel
theorem dX0_become_78 : decode cX0_become 78 = .ok (.aaload, 1) := by decide +kernel
theorem dX0_become_79 : decode cX0_become 79 = .ok (.getfield 84, 3) := by decide +kernel
theorem dX0_become_82 : decode cX0_become 82 = .ok (.putfield 84, 3) := by decide +kernel
theorem dX0_become_85 : decode cX0_become 85 = .ok (.aload_n 0, 1) := by decide +kernel
theorem dX0_become_86 : decode cX0_become 86 = .ok (.aload_n 1, 1) := by decide +kernel
theorem dX0_become_87 : decode cX0_become 87 = .ok (.getfield 32, 3) := by decide +kernel
theorem dX0_become_90 : decode cX0_become 90 = .ok (.iload_n 2, 1) := by decide +kernel
theorem dX0_become_91 : decode cX0_become 91 = .ok (.aaload, 1) := by decide +kernel
theorem dX0_become_92 : decode cX0_become 92 = .ok (.getfield 87, 3) := by decide +kernel
theorem dX0_become_95 : decode cX0_become 95 = .ok (.aload_n 0, 1) := by decide +kernel
theorem dX0_become_96 : decode cX0_become 96 = .ok (.getfield 32, 3) := by decide +kernel
theorem dX0_become_99 : decode cX0_become 99 = .ok (.iload_n 2, 1) := by decide +kernel
theorem dX0_become_100 : decode cX0_become 100 = .ok (.aaload, 1) := by decide +kernel
theorem dX0_become_101 : decode cX0_become 101 = .ok (.getfield 87, 3) := by decide +kernel
theorem dX0_become_104 : decode cX0_become 104 = .ok (.invokevirtual 80, 3) := by decide +kernel
theorem dX0_become_107 : decode cX0_become 107 = .ok (.iinc 2 1, 3) := by decide +kernel
theorem dX0_become_110 : decode cX0_become 110 = .ok (.goto (-49), 3) := by decide +kernel
theorem dX0_become_113 : decode cX0_become 113 = .ok (.aload_n 0, 1) := by decide +kernel
theorem dX0_become_114 : decode cX0_become 114 = .ok (.getfield 41, 3) := by decide +kernel
theorem dX0_become_117 : decode cX0_become 117 = .ok (.aload_n 1, 1) := by decide +kernel
theorem dX0_become_118 : decode cX0_become 118 = .ok (.getfield 41, 3) := by decide +kernel
theorem dX0_become_121 : decode cX0_become 121 = .ok (.invokevirtual 90, 3) := by decide +kernel
theorem dX0_become_124 : decode cX0_become 124 = .ok (.aload_n 0, 1) := by decide +kernel
theorem dX0_become_125 : decode cX0_become 125 = .ok (.getfield 45, 3) := by decide +kernel
theorem dX0_become_128 : decode cX0_become 128 = .ok (.aload_n 1, 1) := by decide +kernel
theorem dX0_become_129 : decode cX0_become 129 = .ok (.getfield 45, 3) := by decide +kernel
theorem dX0_become_132 : decode cX0_become 132 = .ok (.invokevirtual 90, 3) := by decide +kernel
theorem dX0_become_135 : decode cX0_become 135 = .ok (.aload_n 0, 1) := by decide +kernel
theorem dX0_become_136 : decode cX0_become 136 = .ok (.getfield 51, 3) := by decide +kernel
theorem dX0_become_139 : decode cX0_become 139 = .ok (.aload_n 1, 1) := by decide +kernel
theorem dX0_become_140 : decode cX0_become 140 = .ok (.getfield 51, 3) := by decide +kernel
theorem dX0_become_143 : decode cX0_become 143 = .ok (.invokevirtual 93, 3) := by decide +kernel
theorem dX0_become_146 : decode cX0_become 146 = .ok (.aload_n 0, 1) := by decide +kernel
theorem dX0_become_147 : decode cX0_become 147 = .ok (.aload_n 1, 1) := by decide +kernel
theorem dX0_become_148 : decode cX0_become 148 = .ok (.getfield 67, 3) := by decide +kernel
theorem dX0_become_151 : decode cX0_become 151 = .ok (.putfield 67, 3) := by decide +kernel
theorem dX0_become_154 : decode cX0_become 154 = .ok (.aload_n 0, 1) := by decide +kernel
theorem dX0_become_155 : decode cX0_become 155 = .ok (.aload_n 1, 1) := by decide +kernel
theorem dX0_become_156 : decode cX0_become 156 = .ok (.getfield 70, 3) := by decide +kernel
theorem dX0_become_159 : decode cX0_become 159 = .ok (.putfield 70, 3) := by decide +kernel
theorem dX0_become_162 : decode cX0_become 162 = .ok (.aload_n 0, 1) := by decide +kernel
theorem dX0_become_163 : decode cX0_become 163 = .ok (.iconst 0, 1) := by decide +kernel
theorem dX0_become_164 : decode cX0_become 164 = .ok (.putfield 73, 3) := by decide +kernel
theorem dX0_become_167 : decode cX0_become 167 = .ok (.return_, 1) := by decide +kernel
theorem dX0_begin_0 : decode cX0_begin 0 = .ok (.aload_n 0, 1) := by decide +kernel
theorem dX0_begin_1 : decode cX0_begin 1 = .ok (.invokevirtual 59, 3) := by decide +kernel
theorem dX0_begin_4 : decode cX0_begin 4 = .ok (.aload_n 0, 1) := by decide +kernel
theorem dX0_begin_5 : decode cX0_begin 5 = .ok (.getfield 12, 3) := by decide +kernel
theorem dX0_begin_8 : decode cX0_begin 8 = .ok (.iload_n 1, 1) := by decide +kernel
theorem dX0_begin_9 : decode cX0_begin 9 = .ok (.invokevirtual 55, 3) := by decide +kernel
theorem dX0_begin_12 : decode cX0_begin 12 = .ok (.aload_n 0, 1) := by decide +kernel
theorem dX0_begin_13 : decode cX0_begin 13 = .ok (.getfield 41, 3) := by decide +kernel
theorem dX0_begin_16 : decode cX0_begin 16 = .ok (.iconst 0, 1) := by decide +kernel
theorem dX0_begin_17 : decode cX0_begin 17 = .ok (.putfield 62, 3) := by decide +kernel
theorem dX0_begin_20 : decode cX0_begin 20 = .ok (.aload_n 0, 1) := by decide +kernel
theorem dX0_begin_21 : decode cX0_begin 21 = .ok (.getfield 45, 3) := by decide +kernel
theorem dX0_begin_24 : decode cX0_begin 24 = .ok (.iconst 0, 1) := by decide +kernel
theorem dX0_begin_25 : decode cX0_begin 25 = .ok (.putfield 62, 3) := by decide +kernel
theorem dX0_begin_28 : decode cX0_begin 28 = .ok (.aload_n 0, 1) := by decide +kernel
theorem dX0_begin_29 : decode cX0_begin 29 = .ok (.getfield 51, 3) := by decide +kernel
theorem dX0_begin_32 : decode cX0_begin 32 = .ok (.iconst 0, 1) := by decide +kernel
theorem dX0_begin_33 : decode cX0_begin 33 = .ok (.putfield 66, 3) := by decide +kernel
theorem dX0_begin_36 : decode cX0_begin 36 = .ok (.aload_n 0, 1) := by decide +kernel
theorem dX0_begin_37 : decode cX0_begin 37 = .ok (.iconst 0, 1) := by decide +kernel
theorem dX0_begin_38 : decode cX0_begin 38 = .ok (.putfield 67, 3) := by decide +kernel
theorem dX0_begin_41 : decode cX0_begin 41 = .ok (.aload_n 0, 1) := by decide +kernel
theorem dX0_begin_42 : decode cX0_begin 42 = .ok (.iconst 0, 1) := by decide +kernel
theorem dX0_begin_43 : decode cX0_begin 43 = .ok (.putfield 70, 3) := by decide +kernel
theorem dX0_begin_46 : decode cX0_begin 46 = .ok (.aload_n 0, 1) := by decide +kernel
theorem dX0_begin_47 : decode cX0_begin 47 = .ok (.iconst 0, 1) := by decide +kernel
theorem dX0_begin_48 : decode cX0_begin 48 = .ok (.putfield 73, 3) := by decide +kernel
theorem dX0_begin_51 : decode cX0_begin 51 = .ok (.return_, 1) := by decide +kernel
theorem dX0_clear_0 : decode cX0_clear 0 = .ok (.aload_n 0, 1) := by decide +kernel
theorem dX0_clear_1 : decode cX0_clear 1 = .ok (.aload_n 0, 1) := by decide +kernel
theorem dX0_clear_2 : decode cX0_clear 2 = .ok (.getfield 21, 3) := by decide +kernel
theorem dX0_clear_5 : decode cX0_clear 5 = .ok (.invokevirtual 115, 3) := by decide +kernel
theorem dX0_clear_8 : decode cX0_clear 8 = .ok (.aload_n 0, 1) := by decide +kernel
theorem dX0_clear_9 : decode cX0_clear 9 = .ok (.aload_n 0, 1) := by decide +kernel
theorem dX0_clear_10 : decode cX0_clear 10 = .ok (.getfield 28, 3) := by decide +kernel
theorem dX0_clear_13 : decode cX0_clear 13 = .ok (.invokevirtual 119, 3) := by decide +kernel
theorem dX0_clear_16 : decode cX0_clear 16 = .ok (.iconst 0, 1) := by decide +kernel
theorem dX0_clear_17 : decode cX0_clear 17 = .ok (.istore_n 1, 1) := by decide +kernel
theorem dX0_clear_18 : decode cX0_clear 18 = .ok (.iload_n 1, 1) := by decide +kernel
theorem dX0_clear_19 : decode cX0_clear 19 = .ok (.bipush 8, 2) := by decide +kernel
theorem dX0_clear_21 : decode cX0_clear 21 = .ok (.if_icmp .ge 19, 3) := by decide +kernel
theorem dX0_clear_24 : decode cX0_clear 24 = .ok (.aload_n 0, 1) := by decide +kernel
theorem dX0_clear_25 : decode cX0_clear 25 = .ok (.aload_n 0, 1) := by decide +kernel
theorem dX0_clear_26 : decode cX0_clear 26 = .ok (.getfield 32, 3) := by decide +kernel
theorem dX0_clear_29 : decode cX0_clear 29 = .ok (.iload_n 1, 1) := by decide +kernel
theorem dX0_clear_30 : decode cX0_clear 30 = .ok (.aaload, 1) := by decide +kernel
theorem dX0_clear_31 : decode cX0_clear 31 = .ok (.invokevirtual 119, 3) := by decide +kernel
theorem dX0_clear_34 : decode cX0_clear 34 = .ok (.iinc 1 1, 3) := by decide +kernel
theorem dX0_clear_37 : decode cX0_clear 37 = .ok (.goto (-19), 3) := by decide +kernel
theorem dX0_clear_40 : decode cX0_clear 40 = .ok (.return_, 1) := by decide +kernel
theorem dX0_copy_0 : decode cX0_copy 0 = .ok (.iconst 0, 1) := by decide +kernel
theorem dX0_copy_1 : decode cX0_copy 1 = .ok (.istore_n 3, 1) := by decide +kernel
theorem dX0_copy_2 : decode cX0_copy 2 = .ok (.iload_n 3, 1) := by decide +kernel
theorem dX0_copy_3 : decode cX0_copy 3 = .ok (.aload_n 1, 1) := by decide +kernel
theorem dX0_copy_4 : decode cX0_copy 4 = .ok (.getfield 96, 3) := by decide +kernel
theorem dX0_copy_7 : decode cX0_copy 7 = .ok (.if_icmp .ge 45, 3) := by decide +kernel
theorem dX0_copy_52 : decode cX0_copy 52 = .ok (.return_, 1) := by decide +kernel
theorem dX0_discard_0 : decode cX0_discard 0 = .ok (.aload_n 0, 1) := by decide +kernel
theorem dX0_discard_1 : decode cX0_discard 1 = .ok (.aload_n 1, 1) := by decide +kernel
theorem dX0_discard_2 : decode cX0_discard 2 = .ok (.getfield 87, 3) := by decide +kernel
theorem dX0_discard_5 : decode cX0_discard 5 = .ok (.invokevirtual 115, 3) := by decide +kernel
theorem dX0_discard_8 : decode cX0_discard 8 = .ok (.aload_n 1, 1) := by decide +kernel
theorem dX0_discard_9 : decode cX0_discard 9 = .ok (.iconst 0, 1) := by decide +kernel
theorem dX0_discard_10 : decode cX0_discard 10 = .ok (.putfield 84, 3) := by decide +kernel
theorem dX0_discard_13 : decode cX0_discard 13 = .ok (.return_, 1) := by decide +kernel
theorem dX0_enact_0 : decode cX0_enact 0 = .ok (.aload_n 0, 1) := by decide +kernel
theorem dX0_enact_1 : decode cX0_enact 1 = .ok (.aload_n 0, 1) := by decide +kernel
theorem dX0_enact_2 : decode cX0_enact 2 = .ok (.iload_n 1, 1) := by decide +kernel
theorem dX0_enact_3 : decode cX0_enact 3 = .ok (.iload_n 2, 1) := by decide +kernel
theorem dX0_enact_4 : decode cX0_enact 4 = .ok (.iload_n 3, 1) := by decide +kernel
theorem dX0_enact_5 : decode cX0_enact 5 = .ok (.iload 4, 2) := by decide +kernel
theorem dX0_enact_7 : decode cX0_enact 7 = .ok (.iload 5, 2) := by decide +kernel
theorem dX0_enact_9 : decode cX0_enact 9 = .ok (.invokestatic 155, 3) := by decide +kernel
theorem dX0_enact_12 : decode cX0_enact 12 = .ok (.putfield 73, 3) := by decide +kernel
theorem dX0_enact_15 : decode cX0_enact 15 = .ok (.aload_n 0, 1) := by decide +kernel
theorem dX0_enact_16 : decode cX0_enact 16 = .ok (.getfield 73, 3) := by decide +kernel
theorem dX0_enact_19 : decode cX0_enact 19 = .ok (.ifCond .eq 9, 3) := by decide +kernel
theorem dX0_enact_22 : decode cX0_enact 22 = .ok (.aload_n 0, 1) := by decide +kernel
theorem dX0_enact_23 : decode cX0_enact 23 = .ok (.getfield 73, 3) := by decide +kernel
theorem dX0_enact_26 : decode cX0_enact 26 = .ok (.ineg, 1) := by decide +kernel
theorem dX0_enact_27 : decode cX0_enact 27 = .ok (.ireturn, 1) := by decide +kernel
theorem dX0_enact_28 : decode cX0_enact 28 = .ok (.aload_n 0, 1) := by decide +kernel
theorem dX0_enact_29 : decode cX0_enact 29 = .ok (.iload_n 1, 1) := by decide +kernel
theorem dX0_enact_30 : decode cX0_enact 30 = .ok (.iload_n 2, 1) := by decide +kernel
theorem dX0_enact_31 : decode cX0_enact 31 = .ok (.iload_n 3, 1) := by decide +kernel
theorem dX0_enact_32 : decode cX0_enact 32 = .ok (.iload 4, 2) := by decide +kernel
theorem dX0_enact_34 : decode cX0_enact 34 = .ok (.iload 5, 2) := by decide +kernel
theorem dX0_enact_36 : decode cX0_enact 36 = .ok (.invokestatic 161, 3) := by decide +kernel
theorem dX0_enact_39 : decode cX0_enact 39 = .ok (.istore 6, 2) := by decide +kernel
theorem dX0_enact_41 : decode cX0_enact 41 = .ok (.aload_n 0, 1) := by decide +kernel
theorem dX0_enact_42 : decode cX0_enact 42 = .ok (.getfield 41, 3) := by decide +kernel
theorem dX0_enact_45 : decode cX0_enact 45 = .ok (.invokevirtual 166, 3) := by decide +kernel
theorem dX0_enact_48 : decode cX0_enact 48 = .ok (.aload_n 0, 1) := by decide +kernel
theorem dX0_enact_49 : decode cX0_enact 49 = .ok (.getfield 41, 3) := by decide +kernel
theorem dX0_enact_52 : decode cX0_enact 52 = .ok (.iconst 0, 1) := by decide +kernel
theorem dX0_enact_53 : decode cX0_enact 53 = .ok (.iload_n 1, 1) := by decide +kernel
theorem dX0_enact_54 : decode cX0_enact 54 = .ok (.invokevirtual 169, 3) := by decide +kernel
theorem dX0_enact_57 : decode cX0_enact 57 = .ok (.aload_n 0, 1) := by decide +kernel
theorem dX0_enact_58 : decode cX0_enact 58 = .ok (.getfield 41, 3) := by decide +kernel
theorem dX0_enact_61 : decode cX0_enact 61 = .ok (.iconst 1, 1) := by decide +kernel
theorem dX0_enact_62 : decode cX0_enact 62 = .ok (.iload_n 2, 1) := by decide +kernel
theorem dX0_enact_63 : decode cX0_enact 63 = .ok (.invokevirtual 169, 3) := by decide +kernel
theorem dX0_enact_66 : decode cX0_enact 66 = .ok (.aload_n 0, 1) := by decide +kernel
theorem dX0_enact_67 : decode cX0_enact 67 = .ok (.getfield 41, 3) := by decide +kernel
theorem dX0_enact_70 : decode cX0_enact 70 = .ok (.iconst 2, 1) := by decide +kernel
theorem dX0_enact_71 : decode cX0_enact 71 = .ok (.iload_n 3, 1) := by decide +kernel
theorem dX0_enact_72 : decode cX0_enact 72 = .ok (.invokevirtual 169, 3) := by decide +kernel
theorem dX0_enact_75 : decode cX0_enact 75 = .ok (.aload_n 0, 1) := by decide +kernel
theorem dX0_enact_76 : decode cX0_enact 76 = .ok (.getfield 41, 3) := by decide +kernel
theorem dX0_enact_79 : decode cX0_enact 79 = .ok (.iconst 3, 1) := by decide +kernel
theorem dX0_enact_80 : decode cX0_enact 80 = .ok (.iload 4, 2) := by decide +kernel
theorem dX0_enact_82 : decode cX0_enact 82 = .ok (.invokevirtual 169, 3) := by decide +kernel
theorem dX0_enact_85 : decode cX0_enact 85 = .ok (.aload_n 0, 1) := by decide +kernel
theorem dX0_enact_86 : decode cX0_enact 86 = .ok (.getfield 41, 3) := by decide +kernel
theorem dX0_enact_89 : decode cX0_enact 89 = .ok (.iconst 4, 1) := by decide +kernel
theorem dX0_enact_90 : decode cX0_enact 90 = .ok (.iload 5, 2) := by decide +kernel
theorem dX0_enact_92 : decode cX0_enact 92 = .ok (.invokevirtual 169, 3) := by decide +kernel
theorem dX0_enact_95 : decode cX0_enact 95 = .ok (.aload_n 0, 1) := by decide +kernel
theorem dX0_enact_96 : decode cX0_enact 96 = .ok (.getfield 41, 3) := by decide +kernel
theorem dX0_enact_99 : decode cX0_enact 99 = .ok (.iconst 5, 1) := by decide +kernel
theorem dX0_enact_100 : decode cX0_enact 100 = .ok (.iload 6, 2) := by decide +kernel
theorem dX0_enact_102 : decode cX0_enact 102 = .ok (.invokevirtual 169, 3) := by decide +kernel
theorem dX0_enact_105 : decode cX0_enact 105 = .ok (.aload_n 0, 1) := by decide +kernel
theorem dX0_enact_106 : decode cX0_enact 106 = .ok (.getfield 41, 3) := by decide +kernel
theorem dX0_enact_109 : decode cX0_enact 109 = .ok (.bipush 6, 2) := by decide +kernel
theorem dX0_enact_111 : decode cX0_enact 111 = .ok (.aload_n 0, 1) := by decide +kernel
theorem dX0_enact_112 : decode cX0_enact 112 = .ok (.getfield 21, 3) := by decide +kernel
theorem dX0_enact_115 : decode cX0_enact 115 = .ok (.getfield 96, 3) := by decide +kernel
theorem dX0_enact_118 : decode cX0_enact 118 = .ok (.invokevirtual 169, 3) := by decide +kernel
theorem dX0_enact_121 : decode cX0_enact 121 = .ok (.iload 6, 2) := by decide +kernel
theorem dX0_enact_123 : decode cX0_enact 123 = .ok (.ireturn, 1) := by decide +kernel
theorem dX0_init_0 : decode cX0_init 0 = .ok (.aload_n 0, 1) := by decide +kernel
theorem dX0_init_1 : decode cX0_init 1 = .ok (.invokespecial 3, 3) := by decide +kernel
theorem dX0_init_4 : decode cX0_init 4 = .ok (.aload_n 0, 1) := by decide +kernel
theorem dX0_init_5 : decode cX0_init 5 = .ok (.new 9, 3) := by decide +kernel
theorem dX0_init_8 : decode cX0_init 8 = .ok (.dup, 1) := by decide +kernel
theorem dX0_init_9 : decode cX0_init 9 = .ok (.invokespecial 11, 3) := by decide +kernel
theorem dX0_init_12 : decode cX0_init 12 = .ok (.putfield 12, 3) := by decide +kernel
theorem dX0_init_15 : decode cX0_init 15 = .ok (.aload_n 0, 1) := by decide +kernel
theorem dX0_init_16 : decode cX0_init 16 = .ok (.new 18, 3) := by decide +kernel
theorem dX0_init_19 : decode cX0_init 19 = .ok (.dup, 1) := by decide +kernel
theorem dX0_init_20 : decode cX0_init 20 = .ok (.invokespecial 20, 3) := by decide +kernel
theorem dX0_init_23 : decode cX0_init 23 = .ok (.putfield 21, 3) := by decide +kernel
theorem dX0_init_26 : decode cX0_init 26 = .ok (.aload_n 0, 1) := by decide +kernel
theorem dX0_init_27 : decode cX0_init 27 = .ok (.new 25, 3) := by decide +kernel
theorem dX0_init_30 : decode cX0_init 30 = .ok (.dup, 1) := by decide +kernel
theorem dX0_init_31 : decode cX0_init 31 = .ok (.invokespecial 27, 3) := by decide +kernel
theorem dX0_init_34 : decode cX0_init 34 = .ok (.putfield 28, 3) := by decide +kernel
theorem dX0_init_37 : decode cX0_init 37 = .ok (.aload_n 0, 1) := by decide +kernel
theorem dX0_init_38 : decode cX0_init 38 = .ok (.bipush 8, 2) := by decide +kernel
theorem dX0_init_40 : decode cX0_init 40 = .ok (.anewarray 25, 3) := by decide +kernel
theorem dX0_init_43 : decode cX0_init 43 = .ok (.putfield 32, 3) := by decide +kernel
theorem dX0_init_46 : decode cX0_init 46 = .ok (.aload_n 0, 1) := by decide +kernel
theorem dX0_init_47 : decode cX0_init 47 = .ok (.new 36, 3) := by decide +kernel
theorem dX0_init_50 : decode cX0_init 50 = .ok (.dup, 1) := by decide +kernel
theorem dX0_init_51 : decode cX0_init 51 = .ok (.bipush 7, 2) := by decide +kernel
theorem dX0_init_53 : decode cX0_init 53 = .ok (.sipush 600, 3) := by decide +kernel
theorem dX0_init_56 : decode cX0_init 56 = .ok (.invokespecial 38, 3) := by decide +kernel
theorem dX0_init_59 : decode cX0_init 59 = .ok (.putfield 41, 3) := by decide +kernel
theorem dX0_init_62 : decode cX0_init 62 = .ok (.aload_n 0, 1) := by decide +kernel
theorem dX0_init_63 : decode cX0_init 63 = .ok (.new 36, 3) := by decide +kernel
theorem dX0_init_66 : decode cX0_init 66 = .ok (.dup, 1) := by decide +kernel
theorem dX0_init_67 : decode cX0_init 67 = .ok (.iconst 5, 1) := by decide +kernel
theorem dX0_init_68 : decode cX0_init 68 = .ok (.sipush 600, 3) := by decide +kernel
theorem dX0_init_71 : decode cX0_init 71 = .ok (.invokespecial 38, 3) := by decide +kernel
theorem dX0_init_74 : decode cX0_init 74 = .ok (.putfield 45, 3) := by decide +kernel
theorem dX0_init_77 : decode cX0_init 77 = .ok (.aload_n 0, 1) := by decide +kernel
theorem dX0_init_78 : decode cX0_init 78 = .ok (.new 48, 3) := by decide +kernel
theorem dX0_init_81 : decode cX0_init 81 = .ok (.dup, 1) := by decide +kernel
theorem dX0_init_82 : decode cX0_init 82 = .ok (.invokespecial 50, 3) := by decide +kernel
theorem dX0_init_85 : decode cX0_init 85 = .ok (.putfield 51, 3) := by decide +kernel
theorem dX0_init_88 : decode cX0_init 88 = .ok (.iconst 0, 1) := by decide +kernel
theorem dX0_init_89 : decode cX0_init 89 = .ok (.istore_n 1, 1) := by decide +kernel
theorem dX0_init_90 : decode cX0_init 90 = .ok (.iload_n 1, 1) := by decide +kernel
theorem dX0_init_91 : decode cX0_init 91 = .ok (.bipush 8, 2) := by decide +kernel
theorem dX0_init_93 : decode cX0_init 93 = .ok (.if_icmp .ge 22, 3) := by decide +kernel
theorem dX0_init_96 : decode cX0_init 96 = .ok (.aload_n 0, 1) := by decide +kernel
theorem dX0_init_97 : decode cX0_init 97 = .ok (.getfield 32, 3) := by decide +kernel
theorem dX0_init_100 : decode cX0_init 100 = .ok (.iload_n 1, 1) := by decide +kernel
theorem dX0_init_101 : decode cX0_init 101 = .ok (.new 25, 3) := by decide +kernel
theorem dX0_init_104 : decode cX0_init 104 = .ok (.dup, 1) := by decide +kernel
theorem dX0_init_105 : decode cX0_init 105 = .ok (.invokespecial 27, 3) := by decide +kernel
theorem dX0_init_108 : decode cX0_init 108 = .ok (.aastore, 1) := by decide +kernel
theorem dX0_init_109 : decode cX0_init 109 = .ok (.iinc 1 1, 3) := by decide +kernel
theorem dX0_init_112 : decode cX0_init 112 = .ok (.goto (-22), 3) := by decide +kernel
theorem dX0_init_115 : decode cX0_init 115 = .ok (.aload_n 0, 1) := by decide +kernel
theorem dX0_init_116 : decode cX0_init 116 = .ok (.getfield 12, 3) := by decide +kernel
theorem dX0_init_119 : decode cX0_init 119 = .ok (.iconst 1, 1) := by decide +kernel
theorem dX0_init_120 : decode cX0_init 120 = .ok (.invokevirtual 55, 3) := by decide +kernel
theorem dX0_init_123 : decode cX0_init 123 = .ok (.return_, 1) := by decide +kernel
theorem dX0_newMotion_0 : decode cX0_newMotion 0 = .ok (.aload_n 0, 1) := by decide +kernel
theorem dX0_newMotion_1 : decode cX0_newMotion 1 = .ok (.getfield 130, 3) := by decide +kernel
theorem dX0_newMotion_4 : decode cX0_newMotion 4 = .ok (.astore_n 2, 1) := by decide +kernel
theorem dX0_newMotion_5 : decode cX0_newMotion 5 = .ok (.aload_n 2, 1) := by decide +kernel
theorem dX0_newMotion_6 : decode cX0_newMotion 6 = .ok (.ifnonnull 14, 3) := by decide +kernel
theorem dX0_newMotion_9 : decode cX0_newMotion 9 = .ok (.new 102, 3) := by decide +kernel
theorem dX0_newMotion_12 : decode cX0_newMotion 12 = .ok (.dup, 1) := by decide +kernel
theorem dX0_newMotion_13 : decode cX0_newMotion 13 = .ok (.invokespecial 137, 3) := by decide +kernel
theorem dX0_newMotion_16 : decode cX0_newMotion 16 = .ok (.astore_n 2, 1) := by decide +kernel
theorem dX0_newMotion_17 : decode cX0_newMotion 17 = .ok (.goto 16, 3) := by decide +kernel
theorem dX0_newMotion_33 : decode cX0_newMotion 33 = .ok (.aload_n 2, 1) := by decide +kernel
theorem dX0_newMotion_34 : decode cX0_newMotion 34 = .ok (.iload_n 1, 1) := by decide +kernel
theorem dX0_newMotion_35 : decode cX0_newMotion 35 = .ok (.invokevirtual 138, 3) := by decide +kernel
theorem dX0_newMotion_38 : decode cX0_newMotion 38 = .ok (.aload_n 2, 1) := by decide +kernel
theorem dX0_newMotion_39 : decode cX0_newMotion 39 = .ok (.areturn, 1) := by decide +kernel
theorem dX0_placeAt_0 : decode cX0_placeAt 0 = .ok (.iload_n 1, 1) := by decide +kernel
theorem dX0_placeAt_1 : decode cX0_placeAt 1 = .ok (.ifCond .lt 9, 3) := by decide +kernel
theorem dX0_placeAt_4 : decode cX0_placeAt 4 = .ok (.iload_n 1, 1) := by decide +kernel
theorem dX0_placeAt_5 : decode cX0_placeAt 5 = .ok (.bipush 8, 2) := by decide +kernel
theorem dX0_placeAt_7 : decode cX0_placeAt 7 = .ok (.if_icmp .lt 7, 3) := by decide +kernel
theorem dX0_placeAt_10 : decode cX0_placeAt 10 = .ok (.aconst_null, 1) := by decide +kernel
theorem dX0_placeAt_11 : decode cX0_placeAt 11 = .ok (.goto 9, 3) := by decide +kernel
theorem dX0_placeAt_14 : decode cX0_placeAt 14 = .ok (.aload_n 0, 1) := by decide +kernel
theorem dX0_placeAt_15 : decode cX0_placeAt 15 = .ok (.getfield 32, 3) := by decide +kernel
theorem dX0_placeAt_18 : decode cX0_placeAt 18 = .ok (.iload_n 1, 1) := by decide +kernel
theorem dX0_placeAt_19 : decode cX0_placeAt 19 = .ok (.aaload, 1) := by decide +kernel
theorem dX0_placeAt_20 : decode cX0_placeAt 20 = .ok (.areturn, 1) := by decide +kernel
theorem dX0_release_0 : decode cX0_release 0 = .ok (.aload_n 1, 1) := by decide +kernel
theorem dX0_release_1 : decode cX0_release 1 = .ok (.getfield 96, 3) := by decide +kernel
theorem dX0_release_4 : decode cX0_release 4 = .ok (.istore_n 2, 1) := by decide +kernel
theorem dX0_release_5 : decode cX0_release 5 = .ok (.iload_n 2, 1) := by decide +kernel
theorem dX0_release_6 : decode cX0_release 6 = .ok (.ifCond .le 14, 3) := by decide +kernel
theorem dX0_release_20 : decode cX0_release 20 = .ok (.return_, 1) := by decide +kernel
theorem dX0_wordOf_0 : decode cX0_wordOf 0 = .ok (.iload_n 1, 1) := by decide +kernel
theorem dX0_wordOf_1 : decode cX0_wordOf 1 = .ok (.iconst (-1), 1) := by decide +kernel
theorem dX0_wordOf_2 : decode cX0_wordOf 2 = .ok (.if_icmp .ne 12, 3) := by decide +kernel
theorem dX0_wordOf_5 : decode cX0_wordOf 5 = .ok (.aload_n 0, 1) := by decide +kernel
theorem dX0_wordOf_6 : decode cX0_wordOf 6 = .ok (.getfield 51, 3) := by decide +kernel
theorem dX0_wordOf_9 : decode cX0_wordOf 9 = .ok (.iload_n 2, 1) := by decide +kernel
theorem dX0_wordOf_10 : decode cX0_wordOf 10 = .ok (.invokevirtual 145, 3) := by decide +kernel
theorem dX0_wordOf_13 : decode cX0_wordOf 13 = .ok (.ireturn, 1) := by decide +kernel
theorem dX0_wordOf_14 : decode cX0_wordOf 14 = .ok (.iload_n 1, 1) := by decide +kernel
theorem dX0_wordOf_15 : decode cX0_wordOf 15 = .ok (.bipush 9, 2) := by decide +kernel
theorem dX0_wordOf_17 : decode cX0_wordOf 17 = .ok (.if_icmp .ne 13, 3) := by decide +kernel
theorem dX0_wordOf_20 : decode cX0_wordOf 20 = .ok (.aload_n 0, 1) := by decide +kernel
theorem dX0_wordOf_21 : decode cX0_wordOf 21 = .ok (.getfield 28, 3) := by decide +kernel
theorem dX0_wordOf_24 : decode cX0_wordOf 24 = .ok (.invokevirtual 149, 3) := by decide +kernel
theorem dX0_wordOf_27 : decode cX0_wordOf 27 = .ok (.goto 11, 3) := by decide +kernel
theorem dX0_wordOf_30 : decode cX0_wordOf 30 = .ok (.aload_n 0, 1) := by decide +kernel
theorem dX0_wordOf_31 : decode cX0_wordOf 31 = .ok (.getfield 21, 3) := by decide +kernel
theorem dX0_wordOf_34 : decode cX0_wordOf 34 = .ok (.iload_n 1, 1) := by decide +kernel
theorem dX0_wordOf_35 : decode cX0_wordOf 35 = .ok (.invokevirtual 97, 3) := by decide +kernel
theorem dX0_wordOf_38 : decode cX0_wordOf 38 = .ok (.astore_n 3, 1) := by decide +kernel
theorem dX0_wordOf_39 : decode cX0_wordOf 39 = .ok (.aload_n 3, 1) := by decide +kernel
theorem dX0_wordOf_40 : decode cX0_wordOf 40 = .ok (.ifnonnull 7, 3) := by decide +kernel
theorem dX0_wordOf_43 : decode cX0_wordOf 43 = .ok (.iconst (-1), 1) := by decide +kernel
theorem dX0_wordOf_44 : decode cX0_wordOf 44 = .ok (.goto 11, 3) := by decide +kernel
theorem dX0_wordOf_55 : decode cX0_wordOf 55 = .ok (.ireturn, 1) := by decide +kernel
theorem dX10_adjourn_0 : decode cX10_adjourn 0 = .ok (.aload_n 0, 1) := by decide +kernel
theorem dX10_adjourn_1 : decode cX10_adjourn 1 = .ok (.getfield 10, 3) := by decide +kernel
theorem dX10_adjourn_4 : decode cX10_adjourn 4 = .ok (.bipush 22, 2) := by decide +kernel
theorem dX10_adjourn_6 : decode cX10_adjourn 6 = .ok (.iconst 0, 1) := by decide +kernel
theorem dX10_adjourn_7 : decode cX10_adjourn 7 = .ok (.iconst 0, 1) := by decide +kernel
theorem dX10_adjourn_8 : decode cX10_adjourn 8 = .ok (.iconst 0, 1) := by decide +kernel
theorem dX10_adjourn_9 : decode cX10_adjourn 9 = .ok (.iconst 0, 1) := by decide +kernel
theorem dX10_adjourn_10 : decode cX10_adjourn 10 = .ok (.invokevirtual 32, 3) := by decide +kernel
theorem dX10_adjourn_13 : decode cX10_adjourn 13 = .ok (.ireturn, 1) := by decide +kernel
theorem dX10_again_0 : decode cX10_again 0 = .ok (.aload_n 0, 1) := by decide +kernel
theorem dX10_again_1 : decode cX10_again 1 = .ok (.getfield 10, 3) := by decide +kernel
theorem dX10_again_4 : decode cX10_again 4 = .ok (.getfield 123, 3) := by decide +kernel
theorem dX10_again_7 : decode cX10_again 7 = .ok (.astore_n 1, 1) := by decide +kernel
theorem dX10_again_8 : decode cX10_again 8 = .ok (.aload_n 0, 1) := by decide +kernel
theorem dX10_again_9 : decode cX10_again 9 = .ok (.getfield 16, 3) := by decide +kernel
theorem dX10_again_12 : decode cX10_again 12 = .ok (.aload_n 0, 1) := by decide +kernel
theorem dX10_again_13 : decode cX10_again 13 = .ok (.getfield 10, 3) := by decide +kernel
theorem dX10_again_16 : decode cX10_again 16 = .ok (.getfield 88, 3) := by decide +kernel
theorem dX10_again_19 : decode cX10_again 19 = .ok (.getfield 92, 3) := by decide +kernel
theorem dX10_again_22 : decode cX10_again 22 = .ok (.invokevirtual 28, 3) := by decide +kernel
theorem dX10_again_25 : decode cX10_again 25 = .ok (.iconst 0, 1) := by decide +kernel
theorem dX10_again_26 : decode cX10_again 26 = .ok (.istore_n 2, 1) := by decide +kernel
theorem dX10_again_27 : decode cX10_again 27 = .ok (.iload_n 2, 1) := by decide +kernel
theorem dX10_again_28 : decode cX10_again 28 = .ok (.aload_n 1, 1) := by decide +kernel
theorem dX10_again_29 : decode cX10_again 29 = .ok (.getfield 126, 3) := by decide +kernel
theorem dX10_again_32 : decode cX10_again 32 = .ok (.if_icmp .ge 79, 3) := by decide +kernel
theorem dX10_again_111 : decode cX10_again 111 = .ok (.iconst (-1), 1) := by decide +kernel
theorem dX10_again_112 : decode cX10_again 112 = .ok (.ireturn, 1) := by decide +kernel
theorem dX10_appeal_0 : decode cX10_appeal 0 = .ok (.aload_n 0, 1) := by decide +kernel
theorem dX10_appeal_1 : decode cX10_appeal 1 = .ok (.getfield 10, 3) := by decide +kernel
theorem dX10_appeal_4 : decode cX10_appeal 4 = .ok (.bipush 20, 2) := by decide +kernel
theorem dX10_appeal_6 : decode cX10_appeal 6 = .ok (.iload_n 1, 1) := by decide +kernel
theorem dX10_appeal_7 : decode cX10_appeal 7 = .ok (.iconst 0, 1) := by decide +kernel
theorem dX10_appeal_8 : decode cX10_appeal 8 = .ok (.iconst 0, 1) := by decide +kernel
theorem dX10_appeal_9 : decode cX10_appeal 9 = .ok (.iconst 0, 1) := by decide +kernel
theorem dX10_appeal_10 : decode cX10_appeal 10 = .ok (.invokevirtual 32, 3) := by decide +kernel
theorem dX10_appeal_13 : decode cX10_appeal 13 = .ok (.ireturn, 1) := by decide +kernel
theorem dX10_back_0 : decode cX10_back 0 = .ok (.iload_n 1, 1) := by decide +kernel
theorem dX10_back_1 : decode cX10_back 1 = .ok (.ifCond .lt 8, 3) := by decide +kernel
theorem dX10_back_4 : decode cX10_back 4 = .ok (.iload_n 1, 1) := by decide +kernel
theorem dX10_back_5 : decode cX10_back 5 = .ok (.iconst 1, 1) := by decide +kernel
theorem dX10_back_6 : decode cX10_back 6 = .ok (.if_icmp .le 6, 3) := by decide +kernel
theorem dX10_back_9 : decode cX10_back 9 = .ok (.bipush (-9), 2) := by decide +kernel
theorem dX10_back_11 : decode cX10_back 11 = .ok (.ireturn, 1) := by decide +kernel
theorem dX10_back_12 : decode cX10_back 12 = .ok (.iload_n 1, 1) := by decide +kernel
theorem dX10_back_13 : decode cX10_back 13 = .ok (.ifCond .ne 10, 3) := by decide +kernel
theorem dX10_back_16 : decode cX10_back 16 = .ok (.aload_n 0, 1) := by decide +kernel
theorem dX10_back_17 : decode cX10_back 17 = .ok (.getfield 157, 3) := by decide +kernel
theorem dX10_back_20 : decode cX10_back 20 = .ok (.goto 7, 3) := by decide +kernel
theorem dX10_back_23 : decode cX10_back 23 = .ok (.aload_n 0, 1) := by decide +kernel
theorem dX10_back_24 : decode cX10_back 24 = .ok (.getfield 164, 3) := by decide +kernel
theorem dX10_back_27 : decode cX10_back 27 = .ok (.astore_n 2, 1) := by decide +kernel
theorem dX10_back_28 : decode cX10_back 28 = .ok (.aload_n 2, 1) := by decide +kernel
theorem dX10_back_29 : decode cX10_back 29 = .ok (.ifnonnull 6, 3) := by decide +kernel
theorem dX10_back_32 : decode cX10_back 32 = .ok (.bipush (-11), 2) := by decide +kernel
theorem dX10_back_34 : decode cX10_back 34 = .ok (.ireturn, 1) := by decide +kernel
theorem dX10_ballot_0 : decode cX10_ballot 0 = .ok (.aload_n 0, 1) := by decide +kernel
theorem dX10_ballot_1 : decode cX10_ballot 1 = .ok (.getfield 10, 3) := by decide +kernel
theorem dX10_ballot_4 : decode cX10_ballot 4 = .ok (.getfield 46, 3) := by decide +kernel
theorem dX10_ballot_7 : decode cX10_ballot 7 = .ok (.invokevirtual 66, 3) := by decide +kernel
theorem dX10_ballot_10 : decode cX10_ballot 10 = .ok (.astore_n 2, 1) := by decide +kernel
theorem dX10_ballot_11 : decode cX10_ballot 11 = .ok (.aload_n 2, 1) := by decide +kernel
theorem dX10_ballot_12 : decode cX10_ballot 12 = .ok (.ifnonnull 7, 3) := by decide +kernel
theorem dX10_ballot_15 : decode cX10_ballot 15 = .ok (.iconst (-1), 1) := by decide +kernel
theorem dX10_ballot_16 : decode cX10_ballot 16 = .ok (.goto 8, 3) := by decide +kernel
theorem dX10_ballot_24 : decode cX10_ballot 24 = .ok (.ireturn, 1) := by decide +kernel
theorem dX10_before_0 : decode cX10_before 0 = .ok (.iload_n 1, 1) := by decide +kernel
theorem dX10_before_1 : decode cX10_before 1 = .ok (.ifCond .lt 17, 3) := by decide +kernel
theorem dX10_before_4 : decode cX10_before 4 = .ok (.iload_n 1, 1) := by decide +kernel
theorem dX10_before_5 : decode cX10_before 5 = .ok (.aload_n 0, 1) := by decide +kernel
theorem dX10_before_6 : decode cX10_before 6 = .ok (.getfield 10, 3) := by decide +kernel
theorem dX10_before_9 : decode cX10_before 9 = .ok (.getfield 123, 3) := by decide +kernel
theorem dX10_before_12 : decode cX10_before 12 = .ok (.getfield 126, 3) := by decide +kernel
theorem dX10_before_15 : decode cX10_before 15 = .ok (.if_icmp .le 5, 3) := by decide +kernel
theorem dX10_before_18 : decode cX10_before 18 = .ok (.iconst (-1), 1) := by decide +kernel
theorem dX10_before_19 : decode cX10_before 19 = .ok (.ireturn, 1) := by decide +kernel
theorem dX10_before_20 : decode cX10_before 20 = .ok (.aload_n 0, 1) := by decide +kernel
theorem dX10_before_21 : decode cX10_before 21 = .ok (.getfield 10, 3) := by decide +kernel
theorem dX10_before_24 : decode cX10_before 24 = .ok (.getfield 123, 3) := by decide +kernel
theorem dX10_before_27 : decode cX10_before 27 = .ok (.astore 4, 2) := by decide +kernel
theorem dX10_before_29 : decode cX10_before 29 = .ok (.aload_n 0, 1) := by decide +kernel
theorem dX10_before_30 : decode cX10_before 30 = .ok (.getfield 16, 3) := by decide +kernel
theorem dX10_before_33 : decode cX10_before 33 = .ok (.aload_n 0, 1) := by decide +kernel
theorem dX10_before_34 : decode cX10_before 34 = .ok (.getfield 10, 3) := by decide +kernel
theorem dX10_before_37 : decode cX10_before 37 = .ok (.getfield 88, 3) := by decide +kernel
theorem dX10_before_40 : decode cX10_before 40 = .ok (.getfield 92, 3) := by decide +kernel
theorem dX10_before_43 : decode cX10_before 43 = .ok (.invokevirtual 28, 3) := by decide +kernel
theorem dX10_before_46 : decode cX10_before 46 = .ok (.iconst 0, 1) := by decide +kernel
theorem dX10_before_47 : decode cX10_before 47 = .ok (.istore 5, 2) := by decide +kernel
theorem dX10_before_49 : decode cX10_before 49 = .ok (.iload 5, 2) := by decide +kernel
theorem dX10_before_51 : decode cX10_before 51 = .ok (.iload_n 1, 1) := by decide +kernel
theorem dX10_before_52 : decode cX10_before 52 = .ok (.if_icmp .ge 57, 3) := by decide +kernel
theorem dX10_before_109 : decode cX10_before 109 = .ok (.aload_n 0, 1) := by decide +kernel
theorem dX10_before_110 : decode cX10_before 110 = .ok (.getfield 16, 3) := by decide +kernel
theorem dX10_before_113 : decode cX10_before 113 = .ok (.iload_n 2, 1) := by decide +kernel
theorem dX10_before_114 : decode cX10_before 114 = .ok (.iload_n 3, 1) := by decide +kernel
theorem dX10_before_115 : decode cX10_before 115 = .ok (.invokevirtual 62, 3) := by decide +kernel
theorem dX10_before_118 : decode cX10_before 118 = .ok (.ireturn, 1) := by decide +kernel
theorem dX10_cede_0 : decode cX10_cede 0 = .ok (.aload_n 0, 1) := by decide +kernel
theorem dX10_cede_1 : decode cX10_cede 1 = .ok (.getfield 10, 3) := by decide +kernel
theorem dX10_cede_4 : decode cX10_cede 4 = .ok (.bipush 8, 2) := by decide +kernel
theorem dX10_cede_6 : decode cX10_cede 6 = .ok (.iconst 0, 1) := by decide +kernel
theorem dX10_cede_7 : decode cX10_cede 7 = .ok (.iconst 0, 1) := by decide +kernel
theorem dX10_cede_8 : decode cX10_cede 8 = .ok (.iconst 0, 1) := by decide +kernel
theorem dX10_cede_9 : decode cX10_cede 9 = .ok (.iconst 0, 1) := by decide +kernel
theorem dX10_cede_10 : decode cX10_cede 10 = .ok (.invokevirtual 32, 3) := by decide +kernel
theorem dX10_cede_13 : decode cX10_cede 13 = .ok (.ireturn, 1) := by decide +kernel
theorem dX10_chair_0 : decode cX10_chair 0 = .ok (.aload_n 0, 1) := by decide +kernel
theorem dX10_chair_1 : decode cX10_chair 1 = .ok (.getfield 10, 3) := by decide +kernel
theorem dX10_chair_4 : decode cX10_chair 4 = .ok (.iconst 4, 1) := by decide +kernel
theorem dX10_chair_5 : decode cX10_chair 5 = .ok (.iload_n 1, 1) := by decide +kernel
theorem dX10_chair_6 : decode cX10_chair 6 = .ok (.iconst 0, 1) := by decide +kernel
theorem dX10_chair_7 : decode cX10_chair 7 = .ok (.iconst 0, 1) := by decide +kernel
theorem dX10_chair_8 : decode cX10_chair 8 = .ok (.iconst 0, 1) := by decide +kernel
theorem dX10_chair_9 : decode cX10_chair 9 = .ok (.invokevirtual 32, 3) := by decide +kernel
theorem dX10_chair_12 : decode cX10_chair 12 = .ok (.ireturn, 1) := by decide +kernel
theorem dX10_check_0 : decode cX10_check 0 = .ok (.aload_n 0, 1) := by decide +kernel
theorem dX10_check_1 : decode cX10_check 1 = .ok (.getfield 16, 3) := by decide +kernel
theorem dX10_check_4 : decode cX10_check 4 = .ok (.aload_n 0, 1) := by decide +kernel
theorem dX10_check_5 : decode cX10_check 5 = .ok (.getfield 10, 3) := by decide +kernel
theorem dX10_check_8 : decode cX10_check 8 = .ok (.getfield 88, 3) := by decide +kernel
theorem dX10_check_11 : decode cX10_check 11 = .ok (.getfield 92, 3) := by decide +kernel
theorem dX10_check_14 : decode cX10_check 14 = .ok (.invokevirtual 28, 3) := by decide +kernel
theorem dX10_check_17 : decode cX10_check 17 = .ok (.iconst 0, 1) := by decide +kernel
theorem dX10_check_18 : decode cX10_check 18 = .ok (.istore_n 1, 1) := by decide +kernel
theorem dX10_check_19 : decode cX10_check 19 = .ok (.iload_n 1, 1) := by decide +kernel
theorem dX10_check_20 : decode cX10_check 20 = .ok (.aload_n 0, 1) := by decide +kernel
theorem dX10_check_21 : decode cX10_check 21 = .ok (.getfield 24, 3) := by decide +kernel
theorem dX10_check_24 : decode cX10_check 24 = .ok (.getfield 126, 3) := by decide +kernel
theorem dX10_check_27 : decode cX10_check 27 = .ok (.if_icmp .ge 93, 3) := by decide +kernel
theorem dX10_check_120 : decode cX10_check 120 = .ok (.iconst (-1), 1) := by decide +kernel
theorem dX10_check_121 : decode cX10_check 121 = .ok (.ireturn, 1) := by decide +kernel
theorem dX10_count_0 : decode cX10_count 0 = .ok (.iload_n 1, 1) := by decide +kernel
theorem dX10_count_1 : decode cX10_count 1 = .ok (.tableswitch 218 0 12 #[67, 78, 89, 100, 111, 122, 133, 144, 155, 166, 177, 202, 210], 67) := by decide +kernel
theorem dX10_count_68 : decode cX10_count 68 = .ok (.aload_n 0, 1) := by decide +kernel
theorem dX10_count_69 : decode cX10_count 69 = .ok (.getfield 10, 3) := by decide +kernel
theorem dX10_count_72 : decode cX10_count 72 = .ok (.getfield 88, 3) := by decide +kernel
theorem dX10_count_75 : decode cX10_count 75 = .ok (.getfield 92, 3) := by decide +kernel
theorem dX10_count_78 : decode cX10_count 78 = .ok (.ireturn, 1) := by decide +kernel
theorem dX10_count_79 : decode cX10_count 79 = .ok (.aload_n 0, 1) := by decide +kernel
theorem dX10_count_80 : decode cX10_count 80 = .ok (.getfield 10, 3) := by decide +kernel
theorem dX10_count_83 : decode cX10_count 83 = .ok (.getfield 88, 3) := by decide +kernel
theorem dX10_count_86 : decode cX10_count 86 = .ok (.getfield 97, 3) := by decide +kernel
theorem dX10_count_89 : decode cX10_count 89 = .ok (.ireturn, 1) := by decide +kernel
theorem dX10_count_90 : decode cX10_count 90 = .ok (.aload_n 0, 1) := by decide +kernel
theorem dX10_count_91 : decode cX10_count 91 = .ok (.getfield 10, 3) := by decide +kernel
theorem dX10_count_94 : decode cX10_count 94 = .ok (.getfield 88, 3) := by decide +kernel
theorem dX10_count_97 : decode cX10_count 97 = .ok (.getfield 100, 3) := by decide +kernel
theorem dX10_count_100 : decode cX10_count 100 = .ok (.ireturn, 1) := by decide +kernel
theorem dX10_count_101 : decode cX10_count 101 = .ok (.aload_n 0, 1) := by decide +kernel
theorem dX10_count_102 : decode cX10_count 102 = .ok (.getfield 10, 3) := by decide +kernel
theorem dX10_count_105 : decode cX10_count 105 = .ok (.getfield 88, 3) := by decide +kernel
theorem dX10_count_108 : decode cX10_count 108 = .ok (.getfield 103, 3) := by decide +kernel
theorem dX10_count_111 : decode cX10_count 111 = .ok (.ireturn, 1) := by decide +kernel
theorem dX10_count_112 : decode cX10_count 112 = .ok (.aload_n 0, 1) := by decide +kernel
theorem dX10_count_113 : decode cX10_count 113 = .ok (.getfield 10, 3) := by decide +kernel
theorem dX10_count_116 : decode cX10_count 116 = .ok (.getfield 88, 3) := by decide +kernel
theorem dX10_count_119 : decode cX10_count 119 = .ok (.getfield 106, 3) := by decide +kernel
theorem dX10_count_122 : decode cX10_count 122 = .ok (.ireturn, 1) := by decide +kernel
theorem dX10_count_123 : decode cX10_count 123 = .ok (.aload_n 0, 1) := by decide +kernel
theorem dX10_count_124 : decode cX10_count 124 = .ok (.getfield 10, 3) := by decide +kernel
theorem dX10_count_127 : decode cX10_count 127 = .ok (.getfield 88, 3) := by decide +kernel
theorem dX10_count_130 : decode cX10_count 130 = .ok (.getfield 109, 3) := by decide +kernel
theorem dX10_count_133 : decode cX10_count 133 = .ok (.ireturn, 1) := by decide +kernel
theorem dX10_count_134 : decode cX10_count 134 = .ok (.aload_n 0, 1) := by decide +kernel
theorem dX10_count_135 : decode cX10_count 135 = .ok (.getfield 10, 3) := by decide +kernel
theorem dX10_count_138 : decode cX10_count 138 = .ok (.getfield 46, 3) := by decide +kernel
theorem dX10_count_141 : decode cX10_count 141 = .ok (.getfield 112, 3) := by decide +kernel
theorem dX10_count_144 : decode cX10_count 144 = .ok (.ireturn, 1) := by decide +kernel
theorem dX10_count_145 : decode cX10_count 145 = .ok (.aload_n 0, 1) := by decide +kernel
theorem dX10_count_146 : decode cX10_count 146 = .ok (.getfield 10, 3) := by decide +kernel
theorem dX10_count_149 : decode cX10_count 149 = .ok (.getfield 115, 3) := by decide +kernel
theorem dX10_count_152 : decode cX10_count 152 = .ok (.invokevirtual 119, 3) := by decide +kernel
theorem dX10_count_155 : decode cX10_count 155 = .ok (.ireturn, 1) := by decide +kernel
theorem dX10_count_156 : decode cX10_count 156 = .ok (.aload_n 0, 1) := by decide +kernel
theorem dX10_count_157 : decode cX10_count 157 = .ok (.getfield 10, 3) := by decide +kernel
theorem dX10_count_160 : decode cX10_count 160 = .ok (.getfield 123, 3) := by decide +kernel
theorem dX10_count_163 : decode cX10_count 163 = .ok (.getfield 126, 3) := by decide +kernel
theorem dX10_count_166 : decode cX10_count 166 = .ok (.ireturn, 1) := by decide +kernel
theorem dX10_count_167 : decode cX10_count 167 = .ok (.aload_n 0, 1) := by decide +kernel
theorem dX10_count_168 : decode cX10_count 168 = .ok (.getfield 10, 3) := by decide +kernel
theorem dX10_count_171 : decode cX10_count 171 = .ok (.getfield 83, 3) := by decide +kernel
theorem dX10_count_174 : decode cX10_count 174 = .ok (.getfield 126, 3) := by decide +kernel
theorem dX10_count_177 : decode cX10_count 177 = .ok (.ireturn, 1) := by decide +kernel
theorem dX10_count_178 : decode cX10_count 178 = .ok (.aload_n 0, 1) := by decide +kernel
theorem dX10_count_179 : decode cX10_count 179 = .ok (.getfield 10, 3) := by decide +kernel
theorem dX10_count_182 : decode cX10_count 182 = .ok (.getfield 127, 3) := by decide +kernel
theorem dX10_count_185 : decode cX10_count 185 = .ok (.ifCond .ne 7, 3) := by decide +kernel
theorem dX10_count_188 : decode cX10_count 188 = .ok (.iconst (-1), 1) := by decide +kernel
theorem dX10_count_189 : decode cX10_count 189 = .ok (.goto 13, 3) := by decide +kernel
theorem dX10_count_202 : decode cX10_count 202 = .ok (.ireturn, 1) := by decide +kernel
theorem dX10_count_203 : decode cX10_count 203 = .ok (.aload_n 0, 1) := by decide +kernel
theorem dX10_count_204 : decode cX10_count 204 = .ok (.getfield 10, 3) := by decide +kernel
theorem dX10_count_207 : decode cX10_count 207 = .ok (.getfield 127, 3) := by decide +kernel
theorem dX10_count_210 : decode cX10_count 210 = .ok (.ireturn, 1) := by decide +kernel
theorem dX10_count_211 : decode cX10_count 211 = .ok (.aload_n 0, 1) := by decide +kernel
theorem dX10_count_212 : decode cX10_count 212 = .ok (.getfield 24, 3) := by decide +kernel
theorem dX10_count_215 : decode cX10_count 215 = .ok (.getfield 126, 3) := by decide +kernel
theorem dX10_count_218 : decode cX10_count 218 = .ok (.ireturn, 1) := by decide +kernel
theorem dX10_count_219 : decode cX10_count 219 = .ok (.iconst (-1), 1) := by decide +kernel
theorem dX10_count_220 : decode cX10_count 220 = .ok (.ireturn, 1) := by decide +kernel
theorem dX10_debate_0 : decode cX10_debate 0 = .ok (.aload_n 0, 1) := by decide +kernel
theorem dX10_debate_1 : decode cX10_debate 1 = .ok (.getfield 10, 3) := by decide +kernel
theorem dX10_debate_4 : decode cX10_debate 4 = .ok (.bipush 9, 2) := by decide +kernel
theorem dX10_debate_6 : decode cX10_debate 6 = .ok (.iload_n 1, 1) := by decide +kernel
theorem dX10_debate_7 : decode cX10_debate 7 = .ok (.iconst 0, 1) := by decide +kernel
theorem dX10_debate_8 : decode cX10_debate 8 = .ok (.iconst 0, 1) := by decide +kernel
theorem dX10_debate_9 : decode cX10_debate 9 = .ok (.iconst 0, 1) := by decide +kernel
theorem dX10_debate_10 : decode cX10_debate 10 = .ok (.invokevirtual 32, 3) := by decide +kernel
theorem dX10_debate_13 : decode cX10_debate 13 = .ok (.ireturn, 1) := by decide +kernel
theorem dX10_desk_0 : decode cX10_desk 0 = .ok (.aload_n 0, 1) := by decide +kernel
theorem dX10_desk_1 : decode cX10_desk 1 = .ok (.getfield 10, 3) := by decide +kernel
theorem dX10_desk_4 : decode cX10_desk 4 = .ok (.iload_n 1, 1) := by decide +kernel
theorem dX10_desk_5 : decode cX10_desk 5 = .ok (.invokevirtual 73, 3) := by decide +kernel
theorem dX10_desk_8 : decode cX10_desk 8 = .ok (.astore_n 3, 1) := by decide +kernel
theorem dX10_desk_9 : decode cX10_desk 9 = .ok (.aload_n 3, 1) := by decide +kernel
theorem dX10_desk_10 : decode cX10_desk 10 = .ok (.ifnonnull 7, 3) := by decide +kernel
theorem dX10_desk_13 : decode cX10_desk 13 = .ok (.iconst (-1), 1) := by decide +kernel
theorem dX10_desk_14 : decode cX10_desk 14 = .ok (.goto 8, 3) := by decide +kernel
theorem dX10_desk_17 : decode cX10_desk 17 = .ok (.aload_n 3, 1) := by decide +kernel
theorem dX10_desk_18 : decode cX10_desk 18 = .ok (.iload_n 2, 1) := by decide +kernel
theorem dX10_desk_19 : decode cX10_desk 19 = .ok (.invokevirtual 77, 3) := by decide +kernel
theorem dX10_desk_22 : decode cX10_desk 22 = .ok (.ireturn, 1) := by decide +kernel
theorem dX10_draft_0 : decode cX10_draft 0 = .ok (.aload_n 0, 1) := by decide +kernel
theorem dX10_draft_1 : decode cX10_draft 1 = .ok (.getfield 10, 3) := by decide +kernel
theorem dX10_draft_4 : decode cX10_draft 4 = .ok (.bipush 10, 2) := by decide +kernel
theorem dX10_draft_6 : decode cX10_draft 6 = .ok (.iload_n 1, 1) := by decide +kernel
theorem dX10_draft_7 : decode cX10_draft 7 = .ok (.iconst 0, 1) := by decide +kernel
theorem dX10_draft_8 : decode cX10_draft 8 = .ok (.iconst 0, 1) := by decide +kernel
theorem dX10_draft_9 : decode cX10_draft 9 = .ok (.iconst 0, 1) := by decide +kernel
theorem dX10_draft_10 : decode cX10_draft 10 = .ok (.invokevirtual 32, 3) := by decide +kernel
theorem dX10_draft_13 : decode cX10_draft 13 = .ok (.ireturn, 1) := by decide +kernel
theorem dX10_floor_0 : decode cX10_floor 0 = .ok (.aload_n 0, 1) := by decide +kernel
theorem dX10_floor_1 : decode cX10_floor 1 = .ok (.getfield 10, 3) := by decide +kernel
theorem dX10_floor_4 : decode cX10_floor 4 = .ok (.bipush 7, 2) := by decide +kernel
theorem dX10_floor_6 : decode cX10_floor 6 = .ok (.iload_n 1, 1) := by decide +kernel
theorem dX10_floor_7 : decode cX10_floor 7 = .ok (.iconst 0, 1) := by decide +kernel
theorem dX10_floor_8 : decode cX10_floor 8 = .ok (.iconst 0, 1) := by decide +kernel
theorem dX10_floor_9 : decode cX10_floor 9 = .ok (.iconst 0, 1) := by decide +kernel
theorem dX10_floor_10 : decode cX10_floor 10 = .ok (.invokevirtual 32, 3) := by decide +kernel
theorem dX10_floor_13 : decode cX10_floor 13 = .ok (.ireturn, 1) := by decide +kernel
theorem dX10_gone_0 : decode cX10_gone 0 = .ok (.aload_n 0, 1) := by decide +kernel
theorem dX10_gone_1 : decode cX10_gone 1 = .ok (.getfield 10, 3) := by decide +kernel
theorem dX10_gone_4 : decode cX10_gone 4 = .ok (.iconst 2, 1) := by decide +kernel
theorem dX10_gone_5 : decode cX10_gone 5 = .ok (.iload_n 1, 1) := by decide +kernel
theorem dX10_gone_6 : decode cX10_gone 6 = .ok (.iconst 0, 1) := by decide +kernel
theorem dX10_gone_7 : decode cX10_gone 7 = .ok (.iconst 0, 1) := by decide +kernel
theorem dX10_gone_8 : decode cX10_gone 8 = .ok (.iconst 0, 1) := by decide +kernel
theorem dX10_gone_9 : decode cX10_gone 9 = .ok (.invokevirtual 32, 3) := by decide +kernel
theorem dX10_gone_12 : decode cX10_gone 12 = .ok (.ireturn, 1) := by decide +kernel
theorem dX10_image_0 : decode cX10_image 0 = .ok (.iload_n 1, 1) := by decide +kernel
theorem dX10_image_1 : decode cX10_image 1 = .ok (.ifCond .ne 18, 3) := by decide +kernel
theorem dX10_image_4 : decode cX10_image 4 = .ok (.aload_n 0, 1) := by decide +kernel
theorem dX10_image_5 : decode cX10_image 5 = .ok (.aload_n 0, 1) := by decide +kernel
theorem dX10_image_6 : decode cX10_image 6 = .ok (.aload_n 0, 1) := by decide +kernel
theorem dX10_image_7 : decode cX10_image 7 = .ok (.getfield 157, 3) := by decide +kernel
theorem dX10_image_10 : decode cX10_image 10 = .ok (.invokevirtual 160, 3) := by decide +kernel
theorem dX10_image_13 : decode cX10_image 13 = .ok (.putfield 157, 3) := by decide +kernel
theorem dX10_image_16 : decode cX10_image 16 = .ok (.goto 26, 3) := by decide +kernel
theorem dX10_image_19 : decode cX10_image 19 = .ok (.iload_n 1, 1) := by decide +kernel
theorem dX10_image_20 : decode cX10_image 20 = .ok (.iconst 1, 1) := by decide +kernel
theorem dX10_image_21 : decode cX10_image 21 = .ok (.if_icmp .ne 18, 3) := by decide +kernel
theorem dX10_image_24 : decode cX10_image 24 = .ok (.aload_n 0, 1) := by decide +kernel
theorem dX10_image_25 : decode cX10_image 25 = .ok (.aload_n 0, 1) := by decide +kernel
theorem dX10_image_26 : decode cX10_image 26 = .ok (.aload_n 0, 1) := by decide +kernel
theorem dX10_image_27 : decode cX10_image 27 = .ok (.getfield 164, 3) := by decide +kernel
theorem dX10_image_30 : decode cX10_image 30 = .ok (.invokevirtual 160, 3) := by decide +kernel
theorem dX10_image_33 : decode cX10_image 33 = .ok (.putfield 164, 3) := by decide +kernel
theorem dX10_image_36 : decode cX10_image 36 = .ok (.goto 6, 3) := by decide +kernel
theorem dX10_image_39 : decode cX10_image 39 = .ok (.bipush (-9), 2) := by decide +kernel
theorem dX10_image_41 : decode cX10_image 41 = .ok (.ireturn, 1) := by decide +kernel
theorem dX10_image_42 : decode cX10_image 42 = .ok (.aload_n 0, 1) := by decide +kernel
theorem dX10_image_43 : decode cX10_image 43 = .ok (.getfield 10, 3) := by decide +kernel
theorem dX10_image_46 : decode cX10_image 46 = .ok (.getfield 123, 3) := by decide +kernel
theorem dX10_image_49 : decode cX10_image 49 = .ok (.getfield 126, 3) := by decide +kernel
theorem dX10_image_52 : decode cX10_image 52 = .ok (.ireturn, 1) := by decide +kernel
theorem dX10_imageOfNow_0 : decode cX10_imageOfNow 0 = .ok (.aload_n 1, 1) := by decide +kernel
theorem dX10_imageOfNow_1 : decode cX10_imageOfNow 1 = .ok (.ifnonnull 13, 3) := by decide +kernel
theorem dX10_imageOfNow_4 : decode cX10_imageOfNow 4 = .ok (.new 7, 3) := by decide +kernel
theorem dX10_imageOfNow_7 : decode cX10_imageOfNow 7 = .ok (.dup, 1) := by decide +kernel
theorem dX10_imageOfNow_8 : decode cX10_imageOfNow 8 = .ok (.invokespecial 9, 3) := by decide +kernel
theorem dX10_imageOfNow_11 : decode cX10_imageOfNow 11 = .ok (.goto 4, 3) := by decide +kernel
theorem dX10_imageOfNow_15 : decode cX10_imageOfNow 15 = .ok (.astore_n 2, 1) := by decide +kernel
theorem dX10_imageOfNow_16 : decode cX10_imageOfNow 16 = .ok (.aload_n 2, 1) := by decide +kernel
theorem dX10_imageOfNow_17 : decode cX10_imageOfNow 17 = .ok (.aload_n 0, 1) := by decide +kernel
theorem dX10_imageOfNow_18 : decode cX10_imageOfNow 18 = .ok (.getfield 10, 3) := by decide +kernel
theorem dX10_imageOfNow_21 : decode cX10_imageOfNow 21 = .ok (.invokevirtual 167, 3) := by decide +kernel
theorem dX10_imageOfNow_24 : decode cX10_imageOfNow 24 = .ok (.aload_n 2, 1) := by decide +kernel
theorem dX10_imageOfNow_25 : decode cX10_imageOfNow 25 = .ok (.areturn, 1) := by decide +kernel
theorem dX10_init_0 : decode cX10_init 0 = .ok (.aload_n 0, 1) := by decide +kernel
theorem dX10_init_1 : decode cX10_init 1 = .ok (.invokespecial 1, 3) := by decide +kernel
theorem dX10_init_4 : decode cX10_init 4 = .ok (.aload_n 0, 1) := by decide +kernel
theorem dX10_init_5 : decode cX10_init 5 = .ok (.new 7, 3) := by decide +kernel
theorem dX10_init_8 : decode cX10_init 8 = .ok (.dup, 1) := by decide +kernel
theorem dX10_init_9 : decode cX10_init 9 = .ok (.invokespecial 9, 3) := by decide +kernel
theorem dX10_init_12 : decode cX10_init 12 = .ok (.putfield 10, 3) := by decide +kernel
theorem dX10_init_15 : decode cX10_init 15 = .ok (.aload_n 0, 1) := by decide +kernel
theorem dX10_init_16 : decode cX10_init 16 = .ok (.new 7, 3) := by decide +kernel
theorem dX10_init_19 : decode cX10_init 19 = .ok (.dup, 1) := by decide +kernel
theorem dX10_init_20 : decode cX10_init 20 = .ok (.invokespecial 9, 3) := by decide +kernel
theorem dX10_init_23 : decode cX10_init 23 = .ok (.putfield 16, 3) := by decide +kernel
theorem dX10_init_26 : decode cX10_init 26 = .ok (.aload_n 0, 1) := by decide +kernel
theorem dX10_init_27 : decode cX10_init 27 = .ok (.new 19, 3) := by decide +kernel
theorem dX10_init_30 : decode cX10_init 30 = .ok (.dup, 1) := by decide +kernel
theorem dX10_init_31 : decode cX10_init 31 = .ok (.bipush 6, 2) := by decide +kernel
theorem dX10_init_33 : decode cX10_init 33 = .ok (.sipush 600, 3) := by decide +kernel
theorem dX10_init_36 : decode cX10_init 36 = .ok (.invokespecial 21, 3) := by decide +kernel
theorem dX10_init_39 : decode cX10_init 39 = .ok (.putfield 24, 3) := by decide +kernel
theorem dX10_init_42 : decode cX10_init 42 = .ok (.return_, 1) := by decide +kernel
theorem dX10_journal_0 : decode cX10_journal 0 = .ok (.iload_n 2, 1) := by decide +kernel
theorem dX10_journal_1 : decode cX10_journal 1 = .ok (.iconst 5, 1) := by decide +kernel
theorem dX10_journal_2 : decode cX10_journal 2 = .ok (.if_icmp .le 7, 3) := by decide +kernel
theorem dX10_journal_5 : decode cX10_journal 5 = .ok (.iconst (-1), 1) := by decide +kernel
theorem dX10_journal_6 : decode cX10_journal 6 = .ok (.goto 15, 3) := by decide +kernel
theorem dX10_journal_9 : decode cX10_journal 9 = .ok (.aload_n 0, 1) := by decide +kernel
theorem dX10_journal_10 : decode cX10_journal 10 = .ok (.getfield 10, 3) := by decide +kernel
theorem dX10_journal_13 : decode cX10_journal 13 = .ok (.getfield 123, 3) := by decide +kernel
theorem dX10_journal_16 : decode cX10_journal 16 = .ok (.iload_n 1, 1) := by decide +kernel
theorem dX10_journal_17 : decode cX10_journal 17 = .ok (.iload_n 2, 1) := by decide +kernel
theorem dX10_journal_18 : decode cX10_journal 18 = .ok (.invokevirtual 86, 3) := by decide +kernel
theorem dX10_journal_21 : decode cX10_journal 21 = .ok (.ireturn, 1) := by decide +kernel
theorem dX10_lay_0 : decode cX10_lay 0 = .ok (.aload_n 0, 1) := by decide +kernel
theorem dX10_lay_1 : decode cX10_lay 1 = .ok (.getfield 10, 3) := by decide +kernel
theorem dX10_lay_4 : decode cX10_lay 4 = .ok (.bipush 13, 2) := by decide +kernel
theorem dX10_lay_6 : decode cX10_lay 6 = .ok (.iload_n 1, 1) := by decide +kernel
theorem dX10_lay_7 : decode cX10_lay 7 = .ok (.iconst 0, 1) := by decide +kernel
theorem dX10_lay_8 : decode cX10_lay 8 = .ok (.iconst 0, 1) := by decide +kernel
theorem dX10_lay_9 : decode cX10_lay 9 = .ok (.iconst 0, 1) := by decide +kernel
theorem dX10_lay_10 : decode cX10_lay 10 = .ok (.invokevirtual 32, 3) := by decide +kernel
theorem dX10_lay_13 : decode cX10_lay 13 = .ok (.ireturn, 1) := by decide +kernel
theorem dX10_limit_0 : decode cX10_limit 0 = .ok (.aload_n 0, 1) := by decide +kernel
theorem dX10_limit_1 : decode cX10_limit 1 = .ok (.getfield 10, 3) := by decide +kernel
theorem dX10_limit_4 : decode cX10_limit 4 = .ok (.bipush 6, 2) := by decide +kernel
theorem dX10_limit_6 : decode cX10_limit 6 = .ok (.iload_n 1, 1) := by decide +kernel
theorem dX10_limit_7 : decode cX10_limit 7 = .ok (.iconst 0, 1) := by decide +kernel
theorem dX10_limit_8 : decode cX10_limit 8 = .ok (.iconst 0, 1) := by decide +kernel
theorem dX10_limit_9 : decode cX10_limit 9 = .ok (.iconst 0, 1) := by decide +kernel
theorem dX10_limit_10 : decode cX10_limit 10 = .ok (.invokevirtual 32, 3) := by decide +kernel
theorem dX10_limit_13 : decode cX10_limit 13 = .ok (.ireturn, 1) := by decide +kernel
theorem dX10_lying_0 : decode cX10_lying 0 = .ok (.aload_n 0, 1) := by decide +kernel
theorem dX10_lying_1 : decode cX10_lying 1 = .ok (.getfield 10, 3) := by decide +kernel
theorem dX10_lying_4 : decode cX10_lying 4 = .ok (.iload_n 1, 1) := by decide +kernel
theorem dX10_lying_5 : decode cX10_lying 5 = .ok (.invokevirtual 73, 3) := by decide +kernel
theorem dX10_lying_8 : decode cX10_lying 8 = .ok (.astore_n 3, 1) := by decide +kernel
theorem dX10_lying_9 : decode cX10_lying 9 = .ok (.aload_n 3, 1) := by decide +kernel
theorem dX10_lying_10 : decode cX10_lying 10 = .ok (.ifnonnull 7, 3) := by decide +kernel
theorem dX10_lying_13 : decode cX10_lying 13 = .ok (.iconst (-1), 1) := by decide +kernel
theorem dX10_lying_14 : decode cX10_lying 14 = .ok (.goto 8, 3) := by decide +kernel
theorem dX10_lying_17 : decode cX10_lying 17 = .ok (.aload_n 3, 1) := by decide +kernel
theorem dX10_lying_18 : decode cX10_lying 18 = .ok (.iload_n 2, 1) := by decide +kernel
theorem dX10_lying_19 : decode cX10_lying 19 = .ok (.invokevirtual 80, 3) := by decide +kernel
theorem dX10_lying_22 : decode cX10_lying 22 = .ok (.ireturn, 1) := by decide +kernel
theorem dX10_majority_0 : decode cX10_majority 0 = .ok (.aload_n 0, 1) := by decide +kernel
theorem dX10_majority_1 : decode cX10_majority 1 = .ok (.getfield 10, 3) := by decide +kernel
theorem dX10_majority_4 : decode cX10_majority 4 = .ok (.iconst 5, 1) := by decide +kernel
theorem dX10_majority_5 : decode cX10_majority 5 = .ok (.iload_n 1, 1) := by decide +kernel
theorem dX10_majority_6 : decode cX10_majority 6 = .ok (.iload_n 2, 1) := by decide +kernel
theorem dX10_majority_7 : decode cX10_majority 7 = .ok (.iconst 0, 1) := by decide +kernel
theorem dX10_majority_8 : decode cX10_majority 8 = .ok (.iconst 0, 1) := by decide +kernel
theorem dX10_majority_9 : decode cX10_majority 9 = .ok (.invokevirtual 32, 3) := by decide +kernel
theorem dX10_majority_12 : decode cX10_majority 12 = .ok (.ireturn, 1) := by decide +kernel
theorem dX10_move_0 : decode cX10_move 0 = .ok (.aload_n 0, 1) := by decide +kernel
theorem dX10_move_1 : decode cX10_move 1 = .ok (.getfield 10, 3) := by decide +kernel
theorem dX10_move_4 : decode cX10_move 4 = .ok (.bipush 15, 2) := by decide +kernel
theorem dX10_move_6 : decode cX10_move 6 = .ok (.iload_n 1, 1) := by decide +kernel
theorem dX10_move_7 : decode cX10_move 7 = .ok (.iconst 0, 1) := by decide +kernel
theorem dX10_move_8 : decode cX10_move 8 = .ok (.iconst 0, 1) := by decide +kernel
theorem dX10_move_9 : decode cX10_move 9 = .ok (.iconst 0, 1) := by decide +kernel
theorem dX10_move_10 : decode cX10_move 10 = .ok (.invokevirtual 32, 3) := by decide +kernel
theorem dX10_move_13 : decode cX10_move 13 = .ok (.ireturn, 1) := by decide +kernel
theorem dX10_order_0 : decode cX10_order 0 = .ok (.aload_n 0, 1) := by decide +kernel
theorem dX10_order_1 : decode cX10_order 1 = .ok (.getfield 10, 3) := by decide +kernel
theorem dX10_order_4 : decode cX10_order 4 = .ok (.aload_n 0, 1) := by decide +kernel
theorem dX10_order_5 : decode cX10_order 5 = .ok (.getfield 10, 3) := by decide +kernel
theorem dX10_order_8 : decode cX10_order 8 = .ok (.bipush 15, 2) := by decide +kernel
theorem dX10_order_10 : decode cX10_order 10 = .ok (.iload_n 1, 1) := by decide +kernel
theorem dX10_order_11 : decode cX10_order 11 = .ok (.iconst 0, 1) := by decide +kernel
theorem dX10_order_12 : decode cX10_order 12 = .ok (.iconst 0, 1) := by decide +kernel
theorem dX10_order_13 : decode cX10_order 13 = .ok (.iconst 0, 1) := by decide +kernel
theorem dX10_order_14 : decode cX10_order 14 = .ok (.invokestatic 36, 3) := by decide +kernel
theorem dX10_order_17 : decode cX10_order 17 = .ok (.putfield 42, 3) := by decide +kernel
theorem dX10_order_20 : decode cX10_order 20 = .ok (.aload_n 0, 1) := by decide +kernel
theorem dX10_order_21 : decode cX10_order 21 = .ok (.getfield 10, 3) := by decide +kernel
theorem dX10_order_24 : decode cX10_order 24 = .ok (.getfield 42, 3) := by decide +kernel
theorem dX10_order_27 : decode cX10_order 27 = .ok (.ifCond .ne 7, 3) := by decide +kernel
theorem dX10_order_34 : decode cX10_order 34 = .ok (.iconst 0, 1) := by decide +kernel
theorem dX10_order_35 : decode cX10_order 35 = .ok (.ireturn, 1) := by decide +kernel
theorem dX10_pending_0 : decode cX10_pending 0 = .ok (.aload_n 0, 1) := by decide +kernel
theorem dX10_pending_1 : decode cX10_pending 1 = .ok (.getfield 10, 3) := by decide +kernel
theorem dX10_pending_4 : decode cX10_pending 4 = .ok (.getfield 46, 3) := by decide +kernel
theorem dX10_pending_7 : decode cX10_pending 7 = .ok (.iload_n 1, 1) := by decide +kernel
theorem dX10_pending_8 : decode cX10_pending 8 = .ok (.invokevirtual 50, 3) := by decide +kernel
theorem dX10_pending_11 : decode cX10_pending 11 = .ok (.astore_n 3, 1) := by decide +kernel
theorem dX10_pending_12 : decode cX10_pending 12 = .ok (.aload_n 3, 1) := by decide +kernel
theorem dX10_pending_13 : decode cX10_pending 13 = .ok (.ifnonnull 7, 3) := by decide +kernel
theorem dX10_pending_16 : decode cX10_pending 16 = .ok (.iconst (-1), 1) := by decide +kernel
theorem dX10_pending_17 : decode cX10_pending 17 = .ok (.goto 8, 3) := by decide +kernel
theorem dX10_pending_25 : decode cX10_pending 25 = .ok (.ireturn, 1) := by decide +kernel
theorem dX10_quorum_0 : decode cX10_quorum 0 = .ok (.aload_n 0, 1) := by decide +kernel
theorem dX10_quorum_1 : decode cX10_quorum 1 = .ok (.getfield 10, 3) := by decide +kernel
theorem dX10_quorum_4 : decode cX10_quorum 4 = .ok (.iconst 3, 1) := by decide +kernel
theorem dX10_quorum_5 : decode cX10_quorum 5 = .ok (.iload_n 1, 1) := by decide +kernel
theorem dX10_quorum_6 : decode cX10_quorum 6 = .ok (.iconst 0, 1) := by decide +kernel
theorem dX10_quorum_7 : decode cX10_quorum 7 = .ok (.iconst 0, 1) := by decide +kernel
theorem dX10_quorum_8 : decode cX10_quorum 8 = .ok (.iconst 0, 1) := by decide +kernel
theorem dX10_quorum_9 : decode cX10_quorum 9 = .ok (.invokevirtual 32, 3) := by decide +kernel
theorem dX10_quorum_12 : decode cX10_quorum 12 = .ok (.ireturn, 1) := by decide +kernel
theorem dX10_result_0 : decode cX10_result 0 = .ok (.aload_n 0, 1) := by decide +kernel
theorem dX10_result_1 : decode cX10_result 1 = .ok (.getfield 10, 3) := by decide +kernel
theorem dX10_result_4 : decode cX10_result 4 = .ok (.getfield 83, 3) := by decide +kernel
theorem dX10_result_7 : decode cX10_result 7 = .ok (.iload_n 1, 1) := by decide +kernel
theorem dX10_result_8 : decode cX10_result 8 = .ok (.iload_n 2, 1) := by decide +kernel
theorem dX10_result_9 : decode cX10_result 9 = .ok (.invokevirtual 86, 3) := by decide +kernel
theorem dX10_result_12 : decode cX10_result 12 = .ok (.ireturn, 1) := by decide +kernel
theorem dX10_rule_0 : decode cX10_rule 0 = .ok (.aload_n 0, 1) := by decide +kernel
theorem dX10_rule_1 : decode cX10_rule 1 = .ok (.getfield 10, 3) := by decide +kernel
theorem dX10_rule_4 : decode cX10_rule 4 = .ok (.bipush 19, 2) := by decide +kernel
theorem dX10_rule_6 : decode cX10_rule 6 = .ok (.iconst 0, 1) := by decide +kernel
theorem dX10_rule_7 : decode cX10_rule 7 = .ok (.iconst 0, 1) := by decide +kernel
theorem dX10_rule_8 : decode cX10_rule 8 = .ok (.iconst 0, 1) := by decide +kernel
theorem dX10_rule_9 : decode cX10_rule 9 = .ok (.iconst 0, 1) := by decide +kernel
theorem dX10_rule_10 : decode cX10_rule 10 = .ok (.invokevirtual 32, 3) := by decide +kernel
theorem dX10_rule_13 : decode cX10_rule 13 = .ok (.ireturn, 1) := by decide +kernel
theorem dX10_seat_0 : decode cX10_seat 0 = .ok (.aload_n 0, 1) := by decide +kernel
theorem dX10_seat_1 : decode cX10_seat 1 = .ok (.getfield 10, 3) := by decide +kernel
theorem dX10_seat_4 : decode cX10_seat 4 = .ok (.getfield 88, 3) := by decide +kernel
theorem dX10_seat_7 : decode cX10_seat 7 = .ok (.iload_n 1, 1) := by decide +kernel
theorem dX10_seat_8 : decode cX10_seat 8 = .ok (.invokevirtual 137, 3) := by decide +kernel
theorem dX10_seat_11 : decode cX10_seat 11 = .ok (.ifCond .ne 5, 3) := by decide +kernel
theorem dX10_seat_14 : decode cX10_seat 14 = .ok (.iconst (-1), 1) := by decide +kernel
theorem dX10_seat_15 : decode cX10_seat 15 = .ok (.ireturn, 1) := by decide +kernel
theorem dX10_seat_16 : decode cX10_seat 16 = .ok (.aload_n 0, 1) := by decide +kernel
theorem dX10_seat_17 : decode cX10_seat 17 = .ok (.getfield 10, 3) := by decide +kernel
theorem dX10_seat_20 : decode cX10_seat 20 = .ok (.getfield 88, 3) := by decide +kernel
theorem dX10_seat_23 : decode cX10_seat 23 = .ok (.iload_n 1, 1) := by decide +kernel
theorem dX10_seat_24 : decode cX10_seat 24 = .ok (.invokevirtual 141, 3) := by decide +kernel
theorem dX10_seat_27 : decode cX10_seat 27 = .ok (.ifCond .eq 7, 3) := by decide +kernel
theorem dX10_seat_34 : decode cX10_seat 34 = .ok (.iconst 0, 1) := by decide +kernel
theorem dX10_seat_35 : decode cX10_seat 35 = .ok (.ireturn, 1) := by decide +kernel
theorem dX10_seats_0 : decode cX10_seats 0 = .ok (.iload_n 1, 1) := by decide +kernel
theorem dX10_seats_1 : decode cX10_seats 1 = .ok (.iconst 1, 1) := by decide +kernel
theorem dX10_seats_2 : decode cX10_seats 2 = .ok (.if_icmp .lt 10, 3) := by decide +kernel
theorem dX10_seats_5 : decode cX10_seats 5 = .ok (.iload_n 1, 1) := by decide +kernel
theorem dX10_seats_6 : decode cX10_seats 6 = .ok (.sipush 200, 3) := by decide +kernel
theorem dX10_seats_9 : decode cX10_seats 9 = .ok (.if_icmp .le 6, 3) := by decide +kernel
theorem dX10_seats_12 : decode cX10_seats 12 = .ok (.bipush (-9), 2) := by decide +kernel
theorem dX10_seats_14 : decode cX10_seats 14 = .ok (.ireturn, 1) := by decide +kernel
theorem dX10_seats_15 : decode cX10_seats 15 = .ok (.aload_n 0, 1) := by decide +kernel
theorem dX10_seats_16 : decode cX10_seats 16 = .ok (.getfield 10, 3) := by decide +kernel
theorem dX10_seats_19 : decode cX10_seats 19 = .ok (.iload_n 1, 1) := by decide +kernel
theorem dX10_seats_20 : decode cX10_seats 20 = .ok (.invokevirtual 28, 3) := by decide +kernel
theorem dX10_seats_23 : decode cX10_seats 23 = .ok (.iload_n 1, 1) := by decide +kernel
theorem dX10_seats_24 : decode cX10_seats 24 = .ok (.ireturn, 1) := by decide +kernel
theorem dX10_second_0 : decode cX10_second 0 = .ok (.aload_n 0, 1) := by decide +kernel
theorem dX10_second_1 : decode cX10_second 1 = .ok (.getfield 10, 3) := by decide +kernel
theorem dX10_second_4 : decode cX10_second 4 = .ok (.bipush 16, 2) := by decide +kernel
theorem dX10_second_6 : decode cX10_second 6 = .ok (.iload_n 1, 1) := by decide +kernel
theorem dX10_second_7 : decode cX10_second 7 = .ok (.iconst 0, 1) := by decide +kernel
theorem dX10_second_8 : decode cX10_second 8 = .ok (.iconst 0, 1) := by decide +kernel
theorem dX10_second_9 : decode cX10_second 9 = .ok (.iconst 0, 1) := by decide +kernel
theorem dX10_second_10 : decode cX10_second 10 = .ok (.invokevirtual 32, 3) := by decide +kernel
theorem dX10_second_13 : decode cX10_second 13 = .ok (.ireturn, 1) := by decide +kernel
theorem dX10_span_0 : decode cX10_span 0 = .ok (.aload_n 0, 1) := by decide +kernel
theorem dX10_span_1 : decode cX10_span 1 = .ok (.getfield 10, 3) := by decide +kernel
theorem dX10_span_4 : decode cX10_span 4 = .ok (.bipush 11, 2) := by decide +kernel
theorem dX10_span_6 : decode cX10_span 6 = .ok (.iload_n 1, 1) := by decide +kernel
theorem dX10_span_7 : decode cX10_span 7 = .ok (.iload_n 2, 1) := by decide +kernel
theorem dX10_span_8 : decode cX10_span 8 = .ok (.iconst 0, 1) := by decide +kernel
theorem dX10_span_9 : decode cX10_span 9 = .ok (.iconst 0, 1) := by decide +kernel
theorem dX10_span_10 : decode cX10_span 10 = .ok (.invokevirtual 32, 3) := by decide +kernel
theorem dX10_span_13 : decode cX10_span 13 = .ok (.ireturn, 1) := by decide +kernel
theorem dX10_strike_0 : decode cX10_strike 0 = .ok (.aload_n 0, 1) := by decide +kernel
theorem dX10_strike_1 : decode cX10_strike 1 = .ok (.getfield 24, 3) := by decide +kernel
theorem dX10_strike_4 : decode cX10_strike 4 = .ok (.getfield 126, 3) := by decide +kernel
theorem dX10_strike_7 : decode cX10_strike 7 = .ok (.istore_n 1, 1) := by decide +kernel
theorem dX10_strike_8 : decode cX10_strike 8 = .ok (.aload_n 0, 1) := by decide +kernel
theorem dX10_strike_9 : decode cX10_strike 9 = .ok (.getfield 24, 3) := by decide +kernel
theorem dX10_strike_12 : decode cX10_strike 12 = .ok (.iconst 0, 1) := by decide +kernel
theorem dX10_strike_13 : decode cX10_strike 13 = .ok (.putfield 126, 3) := by decide +kernel
theorem dX10_strike_16 : decode cX10_strike 16 = .ok (.iload_n 1, 1) := by decide +kernel
theorem dX10_strike_17 : decode cX10_strike 17 = .ok (.ireturn, 1) := by decide +kernel
theorem dX10_take_0 : decode cX10_take 0 = .ok (.aload_n 0, 1) := by decide +kernel
theorem dX10_take_1 : decode cX10_take 1 = .ok (.getfield 10, 3) := by decide +kernel
theorem dX10_take_4 : decode cX10_take 4 = .ok (.bipush 14, 2) := by decide +kernel
theorem dX10_take_6 : decode cX10_take 6 = .ok (.iload_n 1, 1) := by decide +kernel
theorem dX10_take_7 : decode cX10_take 7 = .ok (.iconst 0, 1) := by decide +kernel
theorem dX10_take_8 : decode cX10_take 8 = .ok (.iconst 0, 1) := by decide +kernel
theorem dX10_take_9 : decode cX10_take 9 = .ok (.iconst 0, 1) := by decide +kernel
theorem dX10_take_10 : decode cX10_take 10 = .ok (.invokevirtual 32, 3) := by decide +kernel
theorem dX10_take_13 : decode cX10_take 13 = .ok (.ireturn, 1) := by decide +kernel
theorem dX10_tell_0 : decode cX10_tell 0 = .ok (.aload_n 0, 1) := by decide +kernel
theorem dX10_tell_1 : decode cX10_tell 1 = .ok (.getfield 24, 3) := by decide +kernel
theorem dX10_tell_4 : decode cX10_tell 4 = .ok (.invokevirtual 144, 3) := by decide +kernel
theorem dX10_tell_7 : decode cX10_tell 7 = .ok (.ifCond .eq 6, 3) := by decide +kernel
theorem dX10_tell_13 : decode cX10_tell 13 = .ok (.aload_n 0, 1) := by decide +kernel
theorem dX10_tell_14 : decode cX10_tell 14 = .ok (.getfield 24, 3) := by decide +kernel
theorem dX10_tell_17 : decode cX10_tell 17 = .ok (.invokevirtual 148, 3) := by decide +kernel
theorem dX10_tell_20 : decode cX10_tell 20 = .ok (.aload_n 0, 1) := by decide +kernel
theorem dX10_tell_21 : decode cX10_tell 21 = .ok (.getfield 24, 3) := by decide +kernel
theorem dX10_tell_24 : decode cX10_tell 24 = .ok (.iconst 0, 1) := by decide +kernel
theorem dX10_tell_25 : decode cX10_tell 25 = .ok (.iload_n 1, 1) := by decide +kernel
theorem dX10_tell_26 : decode cX10_tell 26 = .ok (.invokevirtual 151, 3) := by decide +kernel
theorem dX10_tell_29 : decode cX10_tell 29 = .ok (.aload_n 0, 1) := by decide +kernel
theorem dX10_tell_30 : decode cX10_tell 30 = .ok (.getfield 24, 3) := by decide +kernel
theorem dX10_tell_33 : decode cX10_tell 33 = .ok (.iconst 1, 1) := by decide +kernel
theorem dX10_tell_34 : decode cX10_tell 34 = .ok (.iload_n 2, 1) := by decide +kernel
theorem dX10_tell_35 : decode cX10_tell 35 = .ok (.invokevirtual 151, 3) := by decide +kernel
theorem dX10_tell_38 : decode cX10_tell 38 = .ok (.aload_n 0, 1) := by decide +kernel
theorem dX10_tell_39 : decode cX10_tell 39 = .ok (.getfield 24, 3) := by decide +kernel
theorem dX10_tell_42 : decode cX10_tell 42 = .ok (.iconst 2, 1) := by decide +kernel
theorem dX10_tell_43 : decode cX10_tell 43 = .ok (.iload_n 3, 1) := by decide +kernel
theorem dX10_tell_44 : decode cX10_tell 44 = .ok (.invokevirtual 151, 3) := by decide +kernel
theorem dX10_tell_47 : decode cX10_tell 47 = .ok (.aload_n 0, 1) := by decide +kernel
theorem dX10_tell_48 : decode cX10_tell 48 = .ok (.getfield 24, 3) := by decide +kernel
theorem dX10_tell_51 : decode cX10_tell 51 = .ok (.iconst 3, 1) := by decide +kernel
theorem dX10_tell_52 : decode cX10_tell 52 = .ok (.iload 4, 2) := by decide +kernel
theorem dX10_tell_54 : decode cX10_tell 54 = .ok (.invokevirtual 151, 3) := by decide +kernel
theorem dX10_tell_57 : decode cX10_tell 57 = .ok (.aload_n 0, 1) := by decide +kernel
theorem dX10_tell_58 : decode cX10_tell 58 = .ok (.getfield 24, 3) := by decide +kernel
theorem dX10_tell_61 : decode cX10_tell 61 = .ok (.iconst 4, 1) := by decide +kernel
theorem dX10_tell_62 : decode cX10_tell 62 = .ok (.iload 5, 2) := by decide +kernel
theorem dX10_tell_64 : decode cX10_tell 64 = .ok (.invokevirtual 151, 3) := by decide +kernel
theorem dX10_tell_67 : decode cX10_tell 67 = .ok (.aload_n 0, 1) := by decide +kernel
theorem dX10_tell_68 : decode cX10_tell 68 = .ok (.getfield 24, 3) := by decide +kernel
theorem dX10_tell_71 : decode cX10_tell 71 = .ok (.iconst 5, 1) := by decide +kernel
theorem dX10_tell_72 : decode cX10_tell 72 = .ok (.iload 6, 2) := by decide +kernel
theorem dX10_tell_74 : decode cX10_tell 74 = .ok (.invokevirtual 151, 3) := by decide +kernel
theorem dX10_tell_77 : decode cX10_tell 77 = .ok (.aload_n 0, 1) := by decide +kernel
theorem dX10_tell_78 : decode cX10_tell 78 = .ok (.getfield 24, 3) := by decide +kernel
theorem dX10_tell_81 : decode cX10_tell 81 = .ok (.getfield 126, 3) := by decide +kernel
theorem dX10_tell_84 : decode cX10_tell 84 = .ok (.ireturn, 1) := by decide +kernel
theorem dX10_text_0 : decode cX10_text 0 = .ok (.aload_n 0, 1) := by decide +kernel
theorem dX10_text_1 : decode cX10_text 1 = .ok (.getfield 10, 3) := by decide +kernel
theorem dX10_text_4 : decode cX10_text 4 = .ok (.iload_n 1, 1) := by decide +kernel
theorem dX10_text_5 : decode cX10_text 5 = .ok (.iload_n 2, 1) := by decide +kernel
theorem dX10_text_6 : decode cX10_text 6 = .ok (.invokevirtual 62, 3) := by decide +kernel
theorem dX10_text_9 : decode cX10_text 9 = .ok (.ireturn, 1) := by decide +kernel
theorem dX10_there_0 : decode cX10_there 0 = .ok (.aload_n 0, 1) := by decide +kernel
theorem dX10_there_1 : decode cX10_there 1 = .ok (.getfield 10, 3) := by decide +kernel
theorem dX10_there_4 : decode cX10_there 4 = .ok (.iconst 1, 1) := by decide +kernel
theorem dX10_there_5 : decode cX10_there 5 = .ok (.iload_n 1, 1) := by decide +kernel
theorem dX10_there_6 : decode cX10_there 6 = .ok (.iconst 0, 1) := by decide +kernel
theorem dX10_there_7 : decode cX10_there 7 = .ok (.iconst 0, 1) := by decide +kernel
theorem dX10_there_8 : decode cX10_there 8 = .ok (.iconst 0, 1) := by decide +kernel
theorem dX10_there_9 : decode cX10_there 9 = .ok (.invokevirtual 32, 3) := by decide +kernel
theorem dX10_there_12 : decode cX10_there 12 = .ok (.ireturn, 1) := by decide +kernel
theorem dX10_told_0 : decode cX10_told 0 = .ok (.aload_n 0, 1) := by decide +kernel
theorem dX10_told_1 : decode cX10_told 1 = .ok (.getfield 10, 3) := by decide +kernel
theorem dX10_told_4 : decode cX10_told 4 = .ok (.bipush 21, 2) := by decide +kernel
theorem dX10_told_6 : decode cX10_told 6 = .ok (.iconst 0, 1) := by decide +kernel
theorem dX10_told_7 : decode cX10_told 7 = .ok (.iconst 0, 1) := by decide +kernel
theorem dX10_told_8 : decode cX10_told 8 = .ok (.iconst 0, 1) := by decide +kernel
theorem dX10_told_9 : decode cX10_told 9 = .ok (.iconst 0, 1) := by decide +kernel
theorem dX10_told_10 : decode cX10_told 10 = .ok (.invokevirtual 32, 3) := by decide +kernel
theorem dX10_told_13 : decode cX10_told 13 = .ok (.ireturn, 1) := by decide +kernel
theorem dX10_vote_0 : decode cX10_vote 0 = .ok (.aload_n 0, 1) := by decide +kernel
theorem dX10_vote_1 : decode cX10_vote 1 = .ok (.getfield 10, 3) := by decide +kernel
theorem dX10_vote_4 : decode cX10_vote 4 = .ok (.bipush 17, 2) := by decide +kernel
theorem dX10_vote_6 : decode cX10_vote 6 = .ok (.iload_n 1, 1) := by decide +kernel
theorem dX10_vote_7 : decode cX10_vote 7 = .ok (.iload_n 2, 1) := by decide +kernel
theorem dX10_vote_8 : decode cX10_vote 8 = .ok (.iconst 0, 1) := by decide +kernel
theorem dX10_vote_9 : decode cX10_vote 9 = .ok (.iconst 0, 1) := by decide +kernel
theorem dX10_vote_10 : decode cX10_vote 10 = .ok (.invokevirtual 32, 3) := by decide +kernel
theorem dX10_vote_13 : decode cX10_vote 13 = .ok (.ireturn, 1) := by decide +kernel
theorem dX10_why_0 : decode cX10_why 0 = .ok (.aload_n 0, 1) := by decide +kernel
theorem dX10_why_1 : decode cX10_why 1 = .ok (.getfield 10, 3) := by decide +kernel
theorem dX10_why_4 : decode cX10_why 4 = .ok (.getfield 42, 3) := by decide +kernel
theorem dX10_why_7 : decode cX10_why 7 = .ok (.ireturn, 1) := by decide +kernel
theorem dX10_withdraw_0 : decode cX10_withdraw 0 = .ok (.aload_n 0, 1) := by decide +kernel
theorem dX10_withdraw_1 : decode cX10_withdraw 1 = .ok (.getfield 10, 3) := by decide +kernel
theorem dX10_withdraw_4 : decode cX10_withdraw 4 = .ok (.bipush 18, 2) := by decide +kernel
theorem dX10_withdraw_6 : decode cX10_withdraw 6 = .ok (.iload_n 1, 1) := by decide +kernel
theorem dX10_withdraw_7 : decode cX10_withdraw 7 = .ok (.iconst 0, 1) := by decide +kernel
theorem dX10_withdraw_8 : decode cX10_withdraw 8 = .ok (.iconst 0, 1) := by decide +kernel
theorem dX10_withdraw_9 : decode cX10_withdraw 9 = .ok (.iconst 0, 1) := by decide +kernel
theorem dX10_withdraw_10 : decode cX10_withdraw 10 = .ok (.invokevirtual 32, 3) := by decide +kernel
theorem dX10_withdraw_13 : decode cX10_withdraw 13 = .ok (.ireturn, 1) := by decide +kernel
theorem dX10_word_0 : decode cX10_word 0 = .ok (.aload_n 0, 1) := by decide +kernel
theorem dX10_word_1 : decode cX10_word 1 = .ok (.getfield 10, 3) := by decide +kernel
theorem dX10_word_4 : decode cX10_word 4 = .ok (.bipush 12, 2) := by decide +kernel
theorem dX10_word_6 : decode cX10_word 6 = .ok (.iload_n 1, 1) := by decide +kernel
theorem dX10_word_7 : decode cX10_word 7 = .ok (.iload_n 2, 1) := by decide +kernel
theorem dX10_word_8 : decode cX10_word 8 = .ok (.iload_n 3, 1) := by decide +kernel
theorem dX10_word_9 : decode cX10_word 9 = .ok (.iload 4, 2) := by decide +kernel
theorem dX10_word_11 : decode cX10_word 11 = .ok (.invokevirtual 32, 3) := by decide +kernel
theorem dX10_word_14 : decode cX10_word 14 = .ok (.ireturn, 1) := by decide +kernel
theorem dX11_act_0 : decode cX11_act 0 = .ok (.aload_n 0, 1) := by decide +kernel
theorem dX11_act_1 : decode cX11_act 1 = .ok (.iload_n 1, 1) := by decide +kernel
theorem dX11_act_2 : decode cX11_act 2 = .ok (.iload_n 2, 1) := by decide +kernel
theorem dX11_act_3 : decode cX11_act 3 = .ok (.iload_n 3, 1) := by decide +kernel
theorem dX11_act_4 : decode cX11_act 4 = .ok (.iload 4, 2) := by decide +kernel
theorem dX11_act_6 : decode cX11_act 6 = .ok (.iload 5, 2) := by decide +kernel
theorem dX11_act_8 : decode cX11_act 8 = .ok (.invokevirtual 196, 3) := by decide +kernel
theorem dX11_act_11 : decode cX11_act 11 = .ok (.istore 6, 2) := by decide +kernel
theorem dX11_act_13 : decode cX11_act 13 = .ok (.iload 6, 2) := by decide +kernel
theorem dX11_act_15 : decode cX11_act 15 = .ok (.ifCond .ne 17, 3) := by decide +kernel
theorem dX11_act_18 : decode cX11_act 18 = .ok (.aload_n 0, 1) := by decide +kernel
theorem dX11_act_19 : decode cX11_act 19 = .ok (.getfield 118, 3) := by decide +kernel
theorem dX11_act_22 : decode cX11_act 22 = .ok (.sipush 600, 3) := by decide +kernel
theorem dX11_act_25 : decode cX11_act 25 = .ok (.if_icmp .ne 7, 3) := by decide +kernel
theorem dX11_act_32 : decode cX11_act 32 = .ok (.aload_n 0, 1) := by decide +kernel
theorem dX11_act_33 : decode cX11_act 33 = .ok (.iload 6, 2) := by decide +kernel
theorem dX11_act_35 : decode cX11_act 35 = .ok (.putfield 127, 3) := by decide +kernel
theorem dX11_act_38 : decode cX11_act 38 = .ok (.iload 6, 2) := by decide +kernel
theorem dX11_act_40 : decode cX11_act 40 = .ok (.ifCond .le 7, 3) := by decide +kernel
theorem dX11_act_43 : decode cX11_act 43 = .ok (.iload 6, 2) := by decide +kernel
theorem dX11_act_45 : decode cX11_act 45 = .ok (.ineg, 1) := by decide +kernel
theorem dX11_act_46 : decode cX11_act 46 = .ok (.ireturn, 1) := by decide +kernel
theorem dX11_act_47 : decode cX11_act 47 = .ok (.aload_n 0, 1) := by decide +kernel
theorem dX11_act_48 : decode cX11_act 48 = .ok (.iload_n 1, 1) := by decide +kernel
theorem dX11_act_49 : decode cX11_act 49 = .ok (.iload_n 2, 1) := by decide +kernel
theorem dX11_act_50 : decode cX11_act 50 = .ok (.iload_n 3, 1) := by decide +kernel
theorem dX11_act_51 : decode cX11_act 51 = .ok (.iload 4, 2) := by decide +kernel
theorem dX11_act_53 : decode cX11_act 53 = .ok (.iload 5, 2) := by decide +kernel
theorem dX11_act_55 : decode cX11_act 55 = .ok (.invokevirtual 200, 3) := by decide +kernel
theorem dX11_act_58 : decode cX11_act 58 = .ok (.istore 7, 2) := by decide +kernel
theorem dX11_act_60 : decode cX11_act 60 = .ok (.bipush 6, 2) := by decide +kernel
theorem dX11_act_62 : decode cX11_act 62 = .ok (.aload_n 0, 1) := by decide +kernel
theorem dX11_act_63 : decode cX11_act 63 = .ok (.getfield 118, 3) := by decide +kernel
theorem dX11_act_66 : decode cX11_act 66 = .ok (.imul, 1) := by decide +kernel
theorem dX11_act_67 : decode cX11_act 67 = .ok (.istore 8, 2) := by decide +kernel
theorem dX11_act_69 : decode cX11_act 69 = .ok (.iload_n 1, 1) := by decide +kernel
theorem dX11_act_70 : decode cX11_act 70 = .ok (.invokestatic 203, 3) := by decide +kernel
theorem dX11_act_73 : decode cX11_act 73 = .ok (.istore 9, 2) := by decide +kernel
theorem dX11_act_75 : decode cX11_act 75 = .ok (.aload_n 0, 1) := by decide +kernel
theorem dX11_act_76 : decode cX11_act 76 = .ok (.getfield 90, 3) := by decide +kernel
theorem dX11_act_79 : decode cX11_act 79 = .ok (.iload 8, 2) := by decide +kernel
theorem dX11_act_81 : decode cX11_act 81 = .ok (.iload_n 1, 1) := by decide +kernel
theorem dX11_act_82 : decode cX11_act 82 = .ok (.iastore, 1) := by decide +kernel
theorem dX11_act_83 : decode cX11_act 83 = .ok (.aload_n 0, 1) := by decide +kernel
theorem dX11_act_84 : decode cX11_act 84 = .ok (.getfield 90, 3) := by decide +kernel
theorem dX11_act_87 : decode cX11_act 87 = .ok (.iload 8, 2) := by decide +kernel
theorem dX11_act_89 : decode cX11_act 89 = .ok (.iconst 1, 1) := by decide +kernel
theorem dX11_act_90 : decode cX11_act 90 = .ok (.iadd, 1) := by decide +kernel
theorem dX11_act_91 : decode cX11_act 91 = .ok (.iload 9, 2) := by decide +kernel
theorem dX11_act_93 : decode cX11_act 93 = .ok (.ifCond .le 7, 3) := by decide +kernel
theorem dX11_act_96 : decode cX11_act 96 = .ok (.iload_n 2, 1) := by decide +kernel
theorem dX11_act_97 : decode cX11_act 97 = .ok (.goto 4, 3) := by decide +kernel
theorem dX11_act_101 : decode cX11_act 101 = .ok (.iastore, 1) := by decide +kernel
theorem dX11_act_102 : decode cX11_act 102 = .ok (.aload_n 0, 1) := by decide +kernel
theorem dX11_act_103 : decode cX11_act 103 = .ok (.getfield 90, 3) := by decide +kernel
theorem dX11_act_106 : decode cX11_act 106 = .ok (.iload 8, 2) := by decide +kernel
theorem dX11_act_108 : decode cX11_act 108 = .ok (.iconst 2, 1) := by decide +kernel
theorem dX11_act_109 : decode cX11_act 109 = .ok (.iadd, 1) := by decide +kernel
theorem dX11_act_110 : decode cX11_act 110 = .ok (.iload 9, 2) := by decide +kernel
theorem dX11_act_112 : decode cX11_act 112 = .ok (.iconst 1, 1) := by decide +kernel
theorem dX11_act_113 : decode cX11_act 113 = .ok (.if_icmp .le 7, 3) := by decide +kernel
theorem dX11_act_116 : decode cX11_act 116 = .ok (.iload_n 3, 1) := by decide +kernel
theorem dX11_act_117 : decode cX11_act 117 = .ok (.goto 4, 3) := by decide +kernel
theorem dX11_act_120 : decode cX11_act 120 = .ok (.iconst 0, 1) := by decide +kernel
theorem dX11_act_121 : decode cX11_act 121 = .ok (.iastore, 1) := by decide +kernel
theorem dX11_act_122 : decode cX11_act 122 = .ok (.aload_n 0, 1) := by decide +kernel
theorem dX11_act_123 : decode cX11_act 123 = .ok (.getfield 90, 3) := by decide +kernel
theorem dX11_act_126 : decode cX11_act 126 = .ok (.iload 8, 2) := by decide +kernel
theorem dX11_act_128 : decode cX11_act 128 = .ok (.iconst 3, 1) := by decide +kernel
theorem dX11_act_129 : decode cX11_act 129 = .ok (.iadd, 1) := by decide +kernel
theorem dX11_act_130 : decode cX11_act 130 = .ok (.iload 9, 2) := by decide +kernel
theorem dX11_act_132 : decode cX11_act 132 = .ok (.iconst 2, 1) := by decide +kernel
theorem dX11_act_133 : decode cX11_act 133 = .ok (.if_icmp .le 8, 3) := by decide +kernel
theorem dX11_act_141 : decode cX11_act 141 = .ok (.iconst 0, 1) := by decide +kernel
theorem dX11_act_142 : decode cX11_act 142 = .ok (.iastore, 1) := by decide +kernel
theorem dX11_act_143 : decode cX11_act 143 = .ok (.aload_n 0, 1) := by decide +kernel
theorem dX11_act_144 : decode cX11_act 144 = .ok (.getfield 90, 3) := by decide +kernel
theorem dX11_act_147 : decode cX11_act 147 = .ok (.iload 8, 2) := by decide +kernel
theorem dX11_act_149 : decode cX11_act 149 = .ok (.iconst 4, 1) := by decide +kernel
theorem dX11_act_150 : decode cX11_act 150 = .ok (.iadd, 1) := by decide +kernel
theorem dX11_act_151 : decode cX11_act 151 = .ok (.iload 9, 2) := by decide +kernel
theorem dX11_act_153 : decode cX11_act 153 = .ok (.iconst 3, 1) := by decide +kernel
theorem dX11_act_154 : decode cX11_act 154 = .ok (.if_icmp .le 8, 3) := by decide +kernel
theorem dX11_act_162 : decode cX11_act 162 = .ok (.iconst 0, 1) := by decide +kernel
theorem dX11_act_163 : decode cX11_act 163 = .ok (.iastore, 1) := by decide +kernel
theorem dX11_act_164 : decode cX11_act 164 = .ok (.aload_n 0, 1) := by decide +kernel
theorem dX11_act_165 : decode cX11_act 165 = .ok (.getfield 90, 3) := by decide +kernel
theorem dX11_act_168 : decode cX11_act 168 = .ok (.iload 8, 2) := by decide +kernel
theorem dX11_act_170 : decode cX11_act 170 = .ok (.iconst 5, 1) := by decide +kernel
theorem dX11_act_171 : decode cX11_act 171 = .ok (.iadd, 1) := by decide +kernel
theorem dX11_act_172 : decode cX11_act 172 = .ok (.iload 7, 2) := by decide +kernel
theorem dX11_act_174 : decode cX11_act 174 = .ok (.iastore, 1) := by decide +kernel
theorem dX11_act_175 : decode cX11_act 175 = .ok (.aload_n 0, 1) := by decide +kernel
theorem dX11_act_176 : decode cX11_act 176 = .ok (.dup, 1) := by decide +kernel
theorem dX11_act_177 : decode cX11_act 177 = .ok (.getfield 118, 3) := by decide +kernel
theorem dX11_act_180 : decode cX11_act 180 = .ok (.iconst 1, 1) := by decide +kernel
theorem dX11_act_181 : decode cX11_act 181 = .ok (.iadd, 1) := by decide +kernel
theorem dX11_act_182 : decode cX11_act 182 = .ok (.putfield 118, 3) := by decide +kernel
theorem dX11_act_185 : decode cX11_act 185 = .ok (.iload 7, 2) := by decide +kernel
theorem dX11_act_187 : decode cX11_act 187 = .ok (.ireturn, 1) := by decide +kernel
theorem dX11_anew_0 : decode cX11_anew 0 = .ok (.aload_n 0, 1) := by decide +kernel
theorem dX11_anew_1 : decode cX11_anew 1 = .ok (.dup, 1) := by decide +kernel
theorem dX11_anew_2 : decode cX11_anew 2 = .ok (.getfield 148, 3) := by decide +kernel
theorem dX11_anew_5 : decode cX11_anew 5 = .ok (.iconst 1, 1) := by decide +kernel
theorem dX11_anew_6 : decode cX11_anew 6 = .ok (.iadd, 1) := by decide +kernel
theorem dX11_anew_7 : decode cX11_anew 7 = .ok (.putfield 148, 3) := by decide +kernel
theorem dX11_anew_10 : decode cX11_anew 10 = .ok (.aload_n 0, 1) := by decide +kernel
theorem dX11_anew_11 : decode cX11_anew 11 = .ok (.getfield 46, 3) := by decide +kernel
theorem dX11_anew_14 : decode cX11_anew 14 = .ok (.iload_n 1, 1) := by decide +kernel
theorem dX11_anew_15 : decode cX11_anew 15 = .ok (.aload_n 0, 1) := by decide +kernel
theorem dX11_anew_16 : decode cX11_anew 16 = .ok (.getfield 148, 3) := by decide +kernel
theorem dX11_anew_19 : decode cX11_anew 19 = .ok (.iastore, 1) := by decide +kernel
theorem dX11_anew_20 : decode cX11_anew 20 = .ok (.aload_n 0, 1) := by decide +kernel
theorem dX11_anew_21 : decode cX11_anew 21 = .ok (.getfield 31, 3) := by decide +kernel
theorem dX11_anew_24 : decode cX11_anew 24 = .ok (.iload_n 1, 1) := by decide +kernel
theorem dX11_anew_25 : decode cX11_anew 25 = .ok (.iconst 0, 1) := by decide +kernel
theorem dX11_anew_26 : decode cX11_anew 26 = .ok (.iastore, 1) := by decide +kernel
theorem dX11_anew_27 : decode cX11_anew 27 = .ok (.aload_n 0, 1) := by decide +kernel
theorem dX11_anew_28 : decode cX11_anew 28 = .ok (.getfield 34, 3) := by decide +kernel
theorem dX11_anew_31 : decode cX11_anew 31 = .ok (.iload_n 1, 1) := by decide +kernel
theorem dX11_anew_32 : decode cX11_anew 32 = .ok (.iconst 0, 1) := by decide +kernel
theorem dX11_anew_33 : decode cX11_anew 33 = .ok (.iastore, 1) := by decide +kernel
theorem dX11_anew_34 : decode cX11_anew 34 = .ok (.aload_n 0, 1) := by decide +kernel
theorem dX11_anew_35 : decode cX11_anew 35 = .ok (.getfield 52, 3) := by decide +kernel
theorem dX11_anew_38 : decode cX11_anew 38 = .ok (.iload_n 1, 1) := by decide +kernel
theorem dX11_anew_39 : decode cX11_anew 39 = .ok (.iconst 0, 1) := by decide +kernel
theorem dX11_anew_40 : decode cX11_anew 40 = .ok (.bastore, 1) := by decide +kernel
theorem dX11_anew_41 : decode cX11_anew 41 = .ok (.iconst 0, 1) := by decide +kernel
theorem dX11_anew_42 : decode cX11_anew 42 = .ok (.istore_n 2, 1) := by decide +kernel
theorem dX11_anew_43 : decode cX11_anew 43 = .ok (.iload_n 2, 1) := by decide +kernel
theorem dX11_anew_44 : decode cX11_anew 44 = .ok (.sipush 200, 3) := by decide +kernel
theorem dX11_anew_47 : decode cX11_anew 47 = .ok (.if_icmp .ge 22, 3) := by decide +kernel
theorem dX11_anew_50 : decode cX11_anew 50 = .ok (.aload_n 0, 1) := by decide +kernel
theorem dX11_anew_51 : decode cX11_anew 51 = .ok (.getfield 68, 3) := by decide +kernel
theorem dX11_anew_54 : decode cX11_anew 54 = .ok (.sipush 200, 3) := by decide +kernel
theorem dX11_anew_57 : decode cX11_anew 57 = .ok (.iload_n 1, 1) := by decide +kernel
theorem dX11_anew_58 : decode cX11_anew 58 = .ok (.imul, 1) := by decide +kernel
theorem dX11_anew_59 : decode cX11_anew 59 = .ok (.iload_n 2, 1) := by decide +kernel
theorem dX11_anew_60 : decode cX11_anew 60 = .ok (.iadd, 1) := by decide +kernel
theorem dX11_anew_61 : decode cX11_anew 61 = .ok (.iconst 2, 1) := by decide +kernel
theorem dX11_anew_62 : decode cX11_anew 62 = .ok (.bastore, 1) := by decide +kernel
theorem dX11_anew_63 : decode cX11_anew 63 = .ok (.iinc 2 1, 3) := by decide +kernel
theorem dX11_anew_66 : decode cX11_anew 66 = .ok (.goto (-23), 3) := by decide +kernel
theorem dX11_anew_69 : decode cX11_anew 69 = .ok (.return_, 1) := by decide +kernel
theorem dX11_begin_0 : decode cX11_begin 0 = .ok (.aload_n 0, 1) := by decide +kernel
theorem dX11_begin_1 : decode cX11_begin 1 = .ok (.iload_n 1, 1) := by decide +kernel
theorem dX11_begin_2 : decode cX11_begin 2 = .ok (.putfield 96, 3) := by decide +kernel
theorem dX11_begin_5 : decode cX11_begin 5 = .ok (.aload_n 0, 1) := by decide +kernel
theorem dX11_begin_6 : decode cX11_begin 6 = .ok (.iconst 0, 1) := by decide +kernel
theorem dX11_begin_7 : decode cX11_begin 7 = .ok (.putfield 100, 3) := by decide +kernel
theorem dX11_begin_10 : decode cX11_begin 10 = .ok (.aload_n 0, 1) := by decide +kernel
theorem dX11_begin_11 : decode cX11_begin 11 = .ok (.iconst (-1), 1) := by decide +kernel
theorem dX11_begin_12 : decode cX11_begin 12 = .ok (.putfield 103, 3) := by decide +kernel
theorem dX11_begin_15 : decode cX11_begin 15 = .ok (.aload_n 0, 1) := by decide +kernel
theorem dX11_begin_16 : decode cX11_begin 16 = .ok (.iconst 0, 1) := by decide +kernel
theorem dX11_begin_17 : decode cX11_begin 17 = .ok (.putfield 106, 3) := by decide +kernel
theorem dX11_begin_20 : decode cX11_begin 20 = .ok (.aload_n 0, 1) := by decide +kernel
theorem dX11_begin_21 : decode cX11_begin 21 = .ok (.iconst 0, 1) := by decide +kernel
theorem dX11_begin_22 : decode cX11_begin 22 = .ok (.putfield 109, 3) := by decide +kernel
theorem dX11_begin_25 : decode cX11_begin 25 = .ok (.aload_n 0, 1) := by decide +kernel
theorem dX11_begin_26 : decode cX11_begin 26 = .ok (.iconst (-1), 1) := by decide +kernel
theorem dX11_begin_27 : decode cX11_begin 27 = .ok (.putfield 112, 3) := by decide +kernel
theorem dX11_begin_30 : decode cX11_begin 30 = .ok (.aload_n 0, 1) := by decide +kernel
theorem dX11_begin_31 : decode cX11_begin 31 = .ok (.iconst 0, 1) := by decide +kernel
theorem dX11_begin_32 : decode cX11_begin 32 = .ok (.putfield 115, 3) := by decide +kernel
theorem dX11_begin_35 : decode cX11_begin 35 = .ok (.aload_n 0, 1) := by decide +kernel
theorem dX11_begin_36 : decode cX11_begin 36 = .ok (.iconst 0, 1) := by decide +kernel
theorem dX11_begin_37 : decode cX11_begin 37 = .ok (.putfield 118, 3) := by decide +kernel
theorem dX11_begin_40 : decode cX11_begin 40 = .ok (.aload_n 0, 1) := by decide +kernel
theorem dX11_begin_41 : decode cX11_begin 41 = .ok (.iconst 0, 1) := by decide +kernel
theorem dX11_begin_42 : decode cX11_begin 42 = .ok (.putfield 121, 3) := by decide +kernel
theorem dX11_begin_45 : decode cX11_begin 45 = .ok (.aload_n 0, 1) := by decide +kernel
theorem dX11_begin_46 : decode cX11_begin 46 = .ok (.iconst 0, 1) := by decide +kernel
theorem dX11_begin_47 : decode cX11_begin 47 = .ok (.putfield 124, 3) := by decide +kernel
theorem dX11_begin_50 : decode cX11_begin 50 = .ok (.aload_n 0, 1) := by decide +kernel
theorem dX11_begin_51 : decode cX11_begin 51 = .ok (.iconst 0, 1) := by decide +kernel
theorem dX11_begin_52 : decode cX11_begin 52 = .ok (.putfield 127, 3) := by decide +kernel
theorem dX11_begin_55 : decode cX11_begin 55 = .ok (.aload_n 0, 1) := by decide +kernel
theorem dX11_begin_56 : decode cX11_begin 56 = .ok (.iconst 0, 1) := by decide +kernel
theorem dX11_begin_57 : decode cX11_begin 57 = .ok (.putfield 130, 3) := by decide +kernel
theorem dX11_begin_60 : decode cX11_begin 60 = .ok (.aload_n 0, 1) := by decide +kernel
theorem dX11_begin_61 : decode cX11_begin 61 = .ok (.iconst (-1), 1) := by decide +kernel
theorem dX11_begin_62 : decode cX11_begin 62 = .ok (.putfield 133, 3) := by decide +kernel
theorem dX11_begin_65 : decode cX11_begin 65 = .ok (.iconst 0, 1) := by decide +kernel
theorem dX11_begin_66 : decode cX11_begin 66 = .ok (.istore_n 2, 1) := by decide +kernel
theorem dX11_begin_67 : decode cX11_begin 67 = .ok (.iload_n 2, 1) := by decide +kernel
theorem dX11_begin_68 : decode cX11_begin 68 = .ok (.sipush 200, 3) := by decide +kernel
theorem dX11_begin_71 : decode cX11_begin 71 = .ok (.if_icmp .ge 16, 3) := by decide +kernel
theorem dX11_begin_74 : decode cX11_begin 74 = .ok (.aload_n 0, 1) := by decide +kernel
theorem dX11_begin_75 : decode cX11_begin 75 = .ok (.getfield 9, 3) := by decide +kernel
theorem dX11_begin_78 : decode cX11_begin 78 = .ok (.iload_n 2, 1) := by decide +kernel
theorem dX11_begin_79 : decode cX11_begin 79 = .ok (.iconst 0, 1) := by decide +kernel
theorem dX11_begin_80 : decode cX11_begin 80 = .ok (.bastore, 1) := by decide +kernel
theorem dX11_begin_81 : decode cX11_begin 81 = .ok (.iinc 2 1, 3) := by decide +kernel
theorem dX11_begin_84 : decode cX11_begin 84 = .ok (.goto (-17), 3) := by decide +kernel
theorem dX11_begin_87 : decode cX11_begin 87 = .ok (.iconst 0, 1) := by decide +kernel
theorem dX11_begin_88 : decode cX11_begin 88 = .ok (.istore_n 2, 1) := by decide +kernel
theorem dX11_begin_89 : decode cX11_begin 89 = .ok (.iload_n 2, 1) := by decide +kernel
theorem dX11_begin_90 : decode cX11_begin 90 = .ok (.bipush 9, 2) := by decide +kernel
theorem dX11_begin_92 : decode cX11_begin 92 = .ok (.if_icmp .ge 26, 3) := by decide +kernel
theorem dX11_begin_95 : decode cX11_begin 95 = .ok (.aload_n 0, 1) := by decide +kernel
theorem dX11_begin_96 : decode cX11_begin 96 = .ok (.getfield 15, 3) := by decide +kernel
theorem dX11_begin_99 : decode cX11_begin 99 = .ok (.iload_n 2, 1) := by decide +kernel
theorem dX11_begin_100 : decode cX11_begin 100 = .ok (.iload_n 2, 1) := by decide +kernel
theorem dX11_begin_101 : decode cX11_begin 101 = .ok (.bipush 6, 2) := by decide +kernel
theorem dX11_begin_103 : decode cX11_begin 103 = .ok (.if_icmp .ne 7, 3) := by decide +kernel
theorem dX11_begin_106 : decode cX11_begin 106 = .ok (.iconst 2, 1) := by decide +kernel
theorem dX11_begin_107 : decode cX11_begin 107 = .ok (.goto 4, 3) := by decide +kernel
theorem dX11_begin_110 : decode cX11_begin 110 = .ok (.iconst 1, 1) := by decide +kernel
theorem dX11_begin_111 : decode cX11_begin 111 = .ok (.iastore, 1) := by decide +kernel
theorem dX11_begin_112 : decode cX11_begin 112 = .ok (.iinc 2 1, 3) := by decide +kernel
theorem dX11_begin_115 : decode cX11_begin 115 = .ok (.goto (-26), 3) := by decide +kernel
theorem dX11_begin_118 : decode cX11_begin 118 = .ok (.iconst 0, 1) := by decide +kernel
theorem dX11_begin_119 : decode cX11_begin 119 = .ok (.istore_n 2, 1) := by decide +kernel
theorem dX11_begin_120 : decode cX11_begin 120 = .ok (.iload_n 2, 1) := by decide +kernel
theorem dX11_begin_121 : decode cX11_begin 121 = .ok (.bipush 90, 2) := by decide +kernel
theorem dX11_begin_123 : decode cX11_begin 123 = .ok (.if_icmp .ge 16, 3) := by decide +kernel
theorem dX11_begin_126 : decode cX11_begin 126 = .ok (.aload_n 0, 1) := by decide +kernel
theorem dX11_begin_127 : decode cX11_begin 127 = .ok (.getfield 19, 3) := by decide +kernel
theorem dX11_begin_130 : decode cX11_begin 130 = .ok (.iload_n 2, 1) := by decide +kernel
theorem dX11_begin_131 : decode cX11_begin 131 = .ok (.iconst 0, 1) := by decide +kernel
theorem dX11_begin_132 : decode cX11_begin 132 = .ok (.bastore, 1) := by decide +kernel
theorem dX11_begin_133 : decode cX11_begin 133 = .ok (.iinc 2 1, 3) := by decide +kernel
theorem dX11_begin_136 : decode cX11_begin 136 = .ok (.goto (-16), 3) := by decide +kernel
theorem dX11_begin_139 : decode cX11_begin 139 = .ok (.iconst 0, 1) := by decide +kernel
theorem dX11_begin_140 : decode cX11_begin 140 = .ok (.istore_n 2, 1) := by decide +kernel
theorem dX11_begin_141 : decode cX11_begin 141 = .ok (.iload_n 2, 1) := by decide +kernel
theorem dX11_begin_142 : decode cX11_begin 142 = .ok (.bipush 8, 2) := by decide +kernel
theorem dX11_begin_144 : decode cX11_begin 144 = .ok (.if_icmp .ge 16, 3) := by decide +kernel
theorem dX11_begin_147 : decode cX11_begin 147 = .ok (.aload_n 0, 1) := by decide +kernel
theorem dX11_begin_148 : decode cX11_begin 148 = .ok (.getfield 81, 3) := by decide +kernel
theorem dX11_begin_151 : decode cX11_begin 151 = .ok (.iload_n 2, 1) := by decide +kernel
theorem dX11_begin_152 : decode cX11_begin 152 = .ok (.iconst 0, 1) := by decide +kernel
theorem dX11_begin_153 : decode cX11_begin 153 = .ok (.iastore, 1) := by decide +kernel
theorem dX11_begin_154 : decode cX11_begin 154 = .ok (.iinc 2 1, 3) := by decide +kernel
theorem dX11_begin_157 : decode cX11_begin 157 = .ok (.goto (-16), 3) := by decide +kernel
theorem dX11_begin_160 : decode cX11_begin 160 = .ok (.return_, 1) := by decide +kernel
theorem dX11_does_0 : decode cX11_does 0 = .ok (.iload_n 1, 1) := by decide +kernel
theorem dX11_does_1 : decode cX11_does 1 = .ok (.tableswitch 484 1 21 #[99, 121, 156, 163, 183, 201, 208, 245, 259, 282, 309, 337, 371, 377, 383, 389, 401, 427, 436, 389, 479], 99) := by decide +kernel
theorem dX11_does_100 : decode cX11_does 100 = .ok (.aload_n 0, 1) := by decide +kernel
theorem dX11_does_101 : decode cX11_does 101 = .ok (.getfield 9, 3) := by decide +kernel
theorem dX11_does_104 : decode cX11_does 104 = .ok (.iload_n 2, 1) := by decide +kernel
theorem dX11_does_105 : decode cX11_does 105 = .ok (.iconst 1, 1) := by decide +kernel
theorem dX11_does_106 : decode cX11_does 106 = .ok (.bastore, 1) := by decide +kernel
theorem dX11_does_107 : decode cX11_does 107 = .ok (.aload_n 0, 1) := by decide +kernel
theorem dX11_does_108 : decode cX11_does 108 = .ok (.dup, 1) := by decide +kernel
theorem dX11_does_109 : decode cX11_does 109 = .ok (.getfield 100, 3) := by decide +kernel
theorem dX11_does_112 : decode cX11_does 112 = .ok (.iconst 1, 1) := by decide +kernel
theorem dX11_does_113 : decode cX11_does 113 = .ok (.iadd, 1) := by decide +kernel
theorem dX11_does_114 : decode cX11_does 114 = .ok (.putfield 100, 3) := by decide +kernel
theorem dX11_does_117 : decode cX11_does 117 = .ok (.aload_n 0, 1) := by decide +kernel
theorem dX11_does_118 : decode cX11_does 118 = .ok (.getfield 100, 3) := by decide +kernel
theorem dX11_does_121 : decode cX11_does 121 = .ok (.ireturn, 1) := by decide +kernel
theorem dX11_does_157 : decode cX11_does 157 = .ok (.aload_n 0, 1) := by decide +kernel
theorem dX11_does_158 : decode cX11_does 158 = .ok (.iload_n 2, 1) := by decide +kernel
theorem dX11_does_159 : decode cX11_does 159 = .ok (.putfield 106, 3) := by decide +kernel
theorem dX11_does_162 : decode cX11_does 162 = .ok (.iload_n 2, 1) := by decide +kernel
theorem dX11_does_163 : decode cX11_does 163 = .ok (.ireturn, 1) := by decide +kernel
theorem dX11_does_184 : decode cX11_does 184 = .ok (.aload_n 0, 1) := by decide +kernel
theorem dX11_does_185 : decode cX11_does 185 = .ok (.getfield 15, 3) := by decide +kernel
theorem dX11_does_188 : decode cX11_does 188 = .ok (.iload_n 2, 1) := by decide +kernel
theorem dX11_does_189 : decode cX11_does 189 = .ok (.iaload, 1) := by decide +kernel
theorem dX11_does_190 : decode cX11_does 190 = .ok (.istore 6, 2) := by decide +kernel
theorem dX11_does_192 : decode cX11_does 192 = .ok (.aload_n 0, 1) := by decide +kernel
theorem dX11_does_193 : decode cX11_does 193 = .ok (.getfield 15, 3) := by decide +kernel
theorem dX11_does_196 : decode cX11_does 196 = .ok (.iload_n 2, 1) := by decide +kernel
theorem dX11_does_197 : decode cX11_does 197 = .ok (.iload_n 3, 1) := by decide +kernel
theorem dX11_does_198 : decode cX11_does 198 = .ok (.iastore, 1) := by decide +kernel
theorem dX11_does_199 : decode cX11_does 199 = .ok (.iload 6, 2) := by decide +kernel
theorem dX11_does_201 : decode cX11_does 201 = .ok (.ireturn, 1) := by decide +kernel
theorem dX11_does_202 : decode cX11_does 202 = .ok (.aload_n 0, 1) := by decide +kernel
theorem dX11_does_203 : decode cX11_does 203 = .ok (.iload_n 2, 1) := by decide +kernel
theorem dX11_does_204 : decode cX11_does 204 = .ok (.putfield 109, 3) := by decide +kernel
theorem dX11_does_207 : decode cX11_does 207 = .ok (.iload_n 2, 1) := by decide +kernel
theorem dX11_does_208 : decode cX11_does 208 = .ok (.ireturn, 1) := by decide +kernel
theorem dX11_does_283 : decode cX11_does 283 = .ok (.aload_n 0, 1) := by decide +kernel
theorem dX11_does_284 : decode cX11_does 284 = .ok (.invokevirtual 206, 3) := by decide +kernel
theorem dX11_does_287 : decode cX11_does 287 = .ok (.aload_n 0, 1) := by decide +kernel
theorem dX11_does_288 : decode cX11_does 288 = .ok (.getfield 75, 3) := by decide +kernel
theorem dX11_does_291 : decode cX11_does 291 = .ok (.iconst 0, 1) := by decide +kernel
theorem dX11_does_292 : decode cX11_does 292 = .ok (.aload_n 0, 1) := by decide +kernel
theorem dX11_does_293 : decode cX11_does 293 = .ok (.iload_n 2, 1) := by decide +kernel
theorem dX11_does_294 : decode cX11_does 294 = .ok (.invokevirtual 209, 3) := by decide +kernel
theorem dX11_does_297 : decode cX11_does 297 = .ok (.iastore, 1) := by decide +kernel
theorem dX11_does_298 : decode cX11_does 298 = .ok (.aload_n 0, 1) := by decide +kernel
theorem dX11_does_299 : decode cX11_does 299 = .ok (.iconst 1, 1) := by decide +kernel
theorem dX11_does_300 : decode cX11_does 300 = .ok (.putfield 130, 3) := by decide +kernel
theorem dX11_does_303 : decode cX11_does 303 = .ok (.aload_n 0, 1) := by decide +kernel
theorem dX11_does_304 : decode cX11_does 304 = .ok (.iconst 0, 1) := by decide +kernel
theorem dX11_does_305 : decode cX11_does 305 = .ok (.putfield 151, 3) := by decide +kernel
theorem dX11_does_308 : decode cX11_does 308 = .ok (.iload_n 2, 1) := by decide +kernel
theorem dX11_does_309 : decode cX11_does 309 = .ok (.ireturn, 1) := by decide +kernel
theorem dX11_dropDraft_0 : decode cX11_dropDraft 0 = .ok (.iconst 0, 1) := by decide +kernel
theorem dX11_dropDraft_1 : decode cX11_dropDraft 1 = .ok (.istore_n 1, 1) := by decide +kernel
theorem dX11_dropDraft_2 : decode cX11_dropDraft 2 = .ok (.iload_n 1, 1) := by decide +kernel
theorem dX11_dropDraft_3 : decode cX11_dropDraft 3 = .ok (.aload_n 0, 1) := by decide +kernel
theorem dX11_dropDraft_4 : decode cX11_dropDraft 4 = .ok (.getfield 130, 3) := by decide +kernel
theorem dX11_dropDraft_7 : decode cX11_dropDraft 7 = .ok (.if_icmp .ge 21, 3) := by decide +kernel
theorem dX11_dropDraft_28 : decode cX11_dropDraft 28 = .ok (.aload_n 0, 1) := by decide +kernel
theorem dX11_dropDraft_29 : decode cX11_dropDraft 29 = .ok (.iconst 0, 1) := by decide +kernel
theorem dX11_dropDraft_30 : decode cX11_dropDraft 30 = .ok (.putfield 130, 3) := by decide +kernel
theorem dX11_dropDraft_33 : decode cX11_dropDraft 33 = .ok (.return_, 1) := by decide +kernel
theorem dX11_follow_0 : decode cX11_follow 0 = .ok (.iconst 0, 1) := by decide +kernel
theorem dX11_follow_1 : decode cX11_follow 1 = .ok (.istore_n 3, 1) := by decide +kernel
theorem dX11_follow_2 : decode cX11_follow 2 = .ok (.iload_n 3, 1) := by decide +kernel
theorem dX11_follow_3 : decode cX11_follow 3 = .ok (.iload_n 2, 1) := by decide +kernel
theorem dX11_follow_4 : decode cX11_follow 4 = .ok (.if_icmp .ge 49, 3) := by decide +kernel
theorem dX11_follow_53 : decode cX11_follow 53 = .ok (.return_, 1) := by decide +kernel
theorem dX11_hasDraft_0 : decode cX11_hasDraft 0 = .ok (.aload_n 0, 1) := by decide +kernel
theorem dX11_hasDraft_1 : decode cX11_hasDraft 1 = .ok (.getfield 130, 3) := by decide +kernel
theorem dX11_hasDraft_4 : decode cX11_hasDraft 4 = .ok (.ifCond .le 33, 3) := by decide +kernel
theorem dX11_hasDraft_37 : decode cX11_hasDraft 37 = .ok (.iconst 0, 1) := by decide +kernel
theorem dX11_hasDraft_38 : decode cX11_hasDraft 38 = .ok (.ireturn, 1) := by decide +kernel
theorem dX11_init_0 : decode cX11_init 0 = .ok (.aload_n 0, 1) := by decide +kernel
theorem dX11_init_1 : decode cX11_init 1 = .ok (.invokespecial 3, 3) := by decide +kernel
theorem dX11_init_4 : decode cX11_init 4 = .ok (.aload_n 0, 1) := by decide +kernel
theorem dX11_init_5 : decode cX11_init 5 = .ok (.sipush 200, 3) := by decide +kernel
theorem dX11_init_8 : decode cX11_init 8 = .ok (.newarray .boolean, 2) := by decide +kernel
theorem dX11_init_10 : decode cX11_init 10 = .ok (.putfield 9, 3) := by decide +kernel
theorem dX11_init_13 : decode cX11_init 13 = .ok (.aload_n 0, 1) := by decide +kernel
theorem dX11_init_14 : decode cX11_init 14 = .ok (.bipush 9, 2) := by decide +kernel
theorem dX11_init_16 : decode cX11_init 16 = .ok (.newarray .int, 2) := by decide +kernel
theorem dX11_init_18 : decode cX11_init 18 = .ok (.putfield 15, 3) := by decide +kernel
theorem dX11_init_21 : decode cX11_init 21 = .ok (.aload_n 0, 1) := by decide +kernel
theorem dX11_init_22 : decode cX11_init 22 = .ok (.bipush 90, 2) := by decide +kernel
theorem dX11_init_24 : decode cX11_init 24 = .ok (.newarray .boolean, 2) := by decide +kernel
theorem dX11_init_26 : decode cX11_init 26 = .ok (.putfield 19, 3) := by decide +kernel
theorem dX11_init_29 : decode cX11_init 29 = .ok (.aload_n 0, 1) := by decide +kernel
theorem dX11_init_30 : decode cX11_init 30 = .ok (.bipush 90, 2) := by decide +kernel
theorem dX11_init_32 : decode cX11_init 32 = .ok (.newarray .int, 2) := by decide +kernel
theorem dX11_init_34 : decode cX11_init 34 = .ok (.putfield 22, 3) := by decide +kernel
theorem dX11_init_37 : decode cX11_init 37 = .ok (.aload_n 0, 1) := by decide +kernel
theorem dX11_init_38 : decode cX11_init 38 = .ok (.bipush 90, 2) := by decide +kernel
theorem dX11_init_40 : decode cX11_init 40 = .ok (.newarray .int, 2) := by decide +kernel
theorem dX11_init_42 : decode cX11_init 42 = .ok (.putfield 25, 3) := by decide +kernel
theorem dX11_init_45 : decode cX11_init 45 = .ok (.aload_n 0, 1) := by decide +kernel
theorem dX11_init_46 : decode cX11_init 46 = .ok (.bipush 90, 2) := by decide +kernel
theorem dX11_init_48 : decode cX11_init 48 = .ok (.newarray .int, 2) := by decide +kernel
theorem dX11_init_50 : decode cX11_init 50 = .ok (.putfield 28, 3) := by decide +kernel
theorem dX11_init_53 : decode cX11_init 53 = .ok (.aload_n 0, 1) := by decide +kernel
theorem dX11_init_54 : decode cX11_init 54 = .ok (.bipush 90, 2) := by decide +kernel
theorem dX11_init_56 : decode cX11_init 56 = .ok (.newarray .int, 2) := by decide +kernel
theorem dX11_init_58 : decode cX11_init 58 = .ok (.putfield 31, 3) := by decide +kernel
theorem dX11_init_61 : decode cX11_init 61 = .ok (.aload_n 0, 1) := by decide +kernel
theorem dX11_init_62 : decode cX11_init 62 = .ok (.bipush 90, 2) := by decide +kernel
theorem dX11_init_64 : decode cX11_init 64 = .ok (.newarray .int, 2) := by decide +kernel
theorem dX11_init_66 : decode cX11_init 66 = .ok (.putfield 34, 3) := by decide +kernel
theorem dX11_init_69 : decode cX11_init 69 = .ok (.aload_n 0, 1) := by decide +kernel
theorem dX11_init_70 : decode cX11_init 70 = .ok (.bipush 90, 2) := by decide +kernel
theorem dX11_init_72 : decode cX11_init 72 = .ok (.newarray .int, 2) := by decide +kernel
theorem dX11_init_74 : decode cX11_init 74 = .ok (.putfield 37, 3) := by decide +kernel
theorem dX11_init_77 : decode cX11_init 77 = .ok (.aload_n 0, 1) := by decide +kernel
theorem dX11_init_78 : decode cX11_init 78 = .ok (.bipush 90, 2) := by decide +kernel
theorem dX11_init_80 : decode cX11_init 80 = .ok (.newarray .int, 2) := by decide +kernel
theorem dX11_init_82 : decode cX11_init 82 = .ok (.putfield 40, 3) := by decide +kernel
theorem dX11_init_85 : decode cX11_init 85 = .ok (.aload_n 0, 1) := by decide +kernel
theorem dX11_init_86 : decode cX11_init 86 = .ok (.bipush 90, 2) := by decide +kernel
theorem dX11_init_88 : decode cX11_init 88 = .ok (.newarray .int, 2) := by decide +kernel
theorem dX11_init_90 : decode cX11_init 90 = .ok (.putfield 43, 3) := by decide +kernel
theorem dX11_init_93 : decode cX11_init 93 = .ok (.aload_n 0, 1) := by decide +kernel
theorem dX11_init_94 : decode cX11_init 94 = .ok (.bipush 90, 2) := by decide +kernel
theorem dX11_init_96 : decode cX11_init 96 = .ok (.newarray .int, 2) := by decide +kernel
theorem dX11_init_98 : decode cX11_init 98 = .ok (.putfield 46, 3) := by decide +kernel
theorem dX11_init_101 : decode cX11_init 101 = .ok (.aload_n 0, 1) := by decide +kernel
theorem dX11_init_102 : decode cX11_init 102 = .ok (.bipush 90, 2) := by decide +kernel
theorem dX11_init_104 : decode cX11_init 104 = .ok (.newarray .int, 2) := by decide +kernel
theorem dX11_init_106 : decode cX11_init 106 = .ok (.putfield 49, 3) := by decide +kernel
theorem dX11_init_109 : decode cX11_init 109 = .ok (.aload_n 0, 1) := by decide +kernel
theorem dX11_init_110 : decode cX11_init 110 = .ok (.bipush 90, 2) := by decide +kernel
theorem dX11_init_112 : decode cX11_init 112 = .ok (.newarray .boolean, 2) := by decide +kernel
theorem dX11_init_114 : decode cX11_init 114 = .ok (.putfield 52, 3) := by decide +kernel
theorem dX11_init_117 : decode cX11_init 117 = .ok (.aload_n 0, 1) := by decide +kernel
theorem dX11_init_118 : decode cX11_init 118 = .ok (.bipush 90, 2) := by decide +kernel
theorem dX11_init_120 : decode cX11_init 120 = .ok (.newarray .boolean, 2) := by decide +kernel
theorem dX11_init_122 : decode cX11_init 122 = .ok (.putfield 55, 3) := by decide +kernel
theorem dX11_init_125 : decode cX11_init 125 = .ok (.aload_n 0, 1) := by decide +kernel
theorem dX11_init_126 : decode cX11_init 126 = .ok (.bipush 90, 2) := by decide +kernel
theorem dX11_init_128 : decode cX11_init 128 = .ok (.newarray .boolean, 2) := by decide +kernel
theorem dX11_init_130 : decode cX11_init 130 = .ok (.putfield 58, 3) := by decide +kernel
theorem dX11_init_133 : decode cX11_init 133 = .ok (.aload_n 0, 1) := by decide +kernel
theorem dX11_init_134 : decode cX11_init 134 = .ok (.bipush 90, 2) := by decide +kernel
theorem dX11_init_136 : decode cX11_init 136 = .ok (.newarray .boolean, 2) := by decide +kernel
theorem dX11_init_138 : decode cX11_init 138 = .ok (.putfield 61, 3) := by decide +kernel
theorem dX11_init_141 : decode cX11_init 141 = .ok (.aload_n 0, 1) := by decide +kernel
theorem dX11_init_142 : decode cX11_init 142 = .ok (.ldc 64, 2) := by decide +kernel
theorem dX11_init_144 : decode cX11_init 144 = .ok (.newarray .int, 2) := by decide +kernel
theorem dX11_init_146 : decode cX11_init 146 = .ok (.putfield 65, 3) := by decide +kernel
theorem dX11_init_149 : decode cX11_init 149 = .ok (.aload_n 0, 1) := by decide +kernel
theorem dX11_init_150 : decode cX11_init 150 = .ok (.sipush 18000, 3) := by decide +kernel
theorem dX11_init_153 : decode cX11_init 153 = .ok (.newarray .byte, 2) := by decide +kernel
theorem dX11_init_155 : decode cX11_init 155 = .ok (.putfield 68, 3) := by decide +kernel
theorem dX11_init_158 : decode cX11_init 158 = .ok (.aload_n 0, 1) := by decide +kernel
theorem dX11_init_159 : decode cX11_init 159 = .ok (.bipush 9, 2) := by decide +kernel
theorem dX11_init_161 : decode cX11_init 161 = .ok (.newarray .int, 2) := by decide +kernel
theorem dX11_init_163 : decode cX11_init 163 = .ok (.putfield 72, 3) := by decide +kernel
theorem dX11_init_166 : decode cX11_init 166 = .ok (.aload_n 0, 1) := by decide +kernel
theorem dX11_init_167 : decode cX11_init 167 = .ok (.bipush 9, 2) := by decide +kernel
theorem dX11_init_169 : decode cX11_init 169 = .ok (.newarray .int, 2) := by decide +kernel
theorem dX11_init_171 : decode cX11_init 171 = .ok (.putfield 75, 3) := by decide +kernel
theorem dX11_init_174 : decode cX11_init 174 = .ok (.aload_n 0, 1) := by decide +kernel
theorem dX11_init_175 : decode cX11_init 175 = .ok (.bipush 72, 2) := by decide +kernel
theorem dX11_init_177 : decode cX11_init 177 = .ok (.newarray .int, 2) := by decide +kernel
theorem dX11_init_179 : decode cX11_init 179 = .ok (.putfield 78, 3) := by decide +kernel
theorem dX11_init_182 : decode cX11_init 182 = .ok (.aload_n 0, 1) := by decide +kernel
theorem dX11_init_183 : decode cX11_init 183 = .ok (.bipush 8, 2) := by decide +kernel
theorem dX11_init_185 : decode cX11_init 185 = .ok (.newarray .int, 2) := by decide +kernel
theorem dX11_init_187 : decode cX11_init 187 = .ok (.putfield 81, 3) := by decide +kernel
theorem dX11_init_190 : decode cX11_init 190 = .ok (.aload_n 0, 1) := by decide +kernel
theorem dX11_init_191 : decode cX11_init 191 = .ok (.bipush 8, 2) := by decide +kernel
theorem dX11_init_193 : decode cX11_init 193 = .ok (.newarray .boolean, 2) := by decide +kernel
theorem dX11_init_195 : decode cX11_init 195 = .ok (.putfield 84, 3) := by decide +kernel
theorem dX11_init_198 : decode cX11_init 198 = .ok (.aload_n 0, 1) := by decide +kernel
theorem dX11_init_199 : decode cX11_init 199 = .ok (.sipush 400, 3) := by decide +kernel
theorem dX11_init_202 : decode cX11_init 202 = .ok (.newarray .int, 2) := by decide +kernel
theorem dX11_init_204 : decode cX11_init 204 = .ok (.putfield 87, 3) := by decide +kernel
theorem dX11_init_207 : decode cX11_init 207 = .ok (.aload_n 0, 1) := by decide +kernel
theorem dX11_init_208 : decode cX11_init 208 = .ok (.sipush 3600, 3) := by decide +kernel
theorem dX11_init_211 : decode cX11_init 211 = .ok (.newarray .int, 2) := by decide +kernel
theorem dX11_init_213 : decode cX11_init 213 = .ok (.putfield 90, 3) := by decide +kernel
theorem dX11_init_216 : decode cX11_init 216 = .ok (.aload_n 0, 1) := by decide +kernel
theorem dX11_init_217 : decode cX11_init 217 = .ok (.sipush 3000, 3) := by decide +kernel
theorem dX11_init_220 : decode cX11_init 220 = .ok (.newarray .int, 2) := by decide +kernel
theorem dX11_init_222 : decode cX11_init 222 = .ok (.putfield 93, 3) := by decide +kernel
theorem dX11_init_225 : decode cX11_init 225 = .ok (.return_, 1) := by decide +kernel
theorem dX11_isHere_0 : decode cX11_isHere 0 = .ok (.aload_n 0, 1) := by decide +kernel
theorem dX11_isHere_1 : decode cX11_isHere 1 = .ok (.iload_n 1, 1) := by decide +kernel
theorem dX11_isHere_2 : decode cX11_isHere 2 = .ok (.invokevirtual 140, 3) := by decide +kernel
theorem dX11_isHere_5 : decode cX11_isHere 5 = .ok (.ifCond .eq 16, 3) := by decide +kernel
theorem dX11_isHere_21 : decode cX11_isHere 21 = .ok (.iconst 0, 1) := by decide +kernel
theorem dX11_isHere_22 : decode cX11_isHere 22 = .ok (.ireturn, 1) := by decide +kernel
theorem dX11_isSeat_0 : decode cX11_isSeat 0 = .ok (.iload_n 1, 1) := by decide +kernel
theorem dX11_isSeat_1 : decode cX11_isSeat 1 = .ok (.iconst 0, 1) := by decide +kernel
theorem dX11_isSeat_2 : decode cX11_isSeat 2 = .ok (.aload_n 0, 1) := by decide +kernel
theorem dX11_isSeat_3 : decode cX11_isSeat 3 = .ok (.getfield 96, 3) := by decide +kernel
theorem dX11_isSeat_6 : decode cX11_isSeat 6 = .ok (.iconst 1, 1) := by decide +kernel
theorem dX11_isSeat_7 : decode cX11_isSeat 7 = .ok (.isub, 1) := by decide +kernel
theorem dX11_isSeat_8 : decode cX11_isSeat 8 = .ok (.invokestatic 136, 3) := by decide +kernel
theorem dX11_isSeat_11 : decode cX11_isSeat 11 = .ok (.ireturn, 1) := by decide +kernel
theorem dX11_newSlot_0 : decode cX11_newSlot 0 = .ok (.iconst 0, 1) := by decide +kernel
theorem dX11_newSlot_1 : decode cX11_newSlot 1 = .ok (.istore_n 2, 1) := by decide +kernel
theorem dX11_newSlot_2 : decode cX11_newSlot 2 = .ok (.aload_n 0, 1) := by decide +kernel
theorem dX11_newSlot_3 : decode cX11_newSlot 3 = .ok (.getfield 19, 3) := by decide +kernel
theorem dX11_newSlot_6 : decode cX11_newSlot 6 = .ok (.iload_n 2, 1) := by decide +kernel
theorem dX11_newSlot_7 : decode cX11_newSlot 7 = .ok (.baload, 1) := by decide +kernel
theorem dX11_newSlot_8 : decode cX11_newSlot 8 = .ok (.ifCond .eq 9, 3) := by decide +kernel
theorem dX11_newSlot_17 : decode cX11_newSlot 17 = .ok (.aload_n 0, 1) := by decide +kernel
theorem dX11_newSlot_18 : decode cX11_newSlot 18 = .ok (.getfield 19, 3) := by decide +kernel
theorem dX11_newSlot_21 : decode cX11_newSlot 21 = .ok (.iload_n 2, 1) := by decide +kernel
theorem dX11_newSlot_22 : decode cX11_newSlot 22 = .ok (.iconst 1, 1) := by decide +kernel
theorem dX11_newSlot_23 : decode cX11_newSlot 23 = .ok (.bastore, 1) := by decide +kernel
theorem dX11_newSlot_24 : decode cX11_newSlot 24 = .ok (.aload_n 0, 1) := by decide +kernel
theorem dX11_newSlot_25 : decode cX11_newSlot 25 = .ok (.getfield 22, 3) := by decide +kernel
theorem dX11_newSlot_28 : decode cX11_newSlot 28 = .ok (.iload_n 2, 1) := by decide +kernel
theorem dX11_newSlot_29 : decode cX11_newSlot 29 = .ok (.iload_n 1, 1) := by decide +kernel
theorem dX11_newSlot_30 : decode cX11_newSlot 30 = .ok (.iastore, 1) := by decide +kernel
theorem dX11_newSlot_31 : decode cX11_newSlot 31 = .ok (.aload_n 0, 1) := by decide +kernel
theorem dX11_newSlot_32 : decode cX11_newSlot 32 = .ok (.getfield 25, 3) := by decide +kernel
theorem dX11_newSlot_35 : decode cX11_newSlot 35 = .ok (.iload_n 2, 1) := by decide +kernel
theorem dX11_newSlot_36 : decode cX11_newSlot 36 = .ok (.iconst (-1), 1) := by decide +kernel
theorem dX11_newSlot_37 : decode cX11_newSlot 37 = .ok (.iastore, 1) := by decide +kernel
theorem dX11_newSlot_38 : decode cX11_newSlot 38 = .ok (.aload_n 0, 1) := by decide +kernel
theorem dX11_newSlot_39 : decode cX11_newSlot 39 = .ok (.getfield 37, 3) := by decide +kernel
theorem dX11_newSlot_42 : decode cX11_newSlot 42 = .ok (.iload_n 2, 1) := by decide +kernel
theorem dX11_newSlot_43 : decode cX11_newSlot 43 = .ok (.iconst 0, 1) := by decide +kernel
theorem dX11_newSlot_44 : decode cX11_newSlot 44 = .ok (.iastore, 1) := by decide +kernel
theorem dX11_newSlot_45 : decode cX11_newSlot 45 = .ok (.aload_n 0, 1) := by decide +kernel
theorem dX11_newSlot_46 : decode cX11_newSlot 46 = .ok (.getfield 40, 3) := by decide +kernel
theorem dX11_newSlot_49 : decode cX11_newSlot 49 = .ok (.iload_n 2, 1) := by decide +kernel
theorem dX11_newSlot_50 : decode cX11_newSlot 50 = .ok (.iconst 0, 1) := by decide +kernel
theorem dX11_newSlot_51 : decode cX11_newSlot 51 = .ok (.iastore, 1) := by decide +kernel
theorem dX11_newSlot_52 : decode cX11_newSlot 52 = .ok (.aload_n 0, 1) := by decide +kernel
theorem dX11_newSlot_53 : decode cX11_newSlot 53 = .ok (.getfield 43, 3) := by decide +kernel
theorem dX11_newSlot_56 : decode cX11_newSlot 56 = .ok (.iload_n 2, 1) := by decide +kernel
theorem dX11_newSlot_57 : decode cX11_newSlot 57 = .ok (.iconst 0, 1) := by decide +kernel
theorem dX11_newSlot_58 : decode cX11_newSlot 58 = .ok (.iastore, 1) := by decide +kernel
theorem dX11_newSlot_59 : decode cX11_newSlot 59 = .ok (.aload_n 0, 1) := by decide +kernel
theorem dX11_newSlot_60 : decode cX11_newSlot 60 = .ok (.getfield 49, 3) := by decide +kernel
theorem dX11_newSlot_63 : decode cX11_newSlot 63 = .ok (.iload_n 2, 1) := by decide +kernel
theorem dX11_newSlot_64 : decode cX11_newSlot 64 = .ok (.iconst 0, 1) := by decide +kernel
theorem dX11_newSlot_65 : decode cX11_newSlot 65 = .ok (.iastore, 1) := by decide +kernel
theorem dX11_newSlot_66 : decode cX11_newSlot 66 = .ok (.aload_n 0, 1) := by decide +kernel
theorem dX11_newSlot_67 : decode cX11_newSlot 67 = .ok (.getfield 55, 3) := by decide +kernel
theorem dX11_newSlot_70 : decode cX11_newSlot 70 = .ok (.iload_n 2, 1) := by decide +kernel
theorem dX11_newSlot_71 : decode cX11_newSlot 71 = .ok (.iconst 0, 1) := by decide +kernel
theorem dX11_newSlot_72 : decode cX11_newSlot 72 = .ok (.bastore, 1) := by decide +kernel
theorem dX11_newSlot_73 : decode cX11_newSlot 73 = .ok (.aload_n 0, 1) := by decide +kernel
theorem dX11_newSlot_74 : decode cX11_newSlot 74 = .ok (.getfield 58, 3) := by decide +kernel
theorem dX11_newSlot_77 : decode cX11_newSlot 77 = .ok (.iload_n 2, 1) := by decide +kernel
theorem dX11_newSlot_78 : decode cX11_newSlot 78 = .ok (.iconst 0, 1) := by decide +kernel
theorem dX11_newSlot_79 : decode cX11_newSlot 79 = .ok (.bastore, 1) := by decide +kernel
theorem dX11_newSlot_80 : decode cX11_newSlot 80 = .ok (.aload_n 0, 1) := by decide +kernel
theorem dX11_newSlot_81 : decode cX11_newSlot 81 = .ok (.getfield 61, 3) := by decide +kernel
theorem dX11_newSlot_84 : decode cX11_newSlot 84 = .ok (.iload_n 2, 1) := by decide +kernel
theorem dX11_newSlot_85 : decode cX11_newSlot 85 = .ok (.iconst 0, 1) := by decide +kernel
theorem dX11_newSlot_86 : decode cX11_newSlot 86 = .ok (.bastore, 1) := by decide +kernel
theorem dX11_newSlot_87 : decode cX11_newSlot 87 = .ok (.aload_n 0, 1) := by decide +kernel
theorem dX11_newSlot_88 : decode cX11_newSlot 88 = .ok (.iload_n 2, 1) := by decide +kernel
theorem dX11_newSlot_89 : decode cX11_newSlot 89 = .ok (.invokevirtual 144, 3) := by decide +kernel
theorem dX11_newSlot_92 : decode cX11_newSlot 92 = .ok (.aload_n 0, 1) := by decide +kernel
theorem dX11_newSlot_93 : decode cX11_newSlot 93 = .ok (.getfield 28, 3) := by decide +kernel
theorem dX11_newSlot_96 : decode cX11_newSlot 96 = .ok (.iload_n 2, 1) := by decide +kernel
theorem dX11_newSlot_97 : decode cX11_newSlot 97 = .ok (.iconst (-1), 1) := by decide +kernel
theorem dX11_newSlot_98 : decode cX11_newSlot 98 = .ok (.iastore, 1) := by decide +kernel
theorem dX11_newSlot_99 : decode cX11_newSlot 99 = .ok (.iload_n 2, 1) := by decide +kernel
theorem dX11_newSlot_100 : decode cX11_newSlot 100 = .ok (.ireturn, 1) := by decide +kernel
theorem dX11_reason_0 : decode cX11_reason 0 = .ok (.iload_n 1, 1) := by decide +kernel
theorem dX11_reason_1 : decode cX11_reason 1 = .ok (.tableswitch 927 1 21 #[99, 128, 157, 128, 187, 225, 254, 360, 374, 437, 454, 516, 527, 533, 571, 577, 660, 715, 769, 826, 897], 99) := by decide +kernel
theorem dX11_reason_100 : decode cX11_reason 100 = .ok (.aload_n 0, 1) := by decide +kernel
theorem dX11_reason_101 : decode cX11_reason 101 = .ok (.iload_n 2, 1) := by decide +kernel
theorem dX11_reason_102 : decode cX11_reason 102 = .ok (.invokevirtual 140, 3) := by decide +kernel
theorem dX11_reason_105 : decode cX11_reason 105 = .ok (.ifCond .ne 8, 3) := by decide +kernel
theorem dX11_reason_108 : decode cX11_reason 108 = .ok (.bipush 9, 2) := by decide +kernel
theorem dX11_reason_110 : decode cX11_reason 110 = .ok (.goto 18, 3) := by decide +kernel
theorem dX11_reason_113 : decode cX11_reason 113 = .ok (.aload_n 0, 1) := by decide +kernel
theorem dX11_reason_114 : decode cX11_reason 114 = .ok (.getfield 9, 3) := by decide +kernel
theorem dX11_reason_117 : decode cX11_reason 117 = .ok (.iload_n 2, 1) := by decide +kernel
theorem dX11_reason_118 : decode cX11_reason 118 = .ok (.baload, 1) := by decide +kernel
theorem dX11_reason_119 : decode cX11_reason 119 = .ok (.ifCond .eq 8, 3) := by decide +kernel
theorem dX11_reason_127 : decode cX11_reason 127 = .ok (.iconst 0, 1) := by decide +kernel
theorem dX11_reason_128 : decode cX11_reason 128 = .ok (.ireturn, 1) := by decide +kernel
theorem dX11_reason_129 : decode cX11_reason 129 = .ok (.aload_n 0, 1) := by decide +kernel
theorem dX11_reason_130 : decode cX11_reason 130 = .ok (.iload_n 2, 1) := by decide +kernel
theorem dX11_reason_131 : decode cX11_reason 131 = .ok (.invokevirtual 140, 3) := by decide +kernel
theorem dX11_reason_134 : decode cX11_reason 134 = .ok (.ifCond .ne 8, 3) := by decide +kernel
theorem dX11_reason_137 : decode cX11_reason 137 = .ok (.bipush 9, 2) := by decide +kernel
theorem dX11_reason_139 : decode cX11_reason 139 = .ok (.goto 18, 3) := by decide +kernel
theorem dX11_reason_142 : decode cX11_reason 142 = .ok (.aload_n 0, 1) := by decide +kernel
theorem dX11_reason_143 : decode cX11_reason 143 = .ok (.getfield 9, 3) := by decide +kernel
theorem dX11_reason_146 : decode cX11_reason 146 = .ok (.iload_n 2, 1) := by decide +kernel
theorem dX11_reason_147 : decode cX11_reason 147 = .ok (.baload, 1) := by decide +kernel
theorem dX11_reason_148 : decode cX11_reason 148 = .ok (.ifCond .ne 8, 3) := by decide +kernel
theorem dX11_reason_151 : decode cX11_reason 151 = .ok (.bipush 8, 2) := by decide +kernel
theorem dX11_reason_153 : decode cX11_reason 153 = .ok (.goto 4, 3) := by decide +kernel
theorem dX11_reason_157 : decode cX11_reason 157 = .ok (.ireturn, 1) := by decide +kernel
theorem dX11_reason_158 : decode cX11_reason 158 = .ok (.iload_n 2, 1) := by decide +kernel
theorem dX11_reason_159 : decode cX11_reason 159 = .ok (.iconst 0, 1) := by decide +kernel
theorem dX11_reason_160 : decode cX11_reason 160 = .ok (.sipush 200, 3) := by decide +kernel
theorem dX11_reason_163 : decode cX11_reason 163 = .ok (.invokestatic 136, 3) := by decide +kernel
theorem dX11_reason_166 : decode cX11_reason 166 = .ok (.ifCond .ne 8, 3) := by decide +kernel
theorem dX11_reason_169 : decode cX11_reason 169 = .ok (.bipush 9, 2) := by decide +kernel
theorem dX11_reason_171 : decode cX11_reason 171 = .ok (.goto 16, 3) := by decide +kernel
theorem dX11_reason_174 : decode cX11_reason 174 = .ok (.aload_n 0, 1) := by decide +kernel
theorem dX11_reason_175 : decode cX11_reason 175 = .ok (.getfield 115, 3) := by decide +kernel
theorem dX11_reason_178 : decode cX11_reason 178 = .ok (.ifCond .le 8, 3) := by decide +kernel
theorem dX11_reason_186 : decode cX11_reason 186 = .ok (.iconst 0, 1) := by decide +kernel
theorem dX11_reason_187 : decode cX11_reason 187 = .ok (.ireturn, 1) := by decide +kernel
theorem dX11_reason_188 : decode cX11_reason 188 = .ok (.iload_n 2, 1) := by decide +kernel
theorem dX11_reason_189 : decode cX11_reason 189 = .ok (.iconst 1, 1) := by decide +kernel
theorem dX11_reason_190 : decode cX11_reason 190 = .ok (.bipush 8, 2) := by decide +kernel
theorem dX11_reason_192 : decode cX11_reason 192 = .ok (.invokestatic 136, 3) := by decide +kernel
theorem dX11_reason_195 : decode cX11_reason 195 = .ok (.ifCond .eq 12, 3) := by decide +kernel
theorem dX11_reason_198 : decode cX11_reason 198 = .ok (.iload_n 3, 1) := by decide +kernel
theorem dX11_reason_199 : decode cX11_reason 199 = .ok (.iconst 1, 1) := by decide +kernel
theorem dX11_reason_200 : decode cX11_reason 200 = .ok (.iconst 3, 1) := by decide +kernel
theorem dX11_reason_201 : decode cX11_reason 201 = .ok (.invokestatic 136, 3) := by decide +kernel
theorem dX11_reason_204 : decode cX11_reason 204 = .ok (.ifCond .ne 8, 3) := by decide +kernel
theorem dX11_reason_207 : decode cX11_reason 207 = .ok (.bipush 9, 2) := by decide +kernel
theorem dX11_reason_209 : decode cX11_reason 209 = .ok (.goto 16, 3) := by decide +kernel
theorem dX11_reason_212 : decode cX11_reason 212 = .ok (.aload_n 0, 1) := by decide +kernel
theorem dX11_reason_213 : decode cX11_reason 213 = .ok (.getfield 115, 3) := by decide +kernel
theorem dX11_reason_216 : decode cX11_reason 216 = .ok (.ifCond .le 8, 3) := by decide +kernel
theorem dX11_reason_224 : decode cX11_reason 224 = .ok (.iconst 0, 1) := by decide +kernel
theorem dX11_reason_225 : decode cX11_reason 225 = .ok (.ireturn, 1) := by decide +kernel
theorem dX11_reason_226 : decode cX11_reason 226 = .ok (.iload_n 2, 1) := by decide +kernel
theorem dX11_reason_227 : decode cX11_reason 227 = .ok (.iconst 0, 1) := by decide +kernel
theorem dX11_reason_228 : decode cX11_reason 228 = .ok (.bipush 99, 2) := by decide +kernel
theorem dX11_reason_230 : decode cX11_reason 230 = .ok (.invokestatic 136, 3) := by decide +kernel
theorem dX11_reason_233 : decode cX11_reason 233 = .ok (.ifCond .ne 8, 3) := by decide +kernel
theorem dX11_reason_236 : decode cX11_reason 236 = .ok (.bipush 9, 2) := by decide +kernel
theorem dX11_reason_238 : decode cX11_reason 238 = .ok (.goto 16, 3) := by decide +kernel
theorem dX11_reason_241 : decode cX11_reason 241 = .ok (.aload_n 0, 1) := by decide +kernel
theorem dX11_reason_242 : decode cX11_reason 242 = .ok (.getfield 115, 3) := by decide +kernel
theorem dX11_reason_245 : decode cX11_reason 245 = .ok (.ifCond .le 8, 3) := by decide +kernel
theorem dX11_reason_253 : decode cX11_reason 253 = .ok (.iconst 0, 1) := by decide +kernel
theorem dX11_reason_254 : decode cX11_reason 254 = .ok (.ireturn, 1) := by decide +kernel
theorem dX11_reason_255 : decode cX11_reason 255 = .ok (.aload_n 0, 1) := by decide +kernel
theorem dX11_reason_256 : decode cX11_reason 256 = .ok (.iload_n 2, 1) := by decide +kernel
theorem dX11_reason_257 : decode cX11_reason 257 = .ok (.invokevirtual 140, 3) := by decide +kernel
theorem dX11_reason_260 : decode cX11_reason 260 = .ok (.ifCond .ne 6, 3) := by decide +kernel
theorem dX11_reason_263 : decode cX11_reason 263 = .ok (.bipush 9, 2) := by decide +kernel
theorem dX11_reason_265 : decode cX11_reason 265 = .ok (.ireturn, 1) := by decide +kernel
theorem dX11_reason_266 : decode cX11_reason 266 = .ok (.aload_n 0, 1) := by decide +kernel
theorem dX11_reason_267 : decode cX11_reason 267 = .ok (.getfield 9, 3) := by decide +kernel
theorem dX11_reason_270 : decode cX11_reason 270 = .ok (.iload_n 2, 1) := by decide +kernel
theorem dX11_reason_271 : decode cX11_reason 271 = .ok (.baload, 1) := by decide +kernel
theorem dX11_reason_272 : decode cX11_reason 272 = .ok (.ifCond .ne 6, 3) := by decide +kernel
theorem dX11_reason_275 : decode cX11_reason 275 = .ok (.bipush 8, 2) := by decide +kernel
theorem dX11_reason_277 : decode cX11_reason 277 = .ok (.ireturn, 1) := by decide +kernel
theorem dX11_reason_361 : decode cX11_reason 361 = .ok (.aload_n 0, 1) := by decide +kernel
theorem dX11_reason_362 : decode cX11_reason 362 = .ok (.getfield 112, 3) := by decide +kernel
theorem dX11_reason_365 : decode cX11_reason 365 = .ok (.iconst (-1), 1) := by decide +kernel
theorem dX11_reason_366 : decode cX11_reason 366 = .ok (.if_icmp .ne 7, 3) := by decide +kernel
theorem dX11_reason_369 : decode cX11_reason 369 = .ok (.iconst 2, 1) := by decide +kernel
theorem dX11_reason_370 : decode cX11_reason 370 = .ok (.goto 4, 3) := by decide +kernel
theorem dX11_reason_374 : decode cX11_reason 374 = .ok (.ireturn, 1) := by decide +kernel
theorem dX11_reason_375 : decode cX11_reason 375 = .ok (.aload_n 0, 1) := by decide +kernel
theorem dX11_reason_376 : decode cX11_reason 376 = .ok (.getfield 115, 3) := by decide +kernel
theorem dX11_reason_379 : decode cX11_reason 379 = .ok (.ifCond .ne 6, 3) := by decide +kernel
theorem dX11_reason_382 : decode cX11_reason 382 = .ok (.bipush 7, 2) := by decide +kernel
theorem dX11_reason_384 : decode cX11_reason 384 = .ok (.ireturn, 1) := by decide +kernel
theorem dX11_reason_438 : decode cX11_reason 438 = .ok (.iload_n 2, 1) := by decide +kernel
theorem dX11_reason_439 : decode cX11_reason 439 = .ok (.iconst 1, 1) := by decide +kernel
theorem dX11_reason_440 : decode cX11_reason 440 = .ok (.bipush 8, 2) := by decide +kernel
theorem dX11_reason_442 : decode cX11_reason 442 = .ok (.invokestatic 136, 3) := by decide +kernel
theorem dX11_reason_445 : decode cX11_reason 445 = .ok (.ifCond .ne 8, 3) := by decide +kernel
theorem dX11_reason_448 : decode cX11_reason 448 = .ok (.bipush 9, 2) := by decide +kernel
theorem dX11_reason_450 : decode cX11_reason 450 = .ok (.goto 4, 3) := by decide +kernel
theorem dX11_reason_453 : decode cX11_reason 453 = .ok (.iconst 0, 1) := by decide +kernel
theorem dX11_reason_454 : decode cX11_reason 454 = .ok (.ireturn, 1) := by decide +kernel
theorem dX11_reason_455 : decode cX11_reason 455 = .ok (.aload_n 0, 1) := by decide +kernel
theorem dX11_reason_456 : decode cX11_reason 456 = .ok (.iconst 2, 1) := by decide +kernel
theorem dX11_reason_457 : decode cX11_reason 457 = .ok (.iconst 3, 1) := by decide +kernel
theorem dX11_reason_458 : decode cX11_reason 458 = .ok (.invokevirtual 163, 3) := by decide +kernel
theorem dX11_reason_461 : decode cX11_reason 461 = .ok (.ifCond .eq 17, 3) := by decide +kernel
theorem dX11_reason_478 : decode cX11_reason 478 = .ok (.bipush 11, 2) := by decide +kernel
theorem dX11_reason_480 : decode cX11_reason 480 = .ok (.goto 36, 3) := by decide +kernel
theorem dX11_reason_516 : decode cX11_reason 516 = .ok (.ireturn, 1) := by decide +kernel
theorem dX11_reason_517 : decode cX11_reason 517 = .ok (.aload_n 0, 1) := by decide +kernel
theorem dX11_reason_518 : decode cX11_reason 518 = .ok (.iload_n 2, 1) := by decide +kernel
theorem dX11_reason_519 : decode cX11_reason 519 = .ok (.iload_n 3, 1) := by decide +kernel
theorem dX11_reason_520 : decode cX11_reason 520 = .ok (.iload 4, 2) := by decide +kernel
theorem dX11_reason_522 : decode cX11_reason 522 = .ok (.iload 5, 2) := by decide +kernel
theorem dX11_reason_524 : decode cX11_reason 524 = .ok (.invokevirtual 167, 3) := by decide +kernel
theorem dX11_reason_527 : decode cX11_reason 527 = .ok (.ireturn, 1) := by decide +kernel
theorem dX11_reason_528 : decode cX11_reason 528 = .ok (.aload_n 0, 1) := by decide +kernel
theorem dX11_reason_529 : decode cX11_reason 529 = .ok (.iload_n 2, 1) := by decide +kernel
theorem dX11_reason_530 : decode cX11_reason 530 = .ok (.invokevirtual 171, 3) := by decide +kernel
theorem dX11_reason_533 : decode cX11_reason 533 = .ok (.ireturn, 1) := by decide +kernel
theorem dX11_reason_534 : decode cX11_reason 534 = .ok (.iload_n 2, 1) := by decide +kernel
theorem dX11_reason_535 : decode cX11_reason 535 = .ok (.iconst 0, 1) := by decide +kernel
theorem dX11_reason_536 : decode cX11_reason 536 = .ok (.bipush 7, 2) := by decide +kernel
theorem dX11_reason_538 : decode cX11_reason 538 = .ok (.invokestatic 136, 3) := by decide +kernel
theorem dX11_reason_541 : decode cX11_reason 541 = .ok (.ifCond .ne 8, 3) := by decide +kernel
theorem dX11_reason_544 : decode cX11_reason 544 = .ok (.bipush 9, 2) := by decide +kernel
theorem dX11_reason_546 : decode cX11_reason 546 = .ok (.goto 25, 3) := by decide +kernel
theorem dX11_reason_549 : decode cX11_reason 549 = .ok (.aload_n 0, 1) := by decide +kernel
theorem dX11_reason_550 : decode cX11_reason 550 = .ok (.getfield 130, 3) := by decide +kernel
theorem dX11_reason_553 : decode cX11_reason 553 = .ok (.ifCond .gt 12, 3) := by decide +kernel
theorem dX11_reason_556 : decode cX11_reason 556 = .ok (.aload_n 0, 1) := by decide +kernel
theorem dX11_reason_557 : decode cX11_reason 557 = .ok (.getfield 81, 3) := by decide +kernel
theorem dX11_reason_560 : decode cX11_reason 560 = .ok (.iload_n 2, 1) := by decide +kernel
theorem dX11_reason_561 : decode cX11_reason 561 = .ok (.iaload, 1) := by decide +kernel
theorem dX11_reason_562 : decode cX11_reason 562 = .ok (.ifCond .ne 8, 3) := by decide +kernel
theorem dX11_reason_565 : decode cX11_reason 565 = .ok (.bipush 11, 2) := by decide +kernel
theorem dX11_reason_567 : decode cX11_reason 567 = .ok (.goto 4, 3) := by decide +kernel
theorem dX11_reason_571 : decode cX11_reason 571 = .ok (.ireturn, 1) := by decide +kernel
theorem dX11_reason_572 : decode cX11_reason 572 = .ok (.aload_n 0, 1) := by decide +kernel
theorem dX11_reason_573 : decode cX11_reason 573 = .ok (.iload_n 2, 1) := by decide +kernel
theorem dX11_reason_574 : decode cX11_reason 574 = .ok (.invokevirtual 175, 3) := by decide +kernel
theorem dX11_reason_577 : decode cX11_reason 577 = .ok (.ireturn, 1) := by decide +kernel
theorem dX11_reason_578 : decode cX11_reason 578 = .ok (.aload_n 0, 1) := by decide +kernel
theorem dX11_reason_579 : decode cX11_reason 579 = .ok (.getfield 115, 3) := by decide +kernel
theorem dX11_reason_582 : decode cX11_reason 582 = .ok (.ifCond .ne 6, 3) := by decide +kernel
theorem dX11_reason_585 : decode cX11_reason 585 = .ok (.bipush 7, 2) := by decide +kernel
theorem dX11_reason_587 : decode cX11_reason 587 = .ok (.ireturn, 1) := by decide +kernel
theorem dX11_reason_661 : decode cX11_reason 661 = .ok (.aload_n 0, 1) := by decide +kernel
theorem dX11_reason_662 : decode cX11_reason 662 = .ok (.getfield 115, 3) := by decide +kernel
theorem dX11_reason_665 : decode cX11_reason 665 = .ok (.ifCond .ne 6, 3) := by decide +kernel
theorem dX11_reason_668 : decode cX11_reason 668 = .ok (.bipush 7, 2) := by decide +kernel
theorem dX11_reason_670 : decode cX11_reason 670 = .ok (.ireturn, 1) := by decide +kernel
theorem dX11_reason_716 : decode cX11_reason 716 = .ok (.aload_n 0, 1) := by decide +kernel
theorem dX11_reason_717 : decode cX11_reason 717 = .ok (.getfield 115, 3) := by decide +kernel
theorem dX11_reason_720 : decode cX11_reason 720 = .ok (.ifCond .ne 6, 3) := by decide +kernel
theorem dX11_reason_723 : decode cX11_reason 723 = .ok (.bipush 7, 2) := by decide +kernel
theorem dX11_reason_725 : decode cX11_reason 725 = .ok (.ireturn, 1) := by decide +kernel
theorem dX11_reason_770 : decode cX11_reason 770 = .ok (.aload_n 0, 1) := by decide +kernel
theorem dX11_reason_771 : decode cX11_reason 771 = .ok (.aload_n 0, 1) := by decide +kernel
theorem dX11_reason_772 : decode cX11_reason 772 = .ok (.getfield 103, 3) := by decide +kernel
theorem dX11_reason_775 : decode cX11_reason 775 = .ok (.invokevirtual 178, 3) := by decide +kernel
theorem dX11_reason_778 : decode cX11_reason 778 = .ok (.ifCond .ne 6, 3) := by decide +kernel
theorem dX11_reason_781 : decode cX11_reason 781 = .ok (.bipush 8, 2) := by decide +kernel
theorem dX11_reason_783 : decode cX11_reason 783 = .ok (.ireturn, 1) := by decide +kernel
theorem dX11_reason_827 : decode cX11_reason 827 = .ok (.aload_n 0, 1) := by decide +kernel
theorem dX11_reason_828 : decode cX11_reason 828 = .ok (.getfield 115, 3) := by decide +kernel
theorem dX11_reason_831 : decode cX11_reason 831 = .ok (.ifCond .ne 6, 3) := by decide +kernel
theorem dX11_reason_834 : decode cX11_reason 834 = .ok (.bipush 7, 2) := by decide +kernel
theorem dX11_reason_836 : decode cX11_reason 836 = .ok (.ireturn, 1) := by decide +kernel
theorem dX11_reason_898 : decode cX11_reason 898 = .ok (.aload_n 0, 1) := by decide +kernel
theorem dX11_reason_899 : decode cX11_reason 899 = .ok (.aload_n 0, 1) := by decide +kernel
theorem dX11_reason_900 : decode cX11_reason 900 = .ok (.getfield 103, 3) := by decide +kernel
theorem dX11_reason_903 : decode cX11_reason 903 = .ok (.invokevirtual 178, 3) := by decide +kernel
theorem dX11_reason_906 : decode cX11_reason 906 = .ok (.ifCond .ne 8, 3) := by decide +kernel
theorem dX11_reason_909 : decode cX11_reason 909 = .ok (.bipush 8, 2) := by decide +kernel
theorem dX11_reason_911 : decode cX11_reason 911 = .ok (.goto 16, 3) := by decide +kernel
theorem dX11_reason_927 : decode cX11_reason 927 = .ok (.ireturn, 1) := by decide +kernel
theorem dX11_reason_928 : decode cX11_reason 928 = .ok (.aload_n 0, 1) := by decide +kernel
theorem dX11_reason_929 : decode cX11_reason 929 = .ok (.aload_n 0, 1) := by decide +kernel
theorem dX11_reason_930 : decode cX11_reason 930 = .ok (.getfield 103, 3) := by decide +kernel
theorem dX11_reason_933 : decode cX11_reason 933 = .ok (.invokevirtual 178, 3) := by decide +kernel
theorem dX11_reason_936 : decode cX11_reason 936 = .ok (.ifCond .ne 8, 3) := by decide +kernel
theorem dX11_reason_939 : decode cX11_reason 939 = .ok (.bipush 8, 2) := by decide +kernel
theorem dX11_reason_941 : decode cX11_reason 941 = .ok (.goto 4, 3) := by decide +kernel
theorem dX11_reason_945 : decode cX11_reason 945 = .ok (.ireturn, 1) := by decide +kernel
theorem dX11_reasonOfLay_0 : decode cX11_reasonOfLay 0 = .ok (.iload_n 1, 1) := by decide +kernel
theorem dX11_reasonOfLay_1 : decode cX11_reasonOfLay 1 = .ok (.iconst 0, 1) := by decide +kernel
theorem dX11_reasonOfLay_2 : decode cX11_reasonOfLay 2 = .ok (.bipush 7, 2) := by decide +kernel
theorem dX11_reasonOfLay_4 : decode cX11_reasonOfLay 4 = .ok (.invokestatic 136, 3) := by decide +kernel
theorem dX11_reasonOfLay_7 : decode cX11_reasonOfLay 7 = .ok (.ifCond .ne 6, 3) := by decide +kernel
theorem dX11_reasonOfLay_10 : decode cX11_reasonOfLay 10 = .ok (.bipush 9, 2) := by decide +kernel
theorem dX11_reasonOfLay_12 : decode cX11_reasonOfLay 12 = .ok (.ireturn, 1) := by decide +kernel
theorem dX11_reasonOfLay_13 : decode cX11_reasonOfLay 13 = .ok (.aload_n 0, 1) := by decide +kernel
theorem dX11_reasonOfLay_14 : decode cX11_reasonOfLay 14 = .ok (.getfield 130, 3) := by decide +kernel
theorem dX11_reasonOfLay_17 : decode cX11_reasonOfLay 17 = .ok (.ifCond .eq 12, 3) := by decide +kernel
theorem dX11_reasonOfLay_29 : decode cX11_reasonOfLay 29 = .ok (.bipush 11, 2) := by decide +kernel
theorem dX11_reasonOfLay_31 : decode cX11_reasonOfLay 31 = .ok (.ireturn, 1) := by decide +kernel
theorem dX11_reasonOfMove_0 : decode cX11_reasonOfMove 0 = .ok (.aload_n 0, 1) := by decide +kernel
theorem dX11_reasonOfMove_1 : decode cX11_reasonOfMove 1 = .ok (.getfield 130, 3) := by decide +kernel
theorem dX11_reasonOfMove_4 : decode cX11_reasonOfMove 4 = .ok (.ifCond .ne 6, 3) := by decide +kernel
theorem dX11_reasonOfMove_7 : decode cX11_reasonOfMove 7 = .ok (.bipush 11, 2) := by decide +kernel
theorem dX11_reasonOfMove_9 : decode cX11_reasonOfMove 9 = .ok (.ireturn, 1) := by decide +kernel
theorem dX11_reasonOfWord_0 : decode cX11_reasonOfWord 0 = .ok (.aload_n 0, 1) := by decide +kernel
theorem dX11_reasonOfWord_1 : decode cX11_reasonOfWord 1 = .ok (.iconst 1, 1) := by decide +kernel
theorem dX11_reasonOfWord_2 : decode cX11_reasonOfWord 2 = .ok (.iconst 5, 1) := by decide +kernel
theorem dX11_reasonOfWord_3 : decode cX11_reasonOfWord 3 = .ok (.invokevirtual 163, 3) := by decide +kernel
theorem dX11_reasonOfWord_6 : decode cX11_reasonOfWord 6 = .ok (.ifCond .eq 17, 3) := by decide +kernel
theorem dX11_reasonOfWord_23 : decode cX11_reasonOfWord 23 = .ok (.bipush 11, 2) := by decide +kernel
theorem dX11_reasonOfWord_25 : decode cX11_reasonOfWord 25 = .ok (.ireturn, 1) := by decide +kernel
theorem dX11_text_0 : decode cX11_text 0 = .ok (.iload_n 1, 1) := by decide +kernel
theorem dX11_text_1 : decode cX11_text 1 = .ok (.iconst (-1), 1) := by decide +kernel
theorem dX11_text_2 : decode cX11_text 2 = .ok (.if_icmp .ne 28, 3) := by decide +kernel
theorem dX11_text_5 : decode cX11_text 5 = .ok (.iload_n 2, 1) := by decide +kernel
theorem dX11_text_6 : decode cX11_text 6 = .ok (.iconst 0, 1) := by decide +kernel
theorem dX11_text_7 : decode cX11_text 7 = .ok (.aload_n 0, 1) := by decide +kernel
theorem dX11_text_8 : decode cX11_text 8 = .ok (.getfield 133, 3) := by decide +kernel
theorem dX11_text_11 : decode cX11_text 11 = .ok (.iconst 1, 1) := by decide +kernel
theorem dX11_text_12 : decode cX11_text 12 = .ok (.isub, 1) := by decide +kernel
theorem dX11_text_13 : decode cX11_text 13 = .ok (.invokestatic 136, 3) := by decide +kernel
theorem dX11_text_16 : decode cX11_text 16 = .ok (.ifCond .eq 12, 3) := by decide +kernel
theorem dX11_text_28 : decode cX11_text 28 = .ok (.iconst (-1), 1) := by decide +kernel
theorem dX11_text_29 : decode cX11_text 29 = .ok (.ireturn, 1) := by decide +kernel
theorem dX11_text_30 : decode cX11_text 30 = .ok (.iload_n 1, 1) := by decide +kernel
theorem dX11_text_31 : decode cX11_text 31 = .ok (.bipush 9, 2) := by decide +kernel
theorem dX11_text_33 : decode cX11_text 33 = .ok (.if_icmp .ne 30, 3) := by decide +kernel
theorem dX11_text_36 : decode cX11_text 36 = .ok (.aload_n 0, 1) := by decide +kernel
theorem dX11_text_37 : decode cX11_text 37 = .ok (.getfield 130, 3) := by decide +kernel
theorem dX11_text_40 : decode cX11_text 40 = .ok (.ifCond .le 19, 3) := by decide +kernel
theorem dX11_text_59 : decode cX11_text 59 = .ok (.iconst (-1), 1) := by decide +kernel
theorem dX11_text_60 : decode cX11_text 60 = .ok (.goto 27, 3) := by decide +kernel
theorem dX11_text_63 : decode cX11_text 63 = .ok (.iload_n 1, 1) := by decide +kernel
theorem dX11_text_64 : decode cX11_text 64 = .ok (.iconst 0, 1) := by decide +kernel
theorem dX11_text_65 : decode cX11_text 65 = .ok (.aload_n 0, 1) := by decide +kernel
theorem dX11_text_66 : decode cX11_text 66 = .ok (.getfield 115, 3) := by decide +kernel
theorem dX11_text_69 : decode cX11_text 69 = .ok (.iconst 1, 1) := by decide +kernel
theorem dX11_text_70 : decode cX11_text 70 = .ok (.isub, 1) := by decide +kernel
theorem dX11_text_71 : decode cX11_text 71 = .ok (.invokestatic 136, 3) := by decide +kernel
theorem dX11_text_74 : decode cX11_text 74 = .ok (.ifCond .eq 12, 3) := by decide +kernel
theorem dX11_text_86 : decode cX11_text 86 = .ok (.iconst (-1), 1) := by decide +kernel
theorem dX11_text_87 : decode cX11_text 87 = .ok (.istore_n 3, 1) := by decide +kernel
theorem dX11_text_88 : decode cX11_text 88 = .ok (.iload_n 3, 1) := by decide +kernel
theorem dX11_text_89 : decode cX11_text 89 = .ok (.iconst (-1), 1) := by decide +kernel
theorem dX11_text_90 : decode cX11_text 90 = .ok (.if_icmp .eq 34, 3) := by decide +kernel
theorem dX11_text_124 : decode cX11_text 124 = .ok (.iconst (-1), 1) := by decide +kernel
theorem dX11_text_125 : decode cX11_text 125 = .ok (.ireturn, 1) := by decide +kernel
theorem dX12_adjourn_0 : decode cX12_adjourn 0 = .ok (.aload_n 0, 1) := by decide +kernel
theorem dX12_adjourn_1 : decode cX12_adjourn 1 = .ok (.getfield 16, 3) := by decide +kernel
theorem dX12_adjourn_4 : decode cX12_adjourn 4 = .ok (.bipush 22, 2) := by decide +kernel
theorem dX12_adjourn_6 : decode cX12_adjourn 6 = .ok (.iconst 0, 1) := by decide +kernel
theorem dX12_adjourn_7 : decode cX12_adjourn 7 = .ok (.iconst 0, 1) := by decide +kernel
theorem dX12_adjourn_8 : decode cX12_adjourn 8 = .ok (.iconst 0, 1) := by decide +kernel
theorem dX12_adjourn_9 : decode cX12_adjourn 9 = .ok (.iconst 0, 1) := by decide +kernel
theorem dX12_adjourn_10 : decode cX12_adjourn 10 = .ok (.invokevirtual 40, 3) := by decide +kernel
theorem dX12_adjourn_13 : decode cX12_adjourn 13 = .ok (.ireturn, 1) := by decide +kernel
theorem dX12_again_0 : decode cX12_again 0 = .ok (.aload_n 0, 1) := by decide +kernel
theorem dX12_again_1 : decode cX12_again 1 = .ok (.getfield 20, 3) := by decide +kernel
theorem dX12_again_4 : decode cX12_again 4 = .ok (.aload_n 0, 1) := by decide +kernel
theorem dX12_again_5 : decode cX12_again 5 = .ok (.getfield 16, 3) := by decide +kernel
theorem dX12_again_8 : decode cX12_again 8 = .ok (.getfield 96, 3) := by decide +kernel
theorem dX12_again_11 : decode cX12_again 11 = .ok (.invokevirtual 36, 3) := by decide +kernel
theorem dX12_again_14 : decode cX12_again 14 = .ok (.iconst 0, 1) := by decide +kernel
theorem dX12_again_15 : decode cX12_again 15 = .ok (.istore_n 1, 1) := by decide +kernel
theorem dX12_again_16 : decode cX12_again 16 = .ok (.iload_n 1, 1) := by decide +kernel
theorem dX12_again_17 : decode cX12_again 17 = .ok (.aload_n 0, 1) := by decide +kernel
theorem dX12_again_18 : decode cX12_again 18 = .ok (.getfield 16, 3) := by decide +kernel
theorem dX12_again_21 : decode cX12_again 21 = .ok (.getfield 48, 3) := by decide +kernel
theorem dX12_again_24 : decode cX12_again 24 = .ok (.if_icmp .ge 92, 3) := by decide +kernel
theorem dX12_again_116 : decode cX12_again 116 = .ok (.iconst (-1), 1) := by decide +kernel
theorem dX12_again_117 : decode cX12_again 117 = .ok (.ireturn, 1) := by decide +kernel
theorem dX12_appeal_0 : decode cX12_appeal 0 = .ok (.aload_n 0, 1) := by decide +kernel
theorem dX12_appeal_1 : decode cX12_appeal 1 = .ok (.getfield 16, 3) := by decide +kernel
theorem dX12_appeal_4 : decode cX12_appeal 4 = .ok (.bipush 20, 2) := by decide +kernel
theorem dX12_appeal_6 : decode cX12_appeal 6 = .ok (.iload_n 1, 1) := by decide +kernel
theorem dX12_appeal_7 : decode cX12_appeal 7 = .ok (.iconst 0, 1) := by decide +kernel
theorem dX12_appeal_8 : decode cX12_appeal 8 = .ok (.iconst 0, 1) := by decide +kernel
theorem dX12_appeal_9 : decode cX12_appeal 9 = .ok (.iconst 0, 1) := by decide +kernel
theorem dX12_appeal_10 : decode cX12_appeal 10 = .ok (.invokevirtual 40, 3) := by decide +kernel
theorem dX12_appeal_13 : decode cX12_appeal 13 = .ok (.ireturn, 1) := by decide +kernel
theorem dX12_back_0 : decode cX12_back 0 = .ok (.iload_n 1, 1) := by decide +kernel
theorem dX12_back_1 : decode cX12_back 1 = .ok (.iconst 0, 1) := by decide +kernel
theorem dX12_back_2 : decode cX12_back 2 = .ok (.iconst 1, 1) := by decide +kernel
theorem dX12_back_3 : decode cX12_back 3 = .ok (.invokestatic 1, 3) := by decide +kernel
theorem dX12_back_6 : decode cX12_back 6 = .ok (.ifCond .ne 6, 3) := by decide +kernel
theorem dX12_back_9 : decode cX12_back 9 = .ok (.bipush (-9), 2) := by decide +kernel
theorem dX12_back_11 : decode cX12_back 11 = .ok (.ireturn, 1) := by decide +kernel
theorem dX12_back_12 : decode cX12_back 12 = .ok (.aload_n 0, 1) := by decide +kernel
theorem dX12_back_13 : decode cX12_back 13 = .ok (.getfield 27, 3) := by decide +kernel
theorem dX12_back_16 : decode cX12_back 16 = .ok (.iload_n 1, 1) := by decide +kernel
theorem dX12_back_17 : decode cX12_back 17 = .ok (.iaload, 1) := by decide +kernel
theorem dX12_back_18 : decode cX12_back 18 = .ok (.iconst (-1), 1) := by decide +kernel
theorem dX12_back_19 : decode cX12_back 19 = .ok (.if_icmp .ne 6, 3) := by decide +kernel
theorem dX12_back_22 : decode cX12_back 22 = .ok (.bipush (-11), 2) := by decide +kernel
theorem dX12_back_24 : decode cX12_back 24 = .ok (.ireturn, 1) := by decide +kernel
theorem dX12_ballot_0 : decode cX12_ballot 0 = .ok (.aload_n 0, 1) := by decide +kernel
theorem dX12_ballot_1 : decode cX12_ballot 1 = .ok (.getfield 16, 3) := by decide +kernel
theorem dX12_ballot_4 : decode cX12_ballot 4 = .ok (.getfield 55, 3) := by decide +kernel
theorem dX12_ballot_7 : decode cX12_ballot 7 = .ok (.ifCond .eq 20, 3) := by decide +kernel
theorem dX12_ballot_27 : decode cX12_ballot 27 = .ok (.iconst (-1), 1) := by decide +kernel
theorem dX12_ballot_28 : decode cX12_ballot 28 = .ok (.ireturn, 1) := by decide +kernel
theorem dX12_before_0 : decode cX12_before 0 = .ok (.iload_n 1, 1) := by decide +kernel
theorem dX12_before_1 : decode cX12_before 1 = .ok (.iconst 0, 1) := by decide +kernel
theorem dX12_before_2 : decode cX12_before 2 = .ok (.aload_n 0, 1) := by decide +kernel
theorem dX12_before_3 : decode cX12_before 3 = .ok (.getfield 16, 3) := by decide +kernel
theorem dX12_before_6 : decode cX12_before 6 = .ok (.getfield 48, 3) := by decide +kernel
theorem dX12_before_9 : decode cX12_before 9 = .ok (.invokestatic 1, 3) := by decide +kernel
theorem dX12_before_12 : decode cX12_before 12 = .ok (.ifCond .ne 5, 3) := by decide +kernel
theorem dX12_before_15 : decode cX12_before 15 = .ok (.iconst (-1), 1) := by decide +kernel
theorem dX12_before_16 : decode cX12_before 16 = .ok (.ireturn, 1) := by decide +kernel
theorem dX12_before_17 : decode cX12_before 17 = .ok (.aload_n 0, 1) := by decide +kernel
theorem dX12_before_18 : decode cX12_before 18 = .ok (.getfield 20, 3) := by decide +kernel
theorem dX12_before_21 : decode cX12_before 21 = .ok (.aload_n 0, 1) := by decide +kernel
theorem dX12_before_22 : decode cX12_before 22 = .ok (.getfield 16, 3) := by decide +kernel
theorem dX12_before_25 : decode cX12_before 25 = .ok (.getfield 96, 3) := by decide +kernel
theorem dX12_before_28 : decode cX12_before 28 = .ok (.invokevirtual 36, 3) := by decide +kernel
theorem dX12_before_31 : decode cX12_before 31 = .ok (.aload_n 0, 1) := by decide +kernel
theorem dX12_before_32 : decode cX12_before 32 = .ok (.getfield 20, 3) := by decide +kernel
theorem dX12_before_35 : decode cX12_before 35 = .ok (.aload_n 0, 1) := by decide +kernel
theorem dX12_before_36 : decode cX12_before 36 = .ok (.getfield 16, 3) := by decide +kernel
theorem dX12_before_39 : decode cX12_before 39 = .ok (.getfield 167, 3) := by decide +kernel
theorem dX12_before_42 : decode cX12_before 42 = .ok (.iload_n 1, 1) := by decide +kernel
theorem dX12_before_43 : decode cX12_before 43 = .ok (.invokevirtual 170, 3) := by decide +kernel
theorem dX12_before_46 : decode cX12_before 46 = .ok (.aload_n 0, 1) := by decide +kernel
theorem dX12_before_47 : decode cX12_before 47 = .ok (.getfield 20, 3) := by decide +kernel
theorem dX12_before_50 : decode cX12_before 50 = .ok (.iload_n 2, 1) := by decide +kernel
theorem dX12_before_51 : decode cX12_before 51 = .ok (.iload_n 3, 1) := by decide +kernel
theorem dX12_before_52 : decode cX12_before 52 = .ok (.invokevirtual 92, 3) := by decide +kernel
theorem dX12_before_55 : decode cX12_before 55 = .ok (.ireturn, 1) := by decide +kernel
theorem dX12_cede_0 : decode cX12_cede 0 = .ok (.aload_n 0, 1) := by decide +kernel
theorem dX12_cede_1 : decode cX12_cede 1 = .ok (.getfield 16, 3) := by decide +kernel
theorem dX12_cede_4 : decode cX12_cede 4 = .ok (.bipush 8, 2) := by decide +kernel
theorem dX12_cede_6 : decode cX12_cede 6 = .ok (.iconst 0, 1) := by decide +kernel
theorem dX12_cede_7 : decode cX12_cede 7 = .ok (.iconst 0, 1) := by decide +kernel
theorem dX12_cede_8 : decode cX12_cede 8 = .ok (.iconst 0, 1) := by decide +kernel
theorem dX12_cede_9 : decode cX12_cede 9 = .ok (.iconst 0, 1) := by decide +kernel
theorem dX12_cede_10 : decode cX12_cede 10 = .ok (.invokevirtual 40, 3) := by decide +kernel
theorem dX12_cede_13 : decode cX12_cede 13 = .ok (.ireturn, 1) := by decide +kernel
theorem dX12_chair_0 : decode cX12_chair 0 = .ok (.aload_n 0, 1) := by decide +kernel
theorem dX12_chair_1 : decode cX12_chair 1 = .ok (.getfield 16, 3) := by decide +kernel
theorem dX12_chair_4 : decode cX12_chair 4 = .ok (.iconst 4, 1) := by decide +kernel
theorem dX12_chair_5 : decode cX12_chair 5 = .ok (.iload_n 1, 1) := by decide +kernel
theorem dX12_chair_6 : decode cX12_chair 6 = .ok (.iconst 0, 1) := by decide +kernel
theorem dX12_chair_7 : decode cX12_chair 7 = .ok (.iconst 0, 1) := by decide +kernel
theorem dX12_chair_8 : decode cX12_chair 8 = .ok (.iconst 0, 1) := by decide +kernel
theorem dX12_chair_9 : decode cX12_chair 9 = .ok (.invokevirtual 40, 3) := by decide +kernel
theorem dX12_chair_12 : decode cX12_chair 12 = .ok (.ireturn, 1) := by decide +kernel
theorem dX12_check_0 : decode cX12_check 0 = .ok (.aload_n 0, 1) := by decide +kernel
theorem dX12_check_1 : decode cX12_check 1 = .ok (.getfield 20, 3) := by decide +kernel
theorem dX12_check_4 : decode cX12_check 4 = .ok (.aload_n 0, 1) := by decide +kernel
theorem dX12_check_5 : decode cX12_check 5 = .ok (.getfield 16, 3) := by decide +kernel
theorem dX12_check_8 : decode cX12_check 8 = .ok (.getfield 96, 3) := by decide +kernel
theorem dX12_check_11 : decode cX12_check 11 = .ok (.invokevirtual 36, 3) := by decide +kernel
theorem dX12_check_14 : decode cX12_check 14 = .ok (.iconst 0, 1) := by decide +kernel
theorem dX12_check_15 : decode cX12_check 15 = .ok (.istore_n 1, 1) := by decide +kernel
theorem dX12_check_16 : decode cX12_check 16 = .ok (.iload_n 1, 1) := by decide +kernel
theorem dX12_check_17 : decode cX12_check 17 = .ok (.aload_n 0, 1) := by decide +kernel
theorem dX12_check_18 : decode cX12_check 18 = .ok (.getfield 161, 3) := by decide +kernel
theorem dX12_check_21 : decode cX12_check 21 = .ok (.if_icmp .ge 129, 3) := by decide +kernel
theorem dX12_check_150 : decode cX12_check 150 = .ok (.iconst (-1), 1) := by decide +kernel
theorem dX12_check_151 : decode cX12_check 151 = .ok (.ireturn, 1) := by decide +kernel
theorem dX12_count_0 : decode cX12_count 0 = .ok (.iload_n 1, 1) := by decide +kernel
theorem dX12_count_1 : decode cX12_count 1 = .ok (.tableswitch 207 0 12 #[67, 75, 83, 91, 99, 107, 115, 123, 170, 178, 186, 194, 202], 67) := by decide +kernel
theorem dX12_count_68 : decode cX12_count 68 = .ok (.aload_n 0, 1) := by decide +kernel
theorem dX12_count_69 : decode cX12_count 69 = .ok (.getfield 16, 3) := by decide +kernel
theorem dX12_count_72 : decode cX12_count 72 = .ok (.getfield 96, 3) := by decide +kernel
theorem dX12_count_75 : decode cX12_count 75 = .ok (.ireturn, 1) := by decide +kernel
theorem dX12_count_76 : decode cX12_count 76 = .ok (.aload_n 0, 1) := by decide +kernel
theorem dX12_count_77 : decode cX12_count 77 = .ok (.getfield 16, 3) := by decide +kernel
theorem dX12_count_80 : decode cX12_count 80 = .ok (.getfield 130, 3) := by decide +kernel
theorem dX12_count_83 : decode cX12_count 83 = .ok (.ireturn, 1) := by decide +kernel
theorem dX12_count_84 : decode cX12_count 84 = .ok (.aload_n 0, 1) := by decide +kernel
theorem dX12_count_85 : decode cX12_count 85 = .ok (.getfield 16, 3) := by decide +kernel
theorem dX12_count_88 : decode cX12_count 88 = .ok (.getfield 133, 3) := by decide +kernel
theorem dX12_count_91 : decode cX12_count 91 = .ok (.ireturn, 1) := by decide +kernel
theorem dX12_count_92 : decode cX12_count 92 = .ok (.aload_n 0, 1) := by decide +kernel
theorem dX12_count_93 : decode cX12_count 93 = .ok (.getfield 16, 3) := by decide +kernel
theorem dX12_count_96 : decode cX12_count 96 = .ok (.getfield 136, 3) := by decide +kernel
theorem dX12_count_99 : decode cX12_count 99 = .ok (.ireturn, 1) := by decide +kernel
theorem dX12_count_100 : decode cX12_count 100 = .ok (.aload_n 0, 1) := by decide +kernel
theorem dX12_count_101 : decode cX12_count 101 = .ok (.getfield 16, 3) := by decide +kernel
theorem dX12_count_104 : decode cX12_count 104 = .ok (.getfield 139, 3) := by decide +kernel
theorem dX12_count_107 : decode cX12_count 107 = .ok (.ireturn, 1) := by decide +kernel
theorem dX12_count_108 : decode cX12_count 108 = .ok (.aload_n 0, 1) := by decide +kernel
theorem dX12_count_109 : decode cX12_count 109 = .ok (.getfield 16, 3) := by decide +kernel
theorem dX12_count_112 : decode cX12_count 112 = .ok (.getfield 142, 3) := by decide +kernel
theorem dX12_count_115 : decode cX12_count 115 = .ok (.ireturn, 1) := by decide +kernel
theorem dX12_count_116 : decode cX12_count 116 = .ok (.aload_n 0, 1) := by decide +kernel
theorem dX12_count_117 : decode cX12_count 117 = .ok (.getfield 16, 3) := by decide +kernel
theorem dX12_count_120 : decode cX12_count 120 = .ok (.getfield 55, 3) := by decide +kernel
theorem dX12_count_123 : decode cX12_count 123 = .ok (.ireturn, 1) := by decide +kernel
theorem dX12_count_124 : decode cX12_count 124 = .ok (.aload_n 0, 1) := by decide +kernel
theorem dX12_count_125 : decode cX12_count 125 = .ok (.getfield 16, 3) := by decide +kernel
theorem dX12_count_128 : decode cX12_count 128 = .ok (.getfield 145, 3) := by decide +kernel
theorem dX12_count_131 : decode cX12_count 131 = .ok (.ifCond .ne 7, 3) := by decide +kernel
theorem dX12_count_134 : decode cX12_count 134 = .ok (.iconst 0, 1) := by decide +kernel
theorem dX12_count_135 : decode cX12_count 135 = .ok (.goto 35, 3) := by decide +kernel
theorem dX12_count_170 : decode cX12_count 170 = .ok (.ireturn, 1) := by decide +kernel
theorem dX12_count_171 : decode cX12_count 171 = .ok (.aload_n 0, 1) := by decide +kernel
theorem dX12_count_172 : decode cX12_count 172 = .ok (.getfield 16, 3) := by decide +kernel
theorem dX12_count_175 : decode cX12_count 175 = .ok (.getfield 48, 3) := by decide +kernel
theorem dX12_count_178 : decode cX12_count 178 = .ok (.ireturn, 1) := by decide +kernel
theorem dX12_count_179 : decode cX12_count 179 = .ok (.aload_n 0, 1) := by decide +kernel
theorem dX12_count_180 : decode cX12_count 180 = .ok (.getfield 16, 3) := by decide +kernel
theorem dX12_count_183 : decode cX12_count 183 = .ok (.getfield 124, 3) := by decide +kernel
theorem dX12_count_186 : decode cX12_count 186 = .ok (.ireturn, 1) := by decide +kernel
theorem dX12_count_187 : decode cX12_count 187 = .ok (.aload_n 0, 1) := by decide +kernel
theorem dX12_count_188 : decode cX12_count 188 = .ok (.getfield 16, 3) := by decide +kernel
theorem dX12_count_191 : decode cX12_count 191 = .ok (.getfield 155, 3) := by decide +kernel
theorem dX12_count_194 : decode cX12_count 194 = .ok (.ireturn, 1) := by decide +kernel
theorem dX12_count_195 : decode cX12_count 195 = .ok (.aload_n 0, 1) := by decide +kernel
theorem dX12_count_196 : decode cX12_count 196 = .ok (.getfield 16, 3) := by decide +kernel
theorem dX12_count_199 : decode cX12_count 199 = .ok (.getfield 158, 3) := by decide +kernel
theorem dX12_count_202 : decode cX12_count 202 = .ok (.ireturn, 1) := by decide +kernel
theorem dX12_count_203 : decode cX12_count 203 = .ok (.aload_n 0, 1) := by decide +kernel
theorem dX12_count_204 : decode cX12_count 204 = .ok (.getfield 161, 3) := by decide +kernel
theorem dX12_count_207 : decode cX12_count 207 = .ok (.ireturn, 1) := by decide +kernel
theorem dX12_count_208 : decode cX12_count 208 = .ok (.iconst (-1), 1) := by decide +kernel
theorem dX12_count_209 : decode cX12_count 209 = .ok (.ireturn, 1) := by decide +kernel
theorem dX12_debate_0 : decode cX12_debate 0 = .ok (.aload_n 0, 1) := by decide +kernel
theorem dX12_debate_1 : decode cX12_debate 1 = .ok (.getfield 16, 3) := by decide +kernel
theorem dX12_debate_4 : decode cX12_debate 4 = .ok (.bipush 9, 2) := by decide +kernel
theorem dX12_debate_6 : decode cX12_debate 6 = .ok (.iload_n 1, 1) := by decide +kernel
theorem dX12_debate_7 : decode cX12_debate 7 = .ok (.iconst 0, 1) := by decide +kernel
theorem dX12_debate_8 : decode cX12_debate 8 = .ok (.iconst 0, 1) := by decide +kernel
theorem dX12_debate_9 : decode cX12_debate 9 = .ok (.iconst 0, 1) := by decide +kernel
theorem dX12_debate_10 : decode cX12_debate 10 = .ok (.invokevirtual 40, 3) := by decide +kernel
theorem dX12_debate_13 : decode cX12_debate 13 = .ok (.ireturn, 1) := by decide +kernel
theorem dX12_desk_0 : decode cX12_desk 0 = .ok (.iload_n 1, 1) := by decide +kernel
theorem dX12_desk_1 : decode cX12_desk 1 = .ok (.iconst 0, 1) := by decide +kernel
theorem dX12_desk_2 : decode cX12_desk 2 = .ok (.bipush 7, 2) := by decide +kernel
theorem dX12_desk_4 : decode cX12_desk 4 = .ok (.invokestatic 1, 3) := by decide +kernel
theorem dX12_desk_7 : decode cX12_desk 7 = .ok (.ifCond .eq 12, 3) := by decide +kernel
theorem dX12_desk_10 : decode cX12_desk 10 = .ok (.iload_n 2, 1) := by decide +kernel
theorem dX12_desk_11 : decode cX12_desk 11 = .ok (.iconst 0, 1) := by decide +kernel
theorem dX12_desk_12 : decode cX12_desk 12 = .ok (.iconst 5, 1) := by decide +kernel
theorem dX12_desk_13 : decode cX12_desk 13 = .ok (.invokestatic 1, 3) := by decide +kernel
theorem dX12_desk_16 : decode cX12_desk 16 = .ok (.ifCond .ne 5, 3) := by decide +kernel
theorem dX12_desk_19 : decode cX12_desk 19 = .ok (.iconst (-1), 1) := by decide +kernel
theorem dX12_desk_20 : decode cX12_desk 20 = .ok (.ireturn, 1) := by decide +kernel
theorem dX12_desk_21 : decode cX12_desk 21 = .ok (.aload_n 0, 1) := by decide +kernel
theorem dX12_desk_22 : decode cX12_desk 22 = .ok (.getfield 16, 3) := by decide +kernel
theorem dX12_desk_25 : decode cX12_desk 25 = .ok (.getfield 107, 3) := by decide +kernel
theorem dX12_desk_28 : decode cX12_desk 28 = .ok (.iload_n 1, 1) := by decide +kernel
theorem dX12_desk_29 : decode cX12_desk 29 = .ok (.iaload, 1) := by decide +kernel
theorem dX12_desk_30 : decode cX12_desk 30 = .ok (.istore_n 3, 1) := by decide +kernel
theorem dX12_desk_31 : decode cX12_desk 31 = .ok (.iload_n 3, 1) := by decide +kernel
theorem dX12_desk_32 : decode cX12_desk 32 = .ok (.ifCond .ne 5, 3) := by decide +kernel
theorem dX12_desk_35 : decode cX12_desk 35 = .ok (.iconst 0, 1) := by decide +kernel
theorem dX12_desk_36 : decode cX12_desk 36 = .ok (.ireturn, 1) := by decide +kernel
theorem dX12_draft_0 : decode cX12_draft 0 = .ok (.aload_n 0, 1) := by decide +kernel
theorem dX12_draft_1 : decode cX12_draft 1 = .ok (.getfield 16, 3) := by decide +kernel
theorem dX12_draft_4 : decode cX12_draft 4 = .ok (.bipush 10, 2) := by decide +kernel
theorem dX12_draft_6 : decode cX12_draft 6 = .ok (.iload_n 1, 1) := by decide +kernel
theorem dX12_draft_7 : decode cX12_draft 7 = .ok (.iconst 0, 1) := by decide +kernel
theorem dX12_draft_8 : decode cX12_draft 8 = .ok (.iconst 0, 1) := by decide +kernel
theorem dX12_draft_9 : decode cX12_draft 9 = .ok (.iconst 0, 1) := by decide +kernel
theorem dX12_draft_10 : decode cX12_draft 10 = .ok (.invokevirtual 40, 3) := by decide +kernel
theorem dX12_draft_13 : decode cX12_draft 13 = .ok (.ireturn, 1) := by decide +kernel
theorem dX12_floor_0 : decode cX12_floor 0 = .ok (.aload_n 0, 1) := by decide +kernel
theorem dX12_floor_1 : decode cX12_floor 1 = .ok (.getfield 16, 3) := by decide +kernel
theorem dX12_floor_4 : decode cX12_floor 4 = .ok (.bipush 7, 2) := by decide +kernel
theorem dX12_floor_6 : decode cX12_floor 6 = .ok (.iload_n 1, 1) := by decide +kernel
theorem dX12_floor_7 : decode cX12_floor 7 = .ok (.iconst 0, 1) := by decide +kernel
theorem dX12_floor_8 : decode cX12_floor 8 = .ok (.iconst 0, 1) := by decide +kernel
theorem dX12_floor_9 : decode cX12_floor 9 = .ok (.iconst 0, 1) := by decide +kernel
theorem dX12_floor_10 : decode cX12_floor 10 = .ok (.invokevirtual 40, 3) := by decide +kernel
theorem dX12_floor_13 : decode cX12_floor 13 = .ok (.ireturn, 1) := by decide +kernel
theorem dX12_gone_0 : decode cX12_gone 0 = .ok (.aload_n 0, 1) := by decide +kernel
theorem dX12_gone_1 : decode cX12_gone 1 = .ok (.getfield 16, 3) := by decide +kernel
theorem dX12_gone_4 : decode cX12_gone 4 = .ok (.iconst 2, 1) := by decide +kernel
theorem dX12_gone_5 : decode cX12_gone 5 = .ok (.iload_n 1, 1) := by decide +kernel
theorem dX12_gone_6 : decode cX12_gone 6 = .ok (.iconst 0, 1) := by decide +kernel
theorem dX12_gone_7 : decode cX12_gone 7 = .ok (.iconst 0, 1) := by decide +kernel
theorem dX12_gone_8 : decode cX12_gone 8 = .ok (.iconst 0, 1) := by decide +kernel
theorem dX12_gone_9 : decode cX12_gone 9 = .ok (.invokevirtual 40, 3) := by decide +kernel
theorem dX12_gone_12 : decode cX12_gone 12 = .ok (.ireturn, 1) := by decide +kernel
theorem dX12_image_0 : decode cX12_image 0 = .ok (.iload_n 1, 1) := by decide +kernel
theorem dX12_image_1 : decode cX12_image 1 = .ok (.iconst 0, 1) := by decide +kernel
theorem dX12_image_2 : decode cX12_image 2 = .ok (.iconst 1, 1) := by decide +kernel
theorem dX12_image_3 : decode cX12_image 3 = .ok (.invokestatic 1, 3) := by decide +kernel
theorem dX12_image_6 : decode cX12_image 6 = .ok (.ifCond .ne 6, 3) := by decide +kernel
theorem dX12_image_9 : decode cX12_image 9 = .ok (.bipush (-9), 2) := by decide +kernel
theorem dX12_image_11 : decode cX12_image 11 = .ok (.ireturn, 1) := by decide +kernel
theorem dX12_image_12 : decode cX12_image 12 = .ok (.aload_n 0, 1) := by decide +kernel
theorem dX12_image_13 : decode cX12_image 13 = .ok (.getfield 23, 3) := by decide +kernel
theorem dX12_image_16 : decode cX12_image 16 = .ok (.iload_n 1, 1) := by decide +kernel
theorem dX12_image_17 : decode cX12_image 17 = .ok (.aload_n 0, 1) := by decide +kernel
theorem dX12_image_18 : decode cX12_image 18 = .ok (.getfield 16, 3) := by decide +kernel
theorem dX12_image_21 : decode cX12_image 21 = .ok (.getfield 96, 3) := by decide +kernel
theorem dX12_image_24 : decode cX12_image 24 = .ok (.iastore, 1) := by decide +kernel
theorem dX12_image_25 : decode cX12_image 25 = .ok (.aload_n 0, 1) := by decide +kernel
theorem dX12_image_26 : decode cX12_image 26 = .ok (.getfield 27, 3) := by decide +kernel
theorem dX12_image_29 : decode cX12_image 29 = .ok (.iload_n 1, 1) := by decide +kernel
theorem dX12_image_30 : decode cX12_image 30 = .ok (.aload_n 0, 1) := by decide +kernel
theorem dX12_image_31 : decode cX12_image 31 = .ok (.getfield 16, 3) := by decide +kernel
theorem dX12_image_34 : decode cX12_image 34 = .ok (.getfield 48, 3) := by decide +kernel
theorem dX12_image_37 : decode cX12_image 37 = .ok (.iastore, 1) := by decide +kernel
theorem dX12_image_38 : decode cX12_image 38 = .ok (.iconst 0, 1) := by decide +kernel
theorem dX12_image_39 : decode cX12_image 39 = .ok (.istore_n 2, 1) := by decide +kernel
theorem dX12_image_40 : decode cX12_image 40 = .ok (.iload_n 2, 1) := by decide +kernel
theorem dX12_image_41 : decode cX12_image 41 = .ok (.bipush 6, 2) := by decide +kernel
theorem dX12_image_43 : decode cX12_image 43 = .ok (.aload_n 0, 1) := by decide +kernel
theorem dX12_image_44 : decode cX12_image 44 = .ok (.getfield 16, 3) := by decide +kernel
theorem dX12_image_47 : decode cX12_image 47 = .ok (.getfield 48, 3) := by decide +kernel
theorem dX12_image_50 : decode cX12_image 50 = .ok (.imul, 1) := by decide +kernel
theorem dX12_image_51 : decode cX12_image 51 = .ok (.if_icmp .ge 30, 3) := by decide +kernel
theorem dX12_image_81 : decode cX12_image 81 = .ok (.aload_n 0, 1) := by decide +kernel
theorem dX12_image_82 : decode cX12_image 82 = .ok (.getfield 16, 3) := by decide +kernel
theorem dX12_image_85 : decode cX12_image 85 = .ok (.getfield 48, 3) := by decide +kernel
theorem dX12_image_88 : decode cX12_image 88 = .ok (.ireturn, 1) := by decide +kernel
theorem dX12_in_0 : decode cX12_in 0 = .ok (.iload_n 0, 1) := by decide +kernel
theorem dX12_in_1 : decode cX12_in 1 = .ok (.iload_n 1, 1) := by decide +kernel
theorem dX12_in_2 : decode cX12_in 2 = .ok (.if_icmp .lt 12, 3) := by decide +kernel
theorem dX12_in_5 : decode cX12_in 5 = .ok (.iload_n 0, 1) := by decide +kernel
theorem dX12_in_6 : decode cX12_in 6 = .ok (.iload_n 2, 1) := by decide +kernel
theorem dX12_in_7 : decode cX12_in 7 = .ok (.if_icmp .gt 7, 3) := by decide +kernel
theorem dX12_in_10 : decode cX12_in 10 = .ok (.iconst 1, 1) := by decide +kernel
theorem dX12_in_11 : decode cX12_in 11 = .ok (.goto 4, 3) := by decide +kernel
theorem dX12_in_14 : decode cX12_in 14 = .ok (.iconst 0, 1) := by decide +kernel
theorem dX12_in_15 : decode cX12_in 15 = .ok (.ireturn, 1) := by decide +kernel
theorem dX12_init_0 : decode cX12_init 0 = .ok (.aload_n 0, 1) := by decide +kernel
theorem dX12_init_1 : decode cX12_init 1 = .ok (.invokespecial 7, 3) := by decide +kernel
theorem dX12_init_4 : decode cX12_init 4 = .ok (.aload_n 0, 1) := by decide +kernel
theorem dX12_init_5 : decode cX12_init 5 = .ok (.new 13, 3) := by decide +kernel
theorem dX12_init_8 : decode cX12_init 8 = .ok (.dup, 1) := by decide +kernel
theorem dX12_init_9 : decode cX12_init 9 = .ok (.invokespecial 15, 3) := by decide +kernel
theorem dX12_init_12 : decode cX12_init 12 = .ok (.putfield 16, 3) := by decide +kernel
theorem dX12_init_15 : decode cX12_init 15 = .ok (.aload_n 0, 1) := by decide +kernel
theorem dX12_init_16 : decode cX12_init 16 = .ok (.new 13, 3) := by decide +kernel
theorem dX12_init_19 : decode cX12_init 19 = .ok (.dup, 1) := by decide +kernel
theorem dX12_init_20 : decode cX12_init 20 = .ok (.invokespecial 15, 3) := by decide +kernel
theorem dX12_init_23 : decode cX12_init 23 = .ok (.putfield 20, 3) := by decide +kernel
theorem dX12_init_26 : decode cX12_init 26 = .ok (.aload_n 0, 1) := by decide +kernel
theorem dX12_init_27 : decode cX12_init 27 = .ok (.iconst 2, 1) := by decide +kernel
theorem dX12_init_28 : decode cX12_init 28 = .ok (.newarray .int, 2) := by decide +kernel
theorem dX12_init_30 : decode cX12_init 30 = .ok (.putfield 23, 3) := by decide +kernel
theorem dX12_init_33 : decode cX12_init 33 = .ok (.aload_n 0, 1) := by decide +kernel
theorem dX12_init_34 : decode cX12_init 34 = .ok (.iconst 2, 1) := by decide +kernel
theorem dX12_init_35 : decode cX12_init 35 = .ok (.newarray .int, 2) := by decide +kernel
theorem dX12_init_37 : decode cX12_init 37 = .ok (.putfield 27, 3) := by decide +kernel
theorem dX12_init_40 : decode cX12_init 40 = .ok (.aload_n 0, 1) := by decide +kernel
theorem dX12_init_41 : decode cX12_init 41 = .ok (.sipush 7200, 3) := by decide +kernel
theorem dX12_init_44 : decode cX12_init 44 = .ok (.newarray .int, 2) := by decide +kernel
theorem dX12_init_46 : decode cX12_init 46 = .ok (.putfield 30, 3) := by decide +kernel
theorem dX12_init_49 : decode cX12_init 49 = .ok (.aload_n 0, 1) := by decide +kernel
theorem dX12_init_50 : decode cX12_init 50 = .ok (.sipush 3600, 3) := by decide +kernel
theorem dX12_init_53 : decode cX12_init 53 = .ok (.newarray .int, 2) := by decide +kernel
theorem dX12_init_55 : decode cX12_init 55 = .ok (.putfield 33, 3) := by decide +kernel
theorem dX12_init_58 : decode cX12_init 58 = .ok (.aload_n 0, 1) := by decide +kernel
theorem dX12_init_59 : decode cX12_init 59 = .ok (.getfield 16, 3) := by decide +kernel
theorem dX12_init_62 : decode cX12_init 62 = .ok (.iconst 1, 1) := by decide +kernel
theorem dX12_init_63 : decode cX12_init 63 = .ok (.invokevirtual 36, 3) := by decide +kernel
theorem dX12_init_66 : decode cX12_init 66 = .ok (.aload_n 0, 1) := by decide +kernel
theorem dX12_init_67 : decode cX12_init 67 = .ok (.getfield 27, 3) := by decide +kernel
theorem dX12_init_70 : decode cX12_init 70 = .ok (.iconst 0, 1) := by decide +kernel
theorem dX12_init_71 : decode cX12_init 71 = .ok (.iconst (-1), 1) := by decide +kernel
theorem dX12_init_72 : decode cX12_init 72 = .ok (.iastore, 1) := by decide +kernel
theorem dX12_init_73 : decode cX12_init 73 = .ok (.aload_n 0, 1) := by decide +kernel
theorem dX12_init_74 : decode cX12_init 74 = .ok (.getfield 27, 3) := by decide +kernel
theorem dX12_init_77 : decode cX12_init 77 = .ok (.iconst 1, 1) := by decide +kernel
theorem dX12_init_78 : decode cX12_init 78 = .ok (.iconst (-1), 1) := by decide +kernel
theorem dX12_init_79 : decode cX12_init 79 = .ok (.iastore, 1) := by decide +kernel
theorem dX12_init_80 : decode cX12_init 80 = .ok (.return_, 1) := by decide +kernel
theorem dX12_journal_0 : decode cX12_journal 0 = .ok (.iload_n 1, 1) := by decide +kernel
theorem dX12_journal_1 : decode cX12_journal 1 = .ok (.iconst 0, 1) := by decide +kernel
theorem dX12_journal_2 : decode cX12_journal 2 = .ok (.aload_n 0, 1) := by decide +kernel
theorem dX12_journal_3 : decode cX12_journal 3 = .ok (.getfield 16, 3) := by decide +kernel
theorem dX12_journal_6 : decode cX12_journal 6 = .ok (.getfield 48, 3) := by decide +kernel
theorem dX12_journal_9 : decode cX12_journal 9 = .ok (.iconst 1, 1) := by decide +kernel
theorem dX12_journal_10 : decode cX12_journal 10 = .ok (.isub, 1) := by decide +kernel
theorem dX12_journal_11 : decode cX12_journal 11 = .ok (.invokestatic 1, 3) := by decide +kernel
theorem dX12_journal_14 : decode cX12_journal 14 = .ok (.ifCond .eq 29, 3) := by decide +kernel
theorem dX12_journal_43 : decode cX12_journal 43 = .ok (.iconst (-1), 1) := by decide +kernel
theorem dX12_journal_44 : decode cX12_journal 44 = .ok (.ireturn, 1) := by decide +kernel
theorem dX12_lay_0 : decode cX12_lay 0 = .ok (.aload_n 0, 1) := by decide +kernel
theorem dX12_lay_1 : decode cX12_lay 1 = .ok (.getfield 16, 3) := by decide +kernel
theorem dX12_lay_4 : decode cX12_lay 4 = .ok (.bipush 13, 2) := by decide +kernel
theorem dX12_lay_6 : decode cX12_lay 6 = .ok (.iload_n 1, 1) := by decide +kernel
theorem dX12_lay_7 : decode cX12_lay 7 = .ok (.iconst 0, 1) := by decide +kernel
theorem dX12_lay_8 : decode cX12_lay 8 = .ok (.iconst 0, 1) := by decide +kernel
theorem dX12_lay_9 : decode cX12_lay 9 = .ok (.iconst 0, 1) := by decide +kernel
theorem dX12_lay_10 : decode cX12_lay 10 = .ok (.invokevirtual 40, 3) := by decide +kernel
theorem dX12_lay_13 : decode cX12_lay 13 = .ok (.ireturn, 1) := by decide +kernel
theorem dX12_limit_0 : decode cX12_limit 0 = .ok (.aload_n 0, 1) := by decide +kernel
theorem dX12_limit_1 : decode cX12_limit 1 = .ok (.getfield 16, 3) := by decide +kernel
theorem dX12_limit_4 : decode cX12_limit 4 = .ok (.bipush 6, 2) := by decide +kernel
theorem dX12_limit_6 : decode cX12_limit 6 = .ok (.iload_n 1, 1) := by decide +kernel
theorem dX12_limit_7 : decode cX12_limit 7 = .ok (.iconst 0, 1) := by decide +kernel
theorem dX12_limit_8 : decode cX12_limit 8 = .ok (.iconst 0, 1) := by decide +kernel
theorem dX12_limit_9 : decode cX12_limit 9 = .ok (.iconst 0, 1) := by decide +kernel
theorem dX12_limit_10 : decode cX12_limit 10 = .ok (.invokevirtual 40, 3) := by decide +kernel
theorem dX12_limit_13 : decode cX12_limit 13 = .ok (.ireturn, 1) := by decide +kernel
theorem dX12_lying_0 : decode cX12_lying 0 = .ok (.iload_n 1, 1) := by decide +kernel
theorem dX12_lying_1 : decode cX12_lying 1 = .ok (.iconst 0, 1) := by decide +kernel
theorem dX12_lying_2 : decode cX12_lying 2 = .ok (.bipush 7, 2) := by decide +kernel
theorem dX12_lying_4 : decode cX12_lying 4 = .ok (.invokestatic 1, 3) := by decide +kernel
theorem dX12_lying_7 : decode cX12_lying 7 = .ok (.ifCond .eq 15, 3) := by decide +kernel
theorem dX12_lying_10 : decode cX12_lying 10 = .ok (.aload_n 0, 1) := by decide +kernel
theorem dX12_lying_11 : decode cX12_lying 11 = .ok (.getfield 16, 3) := by decide +kernel
theorem dX12_lying_14 : decode cX12_lying 14 = .ok (.getfield 107, 3) := by decide +kernel
theorem dX12_lying_17 : decode cX12_lying 17 = .ok (.iload_n 1, 1) := by decide +kernel
theorem dX12_lying_18 : decode cX12_lying 18 = .ok (.iaload, 1) := by decide +kernel
theorem dX12_lying_19 : decode cX12_lying 19 = .ok (.ifCond .ne 5, 3) := by decide +kernel
theorem dX12_lying_22 : decode cX12_lying 22 = .ok (.iconst (-1), 1) := by decide +kernel
theorem dX12_lying_23 : decode cX12_lying 23 = .ok (.ireturn, 1) := by decide +kernel
theorem dX12_majority_0 : decode cX12_majority 0 = .ok (.aload_n 0, 1) := by decide +kernel
theorem dX12_majority_1 : decode cX12_majority 1 = .ok (.getfield 16, 3) := by decide +kernel
theorem dX12_majority_4 : decode cX12_majority 4 = .ok (.iconst 5, 1) := by decide +kernel
theorem dX12_majority_5 : decode cX12_majority 5 = .ok (.iload_n 1, 1) := by decide +kernel
theorem dX12_majority_6 : decode cX12_majority 6 = .ok (.iload_n 2, 1) := by decide +kernel
theorem dX12_majority_7 : decode cX12_majority 7 = .ok (.iconst 0, 1) := by decide +kernel
theorem dX12_majority_8 : decode cX12_majority 8 = .ok (.iconst 0, 1) := by decide +kernel
theorem dX12_majority_9 : decode cX12_majority 9 = .ok (.invokevirtual 40, 3) := by decide +kernel
theorem dX12_majority_12 : decode cX12_majority 12 = .ok (.ireturn, 1) := by decide +kernel
theorem dX12_move_0 : decode cX12_move 0 = .ok (.aload_n 0, 1) := by decide +kernel
theorem dX12_move_1 : decode cX12_move 1 = .ok (.getfield 16, 3) := by decide +kernel
theorem dX12_move_4 : decode cX12_move 4 = .ok (.bipush 15, 2) := by decide +kernel
theorem dX12_move_6 : decode cX12_move 6 = .ok (.iload_n 1, 1) := by decide +kernel
theorem dX12_move_7 : decode cX12_move 7 = .ok (.iconst 0, 1) := by decide +kernel
theorem dX12_move_8 : decode cX12_move 8 = .ok (.iconst 0, 1) := by decide +kernel
theorem dX12_move_9 : decode cX12_move 9 = .ok (.iconst 0, 1) := by decide +kernel
theorem dX12_move_10 : decode cX12_move 10 = .ok (.invokevirtual 40, 3) := by decide +kernel
theorem dX12_move_13 : decode cX12_move 13 = .ok (.ireturn, 1) := by decide +kernel
theorem dX12_numbers_0 : decode cX12_numbers 0 = .ok (.iload_n 0, 1) := by decide +kernel
theorem dX12_numbers_1 : decode cX12_numbers 1 = .ok (.tableswitch 93 5 22 #[89, 93, 93, 87, 93, 93, 89, 91, 93, 93, 93, 93, 89, 93, 87, 93, 87, 87], 87) := by decide +kernel
theorem dX12_numbers_90 : decode cX12_numbers 90 = .ok (.iconst 2, 1) := by decide +kernel
theorem dX12_numbers_91 : decode cX12_numbers 91 = .ok (.ireturn, 1) := by decide +kernel
theorem dX12_numbers_94 : decode cX12_numbers 94 = .ok (.iload_n 0, 1) := by decide +kernel
theorem dX12_numbers_95 : decode cX12_numbers 95 = .ok (.iconst 1, 1) := by decide +kernel
theorem dX12_numbers_96 : decode cX12_numbers 96 = .ok (.bipush 22, 2) := by decide +kernel
theorem dX12_numbers_98 : decode cX12_numbers 98 = .ok (.invokestatic 1, 3) := by decide +kernel
theorem dX12_numbers_101 : decode cX12_numbers 101 = .ok (.ifCond .eq 7, 3) := by decide +kernel
theorem dX12_numbers_104 : decode cX12_numbers 104 = .ok (.iconst 1, 1) := by decide +kernel
theorem dX12_numbers_105 : decode cX12_numbers 105 = .ok (.goto 4, 3) := by decide +kernel
theorem dX12_numbers_109 : decode cX12_numbers 109 = .ok (.ireturn, 1) := by decide +kernel
theorem dX12_order_0 : decode cX12_order 0 = .ok (.aload_n 0, 1) := by decide +kernel
theorem dX12_order_1 : decode cX12_order 1 = .ok (.getfield 16, 3) := by decide +kernel
theorem dX12_order_4 : decode cX12_order 4 = .ok (.iload_n 1, 1) := by decide +kernel
theorem dX12_order_5 : decode cX12_order 5 = .ok (.invokevirtual 44, 3) := by decide +kernel
theorem dX12_order_8 : decode cX12_order 8 = .ok (.istore_n 2, 1) := by decide +kernel
theorem dX12_order_9 : decode cX12_order 9 = .ok (.aload_n 0, 1) := by decide +kernel
theorem dX12_order_10 : decode cX12_order 10 = .ok (.getfield 16, 3) := by decide +kernel
theorem dX12_order_13 : decode cX12_order 13 = .ok (.iload_n 2, 1) := by decide +kernel
theorem dX12_order_14 : decode cX12_order 14 = .ok (.ifCond .ne 21, 3) := by decide +kernel
theorem dX12_order_35 : decode cX12_order 35 = .ok (.iload_n 2, 1) := by decide +kernel
theorem dX12_order_36 : decode cX12_order 36 = .ok (.putfield 52, 3) := by decide +kernel
theorem dX12_order_39 : decode cX12_order 39 = .ok (.aload_n 0, 1) := by decide +kernel
theorem dX12_order_40 : decode cX12_order 40 = .ok (.getfield 16, 3) := by decide +kernel
theorem dX12_order_43 : decode cX12_order 43 = .ok (.getfield 52, 3) := by decide +kernel
theorem dX12_order_46 : decode cX12_order 46 = .ok (.ifCond .ne 7, 3) := by decide +kernel
theorem dX12_order_53 : decode cX12_order 53 = .ok (.iconst 0, 1) := by decide +kernel
theorem dX12_order_54 : decode cX12_order 54 = .ok (.ireturn, 1) := by decide +kernel
theorem dX12_pending_0 : decode cX12_pending 0 = .ok (.iload_n 1, 1) := by decide +kernel
theorem dX12_pending_1 : decode cX12_pending 1 = .ok (.iconst 0, 1) := by decide +kernel
theorem dX12_pending_2 : decode cX12_pending 2 = .ok (.aload_n 0, 1) := by decide +kernel
theorem dX12_pending_3 : decode cX12_pending 3 = .ok (.getfield 16, 3) := by decide +kernel
theorem dX12_pending_6 : decode cX12_pending 6 = .ok (.getfield 55, 3) := by decide +kernel
theorem dX12_pending_9 : decode cX12_pending 9 = .ok (.iconst 1, 1) := by decide +kernel
theorem dX12_pending_10 : decode cX12_pending 10 = .ok (.isub, 1) := by decide +kernel
theorem dX12_pending_11 : decode cX12_pending 11 = .ok (.invokestatic 1, 3) := by decide +kernel
theorem dX12_pending_14 : decode cX12_pending 14 = .ok (.ifCond .ne 5, 3) := by decide +kernel
theorem dX12_pending_17 : decode cX12_pending 17 = .ok (.iconst (-1), 1) := by decide +kernel
theorem dX12_pending_18 : decode cX12_pending 18 = .ok (.ireturn, 1) := by decide +kernel
theorem dX12_quorum_0 : decode cX12_quorum 0 = .ok (.aload_n 0, 1) := by decide +kernel
theorem dX12_quorum_1 : decode cX12_quorum 1 = .ok (.getfield 16, 3) := by decide +kernel
theorem dX12_quorum_4 : decode cX12_quorum 4 = .ok (.iconst 3, 1) := by decide +kernel
theorem dX12_quorum_5 : decode cX12_quorum 5 = .ok (.iload_n 1, 1) := by decide +kernel
theorem dX12_quorum_6 : decode cX12_quorum 6 = .ok (.iconst 0, 1) := by decide +kernel
theorem dX12_quorum_7 : decode cX12_quorum 7 = .ok (.iconst 0, 1) := by decide +kernel
theorem dX12_quorum_8 : decode cX12_quorum 8 = .ok (.iconst 0, 1) := by decide +kernel
theorem dX12_quorum_9 : decode cX12_quorum 9 = .ok (.invokevirtual 40, 3) := by decide +kernel
theorem dX12_quorum_12 : decode cX12_quorum 12 = .ok (.ireturn, 1) := by decide +kernel
theorem dX12_result_0 : decode cX12_result 0 = .ok (.iload_n 1, 1) := by decide +kernel
theorem dX12_result_1 : decode cX12_result 1 = .ok (.iconst 0, 1) := by decide +kernel
theorem dX12_result_2 : decode cX12_result 2 = .ok (.aload_n 0, 1) := by decide +kernel
theorem dX12_result_3 : decode cX12_result 3 = .ok (.getfield 16, 3) := by decide +kernel
theorem dX12_result_6 : decode cX12_result 6 = .ok (.getfield 124, 3) := by decide +kernel
theorem dX12_result_9 : decode cX12_result 9 = .ok (.iconst 1, 1) := by decide +kernel
theorem dX12_result_10 : decode cX12_result 10 = .ok (.isub, 1) := by decide +kernel
theorem dX12_result_11 : decode cX12_result 11 = .ok (.invokestatic 1, 3) := by decide +kernel
theorem dX12_result_14 : decode cX12_result 14 = .ok (.ifCond .eq 28, 3) := by decide +kernel
theorem dX12_result_42 : decode cX12_result 42 = .ok (.iconst (-1), 1) := by decide +kernel
theorem dX12_result_43 : decode cX12_result 43 = .ok (.ireturn, 1) := by decide +kernel
theorem dX12_rule_0 : decode cX12_rule 0 = .ok (.aload_n 0, 1) := by decide +kernel
theorem dX12_rule_1 : decode cX12_rule 1 = .ok (.getfield 16, 3) := by decide +kernel
theorem dX12_rule_4 : decode cX12_rule 4 = .ok (.bipush 19, 2) := by decide +kernel
theorem dX12_rule_6 : decode cX12_rule 6 = .ok (.iconst 0, 1) := by decide +kernel
theorem dX12_rule_7 : decode cX12_rule 7 = .ok (.iconst 0, 1) := by decide +kernel
theorem dX12_rule_8 : decode cX12_rule 8 = .ok (.iconst 0, 1) := by decide +kernel
theorem dX12_rule_9 : decode cX12_rule 9 = .ok (.iconst 0, 1) := by decide +kernel
theorem dX12_rule_10 : decode cX12_rule 10 = .ok (.invokevirtual 40, 3) := by decide +kernel
theorem dX12_rule_13 : decode cX12_rule 13 = .ok (.ireturn, 1) := by decide +kernel
theorem dX12_seat_0 : decode cX12_seat 0 = .ok (.iload_n 1, 1) := by decide +kernel
theorem dX12_seat_1 : decode cX12_seat 1 = .ok (.iconst 0, 1) := by decide +kernel
theorem dX12_seat_2 : decode cX12_seat 2 = .ok (.aload_n 0, 1) := by decide +kernel
theorem dX12_seat_3 : decode cX12_seat 3 = .ok (.getfield 16, 3) := by decide +kernel
theorem dX12_seat_6 : decode cX12_seat 6 = .ok (.getfield 96, 3) := by decide +kernel
theorem dX12_seat_9 : decode cX12_seat 9 = .ok (.iconst 1, 1) := by decide +kernel
theorem dX12_seat_10 : decode cX12_seat 10 = .ok (.isub, 1) := by decide +kernel
theorem dX12_seat_11 : decode cX12_seat 11 = .ok (.invokestatic 1, 3) := by decide +kernel
theorem dX12_seat_14 : decode cX12_seat 14 = .ok (.ifCond .ne 7, 3) := by decide +kernel
theorem dX12_seat_17 : decode cX12_seat 17 = .ok (.iconst (-1), 1) := by decide +kernel
theorem dX12_seat_18 : decode cX12_seat 18 = .ok (.goto 20, 3) := by decide +kernel
theorem dX12_seat_21 : decode cX12_seat 21 = .ok (.aload_n 0, 1) := by decide +kernel
theorem dX12_seat_22 : decode cX12_seat 22 = .ok (.getfield 16, 3) := by decide +kernel
theorem dX12_seat_25 : decode cX12_seat 25 = .ok (.getfield 164, 3) := by decide +kernel
theorem dX12_seat_28 : decode cX12_seat 28 = .ok (.iload_n 1, 1) := by decide +kernel
theorem dX12_seat_29 : decode cX12_seat 29 = .ok (.baload, 1) := by decide +kernel
theorem dX12_seat_30 : decode cX12_seat 30 = .ok (.ifCond .eq 7, 3) := by decide +kernel
theorem dX12_seat_37 : decode cX12_seat 37 = .ok (.iconst 0, 1) := by decide +kernel
theorem dX12_seat_38 : decode cX12_seat 38 = .ok (.ireturn, 1) := by decide +kernel
theorem dX12_seats_0 : decode cX12_seats 0 = .ok (.iload_n 1, 1) := by decide +kernel
theorem dX12_seats_1 : decode cX12_seats 1 = .ok (.iconst 1, 1) := by decide +kernel
theorem dX12_seats_2 : decode cX12_seats 2 = .ok (.sipush 200, 3) := by decide +kernel
theorem dX12_seats_5 : decode cX12_seats 5 = .ok (.invokestatic 1, 3) := by decide +kernel
theorem dX12_seats_8 : decode cX12_seats 8 = .ok (.ifCond .ne 6, 3) := by decide +kernel
theorem dX12_seats_11 : decode cX12_seats 11 = .ok (.bipush (-9), 2) := by decide +kernel
theorem dX12_seats_13 : decode cX12_seats 13 = .ok (.ireturn, 1) := by decide +kernel
theorem dX12_seats_14 : decode cX12_seats 14 = .ok (.aload_n 0, 1) := by decide +kernel
theorem dX12_seats_15 : decode cX12_seats 15 = .ok (.getfield 16, 3) := by decide +kernel
theorem dX12_seats_18 : decode cX12_seats 18 = .ok (.iload_n 1, 1) := by decide +kernel
theorem dX12_seats_19 : decode cX12_seats 19 = .ok (.invokevirtual 36, 3) := by decide +kernel
theorem dX12_seats_22 : decode cX12_seats 22 = .ok (.iload_n 1, 1) := by decide +kernel
theorem dX12_seats_23 : decode cX12_seats 23 = .ok (.ireturn, 1) := by decide +kernel
theorem dX12_second_0 : decode cX12_second 0 = .ok (.aload_n 0, 1) := by decide +kernel
theorem dX12_second_1 : decode cX12_second 1 = .ok (.getfield 16, 3) := by decide +kernel
theorem dX12_second_4 : decode cX12_second 4 = .ok (.bipush 16, 2) := by decide +kernel
theorem dX12_second_6 : decode cX12_second 6 = .ok (.iload_n 1, 1) := by decide +kernel
theorem dX12_second_7 : decode cX12_second 7 = .ok (.iconst 0, 1) := by decide +kernel
theorem dX12_second_8 : decode cX12_second 8 = .ok (.iconst 0, 1) := by decide +kernel
theorem dX12_second_9 : decode cX12_second 9 = .ok (.iconst 0, 1) := by decide +kernel
theorem dX12_second_10 : decode cX12_second 10 = .ok (.invokevirtual 40, 3) := by decide +kernel
theorem dX12_second_13 : decode cX12_second 13 = .ok (.ireturn, 1) := by decide +kernel
theorem dX12_span_0 : decode cX12_span 0 = .ok (.aload_n 0, 1) := by decide +kernel
theorem dX12_span_1 : decode cX12_span 1 = .ok (.getfield 16, 3) := by decide +kernel
theorem dX12_span_4 : decode cX12_span 4 = .ok (.bipush 11, 2) := by decide +kernel
theorem dX12_span_6 : decode cX12_span 6 = .ok (.iload_n 1, 1) := by decide +kernel
theorem dX12_span_7 : decode cX12_span 7 = .ok (.iload_n 2, 1) := by decide +kernel
theorem dX12_span_8 : decode cX12_span 8 = .ok (.iconst 0, 1) := by decide +kernel
theorem dX12_span_9 : decode cX12_span 9 = .ok (.iconst 0, 1) := by decide +kernel
theorem dX12_span_10 : decode cX12_span 10 = .ok (.invokevirtual 40, 3) := by decide +kernel
theorem dX12_span_13 : decode cX12_span 13 = .ok (.ireturn, 1) := by decide +kernel
theorem dX12_strike_0 : decode cX12_strike 0 = .ok (.aload_n 0, 1) := by decide +kernel
theorem dX12_strike_1 : decode cX12_strike 1 = .ok (.getfield 161, 3) := by decide +kernel
theorem dX12_strike_4 : decode cX12_strike 4 = .ok (.istore_n 1, 1) := by decide +kernel
theorem dX12_strike_5 : decode cX12_strike 5 = .ok (.aload_n 0, 1) := by decide +kernel
theorem dX12_strike_6 : decode cX12_strike 6 = .ok (.iconst 0, 1) := by decide +kernel
theorem dX12_strike_7 : decode cX12_strike 7 = .ok (.putfield 161, 3) := by decide +kernel
theorem dX12_strike_10 : decode cX12_strike 10 = .ok (.iload_n 1, 1) := by decide +kernel
theorem dX12_strike_11 : decode cX12_strike 11 = .ok (.ireturn, 1) := by decide +kernel
theorem dX12_take_0 : decode cX12_take 0 = .ok (.aload_n 0, 1) := by decide +kernel
theorem dX12_take_1 : decode cX12_take 1 = .ok (.getfield 16, 3) := by decide +kernel
theorem dX12_take_4 : decode cX12_take 4 = .ok (.bipush 14, 2) := by decide +kernel
theorem dX12_take_6 : decode cX12_take 6 = .ok (.iload_n 1, 1) := by decide +kernel
theorem dX12_take_7 : decode cX12_take 7 = .ok (.iconst 0, 1) := by decide +kernel
theorem dX12_take_8 : decode cX12_take 8 = .ok (.iconst 0, 1) := by decide +kernel
theorem dX12_take_9 : decode cX12_take 9 = .ok (.iconst 0, 1) := by decide +kernel
theorem dX12_take_10 : decode cX12_take 10 = .ok (.invokevirtual 40, 3) := by decide +kernel
theorem dX12_take_13 : decode cX12_take 13 = .ok (.ireturn, 1) := by decide +kernel
theorem dX12_tell_0 : decode cX12_tell 0 = .ok (.aload_n 0, 1) := by decide +kernel
theorem dX12_tell_1 : decode cX12_tell 1 = .ok (.getfield 161, 3) := by decide +kernel
theorem dX12_tell_4 : decode cX12_tell 4 = .ok (.sipush 600, 3) := by decide +kernel
theorem dX12_tell_7 : decode cX12_tell 7 = .ok (.if_icmp .ne 6, 3) := by decide +kernel
theorem dX12_tell_13 : decode cX12_tell 13 = .ok (.bipush 6, 2) := by decide +kernel
theorem dX12_tell_15 : decode cX12_tell 15 = .ok (.aload_n 0, 1) := by decide +kernel
theorem dX12_tell_16 : decode cX12_tell 16 = .ok (.getfield 161, 3) := by decide +kernel
theorem dX12_tell_19 : decode cX12_tell 19 = .ok (.imul, 1) := by decide +kernel
theorem dX12_tell_20 : decode cX12_tell 20 = .ok (.istore 7, 2) := by decide +kernel
theorem dX12_tell_22 : decode cX12_tell 22 = .ok (.aload_n 0, 1) := by decide +kernel
theorem dX12_tell_23 : decode cX12_tell 23 = .ok (.getfield 33, 3) := by decide +kernel
theorem dX12_tell_26 : decode cX12_tell 26 = .ok (.iload 7, 2) := by decide +kernel
theorem dX12_tell_28 : decode cX12_tell 28 = .ok (.iload_n 1, 1) := by decide +kernel
theorem dX12_tell_29 : decode cX12_tell 29 = .ok (.iastore, 1) := by decide +kernel
theorem dX12_tell_30 : decode cX12_tell 30 = .ok (.aload_n 0, 1) := by decide +kernel
theorem dX12_tell_31 : decode cX12_tell 31 = .ok (.getfield 33, 3) := by decide +kernel
theorem dX12_tell_34 : decode cX12_tell 34 = .ok (.iload 7, 2) := by decide +kernel
theorem dX12_tell_36 : decode cX12_tell 36 = .ok (.iconst 1, 1) := by decide +kernel
theorem dX12_tell_37 : decode cX12_tell 37 = .ok (.iadd, 1) := by decide +kernel
theorem dX12_tell_38 : decode cX12_tell 38 = .ok (.iload_n 2, 1) := by decide +kernel
theorem dX12_tell_39 : decode cX12_tell 39 = .ok (.iastore, 1) := by decide +kernel
theorem dX12_tell_40 : decode cX12_tell 40 = .ok (.aload_n 0, 1) := by decide +kernel
theorem dX12_tell_41 : decode cX12_tell 41 = .ok (.getfield 33, 3) := by decide +kernel
theorem dX12_tell_44 : decode cX12_tell 44 = .ok (.iload 7, 2) := by decide +kernel
theorem dX12_tell_46 : decode cX12_tell 46 = .ok (.iconst 2, 1) := by decide +kernel
theorem dX12_tell_47 : decode cX12_tell 47 = .ok (.iadd, 1) := by decide +kernel
theorem dX12_tell_48 : decode cX12_tell 48 = .ok (.iload_n 3, 1) := by decide +kernel
theorem dX12_tell_49 : decode cX12_tell 49 = .ok (.iastore, 1) := by decide +kernel
theorem dX12_tell_50 : decode cX12_tell 50 = .ok (.aload_n 0, 1) := by decide +kernel
theorem dX12_tell_51 : decode cX12_tell 51 = .ok (.getfield 33, 3) := by decide +kernel
theorem dX12_tell_54 : decode cX12_tell 54 = .ok (.iload 7, 2) := by decide +kernel
theorem dX12_tell_56 : decode cX12_tell 56 = .ok (.iconst 3, 1) := by decide +kernel
theorem dX12_tell_57 : decode cX12_tell 57 = .ok (.iadd, 1) := by decide +kernel
theorem dX12_tell_58 : decode cX12_tell 58 = .ok (.iload 4, 2) := by decide +kernel
theorem dX12_tell_60 : decode cX12_tell 60 = .ok (.iastore, 1) := by decide +kernel
theorem dX12_tell_61 : decode cX12_tell 61 = .ok (.aload_n 0, 1) := by decide +kernel
theorem dX12_tell_62 : decode cX12_tell 62 = .ok (.getfield 33, 3) := by decide +kernel
theorem dX12_tell_65 : decode cX12_tell 65 = .ok (.iload 7, 2) := by decide +kernel
theorem dX12_tell_67 : decode cX12_tell 67 = .ok (.iconst 4, 1) := by decide +kernel
theorem dX12_tell_68 : decode cX12_tell 68 = .ok (.iadd, 1) := by decide +kernel
theorem dX12_tell_69 : decode cX12_tell 69 = .ok (.iload 5, 2) := by decide +kernel
theorem dX12_tell_71 : decode cX12_tell 71 = .ok (.iastore, 1) := by decide +kernel
theorem dX12_tell_72 : decode cX12_tell 72 = .ok (.aload_n 0, 1) := by decide +kernel
theorem dX12_tell_73 : decode cX12_tell 73 = .ok (.getfield 33, 3) := by decide +kernel
theorem dX12_tell_76 : decode cX12_tell 76 = .ok (.iload 7, 2) := by decide +kernel
theorem dX12_tell_78 : decode cX12_tell 78 = .ok (.iconst 5, 1) := by decide +kernel
theorem dX12_tell_79 : decode cX12_tell 79 = .ok (.iadd, 1) := by decide +kernel
theorem dX12_tell_80 : decode cX12_tell 80 = .ok (.iload 6, 2) := by decide +kernel
theorem dX12_tell_82 : decode cX12_tell 82 = .ok (.iastore, 1) := by decide +kernel
theorem dX12_tell_83 : decode cX12_tell 83 = .ok (.aload_n 0, 1) := by decide +kernel
theorem dX12_tell_84 : decode cX12_tell 84 = .ok (.dup, 1) := by decide +kernel
theorem dX12_tell_85 : decode cX12_tell 85 = .ok (.getfield 161, 3) := by decide +kernel
theorem dX12_tell_88 : decode cX12_tell 88 = .ok (.iconst 1, 1) := by decide +kernel
theorem dX12_tell_89 : decode cX12_tell 89 = .ok (.iadd, 1) := by decide +kernel
theorem dX12_tell_90 : decode cX12_tell 90 = .ok (.putfield 161, 3) := by decide +kernel
theorem dX12_tell_93 : decode cX12_tell 93 = .ok (.aload_n 0, 1) := by decide +kernel
theorem dX12_tell_94 : decode cX12_tell 94 = .ok (.getfield 161, 3) := by decide +kernel
theorem dX12_tell_97 : decode cX12_tell 97 = .ok (.ireturn, 1) := by decide +kernel
theorem dX12_text_0 : decode cX12_text 0 = .ok (.aload_n 0, 1) := by decide +kernel
theorem dX12_text_1 : decode cX12_text 1 = .ok (.getfield 16, 3) := by decide +kernel
theorem dX12_text_4 : decode cX12_text 4 = .ok (.iload_n 1, 1) := by decide +kernel
theorem dX12_text_5 : decode cX12_text 5 = .ok (.iload_n 2, 1) := by decide +kernel
theorem dX12_text_6 : decode cX12_text 6 = .ok (.invokevirtual 92, 3) := by decide +kernel
theorem dX12_text_9 : decode cX12_text 9 = .ok (.ireturn, 1) := by decide +kernel
theorem dX12_there_0 : decode cX12_there 0 = .ok (.aload_n 0, 1) := by decide +kernel
theorem dX12_there_1 : decode cX12_there 1 = .ok (.getfield 16, 3) := by decide +kernel
theorem dX12_there_4 : decode cX12_there 4 = .ok (.iconst 1, 1) := by decide +kernel
theorem dX12_there_5 : decode cX12_there 5 = .ok (.iload_n 1, 1) := by decide +kernel
theorem dX12_there_6 : decode cX12_there 6 = .ok (.iconst 0, 1) := by decide +kernel
theorem dX12_there_7 : decode cX12_there 7 = .ok (.iconst 0, 1) := by decide +kernel
theorem dX12_there_8 : decode cX12_there 8 = .ok (.iconst 0, 1) := by decide +kernel
theorem dX12_there_9 : decode cX12_there 9 = .ok (.invokevirtual 40, 3) := by decide +kernel
theorem dX12_there_12 : decode cX12_there 12 = .ok (.ireturn, 1) := by decide +kernel
theorem dX12_told_0 : decode cX12_told 0 = .ok (.aload_n 0, 1) := by decide +kernel
theorem dX12_told_1 : decode cX12_told 1 = .ok (.getfield 16, 3) := by decide +kernel
theorem dX12_told_4 : decode cX12_told 4 = .ok (.bipush 21, 2) := by decide +kernel
theorem dX12_told_6 : decode cX12_told 6 = .ok (.iconst 0, 1) := by decide +kernel
theorem dX12_told_7 : decode cX12_told 7 = .ok (.iconst 0, 1) := by decide +kernel
theorem dX12_told_8 : decode cX12_told 8 = .ok (.iconst 0, 1) := by decide +kernel
theorem dX12_told_9 : decode cX12_told 9 = .ok (.iconst 0, 1) := by decide +kernel
theorem dX12_told_10 : decode cX12_told 10 = .ok (.invokevirtual 40, 3) := by decide +kernel
theorem dX12_told_13 : decode cX12_told 13 = .ok (.ireturn, 1) := by decide +kernel
theorem dX12_vote_0 : decode cX12_vote 0 = .ok (.aload_n 0, 1) := by decide +kernel
theorem dX12_vote_1 : decode cX12_vote 1 = .ok (.getfield 16, 3) := by decide +kernel
theorem dX12_vote_4 : decode cX12_vote 4 = .ok (.bipush 17, 2) := by decide +kernel
theorem dX12_vote_6 : decode cX12_vote 6 = .ok (.iload_n 1, 1) := by decide +kernel
theorem dX12_vote_7 : decode cX12_vote 7 = .ok (.iload_n 2, 1) := by decide +kernel
theorem dX12_vote_8 : decode cX12_vote 8 = .ok (.iconst 0, 1) := by decide +kernel
theorem dX12_vote_9 : decode cX12_vote 9 = .ok (.iconst 0, 1) := by decide +kernel
theorem dX12_vote_10 : decode cX12_vote 10 = .ok (.invokevirtual 40, 3) := by decide +kernel
theorem dX12_vote_13 : decode cX12_vote 13 = .ok (.ireturn, 1) := by decide +kernel
theorem dX12_why_0 : decode cX12_why 0 = .ok (.aload_n 0, 1) := by decide +kernel
theorem dX12_why_1 : decode cX12_why 1 = .ok (.getfield 16, 3) := by decide +kernel
theorem dX12_why_4 : decode cX12_why 4 = .ok (.getfield 52, 3) := by decide +kernel
theorem dX12_why_7 : decode cX12_why 7 = .ok (.ireturn, 1) := by decide +kernel
theorem dX12_withdraw_0 : decode cX12_withdraw 0 = .ok (.aload_n 0, 1) := by decide +kernel
theorem dX12_withdraw_1 : decode cX12_withdraw 1 = .ok (.getfield 16, 3) := by decide +kernel
theorem dX12_withdraw_4 : decode cX12_withdraw 4 = .ok (.bipush 18, 2) := by decide +kernel
theorem dX12_withdraw_6 : decode cX12_withdraw 6 = .ok (.iload_n 1, 1) := by decide +kernel
theorem dX12_withdraw_7 : decode cX12_withdraw 7 = .ok (.iconst 0, 1) := by decide +kernel
theorem dX12_withdraw_8 : decode cX12_withdraw 8 = .ok (.iconst 0, 1) := by decide +kernel
theorem dX12_withdraw_9 : decode cX12_withdraw 9 = .ok (.iconst 0, 1) := by decide +kernel
theorem dX12_withdraw_10 : decode cX12_withdraw 10 = .ok (.invokevirtual 40, 3) := by decide +kernel
theorem dX12_withdraw_13 : decode cX12_withdraw 13 = .ok (.ireturn, 1) := by decide +kernel
theorem dX12_word_0 : decode cX12_word 0 = .ok (.aload_n 0, 1) := by decide +kernel
theorem dX12_word_1 : decode cX12_word 1 = .ok (.getfield 16, 3) := by decide +kernel
theorem dX12_word_4 : decode cX12_word 4 = .ok (.bipush 12, 2) := by decide +kernel
theorem dX12_word_6 : decode cX12_word 6 = .ok (.iload_n 1, 1) := by decide +kernel
theorem dX12_word_7 : decode cX12_word 7 = .ok (.iload_n 2, 1) := by decide +kernel
theorem dX12_word_8 : decode cX12_word 8 = .ok (.iload_n 3, 1) := by decide +kernel
theorem dX12_word_9 : decode cX12_word 9 = .ok (.iload 4, 2) := by decide +kernel
theorem dX12_word_11 : decode cX12_word 11 = .ok (.invokevirtual 40, 3) := by decide +kernel
theorem dX12_word_14 : decode cX12_word 14 = .ok (.ireturn, 1) := by decide +kernel
theorem dX1_begin_0 : decode cX1_begin 0 = .ok (.aload_n 0, 1) := by decide +kernel
theorem dX1_begin_1 : decode cX1_begin 1 = .ok (.aload_n 0, 1) := by decide +kernel
theorem dX1_begin_2 : decode cX1_begin 2 = .ok (.getfield 121, 3) := by decide +kernel
theorem dX1_begin_5 : decode cX1_begin 5 = .ok (.invokevirtual 125, 3) := by decide +kernel
theorem dX1_begin_8 : decode cX1_begin 8 = .ok (.aload_n 0, 1) := by decide +kernel
theorem dX1_begin_9 : decode cX1_begin 9 = .ok (.getfield 121, 3) := by decide +kernel
theorem dX1_begin_12 : decode cX1_begin 12 = .ok (.iconst 2, 1) := by decide +kernel
theorem dX1_begin_13 : decode cX1_begin 13 = .ok (.aload_n 0, 1) := by decide +kernel
theorem dX1_begin_14 : decode cX1_begin 14 = .ok (.iload_n 1, 1) := by decide +kernel
theorem dX1_begin_15 : decode cX1_begin 15 = .ok (.invokevirtual 129, 3) := by decide +kernel
theorem dX1_begin_18 : decode cX1_begin 18 = .ok (.invokevirtual 133, 3) := by decide +kernel
theorem dX1_begin_21 : decode cX1_begin 21 = .ok (.iload_n 1, 1) := by decide +kernel
theorem dX1_begin_22 : decode cX1_begin 22 = .ok (.ireturn, 1) := by decide +kernel
theorem dX1_perform_0 : decode cX1_perform 0 = .ok (.aload_n 0, 1) := by decide +kernel
theorem dX1_perform_1 : decode cX1_perform 1 = .ok (.getfield 9, 3) := by decide +kernel
theorem dX1_perform_4 : decode cX1_perform 4 = .ok (.invokevirtual 15, 3) := by decide +kernel
theorem dX1_perform_7 : decode cX1_perform 7 = .ok (.astore 6, 2) := by decide +kernel
theorem dX1_perform_9 : decode cX1_perform 9 = .ok (.iload_n 1, 1) := by decide +kernel
theorem dX1_perform_10 : decode cX1_perform 10 = .ok (.tableswitch 292 1 22 #[102, 111, 120, 130, 139, 149, 159, 170, 178, 184, 190, 197, 208, 214, 220, 226, 233, 250, 266, 226, 271, 287], 102) := by decide +kernel
theorem dX1_perform_112 : decode cX1_perform 112 = .ok (.aload_n 0, 1) := by decide +kernel
theorem dX1_perform_113 : decode cX1_perform 113 = .ok (.getfield 21, 3) := by decide +kernel
theorem dX1_perform_116 : decode cX1_perform 116 = .ok (.iload_n 2, 1) := by decide +kernel
theorem dX1_perform_117 : decode cX1_perform 117 = .ok (.invokevirtual 25, 3) := by decide +kernel
theorem dX1_perform_120 : decode cX1_perform 120 = .ok (.ireturn, 1) := by decide +kernel
theorem dX1_perform_130 : decode cX1_perform 130 = .ok (.aload_n 0, 1) := by decide +kernel
theorem dX1_perform_131 : decode cX1_perform 131 = .ok (.getfield 21, 3) := by decide +kernel
theorem dX1_perform_134 : decode cX1_perform 134 = .ok (.iload_n 2, 1) := by decide +kernel
theorem dX1_perform_135 : decode cX1_perform 135 = .ok (.putfield 34, 3) := by decide +kernel
theorem dX1_perform_138 : decode cX1_perform 138 = .ok (.iload_n 2, 1) := by decide +kernel
theorem dX1_perform_139 : decode cX1_perform 139 = .ok (.ireturn, 1) := by decide +kernel
theorem dX1_perform_149 : decode cX1_perform 149 = .ok (.aload_n 0, 1) := by decide +kernel
theorem dX1_perform_150 : decode cX1_perform 150 = .ok (.getfield 21, 3) := by decide +kernel
theorem dX1_perform_153 : decode cX1_perform 153 = .ok (.iload_n 2, 1) := by decide +kernel
theorem dX1_perform_154 : decode cX1_perform 154 = .ok (.iload_n 3, 1) := by decide +kernel
theorem dX1_perform_155 : decode cX1_perform 155 = .ok (.invokevirtual 41, 3) := by decide +kernel
theorem dX1_perform_158 : decode cX1_perform 158 = .ok (.ireturn, 1) := by decide +kernel
theorem dX1_perform_159 : decode cX1_perform 159 = .ok (.aload_n 0, 1) := by decide +kernel
theorem dX1_perform_160 : decode cX1_perform 160 = .ok (.getfield 21, 3) := by decide +kernel
theorem dX1_perform_163 : decode cX1_perform 163 = .ok (.iload_n 2, 1) := by decide +kernel
theorem dX1_perform_164 : decode cX1_perform 164 = .ok (.putfield 45, 3) := by decide +kernel
theorem dX1_perform_167 : decode cX1_perform 167 = .ok (.iload_n 2, 1) := by decide +kernel
theorem dX1_perform_168 : decode cX1_perform 168 = .ok (.ireturn, 1) := by decide +kernel
theorem dX1_perform_194 : decode cX1_perform 194 = .ok (.aload_n 0, 1) := by decide +kernel
theorem dX1_perform_195 : decode cX1_perform 195 = .ok (.iload_n 2, 1) := by decide +kernel
theorem dX1_perform_196 : decode cX1_perform 196 = .ok (.invokestatic 62, 3) := by decide +kernel
theorem dX1_perform_199 : decode cX1_perform 199 = .ok (.ireturn, 1) := by decide +kernel
theorem dX2_arrive_0 : decode cX2_arrive 0 = .ok (.aload_n 0, 1) := by decide +kernel
theorem dX2_arrive_1 : decode cX2_arrive 1 = .ok (.iload_n 1, 1) := by decide +kernel
theorem dX2_arrive_2 : decode cX2_arrive 2 = .ok (.invokevirtual 53, 3) := by decide +kernel
theorem dX2_arrive_5 : decode cX2_arrive 5 = .ok (.ifCond .eq 29, 3) := by decide +kernel
theorem dX2_arrive_8 : decode cX2_arrive 8 = .ok (.aload_n 0, 1) := by decide +kernel
theorem dX2_arrive_9 : decode cX2_arrive 9 = .ok (.getfield 9, 3) := by decide +kernel
theorem dX2_arrive_12 : decode cX2_arrive 12 = .ok (.iload_n 1, 1) := by decide +kernel
theorem dX2_arrive_13 : decode cX2_arrive 13 = .ok (.baload, 1) := by decide +kernel
theorem dX2_arrive_14 : decode cX2_arrive 14 = .ok (.ifCond .ne 20, 3) := by decide +kernel
theorem dX2_arrive_17 : decode cX2_arrive 17 = .ok (.aload_n 0, 1) := by decide +kernel
theorem dX2_arrive_18 : decode cX2_arrive 18 = .ok (.getfield 9, 3) := by decide +kernel
theorem dX2_arrive_21 : decode cX2_arrive 21 = .ok (.iload_n 1, 1) := by decide +kernel
theorem dX2_arrive_22 : decode cX2_arrive 22 = .ok (.iconst 1, 1) := by decide +kernel
theorem dX2_arrive_23 : decode cX2_arrive 23 = .ok (.bastore, 1) := by decide +kernel
theorem dX2_arrive_24 : decode cX2_arrive 24 = .ok (.aload_n 0, 1) := by decide +kernel
theorem dX2_arrive_25 : decode cX2_arrive 25 = .ok (.dup, 1) := by decide +kernel
theorem dX2_arrive_26 : decode cX2_arrive 26 = .ok (.getfield 41, 3) := by decide +kernel
theorem dX2_arrive_29 : decode cX2_arrive 29 = .ok (.iconst 1, 1) := by decide +kernel
theorem dX2_arrive_30 : decode cX2_arrive 30 = .ok (.iadd, 1) := by decide +kernel
theorem dX2_arrive_31 : decode cX2_arrive 31 = .ok (.putfield 41, 3) := by decide +kernel
theorem dX2_arrive_34 : decode cX2_arrive 34 = .ok (.aload_n 0, 1) := by decide +kernel
theorem dX2_arrive_35 : decode cX2_arrive 35 = .ok (.getfield 41, 3) := by decide +kernel
theorem dX2_arrive_38 : decode cX2_arrive 38 = .ok (.ireturn, 1) := by decide +kernel
theorem dX2_become_0 : decode cX2_become 0 = .ok (.aload_n 0, 1) := by decide +kernel
theorem dX2_become_1 : decode cX2_become 1 = .ok (.aload_n 1, 1) := by decide +kernel
theorem dX2_become_2 : decode cX2_become 2 = .ok (.getfield 19, 3) := by decide +kernel
theorem dX2_become_5 : decode cX2_become 5 = .ok (.putfield 19, 3) := by decide +kernel
theorem dX2_become_8 : decode cX2_become 8 = .ok (.iconst 0, 1) := by decide +kernel
theorem dX2_become_9 : decode cX2_become 9 = .ok (.istore_n 2, 1) := by decide +kernel
theorem dX2_become_10 : decode cX2_become 10 = .ok (.iload_n 2, 1) := by decide +kernel
theorem dX2_become_11 : decode cX2_become 11 = .ok (.aload_n 0, 1) := by decide +kernel
theorem dX2_become_12 : decode cX2_become 12 = .ok (.getfield 9, 3) := by decide +kernel
theorem dX2_become_15 : decode cX2_become 15 = .ok (.arraylength, 1) := by decide +kernel
theorem dX2_become_16 : decode cX2_become 16 = .ok (.if_icmp .ge 21, 3) := by decide +kernel
theorem dX2_become_19 : decode cX2_become 19 = .ok (.aload_n 0, 1) := by decide +kernel
theorem dX2_become_20 : decode cX2_become 20 = .ok (.getfield 9, 3) := by decide +kernel
theorem dX2_become_23 : decode cX2_become 23 = .ok (.iload_n 2, 1) := by decide +kernel
theorem dX2_become_24 : decode cX2_become 24 = .ok (.aload_n 1, 1) := by decide +kernel
theorem dX2_become_25 : decode cX2_become 25 = .ok (.getfield 9, 3) := by decide +kernel
theorem dX2_become_28 : decode cX2_become 28 = .ok (.iload_n 2, 1) := by decide +kernel
theorem dX2_become_29 : decode cX2_become 29 = .ok (.baload, 1) := by decide +kernel
theorem dX2_become_30 : decode cX2_become 30 = .ok (.bastore, 1) := by decide +kernel
theorem dX2_become_31 : decode cX2_become 31 = .ok (.iinc 2 1, 3) := by decide +kernel
theorem dX2_become_34 : decode cX2_become 34 = .ok (.goto (-24), 3) := by decide +kernel
theorem dX2_become_37 : decode cX2_become 37 = .ok (.aload_n 0, 1) := by decide +kernel
theorem dX2_become_38 : decode cX2_become 38 = .ok (.aload_n 1, 1) := by decide +kernel
theorem dX2_become_39 : decode cX2_become 39 = .ok (.getfield 41, 3) := by decide +kernel
theorem dX2_become_42 : decode cX2_become 42 = .ok (.putfield 41, 3) := by decide +kernel
theorem dX2_become_45 : decode cX2_become 45 = .ok (.aload_n 0, 1) := by decide +kernel
theorem dX2_become_46 : decode cX2_become 46 = .ok (.aload_n 1, 1) := by decide +kernel
theorem dX2_become_47 : decode cX2_become 47 = .ok (.getfield 29, 3) := by decide +kernel
theorem dX2_become_50 : decode cX2_become 50 = .ok (.putfield 29, 3) := by decide +kernel
theorem dX2_become_53 : decode cX2_become 53 = .ok (.aload_n 0, 1) := by decide +kernel
theorem dX2_become_54 : decode cX2_become 54 = .ok (.aload_n 1, 1) := by decide +kernel
theorem dX2_become_55 : decode cX2_become 55 = .ok (.getfield 23, 3) := by decide +kernel
theorem dX2_become_58 : decode cX2_become 58 = .ok (.putfield 23, 3) := by decide +kernel
theorem dX2_become_61 : decode cX2_become 61 = .ok (.aload_n 0, 1) := by decide +kernel
theorem dX2_become_62 : decode cX2_become 62 = .ok (.aload_n 1, 1) := by decide +kernel
theorem dX2_become_63 : decode cX2_become 63 = .ok (.getfield 26, 3) := by decide +kernel
theorem dX2_become_66 : decode cX2_become 66 = .ok (.putfield 26, 3) := by decide +kernel
theorem dX2_become_69 : decode cX2_become 69 = .ok (.aload_n 0, 1) := by decide +kernel
theorem dX2_become_70 : decode cX2_become 70 = .ok (.aload_n 1, 1) := by decide +kernel
theorem dX2_become_71 : decode cX2_become 71 = .ok (.getfield 44, 3) := by decide +kernel
theorem dX2_become_74 : decode cX2_become 74 = .ok (.putfield 44, 3) := by decide +kernel
theorem dX2_become_77 : decode cX2_become 77 = .ok (.aload_n 1, 1) := by decide +kernel
theorem dX2_become_78 : decode cX2_become 78 = .ok (.getfield 15, 3) := by decide +kernel
theorem dX2_become_81 : decode cX2_become 81 = .ok (.iconst 0, 1) := by decide +kernel
theorem dX2_become_82 : decode cX2_become 82 = .ok (.aload_n 0, 1) := by decide +kernel
theorem dX2_become_83 : decode cX2_become 83 = .ok (.getfield 15, 3) := by decide +kernel
theorem dX2_become_86 : decode cX2_become 86 = .ok (.iconst 0, 1) := by decide +kernel
theorem dX2_become_87 : decode cX2_become 87 = .ok (.aload_n 0, 1) := by decide +kernel
theorem dX2_become_88 : decode cX2_become 88 = .ok (.getfield 15, 3) := by decide +kernel
theorem dX2_become_91 : decode cX2_become 91 = .ok (.arraylength, 1) := by decide +kernel
theorem dX2_become_92 : decode cX2_become 92 = .ok (.invokestatic 47, 3) := by decide +kernel
theorem dX2_become_95 : decode cX2_become 95 = .ok (.return_, 1) := by decide +kernel
theorem dX2_begin_0 : decode cX2_begin 0 = .ok (.aload_n 0, 1) := by decide +kernel
theorem dX2_begin_1 : decode cX2_begin 1 = .ok (.iload_n 1, 1) := by decide +kernel
theorem dX2_begin_2 : decode cX2_begin 2 = .ok (.putfield 19, 3) := by decide +kernel
theorem dX2_begin_5 : decode cX2_begin 5 = .ok (.aload_n 0, 1) := by decide +kernel
theorem dX2_begin_6 : decode cX2_begin 6 = .ok (.iconst 0, 1) := by decide +kernel
theorem dX2_begin_7 : decode cX2_begin 7 = .ok (.putfield 23, 3) := by decide +kernel
theorem dX2_begin_10 : decode cX2_begin 10 = .ok (.aload_n 0, 1) := by decide +kernel
theorem dX2_begin_11 : decode cX2_begin 11 = .ok (.iconst 0, 1) := by decide +kernel
theorem dX2_begin_12 : decode cX2_begin 12 = .ok (.putfield 26, 3) := by decide +kernel
theorem dX2_begin_15 : decode cX2_begin 15 = .ok (.aload_n 0, 1) := by decide +kernel
theorem dX2_begin_16 : decode cX2_begin 16 = .ok (.iconst (-1), 1) := by decide +kernel
theorem dX2_begin_17 : decode cX2_begin 17 = .ok (.putfield 29, 3) := by decide +kernel
theorem dX2_begin_20 : decode cX2_begin 20 = .ok (.aload_n 0, 1) := by decide +kernel
theorem dX2_begin_21 : decode cX2_begin 21 = .ok (.invokevirtual 32, 3) := by decide +kernel
theorem dX2_begin_24 : decode cX2_begin 24 = .ok (.aload_n 0, 1) := by decide +kernel
theorem dX2_begin_25 : decode cX2_begin 25 = .ok (.getfield 15, 3) := by decide +kernel
theorem dX2_begin_28 : decode cX2_begin 28 = .ok (.iconst 1, 1) := by decide +kernel
theorem dX2_begin_29 : decode cX2_begin 29 = .ok (.invokestatic 35, 3) := by decide +kernel
theorem dX2_begin_32 : decode cX2_begin 32 = .ok (.aload_n 0, 1) := by decide +kernel
theorem dX2_begin_33 : decode cX2_begin 33 = .ok (.getfield 15, 3) := by decide +kernel
theorem dX2_begin_36 : decode cX2_begin 36 = .ok (.bipush 6, 2) := by decide +kernel
theorem dX2_begin_38 : decode cX2_begin 38 = .ok (.iconst 2, 1) := by decide +kernel
theorem dX2_begin_39 : decode cX2_begin 39 = .ok (.iastore, 1) := by decide +kernel
theorem dX2_begin_40 : decode cX2_begin 40 = .ok (.return_, 1) := by decide +kernel
theorem dX2_empty_0 : decode cX2_empty 0 = .ok (.iconst 0, 1) := by decide +kernel
theorem dX2_empty_1 : decode cX2_empty 1 = .ok (.istore_n 1, 1) := by decide +kernel
theorem dX2_empty_2 : decode cX2_empty 2 = .ok (.iload_n 1, 1) := by decide +kernel
theorem dX2_empty_3 : decode cX2_empty 3 = .ok (.aload_n 0, 1) := by decide +kernel
theorem dX2_empty_4 : decode cX2_empty 4 = .ok (.getfield 9, 3) := by decide +kernel
theorem dX2_empty_7 : decode cX2_empty 7 = .ok (.arraylength, 1) := by decide +kernel
theorem dX2_empty_8 : decode cX2_empty 8 = .ok (.if_icmp .ge 16, 3) := by decide +kernel
theorem dX2_empty_11 : decode cX2_empty 11 = .ok (.aload_n 0, 1) := by decide +kernel
theorem dX2_empty_12 : decode cX2_empty 12 = .ok (.getfield 9, 3) := by decide +kernel
theorem dX2_empty_15 : decode cX2_empty 15 = .ok (.iload_n 1, 1) := by decide +kernel
theorem dX2_empty_16 : decode cX2_empty 16 = .ok (.iconst 0, 1) := by decide +kernel
theorem dX2_empty_17 : decode cX2_empty 17 = .ok (.bastore, 1) := by decide +kernel
theorem dX2_empty_18 : decode cX2_empty 18 = .ok (.iinc 1 1, 3) := by decide +kernel
theorem dX2_empty_21 : decode cX2_empty 21 = .ok (.goto (-19), 3) := by decide +kernel
theorem dX2_empty_24 : decode cX2_empty 24 = .ok (.aload_n 0, 1) := by decide +kernel
theorem dX2_empty_25 : decode cX2_empty 25 = .ok (.iconst 0, 1) := by decide +kernel
theorem dX2_empty_26 : decode cX2_empty 26 = .ok (.putfield 41, 3) := by decide +kernel
theorem dX2_empty_29 : decode cX2_empty 29 = .ok (.aload_n 0, 1) := by decide +kernel
theorem dX2_empty_30 : decode cX2_empty 30 = .ok (.iconst (-1), 1) := by decide +kernel
theorem dX2_empty_31 : decode cX2_empty 31 = .ok (.putfield 44, 3) := by decide +kernel
theorem dX2_empty_34 : decode cX2_empty 34 = .ok (.return_, 1) := by decide +kernel
theorem dX2_has_0 : decode cX2_has 0 = .ok (.iload_n 1, 1) := by decide +kernel
theorem dX2_has_1 : decode cX2_has 1 = .ok (.ifCond .lt 24, 3) := by decide +kernel
theorem dX2_has_4 : decode cX2_has 4 = .ok (.iload_n 1, 1) := by decide +kernel
theorem dX2_has_5 : decode cX2_has 5 = .ok (.aload_n 0, 1) := by decide +kernel
theorem dX2_has_6 : decode cX2_has 6 = .ok (.getfield 19, 3) := by decide +kernel
theorem dX2_has_9 : decode cX2_has 9 = .ok (.if_icmp .ge 16, 3) := by decide +kernel
theorem dX2_has_12 : decode cX2_has 12 = .ok (.iload_n 1, 1) := by decide +kernel
theorem dX2_has_13 : decode cX2_has 13 = .ok (.aload_n 0, 1) := by decide +kernel
theorem dX2_has_14 : decode cX2_has 14 = .ok (.getfield 9, 3) := by decide +kernel
theorem dX2_has_17 : decode cX2_has 17 = .ok (.arraylength, 1) := by decide +kernel
theorem dX2_has_18 : decode cX2_has 18 = .ok (.if_icmp .ge 7, 3) := by decide +kernel
theorem dX2_has_21 : decode cX2_has 21 = .ok (.iconst 1, 1) := by decide +kernel
theorem dX2_has_22 : decode cX2_has 22 = .ok (.goto 4, 3) := by decide +kernel
theorem dX2_has_25 : decode cX2_has 25 = .ok (.iconst 0, 1) := by decide +kernel
theorem dX2_has_26 : decode cX2_has 26 = .ok (.ireturn, 1) := by decide +kernel
theorem dX2_init_0 : decode cX2_init 0 = .ok (.aload_n 0, 1) := by decide +kernel
theorem dX2_init_1 : decode cX2_init 1 = .ok (.invokespecial 3, 3) := by decide +kernel
theorem dX2_init_4 : decode cX2_init 4 = .ok (.aload_n 0, 1) := by decide +kernel
theorem dX2_init_5 : decode cX2_init 5 = .ok (.sipush 200, 3) := by decide +kernel
theorem dX2_init_8 : decode cX2_init 8 = .ok (.newarray .boolean, 2) := by decide +kernel
theorem dX2_init_10 : decode cX2_init 10 = .ok (.putfield 9, 3) := by decide +kernel
theorem dX2_init_13 : decode cX2_init 13 = .ok (.aload_n 0, 1) := by decide +kernel
theorem dX2_init_14 : decode cX2_init 14 = .ok (.bipush 9, 2) := by decide +kernel
theorem dX2_init_16 : decode cX2_init 16 = .ok (.newarray .int, 2) := by decide +kernel
theorem dX2_init_18 : decode cX2_init 18 = .ok (.putfield 15, 3) := by decide +kernel
theorem dX2_init_21 : decode cX2_init 21 = .ok (.return_, 1) := by decide +kernel
theorem dX2_isThere_0 : decode cX2_isThere 0 = .ok (.iload_n 1, 1) := by decide +kernel
theorem dX2_isThere_1 : decode cX2_isThere 1 = .ok (.ifCond .lt 33, 3) := by decide +kernel
theorem dX2_isThere_4 : decode cX2_isThere 4 = .ok (.iload_n 1, 1) := by decide +kernel
theorem dX2_isThere_5 : decode cX2_isThere 5 = .ok (.aload_n 0, 1) := by decide +kernel
theorem dX2_isThere_6 : decode cX2_isThere 6 = .ok (.getfield 19, 3) := by decide +kernel
theorem dX2_isThere_9 : decode cX2_isThere 9 = .ok (.if_icmp .ge 25, 3) := by decide +kernel
theorem dX2_isThere_12 : decode cX2_isThere 12 = .ok (.iload_n 1, 1) := by decide +kernel
theorem dX2_isThere_13 : decode cX2_isThere 13 = .ok (.aload_n 0, 1) := by decide +kernel
theorem dX2_isThere_14 : decode cX2_isThere 14 = .ok (.getfield 9, 3) := by decide +kernel
theorem dX2_isThere_17 : decode cX2_isThere 17 = .ok (.arraylength, 1) := by decide +kernel
theorem dX2_isThere_18 : decode cX2_isThere 18 = .ok (.if_icmp .ge 16, 3) := by decide +kernel
theorem dX2_isThere_21 : decode cX2_isThere 21 = .ok (.aload_n 0, 1) := by decide +kernel
theorem dX2_isThere_22 : decode cX2_isThere 22 = .ok (.getfield 9, 3) := by decide +kernel
theorem dX2_isThere_25 : decode cX2_isThere 25 = .ok (.iload_n 1, 1) := by decide +kernel
theorem dX2_isThere_26 : decode cX2_isThere 26 = .ok (.baload, 1) := by decide +kernel
theorem dX2_isThere_27 : decode cX2_isThere 27 = .ok (.ifCond .eq 7, 3) := by decide +kernel
theorem dX2_isThere_34 : decode cX2_isThere 34 = .ok (.iconst 0, 1) := by decide +kernel
theorem dX2_isThere_35 : decode cX2_isThere 35 = .ok (.ireturn, 1) := by decide +kernel
theorem dX2_replaceMajority_0 : decode cX2_replaceMajority 0 = .ok (.iload_n 1, 1) := by decide +kernel
theorem dX2_replaceMajority_1 : decode cX2_replaceMajority 1 = .ok (.iconst 1, 1) := by decide +kernel
theorem dX2_replaceMajority_2 : decode cX2_replaceMajority 2 = .ok (.if_icmp .lt 12, 3) := by decide +kernel
theorem dX2_replaceMajority_5 : decode cX2_replaceMajority 5 = .ok (.iload_n 1, 1) := by decide +kernel
theorem dX2_replaceMajority_6 : decode cX2_replaceMajority 6 = .ok (.aload_n 0, 1) := by decide +kernel
theorem dX2_replaceMajority_7 : decode cX2_replaceMajority 7 = .ok (.getfield 15, 3) := by decide +kernel
theorem dX2_replaceMajority_10 : decode cX2_replaceMajority 10 = .ok (.arraylength, 1) := by decide +kernel
theorem dX2_replaceMajority_11 : decode cX2_replaceMajority 11 = .ok (.if_icmp .lt 5, 3) := by decide +kernel
theorem dX2_replaceMajority_16 : decode cX2_replaceMajority 16 = .ok (.aload_n 0, 1) := by decide +kernel
theorem dX2_replaceMajority_17 : decode cX2_replaceMajority 17 = .ok (.getfield 15, 3) := by decide +kernel
theorem dX2_replaceMajority_20 : decode cX2_replaceMajority 20 = .ok (.iload_n 1, 1) := by decide +kernel
theorem dX2_replaceMajority_21 : decode cX2_replaceMajority 21 = .ok (.iaload, 1) := by decide +kernel
theorem dX2_replaceMajority_22 : decode cX2_replaceMajority 22 = .ok (.istore_n 3, 1) := by decide +kernel
theorem dX2_replaceMajority_23 : decode cX2_replaceMajority 23 = .ok (.aload_n 0, 1) := by decide +kernel
theorem dX2_replaceMajority_24 : decode cX2_replaceMajority 24 = .ok (.getfield 15, 3) := by decide +kernel
theorem dX2_replaceMajority_27 : decode cX2_replaceMajority 27 = .ok (.iload_n 1, 1) := by decide +kernel
theorem dX2_replaceMajority_28 : decode cX2_replaceMajority 28 = .ok (.iload_n 2, 1) := by decide +kernel
theorem dX2_replaceMajority_29 : decode cX2_replaceMajority 29 = .ok (.iastore, 1) := by decide +kernel
theorem dX2_replaceMajority_30 : decode cX2_replaceMajority 30 = .ok (.iload_n 3, 1) := by decide +kernel
theorem dX2_replaceMajority_31 : decode cX2_replaceMajority 31 = .ok (.ireturn, 1) := by decide +kernel
theorem dX3_at_0 : decode cX3_at 0 = .ok (.iload_n 1, 1) := by decide +kernel
theorem dX3_at_1 : decode cX3_at 1 = .ok (.ifCond .lt 23, 3) := by decide +kernel
theorem dX3_at_4 : decode cX3_at 4 = .ok (.iload_n 1, 1) := by decide +kernel
theorem dX3_at_5 : decode cX3_at 5 = .ok (.aload_n 0, 1) := by decide +kernel
theorem dX3_at_6 : decode cX3_at 6 = .ok (.getfield 28, 3) := by decide +kernel
theorem dX3_at_9 : decode cX3_at 9 = .ok (.if_icmp .ge 15, 3) := by decide +kernel
theorem dX3_at_24 : decode cX3_at 24 = .ok (.iconst (-1), 1) := by decide +kernel
theorem dX3_at_25 : decode cX3_at 25 = .ok (.ireturn, 1) := by decide +kernel
theorem dX3_become_0 : decode cX3_become 0 = .ok (.aload_n 1, 1) := by decide +kernel
theorem dX3_become_1 : decode cX3_become 1 = .ok (.getfield 28, 3) := by decide +kernel
theorem dX3_become_4 : decode cX3_become 4 = .ok (.aload_n 0, 1) := by decide +kernel
theorem dX3_become_5 : decode cX3_become 5 = .ok (.getfield 21, 3) := by decide +kernel
theorem dX3_become_8 : decode cX3_become 8 = .ok (.invokestatic 39, 3) := by decide +kernel
theorem dX3_become_11 : decode cX3_become 11 = .ok (.istore_n 2, 1) := by decide +kernel
theorem dX3_become_12 : decode cX3_become 12 = .ok (.aload_n 0, 1) := by decide +kernel
theorem dX3_become_13 : decode cX3_become 13 = .ok (.iload_n 2, 1) := by decide +kernel
theorem dX3_become_14 : decode cX3_become 14 = .ok (.invokevirtual 35, 3) := by decide +kernel
theorem dX3_become_17 : decode cX3_become 17 = .ok (.iload_n 2, 1) := by decide +kernel
theorem dX3_become_18 : decode cX3_become 18 = .ok (.aload_n 0, 1) := by decide +kernel
theorem dX3_become_19 : decode cX3_become 19 = .ok (.getfield 15, 3) := by decide +kernel
theorem dX3_become_22 : decode cX3_become 22 = .ok (.imul, 1) := by decide +kernel
theorem dX3_become_23 : decode cX3_become 23 = .ok (.aload_n 0, 1) := by decide +kernel
theorem dX3_become_24 : decode cX3_become 24 = .ok (.getfield 24, 3) := by decide +kernel
theorem dX3_become_27 : decode cX3_become 27 = .ok (.arraylength, 1) := by decide +kernel
theorem dX3_become_28 : decode cX3_become 28 = .ok (.if_icmp .gt 36, 3) := by decide +kernel
theorem dX3_become_31 : decode cX3_become 31 = .ok (.iload_n 2, 1) := by decide +kernel
theorem dX3_become_32 : decode cX3_become 32 = .ok (.aload_n 0, 1) := by decide +kernel
theorem dX3_become_33 : decode cX3_become 33 = .ok (.getfield 15, 3) := by decide +kernel
theorem dX3_become_36 : decode cX3_become 36 = .ok (.imul, 1) := by decide +kernel
theorem dX3_become_37 : decode cX3_become 37 = .ok (.aload_n 1, 1) := by decide +kernel
theorem dX3_become_38 : decode cX3_become 38 = .ok (.getfield 24, 3) := by decide +kernel
theorem dX3_become_41 : decode cX3_become 41 = .ok (.arraylength, 1) := by decide +kernel
theorem dX3_become_42 : decode cX3_become 42 = .ok (.if_icmp .gt 22, 3) := by decide +kernel
theorem dX3_become_45 : decode cX3_become 45 = .ok (.aload_n 1, 1) := by decide +kernel
theorem dX3_become_46 : decode cX3_become 46 = .ok (.getfield 24, 3) := by decide +kernel
theorem dX3_become_49 : decode cX3_become 49 = .ok (.iconst 0, 1) := by decide +kernel
theorem dX3_become_50 : decode cX3_become 50 = .ok (.aload_n 0, 1) := by decide +kernel
theorem dX3_become_51 : decode cX3_become 51 = .ok (.getfield 24, 3) := by decide +kernel
theorem dX3_become_54 : decode cX3_become 54 = .ok (.iconst 0, 1) := by decide +kernel
theorem dX3_become_55 : decode cX3_become 55 = .ok (.iload_n 2, 1) := by decide +kernel
theorem dX3_become_56 : decode cX3_become 56 = .ok (.aload_n 0, 1) := by decide +kernel
theorem dX3_become_57 : decode cX3_become 57 = .ok (.getfield 15, 3) := by decide +kernel
theorem dX3_become_60 : decode cX3_become 60 = .ok (.imul, 1) := by decide +kernel
theorem dX3_become_61 : decode cX3_become 61 = .ok (.invokestatic 42, 3) := by decide +kernel
theorem dX3_become_64 : decode cX3_become 64 = .ok (.aload_n 0, 1) := by decide +kernel
theorem dX3_become_65 : decode cX3_become 65 = .ok (.iload_n 2, 1) := by decide +kernel
theorem dX3_become_66 : decode cX3_become 66 = .ok (.putfield 28, 3) := by decide +kernel
theorem dX3_become_69 : decode cX3_become 69 = .ok (.return_, 1) := by decide +kernel
theorem dX3_init_0 : decode cX3_init 0 = .ok (.aload_n 0, 1) := by decide +kernel
theorem dX3_init_1 : decode cX3_init 1 = .ok (.invokespecial 3, 3) := by decide +kernel
theorem dX3_init_4 : decode cX3_init 4 = .ok (.aload_n 0, 1) := by decide +kernel
theorem dX3_init_5 : decode cX3_init 5 = .ok (.iload_n 1, 1) := by decide +kernel
theorem dX3_init_6 : decode cX3_init 6 = .ok (.iconst 1, 1) := by decide +kernel
theorem dX3_init_7 : decode cX3_init 7 = .ok (.invokestatic 9, 3) := by decide +kernel
theorem dX3_init_10 : decode cX3_init 10 = .ok (.putfield 15, 3) := by decide +kernel
theorem dX3_init_13 : decode cX3_init 13 = .ok (.aload_n 0, 1) := by decide +kernel
theorem dX3_init_14 : decode cX3_init 14 = .ok (.iload_n 2, 1) := by decide +kernel
theorem dX3_init_15 : decode cX3_init 15 = .ok (.bipush 16, 2) := by decide +kernel
theorem dX3_init_17 : decode cX3_init 17 = .ok (.invokestatic 9, 3) := by decide +kernel
theorem dX3_init_20 : decode cX3_init 20 = .ok (.putfield 21, 3) := by decide +kernel
theorem dX3_init_23 : decode cX3_init 23 = .ok (.aload_n 0, 1) := by decide +kernel
theorem dX3_init_24 : decode cX3_init 24 = .ok (.aload_n 0, 1) := by decide +kernel
theorem dX3_init_25 : decode cX3_init 25 = .ok (.getfield 15, 3) := by decide +kernel
theorem dX3_init_28 : decode cX3_init 28 = .ok (.bipush 16, 2) := by decide +kernel
theorem dX3_init_30 : decode cX3_init 30 = .ok (.imul, 1) := by decide +kernel
theorem dX3_init_31 : decode cX3_init 31 = .ok (.newarray .int, 2) := by decide +kernel
theorem dX3_init_33 : decode cX3_init 33 = .ok (.putfield 24, 3) := by decide +kernel
theorem dX3_init_36 : decode cX3_init 36 = .ok (.return_, 1) := by decide +kernel
theorem dX3_isFull_0 : decode cX3_isFull 0 = .ok (.aload_n 0, 1) := by decide +kernel
theorem dX3_isFull_1 : decode cX3_isFull 1 = .ok (.getfield 28, 3) := by decide +kernel
theorem dX3_isFull_4 : decode cX3_isFull 4 = .ok (.aload_n 0, 1) := by decide +kernel
theorem dX3_isFull_5 : decode cX3_isFull 5 = .ok (.getfield 21, 3) := by decide +kernel
theorem dX3_isFull_8 : decode cX3_isFull 8 = .ok (.if_icmp .lt 7, 3) := by decide +kernel
theorem dX3_isFull_15 : decode cX3_isFull 15 = .ok (.iconst 0, 1) := by decide +kernel
theorem dX3_isFull_16 : decode cX3_isFull 16 = .ok (.ireturn, 1) := by decide +kernel
theorem dX3_makeRoom_0 : decode cX3_makeRoom 0 = .ok (.iload_n 1, 1) := by decide +kernel
theorem dX3_makeRoom_1 : decode cX3_makeRoom 1 = .ok (.aload_n 0, 1) := by decide +kernel
theorem dX3_makeRoom_2 : decode cX3_makeRoom 2 = .ok (.getfield 15, 3) := by decide +kernel
theorem dX3_makeRoom_5 : decode cX3_makeRoom 5 = .ok (.imul, 1) := by decide +kernel
theorem dX3_makeRoom_6 : decode cX3_makeRoom 6 = .ok (.istore_n 2, 1) := by decide +kernel
theorem dX3_makeRoom_7 : decode cX3_makeRoom 7 = .ok (.iload_n 2, 1) := by decide +kernel
theorem dX3_makeRoom_8 : decode cX3_makeRoom 8 = .ok (.aload_n 0, 1) := by decide +kernel
theorem dX3_makeRoom_9 : decode cX3_makeRoom 9 = .ok (.getfield 24, 3) := by decide +kernel
theorem dX3_makeRoom_12 : decode cX3_makeRoom 12 = .ok (.arraylength, 1) := by decide +kernel
theorem dX3_makeRoom_13 : decode cX3_makeRoom 13 = .ok (.if_icmp .le 37, 3) := by decide +kernel
theorem dX3_makeRoom_50 : decode cX3_makeRoom 50 = .ok (.return_, 1) := by decide +kernel
theorem dX3_open_0 : decode cX3_open 0 = .ok (.aload_n 0, 1) := by decide +kernel
theorem dX3_open_1 : decode cX3_open 1 = .ok (.invokevirtual 31, 3) := by decide +kernel
theorem dX3_open_4 : decode cX3_open 4 = .ok (.ifCond .ne 21, 3) := by decide +kernel
theorem dX3_open_7 : decode cX3_open 7 = .ok (.aload_n 0, 1) := by decide +kernel
theorem dX3_open_8 : decode cX3_open 8 = .ok (.dup, 1) := by decide +kernel
theorem dX3_open_9 : decode cX3_open 9 = .ok (.getfield 28, 3) := by decide +kernel
theorem dX3_open_12 : decode cX3_open 12 = .ok (.iconst 1, 1) := by decide +kernel
theorem dX3_open_13 : decode cX3_open 13 = .ok (.iadd, 1) := by decide +kernel
theorem dX3_open_14 : decode cX3_open 14 = .ok (.putfield 28, 3) := by decide +kernel
theorem dX3_open_17 : decode cX3_open 17 = .ok (.aload_n 0, 1) := by decide +kernel
theorem dX3_open_18 : decode cX3_open 18 = .ok (.aload_n 0, 1) := by decide +kernel
theorem dX3_open_19 : decode cX3_open 19 = .ok (.getfield 28, 3) := by decide +kernel
theorem dX3_open_22 : decode cX3_open 22 = .ok (.invokevirtual 35, 3) := by decide +kernel
theorem dX3_open_25 : decode cX3_open 25 = .ok (.return_, 1) := by decide +kernel
theorem dX3_write_0 : decode cX3_write 0 = .ok (.aload_n 0, 1) := by decide +kernel
theorem dX3_write_1 : decode cX3_write 1 = .ok (.getfield 28, 3) := by decide +kernel
theorem dX3_write_4 : decode cX3_write 4 = .ok (.iconst 1, 1) := by decide +kernel
theorem dX3_write_5 : decode cX3_write 5 = .ok (.isub, 1) := by decide +kernel
theorem dX3_write_6 : decode cX3_write 6 = .ok (.aload_n 0, 1) := by decide +kernel
theorem dX3_write_7 : decode cX3_write 7 = .ok (.getfield 15, 3) := by decide +kernel
theorem dX3_write_10 : decode cX3_write 10 = .ok (.imul, 1) := by decide +kernel
theorem dX3_write_11 : decode cX3_write 11 = .ok (.iload_n 1, 1) := by decide +kernel
theorem dX3_write_12 : decode cX3_write 12 = .ok (.iadd, 1) := by decide +kernel
theorem dX3_write_13 : decode cX3_write 13 = .ok (.istore_n 3, 1) := by decide +kernel
theorem dX3_write_14 : decode cX3_write 14 = .ok (.iload_n 1, 1) := by decide +kernel
theorem dX3_write_15 : decode cX3_write 15 = .ok (.ifCond .lt 31, 3) := by decide +kernel
theorem dX3_write_18 : decode cX3_write 18 = .ok (.iload_n 1, 1) := by decide +kernel
theorem dX3_write_19 : decode cX3_write 19 = .ok (.aload_n 0, 1) := by decide +kernel
theorem dX3_write_20 : decode cX3_write 20 = .ok (.getfield 15, 3) := by decide +kernel
theorem dX3_write_23 : decode cX3_write 23 = .ok (.if_icmp .ge 23, 3) := by decide +kernel
theorem dX3_write_26 : decode cX3_write 26 = .ok (.iload_n 3, 1) := by decide +kernel
theorem dX3_write_27 : decode cX3_write 27 = .ok (.ifCond .lt 19, 3) := by decide +kernel
theorem dX3_write_30 : decode cX3_write 30 = .ok (.iload_n 3, 1) := by decide +kernel
theorem dX3_write_31 : decode cX3_write 31 = .ok (.aload_n 0, 1) := by decide +kernel
theorem dX3_write_32 : decode cX3_write 32 = .ok (.getfield 24, 3) := by decide +kernel
theorem dX3_write_35 : decode cX3_write 35 = .ok (.arraylength, 1) := by decide +kernel
theorem dX3_write_36 : decode cX3_write 36 = .ok (.if_icmp .ge 10, 3) := by decide +kernel
theorem dX3_write_39 : decode cX3_write 39 = .ok (.aload_n 0, 1) := by decide +kernel
theorem dX3_write_40 : decode cX3_write 40 = .ok (.getfield 24, 3) := by decide +kernel
theorem dX3_write_43 : decode cX3_write 43 = .ok (.iload_n 3, 1) := by decide +kernel
theorem dX3_write_44 : decode cX3_write 44 = .ok (.iload_n 2, 1) := by decide +kernel
theorem dX3_write_45 : decode cX3_write 45 = .ok (.iastore, 1) := by decide +kernel
theorem dX3_write_46 : decode cX3_write 46 = .ok (.return_, 1) := by decide +kernel
theorem dX4_init_0 : decode cX4_init 0 = .ok (.aload_n 0, 1) := by decide +kernel
theorem dX4_init_1 : decode cX4_init 1 = .ok (.invokespecial 3, 3) := by decide +kernel
theorem dX4_init_4 : decode cX4_init 4 = .ok (.aload_n 0, 1) := by decide +kernel
theorem dX4_init_5 : decode cX4_init 5 = .ok (.new 9, 3) := by decide +kernel
theorem dX4_init_8 : decode cX4_init 8 = .ok (.dup, 1) := by decide +kernel
theorem dX4_init_9 : decode cX4_init 9 = .ok (.invokespecial 11, 3) := by decide +kernel
theorem dX4_init_12 : decode cX4_init 12 = .ok (.putfield 12, 3) := by decide +kernel
theorem dX4_init_15 : decode cX4_init 15 = .ok (.aload_n 0, 1) := by decide +kernel
theorem dX4_init_16 : decode cX4_init 16 = .ok (.sipush 200, 3) := by decide +kernel
theorem dX4_init_19 : decode cX4_init 19 = .ok (.newarray .byte, 2) := by decide +kernel
theorem dX4_init_21 : decode cX4_init 21 = .ok (.putfield 18, 3) := by decide +kernel
theorem dX4_init_24 : decode cX4_init 24 = .ok (.return_, 1) := by decide +kernel
theorem dX4_keepTextAs_0 : decode cX4_keepTextAs 0 = .ok (.aload_n 0, 1) := by decide +kernel
theorem dX4_keepTextAs_1 : decode cX4_keepTextAs 1 = .ok (.iconst 0, 1) := by decide +kernel
theorem dX4_keepTextAs_2 : decode cX4_keepTextAs 2 = .ok (.putfield 30, 3) := by decide +kernel
theorem dX4_keepTextAs_5 : decode cX4_keepTextAs 5 = .ok (.aload_n 0, 1) := by decide +kernel
theorem dX4_keepTextAs_6 : decode cX4_keepTextAs 6 = .ok (.iconst 0, 1) := by decide +kernel
theorem dX4_keepTextAs_7 : decode cX4_keepTextAs 7 = .ok (.putfield 33, 3) := by decide +kernel
theorem dX4_keepTextAs_10 : decode cX4_keepTextAs 10 = .ok (.aload_n 0, 1) := by decide +kernel
theorem dX4_keepTextAs_11 : decode cX4_keepTextAs 11 = .ok (.iload_n 1, 1) := by decide +kernel
theorem dX4_keepTextAs_12 : decode cX4_keepTextAs 12 = .ok (.putfield 36, 3) := by decide +kernel
theorem dX4_keepTextAs_15 : decode cX4_keepTextAs 15 = .ok (.aload_n 0, 1) := by decide +kernel
theorem dX4_keepTextAs_16 : decode cX4_keepTextAs 16 = .ok (.iconst (-1), 1) := by decide +kernel
theorem dX4_keepTextAs_17 : decode cX4_keepTextAs 17 = .ok (.putfield 39, 3) := by decide +kernel
theorem dX4_keepTextAs_20 : decode cX4_keepTextAs 20 = .ok (.aload_n 0, 1) := by decide +kernel
theorem dX4_keepTextAs_21 : decode cX4_keepTextAs 21 = .ok (.iconst (-1), 1) := by decide +kernel
theorem dX4_keepTextAs_22 : decode cX4_keepTextAs 22 = .ok (.putfield 42, 3) := by decide +kernel
theorem dX4_keepTextAs_25 : decode cX4_keepTextAs 25 = .ok (.aload_n 0, 1) := by decide +kernel
theorem dX4_keepTextAs_26 : decode cX4_keepTextAs 26 = .ok (.iconst 0, 1) := by decide +kernel
theorem dX4_keepTextAs_27 : decode cX4_keepTextAs 27 = .ok (.putfield 45, 3) := by decide +kernel
theorem dX4_keepTextAs_30 : decode cX4_keepTextAs 30 = .ok (.aload_n 0, 1) := by decide +kernel
theorem dX4_keepTextAs_31 : decode cX4_keepTextAs 31 = .ok (.iconst 0, 1) := by decide +kernel
theorem dX4_keepTextAs_32 : decode cX4_keepTextAs 32 = .ok (.putfield 48, 3) := by decide +kernel
theorem dX4_keepTextAs_35 : decode cX4_keepTextAs 35 = .ok (.aload_n 0, 1) := by decide +kernel
theorem dX4_keepTextAs_36 : decode cX4_keepTextAs 36 = .ok (.iconst 0, 1) := by decide +kernel
theorem dX4_keepTextAs_37 : decode cX4_keepTextAs 37 = .ok (.putfield 51, 3) := by decide +kernel
theorem dX4_keepTextAs_40 : decode cX4_keepTextAs 40 = .ok (.aload_n 0, 1) := by decide +kernel
theorem dX4_keepTextAs_41 : decode cX4_keepTextAs 41 = .ok (.iconst 0, 1) := by decide +kernel
theorem dX4_keepTextAs_42 : decode cX4_keepTextAs 42 = .ok (.putfield 55, 3) := by decide +kernel
theorem dX4_keepTextAs_45 : decode cX4_keepTextAs 45 = .ok (.aload_n 0, 1) := by decide +kernel
theorem dX4_keepTextAs_46 : decode cX4_keepTextAs 46 = .ok (.iconst 0, 1) := by decide +kernel
theorem dX4_keepTextAs_47 : decode cX4_keepTextAs 47 = .ok (.putfield 58, 3) := by decide +kernel
theorem dX4_keepTextAs_50 : decode cX4_keepTextAs 50 = .ok (.aload_n 0, 1) := by decide +kernel
theorem dX4_keepTextAs_51 : decode cX4_keepTextAs 51 = .ok (.iconst 0, 1) := by decide +kernel
theorem dX4_keepTextAs_52 : decode cX4_keepTextAs 52 = .ok (.putfield 61, 3) := by decide +kernel
theorem dX4_keepTextAs_55 : decode cX4_keepTextAs 55 = .ok (.aload_n 0, 1) := by decide +kernel
theorem dX4_keepTextAs_56 : decode cX4_keepTextAs 56 = .ok (.iconst 0, 1) := by decide +kernel
theorem dX4_keepTextAs_57 : decode cX4_keepTextAs 57 = .ok (.putfield 64, 3) := by decide +kernel
theorem dX4_keepTextAs_60 : decode cX4_keepTextAs 60 = .ok (.aload_n 0, 1) := by decide +kernel
theorem dX4_keepTextAs_61 : decode cX4_keepTextAs 61 = .ok (.getfield 67, 3) := by decide +kernel
theorem dX4_keepTextAs_64 : decode cX4_keepTextAs 64 = .ok (.ifCond .le 16, 3) := by decide +kernel
theorem dX4_keepTextAs_80 : decode cX4_keepTextAs 80 = .ok (.return_, 1) := by decide +kernel
theorem dX4_renew_0 : decode cX4_renew 0 = .ok (.aload_n 0, 1) := by decide +kernel
theorem dX4_renew_1 : decode cX4_renew 1 = .ok (.iload_n 1, 1) := by decide +kernel
theorem dX4_renew_2 : decode cX4_renew 2 = .ok (.invokevirtual 22, 3) := by decide +kernel
theorem dX4_renew_5 : decode cX4_renew 5 = .ok (.aload_n 0, 1) := by decide +kernel
theorem dX4_renew_6 : decode cX4_renew 6 = .ok (.getfield 12, 3) := by decide +kernel
theorem dX4_renew_9 : decode cX4_renew 9 = .ok (.iconst 0, 1) := by decide +kernel
theorem dX4_renew_10 : decode cX4_renew 10 = .ok (.putfield 26, 3) := by decide +kernel
theorem dX4_renew_13 : decode cX4_renew 13 = .ok (.return_, 1) := by decide +kernel
theorem dX5_at_0 : decode cX5_at 0 = .ok (.iload_n 1, 1) := by decide +kernel
theorem dX5_at_1 : decode cX5_at 1 = .ok (.ifCond .lt 20, 3) := by decide +kernel
theorem dX5_at_4 : decode cX5_at 4 = .ok (.iload_n 1, 1) := by decide +kernel
theorem dX5_at_5 : decode cX5_at 5 = .ok (.aload_n 0, 1) := by decide +kernel
theorem dX5_at_6 : decode cX5_at 6 = .ok (.getfield 17, 3) := by decide +kernel
theorem dX5_at_9 : decode cX5_at 9 = .ok (.if_icmp .ge 12, 3) := by decide +kernel
theorem dX5_at_21 : decode cX5_at 21 = .ok (.aconst_null, 1) := by decide +kernel
theorem dX5_at_22 : decode cX5_at 22 = .ok (.goto 9, 3) := by decide +kernel
theorem dX5_at_31 : decode cX5_at 31 = .ok (.areturn, 1) := by decide +kernel
theorem dX5_init_0 : decode cX5_init 0 = .ok (.aload_n 0, 1) := by decide +kernel
theorem dX5_init_1 : decode cX5_init 1 = .ok (.invokespecial 3, 3) := by decide +kernel
theorem dX5_init_4 : decode cX5_init 4 = .ok (.aload_n 0, 1) := by decide +kernel
theorem dX5_init_5 : decode cX5_init 5 = .ok (.bipush 9, 2) := by decide +kernel
theorem dX5_init_7 : decode cX5_init 7 = .ok (.anewarray 9, 3) := by decide +kernel
theorem dX5_init_10 : decode cX5_init 10 = .ok (.putfield 11, 3) := by decide +kernel
theorem dX5_init_13 : decode cX5_init 13 = .ok (.return_, 1) := by decide +kernel
theorem dX5_put_0 : decode cX5_put 0 = .ok (.aload_n 1, 1) := by decide +kernel
theorem dX5_put_1 : decode cX5_put 1 = .ok (.ifnull 35, 3) := by decide +kernel
theorem dX5_put_4 : decode cX5_put 4 = .ok (.aload_n 0, 1) := by decide +kernel
theorem dX5_put_5 : decode cX5_put 5 = .ok (.getfield 17, 3) := by decide +kernel
theorem dX5_put_8 : decode cX5_put 8 = .ok (.aload_n 0, 1) := by decide +kernel
theorem dX5_put_9 : decode cX5_put 9 = .ok (.getfield 11, 3) := by decide +kernel
theorem dX5_put_12 : decode cX5_put 12 = .ok (.arraylength, 1) := by decide +kernel
theorem dX5_put_13 : decode cX5_put 13 = .ok (.if_icmp .ge 23, 3) := by decide +kernel
theorem dX5_put_16 : decode cX5_put 16 = .ok (.aload_n 0, 1) := by decide +kernel
theorem dX5_put_17 : decode cX5_put 17 = .ok (.getfield 11, 3) := by decide +kernel
theorem dX5_put_20 : decode cX5_put 20 = .ok (.aload_n 0, 1) := by decide +kernel
theorem dX5_put_21 : decode cX5_put 21 = .ok (.getfield 17, 3) := by decide +kernel
theorem dX5_put_24 : decode cX5_put 24 = .ok (.aload_n 1, 1) := by decide +kernel
theorem dX5_put_25 : decode cX5_put 25 = .ok (.aastore, 1) := by decide +kernel
theorem dX5_put_26 : decode cX5_put 26 = .ok (.aload_n 0, 1) := by decide +kernel
theorem dX5_put_27 : decode cX5_put 27 = .ok (.dup, 1) := by decide +kernel
theorem dX5_put_28 : decode cX5_put 28 = .ok (.getfield 17, 3) := by decide +kernel
theorem dX5_put_31 : decode cX5_put 31 = .ok (.iconst 1, 1) := by decide +kernel
theorem dX5_put_32 : decode cX5_put 32 = .ok (.iadd, 1) := by decide +kernel
theorem dX5_put_33 : decode cX5_put 33 = .ok (.putfield 17, 3) := by decide +kernel
theorem dX5_put_36 : decode cX5_put 36 = .ok (.return_, 1) := by decide +kernel
theorem dX5_top_0 : decode cX5_top 0 = .ok (.aload_n 0, 1) := by decide +kernel
theorem dX5_top_1 : decode cX5_top 1 = .ok (.aload_n 0, 1) := by decide +kernel
theorem dX5_top_2 : decode cX5_top 2 = .ok (.getfield 17, 3) := by decide +kernel
theorem dX5_top_5 : decode cX5_top 5 = .ok (.iconst 1, 1) := by decide +kernel
theorem dX5_top_6 : decode cX5_top 6 = .ok (.isub, 1) := by decide +kernel
theorem dX5_top_7 : decode cX5_top 7 = .ok (.invokevirtual 21, 3) := by decide +kernel
theorem dX5_top_10 : decode cX5_top 10 = .ok (.areturn, 1) := by decide +kernel
theorem dX6_fact_0 : decode cX6_fact 0 = .ok (.aload_n 0, 1) := by decide +kernel
theorem dX6_fact_1 : decode cX6_fact 1 = .ok (.getfield 18, 3) := by decide +kernel
theorem dX6_fact_4 : decode cX6_fact 4 = .ok (.iconst 0, 1) := by decide +kernel
theorem dX6_fact_5 : decode cX6_fact 5 = .ok (.invokevirtual 22, 3) := by decide +kernel
theorem dX6_fact_8 : decode cX6_fact 8 = .ok (.astore_n 2, 1) := by decide +kernel
theorem dX6_fact_9 : decode cX6_fact 9 = .ok (.aload_n 0, 1) := by decide +kernel
theorem dX6_fact_10 : decode cX6_fact 10 = .ok (.invokevirtual 49, 3) := by decide +kernel
theorem dX6_fact_13 : decode cX6_fact 13 = .ok (.astore_n 3, 1) := by decide +kernel
theorem dX6_fact_14 : decode cX6_fact 14 = .ok (.iload_n 1, 1) := by decide +kernel
theorem dX6_fact_15 : decode cX6_fact 15 = .ok (.tableswitch 124 0 5 #[37, 42, 65, 81, 94, 107], 37) := by decide +kernel
theorem dX6_fact_52 : decode cX6_fact 52 = .ok (.aload_n 0, 1) := by decide +kernel
theorem dX6_fact_53 : decode cX6_fact 53 = .ok (.getfield 9, 3) := by decide +kernel
theorem dX6_fact_56 : decode cX6_fact 56 = .ok (.ireturn, 1) := by decide +kernel
theorem dX6_fact_57 : decode cX6_fact 57 = .ok (.aload_n 0, 1) := by decide +kernel
theorem dX6_fact_58 : decode cX6_fact 58 = .ok (.getfield 9, 3) := by decide +kernel
theorem dX6_fact_61 : decode cX6_fact 61 = .ok (.iconst 3, 1) := by decide +kernel
theorem dX6_fact_62 : decode cX6_fact 62 = .ok (.if_icmp .ne 13, 3) := by decide +kernel
theorem dX6_fact_75 : decode cX6_fact 75 = .ok (.aload_n 0, 1) := by decide +kernel
theorem dX6_fact_76 : decode cX6_fact 76 = .ok (.invokevirtual 56, 3) := by decide +kernel
theorem dX6_fact_79 : decode cX6_fact 79 = .ok (.ireturn, 1) := by decide +kernel
theorem dX6_fact_80 : decode cX6_fact 80 = .ok (.aload_n 2, 1) := by decide +kernel
theorem dX6_fact_81 : decode cX6_fact 81 = .ok (.ifnonnull 7, 3) := by decide +kernel
theorem dX6_fact_84 : decode cX6_fact 84 = .ok (.iconst 0, 1) := by decide +kernel
theorem dX6_fact_85 : decode cX6_fact 85 = .ok (.goto 10, 3) := by decide +kernel
theorem dX6_fact_95 : decode cX6_fact 95 = .ok (.ireturn, 1) := by decide +kernel
theorem dX6_fact_96 : decode cX6_fact 96 = .ok (.aload_n 3, 1) := by decide +kernel
theorem dX6_fact_97 : decode cX6_fact 97 = .ok (.ifnonnull 7, 3) := by decide +kernel
theorem dX6_fact_100 : decode cX6_fact 100 = .ok (.iconst 0, 1) := by decide +kernel
theorem dX6_fact_101 : decode cX6_fact 101 = .ok (.goto 7, 3) := by decide +kernel
theorem dX6_fact_108 : decode cX6_fact 108 = .ok (.ireturn, 1) := by decide +kernel
theorem dX6_fact_109 : decode cX6_fact 109 = .ok (.aload_n 3, 1) := by decide +kernel
theorem dX6_fact_110 : decode cX6_fact 110 = .ok (.ifnonnull 7, 3) := by decide +kernel
theorem dX6_fact_113 : decode cX6_fact 113 = .ok (.iconst 0, 1) := by decide +kernel
theorem dX6_fact_114 : decode cX6_fact 114 = .ok (.goto 7, 3) := by decide +kernel
theorem dX6_fact_121 : decode cX6_fact 121 = .ok (.ireturn, 1) := by decide +kernel
theorem dX6_fact_122 : decode cX6_fact 122 = .ok (.aload_n 3, 1) := by decide +kernel
theorem dX6_fact_123 : decode cX6_fact 123 = .ok (.ifnull 14, 3) := by decide +kernel
theorem dX6_fact_137 : decode cX6_fact 137 = .ok (.iconst 0, 1) := by decide +kernel
theorem dX6_fact_138 : decode cX6_fact 138 = .ok (.ireturn, 1) := by decide +kernel
theorem dX6_fact_139 : decode cX6_fact 139 = .ok (.iconst (-1), 1) := by decide +kernel
theorem dX6_fact_140 : decode cX6_fact 140 = .ok (.ireturn, 1) := by decide +kernel
theorem dX6_hold_0 : decode cX6_hold 0 = .ok (.aload_n 0, 1) := by decide +kernel
theorem dX6_hold_1 : decode cX6_hold 1 = .ok (.iload_n 1, 1) := by decide +kernel
theorem dX6_hold_2 : decode cX6_hold 2 = .ok (.putfield 9, 3) := by decide +kernel
theorem dX6_hold_5 : decode cX6_hold 5 = .ok (.aload_n 0, 1) := by decide +kernel
theorem dX6_hold_6 : decode cX6_hold 6 = .ok (.getfield 18, 3) := by decide +kernel
theorem dX6_hold_9 : decode cX6_hold 9 = .ok (.aload_n 2, 1) := by decide +kernel
theorem dX6_hold_10 : decode cX6_hold 10 = .ok (.invokevirtual 41, 3) := by decide +kernel
theorem dX6_hold_13 : decode cX6_hold 13 = .ok (.return_, 1) := by decide +kernel
theorem dX6_init_0 : decode cX6_init 0 = .ok (.aload_n 0, 1) := by decide +kernel
theorem dX6_init_1 : decode cX6_init 1 = .ok (.invokespecial 3, 3) := by decide +kernel
theorem dX6_init_4 : decode cX6_init 4 = .ok (.aload_n 0, 1) := by decide +kernel
theorem dX6_init_5 : decode cX6_init 5 = .ok (.iconst 0, 1) := by decide +kernel
theorem dX6_init_6 : decode cX6_init 6 = .ok (.putfield 9, 3) := by decide +kernel
theorem dX6_init_9 : decode cX6_init 9 = .ok (.aload_n 0, 1) := by decide +kernel
theorem dX6_init_10 : decode cX6_init 10 = .ok (.new 15, 3) := by decide +kernel
theorem dX6_init_13 : decode cX6_init 13 = .ok (.dup, 1) := by decide +kernel
theorem dX6_init_14 : decode cX6_init 14 = .ok (.invokespecial 17, 3) := by decide +kernel
theorem dX6_init_17 : decode cX6_init 17 = .ok (.putfield 18, 3) := by decide +kernel
theorem dX6_init_20 : decode cX6_init 20 = .ok (.return_, 1) := by decide +kernel
theorem dX6_isEmpty_0 : decode cX6_isEmpty 0 = .ok (.aload_n 0, 1) := by decide +kernel
theorem dX6_isEmpty_1 : decode cX6_isEmpty 1 = .ok (.getfield 9, 3) := by decide +kernel
theorem dX6_isEmpty_4 : decode cX6_isEmpty 4 = .ok (.ifCond .ne 7, 3) := by decide +kernel
theorem dX6_isEmpty_7 : decode cX6_isEmpty 7 = .ok (.iconst 1, 1) := by decide +kernel
theorem dX6_isEmpty_8 : decode cX6_isEmpty 8 = .ok (.goto 4, 3) := by decide +kernel
theorem dX6_isEmpty_12 : decode cX6_isEmpty 12 = .ok (.ireturn, 1) := by decide +kernel
theorem dX6_kind_0 : decode cX6_kind 0 = .ok (.aload_n 0, 1) := by decide +kernel
theorem dX6_kind_1 : decode cX6_kind 1 = .ok (.getfield 18, 3) := by decide +kernel
theorem dX6_kind_4 : decode cX6_kind 4 = .ok (.iconst 0, 1) := by decide +kernel
theorem dX6_kind_5 : decode cX6_kind 5 = .ok (.invokevirtual 22, 3) := by decide +kernel
theorem dX6_kind_8 : decode cX6_kind 8 = .ok (.astore_n 1, 1) := by decide +kernel
theorem dX6_kind_9 : decode cX6_kind 9 = .ok (.aload_n 0, 1) := by decide +kernel
theorem dX6_kind_10 : decode cX6_kind 10 = .ok (.getfield 9, 3) := by decide +kernel
theorem dX6_kind_13 : decode cX6_kind 13 = .ok (.iconst 3, 1) := by decide +kernel
theorem dX6_kind_14 : decode cX6_kind 14 = .ok (.if_icmp .ne 6, 3) := by decide +kernel
theorem dX6_kind_20 : decode cX6_kind 20 = .ok (.aload_n 1, 1) := by decide +kernel
theorem dX6_kind_21 : decode cX6_kind 21 = .ok (.ifnonnull 7, 3) := by decide +kernel
theorem dX6_kind_24 : decode cX6_kind 24 = .ok (.iconst 0, 1) := by decide +kernel
theorem dX6_kind_25 : decode cX6_kind 25 = .ok (.goto 7, 3) := by decide +kernel
theorem dX6_kind_32 : decode cX6_kind 32 = .ok (.ireturn, 1) := by decide +kernel
theorem dX6_motion_0 : decode cX6_motion 0 = .ok (.aload_n 0, 1) := by decide +kernel
theorem dX6_motion_1 : decode cX6_motion 1 = .ok (.getfield 9, 3) := by decide +kernel
theorem dX6_motion_4 : decode cX6_motion 4 = .ok (.iconst 2, 1) := by decide +kernel
theorem dX6_motion_5 : decode cX6_motion 5 = .ok (.if_icmp .ne 14, 3) := by decide +kernel
theorem dX6_motion_19 : decode cX6_motion 19 = .ok (.aconst_null, 1) := by decide +kernel
theorem dX6_motion_20 : decode cX6_motion 20 = .ok (.areturn, 1) := by decide +kernel
theorem dX6_wordAt_0 : decode cX6_wordAt 0 = .ok (.aload_n 0, 1) := by decide +kernel
theorem dX6_wordAt_1 : decode cX6_wordAt 1 = .ok (.getfield 18, 3) := by decide +kernel
theorem dX6_wordAt_4 : decode cX6_wordAt 4 = .ok (.iconst 0, 1) := by decide +kernel
theorem dX6_wordAt_5 : decode cX6_wordAt 5 = .ok (.invokevirtual 22, 3) := by decide +kernel
theorem dX6_wordAt_8 : decode cX6_wordAt 8 = .ok (.astore_n 2, 1) := by decide +kernel
theorem dX6_wordAt_9 : decode cX6_wordAt 9 = .ok (.aload_n 2, 1) := by decide +kernel
theorem dX6_wordAt_10 : decode cX6_wordAt 10 = .ok (.ifnonnull 7, 3) := by decide +kernel
theorem dX6_wordAt_13 : decode cX6_wordAt 13 = .ok (.iconst (-1), 1) := by decide +kernel
theorem dX6_wordAt_14 : decode cX6_wordAt 14 = .ok (.goto 11, 3) := by decide +kernel
theorem dX6_wordAt_25 : decode cX6_wordAt 25 = .ok (.ireturn, 1) := by decide +kernel
theorem dX8_against_0 : decode cX8_against 0 = .ok (.iload_n 1, 1) := by decide +kernel
theorem dX8_against_1 : decode cX8_against 1 = .ok (.bipush 9, 2) := by decide +kernel
theorem dX8_against_3 : decode cX8_against 3 = .ok (.if_icmp .gt 15, 3) := by decide +kernel
theorem dX8_against_6 : decode cX8_against 6 = .ok (.aload_n 0, 1) := by decide +kernel
theorem dX8_against_7 : decode cX8_against 7 = .ok (.iload_n 1, 1) := by decide +kernel
theorem dX8_against_8 : decode cX8_against 8 = .ok (.iload_n 2, 1) := by decide +kernel
theorem dX8_against_9 : decode cX8_against 9 = .ok (.iload_n 3, 1) := by decide +kernel
theorem dX8_against_10 : decode cX8_against 10 = .ok (.invokestatic 9, 3) := by decide +kernel
theorem dX8_against_13 : decode cX8_against 13 = .ok (.istore 6, 2) := by decide +kernel
theorem dX8_against_15 : decode cX8_against 15 = .ok (.goto 34, 3) := by decide +kernel
theorem dX8_against_18 : decode cX8_against 18 = .ok (.iload_n 1, 1) := by decide +kernel
theorem dX8_against_19 : decode cX8_against 19 = .ok (.bipush 14, 2) := by decide +kernel
theorem dX8_against_21 : decode cX8_against 21 = .ok (.if_icmp .gt 19, 3) := by decide +kernel
theorem dX8_against_24 : decode cX8_against 24 = .ok (.aload_n 0, 1) := by decide +kernel
theorem dX8_against_25 : decode cX8_against 25 = .ok (.iload_n 1, 1) := by decide +kernel
theorem dX8_against_26 : decode cX8_against 26 = .ok (.iload_n 2, 1) := by decide +kernel
theorem dX8_against_27 : decode cX8_against 27 = .ok (.iload_n 3, 1) := by decide +kernel
theorem dX8_against_28 : decode cX8_against 28 = .ok (.iload 4, 2) := by decide +kernel
theorem dX8_against_30 : decode cX8_against 30 = .ok (.iload 5, 2) := by decide +kernel
theorem dX8_against_32 : decode cX8_against 32 = .ok (.invokestatic 15, 3) := by decide +kernel
theorem dX8_against_35 : decode cX8_against 35 = .ok (.istore 6, 2) := by decide +kernel
theorem dX8_against_37 : decode cX8_against 37 = .ok (.goto 12, 3) := by decide +kernel
theorem dX8_against_40 : decode cX8_against 40 = .ok (.aload_n 0, 1) := by decide +kernel
theorem dX8_against_41 : decode cX8_against 41 = .ok (.iload_n 1, 1) := by decide +kernel
theorem dX8_against_42 : decode cX8_against 42 = .ok (.iload_n 2, 1) := by decide +kernel
theorem dX8_against_43 : decode cX8_against 43 = .ok (.iload_n 3, 1) := by decide +kernel
theorem dX8_against_44 : decode cX8_against 44 = .ok (.invokestatic 19, 3) := by decide +kernel
theorem dX8_against_47 : decode cX8_against 47 = .ok (.istore 6, 2) := by decide +kernel
theorem dX8_against_49 : decode cX8_against 49 = .ok (.iload 6, 2) := by decide +kernel
theorem dX8_against_51 : decode cX8_against 51 = .ok (.ifCond .ne 18, 3) := by decide +kernel
theorem dX8_against_54 : decode cX8_against 54 = .ok (.aload_n 0, 1) := by decide +kernel
theorem dX8_against_55 : decode cX8_against 55 = .ok (.getfield 22, 3) := by decide +kernel
theorem dX8_against_58 : decode cX8_against 58 = .ok (.invokevirtual 28, 3) := by decide +kernel
theorem dX8_against_61 : decode cX8_against 61 = .ok (.ifCond .eq 8, 3) := by decide +kernel
theorem dX8_against_69 : decode cX8_against 69 = .ok (.iload 6, 2) := by decide +kernel
theorem dX8_against_71 : decode cX8_against 71 = .ok (.ireturn, 1) := by decide +kernel
theorem dX8_againstAbsent_0 : decode cX8_againstAbsent 0 = .ok (.aload_n 0, 1) := by decide +kernel
theorem dX8_againstAbsent_1 : decode cX8_againstAbsent 1 = .ok (.iload_n 1, 1) := by decide +kernel
theorem dX8_againstAbsent_2 : decode cX8_againstAbsent 2 = .ok (.invokevirtual 114, 3) := by decide +kernel
theorem dX8_againstAbsent_5 : decode cX8_againstAbsent 5 = .ok (.ifCond .ne 6, 3) := by decide +kernel
theorem dX8_againstAbsent_8 : decode cX8_againstAbsent 8 = .ok (.bipush 9, 2) := by decide +kernel
theorem dX8_againstAbsent_10 : decode cX8_againstAbsent 10 = .ok (.ireturn, 1) := by decide +kernel
theorem dX8_againstAbsent_11 : decode cX8_againstAbsent 11 = .ok (.aload_n 0, 1) := by decide +kernel
theorem dX8_againstAbsent_12 : decode cX8_againstAbsent 12 = .ok (.iload_n 1, 1) := by decide +kernel
theorem dX8_againstAbsent_13 : decode cX8_againstAbsent 13 = .ok (.invokevirtual 82, 3) := by decide +kernel
theorem dX8_againstAbsent_16 : decode cX8_againstAbsent 16 = .ok (.ifCond .eq 7, 3) := by decide +kernel
theorem dX8_againstAbsent_23 : decode cX8_againstAbsent 23 = .ok (.bipush 8, 2) := by decide +kernel
theorem dX8_againstAbsent_25 : decode cX8_againstAbsent 25 = .ok (.ireturn, 1) := by decide +kernel
theorem dX8_againstDebate_0 : decode cX8_againstDebate 0 = .ok (.aload_n 0, 1) := by decide +kernel
theorem dX8_againstDebate_1 : decode cX8_againstDebate 1 = .ok (.getfield 86, 3) := by decide +kernel
theorem dX8_againstDebate_4 : decode cX8_againstDebate 4 = .ok (.invokevirtual 90, 3) := by decide +kernel
theorem dX8_againstDebate_7 : decode cX8_againstDebate 7 = .ok (.astore_n 2, 1) := by decide +kernel
theorem dX8_againstDebate_8 : decode cX8_againstDebate 8 = .ok (.aload_n 2, 1) := by decide +kernel
theorem dX8_againstDebate_9 : decode cX8_againstDebate 9 = .ok (.ifnonnull 6, 3) := by decide +kernel
theorem dX8_againstDebate_12 : decode cX8_againstDebate 12 = .ok (.bipush 7, 2) := by decide +kernel
theorem dX8_againstDebate_14 : decode cX8_againstDebate 14 = .ok (.ireturn, 1) := by decide +kernel
theorem dX8_againstFloor_0 : decode cX8_againstFloor 0 = .ok (.aload_n 0, 1) := by decide +kernel
theorem dX8_againstFloor_1 : decode cX8_againstFloor 1 = .ok (.getfield 34, 3) := by decide +kernel
theorem dX8_againstFloor_4 : decode cX8_againstFloor 4 = .ok (.iload_n 1, 1) := by decide +kernel
theorem dX8_againstFloor_5 : decode cX8_againstFloor 5 = .ok (.invokestatic 42, 3) := by decide +kernel
theorem dX8_againstFloor_8 : decode cX8_againstFloor 8 = .ok (.istore_n 2, 1) := by decide +kernel
theorem dX8_againstFloor_9 : decode cX8_againstFloor 9 = .ok (.iload_n 2, 1) := by decide +kernel
theorem dX8_againstFloor_10 : decode cX8_againstFloor 10 = .ok (.ifCond .eq 5, 3) := by decide +kernel
theorem dX8_againstFloor_13 : decode cX8_againstFloor 13 = .ok (.iload_n 2, 1) := by decide +kernel
theorem dX8_againstFloor_14 : decode cX8_againstFloor 14 = .ok (.ireturn, 1) := by decide +kernel
theorem dX8_againstLay_0 : decode cX8_againstLay 0 = .ok (.aload_n 0, 1) := by decide +kernel
theorem dX8_againstLay_1 : decode cX8_againstLay 1 = .ok (.iload_n 1, 1) := by decide +kernel
theorem dX8_againstLay_2 : decode cX8_againstLay 2 = .ok (.invokevirtual 166, 3) := by decide +kernel
theorem dX8_againstLay_5 : decode cX8_againstLay 5 = .ok (.astore_n 2, 1) := by decide +kernel
theorem dX8_againstLay_6 : decode cX8_againstLay 6 = .ok (.aload_n 2, 1) := by decide +kernel
theorem dX8_againstLay_7 : decode cX8_againstLay 7 = .ok (.ifnonnull 6, 3) := by decide +kernel
theorem dX8_againstLay_10 : decode cX8_againstLay 10 = .ok (.bipush 9, 2) := by decide +kernel
theorem dX8_againstLay_12 : decode cX8_againstLay 12 = .ok (.ireturn, 1) := by decide +kernel
theorem dX8_againstLay_13 : decode cX8_againstLay 13 = .ok (.aload_n 0, 1) := by decide +kernel
theorem dX8_againstLay_14 : decode cX8_againstLay 14 = .ok (.getfield 141, 3) := by decide +kernel
theorem dX8_againstLay_17 : decode cX8_againstLay 17 = .ok (.invokevirtual 170, 3) := by decide +kernel
theorem dX8_againstLay_20 : decode cX8_againstLay 20 = .ok (.ifCond .ne 10, 3) := by decide +kernel
theorem dX8_againstLay_30 : decode cX8_againstLay 30 = .ok (.bipush 11, 2) := by decide +kernel
theorem dX8_againstLay_32 : decode cX8_againstLay 32 = .ok (.ireturn, 1) := by decide +kernel
theorem dX8_againstMove_0 : decode cX8_againstMove 0 = .ok (.aload_n 0, 1) := by decide +kernel
theorem dX8_againstMove_1 : decode cX8_againstMove 1 = .ok (.getfield 141, 3) := by decide +kernel
theorem dX8_againstMove_4 : decode cX8_againstMove 4 = .ok (.invokevirtual 170, 3) := by decide +kernel
theorem dX8_againstMove_7 : decode cX8_againstMove 7 = .ok (.ifCond .eq 6, 3) := by decide +kernel
theorem dX8_againstMove_10 : decode cX8_againstMove 10 = .ok (.bipush 11, 2) := by decide +kernel
theorem dX8_againstMove_12 : decode cX8_againstMove 12 = .ok (.ireturn, 1) := by decide +kernel
theorem dX8_againstOnFloor_0 : decode cX8_againstOnFloor 0 = .ok (.iload_n 1, 1) := by decide +kernel
theorem dX8_againstOnFloor_1 : decode cX8_againstOnFloor 1 = .ok (.tableswitch 179 1 9 #[51, 60, 69, 90, 99, 130, 150, 156, 173], 51) := by decide +kernel
theorem dX8_againstOnFloor_52 : decode cX8_againstOnFloor 52 = .ok (.aload_n 0, 1) := by decide +kernel
theorem dX8_againstOnFloor_53 : decode cX8_againstOnFloor 53 = .ok (.getfield 34, 3) := by decide +kernel
theorem dX8_againstOnFloor_56 : decode cX8_againstOnFloor 56 = .ok (.iload_n 2, 1) := by decide +kernel
theorem dX8_againstOnFloor_57 : decode cX8_againstOnFloor 57 = .ok (.invokestatic 38, 3) := by decide +kernel
theorem dX8_againstOnFloor_60 : decode cX8_againstOnFloor 60 = .ok (.ireturn, 1) := by decide +kernel
theorem dX8_againstOnFloor_61 : decode cX8_againstOnFloor 61 = .ok (.aload_n 0, 1) := by decide +kernel
theorem dX8_againstOnFloor_62 : decode cX8_againstOnFloor 62 = .ok (.getfield 34, 3) := by decide +kernel
theorem dX8_againstOnFloor_65 : decode cX8_againstOnFloor 65 = .ok (.iload_n 2, 1) := by decide +kernel
theorem dX8_againstOnFloor_66 : decode cX8_againstOnFloor 66 = .ok (.invokestatic 42, 3) := by decide +kernel
theorem dX8_againstOnFloor_69 : decode cX8_againstOnFloor 69 = .ok (.ireturn, 1) := by decide +kernel
theorem dX8_againstOnFloor_70 : decode cX8_againstOnFloor 70 = .ok (.aload_n 0, 1) := by decide +kernel
theorem dX8_againstOnFloor_71 : decode cX8_againstOnFloor 71 = .ok (.iload_n 2, 1) := by decide +kernel
theorem dX8_againstOnFloor_72 : decode cX8_againstOnFloor 72 = .ok (.ifCond .lt 14, 3) := by decide +kernel
theorem dX8_againstOnFloor_75 : decode cX8_againstOnFloor 75 = .ok (.iload_n 2, 1) := by decide +kernel
theorem dX8_againstOnFloor_76 : decode cX8_againstOnFloor 76 = .ok (.sipush 200, 3) := by decide +kernel
theorem dX8_againstOnFloor_79 : decode cX8_againstOnFloor 79 = .ok (.if_icmp .gt 7, 3) := by decide +kernel
theorem dX8_againstOnFloor_82 : decode cX8_againstOnFloor 82 = .ok (.iconst 1, 1) := by decide +kernel
theorem dX8_againstOnFloor_83 : decode cX8_againstOnFloor 83 = .ok (.goto 4, 3) := by decide +kernel
theorem dX8_againstOnFloor_86 : decode cX8_againstOnFloor 86 = .ok (.iconst 0, 1) := by decide +kernel
theorem dX8_againstOnFloor_87 : decode cX8_againstOnFloor 87 = .ok (.invokestatic 45, 3) := by decide +kernel
theorem dX8_againstOnFloor_90 : decode cX8_againstOnFloor 90 = .ok (.ireturn, 1) := by decide +kernel
theorem dX8_againstOnFloor_91 : decode cX8_againstOnFloor 91 = .ok (.aload_n 0, 1) := by decide +kernel
theorem dX8_againstOnFloor_92 : decode cX8_againstOnFloor 92 = .ok (.getfield 34, 3) := by decide +kernel
theorem dX8_againstOnFloor_95 : decode cX8_againstOnFloor 95 = .ok (.iload_n 2, 1) := by decide +kernel
theorem dX8_againstOnFloor_96 : decode cX8_againstOnFloor 96 = .ok (.invokestatic 42, 3) := by decide +kernel
theorem dX8_againstOnFloor_99 : decode cX8_againstOnFloor 99 = .ok (.ireturn, 1) := by decide +kernel
theorem dX8_againstOnFloor_100 : decode cX8_againstOnFloor 100 = .ok (.aload_n 0, 1) := by decide +kernel
theorem dX8_againstOnFloor_101 : decode cX8_againstOnFloor 101 = .ok (.iload_n 2, 1) := by decide +kernel
theorem dX8_againstOnFloor_102 : decode cX8_againstOnFloor 102 = .ok (.iconst 1, 1) := by decide +kernel
theorem dX8_againstOnFloor_103 : decode cX8_againstOnFloor 103 = .ok (.if_icmp .lt 23, 3) := by decide +kernel
theorem dX8_againstOnFloor_106 : decode cX8_againstOnFloor 106 = .ok (.iload_n 2, 1) := by decide +kernel
theorem dX8_againstOnFloor_107 : decode cX8_againstOnFloor 107 = .ok (.bipush 8, 2) := by decide +kernel
theorem dX8_againstOnFloor_109 : decode cX8_againstOnFloor 109 = .ok (.if_icmp .gt 17, 3) := by decide +kernel
theorem dX8_againstOnFloor_112 : decode cX8_againstOnFloor 112 = .ok (.iload_n 3, 1) := by decide +kernel
theorem dX8_againstOnFloor_113 : decode cX8_againstOnFloor 113 = .ok (.iconst 1, 1) := by decide +kernel
theorem dX8_againstOnFloor_114 : decode cX8_againstOnFloor 114 = .ok (.if_icmp .lt 12, 3) := by decide +kernel
theorem dX8_againstOnFloor_117 : decode cX8_againstOnFloor 117 = .ok (.iload_n 3, 1) := by decide +kernel
theorem dX8_againstOnFloor_118 : decode cX8_againstOnFloor 118 = .ok (.iconst 3, 1) := by decide +kernel
theorem dX8_againstOnFloor_119 : decode cX8_againstOnFloor 119 = .ok (.if_icmp .gt 7, 3) := by decide +kernel
theorem dX8_againstOnFloor_122 : decode cX8_againstOnFloor 122 = .ok (.iconst 1, 1) := by decide +kernel
theorem dX8_againstOnFloor_123 : decode cX8_againstOnFloor 123 = .ok (.goto 4, 3) := by decide +kernel
theorem dX8_againstOnFloor_126 : decode cX8_againstOnFloor 126 = .ok (.iconst 0, 1) := by decide +kernel
theorem dX8_againstOnFloor_127 : decode cX8_againstOnFloor 127 = .ok (.invokestatic 45, 3) := by decide +kernel
theorem dX8_againstOnFloor_130 : decode cX8_againstOnFloor 130 = .ok (.ireturn, 1) := by decide +kernel
theorem dX8_againstOnFloor_131 : decode cX8_againstOnFloor 131 = .ok (.aload_n 0, 1) := by decide +kernel
theorem dX8_againstOnFloor_132 : decode cX8_againstOnFloor 132 = .ok (.iload_n 2, 1) := by decide +kernel
theorem dX8_againstOnFloor_133 : decode cX8_againstOnFloor 133 = .ok (.ifCond .lt 13, 3) := by decide +kernel
theorem dX8_againstOnFloor_136 : decode cX8_againstOnFloor 136 = .ok (.iload_n 2, 1) := by decide +kernel
theorem dX8_againstOnFloor_137 : decode cX8_againstOnFloor 137 = .ok (.bipush 99, 2) := by decide +kernel
theorem dX8_againstOnFloor_139 : decode cX8_againstOnFloor 139 = .ok (.if_icmp .gt 7, 3) := by decide +kernel
theorem dX8_againstOnFloor_142 : decode cX8_againstOnFloor 142 = .ok (.iconst 1, 1) := by decide +kernel
theorem dX8_againstOnFloor_143 : decode cX8_againstOnFloor 143 = .ok (.goto 4, 3) := by decide +kernel
theorem dX8_againstOnFloor_146 : decode cX8_againstOnFloor 146 = .ok (.iconst 0, 1) := by decide +kernel
theorem dX8_againstOnFloor_147 : decode cX8_againstOnFloor 147 = .ok (.invokestatic 45, 3) := by decide +kernel
theorem dX8_againstOnFloor_150 : decode cX8_againstOnFloor 150 = .ok (.ireturn, 1) := by decide +kernel
theorem dX8_againstOnFloor_151 : decode cX8_againstOnFloor 151 = .ok (.aload_n 0, 1) := by decide +kernel
theorem dX8_againstOnFloor_152 : decode cX8_againstOnFloor 152 = .ok (.iload_n 2, 1) := by decide +kernel
theorem dX8_againstOnFloor_153 : decode cX8_againstOnFloor 153 = .ok (.invokestatic 49, 3) := by decide +kernel
theorem dX8_againstOnFloor_156 : decode cX8_againstOnFloor 156 = .ok (.ireturn, 1) := by decide +kernel
theorem dX8_againstOnFloor_157 : decode cX8_againstOnFloor 157 = .ok (.aload_n 0, 1) := by decide +kernel
theorem dX8_againstOnFloor_158 : decode cX8_againstOnFloor 158 = .ok (.getfield 34, 3) := by decide +kernel
theorem dX8_againstOnFloor_161 : decode cX8_againstOnFloor 161 = .ok (.getfield 53, 3) := by decide +kernel
theorem dX8_againstOnFloor_164 : decode cX8_againstOnFloor 164 = .ok (.iconst (-1), 1) := by decide +kernel
theorem dX8_againstOnFloor_165 : decode cX8_againstOnFloor 165 = .ok (.if_icmp .ne 7, 3) := by decide +kernel
theorem dX8_againstOnFloor_168 : decode cX8_againstOnFloor 168 = .ok (.iconst 2, 1) := by decide +kernel
theorem dX8_againstOnFloor_169 : decode cX8_againstOnFloor 169 = .ok (.goto 4, 3) := by decide +kernel
theorem dX8_againstOnFloor_173 : decode cX8_againstOnFloor 173 = .ok (.ireturn, 1) := by decide +kernel
theorem dX8_againstOnFloor_174 : decode cX8_againstOnFloor 174 = .ok (.aload_n 0, 1) := by decide +kernel
theorem dX8_againstOnFloor_175 : decode cX8_againstOnFloor 175 = .ok (.iload_n 2, 1) := by decide +kernel
theorem dX8_againstOnFloor_176 : decode cX8_againstOnFloor 176 = .ok (.invokestatic 59, 3) := by decide +kernel
theorem dX8_againstOnFloor_179 : decode cX8_againstOnFloor 179 = .ok (.ireturn, 1) := by decide +kernel
theorem dX8_againstOnMotion_0 : decode cX8_againstOnMotion 0 = .ok (.iload_n 1, 1) := by decide +kernel
theorem dX8_againstOnMotion_1 : decode cX8_againstOnMotion 1 = .ok (.bipush 15, 2) := by decide +kernel
theorem dX8_againstOnMotion_3 : decode cX8_againstOnMotion 3 = .ok (.if_icmp .ne 9, 3) := by decide +kernel
theorem dX8_againstOnMotion_6 : decode cX8_againstOnMotion 6 = .ok (.aload_n 0, 1) := by decide +kernel
theorem dX8_againstOnMotion_7 : decode cX8_againstOnMotion 7 = .ok (.iload_n 2, 1) := by decide +kernel
theorem dX8_againstOnMotion_8 : decode cX8_againstOnMotion 8 = .ok (.invokestatic 76, 3) := by decide +kernel
theorem dX8_againstOnMotion_11 : decode cX8_againstOnMotion 11 = .ok (.ireturn, 1) := by decide +kernel
theorem dX8_againstOnMotion_12 : decode cX8_againstOnMotion 12 = .ok (.aload_n 0, 1) := by decide +kernel
theorem dX8_againstOnMotion_13 : decode cX8_againstOnMotion 13 = .ok (.getfield 34, 3) := by decide +kernel
theorem dX8_againstOnMotion_16 : decode cX8_againstOnMotion 16 = .ok (.aload_n 0, 1) := by decide +kernel
theorem dX8_againstOnMotion_17 : decode cX8_againstOnMotion 17 = .ok (.getfield 34, 3) := by decide +kernel
theorem dX8_againstOnMotion_20 : decode cX8_againstOnMotion 20 = .ok (.getfield 79, 3) := by decide +kernel
theorem dX8_againstOnMotion_23 : decode cX8_againstOnMotion 23 = .ok (.invokevirtual 82, 3) := by decide +kernel
theorem dX8_againstOnMotion_26 : decode cX8_againstOnMotion 26 = .ok (.istore 4, 2) := by decide +kernel
theorem dX8_againstOnMotion_28 : decode cX8_againstOnMotion 28 = .ok (.iload_n 1, 1) := by decide +kernel
theorem dX8_againstOnMotion_29 : decode cX8_againstOnMotion 29 = .ok (.bipush 22, 2) := by decide +kernel
theorem dX8_againstOnMotion_31 : decode cX8_againstOnMotion 31 = .ok (.if_icmp .ne 15, 3) := by decide +kernel
theorem dX8_againstOnMotion_34 : decode cX8_againstOnMotion 34 = .ok (.iload 4, 2) := by decide +kernel
theorem dX8_againstOnMotion_36 : decode cX8_againstOnMotion 36 = .ok (.ifCond .eq 7, 3) := by decide +kernel
theorem dX8_againstOnMotion_43 : decode cX8_againstOnMotion 43 = .ok (.bipush 8, 2) := by decide +kernel
theorem dX8_againstOnMotion_45 : decode cX8_againstOnMotion 45 = .ok (.ireturn, 1) := by decide +kernel
theorem dX8_againstOnMotion_46 : decode cX8_againstOnMotion 46 = .ok (.iload_n 1, 1) := by decide +kernel
theorem dX8_againstOnMotion_47 : decode cX8_againstOnMotion 47 = .ok (.bipush 19, 2) := by decide +kernel
theorem dX8_againstOnMotion_49 : decode cX8_againstOnMotion 49 = .ok (.if_icmp .eq 9, 3) := by decide +kernel
theorem dX8_againstOnMotion_52 : decode cX8_againstOnMotion 52 = .ok (.iload_n 1, 1) := by decide +kernel
theorem dX8_againstOnMotion_53 : decode cX8_againstOnMotion 53 = .ok (.bipush 21, 2) := by decide +kernel
theorem dX8_againstOnMotion_55 : decode cX8_againstOnMotion 55 = .ok (.if_icmp .ne 11, 3) := by decide +kernel
theorem dX8_againstOnMotion_58 : decode cX8_againstOnMotion 58 = .ok (.iload 4, 2) := by decide +kernel
theorem dX8_againstOnMotion_60 : decode cX8_againstOnMotion 60 = .ok (.ifCond .ne 6, 3) := by decide +kernel
theorem dX8_againstOnMotion_63 : decode cX8_againstOnMotion 63 = .ok (.bipush 8, 2) := by decide +kernel
theorem dX8_againstOnMotion_65 : decode cX8_againstOnMotion 65 = .ok (.ireturn, 1) := by decide +kernel
theorem dX8_againstOnMotion_66 : decode cX8_againstOnMotion 66 = .ok (.aload_n 0, 1) := by decide +kernel
theorem dX8_againstOnMotion_67 : decode cX8_againstOnMotion 67 = .ok (.getfield 86, 3) := by decide +kernel
theorem dX8_againstOnMotion_70 : decode cX8_againstOnMotion 70 = .ok (.invokevirtual 90, 3) := by decide +kernel
theorem dX8_againstOnMotion_73 : decode cX8_againstOnMotion 73 = .ok (.astore 5, 2) := by decide +kernel
theorem dX8_againstOnMotion_75 : decode cX8_againstOnMotion 75 = .ok (.aload 5, 2) := by decide +kernel
theorem dX8_againstOnMotion_77 : decode cX8_againstOnMotion 77 = .ok (.ifnonnull 6, 3) := by decide +kernel
theorem dX8_againstOnMotion_80 : decode cX8_againstOnMotion 80 = .ok (.bipush 7, 2) := by decide +kernel
theorem dX8_againstOnMotion_82 : decode cX8_againstOnMotion 82 = .ok (.ireturn, 1) := by decide +kernel
theorem dX8_againstOnPaper_0 : decode cX8_againstOnPaper 0 = .ok (.iload_n 1, 1) := by decide +kernel
theorem dX8_againstOnPaper_1 : decode cX8_againstOnPaper 1 = .ok (.tableswitch 83 10 14 #[35, 53, 60, 71, 77], 35) := by decide +kernel
theorem dX8_againstOnPaper_36 : decode cX8_againstOnPaper 36 = .ok (.iload_n 2, 1) := by decide +kernel
theorem dX8_againstOnPaper_37 : decode cX8_againstOnPaper 37 = .ok (.iconst 1, 1) := by decide +kernel
theorem dX8_againstOnPaper_38 : decode cX8_againstOnPaper 38 = .ok (.if_icmp .lt 9, 3) := by decide +kernel
theorem dX8_againstOnPaper_41 : decode cX8_againstOnPaper 41 = .ok (.iload_n 2, 1) := by decide +kernel
theorem dX8_againstOnPaper_42 : decode cX8_againstOnPaper 42 = .ok (.bipush 8, 2) := by decide +kernel
theorem dX8_againstOnPaper_44 : decode cX8_againstOnPaper 44 = .ok (.if_icmp .le 8, 3) := by decide +kernel
theorem dX8_againstOnPaper_47 : decode cX8_againstOnPaper 47 = .ok (.bipush 9, 2) := by decide +kernel
theorem dX8_againstOnPaper_49 : decode cX8_againstOnPaper 49 = .ok (.goto 4, 3) := by decide +kernel
theorem dX8_againstOnPaper_52 : decode cX8_againstOnPaper 52 = .ok (.iconst 0, 1) := by decide +kernel
theorem dX8_againstOnPaper_53 : decode cX8_againstOnPaper 53 = .ok (.ireturn, 1) := by decide +kernel
theorem dX8_againstOnPaper_54 : decode cX8_againstOnPaper 54 = .ok (.aload_n 0, 1) := by decide +kernel
theorem dX8_againstOnPaper_55 : decode cX8_againstOnPaper 55 = .ok (.iload_n 2, 1) := by decide +kernel
theorem dX8_againstOnPaper_56 : decode cX8_againstOnPaper 56 = .ok (.iload_n 3, 1) := by decide +kernel
theorem dX8_againstOnPaper_57 : decode cX8_againstOnPaper 57 = .ok (.invokestatic 62, 3) := by decide +kernel
theorem dX8_againstOnPaper_60 : decode cX8_againstOnPaper 60 = .ok (.ireturn, 1) := by decide +kernel
theorem dX8_againstOnPaper_61 : decode cX8_againstOnPaper 61 = .ok (.aload_n 0, 1) := by decide +kernel
theorem dX8_againstOnPaper_62 : decode cX8_againstOnPaper 62 = .ok (.iload_n 2, 1) := by decide +kernel
theorem dX8_againstOnPaper_63 : decode cX8_againstOnPaper 63 = .ok (.iload_n 3, 1) := by decide +kernel
theorem dX8_againstOnPaper_64 : decode cX8_againstOnPaper 64 = .ok (.iload 4, 2) := by decide +kernel
theorem dX8_againstOnPaper_66 : decode cX8_againstOnPaper 66 = .ok (.iload 5, 2) := by decide +kernel
theorem dX8_againstOnPaper_68 : decode cX8_againstOnPaper 68 = .ok (.invokestatic 66, 3) := by decide +kernel
theorem dX8_againstOnPaper_71 : decode cX8_againstOnPaper 71 = .ok (.ireturn, 1) := by decide +kernel
theorem dX8_againstOnPaper_72 : decode cX8_againstOnPaper 72 = .ok (.aload_n 0, 1) := by decide +kernel
theorem dX8_againstOnPaper_73 : decode cX8_againstOnPaper 73 = .ok (.iload_n 2, 1) := by decide +kernel
theorem dX8_againstOnPaper_74 : decode cX8_againstOnPaper 74 = .ok (.invokestatic 70, 3) := by decide +kernel
theorem dX8_againstOnPaper_77 : decode cX8_againstOnPaper 77 = .ok (.ireturn, 1) := by decide +kernel
theorem dX8_againstOnPaper_78 : decode cX8_againstOnPaper 78 = .ok (.aload_n 0, 1) := by decide +kernel
theorem dX8_againstOnPaper_79 : decode cX8_againstOnPaper 79 = .ok (.iload_n 2, 1) := by decide +kernel
theorem dX8_againstOnPaper_80 : decode cX8_againstOnPaper 80 = .ok (.invokestatic 73, 3) := by decide +kernel
theorem dX8_againstOnPaper_83 : decode cX8_againstOnPaper 83 = .ok (.ireturn, 1) := by decide +kernel
theorem dX8_againstSetting_0 : decode cX8_againstSetting 0 = .ok (.iload_n 1, 1) := by decide +kernel
theorem dX8_againstSetting_1 : decode cX8_againstSetting 1 = .ok (.ifCond .ne 6, 3) := by decide +kernel
theorem dX8_againstSetting_4 : decode cX8_againstSetting 4 = .ok (.bipush 9, 2) := by decide +kernel
theorem dX8_againstSetting_6 : decode cX8_againstSetting 6 = .ok (.ireturn, 1) := by decide +kernel
theorem dX8_againstSetting_7 : decode cX8_againstSetting 7 = .ok (.aload_n 0, 1) := by decide +kernel
theorem dX8_againstSetting_8 : decode cX8_againstSetting 8 = .ok (.getfield 86, 3) := by decide +kernel
theorem dX8_againstSetting_11 : decode cX8_againstSetting 11 = .ok (.getfield 117, 3) := by decide +kernel
theorem dX8_againstSetting_14 : decode cX8_againstSetting 14 = .ok (.ifCond .le 8, 3) := by decide +kernel
theorem dX8_againstSetting_22 : decode cX8_againstSetting 22 = .ok (.iconst 0, 1) := by decide +kernel
theorem dX8_againstSetting_23 : decode cX8_againstSetting 23 = .ok (.ireturn, 1) := by decide +kernel
theorem dX8_againstSpan_0 : decode cX8_againstSpan 0 = .ok (.aload_n 0, 1) := by decide +kernel
theorem dX8_againstSpan_1 : decode cX8_againstSpan 1 = .ok (.getfield 141, 3) := by decide +kernel
theorem dX8_againstSpan_4 : decode cX8_againstSpan 4 = .ok (.invokevirtual 145, 3) := by decide +kernel
theorem dX8_againstSpan_7 : decode cX8_againstSpan 7 = .ok (.astore_n 3, 1) := by decide +kernel
theorem dX8_againstSpan_8 : decode cX8_againstSpan 8 = .ok (.aload_n 3, 1) := by decide +kernel
theorem dX8_againstSpan_9 : decode cX8_againstSpan 9 = .ok (.ifnull 17, 3) := by decide +kernel
theorem dX8_againstSpan_26 : decode cX8_againstSpan 26 = .ok (.bipush 11, 2) := by decide +kernel
theorem dX8_againstSpan_28 : decode cX8_againstSpan 28 = .ok (.ireturn, 1) := by decide +kernel
theorem dX8_againstTake_0 : decode cX8_againstTake 0 = .ok (.aload_n 0, 1) := by decide +kernel
theorem dX8_againstTake_1 : decode cX8_againstTake 1 = .ok (.iload_n 1, 1) := by decide +kernel
theorem dX8_againstTake_2 : decode cX8_againstTake 2 = .ok (.invokevirtual 166, 3) := by decide +kernel
theorem dX8_againstTake_5 : decode cX8_againstTake 5 = .ok (.astore_n 2, 1) := by decide +kernel
theorem dX8_againstTake_6 : decode cX8_againstTake 6 = .ok (.aload_n 2, 1) := by decide +kernel
theorem dX8_againstTake_7 : decode cX8_againstTake 7 = .ok (.ifnonnull 6, 3) := by decide +kernel
theorem dX8_againstTake_10 : decode cX8_againstTake 10 = .ok (.bipush 9, 2) := by decide +kernel
theorem dX8_againstTake_12 : decode cX8_againstTake 12 = .ok (.ireturn, 1) := by decide +kernel
theorem dX8_againstTake_13 : decode cX8_againstTake 13 = .ok (.aload_n 0, 1) := by decide +kernel
theorem dX8_againstTake_14 : decode cX8_againstTake 14 = .ok (.getfield 141, 3) := by decide +kernel
theorem dX8_againstTake_17 : decode cX8_againstTake 17 = .ok (.invokevirtual 170, 3) := by decide +kernel
theorem dX8_againstTake_20 : decode cX8_againstTake 20 = .ok (.ifCond .eq 10, 3) := by decide +kernel
theorem dX8_againstTake_23 : decode cX8_againstTake 23 = .ok (.aload_n 2, 1) := by decide +kernel
theorem dX8_againstTake_24 : decode cX8_againstTake 24 = .ok (.invokevirtual 170, 3) := by decide +kernel
theorem dX8_againstTake_27 : decode cX8_againstTake 27 = .ok (.ifCond .eq 8, 3) := by decide +kernel
theorem dX8_againstTake_30 : decode cX8_againstTake 30 = .ok (.bipush 11, 2) := by decide +kernel
theorem dX8_againstTake_32 : decode cX8_againstTake 32 = .ok (.goto 4, 3) := by decide +kernel
theorem dX8_againstTake_36 : decode cX8_againstTake 36 = .ok (.ireturn, 1) := by decide +kernel
theorem dX8_againstThere_0 : decode cX8_againstThere 0 = .ok (.aload_n 0, 1) := by decide +kernel
theorem dX8_againstThere_1 : decode cX8_againstThere 1 = .ok (.iload_n 1, 1) := by decide +kernel
theorem dX8_againstThere_2 : decode cX8_againstThere 2 = .ok (.invokevirtual 114, 3) := by decide +kernel
theorem dX8_againstThere_5 : decode cX8_againstThere 5 = .ok (.ifCond .ne 6, 3) := by decide +kernel
theorem dX8_againstThere_8 : decode cX8_againstThere 8 = .ok (.bipush 9, 2) := by decide +kernel
theorem dX8_againstThere_10 : decode cX8_againstThere 10 = .ok (.ireturn, 1) := by decide +kernel
theorem dX8_againstThere_11 : decode cX8_againstThere 11 = .ok (.aload_n 0, 1) := by decide +kernel
theorem dX8_againstThere_12 : decode cX8_againstThere 12 = .ok (.iload_n 1, 1) := by decide +kernel
theorem dX8_againstThere_13 : decode cX8_againstThere 13 = .ok (.invokevirtual 82, 3) := by decide +kernel
theorem dX8_againstThere_16 : decode cX8_againstThere 16 = .ok (.ifCond .eq 8, 3) := by decide +kernel
theorem dX8_againstThere_24 : decode cX8_againstThere 24 = .ok (.iconst 0, 1) := by decide +kernel
theorem dX8_againstThere_25 : decode cX8_againstThere 25 = .ok (.ireturn, 1) := by decide +kernel
theorem dX8_againstWord_0 : decode cX8_againstWord 0 = .ok (.aload_n 0, 1) := by decide +kernel
theorem dX8_againstWord_1 : decode cX8_againstWord 1 = .ok (.getfield 141, 3) := by decide +kernel
theorem dX8_againstWord_4 : decode cX8_againstWord 4 = .ok (.invokevirtual 145, 3) := by decide +kernel
theorem dX8_againstWord_7 : decode cX8_againstWord 7 = .ok (.astore 5, 2) := by decide +kernel
theorem dX8_againstWord_9 : decode cX8_againstWord 9 = .ok (.aload 5, 2) := by decide +kernel
theorem dX8_againstWord_11 : decode cX8_againstWord 11 = .ok (.ifnull 20, 3) := by decide +kernel
theorem dX8_againstWord_31 : decode cX8_againstWord 31 = .ok (.bipush 11, 2) := by decide +kernel
theorem dX8_againstWord_33 : decode cX8_againstWord 33 = .ok (.ireturn, 1) := by decide +kernel
theorem dX9_become_0 : decode cX9_become 0 = .ok (.aload_n 0, 1) := by decide +kernel
theorem dX9_become_1 : decode cX9_become 1 = .ok (.iconst 0, 1) := by decide +kernel
theorem dX9_become_2 : decode cX9_become 2 = .ok (.aload_n 1, 1) := by decide +kernel
theorem dX9_become_3 : decode cX9_become 3 = .ok (.getfield 15, 3) := by decide +kernel
theorem dX9_become_6 : decode cX9_become 6 = .ok (.aload_n 0, 1) := by decide +kernel
theorem dX9_become_7 : decode cX9_become 7 = .ok (.getfield 9, 3) := by decide +kernel
theorem dX9_become_10 : decode cX9_become 10 = .ok (.arraylength, 1) := by decide +kernel
theorem dX9_become_11 : decode cX9_become 11 = .ok (.invokestatic 19, 3) := by decide +kernel
theorem dX9_become_14 : decode cX9_become 14 = .ok (.invokestatic 25, 3) := by decide +kernel
theorem dX9_become_17 : decode cX9_become 17 = .ok (.putfield 15, 3) := by decide +kernel
theorem dX9_become_20 : decode cX9_become 20 = .ok (.aload_n 1, 1) := by decide +kernel
theorem dX9_become_21 : decode cX9_become 21 = .ok (.getfield 9, 3) := by decide +kernel
theorem dX9_become_24 : decode cX9_become 24 = .ok (.iconst 0, 1) := by decide +kernel
theorem dX9_become_25 : decode cX9_become 25 = .ok (.aload_n 0, 1) := by decide +kernel
theorem dX9_become_26 : decode cX9_become 26 = .ok (.getfield 9, 3) := by decide +kernel
theorem dX9_become_29 : decode cX9_become 29 = .ok (.iconst 0, 1) := by decide +kernel
theorem dX9_become_30 : decode cX9_become 30 = .ok (.aload_n 0, 1) := by decide +kernel
theorem dX9_become_31 : decode cX9_become 31 = .ok (.getfield 15, 3) := by decide +kernel
theorem dX9_become_34 : decode cX9_become 34 = .ok (.invokestatic 28, 3) := by decide +kernel
theorem dX9_become_37 : decode cX9_become 37 = .ok (.return_, 1) := by decide +kernel
theorem dX9_init_0 : decode cX9_init 0 = .ok (.aload_n 0, 1) := by decide +kernel
theorem dX9_init_1 : decode cX9_init 1 = .ok (.invokespecial 3, 3) := by decide +kernel
theorem dX9_init_4 : decode cX9_init 4 = .ok (.aload_n 0, 1) := by decide +kernel
theorem dX9_init_5 : decode cX9_init 5 = .ok (.sipush 400, 3) := by decide +kernel
theorem dX9_init_8 : decode cX9_init 8 = .ok (.newarray .int, 2) := by decide +kernel
theorem dX9_init_10 : decode cX9_init 10 = .ok (.putfield 9, 3) := by decide +kernel
theorem dX9_init_13 : decode cX9_init 13 = .ok (.return_, 1) := by decide +kernel
theorem dX9_wordAt_0 : decode cX9_wordAt 0 = .ok (.iload_n 1, 1) := by decide +kernel
theorem dX9_wordAt_1 : decode cX9_wordAt 1 = .ok (.ifCond .lt 20, 3) := by decide +kernel
theorem dX9_wordAt_4 : decode cX9_wordAt 4 = .ok (.iload_n 1, 1) := by decide +kernel
theorem dX9_wordAt_5 : decode cX9_wordAt 5 = .ok (.aload_n 0, 1) := by decide +kernel
theorem dX9_wordAt_6 : decode cX9_wordAt 6 = .ok (.getfield 15, 3) := by decide +kernel
theorem dX9_wordAt_9 : decode cX9_wordAt 9 = .ok (.if_icmp .ge 12, 3) := by decide +kernel
theorem dX9_wordAt_21 : decode cX9_wordAt 21 = .ok (.iconst (-1), 1) := by decide +kernel
theorem dX9_wordAt_22 : decode cX9_wordAt 22 = .ok (.goto 9, 3) := by decide +kernel
theorem dX9_wordAt_31 : decode cX9_wordAt 31 = .ok (.ireturn, 1) := by decide +kernel
