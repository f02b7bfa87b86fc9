theorem dL_law_0 : decode code 0 = .ok (.new 7, 3) := by decide +kernel
theorem dL_law_3 : decode code 3 = .ok (.dup, 1) := by decide +kernel
theorem dL_law_4 : decode code 4 = .ok (.invokespecial 9, 3) := by decide +kernel
theorem dL_law_7 : decode code 7 = .ok (.astore_n 1, 1) := by decide +kernel
theorem dL_law_8 : decode code 8 = .ok (.new 10, 3) := by decide +kernel
theorem dL_law_11 : decode code 11 = .ok (.dup, 1) := by decide +kernel
theorem dL_law_12 : decode code 12 = .ok (.invokespecial 12, 3) := by decide +kernel
theorem dL_law_15 : decode code 15 = .ok (.astore_n 2, 1) := by decide +kernel
theorem dL_law_16 : decode code 16 = .ok (.iconst 0, 1) := by decide +kernel
theorem dL_law_17 : decode code 17 = .ok (.istore_n 3, 1) := by decide +kernel
theorem dL_law_18 : decode code 18 = .ok (.iload_n 3, 1) := by decide +kernel
theorem dL_law_19 : decode code 19 = .ok (.aload_n 0, 1) := by decide +kernel
theorem dL_law_20 : decode code 20 = .ok (.arraylength, 1) := by decide +kernel
theorem dL_law_21 : decode code 21 = .ok (.bipush 6, 2) := by decide +kernel
theorem dL_law_23 : decode code 23 = .ok (.isub, 1) := by decide +kernel
theorem dL_law_24 : decode code 24 = .ok (.if_icmp .gt 1676, 3) := by decide +kernel
theorem dL_law_27 : decode code 27 = .ok (.aload_n 0, 1) := by decide +kernel
theorem dL_law_28 : decode code 28 = .ok (.iload_n 3, 1) := by decide +kernel
theorem dL_law_29 : decode code 29 = .ok (.iaload, 1) := by decide +kernel
theorem dL_law_30 : decode code 30 = .ok (.bipush 63, 2) := by decide +kernel
theorem dL_law_32 : decode code 32 = .ok (.iand, 1) := by decide +kernel
theorem dL_law_33 : decode code 33 = .ok (.tableswitch 1661 0 45 #[199, 262, 285, 308, 341, 364, 407, 430, 453, 476, 499, 542, 565, 578, 601, 624, 657, 680, 713, 726, 759, 802, 825, 848, 871, 894, 927, 960, 973, 1027, 1071, 1104, 1137, 1191, 1224, 1267, 1310, 1333, 1376, 1409, 1432, 1475, 1549, 1592, 1615, 1638], 199) := by decide +kernel
theorem dL_law_232 : decode code 232 = .ok (.aload_n 1, 1) := by decide +kernel
theorem dL_law_233 : decode code 233 = .ok (.aload_n 0, 1) := by decide +kernel
theorem dL_law_234 : decode code 234 = .ok (.iload_n 3, 1) := by decide +kernel
theorem dL_law_235 : decode code 235 = .ok (.iconst 1, 1) := by decide +kernel
theorem dL_law_236 : decode code 236 = .ok (.iadd, 1) := by decide +kernel
theorem dL_law_237 : decode code 237 = .ok (.iaload, 1) := by decide +kernel
theorem dL_law_238 : decode code 238 = .ok (.aload_n 0, 1) := by decide +kernel
theorem dL_law_239 : decode code 239 = .ok (.iload_n 3, 1) := by decide +kernel
theorem dL_law_240 : decode code 240 = .ok (.iconst 2, 1) := by decide +kernel
theorem dL_law_241 : decode code 241 = .ok (.iadd, 1) := by decide +kernel
theorem dL_law_242 : decode code 242 = .ok (.iaload, 1) := by decide +kernel
theorem dL_law_243 : decode code 243 = .ok (.aload_n 0, 1) := by decide +kernel
theorem dL_law_244 : decode code 244 = .ok (.iload_n 3, 1) := by decide +kernel
theorem dL_law_245 : decode code 245 = .ok (.iconst 3, 1) := by decide +kernel
theorem dL_law_246 : decode code 246 = .ok (.iadd, 1) := by decide +kernel
theorem dL_law_247 : decode code 247 = .ok (.iaload, 1) := by decide +kernel
theorem dL_law_248 : decode code 248 = .ok (.aload_n 0, 1) := by decide +kernel
theorem dL_law_249 : decode code 249 = .ok (.iload_n 3, 1) := by decide +kernel
theorem dL_law_250 : decode code 250 = .ok (.iconst 4, 1) := by decide +kernel
theorem dL_law_251 : decode code 251 = .ok (.iadd, 1) := by decide +kernel
theorem dL_law_252 : decode code 252 = .ok (.iaload, 1) := by decide +kernel
theorem dL_law_253 : decode code 253 = .ok (.aload_n 0, 1) := by decide +kernel
theorem dL_law_254 : decode code 254 = .ok (.iload_n 3, 1) := by decide +kernel
theorem dL_law_255 : decode code 255 = .ok (.iconst 5, 1) := by decide +kernel
theorem dL_law_256 : decode code 256 = .ok (.iadd, 1) := by decide +kernel
theorem dL_law_257 : decode code 257 = .ok (.iaload, 1) := by decide +kernel
theorem dL_law_258 : decode code 258 = .ok (.invokevirtual 13, 3) := by decide +kernel
theorem dL_law_261 : decode code 261 = .ok (.aload_n 2, 1) := by decide +kernel
theorem dL_law_262 : decode code 262 = .ok (.aload_n 0, 1) := by decide +kernel
theorem dL_law_263 : decode code 263 = .ok (.iload_n 3, 1) := by decide +kernel
theorem dL_law_264 : decode code 264 = .ok (.iconst 1, 1) := by decide +kernel
theorem dL_law_265 : decode code 265 = .ok (.iadd, 1) := by decide +kernel
theorem dL_law_266 : decode code 266 = .ok (.iaload, 1) := by decide +kernel
theorem dL_law_267 : decode code 267 = .ok (.aload_n 0, 1) := by decide +kernel
theorem dL_law_268 : decode code 268 = .ok (.iload_n 3, 1) := by decide +kernel
theorem dL_law_269 : decode code 269 = .ok (.iconst 2, 1) := by decide +kernel
theorem dL_law_270 : decode code 270 = .ok (.iadd, 1) := by decide +kernel
theorem dL_law_271 : decode code 271 = .ok (.iaload, 1) := by decide +kernel
theorem dL_law_272 : decode code 272 = .ok (.aload_n 0, 1) := by decide +kernel
theorem dL_law_273 : decode code 273 = .ok (.iload_n 3, 1) := by decide +kernel
theorem dL_law_274 : decode code 274 = .ok (.iconst 3, 1) := by decide +kernel
theorem dL_law_275 : decode code 275 = .ok (.iadd, 1) := by decide +kernel
theorem dL_law_276 : decode code 276 = .ok (.iaload, 1) := by decide +kernel
theorem dL_law_277 : decode code 277 = .ok (.aload_n 0, 1) := by decide +kernel
theorem dL_law_278 : decode code 278 = .ok (.iload_n 3, 1) := by decide +kernel
theorem dL_law_279 : decode code 279 = .ok (.iconst 4, 1) := by decide +kernel
theorem dL_law_280 : decode code 280 = .ok (.iadd, 1) := by decide +kernel
theorem dL_law_281 : decode code 281 = .ok (.iaload, 1) := by decide +kernel
theorem dL_law_282 : decode code 282 = .ok (.aload_n 0, 1) := by decide +kernel
theorem dL_law_283 : decode code 283 = .ok (.iload_n 3, 1) := by decide +kernel
theorem dL_law_284 : decode code 284 = .ok (.iconst 5, 1) := by decide +kernel
theorem dL_law_285 : decode code 285 = .ok (.iadd, 1) := by decide +kernel
theorem dL_law_286 : decode code 286 = .ok (.iaload, 1) := by decide +kernel
theorem dL_law_287 : decode code 287 = .ok (.invokevirtual 17, 3) := by decide +kernel
theorem dL_law_290 : decode code 290 = .ok (.if_icmp .eq 1404, 3) := by decide +kernel
theorem dL_law_293 : decode code 293 = .ok (.iconst 0, 1) := by decide +kernel
theorem dL_law_294 : decode code 294 = .ok (.ireturn, 1) := by decide +kernel
theorem dL_law_295 : decode code 295 = .ok (.aload_n 1, 1) := by decide +kernel
theorem dL_law_296 : decode code 296 = .ok (.aload_n 0, 1) := by decide +kernel
theorem dL_law_297 : decode code 297 = .ok (.iload_n 3, 1) := by decide +kernel
theorem dL_law_298 : decode code 298 = .ok (.iconst 1, 1) := by decide +kernel
theorem dL_law_299 : decode code 299 = .ok (.iadd, 1) := by decide +kernel
theorem dL_law_300 : decode code 300 = .ok (.iaload, 1) := by decide +kernel
theorem dL_law_301 : decode code 301 = .ok (.invokevirtual 18, 3) := by decide +kernel
theorem dL_law_304 : decode code 304 = .ok (.aload_n 2, 1) := by decide +kernel
theorem dL_law_305 : decode code 305 = .ok (.aload_n 0, 1) := by decide +kernel
theorem dL_law_306 : decode code 306 = .ok (.iload_n 3, 1) := by decide +kernel
theorem dL_law_307 : decode code 307 = .ok (.iconst 1, 1) := by decide +kernel
theorem dL_law_308 : decode code 308 = .ok (.iadd, 1) := by decide +kernel
theorem dL_law_309 : decode code 309 = .ok (.iaload, 1) := by decide +kernel
theorem dL_law_310 : decode code 310 = .ok (.invokevirtual 22, 3) := by decide +kernel
theorem dL_law_313 : decode code 313 = .ok (.if_icmp .eq 1381, 3) := by decide +kernel
theorem dL_law_316 : decode code 316 = .ok (.iconst 0, 1) := by decide +kernel
theorem dL_law_317 : decode code 317 = .ok (.ireturn, 1) := by decide +kernel
theorem dL_law_318 : decode code 318 = .ok (.aload_n 1, 1) := by decide +kernel
theorem dL_law_319 : decode code 319 = .ok (.aload_n 0, 1) := by decide +kernel
theorem dL_law_320 : decode code 320 = .ok (.iload_n 3, 1) := by decide +kernel
theorem dL_law_321 : decode code 321 = .ok (.iconst 1, 1) := by decide +kernel
theorem dL_law_322 : decode code 322 = .ok (.iadd, 1) := by decide +kernel
theorem dL_law_323 : decode code 323 = .ok (.iaload, 1) := by decide +kernel
theorem dL_law_324 : decode code 324 = .ok (.invokevirtual 23, 3) := by decide +kernel
theorem dL_law_327 : decode code 327 = .ok (.aload_n 2, 1) := by decide +kernel
theorem dL_law_328 : decode code 328 = .ok (.aload_n 0, 1) := by decide +kernel
theorem dL_law_329 : decode code 329 = .ok (.iload_n 3, 1) := by decide +kernel
theorem dL_law_330 : decode code 330 = .ok (.iconst 1, 1) := by decide +kernel
theorem dL_law_331 : decode code 331 = .ok (.iadd, 1) := by decide +kernel
theorem dL_law_332 : decode code 332 = .ok (.iaload, 1) := by decide +kernel
theorem dL_law_333 : decode code 333 = .ok (.invokevirtual 26, 3) := by decide +kernel
theorem dL_law_336 : decode code 336 = .ok (.if_icmp .eq 1358, 3) := by decide +kernel
theorem dL_law_339 : decode code 339 = .ok (.iconst 0, 1) := by decide +kernel
theorem dL_law_340 : decode code 340 = .ok (.ireturn, 1) := by decide +kernel
theorem dL_law_341 : decode code 341 = .ok (.aload_n 1, 1) := by decide +kernel
theorem dL_law_342 : decode code 342 = .ok (.aload_n 0, 1) := by decide +kernel
theorem dL_law_343 : decode code 343 = .ok (.iload_n 3, 1) := by decide +kernel
theorem dL_law_344 : decode code 344 = .ok (.iconst 1, 1) := by decide +kernel
theorem dL_law_345 : decode code 345 = .ok (.iadd, 1) := by decide +kernel
theorem dL_law_346 : decode code 346 = .ok (.iaload, 1) := by decide +kernel
theorem dL_law_347 : decode code 347 = .ok (.aload_n 0, 1) := by decide +kernel
theorem dL_law_348 : decode code 348 = .ok (.iload_n 3, 1) := by decide +kernel
theorem dL_law_349 : decode code 349 = .ok (.iconst 2, 1) := by decide +kernel
theorem dL_law_350 : decode code 350 = .ok (.iadd, 1) := by decide +kernel
theorem dL_law_351 : decode code 351 = .ok (.iaload, 1) := by decide +kernel
theorem dL_law_352 : decode code 352 = .ok (.invokevirtual 27, 3) := by decide +kernel
theorem dL_law_355 : decode code 355 = .ok (.aload_n 2, 1) := by decide +kernel
theorem dL_law_356 : decode code 356 = .ok (.aload_n 0, 1) := by decide +kernel
theorem dL_law_357 : decode code 357 = .ok (.iload_n 3, 1) := by decide +kernel
theorem dL_law_358 : decode code 358 = .ok (.iconst 1, 1) := by decide +kernel
theorem dL_law_359 : decode code 359 = .ok (.iadd, 1) := by decide +kernel
theorem dL_law_360 : decode code 360 = .ok (.iaload, 1) := by decide +kernel
theorem dL_law_361 : decode code 361 = .ok (.aload_n 0, 1) := by decide +kernel
theorem dL_law_362 : decode code 362 = .ok (.iload_n 3, 1) := by decide +kernel
theorem dL_law_363 : decode code 363 = .ok (.iconst 2, 1) := by decide +kernel
theorem dL_law_364 : decode code 364 = .ok (.iadd, 1) := by decide +kernel
theorem dL_law_365 : decode code 365 = .ok (.iaload, 1) := by decide +kernel
theorem dL_law_366 : decode code 366 = .ok (.invokevirtual 31, 3) := by decide +kernel
theorem dL_law_369 : decode code 369 = .ok (.if_icmp .eq 1325, 3) := by decide +kernel
theorem dL_law_372 : decode code 372 = .ok (.iconst 0, 1) := by decide +kernel
theorem dL_law_373 : decode code 373 = .ok (.ireturn, 1) := by decide +kernel
theorem dL_law_374 : decode code 374 = .ok (.aload_n 1, 1) := by decide +kernel
theorem dL_law_375 : decode code 375 = .ok (.aload_n 0, 1) := by decide +kernel
theorem dL_law_376 : decode code 376 = .ok (.iload_n 3, 1) := by decide +kernel
theorem dL_law_377 : decode code 377 = .ok (.iconst 1, 1) := by decide +kernel
theorem dL_law_378 : decode code 378 = .ok (.iadd, 1) := by decide +kernel
theorem dL_law_379 : decode code 379 = .ok (.iaload, 1) := by decide +kernel
theorem dL_law_380 : decode code 380 = .ok (.invokevirtual 32, 3) := by decide +kernel
theorem dL_law_383 : decode code 383 = .ok (.aload_n 2, 1) := by decide +kernel
theorem dL_law_384 : decode code 384 = .ok (.aload_n 0, 1) := by decide +kernel
theorem dL_law_385 : decode code 385 = .ok (.iload_n 3, 1) := by decide +kernel
theorem dL_law_386 : decode code 386 = .ok (.iconst 1, 1) := by decide +kernel
theorem dL_law_387 : decode code 387 = .ok (.iadd, 1) := by decide +kernel
theorem dL_law_388 : decode code 388 = .ok (.iaload, 1) := by decide +kernel
theorem dL_law_389 : decode code 389 = .ok (.invokevirtual 35, 3) := by decide +kernel
theorem dL_law_392 : decode code 392 = .ok (.if_icmp .eq 1302, 3) := by decide +kernel
theorem dL_law_395 : decode code 395 = .ok (.iconst 0, 1) := by decide +kernel
theorem dL_law_396 : decode code 396 = .ok (.ireturn, 1) := by decide +kernel
theorem dL_law_397 : decode code 397 = .ok (.aload_n 1, 1) := by decide +kernel
theorem dL_law_398 : decode code 398 = .ok (.aload_n 0, 1) := by decide +kernel
theorem dL_law_399 : decode code 399 = .ok (.iload_n 3, 1) := by decide +kernel
theorem dL_law_400 : decode code 400 = .ok (.iconst 1, 1) := by decide +kernel
theorem dL_law_401 : decode code 401 = .ok (.iadd, 1) := by decide +kernel
theorem dL_law_402 : decode code 402 = .ok (.iaload, 1) := by decide +kernel
theorem dL_law_403 : decode code 403 = .ok (.aload_n 0, 1) := by decide +kernel
theorem dL_law_404 : decode code 404 = .ok (.iload_n 3, 1) := by decide +kernel
theorem dL_law_405 : decode code 405 = .ok (.iconst 2, 1) := by decide +kernel
theorem dL_law_406 : decode code 406 = .ok (.iadd, 1) := by decide +kernel
theorem dL_law_407 : decode code 407 = .ok (.iaload, 1) := by decide +kernel
theorem dL_law_408 : decode code 408 = .ok (.aload_n 0, 1) := by decide +kernel
theorem dL_law_409 : decode code 409 = .ok (.iload_n 3, 1) := by decide +kernel
theorem dL_law_410 : decode code 410 = .ok (.iconst 3, 1) := by decide +kernel
theorem dL_law_411 : decode code 411 = .ok (.iadd, 1) := by decide +kernel
theorem dL_law_412 : decode code 412 = .ok (.iaload, 1) := by decide +kernel
theorem dL_law_413 : decode code 413 = .ok (.invokevirtual 36, 3) := by decide +kernel
theorem dL_law_416 : decode code 416 = .ok (.aload_n 2, 1) := by decide +kernel
theorem dL_law_417 : decode code 417 = .ok (.aload_n 0, 1) := by decide +kernel
theorem dL_law_418 : decode code 418 = .ok (.iload_n 3, 1) := by decide +kernel
theorem dL_law_419 : decode code 419 = .ok (.iconst 1, 1) := by decide +kernel
theorem dL_law_420 : decode code 420 = .ok (.iadd, 1) := by decide +kernel
theorem dL_law_421 : decode code 421 = .ok (.iaload, 1) := by decide +kernel
theorem dL_law_422 : decode code 422 = .ok (.aload_n 0, 1) := by decide +kernel
theorem dL_law_423 : decode code 423 = .ok (.iload_n 3, 1) := by decide +kernel
theorem dL_law_424 : decode code 424 = .ok (.iconst 2, 1) := by decide +kernel
theorem dL_law_425 : decode code 425 = .ok (.iadd, 1) := by decide +kernel
theorem dL_law_426 : decode code 426 = .ok (.iaload, 1) := by decide +kernel
theorem dL_law_427 : decode code 427 = .ok (.aload_n 0, 1) := by decide +kernel
theorem dL_law_428 : decode code 428 = .ok (.iload_n 3, 1) := by decide +kernel
theorem dL_law_429 : decode code 429 = .ok (.iconst 3, 1) := by decide +kernel
theorem dL_law_430 : decode code 430 = .ok (.iadd, 1) := by decide +kernel
theorem dL_law_431 : decode code 431 = .ok (.iaload, 1) := by decide +kernel
theorem dL_law_432 : decode code 432 = .ok (.invokevirtual 40, 3) := by decide +kernel
theorem dL_law_435 : decode code 435 = .ok (.if_icmp .eq 1259, 3) := by decide +kernel
theorem dL_law_438 : decode code 438 = .ok (.iconst 0, 1) := by decide +kernel
theorem dL_law_439 : decode code 439 = .ok (.ireturn, 1) := by decide +kernel
theorem dL_law_440 : decode code 440 = .ok (.aload_n 1, 1) := by decide +kernel
theorem dL_law_441 : decode code 441 = .ok (.aload_n 0, 1) := by decide +kernel
theorem dL_law_442 : decode code 442 = .ok (.iload_n 3, 1) := by decide +kernel
theorem dL_law_443 : decode code 443 = .ok (.iconst 1, 1) := by decide +kernel
theorem dL_law_444 : decode code 444 = .ok (.iadd, 1) := by decide +kernel
theorem dL_law_445 : decode code 445 = .ok (.iaload, 1) := by decide +kernel
theorem dL_law_446 : decode code 446 = .ok (.invokevirtual 41, 3) := by decide +kernel
theorem dL_law_449 : decode code 449 = .ok (.aload_n 2, 1) := by decide +kernel
theorem dL_law_450 : decode code 450 = .ok (.aload_n 0, 1) := by decide +kernel
theorem dL_law_451 : decode code 451 = .ok (.iload_n 3, 1) := by decide +kernel
theorem dL_law_452 : decode code 452 = .ok (.iconst 1, 1) := by decide +kernel
theorem dL_law_453 : decode code 453 = .ok (.iadd, 1) := by decide +kernel
theorem dL_law_454 : decode code 454 = .ok (.iaload, 1) := by decide +kernel
theorem dL_law_455 : decode code 455 = .ok (.invokevirtual 44, 3) := by decide +kernel
theorem dL_law_458 : decode code 458 = .ok (.if_icmp .eq 1236, 3) := by decide +kernel
theorem dL_law_461 : decode code 461 = .ok (.iconst 0, 1) := by decide +kernel
theorem dL_law_462 : decode code 462 = .ok (.ireturn, 1) := by decide +kernel
theorem dL_law_463 : decode code 463 = .ok (.aload_n 1, 1) := by decide +kernel
theorem dL_law_464 : decode code 464 = .ok (.aload_n 0, 1) := by decide +kernel
theorem dL_law_465 : decode code 465 = .ok (.iload_n 3, 1) := by decide +kernel
theorem dL_law_466 : decode code 466 = .ok (.iconst 1, 1) := by decide +kernel
theorem dL_law_467 : decode code 467 = .ok (.iadd, 1) := by decide +kernel
theorem dL_law_468 : decode code 468 = .ok (.iaload, 1) := by decide +kernel
theorem dL_law_469 : decode code 469 = .ok (.invokevirtual 45, 3) := by decide +kernel
theorem dL_law_472 : decode code 472 = .ok (.aload_n 2, 1) := by decide +kernel
theorem dL_law_473 : decode code 473 = .ok (.aload_n 0, 1) := by decide +kernel
theorem dL_law_474 : decode code 474 = .ok (.iload_n 3, 1) := by decide +kernel
theorem dL_law_475 : decode code 475 = .ok (.iconst 1, 1) := by decide +kernel
theorem dL_law_476 : decode code 476 = .ok (.iadd, 1) := by decide +kernel
theorem dL_law_477 : decode code 477 = .ok (.iaload, 1) := by decide +kernel
theorem dL_law_478 : decode code 478 = .ok (.invokevirtual 48, 3) := by decide +kernel
theorem dL_law_481 : decode code 481 = .ok (.if_icmp .eq 1213, 3) := by decide +kernel
theorem dL_law_484 : decode code 484 = .ok (.iconst 0, 1) := by decide +kernel
theorem dL_law_485 : decode code 485 = .ok (.ireturn, 1) := by decide +kernel
theorem dL_law_486 : decode code 486 = .ok (.aload_n 1, 1) := by decide +kernel
theorem dL_law_487 : decode code 487 = .ok (.aload_n 0, 1) := by decide +kernel
theorem dL_law_488 : decode code 488 = .ok (.iload_n 3, 1) := by decide +kernel
theorem dL_law_489 : decode code 489 = .ok (.iconst 1, 1) := by decide +kernel
theorem dL_law_490 : decode code 490 = .ok (.iadd, 1) := by decide +kernel
theorem dL_law_491 : decode code 491 = .ok (.iaload, 1) := by decide +kernel
theorem dL_law_492 : decode code 492 = .ok (.invokevirtual 49, 3) := by decide +kernel
theorem dL_law_495 : decode code 495 = .ok (.aload_n 2, 1) := by decide +kernel
theorem dL_law_496 : decode code 496 = .ok (.aload_n 0, 1) := by decide +kernel
theorem dL_law_497 : decode code 497 = .ok (.iload_n 3, 1) := by decide +kernel
theorem dL_law_498 : decode code 498 = .ok (.iconst 1, 1) := by decide +kernel
theorem dL_law_499 : decode code 499 = .ok (.iadd, 1) := by decide +kernel
theorem dL_law_500 : decode code 500 = .ok (.iaload, 1) := by decide +kernel
theorem dL_law_501 : decode code 501 = .ok (.invokevirtual 52, 3) := by decide +kernel
theorem dL_law_504 : decode code 504 = .ok (.if_icmp .eq 1190, 3) := by decide +kernel
theorem dL_law_507 : decode code 507 = .ok (.iconst 0, 1) := by decide +kernel
theorem dL_law_508 : decode code 508 = .ok (.ireturn, 1) := by decide +kernel
theorem dL_law_509 : decode code 509 = .ok (.aload_n 1, 1) := by decide +kernel
theorem dL_law_510 : decode code 510 = .ok (.aload_n 0, 1) := by decide +kernel
theorem dL_law_511 : decode code 511 = .ok (.iload_n 3, 1) := by decide +kernel
theorem dL_law_512 : decode code 512 = .ok (.iconst 1, 1) := by decide +kernel
theorem dL_law_513 : decode code 513 = .ok (.iadd, 1) := by decide +kernel
theorem dL_law_514 : decode code 514 = .ok (.iaload, 1) := by decide +kernel
theorem dL_law_515 : decode code 515 = .ok (.invokevirtual 53, 3) := by decide +kernel
theorem dL_law_518 : decode code 518 = .ok (.aload_n 2, 1) := by decide +kernel
theorem dL_law_519 : decode code 519 = .ok (.aload_n 0, 1) := by decide +kernel
theorem dL_law_520 : decode code 520 = .ok (.iload_n 3, 1) := by decide +kernel
theorem dL_law_521 : decode code 521 = .ok (.iconst 1, 1) := by decide +kernel
theorem dL_law_522 : decode code 522 = .ok (.iadd, 1) := by decide +kernel
theorem dL_law_523 : decode code 523 = .ok (.iaload, 1) := by decide +kernel
theorem dL_law_524 : decode code 524 = .ok (.invokevirtual 56, 3) := by decide +kernel
theorem dL_law_527 : decode code 527 = .ok (.if_icmp .eq 1167, 3) := by decide +kernel
theorem dL_law_530 : decode code 530 = .ok (.iconst 0, 1) := by decide +kernel
theorem dL_law_531 : decode code 531 = .ok (.ireturn, 1) := by decide +kernel
theorem dL_law_532 : decode code 532 = .ok (.aload_n 1, 1) := by decide +kernel
theorem dL_law_533 : decode code 533 = .ok (.aload_n 0, 1) := by decide +kernel
theorem dL_law_534 : decode code 534 = .ok (.iload_n 3, 1) := by decide +kernel
theorem dL_law_535 : decode code 535 = .ok (.iconst 1, 1) := by decide +kernel
theorem dL_law_536 : decode code 536 = .ok (.iadd, 1) := by decide +kernel
theorem dL_law_537 : decode code 537 = .ok (.iaload, 1) := by decide +kernel
theorem dL_law_538 : decode code 538 = .ok (.aload_n 0, 1) := by decide +kernel
theorem dL_law_539 : decode code 539 = .ok (.iload_n 3, 1) := by decide +kernel
theorem dL_law_540 : decode code 540 = .ok (.iconst 2, 1) := by decide +kernel
theorem dL_law_541 : decode code 541 = .ok (.iadd, 1) := by decide +kernel
theorem dL_law_542 : decode code 542 = .ok (.iaload, 1) := by decide +kernel
theorem dL_law_543 : decode code 543 = .ok (.aload_n 0, 1) := by decide +kernel
theorem dL_law_544 : decode code 544 = .ok (.iload_n 3, 1) := by decide +kernel
theorem dL_law_545 : decode code 545 = .ok (.iconst 3, 1) := by decide +kernel
theorem dL_law_546 : decode code 546 = .ok (.iadd, 1) := by decide +kernel
theorem dL_law_547 : decode code 547 = .ok (.iaload, 1) := by decide +kernel
theorem dL_law_548 : decode code 548 = .ok (.invokevirtual 57, 3) := by decide +kernel
theorem dL_law_551 : decode code 551 = .ok (.aload_n 2, 1) := by decide +kernel
theorem dL_law_552 : decode code 552 = .ok (.aload_n 0, 1) := by decide +kernel
theorem dL_law_553 : decode code 553 = .ok (.iload_n 3, 1) := by decide +kernel
theorem dL_law_554 : decode code 554 = .ok (.iconst 1, 1) := by decide +kernel
theorem dL_law_555 : decode code 555 = .ok (.iadd, 1) := by decide +kernel
theorem dL_law_556 : decode code 556 = .ok (.iaload, 1) := by decide +kernel
theorem dL_law_557 : decode code 557 = .ok (.aload_n 0, 1) := by decide +kernel
theorem dL_law_558 : decode code 558 = .ok (.iload_n 3, 1) := by decide +kernel
theorem dL_law_559 : decode code 559 = .ok (.iconst 2, 1) := by decide +kernel
theorem dL_law_560 : decode code 560 = .ok (.iadd, 1) := by decide +kernel
theorem dL_law_561 : decode code 561 = .ok (.iaload, 1) := by decide +kernel
theorem dL_law_562 : decode code 562 = .ok (.aload_n 0, 1) := by decide +kernel
theorem dL_law_563 : decode code 563 = .ok (.iload_n 3, 1) := by decide +kernel
theorem dL_law_564 : decode code 564 = .ok (.iconst 3, 1) := by decide +kernel
theorem dL_law_565 : decode code 565 = .ok (.iadd, 1) := by decide +kernel
theorem dL_law_566 : decode code 566 = .ok (.iaload, 1) := by decide +kernel
theorem dL_law_567 : decode code 567 = .ok (.invokevirtual 60, 3) := by decide +kernel
theorem dL_law_570 : decode code 570 = .ok (.if_icmp .eq 1124, 3) := by decide +kernel
theorem dL_law_573 : decode code 573 = .ok (.iconst 0, 1) := by decide +kernel
theorem dL_law_574 : decode code 574 = .ok (.ireturn, 1) := by decide +kernel
theorem dL_law_575 : decode code 575 = .ok (.aload_n 1, 1) := by decide +kernel
theorem dL_law_576 : decode code 576 = .ok (.aload_n 0, 1) := by decide +kernel
theorem dL_law_577 : decode code 577 = .ok (.iload_n 3, 1) := by decide +kernel
theorem dL_law_578 : decode code 578 = .ok (.iconst 1, 1) := by decide +kernel
theorem dL_law_579 : decode code 579 = .ok (.iadd, 1) := by decide +kernel
theorem dL_law_580 : decode code 580 = .ok (.iaload, 1) := by decide +kernel
theorem dL_law_581 : decode code 581 = .ok (.invokevirtual 61, 3) := by decide +kernel
theorem dL_law_584 : decode code 584 = .ok (.aload_n 2, 1) := by decide +kernel
theorem dL_law_585 : decode code 585 = .ok (.aload_n 0, 1) := by decide +kernel
theorem dL_law_586 : decode code 586 = .ok (.iload_n 3, 1) := by decide +kernel
theorem dL_law_587 : decode code 587 = .ok (.iconst 1, 1) := by decide +kernel
theorem dL_law_588 : decode code 588 = .ok (.iadd, 1) := by decide +kernel
theorem dL_law_589 : decode code 589 = .ok (.iaload, 1) := by decide +kernel
theorem dL_law_590 : decode code 590 = .ok (.invokevirtual 64, 3) := by decide +kernel
theorem dL_law_593 : decode code 593 = .ok (.if_icmp .eq 1101, 3) := by decide +kernel
theorem dL_law_596 : decode code 596 = .ok (.iconst 0, 1) := by decide +kernel
theorem dL_law_597 : decode code 597 = .ok (.ireturn, 1) := by decide +kernel
theorem dL_law_598 : decode code 598 = .ok (.aload_n 1, 1) := by decide +kernel
theorem dL_law_599 : decode code 599 = .ok (.invokevirtual 65, 3) := by decide +kernel
theorem dL_law_602 : decode code 602 = .ok (.aload_n 2, 1) := by decide +kernel
theorem dL_law_603 : decode code 603 = .ok (.invokevirtual 69, 3) := by decide +kernel
theorem dL_law_606 : decode code 606 = .ok (.if_icmp .eq 1088, 3) := by decide +kernel
theorem dL_law_609 : decode code 609 = .ok (.iconst 0, 1) := by decide +kernel
theorem dL_law_610 : decode code 610 = .ok (.ireturn, 1) := by decide +kernel
theorem dL_law_611 : decode code 611 = .ok (.aload_n 1, 1) := by decide +kernel
theorem dL_law_612 : decode code 612 = .ok (.aload_n 0, 1) := by decide +kernel
theorem dL_law_613 : decode code 613 = .ok (.iload_n 3, 1) := by decide +kernel
theorem dL_law_614 : decode code 614 = .ok (.iconst 1, 1) := by decide +kernel
theorem dL_law_615 : decode code 615 = .ok (.iadd, 1) := by decide +kernel
theorem dL_law_616 : decode code 616 = .ok (.iaload, 1) := by decide +kernel
theorem dL_law_617 : decode code 617 = .ok (.invokevirtual 70, 3) := by decide +kernel
theorem dL_law_620 : decode code 620 = .ok (.aload_n 2, 1) := by decide +kernel
theorem dL_law_621 : decode code 621 = .ok (.aload_n 0, 1) := by decide +kernel
theorem dL_law_622 : decode code 622 = .ok (.iload_n 3, 1) := by decide +kernel
theorem dL_law_623 : decode code 623 = .ok (.iconst 1, 1) := by decide +kernel
theorem dL_law_624 : decode code 624 = .ok (.iadd, 1) := by decide +kernel
theorem dL_law_625 : decode code 625 = .ok (.iaload, 1) := by decide +kernel
theorem dL_law_626 : decode code 626 = .ok (.invokevirtual 73, 3) := by decide +kernel
theorem dL_law_629 : decode code 629 = .ok (.if_icmp .eq 1065, 3) := by decide +kernel
theorem dL_law_632 : decode code 632 = .ok (.iconst 0, 1) := by decide +kernel
theorem dL_law_633 : decode code 633 = .ok (.ireturn, 1) := by decide +kernel
theorem dL_law_634 : decode code 634 = .ok (.aload_n 1, 1) := by decide +kernel
theorem dL_law_635 : decode code 635 = .ok (.aload_n 0, 1) := by decide +kernel
theorem dL_law_636 : decode code 636 = .ok (.iload_n 3, 1) := by decide +kernel
theorem dL_law_637 : decode code 637 = .ok (.iconst 1, 1) := by decide +kernel
theorem dL_law_638 : decode code 638 = .ok (.iadd, 1) := by decide +kernel
theorem dL_law_639 : decode code 639 = .ok (.iaload, 1) := by decide +kernel
theorem dL_law_640 : decode code 640 = .ok (.invokevirtual 74, 3) := by decide +kernel
theorem dL_law_643 : decode code 643 = .ok (.aload_n 2, 1) := by decide +kernel
theorem dL_law_644 : decode code 644 = .ok (.aload_n 0, 1) := by decide +kernel
theorem dL_law_645 : decode code 645 = .ok (.iload_n 3, 1) := by decide +kernel
theorem dL_law_646 : decode code 646 = .ok (.iconst 1, 1) := by decide +kernel
theorem dL_law_647 : decode code 647 = .ok (.iadd, 1) := by decide +kernel
theorem dL_law_648 : decode code 648 = .ok (.iaload, 1) := by decide +kernel
theorem dL_law_649 : decode code 649 = .ok (.invokevirtual 77, 3) := by decide +kernel
theorem dL_law_652 : decode code 652 = .ok (.if_icmp .eq 1042, 3) := by decide +kernel
theorem dL_law_655 : decode code 655 = .ok (.iconst 0, 1) := by decide +kernel
theorem dL_law_656 : decode code 656 = .ok (.ireturn, 1) := by decide +kernel
theorem dL_law_657 : decode code 657 = .ok (.aload_n 1, 1) := by decide +kernel
theorem dL_law_658 : decode code 658 = .ok (.aload_n 0, 1) := by decide +kernel
theorem dL_law_659 : decode code 659 = .ok (.iload_n 3, 1) := by decide +kernel
theorem dL_law_660 : decode code 660 = .ok (.iconst 1, 1) := by decide +kernel
theorem dL_law_661 : decode code 661 = .ok (.iadd, 1) := by decide +kernel
theorem dL_law_662 : decode code 662 = .ok (.iaload, 1) := by decide +kernel
theorem dL_law_663 : decode code 663 = .ok (.aload_n 0, 1) := by decide +kernel
theorem dL_law_664 : decode code 664 = .ok (.iload_n 3, 1) := by decide +kernel
theorem dL_law_665 : decode code 665 = .ok (.iconst 2, 1) := by decide +kernel
theorem dL_law_666 : decode code 666 = .ok (.iadd, 1) := by decide +kernel
theorem dL_law_667 : decode code 667 = .ok (.iaload, 1) := by decide +kernel
theorem dL_law_668 : decode code 668 = .ok (.invokevirtual 78, 3) := by decide +kernel
theorem dL_law_671 : decode code 671 = .ok (.aload_n 2, 1) := by decide +kernel
theorem dL_law_672 : decode code 672 = .ok (.aload_n 0, 1) := by decide +kernel
theorem dL_law_673 : decode code 673 = .ok (.iload_n 3, 1) := by decide +kernel
theorem dL_law_674 : decode code 674 = .ok (.iconst 1, 1) := by decide +kernel
theorem dL_law_675 : decode code 675 = .ok (.iadd, 1) := by decide +kernel
theorem dL_law_676 : decode code 676 = .ok (.iaload, 1) := by decide +kernel
theorem dL_law_677 : decode code 677 = .ok (.aload_n 0, 1) := by decide +kernel
theorem dL_law_678 : decode code 678 = .ok (.iload_n 3, 1) := by decide +kernel
theorem dL_law_679 : decode code 679 = .ok (.iconst 2, 1) := by decide +kernel
theorem dL_law_680 : decode code 680 = .ok (.iadd, 1) := by decide +kernel
theorem dL_law_681 : decode code 681 = .ok (.iaload, 1) := by decide +kernel
theorem dL_law_682 : decode code 682 = .ok (.invokevirtual 81, 3) := by decide +kernel
theorem dL_law_685 : decode code 685 = .ok (.if_icmp .eq 1009, 3) := by decide +kernel
theorem dL_law_688 : decode code 688 = .ok (.iconst 0, 1) := by decide +kernel
theorem dL_law_689 : decode code 689 = .ok (.ireturn, 1) := by decide +kernel
theorem dL_law_690 : decode code 690 = .ok (.aload_n 1, 1) := by decide +kernel
theorem dL_law_691 : decode code 691 = .ok (.aload_n 0, 1) := by decide +kernel
theorem dL_law_692 : decode code 692 = .ok (.iload_n 3, 1) := by decide +kernel
theorem dL_law_693 : decode code 693 = .ok (.iconst 1, 1) := by decide +kernel
theorem dL_law_694 : decode code 694 = .ok (.iadd, 1) := by decide +kernel
theorem dL_law_695 : decode code 695 = .ok (.iaload, 1) := by decide +kernel
theorem dL_law_696 : decode code 696 = .ok (.invokevirtual 82, 3) := by decide +kernel
theorem dL_law_699 : decode code 699 = .ok (.aload_n 2, 1) := by decide +kernel
theorem dL_law_700 : decode code 700 = .ok (.aload_n 0, 1) := by decide +kernel
theorem dL_law_701 : decode code 701 = .ok (.iload_n 3, 1) := by decide +kernel
theorem dL_law_702 : decode code 702 = .ok (.iconst 1, 1) := by decide +kernel
theorem dL_law_703 : decode code 703 = .ok (.iadd, 1) := by decide +kernel
theorem dL_law_704 : decode code 704 = .ok (.iaload, 1) := by decide +kernel
theorem dL_law_705 : decode code 705 = .ok (.invokevirtual 85, 3) := by decide +kernel
theorem dL_law_708 : decode code 708 = .ok (.if_icmp .eq 986, 3) := by decide +kernel
theorem dL_law_711 : decode code 711 = .ok (.iconst 0, 1) := by decide +kernel
theorem dL_law_712 : decode code 712 = .ok (.ireturn, 1) := by decide +kernel
theorem dL_law_713 : decode code 713 = .ok (.aload_n 1, 1) := by decide +kernel
theorem dL_law_714 : decode code 714 = .ok (.aload_n 0, 1) := by decide +kernel
theorem dL_law_715 : decode code 715 = .ok (.iload_n 3, 1) := by decide +kernel
theorem dL_law_716 : decode code 716 = .ok (.iconst 1, 1) := by decide +kernel
theorem dL_law_717 : decode code 717 = .ok (.iadd, 1) := by decide +kernel
theorem dL_law_718 : decode code 718 = .ok (.iaload, 1) := by decide +kernel
theorem dL_law_719 : decode code 719 = .ok (.aload_n 0, 1) := by decide +kernel
theorem dL_law_720 : decode code 720 = .ok (.iload_n 3, 1) := by decide +kernel
theorem dL_law_721 : decode code 721 = .ok (.iconst 2, 1) := by decide +kernel
theorem dL_law_722 : decode code 722 = .ok (.iadd, 1) := by decide +kernel
theorem dL_law_723 : decode code 723 = .ok (.iaload, 1) := by decide +kernel
theorem dL_law_724 : decode code 724 = .ok (.invokevirtual 86, 3) := by decide +kernel
theorem dL_law_727 : decode code 727 = .ok (.aload_n 2, 1) := by decide +kernel
theorem dL_law_728 : decode code 728 = .ok (.aload_n 0, 1) := by decide +kernel
theorem dL_law_729 : decode code 729 = .ok (.iload_n 3, 1) := by decide +kernel
theorem dL_law_730 : decode code 730 = .ok (.iconst 1, 1) := by decide +kernel
theorem dL_law_731 : decode code 731 = .ok (.iadd, 1) := by decide +kernel
theorem dL_law_732 : decode code 732 = .ok (.iaload, 1) := by decide +kernel
theorem dL_law_733 : decode code 733 = .ok (.aload_n 0, 1) := by decide +kernel
theorem dL_law_734 : decode code 734 = .ok (.iload_n 3, 1) := by decide +kernel
theorem dL_law_735 : decode code 735 = .ok (.iconst 2, 1) := by decide +kernel
theorem dL_law_736 : decode code 736 = .ok (.iadd, 1) := by decide +kernel
theorem dL_law_737 : decode code 737 = .ok (.iaload, 1) := by decide +kernel
theorem dL_law_738 : decode code 738 = .ok (.invokevirtual 89, 3) := by decide +kernel
theorem dL_law_741 : decode code 741 = .ok (.if_icmp .eq 953, 3) := by decide +kernel
theorem dL_law_744 : decode code 744 = .ok (.iconst 0, 1) := by decide +kernel
theorem dL_law_745 : decode code 745 = .ok (.ireturn, 1) := by decide +kernel
theorem dL_law_746 : decode code 746 = .ok (.aload_n 1, 1) := by decide +kernel
theorem dL_law_747 : decode code 747 = .ok (.invokevirtual 90, 3) := by decide +kernel
theorem dL_law_750 : decode code 750 = .ok (.aload_n 2, 1) := by decide +kernel
theorem dL_law_751 : decode code 751 = .ok (.invokevirtual 93, 3) := by decide +kernel
theorem dL_law_754 : decode code 754 = .ok (.if_icmp .eq 940, 3) := by decide +kernel
theorem dL_law_757 : decode code 757 = .ok (.iconst 0, 1) := by decide +kernel
theorem dL_law_758 : decode code 758 = .ok (.ireturn, 1) := by decide +kernel
theorem dL_law_759 : decode code 759 = .ok (.aload_n 1, 1) := by decide +kernel
theorem dL_law_760 : decode code 760 = .ok (.aload_n 0, 1) := by decide +kernel
theorem dL_law_761 : decode code 761 = .ok (.iload_n 3, 1) := by decide +kernel
theorem dL_law_762 : decode code 762 = .ok (.iconst 1, 1) := by decide +kernel
theorem dL_law_763 : decode code 763 = .ok (.iadd, 1) := by decide +kernel
theorem dL_law_764 : decode code 764 = .ok (.iaload, 1) := by decide +kernel
theorem dL_law_765 : decode code 765 = .ok (.aload_n 0, 1) := by decide +kernel
theorem dL_law_766 : decode code 766 = .ok (.iload_n 3, 1) := by decide +kernel
theorem dL_law_767 : decode code 767 = .ok (.iconst 2, 1) := by decide +kernel
theorem dL_law_768 : decode code 768 = .ok (.iadd, 1) := by decide +kernel
theorem dL_law_769 : decode code 769 = .ok (.iaload, 1) := by decide +kernel
theorem dL_law_770 : decode code 770 = .ok (.invokevirtual 94, 3) := by decide +kernel
theorem dL_law_773 : decode code 773 = .ok (.aload_n 2, 1) := by decide +kernel
theorem dL_law_774 : decode code 774 = .ok (.aload_n 0, 1) := by decide +kernel
theorem dL_law_775 : decode code 775 = .ok (.iload_n 3, 1) := by decide +kernel
theorem dL_law_776 : decode code 776 = .ok (.iconst 1, 1) := by decide +kernel
theorem dL_law_777 : decode code 777 = .ok (.iadd, 1) := by decide +kernel
theorem dL_law_778 : decode code 778 = .ok (.iaload, 1) := by decide +kernel
theorem dL_law_779 : decode code 779 = .ok (.aload_n 0, 1) := by decide +kernel
theorem dL_law_780 : decode code 780 = .ok (.iload_n 3, 1) := by decide +kernel
theorem dL_law_781 : decode code 781 = .ok (.iconst 2, 1) := by decide +kernel
theorem dL_law_782 : decode code 782 = .ok (.iadd, 1) := by decide +kernel
theorem dL_law_783 : decode code 783 = .ok (.iaload, 1) := by decide +kernel
theorem dL_law_784 : decode code 784 = .ok (.invokevirtual 97, 3) := by decide +kernel
theorem dL_law_787 : decode code 787 = .ok (.if_icmp .eq 907, 3) := by decide +kernel
theorem dL_law_790 : decode code 790 = .ok (.iconst 0, 1) := by decide +kernel
theorem dL_law_791 : decode code 791 = .ok (.ireturn, 1) := by decide +kernel
theorem dL_law_792 : decode code 792 = .ok (.aload_n 1, 1) := by decide +kernel
theorem dL_law_793 : decode code 793 = .ok (.aload_n 0, 1) := by decide +kernel
theorem dL_law_794 : decode code 794 = .ok (.iload_n 3, 1) := by decide +kernel
theorem dL_law_795 : decode code 795 = .ok (.iconst 1, 1) := by decide +kernel
theorem dL_law_796 : decode code 796 = .ok (.iadd, 1) := by decide +kernel
theorem dL_law_797 : decode code 797 = .ok (.iaload, 1) := by decide +kernel
theorem dL_law_798 : decode code 798 = .ok (.aload_n 0, 1) := by decide +kernel
theorem dL_law_799 : decode code 799 = .ok (.iload_n 3, 1) := by decide +kernel
theorem dL_law_800 : decode code 800 = .ok (.iconst 2, 1) := by decide +kernel
theorem dL_law_801 : decode code 801 = .ok (.iadd, 1) := by decide +kernel
theorem dL_law_802 : decode code 802 = .ok (.iaload, 1) := by decide +kernel
theorem dL_law_803 : decode code 803 = .ok (.aload_n 0, 1) := by decide +kernel
theorem dL_law_804 : decode code 804 = .ok (.iload_n 3, 1) := by decide +kernel
theorem dL_law_805 : decode code 805 = .ok (.iconst 3, 1) := by decide +kernel
theorem dL_law_806 : decode code 806 = .ok (.iadd, 1) := by decide +kernel
theorem dL_law_807 : decode code 807 = .ok (.iaload, 1) := by decide +kernel
theorem dL_law_808 : decode code 808 = .ok (.invokevirtual 98, 3) := by decide +kernel
theorem dL_law_811 : decode code 811 = .ok (.aload_n 2, 1) := by decide +kernel
theorem dL_law_812 : decode code 812 = .ok (.aload_n 0, 1) := by decide +kernel
theorem dL_law_813 : decode code 813 = .ok (.iload_n 3, 1) := by decide +kernel
theorem dL_law_814 : decode code 814 = .ok (.iconst 1, 1) := by decide +kernel
theorem dL_law_815 : decode code 815 = .ok (.iadd, 1) := by decide +kernel
theorem dL_law_816 : decode code 816 = .ok (.iaload, 1) := by decide +kernel
theorem dL_law_817 : decode code 817 = .ok (.aload_n 0, 1) := by decide +kernel
theorem dL_law_818 : decode code 818 = .ok (.iload_n 3, 1) := by decide +kernel
theorem dL_law_819 : decode code 819 = .ok (.iconst 2, 1) := by decide +kernel
theorem dL_law_820 : decode code 820 = .ok (.iadd, 1) := by decide +kernel
theorem dL_law_821 : decode code 821 = .ok (.iaload, 1) := by decide +kernel
theorem dL_law_822 : decode code 822 = .ok (.aload_n 0, 1) := by decide +kernel
theorem dL_law_823 : decode code 823 = .ok (.iload_n 3, 1) := by decide +kernel
theorem dL_law_824 : decode code 824 = .ok (.iconst 3, 1) := by decide +kernel
theorem dL_law_825 : decode code 825 = .ok (.iadd, 1) := by decide +kernel
theorem dL_law_826 : decode code 826 = .ok (.iaload, 1) := by decide +kernel
theorem dL_law_827 : decode code 827 = .ok (.invokevirtual 101, 3) := by decide +kernel
theorem dL_law_830 : decode code 830 = .ok (.if_icmp .eq 864, 3) := by decide +kernel
theorem dL_law_833 : decode code 833 = .ok (.iconst 0, 1) := by decide +kernel
theorem dL_law_834 : decode code 834 = .ok (.ireturn, 1) := by decide +kernel
theorem dL_law_835 : decode code 835 = .ok (.aload_n 1, 1) := by decide +kernel
theorem dL_law_836 : decode code 836 = .ok (.aload_n 0, 1) := by decide +kernel
theorem dL_law_837 : decode code 837 = .ok (.iload_n 3, 1) := by decide +kernel
theorem dL_law_838 : decode code 838 = .ok (.iconst 1, 1) := by decide +kernel
theorem dL_law_839 : decode code 839 = .ok (.iadd, 1) := by decide +kernel
theorem dL_law_840 : decode code 840 = .ok (.iaload, 1) := by decide +kernel
theorem dL_law_841 : decode code 841 = .ok (.invokevirtual 102, 3) := by decide +kernel
theorem dL_law_844 : decode code 844 = .ok (.aload_n 2, 1) := by decide +kernel
theorem dL_law_845 : decode code 845 = .ok (.aload_n 0, 1) := by decide +kernel
theorem dL_law_846 : decode code 846 = .ok (.iload_n 3, 1) := by decide +kernel
theorem dL_law_847 : decode code 847 = .ok (.iconst 1, 1) := by decide +kernel
theorem dL_law_848 : decode code 848 = .ok (.iadd, 1) := by decide +kernel
theorem dL_law_849 : decode code 849 = .ok (.iaload, 1) := by decide +kernel
theorem dL_law_850 : decode code 850 = .ok (.invokevirtual 105, 3) := by decide +kernel
theorem dL_law_853 : decode code 853 = .ok (.if_icmp .eq 841, 3) := by decide +kernel
theorem dL_law_856 : decode code 856 = .ok (.iconst 0, 1) := by decide +kernel
theorem dL_law_857 : decode code 857 = .ok (.ireturn, 1) := by decide +kernel
theorem dL_law_858 : decode code 858 = .ok (.aload_n 1, 1) := by decide +kernel
theorem dL_law_859 : decode code 859 = .ok (.aload_n 0, 1) := by decide +kernel
theorem dL_law_860 : decode code 860 = .ok (.iload_n 3, 1) := by decide +kernel
theorem dL_law_861 : decode code 861 = .ok (.iconst 1, 1) := by decide +kernel
theorem dL_law_862 : decode code 862 = .ok (.iadd, 1) := by decide +kernel
theorem dL_law_863 : decode code 863 = .ok (.iaload, 1) := by decide +kernel
theorem dL_law_864 : decode code 864 = .ok (.invokevirtual 106, 3) := by decide +kernel
theorem dL_law_867 : decode code 867 = .ok (.aload_n 2, 1) := by decide +kernel
theorem dL_law_868 : decode code 868 = .ok (.aload_n 0, 1) := by decide +kernel
theorem dL_law_869 : decode code 869 = .ok (.iload_n 3, 1) := by decide +kernel
theorem dL_law_870 : decode code 870 = .ok (.iconst 1, 1) := by decide +kernel
theorem dL_law_871 : decode code 871 = .ok (.iadd, 1) := by decide +kernel
theorem dL_law_872 : decode code 872 = .ok (.iaload, 1) := by decide +kernel
theorem dL_law_873 : decode code 873 = .ok (.invokevirtual 109, 3) := by decide +kernel
theorem dL_law_876 : decode code 876 = .ok (.if_icmp .eq 818, 3) := by decide +kernel
theorem dL_law_879 : decode code 879 = .ok (.iconst 0, 1) := by decide +kernel
theorem dL_law_880 : decode code 880 = .ok (.ireturn, 1) := by decide +kernel
theorem dL_law_881 : decode code 881 = .ok (.aload_n 1, 1) := by decide +kernel
theorem dL_law_882 : decode code 882 = .ok (.aload_n 0, 1) := by decide +kernel
theorem dL_law_883 : decode code 883 = .ok (.iload_n 3, 1) := by decide +kernel
theorem dL_law_884 : decode code 884 = .ok (.iconst 1, 1) := by decide +kernel
theorem dL_law_885 : decode code 885 = .ok (.iadd, 1) := by decide +kernel
theorem dL_law_886 : decode code 886 = .ok (.iaload, 1) := by decide +kernel
theorem dL_law_887 : decode code 887 = .ok (.invokevirtual 110, 3) := by decide +kernel
theorem dL_law_890 : decode code 890 = .ok (.aload_n 2, 1) := by decide +kernel
theorem dL_law_891 : decode code 891 = .ok (.aload_n 0, 1) := by decide +kernel
theorem dL_law_892 : decode code 892 = .ok (.iload_n 3, 1) := by decide +kernel
theorem dL_law_893 : decode code 893 = .ok (.iconst 1, 1) := by decide +kernel
theorem dL_law_894 : decode code 894 = .ok (.iadd, 1) := by decide +kernel
theorem dL_law_895 : decode code 895 = .ok (.iaload, 1) := by decide +kernel
theorem dL_law_896 : decode code 896 = .ok (.invokevirtual 113, 3) := by decide +kernel
theorem dL_law_899 : decode code 899 = .ok (.if_icmp .eq 795, 3) := by decide +kernel
theorem dL_law_902 : decode code 902 = .ok (.iconst 0, 1) := by decide +kernel
theorem dL_law_903 : decode code 903 = .ok (.ireturn, 1) := by decide +kernel
theorem dL_law_904 : decode code 904 = .ok (.aload_n 1, 1) := by decide +kernel
theorem dL_law_905 : decode code 905 = .ok (.aload_n 0, 1) := by decide +kernel
theorem dL_law_906 : decode code 906 = .ok (.iload_n 3, 1) := by decide +kernel
theorem dL_law_907 : decode code 907 = .ok (.iconst 1, 1) := by decide +kernel
theorem dL_law_908 : decode code 908 = .ok (.iadd, 1) := by decide +kernel
theorem dL_law_909 : decode code 909 = .ok (.iaload, 1) := by decide +kernel
theorem dL_law_910 : decode code 910 = .ok (.invokevirtual 114, 3) := by decide +kernel
theorem dL_law_913 : decode code 913 = .ok (.aload_n 2, 1) := by decide +kernel
theorem dL_law_914 : decode code 914 = .ok (.aload_n 0, 1) := by decide +kernel
theorem dL_law_915 : decode code 915 = .ok (.iload_n 3, 1) := by decide +kernel
theorem dL_law_916 : decode code 916 = .ok (.iconst 1, 1) := by decide +kernel
theorem dL_law_917 : decode code 917 = .ok (.iadd, 1) := by decide +kernel
theorem dL_law_918 : decode code 918 = .ok (.iaload, 1) := by decide +kernel
theorem dL_law_919 : decode code 919 = .ok (.invokevirtual 117, 3) := by decide +kernel
theorem dL_law_922 : decode code 922 = .ok (.if_icmp .eq 772, 3) := by decide +kernel
theorem dL_law_925 : decode code 925 = .ok (.iconst 0, 1) := by decide +kernel
theorem dL_law_926 : decode code 926 = .ok (.ireturn, 1) := by decide +kernel
theorem dL_law_927 : decode code 927 = .ok (.aload_n 1, 1) := by decide +kernel
theorem dL_law_928 : decode code 928 = .ok (.aload_n 0, 1) := by decide +kernel
theorem dL_law_929 : decode code 929 = .ok (.iload_n 3, 1) := by decide +kernel
theorem dL_law_930 : decode code 930 = .ok (.iconst 1, 1) := by decide +kernel
theorem dL_law_931 : decode code 931 = .ok (.iadd, 1) := by decide +kernel
theorem dL_law_932 : decode code 932 = .ok (.iaload, 1) := by decide +kernel
theorem dL_law_933 : decode code 933 = .ok (.aload_n 0, 1) := by decide +kernel
theorem dL_law_934 : decode code 934 = .ok (.iload_n 3, 1) := by decide +kernel
theorem dL_law_935 : decode code 935 = .ok (.iconst 2, 1) := by decide +kernel
theorem dL_law_936 : decode code 936 = .ok (.iadd, 1) := by decide +kernel
theorem dL_law_937 : decode code 937 = .ok (.iaload, 1) := by decide +kernel
theorem dL_law_938 : decode code 938 = .ok (.invokevirtual 118, 3) := by decide +kernel
theorem dL_law_941 : decode code 941 = .ok (.aload_n 2, 1) := by decide +kernel
theorem dL_law_942 : decode code 942 = .ok (.aload_n 0, 1) := by decide +kernel
theorem dL_law_943 : decode code 943 = .ok (.iload_n 3, 1) := by decide +kernel
theorem dL_law_944 : decode code 944 = .ok (.iconst 1, 1) := by decide +kernel
theorem dL_law_945 : decode code 945 = .ok (.iadd, 1) := by decide +kernel
theorem dL_law_946 : decode code 946 = .ok (.iaload, 1) := by decide +kernel
theorem dL_law_947 : decode code 947 = .ok (.aload_n 0, 1) := by decide +kernel
theorem dL_law_948 : decode code 948 = .ok (.iload_n 3, 1) := by decide +kernel
theorem dL_law_949 : decode code 949 = .ok (.iconst 2, 1) := by decide +kernel
theorem dL_law_950 : decode code 950 = .ok (.iadd, 1) := by decide +kernel
theorem dL_law_951 : decode code 951 = .ok (.iaload, 1) := by decide +kernel
theorem dL_law_952 : decode code 952 = .ok (.invokevirtual 121, 3) := by decide +kernel
theorem dL_law_955 : decode code 955 = .ok (.if_icmp .eq 739, 3) := by decide +kernel
theorem dL_law_958 : decode code 958 = .ok (.iconst 0, 1) := by decide +kernel
theorem dL_law_959 : decode code 959 = .ok (.ireturn, 1) := by decide +kernel
theorem dL_law_960 : decode code 960 = .ok (.aload_n 1, 1) := by decide +kernel
theorem dL_law_961 : decode code 961 = .ok (.aload_n 0, 1) := by decide +kernel
theorem dL_law_962 : decode code 962 = .ok (.iload_n 3, 1) := by decide +kernel
theorem dL_law_963 : decode code 963 = .ok (.iconst 1, 1) := by decide +kernel
theorem dL_law_964 : decode code 964 = .ok (.iadd, 1) := by decide +kernel
theorem dL_law_965 : decode code 965 = .ok (.iaload, 1) := by decide +kernel
theorem dL_law_966 : decode code 966 = .ok (.aload_n 0, 1) := by decide +kernel
theorem dL_law_967 : decode code 967 = .ok (.iload_n 3, 1) := by decide +kernel
theorem dL_law_968 : decode code 968 = .ok (.iconst 2, 1) := by decide +kernel
theorem dL_law_969 : decode code 969 = .ok (.iadd, 1) := by decide +kernel
theorem dL_law_970 : decode code 970 = .ok (.iaload, 1) := by decide +kernel
theorem dL_law_971 : decode code 971 = .ok (.invokevirtual 122, 3) := by decide +kernel
theorem dL_law_974 : decode code 974 = .ok (.aload_n 2, 1) := by decide +kernel
theorem dL_law_975 : decode code 975 = .ok (.aload_n 0, 1) := by decide +kernel
theorem dL_law_976 : decode code 976 = .ok (.iload_n 3, 1) := by decide +kernel
theorem dL_law_977 : decode code 977 = .ok (.iconst 1, 1) := by decide +kernel
theorem dL_law_978 : decode code 978 = .ok (.iadd, 1) := by decide +kernel
theorem dL_law_979 : decode code 979 = .ok (.iaload, 1) := by decide +kernel
theorem dL_law_980 : decode code 980 = .ok (.aload_n 0, 1) := by decide +kernel
theorem dL_law_981 : decode code 981 = .ok (.iload_n 3, 1) := by decide +kernel
theorem dL_law_982 : decode code 982 = .ok (.iconst 2, 1) := by decide +kernel
theorem dL_law_983 : decode code 983 = .ok (.iadd, 1) := by decide +kernel
theorem dL_law_984 : decode code 984 = .ok (.iaload, 1) := by decide +kernel
theorem dL_law_985 : decode code 985 = .ok (.invokevirtual 125, 3) := by decide +kernel
theorem dL_law_988 : decode code 988 = .ok (.if_icmp .eq 706, 3) := by decide +kernel
theorem dL_law_991 : decode code 991 = .ok (.iconst 0, 1) := by decide +kernel
theorem dL_law_992 : decode code 992 = .ok (.ireturn, 1) := by decide +kernel
theorem dL_law_993 : decode code 993 = .ok (.aload_n 1, 1) := by decide +kernel
theorem dL_law_994 : decode code 994 = .ok (.invokevirtual 126, 3) := by decide +kernel
theorem dL_law_997 : decode code 997 = .ok (.aload_n 2, 1) := by decide +kernel
theorem dL_law_998 : decode code 998 = .ok (.invokevirtual 129, 3) := by decide +kernel
theorem dL_law_1001 : decode code 1001 = .ok (.if_icmp .eq 693, 3) := by decide +kernel
theorem dL_law_1004 : decode code 1004 = .ok (.iconst 0, 1) := by decide +kernel
theorem dL_law_1005 : decode code 1005 = .ok (.ireturn, 1) := by decide +kernel
theorem dL_law_1006 : decode code 1006 = .ok (.aload_n 1, 1) := by decide +kernel
theorem dL_law_1007 : decode code 1007 = .ok (.aload_n 0, 1) := by decide +kernel
theorem dL_law_1008 : decode code 1008 = .ok (.iload_n 3, 1) := by decide +kernel
theorem dL_law_1009 : decode code 1009 = .ok (.iconst 1, 1) := by decide +kernel
theorem dL_law_1010 : decode code 1010 = .ok (.iadd, 1) := by decide +kernel
theorem dL_law_1011 : decode code 1011 = .ok (.iaload, 1) := by decide +kernel
theorem dL_law_1012 : decode code 1012 = .ok (.aload_n 0, 1) := by decide +kernel
theorem dL_law_1013 : decode code 1013 = .ok (.iload_n 3, 1) := by decide +kernel
theorem dL_law_1014 : decode code 1014 = .ok (.iconst 2, 1) := by decide +kernel
theorem dL_law_1015 : decode code 1015 = .ok (.iadd, 1) := by decide +kernel
theorem dL_law_1016 : decode code 1016 = .ok (.iaload, 1) := by decide +kernel
theorem dL_law_1017 : decode code 1017 = .ok (.aload_n 0, 1) := by decide +kernel
theorem dL_law_1018 : decode code 1018 = .ok (.iload_n 3, 1) := by decide +kernel
theorem dL_law_1019 : decode code 1019 = .ok (.iconst 3, 1) := by decide +kernel
theorem dL_law_1020 : decode code 1020 = .ok (.iadd, 1) := by decide +kernel
theorem dL_law_1021 : decode code 1021 = .ok (.iaload, 1) := by decide +kernel
theorem dL_law_1022 : decode code 1022 = .ok (.aload_n 0, 1) := by decide +kernel
theorem dL_law_1023 : decode code 1023 = .ok (.iload_n 3, 1) := by decide +kernel
theorem dL_law_1024 : decode code 1024 = .ok (.iconst 4, 1) := by decide +kernel
theorem dL_law_1025 : decode code 1025 = .ok (.iadd, 1) := by decide +kernel
theorem dL_law_1026 : decode code 1026 = .ok (.iaload, 1) := by decide +kernel
theorem dL_law_1027 : decode code 1027 = .ok (.invokevirtual 130, 3) := by decide +kernel
theorem dL_law_1030 : decode code 1030 = .ok (.aload_n 2, 1) := by decide +kernel
theorem dL_law_1031 : decode code 1031 = .ok (.aload_n 0, 1) := by decide +kernel
theorem dL_law_1032 : decode code 1032 = .ok (.iload_n 3, 1) := by decide +kernel
theorem dL_law_1033 : decode code 1033 = .ok (.iconst 1, 1) := by decide +kernel
theorem dL_law_1034 : decode code 1034 = .ok (.iadd, 1) := by decide +kernel
theorem dL_law_1035 : decode code 1035 = .ok (.iaload, 1) := by decide +kernel
theorem dL_law_1036 : decode code 1036 = .ok (.aload_n 0, 1) := by decide +kernel
theorem dL_law_1037 : decode code 1037 = .ok (.iload_n 3, 1) := by decide +kernel
theorem dL_law_1038 : decode code 1038 = .ok (.iconst 2, 1) := by decide +kernel
theorem dL_law_1039 : decode code 1039 = .ok (.iadd, 1) := by decide +kernel
theorem dL_law_1040 : decode code 1040 = .ok (.iaload, 1) := by decide +kernel
theorem dL_law_1041 : decode code 1041 = .ok (.aload_n 0, 1) := by decide +kernel
theorem dL_law_1042 : decode code 1042 = .ok (.iload_n 3, 1) := by decide +kernel
theorem dL_law_1043 : decode code 1043 = .ok (.iconst 3, 1) := by decide +kernel
theorem dL_law_1044 : decode code 1044 = .ok (.iadd, 1) := by decide +kernel
theorem dL_law_1045 : decode code 1045 = .ok (.iaload, 1) := by decide +kernel
theorem dL_law_1046 : decode code 1046 = .ok (.aload_n 0, 1) := by decide +kernel
theorem dL_law_1047 : decode code 1047 = .ok (.iload_n 3, 1) := by decide +kernel
theorem dL_law_1048 : decode code 1048 = .ok (.iconst 4, 1) := by decide +kernel
theorem dL_law_1049 : decode code 1049 = .ok (.iadd, 1) := by decide +kernel
theorem dL_law_1050 : decode code 1050 = .ok (.iaload, 1) := by decide +kernel
theorem dL_law_1051 : decode code 1051 = .ok (.invokevirtual 134, 3) := by decide +kernel
theorem dL_law_1054 : decode code 1054 = .ok (.lcmp, 1) := by decide +kernel
theorem dL_law_1055 : decode code 1055 = .ok (.ifCond .eq 639, 3) := by decide +kernel
theorem dL_law_1058 : decode code 1058 = .ok (.iconst 0, 1) := by decide +kernel
theorem dL_law_1059 : decode code 1059 = .ok (.ireturn, 1) := by decide +kernel
theorem dL_law_1060 : decode code 1060 = .ok (.aload_n 1, 1) := by decide +kernel
theorem dL_law_1061 : decode code 1061 = .ok (.aload_n 0, 1) := by decide +kernel
theorem dL_law_1062 : decode code 1062 = .ok (.iload_n 3, 1) := by decide +kernel
theorem dL_law_1063 : decode code 1063 = .ok (.iconst 1, 1) := by decide +kernel
theorem dL_law_1064 : decode code 1064 = .ok (.iadd, 1) := by decide +kernel
theorem dL_law_1065 : decode code 1065 = .ok (.iaload, 1) := by decide +kernel
theorem dL_law_1066 : decode code 1066 = .ok (.aload_n 0, 1) := by decide +kernel
theorem dL_law_1067 : decode code 1067 = .ok (.iload_n 3, 1) := by decide +kernel
theorem dL_law_1068 : decode code 1068 = .ok (.iconst 2, 1) := by decide +kernel
theorem dL_law_1069 : decode code 1069 = .ok (.iadd, 1) := by decide +kernel
theorem dL_law_1070 : decode code 1070 = .ok (.iaload, 1) := by decide +kernel
theorem dL_law_1071 : decode code 1071 = .ok (.aload_n 0, 1) := by decide +kernel
theorem dL_law_1072 : decode code 1072 = .ok (.iload_n 3, 1) := by decide +kernel
theorem dL_law_1073 : decode code 1073 = .ok (.iconst 3, 1) := by decide +kernel
theorem dL_law_1074 : decode code 1074 = .ok (.iadd, 1) := by decide +kernel
theorem dL_law_1075 : decode code 1075 = .ok (.iaload, 1) := by decide +kernel
theorem dL_law_1076 : decode code 1076 = .ok (.invokevirtual 135, 3) := by decide +kernel
theorem dL_law_1079 : decode code 1079 = .ok (.aload_n 2, 1) := by decide +kernel
theorem dL_law_1080 : decode code 1080 = .ok (.aload_n 0, 1) := by decide +kernel
theorem dL_law_1081 : decode code 1081 = .ok (.iload_n 3, 1) := by decide +kernel
theorem dL_law_1082 : decode code 1082 = .ok (.iconst 1, 1) := by decide +kernel
theorem dL_law_1083 : decode code 1083 = .ok (.iadd, 1) := by decide +kernel
theorem dL_law_1084 : decode code 1084 = .ok (.iaload, 1) := by decide +kernel
theorem dL_law_1085 : decode code 1085 = .ok (.aload_n 0, 1) := by decide +kernel
theorem dL_law_1086 : decode code 1086 = .ok (.iload_n 3, 1) := by decide +kernel
theorem dL_law_1087 : decode code 1087 = .ok (.iconst 2, 1) := by decide +kernel
theorem dL_law_1088 : decode code 1088 = .ok (.iadd, 1) := by decide +kernel
theorem dL_law_1089 : decode code 1089 = .ok (.iaload, 1) := by decide +kernel
theorem dL_law_1090 : decode code 1090 = .ok (.aload_n 0, 1) := by decide +kernel
theorem dL_law_1091 : decode code 1091 = .ok (.iload_n 3, 1) := by decide +kernel
theorem dL_law_1092 : decode code 1092 = .ok (.iconst 3, 1) := by decide +kernel
theorem dL_law_1093 : decode code 1093 = .ok (.iadd, 1) := by decide +kernel
theorem dL_law_1094 : decode code 1094 = .ok (.iaload, 1) := by decide +kernel
theorem dL_law_1095 : decode code 1095 = .ok (.invokevirtual 139, 3) := by decide +kernel
theorem dL_law_1098 : decode code 1098 = .ok (.lcmp, 1) := by decide +kernel
theorem dL_law_1099 : decode code 1099 = .ok (.ifCond .eq 595, 3) := by decide +kernel
theorem dL_law_1102 : decode code 1102 = .ok (.iconst 0, 1) := by decide +kernel
theorem dL_law_1103 : decode code 1103 = .ok (.ireturn, 1) := by decide +kernel
theorem dL_law_1104 : decode code 1104 = .ok (.aload_n 1, 1) := by decide +kernel
theorem dL_law_1105 : decode code 1105 = .ok (.aload_n 0, 1) := by decide +kernel
theorem dL_law_1106 : decode code 1106 = .ok (.iload_n 3, 1) := by decide +kernel
theorem dL_law_1107 : decode code 1107 = .ok (.iconst 1, 1) := by decide +kernel
theorem dL_law_1108 : decode code 1108 = .ok (.iadd, 1) := by decide +kernel
theorem dL_law_1109 : decode code 1109 = .ok (.iaload, 1) := by decide +kernel
theorem dL_law_1110 : decode code 1110 = .ok (.aload_n 0, 1) := by decide +kernel
theorem dL_law_1111 : decode code 1111 = .ok (.iload_n 3, 1) := by decide +kernel
theorem dL_law_1112 : decode code 1112 = .ok (.iconst 2, 1) := by decide +kernel
theorem dL_law_1113 : decode code 1113 = .ok (.iadd, 1) := by decide +kernel
theorem dL_law_1114 : decode code 1114 = .ok (.iaload, 1) := by decide +kernel
theorem dL_law_1115 : decode code 1115 = .ok (.invokevirtual 140, 3) := by decide +kernel
theorem dL_law_1118 : decode code 1118 = .ok (.aload_n 2, 1) := by decide +kernel
theorem dL_law_1119 : decode code 1119 = .ok (.aload_n 0, 1) := by decide +kernel
theorem dL_law_1120 : decode code 1120 = .ok (.iload_n 3, 1) := by decide +kernel
theorem dL_law_1121 : decode code 1121 = .ok (.iconst 1, 1) := by decide +kernel
theorem dL_law_1122 : decode code 1122 = .ok (.iadd, 1) := by decide +kernel
theorem dL_law_1123 : decode code 1123 = .ok (.iaload, 1) := by decide +kernel
theorem dL_law_1124 : decode code 1124 = .ok (.aload_n 0, 1) := by decide +kernel
theorem dL_law_1125 : decode code 1125 = .ok (.iload_n 3, 1) := by decide +kernel
theorem dL_law_1126 : decode code 1126 = .ok (.iconst 2, 1) := by decide +kernel
theorem dL_law_1127 : decode code 1127 = .ok (.iadd, 1) := by decide +kernel
theorem dL_law_1128 : decode code 1128 = .ok (.iaload, 1) := by decide +kernel
theorem dL_law_1129 : decode code 1129 = .ok (.invokevirtual 143, 3) := by decide +kernel
theorem dL_law_1132 : decode code 1132 = .ok (.if_icmp .eq 562, 3) := by decide +kernel
theorem dL_law_1135 : decode code 1135 = .ok (.iconst 0, 1) := by decide +kernel
theorem dL_law_1136 : decode code 1136 = .ok (.ireturn, 1) := by decide +kernel
theorem dL_law_1137 : decode code 1137 = .ok (.aload_n 1, 1) := by decide +kernel
theorem dL_law_1138 : decode code 1138 = .ok (.aload_n 0, 1) := by decide +kernel
theorem dL_law_1139 : decode code 1139 = .ok (.iload_n 3, 1) := by decide +kernel
theorem dL_law_1140 : decode code 1140 = .ok (.iconst 1, 1) := by decide +kernel
theorem dL_law_1141 : decode code 1141 = .ok (.iadd, 1) := by decide +kernel
theorem dL_law_1142 : decode code 1142 = .ok (.iaload, 1) := by decide +kernel
theorem dL_law_1143 : decode code 1143 = .ok (.aload_n 0, 1) := by decide +kernel
theorem dL_law_1144 : decode code 1144 = .ok (.iload_n 3, 1) := by decide +kernel
theorem dL_law_1145 : decode code 1145 = .ok (.iconst 2, 1) := by decide +kernel
theorem dL_law_1146 : decode code 1146 = .ok (.iadd, 1) := by decide +kernel
theorem dL_law_1147 : decode code 1147 = .ok (.iaload, 1) := by decide +kernel
theorem dL_law_1148 : decode code 1148 = .ok (.invokevirtual 144, 3) := by decide +kernel
theorem dL_law_1151 : decode code 1151 = .ok (.aload_n 2, 1) := by decide +kernel
theorem dL_law_1152 : decode code 1152 = .ok (.aload_n 0, 1) := by decide +kernel
theorem dL_law_1153 : decode code 1153 = .ok (.iload_n 3, 1) := by decide +kernel
theorem dL_law_1154 : decode code 1154 = .ok (.iconst 1, 1) := by decide +kernel
theorem dL_law_1155 : decode code 1155 = .ok (.iadd, 1) := by decide +kernel
theorem dL_law_1156 : decode code 1156 = .ok (.iaload, 1) := by decide +kernel
theorem dL_law_1157 : decode code 1157 = .ok (.aload_n 0, 1) := by decide +kernel
theorem dL_law_1158 : decode code 1158 = .ok (.iload_n 3, 1) := by decide +kernel
theorem dL_law_1159 : decode code 1159 = .ok (.iconst 2, 1) := by decide +kernel
theorem dL_law_1160 : decode code 1160 = .ok (.iadd, 1) := by decide +kernel
theorem dL_law_1161 : decode code 1161 = .ok (.iaload, 1) := by decide +kernel
theorem dL_law_1162 : decode code 1162 = .ok (.invokevirtual 147, 3) := by decide +kernel
theorem dL_law_1165 : decode code 1165 = .ok (.if_icmp .eq 529, 3) := by decide +kernel
theorem dL_law_1168 : decode code 1168 = .ok (.iconst 0, 1) := by decide +kernel
theorem dL_law_1169 : decode code 1169 = .ok (.ireturn, 1) := by decide +kernel
theorem dL_law_1170 : decode code 1170 = .ok (.aload_n 1, 1) := by decide +kernel
theorem dL_law_1171 : decode code 1171 = .ok (.aload_n 0, 1) := by decide +kernel
theorem dL_law_1172 : decode code 1172 = .ok (.iload_n 3, 1) := by decide +kernel
theorem dL_law_1173 : decode code 1173 = .ok (.iconst 1, 1) := by decide +kernel
theorem dL_law_1174 : decode code 1174 = .ok (.iadd, 1) := by decide +kernel
theorem dL_law_1175 : decode code 1175 = .ok (.iaload, 1) := by decide +kernel
theorem dL_law_1176 : decode code 1176 = .ok (.aload_n 0, 1) := by decide +kernel
theorem dL_law_1177 : decode code 1177 = .ok (.iload_n 3, 1) := by decide +kernel
theorem dL_law_1178 : decode code 1178 = .ok (.iconst 2, 1) := by decide +kernel
theorem dL_law_1179 : decode code 1179 = .ok (.iadd, 1) := by decide +kernel
theorem dL_law_1180 : decode code 1180 = .ok (.iaload, 1) := by decide +kernel
theorem dL_law_1181 : decode code 1181 = .ok (.aload_n 0, 1) := by decide +kernel
theorem dL_law_1182 : decode code 1182 = .ok (.iload_n 3, 1) := by decide +kernel
theorem dL_law_1183 : decode code 1183 = .ok (.iconst 3, 1) := by decide +kernel
theorem dL_law_1184 : decode code 1184 = .ok (.iadd, 1) := by decide +kernel
theorem dL_law_1185 : decode code 1185 = .ok (.iaload, 1) := by decide +kernel
theorem dL_law_1186 : decode code 1186 = .ok (.aload_n 0, 1) := by decide +kernel
theorem dL_law_1187 : decode code 1187 = .ok (.iload_n 3, 1) := by decide +kernel
theorem dL_law_1188 : decode code 1188 = .ok (.iconst 4, 1) := by decide +kernel
theorem dL_law_1189 : decode code 1189 = .ok (.iadd, 1) := by decide +kernel
theorem dL_law_1190 : decode code 1190 = .ok (.iaload, 1) := by decide +kernel
theorem dL_law_1191 : decode code 1191 = .ok (.invokevirtual 148, 3) := by decide +kernel
theorem dL_law_1194 : decode code 1194 = .ok (.aload_n 2, 1) := by decide +kernel
theorem dL_law_1195 : decode code 1195 = .ok (.aload_n 0, 1) := by decide +kernel
theorem dL_law_1196 : decode code 1196 = .ok (.iload_n 3, 1) := by decide +kernel
theorem dL_law_1197 : decode code 1197 = .ok (.iconst 1, 1) := by decide +kernel
theorem dL_law_1198 : decode code 1198 = .ok (.iadd, 1) := by decide +kernel
theorem dL_law_1199 : decode code 1199 = .ok (.iaload, 1) := by decide +kernel
theorem dL_law_1200 : decode code 1200 = .ok (.aload_n 0, 1) := by decide +kernel
theorem dL_law_1201 : decode code 1201 = .ok (.iload_n 3, 1) := by decide +kernel
theorem dL_law_1202 : decode code 1202 = .ok (.iconst 2, 1) := by decide +kernel
theorem dL_law_1203 : decode code 1203 = .ok (.iadd, 1) := by decide +kernel
theorem dL_law_1204 : decode code 1204 = .ok (.iaload, 1) := by decide +kernel
theorem dL_law_1205 : decode code 1205 = .ok (.aload_n 0, 1) := by decide +kernel
theorem dL_law_1206 : decode code 1206 = .ok (.iload_n 3, 1) := by decide +kernel
theorem dL_law_1207 : decode code 1207 = .ok (.iconst 3, 1) := by decide +kernel
theorem dL_law_1208 : decode code 1208 = .ok (.iadd, 1) := by decide +kernel
theorem dL_law_1209 : decode code 1209 = .ok (.iaload, 1) := by decide +kernel
theorem dL_law_1210 : decode code 1210 = .ok (.aload_n 0, 1) := by decide +kernel
theorem dL_law_1211 : decode code 1211 = .ok (.iload_n 3, 1) := by decide +kernel
theorem dL_law_1212 : decode code 1212 = .ok (.iconst 4, 1) := by decide +kernel
theorem dL_law_1213 : decode code 1213 = .ok (.iadd, 1) := by decide +kernel
theorem dL_law_1214 : decode code 1214 = .ok (.iaload, 1) := by decide +kernel
theorem dL_law_1215 : decode code 1215 = .ok (.invokevirtual 151, 3) := by decide +kernel
theorem dL_law_1218 : decode code 1218 = .ok (.lcmp, 1) := by decide +kernel
theorem dL_law_1219 : decode code 1219 = .ok (.ifCond .eq 475, 3) := by decide +kernel
theorem dL_law_1222 : decode code 1222 = .ok (.iconst 0, 1) := by decide +kernel
theorem dL_law_1223 : decode code 1223 = .ok (.ireturn, 1) := by decide +kernel
theorem dL_law_1224 : decode code 1224 = .ok (.aload_n 1, 1) := by decide +kernel
theorem dL_law_1225 : decode code 1225 = .ok (.aload_n 0, 1) := by decide +kernel
theorem dL_law_1226 : decode code 1226 = .ok (.iload_n 3, 1) := by decide +kernel
theorem dL_law_1227 : decode code 1227 = .ok (.iconst 1, 1) := by decide +kernel
theorem dL_law_1228 : decode code 1228 = .ok (.iadd, 1) := by decide +kernel
theorem dL_law_1229 : decode code 1229 = .ok (.iaload, 1) := by decide +kernel
theorem dL_law_1230 : decode code 1230 = .ok (.aload_n 0, 1) := by decide +kernel
theorem dL_law_1231 : decode code 1231 = .ok (.iload_n 3, 1) := by decide +kernel
theorem dL_law_1232 : decode code 1232 = .ok (.iconst 2, 1) := by decide +kernel
theorem dL_law_1233 : decode code 1233 = .ok (.iadd, 1) := by decide +kernel
theorem dL_law_1234 : decode code 1234 = .ok (.iaload, 1) := by decide +kernel
theorem dL_law_1235 : decode code 1235 = .ok (.invokevirtual 152, 3) := by decide +kernel
theorem dL_law_1238 : decode code 1238 = .ok (.aload_n 2, 1) := by decide +kernel
theorem dL_law_1239 : decode code 1239 = .ok (.aload_n 0, 1) := by decide +kernel
theorem dL_law_1240 : decode code 1240 = .ok (.iload_n 3, 1) := by decide +kernel
theorem dL_law_1241 : decode code 1241 = .ok (.iconst 1, 1) := by decide +kernel
theorem dL_law_1242 : decode code 1242 = .ok (.iadd, 1) := by decide +kernel
theorem dL_law_1243 : decode code 1243 = .ok (.iaload, 1) := by decide +kernel
theorem dL_law_1244 : decode code 1244 = .ok (.aload_n 0, 1) := by decide +kernel
theorem dL_law_1245 : decode code 1245 = .ok (.iload_n 3, 1) := by decide +kernel
theorem dL_law_1246 : decode code 1246 = .ok (.iconst 2, 1) := by decide +kernel
theorem dL_law_1247 : decode code 1247 = .ok (.iadd, 1) := by decide +kernel
theorem dL_law_1248 : decode code 1248 = .ok (.iaload, 1) := by decide +kernel
theorem dL_law_1249 : decode code 1249 = .ok (.invokevirtual 155, 3) := by decide +kernel
theorem dL_law_1252 : decode code 1252 = .ok (.if_icmp .eq 442, 3) := by decide +kernel
theorem dL_law_1255 : decode code 1255 = .ok (.iconst 0, 1) := by decide +kernel
theorem dL_law_1256 : decode code 1256 = .ok (.ireturn, 1) := by decide +kernel
theorem dL_law_1257 : decode code 1257 = .ok (.aload_n 1, 1) := by decide +kernel
theorem dL_law_1258 : decode code 1258 = .ok (.aload_n 0, 1) := by decide +kernel
theorem dL_law_1259 : decode code 1259 = .ok (.iload_n 3, 1) := by decide +kernel
theorem dL_law_1260 : decode code 1260 = .ok (.iconst 1, 1) := by decide +kernel
theorem dL_law_1261 : decode code 1261 = .ok (.iadd, 1) := by decide +kernel
theorem dL_law_1262 : decode code 1262 = .ok (.iaload, 1) := by decide +kernel
theorem dL_law_1263 : decode code 1263 = .ok (.aload_n 0, 1) := by decide +kernel
theorem dL_law_1264 : decode code 1264 = .ok (.iload_n 3, 1) := by decide +kernel
theorem dL_law_1265 : decode code 1265 = .ok (.iconst 2, 1) := by decide +kernel
theorem dL_law_1266 : decode code 1266 = .ok (.iadd, 1) := by decide +kernel
theorem dL_law_1267 : decode code 1267 = .ok (.iaload, 1) := by decide +kernel
theorem dL_law_1268 : decode code 1268 = .ok (.aload_n 0, 1) := by decide +kernel
theorem dL_law_1269 : decode code 1269 = .ok (.iload_n 3, 1) := by decide +kernel
theorem dL_law_1270 : decode code 1270 = .ok (.iconst 3, 1) := by decide +kernel
theorem dL_law_1271 : decode code 1271 = .ok (.iadd, 1) := by decide +kernel
theorem dL_law_1272 : decode code 1272 = .ok (.iaload, 1) := by decide +kernel
theorem dL_law_1273 : decode code 1273 = .ok (.invokevirtual 156, 3) := by decide +kernel
theorem dL_law_1276 : decode code 1276 = .ok (.aload_n 2, 1) := by decide +kernel
theorem dL_law_1277 : decode code 1277 = .ok (.aload_n 0, 1) := by decide +kernel
theorem dL_law_1278 : decode code 1278 = .ok (.iload_n 3, 1) := by decide +kernel
theorem dL_law_1279 : decode code 1279 = .ok (.iconst 1, 1) := by decide +kernel
theorem dL_law_1280 : decode code 1280 = .ok (.iadd, 1) := by decide +kernel
theorem dL_law_1281 : decode code 1281 = .ok (.iaload, 1) := by decide +kernel
theorem dL_law_1282 : decode code 1282 = .ok (.aload_n 0, 1) := by decide +kernel
theorem dL_law_1283 : decode code 1283 = .ok (.iload_n 3, 1) := by decide +kernel
theorem dL_law_1284 : decode code 1284 = .ok (.iconst 2, 1) := by decide +kernel
theorem dL_law_1285 : decode code 1285 = .ok (.iadd, 1) := by decide +kernel
theorem dL_law_1286 : decode code 1286 = .ok (.iaload, 1) := by decide +kernel
theorem dL_law_1287 : decode code 1287 = .ok (.aload_n 0, 1) := by decide +kernel
theorem dL_law_1288 : decode code 1288 = .ok (.iload_n 3, 1) := by decide +kernel
theorem dL_law_1289 : decode code 1289 = .ok (.iconst 3, 1) := by decide +kernel
theorem dL_law_1290 : decode code 1290 = .ok (.iadd, 1) := by decide +kernel
theorem dL_law_1291 : decode code 1291 = .ok (.iaload, 1) := by decide +kernel
theorem dL_law_1292 : decode code 1292 = .ok (.invokevirtual 159, 3) := by decide +kernel
theorem dL_law_1295 : decode code 1295 = .ok (.if_icmp .eq 399, 3) := by decide +kernel
theorem dL_law_1298 : decode code 1298 = .ok (.iconst 0, 1) := by decide +kernel
theorem dL_law_1299 : decode code 1299 = .ok (.ireturn, 1) := by decide +kernel
theorem dL_law_1300 : decode code 1300 = .ok (.aload_n 1, 1) := by decide +kernel
theorem dL_law_1301 : decode code 1301 = .ok (.aload_n 0, 1) := by decide +kernel
theorem dL_law_1302 : decode code 1302 = .ok (.iload_n 3, 1) := by decide +kernel
theorem dL_law_1303 : decode code 1303 = .ok (.iconst 1, 1) := by decide +kernel
theorem dL_law_1304 : decode code 1304 = .ok (.iadd, 1) := by decide +kernel
theorem dL_law_1305 : decode code 1305 = .ok (.iaload, 1) := by decide +kernel
theorem dL_law_1306 : decode code 1306 = .ok (.aload_n 0, 1) := by decide +kernel
theorem dL_law_1307 : decode code 1307 = .ok (.iload_n 3, 1) := by decide +kernel
theorem dL_law_1308 : decode code 1308 = .ok (.iconst 2, 1) := by decide +kernel
theorem dL_law_1309 : decode code 1309 = .ok (.iadd, 1) := by decide +kernel
theorem dL_law_1310 : decode code 1310 = .ok (.iaload, 1) := by decide +kernel
theorem dL_law_1311 : decode code 1311 = .ok (.aload_n 0, 1) := by decide +kernel
theorem dL_law_1312 : decode code 1312 = .ok (.iload_n 3, 1) := by decide +kernel
theorem dL_law_1313 : decode code 1313 = .ok (.iconst 3, 1) := by decide +kernel
theorem dL_law_1314 : decode code 1314 = .ok (.iadd, 1) := by decide +kernel
theorem dL_law_1315 : decode code 1315 = .ok (.iaload, 1) := by decide +kernel
theorem dL_law_1316 : decode code 1316 = .ok (.invokevirtual 160, 3) := by decide +kernel
theorem dL_law_1319 : decode code 1319 = .ok (.aload_n 2, 1) := by decide +kernel
theorem dL_law_1320 : decode code 1320 = .ok (.aload_n 0, 1) := by decide +kernel
theorem dL_law_1321 : decode code 1321 = .ok (.iload_n 3, 1) := by decide +kernel
theorem dL_law_1322 : decode code 1322 = .ok (.iconst 1, 1) := by decide +kernel
theorem dL_law_1323 : decode code 1323 = .ok (.iadd, 1) := by decide +kernel
theorem dL_law_1324 : decode code 1324 = .ok (.iaload, 1) := by decide +kernel
theorem dL_law_1325 : decode code 1325 = .ok (.aload_n 0, 1) := by decide +kernel
theorem dL_law_1326 : decode code 1326 = .ok (.iload_n 3, 1) := by decide +kernel
theorem dL_law_1327 : decode code 1327 = .ok (.iconst 2, 1) := by decide +kernel
theorem dL_law_1328 : decode code 1328 = .ok (.iadd, 1) := by decide +kernel
theorem dL_law_1329 : decode code 1329 = .ok (.iaload, 1) := by decide +kernel
theorem dL_law_1330 : decode code 1330 = .ok (.aload_n 0, 1) := by decide +kernel
theorem dL_law_1331 : decode code 1331 = .ok (.iload_n 3, 1) := by decide +kernel
theorem dL_law_1332 : decode code 1332 = .ok (.iconst 3, 1) := by decide +kernel
theorem dL_law_1333 : decode code 1333 = .ok (.iadd, 1) := by decide +kernel
theorem dL_law_1334 : decode code 1334 = .ok (.iaload, 1) := by decide +kernel
theorem dL_law_1335 : decode code 1335 = .ok (.invokevirtual 163, 3) := by decide +kernel
theorem dL_law_1338 : decode code 1338 = .ok (.if_icmp .eq 356, 3) := by decide +kernel
theorem dL_law_1341 : decode code 1341 = .ok (.iconst 0, 1) := by decide +kernel
theorem dL_law_1342 : decode code 1342 = .ok (.ireturn, 1) := by decide +kernel
theorem dL_law_1343 : decode code 1343 = .ok (.aload_n 1, 1) := by decide +kernel
theorem dL_law_1344 : decode code 1344 = .ok (.aload_n 0, 1) := by decide +kernel
theorem dL_law_1345 : decode code 1345 = .ok (.iload_n 3, 1) := by decide +kernel
theorem dL_law_1346 : decode code 1346 = .ok (.iconst 1, 1) := by decide +kernel
theorem dL_law_1347 : decode code 1347 = .ok (.iadd, 1) := by decide +kernel
theorem dL_law_1348 : decode code 1348 = .ok (.iaload, 1) := by decide +kernel
theorem dL_law_1349 : decode code 1349 = .ok (.invokevirtual 164, 3) := by decide +kernel
theorem dL_law_1352 : decode code 1352 = .ok (.aload_n 2, 1) := by decide +kernel
theorem dL_law_1353 : decode code 1353 = .ok (.aload_n 0, 1) := by decide +kernel
theorem dL_law_1354 : decode code 1354 = .ok (.iload_n 3, 1) := by decide +kernel
theorem dL_law_1355 : decode code 1355 = .ok (.iconst 1, 1) := by decide +kernel
theorem dL_law_1356 : decode code 1356 = .ok (.iadd, 1) := by decide +kernel
theorem dL_law_1357 : decode code 1357 = .ok (.iaload, 1) := by decide +kernel
theorem dL_law_1358 : decode code 1358 = .ok (.invokevirtual 167, 3) := by decide +kernel
theorem dL_law_1361 : decode code 1361 = .ok (.if_icmp .eq 333, 3) := by decide +kernel
theorem dL_law_1364 : decode code 1364 = .ok (.iconst 0, 1) := by decide +kernel
theorem dL_law_1365 : decode code 1365 = .ok (.ireturn, 1) := by decide +kernel
theorem dL_law_1366 : decode code 1366 = .ok (.aload_n 1, 1) := by decide +kernel
theorem dL_law_1367 : decode code 1367 = .ok (.aload_n 0, 1) := by decide +kernel
theorem dL_law_1368 : decode code 1368 = .ok (.iload_n 3, 1) := by decide +kernel
theorem dL_law_1369 : decode code 1369 = .ok (.iconst 1, 1) := by decide +kernel
theorem dL_law_1370 : decode code 1370 = .ok (.iadd, 1) := by decide +kernel
theorem dL_law_1371 : decode code 1371 = .ok (.iaload, 1) := by decide +kernel
theorem dL_law_1372 : decode code 1372 = .ok (.aload_n 0, 1) := by decide +kernel
theorem dL_law_1373 : decode code 1373 = .ok (.iload_n 3, 1) := by decide +kernel
theorem dL_law_1374 : decode code 1374 = .ok (.iconst 2, 1) := by decide +kernel
theorem dL_law_1375 : decode code 1375 = .ok (.iadd, 1) := by decide +kernel
theorem dL_law_1376 : decode code 1376 = .ok (.iaload, 1) := by decide +kernel
theorem dL_law_1377 : decode code 1377 = .ok (.aload_n 0, 1) := by decide +kernel
theorem dL_law_1378 : decode code 1378 = .ok (.iload_n 3, 1) := by decide +kernel
theorem dL_law_1379 : decode code 1379 = .ok (.iconst 3, 1) := by decide +kernel
theorem dL_law_1380 : decode code 1380 = .ok (.iadd, 1) := by decide +kernel
theorem dL_law_1381 : decode code 1381 = .ok (.iaload, 1) := by decide +kernel
theorem dL_law_1382 : decode code 1382 = .ok (.invokevirtual 168, 3) := by decide +kernel
theorem dL_law_1385 : decode code 1385 = .ok (.aload_n 2, 1) := by decide +kernel
theorem dL_law_1386 : decode code 1386 = .ok (.aload_n 0, 1) := by decide +kernel
theorem dL_law_1387 : decode code 1387 = .ok (.iload_n 3, 1) := by decide +kernel
theorem dL_law_1388 : decode code 1388 = .ok (.iconst 1, 1) := by decide +kernel
theorem dL_law_1389 : decode code 1389 = .ok (.iadd, 1) := by decide +kernel
theorem dL_law_1390 : decode code 1390 = .ok (.iaload, 1) := by decide +kernel
theorem dL_law_1391 : decode code 1391 = .ok (.aload_n 0, 1) := by decide +kernel
theorem dL_law_1392 : decode code 1392 = .ok (.iload_n 3, 1) := by decide +kernel
theorem dL_law_1393 : decode code 1393 = .ok (.iconst 2, 1) := by decide +kernel
theorem dL_law_1394 : decode code 1394 = .ok (.iadd, 1) := by decide +kernel
theorem dL_law_1395 : decode code 1395 = .ok (.iaload, 1) := by decide +kernel
theorem dL_law_1396 : decode code 1396 = .ok (.aload_n 0, 1) := by decide +kernel
theorem dL_law_1397 : decode code 1397 = .ok (.iload_n 3, 1) := by decide +kernel
theorem dL_law_1398 : decode code 1398 = .ok (.iconst 3, 1) := by decide +kernel
theorem dL_law_1399 : decode code 1399 = .ok (.iadd, 1) := by decide +kernel
theorem dL_law_1400 : decode code 1400 = .ok (.iaload, 1) := by decide +kernel
theorem dL_law_1401 : decode code 1401 = .ok (.invokevirtual 171, 3) := by decide +kernel
theorem dL_law_1404 : decode code 1404 = .ok (.if_icmp .eq 290, 3) := by decide +kernel
theorem dL_law_1407 : decode code 1407 = .ok (.iconst 0, 1) := by decide +kernel
theorem dL_law_1408 : decode code 1408 = .ok (.ireturn, 1) := by decide +kernel
theorem dL_law_1409 : decode code 1409 = .ok (.aload_n 1, 1) := by decide +kernel
theorem dL_law_1410 : decode code 1410 = .ok (.aload_n 0, 1) := by decide +kernel
theorem dL_law_1411 : decode code 1411 = .ok (.iload_n 3, 1) := by decide +kernel
theorem dL_law_1412 : decode code 1412 = .ok (.iconst 1, 1) := by decide +kernel
theorem dL_law_1413 : decode code 1413 = .ok (.iadd, 1) := by decide +kernel
theorem dL_law_1414 : decode code 1414 = .ok (.iaload, 1) := by decide +kernel
theorem dL_law_1415 : decode code 1415 = .ok (.aload_n 0, 1) := by decide +kernel
theorem dL_law_1416 : decode code 1416 = .ok (.iload_n 3, 1) := by decide +kernel
theorem dL_law_1417 : decode code 1417 = .ok (.iconst 2, 1) := by decide +kernel
theorem dL_law_1418 : decode code 1418 = .ok (.iadd, 1) := by decide +kernel
theorem dL_law_1419 : decode code 1419 = .ok (.iaload, 1) := by decide +kernel
theorem dL_law_1420 : decode code 1420 = .ok (.invokevirtual 172, 3) := by decide +kernel
theorem dL_law_1423 : decode code 1423 = .ok (.aload_n 2, 1) := by decide +kernel
theorem dL_law_1424 : decode code 1424 = .ok (.aload_n 0, 1) := by decide +kernel
theorem dL_law_1425 : decode code 1425 = .ok (.iload_n 3, 1) := by decide +kernel
theorem dL_law_1426 : decode code 1426 = .ok (.iconst 1, 1) := by decide +kernel
theorem dL_law_1427 : decode code 1427 = .ok (.iadd, 1) := by decide +kernel
theorem dL_law_1428 : decode code 1428 = .ok (.iaload, 1) := by decide +kernel
theorem dL_law_1429 : decode code 1429 = .ok (.aload_n 0, 1) := by decide +kernel
theorem dL_law_1430 : decode code 1430 = .ok (.iload_n 3, 1) := by decide +kernel
theorem dL_law_1431 : decode code 1431 = .ok (.iconst 2, 1) := by decide +kernel
theorem dL_law_1432 : decode code 1432 = .ok (.iadd, 1) := by decide +kernel
theorem dL_law_1433 : decode code 1433 = .ok (.iaload, 1) := by decide +kernel
theorem dL_law_1434 : decode code 1434 = .ok (.invokevirtual 175, 3) := by decide +kernel
theorem dL_law_1437 : decode code 1437 = .ok (.if_icmp .eq 257, 3) := by decide +kernel
theorem dL_law_1440 : decode code 1440 = .ok (.iconst 0, 1) := by decide +kernel
theorem dL_law_1441 : decode code 1441 = .ok (.ireturn, 1) := by decide +kernel
theorem dL_law_1442 : decode code 1442 = .ok (.aload_n 1, 1) := by decide +kernel
theorem dL_law_1443 : decode code 1443 = .ok (.aload_n 0, 1) := by decide +kernel
theorem dL_law_1444 : decode code 1444 = .ok (.iload_n 3, 1) := by decide +kernel
theorem dL_law_1445 : decode code 1445 = .ok (.iconst 1, 1) := by decide +kernel
theorem dL_law_1446 : decode code 1446 = .ok (.iadd, 1) := by decide +kernel
theorem dL_law_1447 : decode code 1447 = .ok (.iaload, 1) := by decide +kernel
theorem dL_law_1448 : decode code 1448 = .ok (.invokevirtual 176, 3) := by decide +kernel
theorem dL_law_1451 : decode code 1451 = .ok (.aload_n 2, 1) := by decide +kernel
theorem dL_law_1452 : decode code 1452 = .ok (.aload_n 0, 1) := by decide +kernel
theorem dL_law_1453 : decode code 1453 = .ok (.iload_n 3, 1) := by decide +kernel
theorem dL_law_1454 : decode code 1454 = .ok (.iconst 1, 1) := by decide +kernel
theorem dL_law_1455 : decode code 1455 = .ok (.iadd, 1) := by decide +kernel
theorem dL_law_1456 : decode code 1456 = .ok (.iaload, 1) := by decide +kernel
theorem dL_law_1457 : decode code 1457 = .ok (.invokevirtual 179, 3) := by decide +kernel
theorem dL_law_1460 : decode code 1460 = .ok (.if_icmp .eq 234, 3) := by decide +kernel
theorem dL_law_1463 : decode code 1463 = .ok (.iconst 0, 1) := by decide +kernel
theorem dL_law_1464 : decode code 1464 = .ok (.ireturn, 1) := by decide +kernel
theorem dL_law_1465 : decode code 1465 = .ok (.aload_n 1, 1) := by decide +kernel
theorem dL_law_1466 : decode code 1466 = .ok (.aload_n 0, 1) := by decide +kernel
theorem dL_law_1467 : decode code 1467 = .ok (.iload_n 3, 1) := by decide +kernel
theorem dL_law_1468 : decode code 1468 = .ok (.iconst 1, 1) := by decide +kernel
theorem dL_law_1469 : decode code 1469 = .ok (.iadd, 1) := by decide +kernel
theorem dL_law_1470 : decode code 1470 = .ok (.iaload, 1) := by decide +kernel
theorem dL_law_1471 : decode code 1471 = .ok (.aload_n 0, 1) := by decide +kernel
theorem dL_law_1472 : decode code 1472 = .ok (.iload_n 3, 1) := by decide +kernel
theorem dL_law_1473 : decode code 1473 = .ok (.iconst 2, 1) := by decide +kernel
theorem dL_law_1474 : decode code 1474 = .ok (.iadd, 1) := by decide +kernel
theorem dL_law_1475 : decode code 1475 = .ok (.iaload, 1) := by decide +kernel
theorem dL_law_1476 : decode code 1476 = .ok (.aload_n 0, 1) := by decide +kernel
theorem dL_law_1477 : decode code 1477 = .ok (.iload_n 3, 1) := by decide +kernel
theorem dL_law_1478 : decode code 1478 = .ok (.iconst 3, 1) := by decide +kernel
theorem dL_law_1479 : decode code 1479 = .ok (.iadd, 1) := by decide +kernel
theorem dL_law_1480 : decode code 1480 = .ok (.iaload, 1) := by decide +kernel
theorem dL_law_1481 : decode code 1481 = .ok (.invokevirtual 180, 3) := by decide +kernel
theorem dL_law_1484 : decode code 1484 = .ok (.aload_n 2, 1) := by decide +kernel
theorem dL_law_1485 : decode code 1485 = .ok (.aload_n 0, 1) := by decide +kernel
theorem dL_law_1486 : decode code 1486 = .ok (.iload_n 3, 1) := by decide +kernel
theorem dL_law_1487 : decode code 1487 = .ok (.iconst 1, 1) := by decide +kernel
theorem dL_law_1488 : decode code 1488 = .ok (.iadd, 1) := by decide +kernel
theorem dL_law_1489 : decode code 1489 = .ok (.iaload, 1) := by decide +kernel
theorem dL_law_1490 : decode code 1490 = .ok (.aload_n 0, 1) := by decide +kernel
theorem dL_law_1491 : decode code 1491 = .ok (.iload_n 3, 1) := by decide +kernel
theorem dL_law_1492 : decode code 1492 = .ok (.iconst 2, 1) := by decide +kernel
theorem dL_law_1493 : decode code 1493 = .ok (.iadd, 1) := by decide +kernel
theorem dL_law_1494 : decode code 1494 = .ok (.iaload, 1) := by decide +kernel
theorem dL_law_1495 : decode code 1495 = .ok (.aload_n 0, 1) := by decide +kernel
theorem dL_law_1496 : decode code 1496 = .ok (.iload_n 3, 1) := by decide +kernel
theorem dL_law_1497 : decode code 1497 = .ok (.iconst 3, 1) := by decide +kernel
theorem dL_law_1498 : decode code 1498 = .ok (.iadd, 1) := by decide +kernel
theorem dL_law_1499 : decode code 1499 = .ok (.iaload, 1) := by decide +kernel
theorem dL_law_1500 : decode code 1500 = .ok (.invokevirtual 183, 3) := by decide +kernel
theorem dL_law_1503 : decode code 1503 = .ok (.if_icmp .eq 191, 3) := by decide +kernel
theorem dL_law_1506 : decode code 1506 = .ok (.iconst 0, 1) := by decide +kernel
theorem dL_law_1507 : decode code 1507 = .ok (.ireturn, 1) := by decide +kernel
theorem dL_law_1508 : decode code 1508 = .ok (.aload_n 1, 1) := by decide +kernel
theorem dL_law_1509 : decode code 1509 = .ok (.aload_n 0, 1) := by decide +kernel
theorem dL_law_1510 : decode code 1510 = .ok (.iload_n 3, 1) := by decide +kernel
theorem dL_law_1511 : decode code 1511 = .ok (.iconst 1, 1) := by decide +kernel
theorem dL_law_1512 : decode code 1512 = .ok (.iadd, 1) := by decide +kernel
theorem dL_law_1513 : decode code 1513 = .ok (.iaload, 1) := by decide +kernel
theorem dL_law_1514 : decode code 1514 = .ok (.aload_n 0, 1) := by decide +kernel
theorem dL_law_1515 : decode code 1515 = .ok (.iload_n 3, 1) := by decide +kernel
theorem dL_law_1516 : decode code 1516 = .ok (.iconst 2, 1) := by decide +kernel
theorem dL_law_1517 : decode code 1517 = .ok (.iadd, 1) := by decide +kernel
theorem dL_law_1518 : decode code 1518 = .ok (.iaload, 1) := by decide +kernel
theorem dL_law_1519 : decode code 1519 = .ok (.aload_n 0, 1) := by decide +kernel
theorem dL_law_1520 : decode code 1520 = .ok (.iload_n 3, 1) := by decide +kernel
theorem dL_law_1521 : decode code 1521 = .ok (.iconst 3, 1) := by decide +kernel
theorem dL_law_1522 : decode code 1522 = .ok (.iadd, 1) := by decide +kernel
theorem dL_law_1523 : decode code 1523 = .ok (.iaload, 1) := by decide +kernel
theorem dL_law_1524 : decode code 1524 = .ok (.i2l, 1) := by decide +kernel
theorem dL_law_1525 : decode code 1525 = .ok (.bipush 32, 2) := by decide +kernel
theorem dL_law_1527 : decode code 1527 = .ok (.lshl, 1) := by decide +kernel
theorem dL_law_1528 : decode code 1528 = .ok (.aload_n 0, 1) := by decide +kernel
theorem dL_law_1529 : decode code 1529 = .ok (.iload_n 3, 1) := by decide +kernel
theorem dL_law_1530 : decode code 1530 = .ok (.iconst 4, 1) := by decide +kernel
theorem dL_law_1531 : decode code 1531 = .ok (.iadd, 1) := by decide +kernel
theorem dL_law_1532 : decode code 1532 = .ok (.iaload, 1) := by decide +kernel
theorem dL_law_1533 : decode code 1533 = .ok (.i2l, 1) := by decide +kernel
theorem dL_law_1534 : decode code 1534 = .ok (.ldc2_w 184, 3) := by decide +kernel
theorem dL_law_1537 : decode code 1537 = .ok (.land, 1) := by decide +kernel
theorem dL_law_1538 : decode code 1538 = .ok (.lor, 1) := by decide +kernel
theorem dL_law_1539 : decode code 1539 = .ok (.invokevirtual 186, 3) := by decide +kernel
theorem dL_law_1542 : decode code 1542 = .ok (.aload_n 2, 1) := by decide +kernel
theorem dL_law_1543 : decode code 1543 = .ok (.aload_n 0, 1) := by decide +kernel
theorem dL_law_1544 : decode code 1544 = .ok (.iload_n 3, 1) := by decide +kernel
theorem dL_law_1545 : decode code 1545 = .ok (.iconst 1, 1) := by decide +kernel
theorem dL_law_1546 : decode code 1546 = .ok (.iadd, 1) := by decide +kernel
theorem dL_law_1547 : decode code 1547 = .ok (.iaload, 1) := by decide +kernel
theorem dL_law_1548 : decode code 1548 = .ok (.aload_n 0, 1) := by decide +kernel
theorem dL_law_1549 : decode code 1549 = .ok (.iload_n 3, 1) := by decide +kernel
theorem dL_law_1550 : decode code 1550 = .ok (.iconst 2, 1) := by decide +kernel
theorem dL_law_1551 : decode code 1551 = .ok (.iadd, 1) := by decide +kernel
theorem dL_law_1552 : decode code 1552 = .ok (.iaload, 1) := by decide +kernel
theorem dL_law_1553 : decode code 1553 = .ok (.aload_n 0, 1) := by decide +kernel
theorem dL_law_1554 : decode code 1554 = .ok (.iload_n 3, 1) := by decide +kernel
theorem dL_law_1555 : decode code 1555 = .ok (.iconst 3, 1) := by decide +kernel
theorem dL_law_1556 : decode code 1556 = .ok (.iadd, 1) := by decide +kernel
theorem dL_law_1557 : decode code 1557 = .ok (.iaload, 1) := by decide +kernel
theorem dL_law_1558 : decode code 1558 = .ok (.i2l, 1) := by decide +kernel
theorem dL_law_1559 : decode code 1559 = .ok (.bipush 32, 2) := by decide +kernel
theorem dL_law_1561 : decode code 1561 = .ok (.lshl, 1) := by decide +kernel
theorem dL_law_1562 : decode code 1562 = .ok (.aload_n 0, 1) := by decide +kernel
theorem dL_law_1563 : decode code 1563 = .ok (.iload_n 3, 1) := by decide +kernel
theorem dL_law_1564 : decode code 1564 = .ok (.iconst 4, 1) := by decide +kernel
theorem dL_law_1565 : decode code 1565 = .ok (.iadd, 1) := by decide +kernel
theorem dL_law_1566 : decode code 1566 = .ok (.iaload, 1) := by decide +kernel
theorem dL_law_1567 : decode code 1567 = .ok (.i2l, 1) := by decide +kernel
theorem dL_law_1568 : decode code 1568 = .ok (.ldc2_w 184, 3) := by decide +kernel
theorem dL_law_1571 : decode code 1571 = .ok (.land, 1) := by decide +kernel
theorem dL_law_1572 : decode code 1572 = .ok (.lor, 1) := by decide +kernel
theorem dL_law_1573 : decode code 1573 = .ok (.invokevirtual 190, 3) := by decide +kernel
theorem dL_law_1576 : decode code 1576 = .ok (.lcmp, 1) := by decide +kernel
theorem dL_law_1577 : decode code 1577 = .ok (.ifCond .eq 117, 3) := by decide +kernel
theorem dL_law_1580 : decode code 1580 = .ok (.iconst 0, 1) := by decide +kernel
theorem dL_law_1581 : decode code 1581 = .ok (.ireturn, 1) := by decide +kernel
theorem dL_law_1582 : decode code 1582 = .ok (.aload_n 1, 1) := by decide +kernel
theorem dL_law_1583 : decode code 1583 = .ok (.aload_n 0, 1) := by decide +kernel
theorem dL_law_1584 : decode code 1584 = .ok (.iload_n 3, 1) := by decide +kernel
theorem dL_law_1585 : decode code 1585 = .ok (.iconst 1, 1) := by decide +kernel
theorem dL_law_1586 : decode code 1586 = .ok (.iadd, 1) := by decide +kernel
theorem dL_law_1587 : decode code 1587 = .ok (.iaload, 1) := by decide +kernel
theorem dL_law_1588 : decode code 1588 = .ok (.aload_n 0, 1) := by decide +kernel
theorem dL_law_1589 : decode code 1589 = .ok (.iload_n 3, 1) := by decide +kernel
theorem dL_law_1590 : decode code 1590 = .ok (.iconst 2, 1) := by decide +kernel
theorem dL_law_1591 : decode code 1591 = .ok (.iadd, 1) := by decide +kernel
theorem dL_law_1592 : decode code 1592 = .ok (.iaload, 1) := by decide +kernel
theorem dL_law_1593 : decode code 1593 = .ok (.aload_n 0, 1) := by decide +kernel
theorem dL_law_1594 : decode code 1594 = .ok (.iload_n 3, 1) := by decide +kernel
theorem dL_law_1595 : decode code 1595 = .ok (.iconst 3, 1) := by decide +kernel
theorem dL_law_1596 : decode code 1596 = .ok (.iadd, 1) := by decide +kernel
theorem dL_law_1597 : decode code 1597 = .ok (.iaload, 1) := by decide +kernel
theorem dL_law_1598 : decode code 1598 = .ok (.invokevirtual 191, 3) := by decide +kernel
theorem dL_law_1601 : decode code 1601 = .ok (.aload_n 2, 1) := by decide +kernel
theorem dL_law_1602 : decode code 1602 = .ok (.aload_n 0, 1) := by decide +kernel
theorem dL_law_1603 : decode code 1603 = .ok (.iload_n 3, 1) := by decide +kernel
theorem dL_law_1604 : decode code 1604 = .ok (.iconst 1, 1) := by decide +kernel
theorem dL_law_1605 : decode code 1605 = .ok (.iadd, 1) := by decide +kernel
theorem dL_law_1606 : decode code 1606 = .ok (.iaload, 1) := by decide +kernel
theorem dL_law_1607 : decode code 1607 = .ok (.aload_n 0, 1) := by decide +kernel
theorem dL_law_1608 : decode code 1608 = .ok (.iload_n 3, 1) := by decide +kernel
theorem dL_law_1609 : decode code 1609 = .ok (.iconst 2, 1) := by decide +kernel
theorem dL_law_1610 : decode code 1610 = .ok (.iadd, 1) := by decide +kernel
theorem dL_law_1611 : decode code 1611 = .ok (.iaload, 1) := by decide +kernel
theorem dL_law_1612 : decode code 1612 = .ok (.aload_n 0, 1) := by decide +kernel
theorem dL_law_1613 : decode code 1613 = .ok (.iload_n 3, 1) := by decide +kernel
theorem dL_law_1614 : decode code 1614 = .ok (.iconst 3, 1) := by decide +kernel
theorem dL_law_1615 : decode code 1615 = .ok (.iadd, 1) := by decide +kernel
theorem dL_law_1616 : decode code 1616 = .ok (.iaload, 1) := by decide +kernel
theorem dL_law_1617 : decode code 1617 = .ok (.invokevirtual 194, 3) := by decide +kernel
theorem dL_law_1620 : decode code 1620 = .ok (.if_icmp .eq 74, 3) := by decide +kernel
theorem dL_law_1623 : decode code 1623 = .ok (.iconst 0, 1) := by decide +kernel
theorem dL_law_1624 : decode code 1624 = .ok (.ireturn, 1) := by decide +kernel
theorem dL_law_1625 : decode code 1625 = .ok (.aload_n 1, 1) := by decide +kernel
theorem dL_law_1626 : decode code 1626 = .ok (.aload_n 0, 1) := by decide +kernel
theorem dL_law_1627 : decode code 1627 = .ok (.iload_n 3, 1) := by decide +kernel
theorem dL_law_1628 : decode code 1628 = .ok (.iconst 1, 1) := by decide +kernel
theorem dL_law_1629 : decode code 1629 = .ok (.iadd, 1) := by decide +kernel
theorem dL_law_1630 : decode code 1630 = .ok (.iaload, 1) := by decide +kernel
theorem dL_law_1631 : decode code 1631 = .ok (.invokevirtual 195, 3) := by decide +kernel
theorem dL_law_1634 : decode code 1634 = .ok (.aload_n 2, 1) := by decide +kernel
theorem dL_law_1635 : decode code 1635 = .ok (.aload_n 0, 1) := by decide +kernel
theorem dL_law_1636 : decode code 1636 = .ok (.iload_n 3, 1) := by decide +kernel
theorem dL_law_1637 : decode code 1637 = .ok (.iconst 1, 1) := by decide +kernel
theorem dL_law_1638 : decode code 1638 = .ok (.iadd, 1) := by decide +kernel
theorem dL_law_1639 : decode code 1639 = .ok (.iaload, 1) := by decide +kernel
theorem dL_law_1640 : decode code 1640 = .ok (.invokevirtual 198, 3) := by decide +kernel
theorem dL_law_1643 : decode code 1643 = .ok (.if_icmp .eq 51, 3) := by decide +kernel
theorem dL_law_1646 : decode code 1646 = .ok (.iconst 0, 1) := by decide +kernel
theorem dL_law_1647 : decode code 1647 = .ok (.ireturn, 1) := by decide +kernel
theorem dL_law_1648 : decode code 1648 = .ok (.aload_n 1, 1) := by decide +kernel
theorem dL_law_1649 : decode code 1649 = .ok (.aload_n 0, 1) := by decide +kernel
theorem dL_law_1650 : decode code 1650 = .ok (.iload_n 3, 1) := by decide +kernel
theorem dL_law_1651 : decode code 1651 = .ok (.iconst 1, 1) := by decide +kernel
theorem dL_law_1652 : decode code 1652 = .ok (.iadd, 1) := by decide +kernel
theorem dL_law_1653 : decode code 1653 = .ok (.iaload, 1) := by decide +kernel
theorem dL_law_1654 : decode code 1654 = .ok (.invokevirtual 199, 3) := by decide +kernel
theorem dL_law_1657 : decode code 1657 = .ok (.aload_n 2, 1) := by decide +kernel
theorem dL_law_1658 : decode code 1658 = .ok (.aload_n 0, 1) := by decide +kernel
theorem dL_law_1659 : decode code 1659 = .ok (.iload_n 3, 1) := by decide +kernel
theorem dL_law_1660 : decode code 1660 = .ok (.iconst 1, 1) := by decide +kernel
theorem dL_law_1661 : decode code 1661 = .ok (.iadd, 1) := by decide +kernel
theorem dL_law_1662 : decode code 1662 = .ok (.iaload, 1) := by decide +kernel
theorem dL_law_1663 : decode code 1663 = .ok (.invokevirtual 202, 3) := by decide +kernel
theorem dL_law_1666 : decode code 1666 = .ok (.if_icmp .eq 28, 3) := by decide +kernel
theorem dL_law_1669 : decode code 1669 = .ok (.iconst 0, 1) := by decide +kernel
theorem dL_law_1670 : decode code 1670 = .ok (.ireturn, 1) := by decide +kernel
theorem dL_law_1671 : decode code 1671 = .ok (.aload_n 1, 1) := by decide +kernel
theorem dL_law_1672 : decode code 1672 = .ok (.aload_n 0, 1) := by decide +kernel
theorem dL_law_1673 : decode code 1673 = .ok (.iload_n 3, 1) := by decide +kernel
theorem dL_law_1674 : decode code 1674 = .ok (.iconst 1, 1) := by decide +kernel
theorem dL_law_1675 : decode code 1675 = .ok (.iadd, 1) := by decide +kernel
theorem dL_law_1676 : decode code 1676 = .ok (.iaload, 1) := by decide +kernel
theorem dL_law_1677 : decode code 1677 = .ok (.invokevirtual 203, 3) := by decide +kernel
theorem dL_law_1680 : decode code 1680 = .ok (.aload_n 2, 1) := by decide +kernel
theorem dL_law_1681 : decode code 1681 = .ok (.aload_n 0, 1) := by decide +kernel
theorem dL_law_1682 : decode code 1682 = .ok (.iload_n 3, 1) := by decide +kernel
theorem dL_law_1683 : decode code 1683 = .ok (.iconst 1, 1) := by decide +kernel
theorem dL_law_1684 : decode code 1684 = .ok (.iadd, 1) := by decide +kernel
theorem dL_law_1685 : decode code 1685 = .ok (.iaload, 1) := by decide +kernel
theorem dL_law_1686 : decode code 1686 = .ok (.invokevirtual 206, 3) := by decide +kernel
theorem dL_law_1689 : decode code 1689 = .ok (.if_icmp .eq 5, 3) := by decide +kernel
theorem dL_law_1692 : decode code 1692 = .ok (.iconst 0, 1) := by decide +kernel
theorem dL_law_1693 : decode code 1693 = .ok (.ireturn, 1) := by decide +kernel
theorem dL_law_1694 : decode code 1694 = .ok (.iinc 3 6, 3) := by decide +kernel
theorem dL_law_1697 : decode code 1697 = .ok (.goto (-1679), 3) := by decide +kernel
theorem dL_law_1700 : decode code 1700 = .ok (.iconst 1, 1) := by decide +kernel
theorem dL_law_1701 : decode code 1701 = .ok (.ireturn, 1) := by decide +kernel
