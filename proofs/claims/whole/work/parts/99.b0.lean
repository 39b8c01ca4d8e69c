/-! the law, row by row -/
theorem dL_0 : decode code 0 = .ok (.new 7, 3) := by decide +kernel
theorem dL_3 : decode code 3 = .ok (.dup, 1) := by decide +kernel
theorem dL_4 : decode code 4 = .ok (.invokespecial 9, 3) := by decide +kernel
theorem dL_7 : decode code 7 = .ok (.astore_n 1, 1) := by decide +kernel
theorem dL_8 : decode code 8 = .ok (.new 10, 3) := by decide +kernel
theorem dL_11 : decode code 11 = .ok (.dup, 1) := by decide +kernel
theorem dL_12 : decode code 12 = .ok (.invokespecial 12, 3) := by decide +kernel
theorem dL_15 : decode code 15 = .ok (.astore_n 2, 1) := by decide +kernel
theorem dL_16 : decode code 16 = .ok (.iconst 0, 1) := by decide +kernel
theorem dL_17 : decode code 17 = .ok (.istore_n 3, 1) := by decide +kernel
theorem dL_18 : decode code 18 = .ok (.iload_n 3, 1) := by decide +kernel
theorem dL_19 : decode code 19 = .ok (.aload_n 0, 1) := by decide +kernel
theorem dL_20 : decode code 20 = .ok (.arraylength, 1) := by decide +kernel
theorem dL_21 : decode code 21 = .ok (.bipush 6, 2) := by decide +kernel
theorem dL_23 : decode code 23 = .ok (.isub, 1) := by decide +kernel
theorem dL_24 : decode code 24 = .ok (.if_icmp .gt 1357, 3) := by decide +kernel
theorem dL_27 : decode code 27 = .ok (.aload_n 0, 1) := by decide +kernel
theorem dL_28 : decode code 28 = .ok (.iload_n 3, 1) := by decide +kernel
theorem dL_29 : decode code 29 = .ok (.iaload, 1) := by decide +kernel
theorem dL_30 : decode code 30 = .ok (.bipush 63, 2) := by decide +kernel
theorem dL_32 : decode code 32 = .ok (.iand, 1) := by decide +kernel
theorem dL_33 : decode code 33 = .ok (.tableswitch 1342 0 41 #[183, 216, 259, 292, 315, 378, 401, 434, 477, 500, 523, 556, 589, 622, 665, 688, 701, 724, 757, 780, 803, 816, 839, 872, 895, 918, 931, 954, 987, 1040, 1063, 1086, 1119, 1152, 1195, 1228, 1241, 1255, 1269, 1292, 1305, 1328], 183) := by decide +kernel
theorem dL_216 : decode code 216 = .ok (.aload_n 1, 1) := by decide +kernel
theorem dL_217 : decode code 217 = .ok (.aload_n 0, 1) := by decide +kernel
theorem dL_218 : decode code 218 = .ok (.iload_n 3, 1) := by decide +kernel
theorem dL_219 : decode code 219 = .ok (.iconst 1, 1) := by decide +kernel
theorem dL_220 : decode code 220 = .ok (.iadd, 1) := by decide +kernel
theorem dL_221 : decode code 221 = .ok (.iaload, 1) := by decide +kernel
theorem dL_222 : decode code 222 = .ok (.aload_n 0, 1) := by decide +kernel
theorem dL_223 : decode code 223 = .ok (.iload_n 3, 1) := by decide +kernel
theorem dL_224 : decode code 224 = .ok (.iconst 2, 1) := by decide +kernel
theorem dL_225 : decode code 225 = .ok (.iadd, 1) := by decide +kernel
theorem dL_226 : decode code 226 = .ok (.iaload, 1) := by decide +kernel
theorem dL_227 : decode code 227 = .ok (.invokevirtual 13, 3) := by decide +kernel
theorem dL_230 : decode code 230 = .ok (.aload_n 2, 1) := by decide +kernel
theorem dL_231 : decode code 231 = .ok (.aload_n 0, 1) := by decide +kernel
theorem dL_232 : decode code 232 = .ok (.iload_n 3, 1) := by decide +kernel
theorem dL_233 : decode code 233 = .ok (.iconst 1, 1) := by decide +kernel
theorem dL_234 : decode code 234 = .ok (.iadd, 1) := by decide +kernel
theorem dL_235 : decode code 235 = .ok (.iaload, 1) := by decide +kernel
theorem dL_236 : decode code 236 = .ok (.aload_n 0, 1) := by decide +kernel
theorem dL_237 : decode code 237 = .ok (.iload_n 3, 1) := by decide +kernel
theorem dL_238 : decode code 238 = .ok (.iconst 2, 1) := by decide +kernel
theorem dL_239 : decode code 239 = .ok (.iadd, 1) := by decide +kernel
theorem dL_240 : decode code 240 = .ok (.iaload, 1) := by decide +kernel
theorem dL_241 : decode code 241 = .ok (.invokevirtual 17, 3) := by decide +kernel
theorem dL_244 : decode code 244 = .ok (.if_icmp .eq 1131, 3) := by decide +kernel
theorem dL_247 : decode code 247 = .ok (.iconst 0, 1) := by decide +kernel
theorem dL_248 : decode code 248 = .ok (.ireturn, 1) := by decide +kernel
theorem dL_249 : decode code 249 = .ok (.aload_n 1, 1) := by decide +kernel
theorem dL_250 : decode code 250 = .ok (.aload_n 0, 1) := by decide +kernel
theorem dL_251 : decode code 251 = .ok (.iload_n 3, 1) := by decide +kernel
theorem dL_252 : decode code 252 = .ok (.iconst 1, 1) := by decide +kernel
theorem dL_253 : decode code 253 = .ok (.iadd, 1) := by decide +kernel
theorem dL_254 : decode code 254 = .ok (.iaload, 1) := by decide +kernel
theorem dL_255 : decode code 255 = .ok (.aload_n 0, 1) := by decide +kernel
theorem dL_256 : decode code 256 = .ok (.iload_n 3, 1) := by decide +kernel
theorem dL_257 : decode code 257 = .ok (.iconst 2, 1) := by decide +kernel
theorem dL_258 : decode code 258 = .ok (.iadd, 1) := by decide +kernel
theorem dL_259 : decode code 259 = .ok (.iaload, 1) := by decide +kernel
theorem dL_260 : decode code 260 = .ok (.aload_n 0, 1) := by decide +kernel
theorem dL_261 : decode code 261 = .ok (.iload_n 3, 1) := by decide +kernel
theorem dL_262 : decode code 262 = .ok (.iconst 3, 1) := by decide +kernel
theorem dL_263 : decode code 263 = .ok (.iadd, 1) := by decide +kernel
theorem dL_264 : decode code 264 = .ok (.iaload, 1) := by decide +kernel
theorem dL_265 : decode code 265 = .ok (.invokevirtual 18, 3) := by decide +kernel
theorem dL_268 : decode code 268 = .ok (.aload_n 2, 1) := by decide +kernel
theorem dL_269 : decode code 269 = .ok (.aload_n 0, 1) := by decide +kernel
theorem dL_270 : decode code 270 = .ok (.iload_n 3, 1) := by decide +kernel
theorem dL_271 : decode code 271 = .ok (.iconst 1, 1) := by decide +kernel
theorem dL_272 : decode code 272 = .ok (.iadd, 1) := by decide +kernel
theorem dL_273 : decode code 273 = .ok (.iaload, 1) := by decide +kernel
theorem dL_274 : decode code 274 = .ok (.aload_n 0, 1) := by decide +kernel
theorem dL_275 : decode code 275 = .ok (.iload_n 3, 1) := by decide +kernel
theorem dL_276 : decode code 276 = .ok (.iconst 2, 1) := by decide +kernel
theorem dL_277 : decode code 277 = .ok (.iadd, 1) := by decide +kernel
theorem dL_278 : decode code 278 = .ok (.iaload, 1) := by decide +kernel
theorem dL_279 : decode code 279 = .ok (.aload_n 0, 1) := by decide +kernel
theorem dL_280 : decode code 280 = .ok (.iload_n 3, 1) := by decide +kernel
theorem dL_281 : decode code 281 = .ok (.iconst 3, 1) := by decide +kernel
theorem dL_282 : decode code 282 = .ok (.iadd, 1) := by decide +kernel
theorem dL_283 : decode code 283 = .ok (.iaload, 1) := by decide +kernel
theorem dL_284 : decode code 284 = .ok (.invokevirtual 22, 3) := by decide +kernel
theorem dL_287 : decode code 287 = .ok (.if_icmp .eq 1088, 3) := by decide +kernel
theorem dL_290 : decode code 290 = .ok (.iconst 0, 1) := by decide +kernel
theorem dL_291 : decode code 291 = .ok (.ireturn, 1) := by decide +kernel
theorem dL_292 : decode code 292 = .ok (.aload_n 1, 1) := by decide +kernel
theorem dL_293 : decode code 293 = .ok (.aload_n 0, 1) := by decide +kernel
theorem dL_294 : decode code 294 = .ok (.iload_n 3, 1) := by decide +kernel
theorem dL_295 : decode code 295 = .ok (.iconst 1, 1) := by decide +kernel
theorem dL_296 : decode code 296 = .ok (.iadd, 1) := by decide +kernel
theorem dL_297 : decode code 297 = .ok (.iaload, 1) := by decide +kernel
theorem dL_298 : decode code 298 = .ok (.aload_n 0, 1) := by decide +kernel
theorem dL_299 : decode code 299 = .ok (.iload_n 3, 1) := by decide +kernel
theorem dL_300 : decode code 300 = .ok (.iconst 2, 1) := by decide +kernel
theorem dL_301 : decode code 301 = .ok (.iadd, 1) := by decide +kernel
theorem dL_302 : decode code 302 = .ok (.iaload, 1) := by decide +kernel
theorem dL_303 : decode code 303 = .ok (.invokevirtual 23, 3) := by decide +kernel
theorem dL_306 : decode code 306 = .ok (.aload_n 2, 1) := by decide +kernel
theorem dL_307 : decode code 307 = .ok (.aload_n 0, 1) := by decide +kernel
theorem dL_308 : decode code 308 = .ok (.iload_n 3, 1) := by decide +kernel
theorem dL_309 : decode code 309 = .ok (.iconst 1, 1) := by decide +kernel
theorem dL_310 : decode code 310 = .ok (.iadd, 1) := by decide +kernel
theorem dL_311 : decode code 311 = .ok (.iaload, 1) := by decide +kernel
theorem dL_312 : decode code 312 = .ok (.aload_n 0, 1) := by decide +kernel
theorem dL_313 : decode code 313 = .ok (.iload_n 3, 1) := by decide +kernel
theorem dL_314 : decode code 314 = .ok (.iconst 2, 1) := by decide +kernel
theorem dL_315 : decode code 315 = .ok (.iadd, 1) := by decide +kernel
theorem dL_316 : decode code 316 = .ok (.iaload, 1) := by decide +kernel
theorem dL_317 : decode code 317 = .ok (.invokevirtual 26, 3) := by decide +kernel
theorem dL_320 : decode code 320 = .ok (.if_icmp .eq 1055, 3) := by decide +kernel
theorem dL_323 : decode code 323 = .ok (.iconst 0, 1) := by decide +kernel
theorem dL_324 : decode code 324 = .ok (.ireturn, 1) := by decide +kernel
theorem dL_325 : decode code 325 = .ok (.aload_n 1, 1) := by decide +kernel
theorem dL_326 : decode code 326 = .ok (.aload_n 0, 1) := by decide +kernel
theorem dL_327 : decode code 327 = .ok (.iload_n 3, 1) := by decide +kernel
theorem dL_328 : decode code 328 = .ok (.iconst 1, 1) := by decide +kernel
theorem dL_329 : decode code 329 = .ok (.iadd, 1) := by decide +kernel
theorem dL_330 : decode code 330 = .ok (.iaload, 1) := by decide +kernel
theorem dL_331 : decode code 331 = .ok (.invokevirtual 27, 3) := by decide +kernel
theorem dL_334 : decode code 334 = .ok (.aload_n 2, 1) := by decide +kernel
theorem dL_335 : decode code 335 = .ok (.aload_n 0, 1) := by decide +kernel
theorem dL_336 : decode code 336 = .ok (.iload_n 3, 1) := by decide +kernel
theorem dL_337 : decode code 337 = .ok (.iconst 1, 1) := by decide +kernel
theorem dL_338 : decode code 338 = .ok (.iadd, 1) := by decide +kernel
theorem dL_339 : decode code 339 = .ok (.iaload, 1) := by decide +kernel
theorem dL_340 : decode code 340 = .ok (.invokevirtual 31, 3) := by decide +kernel
theorem dL_343 : decode code 343 = .ok (.if_icmp .eq 1032, 3) := by decide +kernel
theorem dL_346 : decode code 346 = .ok (.iconst 0, 1) := by decide +kernel
theorem dL_347 : decode code 347 = .ok (.ireturn, 1) := by decide +kernel
theorem dL_348 : decode code 348 = .ok (.aload_n 1, 1) := by decide +kernel
theorem dL_349 : decode code 349 = .ok (.aload_n 0, 1) := by decide +kernel
theorem dL_350 : decode code 350 = .ok (.iload_n 3, 1) := by decide +kernel
theorem dL_351 : decode code 351 = .ok (.iconst 1, 1) := by decide +kernel
theorem dL_352 : decode code 352 = .ok (.iadd, 1) := by decide +kernel
theorem dL_353 : decode code 353 = .ok (.iaload, 1) := by decide +kernel
theorem dL_354 : decode code 354 = .ok (.aload_n 0, 1) := by decide +kernel
theorem dL_355 : decode code 355 = .ok (.iload_n 3, 1) := by decide +kernel
theorem dL_356 : decode code 356 = .ok (.iconst 2, 1) := by decide +kernel
theorem dL_357 : decode code 357 = .ok (.iadd, 1) := by decide +kernel
theorem dL_358 : decode code 358 = .ok (.iaload, 1) := by decide +kernel
theorem dL_359 : decode code 359 = .ok (.aload_n 0, 1) := by decide +kernel
theorem dL_360 : decode code 360 = .ok (.iload_n 3, 1) := by decide +kernel
theorem dL_361 : decode code 361 = .ok (.iconst 3, 1) := by decide +kernel
theorem dL_362 : decode code 362 = .ok (.iadd, 1) := by decide +kernel
theorem dL_363 : decode code 363 = .ok (.iaload, 1) := by decide +kernel
theorem dL_364 : decode code 364 = .ok (.aload_n 0, 1) := by decide +kernel
theorem dL_365 : decode code 365 = .ok (.iload_n 3, 1) := by decide +kernel
theorem dL_366 : decode code 366 = .ok (.iconst 4, 1) := by decide +kernel
theorem dL_367 : decode code 367 = .ok (.iadd, 1) := by decide +kernel
theorem dL_368 : decode code 368 = .ok (.iaload, 1) := by decide +kernel
theorem dL_369 : decode code 369 = .ok (.aload_n 0, 1) := by decide +kernel
theorem dL_370 : decode code 370 = .ok (.iload_n 3, 1) := by decide +kernel
theorem dL_371 : decode code 371 = .ok (.iconst 5, 1) := by decide +kernel
theorem dL_372 : decode code 372 = .ok (.iadd, 1) := by decide +kernel
theorem dL_373 : decode code 373 = .ok (.iaload, 1) := by decide +kernel
theorem dL_374 : decode code 374 = .ok (.invokevirtual 32, 3) := by decide +kernel
theorem dL_377 : decode code 377 = .ok (.aload_n 2, 1) := by decide +kernel
theorem dL_378 : decode code 378 = .ok (.aload_n 0, 1) := by decide +kernel
theorem dL_379 : decode code 379 = .ok (.iload_n 3, 1) := by decide +kernel
theorem dL_380 : decode code 380 = .ok (.iconst 1, 1) := by decide +kernel
theorem dL_381 : decode code 381 = .ok (.iadd, 1) := by decide +kernel
theorem dL_382 : decode code 382 = .ok (.iaload, 1) := by decide +kernel
theorem dL_383 : decode code 383 = .ok (.aload_n 0, 1) := by decide +kernel
theorem dL_384 : decode code 384 = .ok (.iload_n 3, 1) := by decide +kernel
theorem dL_385 : decode code 385 = .ok (.iconst 2, 1) := by decide +kernel
theorem dL_386 : decode code 386 = .ok (.iadd, 1) := by decide +kernel
theorem dL_387 : decode code 387 = .ok (.iaload, 1) := by decide +kernel
theorem dL_388 : decode code 388 = .ok (.aload_n 0, 1) := by decide +kernel
theorem dL_389 : decode code 389 = .ok (.iload_n 3, 1) := by decide +kernel
theorem dL_390 : decode code 390 = .ok (.iconst 3, 1) := by decide +kernel
theorem dL_391 : decode code 391 = .ok (.iadd, 1) := by decide +kernel
theorem dL_392 : decode code 392 = .ok (.iaload, 1) := by decide +kernel
theorem dL_393 : decode code 393 = .ok (.aload_n 0, 1) := by decide +kernel
theorem dL_394 : decode code 394 = .ok (.iload_n 3, 1) := by decide +kernel
theorem dL_395 : decode code 395 = .ok (.iconst 4, 1) := by decide +kernel
theorem dL_396 : decode code 396 = .ok (.iadd, 1) := by decide +kernel
theorem dL_397 : decode code 397 = .ok (.iaload, 1) := by decide +kernel
theorem dL_398 : decode code 398 = .ok (.aload_n 0, 1) := by decide +kernel
theorem dL_399 : decode code 399 = .ok (.iload_n 3, 1) := by decide +kernel
theorem dL_400 : decode code 400 = .ok (.iconst 5, 1) := by decide +kernel
theorem dL_401 : decode code 401 = .ok (.iadd, 1) := by decide +kernel
theorem dL_402 : decode code 402 = .ok (.iaload, 1) := by decide +kernel
theorem dL_403 : decode code 403 = .ok (.invokevirtual 36, 3) := by decide +kernel
theorem dL_406 : decode code 406 = .ok (.if_icmp .eq 969, 3) := by decide +kernel
theorem dL_409 : decode code 409 = .ok (.iconst 0, 1) := by decide +kernel
theorem dL_410 : decode code 410 = .ok (.ireturn, 1) := by decide +kernel
theorem dL_411 : decode code 411 = .ok (.aload_n 1, 1) := by decide +kernel
theorem dL_412 : decode code 412 = .ok (.aload_n 0, 1) := by decide +kernel
theorem dL_413 : decode code 413 = .ok (.iload_n 3, 1) := by decide +kernel
theorem dL_414 : decode code 414 = .ok (.iconst 1, 1) := by decide +kernel
theorem dL_415 : decode code 415 = .ok (.iadd, 1) := by decide +kernel
theorem dL_416 : decode code 416 = .ok (.iaload, 1) := by decide +kernel
theorem dL_417 : decode code 417 = .ok (.invokevirtual 37, 3) := by decide +kernel
theorem dL_420 : decode code 420 = .ok (.aload_n 2, 1) := by decide +kernel
theorem dL_421 : decode code 421 = .ok (.aload_n 0, 1) := by decide +kernel
theorem dL_422 : decode code 422 = .ok (.iload_n 3, 1) := by decide +kernel
theorem dL_423 : decode code 423 = .ok (.iconst 1, 1) := by decide +kernel
theorem dL_424 : decode code 424 = .ok (.iadd, 1) := by decide +kernel
theorem dL_425 : decode code 425 = .ok (.iaload, 1) := by decide +kernel
theorem dL_426 : decode code 426 = .ok (.invokevirtual 40, 3) := by decide +kernel
theorem dL_429 : decode code 429 = .ok (.if_icmp .eq 946, 3) := by decide +kernel
theorem dL_432 : decode code 432 = .ok (.iconst 0, 1) := by decide +kernel
theorem dL_433 : decode code 433 = .ok (.ireturn, 1) := by decide +kernel
theorem dL_434 : decode code 434 = .ok (.aload_n 1, 1) := by decide +kernel
theorem dL_435 : decode code 435 = .ok (.aload_n 0, 1) := by decide +kernel
theorem dL_436 : decode code 436 = .ok (.iload_n 3, 1) := by decide +kernel
theorem dL_437 : decode code 437 = .ok (.iconst 1, 1) := by decide +kernel
theorem dL_438 : decode code 438 = .ok (.iadd, 1) := by decide +kernel
theorem dL_439 : decode code 439 = .ok (.iaload, 1) := by decide +kernel
theorem dL_440 : decode code 440 = .ok (.aload_n 0, 1) := by decide +kernel
theorem dL_441 : decode code 441 = .ok (.iload_n 3, 1) := by decide +kernel
theorem dL_442 : decode code 442 = .ok (.iconst 2, 1) := by decide +kernel
theorem dL_443 : decode code 443 = .ok (.iadd, 1) := by decide +kernel
theorem dL_444 : decode code 444 = .ok (.iaload, 1) := by decide +kernel
theorem dL_445 : decode code 445 = .ok (.invokevirtual 41, 3) := by decide +kernel
theorem dL_448 : decode code 448 = .ok (.aload_n 2, 1) := by decide +kernel
theorem dL_449 : decode code 449 = .ok (.aload_n 0, 1) := by decide +kernel
theorem dL_450 : decode code 450 = .ok (.iload_n 3, 1) := by decide +kernel
theorem dL_451 : decode code 451 = .ok (.iconst 1, 1) := by decide +kernel
theorem dL_452 : decode code 452 = .ok (.iadd, 1) := by decide +kernel
theorem dL_453 : decode code 453 = .ok (.iaload, 1) := by decide +kernel
theorem dL_454 : decode code 454 = .ok (.aload_n 0, 1) := by decide +kernel
theorem dL_455 : decode code 455 = .ok (.iload_n 3, 1) := by decide +kernel
theorem dL_456 : decode code 456 = .ok (.iconst 2, 1) := by decide +kernel
theorem dL_457 : decode code 457 = .ok (.iadd, 1) := by decide +kernel
theorem dL_458 : decode code 458 = .ok (.iaload, 1) := by decide +kernel
theorem dL_459 : decode code 459 = .ok (.invokevirtual 44, 3) := by decide +kernel
theorem dL_462 : decode code 462 = .ok (.if_icmp .eq 913, 3) := by decide +kernel
theorem dL_465 : decode code 465 = .ok (.iconst 0, 1) := by decide +kernel
theorem dL_466 : decode code 466 = .ok (.ireturn, 1) := by decide +kernel
theorem dL_467 : decode code 467 = .ok (.aload_n 1, 1) := by decide +kernel
theorem dL_468 : decode code 468 = .ok (.aload_n 0, 1) := by decide +kernel
theorem dL_469 : decode code 469 = .ok (.iload_n 3, 1) := by decide +kernel
theorem dL_470 : decode code 470 = .ok (.iconst 1, 1) := by decide +kernel
theorem dL_471 : decode code 471 = .ok (.iadd, 1) := by decide +kernel
theorem dL_472 : decode code 472 = .ok (.iaload, 1) := by decide +kernel
theorem dL_473 : decode code 473 = .ok (.aload_n 0, 1) := by decide +kernel
theorem dL_474 : decode code 474 = .ok (.iload_n 3, 1) := by decide +kernel
theorem dL_475 : decode code 475 = .ok (.iconst 2, 1) := by decide +kernel
theorem dL_476 : decode code 476 = .ok (.iadd, 1) := by decide +kernel
theorem dL_477 : decode code 477 = .ok (.iaload, 1) := by decide +kernel
theorem dL_478 : decode code 478 = .ok (.aload_n 0, 1) := by decide +kernel
theorem dL_479 : decode code 479 = .ok (.iload_n 3, 1) := by decide +kernel
theorem dL_480 : decode code 480 = .ok (.iconst 3, 1) := by decide +kernel
theorem dL_481 : decode code 481 = .ok (.iadd, 1) := by decide +kernel
theorem dL_482 : decode code 482 = .ok (.iaload, 1) := by decide +kernel
theorem dL_483 : decode code 483 = .ok (.invokevirtual 45, 3) := by decide +kernel
theorem dL_486 : decode code 486 = .ok (.aload_n 2, 1) := by decide +kernel
theorem dL_487 : decode code 487 = .ok (.aload_n 0, 1) := by decide +kernel
theorem dL_488 : decode code 488 = .ok (.iload_n 3, 1) := by decide +kernel
theorem dL_489 : decode code 489 = .ok (.iconst 1, 1) := by decide +kernel
theorem dL_490 : decode code 490 = .ok (.iadd, 1) := by decide +kernel
theorem dL_491 : decode code 491 = .ok (.iaload, 1) := by decide +kernel
theorem dL_492 : decode code 492 = .ok (.aload_n 0, 1) := by decide +kernel
theorem dL_493 : decode code 493 = .ok (.iload_n 3, 1) := by decide +kernel
theorem dL_494 : decode code 494 = .ok (.iconst 2, 1) := by decide +kernel
theorem dL_495 : decode code 495 = .ok (.iadd, 1) := by decide +kernel
theorem dL_496 : decode code 496 = .ok (.iaload, 1) := by decide +kernel
theorem dL_497 : decode code 497 = .ok (.aload_n 0, 1) := by decide +kernel
theorem dL_498 : decode code 498 = .ok (.iload_n 3, 1) := by decide +kernel
theorem dL_499 : decode code 499 = .ok (.iconst 3, 1) := by decide +kernel
theorem dL_500 : decode code 500 = .ok (.iadd, 1) := by decide +kernel
theorem dL_501 : decode code 501 = .ok (.iaload, 1) := by decide +kernel
theorem dL_502 : decode code 502 = .ok (.invokevirtual 48, 3) := by decide +kernel
theorem dL_505 : decode code 505 = .ok (.if_icmp .eq 870, 3) := by decide +kernel
theorem dL_508 : decode code 508 = .ok (.iconst 0, 1) := by decide +kernel
theorem dL_509 : decode code 509 = .ok (.ireturn, 1) := by decide +kernel
theorem dL_510 : decode code 510 = .ok (.aload_n 1, 1) := by decide +kernel
theorem dL_511 : decode code 511 = .ok (.aload_n 0, 1) := by decide +kernel
theorem dL_512 : decode code 512 = .ok (.iload_n 3, 1) := by decide +kernel
theorem dL_513 : decode code 513 = .ok (.iconst 1, 1) := by decide +kernel
theorem dL_514 : decode code 514 = .ok (.iadd, 1) := by decide +kernel
theorem dL_515 : decode code 515 = .ok (.iaload, 1) := by decide +kernel
theorem dL_516 : decode code 516 = .ok (.invokevirtual 49, 3) := by decide +kernel
theorem dL_519 : decode code 519 = .ok (.aload_n 2, 1) := by decide +kernel
theorem dL_520 : decode code 520 = .ok (.aload_n 0, 1) := by decide +kernel
theorem dL_521 : decode code 521 = .ok (.iload_n 3, 1) := by decide +kernel
theorem dL_522 : decode code 522 = .ok (.iconst 1, 1) := by decide +kernel
theorem dL_523 : decode code 523 = .ok (.iadd, 1) := by decide +kernel
theorem dL_524 : decode code 524 = .ok (.iaload, 1) := by decide +kernel
theorem dL_525 : decode code 525 = .ok (.invokevirtual 52, 3) := by decide +kernel
theorem dL_528 : decode code 528 = .ok (.if_icmp .eq 847, 3) := by decide +kernel
theorem dL_531 : decode code 531 = .ok (.iconst 0, 1) := by decide +kernel
theorem dL_532 : decode code 532 = .ok (.ireturn, 1) := by decide +kernel
theorem dL_533 : decode code 533 = .ok (.aload_n 1, 1) := by decide +kernel
theorem dL_534 : decode code 534 = .ok (.aload_n 0, 1) := by decide +kernel
theorem dL_535 : decode code 535 = .ok (.iload_n 3, 1) := by decide +kernel
theorem dL_536 : decode code 536 = .ok (.iconst 1, 1) := by decide +kernel
theorem dL_537 : decode code 537 = .ok (.iadd, 1) := by decide +kernel
theorem dL_538 : decode code 538 = .ok (.iaload, 1) := by decide +kernel
theorem dL_539 : decode code 539 = .ok (.invokevirtual 53, 3) := by decide +kernel
theorem dL_542 : decode code 542 = .ok (.aload_n 2, 1) := by decide +kernel
theorem dL_543 : decode code 543 = .ok (.aload_n 0, 1) := by decide +kernel
theorem dL_544 : decode code 544 = .ok (.iload_n 3, 1) := by decide +kernel
theorem dL_545 : decode code 545 = .ok (.iconst 1, 1) := by decide +kernel
theorem dL_546 : decode code 546 = .ok (.iadd, 1) := by decide +kernel
theorem dL_547 : decode code 547 = .ok (.iaload, 1) := by decide +kernel
theorem dL_548 : decode code 548 = .ok (.invokevirtual 56, 3) := by decide +kernel
theorem dL_551 : decode code 551 = .ok (.if_icmp .eq 824, 3) := by decide +kernel
theorem dL_554 : decode code 554 = .ok (.iconst 0, 1) := by decide +kernel
theorem dL_555 : decode code 555 = .ok (.ireturn, 1) := by decide +kernel
theorem dL_556 : decode code 556 = .ok (.aload_n 1, 1) := by decide +kernel
theorem dL_557 : decode code 557 = .ok (.aload_n 0, 1) := by decide +kernel
theorem dL_558 : decode code 558 = .ok (.iload_n 3, 1) := by decide +kernel
theorem dL_559 : decode code 559 = .ok (.iconst 1, 1) := by decide +kernel
theorem dL_560 : decode code 560 = .ok (.iadd, 1) := by decide +kernel
theorem dL_561 : decode code 561 = .ok (.iaload, 1) := by decide +kernel
theorem dL_562 : decode code 562 = .ok (.aload_n 0, 1) := by decide +kernel
theorem dL_563 : decode code 563 = .ok (.iload_n 3, 1) := by decide +kernel
theorem dL_564 : decode code 564 = .ok (.iconst 2, 1) := by decide +kernel
theorem dL_565 : decode code 565 = .ok (.iadd, 1) := by decide +kernel
theorem dL_566 : decode code 566 = .ok (.iaload, 1) := by decide +kernel
theorem dL_567 : decode code 567 = .ok (.invokevirtual 57, 3) := by decide +kernel
theorem dL_570 : decode code 570 = .ok (.aload_n 2, 1) := by decide +kernel
theorem dL_571 : decode code 571 = .ok (.aload_n 0, 1) := by decide +kernel
theorem dL_572 : decode code 572 = .ok (.iload_n 3, 1) := by decide +kernel
theorem dL_573 : decode code 573 = .ok (.iconst 1, 1) := by decide +kernel
theorem dL_574 : decode code 574 = .ok (.iadd, 1) := by decide +kernel
theorem dL_575 : decode code 575 = .ok (.iaload, 1) := by decide +kernel
theorem dL_576 : decode code 576 = .ok (.aload_n 0, 1) := by decide +kernel
theorem dL_577 : decode code 577 = .ok (.iload_n 3, 1) := by decide +kernel
theorem dL_578 : decode code 578 = .ok (.iconst 2, 1) := by decide +kernel
theorem dL_579 : decode code 579 = .ok (.iadd, 1) := by decide +kernel
theorem dL_580 : decode code 580 = .ok (.iaload, 1) := by decide +kernel
theorem dL_581 : decode code 581 = .ok (.invokevirtual 60, 3) := by decide +kernel
theorem dL_584 : decode code 584 = .ok (.if_icmp .eq 791, 3) := by decide +kernel
theorem dL_587 : decode code 587 = .ok (.iconst 0, 1) := by decide +kernel
theorem dL_588 : decode code 588 = .ok (.ireturn, 1) := by decide +kernel
theorem dL_589 : decode code 589 = .ok (.aload_n 1, 1) := by decide +kernel
theorem dL_590 : decode code 590 = .ok (.aload_n 0, 1) := by decide +kernel
theorem dL_591 : decode code 591 = .ok (.iload_n 3, 1) := by decide +kernel
theorem dL_592 : decode code 592 = .ok (.iconst 1, 1) := by decide +kernel
theorem dL_593 : decode code 593 = .ok (.iadd, 1) := by decide +kernel
theorem dL_594 : decode code 594 = .ok (.iaload, 1) := by decide +kernel
theorem dL_595 : decode code 595 = .ok (.aload_n 0, 1) := by decide +kernel
theorem dL_596 : decode code 596 = .ok (.iload_n 3, 1) := by decide +kernel
theorem dL_597 : decode code 597 = .ok (.iconst 2, 1) := by decide +kernel
theorem dL_598 : decode code 598 = .ok (.iadd, 1) := by decide +kernel
theorem dL_599 : decode code 599 = .ok (.iaload, 1) := by decide +kernel
theorem dL_600 : decode code 600 = .ok (.invokevirtual 61, 3) := by decide +kernel
theorem dL_603 : decode code 603 = .ok (.aload_n 2, 1) := by decide +kernel
theorem dL_604 : decode code 604 = .ok (.aload_n 0, 1) := by decide +kernel
theorem dL_605 : decode code 605 = .ok (.iload_n 3, 1) := by decide +kernel
theorem dL_606 : decode code 606 = .ok (.iconst 1, 1) := by decide +kernel
theorem dL_607 : decode code 607 = .ok (.iadd, 1) := by decide +kernel
theorem dL_608 : decode code 608 = .ok (.iaload, 1) := by decide +kernel
theorem dL_609 : decode code 609 = .ok (.aload_n 0, 1) := by decide +kernel
theorem dL_610 : decode code 610 = .ok (.iload_n 3, 1) := by decide +kernel
theorem dL_611 : decode code 611 = .ok (.iconst 2, 1) := by decide +kernel
theorem dL_612 : decode code 612 = .ok (.iadd, 1) := by decide +kernel
theorem dL_613 : decode code 613 = .ok (.iaload, 1) := by decide +kernel
theorem dL_614 : decode code 614 = .ok (.invokevirtual 64, 3) := by decide +kernel
theorem dL_617 : decode code 617 = .ok (.if_icmp .eq 758, 3) := by decide +kernel
theorem dL_620 : decode code 620 = .ok (.iconst 0, 1) := by decide +kernel
theorem dL_621 : decode code 621 = .ok (.ireturn, 1) := by decide +kernel
theorem dL_622 : decode code 622 = .ok (.aload_n 1, 1) := by decide +kernel
theorem dL_623 : decode code 623 = .ok (.aload_n 0, 1) := by decide +kernel
theorem dL_624 : decode code 624 = .ok (.iload_n 3, 1) := by decide +kernel
theorem dL_625 : decode code 625 = .ok (.iconst 1, 1) := by decide +kernel
theorem dL_626 : decode code 626 = .ok (.iadd, 1) := by decide +kernel
theorem dL_627 : decode code 627 = .ok (.iaload, 1) := by decide +kernel
theorem dL_628 : decode code 628 = .ok (.aload_n 0, 1) := by decide +kernel
theorem dL_629 : decode code 629 = .ok (.iload_n 3, 1) := by decide +kernel
theorem dL_630 : decode code 630 = .ok (.iconst 2, 1) := by decide +kernel
theorem dL_631 : decode code 631 = .ok (.iadd, 1) := by decide +kernel
theorem dL_632 : decode code 632 = .ok (.iaload, 1) := by decide +kernel
theorem dL_633 : decode code 633 = .ok (.invokevirtual 65, 3) := by decide +kernel
theorem dL_636 : decode code 636 = .ok (.aload_n 2, 1) := by decide +kernel
theorem dL_637 : decode code 637 = .ok (.aload_n 0, 1) := by decide +kernel
theorem dL_638 : decode code 638 = .ok (.iload_n 3, 1) := by decide +kernel
theorem dL_639 : decode code 639 = .ok (.iconst 1, 1) := by decide +kernel
theorem dL_640 : decode code 640 = .ok (.iadd, 1) := by decide +kernel
theorem dL_641 : decode code 641 = .ok (.iaload, 1) := by decide +kernel
theorem dL_642 : decode code 642 = .ok (.aload_n 0, 1) := by decide +kernel
theorem dL_643 : decode code 643 = .ok (.iload_n 3, 1) := by decide +kernel
theorem dL_644 : decode code 644 = .ok (.iconst 2, 1) := by decide +kernel
theorem dL_645 : decode code 645 = .ok (.iadd, 1) := by decide +kernel
theorem dL_646 : decode code 646 = .ok (.iaload, 1) := by decide +kernel
theorem dL_647 : decode code 647 = .ok (.invokevirtual 68, 3) := by decide +kernel
theorem dL_650 : decode code 650 = .ok (.if_icmp .eq 725, 3) := by decide +kernel
theorem dL_653 : decode code 653 = .ok (.iconst 0, 1) := by decide +kernel
theorem dL_654 : decode code 654 = .ok (.ireturn, 1) := by decide +kernel
theorem dL_655 : decode code 655 = .ok (.aload_n 1, 1) := by decide +kernel
theorem dL_656 : decode code 656 = .ok (.aload_n 0, 1) := by decide +kernel
theorem dL_657 : decode code 657 = .ok (.iload_n 3, 1) := by decide +kernel
theorem dL_658 : decode code 658 = .ok (.iconst 1, 1) := by decide +kernel
theorem dL_659 : decode code 659 = .ok (.iadd, 1) := by decide +kernel
theorem dL_660 : decode code 660 = .ok (.iaload, 1) := by decide +kernel
theorem dL_661 : decode code 661 = .ok (.aload_n 0, 1) := by decide +kernel
theorem dL_662 : decode code 662 = .ok (.iload_n 3, 1) := by decide +kernel
theorem dL_663 : decode code 663 = .ok (.iconst 2, 1) := by decide +kernel
theorem dL_664 : decode code 664 = .ok (.iadd, 1) := by decide +kernel
theorem dL_665 : decode code 665 = .ok (.iaload, 1) := by decide +kernel
theorem dL_666 : decode code 666 = .ok (.aload_n 0, 1) := by decide +kernel
theorem dL_667 : decode code 667 = .ok (.iload_n 3, 1) := by decide +kernel
theorem dL_668 : decode code 668 = .ok (.iconst 3, 1) := by decide +kernel
theorem dL_669 : decode code 669 = .ok (.iadd, 1) := by decide +kernel
theorem dL_670 : decode code 670 = .ok (.iaload, 1) := by decide +kernel
theorem dL_671 : decode code 671 = .ok (.invokevirtual 69, 3) := by decide +kernel
theorem dL_674 : decode code 674 = .ok (.aload_n 2, 1) := by decide +kernel
theorem dL_675 : decode code 675 = .ok (.aload_n 0, 1) := by decide +kernel
theorem dL_676 : decode code 676 = .ok (.iload_n 3, 1) := by decide +kernel
theorem dL_677 : decode code 677 = .ok (.iconst 1, 1) := by decide +kernel
theorem dL_678 : decode code 678 = .ok (.iadd, 1) := by decide +kernel
theorem dL_679 : decode code 679 = .ok (.iaload, 1) := by decide +kernel
theorem dL_680 : decode code 680 = .ok (.aload_n 0, 1) := by decide +kernel
theorem dL_681 : decode code 681 = .ok (.iload_n 3, 1) := by decide +kernel
theorem dL_682 : decode code 682 = .ok (.iconst 2, 1) := by decide +kernel
theorem dL_683 : decode code 683 = .ok (.iadd, 1) := by decide +kernel
theorem dL_684 : decode code 684 = .ok (.iaload, 1) := by decide +kernel
theorem dL_685 : decode code 685 = .ok (.aload_n 0, 1) := by decide +kernel
theorem dL_686 : decode code 686 = .ok (.iload_n 3, 1) := by decide +kernel
theorem dL_687 : decode code 687 = .ok (.iconst 3, 1) := by decide +kernel
theorem dL_688 : decode code 688 = .ok (.iadd, 1) := by decide +kernel
theorem dL_689 : decode code 689 = .ok (.iaload, 1) := by decide +kernel
theorem dL_690 : decode code 690 = .ok (.invokevirtual 72, 3) := by decide +kernel
theorem dL_693 : decode code 693 = .ok (.if_icmp .eq 682, 3) := by decide +kernel
theorem dL_696 : decode code 696 = .ok (.iconst 0, 1) := by decide +kernel
theorem dL_697 : decode code 697 = .ok (.ireturn, 1) := by decide +kernel
theorem dL_698 : decode code 698 = .ok (.aload_n 1, 1) := by decide +kernel
theorem dL_699 : decode code 699 = .ok (.aload_n 0, 1) := by decide +kernel
theorem dL_700 : decode code 700 = .ok (.iload_n 3, 1) := by decide +kernel
theorem dL_701 : decode code 701 = .ok (.iconst 1, 1) := by decide +kernel
theorem dL_702 : decode code 702 = .ok (.iadd, 1) := by decide +kernel
theorem dL_703 : decode code 703 = .ok (.iaload, 1) := by decide +kernel
theorem dL_704 : decode code 704 = .ok (.invokevirtual 73, 3) := by decide +kernel
theorem dL_707 : decode code 707 = .ok (.aload_n 2, 1) := by decide +kernel
theorem dL_708 : decode code 708 = .ok (.aload_n 0, 1) := by decide +kernel
theorem dL_709 : decode code 709 = .ok (.iload_n 3, 1) := by decide +kernel
theorem dL_710 : decode code 710 = .ok (.iconst 1, 1) := by decide +kernel
theorem dL_711 : decode code 711 = .ok (.iadd, 1) := by decide +kernel
theorem dL_712 : decode code 712 = .ok (.iaload, 1) := by decide +kernel
theorem dL_713 : decode code 713 = .ok (.invokevirtual 76, 3) := by decide +kernel
theorem dL_716 : decode code 716 = .ok (.if_icmp .eq 659, 3) := by decide +kernel
theorem dL_719 : decode code 719 = .ok (.iconst 0, 1) := by decide +kernel
theorem dL_720 : decode code 720 = .ok (.ireturn, 1) := by decide +kernel
theorem dL_721 : decode code 721 = .ok (.aload_n 1, 1) := by decide +kernel
theorem dL_722 : decode code 722 = .ok (.invokevirtual 77, 3) := by decide +kernel
theorem dL_725 : decode code 725 = .ok (.aload_n 2, 1) := by decide +kernel
theorem dL_726 : decode code 726 = .ok (.invokevirtual 81, 3) := by decide +kernel
theorem dL_729 : decode code 729 = .ok (.if_icmp .eq 646, 3) := by decide +kernel
theorem dL_732 : decode code 732 = .ok (.iconst 0, 1) := by decide +kernel
theorem dL_733 : decode code 733 = .ok (.ireturn, 1) := by decide +kernel
theorem dL_734 : decode code 734 = .ok (.aload_n 1, 1) := by decide +kernel
theorem dL_735 : decode code 735 = .ok (.aload_n 0, 1) := by decide +kernel
theorem dL_736 : decode code 736 = .ok (.iload_n 3, 1) := by decide +kernel
theorem dL_737 : decode code 737 = .ok (.iconst 1, 1) := by decide +kernel
theorem dL_738 : decode code 738 = .ok (.iadd, 1) := by decide +kernel
theorem dL_739 : decode code 739 = .ok (.iaload, 1) := by decide +kernel
theorem dL_740 : decode code 740 = .ok (.invokevirtual 82, 3) := by decide +kernel
theorem dL_743 : decode code 743 = .ok (.aload_n 2, 1) := by decide +kernel
theorem dL_744 : decode code 744 = .ok (.aload_n 0, 1) := by decide +kernel
theorem dL_745 : decode code 745 = .ok (.iload_n 3, 1) := by decide +kernel
theorem dL_746 : decode code 746 = .ok (.iconst 1, 1) := by decide +kernel
theorem dL_747 : decode code 747 = .ok (.iadd, 1) := by decide +kernel
theorem dL_748 : decode code 748 = .ok (.iaload, 1) := by decide +kernel
theorem dL_749 : decode code 749 = .ok (.invokevirtual 85, 3) := by decide +kernel
theorem dL_752 : decode code 752 = .ok (.if_icmp .eq 623, 3) := by decide +kernel
theorem dL_755 : decode code 755 = .ok (.iconst 0, 1) := by decide +kernel
theorem dL_756 : decode code 756 = .ok (.ireturn, 1) := by decide +kernel
theorem dL_757 : decode code 757 = .ok (.aload_n 1, 1) := by decide +kernel
theorem dL_758 : decode code 758 = .ok (.aload_n 0, 1) := by decide +kernel
theorem dL_759 : decode code 759 = .ok (.iload_n 3, 1) := by decide +kernel
theorem dL_760 : decode code 760 = .ok (.iconst 1, 1) := by decide +kernel
theorem dL_761 : decode code 761 = .ok (.iadd, 1) := by decide +kernel
theorem dL_762 : decode code 762 = .ok (.iaload, 1) := by decide +kernel
theorem dL_763 : decode code 763 = .ok (.aload_n 0, 1) := by decide +kernel
theorem dL_764 : decode code 764 = .ok (.iload_n 3, 1) := by decide +kernel
theorem dL_765 : decode code 765 = .ok (.iconst 2, 1) := by decide +kernel
theorem dL_766 : decode code 766 = .ok (.iadd, 1) := by decide +kernel
theorem dL_767 : decode code 767 = .ok (.iaload, 1) := by decide +kernel
theorem dL_768 : decode code 768 = .ok (.invokevirtual 86, 3) := by decide +kernel
theorem dL_771 : decode code 771 = .ok (.aload_n 2, 1) := by decide +kernel
theorem dL_772 : decode code 772 = .ok (.aload_n 0, 1) := by decide +kernel
theorem dL_773 : decode code 773 = .ok (.iload_n 3, 1) := by decide +kernel
theorem dL_774 : decode code 774 = .ok (.iconst 1, 1) := by decide +kernel
theorem dL_775 : decode code 775 = .ok (.iadd, 1) := by decide +kernel
theorem dL_776 : decode code 776 = .ok (.iaload, 1) := by decide +kernel
theorem dL_777 : decode code 777 = .ok (.aload_n 0, 1) := by decide +kernel
theorem dL_778 : decode code 778 = .ok (.iload_n 3, 1) := by decide +kernel
theorem dL_779 : decode code 779 = .ok (.iconst 2, 1) := by decide +kernel
theorem dL_780 : decode code 780 = .ok (.iadd, 1) := by decide +kernel
theorem dL_781 : decode code 781 = .ok (.iaload, 1) := by decide +kernel
theorem dL_782 : decode code 782 = .ok (.invokevirtual 89, 3) := by decide +kernel
theorem dL_785 : decode code 785 = .ok (.if_icmp .eq 590, 3) := by decide +kernel
theorem dL_788 : decode code 788 = .ok (.iconst 0, 1) := by decide +kernel
theorem dL_789 : decode code 789 = .ok (.ireturn, 1) := by decide +kernel
theorem dL_790 : decode code 790 = .ok (.aload_n 1, 1) := by decide +kernel
theorem dL_791 : decode code 791 = .ok (.aload_n 0, 1) := by decide +kernel
theorem dL_792 : decode code 792 = .ok (.iload_n 3, 1) := by decide +kernel
theorem dL_793 : decode code 793 = .ok (.iconst 1, 1) := by decide +kernel
theorem dL_794 : decode code 794 = .ok (.iadd, 1) := by decide +kernel
theorem dL_795 : decode code 795 = .ok (.iaload, 1) := by decide +kernel
theorem dL_796 : decode code 796 = .ok (.invokevirtual 90, 3) := by decide +kernel
theorem dL_799 : decode code 799 = .ok (.aload_n 2, 1) := by decide +kernel
theorem dL_800 : decode code 800 = .ok (.aload_n 0, 1) := by decide +kernel
theorem dL_801 : decode code 801 = .ok (.iload_n 3, 1) := by decide +kernel
theorem dL_802 : decode code 802 = .ok (.iconst 1, 1) := by decide +kernel
theorem dL_803 : decode code 803 = .ok (.iadd, 1) := by decide +kernel
theorem dL_804 : decode code 804 = .ok (.iaload, 1) := by decide +kernel
theorem dL_805 : decode code 805 = .ok (.invokevirtual 93, 3) := by decide +kernel
theorem dL_808 : decode code 808 = .ok (.if_icmp .eq 567, 3) := by decide +kernel
theorem dL_811 : decode code 811 = .ok (.iconst 0, 1) := by decide +kernel
theorem dL_812 : decode code 812 = .ok (.ireturn, 1) := by decide +kernel
theorem dL_813 : decode code 813 = .ok (.aload_n 1, 1) := by decide +kernel
theorem dL_814 : decode code 814 = .ok (.aload_n 0, 1) := by decide +kernel
theorem dL_815 : decode code 815 = .ok (.iload_n 3, 1) := by decide +kernel
theorem dL_816 : decode code 816 = .ok (.iconst 1, 1) := by decide +kernel
theorem dL_817 : decode code 817 = .ok (.iadd, 1) := by decide +kernel
theorem dL_818 : decode code 818 = .ok (.iaload, 1) := by decide +kernel
theorem dL_819 : decode code 819 = .ok (.invokevirtual 94, 3) := by decide +kernel
theorem dL_822 : decode code 822 = .ok (.aload_n 2, 1) := by decide +kernel
theorem dL_823 : decode code 823 = .ok (.aload_n 0, 1) := by decide +kernel
theorem dL_824 : decode code 824 = .ok (.iload_n 3, 1) := by decide +kernel
theorem dL_825 : decode code 825 = .ok (.iconst 1, 1) := by decide +kernel
theorem dL_826 : decode code 826 = .ok (.iadd, 1) := by decide +kernel
theorem dL_827 : decode code 827 = .ok (.iaload, 1) := by decide +kernel
theorem dL_828 : decode code 828 = .ok (.invokevirtual 97, 3) := by decide +kernel
theorem dL_831 : decode code 831 = .ok (.if_icmp .eq 544, 3) := by decide +kernel
theorem dL_834 : decode code 834 = .ok (.iconst 0, 1) := by decide +kernel
theorem dL_835 : decode code 835 = .ok (.ireturn, 1) := by decide +kernel
theorem dL_836 : decode code 836 = .ok (.aload_n 1, 1) := by decide +kernel
theorem dL_837 : decode code 837 = .ok (.invokevirtual 98, 3) := by decide +kernel
theorem dL_840 : decode code 840 = .ok (.aload_n 2, 1) := by decide +kernel
theorem dL_841 : decode code 841 = .ok (.invokevirtual 101, 3) := by decide +kernel
theorem dL_844 : decode code 844 = .ok (.if_icmp .eq 531, 3) := by decide +kernel
theorem dL_847 : decode code 847 = .ok (.iconst 0, 1) := by decide +kernel
theorem dL_848 : decode code 848 = .ok (.ireturn, 1) := by decide +kernel
theorem dL_849 : decode code 849 = .ok (.aload_n 1, 1) := by decide +kernel
theorem dL_850 : decode code 850 = .ok (.aload_n 0, 1) := by decide +kernel
theorem dL_851 : decode code 851 = .ok (.iload_n 3, 1) := by decide +kernel
theorem dL_852 : decode code 852 = .ok (.iconst 1, 1) := by decide +kernel
theorem dL_853 : decode code 853 = .ok (.iadd, 1) := by decide +kernel
theorem dL_854 : decode code 854 = .ok (.iaload, 1) := by decide +kernel
theorem dL_855 : decode code 855 = .ok (.invokevirtual 102, 3) := by decide +kernel
theorem dL_858 : decode code 858 = .ok (.aload_n 2, 1) := by decide +kernel
theorem dL_859 : decode code 859 = .ok (.aload_n 0, 1) := by decide +kernel
theorem dL_860 : decode code 860 = .ok (.iload_n 3, 1) := by decide +kernel
theorem dL_861 : decode code 861 = .ok (.iconst 1, 1) := by decide +kernel
theorem dL_862 : decode code 862 = .ok (.iadd, 1) := by decide +kernel
theorem dL_863 : decode code 863 = .ok (.iaload, 1) := by decide +kernel
theorem dL_864 : decode code 864 = .ok (.invokevirtual 105, 3) := by decide +kernel
theorem dL_867 : decode code 867 = .ok (.if_icmp .eq 508, 3) := by decide +kernel
theorem dL_870 : decode code 870 = .ok (.iconst 0, 1) := by decide +kernel
theorem dL_871 : decode code 871 = .ok (.ireturn, 1) := by decide +kernel
theorem dL_872 : decode code 872 = .ok (.aload_n 1, 1) := by decide +kernel
theorem dL_873 : decode code 873 = .ok (.aload_n 0, 1) := by decide +kernel
theorem dL_874 : decode code 874 = .ok (.iload_n 3, 1) := by decide +kernel
theorem dL_875 : decode code 875 = .ok (.iconst 1, 1) := by decide +kernel
theorem dL_876 : decode code 876 = .ok (.iadd, 1) := by decide +kernel
theorem dL_877 : decode code 877 = .ok (.iaload, 1) := by decide +kernel
theorem dL_878 : decode code 878 = .ok (.aload_n 0, 1) := by decide +kernel
theorem dL_879 : decode code 879 = .ok (.iload_n 3, 1) := by decide +kernel
theorem dL_880 : decode code 880 = .ok (.iconst 2, 1) := by decide +kernel
theorem dL_881 : decode code 881 = .ok (.iadd, 1) := by decide +kernel
theorem dL_882 : decode code 882 = .ok (.iaload, 1) := by decide +kernel
theorem dL_883 : decode code 883 = .ok (.invokevirtual 106, 3) := by decide +kernel
theorem dL_886 : decode code 886 = .ok (.aload_n 2, 1) := by decide +kernel
theorem dL_887 : decode code 887 = .ok (.aload_n 0, 1) := by decide +kernel
theorem dL_888 : decode code 888 = .ok (.iload_n 3, 1) := by decide +kernel
theorem dL_889 : decode code 889 = .ok (.iconst 1, 1) := by decide +kernel
theorem dL_890 : decode code 890 = .ok (.iadd, 1) := by decide +kernel
theorem dL_891 : decode code 891 = .ok (.iaload, 1) := by decide +kernel
theorem dL_892 : decode code 892 = .ok (.aload_n 0, 1) := by decide +kernel
theorem dL_893 : decode code 893 = .ok (.iload_n 3, 1) := by decide +kernel
theorem dL_894 : decode code 894 = .ok (.iconst 2, 1) := by decide +kernel
theorem dL_895 : decode code 895 = .ok (.iadd, 1) := by decide +kernel
theorem dL_896 : decode code 896 = .ok (.iaload, 1) := by decide +kernel
theorem dL_897 : decode code 897 = .ok (.invokevirtual 109, 3) := by decide +kernel
theorem dL_900 : decode code 900 = .ok (.if_icmp .eq 475, 3) := by decide +kernel
theorem dL_903 : decode code 903 = .ok (.iconst 0, 1) := by decide +kernel
theorem dL_904 : decode code 904 = .ok (.ireturn, 1) := by decide +kernel
theorem dL_905 : decode code 905 = .ok (.aload_n 1, 1) := by decide +kernel
theorem dL_906 : decode code 906 = .ok (.aload_n 0, 1) := by decide +kernel
theorem dL_907 : decode code 907 = .ok (.iload_n 3, 1) := by decide +kernel
theorem dL_908 : decode code 908 = .ok (.iconst 1, 1) := by decide +kernel
theorem dL_909 : decode code 909 = .ok (.iadd, 1) := by decide +kernel
theorem dL_910 : decode code 910 = .ok (.iaload, 1) := by decide +kernel
theorem dL_911 : decode code 911 = .ok (.invokevirtual 110, 3) := by decide +kernel
theorem dL_914 : decode code 914 = .ok (.aload_n 2, 1) := by decide +kernel
theorem dL_915 : decode code 915 = .ok (.aload_n 0, 1) := by decide +kernel
theorem dL_916 : decode code 916 = .ok (.iload_n 3, 1) := by decide +kernel
theorem dL_917 : decode code 917 = .ok (.iconst 1, 1) := by decide +kernel
theorem dL_918 : decode code 918 = .ok (.iadd, 1) := by decide +kernel
theorem dL_919 : decode code 919 = .ok (.iaload, 1) := by decide +kernel
theorem dL_920 : decode code 920 = .ok (.invokevirtual 113, 3) := by decide +kernel
theorem dL_923 : decode code 923 = .ok (.if_icmp .eq 452, 3) := by decide +kernel
theorem dL_926 : decode code 926 = .ok (.iconst 0, 1) := by decide +kernel
theorem dL_927 : decode code 927 = .ok (.ireturn, 1) := by decide +kernel
theorem dL_928 : decode code 928 = .ok (.aload_n 1, 1) := by decide +kernel
theorem dL_929 : decode code 929 = .ok (.aload_n 0, 1) := by decide +kernel
theorem dL_930 : decode code 930 = .ok (.iload_n 3, 1) := by decide +kernel
theorem dL_931 : decode code 931 = .ok (.iconst 1, 1) := by decide +kernel
theorem dL_932 : decode code 932 = .ok (.iadd, 1) := by decide +kernel
theorem dL_933 : decode code 933 = .ok (.iaload, 1) := by decide +kernel
theorem dL_934 : decode code 934 = .ok (.invokevirtual 114, 3) := by decide +kernel
theorem dL_937 : decode code 937 = .ok (.aload_n 2, 1) := by decide +kernel
theorem dL_938 : decode code 938 = .ok (.aload_n 0, 1) := by decide +kernel
theorem dL_939 : decode code 939 = .ok (.iload_n 3, 1) := by decide +kernel
theorem dL_940 : decode code 940 = .ok (.iconst 1, 1) := by decide +kernel
theorem dL_941 : decode code 941 = .ok (.iadd, 1) := by decide +kernel
theorem dL_942 : decode code 942 = .ok (.iaload, 1) := by decide +kernel
theorem dL_943 : decode code 943 = .ok (.invokevirtual 117, 3) := by decide +kernel
theorem dL_946 : decode code 946 = .ok (.if_icmp .eq 429, 3) := by decide +kernel
theorem dL_949 : decode code 949 = .ok (.iconst 0, 1) := by decide +kernel
theorem dL_950 : decode code 950 = .ok (.ireturn, 1) := by decide +kernel
theorem dL_951 : decode code 951 = .ok (.aload_n 1, 1) := by decide +kernel
theorem dL_952 : decode code 952 = .ok (.invokevirtual 118, 3) := by decide +kernel
theorem dL_955 : decode code 955 = .ok (.aload_n 2, 1) := by decide +kernel
theorem dL_956 : decode code 956 = .ok (.invokevirtual 121, 3) := by decide +kernel
theorem dL_959 : decode code 959 = .ok (.if_icmp .eq 416, 3) := by decide +kernel
theorem dL_962 : decode code 962 = .ok (.iconst 0, 1) := by decide +kernel
theorem dL_963 : decode code 963 = .ok (.ireturn, 1) := by decide +kernel
theorem dL_964 : decode code 964 = .ok (.aload_n 1, 1) := by decide +kernel
theorem dL_965 : decode code 965 = .ok (.aload_n 0, 1) := by decide +kernel
theorem dL_966 : decode code 966 = .ok (.iload_n 3, 1) := by decide +kernel
theorem dL_967 : decode code 967 = .ok (.iconst 1, 1) := by decide +kernel
theorem dL_968 : decode code 968 = .ok (.iadd, 1) := by decide +kernel
theorem dL_969 : decode code 969 = .ok (.iaload, 1) := by decide +kernel
theorem dL_970 : decode code 970 = .ok (.invokevirtual 122, 3) := by decide +kernel
theorem dL_973 : decode code 973 = .ok (.aload_n 2, 1) := by decide +kernel
theorem dL_974 : decode code 974 = .ok (.aload_n 0, 1) := by decide +kernel
theorem dL_975 : decode code 975 = .ok (.iload_n 3, 1) := by decide +kernel
theorem dL_976 : decode code 976 = .ok (.iconst 1, 1) := by decide +kernel
theorem dL_977 : decode code 977 = .ok (.iadd, 1) := by decide +kernel
theorem dL_978 : decode code 978 = .ok (.iaload, 1) := by decide +kernel
theorem dL_979 : decode code 979 = .ok (.invokevirtual 125, 3) := by decide +kernel
theorem dL_982 : decode code 982 = .ok (.if_icmp .eq 393, 3) := by decide +kernel
theorem dL_985 : decode code 985 = .ok (.iconst 0, 1) := by decide +kernel
theorem dL_986 : decode code 986 = .ok (.ireturn, 1) := by decide +kernel
theorem dL_987 : decode code 987 = .ok (.aload_n 1, 1) := by decide +kernel
theorem dL_988 : decode code 988 = .ok (.aload_n 0, 1) := by decide +kernel
theorem dL_989 : decode code 989 = .ok (.iload_n 3, 1) := by decide +kernel
theorem dL_990 : decode code 990 = .ok (.iconst 1, 1) := by decide +kernel
theorem dL_991 : decode code 991 = .ok (.iadd, 1) := by decide +kernel
theorem dL_992 : decode code 992 = .ok (.iaload, 1) := by decide +kernel
theorem dL_993 : decode code 993 = .ok (.aload_n 0, 1) := by decide +kernel
theorem dL_994 : decode code 994 = .ok (.iload_n 3, 1) := by decide +kernel
theorem dL_995 : decode code 995 = .ok (.iconst 2, 1) := by decide +kernel
theorem dL_996 : decode code 996 = .ok (.iadd, 1) := by decide +kernel
theorem dL_997 : decode code 997 = .ok (.iaload, 1) := by decide +kernel
theorem dL_998 : decode code 998 = .ok (.invokevirtual 126, 3) := by decide +kernel
theorem dL_1001 : decode code 1001 = .ok (.aload_n 2, 1) := by decide +kernel
theorem dL_1002 : decode code 1002 = .ok (.aload_n 0, 1) := by decide +kernel
theorem dL_1003 : decode code 1003 = .ok (.iload_n 3, 1) := by decide +kernel
theorem dL_1004 : decode code 1004 = .ok (.iconst 1, 1) := by decide +kernel
theorem dL_1005 : decode code 1005 = .ok (.iadd, 1) := by decide +kernel
theorem dL_1006 : decode code 1006 = .ok (.iaload, 1) := by decide +kernel
theorem dL_1007 : decode code 1007 = .ok (.aload_n 0, 1) := by decide +kernel
theorem dL_1008 : decode code 1008 = .ok (.iload_n 3, 1) := by decide +kernel
theorem dL_1009 : decode code 1009 = .ok (.iconst 2, 1) := by decide +kernel
theorem dL_1010 : decode code 1010 = .ok (.iadd, 1) := by decide +kernel
theorem dL_1011 : decode code 1011 = .ok (.iaload, 1) := by decide +kernel
theorem dL_1012 : decode code 1012 = .ok (.invokevirtual 129, 3) := by decide +kernel
theorem dL_1015 : decode code 1015 = .ok (.if_icmp .eq 360, 3) := by decide +kernel
theorem dL_1018 : decode code 1018 = .ok (.iconst 0, 1) := by decide +kernel
theorem dL_1019 : decode code 1019 = .ok (.ireturn, 1) := by decide +kernel
theorem dL_1020 : decode code 1020 = .ok (.aload_n 1, 1) := by decide +kernel
theorem dL_1021 : decode code 1021 = .ok (.aload_n 0, 1) := by decide +kernel
theorem dL_1022 : decode code 1022 = .ok (.iload_n 3, 1) := by decide +kernel
theorem dL_1023 : decode code 1023 = .ok (.iconst 1, 1) := by decide +kernel
theorem dL_1024 : decode code 1024 = .ok (.iadd, 1) := by decide +kernel
theorem dL_1025 : decode code 1025 = .ok (.iaload, 1) := by decide +kernel
theorem dL_1026 : decode code 1026 = .ok (.aload_n 0, 1) := by decide +kernel
theorem dL_1027 : decode code 1027 = .ok (.iload_n 3, 1) := by decide +kernel
theorem dL_1028 : decode code 1028 = .ok (.iconst 2, 1) := by decide +kernel
theorem dL_1029 : decode code 1029 = .ok (.iadd, 1) := by decide +kernel
theorem dL_1030 : decode code 1030 = .ok (.iaload, 1) := by decide +kernel
theorem dL_1031 : decode code 1031 = .ok (.aload_n 0, 1) := by decide +kernel
theorem dL_1032 : decode code 1032 = .ok (.iload_n 3, 1) := by decide +kernel
theorem dL_1033 : decode code 1033 = .ok (.iconst 3, 1) := by decide +kernel
theorem dL_1034 : decode code 1034 = .ok (.iadd, 1) := by decide +kernel
theorem dL_1035 : decode code 1035 = .ok (.iaload, 1) := by decide +kernel
theorem dL_1036 : decode code 1036 = .ok (.aload_n 0, 1) := by decide +kernel
theorem dL_1037 : decode code 1037 = .ok (.iload_n 3, 1) := by decide +kernel
theorem dL_1038 : decode code 1038 = .ok (.iconst 4, 1) := by decide +kernel
theorem dL_1039 : decode code 1039 = .ok (.iadd, 1) := by decide +kernel
theorem dL_1040 : decode code 1040 = .ok (.iaload, 1) := by decide +kernel
theorem dL_1041 : decode code 1041 = .ok (.invokevirtual 130, 3) := by decide +kernel
theorem dL_1044 : decode code 1044 = .ok (.aload_n 2, 1) := by decide +kernel
theorem dL_1045 : decode code 1045 = .ok (.aload_n 0, 1) := by decide +kernel
theorem dL_1046 : decode code 1046 = .ok (.iload_n 3, 1) := by decide +kernel
theorem dL_1047 : decode code 1047 = .ok (.iconst 1, 1) := by decide +kernel
theorem dL_1048 : decode code 1048 = .ok (.iadd, 1) := by decide +kernel
theorem dL_1049 : decode code 1049 = .ok (.iaload, 1) := by decide +kernel
theorem dL_1050 : decode code 1050 = .ok (.aload_n 0, 1) := by decide +kernel
theorem dL_1051 : decode code 1051 = .ok (.iload_n 3, 1) := by decide +kernel
theorem dL_1052 : decode code 1052 = .ok (.iconst 2, 1) := by decide +kernel
theorem dL_1053 : decode code 1053 = .ok (.iadd, 1) := by decide +kernel
theorem dL_1054 : decode code 1054 = .ok (.iaload, 1) := by decide +kernel
theorem dL_1055 : decode code 1055 = .ok (.aload_n 0, 1) := by decide +kernel
theorem dL_1056 : decode code 1056 = .ok (.iload_n 3, 1) := by decide +kernel
theorem dL_1057 : decode code 1057 = .ok (.iconst 3, 1) := by decide +kernel
theorem dL_1058 : decode code 1058 = .ok (.iadd, 1) := by decide +kernel
theorem dL_1059 : decode code 1059 = .ok (.iaload, 1) := by decide +kernel
theorem dL_1060 : decode code 1060 = .ok (.aload_n 0, 1) := by decide +kernel
theorem dL_1061 : decode code 1061 = .ok (.iload_n 3, 1) := by decide +kernel
theorem dL_1062 : decode code 1062 = .ok (.iconst 4, 1) := by decide +kernel
theorem dL_1063 : decode code 1063 = .ok (.iadd, 1) := by decide +kernel
theorem dL_1064 : decode code 1064 = .ok (.iaload, 1) := by decide +kernel
theorem dL_1065 : decode code 1065 = .ok (.invokevirtual 134, 3) := by decide +kernel
theorem dL_1068 : decode code 1068 = .ok (.if_icmp .eq 307, 3) := by decide +kernel
theorem dL_1071 : decode code 1071 = .ok (.iconst 0, 1) := by decide +kernel
theorem dL_1072 : decode code 1072 = .ok (.ireturn, 1) := by decide +kernel
theorem dL_1073 : decode code 1073 = .ok (.aload_n 1, 1) := by decide +kernel
theorem dL_1074 : decode code 1074 = .ok (.aload_n 0, 1) := by decide +kernel
theorem dL_1075 : decode code 1075 = .ok (.iload_n 3, 1) := by decide +kernel
theorem dL_1076 : decode code 1076 = .ok (.iconst 1, 1) := by decide +kernel
theorem dL_1077 : decode code 1077 = .ok (.iadd, 1) := by decide +kernel
theorem dL_1078 : decode code 1078 = .ok (.iaload, 1) := by decide +kernel
theorem dL_1079 : decode code 1079 = .ok (.invokevirtual 135, 3) := by decide +kernel
theorem dL_1082 : decode code 1082 = .ok (.aload_n 2, 1) := by decide +kernel
theorem dL_1083 : decode code 1083 = .ok (.aload_n 0, 1) := by decide +kernel
theorem dL_1084 : decode code 1084 = .ok (.iload_n 3, 1) := by decide +kernel
theorem dL_1085 : decode code 1085 = .ok (.iconst 1, 1) := by decide +kernel
theorem dL_1086 : decode code 1086 = .ok (.iadd, 1) := by decide +kernel
theorem dL_1087 : decode code 1087 = .ok (.iaload, 1) := by decide +kernel
theorem dL_1088 : decode code 1088 = .ok (.invokevirtual 138, 3) := by decide +kernel
theorem dL_1091 : decode code 1091 = .ok (.if_icmp .eq 284, 3) := by decide +kernel
theorem dL_1094 : decode code 1094 = .ok (.iconst 0, 1) := by decide +kernel
theorem dL_1095 : decode code 1095 = .ok (.ireturn, 1) := by decide +kernel
theorem dL_1096 : decode code 1096 = .ok (.aload_n 1, 1) := by decide +kernel
theorem dL_1097 : decode code 1097 = .ok (.aload_n 0, 1) := by decide +kernel
theorem dL_1098 : decode code 1098 = .ok (.iload_n 3, 1) := by decide +kernel
theorem dL_1099 : decode code 1099 = .ok (.iconst 1, 1) := by decide +kernel
theorem dL_1100 : decode code 1100 = .ok (.iadd, 1) := by decide +kernel
theorem dL_1101 : decode code 1101 = .ok (.iaload, 1) := by decide +kernel
theorem dL_1102 : decode code 1102 = .ok (.invokevirtual 139, 3) := by decide +kernel
theorem dL_1105 : decode code 1105 = .ok (.aload_n 2, 1) := by decide +kernel
theorem dL_1106 : decode code 1106 = .ok (.aload_n 0, 1) := by decide +kernel
theorem dL_1107 : decode code 1107 = .ok (.iload_n 3, 1) := by decide +kernel
theorem dL_1108 : decode code 1108 = .ok (.iconst 1, 1) := by decide +kernel
theorem dL_1109 : decode code 1109 = .ok (.iadd, 1) := by decide +kernel
theorem dL_1110 : decode code 1110 = .ok (.iaload, 1) := by decide +kernel
theorem dL_1111 : decode code 1111 = .ok (.invokevirtual 142, 3) := by decide +kernel
theorem dL_1114 : decode code 1114 = .ok (.if_icmp .eq 261, 3) := by decide +kernel
theorem dL_1117 : decode code 1117 = .ok (.iconst 0, 1) := by decide +kernel
theorem dL_1118 : decode code 1118 = .ok (.ireturn, 1) := by decide +kernel
theorem dL_1119 : decode code 1119 = .ok (.aload_n 1, 1) := by decide +kernel
theorem dL_1120 : decode code 1120 = .ok (.aload_n 0, 1) := by decide +kernel
theorem dL_1121 : decode code 1121 = .ok (.iload_n 3, 1) := by decide +kernel
theorem dL_1122 : decode code 1122 = .ok (.iconst 1, 1) := by decide +kernel
theorem dL_1123 : decode code 1123 = .ok (.iadd, 1) := by decide +kernel
theorem dL_1124 : decode code 1124 = .ok (.iaload, 1) := by decide +kernel
theorem dL_1125 : decode code 1125 = .ok (.aload_n 0, 1) := by decide +kernel
theorem dL_1126 : decode code 1126 = .ok (.iload_n 3, 1) := by decide +kernel
theorem dL_1127 : decode code 1127 = .ok (.iconst 2, 1) := by decide +kernel
theorem dL_1128 : decode code 1128 = .ok (.iadd, 1) := by decide +kernel
theorem dL_1129 : decode code 1129 = .ok (.iaload, 1) := by decide +kernel
theorem dL_1130 : decode code 1130 = .ok (.invokevirtual 143, 3) := by decide +kernel
theorem dL_1133 : decode code 1133 = .ok (.aload_n 2, 1) := by decide +kernel
theorem dL_1134 : decode code 1134 = .ok (.aload_n 0, 1) := by decide +kernel
theorem dL_1135 : decode code 1135 = .ok (.iload_n 3, 1) := by decide +kernel
theorem dL_1136 : decode code 1136 = .ok (.iconst 1, 1) := by decide +kernel
theorem dL_1137 : decode code 1137 = .ok (.iadd, 1) := by decide +kernel
theorem dL_1138 : decode code 1138 = .ok (.iaload, 1) := by decide +kernel
theorem dL_1139 : decode code 1139 = .ok (.aload_n 0, 1) := by decide +kernel
theorem dL_1140 : decode code 1140 = .ok (.iload_n 3, 1) := by decide +kernel
theorem dL_1141 : decode code 1141 = .ok (.iconst 2, 1) := by decide +kernel
theorem dL_1142 : decode code 1142 = .ok (.iadd, 1) := by decide +kernel
theorem dL_1143 : decode code 1143 = .ok (.iaload, 1) := by decide +kernel
theorem dL_1144 : decode code 1144 = .ok (.invokevirtual 146, 3) := by decide +kernel
theorem dL_1147 : decode code 1147 = .ok (.if_icmp .eq 228, 3) := by decide +kernel
theorem dL_1150 : decode code 1150 = .ok (.iconst 0, 1) := by decide +kernel
theorem dL_1151 : decode code 1151 = .ok (.ireturn, 1) := by decide +kernel
theorem dL_1152 : decode code 1152 = .ok (.aload_n 1, 1) := by decide +kernel
theorem dL_1153 : decode code 1153 = .ok (.aload_n 0, 1) := by decide +kernel
theorem dL_1154 : decode code 1154 = .ok (.iload_n 3, 1) := by decide +kernel
theorem dL_1155 : decode code 1155 = .ok (.iconst 1, 1) := by decide +kernel
theorem dL_1156 : decode code 1156 = .ok (.iadd, 1) := by decide +kernel
theorem dL_1157 : decode code 1157 = .ok (.iaload, 1) := by decide +kernel
theorem dL_1158 : decode code 1158 = .ok (.aload_n 0, 1) := by decide +kernel
theorem dL_1159 : decode code 1159 = .ok (.iload_n 3, 1) := by decide +kernel
theorem dL_1160 : decode code 1160 = .ok (.iconst 2, 1) := by decide +kernel
theorem dL_1161 : decode code 1161 = .ok (.iadd, 1) := by decide +kernel
theorem dL_1162 : decode code 1162 = .ok (.iaload, 1) := by decide +kernel
theorem dL_1163 : decode code 1163 = .ok (.invokevirtual 147, 3) := by decide +kernel
theorem dL_1166 : decode code 1166 = .ok (.aload_n 2, 1) := by decide +kernel
theorem dL_1167 : decode code 1167 = .ok (.aload_n 0, 1) := by decide +kernel
theorem dL_1168 : decode code 1168 = .ok (.iload_n 3, 1) := by decide +kernel
theorem dL_1169 : decode code 1169 = .ok (.iconst 1, 1) := by decide +kernel
theorem dL_1170 : decode code 1170 = .ok (.iadd, 1) := by decide +kernel
theorem dL_1171 : decode code 1171 = .ok (.iaload, 1) := by decide +kernel
theorem dL_1172 : decode code 1172 = .ok (.aload_n 0, 1) := by decide +kernel
theorem dL_1173 : decode code 1173 = .ok (.iload_n 3, 1) := by decide +kernel
theorem dL_1174 : decode code 1174 = .ok (.iconst 2, 1) := by decide +kernel
theorem dL_1175 : decode code 1175 = .ok (.iadd, 1) := by decide +kernel
theorem dL_1176 : decode code 1176 = .ok (.iaload, 1) := by decide +kernel
theorem dL_1177 : decode code 1177 = .ok (.invokevirtual 150, 3) := by decide +kernel
theorem dL_1180 : decode code 1180 = .ok (.if_icmp .eq 195, 3) := by decide +kernel
theorem dL_1183 : decode code 1183 = .ok (.iconst 0, 1) := by decide +kernel
theorem dL_1184 : decode code 1184 = .ok (.ireturn, 1) := by decide +kernel
theorem dL_1185 : decode code 1185 = .ok (.aload_n 1, 1) := by decide +kernel
theorem dL_1186 : decode code 1186 = .ok (.aload_n 0, 1) := by decide +kernel
theorem dL_1187 : decode code 1187 = .ok (.iload_n 3, 1) := by decide +kernel
theorem dL_1188 : decode code 1188 = .ok (.iconst 1, 1) := by decide +kernel
theorem dL_1189 : decode code 1189 = .ok (.iadd, 1) := by decide +kernel
theorem dL_1190 : decode code 1190 = .ok (.iaload, 1) := by decide +kernel
theorem dL_1191 : decode code 1191 = .ok (.aload_n 0, 1) := by decide +kernel
theorem dL_1192 : decode code 1192 = .ok (.iload_n 3, 1) := by decide +kernel
theorem dL_1193 : decode code 1193 = .ok (.iconst 2, 1) := by decide +kernel
theorem dL_1194 : decode code 1194 = .ok (.iadd, 1) := by decide +kernel
theorem dL_1195 : decode code 1195 = .ok (.iaload, 1) := by decide +kernel
theorem dL_1196 : decode code 1196 = .ok (.aload_n 0, 1) := by decide +kernel
theorem dL_1197 : decode code 1197 = .ok (.iload_n 3, 1) := by decide +kernel
theorem dL_1198 : decode code 1198 = .ok (.iconst 3, 1) := by decide +kernel
theorem dL_1199 : decode code 1199 = .ok (.iadd, 1) := by decide +kernel
theorem dL_1200 : decode code 1200 = .ok (.iaload, 1) := by decide +kernel
theorem dL_1201 : decode code 1201 = .ok (.invokevirtual 151, 3) := by decide +kernel
theorem dL_1204 : decode code 1204 = .ok (.aload_n 2, 1) := by decide +kernel
theorem dL_1205 : decode code 1205 = .ok (.aload_n 0, 1) := by decide +kernel
theorem dL_1206 : decode code 1206 = .ok (.iload_n 3, 1) := by decide +kernel
theorem dL_1207 : decode code 1207 = .ok (.iconst 1, 1) := by decide +kernel
theorem dL_1208 : decode code 1208 = .ok (.iadd, 1) := by decide +kernel
theorem dL_1209 : decode code 1209 = .ok (.iaload, 1) := by decide +kernel
theorem dL_1210 : decode code 1210 = .ok (.aload_n 0, 1) := by decide +kernel
theorem dL_1211 : decode code 1211 = .ok (.iload_n 3, 1) := by decide +kernel
theorem dL_1212 : decode code 1212 = .ok (.iconst 2, 1) := by decide +kernel
theorem dL_1213 : decode code 1213 = .ok (.iadd, 1) := by decide +kernel
theorem dL_1214 : decode code 1214 = .ok (.iaload, 1) := by decide +kernel
theorem dL_1215 : decode code 1215 = .ok (.aload_n 0, 1) := by decide +kernel
theorem dL_1216 : decode code 1216 = .ok (.iload_n 3, 1) := by decide +kernel
theorem dL_1217 : decode code 1217 = .ok (.iconst 3, 1) := by decide +kernel
theorem dL_1218 : decode code 1218 = .ok (.iadd, 1) := by decide +kernel
theorem dL_1219 : decode code 1219 = .ok (.iaload, 1) := by decide +kernel
theorem dL_1220 : decode code 1220 = .ok (.invokevirtual 154, 3) := by decide +kernel
theorem dL_1223 : decode code 1223 = .ok (.if_icmp .eq 152, 3) := by decide +kernel
theorem dL_1226 : decode code 1226 = .ok (.iconst 0, 1) := by decide +kernel
theorem dL_1227 : decode code 1227 = .ok (.ireturn, 1) := by decide +kernel
theorem dL_1228 : decode code 1228 = .ok (.aload_n 1, 1) := by decide +kernel
theorem dL_1229 : decode code 1229 = .ok (.aload_n 0, 1) := by decide +kernel
theorem dL_1230 : decode code 1230 = .ok (.iload_n 3, 1) := by decide +kernel
theorem dL_1231 : decode code 1231 = .ok (.iconst 1, 1) := by decide +kernel
theorem dL_1232 : decode code 1232 = .ok (.iadd, 1) := by decide +kernel
theorem dL_1233 : decode code 1233 = .ok (.iaload, 1) := by decide +kernel
theorem dL_1234 : decode code 1234 = .ok (.aload_n 0, 1) := by decide +kernel
theorem dL_1235 : decode code 1235 = .ok (.iload_n 3, 1) := by decide +kernel
theorem dL_1236 : decode code 1236 = .ok (.iconst 2, 1) := by decide +kernel
theorem dL_1237 : decode code 1237 = .ok (.iadd, 1) := by decide +kernel
theorem dL_1238 : decode code 1238 = .ok (.iaload, 1) := by decide +kernel
theorem dL_1239 : decode code 1239 = .ok (.invokevirtual 155, 3) := by decide +kernel
theorem dL_1242 : decode code 1242 = .ok (.aload_n 2, 1) := by decide +kernel
theorem dL_1243 : decode code 1243 = .ok (.aload_n 0, 1) := by decide +kernel
theorem dL_1244 : decode code 1244 = .ok (.iload_n 3, 1) := by decide +kernel
theorem dL_1245 : decode code 1245 = .ok (.iconst 1, 1) := by decide +kernel
theorem dL_1246 : decode code 1246 = .ok (.iadd, 1) := by decide +kernel
theorem dL_1247 : decode code 1247 = .ok (.iaload, 1) := by decide +kernel
theorem dL_1248 : decode code 1248 = .ok (.aload_n 0, 1) := by decide +kernel
theorem dL_1249 : decode code 1249 = .ok (.iload_n 3, 1) := by decide +kernel
theorem dL_1250 : decode code 1250 = .ok (.iconst 2, 1) := by decide +kernel
theorem dL_1251 : decode code 1251 = .ok (.iadd, 1) := by decide +kernel
theorem dL_1252 : decode code 1252 = .ok (.iaload, 1) := by decide +kernel
theorem dL_1253 : decode code 1253 = .ok (.invokevirtual 158, 3) := by decide +kernel
theorem dL_1256 : decode code 1256 = .ok (.if_icmp .eq 119, 3) := by decide +kernel
theorem dL_1259 : decode code 1259 = .ok (.iconst 0, 1) := by decide +kernel
theorem dL_1260 : decode code 1260 = .ok (.ireturn, 1) := by decide +kernel
theorem dL_1261 : decode code 1261 = .ok (.aload_n 1, 1) := by decide +kernel
theorem dL_1262 : decode code 1262 = .ok (.invokevirtual 159, 3) := by decide +kernel
theorem dL_1265 : decode code 1265 = .ok (.aload_n 2, 1) := by decide +kernel
theorem dL_1266 : decode code 1266 = .ok (.invokevirtual 162, 3) := by decide +kernel
theorem dL_1269 : decode code 1269 = .ok (.if_icmp .eq 106, 3) := by decide +kernel
theorem dL_1272 : decode code 1272 = .ok (.iconst 0, 1) := by decide +kernel
theorem dL_1273 : decode code 1273 = .ok (.ireturn, 1) := by decide +kernel
theorem dL_1274 : decode code 1274 = .ok (.aload_n 1, 1) := by decide +kernel
theorem dL_1275 : decode code 1275 = .ok (.invokevirtual 163, 3) := by decide +kernel
theorem dL_1278 : decode code 1278 = .ok (.aload_n 2, 1) := by decide +kernel
theorem dL_1279 : decode code 1279 = .ok (.invokevirtual 167, 3) := by decide +kernel
theorem dL_1282 : decode code 1282 = .ok (.lcmp, 1) := by decide +kernel
theorem dL_1283 : decode code 1283 = .ok (.ifCond .eq 92, 3) := by decide +kernel
theorem dL_1286 : decode code 1286 = .ok (.iconst 0, 1) := by decide +kernel
theorem dL_1287 : decode code 1287 = .ok (.ireturn, 1) := by decide +kernel
theorem dL_1288 : decode code 1288 = .ok (.aload_n 1, 1) := by decide +kernel
theorem dL_1289 : decode code 1289 = .ok (.invokevirtual 168, 3) := by decide +kernel
theorem dL_1292 : decode code 1292 = .ok (.aload_n 2, 1) := by decide +kernel
theorem dL_1293 : decode code 1293 = .ok (.invokevirtual 171, 3) := by decide +kernel
theorem dL_1296 : decode code 1296 = .ok (.lcmp, 1) := by decide +kernel
theorem dL_1297 : decode code 1297 = .ok (.ifCond .eq 78, 3) := by decide +kernel
theorem dL_1300 : decode code 1300 = .ok (.iconst 0, 1) := by decide +kernel
theorem dL_1301 : decode code 1301 = .ok (.ireturn, 1) := by decide +kernel
theorem dL_1302 : decode code 1302 = .ok (.aload_n 1, 1) := by decide +kernel
theorem dL_1303 : decode code 1303 = .ok (.aload_n 0, 1) := by decide +kernel
theorem dL_1304 : decode code 1304 = .ok (.iload_n 3, 1) := by decide +kernel
theorem dL_1305 : decode code 1305 = .ok (.iconst 1, 1) := by decide +kernel
theorem dL_1306 : decode code 1306 = .ok (.iadd, 1) := by decide +kernel
theorem dL_1307 : decode code 1307 = .ok (.iaload, 1) := by decide +kernel
theorem dL_1308 : decode code 1308 = .ok (.invokevirtual 172, 3) := by decide +kernel
theorem dL_1311 : decode code 1311 = .ok (.aload_n 2, 1) := by decide +kernel
theorem dL_1312 : decode code 1312 = .ok (.aload_n 0, 1) := by decide +kernel
theorem dL_1313 : decode code 1313 = .ok (.iload_n 3, 1) := by decide +kernel
theorem dL_1314 : decode code 1314 = .ok (.iconst 1, 1) := by decide +kernel
theorem dL_1315 : decode code 1315 = .ok (.iadd, 1) := by decide +kernel
theorem dL_1316 : decode code 1316 = .ok (.iaload, 1) := by decide +kernel
theorem dL_1317 : decode code 1317 = .ok (.invokevirtual 175, 3) := by decide +kernel
theorem dL_1320 : decode code 1320 = .ok (.if_icmp .eq 55, 3) := by decide +kernel
theorem dL_1323 : decode code 1323 = .ok (.iconst 0, 1) := by decide +kernel
theorem dL_1324 : decode code 1324 = .ok (.ireturn, 1) := by decide +kernel
theorem dL_1325 : decode code 1325 = .ok (.aload_n 1, 1) := by decide +kernel
theorem dL_1326 : decode code 1326 = .ok (.invokevirtual 176, 3) := by decide +kernel
theorem dL_1329 : decode code 1329 = .ok (.aload_n 2, 1) := by decide +kernel
theorem dL_1330 : decode code 1330 = .ok (.invokevirtual 179, 3) := by decide +kernel
theorem dL_1333 : decode code 1333 = .ok (.if_icmp .eq 42, 3) := by decide +kernel
theorem dL_1336 : decode code 1336 = .ok (.iconst 0, 1) := by decide +kernel
theorem dL_1337 : decode code 1337 = .ok (.ireturn, 1) := by decide +kernel
theorem dL_1338 : decode code 1338 = .ok (.aload_n 1, 1) := by decide +kernel
theorem dL_1339 : decode code 1339 = .ok (.aload_n 0, 1) := by decide +kernel
theorem dL_1340 : decode code 1340 = .ok (.iload_n 3, 1) := by decide +kernel
theorem dL_1341 : decode code 1341 = .ok (.iconst 1, 1) := by decide +kernel
theorem dL_1342 : decode code 1342 = .ok (.iadd, 1) := by decide +kernel
theorem dL_1343 : decode code 1343 = .ok (.iaload, 1) := by decide +kernel
theorem dL_1344 : decode code 1344 = .ok (.invokevirtual 180, 3) := by decide +kernel
theorem dL_1347 : decode code 1347 = .ok (.aload_n 2, 1) := by decide +kernel
theorem dL_1348 : decode code 1348 = .ok (.aload_n 0, 1) := by decide +kernel
theorem dL_1349 : decode code 1349 = .ok (.iload_n 3, 1) := by decide +kernel
theorem dL_1350 : decode code 1350 = .ok (.iconst 1, 1) := by decide +kernel
theorem dL_1351 : decode code 1351 = .ok (.iadd, 1) := by decide +kernel
theorem dL_1352 : decode code 1352 = .ok (.iaload, 1) := by decide +kernel
theorem dL_1353 : decode code 1353 = .ok (.invokevirtual 183, 3) := by decide +kernel
theorem dL_1356 : decode code 1356 = .ok (.if_icmp .eq 19, 3) := by decide +kernel
theorem dL_1359 : decode code 1359 = .ok (.iconst 0, 1) := by decide +kernel
theorem dL_1360 : decode code 1360 = .ok (.ireturn, 1) := by decide +kernel
theorem dL_1361 : decode code 1361 = .ok (.aload_n 1, 1) := by decide +kernel
theorem dL_1362 : decode code 1362 = .ok (.invokevirtual 184, 3) := by decide +kernel
theorem dL_1365 : decode code 1365 = .ok (.aload_n 2, 1) := by decide +kernel
theorem dL_1366 : decode code 1366 = .ok (.invokevirtual 187, 3) := by decide +kernel
theorem dL_1369 : decode code 1369 = .ok (.lcmp, 1) := by decide +kernel
theorem dL_1370 : decode code 1370 = .ok (.ifCond .eq 5, 3) := by decide +kernel
theorem dL_1373 : decode code 1373 = .ok (.iconst 0, 1) := by decide +kernel
theorem dL_1374 : decode code 1374 = .ok (.ireturn, 1) := by decide +kernel
theorem dL_1375 : decode code 1375 = .ok (.iinc 3 6, 3) := by decide +kernel
theorem dL_1378 : decode code 1378 = .ok (.goto (-1360), 3) := by decide +kernel
theorem dL_1381 : decode code 1381 = .ok (.iconst 1, 1) := by decide +kernel
theorem dL_1382 : decode code 1382 = .ok (.ireturn, 1) := by decide +kernel
theorem kL_13 : Cond.methodLink R_law 13 t_X9_row.1 ∈ lw_gd := List.mem_filter.mpr ⟨List.mem_of_getElem? (i := 389) (by decide +kernel), by decide +kernel⟩
theorem kL_17 : Cond.methodLink R_law 17 t_X10_row.1 ∈ lw_gd := List.mem_filter.mpr ⟨List.mem_of_getElem? (i := 1263) (by decide +kernel), by decide +kernel⟩
theorem kL_18 : Cond.methodLink R_law 18 t_X9_lay.1 ∈ lw_gd := List.mem_filter.mpr ⟨List.mem_of_getElem? (i := 420) (by decide +kernel), by decide +kernel⟩
theorem kL_22 : Cond.methodLink R_law 22 t_X10_lay.1 ∈ lw_gd := List.mem_filter.mpr ⟨List.mem_of_getElem? (i := 1274) (by decide +kernel), by decide +kernel⟩
theorem kL_23 : Cond.methodLink R_law 23 t_X9_at.1 ∈ lw_gd := List.mem_filter.mpr ⟨List.mem_of_getElem? (i := 448) (by decide +kernel), by decide +kernel⟩
theorem kL_26 : Cond.methodLink R_law 26 t_X10_at.1 ∈ lw_gd := List.mem_filter.mpr ⟨List.mem_of_getElem? (i := 1286) (by decide +kernel), by decide +kernel⟩
theorem kL_27 : Cond.methodLink R_law 27 t_X9_tear.1 ∈ lw_gd := List.mem_filter.mpr ⟨List.mem_of_getElem? (i := 452) (by decide +kernel), by decide +kernel⟩
theorem kL_31 : Cond.methodLink R_law 31 t_X10_tear.1 ∈ lw_gd := List.mem_filter.mpr ⟨List.mem_of_getElem? (i := 1290) (by decide +kernel), by decide +kernel⟩
theorem kL_32 : Cond.methodLink R_law 32 t_X9_copy.1 ∈ lw_gd := List.mem_filter.mpr ⟨List.mem_of_getElem? (i := 460) (by decide +kernel), by decide +kernel⟩
theorem kL_36 : Cond.methodLink R_law 36 t_X10_copy.1 ∈ lw_gd := List.mem_filter.mpr ⟨List.mem_of_getElem? (i := 1294) (by decide +kernel), by decide +kernel⟩
theorem kL_37 : Cond.methodLink R_law 37 t_X9_mean.1 ∈ lw_gd := List.mem_filter.mpr ⟨List.mem_of_getElem? (i := 472) (by decide +kernel), by decide +kernel⟩
theorem kL_40 : Cond.methodLink R_law 40 t_X10_mean.1 ∈ lw_gd := List.mem_filter.mpr ⟨List.mem_of_getElem? (i := 1298) (by decide +kernel), by decide +kernel⟩
theorem kL_41 : Cond.methodLink R_law 41 t_X9_text.1 ∈ lw_gd := List.mem_filter.mpr ⟨List.mem_of_getElem? (i := 483) (by decide +kernel), by decide +kernel⟩
theorem kL_44 : Cond.methodLink R_law 44 t_X10_text.1 ∈ lw_gd := List.mem_filter.mpr ⟨List.mem_of_getElem? (i := 1302) (by decide +kernel), by decide +kernel⟩
theorem kL_45 : Cond.methodLink R_law 45 t_X9_put.1 ∈ lw_gd := List.mem_filter.mpr ⟨List.mem_of_getElem? (i := 487) (by decide +kernel), by decide +kernel⟩
theorem kL_48 : Cond.methodLink R_law 48 t_X10_put.1 ∈ lw_gd := List.mem_filter.mpr ⟨List.mem_of_getElem? (i := 1309) (by decide +kernel), by decide +kernel⟩
theorem kL_49 : Cond.methodLink R_law 49 t_X9_fault.1 ∈ lw_gd := List.mem_filter.mpr ⟨List.mem_of_getElem? (i := 491) (by decide +kernel), by decide +kernel⟩
theorem kL_52 : Cond.methodLink R_law 52 t_X10_fault.1 ∈ lw_gd := List.mem_filter.mpr ⟨List.mem_of_getElem? (i := 1313) (by decide +kernel), by decide +kernel⟩
theorem kL_53 : Cond.methodLink R_law 53 t_X9_town.1 ∈ lw_gd := List.mem_filter.mpr ⟨List.mem_of_getElem? (i := 544) (by decide +kernel), by decide +kernel⟩
theorem kL_56 : Cond.methodLink R_law 56 t_X10_town.1 ∈ lw_gd := List.mem_filter.mpr ⟨List.mem_of_getElem? (i := 1340) (by decide +kernel), by decide +kernel⟩
theorem kL_57 : Cond.methodLink R_law 57 t_X9_stone.1 ∈ lw_gd := List.mem_filter.mpr ⟨List.mem_of_getElem? (i := 633) (by decide +kernel), by decide +kernel⟩
theorem kL_60 : Cond.methodLink R_law 60 t_X10_stone.1 ∈ lw_gd := List.mem_filter.mpr ⟨List.mem_of_getElem? (i := 1344) (by decide +kernel), by decide +kernel⟩
theorem kL_61 : Cond.methodLink R_law 61 t_X9_mark.1 ∈ lw_gd := List.mem_filter.mpr ⟨List.mem_of_getElem? (i := 645) (by decide +kernel), by decide +kernel⟩
theorem kL_64 : Cond.methodLink R_law 64 t_X10_mark.1 ∈ lw_gd := List.mem_filter.mpr ⟨List.mem_of_getElem? (i := 1356) (by decide +kernel), by decide +kernel⟩
theorem kL_65 : Cond.methodLink R_law 65 t_X9_law.1 ∈ lw_gd := List.mem_filter.mpr ⟨List.mem_of_getElem? (i := 668) (by decide +kernel), by decide +kernel⟩
theorem kL_68 : Cond.methodLink R_law 68 t_X10_law.1 ∈ lw_gd := List.mem_filter.mpr ⟨List.mem_of_getElem? (i := 1370) (by decide +kernel), by decide +kernel⟩
theorem kL_69 : Cond.methodLink R_law 69 t_X9_reads.1 ∈ lw_gd := List.mem_filter.mpr ⟨List.mem_of_getElem? (i := 685) (by decide +kernel), by decide +kernel⟩
theorem kL_72 : Cond.methodLink R_law 72 t_X10_reads.1 ∈ lw_gd := List.mem_filter.mpr ⟨List.mem_of_getElem? (i := 1377) (by decide +kernel), by decide +kernel⟩
theorem kL_73 : Cond.methodLink R_law 73 t_X9_stands.1 ∈ lw_gd := List.mem_filter.mpr ⟨List.mem_of_getElem? (i := 703) (by decide +kernel), by decide +kernel⟩
theorem kL_76 : Cond.methodLink R_law 76 t_X10_stands.1 ∈ lw_gd := List.mem_filter.mpr ⟨List.mem_of_getElem? (i := 1409) (by decide +kernel), by decide +kernel⟩
theorem kL_77 : Cond.methodLink R_law 77 t_X9_laws.1 ∈ lw_gd := List.mem_filter.mpr ⟨List.mem_of_getElem? (i := 733) (by decide +kernel), by decide +kernel⟩
theorem kL_81 : Cond.methodLink R_law 81 t_X10_laws.1 ∈ lw_gd := List.mem_filter.mpr ⟨List.mem_of_getElem? (i := 1429) (by decide +kernel), by decide +kernel⟩
theorem kL_82 : Cond.methodLink R_law 82 t_X9_turn.1 ∈ lw_gd := List.mem_filter.mpr ⟨List.mem_of_getElem? (i := 745) (by decide +kernel), by decide +kernel⟩
theorem kL_85 : Cond.methodLink R_law 85 t_X10_turn.1 ∈ lw_gd := List.mem_filter.mpr ⟨List.mem_of_getElem? (i := 1437) (by decide +kernel), by decide +kernel⟩
theorem kL_86 : Cond.methodLink R_law 86 t_X9_till.1 ∈ lw_gd := List.mem_filter.mpr ⟨List.mem_of_getElem? (i := 768) (by decide +kernel), by decide +kernel⟩
theorem kL_89 : Cond.methodLink R_law 89 t_X10_till.1 ∈ lw_gd := List.mem_filter.mpr ⟨List.mem_of_getElem? (i := 1453) (by decide +kernel), by decide +kernel⟩
theorem kL_90 : Cond.methodLink R_law 90 t_X9_keep.1 ∈ lw_gd := List.mem_filter.mpr ⟨List.mem_of_getElem? (i := 773) (by decide +kernel), by decide +kernel⟩
theorem kL_93 : Cond.methodLink R_law 93 t_X10_keep.1 ∈ lw_gd := List.mem_filter.mpr ⟨List.mem_of_getElem? (i := 1457) (by decide +kernel), by decide +kernel⟩
theorem kL_94 : Cond.methodLink R_law 94 t_X9_on.1 ∈ lw_gd := List.mem_filter.mpr ⟨List.mem_of_getElem? (i := 777) (by decide +kernel), by decide +kernel⟩
theorem kL_97 : Cond.methodLink R_law 97 t_X10_on.1 ∈ lw_gd := List.mem_filter.mpr ⟨List.mem_of_getElem? (i := 1465) (by decide +kernel), by decide +kernel⟩
theorem kL_98 : Cond.methodLink R_law 98 t_X9_state.1 ∈ lw_gd := List.mem_filter.mpr ⟨List.mem_of_getElem? (i := 781) (by decide +kernel), by decide +kernel⟩
theorem kL_101 : Cond.methodLink R_law 101 t_X10_state.1 ∈ lw_gd := List.mem_filter.mpr ⟨List.mem_of_getElem? (i := 1469) (by decide +kernel), by decide +kernel⟩
theorem kL_102 : Cond.methodLink R_law 102 t_X9_years.1 ∈ lw_gd := List.mem_filter.mpr ⟨List.mem_of_getElem? (i := 785) (by decide +kernel), by decide +kernel⟩
theorem kL_105 : Cond.methodLink R_law 105 t_X10_years.1 ∈ lw_gd := List.mem_filter.mpr ⟨List.mem_of_getElem? (i := 1473) (by decide +kernel), by decide +kernel⟩
theorem kL_106 : Cond.methodLink R_law 106 t_X9_way.1 ∈ lw_gd := List.mem_filter.mpr ⟨List.mem_of_getElem? (i := 845) (by decide +kernel), by decide +kernel⟩
theorem kL_109 : Cond.methodLink R_law 109 t_X10_way.1 ∈ lw_gd := List.mem_filter.mpr ⟨List.mem_of_getElem? (i := 1504) (by decide +kernel), by decide +kernel⟩
theorem kL_110 : Cond.methodLink R_law 110 t_X9_lost.1 ∈ lw_gd := List.mem_filter.mpr ⟨List.mem_of_getElem? (i := 853) (by decide +kernel), by decide +kernel⟩
theorem kL_113 : Cond.methodLink R_law 113 t_X10_lost.1 ∈ lw_gd := List.mem_filter.mpr ⟨List.mem_of_getElem? (i := 1512) (by decide +kernel), by decide +kernel⟩
theorem kL_114 : Cond.methodLink R_law 114 t_X9_share.1 ∈ lw_gd := List.mem_filter.mpr ⟨List.mem_of_getElem? (i := 857) (by decide +kernel), by decide +kernel⟩
theorem kL_117 : Cond.methodLink R_law 117 t_X10_share.1 ∈ lw_gd := List.mem_filter.mpr ⟨List.mem_of_getElem? (i := 1516) (by decide +kernel), by decide +kernel⟩
theorem kL_118 : Cond.methodLink R_law 118 t_X9_together.1 ∈ lw_gd := List.mem_filter.mpr ⟨List.mem_of_getElem? (i := 873) (by decide +kernel), by decide +kernel⟩
theorem kL_121 : Cond.methodLink R_law 121 t_X10_together.1 ∈ lw_gd := List.mem_filter.mpr ⟨List.mem_of_getElem? (i := 1524) (by decide +kernel), by decide +kernel⟩
theorem kL_122 : Cond.methodLink R_law 122 t_X9_mend.1 ∈ lw_gd := List.mem_filter.mpr ⟨List.mem_of_getElem? (i := 879) (by decide +kernel), by decide +kernel⟩
theorem kL_125 : Cond.methodLink R_law 125 t_X10_mend.1 ∈ lw_gd := List.mem_filter.mpr ⟨List.mem_of_getElem? (i := 1528) (by decide +kernel), by decide +kernel⟩
theorem kL_126 : Cond.methodLink R_law 126 t_X9_contest.1 ∈ lw_gd := List.mem_filter.mpr ⟨List.mem_of_getElem? (i := 908) (by decide +kernel), by decide +kernel⟩
theorem kL_129 : Cond.methodLink R_law 129 t_X10_contest.1 ∈ lw_gd := List.mem_filter.mpr ⟨List.mem_of_getElem? (i := 1532) (by decide +kernel), by decide +kernel⟩
theorem kL_130 : Cond.methodLink R_law 130 t_X9_engrave.1 ∈ lw_gd := List.mem_filter.mpr ⟨List.mem_of_getElem? (i := 926) (by decide +kernel), by decide +kernel⟩
theorem kL_134 : Cond.methodLink R_law 134 t_X10_engrave.1 ∈ lw_gd := List.mem_filter.mpr ⟨List.mem_of_getElem? (i := 1544) (by decide +kernel), by decide +kernel⟩
theorem kL_135 : Cond.methodLink R_law 135 t_X9_lose.1 ∈ lw_gd := List.mem_filter.mpr ⟨List.mem_of_getElem? (i := 938) (by decide +kernel), by decide +kernel⟩
theorem kL_138 : Cond.methodLink R_law 138 t_X10_lose.1 ∈ lw_gd := List.mem_filter.mpr ⟨List.mem_of_getElem? (i := 1548) (by decide +kernel), by decide +kernel⟩
theorem kL_139 : Cond.methodLink R_law 139 t_X9_histories.1 ∈ lw_gd := List.mem_filter.mpr ⟨List.mem_of_getElem? (i := 942) (by decide +kernel), by decide +kernel⟩
theorem kL_142 : Cond.methodLink R_law 142 t_X10_histories.1 ∈ lw_gd := List.mem_filter.mpr ⟨List.mem_of_getElem? (i := 1552) (by decide +kernel), by decide +kernel⟩
theorem kL_143 : Cond.methodLink R_law 143 t_X9_when.1 ∈ lw_gd := List.mem_filter.mpr ⟨List.mem_of_getElem? (i := 1014) (by decide +kernel), by decide +kernel⟩
theorem kL_146 : Cond.methodLink R_law 146 t_X10_when.1 ∈ lw_gd := List.mem_filter.mpr ⟨List.mem_of_getElem? (i := 1570) (by decide +kernel), by decide +kernel⟩
theorem kL_147 : Cond.methodLink R_law 147 t_X9_turned.1 ∈ lw_gd := List.mem_filter.mpr ⟨List.mem_of_getElem? (i := 1027) (by decide +kernel), by decide +kernel⟩
theorem kL_150 : Cond.methodLink R_law 150 t_X10_turned.1 ∈ lw_gd := List.mem_filter.mpr ⟨List.mem_of_getElem? (i := 1574) (by decide +kernel), by decide +kernel⟩
theorem kL_151 : Cond.methodLink R_law 151 t_X9_odds.1 ∈ lw_gd := List.mem_filter.mpr ⟨List.mem_of_getElem? (i := 1039) (by decide +kernel), by decide +kernel⟩
theorem kL_154 : Cond.methodLink R_law 154 t_X10_odds.1 ∈ lw_gd := List.mem_filter.mpr ⟨List.mem_of_getElem? (i := 1578) (by decide +kernel), by decide +kernel⟩
theorem kL_155 : Cond.methodLink R_law 155 t_X9_lives.1 ∈ lw_gd := List.mem_filter.mpr ⟨List.mem_of_getElem? (i := 1048) (by decide +kernel), by decide +kernel⟩
theorem kL_158 : Cond.methodLink R_law 158 t_X10_lives.1 ∈ lw_gd := List.mem_filter.mpr ⟨List.mem_of_getElem? (i := 1582) (by decide +kernel), by decide +kernel⟩
theorem kL_159 : Cond.methodLink R_law 159 t_X9_asked.1 ∈ lw_gd := List.mem_filter.mpr ⟨List.mem_of_getElem? (i := 1053) (by decide +kernel), by decide +kernel⟩
theorem kL_162 : Cond.methodLink R_law 162 t_X10_asked.1 ∈ lw_gd := List.mem_filter.mpr ⟨List.mem_of_getElem? (i := 1251) (by decide +kernel), by decide +kernel⟩
theorem kL_163 : Cond.methodLink R_law 163 t_X9_upper.1 ∈ lw_gd := List.mem_filter.mpr ⟨List.mem_of_getElem? (i := 1057) (by decide +kernel), by decide +kernel⟩
theorem kL_167 : Cond.methodLink R_law 167 t_X10_upper.1 ∈ lw_gd := List.mem_filter.mpr ⟨List.mem_of_getElem? (i := 1255) (by decide +kernel), by decide +kernel⟩
theorem kL_168 : Cond.methodLink R_law 168 t_X9_lower.1 ∈ lw_gd := List.mem_filter.mpr ⟨List.mem_of_getElem? (i := 1061) (by decide +kernel), by decide +kernel⟩
theorem kL_171 : Cond.methodLink R_law 171 t_X10_lower.1 ∈ lw_gd := List.mem_filter.mpr ⟨List.mem_of_getElem? (i := 1259) (by decide +kernel), by decide +kernel⟩
theorem kL_172 : Cond.methodLink R_law 172 t_X9_count.1 ∈ lw_gd := List.mem_filter.mpr ⟨List.mem_of_getElem? (i := 1065) (by decide +kernel), by decide +kernel⟩
theorem kL_175 : Cond.methodLink R_law 175 t_X10_count.1 ∈ lw_gd := List.mem_filter.mpr ⟨List.mem_of_getElem? (i := 1587) (by decide +kernel), by decide +kernel⟩
theorem kL_176 : Cond.methodLink R_law 176 t_X9_finding.1 ∈ lw_gd := List.mem_filter.mpr ⟨List.mem_of_getElem? (i := 1078) (by decide +kernel), by decide +kernel⟩
theorem kL_179 : Cond.methodLink R_law 179 t_X10_finding.1 ∈ lw_gd := List.mem_filter.mpr ⟨List.mem_of_getElem? (i := 1240) (by decide +kernel), by decide +kernel⟩
theorem kL_180 : Cond.methodLink R_law 180 t_X9_findings.1 ∈ lw_gd := List.mem_filter.mpr ⟨List.mem_of_getElem? (i := 1082) (by decide +kernel), by decide +kernel⟩
theorem kL_183 : Cond.methodLink R_law 183 t_X10_findings.1 ∈ lw_gd := List.mem_filter.mpr ⟨List.mem_of_getElem? (i := 1244) (by decide +kernel), by decide +kernel⟩
theorem kL_184 : Cond.methodLink R_law 184 t_X9_digest.1 ∈ lw_gd := List.mem_filter.mpr ⟨List.mem_of_getElem? (i := 1086) (by decide +kernel), by decide +kernel⟩
theorem kL_187 : Cond.methodLink R_law 187 t_X10_digest.1 ∈ lw_gd := List.mem_filter.mpr ⟨List.mem_of_getElem? (i := 1595) (by decide +kernel), by decide +kernel⟩
