theorem dL_law_0 : decode cL_law 0 = .ok (.new 7, 3) := by decide +kernel
theorem dL_law_3 : decode cL_law 3 = .ok (.dup, 1) := by decide +kernel
theorem dL_law_4 : decode cL_law 4 = .ok (.invokespecial 9, 3) := by decide +kernel
theorem dL_law_7 : decode cL_law 7 = .ok (.astore_n 1, 1) := by decide +kernel
theorem dL_law_8 : decode cL_law 8 = .ok (.new 10, 3) := by decide +kernel
theorem dL_law_11 : decode cL_law 11 = .ok (.dup, 1) := by decide +kernel
theorem dL_law_12 : decode cL_law 12 = .ok (.invokespecial 12, 3) := by decide +kernel
theorem dL_law_15 : decode cL_law 15 = .ok (.astore_n 2, 1) := by decide +kernel
theorem dL_law_16 : decode cL_law 16 = .ok (.iconst 0, 1) := by decide +kernel
theorem dL_law_17 : decode cL_law 17 = .ok (.istore_n 3, 1) := by decide +kernel
theorem dL_law_18 : decode cL_law 18 = .ok (.iload_n 3, 1) := by decide +kernel
theorem dL_law_19 : decode cL_law 19 = .ok (.aload_n 0, 1) := by decide +kernel
theorem dL_law_20 : decode cL_law 20 = .ok (.arraylength, 1) := by decide +kernel
theorem dL_law_21 : decode cL_law 21 = .ok (.bipush 6, 2) := by decide +kernel
theorem dL_law_23 : decode cL_law 23 = .ok (.isub, 1) := by decide +kernel
theorem dL_law_24 : decode cL_law 24 = .ok (.if_icmp .gt 1558, 3) := by decide +kernel
theorem dL_law_27 : decode cL_law 27 = .ok (.aload_n 0, 1) := by decide +kernel
theorem dL_law_28 : decode cL_law 28 = .ok (.iload_n 3, 1) := by decide +kernel
theorem dL_law_29 : decode cL_law 29 = .ok (.iaload, 1) := by decide +kernel
theorem dL_law_30 : decode cL_law 30 = .ok (.bipush 63, 2) := by decide +kernel
theorem dL_law_32 : decode cL_law 32 = .ok (.iand, 1) := by decide +kernel
theorem dL_law_33 : decode cL_law 33 = .ok (.tableswitch 1543 0 46 #[203, 236, 279, 342, 365, 378, 401, 424, 467, 500, 523, 546, 569, 602, 615, 648, 681, 714, 737, 770, 813, 836, 869, 912, 955, 988, 1011, 1081, 1114, 1137, 1160, 1184, 1217, 1240, 1273, 1306, 1330, 1373, 1406, 1419, 1432, 1445, 1458, 1471, 1494, 1507, 1520], 203) := by decide +kernel
theorem dL_law_236 : decode cL_law 236 = .ok (.aload_n 1, 1) := by decide +kernel
theorem dL_law_237 : decode cL_law 237 = .ok (.aload_n 0, 1) := by decide +kernel
theorem dL_law_238 : decode cL_law 238 = .ok (.iload_n 3, 1) := by decide +kernel
theorem dL_law_239 : decode cL_law 239 = .ok (.iconst 1, 1) := by decide +kernel
theorem dL_law_240 : decode cL_law 240 = .ok (.iadd, 1) := by decide +kernel
theorem dL_law_241 : decode cL_law 241 = .ok (.iaload, 1) := by decide +kernel
theorem dL_law_242 : decode cL_law 242 = .ok (.aload_n 0, 1) := by decide +kernel
theorem dL_law_243 : decode cL_law 243 = .ok (.iload_n 3, 1) := by decide +kernel
theorem dL_law_244 : decode cL_law 244 = .ok (.iconst 2, 1) := by decide +kernel
theorem dL_law_245 : decode cL_law 245 = .ok (.iadd, 1) := by decide +kernel
theorem dL_law_246 : decode cL_law 246 = .ok (.iaload, 1) := by decide +kernel
theorem dL_law_247 : decode cL_law 247 = .ok (.invokevirtual 13, 3) := by decide +kernel
theorem dL_law_250 : decode cL_law 250 = .ok (.aload_n 2, 1) := by decide +kernel
theorem dL_law_251 : decode cL_law 251 = .ok (.aload_n 0, 1) := by decide +kernel
theorem dL_law_252 : decode cL_law 252 = .ok (.iload_n 3, 1) := by decide +kernel
theorem dL_law_253 : decode cL_law 253 = .ok (.iconst 1, 1) := by decide +kernel
theorem dL_law_254 : decode cL_law 254 = .ok (.iadd, 1) := by decide +kernel
theorem dL_law_255 : decode cL_law 255 = .ok (.iaload, 1) := by decide +kernel
theorem dL_law_256 : decode cL_law 256 = .ok (.aload_n 0, 1) := by decide +kernel
theorem dL_law_257 : decode cL_law 257 = .ok (.iload_n 3, 1) := by decide +kernel
theorem dL_law_258 : decode cL_law 258 = .ok (.iconst 2, 1) := by decide +kernel
theorem dL_law_259 : decode cL_law 259 = .ok (.iadd, 1) := by decide +kernel
theorem dL_law_260 : decode cL_law 260 = .ok (.iaload, 1) := by decide +kernel
theorem dL_law_261 : decode cL_law 261 = .ok (.invokevirtual 17, 3) := by decide +kernel
theorem dL_law_264 : decode cL_law 264 = .ok (.if_icmp .eq 1312, 3) := by decide +kernel
theorem dL_law_267 : decode cL_law 267 = .ok (.iconst 0, 1) := by decide +kernel
theorem dL_law_268 : decode cL_law 268 = .ok (.ireturn, 1) := by decide +kernel
theorem dL_law_269 : decode cL_law 269 = .ok (.aload_n 1, 1) := by decide +kernel
theorem dL_law_270 : decode cL_law 270 = .ok (.aload_n 0, 1) := by decide +kernel
theorem dL_law_271 : decode cL_law 271 = .ok (.iload_n 3, 1) := by decide +kernel
theorem dL_law_272 : decode cL_law 272 = .ok (.iconst 1, 1) := by decide +kernel
theorem dL_law_273 : decode cL_law 273 = .ok (.iadd, 1) := by decide +kernel
theorem dL_law_274 : decode cL_law 274 = .ok (.iaload, 1) := by decide +kernel
theorem dL_law_275 : decode cL_law 275 = .ok (.aload_n 0, 1) := by decide +kernel
theorem dL_law_276 : decode cL_law 276 = .ok (.iload_n 3, 1) := by decide +kernel
theorem dL_law_277 : decode cL_law 277 = .ok (.iconst 2, 1) := by decide +kernel
theorem dL_law_278 : decode cL_law 278 = .ok (.iadd, 1) := by decide +kernel
theorem dL_law_279 : decode cL_law 279 = .ok (.iaload, 1) := by decide +kernel
theorem dL_law_280 : decode cL_law 280 = .ok (.aload_n 0, 1) := by decide +kernel
theorem dL_law_281 : decode cL_law 281 = .ok (.iload_n 3, 1) := by decide +kernel
theorem dL_law_282 : decode cL_law 282 = .ok (.iconst 3, 1) := by decide +kernel
theorem dL_law_283 : decode cL_law 283 = .ok (.iadd, 1) := by decide +kernel
theorem dL_law_284 : decode cL_law 284 = .ok (.iaload, 1) := by decide +kernel
theorem dL_law_285 : decode cL_law 285 = .ok (.invokevirtual 18, 3) := by decide +kernel
theorem dL_law_288 : decode cL_law 288 = .ok (.aload_n 2, 1) := by decide +kernel
theorem dL_law_289 : decode cL_law 289 = .ok (.aload_n 0, 1) := by decide +kernel
theorem dL_law_290 : decode cL_law 290 = .ok (.iload_n 3, 1) := by decide +kernel
theorem dL_law_291 : decode cL_law 291 = .ok (.iconst 1, 1) := by decide +kernel
theorem dL_law_292 : decode cL_law 292 = .ok (.iadd, 1) := by decide +kernel
theorem dL_law_293 : decode cL_law 293 = .ok (.iaload, 1) := by decide +kernel
theorem dL_law_294 : decode cL_law 294 = .ok (.aload_n 0, 1) := by decide +kernel
theorem dL_law_295 : decode cL_law 295 = .ok (.iload_n 3, 1) := by decide +kernel
theorem dL_law_296 : decode cL_law 296 = .ok (.iconst 2, 1) := by decide +kernel
theorem dL_law_297 : decode cL_law 297 = .ok (.iadd, 1) := by decide +kernel
theorem dL_law_298 : decode cL_law 298 = .ok (.iaload, 1) := by decide +kernel
theorem dL_law_299 : decode cL_law 299 = .ok (.aload_n 0, 1) := by decide +kernel
theorem dL_law_300 : decode cL_law 300 = .ok (.iload_n 3, 1) := by decide +kernel
theorem dL_law_301 : decode cL_law 301 = .ok (.iconst 3, 1) := by decide +kernel
theorem dL_law_302 : decode cL_law 302 = .ok (.iadd, 1) := by decide +kernel
theorem dL_law_303 : decode cL_law 303 = .ok (.iaload, 1) := by decide +kernel
theorem dL_law_304 : decode cL_law 304 = .ok (.invokevirtual 22, 3) := by decide +kernel
theorem dL_law_307 : decode cL_law 307 = .ok (.if_icmp .eq 1269, 3) := by decide +kernel
theorem dL_law_310 : decode cL_law 310 = .ok (.iconst 0, 1) := by decide +kernel
theorem dL_law_311 : decode cL_law 311 = .ok (.ireturn, 1) := by decide +kernel
theorem dL_law_312 : decode cL_law 312 = .ok (.aload_n 1, 1) := by decide +kernel
theorem dL_law_313 : decode cL_law 313 = .ok (.aload_n 0, 1) := by decide +kernel
theorem dL_law_314 : decode cL_law 314 = .ok (.iload_n 3, 1) := by decide +kernel
theorem dL_law_315 : decode cL_law 315 = .ok (.iconst 1, 1) := by decide +kernel
theorem dL_law_316 : decode cL_law 316 = .ok (.iadd, 1) := by decide +kernel
theorem dL_law_317 : decode cL_law 317 = .ok (.iaload, 1) := by decide +kernel
theorem dL_law_318 : decode cL_law 318 = .ok (.aload_n 0, 1) := by decide +kernel
theorem dL_law_319 : decode cL_law 319 = .ok (.iload_n 3, 1) := by decide +kernel
theorem dL_law_320 : decode cL_law 320 = .ok (.iconst 2, 1) := by decide +kernel
theorem dL_law_321 : decode cL_law 321 = .ok (.iadd, 1) := by decide +kernel
theorem dL_law_322 : decode cL_law 322 = .ok (.iaload, 1) := by decide +kernel
theorem dL_law_323 : decode cL_law 323 = .ok (.aload_n 0, 1) := by decide +kernel
theorem dL_law_324 : decode cL_law 324 = .ok (.iload_n 3, 1) := by decide +kernel
theorem dL_law_325 : decode cL_law 325 = .ok (.iconst 3, 1) := by decide +kernel
theorem dL_law_326 : decode cL_law 326 = .ok (.iadd, 1) := by decide +kernel
theorem dL_law_327 : decode cL_law 327 = .ok (.iaload, 1) := by decide +kernel
theorem dL_law_328 : decode cL_law 328 = .ok (.aload_n 0, 1) := by decide +kernel
theorem dL_law_329 : decode cL_law 329 = .ok (.iload_n 3, 1) := by decide +kernel
theorem dL_law_330 : decode cL_law 330 = .ok (.iconst 4, 1) := by decide +kernel
theorem dL_law_331 : decode cL_law 331 = .ok (.iadd, 1) := by decide +kernel
theorem dL_law_332 : decode cL_law 332 = .ok (.iaload, 1) := by decide +kernel
theorem dL_law_333 : decode cL_law 333 = .ok (.aload_n 0, 1) := by decide +kernel
theorem dL_law_334 : decode cL_law 334 = .ok (.iload_n 3, 1) := by decide +kernel
theorem dL_law_335 : decode cL_law 335 = .ok (.iconst 5, 1) := by decide +kernel
theorem dL_law_336 : decode cL_law 336 = .ok (.iadd, 1) := by decide +kernel
theorem dL_law_337 : decode cL_law 337 = .ok (.iaload, 1) := by decide +kernel
theorem dL_law_338 : decode cL_law 338 = .ok (.invokevirtual 23, 3) := by decide +kernel
theorem dL_law_341 : decode cL_law 341 = .ok (.aload_n 2, 1) := by decide +kernel
theorem dL_law_342 : decode cL_law 342 = .ok (.aload_n 0, 1) := by decide +kernel
theorem dL_law_343 : decode cL_law 343 = .ok (.iload_n 3, 1) := by decide +kernel
theorem dL_law_344 : decode cL_law 344 = .ok (.iconst 1, 1) := by decide +kernel
theorem dL_law_345 : decode cL_law 345 = .ok (.iadd, 1) := by decide +kernel
theorem dL_law_346 : decode cL_law 346 = .ok (.iaload, 1) := by decide +kernel
theorem dL_law_347 : decode cL_law 347 = .ok (.aload_n 0, 1) := by decide +kernel
theorem dL_law_348 : decode cL_law 348 = .ok (.iload_n 3, 1) := by decide +kernel
theorem dL_law_349 : decode cL_law 349 = .ok (.iconst 2, 1) := by decide +kernel
theorem dL_law_350 : decode cL_law 350 = .ok (.iadd, 1) := by decide +kernel
theorem dL_law_351 : decode cL_law 351 = .ok (.iaload, 1) := by decide +kernel
theorem dL_law_352 : decode cL_law 352 = .ok (.aload_n 0, 1) := by decide +kernel
theorem dL_law_353 : decode cL_law 353 = .ok (.iload_n 3, 1) := by decide +kernel
theorem dL_law_354 : decode cL_law 354 = .ok (.iconst 3, 1) := by decide +kernel
theorem dL_law_355 : decode cL_law 355 = .ok (.iadd, 1) := by decide +kernel
theorem dL_law_356 : decode cL_law 356 = .ok (.iaload, 1) := by decide +kernel
theorem dL_law_357 : decode cL_law 357 = .ok (.aload_n 0, 1) := by decide +kernel
theorem dL_law_358 : decode cL_law 358 = .ok (.iload_n 3, 1) := by decide +kernel
theorem dL_law_359 : decode cL_law 359 = .ok (.iconst 4, 1) := by decide +kernel
theorem dL_law_360 : decode cL_law 360 = .ok (.iadd, 1) := by decide +kernel
theorem dL_law_361 : decode cL_law 361 = .ok (.iaload, 1) := by decide +kernel
theorem dL_law_362 : decode cL_law 362 = .ok (.aload_n 0, 1) := by decide +kernel
theorem dL_law_363 : decode cL_law 363 = .ok (.iload_n 3, 1) := by decide +kernel
theorem dL_law_364 : decode cL_law 364 = .ok (.iconst 5, 1) := by decide +kernel
theorem dL_law_365 : decode cL_law 365 = .ok (.iadd, 1) := by decide +kernel
theorem dL_law_366 : decode cL_law 366 = .ok (.iaload, 1) := by decide +kernel
theorem dL_law_367 : decode cL_law 367 = .ok (.invokevirtual 27, 3) := by decide +kernel
theorem dL_law_370 : decode cL_law 370 = .ok (.if_icmp .eq 1206, 3) := by decide +kernel
theorem dL_law_373 : decode cL_law 373 = .ok (.iconst 0, 1) := by decide +kernel
theorem dL_law_374 : decode cL_law 374 = .ok (.ireturn, 1) := by decide +kernel
theorem dL_law_375 : decode cL_law 375 = .ok (.aload_n 1, 1) := by decide +kernel
theorem dL_law_376 : decode cL_law 376 = .ok (.aload_n 0, 1) := by decide +kernel
theorem dL_law_377 : decode cL_law 377 = .ok (.iload_n 3, 1) := by decide +kernel
theorem dL_law_378 : decode cL_law 378 = .ok (.iconst 1, 1) := by decide +kernel
theorem dL_law_379 : decode cL_law 379 = .ok (.iadd, 1) := by decide +kernel
theorem dL_law_380 : decode cL_law 380 = .ok (.iaload, 1) := by decide +kernel
theorem dL_law_381 : decode cL_law 381 = .ok (.invokevirtual 28, 3) := by decide +kernel
theorem dL_law_384 : decode cL_law 384 = .ok (.aload_n 2, 1) := by decide +kernel
theorem dL_law_385 : decode cL_law 385 = .ok (.aload_n 0, 1) := by decide +kernel
theorem dL_law_386 : decode cL_law 386 = .ok (.iload_n 3, 1) := by decide +kernel
theorem dL_law_387 : decode cL_law 387 = .ok (.iconst 1, 1) := by decide +kernel
theorem dL_law_388 : decode cL_law 388 = .ok (.iadd, 1) := by decide +kernel
theorem dL_law_389 : decode cL_law 389 = .ok (.iaload, 1) := by decide +kernel
theorem dL_law_390 : decode cL_law 390 = .ok (.invokevirtual 32, 3) := by decide +kernel
theorem dL_law_393 : decode cL_law 393 = .ok (.if_icmp .eq 1183, 3) := by decide +kernel
theorem dL_law_396 : decode cL_law 396 = .ok (.iconst 0, 1) := by decide +kernel
theorem dL_law_397 : decode cL_law 397 = .ok (.ireturn, 1) := by decide +kernel
theorem dL_law_398 : decode cL_law 398 = .ok (.aload_n 1, 1) := by decide +kernel
theorem dL_law_399 : decode cL_law 399 = .ok (.invokevirtual 33, 3) := by decide +kernel
theorem dL_law_402 : decode cL_law 402 = .ok (.aload_n 2, 1) := by decide +kernel
theorem dL_law_403 : decode cL_law 403 = .ok (.invokevirtual 37, 3) := by decide +kernel
theorem dL_law_406 : decode cL_law 406 = .ok (.if_icmp .eq 1170, 3) := by decide +kernel
theorem dL_law_409 : decode cL_law 409 = .ok (.iconst 0, 1) := by decide +kernel
theorem dL_law_410 : decode cL_law 410 = .ok (.ireturn, 1) := by decide +kernel
theorem dL_law_411 : decode cL_law 411 = .ok (.aload_n 1, 1) := by decide +kernel
theorem dL_law_412 : decode cL_law 412 = .ok (.aload_n 0, 1) := by decide +kernel
theorem dL_law_413 : decode cL_law 413 = .ok (.iload_n 3, 1) := by decide +kernel
theorem dL_law_414 : decode cL_law 414 = .ok (.iconst 1, 1) := by decide +kernel
theorem dL_law_415 : decode cL_law 415 = .ok (.iadd, 1) := by decide +kernel
theorem dL_law_416 : decode cL_law 416 = .ok (.iaload, 1) := by decide +kernel
theorem dL_law_417 : decode cL_law 417 = .ok (.invokevirtual 38, 3) := by decide +kernel
theorem dL_law_420 : decode cL_law 420 = .ok (.aload_n 2, 1) := by decide +kernel
theorem dL_law_421 : decode cL_law 421 = .ok (.aload_n 0, 1) := by decide +kernel
theorem dL_law_422 : decode cL_law 422 = .ok (.iload_n 3, 1) := by decide +kernel
theorem dL_law_423 : decode cL_law 423 = .ok (.iconst 1, 1) := by decide +kernel
theorem dL_law_424 : decode cL_law 424 = .ok (.iadd, 1) := by decide +kernel
theorem dL_law_425 : decode cL_law 425 = .ok (.iaload, 1) := by decide +kernel
theorem dL_law_426 : decode cL_law 426 = .ok (.invokevirtual 41, 3) := by decide +kernel
theorem dL_law_429 : decode cL_law 429 = .ok (.if_icmp .eq 1147, 3) := by decide +kernel
theorem dL_law_432 : decode cL_law 432 = .ok (.iconst 0, 1) := by decide +kernel
theorem dL_law_433 : decode cL_law 433 = .ok (.ireturn, 1) := by decide +kernel
theorem dL_law_434 : decode cL_law 434 = .ok (.aload_n 1, 1) := by decide +kernel
theorem dL_law_435 : decode cL_law 435 = .ok (.aload_n 0, 1) := by decide +kernel
theorem dL_law_436 : decode cL_law 436 = .ok (.iload_n 3, 1) := by decide +kernel
theorem dL_law_437 : decode cL_law 437 = .ok (.iconst 1, 1) := by decide +kernel
theorem dL_law_438 : decode cL_law 438 = .ok (.iadd, 1) := by decide +kernel
theorem dL_law_439 : decode cL_law 439 = .ok (.iaload, 1) := by decide +kernel
theorem dL_law_440 : decode cL_law 440 = .ok (.invokevirtual 42, 3) := by decide +kernel
theorem dL_law_443 : decode cL_law 443 = .ok (.aload_n 2, 1) := by decide +kernel
theorem dL_law_444 : decode cL_law 444 = .ok (.aload_n 0, 1) := by decide +kernel
theorem dL_law_445 : decode cL_law 445 = .ok (.iload_n 3, 1) := by decide +kernel
theorem dL_law_446 : decode cL_law 446 = .ok (.iconst 1, 1) := by decide +kernel
theorem dL_law_447 : decode cL_law 447 = .ok (.iadd, 1) := by decide +kernel
theorem dL_law_448 : decode cL_law 448 = .ok (.iaload, 1) := by decide +kernel
theorem dL_law_449 : decode cL_law 449 = .ok (.invokevirtual 46, 3) := by decide +kernel
theorem dL_law_452 : decode cL_law 452 = .ok (.if_icmp .eq 1124, 3) := by decide +kernel
theorem dL_law_455 : decode cL_law 455 = .ok (.iconst 0, 1) := by decide +kernel
theorem dL_law_456 : decode cL_law 456 = .ok (.ireturn, 1) := by decide +kernel
theorem dL_law_457 : decode cL_law 457 = .ok (.aload_n 1, 1) := by decide +kernel
theorem dL_law_458 : decode cL_law 458 = .ok (.aload_n 0, 1) := by decide +kernel
theorem dL_law_459 : decode cL_law 459 = .ok (.iload_n 3, 1) := by decide +kernel
theorem dL_law_460 : decode cL_law 460 = .ok (.iconst 1, 1) := by decide +kernel
theorem dL_law_461 : decode cL_law 461 = .ok (.iadd, 1) := by decide +kernel
theorem dL_law_462 : decode cL_law 462 = .ok (.iaload, 1) := by decide +kernel
theorem dL_law_463 : decode cL_law 463 = .ok (.aload_n 0, 1) := by decide +kernel
theorem dL_law_464 : decode cL_law 464 = .ok (.iload_n 3, 1) := by decide +kernel
theorem dL_law_465 : decode cL_law 465 = .ok (.iconst 2, 1) := by decide +kernel
theorem dL_law_466 : decode cL_law 466 = .ok (.iadd, 1) := by decide +kernel
theorem dL_law_467 : decode cL_law 467 = .ok (.iaload, 1) := by decide +kernel
theorem dL_law_468 : decode cL_law 468 = .ok (.aload_n 0, 1) := by decide +kernel
theorem dL_law_469 : decode cL_law 469 = .ok (.iload_n 3, 1) := by decide +kernel
theorem dL_law_470 : decode cL_law 470 = .ok (.iconst 3, 1) := by decide +kernel
theorem dL_law_471 : decode cL_law 471 = .ok (.iadd, 1) := by decide +kernel
theorem dL_law_472 : decode cL_law 472 = .ok (.iaload, 1) := by decide +kernel
theorem dL_law_473 : decode cL_law 473 = .ok (.invokevirtual 47, 3) := by decide +kernel
theorem dL_law_476 : decode cL_law 476 = .ok (.aload_n 2, 1) := by decide +kernel
theorem dL_law_477 : decode cL_law 477 = .ok (.aload_n 0, 1) := by decide +kernel
theorem dL_law_478 : decode cL_law 478 = .ok (.iload_n 3, 1) := by decide +kernel
theorem dL_law_479 : decode cL_law 479 = .ok (.iconst 1, 1) := by decide +kernel
theorem dL_law_480 : decode cL_law 480 = .ok (.iadd, 1) := by decide +kernel
theorem dL_law_481 : decode cL_law 481 = .ok (.iaload, 1) := by decide +kernel
theorem dL_law_482 : decode cL_law 482 = .ok (.aload_n 0, 1) := by decide +kernel
theorem dL_law_483 : decode cL_law 483 = .ok (.iload_n 3, 1) := by decide +kernel
theorem dL_law_484 : decode cL_law 484 = .ok (.iconst 2, 1) := by decide +kernel
theorem dL_law_485 : decode cL_law 485 = .ok (.iadd, 1) := by decide +kernel
theorem dL_law_486 : decode cL_law 486 = .ok (.iaload, 1) := by decide +kernel
theorem dL_law_487 : decode cL_law 487 = .ok (.aload_n 0, 1) := by decide +kernel
theorem dL_law_488 : decode cL_law 488 = .ok (.iload_n 3, 1) := by decide +kernel
theorem dL_law_489 : decode cL_law 489 = .ok (.iconst 3, 1) := by decide +kernel
theorem dL_law_490 : decode cL_law 490 = .ok (.iadd, 1) := by decide +kernel
theorem dL_law_491 : decode cL_law 491 = .ok (.iaload, 1) := by decide +kernel
theorem dL_law_492 : decode cL_law 492 = .ok (.invokevirtual 51, 3) := by decide +kernel
theorem dL_law_495 : decode cL_law 495 = .ok (.if_icmp .eq 1081, 3) := by decide +kernel
theorem dL_law_498 : decode cL_law 498 = .ok (.iconst 0, 1) := by decide +kernel
theorem dL_law_499 : decode cL_law 499 = .ok (.ireturn, 1) := by decide +kernel
theorem dL_law_500 : decode cL_law 500 = .ok (.aload_n 1, 1) := by decide +kernel
theorem dL_law_501 : decode cL_law 501 = .ok (.aload_n 0, 1) := by decide +kernel
theorem dL_law_502 : decode cL_law 502 = .ok (.iload_n 3, 1) := by decide +kernel
theorem dL_law_503 : decode cL_law 503 = .ok (.iconst 1, 1) := by decide +kernel
theorem dL_law_504 : decode cL_law 504 = .ok (.iadd, 1) := by decide +kernel
theorem dL_law_505 : decode cL_law 505 = .ok (.iaload, 1) := by decide +kernel
theorem dL_law_506 : decode cL_law 506 = .ok (.aload_n 0, 1) := by decide +kernel
theorem dL_law_507 : decode cL_law 507 = .ok (.iload_n 3, 1) := by decide +kernel
theorem dL_law_508 : decode cL_law 508 = .ok (.iconst 2, 1) := by decide +kernel
theorem dL_law_509 : decode cL_law 509 = .ok (.iadd, 1) := by decide +kernel
theorem dL_law_510 : decode cL_law 510 = .ok (.iaload, 1) := by decide +kernel
theorem dL_law_511 : decode cL_law 511 = .ok (.invokevirtual 52, 3) := by decide +kernel
theorem dL_law_514 : decode cL_law 514 = .ok (.aload_n 2, 1) := by decide +kernel
theorem dL_law_515 : decode cL_law 515 = .ok (.aload_n 0, 1) := by decide +kernel
theorem dL_law_516 : decode cL_law 516 = .ok (.iload_n 3, 1) := by decide +kernel
theorem dL_law_517 : decode cL_law 517 = .ok (.iconst 1, 1) := by decide +kernel
theorem dL_law_518 : decode cL_law 518 = .ok (.iadd, 1) := by decide +kernel
theorem dL_law_519 : decode cL_law 519 = .ok (.iaload, 1) := by decide +kernel
theorem dL_law_520 : decode cL_law 520 = .ok (.aload_n 0, 1) := by decide +kernel
theorem dL_law_521 : decode cL_law 521 = .ok (.iload_n 3, 1) := by decide +kernel
theorem dL_law_522 : decode cL_law 522 = .ok (.iconst 2, 1) := by decide +kernel
theorem dL_law_523 : decode cL_law 523 = .ok (.iadd, 1) := by decide +kernel
theorem dL_law_524 : decode cL_law 524 = .ok (.iaload, 1) := by decide +kernel
theorem dL_law_525 : decode cL_law 525 = .ok (.invokevirtual 56, 3) := by decide +kernel
theorem dL_law_528 : decode cL_law 528 = .ok (.if_icmp .eq 1048, 3) := by decide +kernel
theorem dL_law_531 : decode cL_law 531 = .ok (.iconst 0, 1) := by decide +kernel
theorem dL_law_532 : decode cL_law 532 = .ok (.ireturn, 1) := by decide +kernel
theorem dL_law_533 : decode cL_law 533 = .ok (.aload_n 1, 1) := by decide +kernel
theorem dL_law_534 : decode cL_law 534 = .ok (.aload_n 0, 1) := by decide +kernel
theorem dL_law_535 : decode cL_law 535 = .ok (.iload_n 3, 1) := by decide +kernel
theorem dL_law_536 : decode cL_law 536 = .ok (.iconst 1, 1) := by decide +kernel
theorem dL_law_537 : decode cL_law 537 = .ok (.iadd, 1) := by decide +kernel
theorem dL_law_538 : decode cL_law 538 = .ok (.iaload, 1) := by decide +kernel
theorem dL_law_539 : decode cL_law 539 = .ok (.invokevirtual 57, 3) := by decide +kernel
theorem dL_law_542 : decode cL_law 542 = .ok (.aload_n 2, 1) := by decide +kernel
theorem dL_law_543 : decode cL_law 543 = .ok (.aload_n 0, 1) := by decide +kernel
theorem dL_law_544 : decode cL_law 544 = .ok (.iload_n 3, 1) := by decide +kernel
theorem dL_law_545 : decode cL_law 545 = .ok (.iconst 1, 1) := by decide +kernel
theorem dL_law_546 : decode cL_law 546 = .ok (.iadd, 1) := by decide +kernel
theorem dL_law_547 : decode cL_law 547 = .ok (.iaload, 1) := by decide +kernel
theorem dL_law_548 : decode cL_law 548 = .ok (.invokevirtual 60, 3) := by decide +kernel
theorem dL_law_551 : decode cL_law 551 = .ok (.if_icmp .eq 1025, 3) := by decide +kernel
theorem dL_law_554 : decode cL_law 554 = .ok (.iconst 0, 1) := by decide +kernel
theorem dL_law_555 : decode cL_law 555 = .ok (.ireturn, 1) := by decide +kernel
theorem dL_law_556 : decode cL_law 556 = .ok (.aload_n 1, 1) := by decide +kernel
theorem dL_law_557 : decode cL_law 557 = .ok (.aload_n 0, 1) := by decide +kernel
theorem dL_law_558 : decode cL_law 558 = .ok (.iload_n 3, 1) := by decide +kernel
theorem dL_law_559 : decode cL_law 559 = .ok (.iconst 1, 1) := by decide +kernel
theorem dL_law_560 : decode cL_law 560 = .ok (.iadd, 1) := by decide +kernel
theorem dL_law_561 : decode cL_law 561 = .ok (.iaload, 1) := by decide +kernel
theorem dL_law_562 : decode cL_law 562 = .ok (.invokevirtual 61, 3) := by decide +kernel
theorem dL_law_565 : decode cL_law 565 = .ok (.aload_n 2, 1) := by decide +kernel
theorem dL_law_566 : decode cL_law 566 = .ok (.aload_n 0, 1) := by decide +kernel
theorem dL_law_567 : decode cL_law 567 = .ok (.iload_n 3, 1) := by decide +kernel
theorem dL_law_568 : decode cL_law 568 = .ok (.iconst 1, 1) := by decide +kernel
theorem dL_law_569 : decode cL_law 569 = .ok (.iadd, 1) := by decide +kernel
theorem dL_law_570 : decode cL_law 570 = .ok (.iaload, 1) := by decide +kernel
theorem dL_law_571 : decode cL_law 571 = .ok (.invokevirtual 64, 3) := by decide +kernel
theorem dL_law_574 : decode cL_law 574 = .ok (.if_icmp .eq 1002, 3) := by decide +kernel
theorem dL_law_577 : decode cL_law 577 = .ok (.iconst 0, 1) := by decide +kernel
theorem dL_law_578 : decode cL_law 578 = .ok (.ireturn, 1) := by decide +kernel
theorem dL_law_579 : decode cL_law 579 = .ok (.aload_n 1, 1) := by decide +kernel
theorem dL_law_580 : decode cL_law 580 = .ok (.aload_n 0, 1) := by decide +kernel
theorem dL_law_581 : decode cL_law 581 = .ok (.iload_n 3, 1) := by decide +kernel
theorem dL_law_582 : decode cL_law 582 = .ok (.iconst 1, 1) := by decide +kernel
theorem dL_law_583 : decode cL_law 583 = .ok (.iadd, 1) := by decide +kernel
theorem dL_law_584 : decode cL_law 584 = .ok (.iaload, 1) := by decide +kernel
theorem dL_law_585 : decode cL_law 585 = .ok (.invokevirtual 65, 3) := by decide +kernel
theorem dL_law_588 : decode cL_law 588 = .ok (.aload_n 2, 1) := by decide +kernel
theorem dL_law_589 : decode cL_law 589 = .ok (.aload_n 0, 1) := by decide +kernel
theorem dL_law_590 : decode cL_law 590 = .ok (.iload_n 3, 1) := by decide +kernel
theorem dL_law_591 : decode cL_law 591 = .ok (.iconst 1, 1) := by decide +kernel
theorem dL_law_592 : decode cL_law 592 = .ok (.iadd, 1) := by decide +kernel
theorem dL_law_593 : decode cL_law 593 = .ok (.iaload, 1) := by decide +kernel
theorem dL_law_594 : decode cL_law 594 = .ok (.invokevirtual 68, 3) := by decide +kernel
theorem dL_law_597 : decode cL_law 597 = .ok (.if_icmp .eq 979, 3) := by decide +kernel
theorem dL_law_600 : decode cL_law 600 = .ok (.iconst 0, 1) := by decide +kernel
theorem dL_law_601 : decode cL_law 601 = .ok (.ireturn, 1) := by decide +kernel
theorem dL_law_602 : decode cL_law 602 = .ok (.aload_n 1, 1) := by decide +kernel
theorem dL_law_603 : decode cL_law 603 = .ok (.aload_n 0, 1) := by decide +kernel
theorem dL_law_604 : decode cL_law 604 = .ok (.iload_n 3, 1) := by decide +kernel
theorem dL_law_605 : decode cL_law 605 = .ok (.iconst 1, 1) := by decide +kernel
theorem dL_law_606 : decode cL_law 606 = .ok (.iadd, 1) := by decide +kernel
theorem dL_law_607 : decode cL_law 607 = .ok (.iaload, 1) := by decide +kernel
theorem dL_law_608 : decode cL_law 608 = .ok (.aload_n 0, 1) := by decide +kernel
theorem dL_law_609 : decode cL_law 609 = .ok (.iload_n 3, 1) := by decide +kernel
theorem dL_law_610 : decode cL_law 610 = .ok (.iconst 2, 1) := by decide +kernel
theorem dL_law_611 : decode cL_law 611 = .ok (.iadd, 1) := by decide +kernel
theorem dL_law_612 : decode cL_law 612 = .ok (.iaload, 1) := by decide +kernel
theorem dL_law_613 : decode cL_law 613 = .ok (.invokevirtual 69, 3) := by decide +kernel
theorem dL_law_616 : decode cL_law 616 = .ok (.aload_n 2, 1) := by decide +kernel
theorem dL_law_617 : decode cL_law 617 = .ok (.aload_n 0, 1) := by decide +kernel
theorem dL_law_618 : decode cL_law 618 = .ok (.iload_n 3, 1) := by decide +kernel
theorem dL_law_619 : decode cL_law 619 = .ok (.iconst 1, 1) := by decide +kernel
theorem dL_law_620 : decode cL_law 620 = .ok (.iadd, 1) := by decide +kernel
theorem dL_law_621 : decode cL_law 621 = .ok (.iaload, 1) := by decide +kernel
theorem dL_law_622 : decode cL_law 622 = .ok (.aload_n 0, 1) := by decide +kernel
theorem dL_law_623 : decode cL_law 623 = .ok (.iload_n 3, 1) := by decide +kernel
theorem dL_law_624 : decode cL_law 624 = .ok (.iconst 2, 1) := by decide +kernel
theorem dL_law_625 : decode cL_law 625 = .ok (.iadd, 1) := by decide +kernel
theorem dL_law_626 : decode cL_law 626 = .ok (.iaload, 1) := by decide +kernel
theorem dL_law_627 : decode cL_law 627 = .ok (.invokevirtual 72, 3) := by decide +kernel
theorem dL_law_630 : decode cL_law 630 = .ok (.if_icmp .eq 946, 3) := by decide +kernel
theorem dL_law_633 : decode cL_law 633 = .ok (.iconst 0, 1) := by decide +kernel
theorem dL_law_634 : decode cL_law 634 = .ok (.ireturn, 1) := by decide +kernel
theorem dL_law_635 : decode cL_law 635 = .ok (.aload_n 1, 1) := by decide +kernel
theorem dL_law_636 : decode cL_law 636 = .ok (.invokevirtual 73, 3) := by decide +kernel
theorem dL_law_639 : decode cL_law 639 = .ok (.aload_n 2, 1) := by decide +kernel
theorem dL_law_640 : decode cL_law 640 = .ok (.invokevirtual 76, 3) := by decide +kernel
theorem dL_law_643 : decode cL_law 643 = .ok (.if_icmp .eq 933, 3) := by decide +kernel
theorem dL_law_646 : decode cL_law 646 = .ok (.iconst 0, 1) := by decide +kernel
theorem dL_law_647 : decode cL_law 647 = .ok (.ireturn, 1) := by decide +kernel
theorem dL_law_648 : decode cL_law 648 = .ok (.aload_n 1, 1) := by decide +kernel
theorem dL_law_649 : decode cL_law 649 = .ok (.aload_n 0, 1) := by decide +kernel
theorem dL_law_650 : decode cL_law 650 = .ok (.iload_n 3, 1) := by decide +kernel
theorem dL_law_651 : decode cL_law 651 = .ok (.iconst 1, 1) := by decide +kernel
theorem dL_law_652 : decode cL_law 652 = .ok (.iadd, 1) := by decide +kernel
theorem dL_law_653 : decode cL_law 653 = .ok (.iaload, 1) := by decide +kernel
theorem dL_law_654 : decode cL_law 654 = .ok (.aload_n 0, 1) := by decide +kernel
theorem dL_law_655 : decode cL_law 655 = .ok (.iload_n 3, 1) := by decide +kernel
theorem dL_law_656 : decode cL_law 656 = .ok (.iconst 2, 1) := by decide +kernel
theorem dL_law_657 : decode cL_law 657 = .ok (.iadd, 1) := by decide +kernel
theorem dL_law_658 : decode cL_law 658 = .ok (.iaload, 1) := by decide +kernel
theorem dL_law_659 : decode cL_law 659 = .ok (.invokevirtual 77, 3) := by decide +kernel
theorem dL_law_662 : decode cL_law 662 = .ok (.aload_n 2, 1) := by decide +kernel
theorem dL_law_663 : decode cL_law 663 = .ok (.aload_n 0, 1) := by decide +kernel
theorem dL_law_664 : decode cL_law 664 = .ok (.iload_n 3, 1) := by decide +kernel
theorem dL_law_665 : decode cL_law 665 = .ok (.iconst 1, 1) := by decide +kernel
theorem dL_law_666 : decode cL_law 666 = .ok (.iadd, 1) := by decide +kernel
theorem dL_law_667 : decode cL_law 667 = .ok (.iaload, 1) := by decide +kernel
theorem dL_law_668 : decode cL_law 668 = .ok (.aload_n 0, 1) := by decide +kernel
theorem dL_law_669 : decode cL_law 669 = .ok (.iload_n 3, 1) := by decide +kernel
theorem dL_law_670 : decode cL_law 670 = .ok (.iconst 2, 1) := by decide +kernel
theorem dL_law_671 : decode cL_law 671 = .ok (.iadd, 1) := by decide +kernel
theorem dL_law_672 : decode cL_law 672 = .ok (.iaload, 1) := by decide +kernel
theorem dL_law_673 : decode cL_law 673 = .ok (.invokevirtual 80, 3) := by decide +kernel
theorem dL_law_676 : decode cL_law 676 = .ok (.if_icmp .eq 900, 3) := by decide +kernel
theorem dL_law_679 : decode cL_law 679 = .ok (.iconst 0, 1) := by decide +kernel
theorem dL_law_680 : decode cL_law 680 = .ok (.ireturn, 1) := by decide +kernel
theorem dL_law_681 : decode cL_law 681 = .ok (.aload_n 1, 1) := by decide +kernel
theorem dL_law_682 : decode cL_law 682 = .ok (.aload_n 0, 1) := by decide +kernel
theorem dL_law_683 : decode cL_law 683 = .ok (.iload_n 3, 1) := by decide +kernel
theorem dL_law_684 : decode cL_law 684 = .ok (.iconst 1, 1) := by decide +kernel
theorem dL_law_685 : decode cL_law 685 = .ok (.iadd, 1) := by decide +kernel
theorem dL_law_686 : decode cL_law 686 = .ok (.iaload, 1) := by decide +kernel
theorem dL_law_687 : decode cL_law 687 = .ok (.aload_n 0, 1) := by decide +kernel
theorem dL_law_688 : decode cL_law 688 = .ok (.iload_n 3, 1) := by decide +kernel
theorem dL_law_689 : decode cL_law 689 = .ok (.iconst 2, 1) := by decide +kernel
theorem dL_law_690 : decode cL_law 690 = .ok (.iadd, 1) := by decide +kernel
theorem dL_law_691 : decode cL_law 691 = .ok (.iaload, 1) := by decide +kernel
theorem dL_law_692 : decode cL_law 692 = .ok (.invokevirtual 81, 3) := by decide +kernel
theorem dL_law_695 : decode cL_law 695 = .ok (.aload_n 2, 1) := by decide +kernel
theorem dL_law_696 : decode cL_law 696 = .ok (.aload_n 0, 1) := by decide +kernel
theorem dL_law_697 : decode cL_law 697 = .ok (.iload_n 3, 1) := by decide +kernel
theorem dL_law_698 : decode cL_law 698 = .ok (.iconst 1, 1) := by decide +kernel
theorem dL_law_699 : decode cL_law 699 = .ok (.iadd, 1) := by decide +kernel
theorem dL_law_700 : decode cL_law 700 = .ok (.iaload, 1) := by decide +kernel
theorem dL_law_701 : decode cL_law 701 = .ok (.aload_n 0, 1) := by decide +kernel
theorem dL_law_702 : decode cL_law 702 = .ok (.iload_n 3, 1) := by decide +kernel
theorem dL_law_703 : decode cL_law 703 = .ok (.iconst 2, 1) := by decide +kernel
theorem dL_law_704 : decode cL_law 704 = .ok (.iadd, 1) := by decide +kernel
theorem dL_law_705 : decode cL_law 705 = .ok (.iaload, 1) := by decide +kernel
theorem dL_law_706 : decode cL_law 706 = .ok (.invokevirtual 84, 3) := by decide +kernel
theorem dL_law_709 : decode cL_law 709 = .ok (.if_icmp .eq 867, 3) := by decide +kernel
theorem dL_law_712 : decode cL_law 712 = .ok (.iconst 0, 1) := by decide +kernel
theorem dL_law_713 : decode cL_law 713 = .ok (.ireturn, 1) := by decide +kernel
theorem dL_law_714 : decode cL_law 714 = .ok (.aload_n 1, 1) := by decide +kernel
theorem dL_law_715 : decode cL_law 715 = .ok (.aload_n 0, 1) := by decide +kernel
theorem dL_law_716 : decode cL_law 716 = .ok (.iload_n 3, 1) := by decide +kernel
theorem dL_law_717 : decode cL_law 717 = .ok (.iconst 1, 1) := by decide +kernel
theorem dL_law_718 : decode cL_law 718 = .ok (.iadd, 1) := by decide +kernel
theorem dL_law_719 : decode cL_law 719 = .ok (.iaload, 1) := by decide +kernel
theorem dL_law_720 : decode cL_law 720 = .ok (.aload_n 0, 1) := by decide +kernel
theorem dL_law_721 : decode cL_law 721 = .ok (.iload_n 3, 1) := by decide +kernel
theorem dL_law_722 : decode cL_law 722 = .ok (.iconst 2, 1) := by decide +kernel
theorem dL_law_723 : decode cL_law 723 = .ok (.iadd, 1) := by decide +kernel
theorem dL_law_724 : decode cL_law 724 = .ok (.iaload, 1) := by decide +kernel
theorem dL_law_725 : decode cL_law 725 = .ok (.invokevirtual 85, 3) := by decide +kernel
theorem dL_law_728 : decode cL_law 728 = .ok (.aload_n 2, 1) := by decide +kernel
theorem dL_law_729 : decode cL_law 729 = .ok (.aload_n 0, 1) := by decide +kernel
theorem dL_law_730 : decode cL_law 730 = .ok (.iload_n 3, 1) := by decide +kernel
theorem dL_law_731 : decode cL_law 731 = .ok (.iconst 1, 1) := by decide +kernel
theorem dL_law_732 : decode cL_law 732 = .ok (.iadd, 1) := by decide +kernel
theorem dL_law_733 : decode cL_law 733 = .ok (.iaload, 1) := by decide +kernel
theorem dL_law_734 : decode cL_law 734 = .ok (.aload_n 0, 1) := by decide +kernel
theorem dL_law_735 : decode cL_law 735 = .ok (.iload_n 3, 1) := by decide +kernel
theorem dL_law_736 : decode cL_law 736 = .ok (.iconst 2, 1) := by decide +kernel
theorem dL_law_737 : decode cL_law 737 = .ok (.iadd, 1) := by decide +kernel
theorem dL_law_738 : decode cL_law 738 = .ok (.iaload, 1) := by decide +kernel
theorem dL_law_739 : decode cL_law 739 = .ok (.invokevirtual 88, 3) := by decide +kernel
theorem dL_law_742 : decode cL_law 742 = .ok (.if_icmp .eq 834, 3) := by decide +kernel
theorem dL_law_745 : decode cL_law 745 = .ok (.iconst 0, 1) := by decide +kernel
theorem dL_law_746 : decode cL_law 746 = .ok (.ireturn, 1) := by decide +kernel
theorem dL_law_747 : decode cL_law 747 = .ok (.aload_n 1, 1) := by decide +kernel
theorem dL_law_748 : decode cL_law 748 = .ok (.aload_n 0, 1) := by decide +kernel
theorem dL_law_749 : decode cL_law 749 = .ok (.iload_n 3, 1) := by decide +kernel
theorem dL_law_750 : decode cL_law 750 = .ok (.iconst 1, 1) := by decide +kernel
theorem dL_law_751 : decode cL_law 751 = .ok (.iadd, 1) := by decide +kernel
theorem dL_law_752 : decode cL_law 752 = .ok (.iaload, 1) := by decide +kernel
theorem dL_law_753 : decode cL_law 753 = .ok (.invokevirtual 89, 3) := by decide +kernel
theorem dL_law_756 : decode cL_law 756 = .ok (.aload_n 2, 1) := by decide +kernel
theorem dL_law_757 : decode cL_law 757 = .ok (.aload_n 0, 1) := by decide +kernel
theorem dL_law_758 : decode cL_law 758 = .ok (.iload_n 3, 1) := by decide +kernel
theorem dL_law_759 : decode cL_law 759 = .ok (.iconst 1, 1) := by decide +kernel
theorem dL_law_760 : decode cL_law 760 = .ok (.iadd, 1) := by decide +kernel
theorem dL_law_761 : decode cL_law 761 = .ok (.iaload, 1) := by decide +kernel
theorem dL_law_762 : decode cL_law 762 = .ok (.invokevirtual 92, 3) := by decide +kernel
theorem dL_law_765 : decode cL_law 765 = .ok (.if_icmp .eq 811, 3) := by decide +kernel
theorem dL_law_768 : decode cL_law 768 = .ok (.iconst 0, 1) := by decide +kernel
theorem dL_law_769 : decode cL_law 769 = .ok (.ireturn, 1) := by decide +kernel
theorem dL_law_770 : decode cL_law 770 = .ok (.aload_n 1, 1) := by decide +kernel
theorem dL_law_771 : decode cL_law 771 = .ok (.aload_n 0, 1) := by decide +kernel
theorem dL_law_772 : decode cL_law 772 = .ok (.iload_n 3, 1) := by decide +kernel
theorem dL_law_773 : decode cL_law 773 = .ok (.iconst 1, 1) := by decide +kernel
theorem dL_law_774 : decode cL_law 774 = .ok (.iadd, 1) := by decide +kernel
theorem dL_law_775 : decode cL_law 775 = .ok (.iaload, 1) := by decide +kernel
theorem dL_law_776 : decode cL_law 776 = .ok (.aload_n 0, 1) := by decide +kernel
theorem dL_law_777 : decode cL_law 777 = .ok (.iload_n 3, 1) := by decide +kernel
theorem dL_law_778 : decode cL_law 778 = .ok (.iconst 2, 1) := by decide +kernel
theorem dL_law_779 : decode cL_law 779 = .ok (.iadd, 1) := by decide +kernel
theorem dL_law_780 : decode cL_law 780 = .ok (.iaload, 1) := by decide +kernel
theorem dL_law_781 : decode cL_law 781 = .ok (.invokevirtual 93, 3) := by decide +kernel
theorem dL_law_784 : decode cL_law 784 = .ok (.aload_n 2, 1) := by decide +kernel
theorem dL_law_785 : decode cL_law 785 = .ok (.aload_n 0, 1) := by decide +kernel
theorem dL_law_786 : decode cL_law 786 = .ok (.iload_n 3, 1) := by decide +kernel
theorem dL_law_787 : decode cL_law 787 = .ok (.iconst 1, 1) := by decide +kernel
theorem dL_law_788 : decode cL_law 788 = .ok (.iadd, 1) := by decide +kernel
theorem dL_law_789 : decode cL_law 789 = .ok (.iaload, 1) := by decide +kernel
theorem dL_law_790 : decode cL_law 790 = .ok (.aload_n 0, 1) := by decide +kernel
theorem dL_law_791 : decode cL_law 791 = .ok (.iload_n 3, 1) := by decide +kernel
theorem dL_law_792 : decode cL_law 792 = .ok (.iconst 2, 1) := by decide +kernel
theorem dL_law_793 : decode cL_law 793 = .ok (.iadd, 1) := by decide +kernel
theorem dL_law_794 : decode cL_law 794 = .ok (.iaload, 1) := by decide +kernel
theorem dL_law_795 : decode cL_law 795 = .ok (.invokevirtual 96, 3) := by decide +kernel
theorem dL_law_798 : decode cL_law 798 = .ok (.if_icmp .eq 778, 3) := by decide +kernel
theorem dL_law_801 : decode cL_law 801 = .ok (.iconst 0, 1) := by decide +kernel
theorem dL_law_802 : decode cL_law 802 = .ok (.ireturn, 1) := by decide +kernel
theorem dL_law_803 : decode cL_law 803 = .ok (.aload_n 1, 1) := by decide +kernel
theorem dL_law_804 : decode cL_law 804 = .ok (.aload_n 0, 1) := by decide +kernel
theorem dL_law_805 : decode cL_law 805 = .ok (.iload_n 3, 1) := by decide +kernel
theorem dL_law_806 : decode cL_law 806 = .ok (.iconst 1, 1) := by decide +kernel
theorem dL_law_807 : decode cL_law 807 = .ok (.iadd, 1) := by decide +kernel
theorem dL_law_808 : decode cL_law 808 = .ok (.iaload, 1) := by decide +kernel
theorem dL_law_809 : decode cL_law 809 = .ok (.aload_n 0, 1) := by decide +kernel
theorem dL_law_810 : decode cL_law 810 = .ok (.iload_n 3, 1) := by decide +kernel
theorem dL_law_811 : decode cL_law 811 = .ok (.iconst 2, 1) := by decide +kernel
theorem dL_law_812 : decode cL_law 812 = .ok (.iadd, 1) := by decide +kernel
theorem dL_law_813 : decode cL_law 813 = .ok (.iaload, 1) := by decide +kernel
theorem dL_law_814 : decode cL_law 814 = .ok (.aload_n 0, 1) := by decide +kernel
theorem dL_law_815 : decode cL_law 815 = .ok (.iload_n 3, 1) := by decide +kernel
theorem dL_law_816 : decode cL_law 816 = .ok (.iconst 3, 1) := by decide +kernel
theorem dL_law_817 : decode cL_law 817 = .ok (.iadd, 1) := by decide +kernel
theorem dL_law_818 : decode cL_law 818 = .ok (.iaload, 1) := by decide +kernel
theorem dL_law_819 : decode cL_law 819 = .ok (.invokevirtual 97, 3) := by decide +kernel
theorem dL_law_822 : decode cL_law 822 = .ok (.aload_n 2, 1) := by decide +kernel
theorem dL_law_823 : decode cL_law 823 = .ok (.aload_n 0, 1) := by decide +kernel
theorem dL_law_824 : decode cL_law 824 = .ok (.iload_n 3, 1) := by decide +kernel
theorem dL_law_825 : decode cL_law 825 = .ok (.iconst 1, 1) := by decide +kernel
theorem dL_law_826 : decode cL_law 826 = .ok (.iadd, 1) := by decide +kernel
theorem dL_law_827 : decode cL_law 827 = .ok (.iaload, 1) := by decide +kernel
theorem dL_law_828 : decode cL_law 828 = .ok (.aload_n 0, 1) := by decide +kernel
theorem dL_law_829 : decode cL_law 829 = .ok (.iload_n 3, 1) := by decide +kernel
theorem dL_law_830 : decode cL_law 830 = .ok (.iconst 2, 1) := by decide +kernel
theorem dL_law_831 : decode cL_law 831 = .ok (.iadd, 1) := by decide +kernel
theorem dL_law_832 : decode cL_law 832 = .ok (.iaload, 1) := by decide +kernel
theorem dL_law_833 : decode cL_law 833 = .ok (.aload_n 0, 1) := by decide +kernel
theorem dL_law_834 : decode cL_law 834 = .ok (.iload_n 3, 1) := by decide +kernel
theorem dL_law_835 : decode cL_law 835 = .ok (.iconst 3, 1) := by decide +kernel
theorem dL_law_836 : decode cL_law 836 = .ok (.iadd, 1) := by decide +kernel
theorem dL_law_837 : decode cL_law 837 = .ok (.iaload, 1) := by decide +kernel
theorem dL_law_838 : decode cL_law 838 = .ok (.invokevirtual 100, 3) := by decide +kernel
theorem dL_law_841 : decode cL_law 841 = .ok (.if_icmp .eq 735, 3) := by decide +kernel
theorem dL_law_844 : decode cL_law 844 = .ok (.iconst 0, 1) := by decide +kernel
theorem dL_law_845 : decode cL_law 845 = .ok (.ireturn, 1) := by decide +kernel
theorem dL_law_846 : decode cL_law 846 = .ok (.aload_n 1, 1) := by decide +kernel
theorem dL_law_847 : decode cL_law 847 = .ok (.aload_n 0, 1) := by decide +kernel
theorem dL_law_848 : decode cL_law 848 = .ok (.iload_n 3, 1) := by decide +kernel
theorem dL_law_849 : decode cL_law 849 = .ok (.iconst 1, 1) := by decide +kernel
theorem dL_law_850 : decode cL_law 850 = .ok (.iadd, 1) := by decide +kernel
theorem dL_law_851 : decode cL_law 851 = .ok (.iaload, 1) := by decide +kernel
theorem dL_law_852 : decode cL_law 852 = .ok (.invokevirtual 101, 3) := by decide +kernel
theorem dL_law_855 : decode cL_law 855 = .ok (.aload_n 2, 1) := by decide +kernel
theorem dL_law_856 : decode cL_law 856 = .ok (.aload_n 0, 1) := by decide +kernel
theorem dL_law_857 : decode cL_law 857 = .ok (.iload_n 3, 1) := by decide +kernel
theorem dL_law_858 : decode cL_law 858 = .ok (.iconst 1, 1) := by decide +kernel
theorem dL_law_859 : decode cL_law 859 = .ok (.iadd, 1) := by decide +kernel
theorem dL_law_860 : decode cL_law 860 = .ok (.iaload, 1) := by decide +kernel
theorem dL_law_861 : decode cL_law 861 = .ok (.invokevirtual 104, 3) := by decide +kernel
theorem dL_law_864 : decode cL_law 864 = .ok (.if_icmp .eq 712, 3) := by decide +kernel
theorem dL_law_867 : decode cL_law 867 = .ok (.iconst 0, 1) := by decide +kernel
theorem dL_law_868 : decode cL_law 868 = .ok (.ireturn, 1) := by decide +kernel
theorem dL_law_869 : decode cL_law 869 = .ok (.aload_n 1, 1) := by decide +kernel
theorem dL_law_870 : decode cL_law 870 = .ok (.aload_n 0, 1) := by decide +kernel
theorem dL_law_871 : decode cL_law 871 = .ok (.iload_n 3, 1) := by decide +kernel
theorem dL_law_872 : decode cL_law 872 = .ok (.iconst 1, 1) := by decide +kernel
theorem dL_law_873 : decode cL_law 873 = .ok (.iadd, 1) := by decide +kernel
theorem dL_law_874 : decode cL_law 874 = .ok (.iaload, 1) := by decide +kernel
theorem dL_law_875 : decode cL_law 875 = .ok (.aload_n 0, 1) := by decide +kernel
theorem dL_law_876 : decode cL_law 876 = .ok (.iload_n 3, 1) := by decide +kernel
theorem dL_law_877 : decode cL_law 877 = .ok (.iconst 2, 1) := by decide +kernel
theorem dL_law_878 : decode cL_law 878 = .ok (.iadd, 1) := by decide +kernel
theorem dL_law_879 : decode cL_law 879 = .ok (.iaload, 1) := by decide +kernel
theorem dL_law_880 : decode cL_law 880 = .ok (.invokevirtual 105, 3) := by decide +kernel
theorem dL_law_883 : decode cL_law 883 = .ok (.aload_n 2, 1) := by decide +kernel
theorem dL_law_884 : decode cL_law 884 = .ok (.aload_n 0, 1) := by decide +kernel
theorem dL_law_885 : decode cL_law 885 = .ok (.iload_n 3, 1) := by decide +kernel
theorem dL_law_886 : decode cL_law 886 = .ok (.iconst 1, 1) := by decide +kernel
theorem dL_law_887 : decode cL_law 887 = .ok (.iadd, 1) := by decide +kernel
theorem dL_law_888 : decode cL_law 888 = .ok (.iaload, 1) := by decide +kernel
theorem dL_law_889 : decode cL_law 889 = .ok (.aload_n 0, 1) := by decide +kernel
theorem dL_law_890 : decode cL_law 890 = .ok (.iload_n 3, 1) := by decide +kernel
theorem dL_law_891 : decode cL_law 891 = .ok (.iconst 2, 1) := by decide +kernel
theorem dL_law_892 : decode cL_law 892 = .ok (.iadd, 1) := by decide +kernel
theorem dL_law_893 : decode cL_law 893 = .ok (.iaload, 1) := by decide +kernel
theorem dL_law_894 : decode cL_law 894 = .ok (.invokevirtual 108, 3) := by decide +kernel
theorem dL_law_897 : decode cL_law 897 = .ok (.if_icmp .eq 679, 3) := by decide +kernel
theorem dL_law_900 : decode cL_law 900 = .ok (.iconst 0, 1) := by decide +kernel
theorem dL_law_901 : decode cL_law 901 = .ok (.ireturn, 1) := by decide +kernel
theorem dL_law_902 : decode cL_law 902 = .ok (.aload_n 1, 1) := by decide +kernel
theorem dL_law_903 : decode cL_law 903 = .ok (.aload_n 0, 1) := by decide +kernel
theorem dL_law_904 : decode cL_law 904 = .ok (.iload_n 3, 1) := by decide +kernel
theorem dL_law_905 : decode cL_law 905 = .ok (.iconst 1, 1) := by decide +kernel
theorem dL_law_906 : decode cL_law 906 = .ok (.iadd, 1) := by decide +kernel
theorem dL_law_907 : decode cL_law 907 = .ok (.iaload, 1) := by decide +kernel
theorem dL_law_908 : decode cL_law 908 = .ok (.aload_n 0, 1) := by decide +kernel
theorem dL_law_909 : decode cL_law 909 = .ok (.iload_n 3, 1) := by decide +kernel
theorem dL_law_910 : decode cL_law 910 = .ok (.iconst 2, 1) := by decide +kernel
theorem dL_law_911 : decode cL_law 911 = .ok (.iadd, 1) := by decide +kernel
theorem dL_law_912 : decode cL_law 912 = .ok (.iaload, 1) := by decide +kernel
theorem dL_law_913 : decode cL_law 913 = .ok (.aload_n 0, 1) := by decide +kernel
theorem dL_law_914 : decode cL_law 914 = .ok (.iload_n 3, 1) := by decide +kernel
theorem dL_law_915 : decode cL_law 915 = .ok (.iconst 3, 1) := by decide +kernel
theorem dL_law_916 : decode cL_law 916 = .ok (.iadd, 1) := by decide +kernel
theorem dL_law_917 : decode cL_law 917 = .ok (.iaload, 1) := by decide +kernel
theorem dL_law_918 : decode cL_law 918 = .ok (.invokevirtual 109, 3) := by decide +kernel
theorem dL_law_921 : decode cL_law 921 = .ok (.aload_n 2, 1) := by decide +kernel
theorem dL_law_922 : decode cL_law 922 = .ok (.aload_n 0, 1) := by decide +kernel
theorem dL_law_923 : decode cL_law 923 = .ok (.iload_n 3, 1) := by decide +kernel
theorem dL_law_924 : decode cL_law 924 = .ok (.iconst 1, 1) := by decide +kernel
theorem dL_law_925 : decode cL_law 925 = .ok (.iadd, 1) := by decide +kernel
theorem dL_law_926 : decode cL_law 926 = .ok (.iaload, 1) := by decide +kernel
theorem dL_law_927 : decode cL_law 927 = .ok (.aload_n 0, 1) := by decide +kernel
theorem dL_law_928 : decode cL_law 928 = .ok (.iload_n 3, 1) := by decide +kernel
theorem dL_law_929 : decode cL_law 929 = .ok (.iconst 2, 1) := by decide +kernel
theorem dL_law_930 : decode cL_law 930 = .ok (.iadd, 1) := by decide +kernel
theorem dL_law_931 : decode cL_law 931 = .ok (.iaload, 1) := by decide +kernel
theorem dL_law_932 : decode cL_law 932 = .ok (.aload_n 0, 1) := by decide +kernel
theorem dL_law_933 : decode cL_law 933 = .ok (.iload_n 3, 1) := by decide +kernel
theorem dL_law_934 : decode cL_law 934 = .ok (.iconst 3, 1) := by decide +kernel
theorem dL_law_935 : decode cL_law 935 = .ok (.iadd, 1) := by decide +kernel
theorem dL_law_936 : decode cL_law 936 = .ok (.iaload, 1) := by decide +kernel
theorem dL_law_937 : decode cL_law 937 = .ok (.invokevirtual 112, 3) := by decide +kernel
theorem dL_law_940 : decode cL_law 940 = .ok (.if_icmp .eq 636, 3) := by decide +kernel
theorem dL_law_943 : decode cL_law 943 = .ok (.iconst 0, 1) := by decide +kernel
theorem dL_law_944 : decode cL_law 944 = .ok (.ireturn, 1) := by decide +kernel
theorem dL_law_945 : decode cL_law 945 = .ok (.aload_n 1, 1) := by decide +kernel
theorem dL_law_946 : decode cL_law 946 = .ok (.aload_n 0, 1) := by decide +kernel
theorem dL_law_947 : decode cL_law 947 = .ok (.iload_n 3, 1) := by decide +kernel
theorem dL_law_948 : decode cL_law 948 = .ok (.iconst 1, 1) := by decide +kernel
theorem dL_law_949 : decode cL_law 949 = .ok (.iadd, 1) := by decide +kernel
theorem dL_law_950 : decode cL_law 950 = .ok (.iaload, 1) := by decide +kernel
theorem dL_law_951 : decode cL_law 951 = .ok (.aload_n 0, 1) := by decide +kernel
theorem dL_law_952 : decode cL_law 952 = .ok (.iload_n 3, 1) := by decide +kernel
theorem dL_law_953 : decode cL_law 953 = .ok (.iconst 2, 1) := by decide +kernel
theorem dL_law_954 : decode cL_law 954 = .ok (.iadd, 1) := by decide +kernel
theorem dL_law_955 : decode cL_law 955 = .ok (.iaload, 1) := by decide +kernel
theorem dL_law_956 : decode cL_law 956 = .ok (.aload_n 0, 1) := by decide +kernel
theorem dL_law_957 : decode cL_law 957 = .ok (.iload_n 3, 1) := by decide +kernel
theorem dL_law_958 : decode cL_law 958 = .ok (.iconst 3, 1) := by decide +kernel
theorem dL_law_959 : decode cL_law 959 = .ok (.iadd, 1) := by decide +kernel
theorem dL_law_960 : decode cL_law 960 = .ok (.iaload, 1) := by decide +kernel
theorem dL_law_961 : decode cL_law 961 = .ok (.invokevirtual 113, 3) := by decide +kernel
theorem dL_law_964 : decode cL_law 964 = .ok (.aload_n 2, 1) := by decide +kernel
theorem dL_law_965 : decode cL_law 965 = .ok (.aload_n 0, 1) := by decide +kernel
theorem dL_law_966 : decode cL_law 966 = .ok (.iload_n 3, 1) := by decide +kernel
theorem dL_law_967 : decode cL_law 967 = .ok (.iconst 1, 1) := by decide +kernel
theorem dL_law_968 : decode cL_law 968 = .ok (.iadd, 1) := by decide +kernel
theorem dL_law_969 : decode cL_law 969 = .ok (.iaload, 1) := by decide +kernel
theorem dL_law_970 : decode cL_law 970 = .ok (.aload_n 0, 1) := by decide +kernel
theorem dL_law_971 : decode cL_law 971 = .ok (.iload_n 3, 1) := by decide +kernel
theorem dL_law_972 : decode cL_law 972 = .ok (.iconst 2, 1) := by decide +kernel
theorem dL_law_973 : decode cL_law 973 = .ok (.iadd, 1) := by decide +kernel
theorem dL_law_974 : decode cL_law 974 = .ok (.iaload, 1) := by decide +kernel
theorem dL_law_975 : decode cL_law 975 = .ok (.aload_n 0, 1) := by decide +kernel
theorem dL_law_976 : decode cL_law 976 = .ok (.iload_n 3, 1) := by decide +kernel
theorem dL_law_977 : decode cL_law 977 = .ok (.iconst 3, 1) := by decide +kernel
theorem dL_law_978 : decode cL_law 978 = .ok (.iadd, 1) := by decide +kernel
theorem dL_law_979 : decode cL_law 979 = .ok (.iaload, 1) := by decide +kernel
theorem dL_law_980 : decode cL_law 980 = .ok (.invokevirtual 116, 3) := by decide +kernel
theorem dL_law_983 : decode cL_law 983 = .ok (.if_icmp .eq 593, 3) := by decide +kernel
theorem dL_law_986 : decode cL_law 986 = .ok (.iconst 0, 1) := by decide +kernel
theorem dL_law_987 : decode cL_law 987 = .ok (.ireturn, 1) := by decide +kernel
theorem dL_law_988 : decode cL_law 988 = .ok (.aload_n 1, 1) := by decide +kernel
theorem dL_law_989 : decode cL_law 989 = .ok (.aload_n 0, 1) := by decide +kernel
theorem dL_law_990 : decode cL_law 990 = .ok (.iload_n 3, 1) := by decide +kernel
theorem dL_law_991 : decode cL_law 991 = .ok (.iconst 1, 1) := by decide +kernel
theorem dL_law_992 : decode cL_law 992 = .ok (.iadd, 1) := by decide +kernel
theorem dL_law_993 : decode cL_law 993 = .ok (.iaload, 1) := by decide +kernel
theorem dL_law_994 : decode cL_law 994 = .ok (.aload_n 0, 1) := by decide +kernel
theorem dL_law_995 : decode cL_law 995 = .ok (.iload_n 3, 1) := by decide +kernel
theorem dL_law_996 : decode cL_law 996 = .ok (.iconst 2, 1) := by decide +kernel
theorem dL_law_997 : decode cL_law 997 = .ok (.iadd, 1) := by decide +kernel
theorem dL_law_998 : decode cL_law 998 = .ok (.iaload, 1) := by decide +kernel
theorem dL_law_999 : decode cL_law 999 = .ok (.invokevirtual 117, 3) := by decide +kernel
theorem dL_law_1002 : decode cL_law 1002 = .ok (.aload_n 2, 1) := by decide +kernel
theorem dL_law_1003 : decode cL_law 1003 = .ok (.aload_n 0, 1) := by decide +kernel
theorem dL_law_1004 : decode cL_law 1004 = .ok (.iload_n 3, 1) := by decide +kernel
theorem dL_law_1005 : decode cL_law 1005 = .ok (.iconst 1, 1) := by decide +kernel
theorem dL_law_1006 : decode cL_law 1006 = .ok (.iadd, 1) := by decide +kernel
theorem dL_law_1007 : decode cL_law 1007 = .ok (.iaload, 1) := by decide +kernel
theorem dL_law_1008 : decode cL_law 1008 = .ok (.aload_n 0, 1) := by decide +kernel
theorem dL_law_1009 : decode cL_law 1009 = .ok (.iload_n 3, 1) := by decide +kernel
theorem dL_law_1010 : decode cL_law 1010 = .ok (.iconst 2, 1) := by decide +kernel
theorem dL_law_1011 : decode cL_law 1011 = .ok (.iadd, 1) := by decide +kernel
theorem dL_law_1012 : decode cL_law 1012 = .ok (.iaload, 1) := by decide +kernel
theorem dL_law_1013 : decode cL_law 1013 = .ok (.invokevirtual 120, 3) := by decide +kernel
theorem dL_law_1016 : decode cL_law 1016 = .ok (.if_icmp .eq 560, 3) := by decide +kernel
theorem dL_law_1019 : decode cL_law 1019 = .ok (.iconst 0, 1) := by decide +kernel
theorem dL_law_1020 : decode cL_law 1020 = .ok (.ireturn, 1) := by decide +kernel
theorem dL_law_1021 : decode cL_law 1021 = .ok (.aload_n 1, 1) := by decide +kernel
theorem dL_law_1022 : decode cL_law 1022 = .ok (.aload_n 0, 1) := by decide +kernel
theorem dL_law_1023 : decode cL_law 1023 = .ok (.iload_n 3, 1) := by decide +kernel
theorem dL_law_1024 : decode cL_law 1024 = .ok (.iconst 1, 1) := by decide +kernel
theorem dL_law_1025 : decode cL_law 1025 = .ok (.iadd, 1) := by decide +kernel
theorem dL_law_1026 : decode cL_law 1026 = .ok (.iaload, 1) := by decide +kernel
theorem dL_law_1027 : decode cL_law 1027 = .ok (.invokevirtual 121, 3) := by decide +kernel
theorem dL_law_1030 : decode cL_law 1030 = .ok (.aload_n 2, 1) := by decide +kernel
theorem dL_law_1031 : decode cL_law 1031 = .ok (.aload_n 0, 1) := by decide +kernel
theorem dL_law_1032 : decode cL_law 1032 = .ok (.iload_n 3, 1) := by decide +kernel
theorem dL_law_1033 : decode cL_law 1033 = .ok (.iconst 1, 1) := by decide +kernel
theorem dL_law_1034 : decode cL_law 1034 = .ok (.iadd, 1) := by decide +kernel
theorem dL_law_1035 : decode cL_law 1035 = .ok (.iaload, 1) := by decide +kernel
theorem dL_law_1036 : decode cL_law 1036 = .ok (.invokevirtual 124, 3) := by decide +kernel
theorem dL_law_1039 : decode cL_law 1039 = .ok (.if_icmp .eq 537, 3) := by decide +kernel
theorem dL_law_1042 : decode cL_law 1042 = .ok (.iconst 0, 1) := by decide +kernel
theorem dL_law_1043 : decode cL_law 1043 = .ok (.ireturn, 1) := by decide +kernel
theorem dL_law_1044 : decode cL_law 1044 = .ok (.aload_n 1, 1) := by decide +kernel
theorem dL_law_1045 : decode cL_law 1045 = .ok (.aload_n 0, 1) := by decide +kernel
theorem dL_law_1046 : decode cL_law 1046 = .ok (.iload_n 3, 1) := by decide +kernel
theorem dL_law_1047 : decode cL_law 1047 = .ok (.iconst 1, 1) := by decide +kernel
theorem dL_law_1048 : decode cL_law 1048 = .ok (.iadd, 1) := by decide +kernel
theorem dL_law_1049 : decode cL_law 1049 = .ok (.iaload, 1) := by decide +kernel
theorem dL_law_1050 : decode cL_law 1050 = .ok (.aload_n 0, 1) := by decide +kernel
theorem dL_law_1051 : decode cL_law 1051 = .ok (.iload_n 3, 1) := by decide +kernel
theorem dL_law_1052 : decode cL_law 1052 = .ok (.iconst 2, 1) := by decide +kernel
theorem dL_law_1053 : decode cL_law 1053 = .ok (.iadd, 1) := by decide +kernel
theorem dL_law_1054 : decode cL_law 1054 = .ok (.iaload, 1) := by decide +kernel
theorem dL_law_1055 : decode cL_law 1055 = .ok (.aload_n 0, 1) := by decide +kernel
theorem dL_law_1056 : decode cL_law 1056 = .ok (.iload_n 3, 1) := by decide +kernel
theorem dL_law_1057 : decode cL_law 1057 = .ok (.iconst 3, 1) := by decide +kernel
theorem dL_law_1058 : decode cL_law 1058 = .ok (.iadd, 1) := by decide +kernel
theorem dL_law_1059 : decode cL_law 1059 = .ok (.iaload, 1) := by decide +kernel
theorem dL_law_1060 : decode cL_law 1060 = .ok (.aload_n 0, 1) := by decide +kernel
theorem dL_law_1061 : decode cL_law 1061 = .ok (.iload_n 3, 1) := by decide +kernel
theorem dL_law_1062 : decode cL_law 1062 = .ok (.iconst 4, 1) := by decide +kernel
theorem dL_law_1063 : decode cL_law 1063 = .ok (.iadd, 1) := by decide +kernel
theorem dL_law_1064 : decode cL_law 1064 = .ok (.iaload, 1) := by decide +kernel
theorem dL_law_1065 : decode cL_law 1065 = .ok (.ifCond .eq 7, 3) := by decide +kernel
theorem dL_law_1068 : decode cL_law 1068 = .ok (.iconst 1, 1) := by decide +kernel
theorem dL_law_1069 : decode cL_law 1069 = .ok (.goto 4, 3) := by decide +kernel
theorem dL_law_1072 : decode cL_law 1072 = .ok (.iconst 0, 1) := by decide +kernel
theorem dL_law_1073 : decode cL_law 1073 = .ok (.invokevirtual 125, 3) := by decide +kernel
theorem dL_law_1076 : decode cL_law 1076 = .ok (.aload_n 2, 1) := by decide +kernel
theorem dL_law_1077 : decode cL_law 1077 = .ok (.aload_n 0, 1) := by decide +kernel
theorem dL_law_1078 : decode cL_law 1078 = .ok (.iload_n 3, 1) := by decide +kernel
theorem dL_law_1079 : decode cL_law 1079 = .ok (.iconst 1, 1) := by decide +kernel
theorem dL_law_1080 : decode cL_law 1080 = .ok (.iadd, 1) := by decide +kernel
theorem dL_law_1081 : decode cL_law 1081 = .ok (.iaload, 1) := by decide +kernel
theorem dL_law_1082 : decode cL_law 1082 = .ok (.aload_n 0, 1) := by decide +kernel
theorem dL_law_1083 : decode cL_law 1083 = .ok (.iload_n 3, 1) := by decide +kernel
theorem dL_law_1084 : decode cL_law 1084 = .ok (.iconst 2, 1) := by decide +kernel
theorem dL_law_1085 : decode cL_law 1085 = .ok (.iadd, 1) := by decide +kernel
theorem dL_law_1086 : decode cL_law 1086 = .ok (.iaload, 1) := by decide +kernel
theorem dL_law_1087 : decode cL_law 1087 = .ok (.aload_n 0, 1) := by decide +kernel
theorem dL_law_1088 : decode cL_law 1088 = .ok (.iload_n 3, 1) := by decide +kernel
theorem dL_law_1089 : decode cL_law 1089 = .ok (.iconst 3, 1) := by decide +kernel
theorem dL_law_1090 : decode cL_law 1090 = .ok (.iadd, 1) := by decide +kernel
theorem dL_law_1091 : decode cL_law 1091 = .ok (.iaload, 1) := by decide +kernel
theorem dL_law_1092 : decode cL_law 1092 = .ok (.aload_n 0, 1) := by decide +kernel
theorem dL_law_1093 : decode cL_law 1093 = .ok (.iload_n 3, 1) := by decide +kernel
theorem dL_law_1094 : decode cL_law 1094 = .ok (.iconst 4, 1) := by decide +kernel
theorem dL_law_1095 : decode cL_law 1095 = .ok (.iadd, 1) := by decide +kernel
theorem dL_law_1096 : decode cL_law 1096 = .ok (.iaload, 1) := by decide +kernel
theorem dL_law_1097 : decode cL_law 1097 = .ok (.ifCond .eq 7, 3) := by decide +kernel
theorem dL_law_1100 : decode cL_law 1100 = .ok (.iconst 1, 1) := by decide +kernel
theorem dL_law_1101 : decode cL_law 1101 = .ok (.goto 4, 3) := by decide +kernel
theorem dL_law_1104 : decode cL_law 1104 = .ok (.iconst 0, 1) := by decide +kernel
theorem dL_law_1105 : decode cL_law 1105 = .ok (.invokevirtual 129, 3) := by decide +kernel
theorem dL_law_1108 : decode cL_law 1108 = .ok (.lcmp, 1) := by decide +kernel
theorem dL_law_1109 : decode cL_law 1109 = .ok (.ifCond .eq 467, 3) := by decide +kernel
theorem dL_law_1112 : decode cL_law 1112 = .ok (.iconst 0, 1) := by decide +kernel
theorem dL_law_1113 : decode cL_law 1113 = .ok (.ireturn, 1) := by decide +kernel
theorem dL_law_1114 : decode cL_law 1114 = .ok (.aload_n 1, 1) := by decide +kernel
theorem dL_law_1115 : decode cL_law 1115 = .ok (.aload_n 0, 1) := by decide +kernel
theorem dL_law_1116 : decode cL_law 1116 = .ok (.iload_n 3, 1) := by decide +kernel
theorem dL_law_1117 : decode cL_law 1117 = .ok (.iconst 1, 1) := by decide +kernel
theorem dL_law_1118 : decode cL_law 1118 = .ok (.iadd, 1) := by decide +kernel
theorem dL_law_1119 : decode cL_law 1119 = .ok (.iaload, 1) := by decide +kernel
theorem dL_law_1120 : decode cL_law 1120 = .ok (.aload_n 0, 1) := by decide +kernel
theorem dL_law_1121 : decode cL_law 1121 = .ok (.iload_n 3, 1) := by decide +kernel
theorem dL_law_1122 : decode cL_law 1122 = .ok (.iconst 2, 1) := by decide +kernel
theorem dL_law_1123 : decode cL_law 1123 = .ok (.iadd, 1) := by decide +kernel
theorem dL_law_1124 : decode cL_law 1124 = .ok (.iaload, 1) := by decide +kernel
theorem dL_law_1125 : decode cL_law 1125 = .ok (.invokevirtual 130, 3) := by decide +kernel
theorem dL_law_1128 : decode cL_law 1128 = .ok (.aload_n 2, 1) := by decide +kernel
theorem dL_law_1129 : decode cL_law 1129 = .ok (.aload_n 0, 1) := by decide +kernel
theorem dL_law_1130 : decode cL_law 1130 = .ok (.iload_n 3, 1) := by decide +kernel
theorem dL_law_1131 : decode cL_law 1131 = .ok (.iconst 1, 1) := by decide +kernel
theorem dL_law_1132 : decode cL_law 1132 = .ok (.iadd, 1) := by decide +kernel
theorem dL_law_1133 : decode cL_law 1133 = .ok (.iaload, 1) := by decide +kernel
theorem dL_law_1134 : decode cL_law 1134 = .ok (.aload_n 0, 1) := by decide +kernel
theorem dL_law_1135 : decode cL_law 1135 = .ok (.iload_n 3, 1) := by decide +kernel
theorem dL_law_1136 : decode cL_law 1136 = .ok (.iconst 2, 1) := by decide +kernel
theorem dL_law_1137 : decode cL_law 1137 = .ok (.iadd, 1) := by decide +kernel
theorem dL_law_1138 : decode cL_law 1138 = .ok (.iaload, 1) := by decide +kernel
theorem dL_law_1139 : decode cL_law 1139 = .ok (.invokevirtual 133, 3) := by decide +kernel
theorem dL_law_1142 : decode cL_law 1142 = .ok (.if_icmp .eq 434, 3) := by decide +kernel
theorem dL_law_1145 : decode cL_law 1145 = .ok (.iconst 0, 1) := by decide +kernel
theorem dL_law_1146 : decode cL_law 1146 = .ok (.ireturn, 1) := by decide +kernel
theorem dL_law_1147 : decode cL_law 1147 = .ok (.aload_n 1, 1) := by decide +kernel
theorem dL_law_1148 : decode cL_law 1148 = .ok (.aload_n 0, 1) := by decide +kernel
theorem dL_law_1149 : decode cL_law 1149 = .ok (.iload_n 3, 1) := by decide +kernel
theorem dL_law_1150 : decode cL_law 1150 = .ok (.iconst 1, 1) := by decide +kernel
theorem dL_law_1151 : decode cL_law 1151 = .ok (.iadd, 1) := by decide +kernel
theorem dL_law_1152 : decode cL_law 1152 = .ok (.iaload, 1) := by decide +kernel
theorem dL_law_1153 : decode cL_law 1153 = .ok (.invokevirtual 134, 3) := by decide +kernel
theorem dL_law_1156 : decode cL_law 1156 = .ok (.aload_n 2, 1) := by decide +kernel
theorem dL_law_1157 : decode cL_law 1157 = .ok (.aload_n 0, 1) := by decide +kernel
theorem dL_law_1158 : decode cL_law 1158 = .ok (.iload_n 3, 1) := by decide +kernel
theorem dL_law_1159 : decode cL_law 1159 = .ok (.iconst 1, 1) := by decide +kernel
theorem dL_law_1160 : decode cL_law 1160 = .ok (.iadd, 1) := by decide +kernel
theorem dL_law_1161 : decode cL_law 1161 = .ok (.iaload, 1) := by decide +kernel
theorem dL_law_1162 : decode cL_law 1162 = .ok (.invokevirtual 137, 3) := by decide +kernel
theorem dL_law_1165 : decode cL_law 1165 = .ok (.if_icmp .eq 411, 3) := by decide +kernel
theorem dL_law_1168 : decode cL_law 1168 = .ok (.iconst 0, 1) := by decide +kernel
theorem dL_law_1169 : decode cL_law 1169 = .ok (.ireturn, 1) := by decide +kernel
theorem dL_law_1170 : decode cL_law 1170 = .ok (.aload_n 1, 1) := by decide +kernel
theorem dL_law_1171 : decode cL_law 1171 = .ok (.aload_n 0, 1) := by decide +kernel
theorem dL_law_1172 : decode cL_law 1172 = .ok (.iload_n 3, 1) := by decide +kernel
theorem dL_law_1173 : decode cL_law 1173 = .ok (.iconst 1, 1) := by decide +kernel
theorem dL_law_1174 : decode cL_law 1174 = .ok (.iadd, 1) := by decide +kernel
theorem dL_law_1175 : decode cL_law 1175 = .ok (.iaload, 1) := by decide +kernel
theorem dL_law_1176 : decode cL_law 1176 = .ok (.invokevirtual 138, 3) := by decide +kernel
theorem dL_law_1179 : decode cL_law 1179 = .ok (.aload_n 2, 1) := by decide +kernel
theorem dL_law_1180 : decode cL_law 1180 = .ok (.aload_n 0, 1) := by decide +kernel
theorem dL_law_1181 : decode cL_law 1181 = .ok (.iload_n 3, 1) := by decide +kernel
theorem dL_law_1182 : decode cL_law 1182 = .ok (.iconst 1, 1) := by decide +kernel
theorem dL_law_1183 : decode cL_law 1183 = .ok (.iadd, 1) := by decide +kernel
theorem dL_law_1184 : decode cL_law 1184 = .ok (.iaload, 1) := by decide +kernel
theorem dL_law_1185 : decode cL_law 1185 = .ok (.invokevirtual 141, 3) := by decide +kernel
theorem dL_law_1188 : decode cL_law 1188 = .ok (.if_icmp .eq 388, 3) := by decide +kernel
theorem dL_law_1191 : decode cL_law 1191 = .ok (.iconst 0, 1) := by decide +kernel
theorem dL_law_1192 : decode cL_law 1192 = .ok (.ireturn, 1) := by decide +kernel
theorem dL_law_1193 : decode cL_law 1193 = .ok (.aload_n 1, 1) := by decide +kernel
theorem dL_law_1194 : decode cL_law 1194 = .ok (.aload_n 0, 1) := by decide +kernel
theorem dL_law_1195 : decode cL_law 1195 = .ok (.iload_n 3, 1) := by decide +kernel
theorem dL_law_1196 : decode cL_law 1196 = .ok (.iconst 1, 1) := by decide +kernel
theorem dL_law_1197 : decode cL_law 1197 = .ok (.iadd, 1) := by decide +kernel
theorem dL_law_1198 : decode cL_law 1198 = .ok (.iaload, 1) := by decide +kernel
theorem dL_law_1199 : decode cL_law 1199 = .ok (.invokevirtual 142, 3) := by decide +kernel
theorem dL_law_1202 : decode cL_law 1202 = .ok (.aload_n 2, 1) := by decide +kernel
theorem dL_law_1203 : decode cL_law 1203 = .ok (.aload_n 0, 1) := by decide +kernel
theorem dL_law_1204 : decode cL_law 1204 = .ok (.iload_n 3, 1) := by decide +kernel
theorem dL_law_1205 : decode cL_law 1205 = .ok (.iconst 1, 1) := by decide +kernel
theorem dL_law_1206 : decode cL_law 1206 = .ok (.iadd, 1) := by decide +kernel
theorem dL_law_1207 : decode cL_law 1207 = .ok (.iaload, 1) := by decide +kernel
theorem dL_law_1208 : decode cL_law 1208 = .ok (.invokevirtual 146, 3) := by decide +kernel
theorem dL_law_1211 : decode cL_law 1211 = .ok (.lcmp, 1) := by decide +kernel
theorem dL_law_1212 : decode cL_law 1212 = .ok (.ifCond .eq 364, 3) := by decide +kernel
theorem dL_law_1215 : decode cL_law 1215 = .ok (.iconst 0, 1) := by decide +kernel
theorem dL_law_1216 : decode cL_law 1216 = .ok (.ireturn, 1) := by decide +kernel
theorem dL_law_1217 : decode cL_law 1217 = .ok (.aload_n 1, 1) := by decide +kernel
theorem dL_law_1218 : decode cL_law 1218 = .ok (.aload_n 0, 1) := by decide +kernel
theorem dL_law_1219 : decode cL_law 1219 = .ok (.iload_n 3, 1) := by decide +kernel
theorem dL_law_1220 : decode cL_law 1220 = .ok (.iconst 1, 1) := by decide +kernel
theorem dL_law_1221 : decode cL_law 1221 = .ok (.iadd, 1) := by decide +kernel
theorem dL_law_1222 : decode cL_law 1222 = .ok (.iaload, 1) := by decide +kernel
theorem dL_law_1223 : decode cL_law 1223 = .ok (.aload_n 0, 1) := by decide +kernel
theorem dL_law_1224 : decode cL_law 1224 = .ok (.iload_n 3, 1) := by decide +kernel
theorem dL_law_1225 : decode cL_law 1225 = .ok (.iconst 2, 1) := by decide +kernel
theorem dL_law_1226 : decode cL_law 1226 = .ok (.iadd, 1) := by decide +kernel
theorem dL_law_1227 : decode cL_law 1227 = .ok (.iaload, 1) := by decide +kernel
theorem dL_law_1228 : decode cL_law 1228 = .ok (.invokevirtual 147, 3) := by decide +kernel
theorem dL_law_1231 : decode cL_law 1231 = .ok (.aload_n 2, 1) := by decide +kernel
theorem dL_law_1232 : decode cL_law 1232 = .ok (.aload_n 0, 1) := by decide +kernel
theorem dL_law_1233 : decode cL_law 1233 = .ok (.iload_n 3, 1) := by decide +kernel
theorem dL_law_1234 : decode cL_law 1234 = .ok (.iconst 1, 1) := by decide +kernel
theorem dL_law_1235 : decode cL_law 1235 = .ok (.iadd, 1) := by decide +kernel
theorem dL_law_1236 : decode cL_law 1236 = .ok (.iaload, 1) := by decide +kernel
theorem dL_law_1237 : decode cL_law 1237 = .ok (.aload_n 0, 1) := by decide +kernel
theorem dL_law_1238 : decode cL_law 1238 = .ok (.iload_n 3, 1) := by decide +kernel
theorem dL_law_1239 : decode cL_law 1239 = .ok (.iconst 2, 1) := by decide +kernel
theorem dL_law_1240 : decode cL_law 1240 = .ok (.iadd, 1) := by decide +kernel
theorem dL_law_1241 : decode cL_law 1241 = .ok (.iaload, 1) := by decide +kernel
theorem dL_law_1242 : decode cL_law 1242 = .ok (.invokevirtual 150, 3) := by decide +kernel
theorem dL_law_1245 : decode cL_law 1245 = .ok (.if_icmp .eq 331, 3) := by decide +kernel
theorem dL_law_1248 : decode cL_law 1248 = .ok (.iconst 0, 1) := by decide +kernel
theorem dL_law_1249 : decode cL_law 1249 = .ok (.ireturn, 1) := by decide +kernel
theorem dL_law_1250 : decode cL_law 1250 = .ok (.aload_n 1, 1) := by decide +kernel
theorem dL_law_1251 : decode cL_law 1251 = .ok (.aload_n 0, 1) := by decide +kernel
theorem dL_law_1252 : decode cL_law 1252 = .ok (.iload_n 3, 1) := by decide +kernel
theorem dL_law_1253 : decode cL_law 1253 = .ok (.iconst 1, 1) := by decide +kernel
theorem dL_law_1254 : decode cL_law 1254 = .ok (.iadd, 1) := by decide +kernel
theorem dL_law_1255 : decode cL_law 1255 = .ok (.iaload, 1) := by decide +kernel
theorem dL_law_1256 : decode cL_law 1256 = .ok (.invokevirtual 151, 3) := by decide +kernel
theorem dL_law_1259 : decode cL_law 1259 = .ok (.aload_n 2, 1) := by decide +kernel
theorem dL_law_1260 : decode cL_law 1260 = .ok (.aload_n 0, 1) := by decide +kernel
theorem dL_law_1261 : decode cL_law 1261 = .ok (.iload_n 3, 1) := by decide +kernel
theorem dL_law_1262 : decode cL_law 1262 = .ok (.iconst 1, 1) := by decide +kernel
theorem dL_law_1263 : decode cL_law 1263 = .ok (.iadd, 1) := by decide +kernel
theorem dL_law_1264 : decode cL_law 1264 = .ok (.iaload, 1) := by decide +kernel
theorem dL_law_1265 : decode cL_law 1265 = .ok (.invokevirtual 154, 3) := by decide +kernel
theorem dL_law_1268 : decode cL_law 1268 = .ok (.if_icmp .eq 308, 3) := by decide +kernel
theorem dL_law_1271 : decode cL_law 1271 = .ok (.iconst 0, 1) := by decide +kernel
theorem dL_law_1272 : decode cL_law 1272 = .ok (.ireturn, 1) := by decide +kernel
theorem dL_law_1273 : decode cL_law 1273 = .ok (.aload_n 1, 1) := by decide +kernel
theorem dL_law_1274 : decode cL_law 1274 = .ok (.aload_n 0, 1) := by decide +kernel
theorem dL_law_1275 : decode cL_law 1275 = .ok (.iload_n 3, 1) := by decide +kernel
theorem dL_law_1276 : decode cL_law 1276 = .ok (.iconst 1, 1) := by decide +kernel
theorem dL_law_1277 : decode cL_law 1277 = .ok (.iadd, 1) := by decide +kernel
theorem dL_law_1278 : decode cL_law 1278 = .ok (.iaload, 1) := by decide +kernel
theorem dL_law_1279 : decode cL_law 1279 = .ok (.aload_n 0, 1) := by decide +kernel
theorem dL_law_1280 : decode cL_law 1280 = .ok (.iload_n 3, 1) := by decide +kernel
theorem dL_law_1281 : decode cL_law 1281 = .ok (.iconst 2, 1) := by decide +kernel
theorem dL_law_1282 : decode cL_law 1282 = .ok (.iadd, 1) := by decide +kernel
theorem dL_law_1283 : decode cL_law 1283 = .ok (.iaload, 1) := by decide +kernel
theorem dL_law_1284 : decode cL_law 1284 = .ok (.invokevirtual 155, 3) := by decide +kernel
theorem dL_law_1287 : decode cL_law 1287 = .ok (.aload_n 2, 1) := by decide +kernel
theorem dL_law_1288 : decode cL_law 1288 = .ok (.aload_n 0, 1) := by decide +kernel
theorem dL_law_1289 : decode cL_law 1289 = .ok (.iload_n 3, 1) := by decide +kernel
theorem dL_law_1290 : decode cL_law 1290 = .ok (.iconst 1, 1) := by decide +kernel
theorem dL_law_1291 : decode cL_law 1291 = .ok (.iadd, 1) := by decide +kernel
theorem dL_law_1292 : decode cL_law 1292 = .ok (.iaload, 1) := by decide +kernel
theorem dL_law_1293 : decode cL_law 1293 = .ok (.aload_n 0, 1) := by decide +kernel
theorem dL_law_1294 : decode cL_law 1294 = .ok (.iload_n 3, 1) := by decide +kernel
theorem dL_law_1295 : decode cL_law 1295 = .ok (.iconst 2, 1) := by decide +kernel
theorem dL_law_1296 : decode cL_law 1296 = .ok (.iadd, 1) := by decide +kernel
theorem dL_law_1297 : decode cL_law 1297 = .ok (.iaload, 1) := by decide +kernel
theorem dL_law_1298 : decode cL_law 1298 = .ok (.invokevirtual 158, 3) := by decide +kernel
theorem dL_law_1301 : decode cL_law 1301 = .ok (.if_icmp .eq 275, 3) := by decide +kernel
theorem dL_law_1304 : decode cL_law 1304 = .ok (.iconst 0, 1) := by decide +kernel
theorem dL_law_1305 : decode cL_law 1305 = .ok (.ireturn, 1) := by decide +kernel
theorem dL_law_1306 : decode cL_law 1306 = .ok (.aload_n 1, 1) := by decide +kernel
theorem dL_law_1307 : decode cL_law 1307 = .ok (.aload_n 0, 1) := by decide +kernel
theorem dL_law_1308 : decode cL_law 1308 = .ok (.iload_n 3, 1) := by decide +kernel
theorem dL_law_1309 : decode cL_law 1309 = .ok (.iconst 1, 1) := by decide +kernel
theorem dL_law_1310 : decode cL_law 1310 = .ok (.iadd, 1) := by decide +kernel
theorem dL_law_1311 : decode cL_law 1311 = .ok (.iaload, 1) := by decide +kernel
theorem dL_law_1312 : decode cL_law 1312 = .ok (.aload_n 0, 1) := by decide +kernel
theorem dL_law_1313 : decode cL_law 1313 = .ok (.iload_n 3, 1) := by decide +kernel
theorem dL_law_1314 : decode cL_law 1314 = .ok (.iconst 2, 1) := by decide +kernel
theorem dL_law_1315 : decode cL_law 1315 = .ok (.iadd, 1) := by decide +kernel
theorem dL_law_1316 : decode cL_law 1316 = .ok (.iaload, 1) := by decide +kernel
theorem dL_law_1317 : decode cL_law 1317 = .ok (.invokevirtual 159, 3) := by decide +kernel
theorem dL_law_1320 : decode cL_law 1320 = .ok (.aload_n 2, 1) := by decide +kernel
theorem dL_law_1321 : decode cL_law 1321 = .ok (.aload_n 0, 1) := by decide +kernel
theorem dL_law_1322 : decode cL_law 1322 = .ok (.iload_n 3, 1) := by decide +kernel
theorem dL_law_1323 : decode cL_law 1323 = .ok (.iconst 1, 1) := by decide +kernel
theorem dL_law_1324 : decode cL_law 1324 = .ok (.iadd, 1) := by decide +kernel
theorem dL_law_1325 : decode cL_law 1325 = .ok (.iaload, 1) := by decide +kernel
theorem dL_law_1326 : decode cL_law 1326 = .ok (.aload_n 0, 1) := by decide +kernel
theorem dL_law_1327 : decode cL_law 1327 = .ok (.iload_n 3, 1) := by decide +kernel
theorem dL_law_1328 : decode cL_law 1328 = .ok (.iconst 2, 1) := by decide +kernel
theorem dL_law_1329 : decode cL_law 1329 = .ok (.iadd, 1) := by decide +kernel
theorem dL_law_1330 : decode cL_law 1330 = .ok (.iaload, 1) := by decide +kernel
theorem dL_law_1331 : decode cL_law 1331 = .ok (.invokevirtual 162, 3) := by decide +kernel
theorem dL_law_1334 : decode cL_law 1334 = .ok (.if_icmp .eq 242, 3) := by decide +kernel
theorem dL_law_1337 : decode cL_law 1337 = .ok (.iconst 0, 1) := by decide +kernel
theorem dL_law_1338 : decode cL_law 1338 = .ok (.ireturn, 1) := by decide +kernel
theorem dL_law_1339 : decode cL_law 1339 = .ok (.aload_n 1, 1) := by decide +kernel
theorem dL_law_1340 : decode cL_law 1340 = .ok (.aload_n 0, 1) := by decide +kernel
theorem dL_law_1341 : decode cL_law 1341 = .ok (.iload_n 3, 1) := by decide +kernel
theorem dL_law_1342 : decode cL_law 1342 = .ok (.iconst 1, 1) := by decide +kernel
theorem dL_law_1343 : decode cL_law 1343 = .ok (.iadd, 1) := by decide +kernel
theorem dL_law_1344 : decode cL_law 1344 = .ok (.iaload, 1) := by decide +kernel
theorem dL_law_1345 : decode cL_law 1345 = .ok (.invokevirtual 163, 3) := by decide +kernel
theorem dL_law_1348 : decode cL_law 1348 = .ok (.aload_n 2, 1) := by decide +kernel
theorem dL_law_1349 : decode cL_law 1349 = .ok (.aload_n 0, 1) := by decide +kernel
theorem dL_law_1350 : decode cL_law 1350 = .ok (.iload_n 3, 1) := by decide +kernel
theorem dL_law_1351 : decode cL_law 1351 = .ok (.iconst 1, 1) := by decide +kernel
theorem dL_law_1352 : decode cL_law 1352 = .ok (.iadd, 1) := by decide +kernel
theorem dL_law_1353 : decode cL_law 1353 = .ok (.iaload, 1) := by decide +kernel
theorem dL_law_1354 : decode cL_law 1354 = .ok (.invokevirtual 166, 3) := by decide +kernel
theorem dL_law_1357 : decode cL_law 1357 = .ok (.lcmp, 1) := by decide +kernel
theorem dL_law_1358 : decode cL_law 1358 = .ok (.ifCond .eq 218, 3) := by decide +kernel
theorem dL_law_1361 : decode cL_law 1361 = .ok (.iconst 0, 1) := by decide +kernel
theorem dL_law_1362 : decode cL_law 1362 = .ok (.ireturn, 1) := by decide +kernel
theorem dL_law_1363 : decode cL_law 1363 = .ok (.aload_n 1, 1) := by decide +kernel
theorem dL_law_1364 : decode cL_law 1364 = .ok (.aload_n 0, 1) := by decide +kernel
theorem dL_law_1365 : decode cL_law 1365 = .ok (.iload_n 3, 1) := by decide +kernel
theorem dL_law_1366 : decode cL_law 1366 = .ok (.iconst 1, 1) := by decide +kernel
theorem dL_law_1367 : decode cL_law 1367 = .ok (.iadd, 1) := by decide +kernel
theorem dL_law_1368 : decode cL_law 1368 = .ok (.iaload, 1) := by decide +kernel
theorem dL_law_1369 : decode cL_law 1369 = .ok (.aload_n 0, 1) := by decide +kernel
theorem dL_law_1370 : decode cL_law 1370 = .ok (.iload_n 3, 1) := by decide +kernel
theorem dL_law_1371 : decode cL_law 1371 = .ok (.iconst 2, 1) := by decide +kernel
theorem dL_law_1372 : decode cL_law 1372 = .ok (.iadd, 1) := by decide +kernel
theorem dL_law_1373 : decode cL_law 1373 = .ok (.iaload, 1) := by decide +kernel
theorem dL_law_1374 : decode cL_law 1374 = .ok (.aload_n 0, 1) := by decide +kernel
theorem dL_law_1375 : decode cL_law 1375 = .ok (.iload_n 3, 1) := by decide +kernel
theorem dL_law_1376 : decode cL_law 1376 = .ok (.iconst 3, 1) := by decide +kernel
theorem dL_law_1377 : decode cL_law 1377 = .ok (.iadd, 1) := by decide +kernel
theorem dL_law_1378 : decode cL_law 1378 = .ok (.iaload, 1) := by decide +kernel
theorem dL_law_1379 : decode cL_law 1379 = .ok (.invokevirtual 167, 3) := by decide +kernel
theorem dL_law_1382 : decode cL_law 1382 = .ok (.aload_n 2, 1) := by decide +kernel
theorem dL_law_1383 : decode cL_law 1383 = .ok (.aload_n 0, 1) := by decide +kernel
theorem dL_law_1384 : decode cL_law 1384 = .ok (.iload_n 3, 1) := by decide +kernel
theorem dL_law_1385 : decode cL_law 1385 = .ok (.iconst 1, 1) := by decide +kernel
theorem dL_law_1386 : decode cL_law 1386 = .ok (.iadd, 1) := by decide +kernel
theorem dL_law_1387 : decode cL_law 1387 = .ok (.iaload, 1) := by decide +kernel
theorem dL_law_1388 : decode cL_law 1388 = .ok (.aload_n 0, 1) := by decide +kernel
theorem dL_law_1389 : decode cL_law 1389 = .ok (.iload_n 3, 1) := by decide +kernel
theorem dL_law_1390 : decode cL_law 1390 = .ok (.iconst 2, 1) := by decide +kernel
theorem dL_law_1391 : decode cL_law 1391 = .ok (.iadd, 1) := by decide +kernel
theorem dL_law_1392 : decode cL_law 1392 = .ok (.iaload, 1) := by decide +kernel
theorem dL_law_1393 : decode cL_law 1393 = .ok (.aload_n 0, 1) := by decide +kernel
theorem dL_law_1394 : decode cL_law 1394 = .ok (.iload_n 3, 1) := by decide +kernel
theorem dL_law_1395 : decode cL_law 1395 = .ok (.iconst 3, 1) := by decide +kernel
theorem dL_law_1396 : decode cL_law 1396 = .ok (.iadd, 1) := by decide +kernel
theorem dL_law_1397 : decode cL_law 1397 = .ok (.iaload, 1) := by decide +kernel
theorem dL_law_1398 : decode cL_law 1398 = .ok (.invokevirtual 170, 3) := by decide +kernel
theorem dL_law_1401 : decode cL_law 1401 = .ok (.if_icmp .eq 175, 3) := by decide +kernel
theorem dL_law_1404 : decode cL_law 1404 = .ok (.iconst 0, 1) := by decide +kernel
theorem dL_law_1405 : decode cL_law 1405 = .ok (.ireturn, 1) := by decide +kernel
theorem dL_law_1406 : decode cL_law 1406 = .ok (.aload_n 1, 1) := by decide +kernel
theorem dL_law_1407 : decode cL_law 1407 = .ok (.aload_n 0, 1) := by decide +kernel
theorem dL_law_1408 : decode cL_law 1408 = .ok (.iload_n 3, 1) := by decide +kernel
theorem dL_law_1409 : decode cL_law 1409 = .ok (.iconst 1, 1) := by decide +kernel
theorem dL_law_1410 : decode cL_law 1410 = .ok (.iadd, 1) := by decide +kernel
theorem dL_law_1411 : decode cL_law 1411 = .ok (.iaload, 1) := by decide +kernel
theorem dL_law_1412 : decode cL_law 1412 = .ok (.aload_n 0, 1) := by decide +kernel
theorem dL_law_1413 : decode cL_law 1413 = .ok (.iload_n 3, 1) := by decide +kernel
theorem dL_law_1414 : decode cL_law 1414 = .ok (.iconst 2, 1) := by decide +kernel
theorem dL_law_1415 : decode cL_law 1415 = .ok (.iadd, 1) := by decide +kernel
theorem dL_law_1416 : decode cL_law 1416 = .ok (.iaload, 1) := by decide +kernel
theorem dL_law_1417 : decode cL_law 1417 = .ok (.invokevirtual 171, 3) := by decide +kernel
theorem dL_law_1420 : decode cL_law 1420 = .ok (.aload_n 2, 1) := by decide +kernel
theorem dL_law_1421 : decode cL_law 1421 = .ok (.aload_n 0, 1) := by decide +kernel
theorem dL_law_1422 : decode cL_law 1422 = .ok (.iload_n 3, 1) := by decide +kernel
theorem dL_law_1423 : decode cL_law 1423 = .ok (.iconst 1, 1) := by decide +kernel
theorem dL_law_1424 : decode cL_law 1424 = .ok (.iadd, 1) := by decide +kernel
theorem dL_law_1425 : decode cL_law 1425 = .ok (.iaload, 1) := by decide +kernel
theorem dL_law_1426 : decode cL_law 1426 = .ok (.aload_n 0, 1) := by decide +kernel
theorem dL_law_1427 : decode cL_law 1427 = .ok (.iload_n 3, 1) := by decide +kernel
theorem dL_law_1428 : decode cL_law 1428 = .ok (.iconst 2, 1) := by decide +kernel
theorem dL_law_1429 : decode cL_law 1429 = .ok (.iadd, 1) := by decide +kernel
theorem dL_law_1430 : decode cL_law 1430 = .ok (.iaload, 1) := by decide +kernel
theorem dL_law_1431 : decode cL_law 1431 = .ok (.invokevirtual 174, 3) := by decide +kernel
theorem dL_law_1434 : decode cL_law 1434 = .ok (.if_icmp .eq 142, 3) := by decide +kernel
theorem dL_law_1437 : decode cL_law 1437 = .ok (.iconst 0, 1) := by decide +kernel
theorem dL_law_1438 : decode cL_law 1438 = .ok (.ireturn, 1) := by decide +kernel
theorem dL_law_1439 : decode cL_law 1439 = .ok (.aload_n 1, 1) := by decide +kernel
theorem dL_law_1440 : decode cL_law 1440 = .ok (.invokevirtual 175, 3) := by decide +kernel
theorem dL_law_1443 : decode cL_law 1443 = .ok (.aload_n 2, 1) := by decide +kernel
theorem dL_law_1444 : decode cL_law 1444 = .ok (.invokevirtual 178, 3) := by decide +kernel
theorem dL_law_1447 : decode cL_law 1447 = .ok (.if_icmp .eq 129, 3) := by decide +kernel
theorem dL_law_1450 : decode cL_law 1450 = .ok (.iconst 0, 1) := by decide +kernel
theorem dL_law_1451 : decode cL_law 1451 = .ok (.ireturn, 1) := by decide +kernel
theorem dL_law_1452 : decode cL_law 1452 = .ok (.aload_n 1, 1) := by decide +kernel
theorem dL_law_1453 : decode cL_law 1453 = .ok (.invokevirtual 179, 3) := by decide +kernel
theorem dL_law_1456 : decode cL_law 1456 = .ok (.aload_n 2, 1) := by decide +kernel
theorem dL_law_1457 : decode cL_law 1457 = .ok (.invokevirtual 182, 3) := by decide +kernel
theorem dL_law_1460 : decode cL_law 1460 = .ok (.if_icmp .eq 116, 3) := by decide +kernel
theorem dL_law_1463 : decode cL_law 1463 = .ok (.iconst 0, 1) := by decide +kernel
theorem dL_law_1464 : decode cL_law 1464 = .ok (.ireturn, 1) := by decide +kernel
theorem dL_law_1465 : decode cL_law 1465 = .ok (.aload_n 1, 1) := by decide +kernel
theorem dL_law_1466 : decode cL_law 1466 = .ok (.invokevirtual 183, 3) := by decide +kernel
theorem dL_law_1469 : decode cL_law 1469 = .ok (.aload_n 2, 1) := by decide +kernel
theorem dL_law_1470 : decode cL_law 1470 = .ok (.invokevirtual 186, 3) := by decide +kernel
theorem dL_law_1473 : decode cL_law 1473 = .ok (.if_icmp .eq 103, 3) := by decide +kernel
theorem dL_law_1476 : decode cL_law 1476 = .ok (.iconst 0, 1) := by decide +kernel
theorem dL_law_1477 : decode cL_law 1477 = .ok (.ireturn, 1) := by decide +kernel
theorem dL_law_1478 : decode cL_law 1478 = .ok (.aload_n 1, 1) := by decide +kernel
theorem dL_law_1479 : decode cL_law 1479 = .ok (.invokevirtual 187, 3) := by decide +kernel
theorem dL_law_1482 : decode cL_law 1482 = .ok (.aload_n 2, 1) := by decide +kernel
theorem dL_law_1483 : decode cL_law 1483 = .ok (.invokevirtual 190, 3) := by decide +kernel
theorem dL_law_1486 : decode cL_law 1486 = .ok (.if_icmp .eq 90, 3) := by decide +kernel
theorem dL_law_1489 : decode cL_law 1489 = .ok (.iconst 0, 1) := by decide +kernel
theorem dL_law_1490 : decode cL_law 1490 = .ok (.ireturn, 1) := by decide +kernel
theorem dL_law_1491 : decode cL_law 1491 = .ok (.aload_n 1, 1) := by decide +kernel
theorem dL_law_1492 : decode cL_law 1492 = .ok (.invokevirtual 191, 3) := by decide +kernel
theorem dL_law_1495 : decode cL_law 1495 = .ok (.aload_n 2, 1) := by decide +kernel
theorem dL_law_1496 : decode cL_law 1496 = .ok (.invokevirtual 194, 3) := by decide +kernel
theorem dL_law_1499 : decode cL_law 1499 = .ok (.if_icmp .eq 77, 3) := by decide +kernel
theorem dL_law_1502 : decode cL_law 1502 = .ok (.iconst 0, 1) := by decide +kernel
theorem dL_law_1503 : decode cL_law 1503 = .ok (.ireturn, 1) := by decide +kernel
theorem dL_law_1504 : decode cL_law 1504 = .ok (.aload_n 1, 1) := by decide +kernel
theorem dL_law_1505 : decode cL_law 1505 = .ok (.aload_n 0, 1) := by decide +kernel
theorem dL_law_1506 : decode cL_law 1506 = .ok (.iload_n 3, 1) := by decide +kernel
theorem dL_law_1507 : decode cL_law 1507 = .ok (.iconst 1, 1) := by decide +kernel
theorem dL_law_1508 : decode cL_law 1508 = .ok (.iadd, 1) := by decide +kernel
theorem dL_law_1509 : decode cL_law 1509 = .ok (.iaload, 1) := by decide +kernel
theorem dL_law_1510 : decode cL_law 1510 = .ok (.invokevirtual 195, 3) := by decide +kernel
theorem dL_law_1513 : decode cL_law 1513 = .ok (.aload_n 2, 1) := by decide +kernel
theorem dL_law_1514 : decode cL_law 1514 = .ok (.aload_n 0, 1) := by decide +kernel
theorem dL_law_1515 : decode cL_law 1515 = .ok (.iload_n 3, 1) := by decide +kernel
theorem dL_law_1516 : decode cL_law 1516 = .ok (.iconst 1, 1) := by decide +kernel
theorem dL_law_1517 : decode cL_law 1517 = .ok (.iadd, 1) := by decide +kernel
theorem dL_law_1518 : decode cL_law 1518 = .ok (.iaload, 1) := by decide +kernel
theorem dL_law_1519 : decode cL_law 1519 = .ok (.invokevirtual 198, 3) := by decide +kernel
theorem dL_law_1522 : decode cL_law 1522 = .ok (.if_icmp .eq 54, 3) := by decide +kernel
theorem dL_law_1525 : decode cL_law 1525 = .ok (.iconst 0, 1) := by decide +kernel
theorem dL_law_1526 : decode cL_law 1526 = .ok (.ireturn, 1) := by decide +kernel
theorem dL_law_1527 : decode cL_law 1527 = .ok (.aload_n 1, 1) := by decide +kernel
theorem dL_law_1528 : decode cL_law 1528 = .ok (.invokevirtual 199, 3) := by decide +kernel
theorem dL_law_1531 : decode cL_law 1531 = .ok (.aload_n 2, 1) := by decide +kernel
theorem dL_law_1532 : decode cL_law 1532 = .ok (.invokevirtual 202, 3) := by decide +kernel
theorem dL_law_1535 : decode cL_law 1535 = .ok (.if_icmp .eq 41, 3) := by decide +kernel
theorem dL_law_1538 : decode cL_law 1538 = .ok (.iconst 0, 1) := by decide +kernel
theorem dL_law_1539 : decode cL_law 1539 = .ok (.ireturn, 1) := by decide +kernel
theorem dL_law_1540 : decode cL_law 1540 = .ok (.aload_n 1, 1) := by decide +kernel
theorem dL_law_1541 : decode cL_law 1541 = .ok (.invokevirtual 203, 3) := by decide +kernel
theorem dL_law_1544 : decode cL_law 1544 = .ok (.aload_n 2, 1) := by decide +kernel
theorem dL_law_1545 : decode cL_law 1545 = .ok (.invokevirtual 206, 3) := by decide +kernel
theorem dL_law_1548 : decode cL_law 1548 = .ok (.if_icmp .eq 28, 3) := by decide +kernel
theorem dL_law_1551 : decode cL_law 1551 = .ok (.iconst 0, 1) := by decide +kernel
theorem dL_law_1552 : decode cL_law 1552 = .ok (.ireturn, 1) := by decide +kernel
theorem dL_law_1553 : decode cL_law 1553 = .ok (.aload_n 1, 1) := by decide +kernel
theorem dL_law_1554 : decode cL_law 1554 = .ok (.aload_n 0, 1) := by decide +kernel
theorem dL_law_1555 : decode cL_law 1555 = .ok (.iload_n 3, 1) := by decide +kernel
theorem dL_law_1556 : decode cL_law 1556 = .ok (.iconst 1, 1) := by decide +kernel
theorem dL_law_1557 : decode cL_law 1557 = .ok (.iadd, 1) := by decide +kernel
theorem dL_law_1558 : decode cL_law 1558 = .ok (.iaload, 1) := by decide +kernel
theorem dL_law_1559 : decode cL_law 1559 = .ok (.invokevirtual 207, 3) := by decide +kernel
theorem dL_law_1562 : decode cL_law 1562 = .ok (.aload_n 2, 1) := by decide +kernel
theorem dL_law_1563 : decode cL_law 1563 = .ok (.aload_n 0, 1) := by decide +kernel
theorem dL_law_1564 : decode cL_law 1564 = .ok (.iload_n 3, 1) := by decide +kernel
theorem dL_law_1565 : decode cL_law 1565 = .ok (.iconst 1, 1) := by decide +kernel
theorem dL_law_1566 : decode cL_law 1566 = .ok (.iadd, 1) := by decide +kernel
theorem dL_law_1567 : decode cL_law 1567 = .ok (.iaload, 1) := by decide +kernel
theorem dL_law_1568 : decode cL_law 1568 = .ok (.invokevirtual 210, 3) := by decide +kernel
theorem dL_law_1571 : decode cL_law 1571 = .ok (.if_icmp .eq 5, 3) := by decide +kernel
theorem dL_law_1574 : decode cL_law 1574 = .ok (.iconst 0, 1) := by decide +kernel
theorem dL_law_1575 : decode cL_law 1575 = .ok (.ireturn, 1) := by decide +kernel
theorem dL_law_1576 : decode cL_law 1576 = .ok (.iinc 3 6, 3) := by decide +kernel
theorem dL_law_1579 : decode cL_law 1579 = .ok (.goto (-1561), 3) := by decide +kernel
theorem dL_law_1582 : decode cL_law 1582 = .ok (.iconst 1, 1) := by decide +kernel
theorem dL_law_1583 : decode cL_law 1583 = .ok (.ireturn, 1) := by decide +kernel
theorem BL_law_0 {d bc bs : Nat} {h : aH} {n : Nat} {Q : aQ} {r0 : Option Nat} {l1 l2 l3 : Option aV} (k : Rn d bc bs mL_law 3 [some (vR r0), l1, l2, l3] [vR (some n)] (up h n (cO 12 [vR none, vR none, vR none, vR none, vR none, vR none, vR none, vR none, vI 0, vI 0])) (n + 1) Q) : Rn d (bc + 1) (bs + 10) mL_law 0 [some (vR r0), l1, l2, l3] [] h n Q := by
  refine Rn_new (ci := 12) (bc := bc) (bs := bs) (by omega) (by omega) dL_law_0 rfl in_12 tyX12_ok nf_12 wd_143 wd_144 wd_122 (fs := [vR none, vR none, vR none, vR none, vR none, vR none, vR none, vR none, vI 0, vI 0]) rfl ?_
  exact k
theorem BL_law_3 {d bc bs bc1 bs1 : Nat} {h : aH} {n : Nat} {Q : aQ} {r0 : Option Nat} {l1 l2 l3 : Option aV} {aq0 : Nat} (k : Rn d bc1 bs1 mX12_init 0 [some (vR (some aq0))] [] h n (fun v h1 n1 => Rn (d + 1) bc bs mL_law 7 [some (vR r0), l1, l2, l3] (v.toList ++ [vR (some aq0)]) h1 n1 Q)) : Rn (d + 1) (bc1 + bc) (bs1 + bs) mL_law 3 [some (vR r0), l1, l2, l3] [vR (some aq0)] h n Q := by
  refine Rn_dup dL_law_3 rfl ?_
  exact Rn_callI (avs := []) (st := [vR (some aq0)]) (bc1 := bc1) (bs1 := bs1) (bc2 := bc) (bs2 := bs) fx_X12_init rfl rfl dL_law_4 (Or.inl wd_145) wd_146 rfl (Nat.le_of_ble_eq_true rfl) (Nat.le_of_ble_eq_true rfl) (by omega) (by omega) (ls1 := [some (vR (some aq0))]) rfl k
theorem BL_law_7 {d bc bs : Nat} {h : aH} {n : Nat} {Q : aQ} {r0 q0 : Option Nat} {l1 l2 l3 : Option aV} (k : Rn d bc bs mL_law 11 [some (vR r0), some (vR q0), l2, l3] [vR (some n)] (up h n (cO 13 [vR none, vR none, vR none, vR none, vI 0, vI 0, vI 0, vI 0, vI 0, vI 0, vI 0, vL 0, vI 0, vI 0, vI 0, vR none, vI 0, vI 0, vI 0, vI 0, vR none, vR none, vR none, vI 0, vI 0, vR none, vR none, vR none, vI 0, vI 0, vR none, vR none, vR none, vR none])) (n + 1) Q) : Rn d (bc + 1) (bs + 34) mL_law 7 [some (vR r0), l1, l2, l3] [vR q0] h n Q := by
  refine Rn_astore_n dL_law_7 rfl (Nat.le_of_ble_eq_true rfl) rfl rfl rfl ?_
  refine Rn_new (ci := 13) (bc := bc) (bs := bs) (by omega) (by omega) dL_law_8 rfl in_13 tyX13_ok nf_13 wd_1343 wd_1344 wd_134 (fs := [vR none, vR none, vR none, vR none, vI 0, vI 0, vI 0, vI 0, vI 0, vI 0, vI 0, vL 0, vI 0, vI 0, vI 0, vR none, vI 0, vI 0, vI 0, vI 0, vR none, vR none, vR none, vI 0, vI 0, vR none, vR none, vR none, vI 0, vI 0, vR none, vR none, vR none, vR none]) rfl ?_
  exact k
theorem BL_law_11 {d bc bs bc1 bs1 : Nat} {h : aH} {n : Nat} {Q : aQ} {r0 r1 : Option Nat} {l2 l3 : Option aV} {aq0 : Nat} (k : Rn d bc1 bs1 mX13_init 0 [some (vR (some aq0)), none] [] h n (fun v h1 n1 => Rn (d + 1) bc bs mL_law 15 [some (vR r0), some (vR r1), l2, l3] (v.toList ++ [vR (some aq0)]) h1 n1 Q)) : Rn (d + 1) (bc1 + bc) (bs1 + bs) mL_law 11 [some (vR r0), some (vR r1), l2, l3] [vR (some aq0)] h n Q := by
  refine Rn_dup dL_law_11 rfl ?_
  exact Rn_callI (avs := []) (st := [vR (some aq0)]) (bc1 := bc1) (bs1 := bs1) (bc2 := bc) (bs2 := bs) fx_X13_init rfl rfl dL_law_12 (Or.inl wd_1345) wd_1346 rfl (Nat.le_of_ble_eq_true rfl) (Nat.le_of_ble_eq_true rfl) (by omega) (by omega) (ls1 := [some (vR (some aq0)), none]) rfl k
theorem BL_law_15 {d bc bs : Nat} {h : aH} {n : Nat} {Q : aQ} {r0 r1 q0 : Option Nat} {l2 l3 : Option aV} (k : Rn d bc bs mL_law 18 [some (vR r0), some (vR r1), some (vR q0), some (vI 0)] [] h n Q) : Rn d (bc) (bs) mL_law 15 [some (vR r0), some (vR r1), l2, l3] [vR q0] h n Q := by
  refine Rn_astore_n dL_law_15 rfl (Nat.le_of_ble_eq_true rfl) rfl rfl rfl ?_
  refine Rn_iconst dL_law_16 rfl ?_
  refine Rn_istore_n dL_law_17 rfl (Nat.le_of_ble_eq_true rfl) rfl rfl ?_
  exact k
theorem BL_law_18 {d bc bs : Nat} {h : aH} {n : Nat} {Q : aQ} {ar0 : Nat} {r1 r2 : Option Nat} {x3 : Int} {w1 : List Int} (h2 : h ar0 = cI w1) (y3 : w1.length < 2147483648) (p4 : ar0 = 0) (b5 : -2147483648 ≤ (w1.length : Int) - 6 ∧ (w1.length : Int) - 6 < 2147483648) (kt : ((w1.length : Int) - 6) < x3 → Rn d bc bs mL_law 1582 [some (vR (some ar0)), some (vR r1), some (vR r2), some (vI x3)] [] h n Q) (kf : x3 ≤ ((w1.length : Int) - 6) → Rn d bc bs mL_law 27 [some (vR (some ar0)), some (vR r1), some (vR r2), some (vI x3)] [] h n Q) : Rn d (bc) (bs) mL_law 18 [some (vR (some ar0)), some (vR r1), some (vR r2), some (vI x3)] [] h n Q := by
  refine Rn_iload_n dL_law_18 rfl rfl ?_
  refine Rn_aload_n dL_law_19 rfl rfl rfl ?_
  subst p4
  refine Rn_alen0 dL_law_20 h2 y3 ?_
  refine Rn_bipush dL_law_21 rfl ?_
  refine Rn_isub dL_law_23 ?_
  rw [w32_id b5.1 b5.2]
  refine Rn_icmpgt (tgt := 1582) dL_law_24 rfl ?_ ?_
  · exact kt
  · exact kf
theorem BL_law_27 {d bc bs : Nat} {h : aH} {n : Nat} {Q : aQ} {ar0 : Nat} {r1 r2 : Option Nat} {x3 v3 : Int} {w1 : List Int} (h2 : h ar0 = cI w1) (i4 : 0 ≤ x3) (g5 : w1[(x3 : Int).toNat]? = some v3) (kd : ((and32 v3 63) < 0 ∨ 46 < (and32 v3 63)) → Rn d bc bs mL_law 1576 [some (vR (some ar0)), some (vR r1), some (vR r2), some (vI x3)] [] h n Q) (k0 : (and32 v3 63) = 0 → Rn d bc bs mL_law 236 [some (vR (some ar0)), some (vR r1), some (vR r2), some (vI x3)] [] h n Q) (k1 : (and32 v3 63) = 1 → Rn d bc bs mL_law 269 [some (vR (some ar0)), some (vR r1), some (vR r2), some (vI x3)] [] h n Q) (k2 : (and32 v3 63) = 2 → Rn d bc bs mL_law 312 [some (vR (some ar0)), some (vR r1), some (vR r2), some (vI x3)] [] h n Q) (k3 : (and32 v3 63) = 3 → Rn d bc bs mL_law 375 [some (vR (some ar0)), some (vR r1), some (vR r2), some (vI x3)] [] h n Q) (k4 : (and32 v3 63) = 4 → Rn d bc bs mL_law 398 [some (vR (some ar0)), some (vR r1), some (vR r2), some (vI x3)] [] h n Q) (k5 : (and32 v3 63) = 5 → Rn d bc bs mL_law 411 [some (vR (some ar0)), some (vR r1), some (vR r2), some (vI x3)] [] h n Q) (k6 : (and32 v3 63) = 6 → Rn d bc bs mL_law 434 [some (vR (some ar0)), some (vR r1), some (vR r2), some (vI x3)] [] h n Q) (k7 : (and32 v3 63) = 7 → Rn d bc bs mL_law 457 [some (vR (some ar0)), some (vR r1), some (vR r2), some (vI x3)] [] h n Q) (k8 : (and32 v3 63) = 8 → Rn d bc bs mL_law 500 [some (vR (some ar0)), some (vR r1), some (vR r2), some (vI x3)] [] h n Q) (k9 : (and32 v3 63) = 9 → Rn d bc bs mL_law 533 [some (vR (some ar0)), some (vR r1), some (vR r2), some (vI x3)] [] h n Q) (k10 : (and32 v3 63) = 10 → Rn d bc bs mL_law 556 [some (vR (some ar0)), some (vR r1), some (vR r2), some (vI x3)] [] h n Q) (k11 : (and32 v3 63) = 11 → Rn d bc bs mL_law 579 [some (vR (some ar0)), some (vR r1), some (vR r2), some (vI x3)] [] h n Q) (k12 : (and32 v3 63) = 12 → Rn d bc bs mL_law 602 [some (vR (some ar0)), some (vR r1), some (vR r2), some (vI x3)] [] h n Q) (k13 : (and32 v3 63) = 13 → Rn d bc bs mL_law 635 [some (vR (some ar0)), some (vR r1), some (vR r2), some (vI x3)] [] h n Q) (k14 : (and32 v3 63) = 14 → Rn d bc bs mL_law 648 [some (vR (some ar0)), some (vR r1), some (vR r2), some (vI x3)] [] h n Q) (k15 : (and32 v3 63) = 15 → Rn d bc bs mL_law 681 [some (vR (some ar0)), some (vR r1), some (vR r2), some (vI x3)] [] h n Q) (k16 : (and32 v3 63) = 16 → Rn d bc bs mL_law 714 [some (vR (some ar0)), some (vR r1), some (vR r2), some (vI x3)] [] h n Q) (k17 : (and32 v3 63) = 17 → Rn d bc bs mL_law 747 [some (vR (some ar0)), some (vR r1), some (vR r2), some (vI x3)] [] h n Q) (k18 : (and32 v3 63) = 18 → Rn d bc bs mL_law 770 [some (vR (some ar0)), some (vR r1), some (vR r2), some (vI x3)] [] h n Q) (k19 : (and32 v3 63) = 19 → Rn d bc bs mL_law 803 [some (vR (some ar0)), some (vR r1), some (vR r2), some (vI x3)] [] h n Q) (k20 : (and32 v3 63) = 20 → Rn d bc bs mL_law 846 [some (vR (some ar0)), some (vR r1), some (vR r2), some (vI x3)] [] h n Q) (k21 : (and32 v3 63) = 21 → Rn d bc bs mL_law 869 [some (vR (some ar0)), some (vR r1), some (vR r2), some (vI x3)] [] h n Q) (k22 : (and32 v3 63) = 22 → Rn d bc bs mL_law 902 [some (vR (some ar0)), some (vR r1), some (vR r2), some (vI x3)] [] h n Q) (k23 : (and32 v3 63) = 23 → Rn d bc bs mL_law 945 [some (vR (some ar0)), some (vR r1), some (vR r2), some (vI x3)] [] h n Q) (k24 : (and32 v3 63) = 24 → Rn d bc bs mL_law 988 [some (vR (some ar0)), some (vR r1), some (vR r2), some (vI x3)] [] h n Q) (k25 : (and32 v3 63) = 25 → Rn d bc bs mL_law 1021 [some (vR (some ar0)), some (vR r1), some (vR r2), some (vI x3)] [] h n Q) (k26 : (and32 v3 63) = 26 → Rn d bc bs mL_law 1044 [some (vR (some ar0)), some (vR r1), some (vR r2), some (vI x3)] [] h n Q) (k27 : (and32 v3 63) = 27 → Rn d bc bs mL_law 1114 [some (vR (some ar0)), some (vR r1), some (vR r2), some (vI x3)] [] h n Q) (k28 : (and32 v3 63) = 28 → Rn d bc bs mL_law 1147 [some (vR (some ar0)), some (vR r1), some (vR r2), some (vI x3)] [] h n Q) (k29 : (and32 v3 63) = 29 → Rn d bc bs mL_law 1170 [some (vR (some ar0)), some (vR r1), some (vR r2), some (vI x3)] [] h n Q) (k30 : (and32 v3 63) = 30 → Rn d bc bs mL_law 1193 [some (vR (some ar0)), some (vR r1), some (vR r2), some (vI x3)] [] h n Q) (k31 : (and32 v3 63) = 31 → Rn d bc bs mL_law 1217 [some (vR (some ar0)), some (vR r1), some (vR r2), some (vI x3)] [] h n Q) (k32 : (and32 v3 63) = 32 → Rn d bc bs mL_law 1250 [some (vR (some ar0)), some (vR r1), some (vR r2), some (vI x3)] [] h n Q) (k33 : (and32 v3 63) = 33 → Rn d bc bs mL_law 1273 [some (vR (some ar0)), some (vR r1), some (vR r2), some (vI x3)] [] h n Q) (k34 : (and32 v3 63) = 34 → Rn d bc bs mL_law 1306 [some (vR (some ar0)), some (vR r1), some (vR r2), some (vI x3)] [] h n Q) (k35 : (and32 v3 63) = 35 → Rn d bc bs mL_law 1339 [some (vR (some ar0)), some (vR r1), some (vR r2), some (vI x3)] [] h n Q) (k36 : (and32 v3 63) = 36 → Rn d bc bs mL_law 1363 [some (vR (some ar0)), some (vR r1), some (vR r2), some (vI x3)] [] h n Q) (k37 : (and32 v3 63) = 37 → Rn d bc bs mL_law 1406 [some (vR (some ar0)), some (vR r1), some (vR r2), some (vI x3)] [] h n Q) (k38 : (and32 v3 63) = 38 → Rn d bc bs mL_law 1439 [some (vR (some ar0)), some (vR r1), some (vR r2), some (vI x3)] [] h n Q) (k39 : (and32 v3 63) = 39 → Rn d bc bs mL_law 1452 [some (vR (some ar0)), some (vR r1), some (vR r2), some (vI x3)] [] h n Q) (k40 : (and32 v3 63) = 40 → Rn d bc bs mL_law 1465 [some (vR (some ar0)), some (vR r1), some (vR r2), some (vI x3)] [] h n Q) (k41 : (and32 v3 63) = 41 → Rn d bc bs mL_law 1478 [some (vR (some ar0)), some (vR r1), some (vR r2), some (vI x3)] [] h n Q) (k42 : (and32 v3 63) = 42 → Rn d bc bs mL_law 1491 [some (vR (some ar0)), some (vR r1), some (vR r2), some (vI x3)] [] h n Q) (k43 : (and32 v3 63) = 43 → Rn d bc bs mL_law 1504 [some (vR (some ar0)), some (vR r1), some (vR r2), some (vI x3)] [] h n Q) (k44 : (and32 v3 63) = 44 → Rn d bc bs mL_law 1527 [some (vR (some ar0)), some (vR r1), some (vR r2), some (vI x3)] [] h n Q) (k45 : (and32 v3 63) = 45 → Rn d bc bs mL_law 1540 [some (vR (some ar0)), some (vR r1), some (vR r2), some (vI x3)] [] h n Q) (k46 : (and32 v3 63) = 46 → Rn d bc bs mL_law 1553 [some (vR (some ar0)), some (vR r1), some (vR r2), some (vI x3)] [] h n Q) : Rn d (bc) (bs) mL_law 27 [some (vR (some ar0)), some (vR r1), some (vR r2), some (vI x3)] [] h n Q := by
  refine Rn_aload_n dL_law_27 rfl rfl rfl ?_
  refine Rn_iload_n dL_law_28 rfl rfl ?_
  refine Rn_iaload dL_law_29 h2 i4 g5 ?_
  refine Rn_bipush dL_law_30 rfl ?_
  refine Rn_iand dL_law_32 ?_
  by_cases hq : (and32 v3 63) < 0 ∨ 46 < (and32 v3 63)
  · exact Rn_tableOut (tgt := 1576) dL_law_33 hq rfl (kd hq)
  rcases (show (and32 v3 63) = 0 ∨ (and32 v3 63) = 1 ∨ (and32 v3 63) = 2 ∨ (and32 v3 63) = 3 ∨ (and32 v3 63) = 4 ∨ (and32 v3 63) = 5 ∨ (and32 v3 63) = 6 ∨ (and32 v3 63) = 7 ∨ (and32 v3 63) = 8 ∨ (and32 v3 63) = 9 ∨ (and32 v3 63) = 10 ∨ (and32 v3 63) = 11 ∨ (and32 v3 63) = 12 ∨ (and32 v3 63) = 13 ∨ (and32 v3 63) = 14 ∨ (and32 v3 63) = 15 ∨ (and32 v3 63) = 16 ∨ (and32 v3 63) = 17 ∨ (and32 v3 63) = 18 ∨ (and32 v3 63) = 19 ∨ (and32 v3 63) = 20 ∨ (and32 v3 63) = 21 ∨ (and32 v3 63) = 22 ∨ (and32 v3 63) = 23 ∨ (and32 v3 63) = 24 ∨ (and32 v3 63) = 25 ∨ (and32 v3 63) = 26 ∨ (and32 v3 63) = 27 ∨ (and32 v3 63) = 28 ∨ (and32 v3 63) = 29 ∨ (and32 v3 63) = 30 ∨ (and32 v3 63) = 31 ∨ (and32 v3 63) = 32 ∨ (and32 v3 63) = 33 ∨ (and32 v3 63) = 34 ∨ (and32 v3 63) = 35 ∨ (and32 v3 63) = 36 ∨ (and32 v3 63) = 37 ∨ (and32 v3 63) = 38 ∨ (and32 v3 63) = 39 ∨ (and32 v3 63) = 40 ∨ (and32 v3 63) = 41 ∨ (and32 v3 63) = 42 ∨ (and32 v3 63) = 43 ∨ (and32 v3 63) = 44 ∨ (and32 v3 63) = 45 ∨ (and32 v3 63) = 46 by omega) with hz | hz | hz | hz | hz | hz | hz | hz | hz | hz | hz | hz | hz | hz | hz | hz | hz | hz | hz | hz | hz | hz | hz | hz | hz | hz | hz | hz | hz | hz | hz | hz | hz | hz | hz | hz | hz | hz | hz | hz | hz | hz | hz | hz | hz | hz | hz
  · exact Rn_tableIn (tgt := 236) dL_law_33 (by omega) (by omega) (by rw [hz] <;> rfl) rfl (k0 hz)
  · exact Rn_tableIn (tgt := 269) dL_law_33 (by omega) (by omega) (by rw [hz] <;> rfl) rfl (k1 hz)
  · exact Rn_tableIn (tgt := 312) dL_law_33 (by omega) (by omega) (by rw [hz] <;> rfl) rfl (k2 hz)
  · exact Rn_tableIn (tgt := 375) dL_law_33 (by omega) (by omega) (by rw [hz] <;> rfl) rfl (k3 hz)
  · exact Rn_tableIn (tgt := 398) dL_law_33 (by omega) (by omega) (by rw [hz] <;> rfl) rfl (k4 hz)
  · exact Rn_tableIn (tgt := 411) dL_law_33 (by omega) (by omega) (by rw [hz] <;> rfl) rfl (k5 hz)
  · exact Rn_tableIn (tgt := 434) dL_law_33 (by omega) (by omega) (by rw [hz] <;> rfl) rfl (k6 hz)
  · exact Rn_tableIn (tgt := 457) dL_law_33 (by omega) (by omega) (by rw [hz] <;> rfl) rfl (k7 hz)
  · exact Rn_tableIn (tgt := 500) dL_law_33 (by omega) (by omega) (by rw [hz] <;> rfl) rfl (k8 hz)
  · exact Rn_tableIn (tgt := 533) dL_law_33 (by omega) (by omega) (by rw [hz] <;> rfl) rfl (k9 hz)
  · exact Rn_tableIn (tgt := 556) dL_law_33 (by omega) (by omega) (by rw [hz] <;> rfl) rfl (k10 hz)
  · exact Rn_tableIn (tgt := 579) dL_law_33 (by omega) (by omega) (by rw [hz] <;> rfl) rfl (k11 hz)
  · exact Rn_tableIn (tgt := 602) dL_law_33 (by omega) (by omega) (by rw [hz] <;> rfl) rfl (k12 hz)
  · exact Rn_tableIn (tgt := 635) dL_law_33 (by omega) (by omega) (by rw [hz] <;> rfl) rfl (k13 hz)
  · exact Rn_tableIn (tgt := 648) dL_law_33 (by omega) (by omega) (by rw [hz] <;> rfl) rfl (k14 hz)
  · exact Rn_tableIn (tgt := 681) dL_law_33 (by omega) (by omega) (by rw [hz] <;> rfl) rfl (k15 hz)
  · exact Rn_tableIn (tgt := 714) dL_law_33 (by omega) (by omega) (by rw [hz] <;> rfl) rfl (k16 hz)
  · exact Rn_tableIn (tgt := 747) dL_law_33 (by omega) (by omega) (by rw [hz] <;> rfl) rfl (k17 hz)
  · exact Rn_tableIn (tgt := 770) dL_law_33 (by omega) (by omega) (by rw [hz] <;> rfl) rfl (k18 hz)
  · exact Rn_tableIn (tgt := 803) dL_law_33 (by omega) (by omega) (by rw [hz] <;> rfl) rfl (k19 hz)
  · exact Rn_tableIn (tgt := 846) dL_law_33 (by omega) (by omega) (by rw [hz] <;> rfl) rfl (k20 hz)
  · exact Rn_tableIn (tgt := 869) dL_law_33 (by omega) (by omega) (by rw [hz] <;> rfl) rfl (k21 hz)
  · exact Rn_tableIn (tgt := 902) dL_law_33 (by omega) (by omega) (by rw [hz] <;> rfl) rfl (k22 hz)
  · exact Rn_tableIn (tgt := 945) dL_law_33 (by omega) (by omega) (by rw [hz] <;> rfl) rfl (k23 hz)
  · exact Rn_tableIn (tgt := 988) dL_law_33 (by omega) (by omega) (by rw [hz] <;> rfl) rfl (k24 hz)
  · exact Rn_tableIn (tgt := 1021) dL_law_33 (by omega) (by omega) (by rw [hz] <;> rfl) rfl (k25 hz)
  · exact Rn_tableIn (tgt := 1044) dL_law_33 (by omega) (by omega) (by rw [hz] <;> rfl) rfl (k26 hz)
  · exact Rn_tableIn (tgt := 1114) dL_law_33 (by omega) (by omega) (by rw [hz] <;> rfl) rfl (k27 hz)
  · exact Rn_tableIn (tgt := 1147) dL_law_33 (by omega) (by omega) (by rw [hz] <;> rfl) rfl (k28 hz)
  · exact Rn_tableIn (tgt := 1170) dL_law_33 (by omega) (by omega) (by rw [hz] <;> rfl) rfl (k29 hz)
  · exact Rn_tableIn (tgt := 1193) dL_law_33 (by omega) (by omega) (by rw [hz] <;> rfl) rfl (k30 hz)
  · exact Rn_tableIn (tgt := 1217) dL_law_33 (by omega) (by omega) (by rw [hz] <;> rfl) rfl (k31 hz)
  · exact Rn_tableIn (tgt := 1250) dL_law_33 (by omega) (by omega) (by rw [hz] <;> rfl) rfl (k32 hz)
  · exact Rn_tableIn (tgt := 1273) dL_law_33 (by omega) (by omega) (by rw [hz] <;> rfl) rfl (k33 hz)
  · exact Rn_tableIn (tgt := 1306) dL_law_33 (by omega) (by omega) (by rw [hz] <;> rfl) rfl (k34 hz)
  · exact Rn_tableIn (tgt := 1339) dL_law_33 (by omega) (by omega) (by rw [hz] <;> rfl) rfl (k35 hz)
  · exact Rn_tableIn (tgt := 1363) dL_law_33 (by omega) (by omega) (by rw [hz] <;> rfl) rfl (k36 hz)
  · exact Rn_tableIn (tgt := 1406) dL_law_33 (by omega) (by omega) (by rw [hz] <;> rfl) rfl (k37 hz)
  · exact Rn_tableIn (tgt := 1439) dL_law_33 (by omega) (by omega) (by rw [hz] <;> rfl) rfl (k38 hz)
  · exact Rn_tableIn (tgt := 1452) dL_law_33 (by omega) (by omega) (by rw [hz] <;> rfl) rfl (k39 hz)
  · exact Rn_tableIn (tgt := 1465) dL_law_33 (by omega) (by omega) (by rw [hz] <;> rfl) rfl (k40 hz)
  · exact Rn_tableIn (tgt := 1478) dL_law_33 (by omega) (by omega) (by rw [hz] <;> rfl) rfl (k41 hz)
  · exact Rn_tableIn (tgt := 1491) dL_law_33 (by omega) (by omega) (by rw [hz] <;> rfl) rfl (k42 hz)
  · exact Rn_tableIn (tgt := 1504) dL_law_33 (by omega) (by omega) (by rw [hz] <;> rfl) rfl (k43 hz)
  · exact Rn_tableIn (tgt := 1527) dL_law_33 (by omega) (by omega) (by rw [hz] <;> rfl) rfl (k44 hz)
  · exact Rn_tableIn (tgt := 1540) dL_law_33 (by omega) (by omega) (by rw [hz] <;> rfl) rfl (k45 hz)
  · exact Rn_tableIn (tgt := 1553) dL_law_33 (by omega) (by omega) (by rw [hz] <;> rfl) rfl (k46 hz)
theorem BL_law_236 {d bc bs : Nat} {h : aH} {n : Nat} {Q : aQ} {ar0 ar1 : Nat} {r2 : Option Nat} {x3 v4 v8 : Int} {w2 : List Int} {f11 : List aV} (b1 : -2147483648 ≤ x3 + 1 ∧ x3 + 1 < 2147483648) (h3 : h ar0 = cI w2) (i5 : 0 ≤ x3 + 1) (g6 : w2[(x3 + 1 : Int).toNat]? = some v4) (b7 : -2147483648 ≤ x3 + 2 ∧ x3 + 2 < 2147483648) (i9 : 0 ≤ x3 + 2) (g10 : w2[(x3 + 2 : Int).toNat]? = some v8) (h12 : h ar1 = cO 12 f11) (k : Rn d 0 0 mX12_person 0 [some (vR (some ar1)), some (vI v4), some (vI v8)] [] h n (fun v h1 n1 => Rn (d + 1) bc bs mL_law 250 [some (vR (some ar0)), some (vR (some ar1)), some (vR r2), some (vI x3)] (v.toList ++ []) h1 n1 Q)) : Rn (d + 1) (bc) (bs) mL_law 236 [some (vR (some ar0)), some (vR (some ar1)), some (vR r2), some (vI x3)] [] h n Q := by
  refine Rn_aload_n dL_law_236 rfl rfl rfl ?_
  refine Rn_aload_n dL_law_237 rfl rfl rfl ?_
  refine Rn_iload_n dL_law_238 rfl rfl ?_
  refine Rn_iconst dL_law_239 rfl ?_
  refine Rn_iadd dL_law_240 ?_
  rw [w32_id b1.1 b1.2]
  refine Rn_iaload dL_law_241 h3 i5 g6 ?_
  refine Rn_aload_n dL_law_242 rfl rfl rfl ?_
  refine Rn_iload_n dL_law_243 rfl rfl ?_
  refine Rn_iconst dL_law_244 rfl ?_
  refine Rn_iadd dL_law_245 ?_
  rw [w32_id b7.1 b7.2]
  refine Rn_iaload dL_law_246 h3 i9 g10 ?_
  exact Rn_callV (ci := 12) (avs := [vI v4, vI v8]) (st := []) (bc1 := 0) (bs1 := 0) (bc2 := bc) (bs2 := bs) fx_X12_person dL_law_247 wd_491 wd_492 wd_493 rfl h12 rfl (Nat.le_of_ble_eq_true rfl) (Nat.le_of_ble_eq_true rfl) (by omega) (by omega) (ls1 := [some (vR (some ar1)), some (vI v4), some (vI v8)]) rfl k
theorem BL_law_250 {d bc bs : Nat} {h : aH} {n : Nat} {Q : aQ} {ar0 ar2 : Nat} {r1 : Option Nat} {x3 s0 v4 v8 : Int} {w2 : List Int} {f11 : List aV} (b1 : -2147483648 ≤ x3 + 1 ∧ x3 + 1 < 2147483648) (h3 : h ar0 = cI w2) (i5 : 0 ≤ x3 + 1) (g6 : w2[(x3 + 1 : Int).toNat]? = some v4) (b7 : -2147483648 ≤ x3 + 2 ∧ x3 + 2 < 2147483648) (i9 : 0 ≤ x3 + 2) (g10 : w2[(x3 + 2 : Int).toNat]? = some v8) (h12 : h ar2 = cO 13 f11) (k : Rn d 0 0 mX13_person 0 [some (vR (some ar2)), some (vI v4), some (vI v8)] [] h n (fun v h1 n1 => Rn (d + 1) bc bs mL_law 264 [some (vR (some ar0)), some (vR r1), some (vR (some ar2)), some (vI x3)] (v.toList ++ [vI s0]) h1 n1 Q)) : Rn (d + 1) (bc) (bs) mL_law 250 [some (vR (some ar0)), some (vR r1), some (vR (some ar2)), some (vI x3)] [vI s0] h n Q := by
  refine Rn_aload_n dL_law_250 rfl rfl rfl ?_
  refine Rn_aload_n dL_law_251 rfl rfl rfl ?_
  refine Rn_iload_n dL_law_252 rfl rfl ?_
  refine Rn_iconst dL_law_253 rfl ?_
  refine Rn_iadd dL_law_254 ?_
  rw [w32_id b1.1 b1.2]
  refine Rn_iaload dL_law_255 h3 i5 g6 ?_
  refine Rn_aload_n dL_law_256 rfl rfl rfl ?_
  refine Rn_iload_n dL_law_257 rfl rfl ?_
  refine Rn_iconst dL_law_258 rfl ?_
  refine Rn_iadd dL_law_259 ?_
  rw [w32_id b7.1 b7.2]
  refine Rn_iaload dL_law_260 h3 i9 g10 ?_
  exact Rn_callV (ci := 13) (avs := [vI v4, vI v8]) (st := [vI s0]) (bc1 := 0) (bs1 := 0) (bc2 := bc) (bs2 := bs) fx_X13_person dL_law_261 wd_1456 wd_1457 wd_1458 rfl h12 rfl (Nat.le_of_ble_eq_true rfl) (Nat.le_of_ble_eq_true rfl) (by omega) (by omega) (ls1 := [some (vR (some ar2)), some (vI v4), some (vI v8)]) rfl k
theorem BL_law_264 {d bc bs : Nat} {h : aH} {n : Nat} {Q : aQ} {r0 r1 r2 : Option Nat} {x3 s0 s1 : Int} (kt : s0 = s1 → Rn d bc bs mL_law 1576 [some (vR r0), some (vR r1), some (vR r2), some (vI x3)] [] h n Q) (kf : s0 ≠ s1 → Rn d bc bs mL_law 267 [some (vR r0), some (vR r1), some (vR r2), some (vI x3)] [] h n Q) : Rn d (bc) (bs) mL_law 264 [some (vR r0), some (vR r1), some (vR r2), some (vI x3)] [vI s1, vI s0] h n Q := by
  refine Rn_icmpeq (tgt := 1576) dL_law_264 rfl ?_ ?_
  · exact kt
  · exact kf
theorem BL_law_267 {d bc bs : Nat} {h : aH} {n : Nat} {Q : aQ} {r0 r1 r2 : Option Nat} {x3 : Int} (k : Q (some (vI 0)) h n) : Rn d (bc) (bs) mL_law 267 [some (vR r0), some (vR r1), some (vR r2), some (vI x3)] [] h n Q := by
  refine Rn_iconst dL_law_267 rfl ?_
  exact Rn_zreturn rfl dL_law_268 (by decide) k
theorem BL_law_269 {d bc bs : Nat} {h : aH} {n : Nat} {Q : aQ} {ar0 ar1 : Nat} {r2 : Option Nat} {x3 v4 v8 v12 : Int} {w2 : List Int} {f15 : List aV} (b1 : -2147483648 ≤ x3 + 1 ∧ x3 + 1 < 2147483648) (h3 : h ar0 = cI w2) (i5 : 0 ≤ x3 + 1) (g6 : w2[(x3 + 1 : Int).toNat]? = some v4) (b7 : -2147483648 ≤ x3 + 2 ∧ x3 + 2 < 2147483648) (i9 : 0 ≤ x3 + 2) (g10 : w2[(x3 + 2 : Int).toNat]? = some v8) (b11 : -2147483648 ≤ x3 + 3 ∧ x3 + 3 < 2147483648) (i13 : 0 ≤ x3 + 3) (g14 : w2[(x3 + 3 : Int).toNat]? = some v12) (h16 : h ar1 = cO 12 f15) (k : Rn d 0 0 mX12_current 0 [some (vR (some ar1)), some (vI v4), some (vI v8), some (vI v12)] [] h n (fun v h1 n1 => Rn (d + 1) bc bs mL_law 288 [some (vR (some ar0)), some (vR (some ar1)), some (vR r2), some (vI x3)] (v.toList ++ []) h1 n1 Q)) : Rn (d + 1) (bc) (bs) mL_law 269 [some (vR (some ar0)), some (vR (some ar1)), some (vR r2), some (vI x3)] [] h n Q := by
  refine Rn_aload_n dL_law_269 rfl rfl rfl ?_
  refine Rn_aload_n dL_law_270 rfl rfl rfl ?_
  refine Rn_iload_n dL_law_271 rfl rfl ?_
  refine Rn_iconst dL_law_272 rfl ?_
  refine Rn_iadd dL_law_273 ?_
  rw [w32_id b1.1 b1.2]
  refine Rn_iaload dL_law_274 h3 i5 g6 ?_
  refine Rn_aload_n dL_law_275 rfl rfl rfl ?_
  refine Rn_iload_n dL_law_276 rfl rfl ?_
  refine Rn_iconst dL_law_277 rfl ?_
  refine Rn_iadd dL_law_278 ?_
  rw [w32_id b7.1 b7.2]
  refine Rn_iaload dL_law_279 h3 i9 g10 ?_
  refine Rn_aload_n dL_law_280 rfl rfl rfl ?_
  refine Rn_iload_n dL_law_281 rfl rfl ?_
  refine Rn_iconst dL_law_282 rfl ?_
  refine Rn_iadd dL_law_283 ?_
  rw [w32_id b11.1 b11.2]
  refine Rn_iaload dL_law_284 h3 i13 g14 ?_
  exact Rn_callV (ci := 12) (avs := [vI v4, vI v8, vI v12]) (st := []) (bc1 := 0) (bs1 := 0) (bc2 := bc) (bs2 := bs) fx_X12_current dL_law_285 wd_506 wd_507 wd_508 rfl h16 rfl (Nat.le_of_ble_eq_true rfl) (Nat.le_of_ble_eq_true rfl) (by omega) (by omega) (ls1 := [some (vR (some ar1)), some (vI v4), some (vI v8), some (vI v12)]) rfl k
theorem BL_law_288 {d bc bs : Nat} {h : aH} {n : Nat} {Q : aQ} {ar0 ar2 : Nat} {r1 : Option Nat} {x3 s0 v4 v8 v12 : Int} {w2 : List Int} {f15 : List aV} (b1 : -2147483648 ≤ x3 + 1 ∧ x3 + 1 < 2147483648) (h3 : h ar0 = cI w2) (i5 : 0 ≤ x3 + 1) (g6 : w2[(x3 + 1 : Int).toNat]? = some v4) (b7 : -2147483648 ≤ x3 + 2 ∧ x3 + 2 < 2147483648) (i9 : 0 ≤ x3 + 2) (g10 : w2[(x3 + 2 : Int).toNat]? = some v8) (b11 : -2147483648 ≤ x3 + 3 ∧ x3 + 3 < 2147483648) (i13 : 0 ≤ x3 + 3) (g14 : w2[(x3 + 3 : Int).toNat]? = some v12) (h16 : h ar2 = cO 13 f15) (k : Rn d 0 0 mX13_current 0 [some (vR (some ar2)), some (vI v4), some (vI v8), some (vI v12)] [] h n (fun v h1 n1 => Rn (d + 1) bc bs mL_law 307 [some (vR (some ar0)), some (vR r1), some (vR (some ar2)), some (vI x3)] (v.toList ++ [vI s0]) h1 n1 Q)) : Rn (d + 1) (bc) (bs) mL_law 288 [some (vR (some ar0)), some (vR r1), some (vR (some ar2)), some (vI x3)] [vI s0] h n Q := by
  refine Rn_aload_n dL_law_288 rfl rfl rfl ?_
  refine Rn_aload_n dL_law_289 rfl rfl rfl ?_
  refine Rn_iload_n dL_law_290 rfl rfl ?_
  refine Rn_iconst dL_law_291 rfl ?_
  refine Rn_iadd dL_law_292 ?_
  rw [w32_id b1.1 b1.2]
  refine Rn_iaload dL_law_293 h3 i5 g6 ?_
  refine Rn_aload_n dL_law_294 rfl rfl rfl ?_
  refine Rn_iload_n dL_law_295 rfl rfl ?_
  refine Rn_iconst dL_law_296 rfl ?_
  refine Rn_iadd dL_law_297 ?_
  rw [w32_id b7.1 b7.2]
  refine Rn_iaload dL_law_298 h3 i9 g10 ?_
  refine Rn_aload_n dL_law_299 rfl rfl rfl ?_
  refine Rn_iload_n dL_law_300 rfl rfl ?_
  refine Rn_iconst dL_law_301 rfl ?_
  refine Rn_iadd dL_law_302 ?_
  rw [w32_id b11.1 b11.2]
  refine Rn_iaload dL_law_303 h3 i13 g14 ?_
  exact Rn_callV (ci := 13) (avs := [vI v4, vI v8, vI v12]) (st := [vI s0]) (bc1 := 0) (bs1 := 0) (bc2 := bc) (bs2 := bs) fx_X13_current dL_law_304 wd_1466 wd_1467 wd_1468 rfl h16 rfl (Nat.le_of_ble_eq_true rfl) (Nat.le_of_ble_eq_true rfl) (by omega) (by omega) (ls1 := [some (vR (some ar2)), some (vI v4), some (vI v8), some (vI v12)]) rfl k
theorem BL_law_307 {d bc bs : Nat} {h : aH} {n : Nat} {Q : aQ} {r0 r1 r2 : Option Nat} {x3 s0 s1 : Int} (kt : s0 = s1 → Rn d bc bs mL_law 1576 [some (vR r0), some (vR r1), some (vR r2), some (vI x3)] [] h n Q) (kf : s0 ≠ s1 → Rn d bc bs mL_law 310 [some (vR r0), some (vR r1), some (vR r2), some (vI x3)] [] h n Q) : Rn d (bc) (bs) mL_law 307 [some (vR r0), some (vR r1), some (vR r2), some (vI x3)] [vI s1, vI s0] h n Q := by
  refine Rn_icmpeq (tgt := 1576) dL_law_307 rfl ?_ ?_
  · exact kt
  · exact kf
theorem BL_law_310 {d bc bs : Nat} {h : aH} {n : Nat} {Q : aQ} {r0 r1 r2 : Option Nat} {x3 : Int} (k : Q (some (vI 0)) h n) : Rn d (bc) (bs) mL_law 310 [some (vR r0), some (vR r1), some (vR r2), some (vI x3)] [] h n Q := by
  refine Rn_iconst dL_law_310 rfl ?_
  exact Rn_zreturn rfl dL_law_311 (by decide) k
theorem BL_law_312 {d bc bs : Nat} {h : aH} {n : Nat} {Q : aQ} {ar0 ar1 : Nat} {r2 : Option Nat} {x3 v4 v8 v12 v16 v20 : Int} {w2 : List Int} {f23 : List aV} (b1 : -2147483648 ≤ x3 + 1 ∧ x3 + 1 < 2147483648) (h3 : h ar0 = cI w2) (i5 : 0 ≤ x3 + 1) (g6 : w2[(x3 + 1 : Int).toNat]? = some v4) (b7 : -2147483648 ≤ x3 + 2 ∧ x3 + 2 < 2147483648) (i9 : 0 ≤ x3 + 2) (g10 : w2[(x3 + 2 : Int).toNat]? = some v8) (b11 : -2147483648 ≤ x3 + 3 ∧ x3 + 3 < 2147483648) (i13 : 0 ≤ x3 + 3) (g14 : w2[(x3 + 3 : Int).toNat]? = some v12) (b15 : -2147483648 ≤ x3 + 4 ∧ x3 + 4 < 2147483648) (i17 : 0 ≤ x3 + 4) (g18 : w2[(x3 + 4 : Int).toNat]? = some v16) (b19 : -2147483648 ≤ x3 + 5 ∧ x3 + 5 < 2147483648) (i21 : 0 ≤ x3 + 5) (g22 : w2[(x3 + 5 : Int).toNat]? = some v20) (h24 : h ar1 = cO 12 f23) (k : Rn d 0 0 mX12_feed 0 [some (vR (some ar1)), some (vI v4), some (vI v8), some (vI v12), some (vI v16), some (vI v20)] [] h n (fun v h1 n1 => Rn (d + 1) bc bs mL_law 341 [some (vR (some ar0)), some (vR (some ar1)), some (vR r2), some (vI x3)] (v.toList ++ []) h1 n1 Q)) : Rn (d + 1) (bc) (bs) mL_law 312 [some (vR (some ar0)), some (vR (some ar1)), some (vR r2), some (vI x3)] [] h n Q := by
  refine Rn_aload_n dL_law_312 rfl rfl rfl ?_
  refine Rn_aload_n dL_law_313 rfl rfl rfl ?_
  refine Rn_iload_n dL_law_314 rfl rfl ?_
  refine Rn_iconst dL_law_315 rfl ?_
  refine Rn_iadd dL_law_316 ?_
  rw [w32_id b1.1 b1.2]
  refine Rn_iaload dL_law_317 h3 i5 g6 ?_
  refine Rn_aload_n dL_law_318 rfl rfl rfl ?_
  refine Rn_iload_n dL_law_319 rfl rfl ?_
  refine Rn_iconst dL_law_320 rfl ?_
  refine Rn_iadd dL_law_321 ?_
  rw [w32_id b7.1 b7.2]
  refine Rn_iaload dL_law_322 h3 i9 g10 ?_
  refine Rn_aload_n dL_law_323 rfl rfl rfl ?_
  refine Rn_iload_n dL_law_324 rfl rfl ?_
  refine Rn_iconst dL_law_325 rfl ?_
  refine Rn_iadd dL_law_326 ?_
  rw [w32_id b11.1 b11.2]
  refine Rn_iaload dL_law_327 h3 i13 g14 ?_
  refine Rn_aload_n dL_law_328 rfl rfl rfl ?_
  refine Rn_iload_n dL_law_329 rfl rfl ?_
  refine Rn_iconst dL_law_330 rfl ?_
  refine Rn_iadd dL_law_331 ?_
  rw [w32_id b15.1 b15.2]
  refine Rn_iaload dL_law_332 h3 i17 g18 ?_
  refine Rn_aload_n dL_law_333 rfl rfl rfl ?_
  refine Rn_iload_n dL_law_334 rfl rfl ?_
  refine Rn_iconst dL_law_335 rfl ?_
  refine Rn_iadd dL_law_336 ?_
  rw [w32_id b19.1 b19.2]
  refine Rn_iaload dL_law_337 h3 i21 g22 ?_
  exact Rn_callV (ci := 12) (avs := [vI v4, vI v8, vI v12, vI v16, vI v20]) (st := []) (bc1 := 0) (bs1 := 0) (bc2 := bc) (bs2 := bs) fx_X12_feed dL_law_338 wd_514 wd_515 wd_516 rfl h24 rfl (Nat.le_of_ble_eq_true rfl) (Nat.le_of_ble_eq_true rfl) (by omega) (by omega) (ls1 := [some (vR (some ar1)), some (vI v4), some (vI v8), some (vI v12), some (vI v16), some (vI v20)]) rfl k
theorem BL_law_341 {d bc bs : Nat} {h : aH} {n : Nat} {Q : aQ} {ar0 ar2 : Nat} {r1 : Option Nat} {x3 s0 v4 v8 v12 v16 v20 : Int} {w2 : List Int} {f23 : List aV} (b1 : -2147483648 ≤ x3 + 1 ∧ x3 + 1 < 2147483648) (h3 : h ar0 = cI w2) (i5 : 0 ≤ x3 + 1) (g6 : w2[(x3 + 1 : Int).toNat]? = some v4) (b7 : -2147483648 ≤ x3 + 2 ∧ x3 + 2 < 2147483648) (i9 : 0 ≤ x3 + 2) (g10 : w2[(x3 + 2 : Int).toNat]? = some v8) (b11 : -2147483648 ≤ x3 + 3 ∧ x3 + 3 < 2147483648) (i13 : 0 ≤ x3 + 3) (g14 : w2[(x3 + 3 : Int).toNat]? = some v12) (b15 : -2147483648 ≤ x3 + 4 ∧ x3 + 4 < 2147483648) (i17 : 0 ≤ x3 + 4) (g18 : w2[(x3 + 4 : Int).toNat]? = some v16) (b19 : -2147483648 ≤ x3 + 5 ∧ x3 + 5 < 2147483648) (i21 : 0 ≤ x3 + 5) (g22 : w2[(x3 + 5 : Int).toNat]? = some v20) (h24 : h ar2 = cO 13 f23) (k : Rn d 0 0 mX13_feed 0 [some (vR (some ar2)), some (vI v4), some (vI v8), some (vI v12), some (vI v16), some (vI v20)] [] h n (fun v h1 n1 => Rn (d + 1) bc bs mL_law 370 [some (vR (some ar0)), some (vR r1), some (vR (some ar2)), some (vI x3)] (v.toList ++ [vI s0]) h1 n1 Q)) : Rn (d + 1) (bc) (bs) mL_law 341 [some (vR (some ar0)), some (vR r1), some (vR (some ar2)), some (vI x3)] [vI s0] h n Q := by
  refine Rn_aload_n dL_law_341 rfl rfl rfl ?_
  refine Rn_aload_n dL_law_342 rfl rfl rfl ?_
  refine Rn_iload_n dL_law_343 rfl rfl ?_
  refine Rn_iconst dL_law_344 rfl ?_
  refine Rn_iadd dL_law_345 ?_
  rw [w32_id b1.1 b1.2]
  refine Rn_iaload dL_law_346 h3 i5 g6 ?_
  refine Rn_aload_n dL_law_347 rfl rfl rfl ?_
  refine Rn_iload_n dL_law_348 rfl rfl ?_
  refine Rn_iconst dL_law_349 rfl ?_
  refine Rn_iadd dL_law_350 ?_
  rw [w32_id b7.1 b7.2]
  refine Rn_iaload dL_law_351 h3 i9 g10 ?_
  refine Rn_aload_n dL_law_352 rfl rfl rfl ?_
  refine Rn_iload_n dL_law_353 rfl rfl ?_
  refine Rn_iconst dL_law_354 rfl ?_
  refine Rn_iadd dL_law_355 ?_
  rw [w32_id b11.1 b11.2]
  refine Rn_iaload dL_law_356 h3 i13 g14 ?_
  refine Rn_aload_n dL_law_357 rfl rfl rfl ?_
  refine Rn_iload_n dL_law_358 rfl rfl ?_
  refine Rn_iconst dL_law_359 rfl ?_
  refine Rn_iadd dL_law_360 ?_
  rw [w32_id b15.1 b15.2]
  refine Rn_iaload dL_law_361 h3 i17 g18 ?_
  refine Rn_aload_n dL_law_362 rfl rfl rfl ?_
  refine Rn_iload_n dL_law_363 rfl rfl ?_
  refine Rn_iconst dL_law_364 rfl ?_
  refine Rn_iadd dL_law_365 ?_
  rw [w32_id b19.1 b19.2]
  refine Rn_iaload dL_law_366 h3 i21 g22 ?_
  exact Rn_callV (ci := 13) (avs := [vI v4, vI v8, vI v12, vI v16, vI v20]) (st := [vI s0]) (bc1 := 0) (bs1 := 0) (bc2 := bc) (bs2 := bs) fx_X13_feed dL_law_367 wd_1470 wd_1471 wd_1472 rfl h24 rfl (Nat.le_of_ble_eq_true rfl) (Nat.le_of_ble_eq_true rfl) (by omega) (by omega) (ls1 := [some (vR (some ar2)), some (vI v4), some (vI v8), some (vI v12), some (vI v16), some (vI v20)]) rfl k
theorem BL_law_370 {d bc bs : Nat} {h : aH} {n : Nat} {Q : aQ} {r0 r1 r2 : Option Nat} {x3 s0 s1 : Int} (kt : s0 = s1 → Rn d bc bs mL_law 1576 [some (vR r0), some (vR r1), some (vR r2), some (vI x3)] [] h n Q) (kf : s0 ≠ s1 → Rn d bc bs mL_law 373 [some (vR r0), some (vR r1), some (vR r2), some (vI x3)] [] h n Q) : Rn d (bc) (bs) mL_law 370 [some (vR r0), some (vR r1), some (vR r2), some (vI x3)] [vI s1, vI s0] h n Q := by
  refine Rn_icmpeq (tgt := 1576) dL_law_370 rfl ?_ ?_
  · exact kt
  · exact kf
theorem BL_law_373 {d bc bs : Nat} {h : aH} {n : Nat} {Q : aQ} {r0 r1 r2 : Option Nat} {x3 : Int} (k : Q (some (vI 0)) h n) : Rn d (bc) (bs) mL_law 373 [some (vR r0), some (vR r1), some (vR r2), some (vI x3)] [] h n Q := by
  refine Rn_iconst dL_law_373 rfl ?_
  exact Rn_zreturn rfl dL_law_374 (by decide) k
theorem BL_law_375 {d bc bs : Nat} {h : aH} {n : Nat} {Q : aQ} {ar0 ar1 : Nat} {r2 : Option Nat} {x3 v4 : Int} {w2 : List Int} {f7 : List aV} (b1 : -2147483648 ≤ x3 + 1 ∧ x3 + 1 < 2147483648) (h3 : h ar0 = cI w2) (i5 : 0 ≤ x3 + 1) (g6 : w2[(x3 + 1 : Int).toNat]? = some v4) (h8 : h ar1 = cO 12 f7) (k : Rn d 0 0 mX12_end 0 [some (vR (some ar1)), some (vI v4)] [] h n (fun v h1 n1 => Rn (d + 1) bc bs mL_law 384 [some (vR (some ar0)), some (vR (some ar1)), some (vR r2), some (vI x3)] (v.toList ++ []) h1 n1 Q)) : Rn (d + 1) (bc) (bs) mL_law 375 [some (vR (some ar0)), some (vR (some ar1)), some (vR r2), some (vI x3)] [] h n Q := by
  refine Rn_aload_n dL_law_375 rfl rfl rfl ?_
  refine Rn_aload_n dL_law_376 rfl rfl rfl ?_
  refine Rn_iload_n dL_law_377 rfl rfl ?_
  refine Rn_iconst dL_law_378 rfl ?_
  refine Rn_iadd dL_law_379 ?_
  rw [w32_id b1.1 b1.2]
  refine Rn_iaload dL_law_380 h3 i5 g6 ?_
  exact Rn_callV (ci := 12) (avs := [vI v4]) (st := []) (bc1 := 0) (bs1 := 0) (bc2 := bc) (bs2 := bs) fx_X12_end dL_law_381 wd_527 wd_528 wd_529 rfl h8 rfl (Nat.le_of_ble_eq_true rfl) (Nat.le_of_ble_eq_true rfl) (by omega) (by omega) (ls1 := [some (vR (some ar1)), some (vI v4)]) rfl k
theorem BL_law_384 {d bc bs : Nat} {h : aH} {n : Nat} {Q : aQ} {ar0 ar2 : Nat} {r1 : Option Nat} {x3 s0 v4 : Int} {w2 : List Int} {f7 : List aV} (b1 : -2147483648 ≤ x3 + 1 ∧ x3 + 1 < 2147483648) (h3 : h ar0 = cI w2) (i5 : 0 ≤ x3 + 1) (g6 : w2[(x3 + 1 : Int).toNat]? = some v4) (h8 : h ar2 = cO 13 f7) (k : Rn d 0 0 mX13_end 0 [some (vR (some ar2)), some (vI v4)] [] h n (fun v h1 n1 => Rn (d + 1) bc bs mL_law 393 [some (vR (some ar0)), some (vR r1), some (vR (some ar2)), some (vI x3)] (v.toList ++ [vI s0]) h1 n1 Q)) : Rn (d + 1) (bc) (bs) mL_law 384 [some (vR (some ar0)), some (vR r1), some (vR (some ar2)), some (vI x3)] [vI s0] h n Q := by
  refine Rn_aload_n dL_law_384 rfl rfl rfl ?_
  refine Rn_aload_n dL_law_385 rfl rfl rfl ?_
  refine Rn_iload_n dL_law_386 rfl rfl ?_
  refine Rn_iconst dL_law_387 rfl ?_
  refine Rn_iadd dL_law_388 ?_
  rw [w32_id b1.1 b1.2]
  refine Rn_iaload dL_law_389 h3 i5 g6 ?_
  exact Rn_callV (ci := 13) (avs := [vI v4]) (st := [vI s0]) (bc1 := 0) (bs1 := 0) (bc2 := bc) (bs2 := bs) fx_X13_end dL_law_390 wd_1478 wd_1479 wd_1480 rfl h8 rfl (Nat.le_of_ble_eq_true rfl) (Nat.le_of_ble_eq_true rfl) (by omega) (by omega) (ls1 := [some (vR (some ar2)), some (vI v4)]) rfl k
theorem BL_law_393 {d bc bs : Nat} {h : aH} {n : Nat} {Q : aQ} {r0 r1 r2 : Option Nat} {x3 s0 s1 : Int} (kt : s0 = s1 → Rn d bc bs mL_law 1576 [some (vR r0), some (vR r1), some (vR r2), some (vI x3)] [] h n Q) (kf : s0 ≠ s1 → Rn d bc bs mL_law 396 [some (vR r0), some (vR r1), some (vR r2), some (vI x3)] [] h n Q) : Rn d (bc) (bs) mL_law 393 [some (vR r0), some (vR r1), some (vR r2), some (vI x3)] [vI s1, vI s0] h n Q := by
  refine Rn_icmpeq (tgt := 1576) dL_law_393 rfl ?_ ?_
  · exact kt
  · exact kf
theorem BL_law_396 {d bc bs : Nat} {h : aH} {n : Nat} {Q : aQ} {r0 r1 r2 : Option Nat} {x3 : Int} (k : Q (some (vI 0)) h n) : Rn d (bc) (bs) mL_law 396 [some (vR r0), some (vR r1), some (vR r2), some (vI x3)] [] h n Q := by
  refine Rn_iconst dL_law_396 rfl ?_
  exact Rn_zreturn rfl dL_law_397 (by decide) k
theorem BL_law_398 {d bc bs bc1 bs1 : Nat} {h : aH} {n : Nat} {Q : aQ} {r0 r2 : Option Nat} {ar1 : Nat} {x3 : Int} {f1 : List aV} (h2 : h ar1 = cO 12 f1) (k : Rn d bc1 bs1 mX12_text 0 [some (vR (some ar1)), none] [] h n (fun v h1 n1 => Rn (d + 1) bc bs mL_law 402 [some (vR r0), some (vR (some ar1)), some (vR r2), some (vI x3)] (v.toList ++ []) h1 n1 Q)) : Rn (d + 1) (bc1 + bc) (bs1 + bs) mL_law 398 [some (vR r0), some (vR (some ar1)), some (vR r2), some (vI x3)] [] h n Q := by
  refine Rn_aload_n dL_law_398 rfl rfl rfl ?_
  exact Rn_callV (ci := 12) (avs := []) (st := []) (bc1 := bc1) (bs1 := bs1) (bc2 := bc) (bs2 := bs) fx_X12_text dL_law_399 wd_531 wd_532 wd_533 rfl h2 rfl (Nat.le_of_ble_eq_true rfl) (Nat.le_of_ble_eq_true rfl) (by omega) (by omega) (ls1 := [some (vR (some ar1)), none]) rfl k
theorem BL_law_402 {d bc bs : Nat} {h : aH} {n : Nat} {Q : aQ} {r0 r1 : Option Nat} {ar2 : Nat} {x3 s0 : Int} {f1 : List aV} (h2 : h ar2 = cO 13 f1) (k : Rn d 0 0 mX13_text 0 [some (vR (some ar2))] [] h n (fun v h1 n1 => Rn (d + 1) bc bs mL_law 406 [some (vR r0), some (vR r1), some (vR (some ar2)), some (vI x3)] (v.toList ++ [vI s0]) h1 n1 Q)) : Rn (d + 1) (bc) (bs) mL_law 402 [some (vR r0), some (vR r1), some (vR (some ar2)), some (vI x3)] [vI s0] h n Q := by
  refine Rn_aload_n dL_law_402 rfl rfl rfl ?_
  exact Rn_callV (ci := 13) (avs := []) (st := [vI s0]) (bc1 := 0) (bs1 := 0) (bc2 := bc) (bs2 := bs) fx_X13_text dL_law_403 wd_1482 wd_1483 wd_1484 rfl h2 rfl (Nat.le_of_ble_eq_true rfl) (Nat.le_of_ble_eq_true rfl) (by omega) (by omega) (ls1 := [some (vR (some ar2))]) rfl k
theorem BL_law_406 {d bc bs : Nat} {h : aH} {n : Nat} {Q : aQ} {r0 r1 r2 : Option Nat} {x3 s0 s1 : Int} (kt : s0 = s1 → Rn d bc bs mL_law 1576 [some (vR r0), some (vR r1), some (vR r2), some (vI x3)] [] h n Q) (kf : s0 ≠ s1 → Rn d bc bs mL_law 409 [some (vR r0), some (vR r1), some (vR r2), some (vI x3)] [] h n Q) : Rn d (bc) (bs) mL_law 406 [some (vR r0), some (vR r1), some (vR r2), some (vI x3)] [vI s1, vI s0] h n Q := by
  refine Rn_icmpeq (tgt := 1576) dL_law_406 rfl ?_ ?_
  · exact kt
  · exact kf
theorem BL_law_409 {d bc bs : Nat} {h : aH} {n : Nat} {Q : aQ} {r0 r1 r2 : Option Nat} {x3 : Int} (k : Q (some (vI 0)) h n) : Rn d (bc) (bs) mL_law 409 [some (vR r0), some (vR r1), some (vR r2), some (vI x3)] [] h n Q := by
  refine Rn_iconst dL_law_409 rfl ?_
  exact Rn_zreturn rfl dL_law_410 (by decide) k
theorem BL_law_411 {d bc bs : Nat} {h : aH} {n : Nat} {Q : aQ} {ar0 ar1 : Nat} {r2 : Option Nat} {x3 v4 : Int} {w2 : List Int} {f7 : List aV} (b1 : -2147483648 ≤ x3 + 1 ∧ x3 + 1 < 2147483648) (h3 : h ar0 = cI w2) (i5 : 0 ≤ x3 + 1) (g6 : w2[(x3 + 1 : Int).toNat]? = some v4) (h8 : h ar1 = cO 12 f7) (k : Rn d 0 0 mX12_fault 0 [some (vR (some ar1)), some (vI v4)] [] h n (fun v h1 n1 => Rn (d + 1) bc bs mL_law 420 [some (vR (some ar0)), some (vR (some ar1)), some (vR r2), some (vI x3)] (v.toList ++ []) h1 n1 Q)) : Rn (d + 1) (bc) (bs) mL_law 411 [some (vR (some ar0)), some (vR (some ar1)), some (vR r2), some (vI x3)] [] h n Q := by
  refine Rn_aload_n dL_law_411 rfl rfl rfl ?_
  refine Rn_aload_n dL_law_412 rfl rfl rfl ?_
  refine Rn_iload_n dL_law_413 rfl rfl ?_
  refine Rn_iconst dL_law_414 rfl ?_
  refine Rn_iadd dL_law_415 ?_
  rw [w32_id b1.1 b1.2]
  refine Rn_iaload dL_law_416 h3 i5 g6 ?_
  exact Rn_callV (ci := 12) (avs := [vI v4]) (st := []) (bc1 := 0) (bs1 := 0) (bc2 := bc) (bs2 := bs) fx_X12_fault dL_law_417 wd_765 wd_766 wd_767 rfl h8 rfl (Nat.le_of_ble_eq_true rfl) (Nat.le_of_ble_eq_true rfl) (by omega) (by omega) (ls1 := [some (vR (some ar1)), some (vI v4)]) rfl k
theorem BL_law_420 {d bc bs : Nat} {h : aH} {n : Nat} {Q : aQ} {ar0 ar2 : Nat} {r1 : Option Nat} {x3 s0 v4 : Int} {w2 : List Int} {f7 : List aV} (b1 : -2147483648 ≤ x3 + 1 ∧ x3 + 1 < 2147483648) (h3 : h ar0 = cI w2) (i5 : 0 ≤ x3 + 1) (g6 : w2[(x3 + 1 : Int).toNat]? = some v4) (h8 : h ar2 = cO 13 f7) (k : Rn d 0 0 mX13_fault 0 [some (vR (some ar2)), some (vI v4)] [] h n (fun v h1 n1 => Rn (d + 1) bc bs mL_law 429 [some (vR (some ar0)), some (vR r1), some (vR (some ar2)), some (vI x3)] (v.toList ++ [vI s0]) h1 n1 Q)) : Rn (d + 1) (bc) (bs) mL_law 420 [some (vR (some ar0)), some (vR r1), some (vR (some ar2)), some (vI x3)] [vI s0] h n Q := by
  refine Rn_aload_n dL_law_420 rfl rfl rfl ?_
  refine Rn_aload_n dL_law_421 rfl rfl rfl ?_
  refine Rn_iload_n dL_law_422 rfl rfl ?_
  refine Rn_iconst dL_law_423 rfl ?_
  refine Rn_iadd dL_law_424 ?_
  rw [w32_id b1.1 b1.2]
  refine Rn_iaload dL_law_425 h3 i5 g6 ?_
  exact Rn_callV (ci := 13) (avs := [vI v4]) (st := [vI s0]) (bc1 := 0) (bs1 := 0) (bc2 := bc) (bs2 := bs) fx_X13_fault dL_law_426 wd_1626 wd_1627 wd_1628 rfl h8 rfl (Nat.le_of_ble_eq_true rfl) (Nat.le_of_ble_eq_true rfl) (by omega) (by omega) (ls1 := [some (vR (some ar2)), some (vI v4)]) rfl k
theorem BL_law_429 {d bc bs : Nat} {h : aH} {n : Nat} {Q : aQ} {r0 r1 r2 : Option Nat} {x3 s0 s1 : Int} (kt : s0 = s1 → Rn d bc bs mL_law 1576 [some (vR r0), some (vR r1), some (vR r2), some (vI x3)] [] h n Q) (kf : s0 ≠ s1 → Rn d bc bs mL_law 432 [some (vR r0), some (vR r1), some (vR r2), some (vI x3)] [] h n Q) : Rn d (bc) (bs) mL_law 429 [some (vR r0), some (vR r1), some (vR r2), some (vI x3)] [vI s1, vI s0] h n Q := by
  refine Rn_icmpeq (tgt := 1576) dL_law_429 rfl ?_ ?_
  · exact kt
  · exact kf
theorem BL_law_432 {d bc bs : Nat} {h : aH} {n : Nat} {Q : aQ} {r0 r1 r2 : Option Nat} {x3 : Int} (k : Q (some (vI 0)) h n) : Rn d (bc) (bs) mL_law 432 [some (vR r0), some (vR r1), some (vR r2), some (vI x3)] [] h n Q := by
  refine Rn_iconst dL_law_432 rfl ?_
  exact Rn_zreturn rfl dL_law_433 (by decide) k
theorem BL_law_434 {d bc bs : Nat} {h : aH} {n : Nat} {Q : aQ} {ar0 ar1 : Nat} {r2 : Option Nat} {x3 v4 : Int} {w2 : List Int} {f7 : List aV} (b1 : -2147483648 ≤ x3 + 1 ∧ x3 + 1 < 2147483648) (h3 : h ar0 = cI w2) (i5 : 0 ≤ x3 + 1) (g6 : w2[(x3 + 1 : Int).toNat]? = some v4) (h8 : h ar1 = cO 12 f7) (k : Rn d 0 0 mX12_by 0 [some (vR (some ar1)), some (vI v4)] [] h n (fun v h1 n1 => Rn (d + 1) bc bs mL_law 443 [some (vR (some ar0)), some (vR (some ar1)), some (vR r2), some (vI x3)] (v.toList ++ []) h1 n1 Q)) : Rn (d + 1) (bc) (bs) mL_law 434 [some (vR (some ar0)), some (vR (some ar1)), some (vR r2), some (vI x3)] [] h n Q := by
  refine Rn_aload_n dL_law_434 rfl rfl rfl ?_
  refine Rn_aload_n dL_law_435 rfl rfl rfl ?_
  refine Rn_iload_n dL_law_436 rfl rfl ?_
  refine Rn_iconst dL_law_437 rfl ?_
  refine Rn_iadd dL_law_438 ?_
  rw [w32_id b1.1 b1.2]
  refine Rn_iaload dL_law_439 h3 i5 g6 ?_
  exact Rn_callV (ci := 12) (avs := [vI v4]) (st := []) (bc1 := 0) (bs1 := 0) (bc2 := bc) (bs2 := bs) fx_X12_by dL_law_440 wd_769 wd_770 wd_771 rfl h8 rfl (Nat.le_of_ble_eq_true rfl) (Nat.le_of_ble_eq_true rfl) (by omega) (by omega) (ls1 := [some (vR (some ar1)), some (vI v4)]) rfl k
theorem BL_law_443 {d bc bs : Nat} {h : aH} {n : Nat} {Q : aQ} {ar0 ar2 : Nat} {r1 : Option Nat} {x3 s0 v4 : Int} {w2 : List Int} {f7 : List aV} (b1 : -2147483648 ≤ x3 + 1 ∧ x3 + 1 < 2147483648) (h3 : h ar0 = cI w2) (i5 : 0 ≤ x3 + 1) (g6 : w2[(x3 + 1 : Int).toNat]? = some v4) (h8 : h ar2 = cO 13 f7) (k : Rn d 0 0 mX13_by 0 [some (vR (some ar2)), some (vI v4)] [] h n (fun v h1 n1 => Rn (d + 1) bc bs mL_law 452 [some (vR (some ar0)), some (vR r1), some (vR (some ar2)), some (vI x3)] (v.toList ++ [vI s0]) h1 n1 Q)) : Rn (d + 1) (bc) (bs) mL_law 443 [some (vR (some ar0)), some (vR r1), some (vR (some ar2)), some (vI x3)] [vI s0] h n Q := by
  refine Rn_aload_n dL_law_443 rfl rfl rfl ?_
  refine Rn_aload_n dL_law_444 rfl rfl rfl ?_
  refine Rn_iload_n dL_law_445 rfl rfl ?_
  refine Rn_iconst dL_law_446 rfl ?_
  refine Rn_iadd dL_law_447 ?_
  rw [w32_id b1.1 b1.2]
  refine Rn_iaload dL_law_448 h3 i5 g6 ?_
  exact Rn_callV (ci := 13) (avs := [vI v4]) (st := [vI s0]) (bc1 := 0) (bs1 := 0) (bc2 := bc) (bs2 := bs) fx_X13_by dL_law_449 wd_1630 wd_1631 wd_1632 rfl h8 rfl (Nat.le_of_ble_eq_true rfl) (Nat.le_of_ble_eq_true rfl) (by omega) (by omega) (ls1 := [some (vR (some ar2)), some (vI v4)]) rfl k
theorem BL_law_452 {d bc bs : Nat} {h : aH} {n : Nat} {Q : aQ} {r0 r1 r2 : Option Nat} {x3 s0 s1 : Int} (kt : s0 = s1 → Rn d bc bs mL_law 1576 [some (vR r0), some (vR r1), some (vR r2), some (vI x3)] [] h n Q) (kf : s0 ≠ s1 → Rn d bc bs mL_law 455 [some (vR r0), some (vR r1), some (vR r2), some (vI x3)] [] h n Q) : Rn d (bc) (bs) mL_law 452 [some (vR r0), some (vR r1), some (vR r2), some (vI x3)] [vI s1, vI s0] h n Q := by
  refine Rn_icmpeq (tgt := 1576) dL_law_452 rfl ?_ ?_
  · exact kt
  · exact kf
theorem BL_law_455 {d bc bs : Nat} {h : aH} {n : Nat} {Q : aQ} {r0 r1 r2 : Option Nat} {x3 : Int} (k : Q (some (vI 0)) h n) : Rn d (bc) (bs) mL_law 455 [some (vR r0), some (vR r1), some (vR r2), some (vI x3)] [] h n Q := by
  refine Rn_iconst dL_law_455 rfl ?_
  exact Rn_zreturn rfl dL_law_456 (by decide) k
theorem BL_law_457 {d bc bs : Nat} {h : aH} {n : Nat} {Q : aQ} {ar0 ar1 : Nat} {r2 : Option Nat} {x3 v4 v8 v12 : Int} {w2 : List Int} {f15 : List aV} (b1 : -2147483648 ≤ x3 + 1 ∧ x3 + 1 < 2147483648) (h3 : h ar0 = cI w2) (i5 : 0 ≤ x3 + 1) (g6 : w2[(x3 + 1 : Int).toNat]? = some v4) (b7 : -2147483648 ≤ x3 + 2 ∧ x3 + 2 < 2147483648) (i9 : 0 ≤ x3 + 2) (g10 : w2[(x3 + 2 : Int).toNat]? = some v8) (b11 : -2147483648 ≤ x3 + 3 ∧ x3 + 3 < 2147483648) (i13 : 0 ≤ x3 + 3) (g14 : w2[(x3 + 3 : Int).toNat]? = some v12) (h16 : h ar1 = cO 12 f15) (k : Rn d 0 0 mX12_toss 0 [some (vR (some ar1)), some (vI v4), some (vI v8), some (vI v12)] [] h n (fun v h1 n1 => Rn (d + 1) bc bs mL_law 476 [some (vR (some ar0)), some (vR (some ar1)), some (vR r2), some (vI x3)] (v.toList ++ []) h1 n1 Q)) : Rn (d + 1) (bc) (bs) mL_law 457 [some (vR (some ar0)), some (vR (some ar1)), some (vR r2), some (vI x3)] [] h n Q := by
  refine Rn_aload_n dL_law_457 rfl rfl rfl ?_
  refine Rn_aload_n dL_law_458 rfl rfl rfl ?_
  refine Rn_iload_n dL_law_459 rfl rfl ?_
  refine Rn_iconst dL_law_460 rfl ?_
  refine Rn_iadd dL_law_461 ?_
  rw [w32_id b1.1 b1.2]
  refine Rn_iaload dL_law_462 h3 i5 g6 ?_
  refine Rn_aload_n dL_law_463 rfl rfl rfl ?_
  refine Rn_iload_n dL_law_464 rfl rfl ?_
  refine Rn_iconst dL_law_465 rfl ?_
  refine Rn_iadd dL_law_466 ?_
  rw [w32_id b7.1 b7.2]
  refine Rn_iaload dL_law_467 h3 i9 g10 ?_
  refine Rn_aload_n dL_law_468 rfl rfl rfl ?_
  refine Rn_iload_n dL_law_469 rfl rfl ?_
  refine Rn_iconst dL_law_470 rfl ?_
  refine Rn_iadd dL_law_471 ?_
  rw [w32_id b11.1 b11.2]
  refine Rn_iaload dL_law_472 h3 i13 g14 ?_
  exact Rn_callV (ci := 12) (avs := [vI v4, vI v8, vI v12]) (st := []) (bc1 := 0) (bs1 := 0) (bc2 := bc) (bs2 := bs) fx_X12_toss dL_law_473 wd_773 wd_774 wd_775 rfl h16 rfl (Nat.le_of_ble_eq_true rfl) (Nat.le_of_ble_eq_true rfl) (by omega) (by omega) (ls1 := [some (vR (some ar1)), some (vI v4), some (vI v8), some (vI v12)]) rfl k
theorem BL_law_476 {d bc bs : Nat} {h : aH} {n : Nat} {Q : aQ} {ar0 ar2 : Nat} {r1 : Option Nat} {x3 s0 v4 v8 v12 : Int} {w2 : List Int} {f15 : List aV} (b1 : -2147483648 ≤ x3 + 1 ∧ x3 + 1 < 2147483648) (h3 : h ar0 = cI w2) (i5 : 0 ≤ x3 + 1) (g6 : w2[(x3 + 1 : Int).toNat]? = some v4) (b7 : -2147483648 ≤ x3 + 2 ∧ x3 + 2 < 2147483648) (i9 : 0 ≤ x3 + 2) (g10 : w2[(x3 + 2 : Int).toNat]? = some v8) (b11 : -2147483648 ≤ x3 + 3 ∧ x3 + 3 < 2147483648) (i13 : 0 ≤ x3 + 3) (g14 : w2[(x3 + 3 : Int).toNat]? = some v12) (h16 : h ar2 = cO 13 f15) (k : Rn d 0 0 mX13_toss 0 [some (vR (some ar2)), some (vI v4), some (vI v8), some (vI v12)] [] h n (fun v h1 n1 => Rn (d + 1) bc bs mL_law 495 [some (vR (some ar0)), some (vR r1), some (vR (some ar2)), some (vI x3)] (v.toList ++ [vI s0]) h1 n1 Q)) : Rn (d + 1) (bc) (bs) mL_law 476 [some (vR (some ar0)), some (vR r1), some (vR (some ar2)), some (vI x3)] [vI s0] h n Q := by
  refine Rn_aload_n dL_law_476 rfl rfl rfl ?_
  refine Rn_aload_n dL_law_477 rfl rfl rfl ?_
  refine Rn_iload_n dL_law_478 rfl rfl ?_
  refine Rn_iconst dL_law_479 rfl ?_
  refine Rn_iadd dL_law_480 ?_
  rw [w32_id b1.1 b1.2]
  refine Rn_iaload dL_law_481 h3 i5 g6 ?_
  refine Rn_aload_n dL_law_482 rfl rfl rfl ?_
  refine Rn_iload_n dL_law_483 rfl rfl ?_
  refine Rn_iconst dL_law_484 rfl ?_
  refine Rn_iadd dL_law_485 ?_
  rw [w32_id b7.1 b7.2]
  refine Rn_iaload dL_law_486 h3 i9 g10 ?_
  refine Rn_aload_n dL_law_487 rfl rfl rfl ?_
  refine Rn_iload_n dL_law_488 rfl rfl ?_
  refine Rn_iconst dL_law_489 rfl ?_
  refine Rn_iadd dL_law_490 ?_
  rw [w32_id b11.1 b11.2]
  refine Rn_iaload dL_law_491 h3 i13 g14 ?_
  exact Rn_callV (ci := 13) (avs := [vI v4, vI v8, vI v12]) (st := [vI s0]) (bc1 := 0) (bs1 := 0) (bc2 := bc) (bs2 := bs) fx_X13_toss dL_law_492 wd_1638 wd_1639 wd_1640 rfl h16 rfl (Nat.le_of_ble_eq_true rfl) (Nat.le_of_ble_eq_true rfl) (by omega) (by omega) (ls1 := [some (vR (some ar2)), some (vI v4), some (vI v8), some (vI v12)]) rfl k
theorem BL_law_495 {d bc bs : Nat} {h : aH} {n : Nat} {Q : aQ} {r0 r1 r2 : Option Nat} {x3 s0 s1 : Int} (kt : s0 = s1 → Rn d bc bs mL_law 1576 [some (vR r0), some (vR r1), some (vR r2), some (vI x3)] [] h n Q) (kf : s0 ≠ s1 → Rn d bc bs mL_law 498 [some (vR r0), some (vR r1), some (vR r2), some (vI x3)] [] h n Q) : Rn d (bc) (bs) mL_law 495 [some (vR r0), some (vR r1), some (vR r2), some (vI x3)] [vI s1, vI s0] h n Q := by
  refine Rn_icmpeq (tgt := 1576) dL_law_495 rfl ?_ ?_
  · exact kt
  · exact kf
theorem BL_law_498 {d bc bs : Nat} {h : aH} {n : Nat} {Q : aQ} {r0 r1 r2 : Option Nat} {x3 : Int} (k : Q (some (vI 0)) h n) : Rn d (bc) (bs) mL_law 498 [some (vR r0), some (vR r1), some (vR r2), some (vI x3)] [] h n Q := by
  refine Rn_iconst dL_law_498 rfl ?_
  exact Rn_zreturn rfl dL_law_499 (by decide) k
theorem BL_law_500 {d bc bs : Nat} {h : aH} {n : Nat} {Q : aQ} {ar0 ar1 : Nat} {r2 : Option Nat} {x3 v4 v8 : Int} {w2 : List Int} {f11 : List aV} (b1 : -2147483648 ≤ x3 + 1 ∧ x3 + 1 < 2147483648) (h3 : h ar0 = cI w2) (i5 : 0 ≤ x3 + 1) (g6 : w2[(x3 + 1 : Int).toNat]? = some v4) (b7 : -2147483648 ≤ x3 + 2 ∧ x3 + 2 < 2147483648) (i9 : 0 ≤ x3 + 2) (g10 : w2[(x3 + 2 : Int).toNat]? = some v8) (h12 : h ar1 = cO 12 f11) (k : Rn d 0 0 mX12_fish 0 [some (vR (some ar1)), some (vI v4), some (vI v8)] [] h n (fun v h1 n1 => Rn (d + 1) bc bs mL_law 514 [some (vR (some ar0)), some (vR (some ar1)), some (vR r2), some (vI x3)] (v.toList ++ []) h1 n1 Q)) : Rn (d + 1) (bc) (bs) mL_law 500 [some (vR (some ar0)), some (vR (some ar1)), some (vR r2), some (vI x3)] [] h n Q := by
  refine Rn_aload_n dL_law_500 rfl rfl rfl ?_
  refine Rn_aload_n dL_law_501 rfl rfl rfl ?_
  refine Rn_iload_n dL_law_502 rfl rfl ?_
  refine Rn_iconst dL_law_503 rfl ?_
  refine Rn_iadd dL_law_504 ?_
  rw [w32_id b1.1 b1.2]
  refine Rn_iaload dL_law_505 h3 i5 g6 ?_
  refine Rn_aload_n dL_law_506 rfl rfl rfl ?_
  refine Rn_iload_n dL_law_507 rfl rfl ?_
  refine Rn_iconst dL_law_508 rfl ?_
  refine Rn_iadd dL_law_509 ?_
  rw [w32_id b7.1 b7.2]
  refine Rn_iaload dL_law_510 h3 i9 g10 ?_
  exact Rn_callV (ci := 12) (avs := [vI v4, vI v8]) (st := []) (bc1 := 0) (bs1 := 0) (bc2 := bc) (bs2 := bs) fx_X12_fish dL_law_511 wd_823 wd_824 wd_825 rfl h12 rfl (Nat.le_of_ble_eq_true rfl) (Nat.le_of_ble_eq_true rfl) (by omega) (by omega) (ls1 := [some (vR (some ar1)), some (vI v4), some (vI v8)]) rfl k
theorem BL_law_514 {d bc bs : Nat} {h : aH} {n : Nat} {Q : aQ} {ar0 ar2 : Nat} {r1 : Option Nat} {x3 s0 v4 v8 : Int} {w2 : List Int} {f11 : List aV} (b1 : -2147483648 ≤ x3 + 1 ∧ x3 + 1 < 2147483648) (h3 : h ar0 = cI w2) (i5 : 0 ≤ x3 + 1) (g6 : w2[(x3 + 1 : Int).toNat]? = some v4) (b7 : -2147483648 ≤ x3 + 2 ∧ x3 + 2 < 2147483648) (i9 : 0 ≤ x3 + 2) (g10 : w2[(x3 + 2 : Int).toNat]? = some v8) (h12 : h ar2 = cO 13 f11) (k : Rn d 0 0 mX13_fish 0 [some (vR (some ar2)), some (vI v4), some (vI v8)] [] h n (fun v h1 n1 => Rn (d + 1) bc bs mL_law 528 [some (vR (some ar0)), some (vR r1), some (vR (some ar2)), some (vI x3)] (v.toList ++ [vI s0]) h1 n1 Q)) : Rn (d + 1) (bc) (bs) mL_law 514 [some (vR (some ar0)), some (vR r1), some (vR (some ar2)), some (vI x3)] [vI s0] h n Q := by
  refine Rn_aload_n dL_law_514 rfl rfl rfl ?_
  refine Rn_aload_n dL_law_515 rfl rfl rfl ?_
  refine Rn_iload_n dL_law_516 rfl rfl ?_
  refine Rn_iconst dL_law_517 rfl ?_
  refine Rn_iadd dL_law_518 ?_
  rw [w32_id b1.1 b1.2]
  refine Rn_iaload dL_law_519 h3 i5 g6 ?_
  refine Rn_aload_n dL_law_520 rfl rfl rfl ?_
  refine Rn_iload_n dL_law_521 rfl rfl ?_
  refine Rn_iconst dL_law_522 rfl ?_
  refine Rn_iadd dL_law_523 ?_
  rw [w32_id b7.1 b7.2]
  refine Rn_iaload dL_law_524 h3 i9 g10 ?_
  exact Rn_callV (ci := 13) (avs := [vI v4, vI v8]) (st := [vI s0]) (bc1 := 0) (bs1 := 0) (bc2 := bc) (bs2 := bs) fx_X13_fish dL_law_525 wd_1666 wd_1667 wd_1668 rfl h12 rfl (Nat.le_of_ble_eq_true rfl) (Nat.le_of_ble_eq_true rfl) (by omega) (by omega) (ls1 := [some (vR (some ar2)), some (vI v4), some (vI v8)]) rfl k
theorem BL_law_528 {d bc bs : Nat} {h : aH} {n : Nat} {Q : aQ} {r0 r1 r2 : Option Nat} {x3 s0 s1 : Int} (kt : s0 = s1 → Rn d bc bs mL_law 1576 [some (vR r0), some (vR r1), some (vR r2), some (vI x3)] [] h n Q) (kf : s0 ≠ s1 → Rn d bc bs mL_law 531 [some (vR r0), some (vR r1), some (vR r2), some (vI x3)] [] h n Q) : Rn d (bc) (bs) mL_law 528 [some (vR r0), some (vR r1), some (vR r2), some (vI x3)] [vI s1, vI s0] h n Q := by
  refine Rn_icmpeq (tgt := 1576) dL_law_528 rfl ?_ ?_
  · exact kt
  · exact kf
theorem BL_law_531 {d bc bs : Nat} {h : aH} {n : Nat} {Q : aQ} {r0 r1 r2 : Option Nat} {x3 : Int} (k : Q (some (vI 0)) h n) : Rn d (bc) (bs) mL_law 531 [some (vR r0), some (vR r1), some (vR r2), some (vI x3)] [] h n Q := by
  refine Rn_iconst dL_law_531 rfl ?_
  exact Rn_zreturn rfl dL_law_532 (by decide) k
theorem BL_law_533 {d bc bs : Nat} {h : aH} {n : Nat} {Q : aQ} {ar0 ar1 : Nat} {r2 : Option Nat} {x3 v4 : Int} {w2 : List Int} {f7 : List aV} (b1 : -2147483648 ≤ x3 + 1 ∧ x3 + 1 < 2147483648) (h3 : h ar0 = cI w2) (i5 : 0 ≤ x3 + 1) (g6 : w2[(x3 + 1 : Int).toNat]? = some v4) (h8 : h ar1 = cO 12 f7) (k : Rn d 0 0 mX12_again 0 [some (vR (some ar1)), some (vI v4)] [] h n (fun v h1 n1 => Rn (d + 1) bc bs mL_law 542 [some (vR (some ar0)), some (vR (some ar1)), some (vR r2), some (vI x3)] (v.toList ++ []) h1 n1 Q)) : Rn (d + 1) (bc) (bs) mL_law 533 [some (vR (some ar0)), some (vR (some ar1)), some (vR r2), some (vI x3)] [] h n Q := by
  refine Rn_aload_n dL_law_533 rfl rfl rfl ?_
  refine Rn_aload_n dL_law_534 rfl rfl rfl ?_
  refine Rn_iload_n dL_law_535 rfl rfl ?_
  refine Rn_iconst dL_law_536 rfl ?_
  refine Rn_iadd dL_law_537 ?_
  rw [w32_id b1.1 b1.2]
  refine Rn_iaload dL_law_538 h3 i5 g6 ?_
  exact Rn_callV (ci := 12) (avs := [vI v4]) (st := []) (bc1 := 0) (bs1 := 0) (bc2 := bc) (bs2 := bs) fx_X12_again dL_law_539 wd_854 wd_855 wd_856 rfl h8 rfl (Nat.le_of_ble_eq_true rfl) (Nat.le_of_ble_eq_true rfl) (by omega) (by omega) (ls1 := [some (vR (some ar1)), some (vI v4)]) rfl k
theorem BL_law_542 {d bc bs : Nat} {h : aH} {n : Nat} {Q : aQ} {ar0 ar2 : Nat} {r1 : Option Nat} {x3 s0 v4 : Int} {w2 : List Int} {f7 : List aV} (b1 : -2147483648 ≤ x3 + 1 ∧ x3 + 1 < 2147483648) (h3 : h ar0 = cI w2) (i5 : 0 ≤ x3 + 1) (g6 : w2[(x3 + 1 : Int).toNat]? = some v4) (h8 : h ar2 = cO 13 f7) (k : Rn d 0 0 mX13_again 0 [some (vR (some ar2)), some (vI v4)] [] h n (fun v h1 n1 => Rn (d + 1) bc bs mL_law 551 [some (vR (some ar0)), some (vR r1), some (vR (some ar2)), some (vI x3)] (v.toList ++ [vI s0]) h1 n1 Q)) : Rn (d + 1) (bc) (bs) mL_law 542 [some (vR (some ar0)), some (vR r1), some (vR (some ar2)), some (vI x3)] [vI s0] h n Q := by
  refine Rn_aload_n dL_law_542 rfl rfl rfl ?_
  refine Rn_aload_n dL_law_543 rfl rfl rfl ?_
  refine Rn_iload_n dL_law_544 rfl rfl ?_
  refine Rn_iconst dL_law_545 rfl ?_
  refine Rn_iadd dL_law_546 ?_
  rw [w32_id b1.1 b1.2]
  refine Rn_iaload dL_law_547 h3 i5 g6 ?_
  exact Rn_callV (ci := 13) (avs := [vI v4]) (st := [vI s0]) (bc1 := 0) (bs1 := 0) (bc2 := bc) (bs2 := bs) fx_X13_again dL_law_548 wd_1694 wd_1695 wd_1696 rfl h8 rfl (Nat.le_of_ble_eq_true rfl) (Nat.le_of_ble_eq_true rfl) (by omega) (by omega) (ls1 := [some (vR (some ar2)), some (vI v4)]) rfl k
theorem BL_law_551 {d bc bs : Nat} {h : aH} {n : Nat} {Q : aQ} {r0 r1 r2 : Option Nat} {x3 s0 s1 : Int} (kt : s0 = s1 → Rn d bc bs mL_law 1576 [some (vR r0), some (vR r1), some (vR r2), some (vI x3)] [] h n Q) (kf : s0 ≠ s1 → Rn d bc bs mL_law 554 [some (vR r0), some (vR r1), some (vR r2), some (vI x3)] [] h n Q) : Rn d (bc) (bs) mL_law 551 [some (vR r0), some (vR r1), some (vR r2), some (vI x3)] [vI s1, vI s0] h n Q := by
  refine Rn_icmpeq (tgt := 1576) dL_law_551 rfl ?_ ?_
  · exact kt
  · exact kf
theorem BL_law_554 {d bc bs : Nat} {h : aH} {n : Nat} {Q : aQ} {r0 r1 r2 : Option Nat} {x3 : Int} (k : Q (some (vI 0)) h n) : Rn d (bc) (bs) mL_law 554 [some (vR r0), some (vR r1), some (vR r2), some (vI x3)] [] h n Q := by
  refine Rn_iconst dL_law_554 rfl ?_
  exact Rn_zreturn rfl dL_law_555 (by decide) k
theorem BL_law_556 {d bc bs : Nat} {h : aH} {n : Nat} {Q : aQ} {ar0 ar1 : Nat} {r2 : Option Nat} {x3 v4 : Int} {w2 : List Int} {f7 : List aV} (b1 : -2147483648 ≤ x3 + 1 ∧ x3 + 1 < 2147483648) (h3 : h ar0 = cI w2) (i5 : 0 ≤ x3 + 1) (g6 : w2[(x3 + 1 : Int).toNat]? = some v4) (h8 : h ar1 = cO 12 f7) (k : Rn d 0 0 mX12_tide 0 [some (vR (some ar1)), some (vI v4)] [] h n (fun v h1 n1 => Rn (d + 1) bc bs mL_law 565 [some (vR (some ar0)), some (vR (some ar1)), some (vR r2), some (vI x3)] (v.toList ++ []) h1 n1 Q)) : Rn (d + 1) (bc) (bs) mL_law 556 [some (vR (some ar0)), some (vR (some ar1)), some (vR r2), some (vI x3)] [] h n Q := by
  refine Rn_aload_n dL_law_556 rfl rfl rfl ?_
  refine Rn_aload_n dL_law_557 rfl rfl rfl ?_
  refine Rn_iload_n dL_law_558 rfl rfl ?_
  refine Rn_iconst dL_law_559 rfl ?_
  refine Rn_iadd dL_law_560 ?_
  rw [w32_id b1.1 b1.2]
  refine Rn_iaload dL_law_561 h3 i5 g6 ?_
  exact Rn_callV (ci := 12) (avs := [vI v4]) (st := []) (bc1 := 0) (bs1 := 0) (bc2 := bc) (bs2 := bs) fx_X12_tide dL_law_562 wd_863 wd_864 wd_865 rfl h8 rfl (Nat.le_of_ble_eq_true rfl) (Nat.le_of_ble_eq_true rfl) (by omega) (by omega) (ls1 := [some (vR (some ar1)), some (vI v4)]) rfl k
theorem BL_law_565 {d bc bs : Nat} {h : aH} {n : Nat} {Q : aQ} {ar0 ar2 : Nat} {r1 : Option Nat} {x3 s0 v4 : Int} {w2 : List Int} {f7 : List aV} (b1 : -2147483648 ≤ x3 + 1 ∧ x3 + 1 < 2147483648) (h3 : h ar0 = cI w2) (i5 : 0 ≤ x3 + 1) (g6 : w2[(x3 + 1 : Int).toNat]? = some v4) (h8 : h ar2 = cO 13 f7) (k : Rn d 0 0 mX13_tide 0 [some (vR (some ar2)), some (vI v4)] [] h n (fun v h1 n1 => Rn (d + 1) bc bs mL_law 574 [some (vR (some ar0)), some (vR r1), some (vR (some ar2)), some (vI x3)] (v.toList ++ [vI s0]) h1 n1 Q)) : Rn (d + 1) (bc) (bs) mL_law 565 [some (vR (some ar0)), some (vR r1), some (vR (some ar2)), some (vI x3)] [vI s0] h n Q := by
  refine Rn_aload_n dL_law_565 rfl rfl rfl ?_
  refine Rn_aload_n dL_law_566 rfl rfl rfl ?_
  refine Rn_iload_n dL_law_567 rfl rfl ?_
  refine Rn_iconst dL_law_568 rfl ?_
  refine Rn_iadd dL_law_569 ?_
  rw [w32_id b1.1 b1.2]
  refine Rn_iaload dL_law_570 h3 i5 g6 ?_
  exact Rn_callV (ci := 13) (avs := [vI v4]) (st := [vI s0]) (bc1 := 0) (bs1 := 0) (bc2 := bc) (bs2 := bs) fx_X13_tide dL_law_571 wd_1706 wd_1707 wd_1708 rfl h8 rfl (Nat.le_of_ble_eq_true rfl) (Nat.le_of_ble_eq_true rfl) (by omega) (by omega) (ls1 := [some (vR (some ar2)), some (vI v4)]) rfl k
theorem BL_law_574 {d bc bs : Nat} {h : aH} {n : Nat} {Q : aQ} {r0 r1 r2 : Option Nat} {x3 s0 s1 : Int} (kt : s0 = s1 → Rn d bc bs mL_law 1576 [some (vR r0), some (vR r1), some (vR r2), some (vI x3)] [] h n Q) (kf : s0 ≠ s1 → Rn d bc bs mL_law 577 [some (vR r0), some (vR r1), some (vR r2), some (vI x3)] [] h n Q) : Rn d (bc) (bs) mL_law 574 [some (vR r0), some (vR r1), some (vR r2), some (vI x3)] [vI s1, vI s0] h n Q := by
  refine Rn_icmpeq (tgt := 1576) dL_law_574 rfl ?_ ?_
  · exact kt
  · exact kf
theorem BL_law_577 {d bc bs : Nat} {h : aH} {n : Nat} {Q : aQ} {r0 r1 r2 : Option Nat} {x3 : Int} (k : Q (some (vI 0)) h n) : Rn d (bc) (bs) mL_law 577 [some (vR r0), some (vR r1), some (vR r2), some (vI x3)] [] h n Q := by
  refine Rn_iconst dL_law_577 rfl ?_
  exact Rn_zreturn rfl dL_law_578 (by decide) k
theorem BL_law_579 {d bc bs : Nat} {h : aH} {n : Nat} {Q : aQ} {ar0 ar1 : Nat} {r2 : Option Nat} {x3 v4 : Int} {w2 : List Int} {f7 : List aV} (b1 : -2147483648 ≤ x3 + 1 ∧ x3 + 1 < 2147483648) (h3 : h ar0 = cI w2) (i5 : 0 ≤ x3 + 1) (g6 : w2[(x3 + 1 : Int).toNat]? = some v4) (h8 : h ar1 = cO 12 f7) (k : Rn d 0 0 mX12_played 0 [some (vR (some ar1)), some (vI v4), none, none, none] [] h n (fun v h1 n1 => Rn (d + 1) bc bs mL_law 588 [some (vR (some ar0)), some (vR (some ar1)), some (vR r2), some (vI x3)] (v.toList ++ []) h1 n1 Q)) : Rn (d + 1) (bc) (bs) mL_law 579 [some (vR (some ar0)), some (vR (some ar1)), some (vR r2), some (vI x3)] [] h n Q := by
  refine Rn_aload_n dL_law_579 rfl rfl rfl ?_
  refine Rn_aload_n dL_law_580 rfl rfl rfl ?_
  refine Rn_iload_n dL_law_581 rfl rfl ?_
  refine Rn_iconst dL_law_582 rfl ?_
  refine Rn_iadd dL_law_583 ?_
  rw [w32_id b1.1 b1.2]
  refine Rn_iaload dL_law_584 h3 i5 g6 ?_
  exact Rn_callV (ci := 12) (avs := [vI v4]) (st := []) (bc1 := 0) (bs1 := 0) (bc2 := bc) (bs2 := bs) fx_X12_played dL_law_585 wd_949 wd_950 wd_951 rfl h8 rfl (Nat.le_of_ble_eq_true rfl) (Nat.le_of_ble_eq_true rfl) (by omega) (by omega) (ls1 := [some (vR (some ar1)), some (vI v4), none, none, none]) rfl k
theorem BL_law_588 {d bc bs : Nat} {h : aH} {n : Nat} {Q : aQ} {ar0 ar2 : Nat} {r1 : Option Nat} {x3 s0 v4 : Int} {w2 : List Int} {f7 : List aV} (b1 : -2147483648 ≤ x3 + 1 ∧ x3 + 1 < 2147483648) (h3 : h ar0 = cI w2) (i5 : 0 ≤ x3 + 1) (g6 : w2[(x3 + 1 : Int).toNat]? = some v4) (h8 : h ar2 = cO 13 f7) (k : Rn d 0 0 mX13_played 0 [some (vR (some ar2)), some (vI v4), none] [] h n (fun v h1 n1 => Rn (d + 1) bc bs mL_law 597 [some (vR (some ar0)), some (vR r1), some (vR (some ar2)), some (vI x3)] (v.toList ++ [vI s0]) h1 n1 Q)) : Rn (d + 1) (bc) (bs) mL_law 588 [some (vR (some ar0)), some (vR r1), some (vR (some ar2)), some (vI x3)] [vI s0] h n Q := by
  refine Rn_aload_n dL_law_588 rfl rfl rfl ?_
  refine Rn_aload_n dL_law_589 rfl rfl rfl ?_
  refine Rn_iload_n dL_law_590 rfl rfl ?_
  refine Rn_iconst dL_law_591 rfl ?_
  refine Rn_iadd dL_law_592 ?_
  rw [w32_id b1.1 b1.2]
  refine Rn_iaload dL_law_593 h3 i5 g6 ?_
  exact Rn_callV (ci := 13) (avs := [vI v4]) (st := [vI s0]) (bc1 := 0) (bs1 := 0) (bc2 := bc) (bs2 := bs) fx_X13_played dL_law_594 wd_1785 wd_1786 wd_1787 rfl h8 rfl (Nat.le_of_ble_eq_true rfl) (Nat.le_of_ble_eq_true rfl) (by omega) (by omega) (ls1 := [some (vR (some ar2)), some (vI v4), none]) rfl k
theorem BL_law_597 {d bc bs : Nat} {h : aH} {n : Nat} {Q : aQ} {r0 r1 r2 : Option Nat} {x3 s0 s1 : Int} (kt : s0 = s1 → Rn d bc bs mL_law 1576 [some (vR r0), some (vR r1), some (vR r2), some (vI x3)] [] h n Q) (kf : s0 ≠ s1 → Rn d bc bs mL_law 600 [some (vR r0), some (vR r1), some (vR r2), some (vI x3)] [] h n Q) : Rn d (bc) (bs) mL_law 597 [some (vR r0), some (vR r1), some (vR r2), some (vI x3)] [vI s1, vI s0] h n Q := by
  refine Rn_icmpeq (tgt := 1576) dL_law_597 rfl ?_ ?_
  · exact kt
  · exact kf
theorem BL_law_600 {d bc bs : Nat} {h : aH} {n : Nat} {Q : aQ} {r0 r1 r2 : Option Nat} {x3 : Int} (k : Q (some (vI 0)) h n) : Rn d (bc) (bs) mL_law 600 [some (vR r0), some (vR r1), some (vR r2), some (vI x3)] [] h n Q := by
  refine Rn_iconst dL_law_600 rfl ?_
  exact Rn_zreturn rfl dL_law_601 (by decide) k
theorem BL_law_602 {d bc bs : Nat} {h : aH} {n : Nat} {Q : aQ} {ar0 ar1 : Nat} {r2 : Option Nat} {x3 v4 v8 : Int} {w2 : List Int} {f11 : List aV} (b1 : -2147483648 ≤ x3 + 1 ∧ x3 + 1 < 2147483648) (h3 : h ar0 = cI w2) (i5 : 0 ≤ x3 + 1) (g6 : w2[(x3 + 1 : Int).toNat]? = some v4) (b7 : -2147483648 ≤ x3 + 2 ∧ x3 + 2 < 2147483648) (i9 : 0 ≤ x3 + 2) (g10 : w2[(x3 + 2 : Int).toNat]? = some v8) (h12 : h ar1 = cO 12 f11) (k : Rn d 0 0 mX12_years 0 [some (vR (some ar1)), some (vI v4), some (vI v8), none] [] h n (fun v h1 n1 => Rn (d + 1) bc bs mL_law 616 [some (vR (some ar0)), some (vR (some ar1)), some (vR r2), some (vI x3)] (v.toList ++ []) h1 n1 Q)) : Rn (d + 1) (bc) (bs) mL_law 602 [some (vR (some ar0)), some (vR (some ar1)), some (vR r2), some (vI x3)] [] h n Q := by
  refine Rn_aload_n dL_law_602 rfl rfl rfl ?_
  refine Rn_aload_n dL_law_603 rfl rfl rfl ?_
  refine Rn_iload_n dL_law_604 rfl rfl ?_
  refine Rn_iconst dL_law_605 rfl ?_
  refine Rn_iadd dL_law_606 ?_
  rw [w32_id b1.1 b1.2]
  refine Rn_iaload dL_law_607 h3 i5 g6 ?_
  refine Rn_aload_n dL_law_608 rfl rfl rfl ?_
  refine Rn_iload_n dL_law_609 rfl rfl ?_
  refine Rn_iconst dL_law_610 rfl ?_
  refine Rn_iadd dL_law_611 ?_
  rw [w32_id b7.1 b7.2]
  refine Rn_iaload dL_law_612 h3 i9 g10 ?_
  exact Rn_callV (ci := 12) (avs := [vI v4, vI v8]) (st := []) (bc1 := 0) (bs1 := 0) (bc2 := bc) (bs2 := bs) fx_X12_years dL_law_613 wd_969 wd_970 wd_971 rfl h12 rfl (Nat.le_of_ble_eq_true rfl) (Nat.le_of_ble_eq_true rfl) (by omega) (by omega) (ls1 := [some (vR (some ar1)), some (vI v4), some (vI v8), none]) rfl k
theorem BL_law_616 {d bc bs : Nat} {h : aH} {n : Nat} {Q : aQ} {ar0 ar2 : Nat} {r1 : Option Nat} {x3 s0 v4 v8 : Int} {w2 : List Int} {f11 : List aV} (b1 : -2147483648 ≤ x3 + 1 ∧ x3 + 1 < 2147483648) (h3 : h ar0 = cI w2) (i5 : 0 ≤ x3 + 1) (g6 : w2[(x3 + 1 : Int).toNat]? = some v4) (b7 : -2147483648 ≤ x3 + 2 ∧ x3 + 2 < 2147483648) (i9 : 0 ≤ x3 + 2) (g10 : w2[(x3 + 2 : Int).toNat]? = some v8) (h12 : h ar2 = cO 13 f11) (k : Rn d 0 0 mX13_years 0 [some (vR (some ar2)), some (vI v4), some (vI v8), none, none] [] h n (fun v h1 n1 => Rn (d + 1) bc bs mL_law 630 [some (vR (some ar0)), some (vR r1), some (vR (some ar2)), some (vI x3)] (v.toList ++ [vI s0]) h1 n1 Q)) : Rn (d + 1) (bc) (bs) mL_law 616 [some (vR (some ar0)), some (vR r1), some (vR (some ar2)), some (vI x3)] [vI s0] h n Q := by
  refine Rn_aload_n dL_law_616 rfl rfl rfl ?_
  refine Rn_aload_n dL_law_617 rfl rfl rfl ?_
  refine Rn_iload_n dL_law_618 rfl rfl ?_
  refine Rn_iconst dL_law_619 rfl ?_
  refine Rn_iadd dL_law_620 ?_
  rw [w32_id b1.1 b1.2]
  refine Rn_iaload dL_law_621 h3 i5 g6 ?_
  refine Rn_aload_n dL_law_622 rfl rfl rfl ?_
  refine Rn_iload_n dL_law_623 rfl rfl ?_
  refine Rn_iconst dL_law_624 rfl ?_
  refine Rn_iadd dL_law_625 ?_
  rw [w32_id b7.1 b7.2]
  refine Rn_iaload dL_law_626 h3 i9 g10 ?_
  exact Rn_callV (ci := 13) (avs := [vI v4, vI v8]) (st := [vI s0]) (bc1 := 0) (bs1 := 0) (bc2 := bc) (bs2 := bs) fx_X13_years dL_law_627 wd_1798 wd_1799 wd_1800 rfl h12 rfl (Nat.le_of_ble_eq_true rfl) (Nat.le_of_ble_eq_true rfl) (by omega) (by omega) (ls1 := [some (vR (some ar2)), some (vI v4), some (vI v8), none, none]) rfl k
theorem BL_law_630 {d bc bs : Nat} {h : aH} {n : Nat} {Q : aQ} {r0 r1 r2 : Option Nat} {x3 s0 s1 : Int} (kt : s0 = s1 → Rn d bc bs mL_law 1576 [some (vR r0), some (vR r1), some (vR r2), some (vI x3)] [] h n Q) (kf : s0 ≠ s1 → Rn d bc bs mL_law 633 [some (vR r0), some (vR r1), some (vR r2), some (vI x3)] [] h n Q) : Rn d (bc) (bs) mL_law 630 [some (vR r0), some (vR r1), some (vR r2), some (vI x3)] [vI s1, vI s0] h n Q := by
  refine Rn_icmpeq (tgt := 1576) dL_law_630 rfl ?_ ?_
  · exact kt
  · exact kf
theorem BL_law_633 {d bc bs : Nat} {h : aH} {n : Nat} {Q : aQ} {r0 r1 r2 : Option Nat} {x3 : Int} (k : Q (some (vI 0)) h n) : Rn d (bc) (bs) mL_law 633 [some (vR r0), some (vR r1), some (vR r2), some (vI x3)] [] h n Q := by
  refine Rn_iconst dL_law_633 rfl ?_
  exact Rn_zreturn rfl dL_law_634 (by decide) k
theorem BL_law_635 {d bc bs : Nat} {h : aH} {n : Nat} {Q : aQ} {r0 r2 : Option Nat} {ar1 : Nat} {x3 : Int} {f1 : List aV} (h2 : h ar1 = cO 12 f1) (k : Rn d 0 0 mX12_undo 0 [some (vR (some ar1))] [] h n (fun v h1 n1 => Rn (d + 1) bc bs mL_law 639 [some (vR r0), some (vR (some ar1)), some (vR r2), some (vI x3)] (v.toList ++ []) h1 n1 Q)) : Rn (d + 1) (bc) (bs) mL_law 635 [some (vR r0), some (vR (some ar1)), some (vR r2), some (vI x3)] [] h n Q := by
  refine Rn_aload_n dL_law_635 rfl rfl rfl ?_
  exact Rn_callV (ci := 12) (avs := []) (st := []) (bc1 := 0) (bs1 := 0) (bc2 := bc) (bs2 := bs) fx_X12_undo dL_law_636 wd_978 wd_979 wd_980 rfl h2 rfl (Nat.le_of_ble_eq_true rfl) (Nat.le_of_ble_eq_true rfl) (by omega) (by omega) (ls1 := [some (vR (some ar1))]) rfl k
theorem BL_law_639 {d bc bs : Nat} {h : aH} {n : Nat} {Q : aQ} {r0 r1 : Option Nat} {ar2 : Nat} {x3 s0 : Int} {f1 : List aV} (h2 : h ar2 = cO 13 f1) (k : Rn d 0 0 mX13_undo 0 [some (vR (some ar2)), none, none] [] h n (fun v h1 n1 => Rn (d + 1) bc bs mL_law 643 [some (vR r0), some (vR r1), some (vR (some ar2)), some (vI x3)] (v.toList ++ [vI s0]) h1 n1 Q)) : Rn (d + 1) (bc) (bs) mL_law 639 [some (vR r0), some (vR r1), some (vR (some ar2)), some (vI x3)] [vI s0] h n Q := by
  refine Rn_aload_n dL_law_639 rfl rfl rfl ?_
  exact Rn_callV (ci := 13) (avs := []) (st := [vI s0]) (bc1 := 0) (bs1 := 0) (bc2 := bc) (bs2 := bs) fx_X13_undo dL_law_640 wd_1634 wd_1635 wd_1636 rfl h2 rfl (Nat.le_of_ble_eq_true rfl) (Nat.le_of_ble_eq_true rfl) (by omega) (by omega) (ls1 := [some (vR (some ar2)), none, none]) rfl k
theorem BL_law_643 {d bc bs : Nat} {h : aH} {n : Nat} {Q : aQ} {r0 r1 r2 : Option Nat} {x3 s0 s1 : Int} (kt : s0 = s1 → Rn d bc bs mL_law 1576 [some (vR r0), some (vR r1), some (vR r2), some (vI x3)] [] h n Q) (kf : s0 ≠ s1 → Rn d bc bs mL_law 646 [some (vR r0), some (vR r1), some (vR r2), some (vI x3)] [] h n Q) : Rn d (bc) (bs) mL_law 643 [some (vR r0), some (vR r1), some (vR r2), some (vI x3)] [vI s1, vI s0] h n Q := by
  refine Rn_icmpeq (tgt := 1576) dL_law_643 rfl ?_ ?_
  · exact kt
  · exact kf
theorem BL_law_646 {d bc bs : Nat} {h : aH} {n : Nat} {Q : aQ} {r0 r1 r2 : Option Nat} {x3 : Int} (k : Q (some (vI 0)) h n) : Rn d (bc) (bs) mL_law 646 [some (vR r0), some (vR r1), some (vR r2), some (vI x3)] [] h n Q := by
  refine Rn_iconst dL_law_646 rfl ?_
  exact Rn_zreturn rfl dL_law_647 (by decide) k
theorem BL_law_648 {d bc bs : Nat} {h : aH} {n : Nat} {Q : aQ} {ar0 ar1 : Nat} {r2 : Option Nat} {x3 v4 v8 : Int} {w2 : List Int} {f11 : List aV} (b1 : -2147483648 ≤ x3 + 1 ∧ x3 + 1 < 2147483648) (h3 : h ar0 = cI w2) (i5 : 0 ≤ x3 + 1) (g6 : w2[(x3 + 1 : Int).toNat]? = some v4) (b7 : -2147483648 ≤ x3 + 2 ∧ x3 + 2 < 2147483648) (i9 : 0 ≤ x3 + 2) (g10 : w2[(x3 + 2 : Int).toNat]? = some v8) (h12 : h ar1 = cO 12 f11) (k : Rn d 0 0 mX12_of 0 [some (vR (some ar1)), some (vI v4), some (vI v8)] [] h n (fun v h1 n1 => Rn (d + 1) bc bs mL_law 662 [some (vR (some ar0)), some (vR (some ar1)), some (vR r2), some (vI x3)] (v.toList ++ []) h1 n1 Q)) : Rn (d + 1) (bc) (bs) mL_law 648 [some (vR (some ar0)), some (vR (some ar1)), some (vR r2), some (vI x3)] [] h n Q := by
  refine Rn_aload_n dL_law_648 rfl rfl rfl ?_
  refine Rn_aload_n dL_law_649 rfl rfl rfl ?_
  refine Rn_iload_n dL_law_650 rfl rfl ?_
  refine Rn_iconst dL_law_651 rfl ?_
  refine Rn_iadd dL_law_652 ?_
  rw [w32_id b1.1 b1.2]
  refine Rn_iaload dL_law_653 h3 i5 g6 ?_
  refine Rn_aload_n dL_law_654 rfl rfl rfl ?_
  refine Rn_iload_n dL_law_655 rfl rfl ?_
  refine Rn_iconst dL_law_656 rfl ?_
  refine Rn_iadd dL_law_657 ?_
  rw [w32_id b7.1 b7.2]
  refine Rn_iaload dL_law_658 h3 i9 g10 ?_
  exact Rn_callV (ci := 12) (avs := [vI v4, vI v8]) (st := []) (bc1 := 0) (bs1 := 0) (bc2 := bc) (bs2 := bs) fx_X12_of dL_law_659 wd_986 wd_987 wd_988 rfl h12 rfl (Nat.le_of_ble_eq_true rfl) (Nat.le_of_ble_eq_true rfl) (by omega) (by omega) (ls1 := [some (vR (some ar1)), some (vI v4), some (vI v8)]) rfl k
theorem BL_law_662 {d bc bs : Nat} {h : aH} {n : Nat} {Q : aQ} {ar0 ar2 : Nat} {r1 : Option Nat} {x3 s0 v4 v8 : Int} {w2 : List Int} {f11 : List aV} (b1 : -2147483648 ≤ x3 + 1 ∧ x3 + 1 < 2147483648) (h3 : h ar0 = cI w2) (i5 : 0 ≤ x3 + 1) (g6 : w2[(x3 + 1 : Int).toNat]? = some v4) (b7 : -2147483648 ≤ x3 + 2 ∧ x3 + 2 < 2147483648) (i9 : 0 ≤ x3 + 2) (g10 : w2[(x3 + 2 : Int).toNat]? = some v8) (h12 : h ar2 = cO 13 f11) (k : Rn d 0 0 mX13_of 0 [some (vR (some ar2)), some (vI v4), some (vI v8)] [] h n (fun v h1 n1 => Rn (d + 1) bc bs mL_law 676 [some (vR (some ar0)), some (vR r1), some (vR (some ar2)), some (vI x3)] (v.toList ++ [vI s0]) h1 n1 Q)) : Rn (d + 1) (bc) (bs) mL_law 662 [some (vR (some ar0)), some (vR r1), some (vR (some ar2)), some (vI x3)] [vI s0] h n Q := by
  refine Rn_aload_n dL_law_662 rfl rfl rfl ?_
  refine Rn_aload_n dL_law_663 rfl rfl rfl ?_
  refine Rn_iload_n dL_law_664 rfl rfl ?_
  refine Rn_iconst dL_law_665 rfl ?_
  refine Rn_iadd dL_law_666 ?_
  rw [w32_id b1.1 b1.2]
  refine Rn_iaload dL_law_667 h3 i5 g6 ?_
  refine Rn_aload_n dL_law_668 rfl rfl rfl ?_
  refine Rn_iload_n dL_law_669 rfl rfl ?_
  refine Rn_iconst dL_law_670 rfl ?_
  refine Rn_iadd dL_law_671 ?_
  rw [w32_id b7.1 b7.2]
  refine Rn_iaload dL_law_672 h3 i9 g10 ?_
  exact Rn_callV (ci := 13) (avs := [vI v4, vI v8]) (st := [vI s0]) (bc1 := 0) (bs1 := 0) (bc2 := bc) (bs2 := bs) fx_X13_of dL_law_673 wd_1806 wd_1807 wd_1808 rfl h12 rfl (Nat.le_of_ble_eq_true rfl) (Nat.le_of_ble_eq_true rfl) (by omega) (by omega) (ls1 := [some (vR (some ar2)), some (vI v4), some (vI v8)]) rfl k
theorem BL_law_676 {d bc bs : Nat} {h : aH} {n : Nat} {Q : aQ} {r0 r1 r2 : Option Nat} {x3 s0 s1 : Int} (kt : s0 = s1 → Rn d bc bs mL_law 1576 [some (vR r0), some (vR r1), some (vR r2), some (vI x3)] [] h n Q) (kf : s0 ≠ s1 → Rn d bc bs mL_law 679 [some (vR r0), some (vR r1), some (vR r2), some (vI x3)] [] h n Q) : Rn d (bc) (bs) mL_law 676 [some (vR r0), some (vR r1), some (vR r2), some (vI x3)] [vI s1, vI s0] h n Q := by
  refine Rn_icmpeq (tgt := 1576) dL_law_676 rfl ?_ ?_
  · exact kt
  · exact kf
theorem BL_law_679 {d bc bs : Nat} {h : aH} {n : Nat} {Q : aQ} {r0 r1 r2 : Option Nat} {x3 : Int} (k : Q (some (vI 0)) h n) : Rn d (bc) (bs) mL_law 679 [some (vR r0), some (vR r1), some (vR r2), some (vI x3)] [] h n Q := by
  refine Rn_iconst dL_law_679 rfl ?_
  exact Rn_zreturn rfl dL_law_680 (by decide) k
theorem BL_law_681 {d bc bs : Nat} {h : aH} {n : Nat} {Q : aQ} {ar0 ar1 : Nat} {r2 : Option Nat} {x3 v4 v8 : Int} {w2 : List Int} {f11 : List aV} (b1 : -2147483648 ≤ x3 + 1 ∧ x3 + 1 < 2147483648) (h3 : h ar0 = cI w2) (i5 : 0 ≤ x3 + 1) (g6 : w2[(x3 + 1 : Int).toNat]? = some v4) (b7 : -2147483648 ≤ x3 + 2 ∧ x3 + 2 < 2147483648) (i9 : 0 ≤ x3 + 2) (g10 : w2[(x3 + 2 : Int).toNat]? = some v8) (h12 : h ar1 = cO 12 f11) (k : Rn d 0 0 mX12_ofBottle 0 [some (vR (some ar1)), some (vI v4), some (vI v8)] [] h n (fun v h1 n1 => Rn (d + 1) bc bs mL_law 695 [some (vR (some ar0)), some (vR (some ar1)), some (vR r2), some (vI x3)] (v.toList ++ []) h1 n1 Q)) : Rn (d + 1) (bc) (bs) mL_law 681 [some (vR (some ar0)), some (vR (some ar1)), some (vR r2), some (vI x3)] [] h n Q := by
  refine Rn_aload_n dL_law_681 rfl rfl rfl ?_
  refine Rn_aload_n dL_law_682 rfl rfl rfl ?_
  refine Rn_iload_n dL_law_683 rfl rfl ?_
  refine Rn_iconst dL_law_684 rfl ?_
  refine Rn_iadd dL_law_685 ?_
  rw [w32_id b1.1 b1.2]
  refine Rn_iaload dL_law_686 h3 i5 g6 ?_
  refine Rn_aload_n dL_law_687 rfl rfl rfl ?_
  refine Rn_iload_n dL_law_688 rfl rfl ?_
  refine Rn_iconst dL_law_689 rfl ?_
  refine Rn_iadd dL_law_690 ?_
  rw [w32_id b7.1 b7.2]
  refine Rn_iaload dL_law_691 h3 i9 g10 ?_
  exact Rn_callV (ci := 12) (avs := [vI v4, vI v8]) (st := []) (bc1 := 0) (bs1 := 0) (bc2 := bc) (bs2 := bs) fx_X12_ofBottle dL_law_692 wd_999 wd_1000 wd_1001 rfl h12 rfl (Nat.le_of_ble_eq_true rfl) (Nat.le_of_ble_eq_true rfl) (by omega) (by omega) (ls1 := [some (vR (some ar1)), some (vI v4), some (vI v8)]) rfl k
theorem BL_law_695 {d bc bs : Nat} {h : aH} {n : Nat} {Q : aQ} {ar0 ar2 : Nat} {r1 : Option Nat} {x3 s0 v4 v8 : Int} {w2 : List Int} {f11 : List aV} (b1 : -2147483648 ≤ x3 + 1 ∧ x3 + 1 < 2147483648) (h3 : h ar0 = cI w2) (i5 : 0 ≤ x3 + 1) (g6 : w2[(x3 + 1 : Int).toNat]? = some v4) (b7 : -2147483648 ≤ x3 + 2 ∧ x3 + 2 < 2147483648) (i9 : 0 ≤ x3 + 2) (g10 : w2[(x3 + 2 : Int).toNat]? = some v8) (h12 : h ar2 = cO 13 f11) (k : Rn d 0 0 mX13_ofBottle 0 [some (vR (some ar2)), some (vI v4), some (vI v8)] [] h n (fun v h1 n1 => Rn (d + 1) bc bs mL_law 709 [some (vR (some ar0)), some (vR r1), some (vR (some ar2)), some (vI x3)] (v.toList ++ [vI s0]) h1 n1 Q)) : Rn (d + 1) (bc) (bs) mL_law 695 [some (vR (some ar0)), some (vR r1), some (vR (some ar2)), some (vI x3)] [vI s0] h n Q := by
  refine Rn_aload_n dL_law_695 rfl rfl rfl ?_
  refine Rn_aload_n dL_law_696 rfl rfl rfl ?_
  refine Rn_iload_n dL_law_697 rfl rfl ?_
  refine Rn_iconst dL_law_698 rfl ?_
  refine Rn_iadd dL_law_699 ?_
  rw [w32_id b1.1 b1.2]
  refine Rn_iaload dL_law_700 h3 i5 g6 ?_
  refine Rn_aload_n dL_law_701 rfl rfl rfl ?_
  refine Rn_iload_n dL_law_702 rfl rfl ?_
  refine Rn_iconst dL_law_703 rfl ?_
  refine Rn_iadd dL_law_704 ?_
  rw [w32_id b7.1 b7.2]
  refine Rn_iaload dL_law_705 h3 i9 g10 ?_
  exact Rn_callV (ci := 13) (avs := [vI v4, vI v8]) (st := [vI s0]) (bc1 := 0) (bs1 := 0) (bc2 := bc) (bs2 := bs) fx_X13_ofBottle dL_law_706 wd_1818 wd_1819 wd_1820 rfl h12 rfl (Nat.le_of_ble_eq_true rfl) (Nat.le_of_ble_eq_true rfl) (by omega) (by omega) (ls1 := [some (vR (some ar2)), some (vI v4), some (vI v8)]) rfl k
theorem BL_law_709 {d bc bs : Nat} {h : aH} {n : Nat} {Q : aQ} {r0 r1 r2 : Option Nat} {x3 s0 s1 : Int} (kt : s0 = s1 → Rn d bc bs mL_law 1576 [some (vR r0), some (vR r1), some (vR r2), some (vI x3)] [] h n Q) (kf : s0 ≠ s1 → Rn d bc bs mL_law 712 [some (vR r0), some (vR r1), some (vR r2), some (vI x3)] [] h n Q) : Rn d (bc) (bs) mL_law 709 [some (vR r0), some (vR r1), some (vR r2), some (vI x3)] [vI s1, vI s0] h n Q := by
  refine Rn_icmpeq (tgt := 1576) dL_law_709 rfl ?_ ?_
  · exact kt
  · exact kf
theorem BL_law_712 {d bc bs : Nat} {h : aH} {n : Nat} {Q : aQ} {r0 r1 r2 : Option Nat} {x3 : Int} (k : Q (some (vI 0)) h n) : Rn d (bc) (bs) mL_law 712 [some (vR r0), some (vR r1), some (vR r2), some (vI x3)] [] h n Q := by
  refine Rn_iconst dL_law_712 rfl ?_
  exact Rn_zreturn rfl dL_law_713 (by decide) k
theorem BL_law_714 {d bc bs : Nat} {h : aH} {n : Nat} {Q : aQ} {ar0 ar1 : Nat} {r2 : Option Nat} {x3 v4 v8 : Int} {w2 : List Int} {f11 : List aV} (b1 : -2147483648 ≤ x3 + 1 ∧ x3 + 1 < 2147483648) (h3 : h ar0 = cI w2) (i5 : 0 ≤ x3 + 1) (g6 : w2[(x3 + 1 : Int).toNat]? = some v4) (b7 : -2147483648 ≤ x3 + 2 ∧ x3 + 2 < 2147483648) (i9 : 0 ≤ x3 + 2) (g10 : w2[(x3 + 2 : Int).toNat]? = some v8) (h12 : h ar1 = cO 12 f11) (k : Rn d 0 0 mX12_told 0 [some (vR (some ar1)), some (vI v4), some (vI v8)] [] h n (fun v h1 n1 => Rn (d + 1) bc bs mL_law 728 [some (vR (some ar0)), some (vR (some ar1)), some (vR r2), some (vI x3)] (v.toList ++ []) h1 n1 Q)) : Rn (d + 1) (bc) (bs) mL_law 714 [some (vR (some ar0)), some (vR (some ar1)), some (vR r2), some (vI x3)] [] h n Q := by
  refine Rn_aload_n dL_law_714 rfl rfl rfl ?_
  refine Rn_aload_n dL_law_715 rfl rfl rfl ?_
  refine Rn_iload_n dL_law_716 rfl rfl ?_
  refine Rn_iconst dL_law_717 rfl ?_
  refine Rn_iadd dL_law_718 ?_
  rw [w32_id b1.1 b1.2]
  refine Rn_iaload dL_law_719 h3 i5 g6 ?_
  refine Rn_aload_n dL_law_720 rfl rfl rfl ?_
  refine Rn_iload_n dL_law_721 rfl rfl ?_
  refine Rn_iconst dL_law_722 rfl ?_
  refine Rn_iadd dL_law_723 ?_
  rw [w32_id b7.1 b7.2]
  refine Rn_iaload dL_law_724 h3 i9 g10 ?_
  exact Rn_callV (ci := 12) (avs := [vI v4, vI v8]) (st := []) (bc1 := 0) (bs1 := 0) (bc2 := bc) (bs2 := bs) fx_X12_told dL_law_725 wd_1005 wd_1006 wd_1007 rfl h12 rfl (Nat.le_of_ble_eq_true rfl) (Nat.le_of_ble_eq_true rfl) (by omega) (by omega) (ls1 := [some (vR (some ar1)), some (vI v4), some (vI v8)]) rfl k
theorem BL_law_728 {d bc bs : Nat} {h : aH} {n : Nat} {Q : aQ} {ar0 ar2 : Nat} {r1 : Option Nat} {x3 s0 v4 v8 : Int} {w2 : List Int} {f11 : List aV} (b1 : -2147483648 ≤ x3 + 1 ∧ x3 + 1 < 2147483648) (h3 : h ar0 = cI w2) (i5 : 0 ≤ x3 + 1) (g6 : w2[(x3 + 1 : Int).toNat]? = some v4) (b7 : -2147483648 ≤ x3 + 2 ∧ x3 + 2 < 2147483648) (i9 : 0 ≤ x3 + 2) (g10 : w2[(x3 + 2 : Int).toNat]? = some v8) (h12 : h ar2 = cO 13 f11) (k : Rn d 0 0 mX13_told 0 [some (vR (some ar2)), some (vI v4), some (vI v8)] [] h n (fun v h1 n1 => Rn (d + 1) bc bs mL_law 742 [some (vR (some ar0)), some (vR r1), some (vR (some ar2)), some (vI x3)] (v.toList ++ [vI s0]) h1 n1 Q)) : Rn (d + 1) (bc) (bs) mL_law 728 [some (vR (some ar0)), some (vR r1), some (vR (some ar2)), some (vI x3)] [vI s0] h n Q := by
  refine Rn_aload_n dL_law_728 rfl rfl rfl ?_
  refine Rn_aload_n dL_law_729 rfl rfl rfl ?_
  refine Rn_iload_n dL_law_730 rfl rfl ?_
  refine Rn_iconst dL_law_731 rfl ?_
  refine Rn_iadd dL_law_732 ?_
  rw [w32_id b1.1 b1.2]
  refine Rn_iaload dL_law_733 h3 i5 g6 ?_
  refine Rn_aload_n dL_law_734 rfl rfl rfl ?_
  refine Rn_iload_n dL_law_735 rfl rfl ?_
  refine Rn_iconst dL_law_736 rfl ?_
  refine Rn_iadd dL_law_737 ?_
  rw [w32_id b7.1 b7.2]
  refine Rn_iaload dL_law_738 h3 i9 g10 ?_
  exact Rn_callV (ci := 13) (avs := [vI v4, vI v8]) (st := [vI s0]) (bc1 := 0) (bs1 := 0) (bc2 := bc) (bs2 := bs) fx_X13_told dL_law_739 wd_1822 wd_1823 wd_1824 rfl h12 rfl (Nat.le_of_ble_eq_true rfl) (Nat.le_of_ble_eq_true rfl) (by omega) (by omega) (ls1 := [some (vR (some ar2)), some (vI v4), some (vI v8)]) rfl k
theorem BL_law_742 {d bc bs : Nat} {h : aH} {n : Nat} {Q : aQ} {r0 r1 r2 : Option Nat} {x3 s0 s1 : Int} (kt : s0 = s1 → Rn d bc bs mL_law 1576 [some (vR r0), some (vR r1), some (vR r2), some (vI x3)] [] h n Q) (kf : s0 ≠ s1 → Rn d bc bs mL_law 745 [some (vR r0), some (vR r1), some (vR r2), some (vI x3)] [] h n Q) : Rn d (bc) (bs) mL_law 742 [some (vR r0), some (vR r1), some (vR r2), some (vI x3)] [vI s1, vI s0] h n Q := by
  refine Rn_icmpeq (tgt := 1576) dL_law_742 rfl ?_ ?_
  · exact kt
  · exact kf
theorem BL_law_745 {d bc bs : Nat} {h : aH} {n : Nat} {Q : aQ} {r0 r1 r2 : Option Nat} {x3 : Int} (k : Q (some (vI 0)) h n) : Rn d (bc) (bs) mL_law 745 [some (vR r0), some (vR r1), some (vR r2), some (vI x3)] [] h n Q := by
  refine Rn_iconst dL_law_745 rfl ?_
  exact Rn_zreturn rfl dL_law_746 (by decide) k
theorem BL_law_747 {d bc bs : Nat} {h : aH} {n : Nat} {Q : aQ} {ar0 ar1 : Nat} {r2 : Option Nat} {x3 v4 : Int} {w2 : List Int} {f7 : List aV} (b1 : -2147483648 ≤ x3 + 1 ∧ x3 + 1 < 2147483648) (h3 : h ar0 = cI w2) (i5 : 0 ≤ x3 + 1) (g6 : w2[(x3 + 1 : Int).toNat]? = some v4) (h8 : h ar1 = cO 12 f7) (k : Rn d 0 0 mX12_is 0 [some (vR (some ar1)), some (vI v4)] [] h n (fun v h1 n1 => Rn (d + 1) bc bs mL_law 756 [some (vR (some ar0)), some (vR (some ar1)), some (vR r2), some (vI x3)] (v.toList ++ []) h1 n1 Q)) : Rn (d + 1) (bc) (bs) mL_law 747 [some (vR (some ar0)), some (vR (some ar1)), some (vR r2), some (vI x3)] [] h n Q := by
  refine Rn_aload_n dL_law_747 rfl rfl rfl ?_
  refine Rn_aload_n dL_law_748 rfl rfl rfl ?_
  refine Rn_iload_n dL_law_749 rfl rfl ?_
  refine Rn_iconst dL_law_750 rfl ?_
  refine Rn_iadd dL_law_751 ?_
  rw [w32_id b1.1 b1.2]
  refine Rn_iaload dL_law_752 h3 i5 g6 ?_
  exact Rn_callV (ci := 12) (avs := [vI v4]) (st := []) (bc1 := 0) (bs1 := 0) (bc2 := bc) (bs2 := bs) fx_X12_is dL_law_753 wd_1011 wd_1012 wd_1013 rfl h8 rfl (Nat.le_of_ble_eq_true rfl) (Nat.le_of_ble_eq_true rfl) (by omega) (by omega) (ls1 := [some (vR (some ar1)), some (vI v4)]) rfl k
theorem BL_law_756 {d bc bs : Nat} {h : aH} {n : Nat} {Q : aQ} {ar0 ar2 : Nat} {r1 : Option Nat} {x3 s0 v4 : Int} {w2 : List Int} {f7 : List aV} (b1 : -2147483648 ≤ x3 + 1 ∧ x3 + 1 < 2147483648) (h3 : h ar0 = cI w2) (i5 : 0 ≤ x3 + 1) (g6 : w2[(x3 + 1 : Int).toNat]? = some v4) (h8 : h ar2 = cO 13 f7) (k : Rn d 0 0 mX13_is 0 [some (vR (some ar2)), some (vI v4)] [] h n (fun v h1 n1 => Rn (d + 1) bc bs mL_law 765 [some (vR (some ar0)), some (vR r1), some (vR (some ar2)), some (vI x3)] (v.toList ++ [vI s0]) h1 n1 Q)) : Rn (d + 1) (bc) (bs) mL_law 756 [some (vR (some ar0)), some (vR r1), some (vR (some ar2)), some (vI x3)] [vI s0] h n Q := by
  refine Rn_aload_n dL_law_756 rfl rfl rfl ?_
  refine Rn_aload_n dL_law_757 rfl rfl rfl ?_
  refine Rn_iload_n dL_law_758 rfl rfl ?_
  refine Rn_iconst dL_law_759 rfl ?_
  refine Rn_iadd dL_law_760 ?_
  rw [w32_id b1.1 b1.2]
  refine Rn_iaload dL_law_761 h3 i5 g6 ?_
  exact Rn_callV (ci := 13) (avs := [vI v4]) (st := [vI s0]) (bc1 := 0) (bs1 := 0) (bc2 := bc) (bs2 := bs) fx_X13_is dL_law_762 wd_1826 wd_1827 wd_1828 rfl h8 rfl (Nat.le_of_ble_eq_true rfl) (Nat.le_of_ble_eq_true rfl) (by omega) (by omega) (ls1 := [some (vR (some ar2)), some (vI v4)]) rfl k
theorem BL_law_765 {d bc bs : Nat} {h : aH} {n : Nat} {Q : aQ} {r0 r1 r2 : Option Nat} {x3 s0 s1 : Int} (kt : s0 = s1 → Rn d bc bs mL_law 1576 [some (vR r0), some (vR r1), some (vR r2), some (vI x3)] [] h n Q) (kf : s0 ≠ s1 → Rn d bc bs mL_law 768 [some (vR r0), some (vR r1), some (vR r2), some (vI x3)] [] h n Q) : Rn d (bc) (bs) mL_law 765 [some (vR r0), some (vR r1), some (vR r2), some (vI x3)] [vI s1, vI s0] h n Q := by
  refine Rn_icmpeq (tgt := 1576) dL_law_765 rfl ?_ ?_
  · exact kt
  · exact kf
theorem BL_law_768 {d bc bs : Nat} {h : aH} {n : Nat} {Q : aQ} {r0 r1 r2 : Option Nat} {x3 : Int} (k : Q (some (vI 0)) h n) : Rn d (bc) (bs) mL_law 768 [some (vR r0), some (vR r1), some (vR r2), some (vI x3)] [] h n Q := by
  refine Rn_iconst dL_law_768 rfl ?_
  exact Rn_zreturn rfl dL_law_769 (by decide) k
theorem BL_law_770 {d bc bs : Nat} {h : aH} {n : Nat} {Q : aQ} {ar0 ar1 : Nat} {r2 : Option Nat} {x3 v4 v8 : Int} {w2 : List Int} {f11 : List aV} (b1 : -2147483648 ≤ x3 + 1 ∧ x3 + 1 < 2147483648) (h3 : h ar0 = cI w2) (i5 : 0 ≤ x3 + 1) (g6 : w2[(x3 + 1 : Int).toNat]? = some v4) (b7 : -2147483648 ≤ x3 + 2 ∧ x3 + 2 < 2147483648) (i9 : 0 ≤ x3 + 2) (g10 : w2[(x3 + 2 : Int).toNat]? = some v8) (h12 : h ar1 = cO 12 f11) (k : Rn d 0 0 mX12_book 0 [some (vR (some ar1)), some (vI v4), some (vI v8)] [] h n (fun v h1 n1 => Rn (d + 1) bc bs mL_law 784 [some (vR (some ar0)), some (vR (some ar1)), some (vR r2), some (vI x3)] (v.toList ++ []) h1 n1 Q)) : Rn (d + 1) (bc) (bs) mL_law 770 [some (vR (some ar0)), some (vR (some ar1)), some (vR r2), some (vI x3)] [] h n Q := by
  refine Rn_aload_n dL_law_770 rfl rfl rfl ?_
  refine Rn_aload_n dL_law_771 rfl rfl rfl ?_
  refine Rn_iload_n dL_law_772 rfl rfl ?_
  refine Rn_iconst dL_law_773 rfl ?_
  refine Rn_iadd dL_law_774 ?_
  rw [w32_id b1.1 b1.2]
  refine Rn_iaload dL_law_775 h3 i5 g6 ?_
  refine Rn_aload_n dL_law_776 rfl rfl rfl ?_
  refine Rn_iload_n dL_law_777 rfl rfl ?_
  refine Rn_iconst dL_law_778 rfl ?_
  refine Rn_iadd dL_law_779 ?_
  rw [w32_id b7.1 b7.2]
  refine Rn_iaload dL_law_780 h3 i9 g10 ?_
  exact Rn_callV (ci := 12) (avs := [vI v4, vI v8]) (st := []) (bc1 := 0) (bs1 := 0) (bc2 := bc) (bs2 := bs) fx_X12_book dL_law_781 wd_1015 wd_1016 wd_1017 rfl h12 rfl (Nat.le_of_ble_eq_true rfl) (Nat.le_of_ble_eq_true rfl) (by omega) (by omega) (ls1 := [some (vR (some ar1)), some (vI v4), some (vI v8)]) rfl k
theorem BL_law_784 {d bc bs : Nat} {h : aH} {n : Nat} {Q : aQ} {ar0 ar2 : Nat} {r1 : Option Nat} {x3 s0 v4 v8 : Int} {w2 : List Int} {f11 : List aV} (b1 : -2147483648 ≤ x3 + 1 ∧ x3 + 1 < 2147483648) (h3 : h ar0 = cI w2) (i5 : 0 ≤ x3 + 1) (g6 : w2[(x3 + 1 : Int).toNat]? = some v4) (b7 : -2147483648 ≤ x3 + 2 ∧ x3 + 2 < 2147483648) (i9 : 0 ≤ x3 + 2) (g10 : w2[(x3 + 2 : Int).toNat]? = some v8) (h12 : h ar2 = cO 13 f11) (k : Rn d 0 0 mX13_book 0 [some (vR (some ar2)), some (vI v4), some (vI v8)] [] h n (fun v h1 n1 => Rn (d + 1) bc bs mL_law 798 [some (vR (some ar0)), some (vR r1), some (vR (some ar2)), some (vI x3)] (v.toList ++ [vI s0]) h1 n1 Q)) : Rn (d + 1) (bc) (bs) mL_law 784 [some (vR (some ar0)), some (vR r1), some (vR (some ar2)), some (vI x3)] [vI s0] h n Q := by
  refine Rn_aload_n dL_law_784 rfl rfl rfl ?_
  refine Rn_aload_n dL_law_785 rfl rfl rfl ?_
  refine Rn_iload_n dL_law_786 rfl rfl ?_
  refine Rn_iconst dL_law_787 rfl ?_
  refine Rn_iadd dL_law_788 ?_
  rw [w32_id b1.1 b1.2]
  refine Rn_iaload dL_law_789 h3 i5 g6 ?_
  refine Rn_aload_n dL_law_790 rfl rfl rfl ?_
  refine Rn_iload_n dL_law_791 rfl rfl ?_
  refine Rn_iconst dL_law_792 rfl ?_
  refine Rn_iadd dL_law_793 ?_
  rw [w32_id b7.1 b7.2]
  refine Rn_iaload dL_law_794 h3 i9 g10 ?_
  exact Rn_callV (ci := 13) (avs := [vI v4, vI v8]) (st := [vI s0]) (bc1 := 0) (bs1 := 0) (bc2 := bc) (bs2 := bs) fx_X13_book dL_law_795 wd_1830 wd_1831 wd_1832 rfl h12 rfl (Nat.le_of_ble_eq_true rfl) (Nat.le_of_ble_eq_true rfl) (by omega) (by omega) (ls1 := [some (vR (some ar2)), some (vI v4), some (vI v8)]) rfl k
theorem BL_law_798 {d bc bs : Nat} {h : aH} {n : Nat} {Q : aQ} {r0 r1 r2 : Option Nat} {x3 s0 s1 : Int} (kt : s0 = s1 → Rn d bc bs mL_law 1576 [some (vR r0), some (vR r1), some (vR r2), some (vI x3)] [] h n Q) (kf : s0 ≠ s1 → Rn d bc bs mL_law 801 [some (vR r0), some (vR r1), some (vR r2), some (vI x3)] [] h n Q) : Rn d (bc) (bs) mL_law 798 [some (vR r0), some (vR r1), some (vR r2), some (vI x3)] [vI s1, vI s0] h n Q := by
  refine Rn_icmpeq (tgt := 1576) dL_law_798 rfl ?_ ?_
  · exact kt
  · exact kf
theorem BL_law_801 {d bc bs : Nat} {h : aH} {n : Nat} {Q : aQ} {r0 r1 r2 : Option Nat} {x3 : Int} (k : Q (some (vI 0)) h n) : Rn d (bc) (bs) mL_law 801 [some (vR r0), some (vR r1), some (vR r2), some (vI x3)] [] h n Q := by
  refine Rn_iconst dL_law_801 rfl ?_
  exact Rn_zreturn rfl dL_law_802 (by decide) k
theorem BL_law_803 {d bc bs : Nat} {h : aH} {n : Nat} {Q : aQ} {ar0 ar1 : Nat} {r2 : Option Nat} {x3 v4 v8 v12 : Int} {w2 : List Int} {f15 : List aV} (b1 : -2147483648 ≤ x3 + 1 ∧ x3 + 1 < 2147483648) (h3 : h ar0 = cI w2) (i5 : 0 ≤ x3 + 1) (g6 : w2[(x3 + 1 : Int).toNat]? = some v4) (b7 : -2147483648 ≤ x3 + 2 ∧ x3 + 2 < 2147483648) (i9 : 0 ≤ x3 + 2) (g10 : w2[(x3 + 2 : Int).toNat]? = some v8) (b11 : -2147483648 ≤ x3 + 3 ∧ x3 + 3 < 2147483648) (i13 : 0 ≤ x3 + 3) (g14 : w2[(x3 + 3 : Int).toNat]? = some v12) (h16 : h ar1 = cO 12 f15) (k : Rn d 0 0 mX12_foretold 0 [some (vR (some ar1)), some (vI v4), some (vI v8), some (vI v12), none] [] h n (fun v h1 n1 => Rn (d + 1) bc bs mL_law 822 [some (vR (some ar0)), some (vR (some ar1)), some (vR r2), some (vI x3)] (v.toList ++ []) h1 n1 Q)) : Rn (d + 1) (bc) (bs) mL_law 803 [some (vR (some ar0)), some (vR (some ar1)), some (vR r2), some (vI x3)] [] h n Q := by
  refine Rn_aload_n dL_law_803 rfl rfl rfl ?_
  refine Rn_aload_n dL_law_804 rfl rfl rfl ?_
  refine Rn_iload_n dL_law_805 rfl rfl ?_
  refine Rn_iconst dL_law_806 rfl ?_
  refine Rn_iadd dL_law_807 ?_
  rw [w32_id b1.1 b1.2]
  refine Rn_iaload dL_law_808 h3 i5 g6 ?_
  refine Rn_aload_n dL_law_809 rfl rfl rfl ?_
  refine Rn_iload_n dL_law_810 rfl rfl ?_
  refine Rn_iconst dL_law_811 rfl ?_
  refine Rn_iadd dL_law_812 ?_
  rw [w32_id b7.1 b7.2]
  refine Rn_iaload dL_law_813 h3 i9 g10 ?_
  refine Rn_aload_n dL_law_814 rfl rfl rfl ?_
  refine Rn_iload_n dL_law_815 rfl rfl ?_
  refine Rn_iconst dL_law_816 rfl ?_
  refine Rn_iadd dL_law_817 ?_
  rw [w32_id b11.1 b11.2]
  refine Rn_iaload dL_law_818 h3 i13 g14 ?_
  exact Rn_callV (ci := 12) (avs := [vI v4, vI v8, vI v12]) (st := []) (bc1 := 0) (bs1 := 0) (bc2 := bc) (bs2 := bs) fx_X12_foretold dL_law_819 wd_1059 wd_1060 wd_1061 rfl h16 rfl (Nat.le_of_ble_eq_true rfl) (Nat.le_of_ble_eq_true rfl) (by omega) (by omega) (ls1 := [some (vR (some ar1)), some (vI v4), some (vI v8), some (vI v12), none]) rfl k
theorem BL_law_822 {d bc bs : Nat} {h : aH} {n : Nat} {Q : aQ} {ar0 ar2 : Nat} {r1 : Option Nat} {x3 s0 v4 v8 v12 : Int} {w2 : List Int} {f15 : List aV} (b1 : -2147483648 ≤ x3 + 1 ∧ x3 + 1 < 2147483648) (h3 : h ar0 = cI w2) (i5 : 0 ≤ x3 + 1) (g6 : w2[(x3 + 1 : Int).toNat]? = some v4) (b7 : -2147483648 ≤ x3 + 2 ∧ x3 + 2 < 2147483648) (i9 : 0 ≤ x3 + 2) (g10 : w2[(x3 + 2 : Int).toNat]? = some v8) (b11 : -2147483648 ≤ x3 + 3 ∧ x3 + 3 < 2147483648) (i13 : 0 ≤ x3 + 3) (g14 : w2[(x3 + 3 : Int).toNat]? = some v12) (h16 : h ar2 = cO 13 f15) (k : Rn d 0 0 mX13_foretold 0 [some (vR (some ar2)), some (vI v4), some (vI v8), some (vI v12), none] [] h n (fun v h1 n1 => Rn (d + 1) bc bs mL_law 841 [some (vR (some ar0)), some (vR r1), some (vR (some ar2)), some (vI x3)] (v.toList ++ [vI s0]) h1 n1 Q)) : Rn (d + 1) (bc) (bs) mL_law 822 [some (vR (some ar0)), some (vR r1), some (vR (some ar2)), some (vI x3)] [vI s0] h n Q := by
  refine Rn_aload_n dL_law_822 rfl rfl rfl ?_
  refine Rn_aload_n dL_law_823 rfl rfl rfl ?_
  refine Rn_iload_n dL_law_824 rfl rfl ?_
  refine Rn_iconst dL_law_825 rfl ?_
  refine Rn_iadd dL_law_826 ?_
  rw [w32_id b1.1 b1.2]
  refine Rn_iaload dL_law_827 h3 i5 g6 ?_
  refine Rn_aload_n dL_law_828 rfl rfl rfl ?_
  refine Rn_iload_n dL_law_829 rfl rfl ?_
  refine Rn_iconst dL_law_830 rfl ?_
  refine Rn_iadd dL_law_831 ?_
  rw [w32_id b7.1 b7.2]
  refine Rn_iaload dL_law_832 h3 i9 g10 ?_
  refine Rn_aload_n dL_law_833 rfl rfl rfl ?_
  refine Rn_iload_n dL_law_834 rfl rfl ?_
  refine Rn_iconst dL_law_835 rfl ?_
  refine Rn_iadd dL_law_836 ?_
  rw [w32_id b11.1 b11.2]
  refine Rn_iaload dL_law_837 h3 i13 g14 ?_
  exact Rn_callV (ci := 13) (avs := [vI v4, vI v8, vI v12]) (st := [vI s0]) (bc1 := 0) (bs1 := 0) (bc2 := bc) (bs2 := bs) fx_X13_foretold dL_law_838 wd_1858 wd_1859 wd_1860 rfl h16 rfl (Nat.le_of_ble_eq_true rfl) (Nat.le_of_ble_eq_true rfl) (by omega) (by omega) (ls1 := [some (vR (some ar2)), some (vI v4), some (vI v8), some (vI v12), none]) rfl k
theorem BL_law_841 {d bc bs : Nat} {h : aH} {n : Nat} {Q : aQ} {r0 r1 r2 : Option Nat} {x3 s0 s1 : Int} (kt : s0 = s1 → Rn d bc bs mL_law 1576 [some (vR r0), some (vR r1), some (vR r2), some (vI x3)] [] h n Q) (kf : s0 ≠ s1 → Rn d bc bs mL_law 844 [some (vR r0), some (vR r1), some (vR r2), some (vI x3)] [] h n Q) : Rn d (bc) (bs) mL_law 841 [some (vR r0), some (vR r1), some (vR r2), some (vI x3)] [vI s1, vI s0] h n Q := by
  refine Rn_icmpeq (tgt := 1576) dL_law_841 rfl ?_ ?_
  · exact kt
  · exact kf
theorem BL_law_844 {d bc bs : Nat} {h : aH} {n : Nat} {Q : aQ} {r0 r1 r2 : Option Nat} {x3 : Int} (k : Q (some (vI 0)) h n) : Rn d (bc) (bs) mL_law 844 [some (vR r0), some (vR r1), some (vR r2), some (vI x3)] [] h n Q := by
  refine Rn_iconst dL_law_844 rfl ?_
  exact Rn_zreturn rfl dL_law_845 (by decide) k
theorem BL_law_846 {d bc bs : Nat} {h : aH} {n : Nat} {Q : aQ} {ar0 ar1 : Nat} {r2 : Option Nat} {x3 v4 : Int} {w2 : List Int} {f7 : List aV} (b1 : -2147483648 ≤ x3 + 1 ∧ x3 + 1 < 2147483648) (h3 : h ar0 = cI w2) (i5 : 0 ≤ x3 + 1) (g6 : w2[(x3 + 1 : Int).toNat]? = some v4) (h8 : h ar1 = cO 12 f7) (k : Rn d 0 0 mX12_ends 0 [some (vR (some ar1)), some (vI v4), none] [] h n (fun v h1 n1 => Rn (d + 1) bc bs mL_law 855 [some (vR (some ar0)), some (vR (some ar1)), some (vR r2), some (vI x3)] (v.toList ++ []) h1 n1 Q)) : Rn (d + 1) (bc) (bs) mL_law 846 [some (vR (some ar0)), some (vR (some ar1)), some (vR r2), some (vI x3)] [] h n Q := by
  refine Rn_aload_n dL_law_846 rfl rfl rfl ?_
  refine Rn_aload_n dL_law_847 rfl rfl rfl ?_
  refine Rn_iload_n dL_law_848 rfl rfl ?_
  refine Rn_iconst dL_law_849 rfl ?_
  refine Rn_iadd dL_law_850 ?_
  rw [w32_id b1.1 b1.2]
  refine Rn_iaload dL_law_851 h3 i5 g6 ?_
  exact Rn_callV (ci := 12) (avs := [vI v4]) (st := []) (bc1 := 0) (bs1 := 0) (bc2 := bc) (bs2 := bs) fx_X12_ends dL_law_852 wd_1064 wd_1065 wd_1066 rfl h8 rfl (Nat.le_of_ble_eq_true rfl) (Nat.le_of_ble_eq_true rfl) (by omega) (by omega) (ls1 := [some (vR (some ar1)), some (vI v4), none]) rfl k
theorem BL_law_855 {d bc bs : Nat} {h : aH} {n : Nat} {Q : aQ} {ar0 ar2 : Nat} {r1 : Option Nat} {x3 s0 v4 : Int} {w2 : List Int} {f7 : List aV} (b1 : -2147483648 ≤ x3 + 1 ∧ x3 + 1 < 2147483648) (h3 : h ar0 = cI w2) (i5 : 0 ≤ x3 + 1) (g6 : w2[(x3 + 1 : Int).toNat]? = some v4) (h8 : h ar2 = cO 13 f7) (k : Rn d 0 0 mX13_ends 0 [some (vR (some ar2)), some (vI v4), none, none] [] h n (fun v h1 n1 => Rn (d + 1) bc bs mL_law 864 [some (vR (some ar0)), some (vR r1), some (vR (some ar2)), some (vI x3)] (v.toList ++ [vI s0]) h1 n1 Q)) : Rn (d + 1) (bc) (bs) mL_law 855 [some (vR (some ar0)), some (vR r1), some (vR (some ar2)), some (vI x3)] [vI s0] h n Q := by
  refine Rn_aload_n dL_law_855 rfl rfl rfl ?_
  refine Rn_aload_n dL_law_856 rfl rfl rfl ?_
  refine Rn_iload_n dL_law_857 rfl rfl ?_
  refine Rn_iconst dL_law_858 rfl ?_
  refine Rn_iadd dL_law_859 ?_
  rw [w32_id b1.1 b1.2]
  refine Rn_iaload dL_law_860 h3 i5 g6 ?_
  exact Rn_callV (ci := 13) (avs := [vI v4]) (st := [vI s0]) (bc1 := 0) (bs1 := 0) (bc2 := bc) (bs2 := bs) fx_X13_ends dL_law_861 wd_1870 wd_1871 wd_1872 rfl h8 rfl (Nat.le_of_ble_eq_true rfl) (Nat.le_of_ble_eq_true rfl) (by omega) (by omega) (ls1 := [some (vR (some ar2)), some (vI v4), none, none]) rfl k
theorem BL_law_864 {d bc bs : Nat} {h : aH} {n : Nat} {Q : aQ} {r0 r1 r2 : Option Nat} {x3 s0 s1 : Int} (kt : s0 = s1 → Rn d bc bs mL_law 1576 [some (vR r0), some (vR r1), some (vR r2), some (vI x3)] [] h n Q) (kf : s0 ≠ s1 → Rn d bc bs mL_law 867 [some (vR r0), some (vR r1), some (vR r2), some (vI x3)] [] h n Q) : Rn d (bc) (bs) mL_law 864 [some (vR r0), some (vR r1), some (vR r2), some (vI x3)] [vI s1, vI s0] h n Q := by
  refine Rn_icmpeq (tgt := 1576) dL_law_864 rfl ?_ ?_
  · exact kt
  · exact kf
theorem BL_law_867 {d bc bs : Nat} {h : aH} {n : Nat} {Q : aQ} {r0 r1 r2 : Option Nat} {x3 : Int} (k : Q (some (vI 0)) h n) : Rn d (bc) (bs) mL_law 867 [some (vR r0), some (vR r1), some (vR r2), some (vI x3)] [] h n Q := by
  refine Rn_iconst dL_law_867 rfl ?_
  exact Rn_zreturn rfl dL_law_868 (by decide) k
theorem BL_law_869 {d bc bs : Nat} {h : aH} {n : Nat} {Q : aQ} {ar0 ar1 : Nat} {r2 : Option Nat} {x3 v4 v8 : Int} {w2 : List Int} {f11 : List aV} (b1 : -2147483648 ≤ x3 + 1 ∧ x3 + 1 < 2147483648) (h3 : h ar0 = cI w2) (i5 : 0 ≤ x3 + 1) (g6 : w2[(x3 + 1 : Int).toNat]? = some v4) (b7 : -2147483648 ≤ x3 + 2 ∧ x3 + 2 < 2147483648) (i9 : 0 ≤ x3 + 2) (g10 : w2[(x3 + 2 : Int).toNat]? = some v8) (h12 : h ar1 = cO 12 f11) (k : Rn d 0 0 mX12_drift 0 [some (vR (some ar1)), some (vI v4), some (vI v8)] [] h n (fun v h1 n1 => Rn (d + 1) bc bs mL_law 883 [some (vR (some ar0)), some (vR (some ar1)), some (vR r2), some (vI x3)] (v.toList ++ []) h1 n1 Q)) : Rn (d + 1) (bc) (bs) mL_law 869 [some (vR (some ar0)), some (vR (some ar1)), some (vR r2), some (vI x3)] [] h n Q := by
  refine Rn_aload_n dL_law_869 rfl rfl rfl ?_
  refine Rn_aload_n dL_law_870 rfl rfl rfl ?_
  refine Rn_iload_n dL_law_871 rfl rfl ?_
  refine Rn_iconst dL_law_872 rfl ?_
  refine Rn_iadd dL_law_873 ?_
  rw [w32_id b1.1 b1.2]
  refine Rn_iaload dL_law_874 h3 i5 g6 ?_
  refine Rn_aload_n dL_law_875 rfl rfl rfl ?_
  refine Rn_iload_n dL_law_876 rfl rfl ?_
  refine Rn_iconst dL_law_877 rfl ?_
  refine Rn_iadd dL_law_878 ?_
  rw [w32_id b7.1 b7.2]
  refine Rn_iaload dL_law_879 h3 i9 g10 ?_
  exact Rn_callV (ci := 12) (avs := [vI v4, vI v8]) (st := []) (bc1 := 0) (bs1 := 0) (bc2 := bc) (bs2 := bs) fx_X12_drift dL_law_880 wd_1068 wd_1069 wd_1070 rfl h12 rfl (Nat.le_of_ble_eq_true rfl) (Nat.le_of_ble_eq_true rfl) (by omega) (by omega) (ls1 := [some (vR (some ar1)), some (vI v4), some (vI v8)]) rfl k
theorem BL_law_883 {d bc bs : Nat} {h : aH} {n : Nat} {Q : aQ} {ar0 ar2 : Nat} {r1 : Option Nat} {x3 s0 v4 v8 : Int} {w2 : List Int} {f11 : List aV} (b1 : -2147483648 ≤ x3 + 1 ∧ x3 + 1 < 2147483648) (h3 : h ar0 = cI w2) (i5 : 0 ≤ x3 + 1) (g6 : w2[(x3 + 1 : Int).toNat]? = some v4) (b7 : -2147483648 ≤ x3 + 2 ∧ x3 + 2 < 2147483648) (i9 : 0 ≤ x3 + 2) (g10 : w2[(x3 + 2 : Int).toNat]? = some v8) (h12 : h ar2 = cO 13 f11) (k : Rn d 0 0 mX13_drift 0 [some (vR (some ar2)), some (vI v4), some (vI v8)] [] h n (fun v h1 n1 => Rn (d + 1) bc bs mL_law 897 [some (vR (some ar0)), some (vR r1), some (vR (some ar2)), some (vI x3)] (v.toList ++ [vI s0]) h1 n1 Q)) : Rn (d + 1) (bc) (bs) mL_law 883 [some (vR (some ar0)), some (vR r1), some (vR (some ar2)), some (vI x3)] [vI s0] h n Q := by
  refine Rn_aload_n dL_law_883 rfl rfl rfl ?_
  refine Rn_aload_n dL_law_884 rfl rfl rfl ?_
  refine Rn_iload_n dL_law_885 rfl rfl ?_
  refine Rn_iconst dL_law_886 rfl ?_
  refine Rn_iadd dL_law_887 ?_
  rw [w32_id b1.1 b1.2]
  refine Rn_iaload dL_law_888 h3 i5 g6 ?_
  refine Rn_aload_n dL_law_889 rfl rfl rfl ?_
  refine Rn_iload_n dL_law_890 rfl rfl ?_
  refine Rn_iconst dL_law_891 rfl ?_
  refine Rn_iadd dL_law_892 ?_
  rw [w32_id b7.1 b7.2]
  refine Rn_iaload dL_law_893 h3 i9 g10 ?_
  exact Rn_callV (ci := 13) (avs := [vI v4, vI v8]) (st := [vI s0]) (bc1 := 0) (bs1 := 0) (bc2 := bc) (bs2 := bs) fx_X13_drift dL_law_894 wd_1874 wd_1875 wd_1876 rfl h12 rfl (Nat.le_of_ble_eq_true rfl) (Nat.le_of_ble_eq_true rfl) (by omega) (by omega) (ls1 := [some (vR (some ar2)), some (vI v4), some (vI v8)]) rfl k
theorem BL_law_897 {d bc bs : Nat} {h : aH} {n : Nat} {Q : aQ} {r0 r1 r2 : Option Nat} {x3 s0 s1 : Int} (kt : s0 = s1 → Rn d bc bs mL_law 1576 [some (vR r0), some (vR r1), some (vR r2), some (vI x3)] [] h n Q) (kf : s0 ≠ s1 → Rn d bc bs mL_law 900 [some (vR r0), some (vR r1), some (vR r2), some (vI x3)] [] h n Q) : Rn d (bc) (bs) mL_law 897 [some (vR r0), some (vR r1), some (vR r2), some (vI x3)] [vI s1, vI s0] h n Q := by
  refine Rn_icmpeq (tgt := 1576) dL_law_897 rfl ?_ ?_
  · exact kt
  · exact kf
theorem BL_law_900 {d bc bs : Nat} {h : aH} {n : Nat} {Q : aQ} {r0 r1 r2 : Option Nat} {x3 : Int} (k : Q (some (vI 0)) h n) : Rn d (bc) (bs) mL_law 900 [some (vR r0), some (vR r1), some (vR r2), some (vI x3)] [] h n Q := by
  refine Rn_iconst dL_law_900 rfl ?_
  exact Rn_zreturn rfl dL_law_901 (by decide) k
theorem BL_law_902 {d bc bs : Nat} {h : aH} {n : Nat} {Q : aQ} {ar0 ar1 : Nat} {r2 : Option Nat} {x3 v4 v8 v12 : Int} {w2 : List Int} {f15 : List aV} (b1 : -2147483648 ≤ x3 + 1 ∧ x3 + 1 < 2147483648) (h3 : h ar0 = cI w2) (i5 : 0 ≤ x3 + 1) (g6 : w2[(x3 + 1 : Int).toNat]? = some v4) (b7 : -2147483648 ≤ x3 + 2 ∧ x3 + 2 < 2147483648) (i9 : 0 ≤ x3 + 2) (g10 : w2[(x3 + 2 : Int).toNat]? = some v8) (b11 : -2147483648 ≤ x3 + 3 ∧ x3 + 3 < 2147483648) (i13 : 0 ≤ x3 + 3) (g14 : w2[(x3 + 3 : Int).toNat]? = some v12) (h16 : h ar1 = cO 12 f15) (k : Rn d 0 0 mX12_soonest 0 [some (vR (some ar1)), some (vI v4), some (vI v8), some (vI v12), none] [] h n (fun v h1 n1 => Rn (d + 1) bc bs mL_law 921 [some (vR (some ar0)), some (vR (some ar1)), some (vR r2), some (vI x3)] (v.toList ++ []) h1 n1 Q)) : Rn (d + 1) (bc) (bs) mL_law 902 [some (vR (some ar0)), some (vR (some ar1)), some (vR r2), some (vI x3)] [] h n Q := by
  refine Rn_aload_n dL_law_902 rfl rfl rfl ?_
  refine Rn_aload_n dL_law_903 rfl rfl rfl ?_
  refine Rn_iload_n dL_law_904 rfl rfl ?_
  refine Rn_iconst dL_law_905 rfl ?_
  refine Rn_iadd dL_law_906 ?_
  rw [w32_id b1.1 b1.2]
  refine Rn_iaload dL_law_907 h3 i5 g6 ?_
  refine Rn_aload_n dL_law_908 rfl rfl rfl ?_
  refine Rn_iload_n dL_law_909 rfl rfl ?_
  refine Rn_iconst dL_law_910 rfl ?_
  refine Rn_iadd dL_law_911 ?_
  rw [w32_id b7.1 b7.2]
  refine Rn_iaload dL_law_912 h3 i9 g10 ?_
  refine Rn_aload_n dL_law_913 rfl rfl rfl ?_
  refine Rn_iload_n dL_law_914 rfl rfl ?_
  refine Rn_iconst dL_law_915 rfl ?_
  refine Rn_iadd dL_law_916 ?_
  rw [w32_id b11.1 b11.2]
  refine Rn_iaload dL_law_917 h3 i13 g14 ?_
  exact Rn_callV (ci := 12) (avs := [vI v4, vI v8, vI v12]) (st := []) (bc1 := 0) (bs1 := 0) (bc2 := bc) (bs2 := bs) fx_X12_soonest dL_law_918 wd_1077 wd_1078 wd_1079 rfl h16 rfl (Nat.le_of_ble_eq_true rfl) (Nat.le_of_ble_eq_true rfl) (by omega) (by omega) (ls1 := [some (vR (some ar1)), some (vI v4), some (vI v8), some (vI v12), none]) rfl k
theorem BL_law_921 {d bc bs : Nat} {h : aH} {n : Nat} {Q : aQ} {ar0 ar2 : Nat} {r1 : Option Nat} {x3 s0 v4 v8 v12 : Int} {w2 : List Int} {f15 : List aV} (b1 : -2147483648 ≤ x3 + 1 ∧ x3 + 1 < 2147483648) (h3 : h ar0 = cI w2) (i5 : 0 ≤ x3 + 1) (g6 : w2[(x3 + 1 : Int).toNat]? = some v4) (b7 : -2147483648 ≤ x3 + 2 ∧ x3 + 2 < 2147483648) (i9 : 0 ≤ x3 + 2) (g10 : w2[(x3 + 2 : Int).toNat]? = some v8) (b11 : -2147483648 ≤ x3 + 3 ∧ x3 + 3 < 2147483648) (i13 : 0 ≤ x3 + 3) (g14 : w2[(x3 + 3 : Int).toNat]? = some v12) (h16 : h ar2 = cO 13 f15) (k : Rn d 0 0 mX13_soonest 0 [some (vR (some ar2)), some (vI v4), some (vI v8), some (vI v12), none, none] [] h n (fun v h1 n1 => Rn (d + 1) bc bs mL_law 940 [some (vR (some ar0)), some (vR r1), some (vR (some ar2)), some (vI x3)] (v.toList ++ [vI s0]) h1 n1 Q)) : Rn (d + 1) (bc) (bs) mL_law 921 [some (vR (some ar0)), some (vR r1), some (vR (some ar2)), some (vI x3)] [vI s0] h n Q := by
  refine Rn_aload_n dL_law_921 rfl rfl rfl ?_
  refine Rn_aload_n dL_law_922 rfl rfl rfl ?_
  refine Rn_iload_n dL_law_923 rfl rfl ?_
  refine Rn_iconst dL_law_924 rfl ?_
  refine Rn_iadd dL_law_925 ?_
  rw [w32_id b1.1 b1.2]
  refine Rn_iaload dL_law_926 h3 i5 g6 ?_
  refine Rn_aload_n dL_law_927 rfl rfl rfl ?_
  refine Rn_iload_n dL_law_928 rfl rfl ?_
  refine Rn_iconst dL_law_929 rfl ?_
  refine Rn_iadd dL_law_930 ?_
  rw [w32_id b7.1 b7.2]
  refine Rn_iaload dL_law_931 h3 i9 g10 ?_
  refine Rn_aload_n dL_law_932 rfl rfl rfl ?_
  refine Rn_iload_n dL_law_933 rfl rfl ?_
  refine Rn_iconst dL_law_934 rfl ?_
  refine Rn_iadd dL_law_935 ?_
  rw [w32_id b11.1 b11.2]
  refine Rn_iaload dL_law_936 h3 i13 g14 ?_
  exact Rn_callV (ci := 13) (avs := [vI v4, vI v8, vI v12]) (st := [vI s0]) (bc1 := 0) (bs1 := 0) (bc2 := bc) (bs2 := bs) fx_X13_soonest dL_law_937 wd_1882 wd_1883 wd_1884 rfl h16 rfl (Nat.le_of_ble_eq_true rfl) (Nat.le_of_ble_eq_true rfl) (by omega) (by omega) (ls1 := [some (vR (some ar2)), some (vI v4), some (vI v8), some (vI v12), none, none]) rfl k
theorem BL_law_940 {d bc bs : Nat} {h : aH} {n : Nat} {Q : aQ} {r0 r1 r2 : Option Nat} {x3 s0 s1 : Int} (kt : s0 = s1 → Rn d bc bs mL_law 1576 [some (vR r0), some (vR r1), some (vR r2), some (vI x3)] [] h n Q) (kf : s0 ≠ s1 → Rn d bc bs mL_law 943 [some (vR r0), some (vR r1), some (vR r2), some (vI x3)] [] h n Q) : Rn d (bc) (bs) mL_law 940 [some (vR r0), some (vR r1), some (vR r2), some (vI x3)] [vI s1, vI s0] h n Q := by
  refine Rn_icmpeq (tgt := 1576) dL_law_940 rfl ?_ ?_
  · exact kt
  · exact kf
theorem BL_law_943 {d bc bs : Nat} {h : aH} {n : Nat} {Q : aQ} {r0 r1 r2 : Option Nat} {x3 : Int} (k : Q (some (vI 0)) h n) : Rn d (bc) (bs) mL_law 943 [some (vR r0), some (vR r1), some (vR r2), some (vI x3)] [] h n Q := by
  refine Rn_iconst dL_law_943 rfl ?_
  exact Rn_zreturn rfl dL_law_944 (by decide) k
theorem BL_law_945 {d bc bs : Nat} {h : aH} {n : Nat} {Q : aQ} {ar0 ar1 : Nat} {r2 : Option Nat} {x3 v4 v8 v12 : Int} {w2 : List Int} {f15 : List aV} (b1 : -2147483648 ≤ x3 + 1 ∧ x3 + 1 < 2147483648) (h3 : h ar0 = cI w2) (i5 : 0 ≤ x3 + 1) (g6 : w2[(x3 + 1 : Int).toNat]? = some v4) (b7 : -2147483648 ≤ x3 + 2 ∧ x3 + 2 < 2147483648) (i9 : 0 ≤ x3 + 2) (g10 : w2[(x3 + 2 : Int).toNat]? = some v8) (b11 : -2147483648 ≤ x3 + 3 ∧ x3 + 3 < 2147483648) (i13 : 0 ≤ x3 + 3) (g14 : w2[(x3 + 3 : Int).toNat]? = some v12) (h16 : h ar1 = cO 12 f15) (k : Rn d 0 0 mX12_relay 0 [some (vR (some ar1)), some (vI v4), some (vI v8), some (vI v12), none] [] h n (fun v h1 n1 => Rn (d + 1) bc bs mL_law 964 [some (vR (some ar0)), some (vR (some ar1)), some (vR r2), some (vI x3)] (v.toList ++ []) h1 n1 Q)) : Rn (d + 1) (bc) (bs) mL_law 945 [some (vR (some ar0)), some (vR (some ar1)), some (vR r2), some (vI x3)] [] h n Q := by
  refine Rn_aload_n dL_law_945 rfl rfl rfl ?_
  refine Rn_aload_n dL_law_946 rfl rfl rfl ?_
  refine Rn_iload_n dL_law_947 rfl rfl ?_
  refine Rn_iconst dL_law_948 rfl ?_
  refine Rn_iadd dL_law_949 ?_
  rw [w32_id b1.1 b1.2]
  refine Rn_iaload dL_law_950 h3 i5 g6 ?_
  refine Rn_aload_n dL_law_951 rfl rfl rfl ?_
  refine Rn_iload_n dL_law_952 rfl rfl ?_
  refine Rn_iconst dL_law_953 rfl ?_
  refine Rn_iadd dL_law_954 ?_
  rw [w32_id b7.1 b7.2]
  refine Rn_iaload dL_law_955 h3 i9 g10 ?_
  refine Rn_aload_n dL_law_956 rfl rfl rfl ?_
  refine Rn_iload_n dL_law_957 rfl rfl ?_
  refine Rn_iconst dL_law_958 rfl ?_
  refine Rn_iadd dL_law_959 ?_
  rw [w32_id b11.1 b11.2]
  refine Rn_iaload dL_law_960 h3 i13 g14 ?_
  exact Rn_callV (ci := 12) (avs := [vI v4, vI v8, vI v12]) (st := []) (bc1 := 0) (bs1 := 0) (bc2 := bc) (bs2 := bs) fx_X12_relay dL_law_961 wd_1088 wd_1089 wd_1090 rfl h16 rfl (Nat.le_of_ble_eq_true rfl) (Nat.le_of_ble_eq_true rfl) (by omega) (by omega) (ls1 := [some (vR (some ar1)), some (vI v4), some (vI v8), some (vI v12), none]) rfl k
theorem BL_law_964 {d bc bs : Nat} {h : aH} {n : Nat} {Q : aQ} {ar0 ar2 : Nat} {r1 : Option Nat} {x3 s0 v4 v8 v12 : Int} {w2 : List Int} {f15 : List aV} (b1 : -2147483648 ≤ x3 + 1 ∧ x3 + 1 < 2147483648) (h3 : h ar0 = cI w2) (i5 : 0 ≤ x3 + 1) (g6 : w2[(x3 + 1 : Int).toNat]? = some v4) (b7 : -2147483648 ≤ x3 + 2 ∧ x3 + 2 < 2147483648) (i9 : 0 ≤ x3 + 2) (g10 : w2[(x3 + 2 : Int).toNat]? = some v8) (b11 : -2147483648 ≤ x3 + 3 ∧ x3 + 3 < 2147483648) (i13 : 0 ≤ x3 + 3) (g14 : w2[(x3 + 3 : Int).toNat]? = some v12) (h16 : h ar2 = cO 13 f15) (k : Rn d 0 0 mX13_relay 0 [some (vR (some ar2)), some (vI v4), some (vI v8), some (vI v12)] [] h n (fun v h1 n1 => Rn (d + 1) bc bs mL_law 983 [some (vR (some ar0)), some (vR r1), some (vR (some ar2)), some (vI x3)] (v.toList ++ [vI s0]) h1 n1 Q)) : Rn (d + 1) (bc) (bs) mL_law 964 [some (vR (some ar0)), some (vR r1), some (vR (some ar2)), some (vI x3)] [vI s0] h n Q := by
  refine Rn_aload_n dL_law_964 rfl rfl rfl ?_
  refine Rn_aload_n dL_law_965 rfl rfl rfl ?_
  refine Rn_iload_n dL_law_966 rfl rfl ?_
  refine Rn_iconst dL_law_967 rfl ?_
  refine Rn_iadd dL_law_968 ?_
  rw [w32_id b1.1 b1.2]
  refine Rn_iaload dL_law_969 h3 i5 g6 ?_
  refine Rn_aload_n dL_law_970 rfl rfl rfl ?_
  refine Rn_iload_n dL_law_971 rfl rfl ?_
  refine Rn_iconst dL_law_972 rfl ?_
  refine Rn_iadd dL_law_973 ?_
  rw [w32_id b7.1 b7.2]
  refine Rn_iaload dL_law_974 h3 i9 g10 ?_
  refine Rn_aload_n dL_law_975 rfl rfl rfl ?_
  refine Rn_iload_n dL_law_976 rfl rfl ?_
  refine Rn_iconst dL_law_977 rfl ?_
  refine Rn_iadd dL_law_978 ?_
  rw [w32_id b11.1 b11.2]
  refine Rn_iaload dL_law_979 h3 i13 g14 ?_
  exact Rn_callV (ci := 13) (avs := [vI v4, vI v8, vI v12]) (st := [vI s0]) (bc1 := 0) (bs1 := 0) (bc2 := bc) (bs2 := bs) fx_X13_relay dL_law_980 wd_1886 wd_1887 wd_1888 rfl h16 rfl (Nat.le_of_ble_eq_true rfl) (Nat.le_of_ble_eq_true rfl) (by omega) (by omega) (ls1 := [some (vR (some ar2)), some (vI v4), some (vI v8), some (vI v12)]) rfl k
theorem BL_law_983 {d bc bs : Nat} {h : aH} {n : Nat} {Q : aQ} {r0 r1 r2 : Option Nat} {x3 s0 s1 : Int} (kt : s0 = s1 → Rn d bc bs mL_law 1576 [some (vR r0), some (vR r1), some (vR r2), some (vI x3)] [] h n Q) (kf : s0 ≠ s1 → Rn d bc bs mL_law 986 [some (vR r0), some (vR r1), some (vR r2), some (vI x3)] [] h n Q) : Rn d (bc) (bs) mL_law 983 [some (vR r0), some (vR r1), some (vR r2), some (vI x3)] [vI s1, vI s0] h n Q := by
  refine Rn_icmpeq (tgt := 1576) dL_law_983 rfl ?_ ?_
  · exact kt
  · exact kf
theorem BL_law_986 {d bc bs : Nat} {h : aH} {n : Nat} {Q : aQ} {r0 r1 r2 : Option Nat} {x3 : Int} (k : Q (some (vI 0)) h n) : Rn d (bc) (bs) mL_law 986 [some (vR r0), some (vR r1), some (vR r2), some (vI x3)] [] h n Q := by
  refine Rn_iconst dL_law_986 rfl ?_
  exact Rn_zreturn rfl dL_law_987 (by decide) k
theorem BL_law_988 {d bc bs : Nat} {h : aH} {n : Nat} {Q : aQ} {ar0 ar1 : Nat} {r2 : Option Nat} {x3 v4 v8 : Int} {w2 : List Int} {f11 : List aV} (b1 : -2147483648 ≤ x3 + 1 ∧ x3 + 1 < 2147483648) (h3 : h ar0 = cI w2) (i5 : 0 ≤ x3 + 1) (g6 : w2[(x3 + 1 : Int).toNat]? = some v4) (b7 : -2147483648 ≤ x3 + 2 ∧ x3 + 2 < 2147483648) (i9 : 0 ≤ x3 + 2) (g10 : w2[(x3 + 2 : Int).toNat]? = some v8) (h12 : h ar1 = cO 12 f11) (k : Rn d 0 0 mX12_found 0 [some (vR (some ar1)), some (vI v4), some (vI v8)] [] h n (fun v h1 n1 => Rn (d + 1) bc bs mL_law 1002 [some (vR (some ar0)), some (vR (some ar1)), some (vR r2), some (vI x3)] (v.toList ++ []) h1 n1 Q)) : Rn (d + 1) (bc) (bs) mL_law 988 [some (vR (some ar0)), some (vR (some ar1)), some (vR r2), some (vI x3)] [] h n Q := by
  refine Rn_aload_n dL_law_988 rfl rfl rfl ?_
  refine Rn_aload_n dL_law_989 rfl rfl rfl ?_
  refine Rn_iload_n dL_law_990 rfl rfl ?_
  refine Rn_iconst dL_law_991 rfl ?_
  refine Rn_iadd dL_law_992 ?_
  rw [w32_id b1.1 b1.2]
  refine Rn_iaload dL_law_993 h3 i5 g6 ?_
  refine Rn_aload_n dL_law_994 rfl rfl rfl ?_
  refine Rn_iload_n dL_law_995 rfl rfl ?_
  refine Rn_iconst dL_law_996 rfl ?_
  refine Rn_iadd dL_law_997 ?_
  rw [w32_id b7.1 b7.2]
  refine Rn_iaload dL_law_998 h3 i9 g10 ?_
  exact Rn_callV (ci := 12) (avs := [vI v4, vI v8]) (st := []) (bc1 := 0) (bs1 := 0) (bc2 := bc) (bs2 := bs) fx_X12_found dL_law_999 wd_1116 wd_1117 wd_1118 rfl h12 rfl (Nat.le_of_ble_eq_true rfl) (Nat.le_of_ble_eq_true rfl) (by omega) (by omega) (ls1 := [some (vR (some ar1)), some (vI v4), some (vI v8)]) rfl k
theorem BL_law_1002 {d bc bs : Nat} {h : aH} {n : Nat} {Q : aQ} {ar0 ar2 : Nat} {r1 : Option Nat} {x3 s0 v4 v8 : Int} {w2 : List Int} {f11 : List aV} (b1 : -2147483648 ≤ x3 + 1 ∧ x3 + 1 < 2147483648) (h3 : h ar0 = cI w2) (i5 : 0 ≤ x3 + 1) (g6 : w2[(x3 + 1 : Int).toNat]? = some v4) (b7 : -2147483648 ≤ x3 + 2 ∧ x3 + 2 < 2147483648) (i9 : 0 ≤ x3 + 2) (g10 : w2[(x3 + 2 : Int).toNat]? = some v8) (h12 : h ar2 = cO 13 f11) (k : Rn d 0 0 mX13_found 0 [some (vR (some ar2)), some (vI v4), some (vI v8)] [] h n (fun v h1 n1 => Rn (d + 1) bc bs mL_law 1016 [some (vR (some ar0)), some (vR r1), some (vR (some ar2)), some (vI x3)] (v.toList ++ [vI s0]) h1 n1 Q)) : Rn (d + 1) (bc) (bs) mL_law 1002 [some (vR (some ar0)), some (vR r1), some (vR (some ar2)), some (vI x3)] [vI s0] h n Q := by
  refine Rn_aload_n dL_law_1002 rfl rfl rfl ?_
  refine Rn_aload_n dL_law_1003 rfl rfl rfl ?_
  refine Rn_iload_n dL_law_1004 rfl rfl ?_
  refine Rn_iconst dL_law_1005 rfl ?_
  refine Rn_iadd dL_law_1006 ?_
  rw [w32_id b1.1 b1.2]
  refine Rn_iaload dL_law_1007 h3 i5 g6 ?_
  refine Rn_aload_n dL_law_1008 rfl rfl rfl ?_
  refine Rn_iload_n dL_law_1009 rfl rfl ?_
  refine Rn_iconst dL_law_1010 rfl ?_
  refine Rn_iadd dL_law_1011 ?_
  rw [w32_id b7.1 b7.2]
  refine Rn_iaload dL_law_1012 h3 i9 g10 ?_
  exact Rn_callV (ci := 13) (avs := [vI v4, vI v8]) (st := [vI s0]) (bc1 := 0) (bs1 := 0) (bc2 := bc) (bs2 := bs) fx_X13_found dL_law_1013 wd_1911 wd_1912 wd_1913 rfl h12 rfl (Nat.le_of_ble_eq_true rfl) (Nat.le_of_ble_eq_true rfl) (by omega) (by omega) (ls1 := [some (vR (some ar2)), some (vI v4), some (vI v8)]) rfl k
theorem BL_law_1016 {d bc bs : Nat} {h : aH} {n : Nat} {Q : aQ} {r0 r1 r2 : Option Nat} {x3 s0 s1 : Int} (kt : s0 = s1 → Rn d bc bs mL_law 1576 [some (vR r0), some (vR r1), some (vR r2), some (vI x3)] [] h n Q) (kf : s0 ≠ s1 → Rn d bc bs mL_law 1019 [some (vR r0), some (vR r1), some (vR r2), some (vI x3)] [] h n Q) : Rn d (bc) (bs) mL_law 1016 [some (vR r0), some (vR r1), some (vR r2), some (vI x3)] [vI s1, vI s0] h n Q := by
  refine Rn_icmpeq (tgt := 1576) dL_law_1016 rfl ?_ ?_
  · exact kt
  · exact kf
theorem BL_law_1019 {d bc bs : Nat} {h : aH} {n : Nat} {Q : aQ} {r0 r1 r2 : Option Nat} {x3 : Int} (k : Q (some (vI 0)) h n) : Rn d (bc) (bs) mL_law 1019 [some (vR r0), some (vR r1), some (vR r2), some (vI x3)] [] h n Q := by
  refine Rn_iconst dL_law_1019 rfl ?_
  exact Rn_zreturn rfl dL_law_1020 (by decide) k
theorem BL_law_1021 {d bc bs : Nat} {h : aH} {n : Nat} {Q : aQ} {ar0 ar1 : Nat} {r2 : Option Nat} {x3 v4 : Int} {w2 : List Int} {f7 : List aV} (b1 : -2147483648 ≤ x3 + 1 ∧ x3 + 1 < 2147483648) (h3 : h ar0 = cI w2) (i5 : 0 ≤ x3 + 1) (g6 : w2[(x3 + 1 : Int).toNat]? = some v4) (h8 : h ar1 = cO 12 f7) (k : Rn d 0 0 mX12_tossed 0 [some (vR (some ar1)), some (vI v4), none, none, none, none] [] h n (fun v h1 n1 => Rn (d + 1) bc bs mL_law 1030 [some (vR (some ar0)), some (vR (some ar1)), some (vR r2), some (vI x3)] (v.toList ++ []) h1 n1 Q)) : Rn (d + 1) (bc) (bs) mL_law 1021 [some (vR (some ar0)), some (vR (some ar1)), some (vR r2), some (vI x3)] [] h n Q := by
  refine Rn_aload_n dL_law_1021 rfl rfl rfl ?_
  refine Rn_aload_n dL_law_1022 rfl rfl rfl ?_
  refine Rn_iload_n dL_law_1023 rfl rfl ?_
  refine Rn_iconst dL_law_1024 rfl ?_
  refine Rn_iadd dL_law_1025 ?_
  rw [w32_id b1.1 b1.2]
  refine Rn_iaload dL_law_1026 h3 i5 g6 ?_
  exact Rn_callV (ci := 12) (avs := [vI v4]) (st := []) (bc1 := 0) (bs1 := 0) (bc2 := bc) (bs2 := bs) fx_X12_tossed dL_law_1027 wd_1129 wd_1130 wd_1131 rfl h8 rfl (Nat.le_of_ble_eq_true rfl) (Nat.le_of_ble_eq_true rfl) (by omega) (by omega) (ls1 := [some (vR (some ar1)), some (vI v4), none, none, none, none]) rfl k
theorem BL_law_1030 {d bc bs : Nat} {h : aH} {n : Nat} {Q : aQ} {ar0 ar2 : Nat} {r1 : Option Nat} {x3 s0 v4 : Int} {w2 : List Int} {f7 : List aV} (b1 : -2147483648 ≤ x3 + 1 ∧ x3 + 1 < 2147483648) (h3 : h ar0 = cI w2) (i5 : 0 ≤ x3 + 1) (g6 : w2[(x3 + 1 : Int).toNat]? = some v4) (h8 : h ar2 = cO 13 f7) (k : Rn d 0 0 mX13_tossed 0 [some (vR (some ar2)), some (vI v4), none, none, none, none] [] h n (fun v h1 n1 => Rn (d + 1) bc bs mL_law 1039 [some (vR (some ar0)), some (vR r1), some (vR (some ar2)), some (vI x3)] (v.toList ++ [vI s0]) h1 n1 Q)) : Rn (d + 1) (bc) (bs) mL_law 1030 [some (vR (some ar0)), some (vR r1), some (vR (some ar2)), some (vI x3)] [vI s0] h n Q := by
  refine Rn_aload_n dL_law_1030 rfl rfl rfl ?_
  refine Rn_aload_n dL_law_1031 rfl rfl rfl ?_
  refine Rn_iload_n dL_law_1032 rfl rfl ?_
  refine Rn_iconst dL_law_1033 rfl ?_
  refine Rn_iadd dL_law_1034 ?_
  rw [w32_id b1.1 b1.2]
  refine Rn_iaload dL_law_1035 h3 i5 g6 ?_
  exact Rn_callV (ci := 13) (avs := [vI v4]) (st := [vI s0]) (bc1 := 0) (bs1 := 0) (bc2 := bc) (bs2 := bs) fx_X13_tossed dL_law_1036 wd_1915 wd_1916 wd_1917 rfl h8 rfl (Nat.le_of_ble_eq_true rfl) (Nat.le_of_ble_eq_true rfl) (by omega) (by omega) (ls1 := [some (vR (some ar2)), some (vI v4), none, none, none, none]) rfl k
theorem BL_law_1039 {d bc bs : Nat} {h : aH} {n : Nat} {Q : aQ} {r0 r1 r2 : Option Nat} {x3 s0 s1 : Int} (kt : s0 = s1 → Rn d bc bs mL_law 1576 [some (vR r0), some (vR r1), some (vR r2), some (vI x3)] [] h n Q) (kf : s0 ≠ s1 → Rn d bc bs mL_law 1042 [some (vR r0), some (vR r1), some (vR r2), some (vI x3)] [] h n Q) : Rn d (bc) (bs) mL_law 1039 [some (vR r0), some (vR r1), some (vR r2), some (vI x3)] [vI s1, vI s0] h n Q := by
  refine Rn_icmpeq (tgt := 1576) dL_law_1039 rfl ?_ ?_
  · exact kt
  · exact kf
theorem BL_law_1042 {d bc bs : Nat} {h : aH} {n : Nat} {Q : aQ} {r0 r1 r2 : Option Nat} {x3 : Int} (k : Q (some (vI 0)) h n) : Rn d (bc) (bs) mL_law 1042 [some (vR r0), some (vR r1), some (vR r2), some (vI x3)] [] h n Q := by
  refine Rn_iconst dL_law_1042 rfl ?_
  exact Rn_zreturn rfl dL_law_1043 (by decide) k
theorem BL_law_1044 {d bc bs : Nat} {h : aH} {n : Nat} {Q : aQ} {ar0 : Nat} {r1 r2 : Option Nat} {x3 v4 v8 v12 v16 : Int} {w2 : List Int} (b1 : -2147483648 ≤ x3 + 1 ∧ x3 + 1 < 2147483648) (h3 : h ar0 = cI w2) (i5 : 0 ≤ x3 + 1) (g6 : w2[(x3 + 1 : Int).toNat]? = some v4) (b7 : -2147483648 ≤ x3 + 2 ∧ x3 + 2 < 2147483648) (i9 : 0 ≤ x3 + 2) (g10 : w2[(x3 + 2 : Int).toNat]? = some v8) (b11 : -2147483648 ≤ x3 + 3 ∧ x3 + 3 < 2147483648) (i13 : 0 ≤ x3 + 3) (g14 : w2[(x3 + 3 : Int).toNat]? = some v12) (b15 : -2147483648 ≤ x3 + 4 ∧ x3 + 4 < 2147483648) (i17 : 0 ≤ x3 + 4) (g18 : w2[(x3 + 4 : Int).toNat]? = some v16) (kt : v16 = 0 → Rn d bc bs mL_law 1072 [some (vR (some ar0)), some (vR r1), some (vR r2), some (vI x3)] [vI v12, vI v8, vI v4, vR r1] h n Q) (kf : v16 ≠ 0 → Rn d bc bs mL_law 1068 [some (vR (some ar0)), some (vR r1), some (vR r2), some (vI x3)] [vI v12, vI v8, vI v4, vR r1] h n Q) : Rn d (bc) (bs) mL_law 1044 [some (vR (some ar0)), some (vR r1), some (vR r2), some (vI x3)] [] h n Q := by
  refine Rn_aload_n dL_law_1044 rfl rfl rfl ?_
  refine Rn_aload_n dL_law_1045 rfl rfl rfl ?_
  refine Rn_iload_n dL_law_1046 rfl rfl ?_
  refine Rn_iconst dL_law_1047 rfl ?_
  refine Rn_iadd dL_law_1048 ?_
  rw [w32_id b1.1 b1.2]
  refine Rn_iaload dL_law_1049 h3 i5 g6 ?_
  refine Rn_aload_n dL_law_1050 rfl rfl rfl ?_
  refine Rn_iload_n dL_law_1051 rfl rfl ?_
  refine Rn_iconst dL_law_1052 rfl ?_
  refine Rn_iadd dL_law_1053 ?_
  rw [w32_id b7.1 b7.2]
  refine Rn_iaload dL_law_1054 h3 i9 g10 ?_
  refine Rn_aload_n dL_law_1055 rfl rfl rfl ?_
  refine Rn_iload_n dL_law_1056 rfl rfl ?_
  refine Rn_iconst dL_law_1057 rfl ?_
  refine Rn_iadd dL_law_1058 ?_
  rw [w32_id b11.1 b11.2]
  refine Rn_iaload dL_law_1059 h3 i13 g14 ?_
  refine Rn_aload_n dL_law_1060 rfl rfl rfl ?_
  refine Rn_iload_n dL_law_1061 rfl rfl ?_
  refine Rn_iconst dL_law_1062 rfl ?_
  refine Rn_iadd dL_law_1063 ?_
  rw [w32_id b15.1 b15.2]
  refine Rn_iaload dL_law_1064 h3 i17 g18 ?_
  refine Rn_ifeq (tgt := 1072) dL_law_1065 rfl ?_ ?_
  · exact kt
  · exact kf
theorem BL_law_1068 {d bc bs : Nat} {h : aH} {n : Nat} {Q : aQ} {r0 r1 r2 : Option Nat} {x3 s1 s2 s3 : Int} {aq0 : Nat} {f1 : List aV} (h2 : h aq0 = cO 12 f1) (k : Rn d 0 0 mX12_likely 0 [some (vR (some aq0)), some (vI s1), some (vI s2), some (vI s3), some (vI 1), none, none, none, none, none, none, none, none, none, none, none] [] h n (fun v h1 n1 => Rn (d + 1) bc bs mL_law 1076 [some (vR r0), some (vR r1), some (vR r2), some (vI x3)] (v.toList ++ []) h1 n1 Q)) : Rn (d + 1) (bc) (bs) mL_law 1068 [some (vR r0), some (vR r1), some (vR r2), some (vI x3)] [vI s3, vI s2, vI s1, vR (some aq0)] h n Q := by
  refine Rn_iconst dL_law_1068 rfl ?_
  refine Rn_goto (tgt := 1073) dL_law_1069 rfl ?_
  exact Rn_callV (ci := 12) (avs := [vI s1, vI s2, vI s3, vI 1]) (st := []) (bc1 := 0) (bs1 := 0) (bc2 := bc) (bs2 := bs) fx_X12_likely dL_law_1073 wd_1139 wd_1140 wd_1141 rfl h2 rfl (Nat.le_of_ble_eq_true rfl) (Nat.le_of_ble_eq_true rfl) (by omega) (by omega) (ls1 := [some (vR (some aq0)), some (vI s1), some (vI s2), some (vI s3), some (vI 1), none, none, none, none, none, none, none, none, none, none, none]) rfl k
theorem BL_law_1072 {d bc bs : Nat} {h : aH} {n : Nat} {Q : aQ} {r0 r1 r2 : Option Nat} {x3 s1 s2 s3 : Int} {aq0 : Nat} {f1 : List aV} (h2 : h aq0 = cO 12 f1) (k : Rn d 0 0 mX12_likely 0 [some (vR (some aq0)), some (vI s1), some (vI s2), some (vI s3), some (vI 0), none, none, none, none, none, none, none, none, none, none, none] [] h n (fun v h1 n1 => Rn (d + 1) bc bs mL_law 1076 [some (vR r0), some (vR r1), some (vR r2), some (vI x3)] (v.toList ++ []) h1 n1 Q)) : Rn (d + 1) (bc) (bs) mL_law 1072 [some (vR r0), some (vR r1), some (vR r2), some (vI x3)] [vI s3, vI s2, vI s1, vR (some aq0)] h n Q := by
  refine Rn_iconst dL_law_1072 rfl ?_
  exact Rn_callV (ci := 12) (avs := [vI s1, vI s2, vI s3, vI 0]) (st := []) (bc1 := 0) (bs1 := 0) (bc2 := bc) (bs2 := bs) fx_X12_likely dL_law_1073 wd_1139 wd_1140 wd_1141 rfl h2 rfl (Nat.le_of_ble_eq_true rfl) (Nat.le_of_ble_eq_true rfl) (by omega) (by omega) (ls1 := [some (vR (some aq0)), some (vI s1), some (vI s2), some (vI s3), some (vI 0), none, none, none, none, none, none, none, none, none, none, none]) rfl k
theorem BL_law_1076 {d bc bs : Nat} {h : aH} {n : Nat} {Q : aQ} {ar0 : Nat} {r1 r2 : Option Nat} {x3 s0 v4 v8 v12 v16 : Int} {w2 : List Int} (b1 : -2147483648 ≤ x3 + 1 ∧ x3 + 1 < 2147483648) (h3 : h ar0 = cI w2) (i5 : 0 ≤ x3 + 1) (g6 : w2[(x3 + 1 : Int).toNat]? = some v4) (b7 : -2147483648 ≤ x3 + 2 ∧ x3 + 2 < 2147483648) (i9 : 0 ≤ x3 + 2) (g10 : w2[(x3 + 2 : Int).toNat]? = some v8) (b11 : -2147483648 ≤ x3 + 3 ∧ x3 + 3 < 2147483648) (i13 : 0 ≤ x3 + 3) (g14 : w2[(x3 + 3 : Int).toNat]? = some v12) (b15 : -2147483648 ≤ x3 + 4 ∧ x3 + 4 < 2147483648) (i17 : 0 ≤ x3 + 4) (g18 : w2[(x3 + 4 : Int).toNat]? = some v16) (kt : v16 = 0 → Rn d bc bs mL_law 1104 [some (vR (some ar0)), some (vR r1), some (vR r2), some (vI x3)] [vI v12, vI v8, vI v4, vR r2, vL s0] h n Q) (kf : v16 ≠ 0 → Rn d bc bs mL_law 1100 [some (vR (some ar0)), some (vR r1), some (vR r2), some (vI x3)] [vI v12, vI v8, vI v4, vR r2, vL s0] h n Q) : Rn d (bc) (bs) mL_law 1076 [some (vR (some ar0)), some (vR r1), some (vR r2), some (vI x3)] [vL s0] h n Q := by
  refine Rn_aload_n dL_law_1076 rfl rfl rfl ?_
  refine Rn_aload_n dL_law_1077 rfl rfl rfl ?_
  refine Rn_iload_n dL_law_1078 rfl rfl ?_
  refine Rn_iconst dL_law_1079 rfl ?_
  refine Rn_iadd dL_law_1080 ?_
  rw [w32_id b1.1 b1.2]
  refine Rn_iaload dL_law_1081 h3 i5 g6 ?_
  refine Rn_aload_n dL_law_1082 rfl rfl rfl ?_
  refine Rn_iload_n dL_law_1083 rfl rfl ?_
  refine Rn_iconst dL_law_1084 rfl ?_
  refine Rn_iadd dL_law_1085 ?_
  rw [w32_id b7.1 b7.2]
  refine Rn_iaload dL_law_1086 h3 i9 g10 ?_
  refine Rn_aload_n dL_law_1087 rfl rfl rfl ?_
  refine Rn_iload_n dL_law_1088 rfl rfl ?_
  refine Rn_iconst dL_law_1089 rfl ?_
  refine Rn_iadd dL_law_1090 ?_
  rw [w32_id b11.1 b11.2]
  refine Rn_iaload dL_law_1091 h3 i13 g14 ?_
  refine Rn_aload_n dL_law_1092 rfl rfl rfl ?_
  refine Rn_iload_n dL_law_1093 rfl rfl ?_
  refine Rn_iconst dL_law_1094 rfl ?_
  refine Rn_iadd dL_law_1095 ?_
  rw [w32_id b15.1 b15.2]
  refine Rn_iaload dL_law_1096 h3 i17 g18 ?_
  refine Rn_ifeq (tgt := 1104) dL_law_1097 rfl ?_ ?_
  · exact kt
  · exact kf
theorem BL_law_1100 {d bc bs : Nat} {h : aH} {n : Nat} {Q : aQ} {r0 r1 r2 : Option Nat} {x3 s0 s2 s3 s4 : Int} {aq1 : Nat} {f1 : List aV} (h2 : h aq1 = cO 13 f1) (k : Rn d 0 0 mX13_likely 0 [some (vR (some aq1)), some (vI s2), some (vI s3), some (vI s4), some (vI 1), none, none, none, none, none, none, none, none, none] [] h n (fun v h1 n1 => Rn (d + 1) bc bs mL_law 1108 [some (vR r0), some (vR r1), some (vR r2), some (vI x3)] (v.toList ++ [vL s0]) h1 n1 Q)) : Rn (d + 1) (bc) (bs) mL_law 1100 [some (vR r0), some (vR r1), some (vR r2), some (vI x3)] [vI s4, vI s3, vI s2, vR (some aq1), vL s0] h n Q := by
  refine Rn_iconst dL_law_1100 rfl ?_
  refine Rn_goto (tgt := 1105) dL_law_1101 rfl ?_
  exact Rn_callV (ci := 13) (avs := [vI s2, vI s3, vI s4, vI 1]) (st := [vL s0]) (bc1 := 0) (bs1 := 0) (bc2 := bc) (bs2 := bs) fx_X13_likely dL_law_1105 wd_1927 wd_1928 wd_1929 rfl h2 rfl (Nat.le_of_ble_eq_true rfl) (Nat.le_of_ble_eq_true rfl) (by omega) (by omega) (ls1 := [some (vR (some aq1)), some (vI s2), some (vI s3), some (vI s4), some (vI 1), none, none, none, none, none, none, none, none, none]) rfl k
theorem BL_law_1104 {d bc bs : Nat} {h : aH} {n : Nat} {Q : aQ} {r0 r1 r2 : Option Nat} {x3 s0 s2 s3 s4 : Int} {aq1 : Nat} {f1 : List aV} (h2 : h aq1 = cO 13 f1) (k : Rn d 0 0 mX13_likely 0 [some (vR (some aq1)), some (vI s2), some (vI s3), some (vI s4), some (vI 0), none, none, none, none, none, none, none, none, none] [] h n (fun v h1 n1 => Rn (d + 1) bc bs mL_law 1108 [some (vR r0), some (vR r1), some (vR r2), some (vI x3)] (v.toList ++ [vL s0]) h1 n1 Q)) : Rn (d + 1) (bc) (bs) mL_law 1104 [some (vR r0), some (vR r1), some (vR r2), some (vI x3)] [vI s4, vI s3, vI s2, vR (some aq1), vL s0] h n Q := by
  refine Rn_iconst dL_law_1104 rfl ?_
  exact Rn_callV (ci := 13) (avs := [vI s2, vI s3, vI s4, vI 0]) (st := [vL s0]) (bc1 := 0) (bs1 := 0) (bc2 := bc) (bs2 := bs) fx_X13_likely dL_law_1105 wd_1927 wd_1928 wd_1929 rfl h2 rfl (Nat.le_of_ble_eq_true rfl) (Nat.le_of_ble_eq_true rfl) (by omega) (by omega) (ls1 := [some (vR (some aq1)), some (vI s2), some (vI s3), some (vI s4), some (vI 0), none, none, none, none, none, none, none, none, none]) rfl k
theorem BL_law_1108 {d bc bs : Nat} {h : aH} {n : Nat} {Q : aQ} {r0 r1 r2 : Option Nat} {x3 s0 s1 : Int} (kt : s0 = s1 → Rn d bc bs mL_law 1576 [some (vR r0), some (vR r1), some (vR r2), some (vI x3)] [] h n Q) (kf : s0 ≠ s1 → Rn d bc bs mL_law 1112 [some (vR r0), some (vR r1), some (vR r2), some (vI x3)] [] h n Q) : Rn d (bc) (bs) mL_law 1108 [some (vR r0), some (vR r1), some (vR r2), some (vI x3)] [vL s1, vL s0] h n Q := by
  refine Rn_lcmp dL_law_1108 ?_
  refine Rn_ifeq (tgt := 1576) dL_law_1109 rfl ?_ ?_
  · exact fun q => kt (lc_eq q)
  · exact fun q => kf (lc_ne q)
theorem BL_law_1112 {d bc bs : Nat} {h : aH} {n : Nat} {Q : aQ} {r0 r1 r2 : Option Nat} {x3 : Int} (k : Q (some (vI 0)) h n) : Rn d (bc) (bs) mL_law 1112 [some (vR r0), some (vR r1), some (vR r2), some (vI x3)] [] h n Q := by
  refine Rn_iconst dL_law_1112 rfl ?_
  exact Rn_zreturn rfl dL_law_1113 (by decide) k
theorem BL_law_1114 {d bc bs : Nat} {h : aH} {n : Nat} {Q : aQ} {ar0 ar1 : Nat} {r2 : Option Nat} {x3 v4 v8 : Int} {w2 : List Int} {f11 : List aV} (b1 : -2147483648 ≤ x3 + 1 ∧ x3 + 1 < 2147483648) (h3 : h ar0 = cI w2) (i5 : 0 ≤ x3 + 1) (g6 : w2[(x3 + 1 : Int).toNat]? = some v4) (b7 : -2147483648 ≤ x3 + 2 ∧ x3 + 2 < 2147483648) (i9 : 0 ≤ x3 + 2) (g10 : w2[(x3 + 2 : Int).toNat]? = some v8) (h12 : h ar1 = cO 12 f11) (k : Rn d 0 0 mX12_odds 0 [some (vR (some ar1)), some (vI v4), some (vI v8)] [] h n (fun v h1 n1 => Rn (d + 1) bc bs mL_law 1128 [some (vR (some ar0)), some (vR (some ar1)), some (vR r2), some (vI x3)] (v.toList ++ []) h1 n1 Q)) : Rn (d + 1) (bc) (bs) mL_law 1114 [some (vR (some ar0)), some (vR (some ar1)), some (vR r2), some (vI x3)] [] h n Q := by
  refine Rn_aload_n dL_law_1114 rfl rfl rfl ?_
  refine Rn_aload_n dL_law_1115 rfl rfl rfl ?_
  refine Rn_iload_n dL_law_1116 rfl rfl ?_
  refine Rn_iconst dL_law_1117 rfl ?_
  refine Rn_iadd dL_law_1118 ?_
  rw [w32_id b1.1 b1.2]
  refine Rn_iaload dL_law_1119 h3 i5 g6 ?_
  refine Rn_aload_n dL_law_1120 rfl rfl rfl ?_
  refine Rn_iload_n dL_law_1121 rfl rfl ?_
  refine Rn_iconst dL_law_1122 rfl ?_
  refine Rn_iadd dL_law_1123 ?_
  rw [w32_id b7.1 b7.2]
  refine Rn_iaload dL_law_1124 h3 i9 g10 ?_
  exact Rn_callV (ci := 12) (avs := [vI v4, vI v8]) (st := []) (bc1 := 0) (bs1 := 0) (bc2 := bc) (bs2 := bs) fx_X12_odds dL_law_1125 wd_1148 wd_1149 wd_1150 rfl h12 rfl (Nat.le_of_ble_eq_true rfl) (Nat.le_of_ble_eq_true rfl) (by omega) (by omega) (ls1 := [some (vR (some ar1)), some (vI v4), some (vI v8)]) rfl k
theorem BL_law_1128 {d bc bs : Nat} {h : aH} {n : Nat} {Q : aQ} {ar0 ar2 : Nat} {r1 : Option Nat} {x3 s0 v4 v8 : Int} {w2 : List Int} {f11 : List aV} (b1 : -2147483648 ≤ x3 + 1 ∧ x3 + 1 < 2147483648) (h3 : h ar0 = cI w2) (i5 : 0 ≤ x3 + 1) (g6 : w2[(x3 + 1 : Int).toNat]? = some v4) (b7 : -2147483648 ≤ x3 + 2 ∧ x3 + 2 < 2147483648) (i9 : 0 ≤ x3 + 2) (g10 : w2[(x3 + 2 : Int).toNat]? = some v8) (h12 : h ar2 = cO 13 f11) (k : Rn d 0 0 mX13_odds 0 [some (vR (some ar2)), some (vI v4), some (vI v8)] [] h n (fun v h1 n1 => Rn (d + 1) bc bs mL_law 1142 [some (vR (some ar0)), some (vR r1), some (vR (some ar2)), some (vI x3)] (v.toList ++ [vI s0]) h1 n1 Q)) : Rn (d + 1) (bc) (bs) mL_law 1128 [some (vR (some ar0)), some (vR r1), some (vR (some ar2)), some (vI x3)] [vI s0] h n Q := by
  refine Rn_aload_n dL_law_1128 rfl rfl rfl ?_
  refine Rn_aload_n dL_law_1129 rfl rfl rfl ?_
  refine Rn_iload_n dL_law_1130 rfl rfl ?_
  refine Rn_iconst dL_law_1131 rfl ?_
  refine Rn_iadd dL_law_1132 ?_
  rw [w32_id b1.1 b1.2]
  refine Rn_iaload dL_law_1133 h3 i5 g6 ?_
  refine Rn_aload_n dL_law_1134 rfl rfl rfl ?_
  refine Rn_iload_n dL_law_1135 rfl rfl ?_
  refine Rn_iconst dL_law_1136 rfl ?_
  refine Rn_iadd dL_law_1137 ?_
  rw [w32_id b7.1 b7.2]
  refine Rn_iaload dL_law_1138 h3 i9 g10 ?_
  exact Rn_callV (ci := 13) (avs := [vI v4, vI v8]) (st := [vI s0]) (bc1 := 0) (bs1 := 0) (bc2 := bc) (bs2 := bs) fx_X13_odds dL_law_1139 wd_1923 wd_1924 wd_1925 rfl h12 rfl (Nat.le_of_ble_eq_true rfl) (Nat.le_of_ble_eq_true rfl) (by omega) (by omega) (ls1 := [some (vR (some ar2)), some (vI v4), some (vI v8)]) rfl k
theorem BL_law_1142 {d bc bs : Nat} {h : aH} {n : Nat} {Q : aQ} {r0 r1 r2 : Option Nat} {x3 s0 s1 : Int} (kt : s0 = s1 → Rn d bc bs mL_law 1576 [some (vR r0), some (vR r1), some (vR r2), some (vI x3)] [] h n Q) (kf : s0 ≠ s1 → Rn d bc bs mL_law 1145 [some (vR r0), some (vR r1), some (vR r2), some (vI x3)] [] h n Q) : Rn d (bc) (bs) mL_law 1142 [some (vR r0), some (vR r1), some (vR r2), some (vI x3)] [vI s1, vI s0] h n Q := by
  refine Rn_icmpeq (tgt := 1576) dL_law_1142 rfl ?_ ?_
  · exact kt
  · exact kf
theorem BL_law_1145 {d bc bs : Nat} {h : aH} {n : Nat} {Q : aQ} {r0 r1 r2 : Option Nat} {x3 : Int} (k : Q (some (vI 0)) h n) : Rn d (bc) (bs) mL_law 1145 [some (vR r0), some (vR r1), some (vR r2), some (vI x3)] [] h n Q := by
  refine Rn_iconst dL_law_1145 rfl ?_
  exact Rn_zreturn rfl dL_law_1146 (by decide) k
theorem BL_law_1147 {d bc bs : Nat} {h : aH} {n : Nat} {Q : aQ} {ar0 ar1 : Nat} {r2 : Option Nat} {x3 v4 : Int} {w2 : List Int} {f7 : List aV} (b1 : -2147483648 ≤ x3 + 1 ∧ x3 + 1 < 2147483648) (h3 : h ar0 = cI w2) (i5 : 0 ≤ x3 + 1) (g6 : w2[(x3 + 1 : Int).toNat]? = some v4) (h8 : h ar1 = cO 12 f7) (k : Rn d 0 0 mX12_code 0 [some (vR (some ar1)), some (vI v4)] [] h n (fun v h1 n1 => Rn (d + 1) bc bs mL_law 1156 [some (vR (some ar0)), some (vR (some ar1)), some (vR r2), some (vI x3)] (v.toList ++ []) h1 n1 Q)) : Rn (d + 1) (bc) (bs) mL_law 1147 [some (vR (some ar0)), some (vR (some ar1)), some (vR r2), some (vI x3)] [] h n Q := by
  refine Rn_aload_n dL_law_1147 rfl rfl rfl ?_
  refine Rn_aload_n dL_law_1148 rfl rfl rfl ?_
  refine Rn_iload_n dL_law_1149 rfl rfl ?_
  refine Rn_iconst dL_law_1150 rfl ?_
  refine Rn_iadd dL_law_1151 ?_
  rw [w32_id b1.1 b1.2]
  refine Rn_iaload dL_law_1152 h3 i5 g6 ?_
  exact Rn_callV (ci := 12) (avs := [vI v4]) (st := []) (bc1 := 0) (bs1 := 0) (bc2 := bc) (bs2 := bs) fx_X12_code dL_law_1153 wd_1152 wd_1153 wd_1154 rfl h8 rfl (Nat.le_of_ble_eq_true rfl) (Nat.le_of_ble_eq_true rfl) (by omega) (by omega) (ls1 := [some (vR (some ar1)), some (vI v4)]) rfl k
theorem BL_law_1156 {d bc bs : Nat} {h : aH} {n : Nat} {Q : aQ} {ar0 ar2 : Nat} {r1 : Option Nat} {x3 s0 v4 : Int} {w2 : List Int} {f7 : List aV} (b1 : -2147483648 ≤ x3 + 1 ∧ x3 + 1 < 2147483648) (h3 : h ar0 = cI w2) (i5 : 0 ≤ x3 + 1) (g6 : w2[(x3 + 1 : Int).toNat]? = some v4) (h8 : h ar2 = cO 13 f7) (k : Rn d 0 0 mX13_code 0 [some (vR (some ar2)), some (vI v4), none] [] h n (fun v h1 n1 => Rn (d + 1) bc bs mL_law 1165 [some (vR (some ar0)), some (vR r1), some (vR (some ar2)), some (vI x3)] (v.toList ++ [vI s0]) h1 n1 Q)) : Rn (d + 1) (bc) (bs) mL_law 1156 [some (vR (some ar0)), some (vR r1), some (vR (some ar2)), some (vI x3)] [vI s0] h n Q := by
  refine Rn_aload_n dL_law_1156 rfl rfl rfl ?_
  refine Rn_aload_n dL_law_1157 rfl rfl rfl ?_
  refine Rn_iload_n dL_law_1158 rfl rfl ?_
  refine Rn_iconst dL_law_1159 rfl ?_
  refine Rn_iadd dL_law_1160 ?_
  rw [w32_id b1.1 b1.2]
  refine Rn_iaload dL_law_1161 h3 i5 g6 ?_
  exact Rn_callV (ci := 13) (avs := [vI v4]) (st := [vI s0]) (bc1 := 0) (bs1 := 0) (bc2 := bc) (bs2 := bs) fx_X13_code dL_law_1162 wd_1936 wd_1937 wd_1938 rfl h8 rfl (Nat.le_of_ble_eq_true rfl) (Nat.le_of_ble_eq_true rfl) (by omega) (by omega) (ls1 := [some (vR (some ar2)), some (vI v4), none]) rfl k
theorem BL_law_1165 {d bc bs : Nat} {h : aH} {n : Nat} {Q : aQ} {r0 r1 r2 : Option Nat} {x3 s0 s1 : Int} (kt : s0 = s1 → Rn d bc bs mL_law 1576 [some (vR r0), some (vR r1), some (vR r2), some (vI x3)] [] h n Q) (kf : s0 ≠ s1 → Rn d bc bs mL_law 1168 [some (vR r0), some (vR r1), some (vR r2), some (vI x3)] [] h n Q) : Rn d (bc) (bs) mL_law 1165 [some (vR r0), some (vR r1), some (vR r2), some (vI x3)] [vI s1, vI s0] h n Q := by
  refine Rn_icmpeq (tgt := 1576) dL_law_1165 rfl ?_ ?_
  · exact kt
  · exact kf
theorem BL_law_1168 {d bc bs : Nat} {h : aH} {n : Nat} {Q : aQ} {r0 r1 r2 : Option Nat} {x3 : Int} (k : Q (some (vI 0)) h n) : Rn d (bc) (bs) mL_law 1168 [some (vR r0), some (vR r1), some (vR r2), some (vI x3)] [] h n Q := by
  refine Rn_iconst dL_law_1168 rfl ?_
  exact Rn_zreturn rfl dL_law_1169 (by decide) k
theorem BL_law_1170 {d bc bs : Nat} {h : aH} {n : Nat} {Q : aQ} {ar0 ar1 : Nat} {r2 : Option Nat} {x3 v4 : Int} {w2 : List Int} {f7 : List aV} (b1 : -2147483648 ≤ x3 + 1 ∧ x3 + 1 < 2147483648) (h3 : h ar0 = cI w2) (i5 : 0 ≤ x3 + 1) (g6 : w2[(x3 + 1 : Int).toNat]? = some v4) (h8 : h ar1 = cO 12 f7) (k : Rn d 0 0 mX12_clear 0 [some (vR (some ar1)), some (vI v4), none] [] h n (fun v h1 n1 => Rn (d + 1) bc bs mL_law 1179 [some (vR (some ar0)), some (vR (some ar1)), some (vR r2), some (vI x3)] (v.toList ++ []) h1 n1 Q)) : Rn (d + 1) (bc) (bs) mL_law 1170 [some (vR (some ar0)), some (vR (some ar1)), some (vR r2), some (vI x3)] [] h n Q := by
  refine Rn_aload_n dL_law_1170 rfl rfl rfl ?_
  refine Rn_aload_n dL_law_1171 rfl rfl rfl ?_
  refine Rn_iload_n dL_law_1172 rfl rfl ?_
  refine Rn_iconst dL_law_1173 rfl ?_
  refine Rn_iadd dL_law_1174 ?_
  rw [w32_id b1.1 b1.2]
  refine Rn_iaload dL_law_1175 h3 i5 g6 ?_
  exact Rn_callV (ci := 12) (avs := [vI v4]) (st := []) (bc1 := 0) (bs1 := 0) (bc2 := bc) (bs2 := bs) fx_X12_clear dL_law_1176 wd_1173 wd_1174 wd_1175 rfl h8 rfl (Nat.le_of_ble_eq_true rfl) (Nat.le_of_ble_eq_true rfl) (by omega) (by omega) (ls1 := [some (vR (some ar1)), some (vI v4), none]) rfl k
theorem BL_law_1179 {d bc bs : Nat} {h : aH} {n : Nat} {Q : aQ} {ar0 ar2 : Nat} {r1 : Option Nat} {x3 s0 v4 : Int} {w2 : List Int} {f7 : List aV} (b1 : -2147483648 ≤ x3 + 1 ∧ x3 + 1 < 2147483648) (h3 : h ar0 = cI w2) (i5 : 0 ≤ x3 + 1) (g6 : w2[(x3 + 1 : Int).toNat]? = some v4) (h8 : h ar2 = cO 13 f7) (k : Rn d 0 0 mX13_clear 0 [some (vR (some ar2)), some (vI v4), none] [] h n (fun v h1 n1 => Rn (d + 1) bc bs mL_law 1188 [some (vR (some ar0)), some (vR r1), some (vR (some ar2)), some (vI x3)] (v.toList ++ [vI s0]) h1 n1 Q)) : Rn (d + 1) (bc) (bs) mL_law 1179 [some (vR (some ar0)), some (vR r1), some (vR (some ar2)), some (vI x3)] [vI s0] h n Q := by
  refine Rn_aload_n dL_law_1179 rfl rfl rfl ?_
  refine Rn_aload_n dL_law_1180 rfl rfl rfl ?_
  refine Rn_iload_n dL_law_1181 rfl rfl ?_
  refine Rn_iconst dL_law_1182 rfl ?_
  refine Rn_iadd dL_law_1183 ?_
  rw [w32_id b1.1 b1.2]
  refine Rn_iaload dL_law_1184 h3 i5 g6 ?_
  exact Rn_callV (ci := 13) (avs := [vI v4]) (st := [vI s0]) (bc1 := 0) (bs1 := 0) (bc2 := bc) (bs2 := bs) fx_X13_clear dL_law_1185 wd_1943 wd_1944 wd_1945 rfl h8 rfl (Nat.le_of_ble_eq_true rfl) (Nat.le_of_ble_eq_true rfl) (by omega) (by omega) (ls1 := [some (vR (some ar2)), some (vI v4), none]) rfl k
theorem BL_law_1188 {d bc bs : Nat} {h : aH} {n : Nat} {Q : aQ} {r0 r1 r2 : Option Nat} {x3 s0 s1 : Int} (kt : s0 = s1 → Rn d bc bs mL_law 1576 [some (vR r0), some (vR r1), some (vR r2), some (vI x3)] [] h n Q) (kf : s0 ≠ s1 → Rn d bc bs mL_law 1191 [some (vR r0), some (vR r1), some (vR r2), some (vI x3)] [] h n Q) : Rn d (bc) (bs) mL_law 1188 [some (vR r0), some (vR r1), some (vR r2), some (vI x3)] [vI s1, vI s0] h n Q := by
  refine Rn_icmpeq (tgt := 1576) dL_law_1188 rfl ?_ ?_
  · exact kt
  · exact kf
theorem BL_law_1191 {d bc bs : Nat} {h : aH} {n : Nat} {Q : aQ} {r0 r1 r2 : Option Nat} {x3 : Int} (k : Q (some (vI 0)) h n) : Rn d (bc) (bs) mL_law 1191 [some (vR r0), some (vR r1), some (vR r2), some (vI x3)] [] h n Q := by
  refine Rn_iconst dL_law_1191 rfl ?_
  exact Rn_zreturn rfl dL_law_1192 (by decide) k
theorem BL_law_1193 {d bc bs : Nat} {h : aH} {n : Nat} {Q : aQ} {ar0 ar1 : Nat} {r2 : Option Nat} {x3 v4 : Int} {w2 : List Int} {f7 : List aV} (b1 : -2147483648 ≤ x3 + 1 ∧ x3 + 1 < 2147483648) (h3 : h ar0 = cI w2) (i5 : 0 ≤ x3 + 1) (g6 : w2[(x3 + 1 : Int).toNat]? = some v4) (h8 : h ar1 = cO 12 f7) (k : Rn d 0 0 mX12_reads 0 [some (vR (some ar1)), some (vI v4)] [] h n (fun v h1 n1 => Rn (d + 1) bc bs mL_law 1202 [some (vR (some ar0)), some (vR (some ar1)), some (vR r2), some (vI x3)] (v.toList ++ []) h1 n1 Q)) : Rn (d + 1) (bc) (bs) mL_law 1193 [some (vR (some ar0)), some (vR (some ar1)), some (vR r2), some (vI x3)] [] h n Q := by
  refine Rn_aload_n dL_law_1193 rfl rfl rfl ?_
  refine Rn_aload_n dL_law_1194 rfl rfl rfl ?_
  refine Rn_iload_n dL_law_1195 rfl rfl ?_
  refine Rn_iconst dL_law_1196 rfl ?_
  refine Rn_iadd dL_law_1197 ?_
  rw [w32_id b1.1 b1.2]
  refine Rn_iaload dL_law_1198 h3 i5 g6 ?_
  exact Rn_callV (ci := 12) (avs := [vI v4]) (st := []) (bc1 := 0) (bs1 := 0) (bc2 := bc) (bs2 := bs) fx_X12_reads dL_law_1199 wd_1215 wd_1216 wd_1217 rfl h8 rfl (Nat.le_of_ble_eq_true rfl) (Nat.le_of_ble_eq_true rfl) (by omega) (by omega) (ls1 := [some (vR (some ar1)), some (vI v4)]) rfl k
theorem BL_law_1202 {d bc bs : Nat} {h : aH} {n : Nat} {Q : aQ} {ar0 ar2 : Nat} {r1 : Option Nat} {x3 s0 v4 : Int} {w2 : List Int} {f7 : List aV} (b1 : -2147483648 ≤ x3 + 1 ∧ x3 + 1 < 2147483648) (h3 : h ar0 = cI w2) (i5 : 0 ≤ x3 + 1) (g6 : w2[(x3 + 1 : Int).toNat]? = some v4) (h8 : h ar2 = cO 13 f7) (k : Rn d 0 0 mX13_reads 0 [some (vR (some ar2)), some (vI v4), none, none, none, none, none] [] h n (fun v h1 n1 => Rn (d + 1) bc bs mL_law 1211 [some (vR (some ar0)), some (vR r1), some (vR (some ar2)), some (vI x3)] (v.toList ++ [vL s0]) h1 n1 Q)) : Rn (d + 1) (bc) (bs) mL_law 1202 [some (vR (some ar0)), some (vR r1), some (vR (some ar2)), some (vI x3)] [vL s0] h n Q := by
  refine Rn_aload_n dL_law_1202 rfl rfl rfl ?_
  refine Rn_aload_n dL_law_1203 rfl rfl rfl ?_
  refine Rn_iload_n dL_law_1204 rfl rfl ?_
  refine Rn_iconst dL_law_1205 rfl ?_
  refine Rn_iadd dL_law_1206 ?_
  rw [w32_id b1.1 b1.2]
  refine Rn_iaload dL_law_1207 h3 i5 g6 ?_
  exact Rn_callV (ci := 13) (avs := [vI v4]) (st := [vL s0]) (bc1 := 0) (bs1 := 0) (bc2 := bc) (bs2 := bs) fx_X13_reads dL_law_1208 wd_1968 wd_1969 wd_1970 rfl h8 rfl (Nat.le_of_ble_eq_true rfl) (Nat.le_of_ble_eq_true rfl) (by omega) (by omega) (ls1 := [some (vR (some ar2)), some (vI v4), none, none, none, none, none]) rfl k
theorem BL_law_1211 {d bc bs : Nat} {h : aH} {n : Nat} {Q : aQ} {r0 r1 r2 : Option Nat} {x3 s0 s1 : Int} (kt : s0 = s1 → Rn d bc bs mL_law 1576 [some (vR r0), some (vR r1), some (vR r2), some (vI x3)] [] h n Q) (kf : s0 ≠ s1 → Rn d bc bs mL_law 1215 [some (vR r0), some (vR r1), some (vR r2), some (vI x3)] [] h n Q) : Rn d (bc) (bs) mL_law 1211 [some (vR r0), some (vR r1), some (vR r2), some (vI x3)] [vL s1, vL s0] h n Q := by
  refine Rn_lcmp dL_law_1211 ?_
  refine Rn_ifeq (tgt := 1576) dL_law_1212 rfl ?_ ?_
  · exact fun q => kt (lc_eq q)
  · exact fun q => kf (lc_ne q)
theorem BL_law_1215 {d bc bs : Nat} {h : aH} {n : Nat} {Q : aQ} {r0 r1 r2 : Option Nat} {x3 : Int} (k : Q (some (vI 0)) h n) : Rn d (bc) (bs) mL_law 1215 [some (vR r0), some (vR r1), some (vR r2), some (vI x3)] [] h n Q := by
  refine Rn_iconst dL_law_1215 rfl ?_
  exact Rn_zreturn rfl dL_law_1216 (by decide) k
theorem BL_law_1217 {d bc bs : Nat} {h : aH} {n : Nat} {Q : aQ} {ar0 ar1 : Nat} {r2 : Option Nat} {x3 v4 v8 : Int} {w2 : List Int} {f11 : List aV} (b1 : -2147483648 ≤ x3 + 1 ∧ x3 + 1 < 2147483648) (h3 : h ar0 = cI w2) (i5 : 0 ≤ x3 + 1) (g6 : w2[(x3 + 1 : Int).toNat]? = some v4) (b7 : -2147483648 ≤ x3 + 2 ∧ x3 + 2 < 2147483648) (i9 : 0 ≤ x3 + 2) (g10 : w2[(x3 + 2 : Int).toNat]? = some v8) (h12 : h ar1 = cO 12 f11) (k : Rn d 0 0 mX12_halves 0 [some (vR (some ar1)), some (vI v4), some (vI v8)] [] h n (fun v h1 n1 => Rn (d + 1) bc bs mL_law 1231 [some (vR (some ar0)), some (vR (some ar1)), some (vR r2), some (vI x3)] (v.toList ++ []) h1 n1 Q)) : Rn (d + 1) (bc) (bs) mL_law 1217 [some (vR (some ar0)), some (vR (some ar1)), some (vR r2), some (vI x3)] [] h n Q := by
  refine Rn_aload_n dL_law_1217 rfl rfl rfl ?_
  refine Rn_aload_n dL_law_1218 rfl rfl rfl ?_
  refine Rn_iload_n dL_law_1219 rfl rfl ?_
  refine Rn_iconst dL_law_1220 rfl ?_
  refine Rn_iadd dL_law_1221 ?_
  rw [w32_id b1.1 b1.2]
  refine Rn_iaload dL_law_1222 h3 i5 g6 ?_
  refine Rn_aload_n dL_law_1223 rfl rfl rfl ?_
  refine Rn_iload_n dL_law_1224 rfl rfl ?_
  refine Rn_iconst dL_law_1225 rfl ?_
  refine Rn_iadd dL_law_1226 ?_
  rw [w32_id b7.1 b7.2]
  refine Rn_iaload dL_law_1227 h3 i9 g10 ?_
  exact Rn_callV (ci := 12) (avs := [vI v4, vI v8]) (st := []) (bc1 := 0) (bs1 := 0) (bc2 := bc) (bs2 := bs) fx_X12_halves dL_law_1228 wd_1224 wd_1225 wd_1226 rfl h12 rfl (Nat.le_of_ble_eq_true rfl) (Nat.le_of_ble_eq_true rfl) (by omega) (by omega) (ls1 := [some (vR (some ar1)), some (vI v4), some (vI v8)]) rfl k
theorem BL_law_1231 {d bc bs : Nat} {h : aH} {n : Nat} {Q : aQ} {ar0 ar2 : Nat} {r1 : Option Nat} {x3 s0 v4 v8 : Int} {w2 : List Int} {f11 : List aV} (b1 : -2147483648 ≤ x3 + 1 ∧ x3 + 1 < 2147483648) (h3 : h ar0 = cI w2) (i5 : 0 ≤ x3 + 1) (g6 : w2[(x3 + 1 : Int).toNat]? = some v4) (b7 : -2147483648 ≤ x3 + 2 ∧ x3 + 2 < 2147483648) (i9 : 0 ≤ x3 + 2) (g10 : w2[(x3 + 2 : Int).toNat]? = some v8) (h12 : h ar2 = cO 13 f11) (k : Rn d 0 0 mX13_halves 0 [some (vR (some ar2)), some (vI v4), some (vI v8)] [] h n (fun v h1 n1 => Rn (d + 1) bc bs mL_law 1245 [some (vR (some ar0)), some (vR r1), some (vR (some ar2)), some (vI x3)] (v.toList ++ [vI s0]) h1 n1 Q)) : Rn (d + 1) (bc) (bs) mL_law 1231 [some (vR (some ar0)), some (vR r1), some (vR (some ar2)), some (vI x3)] [vI s0] h n Q := by
  refine Rn_aload_n dL_law_1231 rfl rfl rfl ?_
  refine Rn_aload_n dL_law_1232 rfl rfl rfl ?_
  refine Rn_iload_n dL_law_1233 rfl rfl ?_
  refine Rn_iconst dL_law_1234 rfl ?_
  refine Rn_iadd dL_law_1235 ?_
  rw [w32_id b1.1 b1.2]
  refine Rn_iaload dL_law_1236 h3 i5 g6 ?_
  refine Rn_aload_n dL_law_1237 rfl rfl rfl ?_
  refine Rn_iload_n dL_law_1238 rfl rfl ?_
  refine Rn_iconst dL_law_1239 rfl ?_
  refine Rn_iadd dL_law_1240 ?_
  rw [w32_id b7.1 b7.2]
  refine Rn_iaload dL_law_1241 h3 i9 g10 ?_
  exact Rn_callV (ci := 13) (avs := [vI v4, vI v8]) (st := [vI s0]) (bc1 := 0) (bs1 := 0) (bc2 := bc) (bs2 := bs) fx_X13_halves dL_law_1242 wd_1976 wd_1977 wd_1978 rfl h12 rfl (Nat.le_of_ble_eq_true rfl) (Nat.le_of_ble_eq_true rfl) (by omega) (by omega) (ls1 := [some (vR (some ar2)), some (vI v4), some (vI v8)]) rfl k
theorem BL_law_1245 {d bc bs : Nat} {h : aH} {n : Nat} {Q : aQ} {r0 r1 r2 : Option Nat} {x3 s0 s1 : Int} (kt : s0 = s1 → Rn d bc bs mL_law 1576 [some (vR r0), some (vR r1), some (vR r2), some (vI x3)] [] h n Q) (kf : s0 ≠ s1 → Rn d bc bs mL_law 1248 [some (vR r0), some (vR r1), some (vR r2), some (vI x3)] [] h n Q) : Rn d (bc) (bs) mL_law 1245 [some (vR r0), some (vR r1), some (vR r2), some (vI x3)] [vI s1, vI s0] h n Q := by
  refine Rn_icmpeq (tgt := 1576) dL_law_1245 rfl ?_ ?_
  · exact kt
  · exact kf
theorem BL_law_1248 {d bc bs : Nat} {h : aH} {n : Nat} {Q : aQ} {r0 r1 r2 : Option Nat} {x3 : Int} (k : Q (some (vI 0)) h n) : Rn d (bc) (bs) mL_law 1248 [some (vR r0), some (vR r1), some (vR r2), some (vI x3)] [] h n Q := by
  refine Rn_iconst dL_law_1248 rfl ?_
  exact Rn_zreturn rfl dL_law_1249 (by decide) k
theorem BL_law_1250 {d bc bs : Nat} {h : aH} {n : Nat} {Q : aQ} {ar0 ar1 : Nat} {r2 : Option Nat} {x3 v4 : Int} {w2 : List Int} {f7 : List aV} (b1 : -2147483648 ≤ x3 + 1 ∧ x3 + 1 < 2147483648) (h3 : h ar0 = cI w2) (i5 : 0 ≤ x3 + 1) (g6 : w2[(x3 + 1 : Int).toNat]? = some v4) (h8 : h ar1 = cO 12 f7) (k : Rn d 0 0 mX12_sorters 0 [some (vR (some ar1)), some (vI v4)] [] h n (fun v h1 n1 => Rn (d + 1) bc bs mL_law 1259 [some (vR (some ar0)), some (vR (some ar1)), some (vR r2), some (vI x3)] (v.toList ++ []) h1 n1 Q)) : Rn (d + 1) (bc) (bs) mL_law 1250 [some (vR (some ar0)), some (vR (some ar1)), some (vR r2), some (vI x3)] [] h n Q := by
  refine Rn_aload_n dL_law_1250 rfl rfl rfl ?_
  refine Rn_aload_n dL_law_1251 rfl rfl rfl ?_
  refine Rn_iload_n dL_law_1252 rfl rfl ?_
  refine Rn_iconst dL_law_1253 rfl ?_
  refine Rn_iadd dL_law_1254 ?_
  rw [w32_id b1.1 b1.2]
  refine Rn_iaload dL_law_1255 h3 i5 g6 ?_
  exact Rn_callV (ci := 12) (avs := [vI v4]) (st := []) (bc1 := 0) (bs1 := 0) (bc2 := bc) (bs2 := bs) fx_X12_sorters dL_law_1256 wd_1240 wd_1241 wd_1242 rfl h8 rfl (Nat.le_of_ble_eq_true rfl) (Nat.le_of_ble_eq_true rfl) (by omega) (by omega) (ls1 := [some (vR (some ar1)), some (vI v4)]) rfl k
theorem BL_law_1259 {d bc bs : Nat} {h : aH} {n : Nat} {Q : aQ} {ar0 ar2 : Nat} {r1 : Option Nat} {x3 s0 v4 : Int} {w2 : List Int} {f7 : List aV} (b1 : -2147483648 ≤ x3 + 1 ∧ x3 + 1 < 2147483648) (h3 : h ar0 = cI w2) (i5 : 0 ≤ x3 + 1) (g6 : w2[(x3 + 1 : Int).toNat]? = some v4) (h8 : h ar2 = cO 13 f7) (k : Rn d 0 0 mX13_sorters 0 [some (vR (some ar2)), some (vI v4)] [] h n (fun v h1 n1 => Rn (d + 1) bc bs mL_law 1268 [some (vR (some ar0)), some (vR r1), some (vR (some ar2)), some (vI x3)] (v.toList ++ [vI s0]) h1 n1 Q)) : Rn (d + 1) (bc) (bs) mL_law 1259 [some (vR (some ar0)), some (vR r1), some (vR (some ar2)), some (vI x3)] [vI s0] h n Q := by
  refine Rn_aload_n dL_law_1259 rfl rfl rfl ?_
  refine Rn_aload_n dL_law_1260 rfl rfl rfl ?_
  refine Rn_iload_n dL_law_1261 rfl rfl ?_
  refine Rn_iconst dL_law_1262 rfl ?_
  refine Rn_iadd dL_law_1263 ?_
  rw [w32_id b1.1 b1.2]
  refine Rn_iaload dL_law_1264 h3 i5 g6 ?_
  exact Rn_callV (ci := 13) (avs := [vI v4]) (st := [vI s0]) (bc1 := 0) (bs1 := 0) (bc2 := bc) (bs2 := bs) fx_X13_sorters dL_law_1265 wd_1983 wd_1984 wd_1985 rfl h8 rfl (Nat.le_of_ble_eq_true rfl) (Nat.le_of_ble_eq_true rfl) (by omega) (by omega) (ls1 := [some (vR (some ar2)), some (vI v4)]) rfl k
theorem BL_law_1268 {d bc bs : Nat} {h : aH} {n : Nat} {Q : aQ} {r0 r1 r2 : Option Nat} {x3 s0 s1 : Int} (kt : s0 = s1 → Rn d bc bs mL_law 1576 [some (vR r0), some (vR r1), some (vR r2), some (vI x3)] [] h n Q) (kf : s0 ≠ s1 → Rn d bc bs mL_law 1271 [some (vR r0), some (vR r1), some (vR r2), some (vI x3)] [] h n Q) : Rn d (bc) (bs) mL_law 1268 [some (vR r0), some (vR r1), some (vR r2), some (vI x3)] [vI s1, vI s0] h n Q := by
  refine Rn_icmpeq (tgt := 1576) dL_law_1268 rfl ?_ ?_
  · exact kt
  · exact kf
theorem BL_law_1271 {d bc bs : Nat} {h : aH} {n : Nat} {Q : aQ} {r0 r1 r2 : Option Nat} {x3 : Int} (k : Q (some (vI 0)) h n) : Rn d (bc) (bs) mL_law 1271 [some (vR r0), some (vR r1), some (vR r2), some (vI x3)] [] h n Q := by
  refine Rn_iconst dL_law_1271 rfl ?_
  exact Rn_zreturn rfl dL_law_1272 (by decide) k
theorem BL_law_1273 {d bc bs : Nat} {h : aH} {n : Nat} {Q : aQ} {ar0 ar1 : Nat} {r2 : Option Nat} {x3 v4 v8 : Int} {w2 : List Int} {f11 : List aV} (b1 : -2147483648 ≤ x3 + 1 ∧ x3 + 1 < 2147483648) (h3 : h ar0 = cI w2) (i5 : 0 ≤ x3 + 1) (g6 : w2[(x3 + 1 : Int).toNat]? = some v4) (b7 : -2147483648 ≤ x3 + 2 ∧ x3 + 2 < 2147483648) (i9 : 0 ≤ x3 + 2) (g10 : w2[(x3 + 2 : Int).toNat]? = some v8) (h12 : h ar1 = cO 12 f11) (k : Rn d 0 0 mX12_sorter 0 [some (vR (some ar1)), some (vI v4), some (vI v8)] [] h n (fun v h1 n1 => Rn (d + 1) bc bs mL_law 1287 [some (vR (some ar0)), some (vR (some ar1)), some (vR r2), some (vI x3)] (v.toList ++ []) h1 n1 Q)) : Rn (d + 1) (bc) (bs) mL_law 1273 [some (vR (some ar0)), some (vR (some ar1)), some (vR r2), some (vI x3)] [] h n Q := by
  refine Rn_aload_n dL_law_1273 rfl rfl rfl ?_
  refine Rn_aload_n dL_law_1274 rfl rfl rfl ?_
  refine Rn_iload_n dL_law_1275 rfl rfl ?_
  refine Rn_iconst dL_law_1276 rfl ?_
  refine Rn_iadd dL_law_1277 ?_
  rw [w32_id b1.1 b1.2]
  refine Rn_iaload dL_law_1278 h3 i5 g6 ?_
  refine Rn_aload_n dL_law_1279 rfl rfl rfl ?_
  refine Rn_iload_n dL_law_1280 rfl rfl ?_
  refine Rn_iconst dL_law_1281 rfl ?_
  refine Rn_iadd dL_law_1282 ?_
  rw [w32_id b7.1 b7.2]
  refine Rn_iaload dL_law_1283 h3 i9 g10 ?_
  exact Rn_callV (ci := 12) (avs := [vI v4, vI v8]) (st := []) (bc1 := 0) (bs1 := 0) (bc2 := bc) (bs2 := bs) fx_X12_sorter dL_law_1284 wd_1255 wd_1256 wd_1257 rfl h12 rfl (Nat.le_of_ble_eq_true rfl) (Nat.le_of_ble_eq_true rfl) (by omega) (by omega) (ls1 := [some (vR (some ar1)), some (vI v4), some (vI v8)]) rfl k
theorem BL_law_1287 {d bc bs : Nat} {h : aH} {n : Nat} {Q : aQ} {ar0 ar2 : Nat} {r1 : Option Nat} {x3 s0 v4 v8 : Int} {w2 : List Int} {f11 : List aV} (b1 : -2147483648 ≤ x3 + 1 ∧ x3 + 1 < 2147483648) (h3 : h ar0 = cI w2) (i5 : 0 ≤ x3 + 1) (g6 : w2[(x3 + 1 : Int).toNat]? = some v4) (b7 : -2147483648 ≤ x3 + 2 ∧ x3 + 2 < 2147483648) (i9 : 0 ≤ x3 + 2) (g10 : w2[(x3 + 2 : Int).toNat]? = some v8) (h12 : h ar2 = cO 13 f11) (k : Rn d 0 0 mX13_sorter 0 [some (vR (some ar2)), some (vI v4), some (vI v8)] [] h n (fun v h1 n1 => Rn (d + 1) bc bs mL_law 1301 [some (vR (some ar0)), some (vR r1), some (vR (some ar2)), some (vI x3)] (v.toList ++ [vI s0]) h1 n1 Q)) : Rn (d + 1) (bc) (bs) mL_law 1287 [some (vR (some ar0)), some (vR r1), some (vR (some ar2)), some (vI x3)] [vI s0] h n Q := by
  refine Rn_aload_n dL_law_1287 rfl rfl rfl ?_
  refine Rn_aload_n dL_law_1288 rfl rfl rfl ?_
  refine Rn_iload_n dL_law_1289 rfl rfl ?_
  refine Rn_iconst dL_law_1290 rfl ?_
  refine Rn_iadd dL_law_1291 ?_
  rw [w32_id b1.1 b1.2]
  refine Rn_iaload dL_law_1292 h3 i5 g6 ?_
  refine Rn_aload_n dL_law_1293 rfl rfl rfl ?_
  refine Rn_iload_n dL_law_1294 rfl rfl ?_
  refine Rn_iconst dL_law_1295 rfl ?_
  refine Rn_iadd dL_law_1296 ?_
  rw [w32_id b7.1 b7.2]
  refine Rn_iaload dL_law_1297 h3 i9 g10 ?_
  exact Rn_callV (ci := 13) (avs := [vI v4, vI v8]) (st := [vI s0]) (bc1 := 0) (bs1 := 0) (bc2 := bc) (bs2 := bs) fx_X13_sorter dL_law_1298 wd_1999 wd_2000 wd_2001 rfl h12 rfl (Nat.le_of_ble_eq_true rfl) (Nat.le_of_ble_eq_true rfl) (by omega) (by omega) (ls1 := [some (vR (some ar2)), some (vI v4), some (vI v8)]) rfl k
theorem BL_law_1301 {d bc bs : Nat} {h : aH} {n : Nat} {Q : aQ} {r0 r1 r2 : Option Nat} {x3 s0 s1 : Int} (kt : s0 = s1 → Rn d bc bs mL_law 1576 [some (vR r0), some (vR r1), some (vR r2), some (vI x3)] [] h n Q) (kf : s0 ≠ s1 → Rn d bc bs mL_law 1304 [some (vR r0), some (vR r1), some (vR r2), some (vI x3)] [] h n Q) : Rn d (bc) (bs) mL_law 1301 [some (vR r0), some (vR r1), some (vR r2), some (vI x3)] [vI s1, vI s0] h n Q := by
  refine Rn_icmpeq (tgt := 1576) dL_law_1301 rfl ?_ ?_
  · exact kt
  · exact kf
theorem BL_law_1304 {d bc bs : Nat} {h : aH} {n : Nat} {Q : aQ} {r0 r1 r2 : Option Nat} {x3 : Int} (k : Q (some (vI 0)) h n) : Rn d (bc) (bs) mL_law 1304 [some (vR r0), some (vR r1), some (vR r2), some (vI x3)] [] h n Q := by
  refine Rn_iconst dL_law_1304 rfl ?_
  exact Rn_zreturn rfl dL_law_1305 (by decide) k
theorem BL_law_1306 {d bc bs : Nat} {h : aH} {n : Nat} {Q : aQ} {ar0 ar1 : Nat} {r2 : Option Nat} {x3 v4 v8 : Int} {w2 : List Int} {f11 : List aV} (b1 : -2147483648 ≤ x3 + 1 ∧ x3 + 1 < 2147483648) (h3 : h ar0 = cI w2) (i5 : 0 ≤ x3 + 1) (g6 : w2[(x3 + 1 : Int).toNat]? = some v4) (b7 : -2147483648 ≤ x3 + 2 ∧ x3 + 2 < 2147483648) (i9 : 0 ≤ x3 + 2) (g10 : w2[(x3 + 2 : Int).toNat]? = some v8) (h12 : h ar1 = cO 12 f11) (k : Rn d 0 0 mX12_writes 0 [some (vR (some ar1)), some (vI v4), some (vI v8)] [] h n (fun v h1 n1 => Rn (d + 1) bc bs mL_law 1320 [some (vR (some ar0)), some (vR (some ar1)), some (vR r2), some (vI x3)] (v.toList ++ []) h1 n1 Q)) : Rn (d + 1) (bc) (bs) mL_law 1306 [some (vR (some ar0)), some (vR (some ar1)), some (vR r2), some (vI x3)] [] h n Q := by
  refine Rn_aload_n dL_law_1306 rfl rfl rfl ?_
  refine Rn_aload_n dL_law_1307 rfl rfl rfl ?_
  refine Rn_iload_n dL_law_1308 rfl rfl ?_
  refine Rn_iconst dL_law_1309 rfl ?_
  refine Rn_iadd dL_law_1310 ?_
  rw [w32_id b1.1 b1.2]
  refine Rn_iaload dL_law_1311 h3 i5 g6 ?_
  refine Rn_aload_n dL_law_1312 rfl rfl rfl ?_
  refine Rn_iload_n dL_law_1313 rfl rfl ?_
  refine Rn_iconst dL_law_1314 rfl ?_
  refine Rn_iadd dL_law_1315 ?_
  rw [w32_id b7.1 b7.2]
  refine Rn_iaload dL_law_1316 h3 i9 g10 ?_
  exact Rn_callV (ci := 12) (avs := [vI v4, vI v8]) (st := []) (bc1 := 0) (bs1 := 0) (bc2 := bc) (bs2 := bs) fx_X12_writes dL_law_1317 wd_1263 wd_1264 wd_1265 rfl h12 rfl (Nat.le_of_ble_eq_true rfl) (Nat.le_of_ble_eq_true rfl) (by omega) (by omega) (ls1 := [some (vR (some ar1)), some (vI v4), some (vI v8)]) rfl k
theorem BL_law_1320 {d bc bs : Nat} {h : aH} {n : Nat} {Q : aQ} {ar0 ar2 : Nat} {r1 : Option Nat} {x3 s0 v4 v8 : Int} {w2 : List Int} {f11 : List aV} (b1 : -2147483648 ≤ x3 + 1 ∧ x3 + 1 < 2147483648) (h3 : h ar0 = cI w2) (i5 : 0 ≤ x3 + 1) (g6 : w2[(x3 + 1 : Int).toNat]? = some v4) (b7 : -2147483648 ≤ x3 + 2 ∧ x3 + 2 < 2147483648) (i9 : 0 ≤ x3 + 2) (g10 : w2[(x3 + 2 : Int).toNat]? = some v8) (h12 : h ar2 = cO 13 f11) (k : Rn d 0 0 mX13_writes 0 [some (vR (some ar2)), some (vI v4), some (vI v8)] [] h n (fun v h1 n1 => Rn (d + 1) bc bs mL_law 1334 [some (vR (some ar0)), some (vR r1), some (vR (some ar2)), some (vI x3)] (v.toList ++ [vI s0]) h1 n1 Q)) : Rn (d + 1) (bc) (bs) mL_law 1320 [some (vR (some ar0)), some (vR r1), some (vR (some ar2)), some (vI x3)] [vI s0] h n Q := by
  refine Rn_aload_n dL_law_1320 rfl rfl rfl ?_
  refine Rn_aload_n dL_law_1321 rfl rfl rfl ?_
  refine Rn_iload_n dL_law_1322 rfl rfl ?_
  refine Rn_iconst dL_law_1323 rfl ?_
  refine Rn_iadd dL_law_1324 ?_
  rw [w32_id b1.1 b1.2]
  refine Rn_iaload dL_law_1325 h3 i5 g6 ?_
  refine Rn_aload_n dL_law_1326 rfl rfl rfl ?_
  refine Rn_iload_n dL_law_1327 rfl rfl ?_
  refine Rn_iconst dL_law_1328 rfl ?_
  refine Rn_iadd dL_law_1329 ?_
  rw [w32_id b7.1 b7.2]
  refine Rn_iaload dL_law_1330 h3 i9 g10 ?_
  exact Rn_callV (ci := 13) (avs := [vI v4, vI v8]) (st := [vI s0]) (bc1 := 0) (bs1 := 0) (bc2 := bc) (bs2 := bs) fx_X13_writes dL_law_1331 wd_2003 wd_2004 wd_2005 rfl h12 rfl (Nat.le_of_ble_eq_true rfl) (Nat.le_of_ble_eq_true rfl) (by omega) (by omega) (ls1 := [some (vR (some ar2)), some (vI v4), some (vI v8)]) rfl k
theorem BL_law_1334 {d bc bs : Nat} {h : aH} {n : Nat} {Q : aQ} {r0 r1 r2 : Option Nat} {x3 s0 s1 : Int} (kt : s0 = s1 → Rn d bc bs mL_law 1576 [some (vR r0), some (vR r1), some (vR r2), some (vI x3)] [] h n Q) (kf : s0 ≠ s1 → Rn d bc bs mL_law 1337 [some (vR r0), some (vR r1), some (vR r2), some (vI x3)] [] h n Q) : Rn d (bc) (bs) mL_law 1334 [some (vR r0), some (vR r1), some (vR r2), some (vI x3)] [vI s1, vI s0] h n Q := by
  refine Rn_icmpeq (tgt := 1576) dL_law_1334 rfl ?_ ?_
  · exact kt
  · exact kf
theorem BL_law_1337 {d bc bs : Nat} {h : aH} {n : Nat} {Q : aQ} {r0 r1 r2 : Option Nat} {x3 : Int} (k : Q (some (vI 0)) h n) : Rn d (bc) (bs) mL_law 1337 [some (vR r0), some (vR r1), some (vR r2), some (vI x3)] [] h n Q := by
  refine Rn_iconst dL_law_1337 rfl ?_
  exact Rn_zreturn rfl dL_law_1338 (by decide) k
theorem BL_law_1339 {d bc bs : Nat} {h : aH} {n : Nat} {Q : aQ} {ar0 ar1 : Nat} {r2 : Option Nat} {x3 v4 : Int} {w2 : List Int} {f7 : List aV} (b1 : -2147483648 ≤ x3 + 1 ∧ x3 + 1 < 2147483648) (h3 : h ar0 = cI w2) (i5 : 0 ≤ x3 + 1) (g6 : w2[(x3 + 1 : Int).toNat]? = some v4) (h8 : h ar1 = cO 12 f7) (k : Rn d 0 0 mX12_orders 0 [some (vR (some ar1)), some (vI v4)] [] h n (fun v h1 n1 => Rn (d + 1) bc bs mL_law 1348 [some (vR (some ar0)), some (vR (some ar1)), some (vR r2), some (vI x3)] (v.toList ++ []) h1 n1 Q)) : Rn (d + 1) (bc) (bs) mL_law 1339 [some (vR (some ar0)), some (vR (some ar1)), some (vR r2), some (vI x3)] [] h n Q := by
  refine Rn_aload_n dL_law_1339 rfl rfl rfl ?_
  refine Rn_aload_n dL_law_1340 rfl rfl rfl ?_
  refine Rn_iload_n dL_law_1341 rfl rfl ?_
  refine Rn_iconst dL_law_1342 rfl ?_
  refine Rn_iadd dL_law_1343 ?_
  rw [w32_id b1.1 b1.2]
  refine Rn_iaload dL_law_1344 h3 i5 g6 ?_
  exact Rn_callV (ci := 12) (avs := [vI v4]) (st := []) (bc1 := 0) (bs1 := 0) (bc2 := bc) (bs2 := bs) fx_X12_orders dL_law_1345 wd_1275 wd_1276 wd_1277 rfl h8 rfl (Nat.le_of_ble_eq_true rfl) (Nat.le_of_ble_eq_true rfl) (by omega) (by omega) (ls1 := [some (vR (some ar1)), some (vI v4)]) rfl k
theorem BL_law_1348 {d bc bs : Nat} {h : aH} {n : Nat} {Q : aQ} {ar0 ar2 : Nat} {r1 : Option Nat} {x3 s0 v4 : Int} {w2 : List Int} {f7 : List aV} (b1 : -2147483648 ≤ x3 + 1 ∧ x3 + 1 < 2147483648) (h3 : h ar0 = cI w2) (i5 : 0 ≤ x3 + 1) (g6 : w2[(x3 + 1 : Int).toNat]? = some v4) (h8 : h ar2 = cO 13 f7) (k : Rn d 0 0 mX13_orders 0 [some (vR (some ar2)), some (vI v4)] [] h n (fun v h1 n1 => Rn (d + 1) bc bs mL_law 1357 [some (vR (some ar0)), some (vR r1), some (vR (some ar2)), some (vI x3)] (v.toList ++ [vL s0]) h1 n1 Q)) : Rn (d + 1) (bc) (bs) mL_law 1348 [some (vR (some ar0)), some (vR r1), some (vR (some ar2)), some (vI x3)] [vL s0] h n Q := by
  refine Rn_aload_n dL_law_1348 rfl rfl rfl ?_
  refine Rn_aload_n dL_law_1349 rfl rfl rfl ?_
  refine Rn_iload_n dL_law_1350 rfl rfl ?_
  refine Rn_iconst dL_law_1351 rfl ?_
  refine Rn_iadd dL_law_1352 ?_
  rw [w32_id b1.1 b1.2]
  refine Rn_iaload dL_law_1353 h3 i5 g6 ?_
  exact Rn_callV (ci := 13) (avs := [vI v4]) (st := [vL s0]) (bc1 := 0) (bs1 := 0) (bc2 := bc) (bs2 := bs) fx_X13_orders dL_law_1354 wd_2007 wd_2008 wd_2009 rfl h8 rfl (Nat.le_of_ble_eq_true rfl) (Nat.le_of_ble_eq_true rfl) (by omega) (by omega) (ls1 := [some (vR (some ar2)), some (vI v4)]) rfl k
theorem BL_law_1357 {d bc bs : Nat} {h : aH} {n : Nat} {Q : aQ} {r0 r1 r2 : Option Nat} {x3 s0 s1 : Int} (kt : s0 = s1 → Rn d bc bs mL_law 1576 [some (vR r0), some (vR r1), some (vR r2), some (vI x3)] [] h n Q) (kf : s0 ≠ s1 → Rn d bc bs mL_law 1361 [some (vR r0), some (vR r1), some (vR r2), some (vI x3)] [] h n Q) : Rn d (bc) (bs) mL_law 1357 [some (vR r0), some (vR r1), some (vR r2), some (vI x3)] [vL s1, vL s0] h n Q := by
  refine Rn_lcmp dL_law_1357 ?_
  refine Rn_ifeq (tgt := 1576) dL_law_1358 rfl ?_ ?_
  · exact fun q => kt (lc_eq q)
  · exact fun q => kf (lc_ne q)
theorem BL_law_1361 {d bc bs : Nat} {h : aH} {n : Nat} {Q : aQ} {r0 r1 r2 : Option Nat} {x3 : Int} (k : Q (some (vI 0)) h n) : Rn d (bc) (bs) mL_law 1361 [some (vR r0), some (vR r1), some (vR r2), some (vI x3)] [] h n Q := by
  refine Rn_iconst dL_law_1361 rfl ?_
  exact Rn_zreturn rfl dL_law_1362 (by decide) k
theorem BL_law_1363 {d bc bs : Nat} {h : aH} {n : Nat} {Q : aQ} {ar0 ar1 : Nat} {r2 : Option Nat} {x3 v4 v8 v12 : Int} {w2 : List Int} {f15 : List aV} (b1 : -2147483648 ≤ x3 + 1 ∧ x3 + 1 < 2147483648) (h3 : h ar0 = cI w2) (i5 : 0 ≤ x3 + 1) (g6 : w2[(x3 + 1 : Int).toNat]? = some v4) (b7 : -2147483648 ≤ x3 + 2 ∧ x3 + 2 < 2147483648) (i9 : 0 ≤ x3 + 2) (g10 : w2[(x3 + 2 : Int).toNat]? = some v8) (b11 : -2147483648 ≤ x3 + 3 ∧ x3 + 3 < 2147483648) (i13 : 0 ≤ x3 + 3) (g14 : w2[(x3 + 3 : Int).toNat]? = some v12) (h16 : h ar1 = cO 12 f15) (k : Rn d 0 0 mX12_sure 0 [some (vR (some ar1)), some (vI v4), some (vI v8), some (vI v12), none, none, none, none, none] [] h n (fun v h1 n1 => Rn (d + 1) bc bs mL_law 1382 [some (vR (some ar0)), some (vR (some ar1)), some (vR r2), some (vI x3)] (v.toList ++ []) h1 n1 Q)) : Rn (d + 1) (bc) (bs) mL_law 1363 [some (vR (some ar0)), some (vR (some ar1)), some (vR r2), some (vI x3)] [] h n Q := by
  refine Rn_aload_n dL_law_1363 rfl rfl rfl ?_
  refine Rn_aload_n dL_law_1364 rfl rfl rfl ?_
  refine Rn_iload_n dL_law_1365 rfl rfl ?_
  refine Rn_iconst dL_law_1366 rfl ?_
  refine Rn_iadd dL_law_1367 ?_
  rw [w32_id b1.1 b1.2]
  refine Rn_iaload dL_law_1368 h3 i5 g6 ?_
  refine Rn_aload_n dL_law_1369 rfl rfl rfl ?_
  refine Rn_iload_n dL_law_1370 rfl rfl ?_
  refine Rn_iconst dL_law_1371 rfl ?_
  refine Rn_iadd dL_law_1372 ?_
  rw [w32_id b7.1 b7.2]
  refine Rn_iaload dL_law_1373 h3 i9 g10 ?_
  refine Rn_aload_n dL_law_1374 rfl rfl rfl ?_
  refine Rn_iload_n dL_law_1375 rfl rfl ?_
  refine Rn_iconst dL_law_1376 rfl ?_
  refine Rn_iadd dL_law_1377 ?_
  rw [w32_id b11.1 b11.2]
  refine Rn_iaload dL_law_1378 h3 i13 g14 ?_
  exact Rn_callV (ci := 12) (avs := [vI v4, vI v8, vI v12]) (st := []) (bc1 := 0) (bs1 := 0) (bc2 := bc) (bs2 := bs) fx_X12_sure dL_law_1379 wd_1284 wd_1285 wd_1286 rfl h16 rfl (Nat.le_of_ble_eq_true rfl) (Nat.le_of_ble_eq_true rfl) (by omega) (by omega) (ls1 := [some (vR (some ar1)), some (vI v4), some (vI v8), some (vI v12), none, none, none, none, none]) rfl k
theorem BL_law_1382 {d bc bs : Nat} {h : aH} {n : Nat} {Q : aQ} {ar0 ar2 : Nat} {r1 : Option Nat} {x3 s0 v4 v8 v12 : Int} {w2 : List Int} {f15 : List aV} (b1 : -2147483648 ≤ x3 + 1 ∧ x3 + 1 < 2147483648) (h3 : h ar0 = cI w2) (i5 : 0 ≤ x3 + 1) (g6 : w2[(x3 + 1 : Int).toNat]? = some v4) (b7 : -2147483648 ≤ x3 + 2 ∧ x3 + 2 < 2147483648) (i9 : 0 ≤ x3 + 2) (g10 : w2[(x3 + 2 : Int).toNat]? = some v8) (b11 : -2147483648 ≤ x3 + 3 ∧ x3 + 3 < 2147483648) (i13 : 0 ≤ x3 + 3) (g14 : w2[(x3 + 3 : Int).toNat]? = some v12) (h16 : h ar2 = cO 13 f15) (k : Rn d 0 0 mX13_sure 0 [some (vR (some ar2)), some (vI v4), some (vI v8), some (vI v12), none, none, none, none] [] h n (fun v h1 n1 => Rn (d + 1) bc bs mL_law 1401 [some (vR (some ar0)), some (vR r1), some (vR (some ar2)), some (vI x3)] (v.toList ++ [vI s0]) h1 n1 Q)) : Rn (d + 1) (bc) (bs) mL_law 1382 [some (vR (some ar0)), some (vR r1), some (vR (some ar2)), some (vI x3)] [vI s0] h n Q := by
  refine Rn_aload_n dL_law_1382 rfl rfl rfl ?_
  refine Rn_aload_n dL_law_1383 rfl rfl rfl ?_
  refine Rn_iload_n dL_law_1384 rfl rfl ?_
  refine Rn_iconst dL_law_1385 rfl ?_
  refine Rn_iadd dL_law_1386 ?_
  rw [w32_id b1.1 b1.2]
  refine Rn_iaload dL_law_1387 h3 i5 g6 ?_
  refine Rn_aload_n dL_law_1388 rfl rfl rfl ?_
  refine Rn_iload_n dL_law_1389 rfl rfl ?_
  refine Rn_iconst dL_law_1390 rfl ?_
  refine Rn_iadd dL_law_1391 ?_
  rw [w32_id b7.1 b7.2]
  refine Rn_iaload dL_law_1392 h3 i9 g10 ?_
  refine Rn_aload_n dL_law_1393 rfl rfl rfl ?_
  refine Rn_iload_n dL_law_1394 rfl rfl ?_
  refine Rn_iconst dL_law_1395 rfl ?_
  refine Rn_iadd dL_law_1396 ?_
  rw [w32_id b11.1 b11.2]
  refine Rn_iaload dL_law_1397 h3 i13 g14 ?_
  exact Rn_callV (ci := 13) (avs := [vI v4, vI v8, vI v12]) (st := [vI s0]) (bc1 := 0) (bs1 := 0) (bc2 := bc) (bs2 := bs) fx_X13_sure dL_law_1398 wd_2015 wd_2016 wd_2017 rfl h16 rfl (Nat.le_of_ble_eq_true rfl) (Nat.le_of_ble_eq_true rfl) (by omega) (by omega) (ls1 := [some (vR (some ar2)), some (vI v4), some (vI v8), some (vI v12), none, none, none, none]) rfl k
theorem BL_law_1401 {d bc bs : Nat} {h : aH} {n : Nat} {Q : aQ} {r0 r1 r2 : Option Nat} {x3 s0 s1 : Int} (kt : s0 = s1 → Rn d bc bs mL_law 1576 [some (vR r0), some (vR r1), some (vR r2), some (vI x3)] [] h n Q) (kf : s0 ≠ s1 → Rn d bc bs mL_law 1404 [some (vR r0), some (vR r1), some (vR r2), some (vI x3)] [] h n Q) : Rn d (bc) (bs) mL_law 1401 [some (vR r0), some (vR r1), some (vR r2), some (vI x3)] [vI s1, vI s0] h n Q := by
  refine Rn_icmpeq (tgt := 1576) dL_law_1401 rfl ?_ ?_
  · exact kt
  · exact kf
theorem BL_law_1404 {d bc bs : Nat} {h : aH} {n : Nat} {Q : aQ} {r0 r1 r2 : Option Nat} {x3 : Int} (k : Q (some (vI 0)) h n) : Rn d (bc) (bs) mL_law 1404 [some (vR r0), some (vR r1), some (vR r2), some (vI x3)] [] h n Q := by
  refine Rn_iconst dL_law_1404 rfl ?_
  exact Rn_zreturn rfl dL_law_1405 (by decide) k
theorem BL_law_1406 {d bc bs : Nat} {h : aH} {n : Nat} {Q : aQ} {ar0 ar1 : Nat} {r2 : Option Nat} {x3 v4 v8 : Int} {w2 : List Int} {f11 : List aV} (b1 : -2147483648 ≤ x3 + 1 ∧ x3 + 1 < 2147483648) (h3 : h ar0 = cI w2) (i5 : 0 ≤ x3 + 1) (g6 : w2[(x3 + 1 : Int).toNat]? = some v4) (b7 : -2147483648 ≤ x3 + 2 ∧ x3 + 2 < 2147483648) (i9 : 0 ≤ x3 + 2) (g10 : w2[(x3 + 2 : Int).toNat]? = some v8) (h12 : h ar1 = cO 12 f11) (k : Rn d 0 0 mX12_said 0 [some (vR (some ar1)), some (vI v4), some (vI v8)] [] h n (fun v h1 n1 => Rn (d + 1) bc bs mL_law 1420 [some (vR (some ar0)), some (vR (some ar1)), some (vR r2), some (vI x3)] (v.toList ++ []) h1 n1 Q)) : Rn (d + 1) (bc) (bs) mL_law 1406 [some (vR (some ar0)), some (vR (some ar1)), some (vR r2), some (vI x3)] [] h n Q := by
  refine Rn_aload_n dL_law_1406 rfl rfl rfl ?_
  refine Rn_aload_n dL_law_1407 rfl rfl rfl ?_
  refine Rn_iload_n dL_law_1408 rfl rfl ?_
  refine Rn_iconst dL_law_1409 rfl ?_
  refine Rn_iadd dL_law_1410 ?_
  rw [w32_id b1.1 b1.2]
  refine Rn_iaload dL_law_1411 h3 i5 g6 ?_
  refine Rn_aload_n dL_law_1412 rfl rfl rfl ?_
  refine Rn_iload_n dL_law_1413 rfl rfl ?_
  refine Rn_iconst dL_law_1414 rfl ?_
  refine Rn_iadd dL_law_1415 ?_
  rw [w32_id b7.1 b7.2]
  refine Rn_iaload dL_law_1416 h3 i9 g10 ?_
  exact Rn_callV (ci := 12) (avs := [vI v4, vI v8]) (st := []) (bc1 := 0) (bs1 := 0) (bc2 := bc) (bs2 := bs) fx_X12_said dL_law_1417 wd_1288 wd_1289 wd_1290 rfl h12 rfl (Nat.le_of_ble_eq_true rfl) (Nat.le_of_ble_eq_true rfl) (by omega) (by omega) (ls1 := [some (vR (some ar1)), some (vI v4), some (vI v8)]) rfl k
theorem BL_law_1420 {d bc bs : Nat} {h : aH} {n : Nat} {Q : aQ} {ar0 ar2 : Nat} {r1 : Option Nat} {x3 s0 v4 v8 : Int} {w2 : List Int} {f11 : List aV} (b1 : -2147483648 ≤ x3 + 1 ∧ x3 + 1 < 2147483648) (h3 : h ar0 = cI w2) (i5 : 0 ≤ x3 + 1) (g6 : w2[(x3 + 1 : Int).toNat]? = some v4) (b7 : -2147483648 ≤ x3 + 2 ∧ x3 + 2 < 2147483648) (i9 : 0 ≤ x3 + 2) (g10 : w2[(x3 + 2 : Int).toNat]? = some v8) (h12 : h ar2 = cO 13 f11) (k : Rn d 0 0 mX13_said 0 [some (vR (some ar2)), some (vI v4), some (vI v8)] [] h n (fun v h1 n1 => Rn (d + 1) bc bs mL_law 1434 [some (vR (some ar0)), some (vR r1), some (vR (some ar2)), some (vI x3)] (v.toList ++ [vI s0]) h1 n1 Q)) : Rn (d + 1) (bc) (bs) mL_law 1420 [some (vR (some ar0)), some (vR r1), some (vR (some ar2)), some (vI x3)] [vI s0] h n Q := by
  refine Rn_aload_n dL_law_1420 rfl rfl rfl ?_
  refine Rn_aload_n dL_law_1421 rfl rfl rfl ?_
  refine Rn_iload_n dL_law_1422 rfl rfl ?_
  refine Rn_iconst dL_law_1423 rfl ?_
  refine Rn_iadd dL_law_1424 ?_
  rw [w32_id b1.1 b1.2]
  refine Rn_iaload dL_law_1425 h3 i5 g6 ?_
  refine Rn_aload_n dL_law_1426 rfl rfl rfl ?_
  refine Rn_iload_n dL_law_1427 rfl rfl ?_
  refine Rn_iconst dL_law_1428 rfl ?_
  refine Rn_iadd dL_law_1429 ?_
  rw [w32_id b7.1 b7.2]
  refine Rn_iaload dL_law_1430 h3 i9 g10 ?_
  exact Rn_callV (ci := 13) (avs := [vI v4, vI v8]) (st := [vI s0]) (bc1 := 0) (bs1 := 0) (bc2 := bc) (bs2 := bs) fx_X13_said dL_law_1431 wd_2019 wd_2020 wd_2021 rfl h12 rfl (Nat.le_of_ble_eq_true rfl) (Nat.le_of_ble_eq_true rfl) (by omega) (by omega) (ls1 := [some (vR (some ar2)), some (vI v4), some (vI v8)]) rfl k
theorem BL_law_1434 {d bc bs : Nat} {h : aH} {n : Nat} {Q : aQ} {r0 r1 r2 : Option Nat} {x3 s0 s1 : Int} (kt : s0 = s1 → Rn d bc bs mL_law 1576 [some (vR r0), some (vR r1), some (vR r2), some (vI x3)] [] h n Q) (kf : s0 ≠ s1 → Rn d bc bs mL_law 1437 [some (vR r0), some (vR r1), some (vR r2), some (vI x3)] [] h n Q) : Rn d (bc) (bs) mL_law 1434 [some (vR r0), some (vR r1), some (vR r2), some (vI x3)] [vI s1, vI s0] h n Q := by
  refine Rn_icmpeq (tgt := 1576) dL_law_1434 rfl ?_ ?_
  · exact kt
  · exact kf
theorem BL_law_1437 {d bc bs : Nat} {h : aH} {n : Nat} {Q : aQ} {r0 r1 r2 : Option Nat} {x3 : Int} (k : Q (some (vI 0)) h n) : Rn d (bc) (bs) mL_law 1437 [some (vR r0), some (vR r1), some (vR r2), some (vI x3)] [] h n Q := by
  refine Rn_iconst dL_law_1437 rfl ?_
  exact Rn_zreturn rfl dL_law_1438 (by decide) k
theorem BL_law_1439 {d bc bs : Nat} {h : aH} {n : Nat} {Q : aQ} {r0 r2 : Option Nat} {ar1 : Nat} {x3 : Int} {f1 : List aV} (h2 : h ar1 = cO 12 f1) (k : Rn d 0 0 mX12_whose 0 [some (vR (some ar1)), none, none] [] h n (fun v h1 n1 => Rn (d + 1) bc bs mL_law 1443 [some (vR r0), some (vR (some ar1)), some (vR r2), some (vI x3)] (v.toList ++ []) h1 n1 Q)) : Rn (d + 1) (bc) (bs) mL_law 1439 [some (vR r0), some (vR (some ar1)), some (vR r2), some (vI x3)] [] h n Q := by
  refine Rn_aload_n dL_law_1439 rfl rfl rfl ?_
  exact Rn_callV (ci := 12) (avs := []) (st := []) (bc1 := 0) (bs1 := 0) (bc2 := bc) (bs2 := bs) fx_X12_whose dL_law_1440 wd_1300 wd_1301 wd_1302 rfl h2 rfl (Nat.le_of_ble_eq_true rfl) (Nat.le_of_ble_eq_true rfl) (by omega) (by omega) (ls1 := [some (vR (some ar1)), none, none]) rfl k
theorem BL_law_1443 {d bc bs : Nat} {h : aH} {n : Nat} {Q : aQ} {r0 r1 : Option Nat} {ar2 : Nat} {x3 s0 : Int} {f1 : List aV} (h2 : h ar2 = cO 13 f1) (k : Rn d 0 0 mX13_whose 0 [some (vR (some ar2)), none, none, none, none] [] h n (fun v h1 n1 => Rn (d + 1) bc bs mL_law 1447 [some (vR r0), some (vR r1), some (vR (some ar2)), some (vI x3)] (v.toList ++ [vI s0]) h1 n1 Q)) : Rn (d + 1) (bc) (bs) mL_law 1443 [some (vR r0), some (vR r1), some (vR (some ar2)), some (vI x3)] [vI s0] h n Q := by
  refine Rn_aload_n dL_law_1443 rfl rfl rfl ?_
  exact Rn_callV (ci := 13) (avs := []) (st := [vI s0]) (bc1 := 0) (bs1 := 0) (bc2 := bc) (bs2 := bs) fx_X13_whose dL_law_1444 wd_2023 wd_2024 wd_2025 rfl h2 rfl (Nat.le_of_ble_eq_true rfl) (Nat.le_of_ble_eq_true rfl) (by omega) (by omega) (ls1 := [some (vR (some ar2)), none, none, none, none]) rfl k
theorem BL_law_1447 {d bc bs : Nat} {h : aH} {n : Nat} {Q : aQ} {r0 r1 r2 : Option Nat} {x3 s0 s1 : Int} (kt : s0 = s1 → Rn d bc bs mL_law 1576 [some (vR r0), some (vR r1), some (vR r2), some (vI x3)] [] h n Q) (kf : s0 ≠ s1 → Rn d bc bs mL_law 1450 [some (vR r0), some (vR r1), some (vR r2), some (vI x3)] [] h n Q) : Rn d (bc) (bs) mL_law 1447 [some (vR r0), some (vR r1), some (vR r2), some (vI x3)] [vI s1, vI s0] h n Q := by
  refine Rn_icmpeq (tgt := 1576) dL_law_1447 rfl ?_ ?_
  · exact kt
  · exact kf
theorem BL_law_1450 {d bc bs : Nat} {h : aH} {n : Nat} {Q : aQ} {r0 r1 r2 : Option Nat} {x3 : Int} (k : Q (some (vI 0)) h n) : Rn d (bc) (bs) mL_law 1450 [some (vR r0), some (vR r1), some (vR r2), some (vI x3)] [] h n Q := by
  refine Rn_iconst dL_law_1450 rfl ?_
  exact Rn_zreturn rfl dL_law_1451 (by decide) k
theorem BL_law_1452 {d bc bs : Nat} {h : aH} {n : Nat} {Q : aQ} {r0 r2 : Option Nat} {ar1 : Nat} {x3 : Int} {f1 : List aV} (h2 : h ar1 = cO 12 f1) (k : Rn d 0 0 mX12_luckiest 0 [some (vR (some ar1)), none, none, none, none] [] h n (fun v h1 n1 => Rn (d + 1) bc bs mL_law 1456 [some (vR r0), some (vR (some ar1)), some (vR r2), some (vI x3)] (v.toList ++ []) h1 n1 Q)) : Rn (d + 1) (bc) (bs) mL_law 1452 [some (vR r0), some (vR (some ar1)), some (vR r2), some (vI x3)] [] h n Q := by
  refine Rn_aload_n dL_law_1452 rfl rfl rfl ?_
  exact Rn_callV (ci := 12) (avs := []) (st := []) (bc1 := 0) (bs1 := 0) (bc2 := bc) (bs2 := bs) fx_X12_luckiest dL_law_1453 wd_1024 wd_1025 wd_1026 rfl h2 rfl (Nat.le_of_ble_eq_true rfl) (Nat.le_of_ble_eq_true rfl) (by omega) (by omega) (ls1 := [some (vR (some ar1)), none, none, none, none]) rfl k
theorem BL_law_1456 {d bc bs : Nat} {h : aH} {n : Nat} {Q : aQ} {r0 r1 : Option Nat} {ar2 : Nat} {x3 s0 : Int} {f1 : List aV} (h2 : h ar2 = cO 13 f1) (k : Rn d 0 0 mX13_luckiest 0 [some (vR (some ar2)), none, none] [] h n (fun v h1 n1 => Rn (d + 1) bc bs mL_law 1460 [some (vR r0), some (vR r1), some (vR (some ar2)), some (vI x3)] (v.toList ++ [vI s0]) h1 n1 Q)) : Rn (d + 1) (bc) (bs) mL_law 1456 [some (vR r0), some (vR r1), some (vR (some ar2)), some (vI x3)] [vI s0] h n Q := by
  refine Rn_aload_n dL_law_1456 rfl rfl rfl ?_
  exact Rn_callV (ci := 13) (avs := []) (st := [vI s0]) (bc1 := 0) (bs1 := 0) (bc2 := bc) (bs2 := bs) fx_X13_luckiest dL_law_1457 wd_1842 wd_1843 wd_1844 rfl h2 rfl (Nat.le_of_ble_eq_true rfl) (Nat.le_of_ble_eq_true rfl) (by omega) (by omega) (ls1 := [some (vR (some ar2)), none, none]) rfl k
theorem BL_law_1460 {d bc bs : Nat} {h : aH} {n : Nat} {Q : aQ} {r0 r1 r2 : Option Nat} {x3 s0 s1 : Int} (kt : s0 = s1 → Rn d bc bs mL_law 1576 [some (vR r0), some (vR r1), some (vR r2), some (vI x3)] [] h n Q) (kf : s0 ≠ s1 → Rn d bc bs mL_law 1463 [some (vR r0), some (vR r1), some (vR r2), some (vI x3)] [] h n Q) : Rn d (bc) (bs) mL_law 1460 [some (vR r0), some (vR r1), some (vR r2), some (vI x3)] [vI s1, vI s0] h n Q := by
  refine Rn_icmpeq (tgt := 1576) dL_law_1460 rfl ?_ ?_
  · exact kt
  · exact kf
theorem BL_law_1463 {d bc bs : Nat} {h : aH} {n : Nat} {Q : aQ} {r0 r1 r2 : Option Nat} {x3 : Int} (k : Q (some (vI 0)) h n) : Rn d (bc) (bs) mL_law 1463 [some (vR r0), some (vR r1), some (vR r2), some (vI x3)] [] h n Q := by
  refine Rn_iconst dL_law_1463 rfl ?_
  exact Rn_zreturn rfl dL_law_1464 (by decide) k
theorem BL_law_1465 {d bc bs : Nat} {h : aH} {n : Nat} {Q : aQ} {r0 r2 : Option Nat} {ar1 : Nat} {x3 : Int} {f1 : List aV} (h2 : h ar1 = cO 12 f1) (k : Rn d 0 0 mX12_eldest 0 [some (vR (some ar1)), none, none] [] h n (fun v h1 n1 => Rn (d + 1) bc bs mL_law 1469 [some (vR r0), some (vR (some ar1)), some (vR r2), some (vI x3)] (v.toList ++ []) h1 n1 Q)) : Rn (d + 1) (bc) (bs) mL_law 1465 [some (vR r0), some (vR (some ar1)), some (vR r2), some (vI x3)] [] h n Q := by
  refine Rn_aload_n dL_law_1465 rfl rfl rfl ?_
  exact Rn_callV (ci := 12) (avs := []) (st := []) (bc1 := 0) (bs1 := 0) (bc2 := bc) (bs2 := bs) fx_X12_eldest dL_law_1466 wd_1028 wd_1029 wd_1030 rfl h2 rfl (Nat.le_of_ble_eq_true rfl) (Nat.le_of_ble_eq_true rfl) (by omega) (by omega) (ls1 := [some (vR (some ar1)), none, none]) rfl k
theorem BL_law_1469 {d bc bs : Nat} {h : aH} {n : Nat} {Q : aQ} {r0 r1 : Option Nat} {ar2 : Nat} {x3 s0 : Int} {f1 : List aV} (h2 : h ar2 = cO 13 f1) (k : Rn d 0 0 mX13_eldest 0 [some (vR (some ar2)), none, none] [] h n (fun v h1 n1 => Rn (d + 1) bc bs mL_law 1473 [some (vR r0), some (vR r1), some (vR (some ar2)), some (vI x3)] (v.toList ++ [vI s0]) h1 n1 Q)) : Rn (d + 1) (bc) (bs) mL_law 1469 [some (vR r0), some (vR r1), some (vR (some ar2)), some (vI x3)] [vI s0] h n Q := by
  refine Rn_aload_n dL_law_1469 rfl rfl rfl ?_
  exact Rn_callV (ci := 13) (avs := []) (st := [vI s0]) (bc1 := 0) (bs1 := 0) (bc2 := bc) (bs2 := bs) fx_X13_eldest dL_law_1470 wd_1846 wd_1847 wd_1848 rfl h2 rfl (Nat.le_of_ble_eq_true rfl) (Nat.le_of_ble_eq_true rfl) (by omega) (by omega) (ls1 := [some (vR (some ar2)), none, none]) rfl k
theorem BL_law_1473 {d bc bs : Nat} {h : aH} {n : Nat} {Q : aQ} {r0 r1 r2 : Option Nat} {x3 s0 s1 : Int} (kt : s0 = s1 → Rn d bc bs mL_law 1576 [some (vR r0), some (vR r1), some (vR r2), some (vI x3)] [] h n Q) (kf : s0 ≠ s1 → Rn d bc bs mL_law 1476 [some (vR r0), some (vR r1), some (vR r2), some (vI x3)] [] h n Q) : Rn d (bc) (bs) mL_law 1473 [some (vR r0), some (vR r1), some (vR r2), some (vI x3)] [vI s1, vI s0] h n Q := by
  refine Rn_icmpeq (tgt := 1576) dL_law_1473 rfl ?_ ?_
  · exact kt
  · exact kf
theorem BL_law_1476 {d bc bs : Nat} {h : aH} {n : Nat} {Q : aQ} {r0 r1 r2 : Option Nat} {x3 : Int} (k : Q (some (vI 0)) h n) : Rn d (bc) (bs) mL_law 1476 [some (vR r0), some (vR r1), some (vR r2), some (vI x3)] [] h n Q := by
  refine Rn_iconst dL_law_1476 rfl ?_
  exact Rn_zreturn rfl dL_law_1477 (by decide) k
theorem BL_law_1478 {d bc bs : Nat} {h : aH} {n : Nat} {Q : aQ} {r0 r2 : Option Nat} {ar1 : Nat} {x3 : Int} {f1 : List aV} (h2 : h ar1 = cO 12 f1) (k : Rn d 0 0 mX12_crowd 0 [some (vR (some ar1)), none, none, none, none] [] h n (fun v h1 n1 => Rn (d + 1) bc bs mL_law 1482 [some (vR r0), some (vR (some ar1)), some (vR r2), some (vI x3)] (v.toList ++ []) h1 n1 Q)) : Rn (d + 1) (bc) (bs) mL_law 1478 [some (vR r0), some (vR (some ar1)), some (vR r2), some (vI x3)] [] h n Q := by
  refine Rn_aload_n dL_law_1478 rfl rfl rfl ?_
  exact Rn_callV (ci := 12) (avs := []) (st := []) (bc1 := 0) (bs1 := 0) (bc2 := bc) (bs2 := bs) fx_X12_crowd dL_law_1479 wd_1032 wd_1033 wd_1034 rfl h2 rfl (Nat.le_of_ble_eq_true rfl) (Nat.le_of_ble_eq_true rfl) (by omega) (by omega) (ls1 := [some (vR (some ar1)), none, none, none, none]) rfl k
theorem BL_law_1482 {d bc bs : Nat} {h : aH} {n : Nat} {Q : aQ} {r0 r1 : Option Nat} {ar2 : Nat} {x3 s0 : Int} {f1 : List aV} (h2 : h ar2 = cO 13 f1) (k : Rn d 0 0 mX13_crowd 0 [some (vR (some ar2)), none, none] [] h n (fun v h1 n1 => Rn (d + 1) bc bs mL_law 1486 [some (vR r0), some (vR r1), some (vR (some ar2)), some (vI x3)] (v.toList ++ [vI s0]) h1 n1 Q)) : Rn (d + 1) (bc) (bs) mL_law 1482 [some (vR r0), some (vR r1), some (vR (some ar2)), some (vI x3)] [vI s0] h n Q := by
  refine Rn_aload_n dL_law_1482 rfl rfl rfl ?_
  exact Rn_callV (ci := 13) (avs := []) (st := [vI s0]) (bc1 := 0) (bs1 := 0) (bc2 := bc) (bs2 := bs) fx_X13_crowd dL_law_1483 wd_1850 wd_1851 wd_1852 rfl h2 rfl (Nat.le_of_ble_eq_true rfl) (Nat.le_of_ble_eq_true rfl) (by omega) (by omega) (ls1 := [some (vR (some ar2)), none, none]) rfl k
theorem BL_law_1486 {d bc bs : Nat} {h : aH} {n : Nat} {Q : aQ} {r0 r1 r2 : Option Nat} {x3 s0 s1 : Int} (kt : s0 = s1 → Rn d bc bs mL_law 1576 [some (vR r0), some (vR r1), some (vR r2), some (vI x3)] [] h n Q) (kf : s0 ≠ s1 → Rn d bc bs mL_law 1489 [some (vR r0), some (vR r1), some (vR r2), some (vI x3)] [] h n Q) : Rn d (bc) (bs) mL_law 1486 [some (vR r0), some (vR r1), some (vR r2), some (vI x3)] [vI s1, vI s0] h n Q := by
  refine Rn_icmpeq (tgt := 1576) dL_law_1486 rfl ?_ ?_
  · exact kt
  · exact kf
theorem BL_law_1489 {d bc bs : Nat} {h : aH} {n : Nat} {Q : aQ} {r0 r1 r2 : Option Nat} {x3 : Int} (k : Q (some (vI 0)) h n) : Rn d (bc) (bs) mL_law 1489 [some (vR r0), some (vR r1), some (vR r2), some (vI x3)] [] h n Q := by
  refine Rn_iconst dL_law_1489 rfl ?_
  exact Rn_zreturn rfl dL_law_1490 (by decide) k
theorem BL_law_1491 {d bc bs : Nat} {h : aH} {n : Nat} {Q : aQ} {r0 r2 : Option Nat} {ar1 : Nat} {x3 : Int} {f1 : List aV} (h2 : h ar1 = cO 12 f1) (k : Rn d 0 0 mX12_empty 0 [some (vR (some ar1)), none, none] [] h n (fun v h1 n1 => Rn (d + 1) bc bs mL_law 1495 [some (vR r0), some (vR (some ar1)), some (vR r2), some (vI x3)] (v.toList ++ []) h1 n1 Q)) : Rn (d + 1) (bc) (bs) mL_law 1491 [some (vR r0), some (vR (some ar1)), some (vR r2), some (vI x3)] [] h n Q := by
  refine Rn_aload_n dL_law_1491 rfl rfl rfl ?_
  exact Rn_callV (ci := 12) (avs := []) (st := []) (bc1 := 0) (bs1 := 0) (bc2 := bc) (bs2 := bs) fx_X12_empty dL_law_1492 wd_1037 wd_1038 wd_1039 rfl h2 rfl (Nat.le_of_ble_eq_true rfl) (Nat.le_of_ble_eq_true rfl) (by omega) (by omega) (ls1 := [some (vR (some ar1)), none, none]) rfl k
theorem BL_law_1495 {d bc bs : Nat} {h : aH} {n : Nat} {Q : aQ} {r0 r1 : Option Nat} {ar2 : Nat} {x3 s0 : Int} {f1 : List aV} (h2 : h ar2 = cO 13 f1) (k : Rn d 0 0 mX13_empty 0 [some (vR (some ar2)), none, none] [] h n (fun v h1 n1 => Rn (d + 1) bc bs mL_law 1499 [some (vR r0), some (vR r1), some (vR (some ar2)), some (vI x3)] (v.toList ++ [vI s0]) h1 n1 Q)) : Rn (d + 1) (bc) (bs) mL_law 1495 [some (vR r0), some (vR r1), some (vR (some ar2)), some (vI x3)] [vI s0] h n Q := by
  refine Rn_aload_n dL_law_1495 rfl rfl rfl ?_
  exact Rn_callV (ci := 13) (avs := []) (st := [vI s0]) (bc1 := 0) (bs1 := 0) (bc2 := bc) (bs2 := bs) fx_X13_empty dL_law_1496 wd_1854 wd_1855 wd_1856 rfl h2 rfl (Nat.le_of_ble_eq_true rfl) (Nat.le_of_ble_eq_true rfl) (by omega) (by omega) (ls1 := [some (vR (some ar2)), none, none]) rfl k
theorem BL_law_1499 {d bc bs : Nat} {h : aH} {n : Nat} {Q : aQ} {r0 r1 r2 : Option Nat} {x3 s0 s1 : Int} (kt : s0 = s1 → Rn d bc bs mL_law 1576 [some (vR r0), some (vR r1), some (vR r2), some (vI x3)] [] h n Q) (kf : s0 ≠ s1 → Rn d bc bs mL_law 1502 [some (vR r0), some (vR r1), some (vR r2), some (vI x3)] [] h n Q) : Rn d (bc) (bs) mL_law 1499 [some (vR r0), some (vR r1), some (vR r2), some (vI x3)] [vI s1, vI s0] h n Q := by
  refine Rn_icmpeq (tgt := 1576) dL_law_1499 rfl ?_ ?_
  · exact kt
  · exact kf
theorem BL_law_1502 {d bc bs : Nat} {h : aH} {n : Nat} {Q : aQ} {r0 r1 r2 : Option Nat} {x3 : Int} (k : Q (some (vI 0)) h n) : Rn d (bc) (bs) mL_law 1502 [some (vR r0), some (vR r1), some (vR r2), some (vI x3)] [] h n Q := by
  refine Rn_iconst dL_law_1502 rfl ?_
  exact Rn_zreturn rfl dL_law_1503 (by decide) k
theorem BL_law_1504 {d bc bs : Nat} {h : aH} {n : Nat} {Q : aQ} {ar0 ar1 : Nat} {r2 : Option Nat} {x3 v4 : Int} {w2 : List Int} {f7 : List aV} (b1 : -2147483648 ≤ x3 + 1 ∧ x3 + 1 < 2147483648) (h3 : h ar0 = cI w2) (i5 : 0 ≤ x3 + 1) (g6 : w2[(x3 + 1 : Int).toNat]? = some v4) (h8 : h ar1 = cO 12 f7) (k : Rn d 0 0 mX12_ledger 0 [some (vR (some ar1)), some (vI v4)] [] h n (fun v h1 n1 => Rn (d + 1) bc bs mL_law 1513 [some (vR (some ar0)), some (vR (some ar1)), some (vR r2), some (vI x3)] (v.toList ++ []) h1 n1 Q)) : Rn (d + 1) (bc) (bs) mL_law 1504 [some (vR (some ar0)), some (vR (some ar1)), some (vR r2), some (vI x3)] [] h n Q := by
  refine Rn_aload_n dL_law_1504 rfl rfl rfl ?_
  refine Rn_aload_n dL_law_1505 rfl rfl rfl ?_
  refine Rn_iload_n dL_law_1506 rfl rfl ?_
  refine Rn_iconst dL_law_1507 rfl ?_
  refine Rn_iadd dL_law_1508 ?_
  rw [w32_id b1.1 b1.2]
  refine Rn_iaload dL_law_1509 h3 i5 g6 ?_
  exact Rn_callV (ci := 12) (avs := [vI v4]) (st := []) (bc1 := 0) (bs1 := 0) (bc2 := bc) (bs2 := bs) fx_X12_ledger dL_law_1510 wd_1046 wd_1047 wd_1048 rfl h8 rfl (Nat.le_of_ble_eq_true rfl) (Nat.le_of_ble_eq_true rfl) (by omega) (by omega) (ls1 := [some (vR (some ar1)), some (vI v4)]) rfl k
theorem BL_law_1513 {d bc bs : Nat} {h : aH} {n : Nat} {Q : aQ} {ar0 ar2 : Nat} {r1 : Option Nat} {x3 s0 v4 : Int} {w2 : List Int} {f7 : List aV} (b1 : -2147483648 ≤ x3 + 1 ∧ x3 + 1 < 2147483648) (h3 : h ar0 = cI w2) (i5 : 0 ≤ x3 + 1) (g6 : w2[(x3 + 1 : Int).toNat]? = some v4) (h8 : h ar2 = cO 13 f7) (k : Rn d 0 0 mX13_ledger 0 [some (vR (some ar2)), some (vI v4), none, none] [] h n (fun v h1 n1 => Rn (d + 1) bc bs mL_law 1522 [some (vR (some ar0)), some (vR r1), some (vR (some ar2)), some (vI x3)] (v.toList ++ [vI s0]) h1 n1 Q)) : Rn (d + 1) (bc) (bs) mL_law 1513 [some (vR (some ar0)), some (vR r1), some (vR (some ar2)), some (vI x3)] [vI s0] h n Q := by
  refine Rn_aload_n dL_law_1513 rfl rfl rfl ?_
  refine Rn_aload_n dL_law_1514 rfl rfl rfl ?_
  refine Rn_iload_n dL_law_1515 rfl rfl ?_
  refine Rn_iconst dL_law_1516 rfl ?_
  refine Rn_iadd dL_law_1517 ?_
  rw [w32_id b1.1 b1.2]
  refine Rn_iaload dL_law_1518 h3 i5 g6 ?_
  exact Rn_callV (ci := 13) (avs := [vI v4]) (st := [vI s0]) (bc1 := 0) (bs1 := 0) (bc2 := bc) (bs2 := bs) fx_X13_ledger dL_law_1519 wd_1838 wd_1839 wd_1840 rfl h8 rfl (Nat.le_of_ble_eq_true rfl) (Nat.le_of_ble_eq_true rfl) (by omega) (by omega) (ls1 := [some (vR (some ar2)), some (vI v4), none, none]) rfl k
theorem BL_law_1522 {d bc bs : Nat} {h : aH} {n : Nat} {Q : aQ} {r0 r1 r2 : Option Nat} {x3 s0 s1 : Int} (kt : s0 = s1 → Rn d bc bs mL_law 1576 [some (vR r0), some (vR r1), some (vR r2), some (vI x3)] [] h n Q) (kf : s0 ≠ s1 → Rn d bc bs mL_law 1525 [some (vR r0), some (vR r1), some (vR r2), some (vI x3)] [] h n Q) : Rn d (bc) (bs) mL_law 1522 [some (vR r0), some (vR r1), some (vR r2), some (vI x3)] [vI s1, vI s0] h n Q := by
  refine Rn_icmpeq (tgt := 1576) dL_law_1522 rfl ?_ ?_
  · exact kt
  · exact kf
theorem BL_law_1525 {d bc bs : Nat} {h : aH} {n : Nat} {Q : aQ} {r0 r1 r2 : Option Nat} {x3 : Int} (k : Q (some (vI 0)) h n) : Rn d (bc) (bs) mL_law 1525 [some (vR r0), some (vR r1), some (vR r2), some (vI x3)] [] h n Q := by
  refine Rn_iconst dL_law_1525 rfl ?_
  exact Rn_zreturn rfl dL_law_1526 (by decide) k
theorem BL_law_1527 {d bc bs : Nat} {h : aH} {n : Nat} {Q : aQ} {r0 r2 : Option Nat} {ar1 : Nat} {x3 : Int} {f1 : List aV} (h2 : h ar1 = cO 12 f1) (k : Rn d 0 0 mX12_image 0 [some (vR (some ar1))] [] h n (fun v h1 n1 => Rn (d + 1) bc bs mL_law 1531 [some (vR r0), some (vR (some ar1)), some (vR r2), some (vI x3)] (v.toList ++ []) h1 n1 Q)) : Rn (d + 1) (bc) (bs) mL_law 1527 [some (vR r0), some (vR (some ar1)), some (vR r2), some (vI x3)] [] h n Q := by
  refine Rn_aload_n dL_law_1527 rfl rfl rfl ?_
  exact Rn_callV (ci := 12) (avs := []) (st := []) (bc1 := 0) (bs1 := 0) (bc2 := bc) (bs2 := bs) fx_X12_image dL_law_1528 wd_1316 wd_1317 wd_1318 rfl h2 rfl (Nat.le_of_ble_eq_true rfl) (Nat.le_of_ble_eq_true rfl) (by omega) (by omega) (ls1 := [some (vR (some ar1))]) rfl k
theorem BL_law_1531 {d bc bs : Nat} {h : aH} {n : Nat} {Q : aQ} {r0 r1 : Option Nat} {ar2 : Nat} {x3 s0 : Int} {f1 : List aV} (h2 : h ar2 = cO 13 f1) (k : Rn d 0 0 mX13_image 0 [some (vR (some ar2))] [] h n (fun v h1 n1 => Rn (d + 1) bc bs mL_law 1535 [some (vR r0), some (vR r1), some (vR (some ar2)), some (vI x3)] (v.toList ++ [vI s0]) h1 n1 Q)) : Rn (d + 1) (bc) (bs) mL_law 1531 [some (vR r0), some (vR r1), some (vR (some ar2)), some (vI x3)] [vI s0] h n Q := by
  refine Rn_aload_n dL_law_1531 rfl rfl rfl ?_
  exact Rn_callV (ci := 13) (avs := []) (st := [vI s0]) (bc1 := 0) (bs1 := 0) (bc2 := bc) (bs2 := bs) fx_X13_image dL_law_1532 wd_2027 wd_2028 wd_2029 rfl h2 rfl (Nat.le_of_ble_eq_true rfl) (Nat.le_of_ble_eq_true rfl) (by omega) (by omega) (ls1 := [some (vR (some ar2))]) rfl k
theorem BL_law_1535 {d bc bs : Nat} {h : aH} {n : Nat} {Q : aQ} {r0 r1 r2 : Option Nat} {x3 s0 s1 : Int} (kt : s0 = s1 → Rn d bc bs mL_law 1576 [some (vR r0), some (vR r1), some (vR r2), some (vI x3)] [] h n Q) (kf : s0 ≠ s1 → Rn d bc bs mL_law 1538 [some (vR r0), some (vR r1), some (vR r2), some (vI x3)] [] h n Q) : Rn d (bc) (bs) mL_law 1535 [some (vR r0), some (vR r1), some (vR r2), some (vI x3)] [vI s1, vI s0] h n Q := by
  refine Rn_icmpeq (tgt := 1576) dL_law_1535 rfl ?_ ?_
  · exact kt
  · exact kf
theorem BL_law_1538 {d bc bs : Nat} {h : aH} {n : Nat} {Q : aQ} {r0 r1 r2 : Option Nat} {x3 : Int} (k : Q (some (vI 0)) h n) : Rn d (bc) (bs) mL_law 1538 [some (vR r0), some (vR r1), some (vR r2), some (vI x3)] [] h n Q := by
  refine Rn_iconst dL_law_1538 rfl ?_
  exact Rn_zreturn rfl dL_law_1539 (by decide) k
theorem BL_law_1540 {d bc bs : Nat} {h : aH} {n : Nat} {Q : aQ} {r0 r2 : Option Nat} {ar1 : Nat} {x3 : Int} {f1 : List aV} (h2 : h ar1 = cO 12 f1) (k : Rn d 0 0 mX12_back 0 [some (vR (some ar1))] [] h n (fun v h1 n1 => Rn (d + 1) bc bs mL_law 1544 [some (vR r0), some (vR (some ar1)), some (vR r2), some (vI x3)] (v.toList ++ []) h1 n1 Q)) : Rn (d + 1) (bc) (bs) mL_law 1540 [some (vR r0), some (vR (some ar1)), some (vR r2), some (vI x3)] [] h n Q := by
  refine Rn_aload_n dL_law_1540 rfl rfl rfl ?_
  exact Rn_callV (ci := 12) (avs := []) (st := []) (bc1 := 0) (bs1 := 0) (bc2 := bc) (bs2 := bs) fx_X12_back dL_law_1541 wd_1339 wd_1340 wd_1341 rfl h2 rfl (Nat.le_of_ble_eq_true rfl) (Nat.le_of_ble_eq_true rfl) (by omega) (by omega) (ls1 := [some (vR (some ar1))]) rfl k
theorem BL_law_1544 {d bc bs : Nat} {h : aH} {n : Nat} {Q : aQ} {r0 r1 : Option Nat} {ar2 : Nat} {x3 s0 : Int} {f1 : List aV} (h2 : h ar2 = cO 13 f1) (k : Rn d 0 0 mX13_back 0 [some (vR (some ar2))] [] h n (fun v h1 n1 => Rn (d + 1) bc bs mL_law 1548 [some (vR r0), some (vR r1), some (vR (some ar2)), some (vI x3)] (v.toList ++ [vI s0]) h1 n1 Q)) : Rn (d + 1) (bc) (bs) mL_law 1544 [some (vR r0), some (vR r1), some (vR (some ar2)), some (vI x3)] [vI s0] h n Q := by
  refine Rn_aload_n dL_law_1544 rfl rfl rfl ?_
  exact Rn_callV (ci := 13) (avs := []) (st := [vI s0]) (bc1 := 0) (bs1 := 0) (bc2 := bc) (bs2 := bs) fx_X13_back dL_law_1545 wd_2031 wd_2032 wd_2033 rfl h2 rfl (Nat.le_of_ble_eq_true rfl) (Nat.le_of_ble_eq_true rfl) (by omega) (by omega) (ls1 := [some (vR (some ar2))]) rfl k
theorem BL_law_1548 {d bc bs : Nat} {h : aH} {n : Nat} {Q : aQ} {r0 r1 r2 : Option Nat} {x3 s0 s1 : Int} (kt : s0 = s1 → Rn d bc bs mL_law 1576 [some (vR r0), some (vR r1), some (vR r2), some (vI x3)] [] h n Q) (kf : s0 ≠ s1 → Rn d bc bs mL_law 1551 [some (vR r0), some (vR r1), some (vR r2), some (vI x3)] [] h n Q) : Rn d (bc) (bs) mL_law 1548 [some (vR r0), some (vR r1), some (vR r2), some (vI x3)] [vI s1, vI s0] h n Q := by
  refine Rn_icmpeq (tgt := 1576) dL_law_1548 rfl ?_ ?_
  · exact kt
  · exact kf
theorem BL_law_1551 {d bc bs : Nat} {h : aH} {n : Nat} {Q : aQ} {r0 r1 r2 : Option Nat} {x3 : Int} (k : Q (some (vI 0)) h n) : Rn d (bc) (bs) mL_law 1551 [some (vR r0), some (vR r1), some (vR r2), some (vI x3)] [] h n Q := by
  refine Rn_iconst dL_law_1551 rfl ?_
  exact Rn_zreturn rfl dL_law_1552 (by decide) k
theorem BL_law_1553 {d bc bs : Nat} {h : aH} {n : Nat} {Q : aQ} {ar0 ar1 : Nat} {r2 : Option Nat} {x3 v4 : Int} {w2 : List Int} {f7 : List aV} (b1 : -2147483648 ≤ x3 + 1 ∧ x3 + 1 < 2147483648) (h3 : h ar0 = cI w2) (i5 : 0 ≤ x3 + 1) (g6 : w2[(x3 + 1 : Int).toNat]? = some v4) (h8 : h ar1 = cO 12 f7) (k : Rn d 0 0 mX12_about 0 [some (vR (some ar1)), some (vI v4)] [] h n (fun v h1 n1 => Rn (d + 1) bc bs mL_law 1562 [some (vR (some ar0)), some (vR (some ar1)), some (vR r2), some (vI x3)] (v.toList ++ []) h1 n1 Q)) : Rn (d + 1) (bc) (bs) mL_law 1553 [some (vR (some ar0)), some (vR (some ar1)), some (vR r2), some (vI x3)] [] h n Q := by
  refine Rn_aload_n dL_law_1553 rfl rfl rfl ?_
  refine Rn_aload_n dL_law_1554 rfl rfl rfl ?_
  refine Rn_iload_n dL_law_1555 rfl rfl ?_
  refine Rn_iconst dL_law_1556 rfl ?_
  refine Rn_iadd dL_law_1557 ?_
  rw [w32_id b1.1 b1.2]
  refine Rn_iaload dL_law_1558 h3 i5 g6 ?_
  exact Rn_callV (ci := 12) (avs := [vI v4]) (st := []) (bc1 := 0) (bs1 := 0) (bc2 := bc) (bs2 := bs) fx_X12_about dL_law_1559 wd_1055 wd_1056 wd_1057 rfl h8 rfl (Nat.le_of_ble_eq_true rfl) (Nat.le_of_ble_eq_true rfl) (by omega) (by omega) (ls1 := [some (vR (some ar1)), some (vI v4)]) rfl k
theorem BL_law_1562 {d bc bs : Nat} {h : aH} {n : Nat} {Q : aQ} {ar0 ar2 : Nat} {r1 : Option Nat} {x3 s0 v4 : Int} {w2 : List Int} {f7 : List aV} (b1 : -2147483648 ≤ x3 + 1 ∧ x3 + 1 < 2147483648) (h3 : h ar0 = cI w2) (i5 : 0 ≤ x3 + 1) (g6 : w2[(x3 + 1 : Int).toNat]? = some v4) (h8 : h ar2 = cO 13 f7) (k : Rn d 0 0 mX13_about 0 [some (vR (some ar2)), some (vI v4)] [] h n (fun v h1 n1 => Rn (d + 1) bc bs mL_law 1571 [some (vR (some ar0)), some (vR r1), some (vR (some ar2)), some (vI x3)] (v.toList ++ [vI s0]) h1 n1 Q)) : Rn (d + 1) (bc) (bs) mL_law 1562 [some (vR (some ar0)), some (vR r1), some (vR (some ar2)), some (vI x3)] [vI s0] h n Q := by
  refine Rn_aload_n dL_law_1562 rfl rfl rfl ?_
  refine Rn_aload_n dL_law_1563 rfl rfl rfl ?_
  refine Rn_iload_n dL_law_1564 rfl rfl ?_
  refine Rn_iconst dL_law_1565 rfl ?_
  refine Rn_iadd dL_law_1566 ?_
  rw [w32_id b1.1 b1.2]
  refine Rn_iaload dL_law_1567 h3 i5 g6 ?_
  exact Rn_callV (ci := 13) (avs := [vI v4]) (st := [vI s0]) (bc1 := 0) (bs1 := 0) (bc2 := bc) (bs2 := bs) fx_X13_about dL_law_1568 wd_2035 wd_2036 wd_2037 rfl h8 rfl (Nat.le_of_ble_eq_true rfl) (Nat.le_of_ble_eq_true rfl) (by omega) (by omega) (ls1 := [some (vR (some ar2)), some (vI v4)]) rfl k
theorem BL_law_1571 {d bc bs : Nat} {h : aH} {n : Nat} {Q : aQ} {r0 r1 r2 : Option Nat} {x3 s0 s1 : Int} (kt : s0 = s1 → Rn d bc bs mL_law 1576 [some (vR r0), some (vR r1), some (vR r2), some (vI x3)] [] h n Q) (kf : s0 ≠ s1 → Rn d bc bs mL_law 1574 [some (vR r0), some (vR r1), some (vR r2), some (vI x3)] [] h n Q) : Rn d (bc) (bs) mL_law 1571 [some (vR r0), some (vR r1), some (vR r2), some (vI x3)] [vI s1, vI s0] h n Q := by
  refine Rn_icmpeq (tgt := 1576) dL_law_1571 rfl ?_ ?_
  · exact kt
  · exact kf
theorem BL_law_1574 {d bc bs : Nat} {h : aH} {n : Nat} {Q : aQ} {r0 r1 r2 : Option Nat} {x3 : Int} (k : Q (some (vI 0)) h n) : Rn d (bc) (bs) mL_law 1574 [some (vR r0), some (vR r1), some (vR r2), some (vI x3)] [] h n Q := by
  refine Rn_iconst dL_law_1574 rfl ?_
  exact Rn_zreturn rfl dL_law_1575 (by decide) k
theorem BL_law_1576 {d bc bs : Nat} {h : aH} {n : Nat} {Q : aQ} {r0 r1 r2 : Option Nat} {x3 : Int} (b1 : -2147483648 ≤ x3 + 6 ∧ x3 + 6 < 2147483648) (k : Rn d bc bs mL_law 18 [some (vR r0), some (vR r1), some (vR r2), some (vI (x3 + 6))] [] h n Q) : Rn d (bc) (bs) mL_law 1576 [some (vR r0), some (vR r1), some (vR r2), some (vI x3)] [] h n Q := by
  refine Rn_iinc dL_law_1576 rfl (Nat.le_of_ble_eq_true rfl) rfl rfl rfl ?_
  rw [w32_id b1.1 b1.2]
  refine Rn_goto (tgt := 18) dL_law_1579 rfl ?_
  exact k
theorem BL_law_1582 {d bc bs : Nat} {h : aH} {n : Nat} {Q : aQ} {r0 r1 r2 : Option Nat} {x3 : Int} (k : Q (some (vI 1)) h n) : Rn d (bc) (bs) mL_law 1582 [some (vR r0), some (vR r1), some (vR r2), some (vI x3)] [] h n Q := by
  refine Rn_iconst dL_law_1582 rfl ?_
  exact Rn_zreturn rfl dL_law_1583 (by decide) k
