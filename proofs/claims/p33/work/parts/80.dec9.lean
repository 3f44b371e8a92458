-- what the bytes of the law say
theorem d_Law_208 : decode code 208 = .ok (.iconst 1, 1) := by decide +kernel
theorem d_Law_209 : decode code 209 = .ok (.goto 4, 3) := by decide +kernel
theorem d_Law_212 : decode code 212 = .ok (.iconst 0, 1) := by decide +kernel
theorem d_Law_213 : decode code 213 = .ok (.if_icmp .ne 62, 3) := by decide +kernel
theorem d_Law_216 : decode code 216 = .ok (.iload 6, 2) := by decide +kernel
theorem d_Law_218 : decode code 218 = .ok (.bipush 8, 2) := by decide +kernel
theorem d_Law_220 : decode code 220 = .ok (.iand, 1) := by decide +kernel
theorem d_Law_221 : decode code 221 = .ok (.bipush 8, 2) := by decide +kernel
theorem d_Law_223 : decode code 223 = .ok (.if_icmp .ne 7, 3) := by decide +kernel
theorem d_Law_226 : decode code 226 = .ok (.iconst 1, 1) := by decide +kernel
theorem d_Law_227 : decode code 227 = .ok (.goto 4, 3) := by decide +kernel
theorem d_Law_230 : decode code 230 = .ok (.iconst 0, 1) := by decide +kernel
theorem d_Law_231 : decode code 231 = .ok (.iload 9, 2) := by decide +kernel
theorem d_Law_233 : decode code 233 = .ok (.ifCond .le 7, 3) := by decide +kernel
theorem d_Law_236 : decode code 236 = .ok (.iconst 1, 1) := by decide +kernel
theorem d_Law_237 : decode code 237 = .ok (.goto 4, 3) := by decide +kernel
theorem d_Law_240 : decode code 240 = .ok (.iconst 0, 1) := by decide +kernel
theorem d_Law_241 : decode code 241 = .ok (.if_icmp .ne 34, 3) := by decide +kernel
theorem d_Law_244 : decode code 244 = .ok (.iload 6, 2) := by decide +kernel
theorem d_Law_246 : decode code 246 = .ok (.ifCond .ne 7, 3) := by decide +kernel
theorem d_Law_249 : decode code 249 = .ok (.iconst 1, 1) := by decide +kernel
theorem d_Law_250 : decode code 250 = .ok (.goto 4, 3) := by decide +kernel
theorem d_Law_253 : decode code 253 = .ok (.iconst 0, 1) := by decide +kernel
theorem d_Law_254 : decode code 254 = .ok (.aload_n 1, 1) := by decide +kernel
theorem d_Law_255 : decode code 255 = .ok (.bipush 7, 2) := by decide +kernel
theorem d_Law_257 : decode code 257 = .ok (.invokevirtual 12, 3) := by decide +kernel
theorem d_Law_260 : decode code 260 = .ok (.iload 8, 2) := by decide +kernel
theorem d_Law_262 : decode code 262 = .ok (.iconst 1, 1) := by decide +kernel
theorem d_Law_263 : decode code 263 = .ok (.iadd, 1) := by decide +kernel
theorem d_Law_264 : decode code 264 = .ok (.if_icmp .ne 7, 3) := by decide +kernel
theorem d_Law_267 : decode code 267 = .ok (.iconst 1, 1) := by decide +kernel
theorem d_Law_268 : decode code 268 = .ok (.goto 4, 3) := by decide +kernel
theorem d_Law_271 : decode code 271 = .ok (.iconst 0, 1) := by decide +kernel
theorem d_Law_272 : decode code 272 = .ok (.if_icmp .eq 5, 3) := by decide +kernel
theorem d_Law_275 : decode code 275 = .ok (.iconst 0, 1) := by decide +kernel
theorem d_Law_276 : decode code 276 = .ok (.ireturn, 1) := by decide +kernel
theorem d_Law_277 : decode code 277 = .ok (.iload 10, 2) := by decide +kernel
theorem d_Law_279 : decode code 279 = .ok (.ifCond .ne 55, 3) := by decide +kernel
theorem d_Law_282 : decode code 282 = .ok (.iload_n 2, 1) := by decide +kernel
theorem d_Law_283 : decode code 283 = .ok (.iconst 3, 1) := by decide +kernel
theorem d_Law_284 : decode code 284 = .ok (.iand, 1) := by decide +kernel
theorem d_Law_285 : decode code 285 = .ok (.iconst 2, 1) := by decide +kernel
theorem d_Law_286 : decode code 286 = .ok (.if_icmp .ne 48, 3) := by decide +kernel
theorem d_Law_289 : decode code 289 = .ok (.aload_n 1, 1) := by decide +kernel
theorem d_Law_290 : decode code 290 = .ok (.invokestatic 89, 3) := by decide +kernel
theorem d_Law_293 : decode code 293 = .ok (.lstore 11, 2) := by decide +kernel
theorem d_Law_295 : decode code 295 = .ok (.aload_n 1, 1) := by decide +kernel
theorem d_Law_296 : decode code 296 = .ok (.invokevirtual 105, 3) := by decide +kernel
theorem d_Law_299 : decode code 299 = .ok (.ifCond .lt 33, 3) := by decide +kernel
theorem d_Law_302 : decode code 302 = .ok (.aload_n 1, 1) := by decide +kernel
theorem d_Law_303 : decode code 303 = .ok (.invokestatic 89, 3) := by decide +kernel
theorem d_Law_306 : decode code 306 = .ok (.lload 4, 2) := by decide +kernel
theorem d_Law_308 : decode code 308 = .ok (.lcmp, 1) := by decide +kernel
theorem d_Law_309 : decode code 309 = .ok (.ifCond .ne 23, 3) := by decide +kernel
theorem d_Law_312 : decode code 312 = .ok (.aload_n 1, 1) := by decide +kernel
theorem d_Law_313 : decode code 313 = .ok (.iload_n 3, 1) := by decide +kernel
theorem d_Law_314 : decode code 314 = .ok (.invokestatic 96, 3) := by decide +kernel
theorem d_Law_317 : decode code 317 = .ok (.iload 9, 2) := by decide +kernel
theorem d_Law_319 : decode code 319 = .ok (.if_icmp .ne 13, 3) := by decide +kernel
theorem d_Law_322 : decode code 322 = .ok (.aload_n 1, 1) := by decide +kernel
theorem d_Law_323 : decode code 323 = .ok (.invokestatic 89, 3) := by decide +kernel
theorem d_Law_326 : decode code 326 = .ok (.lload 11, 2) := by decide +kernel
theorem d_Law_328 : decode code 328 = .ok (.lcmp, 1) := by decide +kernel
theorem d_Law_329 : decode code 329 = .ok (.ifCond .eq 5, 3) := by decide +kernel
theorem d_Law_332 : decode code 332 = .ok (.iconst 0, 1) := by decide +kernel
theorem d_Law_333 : decode code 333 = .ok (.ireturn, 1) := by decide +kernel
theorem d_Law_334 : decode code 334 = .ok (.iinc 2 1, 3) := by decide +kernel
theorem d_Law_337 : decode code 337 = .ok (.goto (-327), 3) := by decide +kernel
theorem d_Law_340 : decode code 340 = .ok (.aload_n 1, 1) := by decide +kernel
theorem d_Law_341 : decode code 341 = .ok (.invokestatic 89, 3) := by decide +kernel
theorem d_Law_344 : decode code 344 = .ok (.lstore_n 2, 1) := by decide +kernel
theorem d_Law_345 : decode code 345 = .ok (.aload_n 1, 1) := by decide +kernel
theorem d_Law_346 : decode code 346 = .ok (.iconst 2, 1) := by decide +kernel
theorem d_Law_347 : decode code 347 = .ok (.invokevirtual 12, 3) := by decide +kernel
theorem d_Law_350 : decode code 350 = .ok (.istore 4, 2) := by decide +kernel
theorem d_Law_352 : decode code 352 = .ok (.aload_n 1, 1) := by decide +kernel
theorem d_Law_353 : decode code 353 = .ok (.iconst 3, 1) := by decide +kernel
theorem d_Law_354 : decode code 354 = .ok (.invokevirtual 12, 3) := by decide +kernel
theorem d_Law_357 : decode code 357 = .ok (.istore 5, 2) := by decide +kernel
theorem d_Law_359 : decode code 359 = .ok (.aload_n 1, 1) := by decide +kernel
theorem d_Law_360 : decode code 360 = .ok (.iconst 0, 1) := by decide +kernel
theorem d_Law_361 : decode code 361 = .ok (.sipush 1000, 3) := by decide +kernel
theorem d_Law_364 : decode code 364 = .ok (.iconst 0, 1) := by decide +kernel
theorem d_Law_365 : decode code 365 = .ok (.iconst 0, 1) := by decide +kernel
theorem d_Law_366 : decode code 366 = .ok (.invokevirtual 46, 3) := by decide +kernel
theorem d_Law_369 : decode code 369 = .ok (.ldc 109, 2) := by decide +kernel
theorem d_Law_371 : decode code 371 = .ok (.if_icmp .ne 92, 3) := by decide +kernel
theorem d_Law_374 : decode code 374 = .ok (.aload_n 1, 1) := by decide +kernel
theorem d_Law_375 : decode code 375 = .ok (.iconst 0, 1) := by decide +kernel
theorem d_Law_376 : decode code 376 = .ok (.sipush 500, 3) := by decide +kernel
theorem d_Law_379 : decode code 379 = .ok (.iconst 1, 1) := by decide +kernel
theorem d_Law_380 : decode code 380 = .ok (.iconst 0, 1) := by decide +kernel
theorem d_Law_381 : decode code 381 = .ok (.invokevirtual 46, 3) := by decide +kernel
theorem d_Law_384 : decode code 384 = .ok (.ldc 109, 2) := by decide +kernel
theorem d_Law_386 : decode code 386 = .ok (.if_icmp .ne 77, 3) := by decide +kernel
theorem d_Law_389 : decode code 389 = .ok (.aload_n 1, 1) := by decide +kernel
theorem d_Law_390 : decode code 390 = .ok (.bipush 51, 2) := by decide +kernel
theorem d_Law_392 : decode code 392 = .ok (.invokevirtual 69, 3) := by decide +kernel
theorem d_Law_395 : decode code 395 = .ok (.ldc 109, 2) := by decide +kernel
theorem d_Law_397 : decode code 397 = .ok (.if_icmp .ne 66, 3) := by decide +kernel
theorem d_Law_400 : decode code 400 = .ok (.aload_n 1, 1) := by decide +kernel
theorem d_Law_401 : decode code 401 = .ok (.sipush 1001, 3) := by decide +kernel
theorem d_Law_404 : decode code 404 = .ok (.iconst 0, 1) := by decide +kernel
theorem d_Law_405 : decode code 405 = .ok (.invokevirtual 72, 3) := by decide +kernel
theorem d_Law_408 : decode code 408 = .ok (.ldc 109, 2) := by decide +kernel
theorem d_Law_410 : decode code 410 = .ok (.if_icmp .ne 53, 3) := by decide +kernel
theorem d_Law_413 : decode code 413 = .ok (.aload_n 1, 1) := by decide +kernel
theorem d_Law_414 : decode code 414 = .ok (.iconst 0, 1) := by decide +kernel
theorem d_Law_415 : decode code 415 = .ok (.iload 4, 2) := by decide +kernel
theorem d_Law_417 : decode code 417 = .ok (.iconst 5, 1) := by decide +kernel
theorem d_Law_418 : decode code 418 = .ok (.invokevirtual 75, 3) := by decide +kernel
theorem d_Law_421 : decode code 421 = .ok (.ldc 110, 2) := by decide +kernel
theorem d_Law_423 : decode code 423 = .ok (.if_icmp .ne 40, 3) := by decide +kernel
theorem d_Law_426 : decode code 426 = .ok (.aload_n 1, 1) := by decide +kernel
theorem d_Law_427 : decode code 427 = .ok (.iconst 1, 1) := by decide +kernel
theorem d_Law_428 : decode code 428 = .ok (.iconst 0, 1) := by decide +kernel
theorem d_Law_429 : decode code 429 = .ok (.iconst 1, 1) := by decide +kernel
theorem d_Law_430 : decode code 430 = .ok (.iconst 1, 1) := by decide +kernel
theorem d_Law_431 : decode code 431 = .ok (.invokevirtual 111, 3) := by decide +kernel
theorem d_Law_434 : decode code 434 = .ok (.ldc 109, 2) := by decide +kernel
theorem d_Law_436 : decode code 436 = .ok (.if_icmp .ne 27, 3) := by decide +kernel
theorem d_Law_439 : decode code 439 = .ok (.aload_n 1, 1) := by decide +kernel
theorem d_Law_440 : decode code 440 = .ok (.iconst 0, 1) := by decide +kernel
theorem d_Law_441 : decode code 441 = .ok (.bipush 7, 2) := by decide +kernel
theorem d_Law_443 : decode code 443 = .ok (.iconst 0, 1) := by decide +kernel
theorem d_Law_444 : decode code 444 = .ok (.iconst 0, 1) := by decide +kernel
theorem d_Law_445 : decode code 445 = .ok (.iconst 0, 1) := by decide +kernel
theorem d_Law_446 : decode code 446 = .ok (.invokevirtual 59, 3) := by decide +kernel
theorem d_Law_449 : decode code 449 = .ok (.ldc 109, 2) := by decide +kernel
theorem d_Law_451 : decode code 451 = .ok (.if_icmp .ne 12, 3) := by decide +kernel
theorem d_Law_454 : decode code 454 = .ok (.aload_n 1, 1) := by decide +kernel
theorem d_Law_455 : decode code 455 = .ok (.invokestatic 89, 3) := by decide +kernel
theorem d_Law_458 : decode code 458 = .ok (.lload_n 2, 1) := by decide +kernel
theorem d_Law_459 : decode code 459 = .ok (.lcmp, 1) := by decide +kernel
theorem d_Law_460 : decode code 460 = .ok (.ifCond .eq 5, 3) := by decide +kernel
theorem d_Law_463 : decode code 463 = .ok (.iconst 0, 1) := by decide +kernel
theorem d_Law_464 : decode code 464 = .ok (.ireturn, 1) := by decide +kernel
theorem d_Law_465 : decode code 465 = .ok (.aload_n 1, 1) := by decide +kernel
theorem d_Law_466 : decode code 466 = .ok (.iload 4, 2) := by decide +kernel
theorem d_Law_468 : decode code 468 = .ok (.iload 5, 2) := by decide +kernel
theorem d_Law_470 : decode code 470 = .ok (.iconst 0, 1) := by decide +kernel
theorem d_Law_471 : decode code 471 = .ok (.invokevirtual 114, 3) := by decide +kernel
theorem d_Law_474 : decode code 474 = .ok (.istore 6, 2) := by decide +kernel
theorem d_Law_476 : decode code 476 = .ok (.iload 6, 2) := by decide +kernel
theorem d_Law_478 : decode code 478 = .ok (.ifCond .lt 72, 3) := by decide +kernel
theorem d_Law_481 : decode code 481 = .ok (.iload 6, 2) := by decide +kernel
theorem d_Law_483 : decode code 483 = .ok (.sipush 9999, 3) := by decide +kernel
theorem d_Law_486 : decode code 486 = .ok (.if_icmp .gt 64, 3) := by decide +kernel
theorem d_Law_489 : decode code 489 = .ok (.aload_n 1, 1) := by decide +kernel
theorem d_Law_490 : decode code 490 = .ok (.iconst 0, 1) := by decide +kernel
theorem d_Law_491 : decode code 491 = .ok (.iconst 0, 1) := by decide +kernel
theorem d_Law_492 : decode code 492 = .ok (.iconst 0, 1) := by decide +kernel
theorem d_Law_493 : decode code 493 = .ok (.invokevirtual 117, 3) := by decide +kernel
theorem d_Law_496 : decode code 496 = .ok (.ifCond .lt 54, 3) := by decide +kernel
theorem d_Law_499 : decode code 499 = .ok (.aload_n 1, 1) := by decide +kernel
theorem d_Law_500 : decode code 500 = .ok (.iconst 0, 1) := by decide +kernel
theorem d_Law_501 : decode code 501 = .ok (.sipush 500, 3) := by decide +kernel
theorem d_Law_504 : decode code 504 = .ok (.iconst 0, 1) := by decide +kernel
theorem d_Law_505 : decode code 505 = .ok (.bipush 100, 2) := by decide +kernel
theorem d_Law_507 : decode code 507 = .ok (.invokevirtual 111, 3) := by decide +kernel
theorem d_Law_510 : decode code 510 = .ok (.iconst 1, 1) := by decide +kernel
theorem d_Law_511 : decode code 511 = .ok (.if_icmp .gt 39, 3) := by decide +kernel
theorem d_Law_514 : decode code 514 = .ok (.aload_n 1, 1) := by decide +kernel
theorem d_Law_515 : decode code 515 = .ok (.invokestatic 89, 3) := by decide +kernel
theorem d_Law_518 : decode code 518 = .ok (.lload_n 2, 1) := by decide +kernel
theorem d_Law_519 : decode code 519 = .ok (.lcmp, 1) := by decide +kernel
theorem d_Law_520 : decode code 520 = .ok (.ifCond .ne 30, 3) := by decide +kernel
theorem d_Law_523 : decode code 523 = .ok (.aload_n 1, 1) := by decide +kernel
theorem d_Law_524 : decode code 524 = .ok (.bipush 12, 2) := by decide +kernel
theorem d_Law_526 : decode code 526 = .ok (.invokevirtual 12, 3) := by decide +kernel
theorem d_Law_529 : decode code 529 = .ok (.ldc 109, 2) := by decide +kernel
theorem d_Law_531 : decode code 531 = .ok (.if_icmp .ne 19, 3) := by decide +kernel
theorem d_Law_534 : decode code 534 = .ok (.aload_n 1, 1) := by decide +kernel
theorem d_Law_535 : decode code 535 = .ok (.sipush 256, 3) := by decide +kernel
theorem d_Law_538 : decode code 538 = .ok (.invokevirtual 120, 3) := by decide +kernel
theorem d_Law_541 : decode code 541 = .ok (.ldc 109, 2) := by decide +kernel
theorem d_Law_543 : decode code 543 = .ok (.if_icmp .ne 7, 3) := by decide +kernel
theorem d_Law_546 : decode code 546 = .ok (.iconst 1, 1) := by decide +kernel
theorem d_Law_547 : decode code 547 = .ok (.goto 4, 3) := by decide +kernel
theorem d_Law_550 : decode code 550 = .ok (.iconst 0, 1) := by decide +kernel
theorem d_Law_551 : decode code 551 = .ok (.ireturn, 1) := by decide +kernel
