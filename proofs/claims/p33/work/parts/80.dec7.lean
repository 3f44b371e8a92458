-- what the bytes of the law say
theorem d_Law_act_198 : decode method_5_code 198 = .ok (.sipush 3000, 3) := by decide +kernel
theorem d_Law_act_201 : decode method_5_code 201 = .ok (.invokestatic 41, 3) := by decide +kernel
theorem d_Law_act_204 : decode method_5_code 204 = .ok (.iadd, 1) := by decide +kernel
theorem d_Law_act_205 : decode method_5_code 205 = .ok (.invokevirtual 56, 3) := by decide +kernel
theorem d_Law_act_208 : decode method_5_code 208 = .ok (.ireturn, 1) := by decide +kernel
theorem d_Law_act_209 : decode method_5_code 209 = .ok (.aload_n 0, 1) := by decide +kernel
theorem d_Law_act_210 : decode method_5_code 210 = .ok (.iload_n 2, 1) := by decide +kernel
theorem d_Law_act_211 : decode method_5_code 211 = .ok (.iconst 3, 1) := by decide +kernel
theorem d_Law_act_212 : decode method_5_code 212 = .ok (.invokestatic 41, 3) := by decide +kernel
theorem d_Law_act_215 : decode method_5_code 215 = .ok (.iload_n 3, 1) := by decide +kernel
theorem d_Law_act_216 : decode method_5_code 216 = .ok (.iload 4, 2) := by decide +kernel
theorem d_Law_act_218 : decode method_5_code 218 = .ok (.iload_n 1, 1) := by decide +kernel
theorem d_Law_act_219 : decode method_5_code 219 = .ok (.iconst 5, 1) := by decide +kernel
theorem d_Law_act_220 : decode method_5_code 220 = .ok (.ishr, 1) := by decide +kernel
theorem d_Law_act_221 : decode method_5_code 221 = .ok (.iconst 3, 1) := by decide +kernel
theorem d_Law_act_222 : decode method_5_code 222 = .ok (.invokestatic 41, 3) := by decide +kernel
theorem d_Law_act_225 : decode method_5_code 225 = .ok (.iload_n 1, 1) := by decide +kernel
theorem d_Law_act_226 : decode method_5_code 226 = .ok (.iconst 3, 1) := by decide +kernel
theorem d_Law_act_227 : decode method_5_code 227 = .ok (.ishr, 1) := by decide +kernel
theorem d_Law_act_228 : decode method_5_code 228 = .ok (.sipush 500, 3) := by decide +kernel
theorem d_Law_act_231 : decode method_5_code 231 = .ok (.invokestatic 41, 3) := by decide +kernel
theorem d_Law_act_234 : decode method_5_code 234 = .ok (.invokevirtual 59, 3) := by decide +kernel
theorem d_Law_act_237 : decode method_5_code 237 = .ok (.ireturn, 1) := by decide +kernel
theorem d_Law_act_238 : decode method_5_code 238 = .ok (.aload_n 0, 1) := by decide +kernel
theorem d_Law_act_239 : decode method_5_code 239 = .ok (.iload_n 2, 1) := by decide +kernel
theorem d_Law_act_240 : decode method_5_code 240 = .ok (.iconst 3, 1) := by decide +kernel
theorem d_Law_act_241 : decode method_5_code 241 = .ok (.invokestatic 41, 3) := by decide +kernel
theorem d_Law_act_244 : decode method_5_code 244 = .ok (.iload_n 1, 1) := by decide +kernel
theorem d_Law_act_245 : decode method_5_code 245 = .ok (.bipush 6, 2) := by decide +kernel
theorem d_Law_act_247 : decode method_5_code 247 = .ok (.ishr, 1) := by decide +kernel
theorem d_Law_act_248 : decode method_5_code 248 = .ok (.iconst 3, 1) := by decide +kernel
theorem d_Law_act_249 : decode method_5_code 249 = .ok (.invokestatic 41, 3) := by decide +kernel
theorem d_Law_act_252 : decode method_5_code 252 = .ok (.iload_n 1, 1) := by decide +kernel
theorem d_Law_act_253 : decode method_5_code 253 = .ok (.iconst 3, 1) := by decide +kernel
theorem d_Law_act_254 : decode method_5_code 254 = .ok (.ishr, 1) := by decide +kernel
theorem d_Law_act_255 : decode method_5_code 255 = .ok (.sipush 300, 3) := by decide +kernel
theorem d_Law_act_258 : decode method_5_code 258 = .ok (.invokestatic 41, 3) := by decide +kernel
theorem d_Law_act_261 : decode method_5_code 261 = .ok (.invokevirtual 63, 3) := by decide +kernel
theorem d_Law_act_264 : decode method_5_code 264 = .ok (.ireturn, 1) := by decide +kernel
theorem d_Law_act_265 : decode method_5_code 265 = .ok (.aload_n 0, 1) := by decide +kernel
theorem d_Law_act_266 : decode method_5_code 266 = .ok (.iload_n 2, 1) := by decide +kernel
theorem d_Law_act_267 : decode method_5_code 267 = .ok (.iconst 3, 1) := by decide +kernel
theorem d_Law_act_268 : decode method_5_code 268 = .ok (.invokestatic 41, 3) := by decide +kernel
theorem d_Law_act_271 : decode method_5_code 271 = .ok (.iload_n 3, 1) := by decide +kernel
theorem d_Law_act_272 : decode method_5_code 272 = .ok (.iload 4, 2) := by decide +kernel
theorem d_Law_act_274 : decode method_5_code 274 = .ok (.iload_n 1, 1) := by decide +kernel
theorem d_Law_act_275 : decode method_5_code 275 = .ok (.bipush 9, 2) := by decide +kernel
theorem d_Law_act_277 : decode method_5_code 277 = .ok (.ishr, 1) := by decide +kernel
theorem d_Law_act_278 : decode method_5_code 278 = .ok (.iconst 1, 1) := by decide +kernel
theorem d_Law_act_279 : decode method_5_code 279 = .ok (.iand, 1) := by decide +kernel
theorem d_Law_act_280 : decode method_5_code 280 = .ok (.invokevirtual 66, 3) := by decide +kernel
theorem d_Law_act_283 : decode method_5_code 283 = .ok (.ireturn, 1) := by decide +kernel
theorem d_Law_act_284 : decode method_5_code 284 = .ok (.aload_n 0, 1) := by decide +kernel
theorem d_Law_act_285 : decode method_5_code 285 = .ok (.iload_n 2, 1) := by decide +kernel
theorem d_Law_act_286 : decode method_5_code 286 = .ok (.bipush 40, 2) := by decide +kernel
theorem d_Law_act_288 : decode method_5_code 288 = .ok (.invokestatic 41, 3) := by decide +kernel
theorem d_Law_act_291 : decode method_5_code 291 = .ok (.invokevirtual 69, 3) := by decide +kernel
theorem d_Law_act_294 : decode method_5_code 294 = .ok (.ireturn, 1) := by decide +kernel
theorem d_Law_act_295 : decode method_5_code 295 = .ok (.aload_n 0, 1) := by decide +kernel
theorem d_Law_act_296 : decode method_5_code 296 = .ok (.iload_n 1, 1) := by decide +kernel
theorem d_Law_act_297 : decode method_5_code 297 = .ok (.iconst 3, 1) := by decide +kernel
theorem d_Law_act_298 : decode method_5_code 298 = .ok (.ishr, 1) := by decide +kernel
theorem d_Law_act_299 : decode method_5_code 299 = .ok (.sipush 1001, 3) := by decide +kernel
theorem d_Law_act_302 : decode method_5_code 302 = .ok (.invokestatic 41, 3) := by decide +kernel
theorem d_Law_act_305 : decode method_5_code 305 = .ok (.iload_n 1, 1) := by decide +kernel
theorem d_Law_act_306 : decode method_5_code 306 = .ok (.bipush 7, 2) := by decide +kernel
theorem d_Law_act_308 : decode method_5_code 308 = .ok (.imul, 1) := by decide +kernel
theorem d_Law_act_309 : decode method_5_code 309 = .ok (.iconst 4, 1) := by decide +kernel
theorem d_Law_act_310 : decode method_5_code 310 = .ok (.ishr, 1) := by decide +kernel
theorem d_Law_act_311 : decode method_5_code 311 = .ok (.sipush 1001, 3) := by decide +kernel
theorem d_Law_act_314 : decode method_5_code 314 = .ok (.invokestatic 41, 3) := by decide +kernel
theorem d_Law_act_317 : decode method_5_code 317 = .ok (.invokevirtual 72, 3) := by decide +kernel
theorem d_Law_act_320 : decode method_5_code 320 = .ok (.ireturn, 1) := by decide +kernel
theorem d_Law_act_321 : decode method_5_code 321 = .ok (.aload_n 0, 1) := by decide +kernel
theorem d_Law_act_322 : decode method_5_code 322 = .ok (.iload_n 2, 1) := by decide +kernel
theorem d_Law_act_323 : decode method_5_code 323 = .ok (.iconst 2, 1) := by decide +kernel
theorem d_Law_act_324 : decode method_5_code 324 = .ok (.invokestatic 41, 3) := by decide +kernel
theorem d_Law_act_327 : decode method_5_code 327 = .ok (.iload_n 1, 1) := by decide +kernel
theorem d_Law_act_328 : decode method_5_code 328 = .ok (.iconst 3, 1) := by decide +kernel
theorem d_Law_act_329 : decode method_5_code 329 = .ok (.ishr, 1) := by decide +kernel
theorem d_Law_act_330 : decode method_5_code 330 = .ok (.sipush 1001, 3) := by decide +kernel
theorem d_Law_act_333 : decode method_5_code 333 = .ok (.invokestatic 41, 3) := by decide +kernel
theorem d_Law_act_336 : decode method_5_code 336 = .ok (.bipush 20, 2) := by decide +kernel
theorem d_Law_act_338 : decode method_5_code 338 = .ok (.iload_n 1, 1) := by decide +kernel
theorem d_Law_act_339 : decode method_5_code 339 = .ok (.iconst 5, 1) := by decide +kernel
theorem d_Law_act_340 : decode method_5_code 340 = .ok (.ishr, 1) := by decide +kernel
theorem d_Law_act_341 : decode method_5_code 341 = .ok (.sipush 300, 3) := by decide +kernel
theorem d_Law_act_344 : decode method_5_code 344 = .ok (.invokestatic 41, 3) := by decide +kernel
theorem d_Law_act_347 : decode method_5_code 347 = .ok (.iadd, 1) := by decide +kernel
theorem d_Law_act_348 : decode method_5_code 348 = .ok (.invokevirtual 75, 3) := by decide +kernel
theorem d_Law_act_351 : decode method_5_code 351 = .ok (.ireturn, 1) := by decide +kernel
theorem d_Law_act_352 : decode method_5_code 352 = .ok (.aload_n 0, 1) := by decide +kernel
theorem d_Law_act_353 : decode method_5_code 353 = .ok (.iload_n 2, 1) := by decide +kernel
theorem d_Law_act_354 : decode method_5_code 354 = .ok (.iconst 3, 1) := by decide +kernel
theorem d_Law_act_355 : decode method_5_code 355 = .ok (.invokestatic 41, 3) := by decide +kernel
theorem d_Law_act_358 : decode method_5_code 358 = .ok (.invokevirtual 78, 3) := by decide +kernel
theorem d_Law_act_361 : decode method_5_code 361 = .ok (.ireturn, 1) := by decide +kernel
theorem d_Law_act_362 : decode method_5_code 362 = .ok (.aload_n 0, 1) := by decide +kernel
theorem d_Law_act_363 : decode method_5_code 363 = .ok (.iload_n 2, 1) := by decide +kernel
theorem d_Law_act_364 : decode method_5_code 364 = .ok (.iconst 3, 1) := by decide +kernel
theorem d_Law_act_365 : decode method_5_code 365 = .ok (.invokestatic 41, 3) := by decide +kernel
theorem d_Law_act_368 : decode method_5_code 368 = .ok (.invokevirtual 81, 3) := by decide +kernel
theorem d_Law_act_371 : decode method_5_code 371 = .ok (.ireturn, 1) := by decide +kernel
theorem d_Law_act_372 : decode method_5_code 372 = .ok (.aload_n 0, 1) := by decide +kernel
theorem d_Law_act_373 : decode method_5_code 373 = .ok (.iload_n 2, 1) := by decide +kernel
theorem d_Law_act_374 : decode method_5_code 374 = .ok (.iconst 3, 1) := by decide +kernel
theorem d_Law_act_375 : decode method_5_code 375 = .ok (.invokestatic 41, 3) := by decide +kernel
theorem d_Law_act_378 : decode method_5_code 378 = .ok (.iconst 0, 1) := by decide +kernel
theorem d_Law_act_379 : decode method_5_code 379 = .ok (.iconst 0, 1) := by decide +kernel
theorem d_Law_act_380 : decode method_5_code 380 = .ok (.iload_n 1, 1) := by decide +kernel
theorem d_Law_act_381 : decode method_5_code 381 = .ok (.iconst 5, 1) := by decide +kernel
theorem d_Law_act_382 : decode method_5_code 382 = .ok (.ishr, 1) := by decide +kernel
theorem d_Law_act_383 : decode method_5_code 383 = .ok (.iconst 3, 1) := by decide +kernel
theorem d_Law_act_384 : decode method_5_code 384 = .ok (.invokestatic 41, 3) := by decide +kernel
theorem d_Law_act_387 : decode method_5_code 387 = .ok (.iload_n 1, 1) := by decide +kernel
theorem d_Law_act_388 : decode method_5_code 388 = .ok (.iconst 4, 1) := by decide +kernel
theorem d_Law_act_389 : decode method_5_code 389 = .ok (.ishr, 1) := by decide +kernel
theorem d_Law_act_390 : decode method_5_code 390 = .ok (.sipush 300, 3) := by decide +kernel
theorem d_Law_act_393 : decode method_5_code 393 = .ok (.invokestatic 41, 3) := by decide +kernel
theorem d_Law_act_396 : decode method_5_code 396 = .ok (.invokevirtual 59, 3) := by decide +kernel
theorem d_Law_act_399 : decode method_5_code 399 = .ok (.ireturn, 1) := by decide +kernel
theorem d_Law_isRight_0 : decode method_6_code 0 = .ok (.iconst 0, 1) := by decide +kernel
theorem d_Law_isRight_1 : decode method_6_code 1 = .ok (.istore_n 1, 1) := by decide +kernel
theorem d_Law_isRight_2 : decode method_6_code 2 = .ok (.aload_n 0, 1) := by decide +kernel
theorem d_Law_isRight_3 : decode method_6_code 3 = .ok (.iconst 0, 1) := by decide +kernel
theorem d_Law_isRight_4 : decode method_6_code 4 = .ok (.iconst 0, 1) := by decide +kernel
theorem d_Law_isRight_5 : decode method_6_code 5 = .ok (.invokevirtual 18, 3) := by decide +kernel
theorem d_Law_isRight_8 : decode method_6_code 8 = .ok (.iconst 1, 1) := by decide +kernel
theorem d_Law_isRight_9 : decode method_6_code 9 = .ok (.iadd, 1) := by decide +kernel
theorem d_Law_isRight_10 : decode method_6_code 10 = .ok (.istore_n 2, 1) := by decide +kernel
theorem d_Law_isRight_11 : decode method_6_code 11 = .ok (.aload_n 0, 1) := by decide +kernel
theorem d_Law_isRight_12 : decode method_6_code 12 = .ok (.iconst 1, 1) := by decide +kernel
theorem d_Law_isRight_13 : decode method_6_code 13 = .ok (.iconst 0, 1) := by decide +kernel
theorem d_Law_isRight_14 : decode method_6_code 14 = .ok (.invokevirtual 18, 3) := by decide +kernel
theorem d_Law_isRight_17 : decode method_6_code 17 = .ok (.iconst 1, 1) := by decide +kernel
theorem d_Law_isRight_18 : decode method_6_code 18 = .ok (.iadd, 1) := by decide +kernel
theorem d_Law_isRight_19 : decode method_6_code 19 = .ok (.istore_n 3, 1) := by decide +kernel
theorem d_Law_isRight_20 : decode method_6_code 20 = .ok (.iconst 0, 1) := by decide +kernel
theorem d_Law_isRight_21 : decode method_6_code 21 = .ok (.istore 4, 2) := by decide +kernel
theorem d_Law_isRight_23 : decode method_6_code 23 = .ok (.iconst 0, 1) := by decide +kernel
theorem d_Law_isRight_24 : decode method_6_code 24 = .ok (.istore 5, 2) := by decide +kernel
theorem d_Law_isRight_26 : decode method_6_code 26 = .ok (.iload 5, 2) := by decide +kernel
theorem d_Law_isRight_28 : decode method_6_code 28 = .ok (.iload_n 2, 1) := by decide +kernel
theorem d_Law_isRight_29 : decode method_6_code 29 = .ok (.if_icmp .ge 78, 3) := by decide +kernel
theorem d_Law_isRight_32 : decode method_6_code 32 = .ok (.iconst 0, 1) := by decide +kernel
theorem d_Law_isRight_33 : decode method_6_code 33 = .ok (.istore 6, 2) := by decide +kernel
theorem d_Law_isRight_35 : decode method_6_code 35 = .ok (.iload 6, 2) := by decide +kernel
theorem d_Law_isRight_37 : decode method_6_code 37 = .ok (.iload_n 3, 1) := by decide +kernel
theorem d_Law_isRight_38 : decode method_6_code 38 = .ok (.if_icmp .ge 63, 3) := by decide +kernel
theorem d_Law_isRight_41 : decode method_6_code 41 = .ok (.iload_n 1, 1) := by decide +kernel
theorem d_Law_isRight_42 : decode method_6_code 42 = .ok (.aload_n 0, 1) := by decide +kernel
theorem d_Law_isRight_43 : decode method_6_code 43 = .ok (.iload 5, 2) := by decide +kernel
theorem d_Law_isRight_45 : decode method_6_code 45 = .ok (.iload 6, 2) := by decide +kernel
theorem d_Law_isRight_47 : decode method_6_code 47 = .ok (.iconst 0, 1) := by decide +kernel
theorem d_Law_isRight_48 : decode method_6_code 48 = .ok (.invokevirtual 26, 3) := by decide +kernel
theorem d_Law_isRight_51 : decode method_6_code 51 = .ok (.aload_n 0, 1) := by decide +kernel
theorem d_Law_isRight_52 : decode method_6_code 52 = .ok (.iload 5, 2) := by decide +kernel
theorem d_Law_isRight_54 : decode method_6_code 54 = .ok (.iload 6, 2) := by decide +kernel
theorem d_Law_isRight_56 : decode method_6_code 56 = .ok (.iconst 1, 1) := by decide +kernel
theorem d_Law_isRight_57 : decode method_6_code 57 = .ok (.invokevirtual 26, 3) := by decide +kernel
theorem d_Law_isRight_60 : decode method_6_code 60 = .ok (.iadd, 1) := by decide +kernel
theorem d_Law_isRight_61 : decode method_6_code 61 = .ok (.aload_n 0, 1) := by decide +kernel
theorem d_Law_isRight_62 : decode method_6_code 62 = .ok (.iload 5, 2) := by decide +kernel
theorem d_Law_isRight_64 : decode method_6_code 64 = .ok (.iload 6, 2) := by decide +kernel
theorem d_Law_isRight_66 : decode method_6_code 66 = .ok (.iconst 2, 1) := by decide +kernel
theorem d_Law_isRight_67 : decode method_6_code 67 = .ok (.invokevirtual 26, 3) := by decide +kernel
theorem d_Law_isRight_70 : decode method_6_code 70 = .ok (.iadd, 1) := by decide +kernel
theorem d_Law_isRight_71 : decode method_6_code 71 = .ok (.iadd, 1) := by decide +kernel
theorem d_Law_isRight_72 : decode method_6_code 72 = .ok (.istore_n 1, 1) := by decide +kernel
theorem d_Law_isRight_73 : decode method_6_code 73 = .ok (.iload 4, 2) := by decide +kernel
theorem d_Law_isRight_75 : decode method_6_code 75 = .ok (.aload_n 0, 1) := by decide +kernel
theorem d_Law_isRight_76 : decode method_6_code 76 = .ok (.iload 5, 2) := by decide +kernel
theorem d_Law_isRight_78 : decode method_6_code 78 = .ok (.iload 6, 2) := by decide +kernel
theorem d_Law_isRight_80 : decode method_6_code 80 = .ok (.iconst 3, 1) := by decide +kernel
theorem d_Law_isRight_81 : decode method_6_code 81 = .ok (.invokevirtual 26, 3) := by decide +kernel
theorem d_Law_isRight_84 : decode method_6_code 84 = .ok (.ifCond .lt 7, 3) := by decide +kernel
theorem d_Law_isRight_87 : decode method_6_code 87 = .ok (.iconst 1, 1) := by decide +kernel
theorem d_Law_isRight_88 : decode method_6_code 88 = .ok (.goto 4, 3) := by decide +kernel
theorem d_Law_isRight_91 : decode method_6_code 91 = .ok (.iconst 0, 1) := by decide +kernel
theorem d_Law_isRight_92 : decode method_6_code 92 = .ok (.iadd, 1) := by decide +kernel
theorem d_Law_isRight_93 : decode method_6_code 93 = .ok (.istore 4, 2) := by decide +kernel
theorem d_Law_isRight_95 : decode method_6_code 95 = .ok (.iinc 6 1, 3) := by decide +kernel
theorem d_Law_isRight_98 : decode method_6_code 98 = .ok (.goto (-63), 3) := by decide +kernel
theorem d_Law_isRight_101 : decode method_6_code 101 = .ok (.iinc 5 1, 3) := by decide +kernel
theorem d_Law_isRight_104 : decode method_6_code 104 = .ok (.goto (-78), 3) := by decide +kernel
theorem d_Law_isRight_107 : decode method_6_code 107 = .ok (.iconst 0, 1) := by decide +kernel
theorem d_Law_isRight_108 : decode method_6_code 108 = .ok (.istore 5, 2) := by decide +kernel
theorem d_Law_isRight_110 : decode method_6_code 110 = .ok (.iload 5, 2) := by decide +kernel
theorem d_Law_isRight_112 : decode method_6_code 112 = .ok (.iconst 2, 1) := by decide +kernel
theorem d_Law_isRight_113 : decode method_6_code 113 = .ok (.if_icmp .ge 289, 3) := by decide +kernel
theorem d_Law_isRight_116 : decode method_6_code 116 = .ok (.aload_n 0, 1) := by decide +kernel
theorem d_Law_isRight_117 : decode method_6_code 117 = .ok (.iload 5, 2) := by decide +kernel
theorem d_Law_isRight_119 : decode method_6_code 119 = .ok (.iconst 0, 1) := by decide +kernel
theorem d_Law_isRight_120 : decode method_6_code 120 = .ok (.invokevirtual 18, 3) := by decide +kernel
theorem d_Law_isRight_123 : decode method_6_code 123 = .ok (.istore 6, 2) := by decide +kernel
theorem d_Law_isRight_125 : decode method_6_code 125 = .ok (.iconst 0, 1) := by decide +kernel
theorem d_Law_isRight_126 : decode method_6_code 126 = .ok (.istore 7, 2) := by decide +kernel
theorem d_Law_isRight_128 : decode method_6_code 128 = .ok (.iconst 0, 1) := by decide +kernel
theorem d_Law_isRight_129 : decode method_6_code 129 = .ok (.istore 8, 2) := by decide +kernel
theorem d_Law_isRight_131 : decode method_6_code 131 = .ok (.iload 8, 2) := by decide +kernel
theorem d_Law_isRight_133 : decode method_6_code 133 = .ok (.iload 6, 2) := by decide +kernel
theorem d_Law_isRight_135 : decode method_6_code 135 = .ok (.if_icmp .ge 117, 3) := by decide +kernel
theorem d_Law_isRight_138 : decode method_6_code 138 = .ok (.iload 7, 2) := by decide +kernel
theorem d_Law_isRight_140 : decode method_6_code 140 = .ok (.aload_n 0, 1) := by decide +kernel
theorem d_Law_isRight_141 : decode method_6_code 141 = .ok (.iload 5, 2) := by decide +kernel
theorem d_Law_isRight_143 : decode method_6_code 143 = .ok (.iload 8, 2) := by decide +kernel
theorem d_Law_isRight_145 : decode method_6_code 145 = .ok (.iconst 1, 1) := by decide +kernel
theorem d_Law_isRight_146 : decode method_6_code 146 = .ok (.invokevirtual 22, 3) := by decide +kernel
theorem d_Law_isRight_149 : decode method_6_code 149 = .ok (.ifCond .ne 7, 3) := by decide +kernel
theorem d_Law_isRight_152 : decode method_6_code 152 = .ok (.iconst 1, 1) := by decide +kernel
theorem d_Law_isRight_153 : decode method_6_code 153 = .ok (.goto 4, 3) := by decide +kernel
theorem d_Law_isRight_156 : decode method_6_code 156 = .ok (.iconst 0, 1) := by decide +kernel
theorem d_Law_isRight_157 : decode method_6_code 157 = .ok (.iadd, 1) := by decide +kernel
theorem d_Law_isRight_158 : decode method_6_code 158 = .ok (.istore 7, 2) := by decide +kernel
theorem d_Law_isRight_160 : decode method_6_code 160 = .ok (.aload_n 0, 1) := by decide +kernel
theorem d_Law_isRight_161 : decode method_6_code 161 = .ok (.iload 5, 2) := by decide +kernel
theorem d_Law_isRight_163 : decode method_6_code 163 = .ok (.iload 8, 2) := by decide +kernel
theorem d_Law_isRight_165 : decode method_6_code 165 = .ok (.iconst 0, 1) := by decide +kernel
theorem d_Law_isRight_166 : decode method_6_code 166 = .ok (.invokevirtual 22, 3) := by decide +kernel
theorem d_Law_isRight_169 : decode method_6_code 169 = .ok (.aload_n 0, 1) := by decide +kernel
theorem d_Law_isRight_170 : decode method_6_code 170 = .ok (.iload 5, 2) := by decide +kernel
theorem d_Law_isRight_172 : decode method_6_code 172 = .ok (.iload 8, 2) := by decide +kernel
theorem d_Law_isRight_174 : decode method_6_code 174 = .ok (.iconst 2, 1) := by decide +kernel
theorem d_Law_isRight_175 : decode method_6_code 175 = .ok (.invokevirtual 22, 3) := by decide +kernel
theorem d_Law_isRight_178 : decode method_6_code 178 = .ok (.isub, 1) := by decide +kernel
theorem d_Law_isRight_179 : decode method_6_code 179 = .ok (.istore 9, 2) := by decide +kernel
theorem d_Law_isRight_181 : decode method_6_code 181 = .ok (.iload 9, 2) := by decide +kernel
theorem d_Law_isRight_183 : decode method_6_code 183 = .ok (.ifCond .lt 61, 3) := by decide +kernel
theorem d_Law_isRight_186 : decode method_6_code 186 = .ok (.aload_n 0, 1) := by decide +kernel
theorem d_Law_isRight_187 : decode method_6_code 187 = .ok (.iload 5, 2) := by decide +kernel
theorem d_Law_isRight_189 : decode method_6_code 189 = .ok (.iload 8, 2) := by decide +kernel
theorem d_Law_isRight_191 : decode method_6_code 191 = .ok (.iconst 0, 1) := by decide +kernel
theorem d_Law_isRight_192 : decode method_6_code 192 = .ok (.invokevirtual 22, 3) := by decide +kernel
theorem d_Law_isRight_195 : decode method_6_code 195 = .ok (.aload_n 0, 1) := by decide +kernel
theorem d_Law_isRight_196 : decode method_6_code 196 = .ok (.iload 5, 2) := by decide +kernel
theorem d_Law_isRight_198 : decode method_6_code 198 = .ok (.iload 8, 2) := by decide +kernel
theorem d_Law_isRight_200 : decode method_6_code 200 = .ok (.iconst 2, 1) := by decide +kernel
theorem d_Law_isRight_201 : decode method_6_code 201 = .ok (.invokevirtual 22, 3) := by decide +kernel
theorem d_Law_isRight_204 : decode method_6_code 204 = .ok (.iadd, 1) := by decide +kernel
theorem d_Law_isRight_205 : decode method_6_code 205 = .ok (.sipush 1000, 3) := by decide +kernel
theorem d_Law_isRight_208 : decode method_6_code 208 = .ok (.if_icmp .gt 36, 3) := by decide +kernel
theorem d_Law_isRight_211 : decode method_6_code 211 = .ok (.iload 8, 2) := by decide +kernel
theorem d_Law_isRight_213 : decode method_6_code 213 = .ok (.ifCond .le 33, 3) := by decide +kernel
theorem d_Law_isRight_216 : decode method_6_code 216 = .ok (.iload 9, 2) := by decide +kernel
theorem d_Law_isRight_218 : decode method_6_code 218 = .ok (.aload_n 0, 1) := by decide +kernel
theorem d_Law_isRight_219 : decode method_6_code 219 = .ok (.iload 5, 2) := by decide +kernel
theorem d_Law_isRight_221 : decode method_6_code 221 = .ok (.iload 8, 2) := by decide +kernel
theorem d_Law_isRight_223 : decode method_6_code 223 = .ok (.iconst 1, 1) := by decide +kernel
theorem d_Law_isRight_224 : decode method_6_code 224 = .ok (.isub, 1) := by decide +kernel
theorem d_Law_isRight_225 : decode method_6_code 225 = .ok (.iconst 0, 1) := by decide +kernel
theorem d_Law_isRight_226 : decode method_6_code 226 = .ok (.invokevirtual 22, 3) := by decide +kernel
theorem d_Law_isRight_229 : decode method_6_code 229 = .ok (.aload_n 0, 1) := by decide +kernel
theorem d_Law_isRight_230 : decode method_6_code 230 = .ok (.iload 5, 2) := by decide +kernel
theorem d_Law_isRight_232 : decode method_6_code 232 = .ok (.iload 8, 2) := by decide +kernel
theorem d_Law_isRight_234 : decode method_6_code 234 = .ok (.iconst 1, 1) := by decide +kernel
theorem d_Law_isRight_235 : decode method_6_code 235 = .ok (.isub, 1) := by decide +kernel
theorem d_Law_isRight_236 : decode method_6_code 236 = .ok (.iconst 2, 1) := by decide +kernel
theorem d_Law_isRight_237 : decode method_6_code 237 = .ok (.invokevirtual 22, 3) := by decide +kernel
theorem d_Law_isRight_240 : decode method_6_code 240 = .ok (.iadd, 1) := by decide +kernel
theorem d_Law_isRight_241 : decode method_6_code 241 = .ok (.if_icmp .gt 5, 3) := by decide +kernel
theorem d_Law_isRight_244 : decode method_6_code 244 = .ok (.iconst 0, 1) := by decide +kernel
theorem d_Law_isRight_245 : decode method_6_code 245 = .ok (.ireturn, 1) := by decide +kernel
theorem d_Law_isRight_246 : decode method_6_code 246 = .ok (.iinc 8 1, 3) := by decide +kernel
theorem d_Law_isRight_249 : decode method_6_code 249 = .ok (.goto (-118), 3) := by decide +kernel
theorem d_Law_isRight_252 : decode method_6_code 252 = .ok (.aload_n 0, 1) := by decide +kernel
theorem d_Law_isRight_253 : decode method_6_code 253 = .ok (.iload 5, 2) := by decide +kernel
theorem d_Law_isRight_255 : decode method_6_code 255 = .ok (.iconst 2, 1) := by decide +kernel
theorem d_Law_isRight_256 : decode method_6_code 256 = .ok (.invokevirtual 18, 3) := by decide +kernel
theorem d_Law_isRight_259 : decode method_6_code 259 = .ok (.istore 8, 2) := by decide +kernel
theorem d_Law_isRight_261 : decode method_6_code 261 = .ok (.aload_n 0, 1) := by decide +kernel
theorem d_Law_isRight_262 : decode method_6_code 262 = .ok (.iload 5, 2) := by decide +kernel
theorem d_Law_isRight_264 : decode method_6_code 264 = .ok (.iconst 3, 1) := by decide +kernel
theorem d_Law_isRight_265 : decode method_6_code 265 = .ok (.invokevirtual 18, 3) := by decide +kernel
theorem d_Law_isRight_268 : decode method_6_code 268 = .ok (.istore 9, 2) := by decide +kernel
theorem d_Law_isRight_270 : decode method_6_code 270 = .ok (.aload_n 0, 1) := by decide +kernel
theorem d_Law_isRight_271 : decode method_6_code 271 = .ok (.iload 5, 2) := by decide +kernel
theorem d_Law_isRight_273 : decode method_6_code 273 = .ok (.iconst 1, 1) := by decide +kernel
theorem d_Law_isRight_274 : decode method_6_code 274 = .ok (.invokevirtual 18, 3) := by decide +kernel
theorem d_Law_isRight_277 : decode method_6_code 277 = .ok (.iload 7, 2) := by decide +kernel
theorem d_Law_isRight_279 : decode method_6_code 279 = .ok (.iconst 1, 1) := by decide +kernel
theorem d_Law_isRight_280 : decode method_6_code 280 = .ok (.iadd, 1) := by decide +kernel
theorem d_Law_isRight_281 : decode method_6_code 281 = .ok (.if_icmp .ne 113, 3) := by decide +kernel
theorem d_Law_isRight_284 : decode method_6_code 284 = .ok (.aload_n 0, 1) := by decide +kernel
theorem d_Law_isRight_285 : decode method_6_code 285 = .ok (.iconst 4, 1) := by decide +kernel
theorem d_Law_isRight_286 : decode method_6_code 286 = .ok (.iload 5, 2) := by decide +kernel
theorem d_Law_isRight_288 : decode method_6_code 288 = .ok (.iadd, 1) := by decide +kernel
theorem d_Law_isRight_289 : decode method_6_code 289 = .ok (.invokevirtual 12, 3) := by decide +kernel
theorem d_Law_isRight_292 : decode method_6_code 292 = .ok (.ifCond .lt 102, 3) := by decide +kernel
theorem d_Law_isRight_295 : decode method_6_code 295 = .ok (.aload_n 0, 1) := by decide +kernel
theorem d_Law_isRight_296 : decode method_6_code 296 = .ok (.iconst 4, 1) := by decide +kernel
theorem d_Law_isRight_297 : decode method_6_code 297 = .ok (.iload 5, 2) := by decide +kernel
theorem d_Law_isRight_299 : decode method_6_code 299 = .ok (.iadd, 1) := by decide +kernel
theorem d_Law_isRight_300 : decode method_6_code 300 = .ok (.invokevirtual 12, 3) := by decide +kernel
theorem d_Law_isRight_303 : decode method_6_code 303 = .ok (.iload 7, 2) := by decide +kernel
theorem d_Law_isRight_305 : decode method_6_code 305 = .ok (.if_icmp .gt 89, 3) := by decide +kernel
theorem d_Law_isRight_308 : decode method_6_code 308 = .ok (.iload 8, 2) := by decide +kernel
theorem d_Law_isRight_310 : decode method_6_code 310 = .ok (.ifCond .lt 84, 3) := by decide +kernel
theorem d_Law_isRight_313 : decode method_6_code 313 = .ok (.iload 9, 2) := by decide +kernel
theorem d_Law_isRight_315 : decode method_6_code 315 = .ok (.iload 6, 2) := by decide +kernel
theorem d_Law_isRight_317 : decode method_6_code 317 = .ok (.if_icmp .gt 77, 3) := by decide +kernel
