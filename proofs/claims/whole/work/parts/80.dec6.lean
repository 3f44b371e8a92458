-- what the bytes of the law say
theorem d_Law_0 : decode code 0 = .ok (.new 7, 3) := by decide +kernel
theorem d_Law_3 : decode code 3 = .ok (.dup, 1) := by decide +kernel
theorem d_Law_4 : decode code 4 = .ok (.invokespecial 9, 3) := by decide +kernel
theorem d_Law_7 : decode code 7 = .ok (.astore_n 1, 1) := by decide +kernel
theorem d_Law_8 : decode code 8 = .ok (.new 10, 3) := by decide +kernel
theorem d_Law_11 : decode code 11 = .ok (.dup, 1) := by decide +kernel
theorem d_Law_12 : decode code 12 = .ok (.invokespecial 12, 3) := by decide +kernel
theorem d_Law_15 : decode code 15 = .ok (.astore_n 2, 1) := by decide +kernel
theorem d_Law_16 : decode code 16 = .ok (.iconst 0, 1) := by decide +kernel
theorem d_Law_17 : decode code 17 = .ok (.istore_n 3, 1) := by decide +kernel
theorem d_Law_18 : decode code 18 = .ok (.iload_n 3, 1) := by decide +kernel
theorem d_Law_19 : decode code 19 = .ok (.aload_n 0, 1) := by decide +kernel
theorem d_Law_20 : decode code 20 = .ok (.arraylength, 1) := by decide +kernel
theorem d_Law_21 : decode code 21 = .ok (.bipush 6, 2) := by decide +kernel
theorem d_Law_23 : decode code 23 = .ok (.isub, 1) := by decide +kernel
theorem d_Law_24 : decode code 24 = .ok (.if_icmp .gt 1230, 3) := by decide +kernel
theorem d_Law_27 : decode code 27 = .ok (.aload_n 0, 1) := by decide +kernel
theorem d_Law_28 : decode code 28 = .ok (.iload_n 3, 1) := by decide +kernel
theorem d_Law_29 : decode code 29 = .ok (.iaload, 1) := by decide +kernel
theorem d_Law_30 : decode code 30 = .ok (.bipush 31, 2) := by decide +kernel
theorem d_Law_32 : decode code 32 = .ok (.iand, 1) := by decide +kernel
theorem d_Law_33 : decode code 33 = .ok (.tableswitch 1215 0 29 #[135, 188, 221, 264, 307, 370, 413, 466, 489, 522, 565, 588, 611, 624, 647, 660, 673, 696, 729, 772, 815, 848, 871, 904, 937, 1000, 1033, 1076, 1129, 1172], 135) := by decide +kernel
theorem d_Law_168 : decode code 168 = .ok (.aload_n 1, 1) := by decide +kernel
theorem d_Law_169 : decode code 169 = .ok (.aload_n 0, 1) := by decide +kernel
theorem d_Law_170 : decode code 170 = .ok (.iload_n 3, 1) := by decide +kernel
theorem d_Law_171 : decode code 171 = .ok (.iconst 1, 1) := by decide +kernel
theorem d_Law_172 : decode code 172 = .ok (.iadd, 1) := by decide +kernel
theorem d_Law_173 : decode code 173 = .ok (.iaload, 1) := by decide +kernel
theorem d_Law_174 : decode code 174 = .ok (.aload_n 0, 1) := by decide +kernel
theorem d_Law_175 : decode code 175 = .ok (.iload_n 3, 1) := by decide +kernel
theorem d_Law_176 : decode code 176 = .ok (.iconst 2, 1) := by decide +kernel
theorem d_Law_177 : decode code 177 = .ok (.iadd, 1) := by decide +kernel
theorem d_Law_178 : decode code 178 = .ok (.iaload, 1) := by decide +kernel
theorem d_Law_179 : decode code 179 = .ok (.aload_n 0, 1) := by decide +kernel
theorem d_Law_180 : decode code 180 = .ok (.iload_n 3, 1) := by decide +kernel
theorem d_Law_181 : decode code 181 = .ok (.iconst 3, 1) := by decide +kernel
theorem d_Law_182 : decode code 182 = .ok (.iadd, 1) := by decide +kernel
theorem d_Law_183 : decode code 183 = .ok (.iaload, 1) := by decide +kernel
theorem d_Law_184 : decode code 184 = .ok (.aload_n 0, 1) := by decide +kernel
theorem d_Law_185 : decode code 185 = .ok (.iload_n 3, 1) := by decide +kernel
theorem d_Law_186 : decode code 186 = .ok (.iconst 4, 1) := by decide +kernel
theorem d_Law_187 : decode code 187 = .ok (.iadd, 1) := by decide +kernel
theorem d_Law_188 : decode code 188 = .ok (.iaload, 1) := by decide +kernel
theorem d_Law_189 : decode code 189 = .ok (.invokevirtual 13, 3) := by decide +kernel
theorem d_Law_192 : decode code 192 = .ok (.aload_n 2, 1) := by decide +kernel
theorem d_Law_193 : decode code 193 = .ok (.aload_n 0, 1) := by decide +kernel
theorem d_Law_194 : decode code 194 = .ok (.iload_n 3, 1) := by decide +kernel
theorem d_Law_195 : decode code 195 = .ok (.iconst 1, 1) := by decide +kernel
theorem d_Law_196 : decode code 196 = .ok (.iadd, 1) := by decide +kernel
theorem d_Law_197 : decode code 197 = .ok (.iaload, 1) := by decide +kernel
theorem d_Law_198 : decode code 198 = .ok (.aload_n 0, 1) := by decide +kernel
theorem d_Law_199 : decode code 199 = .ok (.iload_n 3, 1) := by decide +kernel
theorem d_Law_200 : decode code 200 = .ok (.iconst 2, 1) := by decide +kernel
theorem d_Law_201 : decode code 201 = .ok (.iadd, 1) := by decide +kernel
theorem d_Law_202 : decode code 202 = .ok (.iaload, 1) := by decide +kernel
theorem d_Law_203 : decode code 203 = .ok (.aload_n 0, 1) := by decide +kernel
theorem d_Law_204 : decode code 204 = .ok (.iload_n 3, 1) := by decide +kernel
theorem d_Law_205 : decode code 205 = .ok (.iconst 3, 1) := by decide +kernel
theorem d_Law_206 : decode code 206 = .ok (.iadd, 1) := by decide +kernel
theorem d_Law_207 : decode code 207 = .ok (.iaload, 1) := by decide +kernel
theorem d_Law_208 : decode code 208 = .ok (.aload_n 0, 1) := by decide +kernel
theorem d_Law_209 : decode code 209 = .ok (.iload_n 3, 1) := by decide +kernel
theorem d_Law_210 : decode code 210 = .ok (.iconst 4, 1) := by decide +kernel
theorem d_Law_211 : decode code 211 = .ok (.iadd, 1) := by decide +kernel
theorem d_Law_212 : decode code 212 = .ok (.iaload, 1) := by decide +kernel
theorem d_Law_213 : decode code 213 = .ok (.invokevirtual 17, 3) := by decide +kernel
theorem d_Law_216 : decode code 216 = .ok (.if_icmp .eq 1032, 3) := by decide +kernel
theorem d_Law_219 : decode code 219 = .ok (.iconst 0, 1) := by decide +kernel
theorem d_Law_220 : decode code 220 = .ok (.ireturn, 1) := by decide +kernel
theorem d_Law_221 : decode code 221 = .ok (.aload_n 1, 1) := by decide +kernel
theorem d_Law_222 : decode code 222 = .ok (.aload_n 0, 1) := by decide +kernel
theorem d_Law_223 : decode code 223 = .ok (.iload_n 3, 1) := by decide +kernel
theorem d_Law_224 : decode code 224 = .ok (.iconst 1, 1) := by decide +kernel
theorem d_Law_225 : decode code 225 = .ok (.iadd, 1) := by decide +kernel
theorem d_Law_226 : decode code 226 = .ok (.iaload, 1) := by decide +kernel
theorem d_Law_227 : decode code 227 = .ok (.aload_n 0, 1) := by decide +kernel
theorem d_Law_228 : decode code 228 = .ok (.iload_n 3, 1) := by decide +kernel
theorem d_Law_229 : decode code 229 = .ok (.iconst 2, 1) := by decide +kernel
theorem d_Law_230 : decode code 230 = .ok (.iadd, 1) := by decide +kernel
theorem d_Law_231 : decode code 231 = .ok (.iaload, 1) := by decide +kernel
theorem d_Law_232 : decode code 232 = .ok (.invokevirtual 18, 3) := by decide +kernel
theorem d_Law_235 : decode code 235 = .ok (.aload_n 2, 1) := by decide +kernel
theorem d_Law_236 : decode code 236 = .ok (.aload_n 0, 1) := by decide +kernel
theorem d_Law_237 : decode code 237 = .ok (.iload_n 3, 1) := by decide +kernel
theorem d_Law_238 : decode code 238 = .ok (.iconst 1, 1) := by decide +kernel
theorem d_Law_239 : decode code 239 = .ok (.iadd, 1) := by decide +kernel
theorem d_Law_240 : decode code 240 = .ok (.iaload, 1) := by decide +kernel
theorem d_Law_241 : decode code 241 = .ok (.aload_n 0, 1) := by decide +kernel
theorem d_Law_242 : decode code 242 = .ok (.iload_n 3, 1) := by decide +kernel
theorem d_Law_243 : decode code 243 = .ok (.iconst 2, 1) := by decide +kernel
theorem d_Law_244 : decode code 244 = .ok (.iadd, 1) := by decide +kernel
theorem d_Law_245 : decode code 245 = .ok (.iaload, 1) := by decide +kernel
theorem d_Law_246 : decode code 246 = .ok (.invokevirtual 22, 3) := by decide +kernel
theorem d_Law_249 : decode code 249 = .ok (.if_icmp .eq 999, 3) := by decide +kernel
theorem d_Law_252 : decode code 252 = .ok (.iconst 0, 1) := by decide +kernel
theorem d_Law_253 : decode code 253 = .ok (.ireturn, 1) := by decide +kernel
theorem d_Law_254 : decode code 254 = .ok (.aload_n 1, 1) := by decide +kernel
theorem d_Law_255 : decode code 255 = .ok (.aload_n 0, 1) := by decide +kernel
theorem d_Law_256 : decode code 256 = .ok (.iload_n 3, 1) := by decide +kernel
theorem d_Law_257 : decode code 257 = .ok (.iconst 1, 1) := by decide +kernel
theorem d_Law_258 : decode code 258 = .ok (.iadd, 1) := by decide +kernel
theorem d_Law_259 : decode code 259 = .ok (.iaload, 1) := by decide +kernel
theorem d_Law_260 : decode code 260 = .ok (.aload_n 0, 1) := by decide +kernel
theorem d_Law_261 : decode code 261 = .ok (.iload_n 3, 1) := by decide +kernel
theorem d_Law_262 : decode code 262 = .ok (.iconst 2, 1) := by decide +kernel
theorem d_Law_263 : decode code 263 = .ok (.iadd, 1) := by decide +kernel
theorem d_Law_264 : decode code 264 = .ok (.iaload, 1) := by decide +kernel
theorem d_Law_265 : decode code 265 = .ok (.aload_n 0, 1) := by decide +kernel
theorem d_Law_266 : decode code 266 = .ok (.iload_n 3, 1) := by decide +kernel
theorem d_Law_267 : decode code 267 = .ok (.iconst 3, 1) := by decide +kernel
theorem d_Law_268 : decode code 268 = .ok (.iadd, 1) := by decide +kernel
theorem d_Law_269 : decode code 269 = .ok (.iaload, 1) := by decide +kernel
theorem d_Law_270 : decode code 270 = .ok (.invokevirtual 23, 3) := by decide +kernel
theorem d_Law_273 : decode code 273 = .ok (.aload_n 2, 1) := by decide +kernel
theorem d_Law_274 : decode code 274 = .ok (.aload_n 0, 1) := by decide +kernel
theorem d_Law_275 : decode code 275 = .ok (.iload_n 3, 1) := by decide +kernel
theorem d_Law_276 : decode code 276 = .ok (.iconst 1, 1) := by decide +kernel
theorem d_Law_277 : decode code 277 = .ok (.iadd, 1) := by decide +kernel
theorem d_Law_278 : decode code 278 = .ok (.iaload, 1) := by decide +kernel
theorem d_Law_279 : decode code 279 = .ok (.aload_n 0, 1) := by decide +kernel
theorem d_Law_280 : decode code 280 = .ok (.iload_n 3, 1) := by decide +kernel
theorem d_Law_281 : decode code 281 = .ok (.iconst 2, 1) := by decide +kernel
theorem d_Law_282 : decode code 282 = .ok (.iadd, 1) := by decide +kernel
theorem d_Law_283 : decode code 283 = .ok (.iaload, 1) := by decide +kernel
theorem d_Law_284 : decode code 284 = .ok (.aload_n 0, 1) := by decide +kernel
theorem d_Law_285 : decode code 285 = .ok (.iload_n 3, 1) := by decide +kernel
theorem d_Law_286 : decode code 286 = .ok (.iconst 3, 1) := by decide +kernel
theorem d_Law_287 : decode code 287 = .ok (.iadd, 1) := by decide +kernel
theorem d_Law_288 : decode code 288 = .ok (.iaload, 1) := by decide +kernel
theorem d_Law_289 : decode code 289 = .ok (.invokevirtual 27, 3) := by decide +kernel
theorem d_Law_292 : decode code 292 = .ok (.if_icmp .eq 956, 3) := by decide +kernel
theorem d_Law_295 : decode code 295 = .ok (.iconst 0, 1) := by decide +kernel
theorem d_Law_296 : decode code 296 = .ok (.ireturn, 1) := by decide +kernel
theorem d_Law_297 : decode code 297 = .ok (.aload_n 1, 1) := by decide +kernel
theorem d_Law_298 : decode code 298 = .ok (.aload_n 0, 1) := by decide +kernel
theorem d_Law_299 : decode code 299 = .ok (.iload_n 3, 1) := by decide +kernel
theorem d_Law_300 : decode code 300 = .ok (.iconst 1, 1) := by decide +kernel
theorem d_Law_301 : decode code 301 = .ok (.iadd, 1) := by decide +kernel
theorem d_Law_302 : decode code 302 = .ok (.iaload, 1) := by decide +kernel
theorem d_Law_303 : decode code 303 = .ok (.aload_n 0, 1) := by decide +kernel
theorem d_Law_304 : decode code 304 = .ok (.iload_n 3, 1) := by decide +kernel
theorem d_Law_305 : decode code 305 = .ok (.iconst 2, 1) := by decide +kernel
theorem d_Law_306 : decode code 306 = .ok (.iadd, 1) := by decide +kernel
theorem d_Law_307 : decode code 307 = .ok (.iaload, 1) := by decide +kernel
theorem d_Law_308 : decode code 308 = .ok (.aload_n 0, 1) := by decide +kernel
theorem d_Law_309 : decode code 309 = .ok (.iload_n 3, 1) := by decide +kernel
theorem d_Law_310 : decode code 310 = .ok (.iconst 3, 1) := by decide +kernel
theorem d_Law_311 : decode code 311 = .ok (.iadd, 1) := by decide +kernel
theorem d_Law_312 : decode code 312 = .ok (.iaload, 1) := by decide +kernel
theorem d_Law_313 : decode code 313 = .ok (.invokevirtual 28, 3) := by decide +kernel
theorem d_Law_316 : decode code 316 = .ok (.aload_n 2, 1) := by decide +kernel
theorem d_Law_317 : decode code 317 = .ok (.aload_n 0, 1) := by decide +kernel
theorem d_Law_318 : decode code 318 = .ok (.iload_n 3, 1) := by decide +kernel
theorem d_Law_319 : decode code 319 = .ok (.iconst 1, 1) := by decide +kernel
theorem d_Law_320 : decode code 320 = .ok (.iadd, 1) := by decide +kernel
theorem d_Law_321 : decode code 321 = .ok (.iaload, 1) := by decide +kernel
theorem d_Law_322 : decode code 322 = .ok (.aload_n 0, 1) := by decide +kernel
theorem d_Law_323 : decode code 323 = .ok (.iload_n 3, 1) := by decide +kernel
theorem d_Law_324 : decode code 324 = .ok (.iconst 2, 1) := by decide +kernel
theorem d_Law_325 : decode code 325 = .ok (.iadd, 1) := by decide +kernel
theorem d_Law_326 : decode code 326 = .ok (.iaload, 1) := by decide +kernel
theorem d_Law_327 : decode code 327 = .ok (.aload_n 0, 1) := by decide +kernel
theorem d_Law_328 : decode code 328 = .ok (.iload_n 3, 1) := by decide +kernel
theorem d_Law_329 : decode code 329 = .ok (.iconst 3, 1) := by decide +kernel
theorem d_Law_330 : decode code 330 = .ok (.iadd, 1) := by decide +kernel
theorem d_Law_331 : decode code 331 = .ok (.iaload, 1) := by decide +kernel
theorem d_Law_332 : decode code 332 = .ok (.invokevirtual 31, 3) := by decide +kernel
theorem d_Law_335 : decode code 335 = .ok (.if_icmp .eq 913, 3) := by decide +kernel
theorem d_Law_338 : decode code 338 = .ok (.iconst 0, 1) := by decide +kernel
theorem d_Law_339 : decode code 339 = .ok (.ireturn, 1) := by decide +kernel
theorem d_Law_340 : decode code 340 = .ok (.aload_n 1, 1) := by decide +kernel
theorem d_Law_341 : decode code 341 = .ok (.aload_n 0, 1) := by decide +kernel
theorem d_Law_342 : decode code 342 = .ok (.iload_n 3, 1) := by decide +kernel
theorem d_Law_343 : decode code 343 = .ok (.iconst 1, 1) := by decide +kernel
theorem d_Law_344 : decode code 344 = .ok (.iadd, 1) := by decide +kernel
theorem d_Law_345 : decode code 345 = .ok (.iaload, 1) := by decide +kernel
theorem d_Law_346 : decode code 346 = .ok (.aload_n 0, 1) := by decide +kernel
theorem d_Law_347 : decode code 347 = .ok (.iload_n 3, 1) := by decide +kernel
theorem d_Law_348 : decode code 348 = .ok (.iconst 2, 1) := by decide +kernel
theorem d_Law_349 : decode code 349 = .ok (.iadd, 1) := by decide +kernel
theorem d_Law_350 : decode code 350 = .ok (.iaload, 1) := by decide +kernel
theorem d_Law_351 : decode code 351 = .ok (.aload_n 0, 1) := by decide +kernel
theorem d_Law_352 : decode code 352 = .ok (.iload_n 3, 1) := by decide +kernel
theorem d_Law_353 : decode code 353 = .ok (.iconst 3, 1) := by decide +kernel
theorem d_Law_354 : decode code 354 = .ok (.iadd, 1) := by decide +kernel
theorem d_Law_355 : decode code 355 = .ok (.iaload, 1) := by decide +kernel
theorem d_Law_356 : decode code 356 = .ok (.aload_n 0, 1) := by decide +kernel
theorem d_Law_357 : decode code 357 = .ok (.iload_n 3, 1) := by decide +kernel
theorem d_Law_358 : decode code 358 = .ok (.iconst 4, 1) := by decide +kernel
theorem d_Law_359 : decode code 359 = .ok (.iadd, 1) := by decide +kernel
theorem d_Law_360 : decode code 360 = .ok (.iaload, 1) := by decide +kernel
theorem d_Law_361 : decode code 361 = .ok (.aload_n 0, 1) := by decide +kernel
theorem d_Law_362 : decode code 362 = .ok (.iload_n 3, 1) := by decide +kernel
theorem d_Law_363 : decode code 363 = .ok (.iconst 5, 1) := by decide +kernel
theorem d_Law_364 : decode code 364 = .ok (.iadd, 1) := by decide +kernel
theorem d_Law_365 : decode code 365 = .ok (.iaload, 1) := by decide +kernel
theorem d_Law_366 : decode code 366 = .ok (.invokevirtual 32, 3) := by decide +kernel
theorem d_Law_369 : decode code 369 = .ok (.aload_n 2, 1) := by decide +kernel
theorem d_Law_370 : decode code 370 = .ok (.aload_n 0, 1) := by decide +kernel
theorem d_Law_371 : decode code 371 = .ok (.iload_n 3, 1) := by decide +kernel
theorem d_Law_372 : decode code 372 = .ok (.iconst 1, 1) := by decide +kernel
theorem d_Law_373 : decode code 373 = .ok (.iadd, 1) := by decide +kernel
theorem d_Law_374 : decode code 374 = .ok (.iaload, 1) := by decide +kernel
theorem d_Law_375 : decode code 375 = .ok (.aload_n 0, 1) := by decide +kernel
theorem d_Law_376 : decode code 376 = .ok (.iload_n 3, 1) := by decide +kernel
theorem d_Law_377 : decode code 377 = .ok (.iconst 2, 1) := by decide +kernel
theorem d_Law_378 : decode code 378 = .ok (.iadd, 1) := by decide +kernel
theorem d_Law_379 : decode code 379 = .ok (.iaload, 1) := by decide +kernel
theorem d_Law_380 : decode code 380 = .ok (.aload_n 0, 1) := by decide +kernel
theorem d_Law_381 : decode code 381 = .ok (.iload_n 3, 1) := by decide +kernel
theorem d_Law_382 : decode code 382 = .ok (.iconst 3, 1) := by decide +kernel
theorem d_Law_383 : decode code 383 = .ok (.iadd, 1) := by decide +kernel
theorem d_Law_384 : decode code 384 = .ok (.iaload, 1) := by decide +kernel
theorem d_Law_385 : decode code 385 = .ok (.aload_n 0, 1) := by decide +kernel
theorem d_Law_386 : decode code 386 = .ok (.iload_n 3, 1) := by decide +kernel
theorem d_Law_387 : decode code 387 = .ok (.iconst 4, 1) := by decide +kernel
theorem d_Law_388 : decode code 388 = .ok (.iadd, 1) := by decide +kernel
theorem d_Law_389 : decode code 389 = .ok (.iaload, 1) := by decide +kernel
theorem d_Law_390 : decode code 390 = .ok (.aload_n 0, 1) := by decide +kernel
theorem d_Law_391 : decode code 391 = .ok (.iload_n 3, 1) := by decide +kernel
theorem d_Law_392 : decode code 392 = .ok (.iconst 5, 1) := by decide +kernel
theorem d_Law_393 : decode code 393 = .ok (.iadd, 1) := by decide +kernel
theorem d_Law_394 : decode code 394 = .ok (.iaload, 1) := by decide +kernel
theorem d_Law_395 : decode code 395 = .ok (.invokevirtual 36, 3) := by decide +kernel
theorem d_Law_398 : decode code 398 = .ok (.if_icmp .eq 850, 3) := by decide +kernel
theorem d_Law_401 : decode code 401 = .ok (.iconst 0, 1) := by decide +kernel
theorem d_Law_402 : decode code 402 = .ok (.ireturn, 1) := by decide +kernel
theorem d_Law_403 : decode code 403 = .ok (.aload_n 1, 1) := by decide +kernel
theorem d_Law_404 : decode code 404 = .ok (.aload_n 0, 1) := by decide +kernel
theorem d_Law_405 : decode code 405 = .ok (.iload_n 3, 1) := by decide +kernel
theorem d_Law_406 : decode code 406 = .ok (.iconst 1, 1) := by decide +kernel
theorem d_Law_407 : decode code 407 = .ok (.iadd, 1) := by decide +kernel
theorem d_Law_408 : decode code 408 = .ok (.iaload, 1) := by decide +kernel
theorem d_Law_409 : decode code 409 = .ok (.aload_n 0, 1) := by decide +kernel
theorem d_Law_410 : decode code 410 = .ok (.iload_n 3, 1) := by decide +kernel
theorem d_Law_411 : decode code 411 = .ok (.iconst 2, 1) := by decide +kernel
theorem d_Law_412 : decode code 412 = .ok (.iadd, 1) := by decide +kernel
theorem d_Law_413 : decode code 413 = .ok (.iaload, 1) := by decide +kernel
theorem d_Law_414 : decode code 414 = .ok (.aload_n 0, 1) := by decide +kernel
theorem d_Law_415 : decode code 415 = .ok (.iload_n 3, 1) := by decide +kernel
theorem d_Law_416 : decode code 416 = .ok (.iconst 3, 1) := by decide +kernel
theorem d_Law_417 : decode code 417 = .ok (.iadd, 1) := by decide +kernel
theorem d_Law_418 : decode code 418 = .ok (.iaload, 1) := by decide +kernel
theorem d_Law_419 : decode code 419 = .ok (.invokevirtual 37, 3) := by decide +kernel
theorem d_Law_422 : decode code 422 = .ok (.aload_n 2, 1) := by decide +kernel
theorem d_Law_423 : decode code 423 = .ok (.aload_n 0, 1) := by decide +kernel
theorem d_Law_424 : decode code 424 = .ok (.iload_n 3, 1) := by decide +kernel
theorem d_Law_425 : decode code 425 = .ok (.iconst 1, 1) := by decide +kernel
theorem d_Law_426 : decode code 426 = .ok (.iadd, 1) := by decide +kernel
theorem d_Law_427 : decode code 427 = .ok (.iaload, 1) := by decide +kernel
theorem d_Law_428 : decode code 428 = .ok (.aload_n 0, 1) := by decide +kernel
theorem d_Law_429 : decode code 429 = .ok (.iload_n 3, 1) := by decide +kernel
theorem d_Law_430 : decode code 430 = .ok (.iconst 2, 1) := by decide +kernel
theorem d_Law_431 : decode code 431 = .ok (.iadd, 1) := by decide +kernel
theorem d_Law_432 : decode code 432 = .ok (.iaload, 1) := by decide +kernel
theorem d_Law_433 : decode code 433 = .ok (.aload_n 0, 1) := by decide +kernel
theorem d_Law_434 : decode code 434 = .ok (.iload_n 3, 1) := by decide +kernel
theorem d_Law_435 : decode code 435 = .ok (.iconst 3, 1) := by decide +kernel
theorem d_Law_436 : decode code 436 = .ok (.iadd, 1) := by decide +kernel
theorem d_Law_437 : decode code 437 = .ok (.iaload, 1) := by decide +kernel
theorem d_Law_438 : decode code 438 = .ok (.invokevirtual 40, 3) := by decide +kernel
theorem d_Law_441 : decode code 441 = .ok (.if_icmp .eq 807, 3) := by decide +kernel
theorem d_Law_444 : decode code 444 = .ok (.iconst 0, 1) := by decide +kernel
theorem d_Law_445 : decode code 445 = .ok (.ireturn, 1) := by decide +kernel
theorem d_Law_446 : decode code 446 = .ok (.aload_n 1, 1) := by decide +kernel
theorem d_Law_447 : decode code 447 = .ok (.aload_n 0, 1) := by decide +kernel
theorem d_Law_448 : decode code 448 = .ok (.iload_n 3, 1) := by decide +kernel
theorem d_Law_449 : decode code 449 = .ok (.iconst 1, 1) := by decide +kernel
theorem d_Law_450 : decode code 450 = .ok (.iadd, 1) := by decide +kernel
theorem d_Law_451 : decode code 451 = .ok (.iaload, 1) := by decide +kernel
theorem d_Law_452 : decode code 452 = .ok (.aload_n 0, 1) := by decide +kernel
theorem d_Law_453 : decode code 453 = .ok (.iload_n 3, 1) := by decide +kernel
theorem d_Law_454 : decode code 454 = .ok (.iconst 2, 1) := by decide +kernel
theorem d_Law_455 : decode code 455 = .ok (.iadd, 1) := by decide +kernel
theorem d_Law_456 : decode code 456 = .ok (.iaload, 1) := by decide +kernel
theorem d_Law_457 : decode code 457 = .ok (.aload_n 0, 1) := by decide +kernel
theorem d_Law_458 : decode code 458 = .ok (.iload_n 3, 1) := by decide +kernel
theorem d_Law_459 : decode code 459 = .ok (.iconst 3, 1) := by decide +kernel
theorem d_Law_460 : decode code 460 = .ok (.iadd, 1) := by decide +kernel
theorem d_Law_461 : decode code 461 = .ok (.iaload, 1) := by decide +kernel
theorem d_Law_462 : decode code 462 = .ok (.aload_n 0, 1) := by decide +kernel
theorem d_Law_463 : decode code 463 = .ok (.iload_n 3, 1) := by decide +kernel
theorem d_Law_464 : decode code 464 = .ok (.iconst 4, 1) := by decide +kernel
theorem d_Law_465 : decode code 465 = .ok (.iadd, 1) := by decide +kernel
theorem d_Law_466 : decode code 466 = .ok (.iaload, 1) := by decide +kernel
theorem d_Law_467 : decode code 467 = .ok (.invokevirtual 41, 3) := by decide +kernel
theorem d_Law_470 : decode code 470 = .ok (.aload_n 2, 1) := by decide +kernel
theorem d_Law_471 : decode code 471 = .ok (.aload_n 0, 1) := by decide +kernel
theorem d_Law_472 : decode code 472 = .ok (.iload_n 3, 1) := by decide +kernel
theorem d_Law_473 : decode code 473 = .ok (.iconst 1, 1) := by decide +kernel
theorem d_Law_474 : decode code 474 = .ok (.iadd, 1) := by decide +kernel
theorem d_Law_475 : decode code 475 = .ok (.iaload, 1) := by decide +kernel
theorem d_Law_476 : decode code 476 = .ok (.aload_n 0, 1) := by decide +kernel
theorem d_Law_477 : decode code 477 = .ok (.iload_n 3, 1) := by decide +kernel
theorem d_Law_478 : decode code 478 = .ok (.iconst 2, 1) := by decide +kernel
theorem d_Law_479 : decode code 479 = .ok (.iadd, 1) := by decide +kernel
theorem d_Law_480 : decode code 480 = .ok (.iaload, 1) := by decide +kernel
theorem d_Law_481 : decode code 481 = .ok (.aload_n 0, 1) := by decide +kernel
theorem d_Law_482 : decode code 482 = .ok (.iload_n 3, 1) := by decide +kernel
theorem d_Law_483 : decode code 483 = .ok (.iconst 3, 1) := by decide +kernel
theorem d_Law_484 : decode code 484 = .ok (.iadd, 1) := by decide +kernel
theorem d_Law_485 : decode code 485 = .ok (.iaload, 1) := by decide +kernel
theorem d_Law_486 : decode code 486 = .ok (.aload_n 0, 1) := by decide +kernel
theorem d_Law_487 : decode code 487 = .ok (.iload_n 3, 1) := by decide +kernel
theorem d_Law_488 : decode code 488 = .ok (.iconst 4, 1) := by decide +kernel
theorem d_Law_489 : decode code 489 = .ok (.iadd, 1) := by decide +kernel
theorem d_Law_490 : decode code 490 = .ok (.iaload, 1) := by decide +kernel
theorem d_Law_491 : decode code 491 = .ok (.invokevirtual 44, 3) := by decide +kernel
theorem d_Law_494 : decode code 494 = .ok (.if_icmp .eq 754, 3) := by decide +kernel
theorem d_Law_497 : decode code 497 = .ok (.iconst 0, 1) := by decide +kernel
theorem d_Law_498 : decode code 498 = .ok (.ireturn, 1) := by decide +kernel
theorem d_Law_499 : decode code 499 = .ok (.aload_n 1, 1) := by decide +kernel
theorem d_Law_500 : decode code 500 = .ok (.aload_n 0, 1) := by decide +kernel
theorem d_Law_501 : decode code 501 = .ok (.iload_n 3, 1) := by decide +kernel
theorem d_Law_502 : decode code 502 = .ok (.iconst 1, 1) := by decide +kernel
theorem d_Law_503 : decode code 503 = .ok (.iadd, 1) := by decide +kernel
theorem d_Law_504 : decode code 504 = .ok (.iaload, 1) := by decide +kernel
theorem d_Law_505 : decode code 505 = .ok (.invokevirtual 45, 3) := by decide +kernel
theorem d_Law_508 : decode code 508 = .ok (.aload_n 2, 1) := by decide +kernel
theorem d_Law_509 : decode code 509 = .ok (.aload_n 0, 1) := by decide +kernel
theorem d_Law_510 : decode code 510 = .ok (.iload_n 3, 1) := by decide +kernel
theorem d_Law_511 : decode code 511 = .ok (.iconst 1, 1) := by decide +kernel
theorem d_Law_512 : decode code 512 = .ok (.iadd, 1) := by decide +kernel
theorem d_Law_513 : decode code 513 = .ok (.iaload, 1) := by decide +kernel
theorem d_Law_514 : decode code 514 = .ok (.invokevirtual 49, 3) := by decide +kernel
theorem d_Law_517 : decode code 517 = .ok (.if_icmp .eq 731, 3) := by decide +kernel
theorem d_Law_520 : decode code 520 = .ok (.iconst 0, 1) := by decide +kernel
theorem d_Law_521 : decode code 521 = .ok (.ireturn, 1) := by decide +kernel
theorem d_Law_522 : decode code 522 = .ok (.aload_n 1, 1) := by decide +kernel
theorem d_Law_523 : decode code 523 = .ok (.aload_n 0, 1) := by decide +kernel
theorem d_Law_524 : decode code 524 = .ok (.iload_n 3, 1) := by decide +kernel
theorem d_Law_525 : decode code 525 = .ok (.iconst 1, 1) := by decide +kernel
theorem d_Law_526 : decode code 526 = .ok (.iadd, 1) := by decide +kernel
theorem d_Law_527 : decode code 527 = .ok (.iaload, 1) := by decide +kernel
theorem d_Law_528 : decode code 528 = .ok (.aload_n 0, 1) := by decide +kernel
theorem d_Law_529 : decode code 529 = .ok (.iload_n 3, 1) := by decide +kernel
theorem d_Law_530 : decode code 530 = .ok (.iconst 2, 1) := by decide +kernel
theorem d_Law_531 : decode code 531 = .ok (.iadd, 1) := by decide +kernel
theorem d_Law_532 : decode code 532 = .ok (.iaload, 1) := by decide +kernel
theorem d_Law_533 : decode code 533 = .ok (.invokevirtual 50, 3) := by decide +kernel
theorem d_Law_536 : decode code 536 = .ok (.aload_n 2, 1) := by decide +kernel
theorem d_Law_537 : decode code 537 = .ok (.aload_n 0, 1) := by decide +kernel
theorem d_Law_538 : decode code 538 = .ok (.iload_n 3, 1) := by decide +kernel
theorem d_Law_539 : decode code 539 = .ok (.iconst 1, 1) := by decide +kernel
theorem d_Law_540 : decode code 540 = .ok (.iadd, 1) := by decide +kernel
theorem d_Law_541 : decode code 541 = .ok (.iaload, 1) := by decide +kernel
theorem d_Law_542 : decode code 542 = .ok (.aload_n 0, 1) := by decide +kernel
theorem d_Law_543 : decode code 543 = .ok (.iload_n 3, 1) := by decide +kernel
theorem d_Law_544 : decode code 544 = .ok (.iconst 2, 1) := by decide +kernel
theorem d_Law_545 : decode code 545 = .ok (.iadd, 1) := by decide +kernel
theorem d_Law_546 : decode code 546 = .ok (.iaload, 1) := by decide +kernel
theorem d_Law_547 : decode code 547 = .ok (.invokevirtual 53, 3) := by decide +kernel
theorem d_Law_550 : decode code 550 = .ok (.if_icmp .eq 698, 3) := by decide +kernel
theorem d_Law_553 : decode code 553 = .ok (.iconst 0, 1) := by decide +kernel
theorem d_Law_554 : decode code 554 = .ok (.ireturn, 1) := by decide +kernel
theorem d_Law_555 : decode code 555 = .ok (.aload_n 1, 1) := by decide +kernel
theorem d_Law_556 : decode code 556 = .ok (.aload_n 0, 1) := by decide +kernel
theorem d_Law_557 : decode code 557 = .ok (.iload_n 3, 1) := by decide +kernel
theorem d_Law_558 : decode code 558 = .ok (.iconst 1, 1) := by decide +kernel
theorem d_Law_559 : decode code 559 = .ok (.iadd, 1) := by decide +kernel
theorem d_Law_560 : decode code 560 = .ok (.iaload, 1) := by decide +kernel
theorem d_Law_561 : decode code 561 = .ok (.aload_n 0, 1) := by decide +kernel
theorem d_Law_562 : decode code 562 = .ok (.iload_n 3, 1) := by decide +kernel
theorem d_Law_563 : decode code 563 = .ok (.iconst 2, 1) := by decide +kernel
theorem d_Law_564 : decode code 564 = .ok (.iadd, 1) := by decide +kernel
theorem d_Law_565 : decode code 565 = .ok (.iaload, 1) := by decide +kernel
theorem d_Law_566 : decode code 566 = .ok (.aload_n 0, 1) := by decide +kernel
theorem d_Law_567 : decode code 567 = .ok (.iload_n 3, 1) := by decide +kernel
theorem d_Law_568 : decode code 568 = .ok (.iconst 3, 1) := by decide +kernel
theorem d_Law_569 : decode code 569 = .ok (.iadd, 1) := by decide +kernel
theorem d_Law_570 : decode code 570 = .ok (.iaload, 1) := by decide +kernel
theorem d_Law_571 : decode code 571 = .ok (.invokevirtual 54, 3) := by decide +kernel
theorem d_Law_574 : decode code 574 = .ok (.aload_n 2, 1) := by decide +kernel
theorem d_Law_575 : decode code 575 = .ok (.aload_n 0, 1) := by decide +kernel
theorem d_Law_576 : decode code 576 = .ok (.iload_n 3, 1) := by decide +kernel
theorem d_Law_577 : decode code 577 = .ok (.iconst 1, 1) := by decide +kernel
theorem d_Law_578 : decode code 578 = .ok (.iadd, 1) := by decide +kernel
theorem d_Law_579 : decode code 579 = .ok (.iaload, 1) := by decide +kernel
theorem d_Law_580 : decode code 580 = .ok (.aload_n 0, 1) := by decide +kernel
theorem d_Law_581 : decode code 581 = .ok (.iload_n 3, 1) := by decide +kernel
theorem d_Law_582 : decode code 582 = .ok (.iconst 2, 1) := by decide +kernel
theorem d_Law_583 : decode code 583 = .ok (.iadd, 1) := by decide +kernel
theorem d_Law_584 : decode code 584 = .ok (.iaload, 1) := by decide +kernel
theorem d_Law_585 : decode code 585 = .ok (.aload_n 0, 1) := by decide +kernel
theorem d_Law_586 : decode code 586 = .ok (.iload_n 3, 1) := by decide +kernel
theorem d_Law_587 : decode code 587 = .ok (.iconst 3, 1) := by decide +kernel
theorem d_Law_588 : decode code 588 = .ok (.iadd, 1) := by decide +kernel
theorem d_Law_589 : decode code 589 = .ok (.iaload, 1) := by decide +kernel
theorem d_Law_590 : decode code 590 = .ok (.invokevirtual 57, 3) := by decide +kernel
theorem d_Law_593 : decode code 593 = .ok (.if_icmp .eq 655, 3) := by decide +kernel
theorem d_Law_596 : decode code 596 = .ok (.iconst 0, 1) := by decide +kernel
theorem d_Law_597 : decode code 597 = .ok (.ireturn, 1) := by decide +kernel
theorem d_Law_598 : decode code 598 = .ok (.aload_n 1, 1) := by decide +kernel
theorem d_Law_599 : decode code 599 = .ok (.aload_n 0, 1) := by decide +kernel
theorem d_Law_600 : decode code 600 = .ok (.iload_n 3, 1) := by decide +kernel
theorem d_Law_601 : decode code 601 = .ok (.iconst 1, 1) := by decide +kernel
theorem d_Law_602 : decode code 602 = .ok (.iadd, 1) := by decide +kernel
theorem d_Law_603 : decode code 603 = .ok (.iaload, 1) := by decide +kernel
theorem d_Law_604 : decode code 604 = .ok (.invokevirtual 58, 3) := by decide +kernel
theorem d_Law_607 : decode code 607 = .ok (.aload_n 2, 1) := by decide +kernel
theorem d_Law_608 : decode code 608 = .ok (.aload_n 0, 1) := by decide +kernel
theorem d_Law_609 : decode code 609 = .ok (.iload_n 3, 1) := by decide +kernel
theorem d_Law_610 : decode code 610 = .ok (.iconst 1, 1) := by decide +kernel
theorem d_Law_611 : decode code 611 = .ok (.iadd, 1) := by decide +kernel
theorem d_Law_612 : decode code 612 = .ok (.iaload, 1) := by decide +kernel
theorem d_Law_613 : decode code 613 = .ok (.invokevirtual 61, 3) := by decide +kernel
theorem d_Law_616 : decode code 616 = .ok (.if_icmp .eq 632, 3) := by decide +kernel
theorem d_Law_619 : decode code 619 = .ok (.iconst 0, 1) := by decide +kernel
theorem d_Law_620 : decode code 620 = .ok (.ireturn, 1) := by decide +kernel
theorem d_Law_621 : decode code 621 = .ok (.aload_n 1, 1) := by decide +kernel
theorem d_Law_622 : decode code 622 = .ok (.aload_n 0, 1) := by decide +kernel
theorem d_Law_623 : decode code 623 = .ok (.iload_n 3, 1) := by decide +kernel
theorem d_Law_624 : decode code 624 = .ok (.iconst 1, 1) := by decide +kernel
theorem d_Law_625 : decode code 625 = .ok (.iadd, 1) := by decide +kernel
theorem d_Law_626 : decode code 626 = .ok (.iaload, 1) := by decide +kernel
theorem d_Law_627 : decode code 627 = .ok (.invokevirtual 62, 3) := by decide +kernel
theorem d_Law_630 : decode code 630 = .ok (.aload_n 2, 1) := by decide +kernel
theorem d_Law_631 : decode code 631 = .ok (.aload_n 0, 1) := by decide +kernel
theorem d_Law_632 : decode code 632 = .ok (.iload_n 3, 1) := by decide +kernel
theorem d_Law_633 : decode code 633 = .ok (.iconst 1, 1) := by decide +kernel
theorem d_Law_634 : decode code 634 = .ok (.iadd, 1) := by decide +kernel
theorem d_Law_635 : decode code 635 = .ok (.iaload, 1) := by decide +kernel
theorem d_Law_636 : decode code 636 = .ok (.invokevirtual 65, 3) := by decide +kernel
theorem d_Law_639 : decode code 639 = .ok (.if_icmp .eq 609, 3) := by decide +kernel
theorem d_Law_642 : decode code 642 = .ok (.iconst 0, 1) := by decide +kernel
theorem d_Law_643 : decode code 643 = .ok (.ireturn, 1) := by decide +kernel
theorem d_Law_644 : decode code 644 = .ok (.aload_n 1, 1) := by decide +kernel
theorem d_Law_645 : decode code 645 = .ok (.invokevirtual 66, 3) := by decide +kernel
theorem d_Law_648 : decode code 648 = .ok (.aload_n 2, 1) := by decide +kernel
theorem d_Law_649 : decode code 649 = .ok (.invokevirtual 70, 3) := by decide +kernel
theorem d_Law_652 : decode code 652 = .ok (.if_icmp .eq 596, 3) := by decide +kernel
theorem d_Law_655 : decode code 655 = .ok (.iconst 0, 1) := by decide +kernel
theorem d_Law_656 : decode code 656 = .ok (.ireturn, 1) := by decide +kernel
theorem d_Law_657 : decode code 657 = .ok (.aload_n 1, 1) := by decide +kernel
theorem d_Law_658 : decode code 658 = .ok (.aload_n 0, 1) := by decide +kernel
theorem d_Law_659 : decode code 659 = .ok (.iload_n 3, 1) := by decide +kernel
theorem d_Law_660 : decode code 660 = .ok (.iconst 1, 1) := by decide +kernel
theorem d_Law_661 : decode code 661 = .ok (.iadd, 1) := by decide +kernel
theorem d_Law_662 : decode code 662 = .ok (.iaload, 1) := by decide +kernel
theorem d_Law_663 : decode code 663 = .ok (.invokevirtual 71, 3) := by decide +kernel
theorem d_Law_666 : decode code 666 = .ok (.aload_n 2, 1) := by decide +kernel
theorem d_Law_667 : decode code 667 = .ok (.aload_n 0, 1) := by decide +kernel
theorem d_Law_668 : decode code 668 = .ok (.iload_n 3, 1) := by decide +kernel
theorem d_Law_669 : decode code 669 = .ok (.iconst 1, 1) := by decide +kernel
theorem d_Law_670 : decode code 670 = .ok (.iadd, 1) := by decide +kernel
theorem d_Law_671 : decode code 671 = .ok (.iaload, 1) := by decide +kernel
theorem d_Law_672 : decode code 672 = .ok (.invokevirtual 74, 3) := by decide +kernel
theorem d_Law_675 : decode code 675 = .ok (.if_icmp .eq 573, 3) := by decide +kernel
theorem d_Law_678 : decode code 678 = .ok (.iconst 0, 1) := by decide +kernel
theorem d_Law_679 : decode code 679 = .ok (.ireturn, 1) := by decide +kernel
theorem d_Law_680 : decode code 680 = .ok (.aload_n 1, 1) := by decide +kernel
theorem d_Law_681 : decode code 681 = .ok (.invokevirtual 75, 3) := by decide +kernel
theorem d_Law_684 : decode code 684 = .ok (.aload_n 2, 1) := by decide +kernel
theorem d_Law_685 : decode code 685 = .ok (.invokevirtual 78, 3) := by decide +kernel
theorem d_Law_688 : decode code 688 = .ok (.if_icmp .eq 560, 3) := by decide +kernel
theorem d_Law_691 : decode code 691 = .ok (.iconst 0, 1) := by decide +kernel
theorem d_Law_692 : decode code 692 = .ok (.ireturn, 1) := by decide +kernel
theorem d_Law_693 : decode code 693 = .ok (.aload_n 1, 1) := by decide +kernel
theorem d_Law_694 : decode code 694 = .ok (.invokevirtual 79, 3) := by decide +kernel
theorem d_Law_697 : decode code 697 = .ok (.aload_n 2, 1) := by decide +kernel
theorem d_Law_698 : decode code 698 = .ok (.invokevirtual 82, 3) := by decide +kernel
theorem d_Law_701 : decode code 701 = .ok (.if_icmp .eq 547, 3) := by decide +kernel
theorem d_Law_704 : decode code 704 = .ok (.iconst 0, 1) := by decide +kernel
theorem d_Law_705 : decode code 705 = .ok (.ireturn, 1) := by decide +kernel
theorem d_Law_706 : decode code 706 = .ok (.aload_n 1, 1) := by decide +kernel
theorem d_Law_707 : decode code 707 = .ok (.aload_n 0, 1) := by decide +kernel
theorem d_Law_708 : decode code 708 = .ok (.iload_n 3, 1) := by decide +kernel
theorem d_Law_709 : decode code 709 = .ok (.iconst 1, 1) := by decide +kernel
theorem d_Law_710 : decode code 710 = .ok (.iadd, 1) := by decide +kernel
theorem d_Law_711 : decode code 711 = .ok (.iaload, 1) := by decide +kernel
theorem d_Law_712 : decode code 712 = .ok (.invokevirtual 83, 3) := by decide +kernel
theorem d_Law_715 : decode code 715 = .ok (.aload_n 2, 1) := by decide +kernel
theorem d_Law_716 : decode code 716 = .ok (.aload_n 0, 1) := by decide +kernel
theorem d_Law_717 : decode code 717 = .ok (.iload_n 3, 1) := by decide +kernel
theorem d_Law_718 : decode code 718 = .ok (.iconst 1, 1) := by decide +kernel
theorem d_Law_719 : decode code 719 = .ok (.iadd, 1) := by decide +kernel
theorem d_Law_720 : decode code 720 = .ok (.iaload, 1) := by decide +kernel
theorem d_Law_721 : decode code 721 = .ok (.invokevirtual 86, 3) := by decide +kernel
theorem d_Law_724 : decode code 724 = .ok (.if_icmp .eq 524, 3) := by decide +kernel
theorem d_Law_727 : decode code 727 = .ok (.iconst 0, 1) := by decide +kernel
theorem d_Law_728 : decode code 728 = .ok (.ireturn, 1) := by decide +kernel
theorem d_Law_729 : decode code 729 = .ok (.aload_n 1, 1) := by decide +kernel
theorem d_Law_730 : decode code 730 = .ok (.aload_n 0, 1) := by decide +kernel
theorem d_Law_731 : decode code 731 = .ok (.iload_n 3, 1) := by decide +kernel
theorem d_Law_732 : decode code 732 = .ok (.iconst 1, 1) := by decide +kernel
theorem d_Law_733 : decode code 733 = .ok (.iadd, 1) := by decide +kernel
theorem d_Law_734 : decode code 734 = .ok (.iaload, 1) := by decide +kernel
theorem d_Law_735 : decode code 735 = .ok (.aload_n 0, 1) := by decide +kernel
theorem d_Law_736 : decode code 736 = .ok (.iload_n 3, 1) := by decide +kernel
theorem d_Law_737 : decode code 737 = .ok (.iconst 2, 1) := by decide +kernel
theorem d_Law_738 : decode code 738 = .ok (.iadd, 1) := by decide +kernel
theorem d_Law_739 : decode code 739 = .ok (.iaload, 1) := by decide +kernel
theorem d_Law_740 : decode code 740 = .ok (.invokevirtual 87, 3) := by decide +kernel
theorem d_Law_743 : decode code 743 = .ok (.aload_n 2, 1) := by decide +kernel
theorem d_Law_744 : decode code 744 = .ok (.aload_n 0, 1) := by decide +kernel
theorem d_Law_745 : decode code 745 = .ok (.iload_n 3, 1) := by decide +kernel
theorem d_Law_746 : decode code 746 = .ok (.iconst 1, 1) := by decide +kernel
theorem d_Law_747 : decode code 747 = .ok (.iadd, 1) := by decide +kernel
theorem d_Law_748 : decode code 748 = .ok (.iaload, 1) := by decide +kernel
theorem d_Law_749 : decode code 749 = .ok (.aload_n 0, 1) := by decide +kernel
theorem d_Law_750 : decode code 750 = .ok (.iload_n 3, 1) := by decide +kernel
theorem d_Law_751 : decode code 751 = .ok (.iconst 2, 1) := by decide +kernel
theorem d_Law_752 : decode code 752 = .ok (.iadd, 1) := by decide +kernel
theorem d_Law_753 : decode code 753 = .ok (.iaload, 1) := by decide +kernel
theorem d_Law_754 : decode code 754 = .ok (.invokevirtual 90, 3) := by decide +kernel
theorem d_Law_757 : decode code 757 = .ok (.if_icmp .eq 491, 3) := by decide +kernel
theorem d_Law_760 : decode code 760 = .ok (.iconst 0, 1) := by decide +kernel
theorem d_Law_761 : decode code 761 = .ok (.ireturn, 1) := by decide +kernel
theorem d_Law_762 : decode code 762 = .ok (.aload_n 1, 1) := by decide +kernel
theorem d_Law_763 : decode code 763 = .ok (.aload_n 0, 1) := by decide +kernel
theorem d_Law_764 : decode code 764 = .ok (.iload_n 3, 1) := by decide +kernel
theorem d_Law_765 : decode code 765 = .ok (.iconst 1, 1) := by decide +kernel
theorem d_Law_766 : decode code 766 = .ok (.iadd, 1) := by decide +kernel
theorem d_Law_767 : decode code 767 = .ok (.iaload, 1) := by decide +kernel
theorem d_Law_768 : decode code 768 = .ok (.aload_n 0, 1) := by decide +kernel
theorem d_Law_769 : decode code 769 = .ok (.iload_n 3, 1) := by decide +kernel
theorem d_Law_770 : decode code 770 = .ok (.iconst 2, 1) := by decide +kernel
theorem d_Law_771 : decode code 771 = .ok (.iadd, 1) := by decide +kernel
theorem d_Law_772 : decode code 772 = .ok (.iaload, 1) := by decide +kernel
theorem d_Law_773 : decode code 773 = .ok (.aload_n 0, 1) := by decide +kernel
theorem d_Law_774 : decode code 774 = .ok (.iload_n 3, 1) := by decide +kernel
theorem d_Law_775 : decode code 775 = .ok (.iconst 3, 1) := by decide +kernel
theorem d_Law_776 : decode code 776 = .ok (.iadd, 1) := by decide +kernel
theorem d_Law_777 : decode code 777 = .ok (.iaload, 1) := by decide +kernel
theorem d_Law_778 : decode code 778 = .ok (.invokevirtual 91, 3) := by decide +kernel
theorem d_Law_781 : decode code 781 = .ok (.aload_n 2, 1) := by decide +kernel
theorem d_Law_782 : decode code 782 = .ok (.aload_n 0, 1) := by decide +kernel
theorem d_Law_783 : decode code 783 = .ok (.iload_n 3, 1) := by decide +kernel
theorem d_Law_784 : decode code 784 = .ok (.iconst 1, 1) := by decide +kernel
theorem d_Law_785 : decode code 785 = .ok (.iadd, 1) := by decide +kernel
theorem d_Law_786 : decode code 786 = .ok (.iaload, 1) := by decide +kernel
theorem d_Law_787 : decode code 787 = .ok (.aload_n 0, 1) := by decide +kernel
theorem d_Law_788 : decode code 788 = .ok (.iload_n 3, 1) := by decide +kernel
theorem d_Law_789 : decode code 789 = .ok (.iconst 2, 1) := by decide +kernel
theorem d_Law_790 : decode code 790 = .ok (.iadd, 1) := by decide +kernel
theorem d_Law_791 : decode code 791 = .ok (.iaload, 1) := by decide +kernel
theorem d_Law_792 : decode code 792 = .ok (.aload_n 0, 1) := by decide +kernel
theorem d_Law_793 : decode code 793 = .ok (.iload_n 3, 1) := by decide +kernel
theorem d_Law_794 : decode code 794 = .ok (.iconst 3, 1) := by decide +kernel
theorem d_Law_795 : decode code 795 = .ok (.iadd, 1) := by decide +kernel
theorem d_Law_796 : decode code 796 = .ok (.iaload, 1) := by decide +kernel
theorem d_Law_797 : decode code 797 = .ok (.invokevirtual 94, 3) := by decide +kernel
theorem d_Law_800 : decode code 800 = .ok (.if_icmp .eq 448, 3) := by decide +kernel
theorem d_Law_803 : decode code 803 = .ok (.iconst 0, 1) := by decide +kernel
theorem d_Law_804 : decode code 804 = .ok (.ireturn, 1) := by decide +kernel
theorem d_Law_805 : decode code 805 = .ok (.aload_n 1, 1) := by decide +kernel
theorem d_Law_806 : decode code 806 = .ok (.aload_n 0, 1) := by decide +kernel
theorem d_Law_807 : decode code 807 = .ok (.iload_n 3, 1) := by decide +kernel
theorem d_Law_808 : decode code 808 = .ok (.iconst 1, 1) := by decide +kernel
theorem d_Law_809 : decode code 809 = .ok (.iadd, 1) := by decide +kernel
theorem d_Law_810 : decode code 810 = .ok (.iaload, 1) := by decide +kernel
theorem d_Law_811 : decode code 811 = .ok (.aload_n 0, 1) := by decide +kernel
theorem d_Law_812 : decode code 812 = .ok (.iload_n 3, 1) := by decide +kernel
theorem d_Law_813 : decode code 813 = .ok (.iconst 2, 1) := by decide +kernel
theorem d_Law_814 : decode code 814 = .ok (.iadd, 1) := by decide +kernel
theorem d_Law_815 : decode code 815 = .ok (.iaload, 1) := by decide +kernel
theorem d_Law_816 : decode code 816 = .ok (.aload_n 0, 1) := by decide +kernel
theorem d_Law_817 : decode code 817 = .ok (.iload_n 3, 1) := by decide +kernel
theorem d_Law_818 : decode code 818 = .ok (.iconst 3, 1) := by decide +kernel
theorem d_Law_819 : decode code 819 = .ok (.iadd, 1) := by decide +kernel
theorem d_Law_820 : decode code 820 = .ok (.iaload, 1) := by decide +kernel
theorem d_Law_821 : decode code 821 = .ok (.invokevirtual 95, 3) := by decide +kernel
theorem d_Law_824 : decode code 824 = .ok (.aload_n 2, 1) := by decide +kernel
theorem d_Law_825 : decode code 825 = .ok (.aload_n 0, 1) := by decide +kernel
theorem d_Law_826 : decode code 826 = .ok (.iload_n 3, 1) := by decide +kernel
theorem d_Law_827 : decode code 827 = .ok (.iconst 1, 1) := by decide +kernel
theorem d_Law_828 : decode code 828 = .ok (.iadd, 1) := by decide +kernel
theorem d_Law_829 : decode code 829 = .ok (.iaload, 1) := by decide +kernel
theorem d_Law_830 : decode code 830 = .ok (.aload_n 0, 1) := by decide +kernel
theorem d_Law_831 : decode code 831 = .ok (.iload_n 3, 1) := by decide +kernel
theorem d_Law_832 : decode code 832 = .ok (.iconst 2, 1) := by decide +kernel
theorem d_Law_833 : decode code 833 = .ok (.iadd, 1) := by decide +kernel
theorem d_Law_834 : decode code 834 = .ok (.iaload, 1) := by decide +kernel
theorem d_Law_835 : decode code 835 = .ok (.aload_n 0, 1) := by decide +kernel
theorem d_Law_836 : decode code 836 = .ok (.iload_n 3, 1) := by decide +kernel
theorem d_Law_837 : decode code 837 = .ok (.iconst 3, 1) := by decide +kernel
theorem d_Law_838 : decode code 838 = .ok (.iadd, 1) := by decide +kernel
theorem d_Law_839 : decode code 839 = .ok (.iaload, 1) := by decide +kernel
theorem d_Law_840 : decode code 840 = .ok (.invokevirtual 98, 3) := by decide +kernel
theorem d_Law_843 : decode code 843 = .ok (.if_icmp .eq 405, 3) := by decide +kernel
theorem d_Law_846 : decode code 846 = .ok (.iconst 0, 1) := by decide +kernel
theorem d_Law_847 : decode code 847 = .ok (.ireturn, 1) := by decide +kernel
theorem d_Law_848 : decode code 848 = .ok (.aload_n 1, 1) := by decide +kernel
theorem d_Law_849 : decode code 849 = .ok (.aload_n 0, 1) := by decide +kernel
theorem d_Law_850 : decode code 850 = .ok (.iload_n 3, 1) := by decide +kernel
theorem d_Law_851 : decode code 851 = .ok (.iconst 1, 1) := by decide +kernel
theorem d_Law_852 : decode code 852 = .ok (.iadd, 1) := by decide +kernel
theorem d_Law_853 : decode code 853 = .ok (.iaload, 1) := by decide +kernel
theorem d_Law_854 : decode code 854 = .ok (.aload_n 0, 1) := by decide +kernel
theorem d_Law_855 : decode code 855 = .ok (.iload_n 3, 1) := by decide +kernel
theorem d_Law_856 : decode code 856 = .ok (.iconst 2, 1) := by decide +kernel
theorem d_Law_857 : decode code 857 = .ok (.iadd, 1) := by decide +kernel
theorem d_Law_858 : decode code 858 = .ok (.iaload, 1) := by decide +kernel
theorem d_Law_859 : decode code 859 = .ok (.invokevirtual 99, 3) := by decide +kernel
theorem d_Law_862 : decode code 862 = .ok (.aload_n 2, 1) := by decide +kernel
theorem d_Law_863 : decode code 863 = .ok (.aload_n 0, 1) := by decide +kernel
theorem d_Law_864 : decode code 864 = .ok (.iload_n 3, 1) := by decide +kernel
theorem d_Law_865 : decode code 865 = .ok (.iconst 1, 1) := by decide +kernel
theorem d_Law_866 : decode code 866 = .ok (.iadd, 1) := by decide +kernel
theorem d_Law_867 : decode code 867 = .ok (.iaload, 1) := by decide +kernel
theorem d_Law_868 : decode code 868 = .ok (.aload_n 0, 1) := by decide +kernel
theorem d_Law_869 : decode code 869 = .ok (.iload_n 3, 1) := by decide +kernel
theorem d_Law_870 : decode code 870 = .ok (.iconst 2, 1) := by decide +kernel
theorem d_Law_871 : decode code 871 = .ok (.iadd, 1) := by decide +kernel
theorem d_Law_872 : decode code 872 = .ok (.iaload, 1) := by decide +kernel
theorem d_Law_873 : decode code 873 = .ok (.invokevirtual 102, 3) := by decide +kernel
theorem d_Law_876 : decode code 876 = .ok (.if_icmp .eq 372, 3) := by decide +kernel
theorem d_Law_879 : decode code 879 = .ok (.iconst 0, 1) := by decide +kernel
theorem d_Law_880 : decode code 880 = .ok (.ireturn, 1) := by decide +kernel
theorem d_Law_881 : decode code 881 = .ok (.aload_n 1, 1) := by decide +kernel
theorem d_Law_882 : decode code 882 = .ok (.aload_n 0, 1) := by decide +kernel
theorem d_Law_883 : decode code 883 = .ok (.iload_n 3, 1) := by decide +kernel
theorem d_Law_884 : decode code 884 = .ok (.iconst 1, 1) := by decide +kernel
theorem d_Law_885 : decode code 885 = .ok (.iadd, 1) := by decide +kernel
theorem d_Law_886 : decode code 886 = .ok (.iaload, 1) := by decide +kernel
theorem d_Law_887 : decode code 887 = .ok (.invokevirtual 103, 3) := by decide +kernel
theorem d_Law_890 : decode code 890 = .ok (.aload_n 2, 1) := by decide +kernel
theorem d_Law_891 : decode code 891 = .ok (.aload_n 0, 1) := by decide +kernel
theorem d_Law_892 : decode code 892 = .ok (.iload_n 3, 1) := by decide +kernel
theorem d_Law_893 : decode code 893 = .ok (.iconst 1, 1) := by decide +kernel
theorem d_Law_894 : decode code 894 = .ok (.iadd, 1) := by decide +kernel
theorem d_Law_895 : decode code 895 = .ok (.iaload, 1) := by decide +kernel
theorem d_Law_896 : decode code 896 = .ok (.invokevirtual 106, 3) := by decide +kernel
theorem d_Law_899 : decode code 899 = .ok (.if_icmp .eq 349, 3) := by decide +kernel
theorem d_Law_902 : decode code 902 = .ok (.iconst 0, 1) := by decide +kernel
theorem d_Law_903 : decode code 903 = .ok (.ireturn, 1) := by decide +kernel
theorem d_Law_904 : decode code 904 = .ok (.aload_n 1, 1) := by decide +kernel
theorem d_Law_905 : decode code 905 = .ok (.aload_n 0, 1) := by decide +kernel
theorem d_Law_906 : decode code 906 = .ok (.iload_n 3, 1) := by decide +kernel
theorem d_Law_907 : decode code 907 = .ok (.iconst 1, 1) := by decide +kernel
theorem d_Law_908 : decode code 908 = .ok (.iadd, 1) := by decide +kernel
theorem d_Law_909 : decode code 909 = .ok (.iaload, 1) := by decide +kernel
theorem d_Law_910 : decode code 910 = .ok (.aload_n 0, 1) := by decide +kernel
theorem d_Law_911 : decode code 911 = .ok (.iload_n 3, 1) := by decide +kernel
theorem d_Law_912 : decode code 912 = .ok (.iconst 2, 1) := by decide +kernel
theorem d_Law_913 : decode code 913 = .ok (.iadd, 1) := by decide +kernel
theorem d_Law_914 : decode code 914 = .ok (.iaload, 1) := by decide +kernel
theorem d_Law_915 : decode code 915 = .ok (.invokevirtual 107, 3) := by decide +kernel
theorem d_Law_918 : decode code 918 = .ok (.aload_n 2, 1) := by decide +kernel
theorem d_Law_919 : decode code 919 = .ok (.aload_n 0, 1) := by decide +kernel
theorem d_Law_920 : decode code 920 = .ok (.iload_n 3, 1) := by decide +kernel
theorem d_Law_921 : decode code 921 = .ok (.iconst 1, 1) := by decide +kernel
theorem d_Law_922 : decode code 922 = .ok (.iadd, 1) := by decide +kernel
theorem d_Law_923 : decode code 923 = .ok (.iaload, 1) := by decide +kernel
theorem d_Law_924 : decode code 924 = .ok (.aload_n 0, 1) := by decide +kernel
theorem d_Law_925 : decode code 925 = .ok (.iload_n 3, 1) := by decide +kernel
theorem d_Law_926 : decode code 926 = .ok (.iconst 2, 1) := by decide +kernel
theorem d_Law_927 : decode code 927 = .ok (.iadd, 1) := by decide +kernel
theorem d_Law_928 : decode code 928 = .ok (.iaload, 1) := by decide +kernel
theorem d_Law_929 : decode code 929 = .ok (.invokevirtual 110, 3) := by decide +kernel
theorem d_Law_932 : decode code 932 = .ok (.if_icmp .eq 316, 3) := by decide +kernel
theorem d_Law_935 : decode code 935 = .ok (.iconst 0, 1) := by decide +kernel
theorem d_Law_936 : decode code 936 = .ok (.ireturn, 1) := by decide +kernel
theorem d_Law_937 : decode code 937 = .ok (.aload_n 1, 1) := by decide +kernel
theorem d_Law_938 : decode code 938 = .ok (.aload_n 0, 1) := by decide +kernel
theorem d_Law_939 : decode code 939 = .ok (.iload_n 3, 1) := by decide +kernel
theorem d_Law_940 : decode code 940 = .ok (.iconst 1, 1) := by decide +kernel
theorem d_Law_941 : decode code 941 = .ok (.iadd, 1) := by decide +kernel
theorem d_Law_942 : decode code 942 = .ok (.iaload, 1) := by decide +kernel
theorem d_Law_943 : decode code 943 = .ok (.aload_n 0, 1) := by decide +kernel
theorem d_Law_944 : decode code 944 = .ok (.iload_n 3, 1) := by decide +kernel
theorem d_Law_945 : decode code 945 = .ok (.iconst 2, 1) := by decide +kernel
theorem d_Law_946 : decode code 946 = .ok (.iadd, 1) := by decide +kernel
theorem d_Law_947 : decode code 947 = .ok (.iaload, 1) := by decide +kernel
theorem d_Law_948 : decode code 948 = .ok (.invokevirtual 111, 3) := by decide +kernel
theorem d_Law_951 : decode code 951 = .ok (.aload_n 2, 1) := by decide +kernel
theorem d_Law_952 : decode code 952 = .ok (.aload_n 0, 1) := by decide +kernel
theorem d_Law_953 : decode code 953 = .ok (.iload_n 3, 1) := by decide +kernel
theorem d_Law_954 : decode code 954 = .ok (.iconst 1, 1) := by decide +kernel
theorem d_Law_955 : decode code 955 = .ok (.iadd, 1) := by decide +kernel
theorem d_Law_956 : decode code 956 = .ok (.iaload, 1) := by decide +kernel
theorem d_Law_957 : decode code 957 = .ok (.aload_n 0, 1) := by decide +kernel
theorem d_Law_958 : decode code 958 = .ok (.iload_n 3, 1) := by decide +kernel
theorem d_Law_959 : decode code 959 = .ok (.iconst 2, 1) := by decide +kernel
theorem d_Law_960 : decode code 960 = .ok (.iadd, 1) := by decide +kernel
theorem d_Law_961 : decode code 961 = .ok (.iaload, 1) := by decide +kernel
theorem d_Law_962 : decode code 962 = .ok (.invokevirtual 114, 3) := by decide +kernel
theorem d_Law_965 : decode code 965 = .ok (.if_icmp .eq 283, 3) := by decide +kernel
theorem d_Law_968 : decode code 968 = .ok (.iconst 0, 1) := by decide +kernel
theorem d_Law_969 : decode code 969 = .ok (.ireturn, 1) := by decide +kernel
theorem d_Law_970 : decode code 970 = .ok (.aload_n 1, 1) := by decide +kernel
theorem d_Law_971 : decode code 971 = .ok (.aload_n 0, 1) := by decide +kernel
theorem d_Law_972 : decode code 972 = .ok (.iload_n 3, 1) := by decide +kernel
theorem d_Law_973 : decode code 973 = .ok (.iconst 1, 1) := by decide +kernel
theorem d_Law_974 : decode code 974 = .ok (.iadd, 1) := by decide +kernel
theorem d_Law_975 : decode code 975 = .ok (.iaload, 1) := by decide +kernel
theorem d_Law_976 : decode code 976 = .ok (.aload_n 0, 1) := by decide +kernel
theorem d_Law_977 : decode code 977 = .ok (.iload_n 3, 1) := by decide +kernel
theorem d_Law_978 : decode code 978 = .ok (.iconst 2, 1) := by decide +kernel
theorem d_Law_979 : decode code 979 = .ok (.iadd, 1) := by decide +kernel
theorem d_Law_980 : decode code 980 = .ok (.iaload, 1) := by decide +kernel
theorem d_Law_981 : decode code 981 = .ok (.aload_n 0, 1) := by decide +kernel
theorem d_Law_982 : decode code 982 = .ok (.iload_n 3, 1) := by decide +kernel
theorem d_Law_983 : decode code 983 = .ok (.iconst 3, 1) := by decide +kernel
theorem d_Law_984 : decode code 984 = .ok (.iadd, 1) := by decide +kernel
theorem d_Law_985 : decode code 985 = .ok (.iaload, 1) := by decide +kernel
theorem d_Law_986 : decode code 986 = .ok (.aload_n 0, 1) := by decide +kernel
theorem d_Law_987 : decode code 987 = .ok (.iload_n 3, 1) := by decide +kernel
theorem d_Law_988 : decode code 988 = .ok (.iconst 4, 1) := by decide +kernel
theorem d_Law_989 : decode code 989 = .ok (.iadd, 1) := by decide +kernel
theorem d_Law_990 : decode code 990 = .ok (.iaload, 1) := by decide +kernel
theorem d_Law_991 : decode code 991 = .ok (.aload_n 0, 1) := by decide +kernel
theorem d_Law_992 : decode code 992 = .ok (.iload_n 3, 1) := by decide +kernel
theorem d_Law_993 : decode code 993 = .ok (.iconst 5, 1) := by decide +kernel
theorem d_Law_994 : decode code 994 = .ok (.iadd, 1) := by decide +kernel
theorem d_Law_995 : decode code 995 = .ok (.iaload, 1) := by decide +kernel
theorem d_Law_996 : decode code 996 = .ok (.invokevirtual 115, 3) := by decide +kernel
theorem d_Law_999 : decode code 999 = .ok (.aload_n 2, 1) := by decide +kernel
theorem d_Law_1000 : decode code 1000 = .ok (.aload_n 0, 1) := by decide +kernel
theorem d_Law_1001 : decode code 1001 = .ok (.iload_n 3, 1) := by decide +kernel
theorem d_Law_1002 : decode code 1002 = .ok (.iconst 1, 1) := by decide +kernel
theorem d_Law_1003 : decode code 1003 = .ok (.iadd, 1) := by decide +kernel
theorem d_Law_1004 : decode code 1004 = .ok (.iaload, 1) := by decide +kernel
theorem d_Law_1005 : decode code 1005 = .ok (.aload_n 0, 1) := by decide +kernel
theorem d_Law_1006 : decode code 1006 = .ok (.iload_n 3, 1) := by decide +kernel
theorem d_Law_1007 : decode code 1007 = .ok (.iconst 2, 1) := by decide +kernel
theorem d_Law_1008 : decode code 1008 = .ok (.iadd, 1) := by decide +kernel
theorem d_Law_1009 : decode code 1009 = .ok (.iaload, 1) := by decide +kernel
theorem d_Law_1010 : decode code 1010 = .ok (.aload_n 0, 1) := by decide +kernel
theorem d_Law_1011 : decode code 1011 = .ok (.iload_n 3, 1) := by decide +kernel
theorem d_Law_1012 : decode code 1012 = .ok (.iconst 3, 1) := by decide +kernel
theorem d_Law_1013 : decode code 1013 = .ok (.iadd, 1) := by decide +kernel
theorem d_Law_1014 : decode code 1014 = .ok (.iaload, 1) := by decide +kernel
theorem d_Law_1015 : decode code 1015 = .ok (.aload_n 0, 1) := by decide +kernel
theorem d_Law_1016 : decode code 1016 = .ok (.iload_n 3, 1) := by decide +kernel
theorem d_Law_1017 : decode code 1017 = .ok (.iconst 4, 1) := by decide +kernel
theorem d_Law_1018 : decode code 1018 = .ok (.iadd, 1) := by decide +kernel
theorem d_Law_1019 : decode code 1019 = .ok (.iaload, 1) := by decide +kernel
theorem d_Law_1020 : decode code 1020 = .ok (.aload_n 0, 1) := by decide +kernel
theorem d_Law_1021 : decode code 1021 = .ok (.iload_n 3, 1) := by decide +kernel
theorem d_Law_1022 : decode code 1022 = .ok (.iconst 5, 1) := by decide +kernel
theorem d_Law_1023 : decode code 1023 = .ok (.iadd, 1) := by decide +kernel
theorem d_Law_1024 : decode code 1024 = .ok (.iaload, 1) := by decide +kernel
theorem d_Law_1025 : decode code 1025 = .ok (.invokevirtual 118, 3) := by decide +kernel
theorem d_Law_1028 : decode code 1028 = .ok (.if_icmp .eq 220, 3) := by decide +kernel
theorem d_Law_1031 : decode code 1031 = .ok (.iconst 0, 1) := by decide +kernel
theorem d_Law_1032 : decode code 1032 = .ok (.ireturn, 1) := by decide +kernel
theorem d_Law_1033 : decode code 1033 = .ok (.aload_n 1, 1) := by decide +kernel
theorem d_Law_1034 : decode code 1034 = .ok (.aload_n 0, 1) := by decide +kernel
theorem d_Law_1035 : decode code 1035 = .ok (.iload_n 3, 1) := by decide +kernel
theorem d_Law_1036 : decode code 1036 = .ok (.iconst 1, 1) := by decide +kernel
theorem d_Law_1037 : decode code 1037 = .ok (.iadd, 1) := by decide +kernel
theorem d_Law_1038 : decode code 1038 = .ok (.iaload, 1) := by decide +kernel
theorem d_Law_1039 : decode code 1039 = .ok (.aload_n 0, 1) := by decide +kernel
theorem d_Law_1040 : decode code 1040 = .ok (.iload_n 3, 1) := by decide +kernel
theorem d_Law_1041 : decode code 1041 = .ok (.iconst 2, 1) := by decide +kernel
theorem d_Law_1042 : decode code 1042 = .ok (.iadd, 1) := by decide +kernel
theorem d_Law_1043 : decode code 1043 = .ok (.iaload, 1) := by decide +kernel
theorem d_Law_1044 : decode code 1044 = .ok (.invokevirtual 119, 3) := by decide +kernel
theorem d_Law_1047 : decode code 1047 = .ok (.aload_n 2, 1) := by decide +kernel
theorem d_Law_1048 : decode code 1048 = .ok (.aload_n 0, 1) := by decide +kernel
theorem d_Law_1049 : decode code 1049 = .ok (.iload_n 3, 1) := by decide +kernel
theorem d_Law_1050 : decode code 1050 = .ok (.iconst 1, 1) := by decide +kernel
theorem d_Law_1051 : decode code 1051 = .ok (.iadd, 1) := by decide +kernel
theorem d_Law_1052 : decode code 1052 = .ok (.iaload, 1) := by decide +kernel
theorem d_Law_1053 : decode code 1053 = .ok (.aload_n 0, 1) := by decide +kernel
theorem d_Law_1054 : decode code 1054 = .ok (.iload_n 3, 1) := by decide +kernel
theorem d_Law_1055 : decode code 1055 = .ok (.iconst 2, 1) := by decide +kernel
theorem d_Law_1056 : decode code 1056 = .ok (.iadd, 1) := by decide +kernel
theorem d_Law_1057 : decode code 1057 = .ok (.iaload, 1) := by decide +kernel
theorem d_Law_1058 : decode code 1058 = .ok (.invokevirtual 122, 3) := by decide +kernel
theorem d_Law_1061 : decode code 1061 = .ok (.if_icmp .eq 187, 3) := by decide +kernel
theorem d_Law_1064 : decode code 1064 = .ok (.iconst 0, 1) := by decide +kernel
theorem d_Law_1065 : decode code 1065 = .ok (.ireturn, 1) := by decide +kernel
theorem d_Law_1066 : decode code 1066 = .ok (.aload_n 1, 1) := by decide +kernel
theorem d_Law_1067 : decode code 1067 = .ok (.aload_n 0, 1) := by decide +kernel
theorem d_Law_1068 : decode code 1068 = .ok (.iload_n 3, 1) := by decide +kernel
theorem d_Law_1069 : decode code 1069 = .ok (.iconst 1, 1) := by decide +kernel
theorem d_Law_1070 : decode code 1070 = .ok (.iadd, 1) := by decide +kernel
theorem d_Law_1071 : decode code 1071 = .ok (.iaload, 1) := by decide +kernel
theorem d_Law_1072 : decode code 1072 = .ok (.aload_n 0, 1) := by decide +kernel
theorem d_Law_1073 : decode code 1073 = .ok (.iload_n 3, 1) := by decide +kernel
theorem d_Law_1074 : decode code 1074 = .ok (.iconst 2, 1) := by decide +kernel
theorem d_Law_1075 : decode code 1075 = .ok (.iadd, 1) := by decide +kernel
theorem d_Law_1076 : decode code 1076 = .ok (.iaload, 1) := by decide +kernel
theorem d_Law_1077 : decode code 1077 = .ok (.aload_n 0, 1) := by decide +kernel
theorem d_Law_1078 : decode code 1078 = .ok (.iload_n 3, 1) := by decide +kernel
theorem d_Law_1079 : decode code 1079 = .ok (.iconst 3, 1) := by decide +kernel
theorem d_Law_1080 : decode code 1080 = .ok (.iadd, 1) := by decide +kernel
theorem d_Law_1081 : decode code 1081 = .ok (.iaload, 1) := by decide +kernel
theorem d_Law_1082 : decode code 1082 = .ok (.invokevirtual 123, 3) := by decide +kernel
theorem d_Law_1085 : decode code 1085 = .ok (.aload_n 2, 1) := by decide +kernel
theorem d_Law_1086 : decode code 1086 = .ok (.aload_n 0, 1) := by decide +kernel
theorem d_Law_1087 : decode code 1087 = .ok (.iload_n 3, 1) := by decide +kernel
theorem d_Law_1088 : decode code 1088 = .ok (.iconst 1, 1) := by decide +kernel
theorem d_Law_1089 : decode code 1089 = .ok (.iadd, 1) := by decide +kernel
theorem d_Law_1090 : decode code 1090 = .ok (.iaload, 1) := by decide +kernel
theorem d_Law_1091 : decode code 1091 = .ok (.aload_n 0, 1) := by decide +kernel
theorem d_Law_1092 : decode code 1092 = .ok (.iload_n 3, 1) := by decide +kernel
theorem d_Law_1093 : decode code 1093 = .ok (.iconst 2, 1) := by decide +kernel
theorem d_Law_1094 : decode code 1094 = .ok (.iadd, 1) := by decide +kernel
theorem d_Law_1095 : decode code 1095 = .ok (.iaload, 1) := by decide +kernel
theorem d_Law_1096 : decode code 1096 = .ok (.aload_n 0, 1) := by decide +kernel
theorem d_Law_1097 : decode code 1097 = .ok (.iload_n 3, 1) := by decide +kernel
theorem d_Law_1098 : decode code 1098 = .ok (.iconst 3, 1) := by decide +kernel
theorem d_Law_1099 : decode code 1099 = .ok (.iadd, 1) := by decide +kernel
theorem d_Law_1100 : decode code 1100 = .ok (.iaload, 1) := by decide +kernel
theorem d_Law_1101 : decode code 1101 = .ok (.invokevirtual 126, 3) := by decide +kernel
theorem d_Law_1104 : decode code 1104 = .ok (.if_icmp .eq 144, 3) := by decide +kernel
theorem d_Law_1107 : decode code 1107 = .ok (.iconst 0, 1) := by decide +kernel
theorem d_Law_1108 : decode code 1108 = .ok (.ireturn, 1) := by decide +kernel
theorem d_Law_1109 : decode code 1109 = .ok (.aload_n 1, 1) := by decide +kernel
theorem d_Law_1110 : decode code 1110 = .ok (.aload_n 0, 1) := by decide +kernel
theorem d_Law_1111 : decode code 1111 = .ok (.iload_n 3, 1) := by decide +kernel
theorem d_Law_1112 : decode code 1112 = .ok (.iconst 1, 1) := by decide +kernel
theorem d_Law_1113 : decode code 1113 = .ok (.iadd, 1) := by decide +kernel
theorem d_Law_1114 : decode code 1114 = .ok (.iaload, 1) := by decide +kernel
theorem d_Law_1115 : decode code 1115 = .ok (.aload_n 0, 1) := by decide +kernel
theorem d_Law_1116 : decode code 1116 = .ok (.iload_n 3, 1) := by decide +kernel
theorem d_Law_1117 : decode code 1117 = .ok (.iconst 2, 1) := by decide +kernel
theorem d_Law_1118 : decode code 1118 = .ok (.iadd, 1) := by decide +kernel
theorem d_Law_1119 : decode code 1119 = .ok (.iaload, 1) := by decide +kernel
theorem d_Law_1120 : decode code 1120 = .ok (.aload_n 0, 1) := by decide +kernel
theorem d_Law_1121 : decode code 1121 = .ok (.iload_n 3, 1) := by decide +kernel
theorem d_Law_1122 : decode code 1122 = .ok (.iconst 3, 1) := by decide +kernel
theorem d_Law_1123 : decode code 1123 = .ok (.iadd, 1) := by decide +kernel
theorem d_Law_1124 : decode code 1124 = .ok (.iaload, 1) := by decide +kernel
theorem d_Law_1125 : decode code 1125 = .ok (.aload_n 0, 1) := by decide +kernel
theorem d_Law_1126 : decode code 1126 = .ok (.iload_n 3, 1) := by decide +kernel
theorem d_Law_1127 : decode code 1127 = .ok (.iconst 4, 1) := by decide +kernel
theorem d_Law_1128 : decode code 1128 = .ok (.iadd, 1) := by decide +kernel
theorem d_Law_1129 : decode code 1129 = .ok (.iaload, 1) := by decide +kernel
theorem d_Law_1130 : decode code 1130 = .ok (.invokevirtual 127, 3) := by decide +kernel
theorem d_Law_1133 : decode code 1133 = .ok (.aload_n 2, 1) := by decide +kernel
theorem d_Law_1134 : decode code 1134 = .ok (.aload_n 0, 1) := by decide +kernel
theorem d_Law_1135 : decode code 1135 = .ok (.iload_n 3, 1) := by decide +kernel
theorem d_Law_1136 : decode code 1136 = .ok (.iconst 1, 1) := by decide +kernel
theorem d_Law_1137 : decode code 1137 = .ok (.iadd, 1) := by decide +kernel
theorem d_Law_1138 : decode code 1138 = .ok (.iaload, 1) := by decide +kernel
theorem d_Law_1139 : decode code 1139 = .ok (.aload_n 0, 1) := by decide +kernel
theorem d_Law_1140 : decode code 1140 = .ok (.iload_n 3, 1) := by decide +kernel
theorem d_Law_1141 : decode code 1141 = .ok (.iconst 2, 1) := by decide +kernel
theorem d_Law_1142 : decode code 1142 = .ok (.iadd, 1) := by decide +kernel
theorem d_Law_1143 : decode code 1143 = .ok (.iaload, 1) := by decide +kernel
theorem d_Law_1144 : decode code 1144 = .ok (.aload_n 0, 1) := by decide +kernel
theorem d_Law_1145 : decode code 1145 = .ok (.iload_n 3, 1) := by decide +kernel
theorem d_Law_1146 : decode code 1146 = .ok (.iconst 3, 1) := by decide +kernel
theorem d_Law_1147 : decode code 1147 = .ok (.iadd, 1) := by decide +kernel
theorem d_Law_1148 : decode code 1148 = .ok (.iaload, 1) := by decide +kernel
theorem d_Law_1149 : decode code 1149 = .ok (.aload_n 0, 1) := by decide +kernel
theorem d_Law_1150 : decode code 1150 = .ok (.iload_n 3, 1) := by decide +kernel
theorem d_Law_1151 : decode code 1151 = .ok (.iconst 4, 1) := by decide +kernel
theorem d_Law_1152 : decode code 1152 = .ok (.iadd, 1) := by decide +kernel
theorem d_Law_1153 : decode code 1153 = .ok (.iaload, 1) := by decide +kernel
theorem d_Law_1154 : decode code 1154 = .ok (.invokevirtual 130, 3) := by decide +kernel
theorem d_Law_1157 : decode code 1157 = .ok (.if_icmp .eq 91, 3) := by decide +kernel
theorem d_Law_1160 : decode code 1160 = .ok (.iconst 0, 1) := by decide +kernel
theorem d_Law_1161 : decode code 1161 = .ok (.ireturn, 1) := by decide +kernel
theorem d_Law_1162 : decode code 1162 = .ok (.aload_n 1, 1) := by decide +kernel
theorem d_Law_1163 : decode code 1163 = .ok (.aload_n 0, 1) := by decide +kernel
theorem d_Law_1164 : decode code 1164 = .ok (.iload_n 3, 1) := by decide +kernel
theorem d_Law_1165 : decode code 1165 = .ok (.iconst 1, 1) := by decide +kernel
theorem d_Law_1166 : decode code 1166 = .ok (.iadd, 1) := by decide +kernel
theorem d_Law_1167 : decode code 1167 = .ok (.iaload, 1) := by decide +kernel
theorem d_Law_1168 : decode code 1168 = .ok (.aload_n 0, 1) := by decide +kernel
theorem d_Law_1169 : decode code 1169 = .ok (.iload_n 3, 1) := by decide +kernel
theorem d_Law_1170 : decode code 1170 = .ok (.iconst 2, 1) := by decide +kernel
theorem d_Law_1171 : decode code 1171 = .ok (.iadd, 1) := by decide +kernel
theorem d_Law_1172 : decode code 1172 = .ok (.iaload, 1) := by decide +kernel
theorem d_Law_1173 : decode code 1173 = .ok (.aload_n 0, 1) := by decide +kernel
theorem d_Law_1174 : decode code 1174 = .ok (.iload_n 3, 1) := by decide +kernel
theorem d_Law_1175 : decode code 1175 = .ok (.iconst 3, 1) := by decide +kernel
theorem d_Law_1176 : decode code 1176 = .ok (.iadd, 1) := by decide +kernel
theorem d_Law_1177 : decode code 1177 = .ok (.iaload, 1) := by decide +kernel
theorem d_Law_1178 : decode code 1178 = .ok (.invokevirtual 131, 3) := by decide +kernel
theorem d_Law_1181 : decode code 1181 = .ok (.aload_n 2, 1) := by decide +kernel
theorem d_Law_1182 : decode code 1182 = .ok (.aload_n 0, 1) := by decide +kernel
theorem d_Law_1183 : decode code 1183 = .ok (.iload_n 3, 1) := by decide +kernel
theorem d_Law_1184 : decode code 1184 = .ok (.iconst 1, 1) := by decide +kernel
theorem d_Law_1185 : decode code 1185 = .ok (.iadd, 1) := by decide +kernel
theorem d_Law_1186 : decode code 1186 = .ok (.iaload, 1) := by decide +kernel
theorem d_Law_1187 : decode code 1187 = .ok (.aload_n 0, 1) := by decide +kernel
theorem d_Law_1188 : decode code 1188 = .ok (.iload_n 3, 1) := by decide +kernel
theorem d_Law_1189 : decode code 1189 = .ok (.iconst 2, 1) := by decide +kernel
theorem d_Law_1190 : decode code 1190 = .ok (.iadd, 1) := by decide +kernel
theorem d_Law_1191 : decode code 1191 = .ok (.iaload, 1) := by decide +kernel
theorem d_Law_1192 : decode code 1192 = .ok (.aload_n 0, 1) := by decide +kernel
theorem d_Law_1193 : decode code 1193 = .ok (.iload_n 3, 1) := by decide +kernel
theorem d_Law_1194 : decode code 1194 = .ok (.iconst 3, 1) := by decide +kernel
theorem d_Law_1195 : decode code 1195 = .ok (.iadd, 1) := by decide +kernel
theorem d_Law_1196 : decode code 1196 = .ok (.iaload, 1) := by decide +kernel
theorem d_Law_1197 : decode code 1197 = .ok (.invokevirtual 134, 3) := by decide +kernel
theorem d_Law_1200 : decode code 1200 = .ok (.if_icmp .eq 48, 3) := by decide +kernel
theorem d_Law_1203 : decode code 1203 = .ok (.iconst 0, 1) := by decide +kernel
theorem d_Law_1204 : decode code 1204 = .ok (.ireturn, 1) := by decide +kernel
theorem d_Law_1205 : decode code 1205 = .ok (.aload_n 1, 1) := by decide +kernel
theorem d_Law_1206 : decode code 1206 = .ok (.aload_n 0, 1) := by decide +kernel
theorem d_Law_1207 : decode code 1207 = .ok (.iload_n 3, 1) := by decide +kernel
theorem d_Law_1208 : decode code 1208 = .ok (.iconst 1, 1) := by decide +kernel
theorem d_Law_1209 : decode code 1209 = .ok (.iadd, 1) := by decide +kernel
theorem d_Law_1210 : decode code 1210 = .ok (.iaload, 1) := by decide +kernel
theorem d_Law_1211 : decode code 1211 = .ok (.aload_n 0, 1) := by decide +kernel
theorem d_Law_1212 : decode code 1212 = .ok (.iload_n 3, 1) := by decide +kernel
theorem d_Law_1213 : decode code 1213 = .ok (.iconst 2, 1) := by decide +kernel
theorem d_Law_1214 : decode code 1214 = .ok (.iadd, 1) := by decide +kernel
theorem d_Law_1215 : decode code 1215 = .ok (.iaload, 1) := by decide +kernel
theorem d_Law_1216 : decode code 1216 = .ok (.aload_n 0, 1) := by decide +kernel
theorem d_Law_1217 : decode code 1217 = .ok (.iload_n 3, 1) := by decide +kernel
theorem d_Law_1218 : decode code 1218 = .ok (.iconst 3, 1) := by decide +kernel
theorem d_Law_1219 : decode code 1219 = .ok (.iadd, 1) := by decide +kernel
theorem d_Law_1220 : decode code 1220 = .ok (.iaload, 1) := by decide +kernel
theorem d_Law_1221 : decode code 1221 = .ok (.invokevirtual 135, 3) := by decide +kernel
theorem d_Law_1224 : decode code 1224 = .ok (.aload_n 2, 1) := by decide +kernel
theorem d_Law_1225 : decode code 1225 = .ok (.aload_n 0, 1) := by decide +kernel
theorem d_Law_1226 : decode code 1226 = .ok (.iload_n 3, 1) := by decide +kernel
theorem d_Law_1227 : decode code 1227 = .ok (.iconst 1, 1) := by decide +kernel
theorem d_Law_1228 : decode code 1228 = .ok (.iadd, 1) := by decide +kernel
theorem d_Law_1229 : decode code 1229 = .ok (.iaload, 1) := by decide +kernel
theorem d_Law_1230 : decode code 1230 = .ok (.aload_n 0, 1) := by decide +kernel
theorem d_Law_1231 : decode code 1231 = .ok (.iload_n 3, 1) := by decide +kernel
theorem d_Law_1232 : decode code 1232 = .ok (.iconst 2, 1) := by decide +kernel
theorem d_Law_1233 : decode code 1233 = .ok (.iadd, 1) := by decide +kernel
theorem d_Law_1234 : decode code 1234 = .ok (.iaload, 1) := by decide +kernel
theorem d_Law_1235 : decode code 1235 = .ok (.aload_n 0, 1) := by decide +kernel
theorem d_Law_1236 : decode code 1236 = .ok (.iload_n 3, 1) := by decide +kernel
theorem d_Law_1237 : decode code 1237 = .ok (.iconst 3, 1) := by decide +kernel
theorem d_Law_1238 : decode code 1238 = .ok (.iadd, 1) := by decide +kernel
theorem d_Law_1239 : decode code 1239 = .ok (.iaload, 1) := by decide +kernel
theorem d_Law_1240 : decode code 1240 = .ok (.invokevirtual 138, 3) := by decide +kernel
theorem d_Law_1243 : decode code 1243 = .ok (.if_icmp .eq 5, 3) := by decide +kernel
theorem d_Law_1246 : decode code 1246 = .ok (.iconst 0, 1) := by decide +kernel
theorem d_Law_1247 : decode code 1247 = .ok (.ireturn, 1) := by decide +kernel
theorem d_Law_1248 : decode code 1248 = .ok (.iinc 3 6, 3) := by decide +kernel
theorem d_Law_1251 : decode code 1251 = .ok (.goto (-1233), 3) := by decide +kernel
theorem d_Law_1254 : decode code 1254 = .ok (.iconst 1, 1) := by decide +kernel
theorem d_Law_1255 : decode code 1255 = .ok (.ireturn, 1) := by decide +kernel
theorem lc_Law_7 : Cond.classLink "GainTablesLaw" 7 "GainTables" ∈ ga_T := ga_mem 76 (by decide +kernel)
theorem ic_GT : Cond.instantiable "GainTables" 9 ∈ ga_T ∧ Cond.initialized "GainTables" ∈ ga_T := ⟨ga_mem 77 (by decide +kernel), ga_mem 64 (by decide +kernel)⟩
theorem li_Law_9 : gc_LI "GainTablesLaw" 9 mt_GT_init := ⟨in_GT_init, rfl, ga_mem 79 (by decide +kernel), rfl, by decide +kernel, Or.inl (ga_mem 78 (by decide +kernel))⟩
theorem lc_Law_10 : Cond.classLink "GainTablesLaw" 10 "GainTablesModel" ∈ ga_T := ga_mem 817 (by decide +kernel)
theorem ic_Mo : Cond.instantiable "GainTablesModel" 14 ∈ ga_T ∧ Cond.initialized "GainTablesModel" ∈ ga_T := ⟨ga_mem 818 (by decide +kernel), ga_mem 73 (by decide +kernel)⟩
theorem li_Law_12 : gc_LI "GainTablesLaw" 12 mt_Mo_init := ⟨in_Mo_init, rfl, ga_mem 820 (by decide +kernel), rfl, by decide +kernel, Or.inl (ga_mem 819 (by decide +kernel))⟩
theorem lk_Law_13 : ga_LV "GainTablesLaw" 13 mt_GT_addBorder 4 := ⟨in_GT_addBorder, ga_mem 320 (by decide +kernel), ga_mem 321 (by decide +kernel), ga_mem 322 (by decide +kernel), by decide +kernel⟩
theorem lk_Law_17 : ga_LV "GainTablesLaw" 17 mt_Mo_addBorder 4 := ⟨in_Mo_addBorder, ga_mem 870 (by decide +kernel), ga_mem 871 (by decide +kernel), ga_mem 872 (by decide +kernel), by decide +kernel⟩
theorem lk_Law_18 : ga_LV "GainTablesLaw" 18 mt_GT_removeBorder 2 := ⟨in_GT_removeBorder, ga_mem 435 (by decide +kernel), ga_mem 436 (by decide +kernel), ga_mem 437 (by decide +kernel), by decide +kernel⟩
theorem lk_Law_22 : ga_LV "GainTablesLaw" 22 mt_Mo_removeBorder 2 := ⟨in_Mo_removeBorder, ga_mem 944 (by decide +kernel), ga_mem 945 (by decide +kernel), ga_mem 946 (by decide +kernel), by decide +kernel⟩
theorem lk_Law_23 : ga_LV "GainTablesLaw" 23 mt_GT_setReach 3 := ⟨in_GT_setReach, ga_mem 456 (by decide +kernel), ga_mem 457 (by decide +kernel), ga_mem 458 (by decide +kernel), by decide +kernel⟩
theorem lk_Law_27 : ga_LV "GainTablesLaw" 27 mt_Mo_setReach 3 := ⟨in_Mo_setReach, ga_mem 952 (by decide +kernel), ga_mem 953 (by decide +kernel), ga_mem 954 (by decide +kernel), by decide +kernel⟩
theorem lk_Law_28 : ga_LV "GainTablesLaw" 28 mt_GT_setOperator 3 := ⟨in_GT_setOperator, ga_mem 477 (by decide +kernel), ga_mem 478 (by decide +kernel), ga_mem 479 (by decide +kernel), by decide +kernel⟩
theorem lk_Law_31 : ga_LV "GainTablesLaw" 31 mt_Mo_setOperator 3 := ⟨in_Mo_setOperator, ga_mem 956 (by decide +kernel), ga_mem 957 (by decide +kernel), ga_mem 958 (by decide +kernel), by decide +kernel⟩
theorem lk_Law_32 : ga_LV "GainTablesLaw" 32 mt_GT_edit 5 := ⟨in_GT_edit, ga_mem 485 (by decide +kernel), ga_mem 486 (by decide +kernel), ga_mem 487 (by decide +kernel), by decide +kernel⟩
theorem lk_Law_36 : ga_LV "GainTablesLaw" 36 mt_Mo_edit 5 := ⟨in_Mo_edit, ga_mem 964 (by decide +kernel), ga_mem 965 (by decide +kernel), ga_mem 966 (by decide +kernel), by decide +kernel⟩
theorem lk_Law_37 : ga_LV "GainTablesLaw" 37 mt_GT_scale 3 := ⟨in_GT_scale, ga_mem 517 (by decide +kernel), ga_mem 518 (by decide +kernel), ga_mem 519 (by decide +kernel), by decide +kernel⟩
theorem lk_Law_40 : ga_LV "GainTablesLaw" 40 mt_Mo_scale 3 := ⟨in_Mo_scale, ga_mem 984 (by decide +kernel), ga_mem 985 (by decide +kernel), ga_mem 986 (by decide +kernel), by decide +kernel⟩
theorem lk_Law_41 : ga_LV "GainTablesLaw" 41 mt_GT_lock 4 := ⟨in_GT_lock, ga_mem 524 (by decide +kernel), ga_mem 525 (by decide +kernel), ga_mem 526 (by decide +kernel), by decide +kernel⟩
theorem lk_Law_44 : ga_LV "GainTablesLaw" 44 mt_Mo_lock 4 := ⟨in_Mo_lock, ga_mem 988 (by decide +kernel), ga_mem 989 (by decide +kernel), ga_mem 990 (by decide +kernel), by decide +kernel⟩
theorem lk_Law_45 : ga_LV "GainTablesLaw" 45 mt_GT_setMargin 1 := ⟨in_GT_setMargin, ga_mem 535 (by decide +kernel), ga_mem 536 (by decide +kernel), ga_mem 537 (by decide +kernel), by decide +kernel⟩
theorem lk_Law_49 : ga_LV "GainTablesLaw" 49 mt_Mo_setMargin 1 := ⟨in_Mo_setMargin, ga_mem 996 (by decide +kernel), ga_mem 997 (by decide +kernel), ga_mem 998 (by decide +kernel), by decide +kernel⟩
theorem lk_Law_50 : ga_LV "GainTablesLaw" 50 mt_GT_move 2 := ⟨in_GT_move, ga_mem 539 (by decide +kernel), ga_mem 540 (by decide +kernel), ga_mem 541 (by decide +kernel), by decide +kernel⟩
theorem lk_Law_53 : ga_LV "GainTablesLaw" 53 mt_Mo_move 2 := ⟨in_Mo_move, ga_mem 1000 (by decide +kernel), ga_mem 1001 (by decide +kernel), ga_mem 1002 (by decide +kernel), by decide +kernel⟩
theorem lk_Law_54 : ga_LV "GainTablesLaw" 54 mt_GT_sweep 3 := ⟨in_GT_sweep, ga_mem 616 (by decide +kernel), ga_mem 617 (by decide +kernel), ga_mem 618 (by decide +kernel), by decide +kernel⟩
theorem lk_Law_57 : ga_LV "GainTablesLaw" 57 mt_Mo_sweep 3 := ⟨in_Mo_sweep, ga_mem 1059 (by decide +kernel), ga_mem 1060 (by decide +kernel), ga_mem 1061 (by decide +kernel), by decide +kernel⟩
theorem lk_Law_58 : ga_LV "GainTablesLaw" 58 mt_GT_take 1 := ⟨in_GT_take, ga_mem 623 (by decide +kernel), ga_mem 624 (by decide +kernel), ga_mem 625 (by decide +kernel), by decide +kernel⟩
theorem lk_Law_61 : ga_LV "GainTablesLaw" 61 mt_Mo_take 1 := ⟨in_Mo_take, ga_mem 1063 (by decide +kernel), ga_mem 1064 (by decide +kernel), ga_mem 1065 (by decide +kernel), by decide +kernel⟩
theorem lk_Law_62 : ga_LV "GainTablesLaw" 62 mt_GT_restore 1 := ⟨in_GT_restore, ga_mem 639 (by decide +kernel), ga_mem 640 (by decide +kernel), ga_mem 641 (by decide +kernel), by decide +kernel⟩
theorem lk_Law_65 : ga_LV "GainTablesLaw" 65 mt_Mo_restore 1 := ⟨in_Mo_restore, ga_mem 1074 (by decide +kernel), ga_mem 1075 (by decide +kernel), ga_mem 1076 (by decide +kernel), by decide +kernel⟩
theorem lk_Law_66 : ga_LV "GainTablesLaw" 66 mt_GT_undo 0 := ⟨in_GT_undo, ga_mem 648 (by decide +kernel), ga_mem 649 (by decide +kernel), ga_mem 650 (by decide +kernel), by decide +kernel⟩
theorem lk_Law_70 : ga_LV "GainTablesLaw" 70 mt_Mo_undo 0 := ⟨in_Mo_undo, ga_mem 1078 (by decide +kernel), ga_mem 1079 (by decide +kernel), ga_mem 1080 (by decide +kernel), by decide +kernel⟩
theorem lk_Law_71 : ga_LV "GainTablesLaw" 71 mt_GT_append 1 := ⟨in_GT_append, ga_mem 656 (by decide +kernel), ga_mem 657 (by decide +kernel), ga_mem 658 (by decide +kernel), by decide +kernel⟩
theorem lk_Law_74 : ga_LV "GainTablesLaw" 74 mt_Mo_append 1 := ⟨in_Mo_append, ga_mem 1082 (by decide +kernel), ga_mem 1083 (by decide +kernel), ga_mem 1084 (by decide +kernel), by decide +kernel⟩
theorem lk_Law_75 : ga_LV "GainTablesLaw" 75 mt_GT_clearText 0 := ⟨in_GT_clearText, ga_mem 664 (by decide +kernel), ga_mem 665 (by decide +kernel), ga_mem 666 (by decide +kernel), by decide +kernel⟩
theorem lk_Law_78 : ga_LV "GainTablesLaw" 78 mt_Mo_clearText 0 := ⟨in_Mo_clearText, ga_mem 1086 (by decide +kernel), ga_mem 1087 (by decide +kernel), ga_mem 1088 (by decide +kernel), by decide +kernel⟩
theorem lk_Law_79 : ga_LV "GainTablesLaw" 79 mt_GT_load 0 := ⟨in_GT_load, ga_mem 668 (by decide +kernel), ga_mem 669 (by decide +kernel), ga_mem 670 (by decide +kernel), by decide +kernel⟩
theorem lk_Law_82 : ga_LV "GainTablesLaw" 82 mt_Mo_load 0 := ⟨in_Mo_load, ga_mem 1090 (by decide +kernel), ga_mem 1091 (by decide +kernel), ga_mem 1092 (by decide +kernel), by decide +kernel⟩
theorem lk_Law_83 : ga_LV "GainTablesLaw" 83 mt_GT_count 1 := ⟨in_GT_count, ga_mem 723 (by decide +kernel), ga_mem 724 (by decide +kernel), ga_mem 725 (by decide +kernel), by decide +kernel⟩
theorem lk_Law_86 : ga_LV "GainTablesLaw" 86 mt_Mo_count 1 := ⟨in_Mo_count, ga_mem 1132 (by decide +kernel), ga_mem 1133 (by decide +kernel), ga_mem 1134 (by decide +kernel), by decide +kernel⟩
theorem lk_Law_87 : ga_LV "GainTablesLaw" 87 mt_GT_axis 2 := ⟨in_GT_axis, ga_mem 731 (by decide +kernel), ga_mem 732 (by decide +kernel), ga_mem 733 (by decide +kernel), by decide +kernel⟩
theorem lk_Law_90 : ga_LV "GainTablesLaw" 90 mt_Mo_axis 2 := ⟨in_Mo_axis, ga_mem 1140 (by decide +kernel), ga_mem 1141 (by decide +kernel), ga_mem 1142 (by decide +kernel), by decide +kernel⟩
theorem lk_Law_91 : ga_LV "GainTablesLaw" 91 mt_GT_border 3 := ⟨in_GT_border, ga_mem 740 (by decide +kernel), ga_mem 741 (by decide +kernel), ga_mem 742 (by decide +kernel), by decide +kernel⟩
theorem lk_Law_94 : ga_LV "GainTablesLaw" 94 mt_Mo_border 3 := ⟨in_Mo_border, ga_mem 1148 (by decide +kernel), ga_mem 1149 (by decide +kernel), ga_mem 1150 (by decide +kernel), by decide +kernel⟩
theorem lk_Law_95 : ga_LV "GainTablesLaw" 95 mt_GT_region 3 := ⟨in_GT_region, ga_mem 744 (by decide +kernel), ga_mem 745 (by decide +kernel), ga_mem 746 (by decide +kernel), by decide +kernel⟩
theorem lk_Law_98 : ga_LV "GainTablesLaw" 98 mt_Mo_region 3 := ⟨in_Mo_region, ga_mem 1152 (by decide +kernel), ga_mem 1153 (by decide +kernel), ga_mem 1154 (by decide +kernel), by decide +kernel⟩
theorem lk_Law_99 : ga_LV "GainTablesLaw" 99 mt_GT_operator 2 := ⟨in_GT_operator, ga_mem 748 (by decide +kernel), ga_mem 749 (by decide +kernel), ga_mem 750 (by decide +kernel), by decide +kernel⟩
theorem lk_Law_102 : ga_LV "GainTablesLaw" 102 mt_Mo_operator 2 := ⟨in_Mo_operator, ga_mem 1156 (by decide +kernel), ga_mem 1157 (by decide +kernel), ga_mem 1158 (by decide +kernel), by decide +kernel⟩
theorem lk_Law_103 : ga_LV "GainTablesLaw" 103 mt_GT_account 1 := ⟨in_GT_account, ga_mem 752 (by decide +kernel), ga_mem 753 (by decide +kernel), ga_mem 754 (by decide +kernel), by decide +kernel⟩
theorem lk_Law_106 : ga_LV "GainTablesLaw" 106 mt_Mo_account 1 := ⟨in_Mo_account, ga_mem 1160 (by decide +kernel), ga_mem 1161 (by decide +kernel), ga_mem 1162 (by decide +kernel), by decide +kernel⟩
theorem lk_Law_107 : ga_LV "GainTablesLaw" 107 mt_GT_gain 2 := ⟨in_GT_gain, ga_mem 760 (by decide +kernel), ga_mem 761 (by decide +kernel), ga_mem 762 (by decide +kernel), by decide +kernel⟩
theorem lk_Law_110 : ga_LV "GainTablesLaw" 110 mt_Mo_gain 2 := ⟨in_Mo_gain, ga_mem 1164 (by decide +kernel), ga_mem 1165 (by decide +kernel), ga_mem 1166 (by decide +kernel), by decide +kernel⟩
theorem lk_Law_111 : ga_LV "GainTablesLaw" 111 mt_GT_trail 2 := ⟨in_GT_trail, ga_mem 764 (by decide +kernel), ga_mem 765 (by decide +kernel), ga_mem 766 (by decide +kernel), by decide +kernel⟩
theorem lk_Law_114 : ga_LV "GainTablesLaw" 114 mt_Mo_trail 2 := ⟨in_Mo_trail, ga_mem 1168 (by decide +kernel), ga_mem 1169 (by decide +kernel), ga_mem 1170 (by decide +kernel), by decide +kernel⟩
theorem lk_Law_115 : ga_LV "GainTablesLaw" 115 mt_GT_refusal 5 := ⟨in_GT_refusal, ga_mem 776 (by decide +kernel), ga_mem 777 (by decide +kernel), ga_mem 778 (by decide +kernel), by decide +kernel⟩
theorem lk_Law_118 : ga_LV "GainTablesLaw" 118 mt_Mo_refusal 5 := ⟨in_Mo_refusal, ga_mem 1172 (by decide +kernel), ga_mem 1173 (by decide +kernel), ga_mem 1174 (by decide +kernel), by decide +kernel⟩
theorem lk_Law_119 : ga_LV "GainTablesLaw" 119 mt_GT_effect 2 := ⟨in_GT_effect, ga_mem 780 (by decide +kernel), ga_mem 781 (by decide +kernel), ga_mem 782 (by decide +kernel), by decide +kernel⟩
theorem lk_Law_122 : ga_LV "GainTablesLaw" 122 mt_Mo_effect 2 := ⟨in_Mo_effect, ga_mem 1176 (by decide +kernel), ga_mem 1177 (by decide +kernel), ga_mem 1178 (by decide +kernel), by decide +kernel⟩
theorem lk_Law_123 : ga_LV "GainTablesLaw" 123 mt_GT_valueAt 3 := ⟨in_GT_valueAt, ga_mem 785 (by decide +kernel), ga_mem 786 (by decide +kernel), ga_mem 787 (by decide +kernel), by decide +kernel⟩
theorem lk_Law_126 : ga_LV "GainTablesLaw" 126 mt_Mo_valueAt 3 := ⟨in_Mo_valueAt, ga_mem 1180 (by decide +kernel), ga_mem 1181 (by decide +kernel), ga_mem 1182 (by decide +kernel), by decide +kernel⟩
theorem lk_Law_127 : ga_LV "GainTablesLaw" 127 mt_GT_chatter 4 := ⟨in_GT_chatter, ga_mem 795 (by decide +kernel), ga_mem 796 (by decide +kernel), ga_mem 797 (by decide +kernel), by decide +kernel⟩
theorem lk_Law_130 : ga_LV "GainTablesLaw" 130 mt_Mo_chatter 4 := ⟨in_Mo_chatter, ga_mem 1188 (by decide +kernel), ga_mem 1189 (by decide +kernel), ga_mem 1190 (by decide +kernel), by decide +kernel⟩
theorem lk_Law_131 : ga_LV "GainTablesLaw" 131 mt_GT_calmReach 3 := ⟨in_GT_calmReach, ga_mem 807 (by decide +kernel), ga_mem 808 (by decide +kernel), ga_mem 809 (by decide +kernel), by decide +kernel⟩
theorem lk_Law_134 : ga_LV "GainTablesLaw" 134 mt_Mo_calmReach 3 := ⟨in_Mo_calmReach, ga_mem 1196 (by decide +kernel), ga_mem 1197 (by decide +kernel), ga_mem 1198 (by decide +kernel), by decide +kernel⟩
theorem lk_Law_135 : ga_LV "GainTablesLaw" 135 mt_GT_steepest 3 := ⟨in_GT_steepest, ga_mem 813 (by decide +kernel), ga_mem 814 (by decide +kernel), ga_mem 815 (by decide +kernel), by decide +kernel⟩
theorem lk_Law_138 : ga_LV "GainTablesLaw" 138 mt_Mo_steepest 3 := ⟨in_Mo_steepest, ga_mem 1200 (by decide +kernel), ga_mem 1201 (by decide +kernel), ga_mem 1202 (by decide +kernel), by decide +kernel⟩
