/-! the law: its calls -/
section LC
variable {G : ga_G} {I : ga_I} {E : Option ga_V → ga_I → Prop} {A : na_A} {i : Nat}
abbrev lw_l (i : Nat) : List (Option ga_V) := [some (.inr 1000), some (.inr 0), some (.inr 348), some (.inl (i : Int))]
theorem rx_fl {I J : ga_I} {A : na_A} (h : rx I A) (f : ∀ a, a < 348 → J a = I a) : rx J A := rx_fr h (fun a ha => f a (by omega))
theorem na_fl {I J : ga_I} {A : na_A} (h : na_ab I = A) (f : ∀ a, 348 ≤ a → J a = I a) : na_ab J = A := by
  rw [← h]; unfold na_ab; rw [f 349 (by omega), f 351 (by omega), f 348 (by omega), f 352 (by omega)]
theorem q_addBorder (hL : ga_L G < 100000) (hi : i + 6 ≤ ga_L G) (hx : rx I A) (eA : na_ab I = A) (hA : ni_a A) (K : ∀ J A', rx J A' → na_ab J = A' → ni_a A' → ga_W G 8 mt_Law 1248 (lw_l i) [] J E) : ga_W G 8 mt_Law 168 (lw_l i) [] I E := by
  refine gw_aload_n 1 d_Law_168 rfl rfl ?_
  refine gw_arg (j := 1) hL (by omega) d_Law_169 d_Law_170 d_Law_171 d_Law_172 d_Law_173 ?_
  refine gw_arg (j := 2) hL (by omega) d_Law_174 d_Law_175 d_Law_176 d_Law_177 d_Law_178 ?_
  refine gw_arg (j := 3) hL (by omega) d_Law_179 d_Law_180 d_Law_181 d_Law_182 d_Law_183 ?_
  refine gw_arg (j := 4) hL (by omega) d_Law_184 d_Law_185 d_Law_186 d_Law_187 d_Law_188 ?_
  refine gw_invV (as := [.inl (ga_xs G (i + 1)).toInt, .inl (ga_xs G (i + 2)).toInt, .inl (ga_xs G (i + 3)).toInt, .inl (ga_xs G (i + 4)).toInt]) (k := 0) (rest := []) (d' := 7) d_Law_189 lk_Law_13 (ga_rcv ga_oG rfl rfl) rfl (Nat.le_of_ble_eq_true rfl) (Nat.le_of_ble_eq_true rfl) rfl rfl (x_addBorder (ga_rgI _) (ga_rgI _) (ga_rgI _) (ga_rgI _) hx hA (fun J j1 j2 => ?_))
  refine gw_aload_n 2 d_Law_192 rfl rfl ?_
  refine gw_arg (j := 1) hL (by omega) d_Law_193 d_Law_194 d_Law_195 d_Law_196 d_Law_197 ?_
  refine gw_arg (j := 2) hL (by omega) d_Law_198 d_Law_199 d_Law_200 d_Law_201 d_Law_202 ?_
  refine gw_arg (j := 3) hL (by omega) d_Law_203 d_Law_204 d_Law_205 d_Law_206 d_Law_207 ?_
  refine gw_arg (j := 4) hL (by omega) d_Law_208 d_Law_209 d_Law_210 d_Law_211 d_Law_212 ?_
  refine gw_invV (as := [.inl (ga_xs G (i + 1)).toInt, .inl (ga_xs G (i + 2)).toInt, .inl (ga_xs G (i + 3)).toInt, .inl (ga_xs G (i + 4)).toInt]) (k := 348) (rest := [.inl _]) (d' := 7) d_Law_213 lk_Law_17 (ga_rcv ga_oM rfl rfl) rfl (Nat.le_of_ble_eq_true rfl) (Nat.le_of_ble_eq_true rfl) rfl rfl (m_addBorder (ga_rgI _) (ga_rgI _) (ga_rgI _) (ga_rgI _) (na_fl eA j2) hA (fun J2 k1 k2 => ?_))
  exact gw_icmp_rf 1248 d_Law_216 (by decide) (K J2 _ (rx_fl j1 k2) k1 (nk_addBorder hA))
theorem q_removeBorder (hL : ga_L G < 100000) (hi : i + 6 ≤ ga_L G) (hx : rx I A) (eA : na_ab I = A) (hA : ni_a A) (K : ∀ J A', rx J A' → na_ab J = A' → ni_a A' → ga_W G 8 mt_Law 1248 (lw_l i) [] J E) : ga_W G 8 mt_Law 221 (lw_l i) [] I E := by
  refine gw_aload_n 1 d_Law_221 rfl rfl ?_
  refine gw_arg (j := 1) hL (by omega) d_Law_222 d_Law_223 d_Law_224 d_Law_225 d_Law_226 ?_
  refine gw_arg (j := 2) hL (by omega) d_Law_227 d_Law_228 d_Law_229 d_Law_230 d_Law_231 ?_
  refine gw_invV (as := [.inl (ga_xs G (i + 1)).toInt, .inl (ga_xs G (i + 2)).toInt]) (k := 0) (rest := []) (d' := 7) d_Law_232 lk_Law_18 (ga_rcv ga_oG rfl rfl) rfl (Nat.le_of_ble_eq_true rfl) (Nat.le_of_ble_eq_true rfl) rfl rfl (x_removeBorder (ga_rgI _) (ga_rgI _) hx hA (fun J j1 j2 => ?_))
  refine gw_aload_n 2 d_Law_235 rfl rfl ?_
  refine gw_arg (j := 1) hL (by omega) d_Law_236 d_Law_237 d_Law_238 d_Law_239 d_Law_240 ?_
  refine gw_arg (j := 2) hL (by omega) d_Law_241 d_Law_242 d_Law_243 d_Law_244 d_Law_245 ?_
  refine gw_invV (as := [.inl (ga_xs G (i + 1)).toInt, .inl (ga_xs G (i + 2)).toInt]) (k := 348) (rest := [.inl _]) (d' := 7) d_Law_246 lk_Law_22 (ga_rcv ga_oM rfl rfl) rfl (Nat.le_of_ble_eq_true rfl) (Nat.le_of_ble_eq_true rfl) rfl rfl (m_removeBorder (ga_rgI _) (ga_rgI _) (na_fl eA j2) hA (fun J2 k1 k2 => ?_))
  exact gw_icmp_rf 1248 d_Law_249 (by decide) (K J2 _ (rx_fl j1 k2) k1 (nk_removeBorder hA))
theorem q_setReach (hL : ga_L G < 100000) (hi : i + 6 ≤ ga_L G) (hx : rx I A) (eA : na_ab I = A) (hA : ni_a A) (K : ∀ J A', rx J A' → na_ab J = A' → ni_a A' → ga_W G 8 mt_Law 1248 (lw_l i) [] J E) : ga_W G 8 mt_Law 254 (lw_l i) [] I E := by
  refine gw_aload_n 1 d_Law_254 rfl rfl ?_
  refine gw_arg (j := 1) hL (by omega) d_Law_255 d_Law_256 d_Law_257 d_Law_258 d_Law_259 ?_
  refine gw_arg (j := 2) hL (by omega) d_Law_260 d_Law_261 d_Law_262 d_Law_263 d_Law_264 ?_
  refine gw_arg (j := 3) hL (by omega) d_Law_265 d_Law_266 d_Law_267 d_Law_268 d_Law_269 ?_
  refine gw_invV (as := [.inl (ga_xs G (i + 1)).toInt, .inl (ga_xs G (i + 2)).toInt, .inl (ga_xs G (i + 3)).toInt]) (k := 0) (rest := []) (d' := 7) d_Law_270 lk_Law_23 (ga_rcv ga_oG rfl rfl) rfl (Nat.le_of_ble_eq_true rfl) (Nat.le_of_ble_eq_true rfl) rfl rfl (x_setReach (ga_rgI _) (ga_rgI _) (ga_rgI _) hx hA (fun J j1 j2 => ?_))
  refine gw_aload_n 2 d_Law_273 rfl rfl ?_
  refine gw_arg (j := 1) hL (by omega) d_Law_274 d_Law_275 d_Law_276 d_Law_277 d_Law_278 ?_
  refine gw_arg (j := 2) hL (by omega) d_Law_279 d_Law_280 d_Law_281 d_Law_282 d_Law_283 ?_
  refine gw_arg (j := 3) hL (by omega) d_Law_284 d_Law_285 d_Law_286 d_Law_287 d_Law_288 ?_
  refine gw_invV (as := [.inl (ga_xs G (i + 1)).toInt, .inl (ga_xs G (i + 2)).toInt, .inl (ga_xs G (i + 3)).toInt]) (k := 348) (rest := [.inl _]) (d' := 7) d_Law_289 lk_Law_27 (ga_rcv ga_oM rfl rfl) rfl (Nat.le_of_ble_eq_true rfl) (Nat.le_of_ble_eq_true rfl) rfl rfl (m_setReach (ga_rgI _) (ga_rgI _) (ga_rgI _) (na_fl eA j2) hA (fun J2 k1 k2 => ?_))
  exact gw_icmp_rf 1248 d_Law_292 (by decide) (K J2 _ (rx_fl j1 k2) k1 (nk_setReach hA))
theorem q_setOperator (hL : ga_L G < 100000) (hi : i + 6 ≤ ga_L G) (hx : rx I A) (eA : na_ab I = A) (hA : ni_a A) (K : ∀ J A', rx J A' → na_ab J = A' → ni_a A' → ga_W G 8 mt_Law 1248 (lw_l i) [] J E) : ga_W G 8 mt_Law 297 (lw_l i) [] I E := by
  refine gw_aload_n 1 d_Law_297 rfl rfl ?_
  refine gw_arg (j := 1) hL (by omega) d_Law_298 d_Law_299 d_Law_300 d_Law_301 d_Law_302 ?_
  refine gw_arg (j := 2) hL (by omega) d_Law_303 d_Law_304 d_Law_305 d_Law_306 d_Law_307 ?_
  refine gw_arg (j := 3) hL (by omega) d_Law_308 d_Law_309 d_Law_310 d_Law_311 d_Law_312 ?_
  refine gw_invV (as := [.inl (ga_xs G (i + 1)).toInt, .inl (ga_xs G (i + 2)).toInt, .inl (ga_xs G (i + 3)).toInt]) (k := 0) (rest := []) (d' := 7) d_Law_313 lk_Law_28 (ga_rcv ga_oG rfl rfl) rfl (Nat.le_of_ble_eq_true rfl) (Nat.le_of_ble_eq_true rfl) rfl rfl (x_setOperator (ga_rgI _) (ga_rgI _) (ga_rgI _) hx hA (fun J j1 j2 => ?_))
  refine gw_aload_n 2 d_Law_316 rfl rfl ?_
  refine gw_arg (j := 1) hL (by omega) d_Law_317 d_Law_318 d_Law_319 d_Law_320 d_Law_321 ?_
  refine gw_arg (j := 2) hL (by omega) d_Law_322 d_Law_323 d_Law_324 d_Law_325 d_Law_326 ?_
  refine gw_arg (j := 3) hL (by omega) d_Law_327 d_Law_328 d_Law_329 d_Law_330 d_Law_331 ?_
  refine gw_invV (as := [.inl (ga_xs G (i + 1)).toInt, .inl (ga_xs G (i + 2)).toInt, .inl (ga_xs G (i + 3)).toInt]) (k := 348) (rest := [.inl _]) (d' := 7) d_Law_332 lk_Law_31 (ga_rcv ga_oM rfl rfl) rfl (Nat.le_of_ble_eq_true rfl) (Nat.le_of_ble_eq_true rfl) rfl rfl (m_setOperator (ga_rgI _) (ga_rgI _) (ga_rgI _) (na_fl eA j2) hA (fun J2 k1 k2 => ?_))
  exact gw_icmp_rf 1248 d_Law_335 (by decide) (K J2 _ (rx_fl j1 k2) k1 (nk_setOperator hA))
theorem q_edit (hL : ga_L G < 100000) (hi : i + 6 ≤ ga_L G) (hx : rx I A) (eA : na_ab I = A) (hA : ni_a A) (K : ∀ J A', rx J A' → na_ab J = A' → ni_a A' → ga_W G 8 mt_Law 1248 (lw_l i) [] J E) : ga_W G 8 mt_Law 340 (lw_l i) [] I E := by
  refine gw_aload_n 1 d_Law_340 rfl rfl ?_
  refine gw_arg (j := 1) hL (by omega) d_Law_341 d_Law_342 d_Law_343 d_Law_344 d_Law_345 ?_
  refine gw_arg (j := 2) hL (by omega) d_Law_346 d_Law_347 d_Law_348 d_Law_349 d_Law_350 ?_
  refine gw_arg (j := 3) hL (by omega) d_Law_351 d_Law_352 d_Law_353 d_Law_354 d_Law_355 ?_
  refine gw_arg (j := 4) hL (by omega) d_Law_356 d_Law_357 d_Law_358 d_Law_359 d_Law_360 ?_
  refine gw_arg (j := 5) hL (by omega) d_Law_361 d_Law_362 d_Law_363 d_Law_364 d_Law_365 ?_
  refine gw_invV (as := [.inl (ga_xs G (i + 1)).toInt, .inl (ga_xs G (i + 2)).toInt, .inl (ga_xs G (i + 3)).toInt, .inl (ga_xs G (i + 4)).toInt, .inl (ga_xs G (i + 5)).toInt]) (k := 0) (rest := []) (d' := 7) d_Law_366 lk_Law_32 (ga_rcv ga_oG rfl rfl) rfl (Nat.le_of_ble_eq_true rfl) (Nat.le_of_ble_eq_true rfl) rfl rfl (x_edit (ga_rgI _) (ga_rgI _) (ga_rgI _) (ga_rgI _) (ga_rgI _) hx hA (fun J j1 j2 => ?_))
  refine gw_aload_n 2 d_Law_369 rfl rfl ?_
  refine gw_arg (j := 1) hL (by omega) d_Law_370 d_Law_371 d_Law_372 d_Law_373 d_Law_374 ?_
  refine gw_arg (j := 2) hL (by omega) d_Law_375 d_Law_376 d_Law_377 d_Law_378 d_Law_379 ?_
  refine gw_arg (j := 3) hL (by omega) d_Law_380 d_Law_381 d_Law_382 d_Law_383 d_Law_384 ?_
  refine gw_arg (j := 4) hL (by omega) d_Law_385 d_Law_386 d_Law_387 d_Law_388 d_Law_389 ?_
  refine gw_arg (j := 5) hL (by omega) d_Law_390 d_Law_391 d_Law_392 d_Law_393 d_Law_394 ?_
  refine gw_invV (as := [.inl (ga_xs G (i + 1)).toInt, .inl (ga_xs G (i + 2)).toInt, .inl (ga_xs G (i + 3)).toInt, .inl (ga_xs G (i + 4)).toInt, .inl (ga_xs G (i + 5)).toInt]) (k := 348) (rest := [.inl _]) (d' := 7) d_Law_395 lk_Law_36 (ga_rcv ga_oM rfl rfl) rfl (Nat.le_of_ble_eq_true rfl) (Nat.le_of_ble_eq_true rfl) rfl rfl (m_edit (ga_rgI _) (ga_rgI _) (ga_rgI _) (ga_rgI _) (ga_rgI _) (na_fl eA j2) hA (fun J2 k1 k2 => ?_))
  exact gw_icmp_rf 1248 d_Law_398 (by decide) (K J2 _ (rx_fl j1 k2) k1 (nk_edit hA))
theorem q_scale (hL : ga_L G < 100000) (hi : i + 6 ≤ ga_L G) (hx : rx I A) (eA : na_ab I = A) (hA : ni_a A) (K : ∀ J A', rx J A' → na_ab J = A' → ni_a A' → ga_W G 8 mt_Law 1248 (lw_l i) [] J E) : ga_W G 8 mt_Law 403 (lw_l i) [] I E := by
  refine gw_aload_n 1 d_Law_403 rfl rfl ?_
  refine gw_arg (j := 1) hL (by omega) d_Law_404 d_Law_405 d_Law_406 d_Law_407 d_Law_408 ?_
  refine gw_arg (j := 2) hL (by omega) d_Law_409 d_Law_410 d_Law_411 d_Law_412 d_Law_413 ?_
  refine gw_arg (j := 3) hL (by omega) d_Law_414 d_Law_415 d_Law_416 d_Law_417 d_Law_418 ?_
  refine gw_invV (as := [.inl (ga_xs G (i + 1)).toInt, .inl (ga_xs G (i + 2)).toInt, .inl (ga_xs G (i + 3)).toInt]) (k := 0) (rest := []) (d' := 7) d_Law_419 lk_Law_37 (ga_rcv ga_oG rfl rfl) rfl (Nat.le_of_ble_eq_true rfl) (Nat.le_of_ble_eq_true rfl) rfl rfl (x_scale (ga_rgI _) (ga_rgI _) (ga_rgI _) hx hA (fun J j1 j2 => ?_))
  refine gw_aload_n 2 d_Law_422 rfl rfl ?_
  refine gw_arg (j := 1) hL (by omega) d_Law_423 d_Law_424 d_Law_425 d_Law_426 d_Law_427 ?_
  refine gw_arg (j := 2) hL (by omega) d_Law_428 d_Law_429 d_Law_430 d_Law_431 d_Law_432 ?_
  refine gw_arg (j := 3) hL (by omega) d_Law_433 d_Law_434 d_Law_435 d_Law_436 d_Law_437 ?_
  refine gw_invV (as := [.inl (ga_xs G (i + 1)).toInt, .inl (ga_xs G (i + 2)).toInt, .inl (ga_xs G (i + 3)).toInt]) (k := 348) (rest := [.inl _]) (d' := 7) d_Law_438 lk_Law_40 (ga_rcv ga_oM rfl rfl) rfl (Nat.le_of_ble_eq_true rfl) (Nat.le_of_ble_eq_true rfl) rfl rfl (m_scale (ga_rgI _) (ga_rgI _) (ga_rgI _) (na_fl eA j2) hA (fun J2 k1 k2 => ?_))
  exact gw_icmp_rf 1248 d_Law_441 (by decide) (K J2 _ (rx_fl j1 k2) k1 (nk_scale hA))
theorem q_lock (hL : ga_L G < 100000) (hi : i + 6 ≤ ga_L G) (hx : rx I A) (eA : na_ab I = A) (hA : ni_a A) (K : ∀ J A', rx J A' → na_ab J = A' → ni_a A' → ga_W G 8 mt_Law 1248 (lw_l i) [] J E) : ga_W G 8 mt_Law 446 (lw_l i) [] I E := by
  refine gw_aload_n 1 d_Law_446 rfl rfl ?_
  refine gw_arg (j := 1) hL (by omega) d_Law_447 d_Law_448 d_Law_449 d_Law_450 d_Law_451 ?_
  refine gw_arg (j := 2) hL (by omega) d_Law_452 d_Law_453 d_Law_454 d_Law_455 d_Law_456 ?_
  refine gw_arg (j := 3) hL (by omega) d_Law_457 d_Law_458 d_Law_459 d_Law_460 d_Law_461 ?_
  refine gw_arg (j := 4) hL (by omega) d_Law_462 d_Law_463 d_Law_464 d_Law_465 d_Law_466 ?_
  refine gw_invV (as := [.inl (ga_xs G (i + 1)).toInt, .inl (ga_xs G (i + 2)).toInt, .inl (ga_xs G (i + 3)).toInt, .inl (ga_xs G (i + 4)).toInt]) (k := 0) (rest := []) (d' := 7) d_Law_467 lk_Law_41 (ga_rcv ga_oG rfl rfl) rfl (Nat.le_of_ble_eq_true rfl) (Nat.le_of_ble_eq_true rfl) rfl rfl (x_lock (ga_rgI _) (ga_rgI _) (ga_rgI _) (ga_rgI _) hx hA (fun J j1 j2 => ?_))
  refine gw_aload_n 2 d_Law_470 rfl rfl ?_
  refine gw_arg (j := 1) hL (by omega) d_Law_471 d_Law_472 d_Law_473 d_Law_474 d_Law_475 ?_
  refine gw_arg (j := 2) hL (by omega) d_Law_476 d_Law_477 d_Law_478 d_Law_479 d_Law_480 ?_
  refine gw_arg (j := 3) hL (by omega) d_Law_481 d_Law_482 d_Law_483 d_Law_484 d_Law_485 ?_
  refine gw_arg (j := 4) hL (by omega) d_Law_486 d_Law_487 d_Law_488 d_Law_489 d_Law_490 ?_
  refine gw_invV (as := [.inl (ga_xs G (i + 1)).toInt, .inl (ga_xs G (i + 2)).toInt, .inl (ga_xs G (i + 3)).toInt, .inl (ga_xs G (i + 4)).toInt]) (k := 348) (rest := [.inl _]) (d' := 7) d_Law_491 lk_Law_44 (ga_rcv ga_oM rfl rfl) rfl (Nat.le_of_ble_eq_true rfl) (Nat.le_of_ble_eq_true rfl) rfl rfl (m_lock (ga_rgI _) (ga_rgI _) (ga_rgI _) (ga_rgI _) (na_fl eA j2) hA (fun J2 k1 k2 => ?_))
  exact gw_icmp_rf 1248 d_Law_494 (by decide) (K J2 _ (rx_fl j1 k2) k1 (nk_lock hA))
theorem q_setMargin (hL : ga_L G < 100000) (hi : i + 6 ≤ ga_L G) (hx : rx I A) (eA : na_ab I = A) (hA : ni_a A) (K : ∀ J A', rx J A' → na_ab J = A' → ni_a A' → ga_W G 8 mt_Law 1248 (lw_l i) [] J E) : ga_W G 8 mt_Law 499 (lw_l i) [] I E := by
  refine gw_aload_n 1 d_Law_499 rfl rfl ?_
  refine gw_arg (j := 1) hL (by omega) d_Law_500 d_Law_501 d_Law_502 d_Law_503 d_Law_504 ?_
  refine gw_invV (as := [.inl (ga_xs G (i + 1)).toInt]) (k := 0) (rest := []) (d' := 7) d_Law_505 lk_Law_45 (ga_rcv ga_oG rfl rfl) rfl (Nat.le_of_ble_eq_true rfl) (Nat.le_of_ble_eq_true rfl) rfl rfl (x_setMargin (ga_rgI _) hx hA (fun J j1 j2 => ?_))
  refine gw_aload_n 2 d_Law_508 rfl rfl ?_
  refine gw_arg (j := 1) hL (by omega) d_Law_509 d_Law_510 d_Law_511 d_Law_512 d_Law_513 ?_
  refine gw_invV (as := [.inl (ga_xs G (i + 1)).toInt]) (k := 348) (rest := [.inl _]) (d' := 7) d_Law_514 lk_Law_49 (ga_rcv ga_oM rfl rfl) rfl (Nat.le_of_ble_eq_true rfl) (Nat.le_of_ble_eq_true rfl) rfl rfl (m_setMargin (ga_rgI _) (na_fl eA j2) hA (fun J2 k1 k2 => ?_))
  exact gw_icmp_rf 1248 d_Law_517 (by decide) (K J2 _ (rx_fl j1 k2) k1 (nk_setMargin hA))
theorem q_move (hL : ga_L G < 100000) (hi : i + 6 ≤ ga_L G) (hx : rx I A) (eA : na_ab I = A) (hA : ni_a A) (K : ∀ J A', rx J A' → na_ab J = A' → ni_a A' → ga_W G 8 mt_Law 1248 (lw_l i) [] J E) : ga_W G 8 mt_Law 522 (lw_l i) [] I E := by
  refine gw_aload_n 1 d_Law_522 rfl rfl ?_
  refine gw_arg (j := 1) hL (by omega) d_Law_523 d_Law_524 d_Law_525 d_Law_526 d_Law_527 ?_
  refine gw_arg (j := 2) hL (by omega) d_Law_528 d_Law_529 d_Law_530 d_Law_531 d_Law_532 ?_
  refine gw_invV (as := [.inl (ga_xs G (i + 1)).toInt, .inl (ga_xs G (i + 2)).toInt]) (k := 0) (rest := []) (d' := 7) d_Law_533 lk_Law_50 (ga_rcv ga_oG rfl rfl) rfl (Nat.le_of_ble_eq_true rfl) (Nat.le_of_ble_eq_true rfl) rfl rfl (x_move (ga_rgI _) (ga_rgI _) hx hA (fun J j1 j2 => ?_))
  refine gw_aload_n 2 d_Law_536 rfl rfl ?_
  refine gw_arg (j := 1) hL (by omega) d_Law_537 d_Law_538 d_Law_539 d_Law_540 d_Law_541 ?_
  refine gw_arg (j := 2) hL (by omega) d_Law_542 d_Law_543 d_Law_544 d_Law_545 d_Law_546 ?_
  refine gw_invV (as := [.inl (ga_xs G (i + 1)).toInt, .inl (ga_xs G (i + 2)).toInt]) (k := 348) (rest := [.inl _]) (d' := 7) d_Law_547 lk_Law_53 (ga_rcv ga_oM rfl rfl) rfl (Nat.le_of_ble_eq_true rfl) (Nat.le_of_ble_eq_true rfl) rfl rfl (m_move (ga_rgI _) (ga_rgI _) (na_fl eA j2) hA (fun J2 k1 k2 => ?_))
  exact gw_icmp_rf 1248 d_Law_550 (by decide) (K J2 _ (rx_fl j1 k2) k1 (nk_move hA))
theorem q_sweep (hL : ga_L G < 100000) (hi : i + 6 ≤ ga_L G) (hx : rx I A) (eA : na_ab I = A) (hA : ni_a A) (K : ∀ J A', rx J A' → na_ab J = A' → ni_a A' → ga_W G 8 mt_Law 1248 (lw_l i) [] J E) : ga_W G 8 mt_Law 555 (lw_l i) [] I E := by
  refine gw_aload_n 1 d_Law_555 rfl rfl ?_
  refine gw_arg (j := 1) hL (by omega) d_Law_556 d_Law_557 d_Law_558 d_Law_559 d_Law_560 ?_
  refine gw_arg (j := 2) hL (by omega) d_Law_561 d_Law_562 d_Law_563 d_Law_564 d_Law_565 ?_
  refine gw_arg (j := 3) hL (by omega) d_Law_566 d_Law_567 d_Law_568 d_Law_569 d_Law_570 ?_
  refine gw_invV (as := [.inl (ga_xs G (i + 1)).toInt, .inl (ga_xs G (i + 2)).toInt, .inl (ga_xs G (i + 3)).toInt]) (k := 0) (rest := []) (d' := 7) d_Law_571 lk_Law_54 (ga_rcv ga_oG rfl rfl) rfl (Nat.le_of_ble_eq_true rfl) (Nat.le_of_ble_eq_true rfl) rfl rfl (x_sweep (ga_rgI _) (ga_rgI _) (ga_rgI _) hx hA (fun J j1 j2 => ?_))
  refine gw_aload_n 2 d_Law_574 rfl rfl ?_
  refine gw_arg (j := 1) hL (by omega) d_Law_575 d_Law_576 d_Law_577 d_Law_578 d_Law_579 ?_
  refine gw_arg (j := 2) hL (by omega) d_Law_580 d_Law_581 d_Law_582 d_Law_583 d_Law_584 ?_
  refine gw_arg (j := 3) hL (by omega) d_Law_585 d_Law_586 d_Law_587 d_Law_588 d_Law_589 ?_
  refine gw_invV (as := [.inl (ga_xs G (i + 1)).toInt, .inl (ga_xs G (i + 2)).toInt, .inl (ga_xs G (i + 3)).toInt]) (k := 348) (rest := [.inl _]) (d' := 7) d_Law_590 lk_Law_57 (ga_rcv ga_oM rfl rfl) rfl (Nat.le_of_ble_eq_true rfl) (Nat.le_of_ble_eq_true rfl) rfl rfl (m_sweep (ga_rgI _) (ga_rgI _) (ga_rgI _) (na_fl eA j2) hA (fun J2 k1 k2 => ?_))
  exact gw_icmp_rf 1248 d_Law_593 (by decide) (K J2 _ (rx_fl j1 k2) k1 (nk_sweep hA))
theorem q_take (hL : ga_L G < 100000) (hi : i + 6 ≤ ga_L G) (hx : rx I A) (eA : na_ab I = A) (hA : ni_a A) (K : ∀ J A', rx J A' → na_ab J = A' → ni_a A' → ga_W G 8 mt_Law 1248 (lw_l i) [] J E) : ga_W G 8 mt_Law 598 (lw_l i) [] I E := by
  refine gw_aload_n 1 d_Law_598 rfl rfl ?_
  refine gw_arg (j := 1) hL (by omega) d_Law_599 d_Law_600 d_Law_601 d_Law_602 d_Law_603 ?_
  refine gw_invV (as := [.inl (ga_xs G (i + 1)).toInt]) (k := 0) (rest := []) (d' := 7) d_Law_604 lk_Law_58 (ga_rcv ga_oG rfl rfl) rfl (Nat.le_of_ble_eq_true rfl) (Nat.le_of_ble_eq_true rfl) rfl rfl (x_take (ga_rgI _) hx hA (fun J j1 j2 => ?_))
  refine gw_aload_n 2 d_Law_607 rfl rfl ?_
  refine gw_arg (j := 1) hL (by omega) d_Law_608 d_Law_609 d_Law_610 d_Law_611 d_Law_612 ?_
  refine gw_invV (as := [.inl (ga_xs G (i + 1)).toInt]) (k := 348) (rest := [.inl _]) (d' := 7) d_Law_613 lk_Law_61 (ga_rcv ga_oM rfl rfl) rfl (Nat.le_of_ble_eq_true rfl) (Nat.le_of_ble_eq_true rfl) rfl rfl (m_take (ga_rgI _) (na_fl eA j2) hA (fun J2 k1 k2 => ?_))
  exact gw_icmp_rf 1248 d_Law_616 (by decide) (K J2 _ (rx_fl j1 k2) k1 (nk_take hA))
theorem q_restore (hL : ga_L G < 100000) (hi : i + 6 ≤ ga_L G) (hx : rx I A) (eA : na_ab I = A) (hA : ni_a A) (K : ∀ J A', rx J A' → na_ab J = A' → ni_a A' → ga_W G 8 mt_Law 1248 (lw_l i) [] J E) : ga_W G 8 mt_Law 621 (lw_l i) [] I E := by
  refine gw_aload_n 1 d_Law_621 rfl rfl ?_
  refine gw_arg (j := 1) hL (by omega) d_Law_622 d_Law_623 d_Law_624 d_Law_625 d_Law_626 ?_
  refine gw_invV (as := [.inl (ga_xs G (i + 1)).toInt]) (k := 0) (rest := []) (d' := 7) d_Law_627 lk_Law_62 (ga_rcv ga_oG rfl rfl) rfl (Nat.le_of_ble_eq_true rfl) (Nat.le_of_ble_eq_true rfl) rfl rfl (x_restore (ga_rgI _) hx hA (fun J j1 j2 => ?_))
  refine gw_aload_n 2 d_Law_630 rfl rfl ?_
  refine gw_arg (j := 1) hL (by omega) d_Law_631 d_Law_632 d_Law_633 d_Law_634 d_Law_635 ?_
  refine gw_invV (as := [.inl (ga_xs G (i + 1)).toInt]) (k := 348) (rest := [.inl _]) (d' := 7) d_Law_636 lk_Law_65 (ga_rcv ga_oM rfl rfl) rfl (Nat.le_of_ble_eq_true rfl) (Nat.le_of_ble_eq_true rfl) rfl rfl (m_restore (ga_rgI _) (na_fl eA j2) hA (fun J2 k1 k2 => ?_))
  exact gw_icmp_rf 1248 d_Law_639 (by decide) (K J2 _ (rx_fl j1 k2) k1 (nk_restore hA))
theorem q_undo (hL : ga_L G < 100000) (hi : i + 6 ≤ ga_L G) (hx : rx I A) (eA : na_ab I = A) (hA : ni_a A) (K : ∀ J A', rx J A' → na_ab J = A' → ni_a A' → ga_W G 8 mt_Law 1248 (lw_l i) [] J E) : ga_W G 8 mt_Law 644 (lw_l i) [] I E := by
  refine gw_aload_n 1 d_Law_644 rfl rfl ?_
  refine gw_invV (as := []) (k := 0) (rest := []) (d' := 7) d_Law_645 lk_Law_66 (ga_rcv ga_oG rfl rfl) rfl (Nat.le_of_ble_eq_true rfl) (Nat.le_of_ble_eq_true rfl) rfl rfl (x_undo  hx hA (fun J j1 j2 => ?_))
  refine gw_aload_n 2 d_Law_648 rfl rfl ?_
  refine gw_invV (as := []) (k := 348) (rest := [.inl _]) (d' := 7) d_Law_649 lk_Law_70 (ga_rcv ga_oM rfl rfl) rfl (Nat.le_of_ble_eq_true rfl) (Nat.le_of_ble_eq_true rfl) rfl rfl (m_undo  (na_fl eA j2) hA (fun J2 k1 k2 => ?_))
  exact gw_icmp_rf 1248 d_Law_652 (by decide) (K J2 _ (rx_fl j1 k2) k1 (nk_undo hA))
theorem q_append (hL : ga_L G < 100000) (hi : i + 6 ≤ ga_L G) (hx : rx I A) (eA : na_ab I = A) (hA : ni_a A) (K : ∀ J A', rx J A' → na_ab J = A' → ni_a A' → ga_W G 8 mt_Law 1248 (lw_l i) [] J E) : ga_W G 8 mt_Law 657 (lw_l i) [] I E := by
  refine gw_aload_n 1 d_Law_657 rfl rfl ?_
  refine gw_arg (j := 1) hL (by omega) d_Law_658 d_Law_659 d_Law_660 d_Law_661 d_Law_662 ?_
  refine gw_invV (as := [.inl (ga_xs G (i + 1)).toInt]) (k := 0) (rest := []) (d' := 7) d_Law_663 lk_Law_71 (ga_rcv ga_oG rfl rfl) rfl (Nat.le_of_ble_eq_true rfl) (Nat.le_of_ble_eq_true rfl) rfl rfl (x_append (ga_rgI _) hx hA (fun J j1 j2 => ?_))
  refine gw_aload_n 2 d_Law_666 rfl rfl ?_
  refine gw_arg (j := 1) hL (by omega) d_Law_667 d_Law_668 d_Law_669 d_Law_670 d_Law_671 ?_
  refine gw_invV (as := [.inl (ga_xs G (i + 1)).toInt]) (k := 348) (rest := [.inl _]) (d' := 7) d_Law_672 lk_Law_74 (ga_rcv ga_oM rfl rfl) rfl (Nat.le_of_ble_eq_true rfl) (Nat.le_of_ble_eq_true rfl) rfl rfl (m_append (ga_rgI _) (na_fl eA j2) hA (fun J2 k1 k2 => ?_))
  exact gw_icmp_rf 1248 d_Law_675 (by decide) (K J2 _ (rx_fl j1 k2) k1 (nk_append hA))
theorem q_clearText (hL : ga_L G < 100000) (hi : i + 6 ≤ ga_L G) (hx : rx I A) (eA : na_ab I = A) (hA : ni_a A) (K : ∀ J A', rx J A' → na_ab J = A' → ni_a A' → ga_W G 8 mt_Law 1248 (lw_l i) [] J E) : ga_W G 8 mt_Law 680 (lw_l i) [] I E := by
  refine gw_aload_n 1 d_Law_680 rfl rfl ?_
  refine gw_invV (as := []) (k := 0) (rest := []) (d' := 7) d_Law_681 lk_Law_75 (ga_rcv ga_oG rfl rfl) rfl (Nat.le_of_ble_eq_true rfl) (Nat.le_of_ble_eq_true rfl) rfl rfl (x_clearText  hx hA (fun J j1 j2 => ?_))
  refine gw_aload_n 2 d_Law_684 rfl rfl ?_
  refine gw_invV (as := []) (k := 348) (rest := [.inl _]) (d' := 7) d_Law_685 lk_Law_78 (ga_rcv ga_oM rfl rfl) rfl (Nat.le_of_ble_eq_true rfl) (Nat.le_of_ble_eq_true rfl) rfl rfl (m_clearText  (na_fl eA j2)  (fun J2 k1 k2 => ?_))
  exact gw_icmp_rf 1248 d_Law_688 (by decide) (K J2 _ (rx_fl j1 k2) k1 (nk_clearText hA))
theorem q_load (hL : ga_L G < 100000) (hi : i + 6 ≤ ga_L G) (hx : rx I A) (eA : na_ab I = A) (hA : ni_a A) (K : ∀ J A', rx J A' → na_ab J = A' → ni_a A' → ga_W G 8 mt_Law 1248 (lw_l i) [] J E) : ga_W G 8 mt_Law 693 (lw_l i) [] I E := by
  refine gw_aload_n 1 d_Law_693 rfl rfl ?_
  refine gw_invV (as := []) (k := 0) (rest := []) (d' := 7) d_Law_694 lk_Law_79 (ga_rcv ga_oG rfl rfl) rfl (Nat.le_of_ble_eq_true rfl) (Nat.le_of_ble_eq_true rfl) rfl rfl (x_load  hx hA (fun J j1 j2 => ?_))
  refine gw_aload_n 2 d_Law_697 rfl rfl ?_
  refine gw_invV (as := []) (k := 348) (rest := [.inl _]) (d' := 7) d_Law_698 lk_Law_82 (ga_rcv ga_oM rfl rfl) rfl (Nat.le_of_ble_eq_true rfl) (Nat.le_of_ble_eq_true rfl) rfl rfl (m_load  (na_fl eA j2) hA (fun J2 k1 k2 => ?_))
  exact gw_icmp_rf 1248 d_Law_701 (by decide) (K J2 _ (rx_fl j1 k2) k1 (nk_load hA))
theorem q_count (hL : ga_L G < 100000) (hi : i + 6 ≤ ga_L G) (hx : rx I A) (eA : na_ab I = A) (hA : ni_a A) (K : ∀ J A', rx J A' → na_ab J = A' → ni_a A' → ga_W G 8 mt_Law 1248 (lw_l i) [] J E) : ga_W G 8 mt_Law 706 (lw_l i) [] I E := by
  refine gw_aload_n 1 d_Law_706 rfl rfl ?_
  refine gw_arg (j := 1) hL (by omega) d_Law_707 d_Law_708 d_Law_709 d_Law_710 d_Law_711 ?_
  refine gw_invV (as := [.inl (ga_xs G (i + 1)).toInt]) (k := 0) (rest := []) (d' := 7) d_Law_712 lk_Law_83 (ga_rcv ga_oG rfl rfl) rfl (Nat.le_of_ble_eq_true rfl) (Nat.le_of_ble_eq_true rfl) rfl rfl (x_count (ga_rgI _) hx hA (fun J j1 j2 => ?_))
  refine gw_aload_n 2 d_Law_715 rfl rfl ?_
  refine gw_arg (j := 1) hL (by omega) d_Law_716 d_Law_717 d_Law_718 d_Law_719 d_Law_720 ?_
  refine gw_invV (as := [.inl (ga_xs G (i + 1)).toInt]) (k := 348) (rest := [.inl _]) (d' := 7) d_Law_721 lk_Law_86 (ga_rcv ga_oM rfl rfl) rfl (Nat.le_of_ble_eq_true rfl) (Nat.le_of_ble_eq_true rfl) rfl rfl (m_count (ga_rgI _) (na_fl eA j2) hA (fun J2 k1 k2 => ?_))
  exact gw_icmp_rf 1248 d_Law_724 (by decide) (K J2 _ (rx_fl j1 k2) k1 hA)
theorem q_axis (hL : ga_L G < 100000) (hi : i + 6 ≤ ga_L G) (hx : rx I A) (eA : na_ab I = A) (hA : ni_a A) (K : ∀ J A', rx J A' → na_ab J = A' → ni_a A' → ga_W G 8 mt_Law 1248 (lw_l i) [] J E) : ga_W G 8 mt_Law 729 (lw_l i) [] I E := by
  refine gw_aload_n 1 d_Law_729 rfl rfl ?_
  refine gw_arg (j := 1) hL (by omega) d_Law_730 d_Law_731 d_Law_732 d_Law_733 d_Law_734 ?_
  refine gw_arg (j := 2) hL (by omega) d_Law_735 d_Law_736 d_Law_737 d_Law_738 d_Law_739 ?_
  refine gw_invV (as := [.inl (ga_xs G (i + 1)).toInt, .inl (ga_xs G (i + 2)).toInt]) (k := 0) (rest := []) (d' := 7) d_Law_740 lk_Law_87 (ga_rcv ga_oG rfl rfl) rfl (Nat.le_of_ble_eq_true rfl) (Nat.le_of_ble_eq_true rfl) rfl rfl (x_axis (ga_rgI _) (ga_rgI _) hx hA (fun J j1 j2 => ?_))
  refine gw_aload_n 2 d_Law_743 rfl rfl ?_
  refine gw_arg (j := 1) hL (by omega) d_Law_744 d_Law_745 d_Law_746 d_Law_747 d_Law_748 ?_
  refine gw_arg (j := 2) hL (by omega) d_Law_749 d_Law_750 d_Law_751 d_Law_752 d_Law_753 ?_
  refine gw_invV (as := [.inl (ga_xs G (i + 1)).toInt, .inl (ga_xs G (i + 2)).toInt]) (k := 348) (rest := [.inl _]) (d' := 7) d_Law_754 lk_Law_90 (ga_rcv ga_oM rfl rfl) rfl (Nat.le_of_ble_eq_true rfl) (Nat.le_of_ble_eq_true rfl) rfl rfl (m_axis (ga_rgI _) (ga_rgI _) (na_fl eA j2) hA (fun J2 k1 k2 => ?_))
  exact gw_icmp_rf 1248 d_Law_757 (by decide) (K J2 _ (rx_fl j1 k2) k1 hA)
theorem q_border (hL : ga_L G < 100000) (hi : i + 6 ≤ ga_L G) (hx : rx I A) (eA : na_ab I = A) (hA : ni_a A) (K : ∀ J A', rx J A' → na_ab J = A' → ni_a A' → ga_W G 8 mt_Law 1248 (lw_l i) [] J E) : ga_W G 8 mt_Law 762 (lw_l i) [] I E := by
  refine gw_aload_n 1 d_Law_762 rfl rfl ?_
  refine gw_arg (j := 1) hL (by omega) d_Law_763 d_Law_764 d_Law_765 d_Law_766 d_Law_767 ?_
  refine gw_arg (j := 2) hL (by omega) d_Law_768 d_Law_769 d_Law_770 d_Law_771 d_Law_772 ?_
  refine gw_arg (j := 3) hL (by omega) d_Law_773 d_Law_774 d_Law_775 d_Law_776 d_Law_777 ?_
  refine gw_invV (as := [.inl (ga_xs G (i + 1)).toInt, .inl (ga_xs G (i + 2)).toInt, .inl (ga_xs G (i + 3)).toInt]) (k := 0) (rest := []) (d' := 7) d_Law_778 lk_Law_91 (ga_rcv ga_oG rfl rfl) rfl (Nat.le_of_ble_eq_true rfl) (Nat.le_of_ble_eq_true rfl) rfl rfl (x_border (ga_rgI _) (ga_rgI _) (ga_rgI _) hx hA (fun J j1 j2 => ?_))
  refine gw_aload_n 2 d_Law_781 rfl rfl ?_
  refine gw_arg (j := 1) hL (by omega) d_Law_782 d_Law_783 d_Law_784 d_Law_785 d_Law_786 ?_
  refine gw_arg (j := 2) hL (by omega) d_Law_787 d_Law_788 d_Law_789 d_Law_790 d_Law_791 ?_
  refine gw_arg (j := 3) hL (by omega) d_Law_792 d_Law_793 d_Law_794 d_Law_795 d_Law_796 ?_
  refine gw_invV (as := [.inl (ga_xs G (i + 1)).toInt, .inl (ga_xs G (i + 2)).toInt, .inl (ga_xs G (i + 3)).toInt]) (k := 348) (rest := [.inl _]) (d' := 7) d_Law_797 lk_Law_94 (ga_rcv ga_oM rfl rfl) rfl (Nat.le_of_ble_eq_true rfl) (Nat.le_of_ble_eq_true rfl) rfl rfl (m_border (ga_rgI _) (ga_rgI _) (ga_rgI _) (na_fl eA j2) hA (fun J2 k1 k2 => ?_))
  exact gw_icmp_rf 1248 d_Law_800 (by decide) (K J2 _ (rx_fl j1 k2) k1 hA)
theorem q_region (hL : ga_L G < 100000) (hi : i + 6 ≤ ga_L G) (hx : rx I A) (eA : na_ab I = A) (hA : ni_a A) (K : ∀ J A', rx J A' → na_ab J = A' → ni_a A' → ga_W G 8 mt_Law 1248 (lw_l i) [] J E) : ga_W G 8 mt_Law 805 (lw_l i) [] I E := by
  refine gw_aload_n 1 d_Law_805 rfl rfl ?_
  refine gw_arg (j := 1) hL (by omega) d_Law_806 d_Law_807 d_Law_808 d_Law_809 d_Law_810 ?_
  refine gw_arg (j := 2) hL (by omega) d_Law_811 d_Law_812 d_Law_813 d_Law_814 d_Law_815 ?_
  refine gw_arg (j := 3) hL (by omega) d_Law_816 d_Law_817 d_Law_818 d_Law_819 d_Law_820 ?_
  refine gw_invV (as := [.inl (ga_xs G (i + 1)).toInt, .inl (ga_xs G (i + 2)).toInt, .inl (ga_xs G (i + 3)).toInt]) (k := 0) (rest := []) (d' := 7) d_Law_821 lk_Law_95 (ga_rcv ga_oG rfl rfl) rfl (Nat.le_of_ble_eq_true rfl) (Nat.le_of_ble_eq_true rfl) rfl rfl (x_region (ga_rgI _) (ga_rgI _) (ga_rgI _) hx hA (fun J j1 j2 => ?_))
  refine gw_aload_n 2 d_Law_824 rfl rfl ?_
  refine gw_arg (j := 1) hL (by omega) d_Law_825 d_Law_826 d_Law_827 d_Law_828 d_Law_829 ?_
  refine gw_arg (j := 2) hL (by omega) d_Law_830 d_Law_831 d_Law_832 d_Law_833 d_Law_834 ?_
  refine gw_arg (j := 3) hL (by omega) d_Law_835 d_Law_836 d_Law_837 d_Law_838 d_Law_839 ?_
  refine gw_invV (as := [.inl (ga_xs G (i + 1)).toInt, .inl (ga_xs G (i + 2)).toInt, .inl (ga_xs G (i + 3)).toInt]) (k := 348) (rest := [.inl _]) (d' := 7) d_Law_840 lk_Law_98 (ga_rcv ga_oM rfl rfl) rfl (Nat.le_of_ble_eq_true rfl) (Nat.le_of_ble_eq_true rfl) rfl rfl (m_region (ga_rgI _) (ga_rgI _) (ga_rgI _) (na_fl eA j2) hA (fun J2 k1 k2 => ?_))
  exact gw_icmp_rf 1248 d_Law_843 (by decide) (K J2 _ (rx_fl j1 k2) k1 hA)
theorem q_operator (hL : ga_L G < 100000) (hi : i + 6 ≤ ga_L G) (hx : rx I A) (eA : na_ab I = A) (hA : ni_a A) (K : ∀ J A', rx J A' → na_ab J = A' → ni_a A' → ga_W G 8 mt_Law 1248 (lw_l i) [] J E) : ga_W G 8 mt_Law 848 (lw_l i) [] I E := by
  refine gw_aload_n 1 d_Law_848 rfl rfl ?_
  refine gw_arg (j := 1) hL (by omega) d_Law_849 d_Law_850 d_Law_851 d_Law_852 d_Law_853 ?_
  refine gw_arg (j := 2) hL (by omega) d_Law_854 d_Law_855 d_Law_856 d_Law_857 d_Law_858 ?_
  refine gw_invV (as := [.inl (ga_xs G (i + 1)).toInt, .inl (ga_xs G (i + 2)).toInt]) (k := 0) (rest := []) (d' := 7) d_Law_859 lk_Law_99 (ga_rcv ga_oG rfl rfl) rfl (Nat.le_of_ble_eq_true rfl) (Nat.le_of_ble_eq_true rfl) rfl rfl (x_operator (ga_rgI _) (ga_rgI _) hx hA (fun J j1 j2 => ?_))
  refine gw_aload_n 2 d_Law_862 rfl rfl ?_
  refine gw_arg (j := 1) hL (by omega) d_Law_863 d_Law_864 d_Law_865 d_Law_866 d_Law_867 ?_
  refine gw_arg (j := 2) hL (by omega) d_Law_868 d_Law_869 d_Law_870 d_Law_871 d_Law_872 ?_
  refine gw_invV (as := [.inl (ga_xs G (i + 1)).toInt, .inl (ga_xs G (i + 2)).toInt]) (k := 348) (rest := [.inl _]) (d' := 7) d_Law_873 lk_Law_102 (ga_rcv ga_oM rfl rfl) rfl (Nat.le_of_ble_eq_true rfl) (Nat.le_of_ble_eq_true rfl) rfl rfl (m_operator (ga_rgI _) (ga_rgI _) (na_fl eA j2) hA (fun J2 k1 k2 => ?_))
  exact gw_icmp_rf 1248 d_Law_876 (by decide) (K J2 _ (rx_fl j1 k2) k1 hA)
theorem q_account (hL : ga_L G < 100000) (hi : i + 6 ≤ ga_L G) (hx : rx I A) (eA : na_ab I = A) (hA : ni_a A) (K : ∀ J A', rx J A' → na_ab J = A' → ni_a A' → ga_W G 8 mt_Law 1248 (lw_l i) [] J E) : ga_W G 8 mt_Law 881 (lw_l i) [] I E := by
  refine gw_aload_n 1 d_Law_881 rfl rfl ?_
  refine gw_arg (j := 1) hL (by omega) d_Law_882 d_Law_883 d_Law_884 d_Law_885 d_Law_886 ?_
  refine gw_invV (as := [.inl (ga_xs G (i + 1)).toInt]) (k := 0) (rest := []) (d' := 7) d_Law_887 lk_Law_103 (ga_rcv ga_oG rfl rfl) rfl (Nat.le_of_ble_eq_true rfl) (Nat.le_of_ble_eq_true rfl) rfl rfl (x_account (ga_rgI _) hx hA (fun J j1 j2 => ?_))
  refine gw_aload_n 2 d_Law_890 rfl rfl ?_
  refine gw_arg (j := 1) hL (by omega) d_Law_891 d_Law_892 d_Law_893 d_Law_894 d_Law_895 ?_
  refine gw_invV (as := [.inl (ga_xs G (i + 1)).toInt]) (k := 348) (rest := [.inl _]) (d' := 7) d_Law_896 lk_Law_106 (ga_rcv ga_oM rfl rfl) rfl (Nat.le_of_ble_eq_true rfl) (Nat.le_of_ble_eq_true rfl) rfl rfl (m_account (ga_rgI _) (na_fl eA j2)  (fun J2 k1 k2 => ?_))
  exact gw_icmp_rf 1248 d_Law_899 (by decide) (K J2 _ (rx_fl j1 k2) k1 hA)
theorem q_gain (hL : ga_L G < 100000) (hi : i + 6 ≤ ga_L G) (hx : rx I A) (eA : na_ab I = A) (hA : ni_a A) (K : ∀ J A', rx J A' → na_ab J = A' → ni_a A' → ga_W G 8 mt_Law 1248 (lw_l i) [] J E) : ga_W G 8 mt_Law 904 (lw_l i) [] I E := by
  refine gw_aload_n 1 d_Law_904 rfl rfl ?_
  refine gw_arg (j := 1) hL (by omega) d_Law_905 d_Law_906 d_Law_907 d_Law_908 d_Law_909 ?_
  refine gw_arg (j := 2) hL (by omega) d_Law_910 d_Law_911 d_Law_912 d_Law_913 d_Law_914 ?_
  refine gw_invV (as := [.inl (ga_xs G (i + 1)).toInt, .inl (ga_xs G (i + 2)).toInt]) (k := 0) (rest := []) (d' := 7) d_Law_915 lk_Law_107 (ga_rcv ga_oG rfl rfl) rfl (Nat.le_of_ble_eq_true rfl) (Nat.le_of_ble_eq_true rfl) rfl rfl (x_gain (ga_rgI _) (ga_rgI _) hx hA (fun J j1 j2 => ?_))
  refine gw_aload_n 2 d_Law_918 rfl rfl ?_
  refine gw_arg (j := 1) hL (by omega) d_Law_919 d_Law_920 d_Law_921 d_Law_922 d_Law_923 ?_
  refine gw_arg (j := 2) hL (by omega) d_Law_924 d_Law_925 d_Law_926 d_Law_927 d_Law_928 ?_
  refine gw_invV (as := [.inl (ga_xs G (i + 1)).toInt, .inl (ga_xs G (i + 2)).toInt]) (k := 348) (rest := [.inl _]) (d' := 7) d_Law_929 lk_Law_110 (ga_rcv ga_oM rfl rfl) rfl (Nat.le_of_ble_eq_true rfl) (Nat.le_of_ble_eq_true rfl) rfl rfl (m_gain (ga_rgI _) (ga_rgI _) (na_fl eA j2) hA (fun J2 k1 k2 => ?_))
  exact gw_icmp_rf 1248 d_Law_932 (by decide) (K J2 _ (rx_fl j1 k2) k1 hA)
theorem q_trail (hL : ga_L G < 100000) (hi : i + 6 ≤ ga_L G) (hx : rx I A) (eA : na_ab I = A) (hA : ni_a A) (K : ∀ J A', rx J A' → na_ab J = A' → ni_a A' → ga_W G 8 mt_Law 1248 (lw_l i) [] J E) : ga_W G 8 mt_Law 937 (lw_l i) [] I E := by
  refine gw_aload_n 1 d_Law_937 rfl rfl ?_
  refine gw_arg (j := 1) hL (by omega) d_Law_938 d_Law_939 d_Law_940 d_Law_941 d_Law_942 ?_
  refine gw_arg (j := 2) hL (by omega) d_Law_943 d_Law_944 d_Law_945 d_Law_946 d_Law_947 ?_
  refine gw_invV (as := [.inl (ga_xs G (i + 1)).toInt, .inl (ga_xs G (i + 2)).toInt]) (k := 0) (rest := []) (d' := 7) d_Law_948 lk_Law_111 (ga_rcv ga_oG rfl rfl) rfl (Nat.le_of_ble_eq_true rfl) (Nat.le_of_ble_eq_true rfl) rfl rfl (x_trail (ga_rgI _) (ga_rgI _) hx hA (fun J j1 j2 => ?_))
  refine gw_aload_n 2 d_Law_951 rfl rfl ?_
  refine gw_arg (j := 1) hL (by omega) d_Law_952 d_Law_953 d_Law_954 d_Law_955 d_Law_956 ?_
  refine gw_arg (j := 2) hL (by omega) d_Law_957 d_Law_958 d_Law_959 d_Law_960 d_Law_961 ?_
  refine gw_invV (as := [.inl (ga_xs G (i + 1)).toInt, .inl (ga_xs G (i + 2)).toInt]) (k := 348) (rest := [.inl _]) (d' := 7) d_Law_962 lk_Law_114 (ga_rcv ga_oM rfl rfl) rfl (Nat.le_of_ble_eq_true rfl) (Nat.le_of_ble_eq_true rfl) rfl rfl (m_trail (ga_rgI _) (ga_rgI _) (na_fl eA j2) hA (fun J2 k1 k2 => ?_))
  exact gw_icmp_rf 1248 d_Law_965 (by decide) (K J2 _ (rx_fl j1 k2) k1 hA)
theorem q_refusal (hL : ga_L G < 100000) (hi : i + 6 ≤ ga_L G) (hx : rx I A) (eA : na_ab I = A) (hA : ni_a A) (K : ∀ J A', rx J A' → na_ab J = A' → ni_a A' → ga_W G 8 mt_Law 1248 (lw_l i) [] J E) : ga_W G 8 mt_Law 970 (lw_l i) [] I E := by
  refine gw_aload_n 1 d_Law_970 rfl rfl ?_
  refine gw_arg (j := 1) hL (by omega) d_Law_971 d_Law_972 d_Law_973 d_Law_974 d_Law_975 ?_
  refine gw_arg (j := 2) hL (by omega) d_Law_976 d_Law_977 d_Law_978 d_Law_979 d_Law_980 ?_
  refine gw_arg (j := 3) hL (by omega) d_Law_981 d_Law_982 d_Law_983 d_Law_984 d_Law_985 ?_
  refine gw_arg (j := 4) hL (by omega) d_Law_986 d_Law_987 d_Law_988 d_Law_989 d_Law_990 ?_
  refine gw_arg (j := 5) hL (by omega) d_Law_991 d_Law_992 d_Law_993 d_Law_994 d_Law_995 ?_
  refine gw_invV (as := [.inl (ga_xs G (i + 1)).toInt, .inl (ga_xs G (i + 2)).toInt, .inl (ga_xs G (i + 3)).toInt, .inl (ga_xs G (i + 4)).toInt, .inl (ga_xs G (i + 5)).toInt]) (k := 0) (rest := []) (d' := 7) d_Law_996 lk_Law_115 (ga_rcv ga_oG rfl rfl) rfl (Nat.le_of_ble_eq_true rfl) (Nat.le_of_ble_eq_true rfl) rfl rfl (x_refusal (ga_rgI _) (ga_rgI _) (ga_rgI _) (ga_rgI _) (ga_rgI _) hx hA (fun J j1 j2 => ?_))
  refine gw_aload_n 2 d_Law_999 rfl rfl ?_
  refine gw_arg (j := 1) hL (by omega) d_Law_1000 d_Law_1001 d_Law_1002 d_Law_1003 d_Law_1004 ?_
  refine gw_arg (j := 2) hL (by omega) d_Law_1005 d_Law_1006 d_Law_1007 d_Law_1008 d_Law_1009 ?_
  refine gw_arg (j := 3) hL (by omega) d_Law_1010 d_Law_1011 d_Law_1012 d_Law_1013 d_Law_1014 ?_
  refine gw_arg (j := 4) hL (by omega) d_Law_1015 d_Law_1016 d_Law_1017 d_Law_1018 d_Law_1019 ?_
  refine gw_arg (j := 5) hL (by omega) d_Law_1020 d_Law_1021 d_Law_1022 d_Law_1023 d_Law_1024 ?_
  refine gw_invV (as := [.inl (ga_xs G (i + 1)).toInt, .inl (ga_xs G (i + 2)).toInt, .inl (ga_xs G (i + 3)).toInt, .inl (ga_xs G (i + 4)).toInt, .inl (ga_xs G (i + 5)).toInt]) (k := 348) (rest := [.inl _]) (d' := 7) d_Law_1025 lk_Law_118 (ga_rcv ga_oM rfl rfl) rfl (Nat.le_of_ble_eq_true rfl) (Nat.le_of_ble_eq_true rfl) rfl rfl (m_refusal (ga_rgI _) (ga_rgI _) (ga_rgI _) (ga_rgI _) (ga_rgI _) (na_fl eA j2) hA (fun J2 k1 k2 => ?_))
  exact gw_icmp_rf 1248 d_Law_1028 (by decide) (K J2 _ (rx_fl j1 k2) k1 hA)
theorem q_effect (hL : ga_L G < 100000) (hi : i + 6 ≤ ga_L G) (hx : rx I A) (eA : na_ab I = A) (hA : ni_a A) (K : ∀ J A', rx J A' → na_ab J = A' → ni_a A' → ga_W G 8 mt_Law 1248 (lw_l i) [] J E) : ga_W G 8 mt_Law 1033 (lw_l i) [] I E := by
  refine gw_aload_n 1 d_Law_1033 rfl rfl ?_
  refine gw_arg (j := 1) hL (by omega) d_Law_1034 d_Law_1035 d_Law_1036 d_Law_1037 d_Law_1038 ?_
  refine gw_arg (j := 2) hL (by omega) d_Law_1039 d_Law_1040 d_Law_1041 d_Law_1042 d_Law_1043 ?_
  refine gw_invV (as := [.inl (ga_xs G (i + 1)).toInt, .inl (ga_xs G (i + 2)).toInt]) (k := 0) (rest := []) (d' := 7) d_Law_1044 lk_Law_119 (ga_rcv ga_oG rfl rfl) rfl (Nat.le_of_ble_eq_true rfl) (Nat.le_of_ble_eq_true rfl) rfl rfl (x_effect (ga_rgI _) (ga_rgI _) hx hA (fun J j1 j2 => ?_))
  refine gw_aload_n 2 d_Law_1047 rfl rfl ?_
  refine gw_arg (j := 1) hL (by omega) d_Law_1048 d_Law_1049 d_Law_1050 d_Law_1051 d_Law_1052 ?_
  refine gw_arg (j := 2) hL (by omega) d_Law_1053 d_Law_1054 d_Law_1055 d_Law_1056 d_Law_1057 ?_
  refine gw_invV (as := [.inl (ga_xs G (i + 1)).toInt, .inl (ga_xs G (i + 2)).toInt]) (k := 348) (rest := [.inl _]) (d' := 7) d_Law_1058 lk_Law_122 (ga_rcv ga_oM rfl rfl) rfl (Nat.le_of_ble_eq_true rfl) (Nat.le_of_ble_eq_true rfl) rfl rfl (m_effect (ga_rgI _) (ga_rgI _) (na_fl eA j2) hA (fun J2 k1 k2 => ?_))
  exact gw_icmp_rf 1248 d_Law_1061 (by decide) (K J2 _ (rx_fl j1 k2) k1 hA)
theorem q_valueAt (hL : ga_L G < 100000) (hi : i + 6 ≤ ga_L G) (hx : rx I A) (eA : na_ab I = A) (hA : ni_a A) (K : ∀ J A', rx J A' → na_ab J = A' → ni_a A' → ga_W G 8 mt_Law 1248 (lw_l i) [] J E) : ga_W G 8 mt_Law 1066 (lw_l i) [] I E := by
  refine gw_aload_n 1 d_Law_1066 rfl rfl ?_
  refine gw_arg (j := 1) hL (by omega) d_Law_1067 d_Law_1068 d_Law_1069 d_Law_1070 d_Law_1071 ?_
  refine gw_arg (j := 2) hL (by omega) d_Law_1072 d_Law_1073 d_Law_1074 d_Law_1075 d_Law_1076 ?_
  refine gw_arg (j := 3) hL (by omega) d_Law_1077 d_Law_1078 d_Law_1079 d_Law_1080 d_Law_1081 ?_
  refine gw_invV (as := [.inl (ga_xs G (i + 1)).toInt, .inl (ga_xs G (i + 2)).toInt, .inl (ga_xs G (i + 3)).toInt]) (k := 0) (rest := []) (d' := 7) d_Law_1082 lk_Law_123 (ga_rcv ga_oG rfl rfl) rfl (Nat.le_of_ble_eq_true rfl) (Nat.le_of_ble_eq_true rfl) rfl rfl (x_valueAt (ga_rgI _) (ga_rgI _) (ga_rgI _) hx hA (fun J j1 j2 => ?_))
  refine gw_aload_n 2 d_Law_1085 rfl rfl ?_
  refine gw_arg (j := 1) hL (by omega) d_Law_1086 d_Law_1087 d_Law_1088 d_Law_1089 d_Law_1090 ?_
  refine gw_arg (j := 2) hL (by omega) d_Law_1091 d_Law_1092 d_Law_1093 d_Law_1094 d_Law_1095 ?_
  refine gw_arg (j := 3) hL (by omega) d_Law_1096 d_Law_1097 d_Law_1098 d_Law_1099 d_Law_1100 ?_
  refine gw_invV (as := [.inl (ga_xs G (i + 1)).toInt, .inl (ga_xs G (i + 2)).toInt, .inl (ga_xs G (i + 3)).toInt]) (k := 348) (rest := [.inl _]) (d' := 7) d_Law_1101 lk_Law_126 (ga_rcv ga_oM rfl rfl) rfl (Nat.le_of_ble_eq_true rfl) (Nat.le_of_ble_eq_true rfl) rfl rfl (m_valueAt (ga_rgI _) (ga_rgI _) (ga_rgI _) (na_fl eA j2) hA (fun J2 k1 k2 => ?_))
  exact gw_icmp_rf 1248 d_Law_1104 (by decide) (K J2 _ (rx_fl j1 k2) k1 hA)
theorem q_chatter (hL : ga_L G < 100000) (hi : i + 6 ≤ ga_L G) (hx : rx I A) (eA : na_ab I = A) (hA : ni_a A) (K : ∀ J A', rx J A' → na_ab J = A' → ni_a A' → ga_W G 8 mt_Law 1248 (lw_l i) [] J E) : ga_W G 8 mt_Law 1109 (lw_l i) [] I E := by
  refine gw_aload_n 1 d_Law_1109 rfl rfl ?_
  refine gw_arg (j := 1) hL (by omega) d_Law_1110 d_Law_1111 d_Law_1112 d_Law_1113 d_Law_1114 ?_
  refine gw_arg (j := 2) hL (by omega) d_Law_1115 d_Law_1116 d_Law_1117 d_Law_1118 d_Law_1119 ?_
  refine gw_arg (j := 3) hL (by omega) d_Law_1120 d_Law_1121 d_Law_1122 d_Law_1123 d_Law_1124 ?_
  refine gw_arg (j := 4) hL (by omega) d_Law_1125 d_Law_1126 d_Law_1127 d_Law_1128 d_Law_1129 ?_
  refine gw_invV (as := [.inl (ga_xs G (i + 1)).toInt, .inl (ga_xs G (i + 2)).toInt, .inl (ga_xs G (i + 3)).toInt, .inl (ga_xs G (i + 4)).toInt]) (k := 0) (rest := []) (d' := 7) d_Law_1130 lk_Law_127 (ga_rcv ga_oG rfl rfl) rfl (Nat.le_of_ble_eq_true rfl) (Nat.le_of_ble_eq_true rfl) rfl rfl (x_chatter (ga_rgI _) (ga_rgI _) (ga_rgI _) (ga_rgI _) hx hA (fun J j1 j2 => ?_))
  refine gw_aload_n 2 d_Law_1133 rfl rfl ?_
  refine gw_arg (j := 1) hL (by omega) d_Law_1134 d_Law_1135 d_Law_1136 d_Law_1137 d_Law_1138 ?_
  refine gw_arg (j := 2) hL (by omega) d_Law_1139 d_Law_1140 d_Law_1141 d_Law_1142 d_Law_1143 ?_
  refine gw_arg (j := 3) hL (by omega) d_Law_1144 d_Law_1145 d_Law_1146 d_Law_1147 d_Law_1148 ?_
  refine gw_arg (j := 4) hL (by omega) d_Law_1149 d_Law_1150 d_Law_1151 d_Law_1152 d_Law_1153 ?_
  refine gw_invV (as := [.inl (ga_xs G (i + 1)).toInt, .inl (ga_xs G (i + 2)).toInt, .inl (ga_xs G (i + 3)).toInt, .inl (ga_xs G (i + 4)).toInt]) (k := 348) (rest := [.inl _]) (d' := 7) d_Law_1154 lk_Law_130 (ga_rcv ga_oM rfl rfl) rfl (Nat.le_of_ble_eq_true rfl) (Nat.le_of_ble_eq_true rfl) rfl rfl (m_chatter (ga_rgI _) (ga_rgI _) (ga_rgI _) (ga_rgI _) (na_fl eA j2) hA (fun J2 k1 k2 => ?_))
  exact gw_icmp_rf 1248 d_Law_1157 (by decide) (K J2 _ (rx_fl j1 k2) k1 hA)
theorem q_calmReach (hL : ga_L G < 100000) (hi : i + 6 ≤ ga_L G) (hx : rx I A) (eA : na_ab I = A) (hA : ni_a A) (K : ∀ J A', rx J A' → na_ab J = A' → ni_a A' → ga_W G 8 mt_Law 1248 (lw_l i) [] J E) : ga_W G 8 mt_Law 1162 (lw_l i) [] I E := by
  refine gw_aload_n 1 d_Law_1162 rfl rfl ?_
  refine gw_arg (j := 1) hL (by omega) d_Law_1163 d_Law_1164 d_Law_1165 d_Law_1166 d_Law_1167 ?_
  refine gw_arg (j := 2) hL (by omega) d_Law_1168 d_Law_1169 d_Law_1170 d_Law_1171 d_Law_1172 ?_
  refine gw_arg (j := 3) hL (by omega) d_Law_1173 d_Law_1174 d_Law_1175 d_Law_1176 d_Law_1177 ?_
  refine gw_invV (as := [.inl (ga_xs G (i + 1)).toInt, .inl (ga_xs G (i + 2)).toInt, .inl (ga_xs G (i + 3)).toInt]) (k := 0) (rest := []) (d' := 7) d_Law_1178 lk_Law_131 (ga_rcv ga_oG rfl rfl) rfl (Nat.le_of_ble_eq_true rfl) (Nat.le_of_ble_eq_true rfl) rfl rfl (x_calmReach (ga_rgI _) (ga_rgI _) (ga_rgI _) hx hA (fun J j1 j2 => ?_))
  refine gw_aload_n 2 d_Law_1181 rfl rfl ?_
  refine gw_arg (j := 1) hL (by omega) d_Law_1182 d_Law_1183 d_Law_1184 d_Law_1185 d_Law_1186 ?_
  refine gw_arg (j := 2) hL (by omega) d_Law_1187 d_Law_1188 d_Law_1189 d_Law_1190 d_Law_1191 ?_
  refine gw_arg (j := 3) hL (by omega) d_Law_1192 d_Law_1193 d_Law_1194 d_Law_1195 d_Law_1196 ?_
  refine gw_invV (as := [.inl (ga_xs G (i + 1)).toInt, .inl (ga_xs G (i + 2)).toInt, .inl (ga_xs G (i + 3)).toInt]) (k := 348) (rest := [.inl _]) (d' := 7) d_Law_1197 lk_Law_134 (ga_rcv ga_oM rfl rfl) rfl (Nat.le_of_ble_eq_true rfl) (Nat.le_of_ble_eq_true rfl) rfl rfl (m_calmReach (ga_rgI _) (ga_rgI _) (ga_rgI _) (na_fl eA j2) hA (fun J2 k1 k2 => ?_))
  exact gw_icmp_rf 1248 d_Law_1200 (by decide) (K J2 _ (rx_fl j1 k2) k1 hA)
theorem q_steepest (hL : ga_L G < 100000) (hi : i + 6 ≤ ga_L G) (hx : rx I A) (eA : na_ab I = A) (hA : ni_a A) (K : ∀ J A', rx J A' → na_ab J = A' → ni_a A' → ga_W G 8 mt_Law 1248 (lw_l i) [] J E) : ga_W G 8 mt_Law 1205 (lw_l i) [] I E := by
  refine gw_aload_n 1 d_Law_1205 rfl rfl ?_
  refine gw_arg (j := 1) hL (by omega) d_Law_1206 d_Law_1207 d_Law_1208 d_Law_1209 d_Law_1210 ?_
  refine gw_arg (j := 2) hL (by omega) d_Law_1211 d_Law_1212 d_Law_1213 d_Law_1214 d_Law_1215 ?_
  refine gw_arg (j := 3) hL (by omega) d_Law_1216 d_Law_1217 d_Law_1218 d_Law_1219 d_Law_1220 ?_
  refine gw_invV (as := [.inl (ga_xs G (i + 1)).toInt, .inl (ga_xs G (i + 2)).toInt, .inl (ga_xs G (i + 3)).toInt]) (k := 0) (rest := []) (d' := 7) d_Law_1221 lk_Law_135 (ga_rcv ga_oG rfl rfl) rfl (Nat.le_of_ble_eq_true rfl) (Nat.le_of_ble_eq_true rfl) rfl rfl (x_steepest (ga_rgI _) (ga_rgI _) (ga_rgI _) hx hA (fun J j1 j2 => ?_))
  refine gw_aload_n 2 d_Law_1224 rfl rfl ?_
  refine gw_arg (j := 1) hL (by omega) d_Law_1225 d_Law_1226 d_Law_1227 d_Law_1228 d_Law_1229 ?_
  refine gw_arg (j := 2) hL (by omega) d_Law_1230 d_Law_1231 d_Law_1232 d_Law_1233 d_Law_1234 ?_
  refine gw_arg (j := 3) hL (by omega) d_Law_1235 d_Law_1236 d_Law_1237 d_Law_1238 d_Law_1239 ?_
  refine gw_invV (as := [.inl (ga_xs G (i + 1)).toInt, .inl (ga_xs G (i + 2)).toInt, .inl (ga_xs G (i + 3)).toInt]) (k := 348) (rest := [.inl _]) (d' := 7) d_Law_1240 lk_Law_138 (ga_rcv ga_oM rfl rfl) rfl (Nat.le_of_ble_eq_true rfl) (Nat.le_of_ble_eq_true rfl) rfl rfl (m_steepest (ga_rgI _) (ga_rgI _) (ga_rgI _) (na_fl eA j2) hA (fun J2 k1 k2 => ?_))
  exact gw_icmp_rf 1248 d_Law_1243 (by decide) (K J2 _ (rx_fl j1 k2) k1 hA)
end LC
