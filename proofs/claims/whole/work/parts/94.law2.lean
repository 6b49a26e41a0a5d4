theorem dL_law_200 : decode code 200 = .ok (.aload_n 1, 1) := by decide +kernel
theorem dL_law_201 : decode code 201 = .ok (.aload_n 0, 1) := by decide +kernel
theorem dL_law_202 : decode code 202 = .ok (.iload 4, 2) := by decide +kernel
theorem dL_law_204 : decode code 204 = .ok (.iconst 1, 1) := by decide +kernel
theorem dL_law_205 : decode code 205 = .ok (.iadd, 1) := by decide +kernel
theorem dL_law_206 : decode code 206 = .ok (.iaload, 1) := by decide +kernel
theorem dL_law_207 : decode code 207 = .ok (.aload_n 0, 1) := by decide +kernel
theorem dL_law_208 : decode code 208 = .ok (.iload 4, 2) := by decide +kernel
theorem dL_law_210 : decode code 210 = .ok (.iconst 2, 1) := by decide +kernel
theorem dL_law_211 : decode code 211 = .ok (.iadd, 1) := by decide +kernel
theorem dL_law_212 : decode code 212 = .ok (.iaload, 1) := by decide +kernel
theorem dL_law_213 : decode code 213 = .ok (.aload_n 3, 1) := by decide +kernel
theorem dL_law_214 : decode code 214 = .ok (.invokestatic 82, 3) := by decide +kernel
theorem dL_law_217 : decode code 217 = .ok (.istore 5, 2) := by decide +kernel
theorem dL_law_219 : decode code 219 = .ok (.aload_n 2, 1) := by decide +kernel
theorem dL_law_220 : decode code 220 = .ok (.aload_n 0, 1) := by decide +kernel
theorem dL_law_221 : decode code 221 = .ok (.iload 4, 2) := by decide +kernel
theorem dL_law_223 : decode code 223 = .ok (.iconst 1, 1) := by decide +kernel
theorem dL_law_224 : decode code 224 = .ok (.iadd, 1) := by decide +kernel
theorem dL_law_225 : decode code 225 = .ok (.iaload, 1) := by decide +kernel
theorem dL_law_226 : decode code 226 = .ok (.aload_n 0, 1) := by decide +kernel
theorem dL_law_227 : decode code 227 = .ok (.iload 4, 2) := by decide +kernel
theorem dL_law_229 : decode code 229 = .ok (.iconst 2, 1) := by decide +kernel
theorem dL_law_230 : decode code 230 = .ok (.iadd, 1) := by decide +kernel
theorem dL_law_231 : decode code 231 = .ok (.iaload, 1) := by decide +kernel
theorem dL_law_232 : decode code 232 = .ok (.invokevirtual 85, 3) := by decide +kernel
theorem dL_law_235 : decode code 235 = .ok (.istore 6, 2) := by decide +kernel
theorem dL_law_237 : decode code 237 = .ok (.aload_n 2, 1) := by decide +kernel
theorem dL_law_238 : decode code 238 = .ok (.invokevirtual 79, 3) := by decide +kernel
theorem dL_law_241 : decode code 241 = .ok (.iload 5, 2) := by decide +kernel
theorem dL_law_243 : decode code 243 = .ok (.if_icmp .eq 5, 3) := by decide +kernel
theorem dL_law_248 : decode code 248 = .ok (.iload 5, 2) := by decide +kernel
theorem dL_law_250 : decode code 250 = .ok (.ifCond .ne 15, 3) := by decide +kernel
theorem dL_law_253 : decode code 253 = .ok (.aload_n 3, 1) := by decide +kernel
theorem dL_law_254 : decode code 254 = .ok (.iconst 0, 1) := by decide +kernel
theorem dL_law_255 : decode code 255 = .ok (.laload, 1) := by decide +kernel
theorem dL_law_256 : decode code 256 = .ok (.iload 6, 2) := by decide +kernel
theorem dL_law_258 : decode code 258 = .ok (.i2l, 1) := by decide +kernel
theorem dL_law_259 : decode code 259 = .ok (.lcmp, 1) := by decide +kernel
theorem dL_law_260 : decode code 260 = .ok (.ifCond .eq 5, 3) := by decide +kernel
theorem dL_law_265 : decode code 265 = .ok (.goto 1004, 3) := by decide +kernel
theorem dL_law_268 : decode code 268 = .ok (.aload_n 1, 1) := by decide +kernel
theorem dL_law_269 : decode code 269 = .ok (.aload_n 0, 1) := by decide +kernel
theorem dL_law_270 : decode code 270 = .ok (.iload 4, 2) := by decide +kernel
theorem dL_law_272 : decode code 272 = .ok (.iconst 1, 1) := by decide +kernel
theorem dL_law_273 : decode code 273 = .ok (.iadd, 1) := by decide +kernel
theorem dL_law_274 : decode code 274 = .ok (.iaload, 1) := by decide +kernel
theorem dL_law_275 : decode code 275 = .ok (.aload_n 3, 1) := by decide +kernel
theorem dL_law_276 : decode code 276 = .ok (.invokestatic 86, 3) := by decide +kernel
theorem dL_law_279 : decode code 279 = .ok (.istore 5, 2) := by decide +kernel
theorem dL_law_281 : decode code 281 = .ok (.aload_n 2, 1) := by decide +kernel
theorem dL_law_282 : decode code 282 = .ok (.aload_n 0, 1) := by decide +kernel
theorem dL_law_283 : decode code 283 = .ok (.iload 4, 2) := by decide +kernel
theorem dL_law_285 : decode code 285 = .ok (.iconst 1, 1) := by decide +kernel
theorem dL_law_286 : decode code 286 = .ok (.iadd, 1) := by decide +kernel
theorem dL_law_287 : decode code 287 = .ok (.iaload, 1) := by decide +kernel
theorem dL_law_288 : decode code 288 = .ok (.invokevirtual 88, 3) := by decide +kernel
theorem dL_law_291 : decode code 291 = .ok (.istore 6, 2) := by decide +kernel
theorem dL_law_293 : decode code 293 = .ok (.aload_n 2, 1) := by decide +kernel
theorem dL_law_294 : decode code 294 = .ok (.invokevirtual 79, 3) := by decide +kernel
theorem dL_law_297 : decode code 297 = .ok (.iload 5, 2) := by decide +kernel
theorem dL_law_299 : decode code 299 = .ok (.if_icmp .eq 5, 3) := by decide +kernel
theorem dL_law_304 : decode code 304 = .ok (.iload 5, 2) := by decide +kernel
theorem dL_law_306 : decode code 306 = .ok (.ifCond .ne 15, 3) := by decide +kernel
theorem dL_law_309 : decode code 309 = .ok (.aload_n 3, 1) := by decide +kernel
theorem dL_law_310 : decode code 310 = .ok (.iconst 0, 1) := by decide +kernel
theorem dL_law_311 : decode code 311 = .ok (.laload, 1) := by decide +kernel
theorem dL_law_312 : decode code 312 = .ok (.iload 6, 2) := by decide +kernel
theorem dL_law_314 : decode code 314 = .ok (.i2l, 1) := by decide +kernel
theorem dL_law_315 : decode code 315 = .ok (.lcmp, 1) := by decide +kernel
theorem dL_law_316 : decode code 316 = .ok (.ifCond .eq 5, 3) := by decide +kernel
theorem dL_law_321 : decode code 321 = .ok (.goto 948, 3) := by decide +kernel
theorem dL_law_324 : decode code 324 = .ok (.aload_n 1, 1) := by decide +kernel
theorem dL_law_325 : decode code 325 = .ok (.aload_n 0, 1) := by decide +kernel
theorem dL_law_326 : decode code 326 = .ok (.iload 4, 2) := by decide +kernel
theorem dL_law_328 : decode code 328 = .ok (.iconst 1, 1) := by decide +kernel
theorem dL_law_329 : decode code 329 = .ok (.iadd, 1) := by decide +kernel
theorem dL_law_330 : decode code 330 = .ok (.iaload, 1) := by decide +kernel
theorem dL_law_331 : decode code 331 = .ok (.aload_n 3, 1) := by decide +kernel
theorem dL_law_332 : decode code 332 = .ok (.invokestatic 89, 3) := by decide +kernel
theorem dL_law_335 : decode code 335 = .ok (.istore 5, 2) := by decide +kernel
theorem dL_law_337 : decode code 337 = .ok (.aload_n 2, 1) := by decide +kernel
theorem dL_law_338 : decode code 338 = .ok (.aload_n 0, 1) := by decide +kernel
theorem dL_law_339 : decode code 339 = .ok (.iload 4, 2) := by decide +kernel
theorem dL_law_341 : decode code 341 = .ok (.iconst 1, 1) := by decide +kernel
theorem dL_law_342 : decode code 342 = .ok (.iadd, 1) := by decide +kernel
theorem dL_law_343 : decode code 343 = .ok (.iaload, 1) := by decide +kernel
theorem dL_law_344 : decode code 344 = .ok (.invokevirtual 91, 3) := by decide +kernel
theorem dL_law_347 : decode code 347 = .ok (.istore 6, 2) := by decide +kernel
theorem dL_law_349 : decode code 349 = .ok (.aload_n 2, 1) := by decide +kernel
theorem dL_law_350 : decode code 350 = .ok (.invokevirtual 79, 3) := by decide +kernel
theorem dL_law_353 : decode code 353 = .ok (.iload 5, 2) := by decide +kernel
theorem dL_law_355 : decode code 355 = .ok (.if_icmp .eq 5, 3) := by decide +kernel
theorem dL_law_360 : decode code 360 = .ok (.iload 5, 2) := by decide +kernel
theorem dL_law_362 : decode code 362 = .ok (.ifCond .ne 15, 3) := by decide +kernel
theorem dL_law_365 : decode code 365 = .ok (.aload_n 3, 1) := by decide +kernel
theorem dL_law_366 : decode code 366 = .ok (.iconst 0, 1) := by decide +kernel
theorem dL_law_367 : decode code 367 = .ok (.laload, 1) := by decide +kernel
theorem dL_law_368 : decode code 368 = .ok (.iload 6, 2) := by decide +kernel
theorem dL_law_370 : decode code 370 = .ok (.i2l, 1) := by decide +kernel
theorem dL_law_371 : decode code 371 = .ok (.lcmp, 1) := by decide +kernel
theorem dL_law_372 : decode code 372 = .ok (.ifCond .eq 5, 3) := by decide +kernel
theorem dL_law_377 : decode code 377 = .ok (.goto 892, 3) := by decide +kernel
theorem dL_law_380 : decode code 380 = .ok (.aload_n 1, 1) := by decide +kernel
theorem dL_law_381 : decode code 381 = .ok (.aload_n 0, 1) := by decide +kernel
theorem dL_law_382 : decode code 382 = .ok (.iload 4, 2) := by decide +kernel
theorem dL_law_384 : decode code 384 = .ok (.iconst 1, 1) := by decide +kernel
theorem dL_law_385 : decode code 385 = .ok (.iadd, 1) := by decide +kernel
theorem dL_law_386 : decode code 386 = .ok (.iaload, 1) := by decide +kernel
theorem dL_law_387 : decode code 387 = .ok (.aload_n 0, 1) := by decide +kernel
theorem dL_law_388 : decode code 388 = .ok (.iload 4, 2) := by decide +kernel
theorem dL_law_390 : decode code 390 = .ok (.iconst 2, 1) := by decide +kernel
theorem dL_law_391 : decode code 391 = .ok (.iadd, 1) := by decide +kernel
theorem dL_law_392 : decode code 392 = .ok (.iaload, 1) := by decide +kernel
theorem dL_law_393 : decode code 393 = .ok (.aload_n 3, 1) := by decide +kernel
theorem dL_law_394 : decode code 394 = .ok (.invokestatic 92, 3) := by decide +kernel
theorem dL_law_397 : decode code 397 = .ok (.istore 5, 2) := by decide +kernel
theorem dL_law_399 : decode code 399 = .ok (.aload_n 2, 1) := by decide +kernel
theorem dL_law_400 : decode code 400 = .ok (.aload_n 0, 1) := by decide +kernel
theorem dL_law_401 : decode code 401 = .ok (.iload 4, 2) := by decide +kernel
theorem dL_law_403 : decode code 403 = .ok (.iconst 1, 1) := by decide +kernel
theorem dL_law_404 : decode code 404 = .ok (.iadd, 1) := by decide +kernel
theorem dL_law_405 : decode code 405 = .ok (.iaload, 1) := by decide +kernel
theorem dL_law_406 : decode code 406 = .ok (.aload_n 0, 1) := by decide +kernel
theorem dL_law_407 : decode code 407 = .ok (.iload 4, 2) := by decide +kernel
theorem dL_law_409 : decode code 409 = .ok (.iconst 2, 1) := by decide +kernel
theorem dL_law_410 : decode code 410 = .ok (.iadd, 1) := by decide +kernel
theorem dL_law_411 : decode code 411 = .ok (.iaload, 1) := by decide +kernel
theorem dL_law_412 : decode code 412 = .ok (.invokevirtual 94, 3) := by decide +kernel
theorem dL_law_415 : decode code 415 = .ok (.istore 6, 2) := by decide +kernel
theorem dL_law_417 : decode code 417 = .ok (.aload_n 2, 1) := by decide +kernel
theorem dL_law_418 : decode code 418 = .ok (.invokevirtual 79, 3) := by decide +kernel
theorem dL_law_421 : decode code 421 = .ok (.iload 5, 2) := by decide +kernel
theorem dL_law_423 : decode code 423 = .ok (.if_icmp .eq 5, 3) := by decide +kernel
theorem dL_law_428 : decode code 428 = .ok (.iload 5, 2) := by decide +kernel
theorem dL_law_430 : decode code 430 = .ok (.ifCond .ne 15, 3) := by decide +kernel
theorem dL_law_433 : decode code 433 = .ok (.aload_n 3, 1) := by decide +kernel
theorem dL_law_434 : decode code 434 = .ok (.iconst 0, 1) := by decide +kernel
theorem dL_law_435 : decode code 435 = .ok (.laload, 1) := by decide +kernel
theorem dL_law_436 : decode code 436 = .ok (.iload 6, 2) := by decide +kernel
theorem dL_law_438 : decode code 438 = .ok (.i2l, 1) := by decide +kernel
theorem dL_law_439 : decode code 439 = .ok (.lcmp, 1) := by decide +kernel
theorem dL_law_440 : decode code 440 = .ok (.ifCond .eq 5, 3) := by decide +kernel
theorem dL_law_445 : decode code 445 = .ok (.goto 824, 3) := by decide +kernel
theorem dL_law_448 : decode code 448 = .ok (.aload_n 1, 1) := by decide +kernel
theorem dL_law_449 : decode code 449 = .ok (.aload_n 0, 1) := by decide +kernel
theorem dL_law_450 : decode code 450 = .ok (.iload 4, 2) := by decide +kernel
theorem dL_law_452 : decode code 452 = .ok (.iconst 1, 1) := by decide +kernel
theorem dL_law_453 : decode code 453 = .ok (.iadd, 1) := by decide +kernel
theorem dL_law_454 : decode code 454 = .ok (.iaload, 1) := by decide +kernel
theorem dL_law_455 : decode code 455 = .ok (.aload_n 3, 1) := by decide +kernel
theorem dL_law_456 : decode code 456 = .ok (.invokestatic 95, 3) := by decide +kernel
theorem dL_law_459 : decode code 459 = .ok (.istore 5, 2) := by decide +kernel
theorem dL_law_461 : decode code 461 = .ok (.aload_n 2, 1) := by decide +kernel
theorem dL_law_462 : decode code 462 = .ok (.aload_n 0, 1) := by decide +kernel
theorem dL_law_463 : decode code 463 = .ok (.iload 4, 2) := by decide +kernel
theorem dL_law_465 : decode code 465 = .ok (.iconst 1, 1) := by decide +kernel
theorem dL_law_466 : decode code 466 = .ok (.iadd, 1) := by decide +kernel
theorem dL_law_467 : decode code 467 = .ok (.iaload, 1) := by decide +kernel
theorem dL_law_468 : decode code 468 = .ok (.invokevirtual 97, 3) := by decide +kernel
theorem dL_law_471 : decode code 471 = .ok (.istore 6, 2) := by decide +kernel
theorem dL_law_473 : decode code 473 = .ok (.aload_n 2, 1) := by decide +kernel
theorem dL_law_474 : decode code 474 = .ok (.invokevirtual 79, 3) := by decide +kernel
theorem dL_law_477 : decode code 477 = .ok (.iload 5, 2) := by decide +kernel
theorem dL_law_479 : decode code 479 = .ok (.if_icmp .eq 5, 3) := by decide +kernel
theorem dL_law_484 : decode code 484 = .ok (.iload 5, 2) := by decide +kernel
theorem dL_law_486 : decode code 486 = .ok (.ifCond .ne 15, 3) := by decide +kernel
theorem dL_law_489 : decode code 489 = .ok (.aload_n 3, 1) := by decide +kernel
theorem dL_law_490 : decode code 490 = .ok (.iconst 0, 1) := by decide +kernel
theorem dL_law_491 : decode code 491 = .ok (.laload, 1) := by decide +kernel
theorem dL_law_492 : decode code 492 = .ok (.iload 6, 2) := by decide +kernel
theorem dL_law_494 : decode code 494 = .ok (.i2l, 1) := by decide +kernel
theorem dL_law_495 : decode code 495 = .ok (.lcmp, 1) := by decide +kernel
theorem dL_law_496 : decode code 496 = .ok (.ifCond .eq 5, 3) := by decide +kernel
theorem dL_law_501 : decode code 501 = .ok (.goto 768, 3) := by decide +kernel
theorem cw_lines : Cond.codeWith yL_lines cL_lines 5 (some .int) [(0, 10, 13, 13)] ∈ bigW := bw3 210 rfl rfl
set_option maxHeartbeats 1000000 in
set_option maxRecDepth 100000 in
theorem lw_c1 {p : Program} {l : Launch} {e : Env} {s : State} {m : MethodId} {below : List Frame} {meth : Method} {c : Code} {G : GT} {b L : Nat} {xs : Nat → Int32} (hC : CX p s m meth c (lawName meth) code 9 ret #[Value.ref b]) (hT : l.stackTraces = false) (hK0 : KN G s s.heap) (hgl : gL G = s.heap.size) (hX : va_X b L xs s s.heap) (hbl : b < s.heap.size) {n : Nat} {i4 : Int32} (hn : n < 512) (h1 : vp_in (i4 + 1) L) (h2 : vp_in (i4 + 2) L) (kk : LAt p l e s m below meth c G b 1269 (n + 1) i4) : LAt p l e s m below meth c G b 200 n i4 := by
  intro a b0 q w x v hs y H locs cells slots ls hR hW hS hc hs9 hl
  have hbA : ¬ (fun z : Nat => s.heap.size ≤ z) b := Nat.not_le.mpr hbl
  have hAL : ∀ z, s.heap.size ≤ z → gL G ≤ z := fun z h => by rw [hgl]; exact h
  have hKN := hK0.go hAL hS
  have hpx := RelH_x hR
  have hpv := RelH_v hR
  obtain ⟨x1, ex1⟩ : ∃ z, z = xs (i4 + 1).toNatClampNeg := ⟨_, rfl⟩
  obtain ⟨x2, ex2⟩ : ∃ z, z = xs (i4 + 2).toNatClampNeg := ⟨_, rfl⟩
  refine lv_aload_n hC.1 hC.2.1 dL_law_200 rfl (lv_at hl 3 rfl) ?_
  refine lv_aload_n hC.1 hC.2.1 dL_law_201 rfl (lv_at hl 4 rfl) ?_
  refine lv_iload hC.1 hC.2.1 dL_law_202 (lv_at hl 0 rfl) ?_
  refine lv_iconst (v := 1) hC.1 hC.2.1 dL_law_204 (by decide) ?_
  refine lv_iadd hC.1 hC.2.1 dL_law_205 ?_
  refine va_sld hC.1 hC.2.1 hX hbl hbA hS h1 dL_law_206 ?_
  rw [← ex1]
  refine lv_aload_n hC.1 hC.2.1 dL_law_207 rfl (lv_at hl 4 rfl) ?_
  refine lv_iload hC.1 hC.2.1 dL_law_208 (lv_at hl 0 rfl) ?_
  refine lv_iconst (v := 2) hC.1 hC.2.1 dL_law_210 (by decide) ?_
  refine lv_iadd hC.1 hC.2.1 dL_law_211 ?_
  refine va_sld hC.1 hC.2.1 hX hbl hbA hS h2 dL_law_212 ?_
  rw [← ex2]
  refine lv_aload_n hC.1 hC.2.1 dL_law_213 rfl (lv_at hl 1 rfl) ?_
  refine runEX (rSX (n := 4) (B := fun _ H => PW G (wlE G w y :: hdW G a b0 x) H) (As := [.ref (a 0), .int x1, .int x2, .ref w]) (rest := []) hC cw_lines wd_0 wd_689 wd_688 (by decide +kernel) (c_L_lines l hT G a b0 x w y x1 x2 hW.1 (by first | exact hpx.1 | exact hpx.2 | exact hpx) hW.2.2.1 hW.2.2.2.1) ⟨rfl, rfl⟩ ⟨Nat.le_of_ble_eq_true rfl, Nat.le_of_ble_eq_true rfl⟩ (stb_h (fun H => PW G (wlE G w y :: hdW G a b0 x) H)) hKN hW.P1 rfl hl.1 rfl (Nat.le_of_ble_eq_true rfl) dL_law_214 ⟨(show _ ≤ 601024 by omega), (show _ ≤ 7293034 by omega)⟩) hS hW.A1 hW.A1 (fun H1 locs1 hB hz hk hS => ?_)
  obtain ⟨b', hR1, hP1⟩ := hB
  have hW := hW.left hR1 hP1 hk
  have hKN := hK0.go hAL hS
  have hop := op_lines hR hn x1 x2
  obtain ⟨F, eF⟩ : ∃ F, F = (fX5_lines x x1 x2) := ⟨_, rfl⟩
  rw [← eF] at hop hW ⊢
  obtain ⟨r5, e5⟩ : ∃ z, z = codeL (fun _ => 1) F := ⟨_, rfl⟩
  show W p l e room_1 s m #[Value.ref b] below meth c H1 locs1 (cells + 1) (slots + 6) (lw_Z below #[Value.ref b] s) (F0 m 217 ls [.int (codeL (fun _ => 1) F)])
  rw [← e5]
  refine lv_istore (x := r5) (lv' := [(5, .int r5), (4, .int i4), (3, .ref w), (2, .ref (q 0)), (1, .ref (a 0)), (0, .ref b)]) hC.1 hC.2.1 dL_law_217 hl (by decide) rfl (fun ls hl => ?_)
  refine lv_aload_n hC.1 hC.2.1 dL_law_219 rfl (lv_at hl 3 rfl) ?_
  refine lv_aload_n hC.1 hC.2.1 dL_law_220 rfl (lv_at hl 5 rfl) ?_
  refine lv_iload hC.1 hC.2.1 dL_law_221 (lv_at hl 1 rfl) ?_
  refine lv_iconst (v := 1) hC.1 hC.2.1 dL_law_223 (by decide) ?_
  refine lv_iadd hC.1 hC.2.1 dL_law_224 ?_
  refine va_sld hC.1 hC.2.1 hX hbl hbA hS h1 dL_law_225 ?_
  rw [← ex1]
  refine lv_aload_n hC.1 hC.2.1 dL_law_226 rfl (lv_at hl 5 rfl) ?_
  refine lv_iload hC.1 hC.2.1 dL_law_227 (lv_at hl 1 rfl) ?_
  refine lv_iconst (v := 2) hC.1 hC.2.1 dL_law_229 (by decide) ?_
  refine lv_iadd hC.1 hC.2.1 dL_law_230 ?_
  refine va_sld hC.1 hC.2.1 hX hbl hbA hS h2 dL_law_231 ?_
  rw [← ex2]
  refine runE (rV (B := fun U H => PW G (mdW G q v hs) H) (As := [.int x1, .int x2]) (rest := []) hC mwX6_lines (c_X6_lines l G q v hs x1 x2 hW.2.1 (by first | exact hpv.1 | exact hpv.1.1 | exact hpv.1.2 | exact hpv.2.1 | exact hpv.2.2 | exact hpv.2.2.2.1 | exact ⟨hpv.1.1, hpv.1.2, hpv.2.1⟩)) iwX6_lines wd_1031 ⟨rfl, rfl⟩ ⟨Nat.le_of_ble_eq_true rfl, Nat.le_of_ble_eq_true rfl⟩ (stb_h (fun H => PW G (mdW G q v hs) H)) hKN hW.P2 (va_recv hKN.k hW.P2 (ci := 6) (q0 := 0) rfl rfl) rfl hl.1 rfl (Nat.le_of_ble_eq_true rfl) dL_law_232 ⟨(show _ ≤ 601024 by omega), (show _ ≤ 7293034 by omega)⟩) hS hW.A2 hW.A2 (fun H2 locs2 hB hz hk hS => ?_)
  have hW := hW.right hB hk
  have hKN := hK0.go hAL hS
  obtain ⟨u, eu⟩ : ∃ u, u = (fX6_lines v x1 x2) := ⟨_, rfl⟩
  rw [← eu] at hop hW ⊢
  obtain ⟨o1, o2, o3⟩ := hop
  refine lv_istore (x := u.2) (lv' := [(6, .int u.2), (5, .int r5), (4, .int i4), (3, .ref w), (2, .ref (q 0)), (1, .ref (a 0)), (0, .ref b)]) hC.1 hC.2.1 dL_law_235 hl (by decide) rfl (fun ls hl => ?_)
  refine lv_aload_n hC.1 hC.2.1 dL_law_237 rfl (lv_at hl 4 rfl) ?_
  refine runP (rV (B := fun U H => PW G (mdW G q u.1 hs) H) (As := []) (rest := []) hC mwX6_thrown (c_X6_thrown l G q u.1 hs) iwX6_thrown wd_942 ⟨rfl, rfl⟩ ⟨Nat.le_of_ble_eq_true rfl, Nat.le_of_ble_eq_true rfl⟩ (stb_h (fun H => PW G (mdW G q u.1 hs) H)) hKN hW.P2 (va_recv hKN.k hW.P2 (ci := 6) (q0 := 0) rfl rfl) rfl hl.1 rfl (Nat.le_of_ble_eq_true rfl) dL_law_238 ⟨(show _ ≤ 601024 by omega), (show _ ≤ 7293034 by omega)⟩) ?_
  refine lv_iload hC.1 hC.2.1 dL_law_241 (lv_at hl 1 rfl) ?_
  refine lv_icmp_eq (tgt := 248) hC.1 hC.2.1 dL_law_243 (by decide) (fun _ => ?_) (fun h => absurd (o2.trans e5.symm) h)
  refine lv_iload hC.1 hC.2.1 dL_law_248 (lv_at hl 1 rfl) ?_
  have fin : W p l e room_1 s m #[Value.ref b] below meth c H2 locs2 (cells + 1 + 0) (slots + 6 + 0) (lw_Z below #[Value.ref b] s) (F0 m 265 ls []) := by
    refine lv_goto (tgt := 1269) hC.1 hC.2.1 dL_law_265 (by decide) ?_
    exact kk a b' q w (wldL F) u.1 hs (ansL F y) _ _ _ _ ls o1 hW hS (by omega) (by omega) (lv_sub hl [2, 3, 4, 5, 6] rfl)
  refine lv_if_ne (tgt := 265) hC.1 hC.2.1 dL_law_250 (by decide) (fun _ => fin) (fun h5 => ?_)
  refine lv_aload_n hC.1 hC.2.1 dL_law_253 rfl (lv_at hl 3 rfl) ?_
  refine lv_iconst (v := 0) hC.1 hC.2.1 dL_law_254 (by decide) ?_
  refine va_lald hC.1 hC.2.1 hKN.k hW.P1 0 1 rfl rfl (show vp_in (nI 0) 1 from vp_in_nI (by decide) (by decide)) dL_law_255 ?_
  refine lv_iload hC.1 hC.2.1 dL_law_256 (lv_at hl 0 rfl) ?_
  refine lv_i2l (v := u.2.toInt64) hC.1 hC.2.1 dL_law_258 rfl ?_
  refine lv_lcmpE hC.1 hC.2.1 dL_law_259 (o3 (e5.symm.trans h5) y) ?_
  exact lv_if_eq (tgt := 265) hC.1 hC.2.1 dL_law_260 (by decide) (fun _ => fin) (fun h => absurd rfl h)
theorem cw_rest : Cond.codeWith yL_rest cL_rest 4 (some .int) [(0, 9, 12, 13)] ∈ bigW := bw3 223 rfl rfl
set_option maxHeartbeats 1000000 in
set_option maxRecDepth 100000 in
theorem lw_c2 {p : Program} {l : Launch} {e : Env} {s : State} {m : MethodId} {below : List Frame} {meth : Method} {c : Code} {G : GT} {b L : Nat} {xs : Nat → Int32} (hC : CX p s m meth c (lawName meth) code 9 ret #[Value.ref b]) (hT : l.stackTraces = false) (hK0 : KN G s s.heap) (hgl : gL G = s.heap.size) (hX : va_X b L xs s s.heap) (hbl : b < s.heap.size) {n : Nat} {i4 : Int32} (hn : n < 512) (h1 : vp_in (i4 + 1) L) (h2 : vp_in (i4 + 2) L) (kk : LAt p l e s m below meth c G b 1269 (n + 1) i4) : LAt p l e s m below meth c G b 268 n i4 := by
  intro a b0 q w x v hs y H locs cells slots ls hR hW hS hc hs9 hl
  have hbA : ¬ (fun z : Nat => s.heap.size ≤ z) b := Nat.not_le.mpr hbl
  have hAL : ∀ z, s.heap.size ≤ z → gL G ≤ z := fun z h => by rw [hgl]; exact h
  have hKN := hK0.go hAL hS
  have hpx := RelH_x hR
  have hpv := RelH_v hR
  obtain ⟨x1, ex1⟩ : ∃ z, z = xs (i4 + 1).toNatClampNeg := ⟨_, rfl⟩
  obtain ⟨x2, ex2⟩ : ∃ z, z = xs (i4 + 2).toNatClampNeg := ⟨_, rfl⟩
  refine lv_aload_n hC.1 hC.2.1 dL_law_268 rfl (lv_at hl 3 rfl) ?_
  refine lv_aload_n hC.1 hC.2.1 dL_law_269 rfl (lv_at hl 4 rfl) ?_
  refine lv_iload hC.1 hC.2.1 dL_law_270 (lv_at hl 0 rfl) ?_
  refine lv_iconst (v := 1) hC.1 hC.2.1 dL_law_272 (by decide) ?_
  refine lv_iadd hC.1 hC.2.1 dL_law_273 ?_
  refine va_sld hC.1 hC.2.1 hX hbl hbA hS h1 dL_law_274 ?_
  rw [← ex1]
  refine lv_aload_n hC.1 hC.2.1 dL_law_275 rfl (lv_at hl 1 rfl) ?_
  refine runEX (rSX (n := 3) (B := fun _ H => PW G (wlE G w y :: hdW G a b0 x) H) (As := [.ref (a 0), .int x1, .ref w]) (rest := []) hC cw_rest wd_0 wd_702 wd_701 (by decide +kernel) (c_L_rest l hT G a b0 x w y x1 hW.1 (by first | exact hpx.1 | exact hpx.2 | exact hpx) hW.2.2.1 hW.2.2.2.1) ⟨rfl, rfl⟩ ⟨Nat.le_of_ble_eq_true rfl, Nat.le_of_ble_eq_true rfl⟩ (stb_h (fun H => PW G (wlE G w y :: hdW G a b0 x) H)) hKN hW.P1 rfl hl.1 rfl (Nat.le_of_ble_eq_true rfl) dL_law_276 ⟨(show _ ≤ 601024 by omega), (show _ ≤ 7293034 by omega)⟩) hS hW.A1 hW.A1 (fun H1 locs1 hB hz hk hS => ?_)
  obtain ⟨b', hR1, hP1⟩ := hB
  have hW := hW.left hR1 hP1 hk
  have hKN := hK0.go hAL hS
  have hop := op_rest hR hn x1
  obtain ⟨F, eF⟩ : ∃ F, F = (fX5_rest x x1) := ⟨_, rfl⟩
  rw [← eF] at hop hW ⊢
  obtain ⟨r5, e5⟩ : ∃ z, z = codeL (fun _ => 1) F := ⟨_, rfl⟩
  show W p l e room_1 s m #[Value.ref b] below meth c H1 locs1 (cells + 1) (slots + 6) (lw_Z below #[Value.ref b] s) (F0 m 279 ls [.int (codeL (fun _ => 1) F)])
  rw [← e5]
  refine lv_istore (x := r5) (lv' := [(5, .int r5), (4, .int i4), (3, .ref w), (2, .ref (q 0)), (1, .ref (a 0)), (0, .ref b)]) hC.1 hC.2.1 dL_law_279 hl (by decide) rfl (fun ls hl => ?_)
  refine lv_aload_n hC.1 hC.2.1 dL_law_281 rfl (lv_at hl 3 rfl) ?_
  refine lv_aload_n hC.1 hC.2.1 dL_law_282 rfl (lv_at hl 5 rfl) ?_
  refine lv_iload hC.1 hC.2.1 dL_law_283 (lv_at hl 1 rfl) ?_
  refine lv_iconst (v := 1) hC.1 hC.2.1 dL_law_285 (by decide) ?_
  refine lv_iadd hC.1 hC.2.1 dL_law_286 ?_
  refine va_sld hC.1 hC.2.1 hX hbl hbA hS h1 dL_law_287 ?_
  rw [← ex1]
  refine runE (rV (B := fun U H => PW G (mdW G q v hs) H) (As := [.int x1]) (rest := []) hC mwX6_rest (c_X6_rest l G q v hs x1 hW.2.1 (by first | exact hpv.1 | exact hpv.1.1 | exact hpv.1.2 | exact hpv.2.1 | exact hpv.2.2 | exact hpv.2.2.2.1 | exact ⟨hpv.1.1, hpv.1.2, hpv.2.1⟩)) iwX6_rest wd_1043 ⟨rfl, rfl⟩ ⟨Nat.le_of_ble_eq_true rfl, Nat.le_of_ble_eq_true rfl⟩ (stb_h (fun H => PW G (mdW G q v hs) H)) hKN hW.P2 (va_recv hKN.k hW.P2 (ci := 6) (q0 := 0) rfl rfl) rfl hl.1 rfl (Nat.le_of_ble_eq_true rfl) dL_law_288 ⟨(show _ ≤ 601024 by omega), (show _ ≤ 7293034 by omega)⟩) hS hW.A2 hW.A2 (fun H2 locs2 hB hz hk hS => ?_)
  have hW := hW.right hB hk
  have hKN := hK0.go hAL hS
  obtain ⟨u, eu⟩ : ∃ u, u = (fX6_rest v x1) := ⟨_, rfl⟩
  rw [← eu] at hop hW ⊢
  obtain ⟨o1, o2, o3⟩ := hop
  refine lv_istore (x := u.2) (lv' := [(6, .int u.2), (5, .int r5), (4, .int i4), (3, .ref w), (2, .ref (q 0)), (1, .ref (a 0)), (0, .ref b)]) hC.1 hC.2.1 dL_law_291 hl (by decide) rfl (fun ls hl => ?_)
  refine lv_aload_n hC.1 hC.2.1 dL_law_293 rfl (lv_at hl 4 rfl) ?_
  refine runP (rV (B := fun U H => PW G (mdW G q u.1 hs) H) (As := []) (rest := []) hC mwX6_thrown (c_X6_thrown l G q u.1 hs) iwX6_thrown wd_942 ⟨rfl, rfl⟩ ⟨Nat.le_of_ble_eq_true rfl, Nat.le_of_ble_eq_true rfl⟩ (stb_h (fun H => PW G (mdW G q u.1 hs) H)) hKN hW.P2 (va_recv hKN.k hW.P2 (ci := 6) (q0 := 0) rfl rfl) rfl hl.1 rfl (Nat.le_of_ble_eq_true rfl) dL_law_294 ⟨(show _ ≤ 601024 by omega), (show _ ≤ 7293034 by omega)⟩) ?_
  refine lv_iload hC.1 hC.2.1 dL_law_297 (lv_at hl 1 rfl) ?_
  refine lv_icmp_eq (tgt := 304) hC.1 hC.2.1 dL_law_299 (by decide) (fun _ => ?_) (fun h => absurd (o2.trans e5.symm) h)
  refine lv_iload hC.1 hC.2.1 dL_law_304 (lv_at hl 1 rfl) ?_
  have fin : W p l e room_1 s m #[Value.ref b] below meth c H2 locs2 (cells + 1 + 0) (slots + 6 + 0) (lw_Z below #[Value.ref b] s) (F0 m 321 ls []) := by
    refine lv_goto (tgt := 1269) hC.1 hC.2.1 dL_law_321 (by decide) ?_
    exact kk a b' q w (wldL F) u.1 hs (ansL F y) _ _ _ _ ls o1 hW hS (by omega) (by omega) (lv_sub hl [2, 3, 4, 5, 6] rfl)
  refine lv_if_ne (tgt := 321) hC.1 hC.2.1 dL_law_306 (by decide) (fun _ => fin) (fun h5 => ?_)
  refine lv_aload_n hC.1 hC.2.1 dL_law_309 rfl (lv_at hl 3 rfl) ?_
  refine lv_iconst (v := 0) hC.1 hC.2.1 dL_law_310 (by decide) ?_
  refine va_lald hC.1 hC.2.1 hKN.k hW.P1 0 1 rfl rfl (show vp_in (nI 0) 1 from vp_in_nI (by decide) (by decide)) dL_law_311 ?_
  refine lv_iload hC.1 hC.2.1 dL_law_312 (lv_at hl 0 rfl) ?_
  refine lv_i2l (v := u.2.toInt64) hC.1 hC.2.1 dL_law_314 rfl ?_
  refine lv_lcmpE hC.1 hC.2.1 dL_law_315 (o3 (e5.symm.trans h5) y) ?_
  exact lv_if_eq (tgt := 321) hC.1 hC.2.1 dL_law_316 (by decide) (fun _ => fin) (fun h => absurd rfl h)
theorem cw_paper : Cond.codeWith yL_paper cL_paper 4 (some .int) [(0, 9, 12, 13)] ∈ bigW := bw3 232 rfl rfl
set_option maxHeartbeats 1000000 in
set_option maxRecDepth 100000 in
theorem lw_c3 {p : Program} {l : Launch} {e : Env} {s : State} {m : MethodId} {below : List Frame} {meth : Method} {c : Code} {G : GT} {b L : Nat} {xs : Nat → Int32} (hC : CX p s m meth c (lawName meth) code 9 ret #[Value.ref b]) (hT : l.stackTraces = false) (hK0 : KN G s s.heap) (hgl : gL G = s.heap.size) (hX : va_X b L xs s s.heap) (hbl : b < s.heap.size) {n : Nat} {i4 : Int32} (hn : n < 512) (h1 : vp_in (i4 + 1) L) (h2 : vp_in (i4 + 2) L) (kk : LAt p l e s m below meth c G b 1269 (n + 1) i4) : LAt p l e s m below meth c G b 324 n i4 := by
  intro a b0 q w x v hs y H locs cells slots ls hR hW hS hc hs9 hl
  have hbA : ¬ (fun z : Nat => s.heap.size ≤ z) b := Nat.not_le.mpr hbl
  have hAL : ∀ z, s.heap.size ≤ z → gL G ≤ z := fun z h => by rw [hgl]; exact h
  have hKN := hK0.go hAL hS
  have hpx := RelH_x hR
  have hpv := RelH_v hR
  obtain ⟨x1, ex1⟩ : ∃ z, z = xs (i4 + 1).toNatClampNeg := ⟨_, rfl⟩
  obtain ⟨x2, ex2⟩ : ∃ z, z = xs (i4 + 2).toNatClampNeg := ⟨_, rfl⟩
  refine lv_aload_n hC.1 hC.2.1 dL_law_324 rfl (lv_at hl 3 rfl) ?_
  refine lv_aload_n hC.1 hC.2.1 dL_law_325 rfl (lv_at hl 4 rfl) ?_
  refine lv_iload hC.1 hC.2.1 dL_law_326 (lv_at hl 0 rfl) ?_
  refine lv_iconst (v := 1) hC.1 hC.2.1 dL_law_328 (by decide) ?_
  refine lv_iadd hC.1 hC.2.1 dL_law_329 ?_
  refine va_sld hC.1 hC.2.1 hX hbl hbA hS h1 dL_law_330 ?_
  rw [← ex1]
  refine lv_aload_n hC.1 hC.2.1 dL_law_331 rfl (lv_at hl 1 rfl) ?_
  refine runEX (rSX (n := 3) (B := fun _ H => PW G (wlE G w y :: hdW G a b0 x) H) (As := [.ref (a 0), .int x1, .ref w]) (rest := []) hC cw_paper wd_0 wd_711 wd_710 (by decide +kernel) (c_L_paper l hT G a b0 x w y x1 hW.1 (by first | exact hpx.1 | exact hpx.2 | exact hpx) hW.2.2.1 hW.2.2.2.1) ⟨rfl, rfl⟩ ⟨Nat.le_of_ble_eq_true rfl, Nat.le_of_ble_eq_true rfl⟩ (stb_h (fun H => PW G (wlE G w y :: hdW G a b0 x) H)) hKN hW.P1 rfl hl.1 rfl (Nat.le_of_ble_eq_true rfl) dL_law_332 ⟨(show _ ≤ 601024 by omega), (show _ ≤ 7293034 by omega)⟩) hS hW.A1 hW.A1 (fun H1 locs1 hB hz hk hS => ?_)
  obtain ⟨b', hR1, hP1⟩ := hB
  have hW := hW.left hR1 hP1 hk
  have hKN := hK0.go hAL hS
  have hop := op_paper hR hn x1
  obtain ⟨F, eF⟩ : ∃ F, F = (fX5_paper x x1) := ⟨_, rfl⟩
  rw [← eF] at hop hW ⊢
  obtain ⟨r5, e5⟩ : ∃ z, z = codeL (fun _ => 1) F := ⟨_, rfl⟩
  show W p l e room_1 s m #[Value.ref b] below meth c H1 locs1 (cells + 1) (slots + 6) (lw_Z below #[Value.ref b] s) (F0 m 335 ls [.int (codeL (fun _ => 1) F)])
  rw [← e5]
  refine lv_istore (x := r5) (lv' := [(5, .int r5), (4, .int i4), (3, .ref w), (2, .ref (q 0)), (1, .ref (a 0)), (0, .ref b)]) hC.1 hC.2.1 dL_law_335 hl (by decide) rfl (fun ls hl => ?_)
  refine lv_aload_n hC.1 hC.2.1 dL_law_337 rfl (lv_at hl 3 rfl) ?_
  refine lv_aload_n hC.1 hC.2.1 dL_law_338 rfl (lv_at hl 5 rfl) ?_
  refine lv_iload hC.1 hC.2.1 dL_law_339 (lv_at hl 1 rfl) ?_
  refine lv_iconst (v := 1) hC.1 hC.2.1 dL_law_341 (by decide) ?_
  refine lv_iadd hC.1 hC.2.1 dL_law_342 ?_
  refine va_sld hC.1 hC.2.1 hX hbl hbA hS h1 dL_law_343 ?_
  rw [← ex1]
  refine runE (rV (B := fun U H => PW G (mdW G q v hs) H) (As := [.int x1]) (rest := []) hC mwX6_paper (c_X6_paper l G q v hs x1 hW.2.1 (by first | exact hpv.1 | exact hpv.1.1 | exact hpv.1.2 | exact hpv.2.1 | exact hpv.2.2 | exact hpv.2.2.2.1 | exact ⟨hpv.1.1, hpv.1.2, hpv.2.1⟩)) iwX6_paper wd_1051 ⟨rfl, rfl⟩ ⟨Nat.le_of_ble_eq_true rfl, Nat.le_of_ble_eq_true rfl⟩ (stb_h (fun H => PW G (mdW G q v hs) H)) hKN hW.P2 (va_recv hKN.k hW.P2 (ci := 6) (q0 := 0) rfl rfl) rfl hl.1 rfl (Nat.le_of_ble_eq_true rfl) dL_law_344 ⟨(show _ ≤ 601024 by omega), (show _ ≤ 7293034 by omega)⟩) hS hW.A2 hW.A2 (fun H2 locs2 hB hz hk hS => ?_)
  have hW := hW.right hB hk
  have hKN := hK0.go hAL hS
  obtain ⟨u, eu⟩ : ∃ u, u = (fX6_paper v x1) := ⟨_, rfl⟩
  rw [← eu] at hop hW ⊢
  obtain ⟨o1, o2, o3⟩ := hop
  refine lv_istore (x := u.2) (lv' := [(6, .int u.2), (5, .int r5), (4, .int i4), (3, .ref w), (2, .ref (q 0)), (1, .ref (a 0)), (0, .ref b)]) hC.1 hC.2.1 dL_law_347 hl (by decide) rfl (fun ls hl => ?_)
  refine lv_aload_n hC.1 hC.2.1 dL_law_349 rfl (lv_at hl 4 rfl) ?_
  refine runP (rV (B := fun U H => PW G (mdW G q u.1 hs) H) (As := []) (rest := []) hC mwX6_thrown (c_X6_thrown l G q u.1 hs) iwX6_thrown wd_942 ⟨rfl, rfl⟩ ⟨Nat.le_of_ble_eq_true rfl, Nat.le_of_ble_eq_true rfl⟩ (stb_h (fun H => PW G (mdW G q u.1 hs) H)) hKN hW.P2 (va_recv hKN.k hW.P2 (ci := 6) (q0 := 0) rfl rfl) rfl hl.1 rfl (Nat.le_of_ble_eq_true rfl) dL_law_350 ⟨(show _ ≤ 601024 by omega), (show _ ≤ 7293034 by omega)⟩) ?_
  refine lv_iload hC.1 hC.2.1 dL_law_353 (lv_at hl 1 rfl) ?_
  refine lv_icmp_eq (tgt := 360) hC.1 hC.2.1 dL_law_355 (by decide) (fun _ => ?_) (fun h => absurd (o2.trans e5.symm) h)
  refine lv_iload hC.1 hC.2.1 dL_law_360 (lv_at hl 1 rfl) ?_
  have fin : W p l e room_1 s m #[Value.ref b] below meth c H2 locs2 (cells + 1 + 0) (slots + 6 + 0) (lw_Z below #[Value.ref b] s) (F0 m 377 ls []) := by
    refine lv_goto (tgt := 1269) hC.1 hC.2.1 dL_law_377 (by decide) ?_
    exact kk a b' q w (wldL F) u.1 hs (ansL F y) _ _ _ _ ls o1 hW hS (by omega) (by omega) (lv_sub hl [2, 3, 4, 5, 6] rfl)
  refine lv_if_ne (tgt := 377) hC.1 hC.2.1 dL_law_362 (by decide) (fun _ => fin) (fun h5 => ?_)
  refine lv_aload_n hC.1 hC.2.1 dL_law_365 rfl (lv_at hl 3 rfl) ?_
  refine lv_iconst (v := 0) hC.1 hC.2.1 dL_law_366 (by decide) ?_
  refine va_lald hC.1 hC.2.1 hKN.k hW.P1 0 1 rfl rfl (show vp_in (nI 0) 1 from vp_in_nI (by decide) (by decide)) dL_law_367 ?_
  refine lv_iload hC.1 hC.2.1 dL_law_368 (lv_at hl 0 rfl) ?_
  refine lv_i2l (v := u.2.toInt64) hC.1 hC.2.1 dL_law_370 rfl ?_
  refine lv_lcmpE hC.1 hC.2.1 dL_law_371 (o3 (e5.symm.trans h5) y) ?_
  exact lv_if_eq (tgt := 377) hC.1 hC.2.1 dL_law_372 (by decide) (fun _ => fin) (fun h => absurd rfl h)
theorem cw_set : Cond.codeWith yL_set cL_set 5 (some .int) [(0, 10, 13, 28), (0, 10, 17, 13)] ∈ bigW := bw4 4 rfl rfl
set_option maxHeartbeats 1000000 in
set_option maxRecDepth 100000 in
theorem lw_c4 {p : Program} {l : Launch} {e : Env} {s : State} {m : MethodId} {below : List Frame} {meth : Method} {c : Code} {G : GT} {b L : Nat} {xs : Nat → Int32} (hC : CX p s m meth c (lawName meth) code 9 ret #[Value.ref b]) (hT : l.stackTraces = false) (hK0 : KN G s s.heap) (hgl : gL G = s.heap.size) (hX : va_X b L xs s s.heap) (hbl : b < s.heap.size) {n : Nat} {i4 : Int32} (hn : n < 512) (h1 : vp_in (i4 + 1) L) (h2 : vp_in (i4 + 2) L) (kk : LAt p l e s m below meth c G b 1269 (n + 1) i4) : LAt p l e s m below meth c G b 380 n i4 := by
  intro a b0 q w x v hs y H locs cells slots ls hR hW hS hc hs9 hl
  have hbA : ¬ (fun z : Nat => s.heap.size ≤ z) b := Nat.not_le.mpr hbl
  have hAL : ∀ z, s.heap.size ≤ z → gL G ≤ z := fun z h => by rw [hgl]; exact h
  have hKN := hK0.go hAL hS
  have hpx := RelH_x hR
  have hpv := RelH_v hR
  obtain ⟨x1, ex1⟩ : ∃ z, z = xs (i4 + 1).toNatClampNeg := ⟨_, rfl⟩
  obtain ⟨x2, ex2⟩ : ∃ z, z = xs (i4 + 2).toNatClampNeg := ⟨_, rfl⟩
  refine lv_aload_n hC.1 hC.2.1 dL_law_380 rfl (lv_at hl 3 rfl) ?_
  refine lv_aload_n hC.1 hC.2.1 dL_law_381 rfl (lv_at hl 4 rfl) ?_
  refine lv_iload hC.1 hC.2.1 dL_law_382 (lv_at hl 0 rfl) ?_
  refine lv_iconst (v := 1) hC.1 hC.2.1 dL_law_384 (by decide) ?_
  refine lv_iadd hC.1 hC.2.1 dL_law_385 ?_
  refine va_sld hC.1 hC.2.1 hX hbl hbA hS h1 dL_law_386 ?_
  rw [← ex1]
  refine lv_aload_n hC.1 hC.2.1 dL_law_387 rfl (lv_at hl 4 rfl) ?_
  refine lv_iload hC.1 hC.2.1 dL_law_388 (lv_at hl 0 rfl) ?_
  refine lv_iconst (v := 2) hC.1 hC.2.1 dL_law_390 (by decide) ?_
  refine lv_iadd hC.1 hC.2.1 dL_law_391 ?_
  refine va_sld hC.1 hC.2.1 hX hbl hbA hS h2 dL_law_392 ?_
  rw [← ex2]
  refine lv_aload_n hC.1 hC.2.1 dL_law_393 rfl (lv_at hl 1 rfl) ?_
  refine runEX (rSX (n := 4) (B := fun _ H => PW G (wlE G w y :: hdW G a b0 x) H) (As := [.ref (a 0), .int x1, .int x2, .ref w]) (rest := []) hC cw_set wd_0 wd_723 wd_722 (by decide +kernel) (c_L_set l hT G a b0 x w y x1 x2 hW.1 (by first | exact hpx.1 | exact hpx.2 | exact hpx) hW.2.2.1 hW.2.2.2.1) ⟨rfl, rfl⟩ ⟨Nat.le_of_ble_eq_true rfl, Nat.le_of_ble_eq_true rfl⟩ (stb_h (fun H => PW G (wlE G w y :: hdW G a b0 x) H)) hKN hW.P1 rfl hl.1 rfl (Nat.le_of_ble_eq_true rfl) dL_law_394 ⟨(show _ ≤ 601024 by omega), (show _ ≤ 7293034 by omega)⟩) hS hW.A1 hW.A1 (fun H1 locs1 hB hz hk hS => ?_)
  obtain ⟨b', hR1, hP1⟩ := hB
  have hW := hW.left hR1 hP1 hk
  have hKN := hK0.go hAL hS
  have hop := op_set hR hn x1 x2
  obtain ⟨F, eF⟩ : ∃ F, F = (fX5_set x x1 x2) := ⟨_, rfl⟩
  rw [← eF] at hop hW ⊢
  obtain ⟨r5, e5⟩ : ∃ z, z = codeL (fun k => if k = 1 then 1 else 2) F := ⟨_, rfl⟩
  show W p l e room_1 s m #[Value.ref b] below meth c H1 locs1 (cells + 1) (slots + 6) (lw_Z below #[Value.ref b] s) (F0 m 397 ls [.int (codeL (fun k => if k = 1 then 1 else 2) F)])
  rw [← e5]
  refine lv_istore (x := r5) (lv' := [(5, .int r5), (4, .int i4), (3, .ref w), (2, .ref (q 0)), (1, .ref (a 0)), (0, .ref b)]) hC.1 hC.2.1 dL_law_397 hl (by decide) rfl (fun ls hl => ?_)
  refine lv_aload_n hC.1 hC.2.1 dL_law_399 rfl (lv_at hl 3 rfl) ?_
  refine lv_aload_n hC.1 hC.2.1 dL_law_400 rfl (lv_at hl 5 rfl) ?_
  refine lv_iload hC.1 hC.2.1 dL_law_401 (lv_at hl 1 rfl) ?_
  refine lv_iconst (v := 1) hC.1 hC.2.1 dL_law_403 (by decide) ?_
  refine lv_iadd hC.1 hC.2.1 dL_law_404 ?_
  refine va_sld hC.1 hC.2.1 hX hbl hbA hS h1 dL_law_405 ?_
  rw [← ex1]
  refine lv_aload_n hC.1 hC.2.1 dL_law_406 rfl (lv_at hl 5 rfl) ?_
  refine lv_iload hC.1 hC.2.1 dL_law_407 (lv_at hl 1 rfl) ?_
  refine lv_iconst (v := 2) hC.1 hC.2.1 dL_law_409 (by decide) ?_
  refine lv_iadd hC.1 hC.2.1 dL_law_410 ?_
  refine va_sld hC.1 hC.2.1 hX hbl hbA hS h2 dL_law_411 ?_
  rw [← ex2]
  refine runE (rV (B := fun U H => PW G (mdW G q v hs) H) (As := [.int x1, .int x2]) (rest := []) hC mwX6_set (c_X6_set l G q v hs x1 x2 hW.2.1 (by first | exact hpv.1 | exact hpv.1.1 | exact hpv.1.2 | exact hpv.2.1 | exact hpv.2.2 | exact hpv.2.2.2.1 | exact ⟨hpv.1.1, hpv.1.2, hpv.2.1⟩)) iwX6_set wd_1059 ⟨rfl, rfl⟩ ⟨Nat.le_of_ble_eq_true rfl, Nat.le_of_ble_eq_true rfl⟩ (stb_h (fun H => PW G (mdW G q v hs) H)) hKN hW.P2 (va_recv hKN.k hW.P2 (ci := 6) (q0 := 0) rfl rfl) rfl hl.1 rfl (Nat.le_of_ble_eq_true rfl) dL_law_412 ⟨(show _ ≤ 601024 by omega), (show _ ≤ 7293034 by omega)⟩) hS hW.A2 hW.A2 (fun H2 locs2 hB hz hk hS => ?_)
  have hW := hW.right hB hk
  have hKN := hK0.go hAL hS
  obtain ⟨u, eu⟩ : ∃ u, u = (fX6_set v x1 x2) := ⟨_, rfl⟩
  rw [← eu] at hop hW ⊢
  obtain ⟨o1, o2, o3⟩ := hop
  refine lv_istore (x := u.2) (lv' := [(6, .int u.2), (5, .int r5), (4, .int i4), (3, .ref w), (2, .ref (q 0)), (1, .ref (a 0)), (0, .ref b)]) hC.1 hC.2.1 dL_law_415 hl (by decide) rfl (fun ls hl => ?_)
  refine lv_aload_n hC.1 hC.2.1 dL_law_417 rfl (lv_at hl 4 rfl) ?_
  refine runP (rV (B := fun U H => PW G (mdW G q u.1 hs) H) (As := []) (rest := []) hC mwX6_thrown (c_X6_thrown l G q u.1 hs) iwX6_thrown wd_942 ⟨rfl, rfl⟩ ⟨Nat.le_of_ble_eq_true rfl, Nat.le_of_ble_eq_true rfl⟩ (stb_h (fun H => PW G (mdW G q u.1 hs) H)) hKN hW.P2 (va_recv hKN.k hW.P2 (ci := 6) (q0 := 0) rfl rfl) rfl hl.1 rfl (Nat.le_of_ble_eq_true rfl) dL_law_418 ⟨(show _ ≤ 601024 by omega), (show _ ≤ 7293034 by omega)⟩) ?_
  refine lv_iload hC.1 hC.2.1 dL_law_421 (lv_at hl 1 rfl) ?_
  refine lv_icmp_eq (tgt := 428) hC.1 hC.2.1 dL_law_423 (by decide) (fun _ => ?_) (fun h => absurd (o2.trans e5.symm) h)
  refine lv_iload hC.1 hC.2.1 dL_law_428 (lv_at hl 1 rfl) ?_
  have fin : W p l e room_1 s m #[Value.ref b] below meth c H2 locs2 (cells + 1 + 0) (slots + 6 + 0) (lw_Z below #[Value.ref b] s) (F0 m 445 ls []) := by
    refine lv_goto (tgt := 1269) hC.1 hC.2.1 dL_law_445 (by decide) ?_
    exact kk a b' q w (wldL F) u.1 hs (ansL F y) _ _ _ _ ls o1 hW hS (by omega) (by omega) (lv_sub hl [2, 3, 4, 5, 6] rfl)
  refine lv_if_ne (tgt := 445) hC.1 hC.2.1 dL_law_430 (by decide) (fun _ => fin) (fun h5 => ?_)
  refine lv_aload_n hC.1 hC.2.1 dL_law_433 rfl (lv_at hl 3 rfl) ?_
  refine lv_iconst (v := 0) hC.1 hC.2.1 dL_law_434 (by decide) ?_
  refine va_lald hC.1 hC.2.1 hKN.k hW.P1 0 1 rfl rfl (show vp_in (nI 0) 1 from vp_in_nI (by decide) (by decide)) dL_law_435 ?_
  refine lv_iload hC.1 hC.2.1 dL_law_436 (lv_at hl 0 rfl) ?_
  refine lv_i2l (v := u.2.toInt64) hC.1 hC.2.1 dL_law_438 rfl ?_
  refine lv_lcmpE hC.1 hC.2.1 dL_law_439 (o3 (e5.symm.trans h5) y) ?_
  exact lv_if_eq (tgt := 445) hC.1 hC.2.1 dL_law_440 (by decide) (fun _ => fin) (fun h => absurd rfl h)
theorem cw_append : Cond.codeWith yL_append cL_append 4 (some .int) [(0, 9, 12, 13), (0, 9, 15, 33)] ∈ bigW := bw4 32 rfl rfl
set_option maxHeartbeats 1000000 in
set_option maxRecDepth 100000 in
theorem lw_c5 {p : Program} {l : Launch} {e : Env} {s : State} {m : MethodId} {below : List Frame} {meth : Method} {c : Code} {G : GT} {b L : Nat} {xs : Nat → Int32} (hC : CX p s m meth c (lawName meth) code 9 ret #[Value.ref b]) (hT : l.stackTraces = false) (hK0 : KN G s s.heap) (hgl : gL G = s.heap.size) (hX : va_X b L xs s s.heap) (hbl : b < s.heap.size) {n : Nat} {i4 : Int32} (hn : n < 512) (h1 : vp_in (i4 + 1) L) (h2 : vp_in (i4 + 2) L) (kk : LAt p l e s m below meth c G b 1269 (n + 1) i4) : LAt p l e s m below meth c G b 448 n i4 := by
  intro a b0 q w x v hs y H locs cells slots ls hR hW hS hc hs9 hl
  have hbA : ¬ (fun z : Nat => s.heap.size ≤ z) b := Nat.not_le.mpr hbl
  have hAL : ∀ z, s.heap.size ≤ z → gL G ≤ z := fun z h => by rw [hgl]; exact h
  have hKN := hK0.go hAL hS
  have hpx := RelH_x hR
  have hpv := RelH_v hR
  obtain ⟨x1, ex1⟩ : ∃ z, z = xs (i4 + 1).toNatClampNeg := ⟨_, rfl⟩
  obtain ⟨x2, ex2⟩ : ∃ z, z = xs (i4 + 2).toNatClampNeg := ⟨_, rfl⟩
  refine lv_aload_n hC.1 hC.2.1 dL_law_448 rfl (lv_at hl 3 rfl) ?_
  refine lv_aload_n hC.1 hC.2.1 dL_law_449 rfl (lv_at hl 4 rfl) ?_
  refine lv_iload hC.1 hC.2.1 dL_law_450 (lv_at hl 0 rfl) ?_
  refine lv_iconst (v := 1) hC.1 hC.2.1 dL_law_452 (by decide) ?_
  refine lv_iadd hC.1 hC.2.1 dL_law_453 ?_
  refine va_sld hC.1 hC.2.1 hX hbl hbA hS h1 dL_law_454 ?_
  rw [← ex1]
  refine lv_aload_n hC.1 hC.2.1 dL_law_455 rfl (lv_at hl 1 rfl) ?_
  refine runEX (rSX (n := 3) (B := fun _ H => PW G (wlE G w y :: hdW G a b0 x) H) (As := [.ref (a 0), .int x1, .ref w]) (rest := []) hC cw_append wd_0 wd_751 wd_750 (by decide +kernel) (c_L_append l hT G a b0 x w y x1 hW.1 hW.2.2.1 hW.2.2.2.1) ⟨rfl, rfl⟩ ⟨Nat.le_of_ble_eq_true rfl, Nat.le_of_ble_eq_true rfl⟩ (stb_h (fun H => PW G (wlE G w y :: hdW G a b0 x) H)) hKN hW.P1 rfl hl.1 rfl (Nat.le_of_ble_eq_true rfl) dL_law_456 ⟨(show _ ≤ 601024 by omega), (show _ ≤ 7293034 by omega)⟩) hS hW.A1 hW.A1 (fun H1 locs1 hB hz hk hS => ?_)
  obtain ⟨b', hR1, hP1⟩ := hB
  have hW := hW.left hR1 hP1 hk
  have hKN := hK0.go hAL hS
  have hop := op_append hR x1
  obtain ⟨F, eF⟩ : ∃ F, F = (fX5_append x x1) := ⟨_, rfl⟩
  rw [← eF] at hop hW ⊢
  obtain ⟨r5, e5⟩ : ∃ z, z = codeL (fun k => if k = 0 then 1 else 2) F := ⟨_, rfl⟩
  show W p l e room_1 s m #[Value.ref b] below meth c H1 locs1 (cells + 1) (slots + 6) (lw_Z below #[Value.ref b] s) (F0 m 459 ls [.int (codeL (fun k => if k = 0 then 1 else 2) F)])
  rw [← e5]
  refine lv_istore (x := r5) (lv' := [(5, .int r5), (4, .int i4), (3, .ref w), (2, .ref (q 0)), (1, .ref (a 0)), (0, .ref b)]) hC.1 hC.2.1 dL_law_459 hl (by decide) rfl (fun ls hl => ?_)
  refine lv_aload_n hC.1 hC.2.1 dL_law_461 rfl (lv_at hl 3 rfl) ?_
  refine lv_aload_n hC.1 hC.2.1 dL_law_462 rfl (lv_at hl 5 rfl) ?_
  refine lv_iload hC.1 hC.2.1 dL_law_463 (lv_at hl 1 rfl) ?_
  refine lv_iconst (v := 1) hC.1 hC.2.1 dL_law_465 (by decide) ?_
  refine lv_iadd hC.1 hC.2.1 dL_law_466 ?_
  refine va_sld hC.1 hC.2.1 hX hbl hbA hS h1 dL_law_467 ?_
  rw [← ex1]
  refine runE (rV (B := fun U H => PW G (mdW G q v hs) H) (As := [.int x1]) (rest := []) hC mwX6_append (c_X6_append l G q v hs x1 hW.2.1 (by first | exact hpv.1 | exact hpv.1.1 | exact hpv.1.2 | exact hpv.2.1 | exact hpv.2.2 | exact hpv.2.2.2.1 | exact ⟨hpv.1.1, hpv.1.2, hpv.2.1⟩)) iwX6_append wd_1066 ⟨rfl, rfl⟩ ⟨Nat.le_of_ble_eq_true rfl, Nat.le_of_ble_eq_true rfl⟩ (stb_h (fun H => PW G (mdW G q v hs) H)) hKN hW.P2 (va_recv hKN.k hW.P2 (ci := 6) (q0 := 0) rfl rfl) rfl hl.1 rfl (Nat.le_of_ble_eq_true rfl) dL_law_468 ⟨(show _ ≤ 601024 by omega), (show _ ≤ 7293034 by omega)⟩) hS hW.A2 hW.A2 (fun H2 locs2 hB hz hk hS => ?_)
  have hW := hW.right hB hk
  have hKN := hK0.go hAL hS
  obtain ⟨u, eu⟩ : ∃ u, u = (fX6_append v x1) := ⟨_, rfl⟩
  rw [← eu] at hop hW ⊢
  obtain ⟨o1, o2, o3⟩ := hop
  refine lv_istore (x := u.2) (lv' := [(6, .int u.2), (5, .int r5), (4, .int i4), (3, .ref w), (2, .ref (q 0)), (1, .ref (a 0)), (0, .ref b)]) hC.1 hC.2.1 dL_law_471 hl (by decide) rfl (fun ls hl => ?_)
  refine lv_aload_n hC.1 hC.2.1 dL_law_473 rfl (lv_at hl 4 rfl) ?_
  refine runP (rV (B := fun U H => PW G (mdW G q u.1 hs) H) (As := []) (rest := []) hC mwX6_thrown (c_X6_thrown l G q u.1 hs) iwX6_thrown wd_942 ⟨rfl, rfl⟩ ⟨Nat.le_of_ble_eq_true rfl, Nat.le_of_ble_eq_true rfl⟩ (stb_h (fun H => PW G (mdW G q u.1 hs) H)) hKN hW.P2 (va_recv hKN.k hW.P2 (ci := 6) (q0 := 0) rfl rfl) rfl hl.1 rfl (Nat.le_of_ble_eq_true rfl) dL_law_474 ⟨(show _ ≤ 601024 by omega), (show _ ≤ 7293034 by omega)⟩) ?_
  refine lv_iload hC.1 hC.2.1 dL_law_477 (lv_at hl 1 rfl) ?_
  refine lv_icmp_eq (tgt := 484) hC.1 hC.2.1 dL_law_479 (by decide) (fun _ => ?_) (fun h => absurd (o2.trans e5.symm) h)
  refine lv_iload hC.1 hC.2.1 dL_law_484 (lv_at hl 1 rfl) ?_
  have fin : W p l e room_1 s m #[Value.ref b] below meth c H2 locs2 (cells + 1 + 0) (slots + 6 + 0) (lw_Z below #[Value.ref b] s) (F0 m 501 ls []) := by
    refine lv_goto (tgt := 1269) hC.1 hC.2.1 dL_law_501 (by decide) ?_
    exact kk a b' q w (wldL F) u.1 hs (ansL F y) _ _ _ _ ls o1 hW hS (by omega) (by omega) (lv_sub hl [2, 3, 4, 5, 6] rfl)
  refine lv_if_ne (tgt := 501) hC.1 hC.2.1 dL_law_486 (by decide) (fun _ => fin) (fun h5 => ?_)
  refine lv_aload_n hC.1 hC.2.1 dL_law_489 rfl (lv_at hl 3 rfl) ?_
  refine lv_iconst (v := 0) hC.1 hC.2.1 dL_law_490 (by decide) ?_
  refine va_lald hC.1 hC.2.1 hKN.k hW.P1 0 1 rfl rfl (show vp_in (nI 0) 1 from vp_in_nI (by decide) (by decide)) dL_law_491 ?_
  refine lv_iload hC.1 hC.2.1 dL_law_492 (lv_at hl 0 rfl) ?_
  refine lv_i2l (v := u.2.toInt64) hC.1 hC.2.1 dL_law_494 rfl ?_
  refine lv_lcmpE hC.1 hC.2.1 dL_law_495 (o3 (e5.symm.trans h5) y) ?_
  exact lv_if_eq (tgt := 501) hC.1 hC.2.1 dL_law_496 (by decide) (fun _ => fin) (fun h => absurd rfl h)
