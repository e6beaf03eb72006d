/-! ===== cases of the law ===== -/
theorem law_0 {K : KT} {g : G0} {b L o od t cells slots : Nat} {xs : Nat → Int32} {A : XA} {B : MdA} {x : XV} {m : MdV} {f : Nat → Int64} {fd : Nat → UInt64} (Lk : LK K g b L xs) (ht : 3 * t + 2 < L) (h : RX (30 * t) x m) (hr : cells + 100 ≤ 603072 ∧ slots + 10000 ≤ 7194730) (ke : LE K g b o od B t (cells + 100) (slots + 10000)) : V K cells slots (LW g A B x m o od f fd) (lvL A.1 B.1 b o od t) [] 304 := by
  obtain ⟨C, hBA, hE, hN, hst, -, -, -, hL, h9⟩ := id Lk
  have hR9 : kR K = room_1 := C.2.2.2.2.2.2.1
  have hlt : ∀ i, i < 9 → i < kn K := fun i h => by rw [h9]; exact h
  obtain ⟨R, r, m1, hx, hm, hok, hout⟩ := Ag.wI (ag_addRibbon h (by omega) (xs (3 * t + 1)) (xs (3 * t + 2))) (by decide +kernel) (by decide)
  refine V_aload_n C 4 305 dL_law_304 rfl rfl ?_
  refine V_arg Lk (t := t) (j := 1) 5 0 311 (by omega) dL_law_305 dL_law_306 dL_law_308 dL_law_309 dL_law_310 rfl rfl rfl rfl ?_
  refine V_arg Lk (t := t) (j := 2) 5 0 317 (by omega) dL_law_311 dL_law_312 dL_law_314 dL_law_315 dL_law_316 rfl rfl rfl rfl ?_
  refine V_aload_n C 2 318 dL_law_317 rfl rfl ?_
  refine V_callH C hBA hE hN lh_addRibbon (pre := mdW g B m) (w0 := oW g A o od f fd x) (post := []) (as := [.ref A.1, .int (xs (3 * t + 1)), .int (xs (3 * t + 2)), .ref o]) (rest := []) (w_addRibbon hst hx hok) dL_law_318 ⟨Nat.le_of_ble_eq_true rfl, Nat.le_of_ble_eq_true rfl⟩ rfl (by rw [List.append_nil]) rfl (Nat.le_of_ble_eq_true rfl) ⟨by show cells + 1 ≤ 603072; omega, by show slots + 6 ≤ 7194730; omega⟩ (fun rv w1 hP => ?_)
  obtain ⟨kv, f1, x1, rfl, rfl, hth, hval, hRX⟩ := hout _ _ _ _ _ _ _ hP
  refine V_eq (ws2 := LW g A B x1 m o od f1 fd) (by rw [List.append_nil]) ?_
  refine V_istore C 323 [(6, .int kv), (5, .int (nI (3 * t))), (4, .ref od), (3, .ref o), (2, .ref B.1), (1, .ref A.1), (0, .ref b)] dL_law_321 rfl (hlt 6 (by decide)) rfl ?_
  refine V_aload_n C 4 324 dL_law_323 rfl rfl ?_
  refine V_arg Lk (t := t) (j := 1) 6 1 330 (by omega) dL_law_324 dL_law_325 dL_law_327 dL_law_328 dL_law_329 rfl rfl rfl rfl ?_
  refine V_arg Lk (t := t) (j := 2) 6 1 336 (by omega) dL_law_330 dL_law_331 dL_law_333 dL_law_334 dL_law_335 rfl rfl rfl rfl ?_
  refine V_callS C hBA ml_L_174 (pre := []) (post := oW g A o od f1 fd x1) (w0 := mdW g B m) (w1 := mdW g B m1) (as := [.int (xs (3 * t + 1)), .int (xs (3 * t + 2))]) (rest := []) (c_X4_addRibbon (R := (r, m1)) hm) 0 339 (LW g A B x1 m1 o od f1 fd) dL_law_336 rfl ⟨Nat.le_of_ble_eq_true rfl, Nat.le_of_ble_eq_true rfl⟩ rfl rfl rfl rfl rfl rfl rfl (Nat.le_of_ble_eq_true rfl) ⟨by rw [hR9]; show cells + 1 ≤ 603072; omega, by rw [hR9]; show slots + 6 ≤ 7194730; omega⟩ ?_
  refine V_istore C 341 [(7, .int r), (6, .int kv), (5, .int (nI (3 * t))), (4, .ref od), (3, .ref o), (2, .ref B.1), (1, .ref A.1), (0, .ref b)] dL_law_339 rfl (hlt 7 (by decide)) rfl ?_
  refine V_aload_n C 5 342 dL_law_341 rfl rfl ?_
  refine V_callP C ml_L_175 (pre := []) (post := oW g A o od f1 fd x1) (w := mdW g B m1) (as := []) (rest := []) (c_X4_thrown (v := m1) (R := Md_thrown m1) rfl) 0 345 dL_law_342 rfl ⟨Nat.le_of_ble_eq_true rfl, Nat.le_of_ble_eq_true rfl⟩ rfl rfl rfl rfl rfl (Nat.le_of_ble_eq_true rfl) ⟨by rw [hR9]; show cells + 1 ≤ 603072; omega, by rw [hR9]; show slots + 6 ≤ 7194730; omega⟩ ?_
  refine V_iload C 1 347 dL_law_345 rfl rfl ?_
  refine V_icmp_eq C 352 350 dL_law_347 rfl rfl (fun _ => ?_) (fun e => absurd hth e)
  refine V_iload C 1 354 dL_law_352 rfl rfl ?_
  have END : V K (cells + 1) (slots + 6) (LW g A B x1 m1 o od f1 fd) [(7, .int r), (6, .int kv), (5, .int (nI (3 * t))), (4, .ref od), (3, .ref o), (2, .ref B.1), (1, .ref A.1), (0, .ref b)] [] 369 := by
    refine V_goto C 3101 dL_law_369 rfl ?_
    refine V_lv [2, 3, 4, 5, 6, 7] rfl ?_
    exact V_widen (by omega) (by omega) (ke A x1 m1 f1 fd (hRX.mono (by omega)))
  refine V_if_ne C 369 357 dL_law_354 rfl rfl (fun _ => END) (fun e => ?_)
  refine V_aload_n C 4 358 dL_law_357 rfl rfl ?_
  refine V_iconst C (0 : Int32) 359 dL_law_358 rfl rfl ?_
  refine V_lald C (f := f1) (n := 1) 5 360 dL_law_359 rfl rfl (by decide) ?_
  refine V_iload C 0 362 dL_law_360 rfl rfl ?_
  refine V_i2l C 363 dL_law_362 rfl ?_
  refine V_st (st2 := [.long r.toInt64, .long r.toInt64]) (by rw [show f1 (cl (0 : Int32)) = r.toInt64 from hval e] <;> rfl) ?_
  refine V_lcmpE C 364 dL_law_363 rfl ?_
  exact V_if_eq C 369 367 dL_law_364 rfl rfl (fun _ => END) (fun e => absurd rfl e)
theorem law_1 {K : KT} {g : G0} {b L o od t cells slots : Nat} {xs : Nat → Int32} {A : XA} {B : MdA} {x : XV} {m : MdV} {f : Nat → Int64} {fd : Nat → UInt64} (Lk : LK K g b L xs) (ht : 3 * t + 2 < L) (h : RX (30 * t) x m) (hr : cells + 100 ≤ 603072 ∧ slots + 10000 ≤ 7194730) (ke : LE K g b o od B t (cells + 100) (slots + 10000)) : V K cells slots (LW g A B x m o od f fd) (lvL A.1 B.1 b o od t) [] 372 := by
  obtain ⟨C, hBA, hE, hN, hst, -, -, -, hL, h9⟩ := id Lk
  have hR9 : kR K = room_1 := C.2.2.2.2.2.2.1
  have hlt : ∀ i, i < 9 → i < kn K := fun i h => by rw [h9]; exact h
  obtain ⟨R, r, m1, hx, hm, hok, hout⟩ := Ag.wI (ag_addDogEar h (by omega) (xs (3 * t + 1)) (xs (3 * t + 2))) (by decide +kernel) (by decide)
  refine V_aload_n C 4 373 dL_law_372 rfl rfl ?_
  refine V_arg Lk (t := t) (j := 1) 5 0 379 (by omega) dL_law_373 dL_law_374 dL_law_376 dL_law_377 dL_law_378 rfl rfl rfl rfl ?_
  refine V_arg Lk (t := t) (j := 2) 5 0 385 (by omega) dL_law_379 dL_law_380 dL_law_382 dL_law_383 dL_law_384 rfl rfl rfl rfl ?_
  refine V_aload_n C 2 386 dL_law_385 rfl rfl ?_
  refine V_callH C hBA hE hN lh_addDogEar (pre := mdW g B m) (w0 := oW g A o od f fd x) (post := []) (as := [.ref A.1, .int (xs (3 * t + 1)), .int (xs (3 * t + 2)), .ref o]) (rest := []) (w_addDogEar hst hx hok) dL_law_386 ⟨Nat.le_of_ble_eq_true rfl, Nat.le_of_ble_eq_true rfl⟩ rfl (by rw [List.append_nil]) rfl (Nat.le_of_ble_eq_true rfl) ⟨by show cells + 1 ≤ 603072; omega, by show slots + 6 ≤ 7194730; omega⟩ (fun rv w1 hP => ?_)
  obtain ⟨kv, f1, x1, rfl, rfl, hth, hval, hRX⟩ := hout _ _ _ _ _ _ _ hP
  refine V_eq (ws2 := LW g A B x1 m o od f1 fd) (by rw [List.append_nil]) ?_
  refine V_istore C 391 [(6, .int kv), (5, .int (nI (3 * t))), (4, .ref od), (3, .ref o), (2, .ref B.1), (1, .ref A.1), (0, .ref b)] dL_law_389 rfl (hlt 6 (by decide)) rfl ?_
  refine V_aload_n C 4 392 dL_law_391 rfl rfl ?_
  refine V_arg Lk (t := t) (j := 1) 6 1 398 (by omega) dL_law_392 dL_law_393 dL_law_395 dL_law_396 dL_law_397 rfl rfl rfl rfl ?_
  refine V_arg Lk (t := t) (j := 2) 6 1 404 (by omega) dL_law_398 dL_law_399 dL_law_401 dL_law_402 dL_law_403 rfl rfl rfl rfl ?_
  refine V_callS C hBA ml_L_180 (pre := []) (post := oW g A o od f1 fd x1) (w0 := mdW g B m) (w1 := mdW g B m1) (as := [.int (xs (3 * t + 1)), .int (xs (3 * t + 2))]) (rest := []) (c_X4_addDogEar (R := (r, m1)) hm) 0 407 (LW g A B x1 m1 o od f1 fd) dL_law_404 rfl ⟨Nat.le_of_ble_eq_true rfl, Nat.le_of_ble_eq_true rfl⟩ rfl rfl rfl rfl rfl rfl rfl (Nat.le_of_ble_eq_true rfl) ⟨by rw [hR9]; show cells + 1 ≤ 603072; omega, by rw [hR9]; show slots + 6 ≤ 7194730; omega⟩ ?_
  refine V_istore C 409 [(7, .int r), (6, .int kv), (5, .int (nI (3 * t))), (4, .ref od), (3, .ref o), (2, .ref B.1), (1, .ref A.1), (0, .ref b)] dL_law_407 rfl (hlt 7 (by decide)) rfl ?_
  refine V_aload_n C 5 410 dL_law_409 rfl rfl ?_
  refine V_callP C ml_L_175 (pre := []) (post := oW g A o od f1 fd x1) (w := mdW g B m1) (as := []) (rest := []) (c_X4_thrown (v := m1) (R := Md_thrown m1) rfl) 0 413 dL_law_410 rfl ⟨Nat.le_of_ble_eq_true rfl, Nat.le_of_ble_eq_true rfl⟩ rfl rfl rfl rfl rfl (Nat.le_of_ble_eq_true rfl) ⟨by rw [hR9]; show cells + 1 ≤ 603072; omega, by rw [hR9]; show slots + 6 ≤ 7194730; omega⟩ ?_
  refine V_iload C 1 415 dL_law_413 rfl rfl ?_
  refine V_icmp_eq C 420 418 dL_law_415 rfl rfl (fun _ => ?_) (fun e => absurd hth e)
  refine V_iload C 1 422 dL_law_420 rfl rfl ?_
  have END : V K (cells + 1) (slots + 6) (LW g A B x1 m1 o od f1 fd) [(7, .int r), (6, .int kv), (5, .int (nI (3 * t))), (4, .ref od), (3, .ref o), (2, .ref B.1), (1, .ref A.1), (0, .ref b)] [] 437 := by
    refine V_goto C 3101 dL_law_437 rfl ?_
    refine V_lv [2, 3, 4, 5, 6, 7] rfl ?_
    exact V_widen (by omega) (by omega) (ke A x1 m1 f1 fd (hRX.mono (by omega)))
  refine V_if_ne C 437 425 dL_law_422 rfl rfl (fun _ => END) (fun e => ?_)
  refine V_aload_n C 4 426 dL_law_425 rfl rfl ?_
  refine V_iconst C (0 : Int32) 427 dL_law_426 rfl rfl ?_
  refine V_lald C (f := f1) (n := 1) 5 428 dL_law_427 rfl rfl (by decide) ?_
  refine V_iload C 0 430 dL_law_428 rfl rfl ?_
  refine V_i2l C 431 dL_law_430 rfl ?_
  refine V_st (st2 := [.long r.toInt64, .long r.toInt64]) (by rw [show f1 (cl (0 : Int32)) = r.toInt64 from hval e] <;> rfl) ?_
  refine V_lcmpE C 432 dL_law_431 rfl ?_
  exact V_if_eq C 437 435 dL_law_432 rfl rfl (fun _ => END) (fun e => absurd rfl e)
theorem law_2 {K : KT} {g : G0} {b L o od t cells slots : Nat} {xs : Nat → Int32} {A : XA} {B : MdA} {x : XV} {m : MdV} {f : Nat → Int64} {fd : Nat → UInt64} (Lk : LK K g b L xs) (ht : 3 * t + 2 < L) (h : RX (30 * t) x m) (hr : cells + 100 ≤ 603072 ∧ slots + 10000 ≤ 7194730) (ke : LE K g b o od B t (cells + 100) (slots + 10000)) : V K cells slots (LW g A B x m o od f fd) (lvL A.1 B.1 b o od t) [] 440 := by
  obtain ⟨C, hBA, hE, hN, hst, -, -, -, hL, h9⟩ := id Lk
  have hR9 : kR K = room_1 := C.2.2.2.2.2.2.1
  have hlt : ∀ i, i < 9 → i < kn K := fun i h => by rw [h9]; exact h
  obtain ⟨R, r, m1, hx, hm, hok, hout⟩ := Ag.wI (ag_removeMark h (xs (3 * t + 1))) (by decide +kernel) (by decide)
  refine V_aload_n C 4 441 dL_law_440 rfl rfl ?_
  refine V_arg Lk (t := t) (j := 1) 5 0 447 (by omega) dL_law_441 dL_law_442 dL_law_444 dL_law_445 dL_law_446 rfl rfl rfl rfl ?_
  refine V_aload_n C 2 448 dL_law_447 rfl rfl ?_
  refine V_callH C hBA hE hN lh_removeMark (pre := mdW g B m) (w0 := oW g A o od f fd x) (post := []) (as := [.ref A.1, .int (xs (3 * t + 1)), .ref o]) (rest := []) (w_removeMark hst hx hok) dL_law_448 ⟨Nat.le_of_ble_eq_true rfl, Nat.le_of_ble_eq_true rfl⟩ rfl (by rw [List.append_nil]) rfl (Nat.le_of_ble_eq_true rfl) ⟨by show cells + 1 ≤ 603072; omega, by show slots + 6 ≤ 7194730; omega⟩ (fun rv w1 hP => ?_)
  obtain ⟨kv, f1, x1, rfl, rfl, hth, hval, hRX⟩ := hout _ _ _ _ _ _ _ hP
  refine V_eq (ws2 := LW g A B x1 m o od f1 fd) (by rw [List.append_nil]) ?_
  refine V_istore C 453 [(6, .int kv), (5, .int (nI (3 * t))), (4, .ref od), (3, .ref o), (2, .ref B.1), (1, .ref A.1), (0, .ref b)] dL_law_451 rfl (hlt 6 (by decide)) rfl ?_
  refine V_aload_n C 4 454 dL_law_453 rfl rfl ?_
  refine V_arg Lk (t := t) (j := 1) 6 1 460 (by omega) dL_law_454 dL_law_455 dL_law_457 dL_law_458 dL_law_459 rfl rfl rfl rfl ?_
  refine V_callS C hBA ml_L_184 (pre := []) (post := oW g A o od f1 fd x1) (w0 := mdW g B m) (w1 := mdW g B m1) (as := [.int (xs (3 * t + 1))]) (rest := []) (c_X4_removeMark (R := (r, m1)) hm) 0 463 (LW g A B x1 m1 o od f1 fd) dL_law_460 rfl ⟨Nat.le_of_ble_eq_true rfl, Nat.le_of_ble_eq_true rfl⟩ rfl rfl rfl rfl rfl rfl rfl (Nat.le_of_ble_eq_true rfl) ⟨by rw [hR9]; show cells + 1 ≤ 603072; omega, by rw [hR9]; show slots + 6 ≤ 7194730; omega⟩ ?_
  refine V_istore C 465 [(7, .int r), (6, .int kv), (5, .int (nI (3 * t))), (4, .ref od), (3, .ref o), (2, .ref B.1), (1, .ref A.1), (0, .ref b)] dL_law_463 rfl (hlt 7 (by decide)) rfl ?_
  refine V_aload_n C 5 466 dL_law_465 rfl rfl ?_
  refine V_callP C ml_L_175 (pre := []) (post := oW g A o od f1 fd x1) (w := mdW g B m1) (as := []) (rest := []) (c_X4_thrown (v := m1) (R := Md_thrown m1) rfl) 0 469 dL_law_466 rfl ⟨Nat.le_of_ble_eq_true rfl, Nat.le_of_ble_eq_true rfl⟩ rfl rfl rfl rfl rfl (Nat.le_of_ble_eq_true rfl) ⟨by rw [hR9]; show cells + 1 ≤ 603072; omega, by rw [hR9]; show slots + 6 ≤ 7194730; omega⟩ ?_
  refine V_iload C 1 471 dL_law_469 rfl rfl ?_
  refine V_icmp_eq C 476 474 dL_law_471 rfl rfl (fun _ => ?_) (fun e => absurd hth e)
  refine V_iload C 1 478 dL_law_476 rfl rfl ?_
  have END : V K (cells + 1) (slots + 6) (LW g A B x1 m1 o od f1 fd) [(7, .int r), (6, .int kv), (5, .int (nI (3 * t))), (4, .ref od), (3, .ref o), (2, .ref B.1), (1, .ref A.1), (0, .ref b)] [] 493 := by
    refine V_goto C 3101 dL_law_493 rfl ?_
    refine V_lv [2, 3, 4, 5, 6, 7] rfl ?_
    exact V_widen (by omega) (by omega) (ke A x1 m1 f1 fd (hRX.mono (by omega)))
  refine V_if_ne C 493 481 dL_law_478 rfl rfl (fun _ => END) (fun e => ?_)
  refine V_aload_n C 4 482 dL_law_481 rfl rfl ?_
  refine V_iconst C (0 : Int32) 483 dL_law_482 rfl rfl ?_
  refine V_lald C (f := f1) (n := 1) 5 484 dL_law_483 rfl rfl (by decide) ?_
  refine V_iload C 0 486 dL_law_484 rfl rfl ?_
  refine V_i2l C 487 dL_law_486 rfl ?_
  refine V_st (st2 := [.long r.toInt64, .long r.toInt64]) (by rw [show f1 (cl (0 : Int32)) = r.toInt64 from hval e] <;> rfl) ?_
  refine V_lcmpE C 488 dL_law_487 rfl ?_
  exact V_if_eq C 493 491 dL_law_488 rfl rfl (fun _ => END) (fun e => absurd rfl e)
theorem law_3 {K : KT} {g : G0} {b L o od t cells slots : Nat} {xs : Nat → Int32} {A : XA} {B : MdA} {x : XV} {m : MdV} {f : Nat → Int64} {fd : Nat → UInt64} (Lk : LK K g b L xs) (ht : 3 * t + 2 < L) (h : RX (30 * t) x m) (hr : cells + 100 ≤ 603072 ∧ slots + 10000 ≤ 7194730) (ke : LE K g b o od B t (cells + 100) (slots + 10000)) : V K cells slots (LW g A B x m o od f fd) (lvL A.1 B.1 b o od t) [] 496 := by
  obtain ⟨C, hBA, hE, hN, hst, -, -, -, hL, h9⟩ := id Lk
  have hR9 : kR K = room_1 := C.2.2.2.2.2.2.1
  have hlt : ∀ i, i < 9 → i < kn K := fun i h => by rw [h9]; exact h
  obtain ⟨R, r, m1, hx, hm, hok, hout⟩ := Ag.wI (ag_moveRibbon h (xs (3 * t + 1)) (xs (3 * t + 2))) (by decide +kernel) (by decide)
  refine V_aload_n C 4 497 dL_law_496 rfl rfl ?_
  refine V_arg Lk (t := t) (j := 1) 5 0 503 (by omega) dL_law_497 dL_law_498 dL_law_500 dL_law_501 dL_law_502 rfl rfl rfl rfl ?_
  refine V_arg Lk (t := t) (j := 2) 5 0 509 (by omega) dL_law_503 dL_law_504 dL_law_506 dL_law_507 dL_law_508 rfl rfl rfl rfl ?_
  refine V_aload_n C 2 510 dL_law_509 rfl rfl ?_
  refine V_callH C hBA hE hN lh_moveRibbon (pre := mdW g B m) (w0 := oW g A o od f fd x) (post := []) (as := [.ref A.1, .int (xs (3 * t + 1)), .int (xs (3 * t + 2)), .ref o]) (rest := []) (w_moveRibbon hst hx hok) dL_law_510 ⟨Nat.le_of_ble_eq_true rfl, Nat.le_of_ble_eq_true rfl⟩ rfl (by rw [List.append_nil]) rfl (Nat.le_of_ble_eq_true rfl) ⟨by show cells + 1 ≤ 603072; omega, by show slots + 6 ≤ 7194730; omega⟩ (fun rv w1 hP => ?_)
  obtain ⟨kv, f1, x1, rfl, rfl, hth, hval, hRX⟩ := hout _ _ _ _ _ _ _ hP
  refine V_eq (ws2 := LW g A B x1 m o od f1 fd) (by rw [List.append_nil]) ?_
  refine V_istore C 515 [(6, .int kv), (5, .int (nI (3 * t))), (4, .ref od), (3, .ref o), (2, .ref B.1), (1, .ref A.1), (0, .ref b)] dL_law_513 rfl (hlt 6 (by decide)) rfl ?_
  refine V_aload_n C 4 516 dL_law_515 rfl rfl ?_
  refine V_arg Lk (t := t) (j := 1) 6 1 522 (by omega) dL_law_516 dL_law_517 dL_law_519 dL_law_520 dL_law_521 rfl rfl rfl rfl ?_
  refine V_arg Lk (t := t) (j := 2) 6 1 528 (by omega) dL_law_522 dL_law_523 dL_law_525 dL_law_526 dL_law_527 rfl rfl rfl rfl ?_
  refine V_callS C hBA ml_L_187 (pre := []) (post := oW g A o od f1 fd x1) (w0 := mdW g B m) (w1 := mdW g B m1) (as := [.int (xs (3 * t + 1)), .int (xs (3 * t + 2))]) (rest := []) (c_X4_moveRibbon (R := (r, m1)) hm) 0 531 (LW g A B x1 m1 o od f1 fd) dL_law_528 rfl ⟨Nat.le_of_ble_eq_true rfl, Nat.le_of_ble_eq_true rfl⟩ rfl rfl rfl rfl rfl rfl rfl (Nat.le_of_ble_eq_true rfl) ⟨by rw [hR9]; show cells + 1 ≤ 603072; omega, by rw [hR9]; show slots + 6 ≤ 7194730; omega⟩ ?_
  refine V_istore C 533 [(7, .int r), (6, .int kv), (5, .int (nI (3 * t))), (4, .ref od), (3, .ref o), (2, .ref B.1), (1, .ref A.1), (0, .ref b)] dL_law_531 rfl (hlt 7 (by decide)) rfl ?_
  refine V_aload_n C 5 534 dL_law_533 rfl rfl ?_
  refine V_callP C ml_L_175 (pre := []) (post := oW g A o od f1 fd x1) (w := mdW g B m1) (as := []) (rest := []) (c_X4_thrown (v := m1) (R := Md_thrown m1) rfl) 0 537 dL_law_534 rfl ⟨Nat.le_of_ble_eq_true rfl, Nat.le_of_ble_eq_true rfl⟩ rfl rfl rfl rfl rfl (Nat.le_of_ble_eq_true rfl) ⟨by rw [hR9]; show cells + 1 ≤ 603072; omega, by rw [hR9]; show slots + 6 ≤ 7194730; omega⟩ ?_
  refine V_iload C 1 539 dL_law_537 rfl rfl ?_
  refine V_icmp_eq C 544 542 dL_law_539 rfl rfl (fun _ => ?_) (fun e => absurd hth e)
  refine V_iload C 1 546 dL_law_544 rfl rfl ?_
  have END : V K (cells + 1) (slots + 6) (LW g A B x1 m1 o od f1 fd) [(7, .int r), (6, .int kv), (5, .int (nI (3 * t))), (4, .ref od), (3, .ref o), (2, .ref B.1), (1, .ref A.1), (0, .ref b)] [] 561 := by
    refine V_goto C 3101 dL_law_561 rfl ?_
    refine V_lv [2, 3, 4, 5, 6, 7] rfl ?_
    exact V_widen (by omega) (by omega) (ke A x1 m1 f1 fd (hRX.mono (by omega)))
  refine V_if_ne C 561 549 dL_law_546 rfl rfl (fun _ => END) (fun e => ?_)
  refine V_aload_n C 4 550 dL_law_549 rfl rfl ?_
  refine V_iconst C (0 : Int32) 551 dL_law_550 rfl rfl ?_
  refine V_lald C (f := f1) (n := 1) 5 552 dL_law_551 rfl rfl (by decide) ?_
  refine V_iload C 0 554 dL_law_552 rfl rfl ?_
  refine V_i2l C 555 dL_law_554 rfl ?_
  refine V_st (st2 := [.long r.toInt64, .long r.toInt64]) (by rw [show f1 (cl (0 : Int32)) = r.toInt64 from hval e] <;> rfl) ?_
  refine V_lcmpE C 556 dL_law_555 rfl ?_
  exact V_if_eq C 561 559 dL_law_556 rfl rfl (fun _ => END) (fun e => absurd rfl e)
theorem law_4 {K : KT} {g : G0} {b L o od t cells slots : Nat} {xs : Nat → Int32} {A : XA} {B : MdA} {x : XV} {m : MdV} {f : Nat → Int64} {fd : Nat → UInt64} (Lk : LK K g b L xs) (ht : 3 * t + 2 < L) (h : RX (30 * t) x m) (hr : cells + 100 ≤ 603072 ∧ slots + 10000 ≤ 7194730) (ke : LE K g b o od B t (cells + 100) (slots + 10000)) : V K cells slots (LW g A B x m o od f fd) (lvL A.1 B.1 b o od t) [] 564 := by
  obtain ⟨C, hBA, hE, hN, hst, -, -, -, hL, h9⟩ := id Lk
  have hR9 : kR K = room_1 := C.2.2.2.2.2.2.1
  have hlt : ∀ i, i < 9 → i < kn K := fun i h => by rw [h9]; exact h
  obtain ⟨R, r, m1, hx, hm, hok, hout⟩ := Ag.wI (ag_swapSeats h (xs (3 * t + 1)) (xs (3 * t + 2))) (by decide +kernel) (by decide)
  refine V_aload_n C 4 565 dL_law_564 rfl rfl ?_
  refine V_arg Lk (t := t) (j := 1) 5 0 571 (by omega) dL_law_565 dL_law_566 dL_law_568 dL_law_569 dL_law_570 rfl rfl rfl rfl ?_
  refine V_arg Lk (t := t) (j := 2) 5 0 577 (by omega) dL_law_571 dL_law_572 dL_law_574 dL_law_575 dL_law_576 rfl rfl rfl rfl ?_
  refine V_aload_n C 2 578 dL_law_577 rfl rfl ?_
  refine V_callH C hBA hE hN lh_swapSeats (pre := mdW g B m) (w0 := oW g A o od f fd x) (post := []) (as := [.ref A.1, .int (xs (3 * t + 1)), .int (xs (3 * t + 2)), .ref o]) (rest := []) (w_swapSeats hst hx hok) dL_law_578 ⟨Nat.le_of_ble_eq_true rfl, Nat.le_of_ble_eq_true rfl⟩ rfl (by rw [List.append_nil]) rfl (Nat.le_of_ble_eq_true rfl) ⟨by show cells + 1 ≤ 603072; omega, by show slots + 6 ≤ 7194730; omega⟩ (fun rv w1 hP => ?_)
  obtain ⟨kv, f1, x1, rfl, rfl, hth, hval, hRX⟩ := hout _ _ _ _ _ _ _ hP
  refine V_eq (ws2 := LW g A B x1 m o od f1 fd) (by rw [List.append_nil]) ?_
  refine V_istore C 583 [(6, .int kv), (5, .int (nI (3 * t))), (4, .ref od), (3, .ref o), (2, .ref B.1), (1, .ref A.1), (0, .ref b)] dL_law_581 rfl (hlt 6 (by decide)) rfl ?_
  refine V_aload_n C 4 584 dL_law_583 rfl rfl ?_
  refine V_arg Lk (t := t) (j := 1) 6 1 590 (by omega) dL_law_584 dL_law_585 dL_law_587 dL_law_588 dL_law_589 rfl rfl rfl rfl ?_
  refine V_arg Lk (t := t) (j := 2) 6 1 596 (by omega) dL_law_590 dL_law_591 dL_law_593 dL_law_594 dL_law_595 rfl rfl rfl rfl ?_
  refine V_callS C hBA ml_L_190 (pre := []) (post := oW g A o od f1 fd x1) (w0 := mdW g B m) (w1 := mdW g B m1) (as := [.int (xs (3 * t + 1)), .int (xs (3 * t + 2))]) (rest := []) (c_X4_swapSeats (R := (r, m1)) hm) 0 599 (LW g A B x1 m1 o od f1 fd) dL_law_596 rfl ⟨Nat.le_of_ble_eq_true rfl, Nat.le_of_ble_eq_true rfl⟩ rfl rfl rfl rfl rfl rfl rfl (Nat.le_of_ble_eq_true rfl) ⟨by rw [hR9]; show cells + 1 ≤ 603072; omega, by rw [hR9]; show slots + 6 ≤ 7194730; omega⟩ ?_
  refine V_istore C 601 [(7, .int r), (6, .int kv), (5, .int (nI (3 * t))), (4, .ref od), (3, .ref o), (2, .ref B.1), (1, .ref A.1), (0, .ref b)] dL_law_599 rfl (hlt 7 (by decide)) rfl ?_
  refine V_aload_n C 5 602 dL_law_601 rfl rfl ?_
  refine V_callP C ml_L_175 (pre := []) (post := oW g A o od f1 fd x1) (w := mdW g B m1) (as := []) (rest := []) (c_X4_thrown (v := m1) (R := Md_thrown m1) rfl) 0 605 dL_law_602 rfl ⟨Nat.le_of_ble_eq_true rfl, Nat.le_of_ble_eq_true rfl⟩ rfl rfl rfl rfl rfl (Nat.le_of_ble_eq_true rfl) ⟨by rw [hR9]; show cells + 1 ≤ 603072; omega, by rw [hR9]; show slots + 6 ≤ 7194730; omega⟩ ?_
  refine V_iload C 1 607 dL_law_605 rfl rfl ?_
  refine V_icmp_eq C 612 610 dL_law_607 rfl rfl (fun _ => ?_) (fun e => absurd hth e)
  refine V_iload C 1 614 dL_law_612 rfl rfl ?_
  have END : V K (cells + 1) (slots + 6) (LW g A B x1 m1 o od f1 fd) [(7, .int r), (6, .int kv), (5, .int (nI (3 * t))), (4, .ref od), (3, .ref o), (2, .ref B.1), (1, .ref A.1), (0, .ref b)] [] 629 := by
    refine V_goto C 3101 dL_law_629 rfl ?_
    refine V_lv [2, 3, 4, 5, 6, 7] rfl ?_
    exact V_widen (by omega) (by omega) (ke A x1 m1 f1 fd (hRX.mono (by omega)))
  refine V_if_ne C 629 617 dL_law_614 rfl rfl (fun _ => END) (fun e => ?_)
  refine V_aload_n C 4 618 dL_law_617 rfl rfl ?_
  refine V_iconst C (0 : Int32) 619 dL_law_618 rfl rfl ?_
  refine V_lald C (f := f1) (n := 1) 5 620 dL_law_619 rfl rfl (by decide) ?_
  refine V_iload C 0 622 dL_law_620 rfl rfl ?_
  refine V_i2l C 623 dL_law_622 rfl ?_
  refine V_st (st2 := [.long r.toInt64, .long r.toInt64]) (by rw [show f1 (cl (0 : Int32)) = r.toInt64 from hval e] <;> rfl) ?_
  refine V_lcmpE C 624 dL_law_623 rfl ?_
  exact V_if_eq C 629 627 dL_law_624 rfl rfl (fun _ => END) (fun e => absurd rfl e)
theorem law_5 {K : KT} {g : G0} {b L o od t cells slots : Nat} {xs : Nat → Int32} {A : XA} {B : MdA} {x : XV} {m : MdV} {f : Nat → Int64} {fd : Nat → UInt64} (Lk : LK K g b L xs) (ht : 3 * t + 2 < L) (h : RX (30 * t) x m) (hr : cells + 100 ≤ 603072 ∧ slots + 10000 ≤ 7194730) (ke : LE K g b o od B t (cells + 100) (slots + 10000)) : V K cells slots (LW g A B x m o od f fd) (lvL A.1 B.1 b o od t) [] 632 := by
  obtain ⟨C, hBA, hE, hN, hst, -, -, -, hL, h9⟩ := id Lk
  have hR9 : kR K = room_1 := C.2.2.2.2.2.2.1
  have hlt : ∀ i, i < 9 → i < kn K := fun i h => by rw [h9]; exact h
  obtain ⟨R, r, m1, hx, hm, hok, hout⟩ := Ag.wB (ag_isRibbon h (xs (3 * t + 1))) (by decide +kernel) (by decide)
  refine V_aload_n C 4 633 dL_law_632 rfl rfl ?_
  refine V_arg Lk (t := t) (j := 1) 5 0 639 (by omega) dL_law_633 dL_law_634 dL_law_636 dL_law_637 dL_law_638 rfl rfl rfl rfl ?_
  refine V_aload_n C 2 640 dL_law_639 rfl rfl ?_
  refine V_callH C hBA hE hN lh_isRibbon (pre := mdW g B m) (w0 := oW g A o od f fd x) (post := []) (as := [.ref A.1, .int (xs (3 * t + 1)), .ref o]) (rest := []) (w_isRibbon hst hx hok) dL_law_640 ⟨Nat.le_of_ble_eq_true rfl, Nat.le_of_ble_eq_true rfl⟩ rfl (by rw [List.append_nil]) rfl (Nat.le_of_ble_eq_true rfl) ⟨by show cells + 1 ≤ 603072; omega, by show slots + 6 ≤ 7194730; omega⟩ (fun rv w1 hP => ?_)
  obtain ⟨kv, f1, x1, rfl, rfl, hth, hval, hRX⟩ := hout _ _ _ _ _ _ _ hP
  refine V_eq (ws2 := LW g A B x1 m o od f1 fd) (by rw [List.append_nil]) ?_
  refine V_istore C 645 [(6, .int kv), (5, .int (nI (3 * t))), (4, .ref od), (3, .ref o), (2, .ref B.1), (1, .ref A.1), (0, .ref b)] dL_law_643 rfl (hlt 6 (by decide)) rfl ?_
  refine V_aload_n C 4 646 dL_law_645 rfl rfl ?_
  refine V_arg Lk (t := t) (j := 1) 6 1 652 (by omega) dL_law_646 dL_law_647 dL_law_649 dL_law_650 dL_law_651 rfl rfl rfl rfl ?_
  refine V_callS C hBA ml_L_193 (pre := []) (post := oW g A o od f1 fd x1) (w0 := mdW g B m) (w1 := mdW g B m1) (as := [.int (xs (3 * t + 1))]) (rest := []) (c_X4_isRibbon (R := (r, m1)) hm) 0 655 (LW g A B x1 m1 o od f1 fd) dL_law_652 rfl ⟨Nat.le_of_ble_eq_true rfl, Nat.le_of_ble_eq_true rfl⟩ rfl rfl rfl rfl rfl rfl rfl (Nat.le_of_ble_eq_true rfl) ⟨by rw [hR9]; show cells + 1 ≤ 603072; omega, by rw [hR9]; show slots + 6 ≤ 7194730; omega⟩ ?_
  refine V_istore C 657 [(7, .int r), (6, .int kv), (5, .int (nI (3 * t))), (4, .ref od), (3, .ref o), (2, .ref B.1), (1, .ref A.1), (0, .ref b)] dL_law_655 rfl (hlt 7 (by decide)) rfl ?_
  refine V_aload_n C 5 658 dL_law_657 rfl rfl ?_
  refine V_callP C ml_L_175 (pre := []) (post := oW g A o od f1 fd x1) (w := mdW g B m1) (as := []) (rest := []) (c_X4_thrown (v := m1) (R := Md_thrown m1) rfl) 0 661 dL_law_658 rfl ⟨Nat.le_of_ble_eq_true rfl, Nat.le_of_ble_eq_true rfl⟩ rfl rfl rfl rfl rfl (Nat.le_of_ble_eq_true rfl) ⟨by rw [hR9]; show cells + 1 ≤ 603072; omega, by rw [hR9]; show slots + 6 ≤ 7194730; omega⟩ ?_
  refine V_iload C 1 663 dL_law_661 rfl rfl ?_
  refine V_icmp_eq C 668 666 dL_law_663 rfl rfl (fun _ => ?_) (fun e => absurd hth e)
  refine V_iload C 1 670 dL_law_668 rfl rfl ?_
  have END : V K (cells + 1) (slots + 6) (LW g A B x1 m1 o od f1 fd) [(7, .int r), (6, .int kv), (5, .int (nI (3 * t))), (4, .ref od), (3, .ref o), (2, .ref B.1), (1, .ref A.1), (0, .ref b)] [] 692 := by
    refine V_goto C 3101 dL_law_692 rfl ?_
    refine V_lv [2, 3, 4, 5, 6, 7] rfl ?_
    exact V_widen (by omega) (by omega) (ke A x1 m1 f1 fd (hRX.mono (by omega)))
  refine V_if_ne C 692 673 dL_law_670 rfl rfl (fun _ => END) (fun e => ?_)
  refine V_aload_n C 4 674 dL_law_673 rfl rfl ?_
  refine V_iconst C (0 : Int32) 675 dL_law_674 rfl rfl ?_
  refine V_lald C (f := f1) (n := 1) 5 676 dL_law_675 rfl rfl (by decide) ?_
  refine V_iload C 0 678 dL_law_676 rfl rfl ?_
  refine V_if_eq C 685 681 dL_law_678 rfl rfl (fun e2 => ?_) (fun e2 => ?_)
  · refine V_lconst C (0 : Int64) 686 dL_law_685 rfl rfl ?_
    refine V_st (st2 := [.long (0 : Int64), .long (0 : Int64)]) (by rw [show f1 (cl (0 : Int32)) = (0 : Int64) from (hval e).trans (if_pos e2)] <;> rfl) ?_
    refine V_lcmpE C 687 dL_law_686 rfl ?_
    exact V_if_eq C 692 690 dL_law_687 rfl rfl (fun _ => END) (fun e => absurd rfl e)
  · refine V_lconst C (1 : Int64) 682 dL_law_681 rfl rfl ?_
    refine V_goto C 686 dL_law_682 rfl ?_
    refine V_st (st2 := [.long (1 : Int64), .long (1 : Int64)]) (by rw [show f1 (cl (0 : Int32)) = (1 : Int64) from (hval e).trans (if_neg e2)] <;> rfl) ?_
    refine V_lcmpE C 687 dL_law_686 rfl ?_
    exact V_if_eq C 692 690 dL_law_687 rfl rfl (fun _ => END) (fun e => absurd rfl e)
theorem law_6 {K : KT} {g : G0} {b L o od t cells slots : Nat} {xs : Nat → Int32} {A : XA} {B : MdA} {x : XV} {m : MdV} {f : Nat → Int64} {fd : Nat → UInt64} (Lk : LK K g b L xs) (ht : 3 * t + 2 < L) (h : RX (30 * t) x m) (hr : cells + 100 ≤ 603072 ∧ slots + 10000 ≤ 7194730) (ke : LE K g b o od B t (cells + 100) (slots + 10000)) : V K cells slots (LW g A B x m o od f fd) (lvL A.1 B.1 b o od t) [] 695 := by
  obtain ⟨C, hBA, hE, hN, hst, -, -, -, hL, h9⟩ := id Lk
  have hR9 : kR K = room_1 := C.2.2.2.2.2.2.1
  have hlt : ∀ i, i < 9 → i < kn K := fun i h => by rw [h9]; exact h
  obtain ⟨R, r, m1, hx, hm, hok, hout⟩ := Ag.wI (ag_pageOf h (xs (3 * t + 1))) (by decide +kernel) (by decide)
  refine V_aload_n C 4 696 dL_law_695 rfl rfl ?_
  refine V_arg Lk (t := t) (j := 1) 5 0 702 (by omega) dL_law_696 dL_law_697 dL_law_699 dL_law_700 dL_law_701 rfl rfl rfl rfl ?_
  refine V_aload_n C 2 703 dL_law_702 rfl rfl ?_
  refine V_callH C hBA hE hN lh_pageOf (pre := mdW g B m) (w0 := oW g A o od f fd x) (post := []) (as := [.ref A.1, .int (xs (3 * t + 1)), .ref o]) (rest := []) (w_pageOf hst hx hok) dL_law_703 ⟨Nat.le_of_ble_eq_true rfl, Nat.le_of_ble_eq_true rfl⟩ rfl (by rw [List.append_nil]) rfl (Nat.le_of_ble_eq_true rfl) ⟨by show cells + 1 ≤ 603072; omega, by show slots + 6 ≤ 7194730; omega⟩ (fun rv w1 hP => ?_)
  obtain ⟨kv, f1, x1, rfl, rfl, hth, hval, hRX⟩ := hout _ _ _ _ _ _ _ hP
  refine V_eq (ws2 := LW g A B x1 m o od f1 fd) (by rw [List.append_nil]) ?_
  refine V_istore C 708 [(6, .int kv), (5, .int (nI (3 * t))), (4, .ref od), (3, .ref o), (2, .ref B.1), (1, .ref A.1), (0, .ref b)] dL_law_706 rfl (hlt 6 (by decide)) rfl ?_
  refine V_aload_n C 4 709 dL_law_708 rfl rfl ?_
  refine V_arg Lk (t := t) (j := 1) 6 1 715 (by omega) dL_law_709 dL_law_710 dL_law_712 dL_law_713 dL_law_714 rfl rfl rfl rfl ?_
  refine V_callS C hBA ml_L_196 (pre := []) (post := oW g A o od f1 fd x1) (w0 := mdW g B m) (w1 := mdW g B m1) (as := [.int (xs (3 * t + 1))]) (rest := []) (c_X4_pageOf (R := (r, m1)) hm) 0 718 (LW g A B x1 m1 o od f1 fd) dL_law_715 rfl ⟨Nat.le_of_ble_eq_true rfl, Nat.le_of_ble_eq_true rfl⟩ rfl rfl rfl rfl rfl rfl rfl (Nat.le_of_ble_eq_true rfl) ⟨by rw [hR9]; show cells + 1 ≤ 603072; omega, by rw [hR9]; show slots + 6 ≤ 7194730; omega⟩ ?_
  refine V_istore C 720 [(7, .int r), (6, .int kv), (5, .int (nI (3 * t))), (4, .ref od), (3, .ref o), (2, .ref B.1), (1, .ref A.1), (0, .ref b)] dL_law_718 rfl (hlt 7 (by decide)) rfl ?_
  refine V_aload_n C 5 721 dL_law_720 rfl rfl ?_
  refine V_callP C ml_L_175 (pre := []) (post := oW g A o od f1 fd x1) (w := mdW g B m1) (as := []) (rest := []) (c_X4_thrown (v := m1) (R := Md_thrown m1) rfl) 0 724 dL_law_721 rfl ⟨Nat.le_of_ble_eq_true rfl, Nat.le_of_ble_eq_true rfl⟩ rfl rfl rfl rfl rfl (Nat.le_of_ble_eq_true rfl) ⟨by rw [hR9]; show cells + 1 ≤ 603072; omega, by rw [hR9]; show slots + 6 ≤ 7194730; omega⟩ ?_
  refine V_iload C 1 726 dL_law_724 rfl rfl ?_
  refine V_icmp_eq C 731 729 dL_law_726 rfl rfl (fun _ => ?_) (fun e => absurd hth e)
  refine V_iload C 1 733 dL_law_731 rfl rfl ?_
  have END : V K (cells + 1) (slots + 6) (LW g A B x1 m1 o od f1 fd) [(7, .int r), (6, .int kv), (5, .int (nI (3 * t))), (4, .ref od), (3, .ref o), (2, .ref B.1), (1, .ref A.1), (0, .ref b)] [] 748 := by
    refine V_goto C 3101 dL_law_748 rfl ?_
    refine V_lv [2, 3, 4, 5, 6, 7] rfl ?_
    exact V_widen (by omega) (by omega) (ke A x1 m1 f1 fd (hRX.mono (by omega)))
  refine V_if_ne C 748 736 dL_law_733 rfl rfl (fun _ => END) (fun e => ?_)
  refine V_aload_n C 4 737 dL_law_736 rfl rfl ?_
  refine V_iconst C (0 : Int32) 738 dL_law_737 rfl rfl ?_
  refine V_lald C (f := f1) (n := 1) 5 739 dL_law_738 rfl rfl (by decide) ?_
  refine V_iload C 0 741 dL_law_739 rfl rfl ?_
  refine V_i2l C 742 dL_law_741 rfl ?_
  refine V_st (st2 := [.long r.toInt64, .long r.toInt64]) (by rw [show f1 (cl (0 : Int32)) = r.toInt64 from hval e] <;> rfl) ?_
  refine V_lcmpE C 743 dL_law_742 rfl ?_
  exact V_if_eq C 748 746 dL_law_743 rfl rfl (fun _ => END) (fun e => absurd rfl e)
theorem law_7 {K : KT} {g : G0} {b L o od t cells slots : Nat} {xs : Nat → Int32} {A : XA} {B : MdA} {x : XV} {m : MdV} {f : Nat → Int64} {fd : Nat → UInt64} (Lk : LK K g b L xs) (ht : 3 * t + 2 < L) (h : RX (30 * t) x m) (hr : cells + 100 ≤ 603072 ∧ slots + 10000 ≤ 7194730) (ke : LE K g b o od B t (cells + 100) (slots + 10000)) : V K cells slots (LW g A B x m o od f fd) (lvL A.1 B.1 b o od t) [] 751 := by
  obtain ⟨C, hBA, hE, hN, hst, -, -, -, hL, h9⟩ := id Lk
  have hR9 : kR K = room_1 := C.2.2.2.2.2.2.1
  have hlt : ∀ i, i < 9 → i < kn K := fun i h => by rw [h9]; exact h
  obtain ⟨R, r, m1, hx, hm, hok, hout⟩ := Ag.wI (ag_weightOf h (xs (3 * t + 1))) (by decide +kernel) (by decide)
  refine V_aload_n C 4 752 dL_law_751 rfl rfl ?_
  refine V_arg Lk (t := t) (j := 1) 5 0 758 (by omega) dL_law_752 dL_law_753 dL_law_755 dL_law_756 dL_law_757 rfl rfl rfl rfl ?_
  refine V_aload_n C 2 759 dL_law_758 rfl rfl ?_
  refine V_callH C hBA hE hN lh_weightOf (pre := mdW g B m) (w0 := oW g A o od f fd x) (post := []) (as := [.ref A.1, .int (xs (3 * t + 1)), .ref o]) (rest := []) (w_weightOf hst hx hok) dL_law_759 ⟨Nat.le_of_ble_eq_true rfl, Nat.le_of_ble_eq_true rfl⟩ rfl (by rw [List.append_nil]) rfl (Nat.le_of_ble_eq_true rfl) ⟨by show cells + 1 ≤ 603072; omega, by show slots + 6 ≤ 7194730; omega⟩ (fun rv w1 hP => ?_)
  obtain ⟨kv, f1, x1, rfl, rfl, hth, hval, hRX⟩ := hout _ _ _ _ _ _ _ hP
  refine V_eq (ws2 := LW g A B x1 m o od f1 fd) (by rw [List.append_nil]) ?_
  refine V_istore C 764 [(6, .int kv), (5, .int (nI (3 * t))), (4, .ref od), (3, .ref o), (2, .ref B.1), (1, .ref A.1), (0, .ref b)] dL_law_762 rfl (hlt 6 (by decide)) rfl ?_
  refine V_aload_n C 4 765 dL_law_764 rfl rfl ?_
  refine V_arg Lk (t := t) (j := 1) 6 1 771 (by omega) dL_law_765 dL_law_766 dL_law_768 dL_law_769 dL_law_770 rfl rfl rfl rfl ?_
  refine V_callS C hBA ml_L_199 (pre := []) (post := oW g A o od f1 fd x1) (w0 := mdW g B m) (w1 := mdW g B m1) (as := [.int (xs (3 * t + 1))]) (rest := []) (c_X4_weightOf (R := (r, m1)) hm) 0 774 (LW g A B x1 m1 o od f1 fd) dL_law_771 rfl ⟨Nat.le_of_ble_eq_true rfl, Nat.le_of_ble_eq_true rfl⟩ rfl rfl rfl rfl rfl rfl rfl (Nat.le_of_ble_eq_true rfl) ⟨by rw [hR9]; show cells + 1 ≤ 603072; omega, by rw [hR9]; show slots + 6 ≤ 7194730; omega⟩ ?_
  refine V_istore C 776 [(7, .int r), (6, .int kv), (5, .int (nI (3 * t))), (4, .ref od), (3, .ref o), (2, .ref B.1), (1, .ref A.1), (0, .ref b)] dL_law_774 rfl (hlt 7 (by decide)) rfl ?_
  refine V_aload_n C 5 777 dL_law_776 rfl rfl ?_
  refine V_callP C ml_L_175 (pre := []) (post := oW g A o od f1 fd x1) (w := mdW g B m1) (as := []) (rest := []) (c_X4_thrown (v := m1) (R := Md_thrown m1) rfl) 0 780 dL_law_777 rfl ⟨Nat.le_of_ble_eq_true rfl, Nat.le_of_ble_eq_true rfl⟩ rfl rfl rfl rfl rfl (Nat.le_of_ble_eq_true rfl) ⟨by rw [hR9]; show cells + 1 ≤ 603072; omega, by rw [hR9]; show slots + 6 ≤ 7194730; omega⟩ ?_
  refine V_iload C 1 782 dL_law_780 rfl rfl ?_
  refine V_icmp_eq C 787 785 dL_law_782 rfl rfl (fun _ => ?_) (fun e => absurd hth e)
  refine V_iload C 1 789 dL_law_787 rfl rfl ?_
  have END : V K (cells + 1) (slots + 6) (LW g A B x1 m1 o od f1 fd) [(7, .int r), (6, .int kv), (5, .int (nI (3 * t))), (4, .ref od), (3, .ref o), (2, .ref B.1), (1, .ref A.1), (0, .ref b)] [] 804 := by
    refine V_goto C 3101 dL_law_804 rfl ?_
    refine V_lv [2, 3, 4, 5, 6, 7] rfl ?_
    exact V_widen (by omega) (by omega) (ke A x1 m1 f1 fd (hRX.mono (by omega)))
  refine V_if_ne C 804 792 dL_law_789 rfl rfl (fun _ => END) (fun e => ?_)
  refine V_aload_n C 4 793 dL_law_792 rfl rfl ?_
  refine V_iconst C (0 : Int32) 794 dL_law_793 rfl rfl ?_
  refine V_lald C (f := f1) (n := 1) 5 795 dL_law_794 rfl rfl (by decide) ?_
  refine V_iload C 0 797 dL_law_795 rfl rfl ?_
  refine V_i2l C 798 dL_law_797 rfl ?_
  refine V_st (st2 := [.long r.toInt64, .long r.toInt64]) (by rw [show f1 (cl (0 : Int32)) = r.toInt64 from hval e] <;> rfl) ?_
  refine V_lcmpE C 799 dL_law_798 rfl ?_
  exact V_if_eq C 804 802 dL_law_799 rfl rfl (fun _ => END) (fun e => absurd rfl e)
theorem law_8 {K : KT} {g : G0} {b L o od t cells slots : Nat} {xs : Nat → Int32} {A : XA} {B : MdA} {x : XV} {m : MdV} {f : Nat → Int64} {fd : Nat → UInt64} (Lk : LK K g b L xs) (ht : 3 * t + 2 < L) (h : RX (30 * t) x m) (hr : cells + 100 ≤ 603072 ∧ slots + 10000 ≤ 7194730) (ke : LE K g b o od B t (cells + 100) (slots + 10000)) : V K cells slots (LW g A B x m o od f fd) (lvL A.1 B.1 b o od t) [] 807 := by
  obtain ⟨C, hBA, hE, hN, hst, -, -, -, hL, h9⟩ := id Lk
  have hR9 : kR K = room_1 := C.2.2.2.2.2.2.1
  have hlt : ∀ i, i < 9 → i < kn K := fun i h => by rw [h9]; exact h
  obtain ⟨R, r, m1, hx, hm, hok, hout⟩ := Ag.wI (ag_wearOf h (xs (3 * t + 1))) (by decide +kernel) (by decide)
  refine V_aload_n C 4 808 dL_law_807 rfl rfl ?_
  refine V_arg Lk (t := t) (j := 1) 5 0 814 (by omega) dL_law_808 dL_law_809 dL_law_811 dL_law_812 dL_law_813 rfl rfl rfl rfl ?_
  refine V_aload_n C 2 815 dL_law_814 rfl rfl ?_
  refine V_callH C hBA hE hN lh_wearOf (pre := mdW g B m) (w0 := oW g A o od f fd x) (post := []) (as := [.ref A.1, .int (xs (3 * t + 1)), .ref o]) (rest := []) (w_wearOf hst hx hok) dL_law_815 ⟨Nat.le_of_ble_eq_true rfl, Nat.le_of_ble_eq_true rfl⟩ rfl (by rw [List.append_nil]) rfl (Nat.le_of_ble_eq_true rfl) ⟨by show cells + 1 ≤ 603072; omega, by show slots + 6 ≤ 7194730; omega⟩ (fun rv w1 hP => ?_)
  obtain ⟨kv, f1, x1, rfl, rfl, hth, hval, hRX⟩ := hout _ _ _ _ _ _ _ hP
  refine V_eq (ws2 := LW g A B x1 m o od f1 fd) (by rw [List.append_nil]) ?_
  refine V_istore C 820 [(6, .int kv), (5, .int (nI (3 * t))), (4, .ref od), (3, .ref o), (2, .ref B.1), (1, .ref A.1), (0, .ref b)] dL_law_818 rfl (hlt 6 (by decide)) rfl ?_
  refine V_aload_n C 4 821 dL_law_820 rfl rfl ?_
  refine V_arg Lk (t := t) (j := 1) 6 1 827 (by omega) dL_law_821 dL_law_822 dL_law_824 dL_law_825 dL_law_826 rfl rfl rfl rfl ?_
  refine V_callS C hBA ml_L_202 (pre := []) (post := oW g A o od f1 fd x1) (w0 := mdW g B m) (w1 := mdW g B m1) (as := [.int (xs (3 * t + 1))]) (rest := []) (c_X4_wearOf (R := (r, m1)) hm) 0 830 (LW g A B x1 m1 o od f1 fd) dL_law_827 rfl ⟨Nat.le_of_ble_eq_true rfl, Nat.le_of_ble_eq_true rfl⟩ rfl rfl rfl rfl rfl rfl rfl (Nat.le_of_ble_eq_true rfl) ⟨by rw [hR9]; show cells + 1 ≤ 603072; omega, by rw [hR9]; show slots + 6 ≤ 7194730; omega⟩ ?_
  refine V_istore C 832 [(7, .int r), (6, .int kv), (5, .int (nI (3 * t))), (4, .ref od), (3, .ref o), (2, .ref B.1), (1, .ref A.1), (0, .ref b)] dL_law_830 rfl (hlt 7 (by decide)) rfl ?_
  refine V_aload_n C 5 833 dL_law_832 rfl rfl ?_
  refine V_callP C ml_L_175 (pre := []) (post := oW g A o od f1 fd x1) (w := mdW g B m1) (as := []) (rest := []) (c_X4_thrown (v := m1) (R := Md_thrown m1) rfl) 0 836 dL_law_833 rfl ⟨Nat.le_of_ble_eq_true rfl, Nat.le_of_ble_eq_true rfl⟩ rfl rfl rfl rfl rfl (Nat.le_of_ble_eq_true rfl) ⟨by rw [hR9]; show cells + 1 ≤ 603072; omega, by rw [hR9]; show slots + 6 ≤ 7194730; omega⟩ ?_
  refine V_iload C 1 838 dL_law_836 rfl rfl ?_
  refine V_icmp_eq C 843 841 dL_law_838 rfl rfl (fun _ => ?_) (fun e => absurd hth e)
  refine V_iload C 1 845 dL_law_843 rfl rfl ?_
  have END : V K (cells + 1) (slots + 6) (LW g A B x1 m1 o od f1 fd) [(7, .int r), (6, .int kv), (5, .int (nI (3 * t))), (4, .ref od), (3, .ref o), (2, .ref B.1), (1, .ref A.1), (0, .ref b)] [] 860 := by
    refine V_goto C 3101 dL_law_860 rfl ?_
    refine V_lv [2, 3, 4, 5, 6, 7] rfl ?_
    exact V_widen (by omega) (by omega) (ke A x1 m1 f1 fd (hRX.mono (by omega)))
  refine V_if_ne C 860 848 dL_law_845 rfl rfl (fun _ => END) (fun e => ?_)
  refine V_aload_n C 4 849 dL_law_848 rfl rfl ?_
  refine V_iconst C (0 : Int32) 850 dL_law_849 rfl rfl ?_
  refine V_lald C (f := f1) (n := 1) 5 851 dL_law_850 rfl rfl (by decide) ?_
  refine V_iload C 0 853 dL_law_851 rfl rfl ?_
  refine V_i2l C 854 dL_law_853 rfl ?_
  refine V_st (st2 := [.long r.toInt64, .long r.toInt64]) (by rw [show f1 (cl (0 : Int32)) = r.toInt64 from hval e] <;> rfl) ?_
  refine V_lcmpE C 855 dL_law_854 rfl ?_
  exact V_if_eq C 860 858 dL_law_855 rfl rfl (fun _ => END) (fun e => absurd rfl e)
theorem law_9 {K : KT} {g : G0} {b L o od t cells slots : Nat} {xs : Nat → Int32} {A : XA} {B : MdA} {x : XV} {m : MdV} {f : Nat → Int64} {fd : Nat → UInt64} (Lk : LK K g b L xs) (ht : 3 * t + 2 < L) (h : RX (30 * t) x m) (hr : cells + 100 ≤ 603072 ∧ slots + 10000 ≤ 7194730) (ke : LE K g b o od B t (cells + 100) (slots + 10000)) : V K cells slots (LW g A B x m o od f fd) (lvL A.1 B.1 b o od t) [] 863 := by
  obtain ⟨C, hBA, hE, hN, hst, -, -, -, hL, h9⟩ := id Lk
  have hR9 : kR K = room_1 := C.2.2.2.2.2.2.1
  have hlt : ∀ i, i < 9 → i < kn K := fun i h => by rw [h9]; exact h
  obtain ⟨R, r, m1, hx, hm, hok, hout⟩ := Ag.wI (ag_seatOf h (xs (3 * t + 1))) (by decide +kernel) (by decide)
  refine V_aload_n C 4 864 dL_law_863 rfl rfl ?_
  refine V_arg Lk (t := t) (j := 1) 5 0 870 (by omega) dL_law_864 dL_law_865 dL_law_867 dL_law_868 dL_law_869 rfl rfl rfl rfl ?_
  refine V_aload_n C 2 871 dL_law_870 rfl rfl ?_
  refine V_callH C hBA hE hN lh_seatOf (pre := mdW g B m) (w0 := oW g A o od f fd x) (post := []) (as := [.ref A.1, .int (xs (3 * t + 1)), .ref o]) (rest := []) (w_seatOf hst hx hok) dL_law_871 ⟨Nat.le_of_ble_eq_true rfl, Nat.le_of_ble_eq_true rfl⟩ rfl (by rw [List.append_nil]) rfl (Nat.le_of_ble_eq_true rfl) ⟨by show cells + 1 ≤ 603072; omega, by show slots + 6 ≤ 7194730; omega⟩ (fun rv w1 hP => ?_)
  obtain ⟨kv, f1, x1, rfl, rfl, hth, hval, hRX⟩ := hout _ _ _ _ _ _ _ hP
  refine V_eq (ws2 := LW g A B x1 m o od f1 fd) (by rw [List.append_nil]) ?_
  refine V_istore C 876 [(6, .int kv), (5, .int (nI (3 * t))), (4, .ref od), (3, .ref o), (2, .ref B.1), (1, .ref A.1), (0, .ref b)] dL_law_874 rfl (hlt 6 (by decide)) rfl ?_
  refine V_aload_n C 4 877 dL_law_876 rfl rfl ?_
  refine V_arg Lk (t := t) (j := 1) 6 1 883 (by omega) dL_law_877 dL_law_878 dL_law_880 dL_law_881 dL_law_882 rfl rfl rfl rfl ?_
  refine V_callS C hBA ml_L_205 (pre := []) (post := oW g A o od f1 fd x1) (w0 := mdW g B m) (w1 := mdW g B m1) (as := [.int (xs (3 * t + 1))]) (rest := []) (c_X4_seatOf (R := (r, m1)) hm) 0 886 (LW g A B x1 m1 o od f1 fd) dL_law_883 rfl ⟨Nat.le_of_ble_eq_true rfl, Nat.le_of_ble_eq_true rfl⟩ rfl rfl rfl rfl rfl rfl rfl (Nat.le_of_ble_eq_true rfl) ⟨by rw [hR9]; show cells + 1 ≤ 603072; omega, by rw [hR9]; show slots + 6 ≤ 7194730; omega⟩ ?_
  refine V_istore C 888 [(7, .int r), (6, .int kv), (5, .int (nI (3 * t))), (4, .ref od), (3, .ref o), (2, .ref B.1), (1, .ref A.1), (0, .ref b)] dL_law_886 rfl (hlt 7 (by decide)) rfl ?_
  refine V_aload_n C 5 889 dL_law_888 rfl rfl ?_
  refine V_callP C ml_L_175 (pre := []) (post := oW g A o od f1 fd x1) (w := mdW g B m1) (as := []) (rest := []) (c_X4_thrown (v := m1) (R := Md_thrown m1) rfl) 0 892 dL_law_889 rfl ⟨Nat.le_of_ble_eq_true rfl, Nat.le_of_ble_eq_true rfl⟩ rfl rfl rfl rfl rfl (Nat.le_of_ble_eq_true rfl) ⟨by rw [hR9]; show cells + 1 ≤ 603072; omega, by rw [hR9]; show slots + 6 ≤ 7194730; omega⟩ ?_
  refine V_iload C 1 894 dL_law_892 rfl rfl ?_
  refine V_icmp_eq C 899 897 dL_law_894 rfl rfl (fun _ => ?_) (fun e => absurd hth e)
  refine V_iload C 1 901 dL_law_899 rfl rfl ?_
  have END : V K (cells + 1) (slots + 6) (LW g A B x1 m1 o od f1 fd) [(7, .int r), (6, .int kv), (5, .int (nI (3 * t))), (4, .ref od), (3, .ref o), (2, .ref B.1), (1, .ref A.1), (0, .ref b)] [] 916 := by
    refine V_goto C 3101 dL_law_916 rfl ?_
    refine V_lv [2, 3, 4, 5, 6, 7] rfl ?_
    exact V_widen (by omega) (by omega) (ke A x1 m1 f1 fd (hRX.mono (by omega)))
  refine V_if_ne C 916 904 dL_law_901 rfl rfl (fun _ => END) (fun e => ?_)
  refine V_aload_n C 4 905 dL_law_904 rfl rfl ?_
  refine V_iconst C (0 : Int32) 906 dL_law_905 rfl rfl ?_
  refine V_lald C (f := f1) (n := 1) 5 907 dL_law_906 rfl rfl (by decide) ?_
  refine V_iload C 0 909 dL_law_907 rfl rfl ?_
  refine V_i2l C 910 dL_law_909 rfl ?_
  refine V_st (st2 := [.long r.toInt64, .long r.toInt64]) (by rw [show f1 (cl (0 : Int32)) = r.toInt64 from hval e] <;> rfl) ?_
  refine V_lcmpE C 911 dL_law_910 rfl ?_
  exact V_if_eq C 916 914 dL_law_911 rfl rfl (fun _ => END) (fun e => absurd rfl e)
theorem law_10 {K : KT} {g : G0} {b L o od t cells slots : Nat} {xs : Nat → Int32} {A : XA} {B : MdA} {x : XV} {m : MdV} {f : Nat → Int64} {fd : Nat → UInt64} (Lk : LK K g b L xs) (ht : 3 * t + 2 < L) (h : RX (30 * t) x m) (hr : cells + 100 ≤ 603072 ∧ slots + 10000 ≤ 7194730) (ke : LE K g b o od B t (cells + 100) (slots + 10000)) : V K cells slots (LW g A B x m o od f fd) (lvL A.1 B.1 b o od t) [] 919 := by
  obtain ⟨C, hBA, hE, hN, hst, -, -, -, hL, h9⟩ := id Lk
  have hR9 : kR K = room_1 := C.2.2.2.2.2.2.1
  have hlt : ∀ i, i < 9 → i < kn K := fun i h => by rw [h9]; exact h
  obtain ⟨R, r, m1, hx, hm, hok, hout⟩ := Ag.wI (ag_ribbonIn h (xs (3 * t + 1))) (by decide +kernel) (by decide)
  refine V_aload_n C 4 920 dL_law_919 rfl rfl ?_
  refine V_arg Lk (t := t) (j := 1) 5 0 926 (by omega) dL_law_920 dL_law_921 dL_law_923 dL_law_924 dL_law_925 rfl rfl rfl rfl ?_
  refine V_aload_n C 2 927 dL_law_926 rfl rfl ?_
  refine V_callH C hBA hE hN lh_ribbonIn (pre := mdW g B m) (w0 := oW g A o od f fd x) (post := []) (as := [.ref A.1, .int (xs (3 * t + 1)), .ref o]) (rest := []) (w_ribbonIn hst hx hok) dL_law_927 ⟨Nat.le_of_ble_eq_true rfl, Nat.le_of_ble_eq_true rfl⟩ rfl (by rw [List.append_nil]) rfl (Nat.le_of_ble_eq_true rfl) ⟨by show cells + 1 ≤ 603072; omega, by show slots + 6 ≤ 7194730; omega⟩ (fun rv w1 hP => ?_)
  obtain ⟨kv, f1, x1, rfl, rfl, hth, hval, hRX⟩ := hout _ _ _ _ _ _ _ hP
  refine V_eq (ws2 := LW g A B x1 m o od f1 fd) (by rw [List.append_nil]) ?_
  refine V_istore C 932 [(6, .int kv), (5, .int (nI (3 * t))), (4, .ref od), (3, .ref o), (2, .ref B.1), (1, .ref A.1), (0, .ref b)] dL_law_930 rfl (hlt 6 (by decide)) rfl ?_
  refine V_aload_n C 4 933 dL_law_932 rfl rfl ?_
  refine V_arg Lk (t := t) (j := 1) 6 1 939 (by omega) dL_law_933 dL_law_934 dL_law_936 dL_law_937 dL_law_938 rfl rfl rfl rfl ?_
  refine V_callS C hBA ml_L_208 (pre := []) (post := oW g A o od f1 fd x1) (w0 := mdW g B m) (w1 := mdW g B m1) (as := [.int (xs (3 * t + 1))]) (rest := []) (c_X4_ribbonIn (R := (r, m1)) hm) 0 942 (LW g A B x1 m1 o od f1 fd) dL_law_939 rfl ⟨Nat.le_of_ble_eq_true rfl, Nat.le_of_ble_eq_true rfl⟩ rfl rfl rfl rfl rfl rfl rfl (Nat.le_of_ble_eq_true rfl) ⟨by rw [hR9]; show cells + 1 ≤ 603072; omega, by rw [hR9]; show slots + 6 ≤ 7194730; omega⟩ ?_
  refine V_istore C 944 [(7, .int r), (6, .int kv), (5, .int (nI (3 * t))), (4, .ref od), (3, .ref o), (2, .ref B.1), (1, .ref A.1), (0, .ref b)] dL_law_942 rfl (hlt 7 (by decide)) rfl ?_
  refine V_aload_n C 5 945 dL_law_944 rfl rfl ?_
  refine V_callP C ml_L_175 (pre := []) (post := oW g A o od f1 fd x1) (w := mdW g B m1) (as := []) (rest := []) (c_X4_thrown (v := m1) (R := Md_thrown m1) rfl) 0 948 dL_law_945 rfl ⟨Nat.le_of_ble_eq_true rfl, Nat.le_of_ble_eq_true rfl⟩ rfl rfl rfl rfl rfl (Nat.le_of_ble_eq_true rfl) ⟨by rw [hR9]; show cells + 1 ≤ 603072; omega, by rw [hR9]; show slots + 6 ≤ 7194730; omega⟩ ?_
  refine V_iload C 1 950 dL_law_948 rfl rfl ?_
  refine V_icmp_eq C 955 953 dL_law_950 rfl rfl (fun _ => ?_) (fun e => absurd hth e)
  refine V_iload C 1 957 dL_law_955 rfl rfl ?_
  have END : V K (cells + 1) (slots + 6) (LW g A B x1 m1 o od f1 fd) [(7, .int r), (6, .int kv), (5, .int (nI (3 * t))), (4, .ref od), (3, .ref o), (2, .ref B.1), (1, .ref A.1), (0, .ref b)] [] 972 := by
    refine V_goto C 3101 dL_law_972 rfl ?_
    refine V_lv [2, 3, 4, 5, 6, 7] rfl ?_
    exact V_widen (by omega) (by omega) (ke A x1 m1 f1 fd (hRX.mono (by omega)))
  refine V_if_ne C 972 960 dL_law_957 rfl rfl (fun _ => END) (fun e => ?_)
  refine V_aload_n C 4 961 dL_law_960 rfl rfl ?_
  refine V_iconst C (0 : Int32) 962 dL_law_961 rfl rfl ?_
  refine V_lald C (f := f1) (n := 1) 5 963 dL_law_962 rfl rfl (by decide) ?_
  refine V_iload C 0 965 dL_law_963 rfl rfl ?_
  refine V_i2l C 966 dL_law_965 rfl ?_
  refine V_st (st2 := [.long r.toInt64, .long r.toInt64]) (by rw [show f1 (cl (0 : Int32)) = r.toInt64 from hval e] <;> rfl) ?_
  refine V_lcmpE C 967 dL_law_966 rfl ?_
  exact V_if_eq C 972 970 dL_law_967 rfl rfl (fun _ => END) (fun e => absurd rfl e)
theorem law_11 {K : KT} {g : G0} {b L o od t cells slots : Nat} {xs : Nat → Int32} {A : XA} {B : MdA} {x : XV} {m : MdV} {f : Nat → Int64} {fd : Nat → UInt64} (Lk : LK K g b L xs) (ht : 3 * t + 2 < L) (h : RX (30 * t) x m) (hr : cells + 100 ≤ 603072 ∧ slots + 10000 ≤ 7194730) (ke : LE K g b o od B t (cells + 100) (slots + 10000)) : V K cells slots (LW g A B x m o od f fd) (lvL A.1 B.1 b o od t) [] 975 := by
  obtain ⟨C, hBA, hE, hN, hst, -, -, -, hL, h9⟩ := id Lk
  have hR9 : kR K = room_1 := C.2.2.2.2.2.2.1
  have hlt : ∀ i, i < 9 → i < kn K := fun i h => by rw [h9]; exact h
  obtain ⟨R, r, m1, hx, hm, hok, hout⟩ := Ag.wB (ag_isHeld h (xs (3 * t + 1))) (by decide +kernel) (by decide)
  refine V_aload_n C 4 976 dL_law_975 rfl rfl ?_
  refine V_arg Lk (t := t) (j := 1) 5 0 982 (by omega) dL_law_976 dL_law_977 dL_law_979 dL_law_980 dL_law_981 rfl rfl rfl rfl ?_
  refine V_aload_n C 2 983 dL_law_982 rfl rfl ?_
  refine V_callH C hBA hE hN lh_isHeld (pre := mdW g B m) (w0 := oW g A o od f fd x) (post := []) (as := [.ref A.1, .int (xs (3 * t + 1)), .ref o]) (rest := []) (w_isHeld hst hx hok) dL_law_983 ⟨Nat.le_of_ble_eq_true rfl, Nat.le_of_ble_eq_true rfl⟩ rfl (by rw [List.append_nil]) rfl (Nat.le_of_ble_eq_true rfl) ⟨by show cells + 1 ≤ 603072; omega, by show slots + 6 ≤ 7194730; omega⟩ (fun rv w1 hP => ?_)
  obtain ⟨kv, f1, x1, rfl, rfl, hth, hval, hRX⟩ := hout _ _ _ _ _ _ _ hP
  refine V_eq (ws2 := LW g A B x1 m o od f1 fd) (by rw [List.append_nil]) ?_
  refine V_istore C 988 [(6, .int kv), (5, .int (nI (3 * t))), (4, .ref od), (3, .ref o), (2, .ref B.1), (1, .ref A.1), (0, .ref b)] dL_law_986 rfl (hlt 6 (by decide)) rfl ?_
  refine V_aload_n C 4 989 dL_law_988 rfl rfl ?_
  refine V_arg Lk (t := t) (j := 1) 6 1 995 (by omega) dL_law_989 dL_law_990 dL_law_992 dL_law_993 dL_law_994 rfl rfl rfl rfl ?_
  refine V_callS C hBA ml_L_211 (pre := []) (post := oW g A o od f1 fd x1) (w0 := mdW g B m) (w1 := mdW g B m1) (as := [.int (xs (3 * t + 1))]) (rest := []) (c_X4_isHeld (R := (r, m1)) hm) 0 998 (LW g A B x1 m1 o od f1 fd) dL_law_995 rfl ⟨Nat.le_of_ble_eq_true rfl, Nat.le_of_ble_eq_true rfl⟩ rfl rfl rfl rfl rfl rfl rfl (Nat.le_of_ble_eq_true rfl) ⟨by rw [hR9]; show cells + 1 ≤ 603072; omega, by rw [hR9]; show slots + 6 ≤ 7194730; omega⟩ ?_
  refine V_istore C 1000 [(7, .int r), (6, .int kv), (5, .int (nI (3 * t))), (4, .ref od), (3, .ref o), (2, .ref B.1), (1, .ref A.1), (0, .ref b)] dL_law_998 rfl (hlt 7 (by decide)) rfl ?_
  refine V_aload_n C 5 1001 dL_law_1000 rfl rfl ?_
  refine V_callP C ml_L_175 (pre := []) (post := oW g A o od f1 fd x1) (w := mdW g B m1) (as := []) (rest := []) (c_X4_thrown (v := m1) (R := Md_thrown m1) rfl) 0 1004 dL_law_1001 rfl ⟨Nat.le_of_ble_eq_true rfl, Nat.le_of_ble_eq_true rfl⟩ rfl rfl rfl rfl rfl (Nat.le_of_ble_eq_true rfl) ⟨by rw [hR9]; show cells + 1 ≤ 603072; omega, by rw [hR9]; show slots + 6 ≤ 7194730; omega⟩ ?_
  refine V_iload C 1 1006 dL_law_1004 rfl rfl ?_
  refine V_icmp_eq C 1011 1009 dL_law_1006 rfl rfl (fun _ => ?_) (fun e => absurd hth e)
  refine V_iload C 1 1013 dL_law_1011 rfl rfl ?_
  have END : V K (cells + 1) (slots + 6) (LW g A B x1 m1 o od f1 fd) [(7, .int r), (6, .int kv), (5, .int (nI (3 * t))), (4, .ref od), (3, .ref o), (2, .ref B.1), (1, .ref A.1), (0, .ref b)] [] 1035 := by
    refine V_goto C 3101 dL_law_1035 rfl ?_
    refine V_lv [2, 3, 4, 5, 6, 7] rfl ?_
    exact V_widen (by omega) (by omega) (ke A x1 m1 f1 fd (hRX.mono (by omega)))
  refine V_if_ne C 1035 1016 dL_law_1013 rfl rfl (fun _ => END) (fun e => ?_)
  refine V_aload_n C 4 1017 dL_law_1016 rfl rfl ?_
  refine V_iconst C (0 : Int32) 1018 dL_law_1017 rfl rfl ?_
  refine V_lald C (f := f1) (n := 1) 5 1019 dL_law_1018 rfl rfl (by decide) ?_
  refine V_iload C 0 1021 dL_law_1019 rfl rfl ?_
  refine V_if_eq C 1028 1024 dL_law_1021 rfl rfl (fun e2 => ?_) (fun e2 => ?_)
  · refine V_lconst C (0 : Int64) 1029 dL_law_1028 rfl rfl ?_
    refine V_st (st2 := [.long (0 : Int64), .long (0 : Int64)]) (by rw [show f1 (cl (0 : Int32)) = (0 : Int64) from (hval e).trans (if_pos e2)] <;> rfl) ?_
    refine V_lcmpE C 1030 dL_law_1029 rfl ?_
    exact V_if_eq C 1035 1033 dL_law_1030 rfl rfl (fun _ => END) (fun e => absurd rfl e)
  · refine V_lconst C (1 : Int64) 1025 dL_law_1024 rfl rfl ?_
    refine V_goto C 1029 dL_law_1025 rfl ?_
    refine V_st (st2 := [.long (1 : Int64), .long (1 : Int64)]) (by rw [show f1 (cl (0 : Int32)) = (1 : Int64) from (hval e).trans (if_neg e2)] <;> rfl) ?_
    refine V_lcmpE C 1030 dL_law_1029 rfl ?_
    exact V_if_eq C 1035 1033 dL_law_1030 rfl rfl (fun _ => END) (fun e => absurd rfl e)
theorem law_12 {K : KT} {g : G0} {b L o od t cells slots : Nat} {xs : Nat → Int32} {A : XA} {B : MdA} {x : XV} {m : MdV} {f : Nat → Int64} {fd : Nat → UInt64} (Lk : LK K g b L xs) (ht : 3 * t + 2 < L) (h : RX (30 * t) x m) (hr : cells + 100 ≤ 603072 ∧ slots + 10000 ≤ 7194730) (ke : LE K g b o od B t (cells + 100) (slots + 10000)) : V K cells slots (LW g A B x m o od f fd) (lvL A.1 B.1 b o od t) [] 1038 := by
  obtain ⟨C, hBA, hE, hN, hst, -, -, -, hL, h9⟩ := id Lk
  have hR9 : kR K = room_1 := C.2.2.2.2.2.2.1
  have hlt : ∀ i, i < 9 → i < kn K := fun i h => by rw [h9]; exact h
  obtain ⟨R, r, m1, hx, hm, hok, hout⟩ := Ag.wI (ag_markOn h (xs (3 * t + 1))) (by decide +kernel) (by decide)
  refine V_aload_n C 4 1039 dL_law_1038 rfl rfl ?_
  refine V_arg Lk (t := t) (j := 1) 5 0 1045 (by omega) dL_law_1039 dL_law_1040 dL_law_1042 dL_law_1043 dL_law_1044 rfl rfl rfl rfl ?_
  refine V_aload_n C 2 1046 dL_law_1045 rfl rfl ?_
  refine V_callH C hBA hE hN lh_markOn (pre := mdW g B m) (w0 := oW g A o od f fd x) (post := []) (as := [.ref A.1, .int (xs (3 * t + 1)), .ref o]) (rest := []) (w_markOn hst hx hok) dL_law_1046 ⟨Nat.le_of_ble_eq_true rfl, Nat.le_of_ble_eq_true rfl⟩ rfl (by rw [List.append_nil]) rfl (Nat.le_of_ble_eq_true rfl) ⟨by show cells + 1 ≤ 603072; omega, by show slots + 6 ≤ 7194730; omega⟩ (fun rv w1 hP => ?_)
  obtain ⟨kv, f1, x1, rfl, rfl, hth, hval, hRX⟩ := hout _ _ _ _ _ _ _ hP
  refine V_eq (ws2 := LW g A B x1 m o od f1 fd) (by rw [List.append_nil]) ?_
  refine V_istore C 1051 [(6, .int kv), (5, .int (nI (3 * t))), (4, .ref od), (3, .ref o), (2, .ref B.1), (1, .ref A.1), (0, .ref b)] dL_law_1049 rfl (hlt 6 (by decide)) rfl ?_
  refine V_aload_n C 4 1052 dL_law_1051 rfl rfl ?_
  refine V_arg Lk (t := t) (j := 1) 6 1 1058 (by omega) dL_law_1052 dL_law_1053 dL_law_1055 dL_law_1056 dL_law_1057 rfl rfl rfl rfl ?_
  refine V_callS C hBA ml_L_214 (pre := []) (post := oW g A o od f1 fd x1) (w0 := mdW g B m) (w1 := mdW g B m1) (as := [.int (xs (3 * t + 1))]) (rest := []) (c_X4_markOn (R := (r, m1)) hm) 0 1061 (LW g A B x1 m1 o od f1 fd) dL_law_1058 rfl ⟨Nat.le_of_ble_eq_true rfl, Nat.le_of_ble_eq_true rfl⟩ rfl rfl rfl rfl rfl rfl rfl (Nat.le_of_ble_eq_true rfl) ⟨by rw [hR9]; show cells + 1 ≤ 603072; omega, by rw [hR9]; show slots + 6 ≤ 7194730; omega⟩ ?_
  refine V_istore C 1063 [(7, .int r), (6, .int kv), (5, .int (nI (3 * t))), (4, .ref od), (3, .ref o), (2, .ref B.1), (1, .ref A.1), (0, .ref b)] dL_law_1061 rfl (hlt 7 (by decide)) rfl ?_
  refine V_aload_n C 5 1064 dL_law_1063 rfl rfl ?_
  refine V_callP C ml_L_175 (pre := []) (post := oW g A o od f1 fd x1) (w := mdW g B m1) (as := []) (rest := []) (c_X4_thrown (v := m1) (R := Md_thrown m1) rfl) 0 1067 dL_law_1064 rfl ⟨Nat.le_of_ble_eq_true rfl, Nat.le_of_ble_eq_true rfl⟩ rfl rfl rfl rfl rfl (Nat.le_of_ble_eq_true rfl) ⟨by rw [hR9]; show cells + 1 ≤ 603072; omega, by rw [hR9]; show slots + 6 ≤ 7194730; omega⟩ ?_
  refine V_iload C 1 1069 dL_law_1067 rfl rfl ?_
  refine V_icmp_eq C 1074 1072 dL_law_1069 rfl rfl (fun _ => ?_) (fun e => absurd hth e)
  refine V_iload C 1 1076 dL_law_1074 rfl rfl ?_
  have END : V K (cells + 1) (slots + 6) (LW g A B x1 m1 o od f1 fd) [(7, .int r), (6, .int kv), (5, .int (nI (3 * t))), (4, .ref od), (3, .ref o), (2, .ref B.1), (1, .ref A.1), (0, .ref b)] [] 1091 := by
    refine V_goto C 3101 dL_law_1091 rfl ?_
    refine V_lv [2, 3, 4, 5, 6, 7] rfl ?_
    exact V_widen (by omega) (by omega) (ke A x1 m1 f1 fd (hRX.mono (by omega)))
  refine V_if_ne C 1091 1079 dL_law_1076 rfl rfl (fun _ => END) (fun e => ?_)
  refine V_aload_n C 4 1080 dL_law_1079 rfl rfl ?_
  refine V_iconst C (0 : Int32) 1081 dL_law_1080 rfl rfl ?_
  refine V_lald C (f := f1) (n := 1) 5 1082 dL_law_1081 rfl rfl (by decide) ?_
  refine V_iload C 0 1084 dL_law_1082 rfl rfl ?_
  refine V_i2l C 1085 dL_law_1084 rfl ?_
  refine V_st (st2 := [.long r.toInt64, .long r.toInt64]) (by rw [show f1 (cl (0 : Int32)) = r.toInt64 from hval e] <;> rfl) ?_
  refine V_lcmpE C 1086 dL_law_1085 rfl ?_
  exact V_if_eq C 1091 1089 dL_law_1086 rfl rfl (fun _ => END) (fun e => absurd rfl e)
theorem law_13 {K : KT} {g : G0} {b L o od t cells slots : Nat} {xs : Nat → Int32} {A : XA} {B : MdA} {x : XV} {m : MdV} {f : Nat → Int64} {fd : Nat → UInt64} (Lk : LK K g b L xs) (ht : 3 * t + 2 < L) (h : RX (30 * t) x m) (hr : cells + 100 ≤ 603072 ∧ slots + 10000 ≤ 7194730) (ke : LE K g b o od B t (cells + 100) (slots + 10000)) : V K cells slots (LW g A B x m o od f fd) (lvL A.1 B.1 b o od t) [] 1094 := by
  obtain ⟨C, hBA, hE, hN, hst, -, -, -, hL, h9⟩ := id Lk
  have hR9 : kR K = room_1 := C.2.2.2.2.2.2.1
  have hlt : ∀ i, i < 9 → i < kn K := fun i h => by rw [h9]; exact h
  obtain ⟨R, r, m1, hx, hm, hok, hout⟩ := Ag.wI (ag_nextMark h (xs (3 * t + 1))) (by decide +kernel) (by decide)
  refine V_aload_n C 4 1095 dL_law_1094 rfl rfl ?_
  refine V_arg Lk (t := t) (j := 1) 5 0 1101 (by omega) dL_law_1095 dL_law_1096 dL_law_1098 dL_law_1099 dL_law_1100 rfl rfl rfl rfl ?_
  refine V_aload_n C 2 1102 dL_law_1101 rfl rfl ?_
  refine V_callH C hBA hE hN lh_nextMark (pre := mdW g B m) (w0 := oW g A o od f fd x) (post := []) (as := [.ref A.1, .int (xs (3 * t + 1)), .ref o]) (rest := []) (w_nextMark hst hx hok) dL_law_1102 ⟨Nat.le_of_ble_eq_true rfl, Nat.le_of_ble_eq_true rfl⟩ rfl (by rw [List.append_nil]) rfl (Nat.le_of_ble_eq_true rfl) ⟨by show cells + 1 ≤ 603072; omega, by show slots + 6 ≤ 7194730; omega⟩ (fun rv w1 hP => ?_)
  obtain ⟨kv, f1, x1, rfl, rfl, hth, hval, hRX⟩ := hout _ _ _ _ _ _ _ hP
  refine V_eq (ws2 := LW g A B x1 m o od f1 fd) (by rw [List.append_nil]) ?_
  refine V_istore C 1107 [(6, .int kv), (5, .int (nI (3 * t))), (4, .ref od), (3, .ref o), (2, .ref B.1), (1, .ref A.1), (0, .ref b)] dL_law_1105 rfl (hlt 6 (by decide)) rfl ?_
  refine V_aload_n C 4 1108 dL_law_1107 rfl rfl ?_
  refine V_arg Lk (t := t) (j := 1) 6 1 1114 (by omega) dL_law_1108 dL_law_1109 dL_law_1111 dL_law_1112 dL_law_1113 rfl rfl rfl rfl ?_
  refine V_callS C hBA ml_L_217 (pre := []) (post := oW g A o od f1 fd x1) (w0 := mdW g B m) (w1 := mdW g B m1) (as := [.int (xs (3 * t + 1))]) (rest := []) (c_X4_nextMark (R := (r, m1)) hm) 0 1117 (LW g A B x1 m1 o od f1 fd) dL_law_1114 rfl ⟨Nat.le_of_ble_eq_true rfl, Nat.le_of_ble_eq_true rfl⟩ rfl rfl rfl rfl rfl rfl rfl (Nat.le_of_ble_eq_true rfl) ⟨by rw [hR9]; show cells + 1 ≤ 603072; omega, by rw [hR9]; show slots + 6 ≤ 7194730; omega⟩ ?_
  refine V_istore C 1119 [(7, .int r), (6, .int kv), (5, .int (nI (3 * t))), (4, .ref od), (3, .ref o), (2, .ref B.1), (1, .ref A.1), (0, .ref b)] dL_law_1117 rfl (hlt 7 (by decide)) rfl ?_
  refine V_aload_n C 5 1120 dL_law_1119 rfl rfl ?_
  refine V_callP C ml_L_175 (pre := []) (post := oW g A o od f1 fd x1) (w := mdW g B m1) (as := []) (rest := []) (c_X4_thrown (v := m1) (R := Md_thrown m1) rfl) 0 1123 dL_law_1120 rfl ⟨Nat.le_of_ble_eq_true rfl, Nat.le_of_ble_eq_true rfl⟩ rfl rfl rfl rfl rfl (Nat.le_of_ble_eq_true rfl) ⟨by rw [hR9]; show cells + 1 ≤ 603072; omega, by rw [hR9]; show slots + 6 ≤ 7194730; omega⟩ ?_
  refine V_iload C 1 1125 dL_law_1123 rfl rfl ?_
  refine V_icmp_eq C 1130 1128 dL_law_1125 rfl rfl (fun _ => ?_) (fun e => absurd hth e)
  refine V_iload C 1 1132 dL_law_1130 rfl rfl ?_
  have END : V K (cells + 1) (slots + 6) (LW g A B x1 m1 o od f1 fd) [(7, .int r), (6, .int kv), (5, .int (nI (3 * t))), (4, .ref od), (3, .ref o), (2, .ref B.1), (1, .ref A.1), (0, .ref b)] [] 1147 := by
    refine V_goto C 3101 dL_law_1147 rfl ?_
    refine V_lv [2, 3, 4, 5, 6, 7] rfl ?_
    exact V_widen (by omega) (by omega) (ke A x1 m1 f1 fd (hRX.mono (by omega)))
  refine V_if_ne C 1147 1135 dL_law_1132 rfl rfl (fun _ => END) (fun e => ?_)
  refine V_aload_n C 4 1136 dL_law_1135 rfl rfl ?_
  refine V_iconst C (0 : Int32) 1137 dL_law_1136 rfl rfl ?_
  refine V_lald C (f := f1) (n := 1) 5 1138 dL_law_1137 rfl rfl (by decide) ?_
  refine V_iload C 0 1140 dL_law_1138 rfl rfl ?_
  refine V_i2l C 1141 dL_law_1140 rfl ?_
  refine V_st (st2 := [.long r.toInt64, .long r.toInt64]) (by rw [show f1 (cl (0 : Int32)) = r.toInt64 from hval e] <;> rfl) ?_
  refine V_lcmpE C 1142 dL_law_1141 rfl ?_
  exact V_if_eq C 1147 1145 dL_law_1142 rfl rfl (fun _ => END) (fun e => absurd rfl e)
