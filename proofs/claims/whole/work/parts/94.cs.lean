/-! ===== cases of the law: texts and fractions ===== -/
theorem law_45 {K : KT} {g : G0} {b L o od t cells slots : Nat} {xs : Nat → Int32} {A : XA} {B : MdA} {x : XV} {m : MdV} {f : Nat → Int64} {fd : Nat → UInt64} (Lk : LK K g b L xs) (ht : 3 * t + 2 < L) (h : RX (30 * t) x m) (hr : cells + 100 ≤ 603072 ∧ slots + 10000 ≤ 7194730) (ke : LE K g b o od B t (cells + 100) (slots + 10000)) : V K cells slots (LW g A B x m o od f fd) (lvL A.1 B.1 b o od t) [] 2428 := by
  obtain ⟨C, hBA, hE, hN, hst, -, -, -, hL, h9⟩ := id Lk
  have hR9 : kR K = room_1 := C.2.2.2.2.2.2.1
  have hlt : ∀ i, i < 9 → i < kn K := fun i h => by rw [h9]; exact h
  rcases rx_meanWeight h with ⟨h0, h0a⟩ | ⟨k, n, h1, h2, h3, h4, h5, h6, h7⟩
  · have hRX := h
    refine V_aload_n C 4 2429 dL_law_2428 rfl rfl ?_
    refine V_aload C 1 2431 dL_law_2429 rfl rfl ?_
    refine V_callH C hBA hE hN lh_meanWeight (pre := mdW g B m) (w0 := oW g A o od f fd x) (post := []) (as := [.ref A.1, .ref od]) (rest := []) (w_meanWeightX hst h0) dL_law_2431 ⟨Nat.le_of_ble_eq_true rfl, Nat.le_of_ble_eq_true rfl⟩ rfl (by rw [List.append_nil]; try rfl) rfl (Nat.le_of_ble_eq_true rfl) ⟨by show cells + 1 ≤ 603072; omega, by show slots + 6 ≤ 7194730; omega⟩ (fun rv w1 hP => ?_)
    obtain ⟨rfl, rfl⟩ := hP
    refine V_eq (ws2 := LW g A B x m o od f fd) (by rw [List.append_nil]; try rfl) ?_
    refine V_istore C 2436 [(6, .int (1 : Int32)), (5, .int (nI (3 * t))), (4, .ref od), (3, .ref o), (2, .ref B.1), (1, .ref A.1), (0, .ref b)] dL_law_2434 rfl (hlt 6 (by decide)) rfl ?_
    refine V_aload_n C 4 2437 dL_law_2436 rfl rfl ?_
    refine V_callN (as := []) (pre := []) (w0 := mdW g B m) (post := oW g A o od f fd x) (rest := []) C hBA hE ml_L_328 (c_X4_meanWeightX h0a) 0 dL_law_2437 ⟨Nat.le_of_ble_eq_true rfl, Nat.le_of_ble_eq_true rfl⟩ rfl rfl rfl rfl (Nat.le_of_ble_eq_true rfl) ⟨by show cells + 1 ≤ 603072; omega, by show slots + 6 ≤ 7194730; omega⟩ (fun rv w1 hP => ?_)
    obtain ⟨⟨dd, rfl⟩, rfl⟩ := hP
    refine V_eq (ws2 := LW g A B x (mTh m 1) o od f fd) rfl ?_
    refine V_dstore C 2442 [(7, .double dd), (6, .int (1 : Int32)), (5, .int (nI (3 * t))), (4, .ref od), (3, .ref o), (2, .ref B.1), (1, .ref A.1), (0, .ref b)] dL_law_2440 rfl (hlt 8 (by decide)) rfl ?_
    refine V_aload_n C 5 2443 dL_law_2442 rfl rfl ?_
    refine V_callP C ml_L_175 (pre := []) (post := oW g A o od f fd x) (w := mdW g B (mTh m 1)) (as := []) (rest := []) (c_X4_thrown (v := mTh m 1) (R := Md_thrown (mTh m 1)) rfl) 0 2446 dL_law_2443 rfl ⟨Nat.le_of_ble_eq_true rfl, Nat.le_of_ble_eq_true rfl⟩ rfl rfl rfl rfl rfl (Nat.le_of_ble_eq_true rfl) ⟨by rw [hR9]; show cells + 1 ≤ 603072; omega, by rw [hR9]; show slots + 6 ≤ 7194730; omega⟩ ?_
    refine V_iload C 1 2448 dL_law_2446 rfl rfl ?_
    refine V_icmp_eq C 2453 2451 dL_law_2448 rfl rfl (fun _ => ?_) (fun e => absurd (show Md_thrown (mTh m 1) = 1 from rfl) e)
    refine V_iload C 1 2455 dL_law_2453 rfl rfl ?_
    have END : V K (cells + 1) (slots + 6) (LW g A B x (mTh m 1) o od f fd) [(7, .double dd), (6, .int (1 : Int32)), (5, .int (nI (3 * t))), (4, .ref od), (3, .ref o), (2, .ref B.1), (1, .ref A.1), (0, .ref b)] [] 2490 := by
      refine V_goto C 3101 dL_law_2490 rfl ?_
      refine V_lv [2, 3, 4, 5, 6, 7] rfl ?_
      exact V_widen (by omega) (by omega) (ke A x (mTh m 1) f fd ((h.th 1).mono (by omega)))
    exact V_if_ne C 2490 2458 dL_law_2455 rfl rfl (fun _ => END) (fun e => absurd (show (1 : Int32) = 0 from e) (by decide))
  · refine V_aload_n C 4 2429 dL_law_2428 rfl rfl ?_
    refine V_aload C 1 2431 dL_law_2429 rfl rfl ?_
    refine V_callH C hBA hE hN lh_meanWeight (pre := mdW g B m) (w0 := oW g A o od f fd x) (post := []) (as := [.ref A.1, .ref od]) (rest := []) (w_meanWeight hst h1 h2 h3 h4 h5) dL_law_2431 ⟨Nat.le_of_ble_eq_true rfl, Nat.le_of_ble_eq_true rfl⟩ rfl (by rw [List.append_nil]; try rfl) rfl (Nat.le_of_ble_eq_true rfl) ⟨by show cells + 1 ≤ 603072; omega, by show slots + 6 ≤ 7194730; omega⟩ (fun rv w1 hP => ?_)
    obtain ⟨fd1, rfl, rfl, hval⟩ := hP
    refine V_eq (ws2 := LW g A B x m o od f fd1) (by rw [List.append_nil]; try rfl) ?_
    refine V_istore C 2436 [(6, .int (0 : Int32)), (5, .int (nI (3 * t))), (4, .ref od), (3, .ref o), (2, .ref B.1), (1, .ref A.1), (0, .ref b)] dL_law_2434 rfl (hlt 6 (by decide)) rfl ?_
    refine V_aload_n C 4 2437 dL_law_2436 rfl rfl ?_
    refine V_callN (as := []) (pre := []) (w0 := mdW g B m) (post := oW g A o od f fd1 x) (rest := []) C hBA hE ml_L_328 (c_X4_meanWeight h6 h7 h3 h4 h5) 0 dL_law_2437 ⟨Nat.le_of_ble_eq_true rfl, Nat.le_of_ble_eq_true rfl⟩ rfl rfl rfl rfl (Nat.le_of_ble_eq_true rfl) ⟨by show cells + 1 ≤ 603072; omega, by show slots + 6 ≤ 7194730; omega⟩ (fun rv w1 hP => ?_)
    obtain ⟨rfl, rfl⟩ := hP
    refine V_eq (ws2 := LW g A B x (mTh m 0) o od f fd1) rfl ?_
    refine V_dstore C 2442 [(7, .double (mw k n)), (6, .int (0 : Int32)), (5, .int (nI (3 * t))), (4, .ref od), (3, .ref o), (2, .ref B.1), (1, .ref A.1), (0, .ref b)] dL_law_2440 rfl (hlt 8 (by decide)) rfl ?_
    refine V_aload_n C 5 2443 dL_law_2442 rfl rfl ?_
    refine V_callP C ml_L_175 (pre := []) (post := oW g A o od f fd1 x) (w := mdW g B (mTh m 0)) (as := []) (rest := []) (c_X4_thrown (v := mTh m 0) (R := Md_thrown (mTh m 0)) rfl) 0 2446 dL_law_2443 rfl ⟨Nat.le_of_ble_eq_true rfl, Nat.le_of_ble_eq_true rfl⟩ rfl rfl rfl rfl rfl (Nat.le_of_ble_eq_true rfl) ⟨by rw [hR9]; show cells + 1 ≤ 603072; omega, by rw [hR9]; show slots + 6 ≤ 7194730; omega⟩ ?_
    refine V_iload C 1 2448 dL_law_2446 rfl rfl ?_
    refine V_icmp_eq C 2453 2451 dL_law_2448 rfl rfl (fun _ => ?_) (fun e => absurd (show Md_thrown (mTh m 0) = 0 from rfl) e)
    refine V_iload C 1 2455 dL_law_2453 rfl rfl ?_
    have END : V K (cells + 1) (slots + 6) (LW g A B x (mTh m 0) o od f fd1) [(7, .double (mw k n)), (6, .int (0 : Int32)), (5, .int (nI (3 * t))), (4, .ref od), (3, .ref o), (2, .ref B.1), (1, .ref A.1), (0, .ref b)] [] 2490 := by
      refine V_goto C 3101 dL_law_2490 rfl ?_
      refine V_lv [2, 3, 4, 5, 6, 7] rfl ?_
      exact V_widen (by omega) (by omega) (ke A x (mTh m 0) f fd1 ((h.th 0).mono (by omega)))
    refine V_if_ne C 2490 2458 dL_law_2455 rfl rfl (fun _ => END) (fun _ => ?_)
    refine V_aload C 3 2460 dL_law_2458 rfl rfl ?_
    refine V_iconst C (0 : Int32) 2461 dL_law_2460 rfl rfl ?_
    refine V_dald C (f := fd1) (n := 1) 6 2462 dL_law_2461 rfl rfl (by decide) ?_
    refine V_dload C 0 2464 dL_law_2462 rfl rfl ?_
    refine V_st (st2 := [.double (mw k n), .double (mw k n)]) (by rw [show fd1 (cl (0 : Int32)) = mw k n from hval] <;> rfl) ?_
    refine V_dcmp C 2465 dL_law_2464 rfl (mw_ok h3 h4 h5).2 ?_
    exact V_if_eq C 2490 2468 dL_law_2465 rfl rfl (fun _ => END) (fun e => absurd rfl e)
theorem law_46 {K : KT} {g : G0} {b L o od t cells slots : Nat} {xs : Nat → Int32} {A : XA} {B : MdA} {x : XV} {m : MdV} {f : Nat → Int64} {fd : Nat → UInt64} (Lk : LK K g b L xs) (ht : 3 * t + 2 < L) (h : RX (30 * t) x m) (hr : cells + 100 ≤ 603072 ∧ slots + 10000 ≤ 7194730) (ke : LE K g b o od B t (cells + 100) (slots + 10000)) : V K cells slots (LW g A B x m o od f fd) (lvL A.1 B.1 b o od t) [] 2493 := by
  obtain ⟨C, hBA, hE, hN, hst, -, -, -, hL, h9⟩ := id Lk
  have hR9 : kR K = room_1 := C.2.2.2.2.2.2.1
  have hlt : ∀ i, i < 9 → i < kn K := fun i h => by rw [h9]; exact h
  rcases rx_heldShare h (xs (3 * t + 1)) with ⟨h0, h0a⟩ | ⟨k, ps, pe, j, ea, h1, h2, h3, h4, h5, h6, h7, h8, h9a, h9b, h9c, h9d⟩
  · refine V_aload_n C 4 2494 dL_law_2493 rfl rfl ?_
    refine V_arg Lk (t := t) (j := 1) 5 0 2500 (by omega) dL_law_2494 dL_law_2495 dL_law_2497 dL_law_2498 dL_law_2499 rfl rfl rfl rfl ?_
    refine V_aload C 1 2502 dL_law_2500 rfl rfl ?_
    refine V_callH C hBA hE hN lh_heldShare (pre := mdW g B m) (w0 := oW g A o od f fd x) (post := []) (as := [.ref A.1, .int (xs (3 * t + 1)), .ref od]) (rest := []) (w_heldShareX hst h0) dL_law_2502 ⟨Nat.le_of_ble_eq_true rfl, Nat.le_of_ble_eq_true rfl⟩ rfl (by rw [List.append_nil]; try rfl) rfl (Nat.le_of_ble_eq_true rfl) ⟨by show cells + 1 ≤ 603072; omega, by show slots + 6 ≤ 7194730; omega⟩ (fun rv w1 hP => ?_)
    obtain ⟨rfl, rfl⟩ := hP
    refine V_eq (ws2 := LW g A B x m o od f fd) (by rw [List.append_nil]; try rfl) ?_
    refine V_istore C 2507 [(6, .int (1 : Int32)), (5, .int (nI (3 * t))), (4, .ref od), (3, .ref o), (2, .ref B.1), (1, .ref A.1), (0, .ref b)] dL_law_2505 rfl (hlt 6 (by decide)) rfl ?_
    refine V_aload_n C 4 2508 dL_law_2507 rfl rfl ?_
    refine V_arg Lk (t := t) (j := 1) 6 1 2514 (by omega) dL_law_2508 dL_law_2509 dL_law_2511 dL_law_2512 dL_law_2513 rfl rfl rfl rfl ?_
    refine V_callN (as := [.int (xs (3 * t + 1))]) (pre := []) (w0 := mdW g B m) (post := oW g A o od f fd x) (rest := []) C hBA hE ml_L_332 (c_X4_heldShareX h0a) 0 dL_law_2514 ⟨Nat.le_of_ble_eq_true rfl, Nat.le_of_ble_eq_true rfl⟩ rfl rfl rfl rfl (Nat.le_of_ble_eq_true rfl) ⟨by show cells + 1 ≤ 603072; omega, by show slots + 6 ≤ 7194730; omega⟩ (fun rv w1 hP => ?_)
    obtain ⟨⟨dd, rfl⟩, rfl⟩ := hP
    refine V_eq (ws2 := LW g A B x (mTh m 1) o od f fd) rfl ?_
    refine V_fstore C 2519 [(7, .float dd), (6, .int (1 : Int32)), (5, .int (nI (3 * t))), (4, .ref od), (3, .ref o), (2, .ref B.1), (1, .ref A.1), (0, .ref b)] dL_law_2517 rfl (hlt 7 (by decide)) rfl ?_
    refine V_aload_n C 5 2520 dL_law_2519 rfl rfl ?_
    refine V_callP C ml_L_175 (pre := []) (post := oW g A o od f fd x) (w := mdW g B (mTh m 1)) (as := []) (rest := []) (c_X4_thrown (v := mTh m 1) (R := Md_thrown (mTh m 1)) rfl) 0 2523 dL_law_2520 rfl ⟨Nat.le_of_ble_eq_true rfl, Nat.le_of_ble_eq_true rfl⟩ rfl rfl rfl rfl rfl (Nat.le_of_ble_eq_true rfl) ⟨by rw [hR9]; show cells + 1 ≤ 603072; omega, by rw [hR9]; show slots + 6 ≤ 7194730; omega⟩ ?_
    refine V_iload C 1 2525 dL_law_2523 rfl rfl ?_
    refine V_icmp_eq C 2530 2528 dL_law_2525 rfl rfl (fun _ => ?_) (fun e => absurd (show Md_thrown (mTh m 1) = 1 from rfl) e)
    refine V_iload C 1 2532 dL_law_2530 rfl rfl ?_
    have END : V K (cells + 1) (slots + 6) (LW g A B x (mTh m 1) o od f fd) [(7, .float dd), (6, .int (1 : Int32)), (5, .int (nI (3 * t))), (4, .ref od), (3, .ref o), (2, .ref B.1), (1, .ref A.1), (0, .ref b)] [] 2568 := by
      refine V_goto C 3101 dL_law_2568 rfl ?_
      refine V_lv [2, 3, 4, 5, 6, 7] rfl ?_
      exact V_widen (by omega) (by omega) (ke A x (mTh m 1) f fd ((h.th 1).mono (by omega)))
    exact V_if_ne C 2568 2535 dL_law_2532 rfl rfl (fun _ => END) (fun e => absurd (show (1 : Int32) = 0 from e) (by decide))
  · refine V_aload_n C 4 2494 dL_law_2493 rfl rfl ?_
    refine V_arg Lk (t := t) (j := 1) 5 0 2500 (by omega) dL_law_2494 dL_law_2495 dL_law_2497 dL_law_2498 dL_law_2499 rfl rfl rfl rfl ?_
    refine V_st (st2 := [.int (nI k), .ref A.1]) (by rw [ea] <;> rfl) ?_
    refine V_aload C 1 2502 dL_law_2500 rfl rfl ?_
    refine V_callH C hBA hE hN lh_heldShare (pre := mdW g B m) (w0 := oW g A o od f fd x) (post := []) (as := [.ref A.1, .int (nI k), .ref od]) (rest := []) (w_heldShare hst h1 h2 h3 h4 h5 h6 h7 h8) dL_law_2502 ⟨Nat.le_of_ble_eq_true rfl, Nat.le_of_ble_eq_true rfl⟩ rfl (by rw [List.append_nil]; try rfl) rfl (Nat.le_of_ble_eq_true rfl) ⟨by show cells + 1 ≤ 603072; omega, by show slots + 6 ≤ 7194730; omega⟩ (fun rv w1 hP => ?_)
    obtain ⟨fd1, rfl, rfl, hval⟩ := hP
    refine V_eq (ws2 := LW g A B x m o od f fd1) (by rw [List.append_nil]; try rfl) ?_
    refine V_istore C 2507 [(6, .int (0 : Int32)), (5, .int (nI (3 * t))), (4, .ref od), (3, .ref o), (2, .ref B.1), (1, .ref A.1), (0, .ref b)] dL_law_2505 rfl (hlt 6 (by decide)) rfl ?_
    refine V_aload_n C 4 2508 dL_law_2507 rfl rfl ?_
    refine V_arg Lk (t := t) (j := 1) 6 1 2514 (by omega) dL_law_2508 dL_law_2509 dL_law_2511 dL_law_2512 dL_law_2513 rfl rfl rfl rfl ?_
    refine V_st (st2 := [.int (nI k), .ref B.1]) (by rw [ea] <;> rfl) ?_
    refine V_callN (as := [.int (nI k)]) (pre := []) (w0 := mdW g B m) (post := oW g A o od f fd1 x) (rest := []) C hBA hE ml_L_332 (c_X4_heldShare h9a h9b h9c h5 h6 h9d h8) 0 dL_law_2514 ⟨Nat.le_of_ble_eq_true rfl, Nat.le_of_ble_eq_true rfl⟩ rfl rfl rfl rfl (Nat.le_of_ble_eq_true rfl) ⟨by show cells + 1 ≤ 603072; omega, by show slots + 6 ≤ 7194730; omega⟩ (fun rv w1 hP => ?_)
    obtain ⟨rfl, rfl⟩ := hP
    refine V_eq (ws2 := LW g A B x (mTh m 0) o od f fd1) rfl ?_
    refine V_fstore C 2519 [(7, .float (fsh j (pe - ps + 1))), (6, .int (0 : Int32)), (5, .int (nI (3 * t))), (4, .ref od), (3, .ref o), (2, .ref B.1), (1, .ref A.1), (0, .ref b)] dL_law_2517 rfl (hlt 7 (by decide)) rfl ?_
    refine V_aload_n C 5 2520 dL_law_2519 rfl rfl ?_
    refine V_callP C ml_L_175 (pre := []) (post := oW g A o od f fd1 x) (w := mdW g B (mTh m 0)) (as := []) (rest := []) (c_X4_thrown (v := mTh m 0) (R := Md_thrown (mTh m 0)) rfl) 0 2523 dL_law_2520 rfl ⟨Nat.le_of_ble_eq_true rfl, Nat.le_of_ble_eq_true rfl⟩ rfl rfl rfl rfl rfl (Nat.le_of_ble_eq_true rfl) ⟨by rw [hR9]; show cells + 1 ≤ 603072; omega, by rw [hR9]; show slots + 6 ≤ 7194730; omega⟩ ?_
    refine V_iload C 1 2525 dL_law_2523 rfl rfl ?_
    refine V_icmp_eq C 2530 2528 dL_law_2525 rfl rfl (fun _ => ?_) (fun e => absurd (show Md_thrown (mTh m 0) = 0 from rfl) e)
    refine V_iload C 1 2532 dL_law_2530 rfl rfl ?_
    have END : V K (cells + 1) (slots + 6) (LW g A B x (mTh m 0) o od f fd1) [(7, .float (fsh j (pe - ps + 1))), (6, .int (0 : Int32)), (5, .int (nI (3 * t))), (4, .ref od), (3, .ref o), (2, .ref B.1), (1, .ref A.1), (0, .ref b)] [] 2568 := by
      refine V_goto C 3101 dL_law_2568 rfl ?_
      refine V_lv [2, 3, 4, 5, 6, 7] rfl ?_
      exact V_widen (by omega) (by omega) (ke A x (mTh m 0) f fd1 ((h.th 0).mono (by omega)))
    refine V_if_ne C 2568 2535 dL_law_2532 rfl rfl (fun _ => END) (fun _ => ?_)
    refine V_aload C 3 2537 dL_law_2535 rfl rfl ?_
    refine V_iconst C (0 : Int32) 2538 dL_law_2537 rfl rfl ?_
    refine V_dald C (f := fd1) (n := 1) 6 2539 dL_law_2538 rfl rfl (by decide) ?_
    refine V_fload C 0 2541 dL_law_2539 rfl rfl ?_
    have hf := fsh_ok (n := pe - ps + 1) h8 (by omega) (by omega)
    refine V_f2d C 2542 dL_law_2541 rfl hf.2.1 ?_
    refine V_st (st2 := [.double (FP.f2d (fsh j (pe - ps + 1))), .double (FP.f2d (fsh j (pe - ps + 1)))]) (by rw [show fd1 (cl (0 : Int32)) = FP.f2d (fsh j (pe - ps + 1)) from hval] <;> rfl) ?_
    refine V_dcmp C 2543 dL_law_2542 rfl hf.2.2 ?_
    exact V_if_eq C 2568 2546 dL_law_2543 rfl rfl (fun _ => END) (fun e => absurd rfl e)
set_option maxRecDepth 100000 in
theorem law_48 {K : KT} {g : G0} {b L o od t cells slots : Nat} {xs : Nat → Int32} {A : XA} {B : MdA} {x : XV} {m : MdV} {f : Nat → Int64} {fd : Nat → UInt64} (Lk : LK K g b L xs) (ht : 3 * t + 2 < L) (h : RX (30 * t) x m) (hr : cells + 100 ≤ 603072 ∧ slots + 10000 ≤ 7194730) (ke : LE K g b o od B t (cells + 100) (slots + 10000)) : V K cells slots (LW g A B x m o od f fd) (lvL A.1 B.1 b o od t) [] 2584 := by
  obtain ⟨C, hBA, hE, hN, hst, -, -, -, hL, h9⟩ := id Lk
  have hR9 : kR K = room_1 := C.2.2.2.2.2.2.1
  have hlt : ∀ i, i < 9 → i < kn K := fun i h => by rw [h9]; exact h
  rcases rx_writeChapter h (xs (3 * t + 1)) with ⟨hq, hm⟩ | ⟨k, ps, pe, L1, inM, m1, ea, h1, h2, h3, h4, h5, h6, h7, h8, h9, hm, hth, hRX⟩
  · refine V_aload_n C 4 2585 dL_law_2584 rfl rfl ?_
    refine V_arg Lk (t := t) (j := 1) 5 0 2591 (by omega) dL_law_2585 dL_law_2586 dL_law_2588 dL_law_2589 dL_law_2590 rfl rfl rfl rfl ?_
    refine V_aload_n C 2 2592 dL_law_2591 rfl rfl ?_
    refine V_callH C hBA hE hN lh_writeChapter (pre := mdW g B m) (w0 := oW g A o od f fd x) (post := []) (as := [.ref A.1, .int (xs (3 * t + 1)), .ref o]) (rest := []) (w_writeChapterX hst (hq x.2.2.2.2.2.2.1)) dL_law_2592 ⟨Nat.le_of_ble_eq_true rfl, Nat.le_of_ble_eq_true rfl⟩ rfl (by rw [List.append_nil]; try rfl) rfl (Nat.le_of_ble_eq_true rfl) ⟨by show cells + 1 ≤ 603072; omega, by show slots + 6 ≤ 7194730; omega⟩ (fun rv w1 hP => ?_)
    obtain ⟨rfl, rfl⟩ := hP
    refine V_eq (ws2 := LW g A B x m o od f fd) (by rw [List.append_nil]; try rfl) ?_
    refine V_istore C 2597 [(6, .int (1 : Int32)), (5, .int (nI (3 * t))), (4, .ref od), (3, .ref o), (2, .ref B.1), (1, .ref A.1), (0, .ref b)] dL_law_2595 rfl (hlt 6 (by decide)) rfl ?_
    refine V_aload_n C 4 2598 dL_law_2597 rfl rfl ?_
    refine V_arg Lk (t := t) (j := 1) 6 1 2604 (by omega) dL_law_2598 dL_law_2599 dL_law_2601 dL_law_2602 dL_law_2603 rfl rfl rfl rfl ?_
    refine V_callS C hBA ml_L_340 (pre := []) (post := oW g A o od f fd x) (w0 := mdW g B m) (w1 := mdW g B (mTh m 1)) (as := [.int (xs (3 * t + 1))]) (rest := []) (c_X4_writeChapter (R := (0, mTh m 1)) hm) 0 2607 (LW g A B x (mTh m 1) o od f fd) dL_law_2604 rfl ⟨Nat.le_of_ble_eq_true rfl, Nat.le_of_ble_eq_true rfl⟩ rfl rfl rfl rfl rfl rfl rfl (Nat.le_of_ble_eq_true rfl) ⟨by rw [hR9]; show cells + 1 ≤ 603072; omega, by rw [hR9]; show slots + 6 ≤ 7194730; omega⟩ ?_
    refine V_istore C 2609 [(7, .int (0)), (6, .int (1 : Int32)), (5, .int (nI (3 * t))), (4, .ref od), (3, .ref o), (2, .ref B.1), (1, .ref A.1), (0, .ref b)] dL_law_2607 rfl (hlt 7 (by decide)) rfl ?_
    refine V_aload_n C 5 2610 dL_law_2609 rfl rfl ?_
    refine V_callP C ml_L_175 (pre := []) (post := oW g A o od f fd x) (w := mdW g B (mTh m 1)) (as := []) (rest := []) (c_X4_thrown (v := mTh m 1) (R := Md_thrown (mTh m 1)) rfl) 0 2613 dL_law_2610 rfl ⟨Nat.le_of_ble_eq_true rfl, Nat.le_of_ble_eq_true rfl⟩ rfl rfl rfl rfl rfl (Nat.le_of_ble_eq_true rfl) ⟨by rw [hR9]; show cells + 1 ≤ 603072; omega, by rw [hR9]; show slots + 6 ≤ 7194730; omega⟩ ?_
    refine V_iload C 1 2615 dL_law_2613 rfl rfl ?_
    refine V_icmp_eq C 2620 2618 dL_law_2615 rfl rfl (fun _ => ?_) (fun e => absurd (show Md_thrown (mTh m 1) = 1 from rfl) e)
    refine V_iload C 1 2622 dL_law_2620 rfl rfl ?_
    have END : V K (cells + 1) (slots + 6) (LW g A B x (mTh m 1) o od f fd) [(7, .int (0)), (6, .int (1 : Int32)), (5, .int (nI (3 * t))), (4, .ref od), (3, .ref o), (2, .ref B.1), (1, .ref A.1), (0, .ref b)] [] 2637 := by
      refine V_goto C 3101 dL_law_2637 rfl ?_
      refine V_lv [2, 3, 4, 5, 6, 7] rfl ?_
      exact V_widen (by omega) (by omega) (ke A x (mTh m 1) f fd ((h.th 1).mono (by omega)))
    exact V_if_ne C 2637 2625 dL_law_2622 rfl rfl (fun _ => END) (fun e => absurd (show (1 : Int32) = 0 from e) (by decide))
  · obtain ⟨-, -, -, -, -, -, ho⟩ := id h
    obtain ⟨T, -, t2, -, -⟩ := ho.text
    refine V_aload_n C 4 2585 dL_law_2584 rfl rfl ?_
    refine V_arg Lk (t := t) (j := 1) 5 0 2591 (by omega) dL_law_2585 dL_law_2586 dL_law_2588 dL_law_2589 dL_law_2590 rfl rfl rfl rfl ?_
    refine V_st (st2 := [.int (nI k), .ref A.1]) (by rw [ea] <;> rfl) ?_
    refine V_aload_n C 2 2592 dL_law_2591 rfl rfl ?_
    refine V_callH C hBA hE hN lh_writeChapter (pre := mdW g B m) (w0 := oW g (aS A A.2.2.2.2.2.2.1.2) o od f fd (xS x x.2.2.2.2.2.2.1)) (post := []) (as := [.ref A.1, .int (nI k), .ref o]) (rest := []) (w_writeChapter hst h1 h2 (h9 _) h3 h4 h5 h6 h7 h8 t2) dL_law_2592 ⟨Nat.le_of_ble_eq_true rfl, Nat.le_of_ble_eq_true rfl⟩ rfl (by rw [List.append_nil]; try rfl) rfl (Nat.le_of_ble_eq_true rfl) ⟨by show cells + 64 ≤ 603072; omega, by show slots + 9088 ≤ 7194730; omega⟩ (fun rv w1 hP => ?_)
    obtain ⟨f1, q2, sb2, rfl, rfl, hval, hT2⟩ := hP
    refine V_eq (ws2 := LW g (aS A q2) B (xS x sb2) m o od f1 fd) (by rw [List.append_nil]; try rfl) ?_
    refine V_istore C 2597 [(6, .int (0 : Int32)), (5, .int (nI (3 * t))), (4, .ref od), (3, .ref o), (2, .ref B.1), (1, .ref A.1), (0, .ref b)] dL_law_2595 rfl (hlt 6 (by decide)) rfl ?_
    refine V_aload_n C 4 2598 dL_law_2597 rfl rfl ?_
    refine V_arg Lk (t := t) (j := 1) 6 1 2604 (by omega) dL_law_2598 dL_law_2599 dL_law_2601 dL_law_2602 dL_law_2603 rfl rfl rfl rfl ?_
    refine V_callS C hBA ml_L_340 (pre := []) (post := oW g (aS A q2) o od f1 fd (xS x sb2)) (w0 := mdW g B m) (w1 := mdW g B (m1)) (as := [.int (xs (3 * t + 1))]) (rest := []) (c_X4_writeChapter (R := (nI (L1.foldl (markT inM) ([] ++ digs ps ++ [45] ++ digs pe)).length, m1)) hm) 0 2607 (LW g (aS A q2) B (xS x sb2) m1 o od f1 fd) dL_law_2604 rfl ⟨Nat.le_of_ble_eq_true rfl, Nat.le_of_ble_eq_true rfl⟩ rfl rfl rfl rfl rfl rfl rfl (Nat.le_of_ble_eq_true rfl) ⟨by rw [hR9]; show cells + 64 ≤ 603072; omega, by rw [hR9]; show slots + 9088 ≤ 7194730; omega⟩ ?_
    refine V_istore C 2609 [(7, .int (nI (L1.foldl (markT inM) ([] ++ digs ps ++ [45] ++ digs pe)).length)), (6, .int (0 : Int32)), (5, .int (nI (3 * t))), (4, .ref od), (3, .ref o), (2, .ref B.1), (1, .ref A.1), (0, .ref b)] dL_law_2607 rfl (hlt 7 (by decide)) rfl ?_
    refine V_aload_n C 5 2610 dL_law_2609 rfl rfl ?_
    refine V_callP C ml_L_175 (pre := []) (post := oW g (aS A q2) o od f1 fd (xS x sb2)) (w := mdW g B (m1)) (as := []) (rest := []) (c_X4_thrown (v := m1) (R := Md_thrown (m1)) rfl) 0 2613 dL_law_2610 rfl ⟨Nat.le_of_ble_eq_true rfl, Nat.le_of_ble_eq_true rfl⟩ rfl rfl rfl rfl rfl (Nat.le_of_ble_eq_true rfl) ⟨by rw [hR9]; show cells + 64 ≤ 603072; omega, by rw [hR9]; show slots + 9088 ≤ 7194730; omega⟩ ?_
    refine V_iload C 1 2615 dL_law_2613 rfl rfl ?_
    refine V_icmp_eq C 2620 2618 dL_law_2615 rfl rfl (fun _ => ?_) (fun e => absurd (show Md_thrown (m1) = 0 from hth) e)
    refine V_iload C 1 2622 dL_law_2620 rfl rfl ?_
    have END : V K (cells + 64) (slots + 9088) (LW g (aS A q2) B (xS x sb2) m1 o od f1 fd) [(7, .int (nI (L1.foldl (markT inM) ([] ++ digs ps ++ [45] ++ digs pe)).length)), (6, .int (0 : Int32)), (5, .int (nI (3 * t))), (4, .ref od), (3, .ref o), (2, .ref B.1), (1, .ref A.1), (0, .ref b)] [] 2637 := by
      refine V_goto C 3101 dL_law_2637 rfl ?_
      refine V_lv [2, 3, 4, 5, 6, 7] rfl ?_
      exact V_widen (by omega) (by omega) (ke (aS A q2) (xS x sb2) m1 f1 fd ((hRX sb2 hT2).mono (by omega)))
    refine V_if_ne C 2637 2625 dL_law_2622 rfl rfl (fun _ => END) (fun _ => ?_)
    refine V_aload_n C 4 2626 dL_law_2625 rfl rfl ?_
    refine V_iconst C (0 : Int32) 2627 dL_law_2626 rfl rfl ?_
    refine V_lald C (f := f1) (n := 1) 5 2628 dL_law_2627 rfl rfl (by decide) ?_
    refine V_iload C 0 2630 dL_law_2628 rfl rfl ?_
    refine V_i2l C 2631 dL_law_2630 rfl ?_
    refine V_st (st2 := [.long (nI (L1.foldl (markT inM) ([] ++ digs ps ++ [45] ++ digs pe)).length).toInt64, .long (nI (L1.foldl (markT inM) ([] ++ digs ps ++ [45] ++ digs pe)).length).toInt64]) (by rw [show f1 (cl (0 : Int32)) = (nI (L1.foldl (markT inM) ([] ++ digs ps ++ [45] ++ digs pe)).length).toInt64 from hval] <;> rfl) ?_
    refine V_lcmpE C 2632 dL_law_2631 rfl ?_
    exact V_if_eq C 2637 2635 dL_law_2632 rfl rfl (fun _ => END) (fun e => absurd rfl e)
theorem law_49 {K : KT} {g : G0} {b L o od t cells slots : Nat} {xs : Nat → Int32} {A : XA} {B : MdA} {x : XV} {m : MdV} {f : Nat → Int64} {fd : Nat → UInt64} (Lk : LK K g b L xs) (ht : 3 * t + 2 < L) (h : RX (30 * t) x m) (hr : cells + 100 ≤ 603072 ∧ slots + 10000 ≤ 7194730) (ke : LE K g b o od B t (cells + 100) (slots + 10000)) : V K cells slots (LW g A B x m o od f fd) (lvL A.1 B.1 b o od t) [] 2640 := by
  obtain ⟨C, hBA, hE, hN, hst, -, -, -, hL, h9⟩ := id Lk
  have hR9 : kR K = room_1 := C.2.2.2.2.2.2.1
  have hlt : ∀ i, i < 9 → i < kn K := fun i h => by rw [h9]; exact h
  obtain ⟨u, L1, m1, h1, h2, h3, hm, hth, hRX⟩ := rx_writeSeats h
  obtain ⟨-, -, -, -, -, -, ho⟩ := id h
  obtain ⟨T, -, t2, -, -⟩ := ho.text
  refine V_aload_n C 4 2641 dL_law_2640 rfl rfl ?_
  refine V_callN (as := []) (pre := mdW g B m ++ [(o, aL g 1 f), (od, aD g 1 fd)]) (w0 := xW g (aS A A.2.2.2.2.2.2.1.2) (xS x x.2.2.2.2.2.2.1)) (post := []) (rest := []) C hBA hE ml_L_341 (c_wrSeats h1 h2 h3 t2) 7 dL_law_2641 ⟨Nat.le_of_ble_eq_true rfl, Nat.le_of_ble_eq_true rfl⟩ rfl (by rw [List.append_nil]; rfl) rfl rfl (Nat.le_of_ble_eq_true rfl) ⟨by show cells + 11 ≤ 603072; omega, by show slots + 1562 ≤ 7194730; omega⟩ (fun rv w1 hP => ?_)
  obtain ⟨rfl, q2, sb2, rfl, hT2⟩ := hP
  refine V_eq (ws2 := LW g (aS A q2) B (xS x sb2) m o od f fd) (by rw [List.append_nil]; rfl) ?_
  refine V_aload_n C 3 2645 dL_law_2644 rfl rfl ?_
  refine V_callS C hBA ml_L_344 (pre := []) (post := oW g (aS A q2) o od f fd (xS x sb2)) (w0 := mdW g B m) (w1 := mdW g B m1) (as := []) (rest := [.int (nI (seatsT u 5).length)]) (c_X4_writeSeats (R := (nI (seatsT u 5).length, m1)) hm) 0 2648 (LW g (aS A q2) B (xS x sb2) m1 o od f fd) dL_law_2645 rfl ⟨Nat.le_of_ble_eq_true rfl, Nat.le_of_ble_eq_true rfl⟩ rfl rfl rfl rfl rfl rfl rfl (Nat.le_of_ble_eq_true rfl) ⟨by rw [hR9]; show cells + 11 ≤ 603072; omega, by rw [hR9]; show slots + 1562 ≤ 7194730; omega⟩ ?_
  refine V_icmp_eq C 3101 2651 dL_law_2648 rfl rfl (fun _ => ?_) (fun e => absurd rfl e)
  exact V_widen (by omega) (by omega) (ke (aS A q2) (xS x sb2) m1 f fd ((hRX sb2 hT2).mono (by omega)))
theorem law_50 {K : KT} {g : G0} {b L o od t cells slots : Nat} {xs : Nat → Int32} {A : XA} {B : MdA} {x : XV} {m : MdV} {f : Nat → Int64} {fd : Nat → UInt64} (Lk : LK K g b L xs) (ht : 3 * t + 2 < L) (h : RX (30 * t) x m) (hr : cells + 100 ≤ 603072 ∧ slots + 10000 ≤ 7194730) (ke : LE K g b o od B t (cells + 100) (slots + 10000)) : V K cells slots (LW g A B x m o od f fd) (lvL A.1 B.1 b o od t) [] 2653 := by
  obtain ⟨C, hBA, hE, hN, hst, -, -, -, hL, h9⟩ := id Lk
  have hR9 : kR K = room_1 := C.2.2.2.2.2.2.1
  have hlt : ∀ i, i < 9 → i < kn K := fun i h => by rw [h9]; exact h
  obtain ⟨T, t2, t3, hh⟩ := rx_outputAt h (xs (3 * t + 1))
  rcases hh with ⟨i, c, ea, hi, hc, hm⟩ | ⟨hb, hm⟩
  · refine V_aload_n C 4 2654 dL_law_2653 rfl rfl ?_
    refine V_arg Lk (t := t) (j := 1) 5 0 2660 (by omega) dL_law_2654 dL_law_2655 dL_law_2657 dL_law_2658 dL_law_2659 rfl rfl rfl rfl ?_
    refine V_st (st2 := [.int (nI i), .ref A.1]) (by rw [ea] <;> rfl) ?_
    refine V_aload_n C 2 2661 dL_law_2660 rfl rfl ?_
    refine V_callH C hBA hE hN lh_outputAt (pre := mdW g B m) (w0 := oW g (aS A A.2.2.2.2.2.2.1.2) o od f fd (xS x x.2.2.2.2.2.2.1)) (post := []) (as := [.ref A.1, .int (nI i), .ref o]) (rest := []) (w_outputAt t2 hi hc (by omega)) dL_law_2661 ⟨Nat.le_of_ble_eq_true rfl, Nat.le_of_ble_eq_true rfl⟩ rfl (by rw [List.append_nil]; try rfl) rfl (Nat.le_of_ble_eq_true rfl) ⟨by show cells + 1 ≤ 603072; omega, by show slots + 6 ≤ 7194730; omega⟩ (fun rv w1 hP => ?_)
    obtain ⟨f1, rfl, rfl, hval⟩ := hP
    refine V_eq (ws2 := LW g A B x m o od f1 fd) (by rw [List.append_nil]; try rfl) ?_
    refine V_istore C 2666 [(6, .int (0 : Int32)), (5, .int (nI (3 * t))), (4, .ref od), (3, .ref o), (2, .ref B.1), (1, .ref A.1), (0, .ref b)] dL_law_2664 rfl (hlt 6 (by decide)) rfl ?_
    refine V_aload_n C 4 2667 dL_law_2666 rfl rfl ?_
    refine V_arg Lk (t := t) (j := 1) 6 1 2673 (by omega) dL_law_2667 dL_law_2668 dL_law_2670 dL_law_2671 dL_law_2672 rfl rfl rfl rfl ?_
    refine V_callS C hBA ml_L_347 (pre := []) (post := oW g A o od f1 fd x) (w0 := mdW g B m) (w1 := mdW g B (mTh m 0)) (as := [.int (xs (3 * t + 1))]) (rest := []) (c_X4_outputAt (R := (nI c, mTh m 0)) hm) 0 2676 (LW g A B x (mTh m 0) o od f1 fd) dL_law_2673 rfl ⟨Nat.le_of_ble_eq_true rfl, Nat.le_of_ble_eq_true rfl⟩ rfl rfl rfl rfl rfl rfl rfl (Nat.le_of_ble_eq_true rfl) ⟨by rw [hR9]; show cells + 1 ≤ 603072; omega, by rw [hR9]; show slots + 6 ≤ 7194730; omega⟩ ?_
    refine V_istore C 2678 [(7, .int (nI c)), (6, .int (0 : Int32)), (5, .int (nI (3 * t))), (4, .ref od), (3, .ref o), (2, .ref B.1), (1, .ref A.1), (0, .ref b)] dL_law_2676 rfl (hlt 7 (by decide)) rfl ?_
    refine V_aload_n C 5 2679 dL_law_2678 rfl rfl ?_
    refine V_callP C ml_L_175 (pre := []) (post := oW g A o od f1 fd x) (w := mdW g B (mTh m 0)) (as := []) (rest := []) (c_X4_thrown (v := mTh m 0) (R := Md_thrown (mTh m 0)) rfl) 0 2682 dL_law_2679 rfl ⟨Nat.le_of_ble_eq_true rfl, Nat.le_of_ble_eq_true rfl⟩ rfl rfl rfl rfl rfl (Nat.le_of_ble_eq_true rfl) ⟨by rw [hR9]; show cells + 1 ≤ 603072; omega, by rw [hR9]; show slots + 6 ≤ 7194730; omega⟩ ?_
    refine V_iload C 1 2684 dL_law_2682 rfl rfl ?_
    refine V_icmp_eq C 2689 2687 dL_law_2684 rfl rfl (fun _ => ?_) (fun e => absurd (show Md_thrown (mTh m 0) = 0 from rfl) e)
    refine V_iload C 1 2691 dL_law_2689 rfl rfl ?_
    have END : V K (cells + 1) (slots + 6) (LW g A B x (mTh m 0) o od f1 fd) [(7, .int (nI c)), (6, .int (0 : Int32)), (5, .int (nI (3 * t))), (4, .ref od), (3, .ref o), (2, .ref B.1), (1, .ref A.1), (0, .ref b)] [] 2706 := by
      refine V_goto C 3101 dL_law_2706 rfl ?_
      refine V_lv [2, 3, 4, 5, 6, 7] rfl ?_
      exact V_widen (by omega) (by omega) (ke A x (mTh m 0) f1 fd ((h.th 0).mono (by omega)))
    refine V_if_ne C 2706 2694 dL_law_2691 rfl rfl (fun _ => END) (fun _ => ?_)
    refine V_aload_n C 4 2695 dL_law_2694 rfl rfl ?_
    refine V_iconst C (0 : Int32) 2696 dL_law_2695 rfl rfl ?_
    refine V_lald C (f := f1) (n := 1) 5 2697 dL_law_2696 rfl rfl (by decide) ?_
    refine V_iload C 0 2699 dL_law_2697 rfl rfl ?_
    refine V_i2l C 2700 dL_law_2699 rfl ?_
    refine V_st (st2 := [.long (nI c).toInt64, .long (nI c).toInt64]) (by rw [show f1 (cl (0 : Int32)) = (nI c).toInt64 from hval] <;> rfl) ?_
    refine V_lcmpE C 2701 dL_law_2700 rfl ?_
    exact V_if_eq C 2706 2704 dL_law_2701 rfl rfl (fun _ => END) (fun e => absurd rfl e)
  · refine V_aload_n C 4 2654 dL_law_2653 rfl rfl ?_
    refine V_arg Lk (t := t) (j := 1) 5 0 2660 (by omega) dL_law_2654 dL_law_2655 dL_law_2657 dL_law_2658 dL_law_2659 rfl rfl rfl rfl ?_
    refine V_aload_n C 2 2661 dL_law_2660 rfl rfl ?_
    refine V_callH C hBA hE hN lh_outputAt (pre := mdW g B m) (w0 := oW g (aS A A.2.2.2.2.2.2.1.2) o od f fd (xS x x.2.2.2.2.2.2.1)) (post := []) (as := [.ref A.1, .int (xs (3 * t + 1)), .ref o]) (rest := []) (w_outputAtX hst t2 hb) dL_law_2661 ⟨Nat.le_of_ble_eq_true rfl, Nat.le_of_ble_eq_true rfl⟩ rfl (by rw [List.append_nil]; try rfl) rfl (Nat.le_of_ble_eq_true rfl) ⟨by show cells + 1 ≤ 603072; omega, by show slots + 6 ≤ 7194730; omega⟩ (fun rv w1 hP => ?_)
    obtain ⟨rfl, rfl⟩ := hP
    refine V_eq (ws2 := LW g A B x m o od f fd) (by rw [List.append_nil]; try rfl) ?_
    refine V_istore C 2666 [(6, .int (1 : Int32)), (5, .int (nI (3 * t))), (4, .ref od), (3, .ref o), (2, .ref B.1), (1, .ref A.1), (0, .ref b)] dL_law_2664 rfl (hlt 6 (by decide)) rfl ?_
    refine V_aload_n C 4 2667 dL_law_2666 rfl rfl ?_
    refine V_arg Lk (t := t) (j := 1) 6 1 2673 (by omega) dL_law_2667 dL_law_2668 dL_law_2670 dL_law_2671 dL_law_2672 rfl rfl rfl rfl ?_
    refine V_callS C hBA ml_L_347 (pre := []) (post := oW g A o od f fd x) (w0 := mdW g B m) (w1 := mdW g B (mTh m 1)) (as := [.int (xs (3 * t + 1))]) (rest := []) (c_X4_outputAt (R := (0, mTh m 1)) hm) 0 2676 (LW g A B x (mTh m 1) o od f fd) dL_law_2673 rfl ⟨Nat.le_of_ble_eq_true rfl, Nat.le_of_ble_eq_true rfl⟩ rfl rfl rfl rfl rfl rfl rfl (Nat.le_of_ble_eq_true rfl) ⟨by rw [hR9]; show cells + 1 ≤ 603072; omega, by rw [hR9]; show slots + 6 ≤ 7194730; omega⟩ ?_
    refine V_istore C 2678 [(7, .int (0)), (6, .int (1 : Int32)), (5, .int (nI (3 * t))), (4, .ref od), (3, .ref o), (2, .ref B.1), (1, .ref A.1), (0, .ref b)] dL_law_2676 rfl (hlt 7 (by decide)) rfl ?_
    refine V_aload_n C 5 2679 dL_law_2678 rfl rfl ?_
    refine V_callP C ml_L_175 (pre := []) (post := oW g A o od f fd x) (w := mdW g B (mTh m 1)) (as := []) (rest := []) (c_X4_thrown (v := mTh m 1) (R := Md_thrown (mTh m 1)) rfl) 0 2682 dL_law_2679 rfl ⟨Nat.le_of_ble_eq_true rfl, Nat.le_of_ble_eq_true rfl⟩ rfl rfl rfl rfl rfl (Nat.le_of_ble_eq_true rfl) ⟨by rw [hR9]; show cells + 1 ≤ 603072; omega, by rw [hR9]; show slots + 6 ≤ 7194730; omega⟩ ?_
    refine V_iload C 1 2684 dL_law_2682 rfl rfl ?_
    refine V_icmp_eq C 2689 2687 dL_law_2684 rfl rfl (fun _ => ?_) (fun e => absurd (show Md_thrown (mTh m 1) = 1 from rfl) e)
    refine V_iload C 1 2691 dL_law_2689 rfl rfl ?_
    have END : V K (cells + 1) (slots + 6) (LW g A B x (mTh m 1) o od f fd) [(7, .int (0)), (6, .int (1 : Int32)), (5, .int (nI (3 * t))), (4, .ref od), (3, .ref o), (2, .ref B.1), (1, .ref A.1), (0, .ref b)] [] 2706 := by
      refine V_goto C 3101 dL_law_2706 rfl ?_
      refine V_lv [2, 3, 4, 5, 6, 7] rfl ?_
      exact V_widen (by omega) (by omega) (ke A x (mTh m 1) f fd ((h.th 1).mono (by omega)))
    exact V_if_ne C 2706 2694 dL_law_2691 rfl rfl (fun _ => END) (fun e => absurd (show (1 : Int32) = 0 from e) (by decide))
