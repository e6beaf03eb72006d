/-! ===== cases of the law ===== -/
theorem law_42 {K : KT} {g : G0} {b L o od t cells slots : Nat} {xs : Nat → Int32} {A : XA} {B : MdA} {x : XV} {m : MdV} {f : Nat → Int64} {fd : Nat → UInt64} (Lk : LK K g b L xs) (ht : 3 * t + 2 < L) (h : RX (30 * t) x m) (hr : cells + 100 ≤ 603072 ∧ slots + 10000 ≤ 7194730) (ke : LE K g b o od B t (cells + 100) (slots + 10000)) : V K cells slots (LW g A B x m o od f fd) (lvL A.1 B.1 b o od t) [] 2389 := by
  obtain ⟨C, hBA, hE, hN, hst, -, -, -, hL, h9⟩ := id Lk
  have hR9 : kR K = room_1 := C.2.2.2.2.2.2.1
  have hlt : ∀ i, i < 9 → i < kn K := fun i h => by rw [h9]; exact h
  obtain ⟨r, m1, hx, hm, hRX⟩ := ag_votesHeld h
  refine V_aload_n C 4 2390 dL_law_2389 rfl rfl ?_
  refine V_callP C ml_L_313 (pre := mdW g B m ++ [(o, aL g 1 f), (od, aD g 1 fd)]) (post := []) (w := xW g A x) (as := []) (rest := []) (c_X3_votesHeld hx) 7 2393 dL_law_2390 rfl ⟨Nat.le_of_ble_eq_true rfl, Nat.le_of_ble_eq_true rfl⟩ rfl (by rw [List.append_nil]; rfl) rfl rfl rfl (Nat.le_of_ble_eq_true rfl) ⟨by rw [hR9]; show cells + 0 ≤ 603072; omega, by rw [hR9]; show slots + 0 ≤ 7194730; omega⟩ ?_
  refine V_aload_n C 3 2394 dL_law_2393 rfl rfl ?_
  refine V_callS C hBA ml_L_316 (pre := []) (post := oW g A o od f fd x) (w0 := mdW g B m) (w1 := mdW g B m1) (as := []) (rest := [.int r]) (c_X4_votesHeld (R := (r, m1)) hm) 0 2397 (LW g A B x m1 o od f fd) dL_law_2394 rfl ⟨Nat.le_of_ble_eq_true rfl, Nat.le_of_ble_eq_true rfl⟩ rfl rfl rfl rfl rfl rfl rfl (Nat.le_of_ble_eq_true rfl) ⟨by rw [hR9]; show cells + 0 ≤ 603072; omega, by rw [hR9]; show slots + 0 ≤ 7194730; omega⟩ ?_
  refine V_icmp_eq C 3101 2400 dL_law_2397 rfl rfl (fun _ => ?_) (fun e => absurd rfl e)
  exact V_widen (by omega) (by omega) (ke A x m1 f fd (hRX.mono (by omega)))
theorem law_43 {K : KT} {g : G0} {b L o od t cells slots : Nat} {xs : Nat → Int32} {A : XA} {B : MdA} {x : XV} {m : MdV} {f : Nat → Int64} {fd : Nat → UInt64} (Lk : LK K g b L xs) (ht : 3 * t + 2 < L) (h : RX (30 * t) x m) (hr : cells + 100 ≤ 603072 ∧ slots + 10000 ≤ 7194730) (ke : LE K g b o od B t (cells + 100) (slots + 10000)) : V K cells slots (LW g A B x m o od f fd) (lvL A.1 B.1 b o od t) [] 2402 := by
  obtain ⟨C, hBA, hE, hN, hst, -, -, -, hL, h9⟩ := id Lk
  have hR9 : kR K = room_1 := C.2.2.2.2.2.2.1
  have hlt : ∀ i, i < 9 → i < kn K := fun i h => by rw [h9]; exact h
  obtain ⟨r, m1, hx, hm, hRX⟩ := ag_motionsCarried h
  refine V_aload_n C 4 2403 dL_law_2402 rfl rfl ?_
  refine V_callP C ml_L_317 (pre := mdW g B m ++ [(o, aL g 1 f), (od, aD g 1 fd)]) (post := []) (w := xW g A x) (as := []) (rest := []) (c_X3_motionsCarried hx) 7 2406 dL_law_2403 rfl ⟨Nat.le_of_ble_eq_true rfl, Nat.le_of_ble_eq_true rfl⟩ rfl (by rw [List.append_nil]; rfl) rfl rfl rfl (Nat.le_of_ble_eq_true rfl) ⟨by rw [hR9]; show cells + 0 ≤ 603072; omega, by rw [hR9]; show slots + 0 ≤ 7194730; omega⟩ ?_
  refine V_aload_n C 3 2407 dL_law_2406 rfl rfl ?_
  refine V_callS C hBA ml_L_320 (pre := []) (post := oW g A o od f fd x) (w0 := mdW g B m) (w1 := mdW g B m1) (as := []) (rest := [.int r]) (c_X4_motionsCarried (R := (r, m1)) hm) 0 2410 (LW g A B x m1 o od f fd) dL_law_2407 rfl ⟨Nat.le_of_ble_eq_true rfl, Nat.le_of_ble_eq_true rfl⟩ rfl rfl rfl rfl rfl rfl rfl (Nat.le_of_ble_eq_true rfl) ⟨by rw [hR9]; show cells + 0 ≤ 603072; omega, by rw [hR9]; show slots + 0 ≤ 7194730; omega⟩ ?_
  refine V_icmp_eq C 3101 2413 dL_law_2410 rfl rfl (fun _ => ?_) (fun e => absurd rfl e)
  exact V_widen (by omega) (by omega) (ke A x m1 f fd (hRX.mono (by omega)))
theorem law_44 {K : KT} {g : G0} {b L o od t cells slots : Nat} {xs : Nat → Int32} {A : XA} {B : MdA} {x : XV} {m : MdV} {f : Nat → Int64} {fd : Nat → UInt64} (Lk : LK K g b L xs) (ht : 3 * t + 2 < L) (h : RX (30 * t) x m) (hr : cells + 100 ≤ 603072 ∧ slots + 10000 ≤ 7194730) (ke : LE K g b o od B t (cells + 100) (slots + 10000)) : V K cells slots (LW g A B x m o od f fd) (lvL A.1 B.1 b o od t) [] 2415 := by
  obtain ⟨C, hBA, hE, hN, hst, -, -, -, hL, h9⟩ := id Lk
  have hR9 : kR K = room_1 := C.2.2.2.2.2.2.1
  have hlt : ∀ i, i < 9 → i < kn K := fun i h => by rw [h9]; exact h
  obtain ⟨r, m1, hx, hm, hRX⟩ := ag_fallenEars h
  refine V_aload_n C 4 2416 dL_law_2415 rfl rfl ?_
  refine V_callP C ml_L_321 (pre := mdW g B m ++ [(o, aL g 1 f), (od, aD g 1 fd)]) (post := []) (w := xW g A x) (as := []) (rest := []) (c_X3_fallenEars hx) 7 2419 dL_law_2416 rfl ⟨Nat.le_of_ble_eq_true rfl, Nat.le_of_ble_eq_true rfl⟩ rfl (by rw [List.append_nil]; rfl) rfl rfl rfl (Nat.le_of_ble_eq_true rfl) ⟨by rw [hR9]; show cells + 0 ≤ 603072; omega, by rw [hR9]; show slots + 0 ≤ 7194730; omega⟩ ?_
  refine V_aload_n C 3 2420 dL_law_2419 rfl rfl ?_
  refine V_callS C hBA ml_L_324 (pre := []) (post := oW g A o od f fd x) (w0 := mdW g B m) (w1 := mdW g B m1) (as := []) (rest := [.int r]) (c_X4_fallenEars (R := (r, m1)) hm) 0 2423 (LW g A B x m1 o od f fd) dL_law_2420 rfl ⟨Nat.le_of_ble_eq_true rfl, Nat.le_of_ble_eq_true rfl⟩ rfl rfl rfl rfl rfl rfl rfl (Nat.le_of_ble_eq_true rfl) ⟨by rw [hR9]; show cells + 0 ≤ 603072; omega, by rw [hR9]; show slots + 0 ≤ 7194730; omega⟩ ?_
  refine V_icmp_eq C 3101 2426 dL_law_2423 rfl rfl (fun _ => ?_) (fun e => absurd rfl e)
  exact V_widen (by omega) (by omega) (ke A x m1 f fd (hRX.mono (by omega)))
theorem law_47 {K : KT} {g : G0} {b L o od t cells slots : Nat} {xs : Nat → Int32} {A : XA} {B : MdA} {x : XV} {m : MdV} {f : Nat → Int64} {fd : Nat → UInt64} (Lk : LK K g b L xs) (ht : 3 * t + 2 < L) (h : RX (30 * t) x m) (hr : cells + 100 ≤ 603072 ∧ slots + 10000 ≤ 7194730) (ke : LE K g b o od B t (cells + 100) (slots + 10000)) : V K cells slots (LW g A B x m o od f fd) (lvL A.1 B.1 b o od t) [] 2571 := by
  obtain ⟨C, hBA, hE, hN, hst, -, -, -, hL, h9⟩ := id Lk
  have hR9 : kR K = room_1 := C.2.2.2.2.2.2.1
  have hlt : ∀ i, i < 9 → i < kn K := fun i h => by rw [h9]; exact h
  obtain ⟨r, m1, hx, hm, hRX⟩ := ag_isConsistent h
  refine V_aload_n C 4 2572 dL_law_2571 rfl rfl ?_
  refine V_callP C ml_L_333 (pre := mdW g B m ++ [(o, aL g 1 f), (od, aD g 1 fd)]) (post := []) (w := xW g A x) (as := []) (rest := []) (c_X3_isConsistent hx) 7 2575 dL_law_2572 rfl ⟨Nat.le_of_ble_eq_true rfl, Nat.le_of_ble_eq_true rfl⟩ rfl (by rw [List.append_nil]; rfl) rfl rfl rfl (Nat.le_of_ble_eq_true rfl) ⟨by rw [hR9]; show cells + 0 ≤ 603072; omega, by rw [hR9]; show slots + 0 ≤ 7194730; omega⟩ ?_
  refine V_aload_n C 3 2576 dL_law_2575 rfl rfl ?_
  refine V_callS C hBA ml_L_337 (pre := []) (post := oW g A o od f fd x) (w0 := mdW g B m) (w1 := mdW g B m1) (as := []) (rest := [.int r]) (c_X4_isConsistent (R := (r, m1)) hm) 0 2579 (LW g A B x m1 o od f fd) dL_law_2576 rfl ⟨Nat.le_of_ble_eq_true rfl, Nat.le_of_ble_eq_true rfl⟩ rfl rfl rfl rfl rfl rfl rfl (Nat.le_of_ble_eq_true rfl) ⟨by rw [hR9]; show cells + 0 ≤ 603072; omega, by rw [hR9]; show slots + 0 ≤ 7194730; omega⟩ ?_
  refine V_icmp_eq C 3101 2582 dL_law_2579 rfl rfl (fun _ => ?_) (fun e => absurd rfl e)
  exact V_widen (by omega) (by omega) (ke A x m1 f fd (hRX.mono (by omega)))
theorem law_51 {K : KT} {g : G0} {b L o od t cells slots : Nat} {xs : Nat → Int32} {A : XA} {B : MdA} {x : XV} {m : MdV} {f : Nat → Int64} {fd : Nat → UInt64} (Lk : LK K g b L xs) (ht : 3 * t + 2 < L) (h : RX (30 * t) x m) (hr : cells + 100 ≤ 603072 ∧ slots + 10000 ≤ 7194730) (ke : LE K g b o od B t (cells + 100) (slots + 10000)) : V K cells slots (LW g A B x m o od f fd) (lvL A.1 B.1 b o od t) [] 2709 := by
  obtain ⟨C, hBA, hE, hN, hst, -, -, -, hL, h9⟩ := id Lk
  have hR9 : kR K = room_1 := C.2.2.2.2.2.2.1
  have hlt : ∀ i, i < 9 → i < kn K := fun i h => by rw [h9]; exact h
  obtain ⟨R, r, m1, hx, hm, hok, hout⟩ := Ag.wI (ag_appendInput h (((xs (3 * t + 1)).toUInt32 % 65536).toInt32)) (by decide +kernel) (by decide)
  refine V_aload_n C 4 2710 dL_law_2709 rfl rfl ?_
  refine V_arg Lk (t := t) (j := 1) 5 0 2716 (by omega) dL_law_2710 dL_law_2711 dL_law_2713 dL_law_2714 dL_law_2715 rfl rfl rfl rfl ?_
  refine V_i2c C 2717 dL_law_2716 rfl ?_
  refine V_aload_n C 2 2718 dL_law_2717 rfl rfl ?_
  refine V_callH C hBA hE hN lh_appendInput (pre := mdW g B m) (w0 := oW g A o od f fd x) (post := []) (as := [.ref A.1, .int (((xs (3 * t + 1)).toUInt32 % 65536).toInt32), .ref o]) (rest := []) (w_appendInput hst hx hok) dL_law_2718 ⟨Nat.le_of_ble_eq_true rfl, Nat.le_of_ble_eq_true rfl⟩ rfl (by rw [List.append_nil]) rfl (Nat.le_of_ble_eq_true rfl) ⟨by show cells + 1 ≤ 603072; omega, by show slots + 6 ≤ 7194730; omega⟩ (fun rv w1 hP => ?_)
  obtain ⟨kv, f1, x1, rfl, rfl, hth, hval, hRX⟩ := hout _ _ _ _ _ _ _ hP
  refine V_eq (ws2 := LW g A B x1 m o od f1 fd) (by rw [List.append_nil]) ?_
  refine V_istore C 2723 [(6, .int kv), (5, .int (nI (3 * t))), (4, .ref od), (3, .ref o), (2, .ref B.1), (1, .ref A.1), (0, .ref b)] dL_law_2721 rfl (hlt 6 (by decide)) rfl ?_
  refine V_aload_n C 4 2724 dL_law_2723 rfl rfl ?_
  refine V_arg Lk (t := t) (j := 1) 6 1 2730 (by omega) dL_law_2724 dL_law_2725 dL_law_2727 dL_law_2728 dL_law_2729 rfl rfl rfl rfl ?_
  refine V_i2c C 2731 dL_law_2730 rfl ?_
  refine V_callS C hBA ml_L_351 (pre := []) (post := oW g A o od f1 fd x1) (w0 := mdW g B m) (w1 := mdW g B m1) (as := [.int (((xs (3 * t + 1)).toUInt32 % 65536).toInt32)]) (rest := []) (c_X4_appendInput (R := (r, m1)) hm) 0 2734 (LW g A B x1 m1 o od f1 fd) dL_law_2731 rfl ⟨Nat.le_of_ble_eq_true rfl, Nat.le_of_ble_eq_true rfl⟩ rfl rfl rfl rfl rfl rfl rfl (Nat.le_of_ble_eq_true rfl) ⟨by rw [hR9]; show cells + 1 ≤ 603072; omega, by rw [hR9]; show slots + 6 ≤ 7194730; omega⟩ ?_
  refine V_istore C 2736 [(7, .int r), (6, .int kv), (5, .int (nI (3 * t))), (4, .ref od), (3, .ref o), (2, .ref B.1), (1, .ref A.1), (0, .ref b)] dL_law_2734 rfl (hlt 7 (by decide)) rfl ?_
  refine V_aload_n C 5 2737 dL_law_2736 rfl rfl ?_
  refine V_callP C ml_L_175 (pre := []) (post := oW g A o od f1 fd x1) (w := mdW g B m1) (as := []) (rest := []) (c_X4_thrown (v := m1) (R := Md_thrown m1) rfl) 0 2740 dL_law_2737 rfl ⟨Nat.le_of_ble_eq_true rfl, Nat.le_of_ble_eq_true rfl⟩ rfl rfl rfl rfl rfl (Nat.le_of_ble_eq_true rfl) ⟨by rw [hR9]; show cells + 1 ≤ 603072; omega, by rw [hR9]; show slots + 6 ≤ 7194730; omega⟩ ?_
  refine V_iload C 1 2742 dL_law_2740 rfl rfl ?_
  refine V_icmp_eq C 2747 2745 dL_law_2742 rfl rfl (fun _ => ?_) (fun e => absurd hth e)
  refine V_iload C 1 2749 dL_law_2747 rfl rfl ?_
  have END : V K (cells + 1) (slots + 6) (LW g A B x1 m1 o od f1 fd) [(7, .int r), (6, .int kv), (5, .int (nI (3 * t))), (4, .ref od), (3, .ref o), (2, .ref B.1), (1, .ref A.1), (0, .ref b)] [] 2764 := by
    refine V_goto C 3101 dL_law_2764 rfl ?_
    refine V_lv [2, 3, 4, 5, 6, 7] rfl ?_
    exact V_widen (by omega) (by omega) (ke A x1 m1 f1 fd (hRX.mono (by omega)))
  refine V_if_ne C 2764 2752 dL_law_2749 rfl rfl (fun _ => END) (fun e => ?_)
  refine V_aload_n C 4 2753 dL_law_2752 rfl rfl ?_
  refine V_iconst C (0 : Int32) 2754 dL_law_2753 rfl rfl ?_
  refine V_lald C (f := f1) (n := 1) 5 2755 dL_law_2754 rfl rfl (by decide) ?_
  refine V_iload C 0 2757 dL_law_2755 rfl rfl ?_
  refine V_i2l C 2758 dL_law_2757 rfl ?_
  refine V_st (st2 := [.long r.toInt64, .long r.toInt64]) (by rw [show f1 (cl (0 : Int32)) = r.toInt64 from hval e] <;> rfl) ?_
  refine V_lcmpE C 2759 dL_law_2758 rfl ?_
  exact V_if_eq C 2764 2762 dL_law_2759 rfl rfl (fun _ => END) (fun e => absurd rfl e)
theorem law_52 {K : KT} {g : G0} {b L o od t cells slots : Nat} {xs : Nat → Int32} {A : XA} {B : MdA} {x : XV} {m : MdV} {f : Nat → Int64} {fd : Nat → UInt64} (Lk : LK K g b L xs) (ht : 3 * t + 2 < L) (h : RX (30 * t) x m) (hr : cells + 100 ≤ 603072 ∧ slots + 10000 ≤ 7194730) (ke : LE K g b o od B t (cells + 100) (slots + 10000)) : V K cells slots (LW g A B x m o od f fd) (lvL A.1 B.1 b o od t) [] 2767 := by
  obtain ⟨C, hBA, hE, hN, hst, -, -, -, hL, h9⟩ := id Lk
  have hR9 : kR K = room_1 := C.2.2.2.2.2.2.1
  have hlt : ∀ i, i < 9 → i < kn K := fun i h => by rw [h9]; exact h
  obtain ⟨R, r, m1, hx, hm, hok, hout⟩ := Ag.wI (ag_execute h (by omega)) (by decide +kernel) (by decide)
  refine V_aload_n C 4 2768 dL_law_2767 rfl rfl ?_
  refine V_aload_n C 2 2769 dL_law_2768 rfl rfl ?_
  refine V_callH C hBA hE hN lh_execute (pre := mdW g B m) (w0 := oW g A o od f fd x) (post := []) (as := [.ref A.1, .ref o]) (rest := []) (w_execute hst hx hok) dL_law_2769 ⟨Nat.le_of_ble_eq_true rfl, Nat.le_of_ble_eq_true rfl⟩ rfl (by rw [List.append_nil]) rfl (Nat.le_of_ble_eq_true rfl) ⟨by show cells + 1 ≤ 603072; omega, by show slots + 6 ≤ 7194730; omega⟩ (fun rv w1 hP => ?_)
  obtain ⟨kv, f1, x1, rfl, rfl, hth, hval, hRX⟩ := hout _ _ _ _ _ _ _ hP
  refine V_eq (ws2 := LW g A B x1 m o od f1 fd) (by rw [List.append_nil]) ?_
  refine V_istore C 2774 [(6, .int kv), (5, .int (nI (3 * t))), (4, .ref od), (3, .ref o), (2, .ref B.1), (1, .ref A.1), (0, .ref b)] dL_law_2772 rfl (hlt 6 (by decide)) rfl ?_
  refine V_aload_n C 4 2775 dL_law_2774 rfl rfl ?_
  refine V_callS C hBA ml_L_354 (pre := []) (post := oW g A o od f1 fd x1) (w0 := mdW g B m) (w1 := mdW g B m1) (as := []) (rest := []) (c_X4_execute (R := (r, m1)) hm) 0 2778 (LW g A B x1 m1 o od f1 fd) dL_law_2775 rfl ⟨Nat.le_of_ble_eq_true rfl, Nat.le_of_ble_eq_true rfl⟩ rfl rfl rfl rfl rfl rfl rfl (Nat.le_of_ble_eq_true rfl) ⟨by rw [hR9]; show cells + 1 ≤ 603072; omega, by rw [hR9]; show slots + 6 ≤ 7194730; omega⟩ ?_
  refine V_istore C 2780 [(7, .int r), (6, .int kv), (5, .int (nI (3 * t))), (4, .ref od), (3, .ref o), (2, .ref B.1), (1, .ref A.1), (0, .ref b)] dL_law_2778 rfl (hlt 7 (by decide)) rfl ?_
  refine V_aload_n C 5 2781 dL_law_2780 rfl rfl ?_
  refine V_callP C ml_L_175 (pre := []) (post := oW g A o od f1 fd x1) (w := mdW g B m1) (as := []) (rest := []) (c_X4_thrown (v := m1) (R := Md_thrown m1) rfl) 0 2784 dL_law_2781 rfl ⟨Nat.le_of_ble_eq_true rfl, Nat.le_of_ble_eq_true rfl⟩ rfl rfl rfl rfl rfl (Nat.le_of_ble_eq_true rfl) ⟨by rw [hR9]; show cells + 1 ≤ 603072; omega, by rw [hR9]; show slots + 6 ≤ 7194730; omega⟩ ?_
  refine V_iload C 1 2786 dL_law_2784 rfl rfl ?_
  refine V_icmp_eq C 2791 2789 dL_law_2786 rfl rfl (fun _ => ?_) (fun e => absurd hth e)
  refine V_iload C 1 2793 dL_law_2791 rfl rfl ?_
  have END : V K (cells + 1) (slots + 6) (LW g A B x1 m1 o od f1 fd) [(7, .int r), (6, .int kv), (5, .int (nI (3 * t))), (4, .ref od), (3, .ref o), (2, .ref B.1), (1, .ref A.1), (0, .ref b)] [] 2808 := by
    refine V_goto C 3101 dL_law_2808 rfl ?_
    refine V_lv [2, 3, 4, 5, 6, 7] rfl ?_
    exact V_widen (by omega) (by omega) (ke A x1 m1 f1 fd (hRX.mono (by omega)))
  refine V_if_ne C 2808 2796 dL_law_2793 rfl rfl (fun _ => END) (fun e => ?_)
  refine V_aload_n C 4 2797 dL_law_2796 rfl rfl ?_
  refine V_iconst C (0 : Int32) 2798 dL_law_2797 rfl rfl ?_
  refine V_lald C (f := f1) (n := 1) 5 2799 dL_law_2798 rfl rfl (by decide) ?_
  refine V_iload C 0 2801 dL_law_2799 rfl rfl ?_
  refine V_i2l C 2802 dL_law_2801 rfl ?_
  refine V_st (st2 := [.long r.toInt64, .long r.toInt64]) (by rw [show f1 (cl (0 : Int32)) = r.toInt64 from hval e] <;> rfl) ?_
  refine V_lcmpE C 2803 dL_law_2802 rfl ?_
  exact V_if_eq C 2808 2806 dL_law_2803 rfl rfl (fun _ => END) (fun e => absurd rfl e)
theorem law_53 {K : KT} {g : G0} {b L o od t cells slots : Nat} {xs : Nat → Int32} {A : XA} {B : MdA} {x : XV} {m : MdV} {f : Nat → Int64} {fd : Nat → UInt64} (Lk : LK K g b L xs) (ht : 3 * t + 2 < L) (h : RX (30 * t) x m) (hr : cells + 100 ≤ 603072 ∧ slots + 10000 ≤ 7194730) (ke : LE K g b o od B t (cells + 100) (slots + 10000)) : V K cells slots (LW g A B x m o od f fd) (lvL A.1 B.1 b o od t) [] 2811 := by
  obtain ⟨C, hBA, hE, hN, hst, -, -, -, hL, h9⟩ := id Lk
  have hR9 : kR K = room_1 := C.2.2.2.2.2.2.1
  have hlt : ∀ i, i < 9 → i < kn K := fun i h => by rw [h9]; exact h
  obtain ⟨R, r, m1, hx, hm, hok, hout⟩ := Ag.wI (ag_syntaxErrorOffset h ) (by decide +kernel) (by decide)
  refine V_aload_n C 4 2812 dL_law_2811 rfl rfl ?_
  refine V_aload_n C 2 2813 dL_law_2812 rfl rfl ?_
  refine V_callH C hBA hE hN lh_syntaxErrorOffset (pre := mdW g B m) (w0 := oW g A o od f fd x) (post := []) (as := [.ref A.1, .ref o]) (rest := []) (w_syntaxErrorOffset hst hx hok) dL_law_2813 ⟨Nat.le_of_ble_eq_true rfl, Nat.le_of_ble_eq_true rfl⟩ rfl (by rw [List.append_nil]) rfl (Nat.le_of_ble_eq_true rfl) ⟨by show cells + 1 ≤ 603072; omega, by show slots + 6 ≤ 7194730; omega⟩ (fun rv w1 hP => ?_)
  obtain ⟨kv, f1, x1, rfl, rfl, hth, hval, hRX⟩ := hout _ _ _ _ _ _ _ hP
  refine V_eq (ws2 := LW g A B x1 m o od f1 fd) (by rw [List.append_nil]) ?_
  refine V_istore C 2818 [(6, .int kv), (5, .int (nI (3 * t))), (4, .ref od), (3, .ref o), (2, .ref B.1), (1, .ref A.1), (0, .ref b)] dL_law_2816 rfl (hlt 6 (by decide)) rfl ?_
  refine V_aload_n C 4 2819 dL_law_2818 rfl rfl ?_
  refine V_callS C hBA ml_L_357 (pre := []) (post := oW g A o od f1 fd x1) (w0 := mdW g B m) (w1 := mdW g B m1) (as := []) (rest := []) (c_X4_syntaxErrorOffset (R := (r, m1)) hm) 0 2822 (LW g A B x1 m1 o od f1 fd) dL_law_2819 rfl ⟨Nat.le_of_ble_eq_true rfl, Nat.le_of_ble_eq_true rfl⟩ rfl rfl rfl rfl rfl rfl rfl (Nat.le_of_ble_eq_true rfl) ⟨by rw [hR9]; show cells + 1 ≤ 603072; omega, by rw [hR9]; show slots + 6 ≤ 7194730; omega⟩ ?_
  refine V_istore C 2824 [(7, .int r), (6, .int kv), (5, .int (nI (3 * t))), (4, .ref od), (3, .ref o), (2, .ref B.1), (1, .ref A.1), (0, .ref b)] dL_law_2822 rfl (hlt 7 (by decide)) rfl ?_
  refine V_aload_n C 5 2825 dL_law_2824 rfl rfl ?_
  refine V_callP C ml_L_175 (pre := []) (post := oW g A o od f1 fd x1) (w := mdW g B m1) (as := []) (rest := []) (c_X4_thrown (v := m1) (R := Md_thrown m1) rfl) 0 2828 dL_law_2825 rfl ⟨Nat.le_of_ble_eq_true rfl, Nat.le_of_ble_eq_true rfl⟩ rfl rfl rfl rfl rfl (Nat.le_of_ble_eq_true rfl) ⟨by rw [hR9]; show cells + 1 ≤ 603072; omega, by rw [hR9]; show slots + 6 ≤ 7194730; omega⟩ ?_
  refine V_iload C 1 2830 dL_law_2828 rfl rfl ?_
  refine V_icmp_eq C 2835 2833 dL_law_2830 rfl rfl (fun _ => ?_) (fun e => absurd hth e)
  refine V_iload C 1 2837 dL_law_2835 rfl rfl ?_
  have END : V K (cells + 1) (slots + 6) (LW g A B x1 m1 o od f1 fd) [(7, .int r), (6, .int kv), (5, .int (nI (3 * t))), (4, .ref od), (3, .ref o), (2, .ref B.1), (1, .ref A.1), (0, .ref b)] [] 2852 := by
    refine V_goto C 3101 dL_law_2852 rfl ?_
    refine V_lv [2, 3, 4, 5, 6, 7] rfl ?_
    exact V_widen (by omega) (by omega) (ke A x1 m1 f1 fd (hRX.mono (by omega)))
  refine V_if_ne C 2852 2840 dL_law_2837 rfl rfl (fun _ => END) (fun e => ?_)
  refine V_aload_n C 4 2841 dL_law_2840 rfl rfl ?_
  refine V_iconst C (0 : Int32) 2842 dL_law_2841 rfl rfl ?_
  refine V_lald C (f := f1) (n := 1) 5 2843 dL_law_2842 rfl rfl (by decide) ?_
  refine V_iload C 0 2845 dL_law_2843 rfl rfl ?_
  refine V_i2l C 2846 dL_law_2845 rfl ?_
  refine V_st (st2 := [.long r.toInt64, .long r.toInt64]) (by rw [show f1 (cl (0 : Int32)) = r.toInt64 from hval e] <;> rfl) ?_
  refine V_lcmpE C 2847 dL_law_2846 rfl ?_
  exact V_if_eq C 2852 2850 dL_law_2847 rfl rfl (fun _ => END) (fun e => absurd rfl e)
theorem law_54 {K : KT} {g : G0} {b L o od t cells slots : Nat} {xs : Nat → Int32} {A : XA} {B : MdA} {x : XV} {m : MdV} {f : Nat → Int64} {fd : Nat → UInt64} (Lk : LK K g b L xs) (ht : 3 * t + 2 < L) (h : RX (30 * t) x m) (hr : cells + 100 ≤ 603072 ∧ slots + 10000 ≤ 7194730) (ke : LE K g b o od B t (cells + 100) (slots + 10000)) : V K cells slots (LW g A B x m o od f fd) (lvL A.1 B.1 b o od t) [] 2855 := by
  obtain ⟨C, hBA, hE, hN, hst, -, -, -, hL, h9⟩ := id Lk
  have hR9 : kR K = room_1 := C.2.2.2.2.2.2.1
  have hlt : ∀ i, i < 9 → i < kn K := fun i h => by rw [h9]; exact h
  obtain ⟨R, r, m1, hx, hm, hok, hout⟩ := Ag.wI (ag_rejectionReason h ) (by decide +kernel) (by decide)
  refine V_aload_n C 4 2856 dL_law_2855 rfl rfl ?_
  refine V_aload_n C 2 2857 dL_law_2856 rfl rfl ?_
  refine V_callH C hBA hE hN lh_rejectionReason (pre := mdW g B m) (w0 := oW g A o od f fd x) (post := []) (as := [.ref A.1, .ref o]) (rest := []) (w_rejectionReason hst hx hok) dL_law_2857 ⟨Nat.le_of_ble_eq_true rfl, Nat.le_of_ble_eq_true rfl⟩ rfl (by rw [List.append_nil]) rfl (Nat.le_of_ble_eq_true rfl) ⟨by show cells + 1 ≤ 603072; omega, by show slots + 6 ≤ 7194730; omega⟩ (fun rv w1 hP => ?_)
  obtain ⟨kv, f1, x1, rfl, rfl, hth, hval, hRX⟩ := hout _ _ _ _ _ _ _ hP
  refine V_eq (ws2 := LW g A B x1 m o od f1 fd) (by rw [List.append_nil]) ?_
  refine V_istore C 2862 [(6, .int kv), (5, .int (nI (3 * t))), (4, .ref od), (3, .ref o), (2, .ref B.1), (1, .ref A.1), (0, .ref b)] dL_law_2860 rfl (hlt 6 (by decide)) rfl ?_
  refine V_aload_n C 4 2863 dL_law_2862 rfl rfl ?_
  refine V_callS C hBA ml_L_360 (pre := []) (post := oW g A o od f1 fd x1) (w0 := mdW g B m) (w1 := mdW g B m1) (as := []) (rest := []) (c_X4_rejectionReason (R := (r, m1)) hm) 0 2866 (LW g A B x1 m1 o od f1 fd) dL_law_2863 rfl ⟨Nat.le_of_ble_eq_true rfl, Nat.le_of_ble_eq_true rfl⟩ rfl rfl rfl rfl rfl rfl rfl (Nat.le_of_ble_eq_true rfl) ⟨by rw [hR9]; show cells + 1 ≤ 603072; omega, by rw [hR9]; show slots + 6 ≤ 7194730; omega⟩ ?_
  refine V_istore C 2868 [(7, .int r), (6, .int kv), (5, .int (nI (3 * t))), (4, .ref od), (3, .ref o), (2, .ref B.1), (1, .ref A.1), (0, .ref b)] dL_law_2866 rfl (hlt 7 (by decide)) rfl ?_
  refine V_aload_n C 5 2869 dL_law_2868 rfl rfl ?_
  refine V_callP C ml_L_175 (pre := []) (post := oW g A o od f1 fd x1) (w := mdW g B m1) (as := []) (rest := []) (c_X4_thrown (v := m1) (R := Md_thrown m1) rfl) 0 2872 dL_law_2869 rfl ⟨Nat.le_of_ble_eq_true rfl, Nat.le_of_ble_eq_true rfl⟩ rfl rfl rfl rfl rfl (Nat.le_of_ble_eq_true rfl) ⟨by rw [hR9]; show cells + 1 ≤ 603072; omega, by rw [hR9]; show slots + 6 ≤ 7194730; omega⟩ ?_
  refine V_iload C 1 2874 dL_law_2872 rfl rfl ?_
  refine V_icmp_eq C 2879 2877 dL_law_2874 rfl rfl (fun _ => ?_) (fun e => absurd hth e)
  refine V_iload C 1 2881 dL_law_2879 rfl rfl ?_
  have END : V K (cells + 1) (slots + 6) (LW g A B x1 m1 o od f1 fd) [(7, .int r), (6, .int kv), (5, .int (nI (3 * t))), (4, .ref od), (3, .ref o), (2, .ref B.1), (1, .ref A.1), (0, .ref b)] [] 2896 := by
    refine V_goto C 3101 dL_law_2896 rfl ?_
    refine V_lv [2, 3, 4, 5, 6, 7] rfl ?_
    exact V_widen (by omega) (by omega) (ke A x1 m1 f1 fd (hRX.mono (by omega)))
  refine V_if_ne C 2896 2884 dL_law_2881 rfl rfl (fun _ => END) (fun e => ?_)
  refine V_aload_n C 4 2885 dL_law_2884 rfl rfl ?_
  refine V_iconst C (0 : Int32) 2886 dL_law_2885 rfl rfl ?_
  refine V_lald C (f := f1) (n := 1) 5 2887 dL_law_2886 rfl rfl (by decide) ?_
  refine V_iload C 0 2889 dL_law_2887 rfl rfl ?_
  refine V_i2l C 2890 dL_law_2889 rfl ?_
  refine V_st (st2 := [.long r.toInt64, .long r.toInt64]) (by rw [show f1 (cl (0 : Int32)) = r.toInt64 from hval e] <;> rfl) ?_
  refine V_lcmpE C 2891 dL_law_2890 rfl ?_
  exact V_if_eq C 2896 2894 dL_law_2891 rfl rfl (fun _ => END) (fun e => absurd rfl e)
theorem law_55 {K : KT} {g : G0} {b L o od t cells slots : Nat} {xs : Nat → Int32} {A : XA} {B : MdA} {x : XV} {m : MdV} {f : Nat → Int64} {fd : Nat → UInt64} (Lk : LK K g b L xs) (ht : 3 * t + 2 < L) (h : RX (30 * t) x m) (hr : cells + 100 ≤ 603072 ∧ slots + 10000 ≤ 7194730) (ke : LE K g b o od B t (cells + 100) (slots + 10000)) : V K cells slots (LW g A B x m o od f fd) (lvL A.1 B.1 b o od t) [] 2899 := by
  obtain ⟨C, hBA, hE, hN, hst, -, -, -, hL, h9⟩ := id Lk
  have hR9 : kR K = room_1 := C.2.2.2.2.2.2.1
  have hlt : ∀ i, i < 9 → i < kn K := fun i h => by rw [h9]; exact h
  obtain ⟨R, r, m1, hx, hm, hok, hout⟩ := Ag.wI (ag_rejectionDetail h ) (by decide +kernel) (by decide)
  refine V_aload_n C 4 2900 dL_law_2899 rfl rfl ?_
  refine V_aload_n C 2 2901 dL_law_2900 rfl rfl ?_
  refine V_callH C hBA hE hN lh_rejectionDetail (pre := mdW g B m) (w0 := oW g A o od f fd x) (post := []) (as := [.ref A.1, .ref o]) (rest := []) (w_rejectionDetail hst hx hok) dL_law_2901 ⟨Nat.le_of_ble_eq_true rfl, Nat.le_of_ble_eq_true rfl⟩ rfl (by rw [List.append_nil]) rfl (Nat.le_of_ble_eq_true rfl) ⟨by show cells + 1 ≤ 603072; omega, by show slots + 6 ≤ 7194730; omega⟩ (fun rv w1 hP => ?_)
  obtain ⟨kv, f1, x1, rfl, rfl, hth, hval, hRX⟩ := hout _ _ _ _ _ _ _ hP
  refine V_eq (ws2 := LW g A B x1 m o od f1 fd) (by rw [List.append_nil]) ?_
  refine V_istore C 2906 [(6, .int kv), (5, .int (nI (3 * t))), (4, .ref od), (3, .ref o), (2, .ref B.1), (1, .ref A.1), (0, .ref b)] dL_law_2904 rfl (hlt 6 (by decide)) rfl ?_
  refine V_aload_n C 4 2907 dL_law_2906 rfl rfl ?_
  refine V_callS C hBA ml_L_363 (pre := []) (post := oW g A o od f1 fd x1) (w0 := mdW g B m) (w1 := mdW g B m1) (as := []) (rest := []) (c_X4_rejectionDetail (R := (r, m1)) hm) 0 2910 (LW g A B x1 m1 o od f1 fd) dL_law_2907 rfl ⟨Nat.le_of_ble_eq_true rfl, Nat.le_of_ble_eq_true rfl⟩ rfl rfl rfl rfl rfl rfl rfl (Nat.le_of_ble_eq_true rfl) ⟨by rw [hR9]; show cells + 1 ≤ 603072; omega, by rw [hR9]; show slots + 6 ≤ 7194730; omega⟩ ?_
  refine V_istore C 2912 [(7, .int r), (6, .int kv), (5, .int (nI (3 * t))), (4, .ref od), (3, .ref o), (2, .ref B.1), (1, .ref A.1), (0, .ref b)] dL_law_2910 rfl (hlt 7 (by decide)) rfl ?_
  refine V_aload_n C 5 2913 dL_law_2912 rfl rfl ?_
  refine V_callP C ml_L_175 (pre := []) (post := oW g A o od f1 fd x1) (w := mdW g B m1) (as := []) (rest := []) (c_X4_thrown (v := m1) (R := Md_thrown m1) rfl) 0 2916 dL_law_2913 rfl ⟨Nat.le_of_ble_eq_true rfl, Nat.le_of_ble_eq_true rfl⟩ rfl rfl rfl rfl rfl (Nat.le_of_ble_eq_true rfl) ⟨by rw [hR9]; show cells + 1 ≤ 603072; omega, by rw [hR9]; show slots + 6 ≤ 7194730; omega⟩ ?_
  refine V_iload C 1 2918 dL_law_2916 rfl rfl ?_
  refine V_icmp_eq C 2923 2921 dL_law_2918 rfl rfl (fun _ => ?_) (fun e => absurd hth e)
  refine V_iload C 1 2925 dL_law_2923 rfl rfl ?_
  have END : V K (cells + 1) (slots + 6) (LW g A B x1 m1 o od f1 fd) [(7, .int r), (6, .int kv), (5, .int (nI (3 * t))), (4, .ref od), (3, .ref o), (2, .ref B.1), (1, .ref A.1), (0, .ref b)] [] 2940 := by
    refine V_goto C 3101 dL_law_2940 rfl ?_
    refine V_lv [2, 3, 4, 5, 6, 7] rfl ?_
    exact V_widen (by omega) (by omega) (ke A x1 m1 f1 fd (hRX.mono (by omega)))
  refine V_if_ne C 2940 2928 dL_law_2925 rfl rfl (fun _ => END) (fun e => ?_)
  refine V_aload_n C 4 2929 dL_law_2928 rfl rfl ?_
  refine V_iconst C (0 : Int32) 2930 dL_law_2929 rfl rfl ?_
  refine V_lald C (f := f1) (n := 1) 5 2931 dL_law_2930 rfl rfl (by decide) ?_
  refine V_iload C 0 2933 dL_law_2931 rfl rfl ?_
  refine V_i2l C 2934 dL_law_2933 rfl ?_
  refine V_st (st2 := [.long r.toInt64, .long r.toInt64]) (by rw [show f1 (cl (0 : Int32)) = r.toInt64 from hval e] <;> rfl) ?_
  refine V_lcmpE C 2935 dL_law_2934 rfl ?_
  exact V_if_eq C 2940 2938 dL_law_2935 rfl rfl (fun _ => END) (fun e => absurd rfl e)
theorem law_56 {K : KT} {g : G0} {b L o od t cells slots : Nat} {xs : Nat → Int32} {A : XA} {B : MdA} {x : XV} {m : MdV} {f : Nat → Int64} {fd : Nat → UInt64} (Lk : LK K g b L xs) (ht : 3 * t + 2 < L) (h : RX (30 * t) x m) (hr : cells + 100 ≤ 603072 ∧ slots + 10000 ≤ 7194730) (ke : LE K g b o od B t (cells + 100) (slots + 10000)) : V K cells slots (LW g A B x m o od f fd) (lvL A.1 B.1 b o od t) [] 2943 := by
  obtain ⟨C, hBA, hE, hN, hst, -, -, -, hL, h9⟩ := id Lk
  have hR9 : kR K = room_1 := C.2.2.2.2.2.2.1
  have hlt : ∀ i, i < 9 → i < kn K := fun i h => by rw [h9]; exact h
  obtain ⟨R, r, m1, hx, hm, hok, hout⟩ := Ag.wI (ag_causeReason h ) (by decide +kernel) (by decide)
  refine V_aload_n C 4 2944 dL_law_2943 rfl rfl ?_
  refine V_aload_n C 2 2945 dL_law_2944 rfl rfl ?_
  refine V_callH C hBA hE hN lh_causeReason (pre := mdW g B m) (w0 := oW g A o od f fd x) (post := []) (as := [.ref A.1, .ref o]) (rest := []) (w_causeReason hst hx hok) dL_law_2945 ⟨Nat.le_of_ble_eq_true rfl, Nat.le_of_ble_eq_true rfl⟩ rfl (by rw [List.append_nil]) rfl (Nat.le_of_ble_eq_true rfl) ⟨by show cells + 1 ≤ 603072; omega, by show slots + 6 ≤ 7194730; omega⟩ (fun rv w1 hP => ?_)
  obtain ⟨kv, f1, x1, rfl, rfl, hth, hval, hRX⟩ := hout _ _ _ _ _ _ _ hP
  refine V_eq (ws2 := LW g A B x1 m o od f1 fd) (by rw [List.append_nil]) ?_
  refine V_istore C 2950 [(6, .int kv), (5, .int (nI (3 * t))), (4, .ref od), (3, .ref o), (2, .ref B.1), (1, .ref A.1), (0, .ref b)] dL_law_2948 rfl (hlt 6 (by decide)) rfl ?_
  refine V_aload_n C 4 2951 dL_law_2950 rfl rfl ?_
  refine V_callS C hBA ml_L_366 (pre := []) (post := oW g A o od f1 fd x1) (w0 := mdW g B m) (w1 := mdW g B m1) (as := []) (rest := []) (c_X4_causeReason (R := (r, m1)) hm) 0 2954 (LW g A B x1 m1 o od f1 fd) dL_law_2951 rfl ⟨Nat.le_of_ble_eq_true rfl, Nat.le_of_ble_eq_true rfl⟩ rfl rfl rfl rfl rfl rfl rfl (Nat.le_of_ble_eq_true rfl) ⟨by rw [hR9]; show cells + 1 ≤ 603072; omega, by rw [hR9]; show slots + 6 ≤ 7194730; omega⟩ ?_
  refine V_istore C 2956 [(7, .int r), (6, .int kv), (5, .int (nI (3 * t))), (4, .ref od), (3, .ref o), (2, .ref B.1), (1, .ref A.1), (0, .ref b)] dL_law_2954 rfl (hlt 7 (by decide)) rfl ?_
  refine V_aload_n C 5 2957 dL_law_2956 rfl rfl ?_
  refine V_callP C ml_L_175 (pre := []) (post := oW g A o od f1 fd x1) (w := mdW g B m1) (as := []) (rest := []) (c_X4_thrown (v := m1) (R := Md_thrown m1) rfl) 0 2960 dL_law_2957 rfl ⟨Nat.le_of_ble_eq_true rfl, Nat.le_of_ble_eq_true rfl⟩ rfl rfl rfl rfl rfl (Nat.le_of_ble_eq_true rfl) ⟨by rw [hR9]; show cells + 1 ≤ 603072; omega, by rw [hR9]; show slots + 6 ≤ 7194730; omega⟩ ?_
  refine V_iload C 1 2962 dL_law_2960 rfl rfl ?_
  refine V_icmp_eq C 2967 2965 dL_law_2962 rfl rfl (fun _ => ?_) (fun e => absurd hth e)
  refine V_iload C 1 2969 dL_law_2967 rfl rfl ?_
  have END : V K (cells + 1) (slots + 6) (LW g A B x1 m1 o od f1 fd) [(7, .int r), (6, .int kv), (5, .int (nI (3 * t))), (4, .ref od), (3, .ref o), (2, .ref B.1), (1, .ref A.1), (0, .ref b)] [] 2984 := by
    refine V_goto C 3101 dL_law_2984 rfl ?_
    refine V_lv [2, 3, 4, 5, 6, 7] rfl ?_
    exact V_widen (by omega) (by omega) (ke A x1 m1 f1 fd (hRX.mono (by omega)))
  refine V_if_ne C 2984 2972 dL_law_2969 rfl rfl (fun _ => END) (fun e => ?_)
  refine V_aload_n C 4 2973 dL_law_2972 rfl rfl ?_
  refine V_iconst C (0 : Int32) 2974 dL_law_2973 rfl rfl ?_
  refine V_lald C (f := f1) (n := 1) 5 2975 dL_law_2974 rfl rfl (by decide) ?_
  refine V_iload C 0 2977 dL_law_2975 rfl rfl ?_
  refine V_i2l C 2978 dL_law_2977 rfl ?_
  refine V_st (st2 := [.long r.toInt64, .long r.toInt64]) (by rw [show f1 (cl (0 : Int32)) = r.toInt64 from hval e] <;> rfl) ?_
  refine V_lcmpE C 2979 dL_law_2978 rfl ?_
  exact V_if_eq C 2984 2982 dL_law_2979 rfl rfl (fun _ => END) (fun e => absurd rfl e)
theorem law_57 {K : KT} {g : G0} {b L o od t cells slots : Nat} {xs : Nat → Int32} {A : XA} {B : MdA} {x : XV} {m : MdV} {f : Nat → Int64} {fd : Nat → UInt64} (Lk : LK K g b L xs) (ht : 3 * t + 2 < L) (h : RX (30 * t) x m) (hr : cells + 100 ≤ 603072 ∧ slots + 10000 ≤ 7194730) (ke : LE K g b o od B t (cells + 100) (slots + 10000)) : V K cells slots (LW g A B x m o od f fd) (lvL A.1 B.1 b o od t) [] 2987 := by
  obtain ⟨C, hBA, hE, hN, hst, -, -, -, hL, h9⟩ := id Lk
  have hR9 : kR K = room_1 := C.2.2.2.2.2.2.1
  have hlt : ∀ i, i < 9 → i < kn K := fun i h => by rw [h9]; exact h
  obtain ⟨R, r, m1, hx, hm, hok, hout⟩ := Ag.wI (ag_undo h ) (by decide +kernel) (by decide)
  refine V_aload_n C 4 2988 dL_law_2987 rfl rfl ?_
  refine V_aload_n C 2 2989 dL_law_2988 rfl rfl ?_
  refine V_callH C hBA hE hN lh_undo (pre := mdW g B m) (w0 := oW g A o od f fd x) (post := []) (as := [.ref A.1, .ref o]) (rest := []) (w_undo hst hx hok) dL_law_2989 ⟨Nat.le_of_ble_eq_true rfl, Nat.le_of_ble_eq_true rfl⟩ rfl (by rw [List.append_nil]) rfl (Nat.le_of_ble_eq_true rfl) ⟨by show cells + 1 ≤ 603072; omega, by show slots + 6 ≤ 7194730; omega⟩ (fun rv w1 hP => ?_)
  obtain ⟨kv, f1, x1, rfl, rfl, hth, hval, hRX⟩ := hout _ _ _ _ _ _ _ hP
  refine V_eq (ws2 := LW g A B x1 m o od f1 fd) (by rw [List.append_nil]) ?_
  refine V_istore C 2994 [(6, .int kv), (5, .int (nI (3 * t))), (4, .ref od), (3, .ref o), (2, .ref B.1), (1, .ref A.1), (0, .ref b)] dL_law_2992 rfl (hlt 6 (by decide)) rfl ?_
  refine V_aload_n C 4 2995 dL_law_2994 rfl rfl ?_
  refine V_callS C hBA ml_L_369 (pre := []) (post := oW g A o od f1 fd x1) (w0 := mdW g B m) (w1 := mdW g B m1) (as := []) (rest := []) (c_X4_undo (R := (r, m1)) hm) 0 2998 (LW g A B x1 m1 o od f1 fd) dL_law_2995 rfl ⟨Nat.le_of_ble_eq_true rfl, Nat.le_of_ble_eq_true rfl⟩ rfl rfl rfl rfl rfl rfl rfl (Nat.le_of_ble_eq_true rfl) ⟨by rw [hR9]; show cells + 1 ≤ 603072; omega, by rw [hR9]; show slots + 6 ≤ 7194730; omega⟩ ?_
  refine V_istore C 3000 [(7, .int r), (6, .int kv), (5, .int (nI (3 * t))), (4, .ref od), (3, .ref o), (2, .ref B.1), (1, .ref A.1), (0, .ref b)] dL_law_2998 rfl (hlt 7 (by decide)) rfl ?_
  refine V_aload_n C 5 3001 dL_law_3000 rfl rfl ?_
  refine V_callP C ml_L_175 (pre := []) (post := oW g A o od f1 fd x1) (w := mdW g B m1) (as := []) (rest := []) (c_X4_thrown (v := m1) (R := Md_thrown m1) rfl) 0 3004 dL_law_3001 rfl ⟨Nat.le_of_ble_eq_true rfl, Nat.le_of_ble_eq_true rfl⟩ rfl rfl rfl rfl rfl (Nat.le_of_ble_eq_true rfl) ⟨by rw [hR9]; show cells + 1 ≤ 603072; omega, by rw [hR9]; show slots + 6 ≤ 7194730; omega⟩ ?_
  refine V_iload C 1 3006 dL_law_3004 rfl rfl ?_
  refine V_icmp_eq C 3011 3009 dL_law_3006 rfl rfl (fun _ => ?_) (fun e => absurd hth e)
  refine V_iload C 1 3013 dL_law_3011 rfl rfl ?_
  have END : V K (cells + 1) (slots + 6) (LW g A B x1 m1 o od f1 fd) [(7, .int r), (6, .int kv), (5, .int (nI (3 * t))), (4, .ref od), (3, .ref o), (2, .ref B.1), (1, .ref A.1), (0, .ref b)] [] 3028 := by
    refine V_goto C 3101 dL_law_3028 rfl ?_
    refine V_lv [2, 3, 4, 5, 6, 7] rfl ?_
    exact V_widen (by omega) (by omega) (ke A x1 m1 f1 fd (hRX.mono (by omega)))
  refine V_if_ne C 3028 3016 dL_law_3013 rfl rfl (fun _ => END) (fun e => ?_)
  refine V_aload_n C 4 3017 dL_law_3016 rfl rfl ?_
  refine V_iconst C (0 : Int32) 3018 dL_law_3017 rfl rfl ?_
  refine V_lald C (f := f1) (n := 1) 5 3019 dL_law_3018 rfl rfl (by decide) ?_
  refine V_iload C 0 3021 dL_law_3019 rfl rfl ?_
  refine V_i2l C 3022 dL_law_3021 rfl ?_
  refine V_st (st2 := [.long r.toInt64, .long r.toInt64]) (by rw [show f1 (cl (0 : Int32)) = r.toInt64 from hval e] <;> rfl) ?_
  refine V_lcmpE C 3023 dL_law_3022 rfl ?_
  exact V_if_eq C 3028 3026 dL_law_3023 rfl rfl (fun _ => END) (fun e => absurd rfl e)
theorem law_58 {K : KT} {g : G0} {b L o od t cells slots : Nat} {xs : Nat → Int32} {A : XA} {B : MdA} {x : XV} {m : MdV} {f : Nat → Int64} {fd : Nat → UInt64} (Lk : LK K g b L xs) (ht : 3 * t + 2 < L) (h : RX (30 * t) x m) (hr : cells + 100 ≤ 603072 ∧ slots + 10000 ≤ 7194730) (ke : LE K g b o od B t (cells + 100) (slots + 10000)) : V K cells slots (LW g A B x m o od f fd) (lvL A.1 B.1 b o od t) [] 3031 := by
  obtain ⟨C, hBA, hE, hN, hst, -, -, -, hL, h9⟩ := id Lk
  have hR9 : kR K = room_1 := C.2.2.2.2.2.2.1
  have hlt : ∀ i, i < 9 → i < kn K := fun i h => by rw [h9]; exact h
  obtain ⟨r, m1, hx, hm, hRX⟩ := ag_undoCount h
  refine V_aload_n C 4 3032 dL_law_3031 rfl rfl ?_
  refine V_callP C ml_L_370 (pre := mdW g B m ++ [(o, aL g 1 f), (od, aD g 1 fd)]) (post := []) (w := xW g A x) (as := []) (rest := []) (c_X3_undoCount hx) 7 3035 dL_law_3032 rfl ⟨Nat.le_of_ble_eq_true rfl, Nat.le_of_ble_eq_true rfl⟩ rfl (by rw [List.append_nil]; rfl) rfl rfl rfl (Nat.le_of_ble_eq_true rfl) ⟨by rw [hR9]; show cells + 0 ≤ 603072; omega, by rw [hR9]; show slots + 0 ≤ 7194730; omega⟩ ?_
  refine V_aload_n C 3 3036 dL_law_3035 rfl rfl ?_
  refine V_callS C hBA ml_L_373 (pre := []) (post := oW g A o od f fd x) (w0 := mdW g B m) (w1 := mdW g B m1) (as := []) (rest := [.int r]) (c_X4_undoCount (R := (r, m1)) hm) 0 3039 (LW g A B x m1 o od f fd) dL_law_3036 rfl ⟨Nat.le_of_ble_eq_true rfl, Nat.le_of_ble_eq_true rfl⟩ rfl rfl rfl rfl rfl rfl rfl (Nat.le_of_ble_eq_true rfl) ⟨by rw [hR9]; show cells + 0 ≤ 603072; omega, by rw [hR9]; show slots + 0 ≤ 7194730; omega⟩ ?_
  refine V_icmp_eq C 3101 3042 dL_law_3039 rfl rfl (fun _ => ?_) (fun e => absurd rfl e)
  exact V_widen (by omega) (by omega) (ke A x m1 f fd (hRX.mono (by omega)))
theorem law_59 {K : KT} {g : G0} {b L o od t cells slots : Nat} {xs : Nat → Int32} {A : XA} {B : MdA} {x : XV} {m : MdV} {f : Nat → Int64} {fd : Nat → UInt64} (Lk : LK K g b L xs) (ht : 3 * t + 2 < L) (h : RX (30 * t) x m) (hr : cells + 100 ≤ 603072 ∧ slots + 10000 ≤ 7194730) (ke : LE K g b o od B t (cells + 100) (slots + 10000)) : V K cells slots (LW g A B x m o od f fd) (lvL A.1 B.1 b o od t) [] 3044 := by
  obtain ⟨C, hBA, hE, hN, hst, -, -, -, hL, h9⟩ := id Lk
  have hR9 : kR K = room_1 := C.2.2.2.2.2.2.1
  have hlt : ∀ i, i < 9 → i < kn K := fun i h => by rw [h9]; exact h
  obtain ⟨r, x1, m1, hx, hm, hRX⟩ := ag_saveSnapshot h
  refine V_aload_n C 4 3045 dL_law_3044 rfl rfl ?_
  refine V_callS C hBA ml_L_374 (pre := mdW g B m ++ [(o, aL g 1 f), (od, aD g 1 fd)]) (post := []) (w0 := xW g A x) (w1 := xW g A x1) (as := []) (rest := []) (c_X3_saveSnapshot (R := (r, x1)) hx) 7 3048 (LW g A B x1 m o od f fd) dL_law_3045 rfl ⟨Nat.le_of_ble_eq_true rfl, Nat.le_of_ble_eq_true rfl⟩ rfl (by rw [List.append_nil]; rfl) (by rw [List.append_nil]; rfl) (xW_fst _ _ _ _) rfl rfl rfl (Nat.le_of_ble_eq_true rfl) ⟨by rw [hR9]; show cells + 0 ≤ 603072; omega, by rw [hR9]; show slots + 0 ≤ 7194730; omega⟩ ?_
  refine V_aload_n C 3 3049 dL_law_3048 rfl rfl ?_
  refine V_callS C hBA ml_L_377 (pre := []) (post := oW g A o od f fd x1) (w0 := mdW g B m) (w1 := mdW g B m1) (as := []) (rest := [.int r]) (c_X4_saveSnapshot (R := (r, m1)) hm) 0 3052 (LW g A B x1 m1 o od f fd) dL_law_3049 rfl ⟨Nat.le_of_ble_eq_true rfl, Nat.le_of_ble_eq_true rfl⟩ rfl rfl rfl rfl rfl rfl rfl (Nat.le_of_ble_eq_true rfl) ⟨by rw [hR9]; show cells + 0 ≤ 603072; omega, by rw [hR9]; show slots + 0 ≤ 7194730; omega⟩ ?_
  refine V_icmp_eq C 3101 3055 dL_law_3052 rfl rfl (fun _ => ?_) (fun e => absurd rfl e)
  exact V_widen (by omega) (by omega) (ke A x1 m1 f fd (hRX.mono (by omega)))
theorem law_60 {K : KT} {g : G0} {b L o od t cells slots : Nat} {xs : Nat → Int32} {A : XA} {B : MdA} {x : XV} {m : MdV} {f : Nat → Int64} {fd : Nat → UInt64} (Lk : LK K g b L xs) (ht : 3 * t + 2 < L) (h : RX (30 * t) x m) (hr : cells + 100 ≤ 603072 ∧ slots + 10000 ≤ 7194730) (ke : LE K g b o od B t (cells + 100) (slots + 10000)) : V K cells slots (LW g A B x m o od f fd) (lvL A.1 B.1 b o od t) [] 3057 := by
  obtain ⟨C, hBA, hE, hN, hst, -, -, -, hL, h9⟩ := id Lk
  have hR9 : kR K = room_1 := C.2.2.2.2.2.2.1
  have hlt : ∀ i, i < 9 → i < kn K := fun i h => by rw [h9]; exact h
  obtain ⟨R, r, m1, hx, hm, hok, hout⟩ := Ag.wI (ag_restoreSnapshot h ) (by decide +kernel) (by decide)
  refine V_aload_n C 4 3058 dL_law_3057 rfl rfl ?_
  refine V_aload_n C 2 3059 dL_law_3058 rfl rfl ?_
  refine V_callH C hBA hE hN lh_restoreSnapshot (pre := mdW g B m) (w0 := oW g A o od f fd x) (post := []) (as := [.ref A.1, .ref o]) (rest := []) (w_restoreSnapshot hst hx hok) dL_law_3059 ⟨Nat.le_of_ble_eq_true rfl, Nat.le_of_ble_eq_true rfl⟩ rfl (by rw [List.append_nil]) rfl (Nat.le_of_ble_eq_true rfl) ⟨by show cells + 1 ≤ 603072; omega, by show slots + 6 ≤ 7194730; omega⟩ (fun rv w1 hP => ?_)
  obtain ⟨kv, f1, x1, rfl, rfl, hth, hval, hRX⟩ := hout _ _ _ _ _ _ _ hP
  refine V_eq (ws2 := LW g A B x1 m o od f1 fd) (by rw [List.append_nil]) ?_
  refine V_istore C 3064 [(6, .int kv), (5, .int (nI (3 * t))), (4, .ref od), (3, .ref o), (2, .ref B.1), (1, .ref A.1), (0, .ref b)] dL_law_3062 rfl (hlt 6 (by decide)) rfl ?_
  refine V_aload_n C 4 3065 dL_law_3064 rfl rfl ?_
  refine V_callS C hBA ml_L_380 (pre := []) (post := oW g A o od f1 fd x1) (w0 := mdW g B m) (w1 := mdW g B m1) (as := []) (rest := []) (c_X4_restoreSnapshot (R := (r, m1)) hm) 0 3068 (LW g A B x1 m1 o od f1 fd) dL_law_3065 rfl ⟨Nat.le_of_ble_eq_true rfl, Nat.le_of_ble_eq_true rfl⟩ rfl rfl rfl rfl rfl rfl rfl (Nat.le_of_ble_eq_true rfl) ⟨by rw [hR9]; show cells + 1 ≤ 603072; omega, by rw [hR9]; show slots + 6 ≤ 7194730; omega⟩ ?_
  refine V_istore C 3070 [(7, .int r), (6, .int kv), (5, .int (nI (3 * t))), (4, .ref od), (3, .ref o), (2, .ref B.1), (1, .ref A.1), (0, .ref b)] dL_law_3068 rfl (hlt 7 (by decide)) rfl ?_
  refine V_aload_n C 5 3071 dL_law_3070 rfl rfl ?_
  refine V_callP C ml_L_175 (pre := []) (post := oW g A o od f1 fd x1) (w := mdW g B m1) (as := []) (rest := []) (c_X4_thrown (v := m1) (R := Md_thrown m1) rfl) 0 3074 dL_law_3071 rfl ⟨Nat.le_of_ble_eq_true rfl, Nat.le_of_ble_eq_true rfl⟩ rfl rfl rfl rfl rfl (Nat.le_of_ble_eq_true rfl) ⟨by rw [hR9]; show cells + 1 ≤ 603072; omega, by rw [hR9]; show slots + 6 ≤ 7194730; omega⟩ ?_
  refine V_iload C 1 3076 dL_law_3074 rfl rfl ?_
  refine V_icmp_eq C 3081 3079 dL_law_3076 rfl rfl (fun _ => ?_) (fun e => absurd hth e)
  refine V_iload C 1 3083 dL_law_3081 rfl rfl ?_
  have END : V K (cells + 1) (slots + 6) (LW g A B x1 m1 o od f1 fd) [(7, .int r), (6, .int kv), (5, .int (nI (3 * t))), (4, .ref od), (3, .ref o), (2, .ref B.1), (1, .ref A.1), (0, .ref b)] [] 3098 := by
    refine V_goto C 3101 dL_law_3098 rfl ?_
    refine V_lv [2, 3, 4, 5, 6, 7] rfl ?_
    exact V_widen (by omega) (by omega) (ke A x1 m1 f1 fd (hRX.mono (by omega)))
  refine V_if_ne C 3098 3086 dL_law_3083 rfl rfl (fun _ => END) (fun e => ?_)
  refine V_aload_n C 4 3087 dL_law_3086 rfl rfl ?_
  refine V_iconst C (0 : Int32) 3088 dL_law_3087 rfl rfl ?_
  refine V_lald C (f := f1) (n := 1) 5 3089 dL_law_3088 rfl rfl (by decide) ?_
  refine V_iload C 0 3091 dL_law_3089 rfl rfl ?_
  refine V_i2l C 3092 dL_law_3091 rfl ?_
  refine V_st (st2 := [.long r.toInt64, .long r.toInt64]) (by rw [show f1 (cl (0 : Int32)) = r.toInt64 from hval e] <;> rfl) ?_
  refine V_lcmpE C 3093 dL_law_3092 rfl ?_
  exact V_if_eq C 3098 3096 dL_law_3093 rfl rfl (fun _ => END) (fun e => absurd rfl e)
