/-! ===== cases of the law ===== -/
theorem law_28 {K : KT} {g : G0} {b L o od t cells slots : Nat} {xs : Nat → Int32} {A : XA} {B : MdA} {x : XV} {m : MdV} {f : Nat → Int64} {fd : Nat → UInt64} (Lk : LK K g b L xs) (ht : 3 * t + 2 < L) (h : RX (30 * t) x m) (hr : cells + 100 ≤ 603072 ∧ slots + 10000 ≤ 7194730) (ke : LE K g b o od B t (cells + 100) (slots + 10000)) : V K cells slots (LW g A B x m o od f fd) (lvL A.1 B.1 b o od t) [] 1948 := by
  obtain ⟨C, hBA, hE, hN, hst, -, -, -, hL, h9⟩ := id Lk
  have hR9 : kR K = room_1 := C.2.2.2.2.2.2.1
  have hlt : ∀ i, i < 9 → i < kn K := fun i h => by rw [h9]; exact h
  obtain ⟨r, m1, hx, hm, hRX⟩ := ag_heaviestChapter h
  refine V_aload_n C 4 1949 dL_law_1948 rfl rfl ?_
  refine V_callP C ml_L_260 (pre := mdW g B m ++ [(o, aL g 1 f), (od, aD g 1 fd)]) (post := []) (w := xW g A x) (as := []) (rest := []) (c_X3_heaviestChapter hx) 7 1952 dL_law_1949 rfl ⟨Nat.le_of_ble_eq_true rfl, Nat.le_of_ble_eq_true rfl⟩ rfl (by rw [List.append_nil]; rfl) rfl rfl rfl (Nat.le_of_ble_eq_true rfl) ⟨by rw [hR9]; show cells + 0 ≤ 603072; omega, by rw [hR9]; show slots + 0 ≤ 7194730; omega⟩ ?_
  refine V_aload_n C 3 1953 dL_law_1952 rfl rfl ?_
  refine V_callS C hBA ml_L_263 (pre := []) (post := oW g A o od f fd x) (w0 := mdW g B m) (w1 := mdW g B m1) (as := []) (rest := [.int r]) (c_X4_heaviestChapter (R := (r, m1)) hm) 0 1956 (LW g A B x m1 o od f fd) dL_law_1953 rfl ⟨Nat.le_of_ble_eq_true rfl, Nat.le_of_ble_eq_true rfl⟩ rfl rfl rfl rfl rfl rfl rfl (Nat.le_of_ble_eq_true rfl) ⟨by rw [hR9]; show cells + 0 ≤ 603072; omega, by rw [hR9]; show slots + 0 ≤ 7194730; omega⟩ ?_
  refine V_icmp_eq C 3101 1959 dL_law_1956 rfl rfl (fun _ => ?_) (fun e => absurd rfl e)
  exact V_widen (by omega) (by omega) (ke A x m1 f fd (hRX.mono (by omega)))
theorem law_29 {K : KT} {g : G0} {b L o od t cells slots : Nat} {xs : Nat → Int32} {A : XA} {B : MdA} {x : XV} {m : MdV} {f : Nat → Int64} {fd : Nat → UInt64} (Lk : LK K g b L xs) (ht : 3 * t + 2 < L) (h : RX (30 * t) x m) (hr : cells + 100 ≤ 603072 ∧ slots + 10000 ≤ 7194730) (ke : LE K g b o od B t (cells + 100) (slots + 10000)) : V K cells slots (LW g A B x m o od f fd) (lvL A.1 B.1 b o od t) [] 1961 := by
  obtain ⟨C, hBA, hE, hN, hst, -, -, -, hL, h9⟩ := id Lk
  have hR9 : kR K = room_1 := C.2.2.2.2.2.2.1
  have hlt : ∀ i, i < 9 → i < kn K := fun i h => by rw [h9]; exact h
  obtain ⟨R, r, m1, hx, hm, hok, hout⟩ := Ag.wI (ag_turnPages h (xs (3 * t + 1)) (decide (¬ xs (3 * t + 2) = 0))) (by decide +kernel) (by decide)
  refine V_aload_n C 4 1962 dL_law_1961 rfl rfl ?_
  refine V_arg Lk (t := t) (j := 1) 5 0 1968 (by omega) dL_law_1962 dL_law_1963 dL_law_1965 dL_law_1966 dL_law_1967 rfl rfl rfl rfl ?_
  refine V_arg Lk (t := t) (j := 2) 5 0 1974 (by omega) dL_law_1968 dL_law_1969 dL_law_1971 dL_law_1972 dL_law_1973 rfl rfl rfl rfl ?_
  have G1982 : V K (cells + 0) (slots + 0) (LW g A B x m o od f fd) [(5, .int (nI (3 * t))), (4, .ref od), (3, .ref o), (2, .ref B.1), (1, .ref A.1), (0, .ref b)] [.int (b2 (decide (¬ xs (3 * t + 2) = 0))), .int (xs (3 * t + 1)), .ref A.1] 1982 := by
    refine V_aload_n C 2 1983 dL_law_1982 rfl rfl ?_
    refine V_callH C hBA hE hN lh_turnPages (pre := mdW g B m) (w0 := oW g A o od f fd x) (post := []) (as := [.ref A.1, .int (xs (3 * t + 1)), .int (b2 (decide (¬ xs (3 * t + 2) = 0))), .ref o]) (rest := []) (w_turnPages hst hx hok) dL_law_1983 ⟨Nat.le_of_ble_eq_true rfl, Nat.le_of_ble_eq_true rfl⟩ rfl (by rw [List.append_nil]) rfl (Nat.le_of_ble_eq_true rfl) ⟨by show cells + 1 ≤ 603072; omega, by show slots + 6 ≤ 7194730; omega⟩ (fun rv w1 hP => ?_)
    obtain ⟨kv, f1, x1, rfl, rfl, hth, hval, hRX⟩ := hout _ _ _ _ _ _ _ hP
    refine V_eq (ws2 := LW g A B x1 m o od f1 fd) (by rw [List.append_nil]) ?_
    refine V_istore C 1988 [(6, .int kv), (5, .int (nI (3 * t))), (4, .ref od), (3, .ref o), (2, .ref B.1), (1, .ref A.1), (0, .ref b)] dL_law_1986 rfl (hlt 6 (by decide)) rfl ?_
    refine V_aload_n C 4 1989 dL_law_1988 rfl rfl ?_
    refine V_arg Lk (t := t) (j := 1) 6 1 1995 (by omega) dL_law_1989 dL_law_1990 dL_law_1992 dL_law_1993 dL_law_1994 rfl rfl rfl rfl ?_
    refine V_arg Lk (t := t) (j := 2) 6 1 2001 (by omega) dL_law_1995 dL_law_1996 dL_law_1998 dL_law_1999 dL_law_2000 rfl rfl rfl rfl ?_
    have G2009 : V K (cells + 1) (slots + 6) (LW g A B x1 m o od f1 fd) [(6, .int kv), (5, .int (nI (3 * t))), (4, .ref od), (3, .ref o), (2, .ref B.1), (1, .ref A.1), (0, .ref b)] [.int (b2 (decide (¬ xs (3 * t + 2) = 0))), .int (xs (3 * t + 1)), .ref B.1] 2009 := by
      refine V_callS C hBA ml_L_267 (pre := []) (post := oW g A o od f1 fd x1) (w0 := mdW g B m) (w1 := mdW g B m1) (as := [.int (xs (3 * t + 1)), .int (b2 (decide (¬ xs (3 * t + 2) = 0)))]) (rest := []) (c_X4_turnPages (R := (r, m1)) hm) 0 2012 (LW g A B x1 m1 o od f1 fd) dL_law_2009 rfl ⟨Nat.le_of_ble_eq_true rfl, Nat.le_of_ble_eq_true rfl⟩ rfl rfl rfl rfl rfl rfl rfl (Nat.le_of_ble_eq_true rfl) ⟨by rw [hR9]; show cells + 1 ≤ 603072; omega, by rw [hR9]; show slots + 6 ≤ 7194730; omega⟩ ?_
      refine V_istore C 2014 [(7, .int r), (6, .int kv), (5, .int (nI (3 * t))), (4, .ref od), (3, .ref o), (2, .ref B.1), (1, .ref A.1), (0, .ref b)] dL_law_2012 rfl (hlt 7 (by decide)) rfl ?_
      refine V_aload_n C 5 2015 dL_law_2014 rfl rfl ?_
      refine V_callP C ml_L_175 (pre := []) (post := oW g A o od f1 fd x1) (w := mdW g B m1) (as := []) (rest := []) (c_X4_thrown (v := m1) (R := Md_thrown m1) rfl) 0 2018 dL_law_2015 rfl ⟨Nat.le_of_ble_eq_true rfl, Nat.le_of_ble_eq_true rfl⟩ rfl rfl rfl rfl rfl (Nat.le_of_ble_eq_true rfl) ⟨by rw [hR9]; show cells + 1 ≤ 603072; omega, by rw [hR9]; show slots + 6 ≤ 7194730; omega⟩ ?_
      refine V_iload C 1 2020 dL_law_2018 rfl rfl ?_
      refine V_icmp_eq C 2025 2023 dL_law_2020 rfl rfl (fun _ => ?_) (fun e => absurd hth e)
      refine V_iload C 1 2027 dL_law_2025 rfl rfl ?_
      have END : V K (cells + 1) (slots + 6) (LW g A B x1 m1 o od f1 fd) [(7, .int r), (6, .int kv), (5, .int (nI (3 * t))), (4, .ref od), (3, .ref o), (2, .ref B.1), (1, .ref A.1), (0, .ref b)] [] 2042 := by
        refine V_goto C 3101 dL_law_2042 rfl ?_
        refine V_lv [2, 3, 4, 5, 6, 7] rfl ?_
        exact V_widen (by omega) (by omega) (ke A x1 m1 f1 fd (hRX.mono (by omega)))
      refine V_if_ne C 2042 2030 dL_law_2027 rfl rfl (fun _ => END) (fun e => ?_)
      refine V_aload_n C 4 2031 dL_law_2030 rfl rfl ?_
      refine V_iconst C (0 : Int32) 2032 dL_law_2031 rfl rfl ?_
      refine V_lald C (f := f1) (n := 1) 5 2033 dL_law_2032 rfl rfl (by decide) ?_
      refine V_iload C 0 2035 dL_law_2033 rfl rfl ?_
      refine V_i2l C 2036 dL_law_2035 rfl ?_
      refine V_st (st2 := [.long r.toInt64, .long r.toInt64]) (by rw [show f1 (cl (0 : Int32)) = r.toInt64 from hval e] <;> rfl) ?_
      refine V_lcmpE C 2037 dL_law_2036 rfl ?_
      exact V_if_eq C 2042 2040 dL_law_2037 rfl rfl (fun _ => END) (fun e => absurd rfl e)
    refine V_if_eq C 2008 2004 dL_law_2001 rfl rfl (fun e2 => ?_) (fun e2 => ?_)
    · refine V_iconst C (0 : Int32) 2009 dL_law_2008 rfl rfl ?_
      rw [decide_eq_false (fun q => q e2)] at G2009
      exact G2009
    · refine V_iconst C (1 : Int32) 2005 dL_law_2004 rfl rfl ?_
      refine V_goto C 2009 dL_law_2005 rfl ?_
      rw [decide_eq_true e2] at G2009
      exact G2009
  refine V_if_eq C 1981 1977 dL_law_1974 rfl rfl (fun e2 => ?_) (fun e2 => ?_)
  · refine V_iconst C (0 : Int32) 1982 dL_law_1981 rfl rfl ?_
    rw [decide_eq_false (fun q => q e2)] at G1982
    exact G1982
  · refine V_iconst C (1 : Int32) 1978 dL_law_1977 rfl rfl ?_
    refine V_goto C 1982 dL_law_1978 rfl ?_
    rw [decide_eq_true e2] at G1982
    exact G1982
theorem law_30 {K : KT} {g : G0} {b L o od t cells slots : Nat} {xs : Nat → Int32} {A : XA} {B : MdA} {x : XV} {m : MdV} {f : Nat → Int64} {fd : Nat → UInt64} (Lk : LK K g b L xs) (ht : 3 * t + 2 < L) (h : RX (30 * t) x m) (hr : cells + 100 ≤ 603072 ∧ slots + 10000 ≤ 7194730) (ke : LE K g b o od B t (cells + 100) (slots + 10000)) : V K cells slots (LW g A B x m o od f fd) (lvL A.1 B.1 b o od t) [] 2045 := by
  obtain ⟨C, hBA, hE, hN, hst, -, -, -, hL, h9⟩ := id Lk
  have hR9 : kR K = room_1 := C.2.2.2.2.2.2.1
  have hlt : ∀ i, i < 9 → i < kn K := fun i h => by rw [h9]; exact h
  obtain ⟨r, m1, hx, hm, hRX⟩ := ag_currentPage h
  refine V_aload_n C 4 2046 dL_law_2045 rfl rfl ?_
  refine V_callP C ml_L_268 (pre := mdW g B m ++ [(o, aL g 1 f), (od, aD g 1 fd)]) (post := []) (w := xW g A x) (as := []) (rest := []) (c_X3_currentPage hx) 7 2049 dL_law_2046 rfl ⟨Nat.le_of_ble_eq_true rfl, Nat.le_of_ble_eq_true rfl⟩ rfl (by rw [List.append_nil]; rfl) rfl rfl rfl (Nat.le_of_ble_eq_true rfl) ⟨by rw [hR9]; show cells + 0 ≤ 603072; omega, by rw [hR9]; show slots + 0 ≤ 7194730; omega⟩ ?_
  refine V_aload_n C 3 2050 dL_law_2049 rfl rfl ?_
  refine V_callS C hBA ml_L_271 (pre := []) (post := oW g A o od f fd x) (w0 := mdW g B m) (w1 := mdW g B m1) (as := []) (rest := [.int r]) (c_X4_currentPage (R := (r, m1)) hm) 0 2053 (LW g A B x m1 o od f fd) dL_law_2050 rfl ⟨Nat.le_of_ble_eq_true rfl, Nat.le_of_ble_eq_true rfl⟩ rfl rfl rfl rfl rfl rfl rfl (Nat.le_of_ble_eq_true rfl) ⟨by rw [hR9]; show cells + 0 ≤ 603072; omega, by rw [hR9]; show slots + 0 ≤ 7194730; omega⟩ ?_
  refine V_icmp_eq C 3101 2056 dL_law_2053 rfl rfl (fun _ => ?_) (fun e => absurd rfl e)
  exact V_widen (by omega) (by omega) (ke A x m1 f fd (hRX.mono (by omega)))
theorem law_31 {K : KT} {g : G0} {b L o od t cells slots : Nat} {xs : Nat → Int32} {A : XA} {B : MdA} {x : XV} {m : MdV} {f : Nat → Int64} {fd : Nat → UInt64} (Lk : LK K g b L xs) (ht : 3 * t + 2 < L) (h : RX (30 * t) x m) (hr : cells + 100 ≤ 603072 ∧ slots + 10000 ≤ 7194730) (ke : LE K g b o od B t (cells + 100) (slots + 10000)) : V K cells slots (LW g A B x m o od f fd) (lvL A.1 B.1 b o od t) [] 2058 := by
  obtain ⟨C, hBA, hE, hN, hst, -, -, -, hL, h9⟩ := id Lk
  have hR9 : kR K = room_1 := C.2.2.2.2.2.2.1
  have hlt : ∀ i, i < 9 → i < kn K := fun i h => by rw [h9]; exact h
  obtain ⟨R, r, m1, hx, hm, hok, hout⟩ := Ag.wI (ag_pagesToNextMark h ) (by decide +kernel) (by decide)
  refine V_aload_n C 4 2059 dL_law_2058 rfl rfl ?_
  refine V_aload_n C 2 2060 dL_law_2059 rfl rfl ?_
  refine V_callH C hBA hE hN lh_pagesToNextMark (pre := mdW g B m) (w0 := oW g A o od f fd x) (post := []) (as := [.ref A.1, .ref o]) (rest := []) (w_pagesToNextMark hst hx hok) dL_law_2060 ⟨Nat.le_of_ble_eq_true rfl, Nat.le_of_ble_eq_true rfl⟩ rfl (by rw [List.append_nil]) rfl (Nat.le_of_ble_eq_true rfl) ⟨by show cells + 1 ≤ 603072; omega, by show slots + 6 ≤ 7194730; omega⟩ (fun rv w1 hP => ?_)
  obtain ⟨kv, f1, x1, rfl, rfl, hth, hval, hRX⟩ := hout _ _ _ _ _ _ _ hP
  refine V_eq (ws2 := LW g A B x1 m o od f1 fd) (by rw [List.append_nil]) ?_
  refine V_istore C 2065 [(6, .int kv), (5, .int (nI (3 * t))), (4, .ref od), (3, .ref o), (2, .ref B.1), (1, .ref A.1), (0, .ref b)] dL_law_2063 rfl (hlt 6 (by decide)) rfl ?_
  refine V_aload_n C 4 2066 dL_law_2065 rfl rfl ?_
  refine V_callS C hBA ml_L_275 (pre := []) (post := oW g A o od f1 fd x1) (w0 := mdW g B m) (w1 := mdW g B m1) (as := []) (rest := []) (c_X4_pagesToNextMark (R := (r, m1)) hm) 0 2069 (LW g A B x1 m1 o od f1 fd) dL_law_2066 rfl ⟨Nat.le_of_ble_eq_true rfl, Nat.le_of_ble_eq_true rfl⟩ rfl rfl rfl rfl rfl rfl rfl (Nat.le_of_ble_eq_true rfl) ⟨by rw [hR9]; show cells + 1 ≤ 603072; omega, by rw [hR9]; show slots + 6 ≤ 7194730; omega⟩ ?_
  refine V_istore C 2071 [(7, .int r), (6, .int kv), (5, .int (nI (3 * t))), (4, .ref od), (3, .ref o), (2, .ref B.1), (1, .ref A.1), (0, .ref b)] dL_law_2069 rfl (hlt 7 (by decide)) rfl ?_
  refine V_aload_n C 5 2072 dL_law_2071 rfl rfl ?_
  refine V_callP C ml_L_175 (pre := []) (post := oW g A o od f1 fd x1) (w := mdW g B m1) (as := []) (rest := []) (c_X4_thrown (v := m1) (R := Md_thrown m1) rfl) 0 2075 dL_law_2072 rfl ⟨Nat.le_of_ble_eq_true rfl, Nat.le_of_ble_eq_true rfl⟩ rfl rfl rfl rfl rfl (Nat.le_of_ble_eq_true rfl) ⟨by rw [hR9]; show cells + 1 ≤ 603072; omega, by rw [hR9]; show slots + 6 ≤ 7194730; omega⟩ ?_
  refine V_iload C 1 2077 dL_law_2075 rfl rfl ?_
  refine V_icmp_eq C 2082 2080 dL_law_2077 rfl rfl (fun _ => ?_) (fun e => absurd hth e)
  refine V_iload C 1 2084 dL_law_2082 rfl rfl ?_
  have END : V K (cells + 1) (slots + 6) (LW g A B x1 m1 o od f1 fd) [(7, .int r), (6, .int kv), (5, .int (nI (3 * t))), (4, .ref od), (3, .ref o), (2, .ref B.1), (1, .ref A.1), (0, .ref b)] [] 2099 := by
    refine V_goto C 3101 dL_law_2099 rfl ?_
    refine V_lv [2, 3, 4, 5, 6, 7] rfl ?_
    exact V_widen (by omega) (by omega) (ke A x1 m1 f1 fd (hRX.mono (by omega)))
  refine V_if_ne C 2099 2087 dL_law_2084 rfl rfl (fun _ => END) (fun e => ?_)
  refine V_aload_n C 4 2088 dL_law_2087 rfl rfl ?_
  refine V_iconst C (0 : Int32) 2089 dL_law_2088 rfl rfl ?_
  refine V_lald C (f := f1) (n := 1) 5 2090 dL_law_2089 rfl rfl (by decide) ?_
  refine V_iload C 0 2092 dL_law_2090 rfl rfl ?_
  refine V_i2l C 2093 dL_law_2092 rfl ?_
  refine V_st (st2 := [.long r.toInt64, .long r.toInt64]) (by rw [show f1 (cl (0 : Int32)) = r.toInt64 from hval e] <;> rfl) ?_
  refine V_lcmpE C 2094 dL_law_2093 rfl ?_
  exact V_if_eq C 2099 2097 dL_law_2094 rfl rfl (fun _ => END) (fun e => absurd rfl e)
theorem law_32 {K : KT} {g : G0} {b L o od t cells slots : Nat} {xs : Nat → Int32} {A : XA} {B : MdA} {x : XV} {m : MdV} {f : Nat → Int64} {fd : Nat → UInt64} (Lk : LK K g b L xs) (ht : 3 * t + 2 < L) (h : RX (30 * t) x m) (hr : cells + 100 ≤ 603072 ∧ slots + 10000 ≤ 7194730) (ke : LE K g b o od B t (cells + 100) (slots + 10000)) : V K cells slots (LW g A B x m o od f fd) (lvL A.1 B.1 b o od t) [] 2102 := by
  obtain ⟨C, hBA, hE, hN, hst, -, -, -, hL, h9⟩ := id Lk
  have hR9 : kR K = room_1 := C.2.2.2.2.2.2.1
  have hlt : ∀ i, i < 9 → i < kn K := fun i h => by rw [h9]; exact h
  obtain ⟨R, r, m1, hx, hm, hok, hout⟩ := Ag.wI (ag_earsAtRisk h (xs (3 * t + 1)) (decide (¬ xs (3 * t + 2) = 0))) (by decide +kernel) (by decide)
  refine V_aload_n C 4 2103 dL_law_2102 rfl rfl ?_
  refine V_arg Lk (t := t) (j := 1) 5 0 2109 (by omega) dL_law_2103 dL_law_2104 dL_law_2106 dL_law_2107 dL_law_2108 rfl rfl rfl rfl ?_
  refine V_arg Lk (t := t) (j := 2) 5 0 2115 (by omega) dL_law_2109 dL_law_2110 dL_law_2112 dL_law_2113 dL_law_2114 rfl rfl rfl rfl ?_
  have G2123 : V K (cells + 0) (slots + 0) (LW g A B x m o od f fd) [(5, .int (nI (3 * t))), (4, .ref od), (3, .ref o), (2, .ref B.1), (1, .ref A.1), (0, .ref b)] [.int (b2 (decide (¬ xs (3 * t + 2) = 0))), .int (xs (3 * t + 1)), .ref A.1] 2123 := by
    refine V_aload_n C 2 2124 dL_law_2123 rfl rfl ?_
    refine V_callH C hBA hE hN lh_earsAtRisk (pre := mdW g B m) (w0 := oW g A o od f fd x) (post := []) (as := [.ref A.1, .int (xs (3 * t + 1)), .int (b2 (decide (¬ xs (3 * t + 2) = 0))), .ref o]) (rest := []) (w_earsAtRisk hst hx hok) dL_law_2124 ⟨Nat.le_of_ble_eq_true rfl, Nat.le_of_ble_eq_true rfl⟩ rfl (by rw [List.append_nil]) rfl (Nat.le_of_ble_eq_true rfl) ⟨by show cells + 1 ≤ 603072; omega, by show slots + 6 ≤ 7194730; omega⟩ (fun rv w1 hP => ?_)
    obtain ⟨kv, f1, x1, rfl, rfl, hth, hval, hRX⟩ := hout _ _ _ _ _ _ _ hP
    refine V_eq (ws2 := LW g A B x1 m o od f1 fd) (by rw [List.append_nil]) ?_
    refine V_istore C 2129 [(6, .int kv), (5, .int (nI (3 * t))), (4, .ref od), (3, .ref o), (2, .ref B.1), (1, .ref A.1), (0, .ref b)] dL_law_2127 rfl (hlt 6 (by decide)) rfl ?_
    refine V_aload_n C 4 2130 dL_law_2129 rfl rfl ?_
    refine V_arg Lk (t := t) (j := 1) 6 1 2136 (by omega) dL_law_2130 dL_law_2131 dL_law_2133 dL_law_2134 dL_law_2135 rfl rfl rfl rfl ?_
    refine V_arg Lk (t := t) (j := 2) 6 1 2142 (by omega) dL_law_2136 dL_law_2137 dL_law_2139 dL_law_2140 dL_law_2141 rfl rfl rfl rfl ?_
    have G2150 : V K (cells + 1) (slots + 6) (LW g A B x1 m o od f1 fd) [(6, .int kv), (5, .int (nI (3 * t))), (4, .ref od), (3, .ref o), (2, .ref B.1), (1, .ref A.1), (0, .ref b)] [.int (b2 (decide (¬ xs (3 * t + 2) = 0))), .int (xs (3 * t + 1)), .ref B.1] 2150 := by
      refine V_callS C hBA ml_L_278 (pre := []) (post := oW g A o od f1 fd x1) (w0 := mdW g B m) (w1 := mdW g B m1) (as := [.int (xs (3 * t + 1)), .int (b2 (decide (¬ xs (3 * t + 2) = 0)))]) (rest := []) (c_X4_earsAtRisk (R := (r, m1)) hm) 0 2153 (LW g A B x1 m1 o od f1 fd) dL_law_2150 rfl ⟨Nat.le_of_ble_eq_true rfl, Nat.le_of_ble_eq_true rfl⟩ rfl rfl rfl rfl rfl rfl rfl (Nat.le_of_ble_eq_true rfl) ⟨by rw [hR9]; show cells + 1 ≤ 603072; omega, by rw [hR9]; show slots + 6 ≤ 7194730; omega⟩ ?_
      refine V_istore C 2155 [(7, .int r), (6, .int kv), (5, .int (nI (3 * t))), (4, .ref od), (3, .ref o), (2, .ref B.1), (1, .ref A.1), (0, .ref b)] dL_law_2153 rfl (hlt 7 (by decide)) rfl ?_
      refine V_aload_n C 5 2156 dL_law_2155 rfl rfl ?_
      refine V_callP C ml_L_175 (pre := []) (post := oW g A o od f1 fd x1) (w := mdW g B m1) (as := []) (rest := []) (c_X4_thrown (v := m1) (R := Md_thrown m1) rfl) 0 2159 dL_law_2156 rfl ⟨Nat.le_of_ble_eq_true rfl, Nat.le_of_ble_eq_true rfl⟩ rfl rfl rfl rfl rfl (Nat.le_of_ble_eq_true rfl) ⟨by rw [hR9]; show cells + 1 ≤ 603072; omega, by rw [hR9]; show slots + 6 ≤ 7194730; omega⟩ ?_
      refine V_iload C 1 2161 dL_law_2159 rfl rfl ?_
      refine V_icmp_eq C 2166 2164 dL_law_2161 rfl rfl (fun _ => ?_) (fun e => absurd hth e)
      refine V_iload C 1 2168 dL_law_2166 rfl rfl ?_
      have END : V K (cells + 1) (slots + 6) (LW g A B x1 m1 o od f1 fd) [(7, .int r), (6, .int kv), (5, .int (nI (3 * t))), (4, .ref od), (3, .ref o), (2, .ref B.1), (1, .ref A.1), (0, .ref b)] [] 2183 := by
        refine V_goto C 3101 dL_law_2183 rfl ?_
        refine V_lv [2, 3, 4, 5, 6, 7] rfl ?_
        exact V_widen (by omega) (by omega) (ke A x1 m1 f1 fd (hRX.mono (by omega)))
      refine V_if_ne C 2183 2171 dL_law_2168 rfl rfl (fun _ => END) (fun e => ?_)
      refine V_aload_n C 4 2172 dL_law_2171 rfl rfl ?_
      refine V_iconst C (0 : Int32) 2173 dL_law_2172 rfl rfl ?_
      refine V_lald C (f := f1) (n := 1) 5 2174 dL_law_2173 rfl rfl (by decide) ?_
      refine V_iload C 0 2176 dL_law_2174 rfl rfl ?_
      refine V_i2l C 2177 dL_law_2176 rfl ?_
      refine V_st (st2 := [.long r.toInt64, .long r.toInt64]) (by rw [show f1 (cl (0 : Int32)) = r.toInt64 from hval e] <;> rfl) ?_
      refine V_lcmpE C 2178 dL_law_2177 rfl ?_
      exact V_if_eq C 2183 2181 dL_law_2178 rfl rfl (fun _ => END) (fun e => absurd rfl e)
    refine V_if_eq C 2149 2145 dL_law_2142 rfl rfl (fun e2 => ?_) (fun e2 => ?_)
    · refine V_iconst C (0 : Int32) 2150 dL_law_2149 rfl rfl ?_
      rw [decide_eq_false (fun q => q e2)] at G2150
      exact G2150
    · refine V_iconst C (1 : Int32) 2146 dL_law_2145 rfl rfl ?_
      refine V_goto C 2150 dL_law_2146 rfl ?_
      rw [decide_eq_true e2] at G2150
      exact G2150
  refine V_if_eq C 2122 2118 dL_law_2115 rfl rfl (fun e2 => ?_) (fun e2 => ?_)
  · refine V_iconst C (0 : Int32) 2123 dL_law_2122 rfl rfl ?_
    rw [decide_eq_false (fun q => q e2)] at G2123
    exact G2123
  · refine V_iconst C (1 : Int32) 2119 dL_law_2118 rfl rfl ?_
    refine V_goto C 2123 dL_law_2119 rfl ?_
    rw [decide_eq_true e2] at G2123
    exact G2123
theorem law_33 {K : KT} {g : G0} {b L o od t cells slots : Nat} {xs : Nat → Int32} {A : XA} {B : MdA} {x : XV} {m : MdV} {f : Nat → Int64} {fd : Nat → UInt64} (Lk : LK K g b L xs) (ht : 3 * t + 2 < L) (h : RX (30 * t) x m) (hr : cells + 100 ≤ 603072 ∧ slots + 10000 ≤ 7194730) (ke : LE K g b o od B t (cells + 100) (slots + 10000)) : V K cells slots (LW g A B x m o od f fd) (lvL A.1 B.1 b o od t) [] 2186 := by
  obtain ⟨C, hBA, hE, hN, hst, -, -, -, hL, h9⟩ := id Lk
  have hR9 : kR K = room_1 := C.2.2.2.2.2.2.1
  have hlt : ∀ i, i < 9 → i < kn K := fun i h => by rw [h9]; exact h
  obtain ⟨R, r, m1, hx, hm, hok, hout⟩ := Ag.wI (ag_markByPage h (xs (3 * t + 1))) (by decide +kernel) (by decide)
  refine V_aload_n C 4 2187 dL_law_2186 rfl rfl ?_
  refine V_arg Lk (t := t) (j := 1) 5 0 2193 (by omega) dL_law_2187 dL_law_2188 dL_law_2190 dL_law_2191 dL_law_2192 rfl rfl rfl rfl ?_
  refine V_aload_n C 2 2194 dL_law_2193 rfl rfl ?_
  refine V_callH C hBA hE hN lh_markByPage (pre := mdW g B m) (w0 := oW g A o od f fd x) (post := []) (as := [.ref A.1, .int (xs (3 * t + 1)), .ref o]) (rest := []) (w_markByPage hst hx hok) dL_law_2194 ⟨Nat.le_of_ble_eq_true rfl, Nat.le_of_ble_eq_true rfl⟩ rfl (by rw [List.append_nil]) rfl (Nat.le_of_ble_eq_true rfl) ⟨by show cells + 1 ≤ 603072; omega, by show slots + 6 ≤ 7194730; omega⟩ (fun rv w1 hP => ?_)
  obtain ⟨kv, f1, x1, rfl, rfl, hth, hval, hRX⟩ := hout _ _ _ _ _ _ _ hP
  refine V_eq (ws2 := LW g A B x1 m o od f1 fd) (by rw [List.append_nil]) ?_
  refine V_istore C 2199 [(6, .int kv), (5, .int (nI (3 * t))), (4, .ref od), (3, .ref o), (2, .ref B.1), (1, .ref A.1), (0, .ref b)] dL_law_2197 rfl (hlt 6 (by decide)) rfl ?_
  refine V_aload_n C 4 2200 dL_law_2199 rfl rfl ?_
  refine V_arg Lk (t := t) (j := 1) 6 1 2206 (by omega) dL_law_2200 dL_law_2201 dL_law_2203 dL_law_2204 dL_law_2205 rfl rfl rfl rfl ?_
  refine V_callS C hBA ml_L_281 (pre := []) (post := oW g A o od f1 fd x1) (w0 := mdW g B m) (w1 := mdW g B m1) (as := [.int (xs (3 * t + 1))]) (rest := []) (c_X4_markByPage (R := (r, m1)) hm) 0 2209 (LW g A B x1 m1 o od f1 fd) dL_law_2206 rfl ⟨Nat.le_of_ble_eq_true rfl, Nat.le_of_ble_eq_true rfl⟩ rfl rfl rfl rfl rfl rfl rfl (Nat.le_of_ble_eq_true rfl) ⟨by rw [hR9]; show cells + 1 ≤ 603072; omega, by rw [hR9]; show slots + 6 ≤ 7194730; omega⟩ ?_
  refine V_istore C 2211 [(7, .int r), (6, .int kv), (5, .int (nI (3 * t))), (4, .ref od), (3, .ref o), (2, .ref B.1), (1, .ref A.1), (0, .ref b)] dL_law_2209 rfl (hlt 7 (by decide)) rfl ?_
  refine V_aload_n C 5 2212 dL_law_2211 rfl rfl ?_
  refine V_callP C ml_L_175 (pre := []) (post := oW g A o od f1 fd x1) (w := mdW g B m1) (as := []) (rest := []) (c_X4_thrown (v := m1) (R := Md_thrown m1) rfl) 0 2215 dL_law_2212 rfl ⟨Nat.le_of_ble_eq_true rfl, Nat.le_of_ble_eq_true rfl⟩ rfl rfl rfl rfl rfl (Nat.le_of_ble_eq_true rfl) ⟨by rw [hR9]; show cells + 1 ≤ 603072; omega, by rw [hR9]; show slots + 6 ≤ 7194730; omega⟩ ?_
  refine V_iload C 1 2217 dL_law_2215 rfl rfl ?_
  refine V_icmp_eq C 2222 2220 dL_law_2217 rfl rfl (fun _ => ?_) (fun e => absurd hth e)
  refine V_iload C 1 2224 dL_law_2222 rfl rfl ?_
  have END : V K (cells + 1) (slots + 6) (LW g A B x1 m1 o od f1 fd) [(7, .int r), (6, .int kv), (5, .int (nI (3 * t))), (4, .ref od), (3, .ref o), (2, .ref B.1), (1, .ref A.1), (0, .ref b)] [] 2239 := by
    refine V_goto C 3101 dL_law_2239 rfl ?_
    refine V_lv [2, 3, 4, 5, 6, 7] rfl ?_
    exact V_widen (by omega) (by omega) (ke A x1 m1 f1 fd (hRX.mono (by omega)))
  refine V_if_ne C 2239 2227 dL_law_2224 rfl rfl (fun _ => END) (fun e => ?_)
  refine V_aload_n C 4 2228 dL_law_2227 rfl rfl ?_
  refine V_iconst C (0 : Int32) 2229 dL_law_2228 rfl rfl ?_
  refine V_lald C (f := f1) (n := 1) 5 2230 dL_law_2229 rfl rfl (by decide) ?_
  refine V_iload C 0 2232 dL_law_2230 rfl rfl ?_
  refine V_i2l C 2233 dL_law_2232 rfl ?_
  refine V_st (st2 := [.long r.toInt64, .long r.toInt64]) (by rw [show f1 (cl (0 : Int32)) = r.toInt64 from hval e] <;> rfl) ?_
  refine V_lcmpE C 2234 dL_law_2233 rfl ?_
  exact V_if_eq C 2239 2237 dL_law_2234 rfl rfl (fun _ => END) (fun e => absurd rfl e)
theorem law_34 {K : KT} {g : G0} {b L o od t cells slots : Nat} {xs : Nat → Int32} {A : XA} {B : MdA} {x : XV} {m : MdV} {f : Nat → Int64} {fd : Nat → UInt64} (Lk : LK K g b L xs) (ht : 3 * t + 2 < L) (h : RX (30 * t) x m) (hr : cells + 100 ≤ 603072 ∧ slots + 10000 ≤ 7194730) (ke : LE K g b o od B t (cells + 100) (slots + 10000)) : V K cells slots (LW g A B x m o od f fd) (lvL A.1 B.1 b o od t) [] 2242 := by
  obtain ⟨C, hBA, hE, hN, hst, -, -, -, hL, h9⟩ := id Lk
  have hR9 : kR K = room_1 := C.2.2.2.2.2.2.1
  have hlt : ∀ i, i < 9 → i < kn K := fun i h => by rw [h9]; exact h
  obtain ⟨R, r, m1, hx, hm, hok, hout⟩ := Ag.wI (ag_markByWeight h (xs (3 * t + 1))) (by decide +kernel) (by decide)
  refine V_aload_n C 4 2243 dL_law_2242 rfl rfl ?_
  refine V_arg Lk (t := t) (j := 1) 5 0 2249 (by omega) dL_law_2243 dL_law_2244 dL_law_2246 dL_law_2247 dL_law_2248 rfl rfl rfl rfl ?_
  refine V_aload_n C 2 2250 dL_law_2249 rfl rfl ?_
  refine V_callH C hBA hE hN lh_markByWeight (pre := mdW g B m) (w0 := oW g A o od f fd x) (post := []) (as := [.ref A.1, .int (xs (3 * t + 1)), .ref o]) (rest := []) (w_markByWeight hst hx hok) dL_law_2250 ⟨Nat.le_of_ble_eq_true rfl, Nat.le_of_ble_eq_true rfl⟩ rfl (by rw [List.append_nil]) rfl (Nat.le_of_ble_eq_true rfl) ⟨by show cells + 1 ≤ 603072; omega, by show slots + 6 ≤ 7194730; omega⟩ (fun rv w1 hP => ?_)
  obtain ⟨kv, f1, x1, rfl, rfl, hth, hval, hRX⟩ := hout _ _ _ _ _ _ _ hP
  refine V_eq (ws2 := LW g A B x1 m o od f1 fd) (by rw [List.append_nil]) ?_
  refine V_istore C 2255 [(6, .int kv), (5, .int (nI (3 * t))), (4, .ref od), (3, .ref o), (2, .ref B.1), (1, .ref A.1), (0, .ref b)] dL_law_2253 rfl (hlt 6 (by decide)) rfl ?_
  refine V_aload_n C 4 2256 dL_law_2255 rfl rfl ?_
  refine V_arg Lk (t := t) (j := 1) 6 1 2262 (by omega) dL_law_2256 dL_law_2257 dL_law_2259 dL_law_2260 dL_law_2261 rfl rfl rfl rfl ?_
  refine V_callS C hBA ml_L_284 (pre := []) (post := oW g A o od f1 fd x1) (w0 := mdW g B m) (w1 := mdW g B m1) (as := [.int (xs (3 * t + 1))]) (rest := []) (c_X4_markByWeight (R := (r, m1)) hm) 0 2265 (LW g A B x1 m1 o od f1 fd) dL_law_2262 rfl ⟨Nat.le_of_ble_eq_true rfl, Nat.le_of_ble_eq_true rfl⟩ rfl rfl rfl rfl rfl rfl rfl (Nat.le_of_ble_eq_true rfl) ⟨by rw [hR9]; show cells + 1 ≤ 603072; omega, by rw [hR9]; show slots + 6 ≤ 7194730; omega⟩ ?_
  refine V_istore C 2267 [(7, .int r), (6, .int kv), (5, .int (nI (3 * t))), (4, .ref od), (3, .ref o), (2, .ref B.1), (1, .ref A.1), (0, .ref b)] dL_law_2265 rfl (hlt 7 (by decide)) rfl ?_
  refine V_aload_n C 5 2268 dL_law_2267 rfl rfl ?_
  refine V_callP C ml_L_175 (pre := []) (post := oW g A o od f1 fd x1) (w := mdW g B m1) (as := []) (rest := []) (c_X4_thrown (v := m1) (R := Md_thrown m1) rfl) 0 2271 dL_law_2268 rfl ⟨Nat.le_of_ble_eq_true rfl, Nat.le_of_ble_eq_true rfl⟩ rfl rfl rfl rfl rfl (Nat.le_of_ble_eq_true rfl) ⟨by rw [hR9]; show cells + 1 ≤ 603072; omega, by rw [hR9]; show slots + 6 ≤ 7194730; omega⟩ ?_
  refine V_iload C 1 2273 dL_law_2271 rfl rfl ?_
  refine V_icmp_eq C 2278 2276 dL_law_2273 rfl rfl (fun _ => ?_) (fun e => absurd hth e)
  refine V_iload C 1 2280 dL_law_2278 rfl rfl ?_
  have END : V K (cells + 1) (slots + 6) (LW g A B x1 m1 o od f1 fd) [(7, .int r), (6, .int kv), (5, .int (nI (3 * t))), (4, .ref od), (3, .ref o), (2, .ref B.1), (1, .ref A.1), (0, .ref b)] [] 2295 := by
    refine V_goto C 3101 dL_law_2295 rfl ?_
    refine V_lv [2, 3, 4, 5, 6, 7] rfl ?_
    exact V_widen (by omega) (by omega) (ke A x1 m1 f1 fd (hRX.mono (by omega)))
  refine V_if_ne C 2295 2283 dL_law_2280 rfl rfl (fun _ => END) (fun e => ?_)
  refine V_aload_n C 4 2284 dL_law_2283 rfl rfl ?_
  refine V_iconst C (0 : Int32) 2285 dL_law_2284 rfl rfl ?_
  refine V_lald C (f := f1) (n := 1) 5 2286 dL_law_2285 rfl rfl (by decide) ?_
  refine V_iload C 0 2288 dL_law_2286 rfl rfl ?_
  refine V_i2l C 2289 dL_law_2288 rfl ?_
  refine V_st (st2 := [.long r.toInt64, .long r.toInt64]) (by rw [show f1 (cl (0 : Int32)) = r.toInt64 from hval e] <;> rfl) ?_
  refine V_lcmpE C 2290 dL_law_2289 rfl ?_
  exact V_if_eq C 2295 2293 dL_law_2290 rfl rfl (fun _ => END) (fun e => absurd rfl e)
theorem law_35 {K : KT} {g : G0} {b L o od t cells slots : Nat} {xs : Nat → Int32} {A : XA} {B : MdA} {x : XV} {m : MdV} {f : Nat → Int64} {fd : Nat → UInt64} (Lk : LK K g b L xs) (ht : 3 * t + 2 < L) (h : RX (30 * t) x m) (hr : cells + 100 ≤ 603072 ∧ slots + 10000 ≤ 7194730) (ke : LE K g b o od B t (cells + 100) (slots + 10000)) : V K cells slots (LW g A B x m o od f fd) (lvL A.1 B.1 b o od t) [] 2298 := by
  obtain ⟨C, hBA, hE, hN, hst, -, -, -, hL, h9⟩ := id Lk
  have hR9 : kR K = room_1 := C.2.2.2.2.2.2.1
  have hlt : ∀ i, i < 9 → i < kn K := fun i h => by rw [h9]; exact h
  obtain ⟨r, m1, hx, hm, hRX⟩ := ag_span h
  refine V_aload_n C 4 2299 dL_law_2298 rfl rfl ?_
  refine V_callP C ml_L_285 (pre := mdW g B m ++ [(o, aL g 1 f), (od, aD g 1 fd)]) (post := []) (w := xW g A x) (as := []) (rest := []) (c_X3_span hx) 7 2302 dL_law_2299 rfl ⟨Nat.le_of_ble_eq_true rfl, Nat.le_of_ble_eq_true rfl⟩ rfl (by rw [List.append_nil]; rfl) rfl rfl rfl (Nat.le_of_ble_eq_true rfl) ⟨by rw [hR9]; show cells + 0 ≤ 603072; omega, by rw [hR9]; show slots + 0 ≤ 7194730; omega⟩ ?_
  refine V_aload_n C 3 2303 dL_law_2302 rfl rfl ?_
  refine V_callS C hBA ml_L_288 (pre := []) (post := oW g A o od f fd x) (w0 := mdW g B m) (w1 := mdW g B m1) (as := []) (rest := [.int r]) (c_X4_span (R := (r, m1)) hm) 0 2306 (LW g A B x m1 o od f fd) dL_law_2303 rfl ⟨Nat.le_of_ble_eq_true rfl, Nat.le_of_ble_eq_true rfl⟩ rfl rfl rfl rfl rfl rfl rfl (Nat.le_of_ble_eq_true rfl) ⟨by rw [hR9]; show cells + 0 ≤ 603072; omega, by rw [hR9]; show slots + 0 ≤ 7194730; omega⟩ ?_
  refine V_icmp_eq C 3101 2309 dL_law_2306 rfl rfl (fun _ => ?_) (fun e => absurd rfl e)
  exact V_widen (by omega) (by omega) (ke A x m1 f fd (hRX.mono (by omega)))
theorem law_36 {K : KT} {g : G0} {b L o od t cells slots : Nat} {xs : Nat → Int32} {A : XA} {B : MdA} {x : XV} {m : MdV} {f : Nat → Int64} {fd : Nat → UInt64} (Lk : LK K g b L xs) (ht : 3 * t + 2 < L) (h : RX (30 * t) x m) (hr : cells + 100 ≤ 603072 ∧ slots + 10000 ≤ 7194730) (ke : LE K g b o od B t (cells + 100) (slots + 10000)) : V K cells slots (LW g A B x m o od f fd) (lvL A.1 B.1 b o od t) [] 2311 := by
  obtain ⟨C, hBA, hE, hN, hst, -, -, -, hL, h9⟩ := id Lk
  have hR9 : kR K = room_1 := C.2.2.2.2.2.2.1
  have hlt : ∀ i, i < 9 → i < kn K := fun i h => by rw [h9]; exact h
  obtain ⟨r, m1, hx, hm, hRX⟩ := ag_spanByEnds h
  refine V_aload_n C 4 2312 dL_law_2311 rfl rfl ?_
  refine V_callP C ml_L_289 (pre := mdW g B m ++ [(o, aL g 1 f), (od, aD g 1 fd)]) (post := []) (w := xW g A x) (as := []) (rest := []) (c_X3_spanByEnds hx) 7 2315 dL_law_2312 rfl ⟨Nat.le_of_ble_eq_true rfl, Nat.le_of_ble_eq_true rfl⟩ rfl (by rw [List.append_nil]; rfl) rfl rfl rfl (Nat.le_of_ble_eq_true rfl) ⟨by rw [hR9]; show cells + 0 ≤ 603072; omega, by rw [hR9]; show slots + 0 ≤ 7194730; omega⟩ ?_
  refine V_aload_n C 3 2316 dL_law_2315 rfl rfl ?_
  refine V_callS C hBA ml_L_292 (pre := []) (post := oW g A o od f fd x) (w0 := mdW g B m) (w1 := mdW g B m1) (as := []) (rest := [.int r]) (c_X4_spanByEnds (R := (r, m1)) hm) 0 2319 (LW g A B x m1 o od f fd) dL_law_2316 rfl ⟨Nat.le_of_ble_eq_true rfl, Nat.le_of_ble_eq_true rfl⟩ rfl rfl rfl rfl rfl rfl rfl (Nat.le_of_ble_eq_true rfl) ⟨by rw [hR9]; show cells + 0 ≤ 603072; omega, by rw [hR9]; show slots + 0 ≤ 7194730; omega⟩ ?_
  refine V_icmp_eq C 3101 2322 dL_law_2319 rfl rfl (fun _ => ?_) (fun e => absurd rfl e)
  exact V_widen (by omega) (by omega) (ke A x m1 f fd (hRX.mono (by omega)))
theorem law_37 {K : KT} {g : G0} {b L o od t cells slots : Nat} {xs : Nat → Int32} {A : XA} {B : MdA} {x : XV} {m : MdV} {f : Nat → Int64} {fd : Nat → UInt64} (Lk : LK K g b L xs) (ht : 3 * t + 2 < L) (h : RX (30 * t) x m) (hr : cells + 100 ≤ 603072 ∧ slots + 10000 ≤ 7194730) (ke : LE K g b o od B t (cells + 100) (slots + 10000)) : V K cells slots (LW g A B x m o od f fd) (lvL A.1 B.1 b o od t) [] 2324 := by
  obtain ⟨C, hBA, hE, hN, hst, -, -, -, hL, h9⟩ := id Lk
  have hR9 : kR K = room_1 := C.2.2.2.2.2.2.1
  have hlt : ∀ i, i < 9 → i < kn K := fun i h => by rw [h9]; exact h
  obtain ⟨r, m1, hx, hm, hRX⟩ := ag_ribbonWeight h
  refine V_aload_n C 4 2325 dL_law_2324 rfl rfl ?_
  refine V_callP C ml_L_293 (pre := mdW g B m ++ [(o, aL g 1 f), (od, aD g 1 fd)]) (post := []) (w := xW g A x) (as := []) (rest := []) (c_X3_ribbonWeight hx) 7 2328 dL_law_2325 rfl ⟨Nat.le_of_ble_eq_true rfl, Nat.le_of_ble_eq_true rfl⟩ rfl (by rw [List.append_nil]; rfl) rfl rfl rfl (Nat.le_of_ble_eq_true rfl) ⟨by rw [hR9]; show cells + 0 ≤ 603072; omega, by rw [hR9]; show slots + 0 ≤ 7194730; omega⟩ ?_
  refine V_aload_n C 3 2329 dL_law_2328 rfl rfl ?_
  refine V_callS C hBA ml_L_296 (pre := []) (post := oW g A o od f fd x) (w0 := mdW g B m) (w1 := mdW g B m1) (as := []) (rest := [.int r]) (c_X4_ribbonWeight (R := (r, m1)) hm) 0 2332 (LW g A B x m1 o od f fd) dL_law_2329 rfl ⟨Nat.le_of_ble_eq_true rfl, Nat.le_of_ble_eq_true rfl⟩ rfl rfl rfl rfl rfl rfl rfl (Nat.le_of_ble_eq_true rfl) ⟨by rw [hR9]; show cells + 0 ≤ 603072; omega, by rw [hR9]; show slots + 0 ≤ 7194730; omega⟩ ?_
  refine V_icmp_eq C 3101 2335 dL_law_2332 rfl rfl (fun _ => ?_) (fun e => absurd rfl e)
  exact V_widen (by omega) (by omega) (ke A x m1 f fd (hRX.mono (by omega)))
theorem law_38 {K : KT} {g : G0} {b L o od t cells slots : Nat} {xs : Nat → Int32} {A : XA} {B : MdA} {x : XV} {m : MdV} {f : Nat → Int64} {fd : Nat → UInt64} (Lk : LK K g b L xs) (ht : 3 * t + 2 < L) (h : RX (30 * t) x m) (hr : cells + 100 ≤ 603072 ∧ slots + 10000 ≤ 7194730) (ke : LE K g b o od B t (cells + 100) (slots + 10000)) : V K cells slots (LW g A B x m o od f fd) (lvL A.1 B.1 b o od t) [] 2337 := by
  obtain ⟨C, hBA, hE, hN, hst, -, -, -, hL, h9⟩ := id Lk
  have hR9 : kR K = room_1 := C.2.2.2.2.2.2.1
  have hlt : ∀ i, i < 9 → i < kn K := fun i h => by rw [h9]; exact h
  obtain ⟨r, m1, hx, hm, hRX⟩ := ag_dogEarWeight h
  refine V_aload_n C 4 2338 dL_law_2337 rfl rfl ?_
  refine V_callP C ml_L_297 (pre := mdW g B m ++ [(o, aL g 1 f), (od, aD g 1 fd)]) (post := []) (w := xW g A x) (as := []) (rest := []) (c_X3_dogEarWeight hx) 7 2341 dL_law_2338 rfl ⟨Nat.le_of_ble_eq_true rfl, Nat.le_of_ble_eq_true rfl⟩ rfl (by rw [List.append_nil]; rfl) rfl rfl rfl (Nat.le_of_ble_eq_true rfl) ⟨by rw [hR9]; show cells + 0 ≤ 603072; omega, by rw [hR9]; show slots + 0 ≤ 7194730; omega⟩ ?_
  refine V_aload_n C 3 2342 dL_law_2341 rfl rfl ?_
  refine V_callS C hBA ml_L_300 (pre := []) (post := oW g A o od f fd x) (w0 := mdW g B m) (w1 := mdW g B m1) (as := []) (rest := [.int r]) (c_X4_dogEarWeight (R := (r, m1)) hm) 0 2345 (LW g A B x m1 o od f fd) dL_law_2342 rfl ⟨Nat.le_of_ble_eq_true rfl, Nat.le_of_ble_eq_true rfl⟩ rfl rfl rfl rfl rfl rfl rfl (Nat.le_of_ble_eq_true rfl) ⟨by rw [hR9]; show cells + 0 ≤ 603072; omega, by rw [hR9]; show slots + 0 ≤ 7194730; omega⟩ ?_
  refine V_icmp_eq C 3101 2348 dL_law_2345 rfl rfl (fun _ => ?_) (fun e => absurd rfl e)
  exact V_widen (by omega) (by omega) (ke A x m1 f fd (hRX.mono (by omega)))
theorem law_39 {K : KT} {g : G0} {b L o od t cells slots : Nat} {xs : Nat → Int32} {A : XA} {B : MdA} {x : XV} {m : MdV} {f : Nat → Int64} {fd : Nat → UInt64} (Lk : LK K g b L xs) (ht : 3 * t + 2 < L) (h : RX (30 * t) x m) (hr : cells + 100 ≤ 603072 ∧ slots + 10000 ≤ 7194730) (ke : LE K g b o od B t (cells + 100) (slots + 10000)) : V K cells slots (LW g A B x m o od f fd) (lvL A.1 B.1 b o od t) [] 2350 := by
  obtain ⟨C, hBA, hE, hN, hst, -, -, -, hL, h9⟩ := id Lk
  have hR9 : kR K = room_1 := C.2.2.2.2.2.2.1
  have hlt : ∀ i, i < 9 → i < kn K := fun i h => by rw [h9]; exact h
  obtain ⟨r, m1, hx, hm, hRX⟩ := ag_markCount h
  refine V_aload_n C 4 2351 dL_law_2350 rfl rfl ?_
  refine V_callP C ml_L_301 (pre := mdW g B m ++ [(o, aL g 1 f), (od, aD g 1 fd)]) (post := []) (w := xW g A x) (as := []) (rest := []) (c_X3_markCount hx) 7 2354 dL_law_2351 rfl ⟨Nat.le_of_ble_eq_true rfl, Nat.le_of_ble_eq_true rfl⟩ rfl (by rw [List.append_nil]; rfl) rfl rfl rfl (Nat.le_of_ble_eq_true rfl) ⟨by rw [hR9]; show cells + 0 ≤ 603072; omega, by rw [hR9]; show slots + 0 ≤ 7194730; omega⟩ ?_
  refine V_aload_n C 3 2355 dL_law_2354 rfl rfl ?_
  refine V_callS C hBA ml_L_304 (pre := []) (post := oW g A o od f fd x) (w0 := mdW g B m) (w1 := mdW g B m1) (as := []) (rest := [.int r]) (c_X4_markCount (R := (r, m1)) hm) 0 2358 (LW g A B x m1 o od f fd) dL_law_2355 rfl ⟨Nat.le_of_ble_eq_true rfl, Nat.le_of_ble_eq_true rfl⟩ rfl rfl rfl rfl rfl rfl rfl (Nat.le_of_ble_eq_true rfl) ⟨by rw [hR9]; show cells + 0 ≤ 603072; omega, by rw [hR9]; show slots + 0 ≤ 7194730; omega⟩ ?_
  refine V_icmp_eq C 3101 2361 dL_law_2358 rfl rfl (fun _ => ?_) (fun e => absurd rfl e)
  exact V_widen (by omega) (by omega) (ke A x m1 f fd (hRX.mono (by omega)))
theorem law_40 {K : KT} {g : G0} {b L o od t cells slots : Nat} {xs : Nat → Int32} {A : XA} {B : MdA} {x : XV} {m : MdV} {f : Nat → Int64} {fd : Nat → UInt64} (Lk : LK K g b L xs) (ht : 3 * t + 2 < L) (h : RX (30 * t) x m) (hr : cells + 100 ≤ 603072 ∧ slots + 10000 ≤ 7194730) (ke : LE K g b o od B t (cells + 100) (slots + 10000)) : V K cells slots (LW g A B x m o od f fd) (lvL A.1 B.1 b o od t) [] 2363 := by
  obtain ⟨C, hBA, hE, hN, hst, -, -, -, hL, h9⟩ := id Lk
  have hR9 : kR K = room_1 := C.2.2.2.2.2.2.1
  have hlt : ∀ i, i < 9 → i < kn K := fun i h => by rw [h9]; exact h
  obtain ⟨r, m1, hx, hm, hRX⟩ := ag_ribbonCount h
  refine V_aload_n C 4 2364 dL_law_2363 rfl rfl ?_
  refine V_callP C ml_L_305 (pre := mdW g B m ++ [(o, aL g 1 f), (od, aD g 1 fd)]) (post := []) (w := xW g A x) (as := []) (rest := []) (c_X3_ribbonCount hx) 7 2367 dL_law_2364 rfl ⟨Nat.le_of_ble_eq_true rfl, Nat.le_of_ble_eq_true rfl⟩ rfl (by rw [List.append_nil]; rfl) rfl rfl rfl (Nat.le_of_ble_eq_true rfl) ⟨by rw [hR9]; show cells + 0 ≤ 603072; omega, by rw [hR9]; show slots + 0 ≤ 7194730; omega⟩ ?_
  refine V_aload_n C 3 2368 dL_law_2367 rfl rfl ?_
  refine V_callS C hBA ml_L_308 (pre := []) (post := oW g A o od f fd x) (w0 := mdW g B m) (w1 := mdW g B m1) (as := []) (rest := [.int r]) (c_X4_ribbonCount (R := (r, m1)) hm) 0 2371 (LW g A B x m1 o od f fd) dL_law_2368 rfl ⟨Nat.le_of_ble_eq_true rfl, Nat.le_of_ble_eq_true rfl⟩ rfl rfl rfl rfl rfl rfl rfl (Nat.le_of_ble_eq_true rfl) ⟨by rw [hR9]; show cells + 0 ≤ 603072; omega, by rw [hR9]; show slots + 0 ≤ 7194730; omega⟩ ?_
  refine V_icmp_eq C 3101 2374 dL_law_2371 rfl rfl (fun _ => ?_) (fun e => absurd rfl e)
  exact V_widen (by omega) (by omega) (ke A x m1 f fd (hRX.mono (by omega)))
theorem law_41 {K : KT} {g : G0} {b L o od t cells slots : Nat} {xs : Nat → Int32} {A : XA} {B : MdA} {x : XV} {m : MdV} {f : Nat → Int64} {fd : Nat → UInt64} (Lk : LK K g b L xs) (ht : 3 * t + 2 < L) (h : RX (30 * t) x m) (hr : cells + 100 ≤ 603072 ∧ slots + 10000 ≤ 7194730) (ke : LE K g b o od B t (cells + 100) (slots + 10000)) : V K cells slots (LW g A B x m o od f fd) (lvL A.1 B.1 b o od t) [] 2376 := by
  obtain ⟨C, hBA, hE, hN, hst, -, -, -, hL, h9⟩ := id Lk
  have hR9 : kR K = room_1 := C.2.2.2.2.2.2.1
  have hlt : ∀ i, i < 9 → i < kn K := fun i h => by rw [h9]; exact h
  obtain ⟨r, m1, hx, hm, hRX⟩ := ag_chapterCount h
  refine V_aload_n C 4 2377 dL_law_2376 rfl rfl ?_
  refine V_callP C ml_L_309 (pre := mdW g B m ++ [(o, aL g 1 f), (od, aD g 1 fd)]) (post := []) (w := xW g A x) (as := []) (rest := []) (c_X3_chapterCount hx) 7 2380 dL_law_2377 rfl ⟨Nat.le_of_ble_eq_true rfl, Nat.le_of_ble_eq_true rfl⟩ rfl (by rw [List.append_nil]; rfl) rfl rfl rfl (Nat.le_of_ble_eq_true rfl) ⟨by rw [hR9]; show cells + 0 ≤ 603072; omega, by rw [hR9]; show slots + 0 ≤ 7194730; omega⟩ ?_
  refine V_aload_n C 3 2381 dL_law_2380 rfl rfl ?_
  refine V_callS C hBA ml_L_312 (pre := []) (post := oW g A o od f fd x) (w0 := mdW g B m) (w1 := mdW g B m1) (as := []) (rest := [.int r]) (c_X4_chapterCount (R := (r, m1)) hm) 0 2384 (LW g A B x m1 o od f fd) dL_law_2381 rfl ⟨Nat.le_of_ble_eq_true rfl, Nat.le_of_ble_eq_true rfl⟩ rfl rfl rfl rfl rfl rfl rfl (Nat.le_of_ble_eq_true rfl) ⟨by rw [hR9]; show cells + 0 ≤ 603072; omega, by rw [hR9]; show slots + 0 ≤ 7194730; omega⟩ ?_
  refine V_icmp_eq C 3101 2387 dL_law_2384 rfl rfl (fun _ => ?_) (fun e => absurd rfl e)
  exact V_widen (by omega) (by omega) (ke A x m1 f fd (hRX.mono (by omega)))
