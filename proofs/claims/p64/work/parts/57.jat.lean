/-! ===== text building: charAt ===== -/
theorem q1053x : Cond.fieldLink "java/lang/String" 1053 "jdk/internal/util/Preconditions" "SIOOBE_FORMATTER" "Ljava/util/function/BiFunction;" ∈ wU := mU 705 (by decide +kernel) (by decide +kernel)
theorem and_asc {k : Nat} (h : k < 128) : ((nI k &&& (255 : Int32)).toUInt32 % 65536).toInt32 = nI k := by
  have key : ∀ c : Fin 128, ((nI c.val &&& (255 : Int32)).toUInt32 % 65536).toInt32 = nI c.val := by decide +kernel
  exact key ⟨k, h⟩
theorem nar_c {k : Nat} (h : k < 128) : narrow .char (.int (nI k)) = .int (nI k) := by
  have key : ∀ c : Fin 128, narrow .char (.int (nI c.val)) = .int (nI c.val) := by decide +kernel
  exact key ⟨k, h⟩
theorem c_jchk3 {l : Launch} {D : va_G} {g : G0} {i n : Nat} {r : Nat} (h : i < n) (hn : n < 2 ^ 31) : CtN l D g yJ3_checkIndex_8e157 cJ3_checkIndex_8e157 3 (some .int) (rmN 0 0 0 0) [] [.int (nI i), .int (nI n), .ref r] (fun rv w1 => rv = some (.int (nI i)) ∧ w1 = []) 0 0 := by
  refine CtN.of (by decide) (Nat.le_of_ble_eq_true rfl) ?_
  intro K C Z hBA el eD ekn
  subst el
  subst eD
  show V K 0 0 [] [(0, .int (nI i)), (1, .int (nI n)), (2, .ref r)] [] 0
  refine V_lv [0, 1] rfl ?_
  show V K 0 0 [] [(0, .int (nI i)), (1, .int (nI n))] [] 0
  refine V_iload_n C 0 1 dJ3_checkIndex_8e157_0 rfl rfl ?_
  refine V_if_lt C 9 4 dJ3_checkIndex_8e157_1 rfl rfl (fun e => absurd e (nI_pos (by omega))) (fun _ => ?_)
  refine V_iload_n C 0 5 dJ3_checkIndex_8e157_4 rfl rfl ?_
  refine V_iload_n C 1 6 dJ3_checkIndex_8e157_5 rfl rfl ?_
  refine V_icmp_lt C 16 9 dJ3_checkIndex_8e157_6 rfl rfl (fun _ => ?_) (fun e => absurd (nI_lt h hn) e)
  refine V_iload_n C 0 17 dJ3_checkIndex_8e157_16 rfl rfl ?_
  exact V_nretI C Z rfl rfl ⟨rfl, rfl⟩ dJ3_checkIndex_8e157_17 (Nat.zero_le _) (Nat.zero_le _)
theorem c_jchk3n {l : Launch} {D : va_G} {g : G0} {i n : Nat} (h : i < n) (hn : n < 2 ^ 31) : CtN l D g yJ3_checkIndex_8e157 cJ3_checkIndex_8e157 3 (some .int) (rmN 0 0 0 0) [] [.int (nI i), .int (nI n), .null] (fun rv w1 => rv = some (.int (nI i)) ∧ w1 = []) 0 0 := by
  refine CtN.of (by decide) (Nat.le_of_ble_eq_true rfl) ?_
  intro K C Z hBA el eD ekn
  subst el
  subst eD
  show V K 0 0 [] [(0, .int (nI i)), (1, .int (nI n)), (2, .null)] [] 0
  refine V_lv [0, 1] rfl ?_
  show V K 0 0 [] [(0, .int (nI i)), (1, .int (nI n))] [] 0
  refine V_iload_n C 0 1 dJ3_checkIndex_8e157_0 rfl rfl ?_
  refine V_if_lt C 9 4 dJ3_checkIndex_8e157_1 rfl rfl (fun e => absurd e (nI_pos (by omega))) (fun _ => ?_)
  refine V_iload_n C 0 5 dJ3_checkIndex_8e157_4 rfl rfl ?_
  refine V_iload_n C 1 6 dJ3_checkIndex_8e157_5 rfl rfl ?_
  refine V_icmp_lt C 16 9 dJ3_checkIndex_8e157_6 rfl rfl (fun _ => ?_) (fun e => absurd (nI_lt h hn) e)
  refine V_iload_n C 0 17 dJ3_checkIndex_8e157_16 rfl rfl ?_
  exact V_nretI C Z rfl rfl ⟨rfl, rfl⟩ dJ3_checkIndex_8e157_17 (Nat.zero_le _) (Nat.zero_le _)
theorem c_jchk0 {l : Launch} {D : va_G} {g : G0} {i n : Nat} (h : i < n) (hn : n < 2 ^ 31) : CtN l D g yJ0_checkIndex_df160 cJ0_checkIndex_df160 2 none (rmN 1 22 0 0) ([]) [.int (nI i), .int (nI n)] (fun rv w1 => rv = none ∧ w1 = []) 0 0 := by
  refine CtN.of (by decide) (Nat.le_of_ble_eq_true rfl) ?_
  intro K C Z hBA el eD ekn
  subst el
  subst eD
  have hlt : ∀ i, i < 2 → i < kn K := fun i h => by rw [ekn]; exact h
  show V K 0 0 ([]) [(0, .int (nI i)), (1, .int (nI n))] [] 0
  refine V_iload_n C 0 1 dJ0_checkIndex_df160_0 rfl rfl ?_
  refine V_iload_n C 1 2 dJ0_checkIndex_df160_1 rfl rfl ?_
  rcases Z.1.2.2.2.2.1 with hz | ⟨r, hz⟩
  · refine V_gets C 5 hz q1053x rfl dJ0_checkIndex_df160_2 rfl ?_
    refine V_callNs (as := [.int (nI i), .int (nI n), .null]) (pre := []) (w0 := []) (post := []) (rest := []) C hBA Z.1 lz_J0_1059 q775 (c_jchk3n h hn) dJ0_checkIndex_df160_5 (by decide) rfl rfl rfl (by decide) ⟨Nat.le_refl _, Nat.le_refl _⟩ (fun rv w1 hP => ?_)
    obtain ⟨rfl, rfl⟩ := hP
    show V K 0 0 [] [(0, .int (nI i)), (1, .int (nI n))] [.int (nI i)] 8
    refine V_pop C 9 dJ0_checkIndex_df160_8 rfl rfl ?_
    exact V_nretV C Z rfl ⟨rfl, rfl⟩ dJ0_checkIndex_df160_9 (Nat.le_refl _) (Nat.le_refl _)
  · refine V_gets C 5 hz q1053x rfl dJ0_checkIndex_df160_2 rfl ?_
    refine V_callNs (as := [.int (nI i), .int (nI n), .ref r]) (pre := []) (w0 := []) (post := []) (rest := []) C hBA Z.1 lz_J0_1059 q775 (c_jchk3 h hn) dJ0_checkIndex_df160_5 (by decide) rfl rfl rfl (by decide) ⟨Nat.le_refl _, Nat.le_refl _⟩ (fun rv w1 hP => ?_)
    obtain ⟨rfl, rfl⟩ := hP
    show V K 0 0 [] [(0, .int (nI i)), (1, .int (nI n))] [.int (nI i)] 8
    refine V_pop C 9 dJ0_checkIndex_df160_8 rfl rfl ?_
    exact V_nretV C Z rfl ⟨rfl, rfl⟩ dJ0_checkIndex_df160_9 (Nat.le_refl _) (Nat.le_refl _)
theorem c_jat5 {l : Launch} {D : va_G} {g : G0} {A : SbA} {cap n i k : Nat} {f : Nat → Int32} {ml : Int32} (h : i < n) (hn : n ≤ cap) (hc : cap ≤ 1000) (hk : f i = nI k) (hk2 : k < 128) : CtN l D g yJ5_charAt_5068e cJ5_charAt_5068e 5 (some .char) (rmN 2 43 0 0) (sbW g A (cap, f, 0, ml, nI n)) [.ref A.1, .int (nI i)] (fun rv w1 => rv = some (.int (nI k)) ∧ w1 = sbW g A (cap, f, 0, ml, nI n)) 0 0 := by
  refine CtN.of (by decide) (Nat.le_of_ble_eq_true rfl) ?_
  intro K C Z hBA el eD ekn
  subst el
  subst eD
  have hlt : ∀ i, i < 5 → i < kn K := fun i h => by rw [ekn]; exact h
  show V K 0 0 (sbW g A (cap, f, 0, ml, nI n)) [(0, .ref A.1), (1, .int (nI i))] [] 0
  refine V_aload_n C 0 1 dJ5_charAt_5068e_0 rfl rfl ?_
  refine V_get C 0 4 fl_J5_22 dJ5_charAt_5068e_1 rfl rfl rfl ?_
  refine V_istore_n C 5 [(2, .int (0 : Int32)), (0, .ref A.1), (1, .int (nI i))] dJ5_charAt_5068e_4 rfl (hlt 2 (by decide)) rfl ?_
  refine V_aload_n C 1 6 dJ5_charAt_5068e_5 rfl rfl ?_
  refine V_get C 0 9 fl_J5_15 dJ5_charAt_5068e_6 rfl rfl rfl ?_
  refine V_astore_n C 10 [(3, .ref A.2), (2, .int (0 : Int32)), (0, .ref A.1), (1, .int (nI i))] dJ5_charAt_5068e_9 rfl (hlt 3 (by decide)) rfl ?_
  refine V_aload_n C 2 11 dJ5_charAt_5068e_10 rfl rfl ?_
  refine V_get C 0 14 fl_J5_79 dJ5_charAt_5068e_11 rfl rfl rfl ?_
  refine V_aload_n C 0 15 dJ5_charAt_5068e_14 rfl rfl ?_
  refine V_alen (t0 := 2) C 1 16 (nI cap) dJ5_charAt_5068e_15 rfl rfl rfl rfl ?_
  refine V_iload_n C 1 17 dJ5_charAt_5068e_16 rfl rfl ?_
  refine V_ishr C 18 dJ5_charAt_5068e_17 rfl ?_
  refine V_st (st2 := [.int (nI cap), .int (nI n)]) (by rw [shr0]) ?_
  refine V_mmin C 21 q1351 dJ5_charAt_5068e_18 rfl ⟨by decide, by exact (by decide : 0 + 13 ≤ 43)⟩ ⟨Nat.zero_le _, Nat.zero_le _⟩ ?_
  refine V_st (st2 := [.int (nI n)]) (by rw [if_neg (nI_nlt hn (by omega))]) ?_
  refine V_istore C 23 [(4, .int (nI n)), (3, .ref A.2), (2, .int (0 : Int32)), (0, .ref A.1), (1, .int (nI i))] dJ5_charAt_5068e_21 rfl (hlt 4 (by decide)) rfl ?_
  refine V_iload_n C 4 24 dJ5_charAt_5068e_23 rfl rfl ?_
  refine V_iload C 0 26 dJ5_charAt_5068e_24 rfl rfl ?_
  refine V_callNs (as := [.int (nI i), .int (nI n)]) (pre := []) (w0 := []) (rest := []) C hBA Z.1 lz_J5_144 q772 (c_jchk0 h (by omega)) dJ5_charAt_5068e_26 (by decide) rfl rfl rfl (by decide) ⟨Nat.le_refl _, Nat.le_refl _⟩ (fun rv w1 hP => ?_)
  obtain ⟨rfl, rfl⟩ := hP
  show V K 0 0 (sbW g A (cap, f, 0, ml, nI n)) [(4, .int (nI n)), (3, .ref A.2), (2, .int (0 : Int32)), (0, .ref A.1), (1, .int (nI i))] [] 29
  refine V_iload_n C 2 30 dJ5_charAt_5068e_29 rfl rfl ?_
  refine V_if_ne C 42 33 dJ5_charAt_5068e_30 rfl rfl (fun e => absurd rfl e) (fun _ => ?_)
  refine V_aload_n C 1 34 dJ5_charAt_5068e_33 rfl rfl ?_
  refine V_iload_n C 4 35 dJ5_charAt_5068e_34 rfl rfl ?_
  have hin : inb (nI i) cap = true := inb_of (vp_in_nI (by omega) (by omega))
  refine V_bald C 1 36 dJ5_charAt_5068e_35 rfl rfl hin ?_
  refine V_st (st2 := [.int (nI k)]) (by rw [cl_n (by omega)]; exact congrArg (fun z => [Value.int z]) hk) ?_
  refine V_sipush C (255 : Int32) 39 dJ5_charAt_5068e_36 rfl rfl ?_
  refine V_iand C 40 dJ5_charAt_5068e_39 rfl ?_
  refine V_i2c C 41 dJ5_charAt_5068e_40 rfl ?_
  refine V_st (st2 := [.int (nI k)]) (by rw [and_asc hk2]) ?_
  exact V_nretI C Z rfl (nar_c hk2) ⟨rfl, rfl⟩ dJ5_charAt_5068e_41 (Nat.zero_le _) (Nat.zero_le _)
theorem c_jat {l : Launch} {D : va_G} {g : G0} {A : SbA} {cap n i k : Nat} {f : Nat → Int32} {ml : Int32} (h : i < n) (hn : n ≤ cap) (hc : cap ≤ 1000) (hk : f i = nI k) (hk2 : k < 128) : CtN l D g yJ4_charAt_5068e cJ4_charAt_5068e 2 (some .char) (rmN 3 70 0 0) (sbW g A (cap, f, 0, ml, nI n)) [.ref A.1, .int (nI i)] (fun rv w1 => rv = some (.int (nI k)) ∧ w1 = sbW g A (cap, f, 0, ml, nI n)) 0 0 := by
  refine CtN.of (by decide) (Nat.le_of_ble_eq_true rfl) ?_
  intro K C Z hBA el eD ekn
  subst el
  subst eD
  have hlt : ∀ i, i < 2 → i < kn K := fun i h => by rw [ekn]; exact h
  show V K 0 0 (sbW g A (cap, f, 0, ml, nI n)) [(0, .ref A.1), (1, .int (nI i))] [] 0
  refine V_aload_n C 0 1 dJ4_charAt_5068e_0 rfl rfl ?_
  refine V_iload_n C 1 2 dJ4_charAt_5068e_1 rfl rfl ?_
  refine V_callNw (as := [.int (nI i)]) (pre := []) (w0 := sbW g A (cap, f, 0, ml, nI n)) (post := []) (rest := []) C hBA Z.1 lw_J4_329 (c_jat5 h hn hc hk hk2) 0 dJ4_charAt_5068e_2 (by decide) rfl rfl rfl rfl (by decide) ⟨Nat.le_refl _, Nat.le_refl _⟩ (fun rv w1 hP => ?_)
  obtain ⟨rfl, rfl⟩ := hP
  show V K 0 0 (sbW g A (cap, f, 0, ml, nI n)) [(0, .ref A.1), (1, .int (nI i))] [.int (nI k)] 5
  exact V_nretI C Z rfl (nar_c hk2) ⟨rfl, rfl⟩ dJ4_charAt_5068e_5 (Nat.zero_le _) (Nat.zero_le _)
