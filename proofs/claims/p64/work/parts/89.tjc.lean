/-! ===== texts: contracts ===== -/
theorem mmax_nI {m q : Nat} (hm : m < 2 ^ 30) (hq : q < 2 ^ 30) : (if nI m < nI q then nI q else nI m) = nI (max m q) := by
  by_cases h : m < q
  · rw [if_pos (nI_lt h (by omega)), Nat.max_eq_right (by omega)]
  · rw [if_neg (nI_nlt (by omega) (by omega)), Nat.max_eq_left (by omega)]
set_option maxRecDepth 4000 in
theorem c_j0cod {l : Launch} {D : va_G} {g : G0} {s : Nat × Nat} {u : Nat} {fs : Nat → Int32} : CtN l D g yJ0_coder_7d493 cJ0_coder_7d493 1 (some .byte) (rmN 0 0 0 0) (strW g s u fs) [.ref s.1] (fun rv w1 => rv = some (.int 0) ∧ w1 = strW g s u fs) 0 0 := by
  refine CtN.of (by decide) (Nat.le_of_ble_eq_true rfl) ?_
  intro K C Z hBA el eD ekn
  subst el
  subst eD
  have hlt : ∀ i, i < 1 → i < kn K := fun i h => by rw [ekn]; exact h
  show V K 0 0 (strW g s u fs) [(0, .ref s.1)] [] 0
  refine V_gets C 3 Z.1.1.1 k727 rfl dJ0_coder_7d493_0 rfl ?_
  refine V_if_eq C 13 6 dJ0_coder_7d493_3 rfl rfl (fun e => absurd e (by decide)) (fun _ => ?_)
  refine V_aload_n C 0 7 dJ0_coder_7d493_6 rfl rfl ?_
  refine V_get C 0 10 fl_J0_15 dJ0_coder_7d493_7 rfl rfl rfl ?_
  refine V_goto C 14 dJ0_coder_7d493_10 rfl ?_
  exact V_nretI C Z rfl (by decide) ⟨rfl, rfl⟩ dJ0_coder_7d493_14 (Nat.zero_le _) (Nat.zero_le _)
set_option maxRecDepth 4000 in
theorem c_j0codK {l : Launch} {D : va_G} {g : G0} {i : Nat} (hi : i < 6) : CtN l D g yJ0_coder_7d493 cJ0_coder_7d493 1 (some .byte) (rmN 0 0 0 0) ([]) [.ref (kK D i)] (fun rv w1 => rv = some (.int 0) ∧ w1 = []) 0 0 := by
  refine CtN.of (by decide) (Nat.le_of_ble_eq_true rfl) ?_
  intro K C Z hBA el eD ekn
  subst el
  subst eD
  have hlt : ∀ i, i < 1 → i < kn K := fun i h => by rw [ekn]; exact h
  show V K 0 0 ([]) [(0, .ref (kK (kD K) i))] [] 0
  refine V_gets C 3 Z.1.1.1 k727 rfl dJ0_coder_7d493_0 rfl ?_
  refine V_if_eq C 13 6 dJ0_coder_7d493_3 rfl rfl (fun e => absurd e (by decide)) (fun _ => ?_)
  refine V_aload_n C 0 7 dJ0_coder_7d493_6 rfl rfl ?_
  refine V_getKc C Z.1 hi 10 k845 dJ0_coder_7d493_7 rfl ?_
  refine V_goto C 14 dJ0_coder_7d493_10 rfl ?_
  exact V_nretI C Z rfl (by decide) ⟨rfl, rfl⟩ dJ0_coder_7d493_14 (Nat.zero_le _) (Nat.zero_le _)
set_option maxRecDepth 4000 in
theorem c_j0len {l : Launch} {D : va_G} {g : G0} {s : Nat × Nat} {u : Nat} {fs : Nat → Int32} : CtN l D g yJ0_length_8abf5 cJ0_length_8abf5 1 (some .int) (rmN 1 20 0 0) (strW g s u fs) [.ref s.1] (fun rv w1 => rv = some (.int (nI u)) ∧ w1 = strW g s u fs) 0 0 := by
  refine CtN.of (by decide) (Nat.le_of_ble_eq_true rfl) ?_
  intro K C Z hBA el eD ekn
  subst el
  subst eD
  have hlt : ∀ i, i < 1 → i < kn K := fun i h => by rw [ekn]; exact h
  show V K 0 0 (strW g s u fs) [(0, .ref s.1)] [] 0
  refine V_aload_n C 0 1 dJ0_length_8abf5_0 rfl rfl ?_
  refine V_get C 0 4 fl_J0_9 dJ0_length_8abf5_1 rfl rfl rfl ?_
  refine V_alen (t0 := 2) C 1 5 (nI u) dJ0_length_8abf5_4 rfl rfl rfl rfl ?_
  refine V_aload_n C 0 6 dJ0_length_8abf5_5 rfl rfl ?_
  refine V_callN (as := []) (pre := []) (w0 := strW g s u fs) (post := []) (rest := [.int (nI u)]) C hBA Z.1 ml_J0_335 (c_j0cod) 0 dJ0_length_8abf5_6 ⟨Nat.le_of_ble_eq_true rfl, Nat.le_of_ble_eq_true rfl⟩ rfl rfl rfl rfl (by exact (by decide : (1 : Nat) ≤ 8)) ⟨Nat.zero_le _, Nat.zero_le _⟩ (fun rv w1 hP => ?_)
  obtain ⟨rfl, rfl⟩ := hP
  show V K 0 0 (strW g s u fs) [(0, .ref s.1)] [.int (0 : Int32), .int (nI u)] 9
  refine V_ishr C 10 dJ0_length_8abf5_9 rfl ?_
  refine V_st (st2 := [.int (nI u)]) (by rw [shr0]) ?_
  exact V_nretI C Z rfl rfl ⟨rfl, rfl⟩ dJ0_length_8abf5_10 (Nat.zero_le _) (Nat.zero_le _)
set_option maxRecDepth 4000 in
theorem c_j0lenK {l : Launch} {D : va_G} {g : G0} {i : Nat} (hi : i < 6) : CtN l D g yJ0_length_8abf5 cJ0_length_8abf5 1 (some .int) (rmN 1 20 0 0) ([]) [.ref (kK D i)] (fun rv w1 => rv = some (.int (nI (ksLen.getD i 0))) ∧ w1 = []) 0 0 := by
  refine CtN.of (by decide) (Nat.le_of_ble_eq_true rfl) ?_
  intro K C Z hBA el eD ekn
  subst el
  subst eD
  have hlt : ∀ i, i < 1 → i < kn K := fun i h => by rw [ekn]; exact h
  show V K 0 0 ([]) [(0, .ref (kK (kD K) i))] [] 0
  refine V_aload_n C 0 1 dJ0_length_8abf5_0 rfl rfl ?_
  refine V_getKv C Z.1 hi 4 k844 dJ0_length_8abf5_1 rfl ?_
  refine V_alenK C Z.1 hi 5 dJ0_length_8abf5_4 rfl ?_
  refine V_aload_n C 0 6 dJ0_length_8abf5_5 rfl rfl ?_
  refine V_callNk (hi := hi) (as := []) (pre := []) (w0 := []) (post := []) (rest := [.int (nI (ksLen.getD i 0))]) C hBA Z.1 ml_J0_335 rfl (c_j0codK hi) dJ0_length_8abf5_6 ⟨Nat.le_of_ble_eq_true rfl, Nat.le_of_ble_eq_true rfl⟩ rfl rfl rfl (by exact (by decide : (1 : Nat) ≤ 8)) ⟨Nat.zero_le _, Nat.zero_le _⟩ (fun rv w1 hP => ?_)
  obtain ⟨rfl, rfl⟩ := hP
  show V K 0 0 ([]) [(0, .ref (kK (kD K) i))] [.int (0 : Int32), .int (nI (ksLen.getD i 0))] 9
  refine V_ishr C 10 dJ0_length_8abf5_9 rfl ?_
  refine V_st (st2 := [.int (nI (ksLen.getD i 0))]) (by rw [shr0]) ?_
  exact V_nretI C Z rfl rfl ⟨rfl, rfl⟩ dJ0_length_8abf5_10 (Nat.zero_le _) (Nat.zero_le _)
set_option maxRecDepth 4000 in
theorem c_j0getB {l : Launch} {D : va_G} {g : G0} {s : Nat × Nat} {q cap d u : Nat} {f fs : Nat → Int32} (hf : sb_Fit fs) (hk : d + u ≤ cap) (hc : cap < 2 ^ 30) : CtN l D g yJ0_getBytes_840e7 cJ0_getBytes_840e7 4 none (rmN 1 60 0 0) ([(q, aB g cap f)] ++ strW g s u fs) [.ref s.1, .ref q, .int (nI d), .int 0] (fun rv w1 => rv = none ∧ w1 = [(q, aB g cap (va_cpy fs f 0 d u))] ++ strW g s u fs) 0 0 := by
  refine CtN.of (by decide) (Nat.le_of_ble_eq_true rfl) ?_
  intro K C Z hBA el eD ekn
  subst el
  subst eD
  have hlt : ∀ i, i < 4 → i < kn K := fun i h => by rw [ekn]; exact h
  show V K 0 0 ([(q, aB g cap f)] ++ strW g s u fs) [(0, .ref s.1), (1, .ref q), (2, .int (nI d)), (3, .int (0 : Int32))] [] 0
  refine V_aload_n C 0 1 dJ0_getBytes_840e7_0 rfl rfl ?_
  refine V_callN (as := []) (pre := [(q, aB g cap f)]) (w0 := strW g s u fs) (post := []) (rest := []) C hBA Z.1 ml_J0_335 (c_j0cod) 1 dJ0_getBytes_840e7_1 ⟨Nat.le_of_ble_eq_true rfl, Nat.le_of_ble_eq_true rfl⟩ rfl rfl rfl rfl (by exact (by decide : (0 : Nat) ≤ 8)) ⟨Nat.zero_le _, Nat.zero_le _⟩ (fun rv w1 hP => ?_)
  obtain ⟨rfl, rfl⟩ := hP
  show V K 0 0 ([(q, aB g cap f)] ++ strW g s u fs) [(0, .ref s.1), (1, .ref q), (2, .int (nI d)), (3, .int (0 : Int32))] [.int (0 : Int32)] 4
  refine V_iload_n C 3 5 dJ0_getBytes_840e7_4 rfl rfl ?_
  refine V_icmp_ne C 28 8 dJ0_getBytes_840e7_5 rfl rfl (fun e => absurd rfl e) (fun _ => ?_)
  refine V_aload_n C 0 9 dJ0_getBytes_840e7_8 rfl rfl ?_
  refine V_get C 1 12 fl_J0_9 dJ0_getBytes_840e7_9 rfl rfl rfl ?_
  refine V_iconst C (0 : Int32) 13 dJ0_getBytes_840e7_12 rfl rfl ?_
  refine V_aload_n C 1 14 dJ0_getBytes_840e7_13 rfl rfl ?_
  refine V_iload_n C 2 15 dJ0_getBytes_840e7_14 rfl rfl ?_
  refine V_iload_n C 3 16 dJ0_getBytes_840e7_15 rfl rfl ?_
  refine V_ishl C 17 dJ0_getBytes_840e7_16 rfl ?_
  refine V_st (st2 := [.int (nI d), .ref q, .int (0 : Int32), .ref s.2]) (by rw [shl0]) ?_
  refine V_aload_n C 0 18 dJ0_getBytes_840e7_17 rfl rfl ?_
  refine V_get C 1 21 fl_J0_9 dJ0_getBytes_840e7_18 rfl rfl rfl ?_
  refine V_alen (t0 := 2) C 2 22 (nI u) dJ0_getBytes_840e7_21 rfl rfl rfl rfl ?_
  refine V_bcopyD C hBA 2 0 25 ([(q, aB g cap (va_cpy fs f 0 d u))] ++ strW g s u fs) al_J0_212 dJ0_getBytes_840e7_22 rfl rfl rfl (Nat.le_refl _) hk (by omega) hf ⟨Nat.le_refl _, by exact (by decide : 0 + (nativeFrameWords "java/lang/System" "arraycopy" 5 + 11) ≤ 60)⟩ rfl ?_
  refine V_goto C 43 dJ0_getBytes_840e7_25 rfl ?_
  exact V_nretV C Z rfl ⟨rfl, rfl⟩ dJ0_getBytes_840e7_43 (Nat.zero_le _) (Nat.zero_le _)
set_option maxRecDepth 4000 in
theorem c_j0getBK {l : Launch} {D : va_G} {g : G0} {q cap d i : Nat} {f : Nat → Int32} (hi : i < 6) (hk : d + ksLen.getD i 0 ≤ cap) (hc : cap < 2 ^ 30) : CtN l D g yJ0_getBytes_840e7 cJ0_getBytes_840e7 4 none (rmN 1 60 0 0) ([(q, aB g cap f)]) [.ref (kK D i), .ref q, .int (nI d), .int 0] (fun rv w1 => rv = none ∧ w1 = [(q, aB g cap (va_cpy (fun j => (ksByt.getD i []).getD j 0) f 0 d (ksLen.getD i 0)))]) 0 0 := by
  refine CtN.of (by decide) (Nat.le_of_ble_eq_true rfl) ?_
  intro K C Z hBA el eD ekn
  subst el
  subst eD
  have hlt : ∀ i, i < 4 → i < kn K := fun i h => by rw [ekn]; exact h
  show V K 0 0 ([(q, aB g cap f)]) [(0, .ref (kK (kD K) i)), (1, .ref q), (2, .int (nI d)), (3, .int (0 : Int32))] [] 0
  refine V_aload_n C 0 1 dJ0_getBytes_840e7_0 rfl rfl ?_
  refine V_callNk (hi := hi) (as := []) (pre := [(q, aB g cap f)]) (w0 := []) (post := []) (rest := []) C hBA Z.1 ml_J0_335 rfl (c_j0codK hi) dJ0_getBytes_840e7_1 ⟨Nat.le_of_ble_eq_true rfl, Nat.le_of_ble_eq_true rfl⟩ rfl rfl rfl (by exact (by decide : (0 : Nat) ≤ 8)) ⟨Nat.zero_le _, Nat.zero_le _⟩ (fun rv w1 hP => ?_)
  obtain ⟨rfl, rfl⟩ := hP
  show V K 0 0 ([(q, aB g cap f)]) [(0, .ref (kK (kD K) i)), (1, .ref q), (2, .int (nI d)), (3, .int (0 : Int32))] [.int (0 : Int32)] 4
  refine V_iload_n C 3 5 dJ0_getBytes_840e7_4 rfl rfl ?_
  refine V_icmp_ne C 28 8 dJ0_getBytes_840e7_5 rfl rfl (fun e => absurd rfl e) (fun _ => ?_)
  refine V_aload_n C 0 9 dJ0_getBytes_840e7_8 rfl rfl ?_
  refine V_getKv C Z.1 hi 12 k844 dJ0_getBytes_840e7_9 rfl ?_
  refine V_iconst C (0 : Int32) 13 dJ0_getBytes_840e7_12 rfl rfl ?_
  refine V_aload_n C 1 14 dJ0_getBytes_840e7_13 rfl rfl ?_
  refine V_iload_n C 2 15 dJ0_getBytes_840e7_14 rfl rfl ?_
  refine V_iload_n C 3 16 dJ0_getBytes_840e7_15 rfl rfl ?_
  refine V_ishl C 17 dJ0_getBytes_840e7_16 rfl ?_
  refine V_st (st2 := [.int (nI d), .ref q, .int (0 : Int32), .ref (kV (kD K) i)]) (by rw [shl0]) ?_
  refine V_aload_n C 0 18 dJ0_getBytes_840e7_17 rfl rfl ?_
  refine V_getKv C Z.1 hi 21 k844 dJ0_getBytes_840e7_18 rfl ?_
  refine V_alenK C Z.1 hi 22 dJ0_getBytes_840e7_21 rfl ?_
  refine V_bcopyK C hBA Z.1 hi 0 25 ([(q, aB g cap (va_cpy (fun j => (ksByt.getD i []).getD j 0) f 0 d (ksLen.getD i 0)))]) al_J0_212 dJ0_getBytes_840e7_22 rfl rfl hk hc ⟨Nat.le_refl _, by exact (by decide : 0 + (nativeFrameWords "java/lang/System" "arraycopy" 5 + 11) ≤ 60)⟩ rfl ?_
  refine V_goto C 43 dJ0_getBytes_840e7_25 rfl ?_
  exact V_nretV C Z rfl ⟨rfl, rfl⟩ dJ0_getBytes_840e7_43 (Nat.zero_le _) (Nat.zero_le _)
set_option maxRecDepth 4000 in
theorem c_jinf {l : Launch} {D : va_G} {g : G0} {s : Nat × Nat} {A : SbA} {cap n u : Nat} {f fs : Nat → Int32} {ml : Int32} : CtN l D g yJ5_inflateIfNeededFor_a7421 cJ5_inflateIfNeededFor_a7421 2 none (rmN 1 20 0 0) (sbW g A (cap, f, 0, ml, nI n) ++ strW g s u fs) [.ref A.1, .ref s.1] (fun rv w1 => rv = none ∧ w1 = sbW g A (cap, f, 0, ml, nI n) ++ strW g s u fs) 0 0 := by
  refine CtN.of (by decide) (Nat.le_of_ble_eq_true rfl) ?_
  intro K C Z hBA el eD ekn
  subst el
  subst eD
  have hlt : ∀ i, i < 2 → i < kn K := fun i h => by rw [ekn]; exact h
  show V K 0 0 (sbW g A (cap, f, 0, ml, nI n) ++ strW g s u fs) [(0, .ref A.1), (1, .ref s.1)] [] 0
  refine V_gets C 3 Z.1.1.1 q214 rfl dJ5_inflateIfNeededFor_a7421_0 rfl ?_
  refine V_if_eq C 21 6 dJ5_inflateIfNeededFor_a7421_3 rfl rfl (fun e => absurd e (by decide)) (fun _ => ?_)
  refine V_aload_n C 0 7 dJ5_inflateIfNeededFor_a7421_6 rfl rfl ?_
  refine V_get C 0 10 fl_J5_22 dJ5_inflateIfNeededFor_a7421_7 rfl rfl rfl ?_
  refine V_aload_n C 1 11 dJ5_inflateIfNeededFor_a7421_10 rfl rfl ?_
  refine V_callN (as := []) (pre := sbW g A (cap, f, 0, ml, nI n)) (w0 := strW g s u fs) (post := []) (rest := [.int (0 : Int32)]) C hBA Z.1 ml_J5_40 (c_j0cod) 2 dJ5_inflateIfNeededFor_a7421_11 ⟨Nat.le_of_ble_eq_true rfl, Nat.le_of_ble_eq_true rfl⟩ rfl rfl rfl rfl (by exact (by decide : (1 : Nat) ≤ 8)) ⟨Nat.zero_le _, Nat.zero_le _⟩ (fun rv w1 hP => ?_)
  obtain ⟨rfl, rfl⟩ := hP
  show V K 0 0 (sbW g A (cap, f, 0, ml, nI n) ++ strW g s u fs) [(0, .ref A.1), (1, .ref s.1)] [.int (0 : Int32), .int (0 : Int32)] 14
  refine V_icmp_eq C 21 17 dJ5_inflateIfNeededFor_a7421_14 rfl rfl (fun _ => ?_) (fun e => absurd rfl e)
  exact V_nretV C Z rfl ⟨rfl, rfl⟩ dJ5_inflateIfNeededFor_a7421_21 (Nat.zero_le _) (Nat.zero_le _)
set_option maxRecDepth 4000 in
theorem c_jput {l : Launch} {D : va_G} {g : G0} {s : Nat × Nat} {A : SbA} {cap n d u : Nat} {f fs : Nat → Int32} {ml : Int32} (hf : sb_Fit fs) (hk : d + u ≤ cap) (hc : cap < 2 ^ 30) : CtN l D g yJ5_putStringAt_47b60 cJ5_putStringAt_47b60 3 none (rmN 2 83 0 0) (sbW g A (cap, f, 0, ml, nI n) ++ strW g s u fs) [.ref A.1, .int (nI d), .ref s.1] (fun rv w1 => rv = none ∧ w1 = sbW g A (cap, (va_cpy fs f 0 d u), 0, ml, nI n) ++ strW g s u fs) 0 0 := by
  refine CtN.of (by decide) (Nat.le_of_ble_eq_true rfl) ?_
  intro K C Z hBA el eD ekn
  subst el
  subst eD
  have hlt : ∀ i, i < 3 → i < kn K := fun i h => by rw [ekn]; exact h
  show V K 0 0 (sbW g A (cap, f, 0, ml, nI n) ++ strW g s u fs) [(0, .ref A.1), (1, .int (nI d)), (2, .ref s.1)] [] 0
  refine V_aload_n C 0 1 dJ5_putStringAt_47b60_0 rfl rfl ?_
  refine V_aload_n C 2 2 dJ5_putStringAt_47b60_1 rfl rfl ?_
  refine V_callNu (as := [.ref s.1]) (pre := []) (w0 := sbW g A (cap, f, 0, ml, nI n) ++ strW g s u fs) (post := []) (rest := []) C hBA Z.1 lu_J5_397 (c_jinf) 0 dJ5_putStringAt_47b60_2 ⟨Nat.le_of_ble_eq_true rfl, Nat.le_of_ble_eq_true rfl⟩ rfl rfl rfl rfl (by exact (by decide : (0 : Nat) ≤ 8)) ⟨Nat.zero_le _, Nat.zero_le _⟩ (fun rv w1 hP => ?_)
  obtain ⟨rfl, rfl⟩ := hP
  show V K 0 0 (sbW g A (cap, f, 0, ml, nI n) ++ strW g s u fs) [(0, .ref A.1), (1, .int (nI d)), (2, .ref s.1)] [] 5
  refine V_aload_n C 2 6 dJ5_putStringAt_47b60_5 rfl rfl ?_
  refine V_aload_n C 0 7 dJ5_putStringAt_47b60_6 rfl rfl ?_
  refine V_get C 0 10 fl_J5_15 dJ5_putStringAt_47b60_7 rfl rfl rfl ?_
  refine V_iload_n C 1 11 dJ5_putStringAt_47b60_10 rfl rfl ?_
  refine V_aload_n C 0 12 dJ5_putStringAt_47b60_11 rfl rfl ?_
  refine V_get C 0 15 fl_J5_22 dJ5_putStringAt_47b60_12 rfl rfl rfl ?_
  refine V_callN (as := [.ref A.2, .int (nI d), .int (0 : Int32)]) (pre := [(A.1, .inr (5, [.ref A.2, .int 0, .int ml, .int (nI n)]))]) (w0 := [(A.2, aB g cap f)] ++ strW g s u fs) (post := []) (rest := []) C hBA Z.1 ml_J5_399 (c_j0getB hf hk hc) 2 dJ5_putStringAt_47b60_15 ⟨Nat.le_of_ble_eq_true rfl, Nat.le_of_ble_eq_true rfl⟩ rfl rfl rfl rfl (by exact (by decide : (0 : Nat) ≤ 8)) ⟨Nat.zero_le _, Nat.zero_le _⟩ (fun rv w1 hP => ?_)
  obtain ⟨rfl, rfl⟩ := hP
  show V K 0 0 (sbW g A (cap, (va_cpy fs f 0 d u), 0, ml, nI n) ++ strW g s u fs) [(0, .ref A.1), (1, .int (nI d)), (2, .ref s.1)] [] 18
  exact V_nretV C Z rfl ⟨rfl, rfl⟩ dJ5_putStringAt_47b60_18 (Nat.zero_le _) (Nat.zero_le _)
set_option maxRecDepth 4000 in
theorem c_jinfK {l : Launch} {D : va_G} {g : G0} {A : SbA} {cap n i : Nat} {f : Nat → Int32} {ml : Int32} (hi : i < 6) : CtN l D g yJ5_inflateIfNeededFor_a7421 cJ5_inflateIfNeededFor_a7421 2 none (rmN 1 20 0 0) (sbW g A (cap, f, 0, ml, nI n)) [.ref A.1, .ref (kK D i)] (fun rv w1 => rv = none ∧ w1 = sbW g A (cap, f, 0, ml, nI n)) 0 0 := by
  refine CtN.of (by decide) (Nat.le_of_ble_eq_true rfl) ?_
  intro K C Z hBA el eD ekn
  subst el
  subst eD
  have hlt : ∀ i, i < 2 → i < kn K := fun i h => by rw [ekn]; exact h
  show V K 0 0 (sbW g A (cap, f, 0, ml, nI n)) [(0, .ref A.1), (1, .ref (kK (kD K) i))] [] 0
  refine V_gets C 3 Z.1.1.1 q214 rfl dJ5_inflateIfNeededFor_a7421_0 rfl ?_
  refine V_if_eq C 21 6 dJ5_inflateIfNeededFor_a7421_3 rfl rfl (fun e => absurd e (by decide)) (fun _ => ?_)
  refine V_aload_n C 0 7 dJ5_inflateIfNeededFor_a7421_6 rfl rfl ?_
  refine V_get C 0 10 fl_J5_22 dJ5_inflateIfNeededFor_a7421_7 rfl rfl rfl ?_
  refine V_aload_n C 1 11 dJ5_inflateIfNeededFor_a7421_10 rfl rfl ?_
  refine V_callNk (hi := hi) (as := []) (pre := sbW g A (cap, f, 0, ml, nI n)) (w0 := []) (post := []) (rest := [.int (0 : Int32)]) C hBA Z.1 ml_J5_40 rfl (c_j0codK hi) dJ5_inflateIfNeededFor_a7421_11 ⟨Nat.le_of_ble_eq_true rfl, Nat.le_of_ble_eq_true rfl⟩ rfl rfl rfl (by exact (by decide : (1 : Nat) ≤ 8)) ⟨Nat.zero_le _, Nat.zero_le _⟩ (fun rv w1 hP => ?_)
  obtain ⟨rfl, rfl⟩ := hP
  show V K 0 0 (sbW g A (cap, f, 0, ml, nI n)) [(0, .ref A.1), (1, .ref (kK (kD K) i))] [.int (0 : Int32), .int (0 : Int32)] 14
  refine V_icmp_eq C 21 17 dJ5_inflateIfNeededFor_a7421_14 rfl rfl (fun _ => ?_) (fun e => absurd rfl e)
  exact V_nretV C Z rfl ⟨rfl, rfl⟩ dJ5_inflateIfNeededFor_a7421_21 (Nat.zero_le _) (Nat.zero_le _)
set_option maxRecDepth 4000 in
theorem c_jputK {l : Launch} {D : va_G} {g : G0} {A : SbA} {cap n d i : Nat} {f : Nat → Int32} {ml : Int32} (hi : i < 6) (hk : d + ksLen.getD i 0 ≤ cap) (hc : cap < 2 ^ 30) : CtN l D g yJ5_putStringAt_47b60 cJ5_putStringAt_47b60 3 none (rmN 2 83 0 0) (sbW g A (cap, f, 0, ml, nI n)) [.ref A.1, .int (nI d), .ref (kK D i)] (fun rv w1 => rv = none ∧ w1 = sbW g A (cap, (va_cpy (fun j => (ksByt.getD i []).getD j 0) f 0 d (ksLen.getD i 0)), 0, ml, nI n)) 0 0 := by
  refine CtN.of (by decide) (Nat.le_of_ble_eq_true rfl) ?_
  intro K C Z hBA el eD ekn
  subst el
  subst eD
  have hlt : ∀ i, i < 3 → i < kn K := fun i h => by rw [ekn]; exact h
  show V K 0 0 (sbW g A (cap, f, 0, ml, nI n)) [(0, .ref A.1), (1, .int (nI d)), (2, .ref (kK (kD K) i))] [] 0
  refine V_aload_n C 0 1 dJ5_putStringAt_47b60_0 rfl rfl ?_
  refine V_aload_n C 2 2 dJ5_putStringAt_47b60_1 rfl rfl ?_
  refine V_callNu (as := [.ref (kK (kD K) i)]) (pre := []) (w0 := sbW g A (cap, f, 0, ml, nI n)) (post := []) (rest := []) C hBA Z.1 lu_J5_397 (c_jinfK hi) 0 dJ5_putStringAt_47b60_2 ⟨Nat.le_of_ble_eq_true rfl, Nat.le_of_ble_eq_true rfl⟩ rfl rfl rfl rfl (by exact (by decide : (0 : Nat) ≤ 8)) ⟨Nat.zero_le _, Nat.zero_le _⟩ (fun rv w1 hP => ?_)
  obtain ⟨rfl, rfl⟩ := hP
  show V K 0 0 (sbW g A (cap, f, 0, ml, nI n)) [(0, .ref A.1), (1, .int (nI d)), (2, .ref (kK (kD K) i))] [] 5
  refine V_aload_n C 2 6 dJ5_putStringAt_47b60_5 rfl rfl ?_
  refine V_aload_n C 0 7 dJ5_putStringAt_47b60_6 rfl rfl ?_
  refine V_get C 0 10 fl_J5_15 dJ5_putStringAt_47b60_7 rfl rfl rfl ?_
  refine V_iload_n C 1 11 dJ5_putStringAt_47b60_10 rfl rfl ?_
  refine V_aload_n C 0 12 dJ5_putStringAt_47b60_11 rfl rfl ?_
  refine V_get C 0 15 fl_J5_22 dJ5_putStringAt_47b60_12 rfl rfl rfl ?_
  refine V_callNk (hi := hi) (as := [.ref A.2, .int (nI d), .int (0 : Int32)]) (pre := [(A.1, .inr (5, [.ref A.2, .int 0, .int ml, .int (nI n)]))]) (w0 := [(A.2, aB g cap f)]) (post := []) (rest := []) C hBA Z.1 ml_J5_399 rfl (c_j0getBK hi hk hc) dJ5_putStringAt_47b60_15 ⟨Nat.le_of_ble_eq_true rfl, Nat.le_of_ble_eq_true rfl⟩ rfl rfl rfl (by exact (by decide : (0 : Nat) ≤ 8)) ⟨Nat.zero_le _, Nat.zero_le _⟩ (fun rv w1 hP => ?_)
  obtain ⟨rfl, rfl⟩ := hP
  show V K 0 0 (sbW g A (cap, (va_cpy (fun j => (ksByt.getD i []).getD j 0) f 0 d (ksLen.getD i 0)), 0, ml, nI n)) [(0, .ref A.1), (1, .int (nI d)), (2, .ref (kK (kD K) i))] [] 18
  exact V_nretV C Z rfl ⟨rfl, rfl⟩ dJ5_putStringAt_47b60_18 (Nat.zero_le _) (Nat.zero_le _)
set_option maxRecDepth 4000 in
theorem c_gnewl {l : Launch} {D : va_G} {g : G0} {a m q : Nat} (hm : m < 2 ^ 20) (ha : a + max m q < 2 ^ 20) (h0 : 0 < max m q) : CtN l D g yJ8_newLength_cabcc cJ8_newLength_cabcc 4 (some .int) (rmN 1 21 0 0) ([]) [.int (nI a), .int (nI m), .int (nI q)] (fun rv w1 => rv = some (.int (nI (a + max m q))) ∧ w1 = []) 0 0 := by
  refine CtN.of (by decide) (Nat.le_of_ble_eq_true rfl) ?_
  intro K C Z hBA el eD ekn
  subst el
  subst eD
  have hlt : ∀ i, i < 4 → i < kn K := fun i h => by rw [ekn]; exact h
  show V K 0 0 ([]) [(0, .int (nI a)), (1, .int (nI m)), (2, .int (nI q))] [] 0
  have hq : q ≤ max m q := Nat.le_max_right _ _
  refine V_iload_n C 0 1 dJ8_newLength_cabcc_0 rfl rfl ?_
  refine V_iload_n C 1 2 dJ8_newLength_cabcc_1 rfl rfl ?_
  refine V_iload_n C 2 3 dJ8_newLength_cabcc_2 rfl rfl ?_
  refine V_mmax C 6 q445 dJ8_newLength_cabcc_3 rfl ⟨by decide, by show 1 + 13 ≤ 21; decide⟩ ⟨Nat.zero_le _, Nat.zero_le _⟩ ?_
  refine V_st (st2 := [.int (nI (max m q)), .int (nI a)]) (by rw [mmax_nI (by omega) (by omega)]) ?_
  refine V_iadd C 7 dJ8_newLength_cabcc_6 rfl ?_
  refine V_st (st2 := [.int (nI (a + max m q))]) (by rw [nI_add]) ?_
  refine V_istore_n C 8 [(3, .int (nI (a + max m q))), (0, .int (nI a)), (1, .int (nI m)), (2, .int (nI q))] dJ8_newLength_cabcc_7 rfl (hlt 3 (by decide)) rfl ?_
  refine V_iconst C (0 : Int32) 9 dJ8_newLength_cabcc_8 rfl rfl ?_
  refine V_iload_n C 0 10 dJ8_newLength_cabcc_9 rfl rfl ?_
  refine V_icmp_ge C 21 13 dJ8_newLength_cabcc_10 rfl rfl (fun e => absurd e (nI_ge (a := 0) (by omega) (by omega))) (fun _ => ?_)
  refine V_iload_n C 0 14 dJ8_newLength_cabcc_13 rfl rfl ?_
  refine V_ldc C (2147483639 : Int32) 16 q448 dJ8_newLength_cabcc_14 rfl ?_
  refine V_icmp_gt C 21 19 dJ8_newLength_cabcc_16 rfl rfl (fun e => absurd e (show ¬ (2147483639 : Int32) < nI (a + max m q) from nI_nlt (b := a + max m q) (a := 2147483639) (by omega) (by decide))) (fun _ => ?_)
  refine V_iload_n C 0 20 dJ8_newLength_cabcc_19 rfl rfl ?_
  exact V_nretI C Z rfl rfl ⟨rfl, rfl⟩ dJ8_newLength_cabcc_20 (Nat.zero_le _) (Nat.zero_le _)
set_option maxRecDepth 4000 in
theorem c_gcap {l : Launch} {D : va_G} {g : G0} {A : SbA} {cap n k : Nat} {f : Nat → Int32} {ml : Int32} (hc : cap ≤ 1000) (hk : cap < k) (hk2 : k ≤ 1000) : CtN l D g yJ5_newCapacity_0f7a4 cJ5_newCapacity_0f7a4 6 (some .int) (rmN 2 44 0 0) (sbW g A (cap, f, 0, ml, nI n)) [.ref A.1, .int (nI k)] (fun rv w1 => rv = some (.int (nI (cap + max (k - cap) (cap + 2)))) ∧ w1 = sbW g A (cap, f, 0, ml, nI n)) 0 0 := by
  refine CtN.of (by decide) (Nat.le_of_ble_eq_true rfl) ?_
  intro K C Z hBA el eD ekn
  subst el
  subst eD
  have hlt : ∀ i, i < 6 → i < kn K := fun i h => by rw [ekn]; exact h
  show V K 0 0 (sbW g A (cap, f, 0, ml, nI n)) [(0, .ref A.1), (1, .int (nI k))] [] 0
  have hmx : max (k - cap) (cap + 2) ≤ 1002 := Nat.max_le.mpr ⟨by omega, by omega⟩
  have hmx0 : cap + 2 ≤ max (k - cap) (cap + 2) := Nat.le_max_right _ _
  refine V_aload_n C 0 1 dJ5_newCapacity_0f7a4_0 rfl rfl ?_
  refine V_get C 0 4 fl_J5_15 dJ5_newCapacity_0f7a4_1 rfl rfl rfl ?_
  refine V_alen (t0 := 2) C 1 5 (nI cap) dJ5_newCapacity_0f7a4_4 rfl rfl rfl rfl ?_
  refine V_istore_n C 6 [(2, .int (nI cap)), (0, .ref A.1), (1, .int (nI k))] dJ5_newCapacity_0f7a4_5 rfl (hlt 2 (by decide)) rfl ?_
  refine V_iload_n C 2 7 dJ5_newCapacity_0f7a4_6 rfl rfl ?_
  refine V_aload_n C 1 8 dJ5_newCapacity_0f7a4_7 rfl rfl ?_
  refine V_get C 0 11 fl_J5_22 dJ5_newCapacity_0f7a4_8 rfl rfl rfl ?_
  refine V_ishl C 12 dJ5_newCapacity_0f7a4_11 rfl ?_
  refine V_st (st2 := [.int (nI k)]) (by rw [shl0]) ?_
  refine V_istore_n C 13 [(3, .int (nI k)), (2, .int (nI cap)), (0, .ref A.1), (1, .int (nI k))] dJ5_newCapacity_0f7a4_12 rfl (hlt 3 (by decide)) rfl ?_
  refine V_iload_n C 0 14 dJ5_newCapacity_0f7a4_13 rfl rfl ?_
  refine V_iload_n C 1 15 dJ5_newCapacity_0f7a4_14 rfl rfl ?_
  refine V_isub C 16 dJ5_newCapacity_0f7a4_15 rfl ?_
  refine V_st (st2 := [.int (nI (k - cap))]) (by rw [pk_sub (by omega)]) ?_
  refine V_istore C 18 [(4, .int (nI (k - cap))), (3, .int (nI k)), (2, .int (nI cap)), (0, .ref A.1), (1, .int (nI k))] dJ5_newCapacity_0f7a4_16 rfl (hlt 4 (by decide)) rfl ?_
  refine V_iload_n C 2 19 dJ5_newCapacity_0f7a4_18 rfl rfl ?_
  refine V_iload C 0 21 dJ5_newCapacity_0f7a4_19 rfl rfl ?_
  refine V_iload_n C 2 22 dJ5_newCapacity_0f7a4_21 rfl rfl ?_
  refine V_iconst C (2 : Int32) 23 dJ5_newCapacity_0f7a4_22 rfl rfl ?_
  refine V_aload_n C 3 24 dJ5_newCapacity_0f7a4_23 rfl rfl ?_
  refine V_get C 0 27 fl_J5_22 dJ5_newCapacity_0f7a4_24 rfl rfl rfl ?_
  refine V_ishl C 28 dJ5_newCapacity_0f7a4_27 rfl ?_
  refine V_st (st2 := [.int (2 : Int32), .int (nI cap), .int (nI (k - cap)), .int (nI cap)]) (by rw [shl0]) ?_
  refine V_iadd C 29 dJ5_newCapacity_0f7a4_28 rfl ?_
  refine V_st (st2 := [.int (nI (cap + 2)), .int (nI (k - cap)), .int (nI cap)]) (by rw [← nI_add]; rfl) ?_
  refine V_callNs (as := [.int (nI cap), .int (nI (k - cap)), .int (nI (cap + 2))]) (pre := []) (w0 := []) (rest := []) C hBA Z.1 lz_J5_114 q443 (c_gnewl (by omega) (by omega) (by omega)) dJ5_newCapacity_0f7a4_29 ⟨Nat.le_of_ble_eq_true rfl, Nat.le_of_ble_eq_true rfl⟩ rfl rfl rfl (by decide) (by decide) (fun rv w1 hP => ?_)
  obtain ⟨rfl, rfl⟩ := hP
  show V K 0 0 (sbW g A (cap, f, 0, ml, nI n)) [(4, .int (nI (k - cap))), (3, .int (nI k)), (2, .int (nI cap)), (0, .ref A.1), (1, .int (nI k))] [.int (nI (cap + max (k - cap) (cap + 2)))] 32
  refine V_istore C 34 [(5, .int (nI (cap + max (k - cap) (cap + 2)))), (4, .int (nI (k - cap))), (3, .int (nI k)), (2, .int (nI cap)), (0, .ref A.1), (1, .int (nI k))] dJ5_newCapacity_0f7a4_32 rfl (hlt 5 (by decide)) rfl ?_
  refine V_iload C 0 36 dJ5_newCapacity_0f7a4_34 rfl rfl ?_
  refine V_ldc C (2147483647 : Int32) 38 q452 dJ5_newCapacity_0f7a4_36 rfl ?_
  refine V_icmp_ne C 51 41 dJ5_newCapacity_0f7a4_38 rfl rfl (fun _ => ?_) (fun e => absurd e (show ¬ nI (cap + max (k - cap) (cap + 2)) = (2147483647 : Int32) from fun q => by have := (nI_eq (b := 2147483647) (by omega) (by omega)).mp q; omega))
  refine V_iload C 0 53 dJ5_newCapacity_0f7a4_51 rfl rfl ?_
  refine V_aload_n C 4 54 dJ5_newCapacity_0f7a4_53 rfl rfl ?_
  refine V_get C 0 57 fl_J5_22 dJ5_newCapacity_0f7a4_54 rfl rfl rfl ?_
  refine V_ishr C 58 dJ5_newCapacity_0f7a4_57 rfl ?_
  refine V_st (st2 := [.int (nI (cap + max (k - cap) (cap + 2)))]) (by rw [shr0]) ?_
  exact V_nretI C Z rfl rfl ⟨rfl, rfl⟩ dJ5_newCapacity_0f7a4_58 (Nat.zero_le _) (Nat.zero_le _)
set_option maxRecDepth 4000 in
theorem c_gens {l : Launch} {D : va_G} {g : G0} {A : SbA} {cap n k : Nat} {f : Nat → Int32} {ml : Int32} (hf : sb_Fit f) (hc : cap ≤ 410) (hk : k ≤ 200) : CtN l D g yJ5_ensureCapacityInternal_d00df cJ5_ensureCapacityInternal_d00df 3 none (rmN 3 82 1 410) (sbW g A (cap, f, 0, ml, nI n)) [.ref A.1, .int (nI k)] (fun rv w1 => rv = none ∧ ∃ (q2 cap2 : Nat) (f2 : Nat → Int32), w1 = sbW g (A.1, q2) (cap2, f2, 0, ml, nI n) ∧ cap2 ≤ 410 ∧ k ≤ cap2 ∧ (∀ i, i < cap → f2 i = f i) ∧ sb_Fit f2) 1 410 := by
  refine CtN.of (by decide) (Nat.le_of_ble_eq_true rfl) ?_
  intro K C Z hBA el eD ekn
  subst el
  subst eD
  have hlt : ∀ i, i < 3 → i < kn K := fun i h => by rw [ekn]; exact h
  show V K 0 0 (sbW g A (cap, f, 0, ml, nI n)) [(0, .ref A.1), (1, .int (nI k))] [] 0
  refine V_aload_n C 0 1 dJ5_ensureCapacityInternal_d00df_0 rfl rfl ?_
  refine V_get C 0 4 fl_J5_15 dJ5_ensureCapacityInternal_d00df_1 rfl rfl rfl ?_
  refine V_alen (t0 := 2) C 1 5 (nI cap) dJ5_ensureCapacityInternal_d00df_4 rfl rfl rfl rfl ?_
  refine V_aload_n C 0 6 dJ5_ensureCapacityInternal_d00df_5 rfl rfl ?_
  refine V_get C 0 9 fl_J5_22 dJ5_ensureCapacityInternal_d00df_6 rfl rfl rfl ?_
  refine V_ishr C 10 dJ5_ensureCapacityInternal_d00df_9 rfl ?_
  refine V_st (st2 := [.int (nI cap)]) (by rw [shr0]) ?_
  refine V_istore_n C 11 [(2, .int (nI cap)), (0, .ref A.1), (1, .int (nI k))] dJ5_ensureCapacityInternal_d00df_10 rfl (hlt 2 (by decide)) rfl ?_
  refine V_iload_n C 2 12 dJ5_ensureCapacityInternal_d00df_11 rfl rfl ?_
  refine V_iload_n C 0 13 dJ5_ensureCapacityInternal_d00df_12 rfl rfl ?_
  refine V_isub C 14 dJ5_ensureCapacityInternal_d00df_13 rfl ?_
  by_cases hle : k ≤ cap
  · refine V_if_le C 38 17 dJ5_ensureCapacityInternal_d00df_14 rfl rfl (fun _ => ?_) (fun e => absurd (show nI k - nI cap ≤ 0 from by rw [Int32.le_iff_toInt_le, nI_sub_toInt (by omega) (by omega), Int32.toInt_zero]; omega) e)
    exact V_nretV C Z rfl ⟨rfl, A.2, cap, f, rfl, hc, hle, fun _ _ => rfl, hf⟩ dJ5_ensureCapacityInternal_d00df_38 (Nat.zero_le _) (Nat.zero_le _)
  · have hmx : max (k - cap) (cap + 2) ≤ 202 := Nat.max_le.mpr ⟨by omega, by omega⟩
    have hm1 : k - cap ≤ max (k - cap) (cap + 2) := Nat.le_max_left _ _
    have hm2 : cap + 2 ≤ max (k - cap) (cap + 2) := Nat.le_max_right _ _
    refine V_if_le C 38 17 dJ5_ensureCapacityInternal_d00df_14 rfl rfl (fun e => absurd e (show ¬ nI k - nI cap ≤ 0 from by rw [Int32.le_iff_toInt_le, nI_sub_toInt (by omega) (by omega), Int32.toInt_zero]; omega)) (fun _ => ?_)
    refine V_aload_n C 1 18 dJ5_ensureCapacityInternal_d00df_17 rfl rfl ?_
    refine V_aload_n C 1 19 dJ5_ensureCapacityInternal_d00df_18 rfl rfl ?_
    refine V_get C 0 22 fl_J5_15 dJ5_ensureCapacityInternal_d00df_19 rfl rfl rfl ?_
    refine V_aload_n C 1 23 dJ5_ensureCapacityInternal_d00df_22 rfl rfl ?_
    refine V_iload_n C 2 24 dJ5_ensureCapacityInternal_d00df_23 rfl rfl ?_
    refine V_callNu (as := [.int (nI k)]) (pre := []) (w0 := sbW g A (cap, f, 0, ml, nI n)) (post := []) (rest := [.ref A.2, .ref A.1]) C hBA Z.1 lu_J5_104 (c_gcap (by omega) (by omega) (by omega)) 0 dJ5_ensureCapacityInternal_d00df_24 ⟨Nat.le_of_ble_eq_true rfl, Nat.le_of_ble_eq_true rfl⟩ rfl rfl rfl rfl (by exact (by decide : (2 : Nat) ≤ 8)) ⟨Nat.zero_le _, Nat.zero_le _⟩ (fun rv w1 hP => ?_)
    obtain ⟨rfl, rfl⟩ := hP
    show V K 0 0 (sbW g A (cap, f, 0, ml, nI n)) [(2, .int (nI cap)), (0, .ref A.1), (1, .int (nI k))] [.int (nI (cap + max (k - cap) (cap + 2))), .ref A.2, .ref A.1] 27
    refine V_aload_n C 1 28 dJ5_ensureCapacityInternal_d00df_27 rfl rfl ?_
    refine V_get C 0 31 fl_J5_22 dJ5_ensureCapacityInternal_d00df_28 rfl rfl rfl ?_
    refine V_ishl C 32 dJ5_ensureCapacityInternal_d00df_31 rfl ?_
    refine V_st (st2 := [.int (nI (cap + max (k - cap) (cap + 2))), .ref A.2, .ref A.1]) (by rw [shl0]) ?_
    obtain ⟨c2, hc2⟩ : ∃ z, z = (cap + max (k - cap) (cap + 2)) := ⟨_, rfl⟩
    rw [← hc2]
    refine V_wid (c2 := 0) (s2 := 410 - c2) (Nat.le_refl _) (Nat.zero_le _) ?_
    refine V_callNs (as := [.ref A.2, .int (nI c2)]) (pre := [(A.1, .inr (5, [.ref A.2, .int 0, .int ml, .int (nI n)]))]) (w0 := [(A.2, aB g cap f)]) (post := []) (rest := [.ref A.1]) C hBA Z.1 lz_J5_108 q454 (c_jcopy hf (by omega) (by omega)) dJ5_ensureCapacityInternal_d00df_32 ⟨Nat.le_of_ble_eq_true rfl, Nat.le_of_ble_eq_true rfl⟩ rfl rfl rfl (by exact (by decide : (1 : Nat) ≤ 8)) ⟨Nat.le_refl _, by exact (by omega : 410 - c2 + c2 ≤ 410)⟩ (fun rv w1 hP => ?_)
    obtain ⟨q2, rfl, rfl⟩ := hP
    refine V_put C hBA 0 38 [(A.1, .inr (5, [.ref q2, .int 0, .int ml, .int (nI n)])), (A.2, aB g cap f), (q2, aB g c2 (va_cpy f (fun _ => 0) 0 0 cap))] fl_J5_15 fp_J4_0 dJ5_ensureCapacityInternal_d00df_35 rfl rfl (by exact (by decide : 0 < 4)) rfl rfl rfl ?_
    refine V_perm (ws2 := [(A.1, .inr (5, [.ref q2, .int 0, .int ml, .int (nI n)])), (q2, aB g c2 (va_cpy f (fun _ => 0) 0 0 cap))] ++ [(A.2, aB g cap f)]) (List.Perm.cons _ (List.Perm.swap _ _ _)) (V_drop ?_)
    refine V_nretV C Z rfl ⟨rfl, q2, c2, (va_cpy f (fun _ => 0) 0 0 cap), rfl, by omega, by omega, fun i hi => ?_, fun j => ?_⟩ dJ5_ensureCapacityInternal_d00df_38 (Nat.le_refl _) (by exact (by omega : 410 - c2 + c2 ≤ 410))
    · rw [pk_cpy_in (Nat.zero_le i) (by omega), Nat.zero_add, Nat.sub_zero]
    · by_cases hj : j < 0 + cap
      · rw [pk_cpy_in (Nat.zero_le j) hj]
        exact hf _
      · rw [pk_cpy_out (Or.inr (by omega))]
        exact sb_fit0 0
set_option maxRecDepth 4000 in
theorem c_gapi5 {l : Launch} {D : va_G} {g : G0} {A : SbA} {cap n v : Nat} {f : Nat → Int32} {ml : Int32} (hf : sb_Fit f) (hc : cap ≤ 410) (hn : n ≤ cap) (hn2 : n + 2 ≤ 200) (hv : v < 100) : CtN l D g yJ5_append_c97b9 cJ5_append_c97b9 4 (some (.object "java/lang/AbstractStringBuilder")) (rmN 4 104 1 410) (sbW g A (cap, f, 0, ml, nI n)) [.ref A.1, .int (nI v)] (fun rv w1 => rv = some (.ref A.1) ∧ ∃ (q2 cap2 : Nat) (f2 : Nat → Int32), w1 = sbW g (A.1, q2) (cap2, f2, 0, ml, nI (n + dgs v)) ∧ cap2 ≤ 410 ∧ n + dgs v ≤ cap2 ∧ (∀ i, i < n → f2 i = f i) ∧ (∀ i, i < dgs v → f2 (n + i) = nI (dgt v i)) ∧ sb_Fit f2) 1 410 := by
  refine CtN.of (by decide) (Nat.le_of_ble_eq_true rfl) ?_
  intro K C Z hBA el eD ekn
  subst el
  subst eD
  have hlt : ∀ i, i < 4 → i < kn K := fun i h => by rw [ekn]; exact h
  show V K 0 0 (sbW g A (cap, f, 0, ml, nI n)) [(0, .ref A.1), (1, .int (nI v))] [] 0
  have hd : dgs v ≤ 2 := by unfold dgs; split <;> omega
  refine V_aload_n C 0 1 dJ5_append_c97b9_0 rfl rfl ?_
  refine V_get C 0 4 fl_J5_79 dJ5_append_c97b9_1 rfl rfl rfl ?_
  refine V_istore_n C 5 [(2, .int (nI n)), (0, .ref A.1), (1, .int (nI v))] dJ5_append_c97b9_4 rfl (hlt 2 (by decide)) rfl ?_
  refine V_iload_n C 0 6 dJ5_append_c97b9_5 rfl rfl ?_
  refine V_iload_n C 2 7 dJ5_append_c97b9_6 rfl rfl ?_
  refine V_callNs (as := [.int (nI v)]) (pre := []) (w0 := []) (rest := [.int (nI n)]) C hBA Z.1 lz_J5_245 q551 (c_jssz hv) dJ5_append_c97b9_7 ⟨Nat.le_of_ble_eq_true rfl, Nat.le_of_ble_eq_true rfl⟩ rfl rfl rfl (by exact (by decide : (1 : Nat) ≤ 8)) ⟨Nat.zero_le _, Nat.zero_le _⟩ (fun rv w1 hP => ?_)
  obtain ⟨rfl, rfl⟩ := hP
  show V K 0 0 (sbW g A (cap, f, 0, ml, nI n)) [(2, .int (nI n)), (0, .ref A.1), (1, .int (nI v))] [.int (nI (dgs v)), .int (nI n)] 10
  refine V_iadd C 11 dJ5_append_c97b9_10 rfl ?_
  refine V_st (st2 := [.int (nI (n + dgs v))]) (by rw [nI_add]) ?_
  refine V_istore_n C 12 [(3, .int (nI (n + dgs v))), (2, .int (nI n)), (0, .ref A.1), (1, .int (nI v))] dJ5_append_c97b9_11 rfl (hlt 3 (by decide)) rfl ?_
  refine V_aload_n C 2 13 dJ5_append_c97b9_12 rfl rfl ?_
  refine V_iload_n C 0 14 dJ5_append_c97b9_13 rfl rfl ?_
  refine V_callNu (as := [.int (nI (n + dgs v))]) (pre := []) (w0 := sbW g A (cap, f, 0, ml, nI n)) (post := []) (rest := []) C hBA Z.1 lu_J5_100 (c_gens hf hc (by omega)) 0 dJ5_append_c97b9_14 ⟨Nat.le_of_ble_eq_true rfl, Nat.le_of_ble_eq_true rfl⟩ rfl rfl rfl rfl (by exact (by decide : (0 : Nat) ≤ 8)) ⟨Nat.le_refl _, Nat.le_refl _⟩ (fun rv w1 hP => ?_)
  obtain ⟨rfl, q2, cap2, f2, rfl, h1, h2, h3, h4⟩ := hP
  show V K 1 410 (sbW g (A.1, q2) (cap2, f2, 0, ml, (nI n))) [(3, .int (nI (n + dgs v))), (2, .int (nI n)), (0, .ref A.1), (1, .int (nI v))] [] 17
  refine V_aload_n C 2 18 dJ5_append_c97b9_17 rfl rfl ?_
  refine V_callNu (as := []) (pre := []) (w0 := sbW g (A.1, q2) (cap2, f2, 0, ml, (nI n))) (post := []) (rest := []) C hBA Z.1 lu_J5_83 c_jlat 0 dJ5_append_c97b9_18 ⟨Nat.le_of_ble_eq_true rfl, Nat.le_of_ble_eq_true rfl⟩ rfl rfl rfl rfl (by exact (by decide : (0 : Nat) ≤ 8)) ⟨Nat.le_refl _, Nat.le_refl _⟩ (fun rv w1 hP => ?_)
  obtain ⟨rfl, rfl⟩ := hP
  show V K 1 410 (sbW g (A.1, q2) (cap2, f2, 0, ml, (nI n))) [(3, .int (nI (n + dgs v))), (2, .int (nI n)), (0, .ref A.1), (1, .int (nI v))] [.int (1 : Int32)] 21
  refine V_if_eq C 37 24 dJ5_append_c97b9_21 rfl rfl (fun e => absurd e (by decide)) (fun _ => ?_)
  refine V_iload_n C 3 25 dJ5_append_c97b9_24 rfl rfl ?_
  refine V_iload_n C 0 26 dJ5_append_c97b9_25 rfl rfl ?_
  refine V_aload_n C 2 27 dJ5_append_c97b9_26 rfl rfl ?_
  refine V_get C 0 30 fl_J5_15 dJ5_append_c97b9_27 rfl rfl rfl ?_
  refine V_callNs (as := [.int (nI v), .int (nI (n + dgs v)), .ref q2]) (pre := [(A.1, .inr (5, [.ref q2, .int 0, .int ml, .int (nI n)]))]) (w0 := [(q2, aB g cap2 f2)]) (post := []) (rest := []) C hBA Z.1 lz_J5_248 q554 (c_jgch hv (by omega) (by omega) (by omega)) dJ5_append_c97b9_30 ⟨Nat.le_of_ble_eq_true rfl, Nat.le_of_ble_eq_true rfl⟩ rfl rfl rfl (by exact (by decide : (0 : Nat) ≤ 8)) ⟨Nat.le_refl _, Nat.le_refl _⟩ (fun rv w1 hP => ?_)
  obtain ⟨r, rfl, rfl⟩ := hP
  show V K 1 410 (sbW g (A.1, q2) (cap2, (putD f2 (n + dgs v) v), 0, ml, (nI n))) [(3, .int (nI (n + dgs v))), (2, .int (nI n)), (0, .ref A.1), (1, .int (nI v))] [.int r] 33
  refine V_pop C 34 dJ5_append_c97b9_33 rfl rfl ?_
  refine V_goto C 48 dJ5_append_c97b9_34 rfl ?_
  refine V_aload_n C 2 49 dJ5_append_c97b9_48 rfl rfl ?_
  refine V_iload_n C 0 50 dJ5_append_c97b9_49 rfl rfl ?_
  refine V_put C hBA 0 53 (sbW g (A.1, q2) (cap2, (putD f2 (n + dgs v) v), 0, ml, nI (n + dgs v))) fl_J5_79 fp_J4_3 dJ5_append_c97b9_50 rfl rfl (by exact (by decide : 3 < 4)) rfl rfl rfl ?_
  refine V_aload_n C 2 54 dJ5_append_c97b9_53 rfl rfl ?_
  exact V_nretA C Z rfl (Or.inl ⟨_, rfl⟩) ⟨rfl, q2, cap2, _, rfl, h1, h2, fun i hi => (putD_lo hv hi).trans (h3 i (by omega)), fun i hi => putD_hi hv hi, putD_fit h4 hv⟩ dJ5_append_c97b9_54 (Nat.le_refl _) (Nat.le_refl _)
set_option maxRecDepth 4000 in
theorem c_gapi {l : Launch} {D : va_G} {g : G0} {A : SbA} {cap n v : Nat} {f : Nat → Int32} {ml : Int32} (hf : sb_Fit f) (hc : cap ≤ 410) (hn : n ≤ cap) (hn2 : n + 2 ≤ 200) (hv : v < 100) : CtN l D g yJ4_append_bf812 cJ4_append_bf812 2 (some (.object "java/lang/StringBuilder")) (rmN 5 128 1 410) (sbW g A (cap, f, 0, ml, nI n)) [.ref A.1, .int (nI v)] (fun rv w1 => rv = some (.ref A.1) ∧ ∃ (q2 cap2 : Nat) (f2 : Nat → Int32), w1 = sbW g (A.1, q2) (cap2, f2, 0, ml, nI (n + dgs v)) ∧ cap2 ≤ 410 ∧ n + dgs v ≤ cap2 ∧ (∀ i, i < n → f2 i = f i) ∧ (∀ i, i < dgs v → f2 (n + i) = nI (dgt v i)) ∧ sb_Fit f2) 1 410 := by
  refine CtN.of (by decide) (Nat.le_of_ble_eq_true rfl) ?_
  intro K C Z hBA el eD ekn
  subst el
  subst eD
  have hlt : ∀ i, i < 2 → i < kn K := fun i h => by rw [ekn]; exact h
  show V K 0 0 (sbW g A (cap, f, 0, ml, nI n)) [(0, .ref A.1), (1, .int (nI v))] [] 0
  refine V_aload_n C 0 1 dJ4_append_bf812_0 rfl rfl ?_
  refine V_iload_n C 1 2 dJ4_append_bf812_1 rfl rfl ?_
  refine V_callNw (as := [.int (nI v)]) (pre := []) (w0 := sbW g A (cap, f, 0, ml, nI n)) (post := []) (rest := []) C hBA Z.1 lw_J4_53 (c_gapi5 hf hc hn hn2 hv) 0 dJ4_append_bf812_2 ⟨Nat.le_of_ble_eq_true rfl, Nat.le_of_ble_eq_true rfl⟩ rfl rfl rfl rfl (by decide) ⟨Nat.le_refl _, Nat.le_refl _⟩ (fun rv w1 hP => ?_)
  obtain ⟨rfl, q2, cap2, f2, rfl, hP2⟩ := hP
  show V K 1 410 (sbW g (A.1, q2) (cap2, f2, 0, ml, nI (n + dgs v))) [(0, .ref A.1), (1, .int (nI v))] [.ref A.1] 5
  refine V_pop C 6 dJ4_append_bf812_5 rfl rfl ?_
  refine V_aload_n C 0 7 dJ4_append_bf812_6 rfl rfl ?_
  exact V_nretA C Z rfl (Or.inl ⟨_, rfl⟩) ⟨rfl, q2, cap2, f2, rfl, hP2⟩ dJ4_append_bf812_7 (Nat.le_refl _) (Nat.le_refl _)
set_option maxRecDepth 4000 in
theorem c_gaps5 {l : Launch} {D : va_G} {g : G0} {s : Nat × Nat} {A : SbA} {cap n u : Nat} {f fs : Nat → Int32} {ml : Int32} (hfs : sb_Fit fs) (hf : sb_Fit f) (hc : cap ≤ 410) (hn : n ≤ cap) (hn2 : n + (u) ≤ 200) : CtN l D g yJ5_append_cf1ce cJ5_append_cf1ce 3 (some (.object "java/lang/AbstractStringBuilder")) (rmN 4 105 1 410) (sbW g A (cap, f, 0, ml, nI n) ++ strW g s u fs) [.ref A.1, .ref s.1] (fun rv w1 => rv = some (.ref A.1) ∧ ∃ (q2 cap2 : Nat) (f2 : Nat → Int32), w1 = sbW g (A.1, q2) (cap2, f2, 0, ml, nI (n + (u))) ++ strW g s u fs ∧ cap2 ≤ 410 ∧ n + (u) ≤ cap2 ∧ (∀ j, j < n → f2 j = f j) ∧ (∀ j, j < u → f2 (n + j) = fs j) ∧ sb_Fit f2) 1 410 := by
  refine CtN.of (by decide) (Nat.le_of_ble_eq_true rfl) ?_
  intro K C Z hBA el eD ekn
  subst el
  subst eD
  have hlt : ∀ i, i < 3 → i < kn K := fun i h => by rw [ekn]; exact h
  show V K 0 0 (sbW g A (cap, f, 0, ml, nI n) ++ strW g s u fs) [(0, .ref A.1), (1, .ref s.1)] [] 0
  refine V_aload_n C 1 1 dJ5_append_cf1ce_0 rfl rfl ?_
  refine V_ifnonnull C 9 dJ5_append_cf1ce_1 rfl ?_
  refine V_aload_n C 1 10 dJ5_append_cf1ce_9 rfl rfl ?_
  refine V_callN (as := []) (pre := sbW g A (cap, f, 0, ml, nI n)) (w0 := strW g s u fs) (post := []) (rest := []) C hBA Z.1 ml_J5_32 (c_j0len) 2 dJ5_append_cf1ce_10 ⟨Nat.le_of_ble_eq_true rfl, Nat.le_of_ble_eq_true rfl⟩ rfl rfl rfl rfl (by exact (by decide : (0 : Nat) ≤ 8)) ⟨Nat.zero_le _, Nat.zero_le _⟩ (fun rv w1 hP => ?_)
  obtain ⟨rfl, rfl⟩ := hP
  show V K 0 0 (sbW g A (cap, f, 0, ml, nI n) ++ strW g s u fs) [(0, .ref A.1), (1, .ref s.1)] [.int (nI u)] 13
  refine V_istore_n C 14 [(2, .int (nI u)), (0, .ref A.1), (1, .ref s.1)] dJ5_append_cf1ce_13 rfl (hlt 2 (by decide)) rfl ?_
  refine V_aload_n C 1 15 dJ5_append_cf1ce_14 rfl rfl ?_
  refine V_aload_n C 1 16 dJ5_append_cf1ce_15 rfl rfl ?_
  refine V_get C 0 19 fl_J5_79 dJ5_append_cf1ce_16 rfl rfl rfl ?_
  refine V_iload_n C 0 20 dJ5_append_cf1ce_19 rfl rfl ?_
  refine V_iadd C 21 dJ5_append_cf1ce_20 rfl ?_
  refine V_st (st2 := [.int (nI (n + (u))), .ref A.1]) (by rw [nI_add]) ?_
  refine V_callNu (as := [.int (nI (n + (u)))]) (pre := []) (w0 := sbW g A (cap, f, 0, ml, nI n)) (post := strW g s u fs) (rest := []) C hBA Z.1 lu_J5_100 (c_gens hf hc (by omega)) 0 dJ5_append_cf1ce_21 ⟨Nat.le_of_ble_eq_true rfl, Nat.le_of_ble_eq_true rfl⟩ rfl rfl rfl rfl (by exact (by decide : (0 : Nat) ≤ 8)) ⟨Nat.le_refl _, Nat.le_refl _⟩ (fun rv w1 hP => ?_)
  obtain ⟨rfl, q2, cap2, f2, rfl, h1, h2, h3, h4⟩ := hP
  show V K 1 410 (sbW g (A.1, q2) (cap2, f2, 0, ml, (nI n)) ++ strW g s u fs) [(2, .int (nI u)), (0, .ref A.1), (1, .ref s.1)] [] 24
  refine V_aload_n C 1 25 dJ5_append_cf1ce_24 rfl rfl ?_
  refine V_aload_n C 1 26 dJ5_append_cf1ce_25 rfl rfl ?_
  refine V_get C 0 29 fl_J5_79 dJ5_append_cf1ce_26 rfl rfl rfl ?_
  refine V_aload_n C 2 30 dJ5_append_cf1ce_29 rfl rfl ?_
  refine V_callNu (as := [.int (nI n), .ref s.1]) (pre := []) (w0 := sbW g (A.1, q2) (cap2, f2, 0, ml, (nI n)) ++ strW g s u fs) (post := []) (rest := []) C hBA Z.1 lu_J5_208 (c_jput hfs (by omega) (by omega)) 0 dJ5_append_cf1ce_30 ⟨Nat.le_of_ble_eq_true rfl, Nat.le_of_ble_eq_true rfl⟩ rfl rfl rfl rfl (by exact (by decide : (0 : Nat) ≤ 8)) ⟨Nat.le_refl _, Nat.le_refl _⟩ (fun rv w1 hP => ?_)
  obtain ⟨rfl, rfl⟩ := hP
  show V K 1 410 (sbW g (A.1, q2) (cap2, (va_cpy fs f2 0 n (u)), 0, ml, (nI n)) ++ strW g s u fs) [(2, .int (nI u)), (0, .ref A.1), (1, .ref s.1)] [] 33
  refine V_aload_n C 1 34 dJ5_append_cf1ce_33 rfl rfl ?_
  refine V_dup C 35 dJ5_append_cf1ce_34 rfl rfl ?_
  refine V_get C 0 38 fl_J5_79 dJ5_append_cf1ce_35 rfl rfl rfl ?_
  refine V_iload_n C 0 39 dJ5_append_cf1ce_38 rfl rfl ?_
  refine V_iadd C 40 dJ5_append_cf1ce_39 rfl ?_
  refine V_st (st2 := [.int (nI (n + (u))), .ref A.1]) (by rw [nI_add]) ?_
  refine V_put C hBA 0 43 (sbW g (A.1, q2) (cap2, (va_cpy fs f2 0 n (u)), 0, ml, nI (n + (u))) ++ strW g s u fs) fl_J5_79 fp_J4_3 dJ5_append_cf1ce_40 rfl rfl (by exact (by decide : 3 < 4)) rfl rfl rfl ?_
  refine V_aload_n C 1 44 dJ5_append_cf1ce_43 rfl rfl ?_
  refine V_nretA C Z rfl (Or.inl ⟨_, rfl⟩) ⟨rfl, q2, cap2, _, rfl, h1, h2, fun j hj => ?_, fun j hj => ?_, fun j => ?_⟩ dJ5_append_cf1ce_44 (Nat.le_refl _) (Nat.le_refl _)
  · rw [pk_cpy_out (Or.inl hj)]
    exact h3 j (by omega)
  · rw [pk_cpy_in (by omega) (by omega), Nat.zero_add, Nat.add_sub_cancel_left]
  · by_cases hj : n ≤ j ∧ j < n + (u)
    · rw [pk_cpy_in hj.1 hj.2]
      exact hfs _
    · rw [pk_cpy_out (by omega)]
      exact h4 j
set_option maxRecDepth 4000 in
theorem c_gaps {l : Launch} {D : va_G} {g : G0} {s : Nat × Nat} {A : SbA} {cap n u : Nat} {f fs : Nat → Int32} {ml : Int32} (hfs : sb_Fit fs) (hf : sb_Fit f) (hc : cap ≤ 410) (hn : n ≤ cap) (hn2 : n + (u) ≤ 200) : CtN l D g yJ4_append_15ec4 cJ4_append_15ec4 2 (some (.object "java/lang/StringBuilder")) (rmN 5 127 1 410) (sbW g A (cap, f, 0, ml, nI n) ++ strW g s u fs) [.ref A.1, .ref s.1] (fun rv w1 => rv = some (.ref A.1) ∧ ∃ (q2 cap2 : Nat) (f2 : Nat → Int32), w1 = sbW g (A.1, q2) (cap2, f2, 0, ml, nI (n + (u))) ++ strW g s u fs ∧ cap2 ≤ 410 ∧ n + (u) ≤ cap2 ∧ (∀ j, j < n → f2 j = f j) ∧ (∀ j, j < u → f2 (n + j) = fs j) ∧ sb_Fit f2) 1 410 := by
  refine CtN.of (by decide) (Nat.le_of_ble_eq_true rfl) ?_
  intro K C Z hBA el eD ekn
  subst el
  subst eD
  have hlt : ∀ i, i < 2 → i < kn K := fun i h => by rw [ekn]; exact h
  show V K 0 0 (sbW g A (cap, f, 0, ml, nI n) ++ strW g s u fs) [(0, .ref A.1), (1, .ref s.1)] [] 0
  refine V_aload_n C 0 1 dJ4_append_15ec4_0 rfl rfl ?_
  refine V_aload_n C 1 2 dJ4_append_15ec4_1 rfl rfl ?_
  refine V_callNw (as := [.ref s.1]) (pre := []) (w0 := sbW g A (cap, f, 0, ml, nI n) ++ strW g s u fs) (post := []) (rest := []) C hBA Z.1 lw_J4_29 (c_gaps5 hfs hf hc hn hn2) 0 dJ4_append_15ec4_2 ⟨Nat.le_of_ble_eq_true rfl, Nat.le_of_ble_eq_true rfl⟩ rfl rfl rfl rfl (by decide) ⟨Nat.le_refl _, Nat.le_refl _⟩ (fun rv w1 hP => ?_)
  obtain ⟨rfl, q2, cap2, f2, rfl, hP2⟩ := hP
  show V K 1 410 (sbW g (A.1, q2) (cap2, f2, 0, ml, nI (n + (u))) ++ strW g s u fs) [(0, .ref A.1), (1, .ref s.1)] [.ref A.1] 5
  refine V_pop C 6 dJ4_append_15ec4_5 rfl rfl ?_
  refine V_aload_n C 0 7 dJ4_append_15ec4_6 rfl rfl ?_
  exact V_nretA C Z rfl (Or.inl ⟨_, rfl⟩) ⟨rfl, q2, cap2, f2, rfl, hP2⟩ dJ4_append_15ec4_7 (Nat.le_refl _) (Nat.le_refl _)
set_option maxRecDepth 4000 in
theorem c_gaps5K {l : Launch} {D : va_G} {g : G0} {A : SbA} {cap n i : Nat} {f : Nat → Int32} {ml : Int32} (hi : i < 6) (hf : sb_Fit f) (hc : cap ≤ 410) (hn : n ≤ cap) (hn2 : n + (ksLen.getD i 0) ≤ 200) : CtN l D g yJ5_append_cf1ce cJ5_append_cf1ce 3 (some (.object "java/lang/AbstractStringBuilder")) (rmN 4 105 1 410) (sbW g A (cap, f, 0, ml, nI n)) [.ref A.1, .ref (kK D i)] (fun rv w1 => rv = some (.ref A.1) ∧ ∃ (q2 cap2 : Nat) (f2 : Nat → Int32), w1 = sbW g (A.1, q2) (cap2, f2, 0, ml, nI (n + (ksLen.getD i 0))) ∧ cap2 ≤ 410 ∧ n + (ksLen.getD i 0) ≤ cap2 ∧ (∀ j, j < n → f2 j = f j) ∧ (∀ j, j < ksLen.getD i 0 → f2 (n + j) = (ksByt.getD i []).getD j 0) ∧ sb_Fit f2) 1 410 := by
  refine CtN.of (by decide) (Nat.le_of_ble_eq_true rfl) ?_
  intro K C Z hBA el eD ekn
  subst el
  subst eD
  have hlt : ∀ i, i < 3 → i < kn K := fun i h => by rw [ekn]; exact h
  show V K 0 0 (sbW g A (cap, f, 0, ml, nI n)) [(0, .ref A.1), (1, .ref (kK (kD K) i))] [] 0
  refine V_aload_n C 1 1 dJ5_append_cf1ce_0 rfl rfl ?_
  refine V_ifnonnull C 9 dJ5_append_cf1ce_1 rfl ?_
  refine V_aload_n C 1 10 dJ5_append_cf1ce_9 rfl rfl ?_
  refine V_callNk (hi := hi) (as := []) (pre := sbW g A (cap, f, 0, ml, nI n)) (w0 := []) (post := []) (rest := []) C hBA Z.1 ml_J5_32 rfl (c_j0lenK hi) dJ5_append_cf1ce_10 ⟨Nat.le_of_ble_eq_true rfl, Nat.le_of_ble_eq_true rfl⟩ rfl rfl rfl (by exact (by decide : (0 : Nat) ≤ 8)) ⟨Nat.zero_le _, Nat.zero_le _⟩ (fun rv w1 hP => ?_)
  obtain ⟨rfl, rfl⟩ := hP
  show V K 0 0 (sbW g A (cap, f, 0, ml, nI n)) [(0, .ref A.1), (1, .ref (kK (kD K) i))] [.int (nI (ksLen.getD i 0))] 13
  refine V_istore_n C 14 [(2, .int (nI (ksLen.getD i 0))), (0, .ref A.1), (1, .ref (kK (kD K) i))] dJ5_append_cf1ce_13 rfl (hlt 2 (by decide)) rfl ?_
  refine V_aload_n C 1 15 dJ5_append_cf1ce_14 rfl rfl ?_
  refine V_aload_n C 1 16 dJ5_append_cf1ce_15 rfl rfl ?_
  refine V_get C 0 19 fl_J5_79 dJ5_append_cf1ce_16 rfl rfl rfl ?_
  refine V_iload_n C 0 20 dJ5_append_cf1ce_19 rfl rfl ?_
  refine V_iadd C 21 dJ5_append_cf1ce_20 rfl ?_
  refine V_st (st2 := [.int (nI (n + (ksLen.getD i 0))), .ref A.1]) (by rw [nI_add]) ?_
  refine V_callNu (as := [.int (nI (n + (ksLen.getD i 0)))]) (pre := []) (w0 := sbW g A (cap, f, 0, ml, nI n)) (post := []) (rest := []) C hBA Z.1 lu_J5_100 (c_gens hf hc (by omega)) 0 dJ5_append_cf1ce_21 ⟨Nat.le_of_ble_eq_true rfl, Nat.le_of_ble_eq_true rfl⟩ rfl rfl rfl rfl (by exact (by decide : (0 : Nat) ≤ 8)) ⟨Nat.le_refl _, Nat.le_refl _⟩ (fun rv w1 hP => ?_)
  obtain ⟨rfl, q2, cap2, f2, rfl, h1, h2, h3, h4⟩ := hP
  show V K 1 410 (sbW g (A.1, q2) (cap2, f2, 0, ml, (nI n))) [(2, .int (nI (ksLen.getD i 0))), (0, .ref A.1), (1, .ref (kK (kD K) i))] [] 24
  refine V_aload_n C 1 25 dJ5_append_cf1ce_24 rfl rfl ?_
  refine V_aload_n C 1 26 dJ5_append_cf1ce_25 rfl rfl ?_
  refine V_get C 0 29 fl_J5_79 dJ5_append_cf1ce_26 rfl rfl rfl ?_
  refine V_aload_n C 2 30 dJ5_append_cf1ce_29 rfl rfl ?_
  refine V_callNu (as := [.int (nI n), .ref (kK (kD K) i)]) (pre := []) (w0 := sbW g (A.1, q2) (cap2, f2, 0, ml, (nI n))) (post := []) (rest := []) C hBA Z.1 lu_J5_208 (c_jputK hi (by omega) (by omega)) 0 dJ5_append_cf1ce_30 ⟨Nat.le_of_ble_eq_true rfl, Nat.le_of_ble_eq_true rfl⟩ rfl rfl rfl rfl (by exact (by decide : (0 : Nat) ≤ 8)) ⟨Nat.le_refl _, Nat.le_refl _⟩ (fun rv w1 hP => ?_)
  obtain ⟨rfl, rfl⟩ := hP
  show V K 1 410 (sbW g (A.1, q2) (cap2, (va_cpy (fun j => (ksByt.getD i []).getD j 0) f2 0 n (ksLen.getD i 0)), 0, ml, (nI n))) [(2, .int (nI (ksLen.getD i 0))), (0, .ref A.1), (1, .ref (kK (kD K) i))] [] 33
  refine V_aload_n C 1 34 dJ5_append_cf1ce_33 rfl rfl ?_
  refine V_dup C 35 dJ5_append_cf1ce_34 rfl rfl ?_
  refine V_get C 0 38 fl_J5_79 dJ5_append_cf1ce_35 rfl rfl rfl ?_
  refine V_iload_n C 0 39 dJ5_append_cf1ce_38 rfl rfl ?_
  refine V_iadd C 40 dJ5_append_cf1ce_39 rfl ?_
  refine V_st (st2 := [.int (nI (n + (ksLen.getD i 0))), .ref A.1]) (by rw [nI_add]) ?_
  refine V_put C hBA 0 43 (sbW g (A.1, q2) (cap2, (va_cpy (fun j => (ksByt.getD i []).getD j 0) f2 0 n (ksLen.getD i 0)), 0, ml, nI (n + (ksLen.getD i 0)))) fl_J5_79 fp_J4_3 dJ5_append_cf1ce_40 rfl rfl (by exact (by decide : 3 < 4)) rfl rfl rfl ?_
  refine V_aload_n C 1 44 dJ5_append_cf1ce_43 rfl rfl ?_
  refine V_nretA C Z rfl (Or.inl ⟨_, rfl⟩) ⟨rfl, q2, cap2, _, rfl, h1, h2, fun j hj => ?_, fun j hj => ?_, fun j => ?_⟩ dJ5_append_cf1ce_44 (Nat.le_refl _) (Nat.le_refl _)
  · rw [pk_cpy_out (Or.inl hj)]
    exact h3 j (by omega)
  · rw [pk_cpy_in (by omega) (by omega), Nat.zero_add, Nat.add_sub_cancel_left]
  · by_cases hj : n ≤ j ∧ j < n + (ksLen.getD i 0)
    · rw [pk_cpy_in hj.1 hj.2]
      exact ks_fit
    · rw [pk_cpy_out (by omega)]
      exact h4 j
set_option maxRecDepth 4000 in
theorem c_gapsK {l : Launch} {D : va_G} {g : G0} {A : SbA} {cap n i : Nat} {f : Nat → Int32} {ml : Int32} (hi : i < 6) (hf : sb_Fit f) (hc : cap ≤ 410) (hn : n ≤ cap) (hn2 : n + (ksLen.getD i 0) ≤ 200) : CtN l D g yJ4_append_15ec4 cJ4_append_15ec4 2 (some (.object "java/lang/StringBuilder")) (rmN 5 127 1 410) (sbW g A (cap, f, 0, ml, nI n)) [.ref A.1, .ref (kK D i)] (fun rv w1 => rv = some (.ref A.1) ∧ ∃ (q2 cap2 : Nat) (f2 : Nat → Int32), w1 = sbW g (A.1, q2) (cap2, f2, 0, ml, nI (n + (ksLen.getD i 0))) ∧ cap2 ≤ 410 ∧ n + (ksLen.getD i 0) ≤ cap2 ∧ (∀ j, j < n → f2 j = f j) ∧ (∀ j, j < ksLen.getD i 0 → f2 (n + j) = (ksByt.getD i []).getD j 0) ∧ sb_Fit f2) 1 410 := by
  refine CtN.of (by decide) (Nat.le_of_ble_eq_true rfl) ?_
  intro K C Z hBA el eD ekn
  subst el
  subst eD
  have hlt : ∀ i, i < 2 → i < kn K := fun i h => by rw [ekn]; exact h
  show V K 0 0 (sbW g A (cap, f, 0, ml, nI n)) [(0, .ref A.1), (1, .ref (kK (kD K) i))] [] 0
  refine V_aload_n C 0 1 dJ4_append_15ec4_0 rfl rfl ?_
  refine V_aload_n C 1 2 dJ4_append_15ec4_1 rfl rfl ?_
  refine V_callNw (as := [.ref (kK (kD K) i)]) (pre := []) (w0 := sbW g A (cap, f, 0, ml, nI n)) (post := []) (rest := []) C hBA Z.1 lw_J4_29 (c_gaps5K hi hf hc hn hn2) 0 dJ4_append_15ec4_2 ⟨Nat.le_of_ble_eq_true rfl, Nat.le_of_ble_eq_true rfl⟩ rfl rfl rfl rfl (by decide) ⟨Nat.le_refl _, Nat.le_refl _⟩ (fun rv w1 hP => ?_)
  obtain ⟨rfl, q2, cap2, f2, rfl, hP2⟩ := hP
  show V K 1 410 (sbW g (A.1, q2) (cap2, f2, 0, ml, nI (n + (ksLen.getD i 0)))) [(0, .ref A.1), (1, .ref (kK (kD K) i))] [.ref A.1] 5
  refine V_pop C 6 dJ4_append_15ec4_5 rfl rfl ?_
  refine V_aload_n C 0 7 dJ4_append_15ec4_6 rfl rfl ?_
  exact V_nretA C Z rfl (Or.inl ⟨_, rfl⟩) ⟨rfl, q2, cap2, f2, rfl, hP2⟩ dJ4_append_15ec4_7 (Nat.le_refl _) (Nat.le_refl _)
set_option maxRecDepth 4000 in
theorem c_jckl {l : Launch} {D : va_G} {g : G0} {a b : Nat} (h : a ≤ b) (hb : b < 2 ^ 31) : CtN l D g yJ7_checkLength_df160 cJ7_checkLength_df160 2 none (rmN 0 0 0 0) ([]) [.int (nI a), .int (nI b)] (fun rv w1 => rv = none ∧ w1 = []) 0 0 := by
  refine CtN.of (by decide) (Nat.le_of_ble_eq_true rfl) ?_
  intro K C Z hBA el eD ekn
  subst el
  subst eD
  have hlt : ∀ i, i < 2 → i < kn K := fun i h => by rw [ekn]; exact h
  show V K 0 0 ([]) [(0, .int (nI a)), (1, .int (nI b))] [] 0
  refine V_iload_n C 1 1 dJ7_checkLength_df160_0 rfl rfl ?_
  refine V_iload_n C 0 2 dJ7_checkLength_df160_1 rfl rfl ?_
  refine V_icmp_ge C 37 5 dJ7_checkLength_df160_2 rfl rfl (fun _ => ?_) (fun e => absurd (nI_le h hb) e)
  exact V_nretV C Z rfl ⟨rfl, rfl⟩ dJ7_checkLength_df160_37 (Nat.zero_le _) (Nat.zero_le _)
set_option maxRecDepth 4000 in
theorem c_jcrb {l : Launch} {D : va_G} {g : G0} {q cap k : Nat} {f : Nat → Int32} (hf : sb_Fit f) (h : k ≤ cap) (hc : cap ≤ 1000) : CtN l D g yJ7_copyOfRangeByte_39247 cJ7_copyOfRangeByte_39247 5 (some (.array .byte)) (rmN 1 60 1 k) ([(q, aB g cap f)]) [.ref q, .int 0, .int (nI k)] (fun rv w1 => ∃ (q2 : Nat) (f2 : Nat → Int32), rv = some (.ref q2) ∧ w1 = [(q, aB g cap f), (q2, aB g k f2)] ∧ (∀ j, j < k → f2 j = f j) ∧ sb_Fit f2) 1 k := by
  refine CtN.of (by decide) (Nat.le_of_ble_eq_true rfl) ?_
  intro K C Z hBA el eD ekn
  subst el
  subst eD
  have hlt : ∀ i, i < 5 → i < kn K := fun i h => by rw [ekn]; exact h
  show V K 0 0 ([(q, aB g cap f)]) [(0, .ref q), (1, .int (0 : Int32)), (2, .int (nI k))] [] 0
  refine V_iload_n C 1 1 dJ7_copyOfRangeByte_39247_0 rfl rfl ?_
  refine V_iload_n C 2 2 dJ7_copyOfRangeByte_39247_1 rfl rfl ?_
  refine V_callNs (as := [.int (nI 0), .int (nI k)]) (pre := []) (w0 := []) (rest := []) C hBA Z.1 lz_J7_343 k821 (c_jckl (Nat.zero_le _) (by omega)) dJ7_copyOfRangeByte_39247_2 ⟨Nat.le_of_ble_eq_true rfl, Nat.le_of_ble_eq_true rfl⟩ rfl rfl rfl (by exact (by decide : (0 : Nat) ≤ 8)) ⟨Nat.zero_le _, Nat.zero_le _⟩ (fun rv w1 hP => ?_)
  obtain ⟨rfl, rfl⟩ := hP
  show V K 0 0 ([(q, aB g cap f)]) [(0, .ref q), (1, .int (0 : Int32)), (2, .int (nI k))] [] 5
  refine V_iload_n C 2 6 dJ7_copyOfRangeByte_39247_5 rfl rfl ?_
  refine V_iload_n C 1 7 dJ7_copyOfRangeByte_39247_6 rfl rfl ?_
  refine V_isub C 8 dJ7_copyOfRangeByte_39247_7 rfl ?_
  refine V_st (st2 := [.int (nI k)]) (by rw [Int32.sub_zero]) ?_
  refine V_istore_n C 9 [(3, .int (nI k)), (0, .ref q), (1, .int (0 : Int32)), (2, .int (nI k))] dJ7_copyOfRangeByte_39247_8 rfl (hlt 3 (by decide)) rfl ?_
  refine V_iload_n C 0 10 dJ7_copyOfRangeByte_39247_9 rfl rfl ?_
  refine V_newB C hBA k 12 q237 (nI_pos (by omega)) (cl_n (by omega)) (by omega) (Nat.le_refl _) (show 0 + k ≤ k by omega) dJ7_copyOfRangeByte_39247_10 rfl (fun q2 => ?_)
  refine V_astore C 14 [(4, .ref q2), (3, .int (nI k)), (0, .ref q), (1, .int (0 : Int32)), (2, .int (nI k))] dJ7_copyOfRangeByte_39247_12 rfl (hlt 4 (by decide)) rfl ?_
  refine V_aload_n C 2 15 dJ7_copyOfRangeByte_39247_14 rfl rfl ?_
  refine V_iload_n C 3 16 dJ7_copyOfRangeByte_39247_15 rfl rfl ?_
  refine V_aload C 0 18 dJ7_copyOfRangeByte_39247_16 rfl rfl ?_
  refine V_iconst C (0 : Int32) 19 dJ7_copyOfRangeByte_39247_18 rfl rfl ?_
  refine V_aload_n C 2 20 dJ7_copyOfRangeByte_39247_19 rfl rfl ?_
  refine V_alen (t0 := 2) C 0 21 (nI cap) dJ7_copyOfRangeByte_39247_20 rfl rfl rfl rfl ?_
  refine V_iload_n C 3 22 dJ7_copyOfRangeByte_39247_21 rfl rfl ?_
  refine V_isub C 23 dJ7_copyOfRangeByte_39247_22 rfl ?_
  refine V_st (st2 := [.int (nI cap), .int (0 : Int32), .ref q2, .int (0 : Int32), .ref q]) (by rw [Int32.sub_zero]) ?_
  refine V_iload_n C 1 24 dJ7_copyOfRangeByte_39247_23 rfl rfl ?_
  refine V_mmin C 27 q463 dJ7_copyOfRangeByte_39247_24 rfl ⟨Nat.le_refl _, by show 4 + 13 ≤ 60; decide⟩ ⟨Nat.le_refl _, show 0 + k ≤ k by omega⟩ ?_
  have hmin : (if nI k < nI cap then nI k else nI cap) = nI k := by
    by_cases e : k < cap
    · rw [if_pos (nI_lt e (by omega))]
    · rw [if_neg (nI_nlt (by omega) (by omega)), show cap = k by omega]
  refine V_st (st2 := [.int (nI k), .int (0 : Int32), .ref q2, .int (0 : Int32), .ref q]) (by rw [hmin]) ?_
  refine V_bcopy C hBA 0 1 30 [(q, aB g cap f), (q2, aB g k (va_cpy f (fun _ => 0) 0 0 k))] al_J7_150 dJ7_copyOfRangeByte_39247_27 rfl rfl rfl (by omega) (by omega) (by omega) (by omega) hf ⟨Nat.le_refl _, by exact (by decide : 0 + (nativeFrameWords "java/lang/System" "arraycopy" 5 + 11) ≤ 60)⟩ rfl ?_
  refine V_aload C 0 32 dJ7_copyOfRangeByte_39247_30 rfl rfl ?_
  refine V_nretA C Z rfl (Or.inr ⟨_, rfl⟩) ⟨q2, _, rfl, rfl, fun j hj => ?_, fun j => ?_⟩ dJ7_copyOfRangeByte_39247_32 (Nat.le_refl _) (show 0 + k ≤ k by omega)
  · rw [pk_cpy_in (Nat.zero_le j) (by omega), Nat.zero_add, Nat.sub_zero]
  · by_cases hj : j < 0 + k
    · rw [pk_cpy_in (Nat.zero_le j) hj]
      exact hf _
    · rw [pk_cpy_out (Or.inr (by omega))]
      exact sb_fit0 0
set_option maxRecDepth 4000 in
theorem c_jcr {l : Launch} {D : va_G} {g : G0} {q cap k : Nat} {f : Nat → Int32} (hf : sb_Fit f) (h : k ≤ cap) (hc : cap ≤ 1000) : CtN l D g yJ7_copyOfRange_39247 cJ7_copyOfRange_39247 3 (some (.array .byte)) (rmN 2 84 1 k) ([(q, aB g cap f)]) [.ref q, .int 0, .int (nI k)] (fun rv w1 => ∃ (q2 : Nat) (f2 : Nat → Int32), rv = some (.ref q2) ∧ w1 = [(q, aB g cap f), (q2, aB g k f2)] ∧ (∀ j, j < k → f2 j = f j) ∧ sb_Fit f2) 1 k := by
  refine CtN.of (by decide) (Nat.le_of_ble_eq_true rfl) ?_
  intro K C Z hBA el eD ekn
  subst el
  subst eD
  have hlt : ∀ i, i < 3 → i < kn K := fun i h => by rw [ekn]; exact h
  show V K 0 0 ([(q, aB g cap f)]) [(0, .ref q), (1, .int (0 : Int32)), (2, .int (nI k))] [] 0
  refine V_iload_n C 1 1 dJ7_copyOfRange_39247_0 rfl rfl ?_
  refine V_if_ne C 10 4 dJ7_copyOfRange_39247_1 rfl rfl (fun e => absurd rfl e) (fun _ => ?_)
  refine V_iload_n C 2 5 dJ7_copyOfRange_39247_4 rfl rfl ?_
  refine V_aload_n C 0 6 dJ7_copyOfRange_39247_5 rfl rfl ?_
  refine V_alen (t0 := 2) C 0 7 (nI cap) dJ7_copyOfRange_39247_6 rfl rfl rfl rfl ?_
  by_cases hkc : k = cap
  · refine V_icmp_eq C 17 10 dJ7_copyOfRange_39247_7 rfl rfl (fun _ => ?_) (fun e => absurd (congrArg nI hkc) e)
    refine V_aload_n C 0 18 dJ7_copyOfRange_39247_17 rfl rfl ?_
    refine V_cloneB C hBA Z.1 0 21 k675 k676 k677 k678 k679 nw_clone rfl hf ⟨Nat.le_of_ble_eq_true rfl, Nat.le_of_ble_eq_true rfl⟩ ⟨Nat.le_refl _, by exact (by omega : 0 + cap ≤ k)⟩ dJ7_copyOfRange_39247_18 rfl (fun q2 => ?_)
    refine V_castB C 1 24 k681 rfl dJ7_copyOfRange_39247_21 rfl ?_
    exact V_nretA C Z rfl (Or.inr ⟨_, rfl⟩) ⟨q2, f, rfl, by rw [hkc]; rfl, fun _ _ => rfl, hf⟩ dJ7_copyOfRange_39247_24 (Nat.le_refl _) (by exact (by omega : 0 + cap ≤ k))
  · refine V_icmp_eq C 17 10 dJ7_copyOfRange_39247_7 rfl rfl (fun e => absurd ((nI_eq (by omega) (by omega)).mp e) hkc) (fun _ => ?_)
    refine V_aload_n C 0 11 dJ7_copyOfRange_39247_10 rfl rfl ?_
    refine V_iload_n C 1 12 dJ7_copyOfRange_39247_11 rfl rfl ?_
    refine V_iload_n C 2 13 dJ7_copyOfRange_39247_12 rfl rfl ?_
    refine V_callNs (as := [.ref q, .int 0, .int (nI k)]) (pre := []) (w0 := [(q, aB g cap f)]) (post := []) (rest := []) C hBA Z.1 lz_J7_339 k818 (c_jcrb hf h hc) dJ7_copyOfRange_39247_13 ⟨Nat.le_of_ble_eq_true rfl, Nat.le_of_ble_eq_true rfl⟩ rfl rfl rfl (by exact (by decide : (0 : Nat) ≤ 8)) ⟨Nat.le_refl _, by exact (by omega : 0 + k ≤ k)⟩ (fun rv w1 hP => ?_)
    obtain ⟨q2, f2, rfl, rfl, h1, h2⟩ := hP
    exact V_nretA C Z rfl (Or.inr ⟨_, rfl⟩) ⟨q2, f2, rfl, rfl, h1, h2⟩ dJ7_copyOfRange_39247_16 (Nat.le_refl _) (by exact (by omega : 0 + k ≤ k))
set_option maxRecDepth 4000 in
theorem c_jgv {l : Launch} {D : va_G} {g : G0} {A : SbA} {cap n : Nat} {f : Nat → Int32} {ml : Int32} : CtN l D g yJ5_getValue_6d5f1 cJ5_getValue_6d5f1 1 (some (.array .byte)) (rmN 0 0 0 0) (sbW g A (cap, f, 0, ml, nI n)) [.ref A.1] (fun rv w1 => rv = some (.ref A.2) ∧ w1 = sbW g A (cap, f, 0, ml, nI n)) 0 0 := by
  refine CtN.of (by decide) (Nat.le_of_ble_eq_true rfl) ?_
  intro K C Z hBA el eD ekn
  subst el
  subst eD
  have hlt : ∀ i, i < 1 → i < kn K := fun i h => by rw [ekn]; exact h
  show V K 0 0 (sbW g A (cap, f, 0, ml, nI n)) [(0, .ref A.1)] [] 0
  refine V_aload_n C 0 1 dJ5_getValue_6d5f1_0 rfl rfl ?_
  refine V_get C 0 4 fl_J5_15 dJ5_getValue_6d5f1_1 rfl rfl rfl ?_
  exact V_nretA C Z rfl (Or.inr ⟨_, rfl⟩) ⟨rfl, rfl⟩ dJ5_getValue_6d5f1_4 (Nat.zero_le _) (Nat.zero_le _)
set_option maxRecDepth 4000 in
theorem c_j0new5 {l : Launch} {D : va_G} {g : G0} {o : Nat} {A : SbA} {cap n : Nat} {f : Nat → Int32} {ml : Int32} (hf : sb_Fit f) (hn : n ≤ cap) (hc : cap ≤ 410) : CtN l D g yJ0_init_db425 cJ0_init_db425 5 none (rmN 3 106 1 n) ([(o, .inr (4, [.null, .int 0, .int 0, .int 0]))] ++ sbW g A (cap, f, 0, ml, nI n)) [.ref o, .ref A.1, .null] (fun rv w1 => rv = none ∧ ∃ (q2 : Nat) (f2 : Nat → Int32), w1 = strW g (o, q2) n f2 ++ sbW g A (cap, f, 0, ml, nI n) ∧ (∀ j, j < n → f2 j = f j) ∧ sb_Fit f2) 1 n := by
  refine CtN.ofI (by decide) (Nat.le_of_ble_eq_true rfl) ?_
  intro K C Z hBA el eD ekn hnm
  subst el
  subst eD
  have hlt : ∀ i, i < 5 → i < kn K := fun i h => by rw [ekn]; exact h
  show V K 0 0 ([(o, .inr (4, [.null, .int 0, .int 0, .int 0]))] ++ sbW g A (cap, f, 0, ml, nI n)) [(0, .ref o), (1, .ref A.1), (2, .null)] [] 0
  refine V_aload_n C 0 1 dJ0_init_db425_0 rfl rfl ?_
  refine V_oinit C 4 k799 dJ0_init_db425_1 rfl ⟨Nat.le_of_ble_eq_true rfl, Nat.le_of_ble_eq_true rfl⟩ ?_
  refine V_aload_n C 1 5 dJ0_init_db425_4 rfl rfl ?_
  refine V_callNu (as := []) (pre := [(o, .inr (4, [.null, .int 0, .int 0, .int 0]))]) (w0 := sbW g A (cap, f, 0, ml, nI n)) (post := []) (rest := []) C hBA Z.1 lu_J0_552 (c_jgv) 1 dJ0_init_db425_5 ⟨Nat.le_of_ble_eq_true rfl, Nat.le_of_ble_eq_true rfl⟩ rfl rfl rfl rfl (by exact (by decide : (0 : Nat) ≤ 8)) ⟨Nat.zero_le _, Nat.zero_le _⟩ (fun rv w1 hP => ?_)
  obtain ⟨rfl, rfl⟩ := hP
  show V K 0 0 ([(o, .inr (4, [.null, .int 0, .int 0, .int 0]))] ++ sbW g A (cap, f, 0, ml, nI n)) [(0, .ref o), (1, .ref A.1), (2, .null)] [.ref A.2] 8
  refine V_astore_n C 9 [(3, .ref A.2), (0, .ref o), (1, .ref A.1), (2, .null)] dJ0_init_db425_8 rfl (hlt 3 (by decide)) rfl ?_
  refine V_aload_n C 2 10 dJ0_init_db425_9 rfl rfl ?_
  refine V_callNx (as := []) (pre := [(o, .inr (4, [.null, .int 0, .int 0, .int 0]))]) (w0 := sbW g A (cap, f, 0, ml, nI n)) (post := []) (rest := []) C hBA Z.1 k805 q588 q587 q593 q590 q591 q61 k808 (show cl0[5]? = some (RJ4, TJ4, 4) from rfl) ⟨by decide, by decide, by decide +kernel⟩ c_jcnt 1 dJ0_init_db425_10 ⟨Nat.le_of_ble_eq_true rfl, Nat.le_of_ble_eq_true rfl⟩ rfl rfl rfl rfl (by exact (by decide : (0 : Nat) ≤ 8)) ⟨Nat.zero_le _, Nat.zero_le _⟩ (fun rv w1 hP => ?_)
  obtain ⟨rfl, rfl⟩ := hP
  show V K 0 0 ([(o, .inr (4, [.null, .int 0, .int 0, .int 0]))] ++ sbW g A (cap, f, 0, ml, nI n)) [(3, .ref A.2), (0, .ref o), (1, .ref A.1), (2, .null)] [.int (nI n)] 13
  refine V_istore C 15 [(4, .int (nI n)), (3, .ref A.2), (0, .ref o), (1, .ref A.1), (2, .null)] dJ0_init_db425_13 rfl (hlt 4 (by decide)) rfl ?_
  refine V_aload_n C 3 16 dJ0_init_db425_15 rfl rfl ?_
  refine V_callNu (as := []) (pre := [(o, .inr (4, [.null, .int 0, .int 0, .int 0]))]) (w0 := sbW g A (cap, f, 0, ml, nI n)) (post := []) (rest := []) C hBA Z.1 lu_J0_1047 (c_jlat) 1 dJ0_init_db425_16 ⟨Nat.le_of_ble_eq_true rfl, Nat.le_of_ble_eq_true rfl⟩ rfl rfl rfl rfl (by exact (by decide : (0 : Nat) ≤ 8)) ⟨Nat.zero_le _, Nat.zero_le _⟩ (fun rv w1 hP => ?_)
  obtain ⟨rfl, rfl⟩ := hP
  show V K 0 0 ([(o, .inr (4, [.null, .int 0, .int 0, .int 0]))] ++ sbW g A (cap, f, 0, ml, nI n)) [(4, .int (nI n)), (3, .ref A.2), (0, .ref o), (1, .ref A.1), (2, .null)] [.int (1 : Int32)] 19
  refine V_if_eq C 41 22 dJ0_init_db425_19 rfl rfl (fun e => absurd e (by decide)) (fun _ => ?_)
  refine V_aload_n C 2 23 dJ0_init_db425_22 rfl rfl ?_
  refine V_iconst C (0 : Int32) 24 dJ0_init_db425_23 rfl rfl ?_
  refine V_putF C hBA hnm 0 27 ([(o, .inr (4, [.null, .int 0, .int 0, .int 0]))] ++ sbW g A (cap, f, 0, ml, nI n)) fl_J0_15 fq_J0_1 dJ0_init_db425_24 rfl rfl (by exact (by decide : 1 < 4)) (by decide) (by decide) rfl ?_
  refine V_aload_n C 2 28 dJ0_init_db425_27 rfl rfl ?_
  refine V_aload_n C 1 29 dJ0_init_db425_28 rfl rfl ?_
  refine V_iconst C (0 : Int32) 30 dJ0_init_db425_29 rfl rfl ?_
  refine V_iload C 0 32 dJ0_init_db425_30 rfl rfl ?_
  refine V_callNs (as := [.ref A.2, .int 0, .int (nI n)]) (pre := [(o, .inr (4, [.null, .int 0, .int 0, .int 0]))] ++ [(A.1, .inr (5, [.ref A.2, .int 0, .int ml, .int (nI n)]))]) (w0 := [(A.2, aB g cap f)]) (post := []) (rest := [.ref o]) C hBA Z.1 lz_J0_54 k815 (c_jcr hf hn (by omega)) dJ0_init_db425_32 ⟨Nat.le_of_ble_eq_true rfl, Nat.le_of_ble_eq_true rfl⟩ rfl rfl rfl (by exact (by decide : (1 : Nat) ≤ 8)) ⟨Nat.le_refl _, by exact (by omega : 0 + n ≤ n)⟩ (fun rv w1 hP => ?_)
  obtain ⟨q2, f2, rfl, rfl, h1, h2⟩ := hP
  show V K 1 (0 + n) ([(o, .inr (4, [.null, .int 0, .int 0, .int 0]))] ++ sbW g A (cap, f, 0, ml, nI n) ++ [(q2, aB g n f2)]) [(4, .int (nI n)), (3, .ref A.2), (0, .ref o), (1, .ref A.1), (2, .null)] [.ref q2, .ref o] 35
  refine V_putF C hBA hnm 0 38 ([(o, .inr (4, [.ref q2, .int 0, .int 0, .int 0]))] ++ sbW g A (cap, f, 0, ml, nI n) ++ [(q2, aB g n f2)]) fl_J0_9 fq_J0_0 dJ0_init_db425_35 rfl rfl (by exact (by decide : 0 < 4)) rfl rfl rfl ?_
  refine V_goto C 97 dJ0_init_db425_38 rfl ?_
  refine V_perm (ws2 := strW g (o, q2) n f2 ++ sbW g A (cap, f, 0, ml, nI n)) (List.Perm.cons _ (List.perm_append_comm (l₁ := [(q2, aB g n f2)]) (l₂ := sbW g A (cap, f, 0, ml, nI n)))) ?_
  exact V_nretV C Z rfl ⟨rfl, q2, f2, rfl, h1, h2⟩ dJ0_init_db425_97 (Nat.le_refl _) (by exact (by omega : 0 + n ≤ n))
set_option maxRecDepth 4000 in
theorem c_j0new {l : Launch} {D : va_G} {g : G0} {o : Nat} {A : SbA} {cap n : Nat} {f : Nat → Int32} {ml : Int32} (hf : sb_Fit f) (hn : n ≤ cap) (hc : cap ≤ 410) : CtN l D g yJ0_init_81219 cJ0_init_81219 2 none (rmN 4 130 1 n) ([(o, .inr (4, [.null, .int 0, .int 0, .int 0]))] ++ sbW g A (cap, f, 0, ml, nI n)) [.ref o, .ref A.1] (fun rv w1 => rv = none ∧ ∃ (q2 : Nat) (f2 : Nat → Int32), w1 = strW g (o, q2) n f2 ++ sbW g A (cap, f, 0, ml, nI n) ∧ (∀ j, j < n → f2 j = f j) ∧ sb_Fit f2) 1 n := by
  refine CtN.of (by decide) (Nat.le_of_ble_eq_true rfl) ?_
  intro K C Z hBA el eD ekn
  subst el
  subst eD
  have hlt : ∀ i, i < 2 → i < kn K := fun i h => by rw [ekn]; exact h
  show V K 0 0 ([(o, .inr (4, [.null, .int 0, .int 0, .int 0]))] ++ sbW g A (cap, f, 0, ml, nI n)) [(0, .ref o), (1, .ref A.1)] [] 0
  refine V_aload_n C 0 1 dJ0_init_81219_0 rfl rfl ?_
  refine V_aload_n C 1 2 dJ0_init_81219_1 rfl rfl ?_
  refine V_aconst0 C 3 dJ0_init_81219_2 rfl ?_
  refine V_callNi (as := [.ref A.1, .null]) (pre := []) (w0 := [(o, .inr (4, [.null, .int 0, .int 0, .int 0]))] ++ sbW g A (cap, f, 0, ml, nI n)) (post := []) (rest := []) C hBA Z.1 lz_J0_489 rfl k797 (c_j0new5 hf hn hc) dJ0_init_81219_3 ⟨Nat.le_of_ble_eq_true rfl, Nat.le_of_ble_eq_true rfl⟩ rfl rfl rfl (by exact (by decide : (0 : Nat) ≤ 8)) ⟨Nat.le_refl _, by exact (by omega : 0 + n ≤ n)⟩ (fun rv w1 hP => ?_)
  obtain ⟨rfl, q2, f2, rfl, h1, h2⟩ := hP
  show V K (0 + 1) (0 + n) (strW g (o, q2) n f2 ++ sbW g A (cap, f, 0, ml, nI n)) [(0, .ref o), (1, .ref A.1)] [] 6
  exact V_nretV C Z rfl ⟨rfl, q2, f2, rfl, h1, h2⟩ dJ0_init_81219_6 (Nat.le_refl _) (by exact (by omega : 0 + n ≤ n))
set_option maxRecDepth 4000 in
theorem c_gts {l : Launch} {D : va_G} {g : G0} {A : SbA} {cap n : Nat} {f : Nat → Int32} {ml : Int32} (hf : sb_Fit f) (hn : n ≤ cap) (hc : cap ≤ 410) : CtN l D g yJ4_toString_0e30d cJ4_toString_0e30d 1 (some (.object "java/lang/String")) (rmN 5 151 2 (n + 4)) (sbW g A (cap, f, 0, ml, nI n)) [.ref A.1] (fun rv w1 => ∃ (s : Nat × Nat) (f2 : Nat → Int32), rv = some (.ref s.1) ∧ w1 = strW g s n f2 ++ sbW g A (cap, f, 0, ml, nI n) ∧ (∀ j, j < n → f2 j = f j) ∧ sb_Fit f2) 2 (n + 4) := by
  refine CtN.of (by decide) (Nat.le_of_ble_eq_true rfl) ?_
  intro K C Z hBA el eD ekn
  subst el
  subst eD
  have hlt : ∀ i, i < 1 → i < kn K := fun i h => by rw [ekn]; exact h
  show V K 0 0 (sbW g A (cap, f, 0, ml, nI n)) [(0, .ref A.1)] [] 0
  refine V_newX C hBA nw_J4_18 3 (by exact (by decide : 1 ≤ 2)) (by exact (by omega : 0 + 4 ≤ n + 4)) dJ4_toString_0e30d_0 rfl (fun o => ?_)
  refine V_dup C 4 dJ4_toString_0e30d_3 rfl rfl ?_
  refine V_aload_n C 0 5 dJ4_toString_0e30d_4 rfl rfl ?_
  refine V_perm (ws2 := [(o, .inr (4, [.null, .int 0, .int 0, .int 0]))] ++ sbW g A (cap, f, 0, ml, nI n)) (List.perm_append_comm (l₁ := [(o, .inr (4, [.null, .int 0, .int 0, .int 0]))]) (l₂ := sbW g A (cap, f, 0, ml, nI n))) ?_
  refine V_callNi (as := [.ref A.1]) (pre := []) (w0 := [(o, .inr (4, [.null, .int 0, .int 0, .int 0]))] ++ sbW g A (cap, f, 0, ml, nI n)) (post := []) (rest := [.ref o]) C hBA Z.1 lz_J4_137 rfl k794 (c_j0new hf hn hc) dJ4_toString_0e30d_5 ⟨Nat.le_of_ble_eq_true rfl, Nat.le_of_ble_eq_true rfl⟩ rfl rfl rfl (by exact (by decide : (1 : Nat) ≤ 8)) ⟨by exact (by decide : 0 + 1 + 1 ≤ 2), by exact (by omega : 0 + 4 + n ≤ n + 4)⟩ (fun rv w1 hP => ?_)
  obtain ⟨rfl, q2, f2, rfl, h1, h2⟩ := hP
  show V K (0 + 1 + 1) (0 + 4 + n) (strW g (o, q2) n f2 ++ sbW g A (cap, f, 0, ml, nI n)) [(0, .ref A.1)] [.ref o] 8
  exact V_nretA C Z rfl (Or.inl ⟨_, rfl⟩) ⟨(o, q2), f2, rfl, rfl, h1, h2⟩ dJ4_toString_0e30d_8 (by exact (by decide : 0 + 1 + 1 ≤ 2)) (by exact (by omega : 0 + 4 + n ≤ n + 4))
set_option maxRecDepth 4000 in
theorem c_j0lat {l : Launch} {D : va_G} {g : G0} {s : Nat × Nat} {u : Nat} {fs : Nat → Int32} : CtN l D g yJ0_isLatin1_aae02 cJ0_isLatin1_aae02 1 (some .boolean) (rmN 0 0 0 0) (strW g s u fs) [.ref s.1] (fun rv w1 => rv = some (.int 1) ∧ w1 = strW g s u fs) 0 0 := by
  refine CtN.of (by decide) (Nat.le_of_ble_eq_true rfl) ?_
  intro K C Z hBA el eD ekn
  subst el
  subst eD
  have hlt : ∀ i, i < 1 → i < kn K := fun i h => by rw [ekn]; exact h
  show V K 0 0 (strW g s u fs) [(0, .ref s.1)] [] 0
  refine V_gets C 3 Z.1.1.1 k727 rfl dJ0_isLatin1_aae02_0 rfl ?_
  refine V_if_eq C 17 6 dJ0_isLatin1_aae02_3 rfl rfl (fun e => absurd e (by decide)) (fun _ => ?_)
  refine V_aload_n C 0 7 dJ0_isLatin1_aae02_6 rfl rfl ?_
  refine V_get C 0 10 fl_J0_15 dJ0_isLatin1_aae02_7 rfl rfl rfl ?_
  refine V_if_ne C 17 13 dJ0_isLatin1_aae02_10 rfl rfl (fun e => absurd rfl e) (fun _ => ?_)
  refine V_iconst C (1 : Int32) 14 dJ0_isLatin1_aae02_13 rfl rfl ?_
  refine V_goto C 18 dJ0_isLatin1_aae02_14 rfl ?_
  exact V_nretI C Z rfl (by decide) ⟨rfl, rfl⟩ dJ0_isLatin1_aae02_18 (Nat.zero_le _) (Nat.zero_le _)
set_option maxRecDepth 4000 in
theorem c_j1at {l : Launch} {D : va_G} {g : G0} {q cap i k : Nat} {f : Nat → Int32} (h : i < cap) (hc : cap < 2 ^ 31) (hk : f i = nI k) (hk2 : k < 128) : CtN l D g yJ1_charAt_3b067 cJ1_charAt_3b067 2 (some .char) (rmN 2 43 0 0) ([(q, aB g cap f)]) [.ref q, .int (nI i)] (fun rv w1 => rv = some (.int (nI k)) ∧ w1 = [(q, aB g cap f)]) 0 0 := by
  refine CtN.of (by decide) (Nat.le_of_ble_eq_true rfl) ?_
  intro K C Z hBA el eD ekn
  subst el
  subst eD
  have hlt : ∀ i, i < 2 → i < kn K := fun i h => by rw [ekn]; exact h
  show V K 0 0 ([(q, aB g cap f)]) [(0, .ref q), (1, .int (nI i))] [] 0
  refine V_iload_n C 1 1 dJ1_charAt_3b067_0 rfl rfl ?_
  refine V_aload_n C 0 2 dJ1_charAt_3b067_1 rfl rfl ?_
  refine V_alen (t0 := 2) C 0 3 (nI cap) dJ1_charAt_3b067_2 rfl rfl rfl rfl ?_
  refine V_callNs (as := [.int (nI i), .int (nI cap)]) (pre := []) (w0 := []) (rest := []) C hBA Z.1 lz_J1_9 q772 (c_jchk0 h hc) dJ1_charAt_3b067_3 ⟨Nat.le_of_ble_eq_true rfl, Nat.le_of_ble_eq_true rfl⟩ rfl rfl rfl (by exact (by decide : (0 : Nat) ≤ 8)) ⟨Nat.zero_le _, Nat.zero_le _⟩ (fun rv w1 hP => ?_)
  obtain ⟨rfl, rfl⟩ := hP
  show V K 0 0 ([(q, aB g cap f)]) [(0, .ref q), (1, .int (nI i))] [] 6
  refine V_aload_n C 0 7 dJ1_charAt_3b067_6 rfl rfl ?_
  refine V_iload_n C 1 8 dJ1_charAt_3b067_7 rfl rfl ?_
  refine V_bald C 0 9 dJ1_charAt_3b067_8 rfl rfl (inb_of (vp_in_nI h (by omega))) ?_
  refine V_st (st2 := [.int (nI k)]) (by rw [cl_n (by omega), hk]) ?_
  refine V_sipush C (255 : Int32) 12 dJ1_charAt_3b067_9 rfl rfl ?_
  refine V_iand C 13 dJ1_charAt_3b067_12 rfl ?_
  refine V_i2c C 14 dJ1_charAt_3b067_13 rfl ?_
  refine V_st (st2 := [.int (nI k)]) (by rw [and_asc hk2]) ?_
  exact V_nretI C Z rfl (nar_c hk2) ⟨rfl, rfl⟩ dJ1_charAt_3b067_14 (Nat.zero_le _) (Nat.zero_le _)
set_option maxRecDepth 4000 in
theorem c_j0at {l : Launch} {D : va_G} {g : G0} {s : Nat × Nat} {u i k : Nat} {fs : Nat → Int32} (h : i < u) (hc : u < 2 ^ 31) (hk : fs i = nI k) (hk2 : k < 128) : CtN l D g yJ0_charAt_5068e cJ0_charAt_5068e 2 (some .char) (rmN 3 64 0 0) (strW g s u fs) [.ref s.1, .int (nI i)] (fun rv w1 => rv = some (.int (nI k)) ∧ w1 = strW g s u fs) 0 0 := by
  refine CtN.of (by decide) (Nat.le_of_ble_eq_true rfl) ?_
  intro K C Z hBA el eD ekn
  subst el
  subst eD
  have hlt : ∀ i, i < 2 → i < kn K := fun i h => by rw [ekn]; exact h
  show V K 0 0 (strW g s u fs) [(0, .ref s.1), (1, .int (nI i))] [] 0
  refine V_aload_n C 0 1 dJ0_charAt_5068e_0 rfl rfl ?_
  refine V_callN (as := []) (pre := []) (w0 := strW g s u fs) (post := []) (rest := []) C hBA Z.1 ml_J0_492 (c_j0lat) 0 dJ0_charAt_5068e_1 ⟨Nat.le_of_ble_eq_true rfl, Nat.le_of_ble_eq_true rfl⟩ rfl rfl rfl rfl (by exact (by decide : (0 : Nat) ≤ 8)) ⟨Nat.zero_le _, Nat.zero_le _⟩ (fun rv w1 hP => ?_)
  obtain ⟨rfl, rfl⟩ := hP
  show V K 0 0 (strW g s u fs) [(0, .ref s.1), (1, .int (nI i))] [.int (1 : Int32)] 4
  refine V_if_eq C 16 7 dJ0_charAt_5068e_4 rfl rfl (fun e => absurd e (by decide)) (fun _ => ?_)
  refine V_aload_n C 0 8 dJ0_charAt_5068e_7 rfl rfl ?_
  refine V_get C 0 11 fl_J0_9 dJ0_charAt_5068e_8 rfl rfl rfl ?_
  refine V_iload_n C 1 12 dJ0_charAt_5068e_11 rfl rfl ?_
  refine V_callNs (as := [.ref s.2, .int (nI i)]) (pre := [(s.1, .inr (4, [.ref s.2, .int 0, .int 0, .int 0]))]) (w0 := [(s.2, aB g u fs)]) (post := []) (rest := []) C hBA Z.1 lz_J0_495 k1261 (c_j1at h hc hk hk2) dJ0_charAt_5068e_12 ⟨Nat.le_of_ble_eq_true rfl, Nat.le_of_ble_eq_true rfl⟩ rfl rfl rfl (by exact (by decide : (0 : Nat) ≤ 8)) ⟨Nat.zero_le _, Nat.zero_le _⟩ (fun rv w1 hP => ?_)
  obtain ⟨rfl, rfl⟩ := hP
  show V K 0 0 (strW g s u fs) [(0, .ref s.1), (1, .int (nI i))] [.int (nI k)] 15
  exact V_nretI C Z rfl (nar_c hk2) ⟨rfl, rfl⟩ dJ0_charAt_5068e_15 (Nat.zero_le _) (Nat.zero_le _)
