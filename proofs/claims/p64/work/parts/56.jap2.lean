/-! ===== text building: append(int), setLength, length ===== -/
/-- the i-th digit of v -/
def dgt (v i : Nat) : Nat := if v < 10 then 48 + v else if i = 0 then 48 + v / 10 else 48 + v % 10
theorem putD_lo {f : Nat → Int32} {n v i : Nat} (hv : v < 100) (hi : i < n) : putD f (n + dgs v) v i = f i := by
  unfold putD dgs
  by_cases h : v < 10
  · rw [if_pos h, if_pos h, pk_un (by omega)]
  · rw [if_neg h, if_neg h, pk_un (by omega), pk_un (by omega)]
theorem putD_hi {f : Nat → Int32} {n v i : Nat} (hv : v < 100) (hi : i < dgs v) : putD f (n + dgs v) v (n + i) = nI (dgt v i) := by
  unfold dgs at hi
  unfold putD dgs dgt
  by_cases h : v < 10
  · rw [if_pos h] at hi
    rw [if_pos h, if_pos h, if_pos h, show n + 1 - 1 = n + i by omega, pk_us, Nat.mod_eq_of_lt h]
  · rw [if_neg h] at hi
    rw [if_neg h, if_neg h, if_neg h]
    by_cases h0 : i = 0
    · rw [if_pos h0, show n + 2 - 2 = n + i by omega, pk_us]
    · rw [if_neg h0, pk_un (by omega), show n + 2 - 1 = n + i by omega, pk_us]
theorem putD_fit {f : Nat → Int32} {e v : Nat} (hf : sb_Fit f) (hv : v < 100) : sb_Fit (putD f e v) := by
  unfold putD
  split
  · exact fit_upd hf (by omega)
  · exact fit_upd (fit_upd hf (by omega)) (by omega)
theorem c_japi5 {l : Launch} {D : va_G} {g : G0} {A : SbA} {cap n v : Nat} {f : Nat → Int32} {ml : Int32} (hf : sb_Fit f) (hc : capOK cap) (hn : n ≤ cap) (hn2 : n + 2 ≤ 142) (hv : v < 100) : CtN l D g yJ5_append_c97b9 cJ5_append_c97b9 4 (some (.object "java/lang/AbstractStringBuilder")) (rmN 4 104 1 142) (sbW g A (cap, f, 0, ml, nI n)) [.ref A.1, .int (nI v)] (fun rv w1 => rv = some (.ref A.1) ∧ ∃ (q2 cap2 : Nat) (f2 : Nat → Int32), w1 = sbW g (A.1, q2) (cap2, f2, 0, ml, nI (n + dgs v)) ∧ capOK cap2 ∧ n + dgs v ≤ cap2 ∧ (∀ i, i < n → f2 i = f i) ∧ (∀ i, i < dgs v → f2 (n + i) = nI (dgt v i)) ∧ sb_Fit f2) 1 142 := by
  refine CtN.of (by decide) (Nat.le_of_ble_eq_true rfl) ?_
  intro K C Z hBA el eD ekn
  subst el
  subst eD
  have hlt : ∀ i, i < 4 → i < kn K := fun i h => by rw [ekn]; exact h
  show V K 0 0 (sbW g A (cap, f, 0, ml, nI n)) [(0, .ref A.1), (1, .int (nI v))] [] 0
  have hd : dgs v ≤ 2 := by unfold dgs; split <;> omega
  refine V_aload_n C 0 1 dJ5_append_c97b9_0 rfl rfl ?_
  refine V_get C 0 4 fl_J5_79 dJ5_append_c97b9_1 rfl rfl rfl ?_
  refine V_istore_n C 5 [(2, .int (nI n)), (0, .ref A.1), (1, .int (nI v))] dJ5_append_c97b9_4 rfl (hlt 2 (by decide)) rfl ?_
  refine V_iload_n C 0 6 dJ5_append_c97b9_5 rfl rfl ?_
  refine V_iload_n C 2 7 dJ5_append_c97b9_6 rfl rfl ?_
  refine V_callNs (as := [.int (nI v)]) (pre := []) (w0 := []) (rest := [.int (nI n)]) C hBA Z.1 lz_J5_245 q551 (c_jssz hv) dJ5_append_c97b9_7 (by decide) rfl rfl rfl (by exact (by decide : (1 : Nat) ≤ 8)) ⟨Nat.zero_le _, Nat.zero_le _⟩ (fun rv w1 hP => ?_)
  obtain ⟨rfl, rfl⟩ := hP
  show V K 0 0 (sbW g A (cap, f, 0, ml, nI n)) [(2, .int (nI n)), (0, .ref A.1), (1, .int (nI v))] [.int (nI (dgs v)), .int (nI n)] 10
  refine V_iadd C 11 dJ5_append_c97b9_10 rfl ?_
  refine V_st (st2 := [.int (nI (n + dgs v))]) (by rw [nI_add]) ?_
  refine V_istore_n C 12 [(3, .int (nI (n + dgs v))), (2, .int (nI n)), (0, .ref A.1), (1, .int (nI v))] dJ5_append_c97b9_11 rfl (hlt 3 (by decide)) rfl ?_
  refine V_aload_n C 2 13 dJ5_append_c97b9_12 rfl rfl ?_
  refine V_iload_n C 0 14 dJ5_append_c97b9_13 rfl rfl ?_
  refine V_callNu (as := [.int (nI (n + dgs v))]) (pre := []) (w0 := sbW g A (cap, f, 0, ml, nI n)) (post := []) (rest := []) C hBA Z.1 lu_J5_100 (c_jens hf hc (by omega) (by omega)) 0 dJ5_append_c97b9_14 (by decide) rfl rfl rfl rfl (by exact (by decide : (0 : Nat) ≤ 8)) ⟨Nat.le_refl _, Nat.le_refl _⟩ (fun rv w1 hP => ?_)
  obtain ⟨rfl, q2, cap2, f2, rfl, h1, h2, h3, h4⟩ := hP
  show V K 1 142 (sbW g (A.1, q2) (cap2, f2, 0, ml, (nI n))) [(3, .int (nI (n + dgs v))), (2, .int (nI n)), (0, .ref A.1), (1, .int (nI v))] [] 17
  have hc2 : cap2 ≤ 142 := by rcases h1 with h | h | h | h <;> omega
  refine V_aload_n C 2 18 dJ5_append_c97b9_17 rfl rfl ?_
  refine V_callNu (as := []) (pre := []) (w0 := sbW g (A.1, q2) (cap2, f2, 0, ml, (nI n))) (post := []) (rest := []) C hBA Z.1 lu_J5_83 c_jlat 0 dJ5_append_c97b9_18 (by decide) rfl rfl rfl rfl (by exact (by decide : (0 : Nat) ≤ 8)) ⟨Nat.le_refl _, Nat.le_refl _⟩ (fun rv w1 hP => ?_)
  obtain ⟨rfl, rfl⟩ := hP
  show V K 1 142 (sbW g (A.1, q2) (cap2, f2, 0, ml, (nI n))) [(3, .int (nI (n + dgs v))), (2, .int (nI n)), (0, .ref A.1), (1, .int (nI v))] [.int 1] 21
  refine V_if_eq C 37 24 dJ5_append_c97b9_21 rfl rfl (fun e => absurd e (by decide)) (fun _ => ?_)
  refine V_iload_n C 3 25 dJ5_append_c97b9_24 rfl rfl ?_
  refine V_iload_n C 0 26 dJ5_append_c97b9_25 rfl rfl ?_
  refine V_aload_n C 2 27 dJ5_append_c97b9_26 rfl rfl ?_
  refine V_get C 0 30 fl_J5_15 dJ5_append_c97b9_27 rfl rfl rfl ?_
  refine V_callNs (as := [.int (nI v), .int (nI (n + dgs v)), .ref q2]) (pre := [(A.1, .inr (5, [.ref q2, .int 0, .int ml, .int (nI n)]))]) (w0 := [(q2, aB g cap2 f2)]) (post := []) (rest := []) C hBA Z.1 lz_J5_248 q554 (c_jgch hv (by omega) (by omega) (by omega)) dJ5_append_c97b9_30 (by decide) rfl rfl rfl (by decide) ⟨Nat.le_refl _, Nat.le_refl _⟩ (fun rv w1 hP => ?_)
  obtain ⟨r, rfl, rfl⟩ := hP
  show V K 1 142 (sbW g (A.1, q2) (cap2, (putD f2 (n + dgs v) v), 0, ml, (nI n))) [(3, .int (nI (n + dgs v))), (2, .int (nI n)), (0, .ref A.1), (1, .int (nI v))] [.int r] 33
  refine V_pop C 34 dJ5_append_c97b9_33 rfl rfl ?_
  refine V_goto C 48 dJ5_append_c97b9_34 rfl ?_
  refine V_aload_n C 2 49 dJ5_append_c97b9_48 rfl rfl ?_
  refine V_iload_n C 0 50 dJ5_append_c97b9_49 rfl rfl ?_
  refine V_put C hBA 0 53 (sbW g (A.1, q2) (cap2, (putD f2 (n + dgs v) v), 0, ml, nI (n + dgs v))) fl_J5_79 fp_J4_3 dJ5_append_c97b9_50 rfl rfl (by exact (by decide : 3 < 4)) rfl rfl rfl ?_
  refine V_aload_n C 2 54 dJ5_append_c97b9_53 rfl rfl ?_
  exact V_nretA C Z rfl (Or.inl ⟨_, rfl⟩) ⟨rfl, q2, cap2, _, rfl, h1, h2, fun i hi => (putD_lo hv hi).trans (h3 i (by omega)), fun i hi => putD_hi hv hi, putD_fit h4 hv⟩ dJ5_append_c97b9_54 (Nat.le_refl _) (Nat.le_refl _)
theorem c_japi {l : Launch} {D : va_G} {g : G0} {A : SbA} {cap n v : Nat} {f : Nat → Int32} {ml : Int32} (hf : sb_Fit f) (hc : capOK cap) (hn : n ≤ cap) (hn2 : n + 2 ≤ 142) (hv : v < 100) : CtN l D g yJ4_append_bf812 cJ4_append_bf812 2 (some (.object "java/lang/StringBuilder")) (rmN 5 128 1 142) (sbW g A (cap, f, 0, ml, nI n)) [.ref A.1, .int (nI v)] (fun rv w1 => rv = some (.ref A.1) ∧ ∃ (q2 cap2 : Nat) (f2 : Nat → Int32), w1 = sbW g (A.1, q2) (cap2, f2, 0, ml, nI (n + dgs v)) ∧ capOK cap2 ∧ n + dgs v ≤ cap2 ∧ (∀ i, i < n → f2 i = f i) ∧ (∀ i, i < dgs v → f2 (n + i) = nI (dgt v i)) ∧ sb_Fit f2) 1 142 := by
  refine CtN.of (by decide) (Nat.le_of_ble_eq_true rfl) ?_
  intro K C Z hBA el eD ekn
  subst el
  subst eD
  have hlt : ∀ i, i < 2 → i < kn K := fun i h => by rw [ekn]; exact h
  show V K 0 0 (sbW g A (cap, f, 0, ml, nI n)) [(0, .ref A.1), (1, .int (nI v))] [] 0
  refine V_aload_n C 0 1 dJ4_append_bf812_0 rfl rfl ?_
  refine V_iload_n C 1 2 dJ4_append_bf812_1 rfl rfl ?_
  refine V_callNw (as := [.int (nI v)]) (pre := []) (w0 := sbW g A (cap, f, 0, ml, nI n)) (post := []) (rest := []) C hBA Z.1 lw_J4_53 (c_japi5 hf hc hn hn2 hv) 0 dJ4_append_bf812_2 (by decide) rfl rfl rfl rfl (by decide) ⟨Nat.le_refl _, Nat.le_refl _⟩ (fun rv w1 hP => ?_)
  obtain ⟨rfl, q2, cap2, f2, rfl, hP2⟩ := hP
  show V K 1 142 (sbW g (A.1, q2) (cap2, f2, 0, ml, nI (n + dgs v))) [(0, .ref A.1), (1, .int (nI v))] [.ref A.1] 5
  refine V_pop C 6 dJ4_append_bf812_5 rfl rfl ?_
  refine V_aload_n C 0 7 dJ4_append_bf812_6 rfl rfl ?_
  exact V_nretA C Z rfl (Or.inl ⟨_, rfl⟩) ⟨rfl, q2, cap2, f2, rfl, hP2⟩ dJ4_append_bf812_7 (Nat.le_refl _) (Nat.le_refl _)
theorem c_jlen5 {l : Launch} {D : va_G} {g : G0} {A : SbA} {cap n : Nat} {f : Nat → Int32} {ml : Int32} (hf : sb_Fit f) (hc : capOK cap) (hn : n < 2 ^ 31) : CtN l D g yJ5_setLength_d00df cJ5_setLength_d00df 2 none (rmN 4 104 1 142) (sbW g A (cap, f, 0, ml, nI n)) [.ref A.1, .int (nI 0)] (fun rv w1 => rv = none ∧ ∃ (q2 cap2 : Nat) (f2 : Nat → Int32) (m2 : Int32), w1 = sbW g (A.1, q2) (cap2, f2, 0, m2, nI 0) ∧ capOK cap2 ∧ sb_Fit f2) 1 142 := by
  refine CtN.of (by decide) (Nat.le_of_ble_eq_true rfl) ?_
  intro K C Z hBA el eD ekn
  subst el
  subst eD
  have hlt : ∀ i, i < 2 → i < kn K := fun i h => by rw [ekn]; exact h
  show V K 0 0 (sbW g A (cap, f, 0, ml, nI n)) [(0, .ref A.1), (1, .int (nI 0))] [] 0
  refine V_iload_n C 1 1 dJ5_setLength_d00df_0 rfl rfl ?_
  refine V_if_ge C 13 4 dJ5_setLength_d00df_1 rfl rfl (fun _ => ?_) (fun e => absurd (by decide) e)
  refine V_aload_n C 0 14 dJ5_setLength_d00df_13 rfl rfl ?_
  refine V_iload_n C 1 15 dJ5_setLength_d00df_14 rfl rfl ?_
  refine V_callNu (as := [.int (nI 0)]) (pre := []) (w0 := sbW g A (cap, f, 0, ml, nI n)) (post := []) (rest := []) C hBA Z.1 lu_J5_100 (c_jens hf hc (by omega) (by omega)) 0 dJ5_setLength_d00df_15 (by decide) rfl rfl rfl rfl (by exact (by decide : (0 : Nat) ≤ 8)) ⟨Nat.le_refl _, Nat.le_refl _⟩ (fun rv w1 hP => ?_)
  obtain ⟨rfl, q2, cap2, f2, rfl, h1, h2, h3, h4⟩ := hP
  show V K 1 142 (sbW g (A.1, q2) (cap2, f2, 0, ml, (nI n))) [(0, .ref A.1), (1, .int (nI 0))] [] 18
  refine V_aload_n C 0 19 dJ5_setLength_d00df_18 rfl rfl ?_
  refine V_get C 0 22 fl_J5_79 dJ5_setLength_d00df_19 rfl rfl rfl ?_
  refine V_iload_n C 1 23 dJ5_setLength_d00df_22 rfl rfl ?_
  refine V_icmp_ge C 63 26 dJ5_setLength_d00df_23 rfl rfl (fun _ => ?_) (fun e => absurd (nI_le (Nat.zero_le _) hn) e)
  refine V_aload_n C 0 64 dJ5_setLength_d00df_63 rfl rfl ?_
  refine V_get C 0 67 fl_J5_79 dJ5_setLength_d00df_64 rfl rfl rfl ?_
  refine V_iload_n C 1 68 dJ5_setLength_d00df_67 rfl rfl ?_
  have fin : ∀ m2 : Int32, V K 1 142 (sbW g (A.1, q2) (cap2, f2, 0, m2, nI n)) [(0, .ref A.1), (1, .int (nI 0))] [] 76 := by
    intro m2
    refine V_aload_n C 0 77 dJ5_setLength_d00df_76 rfl rfl ?_
    refine V_iload_n C 1 78 dJ5_setLength_d00df_77 rfl rfl ?_
    refine V_put C hBA 0 81 (sbW g (A.1, q2) (cap2, f2, 0, m2, nI 0)) fl_J5_79 fp_J4_3 dJ5_setLength_d00df_78 rfl rfl (by exact (by decide : 3 < 4)) rfl rfl rfl ?_
    exact V_nretV C Z rfl ⟨rfl, q2, cap2, f2, m2, rfl, h1, h4⟩ dJ5_setLength_d00df_81 (Nat.le_refl _) (Nat.le_refl _)
  refine V_icmp_le C 76 71 dJ5_setLength_d00df_68 rfl rfl (fun _ => fin ml) (fun _ => ?_)
  refine V_aload_n C 0 72 dJ5_setLength_d00df_71 rfl rfl ?_
  refine V_iconst C (1 : Int32) 73 dJ5_setLength_d00df_72 rfl rfl ?_
  refine V_put C hBA 0 76 (sbW g (A.1, q2) (cap2, f2, 0, 1, nI n)) fl_J5_73 fp_J4_2 dJ5_setLength_d00df_73 rfl rfl (by exact (by decide : 2 < 4)) (by decide) (by decide) rfl ?_
  exact fin 1
theorem c_jlen0 {l : Launch} {D : va_G} {g : G0} {A : SbA} {cap n : Nat} {f : Nat → Int32} {ml : Int32} (hf : sb_Fit f) (hc : capOK cap) (hn : n < 2 ^ 31) : CtN l D g yJ4_setLength_d00df cJ4_setLength_d00df 2 none (rmN 5 128 1 142) (sbW g A (cap, f, 0, ml, nI n)) [.ref A.1, .int (nI 0)] (fun rv w1 => rv = none ∧ ∃ (q2 cap2 : Nat) (f2 : Nat → Int32) (m2 : Int32), w1 = sbW g (A.1, q2) (cap2, f2, 0, m2, nI 0) ∧ capOK cap2 ∧ sb_Fit f2) 1 142 := by
  refine CtN.of (by decide) (Nat.le_of_ble_eq_true rfl) ?_
  intro K C Z hBA el eD ekn
  subst el
  subst eD
  have hlt : ∀ i, i < 2 → i < kn K := fun i h => by rw [ekn]; exact h
  show V K 0 0 (sbW g A (cap, f, 0, ml, nI n)) [(0, .ref A.1), (1, .int (nI 0))] [] 0
  refine V_aload_n C 0 1 dJ4_setLength_d00df_0 rfl rfl ?_
  refine V_iload_n C 1 2 dJ4_setLength_d00df_1 rfl rfl ?_
  refine V_callNw (as := [.int (nI 0)]) (pre := []) (w0 := sbW g A (cap, f, 0, ml, nI n)) (post := []) (rest := []) C hBA Z.1 lw_J4_333 (c_jlen5 hf hc hn) 0 dJ4_setLength_d00df_2 (by decide) rfl rfl rfl rfl (by decide) ⟨Nat.le_refl _, Nat.le_refl _⟩ (fun rv w1 hP => ?_)
  obtain ⟨rfl, q2, cap2, f2, m2, rfl, hP2⟩ := hP
  show V K 1 142 (sbW g (A.1, q2) (cap2, f2, 0, m2, nI 0)) [(0, .ref A.1), (1, .int (nI 0))] [] 5
  exact V_nretV C Z rfl ⟨rfl, q2, cap2, f2, m2, rfl, hP2⟩ dJ4_setLength_d00df_5 (Nat.le_refl _) (Nat.le_refl _)
theorem c_jcnt5 {l : Launch} {D : va_G} {g : G0} {A : SbA} {cap n : Nat} {f : Nat → Int32} {ml : Int32} : CtN l D g yJ5_length_8abf5 cJ5_length_8abf5 1 (some .int) (rmN 0 0 0 0) (sbW g A (cap, f, 0, ml, nI n)) [.ref A.1] (fun rv w1 => rv = some (.int (nI n)) ∧ w1 = sbW g A (cap, f, 0, ml, nI n)) 0 0 := by
  refine CtN.of (by decide) (Nat.le_of_ble_eq_true rfl) ?_
  intro K C Z hBA el eD ekn
  subst el
  subst eD
  have hlt : ∀ i, i < 1 → i < kn K := fun i h => by rw [ekn]; exact h
  show V K 0 0 (sbW g A (cap, f, 0, ml, nI n)) [(0, .ref A.1)] [] 0
  refine V_aload_n C 0 1 dJ5_length_8abf5_0 rfl rfl ?_
  refine V_get C 0 4 fl_J5_79 dJ5_length_8abf5_1 rfl rfl rfl ?_
  exact V_nretI C Z rfl rfl ⟨rfl, rfl⟩ dJ5_length_8abf5_4 (Nat.zero_le _) (Nat.zero_le _)
theorem c_jcnt {l : Launch} {D : va_G} {g : G0} {A : SbA} {cap n : Nat} {f : Nat → Int32} {ml : Int32} : CtN l D g yJ4_length_8abf5 cJ4_length_8abf5 1 (some .int) (rmN 1 20 0 0) (sbW g A (cap, f, 0, ml, nI n)) [.ref A.1] (fun rv w1 => rv = some (.int (nI n)) ∧ w1 = sbW g A (cap, f, 0, ml, nI n)) 0 0 := by
  refine CtN.of (by decide) (Nat.le_of_ble_eq_true rfl) ?_
  intro K C Z hBA el eD ekn
  subst el
  subst eD
  have hlt : ∀ i, i < 1 → i < kn K := fun i h => by rw [ekn]; exact h
  show V K 0 0 (sbW g A (cap, f, 0, ml, nI n)) [(0, .ref A.1)] [] 0
  refine V_aload_n C 0 1 dJ4_length_8abf5_0 rfl rfl ?_
  refine V_callNw (as := []) (pre := []) (w0 := sbW g A (cap, f, 0, ml, nI n)) (post := []) (rest := []) C hBA Z.1 lw_J4_343 c_jcnt5 0 dJ4_length_8abf5_1 (by decide) rfl rfl rfl rfl (by decide) ⟨Nat.le_refl _, Nat.le_refl _⟩ (fun rv w1 hP => ?_)
  obtain ⟨rfl, rfl⟩ := hP
  show V K 0 0 (sbW g A (cap, f, 0, ml, nI n)) [(0, .ref A.1)] [.int (nI n)] 4
  exact V_nretI C Z rfl rfl ⟨rfl, rfl⟩ dJ4_length_8abf5_4 (Nat.zero_le _) (Nat.zero_le _)
