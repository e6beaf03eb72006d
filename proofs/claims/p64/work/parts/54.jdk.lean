/-! ===== text building: contracts ===== -/
theorem shl0 (x : Int32) : x <<< ((0 : Int32) &&& 31) = x := by
  rw [show (0 : Int32) &&& 31 = 0 from by decide]
  exact Int32.shiftLeft_zero
theorem shr0 (x : Int32) : x >>> ((0 : Int32) &&& 31) = x := by
  rw [show (0 : Int32) &&& 31 = 0 from by decide]
  exact Int32.shiftRight_zero
theorem c_jcan {l : Launch} {D : va_G} {g : G0} {k : Nat} (h : k < 128) : CtN l D g yJ1_canEncode_fc78d cJ1_canEncode_fc78d 1 (some .boolean) (rmN 0 0 0 0) ([]) [.int (nI k)] (fun rv w1 => rv = some (.int 1) ∧ w1 = []) 0 0 := by
  refine CtN.of (by decide) (Nat.le_of_ble_eq_true rfl) ?_
  intro K C Z hBA el eD ekn
  subst el
  subst eD
  have hlt : ∀ i, i < 1 → i < kn K := fun i h => by rw [ekn]; exact h
  show V K 0 0 ([]) [(0, .int (nI k))] [] 0
  refine V_iload_n C 0 1 dJ1_canEncode_fc78d_0 rfl rfl ?_
  refine V_sipush C (255 : Int32) 4 dJ1_canEncode_fc78d_1 rfl rfl ?_
  refine V_icmp_gt C 11 7 dJ1_canEncode_fc78d_4 rfl rfl (fun e => absurd e (show ¬ (255 : Int32) < nI k from nI_nlt (b := k) (a := 255) (by omega) (by decide))) (fun _ => ?_)
  refine V_iconst C (1 : Int32) 8 dJ1_canEncode_fc78d_7 rfl rfl ?_
  refine V_goto C 12 dJ1_canEncode_fc78d_8 rfl ?_
  exact V_nretI C Z rfl (by decide) ⟨rfl, rfl⟩ dJ1_canEncode_fc78d_12 (Nat.zero_le _) (Nat.zero_le _)
theorem c_jnewl {l : Launch} {D : va_G} {g : G0} {a m q : Nat} (h : m < q) (ha : a + q < 2 ^ 20) (h0 : 0 < q) : CtN l D g yJ8_newLength_cabcc cJ8_newLength_cabcc 4 (some .int) (rmN 1 21 0 0) ([]) [.int (nI a), .int (nI m), .int (nI q)] (fun rv w1 => rv = some (.int (nI (a + q))) ∧ w1 = []) 0 0 := by
  refine CtN.of (by decide) (Nat.le_of_ble_eq_true rfl) ?_
  intro K C Z hBA el eD ekn
  subst el
  subst eD
  have hlt : ∀ i, i < 4 → i < kn K := fun i h => by rw [ekn]; exact h
  show V K 0 0 ([]) [(0, .int (nI a)), (1, .int (nI m)), (2, .int (nI q))] [] 0
  refine V_iload_n C 0 1 dJ8_newLength_cabcc_0 rfl rfl ?_
  refine V_iload_n C 1 2 dJ8_newLength_cabcc_1 rfl rfl ?_
  refine V_iload_n C 2 3 dJ8_newLength_cabcc_2 rfl rfl ?_
  refine V_mmax C 6 q445 dJ8_newLength_cabcc_3 rfl ⟨by decide, by show 1 + 13 ≤ 21; decide⟩ ⟨Nat.zero_le _, Nat.zero_le _⟩ ?_
  refine V_st (st2 := [.int (nI q), .int (nI a)]) (by rw [if_pos (nI_lt h (by omega))]) ?_
  refine V_iadd C 7 dJ8_newLength_cabcc_6 rfl ?_
  refine V_st (st2 := [.int (nI (a + q))]) (by rw [nI_add]) ?_
  refine V_istore_n C 8 [(3, .int (nI (a + q))), (0, .int (nI a)), (1, .int (nI m)), (2, .int (nI q))] dJ8_newLength_cabcc_7 rfl (hlt 3 (by decide)) rfl ?_
  refine V_iconst C (0 : Int32) 9 dJ8_newLength_cabcc_8 rfl rfl ?_
  refine V_iload_n C 0 10 dJ8_newLength_cabcc_9 rfl rfl ?_
  refine V_icmp_ge C 21 13 dJ8_newLength_cabcc_10 rfl rfl (fun e => absurd e (nI_ge (a := 0) (by omega) (by omega))) (fun _ => ?_)
  refine V_iload_n C 0 14 dJ8_newLength_cabcc_13 rfl rfl ?_
  refine V_ldc C (2147483639 : Int32) 16 q448 dJ8_newLength_cabcc_14 rfl ?_
  refine V_icmp_gt C 21 19 dJ8_newLength_cabcc_16 rfl rfl (fun e => absurd e (show ¬ (2147483639 : Int32) < nI (a + q) from nI_nlt (b := a + q) (a := 2147483639) (by omega) (by decide))) (fun _ => ?_)
  refine V_iload_n C 0 20 dJ8_newLength_cabcc_19 rfl rfl ?_
  exact V_nretI C Z rfl rfl ⟨rfl, rfl⟩ dJ8_newLength_cabcc_20 (Nat.zero_le _) (Nat.zero_le _)
theorem c_jlat {l : Launch} {D : va_G} {g : G0} {A : SbA} {cap n : Nat} {f : Nat → Int32} {ml : Int32} : CtN l D g yJ5_isLatin1_aae02 cJ5_isLatin1_aae02 1 (some .boolean) (rmN 0 0 0 0) (sbW g A (cap, f, 0, ml, nI n)) [.ref A.1] (fun rv w1 => rv = some (.int 1) ∧ w1 = sbW g A (cap, f, 0, ml, nI n)) 0 0 := by
  refine CtN.of (by decide) (Nat.le_of_ble_eq_true rfl) ?_
  intro K C Z hBA el eD ekn
  subst el
  subst eD
  have hlt : ∀ i, i < 1 → i < kn K := fun i h => by rw [ekn]; exact h
  show V K 0 0 (sbW g A (cap, f, 0, ml, nI n)) [(0, .ref A.1)] [] 0
  refine V_gets C 3 Z.1.1.1 q214 rfl dJ5_isLatin1_aae02_0 rfl ?_
  refine V_if_eq C 17 6 dJ5_isLatin1_aae02_3 rfl rfl (fun e => absurd e (by decide)) (fun _ => ?_)
  refine V_aload_n C 0 7 dJ5_isLatin1_aae02_6 rfl rfl ?_
  refine V_get C 0 10 fl_J5_22 dJ5_isLatin1_aae02_7 rfl rfl rfl ?_
  refine V_if_ne C 17 13 dJ5_isLatin1_aae02_10 rfl rfl (fun e => absurd rfl e) (fun _ => ?_)
  refine V_iconst C (1 : Int32) 14 dJ5_isLatin1_aae02_13 rfl rfl ?_
  refine V_goto C 18 dJ5_isLatin1_aae02_14 rfl ?_
  exact V_nretI C Z rfl (by decide) ⟨rfl, rfl⟩ dJ5_isLatin1_aae02_18 (Nat.zero_le _) (Nat.zero_le _)
theorem c_jcap {l : Launch} {D : va_G} {g : G0} {A : SbA} {cap n k : Nat} {f : Nat → Int32} {ml : Int32} (hc : cap ≤ 1000) (hk : cap < k) (hk2 : k ≤ cap + 16) (h0 : k < cap + (cap + 2)) : CtN l D g yJ5_newCapacity_0f7a4 cJ5_newCapacity_0f7a4 6 (some .int) (rmN 2 44 0 0) (sbW g A (cap, f, 0, ml, nI n)) [.ref A.1, .int (nI k)] (fun rv w1 => rv = some (.int (nI (cap + (cap + 2)))) ∧ w1 = sbW g A (cap, f, 0, ml, nI n)) 0 0 := by
  refine CtN.of (by decide) (Nat.le_of_ble_eq_true rfl) ?_
  intro K C Z hBA el eD ekn
  subst el
  subst eD
  have hlt : ∀ i, i < 6 → i < kn K := fun i h => by rw [ekn]; exact h
  show V K 0 0 (sbW g A (cap, f, 0, ml, nI n)) [(0, .ref A.1), (1, .int (nI k))] [] 0
  refine V_aload_n C 0 1 dJ5_newCapacity_0f7a4_0 rfl rfl ?_
  refine V_get C 0 4 fl_J5_15 dJ5_newCapacity_0f7a4_1 rfl rfl rfl ?_
  refine V_alen (t0 := 2) C 1 5 (nI cap) dJ5_newCapacity_0f7a4_4 rfl rfl rfl rfl ?_
  refine V_istore_n C 6 [(2, .int (nI cap)), (0, .ref A.1), (1, .int (nI k))] dJ5_newCapacity_0f7a4_5 rfl (hlt 2 (by decide)) rfl ?_
  refine V_iload_n C 2 7 dJ5_newCapacity_0f7a4_6 rfl rfl ?_
  refine V_aload_n C 1 8 dJ5_newCapacity_0f7a4_7 rfl rfl ?_
  refine V_get C 0 11 fl_J5_22 dJ5_newCapacity_0f7a4_8 rfl rfl rfl ?_
  refine V_ishl C 12 dJ5_newCapacity_0f7a4_11 rfl ?_
  refine V_st (st2 := [.int (nI k)]) (by rw [shl0]) ?_
  refine V_istore_n C 13 [(3, .int (nI k)), (2, .int (nI cap)), (0, .ref A.1), (1, .int (nI k))] dJ5_newCapacity_0f7a4_12 rfl (hlt 3 (by decide)) rfl ?_
  refine V_iload_n C 0 14 dJ5_newCapacity_0f7a4_13 rfl rfl ?_
  refine V_iload_n C 1 15 dJ5_newCapacity_0f7a4_14 rfl rfl ?_
  refine V_isub C 16 dJ5_newCapacity_0f7a4_15 rfl ?_
  refine V_st (st2 := [.int (nI (k - cap))]) (by rw [pk_sub (by omega)]) ?_
  refine V_istore C 18 [(4, .int (nI (k - cap))), (3, .int (nI k)), (2, .int (nI cap)), (0, .ref A.1), (1, .int (nI k))] dJ5_newCapacity_0f7a4_16 rfl (hlt 4 (by decide)) rfl ?_
  refine V_iload_n C 2 19 dJ5_newCapacity_0f7a4_18 rfl rfl ?_
  refine V_iload C 0 21 dJ5_newCapacity_0f7a4_19 rfl rfl ?_
  refine V_iload_n C 2 22 dJ5_newCapacity_0f7a4_21 rfl rfl ?_
  refine V_iconst C (2 : Int32) 23 dJ5_newCapacity_0f7a4_22 rfl rfl ?_
  refine V_aload_n C 3 24 dJ5_newCapacity_0f7a4_23 rfl rfl ?_
  refine V_get C 0 27 fl_J5_22 dJ5_newCapacity_0f7a4_24 rfl rfl rfl ?_
  refine V_ishl C 28 dJ5_newCapacity_0f7a4_27 rfl ?_
  refine V_st (st2 := [.int (2 : Int32), .int (nI cap), .int (nI (k - cap)), .int (nI cap)]) (by rw [shl0]) ?_
  refine V_iadd C 29 dJ5_newCapacity_0f7a4_28 rfl ?_
  refine V_st (st2 := [.int (nI (cap + 2)), .int (nI (k - cap)), .int (nI cap)]) (by rw [← nI_add]; rfl) ?_
  refine V_callNs (as := [.int (nI cap), .int (nI (k - cap)), .int (nI (cap + 2))]) (pre := []) (w0 := []) (rest := []) C hBA Z.1 lz_J5_114 q443 (c_jnewl (by omega) (by omega) (by omega)) dJ5_newCapacity_0f7a4_29 (by decide) rfl rfl rfl (by decide) (by decide) (fun rv w1 hP => ?_)
  obtain ⟨rfl, rfl⟩ := hP
  show V K 0 0 (sbW g A (cap, f, 0, ml, nI n)) [(4, .int (nI (k - cap))), (3, .int (nI k)), (2, .int (nI cap)), (0, .ref A.1), (1, .int (nI k))] [.int (nI (cap + (cap + 2)))] 32
  refine V_istore C 34 [(5, .int (nI (cap + (cap + 2)))), (4, .int (nI (k - cap))), (3, .int (nI k)), (2, .int (nI cap)), (0, .ref A.1), (1, .int (nI k))] dJ5_newCapacity_0f7a4_32 rfl (hlt 5 (by decide)) rfl ?_
  refine V_iload C 0 36 dJ5_newCapacity_0f7a4_34 rfl rfl ?_
  refine V_ldc C (2147483647 : Int32) 38 q452 dJ5_newCapacity_0f7a4_36 rfl ?_
  refine V_icmp_ne C 51 41 dJ5_newCapacity_0f7a4_38 rfl rfl (fun _ => ?_) (fun e => absurd e (show ¬ nI (cap + (cap + 2)) = (2147483647 : Int32) from fun q => by have := (nI_eq (b := 2147483647) (by omega) (by omega)).mp q; omega))
  refine V_iload C 0 53 dJ5_newCapacity_0f7a4_51 rfl rfl ?_
  refine V_aload_n C 4 54 dJ5_newCapacity_0f7a4_53 rfl rfl ?_
  refine V_get C 0 57 fl_J5_22 dJ5_newCapacity_0f7a4_54 rfl rfl rfl ?_
  refine V_ishr C 58 dJ5_newCapacity_0f7a4_57 rfl ?_
  refine V_st (st2 := [.int (nI (cap + (cap + 2)))]) (by rw [shr0]) ?_
  exact V_nretI C Z rfl rfl ⟨rfl, rfl⟩ dJ5_newCapacity_0f7a4_58 (Nat.zero_le _) (Nat.zero_le _)
theorem c_jcopy {l : Launch} {D : va_G} {g : G0} {q cap nn : Nat} {f : Nat → Int32} (hf : sb_Fit f) (h : cap < nn) (hn : nn ≤ 1000) : CtN l D g yJ7_copyOf_9075b cJ7_copyOf_9075b 3 (some (.array .byte)) (rmN 1 60 1 nn) ([(q, aB g cap f)]) [.ref q, .int (nI nn)] (fun rv w1 => ∃ q2, rv = some (.ref q2) ∧ w1 = [(q, aB g cap f), (q2, aB g nn (va_cpy f (fun _ => 0) 0 0 cap))]) 1 nn := by
  refine CtN.of (by decide) (Nat.le_of_ble_eq_true rfl) ?_
  intro K C Z hBA el eD ekn
  subst el
  subst eD
  have hlt : ∀ i, i < 3 → i < kn K := fun i h => by rw [ekn]; exact h
  show V K 0 0 ([(q, aB g cap f)]) [(0, .ref q), (1, .int (nI nn))] [] 0
  refine V_iload_n C 1 1 dJ7_copyOf_9075b_0 rfl rfl ?_
  refine V_aload_n C 0 2 dJ7_copyOf_9075b_1 rfl rfl ?_
  refine V_alen (t0 := 2) C 0 3 (nI cap) dJ7_copyOf_9075b_2 rfl rfl rfl rfl ?_
  refine V_icmp_ne C 14 6 dJ7_copyOf_9075b_3 rfl rfl (fun _ => ?_) (fun e => absurd e (show ¬ nI nn = nI cap from fun e => by have := (nI_eq (by omega) (by omega)).mp e; omega))
  refine V_iload_n C 1 15 dJ7_copyOf_9075b_14 rfl rfl ?_
  refine V_newB C hBA nn 17 q237 (nI_pos (by omega)) (cl_n (by omega)) (by omega) (Nat.le_refl _) (show 0 + nn ≤ nn by omega) dJ7_copyOf_9075b_15 rfl (fun q2 => ?_)
  refine V_astore_n C 18 [(2, .ref q2), (0, .ref q), (1, .int (nI nn))] dJ7_copyOf_9075b_17 rfl (hlt 2 (by decide)) rfl ?_
  refine V_aload_n C 1 19 dJ7_copyOf_9075b_18 rfl rfl ?_
  refine V_iconst C (0 : Int32) 20 dJ7_copyOf_9075b_19 rfl rfl ?_
  refine V_aload_n C 0 21 dJ7_copyOf_9075b_20 rfl rfl ?_
  refine V_iconst C (0 : Int32) 22 dJ7_copyOf_9075b_21 rfl rfl ?_
  refine V_aload_n C 1 23 dJ7_copyOf_9075b_22 rfl rfl ?_
  refine V_alen (t0 := 2) C 0 24 (nI cap) dJ7_copyOf_9075b_23 rfl rfl rfl rfl ?_
  refine V_iload_n C 2 25 dJ7_copyOf_9075b_24 rfl rfl ?_
  refine V_mmin C 28 q463 dJ7_copyOf_9075b_25 rfl ⟨Nat.le_refl _, by show 4 + 13 ≤ 60; decide⟩ ⟨Nat.le_refl _, show 0 + nn ≤ nn by omega⟩ ?_
  refine V_st (st2 := [.int (nI cap), .int (0 : Int32), .ref q2, .int (0 : Int32), .ref q]) (by rw [if_neg (nI_nlt (by omega) (by omega))]) ?_
  refine V_bcopy C hBA 0 1 31 [(q, aB g cap f), (q2, aB g nn (va_cpy f (fun _ => 0) 0 0 cap))] al_J7_150 dJ7_copyOf_9075b_28 rfl rfl rfl (by omega) (by omega) (Nat.le_refl _) (by omega) hf ⟨Nat.le_refl _, by exact (by decide : 0 + (nativeFrameWords "java/lang/System" "arraycopy" 5 + 11) ≤ 60)⟩ rfl ?_
  refine V_aload_n C 0 32 dJ7_copyOf_9075b_31 rfl rfl ?_
  exact V_nretA C Z rfl (Or.inr ⟨_, rfl⟩) ⟨q2, rfl, rfl⟩ dJ7_copyOf_9075b_32 (Nat.le_refl _) (show 0 + nn ≤ nn by omega)
theorem c_jens {l : Launch} {D : va_G} {g : G0} {A : SbA} {cap n k : Nat} {f : Nat → Int32} {ml : Int32} (hf : sb_Fit f) (hc : capOK cap) (hk : k ≤ 142) (hk2 : k ≤ cap + 2) : CtN l D g yJ5_ensureCapacityInternal_d00df cJ5_ensureCapacityInternal_d00df 3 none (rmN 3 82 1 142) (sbW g A (cap, f, 0, ml, nI n)) [.ref A.1, .int (nI k)] (fun rv w1 => rv = none ∧ ∃ (q2 cap2 : Nat) (f2 : Nat → Int32), w1 = sbW g (A.1, q2) (cap2, f2, 0, ml, nI n) ∧ capOK cap2 ∧ k ≤ cap2 ∧ (∀ i, i < cap → f2 i = f i) ∧ sb_Fit f2) 1 142 := by
  refine CtN.of (by decide) (Nat.le_of_ble_eq_true rfl) ?_
  intro K C Z hBA el eD ekn
  subst el
  subst eD
  have hlt : ∀ i, i < 3 → i < kn K := fun i h => by rw [ekn]; exact h
  show V K 0 0 (sbW g A (cap, f, 0, ml, nI n)) [(0, .ref A.1), (1, .int (nI k))] [] 0
  have hc1 : cap ≤ 142 := by rcases hc with h | h | h | h <;> omega
  have hc16 : 16 ≤ cap := by rcases hc with h | h | h | h <;> omega
  refine V_aload_n C 0 1 dJ5_ensureCapacityInternal_d00df_0 rfl rfl ?_
  refine V_get C 0 4 fl_J5_15 dJ5_ensureCapacityInternal_d00df_1 rfl rfl rfl ?_
  refine V_alen (t0 := 2) C 1 5 (nI cap) dJ5_ensureCapacityInternal_d00df_4 rfl rfl rfl rfl ?_
  refine V_aload_n C 0 6 dJ5_ensureCapacityInternal_d00df_5 rfl rfl ?_
  refine V_get C 0 9 fl_J5_22 dJ5_ensureCapacityInternal_d00df_6 rfl rfl rfl ?_
  refine V_ishr C 10 dJ5_ensureCapacityInternal_d00df_9 rfl ?_
  refine V_st (st2 := [.int (nI cap)]) (by rw [shr0]) ?_
  refine V_istore_n C 11 [(2, .int (nI cap)), (0, .ref A.1), (1, .int (nI k))] dJ5_ensureCapacityInternal_d00df_10 rfl (hlt 2 (by decide)) rfl ?_
  refine V_iload_n C 2 12 dJ5_ensureCapacityInternal_d00df_11 rfl rfl ?_
  refine V_iload_n C 0 13 dJ5_ensureCapacityInternal_d00df_12 rfl rfl ?_
  refine V_isub C 14 dJ5_ensureCapacityInternal_d00df_13 rfl ?_
  by_cases hle : k ≤ cap
  · refine V_if_le C 38 17 dJ5_ensureCapacityInternal_d00df_14 rfl rfl (fun _ => ?_) (fun e => absurd (show nI k - nI cap ≤ 0 from by rw [Int32.le_iff_toInt_le, nI_sub_toInt (by omega) (by omega), Int32.toInt_zero]; omega) e)
    exact V_nretV C Z rfl ⟨rfl, A.2, cap, f, rfl, hc, hle, fun _ _ => rfl, hf⟩ dJ5_ensureCapacityInternal_d00df_38 (Nat.zero_le _) (Nat.zero_le _)
  · refine V_if_le C 38 17 dJ5_ensureCapacityInternal_d00df_14 rfl rfl (fun e => absurd e (show ¬ nI k - nI cap ≤ 0 from by rw [Int32.le_iff_toInt_le, nI_sub_toInt (by omega) (by omega), Int32.toInt_zero]; omega)) (fun _ => ?_)
    refine V_aload_n C 1 18 dJ5_ensureCapacityInternal_d00df_17 rfl rfl ?_
    refine V_aload_n C 1 19 dJ5_ensureCapacityInternal_d00df_18 rfl rfl ?_
    refine V_get C 0 22 fl_J5_15 dJ5_ensureCapacityInternal_d00df_19 rfl rfl rfl ?_
    refine V_aload_n C 1 23 dJ5_ensureCapacityInternal_d00df_22 rfl rfl ?_
    refine V_iload_n C 2 24 dJ5_ensureCapacityInternal_d00df_23 rfl rfl ?_
    refine V_callNu (as := [.int (nI k)]) (pre := []) (w0 := sbW g A (cap, f, 0, ml, nI n)) (post := []) (rest := [.ref A.2, .ref A.1]) C hBA Z.1 lu_J5_104 (c_jcap (by omega) (by omega) (by omega) (by omega)) 0 dJ5_ensureCapacityInternal_d00df_24 (by decide) rfl rfl rfl rfl (by exact (by decide : (2 : Nat) ≤ 8)) (by exact ⟨Nat.zero_le _, Nat.zero_le _⟩) (fun rv w1 hP => ?_)
    obtain ⟨rfl, rfl⟩ := hP
    show V K 0 0 (sbW g A (cap, f, 0, ml, nI n)) [(2, .int (nI cap)), (0, .ref A.1), (1, .int (nI k))] [.int (nI (cap + (cap + 2))), .ref A.2, .ref A.1] 27
    refine V_aload_n C 1 28 dJ5_ensureCapacityInternal_d00df_27 rfl rfl ?_
    refine V_get C 0 31 fl_J5_22 dJ5_ensureCapacityInternal_d00df_28 rfl rfl rfl ?_
    refine V_ishl C 32 dJ5_ensureCapacityInternal_d00df_31 rfl ?_
    refine V_st (st2 := [.int (nI (cap + (cap + 2))), .ref A.2, .ref A.1]) (by rw [shl0]) ?_
    have hc2 : cap + (cap + 2) ≤ 142 ∧ capOK (cap + (cap + 2)) := by
      rcases hc with h | h | h | h
      · exact ⟨by omega, Or.inr (Or.inl (by omega))⟩
      · exact ⟨by omega, Or.inr (Or.inr (Or.inl (by omega)))⟩
      · exact ⟨by omega, Or.inr (Or.inr (Or.inr (by omega)))⟩
      · omega
    refine V_wid (c2 := 0) (s2 := 142 - (cap + (cap + 2))) (Nat.le_refl _) (Nat.zero_le _) ?_
    refine V_callNs (as := [.ref A.2, .int (nI (cap + (cap + 2)))]) (pre := [(A.1, .inr (5, [.ref A.2, .int 0, .int ml, .int (nI n)]))]) (w0 := [(A.2, aB g cap f)]) (post := []) (rest := [.ref A.1]) C hBA Z.1 lz_J5_108 q454 (c_jcopy hf (by omega) (by omega)) dJ5_ensureCapacityInternal_d00df_32 (by decide) rfl rfl rfl (by exact (by decide : (1 : Nat) ≤ 8)) (by exact ⟨Nat.le_refl _, show 142 - (cap + (cap + 2)) + (cap + (cap + 2)) ≤ 142 by omega⟩) (fun rv w1 hP => ?_)
    obtain ⟨q2, rfl, rfl⟩ := hP
    refine V_put C hBA 0 38 [(A.1, .inr (5, [.ref q2, .int 0, .int ml, .int (nI n)])), (A.2, aB g cap f), (q2, aB g (cap + (cap + 2)) (va_cpy f (fun _ => 0) 0 0 cap))] fl_J5_15 fp_J4_0 dJ5_ensureCapacityInternal_d00df_35 rfl rfl (by exact (by decide : 0 < 4)) rfl rfl rfl ?_
    refine V_perm (ws2 := [(A.1, .inr (5, [.ref q2, .int 0, .int ml, .int (nI n)])), (q2, aB g (cap + (cap + 2)) (va_cpy f (fun _ => 0) 0 0 cap))] ++ [(A.2, aB g cap f)]) (List.Perm.cons _ (List.Perm.swap _ _ _)) (V_drop ?_)
    refine V_nretV C Z rfl ⟨rfl, q2, cap + (cap + 2), (va_cpy f (fun _ => 0) 0 0 cap), rfl, hc2.2, by omega, fun i hi => ?_, fun j => ?_⟩ dJ5_ensureCapacityInternal_d00df_38 (Nat.le_refl _) (by exact (by omega : 142 - (cap + (cap + 2)) + (cap + (cap + 2)) ≤ 142))
    · rw [pk_cpy_in (Nat.zero_le i) (by omega), Nat.zero_add, Nat.sub_zero]
    · by_cases hj : j < 0 + cap
      · rw [pk_cpy_in (Nat.zero_le j) hj]
        exact hf _
      · rw [pk_cpy_out (Or.inr (by omega))]
        exact sb_fit0 0
