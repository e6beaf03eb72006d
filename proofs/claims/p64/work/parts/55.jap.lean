/-! ===== text building: append ===== -/
theorem by_asc {k : Nat} (h : k < 128) : vp_nar .byte (nI k).toInt8.toInt32 = nI k := by
  have key : ∀ c : Fin 128, vp_nar .byte (nI c.val).toInt8.toInt32 = nI c.val := by decide +kernel
  exact key ⟨k, h⟩
theorem fit_asc {k : Nat} (h : k < 128) : fits .byte (.int (nI k)) = true := by
  have key : ∀ c : Fin 128, fits .byte (.int (nI c.val)) = true := by decide +kernel
  exact key ⟨k, h⟩
theorem fit_upd {f : Nat → Int32} {j k : Nat} (hf : sb_Fit f) (h : k < 128) : sb_Fit (upd f j (nI k)) := fun i => by
  by_cases e : i = j
  · rw [e, pk_us]
    exact fit_asc h
  · rw [pk_un e]
    exact hf i
theorem c_japc5 {l : Launch} {D : va_G} {g : G0} {A : SbA} {cap n k : Nat} {f : Nat → Int32} {ml : Int32} (hf : sb_Fit f) (hc : capOK cap) (hn : n ≤ cap) (hn2 : n + 1 ≤ 142) (hk : k < 128) : CtN l D g yJ5_append_3fe6f cJ5_append_3fe6f 2 (some (.object "java/lang/AbstractStringBuilder")) (rmN 4 104 1 142) (sbW g A (cap, f, 0, ml, nI n)) [.ref A.1, .int (nI k)] (fun rv w1 => rv = some (.ref A.1) ∧ ∃ (q2 cap2 : Nat) (f2 : Nat → Int32), w1 = sbW g (A.1, q2) (cap2, f2, 0, ml, nI (n + 1)) ∧ capOK cap2 ∧ n + 1 ≤ cap2 ∧ (∀ i, i < n → f2 i = f i) ∧ f2 n = nI k ∧ sb_Fit f2) 1 142 := by
  refine CtN.of (by decide) (Nat.le_of_ble_eq_true rfl) ?_
  intro K C Z hBA el eD ekn
  subst el
  subst eD
  have hlt : ∀ i, i < 2 → i < kn K := fun i h => by rw [ekn]; exact h
  show V K 0 0 (sbW g A (cap, f, 0, ml, nI n)) [(0, .ref A.1), (1, .int (nI k))] [] 0
  refine V_aload_n C 0 1 dJ5_append_3fe6f_0 rfl rfl ?_
  refine V_aload_n C 0 2 dJ5_append_3fe6f_1 rfl rfl ?_
  refine V_get C 0 5 fl_J5_79 dJ5_append_3fe6f_2 rfl rfl rfl ?_
  refine V_iconst C (1 : Int32) 6 dJ5_append_3fe6f_5 rfl rfl ?_
  refine V_iadd C 7 dJ5_append_3fe6f_6 rfl ?_
  refine V_st (st2 := [.int (nI (n + 1)), .ref A.1]) (by rw [nI_1]) ?_
  refine V_callNu (as := [.int (nI (n + 1))]) (pre := []) (w0 := sbW g A (cap, f, 0, ml, nI n)) (post := []) (rest := []) C hBA Z.1 lu_J5_100 (c_jens hf hc (by omega) (by omega)) 0 dJ5_append_3fe6f_7 (by decide) rfl rfl rfl rfl (by exact (by decide : (0 : Nat) ≤ 8)) ⟨Nat.le_refl _, Nat.le_refl _⟩ (fun rv w1 hP => ?_)
  obtain ⟨rfl, q2, cap2, f2, rfl, h1, h2, h3, h4⟩ := hP
  show V K 1 142 (sbW g (A.1, q2) (cap2, f2, 0, ml, (nI n))) [(0, .ref A.1), (1, .int (nI k))] [] 10
  refine V_aload_n C 0 11 dJ5_append_3fe6f_10 rfl rfl ?_
  refine V_callNu (as := []) (pre := []) (w0 := sbW g (A.1, q2) (cap2, f2, 0, ml, (nI n))) (post := []) (rest := []) C hBA Z.1 lu_J5_83 c_jlat 0 dJ5_append_3fe6f_11 (by decide) rfl rfl rfl rfl (by exact (by decide : (0 : Nat) ≤ 8)) ⟨Nat.le_refl _, Nat.le_refl _⟩ (fun rv w1 hP => ?_)
  obtain ⟨rfl, rfl⟩ := hP
  show V K 1 142 (sbW g (A.1, q2) (cap2, f2, 0, ml, (nI n))) [(0, .ref A.1), (1, .int (nI k))] [.int 1] 14
  refine V_if_eq C 45 17 dJ5_append_3fe6f_14 rfl rfl (fun e => absurd e (by decide)) (fun _ => ?_)
  refine V_iload_n C 1 18 dJ5_append_3fe6f_17 rfl rfl ?_
  refine V_callNs (as := [.int (nI k)]) (pre := []) (w0 := []) (rest := []) C hBA Z.1 lz_J5_191 q763 (c_jcan hk) dJ5_append_3fe6f_18 (by decide) rfl rfl rfl (by decide) ⟨Nat.le_refl _, Nat.le_refl _⟩ (fun rv w1 hP => ?_)
  obtain ⟨rfl, rfl⟩ := hP
  show V K 1 142 (sbW g (A.1, q2) (cap2, f2, 0, ml, (nI n))) [(0, .ref A.1), (1, .int (nI k))] [.int 1] 21
  refine V_if_eq C 45 24 dJ5_append_3fe6f_21 rfl rfl (fun e => absurd e (by decide)) (fun _ => ?_)
  refine V_aload_n C 0 25 dJ5_append_3fe6f_24 rfl rfl ?_
  refine V_get C 0 28 fl_J5_15 dJ5_append_3fe6f_25 rfl rfl rfl ?_
  refine V_aload_n C 0 29 dJ5_append_3fe6f_28 rfl rfl ?_
  refine V_dup C 30 dJ5_append_3fe6f_29 rfl rfl ?_
  refine V_get C 0 33 fl_J5_79 dJ5_append_3fe6f_30 rfl rfl rfl ?_
  refine V_dup_x1 C 34 dJ5_append_3fe6f_33 rfl rfl rfl ?_
  refine V_iconst C (1 : Int32) 35 dJ5_append_3fe6f_34 rfl rfl ?_
  refine V_iadd C 36 dJ5_append_3fe6f_35 rfl ?_
  refine V_st (st2 := [.int (nI (n + 1)), .ref A.1, .int (nI n), .ref q2]) (by rw [nI_1]) ?_
  refine V_put C hBA 0 39 (sbW g (A.1, q2) (cap2, f2, 0, ml, nI (n + 1))) fl_J5_79 fp_J4_3 dJ5_append_3fe6f_36 rfl rfl (by exact (by decide : 3 < 4)) rfl rfl rfl ?_
  refine V_iload_n C 1 40 dJ5_append_3fe6f_39 rfl rfl ?_
  refine V_i2b C 41 dJ5_append_3fe6f_40 rfl ?_
  have hc2 : cap2 ≤ 142 := by rcases h1 with h | h | h | h <;> omega
  have hin : inb (nI n) cap2 = true := inb_of (vp_in_nI (by omega) (by omega))
  refine V_bast C hBA 1 42 (sbW g (A.1, q2) (cap2, upd f2 (cl (nI n)) (vp_nar .byte (nI k).toInt8.toInt32), 0, ml, nI (n + 1))) dJ5_append_3fe6f_41 rfl rfl hin rfl ?_
  refine V_goto C 75 dJ5_append_3fe6f_42 rfl ?_
  refine V_aload_n C 0 76 dJ5_append_3fe6f_75 rfl rfl ?_
  refine V_nretA C Z rfl (Or.inl ⟨_, rfl⟩) ⟨rfl, q2, cap2, _, rfl, h1, h2, fun i hi => ?_, ?_, ?_⟩ dJ5_append_3fe6f_76 (Nat.le_refl _) (Nat.le_refl _)
  · rw [cl_n (by omega), pk_un (by omega)]
    exact h3 i (by omega)
  · rw [cl_n (by omega), pk_us, by_asc hk]
  · rw [by_asc hk]
    exact fit_upd h4 hk
theorem c_japc {l : Launch} {D : va_G} {g : G0} {A : SbA} {cap n k : Nat} {f : Nat → Int32} {ml : Int32} (hf : sb_Fit f) (hc : capOK cap) (hn : n ≤ cap) (hn2 : n + 1 ≤ 142) (hk : k < 128) : CtN l D g yJ4_append_cf468 cJ4_append_cf468 2 (some (.object "java/lang/StringBuilder")) (rmN 5 126 1 142) (sbW g A (cap, f, 0, ml, nI n)) [.ref A.1, .int (nI k)] (fun rv w1 => rv = some (.ref A.1) ∧ ∃ (q2 cap2 : Nat) (f2 : Nat → Int32), w1 = sbW g (A.1, q2) (cap2, f2, 0, ml, nI (n + 1)) ∧ capOK cap2 ∧ n + 1 ≤ cap2 ∧ (∀ i, i < n → f2 i = f i) ∧ f2 n = nI k ∧ sb_Fit f2) 1 142 := by
  refine CtN.of (by decide) (Nat.le_of_ble_eq_true rfl) ?_
  intro K C Z hBA el eD ekn
  subst el
  subst eD
  have hlt : ∀ i, i < 2 → i < kn K := fun i h => by rw [ekn]; exact h
  show V K 0 0 (sbW g A (cap, f, 0, ml, nI n)) [(0, .ref A.1), (1, .int (nI k))] [] 0
  refine V_aload_n C 0 1 dJ4_append_cf468_0 rfl rfl ?_
  refine V_iload_n C 1 2 dJ4_append_cf468_1 rfl rfl ?_
  refine V_callNw (as := [.int (nI k)]) (pre := []) (w0 := sbW g A (cap, f, 0, ml, nI n)) (post := []) (rest := []) C hBA Z.1 lw_J4_50 (c_japc5 hf hc hn hn2 hk) 0 dJ4_append_cf468_2 (by decide) rfl rfl rfl rfl (by decide) ⟨Nat.le_refl _, Nat.le_refl _⟩ (fun rv w1 hP => ?_)
  obtain ⟨rfl, q2, cap2, f2, rfl, hP2⟩ := hP
  show V K 1 142 (sbW g (A.1, q2) (cap2, f2, 0, ml, nI (n + 1))) [(0, .ref A.1), (1, .int (nI k))] [.ref A.1] 5
  refine V_pop C 6 dJ4_append_cf468_5 rfl rfl ?_
  refine V_aload_n C 0 7 dJ4_append_cf468_6 rfl rfl ?_
  exact V_nretA C Z rfl (Or.inl ⟨_, rfl⟩) ⟨rfl, q2, cap2, f2, rfl, hP2⟩ dJ4_append_cf468_7 (Nat.le_refl _) (Nat.le_refl _)
/-- how many digits -/
def dgs (v : Nat) : Nat := if v < 10 then 1 else 2
theorem neg_nI {v : Nat} (hv : v < 100) : (-nI v).toInt = -(v : Int) := by
  have e : -nI v = nI 0 - nI v := by rw [Int32.sub_eq_add_neg]; exact (Int32.zero_add _).symm
  rw [e, nI_sub_toInt (by omega) (by omega)]
  omega
theorem by_asc2 {k : Nat} (h : k < 128) : vp_nar .byte (nI k) = nI k := by
  have key : ∀ c : Fin 128, vp_nar .byte (nI c.val) = nI c.val := by decide +kernel
  exact key ⟨k, h⟩
theorem ng10 : (-10 : Int32).toInt = -10 := by decide
theorem ng9 : (-9 : Int32).toInt = -9 := by decide
theorem ng100 : (-100 : Int32).toInt = -100 := by decide
theorem ng10x : ((10 : Int32) * (-10 : Int32)).toInt = -100 := by decide
theorem c_jssz {l : Launch} {D : va_G} {g : G0} {v : Nat} (hv : v < 100) : CtN l D g yJ6_stringSize_0f7a4 cJ6_stringSize_0f7a4 4 (some .int) (rmN 0 0 0 0) ([]) [.int (nI v)] (fun rv w1 => rv = some (.int (nI (dgs v))) ∧ w1 = []) 0 0 := by
  refine CtN.of (by decide) (Nat.le_of_ble_eq_true rfl) ?_
  intro K C Z hBA el eD ekn
  subst el
  subst eD
  have hlt : ∀ i, i < 4 → i < kn K := fun i h => by rw [ekn]; exact h
  show V K 0 0 ([]) [(0, .int (nI v))] [] 0
  refine V_iconst C (1 : Int32) 1 dJ6_stringSize_0f7a4_0 rfl rfl ?_
  refine V_istore_n C 2 [(1, .int (1 : Int32)), (0, .int (nI v))] dJ6_stringSize_0f7a4_1 rfl (hlt 1 (by decide)) rfl ?_
  refine V_iload_n C 1 3 dJ6_stringSize_0f7a4_2 rfl rfl ?_
  refine V_if_lt C 11 6 dJ6_stringSize_0f7a4_3 rfl rfl (fun e => absurd e (nI_pos (by omega))) (fun _ => ?_)
  refine V_iconst C (0 : Int32) 7 dJ6_stringSize_0f7a4_6 rfl rfl ?_
  refine V_istore_n C 8 [(1, .int (0 : Int32)), (0, .int (nI v))] dJ6_stringSize_0f7a4_7 rfl (hlt 1 (by decide)) rfl ?_
  refine V_iload_n C 1 9 dJ6_stringSize_0f7a4_8 rfl rfl ?_
  refine V_ineg C 10 dJ6_stringSize_0f7a4_9 rfl ?_
  refine V_istore_n C 11 [(0, .int (-(nI v))), (1, .int (0 : Int32))] dJ6_stringSize_0f7a4_10 rfl (hlt 0 (by decide)) rfl ?_
  refine V_bipush C (-10 : Int32) 13 dJ6_stringSize_0f7a4_11 rfl rfl ?_
  refine V_istore_n C 14 [(2, .int (-10 : Int32)), (0, .int (-(nI v))), (1, .int (0 : Int32))] dJ6_stringSize_0f7a4_13 rfl (hlt 2 (by decide)) rfl ?_
  refine V_iconst C (1 : Int32) 15 dJ6_stringSize_0f7a4_14 rfl rfl ?_
  refine V_istore_n C 16 [(3, .int (1 : Int32)), (2, .int (-10 : Int32)), (0, .int (-(nI v))), (1, .int (0 : Int32))] dJ6_stringSize_0f7a4_15 rfl (hlt 3 (by decide)) rfl ?_
  refine V_iload_n C 0 17 dJ6_stringSize_0f7a4_16 rfl rfl ?_
  refine V_bipush C (10 : Int32) 19 dJ6_stringSize_0f7a4_17 rfl rfl ?_
  refine V_icmp_ge C 42 22 dJ6_stringSize_0f7a4_19 rfl rfl (fun e => absurd e (by decide)) (fun _ => ?_)
  refine V_iload_n C 2 23 dJ6_stringSize_0f7a4_22 rfl rfl ?_
  refine V_iload_n C 1 24 dJ6_stringSize_0f7a4_23 rfl rfl ?_
  by_cases hv10 : v < 10
  · refine V_icmp_le C 31 27 dJ6_stringSize_0f7a4_24 rfl rfl (fun e => absurd e (show ¬ -nI v ≤ (-10 : Int32) from by rw [Int32.le_iff_toInt_le, neg_nI hv, ng10]; omega)) (fun _ => ?_)
    refine V_iload_n C 0 28 dJ6_stringSize_0f7a4_27 rfl rfl ?_
    refine V_iload_n C 3 29 dJ6_stringSize_0f7a4_28 rfl rfl ?_
    refine V_iadd C 30 dJ6_stringSize_0f7a4_29 rfl ?_
    refine V_st (st2 := [.int (nI (dgs v))]) (by rw [dgs, if_pos hv10]; rfl) ?_
    exact V_nretI C Z rfl rfl ⟨rfl, rfl⟩ dJ6_stringSize_0f7a4_30 (Nat.zero_le _) (Nat.zero_le _)
  · refine V_icmp_le C 31 27 dJ6_stringSize_0f7a4_24 rfl rfl (fun _ => ?_) (fun e => absurd (show -nI v ≤ (-10 : Int32) from by rw [Int32.le_iff_toInt_le, neg_nI hv, ng10]; omega) e)
    refine V_bipush C (10 : Int32) 33 dJ6_stringSize_0f7a4_31 rfl rfl ?_
    refine V_iload_n C 1 34 dJ6_stringSize_0f7a4_33 rfl rfl ?_
    refine V_imul C 35 dJ6_stringSize_0f7a4_34 rfl ?_
    refine V_istore_n C 36 [(2, .int ((10 : Int32) * (-10 : Int32))), (3, .int (1 : Int32)), (0, .int (-(nI v))), (1, .int (0 : Int32))] dJ6_stringSize_0f7a4_35 rfl (hlt 2 (by decide)) rfl ?_
    refine V_iinc C 1 ((1 : Int32) + (1 : Int32)) 39 [(3, .int ((1 : Int32) + (1 : Int32))), (2, .int ((10 : Int32) * (-10 : Int32))), (0, .int (-(nI v))), (1, .int (0 : Int32))] dJ6_stringSize_0f7a4_36 rfl rfl rfl (hlt 3 (by decide)) rfl ?_
    refine V_goto C 16 dJ6_stringSize_0f7a4_39 rfl ?_
    refine V_iload_n C 0 17 dJ6_stringSize_0f7a4_16 rfl rfl ?_
    refine V_bipush C (10 : Int32) 19 dJ6_stringSize_0f7a4_17 rfl rfl ?_
    refine V_icmp_ge C 42 22 dJ6_stringSize_0f7a4_19 rfl rfl (fun e => absurd e (by decide)) (fun _ => ?_)
    refine V_iload_n C 2 23 dJ6_stringSize_0f7a4_22 rfl rfl ?_
    refine V_iload_n C 1 24 dJ6_stringSize_0f7a4_23 rfl rfl ?_
    refine V_icmp_le C 31 27 dJ6_stringSize_0f7a4_24 rfl rfl (fun e => absurd e (show ¬ -nI v ≤ (10 : Int32) * (-10 : Int32) from by rw [Int32.le_iff_toInt_le, neg_nI hv, ng10x]; omega)) (fun _ => ?_)
    refine V_iload_n C 0 28 dJ6_stringSize_0f7a4_27 rfl rfl ?_
    refine V_iload_n C 3 29 dJ6_stringSize_0f7a4_28 rfl rfl ?_
    refine V_iadd C 30 dJ6_stringSize_0f7a4_29 rfl ?_
    refine V_st (st2 := [.int (nI (dgs v))]) (by rw [dgs, if_neg hv10]; rfl) ?_
    exact V_nretI C Z rfl rfl ⟨rfl, rfl⟩ dJ6_stringSize_0f7a4_30 (Nat.zero_le _) (Nat.zero_le _)
/-- the digits of v, up to e -/
def putD (f : Nat → Int32) (e v : Nat) : Nat → Int32 := if v < 10 then upd f (e - 1) (nI (48 + v % 10)) else upd (upd f (e - 1) (nI (48 + v % 10))) (e - 2) (nI (48 + v / 10))
theorem c_jgch {l : Launch} {D : va_G} {g : G0} {q cap v e : Nat} {f : Nat → Int32} (hv : v < 100) (he : dgs v ≤ e) (hc : e ≤ cap) (hc2 : cap ≤ 1000) : CtN l D g yJ6_getChars_ba4f3 cJ6_getChars_ba4f3 7 (some .int) (rmN 0 0 0 0) ([(q, aB g cap f)]) [.int (nI v), .int (nI e), .ref q] (fun rv w1 => ∃ r : Int32, rv = some (.int r) ∧ w1 = [(q, aB g cap (putD f e v))]) 0 0 := by
  refine CtN.of (by decide) (Nat.le_of_ble_eq_true rfl) ?_
  intro K C Z hBA el eD ekn
  subst el
  subst eD
  have hlt : ∀ i, i < 7 → i < kn K := fun i h => by rw [ekn]; exact h
  show V K 0 0 ([(q, aB g cap f)]) [(0, .int (nI v)), (1, .int (nI e)), (2, .ref q)] [] 0
  obtain ⟨t1, hz1, ht1⟩ := Z.1.1.2.1
  obtain ⟨t2, hz2, ht2⟩ := Z.1.1.2.2
  have he1 : 1 ≤ e := by unfold dgs at he; split at he <;> omega
  refine V_iload_n C 1 1 dJ6_getChars_ba4f3_0 rfl rfl ?_
  refine V_istore C 3 [(5, .int (nI e)), (0, .int (nI v)), (1, .int (nI e)), (2, .ref q)] dJ6_getChars_ba4f3_1 rfl (hlt 5 (by decide)) rfl ?_
  refine V_iload_n C 1 4 dJ6_getChars_ba4f3_3 rfl rfl ?_
  refine V_if_ge C 11 7 dJ6_getChars_ba4f3_4 rfl rfl (fun _ => ?_) (fun e => absurd (nI_pos' (by omega)) e)
  refine V_iconst C (0 : Int32) 12 dJ6_getChars_ba4f3_11 rfl rfl ?_
  refine V_istore C 14 [(6, .int (0 : Int32)), (5, .int (nI e)), (0, .int (nI v)), (1, .int (nI e)), (2, .ref q)] dJ6_getChars_ba4f3_12 rfl (hlt 6 (by decide)) rfl ?_
  refine V_iload C 0 16 dJ6_getChars_ba4f3_14 rfl rfl ?_
  refine V_if_ne C 22 19 dJ6_getChars_ba4f3_16 rfl rfl (fun e => absurd rfl e) (fun _ => ?_)
  refine V_iload_n C 2 20 dJ6_getChars_ba4f3_19 rfl rfl ?_
  refine V_ineg C 21 dJ6_getChars_ba4f3_20 rfl ?_
  refine V_istore_n C 22 [(0, .int (-(nI v))), (6, .int (0 : Int32)), (5, .int (nI e)), (1, .int (nI e)), (2, .ref q)] dJ6_getChars_ba4f3_21 rfl (hlt 0 (by decide)) rfl ?_
  refine V_iload_n C 0 23 dJ6_getChars_ba4f3_22 rfl rfl ?_
  refine V_bipush C (-100 : Int32) 25 dJ6_getChars_ba4f3_23 rfl rfl ?_
  refine V_icmp_gt C 72 28 dJ6_getChars_ba4f3_25 rfl rfl (fun _ => ?_) (fun e => absurd (show (-100 : Int32) < -nI v from by rw [Int32.lt_iff_toInt_lt, neg_nI hv, ng100]; omega) e)
  refine V_aload_n C 4 73 dJ6_getChars_ba4f3_72 rfl rfl ?_
  refine V_iinc C 2 (nI (e - 1)) 76 [(5, .int (nI (e - 1))), (0, .int (-(nI v))), (6, .int (0 : Int32)), (1, .int (nI e)), (2, .ref q)] dJ6_getChars_ba4f3_73 rfl rfl ((by show nI e + (-1 : Int32) = nI (e - 1); rw [add_m1]; exact pk_sub (b := 1) (by omega))) (hlt 5 (by decide)) rfl ?_
  refine V_iload C 0 78 dJ6_getChars_ba4f3_76 rfl rfl ?_
  refine V_gets C 81 hz1 q556 rfl dJ6_getChars_ba4f3_78 rfl ?_
  refine V_iload_n C 1 82 dJ6_getChars_ba4f3_81 rfl rfl ?_
  refine V_ineg C 83 dJ6_getChars_ba4f3_82 rfl ?_
  refine V_st (st2 := [.int (nI v), .ref t1, .int (nI (e - 1)), .ref q]) (by rw [Int32.neg_neg]) ?_
  refine V_tb C 84 ht1 (inb_of (vp_in_nI (by omega) (by decide))) (show dgOnes (cl (nI v)) = .int (nI (48 + v % 10)) from by rw [cl_n (by omega)]; rfl) dJ6_getChars_ba4f3_83 rfl ?_
  refine V_bast C hBA 0 85 [(q, aB g cap (upd f (e - 1) (nI (48 + v % 10))))] dJ6_getChars_ba4f3_84 rfl rfl (inb_of (vp_in_nI (by omega) (by omega))) (by rw [cl_n (by omega), by_asc2 (by omega)]; rfl) ?_
  refine V_iload_n C 1 86 dJ6_getChars_ba4f3_85 rfl rfl ?_
  refine V_bipush C (-9 : Int32) 88 dJ6_getChars_ba4f3_86 rfl rfl ?_
  by_cases hv10 : v < 10
  · refine V_icmp_ge C 104 91 dJ6_getChars_ba4f3_88 rfl rfl (fun _ => ?_) (fun e => absurd (show (-9 : Int32) ≤ -nI v from by rw [Int32.le_iff_toInt_le, neg_nI hv, ng9]; omega) e)
    refine V_iload C 2 106 dJ6_getChars_ba4f3_104 rfl rfl ?_
    refine V_if_eq C 118 109 dJ6_getChars_ba4f3_106 rfl rfl (fun _ => ?_) (fun e => absurd rfl e)
    refine V_iload C 0 120 dJ6_getChars_ba4f3_118 rfl rfl ?_
    exact V_nretI C Z rfl rfl ⟨_, rfl, by rw [putD, if_pos hv10]⟩ dJ6_getChars_ba4f3_120 (Nat.zero_le _) (Nat.zero_le _)
  · have he2 : 2 ≤ e := by unfold dgs at he; rw [if_neg hv10] at he; exact he
    refine V_icmp_ge C 104 91 dJ6_getChars_ba4f3_88 rfl rfl (fun e => absurd e (show ¬ (-9 : Int32) ≤ -nI v from by rw [Int32.le_iff_toInt_le, neg_nI hv, ng9]; omega)) (fun _ => ?_)
    refine V_aload_n C 4 92 dJ6_getChars_ba4f3_91 rfl rfl ?_
    refine V_iinc C 0 (nI (e - 2)) 95 [(5, .int (nI (e - 2))), (0, .int (-(nI v))), (6, .int (0 : Int32)), (1, .int (nI e)), (2, .ref q)] dJ6_getChars_ba4f3_92 rfl rfl ((by show nI (e - 1) + (-1 : Int32) = nI (e - 2); rw [add_m1]; exact (pk_sub (b := 1) (by omega)).trans (by rw [Nat.sub_sub]))) (hlt 5 (by decide)) rfl ?_
    refine V_iload C 0 97 dJ6_getChars_ba4f3_95 rfl rfl ?_
    refine V_gets C 100 hz2 q558 rfl dJ6_getChars_ba4f3_97 rfl ?_
    refine V_iload_n C 1 101 dJ6_getChars_ba4f3_100 rfl rfl ?_
    refine V_ineg C 102 dJ6_getChars_ba4f3_101 rfl ?_
    refine V_st (st2 := [.int (nI v), .ref t2, .int (nI (e - 2)), .ref q]) (by rw [Int32.neg_neg]) ?_
    refine V_tb C 103 ht2 (inb_of (vp_in_nI (by omega) (by decide))) (show dgTens (cl (nI v)) = .int (nI (48 + v / 10)) from by rw [cl_n (by omega)]; rfl) dJ6_getChars_ba4f3_102 rfl ?_
    refine V_bast C hBA 0 104 [(q, aB g cap (upd (upd f (e - 1) (nI (48 + v % 10))) (e - 2) (nI (48 + v / 10))))] dJ6_getChars_ba4f3_103 rfl rfl (inb_of (vp_in_nI (by omega) (by omega))) (by rw [cl_n (by omega), by_asc2 (by omega)]; rfl) ?_
    refine V_iload C 2 106 dJ6_getChars_ba4f3_104 rfl rfl ?_
    refine V_if_eq C 118 109 dJ6_getChars_ba4f3_106 rfl rfl (fun _ => ?_) (fun e => absurd rfl e)
    refine V_iload C 0 120 dJ6_getChars_ba4f3_118 rfl rfl ?_
    exact V_nretI C Z rfl rfl ⟨_, rfl, by rw [putD, if_neg hv10]⟩ dJ6_getChars_ba4f3_120 (Nat.zero_le _) (Nat.zero_le _)
