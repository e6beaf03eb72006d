set_option maxHeartbeats 4000000 in
set_option maxRecDepth 100000 in
theorem c_X3_requirePage {l : Launch} {D : va_G} {g : G0} {A : XA} {v : XV} {a1 : Int32} {R : ((Int32 × XV) ⊕ (String × XV))} (hst : l.stackTraces = false) (h : f_X3_requirePage v a1 = some R) : CtX l D g yX3_requirePage cX3_requirePage 2 none (rmX 6 90 (rxV g A R)) (xW g A v) [.ref A.1, .int a1] (rxV g A R) := by
  refine CtX.of (by decide) (Nat.le_of_ble_eq_true rfl) hst ?_
  intro K C Z hBA el eD ekn
  subst el
  subst eD
  have hE := Z.2.2.1
  have hlt : ∀ i, i < 2 → i < kn K := fun i h => by rw [ekn]; exact h
  show V K 0 0 _ [(0, .ref A.1), (1, .int a1)] [] 0
  unfold f_X3_requirePage at h
  refine V_aload_n C 0 1 dX3_requirePage_0 rfl rfl ?_
  refine V_get C (v := .ref A.2.1.1) 0 4 fl_X3_10 dX3_requirePage_1 rfl rfl rfl ?_
  refine V_iload_n C 1 5 dX3_requirePage_4 rfl rfl ?_
  obtain ⟨r1, k2, h⟩ := bd_some h
  refine V_callP C ml_X3_330 (pre := mgW A v.1) (post := bkW g A.2.2.1 v.2.2.1 ++ (bkW g A.2.2.2.1 v.2.2.2.1 ++ (hsW g A.2.2.2.2.1 A.2.2.2.2.2.2.2 v.2.2.2.2.1 ++ (scW g A.2.2.2.2.2.1 v.2.2.2.2.2.1 ++ (sbW g A.2.2.2.2.2.2.1 v.2.2.2.2.2.2.1 ++ (hbW g A.2.2.2.2.2.2.2 v.2.2.2.2.2.2.2)))))) (w := bkW g A.2.1 v.2.1) (as := [.int a1]) (rest := []) (c_X0_hasPage k2) 1 8 dX3_requirePage_5 rfl ⟨Nat.le_of_ble_eq_true rfl, Nat.le_of_ble_eq_true rfl⟩ rfl (by first | (simp only [List.append_assoc, List.nil_append, List.append_nil]; done) | rfl) rfl rfl rfl (Nat.le_of_ble_eq_true rfl) ⟨Nat.zero_le _, Nat.zero_le _⟩ ?_
  refine V_if_ne C 22 11 dX3_requirePage_8 rfl rfl (fun e3 => ?_) (fun e3 => ?_)
  · have h := (if_neg e3).symm.trans h
    obtain rfl := Option.some.inj h
    exact V_xretV C Z rfl rfl dX3_requirePage_22 (Nat.le_refl _) (Nat.le_refl _)
  · have h := (if_pos e3).symm.trans h
    obtain rfl := Option.some.inj h
    exact V_throwW C Z tl_X3_106_110_333 dX3_requirePage_11 dX3_requirePage_14 dX3_requirePage_15 dX3_requirePage_18 dX3_requirePage_21 ⟨Nat.le_of_ble_eq_true rfl, Nat.le_of_ble_eq_true rfl, Nat.le_refl _, Nat.le_refl _⟩ rfl (Nat.le_refl _) (Nat.le_refl _)
set_option maxHeartbeats 4000000 in
set_option maxRecDepth 100000 in
theorem c_X3_requireWeight {l : Launch} {D : va_G} {g : G0} {A : XA} {v : XV} {a1 : Int32} {R : ((Int32 × XV) ⊕ (String × XV))} (hst : l.stackTraces = false) (h : f_X3_requireWeight v a1 = some R) : CtX l D g yX3_requireWeight cX3_requireWeight 2 none (rmX 6 90 (rxV g A R)) (xW g A v) [.ref A.1, .int a1] (rxV g A R) := by
  refine CtX.of (by decide) (Nat.le_of_ble_eq_true rfl) hst ?_
  intro K C Z hBA el eD ekn
  subst el
  subst eD
  have hE := Z.2.2.1
  have hlt : ∀ i, i < 2 → i < kn K := fun i h => by rw [ekn]; exact h
  show V K 0 0 _ [(0, .ref A.1), (1, .int a1)] [] 0
  unfold f_X3_requireWeight at h
  refine V_aload_n C 0 1 dX3_requireWeight_0 rfl rfl ?_
  refine V_get C (v := .ref A.2.1.1) 0 4 fl_X3_10 dX3_requireWeight_1 rfl rfl rfl ?_
  refine V_iload_n C 1 5 dX3_requireWeight_4 rfl rfl ?_
  obtain ⟨r1, k2, h⟩ := bd_some h
  refine V_callP C ml_X3_335 (pre := mgW A v.1) (post := bkW g A.2.2.1 v.2.2.1 ++ (bkW g A.2.2.2.1 v.2.2.2.1 ++ (hsW g A.2.2.2.2.1 A.2.2.2.2.2.2.2 v.2.2.2.2.1 ++ (scW g A.2.2.2.2.2.1 v.2.2.2.2.2.1 ++ (sbW g A.2.2.2.2.2.2.1 v.2.2.2.2.2.2.1 ++ (hbW g A.2.2.2.2.2.2.2 v.2.2.2.2.2.2.2)))))) (w := bkW g A.2.1 v.2.1) (as := [.int a1]) (rest := []) (c_X0_takesWeight k2) 1 8 dX3_requireWeight_5 rfl ⟨Nat.le_of_ble_eq_true rfl, Nat.le_of_ble_eq_true rfl⟩ rfl (by first | (simp only [List.append_assoc, List.nil_append, List.append_nil]; done) | rfl) rfl rfl rfl (Nat.le_of_ble_eq_true rfl) ⟨Nat.zero_le _, Nat.zero_le _⟩ ?_
  refine V_if_ne C 22 11 dX3_requireWeight_8 rfl rfl (fun e3 => ?_) (fun e3 => ?_)
  · have h := (if_neg e3).symm.trans h
    obtain rfl := Option.some.inj h
    exact V_xretV C Z rfl rfl dX3_requireWeight_22 (Nat.le_refl _) (Nat.le_refl _)
  · have h := (if_pos e3).symm.trans h
    obtain rfl := Option.some.inj h
    exact V_throwW C Z tl_X3_256_260_338 dX3_requireWeight_11 dX3_requireWeight_14 dX3_requireWeight_15 dX3_requireWeight_18 dX3_requireWeight_21 ⟨Nat.le_of_ble_eq_true rfl, Nat.le_of_ble_eq_true rfl, Nat.le_refl _, Nat.le_refl _⟩ rfl (Nat.le_refl _) (Nat.le_refl _)
set_option maxHeartbeats 4000000 in
set_option maxRecDepth 100000 in
theorem c_X3_noteRejection {l : Launch} {D : va_G} {g : G0} {A : XA} {v : MgV} {a1 a2 a3 : Int32} {R : (Int32 × MgV)} (h : f_X3_noteRejection v a1 a2 a3 = some R) : CtS l D g yX3_noteRejection cX3_noteRejection 4 none (rmF 0 0) (mgW A v) [.ref A.1, .int a1, .int a2, .int a3] none (mgW A R.2) := by
  refine CtS.of (by decide) (Nat.le_of_ble_eq_true rfl) ?_
  intro K C hBA el eD ekn retI retV
  subst el
  subst eD
  have hlt : ∀ i, i < 4 → i < kn K := fun i h => by rw [ekn]; exact h
  show V K 0 0 _ [(0, .ref A.1), (1, .int a1), (2, .int a2), (3, .int a3)] [] 0
  unfold f_X3_noteRejection at h
  refine V_aload_n C 0 1 dX3_noteRejection_0 rfl rfl ?_
  refine V_iload_n C 1 2 dX3_noteRejection_1 rfl rfl ?_
  refine V_put C hBA 0 5 (mgW A ((Mg_hasSnapshot v), (Mg_latestSyntaxError v), a1, (Mg_latestDetail v), (Mg_latestCause v))) fl_X3_51 fp_X3_8 dX3_noteRejection_2 rfl rfl (Nat.le_of_ble_eq_true rfl) rfl rfl rfl ?_
  refine V_aload_n C 0 6 dX3_noteRejection_5 rfl rfl ?_
  refine V_iload_n C 2 7 dX3_noteRejection_6 rfl rfl ?_
  refine V_put C hBA 0 10 (mgW A ((Mg_hasSnapshot v), (Mg_latestSyntaxError v), a1, a2, (Mg_latestCause v))) fl_X3_54 fp_X3_9 dX3_noteRejection_7 rfl rfl (Nat.le_of_ble_eq_true rfl) rfl rfl rfl ?_
  refine V_aload_n C 0 11 dX3_noteRejection_10 rfl rfl ?_
  refine V_iload_n C 3 12 dX3_noteRejection_11 rfl rfl ?_
  refine V_put C hBA 0 15 (mgW A ((Mg_hasSnapshot v), (Mg_latestSyntaxError v), a1, a2, a3)) fl_X3_57 fp_X3_10 dX3_noteRejection_12 rfl rfl (Nat.le_of_ble_eq_true rfl) rfl rfl rfl ?_
  obtain rfl := Option.some.inj h
  exact retV _ _ rfl rfl dX3_noteRejection_15
set_option maxHeartbeats 4000000 in
set_option maxRecDepth 100000 in
theorem c_X3_changeUnlessRejected {l : Launch} {D : va_G} {g : G0} {A : XA} {v : XV} {a1 a2 a3 : Int32} {R : ((Int32 × XV) ⊕ (String × XV))} (hst : l.stackTraces = false) (h : f_X3_changeUnlessRejected v a1 a2 a3 = some R) : CtX l D g yX3_changeUnlessRejected cX3_changeUnlessRejected 5 (some .int) (rmX 6 116 (rxI g A R)) (xW g A v) [.ref A.1, .int a1, .int a2, .int a3] (rxI g A R) := by
  refine CtX.of (by decide) (Nat.le_of_ble_eq_true rfl) hst ?_
  intro K C Z hBA el eD ekn
  subst el
  subst eD
  have hE := Z.2.2.1
  have hlt : ∀ i, i < 5 → i < kn K := fun i h => by rw [ekn]; exact h
  show V K 0 0 _ [(0, .ref A.1), (1, .int a1), (2, .int a2), (3, .int a3)] [] 0
  unfold f_X3_changeUnlessRejected at h
  refine V_aload_n C 0 1 dX3_changeUnlessRejected_0 rfl rfl ?_
  refine V_get C (v := .ref A.2.1.1) 0 4 fl_X3_10 dX3_changeUnlessRejected_1 rfl rfl rfl ?_
  refine V_iload_n C 1 5 dX3_changeUnlessRejected_4 rfl rfl ?_
  refine V_iload_n C 2 6 dX3_changeUnlessRejected_5 rfl rfl ?_
  refine V_iload_n C 3 7 dX3_changeUnlessRejected_6 rfl rfl ?_
  obtain ⟨r1, k2, h⟩ := bd_some h
  refine V_callP C ml_X3_298 (pre := mgW A v.1) (post := bkW g A.2.2.1 v.2.2.1 ++ (bkW g A.2.2.2.1 v.2.2.2.1 ++ (hsW g A.2.2.2.2.1 A.2.2.2.2.2.2.2 v.2.2.2.2.1 ++ (scW g A.2.2.2.2.2.1 v.2.2.2.2.2.1 ++ (sbW g A.2.2.2.2.2.2.1 v.2.2.2.2.2.2.1 ++ (hbW g A.2.2.2.2.2.2.2 v.2.2.2.2.2.2.2)))))) (w := bkW g A.2.1 v.2.1) (as := [.int a1, .int a2, .int a3]) (rest := []) (c_X0_reasonAgainst k2) 1 10 dX3_changeUnlessRejected_7 rfl ⟨Nat.le_of_ble_eq_true rfl, Nat.le_of_ble_eq_true rfl⟩ rfl (by first | (simp only [List.append_assoc, List.nil_append, List.append_nil]; done) | rfl) rfl rfl rfl (Nat.le_of_ble_eq_true rfl) ⟨Nat.zero_le _, Nat.zero_le _⟩ ?_
  refine V_istore C 12 [(4, .int r1), (0, .ref A.1), (1, .int a1), (2, .int a2), (3, .int a3)] dX3_changeUnlessRejected_10 rfl (hlt 4 (by decide)) rfl ?_
  refine V_iload C 0 14 dX3_changeUnlessRejected_12 rfl rfl ?_
  refine V_if_eq C 47 17 dX3_changeUnlessRejected_14 rfl rfl (fun e3 => ?_) (fun e3 => ?_)
  · have h := (if_pos e3).symm.trans h
    refine V_aload_n C 1 48 dX3_changeUnlessRejected_47 rfl rfl ?_
    refine V_get C (v := .ref A.2.2.2.2.1.1) 0 51 fl_X3_25 dX3_changeUnlessRejected_48 rfl rfl rfl ?_
    refine V_aload_n C 1 52 dX3_changeUnlessRejected_51 rfl rfl ?_
    refine V_get C (v := .ref A.2.1.1) 0 55 fl_X3_10 dX3_changeUnlessRejected_52 rfl rfl rfl ?_
    obtain ⟨r4, k5, h⟩ := bd_some h
    refine V_permc (ws2 := hsW g A.2.2.2.2.1 A.2.2.2.2.2.2.2 v.2.2.2.2.1 ++ (hbW g A.2.2.2.2.2.2.2 v.2.2.2.2.2.2.2 ++ (bkW g A.2.1 v.2.1 ++ (mgW A v.1 ++ (bkW g A.2.2.1 v.2.2.1 ++ (bkW g A.2.2.2.1 v.2.2.2.1 ++ (scW g A.2.2.2.2.2.1 v.2.2.2.2.2.1 ++ (sbW g A.2.2.2.2.2.2.1 v.2.2.2.2.2.2.1)))))))) [mgW A v.1, bkW g A.2.1 v.2.1, bkW g A.2.2.1 v.2.2.1, bkW g A.2.2.2.1 v.2.2.2.1, hsW g A.2.2.2.2.1 A.2.2.2.2.2.2.2 v.2.2.2.2.1, scW g A.2.2.2.2.2.1 v.2.2.2.2.2.1, sbW g A.2.2.2.2.2.2.1 v.2.2.2.2.2.2.1, hbW g A.2.2.2.2.2.2.2 v.2.2.2.2.2.2.2] [4, 7, 1, 0, 2, 3, 5, 6] 8 rfl rfl (by decide) rfl ?_
    refine V_callS C hBA ml_X3_75 (pre := []) (post := mgW A v.1 ++ (bkW g A.2.2.1 v.2.2.1 ++ (bkW g A.2.2.2.1 v.2.2.2.1 ++ (scW g A.2.2.2.2.2.1 v.2.2.2.2.2.1 ++ (sbW g A.2.2.2.2.2.2.1 v.2.2.2.2.2.2.1))))) (w0 := hsW g A.2.2.2.2.1 A.2.2.2.2.2.2.2 v.2.2.2.2.1 ++ (hbW g A.2.2.2.2.2.2.2 v.2.2.2.2.2.2.2 ++ (bkW g A.2.1 v.2.1))) (w1 := hsW g A.2.2.2.2.1 A.2.2.2.2.2.2.2 r4.2.1 ++ (hbW g A.2.2.2.2.2.2.2 r4.2.2.1 ++ (bkW g A.2.1 r4.2.2.2))) (as := [.ref A.2.1.1]) (rest := []) (c_X1_remember k5) 0 58 (hsW g A.2.2.2.2.1 A.2.2.2.2.2.2.2 r4.2.1 ++ (hbW g A.2.2.2.2.2.2.2 r4.2.2.1 ++ (bkW g A.2.1 r4.2.2.2 ++ (mgW A v.1 ++ (bkW g A.2.2.1 v.2.2.1 ++ (bkW g A.2.2.2.1 v.2.2.2.1 ++ (scW g A.2.2.2.2.2.1 v.2.2.2.2.2.1 ++ (sbW g A.2.2.2.2.2.2.1 v.2.2.2.2.2.2.1)))))))) dX3_changeUnlessRejected_55 rfl ⟨Nat.le_of_ble_eq_true rfl, Nat.le_of_ble_eq_true rfl⟩ rfl (by first | (simp only [List.append_assoc, List.nil_append, List.append_nil]; done) | rfl) (by first | (simp only [List.append_assoc, List.nil_append, List.append_nil]; done) | rfl) rfl rfl rfl rfl (Nat.le_of_ble_eq_true rfl) ⟨Nat.zero_le _, Nat.zero_le _⟩ ?_
    refine V_permc (ws2 := mgW A v.1 ++ (bkW g A.2.1 r4.2.2.2 ++ (bkW g A.2.2.1 v.2.2.1 ++ (bkW g A.2.2.2.1 v.2.2.2.1 ++ (hsW g A.2.2.2.2.1 A.2.2.2.2.2.2.2 r4.2.1 ++ (scW g A.2.2.2.2.2.1 v.2.2.2.2.2.1 ++ (sbW g A.2.2.2.2.2.2.1 v.2.2.2.2.2.2.1 ++ (hbW g A.2.2.2.2.2.2.2 r4.2.2.1)))))))) [hsW g A.2.2.2.2.1 A.2.2.2.2.2.2.2 r4.2.1, hbW g A.2.2.2.2.2.2.2 r4.2.2.1, bkW g A.2.1 r4.2.2.2, mgW A v.1, bkW g A.2.2.1 v.2.2.1, bkW g A.2.2.2.1 v.2.2.2.1, scW g A.2.2.2.2.2.1 v.2.2.2.2.2.1, sbW g A.2.2.2.2.2.2.1 v.2.2.2.2.2.2.1] [3, 2, 4, 5, 0, 6, 7, 1] 8 rfl rfl (by decide) rfl ?_
    refine V_aload_n C 1 59 dX3_changeUnlessRejected_58 rfl rfl ?_
    refine V_get C (v := .ref A.2.1.1) 0 62 fl_X3_10 dX3_changeUnlessRejected_59 rfl rfl rfl ?_
    refine V_iload_n C 2 63 dX3_changeUnlessRejected_62 rfl rfl ?_
    refine V_iload_n C 3 64 dX3_changeUnlessRejected_63 rfl rfl ?_
    refine V_iload_n C 4 65 dX3_changeUnlessRejected_64 rfl rfl ?_
    obtain ⟨r6, k7, h⟩ := bd_some h
    refine V_callS C hBA ml_X3_79 (pre := mgW A v.1) (post := bkW g A.2.2.1 v.2.2.1 ++ (bkW g A.2.2.2.1 v.2.2.2.1 ++ (hsW g A.2.2.2.2.1 A.2.2.2.2.2.2.2 r4.2.1 ++ (scW g A.2.2.2.2.2.1 v.2.2.2.2.2.1 ++ (sbW g A.2.2.2.2.2.2.1 v.2.2.2.2.2.2.1 ++ (hbW g A.2.2.2.2.2.2.2 r4.2.2.1)))))) (w0 := bkW g A.2.1 r4.2.2.2) (w1 := bkW g A.2.1 r6.2) (as := [.int a1, .int a2, .int a3]) (rest := []) (c_X0_carryOut k7) 1 68 (mgW A v.1 ++ (bkW g A.2.1 r6.2 ++ (bkW g A.2.2.1 v.2.2.1 ++ (bkW g A.2.2.2.1 v.2.2.2.1 ++ (hsW g A.2.2.2.2.1 A.2.2.2.2.2.2.2 r4.2.1 ++ (scW g A.2.2.2.2.2.1 v.2.2.2.2.2.1 ++ (sbW g A.2.2.2.2.2.2.1 v.2.2.2.2.2.2.1 ++ (hbW g A.2.2.2.2.2.2.2 r4.2.2.1)))))))) dX3_changeUnlessRejected_65 rfl ⟨Nat.le_of_ble_eq_true rfl, Nat.le_of_ble_eq_true rfl⟩ rfl (by first | (simp only [List.append_assoc, List.nil_append, List.append_nil]; done) | rfl) (by first | (simp only [List.append_assoc, List.nil_append, List.append_nil]; done) | rfl) rfl rfl rfl rfl (Nat.le_of_ble_eq_true rfl) ⟨Nat.zero_le _, Nat.zero_le _⟩ ?_
    obtain rfl := Option.some.inj h
    exact V_xretI C Z (ty := .int) rfl (rfl) rfl dX3_changeUnlessRejected_68 (Nat.le_refl _) (Nat.le_refl _)
  · have h := (if_neg e3).symm.trans h
    refine V_aload_n C 1 18 dX3_changeUnlessRejected_17 rfl rfl ?_
    refine V_iload C 0 20 dX3_changeUnlessRejected_18 rfl rfl ?_
    refine V_aload_n C 1 21 dX3_changeUnlessRejected_20 rfl rfl ?_
    refine V_get C (v := .ref A.2.1.1) 0 24 fl_X3_10 dX3_changeUnlessRejected_21 rfl rfl rfl ?_
    refine V_iload C 0 26 dX3_changeUnlessRejected_24 rfl rfl ?_
    refine V_iload_n C 2 27 dX3_changeUnlessRejected_26 rfl rfl ?_
    refine V_iload_n C 3 28 dX3_changeUnlessRejected_27 rfl rfl ?_
    refine V_iload_n C 4 29 dX3_changeUnlessRejected_28 rfl rfl ?_
    obtain ⟨r8, k9, h⟩ := bd_some h
    refine V_callP C ml_X3_362 (pre := mgW A v.1) (post := bkW g A.2.2.1 v.2.2.1 ++ (bkW g A.2.2.2.1 v.2.2.2.1 ++ (hsW g A.2.2.2.2.1 A.2.2.2.2.2.2.2 v.2.2.2.2.1 ++ (scW g A.2.2.2.2.2.1 v.2.2.2.2.2.1 ++ (sbW g A.2.2.2.2.2.2.1 v.2.2.2.2.2.2.1 ++ (hbW g A.2.2.2.2.2.2.2 v.2.2.2.2.2.2.2)))))) (w := bkW g A.2.1 v.2.1) (as := [.int r1, .int a1, .int a2, .int a3]) (rest := [.int r1, .ref A.1]) (c_X0_detailOf k9) 1 32 dX3_changeUnlessRejected_29 rfl ⟨Nat.le_of_ble_eq_true rfl, Nat.le_of_ble_eq_true rfl⟩ rfl (by first | (simp only [List.append_assoc, List.nil_append, List.append_nil]; done) | rfl) rfl rfl rfl (Nat.le_of_ble_eq_true rfl) ⟨Nat.zero_le _, Nat.zero_le _⟩ ?_
    refine V_iconst C (0 : Int32) 33 dX3_changeUnlessRejected_32 rfl rfl ?_
    obtain ⟨r10, k11, h⟩ := bd_some h
    refine V_callS C hBA ml_X3_301 (pre := []) (post := bkW g A.2.1 v.2.1 ++ (bkW g A.2.2.1 v.2.2.1 ++ (bkW g A.2.2.2.1 v.2.2.2.1 ++ (hsW g A.2.2.2.2.1 A.2.2.2.2.2.2.2 v.2.2.2.2.1 ++ (scW g A.2.2.2.2.2.1 v.2.2.2.2.2.1 ++ (sbW g A.2.2.2.2.2.2.1 v.2.2.2.2.2.2.1 ++ (hbW g A.2.2.2.2.2.2.2 v.2.2.2.2.2.2.2))))))) (w0 := mgW A v.1) (w1 := mgW A r10.2) (as := [.int r1, .int r8, .int (0 : Int32)]) (rest := []) (c_X3_noteRejection k11) 0 36 (mgW A r10.2 ++ (bkW g A.2.1 v.2.1 ++ (bkW g A.2.2.1 v.2.2.1 ++ (bkW g A.2.2.2.1 v.2.2.2.1 ++ (hsW g A.2.2.2.2.1 A.2.2.2.2.2.2.2 v.2.2.2.2.1 ++ (scW g A.2.2.2.2.2.1 v.2.2.2.2.2.1 ++ (sbW g A.2.2.2.2.2.2.1 v.2.2.2.2.2.2.1 ++ (hbW g A.2.2.2.2.2.2.2 v.2.2.2.2.2.2.2)))))))) dX3_changeUnlessRejected_33 rfl ⟨Nat.le_of_ble_eq_true rfl, Nat.le_of_ble_eq_true rfl⟩ rfl (by first | (simp only [List.append_assoc, List.nil_append, List.append_nil]; done) | rfl) (by first | (simp only [List.append_assoc, List.nil_append, List.append_nil]; done) | rfl) rfl rfl rfl rfl (Nat.le_of_ble_eq_true rfl) ⟨Nat.zero_le _, Nat.zero_le _⟩ ?_
    obtain rfl := Option.some.inj h
    exact V_throwW C Z tl_X3_305_309_366 dX3_changeUnlessRejected_36 dX3_changeUnlessRejected_39 dX3_changeUnlessRejected_40 dX3_changeUnlessRejected_43 dX3_changeUnlessRejected_46 ⟨Nat.le_of_ble_eq_true rfl, Nat.le_of_ble_eq_true rfl, Nat.le_refl _, Nat.le_refl _⟩ rfl (Nat.le_refl _) (Nat.le_refl _)
set_option maxHeartbeats 4000000 in
set_option maxRecDepth 100000 in
theorem c_X3_addRibbon {l : Launch} {D : va_G} {g : G0} {A : XA} {v : XV} {a1 a2 : Int32} {R : ((Int32 × XV) ⊕ (String × XV))} (hst : l.stackTraces = false) (h : f_X3_addRibbon v a1 a2 = some R) : CtX l D g yX3_addRibbon cX3_addRibbon 3 (some .int) (rmX 7 140 (rxI g A R)) (xW g A v) [.ref A.1, .int a1, .int a2] (rxI g A R) := by
  refine CtX.of (by decide) (Nat.le_of_ble_eq_true rfl) hst ?_
  intro K C Z hBA el eD ekn
  subst el
  subst eD
  have hE := Z.2.2.1
  have hlt : ∀ i, i < 3 → i < kn K := fun i h => by rw [ekn]; exact h
  show V K 0 0 _ [(0, .ref A.1), (1, .int a1), (2, .int a2)] [] 0
  unfold f_X3_addRibbon at h
  refine V_aload_n C 0 1 dX3_addRibbon_0 rfl rfl ?_
  refine V_iload_n C 1 2 dX3_addRibbon_1 rfl rfl ?_
  obtain ⟨r1, k2, h⟩ := bd_some h
  rcases r1 with r1 | r1
  · have h := bx_l h
    refine V_callXr C hBA hE ml_X3_60 (pre := []) (post := []) (wc := xW g A v) (as := [.int a1]) (rest := []) (w1 := xW g A r1.2) (rv := none) (c_X3_requirePage (R := .inl r1) hst k2) 0 5 (mgW A r1.2.1 ++ (bkW g A.2.1 r1.2.2.1 ++ (bkW g A.2.2.1 r1.2.2.2.1 ++ (bkW g A.2.2.2.1 r1.2.2.2.2.1 ++ (hsW g A.2.2.2.2.1 A.2.2.2.2.2.2.2 r1.2.2.2.2.2.1 ++ (scW g A.2.2.2.2.2.1 r1.2.2.2.2.2.2.1 ++ (sbW g A.2.2.2.2.2.2.1 r1.2.2.2.2.2.2.2.1 ++ (hbW g A.2.2.2.2.2.2.2 r1.2.2.2.2.2.2.2.2)))))))) dX3_addRibbon_2 rfl ⟨Nat.le_of_ble_eq_true rfl, Nat.le_of_ble_eq_true rfl⟩ rfl (List.append_nil _).symm (List.append_nil _) (xW_fst _ _ _ _) rfl rfl rfl (Nat.le_of_ble_eq_true rfl) ⟨Nat.zero_le _, Nat.zero_le _⟩ ?_
    refine V_aload_n C 0 6 dX3_addRibbon_5 rfl rfl ?_
    refine V_iload_n C 2 7 dX3_addRibbon_6 rfl rfl ?_
    obtain ⟨r3, k4, h⟩ := bd_some h
    rcases r3 with r3 | r3
    · have h := bx_l h
      refine V_callXr C hBA hE ml_X3_64 (pre := []) (post := []) (wc := xW g A r1.2) (as := [.int a2]) (rest := []) (w1 := xW g A r3.2) (rv := none) (c_X3_requireWeight (R := .inl r3) hst k4) 0 10 (mgW A r3.2.1 ++ (bkW g A.2.1 r3.2.2.1 ++ (bkW g A.2.2.1 r3.2.2.2.1 ++ (bkW g A.2.2.2.1 r3.2.2.2.2.1 ++ (hsW g A.2.2.2.2.1 A.2.2.2.2.2.2.2 r3.2.2.2.2.2.1 ++ (scW g A.2.2.2.2.2.1 r3.2.2.2.2.2.2.1 ++ (sbW g A.2.2.2.2.2.2.1 r3.2.2.2.2.2.2.2.1 ++ (hbW g A.2.2.2.2.2.2.2 r3.2.2.2.2.2.2.2.2)))))))) dX3_addRibbon_7 rfl ⟨Nat.le_of_ble_eq_true rfl, Nat.le_of_ble_eq_true rfl⟩ rfl (List.append_nil _).symm (List.append_nil _) (xW_fst _ _ _ _) rfl rfl rfl (Nat.le_of_ble_eq_true rfl) ⟨Nat.zero_le _, Nat.zero_le _⟩ ?_
      refine V_aload_n C 0 11 dX3_addRibbon_10 rfl rfl ?_
      refine V_bipush C (82 : Int32) 13 dX3_addRibbon_11 rfl rfl ?_
      refine V_iload_n C 1 14 dX3_addRibbon_13 rfl rfl ?_
      refine V_iload_n C 2 15 dX3_addRibbon_14 rfl rfl ?_
      obtain ⟨r5, k6, h⟩ := bd_some h
      rcases r5 with r5 | r5
      · have h := bx_l h
        refine V_callXr C hBA hE ml_X3_67 (pre := []) (post := []) (wc := xW g A r3.2) (as := [.int (82 : Int32), .int a1, .int a2]) (rest := []) (w1 := xW g A r5.2) (rv := (some (.int r5.1))) (c_X3_changeUnlessRejected (R := .inl r5) hst k6) 0 18 (mgW A r5.2.1 ++ (bkW g A.2.1 r5.2.2.1 ++ (bkW g A.2.2.1 r5.2.2.2.1 ++ (bkW g A.2.2.2.1 r5.2.2.2.2.1 ++ (hsW g A.2.2.2.2.1 A.2.2.2.2.2.2.2 r5.2.2.2.2.2.1 ++ (scW g A.2.2.2.2.2.1 r5.2.2.2.2.2.2.1 ++ (sbW g A.2.2.2.2.2.2.1 r5.2.2.2.2.2.2.2.1 ++ (hbW g A.2.2.2.2.2.2.2 r5.2.2.2.2.2.2.2.2)))))))) dX3_addRibbon_15 rfl ⟨Nat.le_of_ble_eq_true rfl, Nat.le_of_ble_eq_true rfl⟩ rfl (List.append_nil _).symm (List.append_nil _) (xW_fst _ _ _ _) rfl rfl rfl (Nat.le_of_ble_eq_true rfl) ⟨Nat.zero_le _, Nat.zero_le _⟩ ?_
        obtain rfl := Option.some.inj h
        exact V_xretI C Z (ty := .int) rfl (rfl) rfl dX3_addRibbon_18 (Nat.le_refl _) (Nat.le_refl _)
      · have h := bx_r h
        obtain rfl := Option.some.inj h
        refine V_callXt C hBA hE ml_X3_67 (pre := []) (post := []) (wc := xW g A r3.2) (as := [.int (82 : Int32), .int a1, .int a2]) (rest := []) (w1 := xW g A r5.2) (E := r5.1) (c_X3_changeUnlessRejected (R := .inr r5) hst k6) 0 (xW g A r5.2) dX3_addRibbon_15 ⟨Nat.le_of_ble_eq_true rfl, Nat.le_of_ble_eq_true rfl⟩ rfl (List.append_nil _).symm (List.append_nil _) (xW_fst _ _ _ _) rfl rfl (Nat.le_of_ble_eq_true rfl) ⟨Nat.le_refl _, Nat.le_refl _⟩ ?_
        exact VX_out C Z rfl (Nat.le_refl _) (Nat.le_refl _)
    · have h := bx_r h
      obtain rfl := Option.some.inj h
      refine V_callXt C hBA hE ml_X3_64 (pre := []) (post := []) (wc := xW g A r1.2) (as := [.int a2]) (rest := []) (w1 := xW g A r3.2) (E := r3.1) (c_X3_requireWeight (R := .inr r3) hst k4) 0 (xW g A r3.2) dX3_addRibbon_7 ⟨Nat.le_of_ble_eq_true rfl, Nat.le_of_ble_eq_true rfl⟩ rfl (List.append_nil _).symm (List.append_nil _) (xW_fst _ _ _ _) rfl rfl (Nat.le_of_ble_eq_true rfl) ⟨Nat.le_refl _, Nat.le_refl _⟩ ?_
      exact VX_out C Z rfl (Nat.le_refl _) (Nat.le_refl _)
  · have h := bx_r h
    obtain rfl := Option.some.inj h
    refine V_callXt C hBA hE ml_X3_60 (pre := []) (post := []) (wc := xW g A v) (as := [.int a1]) (rest := []) (w1 := xW g A r1.2) (E := r1.1) (c_X3_requirePage (R := .inr r1) hst k2) 0 (xW g A r1.2) dX3_addRibbon_2 ⟨Nat.le_of_ble_eq_true rfl, Nat.le_of_ble_eq_true rfl⟩ rfl (List.append_nil _).symm (List.append_nil _) (xW_fst _ _ _ _) rfl rfl (Nat.le_of_ble_eq_true rfl) ⟨Nat.le_refl _, Nat.le_refl _⟩ ?_
    exact VX_out C Z rfl (Nat.le_refl _) (Nat.le_refl _)
set_option maxHeartbeats 4000000 in
set_option maxRecDepth 100000 in
theorem c_X3_addDogEar {l : Launch} {D : va_G} {g : G0} {A : XA} {v : XV} {a1 a2 : Int32} {R : ((Int32 × XV) ⊕ (String × XV))} (hst : l.stackTraces = false) (h : f_X3_addDogEar v a1 a2 = some R) : CtX l D g yX3_addDogEar cX3_addDogEar 3 (some .int) (rmX 7 140 (rxI g A R)) (xW g A v) [.ref A.1, .int a1, .int a2] (rxI g A R) := by
  refine CtX.of (by decide) (Nat.le_of_ble_eq_true rfl) hst ?_
  intro K C Z hBA el eD ekn
  subst el
  subst eD
  have hE := Z.2.2.1
  have hlt : ∀ i, i < 3 → i < kn K := fun i h => by rw [ekn]; exact h
  show V K 0 0 _ [(0, .ref A.1), (1, .int a1), (2, .int a2)] [] 0
  unfold f_X3_addDogEar at h
  refine V_aload_n C 0 1 dX3_addDogEar_0 rfl rfl ?_
  refine V_iload_n C 1 2 dX3_addDogEar_1 rfl rfl ?_
  obtain ⟨r1, k2, h⟩ := bd_some h
  rcases r1 with r1 | r1
  · have h := bx_l h
    refine V_callXr C hBA hE ml_X3_60 (pre := []) (post := []) (wc := xW g A v) (as := [.int a1]) (rest := []) (w1 := xW g A r1.2) (rv := none) (c_X3_requirePage (R := .inl r1) hst k2) 0 5 (mgW A r1.2.1 ++ (bkW g A.2.1 r1.2.2.1 ++ (bkW g A.2.2.1 r1.2.2.2.1 ++ (bkW g A.2.2.2.1 r1.2.2.2.2.1 ++ (hsW g A.2.2.2.2.1 A.2.2.2.2.2.2.2 r1.2.2.2.2.2.1 ++ (scW g A.2.2.2.2.2.1 r1.2.2.2.2.2.2.1 ++ (sbW g A.2.2.2.2.2.2.1 r1.2.2.2.2.2.2.2.1 ++ (hbW g A.2.2.2.2.2.2.2 r1.2.2.2.2.2.2.2.2)))))))) dX3_addDogEar_2 rfl ⟨Nat.le_of_ble_eq_true rfl, Nat.le_of_ble_eq_true rfl⟩ rfl (List.append_nil _).symm (List.append_nil _) (xW_fst _ _ _ _) rfl rfl rfl (Nat.le_of_ble_eq_true rfl) ⟨Nat.zero_le _, Nat.zero_le _⟩ ?_
    refine V_aload_n C 0 6 dX3_addDogEar_5 rfl rfl ?_
    refine V_iload_n C 2 7 dX3_addDogEar_6 rfl rfl ?_
    obtain ⟨r3, k4, h⟩ := bd_some h
    rcases r3 with r3 | r3
    · have h := bx_l h
      refine V_callXr C hBA hE ml_X3_64 (pre := []) (post := []) (wc := xW g A r1.2) (as := [.int a2]) (rest := []) (w1 := xW g A r3.2) (rv := none) (c_X3_requireWeight (R := .inl r3) hst k4) 0 10 (mgW A r3.2.1 ++ (bkW g A.2.1 r3.2.2.1 ++ (bkW g A.2.2.1 r3.2.2.2.1 ++ (bkW g A.2.2.2.1 r3.2.2.2.2.1 ++ (hsW g A.2.2.2.2.1 A.2.2.2.2.2.2.2 r3.2.2.2.2.2.1 ++ (scW g A.2.2.2.2.2.1 r3.2.2.2.2.2.2.1 ++ (sbW g A.2.2.2.2.2.2.1 r3.2.2.2.2.2.2.2.1 ++ (hbW g A.2.2.2.2.2.2.2 r3.2.2.2.2.2.2.2.2)))))))) dX3_addDogEar_7 rfl ⟨Nat.le_of_ble_eq_true rfl, Nat.le_of_ble_eq_true rfl⟩ rfl (List.append_nil _).symm (List.append_nil _) (xW_fst _ _ _ _) rfl rfl rfl (Nat.le_of_ble_eq_true rfl) ⟨Nat.zero_le _, Nat.zero_le _⟩ ?_
      refine V_aload_n C 0 11 dX3_addDogEar_10 rfl rfl ?_
      refine V_bipush C (69 : Int32) 13 dX3_addDogEar_11 rfl rfl ?_
      refine V_iload_n C 1 14 dX3_addDogEar_13 rfl rfl ?_
      refine V_iload_n C 2 15 dX3_addDogEar_14 rfl rfl ?_
      obtain ⟨r5, k6, h⟩ := bd_some h
      rcases r5 with r5 | r5
      · have h := bx_l h
        refine V_callXr C hBA hE ml_X3_67 (pre := []) (post := []) (wc := xW g A r3.2) (as := [.int (69 : Int32), .int a1, .int a2]) (rest := []) (w1 := xW g A r5.2) (rv := (some (.int r5.1))) (c_X3_changeUnlessRejected (R := .inl r5) hst k6) 0 18 (mgW A r5.2.1 ++ (bkW g A.2.1 r5.2.2.1 ++ (bkW g A.2.2.1 r5.2.2.2.1 ++ (bkW g A.2.2.2.1 r5.2.2.2.2.1 ++ (hsW g A.2.2.2.2.1 A.2.2.2.2.2.2.2 r5.2.2.2.2.2.1 ++ (scW g A.2.2.2.2.2.1 r5.2.2.2.2.2.2.1 ++ (sbW g A.2.2.2.2.2.2.1 r5.2.2.2.2.2.2.2.1 ++ (hbW g A.2.2.2.2.2.2.2 r5.2.2.2.2.2.2.2.2)))))))) dX3_addDogEar_15 rfl ⟨Nat.le_of_ble_eq_true rfl, Nat.le_of_ble_eq_true rfl⟩ rfl (List.append_nil _).symm (List.append_nil _) (xW_fst _ _ _ _) rfl rfl rfl (Nat.le_of_ble_eq_true rfl) ⟨Nat.zero_le _, Nat.zero_le _⟩ ?_
        obtain rfl := Option.some.inj h
        exact V_xretI C Z (ty := .int) rfl (rfl) rfl dX3_addDogEar_18 (Nat.le_refl _) (Nat.le_refl _)
      · have h := bx_r h
        obtain rfl := Option.some.inj h
        refine V_callXt C hBA hE ml_X3_67 (pre := []) (post := []) (wc := xW g A r3.2) (as := [.int (69 : Int32), .int a1, .int a2]) (rest := []) (w1 := xW g A r5.2) (E := r5.1) (c_X3_changeUnlessRejected (R := .inr r5) hst k6) 0 (xW g A r5.2) dX3_addDogEar_15 ⟨Nat.le_of_ble_eq_true rfl, Nat.le_of_ble_eq_true rfl⟩ rfl (List.append_nil _).symm (List.append_nil _) (xW_fst _ _ _ _) rfl rfl (Nat.le_of_ble_eq_true rfl) ⟨Nat.le_refl _, Nat.le_refl _⟩ ?_
        exact VX_out C Z rfl (Nat.le_refl _) (Nat.le_refl _)
    · have h := bx_r h
      obtain rfl := Option.some.inj h
      refine V_callXt C hBA hE ml_X3_64 (pre := []) (post := []) (wc := xW g A r1.2) (as := [.int a2]) (rest := []) (w1 := xW g A r3.2) (E := r3.1) (c_X3_requireWeight (R := .inr r3) hst k4) 0 (xW g A r3.2) dX3_addDogEar_7 ⟨Nat.le_of_ble_eq_true rfl, Nat.le_of_ble_eq_true rfl⟩ rfl (List.append_nil _).symm (List.append_nil _) (xW_fst _ _ _ _) rfl rfl (Nat.le_of_ble_eq_true rfl) ⟨Nat.le_refl _, Nat.le_refl _⟩ ?_
      exact VX_out C Z rfl (Nat.le_refl _) (Nat.le_refl _)
  · have h := bx_r h
    obtain rfl := Option.some.inj h
    refine V_callXt C hBA hE ml_X3_60 (pre := []) (post := []) (wc := xW g A v) (as := [.int a1]) (rest := []) (w1 := xW g A r1.2) (E := r1.1) (c_X3_requirePage (R := .inr r1) hst k2) 0 (xW g A r1.2) dX3_addDogEar_2 ⟨Nat.le_of_ble_eq_true rfl, Nat.le_of_ble_eq_true rfl⟩ rfl (List.append_nil _).symm (List.append_nil _) (xW_fst _ _ _ _) rfl rfl (Nat.le_of_ble_eq_true rfl) ⟨Nat.le_refl _, Nat.le_refl _⟩ ?_
    exact VX_out C Z rfl (Nat.le_refl _) (Nat.le_refl _)
