set_option maxHeartbeats 4000000 in
set_option maxRecDepth 100000 in
theorem c_X3_requirePage {l : Launch} {D : va_G} {g : G0} {A : XA} {v : XV} {a1 : Int32} {R : ((Int32 × XV) ⊕ (String × XV))} (hst : l.stackTraces = false) (h : f_X3_requirePage v a1 = some R) : CtX l D g yX3_requirePage cX3_requirePage 2 none (rmX 6 90 (rxV g A R)) (xW g A v) [.ref A.1, .int a1] (rxV g A R) := by
  refine CtX.of (by decide) (Nat.le_of_ble_eq_true rfl) hst ?_
  intro K C Z hBA el eD ekn
  subst el
  subst eD
  have hE := Z.2.2.1
  have hlt : ∀ i, i < 2 → i < kn K := fun i h => by rw [ekn]; exact h
  show V K 0 0 _ [(0, .ref A.1), (1, .int a1)] [] 0
  unfold f_X3_requirePage at h
  refine V_aload_n C 0 1 dX3_requirePage_0 rfl rfl ?_
  refine V_get C (v := .ref A.2.1.1) 0 4 fl_X3_10 dX3_requirePage_1 rfl rfl rfl ?_
  refine V_iload_n C 1 5 dX3_requirePage_4 rfl rfl ?_
  obtain ⟨r1, k2, h⟩ := bd_some h
  refine V_callP C ml_X3_330 (pre := mgW A v.1) (post := bkW g A.2.2.1 v.2.2.1 ++ (bkW g A.2.2.2.1 v.2.2.2.1 ++ (hsW g A.2.2.2.2.1 A.2.2.2.2.2.2.2 v.2.2.2.2.1 ++ (scW g A.2.2.2.2.2.1 v.2.2.2.2.2.1 ++ (sbW g A.2.2.2.2.2.2.1 v.2.2.2.2.2.2.1 ++ (hbW g A.2.2.2.2.2.2.2 v.2.2.2.2.2.2.2)))))) (w := bkW g A.2.1 v.2.1) (as := [.int a1]) (rest := []) (c_X0_hasPage k2) 1 8 dX3_requirePage_5 rfl ⟨Nat.le_of_ble_eq_true rfl, Nat.le_of_ble_eq_true rfl⟩ rfl (by first | (simp only [List.append_assoc, List.nil_append, List.append_nil]; done) | rfl) rfl rfl rfl (Nat.le_of_ble_eq_true rfl) ⟨Nat.zero_le _, Nat.zero_le _⟩ ?_
  refine V_if_ne C 22 11 dX3_requirePage_8 rfl rfl (fun e3 => ?_) (fun e3 => ?_)
  · have h := (if_neg e3).symm.trans h
    obtain rfl := Option.some.inj h
    exact V_xretV C Z rfl rfl dX3_requirePage_22 (Nat.le_refl _) (Nat.le_refl _)
  · have h := (if_pos e3).symm.trans h
    obtain rfl := Option.some.inj h
    exact V_throwW C Z tl_X3_106_110_333 dX3_requirePage_11 dX3_requirePage_14 dX3_requirePage_15 dX3_requirePage_18 dX3_requirePage_21 ⟨Nat.le_of_ble_eq_true rfl, Nat.le_of_ble_eq_true rfl, Nat.le_refl _, Nat.le_refl _⟩ rfl (Nat.le_refl _) (Nat.le_refl _)
set_option maxHeartbeats 4000000 in
set_option maxRecDepth 100000 in
theorem c_X3_requireWeight {l : Launch} {D : va_G} {g : G0} {A : XA} {v : XV} {a1 : Int32} {R : ((Int32 × XV) ⊕ (String × XV))} (hst : l.stackTraces = false) (h : f_X3_requireWeight v a1 = some R) : CtX l D g yX3_requireWeight cX3_requireWeight 2 none (rmX 6 90 (rxV g A R)) (xW g A v) [.ref A.1, .int a1] (rxV g A R) := by
  refine CtX.of (by decide) (Nat.le_of_ble_eq_true rfl) hst ?_
  intro K C Z hBA el eD ekn
  subst el
  subst eD
  have hE := Z.2.2.1
  have hlt : ∀ i, i < 2 → i < kn K := fun i h => by rw [ekn]; exact h
  show V K 0 0 _ [(0, .ref A.1), (1, .int a1)] [] 0
  unfold f_X3_requireWeight at h
  refine V_aload_n C 0 1 dX3_requireWeight_0 rfl rfl ?_
  refine V_get C (v := .ref A.2.1.1) 0 4 fl_X3_10 dX3_requireWeight_1 rfl rfl rfl ?_
  refine V_iload_n C 1 5 dX3_requireWeight_4 rfl rfl ?_
  obtain ⟨r1, k2, h⟩ := bd_some h
  refine V_callP C ml_X3_335 (pre := mgW A v.1) (post := bkW g A.2.2.1 v.2.2.1 ++ (bkW g A.2.2.2.1 v.2.2.2.1 ++ (hsW g A.2.2.2.2.1 A.2.2.2.2.2.2.2 v.2.2.2.2.1 ++ (scW g A.2.2.2.2.2.1 v.2.2.2.2.2.1 ++ (sbW g A.2.2.2.2.2.2.1 v.2.2.2.2.2.2.1 ++ (hbW g A.2.2.2.2.2.2.2 v.2.2.2.2.2.2.2)))))) (w := bkW g A.2.1 v.2.1) (as := [.int a1]) (rest := []) (c_X0_takesWeight k2) 1 8 dX3_requireWeight_5 rfl ⟨Nat.le_of_ble_eq_true rfl, Nat.le_of_ble_eq_true rfl⟩ rfl (by first | (simp only [List.append_assoc, List.nil_append, List.append_nil]; done) | rfl) rfl rfl rfl (Nat.le_of_ble_eq_true rfl) ⟨Nat.zero_le _, Nat.zero_le _⟩ ?_
  refine V_if_ne C 22 11 dX3_requireWeight_8 rfl rfl (fun e3 => ?_) (fun e3 => ?_)
  · have h := (if_neg e3).symm.trans h
    obtain rfl := Option.some.inj h
    exact V_xretV C Z rfl rfl dX3_requireWeight_22 (Nat.le_refl _) (Nat.le_refl _)
  · have h := (if_pos e3).symm.trans h
    obtain rfl := Option.some.inj h
    exact V_throwW C Z tl_X3_256_260_338 dX3_requireWeight_11 dX3_requireWeight_14 dX3_requireWeight_15 dX3_requireWeight_18 dX3_requireWeight_21 ⟨Nat.le_of_ble_eq_true rfl, Nat.le_of_ble_eq_true rfl, Nat.le_refl _, Nat.le_refl _⟩ rfl (Nat.le_refl _) (Nat.le_refl _)
set_option maxHeartbeats 4000000 in
set_option maxRecDepth 100000 in
theorem c_X3_noteRejection {l : Launch} {D : va_G} {g : G0} {A : XA} {v : MgV} {a1 a2 a3 : Int32} {R : (Int32 × MgV)} (h : f_X3_noteRejection v a1 a2 a3 = some R) : CtS l D g yX3_noteRejection cX3_noteRejection 4 none (rmF 0 0) (mgW A v) [.ref A.1, .int a1, .int a2, .int a3] none (mgW A R.2) := by
  refine CtS.of (by decide) (Nat.le_of_ble_eq_true rfl) ?_
  intro K C hBA el eD ekn retI retV
  subst el
  subst eD
  have hlt : ∀ i, i < 4 → i < kn K := fun i h => by rw [ekn]; exact h
  show V K 0 0 _ [(0, .ref A.1), (1, .int a1), (2, .int a2), (3, .int a3)] [] 0
  unfold f_X3_noteRejection at h
  refine V_aload_n C 0 1 dX3_noteRejection_0 rfl rfl ?_
  refine V_iload_n C 1 2 dX3_noteRejection_1 rfl rfl ?_
  refine V_put C hBA 0 5 (mgW A ((Mg_hasSnapshot v), (Mg_latestSyntaxError v), a1, (Mg_latestDetail v), (Mg_latestCause v))) fl_X3_51 fp_X3_8 dX3_noteRejection_2 rfl rfl (Nat.le_of_ble_eq_true rfl) rfl rfl rfl ?_
  refine V_aload_n C 0 6 dX3_noteRejection_5 rfl rfl ?_
  refine V_iload_n C 2 7 dX3_noteRejection_6 rfl rfl ?_
  refine V_put C hBA 0 10 (mgW A ((Mg_hasSnapshot v), (Mg_latestSyntaxError v), a1, a2, (Mg_latestCause v))) fl_X3_54 fp_X3_9 dX3_noteRejection_7 rfl rfl (Nat.le_of_ble_eq_true rfl) rfl rfl rfl ?_
  refine V_aload_n C 0 11 dX3_noteRejection_10 rfl rfl ?_
  refine V_iload_n C 3 12 dX3_noteRejection_11 rfl rfl ?_
  refine V_put C hBA 0 15 (mgW A ((Mg_hasSnapshot v), (Mg_latestSyntaxError v), a1, a2, a3)) fl_X3_57 fp_X3_10 dX3_noteRejection_12 rfl rfl (Nat.le_of_ble_eq_true rfl) rfl rfl rfl ?_
  obtain rfl := Option.some.inj h
  exact retV _ _ rfl rfl dX3_noteRejection_15
set_option maxHeartbeats 4000000 in
set_option maxRecDepth 100000 in
theorem c_X3_changeUnlessRejected {l : Launch} {D : va_G} {g : G0} {A : XA} {v : XV} {a1 a2 a3 : Int32} {R : ((Int32 × XV) ⊕ (String × XV))} (hst : l.stackTraces = false) (h : f_X3_changeUnlessRejected v a1 a2 a3 = some R) : CtX l D g yX3_changeUnlessRejected cX3_changeUnlessRejected 5 (some .int) (rmX 6 116 (rxI g A R)) (xW g A v) [.ref A.1, .int a1, .int a2, .int a3] (rxI g A R) := by
  refine CtX.of (by decide) (Nat.le_of_ble_eq_true rfl) hst ?_
  intro K C Z hBA el eD ekn
  subst el
  subst eD
  have hE := Z.2.2.1
  have hlt : ∀ i, i < 5 → i < kn K := fun i h => by rw [ekn]; exact h
  show V K 0 0 _ [(0, .ref A.1), (1, .int a1), (2, .int a2), (3, .int a3)] [] 0
  unfold f_X3_changeUnlessRejected at h
  refine V_aload_n C 0 1 dX3_changeUnlessRejected_0 rfl rfl ?_
  refine V_get C (v := .ref A.2.1.1) 0 4 fl_X3_10 dX3_changeUnlessRejected_1 rfl rfl rfl ?_
  refine V_iload_n C 1 5 dX3_changeUnlessRejected_4 rfl rfl ?_
  refine V_iload_n C 2 6 dX3_changeUnlessRejected_5 rfl rfl ?_
  refine V_iload_n C 3 7 dX3_changeUnlessRejected_6 rfl rfl ?_
  obtain ⟨r1, k2, h⟩ := bd_some h
  refine V_callP C ml_X3_298 (pre := mgW A v.1) (post := bkW g A.2.2.1 v.2.2.1 ++ (bkW g A.2.2.2.1 v.2.2.2.1 ++ (hsW g A.2.2.2.2.1 A.2.2.2.2.2.2.2 v.2.2.2.2.1 ++ (scW g A.2.2.2.2.2.1 v.2.2.2.2.2.1 ++ (sbW g A.2.2.2.2.2.2.1 v.2.2.2.2.2.2.1 ++ (hbW g A.2.2.2.2.2.2.2 v.2.2.2.2.2.2.2)))))) (w := bkW g A.2.1 v.2.1) (as := [.int a1, .int a2, .int a3]) (rest := []) (c_X0_reasonAgainst k2) 1 10 dX3_changeUnlessRejected_7 rfl ⟨Nat.le_of_ble_eq_true rfl, Nat.le_of_ble_eq_true rfl⟩ rfl (by first | (simp only [List.append_assoc, List.nil_append, List.append_nil]; done) | rfl) rfl rfl rfl (Nat.le_of_ble_eq_true rfl) ⟨Nat.zero_le _, Nat.zero_le _⟩ ?_
  refine V_istore C 12 [(4, .int r1), (0, .ref A.1), (1, .int a1), (2, .int a2), (3, .int a3)] dX3_changeUnlessRejected_10 rfl (hlt 4 (by decide)) rfl ?_
  refine V_iload C 0 14 dX3_changeUnlessRejected_12 rfl rfl ?_
  refine V_if_eq C 47 17 dX3_changeUnlessRejected_14 rfl rfl (fun e3 => ?_) (fun e3 => ?_)
  · have h := (if_pos e3).symm.trans h
    refine V_aload_n C 1 48 dX3_changeUnlessRejected_47 rfl rfl ?_
    refine V_get C (v := .ref A.2.2.2.2.1.1) 0 51 fl_X3_25 dX3_changeUnlessRejected_48 rfl rfl rfl ?_
    refine V_aload_n C 1 52 dX3_changeUnlessRejected_51 rfl rfl ?_
    refine V_get C (v := .ref A.2.1.1) 0 55 fl_X3_10 dX3_changeUnlessRejected_52 rfl rfl rfl ?_
    obtain ⟨r4, k5, h⟩ := bd_some h
    refine V_permc (ws2 := hsW g A.2.2.2.2.1 A.2.2.2.2.2.2.2 v.2.2.2.2.1 ++ (hbW g A.2.2.2.2.2.2.2 v.2.2.2.2.2.2.2 ++ (bkW g A.2.1 v.2.1 ++ (mgW A v.1 ++ (bkW g A.2.2.1 v.2.2.1 ++ (bkW g A.2.2.2.1 v.2.2.2.1 ++ (scW g A.2.2.2.2.2.1 v.2.2.2.2.2.1 ++ (sbW g A.2.2.2.2.2.2.1 v.2.2.2.2.2.2.1)))))))) [mgW A v.1, bkW g A.2.1 v.2.1, bkW g A.2.2.1 v.2.2.1, bkW g A.2.2.2.1 v.2.2.2.1, hsW g A.2.2.2.2.1 A.2.2.2.2.2.2.2 v.2.2.2.2.1, scW g A.2.2.2.2.2.1 v.2.2.2.2.2.1, sbW g A.2.2.2.2.2.2.1 v.2.2.2.2.2.2.1, hbW g A.2.2.2.2.2.2.2 v.2.2.2.2.2.2.2] [4, 7, 1, 0, 2, 3, 5, 6] 8 rfl rfl (by decide) rfl ?_
    refine V_callS C hBA ml_X3_75 (pre := []) (post := mgW A v.1 ++ (bkW g A.2.2.1 v.2.2.1 ++ (bkW g A.2.2.2.1 v.2.2.2.1 ++ (scW g A.2.2.2.2.2.1 v.2.2.2.2.2.1 ++ (sbW g A.2.2.2.2.2.2.1 v.2.2.2.2.2.2.1))))) (w0 := hsW g A.2.2.2.2.1 A.2.2.2.2.2.2.2 v.2.2.2.2.1 ++ (hbW g A.2.2.2.2.2.2.2 v.2.2.2.2.2.2.2 ++ (bkW g A.2.1 v.2.1))) (w1 := hsW g A.2.2.2.2.1 A.2.2.2.2.2.2.2 r4.2.1 ++ (hbW g A.2.2.2.2.2.2.2 r4.2.2.1 ++ (bkW g A.2.1 r4.2.2.2))) (as := [.ref A.2.1.1]) (rest := []) (c_X1_remember k5) 0 58 (hsW g A.2.2.2.2.1 A.2.2.2.2.2.2.2 r4.2.1 ++ (hbW g A.2.2.2.2.2.2.2 r4.2.2.1 ++ (bkW g A.2.1 r4.2.2.2 ++ (mgW A v.1 ++ (bkW g A.2.2.1 v.2.2.1 ++ (bkW g A.2.2.2.1 v.2.2.2.1 ++ (scW g A.2.2.2.2.2.1 v.2.2.2.2.2.1 ++ (sbW g A.2.2.2.2.2.2.1 v.2.2.2.2.2.2.1)))))))) dX3_changeUnlessRejected_55 rfl ⟨Nat.le_of_ble_eq_true rfl, Nat.le_of_ble_eq_true rfl⟩ rfl (by first | (simp only [List.append_assoc, List.nil_append, List.append_nil]; done) | rfl) (by first | (simp only [List.append_assoc, List.nil_append, List.append_nil]; done) | rfl) rfl rfl rfl rfl (Nat.le_of_ble_eq_true rfl) ⟨Nat.zero_le _, Nat.zero_le _⟩ ?_
    refine V_permc (ws2 := mgW A v.1 ++ (bkW g A.2.1 r4.2.2.2 ++ (bkW g A.2.2.1 v.2.2.1 ++ (bkW g A.2.2.2.1 v.2.2.2.1 ++ (hsW g A.2.2.2.2.1 A.2.2.2.2.2.2.2 r4.2.1 ++ (scW g A.2.2.2.2.2.1 v.2.2.2.2.2.1 ++ (sbW g A.2.2.2.2.2.2.1 v.2.2.2.2.2.2.1 ++ (hbW g A.2.2.2.2.2.2.2 r4.2.2.1)))))))) [hsW g A.2.2.2.2.1 A.2.2.2.2.2.2.2 r4.2.1, hbW g A.2.2.2.2.2.2.2 r4.2.2.1, bkW g A.2.1 r4.2.2.2, mgW A v.1, bkW g A.2.2.1 v.2.2.1, bkW g A.2.2.2.1 v.2.2.2.1, scW g A.2.2.2.2.2.1 v.2.2.2.2.2.1, sbW g A.2.2.2.2.2.2.1 v.2.2.2.2.2.2.1] [3, 2, 4, 5, 0, 6, 7, 1] 8 rfl rfl (by decide) rfl ?_
    refine V_aload_n C 1 59 dX3_changeUnlessRejected_58 rfl rfl ?_
    refine V_get C (v := .ref A.2.1.1) 0 62 fl_X3_10 dX3_changeUnlessRejected_59 rfl rfl rfl ?_
    refine V_iload_n C 2 63 dX3_changeUnlessRejected_62 rfl rfl ?_
    refine V_iload_n C 3 64 dX3_changeUnlessRejected_63 rfl rfl ?_
    refine V_iload_n C 4 65 dX3_changeUnlessRejected_64 rfl rfl ?_
    obtain ⟨r6, k7, h⟩ := bd_some h
    refine V_callS C hBA ml_X3_79 (pre := mgW A v.1) (post := bkW g A.2.2.1 v.2.2.1 ++ (bkW g A.2.2.2.1 v.2.2.2.1 ++ (hsW g A.2.2.2.2.1 A.2.2.2.2.2.2.2 r4.2.1 ++ (scW g A.2.2.2.2.2.1 v.2.2.2.2.2.1 ++ (sbW g A.2.2.2.2.2.2.1 v.2.2.2.2.2.2.1 ++ (hbW g A.2.2.2.2.2.2.2 r4.2.2.1)))))) (w0 := bkW g A.2.1 r4.2.2.2) (w1 := bkW g A.2.1 r6.2) (as := [.int a1, .int a2, .int a3]) (rest := []) (c_X0_carryOut k7) 1 68 (mgW A v.1 ++ (bkW g A.2.1 r6.2 ++ (bkW g A.2.2.1 v.2.2.1 ++ (bkW g A.2.2.2.1 v.2.2.2.1 ++ (hsW g A.2.2.2.2.1 A.2.2.2.2.2.2.2 r4.2.1 ++ (scW g A.2.2.2.2.2.1 v.2.2.2.2.2.1 ++ (sbW g A.2.2.2.2.2.2.1 v.2.2.2.2.2.2.1 ++ (hbW g A.2.2.2.2.2.2.2 r4.2.2.1)))))))) dX3_changeUnlessRejected_65 rfl ⟨Nat.le_of_ble_eq_true rfl, Nat.le_of_ble_eq_true rfl⟩ rfl (by first | (simp only [List.append_assoc, List.nil_append, List.append_nil]; done) | rfl) (by first | (simp only [List.append_assoc, List.nil_append, List.append_nil]; done) | rfl) rfl rfl rfl rfl (Nat.le_of_ble_eq_true rfl) ⟨Nat.zero_le _, Nat.zero_le _⟩ ?_
    obtain rfl := Option.some.inj h
    exact V_xretI C Z (ty := .int) rfl (rfl) rfl dX3_changeUnlessRejected_68 (Nat.le_refl _) (Nat.le_refl _)
  · have h := (if_neg e3).symm.trans h
    refine V_aload_n C 1 18 dX3_changeUnlessRejected_17 rfl rfl ?_
    refine V_iload C 0 20 dX3_changeUnlessRejected_18 rfl rfl ?_
    refine V_aload_n C 1 21 dX3_changeUnlessRejected_20 rfl rfl ?_
    refine V_get C (v := .ref A.2.1.1) 0 24 fl_X3_10 dX3_changeUnlessRejected_21 rfl rfl rfl ?_
    refine V_iload C 0 26 dX3_changeUnlessRejected_24 rfl rfl ?_
    refine V_iload_n C 2 27 dX3_changeUnlessRejected_26 rfl rfl ?_
    refine V_iload_n C 3 28 dX3_changeUnlessRejected_27 rfl rfl ?_
    refine V_iload_n C 4 29 dX3_changeUnlessRejected_28 rfl rfl ?_
    obtain ⟨r8, k9, h⟩ := bd_some h
    refine V_callP C ml_X3_362 (pre := mgW A v.1) (post := bkW g A.2.2.1 v.2.2.1 ++ (bkW g A.2.2.2.1 v.2.2.2.1 ++ (hsW g A.2.2.2.2.1 A.2.2.2.2.2.2.2 v.2.2.2.2.1 ++ (scW g A.2.2.2.2.2.1 v.2.2.2.2.2.1 ++ (sbW g A.2.2.2.2.2.2.1 v.2.2.2.2.2.2.1 ++ (hbW g A.2.2.2.2.2.2.2 v.2.2.2.2.2.2.2)))))) (w := bkW g A.2.1 v.2.1) (as := [.int r1, .int a1, .int a2, .int a3]) (rest := [.int r1, .ref A.1]) (c_X0_detailOf k9) 1 32 dX3_changeUnlessRejected_29 rfl ⟨Nat.le_of_ble_eq_true rfl, Nat.le_of_ble_eq_true rfl⟩ rfl (by first | (simp only [List.append_assoc, List.nil_append, List.append_nil]; done) | rfl) rfl rfl rfl (Nat.le_of_ble_eq_true rfl) ⟨Nat.zero_le _, Nat.zero_le _⟩ ?_
    refine V_iconst C (0 : Int32) 33 dX3_changeUnlessRejected_32 rfl rfl ?_
    obtain ⟨r10, k11, h⟩ := bd_some h
    refine V_callS C hBA ml_X3_301 (pre := []) (post := bkW g A.2.1 v.2.1 ++ (bkW g A.2.2.1 v.2.2.1 ++ (bkW g A.2.2.2.1 v.2.2.2.1 ++ (hsW g A.2.2.2.2.1 A.2.2.2.2.2.2.2 v.2.2.2.2.1 ++ (scW g A.2.2.2.2.2.1 v.2.2.2.2.2.1 ++ (sbW g A.2.2.2.2.2.2.1 v.2.2.2.2.2.2.1 ++ (hbW g A.2.2.2.2.2.2.2 v.2.2.2.2.2.2.2))))))) (w0 := mgW A v.1) (w1 := mgW A r10.2) (as := [.int r1, .int r8, .int (0 : Int32)]) (rest := []) (c_X3_noteRejection k11) 0 36 (mgW A r10.2 ++ (bkW g A.2.1 v.2.1 ++ (bkW g A.2.2.1 v.2.2.1 ++ (bkW g A.2.2.2.1 v.2.2.2.1 ++ (hsW g A.2.2.2.2.1 A.2.2.2.2.2.2.2 v.2.2.2.2.1 ++ (scW g A.2.2.2.2.2.1 v.2.2.2.2.2.1 ++ (sbW g A.2.2.2.2.2.2.1 v.2.2.2.2.2.2.1 ++ (hbW g A.2.2.2.2.2.2.2 v.2.2.2.2.2.2.2)))))))) dX3_changeUnlessRejected_33 rfl ⟨Nat.le_of_ble_eq_true rfl, Nat.le_of_ble_eq_true rfl⟩ rfl (by first | (simp only [List.append_assoc, List.nil_append, List.append_nil]; done) | rfl) (by first | (simp only [List.append_assoc, List.nil_append, List.append_nil]; done) | rfl) rfl rfl rfl rfl (Nat.le_of_ble_eq_true rfl) ⟨Nat.zero_le _, Nat.zero_le _⟩ ?_
    obtain rfl := Option.some.inj h
    exact V_throwW C Z tl_X3_305_309_366 dX3_changeUnlessRejected_36 dX3_changeUnlessRejected_39 dX3_changeUnlessRejected_40 dX3_changeUnlessRejected_43 dX3_changeUnlessRejected_46 ⟨Nat.le_of_ble_eq_true rfl, Nat.le_of_ble_eq_true rfl, Nat.le_refl _, Nat.le_refl _⟩ rfl (Nat.le_refl _) (Nat.le_refl _)
set_option maxHeartbeats 4000000 in
set_option maxRecDepth 100000 in
theorem c_X3_addRibbon {l : Launch} {D : va_G} {g : G0} {A : XA} {v : XV} {a1 a2 : Int32} {R : ((Int32 × XV) ⊕ (String × XV))} (hst : l.stackTraces = false) (h : f_X3_addRibbon v a1 a2 = some R) : CtX l D g yX3_addRibbon cX3_addRibbon 3 (some .int) (rmX 7 140 (rxI g A R)) (xW g A v) [.ref A.1, .int a1, .int a2] (rxI g A R) := by
  refine CtX.of (by decide) (Nat.le_of_ble_eq_true rfl) hst ?_
  intro K C Z hBA el eD ekn
  subst el
  subst eD
  have hE := Z.2.2.1
  have hlt : ∀ i, i < 3 → i < kn K := fun i h => by rw [ekn]; exact h
  show V K 0 0 _ [(0, .ref A.1), (1, .int a1), (2, .int a2)] [] 0
  unfold f_X3_addRibbon at h
  refine V_aload_n C 0 1 dX3_addRibbon_0 rfl rfl ?_
  refine V_iload_n C 1 2 dX3_addRibbon_1 rfl rfl ?_
  obtain ⟨r1, k2, h⟩ := bd_some h
  rcases r1 with r1 | r1
  · have h := bx_l h
    refine V_callXr C hBA hE ml_X3_60 (pre := []) (post := []) (wc := xW g A v) (as := [.int a1]) (rest := []) (w1 := xW g A r1.2) (rv := none) (c_X3_requirePage hst k2) 0 5 (mgW A r1.2.1 ++ (bkW g A.2.1 r1.2.2.1 ++ (bkW g A.2.2.1 r1.2.2.2.1 ++ (bkW g A.2.2.2.1 r1.2.2.2.2.1 ++ (hsW g A.2.2.2.2.1 A.2.2.2.2.2.2.2 r1.2.2.2.2.2.1 ++ (scW g A.2.2.2.2.2.1 r1.2.2.2.2.2.2.1 ++ (sbW g A.2.2.2.2.2.2.1 r1.2.2.2.2.2.2.2.1 ++ (hbW g A.2.2.2.2.2.2.2 r1.2.2.2.2.2.2.2.2)))))))) dX3_addRibbon_2 rfl ⟨Nat.le_of_ble_eq_true rfl, Nat.le_of_ble_eq_true rfl⟩ rfl (List.append_nil _).symm (List.append_nil _) (xW_fst _ _ _ _) rfl rfl rfl (Nat.le_of_ble_eq_true rfl) ⟨Nat.zero_le _, Nat.zero_le _⟩ ?_
    refine V_aload_n C 0 6 dX3_addRibbon_5 rfl rfl ?_
    refine V_iload_n C 2 7 dX3_addRibbon_6 rfl rfl ?_
    obtain ⟨r3, k4, h⟩ := bd_some h
    rcases r3 with r3 | r3
    · have h := bx_l h
      refine V_callXr C hBA hE ml_X3_64 (pre := []) (post := []) (wc := xW g A r1.2) (as := [.int a2]) (rest := []) (w1 := xW g A r3.2) (rv := none) (c_X3_requireWeight hst k4) 0 10 (mgW A r3.2.1 ++ (bkW g A.2.1 r3.2.2.1 ++ (bkW g A.2.2.1 r3.2.2.2.1 ++ (bkW g A.2.2.2.1 r3.2.2.2.2.1 ++ (hsW g A.2.2.2.2.1 A.2.2.2.2.2.2.2 r3.2.2.2.2.2.1 ++ (scW g A.2.2.2.2.2.1 r3.2.2.2.2.2.2.1 ++ (sbW g A.2.2.2.2.2.2.1 r3.2.2.2.2.2.2.2.1 ++ (hbW g A.2.2.2.2.2.2.2 r3.2.2.2.2.2.2.2.2)))))))) dX3_addRibbon_7 rfl ⟨Nat.le_of_ble_eq_true rfl, Nat.le_of_ble_eq_true rfl⟩ rfl (List.append_nil _).symm (List.append_nil _) (xW_fst _ _ _ _) rfl rfl rfl (Nat.le_of_ble_eq_true rfl) ⟨Nat.zero_le _, Nat.zero_le _⟩ ?_
      refine V_aload_n C 0 11 dX3_addRibbon_10 rfl rfl ?_
      refine V_bipush C (82 : Int32) 13 dX3_addRibbon_11 rfl rfl ?_
      refine V_iload_n C 1 14 dX3_addRibbon_13 rfl rfl ?_
      refine V_iload_n C 2 15 dX3_addRibbon_14 rfl rfl ?_
      obtain ⟨r5, k6, h⟩ := bd_some h
      rcases r5 with r5 | r5
      · have h := bx_l h
        refine V_callXr C hBA hE ml_X3_67 (pre := []) (post := []) (wc := xW g A r3.2) (as := [.int (82 : Int32), .int a1, .int a2]) (rest := []) (w1 := xW g A r5.2) (rv := (some (.int r5.1))) (c_X3_changeUnlessRejected hst k6) 0 18 (mgW A r5.2.1 ++ (bkW g A.2.1 r5.2.2.1 ++ (bkW g A.2.2.1 r5.2.2.2.1 ++ (bkW g A.2.2.2.1 r5.2.2.2.2.1 ++ (hsW g A.2.2.2.2.1 A.2.2.2.2.2.2.2 r5.2.2.2.2.2.1 ++ (scW g A.2.2.2.2.2.1 r5.2.2.2.2.2.2.1 ++ (sbW g A.2.2.2.2.2.2.1 r5.2.2.2.2.2.2.2.1 ++ (hbW g A.2.2.2.2.2.2.2 r5.2.2.2.2.2.2.2.2)))))))) dX3_addRibbon_15 rfl ⟨Nat.le_of_ble_eq_true rfl, Nat.le_of_ble_eq_true rfl⟩ rfl (List.append_nil _).symm (List.append_nil _) (xW_fst _ _ _ _) rfl rfl rfl (Nat.le_of_ble_eq_true rfl) ⟨Nat.zero_le _, Nat.zero_le _⟩ ?_
        obtain rfl := Option.some.inj h
        exact V_xretI C Z (ty := .int) rfl (rfl) rfl dX3_addRibbon_18 (Nat.le_refl _) (Nat.le_refl _)
      · have h := bx_r h
        obtain rfl := Option.some.inj h
        refine V_callXt C hBA hE ml_X3_67 (pre := []) (post := []) (wc := xW g A r3.2) (as := [.int (82 : Int32), .int a1, .int a2]) (rest := []) (w1 := xW g A r5.2) (E := r5.1) (c_X3_changeUnlessRejected hst k6) 0 (xW g A r5.2) dX3_addRibbon_15 ⟨Nat.le_of_ble_eq_true rfl, Nat.le_of_ble_eq_true rfl⟩ rfl (List.append_nil _).symm (List.append_nil _) (xW_fst _ _ _ _) rfl rfl (Nat.le_of_ble_eq_true rfl) ⟨Nat.le_refl _, Nat.le_refl _⟩ ?_
        exact VX_out C Z rfl (Nat.le_refl _) (Nat.le_refl _)
    · have h := bx_r h
      obtain rfl := Option.some.inj h
      refine V_callXt C hBA hE ml_X3_64 (pre := []) (post := []) (wc := xW g A r1.2) (as := [.int a2]) (rest := []) (w1 := xW g A r3.2) (E := r3.1) (c_X3_requireWeight hst k4) 0 (xW g A r3.2) dX3_addRibbon_7 ⟨Nat.le_of_ble_eq_true rfl, Nat.le_of_ble_eq_true rfl⟩ rfl (List.append_nil _).symm (List.append_nil _) (xW_fst _ _ _ _) rfl rfl (Nat.le_of_ble_eq_true rfl) ⟨Nat.le_refl _, Nat.le_refl _⟩ ?_
      exact VX_out C Z rfl (Nat.le_refl _) (Nat.le_refl _)
  · have h := bx_r h
    obtain rfl := Option.some.inj h
    refine V_callXt C hBA hE ml_X3_60 (pre := []) (post := []) (wc := xW g A v) (as := [.int a1]) (rest := []) (w1 := xW g A r1.2) (E := r1.1) (c_X3_requirePage hst k2) 0 (xW g A r1.2) dX3_addRibbon_2 ⟨Nat.le_of_ble_eq_true rfl, Nat.le_of_ble_eq_true rfl⟩ rfl (List.append_nil _).symm (List.append_nil _) (xW_fst _ _ _ _) rfl rfl (Nat.le_of_ble_eq_true rfl) ⟨Nat.le_refl _, Nat.le_refl _⟩ ?_
    exact VX_out C Z rfl (Nat.le_refl _) (Nat.le_refl _)
set_option maxHeartbeats 4000000 in
set_option maxRecDepth 100000 in
theorem c_X3_addDogEar {l : Launch} {D : va_G} {g : G0} {A : XA} {v : XV} {a1 a2 : Int32} {R : ((Int32 × XV) ⊕ (String × XV))} (hst : l.stackTraces = false) (h : f_X3_addDogEar v a1 a2 = some R) : CtX l D g yX3_addDogEar cX3_addDogEar 3 (some .int) (rmX 7 140 (rxI g A R)) (xW g A v) [.ref A.1, .int a1, .int a2] (rxI g A R) := by
  refine CtX.of (by decide) (Nat.le_of_ble_eq_true rfl) hst ?_
  intro K C Z hBA el eD ekn
  subst el
  subst eD
  have hE := Z.2.2.1
  have hlt : ∀ i, i < 3 → i < kn K := fun i h => by rw [ekn]; exact h
  show V K 0 0 _ [(0, .ref A.1), (1, .int a1), (2, .int a2)] [] 0
  unfold f_X3_addDogEar at h
  refine V_aload_n C 0 1 dX3_addDogEar_0 rfl rfl ?_
  refine V_iload_n C 1 2 dX3_addDogEar_1 rfl rfl ?_
  obtain ⟨r1, k2, h⟩ := bd_some h
  rcases r1 with r1 | r1
  · have h := bx_l h
    refine V_callXr C hBA hE ml_X3_60 (pre := []) (post := []) (wc := xW g A v) (as := [.int a1]) (rest := []) (w1 := xW g A r1.2) (rv := none) (c_X3_requirePage hst k2) 0 5 (mgW A r1.2.1 ++ (bkW g A.2.1 r1.2.2.1 ++ (bkW g A.2.2.1 r1.2.2.2.1 ++ (bkW g A.2.2.2.1 r1.2.2.2.2.1 ++ (hsW g A.2.2.2.2.1 A.2.2.2.2.2.2.2 r1.2.2.2.2.2.1 ++ (scW g A.2.2.2.2.2.1 r1.2.2.2.2.2.2.1 ++ (sbW g A.2.2.2.2.2.2.1 r1.2.2.2.2.2.2.2.1 ++ (hbW g A.2.2.2.2.2.2.2 r1.2.2.2.2.2.2.2.2)))))))) dX3_addDogEar_2 rfl ⟨Nat.le_of_ble_eq_true rfl, Nat.le_of_ble_eq_true rfl⟩ rfl (List.append_nil _).symm (List.append_nil _) (xW_fst _ _ _ _) rfl rfl rfl (Nat.le_of_ble_eq_true rfl) ⟨Nat.zero_le _, Nat.zero_le _⟩ ?_
    refine V_aload_n C 0 6 dX3_addDogEar_5 rfl rfl ?_
    refine V_iload_n C 2 7 dX3_addDogEar_6 rfl rfl ?_
    obtain ⟨r3, k4, h⟩ := bd_some h
    rcases r3 with r3 | r3
    · have h := bx_l h
      refine V_callXr C hBA hE ml_X3_64 (pre := []) (post := []) (wc := xW g A r1.2) (as := [.int a2]) (rest := []) (w1 := xW g A r3.2) (rv := none) (c_X3_requireWeight hst k4) 0 10 (mgW A r3.2.1 ++ (bkW g A.2.1 r3.2.2.1 ++ (bkW g A.2.2.1 r3.2.2.2.1 ++ (bkW g A.2.2.2.1 r3.2.2.2.2.1 ++ (hsW g A.2.2.2.2.1 A.2.2.2.2.2.2.2 r3.2.2.2.2.2.1 ++ (scW g A.2.2.2.2.2.1 r3.2.2.2.2.2.2.1 ++ (sbW g A.2.2.2.2.2.2.1 r3.2.2.2.2.2.2.2.1 ++ (hbW g A.2.2.2.2.2.2.2 r3.2.2.2.2.2.2.2.2)))))))) dX3_addDogEar_7 rfl ⟨Nat.le_of_ble_eq_true rfl, Nat.le_of_ble_eq_true rfl⟩ rfl (List.append_nil _).symm (List.append_nil _) (xW_fst _ _ _ _) rfl rfl rfl (Nat.le_of_ble_eq_true rfl) ⟨Nat.zero_le _, Nat.zero_le _⟩ ?_
      refine V_aload_n C 0 11 dX3_addDogEar_10 rfl rfl ?_
      refine V_bipush C (69 : Int32) 13 dX3_addDogEar_11 rfl rfl ?_
      refine V_iload_n C 1 14 dX3_addDogEar_13 rfl rfl ?_
      refine V_iload_n C 2 15 dX3_addDogEar_14 rfl rfl ?_
      obtain ⟨r5, k6, h⟩ := bd_some h
      rcases r5 with r5 | r5
      · have h := bx_l h
        refine V_callXr C hBA hE ml_X3_67 (pre := []) (post := []) (wc := xW g A r3.2) (as := [.int (69 : Int32), .int a1, .int a2]) (rest := []) (w1 := xW g A r5.2) (rv := (some (.int r5.1))) (c_X3_changeUnlessRejected hst k6) 0 18 (mgW A r5.2.1 ++ (bkW g A.2.1 r5.2.2.1 ++ (bkW g A.2.2.1 r5.2.2.2.1 ++ (bkW g A.2.2.2.1 r5.2.2.2.2.1 ++ (hsW g A.2.2.2.2.1 A.2.2.2.2.2.2.2 r5.2.2.2.2.2.1 ++ (scW g A.2.2.2.2.2.1 r5.2.2.2.2.2.2.1 ++ (sbW g A.2.2.2.2.2.2.1 r5.2.2.2.2.2.2.2.1 ++ (hbW g A.2.2.2.2.2.2.2 r5.2.2.2.2.2.2.2.2)))))))) dX3_addDogEar_15 rfl ⟨Nat.le_of_ble_eq_true rfl, Nat.le_of_ble_eq_true rfl⟩ rfl (List.append_nil _).symm (List.append_nil _) (xW_fst _ _ _ _) rfl rfl rfl (Nat.le_of_ble_eq_true rfl) ⟨Nat.zero_le _, Nat.zero_le _⟩ ?_
        obtain rfl := Option.some.inj h
        exact V_xretI C Z (ty := .int) rfl (rfl) rfl dX3_addDogEar_18 (Nat.le_refl _) (Nat.le_refl _)
      · have h := bx_r h
        obtain rfl := Option.some.inj h
        refine V_callXt C hBA hE ml_X3_67 (pre := []) (post := []) (wc := xW g A r3.2) (as := [.int (69 : Int32), .int a1, .int a2]) (rest := []) (w1 := xW g A r5.2) (E := r5.1) (c_X3_changeUnlessRejected hst k6) 0 (xW g A r5.2) dX3_addDogEar_15 ⟨Nat.le_of_ble_eq_true rfl, Nat.le_of_ble_eq_true rfl⟩ rfl (List.append_nil _).symm (List.append_nil _) (xW_fst _ _ _ _) rfl rfl (Nat.le_of_ble_eq_true rfl) ⟨Nat.le_refl _, Nat.le_refl _⟩ ?_
        exact VX_out C Z rfl (Nat.le_refl _) (Nat.le_refl _)
    · have h := bx_r h
      obtain rfl := Option.some.inj h
      refine V_callXt C hBA hE ml_X3_64 (pre := []) (post := []) (wc := xW g A r1.2) (as := [.int a2]) (rest := []) (w1 := xW g A r3.2) (E := r3.1) (c_X3_requireWeight hst k4) 0 (xW g A r3.2) dX3_addDogEar_7 ⟨Nat.le_of_ble_eq_true rfl, Nat.le_of_ble_eq_true rfl⟩ rfl (List.append_nil _).symm (List.append_nil _) (xW_fst _ _ _ _) rfl rfl (Nat.le_of_ble_eq_true rfl) ⟨Nat.le_refl _, Nat.le_refl _⟩ ?_
      exact VX_out C Z rfl (Nat.le_refl _) (Nat.le_refl _)
  · have h := bx_r h
    obtain rfl := Option.some.inj h
    refine V_callXt C hBA hE ml_X3_60 (pre := []) (post := []) (wc := xW g A v) (as := [.int a1]) (rest := []) (w1 := xW g A r1.2) (E := r1.1) (c_X3_requirePage hst k2) 0 (xW g A r1.2) dX3_addDogEar_2 ⟨Nat.le_of_ble_eq_true rfl, Nat.le_of_ble_eq_true rfl⟩ rfl (List.append_nil _).symm (List.append_nil _) (xW_fst _ _ _ _) rfl rfl (Nat.le_of_ble_eq_true rfl) ⟨Nat.le_refl _, Nat.le_refl _⟩ ?_
    exact VX_out C Z rfl (Nat.le_refl _) (Nat.le_refl _)
set_option maxHeartbeats 4000000 in
set_option maxRecDepth 100000 in
theorem c_X3_requireMark {l : Launch} {D : va_G} {g : G0} {A : XA} {v : XV} {a1 : Int32} {R : ((Int32 × XV) ⊕ (String × XV))} (hst : l.stackTraces = false) (h : f_X3_requireMark v a1 = some R) : CtX l D g yX3_requireMark cX3_requireMark 3 (some .int) (rmX 6 90 (rxI g A R)) (xW g A v) [.ref A.1, .int a1] (rxI g A R) := by
  refine CtX.of (by decide) (Nat.le_of_ble_eq_true rfl) hst ?_
  intro K C Z hBA el eD ekn
  subst el
  subst eD
  have hE := Z.2.2.1
  have hlt : ∀ i, i < 3 → i < kn K := fun i h => by rw [ekn]; exact h
  show V K 0 0 _ [(0, .ref A.1), (1, .int a1)] [] 0
  unfold f_X3_requireMark at h
  refine V_aload_n C 0 1 dX3_requireMark_0 rfl rfl ?_
  refine V_get C (v := .ref A.2.1.1) 0 4 fl_X3_10 dX3_requireMark_1 rfl rfl rfl ?_
  refine V_iload_n C 1 5 dX3_requireMark_4 rfl rfl ?_
  obtain ⟨r1, k2, h⟩ := bd_some h
  refine V_callP C ml_X3_350 (pre := mgW A v.1) (post := bkW g A.2.2.1 v.2.2.1 ++ (bkW g A.2.2.2.1 v.2.2.2.1 ++ (hsW g A.2.2.2.2.1 A.2.2.2.2.2.2.2 v.2.2.2.2.1 ++ (scW g A.2.2.2.2.2.1 v.2.2.2.2.2.1 ++ (sbW g A.2.2.2.2.2.2.1 v.2.2.2.2.2.2.1 ++ (hbW g A.2.2.2.2.2.2.2 v.2.2.2.2.2.2.2)))))) (w := bkW g A.2.1 v.2.1) (as := [.int a1]) (rest := []) (c_X0_slotWithId k2) 1 8 dX3_requireMark_5 rfl ⟨Nat.le_of_ble_eq_true rfl, Nat.le_of_ble_eq_true rfl⟩ rfl (by first | (simp only [List.append_assoc, List.nil_append, List.append_nil]; done) | rfl) rfl rfl rfl (Nat.le_of_ble_eq_true rfl) ⟨Nat.zero_le _, Nat.zero_le _⟩ ?_
  refine V_istore_n C 9 [(2, .int r1), (0, .ref A.1), (1, .int a1)] dX3_requireMark_8 rfl (hlt 2 (by decide)) rfl ?_
  refine V_iload_n C 0 10 dX3_requireMark_9 rfl rfl ?_
  refine V_iconst C (-1 : Int32) 11 dX3_requireMark_10 rfl rfl ?_
  refine V_icmp_ne C 25 14 dX3_requireMark_11 rfl rfl (fun e3 => ?_) (fun e3 => ?_)
  · have h := (if_neg e3).symm.trans h
    refine V_iload_n C 0 26 dX3_requireMark_25 rfl rfl ?_
    obtain rfl := Option.some.inj h
    exact V_xretI C Z (ty := .int) rfl (rfl) rfl dX3_requireMark_26 (Nat.le_refl _) (Nat.le_refl _)
  · have h := (if_pos e3).symm.trans h
    obtain rfl := Option.some.inj h
    exact V_throwW C Z tl_X3_106_110_353 dX3_requireMark_14 dX3_requireMark_17 dX3_requireMark_18 dX3_requireMark_21 dX3_requireMark_24 ⟨Nat.le_of_ble_eq_true rfl, Nat.le_of_ble_eq_true rfl, Nat.le_refl _, Nat.le_refl _⟩ rfl (Nat.le_refl _) (Nat.le_refl _)
set_option maxHeartbeats 4000000 in
set_option maxRecDepth 100000 in
theorem c_X3_removeMark {l : Launch} {D : va_G} {g : G0} {A : XA} {v : XV} {a1 : Int32} {R : ((Int32 × XV) ⊕ (String × XV))} (hst : l.stackTraces = false) (h : f_X3_removeMark v a1 = some R) : CtX l D g yX3_removeMark cX3_removeMark 2 (some .int) (rmX 7 116 (rxI g A R)) (xW g A v) [.ref A.1, .int a1] (rxI g A R) := by
  refine CtX.of (by decide) (Nat.le_of_ble_eq_true rfl) hst ?_
  intro K C Z hBA el eD ekn
  subst el
  subst eD
  have hE := Z.2.2.1
  have hlt : ∀ i, i < 2 → i < kn K := fun i h => by rw [ekn]; exact h
  show V K 0 0 _ [(0, .ref A.1), (1, .int a1)] [] 0
  unfold f_X3_removeMark at h
  refine V_aload_n C 0 1 dX3_removeMark_0 rfl rfl ?_
  refine V_iload_n C 1 2 dX3_removeMark_1 rfl rfl ?_
  obtain ⟨r1, k2, h⟩ := bd_some h
  rcases r1 with r1 | r1
  · have h := bx_l h
    refine V_callXr C hBA hE ml_X3_71 (pre := []) (post := []) (wc := xW g A v) (as := [.int a1]) (rest := []) (w1 := xW g A r1.2) (rv := (some (.int r1.1))) (c_X3_requireMark hst k2) 0 5 (mgW A r1.2.1 ++ (bkW g A.2.1 r1.2.2.1 ++ (bkW g A.2.2.1 r1.2.2.2.1 ++ (bkW g A.2.2.2.1 r1.2.2.2.2.1 ++ (hsW g A.2.2.2.2.1 A.2.2.2.2.2.2.2 r1.2.2.2.2.2.1 ++ (scW g A.2.2.2.2.2.1 r1.2.2.2.2.2.2.1 ++ (sbW g A.2.2.2.2.2.2.1 r1.2.2.2.2.2.2.2.1 ++ (hbW g A.2.2.2.2.2.2.2 r1.2.2.2.2.2.2.2.2)))))))) dX3_removeMark_2 rfl ⟨Nat.le_of_ble_eq_true rfl, Nat.le_of_ble_eq_true rfl⟩ rfl (List.append_nil _).symm (List.append_nil _) (xW_fst _ _ _ _) rfl rfl rfl (Nat.le_of_ble_eq_true rfl) ⟨Nat.zero_le _, Nat.zero_le _⟩ ?_
    refine V_pop C 6 dX3_removeMark_5 rfl rfl ?_
    refine V_aload_n C 0 7 dX3_removeMark_6 rfl rfl ?_
    refine V_get C (v := .ref A.2.2.2.2.1.1) 0 10 fl_X3_25 dX3_removeMark_7 rfl rfl rfl ?_
    refine V_aload_n C 0 11 dX3_removeMark_10 rfl rfl ?_
    refine V_get C (v := .ref A.2.1.1) 0 14 fl_X3_10 dX3_removeMark_11 rfl rfl rfl ?_
    obtain ⟨r3, k4, h⟩ := bd_some h
    refine V_permc (ws2 := hsW g A.2.2.2.2.1 A.2.2.2.2.2.2.2 r1.2.2.2.2.2.1 ++ (hbW g A.2.2.2.2.2.2.2 r1.2.2.2.2.2.2.2.2 ++ (bkW g A.2.1 r1.2.2.1 ++ (mgW A r1.2.1 ++ (bkW g A.2.2.1 r1.2.2.2.1 ++ (bkW g A.2.2.2.1 r1.2.2.2.2.1 ++ (scW g A.2.2.2.2.2.1 r1.2.2.2.2.2.2.1 ++ (sbW g A.2.2.2.2.2.2.1 r1.2.2.2.2.2.2.2.1)))))))) [mgW A r1.2.1, bkW g A.2.1 r1.2.2.1, bkW g A.2.2.1 r1.2.2.2.1, bkW g A.2.2.2.1 r1.2.2.2.2.1, hsW g A.2.2.2.2.1 A.2.2.2.2.2.2.2 r1.2.2.2.2.2.1, scW g A.2.2.2.2.2.1 r1.2.2.2.2.2.2.1, sbW g A.2.2.2.2.2.2.1 r1.2.2.2.2.2.2.2.1, hbW g A.2.2.2.2.2.2.2 r1.2.2.2.2.2.2.2.2] [4, 7, 1, 0, 2, 3, 5, 6] 8 rfl rfl (by decide) rfl ?_
    refine V_callS C hBA ml_X3_75 (pre := []) (post := mgW A r1.2.1 ++ (bkW g A.2.2.1 r1.2.2.2.1 ++ (bkW g A.2.2.2.1 r1.2.2.2.2.1 ++ (scW g A.2.2.2.2.2.1 r1.2.2.2.2.2.2.1 ++ (sbW g A.2.2.2.2.2.2.1 r1.2.2.2.2.2.2.2.1))))) (w0 := hsW g A.2.2.2.2.1 A.2.2.2.2.2.2.2 r1.2.2.2.2.2.1 ++ (hbW g A.2.2.2.2.2.2.2 r1.2.2.2.2.2.2.2.2 ++ (bkW g A.2.1 r1.2.2.1))) (w1 := hsW g A.2.2.2.2.1 A.2.2.2.2.2.2.2 r3.2.1 ++ (hbW g A.2.2.2.2.2.2.2 r3.2.2.1 ++ (bkW g A.2.1 r3.2.2.2))) (as := [.ref A.2.1.1]) (rest := []) (c_X1_remember k4) 0 17 (hsW g A.2.2.2.2.1 A.2.2.2.2.2.2.2 r3.2.1 ++ (hbW g A.2.2.2.2.2.2.2 r3.2.2.1 ++ (bkW g A.2.1 r3.2.2.2 ++ (mgW A r1.2.1 ++ (bkW g A.2.2.1 r1.2.2.2.1 ++ (bkW g A.2.2.2.1 r1.2.2.2.2.1 ++ (scW g A.2.2.2.2.2.1 r1.2.2.2.2.2.2.1 ++ (sbW g A.2.2.2.2.2.2.1 r1.2.2.2.2.2.2.2.1)))))))) dX3_removeMark_14 rfl ⟨Nat.le_of_ble_eq_true rfl, Nat.le_of_ble_eq_true rfl⟩ rfl (by first | (simp only [List.append_assoc, List.nil_append, List.append_nil]; done) | rfl) (by first | (simp only [List.append_assoc, List.nil_append, List.append_nil]; done) | rfl) rfl rfl rfl rfl (Nat.le_of_ble_eq_true rfl) ⟨Nat.zero_le _, Nat.zero_le _⟩ ?_
    refine V_permc (ws2 := mgW A r1.2.1 ++ (bkW g A.2.1 r3.2.2.2 ++ (bkW g A.2.2.1 r1.2.2.2.1 ++ (bkW g A.2.2.2.1 r1.2.2.2.2.1 ++ (hsW g A.2.2.2.2.1 A.2.2.2.2.2.2.2 r3.2.1 ++ (scW g A.2.2.2.2.2.1 r1.2.2.2.2.2.2.1 ++ (sbW g A.2.2.2.2.2.2.1 r1.2.2.2.2.2.2.2.1 ++ (hbW g A.2.2.2.2.2.2.2 r3.2.2.1)))))))) [hsW g A.2.2.2.2.1 A.2.2.2.2.2.2.2 r3.2.1, hbW g A.2.2.2.2.2.2.2 r3.2.2.1, bkW g A.2.1 r3.2.2.2, mgW A r1.2.1, bkW g A.2.2.1 r1.2.2.2.1, bkW g A.2.2.2.1 r1.2.2.2.2.1, scW g A.2.2.2.2.2.1 r1.2.2.2.2.2.2.1, sbW g A.2.2.2.2.2.2.1 r1.2.2.2.2.2.2.2.1] [3, 2, 4, 5, 0, 6, 7, 1] 8 rfl rfl (by decide) rfl ?_
    refine V_aload_n C 0 18 dX3_removeMark_17 rfl rfl ?_
    refine V_get C (v := .ref A.2.1.1) 0 21 fl_X3_10 dX3_removeMark_18 rfl rfl rfl ?_
    refine V_bipush C (88 : Int32) 23 dX3_removeMark_21 rfl rfl ?_
    refine V_iload_n C 1 24 dX3_removeMark_23 rfl rfl ?_
    refine V_iconst C (0 : Int32) 25 dX3_removeMark_24 rfl rfl ?_
    obtain ⟨r5, k6, h⟩ := bd_some h
    refine V_callS C hBA ml_X3_79 (pre := mgW A r1.2.1) (post := bkW g A.2.2.1 r1.2.2.2.1 ++ (bkW g A.2.2.2.1 r1.2.2.2.2.1 ++ (hsW g A.2.2.2.2.1 A.2.2.2.2.2.2.2 r3.2.1 ++ (scW g A.2.2.2.2.2.1 r1.2.2.2.2.2.2.1 ++ (sbW g A.2.2.2.2.2.2.1 r1.2.2.2.2.2.2.2.1 ++ (hbW g A.2.2.2.2.2.2.2 r3.2.2.1)))))) (w0 := bkW g A.2.1 r3.2.2.2) (w1 := bkW g A.2.1 r5.2) (as := [.int (88 : Int32), .int a1, .int (0 : Int32)]) (rest := []) (c_X0_carryOut k6) 1 28 (mgW A r1.2.1 ++ (bkW g A.2.1 r5.2 ++ (bkW g A.2.2.1 r1.2.2.2.1 ++ (bkW g A.2.2.2.1 r1.2.2.2.2.1 ++ (hsW g A.2.2.2.2.1 A.2.2.2.2.2.2.2 r3.2.1 ++ (scW g A.2.2.2.2.2.1 r1.2.2.2.2.2.2.1 ++ (sbW g A.2.2.2.2.2.2.1 r1.2.2.2.2.2.2.2.1 ++ (hbW g A.2.2.2.2.2.2.2 r3.2.2.1)))))))) dX3_removeMark_25 rfl ⟨Nat.le_of_ble_eq_true rfl, Nat.le_of_ble_eq_true rfl⟩ rfl (by first | (simp only [List.append_assoc, List.nil_append, List.append_nil]; done) | rfl) (by first | (simp only [List.append_assoc, List.nil_append, List.append_nil]; done) | rfl) rfl rfl rfl rfl (Nat.le_of_ble_eq_true rfl) ⟨Nat.zero_le _, Nat.zero_le _⟩ ?_
    obtain rfl := Option.some.inj h
    exact V_xretI C Z (ty := .int) rfl (rfl) rfl dX3_removeMark_28 (Nat.le_refl _) (Nat.le_refl _)
  · have h := bx_r h
    obtain rfl := Option.some.inj h
    refine V_callXt C hBA hE ml_X3_71 (pre := []) (post := []) (wc := xW g A v) (as := [.int a1]) (rest := []) (w1 := xW g A r1.2) (E := r1.1) (c_X3_requireMark hst k2) 0 (xW g A r1.2) dX3_removeMark_2 ⟨Nat.le_of_ble_eq_true rfl, Nat.le_of_ble_eq_true rfl⟩ rfl (List.append_nil _).symm (List.append_nil _) (xW_fst _ _ _ _) rfl rfl (Nat.le_of_ble_eq_true rfl) ⟨Nat.le_refl _, Nat.le_refl _⟩ ?_
    exact VX_out C Z rfl (Nat.le_refl _) (Nat.le_refl _)
set_option maxHeartbeats 4000000 in
set_option maxRecDepth 100000 in
theorem c_X3_moveRibbon {l : Launch} {D : va_G} {g : G0} {A : XA} {v : XV} {a1 a2 : Int32} {R : ((Int32 × XV) ⊕ (String × XV))} (hst : l.stackTraces = false) (h : f_X3_moveRibbon v a1 a2 = some R) : CtX l D g yX3_moveRibbon cX3_moveRibbon 3 (some .int) (rmX 7 140 (rxI g A R)) (xW g A v) [.ref A.1, .int a1, .int a2] (rxI g A R) := by
  refine CtX.of (by decide) (Nat.le_of_ble_eq_true rfl) hst ?_
  intro K C Z hBA el eD ekn
  subst el
  subst eD
  have hE := Z.2.2.1
  have hlt : ∀ i, i < 3 → i < kn K := fun i h => by rw [ekn]; exact h
  show V K 0 0 _ [(0, .ref A.1), (1, .int a1), (2, .int a2)] [] 0
  unfold f_X3_moveRibbon at h
  refine V_aload_n C 0 1 dX3_moveRibbon_0 rfl rfl ?_
  refine V_iload_n C 1 2 dX3_moveRibbon_1 rfl rfl ?_
  obtain ⟨r1, k2, h⟩ := bd_some h
  rcases r1 with r1 | r1
  · have h := bx_l h
    refine V_callXr C hBA hE ml_X3_71 (pre := []) (post := []) (wc := xW g A v) (as := [.int a1]) (rest := []) (w1 := xW g A r1.2) (rv := (some (.int r1.1))) (c_X3_requireMark hst k2) 0 5 (mgW A r1.2.1 ++ (bkW g A.2.1 r1.2.2.1 ++ (bkW g A.2.2.1 r1.2.2.2.1 ++ (bkW g A.2.2.2.1 r1.2.2.2.2.1 ++ (hsW g A.2.2.2.2.1 A.2.2.2.2.2.2.2 r1.2.2.2.2.2.1 ++ (scW g A.2.2.2.2.2.1 r1.2.2.2.2.2.2.1 ++ (sbW g A.2.2.2.2.2.2.1 r1.2.2.2.2.2.2.2.1 ++ (hbW g A.2.2.2.2.2.2.2 r1.2.2.2.2.2.2.2.2)))))))) dX3_moveRibbon_2 rfl ⟨Nat.le_of_ble_eq_true rfl, Nat.le_of_ble_eq_true rfl⟩ rfl (List.append_nil _).symm (List.append_nil _) (xW_fst _ _ _ _) rfl rfl rfl (Nat.le_of_ble_eq_true rfl) ⟨Nat.zero_le _, Nat.zero_le _⟩ ?_
    refine V_pop C 6 dX3_moveRibbon_5 rfl rfl ?_
    refine V_aload_n C 0 7 dX3_moveRibbon_6 rfl rfl ?_
    refine V_iload_n C 2 8 dX3_moveRibbon_7 rfl rfl ?_
    obtain ⟨r3, k4, h⟩ := bd_some h
    rcases r3 with r3 | r3
    · have h := bx_l h
      refine V_callXr C hBA hE ml_X3_60 (pre := []) (post := []) (wc := xW g A r1.2) (as := [.int a2]) (rest := []) (w1 := xW g A r3.2) (rv := none) (c_X3_requirePage hst k4) 0 11 (mgW A r3.2.1 ++ (bkW g A.2.1 r3.2.2.1 ++ (bkW g A.2.2.1 r3.2.2.2.1 ++ (bkW g A.2.2.2.1 r3.2.2.2.2.1 ++ (hsW g A.2.2.2.2.1 A.2.2.2.2.2.2.2 r3.2.2.2.2.2.1 ++ (scW g A.2.2.2.2.2.1 r3.2.2.2.2.2.2.1 ++ (sbW g A.2.2.2.2.2.2.1 r3.2.2.2.2.2.2.2.1 ++ (hbW g A.2.2.2.2.2.2.2 r3.2.2.2.2.2.2.2.2)))))))) dX3_moveRibbon_8 rfl ⟨Nat.le_of_ble_eq_true rfl, Nat.le_of_ble_eq_true rfl⟩ rfl (List.append_nil _).symm (List.append_nil _) (xW_fst _ _ _ _) rfl rfl rfl (Nat.le_of_ble_eq_true rfl) ⟨Nat.zero_le _, Nat.zero_le _⟩ ?_
      refine V_aload_n C 0 12 dX3_moveRibbon_11 rfl rfl ?_
      refine V_bipush C (77 : Int32) 14 dX3_moveRibbon_12 rfl rfl ?_
      refine V_iload_n C 1 15 dX3_moveRibbon_14 rfl rfl ?_
      refine V_iload_n C 2 16 dX3_moveRibbon_15 rfl rfl ?_
      obtain ⟨r5, k6, h⟩ := bd_some h
      rcases r5 with r5 | r5
      · have h := bx_l h
        refine V_callXr C hBA hE ml_X3_67 (pre := []) (post := []) (wc := xW g A r3.2) (as := [.int (77 : Int32), .int a1, .int a2]) (rest := []) (w1 := xW g A r5.2) (rv := (some (.int r5.1))) (c_X3_changeUnlessRejected hst k6) 0 19 (mgW A r5.2.1 ++ (bkW g A.2.1 r5.2.2.1 ++ (bkW g A.2.2.1 r5.2.2.2.1 ++ (bkW g A.2.2.2.1 r5.2.2.2.2.1 ++ (hsW g A.2.2.2.2.1 A.2.2.2.2.2.2.2 r5.2.2.2.2.2.1 ++ (scW g A.2.2.2.2.2.1 r5.2.2.2.2.2.2.1 ++ (sbW g A.2.2.2.2.2.2.1 r5.2.2.2.2.2.2.2.1 ++ (hbW g A.2.2.2.2.2.2.2 r5.2.2.2.2.2.2.2.2)))))))) dX3_moveRibbon_16 rfl ⟨Nat.le_of_ble_eq_true rfl, Nat.le_of_ble_eq_true rfl⟩ rfl (List.append_nil _).symm (List.append_nil _) (xW_fst _ _ _ _) rfl rfl rfl (Nat.le_of_ble_eq_true rfl) ⟨Nat.zero_le _, Nat.zero_le _⟩ ?_
        obtain rfl := Option.some.inj h
        exact V_xretI C Z (ty := .int) rfl (rfl) rfl dX3_moveRibbon_19 (Nat.le_refl _) (Nat.le_refl _)
      · have h := bx_r h
        obtain rfl := Option.some.inj h
        refine V_callXt C hBA hE ml_X3_67 (pre := []) (post := []) (wc := xW g A r3.2) (as := [.int (77 : Int32), .int a1, .int a2]) (rest := []) (w1 := xW g A r5.2) (E := r5.1) (c_X3_changeUnlessRejected hst k6) 0 (xW g A r5.2) dX3_moveRibbon_16 ⟨Nat.le_of_ble_eq_true rfl, Nat.le_of_ble_eq_true rfl⟩ rfl (List.append_nil _).symm (List.append_nil _) (xW_fst _ _ _ _) rfl rfl (Nat.le_of_ble_eq_true rfl) ⟨Nat.le_refl _, Nat.le_refl _⟩ ?_
        exact VX_out C Z rfl (Nat.le_refl _) (Nat.le_refl _)
    · have h := bx_r h
      obtain rfl := Option.some.inj h
      refine V_callXt C hBA hE ml_X3_60 (pre := []) (post := []) (wc := xW g A r1.2) (as := [.int a2]) (rest := []) (w1 := xW g A r3.2) (E := r3.1) (c_X3_requirePage hst k4) 0 (xW g A r3.2) dX3_moveRibbon_8 ⟨Nat.le_of_ble_eq_true rfl, Nat.le_of_ble_eq_true rfl⟩ rfl (List.append_nil _).symm (List.append_nil _) (xW_fst _ _ _ _) rfl rfl (Nat.le_of_ble_eq_true rfl) ⟨Nat.le_refl _, Nat.le_refl _⟩ ?_
      exact VX_out C Z rfl (Nat.le_refl _) (Nat.le_refl _)
  · have h := bx_r h
    obtain rfl := Option.some.inj h
    refine V_callXt C hBA hE ml_X3_71 (pre := []) (post := []) (wc := xW g A v) (as := [.int a1]) (rest := []) (w1 := xW g A r1.2) (E := r1.1) (c_X3_requireMark hst k2) 0 (xW g A r1.2) dX3_moveRibbon_2 ⟨Nat.le_of_ble_eq_true rfl, Nat.le_of_ble_eq_true rfl⟩ rfl (List.append_nil _).symm (List.append_nil _) (xW_fst _ _ _ _) rfl rfl (Nat.le_of_ble_eq_true rfl) ⟨Nat.le_refl _, Nat.le_refl _⟩ ?_
    exact VX_out C Z rfl (Nat.le_refl _) (Nat.le_refl _)
set_option maxHeartbeats 4000000 in
set_option maxRecDepth 100000 in
theorem c_X3_swapSeats {l : Launch} {D : va_G} {g : G0} {A : XA} {v : XV} {a1 a2 : Int32} {R : ((Int32 × XV) ⊕ (String × XV))} (hst : l.stackTraces = false) (h : f_X3_swapSeats v a1 a2 = some R) : CtX l D g yX3_swapSeats cX3_swapSeats 3 (some .int) (rmX 7 140 (rxI g A R)) (xW g A v) [.ref A.1, .int a1, .int a2] (rxI g A R) := by
  refine CtX.of (by decide) (Nat.le_of_ble_eq_true rfl) hst ?_
  intro K C Z hBA el eD ekn
  subst el
  subst eD
  have hE := Z.2.2.1
  have hlt : ∀ i, i < 3 → i < kn K := fun i h => by rw [ekn]; exact h
  show V K 0 0 _ [(0, .ref A.1), (1, .int a1), (2, .int a2)] [] 0
  unfold f_X3_swapSeats at h
  refine V_aload_n C 0 1 dX3_swapSeats_0 rfl rfl ?_
  refine V_iload_n C 1 2 dX3_swapSeats_1 rfl rfl ?_
  obtain ⟨r1, k2, h⟩ := bd_some h
  rcases r1 with r1 | r1
  · have h := bx_l h
    refine V_callXr C hBA hE ml_X3_71 (pre := []) (post := []) (wc := xW g A v) (as := [.int a1]) (rest := []) (w1 := xW g A r1.2) (rv := (some (.int r1.1))) (c_X3_requireMark hst k2) 0 5 (mgW A r1.2.1 ++ (bkW g A.2.1 r1.2.2.1 ++ (bkW g A.2.2.1 r1.2.2.2.1 ++ (bkW g A.2.2.2.1 r1.2.2.2.2.1 ++ (hsW g A.2.2.2.2.1 A.2.2.2.2.2.2.2 r1.2.2.2.2.2.1 ++ (scW g A.2.2.2.2.2.1 r1.2.2.2.2.2.2.1 ++ (sbW g A.2.2.2.2.2.2.1 r1.2.2.2.2.2.2.2.1 ++ (hbW g A.2.2.2.2.2.2.2 r1.2.2.2.2.2.2.2.2)))))))) dX3_swapSeats_2 rfl ⟨Nat.le_of_ble_eq_true rfl, Nat.le_of_ble_eq_true rfl⟩ rfl (List.append_nil _).symm (List.append_nil _) (xW_fst _ _ _ _) rfl rfl rfl (Nat.le_of_ble_eq_true rfl) ⟨Nat.zero_le _, Nat.zero_le _⟩ ?_
    refine V_pop C 6 dX3_swapSeats_5 rfl rfl ?_
    refine V_aload_n C 0 7 dX3_swapSeats_6 rfl rfl ?_
    refine V_iload_n C 2 8 dX3_swapSeats_7 rfl rfl ?_
    obtain ⟨r3, k4, h⟩ := bd_some h
    rcases r3 with r3 | r3
    · have h := bx_l h
      refine V_callXr C hBA hE ml_X3_71 (pre := []) (post := []) (wc := xW g A r1.2) (as := [.int a2]) (rest := []) (w1 := xW g A r3.2) (rv := (some (.int r3.1))) (c_X3_requireMark hst k4) 0 11 (mgW A r3.2.1 ++ (bkW g A.2.1 r3.2.2.1 ++ (bkW g A.2.2.1 r3.2.2.2.1 ++ (bkW g A.2.2.2.1 r3.2.2.2.2.1 ++ (hsW g A.2.2.2.2.1 A.2.2.2.2.2.2.2 r3.2.2.2.2.2.1 ++ (scW g A.2.2.2.2.2.1 r3.2.2.2.2.2.2.1 ++ (sbW g A.2.2.2.2.2.2.1 r3.2.2.2.2.2.2.2.1 ++ (hbW g A.2.2.2.2.2.2.2 r3.2.2.2.2.2.2.2.2)))))))) dX3_swapSeats_8 rfl ⟨Nat.le_of_ble_eq_true rfl, Nat.le_of_ble_eq_true rfl⟩ rfl (List.append_nil _).symm (List.append_nil _) (xW_fst _ _ _ _) rfl rfl rfl (Nat.le_of_ble_eq_true rfl) ⟨Nat.zero_le _, Nat.zero_le _⟩ ?_
      refine V_pop C 12 dX3_swapSeats_11 rfl rfl ?_
      refine V_aload_n C 0 13 dX3_swapSeats_12 rfl rfl ?_
      refine V_bipush C (83 : Int32) 15 dX3_swapSeats_13 rfl rfl ?_
      refine V_iload_n C 1 16 dX3_swapSeats_15 rfl rfl ?_
      refine V_iload_n C 2 17 dX3_swapSeats_16 rfl rfl ?_
      obtain ⟨r5, k6, h⟩ := bd_some h
      rcases r5 with r5 | r5
      · have h := bx_l h
        refine V_callXr C hBA hE ml_X3_67 (pre := []) (post := []) (wc := xW g A r3.2) (as := [.int (83 : Int32), .int a1, .int a2]) (rest := []) (w1 := xW g A r5.2) (rv := (some (.int r5.1))) (c_X3_changeUnlessRejected hst k6) 0 20 (mgW A r5.2.1 ++ (bkW g A.2.1 r5.2.2.1 ++ (bkW g A.2.2.1 r5.2.2.2.1 ++ (bkW g A.2.2.2.1 r5.2.2.2.2.1 ++ (hsW g A.2.2.2.2.1 A.2.2.2.2.2.2.2 r5.2.2.2.2.2.1 ++ (scW g A.2.2.2.2.2.1 r5.2.2.2.2.2.2.1 ++ (sbW g A.2.2.2.2.2.2.1 r5.2.2.2.2.2.2.2.1 ++ (hbW g A.2.2.2.2.2.2.2 r5.2.2.2.2.2.2.2.2)))))))) dX3_swapSeats_17 rfl ⟨Nat.le_of_ble_eq_true rfl, Nat.le_of_ble_eq_true rfl⟩ rfl (List.append_nil _).symm (List.append_nil _) (xW_fst _ _ _ _) rfl rfl rfl (Nat.le_of_ble_eq_true rfl) ⟨Nat.zero_le _, Nat.zero_le _⟩ ?_
        obtain rfl := Option.some.inj h
        exact V_xretI C Z (ty := .int) rfl (rfl) rfl dX3_swapSeats_20 (Nat.le_refl _) (Nat.le_refl _)
      · have h := bx_r h
        obtain rfl := Option.some.inj h
        refine V_callXt C hBA hE ml_X3_67 (pre := []) (post := []) (wc := xW g A r3.2) (as := [.int (83 : Int32), .int a1, .int a2]) (rest := []) (w1 := xW g A r5.2) (E := r5.1) (c_X3_changeUnlessRejected hst k6) 0 (xW g A r5.2) dX3_swapSeats_17 ⟨Nat.le_of_ble_eq_true rfl, Nat.le_of_ble_eq_true rfl⟩ rfl (List.append_nil _).symm (List.append_nil _) (xW_fst _ _ _ _) rfl rfl (Nat.le_of_ble_eq_true rfl) ⟨Nat.le_refl _, Nat.le_refl _⟩ ?_
        exact VX_out C Z rfl (Nat.le_refl _) (Nat.le_refl _)
    · have h := bx_r h
      obtain rfl := Option.some.inj h
      refine V_callXt C hBA hE ml_X3_71 (pre := []) (post := []) (wc := xW g A r1.2) (as := [.int a2]) (rest := []) (w1 := xW g A r3.2) (E := r3.1) (c_X3_requireMark hst k4) 0 (xW g A r3.2) dX3_swapSeats_8 ⟨Nat.le_of_ble_eq_true rfl, Nat.le_of_ble_eq_true rfl⟩ rfl (List.append_nil _).symm (List.append_nil _) (xW_fst _ _ _ _) rfl rfl (Nat.le_of_ble_eq_true rfl) ⟨Nat.le_refl _, Nat.le_refl _⟩ ?_
      exact VX_out C Z rfl (Nat.le_refl _) (Nat.le_refl _)
  · have h := bx_r h
    obtain rfl := Option.some.inj h
    refine V_callXt C hBA hE ml_X3_71 (pre := []) (post := []) (wc := xW g A v) (as := [.int a1]) (rest := []) (w1 := xW g A r1.2) (E := r1.1) (c_X3_requireMark hst k2) 0 (xW g A r1.2) dX3_swapSeats_2 ⟨Nat.le_of_ble_eq_true rfl, Nat.le_of_ble_eq_true rfl⟩ rfl (List.append_nil _).symm (List.append_nil _) (xW_fst _ _ _ _) rfl rfl (Nat.le_of_ble_eq_true rfl) ⟨Nat.le_refl _, Nat.le_refl _⟩ ?_
    exact VX_out C Z rfl (Nat.le_refl _) (Nat.le_refl _)
set_option maxHeartbeats 4000000 in
set_option maxRecDepth 100000 in
theorem c_X3_isRibbon {l : Launch} {D : va_G} {g : G0} {A : XA} {v : XV} {a1 : Int32} {R : ((Int32 × XV) ⊕ (String × XV))} (hst : l.stackTraces = false) (h : f_X3_isRibbon v a1 = some R) : CtX l D g yX3_isRibbon cX3_isRibbon 2 (some .boolean) (rmX 7 112 (rxI g A R)) (xW g A v) [.ref A.1, .int a1] (rxI g A R) := by
  refine CtX.of (by decide) (Nat.le_of_ble_eq_true rfl) hst ?_
  intro K C Z hBA el eD ekn
  subst el
  subst eD
  have hE := Z.2.2.1
  have hlt : ∀ i, i < 2 → i < kn K := fun i h => by rw [ekn]; exact h
  show V K 0 0 _ [(0, .ref A.1), (1, .int a1)] [] 0
  unfold f_X3_isRibbon at h
  refine V_aload_n C 0 1 dX3_isRibbon_0 rfl rfl ?_
  refine V_get C (v := .ref A.2.1.1) 0 4 fl_X3_10 dX3_isRibbon_1 rfl rfl rfl ?_
  refine V_aload_n C 0 5 dX3_isRibbon_4 rfl rfl ?_
  refine V_iload_n C 1 6 dX3_isRibbon_5 rfl rfl ?_
  obtain ⟨r1, k2, h⟩ := bd_some h
  rcases r1 with r1 | r1
  · have h := bx_l h
    refine V_callXr C hBA hE ml_X3_71 (pre := []) (post := []) (wc := xW g A v) (as := [.int a1]) (rest := [.ref A.2.1.1]) (w1 := xW g A r1.2) (rv := (some (.int r1.1))) (c_X3_requireMark hst k2) 0 9 (mgW A r1.2.1 ++ (bkW g A.2.1 r1.2.2.1 ++ (bkW g A.2.2.1 r1.2.2.2.1 ++ (bkW g A.2.2.2.1 r1.2.2.2.2.1 ++ (hsW g A.2.2.2.2.1 A.2.2.2.2.2.2.2 r1.2.2.2.2.2.1 ++ (scW g A.2.2.2.2.2.1 r1.2.2.2.2.2.2.1 ++ (sbW g A.2.2.2.2.2.2.1 r1.2.2.2.2.2.2.2.1 ++ (hbW g A.2.2.2.2.2.2.2 r1.2.2.2.2.2.2.2.2)))))))) dX3_isRibbon_6 rfl ⟨Nat.le_of_ble_eq_true rfl, Nat.le_of_ble_eq_true rfl⟩ rfl (List.append_nil _).symm (List.append_nil _) (xW_fst _ _ _ _) rfl rfl rfl (Nat.le_of_ble_eq_true rfl) ⟨Nat.zero_le _, Nat.zero_le _⟩ ?_
    obtain ⟨r3, k4, h⟩ := bd_some h
    refine V_callP C ml_X3_82 (pre := mgW A r1.2.1) (post := bkW g A.2.2.1 r1.2.2.2.1 ++ (bkW g A.2.2.2.1 r1.2.2.2.2.1 ++ (hsW g A.2.2.2.2.1 A.2.2.2.2.2.2.2 r1.2.2.2.2.2.1 ++ (scW g A.2.2.2.2.2.1 r1.2.2.2.2.2.2.1 ++ (sbW g A.2.2.2.2.2.2.1 r1.2.2.2.2.2.2.2.1 ++ (hbW g A.2.2.2.2.2.2.2 r1.2.2.2.2.2.2.2.2)))))) (w := bkW g A.2.1 r1.2.2.1) (as := [.int r1.1]) (rest := []) (c_X0_hasSeat k4) 1 12 dX3_isRibbon_9 rfl ⟨Nat.le_of_ble_eq_true rfl, Nat.le_of_ble_eq_true rfl⟩ rfl (by first | (simp only [List.append_assoc, List.nil_append, List.append_nil]; done) | rfl) rfl rfl rfl (Nat.le_of_ble_eq_true rfl) ⟨Nat.zero_le _, Nat.zero_le _⟩ ?_
    obtain ⟨g5, h⟩ := gd_some h
    obtain rfl := Option.some.inj h
    exact V_xretI C Z (ty := .boolean) rfl (isz_t g5) rfl dX3_isRibbon_12 (Nat.le_refl _) (Nat.le_refl _)
  · have h := bx_r h
    obtain rfl := Option.some.inj h
    refine V_callXt C hBA hE ml_X3_71 (pre := []) (post := []) (wc := xW g A v) (as := [.int a1]) (rest := [.ref A.2.1.1]) (w1 := xW g A r1.2) (E := r1.1) (c_X3_requireMark hst k2) 0 (xW g A r1.2) dX3_isRibbon_6 ⟨Nat.le_of_ble_eq_true rfl, Nat.le_of_ble_eq_true rfl⟩ rfl (List.append_nil _).symm (List.append_nil _) (xW_fst _ _ _ _) rfl rfl (Nat.le_of_ble_eq_true rfl) ⟨Nat.le_refl _, Nat.le_refl _⟩ ?_
    exact VX_out C Z rfl (Nat.le_refl _) (Nat.le_refl _)
set_option maxHeartbeats 4000000 in
set_option maxRecDepth 100000 in
theorem c_X3_pageOf {l : Launch} {D : va_G} {g : G0} {A : XA} {v : XV} {a1 : Int32} {R : ((Int32 × XV) ⊕ (String × XV))} (hst : l.stackTraces = false) (h : f_X3_pageOf v a1 = some R) : CtX l D g yX3_pageOf cX3_pageOf 2 (some .int) (rmX 7 112 (rxI g A R)) (xW g A v) [.ref A.1, .int a1] (rxI g A R) := by
  refine CtX.of (by decide) (Nat.le_of_ble_eq_true rfl) hst ?_
  intro K C Z hBA el eD ekn
  subst el
  subst eD
  have hE := Z.2.2.1
  have hlt : ∀ i, i < 2 → i < kn K := fun i h => by rw [ekn]; exact h
  show V K 0 0 _ [(0, .ref A.1), (1, .int a1)] [] 0
  unfold f_X3_pageOf at h
  refine V_aload_n C 0 1 dX3_pageOf_0 rfl rfl ?_
  refine V_get C (v := .ref A.2.1.1) 0 4 fl_X3_10 dX3_pageOf_1 rfl rfl rfl ?_
  refine V_get C (v := .ref A.2.1.2.2.1) 1 7 fl_X3_86 dX3_pageOf_4 rfl rfl rfl ?_
  refine V_aload_n C 0 8 dX3_pageOf_7 rfl rfl ?_
  refine V_iload_n C 1 9 dX3_pageOf_8 rfl rfl ?_
  obtain ⟨r1, k2, h⟩ := bd_some h
  rcases r1 with r1 | r1
  · have h := bx_l h
    refine V_callXr C hBA hE ml_X3_71 (pre := []) (post := []) (wc := xW g A v) (as := [.int a1]) (rest := [.ref A.2.1.2.2.1]) (w1 := xW g A r1.2) (rv := (some (.int r1.1))) (c_X3_requireMark hst k2) 0 12 (mgW A r1.2.1 ++ (bkW g A.2.1 r1.2.2.1 ++ (bkW g A.2.2.1 r1.2.2.2.1 ++ (bkW g A.2.2.2.1 r1.2.2.2.2.1 ++ (hsW g A.2.2.2.2.1 A.2.2.2.2.2.2.2 r1.2.2.2.2.2.1 ++ (scW g A.2.2.2.2.2.1 r1.2.2.2.2.2.2.1 ++ (sbW g A.2.2.2.2.2.2.1 r1.2.2.2.2.2.2.2.1 ++ (hbW g A.2.2.2.2.2.2.2 r1.2.2.2.2.2.2.2.2)))))))) dX3_pageOf_9 rfl ⟨Nat.le_of_ble_eq_true rfl, Nat.le_of_ble_eq_true rfl⟩ rfl (List.append_nil _).symm (List.append_nil _) (xW_fst _ _ _ _) rfl rfl rfl (Nat.le_of_ble_eq_true rfl) ⟨Nat.zero_le _, Nat.zero_le _⟩ ?_
    obtain ⟨g3, h⟩ := gd_some h
    refine V_iald C (f := (Bk_pages r1.2.2.1)) (n := 12) 3 13 dX3_pageOf_12 rfl rfl g3 ?_
    obtain rfl := Option.some.inj h
    exact V_xretI C Z (ty := .int) rfl (rfl) rfl dX3_pageOf_13 (Nat.le_refl _) (Nat.le_refl _)
  · have h := bx_r h
    obtain rfl := Option.some.inj h
    refine V_callXt C hBA hE ml_X3_71 (pre := []) (post := []) (wc := xW g A v) (as := [.int a1]) (rest := [.ref A.2.1.2.2.1]) (w1 := xW g A r1.2) (E := r1.1) (c_X3_requireMark hst k2) 0 (xW g A r1.2) dX3_pageOf_9 ⟨Nat.le_of_ble_eq_true rfl, Nat.le_of_ble_eq_true rfl⟩ rfl (List.append_nil _).symm (List.append_nil _) (xW_fst _ _ _ _) rfl rfl (Nat.le_of_ble_eq_true rfl) ⟨Nat.le_refl _, Nat.le_refl _⟩ ?_
    exact VX_out C Z rfl (Nat.le_refl _) (Nat.le_refl _)
set_option maxHeartbeats 4000000 in
set_option maxRecDepth 100000 in
theorem c_X3_weightOf {l : Launch} {D : va_G} {g : G0} {A : XA} {v : XV} {a1 : Int32} {R : ((Int32 × XV) ⊕ (String × XV))} (hst : l.stackTraces = false) (h : f_X3_weightOf v a1 = some R) : CtX l D g yX3_weightOf cX3_weightOf 2 (some .int) (rmX 7 112 (rxI g A R)) (xW g A v) [.ref A.1, .int a1] (rxI g A R) := by
  refine CtX.of (by decide) (Nat.le_of_ble_eq_true rfl) hst ?_
  intro K C Z hBA el eD ekn
  subst el
  subst eD
  have hE := Z.2.2.1
  have hlt : ∀ i, i < 2 → i < kn K := fun i h => by rw [ekn]; exact h
  show V K 0 0 _ [(0, .ref A.1), (1, .int a1)] [] 0
  unfold f_X3_weightOf at h
  refine V_aload_n C 0 1 dX3_weightOf_0 rfl rfl ?_
  refine V_get C (v := .ref A.2.1.1) 0 4 fl_X3_10 dX3_weightOf_1 rfl rfl rfl ?_
  refine V_get C (v := .ref A.2.1.2.2.2.1) 1 7 fl_X3_90 dX3_weightOf_4 rfl rfl rfl ?_
  refine V_aload_n C 0 8 dX3_weightOf_7 rfl rfl ?_
  refine V_iload_n C 1 9 dX3_weightOf_8 rfl rfl ?_
  obtain ⟨r1, k2, h⟩ := bd_some h
  rcases r1 with r1 | r1
  · have h := bx_l h
    refine V_callXr C hBA hE ml_X3_71 (pre := []) (post := []) (wc := xW g A v) (as := [.int a1]) (rest := [.ref A.2.1.2.2.2.1]) (w1 := xW g A r1.2) (rv := (some (.int r1.1))) (c_X3_requireMark hst k2) 0 12 (mgW A r1.2.1 ++ (bkW g A.2.1 r1.2.2.1 ++ (bkW g A.2.2.1 r1.2.2.2.1 ++ (bkW g A.2.2.2.1 r1.2.2.2.2.1 ++ (hsW g A.2.2.2.2.1 A.2.2.2.2.2.2.2 r1.2.2.2.2.2.1 ++ (scW g A.2.2.2.2.2.1 r1.2.2.2.2.2.2.1 ++ (sbW g A.2.2.2.2.2.2.1 r1.2.2.2.2.2.2.2.1 ++ (hbW g A.2.2.2.2.2.2.2 r1.2.2.2.2.2.2.2.2)))))))) dX3_weightOf_9 rfl ⟨Nat.le_of_ble_eq_true rfl, Nat.le_of_ble_eq_true rfl⟩ rfl (List.append_nil _).symm (List.append_nil _) (xW_fst _ _ _ _) rfl rfl rfl (Nat.le_of_ble_eq_true rfl) ⟨Nat.zero_le _, Nat.zero_le _⟩ ?_
    obtain ⟨g3, h⟩ := gd_some h
    refine V_iald C (f := (Bk_weights r1.2.2.1)) (n := 12) 4 13 dX3_weightOf_12 rfl rfl g3 ?_
    obtain rfl := Option.some.inj h
    exact V_xretI C Z (ty := .int) rfl (rfl) rfl dX3_weightOf_13 (Nat.le_refl _) (Nat.le_refl _)
  · have h := bx_r h
    obtain rfl := Option.some.inj h
    refine V_callXt C hBA hE ml_X3_71 (pre := []) (post := []) (wc := xW g A v) (as := [.int a1]) (rest := [.ref A.2.1.2.2.2.1]) (w1 := xW g A r1.2) (E := r1.1) (c_X3_requireMark hst k2) 0 (xW g A r1.2) dX3_weightOf_9 ⟨Nat.le_of_ble_eq_true rfl, Nat.le_of_ble_eq_true rfl⟩ rfl (List.append_nil _).symm (List.append_nil _) (xW_fst _ _ _ _) rfl rfl (Nat.le_of_ble_eq_true rfl) ⟨Nat.le_refl _, Nat.le_refl _⟩ ?_
    exact VX_out C Z rfl (Nat.le_refl _) (Nat.le_refl _)
set_option maxHeartbeats 4000000 in
set_option maxRecDepth 100000 in
theorem c_X3_wearOf {l : Launch} {D : va_G} {g : G0} {A : XA} {v : XV} {a1 : Int32} {R : ((Int32 × XV) ⊕ (String × XV))} (hst : l.stackTraces = false) (h : f_X3_wearOf v a1 = some R) : CtX l D g yX3_wearOf cX3_wearOf 2 (some .int) (rmX 7 112 (rxI g A R)) (xW g A v) [.ref A.1, .int a1] (rxI g A R) := by
  refine CtX.of (by decide) (Nat.le_of_ble_eq_true rfl) hst ?_
  intro K C Z hBA el eD ekn
  subst el
  subst eD
  have hE := Z.2.2.1
  have hlt : ∀ i, i < 2 → i < kn K := fun i h => by rw [ekn]; exact h
  show V K 0 0 _ [(0, .ref A.1), (1, .int a1)] [] 0
  unfold f_X3_wearOf at h
  refine V_aload_n C 0 1 dX3_wearOf_0 rfl rfl ?_
  refine V_get C (v := .ref A.2.1.1) 0 4 fl_X3_10 dX3_wearOf_1 rfl rfl rfl ?_
  refine V_get C (v := .ref A.2.1.2.2.2.2.1) 1 7 fl_X3_93 dX3_wearOf_4 rfl rfl rfl ?_
  refine V_aload_n C 0 8 dX3_wearOf_7 rfl rfl ?_
  refine V_iload_n C 1 9 dX3_wearOf_8 rfl rfl ?_
  obtain ⟨r1, k2, h⟩ := bd_some h
  rcases r1 with r1 | r1
  · have h := bx_l h
    refine V_callXr C hBA hE ml_X3_71 (pre := []) (post := []) (wc := xW g A v) (as := [.int a1]) (rest := [.ref A.2.1.2.2.2.2.1]) (w1 := xW g A r1.2) (rv := (some (.int r1.1))) (c_X3_requireMark hst k2) 0 12 (mgW A r1.2.1 ++ (bkW g A.2.1 r1.2.2.1 ++ (bkW g A.2.2.1 r1.2.2.2.1 ++ (bkW g A.2.2.2.1 r1.2.2.2.2.1 ++ (hsW g A.2.2.2.2.1 A.2.2.2.2.2.2.2 r1.2.2.2.2.2.1 ++ (scW g A.2.2.2.2.2.1 r1.2.2.2.2.2.2.1 ++ (sbW g A.2.2.2.2.2.2.1 r1.2.2.2.2.2.2.2.1 ++ (hbW g A.2.2.2.2.2.2.2 r1.2.2.2.2.2.2.2.2)))))))) dX3_wearOf_9 rfl ⟨Nat.le_of_ble_eq_true rfl, Nat.le_of_ble_eq_true rfl⟩ rfl (List.append_nil _).symm (List.append_nil _) (xW_fst _ _ _ _) rfl rfl rfl (Nat.le_of_ble_eq_true rfl) ⟨Nat.zero_le _, Nat.zero_le _⟩ ?_
    obtain ⟨g3, h⟩ := gd_some h
    refine V_iald C (f := (Bk_wears r1.2.2.1)) (n := 12) 5 13 dX3_wearOf_12 rfl rfl g3 ?_
    obtain rfl := Option.some.inj h
    exact V_xretI C Z (ty := .int) rfl (rfl) rfl dX3_wearOf_13 (Nat.le_refl _) (Nat.le_refl _)
  · have h := bx_r h
    obtain rfl := Option.some.inj h
    refine V_callXt C hBA hE ml_X3_71 (pre := []) (post := []) (wc := xW g A v) (as := [.int a1]) (rest := [.ref A.2.1.2.2.2.2.1]) (w1 := xW g A r1.2) (E := r1.1) (c_X3_requireMark hst k2) 0 (xW g A r1.2) dX3_wearOf_9 ⟨Nat.le_of_ble_eq_true rfl, Nat.le_of_ble_eq_true rfl⟩ rfl (List.append_nil _).symm (List.append_nil _) (xW_fst _ _ _ _) rfl rfl (Nat.le_of_ble_eq_true rfl) ⟨Nat.le_refl _, Nat.le_refl _⟩ ?_
    exact VX_out C Z rfl (Nat.le_refl _) (Nat.le_refl _)
set_option maxHeartbeats 4000000 in
set_option maxRecDepth 100000 in
theorem c_X3_seatOf {l : Launch} {D : va_G} {g : G0} {A : XA} {v : XV} {a1 : Int32} {R : ((Int32 × XV) ⊕ (String × XV))} (hst : l.stackTraces = false) (h : f_X3_seatOf v a1 = some R) : CtX l D g yX3_seatOf cX3_seatOf 3 (some .int) (rmX 7 112 (rxI g A R)) (xW g A v) [.ref A.1, .int a1] (rxI g A R) := by
  refine CtX.of (by decide) (Nat.le_of_ble_eq_true rfl) hst ?_
  intro K C Z hBA el eD ekn
  subst el
  subst eD
  have hE := Z.2.2.1
  have hlt : ∀ i, i < 3 → i < kn K := fun i h => by rw [ekn]; exact h
  show V K 0 0 _ [(0, .ref A.1), (1, .int a1)] [] 0
  unfold f_X3_seatOf at h
  refine V_aload_n C 0 1 dX3_seatOf_0 rfl rfl ?_
  refine V_iload_n C 1 2 dX3_seatOf_1 rfl rfl ?_
  obtain ⟨r1, k2, h⟩ := bd_some h
  rcases r1 with r1 | r1
  · have h := bx_l h
    refine V_callXr C hBA hE ml_X3_71 (pre := []) (post := []) (wc := xW g A v) (as := [.int a1]) (rest := []) (w1 := xW g A r1.2) (rv := (some (.int r1.1))) (c_X3_requireMark hst k2) 0 5 (mgW A r1.2.1 ++ (bkW g A.2.1 r1.2.2.1 ++ (bkW g A.2.2.1 r1.2.2.2.1 ++ (bkW g A.2.2.2.1 r1.2.2.2.2.1 ++ (hsW g A.2.2.2.2.1 A.2.2.2.2.2.2.2 r1.2.2.2.2.2.1 ++ (scW g A.2.2.2.2.2.1 r1.2.2.2.2.2.2.1 ++ (sbW g A.2.2.2.2.2.2.1 r1.2.2.2.2.2.2.2.1 ++ (hbW g A.2.2.2.2.2.2.2 r1.2.2.2.2.2.2.2.2)))))))) dX3_seatOf_2 rfl ⟨Nat.le_of_ble_eq_true rfl, Nat.le_of_ble_eq_true rfl⟩ rfl (List.append_nil _).symm (List.append_nil _) (xW_fst _ _ _ _) rfl rfl rfl (Nat.le_of_ble_eq_true rfl) ⟨Nat.zero_le _, Nat.zero_le _⟩ ?_
    refine V_istore_n C 6 [(2, .int r1.1), (0, .ref A.1), (1, .int a1)] dX3_seatOf_5 rfl (hlt 2 (by decide)) rfl ?_
    refine V_aload_n C 1 7 dX3_seatOf_6 rfl rfl ?_
    refine V_get C (v := .ref A.2.1.1) 0 10 fl_X3_10 dX3_seatOf_7 rfl rfl rfl ?_
    refine V_iload_n C 0 11 dX3_seatOf_10 rfl rfl ?_
    obtain ⟨r3, k4, h⟩ := bd_some h
    refine V_callP C ml_X3_82 (pre := mgW A r1.2.1) (post := bkW g A.2.2.1 r1.2.2.2.1 ++ (bkW g A.2.2.2.1 r1.2.2.2.2.1 ++ (hsW g A.2.2.2.2.1 A.2.2.2.2.2.2.2 r1.2.2.2.2.2.1 ++ (scW g A.2.2.2.2.2.1 r1.2.2.2.2.2.2.1 ++ (sbW g A.2.2.2.2.2.2.1 r1.2.2.2.2.2.2.2.1 ++ (hbW g A.2.2.2.2.2.2.2 r1.2.2.2.2.2.2.2.2)))))) (w := bkW g A.2.1 r1.2.2.1) (as := [.int r1.1]) (rest := []) (c_X0_hasSeat k4) 1 14 dX3_seatOf_11 rfl ⟨Nat.le_of_ble_eq_true rfl, Nat.le_of_ble_eq_true rfl⟩ rfl (by first | (simp only [List.append_assoc, List.nil_append, List.append_nil]; done) | rfl) rfl rfl rfl (Nat.le_of_ble_eq_true rfl) ⟨Nat.zero_le _, Nat.zero_le _⟩ ?_
    refine V_if_ne C 27 17 dX3_seatOf_14 rfl rfl (fun e5 => ?_) (fun e5 => ?_)
    · have h := (if_neg e5).symm.trans h
      refine V_aload_n C 1 28 dX3_seatOf_27 rfl rfl ?_
      refine V_get C (v := .ref A.2.1.1) 0 31 fl_X3_10 dX3_seatOf_28 rfl rfl rfl ?_
      refine V_get C (v := .ref A.2.1.2.2.2.2.2.1) 1 34 fl_X3_103 dX3_seatOf_31 rfl rfl rfl ?_
      refine V_iload_n C 0 35 dX3_seatOf_34 rfl rfl ?_
      obtain ⟨g6, h⟩ := gd_some h
      refine V_iald C (f := (Bk_seats r1.2.2.1)) (n := 12) 6 36 dX3_seatOf_35 rfl rfl g6 ?_
      obtain rfl := Option.some.inj h
      exact V_xretI C Z (ty := .int) rfl (rfl) rfl dX3_seatOf_36 (Nat.le_refl _) (Nat.le_refl _)
    · have h := (if_pos e5).symm.trans h
      obtain rfl := Option.some.inj h
      exact V_nthrow C Z tl_X3_96_100_98 dX3_seatOf_17 dX3_seatOf_20 dX3_seatOf_21 dX3_seatOf_23 dX3_seatOf_26 ⟨Nat.le_of_ble_eq_true rfl, Nat.le_of_ble_eq_true rfl, Nat.le_refl _, Nat.le_refl _⟩ rfl (Nat.le_refl _) (Nat.le_refl _)
  · have h := bx_r h
    obtain rfl := Option.some.inj h
    refine V_callXt C hBA hE ml_X3_71 (pre := []) (post := []) (wc := xW g A v) (as := [.int a1]) (rest := []) (w1 := xW g A r1.2) (E := r1.1) (c_X3_requireMark hst k2) 0 (xW g A r1.2) dX3_seatOf_2 ⟨Nat.le_of_ble_eq_true rfl, Nat.le_of_ble_eq_true rfl⟩ rfl (List.append_nil _).symm (List.append_nil _) (xW_fst _ _ _ _) rfl rfl (Nat.le_of_ble_eq_true rfl) ⟨Nat.le_refl _, Nat.le_refl _⟩ ?_
    exact VX_out C Z rfl (Nat.le_refl _) (Nat.le_refl _)
set_option maxHeartbeats 4000000 in
set_option maxRecDepth 100000 in
theorem c_X3_idOfFound {l : Launch} {D : va_G} {g : G0} {A : XA} {v : XV} {a1 : Int32} {R : ((Int32 × XV) ⊕ (String × XV))} (hst : l.stackTraces = false) (h : f_X3_idOfFound v a1 = some R) : CtX l D g yX3_idOfFound cX3_idOfFound 2 (some .int) (rmX 6 90 (rxI g A R)) (xW g A v) [.ref A.1, .int a1] (rxI g A R) := by
  refine CtX.of (by decide) (Nat.le_of_ble_eq_true rfl) hst ?_
  intro K C Z hBA el eD ekn
  subst el
  subst eD
  have hE := Z.2.2.1
  have hlt : ∀ i, i < 2 → i < kn K := fun i h => by rw [ekn]; exact h
  show V K 0 0 _ [(0, .ref A.1), (1, .int a1)] [] 0
  unfold f_X3_idOfFound at h
  refine V_iload_n C 1 1 dX3_idOfFound_0 rfl rfl ?_
  refine V_iconst C (-1 : Int32) 2 dX3_idOfFound_1 rfl rfl ?_
  refine V_icmp_ne C 16 5 dX3_idOfFound_2 rfl rfl (fun e1 => ?_) (fun e1 => ?_)
  · have h := (if_neg e1).symm.trans h
    refine V_aload_n C 0 17 dX3_idOfFound_16 rfl rfl ?_
    refine V_get C (v := .ref A.2.1.1) 0 20 fl_X3_10 dX3_idOfFound_17 rfl rfl rfl ?_
    refine V_get C (v := .ref A.2.1.2.1) 1 23 fl_X3_359 dX3_idOfFound_20 rfl rfl rfl ?_
    refine V_iload_n C 1 24 dX3_idOfFound_23 rfl rfl ?_
    obtain ⟨g2, h⟩ := gd_some h
    refine V_iald C (f := (Bk_ids v.2.1)) (n := 12) 2 25 dX3_idOfFound_24 rfl rfl g2 ?_
    obtain rfl := Option.some.inj h
    exact V_xretI C Z (ty := .int) rfl (rfl) rfl dX3_idOfFound_25 (Nat.le_refl _) (Nat.le_refl _)
  · have h := (if_pos e1).symm.trans h
    obtain rfl := Option.some.inj h
    exact V_nthrowW C Z tl_X3_96_100_357 dX3_idOfFound_5 dX3_idOfFound_8 dX3_idOfFound_9 dX3_idOfFound_12 dX3_idOfFound_15 ⟨Nat.le_of_ble_eq_true rfl, Nat.le_of_ble_eq_true rfl, Nat.le_refl _, Nat.le_refl _⟩ rfl (Nat.le_refl _) (Nat.le_refl _)
set_option maxHeartbeats 4000000 in
set_option maxRecDepth 100000 in
theorem c_X3_ribbonIn {l : Launch} {D : va_G} {g : G0} {A : XA} {v : XV} {a1 : Int32} {R : ((Int32 × XV) ⊕ (String × XV))} (hst : l.stackTraces = false) (h : f_X3_ribbonIn v a1 = some R) : CtX l D g yX3_ribbonIn cX3_ribbonIn 2 (some .int) (rmX 7 111 (rxI g A R)) (xW g A v) [.ref A.1, .int a1] (rxI g A R) := by
  refine CtX.of (by decide) (Nat.le_of_ble_eq_true rfl) hst ?_
  intro K C Z hBA el eD ekn
  subst el
  subst eD
  have hE := Z.2.2.1
  have hlt : ∀ i, i < 2 → i < kn K := fun i h => by rw [ekn]; exact h
  have B9 : ∀ (x1 : Int32) (v : XV), f_X3_ribbonIn_B9 x1 v = some R → V K 0 0 (mgW A v.1 ++ (bkW g A.2.1 v.2.1 ++ (bkW g A.2.2.1 v.2.2.1 ++ (bkW g A.2.2.2.1 v.2.2.2.1 ++ (hsW g A.2.2.2.2.1 A.2.2.2.2.2.2.2 v.2.2.2.2.1 ++ (scW g A.2.2.2.2.2.1 v.2.2.2.2.2.1 ++ (sbW g A.2.2.2.2.2.2.1 v.2.2.2.2.2.2.1 ++ (hbW g A.2.2.2.2.2.2.2 v.2.2.2.2.2.2.2)))))))) [(0, .ref A.1), (1, .int x1)] [] 9 := by
    intro x1 v h
    rw [f_X3_ribbonIn_B9] at h
    obtain rfl := Option.some.inj h
    exact V_throw C Z tl_X3_106_110_108 dX3_ribbonIn_9 dX3_ribbonIn_12 dX3_ribbonIn_13 dX3_ribbonIn_15 dX3_ribbonIn_18 ⟨Nat.le_of_ble_eq_true rfl, Nat.le_of_ble_eq_true rfl, Nat.le_refl _, Nat.le_refl _⟩ rfl (Nat.le_refl _) (Nat.le_refl _)
  show V K 0 0 _ [(0, .ref A.1), (1, .int a1)] [] 0
  unfold f_X3_ribbonIn at h
  refine V_iload_n C 1 1 dX3_ribbonIn_0 rfl rfl ?_
  refine V_if_lt C 9 4 dX3_ribbonIn_1 rfl rfl (fun e1 => ?_) (fun e1 => ?_)
  · have h := (if_pos e1).symm.trans h
    refine V_lv [0, 1] rfl ?_
    exact B9 _ _ h
  · have h := (if_neg e1).symm.trans h
    refine V_iload_n C 1 5 dX3_ribbonIn_4 rfl rfl ?_
    refine V_iconst C (5 : Int32) 6 dX3_ribbonIn_5 rfl rfl ?_
    refine V_icmp_lt C 19 9 dX3_ribbonIn_6 rfl rfl (fun e2 => ?_) (fun e2 => ?_)
    · have h := (if_pos e2).symm.trans h
      refine V_aload_n C 0 20 dX3_ribbonIn_19 rfl rfl ?_
      refine V_aload_n C 0 21 dX3_ribbonIn_20 rfl rfl ?_
      refine V_get C (v := .ref A.2.1.1) 0 24 fl_X3_10 dX3_ribbonIn_21 rfl rfl rfl ?_
      refine V_iload_n C 1 25 dX3_ribbonIn_24 rfl rfl ?_
      obtain ⟨r3, k4, h⟩ := bd_some h
      refine V_callP C ml_X3_111 (pre := mgW A v.1) (post := bkW g A.2.2.1 v.2.2.1 ++ (bkW g A.2.2.2.1 v.2.2.2.1 ++ (hsW g A.2.2.2.2.1 A.2.2.2.2.2.2.2 v.2.2.2.2.1 ++ (scW g A.2.2.2.2.2.1 v.2.2.2.2.2.1 ++ (sbW g A.2.2.2.2.2.2.1 v.2.2.2.2.2.2.1 ++ (hbW g A.2.2.2.2.2.2.2 v.2.2.2.2.2.2.2)))))) (w := bkW g A.2.1 v.2.1) (as := [.int a1]) (rest := [.ref A.1]) (c_X0_slotInSeat k4) 1 28 dX3_ribbonIn_25 rfl ⟨Nat.le_of_ble_eq_true rfl, Nat.le_of_ble_eq_true rfl⟩ rfl (by first | (simp only [List.append_assoc, List.nil_append, List.append_nil]; done) | rfl) rfl rfl rfl (Nat.le_of_ble_eq_true rfl) ⟨Nat.zero_le _, Nat.zero_le _⟩ ?_
      obtain ⟨r5, k6, h⟩ := bd_some h
      rcases r5 with r5 | r5
      · have h := bx_l h
        refine V_callXr C hBA hE ml_X3_114 (pre := []) (post := []) (wc := xW g A v) (as := [.int r3]) (rest := []) (w1 := xW g A r5.2) (rv := (some (.int r5.1))) (c_X3_idOfFound hst k6) 0 31 (mgW A r5.2.1 ++ (bkW g A.2.1 r5.2.2.1 ++ (bkW g A.2.2.1 r5.2.2.2.1 ++ (bkW g A.2.2.2.1 r5.2.2.2.2.1 ++ (hsW g A.2.2.2.2.1 A.2.2.2.2.2.2.2 r5.2.2.2.2.2.1 ++ (scW g A.2.2.2.2.2.1 r5.2.2.2.2.2.2.1 ++ (sbW g A.2.2.2.2.2.2.1 r5.2.2.2.2.2.2.2.1 ++ (hbW g A.2.2.2.2.2.2.2 r5.2.2.2.2.2.2.2.2)))))))) dX3_ribbonIn_28 rfl ⟨Nat.le_of_ble_eq_true rfl, Nat.le_of_ble_eq_true rfl⟩ rfl (List.append_nil _).symm (List.append_nil _) (xW_fst _ _ _ _) rfl rfl rfl (Nat.le_of_ble_eq_true rfl) ⟨Nat.zero_le _, Nat.zero_le _⟩ ?_
        obtain rfl := Option.some.inj h
        exact V_xretI C Z (ty := .int) rfl (rfl) rfl dX3_ribbonIn_31 (Nat.le_refl _) (Nat.le_refl _)
      · have h := bx_r h
        obtain rfl := Option.some.inj h
        refine V_callXt C hBA hE ml_X3_114 (pre := []) (post := []) (wc := xW g A v) (as := [.int r3]) (rest := []) (w1 := xW g A r5.2) (E := r5.1) (c_X3_idOfFound hst k6) 0 (xW g A r5.2) dX3_ribbonIn_28 ⟨Nat.le_of_ble_eq_true rfl, Nat.le_of_ble_eq_true rfl⟩ rfl (List.append_nil _).symm (List.append_nil _) (xW_fst _ _ _ _) rfl rfl (Nat.le_of_ble_eq_true rfl) ⟨Nat.le_refl _, Nat.le_refl _⟩ ?_
        exact VX_out C Z rfl (Nat.le_refl _) (Nat.le_refl _)
    · have h := (if_neg e2).symm.trans h
      refine V_lv [0, 1] rfl ?_
      exact B9 _ _ h
set_option maxHeartbeats 4000000 in
set_option maxRecDepth 100000 in
theorem c_X3_isHeld {l : Launch} {D : va_G} {g : G0} {A : XA} {v : XV} {a1 : Int32} {R : ((Int32 × XV) ⊕ (String × XV))} (hst : l.stackTraces = false) (h : f_X3_isHeld v a1 = some R) : CtX l D g yX3_isHeld cX3_isHeld 2 (some .boolean) (rmX 7 111 (rxI g A R)) (xW g A v) [.ref A.1, .int a1] (rxI g A R) := by
  refine CtX.of (by decide) (Nat.le_of_ble_eq_true rfl) hst ?_
  intro K C Z hBA el eD ekn
  subst el
  subst eD
  have hE := Z.2.2.1
  have hlt : ∀ i, i < 2 → i < kn K := fun i h => by rw [ekn]; exact h
  have B22 : ∀ (x1 : Int32) (s0 : Int32) (v : XV), f_X3_isHeld_B22 x1 s0 v = some R → V K 0 0 (mgW A v.1 ++ (bkW g A.2.1 v.2.1 ++ (bkW g A.2.2.1 v.2.2.1 ++ (bkW g A.2.2.2.1 v.2.2.2.1 ++ (hsW g A.2.2.2.2.1 A.2.2.2.2.2.2.2 v.2.2.2.2.1 ++ (scW g A.2.2.2.2.2.1 v.2.2.2.2.2.1 ++ (sbW g A.2.2.2.2.2.2.1 v.2.2.2.2.2.2.1 ++ (hbW g A.2.2.2.2.2.2.2 v.2.2.2.2.2.2.2)))))))) [(0, .ref A.1), (1, .int x1)] [.int s0] 22 := by
    intro x1 s0 v h
    rw [f_X3_isHeld_B22] at h
    obtain ⟨g1, h⟩ := gd_some h
    obtain rfl := Option.some.inj h
    exact V_xretI C Z (ty := .boolean) rfl (isz_t g1) rfl dX3_isHeld_22 (Nat.le_refl _) (Nat.le_refl _)
  show V K 0 0 _ [(0, .ref A.1), (1, .int a1)] [] 0
  unfold f_X3_isHeld at h
  refine V_aload_n C 0 1 dX3_isHeld_0 rfl rfl ?_
  refine V_iload_n C 1 2 dX3_isHeld_1 rfl rfl ?_
  obtain ⟨r2, k3, h⟩ := bd_some h
  rcases r2 with r2 | r2
  · have h := bx_l h
    refine V_callXr C hBA hE ml_X3_60 (pre := []) (post := []) (wc := xW g A v) (as := [.int a1]) (rest := []) (w1 := xW g A r2.2) (rv := none) (c_X3_requirePage hst k3) 0 5 (mgW A r2.2.1 ++ (bkW g A.2.1 r2.2.2.1 ++ (bkW g A.2.2.1 r2.2.2.2.1 ++ (bkW g A.2.2.2.1 r2.2.2.2.2.1 ++ (hsW g A.2.2.2.2.1 A.2.2.2.2.2.2.2 r2.2.2.2.2.2.1 ++ (scW g A.2.2.2.2.2.1 r2.2.2.2.2.2.2.1 ++ (sbW g A.2.2.2.2.2.2.1 r2.2.2.2.2.2.2.2.1 ++ (hbW g A.2.2.2.2.2.2.2 r2.2.2.2.2.2.2.2.2)))))))) dX3_isHeld_2 rfl ⟨Nat.le_of_ble_eq_true rfl, Nat.le_of_ble_eq_true rfl⟩ rfl (List.append_nil _).symm (List.append_nil _) (xW_fst _ _ _ _) rfl rfl rfl (Nat.le_of_ble_eq_true rfl) ⟨Nat.zero_le _, Nat.zero_le _⟩ ?_
    refine V_aload_n C 0 6 dX3_isHeld_5 rfl rfl ?_
    refine V_get C (v := .ref A.2.1.1) 0 9 fl_X3_10 dX3_isHeld_6 rfl rfl rfl ?_
    refine V_iload_n C 1 10 dX3_isHeld_9 rfl rfl ?_
    obtain ⟨r4, k5, h⟩ := bd_some h
    refine V_callP C ml_X3_117 (pre := mgW A r2.2.1) (post := bkW g A.2.2.1 r2.2.2.2.1 ++ (bkW g A.2.2.2.1 r2.2.2.2.2.1 ++ (hsW g A.2.2.2.2.1 A.2.2.2.2.2.2.2 r2.2.2.2.2.2.1 ++ (scW g A.2.2.2.2.2.1 r2.2.2.2.2.2.2.1 ++ (sbW g A.2.2.2.2.2.2.1 r2.2.2.2.2.2.2.2.1 ++ (hbW g A.2.2.2.2.2.2.2 r2.2.2.2.2.2.2.2.2)))))) (w := bkW g A.2.1 r2.2.2.1) (as := [.int a1]) (rest := []) (c_X0_slotOnPage k5) 1 13 dX3_isHeld_10 rfl ⟨Nat.le_of_ble_eq_true rfl, Nat.le_of_ble_eq_true rfl⟩ rfl (by first | (simp only [List.append_assoc, List.nil_append, List.append_nil]; done) | rfl) rfl rfl rfl (Nat.le_of_ble_eq_true rfl) ⟨Nat.zero_le _, Nat.zero_le _⟩ ?_
    refine V_iconst C (-1 : Int32) 14 dX3_isHeld_13 rfl rfl ?_
    refine V_icmp_eq C 21 17 dX3_isHeld_14 rfl rfl (fun e6 => ?_) (fun e6 => ?_)
    · have h := (if_pos e6).symm.trans h
      refine V_iconst C (0 : Int32) 22 dX3_isHeld_21 rfl rfl ?_
      refine V_lv [0, 1] rfl ?_
      exact B22 _ _ _ h
    · have h := (if_neg e6).symm.trans h
      refine V_iconst C (1 : Int32) 18 dX3_isHeld_17 rfl rfl ?_
      refine V_goto C 22 dX3_isHeld_18 rfl ?_
      refine V_lv [0, 1] rfl ?_
      exact B22 _ _ _ h
  · have h := bx_r h
    obtain rfl := Option.some.inj h
    refine V_callXt C hBA hE ml_X3_60 (pre := []) (post := []) (wc := xW g A v) (as := [.int a1]) (rest := []) (w1 := xW g A r2.2) (E := r2.1) (c_X3_requirePage hst k3) 0 (xW g A r2.2) dX3_isHeld_2 ⟨Nat.le_of_ble_eq_true rfl, Nat.le_of_ble_eq_true rfl⟩ rfl (List.append_nil _).symm (List.append_nil _) (xW_fst _ _ _ _) rfl rfl (Nat.le_of_ble_eq_true rfl) ⟨Nat.le_refl _, Nat.le_refl _⟩ ?_
    exact VX_out C Z rfl (Nat.le_refl _) (Nat.le_refl _)
set_option maxHeartbeats 4000000 in
set_option maxRecDepth 100000 in
theorem c_X3_markOn {l : Launch} {D : va_G} {g : G0} {A : XA} {v : XV} {a1 : Int32} {R : ((Int32 × XV) ⊕ (String × XV))} (hst : l.stackTraces = false) (h : f_X3_markOn v a1 = some R) : CtX l D g yX3_markOn cX3_markOn 2 (some .int) (rmX 7 111 (rxI g A R)) (xW g A v) [.ref A.1, .int a1] (rxI g A R) := by
  refine CtX.of (by decide) (Nat.le_of_ble_eq_true rfl) hst ?_
  intro K C Z hBA el eD ekn
  subst el
  subst eD
  have hE := Z.2.2.1
  have hlt : ∀ i, i < 2 → i < kn K := fun i h => by rw [ekn]; exact h
  show V K 0 0 _ [(0, .ref A.1), (1, .int a1)] [] 0
  unfold f_X3_markOn at h
  refine V_aload_n C 0 1 dX3_markOn_0 rfl rfl ?_
  refine V_iload_n C 1 2 dX3_markOn_1 rfl rfl ?_
  obtain ⟨r1, k2, h⟩ := bd_some h
  rcases r1 with r1 | r1
  · have h := bx_l h
    refine V_callXr C hBA hE ml_X3_60 (pre := []) (post := []) (wc := xW g A v) (as := [.int a1]) (rest := []) (w1 := xW g A r1.2) (rv := none) (c_X3_requirePage hst k2) 0 5 (mgW A r1.2.1 ++ (bkW g A.2.1 r1.2.2.1 ++ (bkW g A.2.2.1 r1.2.2.2.1 ++ (bkW g A.2.2.2.1 r1.2.2.2.2.1 ++ (hsW g A.2.2.2.2.1 A.2.2.2.2.2.2.2 r1.2.2.2.2.2.1 ++ (scW g A.2.2.2.2.2.1 r1.2.2.2.2.2.2.1 ++ (sbW g A.2.2.2.2.2.2.1 r1.2.2.2.2.2.2.2.1 ++ (hbW g A.2.2.2.2.2.2.2 r1.2.2.2.2.2.2.2.2)))))))) dX3_markOn_2 rfl ⟨Nat.le_of_ble_eq_true rfl, Nat.le_of_ble_eq_true rfl⟩ rfl (List.append_nil _).symm (List.append_nil _) (xW_fst _ _ _ _) rfl rfl rfl (Nat.le_of_ble_eq_true rfl) ⟨Nat.zero_le _, Nat.zero_le _⟩ ?_
    refine V_aload_n C 0 6 dX3_markOn_5 rfl rfl ?_
    refine V_aload_n C 0 7 dX3_markOn_6 rfl rfl ?_
    refine V_get C (v := .ref A.2.1.1) 0 10 fl_X3_10 dX3_markOn_7 rfl rfl rfl ?_
    refine V_iload_n C 1 11 dX3_markOn_10 rfl rfl ?_
    obtain ⟨r3, k4, h⟩ := bd_some h
    refine V_callP C ml_X3_117 (pre := mgW A r1.2.1) (post := bkW g A.2.2.1 r1.2.2.2.1 ++ (bkW g A.2.2.2.1 r1.2.2.2.2.1 ++ (hsW g A.2.2.2.2.1 A.2.2.2.2.2.2.2 r1.2.2.2.2.2.1 ++ (scW g A.2.2.2.2.2.1 r1.2.2.2.2.2.2.1 ++ (sbW g A.2.2.2.2.2.2.1 r1.2.2.2.2.2.2.2.1 ++ (hbW g A.2.2.2.2.2.2.2 r1.2.2.2.2.2.2.2.2)))))) (w := bkW g A.2.1 r1.2.2.1) (as := [.int a1]) (rest := [.ref A.1]) (c_X0_slotOnPage k4) 1 14 dX3_markOn_11 rfl ⟨Nat.le_of_ble_eq_true rfl, Nat.le_of_ble_eq_true rfl⟩ rfl (by first | (simp only [List.append_assoc, List.nil_append, List.append_nil]; done) | rfl) rfl rfl rfl (Nat.le_of_ble_eq_true rfl) ⟨Nat.zero_le _, Nat.zero_le _⟩ ?_
    obtain ⟨r5, k6, h⟩ := bd_some h
    rcases r5 with r5 | r5
    · have h := bx_l h
      refine V_callXr C hBA hE ml_X3_114 (pre := []) (post := []) (wc := xW g A r1.2) (as := [.int r3]) (rest := []) (w1 := xW g A r5.2) (rv := (some (.int r5.1))) (c_X3_idOfFound hst k6) 0 17 (mgW A r5.2.1 ++ (bkW g A.2.1 r5.2.2.1 ++ (bkW g A.2.2.1 r5.2.2.2.1 ++ (bkW g A.2.2.2.1 r5.2.2.2.2.1 ++ (hsW g A.2.2.2.2.1 A.2.2.2.2.2.2.2 r5.2.2.2.2.2.1 ++ (scW g A.2.2.2.2.2.1 r5.2.2.2.2.2.2.1 ++ (sbW g A.2.2.2.2.2.2.1 r5.2.2.2.2.2.2.2.1 ++ (hbW g A.2.2.2.2.2.2.2 r5.2.2.2.2.2.2.2.2)))))))) dX3_markOn_14 rfl ⟨Nat.le_of_ble_eq_true rfl, Nat.le_of_ble_eq_true rfl⟩ rfl (List.append_nil _).symm (List.append_nil _) (xW_fst _ _ _ _) rfl rfl rfl (Nat.le_of_ble_eq_true rfl) ⟨Nat.zero_le _, Nat.zero_le _⟩ ?_
      obtain rfl := Option.some.inj h
      exact V_xretI C Z (ty := .int) rfl (rfl) rfl dX3_markOn_17 (Nat.le_refl _) (Nat.le_refl _)
    · have h := bx_r h
      obtain rfl := Option.some.inj h
      refine V_callXt C hBA hE ml_X3_114 (pre := []) (post := []) (wc := xW g A r1.2) (as := [.int r3]) (rest := []) (w1 := xW g A r5.2) (E := r5.1) (c_X3_idOfFound hst k6) 0 (xW g A r5.2) dX3_markOn_14 ⟨Nat.le_of_ble_eq_true rfl, Nat.le_of_ble_eq_true rfl⟩ rfl (List.append_nil _).symm (List.append_nil _) (xW_fst _ _ _ _) rfl rfl (Nat.le_of_ble_eq_true rfl) ⟨Nat.le_refl _, Nat.le_refl _⟩ ?_
      exact VX_out C Z rfl (Nat.le_refl _) (Nat.le_refl _)
  · have h := bx_r h
    obtain rfl := Option.some.inj h
    refine V_callXt C hBA hE ml_X3_60 (pre := []) (post := []) (wc := xW g A v) (as := [.int a1]) (rest := []) (w1 := xW g A r1.2) (E := r1.1) (c_X3_requirePage hst k2) 0 (xW g A r1.2) dX3_markOn_2 ⟨Nat.le_of_ble_eq_true rfl, Nat.le_of_ble_eq_true rfl⟩ rfl (List.append_nil _).symm (List.append_nil _) (xW_fst _ _ _ _) rfl rfl (Nat.le_of_ble_eq_true rfl) ⟨Nat.le_refl _, Nat.le_refl _⟩ ?_
    exact VX_out C Z rfl (Nat.le_refl _) (Nat.le_refl _)
set_option maxHeartbeats 4000000 in
set_option maxRecDepth 100000 in
theorem c_X3_nextMark {l : Launch} {D : va_G} {g : G0} {A : XA} {v : XV} {a1 : Int32} {R : ((Int32 × XV) ⊕ (String × XV))} (hst : l.stackTraces = false) (h : f_X3_nextMark v a1 = some R) : CtX l D g yX3_nextMark cX3_nextMark 2 (some .int) (rmX 7 111 (rxI g A R)) (xW g A v) [.ref A.1, .int a1] (rxI g A R) := by
  refine CtX.of (by decide) (Nat.le_of_ble_eq_true rfl) hst ?_
  intro K C Z hBA el eD ekn
  subst el
  subst eD
  have hE := Z.2.2.1
  have hlt : ∀ i, i < 2 → i < kn K := fun i h => by rw [ekn]; exact h
  show V K 0 0 _ [(0, .ref A.1), (1, .int a1)] [] 0
  unfold f_X3_nextMark at h
  refine V_aload_n C 0 1 dX3_nextMark_0 rfl rfl ?_
  refine V_iload_n C 1 2 dX3_nextMark_1 rfl rfl ?_
  obtain ⟨r1, k2, h⟩ := bd_some h
  rcases r1 with r1 | r1
  · have h := bx_l h
    refine V_callXr C hBA hE ml_X3_60 (pre := []) (post := []) (wc := xW g A v) (as := [.int a1]) (rest := []) (w1 := xW g A r1.2) (rv := none) (c_X3_requirePage hst k2) 0 5 (mgW A r1.2.1 ++ (bkW g A.2.1 r1.2.2.1 ++ (bkW g A.2.2.1 r1.2.2.2.1 ++ (bkW g A.2.2.2.1 r1.2.2.2.2.1 ++ (hsW g A.2.2.2.2.1 A.2.2.2.2.2.2.2 r1.2.2.2.2.2.1 ++ (scW g A.2.2.2.2.2.1 r1.2.2.2.2.2.2.1 ++ (sbW g A.2.2.2.2.2.2.1 r1.2.2.2.2.2.2.2.1 ++ (hbW g A.2.2.2.2.2.2.2 r1.2.2.2.2.2.2.2.2)))))))) dX3_nextMark_2 rfl ⟨Nat.le_of_ble_eq_true rfl, Nat.le_of_ble_eq_true rfl⟩ rfl (List.append_nil _).symm (List.append_nil _) (xW_fst _ _ _ _) rfl rfl rfl (Nat.le_of_ble_eq_true rfl) ⟨Nat.zero_le _, Nat.zero_le _⟩ ?_
    refine V_aload_n C 0 6 dX3_nextMark_5 rfl rfl ?_
    refine V_aload_n C 0 7 dX3_nextMark_6 rfl rfl ?_
    refine V_get C (v := .ref A.2.1.1) 0 10 fl_X3_10 dX3_nextMark_7 rfl rfl rfl ?_
    refine V_iload_n C 1 11 dX3_nextMark_10 rfl rfl ?_
    obtain ⟨r3, k4, h⟩ := bd_some h
    refine V_callP C ml_X3_120 (pre := mgW A r1.2.1) (post := bkW g A.2.2.1 r1.2.2.2.1 ++ (bkW g A.2.2.2.1 r1.2.2.2.2.1 ++ (hsW g A.2.2.2.2.1 A.2.2.2.2.2.2.2 r1.2.2.2.2.2.1 ++ (scW g A.2.2.2.2.2.1 r1.2.2.2.2.2.2.1 ++ (sbW g A.2.2.2.2.2.2.1 r1.2.2.2.2.2.2.2.1 ++ (hbW g A.2.2.2.2.2.2.2 r1.2.2.2.2.2.2.2.2)))))) (w := bkW g A.2.1 r1.2.2.1) (as := [.int a1]) (rest := [.ref A.1]) (c_X0_slotFrom k4) 1 14 dX3_nextMark_11 rfl ⟨Nat.le_of_ble_eq_true rfl, Nat.le_of_ble_eq_true rfl⟩ rfl (by first | (simp only [List.append_assoc, List.nil_append, List.append_nil]; done) | rfl) rfl rfl rfl (Nat.le_of_ble_eq_true rfl) ⟨Nat.zero_le _, Nat.zero_le _⟩ ?_
    obtain ⟨r5, k6, h⟩ := bd_some h
    rcases r5 with r5 | r5
    · have h := bx_l h
      refine V_callXr C hBA hE ml_X3_114 (pre := []) (post := []) (wc := xW g A r1.2) (as := [.int r3]) (rest := []) (w1 := xW g A r5.2) (rv := (some (.int r5.1))) (c_X3_idOfFound hst k6) 0 17 (mgW A r5.2.1 ++ (bkW g A.2.1 r5.2.2.1 ++ (bkW g A.2.2.1 r5.2.2.2.1 ++ (bkW g A.2.2.2.1 r5.2.2.2.2.1 ++ (hsW g A.2.2.2.2.1 A.2.2.2.2.2.2.2 r5.2.2.2.2.2.1 ++ (scW g A.2.2.2.2.2.1 r5.2.2.2.2.2.2.1 ++ (sbW g A.2.2.2.2.2.2.1 r5.2.2.2.2.2.2.2.1 ++ (hbW g A.2.2.2.2.2.2.2 r5.2.2.2.2.2.2.2.2)))))))) dX3_nextMark_14 rfl ⟨Nat.le_of_ble_eq_true rfl, Nat.le_of_ble_eq_true rfl⟩ rfl (List.append_nil _).symm (List.append_nil _) (xW_fst _ _ _ _) rfl rfl rfl (Nat.le_of_ble_eq_true rfl) ⟨Nat.zero_le _, Nat.zero_le _⟩ ?_
      obtain rfl := Option.some.inj h
      exact V_xretI C Z (ty := .int) rfl (rfl) rfl dX3_nextMark_17 (Nat.le_refl _) (Nat.le_refl _)
    · have h := bx_r h
      obtain rfl := Option.some.inj h
      refine V_callXt C hBA hE ml_X3_114 (pre := []) (post := []) (wc := xW g A r1.2) (as := [.int r3]) (rest := []) (w1 := xW g A r5.2) (E := r5.1) (c_X3_idOfFound hst k6) 0 (xW g A r5.2) dX3_nextMark_14 ⟨Nat.le_of_ble_eq_true rfl, Nat.le_of_ble_eq_true rfl⟩ rfl (List.append_nil _).symm (List.append_nil _) (xW_fst _ _ _ _) rfl rfl (Nat.le_of_ble_eq_true rfl) ⟨Nat.le_refl _, Nat.le_refl _⟩ ?_
      exact VX_out C Z rfl (Nat.le_refl _) (Nat.le_refl _)
  · have h := bx_r h
    obtain rfl := Option.some.inj h
    refine V_callXt C hBA hE ml_X3_60 (pre := []) (post := []) (wc := xW g A v) (as := [.int a1]) (rest := []) (w1 := xW g A r1.2) (E := r1.1) (c_X3_requirePage hst k2) 0 (xW g A r1.2) dX3_nextMark_2 ⟨Nat.le_of_ble_eq_true rfl, Nat.le_of_ble_eq_true rfl⟩ rfl (List.append_nil _).symm (List.append_nil _) (xW_fst _ _ _ _) rfl rfl (Nat.le_of_ble_eq_true rfl) ⟨Nat.le_refl _, Nat.le_refl _⟩ ?_
    exact VX_out C Z rfl (Nat.le_refl _) (Nat.le_refl _)
set_option maxHeartbeats 4000000 in
set_option maxRecDepth 100000 in
theorem c_X3_previousMark {l : Launch} {D : va_G} {g : G0} {A : XA} {v : XV} {a1 : Int32} {R : ((Int32 × XV) ⊕ (String × XV))} (hst : l.stackTraces = false) (h : f_X3_previousMark v a1 = some R) : CtX l D g yX3_previousMark cX3_previousMark 2 (some .int) (rmX 7 111 (rxI g A R)) (xW g A v) [.ref A.1, .int a1] (rxI g A R) := by
  refine CtX.of (by decide) (Nat.le_of_ble_eq_true rfl) hst ?_
  intro K C Z hBA el eD ekn
  subst el
  subst eD
  have hE := Z.2.2.1
  have hlt : ∀ i, i < 2 → i < kn K := fun i h => by rw [ekn]; exact h
  show V K 0 0 _ [(0, .ref A.1), (1, .int a1)] [] 0
  unfold f_X3_previousMark at h
  refine V_aload_n C 0 1 dX3_previousMark_0 rfl rfl ?_
  refine V_iload_n C 1 2 dX3_previousMark_1 rfl rfl ?_
  obtain ⟨r1, k2, h⟩ := bd_some h
  rcases r1 with r1 | r1
  · have h := bx_l h
    refine V_callXr C hBA hE ml_X3_60 (pre := []) (post := []) (wc := xW g A v) (as := [.int a1]) (rest := []) (w1 := xW g A r1.2) (rv := none) (c_X3_requirePage hst k2) 0 5 (mgW A r1.2.1 ++ (bkW g A.2.1 r1.2.2.1 ++ (bkW g A.2.2.1 r1.2.2.2.1 ++ (bkW g A.2.2.2.1 r1.2.2.2.2.1 ++ (hsW g A.2.2.2.2.1 A.2.2.2.2.2.2.2 r1.2.2.2.2.2.1 ++ (scW g A.2.2.2.2.2.1 r1.2.2.2.2.2.2.1 ++ (sbW g A.2.2.2.2.2.2.1 r1.2.2.2.2.2.2.2.1 ++ (hbW g A.2.2.2.2.2.2.2 r1.2.2.2.2.2.2.2.2)))))))) dX3_previousMark_2 rfl ⟨Nat.le_of_ble_eq_true rfl, Nat.le_of_ble_eq_true rfl⟩ rfl (List.append_nil _).symm (List.append_nil _) (xW_fst _ _ _ _) rfl rfl rfl (Nat.le_of_ble_eq_true rfl) ⟨Nat.zero_le _, Nat.zero_le _⟩ ?_
    refine V_aload_n C 0 6 dX3_previousMark_5 rfl rfl ?_
    refine V_aload_n C 0 7 dX3_previousMark_6 rfl rfl ?_
    refine V_get C (v := .ref A.2.1.1) 0 10 fl_X3_10 dX3_previousMark_7 rfl rfl rfl ?_
    refine V_iload_n C 1 11 dX3_previousMark_10 rfl rfl ?_
    obtain ⟨r3, k4, h⟩ := bd_some h
    refine V_callP C ml_X3_123 (pre := mgW A r1.2.1) (post := bkW g A.2.2.1 r1.2.2.2.1 ++ (bkW g A.2.2.2.1 r1.2.2.2.2.1 ++ (hsW g A.2.2.2.2.1 A.2.2.2.2.2.2.2 r1.2.2.2.2.2.1 ++ (scW g A.2.2.2.2.2.1 r1.2.2.2.2.2.2.1 ++ (sbW g A.2.2.2.2.2.2.1 r1.2.2.2.2.2.2.2.1 ++ (hbW g A.2.2.2.2.2.2.2 r1.2.2.2.2.2.2.2.2)))))) (w := bkW g A.2.1 r1.2.2.1) (as := [.int a1]) (rest := [.ref A.1]) (c_X0_slotUpTo k4) 1 14 dX3_previousMark_11 rfl ⟨Nat.le_of_ble_eq_true rfl, Nat.le_of_ble_eq_true rfl⟩ rfl (by first | (simp only [List.append_assoc, List.nil_append, List.append_nil]; done) | rfl) rfl rfl rfl (Nat.le_of_ble_eq_true rfl) ⟨Nat.zero_le _, Nat.zero_le _⟩ ?_
    obtain ⟨r5, k6, h⟩ := bd_some h
    rcases r5 with r5 | r5
    · have h := bx_l h
      refine V_callXr C hBA hE ml_X3_114 (pre := []) (post := []) (wc := xW g A r1.2) (as := [.int r3]) (rest := []) (w1 := xW g A r5.2) (rv := (some (.int r5.1))) (c_X3_idOfFound hst k6) 0 17 (mgW A r5.2.1 ++ (bkW g A.2.1 r5.2.2.1 ++ (bkW g A.2.2.1 r5.2.2.2.1 ++ (bkW g A.2.2.2.1 r5.2.2.2.2.1 ++ (hsW g A.2.2.2.2.1 A.2.2.2.2.2.2.2 r5.2.2.2.2.2.1 ++ (scW g A.2.2.2.2.2.1 r5.2.2.2.2.2.2.1 ++ (sbW g A.2.2.2.2.2.2.1 r5.2.2.2.2.2.2.2.1 ++ (hbW g A.2.2.2.2.2.2.2 r5.2.2.2.2.2.2.2.2)))))))) dX3_previousMark_14 rfl ⟨Nat.le_of_ble_eq_true rfl, Nat.le_of_ble_eq_true rfl⟩ rfl (List.append_nil _).symm (List.append_nil _) (xW_fst _ _ _ _) rfl rfl rfl (Nat.le_of_ble_eq_true rfl) ⟨Nat.zero_le _, Nat.zero_le _⟩ ?_
      obtain rfl := Option.some.inj h
      exact V_xretI C Z (ty := .int) rfl (rfl) rfl dX3_previousMark_17 (Nat.le_refl _) (Nat.le_refl _)
    · have h := bx_r h
      obtain rfl := Option.some.inj h
      refine V_callXt C hBA hE ml_X3_114 (pre := []) (post := []) (wc := xW g A r1.2) (as := [.int r3]) (rest := []) (w1 := xW g A r5.2) (E := r5.1) (c_X3_idOfFound hst k6) 0 (xW g A r5.2) dX3_previousMark_14 ⟨Nat.le_of_ble_eq_true rfl, Nat.le_of_ble_eq_true rfl⟩ rfl (List.append_nil _).symm (List.append_nil _) (xW_fst _ _ _ _) rfl rfl (Nat.le_of_ble_eq_true rfl) ⟨Nat.le_refl _, Nat.le_refl _⟩ ?_
      exact VX_out C Z rfl (Nat.le_refl _) (Nat.le_refl _)
  · have h := bx_r h
    obtain rfl := Option.some.inj h
    refine V_callXt C hBA hE ml_X3_60 (pre := []) (post := []) (wc := xW g A v) (as := [.int a1]) (rest := []) (w1 := xW g A r1.2) (E := r1.1) (c_X3_requirePage hst k2) 0 (xW g A r1.2) dX3_previousMark_2 ⟨Nat.le_of_ble_eq_true rfl, Nat.le_of_ble_eq_true rfl⟩ rfl (List.append_nil _).symm (List.append_nil _) (xW_fst _ _ _ _) rfl rfl (Nat.le_of_ble_eq_true rfl) ⟨Nat.le_refl _, Nat.le_refl _⟩ ?_
    exact VX_out C Z rfl (Nat.le_refl _) (Nat.le_refl _)
set_option maxHeartbeats 4000000 in
set_option maxRecDepth 100000 in
theorem c_X3_nearestMark {l : Launch} {D : va_G} {g : G0} {A : XA} {v : XV} {a1 : Int32} {R : ((Int32 × XV) ⊕ (String × XV))} (hst : l.stackTraces = false) (h : f_X3_nearestMark v a1 = some R) : CtX l D g yX3_nearestMark cX3_nearestMark 2 (some .int) (rmX 7 111 (rxI g A R)) (xW g A v) [.ref A.1, .int a1] (rxI g A R) := by
  refine CtX.of (by decide) (Nat.le_of_ble_eq_true rfl) hst ?_
  intro K C Z hBA el eD ekn
  subst el
  subst eD
  have hE := Z.2.2.1
  have hlt : ∀ i, i < 2 → i < kn K := fun i h => by rw [ekn]; exact h
  show V K 0 0 _ [(0, .ref A.1), (1, .int a1)] [] 0
  unfold f_X3_nearestMark at h
  refine V_aload_n C 0 1 dX3_nearestMark_0 rfl rfl ?_
  refine V_iload_n C 1 2 dX3_nearestMark_1 rfl rfl ?_
  obtain ⟨r1, k2, h⟩ := bd_some h
  rcases r1 with r1 | r1
  · have h := bx_l h
    refine V_callXr C hBA hE ml_X3_60 (pre := []) (post := []) (wc := xW g A v) (as := [.int a1]) (rest := []) (w1 := xW g A r1.2) (rv := none) (c_X3_requirePage hst k2) 0 5 (mgW A r1.2.1 ++ (bkW g A.2.1 r1.2.2.1 ++ (bkW g A.2.2.1 r1.2.2.2.1 ++ (bkW g A.2.2.2.1 r1.2.2.2.2.1 ++ (hsW g A.2.2.2.2.1 A.2.2.2.2.2.2.2 r1.2.2.2.2.2.1 ++ (scW g A.2.2.2.2.2.1 r1.2.2.2.2.2.2.1 ++ (sbW g A.2.2.2.2.2.2.1 r1.2.2.2.2.2.2.2.1 ++ (hbW g A.2.2.2.2.2.2.2 r1.2.2.2.2.2.2.2.2)))))))) dX3_nearestMark_2 rfl ⟨Nat.le_of_ble_eq_true rfl, Nat.le_of_ble_eq_true rfl⟩ rfl (List.append_nil _).symm (List.append_nil _) (xW_fst _ _ _ _) rfl rfl rfl (Nat.le_of_ble_eq_true rfl) ⟨Nat.zero_le _, Nat.zero_le _⟩ ?_
    refine V_aload_n C 0 6 dX3_nearestMark_5 rfl rfl ?_
    refine V_aload_n C 0 7 dX3_nearestMark_6 rfl rfl ?_
    refine V_get C (v := .ref A.2.1.1) 0 10 fl_X3_10 dX3_nearestMark_7 rfl rfl rfl ?_
    refine V_iload_n C 1 11 dX3_nearestMark_10 rfl rfl ?_
    obtain ⟨r3, k4, h⟩ := bd_some h
    refine V_callP C ml_X3_126 (pre := mgW A r1.2.1) (post := bkW g A.2.2.1 r1.2.2.2.1 ++ (bkW g A.2.2.2.1 r1.2.2.2.2.1 ++ (hsW g A.2.2.2.2.1 A.2.2.2.2.2.2.2 r1.2.2.2.2.2.1 ++ (scW g A.2.2.2.2.2.1 r1.2.2.2.2.2.2.1 ++ (sbW g A.2.2.2.2.2.2.1 r1.2.2.2.2.2.2.2.1 ++ (hbW g A.2.2.2.2.2.2.2 r1.2.2.2.2.2.2.2.2)))))) (w := bkW g A.2.1 r1.2.2.1) (as := [.int a1]) (rest := [.ref A.1]) (c_X0_slotNearest k4) 1 14 dX3_nearestMark_11 rfl ⟨Nat.le_of_ble_eq_true rfl, Nat.le_of_ble_eq_true rfl⟩ rfl (by first | (simp only [List.append_assoc, List.nil_append, List.append_nil]; done) | rfl) rfl rfl rfl (Nat.le_of_ble_eq_true rfl) ⟨Nat.zero_le _, Nat.zero_le _⟩ ?_
    obtain ⟨r5, k6, h⟩ := bd_some h
    rcases r5 with r5 | r5
    · have h := bx_l h
      refine V_callXr C hBA hE ml_X3_114 (pre := []) (post := []) (wc := xW g A r1.2) (as := [.int r3]) (rest := []) (w1 := xW g A r5.2) (rv := (some (.int r5.1))) (c_X3_idOfFound hst k6) 0 17 (mgW A r5.2.1 ++ (bkW g A.2.1 r5.2.2.1 ++ (bkW g A.2.2.1 r5.2.2.2.1 ++ (bkW g A.2.2.2.1 r5.2.2.2.2.1 ++ (hsW g A.2.2.2.2.1 A.2.2.2.2.2.2.2 r5.2.2.2.2.2.1 ++ (scW g A.2.2.2.2.2.1 r5.2.2.2.2.2.2.1 ++ (sbW g A.2.2.2.2.2.2.1 r5.2.2.2.2.2.2.2.1 ++ (hbW g A.2.2.2.2.2.2.2 r5.2.2.2.2.2.2.2.2)))))))) dX3_nearestMark_14 rfl ⟨Nat.le_of_ble_eq_true rfl, Nat.le_of_ble_eq_true rfl⟩ rfl (List.append_nil _).symm (List.append_nil _) (xW_fst _ _ _ _) rfl rfl rfl (Nat.le_of_ble_eq_true rfl) ⟨Nat.zero_le _, Nat.zero_le _⟩ ?_
      obtain rfl := Option.some.inj h
      exact V_xretI C Z (ty := .int) rfl (rfl) rfl dX3_nearestMark_17 (Nat.le_refl _) (Nat.le_refl _)
    · have h := bx_r h
      obtain rfl := Option.some.inj h
      refine V_callXt C hBA hE ml_X3_114 (pre := []) (post := []) (wc := xW g A r1.2) (as := [.int r3]) (rest := []) (w1 := xW g A r5.2) (E := r5.1) (c_X3_idOfFound hst k6) 0 (xW g A r5.2) dX3_nearestMark_14 ⟨Nat.le_of_ble_eq_true rfl, Nat.le_of_ble_eq_true rfl⟩ rfl (List.append_nil _).symm (List.append_nil _) (xW_fst _ _ _ _) rfl rfl (Nat.le_of_ble_eq_true rfl) ⟨Nat.le_refl _, Nat.le_refl _⟩ ?_
      exact VX_out C Z rfl (Nat.le_refl _) (Nat.le_refl _)
  · have h := bx_r h
    obtain rfl := Option.some.inj h
    refine V_callXt C hBA hE ml_X3_60 (pre := []) (post := []) (wc := xW g A v) (as := [.int a1]) (rest := []) (w1 := xW g A r1.2) (E := r1.1) (c_X3_requirePage hst k2) 0 (xW g A r1.2) dX3_nearestMark_2 ⟨Nat.le_of_ble_eq_true rfl, Nat.le_of_ble_eq_true rfl⟩ rfl (List.append_nil _).symm (List.append_nil _) (xW_fst _ _ _ _) rfl rfl (Nat.le_of_ble_eq_true rfl) ⟨Nat.le_refl _, Nat.le_refl _⟩ ?_
    exact VX_out C Z rfl (Nat.le_refl _) (Nat.le_refl _)
set_option maxHeartbeats 4000000 in
set_option maxRecDepth 100000 in
theorem c_X3_chapterOf {l : Launch} {D : va_G} {g : G0} {A : XA} {v : XV} {a1 : Int32} {R : ((Int32 × XV) ⊕ (String × XV))} (hst : l.stackTraces = false) (h : f_X3_chapterOf v a1 = some R) : CtX l D g yX3_chapterOf cX3_chapterOf 2 (some .int) (rmX 7 111 (rxI g A R)) (xW g A v) [.ref A.1, .int a1] (rxI g A R) := by
  refine CtX.of (by decide) (Nat.le_of_ble_eq_true rfl) hst ?_
  intro K C Z hBA el eD ekn
  subst el
  subst eD
  have hE := Z.2.2.1
  have hlt : ∀ i, i < 2 → i < kn K := fun i h => by rw [ekn]; exact h
  show V K 0 0 _ [(0, .ref A.1), (1, .int a1)] [] 0
  unfold f_X3_chapterOf at h
  refine V_aload_n C 0 1 dX3_chapterOf_0 rfl rfl ?_
  refine V_iload_n C 1 2 dX3_chapterOf_1 rfl rfl ?_
  obtain ⟨r1, k2, h⟩ := bd_some h
  rcases r1 with r1 | r1
  · have h := bx_l h
    refine V_callXr C hBA hE ml_X3_60 (pre := []) (post := []) (wc := xW g A v) (as := [.int a1]) (rest := []) (w1 := xW g A r1.2) (rv := none) (c_X3_requirePage hst k2) 0 5 (mgW A r1.2.1 ++ (bkW g A.2.1 r1.2.2.1 ++ (bkW g A.2.2.1 r1.2.2.2.1 ++ (bkW g A.2.2.2.1 r1.2.2.2.2.1 ++ (hsW g A.2.2.2.2.1 A.2.2.2.2.2.2.2 r1.2.2.2.2.2.1 ++ (scW g A.2.2.2.2.2.1 r1.2.2.2.2.2.2.1 ++ (sbW g A.2.2.2.2.2.2.1 r1.2.2.2.2.2.2.2.1 ++ (hbW g A.2.2.2.2.2.2.2 r1.2.2.2.2.2.2.2.2)))))))) dX3_chapterOf_2 rfl ⟨Nat.le_of_ble_eq_true rfl, Nat.le_of_ble_eq_true rfl⟩ rfl (List.append_nil _).symm (List.append_nil _) (xW_fst _ _ _ _) rfl rfl rfl (Nat.le_of_ble_eq_true rfl) ⟨Nat.zero_le _, Nat.zero_le _⟩ ?_
    refine V_aload_n C 0 6 dX3_chapterOf_5 rfl rfl ?_
    refine V_get C (v := .ref A.2.1.1) 0 9 fl_X3_10 dX3_chapterOf_6 rfl rfl rfl ?_
    refine V_iload_n C 1 10 dX3_chapterOf_9 rfl rfl ?_
    obtain ⟨r3, k4, h⟩ := bd_some h
    refine V_callP C ml_X3_129 (pre := mgW A r1.2.1) (post := bkW g A.2.2.1 r1.2.2.2.1 ++ (bkW g A.2.2.2.1 r1.2.2.2.2.1 ++ (hsW g A.2.2.2.2.1 A.2.2.2.2.2.2.2 r1.2.2.2.2.2.1 ++ (scW g A.2.2.2.2.2.1 r1.2.2.2.2.2.2.1 ++ (sbW g A.2.2.2.2.2.2.1 r1.2.2.2.2.2.2.2.1 ++ (hbW g A.2.2.2.2.2.2.2 r1.2.2.2.2.2.2.2.2)))))) (w := bkW g A.2.1 r1.2.2.1) (as := [.int a1]) (rest := []) (c_X0_chapterWith k4) 1 13 dX3_chapterOf_10 rfl ⟨Nat.le_of_ble_eq_true rfl, Nat.le_of_ble_eq_true rfl⟩ rfl (by first | (simp only [List.append_assoc, List.nil_append, List.append_nil]; done) | rfl) rfl rfl rfl (Nat.le_of_ble_eq_true rfl) ⟨Nat.zero_le _, Nat.zero_le _⟩ ?_
    obtain rfl := Option.some.inj h
    exact V_xretI C Z (ty := .int) rfl (rfl) rfl dX3_chapterOf_13 (Nat.le_refl _) (Nat.le_refl _)
  · have h := bx_r h
    obtain rfl := Option.some.inj h
    refine V_callXt C hBA hE ml_X3_60 (pre := []) (post := []) (wc := xW g A v) (as := [.int a1]) (rest := []) (w1 := xW g A r1.2) (E := r1.1) (c_X3_requirePage hst k2) 0 (xW g A r1.2) dX3_chapterOf_2 ⟨Nat.le_of_ble_eq_true rfl, Nat.le_of_ble_eq_true rfl⟩ rfl (List.append_nil _).symm (List.append_nil _) (xW_fst _ _ _ _) rfl rfl (Nat.le_of_ble_eq_true rfl) ⟨Nat.le_refl _, Nat.le_refl _⟩ ?_
    exact VX_out C Z rfl (Nat.le_refl _) (Nat.le_refl _)
set_option maxHeartbeats 4000000 in
set_option maxRecDepth 100000 in
theorem c_X3_startChapter {l : Launch} {D : va_G} {g : G0} {A : XA} {v : XV} {a1 : Int32} {R : ((Int32 × XV) ⊕ (String × XV))} (hst : l.stackTraces = false) (h : f_X3_startChapter v a1 = some R) : CtX l D g yX3_startChapter cX3_startChapter 2 (some .int) (rmX 7 140 (rxI g A R)) (xW g A v) [.ref A.1, .int a1] (rxI g A R) := by
  refine CtX.of (by decide) (Nat.le_of_ble_eq_true rfl) hst ?_
  intro K C Z hBA el eD ekn
  subst el
  subst eD
  have hE := Z.2.2.1
  have hlt : ∀ i, i < 2 → i < kn K := fun i h => by rw [ekn]; exact h
  show V K 0 0 _ [(0, .ref A.1), (1, .int a1)] [] 0
  unfold f_X3_startChapter at h
  refine V_aload_n C 0 1 dX3_startChapter_0 rfl rfl ?_
  refine V_iload_n C 1 2 dX3_startChapter_1 rfl rfl ?_
  obtain ⟨r1, k2, h⟩ := bd_some h
  rcases r1 with r1 | r1
  · have h := bx_l h
    refine V_callXr C hBA hE ml_X3_60 (pre := []) (post := []) (wc := xW g A v) (as := [.int a1]) (rest := []) (w1 := xW g A r1.2) (rv := none) (c_X3_requirePage hst k2) 0 5 (mgW A r1.2.1 ++ (bkW g A.2.1 r1.2.2.1 ++ (bkW g A.2.2.1 r1.2.2.2.1 ++ (bkW g A.2.2.2.1 r1.2.2.2.2.1 ++ (hsW g A.2.2.2.2.1 A.2.2.2.2.2.2.2 r1.2.2.2.2.2.1 ++ (scW g A.2.2.2.2.2.1 r1.2.2.2.2.2.2.1 ++ (sbW g A.2.2.2.2.2.2.1 r1.2.2.2.2.2.2.2.1 ++ (hbW g A.2.2.2.2.2.2.2 r1.2.2.2.2.2.2.2.2)))))))) dX3_startChapter_2 rfl ⟨Nat.le_of_ble_eq_true rfl, Nat.le_of_ble_eq_true rfl⟩ rfl (List.append_nil _).symm (List.append_nil _) (xW_fst _ _ _ _) rfl rfl rfl (Nat.le_of_ble_eq_true rfl) ⟨Nat.zero_le _, Nat.zero_le _⟩ ?_
    refine V_aload_n C 0 6 dX3_startChapter_5 rfl rfl ?_
    refine V_bipush C (67 : Int32) 8 dX3_startChapter_6 rfl rfl ?_
    refine V_iload_n C 1 9 dX3_startChapter_8 rfl rfl ?_
    refine V_iconst C (0 : Int32) 10 dX3_startChapter_9 rfl rfl ?_
    obtain ⟨r3, k4, h⟩ := bd_some h
    rcases r3 with r3 | r3
    · have h := bx_l h
      refine V_callXr C hBA hE ml_X3_67 (pre := []) (post := []) (wc := xW g A r1.2) (as := [.int (67 : Int32), .int a1, .int (0 : Int32)]) (rest := []) (w1 := xW g A r3.2) (rv := (some (.int r3.1))) (c_X3_changeUnlessRejected hst k4) 0 13 (mgW A r3.2.1 ++ (bkW g A.2.1 r3.2.2.1 ++ (bkW g A.2.2.1 r3.2.2.2.1 ++ (bkW g A.2.2.2.1 r3.2.2.2.2.1 ++ (hsW g A.2.2.2.2.1 A.2.2.2.2.2.2.2 r3.2.2.2.2.2.1 ++ (scW g A.2.2.2.2.2.1 r3.2.2.2.2.2.2.1 ++ (sbW g A.2.2.2.2.2.2.1 r3.2.2.2.2.2.2.2.1 ++ (hbW g A.2.2.2.2.2.2.2 r3.2.2.2.2.2.2.2.2)))))))) dX3_startChapter_10 rfl ⟨Nat.le_of_ble_eq_true rfl, Nat.le_of_ble_eq_true rfl⟩ rfl (List.append_nil _).symm (List.append_nil _) (xW_fst _ _ _ _) rfl rfl rfl (Nat.le_of_ble_eq_true rfl) ⟨Nat.zero_le _, Nat.zero_le _⟩ ?_
      obtain rfl := Option.some.inj h
      exact V_xretI C Z (ty := .int) rfl (rfl) rfl dX3_startChapter_13 (Nat.le_refl _) (Nat.le_refl _)
    · have h := bx_r h
      obtain rfl := Option.some.inj h
      refine V_callXt C hBA hE ml_X3_67 (pre := []) (post := []) (wc := xW g A r1.2) (as := [.int (67 : Int32), .int a1, .int (0 : Int32)]) (rest := []) (w1 := xW g A r3.2) (E := r3.1) (c_X3_changeUnlessRejected hst k4) 0 (xW g A r3.2) dX3_startChapter_10 ⟨Nat.le_of_ble_eq_true rfl, Nat.le_of_ble_eq_true rfl⟩ rfl (List.append_nil _).symm (List.append_nil _) (xW_fst _ _ _ _) rfl rfl (Nat.le_of_ble_eq_true rfl) ⟨Nat.le_refl _, Nat.le_refl _⟩ ?_
      exact VX_out C Z rfl (Nat.le_refl _) (Nat.le_refl _)
  · have h := bx_r h
    obtain rfl := Option.some.inj h
    refine V_callXt C hBA hE ml_X3_60 (pre := []) (post := []) (wc := xW g A v) (as := [.int a1]) (rest := []) (w1 := xW g A r1.2) (E := r1.1) (c_X3_requirePage hst k2) 0 (xW g A r1.2) dX3_startChapter_2 ⟨Nat.le_of_ble_eq_true rfl, Nat.le_of_ble_eq_true rfl⟩ rfl (List.append_nil _).symm (List.append_nil _) (xW_fst _ _ _ _) rfl rfl (Nat.le_of_ble_eq_true rfl) ⟨Nat.le_refl _, Nat.le_refl _⟩ ?_
    exact VX_out C Z rfl (Nat.le_refl _) (Nat.le_refl _)
set_option maxHeartbeats 4000000 in
set_option maxRecDepth 100000 in
theorem c_X3_requireChapter {l : Launch} {D : va_G} {g : G0} {A : XA} {v : XV} {a1 : Int32} {R : ((Int32 × XV) ⊕ (String × XV))} (hst : l.stackTraces = false) (h : f_X3_requireChapter v a1 = some R) : CtX l D g yX3_requireChapter cX3_requireChapter 2 none (rmX 6 90 (rxV g A R)) (xW g A v) [.ref A.1, .int a1] (rxV g A R) := by
  refine CtX.of (by decide) (Nat.le_of_ble_eq_true rfl) hst ?_
  intro K C Z hBA el eD ekn
  subst el
  subst eD
  have hE := Z.2.2.1
  have hlt : ∀ i, i < 2 → i < kn K := fun i h => by rw [ekn]; exact h
  show V K 0 0 _ [(0, .ref A.1), (1, .int a1)] [] 0
  unfold f_X3_requireChapter at h
  refine V_aload_n C 0 1 dX3_requireChapter_0 rfl rfl ?_
  refine V_get C (v := .ref A.2.1.1) 0 4 fl_X3_10 dX3_requireChapter_1 rfl rfl rfl ?_
  refine V_iload_n C 1 5 dX3_requireChapter_4 rfl rfl ?_
  obtain ⟨r1, k2, h⟩ := bd_some h
  refine V_callP C ml_X3_345 (pre := mgW A v.1) (post := bkW g A.2.2.1 v.2.2.1 ++ (bkW g A.2.2.2.1 v.2.2.2.1 ++ (hsW g A.2.2.2.2.1 A.2.2.2.2.2.2.2 v.2.2.2.2.1 ++ (scW g A.2.2.2.2.2.1 v.2.2.2.2.2.1 ++ (sbW g A.2.2.2.2.2.2.1 v.2.2.2.2.2.2.1 ++ (hbW g A.2.2.2.2.2.2.2 v.2.2.2.2.2.2.2)))))) (w := bkW g A.2.1 v.2.1) (as := [.int a1]) (rest := []) (c_X0_hasChapter k2) 1 8 dX3_requireChapter_5 rfl ⟨Nat.le_of_ble_eq_true rfl, Nat.le_of_ble_eq_true rfl⟩ rfl (by first | (simp only [List.append_assoc, List.nil_append, List.append_nil]; done) | rfl) rfl rfl rfl (Nat.le_of_ble_eq_true rfl) ⟨Nat.zero_le _, Nat.zero_le _⟩ ?_
  refine V_if_ne C 22 11 dX3_requireChapter_8 rfl rfl (fun e3 => ?_) (fun e3 => ?_)
  · have h := (if_neg e3).symm.trans h
    obtain rfl := Option.some.inj h
    exact V_xretV C Z rfl rfl dX3_requireChapter_22 (Nat.le_refl _) (Nat.le_refl _)
  · have h := (if_pos e3).symm.trans h
    obtain rfl := Option.some.inj h
    exact V_throwW C Z tl_X3_106_110_348 dX3_requireChapter_11 dX3_requireChapter_14 dX3_requireChapter_15 dX3_requireChapter_18 dX3_requireChapter_21 ⟨Nat.le_of_ble_eq_true rfl, Nat.le_of_ble_eq_true rfl, Nat.le_refl _, Nat.le_refl _⟩ rfl (Nat.le_refl _) (Nat.le_refl _)
set_option maxHeartbeats 4000000 in
set_option maxRecDepth 100000 in
theorem c_X3_voteToDissolve {l : Launch} {D : va_G} {g : G0} {A : XA} {v : XV} {a1 : Int32} {R : ((Int32 × XV) ⊕ (String × XV))} (hst : l.stackTraces = false) (h : f_X3_voteToDissolve v a1 = some R) : CtX l D g yX3_voteToDissolve cX3_voteToDissolve 2 (some .boolean) (rmX 7 140 (rxI g A R)) (xW g A v) [.ref A.1, .int a1] (rxI g A R) := by
  refine CtX.of (by decide) (Nat.le_of_ble_eq_true rfl) hst ?_
  intro K C Z hBA el eD ekn
  subst el
  subst eD
  have hE := Z.2.2.1
  have hlt : ∀ i, i < 2 → i < kn K := fun i h => by rw [ekn]; exact h
  have B22 : ∀ (x1 : Int32) (s0 : Int32) (v : XV), f_X3_voteToDissolve_B22 x1 s0 v = some R → V K 0 0 (mgW A v.1 ++ (bkW g A.2.1 v.2.1 ++ (bkW g A.2.2.1 v.2.2.1 ++ (bkW g A.2.2.2.1 v.2.2.2.1 ++ (hsW g A.2.2.2.2.1 A.2.2.2.2.2.2.2 v.2.2.2.2.1 ++ (scW g A.2.2.2.2.2.1 v.2.2.2.2.2.1 ++ (sbW g A.2.2.2.2.2.2.1 v.2.2.2.2.2.2.1 ++ (hbW g A.2.2.2.2.2.2.2 v.2.2.2.2.2.2.2)))))))) [(0, .ref A.1), (1, .int x1)] [.int s0] 22 := by
    intro x1 s0 v h
    rw [f_X3_voteToDissolve_B22] at h
    obtain ⟨g1, h⟩ := gd_some h
    obtain rfl := Option.some.inj h
    exact V_xretI C Z (ty := .boolean) rfl (isz_t g1) rfl dX3_voteToDissolve_22 (Nat.le_refl _) (Nat.le_refl _)
  show V K 0 0 _ [(0, .ref A.1), (1, .int a1)] [] 0
  unfold f_X3_voteToDissolve at h
  refine V_aload_n C 0 1 dX3_voteToDissolve_0 rfl rfl ?_
  refine V_iload_n C 1 2 dX3_voteToDissolve_1 rfl rfl ?_
  obtain ⟨r2, k3, h⟩ := bd_some h
  rcases r2 with r2 | r2
  · have h := bx_l h
    refine V_callXr C hBA hE ml_X3_132 (pre := []) (post := []) (wc := xW g A v) (as := [.int a1]) (rest := []) (w1 := xW g A r2.2) (rv := none) (c_X3_requireChapter hst k3) 0 5 (mgW A r2.2.1 ++ (bkW g A.2.1 r2.2.2.1 ++ (bkW g A.2.2.1 r2.2.2.2.1 ++ (bkW g A.2.2.2.1 r2.2.2.2.2.1 ++ (hsW g A.2.2.2.2.1 A.2.2.2.2.2.2.2 r2.2.2.2.2.2.1 ++ (scW g A.2.2.2.2.2.1 r2.2.2.2.2.2.2.1 ++ (sbW g A.2.2.2.2.2.2.1 r2.2.2.2.2.2.2.2.1 ++ (hbW g A.2.2.2.2.2.2.2 r2.2.2.2.2.2.2.2.2)))))))) dX3_voteToDissolve_2 rfl ⟨Nat.le_of_ble_eq_true rfl, Nat.le_of_ble_eq_true rfl⟩ rfl (List.append_nil _).symm (List.append_nil _) (xW_fst _ _ _ _) rfl rfl rfl (Nat.le_of_ble_eq_true rfl) ⟨Nat.zero_le _, Nat.zero_le _⟩ ?_
    refine V_aload_n C 0 6 dX3_voteToDissolve_5 rfl rfl ?_
    refine V_bipush C (86 : Int32) 8 dX3_voteToDissolve_6 rfl rfl ?_
    refine V_iload_n C 1 9 dX3_voteToDissolve_8 rfl rfl ?_
    refine V_iconst C (0 : Int32) 10 dX3_voteToDissolve_9 rfl rfl ?_
    obtain ⟨r4, k5, h⟩ := bd_some h
    rcases r4 with r4 | r4
    · have h := bx_l h
      refine V_callXr C hBA hE ml_X3_67 (pre := []) (post := []) (wc := xW g A r2.2) (as := [.int (86 : Int32), .int a1, .int (0 : Int32)]) (rest := []) (w1 := xW g A r4.2) (rv := (some (.int r4.1))) (c_X3_changeUnlessRejected hst k5) 0 13 (mgW A r4.2.1 ++ (bkW g A.2.1 r4.2.2.1 ++ (bkW g A.2.2.1 r4.2.2.2.1 ++ (bkW g A.2.2.2.1 r4.2.2.2.2.1 ++ (hsW g A.2.2.2.2.1 A.2.2.2.2.2.2.2 r4.2.2.2.2.2.1 ++ (scW g A.2.2.2.2.2.1 r4.2.2.2.2.2.2.1 ++ (sbW g A.2.2.2.2.2.2.1 r4.2.2.2.2.2.2.2.1 ++ (hbW g A.2.2.2.2.2.2.2 r4.2.2.2.2.2.2.2.2)))))))) dX3_voteToDissolve_10 rfl ⟨Nat.le_of_ble_eq_true rfl, Nat.le_of_ble_eq_true rfl⟩ rfl (List.append_nil _).symm (List.append_nil _) (xW_fst _ _ _ _) rfl rfl rfl (Nat.le_of_ble_eq_true rfl) ⟨Nat.zero_le _, Nat.zero_le _⟩ ?_
      refine V_iconst C (1 : Int32) 14 dX3_voteToDissolve_13 rfl rfl ?_
      refine V_icmp_ne C 21 17 dX3_voteToDissolve_14 rfl rfl (fun e6 => ?_) (fun e6 => ?_)
      · have h := (if_neg e6).symm.trans h
        refine V_iconst C (0 : Int32) 22 dX3_voteToDissolve_21 rfl rfl ?_
        refine V_lv [0, 1] rfl ?_
        exact B22 _ _ _ h
      · have h := (if_pos e6).symm.trans h
        refine V_iconst C (1 : Int32) 18 dX3_voteToDissolve_17 rfl rfl ?_
        refine V_goto C 22 dX3_voteToDissolve_18 rfl ?_
        refine V_lv [0, 1] rfl ?_
        exact B22 _ _ _ h
    · have h := bx_r h
      obtain rfl := Option.some.inj h
      refine V_callXt C hBA hE ml_X3_67 (pre := []) (post := []) (wc := xW g A r2.2) (as := [.int (86 : Int32), .int a1, .int (0 : Int32)]) (rest := []) (w1 := xW g A r4.2) (E := r4.1) (c_X3_changeUnlessRejected hst k5) 0 (xW g A r4.2) dX3_voteToDissolve_10 ⟨Nat.le_of_ble_eq_true rfl, Nat.le_of_ble_eq_true rfl⟩ rfl (List.append_nil _).symm (List.append_nil _) (xW_fst _ _ _ _) rfl rfl (Nat.le_of_ble_eq_true rfl) ⟨Nat.le_refl _, Nat.le_refl _⟩ ?_
      exact VX_out C Z rfl (Nat.le_refl _) (Nat.le_refl _)
  · have h := bx_r h
    obtain rfl := Option.some.inj h
    refine V_callXt C hBA hE ml_X3_132 (pre := []) (post := []) (wc := xW g A v) (as := [.int a1]) (rest := []) (w1 := xW g A r2.2) (E := r2.1) (c_X3_requireChapter hst k3) 0 (xW g A r2.2) dX3_voteToDissolve_2 ⟨Nat.le_of_ble_eq_true rfl, Nat.le_of_ble_eq_true rfl⟩ rfl (List.append_nil _).symm (List.append_nil _) (xW_fst _ _ _ _) rfl rfl (Nat.le_of_ble_eq_true rfl) ⟨Nat.le_refl _, Nat.le_refl _⟩ ?_
    exact VX_out C Z rfl (Nat.le_refl _) (Nat.le_refl _)
set_option maxHeartbeats 4000000 in
set_option maxRecDepth 100000 in
theorem c_X3_firstPage {l : Launch} {D : va_G} {g : G0} {A : XA} {v : XV} {a1 : Int32} {R : ((Int32 × XV) ⊕ (String × XV))} (hst : l.stackTraces = false) (h : f_X3_firstPage v a1 = some R) : CtX l D g yX3_firstPage cX3_firstPage 2 (some .int) (rmX 7 111 (rxI g A R)) (xW g A v) [.ref A.1, .int a1] (rxI g A R) := by
  refine CtX.of (by decide) (Nat.le_of_ble_eq_true rfl) hst ?_
  intro K C Z hBA el eD ekn
  subst el
  subst eD
  have hE := Z.2.2.1
  have hlt : ∀ i, i < 2 → i < kn K := fun i h => by rw [ekn]; exact h
  show V K 0 0 _ [(0, .ref A.1), (1, .int a1)] [] 0
  unfold f_X3_firstPage at h
  refine V_aload_n C 0 1 dX3_firstPage_0 rfl rfl ?_
  refine V_iload_n C 1 2 dX3_firstPage_1 rfl rfl ?_
  obtain ⟨r1, k2, h⟩ := bd_some h
  rcases r1 with r1 | r1
  · have h := bx_l h
    refine V_callXr C hBA hE ml_X3_132 (pre := []) (post := []) (wc := xW g A v) (as := [.int a1]) (rest := []) (w1 := xW g A r1.2) (rv := none) (c_X3_requireChapter hst k2) 0 5 (mgW A r1.2.1 ++ (bkW g A.2.1 r1.2.2.1 ++ (bkW g A.2.2.1 r1.2.2.2.1 ++ (bkW g A.2.2.2.1 r1.2.2.2.2.1 ++ (hsW g A.2.2.2.2.1 A.2.2.2.2.2.2.2 r1.2.2.2.2.2.1 ++ (scW g A.2.2.2.2.2.1 r1.2.2.2.2.2.2.1 ++ (sbW g A.2.2.2.2.2.2.1 r1.2.2.2.2.2.2.2.1 ++ (hbW g A.2.2.2.2.2.2.2 r1.2.2.2.2.2.2.2.2)))))))) dX3_firstPage_2 rfl ⟨Nat.le_of_ble_eq_true rfl, Nat.le_of_ble_eq_true rfl⟩ rfl (List.append_nil _).symm (List.append_nil _) (xW_fst _ _ _ _) rfl rfl rfl (Nat.le_of_ble_eq_true rfl) ⟨Nat.zero_le _, Nat.zero_le _⟩ ?_
    refine V_aload_n C 0 6 dX3_firstPage_5 rfl rfl ?_
    refine V_get C (v := .ref A.2.1.1) 0 9 fl_X3_10 dX3_firstPage_6 rfl rfl rfl ?_
    refine V_get C (v := .ref A.2.1.2.2.2.2.2.2) 1 12 fl_X3_135 dX3_firstPage_9 rfl rfl rfl ?_
    refine V_iload_n C 1 13 dX3_firstPage_12 rfl rfl ?_
    obtain ⟨g3, h⟩ := gd_some h
    refine V_iald C (f := (Bk_starts r1.2.2.1)) (n := 8) 7 14 dX3_firstPage_13 rfl rfl g3 ?_
    obtain rfl := Option.some.inj h
    exact V_xretI C Z (ty := .int) rfl (rfl) rfl dX3_firstPage_14 (Nat.le_refl _) (Nat.le_refl _)
  · have h := bx_r h
    obtain rfl := Option.some.inj h
    refine V_callXt C hBA hE ml_X3_132 (pre := []) (post := []) (wc := xW g A v) (as := [.int a1]) (rest := []) (w1 := xW g A r1.2) (E := r1.1) (c_X3_requireChapter hst k2) 0 (xW g A r1.2) dX3_firstPage_2 ⟨Nat.le_of_ble_eq_true rfl, Nat.le_of_ble_eq_true rfl⟩ rfl (List.append_nil _).symm (List.append_nil _) (xW_fst _ _ _ _) rfl rfl (Nat.le_of_ble_eq_true rfl) ⟨Nat.le_refl _, Nat.le_refl _⟩ ?_
    exact VX_out C Z rfl (Nat.le_refl _) (Nat.le_refl _)
set_option maxHeartbeats 4000000 in
set_option maxRecDepth 100000 in
theorem c_X3_lastPage {l : Launch} {D : va_G} {g : G0} {A : XA} {v : XV} {a1 : Int32} {R : ((Int32 × XV) ⊕ (String × XV))} (hst : l.stackTraces = false) (h : f_X3_lastPage v a1 = some R) : CtX l D g yX3_lastPage cX3_lastPage 2 (some .int) (rmX 7 111 (rxI g A R)) (xW g A v) [.ref A.1, .int a1] (rxI g A R) := by
  refine CtX.of (by decide) (Nat.le_of_ble_eq_true rfl) hst ?_
  intro K C Z hBA el eD ekn
  subst el
  subst eD
  have hE := Z.2.2.1
  have hlt : ∀ i, i < 2 → i < kn K := fun i h => by rw [ekn]; exact h
  show V K 0 0 _ [(0, .ref A.1), (1, .int a1)] [] 0
  unfold f_X3_lastPage at h
  refine V_aload_n C 0 1 dX3_lastPage_0 rfl rfl ?_
  refine V_iload_n C 1 2 dX3_lastPage_1 rfl rfl ?_
  obtain ⟨r1, k2, h⟩ := bd_some h
  rcases r1 with r1 | r1
  · have h := bx_l h
    refine V_callXr C hBA hE ml_X3_132 (pre := []) (post := []) (wc := xW g A v) (as := [.int a1]) (rest := []) (w1 := xW g A r1.2) (rv := none) (c_X3_requireChapter hst k2) 0 5 (mgW A r1.2.1 ++ (bkW g A.2.1 r1.2.2.1 ++ (bkW g A.2.2.1 r1.2.2.2.1 ++ (bkW g A.2.2.2.1 r1.2.2.2.2.1 ++ (hsW g A.2.2.2.2.1 A.2.2.2.2.2.2.2 r1.2.2.2.2.2.1 ++ (scW g A.2.2.2.2.2.1 r1.2.2.2.2.2.2.1 ++ (sbW g A.2.2.2.2.2.2.1 r1.2.2.2.2.2.2.2.1 ++ (hbW g A.2.2.2.2.2.2.2 r1.2.2.2.2.2.2.2.2)))))))) dX3_lastPage_2 rfl ⟨Nat.le_of_ble_eq_true rfl, Nat.le_of_ble_eq_true rfl⟩ rfl (List.append_nil _).symm (List.append_nil _) (xW_fst _ _ _ _) rfl rfl rfl (Nat.le_of_ble_eq_true rfl) ⟨Nat.zero_le _, Nat.zero_le _⟩ ?_
    refine V_aload_n C 0 6 dX3_lastPage_5 rfl rfl ?_
    refine V_get C (v := .ref A.2.1.1) 0 9 fl_X3_10 dX3_lastPage_6 rfl rfl rfl ?_
    refine V_iload_n C 1 10 dX3_lastPage_9 rfl rfl ?_
    obtain ⟨r3, k4, h⟩ := bd_some h
    refine V_callP C ml_X3_138 (pre := mgW A r1.2.1) (post := bkW g A.2.2.1 r1.2.2.2.1 ++ (bkW g A.2.2.2.1 r1.2.2.2.2.1 ++ (hsW g A.2.2.2.2.1 A.2.2.2.2.2.2.2 r1.2.2.2.2.2.1 ++ (scW g A.2.2.2.2.2.1 r1.2.2.2.2.2.2.1 ++ (sbW g A.2.2.2.2.2.2.1 r1.2.2.2.2.2.2.2.1 ++ (hbW g A.2.2.2.2.2.2.2 r1.2.2.2.2.2.2.2.2)))))) (w := bkW g A.2.1 r1.2.2.1) (as := [.int a1]) (rest := []) (c_X0_endOf k4) 1 13 dX3_lastPage_10 rfl ⟨Nat.le_of_ble_eq_true rfl, Nat.le_of_ble_eq_true rfl⟩ rfl (by first | (simp only [List.append_assoc, List.nil_append, List.append_nil]; done) | rfl) rfl rfl rfl (Nat.le_of_ble_eq_true rfl) ⟨Nat.zero_le _, Nat.zero_le _⟩ ?_
    obtain rfl := Option.some.inj h
    exact V_xretI C Z (ty := .int) rfl (rfl) rfl dX3_lastPage_13 (Nat.le_refl _) (Nat.le_refl _)
  · have h := bx_r h
    obtain rfl := Option.some.inj h
    refine V_callXt C hBA hE ml_X3_132 (pre := []) (post := []) (wc := xW g A v) (as := [.int a1]) (rest := []) (w1 := xW g A r1.2) (E := r1.1) (c_X3_requireChapter hst k2) 0 (xW g A r1.2) dX3_lastPage_2 ⟨Nat.le_of_ble_eq_true rfl, Nat.le_of_ble_eq_true rfl⟩ rfl (List.append_nil _).symm (List.append_nil _) (xW_fst _ _ _ _) rfl rfl (Nat.le_of_ble_eq_true rfl) ⟨Nat.le_refl _, Nat.le_refl _⟩ ?_
    exact VX_out C Z rfl (Nat.le_refl _) (Nat.le_refl _)
set_option maxHeartbeats 4000000 in
set_option maxRecDepth 100000 in
theorem c_X3_heldPages {l : Launch} {D : va_G} {g : G0} {A : XA} {v : XV} {a1 : Int32} {R : ((Int32 × XV) ⊕ (String × XV))} (hst : l.stackTraces = false) (h : f_X3_heldPages v a1 = some R) : CtX l D g yX3_heldPages cX3_heldPages 2 (some .int) (rmX 7 111 (rxI g A R)) (xW g A v) [.ref A.1, .int a1] (rxI g A R) := by
  refine CtX.of (by decide) (Nat.le_of_ble_eq_true rfl) hst ?_
  intro K C Z hBA el eD ekn
  subst el
  subst eD
  have hE := Z.2.2.1
  have hlt : ∀ i, i < 2 → i < kn K := fun i h => by rw [ekn]; exact h
  show V K 0 0 _ [(0, .ref A.1), (1, .int a1)] [] 0
  unfold f_X3_heldPages at h
  refine V_aload_n C 0 1 dX3_heldPages_0 rfl rfl ?_
  refine V_iload_n C 1 2 dX3_heldPages_1 rfl rfl ?_
  obtain ⟨r1, k2, h⟩ := bd_some h
  rcases r1 with r1 | r1
  · have h := bx_l h
    refine V_callXr C hBA hE ml_X3_132 (pre := []) (post := []) (wc := xW g A v) (as := [.int a1]) (rest := []) (w1 := xW g A r1.2) (rv := none) (c_X3_requireChapter hst k2) 0 5 (mgW A r1.2.1 ++ (bkW g A.2.1 r1.2.2.1 ++ (bkW g A.2.2.1 r1.2.2.2.1 ++ (bkW g A.2.2.2.1 r1.2.2.2.2.1 ++ (hsW g A.2.2.2.2.1 A.2.2.2.2.2.2.2 r1.2.2.2.2.2.1 ++ (scW g A.2.2.2.2.2.1 r1.2.2.2.2.2.2.1 ++ (sbW g A.2.2.2.2.2.2.1 r1.2.2.2.2.2.2.2.1 ++ (hbW g A.2.2.2.2.2.2.2 r1.2.2.2.2.2.2.2.2)))))))) dX3_heldPages_2 rfl ⟨Nat.le_of_ble_eq_true rfl, Nat.le_of_ble_eq_true rfl⟩ rfl (List.append_nil _).symm (List.append_nil _) (xW_fst _ _ _ _) rfl rfl rfl (Nat.le_of_ble_eq_true rfl) ⟨Nat.zero_le _, Nat.zero_le _⟩ ?_
    refine V_aload_n C 0 6 dX3_heldPages_5 rfl rfl ?_
    refine V_get C (v := .ref A.2.1.1) 0 9 fl_X3_10 dX3_heldPages_6 rfl rfl rfl ?_
    refine V_iload_n C 1 10 dX3_heldPages_9 rfl rfl ?_
    obtain ⟨r3, k4, h⟩ := bd_some h
    refine V_callP C ml_X3_141 (pre := mgW A r1.2.1) (post := bkW g A.2.2.1 r1.2.2.2.1 ++ (bkW g A.2.2.2.1 r1.2.2.2.2.1 ++ (hsW g A.2.2.2.2.1 A.2.2.2.2.2.2.2 r1.2.2.2.2.2.1 ++ (scW g A.2.2.2.2.2.1 r1.2.2.2.2.2.2.1 ++ (sbW g A.2.2.2.2.2.2.1 r1.2.2.2.2.2.2.2.1 ++ (hbW g A.2.2.2.2.2.2.2 r1.2.2.2.2.2.2.2.2)))))) (w := bkW g A.2.1 r1.2.2.1) (as := [.int a1]) (rest := []) (c_X0_heldPageByPage k4) 1 13 dX3_heldPages_10 rfl ⟨Nat.le_of_ble_eq_true rfl, Nat.le_of_ble_eq_true rfl⟩ rfl (by first | (simp only [List.append_assoc, List.nil_append, List.append_nil]; done) | rfl) rfl rfl rfl (Nat.le_of_ble_eq_true rfl) ⟨Nat.zero_le _, Nat.zero_le _⟩ ?_
    obtain rfl := Option.some.inj h
    exact V_xretI C Z (ty := .int) rfl (rfl) rfl dX3_heldPages_13 (Nat.le_refl _) (Nat.le_refl _)
  · have h := bx_r h
    obtain rfl := Option.some.inj h
    refine V_callXt C hBA hE ml_X3_132 (pre := []) (post := []) (wc := xW g A v) (as := [.int a1]) (rest := []) (w1 := xW g A r1.2) (E := r1.1) (c_X3_requireChapter hst k2) 0 (xW g A r1.2) dX3_heldPages_2 ⟨Nat.le_of_ble_eq_true rfl, Nat.le_of_ble_eq_true rfl⟩ rfl (List.append_nil _).symm (List.append_nil _) (xW_fst _ _ _ _) rfl rfl (Nat.le_of_ble_eq_true rfl) ⟨Nat.le_refl _, Nat.le_refl _⟩ ?_
    exact VX_out C Z rfl (Nat.le_refl _) (Nat.le_refl _)
set_option maxHeartbeats 4000000 in
set_option maxRecDepth 100000 in
theorem c_X3_heldPagesByMarks {l : Launch} {D : va_G} {g : G0} {A : XA} {v : XV} {a1 : Int32} {R : ((Int32 × XV) ⊕ (String × XV))} (hst : l.stackTraces = false) (h : f_X3_heldPagesByMarks v a1 = some R) : CtX l D g yX3_heldPagesByMarks cX3_heldPagesByMarks 2 (some .int) (rmX 7 111 (rxI g A R)) (xW g A v) [.ref A.1, .int a1] (rxI g A R) := by
  refine CtX.of (by decide) (Nat.le_of_ble_eq_true rfl) hst ?_
  intro K C Z hBA el eD ekn
  subst el
  subst eD
  have hE := Z.2.2.1
  have hlt : ∀ i, i < 2 → i < kn K := fun i h => by rw [ekn]; exact h
  show V K 0 0 _ [(0, .ref A.1), (1, .int a1)] [] 0
  unfold f_X3_heldPagesByMarks at h
  refine V_aload_n C 0 1 dX3_heldPagesByMarks_0 rfl rfl ?_
  refine V_iload_n C 1 2 dX3_heldPagesByMarks_1 rfl rfl ?_
  obtain ⟨r1, k2, h⟩ := bd_some h
  rcases r1 with r1 | r1
  · have h := bx_l h
    refine V_callXr C hBA hE ml_X3_132 (pre := []) (post := []) (wc := xW g A v) (as := [.int a1]) (rest := []) (w1 := xW g A r1.2) (rv := none) (c_X3_requireChapter hst k2) 0 5 (mgW A r1.2.1 ++ (bkW g A.2.1 r1.2.2.1 ++ (bkW g A.2.2.1 r1.2.2.2.1 ++ (bkW g A.2.2.2.1 r1.2.2.2.2.1 ++ (hsW g A.2.2.2.2.1 A.2.2.2.2.2.2.2 r1.2.2.2.2.2.1 ++ (scW g A.2.2.2.2.2.1 r1.2.2.2.2.2.2.1 ++ (sbW g A.2.2.2.2.2.2.1 r1.2.2.2.2.2.2.2.1 ++ (hbW g A.2.2.2.2.2.2.2 r1.2.2.2.2.2.2.2.2)))))))) dX3_heldPagesByMarks_2 rfl ⟨Nat.le_of_ble_eq_true rfl, Nat.le_of_ble_eq_true rfl⟩ rfl (List.append_nil _).symm (List.append_nil _) (xW_fst _ _ _ _) rfl rfl rfl (Nat.le_of_ble_eq_true rfl) ⟨Nat.zero_le _, Nat.zero_le _⟩ ?_
    refine V_aload_n C 0 6 dX3_heldPagesByMarks_5 rfl rfl ?_
    refine V_get C (v := .ref A.2.1.1) 0 9 fl_X3_10 dX3_heldPagesByMarks_6 rfl rfl rfl ?_
    refine V_iload_n C 1 10 dX3_heldPagesByMarks_9 rfl rfl ?_
    obtain ⟨r3, k4, h⟩ := bd_some h
    refine V_callP C ml_X3_144 (pre := mgW A r1.2.1) (post := bkW g A.2.2.1 r1.2.2.2.1 ++ (bkW g A.2.2.2.1 r1.2.2.2.2.1 ++ (hsW g A.2.2.2.2.1 A.2.2.2.2.2.2.2 r1.2.2.2.2.2.1 ++ (scW g A.2.2.2.2.2.1 r1.2.2.2.2.2.2.1 ++ (sbW g A.2.2.2.2.2.2.1 r1.2.2.2.2.2.2.2.1 ++ (hbW g A.2.2.2.2.2.2.2 r1.2.2.2.2.2.2.2.2)))))) (w := bkW g A.2.1 r1.2.2.1) (as := [.int a1]) (rest := []) (c_X0_heldMarkByMark k4) 1 13 dX3_heldPagesByMarks_10 rfl ⟨Nat.le_of_ble_eq_true rfl, Nat.le_of_ble_eq_true rfl⟩ rfl (by first | (simp only [List.append_assoc, List.nil_append, List.append_nil]; done) | rfl) rfl rfl rfl (Nat.le_of_ble_eq_true rfl) ⟨Nat.zero_le _, Nat.zero_le _⟩ ?_
    obtain rfl := Option.some.inj h
    exact V_xretI C Z (ty := .int) rfl (rfl) rfl dX3_heldPagesByMarks_13 (Nat.le_refl _) (Nat.le_refl _)
  · have h := bx_r h
    obtain rfl := Option.some.inj h
    refine V_callXt C hBA hE ml_X3_132 (pre := []) (post := []) (wc := xW g A v) (as := [.int a1]) (rest := []) (w1 := xW g A r1.2) (E := r1.1) (c_X3_requireChapter hst k2) 0 (xW g A r1.2) dX3_heldPagesByMarks_2 ⟨Nat.le_of_ble_eq_true rfl, Nat.le_of_ble_eq_true rfl⟩ rfl (List.append_nil _).symm (List.append_nil _) (xW_fst _ _ _ _) rfl rfl (Nat.le_of_ble_eq_true rfl) ⟨Nat.le_refl _, Nat.le_refl _⟩ ?_
    exact VX_out C Z rfl (Nat.le_refl _) (Nat.le_refl _)
set_option maxHeartbeats 4000000 in
set_option maxRecDepth 100000 in
theorem c_X3_chapterWeight {l : Launch} {D : va_G} {g : G0} {A : XA} {v : XV} {a1 : Int32} {R : ((Int32 × XV) ⊕ (String × XV))} (hst : l.stackTraces = false) (h : f_X3_chapterWeight v a1 = some R) : CtX l D g yX3_chapterWeight cX3_chapterWeight 2 (some .int) (rmX 7 111 (rxI g A R)) (xW g A v) [.ref A.1, .int a1] (rxI g A R) := by
  refine CtX.of (by decide) (Nat.le_of_ble_eq_true rfl) hst ?_
  intro K C Z hBA el eD ekn
  subst el
  subst eD
  have hE := Z.2.2.1
  have hlt : ∀ i, i < 2 → i < kn K := fun i h => by rw [ekn]; exact h
  show V K 0 0 _ [(0, .ref A.1), (1, .int a1)] [] 0
  unfold f_X3_chapterWeight at h
  refine V_aload_n C 0 1 dX3_chapterWeight_0 rfl rfl ?_
  refine V_iload_n C 1 2 dX3_chapterWeight_1 rfl rfl ?_
  obtain ⟨r1, k2, h⟩ := bd_some h
  rcases r1 with r1 | r1
  · have h := bx_l h
    refine V_callXr C hBA hE ml_X3_132 (pre := []) (post := []) (wc := xW g A v) (as := [.int a1]) (rest := []) (w1 := xW g A r1.2) (rv := none) (c_X3_requireChapter hst k2) 0 5 (mgW A r1.2.1 ++ (bkW g A.2.1 r1.2.2.1 ++ (bkW g A.2.2.1 r1.2.2.2.1 ++ (bkW g A.2.2.2.1 r1.2.2.2.2.1 ++ (hsW g A.2.2.2.2.1 A.2.2.2.2.2.2.2 r1.2.2.2.2.2.1 ++ (scW g A.2.2.2.2.2.1 r1.2.2.2.2.2.2.1 ++ (sbW g A.2.2.2.2.2.2.1 r1.2.2.2.2.2.2.2.1 ++ (hbW g A.2.2.2.2.2.2.2 r1.2.2.2.2.2.2.2.2)))))))) dX3_chapterWeight_2 rfl ⟨Nat.le_of_ble_eq_true rfl, Nat.le_of_ble_eq_true rfl⟩ rfl (List.append_nil _).symm (List.append_nil _) (xW_fst _ _ _ _) rfl rfl rfl (Nat.le_of_ble_eq_true rfl) ⟨Nat.zero_le _, Nat.zero_le _⟩ ?_
    refine V_aload_n C 0 6 dX3_chapterWeight_5 rfl rfl ?_
    refine V_get C (v := .ref A.2.1.1) 0 9 fl_X3_10 dX3_chapterWeight_6 rfl rfl rfl ?_
    refine V_iload_n C 1 10 dX3_chapterWeight_9 rfl rfl ?_
    obtain ⟨r3, k4, h⟩ := bd_some h
    refine V_callP C ml_X3_147 (pre := mgW A r1.2.1) (post := bkW g A.2.2.1 r1.2.2.2.1 ++ (bkW g A.2.2.2.1 r1.2.2.2.2.1 ++ (hsW g A.2.2.2.2.1 A.2.2.2.2.2.2.2 r1.2.2.2.2.2.1 ++ (scW g A.2.2.2.2.2.1 r1.2.2.2.2.2.2.1 ++ (sbW g A.2.2.2.2.2.2.1 r1.2.2.2.2.2.2.2.1 ++ (hbW g A.2.2.2.2.2.2.2 r1.2.2.2.2.2.2.2.2)))))) (w := bkW g A.2.1 r1.2.2.1) (as := [.int a1]) (rest := []) (c_X0_weightIn k4) 1 13 dX3_chapterWeight_10 rfl ⟨Nat.le_of_ble_eq_true rfl, Nat.le_of_ble_eq_true rfl⟩ rfl (by first | (simp only [List.append_assoc, List.nil_append, List.append_nil]; done) | rfl) rfl rfl rfl (Nat.le_of_ble_eq_true rfl) ⟨Nat.zero_le _, Nat.zero_le _⟩ ?_
    obtain rfl := Option.some.inj h
    exact V_xretI C Z (ty := .int) rfl (rfl) rfl dX3_chapterWeight_13 (Nat.le_refl _) (Nat.le_refl _)
  · have h := bx_r h
    obtain rfl := Option.some.inj h
    refine V_callXt C hBA hE ml_X3_132 (pre := []) (post := []) (wc := xW g A v) (as := [.int a1]) (rest := []) (w1 := xW g A r1.2) (E := r1.1) (c_X3_requireChapter hst k2) 0 (xW g A r1.2) dX3_chapterWeight_2 ⟨Nat.le_of_ble_eq_true rfl, Nat.le_of_ble_eq_true rfl⟩ rfl (List.append_nil _).symm (List.append_nil _) (xW_fst _ _ _ _) rfl rfl (Nat.le_of_ble_eq_true rfl) ⟨Nat.le_refl _, Nat.le_refl _⟩ ?_
    exact VX_out C Z rfl (Nat.le_refl _) (Nat.le_refl _)
set_option maxHeartbeats 4000000 in
set_option maxRecDepth 100000 in
theorem c_X3_weightInFavour {l : Launch} {D : va_G} {g : G0} {A : XA} {v : XV} {a1 : Int32} {R : ((Int32 × XV) ⊕ (String × XV))} (hst : l.stackTraces = false) (h : f_X3_weightInFavour v a1 = some R) : CtX l D g yX3_weightInFavour cX3_weightInFavour 2 (some .int) (rmX 7 111 (rxI g A R)) (xW g A v) [.ref A.1, .int a1] (rxI g A R) := by
  refine CtX.of (by decide) (Nat.le_of_ble_eq_true rfl) hst ?_
  intro K C Z hBA el eD ekn
  subst el
  subst eD
  have hE := Z.2.2.1
  have hlt : ∀ i, i < 2 → i < kn K := fun i h => by rw [ekn]; exact h
  show V K 0 0 _ [(0, .ref A.1), (1, .int a1)] [] 0
  unfold f_X3_weightInFavour at h
  refine V_aload_n C 0 1 dX3_weightInFavour_0 rfl rfl ?_
  refine V_iload_n C 1 2 dX3_weightInFavour_1 rfl rfl ?_
  obtain ⟨r1, k2, h⟩ := bd_some h
  rcases r1 with r1 | r1
  · have h := bx_l h
    refine V_callXr C hBA hE ml_X3_132 (pre := []) (post := []) (wc := xW g A v) (as := [.int a1]) (rest := []) (w1 := xW g A r1.2) (rv := none) (c_X3_requireChapter hst k2) 0 5 (mgW A r1.2.1 ++ (bkW g A.2.1 r1.2.2.1 ++ (bkW g A.2.2.1 r1.2.2.2.1 ++ (bkW g A.2.2.2.1 r1.2.2.2.2.1 ++ (hsW g A.2.2.2.2.1 A.2.2.2.2.2.2.2 r1.2.2.2.2.2.1 ++ (scW g A.2.2.2.2.2.1 r1.2.2.2.2.2.2.1 ++ (sbW g A.2.2.2.2.2.2.1 r1.2.2.2.2.2.2.2.1 ++ (hbW g A.2.2.2.2.2.2.2 r1.2.2.2.2.2.2.2.2)))))))) dX3_weightInFavour_2 rfl ⟨Nat.le_of_ble_eq_true rfl, Nat.le_of_ble_eq_true rfl⟩ rfl (List.append_nil _).symm (List.append_nil _) (xW_fst _ _ _ _) rfl rfl rfl (Nat.le_of_ble_eq_true rfl) ⟨Nat.zero_le _, Nat.zero_le _⟩ ?_
    refine V_aload_n C 0 6 dX3_weightInFavour_5 rfl rfl ?_
    refine V_get C (v := .ref A.2.1.1) 0 9 fl_X3_10 dX3_weightInFavour_6 rfl rfl rfl ?_
    refine V_iload_n C 1 10 dX3_weightInFavour_9 rfl rfl ?_
    obtain ⟨r3, k4, h⟩ := bd_some h
    refine V_callP C ml_X3_150 (pre := mgW A r1.2.1) (post := bkW g A.2.2.1 r1.2.2.2.1 ++ (bkW g A.2.2.2.1 r1.2.2.2.2.1 ++ (hsW g A.2.2.2.2.1 A.2.2.2.2.2.2.2 r1.2.2.2.2.2.1 ++ (scW g A.2.2.2.2.2.1 r1.2.2.2.2.2.2.1 ++ (sbW g A.2.2.2.2.2.2.1 r1.2.2.2.2.2.2.2.1 ++ (hbW g A.2.2.2.2.2.2.2 r1.2.2.2.2.2.2.2.2)))))) (w := bkW g A.2.1 r1.2.2.1) (as := [.int a1]) (rest := []) (c_X0_favour k4) 1 13 dX3_weightInFavour_10 rfl ⟨Nat.le_of_ble_eq_true rfl, Nat.le_of_ble_eq_true rfl⟩ rfl (by first | (simp only [List.append_assoc, List.nil_append, List.append_nil]; done) | rfl) rfl rfl rfl (Nat.le_of_ble_eq_true rfl) ⟨Nat.zero_le _, Nat.zero_le _⟩ ?_
    obtain rfl := Option.some.inj h
    exact V_xretI C Z (ty := .int) rfl (rfl) rfl dX3_weightInFavour_13 (Nat.le_refl _) (Nat.le_refl _)
  · have h := bx_r h
    obtain rfl := Option.some.inj h
    refine V_callXt C hBA hE ml_X3_132 (pre := []) (post := []) (wc := xW g A v) (as := [.int a1]) (rest := []) (w1 := xW g A r1.2) (E := r1.1) (c_X3_requireChapter hst k2) 0 (xW g A r1.2) dX3_weightInFavour_2 ⟨Nat.le_of_ble_eq_true rfl, Nat.le_of_ble_eq_true rfl⟩ rfl (List.append_nil _).symm (List.append_nil _) (xW_fst _ _ _ _) rfl rfl (Nat.le_of_ble_eq_true rfl) ⟨Nat.le_refl _, Nat.le_refl _⟩ ?_
    exact VX_out C Z rfl (Nat.le_refl _) (Nat.le_refl _)
set_option maxHeartbeats 4000000 in
set_option maxRecDepth 100000 in
theorem c_X3_weightAgainst {l : Launch} {D : va_G} {g : G0} {A : XA} {v : XV} {a1 : Int32} {R : ((Int32 × XV) ⊕ (String × XV))} (hst : l.stackTraces = false) (h : f_X3_weightAgainst v a1 = some R) : CtX l D g yX3_weightAgainst cX3_weightAgainst 2 (some .int) (rmX 7 111 (rxI g A R)) (xW g A v) [.ref A.1, .int a1] (rxI g A R) := by
  refine CtX.of (by decide) (Nat.le_of_ble_eq_true rfl) hst ?_
  intro K C Z hBA el eD ekn
  subst el
  subst eD
  have hE := Z.2.2.1
  have hlt : ∀ i, i < 2 → i < kn K := fun i h => by rw [ekn]; exact h
  show V K 0 0 _ [(0, .ref A.1), (1, .int a1)] [] 0
  unfold f_X3_weightAgainst at h
  refine V_aload_n C 0 1 dX3_weightAgainst_0 rfl rfl ?_
  refine V_iload_n C 1 2 dX3_weightAgainst_1 rfl rfl ?_
  obtain ⟨r1, k2, h⟩ := bd_some h
  rcases r1 with r1 | r1
  · have h := bx_l h
    refine V_callXr C hBA hE ml_X3_132 (pre := []) (post := []) (wc := xW g A v) (as := [.int a1]) (rest := []) (w1 := xW g A r1.2) (rv := none) (c_X3_requireChapter hst k2) 0 5 (mgW A r1.2.1 ++ (bkW g A.2.1 r1.2.2.1 ++ (bkW g A.2.2.1 r1.2.2.2.1 ++ (bkW g A.2.2.2.1 r1.2.2.2.2.1 ++ (hsW g A.2.2.2.2.1 A.2.2.2.2.2.2.2 r1.2.2.2.2.2.1 ++ (scW g A.2.2.2.2.2.1 r1.2.2.2.2.2.2.1 ++ (sbW g A.2.2.2.2.2.2.1 r1.2.2.2.2.2.2.2.1 ++ (hbW g A.2.2.2.2.2.2.2 r1.2.2.2.2.2.2.2.2)))))))) dX3_weightAgainst_2 rfl ⟨Nat.le_of_ble_eq_true rfl, Nat.le_of_ble_eq_true rfl⟩ rfl (List.append_nil _).symm (List.append_nil _) (xW_fst _ _ _ _) rfl rfl rfl (Nat.le_of_ble_eq_true rfl) ⟨Nat.zero_le _, Nat.zero_le _⟩ ?_
    refine V_aload_n C 0 6 dX3_weightAgainst_5 rfl rfl ?_
    refine V_get C (v := .ref A.2.1.1) 0 9 fl_X3_10 dX3_weightAgainst_6 rfl rfl rfl ?_
    refine V_iload_n C 1 10 dX3_weightAgainst_9 rfl rfl ?_
    obtain ⟨r3, k4, h⟩ := bd_some h
    refine V_callP C ml_X3_153 (pre := mgW A r1.2.1) (post := bkW g A.2.2.1 r1.2.2.2.1 ++ (bkW g A.2.2.2.1 r1.2.2.2.2.1 ++ (hsW g A.2.2.2.2.1 A.2.2.2.2.2.2.2 r1.2.2.2.2.2.1 ++ (scW g A.2.2.2.2.2.1 r1.2.2.2.2.2.2.1 ++ (sbW g A.2.2.2.2.2.2.1 r1.2.2.2.2.2.2.2.1 ++ (hbW g A.2.2.2.2.2.2.2 r1.2.2.2.2.2.2.2.2)))))) (w := bkW g A.2.1 r1.2.2.1) (as := [.int a1]) (rest := []) (c_X0_against k4) 1 13 dX3_weightAgainst_10 rfl ⟨Nat.le_of_ble_eq_true rfl, Nat.le_of_ble_eq_true rfl⟩ rfl (by first | (simp only [List.append_assoc, List.nil_append, List.append_nil]; done) | rfl) rfl rfl rfl (Nat.le_of_ble_eq_true rfl) ⟨Nat.zero_le _, Nat.zero_le _⟩ ?_
    obtain rfl := Option.some.inj h
    exact V_xretI C Z (ty := .int) rfl (rfl) rfl dX3_weightAgainst_13 (Nat.le_refl _) (Nat.le_refl _)
  · have h := bx_r h
    obtain rfl := Option.some.inj h
    refine V_callXt C hBA hE ml_X3_132 (pre := []) (post := []) (wc := xW g A v) (as := [.int a1]) (rest := []) (w1 := xW g A r1.2) (E := r1.1) (c_X3_requireChapter hst k2) 0 (xW g A r1.2) dX3_weightAgainst_2 ⟨Nat.le_of_ble_eq_true rfl, Nat.le_of_ble_eq_true rfl⟩ rfl (List.append_nil _).symm (List.append_nil _) (xW_fst _ _ _ _) rfl rfl (Nat.le_of_ble_eq_true rfl) ⟨Nat.le_refl _, Nat.le_refl _⟩ ?_
    exact VX_out C Z rfl (Nat.le_refl _) (Nat.le_refl _)
set_option maxHeartbeats 4000000 in
set_option maxRecDepth 100000 in
theorem c_X3_weightAgainstByTotal {l : Launch} {D : va_G} {g : G0} {A : XA} {v : XV} {a1 : Int32} {R : ((Int32 × XV) ⊕ (String × XV))} (hst : l.stackTraces = false) (h : f_X3_weightAgainstByTotal v a1 = some R) : CtX l D g yX3_weightAgainstByTotal cX3_weightAgainstByTotal 2 (some .int) (rmX 7 111 (rxI g A R)) (xW g A v) [.ref A.1, .int a1] (rxI g A R) := by
  refine CtX.of (by decide) (Nat.le_of_ble_eq_true rfl) hst ?_
  intro K C Z hBA el eD ekn
  subst el
  subst eD
  have hE := Z.2.2.1
  have hlt : ∀ i, i < 2 → i < kn K := fun i h => by rw [ekn]; exact h
  show V K 0 0 _ [(0, .ref A.1), (1, .int a1)] [] 0
  unfold f_X3_weightAgainstByTotal at h
  refine V_aload_n C 0 1 dX3_weightAgainstByTotal_0 rfl rfl ?_
  refine V_iload_n C 1 2 dX3_weightAgainstByTotal_1 rfl rfl ?_
  obtain ⟨r1, k2, h⟩ := bd_some h
  rcases r1 with r1 | r1
  · have h := bx_l h
    refine V_callXr C hBA hE ml_X3_132 (pre := []) (post := []) (wc := xW g A v) (as := [.int a1]) (rest := []) (w1 := xW g A r1.2) (rv := none) (c_X3_requireChapter hst k2) 0 5 (mgW A r1.2.1 ++ (bkW g A.2.1 r1.2.2.1 ++ (bkW g A.2.2.1 r1.2.2.2.1 ++ (bkW g A.2.2.2.1 r1.2.2.2.2.1 ++ (hsW g A.2.2.2.2.1 A.2.2.2.2.2.2.2 r1.2.2.2.2.2.1 ++ (scW g A.2.2.2.2.2.1 r1.2.2.2.2.2.2.1 ++ (sbW g A.2.2.2.2.2.2.1 r1.2.2.2.2.2.2.2.1 ++ (hbW g A.2.2.2.2.2.2.2 r1.2.2.2.2.2.2.2.2)))))))) dX3_weightAgainstByTotal_2 rfl ⟨Nat.le_of_ble_eq_true rfl, Nat.le_of_ble_eq_true rfl⟩ rfl (List.append_nil _).symm (List.append_nil _) (xW_fst _ _ _ _) rfl rfl rfl (Nat.le_of_ble_eq_true rfl) ⟨Nat.zero_le _, Nat.zero_le _⟩ ?_
    refine V_aload_n C 0 6 dX3_weightAgainstByTotal_5 rfl rfl ?_
    refine V_get C (v := .ref A.2.1.1) 0 9 fl_X3_10 dX3_weightAgainstByTotal_6 rfl rfl rfl ?_
    refine V_iload_n C 1 10 dX3_weightAgainstByTotal_9 rfl rfl ?_
    obtain ⟨r3, k4, h⟩ := bd_some h
    refine V_callP C ml_X3_156 (pre := mgW A r1.2.1) (post := bkW g A.2.2.1 r1.2.2.2.1 ++ (bkW g A.2.2.2.1 r1.2.2.2.2.1 ++ (hsW g A.2.2.2.2.1 A.2.2.2.2.2.2.2 r1.2.2.2.2.2.1 ++ (scW g A.2.2.2.2.2.1 r1.2.2.2.2.2.2.1 ++ (sbW g A.2.2.2.2.2.2.1 r1.2.2.2.2.2.2.2.1 ++ (hbW g A.2.2.2.2.2.2.2 r1.2.2.2.2.2.2.2.2)))))) (w := bkW g A.2.1 r1.2.2.1) (as := [.int a1]) (rest := []) (c_X0_againstByTotal k4) 1 13 dX3_weightAgainstByTotal_10 rfl ⟨Nat.le_of_ble_eq_true rfl, Nat.le_of_ble_eq_true rfl⟩ rfl (by first | (simp only [List.append_assoc, List.nil_append, List.append_nil]; done) | rfl) rfl rfl rfl (Nat.le_of_ble_eq_true rfl) ⟨Nat.zero_le _, Nat.zero_le _⟩ ?_
    obtain rfl := Option.some.inj h
    exact V_xretI C Z (ty := .int) rfl (rfl) rfl dX3_weightAgainstByTotal_13 (Nat.le_refl _) (Nat.le_refl _)
  · have h := bx_r h
    obtain rfl := Option.some.inj h
    refine V_callXt C hBA hE ml_X3_132 (pre := []) (post := []) (wc := xW g A v) (as := [.int a1]) (rest := []) (w1 := xW g A r1.2) (E := r1.1) (c_X3_requireChapter hst k2) 0 (xW g A r1.2) dX3_weightAgainstByTotal_2 ⟨Nat.le_of_ble_eq_true rfl, Nat.le_of_ble_eq_true rfl⟩ rfl (List.append_nil _).symm (List.append_nil _) (xW_fst _ _ _ _) rfl rfl (Nat.le_of_ble_eq_true rfl) ⟨Nat.le_refl _, Nat.le_refl _⟩ ?_
    exact VX_out C Z rfl (Nat.le_refl _) (Nat.le_refl _)
set_option maxHeartbeats 4000000 in
set_option maxRecDepth 100000 in
theorem c_X3_wouldDissolve {l : Launch} {D : va_G} {g : G0} {A : XA} {v : XV} {a1 : Int32} {R : ((Int32 × XV) ⊕ (String × XV))} (hst : l.stackTraces = false) (h : f_X3_wouldDissolve v a1 = some R) : CtX l D g yX3_wouldDissolve cX3_wouldDissolve 2 (some .boolean) (rmX 7 111 (rxI g A R)) (xW g A v) [.ref A.1, .int a1] (rxI g A R) := by
  refine CtX.of (by decide) (Nat.le_of_ble_eq_true rfl) hst ?_
  intro K C Z hBA el eD ekn
  subst el
  subst eD
  have hE := Z.2.2.1
  have hlt : ∀ i, i < 2 → i < kn K := fun i h => by rw [ekn]; exact h
  show V K 0 0 _ [(0, .ref A.1), (1, .int a1)] [] 0
  unfold f_X3_wouldDissolve at h
  refine V_aload_n C 0 1 dX3_wouldDissolve_0 rfl rfl ?_
  refine V_iload_n C 1 2 dX3_wouldDissolve_1 rfl rfl ?_
  obtain ⟨r1, k2, h⟩ := bd_some h
  rcases r1 with r1 | r1
  · have h := bx_l h
    refine V_callXr C hBA hE ml_X3_132 (pre := []) (post := []) (wc := xW g A v) (as := [.int a1]) (rest := []) (w1 := xW g A r1.2) (rv := none) (c_X3_requireChapter hst k2) 0 5 (mgW A r1.2.1 ++ (bkW g A.2.1 r1.2.2.1 ++ (bkW g A.2.2.1 r1.2.2.2.1 ++ (bkW g A.2.2.2.1 r1.2.2.2.2.1 ++ (hsW g A.2.2.2.2.1 A.2.2.2.2.2.2.2 r1.2.2.2.2.2.1 ++ (scW g A.2.2.2.2.2.1 r1.2.2.2.2.2.2.1 ++ (sbW g A.2.2.2.2.2.2.1 r1.2.2.2.2.2.2.2.1 ++ (hbW g A.2.2.2.2.2.2.2 r1.2.2.2.2.2.2.2.2)))))))) dX3_wouldDissolve_2 rfl ⟨Nat.le_of_ble_eq_true rfl, Nat.le_of_ble_eq_true rfl⟩ rfl (List.append_nil _).symm (List.append_nil _) (xW_fst _ _ _ _) rfl rfl rfl (Nat.le_of_ble_eq_true rfl) ⟨Nat.zero_le _, Nat.zero_le _⟩ ?_
    refine V_aload_n C 0 6 dX3_wouldDissolve_5 rfl rfl ?_
    refine V_get C (v := .ref A.2.1.1) 0 9 fl_X3_10 dX3_wouldDissolve_6 rfl rfl rfl ?_
    refine V_iload_n C 1 10 dX3_wouldDissolve_9 rfl rfl ?_
    obtain ⟨r3, k4, h⟩ := bd_some h
    refine V_callP C ml_X3_159 (pre := mgW A r1.2.1) (post := bkW g A.2.2.1 r1.2.2.2.1 ++ (bkW g A.2.2.2.1 r1.2.2.2.2.1 ++ (hsW g A.2.2.2.2.1 A.2.2.2.2.2.2.2 r1.2.2.2.2.2.1 ++ (scW g A.2.2.2.2.2.1 r1.2.2.2.2.2.2.1 ++ (sbW g A.2.2.2.2.2.2.1 r1.2.2.2.2.2.2.2.1 ++ (hbW g A.2.2.2.2.2.2.2 r1.2.2.2.2.2.2.2.2)))))) (w := bkW g A.2.1 r1.2.2.1) (as := [.int a1]) (rest := []) (c_X0_wouldCarry k4) 1 13 dX3_wouldDissolve_10 rfl ⟨Nat.le_of_ble_eq_true rfl, Nat.le_of_ble_eq_true rfl⟩ rfl (by first | (simp only [List.append_assoc, List.nil_append, List.append_nil]; done) | rfl) rfl rfl rfl (Nat.le_of_ble_eq_true rfl) ⟨Nat.zero_le _, Nat.zero_le _⟩ ?_
    obtain ⟨g5, h⟩ := gd_some h
    obtain rfl := Option.some.inj h
    exact V_xretI C Z (ty := .boolean) rfl (isz_t g5) rfl dX3_wouldDissolve_13 (Nat.le_refl _) (Nat.le_refl _)
  · have h := bx_r h
    obtain rfl := Option.some.inj h
    refine V_callXt C hBA hE ml_X3_132 (pre := []) (post := []) (wc := xW g A v) (as := [.int a1]) (rest := []) (w1 := xW g A r1.2) (E := r1.1) (c_X3_requireChapter hst k2) 0 (xW g A r1.2) dX3_wouldDissolve_2 ⟨Nat.le_of_ble_eq_true rfl, Nat.le_of_ble_eq_true rfl⟩ rfl (List.append_nil _).symm (List.append_nil _) (xW_fst _ _ _ _) rfl rfl (Nat.le_of_ble_eq_true rfl) ⟨Nat.le_refl _, Nat.le_refl _⟩ ?_
    exact VX_out C Z rfl (Nat.le_refl _) (Nat.le_refl _)
set_option maxHeartbeats 4000000 in
set_option maxRecDepth 100000 in
theorem c_X3_heaviestChapter {l : Launch} {D : va_G} {g : G0} {A : XA} {v : XV} {R : Int32} (h : f_X3_heaviestChapter v  = some R) : CtP l D g yX3_heaviestChapter cX3_heaviestChapter 1 (some .int) (rmF 3 68) (mgW A v.1 ++ (bkW g A.2.1 v.2.1 ++ (bkW g A.2.2.1 v.2.2.1 ++ (bkW g A.2.2.2.1 v.2.2.2.1 ++ (hsW g A.2.2.2.2.1 A.2.2.2.2.2.2.2 v.2.2.2.2.1 ++ (scW g A.2.2.2.2.2.1 v.2.2.2.2.2.1 ++ (sbW g A.2.2.2.2.2.2.1 v.2.2.2.2.2.2.1 ++ (hbW g A.2.2.2.2.2.2.2 v.2.2.2.2.2.2.2)))))))) [.ref A.1] (some (.int R)) := by
  refine CtP.of (by decide) rfl rfl (Nat.le_of_ble_eq_true rfl) ?_
  intro K C el eD ekn retI
  subst el
  subst eD
  have hlt : ∀ i, i < 1 → i < kn K := fun i h => by rw [ekn]; exact h
  show V K 0 0 _ [(0, .ref A.1)] [] 0
  unfold f_X3_heaviestChapter at h
  refine V_aload_n C 0 1 dX3_heaviestChapter_0 rfl rfl ?_
  refine V_get C (v := .ref A.2.1.1) 0 4 fl_X3_10 dX3_heaviestChapter_1 rfl rfl rfl ?_
  obtain ⟨r1, k2, h⟩ := bd_some h
  refine V_callP C ml_X3_162 (pre := mgW A v.1) (post := bkW g A.2.2.1 v.2.2.1 ++ (bkW g A.2.2.2.1 v.2.2.2.1 ++ (hsW g A.2.2.2.2.1 A.2.2.2.2.2.2.2 v.2.2.2.2.1 ++ (scW g A.2.2.2.2.2.1 v.2.2.2.2.2.1 ++ (sbW g A.2.2.2.2.2.2.1 v.2.2.2.2.2.2.1 ++ (hbW g A.2.2.2.2.2.2.2 v.2.2.2.2.2.2.2)))))) (w := bkW g A.2.1 v.2.1) (as := []) (rest := []) (c_X0_heaviest k2) 1 7 dX3_heaviestChapter_4 rfl ⟨Nat.le_of_ble_eq_true rfl, Nat.le_of_ble_eq_true rfl⟩ rfl (by first | (simp only [List.append_assoc, List.nil_append, List.append_nil]; done) | rfl) rfl rfl rfl (Nat.le_of_ble_eq_true rfl) ⟨Nat.zero_le _, Nat.zero_le _⟩ ?_
  obtain rfl := Option.some.inj h
  exact retI _ _ _ .int rfl (rfl) rfl dX3_heaviestChapter_7
set_option maxHeartbeats 4000000 in
set_option maxRecDepth 100000 in
theorem c_X3_requireCount {l : Launch} {D : va_G} {g : G0} {A : XA} {v : XV} {a1 : Int32} {R : ((Int32 × XV) ⊕ (String × XV))} (hst : l.stackTraces = false) (h : f_X3_requireCount v a1 = some R) : CtX l D g yX3_requireCount cX3_requireCount 2 none (rmX 6 90 (rxV g A R)) (xW g A v) [.ref A.1, .int a1] (rxV g A R) := by
  refine CtX.of (by decide) (Nat.le_of_ble_eq_true rfl) hst ?_
  intro K C Z hBA el eD ekn
  subst el
  subst eD
  have hE := Z.2.2.1
  have hlt : ∀ i, i < 2 → i < kn K := fun i h => by rw [ekn]; exact h
  show V K 0 0 _ [(0, .ref A.1), (1, .int a1)] [] 0
  unfold f_X3_requireCount at h
  refine V_aload_n C 0 1 dX3_requireCount_0 rfl rfl ?_
  refine V_get C (v := .ref A.2.1.1) 0 4 fl_X3_10 dX3_requireCount_1 rfl rfl rfl ?_
  refine V_iload_n C 1 5 dX3_requireCount_4 rfl rfl ?_
  obtain ⟨r1, k2, h⟩ := bd_some h
  refine V_callP C ml_X3_340 (pre := mgW A v.1) (post := bkW g A.2.2.1 v.2.2.1 ++ (bkW g A.2.2.2.1 v.2.2.2.1 ++ (hsW g A.2.2.2.2.1 A.2.2.2.2.2.2.2 v.2.2.2.2.1 ++ (scW g A.2.2.2.2.2.1 v.2.2.2.2.2.1 ++ (sbW g A.2.2.2.2.2.2.1 v.2.2.2.2.2.2.1 ++ (hbW g A.2.2.2.2.2.2.2 v.2.2.2.2.2.2.2)))))) (w := bkW g A.2.1 v.2.1) (as := [.int a1]) (rest := []) (c_X0_takesCount k2) 1 8 dX3_requireCount_5 rfl ⟨Nat.le_of_ble_eq_true rfl, Nat.le_of_ble_eq_true rfl⟩ rfl (by first | (simp only [List.append_assoc, List.nil_append, List.append_nil]; done) | rfl) rfl rfl rfl (Nat.le_of_ble_eq_true rfl) ⟨Nat.zero_le _, Nat.zero_le _⟩ ?_
  refine V_if_ne C 22 11 dX3_requireCount_8 rfl rfl (fun e3 => ?_) (fun e3 => ?_)
  · have h := (if_neg e3).symm.trans h
    obtain rfl := Option.some.inj h
    exact V_xretV C Z rfl rfl dX3_requireCount_22 (Nat.le_refl _) (Nat.le_refl _)
  · have h := (if_pos e3).symm.trans h
    obtain rfl := Option.some.inj h
    exact V_throwW C Z tl_X3_256_260_343 dX3_requireCount_11 dX3_requireCount_14 dX3_requireCount_15 dX3_requireCount_18 dX3_requireCount_21 ⟨Nat.le_of_ble_eq_true rfl, Nat.le_of_ble_eq_true rfl, Nat.le_refl _, Nat.le_refl _⟩ rfl (Nat.le_refl _) (Nat.le_refl _)
set_option maxHeartbeats 4000000 in
set_option maxRecDepth 100000 in
theorem c_X3_turnPages {l : Launch} {D : va_G} {g : G0} {A : XA} {v : XV} {a1 a2 : Int32} {R : ((Int32 × XV) ⊕ (String × XV))} (hst : l.stackTraces = false) (h : f_X3_turnPages v a1 a2 = some R) : CtX l D g yX3_turnPages cX3_turnPages 3 (some .int) (rmX 7 140 (rxI g A R)) (xW g A v) [.ref A.1, .int a1, .int a2] (rxI g A R) := by
  refine CtX.of (by decide) (Nat.le_of_ble_eq_true rfl) hst ?_
  intro K C Z hBA el eD ekn
  subst el
  subst eD
  have hE := Z.2.2.1
  have hlt : ∀ i, i < 3 → i < kn K := fun i h => by rw [ekn]; exact h
  have B17 : ∀ (x1 : Int32) (x2 : Int32) (s0 : Int32) (v : XV), f_X3_turnPages_B17 x1 x2 s0 v = some R → V K 0 0 (mgW A v.1 ++ (bkW g A.2.1 v.2.1 ++ (bkW g A.2.2.1 v.2.2.1 ++ (bkW g A.2.2.2.1 v.2.2.2.1 ++ (hsW g A.2.2.2.2.1 A.2.2.2.2.2.2.2 v.2.2.2.2.1 ++ (scW g A.2.2.2.2.2.1 v.2.2.2.2.2.1 ++ (sbW g A.2.2.2.2.2.2.1 v.2.2.2.2.2.2.1 ++ (hbW g A.2.2.2.2.2.2.2 v.2.2.2.2.2.2.2)))))))) [(0, .ref A.1), (1, .int x1), (2, .int x2)] [.int s0, .ref A.1] 17 := by
    intro x1 x2 s0 v h
    rw [f_X3_turnPages_B17] at h
    refine V_iload_n C 1 18 dX3_turnPages_17 rfl rfl ?_
    refine V_iconst C (0 : Int32) 19 dX3_turnPages_18 rfl rfl ?_
    obtain ⟨r1, k2, h⟩ := bd_some h
    rcases r1 with r1 | r1
    · have h := bx_l h
      refine V_callXr C hBA hE ml_X3_67 (pre := []) (post := []) (wc := xW g A v) (as := [.int s0, .int x1, .int (0 : Int32)]) (rest := []) (w1 := xW g A r1.2) (rv := (some (.int r1.1))) (c_X3_changeUnlessRejected hst k2) 0 22 (mgW A r1.2.1 ++ (bkW g A.2.1 r1.2.2.1 ++ (bkW g A.2.2.1 r1.2.2.2.1 ++ (bkW g A.2.2.2.1 r1.2.2.2.2.1 ++ (hsW g A.2.2.2.2.1 A.2.2.2.2.2.2.2 r1.2.2.2.2.2.1 ++ (scW g A.2.2.2.2.2.1 r1.2.2.2.2.2.2.1 ++ (sbW g A.2.2.2.2.2.2.1 r1.2.2.2.2.2.2.2.1 ++ (hbW g A.2.2.2.2.2.2.2 r1.2.2.2.2.2.2.2.2)))))))) dX3_turnPages_19 rfl ⟨Nat.le_of_ble_eq_true rfl, Nat.le_of_ble_eq_true rfl⟩ rfl (List.append_nil _).symm (List.append_nil _) (xW_fst _ _ _ _) rfl rfl rfl (Nat.le_of_ble_eq_true rfl) ⟨Nat.zero_le _, Nat.zero_le _⟩ ?_
      obtain rfl := Option.some.inj h
      exact V_xretI C Z (ty := .int) rfl (rfl) rfl dX3_turnPages_22 (Nat.le_refl _) (Nat.le_refl _)
    · have h := bx_r h
      obtain rfl := Option.some.inj h
      refine V_callXt C hBA hE ml_X3_67 (pre := []) (post := []) (wc := xW g A v) (as := [.int s0, .int x1, .int (0 : Int32)]) (rest := []) (w1 := xW g A r1.2) (E := r1.1) (c_X3_changeUnlessRejected hst k2) 0 (xW g A r1.2) dX3_turnPages_19 ⟨Nat.le_of_ble_eq_true rfl, Nat.le_of_ble_eq_true rfl⟩ rfl (List.append_nil _).symm (List.append_nil _) (xW_fst _ _ _ _) rfl rfl (Nat.le_of_ble_eq_true rfl) ⟨Nat.le_refl _, Nat.le_refl _⟩ ?_
      exact VX_out C Z rfl (Nat.le_refl _) (Nat.le_refl _)
  show V K 0 0 _ [(0, .ref A.1), (1, .int a1), (2, .int a2)] [] 0
  unfold f_X3_turnPages at h
  refine V_aload_n C 0 1 dX3_turnPages_0 rfl rfl ?_
  refine V_iload_n C 1 2 dX3_turnPages_1 rfl rfl ?_
  obtain ⟨r3, k4, h⟩ := bd_some h
  rcases r3 with r3 | r3
  · have h := bx_l h
    refine V_callXr C hBA hE ml_X3_166 (pre := []) (post := []) (wc := xW g A v) (as := [.int a1]) (rest := []) (w1 := xW g A r3.2) (rv := none) (c_X3_requireCount hst k4) 0 5 (mgW A r3.2.1 ++ (bkW g A.2.1 r3.2.2.1 ++ (bkW g A.2.2.1 r3.2.2.2.1 ++ (bkW g A.2.2.2.1 r3.2.2.2.2.1 ++ (hsW g A.2.2.2.2.1 A.2.2.2.2.2.2.2 r3.2.2.2.2.2.1 ++ (scW g A.2.2.2.2.2.1 r3.2.2.2.2.2.2.1 ++ (sbW g A.2.2.2.2.2.2.1 r3.2.2.2.2.2.2.2.1 ++ (hbW g A.2.2.2.2.2.2.2 r3.2.2.2.2.2.2.2.2)))))))) dX3_turnPages_2 rfl ⟨Nat.le_of_ble_eq_true rfl, Nat.le_of_ble_eq_true rfl⟩ rfl (List.append_nil _).symm (List.append_nil _) (xW_fst _ _ _ _) rfl rfl rfl (Nat.le_of_ble_eq_true rfl) ⟨Nat.zero_le _, Nat.zero_le _⟩ ?_
    refine V_aload_n C 0 6 dX3_turnPages_5 rfl rfl ?_
    refine V_iload_n C 2 7 dX3_turnPages_6 rfl rfl ?_
    refine V_if_eq C 15 10 dX3_turnPages_7 rfl rfl (fun e5 => ?_) (fun e5 => ?_)
    · have h := (if_pos e5).symm.trans h
      refine V_bipush C (66 : Int32) 17 dX3_turnPages_15 rfl rfl ?_
      refine V_lv [0, 1, 2] rfl ?_
      exact B17 _ _ _ _ h
    · have h := (if_neg e5).symm.trans h
      refine V_bipush C (84 : Int32) 12 dX3_turnPages_10 rfl rfl ?_
      refine V_goto C 17 dX3_turnPages_12 rfl ?_
      refine V_lv [0, 1, 2] rfl ?_
      exact B17 _ _ _ _ h
  · have h := bx_r h
    obtain rfl := Option.some.inj h
    refine V_callXt C hBA hE ml_X3_166 (pre := []) (post := []) (wc := xW g A v) (as := [.int a1]) (rest := []) (w1 := xW g A r3.2) (E := r3.1) (c_X3_requireCount hst k4) 0 (xW g A r3.2) dX3_turnPages_2 ⟨Nat.le_of_ble_eq_true rfl, Nat.le_of_ble_eq_true rfl⟩ rfl (List.append_nil _).symm (List.append_nil _) (xW_fst _ _ _ _) rfl rfl (Nat.le_of_ble_eq_true rfl) ⟨Nat.le_refl _, Nat.le_refl _⟩ ?_
    exact VX_out C Z rfl (Nat.le_refl _) (Nat.le_refl _)
set_option maxHeartbeats 4000000 in
set_option maxRecDepth 100000 in
theorem c_X3_currentPage {l : Launch} {D : va_G} {g : G0} {A : XA} {v : XV} {R : Int32} (h : f_X3_currentPage v  = some R) : CtP l D g yX3_currentPage cX3_currentPage 1 (some .int) (rmF 0 0) (mgW A v.1 ++ (bkW g A.2.1 v.2.1 ++ (bkW g A.2.2.1 v.2.2.1 ++ (bkW g A.2.2.2.1 v.2.2.2.1 ++ (hsW g A.2.2.2.2.1 A.2.2.2.2.2.2.2 v.2.2.2.2.1 ++ (scW g A.2.2.2.2.2.1 v.2.2.2.2.2.1 ++ (sbW g A.2.2.2.2.2.2.1 v.2.2.2.2.2.2.1 ++ (hbW g A.2.2.2.2.2.2.2 v.2.2.2.2.2.2.2)))))))) [.ref A.1] (some (.int R)) := by
  refine CtP.of (by decide) rfl rfl (Nat.le_of_ble_eq_true rfl) ?_
  intro K C el eD ekn retI
  subst el
  subst eD
  have hlt : ∀ i, i < 1 → i < kn K := fun i h => by rw [ekn]; exact h
  show V K 0 0 _ [(0, .ref A.1)] [] 0
  unfold f_X3_currentPage at h
  refine V_aload_n C 0 1 dX3_currentPage_0 rfl rfl ?_
  refine V_get C (v := .ref A.2.1.1) 0 4 fl_X3_10 dX3_currentPage_1 rfl rfl rfl ?_
  refine V_get C (v := .int (Bk_reader v.2.1)) 1 7 fl_X3_169 dX3_currentPage_4 rfl rfl rfl ?_
  obtain rfl := Option.some.inj h
  exact retI _ _ _ .int rfl (rfl) rfl dX3_currentPage_7
set_option maxHeartbeats 4000000 in
set_option maxRecDepth 100000 in
theorem c_X3_pagesToNextMark {l : Launch} {D : va_G} {g : G0} {A : XA} {v : XV} {R : ((Int32 × XV) ⊕ (String × XV))} (hst : l.stackTraces = false) (h : f_X3_pagesToNextMark v  = some R) : CtX l D g yX3_pagesToNextMark cX3_pagesToNextMark 2 (some .int) (rmX 6 90 (rxI g A R)) (xW g A v) [.ref A.1] (rxI g A R) := by
  refine CtX.of (by decide) (Nat.le_of_ble_eq_true rfl) hst ?_
  intro K C Z hBA el eD ekn
  subst el
  subst eD
  have hE := Z.2.2.1
  have hlt : ∀ i, i < 2 → i < kn K := fun i h => by rw [ekn]; exact h
  show V K 0 0 _ [(0, .ref A.1)] [] 0
  unfold f_X3_pagesToNextMark at h
  refine V_aload_n C 0 1 dX3_pagesToNextMark_0 rfl rfl ?_
  refine V_get C (v := .ref A.2.1.1) 0 4 fl_X3_10 dX3_pagesToNextMark_1 rfl rfl rfl ?_
  refine V_aload_n C 0 5 dX3_pagesToNextMark_4 rfl rfl ?_
  refine V_get C (v := .ref A.2.1.1) 0 8 fl_X3_10 dX3_pagesToNextMark_5 rfl rfl rfl ?_
  refine V_get C (v := .int (Bk_reader v.2.1)) 1 11 fl_X3_169 dX3_pagesToNextMark_8 rfl rfl rfl ?_
  refine V_iconst C (1 : Int32) 12 dX3_pagesToNextMark_11 rfl rfl ?_
  refine V_iadd C 13 dX3_pagesToNextMark_12 rfl ?_
  obtain ⟨r1, k2, h⟩ := bd_some h
  refine V_callP C ml_X3_120 (pre := mgW A v.1) (post := bkW g A.2.2.1 v.2.2.1 ++ (bkW g A.2.2.2.1 v.2.2.2.1 ++ (hsW g A.2.2.2.2.1 A.2.2.2.2.2.2.2 v.2.2.2.2.1 ++ (scW g A.2.2.2.2.2.1 v.2.2.2.2.2.1 ++ (sbW g A.2.2.2.2.2.2.1 v.2.2.2.2.2.2.1 ++ (hbW g A.2.2.2.2.2.2.2 v.2.2.2.2.2.2.2)))))) (w := bkW g A.2.1 v.2.1) (as := [.int ((Bk_reader v.2.1) + (1 : Int32))]) (rest := []) (c_X0_slotFrom k2) 1 16 dX3_pagesToNextMark_13 rfl ⟨Nat.le_of_ble_eq_true rfl, Nat.le_of_ble_eq_true rfl⟩ rfl (by first | (simp only [List.append_assoc, List.nil_append, List.append_nil]; done) | rfl) rfl rfl rfl (Nat.le_of_ble_eq_true rfl) ⟨Nat.zero_le _, Nat.zero_le _⟩ ?_
  refine V_istore_n C 17 [(1, .int r1), (0, .ref A.1)] dX3_pagesToNextMark_16 rfl (hlt 1 (by decide)) rfl ?_
  refine V_iload_n C 0 18 dX3_pagesToNextMark_17 rfl rfl ?_
  refine V_iconst C (-1 : Int32) 19 dX3_pagesToNextMark_18 rfl rfl ?_
  refine V_icmp_ne C 32 22 dX3_pagesToNextMark_19 rfl rfl (fun e3 => ?_) (fun e3 => ?_)
  · have h := (if_neg e3).symm.trans h
    refine V_aload_n C 1 33 dX3_pagesToNextMark_32 rfl rfl ?_
    refine V_get C (v := .ref A.2.1.1) 0 36 fl_X3_10 dX3_pagesToNextMark_33 rfl rfl rfl ?_
    refine V_get C (v := .ref A.2.1.2.2.1) 1 39 fl_X3_86 dX3_pagesToNextMark_36 rfl rfl rfl ?_
    refine V_iload_n C 0 40 dX3_pagesToNextMark_39 rfl rfl ?_
    obtain ⟨g4, h⟩ := gd_some h
    refine V_iald C (f := (Bk_pages v.2.1)) (n := 12) 3 41 dX3_pagesToNextMark_40 rfl rfl g4 ?_
    refine V_aload_n C 1 42 dX3_pagesToNextMark_41 rfl rfl ?_
    refine V_get C (v := .ref A.2.1.1) 0 45 fl_X3_10 dX3_pagesToNextMark_42 rfl rfl rfl ?_
    refine V_get C (v := .int (Bk_reader v.2.1)) 1 48 fl_X3_169 dX3_pagesToNextMark_45 rfl rfl rfl ?_
    refine V_isub C 49 dX3_pagesToNextMark_48 rfl ?_
    obtain rfl := Option.some.inj h
    exact V_xretI C Z (ty := .int) rfl (rfl) rfl dX3_pagesToNextMark_49 (Nat.le_refl _) (Nat.le_refl _)
  · have h := (if_pos e3).symm.trans h
    obtain rfl := Option.some.inj h
    exact V_nthrow C Z tl_X3_96_100_172 dX3_pagesToNextMark_22 dX3_pagesToNextMark_25 dX3_pagesToNextMark_26 dX3_pagesToNextMark_28 dX3_pagesToNextMark_31 ⟨Nat.le_of_ble_eq_true rfl, Nat.le_of_ble_eq_true rfl, Nat.le_refl _, Nat.le_refl _⟩ rfl (Nat.le_refl _) (Nat.le_refl _)
set_option maxHeartbeats 4000000 in
set_option maxRecDepth 100000 in
theorem c_X3_earsAtRisk {l : Launch} {D : va_G} {g : G0} {A : XA} {v : XV} {a1 a2 : Int32} {R : ((Int32 × XV) ⊕ (String × XV))} (hst : l.stackTraces = false) (h : f_X3_earsAtRisk v a1 a2 = some R) : CtX l D g yX3_earsAtRisk cX3_earsAtRisk 3 (some .int) (rmX 7 111 (rxI g A R)) (xW g A v) [.ref A.1, .int a1, .int a2] (rxI g A R) := by
  refine CtX.of (by decide) (Nat.le_of_ble_eq_true rfl) hst ?_
  intro K C Z hBA el eD ekn
  subst el
  subst eD
  have hE := Z.2.2.1
  have hlt : ∀ i, i < 3 → i < kn K := fun i h => by rw [ekn]; exact h
  show V K 0 0 _ [(0, .ref A.1), (1, .int a1), (2, .int a2)] [] 0
  unfold f_X3_earsAtRisk at h
  refine V_aload_n C 0 1 dX3_earsAtRisk_0 rfl rfl ?_
  refine V_iload_n C 1 2 dX3_earsAtRisk_1 rfl rfl ?_
  obtain ⟨r1, k2, h⟩ := bd_some h
  rcases r1 with r1 | r1
  · have h := bx_l h
    refine V_callXr C hBA hE ml_X3_166 (pre := []) (post := []) (wc := xW g A v) (as := [.int a1]) (rest := []) (w1 := xW g A r1.2) (rv := none) (c_X3_requireCount hst k2) 0 5 (mgW A r1.2.1 ++ (bkW g A.2.1 r1.2.2.1 ++ (bkW g A.2.2.1 r1.2.2.2.1 ++ (bkW g A.2.2.2.1 r1.2.2.2.2.1 ++ (hsW g A.2.2.2.2.1 A.2.2.2.2.2.2.2 r1.2.2.2.2.2.1 ++ (scW g A.2.2.2.2.2.1 r1.2.2.2.2.2.2.1 ++ (sbW g A.2.2.2.2.2.2.1 r1.2.2.2.2.2.2.2.1 ++ (hbW g A.2.2.2.2.2.2.2 r1.2.2.2.2.2.2.2.2)))))))) dX3_earsAtRisk_2 rfl ⟨Nat.le_of_ble_eq_true rfl, Nat.le_of_ble_eq_true rfl⟩ rfl (List.append_nil _).symm (List.append_nil _) (xW_fst _ _ _ _) rfl rfl rfl (Nat.le_of_ble_eq_true rfl) ⟨Nat.zero_le _, Nat.zero_le _⟩ ?_
    refine V_aload_n C 0 6 dX3_earsAtRisk_5 rfl rfl ?_
    refine V_get C (v := .ref A.2.1.1) 0 9 fl_X3_10 dX3_earsAtRisk_6 rfl rfl rfl ?_
    refine V_iload_n C 1 10 dX3_earsAtRisk_9 rfl rfl ?_
    refine V_iload_n C 2 11 dX3_earsAtRisk_10 rfl rfl ?_
    obtain ⟨r3, k4, h⟩ := bd_some h
    refine V_callP C ml_X3_174 (pre := mgW A r1.2.1) (post := bkW g A.2.2.1 r1.2.2.2.1 ++ (bkW g A.2.2.2.1 r1.2.2.2.2.1 ++ (hsW g A.2.2.2.2.1 A.2.2.2.2.2.2.2 r1.2.2.2.2.2.1 ++ (scW g A.2.2.2.2.2.1 r1.2.2.2.2.2.2.1 ++ (sbW g A.2.2.2.2.2.2.1 r1.2.2.2.2.2.2.2.1 ++ (hbW g A.2.2.2.2.2.2.2 r1.2.2.2.2.2.2.2.2)))))) (w := bkW g A.2.1 r1.2.2.1) (as := [.int a1, .int a2]) (rest := []) (c_X0_earsAboutToFall k4) 1 14 dX3_earsAtRisk_11 rfl ⟨Nat.le_of_ble_eq_true rfl, Nat.le_of_ble_eq_true rfl⟩ rfl (by first | (simp only [List.append_assoc, List.nil_append, List.append_nil]; done) | rfl) rfl rfl rfl (Nat.le_of_ble_eq_true rfl) ⟨Nat.zero_le _, Nat.zero_le _⟩ ?_
    obtain rfl := Option.some.inj h
    exact V_xretI C Z (ty := .int) rfl (rfl) rfl dX3_earsAtRisk_14 (Nat.le_refl _) (Nat.le_refl _)
  · have h := bx_r h
    obtain rfl := Option.some.inj h
    refine V_callXt C hBA hE ml_X3_166 (pre := []) (post := []) (wc := xW g A v) (as := [.int a1]) (rest := []) (w1 := xW g A r1.2) (E := r1.1) (c_X3_requireCount hst k2) 0 (xW g A r1.2) dX3_earsAtRisk_2 ⟨Nat.le_of_ble_eq_true rfl, Nat.le_of_ble_eq_true rfl⟩ rfl (List.append_nil _).symm (List.append_nil _) (xW_fst _ _ _ _) rfl rfl (Nat.le_of_ble_eq_true rfl) ⟨Nat.le_refl _, Nat.le_refl _⟩ ?_
    exact VX_out C Z rfl (Nat.le_refl _) (Nat.le_refl _)
set_option maxHeartbeats 4000000 in
set_option maxRecDepth 100000 in
theorem c_X3_markByPage {l : Launch} {D : va_G} {g : G0} {A : XA} {v : XV} {a1 : Int32} {R : ((Int32 × XV) ⊕ (String × XV))} (hst : l.stackTraces = false) (h : f_X3_markByPage v a1 = some R) : CtX l D g yX3_markByPage cX3_markByPage 2 (some .int) (rmX 7 111 (rxI g A R)) (xW g A v) [.ref A.1, .int a1] (rxI g A R) := by
  refine CtX.of (by decide) (Nat.le_of_ble_eq_true rfl) hst ?_
  intro K C Z hBA el eD ekn
  subst el
  subst eD
  have hE := Z.2.2.1
  have hlt : ∀ i, i < 2 → i < kn K := fun i h => by rw [ekn]; exact h
  have B21 : ∀ (x1 : Int32) (s0 : Int32) (v : XV), f_X3_markByPage_B21 x1 s0 v = some R → V K 0 0 (mgW A v.1 ++ (bkW g A.2.1 v.2.1 ++ (bkW g A.2.2.1 v.2.2.1 ++ (bkW g A.2.2.2.1 v.2.2.2.1 ++ (hsW g A.2.2.2.2.1 A.2.2.2.2.2.2.2 v.2.2.2.2.1 ++ (scW g A.2.2.2.2.2.1 v.2.2.2.2.2.1 ++ (sbW g A.2.2.2.2.2.2.1 v.2.2.2.2.2.2.1 ++ (hbW g A.2.2.2.2.2.2.2 v.2.2.2.2.2.2.2)))))))) [(0, .ref A.1), (1, .int x1)] [.int s0, .ref A.1] 21 := by
    intro x1 s0 v h
    rw [f_X3_markByPage_B21] at h
    obtain ⟨r1, k2, h⟩ := bd_some h
    rcases r1 with r1 | r1
    · have h := bx_l h
      refine V_callXr C hBA hE ml_X3_114 (pre := []) (post := []) (wc := xW g A v) (as := [.int s0]) (rest := []) (w1 := xW g A r1.2) (rv := (some (.int r1.1))) (c_X3_idOfFound hst k2) 0 24 (mgW A r1.2.1 ++ (bkW g A.2.1 r1.2.2.1 ++ (bkW g A.2.2.1 r1.2.2.2.1 ++ (bkW g A.2.2.2.1 r1.2.2.2.2.1 ++ (hsW g A.2.2.2.2.1 A.2.2.2.2.2.2.2 r1.2.2.2.2.2.1 ++ (scW g A.2.2.2.2.2.1 r1.2.2.2.2.2.2.1 ++ (sbW g A.2.2.2.2.2.2.1 r1.2.2.2.2.2.2.2.1 ++ (hbW g A.2.2.2.2.2.2.2 r1.2.2.2.2.2.2.2.2)))))))) dX3_markByPage_21 rfl ⟨Nat.le_of_ble_eq_true rfl, Nat.le_of_ble_eq_true rfl⟩ rfl (List.append_nil _).symm (List.append_nil _) (xW_fst _ _ _ _) rfl rfl rfl (Nat.le_of_ble_eq_true rfl) ⟨Nat.zero_le _, Nat.zero_le _⟩ ?_
      obtain rfl := Option.some.inj h
      exact V_xretI C Z (ty := .int) rfl (rfl) rfl dX3_markByPage_24 (Nat.le_refl _) (Nat.le_refl _)
    · have h := bx_r h
      obtain rfl := Option.some.inj h
      refine V_callXt C hBA hE ml_X3_114 (pre := []) (post := []) (wc := xW g A v) (as := [.int s0]) (rest := []) (w1 := xW g A r1.2) (E := r1.1) (c_X3_idOfFound hst k2) 0 (xW g A r1.2) dX3_markByPage_21 ⟨Nat.le_of_ble_eq_true rfl, Nat.le_of_ble_eq_true rfl⟩ rfl (List.append_nil _).symm (List.append_nil _) (xW_fst _ _ _ _) rfl rfl (Nat.le_of_ble_eq_true rfl) ⟨Nat.le_refl _, Nat.le_refl _⟩ ?_
      exact VX_out C Z rfl (Nat.le_refl _) (Nat.le_refl _)
  have B20 : ∀ (x1 : Int32) (v : XV), f_X3_markByPage_B20 x1 v = some R → V K 0 0 (mgW A v.1 ++ (bkW g A.2.1 v.2.1 ++ (bkW g A.2.2.1 v.2.2.1 ++ (bkW g A.2.2.2.1 v.2.2.2.1 ++ (hsW g A.2.2.2.2.1 A.2.2.2.2.2.2.2 v.2.2.2.2.1 ++ (scW g A.2.2.2.2.2.1 v.2.2.2.2.2.1 ++ (sbW g A.2.2.2.2.2.2.1 v.2.2.2.2.2.2.1 ++ (hbW g A.2.2.2.2.2.2.2 v.2.2.2.2.2.2.2)))))))) [(0, .ref A.1), (1, .int x1)] [.ref A.1] 20 := by
    intro x1 v h
    rw [f_X3_markByPage_B20] at h
    refine V_iconst C (-1 : Int32) 21 dX3_markByPage_20 rfl rfl ?_
    refine V_lv [0, 1] rfl ?_
    exact B21 _ _ _ h
  show V K 0 0 _ [(0, .ref A.1), (1, .int a1)] [] 0
  unfold f_X3_markByPage at h
  refine V_aload_n C 0 1 dX3_markByPage_0 rfl rfl ?_
  refine V_iload_n C 1 2 dX3_markByPage_1 rfl rfl ?_
  refine V_if_lt C 20 5 dX3_markByPage_2 rfl rfl (fun e3 => ?_) (fun e3 => ?_)
  · have h := (if_pos e3).symm.trans h
    refine V_lv [0, 1] rfl ?_
    exact B20 _ _ h
  · have h := (if_neg e3).symm.trans h
    refine V_iload_n C 1 6 dX3_markByPage_5 rfl rfl ?_
    refine V_aload_n C 0 7 dX3_markByPage_6 rfl rfl ?_
    refine V_get C (v := .ref A.2.1.1) 0 10 fl_X3_10 dX3_markByPage_7 rfl rfl rfl ?_
    refine V_get C (v := .int (Bk_marks v.2.1)) 1 13 fl_X3_178 dX3_markByPage_10 rfl rfl rfl ?_
    refine V_icmp_ge C 20 16 dX3_markByPage_13 rfl rfl (fun e4 => ?_) (fun e4 => ?_)
    · have h := (if_pos e4).symm.trans h
      refine V_lv [0, 1] rfl ?_
      exact B20 _ _ h
    · have h := (if_neg e4).symm.trans h
      refine V_iload_n C 1 17 dX3_markByPage_16 rfl rfl ?_
      refine V_goto C 21 dX3_markByPage_17 rfl ?_
      refine V_lv [0, 1] rfl ?_
      exact B21 _ _ _ h
set_option maxHeartbeats 4000000 in
set_option maxRecDepth 100000 in
theorem c_X3_markByWeight {l : Launch} {D : va_G} {g : G0} {A : XA} {v : XV} {a1 : Int32} {R : ((Int32 × XV) ⊕ (String × XV))} (hst : l.stackTraces = false) (h : f_X3_markByWeight v a1 = some R) : CtX l D g yX3_markByWeight cX3_markByWeight 2 (some .int) (rmX 7 111 (rxI g A R)) (xW g A v) [.ref A.1, .int a1] (rxI g A R) := by
  refine CtX.of (by decide) (Nat.le_of_ble_eq_true rfl) hst ?_
  intro K C Z hBA el eD ekn
  subst el
  subst eD
  have hE := Z.2.2.1
  have hlt : ∀ i, i < 2 → i < kn K := fun i h => by rw [ekn]; exact h
  show V K 0 0 _ [(0, .ref A.1), (1, .int a1)] [] 0
  unfold f_X3_markByWeight at h
  refine V_aload_n C 0 1 dX3_markByWeight_0 rfl rfl ?_
  refine V_aload_n C 0 2 dX3_markByWeight_1 rfl rfl ?_
  refine V_get C (v := .ref A.2.1.1) 0 5 fl_X3_10 dX3_markByWeight_2 rfl rfl rfl ?_
  refine V_iload_n C 1 6 dX3_markByWeight_5 rfl rfl ?_
  obtain ⟨r1, k2, h⟩ := bd_some h
  refine V_callP C ml_X3_181 (pre := mgW A v.1) (post := bkW g A.2.2.1 v.2.2.1 ++ (bkW g A.2.2.2.1 v.2.2.2.1 ++ (hsW g A.2.2.2.2.1 A.2.2.2.2.2.2.2 v.2.2.2.2.1 ++ (scW g A.2.2.2.2.2.1 v.2.2.2.2.2.1 ++ (sbW g A.2.2.2.2.2.2.1 v.2.2.2.2.2.2.1 ++ (hbW g A.2.2.2.2.2.2.2 v.2.2.2.2.2.2.2)))))) (w := bkW g A.2.1 v.2.1) (as := [.int a1]) (rest := [.ref A.1]) (c_X0_slotOfRank k2) 1 9 dX3_markByWeight_6 rfl ⟨Nat.le_of_ble_eq_true rfl, Nat.le_of_ble_eq_true rfl⟩ rfl (by first | (simp only [List.append_assoc, List.nil_append, List.append_nil]; done) | rfl) rfl rfl rfl (Nat.le_of_ble_eq_true rfl) ⟨Nat.zero_le _, Nat.zero_le _⟩ ?_
  obtain ⟨r3, k4, h⟩ := bd_some h
  rcases r3 with r3 | r3
  · have h := bx_l h
    refine V_callXr C hBA hE ml_X3_114 (pre := []) (post := []) (wc := xW g A v) (as := [.int r1]) (rest := []) (w1 := xW g A r3.2) (rv := (some (.int r3.1))) (c_X3_idOfFound hst k4) 0 12 (mgW A r3.2.1 ++ (bkW g A.2.1 r3.2.2.1 ++ (bkW g A.2.2.1 r3.2.2.2.1 ++ (bkW g A.2.2.2.1 r3.2.2.2.2.1 ++ (hsW g A.2.2.2.2.1 A.2.2.2.2.2.2.2 r3.2.2.2.2.2.1 ++ (scW g A.2.2.2.2.2.1 r3.2.2.2.2.2.2.1 ++ (sbW g A.2.2.2.2.2.2.1 r3.2.2.2.2.2.2.2.1 ++ (hbW g A.2.2.2.2.2.2.2 r3.2.2.2.2.2.2.2.2)))))))) dX3_markByWeight_9 rfl ⟨Nat.le_of_ble_eq_true rfl, Nat.le_of_ble_eq_true rfl⟩ rfl (List.append_nil _).symm (List.append_nil _) (xW_fst _ _ _ _) rfl rfl rfl (Nat.le_of_ble_eq_true rfl) ⟨Nat.zero_le _, Nat.zero_le _⟩ ?_
    obtain rfl := Option.some.inj h
    exact V_xretI C Z (ty := .int) rfl (rfl) rfl dX3_markByWeight_12 (Nat.le_refl _) (Nat.le_refl _)
  · have h := bx_r h
    obtain rfl := Option.some.inj h
    refine V_callXt C hBA hE ml_X3_114 (pre := []) (post := []) (wc := xW g A v) (as := [.int r1]) (rest := []) (w1 := xW g A r3.2) (E := r3.1) (c_X3_idOfFound hst k4) 0 (xW g A r3.2) dX3_markByWeight_9 ⟨Nat.le_of_ble_eq_true rfl, Nat.le_of_ble_eq_true rfl⟩ rfl (List.append_nil _).symm (List.append_nil _) (xW_fst _ _ _ _) rfl rfl (Nat.le_of_ble_eq_true rfl) ⟨Nat.le_refl _, Nat.le_refl _⟩ ?_
    exact VX_out C Z rfl (Nat.le_refl _) (Nat.le_refl _)
set_option maxHeartbeats 4000000 in
set_option maxRecDepth 100000 in
theorem c_X3_span {l : Launch} {D : va_G} {g : G0} {A : XA} {v : XV} {R : Int32} (h : f_X3_span v  = some R) : CtP l D g yX3_span cX3_span 1 (some .int) (rmF 1 22) (mgW A v.1 ++ (bkW g A.2.1 v.2.1 ++ (bkW g A.2.2.1 v.2.2.1 ++ (bkW g A.2.2.2.1 v.2.2.2.1 ++ (hsW g A.2.2.2.2.1 A.2.2.2.2.2.2.2 v.2.2.2.2.1 ++ (scW g A.2.2.2.2.2.1 v.2.2.2.2.2.1 ++ (sbW g A.2.2.2.2.2.2.1 v.2.2.2.2.2.2.1 ++ (hbW g A.2.2.2.2.2.2.2 v.2.2.2.2.2.2.2)))))))) [.ref A.1] (some (.int R)) := by
  refine CtP.of (by decide) rfl rfl (Nat.le_of_ble_eq_true rfl) ?_
  intro K C el eD ekn retI
  subst el
  subst eD
  have hlt : ∀ i, i < 1 → i < kn K := fun i h => by rw [ekn]; exact h
  show V K 0 0 _ [(0, .ref A.1)] [] 0
  unfold f_X3_span at h
  refine V_aload_n C 0 1 dX3_span_0 rfl rfl ?_
  refine V_get C (v := .ref A.2.1.1) 0 4 fl_X3_10 dX3_span_1 rfl rfl rfl ?_
  obtain ⟨r1, k2, h⟩ := bd_some h
  refine V_callP C ml_X3_184 (pre := mgW A v.1) (post := bkW g A.2.2.1 v.2.2.1 ++ (bkW g A.2.2.2.1 v.2.2.2.1 ++ (hsW g A.2.2.2.2.1 A.2.2.2.2.2.2.2 v.2.2.2.2.1 ++ (scW g A.2.2.2.2.2.1 v.2.2.2.2.2.1 ++ (sbW g A.2.2.2.2.2.2.1 v.2.2.2.2.2.2.1 ++ (hbW g A.2.2.2.2.2.2.2 v.2.2.2.2.2.2.2)))))) (w := bkW g A.2.1 v.2.1) (as := []) (rest := []) (c_X0_spanStepByStep k2) 1 7 dX3_span_4 rfl ⟨Nat.le_of_ble_eq_true rfl, Nat.le_of_ble_eq_true rfl⟩ rfl (by first | (simp only [List.append_assoc, List.nil_append, List.append_nil]; done) | rfl) rfl rfl rfl (Nat.le_of_ble_eq_true rfl) ⟨Nat.zero_le _, Nat.zero_le _⟩ ?_
  obtain rfl := Option.some.inj h
  exact retI _ _ _ .int rfl (rfl) rfl dX3_span_7
set_option maxHeartbeats 4000000 in
set_option maxRecDepth 100000 in
theorem c_X3_spanByEnds {l : Launch} {D : va_G} {g : G0} {A : XA} {v : XV} {R : Int32} (h : f_X3_spanByEnds v  = some R) : CtP l D g yX3_spanByEnds cX3_spanByEnds 1 (some .int) (rmF 1 20) (mgW A v.1 ++ (bkW g A.2.1 v.2.1 ++ (bkW g A.2.2.1 v.2.2.1 ++ (bkW g A.2.2.2.1 v.2.2.2.1 ++ (hsW g A.2.2.2.2.1 A.2.2.2.2.2.2.2 v.2.2.2.2.1 ++ (scW g A.2.2.2.2.2.1 v.2.2.2.2.2.1 ++ (sbW g A.2.2.2.2.2.2.1 v.2.2.2.2.2.2.1 ++ (hbW g A.2.2.2.2.2.2.2 v.2.2.2.2.2.2.2)))))))) [.ref A.1] (some (.int R)) := by
  refine CtP.of (by decide) rfl rfl (Nat.le_of_ble_eq_true rfl) ?_
  intro K C el eD ekn retI
  subst el
  subst eD
  have hlt : ∀ i, i < 1 → i < kn K := fun i h => by rw [ekn]; exact h
  show V K 0 0 _ [(0, .ref A.1)] [] 0
  unfold f_X3_spanByEnds at h
  refine V_aload_n C 0 1 dX3_spanByEnds_0 rfl rfl ?_
  refine V_get C (v := .ref A.2.1.1) 0 4 fl_X3_10 dX3_spanByEnds_1 rfl rfl rfl ?_
  obtain ⟨r1, k2, h⟩ := bd_some h
  refine V_callP C ml_X3_187 (pre := mgW A v.1) (post := bkW g A.2.2.1 v.2.2.1 ++ (bkW g A.2.2.2.1 v.2.2.2.1 ++ (hsW g A.2.2.2.2.1 A.2.2.2.2.2.2.2 v.2.2.2.2.1 ++ (scW g A.2.2.2.2.2.1 v.2.2.2.2.2.1 ++ (sbW g A.2.2.2.2.2.2.1 v.2.2.2.2.2.2.1 ++ (hbW g A.2.2.2.2.2.2.2 v.2.2.2.2.2.2.2)))))) (w := bkW g A.2.1 v.2.1) (as := []) (rest := []) (c_X0_spanEndToEnd k2) 1 7 dX3_spanByEnds_4 rfl ⟨Nat.le_of_ble_eq_true rfl, Nat.le_of_ble_eq_true rfl⟩ rfl (by first | (simp only [List.append_assoc, List.nil_append, List.append_nil]; done) | rfl) rfl rfl rfl (Nat.le_of_ble_eq_true rfl) ⟨Nat.zero_le _, Nat.zero_le _⟩ ?_
  obtain rfl := Option.some.inj h
  exact retI _ _ _ .int rfl (rfl) rfl dX3_spanByEnds_7
set_option maxHeartbeats 4000000 in
set_option maxRecDepth 100000 in
theorem c_X3_ribbonWeight {l : Launch} {D : va_G} {g : G0} {A : XA} {v : XV} {R : Int32} (h : f_X3_ribbonWeight v  = some R) : CtP l D g yX3_ribbonWeight cX3_ribbonWeight 1 (some .int) (rmF 2 44) (mgW A v.1 ++ (bkW g A.2.1 v.2.1 ++ (bkW g A.2.2.1 v.2.2.1 ++ (bkW g A.2.2.2.1 v.2.2.2.1 ++ (hsW g A.2.2.2.2.1 A.2.2.2.2.2.2.2 v.2.2.2.2.1 ++ (scW g A.2.2.2.2.2.1 v.2.2.2.2.2.1 ++ (sbW g A.2.2.2.2.2.2.1 v.2.2.2.2.2.2.1 ++ (hbW g A.2.2.2.2.2.2.2 v.2.2.2.2.2.2.2)))))))) [.ref A.1] (some (.int R)) := by
  refine CtP.of (by decide) rfl rfl (Nat.le_of_ble_eq_true rfl) ?_
  intro K C el eD ekn retI
  subst el
  subst eD
  have hlt : ∀ i, i < 1 → i < kn K := fun i h => by rw [ekn]; exact h
  show V K 0 0 _ [(0, .ref A.1)] [] 0
  unfold f_X3_ribbonWeight at h
  refine V_aload_n C 0 1 dX3_ribbonWeight_0 rfl rfl ?_
  refine V_get C (v := .ref A.2.1.1) 0 4 fl_X3_10 dX3_ribbonWeight_1 rfl rfl rfl ?_
  refine V_iconst C (1 : Int32) 5 dX3_ribbonWeight_4 rfl rfl ?_
  obtain ⟨r1, k2, h⟩ := bd_some h
  refine V_callP C ml_X3_190 (pre := mgW A v.1) (post := bkW g A.2.2.1 v.2.2.1 ++ (bkW g A.2.2.2.1 v.2.2.2.1 ++ (hsW g A.2.2.2.2.1 A.2.2.2.2.2.2.2 v.2.2.2.2.1 ++ (scW g A.2.2.2.2.2.1 v.2.2.2.2.2.1 ++ (sbW g A.2.2.2.2.2.2.1 v.2.2.2.2.2.2.1 ++ (hbW g A.2.2.2.2.2.2.2 v.2.2.2.2.2.2.2)))))) (w := bkW g A.2.1 v.2.1) (as := [.int (1 : Int32)]) (rest := []) (c_X0_weightOfKind k2) 1 8 dX3_ribbonWeight_5 rfl ⟨Nat.le_of_ble_eq_true rfl, Nat.le_of_ble_eq_true rfl⟩ rfl (by first | (simp only [List.append_assoc, List.nil_append, List.append_nil]; done) | rfl) rfl rfl rfl (Nat.le_of_ble_eq_true rfl) ⟨Nat.zero_le _, Nat.zero_le _⟩ ?_
  obtain rfl := Option.some.inj h
  exact retI _ _ _ .int rfl (rfl) rfl dX3_ribbonWeight_8
set_option maxHeartbeats 4000000 in
set_option maxRecDepth 100000 in
theorem c_X3_dogEarWeight {l : Launch} {D : va_G} {g : G0} {A : XA} {v : XV} {R : Int32} (h : f_X3_dogEarWeight v  = some R) : CtP l D g yX3_dogEarWeight cX3_dogEarWeight 1 (some .int) (rmF 2 44) (mgW A v.1 ++ (bkW g A.2.1 v.2.1 ++ (bkW g A.2.2.1 v.2.2.1 ++ (bkW g A.2.2.2.1 v.2.2.2.1 ++ (hsW g A.2.2.2.2.1 A.2.2.2.2.2.2.2 v.2.2.2.2.1 ++ (scW g A.2.2.2.2.2.1 v.2.2.2.2.2.1 ++ (sbW g A.2.2.2.2.2.2.1 v.2.2.2.2.2.2.1 ++ (hbW g A.2.2.2.2.2.2.2 v.2.2.2.2.2.2.2)))))))) [.ref A.1] (some (.int R)) := by
  refine CtP.of (by decide) rfl rfl (Nat.le_of_ble_eq_true rfl) ?_
  intro K C el eD ekn retI
  subst el
  subst eD
  have hlt : ∀ i, i < 1 → i < kn K := fun i h => by rw [ekn]; exact h
  show V K 0 0 _ [(0, .ref A.1)] [] 0
  unfold f_X3_dogEarWeight at h
  refine V_aload_n C 0 1 dX3_dogEarWeight_0 rfl rfl ?_
  refine V_get C (v := .ref A.2.1.1) 0 4 fl_X3_10 dX3_dogEarWeight_1 rfl rfl rfl ?_
  refine V_iconst C (0 : Int32) 5 dX3_dogEarWeight_4 rfl rfl ?_
  obtain ⟨r1, k2, h⟩ := bd_some h
  refine V_callP C ml_X3_190 (pre := mgW A v.1) (post := bkW g A.2.2.1 v.2.2.1 ++ (bkW g A.2.2.2.1 v.2.2.2.1 ++ (hsW g A.2.2.2.2.1 A.2.2.2.2.2.2.2 v.2.2.2.2.1 ++ (scW g A.2.2.2.2.2.1 v.2.2.2.2.2.1 ++ (sbW g A.2.2.2.2.2.2.1 v.2.2.2.2.2.2.1 ++ (hbW g A.2.2.2.2.2.2.2 v.2.2.2.2.2.2.2)))))) (w := bkW g A.2.1 v.2.1) (as := [.int (0 : Int32)]) (rest := []) (c_X0_weightOfKind k2) 1 8 dX3_dogEarWeight_5 rfl ⟨Nat.le_of_ble_eq_true rfl, Nat.le_of_ble_eq_true rfl⟩ rfl (by first | (simp only [List.append_assoc, List.nil_append, List.append_nil]; done) | rfl) rfl rfl rfl (Nat.le_of_ble_eq_true rfl) ⟨Nat.zero_le _, Nat.zero_le _⟩ ?_
  obtain rfl := Option.some.inj h
  exact retI _ _ _ .int rfl (rfl) rfl dX3_dogEarWeight_8
set_option maxHeartbeats 4000000 in
set_option maxRecDepth 100000 in
theorem c_X3_markCount {l : Launch} {D : va_G} {g : G0} {A : XA} {v : XV} {R : Int32} (h : f_X3_markCount v  = some R) : CtP l D g yX3_markCount cX3_markCount 1 (some .int) (rmF 0 0) (mgW A v.1 ++ (bkW g A.2.1 v.2.1 ++ (bkW g A.2.2.1 v.2.2.1 ++ (bkW g A.2.2.2.1 v.2.2.2.1 ++ (hsW g A.2.2.2.2.1 A.2.2.2.2.2.2.2 v.2.2.2.2.1 ++ (scW g A.2.2.2.2.2.1 v.2.2.2.2.2.1 ++ (sbW g A.2.2.2.2.2.2.1 v.2.2.2.2.2.2.1 ++ (hbW g A.2.2.2.2.2.2.2 v.2.2.2.2.2.2.2)))))))) [.ref A.1] (some (.int R)) := by
  refine CtP.of (by decide) rfl rfl (Nat.le_of_ble_eq_true rfl) ?_
  intro K C el eD ekn retI
  subst el
  subst eD
  have hlt : ∀ i, i < 1 → i < kn K := fun i h => by rw [ekn]; exact h
  show V K 0 0 _ [(0, .ref A.1)] [] 0
  unfold f_X3_markCount at h
  refine V_aload_n C 0 1 dX3_markCount_0 rfl rfl ?_
  refine V_get C (v := .ref A.2.1.1) 0 4 fl_X3_10 dX3_markCount_1 rfl rfl rfl ?_
  refine V_get C (v := .int (Bk_marks v.2.1)) 1 7 fl_X3_178 dX3_markCount_4 rfl rfl rfl ?_
  obtain rfl := Option.some.inj h
  exact retI _ _ _ .int rfl (rfl) rfl dX3_markCount_7
set_option maxHeartbeats 4000000 in
set_option maxRecDepth 100000 in
theorem c_X3_ribbonCount {l : Launch} {D : va_G} {g : G0} {A : XA} {v : XV} {R : Int32} (h : f_X3_ribbonCount v  = some R) : CtP l D g yX3_ribbonCount cX3_ribbonCount 1 (some .int) (rmF 2 43) (mgW A v.1 ++ (bkW g A.2.1 v.2.1 ++ (bkW g A.2.2.1 v.2.2.1 ++ (bkW g A.2.2.2.1 v.2.2.2.1 ++ (hsW g A.2.2.2.2.1 A.2.2.2.2.2.2.2 v.2.2.2.2.1 ++ (scW g A.2.2.2.2.2.1 v.2.2.2.2.2.1 ++ (sbW g A.2.2.2.2.2.2.1 v.2.2.2.2.2.2.1 ++ (hbW g A.2.2.2.2.2.2.2 v.2.2.2.2.2.2.2)))))))) [.ref A.1] (some (.int R)) := by
  refine CtP.of (by decide) rfl rfl (Nat.le_of_ble_eq_true rfl) ?_
  intro K C el eD ekn retI
  subst el
  subst eD
  have hlt : ∀ i, i < 1 → i < kn K := fun i h => by rw [ekn]; exact h
  show V K 0 0 _ [(0, .ref A.1)] [] 0
  unfold f_X3_ribbonCount at h
  refine V_aload_n C 0 1 dX3_ribbonCount_0 rfl rfl ?_
  refine V_get C (v := .ref A.2.1.1) 0 4 fl_X3_10 dX3_ribbonCount_1 rfl rfl rfl ?_
  obtain ⟨r1, k2, h⟩ := bd_some h
  refine V_callP C ml_X3_194 (pre := mgW A v.1) (post := bkW g A.2.2.1 v.2.2.1 ++ (bkW g A.2.2.2.1 v.2.2.2.1 ++ (hsW g A.2.2.2.2.1 A.2.2.2.2.2.2.2 v.2.2.2.2.1 ++ (scW g A.2.2.2.2.2.1 v.2.2.2.2.2.1 ++ (sbW g A.2.2.2.2.2.2.1 v.2.2.2.2.2.2.1 ++ (hbW g A.2.2.2.2.2.2.2 v.2.2.2.2.2.2.2)))))) (w := bkW g A.2.1 v.2.1) (as := []) (rest := []) (c_X0_ribbons k2) 1 7 dX3_ribbonCount_4 rfl ⟨Nat.le_of_ble_eq_true rfl, Nat.le_of_ble_eq_true rfl⟩ rfl (by first | (simp only [List.append_assoc, List.nil_append, List.append_nil]; done) | rfl) rfl rfl rfl (Nat.le_of_ble_eq_true rfl) ⟨Nat.zero_le _, Nat.zero_le _⟩ ?_
  obtain rfl := Option.some.inj h
  exact retI _ _ _ .int rfl (rfl) rfl dX3_ribbonCount_7
set_option maxHeartbeats 4000000 in
set_option maxRecDepth 100000 in
theorem c_X3_chapterCount {l : Launch} {D : va_G} {g : G0} {A : XA} {v : XV} {R : Int32} (h : f_X3_chapterCount v  = some R) : CtP l D g yX3_chapterCount cX3_chapterCount 1 (some .int) (rmF 0 0) (mgW A v.1 ++ (bkW g A.2.1 v.2.1 ++ (bkW g A.2.2.1 v.2.2.1 ++ (bkW g A.2.2.2.1 v.2.2.2.1 ++ (hsW g A.2.2.2.2.1 A.2.2.2.2.2.2.2 v.2.2.2.2.1 ++ (scW g A.2.2.2.2.2.1 v.2.2.2.2.2.1 ++ (sbW g A.2.2.2.2.2.2.1 v.2.2.2.2.2.2.1 ++ (hbW g A.2.2.2.2.2.2.2 v.2.2.2.2.2.2.2)))))))) [.ref A.1] (some (.int R)) := by
  refine CtP.of (by decide) rfl rfl (Nat.le_of_ble_eq_true rfl) ?_
  intro K C el eD ekn retI
  subst el
  subst eD
  have hlt : ∀ i, i < 1 → i < kn K := fun i h => by rw [ekn]; exact h
  show V K 0 0 _ [(0, .ref A.1)] [] 0
  unfold f_X3_chapterCount at h
  refine V_aload_n C 0 1 dX3_chapterCount_0 rfl rfl ?_
  refine V_get C (v := .ref A.2.1.1) 0 4 fl_X3_10 dX3_chapterCount_1 rfl rfl rfl ?_
  refine V_get C (v := .int (Bk_chapters v.2.1)) 1 7 fl_X3_197 dX3_chapterCount_4 rfl rfl rfl ?_
  obtain rfl := Option.some.inj h
  exact retI _ _ _ .int rfl (rfl) rfl dX3_chapterCount_7
set_option maxHeartbeats 4000000 in
set_option maxRecDepth 100000 in
theorem c_X3_votesHeld {l : Launch} {D : va_G} {g : G0} {A : XA} {v : XV} {R : Int32} (h : f_X3_votesHeld v  = some R) : CtP l D g yX3_votesHeld cX3_votesHeld 1 (some .int) (rmF 0 0) (mgW A v.1 ++ (bkW g A.2.1 v.2.1 ++ (bkW g A.2.2.1 v.2.2.1 ++ (bkW g A.2.2.2.1 v.2.2.2.1 ++ (hsW g A.2.2.2.2.1 A.2.2.2.2.2.2.2 v.2.2.2.2.1 ++ (scW g A.2.2.2.2.2.1 v.2.2.2.2.2.1 ++ (sbW g A.2.2.2.2.2.2.1 v.2.2.2.2.2.2.1 ++ (hbW g A.2.2.2.2.2.2.2 v.2.2.2.2.2.2.2)))))))) [.ref A.1] (some (.int R)) := by
  refine CtP.of (by decide) rfl rfl (Nat.le_of_ble_eq_true rfl) ?_
  intro K C el eD ekn retI
  subst el
  subst eD
  have hlt : ∀ i, i < 1 → i < kn K := fun i h => by rw [ekn]; exact h
  show V K 0 0 _ [(0, .ref A.1)] [] 0
  unfold f_X3_votesHeld at h
  refine V_aload_n C 0 1 dX3_votesHeld_0 rfl rfl ?_
  refine V_get C (v := .ref A.2.1.1) 0 4 fl_X3_10 dX3_votesHeld_1 rfl rfl rfl ?_
  refine V_get C (v := .int (Bk_votes v.2.1)) 1 7 fl_X3_200 dX3_votesHeld_4 rfl rfl rfl ?_
  obtain rfl := Option.some.inj h
  exact retI _ _ _ .int rfl (rfl) rfl dX3_votesHeld_7
set_option maxHeartbeats 4000000 in
set_option maxRecDepth 100000 in
theorem c_X3_motionsCarried {l : Launch} {D : va_G} {g : G0} {A : XA} {v : XV} {R : Int32} (h : f_X3_motionsCarried v  = some R) : CtP l D g yX3_motionsCarried cX3_motionsCarried 1 (some .int) (rmF 0 0) (mgW A v.1 ++ (bkW g A.2.1 v.2.1 ++ (bkW g A.2.2.1 v.2.2.1 ++ (bkW g A.2.2.2.1 v.2.2.2.1 ++ (hsW g A.2.2.2.2.1 A.2.2.2.2.2.2.2 v.2.2.2.2.1 ++ (scW g A.2.2.2.2.2.1 v.2.2.2.2.2.1 ++ (sbW g A.2.2.2.2.2.2.1 v.2.2.2.2.2.2.1 ++ (hbW g A.2.2.2.2.2.2.2 v.2.2.2.2.2.2.2)))))))) [.ref A.1] (some (.int R)) := by
  refine CtP.of (by decide) rfl rfl (Nat.le_of_ble_eq_true rfl) ?_
  intro K C el eD ekn retI
  subst el
  subst eD
  have hlt : ∀ i, i < 1 → i < kn K := fun i h => by rw [ekn]; exact h
  show V K 0 0 _ [(0, .ref A.1)] [] 0
  unfold f_X3_motionsCarried at h
  refine V_aload_n C 0 1 dX3_motionsCarried_0 rfl rfl ?_
  refine V_get C (v := .ref A.2.1.1) 0 4 fl_X3_10 dX3_motionsCarried_1 rfl rfl rfl ?_
  refine V_get C (v := .int (Bk_carried v.2.1)) 1 7 fl_X3_203 dX3_motionsCarried_4 rfl rfl rfl ?_
  obtain rfl := Option.some.inj h
  exact retI _ _ _ .int rfl (rfl) rfl dX3_motionsCarried_7
set_option maxHeartbeats 4000000 in
set_option maxRecDepth 100000 in
theorem c_X3_fallenEars {l : Launch} {D : va_G} {g : G0} {A : XA} {v : XV} {R : Int32} (h : f_X3_fallenEars v  = some R) : CtP l D g yX3_fallenEars cX3_fallenEars 1 (some .int) (rmF 0 0) (mgW A v.1 ++ (bkW g A.2.1 v.2.1 ++ (bkW g A.2.2.1 v.2.2.1 ++ (bkW g A.2.2.2.1 v.2.2.2.1 ++ (hsW g A.2.2.2.2.1 A.2.2.2.2.2.2.2 v.2.2.2.2.1 ++ (scW g A.2.2.2.2.2.1 v.2.2.2.2.2.1 ++ (sbW g A.2.2.2.2.2.2.1 v.2.2.2.2.2.2.1 ++ (hbW g A.2.2.2.2.2.2.2 v.2.2.2.2.2.2.2)))))))) [.ref A.1] (some (.int R)) := by
  refine CtP.of (by decide) rfl rfl (Nat.le_of_ble_eq_true rfl) ?_
  intro K C el eD ekn retI
  subst el
  subst eD
  have hlt : ∀ i, i < 1 → i < kn K := fun i h => by rw [ekn]; exact h
  show V K 0 0 _ [(0, .ref A.1)] [] 0
  unfold f_X3_fallenEars at h
  refine V_aload_n C 0 1 dX3_fallenEars_0 rfl rfl ?_
  refine V_get C (v := .ref A.2.1.1) 0 4 fl_X3_10 dX3_fallenEars_1 rfl rfl rfl ?_
  refine V_get C (v := .int (Bk_fallen v.2.1)) 1 7 fl_X3_206 dX3_fallenEars_4 rfl rfl rfl ?_
  obtain rfl := Option.some.inj h
  exact retI _ _ _ .int rfl (rfl) rfl dX3_fallenEars_7
set_option maxHeartbeats 4000000 in
set_option maxRecDepth 100000 in
theorem c_X3_isConsistent {l : Launch} {D : va_G} {g : G0} {A : XA} {v : XV} {R : Int32} (h : f_X3_isConsistent v  = some R) : CtP l D g yX3_isConsistent cX3_isConsistent 1 (some .boolean) (rmF 4 88) (mgW A v.1 ++ (bkW g A.2.1 v.2.1 ++ (bkW g A.2.2.1 v.2.2.1 ++ (bkW g A.2.2.2.1 v.2.2.2.1 ++ (hsW g A.2.2.2.2.1 A.2.2.2.2.2.2.2 v.2.2.2.2.1 ++ (scW g A.2.2.2.2.2.1 v.2.2.2.2.2.1 ++ (sbW g A.2.2.2.2.2.2.1 v.2.2.2.2.2.2.1 ++ (hbW g A.2.2.2.2.2.2.2 v.2.2.2.2.2.2.2)))))))) [.ref A.1] (some (.int R)) := by
  refine CtP.of (by decide) rfl rfl (Nat.le_of_ble_eq_true rfl) ?_
  intro K C el eD ekn retI
  subst el
  subst eD
  have hlt : ∀ i, i < 1 → i < kn K := fun i h => by rw [ekn]; exact h
  have B52 : ∀ (s0 : Int32), f_X3_isConsistent_B52 v s0 = some R → V K 0 0 (mgW A v.1 ++ (bkW g A.2.1 v.2.1 ++ (bkW g A.2.2.1 v.2.2.1 ++ (bkW g A.2.2.2.1 v.2.2.2.1 ++ (hsW g A.2.2.2.2.1 A.2.2.2.2.2.2.2 v.2.2.2.2.1 ++ (scW g A.2.2.2.2.2.1 v.2.2.2.2.2.1 ++ (sbW g A.2.2.2.2.2.2.1 v.2.2.2.2.2.2.1 ++ (hbW g A.2.2.2.2.2.2.2 v.2.2.2.2.2.2.2)))))))) [(0, .ref A.1)] [.int s0] 52 := by
    intro s0 h
    rw [f_X3_isConsistent_B52] at h
    obtain ⟨g1, h⟩ := gd_some h
    obtain rfl := Option.some.inj h
    exact retI _ _ _ .boolean rfl (isz_t g1) rfl dX3_isConsistent_52
  have B51 : f_X3_isConsistent_B51 v  = some R → V K 0 0 (mgW A v.1 ++ (bkW g A.2.1 v.2.1 ++ (bkW g A.2.2.1 v.2.2.1 ++ (bkW g A.2.2.2.1 v.2.2.2.1 ++ (hsW g A.2.2.2.2.1 A.2.2.2.2.2.2.2 v.2.2.2.2.1 ++ (scW g A.2.2.2.2.2.1 v.2.2.2.2.2.1 ++ (sbW g A.2.2.2.2.2.2.1 v.2.2.2.2.2.2.1 ++ (hbW g A.2.2.2.2.2.2.2 v.2.2.2.2.2.2.2)))))))) [(0, .ref A.1)] [] 51 := by
    intro  h
    rw [f_X3_isConsistent_B51] at h
    refine V_iconst C (0 : Int32) 52 dX3_isConsistent_51 rfl rfl ?_
    refine V_lv [0] rfl ?_
    exact B52 _ h
  show V K 0 0 _ [(0, .ref A.1)] [] 0
  unfold f_X3_isConsistent at h
  refine V_aload_n C 0 1 dX3_isConsistent_0 rfl rfl ?_
  refine V_get C (v := .ref A.2.1.1) 0 4 fl_X3_10 dX3_isConsistent_1 rfl rfl rfl ?_
  obtain ⟨r2, k3, h⟩ := bd_some h
  refine V_callP C ml_X3_217 (pre := mgW A v.1) (post := bkW g A.2.2.1 v.2.2.1 ++ (bkW g A.2.2.2.1 v.2.2.2.1 ++ (hsW g A.2.2.2.2.1 A.2.2.2.2.2.2.2 v.2.2.2.2.1 ++ (scW g A.2.2.2.2.2.1 v.2.2.2.2.2.1 ++ (sbW g A.2.2.2.2.2.2.1 v.2.2.2.2.2.2.1 ++ (hbW g A.2.2.2.2.2.2.2 v.2.2.2.2.2.2.2)))))) (w := bkW g A.2.1 v.2.1) (as := []) (rest := []) (c_X0_chapterWaysAgree k3) 1 7 dX3_isConsistent_4 rfl ⟨Nat.le_of_ble_eq_true rfl, Nat.le_of_ble_eq_true rfl⟩ rfl (by first | (simp only [List.append_assoc, List.nil_append, List.append_nil]; done) | rfl) rfl rfl rfl (Nat.le_of_ble_eq_true rfl) ⟨Nat.zero_le _, Nat.zero_le _⟩ ?_
  refine V_if_eq C 51 10 dX3_isConsistent_7 rfl rfl (fun e4 => ?_) (fun e4 => ?_)
  · have h := (if_pos e4).symm.trans h
    refine V_lv [0] rfl ?_
    exact B51  h
  · have h := (if_neg e4).symm.trans h
    refine V_aload_n C 0 11 dX3_isConsistent_10 rfl rfl ?_
    refine V_get C (v := .ref A.2.1.1) 0 14 fl_X3_10 dX3_isConsistent_11 rfl rfl rfl ?_
    obtain ⟨r5, k6, h⟩ := bd_some h
    refine V_callP C ml_X3_184 (pre := mgW A v.1) (post := bkW g A.2.2.1 v.2.2.1 ++ (bkW g A.2.2.2.1 v.2.2.2.1 ++ (hsW g A.2.2.2.2.1 A.2.2.2.2.2.2.2 v.2.2.2.2.1 ++ (scW g A.2.2.2.2.2.1 v.2.2.2.2.2.1 ++ (sbW g A.2.2.2.2.2.2.1 v.2.2.2.2.2.2.1 ++ (hbW g A.2.2.2.2.2.2.2 v.2.2.2.2.2.2.2)))))) (w := bkW g A.2.1 v.2.1) (as := []) (rest := []) (c_X0_spanStepByStep k6) 1 17 dX3_isConsistent_14 rfl ⟨Nat.le_of_ble_eq_true rfl, Nat.le_of_ble_eq_true rfl⟩ rfl (by first | (simp only [List.append_assoc, List.nil_append, List.append_nil]; done) | rfl) rfl rfl rfl (Nat.le_of_ble_eq_true rfl) ⟨Nat.zero_le _, Nat.zero_le _⟩ ?_
    refine V_aload_n C 0 18 dX3_isConsistent_17 rfl rfl ?_
    refine V_get C (v := .ref A.2.1.1) 0 21 fl_X3_10 dX3_isConsistent_18 rfl rfl rfl ?_
    obtain ⟨r7, k8, h⟩ := bd_some h
    refine V_callP C ml_X3_187 (pre := mgW A v.1) (post := bkW g A.2.2.1 v.2.2.1 ++ (bkW g A.2.2.2.1 v.2.2.2.1 ++ (hsW g A.2.2.2.2.1 A.2.2.2.2.2.2.2 v.2.2.2.2.1 ++ (scW g A.2.2.2.2.2.1 v.2.2.2.2.2.1 ++ (sbW g A.2.2.2.2.2.2.1 v.2.2.2.2.2.2.1 ++ (hbW g A.2.2.2.2.2.2.2 v.2.2.2.2.2.2.2)))))) (w := bkW g A.2.1 v.2.1) (as := []) (rest := [.int r5]) (c_X0_spanEndToEnd k8) 1 24 dX3_isConsistent_21 rfl ⟨Nat.le_of_ble_eq_true rfl, Nat.le_of_ble_eq_true rfl⟩ rfl (by first | (simp only [List.append_assoc, List.nil_append, List.append_nil]; done) | rfl) rfl rfl rfl (Nat.le_of_ble_eq_true rfl) ⟨Nat.zero_le _, Nat.zero_le _⟩ ?_
    refine V_icmp_ne C 51 27 dX3_isConsistent_24 rfl rfl (fun e9 => ?_) (fun e9 => ?_)
    · have h := (if_neg e9).symm.trans h
      refine V_lv [0] rfl ?_
      exact B51  h
    · have h := (if_pos e9).symm.trans h
      refine V_aload_n C 0 28 dX3_isConsistent_27 rfl rfl ?_
      refine V_get C (v := .ref A.2.1.1) 0 31 fl_X3_10 dX3_isConsistent_28 rfl rfl rfl ?_
      obtain ⟨r10, k11, h⟩ := bd_some h
      refine V_callP C ml_X3_221 (pre := mgW A v.1) (post := bkW g A.2.2.1 v.2.2.1 ++ (bkW g A.2.2.2.1 v.2.2.2.1 ++ (hsW g A.2.2.2.2.1 A.2.2.2.2.2.2.2 v.2.2.2.2.1 ++ (scW g A.2.2.2.2.2.1 v.2.2.2.2.2.1 ++ (sbW g A.2.2.2.2.2.2.1 v.2.2.2.2.2.2.1 ++ (hbW g A.2.2.2.2.2.2.2 v.2.2.2.2.2.2.2)))))) (w := bkW g A.2.1 v.2.1) (as := []) (rest := []) (c_X0_pagesDiffer k11) 1 34 dX3_isConsistent_31 rfl ⟨Nat.le_of_ble_eq_true rfl, Nat.le_of_ble_eq_true rfl⟩ rfl (by first | (simp only [List.append_assoc, List.nil_append, List.append_nil]; done) | rfl) rfl rfl rfl (Nat.le_of_ble_eq_true rfl) ⟨Nat.zero_le _, Nat.zero_le _⟩ ?_
      refine V_if_eq C 51 37 dX3_isConsistent_34 rfl rfl (fun e12 => ?_) (fun e12 => ?_)
      · have h := (if_pos e12).symm.trans h
        refine V_lv [0] rfl ?_
        exact B51  h
      · have h := (if_neg e12).symm.trans h
        refine V_aload_n C 0 38 dX3_isConsistent_37 rfl rfl ?_
        refine V_get C (v := .ref A.2.1.1) 0 41 fl_X3_10 dX3_isConsistent_38 rfl rfl rfl ?_
        obtain ⟨r13, k14, h⟩ := bd_some h
        refine V_callP C ml_X3_224 (pre := mgW A v.1) (post := bkW g A.2.2.1 v.2.2.1 ++ (bkW g A.2.2.2.1 v.2.2.2.1 ++ (hsW g A.2.2.2.2.1 A.2.2.2.2.2.2.2 v.2.2.2.2.1 ++ (scW g A.2.2.2.2.2.1 v.2.2.2.2.2.1 ++ (sbW g A.2.2.2.2.2.2.1 v.2.2.2.2.2.2.1 ++ (hbW g A.2.2.2.2.2.2.2 v.2.2.2.2.2.2.2)))))) (w := bkW g A.2.1 v.2.1) (as := []) (rest := []) (c_X0_seatsDiffer k14) 1 44 dX3_isConsistent_41 rfl ⟨Nat.le_of_ble_eq_true rfl, Nat.le_of_ble_eq_true rfl⟩ rfl (by first | (simp only [List.append_assoc, List.nil_append, List.append_nil]; done) | rfl) rfl rfl rfl (Nat.le_of_ble_eq_true rfl) ⟨Nat.zero_le _, Nat.zero_le _⟩ ?_
        refine V_if_eq C 51 47 dX3_isConsistent_44 rfl rfl (fun e15 => ?_) (fun e15 => ?_)
        · have h := (if_pos e15).symm.trans h
          refine V_lv [0] rfl ?_
          exact B51  h
        · have h := (if_neg e15).symm.trans h
          refine V_iconst C (1 : Int32) 48 dX3_isConsistent_47 rfl rfl ?_
          refine V_goto C 52 dX3_isConsistent_48 rfl ?_
          refine V_lv [0] rfl ?_
          exact B52 _ h
set_option maxHeartbeats 4000000 in
set_option maxRecDepth 100000 in
theorem c_X3_appendInput {l : Launch} {D : va_G} {g : G0} {A : XA} {v : XV} {a1 : Int32} {R : ((Int32 × XV) ⊕ (String × XV))} (hst : l.stackTraces = false) (h : f_X3_appendInput v a1 = some R) : CtX l D g yX3_appendInput cX3_appendInput 2 (some .int) (rmX 6 90 (rxI g A R)) (xW g A v) [.ref A.1, .int a1] (rxI g A R) := by
  refine CtX.of (by decide) (Nat.le_of_ble_eq_true rfl) hst ?_
  intro K C Z hBA el eD ekn
  subst el
  subst eD
  have hE := Z.2.2.1
  have hlt : ∀ i, i < 2 → i < kn K := fun i h => by rw [ekn]; exact h
  have B12 : ∀ (x1 : Int32) (v : XV), f_X3_appendInput_B12 x1 v = some R → V K 0 0 (mgW A v.1 ++ (bkW g A.2.1 v.2.1 ++ (bkW g A.2.2.1 v.2.2.1 ++ (bkW g A.2.2.2.1 v.2.2.2.1 ++ (hsW g A.2.2.2.2.1 A.2.2.2.2.2.2.2 v.2.2.2.2.1 ++ (scW g A.2.2.2.2.2.1 v.2.2.2.2.2.1 ++ (sbW g A.2.2.2.2.2.2.1 v.2.2.2.2.2.2.1 ++ (hbW g A.2.2.2.2.2.2.2 v.2.2.2.2.2.2.2)))))))) [(0, .ref A.1), (1, .int x1)] [] 12 := by
    intro x1 v h
    rw [f_X3_appendInput_B12] at h
    obtain rfl := Option.some.inj h
    exact V_throwW C Z tl_X3_256_260_258 dX3_appendInput_12 dX3_appendInput_15 dX3_appendInput_16 dX3_appendInput_19 dX3_appendInput_22 ⟨Nat.le_of_ble_eq_true rfl, Nat.le_of_ble_eq_true rfl, Nat.le_refl _, Nat.le_refl _⟩ rfl (Nat.le_refl _) (Nat.le_refl _)
  show V K 0 0 _ [(0, .ref A.1), (1, .int a1)] [] 0
  unfold f_X3_appendInput at h
  refine V_iload_n C 1 1 dX3_appendInput_0 rfl rfl ?_
  refine V_bipush C (32 : Int32) 3 dX3_appendInput_1 rfl rfl ?_
  refine V_icmp_lt C 12 6 dX3_appendInput_3 rfl rfl (fun e1 => ?_) (fun e1 => ?_)
  · have h := (if_pos e1).symm.trans h
    refine V_lv [0, 1] rfl ?_
    exact B12 _ _ h
  · have h := (if_neg e1).symm.trans h
    refine V_iload_n C 1 7 dX3_appendInput_6 rfl rfl ?_
    refine V_bipush C (126 : Int32) 9 dX3_appendInput_7 rfl rfl ?_
    refine V_icmp_le C 23 12 dX3_appendInput_9 rfl rfl (fun e2 => ?_) (fun e2 => ?_)
    · have h := (if_pos e2).symm.trans h
      refine V_aload_n C 0 24 dX3_appendInput_23 rfl rfl ?_
      refine V_get C (v := .ref A.2.2.2.2.2.1.1) 0 27 fl_X3_32 dX3_appendInput_24 rfl rfl rfl ?_
      refine V_get C (v := .int (Sc_length v.2.2.2.2.2.1)) 24 30 fl_X3_261 dX3_appendInput_27 rfl rfl rfl ?_
      refine V_bipush C (60 : Int32) 32 dX3_appendInput_30 rfl rfl ?_
      refine V_icmp_lt C 46 35 dX3_appendInput_32 rfl rfl (fun e3 => ?_) (fun e3 => ?_)
      · have h := (if_pos e3).symm.trans h
        refine V_aload_n C 0 47 dX3_appendInput_46 rfl rfl ?_
        refine V_get C (v := .ref A.2.2.2.2.2.1.1) 0 50 fl_X3_32 dX3_appendInput_47 rfl rfl rfl ?_
        refine V_iload_n C 1 51 dX3_appendInput_50 rfl rfl ?_
        obtain ⟨r4, k5, h⟩ := bd_some h
        refine V_callS C hBA ml_X3_268 (pre := mgW A v.1 ++ (bkW g A.2.1 v.2.1 ++ (bkW g A.2.2.1 v.2.2.1 ++ (bkW g A.2.2.2.1 v.2.2.2.1 ++ (hsW g A.2.2.2.2.1 A.2.2.2.2.2.2.2 v.2.2.2.2.1))))) (post := sbW g A.2.2.2.2.2.2.1 v.2.2.2.2.2.2.1 ++ (hbW g A.2.2.2.2.2.2.2 v.2.2.2.2.2.2.2)) (w0 := scW g A.2.2.2.2.2.1 v.2.2.2.2.2.1) (w1 := scW g A.2.2.2.2.2.1 r4.2) (as := [.int a1]) (rest := []) (c_X2_append k5) 24 54 (mgW A v.1 ++ (bkW g A.2.1 v.2.1 ++ (bkW g A.2.2.1 v.2.2.1 ++ (bkW g A.2.2.2.1 v.2.2.2.1 ++ (hsW g A.2.2.2.2.1 A.2.2.2.2.2.2.2 v.2.2.2.2.1 ++ (scW g A.2.2.2.2.2.1 r4.2 ++ (sbW g A.2.2.2.2.2.2.1 v.2.2.2.2.2.2.1 ++ (hbW g A.2.2.2.2.2.2.2 v.2.2.2.2.2.2.2)))))))) dX3_appendInput_51 rfl ⟨Nat.le_of_ble_eq_true rfl, Nat.le_of_ble_eq_true rfl⟩ rfl (by first | (simp only [List.append_assoc, List.nil_append, List.append_nil]; done) | rfl) (by first | (simp only [List.append_assoc, List.nil_append, List.append_nil]; done) | rfl) rfl rfl rfl rfl (Nat.le_of_ble_eq_true rfl) ⟨Nat.zero_le _, Nat.zero_le _⟩ ?_
        obtain rfl := Option.some.inj h
        exact V_xretI C Z (ty := .int) rfl (rfl) rfl dX3_appendInput_54 (Nat.le_refl _) (Nat.le_refl _)
      · have h := (if_neg e3).symm.trans h
        obtain rfl := Option.some.inj h
        exact V_throwW C Z tl_X3_263_267_265 dX3_appendInput_35 dX3_appendInput_38 dX3_appendInput_39 dX3_appendInput_42 dX3_appendInput_45 ⟨Nat.le_of_ble_eq_true rfl, Nat.le_of_ble_eq_true rfl, Nat.le_refl _, Nat.le_refl _⟩ rfl (Nat.le_refl _) (Nat.le_refl _)
    · have h := (if_neg e2).symm.trans h
      refine V_lv [0, 1] rfl ?_
      exact B12 _ _ h
set_option maxHeartbeats 4000000 in
set_option maxRecDepth 100000 in
theorem c_X3_execute {l : Launch} {D : va_G} {g : G0} {A : XA} {v : XV} {R : ((Int32 × XV) ⊕ (String × XV))} (hst : l.stackTraces = false) (h : f_X3_execute v  = some R) : CtX l D g yX3_execute cX3_execute 7 (some .int) (rmX 6 129 (rxI g A R)) (xW g A v) [.ref A.1] (rxI g A R) := by
  refine CtX.of (by decide) (Nat.le_of_ble_eq_true rfl) hst ?_
  intro K C Z hBA el eD ekn
  subst el
  subst eD
  have hE := Z.2.2.1
  have hlt : ∀ i, i < 7 → i < kn K := fun i h => by rw [ekn]; exact h
  have L42 : ∀ (n : Nat) (x1 : Int32) (x2 : Int32) (v : XV), f_X3_execute_L42 n x1 x2 v = some R → V K 0 0 (mgW A v.1 ++ (bkW g A.2.1 v.2.1 ++ (bkW g A.2.2.1 v.2.2.1 ++ (bkW g A.2.2.2.1 v.2.2.2.1 ++ (hsW g A.2.2.2.2.1 A.2.2.2.2.2.2.2 v.2.2.2.2.1 ++ (scW g A.2.2.2.2.2.1 v.2.2.2.2.2.1 ++ (sbW g A.2.2.2.2.2.2.1 v.2.2.2.2.2.2.1 ++ (hbW g A.2.2.2.2.2.2.2 v.2.2.2.2.2.2.2)))))))) [(0, .ref A.1), (1, .int x1), (2, .int x2)] [] 42 := by
    intro n
    induction n with
    | zero =>
      intro x1 x2 v h
      rw [f_X3_execute_L42] at h
      cases h
    | succ n ih =>
      intro x1 x2 v h
      rw [f_X3_execute_L42] at h
      refine V_iload_n C 2 43 dX3_execute_42 rfl rfl ?_
      refine V_aload_n C 0 44 dX3_execute_43 rfl rfl ?_
      refine V_get C (v := .ref A.2.2.2.2.2.1.1) 0 47 fl_X3_32 dX3_execute_44 rfl rfl rfl ?_
      refine V_get C (v := .int (Sc_commands v.2.2.2.2.2.1)) 24 50 fl_X3_279 dX3_execute_47 rfl rfl rfl ?_
      refine V_icmp_ge C 191 53 dX3_execute_50 rfl rfl (fun e1 => ?_) (fun e1 => ?_)
      · have h := (if_pos e1).symm.trans h
        refine V_aload_n C 0 192 dX3_execute_191 rfl rfl ?_
        refine V_get C (v := .ref A.2.2.2.2.1.1) 0 195 fl_X3_25 dX3_execute_192 rfl rfl rfl ?_
        refine V_aload_n C 0 196 dX3_execute_195 rfl rfl ?_
        refine V_get C (v := .ref A.2.2.1.1) 0 199 fl_X3_16 dX3_execute_196 rfl rfl rfl ?_
        obtain ⟨r2, k3, h⟩ := bd_some h
        refine V_permc (ws2 := hsW g A.2.2.2.2.1 A.2.2.2.2.2.2.2 v.2.2.2.2.1 ++ (hbW g A.2.2.2.2.2.2.2 v.2.2.2.2.2.2.2 ++ (bkW g A.2.2.1 v.2.2.1 ++ (mgW A v.1 ++ (bkW g A.2.1 v.2.1 ++ (bkW g A.2.2.2.1 v.2.2.2.1 ++ (scW g A.2.2.2.2.2.1 v.2.2.2.2.2.1 ++ (sbW g A.2.2.2.2.2.2.1 v.2.2.2.2.2.2.1)))))))) [mgW A v.1, bkW g A.2.1 v.2.1, bkW g A.2.2.1 v.2.2.1, bkW g A.2.2.2.1 v.2.2.2.1, hsW g A.2.2.2.2.1 A.2.2.2.2.2.2.2 v.2.2.2.2.1, scW g A.2.2.2.2.2.1 v.2.2.2.2.2.1, sbW g A.2.2.2.2.2.2.1 v.2.2.2.2.2.2.1, hbW g A.2.2.2.2.2.2.2 v.2.2.2.2.2.2.2] [4, 7, 2, 0, 1, 3, 5, 6] 8 rfl rfl (by decide) rfl ?_
        refine V_callS C hBA ml_X3_75 (pre := []) (post := mgW A v.1 ++ (bkW g A.2.1 v.2.1 ++ (bkW g A.2.2.2.1 v.2.2.2.1 ++ (scW g A.2.2.2.2.2.1 v.2.2.2.2.2.1 ++ (sbW g A.2.2.2.2.2.2.1 v.2.2.2.2.2.2.1))))) (w0 := hsW g A.2.2.2.2.1 A.2.2.2.2.2.2.2 v.2.2.2.2.1 ++ (hbW g A.2.2.2.2.2.2.2 v.2.2.2.2.2.2.2 ++ (bkW g A.2.2.1 v.2.2.1))) (w1 := hsW g A.2.2.2.2.1 A.2.2.2.2.2.2.2 r2.2.1 ++ (hbW g A.2.2.2.2.2.2.2 r2.2.2.1 ++ (bkW g A.2.2.1 r2.2.2.2))) (as := [.ref A.2.2.1.1]) (rest := []) (c_X1_remember k3) 0 202 (hsW g A.2.2.2.2.1 A.2.2.2.2.2.2.2 r2.2.1 ++ (hbW g A.2.2.2.2.2.2.2 r2.2.2.1 ++ (bkW g A.2.2.1 r2.2.2.2 ++ (mgW A v.1 ++ (bkW g A.2.1 v.2.1 ++ (bkW g A.2.2.2.1 v.2.2.2.1 ++ (scW g A.2.2.2.2.2.1 v.2.2.2.2.2.1 ++ (sbW g A.2.2.2.2.2.2.1 v.2.2.2.2.2.2.1)))))))) dX3_execute_199 rfl ⟨Nat.le_of_ble_eq_true rfl, Nat.le_of_ble_eq_true rfl⟩ rfl (by first | (simp only [List.append_assoc, List.nil_append, List.append_nil]; done) | rfl) (by first | (simp only [List.append_assoc, List.nil_append, List.append_nil]; done) | rfl) rfl rfl rfl rfl (Nat.le_of_ble_eq_true rfl) ⟨Nat.zero_le _, Nat.zero_le _⟩ ?_
        refine V_permc (ws2 := mgW A v.1 ++ (bkW g A.2.1 v.2.1 ++ (bkW g A.2.2.1 r2.2.2.2 ++ (bkW g A.2.2.2.1 v.2.2.2.1 ++ (hsW g A.2.2.2.2.1 A.2.2.2.2.2.2.2 r2.2.1 ++ (scW g A.2.2.2.2.2.1 v.2.2.2.2.2.1 ++ (sbW g A.2.2.2.2.2.2.1 v.2.2.2.2.2.2.1 ++ (hbW g A.2.2.2.2.2.2.2 r2.2.2.1)))))))) [hsW g A.2.2.2.2.1 A.2.2.2.2.2.2.2 r2.2.1, hbW g A.2.2.2.2.2.2.2 r2.2.2.1, bkW g A.2.2.1 r2.2.2.2, mgW A v.1, bkW g A.2.1 v.2.1, bkW g A.2.2.2.1 v.2.2.2.1, scW g A.2.2.2.2.2.1 v.2.2.2.2.2.1, sbW g A.2.2.2.2.2.2.1 v.2.2.2.2.2.2.1] [3, 4, 2, 5, 0, 6, 7, 1] 8 rfl rfl (by decide) rfl ?_
        refine V_aload_n C 0 203 dX3_execute_202 rfl rfl ?_
        refine V_get C (v := .ref A.2.2.2.2.2.1.1) 0 206 fl_X3_32 dX3_execute_203 rfl rfl rfl ?_
        refine V_get C (v := .int (Sc_commands v.2.2.2.2.2.1)) 24 209 fl_X3_279 dX3_execute_206 rfl rfl rfl ?_
        obtain rfl := Option.some.inj h
        exact V_xretI C Z (ty := .int) rfl (rfl) rfl dX3_execute_209 (Nat.le_refl _) (Nat.le_refl _)
      · have h := (if_neg e1).symm.trans h
        refine V_aload_n C 0 54 dX3_execute_53 rfl rfl ?_
        refine V_get C (v := .ref A.2.2.2.2.2.1.1) 0 57 fl_X3_32 dX3_execute_54 rfl rfl rfl ?_
        refine V_get C (v := .ref A.2.2.2.2.2.1.2.2.1) 24 60 fl_X3_282 dX3_execute_57 rfl rfl rfl ?_
        refine V_iload_n C 2 61 dX3_execute_60 rfl rfl ?_
        obtain ⟨g4, h⟩ := gd_some h
        refine V_cald C (f := (Sc_kinds v.2.2.2.2.2.1)) (n := 30) 26 62 dX3_execute_61 rfl rfl g4 ?_
        refine V_istore_n C 63 [(3, .int ((Sc_kinds v.2.2.2.2.2.1) (cl x2))), (0, .ref A.1), (1, .int x1), (2, .int x2)] dX3_execute_62 rfl (hlt 3 (by decide)) rfl ?_
        refine V_aload_n C 1 64 dX3_execute_63 rfl rfl ?_
        refine V_get C (v := .ref A.2.2.2.2.2.1.1) 0 67 fl_X3_32 dX3_execute_64 rfl rfl rfl ?_
        refine V_get C (v := .ref A.2.2.2.2.2.1.2.2.2.1) 24 70 fl_X3_286 dX3_execute_67 rfl rfl rfl ?_
        refine V_iload_n C 3 71 dX3_execute_70 rfl rfl ?_
        obtain ⟨g5, h⟩ := gd_some h
        refine V_iald C (f := (Sc_firsts v.2.2.2.2.2.1)) (n := 30) 27 72 dX3_execute_71 rfl rfl g5 ?_
        refine V_istore C 74 [(4, .int ((Sc_firsts v.2.2.2.2.2.1) (cl x2))), (3, .int ((Sc_kinds v.2.2.2.2.2.1) (cl x2))), (0, .ref A.1), (1, .int x1), (2, .int x2)] dX3_execute_72 rfl (hlt 4 (by decide)) rfl ?_
        refine V_aload_n C 2 75 dX3_execute_74 rfl rfl ?_
        refine V_get C (v := .ref A.2.2.2.2.2.1.1) 0 78 fl_X3_32 dX3_execute_75 rfl rfl rfl ?_
        refine V_get C (v := .ref A.2.2.2.2.2.1.2.2.2.2) 24 81 fl_X3_289 dX3_execute_78 rfl rfl rfl ?_
        refine V_iload_n C 4 82 dX3_execute_81 rfl rfl ?_
        obtain ⟨g6, h⟩ := gd_some h
        refine V_iald C (f := (Sc_seconds v.2.2.2.2.2.1)) (n := 30) 28 83 dX3_execute_82 rfl rfl g6 ?_
        refine V_istore C 85 [(5, .int ((Sc_seconds v.2.2.2.2.2.1) (cl x2))), (4, .int ((Sc_firsts v.2.2.2.2.2.1) (cl x2))), (3, .int ((Sc_kinds v.2.2.2.2.2.1) (cl x2))), (0, .ref A.1), (1, .int x1), (2, .int x2)] dX3_execute_83 rfl (hlt 5 (by decide)) rfl ?_
        refine V_aload_n C 3 86 dX3_execute_85 rfl rfl ?_
        refine V_get C (v := .ref A.2.1.1) 0 89 fl_X3_10 dX3_execute_86 rfl rfl rfl ?_
        refine V_iload_n C 2 90 dX3_execute_89 rfl rfl ?_
        refine V_iload C 1 92 dX3_execute_90 rfl rfl ?_
        refine V_iload C 0 94 dX3_execute_92 rfl rfl ?_
        obtain ⟨r7, k8, h⟩ := bd_some h
        refine V_callP C ml_X3_292 (pre := mgW A v.1) (post := bkW g A.2.2.1 v.2.2.1 ++ (bkW g A.2.2.2.1 v.2.2.2.1 ++ (hsW g A.2.2.2.2.1 A.2.2.2.2.2.2.2 v.2.2.2.2.1 ++ (scW g A.2.2.2.2.2.1 v.2.2.2.2.2.1 ++ (sbW g A.2.2.2.2.2.2.1 v.2.2.2.2.2.2.1 ++ (hbW g A.2.2.2.2.2.2.2 v.2.2.2.2.2.2.2)))))) (w := bkW g A.2.1 v.2.1) (as := [.int ((Sc_kinds v.2.2.2.2.2.1) (cl x2)), .int ((Sc_firsts v.2.2.2.2.2.1) (cl x2)), .int ((Sc_seconds v.2.2.2.2.2.1) (cl x2))]) (rest := []) (c_X0_accepts k8) 1 97 dX3_execute_94 rfl ⟨Nat.le_of_ble_eq_true rfl, Nat.le_of_ble_eq_true rfl⟩ rfl (by first | (simp only [List.append_assoc, List.nil_append, List.append_nil]; done) | rfl) rfl rfl rfl (Nat.le_of_ble_eq_true rfl) ⟨Nat.zero_le _, Nat.zero_le _⟩ ?_
        refine V_if_ne C 122 100 dX3_execute_97 rfl rfl (fun e9 => ?_) (fun e9 => ?_)
        · have h := (if_neg e9).symm.trans h
          refine V_aload_n C 3 123 dX3_execute_122 rfl rfl ?_
          refine V_get C (v := .ref A.2.1.1) 0 126 fl_X3_10 dX3_execute_123 rfl rfl rfl ?_
          refine V_iload_n C 2 127 dX3_execute_126 rfl rfl ?_
          refine V_iload C 1 129 dX3_execute_127 rfl rfl ?_
          refine V_iload C 0 131 dX3_execute_129 rfl rfl ?_
          obtain ⟨r10, k11, h⟩ := bd_some h
          refine V_callP C ml_X3_298 (pre := mgW A v.1) (post := bkW g A.2.2.1 v.2.2.1 ++ (bkW g A.2.2.2.1 v.2.2.2.1 ++ (hsW g A.2.2.2.2.1 A.2.2.2.2.2.2.2 v.2.2.2.2.1 ++ (scW g A.2.2.2.2.2.1 v.2.2.2.2.2.1 ++ (sbW g A.2.2.2.2.2.2.1 v.2.2.2.2.2.2.1 ++ (hbW g A.2.2.2.2.2.2.2 v.2.2.2.2.2.2.2)))))) (w := bkW g A.2.1 v.2.1) (as := [.int ((Sc_kinds v.2.2.2.2.2.1) (cl x2)), .int ((Sc_firsts v.2.2.2.2.2.1) (cl x2)), .int ((Sc_seconds v.2.2.2.2.2.1) (cl x2))]) (rest := []) (c_X0_reasonAgainst k11) 1 134 dX3_execute_131 rfl ⟨Nat.le_of_ble_eq_true rfl, Nat.le_of_ble_eq_true rfl⟩ rfl (by first | (simp only [List.append_assoc, List.nil_append, List.append_nil]; done) | rfl) rfl rfl rfl (Nat.le_of_ble_eq_true rfl) ⟨Nat.zero_le _, Nat.zero_le _⟩ ?_
          refine V_istore C 136 [(6, .int r10), (5, .int ((Sc_seconds v.2.2.2.2.2.1) (cl x2))), (4, .int ((Sc_firsts v.2.2.2.2.2.1) (cl x2))), (3, .int ((Sc_kinds v.2.2.2.2.2.1) (cl x2))), (0, .ref A.1), (1, .int x1), (2, .int x2)] dX3_execute_134 rfl (hlt 6 (by decide)) rfl ?_
          refine V_iload C 0 138 dX3_execute_136 rfl rfl ?_
          refine V_if_eq C 172 141 dX3_execute_138 rfl rfl (fun e12 => ?_) (fun e12 => ?_)
          · have h := (if_pos e12).symm.trans h
            refine V_aload_n C 4 173 dX3_execute_172 rfl rfl ?_
            refine V_get C (v := .ref A.2.1.1) 0 176 fl_X3_10 dX3_execute_173 rfl rfl rfl ?_
            refine V_iload_n C 3 177 dX3_execute_176 rfl rfl ?_
            refine V_iload C 2 179 dX3_execute_177 rfl rfl ?_
            refine V_iload C 1 181 dX3_execute_179 rfl rfl ?_
            obtain ⟨r13, k14, h⟩ := bd_some h
            refine V_callS C hBA ml_X3_79 (pre := mgW A v.1) (post := bkW g A.2.2.1 v.2.2.1 ++ (bkW g A.2.2.2.1 v.2.2.2.1 ++ (hsW g A.2.2.2.2.1 A.2.2.2.2.2.2.2 v.2.2.2.2.1 ++ (scW g A.2.2.2.2.2.1 v.2.2.2.2.2.1 ++ (sbW g A.2.2.2.2.2.2.1 v.2.2.2.2.2.2.1 ++ (hbW g A.2.2.2.2.2.2.2 v.2.2.2.2.2.2.2)))))) (w0 := bkW g A.2.1 v.2.1) (w1 := bkW g A.2.1 r13.2) (as := [.int ((Sc_kinds v.2.2.2.2.2.1) (cl x2)), .int ((Sc_firsts v.2.2.2.2.2.1) (cl x2)), .int ((Sc_seconds v.2.2.2.2.2.1) (cl x2))]) (rest := []) (c_X0_carryOut k14) 1 184 (mgW A v.1 ++ (bkW g A.2.1 r13.2 ++ (bkW g A.2.2.1 v.2.2.1 ++ (bkW g A.2.2.2.1 v.2.2.2.1 ++ (hsW g A.2.2.2.2.1 A.2.2.2.2.2.2.2 v.2.2.2.2.1 ++ (scW g A.2.2.2.2.2.1 v.2.2.2.2.2.1 ++ (sbW g A.2.2.2.2.2.2.1 v.2.2.2.2.2.2.1 ++ (hbW g A.2.2.2.2.2.2.2 v.2.2.2.2.2.2.2)))))))) dX3_execute_181 rfl ⟨Nat.le_of_ble_eq_true rfl, Nat.le_of_ble_eq_true rfl⟩ rfl (by first | (simp only [List.append_assoc, List.nil_append, List.append_nil]; done) | rfl) (by first | (simp only [List.append_assoc, List.nil_append, List.append_nil]; done) | rfl) rfl rfl rfl rfl (Nat.le_of_ble_eq_true rfl) ⟨Nat.zero_le _, Nat.zero_le _⟩ ?_
            refine V_pop C 185 dX3_execute_184 rfl rfl ?_
            refine V_iinc C 6 (x2 + (1 : Int32)) 188 [(2, .int (x2 + (1 : Int32))), (6, .int r10), (5, .int ((Sc_seconds v.2.2.2.2.2.1) (cl x2))), (4, .int ((Sc_firsts v.2.2.2.2.2.1) (cl x2))), (3, .int ((Sc_kinds v.2.2.2.2.2.1) (cl x2))), (0, .ref A.1), (1, .int x1)] dX3_execute_185 rfl rfl rfl (hlt 2 (by decide)) rfl ?_
            refine V_goto C 42 dX3_execute_188 rfl ?_
            refine V_lv [5, 6, 0] rfl ?_
            exact ih _ _ _ h
          · have h := (if_neg e12).symm.trans h
            refine V_aload_n C 4 142 dX3_execute_141 rfl rfl ?_
            refine V_get C (v := .ref A.2.1.1) 0 145 fl_X3_10 dX3_execute_142 rfl rfl rfl ?_
            refine V_aload_n C 4 146 dX3_execute_145 rfl rfl ?_
            refine V_get C (v := .ref A.2.2.1.1) 0 149 fl_X3_16 dX3_execute_146 rfl rfl rfl ?_
            obtain ⟨r15, k16, h⟩ := bd_some h
            refine V_callS C hBA ml_X3_276 (pre := mgW A v.1) (post := bkW g A.2.2.2.1 v.2.2.2.1 ++ (hsW g A.2.2.2.2.1 A.2.2.2.2.2.2.2 v.2.2.2.2.1 ++ (scW g A.2.2.2.2.2.1 v.2.2.2.2.2.1 ++ (sbW g A.2.2.2.2.2.2.1 v.2.2.2.2.2.2.1 ++ (hbW g A.2.2.2.2.2.2.2 v.2.2.2.2.2.2.2))))) (w0 := bkW g A.2.1 v.2.1 ++ (bkW g A.2.2.1 v.2.2.1)) (w1 := bkW g A.2.1 r15.2.1 ++ (bkW g A.2.2.1 r15.2.2)) (as := [.ref A.2.2.1.1]) (rest := []) (c_X0_copyFrom k16) 1 152 (mgW A v.1 ++ (bkW g A.2.1 r15.2.1 ++ (bkW g A.2.2.1 r15.2.2 ++ (bkW g A.2.2.2.1 v.2.2.2.1 ++ (hsW g A.2.2.2.2.1 A.2.2.2.2.2.2.2 v.2.2.2.2.1 ++ (scW g A.2.2.2.2.2.1 v.2.2.2.2.2.1 ++ (sbW g A.2.2.2.2.2.2.1 v.2.2.2.2.2.2.1 ++ (hbW g A.2.2.2.2.2.2.2 v.2.2.2.2.2.2.2)))))))) dX3_execute_149 rfl ⟨Nat.le_of_ble_eq_true rfl, Nat.le_of_ble_eq_true rfl⟩ rfl (by first | (simp only [List.append_assoc, List.nil_append, List.append_nil]; done) | rfl) (by first | (simp only [List.append_assoc, List.nil_append, List.append_nil]; done) | rfl) rfl rfl rfl rfl (Nat.le_of_ble_eq_true rfl) ⟨Nat.zero_le _, Nat.zero_le _⟩ ?_
            refine V_aload_n C 4 153 dX3_execute_152 rfl rfl ?_
            refine V_bipush C (10 : Int32) 155 dX3_execute_153 rfl rfl ?_
            refine V_iload_n C 6 156 dX3_execute_155 rfl rfl ?_
            refine V_iload C 0 158 dX3_execute_156 rfl rfl ?_
            obtain ⟨r17, k18, h⟩ := bd_some h
            refine V_callS C hBA ml_X3_301 (pre := []) (post := bkW g A.2.1 r15.2.1 ++ (bkW g A.2.2.1 r15.2.2 ++ (bkW g A.2.2.2.1 v.2.2.2.1 ++ (hsW g A.2.2.2.2.1 A.2.2.2.2.2.2.2 v.2.2.2.2.1 ++ (scW g A.2.2.2.2.2.1 v.2.2.2.2.2.1 ++ (sbW g A.2.2.2.2.2.2.1 v.2.2.2.2.2.2.1 ++ (hbW g A.2.2.2.2.2.2.2 v.2.2.2.2.2.2.2))))))) (w0 := mgW A v.1) (w1 := mgW A r17.2) (as := [.int (10 : Int32), .int x2, .int r10]) (rest := []) (c_X3_noteRejection k18) 0 161 (mgW A r17.2 ++ (bkW g A.2.1 r15.2.1 ++ (bkW g A.2.2.1 r15.2.2 ++ (bkW g A.2.2.2.1 v.2.2.2.1 ++ (hsW g A.2.2.2.2.1 A.2.2.2.2.2.2.2 v.2.2.2.2.1 ++ (scW g A.2.2.2.2.2.1 v.2.2.2.2.2.1 ++ (sbW g A.2.2.2.2.2.2.1 v.2.2.2.2.2.2.1 ++ (hbW g A.2.2.2.2.2.2.2 v.2.2.2.2.2.2.2)))))))) dX3_execute_158 rfl ⟨Nat.le_of_ble_eq_true rfl, Nat.le_of_ble_eq_true rfl⟩ rfl (by first | (simp only [List.append_assoc, List.nil_append, List.append_nil]; done) | rfl) (by first | (simp only [List.append_assoc, List.nil_append, List.append_nil]; done) | rfl) rfl rfl rfl rfl (Nat.le_of_ble_eq_true rfl) ⟨Nat.zero_le _, Nat.zero_le _⟩ ?_
            obtain rfl := Option.some.inj h
            exact V_throwW C Z tl_X3_305_309_307 dX3_execute_161 dX3_execute_164 dX3_execute_165 dX3_execute_168 dX3_execute_171 ⟨Nat.le_of_ble_eq_true rfl, Nat.le_of_ble_eq_true rfl, Nat.le_refl _, Nat.le_refl _⟩ rfl (Nat.le_refl _) (Nat.le_refl _)
        · have h := (if_pos e9).symm.trans h
          refine V_aload_n C 3 101 dX3_execute_100 rfl rfl ?_
          refine V_get C (v := .ref A.2.1.1) 0 104 fl_X3_10 dX3_execute_101 rfl rfl rfl ?_
          refine V_aload_n C 3 105 dX3_execute_104 rfl rfl ?_
          refine V_get C (v := .ref A.2.2.1.1) 0 108 fl_X3_16 dX3_execute_105 rfl rfl rfl ?_
          obtain ⟨r19, k20, h⟩ := bd_some h
          refine V_callS C hBA ml_X3_276 (pre := mgW A v.1) (post := bkW g A.2.2.2.1 v.2.2.2.1 ++ (hsW g A.2.2.2.2.1 A.2.2.2.2.2.2.2 v.2.2.2.2.1 ++ (scW g A.2.2.2.2.2.1 v.2.2.2.2.2.1 ++ (sbW g A.2.2.2.2.2.2.1 v.2.2.2.2.2.2.1 ++ (hbW g A.2.2.2.2.2.2.2 v.2.2.2.2.2.2.2))))) (w0 := bkW g A.2.1 v.2.1 ++ (bkW g A.2.2.1 v.2.2.1)) (w1 := bkW g A.2.1 r19.2.1 ++ (bkW g A.2.2.1 r19.2.2)) (as := [.ref A.2.2.1.1]) (rest := []) (c_X0_copyFrom k20) 1 111 (mgW A v.1 ++ (bkW g A.2.1 r19.2.1 ++ (bkW g A.2.2.1 r19.2.2 ++ (bkW g A.2.2.2.1 v.2.2.2.1 ++ (hsW g A.2.2.2.2.1 A.2.2.2.2.2.2.2 v.2.2.2.2.1 ++ (scW g A.2.2.2.2.2.1 v.2.2.2.2.2.1 ++ (sbW g A.2.2.2.2.2.2.1 v.2.2.2.2.2.2.1 ++ (hbW g A.2.2.2.2.2.2.2 v.2.2.2.2.2.2.2)))))))) dX3_execute_108 rfl ⟨Nat.le_of_ble_eq_true rfl, Nat.le_of_ble_eq_true rfl⟩ rfl (by first | (simp only [List.append_assoc, List.nil_append, List.append_nil]; done) | rfl) (by first | (simp only [List.append_assoc, List.nil_append, List.append_nil]; done) | rfl) rfl rfl rfl rfl (Nat.le_of_ble_eq_true rfl) ⟨Nat.zero_le _, Nat.zero_le _⟩ ?_
          obtain rfl := Option.some.inj h
          exact V_throwW C Z tl_X3_263_267_296 dX3_execute_111 dX3_execute_114 dX3_execute_115 dX3_execute_118 dX3_execute_121 ⟨Nat.le_of_ble_eq_true rfl, Nat.le_of_ble_eq_true rfl, Nat.le_refl _, Nat.le_refl _⟩ rfl (Nat.le_refl _) (Nat.le_refl _)
  show V K 0 0 _ [(0, .ref A.1)] [] 0
  unfold f_X3_execute at h
  refine V_aload_n C 0 1 dX3_execute_0 rfl rfl ?_
  refine V_get C (v := .ref A.2.2.2.2.2.1.1) 0 4 fl_X3_32 dX3_execute_1 rfl rfl rfl ?_
  obtain ⟨r21, k22, h⟩ := bd_some h
  refine V_callS C hBA ml_X3_271 (pre := mgW A v.1 ++ (bkW g A.2.1 v.2.1 ++ (bkW g A.2.2.1 v.2.2.1 ++ (bkW g A.2.2.2.1 v.2.2.2.1 ++ (hsW g A.2.2.2.2.1 A.2.2.2.2.2.2.2 v.2.2.2.2.1))))) (post := sbW g A.2.2.2.2.2.2.1 v.2.2.2.2.2.2.1 ++ (hbW g A.2.2.2.2.2.2.2 v.2.2.2.2.2.2.2)) (w0 := scW g A.2.2.2.2.2.1 v.2.2.2.2.2.1) (w1 := scW g A.2.2.2.2.2.1 r21.2) (as := []) (rest := []) (c_X2_takeCommands k22) 24 7 (mgW A v.1 ++ (bkW g A.2.1 v.2.1 ++ (bkW g A.2.2.1 v.2.2.1 ++ (bkW g A.2.2.2.1 v.2.2.2.1 ++ (hsW g A.2.2.2.2.1 A.2.2.2.2.2.2.2 v.2.2.2.2.1 ++ (scW g A.2.2.2.2.2.1 r21.2 ++ (sbW g A.2.2.2.2.2.2.1 v.2.2.2.2.2.2.1 ++ (hbW g A.2.2.2.2.2.2.2 v.2.2.2.2.2.2.2)))))))) dX3_execute_4 rfl ⟨Nat.le_of_ble_eq_true rfl, Nat.le_of_ble_eq_true rfl⟩ rfl (by first | (simp only [List.append_assoc, List.nil_append, List.append_nil]; done) | rfl) (by first | (simp only [List.append_assoc, List.nil_append, List.append_nil]; done) | rfl) rfl rfl rfl rfl (Nat.le_of_ble_eq_true rfl) ⟨Nat.zero_le _, Nat.zero_le _⟩ ?_
  refine V_istore_n C 8 [(1, .int r21.1), (0, .ref A.1)] dX3_execute_7 rfl (hlt 1 (by decide)) rfl ?_
  refine V_iload_n C 0 9 dX3_execute_8 rfl rfl ?_
  refine V_iconst C (-1 : Int32) 10 dX3_execute_9 rfl rfl ?_
  refine V_icmp_eq C 29 13 dX3_execute_10 rfl rfl (fun e23 => ?_) (fun e23 => ?_)
  · have h := (if_pos e23).symm.trans h
    refine V_aload_n C 1 30 dX3_execute_29 rfl rfl ?_
    refine V_get C (v := .ref A.2.2.1.1) 0 33 fl_X3_16 dX3_execute_30 rfl rfl rfl ?_
    refine V_aload_n C 1 34 dX3_execute_33 rfl rfl ?_
    refine V_get C (v := .ref A.2.1.1) 0 37 fl_X3_10 dX3_execute_34 rfl rfl rfl ?_
    obtain ⟨r24, k25, h⟩ := bd_some h
    refine V_permc (ws2 := bkW g A.2.2.1 v.2.2.1 ++ (bkW g A.2.1 v.2.1 ++ (mgW A v.1 ++ (bkW g A.2.2.2.1 v.2.2.2.1 ++ (hsW g A.2.2.2.2.1 A.2.2.2.2.2.2.2 v.2.2.2.2.1 ++ (scW g A.2.2.2.2.2.1 r21.2 ++ (sbW g A.2.2.2.2.2.2.1 v.2.2.2.2.2.2.1 ++ (hbW g A.2.2.2.2.2.2.2 v.2.2.2.2.2.2.2)))))))) [mgW A v.1, bkW g A.2.1 v.2.1, bkW g A.2.2.1 v.2.2.1, bkW g A.2.2.2.1 v.2.2.2.1, hsW g A.2.2.2.2.1 A.2.2.2.2.2.2.2 v.2.2.2.2.1, scW g A.2.2.2.2.2.1 r21.2, sbW g A.2.2.2.2.2.2.1 v.2.2.2.2.2.2.1, hbW g A.2.2.2.2.2.2.2 v.2.2.2.2.2.2.2] [2, 1, 0, 3, 4, 5, 6, 7] 8 rfl rfl (by decide) rfl ?_
    refine V_callS C hBA ml_X3_276 (pre := []) (post := mgW A v.1 ++ (bkW g A.2.2.2.1 v.2.2.2.1 ++ (hsW g A.2.2.2.2.1 A.2.2.2.2.2.2.2 v.2.2.2.2.1 ++ (scW g A.2.2.2.2.2.1 r21.2 ++ (sbW g A.2.2.2.2.2.2.1 v.2.2.2.2.2.2.1 ++ (hbW g A.2.2.2.2.2.2.2 v.2.2.2.2.2.2.2)))))) (w0 := bkW g A.2.2.1 v.2.2.1 ++ (bkW g A.2.1 v.2.1)) (w1 := bkW g A.2.2.1 r24.2.1 ++ (bkW g A.2.1 r24.2.2)) (as := [.ref A.2.1.1]) (rest := []) (c_X0_copyFrom k25) 0 40 (bkW g A.2.2.1 r24.2.1 ++ (bkW g A.2.1 r24.2.2 ++ (mgW A v.1 ++ (bkW g A.2.2.2.1 v.2.2.2.1 ++ (hsW g A.2.2.2.2.1 A.2.2.2.2.2.2.2 v.2.2.2.2.1 ++ (scW g A.2.2.2.2.2.1 r21.2 ++ (sbW g A.2.2.2.2.2.2.1 v.2.2.2.2.2.2.1 ++ (hbW g A.2.2.2.2.2.2.2 v.2.2.2.2.2.2.2)))))))) dX3_execute_37 rfl ⟨Nat.le_of_ble_eq_true rfl, Nat.le_of_ble_eq_true rfl⟩ rfl (by first | (simp only [List.append_assoc, List.nil_append, List.append_nil]; done) | rfl) (by first | (simp only [List.append_assoc, List.nil_append, List.append_nil]; done) | rfl) rfl rfl rfl rfl (Nat.le_of_ble_eq_true rfl) ⟨Nat.zero_le _, Nat.zero_le _⟩ ?_
    refine V_permc (ws2 := mgW A v.1 ++ (bkW g A.2.1 r24.2.2 ++ (bkW g A.2.2.1 r24.2.1 ++ (bkW g A.2.2.2.1 v.2.2.2.1 ++ (hsW g A.2.2.2.2.1 A.2.2.2.2.2.2.2 v.2.2.2.2.1 ++ (scW g A.2.2.2.2.2.1 r21.2 ++ (sbW g A.2.2.2.2.2.2.1 v.2.2.2.2.2.2.1 ++ (hbW g A.2.2.2.2.2.2.2 v.2.2.2.2.2.2.2)))))))) [bkW g A.2.2.1 r24.2.1, bkW g A.2.1 r24.2.2, mgW A v.1, bkW g A.2.2.2.1 v.2.2.2.1, hsW g A.2.2.2.2.1 A.2.2.2.2.2.2.2 v.2.2.2.2.1, scW g A.2.2.2.2.2.1 r21.2, sbW g A.2.2.2.2.2.2.1 v.2.2.2.2.2.2.1, hbW g A.2.2.2.2.2.2.2 v.2.2.2.2.2.2.2] [2, 1, 0, 3, 4, 5, 6, 7] 8 rfl rfl (by decide) rfl ?_
    refine V_iconst C (0 : Int32) 41 dX3_execute_40 rfl rfl ?_
    refine V_istore_n C 42 [(2, .int (0 : Int32)), (1, .int r21.1), (0, .ref A.1)] dX3_execute_41 rfl (hlt 2 (by decide)) rfl ?_
    refine V_lv [2, 1, 0] rfl ?_
    exact L42 100 _ _ _ h
  · have h := (if_neg e23).symm.trans h
    refine V_aload_n C 1 14 dX3_execute_13 rfl rfl ?_
    refine V_iload_n C 0 15 dX3_execute_14 rfl rfl ?_
    refine V_put C hBA 0 18 (mgW A ((Mg_hasSnapshot v.1), r21.1, (Mg_latestReason v.1), (Mg_latestDetail v.1), (Mg_latestCause v.1)) ++ (bkW g A.2.1 v.2.1 ++ (bkW g A.2.2.1 v.2.2.1 ++ (bkW g A.2.2.2.1 v.2.2.2.1 ++ (hsW g A.2.2.2.2.1 A.2.2.2.2.2.2.2 v.2.2.2.2.1 ++ (scW g A.2.2.2.2.2.1 r21.2 ++ (sbW g A.2.2.2.2.2.2.1 v.2.2.2.2.2.2.1 ++ (hbW g A.2.2.2.2.2.2.2 v.2.2.2.2.2.2.2)))))))) fl_X3_47 fp_X3_7 dX3_execute_15 rfl rfl (Nat.le_of_ble_eq_true rfl) rfl rfl rfl ?_
    obtain rfl := Option.some.inj h
    exact V_throwW C Z tl_X3_256_260_274 dX3_execute_18 dX3_execute_21 dX3_execute_22 dX3_execute_25 dX3_execute_28 ⟨Nat.le_of_ble_eq_true rfl, Nat.le_of_ble_eq_true rfl, Nat.le_refl _, Nat.le_refl _⟩ rfl (Nat.le_refl _) (Nat.le_refl _)
set_option maxHeartbeats 4000000 in
set_option maxRecDepth 100000 in
theorem c_X3_syntaxErrorOffset {l : Launch} {D : va_G} {g : G0} {A : XA} {v : XV} {R : ((Int32 × XV) ⊕ (String × XV))} (hst : l.stackTraces = false) (h : f_X3_syntaxErrorOffset v  = some R) : CtX l D g yX3_syntaxErrorOffset cX3_syntaxErrorOffset 1 (some .int) (rmX 6 90 (rxI g A R)) (xW g A v) [.ref A.1] (rxI g A R) := by
  refine CtX.of (by decide) (Nat.le_of_ble_eq_true rfl) hst ?_
  intro K C Z hBA el eD ekn
  subst el
  subst eD
  have hE := Z.2.2.1
  have hlt : ∀ i, i < 1 → i < kn K := fun i h => by rw [ekn]; exact h
  show V K 0 0 _ [(0, .ref A.1)] [] 0
  unfold f_X3_syntaxErrorOffset at h
  refine V_aload_n C 0 1 dX3_syntaxErrorOffset_0 rfl rfl ?_
  refine V_get C (v := .int (Mg_latestSyntaxError v.1)) 0 4 fl_X3_47 dX3_syntaxErrorOffset_1 rfl rfl rfl ?_
  refine V_iconst C (-1 : Int32) 5 dX3_syntaxErrorOffset_4 rfl rfl ?_
  refine V_icmp_ne C 19 8 dX3_syntaxErrorOffset_5 rfl rfl (fun e1 => ?_) (fun e1 => ?_)
  · have h := (if_neg e1).symm.trans h
    refine V_aload_n C 0 20 dX3_syntaxErrorOffset_19 rfl rfl ?_
    refine V_get C (v := .int (Mg_latestSyntaxError v.1)) 0 23 fl_X3_47 dX3_syntaxErrorOffset_20 rfl rfl rfl ?_
    obtain rfl := Option.some.inj h
    exact V_xretI C Z (ty := .int) rfl (rfl) rfl dX3_syntaxErrorOffset_23 (Nat.le_refl _) (Nat.le_refl _)
  · have h := (if_pos e1).symm.trans h
    obtain rfl := Option.some.inj h
    exact V_nthrowW C Z tl_X3_96_100_310 dX3_syntaxErrorOffset_8 dX3_syntaxErrorOffset_11 dX3_syntaxErrorOffset_12 dX3_syntaxErrorOffset_15 dX3_syntaxErrorOffset_18 ⟨Nat.le_of_ble_eq_true rfl, Nat.le_of_ble_eq_true rfl, Nat.le_refl _, Nat.le_refl _⟩ rfl (Nat.le_refl _) (Nat.le_refl _)
set_option maxHeartbeats 4000000 in
set_option maxRecDepth 100000 in
theorem c_X3_requireRejection {l : Launch} {D : va_G} {g : G0} {A : XA} {v : XV} {R : ((Int32 × XV) ⊕ (String × XV))} (hst : l.stackTraces = false) (h : f_X3_requireRejection v  = some R) : CtX l D g yX3_requireRejection cX3_requireRejection 1 none (rmX 6 90 (rxV g A R)) (xW g A v) [.ref A.1] (rxV g A R) := by
  refine CtX.of (by decide) (Nat.le_of_ble_eq_true rfl) hst ?_
  intro K C Z hBA el eD ekn
  subst el
  subst eD
  have hE := Z.2.2.1
  have hlt : ∀ i, i < 1 → i < kn K := fun i h => by rw [ekn]; exact h
  show V K 0 0 _ [(0, .ref A.1)] [] 0
  unfold f_X3_requireRejection at h
  refine V_aload_n C 0 1 dX3_requireRejection_0 rfl rfl ?_
  refine V_get C (v := .int (Mg_latestReason v.1)) 0 4 fl_X3_51 dX3_requireRejection_1 rfl rfl rfl ?_
  refine V_if_ne C 18 7 dX3_requireRejection_4 rfl rfl (fun e1 => ?_) (fun e1 => ?_)
  · have h := (if_neg e1).symm.trans h
    obtain rfl := Option.some.inj h
    exact V_xretV C Z rfl rfl dX3_requireRejection_18 (Nat.le_refl _) (Nat.le_refl _)
  · have h := (if_pos e1).symm.trans h
    obtain rfl := Option.some.inj h
    exact V_nthrowW C Z tl_X3_96_100_355 dX3_requireRejection_7 dX3_requireRejection_10 dX3_requireRejection_11 dX3_requireRejection_14 dX3_requireRejection_17 ⟨Nat.le_of_ble_eq_true rfl, Nat.le_of_ble_eq_true rfl, Nat.le_refl _, Nat.le_refl _⟩ rfl (Nat.le_refl _) (Nat.le_refl _)
set_option maxHeartbeats 4000000 in
set_option maxRecDepth 100000 in
theorem c_X3_rejectionReason {l : Launch} {D : va_G} {g : G0} {A : XA} {v : XV} {R : ((Int32 × XV) ⊕ (String × XV))} (hst : l.stackTraces = false) (h : f_X3_rejectionReason v  = some R) : CtX l D g yX3_rejectionReason cX3_rejectionReason 1 (some .int) (rmX 7 110 (rxI g A R)) (xW g A v) [.ref A.1] (rxI g A R) := by
  refine CtX.of (by decide) (Nat.le_of_ble_eq_true rfl) hst ?_
  intro K C Z hBA el eD ekn
  subst el
  subst eD
  have hE := Z.2.2.1
  have hlt : ∀ i, i < 1 → i < kn K := fun i h => by rw [ekn]; exact h
  show V K 0 0 _ [(0, .ref A.1)] [] 0
  unfold f_X3_rejectionReason at h
  refine V_aload_n C 0 1 dX3_rejectionReason_0 rfl rfl ?_
  obtain ⟨r1, k2, h⟩ := bd_some h
  rcases r1 with r1 | r1
  · have h := bx_l h
    refine V_callXr C hBA hE ml_X3_312 (pre := []) (post := []) (wc := xW g A v) (as := []) (rest := []) (w1 := xW g A r1.2) (rv := none) (c_X3_requireRejection hst k2) 0 4 (mgW A r1.2.1 ++ (bkW g A.2.1 r1.2.2.1 ++ (bkW g A.2.2.1 r1.2.2.2.1 ++ (bkW g A.2.2.2.1 r1.2.2.2.2.1 ++ (hsW g A.2.2.2.2.1 A.2.2.2.2.2.2.2 r1.2.2.2.2.2.1 ++ (scW g A.2.2.2.2.2.1 r1.2.2.2.2.2.2.1 ++ (sbW g A.2.2.2.2.2.2.1 r1.2.2.2.2.2.2.2.1 ++ (hbW g A.2.2.2.2.2.2.2 r1.2.2.2.2.2.2.2.2)))))))) dX3_rejectionReason_1 rfl ⟨Nat.le_of_ble_eq_true rfl, Nat.le_of_ble_eq_true rfl⟩ rfl (List.append_nil _).symm (List.append_nil _) (xW_fst _ _ _ _) rfl rfl rfl (Nat.le_of_ble_eq_true rfl) ⟨Nat.zero_le _, Nat.zero_le _⟩ ?_
    refine V_aload_n C 0 5 dX3_rejectionReason_4 rfl rfl ?_
    refine V_get C (v := .int (Mg_latestReason r1.2.1)) 0 8 fl_X3_51 dX3_rejectionReason_5 rfl rfl rfl ?_
    obtain rfl := Option.some.inj h
    exact V_xretI C Z (ty := .int) rfl (rfl) rfl dX3_rejectionReason_8 (Nat.le_refl _) (Nat.le_refl _)
  · have h := bx_r h
    obtain rfl := Option.some.inj h
    refine V_callXt C hBA hE ml_X3_312 (pre := []) (post := []) (wc := xW g A v) (as := []) (rest := []) (w1 := xW g A r1.2) (E := r1.1) (c_X3_requireRejection hst k2) 0 (xW g A r1.2) dX3_rejectionReason_1 ⟨Nat.le_of_ble_eq_true rfl, Nat.le_of_ble_eq_true rfl⟩ rfl (List.append_nil _).symm (List.append_nil _) (xW_fst _ _ _ _) rfl rfl (Nat.le_of_ble_eq_true rfl) ⟨Nat.le_refl _, Nat.le_refl _⟩ ?_
    exact VX_out C Z rfl (Nat.le_refl _) (Nat.le_refl _)
set_option maxHeartbeats 4000000 in
set_option maxRecDepth 100000 in
theorem c_X3_rejectionDetail {l : Launch} {D : va_G} {g : G0} {A : XA} {v : XV} {R : ((Int32 × XV) ⊕ (String × XV))} (hst : l.stackTraces = false) (h : f_X3_rejectionDetail v  = some R) : CtX l D g yX3_rejectionDetail cX3_rejectionDetail 1 (some .int) (rmX 7 110 (rxI g A R)) (xW g A v) [.ref A.1] (rxI g A R) := by
  refine CtX.of (by decide) (Nat.le_of_ble_eq_true rfl) hst ?_
  intro K C Z hBA el eD ekn
  subst el
  subst eD
  have hE := Z.2.2.1
  have hlt : ∀ i, i < 1 → i < kn K := fun i h => by rw [ekn]; exact h
  show V K 0 0 _ [(0, .ref A.1)] [] 0
  unfold f_X3_rejectionDetail at h
  refine V_aload_n C 0 1 dX3_rejectionDetail_0 rfl rfl ?_
  obtain ⟨r1, k2, h⟩ := bd_some h
  rcases r1 with r1 | r1
  · have h := bx_l h
    refine V_callXr C hBA hE ml_X3_312 (pre := []) (post := []) (wc := xW g A v) (as := []) (rest := []) (w1 := xW g A r1.2) (rv := none) (c_X3_requireRejection hst k2) 0 4 (mgW A r1.2.1 ++ (bkW g A.2.1 r1.2.2.1 ++ (bkW g A.2.2.1 r1.2.2.2.1 ++ (bkW g A.2.2.2.1 r1.2.2.2.2.1 ++ (hsW g A.2.2.2.2.1 A.2.2.2.2.2.2.2 r1.2.2.2.2.2.1 ++ (scW g A.2.2.2.2.2.1 r1.2.2.2.2.2.2.1 ++ (sbW g A.2.2.2.2.2.2.1 r1.2.2.2.2.2.2.2.1 ++ (hbW g A.2.2.2.2.2.2.2 r1.2.2.2.2.2.2.2.2)))))))) dX3_rejectionDetail_1 rfl ⟨Nat.le_of_ble_eq_true rfl, Nat.le_of_ble_eq_true rfl⟩ rfl (List.append_nil _).symm (List.append_nil _) (xW_fst _ _ _ _) rfl rfl rfl (Nat.le_of_ble_eq_true rfl) ⟨Nat.zero_le _, Nat.zero_le _⟩ ?_
    refine V_aload_n C 0 5 dX3_rejectionDetail_4 rfl rfl ?_
    refine V_get C (v := .int (Mg_latestDetail r1.2.1)) 0 8 fl_X3_54 dX3_rejectionDetail_5 rfl rfl rfl ?_
    obtain rfl := Option.some.inj h
    exact V_xretI C Z (ty := .int) rfl (rfl) rfl dX3_rejectionDetail_8 (Nat.le_refl _) (Nat.le_refl _)
  · have h := bx_r h
    obtain rfl := Option.some.inj h
    refine V_callXt C hBA hE ml_X3_312 (pre := []) (post := []) (wc := xW g A v) (as := []) (rest := []) (w1 := xW g A r1.2) (E := r1.1) (c_X3_requireRejection hst k2) 0 (xW g A r1.2) dX3_rejectionDetail_1 ⟨Nat.le_of_ble_eq_true rfl, Nat.le_of_ble_eq_true rfl⟩ rfl (List.append_nil _).symm (List.append_nil _) (xW_fst _ _ _ _) rfl rfl (Nat.le_of_ble_eq_true rfl) ⟨Nat.le_refl _, Nat.le_refl _⟩ ?_
    exact VX_out C Z rfl (Nat.le_refl _) (Nat.le_refl _)
set_option maxHeartbeats 4000000 in
set_option maxRecDepth 100000 in
theorem c_X3_causeReason {l : Launch} {D : va_G} {g : G0} {A : XA} {v : XV} {R : ((Int32 × XV) ⊕ (String × XV))} (hst : l.stackTraces = false) (h : f_X3_causeReason v  = some R) : CtX l D g yX3_causeReason cX3_causeReason 1 (some .int) (rmX 6 90 (rxI g A R)) (xW g A v) [.ref A.1] (rxI g A R) := by
  refine CtX.of (by decide) (Nat.le_of_ble_eq_true rfl) hst ?_
  intro K C Z hBA el eD ekn
  subst el
  subst eD
  have hE := Z.2.2.1
  have hlt : ∀ i, i < 1 → i < kn K := fun i h => by rw [ekn]; exact h
  show V K 0 0 _ [(0, .ref A.1)] [] 0
  unfold f_X3_causeReason at h
  refine V_aload_n C 0 1 dX3_causeReason_0 rfl rfl ?_
  refine V_get C (v := .int (Mg_latestReason v.1)) 0 4 fl_X3_51 dX3_causeReason_1 rfl rfl rfl ?_
  refine V_bipush C (10 : Int32) 6 dX3_causeReason_4 rfl rfl ?_
  refine V_icmp_eq C 20 9 dX3_causeReason_6 rfl rfl (fun e1 => ?_) (fun e1 => ?_)
  · have h := (if_pos e1).symm.trans h
    refine V_aload_n C 0 21 dX3_causeReason_20 rfl rfl ?_
    refine V_get C (v := .int (Mg_latestCause v.1)) 0 24 fl_X3_57 dX3_causeReason_21 rfl rfl rfl ?_
    obtain rfl := Option.some.inj h
    exact V_xretI C Z (ty := .int) rfl (rfl) rfl dX3_causeReason_24 (Nat.le_refl _) (Nat.le_refl _)
  · have h := (if_neg e1).symm.trans h
    obtain rfl := Option.some.inj h
    exact V_nthrowW C Z tl_X3_96_100_315 dX3_causeReason_9 dX3_causeReason_12 dX3_causeReason_13 dX3_causeReason_16 dX3_causeReason_19 ⟨Nat.le_of_ble_eq_true rfl, Nat.le_of_ble_eq_true rfl, Nat.le_refl _, Nat.le_refl _⟩ rfl (Nat.le_refl _) (Nat.le_refl _)
set_option maxHeartbeats 4000000 in
set_option maxRecDepth 100000 in
theorem c_X3_undo {l : Launch} {D : va_G} {g : G0} {A : XA} {v : XV} {R : ((Int32 × XV) ⊕ (String × XV))} (hst : l.stackTraces = false) (h : f_X3_undo v  = some R) : CtX l D g yX3_undo cX3_undo 1 (some .int) (rmX 6 90 (rxI g A R)) (xW g A v) [.ref A.1] (rxI g A R) := by
  refine CtX.of (by decide) (Nat.le_of_ble_eq_true rfl) hst ?_
  intro K C Z hBA el eD ekn
  subst el
  subst eD
  have hE := Z.2.2.1
  have hlt : ∀ i, i < 1 → i < kn K := fun i h => by rw [ekn]; exact h
  show V K 0 0 _ [(0, .ref A.1)] [] 0
  unfold f_X3_undo at h
  refine V_aload_n C 0 1 dX3_undo_0 rfl rfl ?_
  refine V_get C (v := .ref A.2.2.2.2.1.1) 0 4 fl_X3_25 dX3_undo_1 rfl rfl rfl ?_
  refine V_get C (v := .int (Hs_count v.2.2.2.2.1)) 22 7 fl_X3_317 dX3_undo_4 rfl rfl rfl ?_
  refine V_if_ne C 21 10 dX3_undo_7 rfl rfl (fun e1 => ?_) (fun e1 => ?_)
  · have h := (if_neg e1).symm.trans h
    refine V_aload_n C 0 22 dX3_undo_21 rfl rfl ?_
    refine V_get C (v := .ref A.2.2.2.2.1.1) 0 25 fl_X3_25 dX3_undo_22 rfl rfl rfl ?_
    refine V_aload_n C 0 26 dX3_undo_25 rfl rfl ?_
    refine V_get C (v := .ref A.2.1.1) 0 29 fl_X3_10 dX3_undo_26 rfl rfl rfl ?_
    obtain ⟨r2, k3, h⟩ := bd_some h
    refine V_permc (ws2 := hsW g A.2.2.2.2.1 A.2.2.2.2.2.2.2 v.2.2.2.2.1 ++ (hbW g A.2.2.2.2.2.2.2 v.2.2.2.2.2.2.2 ++ (bkW g A.2.1 v.2.1 ++ (mgW A v.1 ++ (bkW g A.2.2.1 v.2.2.1 ++ (bkW g A.2.2.2.1 v.2.2.2.1 ++ (scW g A.2.2.2.2.2.1 v.2.2.2.2.2.1 ++ (sbW g A.2.2.2.2.2.2.1 v.2.2.2.2.2.2.1)))))))) [mgW A v.1, bkW g A.2.1 v.2.1, bkW g A.2.2.1 v.2.2.1, bkW g A.2.2.2.1 v.2.2.2.1, hsW g A.2.2.2.2.1 A.2.2.2.2.2.2.2 v.2.2.2.2.1, scW g A.2.2.2.2.2.1 v.2.2.2.2.2.1, sbW g A.2.2.2.2.2.2.1 v.2.2.2.2.2.2.1, hbW g A.2.2.2.2.2.2.2 v.2.2.2.2.2.2.2] [4, 7, 1, 0, 2, 3, 5, 6] 8 rfl rfl (by decide) rfl ?_
    refine V_callS C hBA ml_X3_322 (pre := []) (post := mgW A v.1 ++ (bkW g A.2.2.1 v.2.2.1 ++ (bkW g A.2.2.2.1 v.2.2.2.1 ++ (scW g A.2.2.2.2.2.1 v.2.2.2.2.2.1 ++ (sbW g A.2.2.2.2.2.2.1 v.2.2.2.2.2.2.1))))) (w0 := hsW g A.2.2.2.2.1 A.2.2.2.2.2.2.2 v.2.2.2.2.1 ++ (hbW g A.2.2.2.2.2.2.2 v.2.2.2.2.2.2.2 ++ (bkW g A.2.1 v.2.1))) (w1 := hsW g A.2.2.2.2.1 A.2.2.2.2.2.2.2 r2.2.1 ++ (hbW g A.2.2.2.2.2.2.2 r2.2.2.1 ++ (bkW g A.2.1 r2.2.2.2))) (as := [.ref A.2.1.1]) (rest := []) (c_X1_bringBackTo k3) 0 32 (hsW g A.2.2.2.2.1 A.2.2.2.2.2.2.2 r2.2.1 ++ (hbW g A.2.2.2.2.2.2.2 r2.2.2.1 ++ (bkW g A.2.1 r2.2.2.2 ++ (mgW A v.1 ++ (bkW g A.2.2.1 v.2.2.1 ++ (bkW g A.2.2.2.1 v.2.2.2.1 ++ (scW g A.2.2.2.2.2.1 v.2.2.2.2.2.1 ++ (sbW g A.2.2.2.2.2.2.1 v.2.2.2.2.2.2.1)))))))) dX3_undo_29 rfl ⟨Nat.le_of_ble_eq_true rfl, Nat.le_of_ble_eq_true rfl⟩ rfl (by first | (simp only [List.append_assoc, List.nil_append, List.append_nil]; done) | rfl) (by first | (simp only [List.append_assoc, List.nil_append, List.append_nil]; done) | rfl) rfl rfl rfl rfl (Nat.le_of_ble_eq_true rfl) ⟨Nat.zero_le _, Nat.zero_le _⟩ ?_
    refine V_permc (ws2 := mgW A v.1 ++ (bkW g A.2.1 r2.2.2.2 ++ (bkW g A.2.2.1 v.2.2.1 ++ (bkW g A.2.2.2.1 v.2.2.2.1 ++ (hsW g A.2.2.2.2.1 A.2.2.2.2.2.2.2 r2.2.1 ++ (scW g A.2.2.2.2.2.1 v.2.2.2.2.2.1 ++ (sbW g A.2.2.2.2.2.2.1 v.2.2.2.2.2.2.1 ++ (hbW g A.2.2.2.2.2.2.2 r2.2.2.1)))))))) [hsW g A.2.2.2.2.1 A.2.2.2.2.2.2.2 r2.2.1, hbW g A.2.2.2.2.2.2.2 r2.2.2.1, bkW g A.2.1 r2.2.2.2, mgW A v.1, bkW g A.2.2.1 v.2.2.1, bkW g A.2.2.2.1 v.2.2.2.1, scW g A.2.2.2.2.2.1 v.2.2.2.2.2.1, sbW g A.2.2.2.2.2.2.1 v.2.2.2.2.2.2.1] [3, 2, 4, 5, 0, 6, 7, 1] 8 rfl rfl (by decide) rfl ?_
    refine V_aload_n C 0 33 dX3_undo_32 rfl rfl ?_
    refine V_get C (v := .ref A.2.2.2.2.1.1) 0 36 fl_X3_25 dX3_undo_33 rfl rfl rfl ?_
    refine V_get C (v := .int (Hs_count r2.2.1)) 22 39 fl_X3_317 dX3_undo_36 rfl rfl rfl ?_
    obtain rfl := Option.some.inj h
    exact V_xretI C Z (ty := .int) rfl (rfl) rfl dX3_undo_39 (Nat.le_refl _) (Nat.le_refl _)
  · have h := (if_pos e1).symm.trans h
    obtain rfl := Option.some.inj h
    exact V_throwW C Z tl_X3_263_267_320 dX3_undo_10 dX3_undo_13 dX3_undo_14 dX3_undo_17 dX3_undo_20 ⟨Nat.le_of_ble_eq_true rfl, Nat.le_of_ble_eq_true rfl, Nat.le_refl _, Nat.le_refl _⟩ rfl (Nat.le_refl _) (Nat.le_refl _)
set_option maxHeartbeats 4000000 in
set_option maxRecDepth 100000 in
theorem c_X3_undoCount {l : Launch} {D : va_G} {g : G0} {A : XA} {v : XV} {R : Int32} (h : f_X3_undoCount v  = some R) : CtP l D g yX3_undoCount cX3_undoCount 1 (some .int) (rmF 0 0) (mgW A v.1 ++ (bkW g A.2.1 v.2.1 ++ (bkW g A.2.2.1 v.2.2.1 ++ (bkW g A.2.2.2.1 v.2.2.2.1 ++ (hsW g A.2.2.2.2.1 A.2.2.2.2.2.2.2 v.2.2.2.2.1 ++ (scW g A.2.2.2.2.2.1 v.2.2.2.2.2.1 ++ (sbW g A.2.2.2.2.2.2.1 v.2.2.2.2.2.2.1 ++ (hbW g A.2.2.2.2.2.2.2 v.2.2.2.2.2.2.2)))))))) [.ref A.1] (some (.int R)) := by
  refine CtP.of (by decide) rfl rfl (Nat.le_of_ble_eq_true rfl) ?_
  intro K C el eD ekn retI
  subst el
  subst eD
  have hlt : ∀ i, i < 1 → i < kn K := fun i h => by rw [ekn]; exact h
  show V K 0 0 _ [(0, .ref A.1)] [] 0
  unfold f_X3_undoCount at h
  refine V_aload_n C 0 1 dX3_undoCount_0 rfl rfl ?_
  refine V_get C (v := .ref A.2.2.2.2.1.1) 0 4 fl_X3_25 dX3_undoCount_1 rfl rfl rfl ?_
  refine V_get C (v := .int (Hs_count v.2.2.2.2.1)) 22 7 fl_X3_317 dX3_undoCount_4 rfl rfl rfl ?_
  obtain rfl := Option.some.inj h
  exact retI _ _ _ .int rfl (rfl) rfl dX3_undoCount_7
set_option maxHeartbeats 4000000 in
set_option maxRecDepth 100000 in
theorem c_X3_saveSnapshot {l : Launch} {D : va_G} {g : G0} {A : XA} {v : XV} {R : (Int32 × XV)} (h : f_X3_saveSnapshot v  = some R) : CtS l D g yX3_saveSnapshot cX3_saveSnapshot 1 (some .int) (rmF 2 51) (mgW A v.1 ++ (bkW g A.2.1 v.2.1 ++ (bkW g A.2.2.1 v.2.2.1 ++ (bkW g A.2.2.2.1 v.2.2.2.1 ++ (hsW g A.2.2.2.2.1 A.2.2.2.2.2.2.2 v.2.2.2.2.1 ++ (scW g A.2.2.2.2.2.1 v.2.2.2.2.2.1 ++ (sbW g A.2.2.2.2.2.2.1 v.2.2.2.2.2.2.1 ++ (hbW g A.2.2.2.2.2.2.2 v.2.2.2.2.2.2.2)))))))) [.ref A.1] (some (.int R.1)) (mgW A R.2.1 ++ (bkW g A.2.1 R.2.2.1 ++ (bkW g A.2.2.1 R.2.2.2.1 ++ (bkW g A.2.2.2.1 R.2.2.2.2.1 ++ (hsW g A.2.2.2.2.1 A.2.2.2.2.2.2.2 R.2.2.2.2.2.1 ++ (scW g A.2.2.2.2.2.1 R.2.2.2.2.2.2.1 ++ (sbW g A.2.2.2.2.2.2.1 R.2.2.2.2.2.2.2.1 ++ (hbW g A.2.2.2.2.2.2.2 R.2.2.2.2.2.2.2.2)))))))) := by
  refine CtS.of (by decide) (Nat.le_of_ble_eq_true rfl) ?_
  intro K C hBA el eD ekn retI retV
  subst el
  subst eD
  have hlt : ∀ i, i < 1 → i < kn K := fun i h => by rw [ekn]; exact h
  show V K 0 0 _ [(0, .ref A.1)] [] 0
  unfold f_X3_saveSnapshot at h
  refine V_aload_n C 0 1 dX3_saveSnapshot_0 rfl rfl ?_
  refine V_get C (v := .ref A.2.2.2.1.1) 0 4 fl_X3_19 dX3_saveSnapshot_1 rfl rfl rfl ?_
  refine V_aload_n C 0 5 dX3_saveSnapshot_4 rfl rfl ?_
  refine V_get C (v := .ref A.2.1.1) 0 8 fl_X3_10 dX3_saveSnapshot_5 rfl rfl rfl ?_
  obtain ⟨r1, k2, h⟩ := bd_some h
  refine V_permc (ws2 := bkW g A.2.2.2.1 v.2.2.2.1 ++ (bkW g A.2.1 v.2.1 ++ (mgW A v.1 ++ (bkW g A.2.2.1 v.2.2.1 ++ (hsW g A.2.2.2.2.1 A.2.2.2.2.2.2.2 v.2.2.2.2.1 ++ (scW g A.2.2.2.2.2.1 v.2.2.2.2.2.1 ++ (sbW g A.2.2.2.2.2.2.1 v.2.2.2.2.2.2.1 ++ (hbW g A.2.2.2.2.2.2.2 v.2.2.2.2.2.2.2)))))))) [mgW A v.1, bkW g A.2.1 v.2.1, bkW g A.2.2.1 v.2.2.1, bkW g A.2.2.2.1 v.2.2.2.1, hsW g A.2.2.2.2.1 A.2.2.2.2.2.2.2 v.2.2.2.2.1, scW g A.2.2.2.2.2.1 v.2.2.2.2.2.1, sbW g A.2.2.2.2.2.2.1 v.2.2.2.2.2.2.1, hbW g A.2.2.2.2.2.2.2 v.2.2.2.2.2.2.2] [3, 1, 0, 2, 4, 5, 6, 7] 8 rfl rfl (by decide) rfl ?_
  refine V_callS C hBA ml_X3_276 (pre := []) (post := mgW A v.1 ++ (bkW g A.2.2.1 v.2.2.1 ++ (hsW g A.2.2.2.2.1 A.2.2.2.2.2.2.2 v.2.2.2.2.1 ++ (scW g A.2.2.2.2.2.1 v.2.2.2.2.2.1 ++ (sbW g A.2.2.2.2.2.2.1 v.2.2.2.2.2.2.1 ++ (hbW g A.2.2.2.2.2.2.2 v.2.2.2.2.2.2.2)))))) (w0 := bkW g A.2.2.2.1 v.2.2.2.1 ++ (bkW g A.2.1 v.2.1)) (w1 := bkW g A.2.2.2.1 r1.2.1 ++ (bkW g A.2.1 r1.2.2)) (as := [.ref A.2.1.1]) (rest := []) (c_X0_copyFrom k2) 0 11 (bkW g A.2.2.2.1 r1.2.1 ++ (bkW g A.2.1 r1.2.2 ++ (mgW A v.1 ++ (bkW g A.2.2.1 v.2.2.1 ++ (hsW g A.2.2.2.2.1 A.2.2.2.2.2.2.2 v.2.2.2.2.1 ++ (scW g A.2.2.2.2.2.1 v.2.2.2.2.2.1 ++ (sbW g A.2.2.2.2.2.2.1 v.2.2.2.2.2.2.1 ++ (hbW g A.2.2.2.2.2.2.2 v.2.2.2.2.2.2.2)))))))) dX3_saveSnapshot_8 rfl ⟨Nat.le_of_ble_eq_true rfl, Nat.le_of_ble_eq_true rfl⟩ rfl (by first | (simp only [List.append_assoc, List.nil_append, List.append_nil]; done) | rfl) (by first | (simp only [List.append_assoc, List.nil_append, List.append_nil]; done) | rfl) rfl rfl rfl rfl (Nat.le_of_ble_eq_true rfl) ⟨Nat.zero_le _, Nat.zero_le _⟩ ?_
  refine V_permc (ws2 := mgW A v.1 ++ (bkW g A.2.1 r1.2.2 ++ (bkW g A.2.2.1 v.2.2.1 ++ (bkW g A.2.2.2.1 r1.2.1 ++ (hsW g A.2.2.2.2.1 A.2.2.2.2.2.2.2 v.2.2.2.2.1 ++ (scW g A.2.2.2.2.2.1 v.2.2.2.2.2.1 ++ (sbW g A.2.2.2.2.2.2.1 v.2.2.2.2.2.2.1 ++ (hbW g A.2.2.2.2.2.2.2 v.2.2.2.2.2.2.2)))))))) [bkW g A.2.2.2.1 r1.2.1, bkW g A.2.1 r1.2.2, mgW A v.1, bkW g A.2.2.1 v.2.2.1, hsW g A.2.2.2.2.1 A.2.2.2.2.2.2.2 v.2.2.2.2.1, scW g A.2.2.2.2.2.1 v.2.2.2.2.2.1, sbW g A.2.2.2.2.2.2.1 v.2.2.2.2.2.2.1, hbW g A.2.2.2.2.2.2.2 v.2.2.2.2.2.2.2] [2, 1, 3, 0, 4, 5, 6, 7] 8 rfl rfl (by decide) rfl ?_
  refine V_aload_n C 0 12 dX3_saveSnapshot_11 rfl rfl ?_
  refine V_iconst C (1 : Int32) 13 dX3_saveSnapshot_12 rfl rfl ?_
  refine V_put C hBA 0 16 (mgW A ((1 : Int32), (Mg_latestSyntaxError v.1), (Mg_latestReason v.1), (Mg_latestDetail v.1), (Mg_latestCause v.1)) ++ (bkW g A.2.1 r1.2.2 ++ (bkW g A.2.2.1 v.2.2.1 ++ (bkW g A.2.2.2.1 r1.2.1 ++ (hsW g A.2.2.2.2.1 A.2.2.2.2.2.2.2 v.2.2.2.2.1 ++ (scW g A.2.2.2.2.2.1 v.2.2.2.2.2.1 ++ (sbW g A.2.2.2.2.2.2.1 v.2.2.2.2.2.2.1 ++ (hbW g A.2.2.2.2.2.2.2 v.2.2.2.2.2.2.2)))))))) fl_X3_43 fp_X3_6 dX3_saveSnapshot_13 rfl rfl (Nat.le_of_ble_eq_true rfl) rfl rfl rfl ?_
  refine V_aload_n C 0 17 dX3_saveSnapshot_16 rfl rfl ?_
  refine V_get C (v := .ref A.2.1.1) 0 20 fl_X3_10 dX3_saveSnapshot_17 rfl rfl rfl ?_
  refine V_get C (v := .int (Bk_marks r1.2.2)) 1 23 fl_X3_178 dX3_saveSnapshot_20 rfl rfl rfl ?_
  obtain rfl := Option.some.inj h
  exact retI _ _ _ .int rfl (rfl) rfl dX3_saveSnapshot_23
set_option maxHeartbeats 4000000 in
set_option maxRecDepth 100000 in
theorem c_X3_restoreSnapshot {l : Launch} {D : va_G} {g : G0} {A : XA} {v : XV} {R : ((Int32 × XV) ⊕ (String × XV))} (hst : l.stackTraces = false) (h : f_X3_restoreSnapshot v  = some R) : CtX l D g yX3_restoreSnapshot cX3_restoreSnapshot 1 (some .int) (rmX 6 90 (rxI g A R)) (xW g A v) [.ref A.1] (rxI g A R) := by
  refine CtX.of (by decide) (Nat.le_of_ble_eq_true rfl) hst ?_
  intro K C Z hBA el eD ekn
  subst el
  subst eD
  have hE := Z.2.2.1
  have hlt : ∀ i, i < 1 → i < kn K := fun i h => by rw [ekn]; exact h
  show V K 0 0 _ [(0, .ref A.1)] [] 0
  unfold f_X3_restoreSnapshot at h
  refine V_aload_n C 0 1 dX3_restoreSnapshot_0 rfl rfl ?_
  refine V_get C (v := .int (Mg_hasSnapshot v.1)) 0 4 fl_X3_43 dX3_restoreSnapshot_1 rfl rfl rfl ?_
  refine V_if_ne C 18 7 dX3_restoreSnapshot_4 rfl rfl (fun e1 => ?_) (fun e1 => ?_)
  · have h := (if_neg e1).symm.trans h
    refine V_aload_n C 0 19 dX3_restoreSnapshot_18 rfl rfl ?_
    refine V_get C (v := .ref A.2.1.1) 0 22 fl_X3_10 dX3_restoreSnapshot_19 rfl rfl rfl ?_
    refine V_aload_n C 0 23 dX3_restoreSnapshot_22 rfl rfl ?_
    refine V_get C (v := .ref A.2.2.2.1.1) 0 26 fl_X3_19 dX3_restoreSnapshot_23 rfl rfl rfl ?_
    obtain ⟨r2, k3, h⟩ := bd_some h
    refine V_permc (ws2 := bkW g A.2.1 v.2.1 ++ (bkW g A.2.2.2.1 v.2.2.2.1 ++ (mgW A v.1 ++ (bkW g A.2.2.1 v.2.2.1 ++ (hsW g A.2.2.2.2.1 A.2.2.2.2.2.2.2 v.2.2.2.2.1 ++ (scW g A.2.2.2.2.2.1 v.2.2.2.2.2.1 ++ (sbW g A.2.2.2.2.2.2.1 v.2.2.2.2.2.2.1 ++ (hbW g A.2.2.2.2.2.2.2 v.2.2.2.2.2.2.2)))))))) [mgW A v.1, bkW g A.2.1 v.2.1, bkW g A.2.2.1 v.2.2.1, bkW g A.2.2.2.1 v.2.2.2.1, hsW g A.2.2.2.2.1 A.2.2.2.2.2.2.2 v.2.2.2.2.1, scW g A.2.2.2.2.2.1 v.2.2.2.2.2.1, sbW g A.2.2.2.2.2.2.1 v.2.2.2.2.2.2.1, hbW g A.2.2.2.2.2.2.2 v.2.2.2.2.2.2.2] [1, 3, 0, 2, 4, 5, 6, 7] 8 rfl rfl (by decide) rfl ?_
    refine V_callS C hBA ml_X3_276 (pre := []) (post := mgW A v.1 ++ (bkW g A.2.2.1 v.2.2.1 ++ (hsW g A.2.2.2.2.1 A.2.2.2.2.2.2.2 v.2.2.2.2.1 ++ (scW g A.2.2.2.2.2.1 v.2.2.2.2.2.1 ++ (sbW g A.2.2.2.2.2.2.1 v.2.2.2.2.2.2.1 ++ (hbW g A.2.2.2.2.2.2.2 v.2.2.2.2.2.2.2)))))) (w0 := bkW g A.2.1 v.2.1 ++ (bkW g A.2.2.2.1 v.2.2.2.1)) (w1 := bkW g A.2.1 r2.2.1 ++ (bkW g A.2.2.2.1 r2.2.2)) (as := [.ref A.2.2.2.1.1]) (rest := []) (c_X0_copyFrom k3) 0 29 (bkW g A.2.1 r2.2.1 ++ (bkW g A.2.2.2.1 r2.2.2 ++ (mgW A v.1 ++ (bkW g A.2.2.1 v.2.2.1 ++ (hsW g A.2.2.2.2.1 A.2.2.2.2.2.2.2 v.2.2.2.2.1 ++ (scW g A.2.2.2.2.2.1 v.2.2.2.2.2.1 ++ (sbW g A.2.2.2.2.2.2.1 v.2.2.2.2.2.2.1 ++ (hbW g A.2.2.2.2.2.2.2 v.2.2.2.2.2.2.2)))))))) dX3_restoreSnapshot_26 rfl ⟨Nat.le_of_ble_eq_true rfl, Nat.le_of_ble_eq_true rfl⟩ rfl (by first | (simp only [List.append_assoc, List.nil_append, List.append_nil]; done) | rfl) (by first | (simp only [List.append_assoc, List.nil_append, List.append_nil]; done) | rfl) rfl rfl rfl rfl (Nat.le_of_ble_eq_true rfl) ⟨Nat.zero_le _, Nat.zero_le _⟩ ?_
    refine V_permc (ws2 := mgW A v.1 ++ (bkW g A.2.1 r2.2.1 ++ (bkW g A.2.2.1 v.2.2.1 ++ (bkW g A.2.2.2.1 r2.2.2 ++ (hsW g A.2.2.2.2.1 A.2.2.2.2.2.2.2 v.2.2.2.2.1 ++ (scW g A.2.2.2.2.2.1 v.2.2.2.2.2.1 ++ (sbW g A.2.2.2.2.2.2.1 v.2.2.2.2.2.2.1 ++ (hbW g A.2.2.2.2.2.2.2 v.2.2.2.2.2.2.2)))))))) [bkW g A.2.1 r2.2.1, bkW g A.2.2.2.1 r2.2.2, mgW A v.1, bkW g A.2.2.1 v.2.2.1, hsW g A.2.2.2.2.1 A.2.2.2.2.2.2.2 v.2.2.2.2.1, scW g A.2.2.2.2.2.1 v.2.2.2.2.2.1, sbW g A.2.2.2.2.2.2.1 v.2.2.2.2.2.2.1, hbW g A.2.2.2.2.2.2.2 v.2.2.2.2.2.2.2] [2, 0, 3, 1, 4, 5, 6, 7] 8 rfl rfl (by decide) rfl ?_
    refine V_aload_n C 0 30 dX3_restoreSnapshot_29 rfl rfl ?_
    refine V_get C (v := .ref A.2.2.2.2.1.1) 0 33 fl_X3_25 dX3_restoreSnapshot_30 rfl rfl rfl ?_
    obtain ⟨r4, k5, h⟩ := bd_some h
    refine V_callS C hBA ml_X3_327 (pre := mgW A v.1 ++ (bkW g A.2.1 r2.2.1 ++ (bkW g A.2.2.1 v.2.2.1 ++ (bkW g A.2.2.2.1 r2.2.2)))) (post := scW g A.2.2.2.2.2.1 v.2.2.2.2.2.1 ++ (sbW g A.2.2.2.2.2.2.1 v.2.2.2.2.2.2.1 ++ (hbW g A.2.2.2.2.2.2.2 v.2.2.2.2.2.2.2))) (w0 := hsW g A.2.2.2.2.1 A.2.2.2.2.2.2.2 v.2.2.2.2.1) (w1 := hsW g A.2.2.2.2.1 A.2.2.2.2.2.2.2 r4.2) (as := []) (rest := []) (c_X1_forget k5) 22 36 (mgW A v.1 ++ (bkW g A.2.1 r2.2.1 ++ (bkW g A.2.2.1 v.2.2.1 ++ (bkW g A.2.2.2.1 r2.2.2 ++ (hsW g A.2.2.2.2.1 A.2.2.2.2.2.2.2 r4.2 ++ (scW g A.2.2.2.2.2.1 v.2.2.2.2.2.1 ++ (sbW g A.2.2.2.2.2.2.1 v.2.2.2.2.2.2.1 ++ (hbW g A.2.2.2.2.2.2.2 v.2.2.2.2.2.2.2)))))))) dX3_restoreSnapshot_33 rfl ⟨Nat.le_of_ble_eq_true rfl, Nat.le_of_ble_eq_true rfl⟩ rfl (by first | (simp only [List.append_assoc, List.nil_append, List.append_nil]; done) | rfl) (by first | (simp only [List.append_assoc, List.nil_append, List.append_nil]; done) | rfl) rfl rfl rfl rfl (Nat.le_of_ble_eq_true rfl) ⟨Nat.zero_le _, Nat.zero_le _⟩ ?_
    refine V_aload_n C 0 37 dX3_restoreSnapshot_36 rfl rfl ?_
    refine V_get C (v := .ref A.2.1.1) 0 40 fl_X3_10 dX3_restoreSnapshot_37 rfl rfl rfl ?_
    refine V_get C (v := .int (Bk_marks r2.2.1)) 1 43 fl_X3_178 dX3_restoreSnapshot_40 rfl rfl rfl ?_
    obtain rfl := Option.some.inj h
    exact V_xretI C Z (ty := .int) rfl (rfl) rfl dX3_restoreSnapshot_43 (Nat.le_refl _) (Nat.le_refl _)
  · have h := (if_pos e1).symm.trans h
    obtain rfl := Option.some.inj h
    exact V_throwW C Z tl_X3_263_267_325 dX3_restoreSnapshot_7 dX3_restoreSnapshot_10 dX3_restoreSnapshot_11 dX3_restoreSnapshot_14 dX3_restoreSnapshot_17 ⟨Nat.le_of_ble_eq_true rfl, Nat.le_of_ble_eq_true rfl, Nat.le_refl _, Nat.le_refl _⟩ rfl (Nat.le_refl _) (Nat.le_refl _)
