set_option maxHeartbeats 4000000 in
set_option maxRecDepth 100000 in
theorem c_X3_causeReason {l : Launch} {D : va_G} {g : G0} {A : XA} {v : XV} {R : ((Int32 × XV) ⊕ (String × XV))} (hst : l.stackTraces = false) (h : f_X3_causeReason v  = some R) : CtX l D g yX3_causeReason cX3_causeReason 1 (some .int) (rmX 6 90 (rxI g A R)) (xW g A v) [.ref A.1] (rxI g A R) := by
  refine CtX.of (by decide) (Nat.le_of_ble_eq_true rfl) hst ?_
  intro K C Z hBA el eD ekn
  subst el
  subst eD
  have hE := Z.2.2.1
  have hlt : ∀ i, i < 1 → i < kn K := fun i h => by rw [ekn]; exact h
  show V K 0 0 _ [(0, .ref A.1)] [] 0
  unfold f_X3_causeReason at h
  refine V_aload_n C 0 1 dX3_causeReason_0 rfl rfl ?_
  refine V_get C (v := .int (Mg_latestReason v.1)) 0 4 fl_X3_51 dX3_causeReason_1 rfl rfl rfl ?_
  refine V_bipush C (10 : Int32) 6 dX3_causeReason_4 rfl rfl ?_
  refine V_icmp_eq C 20 9 dX3_causeReason_6 rfl rfl (fun e1 => ?_) (fun e1 => ?_)
  · have h := (if_pos e1).symm.trans h
    refine V_aload_n C 0 21 dX3_causeReason_20 rfl rfl ?_
    refine V_get C (v := .int (Mg_latestCause v.1)) 0 24 fl_X3_57 dX3_causeReason_21 rfl rfl rfl ?_
    obtain rfl := Option.some.inj h
    exact V_xretI C Z (ty := .int) rfl (rfl) rfl dX3_causeReason_24 (Nat.le_refl _) (Nat.le_refl _)
  · have h := (if_neg e1).symm.trans h
    obtain rfl := Option.some.inj h
    exact V_nthrowW C Z tl_X3_96_100_315 dX3_causeReason_9 dX3_causeReason_12 dX3_causeReason_13 dX3_causeReason_16 dX3_causeReason_19 ⟨Nat.le_of_ble_eq_true rfl, Nat.le_of_ble_eq_true rfl, Nat.le_refl _, Nat.le_refl _⟩ rfl (Nat.le_refl _) (Nat.le_refl _)
set_option maxHeartbeats 4000000 in
set_option maxRecDepth 100000 in
theorem c_X3_undo {l : Launch} {D : va_G} {g : G0} {A : XA} {v : XV} {R : ((Int32 × XV) ⊕ (String × XV))} (hst : l.stackTraces = false) (h : f_X3_undo v  = some R) : CtX l D g yX3_undo cX3_undo 1 (some .int) (rmX 6 90 (rxI g A R)) (xW g A v) [.ref A.1] (rxI g A R) := by
  refine CtX.of (by decide) (Nat.le_of_ble_eq_true rfl) hst ?_
  intro K C Z hBA el eD ekn
  subst el
  subst eD
  have hE := Z.2.2.1
  have hlt : ∀ i, i < 1 → i < kn K := fun i h => by rw [ekn]; exact h
  show V K 0 0 _ [(0, .ref A.1)] [] 0
  unfold f_X3_undo at h
  refine V_aload_n C 0 1 dX3_undo_0 rfl rfl ?_
  refine V_get C (v := .ref A.2.2.2.2.1.1) 0 4 fl_X3_25 dX3_undo_1 rfl rfl rfl ?_
  refine V_get C (v := .int (Hs_count v.2.2.2.2.1)) 22 7 fl_X3_317 dX3_undo_4 rfl rfl rfl ?_
  refine V_if_ne C 21 10 dX3_undo_7 rfl rfl (fun e1 => ?_) (fun e1 => ?_)
  · have h := (if_neg e1).symm.trans h
    refine V_aload_n C 0 22 dX3_undo_21 rfl rfl ?_
    refine V_get C (v := .ref A.2.2.2.2.1.1) 0 25 fl_X3_25 dX3_undo_22 rfl rfl rfl ?_
    refine V_aload_n C 0 26 dX3_undo_25 rfl rfl ?_
    refine V_get C (v := .ref A.2.1.1) 0 29 fl_X3_10 dX3_undo_26 rfl rfl rfl ?_
    obtain ⟨r2, k3, h⟩ := bd_some h
    refine V_permc (ws2 := hsW g A.2.2.2.2.1 A.2.2.2.2.2.2.2 v.2.2.2.2.1 ++ (hbW g A.2.2.2.2.2.2.2 v.2.2.2.2.2.2.2 ++ (bkW g A.2.1 v.2.1 ++ (mgW A v.1 ++ (bkW g A.2.2.1 v.2.2.1 ++ (bkW g A.2.2.2.1 v.2.2.2.1 ++ (scW g A.2.2.2.2.2.1 v.2.2.2.2.2.1 ++ (sbW g A.2.2.2.2.2.2.1 v.2.2.2.2.2.2.1)))))))) [mgW A v.1, bkW g A.2.1 v.2.1, bkW g A.2.2.1 v.2.2.1, bkW g A.2.2.2.1 v.2.2.2.1, hsW g A.2.2.2.2.1 A.2.2.2.2.2.2.2 v.2.2.2.2.1, scW g A.2.2.2.2.2.1 v.2.2.2.2.2.1, sbW g A.2.2.2.2.2.2.1 v.2.2.2.2.2.2.1, hbW g A.2.2.2.2.2.2.2 v.2.2.2.2.2.2.2] [4, 7, 1, 0, 2, 3, 5, 6] 8 rfl rfl (by decide) rfl ?_
    refine V_callS C hBA ml_X3_322 (pre := []) (post := mgW A v.1 ++ (bkW g A.2.2.1 v.2.2.1 ++ (bkW g A.2.2.2.1 v.2.2.2.1 ++ (scW g A.2.2.2.2.2.1 v.2.2.2.2.2.1 ++ (sbW g A.2.2.2.2.2.2.1 v.2.2.2.2.2.2.1))))) (w0 := hsW g A.2.2.2.2.1 A.2.2.2.2.2.2.2 v.2.2.2.2.1 ++ (hbW g A.2.2.2.2.2.2.2 v.2.2.2.2.2.2.2 ++ (bkW g A.2.1 v.2.1))) (w1 := hsW g A.2.2.2.2.1 A.2.2.2.2.2.2.2 r2.2.1 ++ (hbW g A.2.2.2.2.2.2.2 r2.2.2.1 ++ (bkW g A.2.1 r2.2.2.2))) (as := [.ref A.2.1.1]) (rest := []) (c_X1_bringBackTo k3) 0 32 (hsW g A.2.2.2.2.1 A.2.2.2.2.2.2.2 r2.2.1 ++ (hbW g A.2.2.2.2.2.2.2 r2.2.2.1 ++ (bkW g A.2.1 r2.2.2.2 ++ (mgW A v.1 ++ (bkW g A.2.2.1 v.2.2.1 ++ (bkW g A.2.2.2.1 v.2.2.2.1 ++ (scW g A.2.2.2.2.2.1 v.2.2.2.2.2.1 ++ (sbW g A.2.2.2.2.2.2.1 v.2.2.2.2.2.2.1)))))))) dX3_undo_29 rfl ⟨Nat.le_of_ble_eq_true rfl, Nat.le_of_ble_eq_true rfl⟩ rfl (by first | (simp only [List.append_assoc, List.nil_append, List.append_nil]; done) | rfl) (by first | (simp only [List.append_assoc, List.nil_append, List.append_nil]; done) | rfl) rfl rfl rfl rfl (Nat.le_of_ble_eq_true rfl) ⟨Nat.zero_le _, Nat.zero_le _⟩ ?_
    refine V_permc (ws2 := mgW A v.1 ++ (bkW g A.2.1 r2.2.2.2 ++ (bkW g A.2.2.1 v.2.2.1 ++ (bkW g A.2.2.2.1 v.2.2.2.1 ++ (hsW g A.2.2.2.2.1 A.2.2.2.2.2.2.2 r2.2.1 ++ (scW g A.2.2.2.2.2.1 v.2.2.2.2.2.1 ++ (sbW g A.2.2.2.2.2.2.1 v.2.2.2.2.2.2.1 ++ (hbW g A.2.2.2.2.2.2.2 r2.2.2.1)))))))) [hsW g A.2.2.2.2.1 A.2.2.2.2.2.2.2 r2.2.1, hbW g A.2.2.2.2.2.2.2 r2.2.2.1, bkW g A.2.1 r2.2.2.2, mgW A v.1, bkW g A.2.2.1 v.2.2.1, bkW g A.2.2.2.1 v.2.2.2.1, scW g A.2.2.2.2.2.1 v.2.2.2.2.2.1, sbW g A.2.2.2.2.2.2.1 v.2.2.2.2.2.2.1] [3, 2, 4, 5, 0, 6, 7, 1] 8 rfl rfl (by decide) rfl ?_
    refine V_aload_n C 0 33 dX3_undo_32 rfl rfl ?_
    refine V_get C (v := .ref A.2.2.2.2.1.1) 0 36 fl_X3_25 dX3_undo_33 rfl rfl rfl ?_
    refine V_get C (v := .int (Hs_count r2.2.1)) 22 39 fl_X3_317 dX3_undo_36 rfl rfl rfl ?_
    obtain rfl := Option.some.inj h
    exact V_xretI C Z (ty := .int) rfl (rfl) rfl dX3_undo_39 (Nat.le_refl _) (Nat.le_refl _)
  · have h := (if_pos e1).symm.trans h
    obtain rfl := Option.some.inj h
    exact V_throwW C Z tl_X3_263_267_320 dX3_undo_10 dX3_undo_13 dX3_undo_14 dX3_undo_17 dX3_undo_20 ⟨Nat.le_of_ble_eq_true rfl, Nat.le_of_ble_eq_true rfl, Nat.le_refl _, Nat.le_refl _⟩ rfl (Nat.le_refl _) (Nat.le_refl _)
set_option maxHeartbeats 4000000 in
set_option maxRecDepth 100000 in
theorem c_X3_undoCount {l : Launch} {D : va_G} {g : G0} {A : XA} {v : XV} {R : Int32} (h : f_X3_undoCount v  = some R) : CtP l D g yX3_undoCount cX3_undoCount 1 (some .int) (rmF 0 0) (mgW A v.1 ++ (bkW g A.2.1 v.2.1 ++ (bkW g A.2.2.1 v.2.2.1 ++ (bkW g A.2.2.2.1 v.2.2.2.1 ++ (hsW g A.2.2.2.2.1 A.2.2.2.2.2.2.2 v.2.2.2.2.1 ++ (scW g A.2.2.2.2.2.1 v.2.2.2.2.2.1 ++ (sbW g A.2.2.2.2.2.2.1 v.2.2.2.2.2.2.1 ++ (hbW g A.2.2.2.2.2.2.2 v.2.2.2.2.2.2.2)))))))) [.ref A.1] (some (.int R)) := by
  refine CtP.of (by decide) rfl rfl (Nat.le_of_ble_eq_true rfl) ?_
  intro K C el eD ekn retI
  subst el
  subst eD
  have hlt : ∀ i, i < 1 → i < kn K := fun i h => by rw [ekn]; exact h
  show V K 0 0 _ [(0, .ref A.1)] [] 0
  unfold f_X3_undoCount at h
  refine V_aload_n C 0 1 dX3_undoCount_0 rfl rfl ?_
  refine V_get C (v := .ref A.2.2.2.2.1.1) 0 4 fl_X3_25 dX3_undoCount_1 rfl rfl rfl ?_
  refine V_get C (v := .int (Hs_count v.2.2.2.2.1)) 22 7 fl_X3_317 dX3_undoCount_4 rfl rfl rfl ?_
  obtain rfl := Option.some.inj h
  exact retI _ _ _ .int rfl (rfl) rfl dX3_undoCount_7
set_option maxHeartbeats 4000000 in
set_option maxRecDepth 100000 in
theorem c_X3_saveSnapshot {l : Launch} {D : va_G} {g : G0} {A : XA} {v : XV} {R : (Int32 × XV)} (h : f_X3_saveSnapshot v  = some R) : CtS l D g yX3_saveSnapshot cX3_saveSnapshot 1 (some .int) (rmF 2 51) (mgW A v.1 ++ (bkW g A.2.1 v.2.1 ++ (bkW g A.2.2.1 v.2.2.1 ++ (bkW g A.2.2.2.1 v.2.2.2.1 ++ (hsW g A.2.2.2.2.1 A.2.2.2.2.2.2.2 v.2.2.2.2.1 ++ (scW g A.2.2.2.2.2.1 v.2.2.2.2.2.1 ++ (sbW g A.2.2.2.2.2.2.1 v.2.2.2.2.2.2.1 ++ (hbW g A.2.2.2.2.2.2.2 v.2.2.2.2.2.2.2)))))))) [.ref A.1] (some (.int R.1)) (mgW A R.2.1 ++ (bkW g A.2.1 R.2.2.1 ++ (bkW g A.2.2.1 R.2.2.2.1 ++ (bkW g A.2.2.2.1 R.2.2.2.2.1 ++ (hsW g A.2.2.2.2.1 A.2.2.2.2.2.2.2 R.2.2.2.2.2.1 ++ (scW g A.2.2.2.2.2.1 R.2.2.2.2.2.2.1 ++ (sbW g A.2.2.2.2.2.2.1 R.2.2.2.2.2.2.2.1 ++ (hbW g A.2.2.2.2.2.2.2 R.2.2.2.2.2.2.2.2)))))))) := by
  refine CtS.of (by decide) (Nat.le_of_ble_eq_true rfl) ?_
  intro K C hBA el eD ekn retI retV
  subst el
  subst eD
  have hlt : ∀ i, i < 1 → i < kn K := fun i h => by rw [ekn]; exact h
  show V K 0 0 _ [(0, .ref A.1)] [] 0
  unfold f_X3_saveSnapshot at h
  refine V_aload_n C 0 1 dX3_saveSnapshot_0 rfl rfl ?_
  refine V_get C (v := .ref A.2.2.2.1.1) 0 4 fl_X3_19 dX3_saveSnapshot_1 rfl rfl rfl ?_
  refine V_aload_n C 0 5 dX3_saveSnapshot_4 rfl rfl ?_
  refine V_get C (v := .ref A.2.1.1) 0 8 fl_X3_10 dX3_saveSnapshot_5 rfl rfl rfl ?_
  obtain ⟨r1, k2, h⟩ := bd_some h
  refine V_permc (ws2 := bkW g A.2.2.2.1 v.2.2.2.1 ++ (bkW g A.2.1 v.2.1 ++ (mgW A v.1 ++ (bkW g A.2.2.1 v.2.2.1 ++ (hsW g A.2.2.2.2.1 A.2.2.2.2.2.2.2 v.2.2.2.2.1 ++ (scW g A.2.2.2.2.2.1 v.2.2.2.2.2.1 ++ (sbW g A.2.2.2.2.2.2.1 v.2.2.2.2.2.2.1 ++ (hbW g A.2.2.2.2.2.2.2 v.2.2.2.2.2.2.2)))))))) [mgW A v.1, bkW g A.2.1 v.2.1, bkW g A.2.2.1 v.2.2.1, bkW g A.2.2.2.1 v.2.2.2.1, hsW g A.2.2.2.2.1 A.2.2.2.2.2.2.2 v.2.2.2.2.1, scW g A.2.2.2.2.2.1 v.2.2.2.2.2.1, sbW g A.2.2.2.2.2.2.1 v.2.2.2.2.2.2.1, hbW g A.2.2.2.2.2.2.2 v.2.2.2.2.2.2.2] [3, 1, 0, 2, 4, 5, 6, 7] 8 rfl rfl (by decide) rfl ?_
  refine V_callS C hBA ml_X3_276 (pre := []) (post := mgW A v.1 ++ (bkW g A.2.2.1 v.2.2.1 ++ (hsW g A.2.2.2.2.1 A.2.2.2.2.2.2.2 v.2.2.2.2.1 ++ (scW g A.2.2.2.2.2.1 v.2.2.2.2.2.1 ++ (sbW g A.2.2.2.2.2.2.1 v.2.2.2.2.2.2.1 ++ (hbW g A.2.2.2.2.2.2.2 v.2.2.2.2.2.2.2)))))) (w0 := bkW g A.2.2.2.1 v.2.2.2.1 ++ (bkW g A.2.1 v.2.1)) (w1 := bkW g A.2.2.2.1 r1.2.1 ++ (bkW g A.2.1 r1.2.2)) (as := [.ref A.2.1.1]) (rest := []) (c_X0_copyFrom k2) 0 11 (bkW g A.2.2.2.1 r1.2.1 ++ (bkW g A.2.1 r1.2.2 ++ (mgW A v.1 ++ (bkW g A.2.2.1 v.2.2.1 ++ (hsW g A.2.2.2.2.1 A.2.2.2.2.2.2.2 v.2.2.2.2.1 ++ (scW g A.2.2.2.2.2.1 v.2.2.2.2.2.1 ++ (sbW g A.2.2.2.2.2.2.1 v.2.2.2.2.2.2.1 ++ (hbW g A.2.2.2.2.2.2.2 v.2.2.2.2.2.2.2)))))))) dX3_saveSnapshot_8 rfl ⟨Nat.le_of_ble_eq_true rfl, Nat.le_of_ble_eq_true rfl⟩ rfl (by first | (simp only [List.append_assoc, List.nil_append, List.append_nil]; done) | rfl) (by first | (simp only [List.append_assoc, List.nil_append, List.append_nil]; done) | rfl) rfl rfl rfl rfl (Nat.le_of_ble_eq_true rfl) ⟨Nat.zero_le _, Nat.zero_le _⟩ ?_
  refine V_permc (ws2 := mgW A v.1 ++ (bkW g A.2.1 r1.2.2 ++ (bkW g A.2.2.1 v.2.2.1 ++ (bkW g A.2.2.2.1 r1.2.1 ++ (hsW g A.2.2.2.2.1 A.2.2.2.2.2.2.2 v.2.2.2.2.1 ++ (scW g A.2.2.2.2.2.1 v.2.2.2.2.2.1 ++ (sbW g A.2.2.2.2.2.2.1 v.2.2.2.2.2.2.1 ++ (hbW g A.2.2.2.2.2.2.2 v.2.2.2.2.2.2.2)))))))) [bkW g A.2.2.2.1 r1.2.1, bkW g A.2.1 r1.2.2, mgW A v.1, bkW g A.2.2.1 v.2.2.1, hsW g A.2.2.2.2.1 A.2.2.2.2.2.2.2 v.2.2.2.2.1, scW g A.2.2.2.2.2.1 v.2.2.2.2.2.1, sbW g A.2.2.2.2.2.2.1 v.2.2.2.2.2.2.1, hbW g A.2.2.2.2.2.2.2 v.2.2.2.2.2.2.2] [2, 1, 3, 0, 4, 5, 6, 7] 8 rfl rfl (by decide) rfl ?_
  refine V_aload_n C 0 12 dX3_saveSnapshot_11 rfl rfl ?_
  refine V_iconst C (1 : Int32) 13 dX3_saveSnapshot_12 rfl rfl ?_
  refine V_put C hBA 0 16 (mgW A ((1 : Int32), (Mg_latestSyntaxError v.1), (Mg_latestReason v.1), (Mg_latestDetail v.1), (Mg_latestCause v.1)) ++ (bkW g A.2.1 r1.2.2 ++ (bkW g A.2.2.1 v.2.2.1 ++ (bkW g A.2.2.2.1 r1.2.1 ++ (hsW g A.2.2.2.2.1 A.2.2.2.2.2.2.2 v.2.2.2.2.1 ++ (scW g A.2.2.2.2.2.1 v.2.2.2.2.2.1 ++ (sbW g A.2.2.2.2.2.2.1 v.2.2.2.2.2.2.1 ++ (hbW g A.2.2.2.2.2.2.2 v.2.2.2.2.2.2.2)))))))) fl_X3_43 fp_X3_6 dX3_saveSnapshot_13 rfl rfl (Nat.le_of_ble_eq_true rfl) rfl rfl rfl ?_
  refine V_aload_n C 0 17 dX3_saveSnapshot_16 rfl rfl ?_
  refine V_get C (v := .ref A.2.1.1) 0 20 fl_X3_10 dX3_saveSnapshot_17 rfl rfl rfl ?_
  refine V_get C (v := .int (Bk_marks r1.2.2)) 1 23 fl_X3_178 dX3_saveSnapshot_20 rfl rfl rfl ?_
  obtain rfl := Option.some.inj h
  exact retI _ _ _ .int rfl (rfl) rfl dX3_saveSnapshot_23
set_option maxHeartbeats 4000000 in
set_option maxRecDepth 100000 in
theorem c_X3_restoreSnapshot {l : Launch} {D : va_G} {g : G0} {A : XA} {v : XV} {R : ((Int32 × XV) ⊕ (String × XV))} (hst : l.stackTraces = false) (h : f_X3_restoreSnapshot v  = some R) : CtX l D g yX3_restoreSnapshot cX3_restoreSnapshot 1 (some .int) (rmX 6 90 (rxI g A R)) (xW g A v) [.ref A.1] (rxI g A R) := by
  refine CtX.of (by decide) (Nat.le_of_ble_eq_true rfl) hst ?_
  intro K C Z hBA el eD ekn
  subst el
  subst eD
  have hE := Z.2.2.1
  have hlt : ∀ i, i < 1 → i < kn K := fun i h => by rw [ekn]; exact h
  show V K 0 0 _ [(0, .ref A.1)] [] 0
  unfold f_X3_restoreSnapshot at h
  refine V_aload_n C 0 1 dX3_restoreSnapshot_0 rfl rfl ?_
  refine V_get C (v := .int (Mg_hasSnapshot v.1)) 0 4 fl_X3_43 dX3_restoreSnapshot_1 rfl rfl rfl ?_
  refine V_if_ne C 18 7 dX3_restoreSnapshot_4 rfl rfl (fun e1 => ?_) (fun e1 => ?_)
  · have h := (if_neg e1).symm.trans h
    refine V_aload_n C 0 19 dX3_restoreSnapshot_18 rfl rfl ?_
    refine V_get C (v := .ref A.2.1.1) 0 22 fl_X3_10 dX3_restoreSnapshot_19 rfl rfl rfl ?_
    refine V_aload_n C 0 23 dX3_restoreSnapshot_22 rfl rfl ?_
    refine V_get C (v := .ref A.2.2.2.1.1) 0 26 fl_X3_19 dX3_restoreSnapshot_23 rfl rfl rfl ?_
    obtain ⟨r2, k3, h⟩ := bd_some h
    refine V_permc (ws2 := bkW g A.2.1 v.2.1 ++ (bkW g A.2.2.2.1 v.2.2.2.1 ++ (mgW A v.1 ++ (bkW g A.2.2.1 v.2.2.1 ++ (hsW g A.2.2.2.2.1 A.2.2.2.2.2.2.2 v.2.2.2.2.1 ++ (scW g A.2.2.2.2.2.1 v.2.2.2.2.2.1 ++ (sbW g A.2.2.2.2.2.2.1 v.2.2.2.2.2.2.1 ++ (hbW g A.2.2.2.2.2.2.2 v.2.2.2.2.2.2.2)))))))) [mgW A v.1, bkW g A.2.1 v.2.1, bkW g A.2.2.1 v.2.2.1, bkW g A.2.2.2.1 v.2.2.2.1, hsW g A.2.2.2.2.1 A.2.2.2.2.2.2.2 v.2.2.2.2.1, scW g A.2.2.2.2.2.1 v.2.2.2.2.2.1, sbW g A.2.2.2.2.2.2.1 v.2.2.2.2.2.2.1, hbW g A.2.2.2.2.2.2.2 v.2.2.2.2.2.2.2] [1, 3, 0, 2, 4, 5, 6, 7] 8 rfl rfl (by decide) rfl ?_
    refine V_callS C hBA ml_X3_276 (pre := []) (post := mgW A v.1 ++ (bkW g A.2.2.1 v.2.2.1 ++ (hsW g A.2.2.2.2.1 A.2.2.2.2.2.2.2 v.2.2.2.2.1 ++ (scW g A.2.2.2.2.2.1 v.2.2.2.2.2.1 ++ (sbW g A.2.2.2.2.2.2.1 v.2.2.2.2.2.2.1 ++ (hbW g A.2.2.2.2.2.2.2 v.2.2.2.2.2.2.2)))))) (w0 := bkW g A.2.1 v.2.1 ++ (bkW g A.2.2.2.1 v.2.2.2.1)) (w1 := bkW g A.2.1 r2.2.1 ++ (bkW g A.2.2.2.1 r2.2.2)) (as := [.ref A.2.2.2.1.1]) (rest := []) (c_X0_copyFrom k3) 0 29 (bkW g A.2.1 r2.2.1 ++ (bkW g A.2.2.2.1 r2.2.2 ++ (mgW A v.1 ++ (bkW g A.2.2.1 v.2.2.1 ++ (hsW g A.2.2.2.2.1 A.2.2.2.2.2.2.2 v.2.2.2.2.1 ++ (scW g A.2.2.2.2.2.1 v.2.2.2.2.2.1 ++ (sbW g A.2.2.2.2.2.2.1 v.2.2.2.2.2.2.1 ++ (hbW g A.2.2.2.2.2.2.2 v.2.2.2.2.2.2.2)))))))) dX3_restoreSnapshot_26 rfl ⟨Nat.le_of_ble_eq_true rfl, Nat.le_of_ble_eq_true rfl⟩ rfl (by first | (simp only [List.append_assoc, List.nil_append, List.append_nil]; done) | rfl) (by first | (simp only [List.append_assoc, List.nil_append, List.append_nil]; done) | rfl) rfl rfl rfl rfl (Nat.le_of_ble_eq_true rfl) ⟨Nat.zero_le _, Nat.zero_le _⟩ ?_
    refine V_permc (ws2 := mgW A v.1 ++ (bkW g A.2.1 r2.2.1 ++ (bkW g A.2.2.1 v.2.2.1 ++ (bkW g A.2.2.2.1 r2.2.2 ++ (hsW g A.2.2.2.2.1 A.2.2.2.2.2.2.2 v.2.2.2.2.1 ++ (scW g A.2.2.2.2.2.1 v.2.2.2.2.2.1 ++ (sbW g A.2.2.2.2.2.2.1 v.2.2.2.2.2.2.1 ++ (hbW g A.2.2.2.2.2.2.2 v.2.2.2.2.2.2.2)))))))) [bkW g A.2.1 r2.2.1, bkW g A.2.2.2.1 r2.2.2, mgW A v.1, bkW g A.2.2.1 v.2.2.1, hsW g A.2.2.2.2.1 A.2.2.2.2.2.2.2 v.2.2.2.2.1, scW g A.2.2.2.2.2.1 v.2.2.2.2.2.1, sbW g A.2.2.2.2.2.2.1 v.2.2.2.2.2.2.1, hbW g A.2.2.2.2.2.2.2 v.2.2.2.2.2.2.2] [2, 0, 3, 1, 4, 5, 6, 7] 8 rfl rfl (by decide) rfl ?_
    refine V_aload_n C 0 30 dX3_restoreSnapshot_29 rfl rfl ?_
    refine V_get C (v := .ref A.2.2.2.2.1.1) 0 33 fl_X3_25 dX3_restoreSnapshot_30 rfl rfl rfl ?_
    obtain ⟨r4, k5, h⟩ := bd_some h
    refine V_callS C hBA ml_X3_327 (pre := mgW A v.1 ++ (bkW g A.2.1 r2.2.1 ++ (bkW g A.2.2.1 v.2.2.1 ++ (bkW g A.2.2.2.1 r2.2.2)))) (post := scW g A.2.2.2.2.2.1 v.2.2.2.2.2.1 ++ (sbW g A.2.2.2.2.2.2.1 v.2.2.2.2.2.2.1 ++ (hbW g A.2.2.2.2.2.2.2 v.2.2.2.2.2.2.2))) (w0 := hsW g A.2.2.2.2.1 A.2.2.2.2.2.2.2 v.2.2.2.2.1) (w1 := hsW g A.2.2.2.2.1 A.2.2.2.2.2.2.2 r4.2) (as := []) (rest := []) (c_X1_forget k5) 22 36 (mgW A v.1 ++ (bkW g A.2.1 r2.2.1 ++ (bkW g A.2.2.1 v.2.2.1 ++ (bkW g A.2.2.2.1 r2.2.2 ++ (hsW g A.2.2.2.2.1 A.2.2.2.2.2.2.2 r4.2 ++ (scW g A.2.2.2.2.2.1 v.2.2.2.2.2.1 ++ (sbW g A.2.2.2.2.2.2.1 v.2.2.2.2.2.2.1 ++ (hbW g A.2.2.2.2.2.2.2 v.2.2.2.2.2.2.2)))))))) dX3_restoreSnapshot_33 rfl ⟨Nat.le_of_ble_eq_true rfl, Nat.le_of_ble_eq_true rfl⟩ rfl (by first | (simp only [List.append_assoc, List.nil_append, List.append_nil]; done) | rfl) (by first | (simp only [List.append_assoc, List.nil_append, List.append_nil]; done) | rfl) rfl rfl rfl rfl (Nat.le_of_ble_eq_true rfl) ⟨Nat.zero_le _, Nat.zero_le _⟩ ?_
    refine V_aload_n C 0 37 dX3_restoreSnapshot_36 rfl rfl ?_
    refine V_get C (v := .ref A.2.1.1) 0 40 fl_X3_10 dX3_restoreSnapshot_37 rfl rfl rfl ?_
    refine V_get C (v := .int (Bk_marks r2.2.1)) 1 43 fl_X3_178 dX3_restoreSnapshot_40 rfl rfl rfl ?_
    obtain rfl := Option.some.inj h
    exact V_xretI C Z (ty := .int) rfl (rfl) rfl dX3_restoreSnapshot_43 (Nat.le_refl _) (Nat.le_refl _)
  · have h := (if_pos e1).symm.trans h
    obtain rfl := Option.some.inj h
    exact V_throwW C Z tl_X3_263_267_325 dX3_restoreSnapshot_7 dX3_restoreSnapshot_10 dX3_restoreSnapshot_11 dX3_restoreSnapshot_14 dX3_restoreSnapshot_17 ⟨Nat.le_of_ble_eq_true rfl, Nat.le_of_ble_eq_true rfl, Nat.le_refl _, Nat.le_refl _⟩ rfl (Nat.le_refl _) (Nat.le_refl _)
