set_option maxHeartbeats 4000000 in
set_option maxRecDepth 100000 in
theorem c_X3_requireMark {l : Launch} {D : va_G} {g : G0} {A : XA} {v : XV} {a1 : Int32} {R : ((Int32 × XV) ⊕ (String × XV))} (hst : l.stackTraces = false) (h : f_X3_requireMark v a1 = some R) : CtX l D g yX3_requireMark cX3_requireMark 3 (some .int) (rmX 6 90 (rxI g A R)) (xW g A v) [.ref A.1, .int a1] (rxI g A R) := by
  refine CtX.of (by decide) (Nat.le_of_ble_eq_true rfl) hst ?_
  intro K C Z hBA el eD ekn
  subst el
  subst eD
  have hE := Z.2.2.1
  have hlt : ∀ i, i < 3 → i < kn K := fun i h => by rw [ekn]; exact h
  show V K 0 0 _ [(0, .ref A.1), (1, .int a1)] [] 0
  unfold f_X3_requireMark at h
  refine V_aload_n C 0 1 dX3_requireMark_0 rfl rfl ?_
  refine V_get C (v := .ref A.2.1.1) 0 4 fl_X3_10 dX3_requireMark_1 rfl rfl rfl ?_
  refine V_iload_n C 1 5 dX3_requireMark_4 rfl rfl ?_
  obtain ⟨r1, k2, h⟩ := bd_some h
  refine V_callP C ml_X3_350 (pre := mgW A v.1) (post := bkW g A.2.2.1 v.2.2.1 ++ (bkW g A.2.2.2.1 v.2.2.2.1 ++ (hsW g A.2.2.2.2.1 A.2.2.2.2.2.2.2 v.2.2.2.2.1 ++ (scW g A.2.2.2.2.2.1 v.2.2.2.2.2.1 ++ (sbW g A.2.2.2.2.2.2.1 v.2.2.2.2.2.2.1 ++ (hbW g A.2.2.2.2.2.2.2 v.2.2.2.2.2.2.2)))))) (w := bkW g A.2.1 v.2.1) (as := [.int a1]) (rest := []) (c_X0_slotWithId k2) 1 8 dX3_requireMark_5 rfl ⟨Nat.le_of_ble_eq_true rfl, Nat.le_of_ble_eq_true rfl⟩ rfl (by first | (simp only [List.append_assoc, List.nil_append, List.append_nil]; done) | rfl) rfl rfl rfl (Nat.le_of_ble_eq_true rfl) ⟨Nat.zero_le _, Nat.zero_le _⟩ ?_
  refine V_istore_n C 9 [(2, .int r1), (0, .ref A.1), (1, .int a1)] dX3_requireMark_8 rfl (hlt 2 (by decide)) rfl ?_
  refine V_iload_n C 0 10 dX3_requireMark_9 rfl rfl ?_
  refine V_iconst C (-1 : Int32) 11 dX3_requireMark_10 rfl rfl ?_
  refine V_icmp_ne C 25 14 dX3_requireMark_11 rfl rfl (fun e3 => ?_) (fun e3 => ?_)
  · have h := (if_neg e3).symm.trans h
    refine V_iload_n C 0 26 dX3_requireMark_25 rfl rfl ?_
    obtain rfl := Option.some.inj h
    exact V_xretI C Z (ty := .int) rfl (rfl) rfl dX3_requireMark_26 (Nat.le_refl _) (Nat.le_refl _)
  · have h := (if_pos e3).symm.trans h
    obtain rfl := Option.some.inj h
    exact V_throwW C Z tl_X3_106_110_353 dX3_requireMark_14 dX3_requireMark_17 dX3_requireMark_18 dX3_requireMark_21 dX3_requireMark_24 ⟨Nat.le_of_ble_eq_true rfl, Nat.le_of_ble_eq_true rfl, Nat.le_refl _, Nat.le_refl _⟩ rfl (Nat.le_refl _) (Nat.le_refl _)
set_option maxHeartbeats 4000000 in
set_option maxRecDepth 100000 in
theorem c_X3_removeMark {l : Launch} {D : va_G} {g : G0} {A : XA} {v : XV} {a1 : Int32} {R : ((Int32 × XV) ⊕ (String × XV))} (hst : l.stackTraces = false) (h : f_X3_removeMark v a1 = some R) : CtX l D g yX3_removeMark cX3_removeMark 2 (some .int) (rmX 7 116 (rxI g A R)) (xW g A v) [.ref A.1, .int a1] (rxI g A R) := by
  refine CtX.of (by decide) (Nat.le_of_ble_eq_true rfl) hst ?_
  intro K C Z hBA el eD ekn
  subst el
  subst eD
  have hE := Z.2.2.1
  have hlt : ∀ i, i < 2 → i < kn K := fun i h => by rw [ekn]; exact h
  show V K 0 0 _ [(0, .ref A.1), (1, .int a1)] [] 0
  unfold f_X3_removeMark at h
  refine V_aload_n C 0 1 dX3_removeMark_0 rfl rfl ?_
  refine V_iload_n C 1 2 dX3_removeMark_1 rfl rfl ?_
  obtain ⟨r1, k2, h⟩ := bd_some h
  rcases r1 with r1 | r1
  · have h := bx_l h
    refine V_callXr C hBA hE ml_X3_71 (pre := []) (post := []) (wc := xW g A v) (as := [.int a1]) (rest := []) (w1 := xW g A r1.2) (rv := (some (.int r1.1))) (c_X3_requireMark (R := .inl r1) hst k2) 0 5 (mgW A r1.2.1 ++ (bkW g A.2.1 r1.2.2.1 ++ (bkW g A.2.2.1 r1.2.2.2.1 ++ (bkW g A.2.2.2.1 r1.2.2.2.2.1 ++ (hsW g A.2.2.2.2.1 A.2.2.2.2.2.2.2 r1.2.2.2.2.2.1 ++ (scW g A.2.2.2.2.2.1 r1.2.2.2.2.2.2.1 ++ (sbW g A.2.2.2.2.2.2.1 r1.2.2.2.2.2.2.2.1 ++ (hbW g A.2.2.2.2.2.2.2 r1.2.2.2.2.2.2.2.2)))))))) dX3_removeMark_2 rfl ⟨Nat.le_of_ble_eq_true rfl, Nat.le_of_ble_eq_true rfl⟩ rfl (List.append_nil _).symm (List.append_nil _) (xW_fst _ _ _ _) rfl rfl rfl (Nat.le_of_ble_eq_true rfl) ⟨Nat.zero_le _, Nat.zero_le _⟩ ?_
    refine V_pop C 6 dX3_removeMark_5 rfl rfl ?_
    refine V_aload_n C 0 7 dX3_removeMark_6 rfl rfl ?_
    refine V_get C (v := .ref A.2.2.2.2.1.1) 0 10 fl_X3_25 dX3_removeMark_7 rfl rfl rfl ?_
    refine V_aload_n C 0 11 dX3_removeMark_10 rfl rfl ?_
    refine V_get C (v := .ref A.2.1.1) 0 14 fl_X3_10 dX3_removeMark_11 rfl rfl rfl ?_
    obtain ⟨r3, k4, h⟩ := bd_some h
    refine V_permc (ws2 := hsW g A.2.2.2.2.1 A.2.2.2.2.2.2.2 r1.2.2.2.2.2.1 ++ (hbW g A.2.2.2.2.2.2.2 r1.2.2.2.2.2.2.2.2 ++ (bkW g A.2.1 r1.2.2.1 ++ (mgW A r1.2.1 ++ (bkW g A.2.2.1 r1.2.2.2.1 ++ (bkW g A.2.2.2.1 r1.2.2.2.2.1 ++ (scW g A.2.2.2.2.2.1 r1.2.2.2.2.2.2.1 ++ (sbW g A.2.2.2.2.2.2.1 r1.2.2.2.2.2.2.2.1)))))))) [mgW A r1.2.1, bkW g A.2.1 r1.2.2.1, bkW g A.2.2.1 r1.2.2.2.1, bkW g A.2.2.2.1 r1.2.2.2.2.1, hsW g A.2.2.2.2.1 A.2.2.2.2.2.2.2 r1.2.2.2.2.2.1, scW g A.2.2.2.2.2.1 r1.2.2.2.2.2.2.1, sbW g A.2.2.2.2.2.2.1 r1.2.2.2.2.2.2.2.1, hbW g A.2.2.2.2.2.2.2 r1.2.2.2.2.2.2.2.2] [4, 7, 1, 0, 2, 3, 5, 6] 8 rfl rfl (by decide) rfl ?_
    refine V_callS C hBA ml_X3_75 (pre := []) (post := mgW A r1.2.1 ++ (bkW g A.2.2.1 r1.2.2.2.1 ++ (bkW g A.2.2.2.1 r1.2.2.2.2.1 ++ (scW g A.2.2.2.2.2.1 r1.2.2.2.2.2.2.1 ++ (sbW g A.2.2.2.2.2.2.1 r1.2.2.2.2.2.2.2.1))))) (w0 := hsW g A.2.2.2.2.1 A.2.2.2.2.2.2.2 r1.2.2.2.2.2.1 ++ (hbW g A.2.2.2.2.2.2.2 r1.2.2.2.2.2.2.2.2 ++ (bkW g A.2.1 r1.2.2.1))) (w1 := hsW g A.2.2.2.2.1 A.2.2.2.2.2.2.2 r3.2.1 ++ (hbW g A.2.2.2.2.2.2.2 r3.2.2.1 ++ (bkW g A.2.1 r3.2.2.2))) (as := [.ref A.2.1.1]) (rest := []) (c_X1_remember k4) 0 17 (hsW g A.2.2.2.2.1 A.2.2.2.2.2.2.2 r3.2.1 ++ (hbW g A.2.2.2.2.2.2.2 r3.2.2.1 ++ (bkW g A.2.1 r3.2.2.2 ++ (mgW A r1.2.1 ++ (bkW g A.2.2.1 r1.2.2.2.1 ++ (bkW g A.2.2.2.1 r1.2.2.2.2.1 ++ (scW g A.2.2.2.2.2.1 r1.2.2.2.2.2.2.1 ++ (sbW g A.2.2.2.2.2.2.1 r1.2.2.2.2.2.2.2.1)))))))) dX3_removeMark_14 rfl ⟨Nat.le_of_ble_eq_true rfl, Nat.le_of_ble_eq_true rfl⟩ rfl (by first | (simp only [List.append_assoc, List.nil_append, List.append_nil]; done) | rfl) (by first | (simp only [List.append_assoc, List.nil_append, List.append_nil]; done) | rfl) rfl rfl rfl rfl (Nat.le_of_ble_eq_true rfl) ⟨Nat.zero_le _, Nat.zero_le _⟩ ?_
    refine V_permc (ws2 := mgW A r1.2.1 ++ (bkW g A.2.1 r3.2.2.2 ++ (bkW g A.2.2.1 r1.2.2.2.1 ++ (bkW g A.2.2.2.1 r1.2.2.2.2.1 ++ (hsW g A.2.2.2.2.1 A.2.2.2.2.2.2.2 r3.2.1 ++ (scW g A.2.2.2.2.2.1 r1.2.2.2.2.2.2.1 ++ (sbW g A.2.2.2.2.2.2.1 r1.2.2.2.2.2.2.2.1 ++ (hbW g A.2.2.2.2.2.2.2 r3.2.2.1)))))))) [hsW g A.2.2.2.2.1 A.2.2.2.2.2.2.2 r3.2.1, hbW g A.2.2.2.2.2.2.2 r3.2.2.1, bkW g A.2.1 r3.2.2.2, mgW A r1.2.1, bkW g A.2.2.1 r1.2.2.2.1, bkW g A.2.2.2.1 r1.2.2.2.2.1, scW g A.2.2.2.2.2.1 r1.2.2.2.2.2.2.1, sbW g A.2.2.2.2.2.2.1 r1.2.2.2.2.2.2.2.1] [3, 2, 4, 5, 0, 6, 7, 1] 8 rfl rfl (by decide) rfl ?_
    refine V_aload_n C 0 18 dX3_removeMark_17 rfl rfl ?_
    refine V_get C (v := .ref A.2.1.1) 0 21 fl_X3_10 dX3_removeMark_18 rfl rfl rfl ?_
    refine V_bipush C (88 : Int32) 23 dX3_removeMark_21 rfl rfl ?_
    refine V_iload_n C 1 24 dX3_removeMark_23 rfl rfl ?_
    refine V_iconst C (0 : Int32) 25 dX3_removeMark_24 rfl rfl ?_
    obtain ⟨r5, k6, h⟩ := bd_some h
    refine V_callS C hBA ml_X3_79 (pre := mgW A r1.2.1) (post := bkW g A.2.2.1 r1.2.2.2.1 ++ (bkW g A.2.2.2.1 r1.2.2.2.2.1 ++ (hsW g A.2.2.2.2.1 A.2.2.2.2.2.2.2 r3.2.1 ++ (scW g A.2.2.2.2.2.1 r1.2.2.2.2.2.2.1 ++ (sbW g A.2.2.2.2.2.2.1 r1.2.2.2.2.2.2.2.1 ++ (hbW g A.2.2.2.2.2.2.2 r3.2.2.1)))))) (w0 := bkW g A.2.1 r3.2.2.2) (w1 := bkW g A.2.1 r5.2) (as := [.int (88 : Int32), .int a1, .int (0 : Int32)]) (rest := []) (c_X0_carryOut k6) 1 28 (mgW A r1.2.1 ++ (bkW g A.2.1 r5.2 ++ (bkW g A.2.2.1 r1.2.2.2.1 ++ (bkW g A.2.2.2.1 r1.2.2.2.2.1 ++ (hsW g A.2.2.2.2.1 A.2.2.2.2.2.2.2 r3.2.1 ++ (scW g A.2.2.2.2.2.1 r1.2.2.2.2.2.2.1 ++ (sbW g A.2.2.2.2.2.2.1 r1.2.2.2.2.2.2.2.1 ++ (hbW g A.2.2.2.2.2.2.2 r3.2.2.1)))))))) dX3_removeMark_25 rfl ⟨Nat.le_of_ble_eq_true rfl, Nat.le_of_ble_eq_true rfl⟩ rfl (by first | (simp only [List.append_assoc, List.nil_append, List.append_nil]; done) | rfl) (by first | (simp only [List.append_assoc, List.nil_append, List.append_nil]; done) | rfl) rfl rfl rfl rfl (Nat.le_of_ble_eq_true rfl) ⟨Nat.zero_le _, Nat.zero_le _⟩ ?_
    obtain rfl := Option.some.inj h
    exact V_xretI C Z (ty := .int) rfl (rfl) rfl dX3_removeMark_28 (Nat.le_refl _) (Nat.le_refl _)
  · have h := bx_r h
    obtain rfl := Option.some.inj h
    refine V_callXt C hBA hE ml_X3_71 (pre := []) (post := []) (wc := xW g A v) (as := [.int a1]) (rest := []) (w1 := xW g A r1.2) (E := r1.1) (c_X3_requireMark (R := .inr r1) hst k2) 0 (xW g A r1.2) dX3_removeMark_2 ⟨Nat.le_of_ble_eq_true rfl, Nat.le_of_ble_eq_true rfl⟩ rfl (List.append_nil _).symm (List.append_nil _) (xW_fst _ _ _ _) rfl rfl (Nat.le_of_ble_eq_true rfl) ⟨Nat.le_refl _, Nat.le_refl _⟩ ?_
    exact VX_out C Z rfl (Nat.le_refl _) (Nat.le_refl _)
set_option maxHeartbeats 4000000 in
set_option maxRecDepth 100000 in
theorem c_X3_moveRibbon {l : Launch} {D : va_G} {g : G0} {A : XA} {v : XV} {a1 a2 : Int32} {R : ((Int32 × XV) ⊕ (String × XV))} (hst : l.stackTraces = false) (h : f_X3_moveRibbon v a1 a2 = some R) : CtX l D g yX3_moveRibbon cX3_moveRibbon 3 (some .int) (rmX 7 140 (rxI g A R)) (xW g A v) [.ref A.1, .int a1, .int a2] (rxI g A R) := by
  refine CtX.of (by decide) (Nat.le_of_ble_eq_true rfl) hst ?_
  intro K C Z hBA el eD ekn
  subst el
  subst eD
  have hE := Z.2.2.1
  have hlt : ∀ i, i < 3 → i < kn K := fun i h => by rw [ekn]; exact h
  show V K 0 0 _ [(0, .ref A.1), (1, .int a1), (2, .int a2)] [] 0
  unfold f_X3_moveRibbon at h
  refine V_aload_n C 0 1 dX3_moveRibbon_0 rfl rfl ?_
  refine V_iload_n C 1 2 dX3_moveRibbon_1 rfl rfl ?_
  obtain ⟨r1, k2, h⟩ := bd_some h
  rcases r1 with r1 | r1
  · have h := bx_l h
    refine V_callXr C hBA hE ml_X3_71 (pre := []) (post := []) (wc := xW g A v) (as := [.int a1]) (rest := []) (w1 := xW g A r1.2) (rv := (some (.int r1.1))) (c_X3_requireMark (R := .inl r1) hst k2) 0 5 (mgW A r1.2.1 ++ (bkW g A.2.1 r1.2.2.1 ++ (bkW g A.2.2.1 r1.2.2.2.1 ++ (bkW g A.2.2.2.1 r1.2.2.2.2.1 ++ (hsW g A.2.2.2.2.1 A.2.2.2.2.2.2.2 r1.2.2.2.2.2.1 ++ (scW g A.2.2.2.2.2.1 r1.2.2.2.2.2.2.1 ++ (sbW g A.2.2.2.2.2.2.1 r1.2.2.2.2.2.2.2.1 ++ (hbW g A.2.2.2.2.2.2.2 r1.2.2.2.2.2.2.2.2)))))))) dX3_moveRibbon_2 rfl ⟨Nat.le_of_ble_eq_true rfl, Nat.le_of_ble_eq_true rfl⟩ rfl (List.append_nil _).symm (List.append_nil _) (xW_fst _ _ _ _) rfl rfl rfl (Nat.le_of_ble_eq_true rfl) ⟨Nat.zero_le _, Nat.zero_le _⟩ ?_
    refine V_pop C 6 dX3_moveRibbon_5 rfl rfl ?_
    refine V_aload_n C 0 7 dX3_moveRibbon_6 rfl rfl ?_
    refine V_iload_n C 2 8 dX3_moveRibbon_7 rfl rfl ?_
    obtain ⟨r3, k4, h⟩ := bd_some h
    rcases r3 with r3 | r3
    · have h := bx_l h
      refine V_callXr C hBA hE ml_X3_60 (pre := []) (post := []) (wc := xW g A r1.2) (as := [.int a2]) (rest := []) (w1 := xW g A r3.2) (rv := none) (c_X3_requirePage (R := .inl r3) hst k4) 0 11 (mgW A r3.2.1 ++ (bkW g A.2.1 r3.2.2.1 ++ (bkW g A.2.2.1 r3.2.2.2.1 ++ (bkW g A.2.2.2.1 r3.2.2.2.2.1 ++ (hsW g A.2.2.2.2.1 A.2.2.2.2.2.2.2 r3.2.2.2.2.2.1 ++ (scW g A.2.2.2.2.2.1 r3.2.2.2.2.2.2.1 ++ (sbW g A.2.2.2.2.2.2.1 r3.2.2.2.2.2.2.2.1 ++ (hbW g A.2.2.2.2.2.2.2 r3.2.2.2.2.2.2.2.2)))))))) dX3_moveRibbon_8 rfl ⟨Nat.le_of_ble_eq_true rfl, Nat.le_of_ble_eq_true rfl⟩ rfl (List.append_nil _).symm (List.append_nil _) (xW_fst _ _ _ _) rfl rfl rfl (Nat.le_of_ble_eq_true rfl) ⟨Nat.zero_le _, Nat.zero_le _⟩ ?_
      refine V_aload_n C 0 12 dX3_moveRibbon_11 rfl rfl ?_
      refine V_bipush C (77 : Int32) 14 dX3_moveRibbon_12 rfl rfl ?_
      refine V_iload_n C 1 15 dX3_moveRibbon_14 rfl rfl ?_
      refine V_iload_n C 2 16 dX3_moveRibbon_15 rfl rfl ?_
      obtain ⟨r5, k6, h⟩ := bd_some h
      rcases r5 with r5 | r5
      · have h := bx_l h
        refine V_callXr C hBA hE ml_X3_67 (pre := []) (post := []) (wc := xW g A r3.2) (as := [.int (77 : Int32), .int a1, .int a2]) (rest := []) (w1 := xW g A r5.2) (rv := (some (.int r5.1))) (c_X3_changeUnlessRejected (R := .inl r5) hst k6) 0 19 (mgW A r5.2.1 ++ (bkW g A.2.1 r5.2.2.1 ++ (bkW g A.2.2.1 r5.2.2.2.1 ++ (bkW g A.2.2.2.1 r5.2.2.2.2.1 ++ (hsW g A.2.2.2.2.1 A.2.2.2.2.2.2.2 r5.2.2.2.2.2.1 ++ (scW g A.2.2.2.2.2.1 r5.2.2.2.2.2.2.1 ++ (sbW g A.2.2.2.2.2.2.1 r5.2.2.2.2.2.2.2.1 ++ (hbW g A.2.2.2.2.2.2.2 r5.2.2.2.2.2.2.2.2)))))))) dX3_moveRibbon_16 rfl ⟨Nat.le_of_ble_eq_true rfl, Nat.le_of_ble_eq_true rfl⟩ rfl (List.append_nil _).symm (List.append_nil _) (xW_fst _ _ _ _) rfl rfl rfl (Nat.le_of_ble_eq_true rfl) ⟨Nat.zero_le _, Nat.zero_le _⟩ ?_
        obtain rfl := Option.some.inj h
        exact V_xretI C Z (ty := .int) rfl (rfl) rfl dX3_moveRibbon_19 (Nat.le_refl _) (Nat.le_refl _)
      · have h := bx_r h
        obtain rfl := Option.some.inj h
        refine V_callXt C hBA hE ml_X3_67 (pre := []) (post := []) (wc := xW g A r3.2) (as := [.int (77 : Int32), .int a1, .int a2]) (rest := []) (w1 := xW g A r5.2) (E := r5.1) (c_X3_changeUnlessRejected (R := .inr r5) hst k6) 0 (xW g A r5.2) dX3_moveRibbon_16 ⟨Nat.le_of_ble_eq_true rfl, Nat.le_of_ble_eq_true rfl⟩ rfl (List.append_nil _).symm (List.append_nil _) (xW_fst _ _ _ _) rfl rfl (Nat.le_of_ble_eq_true rfl) ⟨Nat.le_refl _, Nat.le_refl _⟩ ?_
        exact VX_out C Z rfl (Nat.le_refl _) (Nat.le_refl _)
    · have h := bx_r h
      obtain rfl := Option.some.inj h
      refine V_callXt C hBA hE ml_X3_60 (pre := []) (post := []) (wc := xW g A r1.2) (as := [.int a2]) (rest := []) (w1 := xW g A r3.2) (E := r3.1) (c_X3_requirePage (R := .inr r3) hst k4) 0 (xW g A r3.2) dX3_moveRibbon_8 ⟨Nat.le_of_ble_eq_true rfl, Nat.le_of_ble_eq_true rfl⟩ rfl (List.append_nil _).symm (List.append_nil _) (xW_fst _ _ _ _) rfl rfl (Nat.le_of_ble_eq_true rfl) ⟨Nat.le_refl _, Nat.le_refl _⟩ ?_
      exact VX_out C Z rfl (Nat.le_refl _) (Nat.le_refl _)
  · have h := bx_r h
    obtain rfl := Option.some.inj h
    refine V_callXt C hBA hE ml_X3_71 (pre := []) (post := []) (wc := xW g A v) (as := [.int a1]) (rest := []) (w1 := xW g A r1.2) (E := r1.1) (c_X3_requireMark (R := .inr r1) hst k2) 0 (xW g A r1.2) dX3_moveRibbon_2 ⟨Nat.le_of_ble_eq_true rfl, Nat.le_of_ble_eq_true rfl⟩ rfl (List.append_nil _).symm (List.append_nil _) (xW_fst _ _ _ _) rfl rfl (Nat.le_of_ble_eq_true rfl) ⟨Nat.le_refl _, Nat.le_refl _⟩ ?_
    exact VX_out C Z rfl (Nat.le_refl _) (Nat.le_refl _)
set_option maxHeartbeats 4000000 in
set_option maxRecDepth 100000 in
theorem c_X3_swapSeats {l : Launch} {D : va_G} {g : G0} {A : XA} {v : XV} {a1 a2 : Int32} {R : ((Int32 × XV) ⊕ (String × XV))} (hst : l.stackTraces = false) (h : f_X3_swapSeats v a1 a2 = some R) : CtX l D g yX3_swapSeats cX3_swapSeats 3 (some .int) (rmX 7 140 (rxI g A R)) (xW g A v) [.ref A.1, .int a1, .int a2] (rxI g A R) := by
  refine CtX.of (by decide) (Nat.le_of_ble_eq_true rfl) hst ?_
  intro K C Z hBA el eD ekn
  subst el
  subst eD
  have hE := Z.2.2.1
  have hlt : ∀ i, i < 3 → i < kn K := fun i h => by rw [ekn]; exact h
  show V K 0 0 _ [(0, .ref A.1), (1, .int a1), (2, .int a2)] [] 0
  unfold f_X3_swapSeats at h
  refine V_aload_n C 0 1 dX3_swapSeats_0 rfl rfl ?_
  refine V_iload_n C 1 2 dX3_swapSeats_1 rfl rfl ?_
  obtain ⟨r1, k2, h⟩ := bd_some h
  rcases r1 with r1 | r1
  · have h := bx_l h
    refine V_callXr C hBA hE ml_X3_71 (pre := []) (post := []) (wc := xW g A v) (as := [.int a1]) (rest := []) (w1 := xW g A r1.2) (rv := (some (.int r1.1))) (c_X3_requireMark (R := .inl r1) hst k2) 0 5 (mgW A r1.2.1 ++ (bkW g A.2.1 r1.2.2.1 ++ (bkW g A.2.2.1 r1.2.2.2.1 ++ (bkW g A.2.2.2.1 r1.2.2.2.2.1 ++ (hsW g A.2.2.2.2.1 A.2.2.2.2.2.2.2 r1.2.2.2.2.2.1 ++ (scW g A.2.2.2.2.2.1 r1.2.2.2.2.2.2.1 ++ (sbW g A.2.2.2.2.2.2.1 r1.2.2.2.2.2.2.2.1 ++ (hbW g A.2.2.2.2.2.2.2 r1.2.2.2.2.2.2.2.2)))))))) dX3_swapSeats_2 rfl ⟨Nat.le_of_ble_eq_true rfl, Nat.le_of_ble_eq_true rfl⟩ rfl (List.append_nil _).symm (List.append_nil _) (xW_fst _ _ _ _) rfl rfl rfl (Nat.le_of_ble_eq_true rfl) ⟨Nat.zero_le _, Nat.zero_le _⟩ ?_
    refine V_pop C 6 dX3_swapSeats_5 rfl rfl ?_
    refine V_aload_n C 0 7 dX3_swapSeats_6 rfl rfl ?_
    refine V_iload_n C 2 8 dX3_swapSeats_7 rfl rfl ?_
    obtain ⟨r3, k4, h⟩ := bd_some h
    rcases r3 with r3 | r3
    · have h := bx_l h
      refine V_callXr C hBA hE ml_X3_71 (pre := []) (post := []) (wc := xW g A r1.2) (as := [.int a2]) (rest := []) (w1 := xW g A r3.2) (rv := (some (.int r3.1))) (c_X3_requireMark (R := .inl r3) hst k4) 0 11 (mgW A r3.2.1 ++ (bkW g A.2.1 r3.2.2.1 ++ (bkW g A.2.2.1 r3.2.2.2.1 ++ (bkW g A.2.2.2.1 r3.2.2.2.2.1 ++ (hsW g A.2.2.2.2.1 A.2.2.2.2.2.2.2 r3.2.2.2.2.2.1 ++ (scW g A.2.2.2.2.2.1 r3.2.2.2.2.2.2.1 ++ (sbW g A.2.2.2.2.2.2.1 r3.2.2.2.2.2.2.2.1 ++ (hbW g A.2.2.2.2.2.2.2 r3.2.2.2.2.2.2.2.2)))))))) dX3_swapSeats_8 rfl ⟨Nat.le_of_ble_eq_true rfl, Nat.le_of_ble_eq_true rfl⟩ rfl (List.append_nil _).symm (List.append_nil _) (xW_fst _ _ _ _) rfl rfl rfl (Nat.le_of_ble_eq_true rfl) ⟨Nat.zero_le _, Nat.zero_le _⟩ ?_
      refine V_pop C 12 dX3_swapSeats_11 rfl rfl ?_
      refine V_aload_n C 0 13 dX3_swapSeats_12 rfl rfl ?_
      refine V_bipush C (83 : Int32) 15 dX3_swapSeats_13 rfl rfl ?_
      refine V_iload_n C 1 16 dX3_swapSeats_15 rfl rfl ?_
      refine V_iload_n C 2 17 dX3_swapSeats_16 rfl rfl ?_
      obtain ⟨r5, k6, h⟩ := bd_some h
      rcases r5 with r5 | r5
      · have h := bx_l h
        refine V_callXr C hBA hE ml_X3_67 (pre := []) (post := []) (wc := xW g A r3.2) (as := [.int (83 : Int32), .int a1, .int a2]) (rest := []) (w1 := xW g A r5.2) (rv := (some (.int r5.1))) (c_X3_changeUnlessRejected (R := .inl r5) hst k6) 0 20 (mgW A r5.2.1 ++ (bkW g A.2.1 r5.2.2.1 ++ (bkW g A.2.2.1 r5.2.2.2.1 ++ (bkW g A.2.2.2.1 r5.2.2.2.2.1 ++ (hsW g A.2.2.2.2.1 A.2.2.2.2.2.2.2 r5.2.2.2.2.2.1 ++ (scW g A.2.2.2.2.2.1 r5.2.2.2.2.2.2.1 ++ (sbW g A.2.2.2.2.2.2.1 r5.2.2.2.2.2.2.2.1 ++ (hbW g A.2.2.2.2.2.2.2 r5.2.2.2.2.2.2.2.2)))))))) dX3_swapSeats_17 rfl ⟨Nat.le_of_ble_eq_true rfl, Nat.le_of_ble_eq_true rfl⟩ rfl (List.append_nil _).symm (List.append_nil _) (xW_fst _ _ _ _) rfl rfl rfl (Nat.le_of_ble_eq_true rfl) ⟨Nat.zero_le _, Nat.zero_le _⟩ ?_
        obtain rfl := Option.some.inj h
        exact V_xretI C Z (ty := .int) rfl (rfl) rfl dX3_swapSeats_20 (Nat.le_refl _) (Nat.le_refl _)
      · have h := bx_r h
        obtain rfl := Option.some.inj h
        refine V_callXt C hBA hE ml_X3_67 (pre := []) (post := []) (wc := xW g A r3.2) (as := [.int (83 : Int32), .int a1, .int a2]) (rest := []) (w1 := xW g A r5.2) (E := r5.1) (c_X3_changeUnlessRejected (R := .inr r5) hst k6) 0 (xW g A r5.2) dX3_swapSeats_17 ⟨Nat.le_of_ble_eq_true rfl, Nat.le_of_ble_eq_true rfl⟩ rfl (List.append_nil _).symm (List.append_nil _) (xW_fst _ _ _ _) rfl rfl (Nat.le_of_ble_eq_true rfl) ⟨Nat.le_refl _, Nat.le_refl _⟩ ?_
        exact VX_out C Z rfl (Nat.le_refl _) (Nat.le_refl _)
    · have h := bx_r h
      obtain rfl := Option.some.inj h
      refine V_callXt C hBA hE ml_X3_71 (pre := []) (post := []) (wc := xW g A r1.2) (as := [.int a2]) (rest := []) (w1 := xW g A r3.2) (E := r3.1) (c_X3_requireMark (R := .inr r3) hst k4) 0 (xW g A r3.2) dX3_swapSeats_8 ⟨Nat.le_of_ble_eq_true rfl, Nat.le_of_ble_eq_true rfl⟩ rfl (List.append_nil _).symm (List.append_nil _) (xW_fst _ _ _ _) rfl rfl (Nat.le_of_ble_eq_true rfl) ⟨Nat.le_refl _, Nat.le_refl _⟩ ?_
      exact VX_out C Z rfl (Nat.le_refl _) (Nat.le_refl _)
  · have h := bx_r h
    obtain rfl := Option.some.inj h
    refine V_callXt C hBA hE ml_X3_71 (pre := []) (post := []) (wc := xW g A v) (as := [.int a1]) (rest := []) (w1 := xW g A r1.2) (E := r1.1) (c_X3_requireMark (R := .inr r1) hst k2) 0 (xW g A r1.2) dX3_swapSeats_2 ⟨Nat.le_of_ble_eq_true rfl, Nat.le_of_ble_eq_true rfl⟩ rfl (List.append_nil _).symm (List.append_nil _) (xW_fst _ _ _ _) rfl rfl (Nat.le_of_ble_eq_true rfl) ⟨Nat.le_refl _, Nat.le_refl _⟩ ?_
    exact VX_out C Z rfl (Nat.le_refl _) (Nat.le_refl _)
set_option maxHeartbeats 4000000 in
set_option maxRecDepth 100000 in
theorem c_X3_isRibbon {l : Launch} {D : va_G} {g : G0} {A : XA} {v : XV} {a1 : Int32} {R : ((Int32 × XV) ⊕ (String × XV))} (hst : l.stackTraces = false) (h : f_X3_isRibbon v a1 = some R) : CtX l D g yX3_isRibbon cX3_isRibbon 2 (some .boolean) (rmX 7 112 (rxI g A R)) (xW g A v) [.ref A.1, .int a1] (rxI g A R) := by
  refine CtX.of (by decide) (Nat.le_of_ble_eq_true rfl) hst ?_
  intro K C Z hBA el eD ekn
  subst el
  subst eD
  have hE := Z.2.2.1
  have hlt : ∀ i, i < 2 → i < kn K := fun i h => by rw [ekn]; exact h
  show V K 0 0 _ [(0, .ref A.1), (1, .int a1)] [] 0
  unfold f_X3_isRibbon at h
  refine V_aload_n C 0 1 dX3_isRibbon_0 rfl rfl ?_
  refine V_get C (v := .ref A.2.1.1) 0 4 fl_X3_10 dX3_isRibbon_1 rfl rfl rfl ?_
  refine V_aload_n C 0 5 dX3_isRibbon_4 rfl rfl ?_
  refine V_iload_n C 1 6 dX3_isRibbon_5 rfl rfl ?_
  obtain ⟨r1, k2, h⟩ := bd_some h
  rcases r1 with r1 | r1
  · have h := bx_l h
    refine V_callXr C hBA hE ml_X3_71 (pre := []) (post := []) (wc := xW g A v) (as := [.int a1]) (rest := [.ref A.2.1.1]) (w1 := xW g A r1.2) (rv := (some (.int r1.1))) (c_X3_requireMark (R := .inl r1) hst k2) 0 9 (mgW A r1.2.1 ++ (bkW g A.2.1 r1.2.2.1 ++ (bkW g A.2.2.1 r1.2.2.2.1 ++ (bkW g A.2.2.2.1 r1.2.2.2.2.1 ++ (hsW g A.2.2.2.2.1 A.2.2.2.2.2.2.2 r1.2.2.2.2.2.1 ++ (scW g A.2.2.2.2.2.1 r1.2.2.2.2.2.2.1 ++ (sbW g A.2.2.2.2.2.2.1 r1.2.2.2.2.2.2.2.1 ++ (hbW g A.2.2.2.2.2.2.2 r1.2.2.2.2.2.2.2.2)))))))) dX3_isRibbon_6 rfl ⟨Nat.le_of_ble_eq_true rfl, Nat.le_of_ble_eq_true rfl⟩ rfl (List.append_nil _).symm (List.append_nil _) (xW_fst _ _ _ _) rfl rfl rfl (Nat.le_of_ble_eq_true rfl) ⟨Nat.zero_le _, Nat.zero_le _⟩ ?_
    obtain ⟨r3, k4, h⟩ := bd_some h
    refine V_callP C ml_X3_82 (pre := mgW A r1.2.1) (post := bkW g A.2.2.1 r1.2.2.2.1 ++ (bkW g A.2.2.2.1 r1.2.2.2.2.1 ++ (hsW g A.2.2.2.2.1 A.2.2.2.2.2.2.2 r1.2.2.2.2.2.1 ++ (scW g A.2.2.2.2.2.1 r1.2.2.2.2.2.2.1 ++ (sbW g A.2.2.2.2.2.2.1 r1.2.2.2.2.2.2.2.1 ++ (hbW g A.2.2.2.2.2.2.2 r1.2.2.2.2.2.2.2.2)))))) (w := bkW g A.2.1 r1.2.2.1) (as := [.int r1.1]) (rest := []) (c_X0_hasSeat k4) 1 12 dX3_isRibbon_9 rfl ⟨Nat.le_of_ble_eq_true rfl, Nat.le_of_ble_eq_true rfl⟩ rfl (by first | (simp only [List.append_assoc, List.nil_append, List.append_nil]; done) | rfl) rfl rfl rfl (Nat.le_of_ble_eq_true rfl) ⟨Nat.zero_le _, Nat.zero_le _⟩ ?_
    obtain ⟨g5, h⟩ := gd_some h
    obtain rfl := Option.some.inj h
    exact V_xretI C Z (ty := .boolean) rfl (isz_t g5) rfl dX3_isRibbon_12 (Nat.le_refl _) (Nat.le_refl _)
  · have h := bx_r h
    obtain rfl := Option.some.inj h
    refine V_callXt C hBA hE ml_X3_71 (pre := []) (post := []) (wc := xW g A v) (as := [.int a1]) (rest := [.ref A.2.1.1]) (w1 := xW g A r1.2) (E := r1.1) (c_X3_requireMark (R := .inr r1) hst k2) 0 (xW g A r1.2) dX3_isRibbon_6 ⟨Nat.le_of_ble_eq_true rfl, Nat.le_of_ble_eq_true rfl⟩ rfl (List.append_nil _).symm (List.append_nil _) (xW_fst _ _ _ _) rfl rfl (Nat.le_of_ble_eq_true rfl) ⟨Nat.le_refl _, Nat.le_refl _⟩ ?_
    exact VX_out C Z rfl (Nat.le_refl _) (Nat.le_refl _)
set_option maxHeartbeats 4000000 in
set_option maxRecDepth 100000 in
theorem c_X3_pageOf {l : Launch} {D : va_G} {g : G0} {A : XA} {v : XV} {a1 : Int32} {R : ((Int32 × XV) ⊕ (String × XV))} (hst : l.stackTraces = false) (h : f_X3_pageOf v a1 = some R) : CtX l D g yX3_pageOf cX3_pageOf 2 (some .int) (rmX 7 112 (rxI g A R)) (xW g A v) [.ref A.1, .int a1] (rxI g A R) := by
  refine CtX.of (by decide) (Nat.le_of_ble_eq_true rfl) hst ?_
  intro K C Z hBA el eD ekn
  subst el
  subst eD
  have hE := Z.2.2.1
  have hlt : ∀ i, i < 2 → i < kn K := fun i h => by rw [ekn]; exact h
  show V K 0 0 _ [(0, .ref A.1), (1, .int a1)] [] 0
  unfold f_X3_pageOf at h
  refine V_aload_n C 0 1 dX3_pageOf_0 rfl rfl ?_
  refine V_get C (v := .ref A.2.1.1) 0 4 fl_X3_10 dX3_pageOf_1 rfl rfl rfl ?_
  refine V_get C (v := .ref A.2.1.2.2.1) 1 7 fl_X3_86 dX3_pageOf_4 rfl rfl rfl ?_
  refine V_aload_n C 0 8 dX3_pageOf_7 rfl rfl ?_
  refine V_iload_n C 1 9 dX3_pageOf_8 rfl rfl ?_
  obtain ⟨r1, k2, h⟩ := bd_some h
  rcases r1 with r1 | r1
  · have h := bx_l h
    refine V_callXr C hBA hE ml_X3_71 (pre := []) (post := []) (wc := xW g A v) (as := [.int a1]) (rest := [.ref A.2.1.2.2.1]) (w1 := xW g A r1.2) (rv := (some (.int r1.1))) (c_X3_requireMark (R := .inl r1) hst k2) 0 12 (mgW A r1.2.1 ++ (bkW g A.2.1 r1.2.2.1 ++ (bkW g A.2.2.1 r1.2.2.2.1 ++ (bkW g A.2.2.2.1 r1.2.2.2.2.1 ++ (hsW g A.2.2.2.2.1 A.2.2.2.2.2.2.2 r1.2.2.2.2.2.1 ++ (scW g A.2.2.2.2.2.1 r1.2.2.2.2.2.2.1 ++ (sbW g A.2.2.2.2.2.2.1 r1.2.2.2.2.2.2.2.1 ++ (hbW g A.2.2.2.2.2.2.2 r1.2.2.2.2.2.2.2.2)))))))) dX3_pageOf_9 rfl ⟨Nat.le_of_ble_eq_true rfl, Nat.le_of_ble_eq_true rfl⟩ rfl (List.append_nil _).symm (List.append_nil _) (xW_fst _ _ _ _) rfl rfl rfl (Nat.le_of_ble_eq_true rfl) ⟨Nat.zero_le _, Nat.zero_le _⟩ ?_
    obtain ⟨g3, h⟩ := gd_some h
    refine V_iald C (f := (Bk_pages r1.2.2.1)) (n := 12) 3 13 dX3_pageOf_12 rfl rfl g3 ?_
    obtain rfl := Option.some.inj h
    exact V_xretI C Z (ty := .int) rfl (rfl) rfl dX3_pageOf_13 (Nat.le_refl _) (Nat.le_refl _)
  · have h := bx_r h
    obtain rfl := Option.some.inj h
    refine V_callXt C hBA hE ml_X3_71 (pre := []) (post := []) (wc := xW g A v) (as := [.int a1]) (rest := [.ref A.2.1.2.2.1]) (w1 := xW g A r1.2) (E := r1.1) (c_X3_requireMark (R := .inr r1) hst k2) 0 (xW g A r1.2) dX3_pageOf_9 ⟨Nat.le_of_ble_eq_true rfl, Nat.le_of_ble_eq_true rfl⟩ rfl (List.append_nil _).symm (List.append_nil _) (xW_fst _ _ _ _) rfl rfl (Nat.le_of_ble_eq_true rfl) ⟨Nat.le_refl _, Nat.le_refl _⟩ ?_
    exact VX_out C Z rfl (Nat.le_refl _) (Nat.le_refl _)
