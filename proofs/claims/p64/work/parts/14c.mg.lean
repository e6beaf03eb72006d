set_option maxHeartbeats 4000000 in
set_option maxRecDepth 100000 in
theorem c_X3_weightOf {l : Launch} {D : va_G} {g : G0} {A : XA} {v : XV} {a1 : Int32} {R : ((Int32 × XV) ⊕ (String × XV))} (hst : l.stackTraces = false) (h : f_X3_weightOf v a1 = some R) : CtX l D g yX3_weightOf cX3_weightOf 2 (some .int) (rmX 7 112 (rxI g A R)) (xW g A v) [.ref A.1, .int a1] (rxI g A R) := by
  refine CtX.of (by decide) (Nat.le_of_ble_eq_true rfl) hst ?_
  intro K C Z hBA el eD ekn
  subst el
  subst eD
  have hE := Z.2.2.1
  have hlt : ∀ i, i < 2 → i < kn K := fun i h => by rw [ekn]; exact h
  show V K 0 0 _ [(0, .ref A.1), (1, .int a1)] [] 0
  unfold f_X3_weightOf at h
  refine V_aload_n C 0 1 dX3_weightOf_0 rfl rfl ?_
  refine V_get C (v := .ref A.2.1.1) 0 4 fl_X3_10 dX3_weightOf_1 rfl rfl rfl ?_
  refine V_get C (v := .ref A.2.1.2.2.2.1) 1 7 fl_X3_90 dX3_weightOf_4 rfl rfl rfl ?_
  refine V_aload_n C 0 8 dX3_weightOf_7 rfl rfl ?_
  refine V_iload_n C 1 9 dX3_weightOf_8 rfl rfl ?_
  obtain ⟨r1, k2, h⟩ := bd_some h
  rcases r1 with r1 | r1
  · have h := bx_l h
    refine V_callXr C hBA hE ml_X3_71 (pre := []) (post := []) (wc := xW g A v) (as := [.int a1]) (rest := [.ref A.2.1.2.2.2.1]) (w1 := xW g A r1.2) (rv := (some (.int r1.1))) (c_X3_requireMark (R := .inl r1) hst k2) 0 12 (mgW A r1.2.1 ++ (bkW g A.2.1 r1.2.2.1 ++ (bkW g A.2.2.1 r1.2.2.2.1 ++ (bkW g A.2.2.2.1 r1.2.2.2.2.1 ++ (hsW g A.2.2.2.2.1 A.2.2.2.2.2.2.2 r1.2.2.2.2.2.1 ++ (scW g A.2.2.2.2.2.1 r1.2.2.2.2.2.2.1 ++ (sbW g A.2.2.2.2.2.2.1 r1.2.2.2.2.2.2.2.1 ++ (hbW g A.2.2.2.2.2.2.2 r1.2.2.2.2.2.2.2.2)))))))) dX3_weightOf_9 rfl ⟨Nat.le_of_ble_eq_true rfl, Nat.le_of_ble_eq_true rfl⟩ rfl (List.append_nil _).symm (List.append_nil _) (xW_fst _ _ _ _) rfl rfl rfl (Nat.le_of_ble_eq_true rfl) ⟨Nat.zero_le _, Nat.zero_le _⟩ ?_
    obtain ⟨g3, h⟩ := gd_some h
    refine V_iald C (f := (Bk_weights r1.2.2.1)) (n := 12) 4 13 dX3_weightOf_12 rfl rfl g3 ?_
    obtain rfl := Option.some.inj h
    exact V_xretI C Z (ty := .int) rfl (rfl) rfl dX3_weightOf_13 (Nat.le_refl _) (Nat.le_refl _)
  · have h := bx_r h
    obtain rfl := Option.some.inj h
    refine V_callXt C hBA hE ml_X3_71 (pre := []) (post := []) (wc := xW g A v) (as := [.int a1]) (rest := [.ref A.2.1.2.2.2.1]) (w1 := xW g A r1.2) (E := r1.1) (c_X3_requireMark (R := .inr r1) hst k2) 0 (xW g A r1.2) dX3_weightOf_9 ⟨Nat.le_of_ble_eq_true rfl, Nat.le_of_ble_eq_true rfl⟩ rfl (List.append_nil _).symm (List.append_nil _) (xW_fst _ _ _ _) rfl rfl (Nat.le_of_ble_eq_true rfl) ⟨Nat.le_refl _, Nat.le_refl _⟩ ?_
    exact VX_out C Z rfl (Nat.le_refl _) (Nat.le_refl _)
set_option maxHeartbeats 4000000 in
set_option maxRecDepth 100000 in
theorem c_X3_wearOf {l : Launch} {D : va_G} {g : G0} {A : XA} {v : XV} {a1 : Int32} {R : ((Int32 × XV) ⊕ (String × XV))} (hst : l.stackTraces = false) (h : f_X3_wearOf v a1 = some R) : CtX l D g yX3_wearOf cX3_wearOf 2 (some .int) (rmX 7 112 (rxI g A R)) (xW g A v) [.ref A.1, .int a1] (rxI g A R) := by
  refine CtX.of (by decide) (Nat.le_of_ble_eq_true rfl) hst ?_
  intro K C Z hBA el eD ekn
  subst el
  subst eD
  have hE := Z.2.2.1
  have hlt : ∀ i, i < 2 → i < kn K := fun i h => by rw [ekn]; exact h
  show V K 0 0 _ [(0, .ref A.1), (1, .int a1)] [] 0
  unfold f_X3_wearOf at h
  refine V_aload_n C 0 1 dX3_wearOf_0 rfl rfl ?_
  refine V_get C (v := .ref A.2.1.1) 0 4 fl_X3_10 dX3_wearOf_1 rfl rfl rfl ?_
  refine V_get C (v := .ref A.2.1.2.2.2.2.1) 1 7 fl_X3_93 dX3_wearOf_4 rfl rfl rfl ?_
  refine V_aload_n C 0 8 dX3_wearOf_7 rfl rfl ?_
  refine V_iload_n C 1 9 dX3_wearOf_8 rfl rfl ?_
  obtain ⟨r1, k2, h⟩ := bd_some h
  rcases r1 with r1 | r1
  · have h := bx_l h
    refine V_callXr C hBA hE ml_X3_71 (pre := []) (post := []) (wc := xW g A v) (as := [.int a1]) (rest := [.ref A.2.1.2.2.2.2.1]) (w1 := xW g A r1.2) (rv := (some (.int r1.1))) (c_X3_requireMark (R := .inl r1) hst k2) 0 12 (mgW A r1.2.1 ++ (bkW g A.2.1 r1.2.2.1 ++ (bkW g A.2.2.1 r1.2.2.2.1 ++ (bkW g A.2.2.2.1 r1.2.2.2.2.1 ++ (hsW g A.2.2.2.2.1 A.2.2.2.2.2.2.2 r1.2.2.2.2.2.1 ++ (scW g A.2.2.2.2.2.1 r1.2.2.2.2.2.2.1 ++ (sbW g A.2.2.2.2.2.2.1 r1.2.2.2.2.2.2.2.1 ++ (hbW g A.2.2.2.2.2.2.2 r1.2.2.2.2.2.2.2.2)))))))) dX3_wearOf_9 rfl ⟨Nat.le_of_ble_eq_true rfl, Nat.le_of_ble_eq_true rfl⟩ rfl (List.append_nil _).symm (List.append_nil _) (xW_fst _ _ _ _) rfl rfl rfl (Nat.le_of_ble_eq_true rfl) ⟨Nat.zero_le _, Nat.zero_le _⟩ ?_
    obtain ⟨g3, h⟩ := gd_some h
    refine V_iald C (f := (Bk_wears r1.2.2.1)) (n := 12) 5 13 dX3_wearOf_12 rfl rfl g3 ?_
    obtain rfl := Option.some.inj h
    exact V_xretI C Z (ty := .int) rfl (rfl) rfl dX3_wearOf_13 (Nat.le_refl _) (Nat.le_refl _)
  · have h := bx_r h
    obtain rfl := Option.some.inj h
    refine V_callXt C hBA hE ml_X3_71 (pre := []) (post := []) (wc := xW g A v) (as := [.int a1]) (rest := [.ref A.2.1.2.2.2.2.1]) (w1 := xW g A r1.2) (E := r1.1) (c_X3_requireMark (R := .inr r1) hst k2) 0 (xW g A r1.2) dX3_wearOf_9 ⟨Nat.le_of_ble_eq_true rfl, Nat.le_of_ble_eq_true rfl⟩ rfl (List.append_nil _).symm (List.append_nil _) (xW_fst _ _ _ _) rfl rfl (Nat.le_of_ble_eq_true rfl) ⟨Nat.le_refl _, Nat.le_refl _⟩ ?_
    exact VX_out C Z rfl (Nat.le_refl _) (Nat.le_refl _)
set_option maxHeartbeats 4000000 in
set_option maxRecDepth 100000 in
theorem c_X3_seatOf {l : Launch} {D : va_G} {g : G0} {A : XA} {v : XV} {a1 : Int32} {R : ((Int32 × XV) ⊕ (String × XV))} (hst : l.stackTraces = false) (h : f_X3_seatOf v a1 = some R) : CtX l D g yX3_seatOf cX3_seatOf 3 (some .int) (rmX 7 112 (rxI g A R)) (xW g A v) [.ref A.1, .int a1] (rxI g A R) := by
  refine CtX.of (by decide) (Nat.le_of_ble_eq_true rfl) hst ?_
  intro K C Z hBA el eD ekn
  subst el
  subst eD
  have hE := Z.2.2.1
  have hlt : ∀ i, i < 3 → i < kn K := fun i h => by rw [ekn]; exact h
  show V K 0 0 _ [(0, .ref A.1), (1, .int a1)] [] 0
  unfold f_X3_seatOf at h
  refine V_aload_n C 0 1 dX3_seatOf_0 rfl rfl ?_
  refine V_iload_n C 1 2 dX3_seatOf_1 rfl rfl ?_
  obtain ⟨r1, k2, h⟩ := bd_some h
  rcases r1 with r1 | r1
  · have h := bx_l h
    refine V_callXr C hBA hE ml_X3_71 (pre := []) (post := []) (wc := xW g A v) (as := [.int a1]) (rest := []) (w1 := xW g A r1.2) (rv := (some (.int r1.1))) (c_X3_requireMark (R := .inl r1) hst k2) 0 5 (mgW A r1.2.1 ++ (bkW g A.2.1 r1.2.2.1 ++ (bkW g A.2.2.1 r1.2.2.2.1 ++ (bkW g A.2.2.2.1 r1.2.2.2.2.1 ++ (hsW g A.2.2.2.2.1 A.2.2.2.2.2.2.2 r1.2.2.2.2.2.1 ++ (scW g A.2.2.2.2.2.1 r1.2.2.2.2.2.2.1 ++ (sbW g A.2.2.2.2.2.2.1 r1.2.2.2.2.2.2.2.1 ++ (hbW g A.2.2.2.2.2.2.2 r1.2.2.2.2.2.2.2.2)))))))) dX3_seatOf_2 rfl ⟨Nat.le_of_ble_eq_true rfl, Nat.le_of_ble_eq_true rfl⟩ rfl (List.append_nil _).symm (List.append_nil _) (xW_fst _ _ _ _) rfl rfl rfl (Nat.le_of_ble_eq_true rfl) ⟨Nat.zero_le _, Nat.zero_le _⟩ ?_
    refine V_istore_n C 6 [(2, .int r1.1), (0, .ref A.1), (1, .int a1)] dX3_seatOf_5 rfl (hlt 2 (by decide)) rfl ?_
    refine V_aload_n C 1 7 dX3_seatOf_6 rfl rfl ?_
    refine V_get C (v := .ref A.2.1.1) 0 10 fl_X3_10 dX3_seatOf_7 rfl rfl rfl ?_
    refine V_iload_n C 0 11 dX3_seatOf_10 rfl rfl ?_
    obtain ⟨r3, k4, h⟩ := bd_some h
    refine V_callP C ml_X3_82 (pre := mgW A r1.2.1) (post := bkW g A.2.2.1 r1.2.2.2.1 ++ (bkW g A.2.2.2.1 r1.2.2.2.2.1 ++ (hsW g A.2.2.2.2.1 A.2.2.2.2.2.2.2 r1.2.2.2.2.2.1 ++ (scW g A.2.2.2.2.2.1 r1.2.2.2.2.2.2.1 ++ (sbW g A.2.2.2.2.2.2.1 r1.2.2.2.2.2.2.2.1 ++ (hbW g A.2.2.2.2.2.2.2 r1.2.2.2.2.2.2.2.2)))))) (w := bkW g A.2.1 r1.2.2.1) (as := [.int r1.1]) (rest := []) (c_X0_hasSeat k4) 1 14 dX3_seatOf_11 rfl ⟨Nat.le_of_ble_eq_true rfl, Nat.le_of_ble_eq_true rfl⟩ rfl (by first | (simp only [List.append_assoc, List.nil_append, List.append_nil]; done) | rfl) rfl rfl rfl (Nat.le_of_ble_eq_true rfl) ⟨Nat.zero_le _, Nat.zero_le _⟩ ?_
    refine V_if_ne C 27 17 dX3_seatOf_14 rfl rfl (fun e5 => ?_) (fun e5 => ?_)
    · have h := (if_neg e5).symm.trans h
      refine V_aload_n C 1 28 dX3_seatOf_27 rfl rfl ?_
      refine V_get C (v := .ref A.2.1.1) 0 31 fl_X3_10 dX3_seatOf_28 rfl rfl rfl ?_
      refine V_get C (v := .ref A.2.1.2.2.2.2.2.1) 1 34 fl_X3_103 dX3_seatOf_31 rfl rfl rfl ?_
      refine V_iload_n C 0 35 dX3_seatOf_34 rfl rfl ?_
      obtain ⟨g6, h⟩ := gd_some h
      refine V_iald C (f := (Bk_seats r1.2.2.1)) (n := 12) 6 36 dX3_seatOf_35 rfl rfl g6 ?_
      obtain rfl := Option.some.inj h
      exact V_xretI C Z (ty := .int) rfl (rfl) rfl dX3_seatOf_36 (Nat.le_refl _) (Nat.le_refl _)
    · have h := (if_pos e5).symm.trans h
      obtain rfl := Option.some.inj h
      exact V_nthrow C Z tl_X3_96_100_98 dX3_seatOf_17 dX3_seatOf_20 dX3_seatOf_21 dX3_seatOf_23 dX3_seatOf_26 ⟨Nat.le_of_ble_eq_true rfl, Nat.le_of_ble_eq_true rfl, Nat.le_refl _, Nat.le_refl _⟩ rfl (Nat.le_refl _) (Nat.le_refl _)
  · have h := bx_r h
    obtain rfl := Option.some.inj h
    refine V_callXt C hBA hE ml_X3_71 (pre := []) (post := []) (wc := xW g A v) (as := [.int a1]) (rest := []) (w1 := xW g A r1.2) (E := r1.1) (c_X3_requireMark (R := .inr r1) hst k2) 0 (xW g A r1.2) dX3_seatOf_2 ⟨Nat.le_of_ble_eq_true rfl, Nat.le_of_ble_eq_true rfl⟩ rfl (List.append_nil _).symm (List.append_nil _) (xW_fst _ _ _ _) rfl rfl (Nat.le_of_ble_eq_true rfl) ⟨Nat.le_refl _, Nat.le_refl _⟩ ?_
    exact VX_out C Z rfl (Nat.le_refl _) (Nat.le_refl _)
set_option maxHeartbeats 4000000 in
set_option maxRecDepth 100000 in
theorem c_X3_idOfFound {l : Launch} {D : va_G} {g : G0} {A : XA} {v : XV} {a1 : Int32} {R : ((Int32 × XV) ⊕ (String × XV))} (hst : l.stackTraces = false) (h : f_X3_idOfFound v a1 = some R) : CtX l D g yX3_idOfFound cX3_idOfFound 2 (some .int) (rmX 6 90 (rxI g A R)) (xW g A v) [.ref A.1, .int a1] (rxI g A R) := by
  refine CtX.of (by decide) (Nat.le_of_ble_eq_true rfl) hst ?_
  intro K C Z hBA el eD ekn
  subst el
  subst eD
  have hE := Z.2.2.1
  have hlt : ∀ i, i < 2 → i < kn K := fun i h => by rw [ekn]; exact h
  show V K 0 0 _ [(0, .ref A.1), (1, .int a1)] [] 0
  unfold f_X3_idOfFound at h
  refine V_iload_n C 1 1 dX3_idOfFound_0 rfl rfl ?_
  refine V_iconst C (-1 : Int32) 2 dX3_idOfFound_1 rfl rfl ?_
  refine V_icmp_ne C 16 5 dX3_idOfFound_2 rfl rfl (fun e1 => ?_) (fun e1 => ?_)
  · have h := (if_neg e1).symm.trans h
    refine V_aload_n C 0 17 dX3_idOfFound_16 rfl rfl ?_
    refine V_get C (v := .ref A.2.1.1) 0 20 fl_X3_10 dX3_idOfFound_17 rfl rfl rfl ?_
    refine V_get C (v := .ref A.2.1.2.1) 1 23 fl_X3_359 dX3_idOfFound_20 rfl rfl rfl ?_
    refine V_iload_n C 1 24 dX3_idOfFound_23 rfl rfl ?_
    obtain ⟨g2, h⟩ := gd_some h
    refine V_iald C (f := (Bk_ids v.2.1)) (n := 12) 2 25 dX3_idOfFound_24 rfl rfl g2 ?_
    obtain rfl := Option.some.inj h
    exact V_xretI C Z (ty := .int) rfl (rfl) rfl dX3_idOfFound_25 (Nat.le_refl _) (Nat.le_refl _)
  · have h := (if_pos e1).symm.trans h
    obtain rfl := Option.some.inj h
    exact V_nthrowW C Z tl_X3_96_100_357 dX3_idOfFound_5 dX3_idOfFound_8 dX3_idOfFound_9 dX3_idOfFound_12 dX3_idOfFound_15 ⟨Nat.le_of_ble_eq_true rfl, Nat.le_of_ble_eq_true rfl, Nat.le_refl _, Nat.le_refl _⟩ rfl (Nat.le_refl _) (Nat.le_refl _)
set_option maxHeartbeats 4000000 in
set_option maxRecDepth 100000 in
theorem c_X3_ribbonIn {l : Launch} {D : va_G} {g : G0} {A : XA} {v : XV} {a1 : Int32} {R : ((Int32 × XV) ⊕ (String × XV))} (hst : l.stackTraces = false) (h : f_X3_ribbonIn v a1 = some R) : CtX l D g yX3_ribbonIn cX3_ribbonIn 2 (some .int) (rmX 7 111 (rxI g A R)) (xW g A v) [.ref A.1, .int a1] (rxI g A R) := by
  refine CtX.of (by decide) (Nat.le_of_ble_eq_true rfl) hst ?_
  intro K C Z hBA el eD ekn
  subst el
  subst eD
  have hE := Z.2.2.1
  have hlt : ∀ i, i < 2 → i < kn K := fun i h => by rw [ekn]; exact h
  have B9 : ∀ (x1 : Int32) (v : XV), f_X3_ribbonIn_B9 x1 v = some R → V K 0 0 (mgW A v.1 ++ (bkW g A.2.1 v.2.1 ++ (bkW g A.2.2.1 v.2.2.1 ++ (bkW g A.2.2.2.1 v.2.2.2.1 ++ (hsW g A.2.2.2.2.1 A.2.2.2.2.2.2.2 v.2.2.2.2.1 ++ (scW g A.2.2.2.2.2.1 v.2.2.2.2.2.1 ++ (sbW g A.2.2.2.2.2.2.1 v.2.2.2.2.2.2.1 ++ (hbW g A.2.2.2.2.2.2.2 v.2.2.2.2.2.2.2)))))))) [(0, .ref A.1), (1, .int x1)] [] 9 := by
    intro x1 v h
    rw [f_X3_ribbonIn_B9] at h
    obtain rfl := Option.some.inj h
    exact V_throw C Z tl_X3_106_110_108 dX3_ribbonIn_9 dX3_ribbonIn_12 dX3_ribbonIn_13 dX3_ribbonIn_15 dX3_ribbonIn_18 ⟨Nat.le_of_ble_eq_true rfl, Nat.le_of_ble_eq_true rfl, Nat.le_refl _, Nat.le_refl _⟩ rfl (Nat.le_refl _) (Nat.le_refl _)
  show V K 0 0 _ [(0, .ref A.1), (1, .int a1)] [] 0
  unfold f_X3_ribbonIn at h
  refine V_iload_n C 1 1 dX3_ribbonIn_0 rfl rfl ?_
  refine V_if_lt C 9 4 dX3_ribbonIn_1 rfl rfl (fun e1 => ?_) (fun e1 => ?_)
  · have h := (if_pos e1).symm.trans h
    refine V_lv [0, 1] rfl ?_
    exact B9 _ _ h
  · have h := (if_neg e1).symm.trans h
    refine V_iload_n C 1 5 dX3_ribbonIn_4 rfl rfl ?_
    refine V_iconst C (5 : Int32) 6 dX3_ribbonIn_5 rfl rfl ?_
    refine V_icmp_lt C 19 9 dX3_ribbonIn_6 rfl rfl (fun e2 => ?_) (fun e2 => ?_)
    · have h := (if_pos e2).symm.trans h
      refine V_aload_n C 0 20 dX3_ribbonIn_19 rfl rfl ?_
      refine V_aload_n C 0 21 dX3_ribbonIn_20 rfl rfl ?_
      refine V_get C (v := .ref A.2.1.1) 0 24 fl_X3_10 dX3_ribbonIn_21 rfl rfl rfl ?_
      refine V_iload_n C 1 25 dX3_ribbonIn_24 rfl rfl ?_
      obtain ⟨r3, k4, h⟩ := bd_some h
      refine V_callP C ml_X3_111 (pre := mgW A v.1) (post := bkW g A.2.2.1 v.2.2.1 ++ (bkW g A.2.2.2.1 v.2.2.2.1 ++ (hsW g A.2.2.2.2.1 A.2.2.2.2.2.2.2 v.2.2.2.2.1 ++ (scW g A.2.2.2.2.2.1 v.2.2.2.2.2.1 ++ (sbW g A.2.2.2.2.2.2.1 v.2.2.2.2.2.2.1 ++ (hbW g A.2.2.2.2.2.2.2 v.2.2.2.2.2.2.2)))))) (w := bkW g A.2.1 v.2.1) (as := [.int a1]) (rest := [.ref A.1]) (c_X0_slotInSeat k4) 1 28 dX3_ribbonIn_25 rfl ⟨Nat.le_of_ble_eq_true rfl, Nat.le_of_ble_eq_true rfl⟩ rfl (by first | (simp only [List.append_assoc, List.nil_append, List.append_nil]; done) | rfl) rfl rfl rfl (Nat.le_of_ble_eq_true rfl) ⟨Nat.zero_le _, Nat.zero_le _⟩ ?_
      obtain ⟨r5, k6, h⟩ := bd_some h
      rcases r5 with r5 | r5
      · have h := bx_l h
        refine V_callXr C hBA hE ml_X3_114 (pre := []) (post := []) (wc := xW g A v) (as := [.int r3]) (rest := []) (w1 := xW g A r5.2) (rv := (some (.int r5.1))) (c_X3_idOfFound (R := .inl r5) hst k6) 0 31 (mgW A r5.2.1 ++ (bkW g A.2.1 r5.2.2.1 ++ (bkW g A.2.2.1 r5.2.2.2.1 ++ (bkW g A.2.2.2.1 r5.2.2.2.2.1 ++ (hsW g A.2.2.2.2.1 A.2.2.2.2.2.2.2 r5.2.2.2.2.2.1 ++ (scW g A.2.2.2.2.2.1 r5.2.2.2.2.2.2.1 ++ (sbW g A.2.2.2.2.2.2.1 r5.2.2.2.2.2.2.2.1 ++ (hbW g A.2.2.2.2.2.2.2 r5.2.2.2.2.2.2.2.2)))))))) dX3_ribbonIn_28 rfl ⟨Nat.le_of_ble_eq_true rfl, Nat.le_of_ble_eq_true rfl⟩ rfl (List.append_nil _).symm (List.append_nil _) (xW_fst _ _ _ _) rfl rfl rfl (Nat.le_of_ble_eq_true rfl) ⟨Nat.zero_le _, Nat.zero_le _⟩ ?_
        obtain rfl := Option.some.inj h
        exact V_xretI C Z (ty := .int) rfl (rfl) rfl dX3_ribbonIn_31 (Nat.le_refl _) (Nat.le_refl _)
      · have h := bx_r h
        obtain rfl := Option.some.inj h
        refine V_callXt C hBA hE ml_X3_114 (pre := []) (post := []) (wc := xW g A v) (as := [.int r3]) (rest := []) (w1 := xW g A r5.2) (E := r5.1) (c_X3_idOfFound (R := .inr r5) hst k6) 0 (xW g A r5.2) dX3_ribbonIn_28 ⟨Nat.le_of_ble_eq_true rfl, Nat.le_of_ble_eq_true rfl⟩ rfl (List.append_nil _).symm (List.append_nil _) (xW_fst _ _ _ _) rfl rfl (Nat.le_of_ble_eq_true rfl) ⟨Nat.le_refl _, Nat.le_refl _⟩ ?_
        exact VX_out C Z rfl (Nat.le_refl _) (Nat.le_refl _)
    · have h := (if_neg e2).symm.trans h
      refine V_lv [0, 1] rfl ?_
      exact B9 _ _ h
set_option maxHeartbeats 4000000 in
set_option maxRecDepth 100000 in
theorem c_X3_isHeld {l : Launch} {D : va_G} {g : G0} {A : XA} {v : XV} {a1 : Int32} {R : ((Int32 × XV) ⊕ (String × XV))} (hst : l.stackTraces = false) (h : f_X3_isHeld v a1 = some R) : CtX l D g yX3_isHeld cX3_isHeld 2 (some .boolean) (rmX 7 111 (rxI g A R)) (xW g A v) [.ref A.1, .int a1] (rxI g A R) := by
  refine CtX.of (by decide) (Nat.le_of_ble_eq_true rfl) hst ?_
  intro K C Z hBA el eD ekn
  subst el
  subst eD
  have hE := Z.2.2.1
  have hlt : ∀ i, i < 2 → i < kn K := fun i h => by rw [ekn]; exact h
  have B22 : ∀ (x1 : Int32) (s0 : Int32) (v : XV), f_X3_isHeld_B22 x1 s0 v = some R → V K 0 0 (mgW A v.1 ++ (bkW g A.2.1 v.2.1 ++ (bkW g A.2.2.1 v.2.2.1 ++ (bkW g A.2.2.2.1 v.2.2.2.1 ++ (hsW g A.2.2.2.2.1 A.2.2.2.2.2.2.2 v.2.2.2.2.1 ++ (scW g A.2.2.2.2.2.1 v.2.2.2.2.2.1 ++ (sbW g A.2.2.2.2.2.2.1 v.2.2.2.2.2.2.1 ++ (hbW g A.2.2.2.2.2.2.2 v.2.2.2.2.2.2.2)))))))) [(0, .ref A.1), (1, .int x1)] [.int s0] 22 := by
    intro x1 s0 v h
    rw [f_X3_isHeld_B22] at h
    obtain ⟨g1, h⟩ := gd_some h
    obtain rfl := Option.some.inj h
    exact V_xretI C Z (ty := .boolean) rfl (isz_t g1) rfl dX3_isHeld_22 (Nat.le_refl _) (Nat.le_refl _)
  show V K 0 0 _ [(0, .ref A.1), (1, .int a1)] [] 0
  unfold f_X3_isHeld at h
  refine V_aload_n C 0 1 dX3_isHeld_0 rfl rfl ?_
  refine V_iload_n C 1 2 dX3_isHeld_1 rfl rfl ?_
  obtain ⟨r2, k3, h⟩ := bd_some h
  rcases r2 with r2 | r2
  · have h := bx_l h
    refine V_callXr C hBA hE ml_X3_60 (pre := []) (post := []) (wc := xW g A v) (as := [.int a1]) (rest := []) (w1 := xW g A r2.2) (rv := none) (c_X3_requirePage (R := .inl r2) hst k3) 0 5 (mgW A r2.2.1 ++ (bkW g A.2.1 r2.2.2.1 ++ (bkW g A.2.2.1 r2.2.2.2.1 ++ (bkW g A.2.2.2.1 r2.2.2.2.2.1 ++ (hsW g A.2.2.2.2.1 A.2.2.2.2.2.2.2 r2.2.2.2.2.2.1 ++ (scW g A.2.2.2.2.2.1 r2.2.2.2.2.2.2.1 ++ (sbW g A.2.2.2.2.2.2.1 r2.2.2.2.2.2.2.2.1 ++ (hbW g A.2.2.2.2.2.2.2 r2.2.2.2.2.2.2.2.2)))))))) dX3_isHeld_2 rfl ⟨Nat.le_of_ble_eq_true rfl, Nat.le_of_ble_eq_true rfl⟩ rfl (List.append_nil _).symm (List.append_nil _) (xW_fst _ _ _ _) rfl rfl rfl (Nat.le_of_ble_eq_true rfl) ⟨Nat.zero_le _, Nat.zero_le _⟩ ?_
    refine V_aload_n C 0 6 dX3_isHeld_5 rfl rfl ?_
    refine V_get C (v := .ref A.2.1.1) 0 9 fl_X3_10 dX3_isHeld_6 rfl rfl rfl ?_
    refine V_iload_n C 1 10 dX3_isHeld_9 rfl rfl ?_
    obtain ⟨r4, k5, h⟩ := bd_some h
    refine V_callP C ml_X3_117 (pre := mgW A r2.2.1) (post := bkW g A.2.2.1 r2.2.2.2.1 ++ (bkW g A.2.2.2.1 r2.2.2.2.2.1 ++ (hsW g A.2.2.2.2.1 A.2.2.2.2.2.2.2 r2.2.2.2.2.2.1 ++ (scW g A.2.2.2.2.2.1 r2.2.2.2.2.2.2.1 ++ (sbW g A.2.2.2.2.2.2.1 r2.2.2.2.2.2.2.2.1 ++ (hbW g A.2.2.2.2.2.2.2 r2.2.2.2.2.2.2.2.2)))))) (w := bkW g A.2.1 r2.2.2.1) (as := [.int a1]) (rest := []) (c_X0_slotOnPage k5) 1 13 dX3_isHeld_10 rfl ⟨Nat.le_of_ble_eq_true rfl, Nat.le_of_ble_eq_true rfl⟩ rfl (by first | (simp only [List.append_assoc, List.nil_append, List.append_nil]; done) | rfl) rfl rfl rfl (Nat.le_of_ble_eq_true rfl) ⟨Nat.zero_le _, Nat.zero_le _⟩ ?_
    refine V_iconst C (-1 : Int32) 14 dX3_isHeld_13 rfl rfl ?_
    refine V_icmp_eq C 21 17 dX3_isHeld_14 rfl rfl (fun e6 => ?_) (fun e6 => ?_)
    · have h := (if_pos e6).symm.trans h
      refine V_iconst C (0 : Int32) 22 dX3_isHeld_21 rfl rfl ?_
      refine V_lv [0, 1] rfl ?_
      exact B22 _ _ _ h
    · have h := (if_neg e6).symm.trans h
      refine V_iconst C (1 : Int32) 18 dX3_isHeld_17 rfl rfl ?_
      refine V_goto C 22 dX3_isHeld_18 rfl ?_
      refine V_lv [0, 1] rfl ?_
      exact B22 _ _ _ h
  · have h := bx_r h
    obtain rfl := Option.some.inj h
    refine V_callXt C hBA hE ml_X3_60 (pre := []) (post := []) (wc := xW g A v) (as := [.int a1]) (rest := []) (w1 := xW g A r2.2) (E := r2.1) (c_X3_requirePage (R := .inr r2) hst k3) 0 (xW g A r2.2) dX3_isHeld_2 ⟨Nat.le_of_ble_eq_true rfl, Nat.le_of_ble_eq_true rfl⟩ rfl (List.append_nil _).symm (List.append_nil _) (xW_fst _ _ _ _) rfl rfl (Nat.le_of_ble_eq_true rfl) ⟨Nat.le_refl _, Nat.le_refl _⟩ ?_
    exact VX_out C Z rfl (Nat.le_refl _) (Nat.le_refl _)
