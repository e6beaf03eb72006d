set_option maxHeartbeats 4000000 in
set_option maxRecDepth 100000 in
theorem c_X3_markByWeight {l : Launch} {D : va_G} {g : G0} {A : XA} {v : XV} {a1 : Int32} {R : ((Int32 × XV) ⊕ (String × XV))} (hst : l.stackTraces = false) (h : f_X3_markByWeight v a1 = some R) : CtX l D g yX3_markByWeight cX3_markByWeight 2 (some .int) (rmX 7 111 (rxI g A R)) (xW g A v) [.ref A.1, .int a1] (rxI g A R) := by
  refine CtX.of (by decide) (Nat.le_of_ble_eq_true rfl) hst ?_
  intro K C Z hBA el eD ekn
  subst el
  subst eD
  have hE := Z.2.2.1
  have hlt : ∀ i, i < 2 → i < kn K := fun i h => by rw [ekn]; exact h
  show V K 0 0 _ [(0, .ref A.1), (1, .int a1)] [] 0
  unfold f_X3_markByWeight at h
  refine V_aload_n C 0 1 dX3_markByWeight_0 rfl rfl ?_
  refine V_aload_n C 0 2 dX3_markByWeight_1 rfl rfl ?_
  refine V_get C (v := .ref A.2.1.1) 0 5 fl_X3_10 dX3_markByWeight_2 rfl rfl rfl ?_
  refine V_iload_n C 1 6 dX3_markByWeight_5 rfl rfl ?_
  obtain ⟨r1, k2, h⟩ := bd_some h
  refine V_callP C ml_X3_181 (pre := mgW A v.1) (post := bkW g A.2.2.1 v.2.2.1 ++ (bkW g A.2.2.2.1 v.2.2.2.1 ++ (hsW g A.2.2.2.2.1 A.2.2.2.2.2.2.2 v.2.2.2.2.1 ++ (scW g A.2.2.2.2.2.1 v.2.2.2.2.2.1 ++ (sbW g A.2.2.2.2.2.2.1 v.2.2.2.2.2.2.1 ++ (hbW g A.2.2.2.2.2.2.2 v.2.2.2.2.2.2.2)))))) (w := bkW g A.2.1 v.2.1) (as := [.int a1]) (rest := [.ref A.1]) (c_X0_slotOfRank k2) 1 9 dX3_markByWeight_6 rfl ⟨Nat.le_of_ble_eq_true rfl, Nat.le_of_ble_eq_true rfl⟩ rfl (by first | (simp only [List.append_assoc, List.nil_append, List.append_nil]; done) | rfl) rfl rfl rfl (Nat.le_of_ble_eq_true rfl) ⟨Nat.zero_le _, Nat.zero_le _⟩ ?_
  obtain ⟨r3, k4, h⟩ := bd_some h
  rcases r3 with r3 | r3
  · have h := bx_l h
    refine V_callXr C hBA hE ml_X3_114 (pre := []) (post := []) (wc := xW g A v) (as := [.int r1]) (rest := []) (w1 := xW g A r3.2) (rv := (some (.int r3.1))) (c_X3_idOfFound (R := .inl r3) hst k4) 0 12 (mgW A r3.2.1 ++ (bkW g A.2.1 r3.2.2.1 ++ (bkW g A.2.2.1 r3.2.2.2.1 ++ (bkW g A.2.2.2.1 r3.2.2.2.2.1 ++ (hsW g A.2.2.2.2.1 A.2.2.2.2.2.2.2 r3.2.2.2.2.2.1 ++ (scW g A.2.2.2.2.2.1 r3.2.2.2.2.2.2.1 ++ (sbW g A.2.2.2.2.2.2.1 r3.2.2.2.2.2.2.2.1 ++ (hbW g A.2.2.2.2.2.2.2 r3.2.2.2.2.2.2.2.2)))))))) dX3_markByWeight_9 rfl ⟨Nat.le_of_ble_eq_true rfl, Nat.le_of_ble_eq_true rfl⟩ rfl (List.append_nil _).symm (List.append_nil _) (xW_fst _ _ _ _) rfl rfl rfl (Nat.le_of_ble_eq_true rfl) ⟨Nat.zero_le _, Nat.zero_le _⟩ ?_
    obtain rfl := Option.some.inj h
    exact V_xretI C Z (ty := .int) rfl (rfl) rfl dX3_markByWeight_12 (Nat.le_refl _) (Nat.le_refl _)
  · have h := bx_r h
    obtain rfl := Option.some.inj h
    refine V_callXt C hBA hE ml_X3_114 (pre := []) (post := []) (wc := xW g A v) (as := [.int r1]) (rest := []) (w1 := xW g A r3.2) (E := r3.1) (c_X3_idOfFound (R := .inr r3) hst k4) 0 (xW g A r3.2) dX3_markByWeight_9 ⟨Nat.le_of_ble_eq_true rfl, Nat.le_of_ble_eq_true rfl⟩ rfl (List.append_nil _).symm (List.append_nil _) (xW_fst _ _ _ _) rfl rfl (Nat.le_of_ble_eq_true rfl) ⟨Nat.le_refl _, Nat.le_refl _⟩ ?_
    exact VX_out C Z rfl (Nat.le_refl _) (Nat.le_refl _)
set_option maxHeartbeats 4000000 in
set_option maxRecDepth 100000 in
theorem c_X3_span {l : Launch} {D : va_G} {g : G0} {A : XA} {v : XV} {R : Int32} (h : f_X3_span v  = some R) : CtP l D g yX3_span cX3_span 1 (some .int) (rmF 1 22) (mgW A v.1 ++ (bkW g A.2.1 v.2.1 ++ (bkW g A.2.2.1 v.2.2.1 ++ (bkW g A.2.2.2.1 v.2.2.2.1 ++ (hsW g A.2.2.2.2.1 A.2.2.2.2.2.2.2 v.2.2.2.2.1 ++ (scW g A.2.2.2.2.2.1 v.2.2.2.2.2.1 ++ (sbW g A.2.2.2.2.2.2.1 v.2.2.2.2.2.2.1 ++ (hbW g A.2.2.2.2.2.2.2 v.2.2.2.2.2.2.2)))))))) [.ref A.1] (some (.int R)) := by
  refine CtP.of (by decide) rfl rfl (Nat.le_of_ble_eq_true rfl) ?_
  intro K C el eD ekn retI
  subst el
  subst eD
  have hlt : ∀ i, i < 1 → i < kn K := fun i h => by rw [ekn]; exact h
  show V K 0 0 _ [(0, .ref A.1)] [] 0
  unfold f_X3_span at h
  refine V_aload_n C 0 1 dX3_span_0 rfl rfl ?_
  refine V_get C (v := .ref A.2.1.1) 0 4 fl_X3_10 dX3_span_1 rfl rfl rfl ?_
  obtain ⟨r1, k2, h⟩ := bd_some h
  refine V_callP C ml_X3_184 (pre := mgW A v.1) (post := bkW g A.2.2.1 v.2.2.1 ++ (bkW g A.2.2.2.1 v.2.2.2.1 ++ (hsW g A.2.2.2.2.1 A.2.2.2.2.2.2.2 v.2.2.2.2.1 ++ (scW g A.2.2.2.2.2.1 v.2.2.2.2.2.1 ++ (sbW g A.2.2.2.2.2.2.1 v.2.2.2.2.2.2.1 ++ (hbW g A.2.2.2.2.2.2.2 v.2.2.2.2.2.2.2)))))) (w := bkW g A.2.1 v.2.1) (as := []) (rest := []) (c_X0_spanStepByStep k2) 1 7 dX3_span_4 rfl ⟨Nat.le_of_ble_eq_true rfl, Nat.le_of_ble_eq_true rfl⟩ rfl (by first | (simp only [List.append_assoc, List.nil_append, List.append_nil]; done) | rfl) rfl rfl rfl (Nat.le_of_ble_eq_true rfl) ⟨Nat.zero_le _, Nat.zero_le _⟩ ?_
  obtain rfl := Option.some.inj h
  exact retI _ _ _ .int rfl (rfl) rfl dX3_span_7
set_option maxHeartbeats 4000000 in
set_option maxRecDepth 100000 in
theorem c_X3_spanByEnds {l : Launch} {D : va_G} {g : G0} {A : XA} {v : XV} {R : Int32} (h : f_X3_spanByEnds v  = some R) : CtP l D g yX3_spanByEnds cX3_spanByEnds 1 (some .int) (rmF 1 20) (mgW A v.1 ++ (bkW g A.2.1 v.2.1 ++ (bkW g A.2.2.1 v.2.2.1 ++ (bkW g A.2.2.2.1 v.2.2.2.1 ++ (hsW g A.2.2.2.2.1 A.2.2.2.2.2.2.2 v.2.2.2.2.1 ++ (scW g A.2.2.2.2.2.1 v.2.2.2.2.2.1 ++ (sbW g A.2.2.2.2.2.2.1 v.2.2.2.2.2.2.1 ++ (hbW g A.2.2.2.2.2.2.2 v.2.2.2.2.2.2.2)))))))) [.ref A.1] (some (.int R)) := by
  refine CtP.of (by decide) rfl rfl (Nat.le_of_ble_eq_true rfl) ?_
  intro K C el eD ekn retI
  subst el
  subst eD
  have hlt : ∀ i, i < 1 → i < kn K := fun i h => by rw [ekn]; exact h
  show V K 0 0 _ [(0, .ref A.1)] [] 0
  unfold f_X3_spanByEnds at h
  refine V_aload_n C 0 1 dX3_spanByEnds_0 rfl rfl ?_
  refine V_get C (v := .ref A.2.1.1) 0 4 fl_X3_10 dX3_spanByEnds_1 rfl rfl rfl ?_
  obtain ⟨r1, k2, h⟩ := bd_some h
  refine V_callP C ml_X3_187 (pre := mgW A v.1) (post := bkW g A.2.2.1 v.2.2.1 ++ (bkW g A.2.2.2.1 v.2.2.2.1 ++ (hsW g A.2.2.2.2.1 A.2.2.2.2.2.2.2 v.2.2.2.2.1 ++ (scW g A.2.2.2.2.2.1 v.2.2.2.2.2.1 ++ (sbW g A.2.2.2.2.2.2.1 v.2.2.2.2.2.2.1 ++ (hbW g A.2.2.2.2.2.2.2 v.2.2.2.2.2.2.2)))))) (w := bkW g A.2.1 v.2.1) (as := []) (rest := []) (c_X0_spanEndToEnd k2) 1 7 dX3_spanByEnds_4 rfl ⟨Nat.le_of_ble_eq_true rfl, Nat.le_of_ble_eq_true rfl⟩ rfl (by first | (simp only [List.append_assoc, List.nil_append, List.append_nil]; done) | rfl) rfl rfl rfl (Nat.le_of_ble_eq_true rfl) ⟨Nat.zero_le _, Nat.zero_le _⟩ ?_
  obtain rfl := Option.some.inj h
  exact retI _ _ _ .int rfl (rfl) rfl dX3_spanByEnds_7
set_option maxHeartbeats 4000000 in
set_option maxRecDepth 100000 in
theorem c_X3_ribbonWeight {l : Launch} {D : va_G} {g : G0} {A : XA} {v : XV} {R : Int32} (h : f_X3_ribbonWeight v  = some R) : CtP l D g yX3_ribbonWeight cX3_ribbonWeight 1 (some .int) (rmF 2 44) (mgW A v.1 ++ (bkW g A.2.1 v.2.1 ++ (bkW g A.2.2.1 v.2.2.1 ++ (bkW g A.2.2.2.1 v.2.2.2.1 ++ (hsW g A.2.2.2.2.1 A.2.2.2.2.2.2.2 v.2.2.2.2.1 ++ (scW g A.2.2.2.2.2.1 v.2.2.2.2.2.1 ++ (sbW g A.2.2.2.2.2.2.1 v.2.2.2.2.2.2.1 ++ (hbW g A.2.2.2.2.2.2.2 v.2.2.2.2.2.2.2)))))))) [.ref A.1] (some (.int R)) := by
  refine CtP.of (by decide) rfl rfl (Nat.le_of_ble_eq_true rfl) ?_
  intro K C el eD ekn retI
  subst el
  subst eD
  have hlt : ∀ i, i < 1 → i < kn K := fun i h => by rw [ekn]; exact h
  show V K 0 0 _ [(0, .ref A.1)] [] 0
  unfold f_X3_ribbonWeight at h
  refine V_aload_n C 0 1 dX3_ribbonWeight_0 rfl rfl ?_
  refine V_get C (v := .ref A.2.1.1) 0 4 fl_X3_10 dX3_ribbonWeight_1 rfl rfl rfl ?_
  refine V_iconst C (1 : Int32) 5 dX3_ribbonWeight_4 rfl rfl ?_
  obtain ⟨r1, k2, h⟩ := bd_some h
  refine V_callP C ml_X3_190 (pre := mgW A v.1) (post := bkW g A.2.2.1 v.2.2.1 ++ (bkW g A.2.2.2.1 v.2.2.2.1 ++ (hsW g A.2.2.2.2.1 A.2.2.2.2.2.2.2 v.2.2.2.2.1 ++ (scW g A.2.2.2.2.2.1 v.2.2.2.2.2.1 ++ (sbW g A.2.2.2.2.2.2.1 v.2.2.2.2.2.2.1 ++ (hbW g A.2.2.2.2.2.2.2 v.2.2.2.2.2.2.2)))))) (w := bkW g A.2.1 v.2.1) (as := [.int (1 : Int32)]) (rest := []) (c_X0_weightOfKind k2) 1 8 dX3_ribbonWeight_5 rfl ⟨Nat.le_of_ble_eq_true rfl, Nat.le_of_ble_eq_true rfl⟩ rfl (by first | (simp only [List.append_assoc, List.nil_append, List.append_nil]; done) | rfl) rfl rfl rfl (Nat.le_of_ble_eq_true rfl) ⟨Nat.zero_le _, Nat.zero_le _⟩ ?_
  obtain rfl := Option.some.inj h
  exact retI _ _ _ .int rfl (rfl) rfl dX3_ribbonWeight_8
set_option maxHeartbeats 4000000 in
set_option maxRecDepth 100000 in
theorem c_X3_dogEarWeight {l : Launch} {D : va_G} {g : G0} {A : XA} {v : XV} {R : Int32} (h : f_X3_dogEarWeight v  = some R) : CtP l D g yX3_dogEarWeight cX3_dogEarWeight 1 (some .int) (rmF 2 44) (mgW A v.1 ++ (bkW g A.2.1 v.2.1 ++ (bkW g A.2.2.1 v.2.2.1 ++ (bkW g A.2.2.2.1 v.2.2.2.1 ++ (hsW g A.2.2.2.2.1 A.2.2.2.2.2.2.2 v.2.2.2.2.1 ++ (scW g A.2.2.2.2.2.1 v.2.2.2.2.2.1 ++ (sbW g A.2.2.2.2.2.2.1 v.2.2.2.2.2.2.1 ++ (hbW g A.2.2.2.2.2.2.2 v.2.2.2.2.2.2.2)))))))) [.ref A.1] (some (.int R)) := by
  refine CtP.of (by decide) rfl rfl (Nat.le_of_ble_eq_true rfl) ?_
  intro K C el eD ekn retI
  subst el
  subst eD
  have hlt : ∀ i, i < 1 → i < kn K := fun i h => by rw [ekn]; exact h
  show V K 0 0 _ [(0, .ref A.1)] [] 0
  unfold f_X3_dogEarWeight at h
  refine V_aload_n C 0 1 dX3_dogEarWeight_0 rfl rfl ?_
  refine V_get C (v := .ref A.2.1.1) 0 4 fl_X3_10 dX3_dogEarWeight_1 rfl rfl rfl ?_
  refine V_iconst C (0 : Int32) 5 dX3_dogEarWeight_4 rfl rfl ?_
  obtain ⟨r1, k2, h⟩ := bd_some h
  refine V_callP C ml_X3_190 (pre := mgW A v.1) (post := bkW g A.2.2.1 v.2.2.1 ++ (bkW g A.2.2.2.1 v.2.2.2.1 ++ (hsW g A.2.2.2.2.1 A.2.2.2.2.2.2.2 v.2.2.2.2.1 ++ (scW g A.2.2.2.2.2.1 v.2.2.2.2.2.1 ++ (sbW g A.2.2.2.2.2.2.1 v.2.2.2.2.2.2.1 ++ (hbW g A.2.2.2.2.2.2.2 v.2.2.2.2.2.2.2)))))) (w := bkW g A.2.1 v.2.1) (as := [.int (0 : Int32)]) (rest := []) (c_X0_weightOfKind k2) 1 8 dX3_dogEarWeight_5 rfl ⟨Nat.le_of_ble_eq_true rfl, Nat.le_of_ble_eq_true rfl⟩ rfl (by first | (simp only [List.append_assoc, List.nil_append, List.append_nil]; done) | rfl) rfl rfl rfl (Nat.le_of_ble_eq_true rfl) ⟨Nat.zero_le _, Nat.zero_le _⟩ ?_
  obtain rfl := Option.some.inj h
  exact retI _ _ _ .int rfl (rfl) rfl dX3_dogEarWeight_8
set_option maxHeartbeats 4000000 in
set_option maxRecDepth 100000 in
theorem c_X3_markCount {l : Launch} {D : va_G} {g : G0} {A : XA} {v : XV} {R : Int32} (h : f_X3_markCount v  = some R) : CtP l D g yX3_markCount cX3_markCount 1 (some .int) (rmF 0 0) (mgW A v.1 ++ (bkW g A.2.1 v.2.1 ++ (bkW g A.2.2.1 v.2.2.1 ++ (bkW g A.2.2.2.1 v.2.2.2.1 ++ (hsW g A.2.2.2.2.1 A.2.2.2.2.2.2.2 v.2.2.2.2.1 ++ (scW g A.2.2.2.2.2.1 v.2.2.2.2.2.1 ++ (sbW g A.2.2.2.2.2.2.1 v.2.2.2.2.2.2.1 ++ (hbW g A.2.2.2.2.2.2.2 v.2.2.2.2.2.2.2)))))))) [.ref A.1] (some (.int R)) := by
  refine CtP.of (by decide) rfl rfl (Nat.le_of_ble_eq_true rfl) ?_
  intro K C el eD ekn retI
  subst el
  subst eD
  have hlt : ∀ i, i < 1 → i < kn K := fun i h => by rw [ekn]; exact h
  show V K 0 0 _ [(0, .ref A.1)] [] 0
  unfold f_X3_markCount at h
  refine V_aload_n C 0 1 dX3_markCount_0 rfl rfl ?_
  refine V_get C (v := .ref A.2.1.1) 0 4 fl_X3_10 dX3_markCount_1 rfl rfl rfl ?_
  refine V_get C (v := .int (Bk_marks v.2.1)) 1 7 fl_X3_178 dX3_markCount_4 rfl rfl rfl ?_
  obtain rfl := Option.some.inj h
  exact retI _ _ _ .int rfl (rfl) rfl dX3_markCount_7
