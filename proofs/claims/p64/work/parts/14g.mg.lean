set_option maxHeartbeats 4000000 in
set_option maxRecDepth 100000 in
theorem c_X3_requireCount {l : Launch} {D : va_G} {g : G0} {A : XA} {v : XV} {a1 : Int32} {R : ((Int32 × XV) ⊕ (String × XV))} (hst : l.stackTraces = false) (h : f_X3_requireCount v a1 = some R) : CtX l D g yX3_requireCount cX3_requireCount 2 none (rmX 6 90 (rxV g A R)) (xW g A v) [.ref A.1, .int a1] (rxV g A R) := by
  refine CtX.of (by decide) (Nat.le_of_ble_eq_true rfl) hst ?_
  intro K C Z hBA el eD ekn
  subst el
  subst eD
  have hE := Z.2.2.1
  have hlt : ∀ i, i < 2 → i < kn K := fun i h => by rw [ekn]; exact h
  show V K 0 0 _ [(0, .ref A.1), (1, .int a1)] [] 0
  unfold f_X3_requireCount at h
  refine V_aload_n C 0 1 dX3_requireCount_0 rfl rfl ?_
  refine V_get C (v := .ref A.2.1.1) 0 4 fl_X3_10 dX3_requireCount_1 rfl rfl rfl ?_
  refine V_iload_n C 1 5 dX3_requireCount_4 rfl rfl ?_
  obtain ⟨r1, k2, h⟩ := bd_some h
  refine V_callP C ml_X3_340 (pre := mgW A v.1) (post := bkW g A.2.2.1 v.2.2.1 ++ (bkW g A.2.2.2.1 v.2.2.2.1 ++ (hsW g A.2.2.2.2.1 A.2.2.2.2.2.2.2 v.2.2.2.2.1 ++ (scW g A.2.2.2.2.2.1 v.2.2.2.2.2.1 ++ (sbW g A.2.2.2.2.2.2.1 v.2.2.2.2.2.2.1 ++ (hbW g A.2.2.2.2.2.2.2 v.2.2.2.2.2.2.2)))))) (w := bkW g A.2.1 v.2.1) (as := [.int a1]) (rest := []) (c_X0_takesCount k2) 1 8 dX3_requireCount_5 rfl ⟨Nat.le_of_ble_eq_true rfl, Nat.le_of_ble_eq_true rfl⟩ rfl (by first | (simp only [List.append_assoc, List.nil_append, List.append_nil]; done) | rfl) rfl rfl rfl (Nat.le_of_ble_eq_true rfl) ⟨Nat.zero_le _, Nat.zero_le _⟩ ?_
  refine V_if_ne C 22 11 dX3_requireCount_8 rfl rfl (fun e3 => ?_) (fun e3 => ?_)
  · have h := (if_neg e3).symm.trans h
    obtain rfl := Option.some.inj h
    exact V_xretV C Z rfl rfl dX3_requireCount_22 (Nat.le_refl _) (Nat.le_refl _)
  · have h := (if_pos e3).symm.trans h
    obtain rfl := Option.some.inj h
    exact V_throwW C Z tl_X3_256_260_343 dX3_requireCount_11 dX3_requireCount_14 dX3_requireCount_15 dX3_requireCount_18 dX3_requireCount_21 ⟨Nat.le_of_ble_eq_true rfl, Nat.le_of_ble_eq_true rfl, Nat.le_refl _, Nat.le_refl _⟩ rfl (Nat.le_refl _) (Nat.le_refl _)
set_option maxHeartbeats 4000000 in
set_option maxRecDepth 100000 in
theorem c_X3_turnPages {l : Launch} {D : va_G} {g : G0} {A : XA} {v : XV} {a1 a2 : Int32} {R : ((Int32 × XV) ⊕ (String × XV))} (hst : l.stackTraces = false) (h : f_X3_turnPages v a1 a2 = some R) : CtX l D g yX3_turnPages cX3_turnPages 3 (some .int) (rmX 7 140 (rxI g A R)) (xW g A v) [.ref A.1, .int a1, .int a2] (rxI g A R) := by
  refine CtX.of (by decide) (Nat.le_of_ble_eq_true rfl) hst ?_
  intro K C Z hBA el eD ekn
  subst el
  subst eD
  have hE := Z.2.2.1
  have hlt : ∀ i, i < 3 → i < kn K := fun i h => by rw [ekn]; exact h
  have B17 : ∀ (x1 : Int32) (x2 : Int32) (s0 : Int32) (v : XV), f_X3_turnPages_B17 x1 x2 s0 v = some R → V K 0 0 (mgW A v.1 ++ (bkW g A.2.1 v.2.1 ++ (bkW g A.2.2.1 v.2.2.1 ++ (bkW g A.2.2.2.1 v.2.2.2.1 ++ (hsW g A.2.2.2.2.1 A.2.2.2.2.2.2.2 v.2.2.2.2.1 ++ (scW g A.2.2.2.2.2.1 v.2.2.2.2.2.1 ++ (sbW g A.2.2.2.2.2.2.1 v.2.2.2.2.2.2.1 ++ (hbW g A.2.2.2.2.2.2.2 v.2.2.2.2.2.2.2)))))))) [(0, .ref A.1), (1, .int x1), (2, .int x2)] [.int s0, .ref A.1] 17 := by
    intro x1 x2 s0 v h
    rw [f_X3_turnPages_B17] at h
    refine V_iload_n C 1 18 dX3_turnPages_17 rfl rfl ?_
    refine V_iconst C (0 : Int32) 19 dX3_turnPages_18 rfl rfl ?_
    obtain ⟨r1, k2, h⟩ := bd_some h
    rcases r1 with r1 | r1
    · have h := bx_l h
      refine V_callXr C hBA hE ml_X3_67 (pre := []) (post := []) (wc := xW g A v) (as := [.int s0, .int x1, .int (0 : Int32)]) (rest := []) (w1 := xW g A r1.2) (rv := (some (.int r1.1))) (c_X3_changeUnlessRejected (R := .inl r1) hst k2) 0 22 (mgW A r1.2.1 ++ (bkW g A.2.1 r1.2.2.1 ++ (bkW g A.2.2.1 r1.2.2.2.1 ++ (bkW g A.2.2.2.1 r1.2.2.2.2.1 ++ (hsW g A.2.2.2.2.1 A.2.2.2.2.2.2.2 r1.2.2.2.2.2.1 ++ (scW g A.2.2.2.2.2.1 r1.2.2.2.2.2.2.1 ++ (sbW g A.2.2.2.2.2.2.1 r1.2.2.2.2.2.2.2.1 ++ (hbW g A.2.2.2.2.2.2.2 r1.2.2.2.2.2.2.2.2)))))))) dX3_turnPages_19 rfl ⟨Nat.le_of_ble_eq_true rfl, Nat.le_of_ble_eq_true rfl⟩ rfl (List.append_nil _).symm (List.append_nil _) (xW_fst _ _ _ _) rfl rfl rfl (Nat.le_of_ble_eq_true rfl) ⟨Nat.zero_le _, Nat.zero_le _⟩ ?_
      obtain rfl := Option.some.inj h
      exact V_xretI C Z (ty := .int) rfl (rfl) rfl dX3_turnPages_22 (Nat.le_refl _) (Nat.le_refl _)
    · have h := bx_r h
      obtain rfl := Option.some.inj h
      refine V_callXt C hBA hE ml_X3_67 (pre := []) (post := []) (wc := xW g A v) (as := [.int s0, .int x1, .int (0 : Int32)]) (rest := []) (w1 := xW g A r1.2) (E := r1.1) (c_X3_changeUnlessRejected (R := .inr r1) hst k2) 0 (xW g A r1.2) dX3_turnPages_19 ⟨Nat.le_of_ble_eq_true rfl, Nat.le_of_ble_eq_true rfl⟩ rfl (List.append_nil _).symm (List.append_nil _) (xW_fst _ _ _ _) rfl rfl (Nat.le_of_ble_eq_true rfl) ⟨Nat.le_refl _, Nat.le_refl _⟩ ?_
      exact VX_out C Z rfl (Nat.le_refl _) (Nat.le_refl _)
  show V K 0 0 _ [(0, .ref A.1), (1, .int a1), (2, .int a2)] [] 0
  unfold f_X3_turnPages at h
  refine V_aload_n C 0 1 dX3_turnPages_0 rfl rfl ?_
  refine V_iload_n C 1 2 dX3_turnPages_1 rfl rfl ?_
  obtain ⟨r3, k4, h⟩ := bd_some h
  rcases r3 with r3 | r3
  · have h := bx_l h
    refine V_callXr C hBA hE ml_X3_166 (pre := []) (post := []) (wc := xW g A v) (as := [.int a1]) (rest := []) (w1 := xW g A r3.2) (rv := none) (c_X3_requireCount (R := .inl r3) hst k4) 0 5 (mgW A r3.2.1 ++ (bkW g A.2.1 r3.2.2.1 ++ (bkW g A.2.2.1 r3.2.2.2.1 ++ (bkW g A.2.2.2.1 r3.2.2.2.2.1 ++ (hsW g A.2.2.2.2.1 A.2.2.2.2.2.2.2 r3.2.2.2.2.2.1 ++ (scW g A.2.2.2.2.2.1 r3.2.2.2.2.2.2.1 ++ (sbW g A.2.2.2.2.2.2.1 r3.2.2.2.2.2.2.2.1 ++ (hbW g A.2.2.2.2.2.2.2 r3.2.2.2.2.2.2.2.2)))))))) dX3_turnPages_2 rfl ⟨Nat.le_of_ble_eq_true rfl, Nat.le_of_ble_eq_true rfl⟩ rfl (List.append_nil _).symm (List.append_nil _) (xW_fst _ _ _ _) rfl rfl rfl (Nat.le_of_ble_eq_true rfl) ⟨Nat.zero_le _, Nat.zero_le _⟩ ?_
    refine V_aload_n C 0 6 dX3_turnPages_5 rfl rfl ?_
    refine V_iload_n C 2 7 dX3_turnPages_6 rfl rfl ?_
    refine V_if_eq C 15 10 dX3_turnPages_7 rfl rfl (fun e5 => ?_) (fun e5 => ?_)
    · have h := (if_pos e5).symm.trans h
      refine V_bipush C (66 : Int32) 17 dX3_turnPages_15 rfl rfl ?_
      refine V_lv [0, 1, 2] rfl ?_
      exact B17 _ _ _ _ h
    · have h := (if_neg e5).symm.trans h
      refine V_bipush C (84 : Int32) 12 dX3_turnPages_10 rfl rfl ?_
      refine V_goto C 17 dX3_turnPages_12 rfl ?_
      refine V_lv [0, 1, 2] rfl ?_
      exact B17 _ _ _ _ h
  · have h := bx_r h
    obtain rfl := Option.some.inj h
    refine V_callXt C hBA hE ml_X3_166 (pre := []) (post := []) (wc := xW g A v) (as := [.int a1]) (rest := []) (w1 := xW g A r3.2) (E := r3.1) (c_X3_requireCount (R := .inr r3) hst k4) 0 (xW g A r3.2) dX3_turnPages_2 ⟨Nat.le_of_ble_eq_true rfl, Nat.le_of_ble_eq_true rfl⟩ rfl (List.append_nil _).symm (List.append_nil _) (xW_fst _ _ _ _) rfl rfl (Nat.le_of_ble_eq_true rfl) ⟨Nat.le_refl _, Nat.le_refl _⟩ ?_
    exact VX_out C Z rfl (Nat.le_refl _) (Nat.le_refl _)
set_option maxHeartbeats 4000000 in
set_option maxRecDepth 100000 in
theorem c_X3_currentPage {l : Launch} {D : va_G} {g : G0} {A : XA} {v : XV} {R : Int32} (h : f_X3_currentPage v  = some R) : CtP l D g yX3_currentPage cX3_currentPage 1 (some .int) (rmF 0 0) (mgW A v.1 ++ (bkW g A.2.1 v.2.1 ++ (bkW g A.2.2.1 v.2.2.1 ++ (bkW g A.2.2.2.1 v.2.2.2.1 ++ (hsW g A.2.2.2.2.1 A.2.2.2.2.2.2.2 v.2.2.2.2.1 ++ (scW g A.2.2.2.2.2.1 v.2.2.2.2.2.1 ++ (sbW g A.2.2.2.2.2.2.1 v.2.2.2.2.2.2.1 ++ (hbW g A.2.2.2.2.2.2.2 v.2.2.2.2.2.2.2)))))))) [.ref A.1] (some (.int R)) := by
  refine CtP.of (by decide) rfl rfl (Nat.le_of_ble_eq_true rfl) ?_
  intro K C el eD ekn retI
  subst el
  subst eD
  have hlt : ∀ i, i < 1 → i < kn K := fun i h => by rw [ekn]; exact h
  show V K 0 0 _ [(0, .ref A.1)] [] 0
  unfold f_X3_currentPage at h
  refine V_aload_n C 0 1 dX3_currentPage_0 rfl rfl ?_
  refine V_get C (v := .ref A.2.1.1) 0 4 fl_X3_10 dX3_currentPage_1 rfl rfl rfl ?_
  refine V_get C (v := .int (Bk_reader v.2.1)) 1 7 fl_X3_169 dX3_currentPage_4 rfl rfl rfl ?_
  obtain rfl := Option.some.inj h
  exact retI _ _ _ .int rfl (rfl) rfl dX3_currentPage_7
set_option maxHeartbeats 4000000 in
set_option maxRecDepth 100000 in
theorem c_X3_pagesToNextMark {l : Launch} {D : va_G} {g : G0} {A : XA} {v : XV} {R : ((Int32 × XV) ⊕ (String × XV))} (hst : l.stackTraces = false) (h : f_X3_pagesToNextMark v  = some R) : CtX l D g yX3_pagesToNextMark cX3_pagesToNextMark 2 (some .int) (rmX 6 90 (rxI g A R)) (xW g A v) [.ref A.1] (rxI g A R) := by
  refine CtX.of (by decide) (Nat.le_of_ble_eq_true rfl) hst ?_
  intro K C Z hBA el eD ekn
  subst el
  subst eD
  have hE := Z.2.2.1
  have hlt : ∀ i, i < 2 → i < kn K := fun i h => by rw [ekn]; exact h
  show V K 0 0 _ [(0, .ref A.1)] [] 0
  unfold f_X3_pagesToNextMark at h
  refine V_aload_n C 0 1 dX3_pagesToNextMark_0 rfl rfl ?_
  refine V_get C (v := .ref A.2.1.1) 0 4 fl_X3_10 dX3_pagesToNextMark_1 rfl rfl rfl ?_
  refine V_aload_n C 0 5 dX3_pagesToNextMark_4 rfl rfl ?_
  refine V_get C (v := .ref A.2.1.1) 0 8 fl_X3_10 dX3_pagesToNextMark_5 rfl rfl rfl ?_
  refine V_get C (v := .int (Bk_reader v.2.1)) 1 11 fl_X3_169 dX3_pagesToNextMark_8 rfl rfl rfl ?_
  refine V_iconst C (1 : Int32) 12 dX3_pagesToNextMark_11 rfl rfl ?_
  refine V_iadd C 13 dX3_pagesToNextMark_12 rfl ?_
  obtain ⟨r1, k2, h⟩ := bd_some h
  refine V_callP C ml_X3_120 (pre := mgW A v.1) (post := bkW g A.2.2.1 v.2.2.1 ++ (bkW g A.2.2.2.1 v.2.2.2.1 ++ (hsW g A.2.2.2.2.1 A.2.2.2.2.2.2.2 v.2.2.2.2.1 ++ (scW g A.2.2.2.2.2.1 v.2.2.2.2.2.1 ++ (sbW g A.2.2.2.2.2.2.1 v.2.2.2.2.2.2.1 ++ (hbW g A.2.2.2.2.2.2.2 v.2.2.2.2.2.2.2)))))) (w := bkW g A.2.1 v.2.1) (as := [.int ((Bk_reader v.2.1) + (1 : Int32))]) (rest := []) (c_X0_slotFrom k2) 1 16 dX3_pagesToNextMark_13 rfl ⟨Nat.le_of_ble_eq_true rfl, Nat.le_of_ble_eq_true rfl⟩ rfl (by first | (simp only [List.append_assoc, List.nil_append, List.append_nil]; done) | rfl) rfl rfl rfl (Nat.le_of_ble_eq_true rfl) ⟨Nat.zero_le _, Nat.zero_le _⟩ ?_
  refine V_istore_n C 17 [(1, .int r1), (0, .ref A.1)] dX3_pagesToNextMark_16 rfl (hlt 1 (by decide)) rfl ?_
  refine V_iload_n C 0 18 dX3_pagesToNextMark_17 rfl rfl ?_
  refine V_iconst C (-1 : Int32) 19 dX3_pagesToNextMark_18 rfl rfl ?_
  refine V_icmp_ne C 32 22 dX3_pagesToNextMark_19 rfl rfl (fun e3 => ?_) (fun e3 => ?_)
  · have h := (if_neg e3).symm.trans h
    refine V_aload_n C 1 33 dX3_pagesToNextMark_32 rfl rfl ?_
    refine V_get C (v := .ref A.2.1.1) 0 36 fl_X3_10 dX3_pagesToNextMark_33 rfl rfl rfl ?_
    refine V_get C (v := .ref A.2.1.2.2.1) 1 39 fl_X3_86 dX3_pagesToNextMark_36 rfl rfl rfl ?_
    refine V_iload_n C 0 40 dX3_pagesToNextMark_39 rfl rfl ?_
    obtain ⟨g4, h⟩ := gd_some h
    refine V_iald C (f := (Bk_pages v.2.1)) (n := 12) 3 41 dX3_pagesToNextMark_40 rfl rfl g4 ?_
    refine V_aload_n C 1 42 dX3_pagesToNextMark_41 rfl rfl ?_
    refine V_get C (v := .ref A.2.1.1) 0 45 fl_X3_10 dX3_pagesToNextMark_42 rfl rfl rfl ?_
    refine V_get C (v := .int (Bk_reader v.2.1)) 1 48 fl_X3_169 dX3_pagesToNextMark_45 rfl rfl rfl ?_
    refine V_isub C 49 dX3_pagesToNextMark_48 rfl ?_
    obtain rfl := Option.some.inj h
    exact V_xretI C Z (ty := .int) rfl (rfl) rfl dX3_pagesToNextMark_49 (Nat.le_refl _) (Nat.le_refl _)
  · have h := (if_pos e3).symm.trans h
    obtain rfl := Option.some.inj h
    exact V_nthrow C Z tl_X3_96_100_172 dX3_pagesToNextMark_22 dX3_pagesToNextMark_25 dX3_pagesToNextMark_26 dX3_pagesToNextMark_28 dX3_pagesToNextMark_31 ⟨Nat.le_of_ble_eq_true rfl, Nat.le_of_ble_eq_true rfl, Nat.le_refl _, Nat.le_refl _⟩ rfl (Nat.le_refl _) (Nat.le_refl _)
set_option maxHeartbeats 4000000 in
set_option maxRecDepth 100000 in
theorem c_X3_earsAtRisk {l : Launch} {D : va_G} {g : G0} {A : XA} {v : XV} {a1 a2 : Int32} {R : ((Int32 × XV) ⊕ (String × XV))} (hst : l.stackTraces = false) (h : f_X3_earsAtRisk v a1 a2 = some R) : CtX l D g yX3_earsAtRisk cX3_earsAtRisk 3 (some .int) (rmX 7 111 (rxI g A R)) (xW g A v) [.ref A.1, .int a1, .int a2] (rxI g A R) := by
  refine CtX.of (by decide) (Nat.le_of_ble_eq_true rfl) hst ?_
  intro K C Z hBA el eD ekn
  subst el
  subst eD
  have hE := Z.2.2.1
  have hlt : ∀ i, i < 3 → i < kn K := fun i h => by rw [ekn]; exact h
  show V K 0 0 _ [(0, .ref A.1), (1, .int a1), (2, .int a2)] [] 0
  unfold f_X3_earsAtRisk at h
  refine V_aload_n C 0 1 dX3_earsAtRisk_0 rfl rfl ?_
  refine V_iload_n C 1 2 dX3_earsAtRisk_1 rfl rfl ?_
  obtain ⟨r1, k2, h⟩ := bd_some h
  rcases r1 with r1 | r1
  · have h := bx_l h
    refine V_callXr C hBA hE ml_X3_166 (pre := []) (post := []) (wc := xW g A v) (as := [.int a1]) (rest := []) (w1 := xW g A r1.2) (rv := none) (c_X3_requireCount (R := .inl r1) hst k2) 0 5 (mgW A r1.2.1 ++ (bkW g A.2.1 r1.2.2.1 ++ (bkW g A.2.2.1 r1.2.2.2.1 ++ (bkW g A.2.2.2.1 r1.2.2.2.2.1 ++ (hsW g A.2.2.2.2.1 A.2.2.2.2.2.2.2 r1.2.2.2.2.2.1 ++ (scW g A.2.2.2.2.2.1 r1.2.2.2.2.2.2.1 ++ (sbW g A.2.2.2.2.2.2.1 r1.2.2.2.2.2.2.2.1 ++ (hbW g A.2.2.2.2.2.2.2 r1.2.2.2.2.2.2.2.2)))))))) dX3_earsAtRisk_2 rfl ⟨Nat.le_of_ble_eq_true rfl, Nat.le_of_ble_eq_true rfl⟩ rfl (List.append_nil _).symm (List.append_nil _) (xW_fst _ _ _ _) rfl rfl rfl (Nat.le_of_ble_eq_true rfl) ⟨Nat.zero_le _, Nat.zero_le _⟩ ?_
    refine V_aload_n C 0 6 dX3_earsAtRisk_5 rfl rfl ?_
    refine V_get C (v := .ref A.2.1.1) 0 9 fl_X3_10 dX3_earsAtRisk_6 rfl rfl rfl ?_
    refine V_iload_n C 1 10 dX3_earsAtRisk_9 rfl rfl ?_
    refine V_iload_n C 2 11 dX3_earsAtRisk_10 rfl rfl ?_
    obtain ⟨r3, k4, h⟩ := bd_some h
    refine V_callP C ml_X3_174 (pre := mgW A r1.2.1) (post := bkW g A.2.2.1 r1.2.2.2.1 ++ (bkW g A.2.2.2.1 r1.2.2.2.2.1 ++ (hsW g A.2.2.2.2.1 A.2.2.2.2.2.2.2 r1.2.2.2.2.2.1 ++ (scW g A.2.2.2.2.2.1 r1.2.2.2.2.2.2.1 ++ (sbW g A.2.2.2.2.2.2.1 r1.2.2.2.2.2.2.2.1 ++ (hbW g A.2.2.2.2.2.2.2 r1.2.2.2.2.2.2.2.2)))))) (w := bkW g A.2.1 r1.2.2.1) (as := [.int a1, .int a2]) (rest := []) (c_X0_earsAboutToFall k4) 1 14 dX3_earsAtRisk_11 rfl ⟨Nat.le_of_ble_eq_true rfl, Nat.le_of_ble_eq_true rfl⟩ rfl (by first | (simp only [List.append_assoc, List.nil_append, List.append_nil]; done) | rfl) rfl rfl rfl (Nat.le_of_ble_eq_true rfl) ⟨Nat.zero_le _, Nat.zero_le _⟩ ?_
    obtain rfl := Option.some.inj h
    exact V_xretI C Z (ty := .int) rfl (rfl) rfl dX3_earsAtRisk_14 (Nat.le_refl _) (Nat.le_refl _)
  · have h := bx_r h
    obtain rfl := Option.some.inj h
    refine V_callXt C hBA hE ml_X3_166 (pre := []) (post := []) (wc := xW g A v) (as := [.int a1]) (rest := []) (w1 := xW g A r1.2) (E := r1.1) (c_X3_requireCount (R := .inr r1) hst k2) 0 (xW g A r1.2) dX3_earsAtRisk_2 ⟨Nat.le_of_ble_eq_true rfl, Nat.le_of_ble_eq_true rfl⟩ rfl (List.append_nil _).symm (List.append_nil _) (xW_fst _ _ _ _) rfl rfl (Nat.le_of_ble_eq_true rfl) ⟨Nat.le_refl _, Nat.le_refl _⟩ ?_
    exact VX_out C Z rfl (Nat.le_refl _) (Nat.le_refl _)
set_option maxHeartbeats 4000000 in
set_option maxRecDepth 100000 in
theorem c_X3_markByPage {l : Launch} {D : va_G} {g : G0} {A : XA} {v : XV} {a1 : Int32} {R : ((Int32 × XV) ⊕ (String × XV))} (hst : l.stackTraces = false) (h : f_X3_markByPage v a1 = some R) : CtX l D g yX3_markByPage cX3_markByPage 2 (some .int) (rmX 7 111 (rxI g A R)) (xW g A v) [.ref A.1, .int a1] (rxI g A R) := by
  refine CtX.of (by decide) (Nat.le_of_ble_eq_true rfl) hst ?_
  intro K C Z hBA el eD ekn
  subst el
  subst eD
  have hE := Z.2.2.1
  have hlt : ∀ i, i < 2 → i < kn K := fun i h => by rw [ekn]; exact h
  have B21 : ∀ (x1 : Int32) (s0 : Int32) (v : XV), f_X3_markByPage_B21 x1 s0 v = some R → V K 0 0 (mgW A v.1 ++ (bkW g A.2.1 v.2.1 ++ (bkW g A.2.2.1 v.2.2.1 ++ (bkW g A.2.2.2.1 v.2.2.2.1 ++ (hsW g A.2.2.2.2.1 A.2.2.2.2.2.2.2 v.2.2.2.2.1 ++ (scW g A.2.2.2.2.2.1 v.2.2.2.2.2.1 ++ (sbW g A.2.2.2.2.2.2.1 v.2.2.2.2.2.2.1 ++ (hbW g A.2.2.2.2.2.2.2 v.2.2.2.2.2.2.2)))))))) [(0, .ref A.1), (1, .int x1)] [.int s0, .ref A.1] 21 := by
    intro x1 s0 v h
    rw [f_X3_markByPage_B21] at h
    obtain ⟨r1, k2, h⟩ := bd_some h
    rcases r1 with r1 | r1
    · have h := bx_l h
      refine V_callXr C hBA hE ml_X3_114 (pre := []) (post := []) (wc := xW g A v) (as := [.int s0]) (rest := []) (w1 := xW g A r1.2) (rv := (some (.int r1.1))) (c_X3_idOfFound (R := .inl r1) hst k2) 0 24 (mgW A r1.2.1 ++ (bkW g A.2.1 r1.2.2.1 ++ (bkW g A.2.2.1 r1.2.2.2.1 ++ (bkW g A.2.2.2.1 r1.2.2.2.2.1 ++ (hsW g A.2.2.2.2.1 A.2.2.2.2.2.2.2 r1.2.2.2.2.2.1 ++ (scW g A.2.2.2.2.2.1 r1.2.2.2.2.2.2.1 ++ (sbW g A.2.2.2.2.2.2.1 r1.2.2.2.2.2.2.2.1 ++ (hbW g A.2.2.2.2.2.2.2 r1.2.2.2.2.2.2.2.2)))))))) dX3_markByPage_21 rfl ⟨Nat.le_of_ble_eq_true rfl, Nat.le_of_ble_eq_true rfl⟩ rfl (List.append_nil _).symm (List.append_nil _) (xW_fst _ _ _ _) rfl rfl rfl (Nat.le_of_ble_eq_true rfl) ⟨Nat.zero_le _, Nat.zero_le _⟩ ?_
      obtain rfl := Option.some.inj h
      exact V_xretI C Z (ty := .int) rfl (rfl) rfl dX3_markByPage_24 (Nat.le_refl _) (Nat.le_refl _)
    · have h := bx_r h
      obtain rfl := Option.some.inj h
      refine V_callXt C hBA hE ml_X3_114 (pre := []) (post := []) (wc := xW g A v) (as := [.int s0]) (rest := []) (w1 := xW g A r1.2) (E := r1.1) (c_X3_idOfFound (R := .inr r1) hst k2) 0 (xW g A r1.2) dX3_markByPage_21 ⟨Nat.le_of_ble_eq_true rfl, Nat.le_of_ble_eq_true rfl⟩ rfl (List.append_nil _).symm (List.append_nil _) (xW_fst _ _ _ _) rfl rfl (Nat.le_of_ble_eq_true rfl) ⟨Nat.le_refl _, Nat.le_refl _⟩ ?_
      exact VX_out C Z rfl (Nat.le_refl _) (Nat.le_refl _)
  have B20 : ∀ (x1 : Int32) (v : XV), f_X3_markByPage_B20 x1 v = some R → V K 0 0 (mgW A v.1 ++ (bkW g A.2.1 v.2.1 ++ (bkW g A.2.2.1 v.2.2.1 ++ (bkW g A.2.2.2.1 v.2.2.2.1 ++ (hsW g A.2.2.2.2.1 A.2.2.2.2.2.2.2 v.2.2.2.2.1 ++ (scW g A.2.2.2.2.2.1 v.2.2.2.2.2.1 ++ (sbW g A.2.2.2.2.2.2.1 v.2.2.2.2.2.2.1 ++ (hbW g A.2.2.2.2.2.2.2 v.2.2.2.2.2.2.2)))))))) [(0, .ref A.1), (1, .int x1)] [.ref A.1] 20 := by
    intro x1 v h
    rw [f_X3_markByPage_B20] at h
    refine V_iconst C (-1 : Int32) 21 dX3_markByPage_20 rfl rfl ?_
    refine V_lv [0, 1] rfl ?_
    exact B21 _ _ _ h
  show V K 0 0 _ [(0, .ref A.1), (1, .int a1)] [] 0
  unfold f_X3_markByPage at h
  refine V_aload_n C 0 1 dX3_markByPage_0 rfl rfl ?_
  refine V_iload_n C 1 2 dX3_markByPage_1 rfl rfl ?_
  refine V_if_lt C 20 5 dX3_markByPage_2 rfl rfl (fun e3 => ?_) (fun e3 => ?_)
  · have h := (if_pos e3).symm.trans h
    refine V_lv [0, 1] rfl ?_
    exact B20 _ _ h
  · have h := (if_neg e3).symm.trans h
    refine V_iload_n C 1 6 dX3_markByPage_5 rfl rfl ?_
    refine V_aload_n C 0 7 dX3_markByPage_6 rfl rfl ?_
    refine V_get C (v := .ref A.2.1.1) 0 10 fl_X3_10 dX3_markByPage_7 rfl rfl rfl ?_
    refine V_get C (v := .int (Bk_marks v.2.1)) 1 13 fl_X3_178 dX3_markByPage_10 rfl rfl rfl ?_
    refine V_icmp_ge C 20 16 dX3_markByPage_13 rfl rfl (fun e4 => ?_) (fun e4 => ?_)
    · have h := (if_pos e4).symm.trans h
      refine V_lv [0, 1] rfl ?_
      exact B20 _ _ h
    · have h := (if_neg e4).symm.trans h
      refine V_iload_n C 1 17 dX3_markByPage_16 rfl rfl ?_
      refine V_goto C 21 dX3_markByPage_17 rfl ?_
      refine V_lv [0, 1] rfl ?_
      exact B21 _ _ _ h
