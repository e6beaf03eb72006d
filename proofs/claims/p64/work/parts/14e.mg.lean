set_option maxHeartbeats 4000000 in
set_option maxRecDepth 100000 in
theorem c_X3_requireChapter {l : Launch} {D : va_G} {g : G0} {A : XA} {v : XV} {a1 : Int32} {R : ((Int32 × XV) ⊕ (String × XV))} (hst : l.stackTraces = false) (h : f_X3_requireChapter v a1 = some R) : CtX l D g yX3_requireChapter cX3_requireChapter 2 none (rmX 6 90 (rxV g A R)) (xW g A v) [.ref A.1, .int a1] (rxV g A R) := by
  refine CtX.of (by decide) (Nat.le_of_ble_eq_true rfl) hst ?_
  intro K C Z hBA el eD ekn
  subst el
  subst eD
  have hE := Z.2.2.1
  have hlt : ∀ i, i < 2 → i < kn K := fun i h => by rw [ekn]; exact h
  show V K 0 0 _ [(0, .ref A.1), (1, .int a1)] [] 0
  unfold f_X3_requireChapter at h
  refine V_aload_n C 0 1 dX3_requireChapter_0 rfl rfl ?_
  refine V_get C (v := .ref A.2.1.1) 0 4 fl_X3_10 dX3_requireChapter_1 rfl rfl rfl ?_
  refine V_iload_n C 1 5 dX3_requireChapter_4 rfl rfl ?_
  obtain ⟨r1, k2, h⟩ := bd_some h
  refine V_callP C ml_X3_345 (pre := mgW A v.1) (post := bkW g A.2.2.1 v.2.2.1 ++ (bkW g A.2.2.2.1 v.2.2.2.1 ++ (hsW g A.2.2.2.2.1 A.2.2.2.2.2.2.2 v.2.2.2.2.1 ++ (scW g A.2.2.2.2.2.1 v.2.2.2.2.2.1 ++ (sbW g A.2.2.2.2.2.2.1 v.2.2.2.2.2.2.1 ++ (hbW g A.2.2.2.2.2.2.2 v.2.2.2.2.2.2.2)))))) (w := bkW g A.2.1 v.2.1) (as := [.int a1]) (rest := []) (c_X0_hasChapter k2) 1 8 dX3_requireChapter_5 rfl ⟨Nat.le_of_ble_eq_true rfl, Nat.le_of_ble_eq_true rfl⟩ rfl (by first | (simp only [List.append_assoc, List.nil_append, List.append_nil]; done) | rfl) rfl rfl rfl (Nat.le_of_ble_eq_true rfl) ⟨Nat.zero_le _, Nat.zero_le _⟩ ?_
  refine V_if_ne C 22 11 dX3_requireChapter_8 rfl rfl (fun e3 => ?_) (fun e3 => ?_)
  · have h := (if_neg e3).symm.trans h
    obtain rfl := Option.some.inj h
    exact V_xretV C Z rfl rfl dX3_requireChapter_22 (Nat.le_refl _) (Nat.le_refl _)
  · have h := (if_pos e3).symm.trans h
    obtain rfl := Option.some.inj h
    exact V_throwW C Z tl_X3_106_110_348 dX3_requireChapter_11 dX3_requireChapter_14 dX3_requireChapter_15 dX3_requireChapter_18 dX3_requireChapter_21 ⟨Nat.le_of_ble_eq_true rfl, Nat.le_of_ble_eq_true rfl, Nat.le_refl _, Nat.le_refl _⟩ rfl (Nat.le_refl _) (Nat.le_refl _)
set_option maxHeartbeats 4000000 in
set_option maxRecDepth 100000 in
theorem c_X3_voteToDissolve {l : Launch} {D : va_G} {g : G0} {A : XA} {v : XV} {a1 : Int32} {R : ((Int32 × XV) ⊕ (String × XV))} (hst : l.stackTraces = false) (h : f_X3_voteToDissolve v a1 = some R) : CtX l D g yX3_voteToDissolve cX3_voteToDissolve 2 (some .boolean) (rmX 7 140 (rxI g A R)) (xW g A v) [.ref A.1, .int a1] (rxI g A R) := by
  refine CtX.of (by decide) (Nat.le_of_ble_eq_true rfl) hst ?_
  intro K C Z hBA el eD ekn
  subst el
  subst eD
  have hE := Z.2.2.1
  have hlt : ∀ i, i < 2 → i < kn K := fun i h => by rw [ekn]; exact h
  have B22 : ∀ (x1 : Int32) (s0 : Int32) (v : XV), f_X3_voteToDissolve_B22 x1 s0 v = some R → V K 0 0 (mgW A v.1 ++ (bkW g A.2.1 v.2.1 ++ (bkW g A.2.2.1 v.2.2.1 ++ (bkW g A.2.2.2.1 v.2.2.2.1 ++ (hsW g A.2.2.2.2.1 A.2.2.2.2.2.2.2 v.2.2.2.2.1 ++ (scW g A.2.2.2.2.2.1 v.2.2.2.2.2.1 ++ (sbW g A.2.2.2.2.2.2.1 v.2.2.2.2.2.2.1 ++ (hbW g A.2.2.2.2.2.2.2 v.2.2.2.2.2.2.2)))))))) [(0, .ref A.1), (1, .int x1)] [.int s0] 22 := by
    intro x1 s0 v h
    rw [f_X3_voteToDissolve_B22] at h
    obtain ⟨g1, h⟩ := gd_some h
    obtain rfl := Option.some.inj h
    exact V_xretI C Z (ty := .boolean) rfl (isz_t g1) rfl dX3_voteToDissolve_22 (Nat.le_refl _) (Nat.le_refl _)
  show V K 0 0 _ [(0, .ref A.1), (1, .int a1)] [] 0
  unfold f_X3_voteToDissolve at h
  refine V_aload_n C 0 1 dX3_voteToDissolve_0 rfl rfl ?_
  refine V_iload_n C 1 2 dX3_voteToDissolve_1 rfl rfl ?_
  obtain ⟨r2, k3, h⟩ := bd_some h
  rcases r2 with r2 | r2
  · have h := bx_l h
    refine V_callXr C hBA hE ml_X3_132 (pre := []) (post := []) (wc := xW g A v) (as := [.int a1]) (rest := []) (w1 := xW g A r2.2) (rv := none) (c_X3_requireChapter (R := .inl r2) hst k3) 0 5 (mgW A r2.2.1 ++ (bkW g A.2.1 r2.2.2.1 ++ (bkW g A.2.2.1 r2.2.2.2.1 ++ (bkW g A.2.2.2.1 r2.2.2.2.2.1 ++ (hsW g A.2.2.2.2.1 A.2.2.2.2.2.2.2 r2.2.2.2.2.2.1 ++ (scW g A.2.2.2.2.2.1 r2.2.2.2.2.2.2.1 ++ (sbW g A.2.2.2.2.2.2.1 r2.2.2.2.2.2.2.2.1 ++ (hbW g A.2.2.2.2.2.2.2 r2.2.2.2.2.2.2.2.2)))))))) dX3_voteToDissolve_2 rfl ⟨Nat.le_of_ble_eq_true rfl, Nat.le_of_ble_eq_true rfl⟩ rfl (List.append_nil _).symm (List.append_nil _) (xW_fst _ _ _ _) rfl rfl rfl (Nat.le_of_ble_eq_true rfl) ⟨Nat.zero_le _, Nat.zero_le _⟩ ?_
    refine V_aload_n C 0 6 dX3_voteToDissolve_5 rfl rfl ?_
    refine V_bipush C (86 : Int32) 8 dX3_voteToDissolve_6 rfl rfl ?_
    refine V_iload_n C 1 9 dX3_voteToDissolve_8 rfl rfl ?_
    refine V_iconst C (0 : Int32) 10 dX3_voteToDissolve_9 rfl rfl ?_
    obtain ⟨r4, k5, h⟩ := bd_some h
    rcases r4 with r4 | r4
    · have h := bx_l h
      refine V_callXr C hBA hE ml_X3_67 (pre := []) (post := []) (wc := xW g A r2.2) (as := [.int (86 : Int32), .int a1, .int (0 : Int32)]) (rest := []) (w1 := xW g A r4.2) (rv := (some (.int r4.1))) (c_X3_changeUnlessRejected (R := .inl r4) hst k5) 0 13 (mgW A r4.2.1 ++ (bkW g A.2.1 r4.2.2.1 ++ (bkW g A.2.2.1 r4.2.2.2.1 ++ (bkW g A.2.2.2.1 r4.2.2.2.2.1 ++ (hsW g A.2.2.2.2.1 A.2.2.2.2.2.2.2 r4.2.2.2.2.2.1 ++ (scW g A.2.2.2.2.2.1 r4.2.2.2.2.2.2.1 ++ (sbW g A.2.2.2.2.2.2.1 r4.2.2.2.2.2.2.2.1 ++ (hbW g A.2.2.2.2.2.2.2 r4.2.2.2.2.2.2.2.2)))))))) dX3_voteToDissolve_10 rfl ⟨Nat.le_of_ble_eq_true rfl, Nat.le_of_ble_eq_true rfl⟩ rfl (List.append_nil _).symm (List.append_nil _) (xW_fst _ _ _ _) rfl rfl rfl (Nat.le_of_ble_eq_true rfl) ⟨Nat.zero_le _, Nat.zero_le _⟩ ?_
      refine V_iconst C (1 : Int32) 14 dX3_voteToDissolve_13 rfl rfl ?_
      refine V_icmp_ne C 21 17 dX3_voteToDissolve_14 rfl rfl (fun e6 => ?_) (fun e6 => ?_)
      · have h := (if_neg e6).symm.trans h
        refine V_iconst C (0 : Int32) 22 dX3_voteToDissolve_21 rfl rfl ?_
        refine V_lv [0, 1] rfl ?_
        exact B22 _ _ _ h
      · have h := (if_pos e6).symm.trans h
        refine V_iconst C (1 : Int32) 18 dX3_voteToDissolve_17 rfl rfl ?_
        refine V_goto C 22 dX3_voteToDissolve_18 rfl ?_
        refine V_lv [0, 1] rfl ?_
        exact B22 _ _ _ h
    · have h := bx_r h
      obtain rfl := Option.some.inj h
      refine V_callXt C hBA hE ml_X3_67 (pre := []) (post := []) (wc := xW g A r2.2) (as := [.int (86 : Int32), .int a1, .int (0 : Int32)]) (rest := []) (w1 := xW g A r4.2) (E := r4.1) (c_X3_changeUnlessRejected (R := .inr r4) hst k5) 0 (xW g A r4.2) dX3_voteToDissolve_10 ⟨Nat.le_of_ble_eq_true rfl, Nat.le_of_ble_eq_true rfl⟩ rfl (List.append_nil _).symm (List.append_nil _) (xW_fst _ _ _ _) rfl rfl (Nat.le_of_ble_eq_true rfl) ⟨Nat.le_refl _, Nat.le_refl _⟩ ?_
      exact VX_out C Z rfl (Nat.le_refl _) (Nat.le_refl _)
  · have h := bx_r h
    obtain rfl := Option.some.inj h
    refine V_callXt C hBA hE ml_X3_132 (pre := []) (post := []) (wc := xW g A v) (as := [.int a1]) (rest := []) (w1 := xW g A r2.2) (E := r2.1) (c_X3_requireChapter (R := .inr r2) hst k3) 0 (xW g A r2.2) dX3_voteToDissolve_2 ⟨Nat.le_of_ble_eq_true rfl, Nat.le_of_ble_eq_true rfl⟩ rfl (List.append_nil _).symm (List.append_nil _) (xW_fst _ _ _ _) rfl rfl (Nat.le_of_ble_eq_true rfl) ⟨Nat.le_refl _, Nat.le_refl _⟩ ?_
    exact VX_out C Z rfl (Nat.le_refl _) (Nat.le_refl _)
set_option maxHeartbeats 4000000 in
set_option maxRecDepth 100000 in
theorem c_X3_firstPage {l : Launch} {D : va_G} {g : G0} {A : XA} {v : XV} {a1 : Int32} {R : ((Int32 × XV) ⊕ (String × XV))} (hst : l.stackTraces = false) (h : f_X3_firstPage v a1 = some R) : CtX l D g yX3_firstPage cX3_firstPage 2 (some .int) (rmX 7 111 (rxI g A R)) (xW g A v) [.ref A.1, .int a1] (rxI g A R) := by
  refine CtX.of (by decide) (Nat.le_of_ble_eq_true rfl) hst ?_
  intro K C Z hBA el eD ekn
  subst el
  subst eD
  have hE := Z.2.2.1
  have hlt : ∀ i, i < 2 → i < kn K := fun i h => by rw [ekn]; exact h
  show V K 0 0 _ [(0, .ref A.1), (1, .int a1)] [] 0
  unfold f_X3_firstPage at h
  refine V_aload_n C 0 1 dX3_firstPage_0 rfl rfl ?_
  refine V_iload_n C 1 2 dX3_firstPage_1 rfl rfl ?_
  obtain ⟨r1, k2, h⟩ := bd_some h
  rcases r1 with r1 | r1
  · have h := bx_l h
    refine V_callXr C hBA hE ml_X3_132 (pre := []) (post := []) (wc := xW g A v) (as := [.int a1]) (rest := []) (w1 := xW g A r1.2) (rv := none) (c_X3_requireChapter (R := .inl r1) hst k2) 0 5 (mgW A r1.2.1 ++ (bkW g A.2.1 r1.2.2.1 ++ (bkW g A.2.2.1 r1.2.2.2.1 ++ (bkW g A.2.2.2.1 r1.2.2.2.2.1 ++ (hsW g A.2.2.2.2.1 A.2.2.2.2.2.2.2 r1.2.2.2.2.2.1 ++ (scW g A.2.2.2.2.2.1 r1.2.2.2.2.2.2.1 ++ (sbW g A.2.2.2.2.2.2.1 r1.2.2.2.2.2.2.2.1 ++ (hbW g A.2.2.2.2.2.2.2 r1.2.2.2.2.2.2.2.2)))))))) dX3_firstPage_2 rfl ⟨Nat.le_of_ble_eq_true rfl, Nat.le_of_ble_eq_true rfl⟩ rfl (List.append_nil _).symm (List.append_nil _) (xW_fst _ _ _ _) rfl rfl rfl (Nat.le_of_ble_eq_true rfl) ⟨Nat.zero_le _, Nat.zero_le _⟩ ?_
    refine V_aload_n C 0 6 dX3_firstPage_5 rfl rfl ?_
    refine V_get C (v := .ref A.2.1.1) 0 9 fl_X3_10 dX3_firstPage_6 rfl rfl rfl ?_
    refine V_get C (v := .ref A.2.1.2.2.2.2.2.2) 1 12 fl_X3_135 dX3_firstPage_9 rfl rfl rfl ?_
    refine V_iload_n C 1 13 dX3_firstPage_12 rfl rfl ?_
    obtain ⟨g3, h⟩ := gd_some h
    refine V_iald C (f := (Bk_starts r1.2.2.1)) (n := 8) 7 14 dX3_firstPage_13 rfl rfl g3 ?_
    obtain rfl := Option.some.inj h
    exact V_xretI C Z (ty := .int) rfl (rfl) rfl dX3_firstPage_14 (Nat.le_refl _) (Nat.le_refl _)
  · have h := bx_r h
    obtain rfl := Option.some.inj h
    refine V_callXt C hBA hE ml_X3_132 (pre := []) (post := []) (wc := xW g A v) (as := [.int a1]) (rest := []) (w1 := xW g A r1.2) (E := r1.1) (c_X3_requireChapter (R := .inr r1) hst k2) 0 (xW g A r1.2) dX3_firstPage_2 ⟨Nat.le_of_ble_eq_true rfl, Nat.le_of_ble_eq_true rfl⟩ rfl (List.append_nil _).symm (List.append_nil _) (xW_fst _ _ _ _) rfl rfl (Nat.le_of_ble_eq_true rfl) ⟨Nat.le_refl _, Nat.le_refl _⟩ ?_
    exact VX_out C Z rfl (Nat.le_refl _) (Nat.le_refl _)
set_option maxHeartbeats 4000000 in
set_option maxRecDepth 100000 in
theorem c_X3_lastPage {l : Launch} {D : va_G} {g : G0} {A : XA} {v : XV} {a1 : Int32} {R : ((Int32 × XV) ⊕ (String × XV))} (hst : l.stackTraces = false) (h : f_X3_lastPage v a1 = some R) : CtX l D g yX3_lastPage cX3_lastPage 2 (some .int) (rmX 7 111 (rxI g A R)) (xW g A v) [.ref A.1, .int a1] (rxI g A R) := by
  refine CtX.of (by decide) (Nat.le_of_ble_eq_true rfl) hst ?_
  intro K C Z hBA el eD ekn
  subst el
  subst eD
  have hE := Z.2.2.1
  have hlt : ∀ i, i < 2 → i < kn K := fun i h => by rw [ekn]; exact h
  show V K 0 0 _ [(0, .ref A.1), (1, .int a1)] [] 0
  unfold f_X3_lastPage at h
  refine V_aload_n C 0 1 dX3_lastPage_0 rfl rfl ?_
  refine V_iload_n C 1 2 dX3_lastPage_1 rfl rfl ?_
  obtain ⟨r1, k2, h⟩ := bd_some h
  rcases r1 with r1 | r1
  · have h := bx_l h
    refine V_callXr C hBA hE ml_X3_132 (pre := []) (post := []) (wc := xW g A v) (as := [.int a1]) (rest := []) (w1 := xW g A r1.2) (rv := none) (c_X3_requireChapter (R := .inl r1) hst k2) 0 5 (mgW A r1.2.1 ++ (bkW g A.2.1 r1.2.2.1 ++ (bkW g A.2.2.1 r1.2.2.2.1 ++ (bkW g A.2.2.2.1 r1.2.2.2.2.1 ++ (hsW g A.2.2.2.2.1 A.2.2.2.2.2.2.2 r1.2.2.2.2.2.1 ++ (scW g A.2.2.2.2.2.1 r1.2.2.2.2.2.2.1 ++ (sbW g A.2.2.2.2.2.2.1 r1.2.2.2.2.2.2.2.1 ++ (hbW g A.2.2.2.2.2.2.2 r1.2.2.2.2.2.2.2.2)))))))) dX3_lastPage_2 rfl ⟨Nat.le_of_ble_eq_true rfl, Nat.le_of_ble_eq_true rfl⟩ rfl (List.append_nil _).symm (List.append_nil _) (xW_fst _ _ _ _) rfl rfl rfl (Nat.le_of_ble_eq_true rfl) ⟨Nat.zero_le _, Nat.zero_le _⟩ ?_
    refine V_aload_n C 0 6 dX3_lastPage_5 rfl rfl ?_
    refine V_get C (v := .ref A.2.1.1) 0 9 fl_X3_10 dX3_lastPage_6 rfl rfl rfl ?_
    refine V_iload_n C 1 10 dX3_lastPage_9 rfl rfl ?_
    obtain ⟨r3, k4, h⟩ := bd_some h
    refine V_callP C ml_X3_138 (pre := mgW A r1.2.1) (post := bkW g A.2.2.1 r1.2.2.2.1 ++ (bkW g A.2.2.2.1 r1.2.2.2.2.1 ++ (hsW g A.2.2.2.2.1 A.2.2.2.2.2.2.2 r1.2.2.2.2.2.1 ++ (scW g A.2.2.2.2.2.1 r1.2.2.2.2.2.2.1 ++ (sbW g A.2.2.2.2.2.2.1 r1.2.2.2.2.2.2.2.1 ++ (hbW g A.2.2.2.2.2.2.2 r1.2.2.2.2.2.2.2.2)))))) (w := bkW g A.2.1 r1.2.2.1) (as := [.int a1]) (rest := []) (c_X0_endOf k4) 1 13 dX3_lastPage_10 rfl ⟨Nat.le_of_ble_eq_true rfl, Nat.le_of_ble_eq_true rfl⟩ rfl (by first | (simp only [List.append_assoc, List.nil_append, List.append_nil]; done) | rfl) rfl rfl rfl (Nat.le_of_ble_eq_true rfl) ⟨Nat.zero_le _, Nat.zero_le _⟩ ?_
    obtain rfl := Option.some.inj h
    exact V_xretI C Z (ty := .int) rfl (rfl) rfl dX3_lastPage_13 (Nat.le_refl _) (Nat.le_refl _)
  · have h := bx_r h
    obtain rfl := Option.some.inj h
    refine V_callXt C hBA hE ml_X3_132 (pre := []) (post := []) (wc := xW g A v) (as := [.int a1]) (rest := []) (w1 := xW g A r1.2) (E := r1.1) (c_X3_requireChapter (R := .inr r1) hst k2) 0 (xW g A r1.2) dX3_lastPage_2 ⟨Nat.le_of_ble_eq_true rfl, Nat.le_of_ble_eq_true rfl⟩ rfl (List.append_nil _).symm (List.append_nil _) (xW_fst _ _ _ _) rfl rfl (Nat.le_of_ble_eq_true rfl) ⟨Nat.le_refl _, Nat.le_refl _⟩ ?_
    exact VX_out C Z rfl (Nat.le_refl _) (Nat.le_refl _)
set_option maxHeartbeats 4000000 in
set_option maxRecDepth 100000 in
theorem c_X3_heldPages {l : Launch} {D : va_G} {g : G0} {A : XA} {v : XV} {a1 : Int32} {R : ((Int32 × XV) ⊕ (String × XV))} (hst : l.stackTraces = false) (h : f_X3_heldPages v a1 = some R) : CtX l D g yX3_heldPages cX3_heldPages 2 (some .int) (rmX 7 111 (rxI g A R)) (xW g A v) [.ref A.1, .int a1] (rxI g A R) := by
  refine CtX.of (by decide) (Nat.le_of_ble_eq_true rfl) hst ?_
  intro K C Z hBA el eD ekn
  subst el
  subst eD
  have hE := Z.2.2.1
  have hlt : ∀ i, i < 2 → i < kn K := fun i h => by rw [ekn]; exact h
  show V K 0 0 _ [(0, .ref A.1), (1, .int a1)] [] 0
  unfold f_X3_heldPages at h
  refine V_aload_n C 0 1 dX3_heldPages_0 rfl rfl ?_
  refine V_iload_n C 1 2 dX3_heldPages_1 rfl rfl ?_
  obtain ⟨r1, k2, h⟩ := bd_some h
  rcases r1 with r1 | r1
  · have h := bx_l h
    refine V_callXr C hBA hE ml_X3_132 (pre := []) (post := []) (wc := xW g A v) (as := [.int a1]) (rest := []) (w1 := xW g A r1.2) (rv := none) (c_X3_requireChapter (R := .inl r1) hst k2) 0 5 (mgW A r1.2.1 ++ (bkW g A.2.1 r1.2.2.1 ++ (bkW g A.2.2.1 r1.2.2.2.1 ++ (bkW g A.2.2.2.1 r1.2.2.2.2.1 ++ (hsW g A.2.2.2.2.1 A.2.2.2.2.2.2.2 r1.2.2.2.2.2.1 ++ (scW g A.2.2.2.2.2.1 r1.2.2.2.2.2.2.1 ++ (sbW g A.2.2.2.2.2.2.1 r1.2.2.2.2.2.2.2.1 ++ (hbW g A.2.2.2.2.2.2.2 r1.2.2.2.2.2.2.2.2)))))))) dX3_heldPages_2 rfl ⟨Nat.le_of_ble_eq_true rfl, Nat.le_of_ble_eq_true rfl⟩ rfl (List.append_nil _).symm (List.append_nil _) (xW_fst _ _ _ _) rfl rfl rfl (Nat.le_of_ble_eq_true rfl) ⟨Nat.zero_le _, Nat.zero_le _⟩ ?_
    refine V_aload_n C 0 6 dX3_heldPages_5 rfl rfl ?_
    refine V_get C (v := .ref A.2.1.1) 0 9 fl_X3_10 dX3_heldPages_6 rfl rfl rfl ?_
    refine V_iload_n C 1 10 dX3_heldPages_9 rfl rfl ?_
    obtain ⟨r3, k4, h⟩ := bd_some h
    refine V_callP C ml_X3_141 (pre := mgW A r1.2.1) (post := bkW g A.2.2.1 r1.2.2.2.1 ++ (bkW g A.2.2.2.1 r1.2.2.2.2.1 ++ (hsW g A.2.2.2.2.1 A.2.2.2.2.2.2.2 r1.2.2.2.2.2.1 ++ (scW g A.2.2.2.2.2.1 r1.2.2.2.2.2.2.1 ++ (sbW g A.2.2.2.2.2.2.1 r1.2.2.2.2.2.2.2.1 ++ (hbW g A.2.2.2.2.2.2.2 r1.2.2.2.2.2.2.2.2)))))) (w := bkW g A.2.1 r1.2.2.1) (as := [.int a1]) (rest := []) (c_X0_heldPageByPage k4) 1 13 dX3_heldPages_10 rfl ⟨Nat.le_of_ble_eq_true rfl, Nat.le_of_ble_eq_true rfl⟩ rfl (by first | (simp only [List.append_assoc, List.nil_append, List.append_nil]; done) | rfl) rfl rfl rfl (Nat.le_of_ble_eq_true rfl) ⟨Nat.zero_le _, Nat.zero_le _⟩ ?_
    obtain rfl := Option.some.inj h
    exact V_xretI C Z (ty := .int) rfl (rfl) rfl dX3_heldPages_13 (Nat.le_refl _) (Nat.le_refl _)
  · have h := bx_r h
    obtain rfl := Option.some.inj h
    refine V_callXt C hBA hE ml_X3_132 (pre := []) (post := []) (wc := xW g A v) (as := [.int a1]) (rest := []) (w1 := xW g A r1.2) (E := r1.1) (c_X3_requireChapter (R := .inr r1) hst k2) 0 (xW g A r1.2) dX3_heldPages_2 ⟨Nat.le_of_ble_eq_true rfl, Nat.le_of_ble_eq_true rfl⟩ rfl (List.append_nil _).symm (List.append_nil _) (xW_fst _ _ _ _) rfl rfl (Nat.le_of_ble_eq_true rfl) ⟨Nat.le_refl _, Nat.le_refl _⟩ ?_
    exact VX_out C Z rfl (Nat.le_refl _) (Nat.le_refl _)
set_option maxHeartbeats 4000000 in
set_option maxRecDepth 100000 in
theorem c_X3_heldPagesByMarks {l : Launch} {D : va_G} {g : G0} {A : XA} {v : XV} {a1 : Int32} {R : ((Int32 × XV) ⊕ (String × XV))} (hst : l.stackTraces = false) (h : f_X3_heldPagesByMarks v a1 = some R) : CtX l D g yX3_heldPagesByMarks cX3_heldPagesByMarks 2 (some .int) (rmX 7 111 (rxI g A R)) (xW g A v) [.ref A.1, .int a1] (rxI g A R) := by
  refine CtX.of (by decide) (Nat.le_of_ble_eq_true rfl) hst ?_
  intro K C Z hBA el eD ekn
  subst el
  subst eD
  have hE := Z.2.2.1
  have hlt : ∀ i, i < 2 → i < kn K := fun i h => by rw [ekn]; exact h
  show V K 0 0 _ [(0, .ref A.1), (1, .int a1)] [] 0
  unfold f_X3_heldPagesByMarks at h
  refine V_aload_n C 0 1 dX3_heldPagesByMarks_0 rfl rfl ?_
  refine V_iload_n C 1 2 dX3_heldPagesByMarks_1 rfl rfl ?_
  obtain ⟨r1, k2, h⟩ := bd_some h
  rcases r1 with r1 | r1
  · have h := bx_l h
    refine V_callXr C hBA hE ml_X3_132 (pre := []) (post := []) (wc := xW g A v) (as := [.int a1]) (rest := []) (w1 := xW g A r1.2) (rv := none) (c_X3_requireChapter (R := .inl r1) hst k2) 0 5 (mgW A r1.2.1 ++ (bkW g A.2.1 r1.2.2.1 ++ (bkW g A.2.2.1 r1.2.2.2.1 ++ (bkW g A.2.2.2.1 r1.2.2.2.2.1 ++ (hsW g A.2.2.2.2.1 A.2.2.2.2.2.2.2 r1.2.2.2.2.2.1 ++ (scW g A.2.2.2.2.2.1 r1.2.2.2.2.2.2.1 ++ (sbW g A.2.2.2.2.2.2.1 r1.2.2.2.2.2.2.2.1 ++ (hbW g A.2.2.2.2.2.2.2 r1.2.2.2.2.2.2.2.2)))))))) dX3_heldPagesByMarks_2 rfl ⟨Nat.le_of_ble_eq_true rfl, Nat.le_of_ble_eq_true rfl⟩ rfl (List.append_nil _).symm (List.append_nil _) (xW_fst _ _ _ _) rfl rfl rfl (Nat.le_of_ble_eq_true rfl) ⟨Nat.zero_le _, Nat.zero_le _⟩ ?_
    refine V_aload_n C 0 6 dX3_heldPagesByMarks_5 rfl rfl ?_
    refine V_get C (v := .ref A.2.1.1) 0 9 fl_X3_10 dX3_heldPagesByMarks_6 rfl rfl rfl ?_
    refine V_iload_n C 1 10 dX3_heldPagesByMarks_9 rfl rfl ?_
    obtain ⟨r3, k4, h⟩ := bd_some h
    refine V_callP C ml_X3_144 (pre := mgW A r1.2.1) (post := bkW g A.2.2.1 r1.2.2.2.1 ++ (bkW g A.2.2.2.1 r1.2.2.2.2.1 ++ (hsW g A.2.2.2.2.1 A.2.2.2.2.2.2.2 r1.2.2.2.2.2.1 ++ (scW g A.2.2.2.2.2.1 r1.2.2.2.2.2.2.1 ++ (sbW g A.2.2.2.2.2.2.1 r1.2.2.2.2.2.2.2.1 ++ (hbW g A.2.2.2.2.2.2.2 r1.2.2.2.2.2.2.2.2)))))) (w := bkW g A.2.1 r1.2.2.1) (as := [.int a1]) (rest := []) (c_X0_heldMarkByMark k4) 1 13 dX3_heldPagesByMarks_10 rfl ⟨Nat.le_of_ble_eq_true rfl, Nat.le_of_ble_eq_true rfl⟩ rfl (by first | (simp only [List.append_assoc, List.nil_append, List.append_nil]; done) | rfl) rfl rfl rfl (Nat.le_of_ble_eq_true rfl) ⟨Nat.zero_le _, Nat.zero_le _⟩ ?_
    obtain rfl := Option.some.inj h
    exact V_xretI C Z (ty := .int) rfl (rfl) rfl dX3_heldPagesByMarks_13 (Nat.le_refl _) (Nat.le_refl _)
  · have h := bx_r h
    obtain rfl := Option.some.inj h
    refine V_callXt C hBA hE ml_X3_132 (pre := []) (post := []) (wc := xW g A v) (as := [.int a1]) (rest := []) (w1 := xW g A r1.2) (E := r1.1) (c_X3_requireChapter (R := .inr r1) hst k2) 0 (xW g A r1.2) dX3_heldPagesByMarks_2 ⟨Nat.le_of_ble_eq_true rfl, Nat.le_of_ble_eq_true rfl⟩ rfl (List.append_nil _).symm (List.append_nil _) (xW_fst _ _ _ _) rfl rfl (Nat.le_of_ble_eq_true rfl) ⟨Nat.le_refl _, Nat.le_refl _⟩ ?_
    exact VX_out C Z rfl (Nat.le_refl _) (Nat.le_refl _)
