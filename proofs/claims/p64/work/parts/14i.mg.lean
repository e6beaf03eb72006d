set_option maxHeartbeats 4000000 in
set_option maxRecDepth 100000 in
theorem c_X3_ribbonCount {l : Launch} {D : va_G} {g : G0} {A : XA} {v : XV} {R : Int32} (h : f_X3_ribbonCount v  = some R) : CtP l D g yX3_ribbonCount cX3_ribbonCount 1 (some .int) (rmF 2 43) (mgW A v.1 ++ (bkW g A.2.1 v.2.1 ++ (bkW g A.2.2.1 v.2.2.1 ++ (bkW g A.2.2.2.1 v.2.2.2.1 ++ (hsW g A.2.2.2.2.1 A.2.2.2.2.2.2.2 v.2.2.2.2.1 ++ (scW g A.2.2.2.2.2.1 v.2.2.2.2.2.1 ++ (sbW g A.2.2.2.2.2.2.1 v.2.2.2.2.2.2.1 ++ (hbW g A.2.2.2.2.2.2.2 v.2.2.2.2.2.2.2)))))))) [.ref A.1] (some (.int R)) := by
  refine CtP.of (by decide) rfl rfl (Nat.le_of_ble_eq_true rfl) ?_
  intro K C el eD ekn retI
  subst el
  subst eD
  have hlt : ∀ i, i < 1 → i < kn K := fun i h => by rw [ekn]; exact h
  show V K 0 0 _ [(0, .ref A.1)] [] 0
  unfold f_X3_ribbonCount at h
  refine V_aload_n C 0 1 dX3_ribbonCount_0 rfl rfl ?_
  refine V_get C (v := .ref A.2.1.1) 0 4 fl_X3_10 dX3_ribbonCount_1 rfl rfl rfl ?_
  obtain ⟨r1, k2, h⟩ := bd_some h
  refine V_callP C ml_X3_194 (pre := mgW A v.1) (post := bkW g A.2.2.1 v.2.2.1 ++ (bkW g A.2.2.2.1 v.2.2.2.1 ++ (hsW g A.2.2.2.2.1 A.2.2.2.2.2.2.2 v.2.2.2.2.1 ++ (scW g A.2.2.2.2.2.1 v.2.2.2.2.2.1 ++ (sbW g A.2.2.2.2.2.2.1 v.2.2.2.2.2.2.1 ++ (hbW g A.2.2.2.2.2.2.2 v.2.2.2.2.2.2.2)))))) (w := bkW g A.2.1 v.2.1) (as := []) (rest := []) (c_X0_ribbons k2) 1 7 dX3_ribbonCount_4 rfl ⟨Nat.le_of_ble_eq_true rfl, Nat.le_of_ble_eq_true rfl⟩ rfl (by first | (simp only [List.append_assoc, List.nil_append, List.append_nil]; done) | rfl) rfl rfl rfl (Nat.le_of_ble_eq_true rfl) ⟨Nat.zero_le _, Nat.zero_le _⟩ ?_
  obtain rfl := Option.some.inj h
  exact retI _ _ _ .int rfl (rfl) rfl dX3_ribbonCount_7
set_option maxHeartbeats 4000000 in
set_option maxRecDepth 100000 in
theorem c_X3_chapterCount {l : Launch} {D : va_G} {g : G0} {A : XA} {v : XV} {R : Int32} (h : f_X3_chapterCount v  = some R) : CtP l D g yX3_chapterCount cX3_chapterCount 1 (some .int) (rmF 0 0) (mgW A v.1 ++ (bkW g A.2.1 v.2.1 ++ (bkW g A.2.2.1 v.2.2.1 ++ (bkW g A.2.2.2.1 v.2.2.2.1 ++ (hsW g A.2.2.2.2.1 A.2.2.2.2.2.2.2 v.2.2.2.2.1 ++ (scW g A.2.2.2.2.2.1 v.2.2.2.2.2.1 ++ (sbW g A.2.2.2.2.2.2.1 v.2.2.2.2.2.2.1 ++ (hbW g A.2.2.2.2.2.2.2 v.2.2.2.2.2.2.2)))))))) [.ref A.1] (some (.int R)) := by
  refine CtP.of (by decide) rfl rfl (Nat.le_of_ble_eq_true rfl) ?_
  intro K C el eD ekn retI
  subst el
  subst eD
  have hlt : ∀ i, i < 1 → i < kn K := fun i h => by rw [ekn]; exact h
  show V K 0 0 _ [(0, .ref A.1)] [] 0
  unfold f_X3_chapterCount at h
  refine V_aload_n C 0 1 dX3_chapterCount_0 rfl rfl ?_
  refine V_get C (v := .ref A.2.1.1) 0 4 fl_X3_10 dX3_chapterCount_1 rfl rfl rfl ?_
  refine V_get C (v := .int (Bk_chapters v.2.1)) 1 7 fl_X3_197 dX3_chapterCount_4 rfl rfl rfl ?_
  obtain rfl := Option.some.inj h
  exact retI _ _ _ .int rfl (rfl) rfl dX3_chapterCount_7
set_option maxHeartbeats 4000000 in
set_option maxRecDepth 100000 in
theorem c_X3_votesHeld {l : Launch} {D : va_G} {g : G0} {A : XA} {v : XV} {R : Int32} (h : f_X3_votesHeld v  = some R) : CtP l D g yX3_votesHeld cX3_votesHeld 1 (some .int) (rmF 0 0) (mgW A v.1 ++ (bkW g A.2.1 v.2.1 ++ (bkW g A.2.2.1 v.2.2.1 ++ (bkW g A.2.2.2.1 v.2.2.2.1 ++ (hsW g A.2.2.2.2.1 A.2.2.2.2.2.2.2 v.2.2.2.2.1 ++ (scW g A.2.2.2.2.2.1 v.2.2.2.2.2.1 ++ (sbW g A.2.2.2.2.2.2.1 v.2.2.2.2.2.2.1 ++ (hbW g A.2.2.2.2.2.2.2 v.2.2.2.2.2.2.2)))))))) [.ref A.1] (some (.int R)) := by
  refine CtP.of (by decide) rfl rfl (Nat.le_of_ble_eq_true rfl) ?_
  intro K C el eD ekn retI
  subst el
  subst eD
  have hlt : ∀ i, i < 1 → i < kn K := fun i h => by rw [ekn]; exact h
  show V K 0 0 _ [(0, .ref A.1)] [] 0
  unfold f_X3_votesHeld at h
  refine V_aload_n C 0 1 dX3_votesHeld_0 rfl rfl ?_
  refine V_get C (v := .ref A.2.1.1) 0 4 fl_X3_10 dX3_votesHeld_1 rfl rfl rfl ?_
  refine V_get C (v := .int (Bk_votes v.2.1)) 1 7 fl_X3_200 dX3_votesHeld_4 rfl rfl rfl ?_
  obtain rfl := Option.some.inj h
  exact retI _ _ _ .int rfl (rfl) rfl dX3_votesHeld_7
set_option maxHeartbeats 4000000 in
set_option maxRecDepth 100000 in
theorem c_X3_motionsCarried {l : Launch} {D : va_G} {g : G0} {A : XA} {v : XV} {R : Int32} (h : f_X3_motionsCarried v  = some R) : CtP l D g yX3_motionsCarried cX3_motionsCarried 1 (some .int) (rmF 0 0) (mgW A v.1 ++ (bkW g A.2.1 v.2.1 ++ (bkW g A.2.2.1 v.2.2.1 ++ (bkW g A.2.2.2.1 v.2.2.2.1 ++ (hsW g A.2.2.2.2.1 A.2.2.2.2.2.2.2 v.2.2.2.2.1 ++ (scW g A.2.2.2.2.2.1 v.2.2.2.2.2.1 ++ (sbW g A.2.2.2.2.2.2.1 v.2.2.2.2.2.2.1 ++ (hbW g A.2.2.2.2.2.2.2 v.2.2.2.2.2.2.2)))))))) [.ref A.1] (some (.int R)) := by
  refine CtP.of (by decide) rfl rfl (Nat.le_of_ble_eq_true rfl) ?_
  intro K C el eD ekn retI
  subst el
  subst eD
  have hlt : ∀ i, i < 1 → i < kn K := fun i h => by rw [ekn]; exact h
  show V K 0 0 _ [(0, .ref A.1)] [] 0
  unfold f_X3_motionsCarried at h
  refine V_aload_n C 0 1 dX3_motionsCarried_0 rfl rfl ?_
  refine V_get C (v := .ref A.2.1.1) 0 4 fl_X3_10 dX3_motionsCarried_1 rfl rfl rfl ?_
  refine V_get C (v := .int (Bk_carried v.2.1)) 1 7 fl_X3_203 dX3_motionsCarried_4 rfl rfl rfl ?_
  obtain rfl := Option.some.inj h
  exact retI _ _ _ .int rfl (rfl) rfl dX3_motionsCarried_7
set_option maxHeartbeats 4000000 in
set_option maxRecDepth 100000 in
theorem c_X3_isConsistent {l : Launch} {D : va_G} {g : G0} {A : XA} {v : XV} {R : Int32} (h : f_X3_isConsistent v  = some R) : CtP l D g yX3_isConsistent cX3_isConsistent 1 (some .boolean) (rmF 4 88) (mgW A v.1 ++ (bkW g A.2.1 v.2.1 ++ (bkW g A.2.2.1 v.2.2.1 ++ (bkW g A.2.2.2.1 v.2.2.2.1 ++ (hsW g A.2.2.2.2.1 A.2.2.2.2.2.2.2 v.2.2.2.2.1 ++ (scW g A.2.2.2.2.2.1 v.2.2.2.2.2.1 ++ (sbW g A.2.2.2.2.2.2.1 v.2.2.2.2.2.2.1 ++ (hbW g A.2.2.2.2.2.2.2 v.2.2.2.2.2.2.2)))))))) [.ref A.1] (some (.int R)) := by
  refine CtP.of (by decide) rfl rfl (Nat.le_of_ble_eq_true rfl) ?_
  intro K C el eD ekn retI
  subst el
  subst eD
  have hlt : ∀ i, i < 1 → i < kn K := fun i h => by rw [ekn]; exact h
  have B52 : ∀ (s0 : Int32), f_X3_isConsistent_B52 v s0 = some R → V K 0 0 (mgW A v.1 ++ (bkW g A.2.1 v.2.1 ++ (bkW g A.2.2.1 v.2.2.1 ++ (bkW g A.2.2.2.1 v.2.2.2.1 ++ (hsW g A.2.2.2.2.1 A.2.2.2.2.2.2.2 v.2.2.2.2.1 ++ (scW g A.2.2.2.2.2.1 v.2.2.2.2.2.1 ++ (sbW g A.2.2.2.2.2.2.1 v.2.2.2.2.2.2.1 ++ (hbW g A.2.2.2.2.2.2.2 v.2.2.2.2.2.2.2)))))))) [(0, .ref A.1)] [.int s0] 52 := by
    intro s0 h
    rw [f_X3_isConsistent_B52] at h
    obtain ⟨g1, h⟩ := gd_some h
    obtain rfl := Option.some.inj h
    exact retI _ _ _ .boolean rfl (isz_t g1) rfl dX3_isConsistent_52
  have B51 : f_X3_isConsistent_B51 v  = some R → V K 0 0 (mgW A v.1 ++ (bkW g A.2.1 v.2.1 ++ (bkW g A.2.2.1 v.2.2.1 ++ (bkW g A.2.2.2.1 v.2.2.2.1 ++ (hsW g A.2.2.2.2.1 A.2.2.2.2.2.2.2 v.2.2.2.2.1 ++ (scW g A.2.2.2.2.2.1 v.2.2.2.2.2.1 ++ (sbW g A.2.2.2.2.2.2.1 v.2.2.2.2.2.2.1 ++ (hbW g A.2.2.2.2.2.2.2 v.2.2.2.2.2.2.2)))))))) [(0, .ref A.1)] [] 51 := by
    intro  h
    rw [f_X3_isConsistent_B51] at h
    refine V_iconst C (0 : Int32) 52 dX3_isConsistent_51 rfl rfl ?_
    refine V_lv [0] rfl ?_
    exact B52 _ h
  show V K 0 0 _ [(0, .ref A.1)] [] 0
  unfold f_X3_isConsistent at h
  refine V_aload_n C 0 1 dX3_isConsistent_0 rfl rfl ?_
  refine V_get C (v := .ref A.2.1.1) 0 4 fl_X3_10 dX3_isConsistent_1 rfl rfl rfl ?_
  obtain ⟨r2, k3, h⟩ := bd_some h
  refine V_callP C ml_X3_217 (pre := mgW A v.1) (post := bkW g A.2.2.1 v.2.2.1 ++ (bkW g A.2.2.2.1 v.2.2.2.1 ++ (hsW g A.2.2.2.2.1 A.2.2.2.2.2.2.2 v.2.2.2.2.1 ++ (scW g A.2.2.2.2.2.1 v.2.2.2.2.2.1 ++ (sbW g A.2.2.2.2.2.2.1 v.2.2.2.2.2.2.1 ++ (hbW g A.2.2.2.2.2.2.2 v.2.2.2.2.2.2.2)))))) (w := bkW g A.2.1 v.2.1) (as := []) (rest := []) (c_X0_chapterWaysAgree k3) 1 7 dX3_isConsistent_4 rfl ⟨Nat.le_of_ble_eq_true rfl, Nat.le_of_ble_eq_true rfl⟩ rfl (by first | (simp only [List.append_assoc, List.nil_append, List.append_nil]; done) | rfl) rfl rfl rfl (Nat.le_of_ble_eq_true rfl) ⟨Nat.zero_le _, Nat.zero_le _⟩ ?_
  refine V_if_eq C 51 10 dX3_isConsistent_7 rfl rfl (fun e4 => ?_) (fun e4 => ?_)
  · have h := (if_pos e4).symm.trans h
    refine V_lv [0] rfl ?_
    exact B51  h
  · have h := (if_neg e4).symm.trans h
    refine V_aload_n C 0 11 dX3_isConsistent_10 rfl rfl ?_
    refine V_get C (v := .ref A.2.1.1) 0 14 fl_X3_10 dX3_isConsistent_11 rfl rfl rfl ?_
    obtain ⟨r5, k6, h⟩ := bd_some h
    refine V_callP C ml_X3_184 (pre := mgW A v.1) (post := bkW g A.2.2.1 v.2.2.1 ++ (bkW g A.2.2.2.1 v.2.2.2.1 ++ (hsW g A.2.2.2.2.1 A.2.2.2.2.2.2.2 v.2.2.2.2.1 ++ (scW g A.2.2.2.2.2.1 v.2.2.2.2.2.1 ++ (sbW g A.2.2.2.2.2.2.1 v.2.2.2.2.2.2.1 ++ (hbW g A.2.2.2.2.2.2.2 v.2.2.2.2.2.2.2)))))) (w := bkW g A.2.1 v.2.1) (as := []) (rest := []) (c_X0_spanStepByStep k6) 1 17 dX3_isConsistent_14 rfl ⟨Nat.le_of_ble_eq_true rfl, Nat.le_of_ble_eq_true rfl⟩ rfl (by first | (simp only [List.append_assoc, List.nil_append, List.append_nil]; done) | rfl) rfl rfl rfl (Nat.le_of_ble_eq_true rfl) ⟨Nat.zero_le _, Nat.zero_le _⟩ ?_
    refine V_aload_n C 0 18 dX3_isConsistent_17 rfl rfl ?_
    refine V_get C (v := .ref A.2.1.1) 0 21 fl_X3_10 dX3_isConsistent_18 rfl rfl rfl ?_
    obtain ⟨r7, k8, h⟩ := bd_some h
    refine V_callP C ml_X3_187 (pre := mgW A v.1) (post := bkW g A.2.2.1 v.2.2.1 ++ (bkW g A.2.2.2.1 v.2.2.2.1 ++ (hsW g A.2.2.2.2.1 A.2.2.2.2.2.2.2 v.2.2.2.2.1 ++ (scW g A.2.2.2.2.2.1 v.2.2.2.2.2.1 ++ (sbW g A.2.2.2.2.2.2.1 v.2.2.2.2.2.2.1 ++ (hbW g A.2.2.2.2.2.2.2 v.2.2.2.2.2.2.2)))))) (w := bkW g A.2.1 v.2.1) (as := []) (rest := [.int r5]) (c_X0_spanEndToEnd k8) 1 24 dX3_isConsistent_21 rfl ⟨Nat.le_of_ble_eq_true rfl, Nat.le_of_ble_eq_true rfl⟩ rfl (by first | (simp only [List.append_assoc, List.nil_append, List.append_nil]; done) | rfl) rfl rfl rfl (Nat.le_of_ble_eq_true rfl) ⟨Nat.zero_le _, Nat.zero_le _⟩ ?_
    refine V_icmp_ne C 51 27 dX3_isConsistent_24 rfl rfl (fun e9 => ?_) (fun e9 => ?_)
    · have h := (if_neg e9).symm.trans h
      refine V_lv [0] rfl ?_
      exact B51  h
    · have h := (if_pos e9).symm.trans h
      refine V_aload_n C 0 28 dX3_isConsistent_27 rfl rfl ?_
      refine V_get C (v := .ref A.2.1.1) 0 31 fl_X3_10 dX3_isConsistent_28 rfl rfl rfl ?_
      obtain ⟨r10, k11, h⟩ := bd_some h
      refine V_callP C ml_X3_221 (pre := mgW A v.1) (post := bkW g A.2.2.1 v.2.2.1 ++ (bkW g A.2.2.2.1 v.2.2.2.1 ++ (hsW g A.2.2.2.2.1 A.2.2.2.2.2.2.2 v.2.2.2.2.1 ++ (scW g A.2.2.2.2.2.1 v.2.2.2.2.2.1 ++ (sbW g A.2.2.2.2.2.2.1 v.2.2.2.2.2.2.1 ++ (hbW g A.2.2.2.2.2.2.2 v.2.2.2.2.2.2.2)))))) (w := bkW g A.2.1 v.2.1) (as := []) (rest := []) (c_X0_pagesDiffer k11) 1 34 dX3_isConsistent_31 rfl ⟨Nat.le_of_ble_eq_true rfl, Nat.le_of_ble_eq_true rfl⟩ rfl (by first | (simp only [List.append_assoc, List.nil_append, List.append_nil]; done) | rfl) rfl rfl rfl (Nat.le_of_ble_eq_true rfl) ⟨Nat.zero_le _, Nat.zero_le _⟩ ?_
      refine V_if_eq C 51 37 dX3_isConsistent_34 rfl rfl (fun e12 => ?_) (fun e12 => ?_)
      · have h := (if_pos e12).symm.trans h
        refine V_lv [0] rfl ?_
        exact B51  h
      · have h := (if_neg e12).symm.trans h
        refine V_aload_n C 0 38 dX3_isConsistent_37 rfl rfl ?_
        refine V_get C (v := .ref A.2.1.1) 0 41 fl_X3_10 dX3_isConsistent_38 rfl rfl rfl ?_
        obtain ⟨r13, k14, h⟩ := bd_some h
        refine V_callP C ml_X3_224 (pre := mgW A v.1) (post := bkW g A.2.2.1 v.2.2.1 ++ (bkW g A.2.2.2.1 v.2.2.2.1 ++ (hsW g A.2.2.2.2.1 A.2.2.2.2.2.2.2 v.2.2.2.2.1 ++ (scW g A.2.2.2.2.2.1 v.2.2.2.2.2.1 ++ (sbW g A.2.2.2.2.2.2.1 v.2.2.2.2.2.2.1 ++ (hbW g A.2.2.2.2.2.2.2 v.2.2.2.2.2.2.2)))))) (w := bkW g A.2.1 v.2.1) (as := []) (rest := []) (c_X0_seatsDiffer k14) 1 44 dX3_isConsistent_41 rfl ⟨Nat.le_of_ble_eq_true rfl, Nat.le_of_ble_eq_true rfl⟩ rfl (by first | (simp only [List.append_assoc, List.nil_append, List.append_nil]; done) | rfl) rfl rfl rfl (Nat.le_of_ble_eq_true rfl) ⟨Nat.zero_le _, Nat.zero_le _⟩ ?_
        refine V_if_eq C 51 47 dX3_isConsistent_44 rfl rfl (fun e15 => ?_) (fun e15 => ?_)
        · have h := (if_pos e15).symm.trans h
          refine V_lv [0] rfl ?_
          exact B51  h
        · have h := (if_neg e15).symm.trans h
          refine V_iconst C (1 : Int32) 48 dX3_isConsistent_47 rfl rfl ?_
          refine V_goto C 52 dX3_isConsistent_48 rfl ?_
          refine V_lv [0] rfl ?_
          exact B52 _ h
