set_option maxHeartbeats 4000000 in
set_option maxRecDepth 100000 in
theorem c_X0_hasPage {l : Launch} {D : va_G} {g : G0} {A : BkA} {v : BkV} {a1 : Int32} {R : Int32} (h : f_X0_hasPage v a1 = some R) : CtP l D g yX0_hasPage cX0_hasPage 2 (some .boolean) (rmF 0 0) (bkW g A v) [.ref A.1, .int a1] (some (.int R)) := by
  refine CtP.of (by decide) rfl rfl (Nat.le_of_ble_eq_true rfl) ?_
  intro K C el eD ekn retI
  subst el
  subst eD
  have hlt : ∀ i, i < 2 → i < kn K := fun i h => by rw [ekn]; exact h
  have B15 : ∀ (x1 : Int32) (s0 : Int32), f_X0_hasPage_B15 v x1 s0 = some R → V K 0 0 (bkW g A v) [(0, .ref A.1), (1, .int x1)] [.int s0] 15 := by
    intro x1 s0 h
    rw [f_X0_hasPage_B15] at h
    obtain ⟨g1, h⟩ := gd_some h
    obtain rfl := Option.some.inj h
    exact retI _ _ _ .boolean rfl (isz_t g1) rfl dX0_hasPage_15
  have B14 : ∀ (x1 : Int32), f_X0_hasPage_B14 v x1 = some R → V K 0 0 (bkW g A v) [(0, .ref A.1), (1, .int x1)] [] 14 := by
    intro x1 h
    rw [f_X0_hasPage_B14] at h
    refine V_iconst C (0 : Int32) 15 dX0_hasPage_14 rfl rfl ?_
    refine V_lv [0, 1] rfl ?_
    exact B15 _ _ h
  show V K 0 0 _ [(0, .ref A.1), (1, .int a1)] [] 0
  unfold f_X0_hasPage at h
  refine V_iload_n C 1 1 dX0_hasPage_0 rfl rfl ?_
  refine V_if_lt C 14 4 dX0_hasPage_1 rfl rfl (fun e2 => ?_) (fun e2 => ?_)
  · have h := (if_pos e2).symm.trans h
    refine V_lv [0, 1] rfl ?_
    exact B14 _ h
  · have h := (if_neg e2).symm.trans h
    refine V_iload_n C 1 5 dX0_hasPage_4 rfl rfl ?_
    refine V_bipush C (60 : Int32) 7 dX0_hasPage_5 rfl rfl ?_
    refine V_icmp_ge C 14 10 dX0_hasPage_7 rfl rfl (fun e3 => ?_) (fun e3 => ?_)
    · have h := (if_pos e3).symm.trans h
      refine V_lv [0, 1] rfl ?_
      exact B14 _ h
    · have h := (if_neg e3).symm.trans h
      refine V_iconst C (1 : Int32) 11 dX0_hasPage_10 rfl rfl ?_
      refine V_goto C 15 dX0_hasPage_11 rfl ?_
      refine V_lv [0, 1] rfl ?_
      exact B15 _ _ h
set_option maxHeartbeats 4000000 in
set_option maxRecDepth 100000 in
theorem c_X0_hasChapter {l : Launch} {D : va_G} {g : G0} {A : BkA} {v : BkV} {a1 : Int32} {R : Int32} (h : f_X0_hasChapter v a1 = some R) : CtP l D g yX0_hasChapter cX0_hasChapter 2 (some .boolean) (rmF 0 0) (bkW g A v) [.ref A.1, .int a1] (some (.int R)) := by
  refine CtP.of (by decide) rfl rfl (Nat.le_of_ble_eq_true rfl) ?_
  intro K C el eD ekn retI
  subst el
  subst eD
  have hlt : ∀ i, i < 2 → i < kn K := fun i h => by rw [ekn]; exact h
  have B17 : ∀ (x1 : Int32) (s0 : Int32), f_X0_hasChapter_B17 v x1 s0 = some R → V K 0 0 (bkW g A v) [(0, .ref A.1), (1, .int x1)] [.int s0] 17 := by
    intro x1 s0 h
    rw [f_X0_hasChapter_B17] at h
    obtain ⟨g1, h⟩ := gd_some h
    obtain rfl := Option.some.inj h
    exact retI _ _ _ .boolean rfl (isz_t g1) rfl dX0_hasChapter_17
  have B16 : ∀ (x1 : Int32), f_X0_hasChapter_B16 v x1 = some R → V K 0 0 (bkW g A v) [(0, .ref A.1), (1, .int x1)] [] 16 := by
    intro x1 h
    rw [f_X0_hasChapter_B16] at h
    refine V_iconst C (0 : Int32) 17 dX0_hasChapter_16 rfl rfl ?_
    refine V_lv [0, 1] rfl ?_
    exact B17 _ _ h
  show V K 0 0 _ [(0, .ref A.1), (1, .int a1)] [] 0
  unfold f_X0_hasChapter at h
  refine V_iload_n C 1 1 dX0_hasChapter_0 rfl rfl ?_
  refine V_if_lt C 16 4 dX0_hasChapter_1 rfl rfl (fun e2 => ?_) (fun e2 => ?_)
  · have h := (if_pos e2).symm.trans h
    refine V_lv [0, 1] rfl ?_
    exact B16 _ h
  · have h := (if_neg e2).symm.trans h
    refine V_iload_n C 1 5 dX0_hasChapter_4 rfl rfl ?_
    refine V_aload_n C 0 6 dX0_hasChapter_5 rfl rfl ?_
    refine V_get C (v := .int (Bk_chapters v)) 0 9 fl_X0_34 dX0_hasChapter_6 rfl rfl rfl ?_
    refine V_icmp_ge C 16 12 dX0_hasChapter_9 rfl rfl (fun e3 => ?_) (fun e3 => ?_)
    · have h := (if_pos e3).symm.trans h
      refine V_lv [0, 1] rfl ?_
      exact B16 _ h
    · have h := (if_neg e3).symm.trans h
      refine V_iconst C (1 : Int32) 13 dX0_hasChapter_12 rfl rfl ?_
      refine V_goto C 17 dX0_hasChapter_13 rfl ?_
      refine V_lv [0, 1] rfl ?_
      exact B17 _ _ h
set_option maxHeartbeats 4000000 in
set_option maxRecDepth 100000 in
theorem c_X0_takesWeight {l : Launch} {D : va_G} {g : G0} {A : BkA} {v : BkV} {a1 : Int32} {R : Int32} (h : f_X0_takesWeight v a1 = some R) : CtP l D g yX0_takesWeight cX0_takesWeight 2 (some .boolean) (rmF 0 0) (bkW g A v) [.ref A.1, .int a1] (some (.int R)) := by
  refine CtP.of (by decide) rfl rfl (Nat.le_of_ble_eq_true rfl) ?_
  intro K C el eD ekn retI
  subst el
  subst eD
  have hlt : ∀ i, i < 2 → i < kn K := fun i h => by rw [ekn]; exact h
  have B16 : ∀ (x1 : Int32) (s0 : Int32), f_X0_takesWeight_B16 v x1 s0 = some R → V K 0 0 (bkW g A v) [(0, .ref A.1), (1, .int x1)] [.int s0] 16 := by
    intro x1 s0 h
    rw [f_X0_takesWeight_B16] at h
    obtain ⟨g1, h⟩ := gd_some h
    obtain rfl := Option.some.inj h
    exact retI _ _ _ .boolean rfl (isz_t g1) rfl dX0_takesWeight_16
  have B15 : ∀ (x1 : Int32), f_X0_takesWeight_B15 v x1 = some R → V K 0 0 (bkW g A v) [(0, .ref A.1), (1, .int x1)] [] 15 := by
    intro x1 h
    rw [f_X0_takesWeight_B15] at h
    refine V_iconst C (0 : Int32) 16 dX0_takesWeight_15 rfl rfl ?_
    refine V_lv [0, 1] rfl ?_
    exact B16 _ _ h
  show V K 0 0 _ [(0, .ref A.1), (1, .int a1)] [] 0
  unfold f_X0_takesWeight at h
  refine V_iload_n C 1 1 dX0_takesWeight_0 rfl rfl ?_
  refine V_iconst C (1 : Int32) 2 dX0_takesWeight_1 rfl rfl ?_
  refine V_icmp_lt C 15 5 dX0_takesWeight_2 rfl rfl (fun e2 => ?_) (fun e2 => ?_)
  · have h := (if_pos e2).symm.trans h
    refine V_lv [0, 1] rfl ?_
    exact B15 _ h
  · have h := (if_neg e2).symm.trans h
    refine V_iload_n C 1 6 dX0_takesWeight_5 rfl rfl ?_
    refine V_bipush C (9 : Int32) 8 dX0_takesWeight_6 rfl rfl ?_
    refine V_icmp_gt C 15 11 dX0_takesWeight_8 rfl rfl (fun e3 => ?_) (fun e3 => ?_)
    · have h := (if_pos e3).symm.trans h
      refine V_lv [0, 1] rfl ?_
      exact B15 _ h
    · have h := (if_neg e3).symm.trans h
      refine V_iconst C (1 : Int32) 12 dX0_takesWeight_11 rfl rfl ?_
      refine V_goto C 16 dX0_takesWeight_12 rfl ?_
      refine V_lv [0, 1] rfl ?_
      exact B16 _ _ h
set_option maxHeartbeats 4000000 in
set_option maxRecDepth 100000 in
theorem c_X0_takesCount {l : Launch} {D : va_G} {g : G0} {A : BkA} {v : BkV} {a1 : Int32} {R : Int32} (h : f_X0_takesCount v a1 = some R) : CtP l D g yX0_takesCount cX0_takesCount 2 (some .boolean) (rmF 0 0) (bkW g A v) [.ref A.1, .int a1] (some (.int R)) := by
  refine CtP.of (by decide) rfl rfl (Nat.le_of_ble_eq_true rfl) ?_
  intro K C el eD ekn retI
  subst el
  subst eD
  have hlt : ∀ i, i < 2 → i < kn K := fun i h => by rw [ekn]; exact h
  have B16 : ∀ (x1 : Int32) (s0 : Int32), f_X0_takesCount_B16 v x1 s0 = some R → V K 0 0 (bkW g A v) [(0, .ref A.1), (1, .int x1)] [.int s0] 16 := by
    intro x1 s0 h
    rw [f_X0_takesCount_B16] at h
    obtain ⟨g1, h⟩ := gd_some h
    obtain rfl := Option.some.inj h
    exact retI _ _ _ .boolean rfl (isz_t g1) rfl dX0_takesCount_16
  have B15 : ∀ (x1 : Int32), f_X0_takesCount_B15 v x1 = some R → V K 0 0 (bkW g A v) [(0, .ref A.1), (1, .int x1)] [] 15 := by
    intro x1 h
    rw [f_X0_takesCount_B15] at h
    refine V_iconst C (0 : Int32) 16 dX0_takesCount_15 rfl rfl ?_
    refine V_lv [0, 1] rfl ?_
    exact B16 _ _ h
  show V K 0 0 _ [(0, .ref A.1), (1, .int a1)] [] 0
  unfold f_X0_takesCount at h
  refine V_iload_n C 1 1 dX0_takesCount_0 rfl rfl ?_
  refine V_iconst C (1 : Int32) 2 dX0_takesCount_1 rfl rfl ?_
  refine V_icmp_lt C 15 5 dX0_takesCount_2 rfl rfl (fun e2 => ?_) (fun e2 => ?_)
  · have h := (if_pos e2).symm.trans h
    refine V_lv [0, 1] rfl ?_
    exact B15 _ h
  · have h := (if_neg e2).symm.trans h
    refine V_iload_n C 1 6 dX0_takesCount_5 rfl rfl ?_
    refine V_bipush C (20 : Int32) 8 dX0_takesCount_6 rfl rfl ?_
    refine V_icmp_gt C 15 11 dX0_takesCount_8 rfl rfl (fun e3 => ?_) (fun e3 => ?_)
    · have h := (if_pos e3).symm.trans h
      refine V_lv [0, 1] rfl ?_
      exact B15 _ h
    · have h := (if_neg e3).symm.trans h
      refine V_iconst C (1 : Int32) 12 dX0_takesCount_11 rfl rfl ?_
      refine V_goto C 16 dX0_takesCount_12 rfl ?_
      refine V_lv [0, 1] rfl ?_
      exact B16 _ _ h
set_option maxHeartbeats 4000000 in
set_option maxRecDepth 100000 in
theorem c_X0_hasSeat {l : Launch} {D : va_G} {g : G0} {A : BkA} {v : BkV} {a1 : Int32} {R : Int32} (h : f_X0_hasSeat v a1 = some R) : CtP l D g yX0_hasSeat cX0_hasSeat 2 (some .boolean) (rmF 0 0) (bkW g A v) [.ref A.1, .int a1] (some (.int R)) := by
  refine CtP.of (by decide) rfl rfl (Nat.le_of_ble_eq_true rfl) ?_
  intro K C el eD ekn retI
  subst el
  subst eD
  have hlt : ∀ i, i < 2 → i < kn K := fun i h => by rw [ekn]; exact h
  have B15 : ∀ (x1 : Int32) (s0 : Int32), f_X0_hasSeat_B15 v x1 s0 = some R → V K 0 0 (bkW g A v) [(0, .ref A.1), (1, .int x1)] [.int s0] 15 := by
    intro x1 s0 h
    rw [f_X0_hasSeat_B15] at h
    obtain ⟨g1, h⟩ := gd_some h
    obtain rfl := Option.some.inj h
    exact retI _ _ _ .boolean rfl (isz_t g1) rfl dX0_hasSeat_15
  show V K 0 0 _ [(0, .ref A.1), (1, .int a1)] [] 0
  unfold f_X0_hasSeat at h
  refine V_aload_n C 0 1 dX0_hasSeat_0 rfl rfl ?_
  refine V_get C (v := .ref A.2.2.2.2.2.1) 0 4 fl_X0_24 dX0_hasSeat_1 rfl rfl rfl ?_
  refine V_iload_n C 1 5 dX0_hasSeat_4 rfl rfl ?_
  obtain ⟨g2, h⟩ := gd_some h
  refine V_iald C (f := (Bk_seats v)) (n := 12) 5 6 dX0_hasSeat_5 rfl rfl g2 ?_
  refine V_iconst C (-1 : Int32) 7 dX0_hasSeat_6 rfl rfl ?_
  refine V_icmp_eq C 14 10 dX0_hasSeat_7 rfl rfl (fun e3 => ?_) (fun e3 => ?_)
  · have h := (if_pos e3).symm.trans h
    refine V_iconst C (0 : Int32) 15 dX0_hasSeat_14 rfl rfl ?_
    refine V_lv [0, 1] rfl ?_
    exact B15 _ _ h
  · have h := (if_neg e3).symm.trans h
    refine V_iconst C (1 : Int32) 11 dX0_hasSeat_10 rfl rfl ?_
    refine V_goto C 15 dX0_hasSeat_11 rfl ?_
    refine V_lv [0, 1] rfl ?_
    exact B15 _ _ h
set_option maxHeartbeats 4000000 in
set_option maxRecDepth 100000 in
theorem c_X0_slotWithId {l : Launch} {D : va_G} {g : G0} {A : BkA} {v : BkV} {a1 : Int32} {R : Int32} (h : f_X0_slotWithId v a1 = some R) : CtP l D g yX0_slotWithId cX0_slotWithId 3 (some .int) (rmF 0 0) (bkW g A v) [.ref A.1, .int a1] (some (.int R)) := by
  refine CtP.of (by decide) rfl rfl (Nat.le_of_ble_eq_true rfl) ?_
  intro K C el eD ekn retI
  subst el
  subst eD
  have hlt : ∀ i, i < 3 → i < kn K := fun i h => by rw [ekn]; exact h
  have L2 : ∀ (n : Nat) (x1 : Int32) (x2 : Int32), f_X0_slotWithId_L2 v n x1 x2 = some R → V K 0 0 (bkW g A v) [(0, .ref A.1), (1, .int x1), (2, .int x2)] [] 2 := by
    intro n
    induction n with
    | zero =>
      intro x1 x2 h
      rw [f_X0_slotWithId_L2] at h
      cases h
    | succ n ih =>
      intro x1 x2 h
      rw [f_X0_slotWithId_L2] at h
      refine V_iload_n C 2 3 dX0_slotWithId_2 rfl rfl ?_
      refine V_aload_n C 0 4 dX0_slotWithId_3 rfl rfl ?_
      refine V_get C (v := .int (Bk_marks v)) 0 7 fl_X0_30 dX0_slotWithId_4 rfl rfl rfl ?_
      refine V_icmp_ge C 28 10 dX0_slotWithId_7 rfl rfl (fun e1 => ?_) (fun e1 => ?_)
      · have h := (if_pos e1).symm.trans h
        refine V_iconst C (-1 : Int32) 29 dX0_slotWithId_28 rfl rfl ?_
        obtain rfl := Option.some.inj h
        exact retI _ _ _ .int rfl (rfl) rfl dX0_slotWithId_29
      · have h := (if_neg e1).symm.trans h
        refine V_aload_n C 0 11 dX0_slotWithId_10 rfl rfl ?_
        refine V_get C (v := .ref A.2.1) 0 14 fl_X0_9 dX0_slotWithId_11 rfl rfl rfl ?_
        refine V_iload_n C 2 15 dX0_slotWithId_14 rfl rfl ?_
        obtain ⟨g2, h⟩ := gd_some h
        refine V_iald C (f := (Bk_ids v)) (n := 12) 1 16 dX0_slotWithId_15 rfl rfl g2 ?_
        refine V_iload_n C 1 17 dX0_slotWithId_16 rfl rfl ?_
        refine V_icmp_ne C 22 20 dX0_slotWithId_17 rfl rfl (fun e3 => ?_) (fun e3 => ?_)
        · have h := (if_neg e3).symm.trans h
          refine V_iinc C 2 (x2 + (1 : Int32)) 25 [(2, .int (x2 + (1 : Int32))), (0, .ref A.1), (1, .int x1)] dX0_slotWithId_22 rfl rfl rfl (hlt 2 (by decide)) rfl ?_
          refine V_goto C 2 dX0_slotWithId_25 rfl ?_
          refine V_lv [1, 2, 0] rfl ?_
          exact ih _ _ h
        · have h := (if_pos e3).symm.trans h
          refine V_iload_n C 2 21 dX0_slotWithId_20 rfl rfl ?_
          obtain rfl := Option.some.inj h
          exact retI _ _ _ .int rfl (rfl) rfl dX0_slotWithId_21
  show V K 0 0 _ [(0, .ref A.1), (1, .int a1)] [] 0
  unfold f_X0_slotWithId at h
  refine V_iconst C (0 : Int32) 1 dX0_slotWithId_0 rfl rfl ?_
  refine V_istore_n C 2 [(2, .int (0 : Int32)), (0, .ref A.1), (1, .int a1)] dX0_slotWithId_1 rfl (hlt 2 (by decide)) rfl ?_
  refine V_lv [1, 2, 0] rfl ?_
  exact L2 100 _ _ h
set_option maxHeartbeats 4000000 in
set_option maxRecDepth 100000 in
theorem c_X0_slotOnPage {l : Launch} {D : va_G} {g : G0} {A : BkA} {v : BkV} {a1 : Int32} {R : Int32} (h : f_X0_slotOnPage v a1 = some R) : CtP l D g yX0_slotOnPage cX0_slotOnPage 3 (some .int) (rmF 0 0) (bkW g A v) [.ref A.1, .int a1] (some (.int R)) := by
  refine CtP.of (by decide) rfl rfl (Nat.le_of_ble_eq_true rfl) ?_
  intro K C el eD ekn retI
  subst el
  subst eD
  have hlt : ∀ i, i < 3 → i < kn K := fun i h => by rw [ekn]; exact h
  have L2 : ∀ (n : Nat) (x1 : Int32) (x2 : Int32), f_X0_slotOnPage_L2 v n x1 x2 = some R → V K 0 0 (bkW g A v) [(0, .ref A.1), (1, .int x1), (2, .int x2)] [] 2 := by
    intro n
    induction n with
    | zero =>
      intro x1 x2 h
      rw [f_X0_slotOnPage_L2] at h
      cases h
    | succ n ih =>
      intro x1 x2 h
      rw [f_X0_slotOnPage_L2] at h
      refine V_iload_n C 2 3 dX0_slotOnPage_2 rfl rfl ?_
      refine V_aload_n C 0 4 dX0_slotOnPage_3 rfl rfl ?_
      refine V_get C (v := .int (Bk_marks v)) 0 7 fl_X0_30 dX0_slotOnPage_4 rfl rfl rfl ?_
      refine V_icmp_ge C 28 10 dX0_slotOnPage_7 rfl rfl (fun e1 => ?_) (fun e1 => ?_)
      · have h := (if_pos e1).symm.trans h
        refine V_iconst C (-1 : Int32) 29 dX0_slotOnPage_28 rfl rfl ?_
        obtain rfl := Option.some.inj h
        exact retI _ _ _ .int rfl (rfl) rfl dX0_slotOnPage_29
      · have h := (if_neg e1).symm.trans h
        refine V_aload_n C 0 11 dX0_slotOnPage_10 rfl rfl ?_
        refine V_get C (v := .ref A.2.2.1) 0 14 fl_X0_15 dX0_slotOnPage_11 rfl rfl rfl ?_
        refine V_iload_n C 2 15 dX0_slotOnPage_14 rfl rfl ?_
        obtain ⟨g2, h⟩ := gd_some h
        refine V_iald C (f := (Bk_pages v)) (n := 12) 2 16 dX0_slotOnPage_15 rfl rfl g2 ?_
        refine V_iload_n C 1 17 dX0_slotOnPage_16 rfl rfl ?_
        refine V_icmp_ne C 22 20 dX0_slotOnPage_17 rfl rfl (fun e3 => ?_) (fun e3 => ?_)
        · have h := (if_neg e3).symm.trans h
          refine V_iinc C 2 (x2 + (1 : Int32)) 25 [(2, .int (x2 + (1 : Int32))), (0, .ref A.1), (1, .int x1)] dX0_slotOnPage_22 rfl rfl rfl (hlt 2 (by decide)) rfl ?_
          refine V_goto C 2 dX0_slotOnPage_25 rfl ?_
          refine V_lv [1, 2, 0] rfl ?_
          exact ih _ _ h
        · have h := (if_pos e3).symm.trans h
          refine V_iload_n C 2 21 dX0_slotOnPage_20 rfl rfl ?_
          obtain rfl := Option.some.inj h
          exact retI _ _ _ .int rfl (rfl) rfl dX0_slotOnPage_21
  show V K 0 0 _ [(0, .ref A.1), (1, .int a1)] [] 0
  unfold f_X0_slotOnPage at h
  refine V_iconst C (0 : Int32) 1 dX0_slotOnPage_0 rfl rfl ?_
  refine V_istore_n C 2 [(2, .int (0 : Int32)), (0, .ref A.1), (1, .int a1)] dX0_slotOnPage_1 rfl (hlt 2 (by decide)) rfl ?_
  refine V_lv [1, 2, 0] rfl ?_
  exact L2 100 _ _ h
set_option maxHeartbeats 4000000 in
set_option maxRecDepth 100000 in
theorem c_X0_slotInSeat {l : Launch} {D : va_G} {g : G0} {A : BkA} {v : BkV} {a1 : Int32} {R : Int32} (h : f_X0_slotInSeat v a1 = some R) : CtP l D g yX0_slotInSeat cX0_slotInSeat 3 (some .int) (rmF 0 0) (bkW g A v) [.ref A.1, .int a1] (some (.int R)) := by
  refine CtP.of (by decide) rfl rfl (Nat.le_of_ble_eq_true rfl) ?_
  intro K C el eD ekn retI
  subst el
  subst eD
  have hlt : ∀ i, i < 3 → i < kn K := fun i h => by rw [ekn]; exact h
  have L2 : ∀ (n : Nat) (x1 : Int32) (x2 : Int32), f_X0_slotInSeat_L2 v n x1 x2 = some R → V K 0 0 (bkW g A v) [(0, .ref A.1), (1, .int x1), (2, .int x2)] [] 2 := by
    intro n
    induction n with
    | zero =>
      intro x1 x2 h
      rw [f_X0_slotInSeat_L2] at h
      cases h
    | succ n ih =>
      intro x1 x2 h
      rw [f_X0_slotInSeat_L2] at h
      refine V_iload_n C 2 3 dX0_slotInSeat_2 rfl rfl ?_
      refine V_aload_n C 0 4 dX0_slotInSeat_3 rfl rfl ?_
      refine V_get C (v := .int (Bk_marks v)) 0 7 fl_X0_30 dX0_slotInSeat_4 rfl rfl rfl ?_
      refine V_icmp_ge C 28 10 dX0_slotInSeat_7 rfl rfl (fun e1 => ?_) (fun e1 => ?_)
      · have h := (if_pos e1).symm.trans h
        refine V_iconst C (-1 : Int32) 29 dX0_slotInSeat_28 rfl rfl ?_
        obtain rfl := Option.some.inj h
        exact retI _ _ _ .int rfl (rfl) rfl dX0_slotInSeat_29
      · have h := (if_neg e1).symm.trans h
        refine V_aload_n C 0 11 dX0_slotInSeat_10 rfl rfl ?_
        refine V_get C (v := .ref A.2.2.2.2.2.1) 0 14 fl_X0_24 dX0_slotInSeat_11 rfl rfl rfl ?_
        refine V_iload_n C 2 15 dX0_slotInSeat_14 rfl rfl ?_
        obtain ⟨g2, h⟩ := gd_some h
        refine V_iald C (f := (Bk_seats v)) (n := 12) 5 16 dX0_slotInSeat_15 rfl rfl g2 ?_
        refine V_iload_n C 1 17 dX0_slotInSeat_16 rfl rfl ?_
        refine V_icmp_ne C 22 20 dX0_slotInSeat_17 rfl rfl (fun e3 => ?_) (fun e3 => ?_)
        · have h := (if_neg e3).symm.trans h
          refine V_iinc C 2 (x2 + (1 : Int32)) 25 [(2, .int (x2 + (1 : Int32))), (0, .ref A.1), (1, .int x1)] dX0_slotInSeat_22 rfl rfl rfl (hlt 2 (by decide)) rfl ?_
          refine V_goto C 2 dX0_slotInSeat_25 rfl ?_
          refine V_lv [1, 2, 0] rfl ?_
          exact ih _ _ h
        · have h := (if_pos e3).symm.trans h
          refine V_iload_n C 2 21 dX0_slotInSeat_20 rfl rfl ?_
          obtain rfl := Option.some.inj h
          exact retI _ _ _ .int rfl (rfl) rfl dX0_slotInSeat_21
  show V K 0 0 _ [(0, .ref A.1), (1, .int a1)] [] 0
  unfold f_X0_slotInSeat at h
  refine V_iconst C (0 : Int32) 1 dX0_slotInSeat_0 rfl rfl ?_
  refine V_istore_n C 2 [(2, .int (0 : Int32)), (0, .ref A.1), (1, .int a1)] dX0_slotInSeat_1 rfl (hlt 2 (by decide)) rfl ?_
  refine V_lv [1, 2, 0] rfl ?_
  exact L2 100 _ _ h
set_option maxHeartbeats 4000000 in
set_option maxRecDepth 100000 in
theorem c_X0_slotFrom {l : Launch} {D : va_G} {g : G0} {A : BkA} {v : BkV} {a1 : Int32} {R : Int32} (h : f_X0_slotFrom v a1 = some R) : CtP l D g yX0_slotFrom cX0_slotFrom 3 (some .int) (rmF 0 0) (bkW g A v) [.ref A.1, .int a1] (some (.int R)) := by
  refine CtP.of (by decide) rfl rfl (Nat.le_of_ble_eq_true rfl) ?_
  intro K C el eD ekn retI
  subst el
  subst eD
  have hlt : ∀ i, i < 3 → i < kn K := fun i h => by rw [ekn]; exact h
  have L2 : ∀ (n : Nat) (x1 : Int32) (x2 : Int32), f_X0_slotFrom_L2 v n x1 x2 = some R → V K 0 0 (bkW g A v) [(0, .ref A.1), (1, .int x1), (2, .int x2)] [] 2 := by
    intro n
    induction n with
    | zero =>
      intro x1 x2 h
      rw [f_X0_slotFrom_L2] at h
      cases h
    | succ n ih =>
      intro x1 x2 h
      rw [f_X0_slotFrom_L2] at h
      refine V_iload_n C 2 3 dX0_slotFrom_2 rfl rfl ?_
      refine V_aload_n C 0 4 dX0_slotFrom_3 rfl rfl ?_
      refine V_get C (v := .int (Bk_marks v)) 0 7 fl_X0_30 dX0_slotFrom_4 rfl rfl rfl ?_
      refine V_icmp_ge C 28 10 dX0_slotFrom_7 rfl rfl (fun e1 => ?_) (fun e1 => ?_)
      · have h := (if_pos e1).symm.trans h
        refine V_iconst C (-1 : Int32) 29 dX0_slotFrom_28 rfl rfl ?_
        obtain rfl := Option.some.inj h
        exact retI _ _ _ .int rfl (rfl) rfl dX0_slotFrom_29
      · have h := (if_neg e1).symm.trans h
        refine V_aload_n C 0 11 dX0_slotFrom_10 rfl rfl ?_
        refine V_get C (v := .ref A.2.2.1) 0 14 fl_X0_15 dX0_slotFrom_11 rfl rfl rfl ?_
        refine V_iload_n C 2 15 dX0_slotFrom_14 rfl rfl ?_
        obtain ⟨g2, h⟩ := gd_some h
        refine V_iald C (f := (Bk_pages v)) (n := 12) 2 16 dX0_slotFrom_15 rfl rfl g2 ?_
        refine V_iload_n C 1 17 dX0_slotFrom_16 rfl rfl ?_
        refine V_icmp_lt C 22 20 dX0_slotFrom_17 rfl rfl (fun e3 => ?_) (fun e3 => ?_)
        · have h := (if_pos e3).symm.trans h
          refine V_iinc C 2 (x2 + (1 : Int32)) 25 [(2, .int (x2 + (1 : Int32))), (0, .ref A.1), (1, .int x1)] dX0_slotFrom_22 rfl rfl rfl (hlt 2 (by decide)) rfl ?_
          refine V_goto C 2 dX0_slotFrom_25 rfl ?_
          refine V_lv [1, 2, 0] rfl ?_
          exact ih _ _ h
        · have h := (if_neg e3).symm.trans h
          refine V_iload_n C 2 21 dX0_slotFrom_20 rfl rfl ?_
          obtain rfl := Option.some.inj h
          exact retI _ _ _ .int rfl (rfl) rfl dX0_slotFrom_21
  show V K 0 0 _ [(0, .ref A.1), (1, .int a1)] [] 0
  unfold f_X0_slotFrom at h
  refine V_iconst C (0 : Int32) 1 dX0_slotFrom_0 rfl rfl ?_
  refine V_istore_n C 2 [(2, .int (0 : Int32)), (0, .ref A.1), (1, .int a1)] dX0_slotFrom_1 rfl (hlt 2 (by decide)) rfl ?_
  refine V_lv [1, 2, 0] rfl ?_
  exact L2 100 _ _ h
set_option maxHeartbeats 4000000 in
set_option maxRecDepth 100000 in
theorem c_X0_slotUpTo {l : Launch} {D : va_G} {g : G0} {A : BkA} {v : BkV} {a1 : Int32} {R : Int32} (h : f_X0_slotUpTo v a1 = some R) : CtP l D g yX0_slotUpTo cX0_slotUpTo 3 (some .int) (rmF 0 0) (bkW g A v) [.ref A.1, .int a1] (some (.int R)) := by
  refine CtP.of (by decide) rfl rfl (Nat.le_of_ble_eq_true rfl) ?_
  intro K C el eD ekn retI
  subst el
  subst eD
  have hlt : ∀ i, i < 3 → i < kn K := fun i h => by rw [ekn]; exact h
  have L7 : ∀ (n : Nat) (x1 : Int32) (x2 : Int32), f_X0_slotUpTo_L7 v n x1 x2 = some R → V K 0 0 (bkW g A v) [(0, .ref A.1), (1, .int x1), (2, .int x2)] [] 7 := by
    intro n
    induction n with
    | zero =>
      intro x1 x2 h
      rw [f_X0_slotUpTo_L7] at h
      cases h
    | succ n ih =>
      intro x1 x2 h
      rw [f_X0_slotUpTo_L7] at h
      refine V_iload_n C 2 8 dX0_slotUpTo_7 rfl rfl ?_
      refine V_if_lt C 29 11 dX0_slotUpTo_8 rfl rfl (fun e1 => ?_) (fun e1 => ?_)
      · have h := (if_pos e1).symm.trans h
        refine V_iconst C (-1 : Int32) 30 dX0_slotUpTo_29 rfl rfl ?_
        obtain rfl := Option.some.inj h
        exact retI _ _ _ .int rfl (rfl) rfl dX0_slotUpTo_30
      · have h := (if_neg e1).symm.trans h
        refine V_aload_n C 0 12 dX0_slotUpTo_11 rfl rfl ?_
        refine V_get C (v := .ref A.2.2.1) 0 15 fl_X0_15 dX0_slotUpTo_12 rfl rfl rfl ?_
        refine V_iload_n C 2 16 dX0_slotUpTo_15 rfl rfl ?_
        obtain ⟨g2, h⟩ := gd_some h
        refine V_iald C (f := (Bk_pages v)) (n := 12) 2 17 dX0_slotUpTo_16 rfl rfl g2 ?_
        refine V_iload_n C 1 18 dX0_slotUpTo_17 rfl rfl ?_
        refine V_icmp_gt C 23 21 dX0_slotUpTo_18 rfl rfl (fun e3 => ?_) (fun e3 => ?_)
        · have h := (if_pos e3).symm.trans h
          refine V_iinc C 2 (x2 + (-1 : Int32)) 26 [(2, .int (x2 + (-1 : Int32))), (0, .ref A.1), (1, .int x1)] dX0_slotUpTo_23 rfl rfl rfl (hlt 2 (by decide)) rfl ?_
          refine V_goto C 7 dX0_slotUpTo_26 rfl ?_
          refine V_lv [1, 2, 0] rfl ?_
          exact ih _ _ h
        · have h := (if_neg e3).symm.trans h
          refine V_iload_n C 2 22 dX0_slotUpTo_21 rfl rfl ?_
          obtain rfl := Option.some.inj h
          exact retI _ _ _ .int rfl (rfl) rfl dX0_slotUpTo_22
  show V K 0 0 _ [(0, .ref A.1), (1, .int a1)] [] 0
  unfold f_X0_slotUpTo at h
  refine V_aload_n C 0 1 dX0_slotUpTo_0 rfl rfl ?_
  refine V_get C (v := .int (Bk_marks v)) 0 4 fl_X0_30 dX0_slotUpTo_1 rfl rfl rfl ?_
  refine V_iconst C (1 : Int32) 5 dX0_slotUpTo_4 rfl rfl ?_
  refine V_isub C 6 dX0_slotUpTo_5 rfl ?_
  refine V_istore_n C 7 [(2, .int ((Bk_marks v) - (1 : Int32))), (0, .ref A.1), (1, .int a1)] dX0_slotUpTo_6 rfl (hlt 2 (by decide)) rfl ?_
  refine V_lv [1, 2, 0] rfl ?_
  exact L7 100 _ _ h
set_option maxHeartbeats 4000000 in
set_option maxRecDepth 100000 in
theorem c_X0_slotNearest {l : Launch} {D : va_G} {g : G0} {A : BkA} {v : BkV} {a1 : Int32} {R : Int32} (h : f_X0_slotNearest v a1 = some R) : CtP l D g yX0_slotNearest cX0_slotNearest 4 (some .int) (rmF 1 22) (bkW g A v) [.ref A.1, .int a1] (some (.int R)) := by
  refine CtP.of (by decide) rfl rfl (Nat.le_of_ble_eq_true rfl) ?_
  intro K C el eD ekn retI
  subst el
  subst eD
  have hlt : ∀ i, i < 4 → i < kn K := fun i h => by rw [ekn]; exact h
  have B50 : ∀ (x1 : Int32) (x2 : Int32) (x3 : Int32) (s0 : Int32), f_X0_slotNearest_B50 v x1 x2 x3 s0 = some R → V K 0 0 (bkW g A v) [(0, .ref A.1), (1, .int x1), (2, .int x2), (3, .int x3)] [.int s0] 50 := by
    intro x1 x2 x3 s0 h
    rw [f_X0_slotNearest_B50] at h
    obtain rfl := Option.some.inj h
    exact retI _ _ _ .int rfl (rfl) rfl dX0_slotNearest_50
  show V K 0 0 _ [(0, .ref A.1), (1, .int a1)] [] 0
  unfold f_X0_slotNearest at h
  refine V_aload_n C 0 1 dX0_slotNearest_0 rfl rfl ?_
  refine V_iload_n C 1 2 dX0_slotNearest_1 rfl rfl ?_
  obtain ⟨r1, k2, h⟩ := bd_some h
  refine V_callP C ml_X0_58 (pre := []) (post := []) (w := bkW g A v) (as := [.int a1]) (rest := []) (c_X0_slotUpTo k2) 0 5 dX0_slotNearest_2 rfl ⟨Nat.le_of_ble_eq_true rfl, Nat.le_of_ble_eq_true rfl⟩ rfl (rfl) rfl rfl rfl (Nat.le_of_ble_eq_true rfl) ⟨Nat.zero_le _, Nat.zero_le _⟩ ?_
  refine V_istore_n C 6 [(2, .int r1), (0, .ref A.1), (1, .int a1)] dX0_slotNearest_5 rfl (hlt 2 (by decide)) rfl ?_
  refine V_aload_n C 1 7 dX0_slotNearest_6 rfl rfl ?_
  refine V_iload_n C 2 8 dX0_slotNearest_7 rfl rfl ?_
  obtain ⟨r3, k4, h⟩ := bd_some h
  refine V_callP C ml_X0_62 (pre := []) (post := []) (w := bkW g A v) (as := [.int a1]) (rest := []) (c_X0_slotFrom k4) 0 11 dX0_slotNearest_8 rfl ⟨Nat.le_of_ble_eq_true rfl, Nat.le_of_ble_eq_true rfl⟩ rfl (rfl) rfl rfl rfl (Nat.le_of_ble_eq_true rfl) ⟨Nat.zero_le _, Nat.zero_le _⟩ ?_
  refine V_istore_n C 12 [(3, .int r3), (2, .int r1), (0, .ref A.1), (1, .int a1)] dX0_slotNearest_11 rfl (hlt 3 (by decide)) rfl ?_
  refine V_iload_n C 1 13 dX0_slotNearest_12 rfl rfl ?_
  refine V_iconst C (-1 : Int32) 14 dX0_slotNearest_13 rfl rfl ?_
  refine V_icmp_ne C 19 17 dX0_slotNearest_14 rfl rfl (fun e5 => ?_) (fun e5 => ?_)
  · have h := (if_neg e5).symm.trans h
    refine V_iload_n C 0 20 dX0_slotNearest_19 rfl rfl ?_
    refine V_iconst C (-1 : Int32) 21 dX0_slotNearest_20 rfl rfl ?_
    refine V_icmp_ne C 26 24 dX0_slotNearest_21 rfl rfl (fun e6 => ?_) (fun e6 => ?_)
    · have h := (if_neg e6).symm.trans h
      refine V_iload_n C 3 27 dX0_slotNearest_26 rfl rfl ?_
      refine V_aload_n C 2 28 dX0_slotNearest_27 rfl rfl ?_
      refine V_get C (v := .ref A.2.2.1) 0 31 fl_X0_15 dX0_slotNearest_28 rfl rfl rfl ?_
      refine V_iload_n C 1 32 dX0_slotNearest_31 rfl rfl ?_
      obtain ⟨g7, h⟩ := gd_some h
      refine V_iald C (f := (Bk_pages v)) (n := 12) 2 33 dX0_slotNearest_32 rfl rfl g7 ?_
      refine V_isub C 34 dX0_slotNearest_33 rfl ?_
      refine V_aload_n C 2 35 dX0_slotNearest_34 rfl rfl ?_
      refine V_get C (v := .ref A.2.2.1) 0 38 fl_X0_15 dX0_slotNearest_35 rfl rfl rfl ?_
      refine V_iload_n C 0 39 dX0_slotNearest_38 rfl rfl ?_
      obtain ⟨g8, h⟩ := gd_some h
      refine V_iald C (f := (Bk_pages v)) (n := 12) 2 40 dX0_slotNearest_39 rfl rfl g8 ?_
      refine V_iload_n C 3 41 dX0_slotNearest_40 rfl rfl ?_
      refine V_isub C 42 dX0_slotNearest_41 rfl ?_
      refine V_icmp_gt C 49 45 dX0_slotNearest_42 rfl rfl (fun e9 => ?_) (fun e9 => ?_)
      · have h := (if_pos e9).symm.trans h
        refine V_iload_n C 0 50 dX0_slotNearest_49 rfl rfl ?_
        refine V_lv [2, 3, 1, 0] rfl ?_
        exact B50 _ _ _ _ h
      · have h := (if_neg e9).symm.trans h
        refine V_iload_n C 1 46 dX0_slotNearest_45 rfl rfl ?_
        refine V_goto C 50 dX0_slotNearest_46 rfl ?_
        refine V_lv [2, 3, 1, 0] rfl ?_
        exact B50 _ _ _ _ h
    · have h := (if_pos e6).symm.trans h
      refine V_iload_n C 1 25 dX0_slotNearest_24 rfl rfl ?_
      obtain rfl := Option.some.inj h
      exact retI _ _ _ .int rfl (rfl) rfl dX0_slotNearest_25
  · have h := (if_pos e5).symm.trans h
    refine V_iload_n C 0 18 dX0_slotNearest_17 rfl rfl ?_
    obtain rfl := Option.some.inj h
    exact retI _ _ _ .int rfl (rfl) rfl dX0_slotNearest_18
set_option maxHeartbeats 4000000 in
set_option maxRecDepth 100000 in
theorem c_X0_isAhead {l : Launch} {D : va_G} {g : G0} {A : BkA} {v : BkV} {a1 a2 : Int32} {R : Int32} (h : f_X0_isAhead v a1 a2 = some R) : CtP l D g yX0_isAhead cX0_isAhead 3 (some .boolean) (rmF 1 21) (bkW g A v) [.ref A.1, .int a1, .int a2] (some (.int R)) := by
  refine CtP.of (by decide) rfl rfl (Nat.le_of_ble_eq_true rfl) ?_
  intro K C el eD ekn retI
  subst el
  subst eD
  have hlt : ∀ i, i < 3 → i < kn K := fun i h => by rw [ekn]; exact h
  have B75 : ∀ (x1 : Int32) (x2 : Int32) (s0 : Int32), f_X0_isAhead_B75 v x1 x2 s0 = some R → V K 0 0 (bkW g A v) [(0, .ref A.1), (1, .int x1), (2, .int x2)] [.int s0] 75 := by
    intro x1 x2 s0 h
    rw [f_X0_isAhead_B75] at h
    obtain ⟨g1, h⟩ := gd_some h
    obtain rfl := Option.some.inj h
    exact retI _ _ _ .boolean rfl (isz_t g1) rfl dX0_isAhead_75
  have B35 : ∀ (x1 : Int32) (x2 : Int32) (s0 : Int32), f_X0_isAhead_B35 v x1 x2 s0 = some R → V K 0 0 (bkW g A v) [(0, .ref A.1), (1, .int x1), (2, .int x2)] [.int s0] 35 := by
    intro x1 x2 s0 h
    rw [f_X0_isAhead_B35] at h
    obtain ⟨g2, h⟩ := gd_some h
    obtain rfl := Option.some.inj h
    exact retI _ _ _ .boolean rfl (isz_t g2) rfl dX0_isAhead_35
  show V K 0 0 _ [(0, .ref A.1), (1, .int a1), (2, .int a2)] [] 0
  unfold f_X0_isAhead at h
  refine V_aload_n C 0 1 dX0_isAhead_0 rfl rfl ?_
  refine V_get C (v := .ref A.2.2.2.1) 0 4 fl_X0_18 dX0_isAhead_1 rfl rfl rfl ?_
  refine V_iload_n C 1 5 dX0_isAhead_4 rfl rfl ?_
  obtain ⟨g3, h⟩ := gd_some h
  refine V_iald C (f := (Bk_weights v)) (n := 12) 3 6 dX0_isAhead_5 rfl rfl g3 ?_
  refine V_aload_n C 0 7 dX0_isAhead_6 rfl rfl ?_
  refine V_get C (v := .ref A.2.2.2.1) 0 10 fl_X0_18 dX0_isAhead_7 rfl rfl rfl ?_
  refine V_iload_n C 2 11 dX0_isAhead_10 rfl rfl ?_
  obtain ⟨g4, h⟩ := gd_some h
  refine V_iald C (f := (Bk_weights v)) (n := 12) 3 12 dX0_isAhead_11 rfl rfl g4 ?_
  refine V_icmp_eq C 36 15 dX0_isAhead_12 rfl rfl (fun e5 => ?_) (fun e5 => ?_)
  · have h := (if_pos e5).symm.trans h
    refine V_aload_n C 0 37 dX0_isAhead_36 rfl rfl ?_
    refine V_iload_n C 1 38 dX0_isAhead_37 rfl rfl ?_
    obtain ⟨r6, k7, h⟩ := bd_some h
    refine V_callP C ml_X0_72 (pre := []) (post := []) (w := bkW g A v) (as := [.int a1]) (rest := []) (c_X0_hasSeat k7) 0 41 dX0_isAhead_38 rfl ⟨Nat.le_of_ble_eq_true rfl, Nat.le_of_ble_eq_true rfl⟩ rfl (rfl) rfl rfl rfl (Nat.le_of_ble_eq_true rfl) ⟨Nat.zero_le _, Nat.zero_le _⟩ ?_
    refine V_aload_n C 0 42 dX0_isAhead_41 rfl rfl ?_
    refine V_iload_n C 2 43 dX0_isAhead_42 rfl rfl ?_
    obtain ⟨r8, k9, h⟩ := bd_some h
    refine V_callP C ml_X0_72 (pre := []) (post := []) (w := bkW g A v) (as := [.int a2]) (rest := [.int r6]) (c_X0_hasSeat k9) 0 46 dX0_isAhead_43 rfl ⟨Nat.le_of_ble_eq_true rfl, Nat.le_of_ble_eq_true rfl⟩ rfl (rfl) rfl rfl rfl (Nat.le_of_ble_eq_true rfl) ⟨Nat.zero_le _, Nat.zero_le _⟩ ?_
    refine V_icmp_eq C 55 49 dX0_isAhead_46 rfl rfl (fun e10 => ?_) (fun e10 => ?_)
    · have h := (if_pos e10).symm.trans h
      refine V_aload_n C 0 56 dX0_isAhead_55 rfl rfl ?_
      refine V_get C (v := .ref A.2.2.1) 0 59 fl_X0_15 dX0_isAhead_56 rfl rfl rfl ?_
      refine V_iload_n C 1 60 dX0_isAhead_59 rfl rfl ?_
      obtain ⟨g11, h⟩ := gd_some h
      refine V_iald C (f := (Bk_pages v)) (n := 12) 2 61 dX0_isAhead_60 rfl rfl g11 ?_
      refine V_aload_n C 0 62 dX0_isAhead_61 rfl rfl ?_
      refine V_get C (v := .ref A.2.2.1) 0 65 fl_X0_15 dX0_isAhead_62 rfl rfl rfl ?_
      refine V_iload_n C 2 66 dX0_isAhead_65 rfl rfl ?_
      obtain ⟨g12, h⟩ := gd_some h
      refine V_iald C (f := (Bk_pages v)) (n := 12) 2 67 dX0_isAhead_66 rfl rfl g12 ?_
      refine V_icmp_ge C 74 70 dX0_isAhead_67 rfl rfl (fun e13 => ?_) (fun e13 => ?_)
      · have h := (if_pos e13).symm.trans h
        refine V_iconst C (0 : Int32) 75 dX0_isAhead_74 rfl rfl ?_
        refine V_lv [0, 1, 2] rfl ?_
        exact B75 _ _ _ h
      · have h := (if_neg e13).symm.trans h
        refine V_iconst C (1 : Int32) 71 dX0_isAhead_70 rfl rfl ?_
        refine V_goto C 75 dX0_isAhead_71 rfl ?_
        refine V_lv [0, 1, 2] rfl ?_
        exact B75 _ _ _ h
    · have h := (if_neg e10).symm.trans h
      refine V_aload_n C 0 50 dX0_isAhead_49 rfl rfl ?_
      refine V_iload_n C 1 51 dX0_isAhead_50 rfl rfl ?_
      obtain ⟨r14, k15, h⟩ := bd_some h
      refine V_callP C ml_X0_72 (pre := []) (post := []) (w := bkW g A v) (as := [.int a1]) (rest := []) (c_X0_hasSeat k15) 0 54 dX0_isAhead_51 rfl ⟨Nat.le_of_ble_eq_true rfl, Nat.le_of_ble_eq_true rfl⟩ rfl (rfl) rfl rfl rfl (Nat.le_of_ble_eq_true rfl) ⟨Nat.zero_le _, Nat.zero_le _⟩ ?_
      obtain ⟨g16, h⟩ := gd_some h
      obtain rfl := Option.some.inj h
      exact retI _ _ _ .boolean rfl (isz_t g16) rfl dX0_isAhead_54
  · have h := (if_neg e5).symm.trans h
    refine V_aload_n C 0 16 dX0_isAhead_15 rfl rfl ?_
    refine V_get C (v := .ref A.2.2.2.1) 0 19 fl_X0_18 dX0_isAhead_16 rfl rfl rfl ?_
    refine V_iload_n C 1 20 dX0_isAhead_19 rfl rfl ?_
    obtain ⟨g17, h⟩ := gd_some h
    refine V_iald C (f := (Bk_weights v)) (n := 12) 3 21 dX0_isAhead_20 rfl rfl g17 ?_
    refine V_aload_n C 0 22 dX0_isAhead_21 rfl rfl ?_
    refine V_get C (v := .ref A.2.2.2.1) 0 25 fl_X0_18 dX0_isAhead_22 rfl rfl rfl ?_
    refine V_iload_n C 2 26 dX0_isAhead_25 rfl rfl ?_
    obtain ⟨g18, h⟩ := gd_some h
    refine V_iald C (f := (Bk_weights v)) (n := 12) 3 27 dX0_isAhead_26 rfl rfl g18 ?_
    refine V_icmp_le C 34 30 dX0_isAhead_27 rfl rfl (fun e19 => ?_) (fun e19 => ?_)
    · have h := (if_pos e19).symm.trans h
      refine V_iconst C (0 : Int32) 35 dX0_isAhead_34 rfl rfl ?_
      refine V_lv [0, 1, 2] rfl ?_
      exact B35 _ _ _ h
    · have h := (if_neg e19).symm.trans h
      refine V_iconst C (1 : Int32) 31 dX0_isAhead_30 rfl rfl ?_
      refine V_goto C 35 dX0_isAhead_31 rfl ?_
      refine V_lv [0, 1, 2] rfl ?_
      exact B35 _ _ _ h
set_option maxHeartbeats 4000000 in
set_option maxRecDepth 100000 in
theorem c_X0_rankOf {l : Launch} {D : va_G} {g : G0} {A : BkA} {v : BkV} {a1 : Int32} {R : Int32} (h : f_X0_rankOf v a1 = some R) : CtP l D g yX0_rankOf cX0_rankOf 4 (some .int) (rmF 2 43) (bkW g A v) [.ref A.1, .int a1] (some (.int R)) := by
  refine CtP.of (by decide) rfl rfl (Nat.le_of_ble_eq_true rfl) ?_
  intro K C el eD ekn retI
  subst el
  subst eD
  have hlt : ∀ i, i < 4 → i < kn K := fun i h => by rw [ekn]; exact h
  have B24 : ∀ (J : Int32 → Int32 → Int32 → Option Int32) (hJ : ∀ (x1 : Int32) (x2 : Int32) (x3 : Int32), J x1 x2 x3 = some R → V K 0 0 (bkW g A v) [(0, .ref A.1), (1, .int x1), (2, .int x2), (3, .int x3)] [] 4) (x1 : Int32) (x2 : Int32) (x3 : Int32), f_X0_rankOf_B24 J v x1 x2 x3 = some R → V K 0 0 (bkW g A v) [(0, .ref A.1), (1, .int x1), (2, .int x2), (3, .int x3)] [] 24 := by
    intro J hJ x1 x2 x3 h
    rw [f_X0_rankOf_B24] at h
    refine V_iinc C 3 (x3 + (1 : Int32)) 27 [(3, .int (x3 + (1 : Int32))), (0, .ref A.1), (1, .int x1), (2, .int x2)] dX0_rankOf_24 rfl rfl rfl (hlt 3 (by decide)) rfl ?_
    refine V_goto C 4 dX0_rankOf_27 rfl ?_
    refine V_lv [1, 2, 3, 0] rfl ?_
    exact hJ _ _ _ h
  have L4 : ∀ (n : Nat) (x1 : Int32) (x2 : Int32) (x3 : Int32), f_X0_rankOf_L4 v n x1 x2 x3 = some R → V K 0 0 (bkW g A v) [(0, .ref A.1), (1, .int x1), (2, .int x2), (3, .int x3)] [] 4 := by
    intro n
    induction n with
    | zero =>
      intro x1 x2 x3 h
      rw [f_X0_rankOf_L4] at h
      cases h
    | succ n ih =>
      intro x1 x2 x3 h
      rw [f_X0_rankOf_L4] at h
      refine V_iload_n C 3 5 dX0_rankOf_4 rfl rfl ?_
      refine V_aload_n C 0 6 dX0_rankOf_5 rfl rfl ?_
      refine V_get C (v := .int (Bk_marks v)) 0 9 fl_X0_30 dX0_rankOf_6 rfl rfl rfl ?_
      refine V_icmp_ge C 30 12 dX0_rankOf_9 rfl rfl (fun e1 => ?_) (fun e1 => ?_)
      · have h := (if_pos e1).symm.trans h
        refine V_iload_n C 2 31 dX0_rankOf_30 rfl rfl ?_
        obtain rfl := Option.some.inj h
        exact retI _ _ _ .int rfl (rfl) rfl dX0_rankOf_31
      · have h := (if_neg e1).symm.trans h
        refine V_aload_n C 0 13 dX0_rankOf_12 rfl rfl ?_
        refine V_iload_n C 3 14 dX0_rankOf_13 rfl rfl ?_
        refine V_iload_n C 1 15 dX0_rankOf_14 rfl rfl ?_
        obtain ⟨r2, k3, h⟩ := bd_some h
        refine V_callP C ml_X0_68 (pre := []) (post := []) (w := bkW g A v) (as := [.int x3, .int x1]) (rest := []) (c_X0_isAhead k3) 0 18 dX0_rankOf_15 rfl ⟨Nat.le_of_ble_eq_true rfl, Nat.le_of_ble_eq_true rfl⟩ rfl (rfl) rfl rfl rfl (Nat.le_of_ble_eq_true rfl) ⟨Nat.zero_le _, Nat.zero_le _⟩ ?_
        refine V_if_eq C 24 21 dX0_rankOf_18 rfl rfl (fun e4 => ?_) (fun e4 => ?_)
        · have h := (if_pos e4).symm.trans h
          refine V_lv [0, 1, 2, 3] rfl ?_
          exact B24 (f_X0_rankOf_L4 v n) ih _ _ _ h
        · have h := (if_neg e4).symm.trans h
          refine V_iinc C 2 (x2 + (1 : Int32)) 24 [(2, .int (x2 + (1 : Int32))), (0, .ref A.1), (1, .int x1), (3, .int x3)] dX0_rankOf_21 rfl rfl rfl (hlt 2 (by decide)) rfl ?_
          refine V_lv [1, 2, 0, 3] rfl ?_
          exact B24 (f_X0_rankOf_L4 v n) ih _ _ _ h
  show V K 0 0 _ [(0, .ref A.1), (1, .int a1)] [] 0
  unfold f_X0_rankOf at h
  refine V_iconst C (0 : Int32) 1 dX0_rankOf_0 rfl rfl ?_
  refine V_istore_n C 2 [(2, .int (0 : Int32)), (0, .ref A.1), (1, .int a1)] dX0_rankOf_1 rfl (hlt 2 (by decide)) rfl ?_
  refine V_iconst C (0 : Int32) 3 dX0_rankOf_2 rfl rfl ?_
  refine V_istore_n C 4 [(3, .int (0 : Int32)), (2, .int (0 : Int32)), (0, .ref A.1), (1, .int a1)] dX0_rankOf_3 rfl (hlt 3 (by decide)) rfl ?_
  refine V_lv [2, 3, 1, 0] rfl ?_
  exact L4 100 _ _ _ h
set_option maxHeartbeats 4000000 in
set_option maxRecDepth 100000 in
theorem c_X0_slotOfRank {l : Launch} {D : va_G} {g : G0} {A : BkA} {v : BkV} {a1 : Int32} {R : Int32} (h : f_X0_slotOfRank v a1 = some R) : CtP l D g yX0_slotOfRank cX0_slotOfRank 3 (some .int) (rmF 3 66) (bkW g A v) [.ref A.1, .int a1] (some (.int R)) := by
  refine CtP.of (by decide) rfl rfl (Nat.le_of_ble_eq_true rfl) ?_
  intro K C el eD ekn retI
  subst el
  subst eD
  have hlt : ∀ i, i < 3 → i < kn K := fun i h => by rw [ekn]; exact h
  have L2 : ∀ (n : Nat) (x1 : Int32) (x2 : Int32), f_X0_slotOfRank_L2 v n x1 x2 = some R → V K 0 0 (bkW g A v) [(0, .ref A.1), (1, .int x1), (2, .int x2)] [] 2 := by
    intro n
    induction n with
    | zero =>
      intro x1 x2 h
      rw [f_X0_slotOfRank_L2] at h
      cases h
    | succ n ih =>
      intro x1 x2 h
      rw [f_X0_slotOfRank_L2] at h
      refine V_iload_n C 2 3 dX0_slotOfRank_2 rfl rfl ?_
      refine V_aload_n C 0 4 dX0_slotOfRank_3 rfl rfl ?_
      refine V_get C (v := .int (Bk_marks v)) 0 7 fl_X0_30 dX0_slotOfRank_4 rfl rfl rfl ?_
      refine V_icmp_ge C 27 10 dX0_slotOfRank_7 rfl rfl (fun e1 => ?_) (fun e1 => ?_)
      · have h := (if_pos e1).symm.trans h
        refine V_iconst C (-1 : Int32) 28 dX0_slotOfRank_27 rfl rfl ?_
        obtain rfl := Option.some.inj h
        exact retI _ _ _ .int rfl (rfl) rfl dX0_slotOfRank_28
      · have h := (if_neg e1).symm.trans h
        refine V_aload_n C 0 11 dX0_slotOfRank_10 rfl rfl ?_
        refine V_iload_n C 2 12 dX0_slotOfRank_11 rfl rfl ?_
        obtain ⟨r2, k3, h⟩ := bd_some h
        refine V_callP C ml_X0_65 (pre := []) (post := []) (w := bkW g A v) (as := [.int x2]) (rest := []) (c_X0_rankOf k3) 0 15 dX0_slotOfRank_12 rfl ⟨Nat.le_of_ble_eq_true rfl, Nat.le_of_ble_eq_true rfl⟩ rfl (rfl) rfl rfl rfl (Nat.le_of_ble_eq_true rfl) ⟨Nat.zero_le _, Nat.zero_le _⟩ ?_
        refine V_iload_n C 1 16 dX0_slotOfRank_15 rfl rfl ?_
        refine V_icmp_ne C 21 19 dX0_slotOfRank_16 rfl rfl (fun e4 => ?_) (fun e4 => ?_)
        · have h := (if_neg e4).symm.trans h
          refine V_iinc C 2 (x2 + (1 : Int32)) 24 [(2, .int (x2 + (1 : Int32))), (0, .ref A.1), (1, .int x1)] dX0_slotOfRank_21 rfl rfl rfl (hlt 2 (by decide)) rfl ?_
          refine V_goto C 2 dX0_slotOfRank_24 rfl ?_
          refine V_lv [1, 2, 0] rfl ?_
          exact ih _ _ h
        · have h := (if_pos e4).symm.trans h
          refine V_iload_n C 2 20 dX0_slotOfRank_19 rfl rfl ?_
          obtain rfl := Option.some.inj h
          exact retI _ _ _ .int rfl (rfl) rfl dX0_slotOfRank_20
  show V K 0 0 _ [(0, .ref A.1), (1, .int a1)] [] 0
  unfold f_X0_slotOfRank at h
  refine V_iconst C (0 : Int32) 1 dX0_slotOfRank_0 rfl rfl ?_
  refine V_istore_n C 2 [(2, .int (0 : Int32)), (0, .ref A.1), (1, .int a1)] dX0_slotOfRank_1 rfl (hlt 2 (by decide)) rfl ?_
  refine V_lv [1, 2, 0] rfl ?_
  exact L2 100 _ _ h
set_option maxHeartbeats 4000000 in
set_option maxRecDepth 100000 in
theorem c_X0_freeSeat {l : Launch} {D : va_G} {g : G0} {A : BkA} {v : BkV} {R : Int32} (h : f_X0_freeSeat v  = some R) : CtP l D g yX0_freeSeat cX0_freeSeat 2 (some .int) (rmF 1 22) (bkW g A v) [.ref A.1] (some (.int R)) := by
  refine CtP.of (by decide) rfl rfl (Nat.le_of_ble_eq_true rfl) ?_
  intro K C el eD ekn retI
  subst el
  subst eD
  have hlt : ∀ i, i < 2 → i < kn K := fun i h => by rw [ekn]; exact h
  have L2 : ∀ (n : Nat) (x1 : Int32), f_X0_freeSeat_L2 v n x1 = some R → V K 0 0 (bkW g A v) [(0, .ref A.1), (1, .int x1)] [] 2 := by
    intro n
    induction n with
    | zero =>
      intro x1 h
      rw [f_X0_freeSeat_L2] at h
      cases h
    | succ n ih =>
      intro x1 h
      rw [f_X0_freeSeat_L2] at h
      refine V_iload_n C 1 3 dX0_freeSeat_2 rfl rfl ?_
      refine V_iconst C (5 : Int32) 4 dX0_freeSeat_3 rfl rfl ?_
      refine V_icmp_ge C 24 7 dX0_freeSeat_4 rfl rfl (fun e1 => ?_) (fun e1 => ?_)
      · have h := (if_pos e1).symm.trans h
        refine V_iconst C (-1 : Int32) 25 dX0_freeSeat_24 rfl rfl ?_
        obtain rfl := Option.some.inj h
        exact retI _ _ _ .int rfl (rfl) rfl dX0_freeSeat_25
      · have h := (if_neg e1).symm.trans h
        refine V_aload_n C 0 8 dX0_freeSeat_7 rfl rfl ?_
        refine V_iload_n C 1 9 dX0_freeSeat_8 rfl rfl ?_
        obtain ⟨r2, k3, h⟩ := bd_some h
        refine V_callP C ml_X0_76 (pre := []) (post := []) (w := bkW g A v) (as := [.int x1]) (rest := []) (c_X0_slotInSeat k3) 0 12 dX0_freeSeat_9 rfl ⟨Nat.le_of_ble_eq_true rfl, Nat.le_of_ble_eq_true rfl⟩ rfl (rfl) rfl rfl rfl (Nat.le_of_ble_eq_true rfl) ⟨Nat.zero_le _, Nat.zero_le _⟩ ?_
        refine V_iconst C (-1 : Int32) 13 dX0_freeSeat_12 rfl rfl ?_
        refine V_icmp_ne C 18 16 dX0_freeSeat_13 rfl rfl (fun e4 => ?_) (fun e4 => ?_)
        · have h := (if_neg e4).symm.trans h
          refine V_iinc C 1 (x1 + (1 : Int32)) 21 [(1, .int (x1 + (1 : Int32))), (0, .ref A.1)] dX0_freeSeat_18 rfl rfl rfl (hlt 1 (by decide)) rfl ?_
          refine V_goto C 2 dX0_freeSeat_21 rfl ?_
          refine V_lv [1, 0] rfl ?_
          exact ih _ h
        · have h := (if_pos e4).symm.trans h
          refine V_iload_n C 1 17 dX0_freeSeat_16 rfl rfl ?_
          obtain rfl := Option.some.inj h
          exact retI _ _ _ .int rfl (rfl) rfl dX0_freeSeat_17
  show V K 0 0 _ [(0, .ref A.1)] [] 0
  unfold f_X0_freeSeat at h
  refine V_iconst C (0 : Int32) 1 dX0_freeSeat_0 rfl rfl ?_
  refine V_istore_n C 2 [(1, .int (0 : Int32)), (0, .ref A.1)] dX0_freeSeat_1 rfl (hlt 1 (by decide)) rfl ?_
  refine V_lv [1, 0] rfl ?_
  exact L2 100 _ h
set_option maxHeartbeats 4000000 in
set_option maxRecDepth 100000 in
theorem c_X0_chapterWith {l : Launch} {D : va_G} {g : G0} {A : BkA} {v : BkV} {a1 : Int32} {R : Int32} (h : f_X0_chapterWith v a1 = some R) : CtP l D g yX0_chapterWith cX0_chapterWith 3 (some .int) (rmF 0 0) (bkW g A v) [.ref A.1, .int a1] (some (.int R)) := by
  refine CtP.of (by decide) rfl rfl (Nat.le_of_ble_eq_true rfl) ?_
  intro K C el eD ekn retI
  subst el
  subst eD
  have hlt : ∀ i, i < 3 → i < kn K := fun i h => by rw [ekn]; exact h
  have L7 : ∀ (n : Nat) (x1 : Int32) (x2 : Int32), f_X0_chapterWith_L7 v n x1 x2 = some R → V K 0 0 (bkW g A v) [(0, .ref A.1), (1, .int x1), (2, .int x2)] [] 7 := by
    intro n
    induction n with
    | zero =>
      intro x1 x2 h
      rw [f_X0_chapterWith_L7] at h
      cases h
    | succ n ih =>
      intro x1 x2 h
      rw [f_X0_chapterWith_L7] at h
      refine V_iload_n C 2 8 dX0_chapterWith_7 rfl rfl ?_
      refine V_if_le C 29 11 dX0_chapterWith_8 rfl rfl (fun e1 => ?_) (fun e1 => ?_)
      · have h := (if_pos e1).symm.trans h
        refine V_iconst C (0 : Int32) 30 dX0_chapterWith_29 rfl rfl ?_
        obtain rfl := Option.some.inj h
        exact retI _ _ _ .int rfl (rfl) rfl dX0_chapterWith_30
      · have h := (if_neg e1).symm.trans h
        refine V_aload_n C 0 12 dX0_chapterWith_11 rfl rfl ?_
        refine V_get C (v := .ref A.2.2.2.2.2.2) 0 15 fl_X0_27 dX0_chapterWith_12 rfl rfl rfl ?_
        refine V_iload_n C 2 16 dX0_chapterWith_15 rfl rfl ?_
        obtain ⟨g2, h⟩ := gd_some h
        refine V_iald C (f := (Bk_starts v)) (n := 8) 6 17 dX0_chapterWith_16 rfl rfl g2 ?_
        refine V_iload_n C 1 18 dX0_chapterWith_17 rfl rfl ?_
        refine V_icmp_gt C 23 21 dX0_chapterWith_18 rfl rfl (fun e3 => ?_) (fun e3 => ?_)
        · have h := (if_pos e3).symm.trans h
          refine V_iinc C 2 (x2 + (-1 : Int32)) 26 [(2, .int (x2 + (-1 : Int32))), (0, .ref A.1), (1, .int x1)] dX0_chapterWith_23 rfl rfl rfl (hlt 2 (by decide)) rfl ?_
          refine V_goto C 7 dX0_chapterWith_26 rfl ?_
          refine V_lv [1, 2, 0] rfl ?_
          exact ih _ _ h
        · have h := (if_neg e3).symm.trans h
          refine V_iload_n C 2 22 dX0_chapterWith_21 rfl rfl ?_
          obtain rfl := Option.some.inj h
          exact retI _ _ _ .int rfl (rfl) rfl dX0_chapterWith_22
  show V K 0 0 _ [(0, .ref A.1), (1, .int a1)] [] 0
  unfold f_X0_chapterWith at h
  refine V_aload_n C 0 1 dX0_chapterWith_0 rfl rfl ?_
  refine V_get C (v := .int (Bk_chapters v)) 0 4 fl_X0_34 dX0_chapterWith_1 rfl rfl rfl ?_
  refine V_iconst C (1 : Int32) 5 dX0_chapterWith_4 rfl rfl ?_
  refine V_isub C 6 dX0_chapterWith_5 rfl ?_
  refine V_istore_n C 7 [(2, .int ((Bk_chapters v) - (1 : Int32))), (0, .ref A.1), (1, .int a1)] dX0_chapterWith_6 rfl (hlt 2 (by decide)) rfl ?_
  refine V_lv [1, 2, 0] rfl ?_
  exact L7 100 _ _ h
set_option maxHeartbeats 4000000 in
set_option maxRecDepth 100000 in
theorem c_X0_endOf {l : Launch} {D : va_G} {g : G0} {A : BkA} {v : BkV} {a1 : Int32} {R : Int32} (h : f_X0_endOf v a1 = some R) : CtP l D g yX0_endOf cX0_endOf 2 (some .int) (rmF 0 0) (bkW g A v) [.ref A.1, .int a1] (some (.int R)) := by
  refine CtP.of (by decide) rfl rfl (Nat.le_of_ble_eq_true rfl) ?_
  intro K C el eD ekn retI
  subst el
  subst eD
  have hlt : ∀ i, i < 2 → i < kn K := fun i h => by rw [ekn]; exact h
  have B25 : ∀ (x1 : Int32) (s0 : Int32), f_X0_endOf_B25 v x1 s0 = some R → V K 0 0 (bkW g A v) [(0, .ref A.1), (1, .int x1)] [.int s0] 25 := by
    intro x1 s0 h
    rw [f_X0_endOf_B25] at h
    obtain rfl := Option.some.inj h
    exact retI _ _ _ .int rfl (rfl) rfl dX0_endOf_25
  show V K 0 0 _ [(0, .ref A.1), (1, .int a1)] [] 0
  unfold f_X0_endOf at h
  refine V_iload_n C 1 1 dX0_endOf_0 rfl rfl ?_
  refine V_iconst C (1 : Int32) 2 dX0_endOf_1 rfl rfl ?_
  refine V_iadd C 3 dX0_endOf_2 rfl ?_
  refine V_aload_n C 0 4 dX0_endOf_3 rfl rfl ?_
  refine V_get C (v := .int (Bk_chapters v)) 0 7 fl_X0_34 dX0_endOf_4 rfl rfl rfl ?_
  refine V_icmp_ge C 23 10 dX0_endOf_7 rfl rfl (fun e1 => ?_) (fun e1 => ?_)
  · have h := (if_pos e1).symm.trans h
    refine V_bipush C (59 : Int32) 25 dX0_endOf_23 rfl rfl ?_
    refine V_lv [0, 1] rfl ?_
    exact B25 _ _ h
  · have h := (if_neg e1).symm.trans h
    refine V_aload_n C 0 11 dX0_endOf_10 rfl rfl ?_
    refine V_get C (v := .ref A.2.2.2.2.2.2) 0 14 fl_X0_27 dX0_endOf_11 rfl rfl rfl ?_
    refine V_iload_n C 1 15 dX0_endOf_14 rfl rfl ?_
    refine V_iconst C (1 : Int32) 16 dX0_endOf_15 rfl rfl ?_
    refine V_iadd C 17 dX0_endOf_16 rfl ?_
    obtain ⟨g2, h⟩ := gd_some h
    refine V_iald C (f := (Bk_starts v)) (n := 8) 6 18 dX0_endOf_17 rfl rfl g2 ?_
    refine V_iconst C (1 : Int32) 19 dX0_endOf_18 rfl rfl ?_
    refine V_isub C 20 dX0_endOf_19 rfl ?_
    refine V_goto C 25 dX0_endOf_20 rfl ?_
    refine V_lv [0, 1] rfl ?_
    exact B25 _ _ h
set_option maxHeartbeats 4000000 in
set_option maxRecDepth 100000 in
theorem c_X0_isIn {l : Launch} {D : va_G} {g : G0} {A : BkA} {v : BkV} {a1 a2 : Int32} {R : Int32} (h : f_X0_isIn v a1 a2 = some R) : CtP l D g yX0_isIn cX0_isIn 4 (some .boolean) (rmF 0 0) (bkW g A v) [.ref A.1, .int a1, .int a2] (some (.int R)) := by
  refine CtP.of (by decide) rfl rfl (Nat.le_of_ble_eq_true rfl) ?_
  intro K C el eD ekn retI
  subst el
  subst eD
  have hlt : ∀ i, i < 4 → i < kn K := fun i h => by rw [ekn]; exact h
  have B44 : ∀ (x1 : Int32) (x2 : Int32) (x3 : Int32) (s0 : Int32), f_X0_isIn_B44 v x1 x2 x3 s0 = some R → V K 0 0 (bkW g A v) [(0, .ref A.1), (1, .int x1), (2, .int x2), (3, .int x3)] [.int s0] 44 := by
    intro x1 x2 x3 s0 h
    rw [f_X0_isIn_B44] at h
    obtain ⟨g1, h⟩ := gd_some h
    obtain rfl := Option.some.inj h
    exact retI _ _ _ .boolean rfl (isz_t g1) rfl dX0_isIn_44
  have B43 : ∀ (x1 : Int32) (x2 : Int32) (x3 : Int32), f_X0_isIn_B43 v x1 x2 x3 = some R → V K 0 0 (bkW g A v) [(0, .ref A.1), (1, .int x1), (2, .int x2), (3, .int x3)] [] 43 := by
    intro x1 x2 x3 h
    rw [f_X0_isIn_B43] at h
    refine V_iconst C (0 : Int32) 44 dX0_isIn_43 rfl rfl ?_
    refine V_lv [0, 1, 2, 3] rfl ?_
    exact B44 _ _ _ _ h
  have B39 : ∀ (x1 : Int32) (x2 : Int32) (x3 : Int32), f_X0_isIn_B39 v x1 x2 x3 = some R → V K 0 0 (bkW g A v) [(0, .ref A.1), (1, .int x1), (2, .int x2), (3, .int x3)] [] 39 := by
    intro x1 x2 x3 h
    rw [f_X0_isIn_B39] at h
    refine V_iconst C (1 : Int32) 40 dX0_isIn_39 rfl rfl ?_
    refine V_goto C 44 dX0_isIn_40 rfl ?_
    refine V_lv [0, 1, 2, 3] rfl ?_
    exact B44 _ _ _ _ h
  show V K 0 0 _ [(0, .ref A.1), (1, .int a1), (2, .int a2)] [] 0
  unfold f_X0_isIn at h
  refine V_aload_n C 0 1 dX0_isIn_0 rfl rfl ?_
  refine V_get C (v := .ref A.2.2.1) 0 4 fl_X0_15 dX0_isIn_1 rfl rfl rfl ?_
  refine V_iload_n C 1 5 dX0_isIn_4 rfl rfl ?_
  obtain ⟨g2, h⟩ := gd_some h
  refine V_iald C (f := (Bk_pages v)) (n := 12) 2 6 dX0_isIn_5 rfl rfl g2 ?_
  refine V_istore_n C 7 [(3, .int ((Bk_pages v) (cl a1))), (0, .ref A.1), (1, .int a1), (2, .int a2)] dX0_isIn_6 rfl (hlt 3 (by decide)) rfl ?_
  refine V_iload_n C 0 8 dX0_isIn_7 rfl rfl ?_
  refine V_aload_n C 1 9 dX0_isIn_8 rfl rfl ?_
  refine V_get C (v := .ref A.2.2.2.2.2.2) 0 12 fl_X0_27 dX0_isIn_9 rfl rfl rfl ?_
  refine V_iload_n C 3 13 dX0_isIn_12 rfl rfl ?_
  obtain ⟨g3, h⟩ := gd_some h
  refine V_iald C (f := (Bk_starts v)) (n := 8) 6 14 dX0_isIn_13 rfl rfl g3 ?_
  refine V_icmp_lt C 43 17 dX0_isIn_14 rfl rfl (fun e4 => ?_) (fun e4 => ?_)
  · have h := (if_pos e4).symm.trans h
    refine V_lv [1, 2, 3, 0] rfl ?_
    exact B43 _ _ _ h
  · have h := (if_neg e4).symm.trans h
    refine V_iload_n C 3 18 dX0_isIn_17 rfl rfl ?_
    refine V_iconst C (1 : Int32) 19 dX0_isIn_18 rfl rfl ?_
    refine V_iadd C 20 dX0_isIn_19 rfl ?_
    refine V_aload_n C 1 21 dX0_isIn_20 rfl rfl ?_
    refine V_get C (v := .int (Bk_chapters v)) 0 24 fl_X0_34 dX0_isIn_21 rfl rfl rfl ?_
    refine V_icmp_ge C 39 27 dX0_isIn_24 rfl rfl (fun e5 => ?_) (fun e5 => ?_)
    · have h := (if_pos e5).symm.trans h
      refine V_lv [1, 2, 3, 0] rfl ?_
      exact B39 _ _ _ h
    · have h := (if_neg e5).symm.trans h
      refine V_iload_n C 0 28 dX0_isIn_27 rfl rfl ?_
      refine V_aload_n C 1 29 dX0_isIn_28 rfl rfl ?_
      refine V_get C (v := .ref A.2.2.2.2.2.2) 0 32 fl_X0_27 dX0_isIn_29 rfl rfl rfl ?_
      refine V_iload_n C 3 33 dX0_isIn_32 rfl rfl ?_
      refine V_iconst C (1 : Int32) 34 dX0_isIn_33 rfl rfl ?_
      refine V_iadd C 35 dX0_isIn_34 rfl ?_
      obtain ⟨g6, h⟩ := gd_some h
      refine V_iald C (f := (Bk_starts v)) (n := 8) 6 36 dX0_isIn_35 rfl rfl g6 ?_
      refine V_icmp_ge C 43 39 dX0_isIn_36 rfl rfl (fun e7 => ?_) (fun e7 => ?_)
      · have h := (if_pos e7).symm.trans h
        refine V_lv [1, 2, 3, 0] rfl ?_
        exact B43 _ _ _ h
      · have h := (if_neg e7).symm.trans h
        refine V_lv [1, 2, 3, 0] rfl ?_
        exact B39 _ _ _ h
set_option maxHeartbeats 4000000 in
set_option maxRecDepth 100000 in
theorem c_X0_heldPageByPage {l : Launch} {D : va_G} {g : G0} {A : BkA} {v : BkV} {a1 : Int32} {R : Int32} (h : f_X0_heldPageByPage v a1 = some R) : CtP l D g yX0_heldPageByPage cX0_heldPageByPage 5 (some .int) (rmF 1 22) (bkW g A v) [.ref A.1, .int a1] (some (.int R)) := by
  refine CtP.of (by decide) rfl rfl (Nat.le_of_ble_eq_true rfl) ?_
  intro K C el eD ekn retI
  subst el
  subst eD
  have hlt : ∀ i, i < 5 → i < kn K := fun i h => by rw [ekn]; exact h
  have B35 : ∀ (J : Int32 → Int32 → Int32 → Int32 → Option Int32) (hJ : ∀ (x1 : Int32) (x2 : Int32) (x3 : Int32) (x4 : Int32), J x1 x2 x3 x4 = some R → V K 0 0 (bkW g A v) [(0, .ref A.1), (1, .int x1), (2, .int x2), (3, .int x3), (4, .int x4)] [] 16) (x1 : Int32) (x2 : Int32) (x3 : Int32) (x4 : Int32), f_X0_heldPageByPage_B35 J v x1 x2 x3 x4 = some R → V K 0 0 (bkW g A v) [(0, .ref A.1), (1, .int x1), (2, .int x2), (3, .int x3), (4, .int x4)] [] 35 := by
    intro J hJ x1 x2 x3 x4 h
    rw [f_X0_heldPageByPage_B35] at h
    refine V_iinc C 4 (x4 + (1 : Int32)) 38 [(4, .int (x4 + (1 : Int32))), (0, .ref A.1), (1, .int x1), (2, .int x2), (3, .int x3)] dX0_heldPageByPage_35 rfl rfl rfl (hlt 4 (by decide)) rfl ?_
    refine V_goto C 16 dX0_heldPageByPage_38 rfl ?_
    refine V_lv [1, 2, 3, 4, 0] rfl ?_
    exact hJ _ _ _ _ h
  have L16 : ∀ (n : Nat) (x1 : Int32) (x2 : Int32) (x3 : Int32) (x4 : Int32), f_X0_heldPageByPage_L16 v n x1 x2 x3 x4 = some R → V K 0 0 (bkW g A v) [(0, .ref A.1), (1, .int x1), (2, .int x2), (3, .int x3), (4, .int x4)] [] 16 := by
    intro n
    induction n with
    | zero =>
      intro x1 x2 x3 x4 h
      rw [f_X0_heldPageByPage_L16] at h
      cases h
    | succ n ih =>
      intro x1 x2 x3 x4 h
      rw [f_X0_heldPageByPage_L16] at h
      refine V_iload C 4 18 dX0_heldPageByPage_16 rfl rfl ?_
      refine V_iload_n C 3 19 dX0_heldPageByPage_18 rfl rfl ?_
      refine V_icmp_gt C 41 22 dX0_heldPageByPage_19 rfl rfl (fun e1 => ?_) (fun e1 => ?_)
      · have h := (if_pos e1).symm.trans h
        refine V_iload_n C 2 42 dX0_heldPageByPage_41 rfl rfl ?_
        obtain rfl := Option.some.inj h
        exact retI _ _ _ .int rfl (rfl) rfl dX0_heldPageByPage_42
      · have h := (if_neg e1).symm.trans h
        refine V_aload_n C 0 23 dX0_heldPageByPage_22 rfl rfl ?_
        refine V_iload C 4 25 dX0_heldPageByPage_23 rfl rfl ?_
        obtain ⟨r2, k3, h⟩ := bd_some h
        refine V_callP C ml_X0_82 (pre := []) (post := []) (w := bkW g A v) (as := [.int x4]) (rest := []) (c_X0_slotOnPage k3) 0 28 dX0_heldPageByPage_25 rfl ⟨Nat.le_of_ble_eq_true rfl, Nat.le_of_ble_eq_true rfl⟩ rfl (rfl) rfl rfl rfl (Nat.le_of_ble_eq_true rfl) ⟨Nat.zero_le _, Nat.zero_le _⟩ ?_
        refine V_iconst C (-1 : Int32) 29 dX0_heldPageByPage_28 rfl rfl ?_
        refine V_icmp_eq C 35 32 dX0_heldPageByPage_29 rfl rfl (fun e4 => ?_) (fun e4 => ?_)
        · have h := (if_pos e4).symm.trans h
          refine V_lv [0, 1, 2, 3, 4] rfl ?_
          exact B35 (f_X0_heldPageByPage_L16 v n) ih _ _ _ _ h
        · have h := (if_neg e4).symm.trans h
          refine V_iinc C 2 (x2 + (1 : Int32)) 35 [(2, .int (x2 + (1 : Int32))), (0, .ref A.1), (1, .int x1), (3, .int x3), (4, .int x4)] dX0_heldPageByPage_32 rfl rfl rfl (hlt 2 (by decide)) rfl ?_
          refine V_lv [1, 2, 0, 3, 4] rfl ?_
          exact B35 (f_X0_heldPageByPage_L16 v n) ih _ _ _ _ h
  show V K 0 0 _ [(0, .ref A.1), (1, .int a1)] [] 0
  unfold f_X0_heldPageByPage at h
  refine V_iconst C (0 : Int32) 1 dX0_heldPageByPage_0 rfl rfl ?_
  refine V_istore_n C 2 [(2, .int (0 : Int32)), (0, .ref A.1), (1, .int a1)] dX0_heldPageByPage_1 rfl (hlt 2 (by decide)) rfl ?_
  refine V_aload_n C 1 3 dX0_heldPageByPage_2 rfl rfl ?_
  refine V_iload_n C 2 4 dX0_heldPageByPage_3 rfl rfl ?_
  obtain ⟨r5, k6, h⟩ := bd_some h
  refine V_callP C ml_X0_79 (pre := []) (post := []) (w := bkW g A v) (as := [.int a1]) (rest := []) (c_X0_endOf k6) 0 7 dX0_heldPageByPage_4 rfl ⟨Nat.le_of_ble_eq_true rfl, Nat.le_of_ble_eq_true rfl⟩ rfl (rfl) rfl rfl rfl (Nat.le_of_ble_eq_true rfl) ⟨Nat.zero_le _, Nat.zero_le _⟩ ?_
  refine V_istore_n C 8 [(3, .int r5), (2, .int (0 : Int32)), (0, .ref A.1), (1, .int a1)] dX0_heldPageByPage_7 rfl (hlt 3 (by decide)) rfl ?_
  refine V_aload_n C 2 9 dX0_heldPageByPage_8 rfl rfl ?_
  refine V_get C (v := .ref A.2.2.2.2.2.2) 0 12 fl_X0_27 dX0_heldPageByPage_9 rfl rfl rfl ?_
  refine V_iload_n C 3 13 dX0_heldPageByPage_12 rfl rfl ?_
  obtain ⟨g7, h⟩ := gd_some h
  refine V_iald C (f := (Bk_starts v)) (n := 8) 6 14 dX0_heldPageByPage_13 rfl rfl g7 ?_
  refine V_istore C 16 [(4, .int ((Bk_starts v) (cl a1))), (3, .int r5), (2, .int (0 : Int32)), (0, .ref A.1), (1, .int a1)] dX0_heldPageByPage_14 rfl (hlt 4 (by decide)) rfl ?_
  refine V_lv [3, 4, 2, 1, 0] rfl ?_
  exact L16 100 _ _ _ _ h
set_option maxHeartbeats 4000000 in
set_option maxRecDepth 100000 in
theorem c_X0_heldMarkByMark {l : Launch} {D : va_G} {g : G0} {A : BkA} {v : BkV} {a1 : Int32} {R : Int32} (h : f_X0_heldMarkByMark v a1 = some R) : CtP l D g yX0_heldMarkByMark cX0_heldMarkByMark 4 (some .int) (rmF 1 23) (bkW g A v) [.ref A.1, .int a1] (some (.int R)) := by
  refine CtP.of (by decide) rfl rfl (Nat.le_of_ble_eq_true rfl) ?_
  intro K C el eD ekn retI
  subst el
  subst eD
  have hlt : ∀ i, i < 4 → i < kn K := fun i h => by rw [ekn]; exact h
  have B24 : ∀ (J : Int32 → Int32 → Int32 → Option Int32) (hJ : ∀ (x1 : Int32) (x2 : Int32) (x3 : Int32), J x1 x2 x3 = some R → V K 0 0 (bkW g A v) [(0, .ref A.1), (1, .int x1), (2, .int x2), (3, .int x3)] [] 4) (x1 : Int32) (x2 : Int32) (x3 : Int32), f_X0_heldMarkByMark_B24 J v x1 x2 x3 = some R → V K 0 0 (bkW g A v) [(0, .ref A.1), (1, .int x1), (2, .int x2), (3, .int x3)] [] 24 := by
    intro J hJ x1 x2 x3 h
    rw [f_X0_heldMarkByMark_B24] at h
    refine V_iinc C 3 (x3 + (1 : Int32)) 27 [(3, .int (x3 + (1 : Int32))), (0, .ref A.1), (1, .int x1), (2, .int x2)] dX0_heldMarkByMark_24 rfl rfl rfl (hlt 3 (by decide)) rfl ?_
    refine V_goto C 4 dX0_heldMarkByMark_27 rfl ?_
    refine V_lv [1, 2, 3, 0] rfl ?_
    exact hJ _ _ _ h
  have L4 : ∀ (n : Nat) (x1 : Int32) (x2 : Int32) (x3 : Int32), f_X0_heldMarkByMark_L4 v n x1 x2 x3 = some R → V K 0 0 (bkW g A v) [(0, .ref A.1), (1, .int x1), (2, .int x2), (3, .int x3)] [] 4 := by
    intro n
    induction n with
    | zero =>
      intro x1 x2 x3 h
      rw [f_X0_heldMarkByMark_L4] at h
      cases h
    | succ n ih =>
      intro x1 x2 x3 h
      rw [f_X0_heldMarkByMark_L4] at h
      refine V_iload_n C 3 5 dX0_heldMarkByMark_4 rfl rfl ?_
      refine V_aload_n C 0 6 dX0_heldMarkByMark_5 rfl rfl ?_
      refine V_get C (v := .int (Bk_marks v)) 0 9 fl_X0_30 dX0_heldMarkByMark_6 rfl rfl rfl ?_
      refine V_icmp_ge C 30 12 dX0_heldMarkByMark_9 rfl rfl (fun e1 => ?_) (fun e1 => ?_)
      · have h := (if_pos e1).symm.trans h
        refine V_iload_n C 2 31 dX0_heldMarkByMark_30 rfl rfl ?_
        obtain rfl := Option.some.inj h
        exact retI _ _ _ .int rfl (rfl) rfl dX0_heldMarkByMark_31
      · have h := (if_neg e1).symm.trans h
        refine V_aload_n C 0 13 dX0_heldMarkByMark_12 rfl rfl ?_
        refine V_iload_n C 3 14 dX0_heldMarkByMark_13 rfl rfl ?_
        refine V_iload_n C 1 15 dX0_heldMarkByMark_14 rfl rfl ?_
        obtain ⟨r2, k3, h⟩ := bd_some h
        refine V_callP C ml_X0_85 (pre := []) (post := []) (w := bkW g A v) (as := [.int x3, .int x1]) (rest := []) (c_X0_isIn k3) 0 18 dX0_heldMarkByMark_15 rfl ⟨Nat.le_of_ble_eq_true rfl, Nat.le_of_ble_eq_true rfl⟩ rfl (rfl) rfl rfl rfl (Nat.le_of_ble_eq_true rfl) ⟨Nat.zero_le _, Nat.zero_le _⟩ ?_
        refine V_if_eq C 24 21 dX0_heldMarkByMark_18 rfl rfl (fun e4 => ?_) (fun e4 => ?_)
        · have h := (if_pos e4).symm.trans h
          refine V_lv [0, 1, 2, 3] rfl ?_
          exact B24 (f_X0_heldMarkByMark_L4 v n) ih _ _ _ h
        · have h := (if_neg e4).symm.trans h
          refine V_iinc C 2 (x2 + (1 : Int32)) 24 [(2, .int (x2 + (1 : Int32))), (0, .ref A.1), (1, .int x1), (3, .int x3)] dX0_heldMarkByMark_21 rfl rfl rfl (hlt 2 (by decide)) rfl ?_
          refine V_lv [1, 2, 0, 3] rfl ?_
          exact B24 (f_X0_heldMarkByMark_L4 v n) ih _ _ _ h
  show V K 0 0 _ [(0, .ref A.1), (1, .int a1)] [] 0
  unfold f_X0_heldMarkByMark at h
  refine V_iconst C (0 : Int32) 1 dX0_heldMarkByMark_0 rfl rfl ?_
  refine V_istore_n C 2 [(2, .int (0 : Int32)), (0, .ref A.1), (1, .int a1)] dX0_heldMarkByMark_1 rfl (hlt 2 (by decide)) rfl ?_
  refine V_iconst C (0 : Int32) 3 dX0_heldMarkByMark_2 rfl rfl ?_
  refine V_istore_n C 4 [(3, .int (0 : Int32)), (2, .int (0 : Int32)), (0, .ref A.1), (1, .int a1)] dX0_heldMarkByMark_3 rfl (hlt 3 (by decide)) rfl ?_
  refine V_lv [2, 3, 1, 0] rfl ?_
  exact L4 100 _ _ _ h
set_option maxHeartbeats 4000000 in
set_option maxRecDepth 100000 in
theorem c_X0_weightIn {l : Launch} {D : va_G} {g : G0} {A : BkA} {v : BkV} {a1 : Int32} {R : Int32} (h : f_X0_weightIn v a1 = some R) : CtP l D g yX0_weightIn cX0_weightIn 4 (some .int) (rmF 1 23) (bkW g A v) [.ref A.1, .int a1] (some (.int R)) := by
  refine CtP.of (by decide) rfl rfl (Nat.le_of_ble_eq_true rfl) ?_
  intro K C el eD ekn retI
  subst el
  subst eD
  have hlt : ∀ i, i < 4 → i < kn K := fun i h => by rw [ekn]; exact h
  have B30 : ∀ (J : Int32 → Int32 → Int32 → Option Int32) (hJ : ∀ (x1 : Int32) (x2 : Int32) (x3 : Int32), J x1 x2 x3 = some R → V K 0 0 (bkW g A v) [(0, .ref A.1), (1, .int x1), (2, .int x2), (3, .int x3)] [] 4) (x1 : Int32) (x2 : Int32) (x3 : Int32), f_X0_weightIn_B30 J v x1 x2 x3 = some R → V K 0 0 (bkW g A v) [(0, .ref A.1), (1, .int x1), (2, .int x2), (3, .int x3)] [] 30 := by
    intro J hJ x1 x2 x3 h
    rw [f_X0_weightIn_B30] at h
    refine V_iinc C 3 (x3 + (1 : Int32)) 33 [(3, .int (x3 + (1 : Int32))), (0, .ref A.1), (1, .int x1), (2, .int x2)] dX0_weightIn_30 rfl rfl rfl (hlt 3 (by decide)) rfl ?_
    refine V_goto C 4 dX0_weightIn_33 rfl ?_
    refine V_lv [1, 2, 3, 0] rfl ?_
    exact hJ _ _ _ h
  have L4 : ∀ (n : Nat) (x1 : Int32) (x2 : Int32) (x3 : Int32), f_X0_weightIn_L4 v n x1 x2 x3 = some R → V K 0 0 (bkW g A v) [(0, .ref A.1), (1, .int x1), (2, .int x2), (3, .int x3)] [] 4 := by
    intro n
    induction n with
    | zero =>
      intro x1 x2 x3 h
      rw [f_X0_weightIn_L4] at h
      cases h
    | succ n ih =>
      intro x1 x2 x3 h
      rw [f_X0_weightIn_L4] at h
      refine V_iload_n C 3 5 dX0_weightIn_4 rfl rfl ?_
      refine V_aload_n C 0 6 dX0_weightIn_5 rfl rfl ?_
      refine V_get C (v := .int (Bk_marks v)) 0 9 fl_X0_30 dX0_weightIn_6 rfl rfl rfl ?_
      refine V_icmp_ge C 36 12 dX0_weightIn_9 rfl rfl (fun e1 => ?_) (fun e1 => ?_)
      · have h := (if_pos e1).symm.trans h
        refine V_iload_n C 2 37 dX0_weightIn_36 rfl rfl ?_
        obtain rfl := Option.some.inj h
        exact retI _ _ _ .int rfl (rfl) rfl dX0_weightIn_37
      · have h := (if_neg e1).symm.trans h
        refine V_aload_n C 0 13 dX0_weightIn_12 rfl rfl ?_
        refine V_iload_n C 3 14 dX0_weightIn_13 rfl rfl ?_
        refine V_iload_n C 1 15 dX0_weightIn_14 rfl rfl ?_
        obtain ⟨r2, k3, h⟩ := bd_some h
        refine V_callP C ml_X0_85 (pre := []) (post := []) (w := bkW g A v) (as := [.int x3, .int x1]) (rest := []) (c_X0_isIn k3) 0 18 dX0_weightIn_15 rfl ⟨Nat.le_of_ble_eq_true rfl, Nat.le_of_ble_eq_true rfl⟩ rfl (rfl) rfl rfl rfl (Nat.le_of_ble_eq_true rfl) ⟨Nat.zero_le _, Nat.zero_le _⟩ ?_
        refine V_if_eq C 30 21 dX0_weightIn_18 rfl rfl (fun e4 => ?_) (fun e4 => ?_)
        · have h := (if_pos e4).symm.trans h
          refine V_lv [0, 1, 2, 3] rfl ?_
          exact B30 (f_X0_weightIn_L4 v n) ih _ _ _ h
        · have h := (if_neg e4).symm.trans h
          refine V_iload_n C 2 22 dX0_weightIn_21 rfl rfl ?_
          refine V_aload_n C 0 23 dX0_weightIn_22 rfl rfl ?_
          refine V_get C (v := .ref A.2.2.2.1) 0 26 fl_X0_18 dX0_weightIn_23 rfl rfl rfl ?_
          refine V_iload_n C 3 27 dX0_weightIn_26 rfl rfl ?_
          obtain ⟨g5, h⟩ := gd_some h
          refine V_iald C (f := (Bk_weights v)) (n := 12) 3 28 dX0_weightIn_27 rfl rfl g5 ?_
          refine V_iadd C 29 dX0_weightIn_28 rfl ?_
          refine V_istore_n C 30 [(2, .int (x2 + ((Bk_weights v) (cl x3)))), (0, .ref A.1), (1, .int x1), (3, .int x3)] dX0_weightIn_29 rfl (hlt 2 (by decide)) rfl ?_
          refine V_lv [1, 2, 0, 3] rfl ?_
          exact B30 (f_X0_weightIn_L4 v n) ih _ _ _ h
  show V K 0 0 _ [(0, .ref A.1), (1, .int a1)] [] 0
  unfold f_X0_weightIn at h
  refine V_iconst C (0 : Int32) 1 dX0_weightIn_0 rfl rfl ?_
  refine V_istore_n C 2 [(2, .int (0 : Int32)), (0, .ref A.1), (1, .int a1)] dX0_weightIn_1 rfl (hlt 2 (by decide)) rfl ?_
  refine V_iconst C (0 : Int32) 3 dX0_weightIn_2 rfl rfl ?_
  refine V_istore_n C 4 [(3, .int (0 : Int32)), (2, .int (0 : Int32)), (0, .ref A.1), (1, .int a1)] dX0_weightIn_3 rfl (hlt 3 (by decide)) rfl ?_
  refine V_lv [2, 3, 1, 0] rfl ?_
  exact L4 100 _ _ _ h
set_option maxHeartbeats 4000000 in
set_option maxRecDepth 100000 in
theorem c_X0_favour {l : Launch} {D : va_G} {g : G0} {A : BkA} {v : BkV} {a1 : Int32} {R : Int32} (h : f_X0_favour v a1 = some R) : CtP l D g yX0_favour cX0_favour 4 (some .int) (rmF 1 23) (bkW g A v) [.ref A.1, .int a1] (some (.int R)) := by
  refine CtP.of (by decide) rfl rfl (Nat.le_of_ble_eq_true rfl) ?_
  intro K C el eD ekn retI
  subst el
  subst eD
  have hlt : ∀ i, i < 4 → i < kn K := fun i h => by rw [ekn]; exact h
  have B38 : ∀ (J : Int32 → Int32 → Int32 → Option Int32) (hJ : ∀ (x1 : Int32) (x2 : Int32) (x3 : Int32), J x1 x2 x3 = some R → V K 0 0 (bkW g A v) [(0, .ref A.1), (1, .int x1), (2, .int x2), (3, .int x3)] [] 4) (x1 : Int32) (x2 : Int32) (x3 : Int32), f_X0_favour_B38 J v x1 x2 x3 = some R → V K 0 0 (bkW g A v) [(0, .ref A.1), (1, .int x1), (2, .int x2), (3, .int x3)] [] 38 := by
    intro J hJ x1 x2 x3 h
    rw [f_X0_favour_B38] at h
    refine V_iinc C 3 (x3 + (1 : Int32)) 41 [(3, .int (x3 + (1 : Int32))), (0, .ref A.1), (1, .int x1), (2, .int x2)] dX0_favour_38 rfl rfl rfl (hlt 3 (by decide)) rfl ?_
    refine V_goto C 4 dX0_favour_41 rfl ?_
    refine V_lv [1, 2, 3, 0] rfl ?_
    exact hJ _ _ _ h
  have L4 : ∀ (n : Nat) (x1 : Int32) (x2 : Int32) (x3 : Int32), f_X0_favour_L4 v n x1 x2 x3 = some R → V K 0 0 (bkW g A v) [(0, .ref A.1), (1, .int x1), (2, .int x2), (3, .int x3)] [] 4 := by
    intro n
    induction n with
    | zero =>
      intro x1 x2 x3 h
      rw [f_X0_favour_L4] at h
      cases h
    | succ n ih =>
      intro x1 x2 x3 h
      rw [f_X0_favour_L4] at h
      refine V_iload_n C 3 5 dX0_favour_4 rfl rfl ?_
      refine V_aload_n C 0 6 dX0_favour_5 rfl rfl ?_
      refine V_get C (v := .int (Bk_marks v)) 0 9 fl_X0_30 dX0_favour_6 rfl rfl rfl ?_
      refine V_icmp_ge C 44 12 dX0_favour_9 rfl rfl (fun e1 => ?_) (fun e1 => ?_)
      · have h := (if_pos e1).symm.trans h
        refine V_iload_n C 2 45 dX0_favour_44 rfl rfl ?_
        obtain rfl := Option.some.inj h
        exact retI _ _ _ .int rfl (rfl) rfl dX0_favour_45
      · have h := (if_neg e1).symm.trans h
        refine V_aload_n C 0 13 dX0_favour_12 rfl rfl ?_
        refine V_iload_n C 3 14 dX0_favour_13 rfl rfl ?_
        obtain ⟨r2, k3, h⟩ := bd_some h
        refine V_callP C ml_X0_72 (pre := []) (post := []) (w := bkW g A v) (as := [.int x3]) (rest := []) (c_X0_hasSeat k3) 0 17 dX0_favour_14 rfl ⟨Nat.le_of_ble_eq_true rfl, Nat.le_of_ble_eq_true rfl⟩ rfl (rfl) rfl rfl rfl (Nat.le_of_ble_eq_true rfl) ⟨Nat.zero_le _, Nat.zero_le _⟩ ?_
        refine V_if_eq C 38 20 dX0_favour_17 rfl rfl (fun e4 => ?_) (fun e4 => ?_)
        · have h := (if_pos e4).symm.trans h
          refine V_lv [0, 1, 2, 3] rfl ?_
          exact B38 (f_X0_favour_L4 v n) ih _ _ _ h
        · have h := (if_neg e4).symm.trans h
          refine V_aload_n C 0 21 dX0_favour_20 rfl rfl ?_
          refine V_iload_n C 3 22 dX0_favour_21 rfl rfl ?_
          refine V_iload_n C 1 23 dX0_favour_22 rfl rfl ?_
          obtain ⟨r5, k6, h⟩ := bd_some h
          refine V_callP C ml_X0_85 (pre := []) (post := []) (w := bkW g A v) (as := [.int x3, .int x1]) (rest := []) (c_X0_isIn k6) 0 26 dX0_favour_23 rfl ⟨Nat.le_of_ble_eq_true rfl, Nat.le_of_ble_eq_true rfl⟩ rfl (rfl) rfl rfl rfl (Nat.le_of_ble_eq_true rfl) ⟨Nat.zero_le _, Nat.zero_le _⟩ ?_
          refine V_if_ne C 38 29 dX0_favour_26 rfl rfl (fun e7 => ?_) (fun e7 => ?_)
          · have h := (if_neg e7).symm.trans h
            refine V_lv [0, 1, 2, 3] rfl ?_
            exact B38 (f_X0_favour_L4 v n) ih _ _ _ h
          · have h := (if_pos e7).symm.trans h
            refine V_iload_n C 2 30 dX0_favour_29 rfl rfl ?_
            refine V_aload_n C 0 31 dX0_favour_30 rfl rfl ?_
            refine V_get C (v := .ref A.2.2.2.1) 0 34 fl_X0_18 dX0_favour_31 rfl rfl rfl ?_
            refine V_iload_n C 3 35 dX0_favour_34 rfl rfl ?_
            obtain ⟨g8, h⟩ := gd_some h
            refine V_iald C (f := (Bk_weights v)) (n := 12) 3 36 dX0_favour_35 rfl rfl g8 ?_
            refine V_iadd C 37 dX0_favour_36 rfl ?_
            refine V_istore_n C 38 [(2, .int (x2 + ((Bk_weights v) (cl x3)))), (0, .ref A.1), (1, .int x1), (3, .int x3)] dX0_favour_37 rfl (hlt 2 (by decide)) rfl ?_
            refine V_lv [1, 2, 0, 3] rfl ?_
            exact B38 (f_X0_favour_L4 v n) ih _ _ _ h
  show V K 0 0 _ [(0, .ref A.1), (1, .int a1)] [] 0
  unfold f_X0_favour at h
  refine V_iconst C (0 : Int32) 1 dX0_favour_0 rfl rfl ?_
  refine V_istore_n C 2 [(2, .int (0 : Int32)), (0, .ref A.1), (1, .int a1)] dX0_favour_1 rfl (hlt 2 (by decide)) rfl ?_
  refine V_iconst C (0 : Int32) 3 dX0_favour_2 rfl rfl ?_
  refine V_istore_n C 4 [(3, .int (0 : Int32)), (2, .int (0 : Int32)), (0, .ref A.1), (1, .int a1)] dX0_favour_3 rfl (hlt 3 (by decide)) rfl ?_
  refine V_lv [2, 3, 1, 0] rfl ?_
  exact L4 100 _ _ _ h
set_option maxHeartbeats 4000000 in
set_option maxRecDepth 100000 in
theorem c_X0_against {l : Launch} {D : va_G} {g : G0} {A : BkA} {v : BkV} {a1 : Int32} {R : Int32} (h : f_X0_against v a1 = some R) : CtP l D g yX0_against cX0_against 4 (some .int) (rmF 1 23) (bkW g A v) [.ref A.1, .int a1] (some (.int R)) := by
  refine CtP.of (by decide) rfl rfl (Nat.le_of_ble_eq_true rfl) ?_
  intro K C el eD ekn retI
  subst el
  subst eD
  have hlt : ∀ i, i < 4 → i < kn K := fun i h => by rw [ekn]; exact h
  have B38 : ∀ (J : Int32 → Int32 → Int32 → Option Int32) (hJ : ∀ (x1 : Int32) (x2 : Int32) (x3 : Int32), J x1 x2 x3 = some R → V K 0 0 (bkW g A v) [(0, .ref A.1), (1, .int x1), (2, .int x2), (3, .int x3)] [] 4) (x1 : Int32) (x2 : Int32) (x3 : Int32), f_X0_against_B38 J v x1 x2 x3 = some R → V K 0 0 (bkW g A v) [(0, .ref A.1), (1, .int x1), (2, .int x2), (3, .int x3)] [] 38 := by
    intro J hJ x1 x2 x3 h
    rw [f_X0_against_B38] at h
    refine V_iinc C 3 (x3 + (1 : Int32)) 41 [(3, .int (x3 + (1 : Int32))), (0, .ref A.1), (1, .int x1), (2, .int x2)] dX0_against_38 rfl rfl rfl (hlt 3 (by decide)) rfl ?_
    refine V_goto C 4 dX0_against_41 rfl ?_
    refine V_lv [1, 2, 3, 0] rfl ?_
    exact hJ _ _ _ h
  have B29 : ∀ (J : Int32 → Int32 → Int32 → Option Int32) (hJ : ∀ (x1 : Int32) (x2 : Int32) (x3 : Int32), J x1 x2 x3 = some R → V K 0 0 (bkW g A v) [(0, .ref A.1), (1, .int x1), (2, .int x2), (3, .int x3)] [] 4) (x1 : Int32) (x2 : Int32) (x3 : Int32), f_X0_against_B29 J v x1 x2 x3 = some R → V K 0 0 (bkW g A v) [(0, .ref A.1), (1, .int x1), (2, .int x2), (3, .int x3)] [] 29 := by
    intro J hJ x1 x2 x3 h
    rw [f_X0_against_B29] at h
    refine V_iload_n C 2 30 dX0_against_29 rfl rfl ?_
    refine V_aload_n C 0 31 dX0_against_30 rfl rfl ?_
    refine V_get C (v := .ref A.2.2.2.1) 0 34 fl_X0_18 dX0_against_31 rfl rfl rfl ?_
    refine V_iload_n C 3 35 dX0_against_34 rfl rfl ?_
    obtain ⟨g1, h⟩ := gd_some h
    refine V_iald C (f := (Bk_weights v)) (n := 12) 3 36 dX0_against_35 rfl rfl g1 ?_
    refine V_iadd C 37 dX0_against_36 rfl ?_
    refine V_istore_n C 38 [(2, .int (x2 + ((Bk_weights v) (cl x3)))), (0, .ref A.1), (1, .int x1), (3, .int x3)] dX0_against_37 rfl (hlt 2 (by decide)) rfl ?_
    refine V_lv [1, 2, 0, 3] rfl ?_
    exact B38 J hJ _ _ _ h
  have L4 : ∀ (n : Nat) (x1 : Int32) (x2 : Int32) (x3 : Int32), f_X0_against_L4 v n x1 x2 x3 = some R → V K 0 0 (bkW g A v) [(0, .ref A.1), (1, .int x1), (2, .int x2), (3, .int x3)] [] 4 := by
    intro n
    induction n with
    | zero =>
      intro x1 x2 x3 h
      rw [f_X0_against_L4] at h
      cases h
    | succ n ih =>
      intro x1 x2 x3 h
      rw [f_X0_against_L4] at h
      refine V_iload_n C 3 5 dX0_against_4 rfl rfl ?_
      refine V_aload_n C 0 6 dX0_against_5 rfl rfl ?_
      refine V_get C (v := .int (Bk_marks v)) 0 9 fl_X0_30 dX0_against_6 rfl rfl rfl ?_
      refine V_icmp_ge C 44 12 dX0_against_9 rfl rfl (fun e2 => ?_) (fun e2 => ?_)
      · have h := (if_pos e2).symm.trans h
        refine V_iload_n C 2 45 dX0_against_44 rfl rfl ?_
        obtain rfl := Option.some.inj h
        exact retI _ _ _ .int rfl (rfl) rfl dX0_against_45
      · have h := (if_neg e2).symm.trans h
        refine V_aload_n C 0 13 dX0_against_12 rfl rfl ?_
        refine V_iload_n C 3 14 dX0_against_13 rfl rfl ?_
        obtain ⟨r3, k4, h⟩ := bd_some h
        refine V_callP C ml_X0_72 (pre := []) (post := []) (w := bkW g A v) (as := [.int x3]) (rest := []) (c_X0_hasSeat k4) 0 17 dX0_against_14 rfl ⟨Nat.le_of_ble_eq_true rfl, Nat.le_of_ble_eq_true rfl⟩ rfl (rfl) rfl rfl rfl (Nat.le_of_ble_eq_true rfl) ⟨Nat.zero_le _, Nat.zero_le _⟩ ?_
        refine V_if_eq C 29 20 dX0_against_17 rfl rfl (fun e5 => ?_) (fun e5 => ?_)
        · have h := (if_pos e5).symm.trans h
          refine V_lv [0, 1, 2, 3] rfl ?_
          exact B29 (f_X0_against_L4 v n) ih _ _ _ h
        · have h := (if_neg e5).symm.trans h
          refine V_aload_n C 0 21 dX0_against_20 rfl rfl ?_
          refine V_iload_n C 3 22 dX0_against_21 rfl rfl ?_
          refine V_iload_n C 1 23 dX0_against_22 rfl rfl ?_
          obtain ⟨r6, k7, h⟩ := bd_some h
          refine V_callP C ml_X0_85 (pre := []) (post := []) (w := bkW g A v) (as := [.int x3, .int x1]) (rest := []) (c_X0_isIn k7) 0 26 dX0_against_23 rfl ⟨Nat.le_of_ble_eq_true rfl, Nat.le_of_ble_eq_true rfl⟩ rfl (rfl) rfl rfl rfl (Nat.le_of_ble_eq_true rfl) ⟨Nat.zero_le _, Nat.zero_le _⟩ ?_
          refine V_if_eq C 38 29 dX0_against_26 rfl rfl (fun e8 => ?_) (fun e8 => ?_)
          · have h := (if_pos e8).symm.trans h
            refine V_lv [0, 1, 2, 3] rfl ?_
            exact B38 (f_X0_against_L4 v n) ih _ _ _ h
          · have h := (if_neg e8).symm.trans h
            refine V_lv [0, 1, 2, 3] rfl ?_
            exact B29 (f_X0_against_L4 v n) ih _ _ _ h
  show V K 0 0 _ [(0, .ref A.1), (1, .int a1)] [] 0
  unfold f_X0_against at h
  refine V_iconst C (0 : Int32) 1 dX0_against_0 rfl rfl ?_
  refine V_istore_n C 2 [(2, .int (0 : Int32)), (0, .ref A.1), (1, .int a1)] dX0_against_1 rfl (hlt 2 (by decide)) rfl ?_
  refine V_iconst C (0 : Int32) 3 dX0_against_2 rfl rfl ?_
  refine V_istore_n C 4 [(3, .int (0 : Int32)), (2, .int (0 : Int32)), (0, .ref A.1), (1, .int a1)] dX0_against_3 rfl (hlt 3 (by decide)) rfl ?_
  refine V_lv [2, 3, 1, 0] rfl ?_
  exact L4 100 _ _ _ h
set_option maxHeartbeats 4000000 in
set_option maxRecDepth 100000 in
theorem c_X0_weightOfAll {l : Launch} {D : va_G} {g : G0} {A : BkA} {v : BkV} {R : Int32} (h : f_X0_weightOfAll v  = some R) : CtP l D g yX0_weightOfAll cX0_weightOfAll 3 (some .int) (rmF 0 0) (bkW g A v) [.ref A.1] (some (.int R)) := by
  refine CtP.of (by decide) rfl rfl (Nat.le_of_ble_eq_true rfl) ?_
  intro K C el eD ekn retI
  subst el
  subst eD
  have hlt : ∀ i, i < 3 → i < kn K := fun i h => by rw [ekn]; exact h
  have L4 : ∀ (n : Nat) (x1 : Int32) (x2 : Int32), f_X0_weightOfAll_L4 v n x1 x2 = some R → V K 0 0 (bkW g A v) [(0, .ref A.1), (1, .int x1), (2, .int x2)] [] 4 := by
    intro n
    induction n with
    | zero =>
      intro x1 x2 h
      rw [f_X0_weightOfAll_L4] at h
      cases h
    | succ n ih =>
      intro x1 x2 h
      rw [f_X0_weightOfAll_L4] at h
      refine V_iload_n C 2 5 dX0_weightOfAll_4 rfl rfl ?_
      refine V_aload_n C 0 6 dX0_weightOfAll_5 rfl rfl ?_
      refine V_get C (v := .int (Bk_marks v)) 0 9 fl_X0_30 dX0_weightOfAll_6 rfl rfl rfl ?_
      refine V_icmp_ge C 27 12 dX0_weightOfAll_9 rfl rfl (fun e1 => ?_) (fun e1 => ?_)
      · have h := (if_pos e1).symm.trans h
        refine V_iload_n C 1 28 dX0_weightOfAll_27 rfl rfl ?_
        obtain rfl := Option.some.inj h
        exact retI _ _ _ .int rfl (rfl) rfl dX0_weightOfAll_28
      · have h := (if_neg e1).symm.trans h
        refine V_iload_n C 1 13 dX0_weightOfAll_12 rfl rfl ?_
        refine V_aload_n C 0 14 dX0_weightOfAll_13 rfl rfl ?_
        refine V_get C (v := .ref A.2.2.2.1) 0 17 fl_X0_18 dX0_weightOfAll_14 rfl rfl rfl ?_
        refine V_iload_n C 2 18 dX0_weightOfAll_17 rfl rfl ?_
        obtain ⟨g2, h⟩ := gd_some h
        refine V_iald C (f := (Bk_weights v)) (n := 12) 3 19 dX0_weightOfAll_18 rfl rfl g2 ?_
        refine V_iadd C 20 dX0_weightOfAll_19 rfl ?_
        refine V_istore_n C 21 [(1, .int (x1 + ((Bk_weights v) (cl x2)))), (0, .ref A.1), (2, .int x2)] dX0_weightOfAll_20 rfl (hlt 1 (by decide)) rfl ?_
        refine V_iinc C 2 (x2 + (1 : Int32)) 24 [(2, .int (x2 + (1 : Int32))), (1, .int (x1 + ((Bk_weights v) (cl x2)))), (0, .ref A.1)] dX0_weightOfAll_21 rfl rfl rfl (hlt 2 (by decide)) rfl ?_
        refine V_goto C 4 dX0_weightOfAll_24 rfl ?_
        refine V_lv [2, 1, 0] rfl ?_
        exact ih _ _ h
  show V K 0 0 _ [(0, .ref A.1)] [] 0
  unfold f_X0_weightOfAll at h
  refine V_iconst C (0 : Int32) 1 dX0_weightOfAll_0 rfl rfl ?_
  refine V_istore_n C 2 [(1, .int (0 : Int32)), (0, .ref A.1)] dX0_weightOfAll_1 rfl (hlt 1 (by decide)) rfl ?_
  refine V_iconst C (0 : Int32) 3 dX0_weightOfAll_2 rfl rfl ?_
  refine V_istore_n C 4 [(2, .int (0 : Int32)), (1, .int (0 : Int32)), (0, .ref A.1)] dX0_weightOfAll_3 rfl (hlt 2 (by decide)) rfl ?_
  refine V_lv [2, 1, 0] rfl ?_
  exact L4 100 _ _ h
set_option maxHeartbeats 4000000 in
set_option maxRecDepth 100000 in
theorem c_X0_againstByTotal {l : Launch} {D : va_G} {g : G0} {A : BkA} {v : BkV} {a1 : Int32} {R : Int32} (h : f_X0_againstByTotal v a1 = some R) : CtP l D g yX0_againstByTotal cX0_againstByTotal 2 (some .int) (rmF 2 46) (bkW g A v) [.ref A.1, .int a1] (some (.int R)) := by
  refine CtP.of (by decide) rfl rfl (Nat.le_of_ble_eq_true rfl) ?_
  intro K C el eD ekn retI
  subst el
  subst eD
  have hlt : ∀ i, i < 2 → i < kn K := fun i h => by rw [ekn]; exact h
  show V K 0 0 _ [(0, .ref A.1), (1, .int a1)] [] 0
  unfold f_X0_againstByTotal at h
  refine V_aload_n C 0 1 dX0_againstByTotal_0 rfl rfl ?_
  obtain ⟨r1, k2, h⟩ := bd_some h
  refine V_callP C ml_X0_88 (pre := []) (post := []) (w := bkW g A v) (as := []) (rest := []) (c_X0_weightOfAll k2) 0 4 dX0_againstByTotal_1 rfl ⟨Nat.le_of_ble_eq_true rfl, Nat.le_of_ble_eq_true rfl⟩ rfl (rfl) rfl rfl rfl (Nat.le_of_ble_eq_true rfl) ⟨Nat.zero_le _, Nat.zero_le _⟩ ?_
  refine V_aload_n C 0 5 dX0_againstByTotal_4 rfl rfl ?_
  refine V_iload_n C 1 6 dX0_againstByTotal_5 rfl rfl ?_
  obtain ⟨r3, k4, h⟩ := bd_some h
  refine V_callP C ml_X0_92 (pre := []) (post := []) (w := bkW g A v) (as := [.int a1]) (rest := [.int r1]) (c_X0_favour k4) 0 9 dX0_againstByTotal_6 rfl ⟨Nat.le_of_ble_eq_true rfl, Nat.le_of_ble_eq_true rfl⟩ rfl (rfl) rfl rfl rfl (Nat.le_of_ble_eq_true rfl) ⟨Nat.zero_le _, Nat.zero_le _⟩ ?_
  refine V_isub C 10 dX0_againstByTotal_9 rfl ?_
  obtain rfl := Option.some.inj h
  exact retI _ _ _ .int rfl (rfl) rfl dX0_againstByTotal_10
set_option maxHeartbeats 4000000 in
set_option maxRecDepth 100000 in
theorem c_X0_wouldCarry {l : Launch} {D : va_G} {g : G0} {A : BkA} {v : BkV} {a1 : Int32} {R : Int32} (h : f_X0_wouldCarry v a1 = some R) : CtP l D g yX0_wouldCarry cX0_wouldCarry 2 (some .boolean) (rmF 2 46) (bkW g A v) [.ref A.1, .int a1] (some (.int R)) := by
  refine CtP.of (by decide) rfl rfl (Nat.le_of_ble_eq_true rfl) ?_
  intro K C el eD ekn retI
  subst el
  subst eD
  have hlt : ∀ i, i < 2 → i < kn K := fun i h => by rw [ekn]; exact h
  have B18 : ∀ (x1 : Int32) (s0 : Int32), f_X0_wouldCarry_B18 v x1 s0 = some R → V K 0 0 (bkW g A v) [(0, .ref A.1), (1, .int x1)] [.int s0] 18 := by
    intro x1 s0 h
    rw [f_X0_wouldCarry_B18] at h
    obtain ⟨g1, h⟩ := gd_some h
    obtain rfl := Option.some.inj h
    exact retI _ _ _ .boolean rfl (isz_t g1) rfl dX0_wouldCarry_18
  show V K 0 0 _ [(0, .ref A.1), (1, .int a1)] [] 0
  unfold f_X0_wouldCarry at h
  refine V_aload_n C 0 1 dX0_wouldCarry_0 rfl rfl ?_
  refine V_iload_n C 1 2 dX0_wouldCarry_1 rfl rfl ?_
  obtain ⟨r2, k3, h⟩ := bd_some h
  refine V_callP C ml_X0_92 (pre := []) (post := []) (w := bkW g A v) (as := [.int a1]) (rest := []) (c_X0_favour k3) 0 5 dX0_wouldCarry_2 rfl ⟨Nat.le_of_ble_eq_true rfl, Nat.le_of_ble_eq_true rfl⟩ rfl (rfl) rfl rfl rfl (Nat.le_of_ble_eq_true rfl) ⟨Nat.zero_le _, Nat.zero_le _⟩ ?_
  refine V_aload_n C 0 6 dX0_wouldCarry_5 rfl rfl ?_
  refine V_iload_n C 1 7 dX0_wouldCarry_6 rfl rfl ?_
  obtain ⟨r4, k5, h⟩ := bd_some h
  refine V_callP C ml_X0_95 (pre := []) (post := []) (w := bkW g A v) (as := [.int a1]) (rest := [.int r2]) (c_X0_against k5) 0 10 dX0_wouldCarry_7 rfl ⟨Nat.le_of_ble_eq_true rfl, Nat.le_of_ble_eq_true rfl⟩ rfl (rfl) rfl rfl rfl (Nat.le_of_ble_eq_true rfl) ⟨Nat.zero_le _, Nat.zero_le _⟩ ?_
  refine V_icmp_le C 17 13 dX0_wouldCarry_10 rfl rfl (fun e6 => ?_) (fun e6 => ?_)
  · have h := (if_pos e6).symm.trans h
    refine V_iconst C (0 : Int32) 18 dX0_wouldCarry_17 rfl rfl ?_
    refine V_lv [0, 1] rfl ?_
    exact B18 _ _ h
  · have h := (if_neg e6).symm.trans h
    refine V_iconst C (1 : Int32) 14 dX0_wouldCarry_13 rfl rfl ?_
    refine V_goto C 18 dX0_wouldCarry_14 rfl ?_
    refine V_lv [0, 1] rfl ?_
    exact B18 _ _ h
set_option maxHeartbeats 4000000 in
set_option maxRecDepth 100000 in
theorem c_X0_heaviest {l : Launch} {D : va_G} {g : G0} {A : BkA} {v : BkV} {R : Int32} (h : f_X0_heaviest v  = some R) : CtP l D g yX0_heaviest cX0_heaviest 3 (some .int) (rmF 2 46) (bkW g A v) [.ref A.1] (some (.int R)) := by
  refine CtP.of (by decide) rfl rfl (Nat.le_of_ble_eq_true rfl) ?_
  intro K C el eD ekn retI
  subst el
  subst eD
  have hlt : ∀ i, i < 3 → i < kn K := fun i h => by rw [ekn]; exact h
  have B27 : ∀ (J : Int32 → Int32 → Option Int32) (hJ : ∀ (x1 : Int32) (x2 : Int32), J x1 x2 = some R → V K 0 0 (bkW g A v) [(0, .ref A.1), (1, .int x1), (2, .int x2)] [] 4) (x1 : Int32) (x2 : Int32), f_X0_heaviest_B27 J v x1 x2 = some R → V K 0 0 (bkW g A v) [(0, .ref A.1), (1, .int x1), (2, .int x2)] [] 27 := by
    intro J hJ x1 x2 h
    rw [f_X0_heaviest_B27] at h
    refine V_iinc C 2 (x2 + (1 : Int32)) 30 [(2, .int (x2 + (1 : Int32))), (0, .ref A.1), (1, .int x1)] dX0_heaviest_27 rfl rfl rfl (hlt 2 (by decide)) rfl ?_
    refine V_goto C 4 dX0_heaviest_30 rfl ?_
    refine V_lv [1, 2, 0] rfl ?_
    exact hJ _ _ h
  have L4 : ∀ (n : Nat) (x1 : Int32) (x2 : Int32), f_X0_heaviest_L4 v n x1 x2 = some R → V K 0 0 (bkW g A v) [(0, .ref A.1), (1, .int x1), (2, .int x2)] [] 4 := by
    intro n
    induction n with
    | zero =>
      intro x1 x2 h
      rw [f_X0_heaviest_L4] at h
      cases h
    | succ n ih =>
      intro x1 x2 h
      rw [f_X0_heaviest_L4] at h
      refine V_iload_n C 2 5 dX0_heaviest_4 rfl rfl ?_
      refine V_aload_n C 0 6 dX0_heaviest_5 rfl rfl ?_
      refine V_get C (v := .int (Bk_chapters v)) 0 9 fl_X0_34 dX0_heaviest_6 rfl rfl rfl ?_
      refine V_icmp_ge C 33 12 dX0_heaviest_9 rfl rfl (fun e1 => ?_) (fun e1 => ?_)
      · have h := (if_pos e1).symm.trans h
        refine V_iload_n C 1 34 dX0_heaviest_33 rfl rfl ?_
        obtain rfl := Option.some.inj h
        exact retI _ _ _ .int rfl (rfl) rfl dX0_heaviest_34
      · have h := (if_neg e1).symm.trans h
        refine V_aload_n C 0 13 dX0_heaviest_12 rfl rfl ?_
        refine V_iload_n C 2 14 dX0_heaviest_13 rfl rfl ?_
        obtain ⟨r2, k3, h⟩ := bd_some h
        refine V_callP C ml_X0_98 (pre := []) (post := []) (w := bkW g A v) (as := [.int x2]) (rest := []) (c_X0_weightIn k3) 0 17 dX0_heaviest_14 rfl ⟨Nat.le_of_ble_eq_true rfl, Nat.le_of_ble_eq_true rfl⟩ rfl (rfl) rfl rfl rfl (Nat.le_of_ble_eq_true rfl) ⟨Nat.zero_le _, Nat.zero_le _⟩ ?_
        refine V_aload_n C 0 18 dX0_heaviest_17 rfl rfl ?_
        refine V_iload_n C 1 19 dX0_heaviest_18 rfl rfl ?_
        obtain ⟨r4, k5, h⟩ := bd_some h
        refine V_callP C ml_X0_98 (pre := []) (post := []) (w := bkW g A v) (as := [.int x1]) (rest := [.int r2]) (c_X0_weightIn k5) 0 22 dX0_heaviest_19 rfl ⟨Nat.le_of_ble_eq_true rfl, Nat.le_of_ble_eq_true rfl⟩ rfl (rfl) rfl rfl rfl (Nat.le_of_ble_eq_true rfl) ⟨Nat.zero_le _, Nat.zero_le _⟩ ?_
        refine V_icmp_le C 27 25 dX0_heaviest_22 rfl rfl (fun e6 => ?_) (fun e6 => ?_)
        · have h := (if_pos e6).symm.trans h
          refine V_lv [0, 1, 2] rfl ?_
          exact B27 (f_X0_heaviest_L4 v n) ih _ _ h
        · have h := (if_neg e6).symm.trans h
          refine V_iload_n C 2 26 dX0_heaviest_25 rfl rfl ?_
          refine V_istore_n C 27 [(1, .int x2), (0, .ref A.1), (2, .int x2)] dX0_heaviest_26 rfl (hlt 1 (by decide)) rfl ?_
          refine V_lv [1, 0, 2] rfl ?_
          exact B27 (f_X0_heaviest_L4 v n) ih _ _ h
  show V K 0 0 _ [(0, .ref A.1)] [] 0
  unfold f_X0_heaviest at h
  refine V_iconst C (0 : Int32) 1 dX0_heaviest_0 rfl rfl ?_
  refine V_istore_n C 2 [(1, .int (0 : Int32)), (0, .ref A.1)] dX0_heaviest_1 rfl (hlt 1 (by decide)) rfl ?_
  refine V_iconst C (1 : Int32) 3 dX0_heaviest_2 rfl rfl ?_
  refine V_istore_n C 4 [(2, .int (1 : Int32)), (1, .int (0 : Int32)), (0, .ref A.1)] dX0_heaviest_3 rfl (hlt 2 (by decide)) rfl ?_
  refine V_lv [2, 1, 0] rfl ?_
  exact L4 100 _ _ h
set_option maxHeartbeats 4000000 in
set_option maxRecDepth 100000 in
theorem c_X0_weightOfKind {l : Launch} {D : va_G} {g : G0} {A : BkA} {v : BkV} {a1 : Int32} {R : Int32} (h : f_X0_weightOfKind v a1 = some R) : CtP l D g yX0_weightOfKind cX0_weightOfKind 4 (some .int) (rmF 1 21) (bkW g A v) [.ref A.1, .int a1] (some (.int R)) := by
  refine CtP.of (by decide) rfl rfl (Nat.le_of_ble_eq_true rfl) ?_
  intro K C el eD ekn retI
  subst el
  subst eD
  have hlt : ∀ i, i < 4 → i < kn K := fun i h => by rw [ekn]; exact h
  have B30 : ∀ (J : Int32 → Int32 → Int32 → Option Int32) (hJ : ∀ (x1 : Int32) (x2 : Int32) (x3 : Int32), J x1 x2 x3 = some R → V K 0 0 (bkW g A v) [(0, .ref A.1), (1, .int x1), (2, .int x2), (3, .int x3)] [] 4) (x1 : Int32) (x2 : Int32) (x3 : Int32), f_X0_weightOfKind_B30 J v x1 x2 x3 = some R → V K 0 0 (bkW g A v) [(0, .ref A.1), (1, .int x1), (2, .int x2), (3, .int x3)] [] 30 := by
    intro J hJ x1 x2 x3 h
    rw [f_X0_weightOfKind_B30] at h
    refine V_iinc C 3 (x3 + (1 : Int32)) 33 [(3, .int (x3 + (1 : Int32))), (0, .ref A.1), (1, .int x1), (2, .int x2)] dX0_weightOfKind_30 rfl rfl rfl (hlt 3 (by decide)) rfl ?_
    refine V_goto C 4 dX0_weightOfKind_33 rfl ?_
    refine V_lv [1, 2, 3, 0] rfl ?_
    exact hJ _ _ _ h
  have L4 : ∀ (n : Nat) (x1 : Int32) (x2 : Int32) (x3 : Int32), f_X0_weightOfKind_L4 v n x1 x2 x3 = some R → V K 0 0 (bkW g A v) [(0, .ref A.1), (1, .int x1), (2, .int x2), (3, .int x3)] [] 4 := by
    intro n
    induction n with
    | zero =>
      intro x1 x2 x3 h
      rw [f_X0_weightOfKind_L4] at h
      cases h
    | succ n ih =>
      intro x1 x2 x3 h
      rw [f_X0_weightOfKind_L4] at h
      refine V_iload_n C 3 5 dX0_weightOfKind_4 rfl rfl ?_
      refine V_aload_n C 0 6 dX0_weightOfKind_5 rfl rfl ?_
      refine V_get C (v := .int (Bk_marks v)) 0 9 fl_X0_30 dX0_weightOfKind_6 rfl rfl rfl ?_
      refine V_icmp_ge C 36 12 dX0_weightOfKind_9 rfl rfl (fun e1 => ?_) (fun e1 => ?_)
      · have h := (if_pos e1).symm.trans h
        refine V_iload_n C 2 37 dX0_weightOfKind_36 rfl rfl ?_
        obtain rfl := Option.some.inj h
        exact retI _ _ _ .int rfl (rfl) rfl dX0_weightOfKind_37
      · have h := (if_neg e1).symm.trans h
        refine V_aload_n C 0 13 dX0_weightOfKind_12 rfl rfl ?_
        refine V_iload_n C 3 14 dX0_weightOfKind_13 rfl rfl ?_
        obtain ⟨r2, k3, h⟩ := bd_some h
        refine V_callP C ml_X0_72 (pre := []) (post := []) (w := bkW g A v) (as := [.int x3]) (rest := []) (c_X0_hasSeat k3) 0 17 dX0_weightOfKind_14 rfl ⟨Nat.le_of_ble_eq_true rfl, Nat.le_of_ble_eq_true rfl⟩ rfl (rfl) rfl rfl rfl (Nat.le_of_ble_eq_true rfl) ⟨Nat.zero_le _, Nat.zero_le _⟩ ?_
        refine V_iload_n C 1 18 dX0_weightOfKind_17 rfl rfl ?_
        refine V_icmp_ne C 30 21 dX0_weightOfKind_18 rfl rfl (fun e4 => ?_) (fun e4 => ?_)
        · have h := (if_neg e4).symm.trans h
          refine V_lv [0, 1, 2, 3] rfl ?_
          exact B30 (f_X0_weightOfKind_L4 v n) ih _ _ _ h
        · have h := (if_pos e4).symm.trans h
          refine V_iload_n C 2 22 dX0_weightOfKind_21 rfl rfl ?_
          refine V_aload_n C 0 23 dX0_weightOfKind_22 rfl rfl ?_
          refine V_get C (v := .ref A.2.2.2.1) 0 26 fl_X0_18 dX0_weightOfKind_23 rfl rfl rfl ?_
          refine V_iload_n C 3 27 dX0_weightOfKind_26 rfl rfl ?_
          obtain ⟨g5, h⟩ := gd_some h
          refine V_iald C (f := (Bk_weights v)) (n := 12) 3 28 dX0_weightOfKind_27 rfl rfl g5 ?_
          refine V_iadd C 29 dX0_weightOfKind_28 rfl ?_
          refine V_istore_n C 30 [(2, .int (x2 + ((Bk_weights v) (cl x3)))), (0, .ref A.1), (1, .int x1), (3, .int x3)] dX0_weightOfKind_29 rfl (hlt 2 (by decide)) rfl ?_
          refine V_lv [1, 2, 0, 3] rfl ?_
          exact B30 (f_X0_weightOfKind_L4 v n) ih _ _ _ h
  show V K 0 0 _ [(0, .ref A.1), (1, .int a1)] [] 0
  unfold f_X0_weightOfKind at h
  refine V_iconst C (0 : Int32) 1 dX0_weightOfKind_0 rfl rfl ?_
  refine V_istore_n C 2 [(2, .int (0 : Int32)), (0, .ref A.1), (1, .int a1)] dX0_weightOfKind_1 rfl (hlt 2 (by decide)) rfl ?_
  refine V_iconst C (0 : Int32) 3 dX0_weightOfKind_2 rfl rfl ?_
  refine V_istore_n C 4 [(3, .int (0 : Int32)), (2, .int (0 : Int32)), (0, .ref A.1), (1, .int a1)] dX0_weightOfKind_3 rfl (hlt 3 (by decide)) rfl ?_
  refine V_lv [2, 3, 1, 0] rfl ?_
  exact L4 100 _ _ _ h
set_option maxHeartbeats 4000000 in
set_option maxRecDepth 100000 in
theorem c_X0_ribbons {l : Launch} {D : va_G} {g : G0} {A : BkA} {v : BkV} {R : Int32} (h : f_X0_ribbons v  = some R) : CtP l D g yX0_ribbons cX0_ribbons 3 (some .int) (rmF 1 21) (bkW g A v) [.ref A.1] (some (.int R)) := by
  refine CtP.of (by decide) rfl rfl (Nat.le_of_ble_eq_true rfl) ?_
  intro K C el eD ekn retI
  subst el
  subst eD
  have hlt : ∀ i, i < 3 → i < kn K := fun i h => by rw [ekn]; exact h
  have B23 : ∀ (J : Int32 → Int32 → Option Int32) (hJ : ∀ (x1 : Int32) (x2 : Int32), J x1 x2 = some R → V K 0 0 (bkW g A v) [(0, .ref A.1), (1, .int x1), (2, .int x2)] [] 4) (x1 : Int32) (x2 : Int32), f_X0_ribbons_B23 J v x1 x2 = some R → V K 0 0 (bkW g A v) [(0, .ref A.1), (1, .int x1), (2, .int x2)] [] 23 := by
    intro J hJ x1 x2 h
    rw [f_X0_ribbons_B23] at h
    refine V_iinc C 2 (x2 + (1 : Int32)) 26 [(2, .int (x2 + (1 : Int32))), (0, .ref A.1), (1, .int x1)] dX0_ribbons_23 rfl rfl rfl (hlt 2 (by decide)) rfl ?_
    refine V_goto C 4 dX0_ribbons_26 rfl ?_
    refine V_lv [1, 2, 0] rfl ?_
    exact hJ _ _ h
  have L4 : ∀ (n : Nat) (x1 : Int32) (x2 : Int32), f_X0_ribbons_L4 v n x1 x2 = some R → V K 0 0 (bkW g A v) [(0, .ref A.1), (1, .int x1), (2, .int x2)] [] 4 := by
    intro n
    induction n with
    | zero =>
      intro x1 x2 h
      rw [f_X0_ribbons_L4] at h
      cases h
    | succ n ih =>
      intro x1 x2 h
      rw [f_X0_ribbons_L4] at h
      refine V_iload_n C 2 5 dX0_ribbons_4 rfl rfl ?_
      refine V_aload_n C 0 6 dX0_ribbons_5 rfl rfl ?_
      refine V_get C (v := .int (Bk_marks v)) 0 9 fl_X0_30 dX0_ribbons_6 rfl rfl rfl ?_
      refine V_icmp_ge C 29 12 dX0_ribbons_9 rfl rfl (fun e1 => ?_) (fun e1 => ?_)
      · have h := (if_pos e1).symm.trans h
        refine V_iload_n C 1 30 dX0_ribbons_29 rfl rfl ?_
        obtain rfl := Option.some.inj h
        exact retI _ _ _ .int rfl (rfl) rfl dX0_ribbons_30
      · have h := (if_neg e1).symm.trans h
        refine V_aload_n C 0 13 dX0_ribbons_12 rfl rfl ?_
        refine V_iload_n C 2 14 dX0_ribbons_13 rfl rfl ?_
        obtain ⟨r2, k3, h⟩ := bd_some h
        refine V_callP C ml_X0_72 (pre := []) (post := []) (w := bkW g A v) (as := [.int x2]) (rest := []) (c_X0_hasSeat k3) 0 17 dX0_ribbons_14 rfl ⟨Nat.le_of_ble_eq_true rfl, Nat.le_of_ble_eq_true rfl⟩ rfl (rfl) rfl rfl rfl (Nat.le_of_ble_eq_true rfl) ⟨Nat.zero_le _, Nat.zero_le _⟩ ?_
        refine V_if_eq C 23 20 dX0_ribbons_17 rfl rfl (fun e4 => ?_) (fun e4 => ?_)
        · have h := (if_pos e4).symm.trans h
          refine V_lv [0, 1, 2] rfl ?_
          exact B23 (f_X0_ribbons_L4 v n) ih _ _ h
        · have h := (if_neg e4).symm.trans h
          refine V_iinc C 1 (x1 + (1 : Int32)) 23 [(1, .int (x1 + (1 : Int32))), (0, .ref A.1), (2, .int x2)] dX0_ribbons_20 rfl rfl rfl (hlt 1 (by decide)) rfl ?_
          refine V_lv [1, 0, 2] rfl ?_
          exact B23 (f_X0_ribbons_L4 v n) ih _ _ h
  show V K 0 0 _ [(0, .ref A.1)] [] 0
  unfold f_X0_ribbons at h
  refine V_iconst C (0 : Int32) 1 dX0_ribbons_0 rfl rfl ?_
  refine V_istore_n C 2 [(1, .int (0 : Int32)), (0, .ref A.1)] dX0_ribbons_1 rfl (hlt 1 (by decide)) rfl ?_
  refine V_iconst C (0 : Int32) 3 dX0_ribbons_2 rfl rfl ?_
  refine V_istore_n C 4 [(2, .int (0 : Int32)), (1, .int (0 : Int32)), (0, .ref A.1)] dX0_ribbons_3 rfl (hlt 2 (by decide)) rfl ?_
  refine V_lv [2, 1, 0] rfl ?_
  exact L4 100 _ _ h
set_option maxHeartbeats 4000000 in
set_option maxRecDepth 100000 in
theorem c_X0_spanStepByStep {l : Launch} {D : va_G} {g : G0} {A : BkA} {v : BkV} {R : Int32} (h : f_X0_spanStepByStep v  = some R) : CtP l D g yX0_spanStepByStep cX0_spanStepByStep 3 (some .int) (rmF 0 0) (bkW g A v) [.ref A.1] (some (.int R)) := by
  refine CtP.of (by decide) rfl rfl (Nat.le_of_ble_eq_true rfl) ?_
  intro K C el eD ekn retI
  subst el
  subst eD
  have hlt : ∀ i, i < 3 → i < kn K := fun i h => by rw [ekn]; exact h
  have L4 : ∀ (n : Nat) (x1 : Int32) (x2 : Int32), f_X0_spanStepByStep_L4 v n x1 x2 = some R → V K 0 0 (bkW g A v) [(0, .ref A.1), (1, .int x1), (2, .int x2)] [] 4 := by
    intro n
    induction n with
    | zero =>
      intro x1 x2 h
      rw [f_X0_spanStepByStep_L4] at h
      cases h
    | succ n ih =>
      intro x1 x2 h
      rw [f_X0_spanStepByStep_L4] at h
      refine V_iload_n C 2 5 dX0_spanStepByStep_4 rfl rfl ?_
      refine V_aload_n C 0 6 dX0_spanStepByStep_5 rfl rfl ?_
      refine V_get C (v := .int (Bk_marks v)) 0 9 fl_X0_30 dX0_spanStepByStep_6 rfl rfl rfl ?_
      refine V_icmp_ge C 36 12 dX0_spanStepByStep_9 rfl rfl (fun e1 => ?_) (fun e1 => ?_)
      · have h := (if_pos e1).symm.trans h
        refine V_iload_n C 1 37 dX0_spanStepByStep_36 rfl rfl ?_
        obtain rfl := Option.some.inj h
        exact retI _ _ _ .int rfl (rfl) rfl dX0_spanStepByStep_37
      · have h := (if_neg e1).symm.trans h
        refine V_iload_n C 1 13 dX0_spanStepByStep_12 rfl rfl ?_
        refine V_aload_n C 0 14 dX0_spanStepByStep_13 rfl rfl ?_
        refine V_get C (v := .ref A.2.2.1) 0 17 fl_X0_15 dX0_spanStepByStep_14 rfl rfl rfl ?_
        refine V_iload_n C 2 18 dX0_spanStepByStep_17 rfl rfl ?_
        obtain ⟨g2, h⟩ := gd_some h
        refine V_iald C (f := (Bk_pages v)) (n := 12) 2 19 dX0_spanStepByStep_18 rfl rfl g2 ?_
        refine V_aload_n C 0 20 dX0_spanStepByStep_19 rfl rfl ?_
        refine V_get C (v := .ref A.2.2.1) 0 23 fl_X0_15 dX0_spanStepByStep_20 rfl rfl rfl ?_
        refine V_iload_n C 2 24 dX0_spanStepByStep_23 rfl rfl ?_
        refine V_iconst C (1 : Int32) 25 dX0_spanStepByStep_24 rfl rfl ?_
        refine V_isub C 26 dX0_spanStepByStep_25 rfl ?_
        obtain ⟨g3, h⟩ := gd_some h
        refine V_iald C (f := (Bk_pages v)) (n := 12) 2 27 dX0_spanStepByStep_26 rfl rfl g3 ?_
        refine V_isub C 28 dX0_spanStepByStep_27 rfl ?_
        refine V_iadd C 29 dX0_spanStepByStep_28 rfl ?_
        refine V_istore_n C 30 [(1, .int (x1 + (((Bk_pages v) (cl x2)) - ((Bk_pages v) (cl (x2 - (1 : Int32))))))), (0, .ref A.1), (2, .int x2)] dX0_spanStepByStep_29 rfl (hlt 1 (by decide)) rfl ?_
        refine V_iinc C 2 (x2 + (1 : Int32)) 33 [(2, .int (x2 + (1 : Int32))), (1, .int (x1 + (((Bk_pages v) (cl x2)) - ((Bk_pages v) (cl (x2 - (1 : Int32))))))), (0, .ref A.1)] dX0_spanStepByStep_30 rfl rfl rfl (hlt 2 (by decide)) rfl ?_
        refine V_goto C 4 dX0_spanStepByStep_33 rfl ?_
        refine V_lv [2, 1, 0] rfl ?_
        exact ih _ _ h
  show V K 0 0 _ [(0, .ref A.1)] [] 0
  unfold f_X0_spanStepByStep at h
  refine V_iconst C (0 : Int32) 1 dX0_spanStepByStep_0 rfl rfl ?_
  refine V_istore_n C 2 [(1, .int (0 : Int32)), (0, .ref A.1)] dX0_spanStepByStep_1 rfl (hlt 1 (by decide)) rfl ?_
  refine V_iconst C (1 : Int32) 3 dX0_spanStepByStep_2 rfl rfl ?_
  refine V_istore_n C 4 [(2, .int (1 : Int32)), (1, .int (0 : Int32)), (0, .ref A.1)] dX0_spanStepByStep_3 rfl (hlt 2 (by decide)) rfl ?_
  refine V_lv [2, 1, 0] rfl ?_
  exact L4 100 _ _ h
set_option maxHeartbeats 4000000 in
set_option maxRecDepth 100000 in
theorem c_X0_spanEndToEnd {l : Launch} {D : va_G} {g : G0} {A : BkA} {v : BkV} {R : Int32} (h : f_X0_spanEndToEnd v  = some R) : CtP l D g yX0_spanEndToEnd cX0_spanEndToEnd 1 (some .int) (rmF 0 0) (bkW g A v) [.ref A.1] (some (.int R)) := by
  refine CtP.of (by decide) rfl rfl (Nat.le_of_ble_eq_true rfl) ?_
  intro K C el eD ekn retI
  subst el
  subst eD
  have hlt : ∀ i, i < 1 → i < kn K := fun i h => by rw [ekn]; exact h
  have B30 : ∀ (s0 : Int32), f_X0_spanEndToEnd_B30 v s0 = some R → V K 0 0 (bkW g A v) [(0, .ref A.1)] [.int s0] 30 := by
    intro s0 h
    rw [f_X0_spanEndToEnd_B30] at h
    obtain rfl := Option.some.inj h
    exact retI _ _ _ .int rfl (rfl) rfl dX0_spanEndToEnd_30
  show V K 0 0 _ [(0, .ref A.1)] [] 0
  unfold f_X0_spanEndToEnd at h
  refine V_aload_n C 0 1 dX0_spanEndToEnd_0 rfl rfl ?_
  refine V_get C (v := .int (Bk_marks v)) 0 4 fl_X0_30 dX0_spanEndToEnd_1 rfl rfl rfl ?_
  refine V_iconst C (2 : Int32) 5 dX0_spanEndToEnd_4 rfl rfl ?_
  refine V_icmp_ge C 12 8 dX0_spanEndToEnd_5 rfl rfl (fun e1 => ?_) (fun e1 => ?_)
  · have h := (if_pos e1).symm.trans h
    refine V_aload_n C 0 13 dX0_spanEndToEnd_12 rfl rfl ?_
    refine V_get C (v := .ref A.2.2.1) 0 16 fl_X0_15 dX0_spanEndToEnd_13 rfl rfl rfl ?_
    refine V_aload_n C 0 17 dX0_spanEndToEnd_16 rfl rfl ?_
    refine V_get C (v := .int (Bk_marks v)) 0 20 fl_X0_30 dX0_spanEndToEnd_17 rfl rfl rfl ?_
    refine V_iconst C (1 : Int32) 21 dX0_spanEndToEnd_20 rfl rfl ?_
    refine V_isub C 22 dX0_spanEndToEnd_21 rfl ?_
    obtain ⟨g2, h⟩ := gd_some h
    refine V_iald C (f := (Bk_pages v)) (n := 12) 2 23 dX0_spanEndToEnd_22 rfl rfl g2 ?_
    refine V_aload_n C 0 24 dX0_spanEndToEnd_23 rfl rfl ?_
    refine V_get C (v := .ref A.2.2.1) 0 27 fl_X0_15 dX0_spanEndToEnd_24 rfl rfl rfl ?_
    refine V_iconst C (0 : Int32) 28 dX0_spanEndToEnd_27 rfl rfl ?_
    obtain ⟨g3, h⟩ := gd_some h
    refine V_iald C (f := (Bk_pages v)) (n := 12) 2 29 dX0_spanEndToEnd_28 rfl rfl g3 ?_
    refine V_isub C 30 dX0_spanEndToEnd_29 rfl ?_
    refine V_lv [0] rfl ?_
    exact B30 _ h
  · have h := (if_neg e1).symm.trans h
    refine V_iconst C (0 : Int32) 9 dX0_spanEndToEnd_8 rfl rfl ?_
    refine V_goto C 30 dX0_spanEndToEnd_9 rfl ?_
    refine V_lv [0] rfl ?_
    exact B30 _ h
set_option maxHeartbeats 4000000 in
set_option maxRecDepth 100000 in
theorem c_X0_chapterWaysAgree {l : Launch} {D : va_G} {g : G0} {A : BkA} {v : BkV} {R : Int32} (h : f_X0_chapterWaysAgree v  = some R) : CtP l D g yX0_chapterWaysAgree cX0_chapterWaysAgree 2 (some .boolean) (rmF 3 67) (bkW g A v) [.ref A.1] (some (.int R)) := by
  refine CtP.of (by decide) rfl rfl (Nat.le_of_ble_eq_true rfl) ?_
  intro K C el eD ekn retI
  subst el
  subst eD
  have hlt : ∀ i, i < 2 → i < kn K := fun i h => by rw [ekn]; exact h
  have L2 : ∀ (n : Nat) (x1 : Int32), f_X0_chapterWaysAgree_L2 v n x1 = some R → V K 0 0 (bkW g A v) [(0, .ref A.1), (1, .int x1)] [] 2 := by
    intro n
    induction n with
    | zero =>
      intro x1 h
      rw [f_X0_chapterWaysAgree_L2] at h
      cases h
    | succ n ih =>
      intro x1 h
      rw [f_X0_chapterWaysAgree_L2] at h
      refine V_iload_n C 1 3 dX0_chapterWaysAgree_2 rfl rfl ?_
      refine V_aload_n C 0 4 dX0_chapterWaysAgree_3 rfl rfl ?_
      refine V_get C (v := .int (Bk_chapters v)) 0 7 fl_X0_34 dX0_chapterWaysAgree_4 rfl rfl rfl ?_
      refine V_icmp_ge C 46 10 dX0_chapterWaysAgree_7 rfl rfl (fun e1 => ?_) (fun e1 => ?_)
      · have h := (if_pos e1).symm.trans h
        refine V_iconst C (1 : Int32) 47 dX0_chapterWaysAgree_46 rfl rfl ?_
        obtain rfl := Option.some.inj h
        exact retI _ _ _ .boolean rfl (rfl) rfl dX0_chapterWaysAgree_47
      · have h := (if_neg e1).symm.trans h
        refine V_aload_n C 0 11 dX0_chapterWaysAgree_10 rfl rfl ?_
        refine V_iload_n C 1 12 dX0_chapterWaysAgree_11 rfl rfl ?_
        obtain ⟨r2, k3, h⟩ := bd_some h
        refine V_callP C ml_X0_101 (pre := []) (post := []) (w := bkW g A v) (as := [.int x1]) (rest := []) (c_X0_heldPageByPage k3) 0 15 dX0_chapterWaysAgree_12 rfl ⟨Nat.le_of_ble_eq_true rfl, Nat.le_of_ble_eq_true rfl⟩ rfl (rfl) rfl rfl rfl (Nat.le_of_ble_eq_true rfl) ⟨Nat.zero_le _, Nat.zero_le _⟩ ?_
        refine V_aload_n C 0 16 dX0_chapterWaysAgree_15 rfl rfl ?_
        refine V_iload_n C 1 17 dX0_chapterWaysAgree_16 rfl rfl ?_
        obtain ⟨r4, k5, h⟩ := bd_some h
        refine V_callP C ml_X0_104 (pre := []) (post := []) (w := bkW g A v) (as := [.int x1]) (rest := [.int r2]) (c_X0_heldMarkByMark k5) 0 20 dX0_chapterWaysAgree_17 rfl ⟨Nat.le_of_ble_eq_true rfl, Nat.le_of_ble_eq_true rfl⟩ rfl (rfl) rfl rfl rfl (Nat.le_of_ble_eq_true rfl) ⟨Nat.zero_le _, Nat.zero_le _⟩ ?_
        refine V_icmp_eq C 25 23 dX0_chapterWaysAgree_20 rfl rfl (fun e6 => ?_) (fun e6 => ?_)
        · have h := (if_pos e6).symm.trans h
          refine V_aload_n C 0 26 dX0_chapterWaysAgree_25 rfl rfl ?_
          refine V_iload_n C 1 27 dX0_chapterWaysAgree_26 rfl rfl ?_
          obtain ⟨r7, k8, h⟩ := bd_some h
          refine V_callP C ml_X0_95 (pre := []) (post := []) (w := bkW g A v) (as := [.int x1]) (rest := []) (c_X0_against k8) 0 30 dX0_chapterWaysAgree_27 rfl ⟨Nat.le_of_ble_eq_true rfl, Nat.le_of_ble_eq_true rfl⟩ rfl (rfl) rfl rfl rfl (Nat.le_of_ble_eq_true rfl) ⟨Nat.zero_le _, Nat.zero_le _⟩ ?_
          refine V_aload_n C 0 31 dX0_chapterWaysAgree_30 rfl rfl ?_
          refine V_iload_n C 1 32 dX0_chapterWaysAgree_31 rfl rfl ?_
          obtain ⟨r9, k10, h⟩ := bd_some h
          refine V_callP C ml_X0_107 (pre := []) (post := []) (w := bkW g A v) (as := [.int x1]) (rest := [.int r7]) (c_X0_againstByTotal k10) 0 35 dX0_chapterWaysAgree_32 rfl ⟨Nat.le_of_ble_eq_true rfl, Nat.le_of_ble_eq_true rfl⟩ rfl (rfl) rfl rfl rfl (Nat.le_of_ble_eq_true rfl) ⟨Nat.zero_le _, Nat.zero_le _⟩ ?_
          refine V_icmp_eq C 40 38 dX0_chapterWaysAgree_35 rfl rfl (fun e11 => ?_) (fun e11 => ?_)
          · have h := (if_pos e11).symm.trans h
            refine V_iinc C 1 (x1 + (1 : Int32)) 43 [(1, .int (x1 + (1 : Int32))), (0, .ref A.1)] dX0_chapterWaysAgree_40 rfl rfl rfl (hlt 1 (by decide)) rfl ?_
            refine V_goto C 2 dX0_chapterWaysAgree_43 rfl ?_
            refine V_lv [1, 0] rfl ?_
            exact ih _ h
          · have h := (if_neg e11).symm.trans h
            refine V_iconst C (0 : Int32) 39 dX0_chapterWaysAgree_38 rfl rfl ?_
            obtain rfl := Option.some.inj h
            exact retI _ _ _ .boolean rfl (rfl) rfl dX0_chapterWaysAgree_39
        · have h := (if_neg e6).symm.trans h
          refine V_iconst C (0 : Int32) 24 dX0_chapterWaysAgree_23 rfl rfl ?_
          obtain rfl := Option.some.inj h
          exact retI _ _ _ .boolean rfl (rfl) rfl dX0_chapterWaysAgree_24
  show V K 0 0 _ [(0, .ref A.1)] [] 0
  unfold f_X0_chapterWaysAgree at h
  refine V_iconst C (0 : Int32) 1 dX0_chapterWaysAgree_0 rfl rfl ?_
  refine V_istore_n C 2 [(1, .int (0 : Int32)), (0, .ref A.1)] dX0_chapterWaysAgree_1 rfl (hlt 1 (by decide)) rfl ?_
  refine V_lv [1, 0] rfl ?_
  exact L2 100 _ h
set_option maxHeartbeats 4000000 in
set_option maxRecDepth 100000 in
theorem c_X0_pagesDiffer {l : Launch} {D : va_G} {g : G0} {A : BkA} {v : BkV} {R : Int32} (h : f_X0_pagesDiffer v  = some R) : CtP l D g yX0_pagesDiffer cX0_pagesDiffer 2 (some .boolean) (rmF 1 22) (bkW g A v) [.ref A.1] (some (.int R)) := by
  refine CtP.of (by decide) rfl rfl (Nat.le_of_ble_eq_true rfl) ?_
  intro K C el eD ekn retI
  subst el
  subst eD
  have hlt : ∀ i, i < 2 → i < kn K := fun i h => by rw [ekn]; exact h
  have L2 : ∀ (n : Nat) (x1 : Int32), f_X0_pagesDiffer_L2 v n x1 = some R → V K 0 0 (bkW g A v) [(0, .ref A.1), (1, .int x1)] [] 2 := by
    intro n
    induction n with
    | zero =>
      intro x1 h
      rw [f_X0_pagesDiffer_L2] at h
      cases h
    | succ n ih =>
      intro x1 h
      rw [f_X0_pagesDiffer_L2] at h
      refine V_iload_n C 1 3 dX0_pagesDiffer_2 rfl rfl ?_
      refine V_aload_n C 0 4 dX0_pagesDiffer_3 rfl rfl ?_
      refine V_get C (v := .int (Bk_marks v)) 0 7 fl_X0_30 dX0_pagesDiffer_4 rfl rfl rfl ?_
      refine V_icmp_ge C 32 10 dX0_pagesDiffer_7 rfl rfl (fun e1 => ?_) (fun e1 => ?_)
      · have h := (if_pos e1).symm.trans h
        refine V_iconst C (1 : Int32) 33 dX0_pagesDiffer_32 rfl rfl ?_
        obtain rfl := Option.some.inj h
        exact retI _ _ _ .boolean rfl (rfl) rfl dX0_pagesDiffer_33
      · have h := (if_neg e1).symm.trans h
        refine V_aload_n C 0 11 dX0_pagesDiffer_10 rfl rfl ?_
        refine V_aload_n C 0 12 dX0_pagesDiffer_11 rfl rfl ?_
        refine V_get C (v := .ref A.2.2.1) 0 15 fl_X0_15 dX0_pagesDiffer_12 rfl rfl rfl ?_
        refine V_iload_n C 1 16 dX0_pagesDiffer_15 rfl rfl ?_
        obtain ⟨g2, h⟩ := gd_some h
        refine V_iald C (f := (Bk_pages v)) (n := 12) 2 17 dX0_pagesDiffer_16 rfl rfl g2 ?_
        obtain ⟨r3, k4, h⟩ := bd_some h
        refine V_callP C ml_X0_82 (pre := []) (post := []) (w := bkW g A v) (as := [.int ((Bk_pages v) (cl x1))]) (rest := []) (c_X0_slotOnPage k4) 0 20 dX0_pagesDiffer_17 rfl ⟨Nat.le_of_ble_eq_true rfl, Nat.le_of_ble_eq_true rfl⟩ rfl (rfl) rfl rfl rfl (Nat.le_of_ble_eq_true rfl) ⟨Nat.zero_le _, Nat.zero_le _⟩ ?_
        refine V_iload_n C 1 21 dX0_pagesDiffer_20 rfl rfl ?_
        refine V_icmp_eq C 26 24 dX0_pagesDiffer_21 rfl rfl (fun e5 => ?_) (fun e5 => ?_)
        · have h := (if_pos e5).symm.trans h
          refine V_iinc C 1 (x1 + (1 : Int32)) 29 [(1, .int (x1 + (1 : Int32))), (0, .ref A.1)] dX0_pagesDiffer_26 rfl rfl rfl (hlt 1 (by decide)) rfl ?_
          refine V_goto C 2 dX0_pagesDiffer_29 rfl ?_
          refine V_lv [1, 0] rfl ?_
          exact ih _ h
        · have h := (if_neg e5).symm.trans h
          refine V_iconst C (0 : Int32) 25 dX0_pagesDiffer_24 rfl rfl ?_
          obtain rfl := Option.some.inj h
          exact retI _ _ _ .boolean rfl (rfl) rfl dX0_pagesDiffer_25
  show V K 0 0 _ [(0, .ref A.1)] [] 0
  unfold f_X0_pagesDiffer at h
  refine V_iconst C (0 : Int32) 1 dX0_pagesDiffer_0 rfl rfl ?_
  refine V_istore_n C 2 [(1, .int (0 : Int32)), (0, .ref A.1)] dX0_pagesDiffer_1 rfl (hlt 1 (by decide)) rfl ?_
  refine V_lv [1, 0] rfl ?_
  exact L2 100 _ h
set_option maxHeartbeats 4000000 in
set_option maxRecDepth 100000 in
theorem c_X0_seatsDiffer {l : Launch} {D : va_G} {g : G0} {A : BkA} {v : BkV} {R : Int32} (h : f_X0_seatsDiffer v  = some R) : CtP l D g yX0_seatsDiffer cX0_seatsDiffer 2 (some .boolean) (rmF 1 22) (bkW g A v) [.ref A.1] (some (.int R)) := by
  refine CtP.of (by decide) rfl rfl (Nat.le_of_ble_eq_true rfl) ?_
  intro K C el eD ekn retI
  subst el
  subst eD
  have hlt : ∀ i, i < 2 → i < kn K := fun i h => by rw [ekn]; exact h
  have B34 : ∀ (J : Int32 → Option Int32) (hJ : ∀ (x1 : Int32), J x1 = some R → V K 0 0 (bkW g A v) [(0, .ref A.1), (1, .int x1)] [] 2) (x1 : Int32), f_X0_seatsDiffer_B34 J v x1 = some R → V K 0 0 (bkW g A v) [(0, .ref A.1), (1, .int x1)] [] 34 := by
    intro J hJ x1 h
    rw [f_X0_seatsDiffer_B34] at h
    refine V_iinc C 1 (x1 + (1 : Int32)) 37 [(1, .int (x1 + (1 : Int32))), (0, .ref A.1)] dX0_seatsDiffer_34 rfl rfl rfl (hlt 1 (by decide)) rfl ?_
    refine V_goto C 2 dX0_seatsDiffer_37 rfl ?_
    refine V_lv [1, 0] rfl ?_
    exact hJ _ h
  have L2 : ∀ (n : Nat) (x1 : Int32), f_X0_seatsDiffer_L2 v n x1 = some R → V K 0 0 (bkW g A v) [(0, .ref A.1), (1, .int x1)] [] 2 := by
    intro n
    induction n with
    | zero =>
      intro x1 h
      rw [f_X0_seatsDiffer_L2] at h
      cases h
    | succ n ih =>
      intro x1 h
      rw [f_X0_seatsDiffer_L2] at h
      refine V_iload_n C 1 3 dX0_seatsDiffer_2 rfl rfl ?_
      refine V_aload_n C 0 4 dX0_seatsDiffer_3 rfl rfl ?_
      refine V_get C (v := .int (Bk_marks v)) 0 7 fl_X0_30 dX0_seatsDiffer_4 rfl rfl rfl ?_
      refine V_icmp_ge C 40 10 dX0_seatsDiffer_7 rfl rfl (fun e1 => ?_) (fun e1 => ?_)
      · have h := (if_pos e1).symm.trans h
        refine V_iconst C (1 : Int32) 41 dX0_seatsDiffer_40 rfl rfl ?_
        obtain rfl := Option.some.inj h
        exact retI _ _ _ .boolean rfl (rfl) rfl dX0_seatsDiffer_41
      · have h := (if_neg e1).symm.trans h
        refine V_aload_n C 0 11 dX0_seatsDiffer_10 rfl rfl ?_
        refine V_iload_n C 1 12 dX0_seatsDiffer_11 rfl rfl ?_
        obtain ⟨r2, k3, h⟩ := bd_some h
        refine V_callP C ml_X0_72 (pre := []) (post := []) (w := bkW g A v) (as := [.int x1]) (rest := []) (c_X0_hasSeat k3) 0 15 dX0_seatsDiffer_12 rfl ⟨Nat.le_of_ble_eq_true rfl, Nat.le_of_ble_eq_true rfl⟩ rfl (rfl) rfl rfl rfl (Nat.le_of_ble_eq_true rfl) ⟨Nat.zero_le _, Nat.zero_le _⟩ ?_
        refine V_if_eq C 34 18 dX0_seatsDiffer_15 rfl rfl (fun e4 => ?_) (fun e4 => ?_)
        · have h := (if_pos e4).symm.trans h
          refine V_lv [0, 1] rfl ?_
          exact B34 (f_X0_seatsDiffer_L2 v n) ih _ h
        · have h := (if_neg e4).symm.trans h
          refine V_aload_n C 0 19 dX0_seatsDiffer_18 rfl rfl ?_
          refine V_aload_n C 0 20 dX0_seatsDiffer_19 rfl rfl ?_
          refine V_get C (v := .ref A.2.2.2.2.2.1) 0 23 fl_X0_24 dX0_seatsDiffer_20 rfl rfl rfl ?_
          refine V_iload_n C 1 24 dX0_seatsDiffer_23 rfl rfl ?_
          obtain ⟨g5, h⟩ := gd_some h
          refine V_iald C (f := (Bk_seats v)) (n := 12) 5 25 dX0_seatsDiffer_24 rfl rfl g5 ?_
          obtain ⟨r6, k7, h⟩ := bd_some h
          refine V_callP C ml_X0_76 (pre := []) (post := []) (w := bkW g A v) (as := [.int ((Bk_seats v) (cl x1))]) (rest := []) (c_X0_slotInSeat k7) 0 28 dX0_seatsDiffer_25 rfl ⟨Nat.le_of_ble_eq_true rfl, Nat.le_of_ble_eq_true rfl⟩ rfl (rfl) rfl rfl rfl (Nat.le_of_ble_eq_true rfl) ⟨Nat.zero_le _, Nat.zero_le _⟩ ?_
          refine V_iload_n C 1 29 dX0_seatsDiffer_28 rfl rfl ?_
          refine V_icmp_eq C 34 32 dX0_seatsDiffer_29 rfl rfl (fun e8 => ?_) (fun e8 => ?_)
          · have h := (if_pos e8).symm.trans h
            refine V_lv [0, 1] rfl ?_
            exact B34 (f_X0_seatsDiffer_L2 v n) ih _ h
          · have h := (if_neg e8).symm.trans h
            refine V_iconst C (0 : Int32) 33 dX0_seatsDiffer_32 rfl rfl ?_
            obtain rfl := Option.some.inj h
            exact retI _ _ _ .boolean rfl (rfl) rfl dX0_seatsDiffer_33
  show V K 0 0 _ [(0, .ref A.1)] [] 0
  unfold f_X0_seatsDiffer at h
  refine V_iconst C (0 : Int32) 1 dX0_seatsDiffer_0 rfl rfl ?_
  refine V_istore_n C 2 [(1, .int (0 : Int32)), (0, .ref A.1)] dX0_seatsDiffer_1 rfl (hlt 1 (by decide)) rfl ?_
  refine V_lv [1, 0] rfl ?_
  exact L2 100 _ h
set_option maxHeartbeats 4000000 in
set_option maxRecDepth 100000 in
theorem c_X0_reasonAgainstRibbon {l : Launch} {D : va_G} {g : G0} {A : BkA} {v : BkV} {a1 : Int32} {R : Int32} (h : f_X0_reasonAgainstRibbon v a1 = some R) : CtP l D g yX0_reasonAgainstRibbon cX0_reasonAgainstRibbon 2 (some .int) (rmF 2 43) (bkW g A v) [.ref A.1, .int a1] (some (.int R)) := by
  refine CtP.of (by decide) rfl rfl (Nat.le_of_ble_eq_true rfl) ?_
  intro K C el eD ekn retI
  subst el
  subst eD
  have hlt : ∀ i, i < 2 → i < kn K := fun i h => by rw [ekn]; exact h
  have B35 : ∀ (x1 : Int32) (s0 : Int32), f_X0_reasonAgainstRibbon_B35 v x1 s0 = some R → V K 0 0 (bkW g A v) [(0, .ref A.1), (1, .int x1)] [.int s0] 35 := by
    intro x1 s0 h
    rw [f_X0_reasonAgainstRibbon_B35] at h
    obtain rfl := Option.some.inj h
    exact retI _ _ _ .int rfl (rfl) rfl dX0_reasonAgainstRibbon_35
  show V K 0 0 _ [(0, .ref A.1), (1, .int a1)] [] 0
  unfold f_X0_reasonAgainstRibbon at h
  refine V_aload_n C 0 1 dX0_reasonAgainstRibbon_0 rfl rfl ?_
  refine V_get C (v := .int (Bk_marks v)) 0 4 fl_X0_30 dX0_reasonAgainstRibbon_1 rfl rfl rfl ?_
  refine V_bipush C (12 : Int32) 6 dX0_reasonAgainstRibbon_4 rfl rfl ?_
  refine V_icmp_lt C 11 9 dX0_reasonAgainstRibbon_6 rfl rfl (fun e1 => ?_) (fun e1 => ?_)
  · have h := (if_pos e1).symm.trans h
    refine V_aload_n C 0 12 dX0_reasonAgainstRibbon_11 rfl rfl ?_
    obtain ⟨r2, k3, h⟩ := bd_some h
    refine V_callP C ml_X0_141 (pre := []) (post := []) (w := bkW g A v) (as := []) (rest := []) (c_X0_freeSeat k3) 0 15 dX0_reasonAgainstRibbon_12 rfl ⟨Nat.le_of_ble_eq_true rfl, Nat.le_of_ble_eq_true rfl⟩ rfl (rfl) rfl rfl rfl (Nat.le_of_ble_eq_true rfl) ⟨Nat.zero_le _, Nat.zero_le _⟩ ?_
    refine V_iconst C (-1 : Int32) 16 dX0_reasonAgainstRibbon_15 rfl rfl ?_
    refine V_icmp_ne C 21 19 dX0_reasonAgainstRibbon_16 rfl rfl (fun e4 => ?_) (fun e4 => ?_)
    · have h := (if_neg e4).symm.trans h
      refine V_aload_n C 0 22 dX0_reasonAgainstRibbon_21 rfl rfl ?_
      refine V_iload_n C 1 23 dX0_reasonAgainstRibbon_22 rfl rfl ?_
      obtain ⟨r5, k6, h⟩ := bd_some h
      refine V_callP C ml_X0_82 (pre := []) (post := []) (w := bkW g A v) (as := [.int a1]) (rest := []) (c_X0_slotOnPage k6) 0 26 dX0_reasonAgainstRibbon_23 rfl ⟨Nat.le_of_ble_eq_true rfl, Nat.le_of_ble_eq_true rfl⟩ rfl (rfl) rfl rfl rfl (Nat.le_of_ble_eq_true rfl) ⟨Nat.zero_le _, Nat.zero_le _⟩ ?_
      refine V_iconst C (-1 : Int32) 27 dX0_reasonAgainstRibbon_26 rfl rfl ?_
      refine V_icmp_eq C 34 30 dX0_reasonAgainstRibbon_27 rfl rfl (fun e7 => ?_) (fun e7 => ?_)
      · have h := (if_pos e7).symm.trans h
        refine V_iconst C (0 : Int32) 35 dX0_reasonAgainstRibbon_34 rfl rfl ?_
        refine V_lv [0, 1] rfl ?_
        exact B35 _ _ h
      · have h := (if_neg e7).symm.trans h
        refine V_iconst C (3 : Int32) 31 dX0_reasonAgainstRibbon_30 rfl rfl ?_
        refine V_goto C 35 dX0_reasonAgainstRibbon_31 rfl ?_
        refine V_lv [0, 1] rfl ?_
        exact B35 _ _ h
    · have h := (if_pos e4).symm.trans h
      refine V_iconst C (2 : Int32) 20 dX0_reasonAgainstRibbon_19 rfl rfl ?_
      obtain rfl := Option.some.inj h
      exact retI _ _ _ .int rfl (rfl) rfl dX0_reasonAgainstRibbon_20
  · have h := (if_neg e1).symm.trans h
    refine V_iconst C (1 : Int32) 10 dX0_reasonAgainstRibbon_9 rfl rfl ?_
    obtain rfl := Option.some.inj h
    exact retI _ _ _ .int rfl (rfl) rfl dX0_reasonAgainstRibbon_10
set_option maxHeartbeats 4000000 in
set_option maxRecDepth 100000 in
theorem c_X0_reasonAgainstEar {l : Launch} {D : va_G} {g : G0} {A : BkA} {v : BkV} {a1 : Int32} {R : Int32} (h : f_X0_reasonAgainstEar v a1 = some R) : CtP l D g yX0_reasonAgainstEar cX0_reasonAgainstEar 2 (some .int) (rmF 1 22) (bkW g A v) [.ref A.1, .int a1] (some (.int R)) := by
  refine CtP.of (by decide) rfl rfl (Nat.le_of_ble_eq_true rfl) ?_
  intro K C el eD ekn retI
  subst el
  subst eD
  have hlt : ∀ i, i < 2 → i < kn K := fun i h => by rw [ekn]; exact h
  have B25 : ∀ (x1 : Int32) (s0 : Int32), f_X0_reasonAgainstEar_B25 v x1 s0 = some R → V K 0 0 (bkW g A v) [(0, .ref A.1), (1, .int x1)] [.int s0] 25 := by
    intro x1 s0 h
    rw [f_X0_reasonAgainstEar_B25] at h
    obtain rfl := Option.some.inj h
    exact retI _ _ _ .int rfl (rfl) rfl dX0_reasonAgainstEar_25
  show V K 0 0 _ [(0, .ref A.1), (1, .int a1)] [] 0
  unfold f_X0_reasonAgainstEar at h
  refine V_aload_n C 0 1 dX0_reasonAgainstEar_0 rfl rfl ?_
  refine V_get C (v := .int (Bk_marks v)) 0 4 fl_X0_30 dX0_reasonAgainstEar_1 rfl rfl rfl ?_
  refine V_bipush C (12 : Int32) 6 dX0_reasonAgainstEar_4 rfl rfl ?_
  refine V_icmp_lt C 11 9 dX0_reasonAgainstEar_6 rfl rfl (fun e1 => ?_) (fun e1 => ?_)
  · have h := (if_pos e1).symm.trans h
    refine V_aload_n C 0 12 dX0_reasonAgainstEar_11 rfl rfl ?_
    refine V_iload_n C 1 13 dX0_reasonAgainstEar_12 rfl rfl ?_
    obtain ⟨r2, k3, h⟩ := bd_some h
    refine V_callP C ml_X0_82 (pre := []) (post := []) (w := bkW g A v) (as := [.int a1]) (rest := []) (c_X0_slotOnPage k3) 0 16 dX0_reasonAgainstEar_13 rfl ⟨Nat.le_of_ble_eq_true rfl, Nat.le_of_ble_eq_true rfl⟩ rfl (rfl) rfl rfl rfl (Nat.le_of_ble_eq_true rfl) ⟨Nat.zero_le _, Nat.zero_le _⟩ ?_
    refine V_iconst C (-1 : Int32) 17 dX0_reasonAgainstEar_16 rfl rfl ?_
    refine V_icmp_eq C 24 20 dX0_reasonAgainstEar_17 rfl rfl (fun e4 => ?_) (fun e4 => ?_)
    · have h := (if_pos e4).symm.trans h
      refine V_iconst C (0 : Int32) 25 dX0_reasonAgainstEar_24 rfl rfl ?_
      refine V_lv [0, 1] rfl ?_
      exact B25 _ _ h
    · have h := (if_neg e4).symm.trans h
      refine V_iconst C (3 : Int32) 21 dX0_reasonAgainstEar_20 rfl rfl ?_
      refine V_goto C 25 dX0_reasonAgainstEar_21 rfl ?_
      refine V_lv [0, 1] rfl ?_
      exact B25 _ _ h
  · have h := (if_neg e1).symm.trans h
    refine V_iconst C (1 : Int32) 10 dX0_reasonAgainstEar_9 rfl rfl ?_
    obtain rfl := Option.some.inj h
    exact retI _ _ _ .int rfl (rfl) rfl dX0_reasonAgainstEar_10
set_option maxHeartbeats 4000000 in
set_option maxRecDepth 100000 in
theorem c_X0_isRibbonId {l : Launch} {D : va_G} {g : G0} {A : BkA} {v : BkV} {a1 : Int32} {R : Int32} (h : f_X0_isRibbonId v a1 = some R) : CtP l D g yX0_isRibbonId cX0_isRibbonId 3 (some .boolean) (rmF 1 22) (bkW g A v) [.ref A.1, .int a1] (some (.int R)) := by
  refine CtP.of (by decide) rfl rfl (Nat.le_of_ble_eq_true rfl) ?_
  intro K C el eD ekn retI
  subst el
  subst eD
  have hlt : ∀ i, i < 3 → i < kn K := fun i h => by rw [ekn]; exact h
  have B24 : ∀ (x1 : Int32) (x2 : Int32) (s0 : Int32), f_X0_isRibbonId_B24 v x1 x2 s0 = some R → V K 0 0 (bkW g A v) [(0, .ref A.1), (1, .int x1), (2, .int x2)] [.int s0] 24 := by
    intro x1 x2 s0 h
    rw [f_X0_isRibbonId_B24] at h
    obtain ⟨g1, h⟩ := gd_some h
    obtain rfl := Option.some.inj h
    exact retI _ _ _ .boolean rfl (isz_t g1) rfl dX0_isRibbonId_24
  have B23 : ∀ (x1 : Int32) (x2 : Int32), f_X0_isRibbonId_B23 v x1 x2 = some R → V K 0 0 (bkW g A v) [(0, .ref A.1), (1, .int x1), (2, .int x2)] [] 23 := by
    intro x1 x2 h
    rw [f_X0_isRibbonId_B23] at h
    refine V_iconst C (0 : Int32) 24 dX0_isRibbonId_23 rfl rfl ?_
    refine V_lv [0, 1, 2] rfl ?_
    exact B24 _ _ _ h
  show V K 0 0 _ [(0, .ref A.1), (1, .int a1)] [] 0
  unfold f_X0_isRibbonId at h
  refine V_aload_n C 0 1 dX0_isRibbonId_0 rfl rfl ?_
  refine V_iload_n C 1 2 dX0_isRibbonId_1 rfl rfl ?_
  obtain ⟨r2, k3, h⟩ := bd_some h
  refine V_callP C ml_X0_116 (pre := []) (post := []) (w := bkW g A v) (as := [.int a1]) (rest := []) (c_X0_slotWithId k3) 0 5 dX0_isRibbonId_2 rfl ⟨Nat.le_of_ble_eq_true rfl, Nat.le_of_ble_eq_true rfl⟩ rfl (rfl) rfl rfl rfl (Nat.le_of_ble_eq_true rfl) ⟨Nat.zero_le _, Nat.zero_le _⟩ ?_
  refine V_istore_n C 6 [(2, .int r2), (0, .ref A.1), (1, .int a1)] dX0_isRibbonId_5 rfl (hlt 2 (by decide)) rfl ?_
  refine V_iload_n C 0 7 dX0_isRibbonId_6 rfl rfl ?_
  refine V_iconst C (-1 : Int32) 8 dX0_isRibbonId_7 rfl rfl ?_
  refine V_icmp_eq C 23 11 dX0_isRibbonId_8 rfl rfl (fun e4 => ?_) (fun e4 => ?_)
  · have h := (if_pos e4).symm.trans h
    refine V_lv [1, 2, 0] rfl ?_
    exact B23 _ _ h
  · have h := (if_neg e4).symm.trans h
    refine V_aload_n C 1 12 dX0_isRibbonId_11 rfl rfl ?_
    refine V_iload_n C 0 13 dX0_isRibbonId_12 rfl rfl ?_
    obtain ⟨r5, k6, h⟩ := bd_some h
    refine V_callP C ml_X0_72 (pre := []) (post := []) (w := bkW g A v) (as := [.int r2]) (rest := []) (c_X0_hasSeat k6) 0 16 dX0_isRibbonId_13 rfl ⟨Nat.le_of_ble_eq_true rfl, Nat.le_of_ble_eq_true rfl⟩ rfl (rfl) rfl rfl rfl (Nat.le_of_ble_eq_true rfl) ⟨Nat.zero_le _, Nat.zero_le _⟩ ?_
    refine V_if_eq C 23 19 dX0_isRibbonId_16 rfl rfl (fun e7 => ?_) (fun e7 => ?_)
    · have h := (if_pos e7).symm.trans h
      refine V_lv [1, 2, 0] rfl ?_
      exact B23 _ _ h
    · have h := (if_neg e7).symm.trans h
      refine V_iconst C (1 : Int32) 20 dX0_isRibbonId_19 rfl rfl ?_
      refine V_goto C 24 dX0_isRibbonId_20 rfl ?_
      refine V_lv [1, 2, 0] rfl ?_
      exact B24 _ _ _ h
set_option maxHeartbeats 4000000 in
set_option maxRecDepth 100000 in
theorem c_X0_reasonAgainstMove {l : Launch} {D : va_G} {g : G0} {A : BkA} {v : BkV} {a1 a2 : Int32} {R : Int32} (h : f_X0_reasonAgainstMove v a1 a2 = some R) : CtP l D g yX0_reasonAgainstMove cX0_reasonAgainstMove 3 (some .int) (rmF 2 44) (bkW g A v) [.ref A.1, .int a1, .int a2] (some (.int R)) := by
  refine CtP.of (by decide) rfl rfl (Nat.le_of_ble_eq_true rfl) ?_
  intro K C el eD ekn retI
  subst el
  subst eD
  have hlt : ∀ i, i < 3 → i < kn K := fun i h => by rw [ekn]; exact h
  have B24 : ∀ (x1 : Int32) (x2 : Int32) (s0 : Int32), f_X0_reasonAgainstMove_B24 v x1 x2 s0 = some R → V K 0 0 (bkW g A v) [(0, .ref A.1), (1, .int x1), (2, .int x2)] [.int s0] 24 := by
    intro x1 x2 s0 h
    rw [f_X0_reasonAgainstMove_B24] at h
    obtain rfl := Option.some.inj h
    exact retI _ _ _ .int rfl (rfl) rfl dX0_reasonAgainstMove_24
  show V K 0 0 _ [(0, .ref A.1), (1, .int a1), (2, .int a2)] [] 0
  unfold f_X0_reasonAgainstMove at h
  refine V_aload_n C 0 1 dX0_reasonAgainstMove_0 rfl rfl ?_
  refine V_iload_n C 1 2 dX0_reasonAgainstMove_1 rfl rfl ?_
  obtain ⟨r1, k2, h⟩ := bd_some h
  refine V_callP C ml_X0_144 (pre := []) (post := []) (w := bkW g A v) (as := [.int a1]) (rest := []) (c_X0_isRibbonId k2) 0 5 dX0_reasonAgainstMove_2 rfl ⟨Nat.le_of_ble_eq_true rfl, Nat.le_of_ble_eq_true rfl⟩ rfl (rfl) rfl rfl rfl (Nat.le_of_ble_eq_true rfl) ⟨Nat.zero_le _, Nat.zero_le _⟩ ?_
  refine V_if_ne C 10 8 dX0_reasonAgainstMove_5 rfl rfl (fun e3 => ?_) (fun e3 => ?_)
  · have h := (if_neg e3).symm.trans h
    refine V_aload_n C 0 11 dX0_reasonAgainstMove_10 rfl rfl ?_
    refine V_iload_n C 2 12 dX0_reasonAgainstMove_11 rfl rfl ?_
    obtain ⟨r4, k5, h⟩ := bd_some h
    refine V_callP C ml_X0_82 (pre := []) (post := []) (w := bkW g A v) (as := [.int a2]) (rest := []) (c_X0_slotOnPage k5) 0 15 dX0_reasonAgainstMove_12 rfl ⟨Nat.le_of_ble_eq_true rfl, Nat.le_of_ble_eq_true rfl⟩ rfl (rfl) rfl rfl rfl (Nat.le_of_ble_eq_true rfl) ⟨Nat.zero_le _, Nat.zero_le _⟩ ?_
    refine V_iconst C (-1 : Int32) 16 dX0_reasonAgainstMove_15 rfl rfl ?_
    refine V_icmp_eq C 23 19 dX0_reasonAgainstMove_16 rfl rfl (fun e6 => ?_) (fun e6 => ?_)
    · have h := (if_pos e6).symm.trans h
      refine V_iconst C (0 : Int32) 24 dX0_reasonAgainstMove_23 rfl rfl ?_
      refine V_lv [0, 1, 2] rfl ?_
      exact B24 _ _ _ h
    · have h := (if_neg e6).symm.trans h
      refine V_iconst C (3 : Int32) 20 dX0_reasonAgainstMove_19 rfl rfl ?_
      refine V_goto C 24 dX0_reasonAgainstMove_20 rfl ?_
      refine V_lv [0, 1, 2] rfl ?_
      exact B24 _ _ _ h
  · have h := (if_pos e3).symm.trans h
    refine V_iconst C (4 : Int32) 9 dX0_reasonAgainstMove_8 rfl rfl ?_
    obtain rfl := Option.some.inj h
    exact retI _ _ _ .int rfl (rfl) rfl dX0_reasonAgainstMove_9
set_option maxHeartbeats 4000000 in
set_option maxRecDepth 100000 in
theorem c_X0_reasonAgainstSwap {l : Launch} {D : va_G} {g : G0} {A : BkA} {v : BkV} {a1 a2 : Int32} {R : Int32} (h : f_X0_reasonAgainstSwap v a1 a2 = some R) : CtP l D g yX0_reasonAgainstSwap cX0_reasonAgainstSwap 3 (some .int) (rmF 2 44) (bkW g A v) [.ref A.1, .int a1, .int a2] (some (.int R)) := by
  refine CtP.of (by decide) rfl rfl (Nat.le_of_ble_eq_true rfl) ?_
  intro K C el eD ekn retI
  subst el
  subst eD
  have hlt : ∀ i, i < 3 → i < kn K := fun i h => by rw [ekn]; exact h
  have B28 : ∀ (x1 : Int32) (x2 : Int32) (s0 : Int32), f_X0_reasonAgainstSwap_B28 v x1 x2 s0 = some R → V K 0 0 (bkW g A v) [(0, .ref A.1), (1, .int x1), (2, .int x2)] [.int s0] 28 := by
    intro x1 x2 s0 h
    rw [f_X0_reasonAgainstSwap_B28] at h
    obtain rfl := Option.some.inj h
    exact retI _ _ _ .int rfl (rfl) rfl dX0_reasonAgainstSwap_28
  have B16 : ∀ (x1 : Int32) (x2 : Int32), f_X0_reasonAgainstSwap_B16 v x1 x2 = some R → V K 0 0 (bkW g A v) [(0, .ref A.1), (1, .int x1), (2, .int x2)] [] 16 := by
    intro x1 x2 h
    rw [f_X0_reasonAgainstSwap_B16] at h
    refine V_iconst C (4 : Int32) 17 dX0_reasonAgainstSwap_16 rfl rfl ?_
    obtain rfl := Option.some.inj h
    exact retI _ _ _ .int rfl (rfl) rfl dX0_reasonAgainstSwap_17
  show V K 0 0 _ [(0, .ref A.1), (1, .int a1), (2, .int a2)] [] 0
  unfold f_X0_reasonAgainstSwap at h
  refine V_aload_n C 0 1 dX0_reasonAgainstSwap_0 rfl rfl ?_
  refine V_iload_n C 1 2 dX0_reasonAgainstSwap_1 rfl rfl ?_
  obtain ⟨r1, k2, h⟩ := bd_some h
  refine V_callP C ml_X0_144 (pre := []) (post := []) (w := bkW g A v) (as := [.int a1]) (rest := []) (c_X0_isRibbonId k2) 0 5 dX0_reasonAgainstSwap_2 rfl ⟨Nat.le_of_ble_eq_true rfl, Nat.le_of_ble_eq_true rfl⟩ rfl (rfl) rfl rfl rfl (Nat.le_of_ble_eq_true rfl) ⟨Nat.zero_le _, Nat.zero_le _⟩ ?_
  refine V_if_eq C 16 8 dX0_reasonAgainstSwap_5 rfl rfl (fun e3 => ?_) (fun e3 => ?_)
  · have h := (if_pos e3).symm.trans h
    refine V_lv [0, 1, 2] rfl ?_
    exact B16 _ _ h
  · have h := (if_neg e3).symm.trans h
    refine V_aload_n C 0 9 dX0_reasonAgainstSwap_8 rfl rfl ?_
    refine V_iload_n C 2 10 dX0_reasonAgainstSwap_9 rfl rfl ?_
    obtain ⟨r4, k5, h⟩ := bd_some h
    refine V_callP C ml_X0_144 (pre := []) (post := []) (w := bkW g A v) (as := [.int a2]) (rest := []) (c_X0_isRibbonId k5) 0 13 dX0_reasonAgainstSwap_10 rfl ⟨Nat.le_of_ble_eq_true rfl, Nat.le_of_ble_eq_true rfl⟩ rfl (rfl) rfl rfl rfl (Nat.le_of_ble_eq_true rfl) ⟨Nat.zero_le _, Nat.zero_le _⟩ ?_
    refine V_if_ne C 18 16 dX0_reasonAgainstSwap_13 rfl rfl (fun e6 => ?_) (fun e6 => ?_)
    · have h := (if_neg e6).symm.trans h
      refine V_iload_n C 1 19 dX0_reasonAgainstSwap_18 rfl rfl ?_
      refine V_iload_n C 2 20 dX0_reasonAgainstSwap_19 rfl rfl ?_
      refine V_icmp_ne C 27 23 dX0_reasonAgainstSwap_20 rfl rfl (fun e7 => ?_) (fun e7 => ?_)
      · have h := (if_neg e7).symm.trans h
        refine V_iconst C (0 : Int32) 28 dX0_reasonAgainstSwap_27 rfl rfl ?_
        refine V_lv [0, 1, 2] rfl ?_
        exact B28 _ _ _ h
      · have h := (if_pos e7).symm.trans h
        refine V_iconst C (5 : Int32) 24 dX0_reasonAgainstSwap_23 rfl rfl ?_
        refine V_goto C 28 dX0_reasonAgainstSwap_24 rfl ?_
        refine V_lv [0, 1, 2] rfl ?_
        exact B28 _ _ _ h
    · have h := (if_pos e6).symm.trans h
      refine V_lv [0, 1, 2] rfl ?_
      exact B16 _ _ h
set_option maxHeartbeats 4000000 in
set_option maxRecDepth 100000 in
theorem c_X0_reasonAgainstStart {l : Launch} {D : va_G} {g : G0} {A : BkA} {v : BkV} {a1 : Int32} {R : Int32} (h : f_X0_reasonAgainstStart v a1 = some R) : CtP l D g yX0_reasonAgainstStart cX0_reasonAgainstStart 2 (some .int) (rmF 1 22) (bkW g A v) [.ref A.1, .int a1] (some (.int R)) := by
  refine CtP.of (by decide) rfl rfl (Nat.le_of_ble_eq_true rfl) ?_
  intro K C el eD ekn retI
  subst el
  subst eD
  have hlt : ∀ i, i < 2 → i < kn K := fun i h => by rw [ekn]; exact h
  have B32 : ∀ (x1 : Int32) (s0 : Int32), f_X0_reasonAgainstStart_B32 v x1 s0 = some R → V K 0 0 (bkW g A v) [(0, .ref A.1), (1, .int x1)] [.int s0] 32 := by
    intro x1 s0 h
    rw [f_X0_reasonAgainstStart_B32] at h
    obtain rfl := Option.some.inj h
    exact retI _ _ _ .int rfl (rfl) rfl dX0_reasonAgainstStart_32
  show V K 0 0 _ [(0, .ref A.1), (1, .int a1)] [] 0
  unfold f_X0_reasonAgainstStart at h
  refine V_aload_n C 0 1 dX0_reasonAgainstStart_0 rfl rfl ?_
  refine V_get C (v := .int (Bk_chapters v)) 0 4 fl_X0_34 dX0_reasonAgainstStart_1 rfl rfl rfl ?_
  refine V_bipush C (8 : Int32) 6 dX0_reasonAgainstStart_4 rfl rfl ?_
  refine V_icmp_lt C 12 9 dX0_reasonAgainstStart_6 rfl rfl (fun e1 => ?_) (fun e1 => ?_)
  · have h := (if_pos e1).symm.trans h
    refine V_aload_n C 0 13 dX0_reasonAgainstStart_12 rfl rfl ?_
    refine V_get C (v := .ref A.2.2.2.2.2.2) 0 16 fl_X0_27 dX0_reasonAgainstStart_13 rfl rfl rfl ?_
    refine V_aload_n C 0 17 dX0_reasonAgainstStart_16 rfl rfl ?_
    refine V_iload_n C 1 18 dX0_reasonAgainstStart_17 rfl rfl ?_
    obtain ⟨r2, k3, h⟩ := bd_some h
    refine V_callP C ml_X0_147 (pre := []) (post := []) (w := bkW g A v) (as := [.int a1]) (rest := [.ref A.2.2.2.2.2.2]) (c_X0_chapterWith k3) 0 21 dX0_reasonAgainstStart_18 rfl ⟨Nat.le_of_ble_eq_true rfl, Nat.le_of_ble_eq_true rfl⟩ rfl (rfl) rfl rfl rfl (Nat.le_of_ble_eq_true rfl) ⟨Nat.zero_le _, Nat.zero_le _⟩ ?_
    obtain ⟨g4, h⟩ := gd_some h
    refine V_iald C (f := (Bk_starts v)) (n := 8) 6 22 dX0_reasonAgainstStart_21 rfl rfl g4 ?_
    refine V_iload_n C 1 23 dX0_reasonAgainstStart_22 rfl rfl ?_
    refine V_icmp_ne C 31 26 dX0_reasonAgainstStart_23 rfl rfl (fun e5 => ?_) (fun e5 => ?_)
    · have h := (if_neg e5).symm.trans h
      refine V_iconst C (0 : Int32) 32 dX0_reasonAgainstStart_31 rfl rfl ?_
      refine V_lv [0, 1] rfl ?_
      exact B32 _ _ h
    · have h := (if_pos e5).symm.trans h
      refine V_bipush C (7 : Int32) 28 dX0_reasonAgainstStart_26 rfl rfl ?_
      refine V_goto C 32 dX0_reasonAgainstStart_28 rfl ?_
      refine V_lv [0, 1] rfl ?_
      exact B32 _ _ h
  · have h := (if_neg e1).symm.trans h
    refine V_bipush C (6 : Int32) 11 dX0_reasonAgainstStart_9 rfl rfl ?_
    obtain rfl := Option.some.inj h
    exact retI _ _ _ .int rfl (rfl) rfl dX0_reasonAgainstStart_11
set_option maxHeartbeats 4000000 in
set_option maxRecDepth 100000 in
theorem c_X0_reasonAgainst {l : Launch} {D : va_G} {g : G0} {A : BkA} {v : BkV} {a1 a2 a3 : Int32} {R : Int32} (h : f_X0_reasonAgainst v a1 a2 a3 = some R) : CtP l D g yX0_reasonAgainst cX0_reasonAgainst 4 (some .int) (rmF 3 66) (bkW g A v) [.ref A.1, .int a1, .int a2, .int a3] (some (.int R)) := by
  refine CtP.of (by decide) rfl rfl (Nat.le_of_ble_eq_true rfl) ?_
  intro K C el eD ekn retI
  subst el
  subst eD
  have hlt : ∀ i, i < 4 → i < kn K := fun i h => by rw [ekn]; exact h
  have B186 : ∀ (x1 : Int32) (x2 : Int32) (x3 : Int32) (s0 : Int32), f_X0_reasonAgainst_B186 v x1 x2 x3 s0 = some R → V K 0 0 (bkW g A v) [(0, .ref A.1), (1, .int x1), (2, .int x2), (3, .int x3)] [.int s0] 186 := by
    intro x1 x2 x3 s0 h
    rw [f_X0_reasonAgainst_B186] at h
    obtain rfl := Option.some.inj h
    exact retI _ _ _ .int rfl (rfl) rfl dX0_reasonAgainst_186
  have B166 : ∀ (x1 : Int32) (x2 : Int32) (x3 : Int32) (s0 : Int32), f_X0_reasonAgainst_B166 v x1 x2 x3 s0 = some R → V K 0 0 (bkW g A v) [(0, .ref A.1), (1, .int x1), (2, .int x2), (3, .int x3)] [.int s0] 166 := by
    intro x1 x2 x3 s0 h
    rw [f_X0_reasonAgainst_B166] at h
    obtain rfl := Option.some.inj h
    exact retI _ _ _ .int rfl (rfl) rfl dX0_reasonAgainst_166
  have B146 : ∀ (x1 : Int32) (x2 : Int32) (x3 : Int32) (s0 : Int32), f_X0_reasonAgainst_B146 v x1 x2 x3 s0 = some R → V K 0 0 (bkW g A v) [(0, .ref A.1), (1, .int x1), (2, .int x2), (3, .int x3)] [.int s0] 146 := by
    intro x1 x2 x3 s0 h
    rw [f_X0_reasonAgainst_B146] at h
    obtain rfl := Option.some.inj h
    exact retI _ _ _ .int rfl (rfl) rfl dX0_reasonAgainst_146
  show V K 0 0 _ [(0, .ref A.1), (1, .int a1), (2, .int a2), (3, .int a3)] [] 0
  unfold f_X0_reasonAgainst at h
  refine V_iload_n C 1 1 dX0_reasonAgainst_0 rfl rfl ?_
  by_cases e18 : a1 = (66 : Int32)
  · have h := (if_pos e18).symm.trans h
    refine V_tsw C (x := a1) 167 dX0_reasonAgainst_1 (by first | (rw [e18]; done) | (rw [e18]; rfl)) rfl (by decide) ?_
    refine V_aload_n C 0 168 dX0_reasonAgainst_167 rfl rfl ?_
    refine V_aload_n C 0 169 dX0_reasonAgainst_168 rfl rfl ?_
    refine V_get C (v := .int (Bk_reader v)) 0 172 fl_X0_37 dX0_reasonAgainst_169 rfl rfl rfl ?_
    refine V_iload_n C 2 173 dX0_reasonAgainst_172 rfl rfl ?_
    refine V_isub C 174 dX0_reasonAgainst_173 rfl ?_
    obtain ⟨r1, k2, h⟩ := bd_some h
    refine V_callP C ml_X0_110 (pre := []) (post := []) (w := bkW g A v) (as := [.int ((Bk_reader v) - a2)]) (rest := []) (c_X0_hasPage k2) 0 177 dX0_reasonAgainst_174 rfl ⟨Nat.le_of_ble_eq_true rfl, Nat.le_of_ble_eq_true rfl⟩ rfl (rfl) rfl rfl rfl (Nat.le_of_ble_eq_true rfl) ⟨Nat.zero_le _, Nat.zero_le _⟩ ?_
    refine V_if_eq C 184 180 dX0_reasonAgainst_177 rfl rfl (fun e3 => ?_) (fun e3 => ?_)
    · have h := (if_pos e3).symm.trans h
      refine V_bipush C (9 : Int32) 186 dX0_reasonAgainst_184 rfl rfl ?_
      refine V_lv [0, 1, 2, 3] rfl ?_
      exact B186 _ _ _ _ h
    · have h := (if_neg e3).symm.trans h
      refine V_iconst C (0 : Int32) 181 dX0_reasonAgainst_180 rfl rfl ?_
      refine V_goto C 186 dX0_reasonAgainst_181 rfl ?_
      refine V_lv [0, 1, 2, 3] rfl ?_
      exact B186 _ _ _ _ h
  have h := (if_neg e18).symm.trans h
  by_cases e19 : a1 = (67 : Int32)
  · have h := (if_pos e19).symm.trans h
    refine V_tsw C (x := a1) 126 dX0_reasonAgainst_1 (by first | (rw [e19]; done) | (rw [e19]; rfl)) rfl (by decide) ?_
    refine V_aload_n C 0 127 dX0_reasonAgainst_126 rfl rfl ?_
    refine V_iload_n C 2 128 dX0_reasonAgainst_127 rfl rfl ?_
    obtain ⟨r4, k5, h⟩ := bd_some h
    refine V_callP C ml_X0_138 (pre := []) (post := []) (w := bkW g A v) (as := [.int a2]) (rest := []) (c_X0_reasonAgainstStart k5) 0 131 dX0_reasonAgainst_128 rfl ⟨Nat.le_of_ble_eq_true rfl, Nat.le_of_ble_eq_true rfl⟩ rfl (rfl) rfl rfl rfl (Nat.le_of_ble_eq_true rfl) ⟨Nat.zero_le _, Nat.zero_le _⟩ ?_
    obtain rfl := Option.some.inj h
    exact retI _ _ _ .int rfl (rfl) rfl dX0_reasonAgainst_131
  have h := (if_neg e19).symm.trans h
  by_cases e20 : a1 = (69 : Int32)
  · have h := (if_pos e20).symm.trans h
    refine V_tsw C (x := a1) 106 dX0_reasonAgainst_1 (by first | (rw [e20]; done) | (rw [e20]; rfl)) rfl (by decide) ?_
    refine V_aload_n C 0 107 dX0_reasonAgainst_106 rfl rfl ?_
    refine V_iload_n C 2 108 dX0_reasonAgainst_107 rfl rfl ?_
    obtain ⟨r6, k7, h⟩ := bd_some h
    refine V_callP C ml_X0_128 (pre := []) (post := []) (w := bkW g A v) (as := [.int a2]) (rest := []) (c_X0_reasonAgainstEar k7) 0 111 dX0_reasonAgainst_108 rfl ⟨Nat.le_of_ble_eq_true rfl, Nat.le_of_ble_eq_true rfl⟩ rfl (rfl) rfl rfl rfl (Nat.le_of_ble_eq_true rfl) ⟨Nat.zero_le _, Nat.zero_le _⟩ ?_
    obtain rfl := Option.some.inj h
    exact retI _ _ _ .int rfl (rfl) rfl dX0_reasonAgainst_111
  have h := (if_neg e20).symm.trans h
  by_cases e21 : a1 = (77 : Int32)
  · have h := (if_pos e21).symm.trans h
    refine V_tsw C (x := a1) 112 dX0_reasonAgainst_1 (by first | (rw [e21]; done) | (rw [e21]; rfl)) rfl (by decide) ?_
    refine V_aload_n C 0 113 dX0_reasonAgainst_112 rfl rfl ?_
    refine V_iload_n C 2 114 dX0_reasonAgainst_113 rfl rfl ?_
    refine V_iload_n C 3 115 dX0_reasonAgainst_114 rfl rfl ?_
    obtain ⟨r8, k9, h⟩ := bd_some h
    refine V_callP C ml_X0_131 (pre := []) (post := []) (w := bkW g A v) (as := [.int a2, .int a3]) (rest := []) (c_X0_reasonAgainstMove k9) 0 118 dX0_reasonAgainst_115 rfl ⟨Nat.le_of_ble_eq_true rfl, Nat.le_of_ble_eq_true rfl⟩ rfl (rfl) rfl rfl rfl (Nat.le_of_ble_eq_true rfl) ⟨Nat.zero_le _, Nat.zero_le _⟩ ?_
    obtain rfl := Option.some.inj h
    exact retI _ _ _ .int rfl (rfl) rfl dX0_reasonAgainst_118
  have h := (if_neg e21).symm.trans h
  by_cases e22 : a1 = (82 : Int32)
  · have h := (if_pos e22).symm.trans h
    refine V_tsw C (x := a1) 100 dX0_reasonAgainst_1 (by first | (rw [e22]; done) | (rw [e22]; rfl)) rfl (by decide) ?_
    refine V_aload_n C 0 101 dX0_reasonAgainst_100 rfl rfl ?_
    refine V_iload_n C 2 102 dX0_reasonAgainst_101 rfl rfl ?_
    obtain ⟨r10, k11, h⟩ := bd_some h
    refine V_callP C ml_X0_125 (pre := []) (post := []) (w := bkW g A v) (as := [.int a2]) (rest := []) (c_X0_reasonAgainstRibbon k11) 0 105 dX0_reasonAgainst_102 rfl ⟨Nat.le_of_ble_eq_true rfl, Nat.le_of_ble_eq_true rfl⟩ rfl (rfl) rfl rfl rfl (Nat.le_of_ble_eq_true rfl) ⟨Nat.zero_le _, Nat.zero_le _⟩ ?_
    obtain rfl := Option.some.inj h
    exact retI _ _ _ .int rfl (rfl) rfl dX0_reasonAgainst_105
  have h := (if_neg e22).symm.trans h
  by_cases e23 : a1 = (83 : Int32)
  · have h := (if_pos e23).symm.trans h
    refine V_tsw C (x := a1) 119 dX0_reasonAgainst_1 (by first | (rw [e23]; done) | (rw [e23]; rfl)) rfl (by decide) ?_
    refine V_aload_n C 0 120 dX0_reasonAgainst_119 rfl rfl ?_
    refine V_iload_n C 2 121 dX0_reasonAgainst_120 rfl rfl ?_
    refine V_iload_n C 3 122 dX0_reasonAgainst_121 rfl rfl ?_
    obtain ⟨r12, k13, h⟩ := bd_some h
    refine V_callP C ml_X0_135 (pre := []) (post := []) (w := bkW g A v) (as := [.int a2, .int a3]) (rest := []) (c_X0_reasonAgainstSwap k13) 0 125 dX0_reasonAgainst_122 rfl ⟨Nat.le_of_ble_eq_true rfl, Nat.le_of_ble_eq_true rfl⟩ rfl (rfl) rfl rfl rfl (Nat.le_of_ble_eq_true rfl) ⟨Nat.zero_le _, Nat.zero_le _⟩ ?_
    obtain rfl := Option.some.inj h
    exact retI _ _ _ .int rfl (rfl) rfl dX0_reasonAgainst_125
  have h := (if_neg e23).symm.trans h
  by_cases e24 : a1 = (84 : Int32)
  · have h := (if_pos e24).symm.trans h
    refine V_tsw C (x := a1) 147 dX0_reasonAgainst_1 (by first | (rw [e24]; done) | (rw [e24]; rfl)) rfl (by decide) ?_
    refine V_aload_n C 0 148 dX0_reasonAgainst_147 rfl rfl ?_
    refine V_aload_n C 0 149 dX0_reasonAgainst_148 rfl rfl ?_
    refine V_get C (v := .int (Bk_reader v)) 0 152 fl_X0_37 dX0_reasonAgainst_149 rfl rfl rfl ?_
    refine V_iload_n C 2 153 dX0_reasonAgainst_152 rfl rfl ?_
    refine V_iadd C 154 dX0_reasonAgainst_153 rfl ?_
    obtain ⟨r14, k15, h⟩ := bd_some h
    refine V_callP C ml_X0_110 (pre := []) (post := []) (w := bkW g A v) (as := [.int ((Bk_reader v) + a2)]) (rest := []) (c_X0_hasPage k15) 0 157 dX0_reasonAgainst_154 rfl ⟨Nat.le_of_ble_eq_true rfl, Nat.le_of_ble_eq_true rfl⟩ rfl (rfl) rfl rfl rfl (Nat.le_of_ble_eq_true rfl) ⟨Nat.zero_le _, Nat.zero_le _⟩ ?_
    refine V_if_eq C 164 160 dX0_reasonAgainst_157 rfl rfl (fun e16 => ?_) (fun e16 => ?_)
    · have h := (if_pos e16).symm.trans h
      refine V_bipush C (9 : Int32) 166 dX0_reasonAgainst_164 rfl rfl ?_
      refine V_lv [0, 1, 2, 3] rfl ?_
      exact B166 _ _ _ _ h
    · have h := (if_neg e16).symm.trans h
      refine V_iconst C (0 : Int32) 161 dX0_reasonAgainst_160 rfl rfl ?_
      refine V_goto C 166 dX0_reasonAgainst_161 rfl ?_
      refine V_lv [0, 1, 2, 3] rfl ?_
      exact B166 _ _ _ _ h
  have h := (if_neg e24).symm.trans h
  by_cases e25 : a1 = (86 : Int32)
  · have h := (if_pos e25).symm.trans h
    refine V_tsw C (x := a1) 132 dX0_reasonAgainst_1 (by first | (rw [e25]; done) | (rw [e25]; rfl)) rfl (by decide) ?_
    refine V_aload_n C 0 133 dX0_reasonAgainst_132 rfl rfl ?_
    refine V_get C (v := .int (Bk_chapters v)) 0 136 fl_X0_34 dX0_reasonAgainst_133 rfl rfl rfl ?_
    refine V_iconst C (1 : Int32) 137 dX0_reasonAgainst_136 rfl rfl ?_
    refine V_icmp_ne C 145 140 dX0_reasonAgainst_137 rfl rfl (fun e17 => ?_) (fun e17 => ?_)
    · have h := (if_neg e17).symm.trans h
      refine V_iconst C (0 : Int32) 146 dX0_reasonAgainst_145 rfl rfl ?_
      refine V_lv [0, 1, 2, 3] rfl ?_
      exact B146 _ _ _ _ h
    · have h := (if_pos e17).symm.trans h
      refine V_bipush C (8 : Int32) 142 dX0_reasonAgainst_140 rfl rfl ?_
      refine V_goto C 146 dX0_reasonAgainst_142 rfl ?_
      refine V_lv [0, 1, 2, 3] rfl ?_
      exact B146 _ _ _ _ h
  have h := (if_neg e25).symm.trans h
  refine V_tsw C (x := a1) 187 dX0_reasonAgainst_1 (tsTgt_def [66, 67, 69, 77, 82, 83, 84, 86] (by decide) (by intro c hc; simp only [List.mem_cons, List.mem_nil_iff, or_false] at hc; rcases hc with rfl | rfl | rfl | rfl | rfl | rfl | rfl | rfl <;> first | exact lv_neT e18 rfl | exact lv_neT e19 rfl | exact lv_neT e20 rfl | exact lv_neT e21 rfl | exact lv_neT e22 rfl | exact lv_neT e23 rfl | exact lv_neT e24 rfl | exact lv_neT e25 rfl)) rfl (by decide) ?_
  refine V_iconst C (0 : Int32) 188 dX0_reasonAgainst_187 rfl rfl ?_
  obtain rfl := Option.some.inj h
  exact retI _ _ _ .int rfl (rfl) rfl dX0_reasonAgainst_188
set_option maxHeartbeats 4000000 in
set_option maxRecDepth 100000 in
theorem c_X0_idOnPage {l : Launch} {D : va_G} {g : G0} {A : BkA} {v : BkV} {a1 : Int32} {R : Int32} (h : f_X0_idOnPage v a1 = some R) : CtP l D g yX0_idOnPage cX0_idOnPage 3 (some .int) (rmF 1 22) (bkW g A v) [.ref A.1, .int a1] (some (.int R)) := by
  refine CtP.of (by decide) rfl rfl (Nat.le_of_ble_eq_true rfl) ?_
  intro K C el eD ekn retI
  subst el
  subst eD
  have hlt : ∀ i, i < 3 → i < kn K := fun i h => by rw [ekn]; exact h
  have B21 : ∀ (x1 : Int32) (x2 : Int32) (s0 : Int32), f_X0_idOnPage_B21 v x1 x2 s0 = some R → V K 0 0 (bkW g A v) [(0, .ref A.1), (1, .int x1), (2, .int x2)] [.int s0] 21 := by
    intro x1 x2 s0 h
    rw [f_X0_idOnPage_B21] at h
    obtain rfl := Option.some.inj h
    exact retI _ _ _ .int rfl (rfl) rfl dX0_idOnPage_21
  show V K 0 0 _ [(0, .ref A.1), (1, .int a1)] [] 0
  unfold f_X0_idOnPage at h
  refine V_aload_n C 0 1 dX0_idOnPage_0 rfl rfl ?_
  refine V_iload_n C 1 2 dX0_idOnPage_1 rfl rfl ?_
  obtain ⟨r1, k2, h⟩ := bd_some h
  refine V_callP C ml_X0_82 (pre := []) (post := []) (w := bkW g A v) (as := [.int a1]) (rest := []) (c_X0_slotOnPage k2) 0 5 dX0_idOnPage_2 rfl ⟨Nat.le_of_ble_eq_true rfl, Nat.le_of_ble_eq_true rfl⟩ rfl (rfl) rfl rfl rfl (Nat.le_of_ble_eq_true rfl) ⟨Nat.zero_le _, Nat.zero_le _⟩ ?_
  refine V_istore_n C 6 [(2, .int r1), (0, .ref A.1), (1, .int a1)] dX0_idOnPage_5 rfl (hlt 2 (by decide)) rfl ?_
  refine V_iload_n C 0 7 dX0_idOnPage_6 rfl rfl ?_
  refine V_iconst C (-1 : Int32) 8 dX0_idOnPage_7 rfl rfl ?_
  refine V_icmp_ne C 15 11 dX0_idOnPage_8 rfl rfl (fun e3 => ?_) (fun e3 => ?_)
  · have h := (if_neg e3).symm.trans h
    refine V_aload_n C 1 16 dX0_idOnPage_15 rfl rfl ?_
    refine V_get C (v := .ref A.2.1) 0 19 fl_X0_9 dX0_idOnPage_16 rfl rfl rfl ?_
    refine V_iload_n C 0 20 dX0_idOnPage_19 rfl rfl ?_
    obtain ⟨g4, h⟩ := gd_some h
    refine V_iald C (f := (Bk_ids v)) (n := 12) 1 21 dX0_idOnPage_20 rfl rfl g4 ?_
    refine V_lv [1, 2, 0] rfl ?_
    exact B21 _ _ _ h
  · have h := (if_pos e3).symm.trans h
    refine V_iconst C (-1 : Int32) 12 dX0_idOnPage_11 rfl rfl ?_
    refine V_goto C 21 dX0_idOnPage_12 rfl ?_
    refine V_lv [1, 2, 0] rfl ?_
    exact B21 _ _ _ h
set_option maxHeartbeats 4000000 in
set_option maxRecDepth 100000 in
theorem c_X0_detailOf {l : Launch} {D : va_G} {g : G0} {A : BkA} {v : BkV} {a1 a2 a3 a4 : Int32} {R : Int32} (h : f_X0_detailOf v a1 a2 a3 a4 = some R) : CtP l D g yX0_detailOf cX0_detailOf 5 (some .int) (rmF 2 44) (bkW g A v) [.ref A.1, .int a1, .int a2, .int a3, .int a4] (some (.int R)) := by
  refine CtP.of (by decide) rfl rfl (Nat.le_of_ble_eq_true rfl) ?_
  intro K C el eD ekn retI
  subst el
  subst eD
  have hlt : ∀ i, i < 5 → i < kn K := fun i h => by rw [ekn]; exact h
  have B91 : ∀ (x1 : Int32) (x2 : Int32) (x3 : Int32) (x4 : Int32) (s0 : Int32), f_X0_detailOf_B91 v x1 x2 x3 x4 s0 = some R → V K 0 0 (bkW g A v) [(0, .ref A.1), (1, .int x1), (2, .int x2), (3, .int x3), (4, .int x4)] [.int s0] 91 := by
    intro x1 x2 x3 x4 s0 h
    rw [f_X0_detailOf_B91] at h
    obtain rfl := Option.some.inj h
    exact retI _ _ _ .int rfl (rfl) rfl dX0_detailOf_91
  have B73 : ∀ (x1 : Int32) (x2 : Int32) (x3 : Int32) (x4 : Int32) (s0 : Int32), f_X0_detailOf_B73 v x1 x2 x3 x4 s0 = some R → V K 0 0 (bkW g A v) [(0, .ref A.1), (1, .int x1), (2, .int x2), (3, .int x3), (4, .int x4)] [.int s0, .ref A.1] 73 := by
    intro x1 x2 x3 x4 s0 h
    rw [f_X0_detailOf_B73] at h
    obtain ⟨r1, k2, h⟩ := bd_some h
    refine V_callP C ml_X0_150 (pre := []) (post := []) (w := bkW g A v) (as := [.int s0]) (rest := []) (c_X0_idOnPage k2) 0 76 dX0_detailOf_73 rfl ⟨Nat.le_of_ble_eq_true rfl, Nat.le_of_ble_eq_true rfl⟩ rfl (rfl) rfl rfl rfl (Nat.le_of_ble_eq_true rfl) ⟨Nat.zero_le _, Nat.zero_le _⟩ ?_
    obtain rfl := Option.some.inj h
    exact retI _ _ _ .int rfl (rfl) rfl dX0_detailOf_76
  show V K 0 0 _ [(0, .ref A.1), (1, .int a1), (2, .int a2), (3, .int a3), (4, .int a4)] [] 0
  unfold f_X0_detailOf at h
  refine V_iload_n C 1 1 dX0_detailOf_0 rfl rfl ?_
  by_cases e9 : a1 = (1 : Int32)
  · have h := (if_pos e9).symm.trans h
    refine V_tsw C (x := a1) 52 dX0_detailOf_1 (by first | (rw [e9]; done) | (rw [e9]; rfl)) rfl (by decide) ?_
    refine V_bipush C (12 : Int32) 54 dX0_detailOf_52 rfl rfl ?_
    obtain rfl := Option.some.inj h
    exact retI _ _ _ .int rfl (rfl) rfl dX0_detailOf_54
  have h := (if_neg e9).symm.trans h
  by_cases e10 : a1 = (2 : Int32)
  · have h := (if_pos e10).symm.trans h
    refine V_tsw C (x := a1) 55 dX0_detailOf_1 (by first | (rw [e10]; done) | (rw [e10]; rfl)) rfl (by decide) ?_
    refine V_iconst C (5 : Int32) 56 dX0_detailOf_55 rfl rfl ?_
    obtain rfl := Option.some.inj h
    exact retI _ _ _ .int rfl (rfl) rfl dX0_detailOf_56
  have h := (if_neg e10).symm.trans h
  by_cases e11 : a1 = (3 : Int32)
  · have h := (if_pos e11).symm.trans h
    refine V_tsw C (x := a1) 60 dX0_detailOf_1 (by first | (rw [e11]; done) | (rw [e11]; rfl)) rfl (by decide) ?_
    refine V_aload_n C 0 61 dX0_detailOf_60 rfl rfl ?_
    refine V_iload_n C 2 62 dX0_detailOf_61 rfl rfl ?_
    refine V_bipush C (77 : Int32) 64 dX0_detailOf_62 rfl rfl ?_
    refine V_icmp_ne C 72 67 dX0_detailOf_64 rfl rfl (fun e3 => ?_) (fun e3 => ?_)
    · have h := (if_neg e3).symm.trans h
      refine V_iload_n C 3 73 dX0_detailOf_72 rfl rfl ?_
      refine V_lv [0, 1, 2, 3, 4] rfl ?_
      exact B73 _ _ _ _ _ h
    · have h := (if_pos e3).symm.trans h
      refine V_iload C 4 69 dX0_detailOf_67 rfl rfl ?_
      refine V_goto C 73 dX0_detailOf_69 rfl ?_
      refine V_lv [0, 1, 2, 3, 4] rfl ?_
      exact B73 _ _ _ _ _ h
  have h := (if_neg e11).symm.trans h
  by_cases e12 : a1 = (4 : Int32)
  · have h := (if_pos e12).symm.trans h
    refine V_tsw C (x := a1) 77 dX0_detailOf_1 (by first | (rw [e12]; done) | (rw [e12]; rfl)) rfl (by decide) ?_
    refine V_aload_n C 0 78 dX0_detailOf_77 rfl rfl ?_
    refine V_iload_n C 3 79 dX0_detailOf_78 rfl rfl ?_
    obtain ⟨r4, k5, h⟩ := bd_some h
    refine V_callP C ml_X0_144 (pre := []) (post := []) (w := bkW g A v) (as := [.int a3]) (rest := []) (c_X0_isRibbonId k5) 0 82 dX0_detailOf_79 rfl ⟨Nat.le_of_ble_eq_true rfl, Nat.le_of_ble_eq_true rfl⟩ rfl (rfl) rfl rfl rfl (Nat.le_of_ble_eq_true rfl) ⟨Nat.zero_le _, Nat.zero_le _⟩ ?_
    refine V_if_eq C 90 85 dX0_detailOf_82 rfl rfl (fun e6 => ?_) (fun e6 => ?_)
    · have h := (if_pos e6).symm.trans h
      refine V_iload_n C 3 91 dX0_detailOf_90 rfl rfl ?_
      refine V_lv [0, 1, 2, 3, 4] rfl ?_
      exact B91 _ _ _ _ _ h
    · have h := (if_neg e6).symm.trans h
      refine V_iload C 4 87 dX0_detailOf_85 rfl rfl ?_
      refine V_goto C 91 dX0_detailOf_87 rfl ?_
      refine V_lv [0, 1, 2, 3, 4] rfl ?_
      exact B91 _ _ _ _ _ h
  have h := (if_neg e12).symm.trans h
  by_cases e13 : a1 = (5 : Int32)
  · have h := (if_pos e13).symm.trans h
    refine V_tsw C (x := a1) 92 dX0_detailOf_1 (by first | (rw [e13]; done) | (rw [e13]; rfl)) rfl (by decide) ?_
    refine V_iload_n C 3 93 dX0_detailOf_92 rfl rfl ?_
    obtain rfl := Option.some.inj h
    exact retI _ _ _ .int rfl (rfl) rfl dX0_detailOf_93
  have h := (if_neg e13).symm.trans h
  by_cases e14 : a1 = (6 : Int32)
  · have h := (if_pos e14).symm.trans h
    refine V_tsw C (x := a1) 57 dX0_detailOf_1 (by first | (rw [e14]; done) | (rw [e14]; rfl)) rfl (by decide) ?_
    refine V_bipush C (8 : Int32) 59 dX0_detailOf_57 rfl rfl ?_
    obtain rfl := Option.some.inj h
    exact retI _ _ _ .int rfl (rfl) rfl dX0_detailOf_59
  have h := (if_neg e14).symm.trans h
  by_cases e15 : a1 = (7 : Int32)
  · have h := (if_pos e15).symm.trans h
    refine V_tsw C (x := a1) 94 dX0_detailOf_1 (by first | (rw [e15]; done) | (rw [e15]; rfl)) rfl (by decide) ?_
    refine V_aload_n C 0 95 dX0_detailOf_94 rfl rfl ?_
    refine V_iload_n C 3 96 dX0_detailOf_95 rfl rfl ?_
    obtain ⟨r7, k8, h⟩ := bd_some h
    refine V_callP C ml_X0_147 (pre := []) (post := []) (w := bkW g A v) (as := [.int a3]) (rest := []) (c_X0_chapterWith k8) 0 99 dX0_detailOf_96 rfl ⟨Nat.le_of_ble_eq_true rfl, Nat.le_of_ble_eq_true rfl⟩ rfl (rfl) rfl rfl rfl (Nat.le_of_ble_eq_true rfl) ⟨Nat.zero_le _, Nat.zero_le _⟩ ?_
    obtain rfl := Option.some.inj h
    exact retI _ _ _ .int rfl (rfl) rfl dX0_detailOf_99
  have h := (if_neg e15).symm.trans h
  by_cases e16 : a1 = (9 : Int32)
  · have h := (if_pos e16).symm.trans h
    refine V_tsw C (x := a1) 100 dX0_detailOf_1 (by first | (rw [e16]; done) | (rw [e16]; rfl)) rfl (by decide) ?_
    refine V_aload_n C 0 101 dX0_detailOf_100 rfl rfl ?_
    refine V_get C (v := .int (Bk_reader v)) 0 104 fl_X0_37 dX0_detailOf_101 rfl rfl rfl ?_
    obtain rfl := Option.some.inj h
    exact retI _ _ _ .int rfl (rfl) rfl dX0_detailOf_104
  have h := (if_neg e16).symm.trans h
  refine V_tsw C (x := a1) 105 dX0_detailOf_1 (tsTgt_def [1, 2, 3, 4, 5, 6, 7, 9] (by decide) (by intro c hc; simp only [List.mem_cons, List.mem_nil_iff, or_false] at hc; rcases hc with rfl | rfl | rfl | rfl | rfl | rfl | rfl | rfl <;> first | exact lv_neT e9 rfl | exact lv_neT e10 rfl | exact lv_neT e11 rfl | exact lv_neT e12 rfl | exact lv_neT e13 rfl | exact lv_neT e14 rfl | exact lv_neT e15 rfl | exact lv_neT e16 rfl)) rfl (by decide) ?_
  refine V_iconst C (0 : Int32) 106 dX0_detailOf_105 rfl rfl ?_
  obtain rfl := Option.some.inj h
  exact retI _ _ _ .int rfl (rfl) rfl dX0_detailOf_106
set_option maxHeartbeats 4000000 in
set_option maxRecDepth 100000 in
theorem c_X0_copySlot {l : Launch} {D : va_G} {g : G0} {A : BkA} {v : BkV} {a1 a2 : Int32} {R : (Int32 × BkV)} (h : f_X0_copySlot v a1 a2 = some R) : CtS l D g yX0_copySlot cX0_copySlot 3 none (rmF 0 0) (bkW g A v) [.ref A.1, .int a1, .int a2] none (bkW g A R.2) := by
  refine CtS.of (by decide) (Nat.le_of_ble_eq_true rfl) ?_
  intro K C hBA el eD ekn retI retV
  subst el
  subst eD
  have hlt : ∀ i, i < 3 → i < kn K := fun i h => by rw [ekn]; exact h
  show V K 0 0 _ [(0, .ref A.1), (1, .int a1), (2, .int a2)] [] 0
  unfold f_X0_copySlot at h
  refine V_aload_n C 0 1 dX0_copySlot_0 rfl rfl ?_
  refine V_get C (v := .ref A.2.1) 0 4 fl_X0_9 dX0_copySlot_1 rfl rfl rfl ?_
  refine V_iload_n C 2 5 dX0_copySlot_4 rfl rfl ?_
  refine V_aload_n C 0 6 dX0_copySlot_5 rfl rfl ?_
  refine V_get C (v := .ref A.2.1) 0 9 fl_X0_9 dX0_copySlot_6 rfl rfl rfl ?_
  refine V_iload_n C 1 10 dX0_copySlot_9 rfl rfl ?_
  obtain ⟨g1, h⟩ := gd_some h
  refine V_iald C (f := (Bk_ids v)) (n := 12) 1 11 dX0_copySlot_10 rfl rfl g1 ?_
  obtain ⟨g2, h⟩ := gd_some h
  refine V_iast C hBA (f := (Bk_ids v)) (n := 12) 1 12 (bkW g A ((upd (Bk_ids v) (cl a2) ((Bk_ids v) (cl a1))), (Bk_pages v), (Bk_weights v), (Bk_wears v), (Bk_seats v), (Bk_starts v), (Bk_marks v), (Bk_chapters v), (Bk_reader v), (Bk_nextId v), (Bk_votes v), (Bk_carried v), (Bk_fallen v))) dX0_copySlot_11 rfl rfl g2 rfl ?_
  refine V_aload_n C 0 13 dX0_copySlot_12 rfl rfl ?_
  refine V_get C (v := .ref A.2.2.1) 0 16 fl_X0_15 dX0_copySlot_13 rfl rfl rfl ?_
  refine V_iload_n C 2 17 dX0_copySlot_16 rfl rfl ?_
  refine V_aload_n C 0 18 dX0_copySlot_17 rfl rfl ?_
  refine V_get C (v := .ref A.2.2.1) 0 21 fl_X0_15 dX0_copySlot_18 rfl rfl rfl ?_
  refine V_iload_n C 1 22 dX0_copySlot_21 rfl rfl ?_
  obtain ⟨g3, h⟩ := gd_some h
  refine V_iald C (f := (Bk_pages v)) (n := 12) 2 23 dX0_copySlot_22 rfl rfl g3 ?_
  obtain ⟨g4, h⟩ := gd_some h
  refine V_iast C hBA (f := (Bk_pages v)) (n := 12) 2 24 (bkW g A ((upd (Bk_ids v) (cl a2) ((Bk_ids v) (cl a1))), (upd (Bk_pages v) (cl a2) ((Bk_pages v) (cl a1))), (Bk_weights v), (Bk_wears v), (Bk_seats v), (Bk_starts v), (Bk_marks v), (Bk_chapters v), (Bk_reader v), (Bk_nextId v), (Bk_votes v), (Bk_carried v), (Bk_fallen v))) dX0_copySlot_23 rfl rfl g4 rfl ?_
  refine V_aload_n C 0 25 dX0_copySlot_24 rfl rfl ?_
  refine V_get C (v := .ref A.2.2.2.1) 0 28 fl_X0_18 dX0_copySlot_25 rfl rfl rfl ?_
  refine V_iload_n C 2 29 dX0_copySlot_28 rfl rfl ?_
  refine V_aload_n C 0 30 dX0_copySlot_29 rfl rfl ?_
  refine V_get C (v := .ref A.2.2.2.1) 0 33 fl_X0_18 dX0_copySlot_30 rfl rfl rfl ?_
  refine V_iload_n C 1 34 dX0_copySlot_33 rfl rfl ?_
  obtain ⟨g5, h⟩ := gd_some h
  refine V_iald C (f := (Bk_weights v)) (n := 12) 3 35 dX0_copySlot_34 rfl rfl g5 ?_
  obtain ⟨g6, h⟩ := gd_some h
  refine V_iast C hBA (f := (Bk_weights v)) (n := 12) 3 36 (bkW g A ((upd (Bk_ids v) (cl a2) ((Bk_ids v) (cl a1))), (upd (Bk_pages v) (cl a2) ((Bk_pages v) (cl a1))), (upd (Bk_weights v) (cl a2) ((Bk_weights v) (cl a1))), (Bk_wears v), (Bk_seats v), (Bk_starts v), (Bk_marks v), (Bk_chapters v), (Bk_reader v), (Bk_nextId v), (Bk_votes v), (Bk_carried v), (Bk_fallen v))) dX0_copySlot_35 rfl rfl g6 rfl ?_
  refine V_aload_n C 0 37 dX0_copySlot_36 rfl rfl ?_
  refine V_get C (v := .ref A.2.2.2.2.1) 0 40 fl_X0_21 dX0_copySlot_37 rfl rfl rfl ?_
  refine V_iload_n C 2 41 dX0_copySlot_40 rfl rfl ?_
  refine V_aload_n C 0 42 dX0_copySlot_41 rfl rfl ?_
  refine V_get C (v := .ref A.2.2.2.2.1) 0 45 fl_X0_21 dX0_copySlot_42 rfl rfl rfl ?_
  refine V_iload_n C 1 46 dX0_copySlot_45 rfl rfl ?_
  obtain ⟨g7, h⟩ := gd_some h
  refine V_iald C (f := (Bk_wears v)) (n := 12) 4 47 dX0_copySlot_46 rfl rfl g7 ?_
  obtain ⟨g8, h⟩ := gd_some h
  refine V_iast C hBA (f := (Bk_wears v)) (n := 12) 4 48 (bkW g A ((upd (Bk_ids v) (cl a2) ((Bk_ids v) (cl a1))), (upd (Bk_pages v) (cl a2) ((Bk_pages v) (cl a1))), (upd (Bk_weights v) (cl a2) ((Bk_weights v) (cl a1))), (upd (Bk_wears v) (cl a2) ((Bk_wears v) (cl a1))), (Bk_seats v), (Bk_starts v), (Bk_marks v), (Bk_chapters v), (Bk_reader v), (Bk_nextId v), (Bk_votes v), (Bk_carried v), (Bk_fallen v))) dX0_copySlot_47 rfl rfl g8 rfl ?_
  refine V_aload_n C 0 49 dX0_copySlot_48 rfl rfl ?_
  refine V_get C (v := .ref A.2.2.2.2.2.1) 0 52 fl_X0_24 dX0_copySlot_49 rfl rfl rfl ?_
  refine V_iload_n C 2 53 dX0_copySlot_52 rfl rfl ?_
  refine V_aload_n C 0 54 dX0_copySlot_53 rfl rfl ?_
  refine V_get C (v := .ref A.2.2.2.2.2.1) 0 57 fl_X0_24 dX0_copySlot_54 rfl rfl rfl ?_
  refine V_iload_n C 1 58 dX0_copySlot_57 rfl rfl ?_
  obtain ⟨g9, h⟩ := gd_some h
  refine V_iald C (f := (Bk_seats v)) (n := 12) 5 59 dX0_copySlot_58 rfl rfl g9 ?_
  obtain ⟨g10, h⟩ := gd_some h
  refine V_iast C hBA (f := (Bk_seats v)) (n := 12) 5 60 (bkW g A ((upd (Bk_ids v) (cl a2) ((Bk_ids v) (cl a1))), (upd (Bk_pages v) (cl a2) ((Bk_pages v) (cl a1))), (upd (Bk_weights v) (cl a2) ((Bk_weights v) (cl a1))), (upd (Bk_wears v) (cl a2) ((Bk_wears v) (cl a1))), (upd (Bk_seats v) (cl a2) ((Bk_seats v) (cl a1))), (Bk_starts v), (Bk_marks v), (Bk_chapters v), (Bk_reader v), (Bk_nextId v), (Bk_votes v), (Bk_carried v), (Bk_fallen v))) dX0_copySlot_59 rfl rfl g10 rfl ?_
  obtain rfl := Option.some.inj h
  exact retV _ _ rfl rfl dX0_copySlot_60
set_option maxHeartbeats 4000000 in
set_option maxRecDepth 100000 in
theorem c_X0_insert {l : Launch} {D : va_G} {g : G0} {A : BkA} {v : BkV} {a1 a2 a3 a4 a5 : Int32} {R : (Int32 × BkV)} (h : f_X0_insert v a1 a2 a3 a4 a5 = some R) : CtS l D g yX0_insert cX0_insert 7 none (rmF 1 22) (bkW g A v) [.ref A.1, .int a1, .int a2, .int a3, .int a4, .int a5] none (bkW g A R.2) := by
  refine CtS.of (by decide) (Nat.le_of_ble_eq_true rfl) ?_
  intro K C hBA el eD ekn retI retV
  subst el
  subst eD
  have hlt : ∀ i, i < 7 → i < kn K := fun i h => by rw [ekn]; exact h
  have B50 : ∀ (x1 : Int32) (x2 : Int32) (x3 : Int32) (x4 : Int32) (x5 : Int32) (x6 : Int32) (v : BkV), f_X0_insert_B50 x1 x2 x3 x4 x5 x6 v = some R → V K 0 0 (bkW g A v) [(0, .ref A.1), (1, .int x1), (2, .int x2), (3, .int x3), (4, .int x4), (5, .int x5), (6, .int x6)] [] 50 := by
    intro x1 x2 x3 x4 x5 x6 v h
    rw [f_X0_insert_B50] at h
    refine V_aload_n C 0 51 dX0_insert_50 rfl rfl ?_
    refine V_get C (v := .ref A.2.1) 0 54 fl_X0_9 dX0_insert_51 rfl rfl rfl ?_
    refine V_iload C 6 56 dX0_insert_54 rfl rfl ?_
    refine V_iload_n C 1 57 dX0_insert_56 rfl rfl ?_
    obtain ⟨g1, h⟩ := gd_some h
    refine V_iast C hBA (f := (Bk_ids v)) (n := 12) 1 58 (bkW g A ((upd (Bk_ids v) (cl x6) x1), (Bk_pages v), (Bk_weights v), (Bk_wears v), (Bk_seats v), (Bk_starts v), (Bk_marks v), (Bk_chapters v), (Bk_reader v), (Bk_nextId v), (Bk_votes v), (Bk_carried v), (Bk_fallen v))) dX0_insert_57 rfl rfl g1 rfl ?_
    refine V_aload_n C 0 59 dX0_insert_58 rfl rfl ?_
    refine V_get C (v := .ref A.2.2.1) 0 62 fl_X0_15 dX0_insert_59 rfl rfl rfl ?_
    refine V_iload C 6 64 dX0_insert_62 rfl rfl ?_
    refine V_iload_n C 2 65 dX0_insert_64 rfl rfl ?_
    obtain ⟨g2, h⟩ := gd_some h
    refine V_iast C hBA (f := (Bk_pages v)) (n := 12) 2 66 (bkW g A ((upd (Bk_ids v) (cl x6) x1), (upd (Bk_pages v) (cl x6) x2), (Bk_weights v), (Bk_wears v), (Bk_seats v), (Bk_starts v), (Bk_marks v), (Bk_chapters v), (Bk_reader v), (Bk_nextId v), (Bk_votes v), (Bk_carried v), (Bk_fallen v))) dX0_insert_65 rfl rfl g2 rfl ?_
    refine V_aload_n C 0 67 dX0_insert_66 rfl rfl ?_
    refine V_get C (v := .ref A.2.2.2.1) 0 70 fl_X0_18 dX0_insert_67 rfl rfl rfl ?_
    refine V_iload C 6 72 dX0_insert_70 rfl rfl ?_
    refine V_iload_n C 3 73 dX0_insert_72 rfl rfl ?_
    obtain ⟨g3, h⟩ := gd_some h
    refine V_iast C hBA (f := (Bk_weights v)) (n := 12) 3 74 (bkW g A ((upd (Bk_ids v) (cl x6) x1), (upd (Bk_pages v) (cl x6) x2), (upd (Bk_weights v) (cl x6) x3), (Bk_wears v), (Bk_seats v), (Bk_starts v), (Bk_marks v), (Bk_chapters v), (Bk_reader v), (Bk_nextId v), (Bk_votes v), (Bk_carried v), (Bk_fallen v))) dX0_insert_73 rfl rfl g3 rfl ?_
    refine V_aload_n C 0 75 dX0_insert_74 rfl rfl ?_
    refine V_get C (v := .ref A.2.2.2.2.1) 0 78 fl_X0_21 dX0_insert_75 rfl rfl rfl ?_
    refine V_iload C 6 80 dX0_insert_78 rfl rfl ?_
    refine V_iload C 4 82 dX0_insert_80 rfl rfl ?_
    obtain ⟨g4, h⟩ := gd_some h
    refine V_iast C hBA (f := (Bk_wears v)) (n := 12) 4 83 (bkW g A ((upd (Bk_ids v) (cl x6) x1), (upd (Bk_pages v) (cl x6) x2), (upd (Bk_weights v) (cl x6) x3), (upd (Bk_wears v) (cl x6) x4), (Bk_seats v), (Bk_starts v), (Bk_marks v), (Bk_chapters v), (Bk_reader v), (Bk_nextId v), (Bk_votes v), (Bk_carried v), (Bk_fallen v))) dX0_insert_82 rfl rfl g4 rfl ?_
    refine V_aload_n C 0 84 dX0_insert_83 rfl rfl ?_
    refine V_get C (v := .ref A.2.2.2.2.2.1) 0 87 fl_X0_24 dX0_insert_84 rfl rfl rfl ?_
    refine V_iload C 6 89 dX0_insert_87 rfl rfl ?_
    refine V_iload C 5 91 dX0_insert_89 rfl rfl ?_
    obtain ⟨g5, h⟩ := gd_some h
    refine V_iast C hBA (f := (Bk_seats v)) (n := 12) 5 92 (bkW g A ((upd (Bk_ids v) (cl x6) x1), (upd (Bk_pages v) (cl x6) x2), (upd (Bk_weights v) (cl x6) x3), (upd (Bk_wears v) (cl x6) x4), (upd (Bk_seats v) (cl x6) x5), (Bk_starts v), (Bk_marks v), (Bk_chapters v), (Bk_reader v), (Bk_nextId v), (Bk_votes v), (Bk_carried v), (Bk_fallen v))) dX0_insert_91 rfl rfl g5 rfl ?_
    refine V_aload_n C 0 93 dX0_insert_92 rfl rfl ?_
    refine V_dup C 94 dX0_insert_93 rfl rfl ?_
    refine V_get C (v := .int (Bk_marks v)) 0 97 fl_X0_30 dX0_insert_94 rfl rfl rfl ?_
    refine V_iconst C (1 : Int32) 98 dX0_insert_97 rfl rfl ?_
    refine V_iadd C 99 dX0_insert_98 rfl ?_
    refine V_put C hBA 0 102 (bkW g A ((upd (Bk_ids v) (cl x6) x1), (upd (Bk_pages v) (cl x6) x2), (upd (Bk_weights v) (cl x6) x3), (upd (Bk_wears v) (cl x6) x4), (upd (Bk_seats v) (cl x6) x5), (Bk_starts v), ((Bk_marks v) + (1 : Int32)), (Bk_chapters v), (Bk_reader v), (Bk_nextId v), (Bk_votes v), (Bk_carried v), (Bk_fallen v))) fl_X0_30 fp_X0_6 dX0_insert_99 rfl rfl (Nat.le_of_ble_eq_true rfl) rfl rfl rfl ?_
    obtain rfl := Option.some.inj h
    exact retV _ _ rfl rfl dX0_insert_102
  have L16 : ∀ (n : Nat) (x1 : Int32) (x2 : Int32) (x3 : Int32) (x4 : Int32) (x5 : Int32) (x6 : Int32) (v : BkV), f_X0_insert_L16 n x1 x2 x3 x4 x5 x6 v = some R → V K 0 0 (bkW g A v) [(0, .ref A.1), (1, .int x1), (2, .int x2), (3, .int x3), (4, .int x4), (5, .int x5), (6, .int x6)] [] 16 := by
    intro n
    induction n with
    | zero =>
      intro x1 x2 x3 x4 x5 x6 v h
      rw [f_X0_insert_L16] at h
      cases h
    | succ n ih =>
      intro x1 x2 x3 x4 x5 x6 v h
      rw [f_X0_insert_L16] at h
      refine V_iload C 6 18 dX0_insert_16 rfl rfl ?_
      refine V_if_le C 50 21 dX0_insert_18 rfl rfl (fun e6 => ?_) (fun e6 => ?_)
      · have h := (if_pos e6).symm.trans h
        refine V_lv [0, 1, 2, 3, 4, 5, 6] rfl ?_
        exact B50 _ _ _ _ _ _ _ h
      · have h := (if_neg e6).symm.trans h
        refine V_aload_n C 0 22 dX0_insert_21 rfl rfl ?_
        refine V_get C (v := .ref A.2.2.1) 0 25 fl_X0_15 dX0_insert_22 rfl rfl rfl ?_
        refine V_iload C 6 27 dX0_insert_25 rfl rfl ?_
        refine V_iconst C (1 : Int32) 28 dX0_insert_27 rfl rfl ?_
        refine V_isub C 29 dX0_insert_28 rfl ?_
        obtain ⟨g7, h⟩ := gd_some h
        refine V_iald C (f := (Bk_pages v)) (n := 12) 2 30 dX0_insert_29 rfl rfl g7 ?_
        refine V_iload_n C 2 31 dX0_insert_30 rfl rfl ?_
        refine V_icmp_le C 50 34 dX0_insert_31 rfl rfl (fun e8 => ?_) (fun e8 => ?_)
        · have h := (if_pos e8).symm.trans h
          refine V_lv [0, 1, 2, 3, 4, 5, 6] rfl ?_
          exact B50 _ _ _ _ _ _ _ h
        · have h := (if_neg e8).symm.trans h
          refine V_aload_n C 0 35 dX0_insert_34 rfl rfl ?_
          refine V_iload C 6 37 dX0_insert_35 rfl rfl ?_
          refine V_iconst C (1 : Int32) 38 dX0_insert_37 rfl rfl ?_
          refine V_isub C 39 dX0_insert_38 rfl ?_
          refine V_iload C 6 41 dX0_insert_39 rfl rfl ?_
          obtain ⟨r9, k10, h⟩ := bd_some h
          refine V_callS C hBA ml_X0_184 (pre := []) (post := []) (w0 := bkW g A v) (w1 := bkW g A r9.2) (as := [.int (x6 - (1 : Int32)), .int x6]) (rest := []) (c_X0_copySlot k10) 0 44 (bkW g A r9.2) dX0_insert_41 rfl ⟨Nat.le_of_ble_eq_true rfl, Nat.le_of_ble_eq_true rfl⟩ rfl (rfl) (rfl) rfl rfl rfl rfl (Nat.le_of_ble_eq_true rfl) ⟨Nat.zero_le _, Nat.zero_le _⟩ ?_
          refine V_iinc C 6 (x6 + (-1 : Int32)) 47 [(6, .int (x6 + (-1 : Int32))), (0, .ref A.1), (1, .int x1), (2, .int x2), (3, .int x3), (4, .int x4), (5, .int x5)] dX0_insert_44 rfl rfl rfl (hlt 6 (by decide)) rfl ?_
          refine V_goto C 16 dX0_insert_47 rfl ?_
          refine V_lv [1, 2, 3, 4, 5, 6, 0] rfl ?_
          exact ih _ _ _ _ _ _ _ h
  show V K 0 0 _ [(0, .ref A.1), (1, .int a1), (2, .int a2), (3, .int a3), (4, .int a4), (5, .int a5)] [] 0
  unfold f_X0_insert at h
  refine V_aload_n C 0 1 dX0_insert_0 rfl rfl ?_
  refine V_get C (v := .int (Bk_marks v)) 0 4 fl_X0_30 dX0_insert_1 rfl rfl rfl ?_
  refine V_bipush C (12 : Int32) 6 dX0_insert_4 rfl rfl ?_
  refine V_icmp_lt C 10 9 dX0_insert_6 rfl rfl (fun e11 => ?_) (fun e11 => ?_)
  · have h := (if_pos e11).symm.trans h
    refine V_aload_n C 0 11 dX0_insert_10 rfl rfl ?_
    refine V_get C (v := .int (Bk_marks v)) 0 14 fl_X0_30 dX0_insert_11 rfl rfl rfl ?_
    refine V_istore C 16 [(6, .int (Bk_marks v)), (0, .ref A.1), (1, .int a1), (2, .int a2), (3, .int a3), (4, .int a4), (5, .int a5)] dX0_insert_14 rfl (hlt 6 (by decide)) rfl ?_
    refine V_lv [1, 2, 3, 4, 5, 6, 0] rfl ?_
    exact L16 100 _ _ _ _ _ _ _ h
  · have h := (if_neg e11).symm.trans h
    obtain rfl := Option.some.inj h
    exact retV _ _ rfl rfl dX0_insert_9
set_option maxHeartbeats 4000000 in
set_option maxRecDepth 100000 in
theorem c_X0_add {l : Launch} {D : va_G} {g : G0} {A : BkA} {v : BkV} {a1 a2 a3 : Int32} {R : (Int32 × BkV)} (h : f_X0_add v a1 a2 a3 = some R) : CtS l D g yX0_add cX0_add 5 (some .int) (rmF 2 48) (bkW g A v) [.ref A.1, .int a1, .int a2, .int a3] (some (.int R.1)) (bkW g A R.2) := by
  refine CtS.of (by decide) (Nat.le_of_ble_eq_true rfl) ?_
  intro K C hBA el eD ekn retI retV
  subst el
  subst eD
  have hlt : ∀ i, i < 5 → i < kn K := fun i h => by rw [ekn]; exact h
  show V K 0 0 _ [(0, .ref A.1), (1, .int a1), (2, .int a2), (3, .int a3)] [] 0
  unfold f_X0_add at h
  refine V_aload_n C 0 1 dX0_add_0 rfl rfl ?_
  refine V_get C (v := .int (Bk_nextId v)) 0 4 fl_X0_40 dX0_add_1 rfl rfl rfl ?_
  refine V_istore C 6 [(4, .int (Bk_nextId v)), (0, .ref A.1), (1, .int a1), (2, .int a2), (3, .int a3)] dX0_add_4 rfl (hlt 4 (by decide)) rfl ?_
  refine V_aload_n C 1 7 dX0_add_6 rfl rfl ?_
  refine V_dup C 8 dX0_add_7 rfl rfl ?_
  refine V_get C (v := .int (Bk_nextId v)) 0 11 fl_X0_40 dX0_add_8 rfl rfl rfl ?_
  refine V_iconst C (1 : Int32) 12 dX0_add_11 rfl rfl ?_
  refine V_iadd C 13 dX0_add_12 rfl ?_
  refine V_put C hBA 0 16 (bkW g A ((Bk_ids v), (Bk_pages v), (Bk_weights v), (Bk_wears v), (Bk_seats v), (Bk_starts v), (Bk_marks v), (Bk_chapters v), (Bk_reader v), ((Bk_nextId v) + (1 : Int32)), (Bk_votes v), (Bk_carried v), (Bk_fallen v))) fl_X0_40 fp_X0_9 dX0_add_13 rfl rfl (Nat.le_of_ble_eq_true rfl) rfl rfl rfl ?_
  refine V_aload_n C 1 17 dX0_add_16 rfl rfl ?_
  refine V_iload C 0 19 dX0_add_17 rfl rfl ?_
  refine V_iload_n C 2 20 dX0_add_19 rfl rfl ?_
  refine V_iload_n C 3 21 dX0_add_20 rfl rfl ?_
  refine V_iconst C (0 : Int32) 22 dX0_add_21 rfl rfl ?_
  refine V_iload_n C 4 23 dX0_add_22 rfl rfl ?_
  obtain ⟨r1, k2, h⟩ := bd_some h
  refine V_callS C hBA ml_X0_176 (pre := []) (post := []) (w0 := bkW g A ((Bk_ids v), (Bk_pages v), (Bk_weights v), (Bk_wears v), (Bk_seats v), (Bk_starts v), (Bk_marks v), (Bk_chapters v), (Bk_reader v), ((Bk_nextId v) + (1 : Int32)), (Bk_votes v), (Bk_carried v), (Bk_fallen v))) (w1 := bkW g A r1.2) (as := [.int (Bk_nextId v), .int a1, .int a2, .int (0 : Int32), .int a3]) (rest := []) (c_X0_insert k2) 0 26 (bkW g A r1.2) dX0_add_23 rfl ⟨Nat.le_of_ble_eq_true rfl, Nat.le_of_ble_eq_true rfl⟩ rfl (rfl) (rfl) rfl rfl rfl rfl (Nat.le_of_ble_eq_true rfl) ⟨Nat.zero_le _, Nat.zero_le _⟩ ?_
  refine V_iload C 0 28 dX0_add_26 rfl rfl ?_
  obtain rfl := Option.some.inj h
  exact retI _ _ _ .int rfl (rfl) rfl dX0_add_28
set_option maxHeartbeats 4000000 in
set_option maxRecDepth 100000 in
theorem c_X0_takeOut {l : Launch} {D : va_G} {g : G0} {A : BkA} {v : BkV} {a1 : Int32} {R : (Int32 × BkV)} (h : f_X0_takeOut v a1 = some R) : CtS l D g yX0_takeOut cX0_takeOut 3 none (rmF 1 22) (bkW g A v) [.ref A.1, .int a1] none (bkW g A R.2) := by
  refine CtS.of (by decide) (Nat.le_of_ble_eq_true rfl) ?_
  intro K C hBA el eD ekn retI retV
  subst el
  subst eD
  have hlt : ∀ i, i < 3 → i < kn K := fun i h => by rw [ekn]; exact h
  have L4 : ∀ (n : Nat) (x1 : Int32) (x2 : Int32) (v : BkV), f_X0_takeOut_L4 n x1 x2 v = some R → V K 0 0 (bkW g A v) [(0, .ref A.1), (1, .int x1), (2, .int x2)] [] 4 := by
    intro n
    induction n with
    | zero =>
      intro x1 x2 v h
      rw [f_X0_takeOut_L4] at h
      cases h
    | succ n ih =>
      intro x1 x2 v h
      rw [f_X0_takeOut_L4] at h
      refine V_iload_n C 2 5 dX0_takeOut_4 rfl rfl ?_
      refine V_aload_n C 0 6 dX0_takeOut_5 rfl rfl ?_
      refine V_get C (v := .int (Bk_marks v)) 0 9 fl_X0_30 dX0_takeOut_6 rfl rfl rfl ?_
      refine V_icmp_ge C 26 12 dX0_takeOut_9 rfl rfl (fun e1 => ?_) (fun e1 => ?_)
      · have h := (if_pos e1).symm.trans h
        refine V_aload_n C 0 27 dX0_takeOut_26 rfl rfl ?_
        refine V_dup C 28 dX0_takeOut_27 rfl rfl ?_
        refine V_get C (v := .int (Bk_marks v)) 0 31 fl_X0_30 dX0_takeOut_28 rfl rfl rfl ?_
        refine V_iconst C (1 : Int32) 32 dX0_takeOut_31 rfl rfl ?_
        refine V_isub C 33 dX0_takeOut_32 rfl ?_
        refine V_put C hBA 0 36 (bkW g A ((Bk_ids v), (Bk_pages v), (Bk_weights v), (Bk_wears v), (Bk_seats v), (Bk_starts v), ((Bk_marks v) - (1 : Int32)), (Bk_chapters v), (Bk_reader v), (Bk_nextId v), (Bk_votes v), (Bk_carried v), (Bk_fallen v))) fl_X0_30 fp_X0_6 dX0_takeOut_33 rfl rfl (Nat.le_of_ble_eq_true rfl) rfl rfl rfl ?_
        obtain rfl := Option.some.inj h
        exact retV _ _ rfl rfl dX0_takeOut_36
      · have h := (if_neg e1).symm.trans h
        refine V_aload_n C 0 13 dX0_takeOut_12 rfl rfl ?_
        refine V_iload_n C 2 14 dX0_takeOut_13 rfl rfl ?_
        refine V_iload_n C 2 15 dX0_takeOut_14 rfl rfl ?_
        refine V_iconst C (1 : Int32) 16 dX0_takeOut_15 rfl rfl ?_
        refine V_isub C 17 dX0_takeOut_16 rfl ?_
        obtain ⟨r2, k3, h⟩ := bd_some h
        refine V_callS C hBA ml_X0_184 (pre := []) (post := []) (w0 := bkW g A v) (w1 := bkW g A r2.2) (as := [.int x2, .int (x2 - (1 : Int32))]) (rest := []) (c_X0_copySlot k3) 0 20 (bkW g A r2.2) dX0_takeOut_17 rfl ⟨Nat.le_of_ble_eq_true rfl, Nat.le_of_ble_eq_true rfl⟩ rfl (rfl) (rfl) rfl rfl rfl rfl (Nat.le_of_ble_eq_true rfl) ⟨Nat.zero_le _, Nat.zero_le _⟩ ?_
        refine V_iinc C 2 (x2 + (1 : Int32)) 23 [(2, .int (x2 + (1 : Int32))), (0, .ref A.1), (1, .int x1)] dX0_takeOut_20 rfl rfl rfl (hlt 2 (by decide)) rfl ?_
        refine V_goto C 4 dX0_takeOut_23 rfl ?_
        refine V_lv [1, 2, 0] rfl ?_
        exact ih _ _ _ h
  show V K 0 0 _ [(0, .ref A.1), (1, .int a1)] [] 0
  unfold f_X0_takeOut at h
  refine V_iload_n C 1 1 dX0_takeOut_0 rfl rfl ?_
  refine V_iconst C (1 : Int32) 2 dX0_takeOut_1 rfl rfl ?_
  refine V_iadd C 3 dX0_takeOut_2 rfl ?_
  refine V_istore_n C 4 [(2, .int (a1 + (1 : Int32))), (0, .ref A.1), (1, .int a1)] dX0_takeOut_3 rfl (hlt 2 (by decide)) rfl ?_
  refine V_lv [1, 2, 0] rfl ?_
  exact L4 100 _ _ _ h
set_option maxHeartbeats 4000000 in
set_option maxRecDepth 100000 in
theorem c_X0_remove {l : Launch} {D : va_G} {g : G0} {A : BkA} {v : BkV} {a1 : Int32} {R : (Int32 × BkV)} (h : f_X0_remove v a1 = some R) : CtS l D g yX0_remove cX0_remove 3 (some .int) (rmF 2 44) (bkW g A v) [.ref A.1, .int a1] (some (.int R.1)) (bkW g A R.2) := by
  refine CtS.of (by decide) (Nat.le_of_ble_eq_true rfl) ?_
  intro K C hBA el eD ekn retI retV
  subst el
  subst eD
  have hlt : ∀ i, i < 3 → i < kn K := fun i h => by rw [ekn]; exact h
  show V K 0 0 _ [(0, .ref A.1), (1, .int a1)] [] 0
  unfold f_X0_remove at h
  refine V_iload_n C 1 1 dX0_remove_0 rfl rfl ?_
  refine V_iconst C (-1 : Int32) 2 dX0_remove_1 rfl rfl ?_
  refine V_icmp_ne C 7 5 dX0_remove_2 rfl rfl (fun e1 => ?_) (fun e1 => ?_)
  · have h := (if_neg e1).symm.trans h
    refine V_aload_n C 0 8 dX0_remove_7 rfl rfl ?_
    refine V_get C (v := .ref A.2.2.1) 0 11 fl_X0_15 dX0_remove_8 rfl rfl rfl ?_
    refine V_iload_n C 1 12 dX0_remove_11 rfl rfl ?_
    obtain ⟨g2, h⟩ := gd_some h
    refine V_iald C (f := (Bk_pages v)) (n := 12) 2 13 dX0_remove_12 rfl rfl g2 ?_
    refine V_istore_n C 14 [(2, .int ((Bk_pages v) (cl a1))), (0, .ref A.1), (1, .int a1)] dX0_remove_13 rfl (hlt 2 (by decide)) rfl ?_
    refine V_aload_n C 1 15 dX0_remove_14 rfl rfl ?_
    refine V_iload_n C 2 16 dX0_remove_15 rfl rfl ?_
    obtain ⟨r3, k4, h⟩ := bd_some h
    refine V_callS C hBA ml_X0_180 (pre := []) (post := []) (w0 := bkW g A v) (w1 := bkW g A r3.2) (as := [.int a1]) (rest := []) (c_X0_takeOut k4) 0 19 (bkW g A r3.2) dX0_remove_16 rfl ⟨Nat.le_of_ble_eq_true rfl, Nat.le_of_ble_eq_true rfl⟩ rfl (rfl) (rfl) rfl rfl rfl rfl (Nat.le_of_ble_eq_true rfl) ⟨Nat.zero_le _, Nat.zero_le _⟩ ?_
    refine V_iload_n C 0 20 dX0_remove_19 rfl rfl ?_
    obtain rfl := Option.some.inj h
    exact retI _ _ _ .int rfl (rfl) rfl dX0_remove_20
  · have h := (if_pos e1).symm.trans h
    refine V_iconst C (-1 : Int32) 6 dX0_remove_5 rfl rfl ?_
    obtain rfl := Option.some.inj h
    exact retI _ _ _ .int rfl (rfl) rfl dX0_remove_6
set_option maxHeartbeats 4000000 in
set_option maxRecDepth 100000 in
theorem c_X0_move {l : Launch} {D : va_G} {g : G0} {A : BkA} {v : BkV} {a1 a2 : Int32} {R : (Int32 × BkV)} (h : f_X0_move v a1 a2 = some R) : CtS l D g yX0_move cX0_move 8 (some .int) (rmF 3 66) (bkW g A v) [.ref A.1, .int a1, .int a2] (some (.int R.1)) (bkW g A R.2) := by
  refine CtS.of (by decide) (Nat.le_of_ble_eq_true rfl) ?_
  intro K C hBA el eD ekn retI retV
  subst el
  subst eD
  have hlt : ∀ i, i < 8 → i < kn K := fun i h => by rw [ekn]; exact h
  show V K 0 0 _ [(0, .ref A.1), (1, .int a1), (2, .int a2)] [] 0
  unfold f_X0_move at h
  refine V_iload_n C 1 1 dX0_move_0 rfl rfl ?_
  refine V_iconst C (-1 : Int32) 2 dX0_move_1 rfl rfl ?_
  refine V_icmp_ne C 7 5 dX0_move_2 rfl rfl (fun e1 => ?_) (fun e1 => ?_)
  · have h := (if_neg e1).symm.trans h
    refine V_aload_n C 0 8 dX0_move_7 rfl rfl ?_
    refine V_get C (v := .ref A.2.1) 0 11 fl_X0_9 dX0_move_8 rfl rfl rfl ?_
    refine V_iload_n C 1 12 dX0_move_11 rfl rfl ?_
    obtain ⟨g2, h⟩ := gd_some h
    refine V_iald C (f := (Bk_ids v)) (n := 12) 1 13 dX0_move_12 rfl rfl g2 ?_
    refine V_istore_n C 14 [(3, .int ((Bk_ids v) (cl a1))), (0, .ref A.1), (1, .int a1), (2, .int a2)] dX0_move_13 rfl (hlt 3 (by decide)) rfl ?_
    refine V_aload_n C 1 15 dX0_move_14 rfl rfl ?_
    refine V_get C (v := .ref A.2.2.2.1) 0 18 fl_X0_18 dX0_move_15 rfl rfl rfl ?_
    refine V_iload_n C 2 19 dX0_move_18 rfl rfl ?_
    obtain ⟨g3, h⟩ := gd_some h
    refine V_iald C (f := (Bk_weights v)) (n := 12) 3 20 dX0_move_19 rfl rfl g3 ?_
    refine V_istore C 22 [(4, .int ((Bk_weights v) (cl a1))), (3, .int ((Bk_ids v) (cl a1))), (0, .ref A.1), (1, .int a1), (2, .int a2)] dX0_move_20 rfl (hlt 4 (by decide)) rfl ?_
    refine V_aload_n C 2 23 dX0_move_22 rfl rfl ?_
    refine V_get C (v := .ref A.2.2.2.2.1) 0 26 fl_X0_21 dX0_move_23 rfl rfl rfl ?_
    refine V_iload_n C 3 27 dX0_move_26 rfl rfl ?_
    obtain ⟨g4, h⟩ := gd_some h
    refine V_iald C (f := (Bk_wears v)) (n := 12) 4 28 dX0_move_27 rfl rfl g4 ?_
    refine V_istore C 30 [(5, .int ((Bk_wears v) (cl a1))), (4, .int ((Bk_weights v) (cl a1))), (3, .int ((Bk_ids v) (cl a1))), (0, .ref A.1), (1, .int a1), (2, .int a2)] dX0_move_28 rfl (hlt 5 (by decide)) rfl ?_
    refine V_aload_n C 3 31 dX0_move_30 rfl rfl ?_
    refine V_get C (v := .ref A.2.2.2.2.2.1) 0 34 fl_X0_24 dX0_move_31 rfl rfl rfl ?_
    refine V_iload_n C 4 35 dX0_move_34 rfl rfl ?_
    obtain ⟨g5, h⟩ := gd_some h
    refine V_iald C (f := (Bk_seats v)) (n := 12) 5 36 dX0_move_35 rfl rfl g5 ?_
    refine V_istore C 38 [(6, .int ((Bk_seats v) (cl a1))), (5, .int ((Bk_wears v) (cl a1))), (4, .int ((Bk_weights v) (cl a1))), (3, .int ((Bk_ids v) (cl a1))), (0, .ref A.1), (1, .int a1), (2, .int a2)] dX0_move_36 rfl (hlt 6 (by decide)) rfl ?_
    refine V_aload_n C 4 39 dX0_move_38 rfl rfl ?_
    refine V_iload_n C 5 40 dX0_move_39 rfl rfl ?_
    obtain ⟨r6, k7, h⟩ := bd_some h
    refine V_callS C hBA ml_X0_157 (pre := []) (post := []) (w0 := bkW g A v) (w1 := bkW g A r6.2) (as := [.int a1]) (rest := []) (c_X0_remove k7) 0 43 (bkW g A r6.2) dX0_move_40 rfl ⟨Nat.le_of_ble_eq_true rfl, Nat.le_of_ble_eq_true rfl⟩ rfl (rfl) (rfl) rfl rfl rfl rfl (Nat.le_of_ble_eq_true rfl) ⟨Nat.zero_le _, Nat.zero_le _⟩ ?_
    refine V_istore C 45 [(7, .int r6.1), (6, .int ((Bk_seats v) (cl a1))), (5, .int ((Bk_wears v) (cl a1))), (4, .int ((Bk_weights v) (cl a1))), (3, .int ((Bk_ids v) (cl a1))), (0, .ref A.1), (1, .int a1), (2, .int a2)] dX0_move_43 rfl (hlt 7 (by decide)) rfl ?_
    refine V_aload_n C 5 46 dX0_move_45 rfl rfl ?_
    refine V_iload_n C 4 47 dX0_move_46 rfl rfl ?_
    refine V_iload_n C 7 48 dX0_move_47 rfl rfl ?_
    refine V_iload C 3 50 dX0_move_48 rfl rfl ?_
    refine V_iload C 2 52 dX0_move_50 rfl rfl ?_
    refine V_iload C 1 54 dX0_move_52 rfl rfl ?_
    obtain ⟨r8, k9, h⟩ := bd_some h
    refine V_callS C hBA ml_X0_176 (pre := []) (post := []) (w0 := bkW g A r6.2) (w1 := bkW g A r8.2) (as := [.int ((Bk_ids v) (cl a1)), .int a2, .int ((Bk_weights v) (cl a1)), .int ((Bk_wears v) (cl a1)), .int ((Bk_seats v) (cl a1))]) (rest := []) (c_X0_insert k9) 0 57 (bkW g A r8.2) dX0_move_54 rfl ⟨Nat.le_of_ble_eq_true rfl, Nat.le_of_ble_eq_true rfl⟩ rfl (rfl) (rfl) rfl rfl rfl rfl (Nat.le_of_ble_eq_true rfl) ⟨Nat.zero_le _, Nat.zero_le _⟩ ?_
    refine V_iload C 0 59 dX0_move_57 rfl rfl ?_
    obtain rfl := Option.some.inj h
    exact retI _ _ _ .int rfl (rfl) rfl dX0_move_59
  · have h := (if_pos e1).symm.trans h
    refine V_iconst C (-1 : Int32) 6 dX0_move_5 rfl rfl ?_
    obtain rfl := Option.some.inj h
    exact retI _ _ _ .int rfl (rfl) rfl dX0_move_6
set_option maxHeartbeats 4000000 in
set_option maxRecDepth 100000 in
theorem c_X0_swap {l : Launch} {D : va_G} {g : G0} {A : BkA} {v : BkV} {a1 a2 : Int32} {R : (Int32 × BkV)} (h : f_X0_swap v a1 a2 = some R) : CtS l D g yX0_swap cX0_swap 4 (some .int) (rmF 0 0) (bkW g A v) [.ref A.1, .int a1, .int a2] (some (.int R.1)) (bkW g A R.2) := by
  refine CtS.of (by decide) (Nat.le_of_ble_eq_true rfl) ?_
  intro K C hBA el eD ekn retI retV
  subst el
  subst eD
  have hlt : ∀ i, i < 4 → i < kn K := fun i h => by rw [ekn]; exact h
  have B10 : ∀ (x1 : Int32) (x2 : Int32) (v : BkV), f_X0_swap_B10 x1 x2 v = some R → V K 0 0 (bkW g A v) [(0, .ref A.1), (1, .int x1), (2, .int x2)] [] 10 := by
    intro x1 x2 v h
    rw [f_X0_swap_B10] at h
    refine V_iconst C (-1 : Int32) 11 dX0_swap_10 rfl rfl ?_
    obtain rfl := Option.some.inj h
    exact retI _ _ _ .int rfl (rfl) rfl dX0_swap_11
  show V K 0 0 _ [(0, .ref A.1), (1, .int a1), (2, .int a2)] [] 0
  unfold f_X0_swap at h
  refine V_iload_n C 1 1 dX0_swap_0 rfl rfl ?_
  refine V_iconst C (-1 : Int32) 2 dX0_swap_1 rfl rfl ?_
  refine V_icmp_eq C 10 5 dX0_swap_2 rfl rfl (fun e1 => ?_) (fun e1 => ?_)
  · have h := (if_pos e1).symm.trans h
    refine V_lv [0, 1, 2] rfl ?_
    exact B10 _ _ _ h
  · have h := (if_neg e1).symm.trans h
    refine V_iload_n C 2 6 dX0_swap_5 rfl rfl ?_
    refine V_iconst C (-1 : Int32) 7 dX0_swap_6 rfl rfl ?_
    refine V_icmp_ne C 12 10 dX0_swap_7 rfl rfl (fun e2 => ?_) (fun e2 => ?_)
    · have h := (if_neg e2).symm.trans h
      refine V_aload_n C 0 13 dX0_swap_12 rfl rfl ?_
      refine V_get C (v := .ref A.2.2.2.2.2.1) 0 16 fl_X0_24 dX0_swap_13 rfl rfl rfl ?_
      refine V_iload_n C 2 17 dX0_swap_16 rfl rfl ?_
      obtain ⟨g3, h⟩ := gd_some h
      refine V_iald C (f := (Bk_seats v)) (n := 12) 5 18 dX0_swap_17 rfl rfl g3 ?_
      refine V_istore_n C 19 [(3, .int ((Bk_seats v) (cl a2))), (0, .ref A.1), (1, .int a1), (2, .int a2)] dX0_swap_18 rfl (hlt 3 (by decide)) rfl ?_
      refine V_aload_n C 1 20 dX0_swap_19 rfl rfl ?_
      refine V_get C (v := .ref A.2.2.2.2.2.1) 0 23 fl_X0_24 dX0_swap_20 rfl rfl rfl ?_
      refine V_iload_n C 3 24 dX0_swap_23 rfl rfl ?_
      refine V_aload_n C 1 25 dX0_swap_24 rfl rfl ?_
      refine V_get C (v := .ref A.2.2.2.2.2.1) 0 28 fl_X0_24 dX0_swap_25 rfl rfl rfl ?_
      refine V_iload_n C 2 29 dX0_swap_28 rfl rfl ?_
      obtain ⟨g4, h⟩ := gd_some h
      refine V_iald C (f := (Bk_seats v)) (n := 12) 5 30 dX0_swap_29 rfl rfl g4 ?_
      obtain ⟨g5, h⟩ := gd_some h
      refine V_iast C hBA (f := (Bk_seats v)) (n := 12) 5 31 (bkW g A ((Bk_ids v), (Bk_pages v), (Bk_weights v), (Bk_wears v), (upd (Bk_seats v) (cl a2) ((Bk_seats v) (cl a1))), (Bk_starts v), (Bk_marks v), (Bk_chapters v), (Bk_reader v), (Bk_nextId v), (Bk_votes v), (Bk_carried v), (Bk_fallen v))) dX0_swap_30 rfl rfl g5 rfl ?_
      refine V_aload_n C 1 32 dX0_swap_31 rfl rfl ?_
      refine V_get C (v := .ref A.2.2.2.2.2.1) 0 35 fl_X0_24 dX0_swap_32 rfl rfl rfl ?_
      refine V_iload_n C 2 36 dX0_swap_35 rfl rfl ?_
      refine V_iload_n C 0 37 dX0_swap_36 rfl rfl ?_
      obtain ⟨g6, h⟩ := gd_some h
      refine V_iast C hBA (f := (upd (Bk_seats v) (cl a2) ((Bk_seats v) (cl a1)))) (n := 12) 5 38 (bkW g A ((Bk_ids v), (Bk_pages v), (Bk_weights v), (Bk_wears v), (upd (upd (Bk_seats v) (cl a2) ((Bk_seats v) (cl a1))) (cl a1) ((Bk_seats v) (cl a2))), (Bk_starts v), (Bk_marks v), (Bk_chapters v), (Bk_reader v), (Bk_nextId v), (Bk_votes v), (Bk_carried v), (Bk_fallen v))) dX0_swap_37 rfl rfl g6 rfl ?_
      refine V_iload_n C 0 39 dX0_swap_38 rfl rfl ?_
      obtain rfl := Option.some.inj h
      exact retI _ _ _ .int rfl (rfl) rfl dX0_swap_39
    · have h := (if_pos e2).symm.trans h
      refine V_lv [0, 1, 2] rfl ?_
      exact B10 _ _ _ h
set_option maxHeartbeats 4000000 in
set_option maxRecDepth 100000 in
theorem c_X0_start {l : Launch} {D : va_G} {g : G0} {A : BkA} {v : BkV} {a1 : Int32} {R : (Int32 × BkV)} (h : f_X0_start v a1 = some R) : CtS l D g yX0_start cX0_start 4 (some .int) (rmF 1 22) (bkW g A v) [.ref A.1, .int a1] (some (.int R.1)) (bkW g A R.2) := by
  refine CtS.of (by decide) (Nat.le_of_ble_eq_true rfl) ?_
  intro K C hBA el eD ekn retI retV
  subst el
  subst eD
  have hlt : ∀ i, i < 4 → i < kn K := fun i h => by rw [ekn]; exact h
  have L24 : ∀ (n : Nat) (x1 : Int32) (x2 : Int32) (x3 : Int32) (v : BkV), f_X0_start_L24 n x1 x2 x3 v = some R → V K 0 0 (bkW g A v) [(0, .ref A.1), (1, .int x1), (2, .int x2), (3, .int x3)] [] 24 := by
    intro n
    induction n with
    | zero =>
      intro x1 x2 x3 v h
      rw [f_X0_start_L24] at h
      cases h
    | succ n ih =>
      intro x1 x2 x3 v h
      rw [f_X0_start_L24] at h
      refine V_iload_n C 3 25 dX0_start_24 rfl rfl ?_
      refine V_iload_n C 2 26 dX0_start_25 rfl rfl ?_
      refine V_icmp_le C 49 29 dX0_start_26 rfl rfl (fun e1 => ?_) (fun e1 => ?_)
      · have h := (if_pos e1).symm.trans h
        refine V_aload_n C 0 50 dX0_start_49 rfl rfl ?_
        refine V_get C (v := .ref A.2.2.2.2.2.2) 0 53 fl_X0_27 dX0_start_50 rfl rfl rfl ?_
        refine V_iload_n C 2 54 dX0_start_53 rfl rfl ?_
        refine V_iload_n C 1 55 dX0_start_54 rfl rfl ?_
        obtain ⟨g2, h⟩ := gd_some h
        refine V_iast C hBA (f := (Bk_starts v)) (n := 8) 6 56 (bkW g A ((Bk_ids v), (Bk_pages v), (Bk_weights v), (Bk_wears v), (Bk_seats v), (upd (Bk_starts v) (cl x2) x1), (Bk_marks v), (Bk_chapters v), (Bk_reader v), (Bk_nextId v), (Bk_votes v), (Bk_carried v), (Bk_fallen v))) dX0_start_55 rfl rfl g2 rfl ?_
        refine V_aload_n C 0 57 dX0_start_56 rfl rfl ?_
        refine V_dup C 58 dX0_start_57 rfl rfl ?_
        refine V_get C (v := .int (Bk_chapters v)) 0 61 fl_X0_34 dX0_start_58 rfl rfl rfl ?_
        refine V_iconst C (1 : Int32) 62 dX0_start_61 rfl rfl ?_
        refine V_iadd C 63 dX0_start_62 rfl ?_
        refine V_put C hBA 0 66 (bkW g A ((Bk_ids v), (Bk_pages v), (Bk_weights v), (Bk_wears v), (Bk_seats v), (upd (Bk_starts v) (cl x2) x1), (Bk_marks v), ((Bk_chapters v) + (1 : Int32)), (Bk_reader v), (Bk_nextId v), (Bk_votes v), (Bk_carried v), (Bk_fallen v))) fl_X0_34 fp_X0_7 dX0_start_63 rfl rfl (Nat.le_of_ble_eq_true rfl) rfl rfl rfl ?_
        refine V_iload_n C 2 67 dX0_start_66 rfl rfl ?_
        obtain rfl := Option.some.inj h
        exact retI _ _ _ .int rfl (rfl) rfl dX0_start_67
      · have h := (if_neg e1).symm.trans h
        refine V_aload_n C 0 30 dX0_start_29 rfl rfl ?_
        refine V_get C (v := .ref A.2.2.2.2.2.2) 0 33 fl_X0_27 dX0_start_30 rfl rfl rfl ?_
        refine V_iload_n C 3 34 dX0_start_33 rfl rfl ?_
        refine V_aload_n C 0 35 dX0_start_34 rfl rfl ?_
        refine V_get C (v := .ref A.2.2.2.2.2.2) 0 38 fl_X0_27 dX0_start_35 rfl rfl rfl ?_
        refine V_iload_n C 3 39 dX0_start_38 rfl rfl ?_
        refine V_iconst C (1 : Int32) 40 dX0_start_39 rfl rfl ?_
        refine V_isub C 41 dX0_start_40 rfl ?_
        obtain ⟨g3, h⟩ := gd_some h
        refine V_iald C (f := (Bk_starts v)) (n := 8) 6 42 dX0_start_41 rfl rfl g3 ?_
        obtain ⟨g4, h⟩ := gd_some h
        refine V_iast C hBA (f := (Bk_starts v)) (n := 8) 6 43 (bkW g A ((Bk_ids v), (Bk_pages v), (Bk_weights v), (Bk_wears v), (Bk_seats v), (upd (Bk_starts v) (cl x3) ((Bk_starts v) (cl (x3 - (1 : Int32))))), (Bk_marks v), (Bk_chapters v), (Bk_reader v), (Bk_nextId v), (Bk_votes v), (Bk_carried v), (Bk_fallen v))) dX0_start_42 rfl rfl g4 rfl ?_
        refine V_iinc C 3 (x3 + (-1 : Int32)) 46 [(3, .int (x3 + (-1 : Int32))), (0, .ref A.1), (1, .int x1), (2, .int x2)] dX0_start_43 rfl rfl rfl (hlt 3 (by decide)) rfl ?_
        refine V_goto C 24 dX0_start_46 rfl ?_
        refine V_lv [1, 2, 3, 0] rfl ?_
        exact ih _ _ _ _ h
  show V K 0 0 _ [(0, .ref A.1), (1, .int a1)] [] 0
  unfold f_X0_start at h
  refine V_aload_n C 0 1 dX0_start_0 rfl rfl ?_
  refine V_iload_n C 1 2 dX0_start_1 rfl rfl ?_
  obtain ⟨r5, k6, h⟩ := bd_some h
  refine V_callP C ml_X0_147 (pre := []) (post := []) (w := bkW g A v) (as := [.int a1]) (rest := []) (c_X0_chapterWith k6) 0 5 dX0_start_2 rfl ⟨Nat.le_of_ble_eq_true rfl, Nat.le_of_ble_eq_true rfl⟩ rfl (rfl) rfl rfl rfl (Nat.le_of_ble_eq_true rfl) ⟨Nat.zero_le _, Nat.zero_le _⟩ ?_
  refine V_iconst C (1 : Int32) 6 dX0_start_5 rfl rfl ?_
  refine V_iadd C 7 dX0_start_6 rfl ?_
  refine V_istore_n C 8 [(2, .int (r5 + (1 : Int32))), (0, .ref A.1), (1, .int a1)] dX0_start_7 rfl (hlt 2 (by decide)) rfl ?_
  refine V_aload_n C 1 9 dX0_start_8 rfl rfl ?_
  refine V_get C (v := .int (Bk_chapters v)) 0 12 fl_X0_34 dX0_start_9 rfl rfl rfl ?_
  refine V_bipush C (8 : Int32) 14 dX0_start_12 rfl rfl ?_
  refine V_icmp_lt C 19 17 dX0_start_14 rfl rfl (fun e7 => ?_) (fun e7 => ?_)
  · have h := (if_pos e7).symm.trans h
    refine V_aload_n C 1 20 dX0_start_19 rfl rfl ?_
    refine V_get C (v := .int (Bk_chapters v)) 0 23 fl_X0_34 dX0_start_20 rfl rfl rfl ?_
    refine V_istore_n C 24 [(3, .int (Bk_chapters v)), (2, .int (r5 + (1 : Int32))), (0, .ref A.1), (1, .int a1)] dX0_start_23 rfl (hlt 3 (by decide)) rfl ?_
    refine V_lv [2, 3, 1, 0] rfl ?_
    exact L24 100 _ _ _ _ h
  · have h := (if_neg e7).symm.trans h
    refine V_iconst C (-1 : Int32) 18 dX0_start_17 rfl rfl ?_
    obtain rfl := Option.some.inj h
    exact retI _ _ _ .int rfl (rfl) rfl dX0_start_18
set_option maxHeartbeats 4000000 in
set_option maxRecDepth 100000 in
theorem c_X0_removeEarsIn {l : Launch} {D : va_G} {g : G0} {A : BkA} {v : BkV} {a1 : Int32} {R : (Int32 × BkV)} (h : f_X0_removeEarsIn v a1 = some R) : CtS l D g yX0_removeEarsIn cX0_removeEarsIn 3 none (rmF 2 44) (bkW g A v) [.ref A.1, .int a1] none (bkW g A R.2) := by
  refine CtS.of (by decide) (Nat.le_of_ble_eq_true rfl) ?_
  intro K C hBA el eD ekn retI retV
  subst el
  subst eD
  have hlt : ∀ i, i < 3 → i < kn K := fun i h => by rw [ekn]; exact h
  have B33 : ∀ (J : Int32 → Int32 → BkV → Option (Int32 × BkV)) (hJ : ∀ (x1 : Int32) (x2 : Int32) (v : BkV), J x1 x2 v = some R → V K 0 0 (bkW g A v) [(0, .ref A.1), (1, .int x1), (2, .int x2)] [] 7) (x1 : Int32) (x2 : Int32) (v : BkV), f_X0_removeEarsIn_B33 J x1 x2 v = some R → V K 0 0 (bkW g A v) [(0, .ref A.1), (1, .int x1), (2, .int x2)] [] 33 := by
    intro J hJ x1 x2 v h
    rw [f_X0_removeEarsIn_B33] at h
    refine V_iinc C 2 (x2 + (-1 : Int32)) 36 [(2, .int (x2 + (-1 : Int32))), (0, .ref A.1), (1, .int x1)] dX0_removeEarsIn_33 rfl rfl rfl (hlt 2 (by decide)) rfl ?_
    refine V_goto C 7 dX0_removeEarsIn_36 rfl ?_
    refine V_lv [1, 2, 0] rfl ?_
    exact hJ _ _ _ h
  have L7 : ∀ (n : Nat) (x1 : Int32) (x2 : Int32) (v : BkV), f_X0_removeEarsIn_L7 n x1 x2 v = some R → V K 0 0 (bkW g A v) [(0, .ref A.1), (1, .int x1), (2, .int x2)] [] 7 := by
    intro n
    induction n with
    | zero =>
      intro x1 x2 v h
      rw [f_X0_removeEarsIn_L7] at h
      cases h
    | succ n ih =>
      intro x1 x2 v h
      rw [f_X0_removeEarsIn_L7] at h
      refine V_iload_n C 2 8 dX0_removeEarsIn_7 rfl rfl ?_
      refine V_if_lt C 39 11 dX0_removeEarsIn_8 rfl rfl (fun e1 => ?_) (fun e1 => ?_)
      · have h := (if_pos e1).symm.trans h
        obtain rfl := Option.some.inj h
        exact retV _ _ rfl rfl dX0_removeEarsIn_39
      · have h := (if_neg e1).symm.trans h
        refine V_aload_n C 0 12 dX0_removeEarsIn_11 rfl rfl ?_
        refine V_iload_n C 2 13 dX0_removeEarsIn_12 rfl rfl ?_
        obtain ⟨r2, k3, h⟩ := bd_some h
        refine V_callP C ml_X0_72 (pre := []) (post := []) (w := bkW g A v) (as := [.int x2]) (rest := []) (c_X0_hasSeat k3) 0 16 dX0_removeEarsIn_13 rfl ⟨Nat.le_of_ble_eq_true rfl, Nat.le_of_ble_eq_true rfl⟩ rfl (rfl) rfl rfl rfl (Nat.le_of_ble_eq_true rfl) ⟨Nat.zero_le _, Nat.zero_le _⟩ ?_
        refine V_if_ne C 33 19 dX0_removeEarsIn_16 rfl rfl (fun e4 => ?_) (fun e4 => ?_)
        · have h := (if_neg e4).symm.trans h
          refine V_lv [0, 1, 2] rfl ?_
          exact B33 (f_X0_removeEarsIn_L7 n) ih _ _ _ h
        · have h := (if_pos e4).symm.trans h
          refine V_aload_n C 0 20 dX0_removeEarsIn_19 rfl rfl ?_
          refine V_iload_n C 2 21 dX0_removeEarsIn_20 rfl rfl ?_
          refine V_iload_n C 1 22 dX0_removeEarsIn_21 rfl rfl ?_
          obtain ⟨r5, k6, h⟩ := bd_some h
          refine V_callP C ml_X0_85 (pre := []) (post := []) (w := bkW g A v) (as := [.int x2, .int x1]) (rest := []) (c_X0_isIn k6) 0 25 dX0_removeEarsIn_22 rfl ⟨Nat.le_of_ble_eq_true rfl, Nat.le_of_ble_eq_true rfl⟩ rfl (rfl) rfl rfl rfl (Nat.le_of_ble_eq_true rfl) ⟨Nat.zero_le _, Nat.zero_le _⟩ ?_
          refine V_if_eq C 33 28 dX0_removeEarsIn_25 rfl rfl (fun e7 => ?_) (fun e7 => ?_)
          · have h := (if_pos e7).symm.trans h
            refine V_lv [0, 1, 2] rfl ?_
            exact B33 (f_X0_removeEarsIn_L7 n) ih _ _ _ h
          · have h := (if_neg e7).symm.trans h
            refine V_aload_n C 0 29 dX0_removeEarsIn_28 rfl rfl ?_
            refine V_iload_n C 2 30 dX0_removeEarsIn_29 rfl rfl ?_
            obtain ⟨r8, k9, h⟩ := bd_some h
            refine V_callS C hBA ml_X0_180 (pre := []) (post := []) (w0 := bkW g A v) (w1 := bkW g A r8.2) (as := [.int x2]) (rest := []) (c_X0_takeOut k9) 0 33 (bkW g A r8.2) dX0_removeEarsIn_30 rfl ⟨Nat.le_of_ble_eq_true rfl, Nat.le_of_ble_eq_true rfl⟩ rfl (rfl) (rfl) rfl rfl rfl rfl (Nat.le_of_ble_eq_true rfl) ⟨Nat.zero_le _, Nat.zero_le _⟩ ?_
            refine V_lv [0, 1, 2] rfl ?_
            exact B33 (f_X0_removeEarsIn_L7 n) ih _ _ _ h
  show V K 0 0 _ [(0, .ref A.1), (1, .int a1)] [] 0
  unfold f_X0_removeEarsIn at h
  refine V_aload_n C 0 1 dX0_removeEarsIn_0 rfl rfl ?_
  refine V_get C (v := .int (Bk_marks v)) 0 4 fl_X0_30 dX0_removeEarsIn_1 rfl rfl rfl ?_
  refine V_iconst C (1 : Int32) 5 dX0_removeEarsIn_4 rfl rfl ?_
  refine V_isub C 6 dX0_removeEarsIn_5 rfl ?_
  refine V_istore_n C 7 [(2, .int ((Bk_marks v) - (1 : Int32))), (0, .ref A.1), (1, .int a1)] dX0_removeEarsIn_6 rfl (hlt 2 (by decide)) rfl ?_
  refine V_lv [1, 2, 0] rfl ?_
  exact L7 100 _ _ _ h
set_option maxHeartbeats 4000000 in
set_option maxRecDepth 100000 in
theorem c_X0_dropStart {l : Launch} {D : va_G} {g : G0} {A : BkA} {v : BkV} {a1 : Int32} {R : (Int32 × BkV)} (h : f_X0_dropStart v a1 = some R) : CtS l D g yX0_dropStart cX0_dropStart 3 none (rmF 0 0) (bkW g A v) [.ref A.1, .int a1] none (bkW g A R.2) := by
  refine CtS.of (by decide) (Nat.le_of_ble_eq_true rfl) ?_
  intro K C hBA el eD ekn retI retV
  subst el
  subst eD
  have hlt : ∀ i, i < 3 → i < kn K := fun i h => by rw [ekn]; exact h
  have L4 : ∀ (n : Nat) (x1 : Int32) (x2 : Int32) (v : BkV), f_X0_dropStart_L4 n x1 x2 v = some R → V K 0 0 (bkW g A v) [(0, .ref A.1), (1, .int x1), (2, .int x2)] [] 4 := by
    intro n
    induction n with
    | zero =>
      intro x1 x2 v h
      rw [f_X0_dropStart_L4] at h
      cases h
    | succ n ih =>
      intro x1 x2 v h
      rw [f_X0_dropStart_L4] at h
      refine V_iload_n C 2 5 dX0_dropStart_4 rfl rfl ?_
      refine V_aload_n C 0 6 dX0_dropStart_5 rfl rfl ?_
      refine V_get C (v := .int (Bk_chapters v)) 0 9 fl_X0_34 dX0_dropStart_6 rfl rfl rfl ?_
      refine V_icmp_ge C 32 12 dX0_dropStart_9 rfl rfl (fun e1 => ?_) (fun e1 => ?_)
      · have h := (if_pos e1).symm.trans h
        refine V_aload_n C 0 33 dX0_dropStart_32 rfl rfl ?_
        refine V_dup C 34 dX0_dropStart_33 rfl rfl ?_
        refine V_get C (v := .int (Bk_chapters v)) 0 37 fl_X0_34 dX0_dropStart_34 rfl rfl rfl ?_
        refine V_iconst C (1 : Int32) 38 dX0_dropStart_37 rfl rfl ?_
        refine V_isub C 39 dX0_dropStart_38 rfl ?_
        refine V_put C hBA 0 42 (bkW g A ((Bk_ids v), (Bk_pages v), (Bk_weights v), (Bk_wears v), (Bk_seats v), (Bk_starts v), (Bk_marks v), ((Bk_chapters v) - (1 : Int32)), (Bk_reader v), (Bk_nextId v), (Bk_votes v), (Bk_carried v), (Bk_fallen v))) fl_X0_34 fp_X0_7 dX0_dropStart_39 rfl rfl (Nat.le_of_ble_eq_true rfl) rfl rfl rfl ?_
        obtain rfl := Option.some.inj h
        exact retV _ _ rfl rfl dX0_dropStart_42
      · have h := (if_neg e1).symm.trans h
        refine V_aload_n C 0 13 dX0_dropStart_12 rfl rfl ?_
        refine V_get C (v := .ref A.2.2.2.2.2.2) 0 16 fl_X0_27 dX0_dropStart_13 rfl rfl rfl ?_
        refine V_iload_n C 2 17 dX0_dropStart_16 rfl rfl ?_
        refine V_iconst C (1 : Int32) 18 dX0_dropStart_17 rfl rfl ?_
        refine V_isub C 19 dX0_dropStart_18 rfl ?_
        refine V_aload_n C 0 20 dX0_dropStart_19 rfl rfl ?_
        refine V_get C (v := .ref A.2.2.2.2.2.2) 0 23 fl_X0_27 dX0_dropStart_20 rfl rfl rfl ?_
        refine V_iload_n C 2 24 dX0_dropStart_23 rfl rfl ?_
        obtain ⟨g2, h⟩ := gd_some h
        refine V_iald C (f := (Bk_starts v)) (n := 8) 6 25 dX0_dropStart_24 rfl rfl g2 ?_
        obtain ⟨g3, h⟩ := gd_some h
        refine V_iast C hBA (f := (Bk_starts v)) (n := 8) 6 26 (bkW g A ((Bk_ids v), (Bk_pages v), (Bk_weights v), (Bk_wears v), (Bk_seats v), (upd (Bk_starts v) (cl (x2 - (1 : Int32))) ((Bk_starts v) (cl x2))), (Bk_marks v), (Bk_chapters v), (Bk_reader v), (Bk_nextId v), (Bk_votes v), (Bk_carried v), (Bk_fallen v))) dX0_dropStart_25 rfl rfl g3 rfl ?_
        refine V_iinc C 2 (x2 + (1 : Int32)) 29 [(2, .int (x2 + (1 : Int32))), (0, .ref A.1), (1, .int x1)] dX0_dropStart_26 rfl rfl rfl (hlt 2 (by decide)) rfl ?_
        refine V_goto C 4 dX0_dropStart_29 rfl ?_
        refine V_lv [1, 2, 0] rfl ?_
        exact ih _ _ _ h
  show V K 0 0 _ [(0, .ref A.1), (1, .int a1)] [] 0
  unfold f_X0_dropStart at h
  refine V_iload_n C 1 1 dX0_dropStart_0 rfl rfl ?_
  refine V_iconst C (1 : Int32) 2 dX0_dropStart_1 rfl rfl ?_
  refine V_iadd C 3 dX0_dropStart_2 rfl ?_
  refine V_istore_n C 4 [(2, .int (a1 + (1 : Int32))), (0, .ref A.1), (1, .int a1)] dX0_dropStart_3 rfl (hlt 2 (by decide)) rfl ?_
  refine V_lv [1, 2, 0] rfl ?_
  exact L4 100 _ _ _ h
set_option maxHeartbeats 4000000 in
set_option maxRecDepth 100000 in
theorem c_X0_vote {l : Launch} {D : va_G} {g : G0} {A : BkA} {v : BkV} {a1 : Int32} {R : (Int32 × BkV)} (h : f_X0_vote v a1 = some R) : CtS l D g yX0_vote cX0_vote 2 (some .boolean) (rmF 3 67) (bkW g A v) [.ref A.1, .int a1] (some (.int R.1)) (bkW g A R.2) := by
  refine CtS.of (by decide) (Nat.le_of_ble_eq_true rfl) ?_
  intro K C hBA el eD ekn retI retV
  subst el
  subst eD
  have hlt : ∀ i, i < 2 → i < kn K := fun i h => by rw [ekn]; exact h
  have B45 : ∀ (x1 : Int32) (s0 : Int32) (v : BkV), f_X0_vote_B45 x1 s0 v = some R → V K 0 0 (bkW g A v) [(0, .ref A.1), (1, .int x1)] [.int s0, .ref A.1] 45 := by
    intro x1 s0 v h
    rw [f_X0_vote_B45] at h
    obtain ⟨r1, k2, h⟩ := bd_some h
    refine V_callS C hBA ml_X0_194 (pre := []) (post := []) (w0 := bkW g A v) (w1 := bkW g A r1.2) (as := [.int s0]) (rest := []) (c_X0_dropStart k2) 0 48 (bkW g A r1.2) dX0_vote_45 rfl ⟨Nat.le_of_ble_eq_true rfl, Nat.le_of_ble_eq_true rfl⟩ rfl (rfl) (rfl) rfl rfl rfl rfl (Nat.le_of_ble_eq_true rfl) ⟨Nat.zero_le _, Nat.zero_le _⟩ ?_
    refine V_iconst C (1 : Int32) 49 dX0_vote_48 rfl rfl ?_
    obtain rfl := Option.some.inj h
    exact retI _ _ _ .boolean rfl (rfl) rfl dX0_vote_49
  show V K 0 0 _ [(0, .ref A.1), (1, .int a1)] [] 0
  unfold f_X0_vote at h
  refine V_aload_n C 0 1 dX0_vote_0 rfl rfl ?_
  refine V_dup C 2 dX0_vote_1 rfl rfl ?_
  refine V_get C (v := .int (Bk_votes v)) 0 5 fl_X0_43 dX0_vote_2 rfl rfl rfl ?_
  refine V_iconst C (1 : Int32) 6 dX0_vote_5 rfl rfl ?_
  refine V_iadd C 7 dX0_vote_6 rfl ?_
  refine V_put C hBA 0 10 (bkW g A ((Bk_ids v), (Bk_pages v), (Bk_weights v), (Bk_wears v), (Bk_seats v), (Bk_starts v), (Bk_marks v), (Bk_chapters v), (Bk_reader v), (Bk_nextId v), ((Bk_votes v) + (1 : Int32)), (Bk_carried v), (Bk_fallen v))) fl_X0_43 fp_X0_10 dX0_vote_7 rfl rfl (Nat.le_of_ble_eq_true rfl) rfl rfl rfl ?_
  refine V_aload_n C 0 11 dX0_vote_10 rfl rfl ?_
  refine V_iload_n C 1 12 dX0_vote_11 rfl rfl ?_
  obtain ⟨r3, k4, h⟩ := bd_some h
  refine V_callP C ml_X0_188 (pre := []) (post := []) (w := bkW g A ((Bk_ids v), (Bk_pages v), (Bk_weights v), (Bk_wears v), (Bk_seats v), (Bk_starts v), (Bk_marks v), (Bk_chapters v), (Bk_reader v), (Bk_nextId v), ((Bk_votes v) + (1 : Int32)), (Bk_carried v), (Bk_fallen v))) (as := [.int a1]) (rest := []) (c_X0_wouldCarry k4) 0 15 dX0_vote_12 rfl ⟨Nat.le_of_ble_eq_true rfl, Nat.le_of_ble_eq_true rfl⟩ rfl (rfl) rfl rfl rfl (Nat.le_of_ble_eq_true rfl) ⟨Nat.zero_le _, Nat.zero_le _⟩ ?_
  refine V_if_ne C 20 18 dX0_vote_15 rfl rfl (fun e5 => ?_) (fun e5 => ?_)
  · have h := (if_neg e5).symm.trans h
    refine V_aload_n C 0 21 dX0_vote_20 rfl rfl ?_
    refine V_dup C 22 dX0_vote_21 rfl rfl ?_
    refine V_get C (v := .int (Bk_carried v)) 0 25 fl_X0_46 dX0_vote_22 rfl rfl rfl ?_
    refine V_iconst C (1 : Int32) 26 dX0_vote_25 rfl rfl ?_
    refine V_iadd C 27 dX0_vote_26 rfl ?_
    refine V_put C hBA 0 30 (bkW g A ((Bk_ids v), (Bk_pages v), (Bk_weights v), (Bk_wears v), (Bk_seats v), (Bk_starts v), (Bk_marks v), (Bk_chapters v), (Bk_reader v), (Bk_nextId v), ((Bk_votes v) + (1 : Int32)), ((Bk_carried v) + (1 : Int32)), (Bk_fallen v))) fl_X0_46 fp_X0_11 dX0_vote_27 rfl rfl (Nat.le_of_ble_eq_true rfl) rfl rfl rfl ?_
    refine V_aload_n C 0 31 dX0_vote_30 rfl rfl ?_
    refine V_iload_n C 1 32 dX0_vote_31 rfl rfl ?_
    obtain ⟨r6, k7, h⟩ := bd_some h
    refine V_callS C hBA ml_X0_191 (pre := []) (post := []) (w0 := bkW g A ((Bk_ids v), (Bk_pages v), (Bk_weights v), (Bk_wears v), (Bk_seats v), (Bk_starts v), (Bk_marks v), (Bk_chapters v), (Bk_reader v), (Bk_nextId v), ((Bk_votes v) + (1 : Int32)), ((Bk_carried v) + (1 : Int32)), (Bk_fallen v))) (w1 := bkW g A r6.2) (as := [.int a1]) (rest := []) (c_X0_removeEarsIn k7) 0 35 (bkW g A r6.2) dX0_vote_32 rfl ⟨Nat.le_of_ble_eq_true rfl, Nat.le_of_ble_eq_true rfl⟩ rfl (rfl) (rfl) rfl rfl rfl rfl (Nat.le_of_ble_eq_true rfl) ⟨Nat.zero_le _, Nat.zero_le _⟩ ?_
    refine V_aload_n C 0 36 dX0_vote_35 rfl rfl ?_
    refine V_iload_n C 1 37 dX0_vote_36 rfl rfl ?_
    refine V_if_ne C 44 40 dX0_vote_37 rfl rfl (fun e8 => ?_) (fun e8 => ?_)
    · have h := (if_neg e8).symm.trans h
      refine V_iload_n C 1 45 dX0_vote_44 rfl rfl ?_
      refine V_lv [0, 1] rfl ?_
      exact B45 _ _ _ h
    · have h := (if_pos e8).symm.trans h
      refine V_iconst C (1 : Int32) 41 dX0_vote_40 rfl rfl ?_
      refine V_goto C 45 dX0_vote_41 rfl ?_
      refine V_lv [0, 1] rfl ?_
      exact B45 _ _ _ h
  · have h := (if_pos e5).symm.trans h
    refine V_iconst C (0 : Int32) 19 dX0_vote_18 rfl rfl ?_
    obtain rfl := Option.some.inj h
    exact retI _ _ _ .boolean rfl (rfl) rfl dX0_vote_19
set_option maxHeartbeats 4000000 in
set_option maxRecDepth 100000 in
theorem c_X0_isEarOnTheWay {l : Launch} {D : va_G} {g : G0} {A : BkA} {v : BkV} {a1 a2 a3 : Int32} {R : Int32} (h : f_X0_isEarOnTheWay v a1 a2 a3 = some R) : CtP l D g yX0_isEarOnTheWay cX0_isEarOnTheWay 5 (some .boolean) (rmF 1 21) (bkW g A v) [.ref A.1, .int a1, .int a2, .int a3] (some (.int R)) := by
  refine CtP.of (by decide) rfl rfl (Nat.le_of_ble_eq_true rfl) ?_
  intro K C el eD ekn retI
  subst el
  subst eD
  have hlt : ∀ i, i < 5 → i < kn K := fun i h => by rw [ekn]; exact h
  have B56 : ∀ (x1 : Int32) (x2 : Int32) (x3 : Int32) (x4 : Int32) (s0 : Int32), f_X0_isEarOnTheWay_B56 v x1 x2 x3 x4 s0 = some R → V K 0 0 (bkW g A v) [(0, .ref A.1), (1, .int x1), (2, .int x2), (3, .int x3), (4, .int x4)] [.int s0] 56 := by
    intro x1 x2 x3 x4 s0 h
    rw [f_X0_isEarOnTheWay_B56] at h
    obtain ⟨g1, h⟩ := gd_some h
    obtain rfl := Option.some.inj h
    exact retI _ _ _ .boolean rfl (isz_t g1) rfl dX0_isEarOnTheWay_56
  have B55 : ∀ (x1 : Int32) (x2 : Int32) (x3 : Int32) (x4 : Int32), f_X0_isEarOnTheWay_B55 v x1 x2 x3 x4 = some R → V K 0 0 (bkW g A v) [(0, .ref A.1), (1, .int x1), (2, .int x2), (3, .int x3), (4, .int x4)] [] 55 := by
    intro x1 x2 x3 x4 h
    rw [f_X0_isEarOnTheWay_B55] at h
    refine V_iconst C (0 : Int32) 56 dX0_isEarOnTheWay_55 rfl rfl ?_
    refine V_lv [0, 1, 2, 3, 4] rfl ?_
    exact B56 _ _ _ _ _ h
  have B29 : ∀ (x1 : Int32) (x2 : Int32) (x3 : Int32) (s0 : Int32), f_X0_isEarOnTheWay_B29 v x1 x2 x3 s0 = some R → V K 0 0 (bkW g A v) [(0, .ref A.1), (1, .int x1), (2, .int x2), (3, .int x3)] [.int s0] 29 := by
    intro x1 x2 x3 s0 h
    rw [f_X0_isEarOnTheWay_B29] at h
    refine V_istore C 31 [(4, .int s0), (0, .ref A.1), (1, .int x1), (2, .int x2), (3, .int x3)] dX0_isEarOnTheWay_29 rfl (hlt 4 (by decide)) rfl ?_
    refine V_aload_n C 1 32 dX0_isEarOnTheWay_31 rfl rfl ?_
    refine V_iload_n C 2 33 dX0_isEarOnTheWay_32 rfl rfl ?_
    obtain ⟨r2, k3, h⟩ := bd_some h
    refine V_callP C ml_X0_72 (pre := []) (post := []) (w := bkW g A v) (as := [.int x1]) (rest := []) (c_X0_hasSeat k3) 0 36 dX0_isEarOnTheWay_33 rfl ⟨Nat.le_of_ble_eq_true rfl, Nat.le_of_ble_eq_true rfl⟩ rfl (rfl) rfl rfl rfl (Nat.le_of_ble_eq_true rfl) ⟨Nat.zero_le _, Nat.zero_le _⟩ ?_
    refine V_if_ne C 55 39 dX0_isEarOnTheWay_36 rfl rfl (fun e4 => ?_) (fun e4 => ?_)
    · have h := (if_neg e4).symm.trans h
      refine V_lv [1, 2, 3, 4, 0] rfl ?_
      exact B55 _ _ _ _ h
    · have h := (if_pos e4).symm.trans h
      refine V_iload C 0 41 dX0_isEarOnTheWay_39 rfl rfl ?_
      refine V_iconst C (1 : Int32) 42 dX0_isEarOnTheWay_41 rfl rfl ?_
      refine V_icmp_lt C 55 45 dX0_isEarOnTheWay_42 rfl rfl (fun e5 => ?_) (fun e5 => ?_)
      · have h := (if_pos e5).symm.trans h
        refine V_lv [1, 2, 3, 4, 0] rfl ?_
        exact B55 _ _ _ _ h
      · have h := (if_neg e5).symm.trans h
        refine V_iload C 0 47 dX0_isEarOnTheWay_45 rfl rfl ?_
        refine V_iload_n C 3 48 dX0_isEarOnTheWay_47 rfl rfl ?_
        refine V_icmp_gt C 55 51 dX0_isEarOnTheWay_48 rfl rfl (fun e6 => ?_) (fun e6 => ?_)
        · have h := (if_pos e6).symm.trans h
          refine V_lv [1, 2, 3, 4, 0] rfl ?_
          exact B55 _ _ _ _ h
        · have h := (if_neg e6).symm.trans h
          refine V_iconst C (1 : Int32) 52 dX0_isEarOnTheWay_51 rfl rfl ?_
          refine V_goto C 56 dX0_isEarOnTheWay_52 rfl ?_
          refine V_lv [1, 2, 3, 4, 0] rfl ?_
          exact B56 _ _ _ _ _ h
  show V K 0 0 _ [(0, .ref A.1), (1, .int a1), (2, .int a2), (3, .int a3)] [] 0
  unfold f_X0_isEarOnTheWay at h
  refine V_iload_n C 3 1 dX0_isEarOnTheWay_0 rfl rfl ?_
  refine V_if_eq C 18 4 dX0_isEarOnTheWay_1 rfl rfl (fun e7 => ?_) (fun e7 => ?_)
  · have h := (if_pos e7).symm.trans h
    refine V_aload_n C 0 19 dX0_isEarOnTheWay_18 rfl rfl ?_
    refine V_get C (v := .int (Bk_reader v)) 0 22 fl_X0_37 dX0_isEarOnTheWay_19 rfl rfl rfl ?_
    refine V_aload_n C 0 23 dX0_isEarOnTheWay_22 rfl rfl ?_
    refine V_get C (v := .ref A.2.2.1) 0 26 fl_X0_15 dX0_isEarOnTheWay_23 rfl rfl rfl ?_
    refine V_iload_n C 1 27 dX0_isEarOnTheWay_26 rfl rfl ?_
    obtain ⟨g8, h⟩ := gd_some h
    refine V_iald C (f := (Bk_pages v)) (n := 12) 2 28 dX0_isEarOnTheWay_27 rfl rfl g8 ?_
    refine V_isub C 29 dX0_isEarOnTheWay_28 rfl ?_
    refine V_lv [0, 1, 2, 3] rfl ?_
    exact B29 _ _ _ _ h
  · have h := (if_neg e7).symm.trans h
    refine V_aload_n C 0 5 dX0_isEarOnTheWay_4 rfl rfl ?_
    refine V_get C (v := .ref A.2.2.1) 0 8 fl_X0_15 dX0_isEarOnTheWay_5 rfl rfl rfl ?_
    refine V_iload_n C 1 9 dX0_isEarOnTheWay_8 rfl rfl ?_
    obtain ⟨g9, h⟩ := gd_some h
    refine V_iald C (f := (Bk_pages v)) (n := 12) 2 10 dX0_isEarOnTheWay_9 rfl rfl g9 ?_
    refine V_aload_n C 0 11 dX0_isEarOnTheWay_10 rfl rfl ?_
    refine V_get C (v := .int (Bk_reader v)) 0 14 fl_X0_37 dX0_isEarOnTheWay_11 rfl rfl rfl ?_
    refine V_isub C 15 dX0_isEarOnTheWay_14 rfl ?_
    refine V_goto C 29 dX0_isEarOnTheWay_15 rfl ?_
    refine V_lv [0, 1, 2, 3] rfl ?_
    exact B29 _ _ _ _ h
set_option maxHeartbeats 4000000 in
set_option maxRecDepth 100000 in
theorem c_X0_turn {l : Launch} {D : va_G} {g : G0} {A : BkA} {v : BkV} {a1 a2 : Int32} {R : (Int32 × BkV)} (h : f_X0_turn v a1 a2 = some R) : CtS l D g yX0_turn cX0_turn 5 (some .int) (rmF 2 45) (bkW g A v) [.ref A.1, .int a1, .int a2] (some (.int R.1)) (bkW g A R.2) := by
  refine CtS.of (by decide) (Nat.le_of_ble_eq_true rfl) ?_
  intro K C hBA el eD ekn retI retV
  subst el
  subst eD
  have hlt : ∀ i, i < 5 → i < kn K := fun i h => by rw [ekn]; exact h
  have B93 : ∀ (x1 : Int32) (x2 : Int32) (x3 : Int32) (x4 : Int32) (s0 : Int32) (v : BkV), f_X0_turn_B93 x1 x2 x3 x4 s0 v = some R → V K 0 0 (bkW g A v) [(0, .ref A.1), (1, .int x1), (2, .int x2), (3, .int x3), (4, .int x4)] [.int s0, .ref A.1] 93 := by
    intro x1 x2 x3 x4 s0 v h
    rw [f_X0_turn_B93] at h
    refine V_put C hBA 0 96 (bkW g A ((Bk_ids v), (Bk_pages v), (Bk_weights v), (Bk_wears v), (Bk_seats v), (Bk_starts v), (Bk_marks v), (Bk_chapters v), s0, (Bk_nextId v), (Bk_votes v), (Bk_carried v), (Bk_fallen v))) fl_X0_37 fp_X0_8 dX0_turn_93 rfl rfl (Nat.le_of_ble_eq_true rfl) rfl rfl rfl ?_
    refine V_iload_n C 3 97 dX0_turn_96 rfl rfl ?_
    obtain rfl := Option.some.inj h
    exact retI _ _ _ .int rfl (rfl) rfl dX0_turn_97
  have B57 : ∀ (J : Int32 → Int32 → Int32 → Int32 → BkV → Option (Int32 × BkV)) (hJ : ∀ (x1 : Int32) (x2 : Int32) (x3 : Int32) (x4 : Int32) (v : BkV), J x1 x2 x3 x4 v = some R → V K 0 0 (bkW g A v) [(0, .ref A.1), (1, .int x1), (2, .int x2), (3, .int x3), (4, .int x4)] [] 10) (x1 : Int32) (x2 : Int32) (x3 : Int32) (x4 : Int32) (v : BkV), f_X0_turn_B57 J x1 x2 x3 x4 v = some R → V K 0 0 (bkW g A v) [(0, .ref A.1), (1, .int x1), (2, .int x2), (3, .int x3), (4, .int x4)] [] 57 := by
    intro J hJ x1 x2 x3 x4 v h
    rw [f_X0_turn_B57] at h
    refine V_iinc C 4 (x4 + (-1 : Int32)) 60 [(4, .int (x4 + (-1 : Int32))), (0, .ref A.1), (1, .int x1), (2, .int x2), (3, .int x3)] dX0_turn_57 rfl rfl rfl (hlt 4 (by decide)) rfl ?_
    refine V_goto C 10 dX0_turn_60 rfl ?_
    refine V_lv [1, 2, 3, 4, 0] rfl ?_
    exact hJ _ _ _ _ _ h
  have L10 : ∀ (n : Nat) (x1 : Int32) (x2 : Int32) (x3 : Int32) (x4 : Int32) (v : BkV), f_X0_turn_L10 n x1 x2 x3 x4 v = some R → V K 0 0 (bkW g A v) [(0, .ref A.1), (1, .int x1), (2, .int x2), (3, .int x3), (4, .int x4)] [] 10 := by
    intro n
    induction n with
    | zero =>
      intro x1 x2 x3 x4 v h
      rw [f_X0_turn_L10] at h
      cases h
    | succ n ih =>
      intro x1 x2 x3 x4 v h
      rw [f_X0_turn_L10] at h
      refine V_iload C 4 12 dX0_turn_10 rfl rfl ?_
      refine V_if_lt C 63 15 dX0_turn_12 rfl rfl (fun e1 => ?_) (fun e1 => ?_)
      · have h := (if_pos e1).symm.trans h
        refine V_aload_n C 0 64 dX0_turn_63 rfl rfl ?_
        refine V_dup C 65 dX0_turn_64 rfl rfl ?_
        refine V_get C (v := .int (Bk_fallen v)) 0 68 fl_X0_49 dX0_turn_65 rfl rfl rfl ?_
        refine V_iload_n C 3 69 dX0_turn_68 rfl rfl ?_
        refine V_iadd C 70 dX0_turn_69 rfl ?_
        refine V_put C hBA 0 73 (bkW g A ((Bk_ids v), (Bk_pages v), (Bk_weights v), (Bk_wears v), (Bk_seats v), (Bk_starts v), (Bk_marks v), (Bk_chapters v), (Bk_reader v), (Bk_nextId v), (Bk_votes v), (Bk_carried v), ((Bk_fallen v) + x3))) fl_X0_49 fp_X0_12 dX0_turn_70 rfl rfl (Nat.le_of_ble_eq_true rfl) rfl rfl rfl ?_
        refine V_aload_n C 0 74 dX0_turn_73 rfl rfl ?_
        refine V_iload_n C 2 75 dX0_turn_74 rfl rfl ?_
        refine V_if_eq C 87 78 dX0_turn_75 rfl rfl (fun e2 => ?_) (fun e2 => ?_)
        · have h := (if_pos e2).symm.trans h
          refine V_aload_n C 0 88 dX0_turn_87 rfl rfl ?_
          refine V_get C (v := .int (Bk_reader v)) 0 91 fl_X0_37 dX0_turn_88 rfl rfl rfl ?_
          refine V_iload_n C 1 92 dX0_turn_91 rfl rfl ?_
          refine V_isub C 93 dX0_turn_92 rfl ?_
          refine V_lv [0, 1, 2, 3, 4] rfl ?_
          exact B93 _ _ _ _ _ _ h
        · have h := (if_neg e2).symm.trans h
          refine V_aload_n C 0 79 dX0_turn_78 rfl rfl ?_
          refine V_get C (v := .int (Bk_reader v)) 0 82 fl_X0_37 dX0_turn_79 rfl rfl rfl ?_
          refine V_iload_n C 1 83 dX0_turn_82 rfl rfl ?_
          refine V_iadd C 84 dX0_turn_83 rfl ?_
          refine V_goto C 93 dX0_turn_84 rfl ?_
          refine V_lv [0, 1, 2, 3, 4] rfl ?_
          exact B93 _ _ _ _ _ _ h
      · have h := (if_neg e1).symm.trans h
        refine V_aload_n C 0 16 dX0_turn_15 rfl rfl ?_
        refine V_iload C 4 18 dX0_turn_16 rfl rfl ?_
        refine V_iload_n C 1 19 dX0_turn_18 rfl rfl ?_
        refine V_iload_n C 2 20 dX0_turn_19 rfl rfl ?_
        obtain ⟨r3, k4, h⟩ := bd_some h
        refine V_callP C ml_X0_197 (pre := []) (post := []) (w := bkW g A v) (as := [.int x4, .int x1, .int x2]) (rest := []) (c_X0_isEarOnTheWay k4) 0 23 dX0_turn_20 rfl ⟨Nat.le_of_ble_eq_true rfl, Nat.le_of_ble_eq_true rfl⟩ rfl (rfl) rfl rfl rfl (Nat.le_of_ble_eq_true rfl) ⟨Nat.zero_le _, Nat.zero_le _⟩ ?_
        refine V_if_eq C 57 26 dX0_turn_23 rfl rfl (fun e5 => ?_) (fun e5 => ?_)
        · have h := (if_pos e5).symm.trans h
          refine V_lv [0, 1, 2, 3, 4] rfl ?_
          exact B57 (f_X0_turn_L10 n) ih _ _ _ _ _ h
        · have h := (if_neg e5).symm.trans h
          refine V_aload_n C 0 27 dX0_turn_26 rfl rfl ?_
          refine V_get C (v := .ref A.2.2.2.2.1) 0 30 fl_X0_21 dX0_turn_27 rfl rfl rfl ?_
          refine V_iload C 4 32 dX0_turn_30 rfl rfl ?_
          refine V_dup2 C 33 dX0_turn_32 rfl rfl rfl ?_
          obtain ⟨g6, h⟩ := gd_some h
          refine V_iald C (f := (Bk_wears v)) (n := 12) 4 34 dX0_turn_33 rfl rfl g6 ?_
          refine V_iconst C (1 : Int32) 35 dX0_turn_34 rfl rfl ?_
          refine V_iadd C 36 dX0_turn_35 rfl ?_
          obtain ⟨g7, h⟩ := gd_some h
          refine V_iast C hBA (f := (Bk_wears v)) (n := 12) 4 37 (bkW g A ((Bk_ids v), (Bk_pages v), (Bk_weights v), (upd (Bk_wears v) (cl x4) (((Bk_wears v) (cl x4)) + (1 : Int32))), (Bk_seats v), (Bk_starts v), (Bk_marks v), (Bk_chapters v), (Bk_reader v), (Bk_nextId v), (Bk_votes v), (Bk_carried v), (Bk_fallen v))) dX0_turn_36 rfl rfl g7 rfl ?_
          refine V_aload_n C 0 38 dX0_turn_37 rfl rfl ?_
          refine V_get C (v := .ref A.2.2.2.2.1) 0 41 fl_X0_21 dX0_turn_38 rfl rfl rfl ?_
          refine V_iload C 4 43 dX0_turn_41 rfl rfl ?_
          obtain ⟨g8, h⟩ := gd_some h
          refine V_iald C (f := (upd (Bk_wears v) (cl x4) (((Bk_wears v) (cl x4)) + (1 : Int32)))) (n := 12) 4 44 dX0_turn_43 rfl rfl g8 ?_
          refine V_iconst C (3 : Int32) 45 dX0_turn_44 rfl rfl ?_
          refine V_icmp_lt C 57 48 dX0_turn_45 rfl rfl (fun e9 => ?_) (fun e9 => ?_)
          · have h := (if_pos e9).symm.trans h
            refine V_lv [0, 1, 2, 3, 4] rfl ?_
            exact B57 (f_X0_turn_L10 n) ih _ _ _ _ _ h
          · have h := (if_neg e9).symm.trans h
            refine V_aload_n C 0 49 dX0_turn_48 rfl rfl ?_
            refine V_iload C 4 51 dX0_turn_49 rfl rfl ?_
            obtain ⟨r10, k11, h⟩ := bd_some h
            refine V_callS C hBA ml_X0_180 (pre := []) (post := []) (w0 := bkW g A ((Bk_ids v), (Bk_pages v), (Bk_weights v), (upd (Bk_wears v) (cl x4) (((Bk_wears v) (cl x4)) + (1 : Int32))), (Bk_seats v), (Bk_starts v), (Bk_marks v), (Bk_chapters v), (Bk_reader v), (Bk_nextId v), (Bk_votes v), (Bk_carried v), (Bk_fallen v))) (w1 := bkW g A r10.2) (as := [.int x4]) (rest := []) (c_X0_takeOut k11) 0 54 (bkW g A r10.2) dX0_turn_51 rfl ⟨Nat.le_of_ble_eq_true rfl, Nat.le_of_ble_eq_true rfl⟩ rfl (rfl) (rfl) rfl rfl rfl rfl (Nat.le_of_ble_eq_true rfl) ⟨Nat.zero_le _, Nat.zero_le _⟩ ?_
            refine V_iinc C 3 (x3 + (1 : Int32)) 57 [(3, .int (x3 + (1 : Int32))), (0, .ref A.1), (1, .int x1), (2, .int x2), (4, .int x4)] dX0_turn_54 rfl rfl rfl (hlt 3 (by decide)) rfl ?_
            refine V_lv [1, 2, 3, 0, 4] rfl ?_
            exact B57 (f_X0_turn_L10 n) ih _ _ _ _ _ h
  show V K 0 0 _ [(0, .ref A.1), (1, .int a1), (2, .int a2)] [] 0
  unfold f_X0_turn at h
  refine V_iconst C (0 : Int32) 1 dX0_turn_0 rfl rfl ?_
  refine V_istore_n C 2 [(3, .int (0 : Int32)), (0, .ref A.1), (1, .int a1), (2, .int a2)] dX0_turn_1 rfl (hlt 3 (by decide)) rfl ?_
  refine V_aload_n C 1 3 dX0_turn_2 rfl rfl ?_
  refine V_get C (v := .int (Bk_marks v)) 0 6 fl_X0_30 dX0_turn_3 rfl rfl rfl ?_
  refine V_iconst C (1 : Int32) 7 dX0_turn_6 rfl rfl ?_
  refine V_isub C 8 dX0_turn_7 rfl ?_
  refine V_istore C 10 [(4, .int ((Bk_marks v) - (1 : Int32))), (3, .int (0 : Int32)), (0, .ref A.1), (1, .int a1), (2, .int a2)] dX0_turn_8 rfl (hlt 4 (by decide)) rfl ?_
  refine V_lv [2, 3, 4, 1, 0] rfl ?_
  exact L10 100 _ _ _ _ _ h
set_option maxHeartbeats 4000000 in
set_option maxRecDepth 100000 in
theorem c_X0_carryOut {l : Launch} {D : va_G} {g : G0} {A : BkA} {v : BkV} {a1 a2 a3 : Int32} {R : (Int32 × BkV)} (h : f_X0_carryOut v a1 a2 a3 = some R) : CtS l D g yX0_carryOut cX0_carryOut 4 (some .int) (rmF 4 93) (bkW g A v) [.ref A.1, .int a1, .int a2, .int a3] (some (.int R.1)) (bkW g A R.2) := by
  refine CtS.of (by decide) (Nat.le_of_ble_eq_true rfl) ?_
  intro K C hBA el eD ekn retI retV
  subst el
  subst eD
  have hlt : ∀ i, i < 4 → i < kn K := fun i h => by rw [ekn]; exact h
  have B178 : ∀ (x1 : Int32) (x2 : Int32) (x3 : Int32) (s0 : Int32) (v : BkV), f_X0_carryOut_B178 x1 x2 x3 s0 v = some R → V K 0 0 (bkW g A v) [(0, .ref A.1), (1, .int x1), (2, .int x2), (3, .int x3)] [.int s0] 178 := by
    intro x1 x2 x3 s0 v h
    rw [f_X0_carryOut_B178] at h
    obtain rfl := Option.some.inj h
    exact retI _ _ _ .int rfl (rfl) rfl dX0_carryOut_178
  show V K 0 0 _ [(0, .ref A.1), (1, .int a1), (2, .int a2), (3, .int a3)] [] 0
  unfold f_X0_carryOut at h
  refine V_iload_n C 1 1 dX0_carryOut_0 rfl rfl ?_
  by_cases e30 : a1 = (67 : Int32)
  · have h := (if_pos e30).symm.trans h
    refine V_tsw C (x := a1) 159 dX0_carryOut_1 (by first | (rw [e30]; done) | (rw [e30]; rfl)) rfl (by decide) ?_
    refine V_aload_n C 0 160 dX0_carryOut_159 rfl rfl ?_
    refine V_iload_n C 2 161 dX0_carryOut_160 rfl rfl ?_
    obtain ⟨r1, k2, h⟩ := bd_some h
    refine V_callS C hBA ml_X0_166 (pre := []) (post := []) (w0 := bkW g A v) (w1 := bkW g A r1.2) (as := [.int a2]) (rest := []) (c_X0_start k2) 0 164 (bkW g A r1.2) dX0_carryOut_161 rfl ⟨Nat.le_of_ble_eq_true rfl, Nat.le_of_ble_eq_true rfl⟩ rfl (rfl) (rfl) rfl rfl rfl rfl (Nat.le_of_ble_eq_true rfl) ⟨Nat.zero_le _, Nat.zero_le _⟩ ?_
    obtain rfl := Option.some.inj h
    exact retI _ _ _ .int rfl (rfl) rfl dX0_carryOut_164
  have h := (if_neg e30).symm.trans h
  by_cases e31 : a1 = (69 : Int32)
  · have h := (if_pos e31).symm.trans h
    refine V_tsw C (x := a1) 115 dX0_carryOut_1 (by first | (rw [e31]; done) | (rw [e31]; rfl)) rfl (by decide) ?_
    refine V_aload_n C 0 116 dX0_carryOut_115 rfl rfl ?_
    refine V_iload_n C 2 117 dX0_carryOut_116 rfl rfl ?_
    refine V_iload_n C 3 118 dX0_carryOut_117 rfl rfl ?_
    refine V_iconst C (-1 : Int32) 119 dX0_carryOut_118 rfl rfl ?_
    obtain ⟨r3, k4, h⟩ := bd_some h
    refine V_callS C hBA ml_X0_153 (pre := []) (post := []) (w0 := bkW g A v) (w1 := bkW g A r3.2) (as := [.int a2, .int a3, .int (-1 : Int32)]) (rest := []) (c_X0_add k4) 0 122 (bkW g A r3.2) dX0_carryOut_119 rfl ⟨Nat.le_of_ble_eq_true rfl, Nat.le_of_ble_eq_true rfl⟩ rfl (rfl) (rfl) rfl rfl rfl rfl (Nat.le_of_ble_eq_true rfl) ⟨Nat.zero_le _, Nat.zero_le _⟩ ?_
    obtain rfl := Option.some.inj h
    exact retI _ _ _ .int rfl (rfl) rfl dX0_carryOut_122
  have h := (if_neg e31).symm.trans h
  by_cases e32 : a1 = (77 : Int32)
  · have h := (if_pos e32).symm.trans h
    refine V_tsw C (x := a1) 133 dX0_carryOut_1 (by first | (rw [e32]; done) | (rw [e32]; rfl)) rfl (by decide) ?_
    refine V_aload_n C 0 134 dX0_carryOut_133 rfl rfl ?_
    refine V_aload_n C 0 135 dX0_carryOut_134 rfl rfl ?_
    refine V_iload_n C 2 136 dX0_carryOut_135 rfl rfl ?_
    obtain ⟨r5, k6, h⟩ := bd_some h
    refine V_callP C ml_X0_116 (pre := []) (post := []) (w := bkW g A v) (as := [.int a2]) (rest := [.ref A.1]) (c_X0_slotWithId k6) 0 139 dX0_carryOut_136 rfl ⟨Nat.le_of_ble_eq_true rfl, Nat.le_of_ble_eq_true rfl⟩ rfl (rfl) rfl rfl rfl (Nat.le_of_ble_eq_true rfl) ⟨Nat.zero_le _, Nat.zero_le _⟩ ?_
    refine V_iload_n C 3 140 dX0_carryOut_139 rfl rfl ?_
    obtain ⟨r7, k8, h⟩ := bd_some h
    refine V_callS C hBA ml_X0_160 (pre := []) (post := []) (w0 := bkW g A v) (w1 := bkW g A r7.2) (as := [.int r5, .int a3]) (rest := []) (c_X0_move k8) 0 143 (bkW g A r7.2) dX0_carryOut_140 rfl ⟨Nat.le_of_ble_eq_true rfl, Nat.le_of_ble_eq_true rfl⟩ rfl (rfl) (rfl) rfl rfl rfl rfl (Nat.le_of_ble_eq_true rfl) ⟨Nat.zero_le _, Nat.zero_le _⟩ ?_
    obtain rfl := Option.some.inj h
    exact retI _ _ _ .int rfl (rfl) rfl dX0_carryOut_143
  have h := (if_neg e32).symm.trans h
  by_cases e33 : a1 = (82 : Int32)
  · have h := (if_pos e33).symm.trans h
    refine V_tsw C (x := a1) 104 dX0_carryOut_1 (by first | (rw [e33]; done) | (rw [e33]; rfl)) rfl (by decide) ?_
    refine V_aload_n C 0 105 dX0_carryOut_104 rfl rfl ?_
    refine V_iload_n C 2 106 dX0_carryOut_105 rfl rfl ?_
    refine V_iload_n C 3 107 dX0_carryOut_106 rfl rfl ?_
    refine V_aload_n C 0 108 dX0_carryOut_107 rfl rfl ?_
    obtain ⟨r9, k10, h⟩ := bd_some h
    refine V_callP C ml_X0_141 (pre := []) (post := []) (w := bkW g A v) (as := []) (rest := [.int a3, .int a2, .ref A.1]) (c_X0_freeSeat k10) 0 111 dX0_carryOut_108 rfl ⟨Nat.le_of_ble_eq_true rfl, Nat.le_of_ble_eq_true rfl⟩ rfl (rfl) rfl rfl rfl (Nat.le_of_ble_eq_true rfl) ⟨Nat.zero_le _, Nat.zero_le _⟩ ?_
    obtain ⟨r11, k12, h⟩ := bd_some h
    refine V_callS C hBA ml_X0_153 (pre := []) (post := []) (w0 := bkW g A v) (w1 := bkW g A r11.2) (as := [.int a2, .int a3, .int r9]) (rest := []) (c_X0_add k12) 0 114 (bkW g A r11.2) dX0_carryOut_111 rfl ⟨Nat.le_of_ble_eq_true rfl, Nat.le_of_ble_eq_true rfl⟩ rfl (rfl) (rfl) rfl rfl rfl rfl (Nat.le_of_ble_eq_true rfl) ⟨Nat.zero_le _, Nat.zero_le _⟩ ?_
    obtain rfl := Option.some.inj h
    exact retI _ _ _ .int rfl (rfl) rfl dX0_carryOut_114
  have h := (if_neg e33).symm.trans h
  by_cases e34 : a1 = (83 : Int32)
  · have h := (if_pos e34).symm.trans h
    refine V_tsw C (x := a1) 144 dX0_carryOut_1 (by first | (rw [e34]; done) | (rw [e34]; rfl)) rfl (by decide) ?_
    refine V_aload_n C 0 145 dX0_carryOut_144 rfl rfl ?_
    refine V_aload_n C 0 146 dX0_carryOut_145 rfl rfl ?_
    refine V_iload_n C 2 147 dX0_carryOut_146 rfl rfl ?_
    obtain ⟨r13, k14, h⟩ := bd_some h
    refine V_callP C ml_X0_116 (pre := []) (post := []) (w := bkW g A v) (as := [.int a2]) (rest := [.ref A.1]) (c_X0_slotWithId k14) 0 150 dX0_carryOut_147 rfl ⟨Nat.le_of_ble_eq_true rfl, Nat.le_of_ble_eq_true rfl⟩ rfl (rfl) rfl rfl rfl (Nat.le_of_ble_eq_true rfl) ⟨Nat.zero_le _, Nat.zero_le _⟩ ?_
    refine V_aload_n C 0 151 dX0_carryOut_150 rfl rfl ?_
    refine V_iload_n C 3 152 dX0_carryOut_151 rfl rfl ?_
    obtain ⟨r15, k16, h⟩ := bd_some h
    refine V_callP C ml_X0_116 (pre := []) (post := []) (w := bkW g A v) (as := [.int a3]) (rest := [.int r13, .ref A.1]) (c_X0_slotWithId k16) 0 155 dX0_carryOut_152 rfl ⟨Nat.le_of_ble_eq_true rfl, Nat.le_of_ble_eq_true rfl⟩ rfl (rfl) rfl rfl rfl (Nat.le_of_ble_eq_true rfl) ⟨Nat.zero_le _, Nat.zero_le _⟩ ?_
    obtain ⟨r17, k18, h⟩ := bd_some h
    refine V_callS C hBA ml_X0_163 (pre := []) (post := []) (w0 := bkW g A v) (w1 := bkW g A r17.2) (as := [.int r13, .int r15]) (rest := []) (c_X0_swap k18) 0 158 (bkW g A r17.2) dX0_carryOut_155 rfl ⟨Nat.le_of_ble_eq_true rfl, Nat.le_of_ble_eq_true rfl⟩ rfl (rfl) (rfl) rfl rfl rfl rfl (Nat.le_of_ble_eq_true rfl) ⟨Nat.zero_le _, Nat.zero_le _⟩ ?_
    obtain rfl := Option.some.inj h
    exact retI _ _ _ .int rfl (rfl) rfl dX0_carryOut_158
  have h := (if_neg e34).symm.trans h
  by_cases e35 : a1 = (84 : Int32)
  · have h := (if_pos e35).symm.trans h
    refine V_tsw C (x := a1) 179 dX0_carryOut_1 (by first | (rw [e35]; done) | (rw [e35]; rfl)) rfl (by decide) ?_
    refine V_aload_n C 0 180 dX0_carryOut_179 rfl rfl ?_
    refine V_iload_n C 2 181 dX0_carryOut_180 rfl rfl ?_
    refine V_iconst C (1 : Int32) 182 dX0_carryOut_181 rfl rfl ?_
    obtain ⟨r19, k20, h⟩ := bd_some h
    refine V_callS C hBA ml_X0_172 (pre := []) (post := []) (w0 := bkW g A v) (w1 := bkW g A r19.2) (as := [.int a2, .int (1 : Int32)]) (rest := []) (c_X0_turn k20) 0 185 (bkW g A r19.2) dX0_carryOut_182 rfl ⟨Nat.le_of_ble_eq_true rfl, Nat.le_of_ble_eq_true rfl⟩ rfl (rfl) (rfl) rfl rfl rfl rfl (Nat.le_of_ble_eq_true rfl) ⟨Nat.zero_le _, Nat.zero_le _⟩ ?_
    obtain rfl := Option.some.inj h
    exact retI _ _ _ .int rfl (rfl) rfl dX0_carryOut_185
  have h := (if_neg e35).symm.trans h
  by_cases e36 : a1 = (86 : Int32)
  · have h := (if_pos e36).symm.trans h
    refine V_tsw C (x := a1) 165 dX0_carryOut_1 (by first | (rw [e36]; done) | (rw [e36]; rfl)) rfl (by decide) ?_
    refine V_aload_n C 0 166 dX0_carryOut_165 rfl rfl ?_
    refine V_iload_n C 2 167 dX0_carryOut_166 rfl rfl ?_
    obtain ⟨r21, k22, h⟩ := bd_some h
    refine V_callS C hBA ml_X0_169 (pre := []) (post := []) (w0 := bkW g A v) (w1 := bkW g A r21.2) (as := [.int a2]) (rest := []) (c_X0_vote k22) 0 170 (bkW g A r21.2) dX0_carryOut_167 rfl ⟨Nat.le_of_ble_eq_true rfl, Nat.le_of_ble_eq_true rfl⟩ rfl (rfl) (rfl) rfl rfl rfl rfl (Nat.le_of_ble_eq_true rfl) ⟨Nat.zero_le _, Nat.zero_le _⟩ ?_
    refine V_if_eq C 177 173 dX0_carryOut_170 rfl rfl (fun e23 => ?_) (fun e23 => ?_)
    · have h := (if_pos e23).symm.trans h
      refine V_iconst C (0 : Int32) 178 dX0_carryOut_177 rfl rfl ?_
      refine V_lv [0, 1, 2, 3] rfl ?_
      exact B178 _ _ _ _ _ h
    · have h := (if_neg e23).symm.trans h
      refine V_iconst C (1 : Int32) 174 dX0_carryOut_173 rfl rfl ?_
      refine V_goto C 178 dX0_carryOut_174 rfl ?_
      refine V_lv [0, 1, 2, 3] rfl ?_
      exact B178 _ _ _ _ _ h
  have h := (if_neg e36).symm.trans h
  by_cases e37 : a1 = (88 : Int32)
  · have h := (if_pos e37).symm.trans h
    refine V_tsw C (x := a1) 123 dX0_carryOut_1 (by first | (rw [e37]; done) | (rw [e37]; rfl)) rfl (by decide) ?_
    refine V_aload_n C 0 124 dX0_carryOut_123 rfl rfl ?_
    refine V_aload_n C 0 125 dX0_carryOut_124 rfl rfl ?_
    refine V_iload_n C 2 126 dX0_carryOut_125 rfl rfl ?_
    obtain ⟨r24, k25, h⟩ := bd_some h
    refine V_callP C ml_X0_116 (pre := []) (post := []) (w := bkW g A v) (as := [.int a2]) (rest := [.ref A.1]) (c_X0_slotWithId k25) 0 129 dX0_carryOut_126 rfl ⟨Nat.le_of_ble_eq_true rfl, Nat.le_of_ble_eq_true rfl⟩ rfl (rfl) rfl rfl rfl (Nat.le_of_ble_eq_true rfl) ⟨Nat.zero_le _, Nat.zero_le _⟩ ?_
    obtain ⟨r26, k27, h⟩ := bd_some h
    refine V_callS C hBA ml_X0_157 (pre := []) (post := []) (w0 := bkW g A v) (w1 := bkW g A r26.2) (as := [.int r24]) (rest := []) (c_X0_remove k27) 0 132 (bkW g A r26.2) dX0_carryOut_129 rfl ⟨Nat.le_of_ble_eq_true rfl, Nat.le_of_ble_eq_true rfl⟩ rfl (rfl) (rfl) rfl rfl rfl rfl (Nat.le_of_ble_eq_true rfl) ⟨Nat.zero_le _, Nat.zero_le _⟩ ?_
    obtain rfl := Option.some.inj h
    exact retI _ _ _ .int rfl (rfl) rfl dX0_carryOut_132
  have h := (if_neg e37).symm.trans h
  refine V_tsw C (x := a1) 186 dX0_carryOut_1 (tsTgt_def [67, 69, 77, 82, 83, 84, 86, 88] (by decide) (by intro c hc; simp only [List.mem_cons, List.mem_nil_iff, or_false] at hc; rcases hc with rfl | rfl | rfl | rfl | rfl | rfl | rfl | rfl <;> first | exact lv_neT e30 rfl | exact lv_neT e31 rfl | exact lv_neT e32 rfl | exact lv_neT e33 rfl | exact lv_neT e34 rfl | exact lv_neT e35 rfl | exact lv_neT e36 rfl | exact lv_neT e37 rfl)) rfl (by decide) ?_
  refine V_aload_n C 0 187 dX0_carryOut_186 rfl rfl ?_
  refine V_iload_n C 2 188 dX0_carryOut_187 rfl rfl ?_
  refine V_iconst C (0 : Int32) 189 dX0_carryOut_188 rfl rfl ?_
  obtain ⟨r28, k29, h⟩ := bd_some h
  refine V_callS C hBA ml_X0_172 (pre := []) (post := []) (w0 := bkW g A v) (w1 := bkW g A r28.2) (as := [.int a2, .int (0 : Int32)]) (rest := []) (c_X0_turn k29) 0 192 (bkW g A r28.2) dX0_carryOut_189 rfl ⟨Nat.le_of_ble_eq_true rfl, Nat.le_of_ble_eq_true rfl⟩ rfl (rfl) (rfl) rfl rfl rfl rfl (Nat.le_of_ble_eq_true rfl) ⟨Nat.zero_le _, Nat.zero_le _⟩ ?_
  obtain rfl := Option.some.inj h
  exact retI _ _ _ .int rfl (rfl) rfl dX0_carryOut_192
set_option maxHeartbeats 4000000 in
set_option maxRecDepth 100000 in
theorem c_X0_earsAboutToFall {l : Launch} {D : va_G} {g : G0} {A : BkA} {v : BkV} {a1 a2 : Int32} {R : Int32} (h : f_X0_earsAboutToFall v a1 a2 = some R) : CtP l D g yX0_earsAboutToFall cX0_earsAboutToFall 5 (some .int) (rmF 2 45) (bkW g A v) [.ref A.1, .int a1, .int a2] (some (.int R)) := by
  refine CtP.of (by decide) rfl rfl (Nat.le_of_ble_eq_true rfl) ?_
  intro K C el eD ekn retI
  subst el
  subst eD
  have hlt : ∀ i, i < 5 → i < kn K := fun i h => by rw [ekn]; exact h
  have B41 : ∀ (J : Int32 → Int32 → Int32 → Int32 → Option Int32) (hJ : ∀ (x1 : Int32) (x2 : Int32) (x3 : Int32) (x4 : Int32), J x1 x2 x3 x4 = some R → V K 0 0 (bkW g A v) [(0, .ref A.1), (1, .int x1), (2, .int x2), (3, .int x3), (4, .int x4)] [] 5) (x1 : Int32) (x2 : Int32) (x3 : Int32) (x4 : Int32), f_X0_earsAboutToFall_B41 J v x1 x2 x3 x4 = some R → V K 0 0 (bkW g A v) [(0, .ref A.1), (1, .int x1), (2, .int x2), (3, .int x3), (4, .int x4)] [] 41 := by
    intro J hJ x1 x2 x3 x4 h
    rw [f_X0_earsAboutToFall_B41] at h
    refine V_iinc C 4 (x4 + (1 : Int32)) 44 [(4, .int (x4 + (1 : Int32))), (0, .ref A.1), (1, .int x1), (2, .int x2), (3, .int x3)] dX0_earsAboutToFall_41 rfl rfl rfl (hlt 4 (by decide)) rfl ?_
    refine V_goto C 5 dX0_earsAboutToFall_44 rfl ?_
    refine V_lv [1, 2, 3, 4, 0] rfl ?_
    exact hJ _ _ _ _ h
  have L5 : ∀ (n : Nat) (x1 : Int32) (x2 : Int32) (x3 : Int32) (x4 : Int32), f_X0_earsAboutToFall_L5 v n x1 x2 x3 x4 = some R → V K 0 0 (bkW g A v) [(0, .ref A.1), (1, .int x1), (2, .int x2), (3, .int x3), (4, .int x4)] [] 5 := by
    intro n
    induction n with
    | zero =>
      intro x1 x2 x3 x4 h
      rw [f_X0_earsAboutToFall_L5] at h
      cases h
    | succ n ih =>
      intro x1 x2 x3 x4 h
      rw [f_X0_earsAboutToFall_L5] at h
      refine V_iload C 4 7 dX0_earsAboutToFall_5 rfl rfl ?_
      refine V_aload_n C 0 8 dX0_earsAboutToFall_7 rfl rfl ?_
      refine V_get C (v := .int (Bk_marks v)) 0 11 fl_X0_30 dX0_earsAboutToFall_8 rfl rfl rfl ?_
      refine V_icmp_ge C 47 14 dX0_earsAboutToFall_11 rfl rfl (fun e1 => ?_) (fun e1 => ?_)
      · have h := (if_pos e1).symm.trans h
        refine V_iload_n C 3 48 dX0_earsAboutToFall_47 rfl rfl ?_
        obtain rfl := Option.some.inj h
        exact retI _ _ _ .int rfl (rfl) rfl dX0_earsAboutToFall_48
      · have h := (if_neg e1).symm.trans h
        refine V_aload_n C 0 15 dX0_earsAboutToFall_14 rfl rfl ?_
        refine V_iload C 4 17 dX0_earsAboutToFall_15 rfl rfl ?_
        refine V_iload_n C 1 18 dX0_earsAboutToFall_17 rfl rfl ?_
        refine V_iload_n C 2 19 dX0_earsAboutToFall_18 rfl rfl ?_
        obtain ⟨r2, k3, h⟩ := bd_some h
        refine V_callP C ml_X0_197 (pre := []) (post := []) (w := bkW g A v) (as := [.int x4, .int x1, .int x2]) (rest := []) (c_X0_isEarOnTheWay k3) 0 22 dX0_earsAboutToFall_19 rfl ⟨Nat.le_of_ble_eq_true rfl, Nat.le_of_ble_eq_true rfl⟩ rfl (rfl) rfl rfl rfl (Nat.le_of_ble_eq_true rfl) ⟨Nat.zero_le _, Nat.zero_le _⟩ ?_
        refine V_if_eq C 41 25 dX0_earsAboutToFall_22 rfl rfl (fun e4 => ?_) (fun e4 => ?_)
        · have h := (if_pos e4).symm.trans h
          refine V_lv [0, 1, 2, 3, 4] rfl ?_
          exact B41 (f_X0_earsAboutToFall_L5 v n) ih _ _ _ _ h
        · have h := (if_neg e4).symm.trans h
          refine V_aload_n C 0 26 dX0_earsAboutToFall_25 rfl rfl ?_
          refine V_get C (v := .ref A.2.2.2.2.1) 0 29 fl_X0_21 dX0_earsAboutToFall_26 rfl rfl rfl ?_
          refine V_iload C 4 31 dX0_earsAboutToFall_29 rfl rfl ?_
          obtain ⟨g5, h⟩ := gd_some h
          refine V_iald C (f := (Bk_wears v)) (n := 12) 4 32 dX0_earsAboutToFall_31 rfl rfl g5 ?_
          refine V_iconst C (1 : Int32) 33 dX0_earsAboutToFall_32 rfl rfl ?_
          refine V_iadd C 34 dX0_earsAboutToFall_33 rfl ?_
          refine V_iconst C (3 : Int32) 35 dX0_earsAboutToFall_34 rfl rfl ?_
          refine V_icmp_lt C 41 38 dX0_earsAboutToFall_35 rfl rfl (fun e6 => ?_) (fun e6 => ?_)
          · have h := (if_pos e6).symm.trans h
            refine V_lv [0, 1, 2, 3, 4] rfl ?_
            exact B41 (f_X0_earsAboutToFall_L5 v n) ih _ _ _ _ h
          · have h := (if_neg e6).symm.trans h
            refine V_iinc C 3 (x3 + (1 : Int32)) 41 [(3, .int (x3 + (1 : Int32))), (0, .ref A.1), (1, .int x1), (2, .int x2), (4, .int x4)] dX0_earsAboutToFall_38 rfl rfl rfl (hlt 3 (by decide)) rfl ?_
            refine V_lv [1, 2, 3, 0, 4] rfl ?_
            exact B41 (f_X0_earsAboutToFall_L5 v n) ih _ _ _ _ h
  show V K 0 0 _ [(0, .ref A.1), (1, .int a1), (2, .int a2)] [] 0
  unfold f_X0_earsAboutToFall at h
  refine V_iconst C (0 : Int32) 1 dX0_earsAboutToFall_0 rfl rfl ?_
  refine V_istore_n C 2 [(3, .int (0 : Int32)), (0, .ref A.1), (1, .int a1), (2, .int a2)] dX0_earsAboutToFall_1 rfl (hlt 3 (by decide)) rfl ?_
  refine V_iconst C (0 : Int32) 3 dX0_earsAboutToFall_2 rfl rfl ?_
  refine V_istore C 5 [(4, .int (0 : Int32)), (3, .int (0 : Int32)), (0, .ref A.1), (1, .int a1), (2, .int a2)] dX0_earsAboutToFall_3 rfl (hlt 4 (by decide)) rfl ?_
  refine V_lv [2, 3, 4, 1, 0] rfl ?_
  exact L5 100 _ _ _ _ h
set_option maxHeartbeats 4000000 in
set_option maxRecDepth 100000 in
theorem c_X0_copyFrom {l : Launch} {D : va_G} {g : G0} {A : BkA} {A2 : BkA} {v : (BkV × BkV)} {R : (Int32 × (BkV × BkV))} (h : f_X0_copyFrom v  = some R) : CtS l D g yX0_copyFrom cX0_copyFrom 2 none (rmF 1 30) (bkW g A v.1 ++ (bkW g A2 v.2)) [.ref A.1, .ref A2.1] none (bkW g A R.2.1 ++ (bkW g A2 R.2.2)) := by
  refine CtS.of (by decide) (Nat.le_of_ble_eq_true rfl) ?_
  intro K C hBA el eD ekn retI retV
  subst el
  subst eD
  have hlt : ∀ i, i < 2 → i < kn K := fun i h => by rw [ekn]; exact h
  show V K 0 0 _ [(0, .ref A.1), (1, .ref A2.1)] [] 0
  unfold f_X0_copyFrom at h
  refine V_aload_n C 1 1 dX0_copyFrom_0 rfl rfl ?_
  refine V_get C (v := .ref A2.2.1) 7 4 fl_X0_9 dX0_copyFrom_1 rfl rfl rfl ?_
  refine V_iconst C (0 : Int32) 5 dX0_copyFrom_4 rfl rfl ?_
  refine V_aload_n C 0 6 dX0_copyFrom_5 rfl rfl ?_
  refine V_get C (v := .ref A.2.1) 0 9 fl_X0_9 dX0_copyFrom_6 rfl rfl rfl ?_
  refine V_iconst C (0 : Int32) 10 dX0_copyFrom_9 rfl rfl ?_
  refine V_bipush C (12 : Int32) 12 dX0_copyFrom_10 rfl rfl ?_
  refine V_acopy C hBA (f := (Bk_ids v.2)) (h := (Bk_ids v.1)) (N := 12) 8 1 15 (bkW g A ((Bk_ids v.2), (Bk_pages v.1), (Bk_weights v.1), (Bk_wears v.1), (Bk_seats v.1), (Bk_starts v.1), (Bk_marks v.1), (Bk_chapters v.1), (Bk_reader v.1), (Bk_nextId v.1), (Bk_votes v.1), (Bk_carried v.1), (Bk_fallen v.1)) ++ (bkW g A2 v.2)) al_X0_52 dX0_copyFrom_12 rfl rfl rfl (by decide) (by decide) ⟨Nat.le_of_ble_eq_true rfl, by decide⟩ rfl ?_
  refine V_aload_n C 1 16 dX0_copyFrom_15 rfl rfl ?_
  refine V_get C (v := .ref A2.2.2.1) 7 19 fl_X0_15 dX0_copyFrom_16 rfl rfl rfl ?_
  refine V_iconst C (0 : Int32) 20 dX0_copyFrom_19 rfl rfl ?_
  refine V_aload_n C 0 21 dX0_copyFrom_20 rfl rfl ?_
  refine V_get C (v := .ref A.2.2.1) 0 24 fl_X0_15 dX0_copyFrom_21 rfl rfl rfl ?_
  refine V_iconst C (0 : Int32) 25 dX0_copyFrom_24 rfl rfl ?_
  refine V_bipush C (12 : Int32) 27 dX0_copyFrom_25 rfl rfl ?_
  refine V_acopy C hBA (f := (Bk_pages v.2)) (h := (Bk_pages v.1)) (N := 12) 9 2 30 (bkW g A ((Bk_ids v.2), (Bk_pages v.2), (Bk_weights v.1), (Bk_wears v.1), (Bk_seats v.1), (Bk_starts v.1), (Bk_marks v.1), (Bk_chapters v.1), (Bk_reader v.1), (Bk_nextId v.1), (Bk_votes v.1), (Bk_carried v.1), (Bk_fallen v.1)) ++ (bkW g A2 v.2)) al_X0_52 dX0_copyFrom_27 rfl rfl rfl (by decide) (by decide) ⟨Nat.le_of_ble_eq_true rfl, by decide⟩ rfl ?_
  refine V_aload_n C 1 31 dX0_copyFrom_30 rfl rfl ?_
  refine V_get C (v := .ref A2.2.2.2.1) 7 34 fl_X0_18 dX0_copyFrom_31 rfl rfl rfl ?_
  refine V_iconst C (0 : Int32) 35 dX0_copyFrom_34 rfl rfl ?_
  refine V_aload_n C 0 36 dX0_copyFrom_35 rfl rfl ?_
  refine V_get C (v := .ref A.2.2.2.1) 0 39 fl_X0_18 dX0_copyFrom_36 rfl rfl rfl ?_
  refine V_iconst C (0 : Int32) 40 dX0_copyFrom_39 rfl rfl ?_
  refine V_bipush C (12 : Int32) 42 dX0_copyFrom_40 rfl rfl ?_
  refine V_acopy C hBA (f := (Bk_weights v.2)) (h := (Bk_weights v.1)) (N := 12) 10 3 45 (bkW g A ((Bk_ids v.2), (Bk_pages v.2), (Bk_weights v.2), (Bk_wears v.1), (Bk_seats v.1), (Bk_starts v.1), (Bk_marks v.1), (Bk_chapters v.1), (Bk_reader v.1), (Bk_nextId v.1), (Bk_votes v.1), (Bk_carried v.1), (Bk_fallen v.1)) ++ (bkW g A2 v.2)) al_X0_52 dX0_copyFrom_42 rfl rfl rfl (by decide) (by decide) ⟨Nat.le_of_ble_eq_true rfl, by decide⟩ rfl ?_
  refine V_aload_n C 1 46 dX0_copyFrom_45 rfl rfl ?_
  refine V_get C (v := .ref A2.2.2.2.2.1) 7 49 fl_X0_21 dX0_copyFrom_46 rfl rfl rfl ?_
  refine V_iconst C (0 : Int32) 50 dX0_copyFrom_49 rfl rfl ?_
  refine V_aload_n C 0 51 dX0_copyFrom_50 rfl rfl ?_
  refine V_get C (v := .ref A.2.2.2.2.1) 0 54 fl_X0_21 dX0_copyFrom_51 rfl rfl rfl ?_
  refine V_iconst C (0 : Int32) 55 dX0_copyFrom_54 rfl rfl ?_
  refine V_bipush C (12 : Int32) 57 dX0_copyFrom_55 rfl rfl ?_
  refine V_acopy C hBA (f := (Bk_wears v.2)) (h := (Bk_wears v.1)) (N := 12) 11 4 60 (bkW g A ((Bk_ids v.2), (Bk_pages v.2), (Bk_weights v.2), (Bk_wears v.2), (Bk_seats v.1), (Bk_starts v.1), (Bk_marks v.1), (Bk_chapters v.1), (Bk_reader v.1), (Bk_nextId v.1), (Bk_votes v.1), (Bk_carried v.1), (Bk_fallen v.1)) ++ (bkW g A2 v.2)) al_X0_52 dX0_copyFrom_57 rfl rfl rfl (by decide) (by decide) ⟨Nat.le_of_ble_eq_true rfl, by decide⟩ rfl ?_
  refine V_aload_n C 1 61 dX0_copyFrom_60 rfl rfl ?_
  refine V_get C (v := .ref A2.2.2.2.2.2.1) 7 64 fl_X0_24 dX0_copyFrom_61 rfl rfl rfl ?_
  refine V_iconst C (0 : Int32) 65 dX0_copyFrom_64 rfl rfl ?_
  refine V_aload_n C 0 66 dX0_copyFrom_65 rfl rfl ?_
  refine V_get C (v := .ref A.2.2.2.2.2.1) 0 69 fl_X0_24 dX0_copyFrom_66 rfl rfl rfl ?_
  refine V_iconst C (0 : Int32) 70 dX0_copyFrom_69 rfl rfl ?_
  refine V_bipush C (12 : Int32) 72 dX0_copyFrom_70 rfl rfl ?_
  refine V_acopy C hBA (f := (Bk_seats v.2)) (h := (Bk_seats v.1)) (N := 12) 12 5 75 (bkW g A ((Bk_ids v.2), (Bk_pages v.2), (Bk_weights v.2), (Bk_wears v.2), (Bk_seats v.2), (Bk_starts v.1), (Bk_marks v.1), (Bk_chapters v.1), (Bk_reader v.1), (Bk_nextId v.1), (Bk_votes v.1), (Bk_carried v.1), (Bk_fallen v.1)) ++ (bkW g A2 v.2)) al_X0_52 dX0_copyFrom_72 rfl rfl rfl (by decide) (by decide) ⟨Nat.le_of_ble_eq_true rfl, by decide⟩ rfl ?_
  refine V_aload_n C 1 76 dX0_copyFrom_75 rfl rfl ?_
  refine V_get C (v := .ref A2.2.2.2.2.2.2) 7 79 fl_X0_27 dX0_copyFrom_76 rfl rfl rfl ?_
  refine V_iconst C (0 : Int32) 80 dX0_copyFrom_79 rfl rfl ?_
  refine V_aload_n C 0 81 dX0_copyFrom_80 rfl rfl ?_
  refine V_get C (v := .ref A.2.2.2.2.2.2) 0 84 fl_X0_27 dX0_copyFrom_81 rfl rfl rfl ?_
  refine V_iconst C (0 : Int32) 85 dX0_copyFrom_84 rfl rfl ?_
  refine V_bipush C (8 : Int32) 87 dX0_copyFrom_85 rfl rfl ?_
  refine V_acopy C hBA (f := (Bk_starts v.2)) (h := (Bk_starts v.1)) (N := 8) 13 6 90 (bkW g A ((Bk_ids v.2), (Bk_pages v.2), (Bk_weights v.2), (Bk_wears v.2), (Bk_seats v.2), (Bk_starts v.2), (Bk_marks v.1), (Bk_chapters v.1), (Bk_reader v.1), (Bk_nextId v.1), (Bk_votes v.1), (Bk_carried v.1), (Bk_fallen v.1)) ++ (bkW g A2 v.2)) al_X0_52 dX0_copyFrom_87 rfl rfl rfl (by decide) (by decide) ⟨Nat.le_of_ble_eq_true rfl, by decide⟩ rfl ?_
  refine V_aload_n C 0 91 dX0_copyFrom_90 rfl rfl ?_
  refine V_aload_n C 1 92 dX0_copyFrom_91 rfl rfl ?_
  refine V_get C (v := .int (Bk_marks v.2)) 7 95 fl_X0_30 dX0_copyFrom_92 rfl rfl rfl ?_
  refine V_put C hBA 0 98 (bkW g A ((Bk_ids v.2), (Bk_pages v.2), (Bk_weights v.2), (Bk_wears v.2), (Bk_seats v.2), (Bk_starts v.2), (Bk_marks v.2), (Bk_chapters v.1), (Bk_reader v.1), (Bk_nextId v.1), (Bk_votes v.1), (Bk_carried v.1), (Bk_fallen v.1)) ++ (bkW g A2 v.2)) fl_X0_30 fp_X0_6 dX0_copyFrom_95 rfl rfl (Nat.le_of_ble_eq_true rfl) rfl rfl rfl ?_
  refine V_aload_n C 0 99 dX0_copyFrom_98 rfl rfl ?_
  refine V_aload_n C 1 100 dX0_copyFrom_99 rfl rfl ?_
  refine V_get C (v := .int (Bk_chapters v.2)) 7 103 fl_X0_34 dX0_copyFrom_100 rfl rfl rfl ?_
  refine V_put C hBA 0 106 (bkW g A ((Bk_ids v.2), (Bk_pages v.2), (Bk_weights v.2), (Bk_wears v.2), (Bk_seats v.2), (Bk_starts v.2), (Bk_marks v.2), (Bk_chapters v.2), (Bk_reader v.1), (Bk_nextId v.1), (Bk_votes v.1), (Bk_carried v.1), (Bk_fallen v.1)) ++ (bkW g A2 v.2)) fl_X0_34 fp_X0_7 dX0_copyFrom_103 rfl rfl (Nat.le_of_ble_eq_true rfl) rfl rfl rfl ?_
  refine V_aload_n C 0 107 dX0_copyFrom_106 rfl rfl ?_
  refine V_aload_n C 1 108 dX0_copyFrom_107 rfl rfl ?_
  refine V_get C (v := .int (Bk_reader v.2)) 7 111 fl_X0_37 dX0_copyFrom_108 rfl rfl rfl ?_
  refine V_put C hBA 0 114 (bkW g A ((Bk_ids v.2), (Bk_pages v.2), (Bk_weights v.2), (Bk_wears v.2), (Bk_seats v.2), (Bk_starts v.2), (Bk_marks v.2), (Bk_chapters v.2), (Bk_reader v.2), (Bk_nextId v.1), (Bk_votes v.1), (Bk_carried v.1), (Bk_fallen v.1)) ++ (bkW g A2 v.2)) fl_X0_37 fp_X0_8 dX0_copyFrom_111 rfl rfl (Nat.le_of_ble_eq_true rfl) rfl rfl rfl ?_
  refine V_aload_n C 0 115 dX0_copyFrom_114 rfl rfl ?_
  refine V_aload_n C 1 116 dX0_copyFrom_115 rfl rfl ?_
  refine V_get C (v := .int (Bk_nextId v.2)) 7 119 fl_X0_40 dX0_copyFrom_116 rfl rfl rfl ?_
  refine V_put C hBA 0 122 (bkW g A ((Bk_ids v.2), (Bk_pages v.2), (Bk_weights v.2), (Bk_wears v.2), (Bk_seats v.2), (Bk_starts v.2), (Bk_marks v.2), (Bk_chapters v.2), (Bk_reader v.2), (Bk_nextId v.2), (Bk_votes v.1), (Bk_carried v.1), (Bk_fallen v.1)) ++ (bkW g A2 v.2)) fl_X0_40 fp_X0_9 dX0_copyFrom_119 rfl rfl (Nat.le_of_ble_eq_true rfl) rfl rfl rfl ?_
  refine V_aload_n C 0 123 dX0_copyFrom_122 rfl rfl ?_
  refine V_aload_n C 1 124 dX0_copyFrom_123 rfl rfl ?_
  refine V_get C (v := .int (Bk_votes v.2)) 7 127 fl_X0_43 dX0_copyFrom_124 rfl rfl rfl ?_
  refine V_put C hBA 0 130 (bkW g A ((Bk_ids v.2), (Bk_pages v.2), (Bk_weights v.2), (Bk_wears v.2), (Bk_seats v.2), (Bk_starts v.2), (Bk_marks v.2), (Bk_chapters v.2), (Bk_reader v.2), (Bk_nextId v.2), (Bk_votes v.2), (Bk_carried v.1), (Bk_fallen v.1)) ++ (bkW g A2 v.2)) fl_X0_43 fp_X0_10 dX0_copyFrom_127 rfl rfl (Nat.le_of_ble_eq_true rfl) rfl rfl rfl ?_
  refine V_aload_n C 0 131 dX0_copyFrom_130 rfl rfl ?_
  refine V_aload_n C 1 132 dX0_copyFrom_131 rfl rfl ?_
  refine V_get C (v := .int (Bk_carried v.2)) 7 135 fl_X0_46 dX0_copyFrom_132 rfl rfl rfl ?_
  refine V_put C hBA 0 138 (bkW g A ((Bk_ids v.2), (Bk_pages v.2), (Bk_weights v.2), (Bk_wears v.2), (Bk_seats v.2), (Bk_starts v.2), (Bk_marks v.2), (Bk_chapters v.2), (Bk_reader v.2), (Bk_nextId v.2), (Bk_votes v.2), (Bk_carried v.2), (Bk_fallen v.1)) ++ (bkW g A2 v.2)) fl_X0_46 fp_X0_11 dX0_copyFrom_135 rfl rfl (Nat.le_of_ble_eq_true rfl) rfl rfl rfl ?_
  refine V_aload_n C 0 139 dX0_copyFrom_138 rfl rfl ?_
  refine V_aload_n C 1 140 dX0_copyFrom_139 rfl rfl ?_
  refine V_get C (v := .int (Bk_fallen v.2)) 7 143 fl_X0_49 dX0_copyFrom_140 rfl rfl rfl ?_
  refine V_put C hBA 0 146 (bkW g A ((Bk_ids v.2), (Bk_pages v.2), (Bk_weights v.2), (Bk_wears v.2), (Bk_seats v.2), (Bk_starts v.2), (Bk_marks v.2), (Bk_chapters v.2), (Bk_reader v.2), (Bk_nextId v.2), (Bk_votes v.2), (Bk_carried v.2), (Bk_fallen v.2)) ++ (bkW g A2 v.2)) fl_X0_49 fp_X0_12 dX0_copyFrom_143 rfl rfl (Nat.le_of_ble_eq_true rfl) rfl rfl rfl ?_
  obtain rfl := Option.some.inj h
  exact retV _ _ rfl rfl dX0_copyFrom_146
