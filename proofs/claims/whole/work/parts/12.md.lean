set_option maxHeartbeats 4000000 in
set_option maxRecDepth 100000 in
theorem c_X4_thrown {l : Launch} {D : va_G} {g : G0} {A : MdA} {v : MdV} {R : Int32} (h : f_X4_thrown v  = some R) : CtP l D g yX4_thrown cX4_thrown 1 (some .int) (rmF 0 0) (mdW g A v) [.ref A.1] (some (.int R)) := by
  refine CtP.of (by decide) rfl rfl (Nat.le_of_ble_eq_true rfl) ?_
  intro K C el eD ekn retI
  subst el
  subst eD
  have hlt : ∀ i, i < 1 → i < kn K := fun i h => by rw [ekn]; exact h
  show V K 0 0 _ [(0, .ref A.1)] [] 0
  unfold f_X4_thrown at h
  refine V_aload_n C 0 1 dX4_thrown_0 rfl rfl ?_
  refine V_get C (v := .int (Md_thrown v)) 0 4 fl_X4_27 dX4_thrown_1 rfl rfl rfl ?_
  obtain rfl := Option.some.inj h
  exact retI _ _ _ .int rfl (rfl) rfl dX4_thrown_4
set_option maxHeartbeats 4000000 in
set_option maxRecDepth 100000 in
theorem c_X4_in {l : Launch} {D : va_G} {g : G0}  {a1 a2 a3 : Int32} {R : Int32} (h : f_X4_in a1 a2 a3 = some R) : CtP l D g yX4_in cX4_in 3 (some .boolean) (rmF 0 0) ([]) [.int a1, .int a2, .int a3] (some (.int R)) := by
  refine CtP.of (by decide) rfl rfl (Nat.le_of_ble_eq_true rfl) ?_
  intro K C el eD ekn retI
  subst el
  subst eD
  have hlt : ∀ i, i < 3 → i < kn K := fun i h => by rw [ekn]; exact h
  have B15 : ∀ (x0 : Int32) (x1 : Int32) (x2 : Int32) (s0 : Int32), f_X4_in_B15 x0 x1 x2 s0 = some R → V K 0 0 ([]) [(0, .int x0), (1, .int x1), (2, .int x2)] [.int s0] 15 := by
    intro x0 x1 x2 s0 h
    rw [f_X4_in_B15] at h
    obtain ⟨g1, h⟩ := gd_some h
    obtain rfl := Option.some.inj h
    exact retI _ _ _ .boolean rfl (isz_t g1) rfl dX4_in_15
  have B14 : ∀ (x0 : Int32) (x1 : Int32) (x2 : Int32), f_X4_in_B14 x0 x1 x2 = some R → V K 0 0 ([]) [(0, .int x0), (1, .int x1), (2, .int x2)] [] 14 := by
    intro x0 x1 x2 h
    rw [f_X4_in_B14] at h
    refine V_iconst C (0 : Int32) 15 dX4_in_14 rfl rfl ?_
    refine V_lv [0, 1, 2] rfl ?_
    exact B15 _ _ _ _ h
  show V K 0 0 _ [(0, .int a1), (1, .int a2), (2, .int a3)] [] 0
  unfold f_X4_in at h
  refine V_iload_n C 0 1 dX4_in_0 rfl rfl ?_
  refine V_iload_n C 1 2 dX4_in_1 rfl rfl ?_
  refine V_icmp_lt C 14 5 dX4_in_2 rfl rfl (fun e2 => ?_) (fun e2 => ?_)
  · have h := (if_pos e2).symm.trans h
    refine V_lv [0, 1, 2] rfl ?_
    exact B14 _ _ _ h
  · have h := (if_neg e2).symm.trans h
    refine V_iload_n C 0 6 dX4_in_5 rfl rfl ?_
    refine V_iload_n C 2 7 dX4_in_6 rfl rfl ?_
    refine V_icmp_gt C 14 10 dX4_in_7 rfl rfl (fun e3 => ?_) (fun e3 => ?_)
    · have h := (if_pos e3).symm.trans h
      refine V_lv [0, 1, 2] rfl ?_
      exact B14 _ _ _ h
    · have h := (if_neg e3).symm.trans h
      refine V_iconst C (1 : Int32) 11 dX4_in_10 rfl rfl ?_
      refine V_goto C 15 dX4_in_11 rfl ?_
      refine V_lv [0, 1, 2] rfl ?_
      exact B15 _ _ _ _ h
set_option maxHeartbeats 4000000 in
set_option maxRecDepth 100000 in
theorem c_X4_copies {l : Launch} {D : va_G} {g : G0} {A : MdA} {v : MdV} {a1 a2 : Int32} {R : (Int32 × MdV)} (h : f_X4_copies v a1 a2 = some R) : CtS l D g yX4_copies cX4_copies 4 none (rmF 0 0) (mdW g A v) [.ref A.1, .int a1, .int a2] none (mdW g A R.2) := by
  refine CtS.of (by decide) (Nat.le_of_ble_eq_true rfl) ?_
  intro K C hBA el eD ekn retI retV
  subst el
  subst eD
  have hlt : ∀ i, i < 4 → i < kn K := fun i h => by rw [ekn]; exact h
  have L2 : ∀ (n : Nat) (x1 : Int32) (x2 : Int32) (x3 : Int32) (v : MdV), f_X4_copies_L2 n x1 x2 x3 v = some R → V K 0 0 (mdW g A v) [(0, .ref A.1), (1, .int x1), (2, .int x2), (3, .int x3)] [] 2 := by
    intro n
    induction n with
    | zero =>
      intro x1 x2 x3 v h
      rw [f_X4_copies_L2] at h
      cases h
    | succ n ih =>
      intro x1 x2 x3 v h
      rw [f_X4_copies_L2] at h
      refine V_iload_n C 3 3 dX4_copies_2 rfl rfl ?_
      refine V_bipush C (75 : Int32) 5 dX4_copies_3 rfl rfl ?_
      refine V_icmp_ge C 36 8 dX4_copies_5 rfl rfl (fun e1 => ?_) (fun e1 => ?_)
      · have h := (if_pos e1).symm.trans h
        obtain rfl := Option.some.inj h
        exact retV _ _ rfl rfl dX4_copies_36
      · have h := (if_neg e1).symm.trans h
        refine V_aload_n C 0 9 dX4_copies_8 rfl rfl ?_
        refine V_get C (v := .ref A.2.1) 0 12 fl_X4_9 dX4_copies_9 rfl rfl rfl ?_
        refine V_bipush C (75 : Int32) 14 dX4_copies_12 rfl rfl ?_
        refine V_iload_n C 2 15 dX4_copies_14 rfl rfl ?_
        refine V_imul C 16 dX4_copies_15 rfl ?_
        refine V_iload_n C 3 17 dX4_copies_16 rfl rfl ?_
        refine V_iadd C 18 dX4_copies_17 rfl ?_
        refine V_aload_n C 0 19 dX4_copies_18 rfl rfl ?_
        refine V_get C (v := .ref A.2.1) 0 22 fl_X4_9 dX4_copies_19 rfl rfl rfl ?_
        refine V_bipush C (75 : Int32) 24 dX4_copies_22 rfl rfl ?_
        refine V_iload_n C 1 25 dX4_copies_24 rfl rfl ?_
        refine V_imul C 26 dX4_copies_25 rfl ?_
        refine V_iload_n C 3 27 dX4_copies_26 rfl rfl ?_
        refine V_iadd C 28 dX4_copies_27 rfl ?_
        obtain ⟨g2, h⟩ := gd_some h
        refine V_iald C (f := (Md_all v)) (n := 825) 1 29 dX4_copies_28 rfl rfl g2 ?_
        obtain ⟨g3, h⟩ := gd_some h
        refine V_iast C hBA (f := (Md_all v)) (n := 825) 1 30 (mdW g A ((upd (Md_all v) (cl (((75 : Int32) * x2) + x3)) ((Md_all v) (cl (((75 : Int32) * x1) + x3)))), (Md_output v), (Md_input v), (Md_commands v), (Md_thrown v), (Md_changes v), (Md_isSaved v), (Md_result v), (Md_why v), (Md_detail v), (Md_cause v), (Md_outputSize v), (Md_typed v), (Md_here v), (Md_error v), (Md_errorAt v), (Md_commandMany v))) dX4_copies_29 rfl rfl g3 rfl ?_
        refine V_iinc C 3 (x3 + (1 : Int32)) 33 [(3, .int (x3 + (1 : Int32))), (0, .ref A.1), (1, .int x1), (2, .int x2)] dX4_copies_30 rfl rfl rfl (hlt 3 (by decide)) rfl ?_
        refine V_goto C 2 dX4_copies_33 rfl ?_
        refine V_lv [1, 2, 3, 0] rfl ?_
        exact ih _ _ _ _ h
  show V K 0 0 _ [(0, .ref A.1), (1, .int a1), (2, .int a2)] [] 0
  unfold f_X4_copies at h
  refine V_iconst C (0 : Int32) 1 dX4_copies_0 rfl rfl ?_
  refine V_istore_n C 2 [(3, .int (0 : Int32)), (0, .ref A.1), (1, .int a1), (2, .int a2)] dX4_copies_1 rfl (hlt 3 (by decide)) rfl ?_
  refine V_lv [1, 2, 3, 0] rfl ?_
  exact L2 100 _ _ _ _ h
set_option maxHeartbeats 4000000 in
set_option maxRecDepth 100000 in
theorem c_X4_begins {l : Launch} {D : va_G} {g : G0} {A : MdA} {v : MdV} {R : (Int32 × MdV)} (h : f_X4_begins v  = some R) : CtS l D g yX4_begins cX4_begins 1 none (rmF 1 23) (mdW g A v) [.ref A.1] none (mdW g A R.2) := by
  refine CtS.of (by decide) (Nat.le_of_ble_eq_true rfl) ?_
  intro K C hBA el eD ekn retI retV
  subst el
  subst eD
  have hlt : ∀ i, i < 1 → i < kn K := fun i h => by rw [ekn]; exact h
  show V K 0 0 _ [(0, .ref A.1)] [] 0
  unfold f_X4_begins at h
  refine V_aload_n C 0 1 dX4_begins_0 rfl rfl ?_
  refine V_iconst C (0 : Int32) 2 dX4_begins_1 rfl rfl ?_
  refine V_bipush C (10 : Int32) 4 dX4_begins_2 rfl rfl ?_
  obtain ⟨r1, k2, h⟩ := bd_some h
  refine V_callS C hBA ml_X4_30 (pre := []) (post := []) (w0 := mdW g A v) (w1 := mdW g A r1.2) (as := [.int (0 : Int32), .int (10 : Int32)]) (rest := []) (c_X4_copies k2) 0 7 (mdW g A r1.2) dX4_begins_4 rfl ⟨Nat.le_of_ble_eq_true rfl, Nat.le_of_ble_eq_true rfl⟩ rfl (rfl) (rfl) rfl rfl rfl rfl (Nat.le_of_ble_eq_true rfl) ⟨Nat.zero_le _, Nat.zero_le _⟩ ?_
  obtain rfl := Option.some.inj h
  exact retV _ _ rfl rfl dX4_begins_7
set_option maxHeartbeats 4000000 in
set_option maxRecDepth 100000 in
theorem c_X4_ends {l : Launch} {D : va_G} {g : G0} {A : MdA} {v : MdV} {a1 a2 a3 a4 : Int32} {R : (Int32 × MdV)} (h : f_X4_ends v a1 a2 a3 a4 = some R) : CtS l D g yX4_ends cX4_ends 6 (some .int) (rmF 1 23) (mdW g A v) [.ref A.1, .int a1, .int a2, .int a3, .int a4] (some (.int R.1)) (mdW g A R.2) := by
  refine CtS.of (by decide) (Nat.le_of_ble_eq_true rfl) ?_
  intro K C hBA el eD ekn retI retV
  subst el
  subst eD
  have hlt : ∀ i, i < 6 → i < kn K := fun i h => by rw [ekn]; exact h
  have B94 : ∀ (x1 : Int32) (x2 : Int32) (x3 : Int32) (x4 : Int32) (v : MdV), f_X4_ends_B94 x1 x2 x3 x4 v = some R → V K 0 0 (mdW g A v) [(0, .ref A.1), (1, .int x1), (2, .int x2), (3, .int x3), (4, .int x4)] [] 94 := by
    intro x1 x2 x3 x4 v h
    rw [f_X4_ends_B94] at h
    refine V_aload_n C 0 95 dX4_ends_94 rfl rfl ?_
    refine V_dup C 96 dX4_ends_95 rfl rfl ?_
    refine V_get C (v := .int (Md_changes v)) 0 99 fl_X4_34 dX4_ends_96 rfl rfl rfl ?_
    refine V_iconst C (1 : Int32) 100 dX4_ends_99 rfl rfl ?_
    refine V_iadd C 101 dX4_ends_100 rfl ?_
    refine V_put C hBA 0 104 (mdW g A ((Md_all v), (Md_output v), (Md_input v), (Md_commands v), (Md_thrown v), ((Md_changes v) + (1 : Int32)), (Md_isSaved v), (Md_result v), (Md_why v), (Md_detail v), (Md_cause v), (Md_outputSize v), (Md_typed v), (Md_here v), (Md_error v), (Md_errorAt v), (Md_commandMany v))) fl_X4_34 fp_X4_2 dX4_ends_101 rfl rfl (Nat.le_of_ble_eq_true rfl) rfl rfl rfl ?_
    refine V_aload_n C 0 105 dX4_ends_104 rfl rfl ?_
    refine V_bipush C (10 : Int32) 107 dX4_ends_105 rfl rfl ?_
    refine V_aload_n C 0 108 dX4_ends_107 rfl rfl ?_
    refine V_get C (v := .int ((Md_changes v) + (1 : Int32))) 0 111 fl_X4_34 dX4_ends_108 rfl rfl rfl ?_
    obtain ⟨r1, k2, h⟩ := bd_some h
    refine V_callS C hBA ml_X4_30 (pre := []) (post := []) (w0 := mdW g A ((Md_all v), (Md_output v), (Md_input v), (Md_commands v), (Md_thrown v), ((Md_changes v) + (1 : Int32)), (Md_isSaved v), (Md_result v), (Md_why v), (Md_detail v), (Md_cause v), (Md_outputSize v), (Md_typed v), (Md_here v), (Md_error v), (Md_errorAt v), (Md_commandMany v))) (w1 := mdW g A r1.2) (as := [.int (10 : Int32), .int ((Md_changes v) + (1 : Int32))]) (rest := []) (c_X4_copies k2) 0 114 (mdW g A r1.2) dX4_ends_111 rfl ⟨Nat.le_of_ble_eq_true rfl, Nat.le_of_ble_eq_true rfl⟩ rfl (rfl) (rfl) rfl rfl rfl rfl (Nat.le_of_ble_eq_true rfl) ⟨Nat.zero_le _, Nat.zero_le _⟩ ?_
    refine V_aload_n C 0 115 dX4_ends_114 rfl rfl ?_
    refine V_get C (v := .int (Md_result r1.2)) 0 118 fl_X4_37 dX4_ends_115 rfl rfl rfl ?_
    obtain rfl := Option.some.inj h
    exact retI _ _ _ .int rfl (rfl) rfl dX4_ends_118
  have L61 : ∀ (n : Nat) (x1 : Int32) (x2 : Int32) (x3 : Int32) (x4 : Int32) (x5 : Int32) (v : MdV), f_X4_ends_L61 n x1 x2 x3 x4 x5 v = some R → V K 0 0 (mdW g A v) [(0, .ref A.1), (1, .int x1), (2, .int x2), (3, .int x3), (4, .int x4), (5, .int x5)] [] 61 := by
    intro n
    induction n with
    | zero =>
      intro x1 x2 x3 x4 x5 v h
      rw [f_X4_ends_L61] at h
      cases h
    | succ n ih =>
      intro x1 x2 x3 x4 x5 v h
      rw [f_X4_ends_L61] at h
      refine V_iload C 5 63 dX4_ends_61 rfl rfl ?_
      refine V_bipush C (8 : Int32) 65 dX4_ends_63 rfl rfl ?_
      refine V_icmp_ge C 84 68 dX4_ends_65 rfl rfl (fun e3 => ?_) (fun e3 => ?_)
      · have h := (if_pos e3).symm.trans h
        refine V_aload_n C 0 85 dX4_ends_84 rfl rfl ?_
        refine V_dup C 86 dX4_ends_85 rfl rfl ?_
        refine V_get C (v := .int (Md_changes v)) 0 89 fl_X4_34 dX4_ends_86 rfl rfl rfl ?_
        refine V_iconst C (1 : Int32) 90 dX4_ends_89 rfl rfl ?_
        refine V_isub C 91 dX4_ends_90 rfl ?_
        refine V_put C hBA 0 94 (mdW g A ((Md_all v), (Md_output v), (Md_input v), (Md_commands v), (Md_thrown v), ((Md_changes v) - (1 : Int32)), (Md_isSaved v), (Md_result v), (Md_why v), (Md_detail v), (Md_cause v), (Md_outputSize v), (Md_typed v), (Md_here v), (Md_error v), (Md_errorAt v), (Md_commandMany v))) fl_X4_34 fp_X4_2 dX4_ends_91 rfl rfl (Nat.le_of_ble_eq_true rfl) rfl rfl rfl ?_
        refine V_lv [0, 1, 2, 3, 4] rfl ?_
        exact B94 _ _ _ _ _ h
      · have h := (if_neg e3).symm.trans h
        refine V_aload_n C 0 69 dX4_ends_68 rfl rfl ?_
        refine V_iload C 5 71 dX4_ends_69 rfl rfl ?_
        refine V_iconst C (1 : Int32) 72 dX4_ends_71 rfl rfl ?_
        refine V_iadd C 73 dX4_ends_72 rfl ?_
        refine V_iload C 5 75 dX4_ends_73 rfl rfl ?_
        obtain ⟨r4, k5, h⟩ := bd_some h
        refine V_callS C hBA ml_X4_30 (pre := []) (post := []) (w0 := mdW g A v) (w1 := mdW g A r4.2) (as := [.int (x5 + (1 : Int32)), .int x5]) (rest := []) (c_X4_copies k5) 0 78 (mdW g A r4.2) dX4_ends_75 rfl ⟨Nat.le_of_ble_eq_true rfl, Nat.le_of_ble_eq_true rfl⟩ rfl (rfl) (rfl) rfl rfl rfl rfl (Nat.le_of_ble_eq_true rfl) ⟨Nat.zero_le _, Nat.zero_le _⟩ ?_
        refine V_iinc C 5 (x5 + (1 : Int32)) 81 [(5, .int (x5 + (1 : Int32))), (0, .ref A.1), (1, .int x1), (2, .int x2), (3, .int x3), (4, .int x4)] dX4_ends_78 rfl rfl rfl (hlt 5 (by decide)) rfl ?_
        refine V_goto C 61 dX4_ends_81 rfl ?_
        refine V_lv [1, 2, 3, 4, 5, 0] rfl ?_
        exact ih _ _ _ _ _ _ h
  have B30 : ∀ (x1 : Int32) (x2 : Int32) (x3 : Int32) (x4 : Int32) (s0 : Int32) (v : MdV), f_X4_ends_B30 x1 x2 x3 x4 s0 v = some R → V K 0 0 (mdW g A v) [(0, .ref A.1), (1, .int x1), (2, .int x2), (3, .int x3), (4, .int x4)] [.int s0, .ref A.1] 30 := by
    intro x1 x2 x3 x4 s0 v h
    rw [f_X4_ends_B30] at h
    refine V_put C hBA 0 33 (mdW g A ((Md_all v), (Md_output v), (Md_input v), (Md_commands v), s0, (Md_changes v), (Md_isSaved v), (Md_result v), (Md_why v), (Md_detail v), (Md_cause v), (Md_outputSize v), (Md_typed v), (Md_here v), (Md_error v), (Md_errorAt v), (Md_commandMany v))) fl_X4_27 fp_X4_0 dX4_ends_30 rfl rfl (Nat.le_of_ble_eq_true rfl) rfl rfl rfl ?_
    refine V_aload_n C 0 34 dX4_ends_33 rfl rfl ?_
    refine V_get C (v := .int s0) 0 37 fl_X4_27 dX4_ends_34 rfl rfl rfl ?_
    refine V_if_eq C 49 40 dX4_ends_37 rfl rfl (fun e6 => ?_) (fun e6 => ?_)
    · have h := (if_pos e6).symm.trans h
      refine V_aload_n C 0 50 dX4_ends_49 rfl rfl ?_
      refine V_get C (v := .int (Md_changes v)) 0 53 fl_X4_34 dX4_ends_50 rfl rfl rfl ?_
      refine V_bipush C (8 : Int32) 55 dX4_ends_53 rfl rfl ?_
      refine V_icmp_ne C 94 58 dX4_ends_55 rfl rfl (fun e7 => ?_) (fun e7 => ?_)
      · have h := (if_neg e7).symm.trans h
        refine V_lv [0, 1, 2, 3, 4] rfl ?_
        exact B94 _ _ _ _ _ h
      · have h := (if_pos e7).symm.trans h
        refine V_iconst C (1 : Int32) 59 dX4_ends_58 rfl rfl ?_
        refine V_istore C 61 [(5, .int (1 : Int32)), (0, .ref A.1), (1, .int x1), (2, .int x2), (3, .int x3), (4, .int x4)] dX4_ends_59 rfl (hlt 5 (by decide)) rfl ?_
        refine V_lv [1, 2, 3, 4, 5, 0] rfl ?_
        exact L61 100 _ _ _ _ _ _ h
    · have h := (if_neg e6).symm.trans h
      refine V_aload_n C 0 41 dX4_ends_40 rfl rfl ?_
      refine V_bipush C (10 : Int32) 43 dX4_ends_41 rfl rfl ?_
      refine V_iconst C (0 : Int32) 44 dX4_ends_43 rfl rfl ?_
      obtain ⟨r8, k9, h⟩ := bd_some h
      refine V_callS C hBA ml_X4_30 (pre := []) (post := []) (w0 := mdW g A ((Md_all v), (Md_output v), (Md_input v), (Md_commands v), s0, (Md_changes v), (Md_isSaved v), (Md_result v), (Md_why v), (Md_detail v), (Md_cause v), (Md_outputSize v), (Md_typed v), (Md_here v), (Md_error v), (Md_errorAt v), (Md_commandMany v))) (w1 := mdW g A r8.2) (as := [.int (10 : Int32), .int (0 : Int32)]) (rest := []) (c_X4_copies k9) 0 47 (mdW g A r8.2) dX4_ends_44 rfl ⟨Nat.le_of_ble_eq_true rfl, Nat.le_of_ble_eq_true rfl⟩ rfl (rfl) (rfl) rfl rfl rfl rfl (Nat.le_of_ble_eq_true rfl) ⟨Nat.zero_le _, Nat.zero_le _⟩ ?_
      refine V_iconst C (0 : Int32) 48 dX4_ends_47 rfl rfl ?_
      obtain rfl := Option.some.inj h
      exact retI _ _ _ .int rfl (rfl) rfl dX4_ends_48
  show V K 0 0 _ [(0, .ref A.1), (1, .int a1), (2, .int a2), (3, .int a3), (4, .int a4)] [] 0
  unfold f_X4_ends at h
  refine V_aload_n C 0 1 dX4_ends_0 rfl rfl ?_
  refine V_iload_n C 1 2 dX4_ends_1 rfl rfl ?_
  refine V_iconst C (1 : Int32) 3 dX4_ends_2 rfl rfl ?_
  refine V_icmp_ne C 10 6 dX4_ends_3 rfl rfl (fun e10 => ?_) (fun e10 => ?_)
  · have h := (if_neg e10).symm.trans h
    refine V_iload_n C 1 11 dX4_ends_10 rfl rfl ?_
    refine V_iconst C (2 : Int32) 12 dX4_ends_11 rfl rfl ?_
    refine V_icmp_ne C 19 15 dX4_ends_12 rfl rfl (fun e11 => ?_) (fun e11 => ?_)
    · have h := (if_neg e11).symm.trans h
      refine V_iload_n C 1 20 dX4_ends_19 rfl rfl ?_
      refine V_iconst C (3 : Int32) 21 dX4_ends_20 rfl rfl ?_
      refine V_icmp_ne C 29 24 dX4_ends_21 rfl rfl (fun e12 => ?_) (fun e12 => ?_)
      · have h := (if_neg e12).symm.trans h
        refine V_iconst C (0 : Int32) 30 dX4_ends_29 rfl rfl ?_
        refine V_lv [0, 1, 2, 3, 4] rfl ?_
        exact B30 _ _ _ _ _ _ h
      · have h := (if_pos e12).symm.trans h
        refine V_iload C 4 26 dX4_ends_24 rfl rfl ?_
        refine V_goto C 30 dX4_ends_26 rfl ?_
        refine V_lv [0, 1, 2, 3, 4] rfl ?_
        exact B30 _ _ _ _ _ _ h
    · have h := (if_pos e11).symm.trans h
      refine V_iload_n C 3 16 dX4_ends_15 rfl rfl ?_
      refine V_goto C 30 dX4_ends_16 rfl ?_
      refine V_lv [0, 1, 2, 3, 4] rfl ?_
      exact B30 _ _ _ _ _ _ h
  · have h := (if_pos e10).symm.trans h
    refine V_iload_n C 2 7 dX4_ends_6 rfl rfl ?_
    refine V_goto C 30 dX4_ends_7 rfl ?_
    refine V_lv [0, 1, 2, 3, 4] rfl ?_
    exact B30 _ _ _ _ _ _ h
set_option maxHeartbeats 4000000 in
set_option maxRecDepth 100000 in
theorem c_X4_isFine {l : Launch} {D : va_G} {g : G0} {A : MdA} {v : MdV} {a1 : Int32} {R : (Int32 × MdV)} (h : f_X4_isFine v a1 = some R) : CtS l D g yX4_isFine cX4_isFine 2 (some .boolean) (rmF 0 0) (mdW g A v) [.ref A.1, .int a1] (some (.int R.1)) (mdW g A R.2) := by
  refine CtS.of (by decide) (Nat.le_of_ble_eq_true rfl) ?_
  intro K C hBA el eD ekn retI retV
  subst el
  subst eD
  have hlt : ∀ i, i < 2 → i < kn K := fun i h => by rw [ekn]; exact h
  have B10 : ∀ (x1 : Int32) (s0 : Int32) (v : MdV), f_X4_isFine_B10 x1 s0 v = some R → V K 0 0 (mdW g A v) [(0, .ref A.1), (1, .int x1)] [.int s0, .ref A.1] 10 := by
    intro x1 s0 v h
    rw [f_X4_isFine_B10] at h
    refine V_put C hBA 0 13 (mdW g A ((Md_all v), (Md_output v), (Md_input v), (Md_commands v), s0, (Md_changes v), (Md_isSaved v), (Md_result v), (Md_why v), (Md_detail v), (Md_cause v), (Md_outputSize v), (Md_typed v), (Md_here v), (Md_error v), (Md_errorAt v), (Md_commandMany v))) fl_X4_27 fp_X4_0 dX4_isFine_10 rfl rfl (Nat.le_of_ble_eq_true rfl) rfl rfl rfl ?_
    refine V_iload_n C 1 14 dX4_isFine_13 rfl rfl ?_
    obtain ⟨g1, h⟩ := gd_some h
    obtain rfl := Option.some.inj h
    exact retI _ _ _ .boolean rfl (isz_t g1) rfl dX4_isFine_14
  show V K 0 0 _ [(0, .ref A.1), (1, .int a1)] [] 0
  unfold f_X4_isFine at h
  refine V_aload_n C 0 1 dX4_isFine_0 rfl rfl ?_
  refine V_iload_n C 1 2 dX4_isFine_1 rfl rfl ?_
  refine V_if_eq C 9 5 dX4_isFine_2 rfl rfl (fun e2 => ?_) (fun e2 => ?_)
  · have h := (if_pos e2).symm.trans h
    refine V_iconst C (1 : Int32) 10 dX4_isFine_9 rfl rfl ?_
    refine V_lv [0, 1] rfl ?_
    exact B10 _ _ _ h
  · have h := (if_neg e2).symm.trans h
    refine V_iconst C (0 : Int32) 6 dX4_isFine_5 rfl rfl ?_
    refine V_goto C 10 dX4_isFine_6 rfl ?_
    refine V_lv [0, 1] rfl ?_
    exact B10 _ _ _ h
set_option maxHeartbeats 4000000 in
set_option maxRecDepth 100000 in
theorem c_X4_rejects {l : Launch} {D : va_G} {g : G0} {A : MdA} {v : MdV} {a1 a2 a3 : Int32} {R : (Int32 × MdV)} (h : f_X4_rejects v a1 a2 a3 = some R) : CtS l D g yX4_rejects cX4_rejects 4 (some .boolean) (rmF 0 0) (mdW g A v) [.ref A.1, .int a1, .int a2, .int a3] (some (.int R.1)) (mdW g A R.2) := by
  refine CtS.of (by decide) (Nat.le_of_ble_eq_true rfl) ?_
  intro K C hBA el eD ekn retI retV
  subst el
  subst eD
  have hlt : ∀ i, i < 4 → i < kn K := fun i h => by rw [ekn]; exact h
  have B19 : ∀ (x1 : Int32) (x2 : Int32) (x3 : Int32) (v : MdV), f_X4_rejects_B19 x1 x2 x3 v = some R → V K 0 0 (mdW g A v) [(0, .ref A.1), (1, .int x1), (2, .int x2), (3, .int x3)] [] 19 := by
    intro x1 x2 x3 v h
    rw [f_X4_rejects_B19] at h
    refine V_iload_n C 1 20 dX4_rejects_19 rfl rfl ?_
    obtain ⟨g1, h⟩ := gd_some h
    obtain rfl := Option.some.inj h
    exact retI _ _ _ .boolean rfl (isz_t g1) rfl dX4_rejects_20
  show V K 0 0 _ [(0, .ref A.1), (1, .int a1), (2, .int a2), (3, .int a3)] [] 0
  unfold f_X4_rejects at h
  refine V_iload_n C 1 1 dX4_rejects_0 rfl rfl ?_
  refine V_if_eq C 19 4 dX4_rejects_1 rfl rfl (fun e2 => ?_) (fun e2 => ?_)
  · have h := (if_pos e2).symm.trans h
    refine V_lv [0, 1, 2, 3] rfl ?_
    exact B19 _ _ _ _ h
  · have h := (if_neg e2).symm.trans h
    refine V_aload_n C 0 5 dX4_rejects_4 rfl rfl ?_
    refine V_iload_n C 2 6 dX4_rejects_5 rfl rfl ?_
    refine V_put C hBA 0 9 (mdW g A ((Md_all v), (Md_output v), (Md_input v), (Md_commands v), (Md_thrown v), (Md_changes v), (Md_isSaved v), (Md_result v), a2, (Md_detail v), (Md_cause v), (Md_outputSize v), (Md_typed v), (Md_here v), (Md_error v), (Md_errorAt v), (Md_commandMany v))) fl_X4_40 fp_X4_5 dX4_rejects_6 rfl rfl (Nat.le_of_ble_eq_true rfl) rfl rfl rfl ?_
    refine V_aload_n C 0 10 dX4_rejects_9 rfl rfl ?_
    refine V_iload_n C 3 11 dX4_rejects_10 rfl rfl ?_
    refine V_put C hBA 0 14 (mdW g A ((Md_all v), (Md_output v), (Md_input v), (Md_commands v), (Md_thrown v), (Md_changes v), (Md_isSaved v), (Md_result v), a2, a3, (Md_cause v), (Md_outputSize v), (Md_typed v), (Md_here v), (Md_error v), (Md_errorAt v), (Md_commandMany v))) fl_X4_43 fp_X4_6 dX4_rejects_11 rfl rfl (Nat.le_of_ble_eq_true rfl) rfl rfl rfl ?_
    refine V_aload_n C 0 15 dX4_rejects_14 rfl rfl ?_
    refine V_iconst C (0 : Int32) 16 dX4_rejects_15 rfl rfl ?_
    refine V_put C hBA 0 19 (mdW g A ((Md_all v), (Md_output v), (Md_input v), (Md_commands v), (Md_thrown v), (Md_changes v), (Md_isSaved v), (Md_result v), a2, a3, (0 : Int32), (Md_outputSize v), (Md_typed v), (Md_here v), (Md_error v), (Md_errorAt v), (Md_commandMany v))) fl_X4_46 fp_X4_7 dX4_rejects_16 rfl rfl (Nat.le_of_ble_eq_true rfl) rfl rfl rfl ?_
    refine V_lv [0, 1, 2, 3] rfl ?_
    exact B19 _ _ _ _ h
set_option maxHeartbeats 4000000 in
set_option maxRecDepth 100000 in
theorem c_X4_rejectionReason {l : Launch} {D : va_G} {g : G0} {A : MdA} {v : MdV} {R : (Int32 × MdV)} (h : f_X4_rejectionReason v  = some R) : CtS l D g yX4_rejectionReason cX4_rejectionReason 1 (some .int) (rmF 1 21) (mdW g A v) [.ref A.1] (some (.int R.1)) (mdW g A R.2) := by
  refine CtS.of (by decide) (Nat.le_of_ble_eq_true rfl) ?_
  intro K C hBA el eD ekn retI retV
  subst el
  subst eD
  have hlt : ∀ i, i < 1 → i < kn K := fun i h => by rw [ekn]; exact h
  have B27 : ∀ (s0 : Int32) (v : MdV), f_X4_rejectionReason_B27 s0 v = some R → V K 0 0 (mdW g A v) [(0, .ref A.1)] [.int s0] 27 := by
    intro s0 v h
    rw [f_X4_rejectionReason_B27] at h
    obtain rfl := Option.some.inj h
    exact retI _ _ _ .int rfl (rfl) rfl dX4_rejectionReason_27
  have B13 : ∀ (s0 : Int32) (v : MdV), f_X4_rejectionReason_B13 s0 v = some R → V K 0 0 (mdW g A v) [(0, .ref A.1)] [.int s0, .ref A.1] 13 := by
    intro s0 v h
    rw [f_X4_rejectionReason_B13] at h
    obtain ⟨r1, k2, h⟩ := bd_some h
    refine V_callS C hBA ml_X4_49 (pre := []) (post := []) (w0 := mdW g A v) (w1 := mdW g A r1.2) (as := [.int s0]) (rest := []) (c_X4_isFine k2) 0 16 (mdW g A r1.2) dX4_rejectionReason_13 rfl ⟨Nat.le_of_ble_eq_true rfl, Nat.le_of_ble_eq_true rfl⟩ rfl (rfl) (rfl) rfl rfl rfl rfl (Nat.le_of_ble_eq_true rfl) ⟨Nat.zero_le _, Nat.zero_le _⟩ ?_
    refine V_if_eq C 26 19 dX4_rejectionReason_16 rfl rfl (fun e3 => ?_) (fun e3 => ?_)
    · have h := (if_pos e3).symm.trans h
      refine V_iconst C (0 : Int32) 27 dX4_rejectionReason_26 rfl rfl ?_
      refine V_lv [0] rfl ?_
      exact B27 _ _ h
    · have h := (if_neg e3).symm.trans h
      refine V_aload_n C 0 20 dX4_rejectionReason_19 rfl rfl ?_
      refine V_get C (v := .int (Md_why r1.2)) 0 23 fl_X4_40 dX4_rejectionReason_20 rfl rfl rfl ?_
      refine V_goto C 27 dX4_rejectionReason_23 rfl ?_
      refine V_lv [0] rfl ?_
      exact B27 _ _ h
  show V K 0 0 _ [(0, .ref A.1)] [] 0
  unfold f_X4_rejectionReason at h
  refine V_aload_n C 0 1 dX4_rejectionReason_0 rfl rfl ?_
  refine V_aload_n C 0 2 dX4_rejectionReason_1 rfl rfl ?_
  refine V_get C (v := .int (Md_why v)) 0 5 fl_X4_40 dX4_rejectionReason_2 rfl rfl rfl ?_
  refine V_if_eq C 12 8 dX4_rejectionReason_5 rfl rfl (fun e4 => ?_) (fun e4 => ?_)
  · have h := (if_pos e4).symm.trans h
    refine V_iconst C (0 : Int32) 13 dX4_rejectionReason_12 rfl rfl ?_
    refine V_lv [0] rfl ?_
    exact B13 _ _ h
  · have h := (if_neg e4).symm.trans h
    refine V_iconst C (1 : Int32) 9 dX4_rejectionReason_8 rfl rfl ?_
    refine V_goto C 13 dX4_rejectionReason_9 rfl ?_
    refine V_lv [0] rfl ?_
    exact B13 _ _ h
set_option maxHeartbeats 4000000 in
set_option maxRecDepth 100000 in
theorem c_X4_rejectionDetail {l : Launch} {D : va_G} {g : G0} {A : MdA} {v : MdV} {R : (Int32 × MdV)} (h : f_X4_rejectionDetail v  = some R) : CtS l D g yX4_rejectionDetail cX4_rejectionDetail 1 (some .int) (rmF 1 21) (mdW g A v) [.ref A.1] (some (.int R.1)) (mdW g A R.2) := by
  refine CtS.of (by decide) (Nat.le_of_ble_eq_true rfl) ?_
  intro K C hBA el eD ekn retI retV
  subst el
  subst eD
  have hlt : ∀ i, i < 1 → i < kn K := fun i h => by rw [ekn]; exact h
  have B27 : ∀ (s0 : Int32) (v : MdV), f_X4_rejectionDetail_B27 s0 v = some R → V K 0 0 (mdW g A v) [(0, .ref A.1)] [.int s0] 27 := by
    intro s0 v h
    rw [f_X4_rejectionDetail_B27] at h
    obtain rfl := Option.some.inj h
    exact retI _ _ _ .int rfl (rfl) rfl dX4_rejectionDetail_27
  have B13 : ∀ (s0 : Int32) (v : MdV), f_X4_rejectionDetail_B13 s0 v = some R → V K 0 0 (mdW g A v) [(0, .ref A.1)] [.int s0, .ref A.1] 13 := by
    intro s0 v h
    rw [f_X4_rejectionDetail_B13] at h
    obtain ⟨r1, k2, h⟩ := bd_some h
    refine V_callS C hBA ml_X4_49 (pre := []) (post := []) (w0 := mdW g A v) (w1 := mdW g A r1.2) (as := [.int s0]) (rest := []) (c_X4_isFine k2) 0 16 (mdW g A r1.2) dX4_rejectionDetail_13 rfl ⟨Nat.le_of_ble_eq_true rfl, Nat.le_of_ble_eq_true rfl⟩ rfl (rfl) (rfl) rfl rfl rfl rfl (Nat.le_of_ble_eq_true rfl) ⟨Nat.zero_le _, Nat.zero_le _⟩ ?_
    refine V_if_eq C 26 19 dX4_rejectionDetail_16 rfl rfl (fun e3 => ?_) (fun e3 => ?_)
    · have h := (if_pos e3).symm.trans h
      refine V_iconst C (0 : Int32) 27 dX4_rejectionDetail_26 rfl rfl ?_
      refine V_lv [0] rfl ?_
      exact B27 _ _ h
    · have h := (if_neg e3).symm.trans h
      refine V_aload_n C 0 20 dX4_rejectionDetail_19 rfl rfl ?_
      refine V_get C (v := .int (Md_detail r1.2)) 0 23 fl_X4_43 dX4_rejectionDetail_20 rfl rfl rfl ?_
      refine V_goto C 27 dX4_rejectionDetail_23 rfl ?_
      refine V_lv [0] rfl ?_
      exact B27 _ _ h
  show V K 0 0 _ [(0, .ref A.1)] [] 0
  unfold f_X4_rejectionDetail at h
  refine V_aload_n C 0 1 dX4_rejectionDetail_0 rfl rfl ?_
  refine V_aload_n C 0 2 dX4_rejectionDetail_1 rfl rfl ?_
  refine V_get C (v := .int (Md_why v)) 0 5 fl_X4_40 dX4_rejectionDetail_2 rfl rfl rfl ?_
  refine V_if_eq C 12 8 dX4_rejectionDetail_5 rfl rfl (fun e4 => ?_) (fun e4 => ?_)
  · have h := (if_pos e4).symm.trans h
    refine V_iconst C (0 : Int32) 13 dX4_rejectionDetail_12 rfl rfl ?_
    refine V_lv [0] rfl ?_
    exact B13 _ _ h
  · have h := (if_neg e4).symm.trans h
    refine V_iconst C (1 : Int32) 9 dX4_rejectionDetail_8 rfl rfl ?_
    refine V_goto C 13 dX4_rejectionDetail_9 rfl ?_
    refine V_lv [0] rfl ?_
    exact B13 _ _ h
set_option maxHeartbeats 4000000 in
set_option maxRecDepth 100000 in
theorem c_X4_causeReason {l : Launch} {D : va_G} {g : G0} {A : MdA} {v : MdV} {R : (Int32 × MdV)} (h : f_X4_causeReason v  = some R) : CtS l D g yX4_causeReason cX4_causeReason 1 (some .int) (rmF 1 21) (mdW g A v) [.ref A.1] (some (.int R.1)) (mdW g A R.2) := by
  refine CtS.of (by decide) (Nat.le_of_ble_eq_true rfl) ?_
  intro K C hBA el eD ekn retI retV
  subst el
  subst eD
  have hlt : ∀ i, i < 1 → i < kn K := fun i h => by rw [ekn]; exact h
  have B27 : ∀ (s0 : Int32) (v : MdV), f_X4_causeReason_B27 s0 v = some R → V K 0 0 (mdW g A v) [(0, .ref A.1)] [.int s0] 27 := by
    intro s0 v h
    rw [f_X4_causeReason_B27] at h
    obtain rfl := Option.some.inj h
    exact retI _ _ _ .int rfl (rfl) rfl dX4_causeReason_27
  have B13 : ∀ (s0 : Int32) (v : MdV), f_X4_causeReason_B13 s0 v = some R → V K 0 0 (mdW g A v) [(0, .ref A.1)] [.int s0, .ref A.1] 13 := by
    intro s0 v h
    rw [f_X4_causeReason_B13] at h
    obtain ⟨r1, k2, h⟩ := bd_some h
    refine V_callS C hBA ml_X4_49 (pre := []) (post := []) (w0 := mdW g A v) (w1 := mdW g A r1.2) (as := [.int s0]) (rest := []) (c_X4_isFine k2) 0 16 (mdW g A r1.2) dX4_causeReason_13 rfl ⟨Nat.le_of_ble_eq_true rfl, Nat.le_of_ble_eq_true rfl⟩ rfl (rfl) (rfl) rfl rfl rfl rfl (Nat.le_of_ble_eq_true rfl) ⟨Nat.zero_le _, Nat.zero_le _⟩ ?_
    refine V_if_eq C 26 19 dX4_causeReason_16 rfl rfl (fun e3 => ?_) (fun e3 => ?_)
    · have h := (if_pos e3).symm.trans h
      refine V_iconst C (0 : Int32) 27 dX4_causeReason_26 rfl rfl ?_
      refine V_lv [0] rfl ?_
      exact B27 _ _ h
    · have h := (if_neg e3).symm.trans h
      refine V_aload_n C 0 20 dX4_causeReason_19 rfl rfl ?_
      refine V_get C (v := .int (Md_cause r1.2)) 0 23 fl_X4_46 dX4_causeReason_20 rfl rfl rfl ?_
      refine V_goto C 27 dX4_causeReason_23 rfl ?_
      refine V_lv [0] rfl ?_
      exact B27 _ _ h
  show V K 0 0 _ [(0, .ref A.1)] [] 0
  unfold f_X4_causeReason at h
  refine V_aload_n C 0 1 dX4_causeReason_0 rfl rfl ?_
  refine V_aload_n C 0 2 dX4_causeReason_1 rfl rfl ?_
  refine V_get C (v := .int (Md_cause v)) 0 5 fl_X4_46 dX4_causeReason_2 rfl rfl rfl ?_
  refine V_if_eq C 12 8 dX4_causeReason_5 rfl rfl (fun e4 => ?_) (fun e4 => ?_)
  · have h := (if_pos e4).symm.trans h
    refine V_iconst C (0 : Int32) 13 dX4_causeReason_12 rfl rfl ?_
    refine V_lv [0] rfl ?_
    exact B13 _ _ h
  · have h := (if_neg e4).symm.trans h
    refine V_iconst C (1 : Int32) 9 dX4_causeReason_8 rfl rfl ?_
    refine V_goto C 13 dX4_causeReason_9 rfl ?_
    refine V_lv [0] rfl ?_
    exact B13 _ _ h
set_option maxHeartbeats 4000000 in
set_option maxRecDepth 100000 in
theorem c_X4_m {l : Launch} {D : va_G} {g : G0} {A : MdA} {v : MdV} {a1 a2 : Int32} {R : Int32} (h : f_X4_m v a1 a2 = some R) : CtP l D g yX4_m cX4_m 3 (some .int) (rmF 0 0) (mdW g A v) [.ref A.1, .int a1, .int a2] (some (.int R)) := by
  refine CtP.of (by decide) rfl rfl (Nat.le_of_ble_eq_true rfl) ?_
  intro K C el eD ekn retI
  subst el
  subst eD
  have hlt : ∀ i, i < 3 → i < kn K := fun i h => by rw [ekn]; exact h
  show V K 0 0 _ [(0, .ref A.1), (1, .int a1), (2, .int a2)] [] 0
  unfold f_X4_m at h
  refine V_aload_n C 0 1 dX4_m_0 rfl rfl ?_
  refine V_get C (v := .ref A.2.1) 0 4 fl_X4_9 dX4_m_1 rfl rfl rfl ?_
  refine V_bipush C (15 : Int32) 6 dX4_m_4 rfl rfl ?_
  refine V_iconst C (5 : Int32) 7 dX4_m_6 rfl rfl ?_
  refine V_iload_n C 1 8 dX4_m_7 rfl rfl ?_
  refine V_imul C 9 dX4_m_8 rfl ?_
  refine V_iadd C 10 dX4_m_9 rfl ?_
  refine V_iload_n C 2 11 dX4_m_10 rfl rfl ?_
  refine V_iadd C 12 dX4_m_11 rfl ?_
  obtain ⟨g1, h⟩ := gd_some h
  refine V_iald C (f := (Md_all v)) (n := 825) 1 13 dX4_m_12 rfl rfl g1 ?_
  obtain rfl := Option.some.inj h
  exact retI _ _ _ .int rfl (rfl) rfl dX4_m_13
set_option maxHeartbeats 4000000 in
set_option maxRecDepth 100000 in
theorem c_X4_set {l : Launch} {D : va_G} {g : G0} {A : MdA} {v : MdV} {a1 a2 a3 : Int32} {R : (Int32 × MdV)} (h : f_X4_set v a1 a2 a3 = some R) : CtS l D g yX4_set cX4_set 4 none (rmF 0 0) (mdW g A v) [.ref A.1, .int a1, .int a2, .int a3] none (mdW g A R.2) := by
  refine CtS.of (by decide) (Nat.le_of_ble_eq_true rfl) ?_
  intro K C hBA el eD ekn retI retV
  subst el
  subst eD
  have hlt : ∀ i, i < 4 → i < kn K := fun i h => by rw [ekn]; exact h
  show V K 0 0 _ [(0, .ref A.1), (1, .int a1), (2, .int a2), (3, .int a3)] [] 0
  unfold f_X4_set at h
  refine V_aload_n C 0 1 dX4_set_0 rfl rfl ?_
  refine V_get C (v := .ref A.2.1) 0 4 fl_X4_9 dX4_set_1 rfl rfl rfl ?_
  refine V_bipush C (15 : Int32) 6 dX4_set_4 rfl rfl ?_
  refine V_iconst C (5 : Int32) 7 dX4_set_6 rfl rfl ?_
  refine V_iload_n C 1 8 dX4_set_7 rfl rfl ?_
  refine V_imul C 9 dX4_set_8 rfl ?_
  refine V_iadd C 10 dX4_set_9 rfl ?_
  refine V_iload_n C 2 11 dX4_set_10 rfl rfl ?_
  refine V_iadd C 12 dX4_set_11 rfl ?_
  refine V_iload_n C 3 13 dX4_set_12 rfl rfl ?_
  obtain ⟨g1, h⟩ := gd_some h
  refine V_iast C hBA (f := (Md_all v)) (n := 825) 1 14 (mdW g A ((upd (Md_all v) (cl (((15 : Int32) + ((5 : Int32) * a1)) + a2)) a3), (Md_output v), (Md_input v), (Md_commands v), (Md_thrown v), (Md_changes v), (Md_isSaved v), (Md_result v), (Md_why v), (Md_detail v), (Md_cause v), (Md_outputSize v), (Md_typed v), (Md_here v), (Md_error v), (Md_errorAt v), (Md_commandMany v))) dX4_set_13 rfl rfl g1 rfl ?_
  obtain rfl := Option.some.inj h
  exact retV _ _ rfl rfl dX4_set_14
set_option maxHeartbeats 4000000 in
set_option maxRecDepth 100000 in
theorem c_X4_find {l : Launch} {D : va_G} {g : G0} {A : MdA} {v : MdV} {a1 : Int32} {R : Int32} (h : f_X4_find v a1 = some R) : CtP l D g yX4_find cX4_find 3 (some .int) (rmF 1 22) (mdW g A v) [.ref A.1, .int a1] (some (.int R)) := by
  refine CtP.of (by decide) rfl rfl (Nat.le_of_ble_eq_true rfl) ?_
  intro K C el eD ekn retI
  subst el
  subst eD
  have hlt : ∀ i, i < 3 → i < kn K := fun i h => by rw [ekn]; exact h
  have L2 : ∀ (n : Nat) (x1 : Int32) (x2 : Int32), f_X4_find_L2 v n x1 x2 = some R → V K 0 0 (mdW g A v) [(0, .ref A.1), (1, .int x1), (2, .int x2)] [] 2 := by
    intro n
    induction n with
    | zero =>
      intro x1 x2 h
      rw [f_X4_find_L2] at h
      cases h
    | succ n ih =>
      intro x1 x2 h
      rw [f_X4_find_L2] at h
      refine V_iload_n C 2 3 dX4_find_2 rfl rfl ?_
      refine V_aload_n C 0 4 dX4_find_3 rfl rfl ?_
      refine V_get C (v := .ref A.2.1) 0 7 fl_X4_9 dX4_find_4 rfl rfl rfl ?_
      refine V_iconst C (0 : Int32) 8 dX4_find_7 rfl rfl ?_
      obtain ⟨g1, h⟩ := gd_some h
      refine V_iald C (f := (Md_all v)) (n := 825) 1 9 dX4_find_8 rfl rfl g1 ?_
      refine V_icmp_ge C 30 12 dX4_find_9 rfl rfl (fun e2 => ?_) (fun e2 => ?_)
      · have h := (if_pos e2).symm.trans h
        refine V_iconst C (-1 : Int32) 31 dX4_find_30 rfl rfl ?_
        obtain rfl := Option.some.inj h
        exact retI _ _ _ .int rfl (rfl) rfl dX4_find_31
      · have h := (if_neg e2).symm.trans h
        refine V_aload_n C 0 13 dX4_find_12 rfl rfl ?_
        refine V_iload_n C 2 14 dX4_find_13 rfl rfl ?_
        refine V_iconst C (0 : Int32) 15 dX4_find_14 rfl rfl ?_
        obtain ⟨r3, k4, h⟩ := bd_some h
        refine V_callP C ml_X4_53 (pre := []) (post := []) (w := mdW g A v) (as := [.int x2, .int (0 : Int32)]) (rest := []) (c_X4_m k4) 0 18 dX4_find_15 rfl ⟨Nat.le_of_ble_eq_true rfl, Nat.le_of_ble_eq_true rfl⟩ rfl (rfl) rfl rfl rfl (Nat.le_of_ble_eq_true rfl) ⟨Nat.zero_le _, Nat.zero_le _⟩ ?_
        refine V_iload_n C 1 19 dX4_find_18 rfl rfl ?_
        refine V_icmp_ne C 24 22 dX4_find_19 rfl rfl (fun e5 => ?_) (fun e5 => ?_)
        · have h := (if_neg e5).symm.trans h
          refine V_iinc C 2 (x2 + (1 : Int32)) 27 [(2, .int (x2 + (1 : Int32))), (0, .ref A.1), (1, .int x1)] dX4_find_24 rfl rfl rfl (hlt 2 (by decide)) rfl ?_
          refine V_goto C 2 dX4_find_27 rfl ?_
          refine V_lv [1, 2, 0] rfl ?_
          exact ih _ _ h
        · have h := (if_pos e5).symm.trans h
          refine V_iload_n C 2 23 dX4_find_22 rfl rfl ?_
          obtain rfl := Option.some.inj h
          exact retI _ _ _ .int rfl (rfl) rfl dX4_find_23
  show V K 0 0 _ [(0, .ref A.1), (1, .int a1)] [] 0
  unfold f_X4_find at h
  refine V_iconst C (0 : Int32) 1 dX4_find_0 rfl rfl ?_
  refine V_istore_n C 2 [(2, .int (0 : Int32)), (0, .ref A.1), (1, .int a1)] dX4_find_1 rfl (hlt 2 (by decide)) rfl ?_
  refine V_lv [1, 2, 0] rfl ?_
  exact L2 100 _ _ h
set_option maxHeartbeats 4000000 in
set_option maxRecDepth 100000 in
theorem c_X4_onPage {l : Launch} {D : va_G} {g : G0} {A : MdA} {v : MdV} {a1 : Int32} {R : Int32} (h : f_X4_onPage v a1 = some R) : CtP l D g yX4_onPage cX4_onPage 3 (some .int) (rmF 1 22) (mdW g A v) [.ref A.1, .int a1] (some (.int R)) := by
  refine CtP.of (by decide) rfl rfl (Nat.le_of_ble_eq_true rfl) ?_
  intro K C el eD ekn retI
  subst el
  subst eD
  have hlt : ∀ i, i < 3 → i < kn K := fun i h => by rw [ekn]; exact h
  have L2 : ∀ (n : Nat) (x1 : Int32) (x2 : Int32), f_X4_onPage_L2 v n x1 x2 = some R → V K 0 0 (mdW g A v) [(0, .ref A.1), (1, .int x1), (2, .int x2)] [] 2 := by
    intro n
    induction n with
    | zero =>
      intro x1 x2 h
      rw [f_X4_onPage_L2] at h
      cases h
    | succ n ih =>
      intro x1 x2 h
      rw [f_X4_onPage_L2] at h
      refine V_iload_n C 2 3 dX4_onPage_2 rfl rfl ?_
      refine V_aload_n C 0 4 dX4_onPage_3 rfl rfl ?_
      refine V_get C (v := .ref A.2.1) 0 7 fl_X4_9 dX4_onPage_4 rfl rfl rfl ?_
      refine V_iconst C (0 : Int32) 8 dX4_onPage_7 rfl rfl ?_
      obtain ⟨g1, h⟩ := gd_some h
      refine V_iald C (f := (Md_all v)) (n := 825) 1 9 dX4_onPage_8 rfl rfl g1 ?_
      refine V_icmp_ge C 30 12 dX4_onPage_9 rfl rfl (fun e2 => ?_) (fun e2 => ?_)
      · have h := (if_pos e2).symm.trans h
        refine V_iconst C (-1 : Int32) 31 dX4_onPage_30 rfl rfl ?_
        obtain rfl := Option.some.inj h
        exact retI _ _ _ .int rfl (rfl) rfl dX4_onPage_31
      · have h := (if_neg e2).symm.trans h
        refine V_aload_n C 0 13 dX4_onPage_12 rfl rfl ?_
        refine V_iload_n C 2 14 dX4_onPage_13 rfl rfl ?_
        refine V_iconst C (1 : Int32) 15 dX4_onPage_14 rfl rfl ?_
        obtain ⟨r3, k4, h⟩ := bd_some h
        refine V_callP C ml_X4_53 (pre := []) (post := []) (w := mdW g A v) (as := [.int x2, .int (1 : Int32)]) (rest := []) (c_X4_m k4) 0 18 dX4_onPage_15 rfl ⟨Nat.le_of_ble_eq_true rfl, Nat.le_of_ble_eq_true rfl⟩ rfl (rfl) rfl rfl rfl (Nat.le_of_ble_eq_true rfl) ⟨Nat.zero_le _, Nat.zero_le _⟩ ?_
        refine V_iload_n C 1 19 dX4_onPage_18 rfl rfl ?_
        refine V_icmp_ne C 24 22 dX4_onPage_19 rfl rfl (fun e5 => ?_) (fun e5 => ?_)
        · have h := (if_neg e5).symm.trans h
          refine V_iinc C 2 (x2 + (1 : Int32)) 27 [(2, .int (x2 + (1 : Int32))), (0, .ref A.1), (1, .int x1)] dX4_onPage_24 rfl rfl rfl (hlt 2 (by decide)) rfl ?_
          refine V_goto C 2 dX4_onPage_27 rfl ?_
          refine V_lv [1, 2, 0] rfl ?_
          exact ih _ _ h
        · have h := (if_pos e5).symm.trans h
          refine V_iload_n C 2 23 dX4_onPage_22 rfl rfl ?_
          obtain rfl := Option.some.inj h
          exact retI _ _ _ .int rfl (rfl) rfl dX4_onPage_23
  show V K 0 0 _ [(0, .ref A.1), (1, .int a1)] [] 0
  unfold f_X4_onPage at h
  refine V_iconst C (0 : Int32) 1 dX4_onPage_0 rfl rfl ?_
  refine V_istore_n C 2 [(2, .int (0 : Int32)), (0, .ref A.1), (1, .int a1)] dX4_onPage_1 rfl (hlt 2 (by decide)) rfl ?_
  refine V_lv [1, 2, 0] rfl ?_
  exact L2 100 _ _ h
set_option maxHeartbeats 4000000 in
set_option maxRecDepth 100000 in
theorem c_X4_inSeat {l : Launch} {D : va_G} {g : G0} {A : MdA} {v : MdV} {a1 : Int32} {R : Int32} (h : f_X4_inSeat v a1 = some R) : CtP l D g yX4_inSeat cX4_inSeat 3 (some .int) (rmF 1 22) (mdW g A v) [.ref A.1, .int a1] (some (.int R)) := by
  refine CtP.of (by decide) rfl rfl (Nat.le_of_ble_eq_true rfl) ?_
  intro K C el eD ekn retI
  subst el
  subst eD
  have hlt : ∀ i, i < 3 → i < kn K := fun i h => by rw [ekn]; exact h
  have L2 : ∀ (n : Nat) (x1 : Int32) (x2 : Int32), f_X4_inSeat_L2 v n x1 x2 = some R → V K 0 0 (mdW g A v) [(0, .ref A.1), (1, .int x1), (2, .int x2)] [] 2 := by
    intro n
    induction n with
    | zero =>
      intro x1 x2 h
      rw [f_X4_inSeat_L2] at h
      cases h
    | succ n ih =>
      intro x1 x2 h
      rw [f_X4_inSeat_L2] at h
      refine V_iload_n C 2 3 dX4_inSeat_2 rfl rfl ?_
      refine V_aload_n C 0 4 dX4_inSeat_3 rfl rfl ?_
      refine V_get C (v := .ref A.2.1) 0 7 fl_X4_9 dX4_inSeat_4 rfl rfl rfl ?_
      refine V_iconst C (0 : Int32) 8 dX4_inSeat_7 rfl rfl ?_
      obtain ⟨g1, h⟩ := gd_some h
      refine V_iald C (f := (Md_all v)) (n := 825) 1 9 dX4_inSeat_8 rfl rfl g1 ?_
      refine V_icmp_ge C 32 12 dX4_inSeat_9 rfl rfl (fun e2 => ?_) (fun e2 => ?_)
      · have h := (if_pos e2).symm.trans h
        refine V_iconst C (-1 : Int32) 33 dX4_inSeat_32 rfl rfl ?_
        obtain rfl := Option.some.inj h
        exact retI _ _ _ .int rfl (rfl) rfl dX4_inSeat_33
      · have h := (if_neg e2).symm.trans h
        refine V_aload_n C 0 13 dX4_inSeat_12 rfl rfl ?_
        refine V_iload_n C 2 14 dX4_inSeat_13 rfl rfl ?_
        refine V_iconst C (3 : Int32) 15 dX4_inSeat_14 rfl rfl ?_
        obtain ⟨r3, k4, h⟩ := bd_some h
        refine V_callP C ml_X4_53 (pre := []) (post := []) (w := mdW g A v) (as := [.int x2, .int (3 : Int32)]) (rest := []) (c_X4_m k4) 0 18 dX4_inSeat_15 rfl ⟨Nat.le_of_ble_eq_true rfl, Nat.le_of_ble_eq_true rfl⟩ rfl (rfl) rfl rfl rfl (Nat.le_of_ble_eq_true rfl) ⟨Nat.zero_le _, Nat.zero_le _⟩ ?_
        refine V_iload_n C 1 19 dX4_inSeat_18 rfl rfl ?_
        refine V_iconst C (1 : Int32) 20 dX4_inSeat_19 rfl rfl ?_
        refine V_iadd C 21 dX4_inSeat_20 rfl ?_
        refine V_icmp_ne C 26 24 dX4_inSeat_21 rfl rfl (fun e5 => ?_) (fun e5 => ?_)
        · have h := (if_neg e5).symm.trans h
          refine V_iinc C 2 (x2 + (1 : Int32)) 29 [(2, .int (x2 + (1 : Int32))), (0, .ref A.1), (1, .int x1)] dX4_inSeat_26 rfl rfl rfl (hlt 2 (by decide)) rfl ?_
          refine V_goto C 2 dX4_inSeat_29 rfl ?_
          refine V_lv [1, 2, 0] rfl ?_
          exact ih _ _ h
        · have h := (if_pos e5).symm.trans h
          refine V_iload_n C 2 25 dX4_inSeat_24 rfl rfl ?_
          obtain rfl := Option.some.inj h
          exact retI _ _ _ .int rfl (rfl) rfl dX4_inSeat_25
  show V K 0 0 _ [(0, .ref A.1), (1, .int a1)] [] 0
  unfold f_X4_inSeat at h
  refine V_iconst C (0 : Int32) 1 dX4_inSeat_0 rfl rfl ?_
  refine V_istore_n C 2 [(2, .int (0 : Int32)), (0, .ref A.1), (1, .int a1)] dX4_inSeat_1 rfl (hlt 2 (by decide)) rfl ?_
  refine V_lv [1, 2, 0] rfl ?_
  exact L2 100 _ _ h
set_option maxHeartbeats 4000000 in
set_option maxRecDepth 100000 in
theorem c_X4_idAt {l : Launch} {D : va_G} {g : G0} {A : MdA} {v : MdV} {a1 : Int32} {R : Int32} (h : f_X4_idAt v a1 = some R) : CtP l D g yX4_idAt cX4_idAt 2 (some .int) (rmF 1 22) (mdW g A v) [.ref A.1, .int a1] (some (.int R)) := by
  refine CtP.of (by decide) rfl rfl (Nat.le_of_ble_eq_true rfl) ?_
  intro K C el eD ekn retI
  subst el
  subst eD
  have hlt : ∀ i, i < 2 → i < kn K := fun i h => by rw [ekn]; exact h
  have B14 : ∀ (x1 : Int32) (s0 : Int32), f_X4_idAt_B14 v x1 s0 = some R → V K 0 0 (mdW g A v) [(0, .ref A.1), (1, .int x1)] [.int s0] 14 := by
    intro x1 s0 h
    rw [f_X4_idAt_B14] at h
    obtain rfl := Option.some.inj h
    exact retI _ _ _ .int rfl (rfl) rfl dX4_idAt_14
  show V K 0 0 _ [(0, .ref A.1), (1, .int a1)] [] 0
  unfold f_X4_idAt at h
  refine V_iload_n C 1 1 dX4_idAt_0 rfl rfl ?_
  refine V_if_ge C 8 4 dX4_idAt_1 rfl rfl (fun e1 => ?_) (fun e1 => ?_)
  · have h := (if_pos e1).symm.trans h
    refine V_aload_n C 0 9 dX4_idAt_8 rfl rfl ?_
    refine V_iload_n C 1 10 dX4_idAt_9 rfl rfl ?_
    refine V_iconst C (0 : Int32) 11 dX4_idAt_10 rfl rfl ?_
    obtain ⟨r2, k3, h⟩ := bd_some h
    refine V_callP C ml_X4_53 (pre := []) (post := []) (w := mdW g A v) (as := [.int a1, .int (0 : Int32)]) (rest := []) (c_X4_m k3) 0 14 dX4_idAt_11 rfl ⟨Nat.le_of_ble_eq_true rfl, Nat.le_of_ble_eq_true rfl⟩ rfl (rfl) rfl rfl rfl (Nat.le_of_ble_eq_true rfl) ⟨Nat.zero_le _, Nat.zero_le _⟩ ?_
    refine V_lv [0, 1] rfl ?_
    exact B14 _ _ h
  · have h := (if_neg e1).symm.trans h
    refine V_iconst C (0 : Int32) 5 dX4_idAt_4 rfl rfl ?_
    refine V_goto C 14 dX4_idAt_5 rfl ?_
    refine V_lv [0, 1] rfl ?_
    exact B14 _ _ h
set_option maxHeartbeats 4000000 in
set_option maxRecDepth 100000 in
theorem c_X4_isPage {l : Launch} {D : va_G} {g : G0}  {a1 : Int32} {R : Int32} (h : f_X4_isPage a1 = some R) : CtP l D g yX4_isPage cX4_isPage 1 (some .boolean) (rmF 1 22) ([]) [.int a1] (some (.int R)) := by
  refine CtP.of (by decide) rfl rfl (Nat.le_of_ble_eq_true rfl) ?_
  intro K C el eD ekn retI
  subst el
  subst eD
  have hlt : ∀ i, i < 1 → i < kn K := fun i h => by rw [ekn]; exact h
  show V K 0 0 _ [(0, .int a1)] [] 0
  unfold f_X4_isPage at h
  refine V_iload_n C 0 1 dX4_isPage_0 rfl rfl ?_
  refine V_iconst C (0 : Int32) 2 dX4_isPage_1 rfl rfl ?_
  refine V_bipush C (59 : Int32) 4 dX4_isPage_2 rfl rfl ?_
  obtain ⟨r1, k2, h⟩ := bd_some h
  refine V_callPs C mls_X4_57 (pre := []) (post := []) (w := []) (as := [.int a1, .int (0 : Int32), .int (59 : Int32)]) (rest := []) (c_X4_in k2) 7 dX4_isPage_4 rfl ⟨Nat.le_of_ble_eq_true rfl, Nat.le_of_ble_eq_true rfl⟩ rfl rfl rfl rfl (Nat.le_of_ble_eq_true rfl) ⟨Nat.zero_le _, Nat.zero_le _⟩ ?_
  obtain ⟨g3, h⟩ := gd_some h
  obtain rfl := Option.some.inj h
  exact retI _ _ _ .boolean rfl (isz_t g3) rfl dX4_isPage_7
set_option maxHeartbeats 4000000 in
set_option maxRecDepth 100000 in
theorem c_X4_isChapter {l : Launch} {D : va_G} {g : G0} {A : MdA} {v : MdV} {a1 : Int32} {R : Int32} (h : f_X4_isChapter v a1 = some R) : CtP l D g yX4_isChapter cX4_isChapter 2 (some .boolean) (rmF 1 22) (mdW g A v) [.ref A.1, .int a1] (some (.int R)) := by
  refine CtP.of (by decide) rfl rfl (Nat.le_of_ble_eq_true rfl) ?_
  intro K C el eD ekn retI
  subst el
  subst eD
  have hlt : ∀ i, i < 2 → i < kn K := fun i h => by rw [ekn]; exact h
  show V K 0 0 _ [(0, .ref A.1), (1, .int a1)] [] 0
  unfold f_X4_isChapter at h
  refine V_iload_n C 1 1 dX4_isChapter_0 rfl rfl ?_
  refine V_iconst C (0 : Int32) 2 dX4_isChapter_1 rfl rfl ?_
  refine V_aload_n C 0 3 dX4_isChapter_2 rfl rfl ?_
  refine V_get C (v := .ref A.2.1) 0 6 fl_X4_9 dX4_isChapter_3 rfl rfl rfl ?_
  refine V_iconst C (2 : Int32) 7 dX4_isChapter_6 rfl rfl ?_
  obtain ⟨g1, h⟩ := gd_some h
  refine V_iald C (f := (Md_all v)) (n := 825) 1 8 dX4_isChapter_7 rfl rfl g1 ?_
  refine V_iconst C (1 : Int32) 9 dX4_isChapter_8 rfl rfl ?_
  refine V_isub C 10 dX4_isChapter_9 rfl ?_
  obtain ⟨r2, k3, h⟩ := bd_some h
  refine V_callPs C mls_X4_57 (pre := []) (post := mdW g A v) (w := []) (as := [.int a1, .int (0 : Int32), .int (((Md_all v) (cl (2 : Int32))) - (1 : Int32))]) (rest := []) (c_X4_in k3) 13 dX4_isChapter_10 rfl ⟨Nat.le_of_ble_eq_true rfl, Nat.le_of_ble_eq_true rfl⟩ rfl rfl rfl rfl (Nat.le_of_ble_eq_true rfl) ⟨Nat.zero_le _, Nat.zero_le _⟩ ?_
  obtain ⟨g4, h⟩ := gd_some h
  obtain rfl := Option.some.inj h
  exact retI _ _ _ .boolean rfl (isz_t g4) rfl dX4_isChapter_13
set_option maxHeartbeats 4000000 in
set_option maxRecDepth 100000 in
theorem c_X4_first {l : Launch} {D : va_G} {g : G0} {A : MdA} {v : MdV} {a1 : Int32} {R : Int32} (h : f_X4_first v a1 = some R) : CtP l D g yX4_first cX4_first 2 (some .int) (rmF 0 0) (mdW g A v) [.ref A.1, .int a1] (some (.int R)) := by
  refine CtP.of (by decide) rfl rfl (Nat.le_of_ble_eq_true rfl) ?_
  intro K C el eD ekn retI
  subst el
  subst eD
  have hlt : ∀ i, i < 2 → i < kn K := fun i h => by rw [ekn]; exact h
  show V K 0 0 _ [(0, .ref A.1), (1, .int a1)] [] 0
  unfold f_X4_first at h
  refine V_aload_n C 0 1 dX4_first_0 rfl rfl ?_
  refine V_get C (v := .ref A.2.1) 0 4 fl_X4_9 dX4_first_1 rfl rfl rfl ?_
  refine V_bipush C (7 : Int32) 6 dX4_first_4 rfl rfl ?_
  refine V_iload_n C 1 7 dX4_first_6 rfl rfl ?_
  refine V_iadd C 8 dX4_first_7 rfl ?_
  obtain ⟨g1, h⟩ := gd_some h
  refine V_iald C (f := (Md_all v)) (n := 825) 1 9 dX4_first_8 rfl rfl g1 ?_
  obtain rfl := Option.some.inj h
  exact retI _ _ _ .int rfl (rfl) rfl dX4_first_9
set_option maxHeartbeats 4000000 in
set_option maxRecDepth 100000 in
theorem c_X4_last {l : Launch} {D : va_G} {g : G0} {A : MdA} {v : MdV} {a1 : Int32} {R : Int32} (h : f_X4_last v a1 = some R) : CtP l D g yX4_last cX4_last 2 (some .int) (rmF 0 0) (mdW g A v) [.ref A.1, .int a1] (some (.int R)) := by
  refine CtP.of (by decide) rfl rfl (Nat.le_of_ble_eq_true rfl) ?_
  intro K C el eD ekn retI
  subst el
  subst eD
  have hlt : ∀ i, i < 2 → i < kn K := fun i h => by rw [ekn]; exact h
  have B30 : ∀ (x1 : Int32) (s0 : Int32), f_X4_last_B30 v x1 s0 = some R → V K 0 0 (mdW g A v) [(0, .ref A.1), (1, .int x1)] [.int s0] 30 := by
    intro x1 s0 h
    rw [f_X4_last_B30] at h
    obtain rfl := Option.some.inj h
    exact retI _ _ _ .int rfl (rfl) rfl dX4_last_30
  show V K 0 0 _ [(0, .ref A.1), (1, .int a1)] [] 0
  unfold f_X4_last at h
  refine V_iload_n C 1 1 dX4_last_0 rfl rfl ?_
  refine V_aload_n C 0 2 dX4_last_1 rfl rfl ?_
  refine V_get C (v := .ref A.2.1) 0 5 fl_X4_9 dX4_last_2 rfl rfl rfl ?_
  refine V_iconst C (2 : Int32) 6 dX4_last_5 rfl rfl ?_
  obtain ⟨g1, h⟩ := gd_some h
  refine V_iald C (f := (Md_all v)) (n := 825) 1 7 dX4_last_6 rfl rfl g1 ?_
  refine V_iconst C (1 : Int32) 8 dX4_last_7 rfl rfl ?_
  refine V_isub C 9 dX4_last_8 rfl ?_
  refine V_icmp_ne C 17 12 dX4_last_9 rfl rfl (fun e2 => ?_) (fun e2 => ?_)
  · have h := (if_neg e2).symm.trans h
    refine V_aload_n C 0 18 dX4_last_17 rfl rfl ?_
    refine V_get C (v := .ref A.2.1) 0 21 fl_X4_9 dX4_last_18 rfl rfl rfl ?_
    refine V_bipush C (7 : Int32) 23 dX4_last_21 rfl rfl ?_
    refine V_iload_n C 1 24 dX4_last_23 rfl rfl ?_
    refine V_iadd C 25 dX4_last_24 rfl ?_
    refine V_iconst C (1 : Int32) 26 dX4_last_25 rfl rfl ?_
    refine V_iadd C 27 dX4_last_26 rfl ?_
    obtain ⟨g3, h⟩ := gd_some h
    refine V_iald C (f := (Md_all v)) (n := 825) 1 28 dX4_last_27 rfl rfl g3 ?_
    refine V_iconst C (1 : Int32) 29 dX4_last_28 rfl rfl ?_
    refine V_isub C 30 dX4_last_29 rfl ?_
    refine V_lv [0, 1] rfl ?_
    exact B30 _ _ h
  · have h := (if_pos e2).symm.trans h
    refine V_bipush C (59 : Int32) 14 dX4_last_12 rfl rfl ?_
    refine V_goto C 30 dX4_last_14 rfl ?_
    refine V_lv [0, 1] rfl ?_
    exact B30 _ _ h
set_option maxHeartbeats 4000000 in
set_option maxRecDepth 100000 in
theorem c_X4_chapterAt {l : Launch} {D : va_G} {g : G0} {A : MdA} {v : MdV} {a1 : Int32} {R : Int32} (h : f_X4_chapterAt v a1 = some R) : CtP l D g yX4_chapterAt cX4_chapterAt 4 (some .int) (rmF 0 0) (mdW g A v) [.ref A.1, .int a1] (some (.int R)) := by
  refine CtP.of (by decide) rfl rfl (Nat.le_of_ble_eq_true rfl) ?_
  intro K C el eD ekn retI
  subst el
  subst eD
  have hlt : ∀ i, i < 4 → i < kn K := fun i h => by rw [ekn]; exact h
  have B32 : ∀ (J : Int32 → Int32 → Int32 → Option Int32) (hJ : ∀ (x1 : Int32) (x2 : Int32) (x3 : Int32), J x1 x2 x3 = some R → V K 0 0 (mdW g A v) [(0, .ref A.1), (1, .int x1), (2, .int x2), (3, .int x3)] [] 4) (x1 : Int32) (x2 : Int32) (x3 : Int32) (s0 : Int32), f_X4_chapterAt_B32 J v x1 x2 x3 s0 = some R → V K 0 0 (mdW g A v) [(0, .ref A.1), (1, .int x1), (2, .int x2), (3, .int x3)] [.int s0] 32 := by
    intro J hJ x1 x2 x3 s0 h
    rw [f_X4_chapterAt_B32] at h
    refine V_istore_n C 33 [(2, .int s0), (0, .ref A.1), (1, .int x1), (3, .int x3)] dX4_chapterAt_32 rfl (hlt 2 (by decide)) rfl ?_
    refine V_iinc C 3 (x3 + (1 : Int32)) 36 [(3, .int (x3 + (1 : Int32))), (2, .int s0), (0, .ref A.1), (1, .int x1)] dX4_chapterAt_33 rfl rfl rfl (hlt 3 (by decide)) rfl ?_
    refine V_goto C 4 dX4_chapterAt_36 rfl ?_
    refine V_lv [2, 3, 1, 0] rfl ?_
    exact hJ _ _ _ h
  have L4 : ∀ (n : Nat) (x1 : Int32) (x2 : Int32) (x3 : Int32), f_X4_chapterAt_L4 v n x1 x2 x3 = some R → V K 0 0 (mdW g A v) [(0, .ref A.1), (1, .int x1), (2, .int x2), (3, .int x3)] [] 4 := by
    intro n
    induction n with
    | zero =>
      intro x1 x2 x3 h
      rw [f_X4_chapterAt_L4] at h
      cases h
    | succ n ih =>
      intro x1 x2 x3 h
      rw [f_X4_chapterAt_L4] at h
      refine V_iload_n C 3 5 dX4_chapterAt_4 rfl rfl ?_
      refine V_aload_n C 0 6 dX4_chapterAt_5 rfl rfl ?_
      refine V_get C (v := .ref A.2.1) 0 9 fl_X4_9 dX4_chapterAt_6 rfl rfl rfl ?_
      refine V_iconst C (2 : Int32) 10 dX4_chapterAt_9 rfl rfl ?_
      obtain ⟨g1, h⟩ := gd_some h
      refine V_iald C (f := (Md_all v)) (n := 825) 1 11 dX4_chapterAt_10 rfl rfl g1 ?_
      refine V_icmp_ge C 39 14 dX4_chapterAt_11 rfl rfl (fun e2 => ?_) (fun e2 => ?_)
      · have h := (if_pos e2).symm.trans h
        refine V_iload_n C 2 40 dX4_chapterAt_39 rfl rfl ?_
        obtain rfl := Option.some.inj h
        exact retI _ _ _ .int rfl (rfl) rfl dX4_chapterAt_40
      · have h := (if_neg e2).symm.trans h
        refine V_aload_n C 0 15 dX4_chapterAt_14 rfl rfl ?_
        refine V_get C (v := .ref A.2.1) 0 18 fl_X4_9 dX4_chapterAt_15 rfl rfl rfl ?_
        refine V_bipush C (7 : Int32) 20 dX4_chapterAt_18 rfl rfl ?_
        refine V_iload_n C 3 21 dX4_chapterAt_20 rfl rfl ?_
        refine V_iadd C 22 dX4_chapterAt_21 rfl ?_
        obtain ⟨g3, h⟩ := gd_some h
        refine V_iald C (f := (Md_all v)) (n := 825) 1 23 dX4_chapterAt_22 rfl rfl g3 ?_
        refine V_iload_n C 1 24 dX4_chapterAt_23 rfl rfl ?_
        refine V_icmp_gt C 31 27 dX4_chapterAt_24 rfl rfl (fun e4 => ?_) (fun e4 => ?_)
        · have h := (if_pos e4).symm.trans h
          refine V_iload_n C 2 32 dX4_chapterAt_31 rfl rfl ?_
          refine V_lv [0, 1, 2, 3] rfl ?_
          exact B32 (f_X4_chapterAt_L4 v n) ih _ _ _ _ h
        · have h := (if_neg e4).symm.trans h
          refine V_iload_n C 3 28 dX4_chapterAt_27 rfl rfl ?_
          refine V_goto C 32 dX4_chapterAt_28 rfl ?_
          refine V_lv [0, 1, 2, 3] rfl ?_
          exact B32 (f_X4_chapterAt_L4 v n) ih _ _ _ _ h
  show V K 0 0 _ [(0, .ref A.1), (1, .int a1)] [] 0
  unfold f_X4_chapterAt at h
  refine V_iconst C (0 : Int32) 1 dX4_chapterAt_0 rfl rfl ?_
  refine V_istore_n C 2 [(2, .int (0 : Int32)), (0, .ref A.1), (1, .int a1)] dX4_chapterAt_1 rfl (hlt 2 (by decide)) rfl ?_
  refine V_iconst C (1 : Int32) 3 dX4_chapterAt_2 rfl rfl ?_
  refine V_istore_n C 4 [(3, .int (1 : Int32)), (2, .int (0 : Int32)), (0, .ref A.1), (1, .int a1)] dX4_chapterAt_3 rfl (hlt 3 (by decide)) rfl ?_
  refine V_lv [2, 3, 1, 0] rfl ?_
  exact L4 100 _ _ _ h
set_option maxHeartbeats 4000000 in
set_option maxRecDepth 100000 in
theorem c_X4_ofChapter {l : Launch} {D : va_G} {g : G0} {A : MdA} {v : MdV} {a1 a2 : Int32} {R : Int32} (h : f_X4_ofChapter v a1 a2 = some R) : CtP l D g yX4_ofChapter cX4_ofChapter 5 (some .int) (rmF 1 23) (mdW g A v) [.ref A.1, .int a1, .int a2] (some (.int R)) := by
  refine CtP.of (by decide) rfl rfl (Nat.le_of_ble_eq_true rfl) ?_
  intro K C el eD ekn retI
  subst el
  subst eD
  have hlt : ∀ i, i < 5 → i < kn K := fun i h => by rw [ekn]; exact h
  have B51 : ∀ (J : Int32 → Int32 → Int32 → Int32 → Option Int32) (hJ : ∀ (x1 : Int32) (x2 : Int32) (x3 : Int32) (x4 : Int32), J x1 x2 x3 x4 = some R → V K 0 0 (mdW g A v) [(0, .ref A.1), (1, .int x1), (2, .int x2), (3, .int x3), (4, .int x4)] [] 5) (x1 : Int32) (x2 : Int32) (x3 : Int32) (x4 : Int32) (s0 : Int32) (s1 : Int32), f_X4_ofChapter_B51 J v x1 x2 x3 x4 s0 s1 = some R → V K 0 0 (mdW g A v) [(0, .ref A.1), (1, .int x1), (2, .int x2), (3, .int x3), (4, .int x4)] [.int s0, .int s1] 51 := by
    intro J hJ x1 x2 x3 x4 s0 s1 h
    rw [f_X4_ofChapter_B51] at h
    refine V_iadd C 52 dX4_ofChapter_51 rfl ?_
    refine V_istore_n C 53 [(3, .int (s1 + s0)), (0, .ref A.1), (1, .int x1), (2, .int x2), (4, .int x4)] dX4_ofChapter_52 rfl (hlt 3 (by decide)) rfl ?_
    refine V_iinc C 4 (x4 + (1 : Int32)) 56 [(4, .int (x4 + (1 : Int32))), (3, .int (s1 + s0)), (0, .ref A.1), (1, .int x1), (2, .int x2)] dX4_ofChapter_53 rfl rfl rfl (hlt 4 (by decide)) rfl ?_
    refine V_goto C 5 dX4_ofChapter_56 rfl ?_
    refine V_lv [2, 3, 4, 1, 0] rfl ?_
    exact hJ _ _ _ _ h
  have L5 : ∀ (n : Nat) (x1 : Int32) (x2 : Int32) (x3 : Int32) (x4 : Int32), f_X4_ofChapter_L5 v n x1 x2 x3 x4 = some R → V K 0 0 (mdW g A v) [(0, .ref A.1), (1, .int x1), (2, .int x2), (3, .int x3), (4, .int x4)] [] 5 := by
    intro n
    induction n with
    | zero =>
      intro x1 x2 x3 x4 h
      rw [f_X4_ofChapter_L5] at h
      cases h
    | succ n ih =>
      intro x1 x2 x3 x4 h
      rw [f_X4_ofChapter_L5] at h
      refine V_iload C 4 7 dX4_ofChapter_5 rfl rfl ?_
      refine V_aload_n C 0 8 dX4_ofChapter_7 rfl rfl ?_
      refine V_get C (v := .ref A.2.1) 0 11 fl_X4_9 dX4_ofChapter_8 rfl rfl rfl ?_
      refine V_iconst C (0 : Int32) 12 dX4_ofChapter_11 rfl rfl ?_
      obtain ⟨g1, h⟩ := gd_some h
      refine V_iald C (f := (Md_all v)) (n := 825) 1 13 dX4_ofChapter_12 rfl rfl g1 ?_
      refine V_icmp_ge C 59 16 dX4_ofChapter_13 rfl rfl (fun e2 => ?_) (fun e2 => ?_)
      · have h := (if_pos e2).symm.trans h
        refine V_iload_n C 3 60 dX4_ofChapter_59 rfl rfl ?_
        obtain rfl := Option.some.inj h
        exact retI _ _ _ .int rfl (rfl) rfl dX4_ofChapter_60
      · have h := (if_neg e2).symm.trans h
        refine V_iload_n C 3 17 dX4_ofChapter_16 rfl rfl ?_
        refine V_aload_n C 0 18 dX4_ofChapter_17 rfl rfl ?_
        refine V_aload_n C 0 19 dX4_ofChapter_18 rfl rfl ?_
        refine V_iload C 4 21 dX4_ofChapter_19 rfl rfl ?_
        refine V_iconst C (1 : Int32) 22 dX4_ofChapter_21 rfl rfl ?_
        obtain ⟨r3, k4, h⟩ := bd_some h
        refine V_callP C ml_X4_53 (pre := []) (post := []) (w := mdW g A v) (as := [.int x4, .int (1 : Int32)]) (rest := [.ref A.1, .int x3]) (c_X4_m k4) 0 25 dX4_ofChapter_22 rfl ⟨Nat.le_of_ble_eq_true rfl, Nat.le_of_ble_eq_true rfl⟩ rfl (rfl) rfl rfl rfl (Nat.le_of_ble_eq_true rfl) ⟨Nat.zero_le _, Nat.zero_le _⟩ ?_
        obtain ⟨r5, k6, h⟩ := bd_some h
        refine V_callP C ml_X4_61 (pre := []) (post := []) (w := mdW g A v) (as := [.int r3]) (rest := [.int x3]) (c_X4_chapterAt k6) 0 28 dX4_ofChapter_25 rfl ⟨Nat.le_of_ble_eq_true rfl, Nat.le_of_ble_eq_true rfl⟩ rfl (rfl) rfl rfl rfl (Nat.le_of_ble_eq_true rfl) ⟨Nat.zero_le _, Nat.zero_le _⟩ ?_
        refine V_iload_n C 1 29 dX4_ofChapter_28 rfl rfl ?_
        refine V_icmp_ne C 50 32 dX4_ofChapter_29 rfl rfl (fun e7 => ?_) (fun e7 => ?_)
        · have h := (if_neg e7).symm.trans h
          refine V_iconst C (0 : Int32) 51 dX4_ofChapter_50 rfl rfl ?_
          refine V_lv [0, 1, 2, 3, 4] rfl ?_
          exact B51 (f_X4_ofChapter_L5 v n) ih _ _ _ _ _ _ h
        · have h := (if_pos e7).symm.trans h
          refine V_iload_n C 2 33 dX4_ofChapter_32 rfl rfl ?_
          refine V_if_ne C 40 36 dX4_ofChapter_33 rfl rfl (fun e8 => ?_) (fun e8 => ?_)
          · have h := (if_neg e8).symm.trans h
            refine V_aload_n C 0 41 dX4_ofChapter_40 rfl rfl ?_
            refine V_iload C 4 43 dX4_ofChapter_41 rfl rfl ?_
            refine V_iconst C (2 : Int32) 44 dX4_ofChapter_43 rfl rfl ?_
            obtain ⟨r9, k10, h⟩ := bd_some h
            refine V_callP C ml_X4_53 (pre := []) (post := []) (w := mdW g A v) (as := [.int x4, .int (2 : Int32)]) (rest := [.int x3]) (c_X4_m k10) 0 47 dX4_ofChapter_44 rfl ⟨Nat.le_of_ble_eq_true rfl, Nat.le_of_ble_eq_true rfl⟩ rfl (rfl) rfl rfl rfl (Nat.le_of_ble_eq_true rfl) ⟨Nat.zero_le _, Nat.zero_le _⟩ ?_
            refine V_goto C 51 dX4_ofChapter_47 rfl ?_
            refine V_lv [0, 1, 2, 3, 4] rfl ?_
            exact B51 (f_X4_ofChapter_L5 v n) ih _ _ _ _ _ _ h
          · have h := (if_pos e8).symm.trans h
            refine V_iconst C (1 : Int32) 37 dX4_ofChapter_36 rfl rfl ?_
            refine V_goto C 51 dX4_ofChapter_37 rfl ?_
            refine V_lv [0, 1, 2, 3, 4] rfl ?_
            exact B51 (f_X4_ofChapter_L5 v n) ih _ _ _ _ _ _ h
  show V K 0 0 _ [(0, .ref A.1), (1, .int a1), (2, .int a2)] [] 0
  unfold f_X4_ofChapter at h
  refine V_iconst C (0 : Int32) 1 dX4_ofChapter_0 rfl rfl ?_
  refine V_istore_n C 2 [(3, .int (0 : Int32)), (0, .ref A.1), (1, .int a1), (2, .int a2)] dX4_ofChapter_1 rfl (hlt 3 (by decide)) rfl ?_
  refine V_iconst C (0 : Int32) 3 dX4_ofChapter_2 rfl rfl ?_
  refine V_istore C 5 [(4, .int (0 : Int32)), (3, .int (0 : Int32)), (0, .ref A.1), (1, .int a1), (2, .int a2)] dX4_ofChapter_3 rfl (hlt 4 (by decide)) rfl ?_
  refine V_lv [2, 3, 4, 1, 0] rfl ?_
  exact L5 100 _ _ _ _ h
set_option maxHeartbeats 4000000 in
set_option maxRecDepth 100000 in
theorem c_X4_weightOfAll {l : Launch} {D : va_G} {g : G0} {A : MdA} {v : MdV} {a1 : Int32} {R : Int32} (h : f_X4_weightOfAll v a1 = some R) : CtP l D g yX4_weightOfAll cX4_weightOfAll 4 (some .int) (rmF 1 22) (mdW g A v) [.ref A.1, .int a1] (some (.int R)) := by
  refine CtP.of (by decide) rfl rfl (Nat.le_of_ble_eq_true rfl) ?_
  intro K C el eD ekn retI
  subst el
  subst eD
  have hlt : ∀ i, i < 4 → i < kn K := fun i h => by rw [ekn]; exact h
  have B56 : ∀ (J : Int32 → Int32 → Int32 → Option Int32) (hJ : ∀ (x1 : Int32) (x2 : Int32) (x3 : Int32), J x1 x2 x3 = some R → V K 0 0 (mdW g A v) [(0, .ref A.1), (1, .int x1), (2, .int x2), (3, .int x3)] [] 4) (x1 : Int32) (x2 : Int32) (x3 : Int32) (s0 : Int32) (s1 : Int32), f_X4_weightOfAll_B56 J v x1 x2 x3 s0 s1 = some R → V K 0 0 (mdW g A v) [(0, .ref A.1), (1, .int x1), (2, .int x2), (3, .int x3)] [.int s0, .int s1] 56 := by
    intro J hJ x1 x2 x3 s0 s1 h
    rw [f_X4_weightOfAll_B56] at h
    refine V_iadd C 57 dX4_weightOfAll_56 rfl ?_
    refine V_istore_n C 58 [(2, .int (s1 + s0)), (0, .ref A.1), (1, .int x1), (3, .int x3)] dX4_weightOfAll_57 rfl (hlt 2 (by decide)) rfl ?_
    refine V_iinc C 3 (x3 + (1 : Int32)) 61 [(3, .int (x3 + (1 : Int32))), (2, .int (s1 + s0)), (0, .ref A.1), (1, .int x1)] dX4_weightOfAll_58 rfl rfl rfl (hlt 3 (by decide)) rfl ?_
    refine V_goto C 4 dX4_weightOfAll_61 rfl ?_
    refine V_lv [2, 3, 1, 0] rfl ?_
    exact hJ _ _ _ h
  have B46 : ∀ (J : Int32 → Int32 → Int32 → Option Int32) (hJ : ∀ (x1 : Int32) (x2 : Int32) (x3 : Int32), J x1 x2 x3 = some R → V K 0 0 (mdW g A v) [(0, .ref A.1), (1, .int x1), (2, .int x2), (3, .int x3)] [] 4) (x1 : Int32) (x2 : Int32) (x3 : Int32) (s0 : Int32), f_X4_weightOfAll_B46 J v x1 x2 x3 s0 = some R → V K 0 0 (mdW g A v) [(0, .ref A.1), (1, .int x1), (2, .int x2), (3, .int x3)] [.int s0] 46 := by
    intro J hJ x1 x2 x3 s0 h
    rw [f_X4_weightOfAll_B46] at h
    refine V_aload_n C 0 47 dX4_weightOfAll_46 rfl rfl ?_
    refine V_iload_n C 3 48 dX4_weightOfAll_47 rfl rfl ?_
    refine V_iconst C (2 : Int32) 49 dX4_weightOfAll_48 rfl rfl ?_
    obtain ⟨r1, k2, h⟩ := bd_some h
    refine V_callP C ml_X4_53 (pre := []) (post := []) (w := mdW g A v) (as := [.int x3, .int (2 : Int32)]) (rest := [.int s0]) (c_X4_m k2) 0 52 dX4_weightOfAll_49 rfl ⟨Nat.le_of_ble_eq_true rfl, Nat.le_of_ble_eq_true rfl⟩ rfl (rfl) rfl rfl rfl (Nat.le_of_ble_eq_true rfl) ⟨Nat.zero_le _, Nat.zero_le _⟩ ?_
    refine V_goto C 56 dX4_weightOfAll_52 rfl ?_
    refine V_lv [0, 1, 2, 3] rfl ?_
    exact B56 J hJ _ _ _ _ _ h
  have B43 : ∀ (J : Int32 → Int32 → Int32 → Option Int32) (hJ : ∀ (x1 : Int32) (x2 : Int32) (x3 : Int32), J x1 x2 x3 = some R → V K 0 0 (mdW g A v) [(0, .ref A.1), (1, .int x1), (2, .int x2), (3, .int x3)] [] 4) (x1 : Int32) (x2 : Int32) (x3 : Int32) (s0 : Int32) (s1 : Int32) (s2 : Int32), f_X4_weightOfAll_B43 J v x1 x2 x3 s0 s1 s2 = some R → V K 0 0 (mdW g A v) [(0, .ref A.1), (1, .int x1), (2, .int x2), (3, .int x3)] [.int s0, .int s1, .int s2] 43 := by
    intro J hJ x1 x2 x3 s0 s1 s2 h
    rw [f_X4_weightOfAll_B43] at h
    refine V_icmp_ne C 55 46 dX4_weightOfAll_43 rfl rfl (fun e3 => ?_) (fun e3 => ?_)
    · have h := (if_neg e3).symm.trans h
      refine V_iconst C (0 : Int32) 56 dX4_weightOfAll_55 rfl rfl ?_
      refine V_lv [0, 1, 2, 3] rfl ?_
      exact B56 J hJ _ _ _ _ _ h
    · have h := (if_pos e3).symm.trans h
      refine V_lv [0, 1, 2, 3] rfl ?_
      exact B46 J hJ _ _ _ _ h
  have B33 : ∀ (J : Int32 → Int32 → Int32 → Option Int32) (hJ : ∀ (x1 : Int32) (x2 : Int32) (x3 : Int32), J x1 x2 x3 = some R → V K 0 0 (mdW g A v) [(0, .ref A.1), (1, .int x1), (2, .int x2), (3, .int x3)] [] 4) (x1 : Int32) (x2 : Int32) (x3 : Int32) (s0 : Int32) (s1 : Int32), f_X4_weightOfAll_B33 J v x1 x2 x3 s0 s1 = some R → V K 0 0 (mdW g A v) [(0, .ref A.1), (1, .int x1), (2, .int x2), (3, .int x3)] [.int s0, .int s1] 33 := by
    intro J hJ x1 x2 x3 s0 s1 h
    rw [f_X4_weightOfAll_B33] at h
    refine V_iload_n C 1 34 dX4_weightOfAll_33 rfl rfl ?_
    refine V_iconst C (1 : Int32) 35 dX4_weightOfAll_34 rfl rfl ?_
    refine V_icmp_ne C 42 38 dX4_weightOfAll_35 rfl rfl (fun e4 => ?_) (fun e4 => ?_)
    · have h := (if_neg e4).symm.trans h
      refine V_iconst C (0 : Int32) 43 dX4_weightOfAll_42 rfl rfl ?_
      refine V_lv [0, 1, 2, 3] rfl ?_
      exact B43 J hJ _ _ _ _ _ _ h
    · have h := (if_pos e4).symm.trans h
      refine V_iconst C (1 : Int32) 39 dX4_weightOfAll_38 rfl rfl ?_
      refine V_goto C 43 dX4_weightOfAll_39 rfl ?_
      refine V_lv [0, 1, 2, 3] rfl ?_
      exact B43 J hJ _ _ _ _ _ _ h
  have L4 : ∀ (n : Nat) (x1 : Int32) (x2 : Int32) (x3 : Int32), f_X4_weightOfAll_L4 v n x1 x2 x3 = some R → V K 0 0 (mdW g A v) [(0, .ref A.1), (1, .int x1), (2, .int x2), (3, .int x3)] [] 4 := by
    intro n
    induction n with
    | zero =>
      intro x1 x2 x3 h
      rw [f_X4_weightOfAll_L4] at h
      cases h
    | succ n ih =>
      intro x1 x2 x3 h
      rw [f_X4_weightOfAll_L4] at h
      refine V_iload_n C 3 5 dX4_weightOfAll_4 rfl rfl ?_
      refine V_aload_n C 0 6 dX4_weightOfAll_5 rfl rfl ?_
      refine V_get C (v := .ref A.2.1) 0 9 fl_X4_9 dX4_weightOfAll_6 rfl rfl rfl ?_
      refine V_iconst C (0 : Int32) 10 dX4_weightOfAll_9 rfl rfl ?_
      obtain ⟨g5, h⟩ := gd_some h
      refine V_iald C (f := (Md_all v)) (n := 825) 1 11 dX4_weightOfAll_10 rfl rfl g5 ?_
      refine V_icmp_ge C 64 14 dX4_weightOfAll_11 rfl rfl (fun e6 => ?_) (fun e6 => ?_)
      · have h := (if_pos e6).symm.trans h
        refine V_iload_n C 2 65 dX4_weightOfAll_64 rfl rfl ?_
        obtain rfl := Option.some.inj h
        exact retI _ _ _ .int rfl (rfl) rfl dX4_weightOfAll_65
      · have h := (if_neg e6).symm.trans h
        refine V_iload_n C 2 15 dX4_weightOfAll_14 rfl rfl ?_
        refine V_iload_n C 1 16 dX4_weightOfAll_15 rfl rfl ?_
        refine V_if_eq C 46 19 dX4_weightOfAll_16 rfl rfl (fun e7 => ?_) (fun e7 => ?_)
        · have h := (if_pos e7).symm.trans h
          refine V_lv [0, 1, 2, 3] rfl ?_
          exact B46 (f_X4_weightOfAll_L4 v n) ih _ _ _ _ h
        · have h := (if_neg e7).symm.trans h
          refine V_aload_n C 0 20 dX4_weightOfAll_19 rfl rfl ?_
          refine V_iload_n C 3 21 dX4_weightOfAll_20 rfl rfl ?_
          refine V_iconst C (3 : Int32) 22 dX4_weightOfAll_21 rfl rfl ?_
          obtain ⟨r8, k9, h⟩ := bd_some h
          refine V_callP C ml_X4_53 (pre := []) (post := []) (w := mdW g A v) (as := [.int x3, .int (3 : Int32)]) (rest := [.int x2]) (c_X4_m k9) 0 25 dX4_weightOfAll_22 rfl ⟨Nat.le_of_ble_eq_true rfl, Nat.le_of_ble_eq_true rfl⟩ rfl (rfl) rfl rfl rfl (Nat.le_of_ble_eq_true rfl) ⟨Nat.zero_le _, Nat.zero_le _⟩ ?_
          refine V_if_le C 32 28 dX4_weightOfAll_25 rfl rfl (fun e10 => ?_) (fun e10 => ?_)
          · have h := (if_pos e10).symm.trans h
            refine V_iconst C (0 : Int32) 33 dX4_weightOfAll_32 rfl rfl ?_
            refine V_lv [0, 1, 2, 3] rfl ?_
            exact B33 (f_X4_weightOfAll_L4 v n) ih _ _ _ _ _ h
          · have h := (if_neg e10).symm.trans h
            refine V_iconst C (1 : Int32) 29 dX4_weightOfAll_28 rfl rfl ?_
            refine V_goto C 33 dX4_weightOfAll_29 rfl ?_
            refine V_lv [0, 1, 2, 3] rfl ?_
            exact B33 (f_X4_weightOfAll_L4 v n) ih _ _ _ _ _ h
  show V K 0 0 _ [(0, .ref A.1), (1, .int a1)] [] 0
  unfold f_X4_weightOfAll at h
  refine V_iconst C (0 : Int32) 1 dX4_weightOfAll_0 rfl rfl ?_
  refine V_istore_n C 2 [(2, .int (0 : Int32)), (0, .ref A.1), (1, .int a1)] dX4_weightOfAll_1 rfl (hlt 2 (by decide)) rfl ?_
  refine V_iconst C (0 : Int32) 3 dX4_weightOfAll_2 rfl rfl ?_
  refine V_istore_n C 4 [(3, .int (0 : Int32)), (2, .int (0 : Int32)), (0, .ref A.1), (1, .int a1)] dX4_weightOfAll_3 rfl (hlt 3 (by decide)) rfl ?_
  refine V_lv [2, 3, 1, 0] rfl ?_
  exact L4 100 _ _ _ h
set_option maxHeartbeats 4000000 in
set_option maxRecDepth 100000 in
theorem c_X4_favour {l : Launch} {D : va_G} {g : G0} {A : MdA} {v : MdV} {a1 : Int32} {R : Int32} (h : f_X4_favour v a1 = some R) : CtP l D g yX4_favour cX4_favour 4 (some .int) (rmF 1 23) (mdW g A v) [.ref A.1, .int a1] (some (.int R)) := by
  refine CtP.of (by decide) rfl rfl (Nat.le_of_ble_eq_true rfl) ?_
  intro K C el eD ekn retI
  subst el
  subst eD
  have hlt : ∀ i, i < 4 → i < kn K := fun i h => by rw [ekn]; exact h
  have B48 : ∀ (J : Int32 → Int32 → Int32 → Option Int32) (hJ : ∀ (x1 : Int32) (x2 : Int32) (x3 : Int32), J x1 x2 x3 = some R → V K 0 0 (mdW g A v) [(0, .ref A.1), (1, .int x1), (2, .int x2), (3, .int x3)] [] 4) (x1 : Int32) (x2 : Int32) (x3 : Int32) (s0 : Int32) (s1 : Int32), f_X4_favour_B48 J v x1 x2 x3 s0 s1 = some R → V K 0 0 (mdW g A v) [(0, .ref A.1), (1, .int x1), (2, .int x2), (3, .int x3)] [.int s0, .int s1] 48 := by
    intro J hJ x1 x2 x3 s0 s1 h
    rw [f_X4_favour_B48] at h
    refine V_iadd C 49 dX4_favour_48 rfl ?_
    refine V_istore_n C 50 [(2, .int (s1 + s0)), (0, .ref A.1), (1, .int x1), (3, .int x3)] dX4_favour_49 rfl (hlt 2 (by decide)) rfl ?_
    refine V_iinc C 3 (x3 + (1 : Int32)) 53 [(3, .int (x3 + (1 : Int32))), (2, .int (s1 + s0)), (0, .ref A.1), (1, .int x1)] dX4_favour_50 rfl rfl rfl (hlt 3 (by decide)) rfl ?_
    refine V_goto C 4 dX4_favour_53 rfl ?_
    refine V_lv [2, 3, 1, 0] rfl ?_
    exact hJ _ _ _ h
  have B47 : ∀ (J : Int32 → Int32 → Int32 → Option Int32) (hJ : ∀ (x1 : Int32) (x2 : Int32) (x3 : Int32), J x1 x2 x3 = some R → V K 0 0 (mdW g A v) [(0, .ref A.1), (1, .int x1), (2, .int x2), (3, .int x3)] [] 4) (x1 : Int32) (x2 : Int32) (x3 : Int32) (s0 : Int32), f_X4_favour_B47 J v x1 x2 x3 s0 = some R → V K 0 0 (mdW g A v) [(0, .ref A.1), (1, .int x1), (2, .int x2), (3, .int x3)] [.int s0] 47 := by
    intro J hJ x1 x2 x3 s0 h
    rw [f_X4_favour_B47] at h
    refine V_iconst C (0 : Int32) 48 dX4_favour_47 rfl rfl ?_
    refine V_lv [0, 1, 2, 3] rfl ?_
    exact B48 J hJ _ _ _ _ _ h
  have L4 : ∀ (n : Nat) (x1 : Int32) (x2 : Int32) (x3 : Int32), f_X4_favour_L4 v n x1 x2 x3 = some R → V K 0 0 (mdW g A v) [(0, .ref A.1), (1, .int x1), (2, .int x2), (3, .int x3)] [] 4 := by
    intro n
    induction n with
    | zero =>
      intro x1 x2 x3 h
      rw [f_X4_favour_L4] at h
      cases h
    | succ n ih =>
      intro x1 x2 x3 h
      rw [f_X4_favour_L4] at h
      refine V_iload_n C 3 5 dX4_favour_4 rfl rfl ?_
      refine V_aload_n C 0 6 dX4_favour_5 rfl rfl ?_
      refine V_get C (v := .ref A.2.1) 0 9 fl_X4_9 dX4_favour_6 rfl rfl rfl ?_
      refine V_iconst C (0 : Int32) 10 dX4_favour_9 rfl rfl ?_
      obtain ⟨g1, h⟩ := gd_some h
      refine V_iald C (f := (Md_all v)) (n := 825) 1 11 dX4_favour_10 rfl rfl g1 ?_
      refine V_icmp_ge C 56 14 dX4_favour_11 rfl rfl (fun e2 => ?_) (fun e2 => ?_)
      · have h := (if_pos e2).symm.trans h
        refine V_iload_n C 2 57 dX4_favour_56 rfl rfl ?_
        obtain rfl := Option.some.inj h
        exact retI _ _ _ .int rfl (rfl) rfl dX4_favour_57
      · have h := (if_neg e2).symm.trans h
        refine V_iload_n C 2 15 dX4_favour_14 rfl rfl ?_
        refine V_aload_n C 0 16 dX4_favour_15 rfl rfl ?_
        refine V_iload_n C 3 17 dX4_favour_16 rfl rfl ?_
        refine V_iconst C (3 : Int32) 18 dX4_favour_17 rfl rfl ?_
        obtain ⟨r3, k4, h⟩ := bd_some h
        refine V_callP C ml_X4_53 (pre := []) (post := []) (w := mdW g A v) (as := [.int x3, .int (3 : Int32)]) (rest := [.int x2]) (c_X4_m k4) 0 21 dX4_favour_18 rfl ⟨Nat.le_of_ble_eq_true rfl, Nat.le_of_ble_eq_true rfl⟩ rfl (rfl) rfl rfl rfl (Nat.le_of_ble_eq_true rfl) ⟨Nat.zero_le _, Nat.zero_le _⟩ ?_
        refine V_if_le C 47 24 dX4_favour_21 rfl rfl (fun e5 => ?_) (fun e5 => ?_)
        · have h := (if_pos e5).symm.trans h
          refine V_lv [0, 1, 2, 3] rfl ?_
          exact B47 (f_X4_favour_L4 v n) ih _ _ _ _ h
        · have h := (if_neg e5).symm.trans h
          refine V_aload_n C 0 25 dX4_favour_24 rfl rfl ?_
          refine V_aload_n C 0 26 dX4_favour_25 rfl rfl ?_
          refine V_iload_n C 3 27 dX4_favour_26 rfl rfl ?_
          refine V_iconst C (1 : Int32) 28 dX4_favour_27 rfl rfl ?_
          obtain ⟨r6, k7, h⟩ := bd_some h
          refine V_callP C ml_X4_53 (pre := []) (post := []) (w := mdW g A v) (as := [.int x3, .int (1 : Int32)]) (rest := [.ref A.1, .int x2]) (c_X4_m k7) 0 31 dX4_favour_28 rfl ⟨Nat.le_of_ble_eq_true rfl, Nat.le_of_ble_eq_true rfl⟩ rfl (rfl) rfl rfl rfl (Nat.le_of_ble_eq_true rfl) ⟨Nat.zero_le _, Nat.zero_le _⟩ ?_
          obtain ⟨r8, k9, h⟩ := bd_some h
          refine V_callP C ml_X4_61 (pre := []) (post := []) (w := mdW g A v) (as := [.int r6]) (rest := [.int x2]) (c_X4_chapterAt k9) 0 34 dX4_favour_31 rfl ⟨Nat.le_of_ble_eq_true rfl, Nat.le_of_ble_eq_true rfl⟩ rfl (rfl) rfl rfl rfl (Nat.le_of_ble_eq_true rfl) ⟨Nat.zero_le _, Nat.zero_le _⟩ ?_
          refine V_iload_n C 1 35 dX4_favour_34 rfl rfl ?_
          refine V_icmp_eq C 47 38 dX4_favour_35 rfl rfl (fun e10 => ?_) (fun e10 => ?_)
          · have h := (if_pos e10).symm.trans h
            refine V_lv [0, 1, 2, 3] rfl ?_
            exact B47 (f_X4_favour_L4 v n) ih _ _ _ _ h
          · have h := (if_neg e10).symm.trans h
            refine V_aload_n C 0 39 dX4_favour_38 rfl rfl ?_
            refine V_iload_n C 3 40 dX4_favour_39 rfl rfl ?_
            refine V_iconst C (2 : Int32) 41 dX4_favour_40 rfl rfl ?_
            obtain ⟨r11, k12, h⟩ := bd_some h
            refine V_callP C ml_X4_53 (pre := []) (post := []) (w := mdW g A v) (as := [.int x3, .int (2 : Int32)]) (rest := [.int x2]) (c_X4_m k12) 0 44 dX4_favour_41 rfl ⟨Nat.le_of_ble_eq_true rfl, Nat.le_of_ble_eq_true rfl⟩ rfl (rfl) rfl rfl rfl (Nat.le_of_ble_eq_true rfl) ⟨Nat.zero_le _, Nat.zero_le _⟩ ?_
            refine V_goto C 48 dX4_favour_44 rfl ?_
            refine V_lv [0, 1, 2, 3] rfl ?_
            exact B48 (f_X4_favour_L4 v n) ih _ _ _ _ _ h
  show V K 0 0 _ [(0, .ref A.1), (1, .int a1)] [] 0
  unfold f_X4_favour at h
  refine V_iconst C (0 : Int32) 1 dX4_favour_0 rfl rfl ?_
  refine V_istore_n C 2 [(2, .int (0 : Int32)), (0, .ref A.1), (1, .int a1)] dX4_favour_1 rfl (hlt 2 (by decide)) rfl ?_
  refine V_iconst C (0 : Int32) 3 dX4_favour_2 rfl rfl ?_
  refine V_istore_n C 4 [(3, .int (0 : Int32)), (2, .int (0 : Int32)), (0, .ref A.1), (1, .int a1)] dX4_favour_3 rfl (hlt 3 (by decide)) rfl ?_
  refine V_lv [2, 3, 1, 0] rfl ?_
  exact L4 100 _ _ _ h
set_option maxHeartbeats 4000000 in
set_option maxRecDepth 100000 in
theorem c_X4_isCarried {l : Launch} {D : va_G} {g : G0} {A : MdA} {v : MdV} {a1 : Int32} {R : Int32} (h : f_X4_isCarried v a1 = some R) : CtP l D g yX4_isCarried cX4_isCarried 2 (some .boolean) (rmF 2 46) (mdW g A v) [.ref A.1, .int a1] (some (.int R)) := by
  refine CtP.of (by decide) rfl rfl (Nat.le_of_ble_eq_true rfl) ?_
  intro K C el eD ekn retI
  subst el
  subst eD
  have hlt : ∀ i, i < 2 → i < kn K := fun i h => by rw [ekn]; exact h
  have B20 : ∀ (x1 : Int32) (s0 : Int32), f_X4_isCarried_B20 v x1 s0 = some R → V K 0 0 (mdW g A v) [(0, .ref A.1), (1, .int x1)] [.int s0] 20 := by
    intro x1 s0 h
    rw [f_X4_isCarried_B20] at h
    obtain ⟨g1, h⟩ := gd_some h
    obtain rfl := Option.some.inj h
    exact retI _ _ _ .boolean rfl (isz_t g1) rfl dX4_isCarried_20
  show V K 0 0 _ [(0, .ref A.1), (1, .int a1)] [] 0
  unfold f_X4_isCarried at h
  refine V_iconst C (2 : Int32) 1 dX4_isCarried_0 rfl rfl ?_
  refine V_aload_n C 0 2 dX4_isCarried_1 rfl rfl ?_
  refine V_iload_n C 1 3 dX4_isCarried_2 rfl rfl ?_
  obtain ⟨r2, k3, h⟩ := bd_some h
  refine V_callP C ml_X4_65 (pre := []) (post := []) (w := mdW g A v) (as := [.int a1]) (rest := [.int (2 : Int32)]) (c_X4_favour k3) 0 6 dX4_isCarried_3 rfl ⟨Nat.le_of_ble_eq_true rfl, Nat.le_of_ble_eq_true rfl⟩ rfl (rfl) rfl rfl rfl (Nat.le_of_ble_eq_true rfl) ⟨Nat.zero_le _, Nat.zero_le _⟩ ?_
  refine V_imul C 7 dX4_isCarried_6 rfl ?_
  refine V_aload_n C 0 8 dX4_isCarried_7 rfl rfl ?_
  refine V_iconst C (0 : Int32) 9 dX4_isCarried_8 rfl rfl ?_
  obtain ⟨r4, k5, h⟩ := bd_some h
  refine V_callP C ml_X4_68 (pre := []) (post := []) (w := mdW g A v) (as := [.int (0 : Int32)]) (rest := [.int ((2 : Int32) * r2)]) (c_X4_weightOfAll k5) 0 12 dX4_isCarried_9 rfl ⟨Nat.le_of_ble_eq_true rfl, Nat.le_of_ble_eq_true rfl⟩ rfl (rfl) rfl rfl rfl (Nat.le_of_ble_eq_true rfl) ⟨Nat.zero_le _, Nat.zero_le _⟩ ?_
  refine V_icmp_le C 19 15 dX4_isCarried_12 rfl rfl (fun e6 => ?_) (fun e6 => ?_)
  · have h := (if_pos e6).symm.trans h
    refine V_iconst C (0 : Int32) 20 dX4_isCarried_19 rfl rfl ?_
    refine V_lv [0, 1] rfl ?_
    exact B20 _ _ h
  · have h := (if_neg e6).symm.trans h
    refine V_iconst C (1 : Int32) 16 dX4_isCarried_15 rfl rfl ?_
    refine V_goto C 20 dX4_isCarried_16 rfl ?_
    refine V_lv [0, 1] rfl ?_
    exact B20 _ _ h
set_option maxHeartbeats 4000000 in
set_option maxRecDepth 100000 in
theorem c_X4_freeSeat {l : Launch} {D : va_G} {g : G0} {A : MdA} {v : MdV} {R : Int32} (h : f_X4_freeSeat v  = some R) : CtP l D g yX4_freeSeat cX4_freeSeat 2 (some .int) (rmF 2 44) (mdW g A v) [.ref A.1] (some (.int R)) := by
  refine CtP.of (by decide) rfl rfl (Nat.le_of_ble_eq_true rfl) ?_
  intro K C el eD ekn retI
  subst el
  subst eD
  have hlt : ∀ i, i < 2 → i < kn K := fun i h => by rw [ekn]; exact h
  have L2 : ∀ (n : Nat) (x1 : Int32), f_X4_freeSeat_L2 v n x1 = some R → V K 0 0 (mdW g A v) [(0, .ref A.1), (1, .int x1)] [] 2 := by
    intro n
    induction n with
    | zero =>
      intro x1 h
      rw [f_X4_freeSeat_L2] at h
      cases h
    | succ n ih =>
      intro x1 h
      rw [f_X4_freeSeat_L2] at h
      refine V_iload_n C 1 3 dX4_freeSeat_2 rfl rfl ?_
      refine V_iconst C (5 : Int32) 4 dX4_freeSeat_3 rfl rfl ?_
      refine V_icmp_ge C 23 7 dX4_freeSeat_4 rfl rfl (fun e1 => ?_) (fun e1 => ?_)
      · have h := (if_pos e1).symm.trans h
        refine V_iconst C (-1 : Int32) 24 dX4_freeSeat_23 rfl rfl ?_
        obtain rfl := Option.some.inj h
        exact retI _ _ _ .int rfl (rfl) rfl dX4_freeSeat_24
      · have h := (if_neg e1).symm.trans h
        refine V_aload_n C 0 8 dX4_freeSeat_7 rfl rfl ?_
        refine V_iload_n C 1 9 dX4_freeSeat_8 rfl rfl ?_
        obtain ⟨r2, k3, h⟩ := bd_some h
        refine V_callP C ml_X4_71 (pre := []) (post := []) (w := mdW g A v) (as := [.int x1]) (rest := []) (c_X4_inSeat k3) 0 12 dX4_freeSeat_9 rfl ⟨Nat.le_of_ble_eq_true rfl, Nat.le_of_ble_eq_true rfl⟩ rfl (rfl) rfl rfl rfl (Nat.le_of_ble_eq_true rfl) ⟨Nat.zero_le _, Nat.zero_le _⟩ ?_
        refine V_if_ge C 17 15 dX4_freeSeat_12 rfl rfl (fun e4 => ?_) (fun e4 => ?_)
        · have h := (if_pos e4).symm.trans h
          refine V_iinc C 1 (x1 + (1 : Int32)) 20 [(1, .int (x1 + (1 : Int32))), (0, .ref A.1)] dX4_freeSeat_17 rfl rfl rfl (hlt 1 (by decide)) rfl ?_
          refine V_goto C 2 dX4_freeSeat_20 rfl ?_
          refine V_lv [1, 0] rfl ?_
          exact ih _ h
        · have h := (if_neg e4).symm.trans h
          refine V_iload_n C 1 16 dX4_freeSeat_15 rfl rfl ?_
          obtain rfl := Option.some.inj h
          exact retI _ _ _ .int rfl (rfl) rfl dX4_freeSeat_16
  show V K 0 0 _ [(0, .ref A.1)] [] 0
  unfold f_X4_freeSeat at h
  refine V_iconst C (0 : Int32) 1 dX4_freeSeat_0 rfl rfl ?_
  refine V_istore_n C 2 [(1, .int (0 : Int32)), (0, .ref A.1)] dX4_freeSeat_1 rfl (hlt 1 (by decide)) rfl ?_
  refine V_lv [1, 0] rfl ?_
  exact L2 100 _ h
set_option maxHeartbeats 4000000 in
set_option maxRecDepth 100000 in
theorem c_X4_adds {l : Launch} {D : va_G} {g : G0} {A : MdA} {v : MdV} {a1 a2 a3 : Int32} {R : (Int32 × MdV)} (h : f_X4_adds v a1 a2 a3 = some R) : CtS l D g yX4_adds cX4_adds 7 (some .int) (rmF 3 65) (mdW g A v) [.ref A.1, .int a1, .int a2, .int a3] (some (.int R.1)) (mdW g A R.2) := by
  refine CtS.of (by decide) (Nat.le_of_ble_eq_true rfl) ?_
  intro K C hBA el eD ekn retI retV
  subst el
  subst eD
  have hlt : ∀ i, i < 7 → i < kn K := fun i h => by rw [ekn]; exact h
  have B186 : ∀ (x1 : Int32) (x2 : Int32) (x3 : Int32) (x4 : Int32) (x5 : Int32) (x6 : Int32) (s0 : Int32) (s1 : Int32) (s2 : Int32) (v : MdV), f_X4_adds_B186 x1 x2 x3 x4 x5 x6 s0 s1 s2 v = some R → V K 0 0 (mdW g A v) [(0, .ref A.1), (1, .int x1), (2, .int x2), (3, .int x3), (4, .int x4), (5, .int x5), (6, .int x6)] [.int s0, .int s1, .int s2, .ref A.1] 186 := by
    intro x1 x2 x3 x4 x5 x6 s0 s1 s2 v h
    rw [f_X4_adds_B186] at h
    obtain ⟨r1, k2, h⟩ := bd_some h
    refine V_callS C hBA ml_X4_92 (pre := []) (post := []) (w0 := mdW g A v) (w1 := mdW g A r1.2) (as := [.int s2, .int s1, .int s0]) (rest := []) (c_X4_set k2) 0 189 (mdW g A r1.2) dX4_adds_186 rfl ⟨Nat.le_of_ble_eq_true rfl, Nat.le_of_ble_eq_true rfl⟩ rfl (rfl) (rfl) rfl rfl rfl rfl (Nat.le_of_ble_eq_true rfl) ⟨Nat.zero_le _, Nat.zero_le _⟩ ?_
    refine V_aload_n C 0 190 dX4_adds_189 rfl rfl ?_
    refine V_iload C 4 192 dX4_adds_190 rfl rfl ?_
    refine V_iconst C (4 : Int32) 193 dX4_adds_192 rfl rfl ?_
    refine V_iconst C (0 : Int32) 194 dX4_adds_193 rfl rfl ?_
    obtain ⟨r3, k4, h⟩ := bd_some h
    refine V_callS C hBA ml_X4_92 (pre := []) (post := []) (w0 := mdW g A r1.2) (w1 := mdW g A r3.2) (as := [.int x4, .int (4 : Int32), .int (0 : Int32)]) (rest := []) (c_X4_set k4) 0 197 (mdW g A r3.2) dX4_adds_194 rfl ⟨Nat.le_of_ble_eq_true rfl, Nat.le_of_ble_eq_true rfl⟩ rfl (rfl) (rfl) rfl rfl rfl rfl (Nat.le_of_ble_eq_true rfl) ⟨Nat.zero_le _, Nat.zero_le _⟩ ?_
    refine V_iconst C (0 : Int32) 198 dX4_adds_197 rfl rfl ?_
    obtain rfl := Option.some.inj h
    exact retI _ _ _ .int rfl (rfl) rfl dX4_adds_198
  have B111 : ∀ (x1 : Int32) (x2 : Int32) (x3 : Int32) (x4 : Int32) (x5 : Int32) (x6 : Int32) (v : MdV), f_X4_adds_B111 x1 x2 x3 x4 x5 x6 v = some R → V K 0 0 (mdW g A v) [(0, .ref A.1), (1, .int x1), (2, .int x2), (3, .int x3), (4, .int x4), (5, .int x5), (6, .int x6)] [] 111 := by
    intro x1 x2 x3 x4 x5 x6 v h
    rw [f_X4_adds_B111] at h
    refine V_iconst C (3 : Int32) 112 dX4_adds_111 rfl rfl ?_
    obtain rfl := Option.some.inj h
    exact retI _ _ _ .int rfl (rfl) rfl dX4_adds_112
  have B98 : ∀ (x1 : Int32) (x2 : Int32) (x3 : Int32) (x4 : Int32) (x5 : Int32) (x6 : Int32) (s0 : Int32) (v : MdV), f_X4_adds_B98 x1 x2 x3 x4 x5 x6 s0 v = some R → V K 0 0 (mdW g A v) [(0, .ref A.1), (1, .int x1), (2, .int x2), (3, .int x3), (4, .int x4), (5, .int x5), (6, .int x6)] [.int s0, .ref A.1] 98 := by
    intro x1 x2 x3 x4 x5 x6 s0 v h
    rw [f_X4_adds_B98] at h
    refine V_iconst C (3 : Int32) 99 dX4_adds_98 rfl rfl ?_
    refine V_aload_n C 0 100 dX4_adds_99 rfl rfl ?_
    refine V_iload C 6 102 dX4_adds_100 rfl rfl ?_
    obtain ⟨r5, k6, h⟩ := bd_some h
    refine V_callP C ml_X4_89 (pre := []) (post := []) (w := mdW g A v) (as := [.int x6]) (rest := [.int (3 : Int32), .int s0, .ref A.1]) (c_X4_idAt k6) 0 105 dX4_adds_102 rfl ⟨Nat.le_of_ble_eq_true rfl, Nat.le_of_ble_eq_true rfl⟩ rfl (rfl) rfl rfl rfl (Nat.le_of_ble_eq_true rfl) ⟨Nat.zero_le _, Nat.zero_le _⟩ ?_
    obtain ⟨r7, k8, h⟩ := bd_some h
    refine V_callS C hBA ml_X4_85 (pre := []) (post := []) (w0 := mdW g A v) (w1 := mdW g A r7.2) (as := [.int s0, .int (3 : Int32), .int r5]) (rest := []) (c_X4_rejects k8) 0 108 (mdW g A r7.2) dX4_adds_105 rfl ⟨Nat.le_of_ble_eq_true rfl, Nat.le_of_ble_eq_true rfl⟩ rfl (rfl) (rfl) rfl rfl rfl rfl (Nat.le_of_ble_eq_true rfl) ⟨Nat.zero_le _, Nat.zero_le _⟩ ?_
    refine V_if_eq C 113 111 dX4_adds_108 rfl rfl (fun e9 => ?_) (fun e9 => ?_)
    · have h := (if_pos e9).symm.trans h
      refine V_aload_n C 0 114 dX4_adds_113 rfl rfl ?_
      refine V_aload_n C 0 115 dX4_adds_114 rfl rfl ?_
      refine V_get C (v := .ref A.2.1) 0 118 fl_X4_9 dX4_adds_115 rfl rfl rfl ?_
      refine V_iconst C (1 : Int32) 119 dX4_adds_118 rfl rfl ?_
      obtain ⟨g10, h⟩ := gd_some h
      refine V_iald C (f := (Md_all r7.2)) (n := 825) 1 120 dX4_adds_119 rfl rfl g10 ?_
      refine V_put C hBA 0 123 (mdW g A ((Md_all r7.2), (Md_output r7.2), (Md_input r7.2), (Md_commands r7.2), (Md_thrown r7.2), (Md_changes r7.2), (Md_isSaved r7.2), ((Md_all r7.2) (cl (1 : Int32))), (Md_why r7.2), (Md_detail r7.2), (Md_cause r7.2), (Md_outputSize r7.2), (Md_typed r7.2), (Md_here r7.2), (Md_error r7.2), (Md_errorAt r7.2), (Md_commandMany r7.2))) fl_X4_37 fp_X4_4 dX4_adds_120 rfl rfl (Nat.le_of_ble_eq_true rfl) rfl rfl rfl ?_
      refine V_aload_n C 0 124 dX4_adds_123 rfl rfl ?_
      refine V_get C (v := .ref A.2.1) 0 127 fl_X4_9 dX4_adds_124 rfl rfl rfl ?_
      refine V_iconst C (1 : Int32) 128 dX4_adds_127 rfl rfl ?_
      refine V_dup2 C 129 dX4_adds_128 rfl rfl rfl ?_
      obtain ⟨g11, h⟩ := gd_some h
      refine V_iald C (f := (Md_all r7.2)) (n := 825) 1 130 dX4_adds_129 rfl rfl g11 ?_
      refine V_iconst C (1 : Int32) 131 dX4_adds_130 rfl rfl ?_
      refine V_iadd C 132 dX4_adds_131 rfl ?_
      obtain ⟨g12, h⟩ := gd_some h
      refine V_iast C hBA (f := (Md_all r7.2)) (n := 825) 1 133 (mdW g A ((upd (Md_all r7.2) (cl (1 : Int32)) (((Md_all r7.2) (cl (1 : Int32))) + (1 : Int32))), (Md_output r7.2), (Md_input r7.2), (Md_commands r7.2), (Md_thrown r7.2), (Md_changes r7.2), (Md_isSaved r7.2), ((Md_all r7.2) (cl (1 : Int32))), (Md_why r7.2), (Md_detail r7.2), (Md_cause r7.2), (Md_outputSize r7.2), (Md_typed r7.2), (Md_here r7.2), (Md_error r7.2), (Md_errorAt r7.2), (Md_commandMany r7.2))) dX4_adds_132 rfl rfl g12 rfl ?_
      refine V_aload_n C 0 134 dX4_adds_133 rfl rfl ?_
      refine V_get C (v := .ref A.2.1) 0 137 fl_X4_9 dX4_adds_134 rfl rfl rfl ?_
      refine V_iconst C (0 : Int32) 138 dX4_adds_137 rfl rfl ?_
      refine V_dup2 C 139 dX4_adds_138 rfl rfl rfl ?_
      obtain ⟨g13, h⟩ := gd_some h
      refine V_iald C (f := (upd (Md_all r7.2) (cl (1 : Int32)) (((Md_all r7.2) (cl (1 : Int32))) + (1 : Int32)))) (n := 825) 1 140 dX4_adds_139 rfl rfl g13 ?_
      refine V_iconst C (1 : Int32) 141 dX4_adds_140 rfl rfl ?_
      refine V_iadd C 142 dX4_adds_141 rfl ?_
      obtain ⟨g14, h⟩ := gd_some h
      refine V_iast C hBA (f := (upd (Md_all r7.2) (cl (1 : Int32)) (((Md_all r7.2) (cl (1 : Int32))) + (1 : Int32)))) (n := 825) 1 143 (mdW g A ((upd (upd (Md_all r7.2) (cl (1 : Int32)) (((Md_all r7.2) (cl (1 : Int32))) + (1 : Int32))) (cl (0 : Int32)) (((upd (Md_all r7.2) (cl (1 : Int32)) (((Md_all r7.2) (cl (1 : Int32))) + (1 : Int32))) (cl (0 : Int32))) + (1 : Int32))), (Md_output r7.2), (Md_input r7.2), (Md_commands r7.2), (Md_thrown r7.2), (Md_changes r7.2), (Md_isSaved r7.2), ((Md_all r7.2) (cl (1 : Int32))), (Md_why r7.2), (Md_detail r7.2), (Md_cause r7.2), (Md_outputSize r7.2), (Md_typed r7.2), (Md_here r7.2), (Md_error r7.2), (Md_errorAt r7.2), (Md_commandMany r7.2))) dX4_adds_142 rfl rfl g14 rfl ?_
      refine V_aload_n C 0 144 dX4_adds_143 rfl rfl ?_
      refine V_iload C 4 146 dX4_adds_144 rfl rfl ?_
      refine V_iconst C (0 : Int32) 147 dX4_adds_146 rfl rfl ?_
      refine V_aload_n C 0 148 dX4_adds_147 rfl rfl ?_
      refine V_get C (v := .int ((Md_all r7.2) (cl (1 : Int32)))) 0 151 fl_X4_37 dX4_adds_148 rfl rfl rfl ?_
      obtain ⟨r15, k16, h⟩ := bd_some h
      refine V_callS C hBA ml_X4_92 (pre := []) (post := []) (w0 := mdW g A ((upd (upd (Md_all r7.2) (cl (1 : Int32)) (((Md_all r7.2) (cl (1 : Int32))) + (1 : Int32))) (cl (0 : Int32)) (((upd (Md_all r7.2) (cl (1 : Int32)) (((Md_all r7.2) (cl (1 : Int32))) + (1 : Int32))) (cl (0 : Int32))) + (1 : Int32))), (Md_output r7.2), (Md_input r7.2), (Md_commands r7.2), (Md_thrown r7.2), (Md_changes r7.2), (Md_isSaved r7.2), ((Md_all r7.2) (cl (1 : Int32))), (Md_why r7.2), (Md_detail r7.2), (Md_cause r7.2), (Md_outputSize r7.2), (Md_typed r7.2), (Md_here r7.2), (Md_error r7.2), (Md_errorAt r7.2), (Md_commandMany r7.2))) (w1 := mdW g A r15.2) (as := [.int x4, .int (0 : Int32), .int ((Md_all r7.2) (cl (1 : Int32)))]) (rest := []) (c_X4_set k16) 0 154 (mdW g A r15.2) dX4_adds_151 rfl ⟨Nat.le_of_ble_eq_true rfl, Nat.le_of_ble_eq_true rfl⟩ rfl (rfl) (rfl) rfl rfl rfl rfl (Nat.le_of_ble_eq_true rfl) ⟨Nat.zero_le _, Nat.zero_le _⟩ ?_
      refine V_aload_n C 0 155 dX4_adds_154 rfl rfl ?_
      refine V_iload C 4 157 dX4_adds_155 rfl rfl ?_
      refine V_iconst C (1 : Int32) 158 dX4_adds_157 rfl rfl ?_
      refine V_iload_n C 1 159 dX4_adds_158 rfl rfl ?_
      obtain ⟨r17, k18, h⟩ := bd_some h
      refine V_callS C hBA ml_X4_92 (pre := []) (post := []) (w0 := mdW g A r15.2) (w1 := mdW g A r17.2) (as := [.int x4, .int (1 : Int32), .int x1]) (rest := []) (c_X4_set k18) 0 162 (mdW g A r17.2) dX4_adds_159 rfl ⟨Nat.le_of_ble_eq_true rfl, Nat.le_of_ble_eq_true rfl⟩ rfl (rfl) (rfl) rfl rfl rfl rfl (Nat.le_of_ble_eq_true rfl) ⟨Nat.zero_le _, Nat.zero_le _⟩ ?_
      refine V_aload_n C 0 163 dX4_adds_162 rfl rfl ?_
      refine V_iload C 4 165 dX4_adds_163 rfl rfl ?_
      refine V_iconst C (2 : Int32) 166 dX4_adds_165 rfl rfl ?_
      refine V_iload_n C 2 167 dX4_adds_166 rfl rfl ?_
      obtain ⟨r19, k20, h⟩ := bd_some h
      refine V_callS C hBA ml_X4_92 (pre := []) (post := []) (w0 := mdW g A r17.2) (w1 := mdW g A r19.2) (as := [.int x4, .int (2 : Int32), .int x2]) (rest := []) (c_X4_set k20) 0 170 (mdW g A r19.2) dX4_adds_167 rfl ⟨Nat.le_of_ble_eq_true rfl, Nat.le_of_ble_eq_true rfl⟩ rfl (rfl) (rfl) rfl rfl rfl rfl (Nat.le_of_ble_eq_true rfl) ⟨Nat.zero_le _, Nat.zero_le _⟩ ?_
      refine V_aload_n C 0 171 dX4_adds_170 rfl rfl ?_
      refine V_iload C 4 173 dX4_adds_171 rfl rfl ?_
      refine V_iconst C (3 : Int32) 174 dX4_adds_173 rfl rfl ?_
      refine V_iload_n C 3 175 dX4_adds_174 rfl rfl ?_
      refine V_if_eq C 185 178 dX4_adds_175 rfl rfl (fun e21 => ?_) (fun e21 => ?_)
      · have h := (if_pos e21).symm.trans h
        refine V_iconst C (0 : Int32) 186 dX4_adds_185 rfl rfl ?_
        refine V_lv [0, 1, 2, 3, 4, 5, 6] rfl ?_
        exact B186 _ _ _ _ _ _ _ _ _ _ h
      · have h := (if_neg e21).symm.trans h
        refine V_iload C 5 180 dX4_adds_178 rfl rfl ?_
        refine V_iconst C (1 : Int32) 181 dX4_adds_180 rfl rfl ?_
        refine V_iadd C 182 dX4_adds_181 rfl ?_
        refine V_goto C 186 dX4_adds_182 rfl ?_
        refine V_lv [0, 1, 2, 3, 4, 5, 6] rfl ?_
        exact B186 _ _ _ _ _ _ _ _ _ _ h
    · have h := (if_neg e9).symm.trans h
      refine V_lv [0, 1, 2, 3, 4, 5, 6] rfl ?_
      exact B111 _ _ _ _ _ _ _ h
  have B79 : ∀ (x1 : Int32) (x2 : Int32) (x3 : Int32) (x4 : Int32) (x5 : Int32) (x6 : Int32) (s0 : Int32) (v : MdV), f_X4_adds_B79 x1 x2 x3 x4 x5 x6 s0 v = some R → V K 0 0 (mdW g A v) [(0, .ref A.1), (1, .int x1), (2, .int x2), (3, .int x3), (4, .int x4), (5, .int x5), (6, .int x6)] [.int s0, .ref A.1] 79 := by
    intro x1 x2 x3 x4 x5 x6 s0 v h
    rw [f_X4_adds_B79] at h
    refine V_iconst C (2 : Int32) 80 dX4_adds_79 rfl rfl ?_
    refine V_iconst C (5 : Int32) 81 dX4_adds_80 rfl rfl ?_
    obtain ⟨r22, k23, h⟩ := bd_some h
    refine V_callS C hBA ml_X4_85 (pre := []) (post := []) (w0 := mdW g A v) (w1 := mdW g A r22.2) (as := [.int s0, .int (2 : Int32), .int (5 : Int32)]) (rest := []) (c_X4_rejects k23) 0 84 (mdW g A r22.2) dX4_adds_81 rfl ⟨Nat.le_of_ble_eq_true rfl, Nat.le_of_ble_eq_true rfl⟩ rfl (rfl) (rfl) rfl rfl rfl rfl (Nat.le_of_ble_eq_true rfl) ⟨Nat.zero_le _, Nat.zero_le _⟩ ?_
    refine V_if_ne C 111 87 dX4_adds_84 rfl rfl (fun e24 => ?_) (fun e24 => ?_)
    · have h := (if_neg e24).symm.trans h
      refine V_lv [0, 1, 2, 3, 4, 5, 6] rfl ?_
      exact B111 _ _ _ _ _ _ _ h
    · have h := (if_pos e24).symm.trans h
      refine V_aload_n C 0 88 dX4_adds_87 rfl rfl ?_
      refine V_iload C 6 90 dX4_adds_88 rfl rfl ?_
      refine V_if_lt C 97 93 dX4_adds_90 rfl rfl (fun e25 => ?_) (fun e25 => ?_)
      · have h := (if_pos e25).symm.trans h
        refine V_iconst C (0 : Int32) 98 dX4_adds_97 rfl rfl ?_
        refine V_lv [0, 1, 2, 3, 4, 5, 6] rfl ?_
        exact B98 _ _ _ _ _ _ _ _ h
      · have h := (if_neg e25).symm.trans h
        refine V_iconst C (1 : Int32) 94 dX4_adds_93 rfl rfl ?_
        refine V_goto C 98 dX4_adds_94 rfl ?_
        refine V_lv [0, 1, 2, 3, 4, 5, 6] rfl ?_
        exact B98 _ _ _ _ _ _ _ _ h
  have B78 : ∀ (x1 : Int32) (x2 : Int32) (x3 : Int32) (x4 : Int32) (x5 : Int32) (x6 : Int32) (v : MdV), f_X4_adds_B78 x1 x2 x3 x4 x5 x6 v = some R → V K 0 0 (mdW g A v) [(0, .ref A.1), (1, .int x1), (2, .int x2), (3, .int x3), (4, .int x4), (5, .int x5), (6, .int x6)] [.ref A.1] 78 := by
    intro x1 x2 x3 x4 x5 x6 v h
    rw [f_X4_adds_B78] at h
    refine V_iconst C (0 : Int32) 79 dX4_adds_78 rfl rfl ?_
    refine V_lv [0, 1, 2, 3, 4, 5, 6] rfl ?_
    exact B79 _ _ _ _ _ _ _ _ h
  have B55 : ∀ (x1 : Int32) (x2 : Int32) (x3 : Int32) (x4 : Int32) (x5 : Int32) (x6 : Int32) (s0 : Int32) (v : MdV), f_X4_adds_B55 x1 x2 x3 x4 x5 x6 s0 v = some R → V K 0 0 (mdW g A v) [(0, .ref A.1), (1, .int x1), (2, .int x2), (3, .int x3), (4, .int x4), (5, .int x5), (6, .int x6)] [.int s0, .ref A.1] 55 := by
    intro x1 x2 x3 x4 x5 x6 s0 v h
    rw [f_X4_adds_B55] at h
    refine V_iconst C (1 : Int32) 56 dX4_adds_55 rfl rfl ?_
    refine V_bipush C (12 : Int32) 58 dX4_adds_56 rfl rfl ?_
    obtain ⟨r26, k27, h⟩ := bd_some h
    refine V_callS C hBA ml_X4_85 (pre := []) (post := []) (w0 := mdW g A v) (w1 := mdW g A r26.2) (as := [.int s0, .int (1 : Int32), .int (12 : Int32)]) (rest := []) (c_X4_rejects k27) 0 61 (mdW g A r26.2) dX4_adds_58 rfl ⟨Nat.le_of_ble_eq_true rfl, Nat.le_of_ble_eq_true rfl⟩ rfl (rfl) (rfl) rfl rfl rfl rfl (Nat.le_of_ble_eq_true rfl) ⟨Nat.zero_le _, Nat.zero_le _⟩ ?_
    refine V_if_ne C 111 64 dX4_adds_61 rfl rfl (fun e28 => ?_) (fun e28 => ?_)
    · have h := (if_neg e28).symm.trans h
      refine V_lv [0, 1, 2, 3, 4, 5, 6] rfl ?_
      exact B111 _ _ _ _ _ _ _ h
    · have h := (if_pos e28).symm.trans h
      refine V_aload_n C 0 65 dX4_adds_64 rfl rfl ?_
      refine V_iload_n C 3 66 dX4_adds_65 rfl rfl ?_
      refine V_if_eq C 78 69 dX4_adds_66 rfl rfl (fun e29 => ?_) (fun e29 => ?_)
      · have h := (if_pos e29).symm.trans h
        refine V_lv [0, 1, 2, 3, 4, 5, 6] rfl ?_
        exact B78 _ _ _ _ _ _ _ h
      · have h := (if_neg e29).symm.trans h
        refine V_iload C 5 71 dX4_adds_69 rfl rfl ?_
        refine V_if_ge C 78 74 dX4_adds_71 rfl rfl (fun e30 => ?_) (fun e30 => ?_)
        · have h := (if_pos e30).symm.trans h
          refine V_lv [0, 1, 2, 3, 4, 5, 6] rfl ?_
          exact B78 _ _ _ _ _ _ _ h
        · have h := (if_neg e30).symm.trans h
          refine V_iconst C (1 : Int32) 75 dX4_adds_74 rfl rfl ?_
          refine V_goto C 79 dX4_adds_75 rfl ?_
          refine V_lv [0, 1, 2, 3, 4, 5, 6] rfl ?_
          exact B79 _ _ _ _ _ _ _ _ h
  show V K 0 0 _ [(0, .ref A.1), (1, .int a1), (2, .int a2), (3, .int a3)] [] 0
  unfold f_X4_adds at h
  refine V_iload_n C 1 1 dX4_adds_0 rfl rfl ?_
  obtain ⟨r31, k32, h⟩ := bd_some h
  refine V_callPs C mls_X4_74 (pre := []) (post := mdW g A v) (w := []) (as := [.int a1]) (rest := []) (c_X4_isPage k32) 4 dX4_adds_1 rfl ⟨Nat.le_of_ble_eq_true rfl, Nat.le_of_ble_eq_true rfl⟩ rfl rfl rfl rfl (Nat.le_of_ble_eq_true rfl) ⟨Nat.zero_le _, Nat.zero_le _⟩ ?_
  refine V_if_ne C 9 7 dX4_adds_4 rfl rfl (fun e33 => ?_) (fun e33 => ?_)
  · have h := (if_neg e33).symm.trans h
    refine V_iload_n C 2 10 dX4_adds_9 rfl rfl ?_
    refine V_iconst C (1 : Int32) 11 dX4_adds_10 rfl rfl ?_
    refine V_bipush C (9 : Int32) 13 dX4_adds_11 rfl rfl ?_
    obtain ⟨r34, k35, h⟩ := bd_some h
    refine V_callPs C mls_X4_57 (pre := []) (post := mdW g A v) (w := []) (as := [.int a2, .int (1 : Int32), .int (9 : Int32)]) (rest := []) (c_X4_in k35) 16 dX4_adds_13 rfl ⟨Nat.le_of_ble_eq_true rfl, Nat.le_of_ble_eq_true rfl⟩ rfl rfl rfl rfl (Nat.le_of_ble_eq_true rfl) ⟨Nat.zero_le _, Nat.zero_le _⟩ ?_
    refine V_if_ne C 21 19 dX4_adds_16 rfl rfl (fun e36 => ?_) (fun e36 => ?_)
    · have h := (if_neg e36).symm.trans h
      refine V_aload_n C 0 22 dX4_adds_21 rfl rfl ?_
      refine V_get C (v := .ref A.2.1) 0 25 fl_X4_9 dX4_adds_22 rfl rfl rfl ?_
      refine V_iconst C (0 : Int32) 26 dX4_adds_25 rfl rfl ?_
      obtain ⟨g37, h⟩ := gd_some h
      refine V_iald C (f := (Md_all v)) (n := 825) 1 27 dX4_adds_26 rfl rfl g37 ?_
      refine V_istore C 29 [(4, .int ((Md_all v) (cl (0 : Int32)))), (0, .ref A.1), (1, .int a1), (2, .int a2), (3, .int a3)] dX4_adds_27 rfl (hlt 4 (by decide)) rfl ?_
      refine V_aload_n C 1 30 dX4_adds_29 rfl rfl ?_
      obtain ⟨r38, k39, h⟩ := bd_some h
      refine V_callP C ml_X4_78 (pre := []) (post := []) (w := mdW g A v) (as := []) (rest := []) (c_X4_freeSeat k39) 0 33 dX4_adds_30 rfl ⟨Nat.le_of_ble_eq_true rfl, Nat.le_of_ble_eq_true rfl⟩ rfl (rfl) rfl rfl rfl (Nat.le_of_ble_eq_true rfl) ⟨Nat.zero_le _, Nat.zero_le _⟩ ?_
      refine V_istore C 35 [(5, .int r38), (4, .int ((Md_all v) (cl (0 : Int32)))), (0, .ref A.1), (1, .int a1), (2, .int a2), (3, .int a3)] dX4_adds_33 rfl (hlt 5 (by decide)) rfl ?_
      refine V_aload_n C 2 36 dX4_adds_35 rfl rfl ?_
      refine V_iload_n C 3 37 dX4_adds_36 rfl rfl ?_
      obtain ⟨r40, k41, h⟩ := bd_some h
      refine V_callP C ml_X4_82 (pre := []) (post := []) (w := mdW g A v) (as := [.int a1]) (rest := []) (c_X4_onPage k41) 0 40 dX4_adds_37 rfl ⟨Nat.le_of_ble_eq_true rfl, Nat.le_of_ble_eq_true rfl⟩ rfl (rfl) rfl rfl rfl (Nat.le_of_ble_eq_true rfl) ⟨Nat.zero_le _, Nat.zero_le _⟩ ?_
      refine V_istore C 42 [(6, .int r40), (5, .int r38), (4, .int ((Md_all v) (cl (0 : Int32)))), (0, .ref A.1), (1, .int a1), (2, .int a2), (3, .int a3)] dX4_adds_40 rfl (hlt 6 (by decide)) rfl ?_
      refine V_aload_n C 3 43 dX4_adds_42 rfl rfl ?_
      refine V_iload C 2 45 dX4_adds_43 rfl rfl ?_
      refine V_bipush C (12 : Int32) 47 dX4_adds_45 rfl rfl ?_
      refine V_icmp_ne C 54 50 dX4_adds_47 rfl rfl (fun e42 => ?_) (fun e42 => ?_)
      · have h := (if_neg e42).symm.trans h
        refine V_iconst C (0 : Int32) 55 dX4_adds_54 rfl rfl ?_
        refine V_lv [3, 4, 5, 6, 2, 1, 0] rfl ?_
        exact B55 _ _ _ _ _ _ _ _ h
      · have h := (if_pos e42).symm.trans h
        refine V_iconst C (1 : Int32) 51 dX4_adds_50 rfl rfl ?_
        refine V_goto C 55 dX4_adds_51 rfl ?_
        refine V_lv [3, 4, 5, 6, 2, 1, 0] rfl ?_
        exact B55 _ _ _ _ _ _ _ _ h
    · have h := (if_pos e36).symm.trans h
      refine V_iconst C (2 : Int32) 20 dX4_adds_19 rfl rfl ?_
      obtain rfl := Option.some.inj h
      exact retI _ _ _ .int rfl (rfl) rfl dX4_adds_20
  · have h := (if_pos e33).symm.trans h
    refine V_iconst C (1 : Int32) 8 dX4_adds_7 rfl rfl ?_
    obtain rfl := Option.some.inj h
    exact retI _ _ _ .int rfl (rfl) rfl dX4_adds_8
set_option maxHeartbeats 4000000 in
set_option maxRecDepth 100000 in
theorem c_X4_addRibbon {l : Launch} {D : va_G} {g : G0} {A : MdA} {v : MdV} {a1 a2 : Int32} {R : (Int32 × MdV)} (h : f_X4_addRibbon v a1 a2 = some R) : CtS l D g yX4_addRibbon cX4_addRibbon 3 (some .int) (rmF 4 91) (mdW g A v) [.ref A.1, .int a1, .int a2] (some (.int R.1)) (mdW g A R.2) := by
  refine CtS.of (by decide) (Nat.le_of_ble_eq_true rfl) ?_
  intro K C hBA el eD ekn retI retV
  subst el
  subst eD
  have hlt : ∀ i, i < 3 → i < kn K := fun i h => by rw [ekn]; exact h
  show V K 0 0 _ [(0, .ref A.1), (1, .int a1), (2, .int a2)] [] 0
  unfold f_X4_addRibbon at h
  refine V_aload_n C 0 1 dX4_addRibbon_0 rfl rfl ?_
  obtain ⟨r1, k2, h⟩ := bd_some h
  refine V_callS C hBA ml_X4_96 (pre := []) (post := []) (w0 := mdW g A v) (w1 := mdW g A r1.2) (as := []) (rest := []) (c_X4_begins k2) 0 4 (mdW g A r1.2) dX4_addRibbon_1 rfl ⟨Nat.le_of_ble_eq_true rfl, Nat.le_of_ble_eq_true rfl⟩ rfl (rfl) (rfl) rfl rfl rfl rfl (Nat.le_of_ble_eq_true rfl) ⟨Nat.zero_le _, Nat.zero_le _⟩ ?_
  refine V_aload_n C 0 5 dX4_addRibbon_4 rfl rfl ?_
  refine V_aload_n C 0 6 dX4_addRibbon_5 rfl rfl ?_
  refine V_iload_n C 1 7 dX4_addRibbon_6 rfl rfl ?_
  refine V_iload_n C 2 8 dX4_addRibbon_7 rfl rfl ?_
  refine V_iconst C (1 : Int32) 9 dX4_addRibbon_8 rfl rfl ?_
  obtain ⟨r3, k4, h⟩ := bd_some h
  refine V_callS C hBA ml_X4_99 (pre := []) (post := []) (w0 := mdW g A r1.2) (w1 := mdW g A r3.2) (as := [.int a1, .int a2, .int (1 : Int32)]) (rest := [.ref A.1]) (c_X4_adds k4) 0 12 (mdW g A r3.2) dX4_addRibbon_9 rfl ⟨Nat.le_of_ble_eq_true rfl, Nat.le_of_ble_eq_true rfl⟩ rfl (rfl) (rfl) rfl rfl rfl rfl (Nat.le_of_ble_eq_true rfl) ⟨Nat.zero_le _, Nat.zero_le _⟩ ?_
  refine V_iconst C (1 : Int32) 13 dX4_addRibbon_12 rfl rfl ?_
  refine V_iconst C (2 : Int32) 14 dX4_addRibbon_13 rfl rfl ?_
  refine V_iconst C (3 : Int32) 15 dX4_addRibbon_14 rfl rfl ?_
  obtain ⟨r5, k6, h⟩ := bd_some h
  refine V_callS C hBA ml_X4_103 (pre := []) (post := []) (w0 := mdW g A r3.2) (w1 := mdW g A r5.2) (as := [.int r3.1, .int (1 : Int32), .int (2 : Int32), .int (3 : Int32)]) (rest := []) (c_X4_ends k6) 0 18 (mdW g A r5.2) dX4_addRibbon_15 rfl ⟨Nat.le_of_ble_eq_true rfl, Nat.le_of_ble_eq_true rfl⟩ rfl (rfl) (rfl) rfl rfl rfl rfl (Nat.le_of_ble_eq_true rfl) ⟨Nat.zero_le _, Nat.zero_le _⟩ ?_
  obtain rfl := Option.some.inj h
  exact retI _ _ _ .int rfl (rfl) rfl dX4_addRibbon_18
set_option maxHeartbeats 4000000 in
set_option maxRecDepth 100000 in
theorem c_X4_addDogEar {l : Launch} {D : va_G} {g : G0} {A : MdA} {v : MdV} {a1 a2 : Int32} {R : (Int32 × MdV)} (h : f_X4_addDogEar v a1 a2 = some R) : CtS l D g yX4_addDogEar cX4_addDogEar 3 (some .int) (rmF 4 91) (mdW g A v) [.ref A.1, .int a1, .int a2] (some (.int R.1)) (mdW g A R.2) := by
  refine CtS.of (by decide) (Nat.le_of_ble_eq_true rfl) ?_
  intro K C hBA el eD ekn retI retV
  subst el
  subst eD
  have hlt : ∀ i, i < 3 → i < kn K := fun i h => by rw [ekn]; exact h
  show V K 0 0 _ [(0, .ref A.1), (1, .int a1), (2, .int a2)] [] 0
  unfold f_X4_addDogEar at h
  refine V_aload_n C 0 1 dX4_addDogEar_0 rfl rfl ?_
  obtain ⟨r1, k2, h⟩ := bd_some h
  refine V_callS C hBA ml_X4_96 (pre := []) (post := []) (w0 := mdW g A v) (w1 := mdW g A r1.2) (as := []) (rest := []) (c_X4_begins k2) 0 4 (mdW g A r1.2) dX4_addDogEar_1 rfl ⟨Nat.le_of_ble_eq_true rfl, Nat.le_of_ble_eq_true rfl⟩ rfl (rfl) (rfl) rfl rfl rfl rfl (Nat.le_of_ble_eq_true rfl) ⟨Nat.zero_le _, Nat.zero_le _⟩ ?_
  refine V_aload_n C 0 5 dX4_addDogEar_4 rfl rfl ?_
  refine V_aload_n C 0 6 dX4_addDogEar_5 rfl rfl ?_
  refine V_iload_n C 1 7 dX4_addDogEar_6 rfl rfl ?_
  refine V_iload_n C 2 8 dX4_addDogEar_7 rfl rfl ?_
  refine V_iconst C (0 : Int32) 9 dX4_addDogEar_8 rfl rfl ?_
  obtain ⟨r3, k4, h⟩ := bd_some h
  refine V_callS C hBA ml_X4_99 (pre := []) (post := []) (w0 := mdW g A r1.2) (w1 := mdW g A r3.2) (as := [.int a1, .int a2, .int (0 : Int32)]) (rest := [.ref A.1]) (c_X4_adds k4) 0 12 (mdW g A r3.2) dX4_addDogEar_9 rfl ⟨Nat.le_of_ble_eq_true rfl, Nat.le_of_ble_eq_true rfl⟩ rfl (rfl) (rfl) rfl rfl rfl rfl (Nat.le_of_ble_eq_true rfl) ⟨Nat.zero_le _, Nat.zero_le _⟩ ?_
  refine V_iconst C (1 : Int32) 13 dX4_addDogEar_12 rfl rfl ?_
  refine V_iconst C (2 : Int32) 14 dX4_addDogEar_13 rfl rfl ?_
  refine V_iconst C (3 : Int32) 15 dX4_addDogEar_14 rfl rfl ?_
  obtain ⟨r5, k6, h⟩ := bd_some h
  refine V_callS C hBA ml_X4_103 (pre := []) (post := []) (w0 := mdW g A r3.2) (w1 := mdW g A r5.2) (as := [.int r3.1, .int (1 : Int32), .int (2 : Int32), .int (3 : Int32)]) (rest := []) (c_X4_ends k6) 0 18 (mdW g A r5.2) dX4_addDogEar_15 rfl ⟨Nat.le_of_ble_eq_true rfl, Nat.le_of_ble_eq_true rfl⟩ rfl (rfl) (rfl) rfl rfl rfl rfl (Nat.le_of_ble_eq_true rfl) ⟨Nat.zero_le _, Nat.zero_le _⟩ ?_
  obtain rfl := Option.some.inj h
  exact retI _ _ _ .int rfl (rfl) rfl dX4_addDogEar_18
set_option maxHeartbeats 4000000 in
set_option maxRecDepth 100000 in
theorem c_X4_goes {l : Launch} {D : va_G} {g : G0} {A : MdA} {v : MdV} {a1 : Int32} {R : (Int32 × MdV)} (h : f_X4_goes v a1 = some R) : CtS l D g yX4_goes cX4_goes 4 none (rmF 1 23) (mdW g A v) [.ref A.1, .int a1] none (mdW g A R.2) := by
  refine CtS.of (by decide) (Nat.le_of_ble_eq_true rfl) ?_
  intro K C hBA el eD ekn retI retV
  subst el
  subst eD
  have hlt : ∀ i, i < 4 → i < kn K := fun i h => by rw [ekn]; exact h
  have L48 : ∀ (n : Nat) (x1 : Int32) (x2 : Int32) (x3 : Int32) (v : MdV), f_X4_goes_L48 n x1 x2 x3 v = some R → V K 0 0 (mdW g A v) [(0, .ref A.1), (1, .int x1), (2, .int x2), (3, .int x3)] [] 48 := by
    intro n
    induction n with
    | zero =>
      intro x1 x2 x3 v h
      rw [f_X4_goes_L48] at h
      cases h
    | succ n ih =>
      intro x1 x2 x3 v h
      rw [f_X4_goes_L48] at h
      refine V_iload_n C 3 49 dX4_goes_48 rfl rfl ?_
      refine V_iconst C (5 : Int32) 50 dX4_goes_49 rfl rfl ?_
      refine V_icmp_ge C 66 53 dX4_goes_50 rfl rfl (fun e1 => ?_) (fun e1 => ?_)
      · have h := (if_pos e1).symm.trans h
        refine V_aload_n C 0 67 dX4_goes_66 rfl rfl ?_
        refine V_get C (v := .ref A.2.1) 0 70 fl_X4_9 dX4_goes_67 rfl rfl rfl ?_
        refine V_iconst C (0 : Int32) 71 dX4_goes_70 rfl rfl ?_
        refine V_iload_n C 2 72 dX4_goes_71 rfl rfl ?_
        obtain ⟨g2, h⟩ := gd_some h
        refine V_iast C hBA (f := (Md_all v)) (n := 825) 1 73 (mdW g A ((upd (Md_all v) (cl (0 : Int32)) x2), (Md_output v), (Md_input v), (Md_commands v), (Md_thrown v), (Md_changes v), (Md_isSaved v), (Md_result v), (Md_why v), (Md_detail v), (Md_cause v), (Md_outputSize v), (Md_typed v), (Md_here v), (Md_error v), (Md_errorAt v), (Md_commandMany v))) dX4_goes_72 rfl rfl g2 rfl ?_
        obtain rfl := Option.some.inj h
        exact retV _ _ rfl rfl dX4_goes_73
      · have h := (if_neg e1).symm.trans h
        refine V_aload_n C 0 54 dX4_goes_53 rfl rfl ?_
        refine V_iload_n C 2 55 dX4_goes_54 rfl rfl ?_
        refine V_iload_n C 3 56 dX4_goes_55 rfl rfl ?_
        refine V_iconst C (0 : Int32) 57 dX4_goes_56 rfl rfl ?_
        obtain ⟨r3, k4, h⟩ := bd_some h
        refine V_callS C hBA ml_X4_92 (pre := []) (post := []) (w0 := mdW g A v) (w1 := mdW g A r3.2) (as := [.int x2, .int x3, .int (0 : Int32)]) (rest := []) (c_X4_set k4) 0 60 (mdW g A r3.2) dX4_goes_57 rfl ⟨Nat.le_of_ble_eq_true rfl, Nat.le_of_ble_eq_true rfl⟩ rfl (rfl) (rfl) rfl rfl rfl rfl (Nat.le_of_ble_eq_true rfl) ⟨Nat.zero_le _, Nat.zero_le _⟩ ?_
        refine V_iinc C 3 (x3 + (1 : Int32)) 63 [(3, .int (x3 + (1 : Int32))), (0, .ref A.1), (1, .int x1), (2, .int x2)] dX4_goes_60 rfl rfl rfl (hlt 3 (by decide)) rfl ?_
        refine V_goto C 48 dX4_goes_63 rfl ?_
        refine V_lv [1, 2, 3, 0] rfl ?_
        exact ih _ _ _ _ h
  have L13 : ∀ (n : Nat) (x1 : Int32) (x2 : Int32) (x3 : Int32) (v : MdV), f_X4_goes_L13 n x1 x2 x3 v = some R → V K 0 0 (mdW g A v) [(0, .ref A.1), (1, .int x1), (2, .int x2), (3, .int x3)] [] 13 := by
    intro n
    induction n with
    | zero =>
      intro x1 x2 x3 v h
      rw [f_X4_goes_L13] at h
      cases h
    | succ n ih =>
      intro x1 x2 x3 v h
      rw [f_X4_goes_L13] at h
      refine V_iload_n C 3 14 dX4_goes_13 rfl rfl ?_
      refine V_iconst C (5 : Int32) 15 dX4_goes_14 rfl rfl ?_
      refine V_iload_n C 2 16 dX4_goes_15 rfl rfl ?_
      refine V_imul C 17 dX4_goes_16 rfl ?_
      refine V_icmp_ge C 46 20 dX4_goes_17 rfl rfl (fun e5 => ?_) (fun e5 => ?_)
      · have h := (if_pos e5).symm.trans h
        refine V_iconst C (0 : Int32) 47 dX4_goes_46 rfl rfl ?_
        refine V_istore_n C 48 [(3, .int (0 : Int32)), (0, .ref A.1), (1, .int x1), (2, .int x2)] dX4_goes_47 rfl (hlt 3 (by decide)) rfl ?_
        refine V_lv [1, 2, 3, 0] rfl ?_
        exact L48 100 _ _ _ _ h
      · have h := (if_neg e5).symm.trans h
        refine V_aload_n C 0 21 dX4_goes_20 rfl rfl ?_
        refine V_get C (v := .ref A.2.1) 0 24 fl_X4_9 dX4_goes_21 rfl rfl rfl ?_
        refine V_bipush C (15 : Int32) 26 dX4_goes_24 rfl rfl ?_
        refine V_iload_n C 3 27 dX4_goes_26 rfl rfl ?_
        refine V_iadd C 28 dX4_goes_27 rfl ?_
        refine V_aload_n C 0 29 dX4_goes_28 rfl rfl ?_
        refine V_get C (v := .ref A.2.1) 0 32 fl_X4_9 dX4_goes_29 rfl rfl rfl ?_
        refine V_bipush C (15 : Int32) 34 dX4_goes_32 rfl rfl ?_
        refine V_iload_n C 3 35 dX4_goes_34 rfl rfl ?_
        refine V_iadd C 36 dX4_goes_35 rfl ?_
        refine V_iconst C (5 : Int32) 37 dX4_goes_36 rfl rfl ?_
        refine V_iadd C 38 dX4_goes_37 rfl ?_
        obtain ⟨g6, h⟩ := gd_some h
        refine V_iald C (f := (Md_all v)) (n := 825) 1 39 dX4_goes_38 rfl rfl g6 ?_
        obtain ⟨g7, h⟩ := gd_some h
        refine V_iast C hBA (f := (Md_all v)) (n := 825) 1 40 (mdW g A ((upd (Md_all v) (cl ((15 : Int32) + x3)) ((Md_all v) (cl (((15 : Int32) + x3) + (5 : Int32))))), (Md_output v), (Md_input v), (Md_commands v), (Md_thrown v), (Md_changes v), (Md_isSaved v), (Md_result v), (Md_why v), (Md_detail v), (Md_cause v), (Md_outputSize v), (Md_typed v), (Md_here v), (Md_error v), (Md_errorAt v), (Md_commandMany v))) dX4_goes_39 rfl rfl g7 rfl ?_
        refine V_iinc C 3 (x3 + (1 : Int32)) 43 [(3, .int (x3 + (1 : Int32))), (0, .ref A.1), (1, .int x1), (2, .int x2)] dX4_goes_40 rfl rfl rfl (hlt 3 (by decide)) rfl ?_
        refine V_goto C 13 dX4_goes_43 rfl ?_
        refine V_lv [1, 2, 3, 0] rfl ?_
        exact ih _ _ _ _ h
  show V K 0 0 _ [(0, .ref A.1), (1, .int a1)] [] 0
  unfold f_X4_goes at h
  refine V_aload_n C 0 1 dX4_goes_0 rfl rfl ?_
  refine V_get C (v := .ref A.2.1) 0 4 fl_X4_9 dX4_goes_1 rfl rfl rfl ?_
  refine V_iconst C (0 : Int32) 5 dX4_goes_4 rfl rfl ?_
  obtain ⟨g8, h⟩ := gd_some h
  refine V_iald C (f := (Md_all v)) (n := 825) 1 6 dX4_goes_5 rfl rfl g8 ?_
  refine V_iconst C (1 : Int32) 7 dX4_goes_6 rfl rfl ?_
  refine V_isub C 8 dX4_goes_7 rfl ?_
  refine V_istore_n C 9 [(2, .int (((Md_all v) (cl (0 : Int32))) - (1 : Int32))), (0, .ref A.1), (1, .int a1)] dX4_goes_8 rfl (hlt 2 (by decide)) rfl ?_
  refine V_iconst C (5 : Int32) 10 dX4_goes_9 rfl rfl ?_
  refine V_iload_n C 2 11 dX4_goes_10 rfl rfl ?_
  refine V_imul C 12 dX4_goes_11 rfl ?_
  refine V_istore_n C 13 [(3, .int ((5 : Int32) * a1)), (2, .int (((Md_all v) (cl (0 : Int32))) - (1 : Int32))), (0, .ref A.1), (1, .int a1)] dX4_goes_12 rfl (hlt 3 (by decide)) rfl ?_
  refine V_lv [2, 3, 1, 0] rfl ?_
  exact L13 100 _ _ _ _ h
set_option maxHeartbeats 4000000 in
set_option maxRecDepth 100000 in
theorem c_X4_removes {l : Launch} {D : va_G} {g : G0} {A : MdA} {v : MdV} {a1 : Int32} {R : (Int32 × MdV)} (h : f_X4_removes v a1 = some R) : CtS l D g yX4_removes cX4_removes 3 (some .int) (rmF 2 46) (mdW g A v) [.ref A.1, .int a1] (some (.int R.1)) (mdW g A R.2) := by
  refine CtS.of (by decide) (Nat.le_of_ble_eq_true rfl) ?_
  intro K C hBA el eD ekn retI retV
  subst el
  subst eD
  have hlt : ∀ i, i < 3 → i < kn K := fun i h => by rw [ekn]; exact h
  show V K 0 0 _ [(0, .ref A.1), (1, .int a1)] [] 0
  unfold f_X4_removes at h
  refine V_aload_n C 0 1 dX4_removes_0 rfl rfl ?_
  refine V_iload_n C 1 2 dX4_removes_1 rfl rfl ?_
  obtain ⟨r1, k2, h⟩ := bd_some h
  refine V_callP C ml_X4_107 (pre := []) (post := []) (w := mdW g A v) (as := [.int a1]) (rest := []) (c_X4_find k2) 0 5 dX4_removes_2 rfl ⟨Nat.le_of_ble_eq_true rfl, Nat.le_of_ble_eq_true rfl⟩ rfl (rfl) rfl rfl rfl (Nat.le_of_ble_eq_true rfl) ⟨Nat.zero_le _, Nat.zero_le _⟩ ?_
  refine V_istore_n C 6 [(2, .int r1), (0, .ref A.1), (1, .int a1)] dX4_removes_5 rfl (hlt 2 (by decide)) rfl ?_
  refine V_iload_n C 0 7 dX4_removes_6 rfl rfl ?_
  refine V_if_ge C 12 10 dX4_removes_7 rfl rfl (fun e3 => ?_) (fun e3 => ?_)
  · have h := (if_pos e3).symm.trans h
    refine V_aload_n C 1 13 dX4_removes_12 rfl rfl ?_
    refine V_aload_n C 1 14 dX4_removes_13 rfl rfl ?_
    refine V_iload_n C 0 15 dX4_removes_14 rfl rfl ?_
    refine V_iconst C (1 : Int32) 16 dX4_removes_15 rfl rfl ?_
    obtain ⟨r4, k5, h⟩ := bd_some h
    refine V_callP C ml_X4_53 (pre := []) (post := []) (w := mdW g A v) (as := [.int r1, .int (1 : Int32)]) (rest := [.ref A.1]) (c_X4_m k5) 0 19 dX4_removes_16 rfl ⟨Nat.le_of_ble_eq_true rfl, Nat.le_of_ble_eq_true rfl⟩ rfl (rfl) rfl rfl rfl (Nat.le_of_ble_eq_true rfl) ⟨Nat.zero_le _, Nat.zero_le _⟩ ?_
    refine V_put C hBA 0 22 (mdW g A ((Md_all v), (Md_output v), (Md_input v), (Md_commands v), (Md_thrown v), (Md_changes v), (Md_isSaved v), r4, (Md_why v), (Md_detail v), (Md_cause v), (Md_outputSize v), (Md_typed v), (Md_here v), (Md_error v), (Md_errorAt v), (Md_commandMany v))) fl_X4_37 fp_X4_4 dX4_removes_19 rfl rfl (Nat.le_of_ble_eq_true rfl) rfl rfl rfl ?_
    refine V_aload_n C 1 23 dX4_removes_22 rfl rfl ?_
    refine V_iload_n C 0 24 dX4_removes_23 rfl rfl ?_
    obtain ⟨r6, k7, h⟩ := bd_some h
    refine V_callS C hBA ml_X4_110 (pre := []) (post := []) (w0 := mdW g A ((Md_all v), (Md_output v), (Md_input v), (Md_commands v), (Md_thrown v), (Md_changes v), (Md_isSaved v), r4, (Md_why v), (Md_detail v), (Md_cause v), (Md_outputSize v), (Md_typed v), (Md_here v), (Md_error v), (Md_errorAt v), (Md_commandMany v))) (w1 := mdW g A r6.2) (as := [.int r1]) (rest := []) (c_X4_goes k7) 0 27 (mdW g A r6.2) dX4_removes_24 rfl ⟨Nat.le_of_ble_eq_true rfl, Nat.le_of_ble_eq_true rfl⟩ rfl (rfl) (rfl) rfl rfl rfl rfl (Nat.le_of_ble_eq_true rfl) ⟨Nat.zero_le _, Nat.zero_le _⟩ ?_
    refine V_iconst C (0 : Int32) 28 dX4_removes_27 rfl rfl ?_
    obtain rfl := Option.some.inj h
    exact retI _ _ _ .int rfl (rfl) rfl dX4_removes_28
  · have h := (if_neg e3).symm.trans h
    refine V_iconst C (1 : Int32) 11 dX4_removes_10 rfl rfl ?_
    obtain rfl := Option.some.inj h
    exact retI _ _ _ .int rfl (rfl) rfl dX4_removes_11
set_option maxHeartbeats 4000000 in
set_option maxRecDepth 100000 in
theorem c_X4_removeMark {l : Launch} {D : va_G} {g : G0} {A : MdA} {v : MdV} {a1 : Int32} {R : (Int32 × MdV)} (h : f_X4_removeMark v a1 = some R) : CtS l D g yX4_removeMark cX4_removeMark 2 (some .int) (rmF 3 68) (mdW g A v) [.ref A.1, .int a1] (some (.int R.1)) (mdW g A R.2) := by
  refine CtS.of (by decide) (Nat.le_of_ble_eq_true rfl) ?_
  intro K C hBA el eD ekn retI retV
  subst el
  subst eD
  have hlt : ∀ i, i < 2 → i < kn K := fun i h => by rw [ekn]; exact h
  show V K 0 0 _ [(0, .ref A.1), (1, .int a1)] [] 0
  unfold f_X4_removeMark at h
  refine V_aload_n C 0 1 dX4_removeMark_0 rfl rfl ?_
  obtain ⟨r1, k2, h⟩ := bd_some h
  refine V_callS C hBA ml_X4_96 (pre := []) (post := []) (w0 := mdW g A v) (w1 := mdW g A r1.2) (as := []) (rest := []) (c_X4_begins k2) 0 4 (mdW g A r1.2) dX4_removeMark_1 rfl ⟨Nat.le_of_ble_eq_true rfl, Nat.le_of_ble_eq_true rfl⟩ rfl (rfl) (rfl) rfl rfl rfl rfl (Nat.le_of_ble_eq_true rfl) ⟨Nat.zero_le _, Nat.zero_le _⟩ ?_
  refine V_aload_n C 0 5 dX4_removeMark_4 rfl rfl ?_
  refine V_aload_n C 0 6 dX4_removeMark_5 rfl rfl ?_
  refine V_iload_n C 1 7 dX4_removeMark_6 rfl rfl ?_
  obtain ⟨r3, k4, h⟩ := bd_some h
  refine V_callS C hBA ml_X4_114 (pre := []) (post := []) (w0 := mdW g A r1.2) (w1 := mdW g A r3.2) (as := [.int a1]) (rest := [.ref A.1]) (c_X4_removes k4) 0 10 (mdW g A r3.2) dX4_removeMark_7 rfl ⟨Nat.le_of_ble_eq_true rfl, Nat.le_of_ble_eq_true rfl⟩ rfl (rfl) (rfl) rfl rfl rfl rfl (Nat.le_of_ble_eq_true rfl) ⟨Nat.zero_le _, Nat.zero_le _⟩ ?_
  refine V_iconst C (1 : Int32) 11 dX4_removeMark_10 rfl rfl ?_
  refine V_iconst C (0 : Int32) 12 dX4_removeMark_11 rfl rfl ?_
  refine V_iconst C (0 : Int32) 13 dX4_removeMark_12 rfl rfl ?_
  obtain ⟨r5, k6, h⟩ := bd_some h
  refine V_callS C hBA ml_X4_103 (pre := []) (post := []) (w0 := mdW g A r3.2) (w1 := mdW g A r5.2) (as := [.int r3.1, .int (1 : Int32), .int (0 : Int32), .int (0 : Int32)]) (rest := []) (c_X4_ends k6) 0 16 (mdW g A r5.2) dX4_removeMark_13 rfl ⟨Nat.le_of_ble_eq_true rfl, Nat.le_of_ble_eq_true rfl⟩ rfl (rfl) (rfl) rfl rfl rfl rfl (Nat.le_of_ble_eq_true rfl) ⟨Nat.zero_le _, Nat.zero_le _⟩ ?_
  obtain rfl := Option.some.inj h
  exact retI _ _ _ .int rfl (rfl) rfl dX4_removeMark_16
set_option maxHeartbeats 4000000 in
set_option maxRecDepth 100000 in
theorem c_X4_moves {l : Launch} {D : va_G} {g : G0} {A : MdA} {v : MdV} {a1 a2 : Int32} {R : (Int32 × MdV)} (h : f_X4_moves v a1 a2 = some R) : CtS l D g yX4_moves cX4_moves 5 (some .int) (rmF 2 44) (mdW g A v) [.ref A.1, .int a1, .int a2] (some (.int R.1)) (mdW g A R.2) := by
  refine CtS.of (by decide) (Nat.le_of_ble_eq_true rfl) ?_
  intro K C hBA el eD ekn retI retV
  subst el
  subst eD
  have hlt : ∀ i, i < 5 → i < kn K := fun i h => by rw [ekn]; exact h
  have B73 : ∀ (x1 : Int32) (x2 : Int32) (x3 : Int32) (x4 : Int32) (v : MdV), f_X4_moves_B73 x1 x2 x3 x4 v = some R → V K 0 0 (mdW g A v) [(0, .ref A.1), (1, .int x1), (2, .int x2), (3, .int x3), (4, .int x4)] [] 73 := by
    intro x1 x2 x3 x4 v h
    rw [f_X4_moves_B73] at h
    refine V_iconst C (3 : Int32) 74 dX4_moves_73 rfl rfl ?_
    obtain rfl := Option.some.inj h
    exact retI _ _ _ .int rfl (rfl) rfl dX4_moves_74
  have B60 : ∀ (x1 : Int32) (x2 : Int32) (x3 : Int32) (x4 : Int32) (s0 : Int32) (v : MdV), f_X4_moves_B60 x1 x2 x3 x4 s0 v = some R → V K 0 0 (mdW g A v) [(0, .ref A.1), (1, .int x1), (2, .int x2), (3, .int x3), (4, .int x4)] [.int s0, .ref A.1] 60 := by
    intro x1 x2 x3 x4 s0 v h
    rw [f_X4_moves_B60] at h
    refine V_iconst C (3 : Int32) 61 dX4_moves_60 rfl rfl ?_
    refine V_aload_n C 0 62 dX4_moves_61 rfl rfl ?_
    refine V_iload C 4 64 dX4_moves_62 rfl rfl ?_
    obtain ⟨r1, k2, h⟩ := bd_some h
    refine V_callP C ml_X4_89 (pre := []) (post := []) (w := mdW g A v) (as := [.int x4]) (rest := [.int (3 : Int32), .int s0, .ref A.1]) (c_X4_idAt k2) 0 67 dX4_moves_64 rfl ⟨Nat.le_of_ble_eq_true rfl, Nat.le_of_ble_eq_true rfl⟩ rfl (rfl) rfl rfl rfl (Nat.le_of_ble_eq_true rfl) ⟨Nat.zero_le _, Nat.zero_le _⟩ ?_
    obtain ⟨r3, k4, h⟩ := bd_some h
    refine V_callS C hBA ml_X4_85 (pre := []) (post := []) (w0 := mdW g A v) (w1 := mdW g A r3.2) (as := [.int s0, .int (3 : Int32), .int r1]) (rest := []) (c_X4_rejects k4) 0 70 (mdW g A r3.2) dX4_moves_67 rfl ⟨Nat.le_of_ble_eq_true rfl, Nat.le_of_ble_eq_true rfl⟩ rfl (rfl) (rfl) rfl rfl rfl rfl (Nat.le_of_ble_eq_true rfl) ⟨Nat.zero_le _, Nat.zero_le _⟩ ?_
    refine V_if_eq C 75 73 dX4_moves_70 rfl rfl (fun e5 => ?_) (fun e5 => ?_)
    · have h := (if_pos e5).symm.trans h
      refine V_aload_n C 0 76 dX4_moves_75 rfl rfl ?_
      refine V_aload_n C 0 77 dX4_moves_76 rfl rfl ?_
      refine V_iload_n C 3 78 dX4_moves_77 rfl rfl ?_
      refine V_iconst C (1 : Int32) 79 dX4_moves_78 rfl rfl ?_
      obtain ⟨r6, k7, h⟩ := bd_some h
      refine V_callP C ml_X4_53 (pre := []) (post := []) (w := mdW g A r3.2) (as := [.int x3, .int (1 : Int32)]) (rest := [.ref A.1]) (c_X4_m k7) 0 82 dX4_moves_79 rfl ⟨Nat.le_of_ble_eq_true rfl, Nat.le_of_ble_eq_true rfl⟩ rfl (rfl) rfl rfl rfl (Nat.le_of_ble_eq_true rfl) ⟨Nat.zero_le _, Nat.zero_le _⟩ ?_
      refine V_put C hBA 0 85 (mdW g A ((Md_all r3.2), (Md_output r3.2), (Md_input r3.2), (Md_commands r3.2), (Md_thrown r3.2), (Md_changes r3.2), (Md_isSaved r3.2), r6, (Md_why r3.2), (Md_detail r3.2), (Md_cause r3.2), (Md_outputSize r3.2), (Md_typed r3.2), (Md_here r3.2), (Md_error r3.2), (Md_errorAt r3.2), (Md_commandMany r3.2))) fl_X4_37 fp_X4_4 dX4_moves_82 rfl rfl (Nat.le_of_ble_eq_true rfl) rfl rfl rfl ?_
      refine V_aload_n C 0 86 dX4_moves_85 rfl rfl ?_
      refine V_iload_n C 3 87 dX4_moves_86 rfl rfl ?_
      refine V_iconst C (1 : Int32) 88 dX4_moves_87 rfl rfl ?_
      refine V_iload_n C 2 89 dX4_moves_88 rfl rfl ?_
      obtain ⟨r8, k9, h⟩ := bd_some h
      refine V_callS C hBA ml_X4_92 (pre := []) (post := []) (w0 := mdW g A ((Md_all r3.2), (Md_output r3.2), (Md_input r3.2), (Md_commands r3.2), (Md_thrown r3.2), (Md_changes r3.2), (Md_isSaved r3.2), r6, (Md_why r3.2), (Md_detail r3.2), (Md_cause r3.2), (Md_outputSize r3.2), (Md_typed r3.2), (Md_here r3.2), (Md_error r3.2), (Md_errorAt r3.2), (Md_commandMany r3.2))) (w1 := mdW g A r8.2) (as := [.int x3, .int (1 : Int32), .int x2]) (rest := []) (c_X4_set k9) 0 92 (mdW g A r8.2) dX4_moves_89 rfl ⟨Nat.le_of_ble_eq_true rfl, Nat.le_of_ble_eq_true rfl⟩ rfl (rfl) (rfl) rfl rfl rfl rfl (Nat.le_of_ble_eq_true rfl) ⟨Nat.zero_le _, Nat.zero_le _⟩ ?_
      refine V_iconst C (0 : Int32) 93 dX4_moves_92 rfl rfl ?_
      obtain rfl := Option.some.inj h
      exact retI _ _ _ .int rfl (rfl) rfl dX4_moves_93
    · have h := (if_neg e5).symm.trans h
      refine V_lv [0, 1, 2, 3, 4] rfl ?_
      exact B73 _ _ _ _ _ h
  have B41 : ∀ (x1 : Int32) (x2 : Int32) (x3 : Int32) (x4 : Int32) (s0 : Int32) (v : MdV), f_X4_moves_B41 x1 x2 x3 x4 s0 v = some R → V K 0 0 (mdW g A v) [(0, .ref A.1), (1, .int x1), (2, .int x2), (3, .int x3), (4, .int x4)] [.int s0, .ref A.1] 41 := by
    intro x1 x2 x3 x4 s0 v h
    rw [f_X4_moves_B41] at h
    refine V_iconst C (4 : Int32) 42 dX4_moves_41 rfl rfl ?_
    refine V_iload_n C 1 43 dX4_moves_42 rfl rfl ?_
    obtain ⟨r10, k11, h⟩ := bd_some h
    refine V_callS C hBA ml_X4_85 (pre := []) (post := []) (w0 := mdW g A v) (w1 := mdW g A r10.2) (as := [.int s0, .int (4 : Int32), .int x1]) (rest := []) (c_X4_rejects k11) 0 46 (mdW g A r10.2) dX4_moves_43 rfl ⟨Nat.le_of_ble_eq_true rfl, Nat.le_of_ble_eq_true rfl⟩ rfl (rfl) (rfl) rfl rfl rfl rfl (Nat.le_of_ble_eq_true rfl) ⟨Nat.zero_le _, Nat.zero_le _⟩ ?_
    refine V_if_ne C 73 49 dX4_moves_46 rfl rfl (fun e12 => ?_) (fun e12 => ?_)
    · have h := (if_neg e12).symm.trans h
      refine V_lv [0, 1, 2, 3, 4] rfl ?_
      exact B73 _ _ _ _ _ h
    · have h := (if_pos e12).symm.trans h
      refine V_aload_n C 0 50 dX4_moves_49 rfl rfl ?_
      refine V_iload C 4 52 dX4_moves_50 rfl rfl ?_
      refine V_if_lt C 59 55 dX4_moves_52 rfl rfl (fun e13 => ?_) (fun e13 => ?_)
      · have h := (if_pos e13).symm.trans h
        refine V_iconst C (0 : Int32) 60 dX4_moves_59 rfl rfl ?_
        refine V_lv [0, 1, 2, 3, 4] rfl ?_
        exact B60 _ _ _ _ _ _ h
      · have h := (if_neg e13).symm.trans h
        refine V_iconst C (1 : Int32) 56 dX4_moves_55 rfl rfl ?_
        refine V_goto C 60 dX4_moves_56 rfl ?_
        refine V_lv [0, 1, 2, 3, 4] rfl ?_
        exact B60 _ _ _ _ _ _ h
  have B17 : ∀ (x1 : Int32) (x2 : Int32) (x3 : Int32) (v : MdV), f_X4_moves_B17 x1 x2 x3 v = some R → V K 0 0 (mdW g A v) [(0, .ref A.1), (1, .int x1), (2, .int x2), (3, .int x3)] [] 17 := by
    intro x1 x2 x3 v h
    rw [f_X4_moves_B17] at h
    refine V_iconst C (1 : Int32) 18 dX4_moves_17 rfl rfl ?_
    obtain rfl := Option.some.inj h
    exact retI _ _ _ .int rfl (rfl) rfl dX4_moves_18
  show V K 0 0 _ [(0, .ref A.1), (1, .int a1), (2, .int a2)] [] 0
  unfold f_X4_moves at h
  refine V_aload_n C 0 1 dX4_moves_0 rfl rfl ?_
  refine V_iload_n C 1 2 dX4_moves_1 rfl rfl ?_
  obtain ⟨r14, k15, h⟩ := bd_some h
  refine V_callP C ml_X4_107 (pre := []) (post := []) (w := mdW g A v) (as := [.int a1]) (rest := []) (c_X4_find k15) 0 5 dX4_moves_2 rfl ⟨Nat.le_of_ble_eq_true rfl, Nat.le_of_ble_eq_true rfl⟩ rfl (rfl) rfl rfl rfl (Nat.le_of_ble_eq_true rfl) ⟨Nat.zero_le _, Nat.zero_le _⟩ ?_
  refine V_istore_n C 6 [(3, .int r14), (0, .ref A.1), (1, .int a1), (2, .int a2)] dX4_moves_5 rfl (hlt 3 (by decide)) rfl ?_
  refine V_iload_n C 0 7 dX4_moves_6 rfl rfl ?_
  refine V_if_lt C 17 10 dX4_moves_7 rfl rfl (fun e16 => ?_) (fun e16 => ?_)
  · have h := (if_pos e16).symm.trans h
    refine V_lv [1, 2, 3, 0] rfl ?_
    exact B17 _ _ _ _ h
  · have h := (if_neg e16).symm.trans h
    refine V_iload_n C 3 11 dX4_moves_10 rfl rfl ?_
    obtain ⟨r17, k18, h⟩ := bd_some h
    refine V_callPs C mls_X4_74 (pre := []) (post := mdW g A v) (w := []) (as := [.int a2]) (rest := []) (c_X4_isPage k18) 14 dX4_moves_11 rfl ⟨Nat.le_of_ble_eq_true rfl, Nat.le_of_ble_eq_true rfl⟩ rfl rfl rfl rfl (Nat.le_of_ble_eq_true rfl) ⟨Nat.zero_le _, Nat.zero_le _⟩ ?_
    refine V_if_ne C 19 17 dX4_moves_14 rfl rfl (fun e19 => ?_) (fun e19 => ?_)
    · have h := (if_neg e19).symm.trans h
      refine V_aload_n C 1 20 dX4_moves_19 rfl rfl ?_
      refine V_iload_n C 3 21 dX4_moves_20 rfl rfl ?_
      obtain ⟨r20, k21, h⟩ := bd_some h
      refine V_callP C ml_X4_82 (pre := []) (post := []) (w := mdW g A v) (as := [.int a2]) (rest := []) (c_X4_onPage k21) 0 24 dX4_moves_21 rfl ⟨Nat.le_of_ble_eq_true rfl, Nat.le_of_ble_eq_true rfl⟩ rfl (rfl) rfl rfl rfl (Nat.le_of_ble_eq_true rfl) ⟨Nat.zero_le _, Nat.zero_le _⟩ ?_
      refine V_istore C 26 [(4, .int r20), (3, .int r14), (0, .ref A.1), (1, .int a1), (2, .int a2)] dX4_moves_24 rfl (hlt 4 (by decide)) rfl ?_
      refine V_aload_n C 2 27 dX4_moves_26 rfl rfl ?_
      refine V_aload_n C 2 28 dX4_moves_27 rfl rfl ?_
      refine V_iload_n C 1 29 dX4_moves_28 rfl rfl ?_
      refine V_iconst C (3 : Int32) 30 dX4_moves_29 rfl rfl ?_
      obtain ⟨r22, k23, h⟩ := bd_some h
      refine V_callP C ml_X4_53 (pre := []) (post := []) (w := mdW g A v) (as := [.int r14, .int (3 : Int32)]) (rest := [.ref A.1]) (c_X4_m k23) 0 33 dX4_moves_30 rfl ⟨Nat.le_of_ble_eq_true rfl, Nat.le_of_ble_eq_true rfl⟩ rfl (rfl) rfl rfl rfl (Nat.le_of_ble_eq_true rfl) ⟨Nat.zero_le _, Nat.zero_le _⟩ ?_
      refine V_if_ne C 40 36 dX4_moves_33 rfl rfl (fun e24 => ?_) (fun e24 => ?_)
      · have h := (if_neg e24).symm.trans h
        refine V_iconst C (0 : Int32) 41 dX4_moves_40 rfl rfl ?_
        refine V_lv [2, 3, 4, 1, 0] rfl ?_
        exact B41 _ _ _ _ _ _ h
      · have h := (if_pos e24).symm.trans h
        refine V_iconst C (1 : Int32) 37 dX4_moves_36 rfl rfl ?_
        refine V_goto C 41 dX4_moves_37 rfl ?_
        refine V_lv [2, 3, 4, 1, 0] rfl ?_
        exact B41 _ _ _ _ _ _ h
    · have h := (if_pos e19).symm.trans h
      refine V_lv [1, 2, 3, 0] rfl ?_
      exact B17 _ _ _ _ h
set_option maxHeartbeats 4000000 in
set_option maxRecDepth 100000 in
theorem c_X4_moveRibbon {l : Launch} {D : va_G} {g : G0} {A : MdA} {v : MdV} {a1 a2 : Int32} {R : (Int32 × MdV)} (h : f_X4_moveRibbon v a1 a2 = some R) : CtS l D g yX4_moveRibbon cX4_moveRibbon 3 (some .int) (rmF 3 68) (mdW g A v) [.ref A.1, .int a1, .int a2] (some (.int R.1)) (mdW g A R.2) := by
  refine CtS.of (by decide) (Nat.le_of_ble_eq_true rfl) ?_
  intro K C hBA el eD ekn retI retV
  subst el
  subst eD
  have hlt : ∀ i, i < 3 → i < kn K := fun i h => by rw [ekn]; exact h
  show V K 0 0 _ [(0, .ref A.1), (1, .int a1), (2, .int a2)] [] 0
  unfold f_X4_moveRibbon at h
  refine V_aload_n C 0 1 dX4_moveRibbon_0 rfl rfl ?_
  obtain ⟨r1, k2, h⟩ := bd_some h
  refine V_callS C hBA ml_X4_96 (pre := []) (post := []) (w0 := mdW g A v) (w1 := mdW g A r1.2) (as := []) (rest := []) (c_X4_begins k2) 0 4 (mdW g A r1.2) dX4_moveRibbon_1 rfl ⟨Nat.le_of_ble_eq_true rfl, Nat.le_of_ble_eq_true rfl⟩ rfl (rfl) (rfl) rfl rfl rfl rfl (Nat.le_of_ble_eq_true rfl) ⟨Nat.zero_le _, Nat.zero_le _⟩ ?_
  refine V_aload_n C 0 5 dX4_moveRibbon_4 rfl rfl ?_
  refine V_aload_n C 0 6 dX4_moveRibbon_5 rfl rfl ?_
  refine V_iload_n C 1 7 dX4_moveRibbon_6 rfl rfl ?_
  refine V_iload_n C 2 8 dX4_moveRibbon_7 rfl rfl ?_
  obtain ⟨r3, k4, h⟩ := bd_some h
  refine V_callS C hBA ml_X4_117 (pre := []) (post := []) (w0 := mdW g A r1.2) (w1 := mdW g A r3.2) (as := [.int a1, .int a2]) (rest := [.ref A.1]) (c_X4_moves k4) 0 11 (mdW g A r3.2) dX4_moveRibbon_8 rfl ⟨Nat.le_of_ble_eq_true rfl, Nat.le_of_ble_eq_true rfl⟩ rfl (rfl) (rfl) rfl rfl rfl rfl (Nat.le_of_ble_eq_true rfl) ⟨Nat.zero_le _, Nat.zero_le _⟩ ?_
  refine V_iconst C (1 : Int32) 12 dX4_moveRibbon_11 rfl rfl ?_
  refine V_iconst C (0 : Int32) 13 dX4_moveRibbon_12 rfl rfl ?_
  refine V_iconst C (2 : Int32) 14 dX4_moveRibbon_13 rfl rfl ?_
  obtain ⟨r5, k6, h⟩ := bd_some h
  refine V_callS C hBA ml_X4_103 (pre := []) (post := []) (w0 := mdW g A r3.2) (w1 := mdW g A r5.2) (as := [.int r3.1, .int (1 : Int32), .int (0 : Int32), .int (2 : Int32)]) (rest := []) (c_X4_ends k6) 0 17 (mdW g A r5.2) dX4_moveRibbon_14 rfl ⟨Nat.le_of_ble_eq_true rfl, Nat.le_of_ble_eq_true rfl⟩ rfl (rfl) (rfl) rfl rfl rfl rfl (Nat.le_of_ble_eq_true rfl) ⟨Nat.zero_le _, Nat.zero_le _⟩ ?_
  obtain rfl := Option.some.inj h
  exact retI _ _ _ .int rfl (rfl) rfl dX4_moveRibbon_17
set_option maxHeartbeats 4000000 in
set_option maxRecDepth 100000 in
theorem c_X4_swaps {l : Launch} {D : va_G} {g : G0} {A : MdA} {v : MdV} {a1 a2 : Int32} {R : (Int32 × MdV)} (h : f_X4_swaps v a1 a2 = some R) : CtS l D g yX4_swaps cX4_swaps 6 (some .int) (rmF 2 44) (mdW g A v) [.ref A.1, .int a1, .int a2] (some (.int R.1)) (mdW g A R.2) := by
  refine CtS.of (by decide) (Nat.le_of_ble_eq_true rfl) ?_
  intro K C hBA el eD ekn retI retV
  subst el
  subst eD
  have hlt : ∀ i, i < 6 → i < kn K := fun i h => by rw [ekn]; exact h
  have B90 : ∀ (x1 : Int32) (x2 : Int32) (x3 : Int32) (x4 : Int32) (v : MdV), f_X4_swaps_B90 x1 x2 x3 x4 v = some R → V K 0 0 (mdW g A v) [(0, .ref A.1), (1, .int x1), (2, .int x2), (3, .int x3), (4, .int x4)] [] 90 := by
    intro x1 x2 x3 x4 v h
    rw [f_X4_swaps_B90] at h
    refine V_iconst C (3 : Int32) 91 dX4_swaps_90 rfl rfl ?_
    obtain rfl := Option.some.inj h
    exact retI _ _ _ .int rfl (rfl) rfl dX4_swaps_91
  have B82 : ∀ (x1 : Int32) (x2 : Int32) (x3 : Int32) (x4 : Int32) (s0 : Int32) (v : MdV), f_X4_swaps_B82 x1 x2 x3 x4 s0 v = some R → V K 0 0 (mdW g A v) [(0, .ref A.1), (1, .int x1), (2, .int x2), (3, .int x3), (4, .int x4)] [.int s0, .ref A.1] 82 := by
    intro x1 x2 x3 x4 s0 v h
    rw [f_X4_swaps_B82] at h
    refine V_iconst C (5 : Int32) 83 dX4_swaps_82 rfl rfl ?_
    refine V_iload_n C 1 84 dX4_swaps_83 rfl rfl ?_
    obtain ⟨r1, k2, h⟩ := bd_some h
    refine V_callS C hBA ml_X4_85 (pre := []) (post := []) (w0 := mdW g A v) (w1 := mdW g A r1.2) (as := [.int s0, .int (5 : Int32), .int x1]) (rest := []) (c_X4_rejects k2) 0 87 (mdW g A r1.2) dX4_swaps_84 rfl ⟨Nat.le_of_ble_eq_true rfl, Nat.le_of_ble_eq_true rfl⟩ rfl (rfl) (rfl) rfl rfl rfl rfl (Nat.le_of_ble_eq_true rfl) ⟨Nat.zero_le _, Nat.zero_le _⟩ ?_
    refine V_if_eq C 92 90 dX4_swaps_87 rfl rfl (fun e3 => ?_) (fun e3 => ?_)
    · have h := (if_pos e3).symm.trans h
      refine V_aload_n C 0 93 dX4_swaps_92 rfl rfl ?_
      refine V_iload_n C 3 94 dX4_swaps_93 rfl rfl ?_
      refine V_iconst C (3 : Int32) 95 dX4_swaps_94 rfl rfl ?_
      obtain ⟨r4, k5, h⟩ := bd_some h
      refine V_callP C ml_X4_53 (pre := []) (post := []) (w := mdW g A r1.2) (as := [.int x3, .int (3 : Int32)]) (rest := []) (c_X4_m k5) 0 98 dX4_swaps_95 rfl ⟨Nat.le_of_ble_eq_true rfl, Nat.le_of_ble_eq_true rfl⟩ rfl (rfl) rfl rfl rfl (Nat.le_of_ble_eq_true rfl) ⟨Nat.zero_le _, Nat.zero_le _⟩ ?_
      refine V_istore C 100 [(5, .int r4), (0, .ref A.1), (1, .int x1), (2, .int x2), (3, .int x3), (4, .int x4)] dX4_swaps_98 rfl (hlt 5 (by decide)) rfl ?_
      refine V_aload_n C 1 101 dX4_swaps_100 rfl rfl ?_
      refine V_iload_n C 4 102 dX4_swaps_101 rfl rfl ?_
      refine V_iconst C (3 : Int32) 103 dX4_swaps_102 rfl rfl ?_
      refine V_aload_n C 1 104 dX4_swaps_103 rfl rfl ?_
      refine V_iload C 5 106 dX4_swaps_104 rfl rfl ?_
      refine V_iconst C (3 : Int32) 107 dX4_swaps_106 rfl rfl ?_
      obtain ⟨r6, k7, h⟩ := bd_some h
      refine V_callP C ml_X4_53 (pre := []) (post := []) (w := mdW g A r1.2) (as := [.int x4, .int (3 : Int32)]) (rest := [.int (3 : Int32), .int x3, .ref A.1]) (c_X4_m k7) 0 110 dX4_swaps_107 rfl ⟨Nat.le_of_ble_eq_true rfl, Nat.le_of_ble_eq_true rfl⟩ rfl (rfl) rfl rfl rfl (Nat.le_of_ble_eq_true rfl) ⟨Nat.zero_le _, Nat.zero_le _⟩ ?_
      obtain ⟨r8, k9, h⟩ := bd_some h
      refine V_callS C hBA ml_X4_92 (pre := []) (post := []) (w0 := mdW g A r1.2) (w1 := mdW g A r8.2) (as := [.int x3, .int (3 : Int32), .int r6]) (rest := []) (c_X4_set k9) 0 113 (mdW g A r8.2) dX4_swaps_110 rfl ⟨Nat.le_of_ble_eq_true rfl, Nat.le_of_ble_eq_true rfl⟩ rfl (rfl) (rfl) rfl rfl rfl rfl (Nat.le_of_ble_eq_true rfl) ⟨Nat.zero_le _, Nat.zero_le _⟩ ?_
      refine V_aload_n C 1 114 dX4_swaps_113 rfl rfl ?_
      refine V_iload C 5 116 dX4_swaps_114 rfl rfl ?_
      refine V_iconst C (3 : Int32) 117 dX4_swaps_116 rfl rfl ?_
      refine V_iload C 0 119 dX4_swaps_117 rfl rfl ?_
      obtain ⟨r10, k11, h⟩ := bd_some h
      refine V_callS C hBA ml_X4_92 (pre := []) (post := []) (w0 := mdW g A r8.2) (w1 := mdW g A r10.2) (as := [.int x4, .int (3 : Int32), .int r4]) (rest := []) (c_X4_set k11) 0 122 (mdW g A r10.2) dX4_swaps_119 rfl ⟨Nat.le_of_ble_eq_true rfl, Nat.le_of_ble_eq_true rfl⟩ rfl (rfl) (rfl) rfl rfl rfl rfl (Nat.le_of_ble_eq_true rfl) ⟨Nat.zero_le _, Nat.zero_le _⟩ ?_
      refine V_aload_n C 1 123 dX4_swaps_122 rfl rfl ?_
      refine V_aload_n C 1 124 dX4_swaps_123 rfl rfl ?_
      refine V_iload_n C 4 125 dX4_swaps_124 rfl rfl ?_
      refine V_iconst C (3 : Int32) 126 dX4_swaps_125 rfl rfl ?_
      obtain ⟨r12, k13, h⟩ := bd_some h
      refine V_callP C ml_X4_53 (pre := []) (post := []) (w := mdW g A r10.2) (as := [.int x3, .int (3 : Int32)]) (rest := [.ref A.1]) (c_X4_m k13) 0 129 dX4_swaps_126 rfl ⟨Nat.le_of_ble_eq_true rfl, Nat.le_of_ble_eq_true rfl⟩ rfl (rfl) rfl rfl rfl (Nat.le_of_ble_eq_true rfl) ⟨Nat.zero_le _, Nat.zero_le _⟩ ?_
      refine V_iconst C (1 : Int32) 130 dX4_swaps_129 rfl rfl ?_
      refine V_isub C 131 dX4_swaps_130 rfl ?_
      refine V_put C hBA 0 134 (mdW g A ((Md_all r10.2), (Md_output r10.2), (Md_input r10.2), (Md_commands r10.2), (Md_thrown r10.2), (Md_changes r10.2), (Md_isSaved r10.2), (r12 - (1 : Int32)), (Md_why r10.2), (Md_detail r10.2), (Md_cause r10.2), (Md_outputSize r10.2), (Md_typed r10.2), (Md_here r10.2), (Md_error r10.2), (Md_errorAt r10.2), (Md_commandMany r10.2))) fl_X4_37 fp_X4_4 dX4_swaps_131 rfl rfl (Nat.le_of_ble_eq_true rfl) rfl rfl rfl ?_
      refine V_iconst C (0 : Int32) 135 dX4_swaps_134 rfl rfl ?_
      obtain rfl := Option.some.inj h
      exact retI _ _ _ .int rfl (rfl) rfl dX4_swaps_135
    · have h := (if_neg e3).symm.trans h
      refine V_lv [0, 1, 2, 3, 4] rfl ?_
      exact B90 _ _ _ _ _ h
  have B63 : ∀ (x1 : Int32) (x2 : Int32) (x3 : Int32) (x4 : Int32) (s0 : Int32) (v : MdV), f_X4_swaps_B63 x1 x2 x3 x4 s0 v = some R → V K 0 0 (mdW g A v) [(0, .ref A.1), (1, .int x1), (2, .int x2), (3, .int x3), (4, .int x4)] [.int s0, .ref A.1] 63 := by
    intro x1 x2 x3 x4 s0 v h
    rw [f_X4_swaps_B63] at h
    refine V_iconst C (4 : Int32) 64 dX4_swaps_63 rfl rfl ?_
    refine V_iload_n C 2 65 dX4_swaps_64 rfl rfl ?_
    obtain ⟨r14, k15, h⟩ := bd_some h
    refine V_callS C hBA ml_X4_85 (pre := []) (post := []) (w0 := mdW g A v) (w1 := mdW g A r14.2) (as := [.int s0, .int (4 : Int32), .int x2]) (rest := []) (c_X4_rejects k15) 0 68 (mdW g A r14.2) dX4_swaps_65 rfl ⟨Nat.le_of_ble_eq_true rfl, Nat.le_of_ble_eq_true rfl⟩ rfl (rfl) (rfl) rfl rfl rfl rfl (Nat.le_of_ble_eq_true rfl) ⟨Nat.zero_le _, Nat.zero_le _⟩ ?_
    refine V_if_ne C 90 71 dX4_swaps_68 rfl rfl (fun e16 => ?_) (fun e16 => ?_)
    · have h := (if_neg e16).symm.trans h
      refine V_lv [0, 1, 2, 3, 4] rfl ?_
      exact B90 _ _ _ _ _ h
    · have h := (if_pos e16).symm.trans h
      refine V_aload_n C 0 72 dX4_swaps_71 rfl rfl ?_
      refine V_iload_n C 1 73 dX4_swaps_72 rfl rfl ?_
      refine V_iload_n C 2 74 dX4_swaps_73 rfl rfl ?_
      refine V_icmp_ne C 81 77 dX4_swaps_74 rfl rfl (fun e17 => ?_) (fun e17 => ?_)
      · have h := (if_neg e17).symm.trans h
        refine V_iconst C (0 : Int32) 82 dX4_swaps_81 rfl rfl ?_
        refine V_lv [0, 1, 2, 3, 4] rfl ?_
        exact B82 _ _ _ _ _ _ h
      · have h := (if_pos e17).symm.trans h
        refine V_iconst C (1 : Int32) 78 dX4_swaps_77 rfl rfl ?_
        refine V_goto C 82 dX4_swaps_78 rfl ?_
        refine V_lv [0, 1, 2, 3, 4] rfl ?_
        exact B82 _ _ _ _ _ _ h
  have B39 : ∀ (x1 : Int32) (x2 : Int32) (x3 : Int32) (x4 : Int32) (s0 : Int32) (v : MdV), f_X4_swaps_B39 x1 x2 x3 x4 s0 v = some R → V K 0 0 (mdW g A v) [(0, .ref A.1), (1, .int x1), (2, .int x2), (3, .int x3), (4, .int x4)] [.int s0, .ref A.1] 39 := by
    intro x1 x2 x3 x4 s0 v h
    rw [f_X4_swaps_B39] at h
    refine V_iconst C (4 : Int32) 40 dX4_swaps_39 rfl rfl ?_
    refine V_iload_n C 1 41 dX4_swaps_40 rfl rfl ?_
    obtain ⟨r18, k19, h⟩ := bd_some h
    refine V_callS C hBA ml_X4_85 (pre := []) (post := []) (w0 := mdW g A v) (w1 := mdW g A r18.2) (as := [.int s0, .int (4 : Int32), .int x1]) (rest := []) (c_X4_rejects k19) 0 44 (mdW g A r18.2) dX4_swaps_41 rfl ⟨Nat.le_of_ble_eq_true rfl, Nat.le_of_ble_eq_true rfl⟩ rfl (rfl) (rfl) rfl rfl rfl rfl (Nat.le_of_ble_eq_true rfl) ⟨Nat.zero_le _, Nat.zero_le _⟩ ?_
    refine V_if_ne C 90 47 dX4_swaps_44 rfl rfl (fun e20 => ?_) (fun e20 => ?_)
    · have h := (if_neg e20).symm.trans h
      refine V_lv [0, 1, 2, 3, 4] rfl ?_
      exact B90 _ _ _ _ _ h
    · have h := (if_pos e20).symm.trans h
      refine V_aload_n C 0 48 dX4_swaps_47 rfl rfl ?_
      refine V_aload_n C 0 49 dX4_swaps_48 rfl rfl ?_
      refine V_iload C 4 51 dX4_swaps_49 rfl rfl ?_
      refine V_iconst C (3 : Int32) 52 dX4_swaps_51 rfl rfl ?_
      obtain ⟨r21, k22, h⟩ := bd_some h
      refine V_callP C ml_X4_53 (pre := []) (post := []) (w := mdW g A r18.2) (as := [.int x4, .int (3 : Int32)]) (rest := [.ref A.1]) (c_X4_m k22) 0 55 dX4_swaps_52 rfl ⟨Nat.le_of_ble_eq_true rfl, Nat.le_of_ble_eq_true rfl⟩ rfl (rfl) rfl rfl rfl (Nat.le_of_ble_eq_true rfl) ⟨Nat.zero_le _, Nat.zero_le _⟩ ?_
      refine V_if_ne C 62 58 dX4_swaps_55 rfl rfl (fun e23 => ?_) (fun e23 => ?_)
      · have h := (if_neg e23).symm.trans h
        refine V_iconst C (0 : Int32) 63 dX4_swaps_62 rfl rfl ?_
        refine V_lv [0, 1, 2, 3, 4] rfl ?_
        exact B63 _ _ _ _ _ _ h
      · have h := (if_pos e23).symm.trans h
        refine V_iconst C (1 : Int32) 59 dX4_swaps_58 rfl rfl ?_
        refine V_goto C 63 dX4_swaps_59 rfl ?_
        refine V_lv [0, 1, 2, 3, 4] rfl ?_
        exact B63 _ _ _ _ _ _ h
  have B22 : ∀ (x1 : Int32) (x2 : Int32) (x3 : Int32) (x4 : Int32) (v : MdV), f_X4_swaps_B22 x1 x2 x3 x4 v = some R → V K 0 0 (mdW g A v) [(0, .ref A.1), (1, .int x1), (2, .int x2), (3, .int x3), (4, .int x4)] [] 22 := by
    intro x1 x2 x3 x4 v h
    rw [f_X4_swaps_B22] at h
    refine V_iconst C (1 : Int32) 23 dX4_swaps_22 rfl rfl ?_
    obtain rfl := Option.some.inj h
    exact retI _ _ _ .int rfl (rfl) rfl dX4_swaps_23
  show V K 0 0 _ [(0, .ref A.1), (1, .int a1), (2, .int a2)] [] 0
  unfold f_X4_swaps at h
  refine V_aload_n C 0 1 dX4_swaps_0 rfl rfl ?_
  refine V_iload_n C 1 2 dX4_swaps_1 rfl rfl ?_
  obtain ⟨r24, k25, h⟩ := bd_some h
  refine V_callP C ml_X4_107 (pre := []) (post := []) (w := mdW g A v) (as := [.int a1]) (rest := []) (c_X4_find k25) 0 5 dX4_swaps_2 rfl ⟨Nat.le_of_ble_eq_true rfl, Nat.le_of_ble_eq_true rfl⟩ rfl (rfl) rfl rfl rfl (Nat.le_of_ble_eq_true rfl) ⟨Nat.zero_le _, Nat.zero_le _⟩ ?_
  refine V_istore_n C 6 [(3, .int r24), (0, .ref A.1), (1, .int a1), (2, .int a2)] dX4_swaps_5 rfl (hlt 3 (by decide)) rfl ?_
  refine V_aload_n C 1 7 dX4_swaps_6 rfl rfl ?_
  refine V_iload_n C 3 8 dX4_swaps_7 rfl rfl ?_
  obtain ⟨r26, k27, h⟩ := bd_some h
  refine V_callP C ml_X4_107 (pre := []) (post := []) (w := mdW g A v) (as := [.int a2]) (rest := []) (c_X4_find k27) 0 11 dX4_swaps_8 rfl ⟨Nat.le_of_ble_eq_true rfl, Nat.le_of_ble_eq_true rfl⟩ rfl (rfl) rfl rfl rfl (Nat.le_of_ble_eq_true rfl) ⟨Nat.zero_le _, Nat.zero_le _⟩ ?_
  refine V_istore C 13 [(4, .int r26), (3, .int r24), (0, .ref A.1), (1, .int a1), (2, .int a2)] dX4_swaps_11 rfl (hlt 4 (by decide)) rfl ?_
  refine V_iload_n C 1 14 dX4_swaps_13 rfl rfl ?_
  refine V_if_lt C 22 17 dX4_swaps_14 rfl rfl (fun e28 => ?_) (fun e28 => ?_)
  · have h := (if_pos e28).symm.trans h
    refine V_lv [2, 3, 4, 1, 0] rfl ?_
    exact B22 _ _ _ _ _ h
  · have h := (if_neg e28).symm.trans h
    refine V_iload C 0 19 dX4_swaps_17 rfl rfl ?_
    refine V_if_ge C 24 22 dX4_swaps_19 rfl rfl (fun e29 => ?_) (fun e29 => ?_)
    · have h := (if_pos e29).symm.trans h
      refine V_aload_n C 2 25 dX4_swaps_24 rfl rfl ?_
      refine V_aload_n C 2 26 dX4_swaps_25 rfl rfl ?_
      refine V_iload_n C 1 27 dX4_swaps_26 rfl rfl ?_
      refine V_iconst C (3 : Int32) 28 dX4_swaps_27 rfl rfl ?_
      obtain ⟨r30, k31, h⟩ := bd_some h
      refine V_callP C ml_X4_53 (pre := []) (post := []) (w := mdW g A v) (as := [.int r24, .int (3 : Int32)]) (rest := [.ref A.1]) (c_X4_m k31) 0 31 dX4_swaps_28 rfl ⟨Nat.le_of_ble_eq_true rfl, Nat.le_of_ble_eq_true rfl⟩ rfl (rfl) rfl rfl rfl (Nat.le_of_ble_eq_true rfl) ⟨Nat.zero_le _, Nat.zero_le _⟩ ?_
      refine V_if_ne C 38 34 dX4_swaps_31 rfl rfl (fun e32 => ?_) (fun e32 => ?_)
      · have h := (if_neg e32).symm.trans h
        refine V_iconst C (0 : Int32) 39 dX4_swaps_38 rfl rfl ?_
        refine V_lv [2, 3, 4, 1, 0] rfl ?_
        exact B39 _ _ _ _ _ _ h
      · have h := (if_pos e32).symm.trans h
        refine V_iconst C (1 : Int32) 35 dX4_swaps_34 rfl rfl ?_
        refine V_goto C 39 dX4_swaps_35 rfl ?_
        refine V_lv [2, 3, 4, 1, 0] rfl ?_
        exact B39 _ _ _ _ _ _ h
    · have h := (if_neg e29).symm.trans h
      refine V_lv [2, 3, 4, 1, 0] rfl ?_
      exact B22 _ _ _ _ _ h
set_option maxHeartbeats 4000000 in
set_option maxRecDepth 100000 in
theorem c_X4_swapSeats {l : Launch} {D : va_G} {g : G0} {A : MdA} {v : MdV} {a1 a2 : Int32} {R : (Int32 × MdV)} (h : f_X4_swapSeats v a1 a2 = some R) : CtS l D g yX4_swapSeats cX4_swapSeats 3 (some .int) (rmF 3 69) (mdW g A v) [.ref A.1, .int a1, .int a2] (some (.int R.1)) (mdW g A R.2) := by
  refine CtS.of (by decide) (Nat.le_of_ble_eq_true rfl) ?_
  intro K C hBA el eD ekn retI retV
  subst el
  subst eD
  have hlt : ∀ i, i < 3 → i < kn K := fun i h => by rw [ekn]; exact h
  show V K 0 0 _ [(0, .ref A.1), (1, .int a1), (2, .int a2)] [] 0
  unfold f_X4_swapSeats at h
  refine V_aload_n C 0 1 dX4_swapSeats_0 rfl rfl ?_
  obtain ⟨r1, k2, h⟩ := bd_some h
  refine V_callS C hBA ml_X4_96 (pre := []) (post := []) (w0 := mdW g A v) (w1 := mdW g A r1.2) (as := []) (rest := []) (c_X4_begins k2) 0 4 (mdW g A r1.2) dX4_swapSeats_1 rfl ⟨Nat.le_of_ble_eq_true rfl, Nat.le_of_ble_eq_true rfl⟩ rfl (rfl) (rfl) rfl rfl rfl rfl (Nat.le_of_ble_eq_true rfl) ⟨Nat.zero_le _, Nat.zero_le _⟩ ?_
  refine V_aload_n C 0 5 dX4_swapSeats_4 rfl rfl ?_
  refine V_aload_n C 0 6 dX4_swapSeats_5 rfl rfl ?_
  refine V_iload_n C 1 7 dX4_swapSeats_6 rfl rfl ?_
  refine V_iload_n C 2 8 dX4_swapSeats_7 rfl rfl ?_
  obtain ⟨r3, k4, h⟩ := bd_some h
  refine V_callS C hBA ml_X4_120 (pre := []) (post := []) (w0 := mdW g A r1.2) (w1 := mdW g A r3.2) (as := [.int a1, .int a2]) (rest := [.ref A.1]) (c_X4_swaps k4) 0 11 (mdW g A r3.2) dX4_swapSeats_8 rfl ⟨Nat.le_of_ble_eq_true rfl, Nat.le_of_ble_eq_true rfl⟩ rfl (rfl) (rfl) rfl rfl rfl rfl (Nat.le_of_ble_eq_true rfl) ⟨Nat.zero_le _, Nat.zero_le _⟩ ?_
  refine V_iconst C (1 : Int32) 12 dX4_swapSeats_11 rfl rfl ?_
  refine V_iconst C (0 : Int32) 13 dX4_swapSeats_12 rfl rfl ?_
  refine V_iconst C (2 : Int32) 14 dX4_swapSeats_13 rfl rfl ?_
  obtain ⟨r5, k6, h⟩ := bd_some h
  refine V_callS C hBA ml_X4_103 (pre := []) (post := []) (w0 := mdW g A r3.2) (w1 := mdW g A r5.2) (as := [.int r3.1, .int (1 : Int32), .int (0 : Int32), .int (2 : Int32)]) (rest := []) (c_X4_ends k6) 0 17 (mdW g A r5.2) dX4_swapSeats_14 rfl ⟨Nat.le_of_ble_eq_true rfl, Nat.le_of_ble_eq_true rfl⟩ rfl (rfl) (rfl) rfl rfl rfl rfl (Nat.le_of_ble_eq_true rfl) ⟨Nat.zero_le _, Nat.zero_le _⟩ ?_
  obtain rfl := Option.some.inj h
  exact retI _ _ _ .int rfl (rfl) rfl dX4_swapSeats_17
set_option maxHeartbeats 4000000 in
set_option maxRecDepth 100000 in
theorem c_X4_starts {l : Launch} {D : va_G} {g : G0} {A : MdA} {v : MdV} {a1 : Int32} {R : (Int32 × MdV)} (h : f_X4_starts v a1 = some R) : CtS l D g yX4_starts cX4_starts 4 (some .int) (rmF 2 42) (mdW g A v) [.ref A.1, .int a1] (some (.int R.1)) (mdW g A R.2) := by
  refine CtS.of (by decide) (Nat.le_of_ble_eq_true rfl) ?_
  intro K C hBA el eD ekn retI retV
  subst el
  subst eD
  have hlt : ∀ i, i < 4 → i < kn K := fun i h => by rw [ekn]; exact h
  have L75 : ∀ (n : Nat) (x1 : Int32) (x2 : Int32) (x3 : Int32) (v : MdV), f_X4_starts_L75 n x1 x2 x3 v = some R → V K 0 0 (mdW g A v) [(0, .ref A.1), (1, .int x1), (2, .int x2), (3, .int x3)] [] 75 := by
    intro n
    induction n with
    | zero =>
      intro x1 x2 x3 v h
      rw [f_X4_starts_L75] at h
      cases h
    | succ n ih =>
      intro x1 x2 x3 v h
      rw [f_X4_starts_L75] at h
      refine V_iload_n C 3 76 dX4_starts_75 rfl rfl ?_
      refine V_iload_n C 2 77 dX4_starts_76 rfl rfl ?_
      refine V_iconst C (1 : Int32) 78 dX4_starts_77 rfl rfl ?_
      refine V_iadd C 79 dX4_starts_78 rfl ?_
      refine V_icmp_le C 108 82 dX4_starts_79 rfl rfl (fun e1 => ?_) (fun e1 => ?_)
      · have h := (if_pos e1).symm.trans h
        refine V_aload_n C 0 109 dX4_starts_108 rfl rfl ?_
        refine V_get C (v := .ref A.2.1) 0 112 fl_X4_9 dX4_starts_109 rfl rfl rfl ?_
        refine V_bipush C (7 : Int32) 114 dX4_starts_112 rfl rfl ?_
        refine V_iload_n C 2 115 dX4_starts_114 rfl rfl ?_
        refine V_iadd C 116 dX4_starts_115 rfl ?_
        refine V_iconst C (1 : Int32) 117 dX4_starts_116 rfl rfl ?_
        refine V_iadd C 118 dX4_starts_117 rfl ?_
        refine V_iload_n C 1 119 dX4_starts_118 rfl rfl ?_
        obtain ⟨g2, h⟩ := gd_some h
        refine V_iast C hBA (f := (Md_all v)) (n := 825) 1 120 (mdW g A ((upd (Md_all v) (cl (((7 : Int32) + x2) + (1 : Int32))) x1), (Md_output v), (Md_input v), (Md_commands v), (Md_thrown v), (Md_changes v), (Md_isSaved v), (Md_result v), (Md_why v), (Md_detail v), (Md_cause v), (Md_outputSize v), (Md_typed v), (Md_here v), (Md_error v), (Md_errorAt v), (Md_commandMany v))) dX4_starts_119 rfl rfl g2 rfl ?_
        refine V_aload_n C 0 121 dX4_starts_120 rfl rfl ?_
        refine V_get C (v := .ref A.2.1) 0 124 fl_X4_9 dX4_starts_121 rfl rfl rfl ?_
        refine V_iconst C (2 : Int32) 125 dX4_starts_124 rfl rfl ?_
        refine V_dup2 C 126 dX4_starts_125 rfl rfl rfl ?_
        obtain ⟨g3, h⟩ := gd_some h
        refine V_iald C (f := (upd (Md_all v) (cl (((7 : Int32) + x2) + (1 : Int32))) x1)) (n := 825) 1 127 dX4_starts_126 rfl rfl g3 ?_
        refine V_iconst C (1 : Int32) 128 dX4_starts_127 rfl rfl ?_
        refine V_iadd C 129 dX4_starts_128 rfl ?_
        obtain ⟨g4, h⟩ := gd_some h
        refine V_iast C hBA (f := (upd (Md_all v) (cl (((7 : Int32) + x2) + (1 : Int32))) x1)) (n := 825) 1 130 (mdW g A ((upd (upd (Md_all v) (cl (((7 : Int32) + x2) + (1 : Int32))) x1) (cl (2 : Int32)) (((upd (Md_all v) (cl (((7 : Int32) + x2) + (1 : Int32))) x1) (cl (2 : Int32))) + (1 : Int32))), (Md_output v), (Md_input v), (Md_commands v), (Md_thrown v), (Md_changes v), (Md_isSaved v), (Md_result v), (Md_why v), (Md_detail v), (Md_cause v), (Md_outputSize v), (Md_typed v), (Md_here v), (Md_error v), (Md_errorAt v), (Md_commandMany v))) dX4_starts_129 rfl rfl g4 rfl ?_
        refine V_aload_n C 0 131 dX4_starts_130 rfl rfl ?_
        refine V_iload_n C 2 132 dX4_starts_131 rfl rfl ?_
        refine V_iconst C (1 : Int32) 133 dX4_starts_132 rfl rfl ?_
        refine V_iadd C 134 dX4_starts_133 rfl ?_
        refine V_put C hBA 0 137 (mdW g A ((upd (upd (Md_all v) (cl (((7 : Int32) + x2) + (1 : Int32))) x1) (cl (2 : Int32)) (((upd (Md_all v) (cl (((7 : Int32) + x2) + (1 : Int32))) x1) (cl (2 : Int32))) + (1 : Int32))), (Md_output v), (Md_input v), (Md_commands v), (Md_thrown v), (Md_changes v), (Md_isSaved v), (x2 + (1 : Int32)), (Md_why v), (Md_detail v), (Md_cause v), (Md_outputSize v), (Md_typed v), (Md_here v), (Md_error v), (Md_errorAt v), (Md_commandMany v))) fl_X4_37 fp_X4_4 dX4_starts_134 rfl rfl (Nat.le_of_ble_eq_true rfl) rfl rfl rfl ?_
        refine V_iconst C (0 : Int32) 138 dX4_starts_137 rfl rfl ?_
        obtain rfl := Option.some.inj h
        exact retI _ _ _ .int rfl (rfl) rfl dX4_starts_138
      · have h := (if_neg e1).symm.trans h
        refine V_aload_n C 0 83 dX4_starts_82 rfl rfl ?_
        refine V_get C (v := .ref A.2.1) 0 86 fl_X4_9 dX4_starts_83 rfl rfl rfl ?_
        refine V_bipush C (7 : Int32) 88 dX4_starts_86 rfl rfl ?_
        refine V_iload_n C 3 89 dX4_starts_88 rfl rfl ?_
        refine V_iadd C 90 dX4_starts_89 rfl ?_
        refine V_aload_n C 0 91 dX4_starts_90 rfl rfl ?_
        refine V_get C (v := .ref A.2.1) 0 94 fl_X4_9 dX4_starts_91 rfl rfl rfl ?_
        refine V_bipush C (7 : Int32) 96 dX4_starts_94 rfl rfl ?_
        refine V_iload_n C 3 97 dX4_starts_96 rfl rfl ?_
        refine V_iadd C 98 dX4_starts_97 rfl ?_
        refine V_iconst C (1 : Int32) 99 dX4_starts_98 rfl rfl ?_
        refine V_isub C 100 dX4_starts_99 rfl ?_
        obtain ⟨g5, h⟩ := gd_some h
        refine V_iald C (f := (Md_all v)) (n := 825) 1 101 dX4_starts_100 rfl rfl g5 ?_
        obtain ⟨g6, h⟩ := gd_some h
        refine V_iast C hBA (f := (Md_all v)) (n := 825) 1 102 (mdW g A ((upd (Md_all v) (cl ((7 : Int32) + x3)) ((Md_all v) (cl (((7 : Int32) + x3) - (1 : Int32))))), (Md_output v), (Md_input v), (Md_commands v), (Md_thrown v), (Md_changes v), (Md_isSaved v), (Md_result v), (Md_why v), (Md_detail v), (Md_cause v), (Md_outputSize v), (Md_typed v), (Md_here v), (Md_error v), (Md_errorAt v), (Md_commandMany v))) dX4_starts_101 rfl rfl g6 rfl ?_
        refine V_iinc C 3 (x3 + (-1 : Int32)) 105 [(3, .int (x3 + (-1 : Int32))), (0, .ref A.1), (1, .int x1), (2, .int x2)] dX4_starts_102 rfl rfl rfl (hlt 3 (by decide)) rfl ?_
        refine V_goto C 75 dX4_starts_105 rfl ?_
        refine V_lv [1, 2, 3, 0] rfl ?_
        exact ih _ _ _ _ h
  have B66 : ∀ (x1 : Int32) (x2 : Int32) (v : MdV), f_X4_starts_B66 x1 x2 v = some R → V K 0 0 (mdW g A v) [(0, .ref A.1), (1, .int x1), (2, .int x2)] [] 66 := by
    intro x1 x2 v h
    rw [f_X4_starts_B66] at h
    refine V_iconst C (3 : Int32) 67 dX4_starts_66 rfl rfl ?_
    obtain rfl := Option.some.inj h
    exact retI _ _ _ .int rfl (rfl) rfl dX4_starts_67
  have B57 : ∀ (x1 : Int32) (x2 : Int32) (s0 : Int32) (v : MdV), f_X4_starts_B57 x1 x2 s0 v = some R → V K 0 0 (mdW g A v) [(0, .ref A.1), (1, .int x1), (2, .int x2)] [.int s0, .ref A.1] 57 := by
    intro x1 x2 s0 v h
    rw [f_X4_starts_B57] at h
    refine V_bipush C (7 : Int32) 59 dX4_starts_57 rfl rfl ?_
    refine V_iload_n C 2 60 dX4_starts_59 rfl rfl ?_
    obtain ⟨r7, k8, h⟩ := bd_some h
    refine V_callS C hBA ml_X4_85 (pre := []) (post := []) (w0 := mdW g A v) (w1 := mdW g A r7.2) (as := [.int s0, .int (7 : Int32), .int x2]) (rest := []) (c_X4_rejects k8) 0 63 (mdW g A r7.2) dX4_starts_60 rfl ⟨Nat.le_of_ble_eq_true rfl, Nat.le_of_ble_eq_true rfl⟩ rfl (rfl) (rfl) rfl rfl rfl rfl (Nat.le_of_ble_eq_true rfl) ⟨Nat.zero_le _, Nat.zero_le _⟩ ?_
    refine V_if_eq C 68 66 dX4_starts_63 rfl rfl (fun e9 => ?_) (fun e9 => ?_)
    · have h := (if_pos e9).symm.trans h
      refine V_aload_n C 0 69 dX4_starts_68 rfl rfl ?_
      refine V_get C (v := .ref A.2.1) 0 72 fl_X4_9 dX4_starts_69 rfl rfl rfl ?_
      refine V_iconst C (2 : Int32) 73 dX4_starts_72 rfl rfl ?_
      obtain ⟨g10, h⟩ := gd_some h
      refine V_iald C (f := (Md_all r7.2)) (n := 825) 1 74 dX4_starts_73 rfl rfl g10 ?_
      refine V_istore_n C 75 [(3, .int ((Md_all r7.2) (cl (2 : Int32)))), (0, .ref A.1), (1, .int x1), (2, .int x2)] dX4_starts_74 rfl (hlt 3 (by decide)) rfl ?_
      refine V_lv [1, 2, 3, 0] rfl ?_
      exact L75 100 _ _ _ _ h
    · have h := (if_neg e9).symm.trans h
      refine V_lv [0, 1, 2] rfl ?_
      exact B66 _ _ _ h
  have B32 : ∀ (x1 : Int32) (x2 : Int32) (s0 : Int32) (v : MdV), f_X4_starts_B32 x1 x2 s0 v = some R → V K 0 0 (mdW g A v) [(0, .ref A.1), (1, .int x1), (2, .int x2)] [.int s0, .ref A.1] 32 := by
    intro x1 x2 s0 v h
    rw [f_X4_starts_B32] at h
    refine V_bipush C (6 : Int32) 34 dX4_starts_32 rfl rfl ?_
    refine V_bipush C (8 : Int32) 36 dX4_starts_34 rfl rfl ?_
    obtain ⟨r11, k12, h⟩ := bd_some h
    refine V_callS C hBA ml_X4_85 (pre := []) (post := []) (w0 := mdW g A v) (w1 := mdW g A r11.2) (as := [.int s0, .int (6 : Int32), .int (8 : Int32)]) (rest := []) (c_X4_rejects k12) 0 39 (mdW g A r11.2) dX4_starts_36 rfl ⟨Nat.le_of_ble_eq_true rfl, Nat.le_of_ble_eq_true rfl⟩ rfl (rfl) (rfl) rfl rfl rfl rfl (Nat.le_of_ble_eq_true rfl) ⟨Nat.zero_le _, Nat.zero_le _⟩ ?_
    refine V_if_ne C 66 42 dX4_starts_39 rfl rfl (fun e13 => ?_) (fun e13 => ?_)
    · have h := (if_neg e13).symm.trans h
      refine V_lv [0, 1, 2] rfl ?_
      exact B66 _ _ _ h
    · have h := (if_pos e13).symm.trans h
      refine V_aload_n C 0 43 dX4_starts_42 rfl rfl ?_
      refine V_aload_n C 0 44 dX4_starts_43 rfl rfl ?_
      refine V_iload_n C 2 45 dX4_starts_44 rfl rfl ?_
      obtain ⟨r14, k15, h⟩ := bd_some h
      refine V_callP C ml_X4_123 (pre := []) (post := []) (w := mdW g A r11.2) (as := [.int x2]) (rest := [.ref A.1]) (c_X4_first k15) 0 48 dX4_starts_45 rfl ⟨Nat.le_of_ble_eq_true rfl, Nat.le_of_ble_eq_true rfl⟩ rfl (rfl) rfl rfl rfl (Nat.le_of_ble_eq_true rfl) ⟨Nat.zero_le _, Nat.zero_le _⟩ ?_
      refine V_iload_n C 1 49 dX4_starts_48 rfl rfl ?_
      refine V_icmp_ne C 56 52 dX4_starts_49 rfl rfl (fun e16 => ?_) (fun e16 => ?_)
      · have h := (if_neg e16).symm.trans h
        refine V_iconst C (0 : Int32) 57 dX4_starts_56 rfl rfl ?_
        refine V_lv [0, 1, 2] rfl ?_
        exact B57 _ _ _ _ h
      · have h := (if_pos e16).symm.trans h
        refine V_iconst C (1 : Int32) 53 dX4_starts_52 rfl rfl ?_
        refine V_goto C 57 dX4_starts_53 rfl ?_
        refine V_lv [0, 1, 2] rfl ?_
        exact B57 _ _ _ _ h
  show V K 0 0 _ [(0, .ref A.1), (1, .int a1)] [] 0
  unfold f_X4_starts at h
  refine V_iload_n C 1 1 dX4_starts_0 rfl rfl ?_
  obtain ⟨r17, k18, h⟩ := bd_some h
  refine V_callPs C mls_X4_74 (pre := []) (post := mdW g A v) (w := []) (as := [.int a1]) (rest := []) (c_X4_isPage k18) 4 dX4_starts_1 rfl ⟨Nat.le_of_ble_eq_true rfl, Nat.le_of_ble_eq_true rfl⟩ rfl rfl rfl rfl (Nat.le_of_ble_eq_true rfl) ⟨Nat.zero_le _, Nat.zero_le _⟩ ?_
  refine V_if_ne C 9 7 dX4_starts_4 rfl rfl (fun e19 => ?_) (fun e19 => ?_)
  · have h := (if_neg e19).symm.trans h
    refine V_aload_n C 0 10 dX4_starts_9 rfl rfl ?_
    refine V_iload_n C 1 11 dX4_starts_10 rfl rfl ?_
    obtain ⟨r20, k21, h⟩ := bd_some h
    refine V_callP C ml_X4_61 (pre := []) (post := []) (w := mdW g A v) (as := [.int a1]) (rest := []) (c_X4_chapterAt k21) 0 14 dX4_starts_11 rfl ⟨Nat.le_of_ble_eq_true rfl, Nat.le_of_ble_eq_true rfl⟩ rfl (rfl) rfl rfl rfl (Nat.le_of_ble_eq_true rfl) ⟨Nat.zero_le _, Nat.zero_le _⟩ ?_
    refine V_istore_n C 15 [(2, .int r20), (0, .ref A.1), (1, .int a1)] dX4_starts_14 rfl (hlt 2 (by decide)) rfl ?_
    refine V_aload_n C 1 16 dX4_starts_15 rfl rfl ?_
    refine V_aload_n C 1 17 dX4_starts_16 rfl rfl ?_
    refine V_get C (v := .ref A.2.1) 0 20 fl_X4_9 dX4_starts_17 rfl rfl rfl ?_
    refine V_iconst C (2 : Int32) 21 dX4_starts_20 rfl rfl ?_
    obtain ⟨g22, h⟩ := gd_some h
    refine V_iald C (f := (Md_all v)) (n := 825) 1 22 dX4_starts_21 rfl rfl g22 ?_
    refine V_bipush C (8 : Int32) 24 dX4_starts_22 rfl rfl ?_
    refine V_icmp_ne C 31 27 dX4_starts_24 rfl rfl (fun e23 => ?_) (fun e23 => ?_)
    · have h := (if_neg e23).symm.trans h
      refine V_iconst C (0 : Int32) 32 dX4_starts_31 rfl rfl ?_
      refine V_lv [1, 2, 0] rfl ?_
      exact B32 _ _ _ _ h
    · have h := (if_pos e23).symm.trans h
      refine V_iconst C (1 : Int32) 28 dX4_starts_27 rfl rfl ?_
      refine V_goto C 32 dX4_starts_28 rfl ?_
      refine V_lv [1, 2, 0] rfl ?_
      exact B32 _ _ _ _ h
  · have h := (if_pos e19).symm.trans h
    refine V_iconst C (1 : Int32) 8 dX4_starts_7 rfl rfl ?_
    obtain rfl := Option.some.inj h
    exact retI _ _ _ .int rfl (rfl) rfl dX4_starts_8
set_option maxHeartbeats 4000000 in
set_option maxRecDepth 100000 in
theorem c_X4_startChapter {l : Launch} {D : va_G} {g : G0} {A : MdA} {v : MdV} {a1 : Int32} {R : (Int32 × MdV)} (h : f_X4_startChapter v a1 = some R) : CtS l D g yX4_startChapter cX4_startChapter 2 (some .int) (rmF 3 65) (mdW g A v) [.ref A.1, .int a1] (some (.int R.1)) (mdW g A R.2) := by
  refine CtS.of (by decide) (Nat.le_of_ble_eq_true rfl) ?_
  intro K C hBA el eD ekn retI retV
  subst el
  subst eD
  have hlt : ∀ i, i < 2 → i < kn K := fun i h => by rw [ekn]; exact h
  show V K 0 0 _ [(0, .ref A.1), (1, .int a1)] [] 0
  unfold f_X4_startChapter at h
  refine V_aload_n C 0 1 dX4_startChapter_0 rfl rfl ?_
  obtain ⟨r1, k2, h⟩ := bd_some h
  refine V_callS C hBA ml_X4_96 (pre := []) (post := []) (w0 := mdW g A v) (w1 := mdW g A r1.2) (as := []) (rest := []) (c_X4_begins k2) 0 4 (mdW g A r1.2) dX4_startChapter_1 rfl ⟨Nat.le_of_ble_eq_true rfl, Nat.le_of_ble_eq_true rfl⟩ rfl (rfl) (rfl) rfl rfl rfl rfl (Nat.le_of_ble_eq_true rfl) ⟨Nat.zero_le _, Nat.zero_le _⟩ ?_
  refine V_aload_n C 0 5 dX4_startChapter_4 rfl rfl ?_
  refine V_aload_n C 0 6 dX4_startChapter_5 rfl rfl ?_
  refine V_iload_n C 1 7 dX4_startChapter_6 rfl rfl ?_
  obtain ⟨r3, k4, h⟩ := bd_some h
  refine V_callS C hBA ml_X4_126 (pre := []) (post := []) (w0 := mdW g A r1.2) (w1 := mdW g A r3.2) (as := [.int a1]) (rest := [.ref A.1]) (c_X4_starts k4) 0 10 (mdW g A r3.2) dX4_startChapter_7 rfl ⟨Nat.le_of_ble_eq_true rfl, Nat.le_of_ble_eq_true rfl⟩ rfl (rfl) (rfl) rfl rfl rfl rfl (Nat.le_of_ble_eq_true rfl) ⟨Nat.zero_le _, Nat.zero_le _⟩ ?_
  refine V_iconst C (1 : Int32) 11 dX4_startChapter_10 rfl rfl ?_
  refine V_iconst C (0 : Int32) 12 dX4_startChapter_11 rfl rfl ?_
  refine V_iconst C (2 : Int32) 13 dX4_startChapter_12 rfl rfl ?_
  obtain ⟨r5, k6, h⟩ := bd_some h
  refine V_callS C hBA ml_X4_103 (pre := []) (post := []) (w0 := mdW g A r3.2) (w1 := mdW g A r5.2) (as := [.int r3.1, .int (1 : Int32), .int (0 : Int32), .int (2 : Int32)]) (rest := []) (c_X4_ends k6) 0 16 (mdW g A r5.2) dX4_startChapter_13 rfl ⟨Nat.le_of_ble_eq_true rfl, Nat.le_of_ble_eq_true rfl⟩ rfl (rfl) (rfl) rfl rfl rfl rfl (Nat.le_of_ble_eq_true rfl) ⟨Nat.zero_le _, Nat.zero_le _⟩ ?_
  obtain rfl := Option.some.inj h
  exact retI _ _ _ .int rfl (rfl) rfl dX4_startChapter_16
set_option maxHeartbeats 4000000 in
set_option maxRecDepth 100000 in
theorem c_X4_votes {l : Launch} {D : va_G} {g : G0} {A : MdA} {v : MdV} {a1 : Int32} {R : (Int32 × MdV)} (h : f_X4_votes v a1 = some R) : CtS l D g yX4_votes cX4_votes 4 (some .int) (rmF 3 67) (mdW g A v) [.ref A.1, .int a1] (some (.int R.1)) (mdW g A R.2) := by
  refine CtS.of (by decide) (Nat.le_of_ble_eq_true rfl) ?_
  intro K C hBA el eD ekn retI retV
  subst el
  subst eD
  have hlt : ∀ i, i < 4 → i < kn K := fun i h => by rw [ekn]; exact h
  have L152 : ∀ (n : Nat) (x1 : Int32) (x2 : Int32) (x3 : Int32) (v : MdV), f_X4_votes_L152 n x1 x2 x3 v = some R → V K 0 0 (mdW g A v) [(0, .ref A.1), (1, .int x1), (2, .int x2), (3, .int x3)] [] 152 := by
    intro n
    induction n with
    | zero =>
      intro x1 x2 x3 v h
      rw [f_X4_votes_L152] at h
      cases h
    | succ n ih =>
      intro x1 x2 x3 v h
      rw [f_X4_votes_L152] at h
      refine V_iload_n C 3 153 dX4_votes_152 rfl rfl ?_
      refine V_aload_n C 0 154 dX4_votes_153 rfl rfl ?_
      refine V_get C (v := .ref A.2.1) 0 157 fl_X4_9 dX4_votes_154 rfl rfl rfl ?_
      refine V_iconst C (2 : Int32) 158 dX4_votes_157 rfl rfl ?_
      obtain ⟨g1, h⟩ := gd_some h
      refine V_iald C (f := (Md_all v)) (n := 825) 1 159 dX4_votes_158 rfl rfl g1 ?_
      refine V_icmp_ge C 188 162 dX4_votes_159 rfl rfl (fun e2 => ?_) (fun e2 => ?_)
      · have h := (if_pos e2).symm.trans h
        refine V_aload_n C 0 189 dX4_votes_188 rfl rfl ?_
        refine V_get C (v := .ref A.2.1) 0 192 fl_X4_9 dX4_votes_189 rfl rfl rfl ?_
        refine V_bipush C (7 : Int32) 194 dX4_votes_192 rfl rfl ?_
        refine V_aload_n C 0 195 dX4_votes_194 rfl rfl ?_
        refine V_get C (v := .ref A.2.1) 0 198 fl_X4_9 dX4_votes_195 rfl rfl rfl ?_
        refine V_iconst C (2 : Int32) 199 dX4_votes_198 rfl rfl ?_
        obtain ⟨g3, h⟩ := gd_some h
        refine V_iald C (f := (Md_all v)) (n := 825) 1 200 dX4_votes_199 rfl rfl g3 ?_
        refine V_iadd C 201 dX4_votes_200 rfl ?_
        refine V_iconst C (0 : Int32) 202 dX4_votes_201 rfl rfl ?_
        obtain ⟨g4, h⟩ := gd_some h
        refine V_iast C hBA (f := (Md_all v)) (n := 825) 1 203 (mdW g A ((upd (Md_all v) (cl ((7 : Int32) + ((Md_all v) (cl (2 : Int32))))) (0 : Int32)), (Md_output v), (Md_input v), (Md_commands v), (Md_thrown v), (Md_changes v), (Md_isSaved v), (Md_result v), (Md_why v), (Md_detail v), (Md_cause v), (Md_outputSize v), (Md_typed v), (Md_here v), (Md_error v), (Md_errorAt v), (Md_commandMany v))) dX4_votes_202 rfl rfl g4 rfl ?_
        refine V_iconst C (0 : Int32) 204 dX4_votes_203 rfl rfl ?_
        obtain rfl := Option.some.inj h
        exact retI _ _ _ .int rfl (rfl) rfl dX4_votes_204
      · have h := (if_neg e2).symm.trans h
        refine V_aload_n C 0 163 dX4_votes_162 rfl rfl ?_
        refine V_get C (v := .ref A.2.1) 0 166 fl_X4_9 dX4_votes_163 rfl rfl rfl ?_
        refine V_bipush C (7 : Int32) 168 dX4_votes_166 rfl rfl ?_
        refine V_iload_n C 3 169 dX4_votes_168 rfl rfl ?_
        refine V_iadd C 170 dX4_votes_169 rfl ?_
        refine V_aload_n C 0 171 dX4_votes_170 rfl rfl ?_
        refine V_get C (v := .ref A.2.1) 0 174 fl_X4_9 dX4_votes_171 rfl rfl rfl ?_
        refine V_bipush C (7 : Int32) 176 dX4_votes_174 rfl rfl ?_
        refine V_iload_n C 3 177 dX4_votes_176 rfl rfl ?_
        refine V_iadd C 178 dX4_votes_177 rfl ?_
        refine V_iconst C (1 : Int32) 179 dX4_votes_178 rfl rfl ?_
        refine V_iadd C 180 dX4_votes_179 rfl ?_
        obtain ⟨g5, h⟩ := gd_some h
        refine V_iald C (f := (Md_all v)) (n := 825) 1 181 dX4_votes_180 rfl rfl g5 ?_
        obtain ⟨g6, h⟩ := gd_some h
        refine V_iast C hBA (f := (Md_all v)) (n := 825) 1 182 (mdW g A ((upd (Md_all v) (cl ((7 : Int32) + x3)) ((Md_all v) (cl (((7 : Int32) + x3) + (1 : Int32))))), (Md_output v), (Md_input v), (Md_commands v), (Md_thrown v), (Md_changes v), (Md_isSaved v), (Md_result v), (Md_why v), (Md_detail v), (Md_cause v), (Md_outputSize v), (Md_typed v), (Md_here v), (Md_error v), (Md_errorAt v), (Md_commandMany v))) dX4_votes_181 rfl rfl g6 rfl ?_
        refine V_iinc C 3 (x3 + (1 : Int32)) 185 [(3, .int (x3 + (1 : Int32))), (0, .ref A.1), (1, .int x1), (2, .int x2)] dX4_votes_182 rfl rfl rfl (hlt 3 (by decide)) rfl ?_
        refine V_goto C 152 dX4_votes_185 rfl ?_
        refine V_lv [1, 2, 3, 0] rfl ?_
        exact ih _ _ _ _ h
  have B139 : ∀ (x1 : Int32) (x2 : Int32) (s0 : Int32) (v : MdV), f_X4_votes_B139 x1 x2 s0 v = some R → V K 0 0 (mdW g A v) [(0, .ref A.1), (1, .int x1), (2, .int x2)] [.int s0] 139 := by
    intro x1 x2 s0 v h
    rw [f_X4_votes_B139] at h
    refine V_istore_n C 140 [(2, .int s0), (0, .ref A.1), (1, .int x1)] dX4_votes_139 rfl (hlt 2 (by decide)) rfl ?_
    refine V_aload_n C 1 141 dX4_votes_140 rfl rfl ?_
    refine V_get C (v := .ref A.2.1) 0 144 fl_X4_9 dX4_votes_141 rfl rfl rfl ?_
    refine V_iconst C (2 : Int32) 145 dX4_votes_144 rfl rfl ?_
    refine V_dup2 C 146 dX4_votes_145 rfl rfl rfl ?_
    obtain ⟨g7, h⟩ := gd_some h
    refine V_iald C (f := (Md_all v)) (n := 825) 1 147 dX4_votes_146 rfl rfl g7 ?_
    refine V_iconst C (1 : Int32) 148 dX4_votes_147 rfl rfl ?_
    refine V_isub C 149 dX4_votes_148 rfl ?_
    obtain ⟨g8, h⟩ := gd_some h
    refine V_iast C hBA (f := (Md_all v)) (n := 825) 1 150 (mdW g A ((upd (Md_all v) (cl (2 : Int32)) (((Md_all v) (cl (2 : Int32))) - (1 : Int32))), (Md_output v), (Md_input v), (Md_commands v), (Md_thrown v), (Md_changes v), (Md_isSaved v), (Md_result v), (Md_why v), (Md_detail v), (Md_cause v), (Md_outputSize v), (Md_typed v), (Md_here v), (Md_error v), (Md_errorAt v), (Md_commandMany v))) dX4_votes_149 rfl rfl g8 rfl ?_
    refine V_iload_n C 0 151 dX4_votes_150 rfl rfl ?_
    refine V_istore_n C 152 [(3, .int s0), (2, .int s0), (0, .ref A.1), (1, .int x1)] dX4_votes_151 rfl (hlt 3 (by decide)) rfl ?_
    refine V_lv [2, 3, 1, 0] rfl ?_
    exact L152 100 _ _ _ _ h
  have B124 : ∀ (J : Int32 → Int32 → MdV → Option (Int32 × MdV)) (hJ : ∀ (x1 : Int32) (x2 : Int32) (v : MdV), J x1 x2 v = some R → V K 0 0 (mdW g A v) [(0, .ref A.1), (1, .int x1), (2, .int x2)] [] 92) (x1 : Int32) (x2 : Int32) (v : MdV), f_X4_votes_B124 J x1 x2 v = some R → V K 0 0 (mdW g A v) [(0, .ref A.1), (1, .int x1), (2, .int x2)] [] 124 := by
    intro J hJ x1 x2 v h
    rw [f_X4_votes_B124] at h
    refine V_iinc C 2 (x2 + (-1 : Int32)) 127 [(2, .int (x2 + (-1 : Int32))), (0, .ref A.1), (1, .int x1)] dX4_votes_124 rfl rfl rfl (hlt 2 (by decide)) rfl ?_
    refine V_goto C 92 dX4_votes_127 rfl ?_
    refine V_lv [1, 2, 0] rfl ?_
    exact hJ _ _ _ h
  have L92 : ∀ (n : Nat) (x1 : Int32) (x2 : Int32) (v : MdV), f_X4_votes_L92 n x1 x2 v = some R → V K 0 0 (mdW g A v) [(0, .ref A.1), (1, .int x1), (2, .int x2)] [] 92 := by
    intro n
    induction n with
    | zero =>
      intro x1 x2 v h
      rw [f_X4_votes_L92] at h
      cases h
    | succ n ih =>
      intro x1 x2 v h
      rw [f_X4_votes_L92] at h
      refine V_iload_n C 2 93 dX4_votes_92 rfl rfl ?_
      refine V_if_lt C 130 96 dX4_votes_93 rfl rfl (fun e9 => ?_) (fun e9 => ?_)
      · have h := (if_pos e9).symm.trans h
        refine V_iload_n C 1 131 dX4_votes_130 rfl rfl ?_
        refine V_if_ne C 138 134 dX4_votes_131 rfl rfl (fun e10 => ?_) (fun e10 => ?_)
        · have h := (if_neg e10).symm.trans h
          refine V_iload_n C 1 139 dX4_votes_138 rfl rfl ?_
          refine V_lv [0, 1, 2] rfl ?_
          exact B139 _ _ _ _ h
        · have h := (if_pos e10).symm.trans h
          refine V_iconst C (1 : Int32) 135 dX4_votes_134 rfl rfl ?_
          refine V_goto C 139 dX4_votes_135 rfl ?_
          refine V_lv [0, 1, 2] rfl ?_
          exact B139 _ _ _ _ h
      · have h := (if_neg e9).symm.trans h
        refine V_aload_n C 0 97 dX4_votes_96 rfl rfl ?_
        refine V_iload_n C 2 98 dX4_votes_97 rfl rfl ?_
        refine V_iconst C (3 : Int32) 99 dX4_votes_98 rfl rfl ?_
        obtain ⟨r11, k12, h⟩ := bd_some h
        refine V_callP C ml_X4_53 (pre := []) (post := []) (w := mdW g A v) (as := [.int x2, .int (3 : Int32)]) (rest := []) (c_X4_m k12) 0 102 dX4_votes_99 rfl ⟨Nat.le_of_ble_eq_true rfl, Nat.le_of_ble_eq_true rfl⟩ rfl (rfl) rfl rfl rfl (Nat.le_of_ble_eq_true rfl) ⟨Nat.zero_le _, Nat.zero_le _⟩ ?_
        refine V_if_ne C 124 105 dX4_votes_102 rfl rfl (fun e13 => ?_) (fun e13 => ?_)
        · have h := (if_neg e13).symm.trans h
          refine V_lv [0, 1, 2] rfl ?_
          exact B124 (f_X4_votes_L92 n) ih _ _ _ h
        · have h := (if_pos e13).symm.trans h
          refine V_aload_n C 0 106 dX4_votes_105 rfl rfl ?_
          refine V_aload_n C 0 107 dX4_votes_106 rfl rfl ?_
          refine V_iload_n C 2 108 dX4_votes_107 rfl rfl ?_
          refine V_iconst C (1 : Int32) 109 dX4_votes_108 rfl rfl ?_
          obtain ⟨r14, k15, h⟩ := bd_some h
          refine V_callP C ml_X4_53 (pre := []) (post := []) (w := mdW g A v) (as := [.int x2, .int (1 : Int32)]) (rest := [.ref A.1]) (c_X4_m k15) 0 112 dX4_votes_109 rfl ⟨Nat.le_of_ble_eq_true rfl, Nat.le_of_ble_eq_true rfl⟩ rfl (rfl) rfl rfl rfl (Nat.le_of_ble_eq_true rfl) ⟨Nat.zero_le _, Nat.zero_le _⟩ ?_
          obtain ⟨r16, k17, h⟩ := bd_some h
          refine V_callP C ml_X4_61 (pre := []) (post := []) (w := mdW g A v) (as := [.int r14]) (rest := []) (c_X4_chapterAt k17) 0 115 dX4_votes_112 rfl ⟨Nat.le_of_ble_eq_true rfl, Nat.le_of_ble_eq_true rfl⟩ rfl (rfl) rfl rfl rfl (Nat.le_of_ble_eq_true rfl) ⟨Nat.zero_le _, Nat.zero_le _⟩ ?_
          refine V_iload_n C 1 116 dX4_votes_115 rfl rfl ?_
          refine V_icmp_ne C 124 119 dX4_votes_116 rfl rfl (fun e18 => ?_) (fun e18 => ?_)
          · have h := (if_neg e18).symm.trans h
            refine V_lv [0, 1, 2] rfl ?_
            exact B124 (f_X4_votes_L92 n) ih _ _ _ h
          · have h := (if_pos e18).symm.trans h
            refine V_aload_n C 0 120 dX4_votes_119 rfl rfl ?_
            refine V_iload_n C 2 121 dX4_votes_120 rfl rfl ?_
            obtain ⟨r19, k20, h⟩ := bd_some h
            refine V_callS C hBA ml_X4_110 (pre := []) (post := []) (w0 := mdW g A v) (w1 := mdW g A r19.2) (as := [.int x2]) (rest := []) (c_X4_goes k20) 0 124 (mdW g A r19.2) dX4_votes_121 rfl ⟨Nat.le_of_ble_eq_true rfl, Nat.le_of_ble_eq_true rfl⟩ rfl (rfl) (rfl) rfl rfl rfl rfl (Nat.le_of_ble_eq_true rfl) ⟨Nat.zero_le _, Nat.zero_le _⟩ ?_
            refine V_lv [0, 1, 2] rfl ?_
            exact B124 (f_X4_votes_L92 n) ih _ _ _ h
  have B61 : ∀ (x1 : Int32) (s0 : Int32) (v : MdV), f_X4_votes_B61 x1 s0 v = some R → V K 0 0 (mdW g A v) [(0, .ref A.1), (1, .int x1)] [.int s0, .ref A.1] 61 := by
    intro x1 s0 v h
    rw [f_X4_votes_B61] at h
    refine V_put C hBA 0 64 (mdW g A ((Md_all v), (Md_output v), (Md_input v), (Md_commands v), (Md_thrown v), (Md_changes v), (Md_isSaved v), s0, (Md_why v), (Md_detail v), (Md_cause v), (Md_outputSize v), (Md_typed v), (Md_here v), (Md_error v), (Md_errorAt v), (Md_commandMany v))) fl_X4_37 fp_X4_4 dX4_votes_61 rfl rfl (Nat.le_of_ble_eq_true rfl) rfl rfl rfl ?_
    refine V_aload_n C 0 65 dX4_votes_64 rfl rfl ?_
    refine V_get C (v := .int s0) 0 68 fl_X4_37 dX4_votes_65 rfl rfl rfl ?_
    refine V_if_ne C 73 71 dX4_votes_68 rfl rfl (fun e21 => ?_) (fun e21 => ?_)
    · have h := (if_neg e21).symm.trans h
      refine V_aload_n C 0 74 dX4_votes_73 rfl rfl ?_
      refine V_get C (v := .ref A.2.1) 0 77 fl_X4_9 dX4_votes_74 rfl rfl rfl ?_
      refine V_iconst C (5 : Int32) 78 dX4_votes_77 rfl rfl ?_
      refine V_dup2 C 79 dX4_votes_78 rfl rfl rfl ?_
      obtain ⟨g22, h⟩ := gd_some h
      refine V_iald C (f := (Md_all v)) (n := 825) 1 80 dX4_votes_79 rfl rfl g22 ?_
      refine V_iconst C (1 : Int32) 81 dX4_votes_80 rfl rfl ?_
      refine V_iadd C 82 dX4_votes_81 rfl ?_
      obtain ⟨g23, h⟩ := gd_some h
      refine V_iast C hBA (f := (Md_all v)) (n := 825) 1 83 (mdW g A ((upd (Md_all v) (cl (5 : Int32)) (((Md_all v) (cl (5 : Int32))) + (1 : Int32))), (Md_output v), (Md_input v), (Md_commands v), (Md_thrown v), (Md_changes v), (Md_isSaved v), s0, (Md_why v), (Md_detail v), (Md_cause v), (Md_outputSize v), (Md_typed v), (Md_here v), (Md_error v), (Md_errorAt v), (Md_commandMany v))) dX4_votes_82 rfl rfl g23 rfl ?_
      refine V_aload_n C 0 84 dX4_votes_83 rfl rfl ?_
      refine V_get C (v := .ref A.2.1) 0 87 fl_X4_9 dX4_votes_84 rfl rfl rfl ?_
      refine V_iconst C (0 : Int32) 88 dX4_votes_87 rfl rfl ?_
      obtain ⟨g24, h⟩ := gd_some h
      refine V_iald C (f := (upd (Md_all v) (cl (5 : Int32)) (((Md_all v) (cl (5 : Int32))) + (1 : Int32)))) (n := 825) 1 89 dX4_votes_88 rfl rfl g24 ?_
      refine V_iconst C (1 : Int32) 90 dX4_votes_89 rfl rfl ?_
      refine V_isub C 91 dX4_votes_90 rfl ?_
      refine V_istore_n C 92 [(2, .int (((upd (Md_all v) (cl (5 : Int32)) (((Md_all v) (cl (5 : Int32))) + (1 : Int32))) (cl (0 : Int32))) - (1 : Int32))), (0, .ref A.1), (1, .int x1)] dX4_votes_91 rfl (hlt 2 (by decide)) rfl ?_
      refine V_lv [1, 2, 0] rfl ?_
      exact L92 100 _ _ _ h
    · have h := (if_pos e21).symm.trans h
      refine V_iconst C (0 : Int32) 72 dX4_votes_71 rfl rfl ?_
      obtain rfl := Option.some.inj h
      exact retI _ _ _ .int rfl (rfl) rfl dX4_votes_72
  have B26 : ∀ (x1 : Int32) (s0 : Int32) (v : MdV), f_X4_votes_B26 x1 s0 v = some R → V K 0 0 (mdW g A v) [(0, .ref A.1), (1, .int x1)] [.int s0, .ref A.1] 26 := by
    intro x1 s0 v h
    rw [f_X4_votes_B26] at h
    refine V_bipush C (8 : Int32) 28 dX4_votes_26 rfl rfl ?_
    refine V_iconst C (0 : Int32) 29 dX4_votes_28 rfl rfl ?_
    obtain ⟨r25, k26, h⟩ := bd_some h
    refine V_callS C hBA ml_X4_85 (pre := []) (post := []) (w0 := mdW g A v) (w1 := mdW g A r25.2) (as := [.int s0, .int (8 : Int32), .int (0 : Int32)]) (rest := []) (c_X4_rejects k26) 0 32 (mdW g A r25.2) dX4_votes_29 rfl ⟨Nat.le_of_ble_eq_true rfl, Nat.le_of_ble_eq_true rfl⟩ rfl (rfl) (rfl) rfl rfl rfl rfl (Nat.le_of_ble_eq_true rfl) ⟨Nat.zero_le _, Nat.zero_le _⟩ ?_
    refine V_if_eq C 37 35 dX4_votes_32 rfl rfl (fun e27 => ?_) (fun e27 => ?_)
    · have h := (if_pos e27).symm.trans h
      refine V_aload_n C 0 38 dX4_votes_37 rfl rfl ?_
      refine V_get C (v := .ref A.2.1) 0 41 fl_X4_9 dX4_votes_38 rfl rfl rfl ?_
      refine V_iconst C (4 : Int32) 42 dX4_votes_41 rfl rfl ?_
      refine V_dup2 C 43 dX4_votes_42 rfl rfl rfl ?_
      obtain ⟨g28, h⟩ := gd_some h
      refine V_iald C (f := (Md_all r25.2)) (n := 825) 1 44 dX4_votes_43 rfl rfl g28 ?_
      refine V_iconst C (1 : Int32) 45 dX4_votes_44 rfl rfl ?_
      refine V_iadd C 46 dX4_votes_45 rfl ?_
      obtain ⟨g29, h⟩ := gd_some h
      refine V_iast C hBA (f := (Md_all r25.2)) (n := 825) 1 47 (mdW g A ((upd (Md_all r25.2) (cl (4 : Int32)) (((Md_all r25.2) (cl (4 : Int32))) + (1 : Int32))), (Md_output r25.2), (Md_input r25.2), (Md_commands r25.2), (Md_thrown r25.2), (Md_changes r25.2), (Md_isSaved r25.2), (Md_result r25.2), (Md_why r25.2), (Md_detail r25.2), (Md_cause r25.2), (Md_outputSize r25.2), (Md_typed r25.2), (Md_here r25.2), (Md_error r25.2), (Md_errorAt r25.2), (Md_commandMany r25.2))) dX4_votes_46 rfl rfl g29 rfl ?_
      refine V_aload_n C 0 48 dX4_votes_47 rfl rfl ?_
      refine V_aload_n C 0 49 dX4_votes_48 rfl rfl ?_
      refine V_iload_n C 1 50 dX4_votes_49 rfl rfl ?_
      obtain ⟨r30, k31, h⟩ := bd_some h
      refine V_callP C ml_X4_132 (pre := []) (post := []) (w := mdW g A ((upd (Md_all r25.2) (cl (4 : Int32)) (((Md_all r25.2) (cl (4 : Int32))) + (1 : Int32))), (Md_output r25.2), (Md_input r25.2), (Md_commands r25.2), (Md_thrown r25.2), (Md_changes r25.2), (Md_isSaved r25.2), (Md_result r25.2), (Md_why r25.2), (Md_detail r25.2), (Md_cause r25.2), (Md_outputSize r25.2), (Md_typed r25.2), (Md_here r25.2), (Md_error r25.2), (Md_errorAt r25.2), (Md_commandMany r25.2))) (as := [.int x1]) (rest := [.ref A.1]) (c_X4_isCarried k31) 0 53 dX4_votes_50 rfl ⟨Nat.le_of_ble_eq_true rfl, Nat.le_of_ble_eq_true rfl⟩ rfl (rfl) rfl rfl rfl (Nat.le_of_ble_eq_true rfl) ⟨Nat.zero_le _, Nat.zero_le _⟩ ?_
      refine V_if_eq C 60 56 dX4_votes_53 rfl rfl (fun e32 => ?_) (fun e32 => ?_)
      · have h := (if_pos e32).symm.trans h
        refine V_iconst C (0 : Int32) 61 dX4_votes_60 rfl rfl ?_
        refine V_lv [0, 1] rfl ?_
        exact B61 _ _ _ h
      · have h := (if_neg e32).symm.trans h
        refine V_iconst C (1 : Int32) 57 dX4_votes_56 rfl rfl ?_
        refine V_goto C 61 dX4_votes_57 rfl ?_
        refine V_lv [0, 1] rfl ?_
        exact B61 _ _ _ h
    · have h := (if_neg e27).symm.trans h
      refine V_iconst C (3 : Int32) 36 dX4_votes_35 rfl rfl ?_
      obtain rfl := Option.some.inj h
      exact retI _ _ _ .int rfl (rfl) rfl dX4_votes_36
  show V K 0 0 _ [(0, .ref A.1), (1, .int a1)] [] 0
  unfold f_X4_votes at h
  refine V_aload_n C 0 1 dX4_votes_0 rfl rfl ?_
  refine V_iload_n C 1 2 dX4_votes_1 rfl rfl ?_
  obtain ⟨r33, k34, h⟩ := bd_some h
  refine V_callP C ml_X4_129 (pre := []) (post := []) (w := mdW g A v) (as := [.int a1]) (rest := []) (c_X4_isChapter k34) 0 5 dX4_votes_2 rfl ⟨Nat.le_of_ble_eq_true rfl, Nat.le_of_ble_eq_true rfl⟩ rfl (rfl) rfl rfl rfl (Nat.le_of_ble_eq_true rfl) ⟨Nat.zero_le _, Nat.zero_le _⟩ ?_
  refine V_if_ne C 10 8 dX4_votes_5 rfl rfl (fun e35 => ?_) (fun e35 => ?_)
  · have h := (if_neg e35).symm.trans h
    refine V_aload_n C 0 11 dX4_votes_10 rfl rfl ?_
    refine V_aload_n C 0 12 dX4_votes_11 rfl rfl ?_
    refine V_get C (v := .ref A.2.1) 0 15 fl_X4_9 dX4_votes_12 rfl rfl rfl ?_
    refine V_iconst C (2 : Int32) 16 dX4_votes_15 rfl rfl ?_
    obtain ⟨g36, h⟩ := gd_some h
    refine V_iald C (f := (Md_all v)) (n := 825) 1 17 dX4_votes_16 rfl rfl g36 ?_
    refine V_iconst C (1 : Int32) 18 dX4_votes_17 rfl rfl ?_
    refine V_icmp_ne C 25 21 dX4_votes_18 rfl rfl (fun e37 => ?_) (fun e37 => ?_)
    · have h := (if_neg e37).symm.trans h
      refine V_iconst C (0 : Int32) 26 dX4_votes_25 rfl rfl ?_
      refine V_lv [0, 1] rfl ?_
      exact B26 _ _ _ h
    · have h := (if_pos e37).symm.trans h
      refine V_iconst C (1 : Int32) 22 dX4_votes_21 rfl rfl ?_
      refine V_goto C 26 dX4_votes_22 rfl ?_
      refine V_lv [0, 1] rfl ?_
      exact B26 _ _ _ h
  · have h := (if_pos e35).symm.trans h
    refine V_iconst C (1 : Int32) 9 dX4_votes_8 rfl rfl ?_
    obtain rfl := Option.some.inj h
    exact retI _ _ _ .int rfl (rfl) rfl dX4_votes_9
set_option maxHeartbeats 4000000 in
set_option maxRecDepth 100000 in
theorem c_X4_voteToDissolve {l : Launch} {D : va_G} {g : G0} {A : MdA} {v : MdV} {a1 : Int32} {R : (Int32 × MdV)} (h : f_X4_voteToDissolve v a1 = some R) : CtS l D g yX4_voteToDissolve cX4_voteToDissolve 2 (some .boolean) (rmF 4 90) (mdW g A v) [.ref A.1, .int a1] (some (.int R.1)) (mdW g A R.2) := by
  refine CtS.of (by decide) (Nat.le_of_ble_eq_true rfl) ?_
  intro K C hBA el eD ekn retI retV
  subst el
  subst eD
  have hlt : ∀ i, i < 2 → i < kn K := fun i h => by rw [ekn]; exact h
  have B25 : ∀ (x1 : Int32) (s0 : Int32) (v : MdV), f_X4_voteToDissolve_B25 x1 s0 v = some R → V K 0 0 (mdW g A v) [(0, .ref A.1), (1, .int x1)] [.int s0] 25 := by
    intro x1 s0 v h
    rw [f_X4_voteToDissolve_B25] at h
    obtain ⟨g1, h⟩ := gd_some h
    obtain rfl := Option.some.inj h
    exact retI _ _ _ .boolean rfl (isz_t g1) rfl dX4_voteToDissolve_25
  show V K 0 0 _ [(0, .ref A.1), (1, .int a1)] [] 0
  unfold f_X4_voteToDissolve at h
  refine V_aload_n C 0 1 dX4_voteToDissolve_0 rfl rfl ?_
  obtain ⟨r2, k3, h⟩ := bd_some h
  refine V_callS C hBA ml_X4_96 (pre := []) (post := []) (w0 := mdW g A v) (w1 := mdW g A r2.2) (as := []) (rest := []) (c_X4_begins k3) 0 4 (mdW g A r2.2) dX4_voteToDissolve_1 rfl ⟨Nat.le_of_ble_eq_true rfl, Nat.le_of_ble_eq_true rfl⟩ rfl (rfl) (rfl) rfl rfl rfl rfl (Nat.le_of_ble_eq_true rfl) ⟨Nat.zero_le _, Nat.zero_le _⟩ ?_
  refine V_aload_n C 0 5 dX4_voteToDissolve_4 rfl rfl ?_
  refine V_aload_n C 0 6 dX4_voteToDissolve_5 rfl rfl ?_
  refine V_iload_n C 1 7 dX4_voteToDissolve_6 rfl rfl ?_
  obtain ⟨r4, k5, h⟩ := bd_some h
  refine V_callS C hBA ml_X4_135 (pre := []) (post := []) (w0 := mdW g A r2.2) (w1 := mdW g A r4.2) (as := [.int a1]) (rest := [.ref A.1]) (c_X4_votes k5) 0 10 (mdW g A r4.2) dX4_voteToDissolve_7 rfl ⟨Nat.le_of_ble_eq_true rfl, Nat.le_of_ble_eq_true rfl⟩ rfl (rfl) (rfl) rfl rfl rfl rfl (Nat.le_of_ble_eq_true rfl) ⟨Nat.zero_le _, Nat.zero_le _⟩ ?_
  refine V_iconst C (1 : Int32) 11 dX4_voteToDissolve_10 rfl rfl ?_
  refine V_iconst C (0 : Int32) 12 dX4_voteToDissolve_11 rfl rfl ?_
  refine V_iconst C (2 : Int32) 13 dX4_voteToDissolve_12 rfl rfl ?_
  obtain ⟨r6, k7, h⟩ := bd_some h
  refine V_callS C hBA ml_X4_103 (pre := []) (post := []) (w0 := mdW g A r4.2) (w1 := mdW g A r6.2) (as := [.int r4.1, .int (1 : Int32), .int (0 : Int32), .int (2 : Int32)]) (rest := []) (c_X4_ends k7) 0 16 (mdW g A r6.2) dX4_voteToDissolve_13 rfl ⟨Nat.le_of_ble_eq_true rfl, Nat.le_of_ble_eq_true rfl⟩ rfl (rfl) (rfl) rfl rfl rfl rfl (Nat.le_of_ble_eq_true rfl) ⟨Nat.zero_le _, Nat.zero_le _⟩ ?_
  refine V_iconst C (1 : Int32) 17 dX4_voteToDissolve_16 rfl rfl ?_
  refine V_icmp_ne C 24 20 dX4_voteToDissolve_17 rfl rfl (fun e8 => ?_) (fun e8 => ?_)
  · have h := (if_neg e8).symm.trans h
    refine V_iconst C (0 : Int32) 25 dX4_voteToDissolve_24 rfl rfl ?_
    refine V_lv [0, 1] rfl ?_
    exact B25 _ _ _ h
  · have h := (if_pos e8).symm.trans h
    refine V_iconst C (1 : Int32) 21 dX4_voteToDissolve_20 rfl rfl ?_
    refine V_goto C 25 dX4_voteToDissolve_21 rfl ?_
    refine V_lv [0, 1] rfl ?_
    exact B25 _ _ _ h
set_option maxHeartbeats 4000000 in
set_option maxRecDepth 100000 in
theorem c_X4_isPassed {l : Launch} {D : va_G} {g : G0} {A : MdA} {v : MdV} {a1 a2 a3 : Int32} {R : Int32} (h : f_X4_isPassed v a1 a2 a3 = some R) : CtP l D g yX4_isPassed cX4_isPassed 5 (some .boolean) (rmF 1 22) (mdW g A v) [.ref A.1, .int a1, .int a2, .int a3] (some (.int R)) := by
  refine CtP.of (by decide) rfl rfl (Nat.le_of_ble_eq_true rfl) ?_
  intro K C el eD ekn retI
  subst el
  subst eD
  have hlt : ∀ i, i < 5 → i < kn K := fun i h => by rw [ekn]; exact h
  have B39 : ∀ (x1 : Int32) (x2 : Int32) (x3 : Int32) (x4 : Int32) (s0 : Int32), f_X4_isPassed_B39 v x1 x2 x3 x4 s0 = some R → V K 0 0 (mdW g A v) [(0, .ref A.1), (1, .int x1), (2, .int x2), (3, .int x3), (4, .int x4)] [.int s0] 39 := by
    intro x1 x2 x3 x4 s0 h
    rw [f_X4_isPassed_B39] at h
    obtain ⟨g1, h⟩ := gd_some h
    obtain rfl := Option.some.inj h
    exact retI _ _ _ .boolean rfl (isz_t g1) rfl dX4_isPassed_39
  show V K 0 0 _ [(0, .ref A.1), (1, .int a1), (2, .int a2), (3, .int a3)] [] 0
  unfold f_X4_isPassed at h
  refine V_aload_n C 0 1 dX4_isPassed_0 rfl rfl ?_
  refine V_get C (v := .ref A.2.1) 0 4 fl_X4_9 dX4_isPassed_1 rfl rfl rfl ?_
  refine V_iconst C (3 : Int32) 5 dX4_isPassed_4 rfl rfl ?_
  obtain ⟨g2, h⟩ := gd_some h
  refine V_iald C (f := (Md_all v)) (n := 825) 1 6 dX4_isPassed_5 rfl rfl g2 ?_
  refine V_istore C 8 [(4, .int ((Md_all v) (cl (3 : Int32)))), (0, .ref A.1), (1, .int a1), (2, .int a2), (3, .int a3)] dX4_isPassed_6 rfl (hlt 4 (by decide)) rfl ?_
  refine V_iload_n C 4 9 dX4_isPassed_8 rfl rfl ?_
  refine V_if_eq C 27 12 dX4_isPassed_9 rfl rfl (fun e3 => ?_) (fun e3 => ?_)
  · have h := (if_pos e3).symm.trans h
    refine V_iload_n C 2 28 dX4_isPassed_27 rfl rfl ?_
    refine V_iload C 0 30 dX4_isPassed_28 rfl rfl ?_
    refine V_iload_n C 3 31 dX4_isPassed_30 rfl rfl ?_
    refine V_isub C 32 dX4_isPassed_31 rfl ?_
    refine V_iload C 0 34 dX4_isPassed_32 rfl rfl ?_
    refine V_iconst C (1 : Int32) 35 dX4_isPassed_34 rfl rfl ?_
    refine V_isub C 36 dX4_isPassed_35 rfl ?_
    obtain ⟨r4, k5, h⟩ := bd_some h
    refine V_callPs C mls_X4_57 (pre := []) (post := mdW g A v) (w := []) (as := [.int a1, .int (((Md_all v) (cl (3 : Int32))) - a2), .int (((Md_all v) (cl (3 : Int32))) - (1 : Int32))]) (rest := []) (c_X4_in k5) 39 dX4_isPassed_36 rfl ⟨Nat.le_of_ble_eq_true rfl, Nat.le_of_ble_eq_true rfl⟩ rfl rfl rfl rfl (Nat.le_of_ble_eq_true rfl) ⟨Nat.zero_le _, Nat.zero_le _⟩ ?_
    refine V_lv [1, 2, 3, 4, 0] rfl ?_
    exact B39 _ _ _ _ _ h
  · have h := (if_neg e3).symm.trans h
    refine V_iload_n C 2 13 dX4_isPassed_12 rfl rfl ?_
    refine V_iload C 0 15 dX4_isPassed_13 rfl rfl ?_
    refine V_iconst C (1 : Int32) 16 dX4_isPassed_15 rfl rfl ?_
    refine V_iadd C 17 dX4_isPassed_16 rfl ?_
    refine V_iload C 0 19 dX4_isPassed_17 rfl rfl ?_
    refine V_iload_n C 3 20 dX4_isPassed_19 rfl rfl ?_
    refine V_iadd C 21 dX4_isPassed_20 rfl ?_
    obtain ⟨r6, k7, h⟩ := bd_some h
    refine V_callPs C mls_X4_57 (pre := []) (post := mdW g A v) (w := []) (as := [.int a1, .int (((Md_all v) (cl (3 : Int32))) + (1 : Int32)), .int (((Md_all v) (cl (3 : Int32))) + a2)]) (rest := []) (c_X4_in k7) 24 dX4_isPassed_21 rfl ⟨Nat.le_of_ble_eq_true rfl, Nat.le_of_ble_eq_true rfl⟩ rfl rfl rfl rfl (Nat.le_of_ble_eq_true rfl) ⟨Nat.zero_le _, Nat.zero_le _⟩ ?_
    refine V_goto C 39 dX4_isPassed_24 rfl ?_
    refine V_lv [1, 2, 3, 4, 0] rfl ?_
    exact B39 _ _ _ _ _ h
set_option maxHeartbeats 4000000 in
set_option maxRecDepth 100000 in
theorem c_X4_turns {l : Launch} {D : va_G} {g : G0} {A : MdA} {v : MdV} {a1 a2 : Int32} {R : (Int32 × MdV)} (h : f_X4_turns v a1 a2 = some R) : CtS l D g yX4_turns cX4_turns 5 (some .int) (rmF 2 46) (mdW g A v) [.ref A.1, .int a1, .int a2] (some (.int R.1)) (mdW g A R.2) := by
  refine CtS.of (by decide) (Nat.le_of_ble_eq_true rfl) ?_
  intro K C hBA el eD ekn retI retV
  subst el
  subst eD
  have hlt : ∀ i, i < 5 → i < kn K := fun i h => by rw [ekn]; exact h
  have B160 : ∀ (J : Int32 → Int32 → Int32 → Int32 → MdV → Option (Int32 × MdV)) (hJ : ∀ (x1 : Int32) (x2 : Int32) (x3 : Int32) (x4 : Int32) (v : MdV), J x1 x2 x3 x4 v = some R → V K 0 0 (mdW g A v) [(0, .ref A.1), (1, .int x1), (2, .int x2), (3, .int x3), (4, .int x4)] [] 80) (x1 : Int32) (x2 : Int32) (x3 : Int32) (x4 : Int32) (v : MdV), f_X4_turns_B160 J x1 x2 x3 x4 v = some R → V K 0 0 (mdW g A v) [(0, .ref A.1), (1, .int x1), (2, .int x2), (3, .int x3), (4, .int x4)] [] 160 := by
    intro J hJ x1 x2 x3 x4 v h
    rw [f_X4_turns_B160] at h
    refine V_iinc C 4 (x4 + (-1 : Int32)) 163 [(4, .int (x4 + (-1 : Int32))), (0, .ref A.1), (1, .int x1), (2, .int x2), (3, .int x3)] dX4_turns_160 rfl rfl rfl (hlt 4 (by decide)) rfl ?_
    refine V_goto C 80 dX4_turns_163 rfl ?_
    refine V_lv [1, 2, 3, 4, 0] rfl ?_
    exact hJ _ _ _ _ _ h
  have L80 : ∀ (n : Nat) (x1 : Int32) (x2 : Int32) (x3 : Int32) (x4 : Int32) (v : MdV), f_X4_turns_L80 n x1 x2 x3 x4 v = some R → V K 0 0 (mdW g A v) [(0, .ref A.1), (1, .int x1), (2, .int x2), (3, .int x3), (4, .int x4)] [] 80 := by
    intro n
    induction n with
    | zero =>
      intro x1 x2 x3 x4 v h
      rw [f_X4_turns_L80] at h
      cases h
    | succ n ih =>
      intro x1 x2 x3 x4 v h
      rw [f_X4_turns_L80] at h
      refine V_iload C 4 82 dX4_turns_80 rfl rfl ?_
      refine V_if_lt C 166 85 dX4_turns_82 rfl rfl (fun e1 => ?_) (fun e1 => ?_)
      · have h := (if_pos e1).symm.trans h
        refine V_aload_n C 0 167 dX4_turns_166 rfl rfl ?_
        refine V_get C (v := .ref A.2.1) 0 170 fl_X4_9 dX4_turns_167 rfl rfl rfl ?_
        refine V_bipush C (6 : Int32) 172 dX4_turns_170 rfl rfl ?_
        refine V_dup2 C 173 dX4_turns_172 rfl rfl rfl ?_
        obtain ⟨g2, h⟩ := gd_some h
        refine V_iald C (f := (Md_all v)) (n := 825) 1 174 dX4_turns_173 rfl rfl g2 ?_
        refine V_aload_n C 0 175 dX4_turns_174 rfl rfl ?_
        refine V_get C (v := .int (Md_result v)) 0 178 fl_X4_37 dX4_turns_175 rfl rfl rfl ?_
        refine V_iadd C 179 dX4_turns_178 rfl ?_
        obtain ⟨g3, h⟩ := gd_some h
        refine V_iast C hBA (f := (Md_all v)) (n := 825) 1 180 (mdW g A ((upd (Md_all v) (cl (6 : Int32)) (((Md_all v) (cl (6 : Int32))) + (Md_result v))), (Md_output v), (Md_input v), (Md_commands v), (Md_thrown v), (Md_changes v), (Md_isSaved v), (Md_result v), (Md_why v), (Md_detail v), (Md_cause v), (Md_outputSize v), (Md_typed v), (Md_here v), (Md_error v), (Md_errorAt v), (Md_commandMany v))) dX4_turns_179 rfl rfl g3 rfl ?_
        refine V_aload_n C 0 181 dX4_turns_180 rfl rfl ?_
        refine V_get C (v := .ref A.2.1) 0 184 fl_X4_9 dX4_turns_181 rfl rfl rfl ?_
        refine V_iconst C (3 : Int32) 185 dX4_turns_184 rfl rfl ?_
        refine V_iload_n C 3 186 dX4_turns_185 rfl rfl ?_
        obtain ⟨g4, h⟩ := gd_some h
        refine V_iast C hBA (f := (upd (Md_all v) (cl (6 : Int32)) (((Md_all v) (cl (6 : Int32))) + (Md_result v)))) (n := 825) 1 187 (mdW g A ((upd (upd (Md_all v) (cl (6 : Int32)) (((Md_all v) (cl (6 : Int32))) + (Md_result v))) (cl (3 : Int32)) x3), (Md_output v), (Md_input v), (Md_commands v), (Md_thrown v), (Md_changes v), (Md_isSaved v), (Md_result v), (Md_why v), (Md_detail v), (Md_cause v), (Md_outputSize v), (Md_typed v), (Md_here v), (Md_error v), (Md_errorAt v), (Md_commandMany v))) dX4_turns_186 rfl rfl g4 rfl ?_
        refine V_iconst C (0 : Int32) 188 dX4_turns_187 rfl rfl ?_
        obtain rfl := Option.some.inj h
        exact retI _ _ _ .int rfl (rfl) rfl dX4_turns_188
      · have h := (if_neg e1).symm.trans h
        refine V_aload_n C 0 86 dX4_turns_85 rfl rfl ?_
        refine V_iload C 4 88 dX4_turns_86 rfl rfl ?_
        refine V_iconst C (3 : Int32) 89 dX4_turns_88 rfl rfl ?_
        obtain ⟨r5, k6, h⟩ := bd_some h
        refine V_callP C ml_X4_53 (pre := []) (post := []) (w := mdW g A v) (as := [.int x4, .int (3 : Int32)]) (rest := []) (c_X4_m k6) 0 92 dX4_turns_89 rfl ⟨Nat.le_of_ble_eq_true rfl, Nat.le_of_ble_eq_true rfl⟩ rfl (rfl) rfl rfl rfl (Nat.le_of_ble_eq_true rfl) ⟨Nat.zero_le _, Nat.zero_le _⟩ ?_
        refine V_if_gt C 160 95 dX4_turns_92 rfl rfl (fun e7 => ?_) (fun e7 => ?_)
        · have h := (if_pos e7).symm.trans h
          refine V_lv [0, 1, 2, 3, 4] rfl ?_
          exact B160 (f_X4_turns_L80 n) ih _ _ _ _ _ h
        · have h := (if_neg e7).symm.trans h
          refine V_aload_n C 0 96 dX4_turns_95 rfl rfl ?_
          refine V_aload_n C 0 97 dX4_turns_96 rfl rfl ?_
          refine V_iload C 4 99 dX4_turns_97 rfl rfl ?_
          refine V_iconst C (1 : Int32) 100 dX4_turns_99 rfl rfl ?_
          obtain ⟨r8, k9, h⟩ := bd_some h
          refine V_callP C ml_X4_53 (pre := []) (post := []) (w := mdW g A v) (as := [.int x4, .int (1 : Int32)]) (rest := [.ref A.1]) (c_X4_m k9) 0 103 dX4_turns_100 rfl ⟨Nat.le_of_ble_eq_true rfl, Nat.le_of_ble_eq_true rfl⟩ rfl (rfl) rfl rfl rfl (Nat.le_of_ble_eq_true rfl) ⟨Nat.zero_le _, Nat.zero_le _⟩ ?_
          refine V_iload_n C 1 104 dX4_turns_103 rfl rfl ?_
          refine V_iload_n C 2 105 dX4_turns_104 rfl rfl ?_
          obtain ⟨r10, k11, h⟩ := bd_some h
          refine V_callP C ml_X4_138 (pre := []) (post := []) (w := mdW g A v) (as := [.int r8, .int x1, .int x2]) (rest := []) (c_X4_isPassed k11) 0 108 dX4_turns_105 rfl ⟨Nat.le_of_ble_eq_true rfl, Nat.le_of_ble_eq_true rfl⟩ rfl (rfl) rfl rfl rfl (Nat.le_of_ble_eq_true rfl) ⟨Nat.zero_le _, Nat.zero_le _⟩ ?_
          refine V_if_ne C 114 111 dX4_turns_108 rfl rfl (fun e12 => ?_) (fun e12 => ?_)
          · have h := (if_neg e12).symm.trans h
            refine V_aload_n C 0 115 dX4_turns_114 rfl rfl ?_
            refine V_iload C 4 117 dX4_turns_115 rfl rfl ?_
            refine V_iconst C (4 : Int32) 118 dX4_turns_117 rfl rfl ?_
            refine V_aload_n C 0 119 dX4_turns_118 rfl rfl ?_
            refine V_iload C 4 121 dX4_turns_119 rfl rfl ?_
            refine V_iconst C (4 : Int32) 122 dX4_turns_121 rfl rfl ?_
            obtain ⟨r13, k14, h⟩ := bd_some h
            refine V_callP C ml_X4_53 (pre := []) (post := []) (w := mdW g A v) (as := [.int x4, .int (4 : Int32)]) (rest := [.int (4 : Int32), .int x4, .ref A.1]) (c_X4_m k14) 0 125 dX4_turns_122 rfl ⟨Nat.le_of_ble_eq_true rfl, Nat.le_of_ble_eq_true rfl⟩ rfl (rfl) rfl rfl rfl (Nat.le_of_ble_eq_true rfl) ⟨Nat.zero_le _, Nat.zero_le _⟩ ?_
            refine V_iconst C (1 : Int32) 126 dX4_turns_125 rfl rfl ?_
            refine V_iadd C 127 dX4_turns_126 rfl ?_
            obtain ⟨r15, k16, h⟩ := bd_some h
            refine V_callS C hBA ml_X4_92 (pre := []) (post := []) (w0 := mdW g A v) (w1 := mdW g A r15.2) (as := [.int x4, .int (4 : Int32), .int (r13 + (1 : Int32))]) (rest := []) (c_X4_set k16) 0 130 (mdW g A r15.2) dX4_turns_127 rfl ⟨Nat.le_of_ble_eq_true rfl, Nat.le_of_ble_eq_true rfl⟩ rfl (rfl) (rfl) rfl rfl rfl rfl (Nat.le_of_ble_eq_true rfl) ⟨Nat.zero_le _, Nat.zero_le _⟩ ?_
            refine V_aload_n C 0 131 dX4_turns_130 rfl rfl ?_
            refine V_iload C 4 133 dX4_turns_131 rfl rfl ?_
            refine V_iconst C (4 : Int32) 134 dX4_turns_133 rfl rfl ?_
            obtain ⟨r17, k18, h⟩ := bd_some h
            refine V_callP C ml_X4_53 (pre := []) (post := []) (w := mdW g A r15.2) (as := [.int x4, .int (4 : Int32)]) (rest := []) (c_X4_m k18) 0 137 dX4_turns_134 rfl ⟨Nat.le_of_ble_eq_true rfl, Nat.le_of_ble_eq_true rfl⟩ rfl (rfl) rfl rfl rfl (Nat.le_of_ble_eq_true rfl) ⟨Nat.zero_le _, Nat.zero_le _⟩ ?_
            refine V_iconst C (3 : Int32) 138 dX4_turns_137 rfl rfl ?_
            refine V_icmp_ge C 144 141 dX4_turns_138 rfl rfl (fun e19 => ?_) (fun e19 => ?_)
            · have h := (if_pos e19).symm.trans h
              refine V_aload_n C 0 145 dX4_turns_144 rfl rfl ?_
              refine V_iload C 4 147 dX4_turns_145 rfl rfl ?_
              obtain ⟨r20, k21, h⟩ := bd_some h
              refine V_callS C hBA ml_X4_110 (pre := []) (post := []) (w0 := mdW g A r15.2) (w1 := mdW g A r20.2) (as := [.int x4]) (rest := []) (c_X4_goes k21) 0 150 (mdW g A r20.2) dX4_turns_147 rfl ⟨Nat.le_of_ble_eq_true rfl, Nat.le_of_ble_eq_true rfl⟩ rfl (rfl) (rfl) rfl rfl rfl rfl (Nat.le_of_ble_eq_true rfl) ⟨Nat.zero_le _, Nat.zero_le _⟩ ?_
              refine V_aload_n C 0 151 dX4_turns_150 rfl rfl ?_
              refine V_dup C 152 dX4_turns_151 rfl rfl ?_
              refine V_get C (v := .int (Md_result r20.2)) 0 155 fl_X4_37 dX4_turns_152 rfl rfl rfl ?_
              refine V_iconst C (1 : Int32) 156 dX4_turns_155 rfl rfl ?_
              refine V_iadd C 157 dX4_turns_156 rfl ?_
              refine V_put C hBA 0 160 (mdW g A ((Md_all r20.2), (Md_output r20.2), (Md_input r20.2), (Md_commands r20.2), (Md_thrown r20.2), (Md_changes r20.2), (Md_isSaved r20.2), ((Md_result r20.2) + (1 : Int32)), (Md_why r20.2), (Md_detail r20.2), (Md_cause r20.2), (Md_outputSize r20.2), (Md_typed r20.2), (Md_here r20.2), (Md_error r20.2), (Md_errorAt r20.2), (Md_commandMany r20.2))) fl_X4_37 fp_X4_4 dX4_turns_157 rfl rfl (Nat.le_of_ble_eq_true rfl) rfl rfl rfl ?_
              refine V_lv [0, 1, 2, 3, 4] rfl ?_
              exact B160 (f_X4_turns_L80 n) ih _ _ _ _ _ h
            · have h := (if_neg e19).symm.trans h
              refine V_goto C 160 dX4_turns_141 rfl ?_
              refine V_lv [0, 1, 2, 3, 4] rfl ?_
              exact B160 (f_X4_turns_L80 n) ih _ _ _ _ _ h
          · have h := (if_pos e12).symm.trans h
            refine V_goto C 160 dX4_turns_111 rfl ?_
            refine V_lv [0, 1, 2, 3, 4] rfl ?_
            exact B160 (f_X4_turns_L80 n) ih _ _ _ _ _ h
  have B49 : ∀ (x1 : Int32) (x2 : Int32) (x3 : Int32) (s0 : Int32) (v : MdV), f_X4_turns_B49 x1 x2 x3 s0 v = some R → V K 0 0 (mdW g A v) [(0, .ref A.1), (1, .int x1), (2, .int x2), (3, .int x3)] [.int s0, .ref A.1] 49 := by
    intro x1 x2 x3 s0 v h
    rw [f_X4_turns_B49] at h
    refine V_bipush C (9 : Int32) 51 dX4_turns_49 rfl rfl ?_
    refine V_aload_n C 0 52 dX4_turns_51 rfl rfl ?_
    refine V_get C (v := .ref A.2.1) 0 55 fl_X4_9 dX4_turns_52 rfl rfl rfl ?_
    refine V_iconst C (3 : Int32) 56 dX4_turns_55 rfl rfl ?_
    obtain ⟨g22, h⟩ := gd_some h
    refine V_iald C (f := (Md_all v)) (n := 825) 1 57 dX4_turns_56 rfl rfl g22 ?_
    obtain ⟨r23, k24, h⟩ := bd_some h
    refine V_callS C hBA ml_X4_85 (pre := []) (post := []) (w0 := mdW g A v) (w1 := mdW g A r23.2) (as := [.int s0, .int (9 : Int32), .int ((Md_all v) (cl (3 : Int32)))]) (rest := []) (c_X4_rejects k24) 0 60 (mdW g A r23.2) dX4_turns_57 rfl ⟨Nat.le_of_ble_eq_true rfl, Nat.le_of_ble_eq_true rfl⟩ rfl (rfl) (rfl) rfl rfl rfl rfl (Nat.le_of_ble_eq_true rfl) ⟨Nat.zero_le _, Nat.zero_le _⟩ ?_
    refine V_if_eq C 65 63 dX4_turns_60 rfl rfl (fun e25 => ?_) (fun e25 => ?_)
    · have h := (if_pos e25).symm.trans h
      refine V_aload_n C 0 66 dX4_turns_65 rfl rfl ?_
      refine V_iconst C (0 : Int32) 67 dX4_turns_66 rfl rfl ?_
      refine V_put C hBA 0 70 (mdW g A ((Md_all r23.2), (Md_output r23.2), (Md_input r23.2), (Md_commands r23.2), (Md_thrown r23.2), (Md_changes r23.2), (Md_isSaved r23.2), (0 : Int32), (Md_why r23.2), (Md_detail r23.2), (Md_cause r23.2), (Md_outputSize r23.2), (Md_typed r23.2), (Md_here r23.2), (Md_error r23.2), (Md_errorAt r23.2), (Md_commandMany r23.2))) fl_X4_37 fp_X4_4 dX4_turns_67 rfl rfl (Nat.le_of_ble_eq_true rfl) rfl rfl rfl ?_
      refine V_aload_n C 0 71 dX4_turns_70 rfl rfl ?_
      refine V_get C (v := .ref A.2.1) 0 74 fl_X4_9 dX4_turns_71 rfl rfl rfl ?_
      refine V_iconst C (0 : Int32) 75 dX4_turns_74 rfl rfl ?_
      obtain ⟨g26, h⟩ := gd_some h
      refine V_iald C (f := (Md_all r23.2)) (n := 825) 1 76 dX4_turns_75 rfl rfl g26 ?_
      refine V_iconst C (1 : Int32) 77 dX4_turns_76 rfl rfl ?_
      refine V_isub C 78 dX4_turns_77 rfl ?_
      refine V_istore C 80 [(4, .int (((Md_all r23.2) (cl (0 : Int32))) - (1 : Int32))), (0, .ref A.1), (1, .int x1), (2, .int x2), (3, .int x3)] dX4_turns_78 rfl (hlt 4 (by decide)) rfl ?_
      refine V_lv [1, 2, 3, 4, 0] rfl ?_
      exact L80 100 _ _ _ _ _ h
    · have h := (if_neg e25).symm.trans h
      refine V_iconst C (3 : Int32) 64 dX4_turns_63 rfl rfl ?_
      obtain rfl := Option.some.inj h
      exact retI _ _ _ .int rfl (rfl) rfl dX4_turns_64
  have B35 : ∀ (x1 : Int32) (x2 : Int32) (s0 : Int32) (v : MdV), f_X4_turns_B35 x1 x2 s0 v = some R → V K 0 0 (mdW g A v) [(0, .ref A.1), (1, .int x1), (2, .int x2)] [.int s0] 35 := by
    intro x1 x2 s0 v h
    rw [f_X4_turns_B35] at h
    refine V_istore_n C 36 [(3, .int s0), (0, .ref A.1), (1, .int x1), (2, .int x2)] dX4_turns_35 rfl (hlt 3 (by decide)) rfl ?_
    refine V_aload_n C 1 37 dX4_turns_36 rfl rfl ?_
    refine V_iload_n C 0 38 dX4_turns_37 rfl rfl ?_
    obtain ⟨r27, k28, h⟩ := bd_some h
    refine V_callPs C mls_X4_74 (pre := []) (post := mdW g A v) (w := []) (as := [.int s0]) (rest := [.ref A.1]) (c_X4_isPage k28) 41 dX4_turns_38 rfl ⟨Nat.le_of_ble_eq_true rfl, Nat.le_of_ble_eq_true rfl⟩ rfl rfl rfl rfl (Nat.le_of_ble_eq_true rfl) ⟨Nat.zero_le _, Nat.zero_le _⟩ ?_
    refine V_if_ne C 48 44 dX4_turns_41 rfl rfl (fun e29 => ?_) (fun e29 => ?_)
    · have h := (if_neg e29).symm.trans h
      refine V_iconst C (0 : Int32) 49 dX4_turns_48 rfl rfl ?_
      refine V_lv [1, 2, 3, 0] rfl ?_
      exact B49 _ _ _ _ _ h
    · have h := (if_pos e29).symm.trans h
      refine V_iconst C (1 : Int32) 45 dX4_turns_44 rfl rfl ?_
      refine V_goto C 49 dX4_turns_45 rfl ?_
      refine V_lv [1, 2, 3, 0] rfl ?_
      exact B49 _ _ _ _ _ h
  show V K 0 0 _ [(0, .ref A.1), (1, .int a1), (2, .int a2)] [] 0
  unfold f_X4_turns at h
  refine V_iload_n C 1 1 dX4_turns_0 rfl rfl ?_
  refine V_iconst C (1 : Int32) 2 dX4_turns_1 rfl rfl ?_
  refine V_bipush C (20 : Int32) 4 dX4_turns_2 rfl rfl ?_
  obtain ⟨r30, k31, h⟩ := bd_some h
  refine V_callPs C mls_X4_57 (pre := []) (post := mdW g A v) (w := []) (as := [.int a1, .int (1 : Int32), .int (20 : Int32)]) (rest := []) (c_X4_in k31) 7 dX4_turns_4 rfl ⟨Nat.le_of_ble_eq_true rfl, Nat.le_of_ble_eq_true rfl⟩ rfl rfl rfl rfl (Nat.le_of_ble_eq_true rfl) ⟨Nat.zero_le _, Nat.zero_le _⟩ ?_
  refine V_if_ne C 12 10 dX4_turns_7 rfl rfl (fun e32 => ?_) (fun e32 => ?_)
  · have h := (if_neg e32).symm.trans h
    refine V_iload_n C 2 13 dX4_turns_12 rfl rfl ?_
    refine V_if_eq C 27 16 dX4_turns_13 rfl rfl (fun e33 => ?_) (fun e33 => ?_)
    · have h := (if_pos e33).symm.trans h
      refine V_aload_n C 0 28 dX4_turns_27 rfl rfl ?_
      refine V_get C (v := .ref A.2.1) 0 31 fl_X4_9 dX4_turns_28 rfl rfl rfl ?_
      refine V_iconst C (3 : Int32) 32 dX4_turns_31 rfl rfl ?_
      obtain ⟨g34, h⟩ := gd_some h
      refine V_iald C (f := (Md_all v)) (n := 825) 1 33 dX4_turns_32 rfl rfl g34 ?_
      refine V_iload_n C 1 34 dX4_turns_33 rfl rfl ?_
      refine V_isub C 35 dX4_turns_34 rfl ?_
      refine V_lv [0, 1, 2] rfl ?_
      exact B35 _ _ _ _ h
    · have h := (if_neg e33).symm.trans h
      refine V_aload_n C 0 17 dX4_turns_16 rfl rfl ?_
      refine V_get C (v := .ref A.2.1) 0 20 fl_X4_9 dX4_turns_17 rfl rfl rfl ?_
      refine V_iconst C (3 : Int32) 21 dX4_turns_20 rfl rfl ?_
      obtain ⟨g35, h⟩ := gd_some h
      refine V_iald C (f := (Md_all v)) (n := 825) 1 22 dX4_turns_21 rfl rfl g35 ?_
      refine V_iload_n C 1 23 dX4_turns_22 rfl rfl ?_
      refine V_iadd C 24 dX4_turns_23 rfl ?_
      refine V_goto C 35 dX4_turns_24 rfl ?_
      refine V_lv [0, 1, 2] rfl ?_
      exact B35 _ _ _ _ h
  · have h := (if_pos e32).symm.trans h
    refine V_iconst C (2 : Int32) 11 dX4_turns_10 rfl rfl ?_
    obtain rfl := Option.some.inj h
    exact retI _ _ _ .int rfl (rfl) rfl dX4_turns_11
set_option maxHeartbeats 4000000 in
set_option maxRecDepth 100000 in
theorem c_X4_turnPages {l : Launch} {D : va_G} {g : G0} {A : MdA} {v : MdV} {a1 a2 : Int32} {R : (Int32 × MdV)} (h : f_X4_turnPages v a1 a2 = some R) : CtS l D g yX4_turnPages cX4_turnPages 3 (some .int) (rmF 3 70) (mdW g A v) [.ref A.1, .int a1, .int a2] (some (.int R.1)) (mdW g A R.2) := by
  refine CtS.of (by decide) (Nat.le_of_ble_eq_true rfl) ?_
  intro K C hBA el eD ekn retI retV
  subst el
  subst eD
  have hlt : ∀ i, i < 3 → i < kn K := fun i h => by rw [ekn]; exact h
  show V K 0 0 _ [(0, .ref A.1), (1, .int a1), (2, .int a2)] [] 0
  unfold f_X4_turnPages at h
  refine V_aload_n C 0 1 dX4_turnPages_0 rfl rfl ?_
  obtain ⟨r1, k2, h⟩ := bd_some h
  refine V_callS C hBA ml_X4_96 (pre := []) (post := []) (w0 := mdW g A v) (w1 := mdW g A r1.2) (as := []) (rest := []) (c_X4_begins k2) 0 4 (mdW g A r1.2) dX4_turnPages_1 rfl ⟨Nat.le_of_ble_eq_true rfl, Nat.le_of_ble_eq_true rfl⟩ rfl (rfl) (rfl) rfl rfl rfl rfl (Nat.le_of_ble_eq_true rfl) ⟨Nat.zero_le _, Nat.zero_le _⟩ ?_
  refine V_aload_n C 0 5 dX4_turnPages_4 rfl rfl ?_
  refine V_aload_n C 0 6 dX4_turnPages_5 rfl rfl ?_
  refine V_iload_n C 1 7 dX4_turnPages_6 rfl rfl ?_
  refine V_iload_n C 2 8 dX4_turnPages_7 rfl rfl ?_
  obtain ⟨r3, k4, h⟩ := bd_some h
  refine V_callS C hBA ml_X4_142 (pre := []) (post := []) (w0 := mdW g A r1.2) (w1 := mdW g A r3.2) (as := [.int a1, .int a2]) (rest := [.ref A.1]) (c_X4_turns k4) 0 11 (mdW g A r3.2) dX4_turnPages_8 rfl ⟨Nat.le_of_ble_eq_true rfl, Nat.le_of_ble_eq_true rfl⟩ rfl (rfl) (rfl) rfl rfl rfl rfl (Nat.le_of_ble_eq_true rfl) ⟨Nat.zero_le _, Nat.zero_le _⟩ ?_
  refine V_iconst C (0 : Int32) 12 dX4_turnPages_11 rfl rfl ?_
  refine V_iconst C (1 : Int32) 13 dX4_turnPages_12 rfl rfl ?_
  refine V_iconst C (2 : Int32) 14 dX4_turnPages_13 rfl rfl ?_
  obtain ⟨r5, k6, h⟩ := bd_some h
  refine V_callS C hBA ml_X4_103 (pre := []) (post := []) (w0 := mdW g A r3.2) (w1 := mdW g A r5.2) (as := [.int r3.1, .int (0 : Int32), .int (1 : Int32), .int (2 : Int32)]) (rest := []) (c_X4_ends k6) 0 17 (mdW g A r5.2) dX4_turnPages_14 rfl ⟨Nat.le_of_ble_eq_true rfl, Nat.le_of_ble_eq_true rfl⟩ rfl (rfl) (rfl) rfl rfl rfl rfl (Nat.le_of_ble_eq_true rfl) ⟨Nat.zero_le _, Nat.zero_le _⟩ ?_
  obtain rfl := Option.some.inj h
  exact retI _ _ _ .int rfl (rfl) rfl dX4_turnPages_17
set_option maxHeartbeats 4000000 in
set_option maxRecDepth 100000 in
theorem c_X4_ofMark {l : Launch} {D : va_G} {g : G0} {A : MdA} {v : MdV} {a1 a2 : Int32} {R : (Int32 × MdV)} (h : f_X4_ofMark v a1 a2 = some R) : CtS l D g yX4_ofMark cX4_ofMark 4 (some .int) (rmF 2 44) (mdW g A v) [.ref A.1, .int a1, .int a2] (some (.int R.1)) (mdW g A R.2) := by
  refine CtS.of (by decide) (Nat.le_of_ble_eq_true rfl) ?_
  intro K C hBA el eD ekn retI retV
  subst el
  subst eD
  have hlt : ∀ i, i < 4 → i < kn K := fun i h => by rw [ekn]; exact h
  have B32 : ∀ (x1 : Int32) (x2 : Int32) (x3 : Int32) (s0 : Int32) (v : MdV), f_X4_ofMark_B32 x1 x2 x3 s0 v = some R → V K 0 0 (mdW g A v) [(0, .ref A.1), (1, .int x1), (2, .int x2), (3, .int x3)] [.int s0] 32 := by
    intro x1 x2 x3 s0 v h
    rw [f_X4_ofMark_B32] at h
    obtain rfl := Option.some.inj h
    exact retI _ _ _ .int rfl (rfl) rfl dX4_ofMark_32
  have B16 : ∀ (x1 : Int32) (x2 : Int32) (x3 : Int32) (s0 : Int32) (v : MdV), f_X4_ofMark_B16 x1 x2 x3 s0 v = some R → V K 0 0 (mdW g A v) [(0, .ref A.1), (1, .int x1), (2, .int x2), (3, .int x3)] [.int s0, .ref A.1] 16 := by
    intro x1 x2 x3 s0 v h
    rw [f_X4_ofMark_B16] at h
    obtain ⟨r1, k2, h⟩ := bd_some h
    refine V_callS C hBA ml_X4_49 (pre := []) (post := []) (w0 := mdW g A v) (w1 := mdW g A r1.2) (as := [.int s0]) (rest := []) (c_X4_isFine k2) 0 19 (mdW g A r1.2) dX4_ofMark_16 rfl ⟨Nat.le_of_ble_eq_true rfl, Nat.le_of_ble_eq_true rfl⟩ rfl (rfl) (rfl) rfl rfl rfl rfl (Nat.le_of_ble_eq_true rfl) ⟨Nat.zero_le _, Nat.zero_le _⟩ ?_
    refine V_if_eq C 31 22 dX4_ofMark_19 rfl rfl (fun e3 => ?_) (fun e3 => ?_)
    · have h := (if_pos e3).symm.trans h
      refine V_iconst C (0 : Int32) 32 dX4_ofMark_31 rfl rfl ?_
      refine V_lv [0, 1, 2, 3] rfl ?_
      exact B32 _ _ _ _ _ h
    · have h := (if_neg e3).symm.trans h
      refine V_aload_n C 0 23 dX4_ofMark_22 rfl rfl ?_
      refine V_iload_n C 3 24 dX4_ofMark_23 rfl rfl ?_
      refine V_iload_n C 2 25 dX4_ofMark_24 rfl rfl ?_
      obtain ⟨r4, k5, h⟩ := bd_some h
      refine V_callP C ml_X4_53 (pre := []) (post := []) (w := mdW g A r1.2) (as := [.int x3, .int x2]) (rest := []) (c_X4_m k5) 0 28 dX4_ofMark_25 rfl ⟨Nat.le_of_ble_eq_true rfl, Nat.le_of_ble_eq_true rfl⟩ rfl (rfl) rfl rfl rfl (Nat.le_of_ble_eq_true rfl) ⟨Nat.zero_le _, Nat.zero_le _⟩ ?_
      refine V_goto C 32 dX4_ofMark_28 rfl ?_
      refine V_lv [0, 1, 2, 3] rfl ?_
      exact B32 _ _ _ _ _ h
  show V K 0 0 _ [(0, .ref A.1), (1, .int a1), (2, .int a2)] [] 0
  unfold f_X4_ofMark at h
  refine V_aload_n C 0 1 dX4_ofMark_0 rfl rfl ?_
  refine V_iload_n C 1 2 dX4_ofMark_1 rfl rfl ?_
  obtain ⟨r6, k7, h⟩ := bd_some h
  refine V_callP C ml_X4_107 (pre := []) (post := []) (w := mdW g A v) (as := [.int a1]) (rest := []) (c_X4_find k7) 0 5 dX4_ofMark_2 rfl ⟨Nat.le_of_ble_eq_true rfl, Nat.le_of_ble_eq_true rfl⟩ rfl (rfl) rfl rfl rfl (Nat.le_of_ble_eq_true rfl) ⟨Nat.zero_le _, Nat.zero_le _⟩ ?_
  refine V_istore_n C 6 [(3, .int r6), (0, .ref A.1), (1, .int a1), (2, .int a2)] dX4_ofMark_5 rfl (hlt 3 (by decide)) rfl ?_
  refine V_aload_n C 1 7 dX4_ofMark_6 rfl rfl ?_
  refine V_iload_n C 0 8 dX4_ofMark_7 rfl rfl ?_
  refine V_if_lt C 15 11 dX4_ofMark_8 rfl rfl (fun e8 => ?_) (fun e8 => ?_)
  · have h := (if_pos e8).symm.trans h
    refine V_iconst C (0 : Int32) 16 dX4_ofMark_15 rfl rfl ?_
    refine V_lv [1, 2, 3, 0] rfl ?_
    exact B16 _ _ _ _ _ h
  · have h := (if_neg e8).symm.trans h
    refine V_iconst C (1 : Int32) 12 dX4_ofMark_11 rfl rfl ?_
    refine V_goto C 16 dX4_ofMark_12 rfl ?_
    refine V_lv [1, 2, 3, 0] rfl ?_
    exact B16 _ _ _ _ _ h
set_option maxHeartbeats 4000000 in
set_option maxRecDepth 100000 in
theorem c_X4_isRibbon {l : Launch} {D : va_G} {g : G0} {A : MdA} {v : MdV} {a1 : Int32} {R : (Int32 × MdV)} (h : f_X4_isRibbon v a1 = some R) : CtS l D g yX4_isRibbon cX4_isRibbon 2 (some .boolean) (rmF 3 67) (mdW g A v) [.ref A.1, .int a1] (some (.int R.1)) (mdW g A R.2) := by
  refine CtS.of (by decide) (Nat.le_of_ble_eq_true rfl) ?_
  intro K C hBA el eD ekn retI retV
  subst el
  subst eD
  have hlt : ∀ i, i < 2 → i < kn K := fun i h => by rw [ekn]; exact h
  have B14 : ∀ (x1 : Int32) (s0 : Int32) (v : MdV), f_X4_isRibbon_B14 x1 s0 v = some R → V K 0 0 (mdW g A v) [(0, .ref A.1), (1, .int x1)] [.int s0] 14 := by
    intro x1 s0 v h
    rw [f_X4_isRibbon_B14] at h
    obtain ⟨g1, h⟩ := gd_some h
    obtain rfl := Option.some.inj h
    exact retI _ _ _ .boolean rfl (isz_t g1) rfl dX4_isRibbon_14
  show V K 0 0 _ [(0, .ref A.1), (1, .int a1)] [] 0
  unfold f_X4_isRibbon at h
  refine V_aload_n C 0 1 dX4_isRibbon_0 rfl rfl ?_
  refine V_iload_n C 1 2 dX4_isRibbon_1 rfl rfl ?_
  refine V_iconst C (3 : Int32) 3 dX4_isRibbon_2 rfl rfl ?_
  obtain ⟨r2, k3, h⟩ := bd_some h
  refine V_callS C hBA ml_X4_146 (pre := []) (post := []) (w0 := mdW g A v) (w1 := mdW g A r2.2) (as := [.int a1, .int (3 : Int32)]) (rest := []) (c_X4_ofMark k3) 0 6 (mdW g A r2.2) dX4_isRibbon_3 rfl ⟨Nat.le_of_ble_eq_true rfl, Nat.le_of_ble_eq_true rfl⟩ rfl (rfl) (rfl) rfl rfl rfl rfl (Nat.le_of_ble_eq_true rfl) ⟨Nat.zero_le _, Nat.zero_le _⟩ ?_
  refine V_if_le C 13 9 dX4_isRibbon_6 rfl rfl (fun e4 => ?_) (fun e4 => ?_)
  · have h := (if_pos e4).symm.trans h
    refine V_iconst C (0 : Int32) 14 dX4_isRibbon_13 rfl rfl ?_
    refine V_lv [0, 1] rfl ?_
    exact B14 _ _ _ h
  · have h := (if_neg e4).symm.trans h
    refine V_iconst C (1 : Int32) 10 dX4_isRibbon_9 rfl rfl ?_
    refine V_goto C 14 dX4_isRibbon_10 rfl ?_
    refine V_lv [0, 1] rfl ?_
    exact B14 _ _ _ h
set_option maxHeartbeats 4000000 in
set_option maxRecDepth 100000 in
theorem c_X4_pageOf {l : Launch} {D : va_G} {g : G0} {A : MdA} {v : MdV} {a1 : Int32} {R : (Int32 × MdV)} (h : f_X4_pageOf v a1 = some R) : CtS l D g yX4_pageOf cX4_pageOf 2 (some .int) (rmF 3 67) (mdW g A v) [.ref A.1, .int a1] (some (.int R.1)) (mdW g A R.2) := by
  refine CtS.of (by decide) (Nat.le_of_ble_eq_true rfl) ?_
  intro K C hBA el eD ekn retI retV
  subst el
  subst eD
  have hlt : ∀ i, i < 2 → i < kn K := fun i h => by rw [ekn]; exact h
  show V K 0 0 _ [(0, .ref A.1), (1, .int a1)] [] 0
  unfold f_X4_pageOf at h
  refine V_aload_n C 0 1 dX4_pageOf_0 rfl rfl ?_
  refine V_iload_n C 1 2 dX4_pageOf_1 rfl rfl ?_
  refine V_iconst C (1 : Int32) 3 dX4_pageOf_2 rfl rfl ?_
  obtain ⟨r1, k2, h⟩ := bd_some h
  refine V_callS C hBA ml_X4_146 (pre := []) (post := []) (w0 := mdW g A v) (w1 := mdW g A r1.2) (as := [.int a1, .int (1 : Int32)]) (rest := []) (c_X4_ofMark k2) 0 6 (mdW g A r1.2) dX4_pageOf_3 rfl ⟨Nat.le_of_ble_eq_true rfl, Nat.le_of_ble_eq_true rfl⟩ rfl (rfl) (rfl) rfl rfl rfl rfl (Nat.le_of_ble_eq_true rfl) ⟨Nat.zero_le _, Nat.zero_le _⟩ ?_
  obtain rfl := Option.some.inj h
  exact retI _ _ _ .int rfl (rfl) rfl dX4_pageOf_6
set_option maxHeartbeats 4000000 in
set_option maxRecDepth 100000 in
theorem c_X4_weightOf {l : Launch} {D : va_G} {g : G0} {A : MdA} {v : MdV} {a1 : Int32} {R : (Int32 × MdV)} (h : f_X4_weightOf v a1 = some R) : CtS l D g yX4_weightOf cX4_weightOf 2 (some .int) (rmF 3 67) (mdW g A v) [.ref A.1, .int a1] (some (.int R.1)) (mdW g A R.2) := by
  refine CtS.of (by decide) (Nat.le_of_ble_eq_true rfl) ?_
  intro K C hBA el eD ekn retI retV
  subst el
  subst eD
  have hlt : ∀ i, i < 2 → i < kn K := fun i h => by rw [ekn]; exact h
  show V K 0 0 _ [(0, .ref A.1), (1, .int a1)] [] 0
  unfold f_X4_weightOf at h
  refine V_aload_n C 0 1 dX4_weightOf_0 rfl rfl ?_
  refine V_iload_n C 1 2 dX4_weightOf_1 rfl rfl ?_
  refine V_iconst C (2 : Int32) 3 dX4_weightOf_2 rfl rfl ?_
  obtain ⟨r1, k2, h⟩ := bd_some h
  refine V_callS C hBA ml_X4_146 (pre := []) (post := []) (w0 := mdW g A v) (w1 := mdW g A r1.2) (as := [.int a1, .int (2 : Int32)]) (rest := []) (c_X4_ofMark k2) 0 6 (mdW g A r1.2) dX4_weightOf_3 rfl ⟨Nat.le_of_ble_eq_true rfl, Nat.le_of_ble_eq_true rfl⟩ rfl (rfl) (rfl) rfl rfl rfl rfl (Nat.le_of_ble_eq_true rfl) ⟨Nat.zero_le _, Nat.zero_le _⟩ ?_
  obtain rfl := Option.some.inj h
  exact retI _ _ _ .int rfl (rfl) rfl dX4_weightOf_6
set_option maxHeartbeats 4000000 in
set_option maxRecDepth 100000 in
theorem c_X4_wearOf {l : Launch} {D : va_G} {g : G0} {A : MdA} {v : MdV} {a1 : Int32} {R : (Int32 × MdV)} (h : f_X4_wearOf v a1 = some R) : CtS l D g yX4_wearOf cX4_wearOf 2 (some .int) (rmF 3 67) (mdW g A v) [.ref A.1, .int a1] (some (.int R.1)) (mdW g A R.2) := by
  refine CtS.of (by decide) (Nat.le_of_ble_eq_true rfl) ?_
  intro K C hBA el eD ekn retI retV
  subst el
  subst eD
  have hlt : ∀ i, i < 2 → i < kn K := fun i h => by rw [ekn]; exact h
  show V K 0 0 _ [(0, .ref A.1), (1, .int a1)] [] 0
  unfold f_X4_wearOf at h
  refine V_aload_n C 0 1 dX4_wearOf_0 rfl rfl ?_
  refine V_iload_n C 1 2 dX4_wearOf_1 rfl rfl ?_
  refine V_iconst C (4 : Int32) 3 dX4_wearOf_2 rfl rfl ?_
  obtain ⟨r1, k2, h⟩ := bd_some h
  refine V_callS C hBA ml_X4_146 (pre := []) (post := []) (w0 := mdW g A v) (w1 := mdW g A r1.2) (as := [.int a1, .int (4 : Int32)]) (rest := []) (c_X4_ofMark k2) 0 6 (mdW g A r1.2) dX4_wearOf_3 rfl ⟨Nat.le_of_ble_eq_true rfl, Nat.le_of_ble_eq_true rfl⟩ rfl (rfl) (rfl) rfl rfl rfl rfl (Nat.le_of_ble_eq_true rfl) ⟨Nat.zero_le _, Nat.zero_le _⟩ ?_
  obtain rfl := Option.some.inj h
  exact retI _ _ _ .int rfl (rfl) rfl dX4_wearOf_6
set_option maxHeartbeats 4000000 in
set_option maxRecDepth 100000 in
theorem c_X4_seatOf {l : Launch} {D : va_G} {g : G0} {A : MdA} {v : MdV} {a1 : Int32} {R : (Int32 × MdV)} (h : f_X4_seatOf v a1 = some R) : CtS l D g yX4_seatOf cX4_seatOf 3 (some .int) (rmF 2 44) (mdW g A v) [.ref A.1, .int a1] (some (.int R.1)) (mdW g A R.2) := by
  refine CtS.of (by decide) (Nat.le_of_ble_eq_true rfl) ?_
  intro K C hBA el eD ekn retI retV
  subst el
  subst eD
  have hlt : ∀ i, i < 3 → i < kn K := fun i h => by rw [ekn]; exact h
  have B51 : ∀ (x1 : Int32) (x2 : Int32) (s0 : Int32) (v : MdV), f_X4_seatOf_B51 x1 x2 s0 v = some R → V K 0 0 (mdW g A v) [(0, .ref A.1), (1, .int x1), (2, .int x2)] [.int s0] 51 := by
    intro x1 x2 s0 v h
    rw [f_X4_seatOf_B51] at h
    obtain rfl := Option.some.inj h
    exact retI _ _ _ .int rfl (rfl) rfl dX4_seatOf_51
  have B29 : ∀ (x1 : Int32) (x2 : Int32) (s0 : Int32) (v : MdV), f_X4_seatOf_B29 x1 x2 s0 v = some R → V K 0 0 (mdW g A v) [(0, .ref A.1), (1, .int x1), (2, .int x2)] [.int s0, .ref A.1] 29 := by
    intro x1 x2 s0 v h
    rw [f_X4_seatOf_B29] at h
    refine V_put C hBA 0 32 (mdW g A ((Md_all v), (Md_output v), (Md_input v), (Md_commands v), s0, (Md_changes v), (Md_isSaved v), (Md_result v), (Md_why v), (Md_detail v), (Md_cause v), (Md_outputSize v), (Md_typed v), (Md_here v), (Md_error v), (Md_errorAt v), (Md_commandMany v))) fl_X4_27 fp_X4_0 dX4_seatOf_29 rfl rfl (Nat.le_of_ble_eq_true rfl) rfl rfl rfl ?_
    refine V_aload_n C 0 33 dX4_seatOf_32 rfl rfl ?_
    refine V_get C (v := .int s0) 0 36 fl_X4_27 dX4_seatOf_33 rfl rfl rfl ?_
    refine V_if_ne C 50 39 dX4_seatOf_36 rfl rfl (fun e1 => ?_) (fun e1 => ?_)
    · have h := (if_neg e1).symm.trans h
      refine V_iconst C (0 : Int32) 51 dX4_seatOf_50 rfl rfl ?_
      refine V_lv [0, 1, 2] rfl ?_
      exact B51 _ _ _ _ h
    · have h := (if_pos e1).symm.trans h
      refine V_aload_n C 0 40 dX4_seatOf_39 rfl rfl ?_
      refine V_iload_n C 2 41 dX4_seatOf_40 rfl rfl ?_
      refine V_iconst C (3 : Int32) 42 dX4_seatOf_41 rfl rfl ?_
      obtain ⟨r2, k3, h⟩ := bd_some h
      refine V_callP C ml_X4_53 (pre := []) (post := []) (w := mdW g A ((Md_all v), (Md_output v), (Md_input v), (Md_commands v), s0, (Md_changes v), (Md_isSaved v), (Md_result v), (Md_why v), (Md_detail v), (Md_cause v), (Md_outputSize v), (Md_typed v), (Md_here v), (Md_error v), (Md_errorAt v), (Md_commandMany v))) (as := [.int x2, .int (3 : Int32)]) (rest := []) (c_X4_m k3) 0 45 dX4_seatOf_42 rfl ⟨Nat.le_of_ble_eq_true rfl, Nat.le_of_ble_eq_true rfl⟩ rfl (rfl) rfl rfl rfl (Nat.le_of_ble_eq_true rfl) ⟨Nat.zero_le _, Nat.zero_le _⟩ ?_
      refine V_iconst C (1 : Int32) 46 dX4_seatOf_45 rfl rfl ?_
      refine V_isub C 47 dX4_seatOf_46 rfl ?_
      refine V_goto C 51 dX4_seatOf_47 rfl ?_
      refine V_lv [0, 1, 2] rfl ?_
      exact B51 _ _ _ _ h
  show V K 0 0 _ [(0, .ref A.1), (1, .int a1)] [] 0
  unfold f_X4_seatOf at h
  refine V_aload_n C 0 1 dX4_seatOf_0 rfl rfl ?_
  refine V_iload_n C 1 2 dX4_seatOf_1 rfl rfl ?_
  obtain ⟨r4, k5, h⟩ := bd_some h
  refine V_callP C ml_X4_107 (pre := []) (post := []) (w := mdW g A v) (as := [.int a1]) (rest := []) (c_X4_find k5) 0 5 dX4_seatOf_2 rfl ⟨Nat.le_of_ble_eq_true rfl, Nat.le_of_ble_eq_true rfl⟩ rfl (rfl) rfl rfl rfl (Nat.le_of_ble_eq_true rfl) ⟨Nat.zero_le _, Nat.zero_le _⟩ ?_
  refine V_istore_n C 6 [(2, .int r4), (0, .ref A.1), (1, .int a1)] dX4_seatOf_5 rfl (hlt 2 (by decide)) rfl ?_
  refine V_aload_n C 1 7 dX4_seatOf_6 rfl rfl ?_
  refine V_iload_n C 0 8 dX4_seatOf_7 rfl rfl ?_
  refine V_if_ge C 15 11 dX4_seatOf_8 rfl rfl (fun e6 => ?_) (fun e6 => ?_)
  · have h := (if_pos e6).symm.trans h
    refine V_aload_n C 1 16 dX4_seatOf_15 rfl rfl ?_
    refine V_iload_n C 0 17 dX4_seatOf_16 rfl rfl ?_
    refine V_iconst C (3 : Int32) 18 dX4_seatOf_17 rfl rfl ?_
    obtain ⟨r7, k8, h⟩ := bd_some h
    refine V_callP C ml_X4_53 (pre := []) (post := []) (w := mdW g A v) (as := [.int r4, .int (3 : Int32)]) (rest := [.ref A.1]) (c_X4_m k8) 0 21 dX4_seatOf_18 rfl ⟨Nat.le_of_ble_eq_true rfl, Nat.le_of_ble_eq_true rfl⟩ rfl (rfl) rfl rfl rfl (Nat.le_of_ble_eq_true rfl) ⟨Nat.zero_le _, Nat.zero_le _⟩ ?_
    refine V_if_ne C 28 24 dX4_seatOf_21 rfl rfl (fun e9 => ?_) (fun e9 => ?_)
    · have h := (if_neg e9).symm.trans h
      refine V_iconst C (0 : Int32) 29 dX4_seatOf_28 rfl rfl ?_
      refine V_lv [1, 2, 0] rfl ?_
      exact B29 _ _ _ _ h
    · have h := (if_pos e9).symm.trans h
      refine V_iconst C (2 : Int32) 25 dX4_seatOf_24 rfl rfl ?_
      refine V_goto C 29 dX4_seatOf_25 rfl ?_
      refine V_lv [1, 2, 0] rfl ?_
      exact B29 _ _ _ _ h
  · have h := (if_neg e6).symm.trans h
    refine V_iconst C (1 : Int32) 12 dX4_seatOf_11 rfl rfl ?_
    refine V_goto C 29 dX4_seatOf_12 rfl ?_
    refine V_lv [1, 2, 0] rfl ?_
    exact B29 _ _ _ _ h
set_option maxHeartbeats 4000000 in
set_option maxRecDepth 100000 in
theorem c_X4_idOr {l : Launch} {D : va_G} {g : G0} {A : MdA} {v : MdV} {a1 a2 : Int32} {R : (Int32 × MdV)} (h : f_X4_idOr v a1 a2 = some R) : CtS l D g yX4_idOr cX4_idOr 3 (some .int) (rmF 1 22) (mdW g A v) [.ref A.1, .int a1, .int a2] (some (.int R.1)) (mdW g A R.2) := by
  refine CtS.of (by decide) (Nat.le_of_ble_eq_true rfl) ?_
  intro K C hBA el eD ekn retI retV
  subst el
  subst eD
  have hlt : ∀ i, i < 3 → i < kn K := fun i h => by rw [ekn]; exact h
  have B38 : ∀ (x1 : Int32) (x2 : Int32) (s0 : Int32) (v : MdV), f_X4_idOr_B38 x1 x2 s0 v = some R → V K 0 0 (mdW g A v) [(0, .ref A.1), (1, .int x1), (2, .int x2)] [.int s0] 38 := by
    intro x1 x2 s0 v h
    rw [f_X4_idOr_B38] at h
    obtain rfl := Option.some.inj h
    exact retI _ _ _ .int rfl (rfl) rfl dX4_idOr_38
  have B18 : ∀ (x1 : Int32) (x2 : Int32) (s0 : Int32) (v : MdV), f_X4_idOr_B18 x1 x2 s0 v = some R → V K 0 0 (mdW g A v) [(0, .ref A.1), (1, .int x1), (2, .int x2)] [.int s0, .ref A.1] 18 := by
    intro x1 x2 s0 v h
    rw [f_X4_idOr_B18] at h
    refine V_put C hBA 0 21 (mdW g A ((Md_all v), (Md_output v), (Md_input v), (Md_commands v), s0, (Md_changes v), (Md_isSaved v), (Md_result v), (Md_why v), (Md_detail v), (Md_cause v), (Md_outputSize v), (Md_typed v), (Md_here v), (Md_error v), (Md_errorAt v), (Md_commandMany v))) fl_X4_27 fp_X4_0 dX4_idOr_18 rfl rfl (Nat.le_of_ble_eq_true rfl) rfl rfl rfl ?_
    refine V_aload_n C 0 22 dX4_idOr_21 rfl rfl ?_
    refine V_get C (v := .int s0) 0 25 fl_X4_27 dX4_idOr_22 rfl rfl rfl ?_
    refine V_if_ne C 37 28 dX4_idOr_25 rfl rfl (fun e1 => ?_) (fun e1 => ?_)
    · have h := (if_neg e1).symm.trans h
      refine V_iconst C (0 : Int32) 38 dX4_idOr_37 rfl rfl ?_
      refine V_lv [0, 1, 2] rfl ?_
      exact B38 _ _ _ _ h
    · have h := (if_pos e1).symm.trans h
      refine V_aload_n C 0 29 dX4_idOr_28 rfl rfl ?_
      refine V_iload_n C 2 30 dX4_idOr_29 rfl rfl ?_
      refine V_iconst C (0 : Int32) 31 dX4_idOr_30 rfl rfl ?_
      obtain ⟨r2, k3, h⟩ := bd_some h
      refine V_callP C ml_X4_53 (pre := []) (post := []) (w := mdW g A ((Md_all v), (Md_output v), (Md_input v), (Md_commands v), s0, (Md_changes v), (Md_isSaved v), (Md_result v), (Md_why v), (Md_detail v), (Md_cause v), (Md_outputSize v), (Md_typed v), (Md_here v), (Md_error v), (Md_errorAt v), (Md_commandMany v))) (as := [.int x2, .int (0 : Int32)]) (rest := []) (c_X4_m k3) 0 34 dX4_idOr_31 rfl ⟨Nat.le_of_ble_eq_true rfl, Nat.le_of_ble_eq_true rfl⟩ rfl (rfl) rfl rfl rfl (Nat.le_of_ble_eq_true rfl) ⟨Nat.zero_le _, Nat.zero_le _⟩ ?_
      refine V_goto C 38 dX4_idOr_34 rfl ?_
      refine V_lv [0, 1, 2] rfl ?_
      exact B38 _ _ _ _ h
  show V K 0 0 _ [(0, .ref A.1), (1, .int a1), (2, .int a2)] [] 0
  unfold f_X4_idOr at h
  refine V_aload_n C 0 1 dX4_idOr_0 rfl rfl ?_
  refine V_iload_n C 1 2 dX4_idOr_1 rfl rfl ?_
  refine V_if_ne C 9 5 dX4_idOr_2 rfl rfl (fun e4 => ?_) (fun e4 => ?_)
  · have h := (if_neg e4).symm.trans h
    refine V_iload_n C 2 10 dX4_idOr_9 rfl rfl ?_
    refine V_if_ge C 17 13 dX4_idOr_10 rfl rfl (fun e5 => ?_) (fun e5 => ?_)
    · have h := (if_pos e5).symm.trans h
      refine V_iconst C (0 : Int32) 18 dX4_idOr_17 rfl rfl ?_
      refine V_lv [0, 1, 2] rfl ?_
      exact B18 _ _ _ _ h
    · have h := (if_neg e5).symm.trans h
      refine V_iconst C (2 : Int32) 14 dX4_idOr_13 rfl rfl ?_
      refine V_goto C 18 dX4_idOr_14 rfl ?_
      refine V_lv [0, 1, 2] rfl ?_
      exact B18 _ _ _ _ h
  · have h := (if_pos e4).symm.trans h
    refine V_iconst C (1 : Int32) 6 dX4_idOr_5 rfl rfl ?_
    refine V_goto C 18 dX4_idOr_6 rfl ?_
    refine V_lv [0, 1, 2] rfl ?_
    exact B18 _ _ _ _ h
set_option maxHeartbeats 4000000 in
set_option maxRecDepth 100000 in
theorem c_X4_ribbonIn {l : Launch} {D : va_G} {g : G0} {A : MdA} {v : MdV} {a1 : Int32} {R : (Int32 × MdV)} (h : f_X4_ribbonIn v a1 = some R) : CtS l D g yX4_ribbonIn cX4_ribbonIn 2 (some .int) (rmF 2 44) (mdW g A v) [.ref A.1, .int a1] (some (.int R.1)) (mdW g A R.2) := by
  refine CtS.of (by decide) (Nat.le_of_ble_eq_true rfl) ?_
  intro K C hBA el eD ekn retI retV
  subst el
  subst eD
  have hlt : ∀ i, i < 2 → i < kn K := fun i h => by rw [ekn]; exact h
  show V K 0 0 _ [(0, .ref A.1), (1, .int a1)] [] 0
  unfold f_X4_ribbonIn at h
  refine V_aload_n C 0 1 dX4_ribbonIn_0 rfl rfl ?_
  refine V_iload_n C 1 2 dX4_ribbonIn_1 rfl rfl ?_
  refine V_iconst C (0 : Int32) 3 dX4_ribbonIn_2 rfl rfl ?_
  refine V_iconst C (4 : Int32) 4 dX4_ribbonIn_3 rfl rfl ?_
  obtain ⟨r1, k2, h⟩ := bd_some h
  refine V_callPs C mls_X4_57 (pre := []) (post := mdW g A v) (w := []) (as := [.int a1, .int (0 : Int32), .int (4 : Int32)]) (rest := [.ref A.1]) (c_X4_in k2) 7 dX4_ribbonIn_4 rfl ⟨Nat.le_of_ble_eq_true rfl, Nat.le_of_ble_eq_true rfl⟩ rfl rfl rfl rfl (Nat.le_of_ble_eq_true rfl) ⟨Nat.zero_le _, Nat.zero_le _⟩ ?_
  refine V_aload_n C 0 8 dX4_ribbonIn_7 rfl rfl ?_
  refine V_iload_n C 1 9 dX4_ribbonIn_8 rfl rfl ?_
  obtain ⟨r3, k4, h⟩ := bd_some h
  refine V_callP C ml_X4_71 (pre := []) (post := []) (w := mdW g A v) (as := [.int a1]) (rest := [.int r1, .ref A.1]) (c_X4_inSeat k4) 0 12 dX4_ribbonIn_9 rfl ⟨Nat.le_of_ble_eq_true rfl, Nat.le_of_ble_eq_true rfl⟩ rfl (rfl) rfl rfl rfl (Nat.le_of_ble_eq_true rfl) ⟨Nat.zero_le _, Nat.zero_le _⟩ ?_
  obtain ⟨r5, k6, h⟩ := bd_some h
  refine V_callS C hBA ml_X4_149 (pre := []) (post := []) (w0 := mdW g A v) (w1 := mdW g A r5.2) (as := [.int r1, .int r3]) (rest := []) (c_X4_idOr k6) 0 15 (mdW g A r5.2) dX4_ribbonIn_12 rfl ⟨Nat.le_of_ble_eq_true rfl, Nat.le_of_ble_eq_true rfl⟩ rfl (rfl) (rfl) rfl rfl rfl rfl (Nat.le_of_ble_eq_true rfl) ⟨Nat.zero_le _, Nat.zero_le _⟩ ?_
  obtain rfl := Option.some.inj h
  exact retI _ _ _ .int rfl (rfl) rfl dX4_ribbonIn_15
set_option maxHeartbeats 4000000 in
set_option maxRecDepth 100000 in
theorem c_X4_isHeld {l : Launch} {D : va_G} {g : G0} {A : MdA} {v : MdV} {a1 : Int32} {R : (Int32 × MdV)} (h : f_X4_isHeld v a1 = some R) : CtS l D g yX4_isHeld cX4_isHeld 2 (some .boolean) (rmF 2 44) (mdW g A v) [.ref A.1, .int a1] (some (.int R.1)) (mdW g A R.2) := by
  refine CtS.of (by decide) (Nat.le_of_ble_eq_true rfl) ?_
  intro K C hBA el eD ekn retI retV
  subst el
  subst eD
  have hlt : ∀ i, i < 2 → i < kn K := fun i h => by rw [ekn]; exact h
  have B24 : ∀ (x1 : Int32) (s0 : Int32) (v : MdV), f_X4_isHeld_B24 x1 s0 v = some R → V K 0 0 (mdW g A v) [(0, .ref A.1), (1, .int x1)] [.int s0] 24 := by
    intro x1 s0 v h
    rw [f_X4_isHeld_B24] at h
    obtain ⟨g1, h⟩ := gd_some h
    obtain rfl := Option.some.inj h
    exact retI _ _ _ .boolean rfl (isz_t g1) rfl dX4_isHeld_24
  have B23 : ∀ (x1 : Int32) (v : MdV), f_X4_isHeld_B23 x1 v = some R → V K 0 0 (mdW g A v) [(0, .ref A.1), (1, .int x1)] [] 23 := by
    intro x1 v h
    rw [f_X4_isHeld_B23] at h
    refine V_iconst C (0 : Int32) 24 dX4_isHeld_23 rfl rfl ?_
    refine V_lv [0, 1] rfl ?_
    exact B24 _ _ _ h
  show V K 0 0 _ [(0, .ref A.1), (1, .int a1)] [] 0
  unfold f_X4_isHeld at h
  refine V_aload_n C 0 1 dX4_isHeld_0 rfl rfl ?_
  refine V_iload_n C 1 2 dX4_isHeld_1 rfl rfl ?_
  obtain ⟨r2, k3, h⟩ := bd_some h
  refine V_callPs C mls_X4_74 (pre := []) (post := mdW g A v) (w := []) (as := [.int a1]) (rest := [.ref A.1]) (c_X4_isPage k3) 5 dX4_isHeld_2 rfl ⟨Nat.le_of_ble_eq_true rfl, Nat.le_of_ble_eq_true rfl⟩ rfl rfl rfl rfl (Nat.le_of_ble_eq_true rfl) ⟨Nat.zero_le _, Nat.zero_le _⟩ ?_
  obtain ⟨r4, k5, h⟩ := bd_some h
  refine V_callS C hBA ml_X4_49 (pre := []) (post := []) (w0 := mdW g A v) (w1 := mdW g A r4.2) (as := [.int r2]) (rest := []) (c_X4_isFine k5) 0 8 (mdW g A r4.2) dX4_isHeld_5 rfl ⟨Nat.le_of_ble_eq_true rfl, Nat.le_of_ble_eq_true rfl⟩ rfl (rfl) (rfl) rfl rfl rfl rfl (Nat.le_of_ble_eq_true rfl) ⟨Nat.zero_le _, Nat.zero_le _⟩ ?_
  refine V_if_eq C 23 11 dX4_isHeld_8 rfl rfl (fun e6 => ?_) (fun e6 => ?_)
  · have h := (if_pos e6).symm.trans h
    refine V_lv [0, 1] rfl ?_
    exact B23 _ _ h
  · have h := (if_neg e6).symm.trans h
    refine V_aload_n C 0 12 dX4_isHeld_11 rfl rfl ?_
    refine V_iload_n C 1 13 dX4_isHeld_12 rfl rfl ?_
    obtain ⟨r7, k8, h⟩ := bd_some h
    refine V_callP C ml_X4_82 (pre := []) (post := []) (w := mdW g A r4.2) (as := [.int a1]) (rest := []) (c_X4_onPage k8) 0 16 dX4_isHeld_13 rfl ⟨Nat.le_of_ble_eq_true rfl, Nat.le_of_ble_eq_true rfl⟩ rfl (rfl) rfl rfl rfl (Nat.le_of_ble_eq_true rfl) ⟨Nat.zero_le _, Nat.zero_le _⟩ ?_
    refine V_if_lt C 23 19 dX4_isHeld_16 rfl rfl (fun e9 => ?_) (fun e9 => ?_)
    · have h := (if_pos e9).symm.trans h
      refine V_lv [0, 1] rfl ?_
      exact B23 _ _ h
    · have h := (if_neg e9).symm.trans h
      refine V_iconst C (1 : Int32) 20 dX4_isHeld_19 rfl rfl ?_
      refine V_goto C 24 dX4_isHeld_20 rfl ?_
      refine V_lv [0, 1] rfl ?_
      exact B24 _ _ _ h
set_option maxHeartbeats 4000000 in
set_option maxRecDepth 100000 in
theorem c_X4_markOn {l : Launch} {D : va_G} {g : G0} {A : MdA} {v : MdV} {a1 : Int32} {R : (Int32 × MdV)} (h : f_X4_markOn v a1 = some R) : CtS l D g yX4_markOn cX4_markOn 2 (some .int) (rmF 2 44) (mdW g A v) [.ref A.1, .int a1] (some (.int R.1)) (mdW g A R.2) := by
  refine CtS.of (by decide) (Nat.le_of_ble_eq_true rfl) ?_
  intro K C hBA el eD ekn retI retV
  subst el
  subst eD
  have hlt : ∀ i, i < 2 → i < kn K := fun i h => by rw [ekn]; exact h
  show V K 0 0 _ [(0, .ref A.1), (1, .int a1)] [] 0
  unfold f_X4_markOn at h
  refine V_aload_n C 0 1 dX4_markOn_0 rfl rfl ?_
  refine V_iload_n C 1 2 dX4_markOn_1 rfl rfl ?_
  obtain ⟨r1, k2, h⟩ := bd_some h
  refine V_callPs C mls_X4_74 (pre := []) (post := mdW g A v) (w := []) (as := [.int a1]) (rest := [.ref A.1]) (c_X4_isPage k2) 5 dX4_markOn_2 rfl ⟨Nat.le_of_ble_eq_true rfl, Nat.le_of_ble_eq_true rfl⟩ rfl rfl rfl rfl (Nat.le_of_ble_eq_true rfl) ⟨Nat.zero_le _, Nat.zero_le _⟩ ?_
  refine V_aload_n C 0 6 dX4_markOn_5 rfl rfl ?_
  refine V_iload_n C 1 7 dX4_markOn_6 rfl rfl ?_
  obtain ⟨r3, k4, h⟩ := bd_some h
  refine V_callP C ml_X4_82 (pre := []) (post := []) (w := mdW g A v) (as := [.int a1]) (rest := [.int r1, .ref A.1]) (c_X4_onPage k4) 0 10 dX4_markOn_7 rfl ⟨Nat.le_of_ble_eq_true rfl, Nat.le_of_ble_eq_true rfl⟩ rfl (rfl) rfl rfl rfl (Nat.le_of_ble_eq_true rfl) ⟨Nat.zero_le _, Nat.zero_le _⟩ ?_
  obtain ⟨r5, k6, h⟩ := bd_some h
  refine V_callS C hBA ml_X4_149 (pre := []) (post := []) (w0 := mdW g A v) (w1 := mdW g A r5.2) (as := [.int r1, .int r3]) (rest := []) (c_X4_idOr k6) 0 13 (mdW g A r5.2) dX4_markOn_10 rfl ⟨Nat.le_of_ble_eq_true rfl, Nat.le_of_ble_eq_true rfl⟩ rfl (rfl) (rfl) rfl rfl rfl rfl (Nat.le_of_ble_eq_true rfl) ⟨Nat.zero_le _, Nat.zero_le _⟩ ?_
  obtain rfl := Option.some.inj h
  exact retI _ _ _ .int rfl (rfl) rfl dX4_markOn_13
set_option maxHeartbeats 4000000 in
set_option maxRecDepth 100000 in
theorem c_X4_nearest {l : Launch} {D : va_G} {g : G0} {A : MdA} {v : MdV} {a1 a2 : Int32} {R : Int32} (h : f_X4_nearest v a1 a2 = some R) : CtP l D g yX4_nearest cX4_nearest 7 (some .int) (rmF 2 44) (mdW g A v) [.ref A.1, .int a1, .int a2] (some (.int R)) := by
  refine CtP.of (by decide) rfl rfl (Nat.le_of_ble_eq_true rfl) ?_
  intro K C el eD ekn retI
  subst el
  subst eD
  have hlt : ∀ i, i < 7 → i < kn K := fun i h => by rw [ekn]; exact h
  have B87 : ∀ (J : Int32 → Int32 → Int32 → Int32 → Int32 → Option Int32) (hJ : ∀ (x1 : Int32) (x2 : Int32) (x3 : Int32) (x4 : Int32) (x5 : Int32), J x1 x2 x3 x4 x5 = some R → V K 0 0 (mdW g A v) [(0, .ref A.1), (1, .int x1), (2, .int x2), (3, .int x3), (4, .int x4), (5, .int x5)] [] 10) (x1 : Int32) (x2 : Int32) (x3 : Int32) (x4 : Int32) (x5 : Int32) (x6 : Int32), f_X4_nearest_B87 J v x1 x2 x3 x4 x5 x6 = some R → V K 0 0 (mdW g A v) [(0, .ref A.1), (1, .int x1), (2, .int x2), (3, .int x3), (4, .int x4), (5, .int x5), (6, .int x6)] [] 87 := by
    intro J hJ x1 x2 x3 x4 x5 x6 h
    rw [f_X4_nearest_B87] at h
    refine V_iinc C 5 (x5 + (1 : Int32)) 90 [(5, .int (x5 + (1 : Int32))), (0, .ref A.1), (1, .int x1), (2, .int x2), (3, .int x3), (4, .int x4), (6, .int x6)] dX4_nearest_87 rfl rfl rfl (hlt 5 (by decide)) rfl ?_
    refine V_goto C 10 dX4_nearest_90 rfl ?_
    refine V_lv [1, 2, 3, 4, 5, 0] rfl ?_
    exact hJ _ _ _ _ _ h
  have B66 : ∀ (J : Int32 → Int32 → Int32 → Int32 → Int32 → Option Int32) (hJ : ∀ (x1 : Int32) (x2 : Int32) (x3 : Int32) (x4 : Int32) (x5 : Int32), J x1 x2 x3 x4 x5 = some R → V K 0 0 (mdW g A v) [(0, .ref A.1), (1, .int x1), (2, .int x2), (3, .int x3), (4, .int x4), (5, .int x5)] [] 10) (x1 : Int32) (x2 : Int32) (x3 : Int32) (x4 : Int32) (x5 : Int32) (x6 : Int32), f_X4_nearest_B66 J v x1 x2 x3 x4 x5 x6 = some R → V K 0 0 (mdW g A v) [(0, .ref A.1), (1, .int x1), (2, .int x2), (3, .int x3), (4, .int x4), (5, .int x5), (6, .int x6)] [] 66 := by
    intro J hJ x1 x2 x3 x4 x5 x6 h
    rw [f_X4_nearest_B66] at h
    refine V_iload C 6 68 dX4_nearest_66 rfl rfl ?_
    refine V_iload C 4 70 dX4_nearest_68 rfl rfl ?_
    refine V_icmp_lt C 76 73 dX4_nearest_70 rfl rfl (fun e1 => ?_) (fun e1 => ?_)
    · have h := (if_pos e1).symm.trans h
      refine V_aload_n C 0 77 dX4_nearest_76 rfl rfl ?_
      refine V_iload C 5 79 dX4_nearest_77 rfl rfl ?_
      obtain ⟨r2, k3, h⟩ := bd_some h
      refine V_callP C ml_X4_82 (pre := []) (post := []) (w := mdW g A v) (as := [.int x5]) (rest := []) (c_X4_onPage k3) 0 82 dX4_nearest_79 rfl ⟨Nat.le_of_ble_eq_true rfl, Nat.le_of_ble_eq_true rfl⟩ rfl (rfl) rfl rfl rfl (Nat.le_of_ble_eq_true rfl) ⟨Nat.zero_le _, Nat.zero_le _⟩ ?_
      refine V_istore_n C 83 [(3, .int r2), (0, .ref A.1), (1, .int x1), (2, .int x2), (4, .int x4), (5, .int x5), (6, .int x6)] dX4_nearest_82 rfl (hlt 3 (by decide)) rfl ?_
      refine V_iload C 6 85 dX4_nearest_83 rfl rfl ?_
      refine V_istore C 87 [(4, .int x6), (3, .int r2), (0, .ref A.1), (1, .int x1), (2, .int x2), (5, .int x5), (6, .int x6)] dX4_nearest_85 rfl (hlt 4 (by decide)) rfl ?_
      refine V_lv [2, 3, 4, 1, 0, 5, 6] rfl ?_
      exact B87 J hJ _ _ _ _ _ _ h
    · have h := (if_neg e1).symm.trans h
      refine V_goto C 87 dX4_nearest_73 rfl ?_
      refine V_lv [0, 1, 2, 3, 4, 5, 6] rfl ?_
      exact B87 J hJ _ _ _ _ _ _ h
  have B55 : ∀ (J : Int32 → Int32 → Int32 → Int32 → Int32 → Option Int32) (hJ : ∀ (x1 : Int32) (x2 : Int32) (x3 : Int32) (x4 : Int32) (x5 : Int32), J x1 x2 x3 x4 x5 = some R → V K 0 0 (mdW g A v) [(0, .ref A.1), (1, .int x1), (2, .int x2), (3, .int x3), (4, .int x4), (5, .int x5)] [] 10) (x1 : Int32) (x2 : Int32) (x3 : Int32) (x4 : Int32) (x5 : Int32) (x6 : Int32), f_X4_nearest_B55 J v x1 x2 x3 x4 x5 x6 = some R → V K 0 0 (mdW g A v) [(0, .ref A.1), (1, .int x1), (2, .int x2), (3, .int x3), (4, .int x4), (5, .int x5), (6, .int x6)] [] 55 := by
    intro J hJ x1 x2 x3 x4 x5 x6 h
    rw [f_X4_nearest_B55] at h
    refine V_iload_n C 2 56 dX4_nearest_55 rfl rfl ?_
    refine V_iconst C (1 : Int32) 57 dX4_nearest_56 rfl rfl ?_
    refine V_icmp_ne C 66 60 dX4_nearest_57 rfl rfl (fun e4 => ?_) (fun e4 => ?_)
    · have h := (if_neg e4).symm.trans h
      refine V_lv [0, 1, 2, 3, 4, 5, 6] rfl ?_
      exact B66 J hJ _ _ _ _ _ _ h
    · have h := (if_pos e4).symm.trans h
      refine V_iload C 5 62 dX4_nearest_60 rfl rfl ?_
      refine V_iload_n C 1 63 dX4_nearest_62 rfl rfl ?_
      refine V_icmp_gt C 87 66 dX4_nearest_63 rfl rfl (fun e5 => ?_) (fun e5 => ?_)
      · have h := (if_pos e5).symm.trans h
        refine V_lv [0, 1, 2, 3, 4, 5, 6] rfl ?_
        exact B87 J hJ _ _ _ _ _ _ h
      · have h := (if_neg e5).symm.trans h
        refine V_lv [0, 1, 2, 3, 4, 5, 6] rfl ?_
        exact B66 J hJ _ _ _ _ _ _ h
  have B34 : ∀ (J : Int32 → Int32 → Int32 → Int32 → Int32 → Option Int32) (hJ : ∀ (x1 : Int32) (x2 : Int32) (x3 : Int32) (x4 : Int32) (x5 : Int32), J x1 x2 x3 x4 x5 = some R → V K 0 0 (mdW g A v) [(0, .ref A.1), (1, .int x1), (2, .int x2), (3, .int x3), (4, .int x4), (5, .int x5)] [] 10) (x1 : Int32) (x2 : Int32) (x3 : Int32) (x4 : Int32) (x5 : Int32) (s0 : Int32), f_X4_nearest_B34 J v x1 x2 x3 x4 x5 s0 = some R → V K 0 0 (mdW g A v) [(0, .ref A.1), (1, .int x1), (2, .int x2), (3, .int x3), (4, .int x4), (5, .int x5)] [.int s0] 34 := by
    intro J hJ x1 x2 x3 x4 x5 s0 h
    rw [f_X4_nearest_B34] at h
    refine V_istore C 36 [(6, .int s0), (0, .ref A.1), (1, .int x1), (2, .int x2), (3, .int x3), (4, .int x4), (5, .int x5)] dX4_nearest_34 rfl (hlt 6 (by decide)) rfl ?_
    refine V_aload_n C 1 37 dX4_nearest_36 rfl rfl ?_
    refine V_iload C 6 39 dX4_nearest_37 rfl rfl ?_
    obtain ⟨r6, k7, h⟩ := bd_some h
    refine V_callP C ml_X4_82 (pre := []) (post := []) (w := mdW g A v) (as := [.int x5]) (rest := []) (c_X4_onPage k7) 0 42 dX4_nearest_39 rfl ⟨Nat.le_of_ble_eq_true rfl, Nat.le_of_ble_eq_true rfl⟩ rfl (rfl) rfl rfl rfl (Nat.le_of_ble_eq_true rfl) ⟨Nat.zero_le _, Nat.zero_le _⟩ ?_
    refine V_if_lt C 87 45 dX4_nearest_42 rfl rfl (fun e8 => ?_) (fun e8 => ?_)
    · have h := (if_pos e8).symm.trans h
      refine V_lv [1, 2, 3, 4, 5, 6, 0] rfl ?_
      exact B87 J hJ _ _ _ _ _ _ h
    · have h := (if_neg e8).symm.trans h
      refine V_iload_n C 3 46 dX4_nearest_45 rfl rfl ?_
      refine V_if_ne C 55 49 dX4_nearest_46 rfl rfl (fun e9 => ?_) (fun e9 => ?_)
      · have h := (if_neg e9).symm.trans h
        refine V_lv [1, 2, 3, 4, 5, 6, 0] rfl ?_
        exact B55 J hJ _ _ _ _ _ _ h
      · have h := (if_pos e9).symm.trans h
        refine V_iload C 6 51 dX4_nearest_49 rfl rfl ?_
        refine V_iload_n C 2 52 dX4_nearest_51 rfl rfl ?_
        refine V_icmp_lt C 87 55 dX4_nearest_52 rfl rfl (fun e10 => ?_) (fun e10 => ?_)
        · have h := (if_pos e10).symm.trans h
          refine V_lv [1, 2, 3, 4, 5, 6, 0] rfl ?_
          exact B87 J hJ _ _ _ _ _ _ h
        · have h := (if_neg e10).symm.trans h
          refine V_lv [1, 2, 3, 4, 5, 6, 0] rfl ?_
          exact B55 J hJ _ _ _ _ _ _ h
  have L10 : ∀ (n : Nat) (x1 : Int32) (x2 : Int32) (x3 : Int32) (x4 : Int32) (x5 : Int32), f_X4_nearest_L10 v n x1 x2 x3 x4 x5 = some R → V K 0 0 (mdW g A v) [(0, .ref A.1), (1, .int x1), (2, .int x2), (3, .int x3), (4, .int x4), (5, .int x5)] [] 10 := by
    intro n
    induction n with
    | zero =>
      intro x1 x2 x3 x4 x5 h
      rw [f_X4_nearest_L10] at h
      cases h
    | succ n ih =>
      intro x1 x2 x3 x4 x5 h
      rw [f_X4_nearest_L10] at h
      refine V_iload C 5 12 dX4_nearest_10 rfl rfl ?_
      refine V_bipush C (60 : Int32) 14 dX4_nearest_12 rfl rfl ?_
      refine V_icmp_ge C 93 17 dX4_nearest_14 rfl rfl (fun e11 => ?_) (fun e11 => ?_)
      · have h := (if_pos e11).symm.trans h
        refine V_iload_n C 3 94 dX4_nearest_93 rfl rfl ?_
        obtain rfl := Option.some.inj h
        exact retI _ _ _ .int rfl (rfl) rfl dX4_nearest_94
      · have h := (if_neg e11).symm.trans h
        refine V_iload C 5 19 dX4_nearest_17 rfl rfl ?_
        refine V_iload_n C 1 20 dX4_nearest_19 rfl rfl ?_
        refine V_icmp_ge C 30 23 dX4_nearest_20 rfl rfl (fun e12 => ?_) (fun e12 => ?_)
        · have h := (if_pos e12).symm.trans h
          refine V_iload C 5 32 dX4_nearest_30 rfl rfl ?_
          refine V_iload_n C 1 33 dX4_nearest_32 rfl rfl ?_
          refine V_isub C 34 dX4_nearest_33 rfl ?_
          refine V_lv [0, 1, 2, 3, 4, 5] rfl ?_
          exact B34 (f_X4_nearest_L10 v n) ih _ _ _ _ _ _ h
        · have h := (if_neg e12).symm.trans h
          refine V_iload_n C 1 24 dX4_nearest_23 rfl rfl ?_
          refine V_iload C 5 26 dX4_nearest_24 rfl rfl ?_
          refine V_isub C 27 dX4_nearest_26 rfl ?_
          refine V_goto C 34 dX4_nearest_27 rfl ?_
          refine V_lv [0, 1, 2, 3, 4, 5] rfl ?_
          exact B34 (f_X4_nearest_L10 v n) ih _ _ _ _ _ _ h
  show V K 0 0 _ [(0, .ref A.1), (1, .int a1), (2, .int a2)] [] 0
  unfold f_X4_nearest at h
  refine V_iconst C (-1 : Int32) 1 dX4_nearest_0 rfl rfl ?_
  refine V_istore_n C 2 [(3, .int (-1 : Int32)), (0, .ref A.1), (1, .int a1), (2, .int a2)] dX4_nearest_1 rfl (hlt 3 (by decide)) rfl ?_
  refine V_sipush C (1000 : Int32) 5 dX4_nearest_2 rfl rfl ?_
  refine V_istore C 7 [(4, .int (1000 : Int32)), (3, .int (-1 : Int32)), (0, .ref A.1), (1, .int a1), (2, .int a2)] dX4_nearest_5 rfl (hlt 4 (by decide)) rfl ?_
  refine V_iconst C (0 : Int32) 8 dX4_nearest_7 rfl rfl ?_
  refine V_istore C 10 [(5, .int (0 : Int32)), (4, .int (1000 : Int32)), (3, .int (-1 : Int32)), (0, .ref A.1), (1, .int a1), (2, .int a2)] dX4_nearest_8 rfl (hlt 5 (by decide)) rfl ?_
  refine V_lv [3, 4, 5, 2, 1, 0] rfl ?_
  exact L10 100 _ _ _ _ _ h
set_option maxHeartbeats 4000000 in
set_option maxRecDepth 100000 in
theorem c_X4_nextMark {l : Launch} {D : va_G} {g : G0} {A : MdA} {v : MdV} {a1 : Int32} {R : (Int32 × MdV)} (h : f_X4_nextMark v a1 = some R) : CtS l D g yX4_nextMark cX4_nextMark 2 (some .int) (rmF 3 70) (mdW g A v) [.ref A.1, .int a1] (some (.int R.1)) (mdW g A R.2) := by
  refine CtS.of (by decide) (Nat.le_of_ble_eq_true rfl) ?_
  intro K C hBA el eD ekn retI retV
  subst el
  subst eD
  have hlt : ∀ i, i < 2 → i < kn K := fun i h => by rw [ekn]; exact h
  show V K 0 0 _ [(0, .ref A.1), (1, .int a1)] [] 0
  unfold f_X4_nextMark at h
  refine V_aload_n C 0 1 dX4_nextMark_0 rfl rfl ?_
  refine V_iload_n C 1 2 dX4_nextMark_1 rfl rfl ?_
  obtain ⟨r1, k2, h⟩ := bd_some h
  refine V_callPs C mls_X4_74 (pre := []) (post := mdW g A v) (w := []) (as := [.int a1]) (rest := [.ref A.1]) (c_X4_isPage k2) 5 dX4_nextMark_2 rfl ⟨Nat.le_of_ble_eq_true rfl, Nat.le_of_ble_eq_true rfl⟩ rfl rfl rfl rfl (Nat.le_of_ble_eq_true rfl) ⟨Nat.zero_le _, Nat.zero_le _⟩ ?_
  refine V_aload_n C 0 6 dX4_nextMark_5 rfl rfl ?_
  refine V_iload_n C 1 7 dX4_nextMark_6 rfl rfl ?_
  refine V_iconst C (0 : Int32) 8 dX4_nextMark_7 rfl rfl ?_
  obtain ⟨r3, k4, h⟩ := bd_some h
  refine V_callP C ml_X4_153 (pre := []) (post := []) (w := mdW g A v) (as := [.int a1, .int (0 : Int32)]) (rest := [.int r1, .ref A.1]) (c_X4_nearest k4) 0 11 dX4_nextMark_8 rfl ⟨Nat.le_of_ble_eq_true rfl, Nat.le_of_ble_eq_true rfl⟩ rfl (rfl) rfl rfl rfl (Nat.le_of_ble_eq_true rfl) ⟨Nat.zero_le _, Nat.zero_le _⟩ ?_
  obtain ⟨r5, k6, h⟩ := bd_some h
  refine V_callS C hBA ml_X4_149 (pre := []) (post := []) (w0 := mdW g A v) (w1 := mdW g A r5.2) (as := [.int r1, .int r3]) (rest := []) (c_X4_idOr k6) 0 14 (mdW g A r5.2) dX4_nextMark_11 rfl ⟨Nat.le_of_ble_eq_true rfl, Nat.le_of_ble_eq_true rfl⟩ rfl (rfl) (rfl) rfl rfl rfl rfl (Nat.le_of_ble_eq_true rfl) ⟨Nat.zero_le _, Nat.zero_le _⟩ ?_
  obtain rfl := Option.some.inj h
  exact retI _ _ _ .int rfl (rfl) rfl dX4_nextMark_14
set_option maxHeartbeats 4000000 in
set_option maxRecDepth 100000 in
theorem c_X4_previousMark {l : Launch} {D : va_G} {g : G0} {A : MdA} {v : MdV} {a1 : Int32} {R : (Int32 × MdV)} (h : f_X4_previousMark v a1 = some R) : CtS l D g yX4_previousMark cX4_previousMark 2 (some .int) (rmF 3 70) (mdW g A v) [.ref A.1, .int a1] (some (.int R.1)) (mdW g A R.2) := by
  refine CtS.of (by decide) (Nat.le_of_ble_eq_true rfl) ?_
  intro K C hBA el eD ekn retI retV
  subst el
  subst eD
  have hlt : ∀ i, i < 2 → i < kn K := fun i h => by rw [ekn]; exact h
  show V K 0 0 _ [(0, .ref A.1), (1, .int a1)] [] 0
  unfold f_X4_previousMark at h
  refine V_aload_n C 0 1 dX4_previousMark_0 rfl rfl ?_
  refine V_iload_n C 1 2 dX4_previousMark_1 rfl rfl ?_
  obtain ⟨r1, k2, h⟩ := bd_some h
  refine V_callPs C mls_X4_74 (pre := []) (post := mdW g A v) (w := []) (as := [.int a1]) (rest := [.ref A.1]) (c_X4_isPage k2) 5 dX4_previousMark_2 rfl ⟨Nat.le_of_ble_eq_true rfl, Nat.le_of_ble_eq_true rfl⟩ rfl rfl rfl rfl (Nat.le_of_ble_eq_true rfl) ⟨Nat.zero_le _, Nat.zero_le _⟩ ?_
  refine V_aload_n C 0 6 dX4_previousMark_5 rfl rfl ?_
  refine V_iload_n C 1 7 dX4_previousMark_6 rfl rfl ?_
  refine V_iconst C (1 : Int32) 8 dX4_previousMark_7 rfl rfl ?_
  obtain ⟨r3, k4, h⟩ := bd_some h
  refine V_callP C ml_X4_153 (pre := []) (post := []) (w := mdW g A v) (as := [.int a1, .int (1 : Int32)]) (rest := [.int r1, .ref A.1]) (c_X4_nearest k4) 0 11 dX4_previousMark_8 rfl ⟨Nat.le_of_ble_eq_true rfl, Nat.le_of_ble_eq_true rfl⟩ rfl (rfl) rfl rfl rfl (Nat.le_of_ble_eq_true rfl) ⟨Nat.zero_le _, Nat.zero_le _⟩ ?_
  obtain ⟨r5, k6, h⟩ := bd_some h
  refine V_callS C hBA ml_X4_149 (pre := []) (post := []) (w0 := mdW g A v) (w1 := mdW g A r5.2) (as := [.int r1, .int r3]) (rest := []) (c_X4_idOr k6) 0 14 (mdW g A r5.2) dX4_previousMark_11 rfl ⟨Nat.le_of_ble_eq_true rfl, Nat.le_of_ble_eq_true rfl⟩ rfl (rfl) (rfl) rfl rfl rfl rfl (Nat.le_of_ble_eq_true rfl) ⟨Nat.zero_le _, Nat.zero_le _⟩ ?_
  obtain rfl := Option.some.inj h
  exact retI _ _ _ .int rfl (rfl) rfl dX4_previousMark_14
set_option maxHeartbeats 4000000 in
set_option maxRecDepth 100000 in
theorem c_X4_nearestMark {l : Launch} {D : va_G} {g : G0} {A : MdA} {v : MdV} {a1 : Int32} {R : (Int32 × MdV)} (h : f_X4_nearestMark v a1 = some R) : CtS l D g yX4_nearestMark cX4_nearestMark 2 (some .int) (rmF 3 70) (mdW g A v) [.ref A.1, .int a1] (some (.int R.1)) (mdW g A R.2) := by
  refine CtS.of (by decide) (Nat.le_of_ble_eq_true rfl) ?_
  intro K C hBA el eD ekn retI retV
  subst el
  subst eD
  have hlt : ∀ i, i < 2 → i < kn K := fun i h => by rw [ekn]; exact h
  show V K 0 0 _ [(0, .ref A.1), (1, .int a1)] [] 0
  unfold f_X4_nearestMark at h
  refine V_aload_n C 0 1 dX4_nearestMark_0 rfl rfl ?_
  refine V_iload_n C 1 2 dX4_nearestMark_1 rfl rfl ?_
  obtain ⟨r1, k2, h⟩ := bd_some h
  refine V_callPs C mls_X4_74 (pre := []) (post := mdW g A v) (w := []) (as := [.int a1]) (rest := [.ref A.1]) (c_X4_isPage k2) 5 dX4_nearestMark_2 rfl ⟨Nat.le_of_ble_eq_true rfl, Nat.le_of_ble_eq_true rfl⟩ rfl rfl rfl rfl (Nat.le_of_ble_eq_true rfl) ⟨Nat.zero_le _, Nat.zero_le _⟩ ?_
  refine V_aload_n C 0 6 dX4_nearestMark_5 rfl rfl ?_
  refine V_iload_n C 1 7 dX4_nearestMark_6 rfl rfl ?_
  refine V_iconst C (2 : Int32) 8 dX4_nearestMark_7 rfl rfl ?_
  obtain ⟨r3, k4, h⟩ := bd_some h
  refine V_callP C ml_X4_153 (pre := []) (post := []) (w := mdW g A v) (as := [.int a1, .int (2 : Int32)]) (rest := [.int r1, .ref A.1]) (c_X4_nearest k4) 0 11 dX4_nearestMark_8 rfl ⟨Nat.le_of_ble_eq_true rfl, Nat.le_of_ble_eq_true rfl⟩ rfl (rfl) rfl rfl rfl (Nat.le_of_ble_eq_true rfl) ⟨Nat.zero_le _, Nat.zero_le _⟩ ?_
  obtain ⟨r5, k6, h⟩ := bd_some h
  refine V_callS C hBA ml_X4_149 (pre := []) (post := []) (w0 := mdW g A v) (w1 := mdW g A r5.2) (as := [.int r1, .int r3]) (rest := []) (c_X4_idOr k6) 0 14 (mdW g A r5.2) dX4_nearestMark_11 rfl ⟨Nat.le_of_ble_eq_true rfl, Nat.le_of_ble_eq_true rfl⟩ rfl (rfl) (rfl) rfl rfl rfl rfl (Nat.le_of_ble_eq_true rfl) ⟨Nat.zero_le _, Nat.zero_le _⟩ ?_
  obtain rfl := Option.some.inj h
  exact retI _ _ _ .int rfl (rfl) rfl dX4_nearestMark_14
set_option maxHeartbeats 4000000 in
set_option maxRecDepth 100000 in
theorem c_X4_chapterOf {l : Launch} {D : va_G} {g : G0} {A : MdA} {v : MdV} {a1 : Int32} {R : (Int32 × MdV)} (h : f_X4_chapterOf v a1 = some R) : CtS l D g yX4_chapterOf cX4_chapterOf 2 (some .int) (rmF 2 42) (mdW g A v) [.ref A.1, .int a1] (some (.int R.1)) (mdW g A R.2) := by
  refine CtS.of (by decide) (Nat.le_of_ble_eq_true rfl) ?_
  intro K C hBA el eD ekn retI retV
  subst el
  subst eD
  have hlt : ∀ i, i < 2 → i < kn K := fun i h => by rw [ekn]; exact h
  have B20 : ∀ (x1 : Int32) (s0 : Int32) (v : MdV), f_X4_chapterOf_B20 x1 s0 v = some R → V K 0 0 (mdW g A v) [(0, .ref A.1), (1, .int x1)] [.int s0] 20 := by
    intro x1 s0 v h
    rw [f_X4_chapterOf_B20] at h
    obtain rfl := Option.some.inj h
    exact retI _ _ _ .int rfl (rfl) rfl dX4_chapterOf_20
  show V K 0 0 _ [(0, .ref A.1), (1, .int a1)] [] 0
  unfold f_X4_chapterOf at h
  refine V_aload_n C 0 1 dX4_chapterOf_0 rfl rfl ?_
  refine V_iload_n C 1 2 dX4_chapterOf_1 rfl rfl ?_
  obtain ⟨r1, k2, h⟩ := bd_some h
  refine V_callPs C mls_X4_74 (pre := []) (post := mdW g A v) (w := []) (as := [.int a1]) (rest := [.ref A.1]) (c_X4_isPage k2) 5 dX4_chapterOf_2 rfl ⟨Nat.le_of_ble_eq_true rfl, Nat.le_of_ble_eq_true rfl⟩ rfl rfl rfl rfl (Nat.le_of_ble_eq_true rfl) ⟨Nat.zero_le _, Nat.zero_le _⟩ ?_
  obtain ⟨r3, k4, h⟩ := bd_some h
  refine V_callS C hBA ml_X4_49 (pre := []) (post := []) (w0 := mdW g A v) (w1 := mdW g A r3.2) (as := [.int r1]) (rest := []) (c_X4_isFine k4) 0 8 (mdW g A r3.2) dX4_chapterOf_5 rfl ⟨Nat.le_of_ble_eq_true rfl, Nat.le_of_ble_eq_true rfl⟩ rfl (rfl) (rfl) rfl rfl rfl rfl (Nat.le_of_ble_eq_true rfl) ⟨Nat.zero_le _, Nat.zero_le _⟩ ?_
  refine V_if_eq C 19 11 dX4_chapterOf_8 rfl rfl (fun e5 => ?_) (fun e5 => ?_)
  · have h := (if_pos e5).symm.trans h
    refine V_iconst C (0 : Int32) 20 dX4_chapterOf_19 rfl rfl ?_
    refine V_lv [0, 1] rfl ?_
    exact B20 _ _ _ h
  · have h := (if_neg e5).symm.trans h
    refine V_aload_n C 0 12 dX4_chapterOf_11 rfl rfl ?_
    refine V_iload_n C 1 13 dX4_chapterOf_12 rfl rfl ?_
    obtain ⟨r6, k7, h⟩ := bd_some h
    refine V_callP C ml_X4_61 (pre := []) (post := []) (w := mdW g A r3.2) (as := [.int a1]) (rest := []) (c_X4_chapterAt k7) 0 16 dX4_chapterOf_13 rfl ⟨Nat.le_of_ble_eq_true rfl, Nat.le_of_ble_eq_true rfl⟩ rfl (rfl) rfl rfl rfl (Nat.le_of_ble_eq_true rfl) ⟨Nat.zero_le _, Nat.zero_le _⟩ ?_
    refine V_goto C 20 dX4_chapterOf_16 rfl ?_
    refine V_lv [0, 1] rfl ?_
    exact B20 _ _ _ h
set_option maxHeartbeats 4000000 in
set_option maxRecDepth 100000 in
theorem c_X4_firstPage {l : Launch} {D : va_G} {g : G0} {A : MdA} {v : MdV} {a1 : Int32} {R : (Int32 × MdV)} (h : f_X4_firstPage v a1 = some R) : CtS l D g yX4_firstPage cX4_firstPage 2 (some .int) (rmF 2 43) (mdW g A v) [.ref A.1, .int a1] (some (.int R.1)) (mdW g A R.2) := by
  refine CtS.of (by decide) (Nat.le_of_ble_eq_true rfl) ?_
  intro K C hBA el eD ekn retI retV
  subst el
  subst eD
  have hlt : ∀ i, i < 2 → i < kn K := fun i h => by rw [ekn]; exact h
  have B21 : ∀ (x1 : Int32) (s0 : Int32) (v : MdV), f_X4_firstPage_B21 x1 s0 v = some R → V K 0 0 (mdW g A v) [(0, .ref A.1), (1, .int x1)] [.int s0] 21 := by
    intro x1 s0 v h
    rw [f_X4_firstPage_B21] at h
    obtain rfl := Option.some.inj h
    exact retI _ _ _ .int rfl (rfl) rfl dX4_firstPage_21
  show V K 0 0 _ [(0, .ref A.1), (1, .int a1)] [] 0
  unfold f_X4_firstPage at h
  refine V_aload_n C 0 1 dX4_firstPage_0 rfl rfl ?_
  refine V_aload_n C 0 2 dX4_firstPage_1 rfl rfl ?_
  refine V_iload_n C 1 3 dX4_firstPage_2 rfl rfl ?_
  obtain ⟨r1, k2, h⟩ := bd_some h
  refine V_callP C ml_X4_129 (pre := []) (post := []) (w := mdW g A v) (as := [.int a1]) (rest := [.ref A.1]) (c_X4_isChapter k2) 0 6 dX4_firstPage_3 rfl ⟨Nat.le_of_ble_eq_true rfl, Nat.le_of_ble_eq_true rfl⟩ rfl (rfl) rfl rfl rfl (Nat.le_of_ble_eq_true rfl) ⟨Nat.zero_le _, Nat.zero_le _⟩ ?_
  obtain ⟨r3, k4, h⟩ := bd_some h
  refine V_callS C hBA ml_X4_49 (pre := []) (post := []) (w0 := mdW g A v) (w1 := mdW g A r3.2) (as := [.int r1]) (rest := []) (c_X4_isFine k4) 0 9 (mdW g A r3.2) dX4_firstPage_6 rfl ⟨Nat.le_of_ble_eq_true rfl, Nat.le_of_ble_eq_true rfl⟩ rfl (rfl) (rfl) rfl rfl rfl rfl (Nat.le_of_ble_eq_true rfl) ⟨Nat.zero_le _, Nat.zero_le _⟩ ?_
  refine V_if_eq C 20 12 dX4_firstPage_9 rfl rfl (fun e5 => ?_) (fun e5 => ?_)
  · have h := (if_pos e5).symm.trans h
    refine V_iconst C (0 : Int32) 21 dX4_firstPage_20 rfl rfl ?_
    refine V_lv [0, 1] rfl ?_
    exact B21 _ _ _ h
  · have h := (if_neg e5).symm.trans h
    refine V_aload_n C 0 13 dX4_firstPage_12 rfl rfl ?_
    refine V_iload_n C 1 14 dX4_firstPage_13 rfl rfl ?_
    obtain ⟨r6, k7, h⟩ := bd_some h
    refine V_callP C ml_X4_123 (pre := []) (post := []) (w := mdW g A r3.2) (as := [.int a1]) (rest := []) (c_X4_first k7) 0 17 dX4_firstPage_14 rfl ⟨Nat.le_of_ble_eq_true rfl, Nat.le_of_ble_eq_true rfl⟩ rfl (rfl) rfl rfl rfl (Nat.le_of_ble_eq_true rfl) ⟨Nat.zero_le _, Nat.zero_le _⟩ ?_
    refine V_goto C 21 dX4_firstPage_17 rfl ?_
    refine V_lv [0, 1] rfl ?_
    exact B21 _ _ _ h
set_option maxHeartbeats 4000000 in
set_option maxRecDepth 100000 in
theorem c_X4_lastPage {l : Launch} {D : va_G} {g : G0} {A : MdA} {v : MdV} {a1 : Int32} {R : (Int32 × MdV)} (h : f_X4_lastPage v a1 = some R) : CtS l D g yX4_lastPage cX4_lastPage 2 (some .int) (rmF 2 43) (mdW g A v) [.ref A.1, .int a1] (some (.int R.1)) (mdW g A R.2) := by
  refine CtS.of (by decide) (Nat.le_of_ble_eq_true rfl) ?_
  intro K C hBA el eD ekn retI retV
  subst el
  subst eD
  have hlt : ∀ i, i < 2 → i < kn K := fun i h => by rw [ekn]; exact h
  have B21 : ∀ (x1 : Int32) (s0 : Int32) (v : MdV), f_X4_lastPage_B21 x1 s0 v = some R → V K 0 0 (mdW g A v) [(0, .ref A.1), (1, .int x1)] [.int s0] 21 := by
    intro x1 s0 v h
    rw [f_X4_lastPage_B21] at h
    obtain rfl := Option.some.inj h
    exact retI _ _ _ .int rfl (rfl) rfl dX4_lastPage_21
  show V K 0 0 _ [(0, .ref A.1), (1, .int a1)] [] 0
  unfold f_X4_lastPage at h
  refine V_aload_n C 0 1 dX4_lastPage_0 rfl rfl ?_
  refine V_aload_n C 0 2 dX4_lastPage_1 rfl rfl ?_
  refine V_iload_n C 1 3 dX4_lastPage_2 rfl rfl ?_
  obtain ⟨r1, k2, h⟩ := bd_some h
  refine V_callP C ml_X4_129 (pre := []) (post := []) (w := mdW g A v) (as := [.int a1]) (rest := [.ref A.1]) (c_X4_isChapter k2) 0 6 dX4_lastPage_3 rfl ⟨Nat.le_of_ble_eq_true rfl, Nat.le_of_ble_eq_true rfl⟩ rfl (rfl) rfl rfl rfl (Nat.le_of_ble_eq_true rfl) ⟨Nat.zero_le _, Nat.zero_le _⟩ ?_
  obtain ⟨r3, k4, h⟩ := bd_some h
  refine V_callS C hBA ml_X4_49 (pre := []) (post := []) (w0 := mdW g A v) (w1 := mdW g A r3.2) (as := [.int r1]) (rest := []) (c_X4_isFine k4) 0 9 (mdW g A r3.2) dX4_lastPage_6 rfl ⟨Nat.le_of_ble_eq_true rfl, Nat.le_of_ble_eq_true rfl⟩ rfl (rfl) (rfl) rfl rfl rfl rfl (Nat.le_of_ble_eq_true rfl) ⟨Nat.zero_le _, Nat.zero_le _⟩ ?_
  refine V_if_eq C 20 12 dX4_lastPage_9 rfl rfl (fun e5 => ?_) (fun e5 => ?_)
  · have h := (if_pos e5).symm.trans h
    refine V_iconst C (0 : Int32) 21 dX4_lastPage_20 rfl rfl ?_
    refine V_lv [0, 1] rfl ?_
    exact B21 _ _ _ h
  · have h := (if_neg e5).symm.trans h
    refine V_aload_n C 0 13 dX4_lastPage_12 rfl rfl ?_
    refine V_iload_n C 1 14 dX4_lastPage_13 rfl rfl ?_
    obtain ⟨r6, k7, h⟩ := bd_some h
    refine V_callP C ml_X4_156 (pre := []) (post := []) (w := mdW g A r3.2) (as := [.int a1]) (rest := []) (c_X4_last k7) 0 17 dX4_lastPage_14 rfl ⟨Nat.le_of_ble_eq_true rfl, Nat.le_of_ble_eq_true rfl⟩ rfl (rfl) rfl rfl rfl (Nat.le_of_ble_eq_true rfl) ⟨Nat.zero_le _, Nat.zero_le _⟩ ?_
    refine V_goto C 21 dX4_lastPage_17 rfl ?_
    refine V_lv [0, 1] rfl ?_
    exact B21 _ _ _ h
set_option maxHeartbeats 4000000 in
set_option maxRecDepth 100000 in
theorem c_X4_heldPages {l : Launch} {D : va_G} {g : G0} {A : MdA} {v : MdV} {a1 : Int32} {R : (Int32 × MdV)} (h : f_X4_heldPages v a1 = some R) : CtS l D g yX4_heldPages cX4_heldPages 2 (some .int) (rmF 2 47) (mdW g A v) [.ref A.1, .int a1] (some (.int R.1)) (mdW g A R.2) := by
  refine CtS.of (by decide) (Nat.le_of_ble_eq_true rfl) ?_
  intro K C hBA el eD ekn retI retV
  subst el
  subst eD
  have hlt : ∀ i, i < 2 → i < kn K := fun i h => by rw [ekn]; exact h
  have B22 : ∀ (x1 : Int32) (s0 : Int32) (v : MdV), f_X4_heldPages_B22 x1 s0 v = some R → V K 0 0 (mdW g A v) [(0, .ref A.1), (1, .int x1)] [.int s0] 22 := by
    intro x1 s0 v h
    rw [f_X4_heldPages_B22] at h
    obtain rfl := Option.some.inj h
    exact retI _ _ _ .int rfl (rfl) rfl dX4_heldPages_22
  show V K 0 0 _ [(0, .ref A.1), (1, .int a1)] [] 0
  unfold f_X4_heldPages at h
  refine V_aload_n C 0 1 dX4_heldPages_0 rfl rfl ?_
  refine V_aload_n C 0 2 dX4_heldPages_1 rfl rfl ?_
  refine V_iload_n C 1 3 dX4_heldPages_2 rfl rfl ?_
  obtain ⟨r1, k2, h⟩ := bd_some h
  refine V_callP C ml_X4_129 (pre := []) (post := []) (w := mdW g A v) (as := [.int a1]) (rest := [.ref A.1]) (c_X4_isChapter k2) 0 6 dX4_heldPages_3 rfl ⟨Nat.le_of_ble_eq_true rfl, Nat.le_of_ble_eq_true rfl⟩ rfl (rfl) rfl rfl rfl (Nat.le_of_ble_eq_true rfl) ⟨Nat.zero_le _, Nat.zero_le _⟩ ?_
  obtain ⟨r3, k4, h⟩ := bd_some h
  refine V_callS C hBA ml_X4_49 (pre := []) (post := []) (w0 := mdW g A v) (w1 := mdW g A r3.2) (as := [.int r1]) (rest := []) (c_X4_isFine k4) 0 9 (mdW g A r3.2) dX4_heldPages_6 rfl ⟨Nat.le_of_ble_eq_true rfl, Nat.le_of_ble_eq_true rfl⟩ rfl (rfl) (rfl) rfl rfl rfl rfl (Nat.le_of_ble_eq_true rfl) ⟨Nat.zero_le _, Nat.zero_le _⟩ ?_
  refine V_if_eq C 21 12 dX4_heldPages_9 rfl rfl (fun e5 => ?_) (fun e5 => ?_)
  · have h := (if_pos e5).symm.trans h
    refine V_iconst C (0 : Int32) 22 dX4_heldPages_21 rfl rfl ?_
    refine V_lv [0, 1] rfl ?_
    exact B22 _ _ _ h
  · have h := (if_neg e5).symm.trans h
    refine V_aload_n C 0 13 dX4_heldPages_12 rfl rfl ?_
    refine V_iload_n C 1 14 dX4_heldPages_13 rfl rfl ?_
    refine V_iconst C (0 : Int32) 15 dX4_heldPages_14 rfl rfl ?_
    obtain ⟨r6, k7, h⟩ := bd_some h
    refine V_callP C ml_X4_159 (pre := []) (post := []) (w := mdW g A r3.2) (as := [.int a1, .int (0 : Int32)]) (rest := []) (c_X4_ofChapter k7) 0 18 dX4_heldPages_15 rfl ⟨Nat.le_of_ble_eq_true rfl, Nat.le_of_ble_eq_true rfl⟩ rfl (rfl) rfl rfl rfl (Nat.le_of_ble_eq_true rfl) ⟨Nat.zero_le _, Nat.zero_le _⟩ ?_
    refine V_goto C 22 dX4_heldPages_18 rfl ?_
    refine V_lv [0, 1] rfl ?_
    exact B22 _ _ _ h
set_option maxHeartbeats 4000000 in
set_option maxRecDepth 100000 in
theorem c_X4_heldPagesByMarks {l : Launch} {D : va_G} {g : G0} {A : MdA} {v : MdV} {a1 : Int32} {R : (Int32 × MdV)} (h : f_X4_heldPagesByMarks v a1 = some R) : CtS l D g yX4_heldPagesByMarks cX4_heldPagesByMarks 2 (some .int) (rmF 3 68) (mdW g A v) [.ref A.1, .int a1] (some (.int R.1)) (mdW g A R.2) := by
  refine CtS.of (by decide) (Nat.le_of_ble_eq_true rfl) ?_
  intro K C hBA el eD ekn retI retV
  subst el
  subst eD
  have hlt : ∀ i, i < 2 → i < kn K := fun i h => by rw [ekn]; exact h
  show V K 0 0 _ [(0, .ref A.1), (1, .int a1)] [] 0
  unfold f_X4_heldPagesByMarks at h
  refine V_aload_n C 0 1 dX4_heldPagesByMarks_0 rfl rfl ?_
  refine V_iload_n C 1 2 dX4_heldPagesByMarks_1 rfl rfl ?_
  obtain ⟨r1, k2, h⟩ := bd_some h
  refine V_callS C hBA ml_X4_162 (pre := []) (post := []) (w0 := mdW g A v) (w1 := mdW g A r1.2) (as := [.int a1]) (rest := []) (c_X4_heldPages k2) 0 5 (mdW g A r1.2) dX4_heldPagesByMarks_2 rfl ⟨Nat.le_of_ble_eq_true rfl, Nat.le_of_ble_eq_true rfl⟩ rfl (rfl) (rfl) rfl rfl rfl rfl (Nat.le_of_ble_eq_true rfl) ⟨Nat.zero_le _, Nat.zero_le _⟩ ?_
  obtain rfl := Option.some.inj h
  exact retI _ _ _ .int rfl (rfl) rfl dX4_heldPagesByMarks_5
set_option maxHeartbeats 4000000 in
set_option maxRecDepth 100000 in
theorem c_X4_chapterWeight {l : Launch} {D : va_G} {g : G0} {A : MdA} {v : MdV} {a1 : Int32} {R : (Int32 × MdV)} (h : f_X4_chapterWeight v a1 = some R) : CtS l D g yX4_chapterWeight cX4_chapterWeight 2 (some .int) (rmF 2 47) (mdW g A v) [.ref A.1, .int a1] (some (.int R.1)) (mdW g A R.2) := by
  refine CtS.of (by decide) (Nat.le_of_ble_eq_true rfl) ?_
  intro K C hBA el eD ekn retI retV
  subst el
  subst eD
  have hlt : ∀ i, i < 2 → i < kn K := fun i h => by rw [ekn]; exact h
  have B22 : ∀ (x1 : Int32) (s0 : Int32) (v : MdV), f_X4_chapterWeight_B22 x1 s0 v = some R → V K 0 0 (mdW g A v) [(0, .ref A.1), (1, .int x1)] [.int s0] 22 := by
    intro x1 s0 v h
    rw [f_X4_chapterWeight_B22] at h
    obtain rfl := Option.some.inj h
    exact retI _ _ _ .int rfl (rfl) rfl dX4_chapterWeight_22
  show V K 0 0 _ [(0, .ref A.1), (1, .int a1)] [] 0
  unfold f_X4_chapterWeight at h
  refine V_aload_n C 0 1 dX4_chapterWeight_0 rfl rfl ?_
  refine V_aload_n C 0 2 dX4_chapterWeight_1 rfl rfl ?_
  refine V_iload_n C 1 3 dX4_chapterWeight_2 rfl rfl ?_
  obtain ⟨r1, k2, h⟩ := bd_some h
  refine V_callP C ml_X4_129 (pre := []) (post := []) (w := mdW g A v) (as := [.int a1]) (rest := [.ref A.1]) (c_X4_isChapter k2) 0 6 dX4_chapterWeight_3 rfl ⟨Nat.le_of_ble_eq_true rfl, Nat.le_of_ble_eq_true rfl⟩ rfl (rfl) rfl rfl rfl (Nat.le_of_ble_eq_true rfl) ⟨Nat.zero_le _, Nat.zero_le _⟩ ?_
  obtain ⟨r3, k4, h⟩ := bd_some h
  refine V_callS C hBA ml_X4_49 (pre := []) (post := []) (w0 := mdW g A v) (w1 := mdW g A r3.2) (as := [.int r1]) (rest := []) (c_X4_isFine k4) 0 9 (mdW g A r3.2) dX4_chapterWeight_6 rfl ⟨Nat.le_of_ble_eq_true rfl, Nat.le_of_ble_eq_true rfl⟩ rfl (rfl) (rfl) rfl rfl rfl rfl (Nat.le_of_ble_eq_true rfl) ⟨Nat.zero_le _, Nat.zero_le _⟩ ?_
  refine V_if_eq C 21 12 dX4_chapterWeight_9 rfl rfl (fun e5 => ?_) (fun e5 => ?_)
  · have h := (if_pos e5).symm.trans h
    refine V_iconst C (0 : Int32) 22 dX4_chapterWeight_21 rfl rfl ?_
    refine V_lv [0, 1] rfl ?_
    exact B22 _ _ _ h
  · have h := (if_neg e5).symm.trans h
    refine V_aload_n C 0 13 dX4_chapterWeight_12 rfl rfl ?_
    refine V_iload_n C 1 14 dX4_chapterWeight_13 rfl rfl ?_
    refine V_iconst C (1 : Int32) 15 dX4_chapterWeight_14 rfl rfl ?_
    obtain ⟨r6, k7, h⟩ := bd_some h
    refine V_callP C ml_X4_159 (pre := []) (post := []) (w := mdW g A r3.2) (as := [.int a1, .int (1 : Int32)]) (rest := []) (c_X4_ofChapter k7) 0 18 dX4_chapterWeight_15 rfl ⟨Nat.le_of_ble_eq_true rfl, Nat.le_of_ble_eq_true rfl⟩ rfl (rfl) rfl rfl rfl (Nat.le_of_ble_eq_true rfl) ⟨Nat.zero_le _, Nat.zero_le _⟩ ?_
    refine V_goto C 22 dX4_chapterWeight_18 rfl ?_
    refine V_lv [0, 1] rfl ?_
    exact B22 _ _ _ h
set_option maxHeartbeats 4000000 in
set_option maxRecDepth 100000 in
theorem c_X4_weightInFavour {l : Launch} {D : va_G} {g : G0} {A : MdA} {v : MdV} {a1 : Int32} {R : (Int32 × MdV)} (h : f_X4_weightInFavour v a1 = some R) : CtS l D g yX4_weightInFavour cX4_weightInFavour 2 (some .int) (rmF 2 46) (mdW g A v) [.ref A.1, .int a1] (some (.int R.1)) (mdW g A R.2) := by
  refine CtS.of (by decide) (Nat.le_of_ble_eq_true rfl) ?_
  intro K C hBA el eD ekn retI retV
  subst el
  subst eD
  have hlt : ∀ i, i < 2 → i < kn K := fun i h => by rw [ekn]; exact h
  have B21 : ∀ (x1 : Int32) (s0 : Int32) (v : MdV), f_X4_weightInFavour_B21 x1 s0 v = some R → V K 0 0 (mdW g A v) [(0, .ref A.1), (1, .int x1)] [.int s0] 21 := by
    intro x1 s0 v h
    rw [f_X4_weightInFavour_B21] at h
    obtain rfl := Option.some.inj h
    exact retI _ _ _ .int rfl (rfl) rfl dX4_weightInFavour_21
  show V K 0 0 _ [(0, .ref A.1), (1, .int a1)] [] 0
  unfold f_X4_weightInFavour at h
  refine V_aload_n C 0 1 dX4_weightInFavour_0 rfl rfl ?_
  refine V_aload_n C 0 2 dX4_weightInFavour_1 rfl rfl ?_
  refine V_iload_n C 1 3 dX4_weightInFavour_2 rfl rfl ?_
  obtain ⟨r1, k2, h⟩ := bd_some h
  refine V_callP C ml_X4_129 (pre := []) (post := []) (w := mdW g A v) (as := [.int a1]) (rest := [.ref A.1]) (c_X4_isChapter k2) 0 6 dX4_weightInFavour_3 rfl ⟨Nat.le_of_ble_eq_true rfl, Nat.le_of_ble_eq_true rfl⟩ rfl (rfl) rfl rfl rfl (Nat.le_of_ble_eq_true rfl) ⟨Nat.zero_le _, Nat.zero_le _⟩ ?_
  obtain ⟨r3, k4, h⟩ := bd_some h
  refine V_callS C hBA ml_X4_49 (pre := []) (post := []) (w0 := mdW g A v) (w1 := mdW g A r3.2) (as := [.int r1]) (rest := []) (c_X4_isFine k4) 0 9 (mdW g A r3.2) dX4_weightInFavour_6 rfl ⟨Nat.le_of_ble_eq_true rfl, Nat.le_of_ble_eq_true rfl⟩ rfl (rfl) (rfl) rfl rfl rfl rfl (Nat.le_of_ble_eq_true rfl) ⟨Nat.zero_le _, Nat.zero_le _⟩ ?_
  refine V_if_eq C 20 12 dX4_weightInFavour_9 rfl rfl (fun e5 => ?_) (fun e5 => ?_)
  · have h := (if_pos e5).symm.trans h
    refine V_iconst C (0 : Int32) 21 dX4_weightInFavour_20 rfl rfl ?_
    refine V_lv [0, 1] rfl ?_
    exact B21 _ _ _ h
  · have h := (if_neg e5).symm.trans h
    refine V_aload_n C 0 13 dX4_weightInFavour_12 rfl rfl ?_
    refine V_iload_n C 1 14 dX4_weightInFavour_13 rfl rfl ?_
    obtain ⟨r6, k7, h⟩ := bd_some h
    refine V_callP C ml_X4_65 (pre := []) (post := []) (w := mdW g A r3.2) (as := [.int a1]) (rest := []) (c_X4_favour k7) 0 17 dX4_weightInFavour_14 rfl ⟨Nat.le_of_ble_eq_true rfl, Nat.le_of_ble_eq_true rfl⟩ rfl (rfl) rfl rfl rfl (Nat.le_of_ble_eq_true rfl) ⟨Nat.zero_le _, Nat.zero_le _⟩ ?_
    refine V_goto C 21 dX4_weightInFavour_17 rfl ?_
    refine V_lv [0, 1] rfl ?_
    exact B21 _ _ _ h
set_option maxHeartbeats 4000000 in
set_option maxRecDepth 100000 in
theorem c_X4_weightAgainst {l : Launch} {D : va_G} {g : G0} {A : MdA} {v : MdV} {a1 : Int32} {R : (Int32 × MdV)} (h : f_X4_weightAgainst v a1 = some R) : CtS l D g yX4_weightAgainst cX4_weightAgainst 2 (some .int) (rmF 2 46) (mdW g A v) [.ref A.1, .int a1] (some (.int R.1)) (mdW g A R.2) := by
  refine CtS.of (by decide) (Nat.le_of_ble_eq_true rfl) ?_
  intro K C hBA el eD ekn retI retV
  subst el
  subst eD
  have hlt : ∀ i, i < 2 → i < kn K := fun i h => by rw [ekn]; exact h
  have B27 : ∀ (x1 : Int32) (s0 : Int32) (v : MdV), f_X4_weightAgainst_B27 x1 s0 v = some R → V K 0 0 (mdW g A v) [(0, .ref A.1), (1, .int x1)] [.int s0] 27 := by
    intro x1 s0 v h
    rw [f_X4_weightAgainst_B27] at h
    obtain rfl := Option.some.inj h
    exact retI _ _ _ .int rfl (rfl) rfl dX4_weightAgainst_27
  show V K 0 0 _ [(0, .ref A.1), (1, .int a1)] [] 0
  unfold f_X4_weightAgainst at h
  refine V_aload_n C 0 1 dX4_weightAgainst_0 rfl rfl ?_
  refine V_aload_n C 0 2 dX4_weightAgainst_1 rfl rfl ?_
  refine V_iload_n C 1 3 dX4_weightAgainst_2 rfl rfl ?_
  obtain ⟨r1, k2, h⟩ := bd_some h
  refine V_callP C ml_X4_129 (pre := []) (post := []) (w := mdW g A v) (as := [.int a1]) (rest := [.ref A.1]) (c_X4_isChapter k2) 0 6 dX4_weightAgainst_3 rfl ⟨Nat.le_of_ble_eq_true rfl, Nat.le_of_ble_eq_true rfl⟩ rfl (rfl) rfl rfl rfl (Nat.le_of_ble_eq_true rfl) ⟨Nat.zero_le _, Nat.zero_le _⟩ ?_
  obtain ⟨r3, k4, h⟩ := bd_some h
  refine V_callS C hBA ml_X4_49 (pre := []) (post := []) (w0 := mdW g A v) (w1 := mdW g A r3.2) (as := [.int r1]) (rest := []) (c_X4_isFine k4) 0 9 (mdW g A r3.2) dX4_weightAgainst_6 rfl ⟨Nat.le_of_ble_eq_true rfl, Nat.le_of_ble_eq_true rfl⟩ rfl (rfl) (rfl) rfl rfl rfl rfl (Nat.le_of_ble_eq_true rfl) ⟨Nat.zero_le _, Nat.zero_le _⟩ ?_
  refine V_if_eq C 26 12 dX4_weightAgainst_9 rfl rfl (fun e5 => ?_) (fun e5 => ?_)
  · have h := (if_pos e5).symm.trans h
    refine V_iconst C (0 : Int32) 27 dX4_weightAgainst_26 rfl rfl ?_
    refine V_lv [0, 1] rfl ?_
    exact B27 _ _ _ h
  · have h := (if_neg e5).symm.trans h
    refine V_aload_n C 0 13 dX4_weightAgainst_12 rfl rfl ?_
    refine V_iconst C (0 : Int32) 14 dX4_weightAgainst_13 rfl rfl ?_
    obtain ⟨r6, k7, h⟩ := bd_some h
    refine V_callP C ml_X4_68 (pre := []) (post := []) (w := mdW g A r3.2) (as := [.int (0 : Int32)]) (rest := []) (c_X4_weightOfAll k7) 0 17 dX4_weightAgainst_14 rfl ⟨Nat.le_of_ble_eq_true rfl, Nat.le_of_ble_eq_true rfl⟩ rfl (rfl) rfl rfl rfl (Nat.le_of_ble_eq_true rfl) ⟨Nat.zero_le _, Nat.zero_le _⟩ ?_
    refine V_aload_n C 0 18 dX4_weightAgainst_17 rfl rfl ?_
    refine V_iload_n C 1 19 dX4_weightAgainst_18 rfl rfl ?_
    obtain ⟨r8, k9, h⟩ := bd_some h
    refine V_callP C ml_X4_65 (pre := []) (post := []) (w := mdW g A r3.2) (as := [.int a1]) (rest := [.int r6]) (c_X4_favour k9) 0 22 dX4_weightAgainst_19 rfl ⟨Nat.le_of_ble_eq_true rfl, Nat.le_of_ble_eq_true rfl⟩ rfl (rfl) rfl rfl rfl (Nat.le_of_ble_eq_true rfl) ⟨Nat.zero_le _, Nat.zero_le _⟩ ?_
    refine V_isub C 23 dX4_weightAgainst_22 rfl ?_
    refine V_goto C 27 dX4_weightAgainst_23 rfl ?_
    refine V_lv [0, 1] rfl ?_
    exact B27 _ _ _ h
set_option maxHeartbeats 4000000 in
set_option maxRecDepth 100000 in
theorem c_X4_weightAgainstByTotal {l : Launch} {D : va_G} {g : G0} {A : MdA} {v : MdV} {a1 : Int32} {R : (Int32 × MdV)} (h : f_X4_weightAgainstByTotal v a1 = some R) : CtS l D g yX4_weightAgainstByTotal cX4_weightAgainstByTotal 2 (some .int) (rmF 3 67) (mdW g A v) [.ref A.1, .int a1] (some (.int R.1)) (mdW g A R.2) := by
  refine CtS.of (by decide) (Nat.le_of_ble_eq_true rfl) ?_
  intro K C hBA el eD ekn retI retV
  subst el
  subst eD
  have hlt : ∀ i, i < 2 → i < kn K := fun i h => by rw [ekn]; exact h
  show V K 0 0 _ [(0, .ref A.1), (1, .int a1)] [] 0
  unfold f_X4_weightAgainstByTotal at h
  refine V_aload_n C 0 1 dX4_weightAgainstByTotal_0 rfl rfl ?_
  refine V_iload_n C 1 2 dX4_weightAgainstByTotal_1 rfl rfl ?_
  obtain ⟨r1, k2, h⟩ := bd_some h
  refine V_callS C hBA ml_X4_165 (pre := []) (post := []) (w0 := mdW g A v) (w1 := mdW g A r1.2) (as := [.int a1]) (rest := []) (c_X4_weightAgainst k2) 0 5 (mdW g A r1.2) dX4_weightAgainstByTotal_2 rfl ⟨Nat.le_of_ble_eq_true rfl, Nat.le_of_ble_eq_true rfl⟩ rfl (rfl) (rfl) rfl rfl rfl rfl (Nat.le_of_ble_eq_true rfl) ⟨Nat.zero_le _, Nat.zero_le _⟩ ?_
  obtain rfl := Option.some.inj h
  exact retI _ _ _ .int rfl (rfl) rfl dX4_weightAgainstByTotal_5
set_option maxHeartbeats 4000000 in
set_option maxRecDepth 100000 in
theorem c_X4_wouldDissolve {l : Launch} {D : va_G} {g : G0} {A : MdA} {v : MdV} {a1 : Int32} {R : (Int32 × MdV)} (h : f_X4_wouldDissolve v a1 = some R) : CtS l D g yX4_wouldDissolve cX4_wouldDissolve 2 (some .boolean) (rmF 3 67) (mdW g A v) [.ref A.1, .int a1] (some (.int R.1)) (mdW g A R.2) := by
  refine CtS.of (by decide) (Nat.le_of_ble_eq_true rfl) ?_
  intro K C hBA el eD ekn retI retV
  subst el
  subst eD
  have hlt : ∀ i, i < 2 → i < kn K := fun i h => by rw [ekn]; exact h
  have B25 : ∀ (x1 : Int32) (s0 : Int32) (v : MdV), f_X4_wouldDissolve_B25 x1 s0 v = some R → V K 0 0 (mdW g A v) [(0, .ref A.1), (1, .int x1)] [.int s0] 25 := by
    intro x1 s0 v h
    rw [f_X4_wouldDissolve_B25] at h
    obtain ⟨g1, h⟩ := gd_some h
    obtain rfl := Option.some.inj h
    exact retI _ _ _ .boolean rfl (isz_t g1) rfl dX4_wouldDissolve_25
  have B24 : ∀ (x1 : Int32) (v : MdV), f_X4_wouldDissolve_B24 x1 v = some R → V K 0 0 (mdW g A v) [(0, .ref A.1), (1, .int x1)] [] 24 := by
    intro x1 v h
    rw [f_X4_wouldDissolve_B24] at h
    refine V_iconst C (0 : Int32) 25 dX4_wouldDissolve_24 rfl rfl ?_
    refine V_lv [0, 1] rfl ?_
    exact B25 _ _ _ h
  show V K 0 0 _ [(0, .ref A.1), (1, .int a1)] [] 0
  unfold f_X4_wouldDissolve at h
  refine V_aload_n C 0 1 dX4_wouldDissolve_0 rfl rfl ?_
  refine V_aload_n C 0 2 dX4_wouldDissolve_1 rfl rfl ?_
  refine V_iload_n C 1 3 dX4_wouldDissolve_2 rfl rfl ?_
  obtain ⟨r2, k3, h⟩ := bd_some h
  refine V_callP C ml_X4_129 (pre := []) (post := []) (w := mdW g A v) (as := [.int a1]) (rest := [.ref A.1]) (c_X4_isChapter k3) 0 6 dX4_wouldDissolve_3 rfl ⟨Nat.le_of_ble_eq_true rfl, Nat.le_of_ble_eq_true rfl⟩ rfl (rfl) rfl rfl rfl (Nat.le_of_ble_eq_true rfl) ⟨Nat.zero_le _, Nat.zero_le _⟩ ?_
  obtain ⟨r4, k5, h⟩ := bd_some h
  refine V_callS C hBA ml_X4_49 (pre := []) (post := []) (w0 := mdW g A v) (w1 := mdW g A r4.2) (as := [.int r2]) (rest := []) (c_X4_isFine k5) 0 9 (mdW g A r4.2) dX4_wouldDissolve_6 rfl ⟨Nat.le_of_ble_eq_true rfl, Nat.le_of_ble_eq_true rfl⟩ rfl (rfl) (rfl) rfl rfl rfl rfl (Nat.le_of_ble_eq_true rfl) ⟨Nat.zero_le _, Nat.zero_le _⟩ ?_
  refine V_if_eq C 24 12 dX4_wouldDissolve_9 rfl rfl (fun e6 => ?_) (fun e6 => ?_)
  · have h := (if_pos e6).symm.trans h
    refine V_lv [0, 1] rfl ?_
    exact B24 _ _ h
  · have h := (if_neg e6).symm.trans h
    refine V_aload_n C 0 13 dX4_wouldDissolve_12 rfl rfl ?_
    refine V_iload_n C 1 14 dX4_wouldDissolve_13 rfl rfl ?_
    obtain ⟨r7, k8, h⟩ := bd_some h
    refine V_callP C ml_X4_132 (pre := []) (post := []) (w := mdW g A r4.2) (as := [.int a1]) (rest := []) (c_X4_isCarried k8) 0 17 dX4_wouldDissolve_14 rfl ⟨Nat.le_of_ble_eq_true rfl, Nat.le_of_ble_eq_true rfl⟩ rfl (rfl) rfl rfl rfl (Nat.le_of_ble_eq_true rfl) ⟨Nat.zero_le _, Nat.zero_le _⟩ ?_
    refine V_if_eq C 24 20 dX4_wouldDissolve_17 rfl rfl (fun e9 => ?_) (fun e9 => ?_)
    · have h := (if_pos e9).symm.trans h
      refine V_lv [0, 1] rfl ?_
      exact B24 _ _ h
    · have h := (if_neg e9).symm.trans h
      refine V_iconst C (1 : Int32) 21 dX4_wouldDissolve_20 rfl rfl ?_
      refine V_goto C 25 dX4_wouldDissolve_21 rfl ?_
      refine V_lv [0, 1] rfl ?_
      exact B25 _ _ _ h
set_option maxHeartbeats 4000000 in
set_option maxRecDepth 100000 in
theorem c_X4_heaviestChapter {l : Launch} {D : va_G} {g : G0} {A : MdA} {v : MdV} {R : (Int32 × MdV)} (h : f_X4_heaviestChapter v  = some R) : CtS l D g yX4_heaviestChapter cX4_heaviestChapter 3 (some .int) (rmF 2 47) (mdW g A v) [.ref A.1] (some (.int R.1)) (mdW g A R.2) := by
  refine CtS.of (by decide) (Nat.le_of_ble_eq_true rfl) ?_
  intro K C hBA el eD ekn retI retV
  subst el
  subst eD
  have hlt : ∀ i, i < 3 → i < kn K := fun i h => by rw [ekn]; exact h
  have B39 : ∀ (J : Int32 → Int32 → MdV → Option (Int32 × MdV)) (hJ : ∀ (x1 : Int32) (x2 : Int32) (v : MdV), J x1 x2 v = some R → V K 0 0 (mdW g A v) [(0, .ref A.1), (1, .int x1), (2, .int x2)] [] 9) (x1 : Int32) (x2 : Int32) (s0 : Int32) (v : MdV), f_X4_heaviestChapter_B39 J x1 x2 s0 v = some R → V K 0 0 (mdW g A v) [(0, .ref A.1), (1, .int x1), (2, .int x2)] [.int s0] 39 := by
    intro J hJ x1 x2 s0 v h
    rw [f_X4_heaviestChapter_B39] at h
    refine V_istore_n C 40 [(1, .int s0), (0, .ref A.1), (2, .int x2)] dX4_heaviestChapter_39 rfl (hlt 1 (by decide)) rfl ?_
    refine V_iinc C 2 (x2 + (1 : Int32)) 43 [(2, .int (x2 + (1 : Int32))), (1, .int s0), (0, .ref A.1)] dX4_heaviestChapter_40 rfl rfl rfl (hlt 2 (by decide)) rfl ?_
    refine V_goto C 9 dX4_heaviestChapter_43 rfl ?_
    refine V_lv [2, 1, 0] rfl ?_
    exact hJ _ _ _ h
  have L9 : ∀ (n : Nat) (x1 : Int32) (x2 : Int32) (v : MdV), f_X4_heaviestChapter_L9 n x1 x2 v = some R → V K 0 0 (mdW g A v) [(0, .ref A.1), (1, .int x1), (2, .int x2)] [] 9 := by
    intro n
    induction n with
    | zero =>
      intro x1 x2 v h
      rw [f_X4_heaviestChapter_L9] at h
      cases h
    | succ n ih =>
      intro x1 x2 v h
      rw [f_X4_heaviestChapter_L9] at h
      refine V_iload_n C 2 10 dX4_heaviestChapter_9 rfl rfl ?_
      refine V_aload_n C 0 11 dX4_heaviestChapter_10 rfl rfl ?_
      refine V_get C (v := .ref A.2.1) 0 14 fl_X4_9 dX4_heaviestChapter_11 rfl rfl rfl ?_
      refine V_iconst C (2 : Int32) 15 dX4_heaviestChapter_14 rfl rfl ?_
      obtain ⟨g1, h⟩ := gd_some h
      refine V_iald C (f := (Md_all v)) (n := 825) 1 16 dX4_heaviestChapter_15 rfl rfl g1 ?_
      refine V_icmp_ge C 46 19 dX4_heaviestChapter_16 rfl rfl (fun e2 => ?_) (fun e2 => ?_)
      · have h := (if_pos e2).symm.trans h
        refine V_iload_n C 1 47 dX4_heaviestChapter_46 rfl rfl ?_
        obtain rfl := Option.some.inj h
        exact retI _ _ _ .int rfl (rfl) rfl dX4_heaviestChapter_47
      · have h := (if_neg e2).symm.trans h
        refine V_aload_n C 0 20 dX4_heaviestChapter_19 rfl rfl ?_
        refine V_iload_n C 2 21 dX4_heaviestChapter_20 rfl rfl ?_
        refine V_iconst C (1 : Int32) 22 dX4_heaviestChapter_21 rfl rfl ?_
        obtain ⟨r3, k4, h⟩ := bd_some h
        refine V_callP C ml_X4_159 (pre := []) (post := []) (w := mdW g A v) (as := [.int x2, .int (1 : Int32)]) (rest := []) (c_X4_ofChapter k4) 0 25 dX4_heaviestChapter_22 rfl ⟨Nat.le_of_ble_eq_true rfl, Nat.le_of_ble_eq_true rfl⟩ rfl (rfl) rfl rfl rfl (Nat.le_of_ble_eq_true rfl) ⟨Nat.zero_le _, Nat.zero_le _⟩ ?_
        refine V_aload_n C 0 26 dX4_heaviestChapter_25 rfl rfl ?_
        refine V_iload_n C 1 27 dX4_heaviestChapter_26 rfl rfl ?_
        refine V_iconst C (1 : Int32) 28 dX4_heaviestChapter_27 rfl rfl ?_
        obtain ⟨r5, k6, h⟩ := bd_some h
        refine V_callP C ml_X4_159 (pre := []) (post := []) (w := mdW g A v) (as := [.int x1, .int (1 : Int32)]) (rest := [.int r3]) (c_X4_ofChapter k6) 0 31 dX4_heaviestChapter_28 rfl ⟨Nat.le_of_ble_eq_true rfl, Nat.le_of_ble_eq_true rfl⟩ rfl (rfl) rfl rfl rfl (Nat.le_of_ble_eq_true rfl) ⟨Nat.zero_le _, Nat.zero_le _⟩ ?_
        refine V_icmp_le C 38 34 dX4_heaviestChapter_31 rfl rfl (fun e7 => ?_) (fun e7 => ?_)
        · have h := (if_pos e7).symm.trans h
          refine V_iload_n C 1 39 dX4_heaviestChapter_38 rfl rfl ?_
          refine V_lv [0, 1, 2] rfl ?_
          exact B39 (f_X4_heaviestChapter_L9 n) ih _ _ _ _ h
        · have h := (if_neg e7).symm.trans h
          refine V_iload_n C 2 35 dX4_heaviestChapter_34 rfl rfl ?_
          refine V_goto C 39 dX4_heaviestChapter_35 rfl ?_
          refine V_lv [0, 1, 2] rfl ?_
          exact B39 (f_X4_heaviestChapter_L9 n) ih _ _ _ _ h
  show V K 0 0 _ [(0, .ref A.1)] [] 0
  unfold f_X4_heaviestChapter at h
  refine V_aload_n C 0 1 dX4_heaviestChapter_0 rfl rfl ?_
  refine V_iconst C (0 : Int32) 2 dX4_heaviestChapter_1 rfl rfl ?_
  refine V_put C hBA 0 5 (mdW g A ((Md_all v), (Md_output v), (Md_input v), (Md_commands v), (0 : Int32), (Md_changes v), (Md_isSaved v), (Md_result v), (Md_why v), (Md_detail v), (Md_cause v), (Md_outputSize v), (Md_typed v), (Md_here v), (Md_error v), (Md_errorAt v), (Md_commandMany v))) fl_X4_27 fp_X4_0 dX4_heaviestChapter_2 rfl rfl (Nat.le_of_ble_eq_true rfl) rfl rfl rfl ?_
  refine V_iconst C (0 : Int32) 6 dX4_heaviestChapter_5 rfl rfl ?_
  refine V_istore_n C 7 [(1, .int (0 : Int32)), (0, .ref A.1)] dX4_heaviestChapter_6 rfl (hlt 1 (by decide)) rfl ?_
  refine V_iconst C (1 : Int32) 8 dX4_heaviestChapter_7 rfl rfl ?_
  refine V_istore_n C 9 [(2, .int (1 : Int32)), (1, .int (0 : Int32)), (0, .ref A.1)] dX4_heaviestChapter_8 rfl (hlt 2 (by decide)) rfl ?_
  refine V_lv [2, 1, 0] rfl ?_
  exact L9 100 _ _ _ h
set_option maxHeartbeats 4000000 in
set_option maxRecDepth 100000 in
theorem c_X4_currentPage {l : Launch} {D : va_G} {g : G0} {A : MdA} {v : MdV} {R : (Int32 × MdV)} (h : f_X4_currentPage v  = some R) : CtS l D g yX4_currentPage cX4_currentPage 1 (some .int) (rmF 0 0) (mdW g A v) [.ref A.1] (some (.int R.1)) (mdW g A R.2) := by
  refine CtS.of (by decide) (Nat.le_of_ble_eq_true rfl) ?_
  intro K C hBA el eD ekn retI retV
  subst el
  subst eD
  have hlt : ∀ i, i < 1 → i < kn K := fun i h => by rw [ekn]; exact h
  show V K 0 0 _ [(0, .ref A.1)] [] 0
  unfold f_X4_currentPage at h
  refine V_aload_n C 0 1 dX4_currentPage_0 rfl rfl ?_
  refine V_iconst C (0 : Int32) 2 dX4_currentPage_1 rfl rfl ?_
  refine V_put C hBA 0 5 (mdW g A ((Md_all v), (Md_output v), (Md_input v), (Md_commands v), (0 : Int32), (Md_changes v), (Md_isSaved v), (Md_result v), (Md_why v), (Md_detail v), (Md_cause v), (Md_outputSize v), (Md_typed v), (Md_here v), (Md_error v), (Md_errorAt v), (Md_commandMany v))) fl_X4_27 fp_X4_0 dX4_currentPage_2 rfl rfl (Nat.le_of_ble_eq_true rfl) rfl rfl rfl ?_
  refine V_aload_n C 0 6 dX4_currentPage_5 rfl rfl ?_
  refine V_get C (v := .ref A.2.1) 0 9 fl_X4_9 dX4_currentPage_6 rfl rfl rfl ?_
  refine V_iconst C (3 : Int32) 10 dX4_currentPage_9 rfl rfl ?_
  obtain ⟨g1, h⟩ := gd_some h
  refine V_iald C (f := (Md_all v)) (n := 825) 1 11 dX4_currentPage_10 rfl rfl g1 ?_
  obtain rfl := Option.some.inj h
  exact retI _ _ _ .int rfl (rfl) rfl dX4_currentPage_11
set_option maxHeartbeats 4000000 in
set_option maxRecDepth 100000 in
theorem c_X4_pagesToNextMark {l : Launch} {D : va_G} {g : G0} {A : MdA} {v : MdV} {R : (Int32 × MdV)} (h : f_X4_pagesToNextMark v  = some R) : CtS l D g yX4_pagesToNextMark cX4_pagesToNextMark 2 (some .int) (rmF 3 70) (mdW g A v) [.ref A.1] (some (.int R.1)) (mdW g A R.2) := by
  refine CtS.of (by decide) (Nat.le_of_ble_eq_true rfl) ?_
  intro K C hBA el eD ekn retI retV
  subst el
  subst eD
  have hlt : ∀ i, i < 2 → i < kn K := fun i h => by rw [ekn]; exact h
  have B64 : ∀ (x1 : Int32) (s0 : Int32) (v : MdV), f_X4_pagesToNextMark_B64 x1 s0 v = some R → V K 0 0 (mdW g A v) [(0, .ref A.1), (1, .int x1)] [.int s0] 64 := by
    intro x1 s0 v h
    rw [f_X4_pagesToNextMark_B64] at h
    obtain rfl := Option.some.inj h
    exact retI _ _ _ .int rfl (rfl) rfl dX4_pagesToNextMark_64
  have B41 : ∀ (x1 : Int32) (s0 : Int32) (v : MdV), f_X4_pagesToNextMark_B41 x1 s0 v = some R → V K 0 0 (mdW g A v) [(0, .ref A.1), (1, .int x1)] [.int s0, .ref A.1] 41 := by
    intro x1 s0 v h
    rw [f_X4_pagesToNextMark_B41] at h
    obtain ⟨r1, k2, h⟩ := bd_some h
    refine V_callS C hBA ml_X4_49 (pre := []) (post := []) (w0 := mdW g A v) (w1 := mdW g A r1.2) (as := [.int s0]) (rest := []) (c_X4_isFine k2) 0 44 (mdW g A r1.2) dX4_pagesToNextMark_41 rfl ⟨Nat.le_of_ble_eq_true rfl, Nat.le_of_ble_eq_true rfl⟩ rfl (rfl) (rfl) rfl rfl rfl rfl (Nat.le_of_ble_eq_true rfl) ⟨Nat.zero_le _, Nat.zero_le _⟩ ?_
    refine V_if_eq C 63 47 dX4_pagesToNextMark_44 rfl rfl (fun e3 => ?_) (fun e3 => ?_)
    · have h := (if_pos e3).symm.trans h
      refine V_iconst C (0 : Int32) 64 dX4_pagesToNextMark_63 rfl rfl ?_
      refine V_lv [0, 1] rfl ?_
      exact B64 _ _ _ h
    · have h := (if_neg e3).symm.trans h
      refine V_aload_n C 0 48 dX4_pagesToNextMark_47 rfl rfl ?_
      refine V_iload_n C 1 49 dX4_pagesToNextMark_48 rfl rfl ?_
      refine V_iconst C (1 : Int32) 50 dX4_pagesToNextMark_49 rfl rfl ?_
      obtain ⟨r4, k5, h⟩ := bd_some h
      refine V_callP C ml_X4_53 (pre := []) (post := []) (w := mdW g A r1.2) (as := [.int x1, .int (1 : Int32)]) (rest := []) (c_X4_m k5) 0 53 dX4_pagesToNextMark_50 rfl ⟨Nat.le_of_ble_eq_true rfl, Nat.le_of_ble_eq_true rfl⟩ rfl (rfl) rfl rfl rfl (Nat.le_of_ble_eq_true rfl) ⟨Nat.zero_le _, Nat.zero_le _⟩ ?_
      refine V_aload_n C 0 54 dX4_pagesToNextMark_53 rfl rfl ?_
      refine V_get C (v := .ref A.2.1) 0 57 fl_X4_9 dX4_pagesToNextMark_54 rfl rfl rfl ?_
      refine V_iconst C (3 : Int32) 58 dX4_pagesToNextMark_57 rfl rfl ?_
      obtain ⟨g6, h⟩ := gd_some h
      refine V_iald C (f := (Md_all r1.2)) (n := 825) 1 59 dX4_pagesToNextMark_58 rfl rfl g6 ?_
      refine V_isub C 60 dX4_pagesToNextMark_59 rfl ?_
      refine V_goto C 64 dX4_pagesToNextMark_60 rfl ?_
      refine V_lv [0, 1] rfl ?_
      exact B64 _ _ _ h
  have B30 : ∀ (s0 : Int32) (v : MdV), f_X4_pagesToNextMark_B30 s0 v = some R → V K 0 0 (mdW g A v) [(0, .ref A.1)] [.int s0] 30 := by
    intro s0 v h
    rw [f_X4_pagesToNextMark_B30] at h
    refine V_istore_n C 31 [(1, .int s0), (0, .ref A.1)] dX4_pagesToNextMark_30 rfl (hlt 1 (by decide)) rfl ?_
    refine V_aload_n C 1 32 dX4_pagesToNextMark_31 rfl rfl ?_
    refine V_iload_n C 0 33 dX4_pagesToNextMark_32 rfl rfl ?_
    refine V_if_lt C 40 36 dX4_pagesToNextMark_33 rfl rfl (fun e7 => ?_) (fun e7 => ?_)
    · have h := (if_pos e7).symm.trans h
      refine V_iconst C (0 : Int32) 41 dX4_pagesToNextMark_40 rfl rfl ?_
      refine V_lv [1, 0] rfl ?_
      exact B41 _ _ _ h
    · have h := (if_neg e7).symm.trans h
      refine V_iconst C (1 : Int32) 37 dX4_pagesToNextMark_36 rfl rfl ?_
      refine V_goto C 41 dX4_pagesToNextMark_37 rfl ?_
      refine V_lv [1, 0] rfl ?_
      exact B41 _ _ _ h
  show V K 0 0 _ [(0, .ref A.1)] [] 0
  unfold f_X4_pagesToNextMark at h
  refine V_aload_n C 0 1 dX4_pagesToNextMark_0 rfl rfl ?_
  refine V_get C (v := .ref A.2.1) 0 4 fl_X4_9 dX4_pagesToNextMark_1 rfl rfl rfl ?_
  refine V_iconst C (3 : Int32) 5 dX4_pagesToNextMark_4 rfl rfl ?_
  obtain ⟨g8, h⟩ := gd_some h
  refine V_iald C (f := (Md_all v)) (n := 825) 1 6 dX4_pagesToNextMark_5 rfl rfl g8 ?_
  refine V_iconst C (1 : Int32) 7 dX4_pagesToNextMark_6 rfl rfl ?_
  refine V_iadd C 8 dX4_pagesToNextMark_7 rfl ?_
  refine V_bipush C (60 : Int32) 10 dX4_pagesToNextMark_8 rfl rfl ?_
  refine V_icmp_ge C 29 13 dX4_pagesToNextMark_10 rfl rfl (fun e9 => ?_) (fun e9 => ?_)
  · have h := (if_pos e9).symm.trans h
    refine V_iconst C (-1 : Int32) 30 dX4_pagesToNextMark_29 rfl rfl ?_
    refine V_lv [0] rfl ?_
    exact B30 _ _ h
  · have h := (if_neg e9).symm.trans h
    refine V_aload_n C 0 14 dX4_pagesToNextMark_13 rfl rfl ?_
    refine V_aload_n C 0 15 dX4_pagesToNextMark_14 rfl rfl ?_
    refine V_get C (v := .ref A.2.1) 0 18 fl_X4_9 dX4_pagesToNextMark_15 rfl rfl rfl ?_
    refine V_iconst C (3 : Int32) 19 dX4_pagesToNextMark_18 rfl rfl ?_
    obtain ⟨g10, h⟩ := gd_some h
    refine V_iald C (f := (Md_all v)) (n := 825) 1 20 dX4_pagesToNextMark_19 rfl rfl g10 ?_
    refine V_iconst C (1 : Int32) 21 dX4_pagesToNextMark_20 rfl rfl ?_
    refine V_iadd C 22 dX4_pagesToNextMark_21 rfl ?_
    refine V_iconst C (0 : Int32) 23 dX4_pagesToNextMark_22 rfl rfl ?_
    obtain ⟨r11, k12, h⟩ := bd_some h
    refine V_callP C ml_X4_153 (pre := []) (post := []) (w := mdW g A v) (as := [.int (((Md_all v) (cl (3 : Int32))) + (1 : Int32)), .int (0 : Int32)]) (rest := []) (c_X4_nearest k12) 0 26 dX4_pagesToNextMark_23 rfl ⟨Nat.le_of_ble_eq_true rfl, Nat.le_of_ble_eq_true rfl⟩ rfl (rfl) rfl rfl rfl (Nat.le_of_ble_eq_true rfl) ⟨Nat.zero_le _, Nat.zero_le _⟩ ?_
    refine V_goto C 30 dX4_pagesToNextMark_26 rfl ?_
    refine V_lv [0] rfl ?_
    exact B30 _ _ h
set_option maxHeartbeats 4000000 in
set_option maxRecDepth 100000 in
theorem c_X4_earsAtRisk {l : Launch} {D : va_G} {g : G0} {A : MdA} {v : MdV} {a1 a2 : Int32} {R : (Int32 × MdV)} (h : f_X4_earsAtRisk v a1 a2 = some R) : CtS l D g yX4_earsAtRisk cX4_earsAtRisk 5 (some .int) (rmF 2 46) (mdW g A v) [.ref A.1, .int a1, .int a2] (some (.int R.1)) (mdW g A R.2) := by
  refine CtS.of (by decide) (Nat.le_of_ble_eq_true rfl) ?_
  intro K C hBA el eD ekn retI retV
  subst el
  subst eD
  have hlt : ∀ i, i < 5 → i < kn K := fun i h => by rw [ekn]; exact h
  have B75 : ∀ (J : Int32 → Int32 → Int32 → Int32 → MdV → Option (Int32 × MdV)) (hJ : ∀ (x1 : Int32) (x2 : Int32) (x3 : Int32) (x4 : Int32) (v : MdV), J x1 x2 x3 x4 v = some R → V K 0 0 (mdW g A v) [(0, .ref A.1), (1, .int x1), (2, .int x2), (3, .int x3), (4, .int x4)] [] 21) (x1 : Int32) (x2 : Int32) (x3 : Int32) (x4 : Int32) (s0 : Int32) (s1 : Int32) (v : MdV), f_X4_earsAtRisk_B75 J x1 x2 x3 x4 s0 s1 v = some R → V K 0 0 (mdW g A v) [(0, .ref A.1), (1, .int x1), (2, .int x2), (3, .int x3), (4, .int x4)] [.int s0, .int s1] 75 := by
    intro J hJ x1 x2 x3 x4 s0 s1 v h
    rw [f_X4_earsAtRisk_B75] at h
    refine V_iadd C 76 dX4_earsAtRisk_75 rfl ?_
    refine V_istore_n C 77 [(3, .int (s1 + s0)), (0, .ref A.1), (1, .int x1), (2, .int x2), (4, .int x4)] dX4_earsAtRisk_76 rfl (hlt 3 (by decide)) rfl ?_
    refine V_iinc C 4 (x4 + (1 : Int32)) 80 [(4, .int (x4 + (1 : Int32))), (3, .int (s1 + s0)), (0, .ref A.1), (1, .int x1), (2, .int x2)] dX4_earsAtRisk_77 rfl rfl rfl (hlt 4 (by decide)) rfl ?_
    refine V_goto C 21 dX4_earsAtRisk_80 rfl ?_
    refine V_lv [2, 3, 4, 1, 0] rfl ?_
    exact hJ _ _ _ _ _ h
  have B74 : ∀ (J : Int32 → Int32 → Int32 → Int32 → MdV → Option (Int32 × MdV)) (hJ : ∀ (x1 : Int32) (x2 : Int32) (x3 : Int32) (x4 : Int32) (v : MdV), J x1 x2 x3 x4 v = some R → V K 0 0 (mdW g A v) [(0, .ref A.1), (1, .int x1), (2, .int x2), (3, .int x3), (4, .int x4)] [] 21) (x1 : Int32) (x2 : Int32) (x3 : Int32) (x4 : Int32) (s0 : Int32) (v : MdV), f_X4_earsAtRisk_B74 J x1 x2 x3 x4 s0 v = some R → V K 0 0 (mdW g A v) [(0, .ref A.1), (1, .int x1), (2, .int x2), (3, .int x3), (4, .int x4)] [.int s0] 74 := by
    intro J hJ x1 x2 x3 x4 s0 v h
    rw [f_X4_earsAtRisk_B74] at h
    refine V_iconst C (0 : Int32) 75 dX4_earsAtRisk_74 rfl rfl ?_
    refine V_lv [0, 1, 2, 3, 4] rfl ?_
    exact B75 J hJ _ _ _ _ _ _ _ h
  have L21 : ∀ (n : Nat) (x1 : Int32) (x2 : Int32) (x3 : Int32) (x4 : Int32) (v : MdV), f_X4_earsAtRisk_L21 n x1 x2 x3 x4 v = some R → V K 0 0 (mdW g A v) [(0, .ref A.1), (1, .int x1), (2, .int x2), (3, .int x3), (4, .int x4)] [] 21 := by
    intro n
    induction n with
    | zero =>
      intro x1 x2 x3 x4 v h
      rw [f_X4_earsAtRisk_L21] at h
      cases h
    | succ n ih =>
      intro x1 x2 x3 x4 v h
      rw [f_X4_earsAtRisk_L21] at h
      refine V_iload C 4 23 dX4_earsAtRisk_21 rfl rfl ?_
      refine V_aload_n C 0 24 dX4_earsAtRisk_23 rfl rfl ?_
      refine V_get C (v := .ref A.2.1) 0 27 fl_X4_9 dX4_earsAtRisk_24 rfl rfl rfl ?_
      refine V_iconst C (0 : Int32) 28 dX4_earsAtRisk_27 rfl rfl ?_
      obtain ⟨g1, h⟩ := gd_some h
      refine V_iald C (f := (Md_all v)) (n := 825) 1 29 dX4_earsAtRisk_28 rfl rfl g1 ?_
      refine V_icmp_ge C 83 32 dX4_earsAtRisk_29 rfl rfl (fun e2 => ?_) (fun e2 => ?_)
      · have h := (if_pos e2).symm.trans h
        refine V_iload_n C 3 84 dX4_earsAtRisk_83 rfl rfl ?_
        obtain rfl := Option.some.inj h
        exact retI _ _ _ .int rfl (rfl) rfl dX4_earsAtRisk_84
      · have h := (if_neg e2).symm.trans h
        refine V_iload_n C 3 33 dX4_earsAtRisk_32 rfl rfl ?_
        refine V_aload_n C 0 34 dX4_earsAtRisk_33 rfl rfl ?_
        refine V_iload C 4 36 dX4_earsAtRisk_34 rfl rfl ?_
        refine V_iconst C (3 : Int32) 37 dX4_earsAtRisk_36 rfl rfl ?_
        obtain ⟨r3, k4, h⟩ := bd_some h
        refine V_callP C ml_X4_53 (pre := []) (post := []) (w := mdW g A v) (as := [.int x4, .int (3 : Int32)]) (rest := [.int x3]) (c_X4_m k4) 0 40 dX4_earsAtRisk_37 rfl ⟨Nat.le_of_ble_eq_true rfl, Nat.le_of_ble_eq_true rfl⟩ rfl (rfl) rfl rfl rfl (Nat.le_of_ble_eq_true rfl) ⟨Nat.zero_le _, Nat.zero_le _⟩ ?_
        refine V_if_ne C 74 43 dX4_earsAtRisk_40 rfl rfl (fun e5 => ?_) (fun e5 => ?_)
        · have h := (if_neg e5).symm.trans h
          refine V_lv [0, 1, 2, 3, 4] rfl ?_
          exact B74 (f_X4_earsAtRisk_L21 n) ih _ _ _ _ _ _ h
        · have h := (if_pos e5).symm.trans h
          refine V_aload_n C 0 44 dX4_earsAtRisk_43 rfl rfl ?_
          refine V_iload C 4 46 dX4_earsAtRisk_44 rfl rfl ?_
          refine V_iconst C (4 : Int32) 47 dX4_earsAtRisk_46 rfl rfl ?_
          obtain ⟨r6, k7, h⟩ := bd_some h
          refine V_callP C ml_X4_53 (pre := []) (post := []) (w := mdW g A v) (as := [.int x4, .int (4 : Int32)]) (rest := [.int x3]) (c_X4_m k7) 0 50 dX4_earsAtRisk_47 rfl ⟨Nat.le_of_ble_eq_true rfl, Nat.le_of_ble_eq_true rfl⟩ rfl (rfl) rfl rfl rfl (Nat.le_of_ble_eq_true rfl) ⟨Nat.zero_le _, Nat.zero_le _⟩ ?_
          refine V_iconst C (2 : Int32) 51 dX4_earsAtRisk_50 rfl rfl ?_
          refine V_icmp_ne C 74 54 dX4_earsAtRisk_51 rfl rfl (fun e8 => ?_) (fun e8 => ?_)
          · have h := (if_neg e8).symm.trans h
            refine V_lv [0, 1, 2, 3, 4] rfl ?_
            exact B74 (f_X4_earsAtRisk_L21 n) ih _ _ _ _ _ _ h
          · have h := (if_pos e8).symm.trans h
            refine V_aload_n C 0 55 dX4_earsAtRisk_54 rfl rfl ?_
            refine V_aload_n C 0 56 dX4_earsAtRisk_55 rfl rfl ?_
            refine V_iload C 4 58 dX4_earsAtRisk_56 rfl rfl ?_
            refine V_iconst C (1 : Int32) 59 dX4_earsAtRisk_58 rfl rfl ?_
            obtain ⟨r9, k10, h⟩ := bd_some h
            refine V_callP C ml_X4_53 (pre := []) (post := []) (w := mdW g A v) (as := [.int x4, .int (1 : Int32)]) (rest := [.ref A.1, .int x3]) (c_X4_m k10) 0 62 dX4_earsAtRisk_59 rfl ⟨Nat.le_of_ble_eq_true rfl, Nat.le_of_ble_eq_true rfl⟩ rfl (rfl) rfl rfl rfl (Nat.le_of_ble_eq_true rfl) ⟨Nat.zero_le _, Nat.zero_le _⟩ ?_
            refine V_iload_n C 1 63 dX4_earsAtRisk_62 rfl rfl ?_
            refine V_iload_n C 2 64 dX4_earsAtRisk_63 rfl rfl ?_
            obtain ⟨r11, k12, h⟩ := bd_some h
            refine V_callP C ml_X4_138 (pre := []) (post := []) (w := mdW g A v) (as := [.int r9, .int x1, .int x2]) (rest := [.int x3]) (c_X4_isPassed k12) 0 67 dX4_earsAtRisk_64 rfl ⟨Nat.le_of_ble_eq_true rfl, Nat.le_of_ble_eq_true rfl⟩ rfl (rfl) rfl rfl rfl (Nat.le_of_ble_eq_true rfl) ⟨Nat.zero_le _, Nat.zero_le _⟩ ?_
            refine V_if_eq C 74 70 dX4_earsAtRisk_67 rfl rfl (fun e13 => ?_) (fun e13 => ?_)
            · have h := (if_pos e13).symm.trans h
              refine V_lv [0, 1, 2, 3, 4] rfl ?_
              exact B74 (f_X4_earsAtRisk_L21 n) ih _ _ _ _ _ _ h
            · have h := (if_neg e13).symm.trans h
              refine V_iconst C (1 : Int32) 71 dX4_earsAtRisk_70 rfl rfl ?_
              refine V_goto C 75 dX4_earsAtRisk_71 rfl ?_
              refine V_lv [0, 1, 2, 3, 4] rfl ?_
              exact B75 (f_X4_earsAtRisk_L21 n) ih _ _ _ _ _ _ _ h
  show V K 0 0 _ [(0, .ref A.1), (1, .int a1), (2, .int a2)] [] 0
  unfold f_X4_earsAtRisk at h
  refine V_aload_n C 0 1 dX4_earsAtRisk_0 rfl rfl ?_
  refine V_iload_n C 1 2 dX4_earsAtRisk_1 rfl rfl ?_
  refine V_iconst C (1 : Int32) 3 dX4_earsAtRisk_2 rfl rfl ?_
  refine V_bipush C (20 : Int32) 5 dX4_earsAtRisk_3 rfl rfl ?_
  obtain ⟨r14, k15, h⟩ := bd_some h
  refine V_callPs C mls_X4_57 (pre := []) (post := mdW g A v) (w := []) (as := [.int a1, .int (1 : Int32), .int (20 : Int32)]) (rest := [.ref A.1]) (c_X4_in k15) 8 dX4_earsAtRisk_5 rfl ⟨Nat.le_of_ble_eq_true rfl, Nat.le_of_ble_eq_true rfl⟩ rfl rfl rfl rfl (Nat.le_of_ble_eq_true rfl) ⟨Nat.zero_le _, Nat.zero_le _⟩ ?_
  obtain ⟨r16, k17, h⟩ := bd_some h
  refine V_callS C hBA ml_X4_49 (pre := []) (post := []) (w0 := mdW g A v) (w1 := mdW g A r16.2) (as := [.int r14]) (rest := []) (c_X4_isFine k17) 0 11 (mdW g A r16.2) dX4_earsAtRisk_8 rfl ⟨Nat.le_of_ble_eq_true rfl, Nat.le_of_ble_eq_true rfl⟩ rfl (rfl) (rfl) rfl rfl rfl rfl (Nat.le_of_ble_eq_true rfl) ⟨Nat.zero_le _, Nat.zero_le _⟩ ?_
  refine V_if_ne C 16 14 dX4_earsAtRisk_11 rfl rfl (fun e18 => ?_) (fun e18 => ?_)
  · have h := (if_neg e18).symm.trans h
    refine V_iconst C (0 : Int32) 17 dX4_earsAtRisk_16 rfl rfl ?_
    refine V_istore_n C 18 [(3, .int (0 : Int32)), (0, .ref A.1), (1, .int a1), (2, .int a2)] dX4_earsAtRisk_17 rfl (hlt 3 (by decide)) rfl ?_
    refine V_iconst C (0 : Int32) 19 dX4_earsAtRisk_18 rfl rfl ?_
    refine V_istore C 21 [(4, .int (0 : Int32)), (3, .int (0 : Int32)), (0, .ref A.1), (1, .int a1), (2, .int a2)] dX4_earsAtRisk_19 rfl (hlt 4 (by decide)) rfl ?_
    refine V_lv [2, 3, 4, 1, 0] rfl ?_
    exact L21 100 _ _ _ _ _ h
  · have h := (if_pos e18).symm.trans h
    refine V_iconst C (0 : Int32) 15 dX4_earsAtRisk_14 rfl rfl ?_
    obtain rfl := Option.some.inj h
    exact retI _ _ _ .int rfl (rfl) rfl dX4_earsAtRisk_15
set_option maxHeartbeats 4000000 in
set_option maxRecDepth 100000 in
theorem c_X4_pageRank {l : Launch} {D : va_G} {g : G0} {A : MdA} {v : MdV} {a1 : Int32} {R : Int32} (h : f_X4_pageRank v a1 = some R) : CtP l D g yX4_pageRank cX4_pageRank 4 (some .int) (rmF 1 22) (mdW g A v) [.ref A.1, .int a1] (some (.int R)) := by
  refine CtP.of (by decide) rfl rfl (Nat.le_of_ble_eq_true rfl) ?_
  intro K C el eD ekn retI
  subst el
  subst eD
  have hlt : ∀ i, i < 4 → i < kn K := fun i h => by rw [ekn]; exact h
  have B35 : ∀ (J : Int32 → Int32 → Int32 → Option Int32) (hJ : ∀ (x1 : Int32) (x2 : Int32) (x3 : Int32), J x1 x2 x3 = some R → V K 0 0 (mdW g A v) [(0, .ref A.1), (1, .int x1), (2, .int x2), (3, .int x3)] [] 4) (x1 : Int32) (x2 : Int32) (x3 : Int32) (s0 : Int32) (s1 : Int32), f_X4_pageRank_B35 J v x1 x2 x3 s0 s1 = some R → V K 0 0 (mdW g A v) [(0, .ref A.1), (1, .int x1), (2, .int x2), (3, .int x3)] [.int s0, .int s1] 35 := by
    intro J hJ x1 x2 x3 s0 s1 h
    rw [f_X4_pageRank_B35] at h
    refine V_iadd C 36 dX4_pageRank_35 rfl ?_
    refine V_istore_n C 37 [(2, .int (s1 + s0)), (0, .ref A.1), (1, .int x1), (3, .int x3)] dX4_pageRank_36 rfl (hlt 2 (by decide)) rfl ?_
    refine V_iinc C 3 (x3 + (1 : Int32)) 40 [(3, .int (x3 + (1 : Int32))), (2, .int (s1 + s0)), (0, .ref A.1), (1, .int x1)] dX4_pageRank_37 rfl rfl rfl (hlt 3 (by decide)) rfl ?_
    refine V_goto C 4 dX4_pageRank_40 rfl ?_
    refine V_lv [2, 3, 1, 0] rfl ?_
    exact hJ _ _ _ h
  have L4 : ∀ (n : Nat) (x1 : Int32) (x2 : Int32) (x3 : Int32), f_X4_pageRank_L4 v n x1 x2 x3 = some R → V K 0 0 (mdW g A v) [(0, .ref A.1), (1, .int x1), (2, .int x2), (3, .int x3)] [] 4 := by
    intro n
    induction n with
    | zero =>
      intro x1 x2 x3 h
      rw [f_X4_pageRank_L4] at h
      cases h
    | succ n ih =>
      intro x1 x2 x3 h
      rw [f_X4_pageRank_L4] at h
      refine V_iload_n C 3 5 dX4_pageRank_4 rfl rfl ?_
      refine V_aload_n C 0 6 dX4_pageRank_5 rfl rfl ?_
      refine V_get C (v := .ref A.2.1) 0 9 fl_X4_9 dX4_pageRank_6 rfl rfl rfl ?_
      refine V_iconst C (0 : Int32) 10 dX4_pageRank_9 rfl rfl ?_
      obtain ⟨g1, h⟩ := gd_some h
      refine V_iald C (f := (Md_all v)) (n := 825) 1 11 dX4_pageRank_10 rfl rfl g1 ?_
      refine V_icmp_ge C 43 14 dX4_pageRank_11 rfl rfl (fun e2 => ?_) (fun e2 => ?_)
      · have h := (if_pos e2).symm.trans h
        refine V_iload_n C 2 44 dX4_pageRank_43 rfl rfl ?_
        obtain rfl := Option.some.inj h
        exact retI _ _ _ .int rfl (rfl) rfl dX4_pageRank_44
      · have h := (if_neg e2).symm.trans h
        refine V_iload_n C 2 15 dX4_pageRank_14 rfl rfl ?_
        refine V_aload_n C 0 16 dX4_pageRank_15 rfl rfl ?_
        refine V_iload_n C 3 17 dX4_pageRank_16 rfl rfl ?_
        refine V_iconst C (1 : Int32) 18 dX4_pageRank_17 rfl rfl ?_
        obtain ⟨r3, k4, h⟩ := bd_some h
        refine V_callP C ml_X4_53 (pre := []) (post := []) (w := mdW g A v) (as := [.int x3, .int (1 : Int32)]) (rest := [.int x2]) (c_X4_m k4) 0 21 dX4_pageRank_18 rfl ⟨Nat.le_of_ble_eq_true rfl, Nat.le_of_ble_eq_true rfl⟩ rfl (rfl) rfl rfl rfl (Nat.le_of_ble_eq_true rfl) ⟨Nat.zero_le _, Nat.zero_le _⟩ ?_
        refine V_aload_n C 0 22 dX4_pageRank_21 rfl rfl ?_
        refine V_iload_n C 1 23 dX4_pageRank_22 rfl rfl ?_
        refine V_iconst C (1 : Int32) 24 dX4_pageRank_23 rfl rfl ?_
        obtain ⟨r5, k6, h⟩ := bd_some h
        refine V_callP C ml_X4_53 (pre := []) (post := []) (w := mdW g A v) (as := [.int x1, .int (1 : Int32)]) (rest := [.int r3, .int x2]) (c_X4_m k6) 0 27 dX4_pageRank_24 rfl ⟨Nat.le_of_ble_eq_true rfl, Nat.le_of_ble_eq_true rfl⟩ rfl (rfl) rfl rfl rfl (Nat.le_of_ble_eq_true rfl) ⟨Nat.zero_le _, Nat.zero_le _⟩ ?_
        refine V_icmp_ge C 34 30 dX4_pageRank_27 rfl rfl (fun e7 => ?_) (fun e7 => ?_)
        · have h := (if_pos e7).symm.trans h
          refine V_iconst C (0 : Int32) 35 dX4_pageRank_34 rfl rfl ?_
          refine V_lv [0, 1, 2, 3] rfl ?_
          exact B35 (f_X4_pageRank_L4 v n) ih _ _ _ _ _ h
        · have h := (if_neg e7).symm.trans h
          refine V_iconst C (1 : Int32) 31 dX4_pageRank_30 rfl rfl ?_
          refine V_goto C 35 dX4_pageRank_31 rfl ?_
          refine V_lv [0, 1, 2, 3] rfl ?_
          exact B35 (f_X4_pageRank_L4 v n) ih _ _ _ _ _ h
  show V K 0 0 _ [(0, .ref A.1), (1, .int a1)] [] 0
  unfold f_X4_pageRank at h
  refine V_iconst C (0 : Int32) 1 dX4_pageRank_0 rfl rfl ?_
  refine V_istore_n C 2 [(2, .int (0 : Int32)), (0, .ref A.1), (1, .int a1)] dX4_pageRank_1 rfl (hlt 2 (by decide)) rfl ?_
  refine V_iconst C (0 : Int32) 3 dX4_pageRank_2 rfl rfl ?_
  refine V_istore_n C 4 [(3, .int (0 : Int32)), (2, .int (0 : Int32)), (0, .ref A.1), (1, .int a1)] dX4_pageRank_3 rfl (hlt 3 (by decide)) rfl ?_
  refine V_lv [2, 3, 1, 0] rfl ?_
  exact L4 100 _ _ _ h
set_option maxHeartbeats 4000000 in
set_option maxRecDepth 100000 in
theorem c_X4_weightRank {l : Launch} {D : va_G} {g : G0} {A : MdA} {v : MdV} {a1 : Int32} {R : Int32} (h : f_X4_weightRank v a1 = some R) : CtP l D g yX4_weightRank cX4_weightRank 6 (some .int) (rmF 1 22) (mdW g A v) [.ref A.1, .int a1] (some (.int R)) := by
  refine CtP.of (by decide) rfl rfl (Nat.le_of_ble_eq_true rfl) ?_
  intro K C el eD ekn retI
  subst el
  subst eD
  have hlt : ∀ i, i < 6 → i < kn K := fun i h => by rw [ekn]; exact h
  have B101 : ∀ (J : Int32 → Int32 → Int32 → Option Int32) (hJ : ∀ (x1 : Int32) (x2 : Int32) (x3 : Int32), J x1 x2 x3 = some R → V K 0 0 (mdW g A v) [(0, .ref A.1), (1, .int x1), (2, .int x2), (3, .int x3)] [] 4) (x1 : Int32) (x2 : Int32) (x3 : Int32) (x4 : Int32) (x5 : Int32) (s0 : Int32) (s1 : Int32), f_X4_weightRank_B101 J v x1 x2 x3 x4 x5 s0 s1 = some R → V K 0 0 (mdW g A v) [(0, .ref A.1), (1, .int x1), (2, .int x2), (3, .int x3), (4, .int x4), (5, .int x5)] [.int s0, .int s1] 101 := by
    intro J hJ x1 x2 x3 x4 x5 s0 s1 h
    rw [f_X4_weightRank_B101] at h
    refine V_iadd C 102 dX4_weightRank_101 rfl ?_
    refine V_istore_n C 103 [(2, .int (s1 + s0)), (0, .ref A.1), (1, .int x1), (3, .int x3), (4, .int x4), (5, .int x5)] dX4_weightRank_102 rfl (hlt 2 (by decide)) rfl ?_
    refine V_iinc C 3 (x3 + (1 : Int32)) 106 [(3, .int (x3 + (1 : Int32))), (2, .int (s1 + s0)), (0, .ref A.1), (1, .int x1), (4, .int x4), (5, .int x5)] dX4_weightRank_103 rfl rfl rfl (hlt 3 (by decide)) rfl ?_
    refine V_goto C 4 dX4_weightRank_106 rfl ?_
    refine V_lv [2, 3, 1, 0] rfl ?_
    exact hJ _ _ _ h
  have B100 : ∀ (J : Int32 → Int32 → Int32 → Option Int32) (hJ : ∀ (x1 : Int32) (x2 : Int32) (x3 : Int32), J x1 x2 x3 = some R → V K 0 0 (mdW g A v) [(0, .ref A.1), (1, .int x1), (2, .int x2), (3, .int x3)] [] 4) (x1 : Int32) (x2 : Int32) (x3 : Int32) (x4 : Int32) (x5 : Int32) (s0 : Int32), f_X4_weightRank_B100 J v x1 x2 x3 x4 x5 s0 = some R → V K 0 0 (mdW g A v) [(0, .ref A.1), (1, .int x1), (2, .int x2), (3, .int x3), (4, .int x4), (5, .int x5)] [.int s0] 100 := by
    intro J hJ x1 x2 x3 x4 x5 s0 h
    rw [f_X4_weightRank_B100] at h
    refine V_iconst C (0 : Int32) 101 dX4_weightRank_100 rfl rfl ?_
    refine V_lv [0, 1, 2, 3, 4, 5] rfl ?_
    exact B101 J hJ _ _ _ _ _ _ _ h
  have B96 : ∀ (J : Int32 → Int32 → Int32 → Option Int32) (hJ : ∀ (x1 : Int32) (x2 : Int32) (x3 : Int32), J x1 x2 x3 = some R → V K 0 0 (mdW g A v) [(0, .ref A.1), (1, .int x1), (2, .int x2), (3, .int x3)] [] 4) (x1 : Int32) (x2 : Int32) (x3 : Int32) (x4 : Int32) (x5 : Int32) (s0 : Int32), f_X4_weightRank_B96 J v x1 x2 x3 x4 x5 s0 = some R → V K 0 0 (mdW g A v) [(0, .ref A.1), (1, .int x1), (2, .int x2), (3, .int x3), (4, .int x4), (5, .int x5)] [.int s0] 96 := by
    intro J hJ x1 x2 x3 x4 x5 s0 h
    rw [f_X4_weightRank_B96] at h
    refine V_iconst C (1 : Int32) 97 dX4_weightRank_96 rfl rfl ?_
    refine V_goto C 101 dX4_weightRank_97 rfl ?_
    refine V_lv [0, 1, 2, 3, 4, 5] rfl ?_
    exact B101 J hJ _ _ _ _ _ _ _ h
  have B57 : ∀ (J : Int32 → Int32 → Int32 → Option Int32) (hJ : ∀ (x1 : Int32) (x2 : Int32) (x3 : Int32), J x1 x2 x3 = some R → V K 0 0 (mdW g A v) [(0, .ref A.1), (1, .int x1), (2, .int x2), (3, .int x3)] [] 4) (x1 : Int32) (x2 : Int32) (x3 : Int32) (x4 : Int32) (s0 : Int32) (s1 : Int32), f_X4_weightRank_B57 J v x1 x2 x3 x4 s0 s1 = some R → V K 0 0 (mdW g A v) [(0, .ref A.1), (1, .int x1), (2, .int x2), (3, .int x3), (4, .int x4)] [.int s0, .int s1] 57 := by
    intro J hJ x1 x2 x3 x4 s0 s1 h
    rw [f_X4_weightRank_B57] at h
    refine V_isub C 58 dX4_weightRank_57 rfl ?_
    refine V_istore C 60 [(5, .int (s1 - s0)), (0, .ref A.1), (1, .int x1), (2, .int x2), (3, .int x3), (4, .int x4)] dX4_weightRank_58 rfl (hlt 5 (by decide)) rfl ?_
    refine V_iload_n C 3 61 dX4_weightRank_60 rfl rfl ?_
    refine V_iload C 5 63 dX4_weightRank_61 rfl rfl ?_
    refine V_if_gt C 96 66 dX4_weightRank_63 rfl rfl (fun e1 => ?_) (fun e1 => ?_)
    · have h := (if_pos e1).symm.trans h
      refine V_lv [1, 2, 3, 4, 5, 0] rfl ?_
      exact B96 J hJ _ _ _ _ _ _ h
    · have h := (if_neg e1).symm.trans h
      refine V_iload C 5 68 dX4_weightRank_66 rfl rfl ?_
      refine V_if_ne C 100 71 dX4_weightRank_68 rfl rfl (fun e2 => ?_) (fun e2 => ?_)
      · have h := (if_neg e2).symm.trans h
        refine V_lv [1, 2, 3, 4, 5, 0] rfl ?_
        exact B100 J hJ _ _ _ _ _ _ h
      · have h := (if_pos e2).symm.trans h
        refine V_iload C 0 73 dX4_weightRank_71 rfl rfl ?_
        refine V_if_gt C 96 76 dX4_weightRank_73 rfl rfl (fun e3 => ?_) (fun e3 => ?_)
        · have h := (if_pos e3).symm.trans h
          refine V_lv [1, 2, 3, 4, 5, 0] rfl ?_
          exact B96 J hJ _ _ _ _ _ _ h
        · have h := (if_neg e3).symm.trans h
          refine V_iload C 0 78 dX4_weightRank_76 rfl rfl ?_
          refine V_if_ne C 100 81 dX4_weightRank_78 rfl rfl (fun e4 => ?_) (fun e4 => ?_)
          · have h := (if_neg e4).symm.trans h
            refine V_lv [1, 2, 3, 4, 5, 0] rfl ?_
            exact B100 J hJ _ _ _ _ _ _ h
          · have h := (if_pos e4).symm.trans h
            refine V_aload_n C 1 82 dX4_weightRank_81 rfl rfl ?_
            refine V_iload_n C 4 83 dX4_weightRank_82 rfl rfl ?_
            refine V_iconst C (1 : Int32) 84 dX4_weightRank_83 rfl rfl ?_
            obtain ⟨r5, k6, h⟩ := bd_some h
            refine V_callP C ml_X4_53 (pre := []) (post := []) (w := mdW g A v) (as := [.int x3, .int (1 : Int32)]) (rest := [.int x2]) (c_X4_m k6) 0 87 dX4_weightRank_84 rfl ⟨Nat.le_of_ble_eq_true rfl, Nat.le_of_ble_eq_true rfl⟩ rfl (rfl) rfl rfl rfl (Nat.le_of_ble_eq_true rfl) ⟨Nat.zero_le _, Nat.zero_le _⟩ ?_
            refine V_aload_n C 1 88 dX4_weightRank_87 rfl rfl ?_
            refine V_iload_n C 2 89 dX4_weightRank_88 rfl rfl ?_
            refine V_iconst C (1 : Int32) 90 dX4_weightRank_89 rfl rfl ?_
            obtain ⟨r7, k8, h⟩ := bd_some h
            refine V_callP C ml_X4_53 (pre := []) (post := []) (w := mdW g A v) (as := [.int x1, .int (1 : Int32)]) (rest := [.int r5, .int x2]) (c_X4_m k8) 0 93 dX4_weightRank_90 rfl ⟨Nat.le_of_ble_eq_true rfl, Nat.le_of_ble_eq_true rfl⟩ rfl (rfl) rfl rfl rfl (Nat.le_of_ble_eq_true rfl) ⟨Nat.zero_le _, Nat.zero_le _⟩ ?_
            refine V_icmp_ge C 100 96 dX4_weightRank_93 rfl rfl (fun e9 => ?_) (fun e9 => ?_)
            · have h := (if_pos e9).symm.trans h
              refine V_lv [1, 2, 3, 4, 5, 0] rfl ?_
              exact B100 J hJ _ _ _ _ _ _ h
            · have h := (if_neg e9).symm.trans h
              refine V_lv [1, 2, 3, 4, 5, 0] rfl ?_
              exact B96 J hJ _ _ _ _ _ _ h
  have B43 : ∀ (J : Int32 → Int32 → Int32 → Option Int32) (hJ : ∀ (x1 : Int32) (x2 : Int32) (x3 : Int32), J x1 x2 x3 = some R → V K 0 0 (mdW g A v) [(0, .ref A.1), (1, .int x1), (2, .int x2), (3, .int x3)] [] 4) (x1 : Int32) (x2 : Int32) (x3 : Int32) (x4 : Int32) (s0 : Int32), f_X4_weightRank_B43 J v x1 x2 x3 x4 s0 = some R → V K 0 0 (mdW g A v) [(0, .ref A.1), (1, .int x1), (2, .int x2), (3, .int x3), (4, .int x4)] [.int s0] 43 := by
    intro J hJ x1 x2 x3 x4 s0 h
    rw [f_X4_weightRank_B43] at h
    refine V_aload_n C 0 44 dX4_weightRank_43 rfl rfl ?_
    refine V_iload_n C 1 45 dX4_weightRank_44 rfl rfl ?_
    refine V_iconst C (3 : Int32) 46 dX4_weightRank_45 rfl rfl ?_
    obtain ⟨r10, k11, h⟩ := bd_some h
    refine V_callP C ml_X4_53 (pre := []) (post := []) (w := mdW g A v) (as := [.int x1, .int (3 : Int32)]) (rest := [.int s0]) (c_X4_m k11) 0 49 dX4_weightRank_46 rfl ⟨Nat.le_of_ble_eq_true rfl, Nat.le_of_ble_eq_true rfl⟩ rfl (rfl) rfl rfl rfl (Nat.le_of_ble_eq_true rfl) ⟨Nat.zero_le _, Nat.zero_le _⟩ ?_
    refine V_if_le C 56 52 dX4_weightRank_49 rfl rfl (fun e12 => ?_) (fun e12 => ?_)
    · have h := (if_pos e12).symm.trans h
      refine V_iconst C (0 : Int32) 57 dX4_weightRank_56 rfl rfl ?_
      refine V_lv [0, 1, 2, 3, 4] rfl ?_
      exact B57 J hJ _ _ _ _ _ _ h
    · have h := (if_neg e12).symm.trans h
      refine V_iconst C (1 : Int32) 53 dX4_weightRank_52 rfl rfl ?_
      refine V_goto C 57 dX4_weightRank_53 rfl ?_
      refine V_lv [0, 1, 2, 3, 4] rfl ?_
      exact B57 J hJ _ _ _ _ _ _ h
  have L4 : ∀ (n : Nat) (x1 : Int32) (x2 : Int32) (x3 : Int32), f_X4_weightRank_L4 v n x1 x2 x3 = some R → V K 0 0 (mdW g A v) [(0, .ref A.1), (1, .int x1), (2, .int x2), (3, .int x3)] [] 4 := by
    intro n
    induction n with
    | zero =>
      intro x1 x2 x3 h
      rw [f_X4_weightRank_L4] at h
      cases h
    | succ n ih =>
      intro x1 x2 x3 h
      rw [f_X4_weightRank_L4] at h
      refine V_iload_n C 3 5 dX4_weightRank_4 rfl rfl ?_
      refine V_aload_n C 0 6 dX4_weightRank_5 rfl rfl ?_
      refine V_get C (v := .ref A.2.1) 0 9 fl_X4_9 dX4_weightRank_6 rfl rfl rfl ?_
      refine V_iconst C (0 : Int32) 10 dX4_weightRank_9 rfl rfl ?_
      obtain ⟨g13, h⟩ := gd_some h
      refine V_iald C (f := (Md_all v)) (n := 825) 1 11 dX4_weightRank_10 rfl rfl g13 ?_
      refine V_icmp_ge C 109 14 dX4_weightRank_11 rfl rfl (fun e14 => ?_) (fun e14 => ?_)
      · have h := (if_pos e14).symm.trans h
        refine V_iload_n C 2 110 dX4_weightRank_109 rfl rfl ?_
        obtain rfl := Option.some.inj h
        exact retI _ _ _ .int rfl (rfl) rfl dX4_weightRank_110
      · have h := (if_neg e14).symm.trans h
        refine V_aload_n C 0 15 dX4_weightRank_14 rfl rfl ?_
        refine V_iload_n C 3 16 dX4_weightRank_15 rfl rfl ?_
        refine V_iconst C (2 : Int32) 17 dX4_weightRank_16 rfl rfl ?_
        obtain ⟨r15, k16, h⟩ := bd_some h
        refine V_callP C ml_X4_53 (pre := []) (post := []) (w := mdW g A v) (as := [.int x3, .int (2 : Int32)]) (rest := []) (c_X4_m k16) 0 20 dX4_weightRank_17 rfl ⟨Nat.le_of_ble_eq_true rfl, Nat.le_of_ble_eq_true rfl⟩ rfl (rfl) rfl rfl rfl (Nat.le_of_ble_eq_true rfl) ⟨Nat.zero_le _, Nat.zero_le _⟩ ?_
        refine V_aload_n C 0 21 dX4_weightRank_20 rfl rfl ?_
        refine V_iload_n C 1 22 dX4_weightRank_21 rfl rfl ?_
        refine V_iconst C (2 : Int32) 23 dX4_weightRank_22 rfl rfl ?_
        obtain ⟨r17, k18, h⟩ := bd_some h
        refine V_callP C ml_X4_53 (pre := []) (post := []) (w := mdW g A v) (as := [.int x1, .int (2 : Int32)]) (rest := [.int r15]) (c_X4_m k18) 0 26 dX4_weightRank_23 rfl ⟨Nat.le_of_ble_eq_true rfl, Nat.le_of_ble_eq_true rfl⟩ rfl (rfl) rfl rfl rfl (Nat.le_of_ble_eq_true rfl) ⟨Nat.zero_le _, Nat.zero_le _⟩ ?_
        refine V_isub C 27 dX4_weightRank_26 rfl ?_
        refine V_istore C 29 [(4, .int (r15 - r17)), (0, .ref A.1), (1, .int x1), (2, .int x2), (3, .int x3)] dX4_weightRank_27 rfl (hlt 4 (by decide)) rfl ?_
        refine V_aload_n C 1 30 dX4_weightRank_29 rfl rfl ?_
        refine V_iload_n C 4 31 dX4_weightRank_30 rfl rfl ?_
        refine V_iconst C (3 : Int32) 32 dX4_weightRank_31 rfl rfl ?_
        obtain ⟨r19, k20, h⟩ := bd_some h
        refine V_callP C ml_X4_53 (pre := []) (post := []) (w := mdW g A v) (as := [.int x3, .int (3 : Int32)]) (rest := []) (c_X4_m k20) 0 35 dX4_weightRank_32 rfl ⟨Nat.le_of_ble_eq_true rfl, Nat.le_of_ble_eq_true rfl⟩ rfl (rfl) rfl rfl rfl (Nat.le_of_ble_eq_true rfl) ⟨Nat.zero_le _, Nat.zero_le _⟩ ?_
        refine V_if_le C 42 38 dX4_weightRank_35 rfl rfl (fun e21 => ?_) (fun e21 => ?_)
        · have h := (if_pos e21).symm.trans h
          refine V_iconst C (0 : Int32) 43 dX4_weightRank_42 rfl rfl ?_
          refine V_lv [1, 2, 3, 4, 0] rfl ?_
          exact B43 (f_X4_weightRank_L4 v n) ih _ _ _ _ _ h
        · have h := (if_neg e21).symm.trans h
          refine V_iconst C (1 : Int32) 39 dX4_weightRank_38 rfl rfl ?_
          refine V_goto C 43 dX4_weightRank_39 rfl ?_
          refine V_lv [1, 2, 3, 4, 0] rfl ?_
          exact B43 (f_X4_weightRank_L4 v n) ih _ _ _ _ _ h
  show V K 0 0 _ [(0, .ref A.1), (1, .int a1)] [] 0
  unfold f_X4_weightRank at h
  refine V_iconst C (0 : Int32) 1 dX4_weightRank_0 rfl rfl ?_
  refine V_istore_n C 2 [(2, .int (0 : Int32)), (0, .ref A.1), (1, .int a1)] dX4_weightRank_1 rfl (hlt 2 (by decide)) rfl ?_
  refine V_iconst C (0 : Int32) 3 dX4_weightRank_2 rfl rfl ?_
  refine V_istore_n C 4 [(3, .int (0 : Int32)), (2, .int (0 : Int32)), (0, .ref A.1), (1, .int a1)] dX4_weightRank_3 rfl (hlt 3 (by decide)) rfl ?_
  refine V_lv [2, 3, 1, 0] rfl ?_
  exact L4 100 _ _ _ h
set_option maxHeartbeats 4000000 in
set_option maxRecDepth 100000 in
theorem c_X4_markByPage {l : Launch} {D : va_G} {g : G0} {A : MdA} {v : MdV} {a1 : Int32} {R : (Int32 × MdV)} (h : f_X4_markByPage v a1 = some R) : CtS l D g yX4_markByPage cX4_markByPage 3 (some .int) (rmF 2 45) (mdW g A v) [.ref A.1, .int a1] (some (.int R.1)) (mdW g A R.2) := by
  refine CtS.of (by decide) (Nat.le_of_ble_eq_true rfl) ?_
  intro K C hBA el eD ekn retI retV
  subst el
  subst eD
  have hlt : ∀ i, i < 3 → i < kn K := fun i h => by rw [ekn]; exact h
  have B27 : ∀ (J : Int32 → Int32 → MdV → Option (Int32 × MdV)) (hJ : ∀ (x1 : Int32) (x2 : Int32) (v : MdV), J x1 x2 v = some R → V K 0 0 (mdW g A v) [(0, .ref A.1), (1, .int x1), (2, .int x2)] [] 2) (x1 : Int32) (x2 : Int32) (s0 : Int32) (v : MdV), f_X4_markByPage_B27 J x1 x2 s0 v = some R → V K 0 0 (mdW g A v) [(0, .ref A.1), (1, .int x1), (2, .int x2)] [.int s0, .ref A.1] 27 := by
    intro J hJ x1 x2 s0 v h
    rw [f_X4_markByPage_B27] at h
    obtain ⟨r1, k2, h⟩ := bd_some h
    refine V_callS C hBA ml_X4_49 (pre := []) (post := []) (w0 := mdW g A v) (w1 := mdW g A r1.2) (as := [.int s0]) (rest := []) (c_X4_isFine k2) 0 30 (mdW g A r1.2) dX4_markByPage_27 rfl ⟨Nat.le_of_ble_eq_true rfl, Nat.le_of_ble_eq_true rfl⟩ rfl (rfl) (rfl) rfl rfl rfl rfl (Nat.le_of_ble_eq_true rfl) ⟨Nat.zero_le _, Nat.zero_le _⟩ ?_
    refine V_if_eq C 40 33 dX4_markByPage_30 rfl rfl (fun e3 => ?_) (fun e3 => ?_)
    · have h := (if_pos e3).symm.trans h
      refine V_iinc C 2 (x2 + (1 : Int32)) 43 [(2, .int (x2 + (1 : Int32))), (0, .ref A.1), (1, .int x1)] dX4_markByPage_40 rfl rfl rfl (hlt 2 (by decide)) rfl ?_
      refine V_goto C 2 dX4_markByPage_43 rfl ?_
      refine V_lv [1, 2, 0] rfl ?_
      exact hJ _ _ _ h
    · have h := (if_neg e3).symm.trans h
      refine V_aload_n C 0 34 dX4_markByPage_33 rfl rfl ?_
      refine V_iload_n C 2 35 dX4_markByPage_34 rfl rfl ?_
      refine V_iconst C (0 : Int32) 36 dX4_markByPage_35 rfl rfl ?_
      obtain ⟨r4, k5, h⟩ := bd_some h
      refine V_callP C ml_X4_53 (pre := []) (post := []) (w := mdW g A r1.2) (as := [.int x2, .int (0 : Int32)]) (rest := []) (c_X4_m k5) 0 39 dX4_markByPage_36 rfl ⟨Nat.le_of_ble_eq_true rfl, Nat.le_of_ble_eq_true rfl⟩ rfl (rfl) rfl rfl rfl (Nat.le_of_ble_eq_true rfl) ⟨Nat.zero_le _, Nat.zero_le _⟩ ?_
      obtain rfl := Option.some.inj h
      exact retI _ _ _ .int rfl (rfl) rfl dX4_markByPage_39
  have L2 : ∀ (n : Nat) (x1 : Int32) (x2 : Int32) (v : MdV), f_X4_markByPage_L2 n x1 x2 v = some R → V K 0 0 (mdW g A v) [(0, .ref A.1), (1, .int x1), (2, .int x2)] [] 2 := by
    intro n
    induction n with
    | zero =>
      intro x1 x2 v h
      rw [f_X4_markByPage_L2] at h
      cases h
    | succ n ih =>
      intro x1 x2 v h
      rw [f_X4_markByPage_L2] at h
      refine V_iload_n C 2 3 dX4_markByPage_2 rfl rfl ?_
      refine V_aload_n C 0 4 dX4_markByPage_3 rfl rfl ?_
      refine V_get C (v := .ref A.2.1) 0 7 fl_X4_9 dX4_markByPage_4 rfl rfl rfl ?_
      refine V_iconst C (0 : Int32) 8 dX4_markByPage_7 rfl rfl ?_
      obtain ⟨g6, h⟩ := gd_some h
      refine V_iald C (f := (Md_all v)) (n := 825) 1 9 dX4_markByPage_8 rfl rfl g6 ?_
      refine V_icmp_ge C 46 12 dX4_markByPage_9 rfl rfl (fun e7 => ?_) (fun e7 => ?_)
      · have h := (if_pos e7).symm.trans h
        refine V_aload_n C 0 47 dX4_markByPage_46 rfl rfl ?_
        refine V_iconst C (1 : Int32) 48 dX4_markByPage_47 rfl rfl ?_
        refine V_put C hBA 0 51 (mdW g A ((Md_all v), (Md_output v), (Md_input v), (Md_commands v), (1 : Int32), (Md_changes v), (Md_isSaved v), (Md_result v), (Md_why v), (Md_detail v), (Md_cause v), (Md_outputSize v), (Md_typed v), (Md_here v), (Md_error v), (Md_errorAt v), (Md_commandMany v))) fl_X4_27 fp_X4_0 dX4_markByPage_48 rfl rfl (Nat.le_of_ble_eq_true rfl) rfl rfl rfl ?_
        refine V_iconst C (0 : Int32) 52 dX4_markByPage_51 rfl rfl ?_
        obtain rfl := Option.some.inj h
        exact retI _ _ _ .int rfl (rfl) rfl dX4_markByPage_52
      · have h := (if_neg e7).symm.trans h
        refine V_aload_n C 0 13 dX4_markByPage_12 rfl rfl ?_
        refine V_aload_n C 0 14 dX4_markByPage_13 rfl rfl ?_
        refine V_iload_n C 2 15 dX4_markByPage_14 rfl rfl ?_
        obtain ⟨r8, k9, h⟩ := bd_some h
        refine V_callP C ml_X4_168 (pre := []) (post := []) (w := mdW g A v) (as := [.int x2]) (rest := [.ref A.1]) (c_X4_pageRank k9) 0 18 dX4_markByPage_15 rfl ⟨Nat.le_of_ble_eq_true rfl, Nat.le_of_ble_eq_true rfl⟩ rfl (rfl) rfl rfl rfl (Nat.le_of_ble_eq_true rfl) ⟨Nat.zero_le _, Nat.zero_le _⟩ ?_
        refine V_iload_n C 1 19 dX4_markByPage_18 rfl rfl ?_
        refine V_icmp_ne C 26 22 dX4_markByPage_19 rfl rfl (fun e10 => ?_) (fun e10 => ?_)
        · have h := (if_neg e10).symm.trans h
          refine V_iconst C (0 : Int32) 27 dX4_markByPage_26 rfl rfl ?_
          refine V_lv [0, 1, 2] rfl ?_
          exact B27 (f_X4_markByPage_L2 n) ih _ _ _ _ h
        · have h := (if_pos e10).symm.trans h
          refine V_iconst C (1 : Int32) 23 dX4_markByPage_22 rfl rfl ?_
          refine V_goto C 27 dX4_markByPage_23 rfl ?_
          refine V_lv [0, 1, 2] rfl ?_
          exact B27 (f_X4_markByPage_L2 n) ih _ _ _ _ h
  show V K 0 0 _ [(0, .ref A.1), (1, .int a1)] [] 0
  unfold f_X4_markByPage at h
  refine V_iconst C (0 : Int32) 1 dX4_markByPage_0 rfl rfl ?_
  refine V_istore_n C 2 [(2, .int (0 : Int32)), (0, .ref A.1), (1, .int a1)] dX4_markByPage_1 rfl (hlt 2 (by decide)) rfl ?_
  refine V_lv [1, 2, 0] rfl ?_
  exact L2 100 _ _ _ h
set_option maxHeartbeats 4000000 in
set_option maxRecDepth 100000 in
theorem c_X4_markByWeight {l : Launch} {D : va_G} {g : G0} {A : MdA} {v : MdV} {a1 : Int32} {R : (Int32 × MdV)} (h : f_X4_markByWeight v a1 = some R) : CtS l D g yX4_markByWeight cX4_markByWeight 3 (some .int) (rmF 2 47) (mdW g A v) [.ref A.1, .int a1] (some (.int R.1)) (mdW g A R.2) := by
  refine CtS.of (by decide) (Nat.le_of_ble_eq_true rfl) ?_
  intro K C hBA el eD ekn retI retV
  subst el
  subst eD
  have hlt : ∀ i, i < 3 → i < kn K := fun i h => by rw [ekn]; exact h
  have B27 : ∀ (J : Int32 → Int32 → MdV → Option (Int32 × MdV)) (hJ : ∀ (x1 : Int32) (x2 : Int32) (v : MdV), J x1 x2 v = some R → V K 0 0 (mdW g A v) [(0, .ref A.1), (1, .int x1), (2, .int x2)] [] 2) (x1 : Int32) (x2 : Int32) (s0 : Int32) (v : MdV), f_X4_markByWeight_B27 J x1 x2 s0 v = some R → V K 0 0 (mdW g A v) [(0, .ref A.1), (1, .int x1), (2, .int x2)] [.int s0, .ref A.1] 27 := by
    intro J hJ x1 x2 s0 v h
    rw [f_X4_markByWeight_B27] at h
    obtain ⟨r1, k2, h⟩ := bd_some h
    refine V_callS C hBA ml_X4_49 (pre := []) (post := []) (w0 := mdW g A v) (w1 := mdW g A r1.2) (as := [.int s0]) (rest := []) (c_X4_isFine k2) 0 30 (mdW g A r1.2) dX4_markByWeight_27 rfl ⟨Nat.le_of_ble_eq_true rfl, Nat.le_of_ble_eq_true rfl⟩ rfl (rfl) (rfl) rfl rfl rfl rfl (Nat.le_of_ble_eq_true rfl) ⟨Nat.zero_le _, Nat.zero_le _⟩ ?_
    refine V_if_eq C 40 33 dX4_markByWeight_30 rfl rfl (fun e3 => ?_) (fun e3 => ?_)
    · have h := (if_pos e3).symm.trans h
      refine V_iinc C 2 (x2 + (1 : Int32)) 43 [(2, .int (x2 + (1 : Int32))), (0, .ref A.1), (1, .int x1)] dX4_markByWeight_40 rfl rfl rfl (hlt 2 (by decide)) rfl ?_
      refine V_goto C 2 dX4_markByWeight_43 rfl ?_
      refine V_lv [1, 2, 0] rfl ?_
      exact hJ _ _ _ h
    · have h := (if_neg e3).symm.trans h
      refine V_aload_n C 0 34 dX4_markByWeight_33 rfl rfl ?_
      refine V_iload_n C 2 35 dX4_markByWeight_34 rfl rfl ?_
      refine V_iconst C (0 : Int32) 36 dX4_markByWeight_35 rfl rfl ?_
      obtain ⟨r4, k5, h⟩ := bd_some h
      refine V_callP C ml_X4_53 (pre := []) (post := []) (w := mdW g A r1.2) (as := [.int x2, .int (0 : Int32)]) (rest := []) (c_X4_m k5) 0 39 dX4_markByWeight_36 rfl ⟨Nat.le_of_ble_eq_true rfl, Nat.le_of_ble_eq_true rfl⟩ rfl (rfl) rfl rfl rfl (Nat.le_of_ble_eq_true rfl) ⟨Nat.zero_le _, Nat.zero_le _⟩ ?_
      obtain rfl := Option.some.inj h
      exact retI _ _ _ .int rfl (rfl) rfl dX4_markByWeight_39
  have L2 : ∀ (n : Nat) (x1 : Int32) (x2 : Int32) (v : MdV), f_X4_markByWeight_L2 n x1 x2 v = some R → V K 0 0 (mdW g A v) [(0, .ref A.1), (1, .int x1), (2, .int x2)] [] 2 := by
    intro n
    induction n with
    | zero =>
      intro x1 x2 v h
      rw [f_X4_markByWeight_L2] at h
      cases h
    | succ n ih =>
      intro x1 x2 v h
      rw [f_X4_markByWeight_L2] at h
      refine V_iload_n C 2 3 dX4_markByWeight_2 rfl rfl ?_
      refine V_aload_n C 0 4 dX4_markByWeight_3 rfl rfl ?_
      refine V_get C (v := .ref A.2.1) 0 7 fl_X4_9 dX4_markByWeight_4 rfl rfl rfl ?_
      refine V_iconst C (0 : Int32) 8 dX4_markByWeight_7 rfl rfl ?_
      obtain ⟨g6, h⟩ := gd_some h
      refine V_iald C (f := (Md_all v)) (n := 825) 1 9 dX4_markByWeight_8 rfl rfl g6 ?_
      refine V_icmp_ge C 46 12 dX4_markByWeight_9 rfl rfl (fun e7 => ?_) (fun e7 => ?_)
      · have h := (if_pos e7).symm.trans h
        refine V_aload_n C 0 47 dX4_markByWeight_46 rfl rfl ?_
        refine V_iconst C (1 : Int32) 48 dX4_markByWeight_47 rfl rfl ?_
        refine V_put C hBA 0 51 (mdW g A ((Md_all v), (Md_output v), (Md_input v), (Md_commands v), (1 : Int32), (Md_changes v), (Md_isSaved v), (Md_result v), (Md_why v), (Md_detail v), (Md_cause v), (Md_outputSize v), (Md_typed v), (Md_here v), (Md_error v), (Md_errorAt v), (Md_commandMany v))) fl_X4_27 fp_X4_0 dX4_markByWeight_48 rfl rfl (Nat.le_of_ble_eq_true rfl) rfl rfl rfl ?_
        refine V_iconst C (0 : Int32) 52 dX4_markByWeight_51 rfl rfl ?_
        obtain rfl := Option.some.inj h
        exact retI _ _ _ .int rfl (rfl) rfl dX4_markByWeight_52
      · have h := (if_neg e7).symm.trans h
        refine V_aload_n C 0 13 dX4_markByWeight_12 rfl rfl ?_
        refine V_aload_n C 0 14 dX4_markByWeight_13 rfl rfl ?_
        refine V_iload_n C 2 15 dX4_markByWeight_14 rfl rfl ?_
        obtain ⟨r8, k9, h⟩ := bd_some h
        refine V_callP C ml_X4_171 (pre := []) (post := []) (w := mdW g A v) (as := [.int x2]) (rest := [.ref A.1]) (c_X4_weightRank k9) 0 18 dX4_markByWeight_15 rfl ⟨Nat.le_of_ble_eq_true rfl, Nat.le_of_ble_eq_true rfl⟩ rfl (rfl) rfl rfl rfl (Nat.le_of_ble_eq_true rfl) ⟨Nat.zero_le _, Nat.zero_le _⟩ ?_
        refine V_iload_n C 1 19 dX4_markByWeight_18 rfl rfl ?_
        refine V_icmp_ne C 26 22 dX4_markByWeight_19 rfl rfl (fun e10 => ?_) (fun e10 => ?_)
        · have h := (if_neg e10).symm.trans h
          refine V_iconst C (0 : Int32) 27 dX4_markByWeight_26 rfl rfl ?_
          refine V_lv [0, 1, 2] rfl ?_
          exact B27 (f_X4_markByWeight_L2 n) ih _ _ _ _ h
        · have h := (if_pos e10).symm.trans h
          refine V_iconst C (1 : Int32) 23 dX4_markByWeight_22 rfl rfl ?_
          refine V_goto C 27 dX4_markByWeight_23 rfl ?_
          refine V_lv [0, 1, 2] rfl ?_
          exact B27 (f_X4_markByWeight_L2 n) ih _ _ _ _ h
  show V K 0 0 _ [(0, .ref A.1), (1, .int a1)] [] 0
  unfold f_X4_markByWeight at h
  refine V_iconst C (0 : Int32) 1 dX4_markByWeight_0 rfl rfl ?_
  refine V_istore_n C 2 [(2, .int (0 : Int32)), (0, .ref A.1), (1, .int a1)] dX4_markByWeight_1 rfl (hlt 2 (by decide)) rfl ?_
  refine V_lv [1, 2, 0] rfl ?_
  exact L2 100 _ _ _ h
set_option maxHeartbeats 4000000 in
set_option maxRecDepth 100000 in
theorem c_X4_span {l : Launch} {D : va_G} {g : G0} {A : MdA} {v : MdV} {R : (Int32 × MdV)} (h : f_X4_span v  = some R) : CtS l D g yX4_span cX4_span 4 (some .int) (rmF 1 22) (mdW g A v) [.ref A.1] (some (.int R.1)) (mdW g A R.2) := by
  refine CtS.of (by decide) (Nat.le_of_ble_eq_true rfl) ?_
  intro K C hBA el eD ekn retI retV
  subst el
  subst eD
  have hlt : ∀ i, i < 4 → i < kn K := fun i h => by rw [ekn]; exact h
  have B88 : ∀ (x1 : Int32) (x2 : Int32) (x3 : Int32) (s0 : Int32) (v : MdV), f_X4_span_B88 x1 x2 x3 s0 v = some R → V K 0 0 (mdW g A v) [(0, .ref A.1), (1, .int x1), (2, .int x2), (3, .int x3)] [.int s0] 88 := by
    intro x1 x2 x3 s0 v h
    rw [f_X4_span_B88] at h
    obtain rfl := Option.some.inj h
    exact retI _ _ _ .int rfl (rfl) rfl dX4_span_88
  have B64 : ∀ (J : Int32 → Int32 → Int32 → MdV → Option (Int32 × MdV)) (hJ : ∀ (x1 : Int32) (x2 : Int32) (x3 : Int32) (v : MdV), J x1 x2 x3 v = some R → V K 0 0 (mdW g A v) [(0, .ref A.1), (1, .int x1), (2, .int x2), (3, .int x3)] [] 13) (x1 : Int32) (x2 : Int32) (x3 : Int32) (s0 : Int32) (v : MdV), f_X4_span_B64 J x1 x2 x3 s0 v = some R → V K 0 0 (mdW g A v) [(0, .ref A.1), (1, .int x1), (2, .int x2), (3, .int x3)] [.int s0] 64 := by
    intro J hJ x1 x2 x3 s0 v h
    rw [f_X4_span_B64] at h
    refine V_istore_n C 65 [(2, .int s0), (0, .ref A.1), (1, .int x1), (3, .int x3)] dX4_span_64 rfl (hlt 2 (by decide)) rfl ?_
    refine V_iinc C 3 (x3 + (1 : Int32)) 68 [(3, .int (x3 + (1 : Int32))), (2, .int s0), (0, .ref A.1), (1, .int x1)] dX4_span_65 rfl rfl rfl (hlt 3 (by decide)) rfl ?_
    refine V_goto C 13 dX4_span_68 rfl ?_
    refine V_lv [2, 3, 1, 0] rfl ?_
    exact hJ _ _ _ _ h
  have B43 : ∀ (J : Int32 → Int32 → Int32 → MdV → Option (Int32 × MdV)) (hJ : ∀ (x1 : Int32) (x2 : Int32) (x3 : Int32) (v : MdV), J x1 x2 x3 v = some R → V K 0 0 (mdW g A v) [(0, .ref A.1), (1, .int x1), (2, .int x2), (3, .int x3)] [] 13) (x1 : Int32) (x2 : Int32) (x3 : Int32) (s0 : Int32) (v : MdV), f_X4_span_B43 J x1 x2 x3 s0 v = some R → V K 0 0 (mdW g A v) [(0, .ref A.1), (1, .int x1), (2, .int x2), (3, .int x3)] [.int s0] 43 := by
    intro J hJ x1 x2 x3 s0 v h
    rw [f_X4_span_B43] at h
    refine V_istore_n C 44 [(1, .int s0), (0, .ref A.1), (2, .int x2), (3, .int x3)] dX4_span_43 rfl (hlt 1 (by decide)) rfl ?_
    refine V_aload_n C 1 45 dX4_span_44 rfl rfl ?_
    refine V_iload_n C 3 46 dX4_span_45 rfl rfl ?_
    refine V_iconst C (1 : Int32) 47 dX4_span_46 rfl rfl ?_
    obtain ⟨r1, k2, h⟩ := bd_some h
    refine V_callP C ml_X4_53 (pre := []) (post := []) (w := mdW g A v) (as := [.int x3, .int (1 : Int32)]) (rest := []) (c_X4_m k2) 0 50 dX4_span_47 rfl ⟨Nat.le_of_ble_eq_true rfl, Nat.le_of_ble_eq_true rfl⟩ rfl (rfl) rfl rfl rfl (Nat.le_of_ble_eq_true rfl) ⟨Nat.zero_le _, Nat.zero_le _⟩ ?_
    refine V_iload_n C 2 51 dX4_span_50 rfl rfl ?_
    refine V_icmp_le C 63 54 dX4_span_51 rfl rfl (fun e3 => ?_) (fun e3 => ?_)
    · have h := (if_pos e3).symm.trans h
      refine V_iload_n C 2 64 dX4_span_63 rfl rfl ?_
      refine V_lv [1, 0, 2, 3] rfl ?_
      exact B64 J hJ _ _ _ _ _ h
    · have h := (if_neg e3).symm.trans h
      refine V_aload_n C 1 55 dX4_span_54 rfl rfl ?_
      refine V_iload_n C 3 56 dX4_span_55 rfl rfl ?_
      refine V_iconst C (1 : Int32) 57 dX4_span_56 rfl rfl ?_
      obtain ⟨r4, k5, h⟩ := bd_some h
      refine V_callP C ml_X4_53 (pre := []) (post := []) (w := mdW g A v) (as := [.int x3, .int (1 : Int32)]) (rest := []) (c_X4_m k5) 0 60 dX4_span_57 rfl ⟨Nat.le_of_ble_eq_true rfl, Nat.le_of_ble_eq_true rfl⟩ rfl (rfl) rfl rfl rfl (Nat.le_of_ble_eq_true rfl) ⟨Nat.zero_le _, Nat.zero_le _⟩ ?_
      refine V_goto C 64 dX4_span_60 rfl ?_
      refine V_lv [1, 0, 2, 3] rfl ?_
      exact B64 J hJ _ _ _ _ _ h
  have L13 : ∀ (n : Nat) (x1 : Int32) (x2 : Int32) (x3 : Int32) (v : MdV), f_X4_span_L13 n x1 x2 x3 v = some R → V K 0 0 (mdW g A v) [(0, .ref A.1), (1, .int x1), (2, .int x2), (3, .int x3)] [] 13 := by
    intro n
    induction n with
    | zero =>
      intro x1 x2 x3 v h
      rw [f_X4_span_L13] at h
      cases h
    | succ n ih =>
      intro x1 x2 x3 v h
      rw [f_X4_span_L13] at h
      refine V_iload_n C 3 14 dX4_span_13 rfl rfl ?_
      refine V_aload_n C 0 15 dX4_span_14 rfl rfl ?_
      refine V_get C (v := .ref A.2.1) 0 18 fl_X4_9 dX4_span_15 rfl rfl rfl ?_
      refine V_iconst C (0 : Int32) 19 dX4_span_18 rfl rfl ?_
      obtain ⟨g6, h⟩ := gd_some h
      refine V_iald C (f := (Md_all v)) (n := 825) 1 20 dX4_span_19 rfl rfl g6 ?_
      refine V_icmp_ge C 71 23 dX4_span_20 rfl rfl (fun e7 => ?_) (fun e7 => ?_)
      · have h := (if_pos e7).symm.trans h
        refine V_aload_n C 0 72 dX4_span_71 rfl rfl ?_
        refine V_get C (v := .ref A.2.1) 0 75 fl_X4_9 dX4_span_72 rfl rfl rfl ?_
        refine V_iconst C (0 : Int32) 76 dX4_span_75 rfl rfl ?_
        obtain ⟨g8, h⟩ := gd_some h
        refine V_iald C (f := (Md_all v)) (n := 825) 1 77 dX4_span_76 rfl rfl g8 ?_
        refine V_iconst C (2 : Int32) 78 dX4_span_77 rfl rfl ?_
        refine V_icmp_ge C 85 81 dX4_span_78 rfl rfl (fun e9 => ?_) (fun e9 => ?_)
        · have h := (if_pos e9).symm.trans h
          refine V_iload_n C 2 86 dX4_span_85 rfl rfl ?_
          refine V_iload_n C 1 87 dX4_span_86 rfl rfl ?_
          refine V_isub C 88 dX4_span_87 rfl ?_
          refine V_lv [0, 1, 2, 3] rfl ?_
          exact B88 _ _ _ _ _ h
        · have h := (if_neg e9).symm.trans h
          refine V_iconst C (0 : Int32) 82 dX4_span_81 rfl rfl ?_
          refine V_goto C 88 dX4_span_82 rfl ?_
          refine V_lv [0, 1, 2, 3] rfl ?_
          exact B88 _ _ _ _ _ h
      · have h := (if_neg e7).symm.trans h
        refine V_aload_n C 0 24 dX4_span_23 rfl rfl ?_
        refine V_iload_n C 3 25 dX4_span_24 rfl rfl ?_
        refine V_iconst C (1 : Int32) 26 dX4_span_25 rfl rfl ?_
        obtain ⟨r10, k11, h⟩ := bd_some h
        refine V_callP C ml_X4_53 (pre := []) (post := []) (w := mdW g A v) (as := [.int x3, .int (1 : Int32)]) (rest := []) (c_X4_m k11) 0 29 dX4_span_26 rfl ⟨Nat.le_of_ble_eq_true rfl, Nat.le_of_ble_eq_true rfl⟩ rfl (rfl) rfl rfl rfl (Nat.le_of_ble_eq_true rfl) ⟨Nat.zero_le _, Nat.zero_le _⟩ ?_
        refine V_iload_n C 1 30 dX4_span_29 rfl rfl ?_
        refine V_icmp_ge C 42 33 dX4_span_30 rfl rfl (fun e12 => ?_) (fun e12 => ?_)
        · have h := (if_pos e12).symm.trans h
          refine V_iload_n C 1 43 dX4_span_42 rfl rfl ?_
          refine V_lv [0, 1, 2, 3] rfl ?_
          exact B43 (f_X4_span_L13 n) ih _ _ _ _ _ h
        · have h := (if_neg e12).symm.trans h
          refine V_aload_n C 0 34 dX4_span_33 rfl rfl ?_
          refine V_iload_n C 3 35 dX4_span_34 rfl rfl ?_
          refine V_iconst C (1 : Int32) 36 dX4_span_35 rfl rfl ?_
          obtain ⟨r13, k14, h⟩ := bd_some h
          refine V_callP C ml_X4_53 (pre := []) (post := []) (w := mdW g A v) (as := [.int x3, .int (1 : Int32)]) (rest := []) (c_X4_m k14) 0 39 dX4_span_36 rfl ⟨Nat.le_of_ble_eq_true rfl, Nat.le_of_ble_eq_true rfl⟩ rfl (rfl) rfl rfl rfl (Nat.le_of_ble_eq_true rfl) ⟨Nat.zero_le _, Nat.zero_le _⟩ ?_
          refine V_goto C 43 dX4_span_39 rfl ?_
          refine V_lv [0, 1, 2, 3] rfl ?_
          exact B43 (f_X4_span_L13 n) ih _ _ _ _ _ h
  show V K 0 0 _ [(0, .ref A.1)] [] 0
  unfold f_X4_span at h
  refine V_aload_n C 0 1 dX4_span_0 rfl rfl ?_
  refine V_iconst C (0 : Int32) 2 dX4_span_1 rfl rfl ?_
  refine V_put C hBA 0 5 (mdW g A ((Md_all v), (Md_output v), (Md_input v), (Md_commands v), (0 : Int32), (Md_changes v), (Md_isSaved v), (Md_result v), (Md_why v), (Md_detail v), (Md_cause v), (Md_outputSize v), (Md_typed v), (Md_here v), (Md_error v), (Md_errorAt v), (Md_commandMany v))) fl_X4_27 fp_X4_0 dX4_span_2 rfl rfl (Nat.le_of_ble_eq_true rfl) rfl rfl rfl ?_
  refine V_sipush C (1000 : Int32) 8 dX4_span_5 rfl rfl ?_
  refine V_istore_n C 9 [(1, .int (1000 : Int32)), (0, .ref A.1)] dX4_span_8 rfl (hlt 1 (by decide)) rfl ?_
  refine V_iconst C (-1 : Int32) 10 dX4_span_9 rfl rfl ?_
  refine V_istore_n C 11 [(2, .int (-1 : Int32)), (1, .int (1000 : Int32)), (0, .ref A.1)] dX4_span_10 rfl (hlt 2 (by decide)) rfl ?_
  refine V_iconst C (0 : Int32) 12 dX4_span_11 rfl rfl ?_
  refine V_istore_n C 13 [(3, .int (0 : Int32)), (2, .int (-1 : Int32)), (1, .int (1000 : Int32)), (0, .ref A.1)] dX4_span_12 rfl (hlt 3 (by decide)) rfl ?_
  refine V_lv [3, 2, 1, 0] rfl ?_
  exact L13 100 _ _ _ _ h
set_option maxHeartbeats 4000000 in
set_option maxRecDepth 100000 in
theorem c_X4_spanByEnds {l : Launch} {D : va_G} {g : G0} {A : MdA} {v : MdV} {R : (Int32 × MdV)} (h : f_X4_spanByEnds v  = some R) : CtS l D g yX4_spanByEnds cX4_spanByEnds 1 (some .int) (rmF 2 45) (mdW g A v) [.ref A.1] (some (.int R.1)) (mdW g A R.2) := by
  refine CtS.of (by decide) (Nat.le_of_ble_eq_true rfl) ?_
  intro K C hBA el eD ekn retI retV
  subst el
  subst eD
  have hlt : ∀ i, i < 1 → i < kn K := fun i h => by rw [ekn]; exact h
  show V K 0 0 _ [(0, .ref A.1)] [] 0
  unfold f_X4_spanByEnds at h
  refine V_aload_n C 0 1 dX4_spanByEnds_0 rfl rfl ?_
  obtain ⟨r1, k2, h⟩ := bd_some h
  refine V_callS C hBA ml_X4_174 (pre := []) (post := []) (w0 := mdW g A v) (w1 := mdW g A r1.2) (as := []) (rest := []) (c_X4_span k2) 0 4 (mdW g A r1.2) dX4_spanByEnds_1 rfl ⟨Nat.le_of_ble_eq_true rfl, Nat.le_of_ble_eq_true rfl⟩ rfl (rfl) (rfl) rfl rfl rfl rfl (Nat.le_of_ble_eq_true rfl) ⟨Nat.zero_le _, Nat.zero_le _⟩ ?_
  obtain rfl := Option.some.inj h
  exact retI _ _ _ .int rfl (rfl) rfl dX4_spanByEnds_4
set_option maxHeartbeats 4000000 in
set_option maxRecDepth 100000 in
theorem c_X4_ribbonWeight {l : Launch} {D : va_G} {g : G0} {A : MdA} {v : MdV} {R : (Int32 × MdV)} (h : f_X4_ribbonWeight v  = some R) : CtS l D g yX4_ribbonWeight cX4_ribbonWeight 1 (some .int) (rmF 2 45) (mdW g A v) [.ref A.1] (some (.int R.1)) (mdW g A R.2) := by
  refine CtS.of (by decide) (Nat.le_of_ble_eq_true rfl) ?_
  intro K C hBA el eD ekn retI retV
  subst el
  subst eD
  have hlt : ∀ i, i < 1 → i < kn K := fun i h => by rw [ekn]; exact h
  show V K 0 0 _ [(0, .ref A.1)] [] 0
  unfold f_X4_ribbonWeight at h
  refine V_aload_n C 0 1 dX4_ribbonWeight_0 rfl rfl ?_
  refine V_iconst C (0 : Int32) 2 dX4_ribbonWeight_1 rfl rfl ?_
  refine V_put C hBA 0 5 (mdW g A ((Md_all v), (Md_output v), (Md_input v), (Md_commands v), (0 : Int32), (Md_changes v), (Md_isSaved v), (Md_result v), (Md_why v), (Md_detail v), (Md_cause v), (Md_outputSize v), (Md_typed v), (Md_here v), (Md_error v), (Md_errorAt v), (Md_commandMany v))) fl_X4_27 fp_X4_0 dX4_ribbonWeight_2 rfl rfl (Nat.le_of_ble_eq_true rfl) rfl rfl rfl ?_
  refine V_aload_n C 0 6 dX4_ribbonWeight_5 rfl rfl ?_
  refine V_iconst C (1 : Int32) 7 dX4_ribbonWeight_6 rfl rfl ?_
  obtain ⟨r1, k2, h⟩ := bd_some h
  refine V_callP C ml_X4_68 (pre := []) (post := []) (w := mdW g A ((Md_all v), (Md_output v), (Md_input v), (Md_commands v), (0 : Int32), (Md_changes v), (Md_isSaved v), (Md_result v), (Md_why v), (Md_detail v), (Md_cause v), (Md_outputSize v), (Md_typed v), (Md_here v), (Md_error v), (Md_errorAt v), (Md_commandMany v))) (as := [.int (1 : Int32)]) (rest := []) (c_X4_weightOfAll k2) 0 10 dX4_ribbonWeight_7 rfl ⟨Nat.le_of_ble_eq_true rfl, Nat.le_of_ble_eq_true rfl⟩ rfl (rfl) rfl rfl rfl (Nat.le_of_ble_eq_true rfl) ⟨Nat.zero_le _, Nat.zero_le _⟩ ?_
  obtain rfl := Option.some.inj h
  exact retI _ _ _ .int rfl (rfl) rfl dX4_ribbonWeight_10
set_option maxHeartbeats 4000000 in
set_option maxRecDepth 100000 in
theorem c_X4_dogEarWeight {l : Launch} {D : va_G} {g : G0} {A : MdA} {v : MdV} {R : (Int32 × MdV)} (h : f_X4_dogEarWeight v  = some R) : CtS l D g yX4_dogEarWeight cX4_dogEarWeight 1 (some .int) (rmF 2 45) (mdW g A v) [.ref A.1] (some (.int R.1)) (mdW g A R.2) := by
  refine CtS.of (by decide) (Nat.le_of_ble_eq_true rfl) ?_
  intro K C hBA el eD ekn retI retV
  subst el
  subst eD
  have hlt : ∀ i, i < 1 → i < kn K := fun i h => by rw [ekn]; exact h
  show V K 0 0 _ [(0, .ref A.1)] [] 0
  unfold f_X4_dogEarWeight at h
  refine V_aload_n C 0 1 dX4_dogEarWeight_0 rfl rfl ?_
  refine V_iconst C (0 : Int32) 2 dX4_dogEarWeight_1 rfl rfl ?_
  refine V_put C hBA 0 5 (mdW g A ((Md_all v), (Md_output v), (Md_input v), (Md_commands v), (0 : Int32), (Md_changes v), (Md_isSaved v), (Md_result v), (Md_why v), (Md_detail v), (Md_cause v), (Md_outputSize v), (Md_typed v), (Md_here v), (Md_error v), (Md_errorAt v), (Md_commandMany v))) fl_X4_27 fp_X4_0 dX4_dogEarWeight_2 rfl rfl (Nat.le_of_ble_eq_true rfl) rfl rfl rfl ?_
  refine V_aload_n C 0 6 dX4_dogEarWeight_5 rfl rfl ?_
  refine V_iconst C (2 : Int32) 7 dX4_dogEarWeight_6 rfl rfl ?_
  obtain ⟨r1, k2, h⟩ := bd_some h
  refine V_callP C ml_X4_68 (pre := []) (post := []) (w := mdW g A ((Md_all v), (Md_output v), (Md_input v), (Md_commands v), (0 : Int32), (Md_changes v), (Md_isSaved v), (Md_result v), (Md_why v), (Md_detail v), (Md_cause v), (Md_outputSize v), (Md_typed v), (Md_here v), (Md_error v), (Md_errorAt v), (Md_commandMany v))) (as := [.int (2 : Int32)]) (rest := []) (c_X4_weightOfAll k2) 0 10 dX4_dogEarWeight_7 rfl ⟨Nat.le_of_ble_eq_true rfl, Nat.le_of_ble_eq_true rfl⟩ rfl (rfl) rfl rfl rfl (Nat.le_of_ble_eq_true rfl) ⟨Nat.zero_le _, Nat.zero_le _⟩ ?_
  obtain rfl := Option.some.inj h
  exact retI _ _ _ .int rfl (rfl) rfl dX4_dogEarWeight_10
set_option maxHeartbeats 4000000 in
set_option maxRecDepth 100000 in
theorem c_X4_markCount {l : Launch} {D : va_G} {g : G0} {A : MdA} {v : MdV} {R : (Int32 × MdV)} (h : f_X4_markCount v  = some R) : CtS l D g yX4_markCount cX4_markCount 1 (some .int) (rmF 0 0) (mdW g A v) [.ref A.1] (some (.int R.1)) (mdW g A R.2) := by
  refine CtS.of (by decide) (Nat.le_of_ble_eq_true rfl) ?_
  intro K C hBA el eD ekn retI retV
  subst el
  subst eD
  have hlt : ∀ i, i < 1 → i < kn K := fun i h => by rw [ekn]; exact h
  show V K 0 0 _ [(0, .ref A.1)] [] 0
  unfold f_X4_markCount at h
  refine V_aload_n C 0 1 dX4_markCount_0 rfl rfl ?_
  refine V_iconst C (0 : Int32) 2 dX4_markCount_1 rfl rfl ?_
  refine V_put C hBA 0 5 (mdW g A ((Md_all v), (Md_output v), (Md_input v), (Md_commands v), (0 : Int32), (Md_changes v), (Md_isSaved v), (Md_result v), (Md_why v), (Md_detail v), (Md_cause v), (Md_outputSize v), (Md_typed v), (Md_here v), (Md_error v), (Md_errorAt v), (Md_commandMany v))) fl_X4_27 fp_X4_0 dX4_markCount_2 rfl rfl (Nat.le_of_ble_eq_true rfl) rfl rfl rfl ?_
  refine V_aload_n C 0 6 dX4_markCount_5 rfl rfl ?_
  refine V_get C (v := .ref A.2.1) 0 9 fl_X4_9 dX4_markCount_6 rfl rfl rfl ?_
  refine V_iconst C (0 : Int32) 10 dX4_markCount_9 rfl rfl ?_
  obtain ⟨g1, h⟩ := gd_some h
  refine V_iald C (f := (Md_all v)) (n := 825) 1 11 dX4_markCount_10 rfl rfl g1 ?_
  obtain rfl := Option.some.inj h
  exact retI _ _ _ .int rfl (rfl) rfl dX4_markCount_11
set_option maxHeartbeats 4000000 in
set_option maxRecDepth 100000 in
theorem c_X4_ribbonCount {l : Launch} {D : va_G} {g : G0} {A : MdA} {v : MdV} {R : (Int32 × MdV)} (h : f_X4_ribbonCount v  = some R) : CtS l D g yX4_ribbonCount cX4_ribbonCount 3 (some .int) (rmF 1 22) (mdW g A v) [.ref A.1] (some (.int R.1)) (mdW g A R.2) := by
  refine CtS.of (by decide) (Nat.le_of_ble_eq_true rfl) ?_
  intro K C hBA el eD ekn retI retV
  subst el
  subst eD
  have hlt : ∀ i, i < 3 → i < kn K := fun i h => by rw [ekn]; exact h
  have B34 : ∀ (J : Int32 → Int32 → MdV → Option (Int32 × MdV)) (hJ : ∀ (x1 : Int32) (x2 : Int32) (v : MdV), J x1 x2 v = some R → V K 0 0 (mdW g A v) [(0, .ref A.1), (1, .int x1), (2, .int x2)] [] 9) (x1 : Int32) (x2 : Int32) (s0 : Int32) (s1 : Int32) (v : MdV), f_X4_ribbonCount_B34 J x1 x2 s0 s1 v = some R → V K 0 0 (mdW g A v) [(0, .ref A.1), (1, .int x1), (2, .int x2)] [.int s0, .int s1] 34 := by
    intro J hJ x1 x2 s0 s1 v h
    rw [f_X4_ribbonCount_B34] at h
    refine V_iadd C 35 dX4_ribbonCount_34 rfl ?_
    refine V_istore_n C 36 [(1, .int (s1 + s0)), (0, .ref A.1), (2, .int x2)] dX4_ribbonCount_35 rfl (hlt 1 (by decide)) rfl ?_
    refine V_iinc C 2 (x2 + (1 : Int32)) 39 [(2, .int (x2 + (1 : Int32))), (1, .int (s1 + s0)), (0, .ref A.1)] dX4_ribbonCount_36 rfl rfl rfl (hlt 2 (by decide)) rfl ?_
    refine V_goto C 9 dX4_ribbonCount_39 rfl ?_
    refine V_lv [2, 1, 0] rfl ?_
    exact hJ _ _ _ h
  have L9 : ∀ (n : Nat) (x1 : Int32) (x2 : Int32) (v : MdV), f_X4_ribbonCount_L9 n x1 x2 v = some R → V K 0 0 (mdW g A v) [(0, .ref A.1), (1, .int x1), (2, .int x2)] [] 9 := by
    intro n
    induction n with
    | zero =>
      intro x1 x2 v h
      rw [f_X4_ribbonCount_L9] at h
      cases h
    | succ n ih =>
      intro x1 x2 v h
      rw [f_X4_ribbonCount_L9] at h
      refine V_iload_n C 2 10 dX4_ribbonCount_9 rfl rfl ?_
      refine V_aload_n C 0 11 dX4_ribbonCount_10 rfl rfl ?_
      refine V_get C (v := .ref A.2.1) 0 14 fl_X4_9 dX4_ribbonCount_11 rfl rfl rfl ?_
      refine V_iconst C (0 : Int32) 15 dX4_ribbonCount_14 rfl rfl ?_
      obtain ⟨g1, h⟩ := gd_some h
      refine V_iald C (f := (Md_all v)) (n := 825) 1 16 dX4_ribbonCount_15 rfl rfl g1 ?_
      refine V_icmp_ge C 42 19 dX4_ribbonCount_16 rfl rfl (fun e2 => ?_) (fun e2 => ?_)
      · have h := (if_pos e2).symm.trans h
        refine V_iload_n C 1 43 dX4_ribbonCount_42 rfl rfl ?_
        obtain rfl := Option.some.inj h
        exact retI _ _ _ .int rfl (rfl) rfl dX4_ribbonCount_43
      · have h := (if_neg e2).symm.trans h
        refine V_iload_n C 1 20 dX4_ribbonCount_19 rfl rfl ?_
        refine V_aload_n C 0 21 dX4_ribbonCount_20 rfl rfl ?_
        refine V_iload_n C 2 22 dX4_ribbonCount_21 rfl rfl ?_
        refine V_iconst C (3 : Int32) 23 dX4_ribbonCount_22 rfl rfl ?_
        obtain ⟨r3, k4, h⟩ := bd_some h
        refine V_callP C ml_X4_53 (pre := []) (post := []) (w := mdW g A v) (as := [.int x2, .int (3 : Int32)]) (rest := [.int x1]) (c_X4_m k4) 0 26 dX4_ribbonCount_23 rfl ⟨Nat.le_of_ble_eq_true rfl, Nat.le_of_ble_eq_true rfl⟩ rfl (rfl) rfl rfl rfl (Nat.le_of_ble_eq_true rfl) ⟨Nat.zero_le _, Nat.zero_le _⟩ ?_
        refine V_if_le C 33 29 dX4_ribbonCount_26 rfl rfl (fun e5 => ?_) (fun e5 => ?_)
        · have h := (if_pos e5).symm.trans h
          refine V_iconst C (0 : Int32) 34 dX4_ribbonCount_33 rfl rfl ?_
          refine V_lv [0, 1, 2] rfl ?_
          exact B34 (f_X4_ribbonCount_L9 n) ih _ _ _ _ _ h
        · have h := (if_neg e5).symm.trans h
          refine V_iconst C (1 : Int32) 30 dX4_ribbonCount_29 rfl rfl ?_
          refine V_goto C 34 dX4_ribbonCount_30 rfl ?_
          refine V_lv [0, 1, 2] rfl ?_
          exact B34 (f_X4_ribbonCount_L9 n) ih _ _ _ _ _ h
  show V K 0 0 _ [(0, .ref A.1)] [] 0
  unfold f_X4_ribbonCount at h
  refine V_aload_n C 0 1 dX4_ribbonCount_0 rfl rfl ?_
  refine V_iconst C (0 : Int32) 2 dX4_ribbonCount_1 rfl rfl ?_
  refine V_put C hBA 0 5 (mdW g A ((Md_all v), (Md_output v), (Md_input v), (Md_commands v), (0 : Int32), (Md_changes v), (Md_isSaved v), (Md_result v), (Md_why v), (Md_detail v), (Md_cause v), (Md_outputSize v), (Md_typed v), (Md_here v), (Md_error v), (Md_errorAt v), (Md_commandMany v))) fl_X4_27 fp_X4_0 dX4_ribbonCount_2 rfl rfl (Nat.le_of_ble_eq_true rfl) rfl rfl rfl ?_
  refine V_iconst C (0 : Int32) 6 dX4_ribbonCount_5 rfl rfl ?_
  refine V_istore_n C 7 [(1, .int (0 : Int32)), (0, .ref A.1)] dX4_ribbonCount_6 rfl (hlt 1 (by decide)) rfl ?_
  refine V_iconst C (0 : Int32) 8 dX4_ribbonCount_7 rfl rfl ?_
  refine V_istore_n C 9 [(2, .int (0 : Int32)), (1, .int (0 : Int32)), (0, .ref A.1)] dX4_ribbonCount_8 rfl (hlt 2 (by decide)) rfl ?_
  refine V_lv [2, 1, 0] rfl ?_
  exact L9 100 _ _ _ h
set_option maxHeartbeats 4000000 in
set_option maxRecDepth 100000 in
theorem c_X4_chapterCount {l : Launch} {D : va_G} {g : G0} {A : MdA} {v : MdV} {R : (Int32 × MdV)} (h : f_X4_chapterCount v  = some R) : CtS l D g yX4_chapterCount cX4_chapterCount 1 (some .int) (rmF 0 0) (mdW g A v) [.ref A.1] (some (.int R.1)) (mdW g A R.2) := by
  refine CtS.of (by decide) (Nat.le_of_ble_eq_true rfl) ?_
  intro K C hBA el eD ekn retI retV
  subst el
  subst eD
  have hlt : ∀ i, i < 1 → i < kn K := fun i h => by rw [ekn]; exact h
  show V K 0 0 _ [(0, .ref A.1)] [] 0
  unfold f_X4_chapterCount at h
  refine V_aload_n C 0 1 dX4_chapterCount_0 rfl rfl ?_
  refine V_iconst C (0 : Int32) 2 dX4_chapterCount_1 rfl rfl ?_
  refine V_put C hBA 0 5 (mdW g A ((Md_all v), (Md_output v), (Md_input v), (Md_commands v), (0 : Int32), (Md_changes v), (Md_isSaved v), (Md_result v), (Md_why v), (Md_detail v), (Md_cause v), (Md_outputSize v), (Md_typed v), (Md_here v), (Md_error v), (Md_errorAt v), (Md_commandMany v))) fl_X4_27 fp_X4_0 dX4_chapterCount_2 rfl rfl (Nat.le_of_ble_eq_true rfl) rfl rfl rfl ?_
  refine V_aload_n C 0 6 dX4_chapterCount_5 rfl rfl ?_
  refine V_get C (v := .ref A.2.1) 0 9 fl_X4_9 dX4_chapterCount_6 rfl rfl rfl ?_
  refine V_iconst C (2 : Int32) 10 dX4_chapterCount_9 rfl rfl ?_
  obtain ⟨g1, h⟩ := gd_some h
  refine V_iald C (f := (Md_all v)) (n := 825) 1 11 dX4_chapterCount_10 rfl rfl g1 ?_
  obtain rfl := Option.some.inj h
  exact retI _ _ _ .int rfl (rfl) rfl dX4_chapterCount_11
set_option maxHeartbeats 4000000 in
set_option maxRecDepth 100000 in
theorem c_X4_votesHeld {l : Launch} {D : va_G} {g : G0} {A : MdA} {v : MdV} {R : (Int32 × MdV)} (h : f_X4_votesHeld v  = some R) : CtS l D g yX4_votesHeld cX4_votesHeld 1 (some .int) (rmF 0 0) (mdW g A v) [.ref A.1] (some (.int R.1)) (mdW g A R.2) := by
  refine CtS.of (by decide) (Nat.le_of_ble_eq_true rfl) ?_
  intro K C hBA el eD ekn retI retV
  subst el
  subst eD
  have hlt : ∀ i, i < 1 → i < kn K := fun i h => by rw [ekn]; exact h
  show V K 0 0 _ [(0, .ref A.1)] [] 0
  unfold f_X4_votesHeld at h
  refine V_aload_n C 0 1 dX4_votesHeld_0 rfl rfl ?_
  refine V_iconst C (0 : Int32) 2 dX4_votesHeld_1 rfl rfl ?_
  refine V_put C hBA 0 5 (mdW g A ((Md_all v), (Md_output v), (Md_input v), (Md_commands v), (0 : Int32), (Md_changes v), (Md_isSaved v), (Md_result v), (Md_why v), (Md_detail v), (Md_cause v), (Md_outputSize v), (Md_typed v), (Md_here v), (Md_error v), (Md_errorAt v), (Md_commandMany v))) fl_X4_27 fp_X4_0 dX4_votesHeld_2 rfl rfl (Nat.le_of_ble_eq_true rfl) rfl rfl rfl ?_
  refine V_aload_n C 0 6 dX4_votesHeld_5 rfl rfl ?_
  refine V_get C (v := .ref A.2.1) 0 9 fl_X4_9 dX4_votesHeld_6 rfl rfl rfl ?_
  refine V_iconst C (4 : Int32) 10 dX4_votesHeld_9 rfl rfl ?_
  obtain ⟨g1, h⟩ := gd_some h
  refine V_iald C (f := (Md_all v)) (n := 825) 1 11 dX4_votesHeld_10 rfl rfl g1 ?_
  obtain rfl := Option.some.inj h
  exact retI _ _ _ .int rfl (rfl) rfl dX4_votesHeld_11
set_option maxHeartbeats 4000000 in
set_option maxRecDepth 100000 in
theorem c_X4_motionsCarried {l : Launch} {D : va_G} {g : G0} {A : MdA} {v : MdV} {R : (Int32 × MdV)} (h : f_X4_motionsCarried v  = some R) : CtS l D g yX4_motionsCarried cX4_motionsCarried 1 (some .int) (rmF 0 0) (mdW g A v) [.ref A.1] (some (.int R.1)) (mdW g A R.2) := by
  refine CtS.of (by decide) (Nat.le_of_ble_eq_true rfl) ?_
  intro K C hBA el eD ekn retI retV
  subst el
  subst eD
  have hlt : ∀ i, i < 1 → i < kn K := fun i h => by rw [ekn]; exact h
  show V K 0 0 _ [(0, .ref A.1)] [] 0
  unfold f_X4_motionsCarried at h
  refine V_aload_n C 0 1 dX4_motionsCarried_0 rfl rfl ?_
  refine V_iconst C (0 : Int32) 2 dX4_motionsCarried_1 rfl rfl ?_
  refine V_put C hBA 0 5 (mdW g A ((Md_all v), (Md_output v), (Md_input v), (Md_commands v), (0 : Int32), (Md_changes v), (Md_isSaved v), (Md_result v), (Md_why v), (Md_detail v), (Md_cause v), (Md_outputSize v), (Md_typed v), (Md_here v), (Md_error v), (Md_errorAt v), (Md_commandMany v))) fl_X4_27 fp_X4_0 dX4_motionsCarried_2 rfl rfl (Nat.le_of_ble_eq_true rfl) rfl rfl rfl ?_
  refine V_aload_n C 0 6 dX4_motionsCarried_5 rfl rfl ?_
  refine V_get C (v := .ref A.2.1) 0 9 fl_X4_9 dX4_motionsCarried_6 rfl rfl rfl ?_
  refine V_iconst C (5 : Int32) 10 dX4_motionsCarried_9 rfl rfl ?_
  obtain ⟨g1, h⟩ := gd_some h
  refine V_iald C (f := (Md_all v)) (n := 825) 1 11 dX4_motionsCarried_10 rfl rfl g1 ?_
  obtain rfl := Option.some.inj h
  exact retI _ _ _ .int rfl (rfl) rfl dX4_motionsCarried_11
set_option maxHeartbeats 4000000 in
set_option maxRecDepth 100000 in
theorem c_X4_fallenEars {l : Launch} {D : va_G} {g : G0} {A : MdA} {v : MdV} {R : (Int32 × MdV)} (h : f_X4_fallenEars v  = some R) : CtS l D g yX4_fallenEars cX4_fallenEars 1 (some .int) (rmF 0 0) (mdW g A v) [.ref A.1] (some (.int R.1)) (mdW g A R.2) := by
  refine CtS.of (by decide) (Nat.le_of_ble_eq_true rfl) ?_
  intro K C hBA el eD ekn retI retV
  subst el
  subst eD
  have hlt : ∀ i, i < 1 → i < kn K := fun i h => by rw [ekn]; exact h
  show V K 0 0 _ [(0, .ref A.1)] [] 0
  unfold f_X4_fallenEars at h
  refine V_aload_n C 0 1 dX4_fallenEars_0 rfl rfl ?_
  refine V_iconst C (0 : Int32) 2 dX4_fallenEars_1 rfl rfl ?_
  refine V_put C hBA 0 5 (mdW g A ((Md_all v), (Md_output v), (Md_input v), (Md_commands v), (0 : Int32), (Md_changes v), (Md_isSaved v), (Md_result v), (Md_why v), (Md_detail v), (Md_cause v), (Md_outputSize v), (Md_typed v), (Md_here v), (Md_error v), (Md_errorAt v), (Md_commandMany v))) fl_X4_27 fp_X4_0 dX4_fallenEars_2 rfl rfl (Nat.le_of_ble_eq_true rfl) rfl rfl rfl ?_
  refine V_aload_n C 0 6 dX4_fallenEars_5 rfl rfl ?_
  refine V_get C (v := .ref A.2.1) 0 9 fl_X4_9 dX4_fallenEars_6 rfl rfl rfl ?_
  refine V_bipush C (6 : Int32) 11 dX4_fallenEars_9 rfl rfl ?_
  obtain ⟨g1, h⟩ := gd_some h
  refine V_iald C (f := (Md_all v)) (n := 825) 1 12 dX4_fallenEars_11 rfl rfl g1 ?_
  obtain rfl := Option.some.inj h
  exact retI _ _ _ .int rfl (rfl) rfl dX4_fallenEars_12
set_option maxHeartbeats 4000000 in
set_option maxRecDepth 100000 in
theorem c_X4_isConsistent {l : Launch} {D : va_G} {g : G0} {A : MdA} {v : MdV} {R : (Int32 × MdV)} (h : f_X4_isConsistent v  = some R) : CtS l D g yX4_isConsistent cX4_isConsistent 1 (some .boolean) (rmF 0 0) (mdW g A v) [.ref A.1] (some (.int R.1)) (mdW g A R.2) := by
  refine CtS.of (by decide) (Nat.le_of_ble_eq_true rfl) ?_
  intro K C hBA el eD ekn retI retV
  subst el
  subst eD
  have hlt : ∀ i, i < 1 → i < kn K := fun i h => by rw [ekn]; exact h
  show V K 0 0 _ [(0, .ref A.1)] [] 0
  unfold f_X4_isConsistent at h
  refine V_aload_n C 0 1 dX4_isConsistent_0 rfl rfl ?_
  refine V_iconst C (0 : Int32) 2 dX4_isConsistent_1 rfl rfl ?_
  refine V_put C hBA 0 5 (mdW g A ((Md_all v), (Md_output v), (Md_input v), (Md_commands v), (0 : Int32), (Md_changes v), (Md_isSaved v), (Md_result v), (Md_why v), (Md_detail v), (Md_cause v), (Md_outputSize v), (Md_typed v), (Md_here v), (Md_error v), (Md_errorAt v), (Md_commandMany v))) fl_X4_27 fp_X4_0 dX4_isConsistent_2 rfl rfl (Nat.le_of_ble_eq_true rfl) rfl rfl rfl ?_
  refine V_iconst C (1 : Int32) 6 dX4_isConsistent_5 rfl rfl ?_
  obtain rfl := Option.some.inj h
  exact retI _ _ _ .boolean rfl (rfl) rfl dX4_isConsistent_6
set_option maxHeartbeats 4000000 in
set_option maxRecDepth 100000 in
theorem c_X4_writes {l : Launch} {D : va_G} {g : G0} {A : MdA} {v : MdV} {a1 : Int32} {R : (Int32 × MdV)} (h : f_X4_writes v a1 = some R) : CtS l D g yX4_writes cX4_writes 2 none (rmF 0 0) (mdW g A v) [.ref A.1, .int a1] none (mdW g A R.2) := by
  refine CtS.of (by decide) (Nat.le_of_ble_eq_true rfl) ?_
  intro K C hBA el eD ekn retI retV
  subst el
  subst eD
  have hlt : ∀ i, i < 2 → i < kn K := fun i h => by rw [ekn]; exact h
  show V K 0 0 _ [(0, .ref A.1), (1, .int a1)] [] 0
  unfold f_X4_writes at h
  refine V_aload_n C 0 1 dX4_writes_0 rfl rfl ?_
  refine V_get C (v := .ref A.2.2.1) 0 4 fl_X4_13 dX4_writes_1 rfl rfl rfl ?_
  refine V_aload_n C 0 5 dX4_writes_4 rfl rfl ?_
  refine V_get C (v := .int (Md_outputSize v)) 0 8 fl_X4_177 dX4_writes_5 rfl rfl rfl ?_
  refine V_iload_n C 1 9 dX4_writes_8 rfl rfl ?_
  refine V_i2c C 10 dX4_writes_9 rfl ?_
  obtain ⟨g1, h⟩ := gd_some h
  refine V_cast C hBA (f := (Md_output v)) (n := 120) 2 11 (mdW g A ((Md_all v), (upd (Md_output v) (cl (Md_outputSize v)) (vp_nar .char ((Int32.toUInt32 a1 % 65536).toInt32))), (Md_input v), (Md_commands v), (Md_thrown v), (Md_changes v), (Md_isSaved v), (Md_result v), (Md_why v), (Md_detail v), (Md_cause v), (Md_outputSize v), (Md_typed v), (Md_here v), (Md_error v), (Md_errorAt v), (Md_commandMany v))) dX4_writes_10 rfl rfl g1 rfl ?_
  refine V_aload_n C 0 12 dX4_writes_11 rfl rfl ?_
  refine V_dup C 13 dX4_writes_12 rfl rfl ?_
  refine V_get C (v := .int (Md_outputSize v)) 0 16 fl_X4_177 dX4_writes_13 rfl rfl rfl ?_
  refine V_iconst C (1 : Int32) 17 dX4_writes_16 rfl rfl ?_
  refine V_iadd C 18 dX4_writes_17 rfl ?_
  refine V_put C hBA 0 21 (mdW g A ((Md_all v), (upd (Md_output v) (cl (Md_outputSize v)) (vp_nar .char ((Int32.toUInt32 a1 % 65536).toInt32))), (Md_input v), (Md_commands v), (Md_thrown v), (Md_changes v), (Md_isSaved v), (Md_result v), (Md_why v), (Md_detail v), (Md_cause v), ((Md_outputSize v) + (1 : Int32)), (Md_typed v), (Md_here v), (Md_error v), (Md_errorAt v), (Md_commandMany v))) fl_X4_177 fp_X4_9 dX4_writes_18 rfl rfl (Nat.le_of_ble_eq_true rfl) rfl rfl rfl ?_
  obtain rfl := Option.some.inj h
  exact retV _ _ rfl rfl dX4_writes_21
set_option maxHeartbeats 4000000 in
set_option maxRecDepth 100000 in
theorem c_X4_writesNumber (d : Nat) {l : Launch} {D : va_G} {g : G0} {A : MdA} {v : MdV} {a1 : Int32} {R : (Int32 × MdV)} (h : f_X4_writesNumber d v a1 = some R) : CtS l D g yX4_writesNumber cX4_writesNumber 2 none (rmF (1 + d) (21 + 21 * d)) (mdW g A v) [.ref A.1, .int a1] none (mdW g A R.2) := by
  induction d generalizing v a1 R with
  | zero =>
    unfold f_X4_writesNumber at h
    cases h
  | succ d ihd =>
    refine CtS.of (by decide) (Nat.le_of_ble_eq_true rfl) ?_
    intro K C hBA el eD ekn retI retV
    subst el
    subst eD
    have hlt : ∀ i, i < 2 → i < kn K := fun i h => by rw [ekn]; exact h
    have B14 : ∀ (x1 : Int32) (v : MdV), f_X4_writesNumber_B14 x1 v = some R → V K 0 0 (mdW g A v) [(0, .ref A.1), (1, .int x1)] [] 14 := by
      intro x1 v h
      rw [f_X4_writesNumber_B14] at h
      refine V_aload_n C 0 15 dX4_writesNumber_14 rfl rfl ?_
      refine V_bipush C (48 : Int32) 17 dX4_writesNumber_15 rfl rfl ?_
      refine V_iload_n C 1 18 dX4_writesNumber_17 rfl rfl ?_
      refine V_bipush C (10 : Int32) 20 dX4_writesNumber_18 rfl rfl ?_
      refine V_irem C 21 dX4_writesNumber_20 rfl (by decide) ?_
      refine V_iadd C 22 dX4_writesNumber_21 rfl ?_
      obtain ⟨r1, k2, h⟩ := bd_some h
      refine V_callS C hBA ml_X4_183 (pre := []) (post := []) (w0 := mdW g A v) (w1 := mdW g A r1.2) (as := [.int ((48 : Int32) + (x1 - x1 / (10 : Int32) * (10 : Int32)))]) (rest := []) (c_X4_writes k2) 0 25 (mdW g A r1.2) dX4_writesNumber_22 rfl ⟨by simp only [rmF]; omega, by simp only [rmF]; omega⟩ rfl (rfl) (rfl) rfl rfl rfl rfl (Nat.le_of_ble_eq_true rfl) ⟨Nat.zero_le _, Nat.zero_le _⟩ ?_
      obtain rfl := Option.some.inj h
      exact retV _ _ rfl rfl dX4_writesNumber_25
    show V K 0 0 _ [(0, .ref A.1), (1, .int a1)] [] 0
    unfold f_X4_writesNumber at h
    refine V_iload_n C 1 1 dX4_writesNumber_0 rfl rfl ?_
    refine V_bipush C (9 : Int32) 3 dX4_writesNumber_1 rfl rfl ?_
    refine V_icmp_le C 14 6 dX4_writesNumber_3 rfl rfl (fun e3 => ?_) (fun e3 => ?_)
    · have h := (if_pos e3).symm.trans h
      refine V_lv [0, 1] rfl ?_
      exact B14 _ _ h
    · have h := (if_neg e3).symm.trans h
      refine V_aload_n C 0 7 dX4_writesNumber_6 rfl rfl ?_
      refine V_iload_n C 1 8 dX4_writesNumber_7 rfl rfl ?_
      refine V_bipush C (10 : Int32) 10 dX4_writesNumber_8 rfl rfl ?_
      refine V_idiv C 11 dX4_writesNumber_10 rfl (by decide) ?_
      obtain ⟨r4, k5, h⟩ := bd_some h
      refine V_callS C hBA ml_X4_180 (pre := []) (post := []) (w0 := mdW g A v) (w1 := mdW g A r4.2) (as := [.int (a1 / (10 : Int32))]) (rest := []) (ihd k5) 0 14 (mdW g A r4.2) dX4_writesNumber_11 rfl ⟨by simp only [rmF]; omega, by simp only [rmF]; omega⟩ rfl (rfl) (rfl) rfl rfl rfl rfl (Nat.le_of_ble_eq_true rfl) ⟨Nat.zero_le _, Nat.zero_le _⟩ ?_
      refine V_lv [0, 1] rfl ?_
      exact B14 _ _ h
set_option maxHeartbeats 4000000 in
set_option maxRecDepth 100000 in
theorem c_X4_writeChapter {l : Launch} {D : va_G} {g : G0} {A : MdA} {v : MdV} {a1 : Int32} {R : (Int32 × MdV)} (h : f_X4_writeChapter v a1 = some R) : CtS l D g yX4_writeChapter cX4_writeChapter 4 (some .int) (rmF 5 105) (mdW g A v) [.ref A.1, .int a1] (some (.int R.1)) (mdW g A R.2) := by
  refine CtS.of (by decide) (Nat.le_of_ble_eq_true rfl) ?_
  intro K C hBA el eD ekn retI retV
  subst el
  subst eD
  have hlt : ∀ i, i < 4 → i < kn K := fun i h => by rw [ekn]; exact h
  have B118 : ∀ (J : Int32 → Int32 → MdV → Option (Int32 × MdV)) (hJ : ∀ (x1 : Int32) (x2 : Int32) (v : MdV), J x1 x2 v = some R → V K 0 0 (mdW g A v) [(0, .ref A.1), (1, .int x1), (2, .int x2)] [] 49) (x1 : Int32) (x2 : Int32) (x3 : Int32) (v : MdV), f_X4_writeChapter_B118 J x1 x2 x3 v = some R → V K 0 0 (mdW g A v) [(0, .ref A.1), (1, .int x1), (2, .int x2), (3, .int x3)] [] 118 := by
    intro J hJ x1 x2 x3 v h
    rw [f_X4_writeChapter_B118] at h
    refine V_iinc C 2 (x2 + (1 : Int32)) 121 [(2, .int (x2 + (1 : Int32))), (0, .ref A.1), (1, .int x1), (3, .int x3)] dX4_writeChapter_118 rfl rfl rfl (hlt 2 (by decide)) rfl ?_
    refine V_goto C 49 dX4_writeChapter_121 rfl ?_
    refine V_lv [1, 2, 0] rfl ?_
    exact hJ _ _ _ h
  have B94 : ∀ (J : Int32 → Int32 → MdV → Option (Int32 × MdV)) (hJ : ∀ (x1 : Int32) (x2 : Int32) (v : MdV), J x1 x2 v = some R → V K 0 0 (mdW g A v) [(0, .ref A.1), (1, .int x1), (2, .int x2)] [] 49) (x1 : Int32) (x2 : Int32) (x3 : Int32) (s0 : Int32) (v : MdV), f_X4_writeChapter_B94 J x1 x2 x3 s0 v = some R → V K 0 0 (mdW g A v) [(0, .ref A.1), (1, .int x1), (2, .int x2), (3, .int x3)] [.int s0, .ref A.1] 94 := by
    intro J hJ x1 x2 x3 s0 v h
    rw [f_X4_writeChapter_B94] at h
    obtain ⟨r1, k2, h⟩ := bd_some h
    refine V_callS C hBA ml_X4_183 (pre := []) (post := []) (w0 := mdW g A v) (w1 := mdW g A r1.2) (as := [.int s0]) (rest := []) (c_X4_writes k2) 0 97 (mdW g A r1.2) dX4_writeChapter_94 rfl ⟨Nat.le_of_ble_eq_true rfl, Nat.le_of_ble_eq_true rfl⟩ rfl (rfl) (rfl) rfl rfl rfl rfl (Nat.le_of_ble_eq_true rfl) ⟨Nat.zero_le _, Nat.zero_le _⟩ ?_
    refine V_aload_n C 0 98 dX4_writeChapter_97 rfl rfl ?_
    refine V_iload_n C 2 99 dX4_writeChapter_98 rfl rfl ?_
    obtain ⟨r3, k4, h⟩ := bd_some h
    refine V_callS C hBA ml_X4_180 (pre := []) (post := []) (w0 := mdW g A r1.2) (w1 := mdW g A r3.2) (as := [.int x2]) (rest := []) (c_X4_writesNumber 3 k4) 0 102 (mdW g A r3.2) dX4_writeChapter_99 rfl ⟨Nat.le_of_ble_eq_true rfl, Nat.le_of_ble_eq_true rfl⟩ rfl (rfl) (rfl) rfl rfl rfl rfl (Nat.le_of_ble_eq_true rfl) ⟨Nat.zero_le _, Nat.zero_le _⟩ ?_
    refine V_aload_n C 0 103 dX4_writeChapter_102 rfl rfl ?_
    refine V_bipush C (42 : Int32) 105 dX4_writeChapter_103 rfl rfl ?_
    obtain ⟨r5, k6, h⟩ := bd_some h
    refine V_callS C hBA ml_X4_183 (pre := []) (post := []) (w0 := mdW g A r3.2) (w1 := mdW g A r5.2) (as := [.int (42 : Int32)]) (rest := []) (c_X4_writes k6) 0 108 (mdW g A r5.2) dX4_writeChapter_105 rfl ⟨Nat.le_of_ble_eq_true rfl, Nat.le_of_ble_eq_true rfl⟩ rfl (rfl) (rfl) rfl rfl rfl rfl (Nat.le_of_ble_eq_true rfl) ⟨Nat.zero_le _, Nat.zero_le _⟩ ?_
    refine V_aload_n C 0 109 dX4_writeChapter_108 rfl rfl ?_
    refine V_aload_n C 0 110 dX4_writeChapter_109 rfl rfl ?_
    refine V_iload_n C 3 111 dX4_writeChapter_110 rfl rfl ?_
    refine V_iconst C (2 : Int32) 112 dX4_writeChapter_111 rfl rfl ?_
    obtain ⟨r7, k8, h⟩ := bd_some h
    refine V_callP C ml_X4_53 (pre := []) (post := []) (w := mdW g A r5.2) (as := [.int x3, .int (2 : Int32)]) (rest := [.ref A.1]) (c_X4_m k8) 0 115 dX4_writeChapter_112 rfl ⟨Nat.le_of_ble_eq_true rfl, Nat.le_of_ble_eq_true rfl⟩ rfl (rfl) rfl rfl rfl (Nat.le_of_ble_eq_true rfl) ⟨Nat.zero_le _, Nat.zero_le _⟩ ?_
    obtain ⟨r9, k10, h⟩ := bd_some h
    refine V_callS C hBA ml_X4_180 (pre := []) (post := []) (w0 := mdW g A r5.2) (w1 := mdW g A r9.2) (as := [.int r7]) (rest := []) (c_X4_writesNumber 3 k10) 0 118 (mdW g A r9.2) dX4_writeChapter_115 rfl ⟨Nat.le_of_ble_eq_true rfl, Nat.le_of_ble_eq_true rfl⟩ rfl (rfl) (rfl) rfl rfl rfl rfl (Nat.le_of_ble_eq_true rfl) ⟨Nat.zero_le _, Nat.zero_le _⟩ ?_
    refine V_lv [0, 1, 2, 3] rfl ?_
    exact B118 J hJ _ _ _ _ h
  have L49 : ∀ (n : Nat) (x1 : Int32) (x2 : Int32) (v : MdV), f_X4_writeChapter_L49 n x1 x2 v = some R → V K 0 0 (mdW g A v) [(0, .ref A.1), (1, .int x1), (2, .int x2)] [] 49 := by
    intro n
    induction n with
    | zero =>
      intro x1 x2 v h
      rw [f_X4_writeChapter_L49] at h
      cases h
    | succ n ih =>
      intro x1 x2 v h
      rw [f_X4_writeChapter_L49] at h
      refine V_iload_n C 2 50 dX4_writeChapter_49 rfl rfl ?_
      refine V_aload_n C 0 51 dX4_writeChapter_50 rfl rfl ?_
      refine V_iload_n C 1 52 dX4_writeChapter_51 rfl rfl ?_
      obtain ⟨r11, k12, h⟩ := bd_some h
      refine V_callP C ml_X4_156 (pre := []) (post := []) (w := mdW g A v) (as := [.int x1]) (rest := [.int x2]) (c_X4_last k12) 0 55 dX4_writeChapter_52 rfl ⟨Nat.le_of_ble_eq_true rfl, Nat.le_of_ble_eq_true rfl⟩ rfl (rfl) rfl rfl rfl (Nat.le_of_ble_eq_true rfl) ⟨Nat.zero_le _, Nat.zero_le _⟩ ?_
      refine V_icmp_gt C 124 58 dX4_writeChapter_55 rfl rfl (fun e13 => ?_) (fun e13 => ?_)
      · have h := (if_pos e13).symm.trans h
        refine V_aload_n C 0 125 dX4_writeChapter_124 rfl rfl ?_
        refine V_get C (v := .int (Md_outputSize v)) 0 128 fl_X4_177 dX4_writeChapter_125 rfl rfl rfl ?_
        obtain rfl := Option.some.inj h
        exact retI _ _ _ .int rfl (rfl) rfl dX4_writeChapter_128
      · have h := (if_neg e13).symm.trans h
        refine V_aload_n C 0 59 dX4_writeChapter_58 rfl rfl ?_
        refine V_iload_n C 2 60 dX4_writeChapter_59 rfl rfl ?_
        obtain ⟨r14, k15, h⟩ := bd_some h
        refine V_callP C ml_X4_82 (pre := []) (post := []) (w := mdW g A v) (as := [.int x2]) (rest := []) (c_X4_onPage k15) 0 63 dX4_writeChapter_60 rfl ⟨Nat.le_of_ble_eq_true rfl, Nat.le_of_ble_eq_true rfl⟩ rfl (rfl) rfl rfl rfl (Nat.le_of_ble_eq_true rfl) ⟨Nat.zero_le _, Nat.zero_le _⟩ ?_
        refine V_istore_n C 64 [(3, .int r14), (0, .ref A.1), (1, .int x1), (2, .int x2)] dX4_writeChapter_63 rfl (hlt 3 (by decide)) rfl ?_
        refine V_iload_n C 0 65 dX4_writeChapter_64 rfl rfl ?_
        refine V_if_ge C 71 68 dX4_writeChapter_65 rfl rfl (fun e16 => ?_) (fun e16 => ?_)
        · have h := (if_pos e16).symm.trans h
          refine V_aload_n C 1 72 dX4_writeChapter_71 rfl rfl ?_
          refine V_bipush C (32 : Int32) 74 dX4_writeChapter_72 rfl rfl ?_
          obtain ⟨r17, k18, h⟩ := bd_some h
          refine V_callS C hBA ml_X4_183 (pre := []) (post := []) (w0 := mdW g A v) (w1 := mdW g A r17.2) (as := [.int (32 : Int32)]) (rest := []) (c_X4_writes k18) 0 77 (mdW g A r17.2) dX4_writeChapter_74 rfl ⟨Nat.le_of_ble_eq_true rfl, Nat.le_of_ble_eq_true rfl⟩ rfl (rfl) (rfl) rfl rfl rfl rfl (Nat.le_of_ble_eq_true rfl) ⟨Nat.zero_le _, Nat.zero_le _⟩ ?_
          refine V_aload_n C 1 78 dX4_writeChapter_77 rfl rfl ?_
          refine V_aload_n C 1 79 dX4_writeChapter_78 rfl rfl ?_
          refine V_iload_n C 0 80 dX4_writeChapter_79 rfl rfl ?_
          refine V_iconst C (3 : Int32) 81 dX4_writeChapter_80 rfl rfl ?_
          obtain ⟨r19, k20, h⟩ := bd_some h
          refine V_callP C ml_X4_53 (pre := []) (post := []) (w := mdW g A r17.2) (as := [.int r14, .int (3 : Int32)]) (rest := [.ref A.1]) (c_X4_m k20) 0 84 dX4_writeChapter_81 rfl ⟨Nat.le_of_ble_eq_true rfl, Nat.le_of_ble_eq_true rfl⟩ rfl (rfl) rfl rfl rfl (Nat.le_of_ble_eq_true rfl) ⟨Nat.zero_le _, Nat.zero_le _⟩ ?_
          refine V_if_le C 92 87 dX4_writeChapter_84 rfl rfl (fun e21 => ?_) (fun e21 => ?_)
          · have h := (if_pos e21).symm.trans h
            refine V_bipush C (101 : Int32) 94 dX4_writeChapter_92 rfl rfl ?_
            refine V_lv [1, 2, 3, 0] rfl ?_
            exact B94 (f_X4_writeChapter_L49 n) ih _ _ _ _ _ h
          · have h := (if_neg e21).symm.trans h
            refine V_bipush C (114 : Int32) 89 dX4_writeChapter_87 rfl rfl ?_
            refine V_goto C 94 dX4_writeChapter_89 rfl ?_
            refine V_lv [1, 2, 3, 0] rfl ?_
            exact B94 (f_X4_writeChapter_L49 n) ih _ _ _ _ _ h
        · have h := (if_neg e16).symm.trans h
          refine V_goto C 118 dX4_writeChapter_68 rfl ?_
          refine V_lv [1, 2, 3, 0] rfl ?_
          exact B118 (f_X4_writeChapter_L49 n) ih _ _ _ _ h
  show V K 0 0 _ [(0, .ref A.1), (1, .int a1)] [] 0
  unfold f_X4_writeChapter at h
  refine V_aload_n C 0 1 dX4_writeChapter_0 rfl rfl ?_
  refine V_aload_n C 0 2 dX4_writeChapter_1 rfl rfl ?_
  refine V_iload_n C 1 3 dX4_writeChapter_2 rfl rfl ?_
  obtain ⟨r22, k23, h⟩ := bd_some h
  refine V_callP C ml_X4_129 (pre := []) (post := []) (w := mdW g A v) (as := [.int a1]) (rest := [.ref A.1]) (c_X4_isChapter k23) 0 6 dX4_writeChapter_3 rfl ⟨Nat.le_of_ble_eq_true rfl, Nat.le_of_ble_eq_true rfl⟩ rfl (rfl) rfl rfl rfl (Nat.le_of_ble_eq_true rfl) ⟨Nat.zero_le _, Nat.zero_le _⟩ ?_
  obtain ⟨r24, k25, h⟩ := bd_some h
  refine V_callS C hBA ml_X4_49 (pre := []) (post := []) (w0 := mdW g A v) (w1 := mdW g A r24.2) (as := [.int r22]) (rest := []) (c_X4_isFine k25) 0 9 (mdW g A r24.2) dX4_writeChapter_6 rfl ⟨Nat.le_of_ble_eq_true rfl, Nat.le_of_ble_eq_true rfl⟩ rfl (rfl) (rfl) rfl rfl rfl rfl (Nat.le_of_ble_eq_true rfl) ⟨Nat.zero_le _, Nat.zero_le _⟩ ?_
  refine V_if_ne C 14 12 dX4_writeChapter_9 rfl rfl (fun e26 => ?_) (fun e26 => ?_)
  · have h := (if_neg e26).symm.trans h
    refine V_aload_n C 0 15 dX4_writeChapter_14 rfl rfl ?_
    refine V_iconst C (0 : Int32) 16 dX4_writeChapter_15 rfl rfl ?_
    refine V_put C hBA 0 19 (mdW g A ((Md_all r24.2), (Md_output r24.2), (Md_input r24.2), (Md_commands r24.2), (Md_thrown r24.2), (Md_changes r24.2), (Md_isSaved r24.2), (Md_result r24.2), (Md_why r24.2), (Md_detail r24.2), (Md_cause r24.2), (0 : Int32), (Md_typed r24.2), (Md_here r24.2), (Md_error r24.2), (Md_errorAt r24.2), (Md_commandMany r24.2))) fl_X4_177 fp_X4_9 dX4_writeChapter_16 rfl rfl (Nat.le_of_ble_eq_true rfl) rfl rfl rfl ?_
    refine V_aload_n C 0 20 dX4_writeChapter_19 rfl rfl ?_
    refine V_aload_n C 0 21 dX4_writeChapter_20 rfl rfl ?_
    refine V_iload_n C 1 22 dX4_writeChapter_21 rfl rfl ?_
    obtain ⟨r27, k28, h⟩ := bd_some h
    refine V_callP C ml_X4_123 (pre := []) (post := []) (w := mdW g A ((Md_all r24.2), (Md_output r24.2), (Md_input r24.2), (Md_commands r24.2), (Md_thrown r24.2), (Md_changes r24.2), (Md_isSaved r24.2), (Md_result r24.2), (Md_why r24.2), (Md_detail r24.2), (Md_cause r24.2), (0 : Int32), (Md_typed r24.2), (Md_here r24.2), (Md_error r24.2), (Md_errorAt r24.2), (Md_commandMany r24.2))) (as := [.int a1]) (rest := [.ref A.1]) (c_X4_first k28) 0 25 dX4_writeChapter_22 rfl ⟨Nat.le_of_ble_eq_true rfl, Nat.le_of_ble_eq_true rfl⟩ rfl (rfl) rfl rfl rfl (Nat.le_of_ble_eq_true rfl) ⟨Nat.zero_le _, Nat.zero_le _⟩ ?_
    obtain ⟨r29, k30, h⟩ := bd_some h
    refine V_callS C hBA ml_X4_180 (pre := []) (post := []) (w0 := mdW g A ((Md_all r24.2), (Md_output r24.2), (Md_input r24.2), (Md_commands r24.2), (Md_thrown r24.2), (Md_changes r24.2), (Md_isSaved r24.2), (Md_result r24.2), (Md_why r24.2), (Md_detail r24.2), (Md_cause r24.2), (0 : Int32), (Md_typed r24.2), (Md_here r24.2), (Md_error r24.2), (Md_errorAt r24.2), (Md_commandMany r24.2))) (w1 := mdW g A r29.2) (as := [.int r27]) (rest := []) (c_X4_writesNumber 3 k30) 0 28 (mdW g A r29.2) dX4_writeChapter_25 rfl ⟨Nat.le_of_ble_eq_true rfl, Nat.le_of_ble_eq_true rfl⟩ rfl (rfl) (rfl) rfl rfl rfl rfl (Nat.le_of_ble_eq_true rfl) ⟨Nat.zero_le _, Nat.zero_le _⟩ ?_
    refine V_aload_n C 0 29 dX4_writeChapter_28 rfl rfl ?_
    refine V_bipush C (45 : Int32) 31 dX4_writeChapter_29 rfl rfl ?_
    obtain ⟨r31, k32, h⟩ := bd_some h
    refine V_callS C hBA ml_X4_183 (pre := []) (post := []) (w0 := mdW g A r29.2) (w1 := mdW g A r31.2) (as := [.int (45 : Int32)]) (rest := []) (c_X4_writes k32) 0 34 (mdW g A r31.2) dX4_writeChapter_31 rfl ⟨Nat.le_of_ble_eq_true rfl, Nat.le_of_ble_eq_true rfl⟩ rfl (rfl) (rfl) rfl rfl rfl rfl (Nat.le_of_ble_eq_true rfl) ⟨Nat.zero_le _, Nat.zero_le _⟩ ?_
    refine V_aload_n C 0 35 dX4_writeChapter_34 rfl rfl ?_
    refine V_aload_n C 0 36 dX4_writeChapter_35 rfl rfl ?_
    refine V_iload_n C 1 37 dX4_writeChapter_36 rfl rfl ?_
    obtain ⟨r33, k34, h⟩ := bd_some h
    refine V_callP C ml_X4_156 (pre := []) (post := []) (w := mdW g A r31.2) (as := [.int a1]) (rest := [.ref A.1]) (c_X4_last k34) 0 40 dX4_writeChapter_37 rfl ⟨Nat.le_of_ble_eq_true rfl, Nat.le_of_ble_eq_true rfl⟩ rfl (rfl) rfl rfl rfl (Nat.le_of_ble_eq_true rfl) ⟨Nat.zero_le _, Nat.zero_le _⟩ ?_
    obtain ⟨r35, k36, h⟩ := bd_some h
    refine V_callS C hBA ml_X4_180 (pre := []) (post := []) (w0 := mdW g A r31.2) (w1 := mdW g A r35.2) (as := [.int r33]) (rest := []) (c_X4_writesNumber 3 k36) 0 43 (mdW g A r35.2) dX4_writeChapter_40 rfl ⟨Nat.le_of_ble_eq_true rfl, Nat.le_of_ble_eq_true rfl⟩ rfl (rfl) (rfl) rfl rfl rfl rfl (Nat.le_of_ble_eq_true rfl) ⟨Nat.zero_le _, Nat.zero_le _⟩ ?_
    refine V_aload_n C 0 44 dX4_writeChapter_43 rfl rfl ?_
    refine V_iload_n C 1 45 dX4_writeChapter_44 rfl rfl ?_
    obtain ⟨r37, k38, h⟩ := bd_some h
    refine V_callP C ml_X4_123 (pre := []) (post := []) (w := mdW g A r35.2) (as := [.int a1]) (rest := []) (c_X4_first k38) 0 48 dX4_writeChapter_45 rfl ⟨Nat.le_of_ble_eq_true rfl, Nat.le_of_ble_eq_true rfl⟩ rfl (rfl) rfl rfl rfl (Nat.le_of_ble_eq_true rfl) ⟨Nat.zero_le _, Nat.zero_le _⟩ ?_
    refine V_istore_n C 49 [(2, .int r37), (0, .ref A.1), (1, .int a1)] dX4_writeChapter_48 rfl (hlt 2 (by decide)) rfl ?_
    refine V_lv [1, 2, 0] rfl ?_
    exact L49 100 _ _ _ h
  · have h := (if_pos e26).symm.trans h
    refine V_iconst C (0 : Int32) 13 dX4_writeChapter_12 rfl rfl ?_
    obtain rfl := Option.some.inj h
    exact retI _ _ _ .int rfl (rfl) rfl dX4_writeChapter_13
set_option maxHeartbeats 4000000 in
set_option maxRecDepth 100000 in
theorem c_X4_writeSeats {l : Launch} {D : va_G} {g : G0} {A : MdA} {v : MdV} {R : (Int32 × MdV)} (h : f_X4_writeSeats v  = some R) : CtS l D g yX4_writeSeats cX4_writeSeats 2 (some .int) (rmF 5 105) (mdW g A v) [.ref A.1] (some (.int R.1)) (mdW g A R.2) := by
  refine CtS.of (by decide) (Nat.le_of_ble_eq_true rfl) ?_
  intro K C hBA el eD ekn retI retV
  subst el
  subst eD
  have hlt : ∀ i, i < 2 → i < kn K := fun i h => by rw [ekn]; exact h
  have B58 : ∀ (J : Int32 → MdV → Option (Int32 × MdV)) (hJ : ∀ (x1 : Int32) (v : MdV), J x1 v = some R → V K 0 0 (mdW g A v) [(0, .ref A.1), (1, .int x1)] [] 12) (x1 : Int32) (v : MdV), f_X4_writeSeats_B58 J x1 v = some R → V K 0 0 (mdW g A v) [(0, .ref A.1), (1, .int x1)] [] 58 := by
    intro J hJ x1 v h
    rw [f_X4_writeSeats_B58] at h
    refine V_iinc C 1 (x1 + (1 : Int32)) 61 [(1, .int (x1 + (1 : Int32))), (0, .ref A.1)] dX4_writeSeats_58 rfl rfl rfl (hlt 1 (by decide)) rfl ?_
    refine V_goto C 12 dX4_writeSeats_61 rfl ?_
    refine V_lv [1, 0] rfl ?_
    exact hJ _ _ h
  have B27 : ∀ (J : Int32 → MdV → Option (Int32 × MdV)) (hJ : ∀ (x1 : Int32) (v : MdV), J x1 v = some R → V K 0 0 (mdW g A v) [(0, .ref A.1), (1, .int x1)] [] 12) (x1 : Int32) (v : MdV), f_X4_writeSeats_B27 J x1 v = some R → V K 0 0 (mdW g A v) [(0, .ref A.1), (1, .int x1)] [] 27 := by
    intro J hJ x1 v h
    rw [f_X4_writeSeats_B27] at h
    refine V_aload_n C 0 28 dX4_writeSeats_27 rfl rfl ?_
    refine V_iload_n C 1 29 dX4_writeSeats_28 rfl rfl ?_
    obtain ⟨r1, k2, h⟩ := bd_some h
    refine V_callP C ml_X4_71 (pre := []) (post := []) (w := mdW g A v) (as := [.int x1]) (rest := []) (c_X4_inSeat k2) 0 32 dX4_writeSeats_29 rfl ⟨Nat.le_of_ble_eq_true rfl, Nat.le_of_ble_eq_true rfl⟩ rfl (rfl) rfl rfl rfl (Nat.le_of_ble_eq_true rfl) ⟨Nat.zero_le _, Nat.zero_le _⟩ ?_
    refine V_if_ge C 44 35 dX4_writeSeats_32 rfl rfl (fun e3 => ?_) (fun e3 => ?_)
    · have h := (if_pos e3).symm.trans h
      refine V_aload_n C 0 45 dX4_writeSeats_44 rfl rfl ?_
      refine V_aload_n C 0 46 dX4_writeSeats_45 rfl rfl ?_
      refine V_aload_n C 0 47 dX4_writeSeats_46 rfl rfl ?_
      refine V_iload_n C 1 48 dX4_writeSeats_47 rfl rfl ?_
      obtain ⟨r4, k5, h⟩ := bd_some h
      refine V_callP C ml_X4_71 (pre := []) (post := []) (w := mdW g A v) (as := [.int x1]) (rest := [.ref A.1, .ref A.1]) (c_X4_inSeat k5) 0 51 dX4_writeSeats_48 rfl ⟨Nat.le_of_ble_eq_true rfl, Nat.le_of_ble_eq_true rfl⟩ rfl (rfl) rfl rfl rfl (Nat.le_of_ble_eq_true rfl) ⟨Nat.zero_le _, Nat.zero_le _⟩ ?_
      refine V_iconst C (1 : Int32) 52 dX4_writeSeats_51 rfl rfl ?_
      obtain ⟨r6, k7, h⟩ := bd_some h
      refine V_callP C ml_X4_53 (pre := []) (post := []) (w := mdW g A v) (as := [.int r4, .int (1 : Int32)]) (rest := [.ref A.1]) (c_X4_m k7) 0 55 dX4_writeSeats_52 rfl ⟨Nat.le_of_ble_eq_true rfl, Nat.le_of_ble_eq_true rfl⟩ rfl (rfl) rfl rfl rfl (Nat.le_of_ble_eq_true rfl) ⟨Nat.zero_le _, Nat.zero_le _⟩ ?_
      obtain ⟨r8, k9, h⟩ := bd_some h
      refine V_callS C hBA ml_X4_180 (pre := []) (post := []) (w0 := mdW g A v) (w1 := mdW g A r8.2) (as := [.int r6]) (rest := []) (c_X4_writesNumber 3 k9) 0 58 (mdW g A r8.2) dX4_writeSeats_55 rfl ⟨Nat.le_of_ble_eq_true rfl, Nat.le_of_ble_eq_true rfl⟩ rfl (rfl) (rfl) rfl rfl rfl rfl (Nat.le_of_ble_eq_true rfl) ⟨Nat.zero_le _, Nat.zero_le _⟩ ?_
      refine V_lv [0, 1] rfl ?_
      exact B58 J hJ _ _ h
    · have h := (if_neg e3).symm.trans h
      refine V_aload_n C 0 36 dX4_writeSeats_35 rfl rfl ?_
      refine V_bipush C (45 : Int32) 38 dX4_writeSeats_36 rfl rfl ?_
      obtain ⟨r10, k11, h⟩ := bd_some h
      refine V_callS C hBA ml_X4_183 (pre := []) (post := []) (w0 := mdW g A v) (w1 := mdW g A r10.2) (as := [.int (45 : Int32)]) (rest := []) (c_X4_writes k11) 0 41 (mdW g A r10.2) dX4_writeSeats_38 rfl ⟨Nat.le_of_ble_eq_true rfl, Nat.le_of_ble_eq_true rfl⟩ rfl (rfl) (rfl) rfl rfl rfl rfl (Nat.le_of_ble_eq_true rfl) ⟨Nat.zero_le _, Nat.zero_le _⟩ ?_
      refine V_goto C 58 dX4_writeSeats_41 rfl ?_
      refine V_lv [0, 1] rfl ?_
      exact B58 J hJ _ _ h
  have L12 : ∀ (n : Nat) (x1 : Int32) (v : MdV), f_X4_writeSeats_L12 n x1 v = some R → V K 0 0 (mdW g A v) [(0, .ref A.1), (1, .int x1)] [] 12 := by
    intro n
    induction n with
    | zero =>
      intro x1 v h
      rw [f_X4_writeSeats_L12] at h
      cases h
    | succ n ih =>
      intro x1 v h
      rw [f_X4_writeSeats_L12] at h
      refine V_iload_n C 1 13 dX4_writeSeats_12 rfl rfl ?_
      refine V_iconst C (5 : Int32) 14 dX4_writeSeats_13 rfl rfl ?_
      refine V_icmp_ge C 64 17 dX4_writeSeats_14 rfl rfl (fun e12 => ?_) (fun e12 => ?_)
      · have h := (if_pos e12).symm.trans h
        refine V_aload_n C 0 65 dX4_writeSeats_64 rfl rfl ?_
        refine V_get C (v := .int (Md_outputSize v)) 0 68 fl_X4_177 dX4_writeSeats_65 rfl rfl rfl ?_
        obtain rfl := Option.some.inj h
        exact retI _ _ _ .int rfl (rfl) rfl dX4_writeSeats_68
      · have h := (if_neg e12).symm.trans h
        refine V_iload_n C 1 18 dX4_writeSeats_17 rfl rfl ?_
        refine V_if_le C 27 21 dX4_writeSeats_18 rfl rfl (fun e13 => ?_) (fun e13 => ?_)
        · have h := (if_pos e13).symm.trans h
          refine V_lv [0, 1] rfl ?_
          exact B27 (f_X4_writeSeats_L12 n) ih _ _ h
        · have h := (if_neg e13).symm.trans h
          refine V_aload_n C 0 22 dX4_writeSeats_21 rfl rfl ?_
          refine V_bipush C (44 : Int32) 24 dX4_writeSeats_22 rfl rfl ?_
          obtain ⟨r14, k15, h⟩ := bd_some h
          refine V_callS C hBA ml_X4_183 (pre := []) (post := []) (w0 := mdW g A v) (w1 := mdW g A r14.2) (as := [.int (44 : Int32)]) (rest := []) (c_X4_writes k15) 0 27 (mdW g A r14.2) dX4_writeSeats_24 rfl ⟨Nat.le_of_ble_eq_true rfl, Nat.le_of_ble_eq_true rfl⟩ rfl (rfl) (rfl) rfl rfl rfl rfl (Nat.le_of_ble_eq_true rfl) ⟨Nat.zero_le _, Nat.zero_le _⟩ ?_
          refine V_lv [0, 1] rfl ?_
          exact B27 (f_X4_writeSeats_L12 n) ih _ _ h
  show V K 0 0 _ [(0, .ref A.1)] [] 0
  unfold f_X4_writeSeats at h
  refine V_aload_n C 0 1 dX4_writeSeats_0 rfl rfl ?_
  refine V_iconst C (0 : Int32) 2 dX4_writeSeats_1 rfl rfl ?_
  refine V_put C hBA 0 5 (mdW g A ((Md_all v), (Md_output v), (Md_input v), (Md_commands v), (0 : Int32), (Md_changes v), (Md_isSaved v), (Md_result v), (Md_why v), (Md_detail v), (Md_cause v), (Md_outputSize v), (Md_typed v), (Md_here v), (Md_error v), (Md_errorAt v), (Md_commandMany v))) fl_X4_27 fp_X4_0 dX4_writeSeats_2 rfl rfl (Nat.le_of_ble_eq_true rfl) rfl rfl rfl ?_
  refine V_aload_n C 0 6 dX4_writeSeats_5 rfl rfl ?_
  refine V_iconst C (0 : Int32) 7 dX4_writeSeats_6 rfl rfl ?_
  refine V_put C hBA 0 10 (mdW g A ((Md_all v), (Md_output v), (Md_input v), (Md_commands v), (0 : Int32), (Md_changes v), (Md_isSaved v), (Md_result v), (Md_why v), (Md_detail v), (Md_cause v), (0 : Int32), (Md_typed v), (Md_here v), (Md_error v), (Md_errorAt v), (Md_commandMany v))) fl_X4_177 fp_X4_9 dX4_writeSeats_7 rfl rfl (Nat.le_of_ble_eq_true rfl) rfl rfl rfl ?_
  refine V_iconst C (0 : Int32) 11 dX4_writeSeats_10 rfl rfl ?_
  refine V_istore_n C 12 [(1, .int (0 : Int32)), (0, .ref A.1)] dX4_writeSeats_11 rfl (hlt 1 (by decide)) rfl ?_
  refine V_lv [1, 0] rfl ?_
  exact L12 100 _ _ h
set_option maxHeartbeats 4000000 in
set_option maxRecDepth 100000 in
theorem c_X4_outputAt {l : Launch} {D : va_G} {g : G0} {A : MdA} {v : MdV} {a1 : Int32} {R : (Int32 × MdV)} (h : f_X4_outputAt v a1 = some R) : CtS l D g yX4_outputAt cX4_outputAt 2 (some .char) (rmF 1 22) (mdW g A v) [.ref A.1, .int a1] (some (.int R.1)) (mdW g A R.2) := by
  refine CtS.of (by decide) (Nat.le_of_ble_eq_true rfl) ?_
  intro K C hBA el eD ekn retI retV
  subst el
  subst eD
  have hlt : ∀ i, i < 2 → i < kn K := fun i h => by rw [ekn]; exact h
  have B28 : ∀ (x1 : Int32) (s0 : Int32) (v : MdV), f_X4_outputAt_B28 x1 s0 v = some R → V K 0 0 (mdW g A v) [(0, .ref A.1), (1, .int x1)] [.int s0] 28 := by
    intro x1 s0 v h
    rw [f_X4_outputAt_B28] at h
    obtain ⟨g1, h⟩ := gd_some h
    obtain rfl := Option.some.inj h
    exact retI _ _ _ .char rfl (isc_t g1) rfl dX4_outputAt_28
  show V K 0 0 _ [(0, .ref A.1), (1, .int a1)] [] 0
  unfold f_X4_outputAt at h
  refine V_aload_n C 0 1 dX4_outputAt_0 rfl rfl ?_
  refine V_iload_n C 1 2 dX4_outputAt_1 rfl rfl ?_
  refine V_iconst C (0 : Int32) 3 dX4_outputAt_2 rfl rfl ?_
  refine V_aload_n C 0 4 dX4_outputAt_3 rfl rfl ?_
  refine V_get C (v := .int (Md_outputSize v)) 0 7 fl_X4_177 dX4_outputAt_4 rfl rfl rfl ?_
  refine V_iconst C (1 : Int32) 8 dX4_outputAt_7 rfl rfl ?_
  refine V_isub C 9 dX4_outputAt_8 rfl ?_
  obtain ⟨r2, k3, h⟩ := bd_some h
  refine V_callPs C mls_X4_57 (pre := []) (post := mdW g A v) (w := []) (as := [.int a1, .int (0 : Int32), .int ((Md_outputSize v) - (1 : Int32))]) (rest := [.ref A.1]) (c_X4_in k3) 12 dX4_outputAt_9 rfl ⟨Nat.le_of_ble_eq_true rfl, Nat.le_of_ble_eq_true rfl⟩ rfl rfl rfl rfl (Nat.le_of_ble_eq_true rfl) ⟨Nat.zero_le _, Nat.zero_le _⟩ ?_
  obtain ⟨r4, k5, h⟩ := bd_some h
  refine V_callS C hBA ml_X4_49 (pre := []) (post := []) (w0 := mdW g A v) (w1 := mdW g A r4.2) (as := [.int r2]) (rest := []) (c_X4_isFine k5) 0 15 (mdW g A r4.2) dX4_outputAt_12 rfl ⟨Nat.le_of_ble_eq_true rfl, Nat.le_of_ble_eq_true rfl⟩ rfl (rfl) (rfl) rfl rfl rfl rfl (Nat.le_of_ble_eq_true rfl) ⟨Nat.zero_le _, Nat.zero_le _⟩ ?_
  refine V_if_eq C 27 18 dX4_outputAt_15 rfl rfl (fun e6 => ?_) (fun e6 => ?_)
  · have h := (if_pos e6).symm.trans h
    refine V_iconst C (0 : Int32) 28 dX4_outputAt_27 rfl rfl ?_
    refine V_lv [0, 1] rfl ?_
    exact B28 _ _ _ h
  · have h := (if_neg e6).symm.trans h
    refine V_aload_n C 0 19 dX4_outputAt_18 rfl rfl ?_
    refine V_get C (v := .ref A.2.2.1) 0 22 fl_X4_13 dX4_outputAt_19 rfl rfl rfl ?_
    refine V_iload_n C 1 23 dX4_outputAt_22 rfl rfl ?_
    obtain ⟨g7, h⟩ := gd_some h
    refine V_cald C (f := (Md_output r4.2)) (n := 120) 2 24 dX4_outputAt_23 rfl rfl g7 ?_
    refine V_goto C 28 dX4_outputAt_24 rfl ?_
    refine V_lv [0, 1] rfl ?_
    exact B28 _ _ _ h
set_option maxHeartbeats 4000000 in
set_option maxRecDepth 100000 in
theorem c_X4_appendInput {l : Launch} {D : va_G} {g : G0} {A : MdA} {v : MdV} {a1 : Int32} {R : (Int32 × MdV)} (h : f_X4_appendInput v a1 = some R) : CtS l D g yX4_appendInput cX4_appendInput 2 (some .int) (rmF 1 22) (mdW g A v) [.ref A.1, .int a1] (some (.int R.1)) (mdW g A R.2) := by
  refine CtS.of (by decide) (Nat.le_of_ble_eq_true rfl) ?_
  intro K C hBA el eD ekn retI retV
  subst el
  subst eD
  have hlt : ∀ i, i < 2 → i < kn K := fun i h => by rw [ekn]; exact h
  have B30 : ∀ (x1 : Int32) (s0 : Int32) (v : MdV), f_X4_appendInput_B30 x1 s0 v = some R → V K 0 0 (mdW g A v) [(0, .ref A.1), (1, .int x1)] [.int s0, .ref A.1] 30 := by
    intro x1 s0 v h
    rw [f_X4_appendInput_B30] at h
    refine V_put C hBA 0 33 (mdW g A ((Md_all v), (Md_output v), (Md_input v), (Md_commands v), s0, (Md_changes v), (Md_isSaved v), (Md_result v), (Md_why v), (Md_detail v), (Md_cause v), (Md_outputSize v), (Md_typed v), (Md_here v), (Md_error v), (Md_errorAt v), (Md_commandMany v))) fl_X4_27 fp_X4_0 dX4_appendInput_30 rfl rfl (Nat.le_of_ble_eq_true rfl) rfl rfl rfl ?_
    refine V_aload_n C 0 34 dX4_appendInput_33 rfl rfl ?_
    refine V_get C (v := .int s0) 0 37 fl_X4_27 dX4_appendInput_34 rfl rfl rfl ?_
    refine V_if_eq C 42 40 dX4_appendInput_37 rfl rfl (fun e1 => ?_) (fun e1 => ?_)
    · have h := (if_pos e1).symm.trans h
      refine V_aload_n C 0 43 dX4_appendInput_42 rfl rfl ?_
      refine V_get C (v := .ref A.2.2.2.1) 0 46 fl_X4_17 dX4_appendInput_43 rfl rfl rfl ?_
      refine V_aload_n C 0 47 dX4_appendInput_46 rfl rfl ?_
      refine V_get C (v := .int (Md_typed v)) 0 50 fl_X4_186 dX4_appendInput_47 rfl rfl rfl ?_
      refine V_iload_n C 1 51 dX4_appendInput_50 rfl rfl ?_
      obtain ⟨g2, h⟩ := gd_some h
      refine V_cast C hBA (f := (Md_input v)) (n := 60) 3 52 (mdW g A ((Md_all v), (Md_output v), (upd (Md_input v) (cl (Md_typed v)) (vp_nar .char x1)), (Md_commands v), s0, (Md_changes v), (Md_isSaved v), (Md_result v), (Md_why v), (Md_detail v), (Md_cause v), (Md_outputSize v), (Md_typed v), (Md_here v), (Md_error v), (Md_errorAt v), (Md_commandMany v))) dX4_appendInput_51 rfl rfl g2 rfl ?_
      refine V_aload_n C 0 53 dX4_appendInput_52 rfl rfl ?_
      refine V_dup C 54 dX4_appendInput_53 rfl rfl ?_
      refine V_get C (v := .int (Md_typed v)) 0 57 fl_X4_186 dX4_appendInput_54 rfl rfl rfl ?_
      refine V_iconst C (1 : Int32) 58 dX4_appendInput_57 rfl rfl ?_
      refine V_iadd C 59 dX4_appendInput_58 rfl ?_
      refine V_put C hBA 0 62 (mdW g A ((Md_all v), (Md_output v), (upd (Md_input v) (cl (Md_typed v)) (vp_nar .char x1)), (Md_commands v), s0, (Md_changes v), (Md_isSaved v), (Md_result v), (Md_why v), (Md_detail v), (Md_cause v), (Md_outputSize v), ((Md_typed v) + (1 : Int32)), (Md_here v), (Md_error v), (Md_errorAt v), (Md_commandMany v))) fl_X4_186 fp_X4_11 dX4_appendInput_59 rfl rfl (Nat.le_of_ble_eq_true rfl) rfl rfl rfl ?_
      refine V_aload_n C 0 63 dX4_appendInput_62 rfl rfl ?_
      refine V_get C (v := .int ((Md_typed v) + (1 : Int32))) 0 66 fl_X4_186 dX4_appendInput_63 rfl rfl rfl ?_
      obtain rfl := Option.some.inj h
      exact retI _ _ _ .int rfl (rfl) rfl dX4_appendInput_66
    · have h := (if_neg e1).symm.trans h
      refine V_iconst C (0 : Int32) 41 dX4_appendInput_40 rfl rfl ?_
      obtain rfl := Option.some.inj h
      exact retI _ _ _ .int rfl (rfl) rfl dX4_appendInput_41
  show V K 0 0 _ [(0, .ref A.1), (1, .int a1)] [] 0
  unfold f_X4_appendInput at h
  refine V_aload_n C 0 1 dX4_appendInput_0 rfl rfl ?_
  refine V_iload_n C 1 2 dX4_appendInput_1 rfl rfl ?_
  refine V_bipush C (32 : Int32) 4 dX4_appendInput_2 rfl rfl ?_
  refine V_bipush C (126 : Int32) 6 dX4_appendInput_4 rfl rfl ?_
  obtain ⟨r3, k4, h⟩ := bd_some h
  refine V_callPs C mls_X4_57 (pre := []) (post := mdW g A v) (w := []) (as := [.int a1, .int (32 : Int32), .int (126 : Int32)]) (rest := [.ref A.1]) (c_X4_in k4) 9 dX4_appendInput_6 rfl ⟨Nat.le_of_ble_eq_true rfl, Nat.le_of_ble_eq_true rfl⟩ rfl rfl rfl rfl (Nat.le_of_ble_eq_true rfl) ⟨Nat.zero_le _, Nat.zero_le _⟩ ?_
  refine V_if_ne C 16 12 dX4_appendInput_9 rfl rfl (fun e5 => ?_) (fun e5 => ?_)
  · have h := (if_neg e5).symm.trans h
    refine V_aload_n C 0 17 dX4_appendInput_16 rfl rfl ?_
    refine V_get C (v := .int (Md_typed v)) 0 20 fl_X4_186 dX4_appendInput_17 rfl rfl rfl ?_
    refine V_bipush C (60 : Int32) 22 dX4_appendInput_20 rfl rfl ?_
    refine V_icmp_ne C 29 25 dX4_appendInput_22 rfl rfl (fun e6 => ?_) (fun e6 => ?_)
    · have h := (if_neg e6).symm.trans h
      refine V_iconst C (0 : Int32) 30 dX4_appendInput_29 rfl rfl ?_
      refine V_lv [0, 1] rfl ?_
      exact B30 _ _ _ h
    · have h := (if_pos e6).symm.trans h
      refine V_iconst C (2 : Int32) 26 dX4_appendInput_25 rfl rfl ?_
      refine V_goto C 30 dX4_appendInput_26 rfl ?_
      refine V_lv [0, 1] rfl ?_
      exact B30 _ _ _ h
  · have h := (if_pos e5).symm.trans h
    refine V_iconst C (1 : Int32) 13 dX4_appendInput_12 rfl rfl ?_
    refine V_goto C 30 dX4_appendInput_13 rfl ?_
    refine V_lv [0, 1] rfl ?_
    exact B30 _ _ _ h
set_option maxHeartbeats 4000000 in
set_option maxRecDepth 100000 in
theorem c_X4_sign {l : Launch} {D : va_G} {g : G0} {A : MdA} {v : MdV} {R : Int32} (h : f_X4_sign v  = some R) : CtP l D g yX4_sign cX4_sign 1 (some .int) (rmF 0 0) (mdW g A v) [.ref A.1] (some (.int R)) := by
  refine CtP.of (by decide) rfl rfl (Nat.le_of_ble_eq_true rfl) ?_
  intro K C el eD ekn retI
  subst el
  subst eD
  have hlt : ∀ i, i < 1 → i < kn K := fun i h => by rw [ekn]; exact h
  have B24 : ∀ (s0 : Int32), f_X4_sign_B24 v s0 = some R → V K 0 0 (mdW g A v) [(0, .ref A.1)] [.int s0] 24 := by
    intro s0 h
    rw [f_X4_sign_B24] at h
    obtain rfl := Option.some.inj h
    exact retI _ _ _ .int rfl (rfl) rfl dX4_sign_24
  show V K 0 0 _ [(0, .ref A.1)] [] 0
  unfold f_X4_sign at h
  refine V_aload_n C 0 1 dX4_sign_0 rfl rfl ?_
  refine V_get C (v := .int (Md_here v)) 0 4 fl_X4_189 dX4_sign_1 rfl rfl rfl ?_
  refine V_aload_n C 0 5 dX4_sign_4 rfl rfl ?_
  refine V_get C (v := .int (Md_typed v)) 0 8 fl_X4_186 dX4_sign_5 rfl rfl rfl ?_
  refine V_icmp_ge C 23 11 dX4_sign_8 rfl rfl (fun e1 => ?_) (fun e1 => ?_)
  · have h := (if_pos e1).symm.trans h
    refine V_iconst C (-1 : Int32) 24 dX4_sign_23 rfl rfl ?_
    refine V_lv [0] rfl ?_
    exact B24 _ h
  · have h := (if_neg e1).symm.trans h
    refine V_aload_n C 0 12 dX4_sign_11 rfl rfl ?_
    refine V_get C (v := .ref A.2.2.2.1) 0 15 fl_X4_17 dX4_sign_12 rfl rfl rfl ?_
    refine V_aload_n C 0 16 dX4_sign_15 rfl rfl ?_
    refine V_get C (v := .int (Md_here v)) 0 19 fl_X4_189 dX4_sign_16 rfl rfl rfl ?_
    obtain ⟨g2, h⟩ := gd_some h
    refine V_cald C (f := (Md_input v)) (n := 60) 3 20 dX4_sign_19 rfl rfl g2 ?_
    refine V_goto C 24 dX4_sign_20 rfl ?_
    refine V_lv [0] rfl ?_
    exact B24 _ h
set_option maxHeartbeats 4000000 in
set_option maxRecDepth 100000 in
theorem c_X4_needs {l : Launch} {D : va_G} {g : G0} {A : MdA} {v : MdV} {a1 : Int32} {R : (Int32 × MdV)} (h : f_X4_needs v a1 = some R) : CtS l D g yX4_needs cX4_needs 2 none (rmF 1 20) (mdW g A v) [.ref A.1, .int a1] none (mdW g A R.2) := by
  refine CtS.of (by decide) (Nat.le_of_ble_eq_true rfl) ?_
  intro K C hBA el eD ekn retI retV
  subst el
  subst eD
  have hlt : ∀ i, i < 2 → i < kn K := fun i h => by rw [ekn]; exact h
  show V K 0 0 _ [(0, .ref A.1), (1, .int a1)] [] 0
  unfold f_X4_needs at h
  refine V_aload_n C 0 1 dX4_needs_0 rfl rfl ?_
  refine V_get C (v := .int (Md_error v)) 0 4 fl_X4_192 dX4_needs_1 rfl rfl rfl ?_
  refine V_if_lt C 8 7 dX4_needs_4 rfl rfl (fun e1 => ?_) (fun e1 => ?_)
  · have h := (if_pos e1).symm.trans h
    refine V_aload_n C 0 9 dX4_needs_8 rfl rfl ?_
    obtain ⟨r2, k3, h⟩ := bd_some h
    refine V_callP C ml_X4_195 (pre := []) (post := []) (w := mdW g A v) (as := []) (rest := []) (c_X4_sign k3) 0 12 dX4_needs_9 rfl ⟨Nat.le_of_ble_eq_true rfl, Nat.le_of_ble_eq_true rfl⟩ rfl (rfl) rfl rfl rfl (Nat.le_of_ble_eq_true rfl) ⟨Nat.zero_le _, Nat.zero_le _⟩ ?_
    refine V_iload_n C 1 13 dX4_needs_12 rfl rfl ?_
    refine V_icmp_eq C 25 16 dX4_needs_13 rfl rfl (fun e4 => ?_) (fun e4 => ?_)
    · have h := (if_pos e4).symm.trans h
      refine V_aload_n C 0 26 dX4_needs_25 rfl rfl ?_
      refine V_dup C 27 dX4_needs_26 rfl rfl ?_
      refine V_get C (v := .int (Md_here v)) 0 30 fl_X4_189 dX4_needs_27 rfl rfl rfl ?_
      refine V_iconst C (1 : Int32) 31 dX4_needs_30 rfl rfl ?_
      refine V_iadd C 32 dX4_needs_31 rfl ?_
      refine V_put C hBA 0 35 (mdW g A ((Md_all v), (Md_output v), (Md_input v), (Md_commands v), (Md_thrown v), (Md_changes v), (Md_isSaved v), (Md_result v), (Md_why v), (Md_detail v), (Md_cause v), (Md_outputSize v), (Md_typed v), ((Md_here v) + (1 : Int32)), (Md_error v), (Md_errorAt v), (Md_commandMany v))) fl_X4_189 fp_X4_12 dX4_needs_32 rfl rfl (Nat.le_of_ble_eq_true rfl) rfl rfl rfl ?_
      obtain rfl := Option.some.inj h
      exact retV _ _ rfl rfl dX4_needs_35
    · have h := (if_neg e4).symm.trans h
      refine V_aload_n C 0 17 dX4_needs_16 rfl rfl ?_
      refine V_aload_n C 0 18 dX4_needs_17 rfl rfl ?_
      refine V_get C (v := .int (Md_here v)) 0 21 fl_X4_189 dX4_needs_18 rfl rfl rfl ?_
      refine V_put C hBA 0 24 (mdW g A ((Md_all v), (Md_output v), (Md_input v), (Md_commands v), (Md_thrown v), (Md_changes v), (Md_isSaved v), (Md_result v), (Md_why v), (Md_detail v), (Md_cause v), (Md_outputSize v), (Md_typed v), (Md_here v), (Md_here v), (Md_errorAt v), (Md_commandMany v))) fl_X4_192 fp_X4_13 dX4_needs_21 rfl rfl (Nat.le_of_ble_eq_true rfl) rfl rfl rfl ?_
      obtain rfl := Option.some.inj h
      exact retV _ _ rfl rfl dX4_needs_24
  · have h := (if_neg e1).symm.trans h
    obtain rfl := Option.some.inj h
    exact retV _ _ rfl rfl dX4_needs_7
set_option maxHeartbeats 4000000 in
set_option maxRecDepth 100000 in
theorem c_X4_number {l : Launch} {D : va_G} {g : G0} {A : MdA} {v : MdV} {a1 : Int32} {R : (Int32 × MdV)} (h : f_X4_number v a1 = some R) : CtS l D g yX4_number cX4_number 4 (some .int) (rmF 1 22) (mdW g A v) [.ref A.1, .int a1] (some (.int R.1)) (mdW g A R.2) := by
  refine CtS.of (by decide) (Nat.le_of_ble_eq_true rfl) ?_
  intro K C hBA el eD ekn retI retV
  subst el
  subst eD
  have hlt : ∀ i, i < 4 → i < kn K := fun i h => by rw [ekn]; exact h
  have B85 : ∀ (x1 : Int32) (x2 : Int32) (x3 : Int32) (v : MdV), f_X4_number_B85 x1 x2 x3 v = some R → V K 0 0 (mdW g A v) [(0, .ref A.1), (1, .int x1), (2, .int x2), (3, .int x3)] [] 85 := by
    intro x1 x2 x3 v h
    rw [f_X4_number_B85] at h
    refine V_iload_n C 2 86 dX4_number_85 rfl rfl ?_
    obtain rfl := Option.some.inj h
    exact retI _ _ _ .int rfl (rfl) rfl dX4_number_86
  have L37 : ∀ (n : Nat) (x1 : Int32) (x2 : Int32) (x3 : Int32) (v : MdV), f_X4_number_L37 n x1 x2 x3 v = some R → V K 0 0 (mdW g A v) [(0, .ref A.1), (1, .int x1), (2, .int x2), (3, .int x3)] [] 37 := by
    intro n
    induction n with
    | zero =>
      intro x1 x2 x3 v h
      rw [f_X4_number_L37] at h
      cases h
    | succ n ih =>
      intro x1 x2 x3 v h
      rw [f_X4_number_L37] at h
      refine V_iload_n C 3 38 dX4_number_37 rfl rfl ?_
      refine V_iload_n C 1 39 dX4_number_38 rfl rfl ?_
      refine V_icmp_ge C 85 42 dX4_number_39 rfl rfl (fun e1 => ?_) (fun e1 => ?_)
      · have h := (if_pos e1).symm.trans h
        refine V_lv [0, 1, 2, 3] rfl ?_
        exact B85 _ _ _ _ h
      · have h := (if_neg e1).symm.trans h
        refine V_aload_n C 0 43 dX4_number_42 rfl rfl ?_
        obtain ⟨r2, k3, h⟩ := bd_some h
        refine V_callP C ml_X4_195 (pre := []) (post := []) (w := mdW g A v) (as := []) (rest := []) (c_X4_sign k3) 0 46 dX4_number_43 rfl ⟨Nat.le_of_ble_eq_true rfl, Nat.le_of_ble_eq_true rfl⟩ rfl (rfl) rfl rfl rfl (Nat.le_of_ble_eq_true rfl) ⟨Nat.zero_le _, Nat.zero_le _⟩ ?_
        refine V_bipush C (48 : Int32) 48 dX4_number_46 rfl rfl ?_
        refine V_bipush C (57 : Int32) 50 dX4_number_48 rfl rfl ?_
        obtain ⟨r4, k5, h⟩ := bd_some h
        refine V_callPs C mls_X4_57 (pre := []) (post := mdW g A v) (w := []) (as := [.int r2, .int (48 : Int32), .int (57 : Int32)]) (rest := []) (c_X4_in k5) 53 dX4_number_50 rfl ⟨Nat.le_of_ble_eq_true rfl, Nat.le_of_ble_eq_true rfl⟩ rfl rfl rfl rfl (Nat.le_of_ble_eq_true rfl) ⟨Nat.zero_le _, Nat.zero_le _⟩ ?_
        refine V_if_eq C 85 56 dX4_number_53 rfl rfl (fun e6 => ?_) (fun e6 => ?_)
        · have h := (if_pos e6).symm.trans h
          refine V_lv [0, 1, 2, 3] rfl ?_
          exact B85 _ _ _ _ h
        · have h := (if_neg e6).symm.trans h
          refine V_bipush C (10 : Int32) 58 dX4_number_56 rfl rfl ?_
          refine V_iload_n C 2 59 dX4_number_58 rfl rfl ?_
          refine V_imul C 60 dX4_number_59 rfl ?_
          refine V_aload_n C 0 61 dX4_number_60 rfl rfl ?_
          obtain ⟨r7, k8, h⟩ := bd_some h
          refine V_callP C ml_X4_195 (pre := []) (post := []) (w := mdW g A v) (as := []) (rest := [.int ((10 : Int32) * x2)]) (c_X4_sign k8) 0 64 dX4_number_61 rfl ⟨Nat.le_of_ble_eq_true rfl, Nat.le_of_ble_eq_true rfl⟩ rfl (rfl) rfl rfl rfl (Nat.le_of_ble_eq_true rfl) ⟨Nat.zero_le _, Nat.zero_le _⟩ ?_
          refine V_iadd C 65 dX4_number_64 rfl ?_
          refine V_bipush C (48 : Int32) 67 dX4_number_65 rfl rfl ?_
          refine V_isub C 68 dX4_number_67 rfl ?_
          refine V_istore_n C 69 [(2, .int ((((10 : Int32) * x2) + r7) - (48 : Int32))), (0, .ref A.1), (1, .int x1), (3, .int x3)] dX4_number_68 rfl (hlt 2 (by decide)) rfl ?_
          refine V_aload_n C 1 70 dX4_number_69 rfl rfl ?_
          refine V_dup C 71 dX4_number_70 rfl rfl ?_
          refine V_get C (v := .int (Md_here v)) 0 74 fl_X4_189 dX4_number_71 rfl rfl rfl ?_
          refine V_iconst C (1 : Int32) 75 dX4_number_74 rfl rfl ?_
          refine V_iadd C 76 dX4_number_75 rfl ?_
          refine V_put C hBA 0 79 (mdW g A ((Md_all v), (Md_output v), (Md_input v), (Md_commands v), (Md_thrown v), (Md_changes v), (Md_isSaved v), (Md_result v), (Md_why v), (Md_detail v), (Md_cause v), (Md_outputSize v), (Md_typed v), ((Md_here v) + (1 : Int32)), (Md_error v), (Md_errorAt v), (Md_commandMany v))) fl_X4_189 fp_X4_12 dX4_number_76 rfl rfl (Nat.le_of_ble_eq_true rfl) rfl rfl rfl ?_
          refine V_iinc C 3 (x3 + (1 : Int32)) 82 [(3, .int (x3 + (1 : Int32))), (2, .int ((((10 : Int32) * x2) + r7) - (48 : Int32))), (0, .ref A.1), (1, .int x1)] dX4_number_79 rfl rfl rfl (hlt 3 (by decide)) rfl ?_
          refine V_goto C 37 dX4_number_82 rfl ?_
          refine V_lv [2, 3, 1, 0] rfl ?_
          exact ih _ _ _ _ h
  show V K 0 0 _ [(0, .ref A.1), (1, .int a1)] [] 0
  unfold f_X4_number at h
  refine V_aload_n C 0 1 dX4_number_0 rfl rfl ?_
  refine V_get C (v := .int (Md_error v)) 0 4 fl_X4_192 dX4_number_1 rfl rfl rfl ?_
  refine V_if_lt C 9 7 dX4_number_4 rfl rfl (fun e9 => ?_) (fun e9 => ?_)
  · have h := (if_pos e9).symm.trans h
    refine V_aload_n C 0 10 dX4_number_9 rfl rfl ?_
    obtain ⟨r10, k11, h⟩ := bd_some h
    refine V_callP C ml_X4_195 (pre := []) (post := []) (w := mdW g A v) (as := []) (rest := []) (c_X4_sign k11) 0 13 dX4_number_10 rfl ⟨Nat.le_of_ble_eq_true rfl, Nat.le_of_ble_eq_true rfl⟩ rfl (rfl) rfl rfl rfl (Nat.le_of_ble_eq_true rfl) ⟨Nat.zero_le _, Nat.zero_le _⟩ ?_
    refine V_bipush C (48 : Int32) 15 dX4_number_13 rfl rfl ?_
    refine V_bipush C (57 : Int32) 17 dX4_number_15 rfl rfl ?_
    obtain ⟨r12, k13, h⟩ := bd_some h
    refine V_callPs C mls_X4_57 (pre := []) (post := mdW g A v) (w := []) (as := [.int r10, .int (48 : Int32), .int (57 : Int32)]) (rest := []) (c_X4_in k13) 20 dX4_number_17 rfl ⟨Nat.le_of_ble_eq_true rfl, Nat.le_of_ble_eq_true rfl⟩ rfl rfl rfl rfl (Nat.le_of_ble_eq_true rfl) ⟨Nat.zero_le _, Nat.zero_le _⟩ ?_
    refine V_if_ne C 33 23 dX4_number_20 rfl rfl (fun e14 => ?_) (fun e14 => ?_)
    · have h := (if_neg e14).symm.trans h
      refine V_iconst C (0 : Int32) 34 dX4_number_33 rfl rfl ?_
      refine V_istore_n C 35 [(2, .int (0 : Int32)), (0, .ref A.1), (1, .int a1)] dX4_number_34 rfl (hlt 2 (by decide)) rfl ?_
      refine V_iconst C (0 : Int32) 36 dX4_number_35 rfl rfl ?_
      refine V_istore_n C 37 [(3, .int (0 : Int32)), (2, .int (0 : Int32)), (0, .ref A.1), (1, .int a1)] dX4_number_36 rfl (hlt 3 (by decide)) rfl ?_
      refine V_lv [2, 3, 1, 0] rfl ?_
      exact L37 100 _ _ _ _ h
    · have h := (if_pos e14).symm.trans h
      refine V_aload_n C 0 24 dX4_number_23 rfl rfl ?_
      refine V_aload_n C 0 25 dX4_number_24 rfl rfl ?_
      refine V_get C (v := .int (Md_here v)) 0 28 fl_X4_189 dX4_number_25 rfl rfl rfl ?_
      refine V_put C hBA 0 31 (mdW g A ((Md_all v), (Md_output v), (Md_input v), (Md_commands v), (Md_thrown v), (Md_changes v), (Md_isSaved v), (Md_result v), (Md_why v), (Md_detail v), (Md_cause v), (Md_outputSize v), (Md_typed v), (Md_here v), (Md_here v), (Md_errorAt v), (Md_commandMany v))) fl_X4_192 fp_X4_13 dX4_number_28 rfl rfl (Nat.le_of_ble_eq_true rfl) rfl rfl rfl ?_
      refine V_iconst C (0 : Int32) 32 dX4_number_31 rfl rfl ?_
      obtain rfl := Option.some.inj h
      exact retI _ _ _ .int rfl (rfl) rfl dX4_number_32
  · have h := (if_neg e9).symm.trans h
    refine V_iconst C (0 : Int32) 8 dX4_number_7 rfl rfl ?_
    obtain rfl := Option.some.inj h
    exact retI _ _ _ .int rfl (rfl) rfl dX4_number_8
set_option maxHeartbeats 4000000 in
set_option maxRecDepth 100000 in
theorem c_X4_behind {l : Launch} {D : va_G} {g : G0} {A : MdA} {v : MdV} {a1 a2 : Int32} {R : (Int32 × MdV)} (h : f_X4_behind v a1 a2 = some R) : CtS l D g yX4_behind cX4_behind 3 (some .int) (rmF 2 45) (mdW g A v) [.ref A.1, .int a1, .int a2] (some (.int R.1)) (mdW g A R.2) := by
  refine CtS.of (by decide) (Nat.le_of_ble_eq_true rfl) ?_
  intro K C hBA el eD ekn retI retV
  subst el
  subst eD
  have hlt : ∀ i, i < 3 → i < kn K := fun i h => by rw [ekn]; exact h
  show V K 0 0 _ [(0, .ref A.1), (1, .int a1), (2, .int a2)] [] 0
  unfold f_X4_behind at h
  refine V_aload_n C 0 1 dX4_behind_0 rfl rfl ?_
  refine V_iload_n C 1 2 dX4_behind_1 rfl rfl ?_
  obtain ⟨r1, k2, h⟩ := bd_some h
  refine V_callS C hBA ml_X4_198 (pre := []) (post := []) (w0 := mdW g A v) (w1 := mdW g A r1.2) (as := [.int a1]) (rest := []) (c_X4_needs k2) 0 5 (mdW g A r1.2) dX4_behind_2 rfl ⟨Nat.le_of_ble_eq_true rfl, Nat.le_of_ble_eq_true rfl⟩ rfl (rfl) (rfl) rfl rfl rfl rfl (Nat.le_of_ble_eq_true rfl) ⟨Nat.zero_le _, Nat.zero_le _⟩ ?_
  refine V_aload_n C 0 6 dX4_behind_5 rfl rfl ?_
  refine V_iload_n C 2 7 dX4_behind_6 rfl rfl ?_
  obtain ⟨r3, k4, h⟩ := bd_some h
  refine V_callS C hBA ml_X4_201 (pre := []) (post := []) (w0 := mdW g A r1.2) (w1 := mdW g A r3.2) (as := [.int a2]) (rest := []) (c_X4_number k4) 0 10 (mdW g A r3.2) dX4_behind_7 rfl ⟨Nat.le_of_ble_eq_true rfl, Nat.le_of_ble_eq_true rfl⟩ rfl (rfl) (rfl) rfl rfl rfl rfl (Nat.le_of_ble_eq_true rfl) ⟨Nat.zero_le _, Nat.zero_le _⟩ ?_
  obtain rfl := Option.some.inj h
  exact retI _ _ _ .int rfl (rfl) rfl dX4_behind_10
set_option maxHeartbeats 4000000 in
set_option maxRecDepth 100000 in
theorem c_X4_isLetter {l : Launch} {D : va_G} {g : G0}  {a1 : Int32} {R : Int32} (h : f_X4_isLetter a1 = some R) : CtP l D g yX4_isLetter cX4_isLetter 1 (some .boolean) (rmF 0 0) ([]) [.int a1] (some (.int R)) := by
  refine CtP.of (by decide) rfl rfl (Nat.le_of_ble_eq_true rfl) ?_
  intro K C el eD ekn retI
  subst el
  subst eD
  have hlt : ∀ i, i < 1 → i < kn K := fun i h => by rw [ekn]; exact h
  have B59 : ∀ (x0 : Int32) (s0 : Int32), f_X4_isLetter_B59 x0 s0 = some R → V K 0 0 ([]) [(0, .int x0)] [.int s0] 59 := by
    intro x0 s0 h
    rw [f_X4_isLetter_B59] at h
    obtain ⟨g1, h⟩ := gd_some h
    obtain rfl := Option.some.inj h
    exact retI _ _ _ .boolean rfl (isz_t g1) rfl dX4_isLetter_59
  have B54 : ∀ (x0 : Int32), f_X4_isLetter_B54 x0 = some R → V K 0 0 ([]) [(0, .int x0)] [] 54 := by
    intro x0 h
    rw [f_X4_isLetter_B54] at h
    refine V_iconst C (1 : Int32) 55 dX4_isLetter_54 rfl rfl ?_
    refine V_goto C 59 dX4_isLetter_55 rfl ?_
    refine V_lv [0] rfl ?_
    exact B59 _ _ h
  show V K 0 0 _ [(0, .int a1)] [] 0
  unfold f_X4_isLetter at h
  refine V_iload_n C 0 1 dX4_isLetter_0 rfl rfl ?_
  refine V_bipush C (82 : Int32) 3 dX4_isLetter_1 rfl rfl ?_
  refine V_icmp_eq C 54 6 dX4_isLetter_3 rfl rfl (fun e2 => ?_) (fun e2 => ?_)
  · have h := (if_pos e2).symm.trans h
    refine V_lv [0] rfl ?_
    exact B54 _ h
  · have h := (if_neg e2).symm.trans h
    refine V_iload_n C 0 7 dX4_isLetter_6 rfl rfl ?_
    refine V_bipush C (69 : Int32) 9 dX4_isLetter_7 rfl rfl ?_
    refine V_icmp_eq C 54 12 dX4_isLetter_9 rfl rfl (fun e3 => ?_) (fun e3 => ?_)
    · have h := (if_pos e3).symm.trans h
      refine V_lv [0] rfl ?_
      exact B54 _ h
    · have h := (if_neg e3).symm.trans h
      refine V_iload_n C 0 13 dX4_isLetter_12 rfl rfl ?_
      refine V_bipush C (88 : Int32) 15 dX4_isLetter_13 rfl rfl ?_
      refine V_icmp_eq C 54 18 dX4_isLetter_15 rfl rfl (fun e4 => ?_) (fun e4 => ?_)
      · have h := (if_pos e4).symm.trans h
        refine V_lv [0] rfl ?_
        exact B54 _ h
      · have h := (if_neg e4).symm.trans h
        refine V_iload_n C 0 19 dX4_isLetter_18 rfl rfl ?_
        refine V_bipush C (77 : Int32) 21 dX4_isLetter_19 rfl rfl ?_
        refine V_icmp_eq C 54 24 dX4_isLetter_21 rfl rfl (fun e5 => ?_) (fun e5 => ?_)
        · have h := (if_pos e5).symm.trans h
          refine V_lv [0] rfl ?_
          exact B54 _ h
        · have h := (if_neg e5).symm.trans h
          refine V_iload_n C 0 25 dX4_isLetter_24 rfl rfl ?_
          refine V_bipush C (83 : Int32) 27 dX4_isLetter_25 rfl rfl ?_
          refine V_icmp_eq C 54 30 dX4_isLetter_27 rfl rfl (fun e6 => ?_) (fun e6 => ?_)
          · have h := (if_pos e6).symm.trans h
            refine V_lv [0] rfl ?_
            exact B54 _ h
          · have h := (if_neg e6).symm.trans h
            refine V_iload_n C 0 31 dX4_isLetter_30 rfl rfl ?_
            refine V_bipush C (67 : Int32) 33 dX4_isLetter_31 rfl rfl ?_
            refine V_icmp_eq C 54 36 dX4_isLetter_33 rfl rfl (fun e7 => ?_) (fun e7 => ?_)
            · have h := (if_pos e7).symm.trans h
              refine V_lv [0] rfl ?_
              exact B54 _ h
            · have h := (if_neg e7).symm.trans h
              refine V_iload_n C 0 37 dX4_isLetter_36 rfl rfl ?_
              refine V_bipush C (86 : Int32) 39 dX4_isLetter_37 rfl rfl ?_
              refine V_icmp_eq C 54 42 dX4_isLetter_39 rfl rfl (fun e8 => ?_) (fun e8 => ?_)
              · have h := (if_pos e8).symm.trans h
                refine V_lv [0] rfl ?_
                exact B54 _ h
              · have h := (if_neg e8).symm.trans h
                refine V_iload_n C 0 43 dX4_isLetter_42 rfl rfl ?_
                refine V_bipush C (84 : Int32) 45 dX4_isLetter_43 rfl rfl ?_
                refine V_icmp_eq C 54 48 dX4_isLetter_45 rfl rfl (fun e9 => ?_) (fun e9 => ?_)
                · have h := (if_pos e9).symm.trans h
                  refine V_lv [0] rfl ?_
                  exact B54 _ h
                · have h := (if_neg e9).symm.trans h
                  refine V_iload_n C 0 49 dX4_isLetter_48 rfl rfl ?_
                  refine V_bipush C (66 : Int32) 51 dX4_isLetter_49 rfl rfl ?_
                  refine V_icmp_ne C 58 54 dX4_isLetter_51 rfl rfl (fun e10 => ?_) (fun e10 => ?_)
                  · have h := (if_neg e10).symm.trans h
                    refine V_iconst C (0 : Int32) 59 dX4_isLetter_58 rfl rfl ?_
                    refine V_lv [0] rfl ?_
                    exact B59 _ _ h
                  · have h := (if_pos e10).symm.trans h
                    refine V_lv [0] rfl ?_
                    exact B54 _ h
set_option maxHeartbeats 4000000 in
set_option maxRecDepth 100000 in
theorem c_X4_command {l : Launch} {D : va_G} {g : G0} {A : MdA} {v : MdV} {R : (Int32 × MdV)} (h : f_X4_command v  = some R) : CtS l D g yX4_command cX4_command 4 none (rmF 3 67) (mdW g A v) [.ref A.1] none (mdW g A R.2) := by
  refine CtS.of (by decide) (Nat.le_of_ble_eq_true rfl) ?_
  intro K C hBA el eD ekn retI retV
  subst el
  subst eD
  have hlt : ∀ i, i < 4 → i < kn K := fun i h => by rw [ekn]; exact h
  have B198 : ∀ (x1 : Int32) (x2 : Int32) (x3 : Int32) (v : MdV), f_X4_command_B198 x1 x2 x3 v = some R → V K 0 0 (mdW g A v) [(0, .ref A.1), (1, .int x1), (2, .int x2), (3, .int x3)] [] 198 := by
    intro x1 x2 x3 v h
    rw [f_X4_command_B198] at h
    obtain rfl := Option.some.inj h
    exact retV _ _ rfl rfl dX4_command_198
  have B96 : ∀ (x1 : Int32) (x2 : Int32) (x3 : Int32) (s0 : Int32) (s2 : Int32) (v : MdV), f_X4_command_B96 x1 x2 x3 s0 s2 v = some R → V K 0 0 (mdW g A v) [(0, .ref A.1), (1, .int x1), (2, .int x2), (3, .int x3)] [.int s0, .ref A.1, .int s2, .ref A.2.2.2.2] 96 := by
    intro x1 x2 x3 s0 s2 v h
    rw [f_X4_command_B96] at h
    obtain ⟨r1, k2, h⟩ := bd_some h
    refine V_callS C hBA ml_X4_201 (pre := []) (post := []) (w0 := mdW g A v) (w1 := mdW g A r1.2) (as := [.int s0]) (rest := [.int s2, .ref A.2.2.2.2]) (c_X4_number k2) 0 99 (mdW g A r1.2) dX4_command_96 rfl ⟨Nat.le_of_ble_eq_true rfl, Nat.le_of_ble_eq_true rfl⟩ rfl (rfl) (rfl) rfl rfl rfl rfl (Nat.le_of_ble_eq_true rfl) ⟨Nat.zero_le _, Nat.zero_le _⟩ ?_
    obtain ⟨g3, h⟩ := gd_some h
    refine V_iast C hBA (f := (Md_commands r1.2)) (n := 183) 4 100 (mdW g A ((Md_all r1.2), (Md_output r1.2), (Md_input r1.2), (upd (Md_commands r1.2) (cl s2) r1.1), (Md_thrown r1.2), (Md_changes r1.2), (Md_isSaved r1.2), (Md_result r1.2), (Md_why r1.2), (Md_detail r1.2), (Md_cause r1.2), (Md_outputSize r1.2), (Md_typed r1.2), (Md_here r1.2), (Md_error r1.2), (Md_errorAt r1.2), (Md_commandMany r1.2))) dX4_command_99 rfl rfl g3 rfl ?_
    refine V_iload_n C 2 101 dX4_command_100 rfl rfl ?_
    by_cases e16 : x2 = (69 : Int32)
    · have h := (if_pos e16).symm.trans h
      refine V_lsw C (x := x2) 144 dX4_command_101 (by first | (rw [e16]; done) | (rw [e16]; rfl)) rfl (by decide) ?_
      refine V_aload_n C 0 145 dX4_command_144 rfl rfl ?_
      refine V_get C (v := .ref A.2.2.2.2) 0 148 fl_X4_24 dX4_command_145 rfl rfl rfl ?_
      refine V_iload_n C 1 149 dX4_command_148 rfl rfl ?_
      refine V_iconst C (2 : Int32) 150 dX4_command_149 rfl rfl ?_
      refine V_iadd C 151 dX4_command_150 rfl ?_
      refine V_aload_n C 0 152 dX4_command_151 rfl rfl ?_
      refine V_bipush C (58 : Int32) 154 dX4_command_152 rfl rfl ?_
      refine V_iconst C (1 : Int32) 155 dX4_command_154 rfl rfl ?_
      obtain ⟨r4, k5, h⟩ := bd_some h
      refine V_callS C hBA ml_X4_210 (pre := []) (post := []) (w0 := mdW g A ((Md_all r1.2), (Md_output r1.2), (Md_input r1.2), (upd (Md_commands r1.2) (cl s2) r1.1), (Md_thrown r1.2), (Md_changes r1.2), (Md_isSaved r1.2), (Md_result r1.2), (Md_why r1.2), (Md_detail r1.2), (Md_cause r1.2), (Md_outputSize r1.2), (Md_typed r1.2), (Md_here r1.2), (Md_error r1.2), (Md_errorAt r1.2), (Md_commandMany r1.2))) (w1 := mdW g A r4.2) (as := [.int (58 : Int32), .int (1 : Int32)]) (rest := [.int (x1 + (2 : Int32)), .ref A.2.2.2.2]) (c_X4_behind k5) 0 158 (mdW g A r4.2) dX4_command_155 rfl ⟨Nat.le_of_ble_eq_true rfl, Nat.le_of_ble_eq_true rfl⟩ rfl (rfl) (rfl) rfl rfl rfl rfl (Nat.le_of_ble_eq_true rfl) ⟨Nat.zero_le _, Nat.zero_le _⟩ ?_
      obtain ⟨g6, h⟩ := gd_some h
      refine V_iast C hBA (f := (Md_commands r4.2)) (n := 183) 4 159 (mdW g A ((Md_all r4.2), (Md_output r4.2), (Md_input r4.2), (upd (Md_commands r4.2) (cl (x1 + (2 : Int32))) r4.1), (Md_thrown r4.2), (Md_changes r4.2), (Md_isSaved r4.2), (Md_result r4.2), (Md_why r4.2), (Md_detail r4.2), (Md_cause r4.2), (Md_outputSize r4.2), (Md_typed r4.2), (Md_here r4.2), (Md_error r4.2), (Md_errorAt r4.2), (Md_commandMany r4.2))) dX4_command_158 rfl rfl g6 rfl ?_
      refine V_goto C 198 dX4_command_159 rfl ?_
      refine V_lv [0, 1, 2, 3] rfl ?_
      exact B198 _ _ _ _ h
    have h := (if_neg e16).symm.trans h
    by_cases e17 : x2 = (77 : Int32)
    · have h := (if_pos e17).symm.trans h
      refine V_lsw C (x := x2) 162 dX4_command_101 (by first | (rw [e17]; done) | (rw [e17]; rfl)) rfl (by decide) ?_
      refine V_aload_n C 0 163 dX4_command_162 rfl rfl ?_
      refine V_get C (v := .ref A.2.2.2.2) 0 166 fl_X4_24 dX4_command_163 rfl rfl rfl ?_
      refine V_iload_n C 1 167 dX4_command_166 rfl rfl ?_
      refine V_iconst C (2 : Int32) 168 dX4_command_167 rfl rfl ?_
      refine V_iadd C 169 dX4_command_168 rfl ?_
      refine V_aload_n C 0 170 dX4_command_169 rfl rfl ?_
      refine V_bipush C (58 : Int32) 172 dX4_command_170 rfl rfl ?_
      refine V_iconst C (3 : Int32) 173 dX4_command_172 rfl rfl ?_
      obtain ⟨r7, k8, h⟩ := bd_some h
      refine V_callS C hBA ml_X4_210 (pre := []) (post := []) (w0 := mdW g A ((Md_all r1.2), (Md_output r1.2), (Md_input r1.2), (upd (Md_commands r1.2) (cl s2) r1.1), (Md_thrown r1.2), (Md_changes r1.2), (Md_isSaved r1.2), (Md_result r1.2), (Md_why r1.2), (Md_detail r1.2), (Md_cause r1.2), (Md_outputSize r1.2), (Md_typed r1.2), (Md_here r1.2), (Md_error r1.2), (Md_errorAt r1.2), (Md_commandMany r1.2))) (w1 := mdW g A r7.2) (as := [.int (58 : Int32), .int (3 : Int32)]) (rest := [.int (x1 + (2 : Int32)), .ref A.2.2.2.2]) (c_X4_behind k8) 0 176 (mdW g A r7.2) dX4_command_173 rfl ⟨Nat.le_of_ble_eq_true rfl, Nat.le_of_ble_eq_true rfl⟩ rfl (rfl) (rfl) rfl rfl rfl rfl (Nat.le_of_ble_eq_true rfl) ⟨Nat.zero_le _, Nat.zero_le _⟩ ?_
      obtain ⟨g9, h⟩ := gd_some h
      refine V_iast C hBA (f := (Md_commands r7.2)) (n := 183) 4 177 (mdW g A ((Md_all r7.2), (Md_output r7.2), (Md_input r7.2), (upd (Md_commands r7.2) (cl (x1 + (2 : Int32))) r7.1), (Md_thrown r7.2), (Md_changes r7.2), (Md_isSaved r7.2), (Md_result r7.2), (Md_why r7.2), (Md_detail r7.2), (Md_cause r7.2), (Md_outputSize r7.2), (Md_typed r7.2), (Md_here r7.2), (Md_error r7.2), (Md_errorAt r7.2), (Md_commandMany r7.2))) dX4_command_176 rfl rfl g9 rfl ?_
      refine V_goto C 198 dX4_command_177 rfl ?_
      refine V_lv [0, 1, 2, 3] rfl ?_
      exact B198 _ _ _ _ h
    have h := (if_neg e17).symm.trans h
    by_cases e18 : x2 = (82 : Int32)
    · have h := (if_pos e18).symm.trans h
      refine V_lsw C (x := x2) 144 dX4_command_101 (by first | (rw [e18]; done) | (rw [e18]; rfl)) rfl (by decide) ?_
      refine V_aload_n C 0 145 dX4_command_144 rfl rfl ?_
      refine V_get C (v := .ref A.2.2.2.2) 0 148 fl_X4_24 dX4_command_145 rfl rfl rfl ?_
      refine V_iload_n C 1 149 dX4_command_148 rfl rfl ?_
      refine V_iconst C (2 : Int32) 150 dX4_command_149 rfl rfl ?_
      refine V_iadd C 151 dX4_command_150 rfl ?_
      refine V_aload_n C 0 152 dX4_command_151 rfl rfl ?_
      refine V_bipush C (58 : Int32) 154 dX4_command_152 rfl rfl ?_
      refine V_iconst C (1 : Int32) 155 dX4_command_154 rfl rfl ?_
      obtain ⟨r10, k11, h⟩ := bd_some h
      refine V_callS C hBA ml_X4_210 (pre := []) (post := []) (w0 := mdW g A ((Md_all r1.2), (Md_output r1.2), (Md_input r1.2), (upd (Md_commands r1.2) (cl s2) r1.1), (Md_thrown r1.2), (Md_changes r1.2), (Md_isSaved r1.2), (Md_result r1.2), (Md_why r1.2), (Md_detail r1.2), (Md_cause r1.2), (Md_outputSize r1.2), (Md_typed r1.2), (Md_here r1.2), (Md_error r1.2), (Md_errorAt r1.2), (Md_commandMany r1.2))) (w1 := mdW g A r10.2) (as := [.int (58 : Int32), .int (1 : Int32)]) (rest := [.int (x1 + (2 : Int32)), .ref A.2.2.2.2]) (c_X4_behind k11) 0 158 (mdW g A r10.2) dX4_command_155 rfl ⟨Nat.le_of_ble_eq_true rfl, Nat.le_of_ble_eq_true rfl⟩ rfl (rfl) (rfl) rfl rfl rfl rfl (Nat.le_of_ble_eq_true rfl) ⟨Nat.zero_le _, Nat.zero_le _⟩ ?_
      obtain ⟨g12, h⟩ := gd_some h
      refine V_iast C hBA (f := (Md_commands r10.2)) (n := 183) 4 159 (mdW g A ((Md_all r10.2), (Md_output r10.2), (Md_input r10.2), (upd (Md_commands r10.2) (cl (x1 + (2 : Int32))) r10.1), (Md_thrown r10.2), (Md_changes r10.2), (Md_isSaved r10.2), (Md_result r10.2), (Md_why r10.2), (Md_detail r10.2), (Md_cause r10.2), (Md_outputSize r10.2), (Md_typed r10.2), (Md_here r10.2), (Md_error r10.2), (Md_errorAt r10.2), (Md_commandMany r10.2))) dX4_command_158 rfl rfl g12 rfl ?_
      refine V_goto C 198 dX4_command_159 rfl ?_
      refine V_lv [0, 1, 2, 3] rfl ?_
      exact B198 _ _ _ _ h
    have h := (if_neg e18).symm.trans h
    by_cases e19 : x2 = (83 : Int32)
    · have h := (if_pos e19).symm.trans h
      refine V_lsw C (x := x2) 180 dX4_command_101 (by first | (rw [e19]; done) | (rw [e19]; rfl)) rfl (by decide) ?_
      refine V_aload_n C 0 181 dX4_command_180 rfl rfl ?_
      refine V_get C (v := .ref A.2.2.2.2) 0 184 fl_X4_24 dX4_command_181 rfl rfl rfl ?_
      refine V_iload_n C 1 185 dX4_command_184 rfl rfl ?_
      refine V_iconst C (2 : Int32) 186 dX4_command_185 rfl rfl ?_
      refine V_iadd C 187 dX4_command_186 rfl ?_
      refine V_aload_n C 0 188 dX4_command_187 rfl rfl ?_
      refine V_bipush C (44 : Int32) 190 dX4_command_188 rfl rfl ?_
      refine V_iconst C (3 : Int32) 191 dX4_command_190 rfl rfl ?_
      obtain ⟨r13, k14, h⟩ := bd_some h
      refine V_callS C hBA ml_X4_210 (pre := []) (post := []) (w0 := mdW g A ((Md_all r1.2), (Md_output r1.2), (Md_input r1.2), (upd (Md_commands r1.2) (cl s2) r1.1), (Md_thrown r1.2), (Md_changes r1.2), (Md_isSaved r1.2), (Md_result r1.2), (Md_why r1.2), (Md_detail r1.2), (Md_cause r1.2), (Md_outputSize r1.2), (Md_typed r1.2), (Md_here r1.2), (Md_error r1.2), (Md_errorAt r1.2), (Md_commandMany r1.2))) (w1 := mdW g A r13.2) (as := [.int (44 : Int32), .int (3 : Int32)]) (rest := [.int (x1 + (2 : Int32)), .ref A.2.2.2.2]) (c_X4_behind k14) 0 194 (mdW g A r13.2) dX4_command_191 rfl ⟨Nat.le_of_ble_eq_true rfl, Nat.le_of_ble_eq_true rfl⟩ rfl (rfl) (rfl) rfl rfl rfl rfl (Nat.le_of_ble_eq_true rfl) ⟨Nat.zero_le _, Nat.zero_le _⟩ ?_
      obtain ⟨g15, h⟩ := gd_some h
      refine V_iast C hBA (f := (Md_commands r13.2)) (n := 183) 4 195 (mdW g A ((Md_all r13.2), (Md_output r13.2), (Md_input r13.2), (upd (Md_commands r13.2) (cl (x1 + (2 : Int32))) r13.1), (Md_thrown r13.2), (Md_changes r13.2), (Md_isSaved r13.2), (Md_result r13.2), (Md_why r13.2), (Md_detail r13.2), (Md_cause r13.2), (Md_outputSize r13.2), (Md_typed r13.2), (Md_here r13.2), (Md_error r13.2), (Md_errorAt r13.2), (Md_commandMany r13.2))) dX4_command_194 rfl rfl g15 rfl ?_
      refine V_goto C 198 dX4_command_195 rfl ?_
      refine V_lv [0, 1, 2, 3] rfl ?_
      exact B198 _ _ _ _ h
    have h := (if_neg e19).symm.trans h
    refine V_lsw C (x := x2) (off := 97) 198 dX4_command_101 (by show Op.lookupswitch.offset [(69, 43), (77, 61), (82, 43), (83, 79)] 97 _ = _; rw [lv_osw (a := 69) e16 rfl, lv_osw (a := 77) e17 rfl, lv_osw (a := 82) e18 rfl, lv_osw (a := 83) e19 rfl]; try rfl) rfl (by decide) ?_
    refine V_lv [0, 1, 2, 3] rfl ?_
    exact B198 _ _ _ _ h
  have L24 : ∀ (n : Nat) (x1 : Int32) (x2 : Int32) (x3 : Int32) (v : MdV), f_X4_command_L24 n x1 x2 x3 v = some R → V K 0 0 (mdW g A v) [(0, .ref A.1), (1, .int x1), (2, .int x2), (3, .int x3)] [] 24 := by
    intro n
    induction n with
    | zero =>
      intro x1 x2 x3 v h
      rw [f_X4_command_L24] at h
      cases h
    | succ n ih =>
      intro x1 x2 x3 v h
      rw [f_X4_command_L24] at h
      refine V_iload_n C 3 25 dX4_command_24 rfl rfl ?_
      refine V_iconst C (3 : Int32) 26 dX4_command_25 rfl rfl ?_
      refine V_icmp_ge C 44 29 dX4_command_26 rfl rfl (fun e20 => ?_) (fun e20 => ?_)
      · have h := (if_pos e20).symm.trans h
        refine V_iload_n C 2 45 dX4_command_44 rfl rfl ?_
        obtain ⟨r21, k22, h⟩ := bd_some h
        refine V_callPs C mls_X4_207 (pre := []) (post := mdW g A v) (w := []) (as := [.int x2]) (rest := []) (c_X4_isLetter k22) 48 dX4_command_45 rfl ⟨Nat.le_of_ble_eq_true rfl, Nat.le_of_ble_eq_true rfl⟩ rfl rfl rfl rfl (Nat.le_of_ble_eq_true rfl) ⟨Nat.zero_le _, Nat.zero_le _⟩ ?_
        refine V_if_ne C 60 51 dX4_command_48 rfl rfl (fun e23 => ?_) (fun e23 => ?_)
        · have h := (if_neg e23).symm.trans h
          refine V_aload_n C 0 61 dX4_command_60 rfl rfl ?_
          refine V_dup C 62 dX4_command_61 rfl rfl ?_
          refine V_get C (v := .int (Md_here v)) 0 65 fl_X4_189 dX4_command_62 rfl rfl rfl ?_
          refine V_iconst C (1 : Int32) 66 dX4_command_65 rfl rfl ?_
          refine V_iadd C 67 dX4_command_66 rfl ?_
          refine V_put C hBA 0 70 (mdW g A ((Md_all v), (Md_output v), (Md_input v), (Md_commands v), (Md_thrown v), (Md_changes v), (Md_isSaved v), (Md_result v), (Md_why v), (Md_detail v), (Md_cause v), (Md_outputSize v), (Md_typed v), ((Md_here v) + (1 : Int32)), (Md_error v), (Md_errorAt v), (Md_commandMany v))) fl_X4_189 fp_X4_12 dX4_command_67 rfl rfl (Nat.le_of_ble_eq_true rfl) rfl rfl rfl ?_
          refine V_aload_n C 0 71 dX4_command_70 rfl rfl ?_
          refine V_get C (v := .ref A.2.2.2.2) 0 74 fl_X4_24 dX4_command_71 rfl rfl rfl ?_
          refine V_iload_n C 1 75 dX4_command_74 rfl rfl ?_
          refine V_iload_n C 2 76 dX4_command_75 rfl rfl ?_
          obtain ⟨g24, h⟩ := gd_some h
          refine V_iast C hBA (f := (Md_commands v)) (n := 183) 4 77 (mdW g A ((Md_all v), (Md_output v), (Md_input v), (upd (Md_commands v) (cl x1) x2), (Md_thrown v), (Md_changes v), (Md_isSaved v), (Md_result v), (Md_why v), (Md_detail v), (Md_cause v), (Md_outputSize v), (Md_typed v), ((Md_here v) + (1 : Int32)), (Md_error v), (Md_errorAt v), (Md_commandMany v))) dX4_command_76 rfl rfl g24 rfl ?_
          refine V_aload_n C 0 78 dX4_command_77 rfl rfl ?_
          refine V_get C (v := .ref A.2.2.2.2) 0 81 fl_X4_24 dX4_command_78 rfl rfl rfl ?_
          refine V_iload_n C 1 82 dX4_command_81 rfl rfl ?_
          refine V_iconst C (1 : Int32) 83 dX4_command_82 rfl rfl ?_
          refine V_iadd C 84 dX4_command_83 rfl ?_
          refine V_aload_n C 0 85 dX4_command_84 rfl rfl ?_
          refine V_iload_n C 2 86 dX4_command_85 rfl rfl ?_
          refine V_bipush C (86 : Int32) 88 dX4_command_86 rfl rfl ?_
          refine V_icmp_ne C 95 91 dX4_command_88 rfl rfl (fun e25 => ?_) (fun e25 => ?_)
          · have h := (if_neg e25).symm.trans h
            refine V_iconst C (3 : Int32) 96 dX4_command_95 rfl rfl ?_
            refine V_lv [0, 1, 2, 3] rfl ?_
            exact B96 _ _ _ _ _ _ h
          · have h := (if_pos e25).symm.trans h
            refine V_iconst C (1 : Int32) 92 dX4_command_91 rfl rfl ?_
            refine V_goto C 96 dX4_command_92 rfl ?_
            refine V_lv [0, 1, 2, 3] rfl ?_
            exact B96 _ _ _ _ _ _ h
        · have h := (if_pos e23).symm.trans h
          refine V_aload_n C 0 52 dX4_command_51 rfl rfl ?_
          refine V_aload_n C 0 53 dX4_command_52 rfl rfl ?_
          refine V_get C (v := .int (Md_here v)) 0 56 fl_X4_189 dX4_command_53 rfl rfl rfl ?_
          refine V_put C hBA 0 59 (mdW g A ((Md_all v), (Md_output v), (Md_input v), (Md_commands v), (Md_thrown v), (Md_changes v), (Md_isSaved v), (Md_result v), (Md_why v), (Md_detail v), (Md_cause v), (Md_outputSize v), (Md_typed v), (Md_here v), (Md_here v), (Md_errorAt v), (Md_commandMany v))) fl_X4_192 fp_X4_13 dX4_command_56 rfl rfl (Nat.le_of_ble_eq_true rfl) rfl rfl rfl ?_
          obtain rfl := Option.some.inj h
          exact retV _ _ rfl rfl dX4_command_59
      · have h := (if_neg e20).symm.trans h
        refine V_aload_n C 0 30 dX4_command_29 rfl rfl ?_
        refine V_get C (v := .ref A.2.2.2.2) 0 33 fl_X4_24 dX4_command_30 rfl rfl rfl ?_
        refine V_iload_n C 1 34 dX4_command_33 rfl rfl ?_
        refine V_iload_n C 3 35 dX4_command_34 rfl rfl ?_
        refine V_iadd C 36 dX4_command_35 rfl ?_
        refine V_iconst C (0 : Int32) 37 dX4_command_36 rfl rfl ?_
        obtain ⟨g26, h⟩ := gd_some h
        refine V_iast C hBA (f := (Md_commands v)) (n := 183) 4 38 (mdW g A ((Md_all v), (Md_output v), (Md_input v), (upd (Md_commands v) (cl (x1 + x3)) (0 : Int32)), (Md_thrown v), (Md_changes v), (Md_isSaved v), (Md_result v), (Md_why v), (Md_detail v), (Md_cause v), (Md_outputSize v), (Md_typed v), (Md_here v), (Md_error v), (Md_errorAt v), (Md_commandMany v))) dX4_command_37 rfl rfl g26 rfl ?_
        refine V_iinc C 3 (x3 + (1 : Int32)) 41 [(3, .int (x3 + (1 : Int32))), (0, .ref A.1), (1, .int x1), (2, .int x2)] dX4_command_38 rfl rfl rfl (hlt 3 (by decide)) rfl ?_
        refine V_goto C 24 dX4_command_41 rfl ?_
        refine V_lv [1, 2, 3, 0] rfl ?_
        exact ih _ _ _ _ h
  show V K 0 0 _ [(0, .ref A.1)] [] 0
  unfold f_X4_command at h
  refine V_iconst C (3 : Int32) 1 dX4_command_0 rfl rfl ?_
  refine V_aload_n C 0 2 dX4_command_1 rfl rfl ?_
  refine V_get C (v := .int (Md_commandMany v)) 0 5 fl_X4_204 dX4_command_2 rfl rfl rfl ?_
  refine V_imul C 6 dX4_command_5 rfl ?_
  refine V_istore_n C 7 [(1, .int ((3 : Int32) * (Md_commandMany v))), (0, .ref A.1)] dX4_command_6 rfl (hlt 1 (by decide)) rfl ?_
  refine V_aload_n C 1 8 dX4_command_7 rfl rfl ?_
  refine V_dup C 9 dX4_command_8 rfl rfl ?_
  refine V_get C (v := .int (Md_commandMany v)) 0 12 fl_X4_204 dX4_command_9 rfl rfl rfl ?_
  refine V_iconst C (1 : Int32) 13 dX4_command_12 rfl rfl ?_
  refine V_iadd C 14 dX4_command_13 rfl ?_
  refine V_put C hBA 0 17 (mdW g A ((Md_all v), (Md_output v), (Md_input v), (Md_commands v), (Md_thrown v), (Md_changes v), (Md_isSaved v), (Md_result v), (Md_why v), (Md_detail v), (Md_cause v), (Md_outputSize v), (Md_typed v), (Md_here v), (Md_error v), (Md_errorAt v), ((Md_commandMany v) + (1 : Int32)))) fl_X4_204 fp_X4_16 dX4_command_14 rfl rfl (Nat.le_of_ble_eq_true rfl) rfl rfl rfl ?_
  refine V_aload_n C 1 18 dX4_command_17 rfl rfl ?_
  obtain ⟨r27, k28, h⟩ := bd_some h
  refine V_callP C ml_X4_195 (pre := []) (post := []) (w := mdW g A ((Md_all v), (Md_output v), (Md_input v), (Md_commands v), (Md_thrown v), (Md_changes v), (Md_isSaved v), (Md_result v), (Md_why v), (Md_detail v), (Md_cause v), (Md_outputSize v), (Md_typed v), (Md_here v), (Md_error v), (Md_errorAt v), ((Md_commandMany v) + (1 : Int32)))) (as := []) (rest := []) (c_X4_sign k28) 0 21 dX4_command_18 rfl ⟨Nat.le_of_ble_eq_true rfl, Nat.le_of_ble_eq_true rfl⟩ rfl (rfl) rfl rfl rfl (Nat.le_of_ble_eq_true rfl) ⟨Nat.zero_le _, Nat.zero_le _⟩ ?_
  refine V_istore_n C 22 [(2, .int r27), (1, .int ((3 : Int32) * (Md_commandMany v))), (0, .ref A.1)] dX4_command_21 rfl (hlt 2 (by decide)) rfl ?_
  refine V_iconst C (0 : Int32) 23 dX4_command_22 rfl rfl ?_
  refine V_istore_n C 24 [(3, .int (0 : Int32)), (2, .int r27), (1, .int ((3 : Int32) * (Md_commandMany v))), (0, .ref A.1)] dX4_command_23 rfl (hlt 3 (by decide)) rfl ?_
  refine V_lv [3, 2, 1, 0] rfl ?_
  exact L24 100 _ _ _ _ h
set_option maxHeartbeats 4000000 in
set_option maxRecDepth 100000 in
theorem c_X4_parse {l : Launch} {D : va_G} {g : G0} {A : MdA} {v : MdV} {R : (Int32 × MdV)} (h : f_X4_parse v  = some R) : CtS l D g yX4_parse cX4_parse 1 none (rmF 4 90) (mdW g A v) [.ref A.1] none (mdW g A R.2) := by
  refine CtS.of (by decide) (Nat.le_of_ble_eq_true rfl) ?_
  intro K C hBA el eD ekn retI retV
  subst el
  subst eD
  have hlt : ∀ i, i < 1 → i < kn K := fun i h => by rw [ekn]; exact h
  have B78 : ∀ (v : MdV), f_X4_parse_B78 v = some R → V K 0 0 (mdW g A v) [(0, .ref A.1)] [] 78 := by
    intro v h
    rw [f_X4_parse_B78] at h
    obtain rfl := Option.some.inj h
    exact retV _ _ rfl rfl dX4_parse_78
  have B52 : ∀ (v : MdV), f_X4_parse_B52 v = some R → V K 0 0 (mdW g A v) [(0, .ref A.1)] [] 52 := by
    intro v h
    rw [f_X4_parse_B52] at h
    refine V_aload_n C 0 53 dX4_parse_52 rfl rfl ?_
    refine V_get C (v := .int (Md_error v)) 0 56 fl_X4_192 dX4_parse_53 rfl rfl rfl ?_
    refine V_if_ge C 78 59 dX4_parse_56 rfl rfl (fun e1 => ?_) (fun e1 => ?_)
    · have h := (if_pos e1).symm.trans h
      refine V_lv [0] rfl ?_
      exact B78 _ h
    · have h := (if_neg e1).symm.trans h
      refine V_aload_n C 0 60 dX4_parse_59 rfl rfl ?_
      refine V_get C (v := .int (Md_here v)) 0 63 fl_X4_189 dX4_parse_60 rfl rfl rfl ?_
      refine V_aload_n C 0 64 dX4_parse_63 rfl rfl ?_
      refine V_get C (v := .int (Md_typed v)) 0 67 fl_X4_186 dX4_parse_64 rfl rfl rfl ?_
      refine V_icmp_ge C 78 70 dX4_parse_67 rfl rfl (fun e2 => ?_) (fun e2 => ?_)
      · have h := (if_pos e2).symm.trans h
        refine V_lv [0] rfl ?_
        exact B78 _ h
      · have h := (if_neg e2).symm.trans h
        refine V_aload_n C 0 71 dX4_parse_70 rfl rfl ?_
        refine V_aload_n C 0 72 dX4_parse_71 rfl rfl ?_
        refine V_get C (v := .int (Md_here v)) 0 75 fl_X4_189 dX4_parse_72 rfl rfl rfl ?_
        refine V_put C hBA 0 78 (mdW g A ((Md_all v), (Md_output v), (Md_input v), (Md_commands v), (Md_thrown v), (Md_changes v), (Md_isSaved v), (Md_result v), (Md_why v), (Md_detail v), (Md_cause v), (Md_outputSize v), (Md_typed v), (Md_here v), (Md_here v), (Md_errorAt v), (Md_commandMany v))) fl_X4_192 fp_X4_13 dX4_parse_75 rfl rfl (Nat.le_of_ble_eq_true rfl) rfl rfl rfl ?_
        refine V_lv [0] rfl ?_
        exact B78 _ h
  have L19 : ∀ (n : Nat)  (v : MdV), f_X4_parse_L19 n v = some R → V K 0 0 (mdW g A v) [(0, .ref A.1)] [] 19 := by
    intro n
    induction n with
    | zero =>
      intro v h
      rw [f_X4_parse_L19] at h
      cases h
    | succ n ih =>
      intro v h
      rw [f_X4_parse_L19] at h
      refine V_aload_n C 0 20 dX4_parse_19 rfl rfl ?_
      refine V_get C (v := .int (Md_error v)) 0 23 fl_X4_192 dX4_parse_20 rfl rfl rfl ?_
      refine V_if_ge C 52 26 dX4_parse_23 rfl rfl (fun e3 => ?_) (fun e3 => ?_)
      · have h := (if_pos e3).symm.trans h
        refine V_lv [0] rfl ?_
        exact B52 _ h
      · have h := (if_neg e3).symm.trans h
        refine V_aload_n C 0 27 dX4_parse_26 rfl rfl ?_
        obtain ⟨r4, k5, h⟩ := bd_some h
        refine V_callP C ml_X4_195 (pre := []) (post := []) (w := mdW g A v) (as := []) (rest := []) (c_X4_sign k5) 0 30 dX4_parse_27 rfl ⟨Nat.le_of_ble_eq_true rfl, Nat.le_of_ble_eq_true rfl⟩ rfl (rfl) rfl rfl rfl (Nat.le_of_ble_eq_true rfl) ⟨Nat.zero_le _, Nat.zero_le _⟩ ?_
        refine V_bipush C (59 : Int32) 32 dX4_parse_30 rfl rfl ?_
        refine V_icmp_ne C 52 35 dX4_parse_32 rfl rfl (fun e6 => ?_) (fun e6 => ?_)
        · have h := (if_neg e6).symm.trans h
          refine V_lv [0] rfl ?_
          exact B52 _ h
        · have h := (if_pos e6).symm.trans h
          refine V_aload_n C 0 36 dX4_parse_35 rfl rfl ?_
          refine V_dup C 37 dX4_parse_36 rfl rfl ?_
          refine V_get C (v := .int (Md_here v)) 0 40 fl_X4_189 dX4_parse_37 rfl rfl rfl ?_
          refine V_iconst C (1 : Int32) 41 dX4_parse_40 rfl rfl ?_
          refine V_iadd C 42 dX4_parse_41 rfl ?_
          refine V_put C hBA 0 45 (mdW g A ((Md_all v), (Md_output v), (Md_input v), (Md_commands v), (Md_thrown v), (Md_changes v), (Md_isSaved v), (Md_result v), (Md_why v), (Md_detail v), (Md_cause v), (Md_outputSize v), (Md_typed v), ((Md_here v) + (1 : Int32)), (Md_error v), (Md_errorAt v), (Md_commandMany v))) fl_X4_189 fp_X4_12 dX4_parse_42 rfl rfl (Nat.le_of_ble_eq_true rfl) rfl rfl rfl ?_
          refine V_aload_n C 0 46 dX4_parse_45 rfl rfl ?_
          obtain ⟨r7, k8, h⟩ := bd_some h
          refine V_callS C hBA ml_X4_213 (pre := []) (post := []) (w0 := mdW g A ((Md_all v), (Md_output v), (Md_input v), (Md_commands v), (Md_thrown v), (Md_changes v), (Md_isSaved v), (Md_result v), (Md_why v), (Md_detail v), (Md_cause v), (Md_outputSize v), (Md_typed v), ((Md_here v) + (1 : Int32)), (Md_error v), (Md_errorAt v), (Md_commandMany v))) (w1 := mdW g A r7.2) (as := []) (rest := []) (c_X4_command k8) 0 49 (mdW g A r7.2) dX4_parse_46 rfl ⟨Nat.le_of_ble_eq_true rfl, Nat.le_of_ble_eq_true rfl⟩ rfl (rfl) (rfl) rfl rfl rfl rfl (Nat.le_of_ble_eq_true rfl) ⟨Nat.zero_le _, Nat.zero_le _⟩ ?_
          refine V_goto C 19 dX4_parse_49 rfl ?_
          refine V_lv [0] rfl ?_
          exact ih _ h
  show V K 0 0 _ [(0, .ref A.1)] [] 0
  unfold f_X4_parse at h
  refine V_aload_n C 0 1 dX4_parse_0 rfl rfl ?_
  refine V_iconst C (0 : Int32) 2 dX4_parse_1 rfl rfl ?_
  refine V_put C hBA 0 5 (mdW g A ((Md_all v), (Md_output v), (Md_input v), (Md_commands v), (Md_thrown v), (Md_changes v), (Md_isSaved v), (Md_result v), (Md_why v), (Md_detail v), (Md_cause v), (Md_outputSize v), (Md_typed v), (0 : Int32), (Md_error v), (Md_errorAt v), (Md_commandMany v))) fl_X4_189 fp_X4_12 dX4_parse_2 rfl rfl (Nat.le_of_ble_eq_true rfl) rfl rfl rfl ?_
  refine V_aload_n C 0 6 dX4_parse_5 rfl rfl ?_
  refine V_iconst C (-1 : Int32) 7 dX4_parse_6 rfl rfl ?_
  refine V_put C hBA 0 10 (mdW g A ((Md_all v), (Md_output v), (Md_input v), (Md_commands v), (Md_thrown v), (Md_changes v), (Md_isSaved v), (Md_result v), (Md_why v), (Md_detail v), (Md_cause v), (Md_outputSize v), (Md_typed v), (0 : Int32), (-1 : Int32), (Md_errorAt v), (Md_commandMany v))) fl_X4_192 fp_X4_13 dX4_parse_7 rfl rfl (Nat.le_of_ble_eq_true rfl) rfl rfl rfl ?_
  refine V_aload_n C 0 11 dX4_parse_10 rfl rfl ?_
  refine V_iconst C (0 : Int32) 12 dX4_parse_11 rfl rfl ?_
  refine V_put C hBA 0 15 (mdW g A ((Md_all v), (Md_output v), (Md_input v), (Md_commands v), (Md_thrown v), (Md_changes v), (Md_isSaved v), (Md_result v), (Md_why v), (Md_detail v), (Md_cause v), (Md_outputSize v), (Md_typed v), (0 : Int32), (-1 : Int32), (Md_errorAt v), (0 : Int32))) fl_X4_204 fp_X4_16 dX4_parse_12 rfl rfl (Nat.le_of_ble_eq_true rfl) rfl rfl rfl ?_
  refine V_aload_n C 0 16 dX4_parse_15 rfl rfl ?_
  obtain ⟨r9, k10, h⟩ := bd_some h
  refine V_callS C hBA ml_X4_213 (pre := []) (post := []) (w0 := mdW g A ((Md_all v), (Md_output v), (Md_input v), (Md_commands v), (Md_thrown v), (Md_changes v), (Md_isSaved v), (Md_result v), (Md_why v), (Md_detail v), (Md_cause v), (Md_outputSize v), (Md_typed v), (0 : Int32), (-1 : Int32), (Md_errorAt v), (0 : Int32))) (w1 := mdW g A r9.2) (as := []) (rest := []) (c_X4_command k10) 0 19 (mdW g A r9.2) dX4_parse_16 rfl ⟨Nat.le_of_ble_eq_true rfl, Nat.le_of_ble_eq_true rfl⟩ rfl (rfl) (rfl) rfl rfl rfl rfl (Nat.le_of_ble_eq_true rfl) ⟨Nat.zero_le _, Nat.zero_le _⟩ ?_
  refine V_lv [0] rfl ?_
  exact L19 100 _ h
set_option maxHeartbeats 4000000 in
set_option maxRecDepth 100000 in
theorem c_X4_does {l : Launch} {D : va_G} {g : G0} {A : MdA} {v : MdV} {a1 : Int32} {R : (Int32 × MdV)} (h : f_X4_does v a1 = some R) : CtS l D g yX4_does cX4_does 4 (some .int) (rmF 4 91) (mdW g A v) [.ref A.1, .int a1] (some (.int R.1)) (mdW g A R.2) := by
  refine CtS.of (by decide) (Nat.le_of_ble_eq_true rfl) ?_
  intro K C hBA el eD ekn retI retV
  subst el
  subst eD
  have hlt : ∀ i, i < 4 → i < kn K := fun i h => by rw [ekn]; exact h
  show V K 0 0 _ [(0, .ref A.1), (1, .int a1)] [] 0
  unfold f_X4_does at h
  refine V_aload_n C 0 1 dX4_does_0 rfl rfl ?_
  refine V_get C (v := .ref A.2.2.2.2) 0 4 fl_X4_24 dX4_does_1 rfl rfl rfl ?_
  refine V_iload_n C 1 5 dX4_does_4 rfl rfl ?_
  refine V_iconst C (1 : Int32) 6 dX4_does_5 rfl rfl ?_
  refine V_iadd C 7 dX4_does_6 rfl ?_
  obtain ⟨g1, h⟩ := gd_some h
  refine V_iald C (f := (Md_commands v)) (n := 183) 4 8 dX4_does_7 rfl rfl g1 ?_
  refine V_istore_n C 9 [(2, .int ((Md_commands v) (cl (a1 + (1 : Int32))))), (0, .ref A.1), (1, .int a1)] dX4_does_8 rfl (hlt 2 (by decide)) rfl ?_
  refine V_aload_n C 1 10 dX4_does_9 rfl rfl ?_
  refine V_get C (v := .ref A.2.2.2.2) 0 13 fl_X4_24 dX4_does_10 rfl rfl rfl ?_
  refine V_iload_n C 2 14 dX4_does_13 rfl rfl ?_
  refine V_iconst C (2 : Int32) 15 dX4_does_14 rfl rfl ?_
  refine V_iadd C 16 dX4_does_15 rfl ?_
  obtain ⟨g2, h⟩ := gd_some h
  refine V_iald C (f := (Md_commands v)) (n := 183) 4 17 dX4_does_16 rfl rfl g2 ?_
  refine V_istore_n C 18 [(3, .int ((Md_commands v) (cl (a1 + (2 : Int32))))), (2, .int ((Md_commands v) (cl (a1 + (1 : Int32))))), (0, .ref A.1), (1, .int a1)] dX4_does_17 rfl (hlt 3 (by decide)) rfl ?_
  refine V_aload_n C 2 19 dX4_does_18 rfl rfl ?_
  refine V_get C (v := .ref A.2.2.2.2) 0 22 fl_X4_24 dX4_does_19 rfl rfl rfl ?_
  refine V_iload_n C 3 23 dX4_does_22 rfl rfl ?_
  obtain ⟨g3, h⟩ := gd_some h
  refine V_iald C (f := (Md_commands v)) (n := 183) 4 24 dX4_does_23 rfl rfl g3 ?_
  by_cases e22 : ((Md_commands v) (cl a1)) = (67 : Int32)
  · have h := (if_pos e22).symm.trans h
    refine V_tsw C (x := ((Md_commands v) (cl a1))) 164 dX4_does_24 (by first | (rw [e22]; done) | (rw [e22]; rfl)) rfl (by decide) ?_
    refine V_aload_n C 2 165 dX4_does_164 rfl rfl ?_
    refine V_iload_n C 1 166 dX4_does_165 rfl rfl ?_
    obtain ⟨r4, k5, h⟩ := bd_some h
    refine V_callS C hBA ml_X4_126 (pre := []) (post := []) (w0 := mdW g A v) (w1 := mdW g A r4.2) (as := [.int ((Md_commands v) (cl (a1 + (1 : Int32))))]) (rest := []) (c_X4_starts k5) 0 169 (mdW g A r4.2) dX4_does_166 rfl ⟨Nat.le_of_ble_eq_true rfl, Nat.le_of_ble_eq_true rfl⟩ rfl (rfl) (rfl) rfl rfl rfl rfl (Nat.le_of_ble_eq_true rfl) ⟨Nat.zero_le _, Nat.zero_le _⟩ ?_
    obtain rfl := Option.some.inj h
    exact retI _ _ _ .int rfl (rfl) rfl dX4_does_169
  have h := (if_neg e22).symm.trans h
  by_cases e23 : ((Md_commands v) (cl a1)) = (69 : Int32)
  · have h := (if_pos e23).symm.trans h
    refine V_tsw C (x := ((Md_commands v) (cl a1))) 136 dX4_does_24 (by first | (rw [e23]; done) | (rw [e23]; rfl)) rfl (by decide) ?_
    refine V_aload_n C 2 137 dX4_does_136 rfl rfl ?_
    refine V_iload_n C 1 138 dX4_does_137 rfl rfl ?_
    refine V_iload_n C 0 139 dX4_does_138 rfl rfl ?_
    refine V_iconst C (0 : Int32) 140 dX4_does_139 rfl rfl ?_
    obtain ⟨r6, k7, h⟩ := bd_some h
    refine V_callS C hBA ml_X4_99 (pre := []) (post := []) (w0 := mdW g A v) (w1 := mdW g A r6.2) (as := [.int ((Md_commands v) (cl (a1 + (1 : Int32)))), .int ((Md_commands v) (cl (a1 + (2 : Int32)))), .int (0 : Int32)]) (rest := []) (c_X4_adds k7) 0 143 (mdW g A r6.2) dX4_does_140 rfl ⟨Nat.le_of_ble_eq_true rfl, Nat.le_of_ble_eq_true rfl⟩ rfl (rfl) (rfl) rfl rfl rfl rfl (Nat.le_of_ble_eq_true rfl) ⟨Nat.zero_le _, Nat.zero_le _⟩ ?_
    obtain rfl := Option.some.inj h
    exact retI _ _ _ .int rfl (rfl) rfl dX4_does_143
  have h := (if_neg e23).symm.trans h
  by_cases e24 : ((Md_commands v) (cl a1)) = (77 : Int32)
  · have h := (if_pos e24).symm.trans h
    refine V_tsw C (x := ((Md_commands v) (cl a1))) 150 dX4_does_24 (by first | (rw [e24]; done) | (rw [e24]; rfl)) rfl (by decide) ?_
    refine V_aload_n C 2 151 dX4_does_150 rfl rfl ?_
    refine V_iload_n C 1 152 dX4_does_151 rfl rfl ?_
    refine V_iload_n C 0 153 dX4_does_152 rfl rfl ?_
    obtain ⟨r8, k9, h⟩ := bd_some h
    refine V_callS C hBA ml_X4_117 (pre := []) (post := []) (w0 := mdW g A v) (w1 := mdW g A r8.2) (as := [.int ((Md_commands v) (cl (a1 + (1 : Int32)))), .int ((Md_commands v) (cl (a1 + (2 : Int32))))]) (rest := []) (c_X4_moves k9) 0 156 (mdW g A r8.2) dX4_does_153 rfl ⟨Nat.le_of_ble_eq_true rfl, Nat.le_of_ble_eq_true rfl⟩ rfl (rfl) (rfl) rfl rfl rfl rfl (Nat.le_of_ble_eq_true rfl) ⟨Nat.zero_le _, Nat.zero_le _⟩ ?_
    obtain rfl := Option.some.inj h
    exact retI _ _ _ .int rfl (rfl) rfl dX4_does_156
  have h := (if_neg e24).symm.trans h
  by_cases e25 : ((Md_commands v) (cl a1)) = (82 : Int32)
  · have h := (if_pos e25).symm.trans h
    refine V_tsw C (x := ((Md_commands v) (cl a1))) 128 dX4_does_24 (by first | (rw [e25]; done) | (rw [e25]; rfl)) rfl (by decide) ?_
    refine V_aload_n C 2 129 dX4_does_128 rfl rfl ?_
    refine V_iload_n C 1 130 dX4_does_129 rfl rfl ?_
    refine V_iload_n C 0 131 dX4_does_130 rfl rfl ?_
    refine V_iconst C (1 : Int32) 132 dX4_does_131 rfl rfl ?_
    obtain ⟨r10, k11, h⟩ := bd_some h
    refine V_callS C hBA ml_X4_99 (pre := []) (post := []) (w0 := mdW g A v) (w1 := mdW g A r10.2) (as := [.int ((Md_commands v) (cl (a1 + (1 : Int32)))), .int ((Md_commands v) (cl (a1 + (2 : Int32)))), .int (1 : Int32)]) (rest := []) (c_X4_adds k11) 0 135 (mdW g A r10.2) dX4_does_132 rfl ⟨Nat.le_of_ble_eq_true rfl, Nat.le_of_ble_eq_true rfl⟩ rfl (rfl) (rfl) rfl rfl rfl rfl (Nat.le_of_ble_eq_true rfl) ⟨Nat.zero_le _, Nat.zero_le _⟩ ?_
    obtain rfl := Option.some.inj h
    exact retI _ _ _ .int rfl (rfl) rfl dX4_does_135
  have h := (if_neg e25).symm.trans h
  by_cases e26 : ((Md_commands v) (cl a1)) = (83 : Int32)
  · have h := (if_pos e26).symm.trans h
    refine V_tsw C (x := ((Md_commands v) (cl a1))) 157 dX4_does_24 (by first | (rw [e26]; done) | (rw [e26]; rfl)) rfl (by decide) ?_
    refine V_aload_n C 2 158 dX4_does_157 rfl rfl ?_
    refine V_iload_n C 1 159 dX4_does_158 rfl rfl ?_
    refine V_iload_n C 0 160 dX4_does_159 rfl rfl ?_
    obtain ⟨r12, k13, h⟩ := bd_some h
    refine V_callS C hBA ml_X4_120 (pre := []) (post := []) (w0 := mdW g A v) (w1 := mdW g A r12.2) (as := [.int ((Md_commands v) (cl (a1 + (1 : Int32)))), .int ((Md_commands v) (cl (a1 + (2 : Int32))))]) (rest := []) (c_X4_swaps k13) 0 163 (mdW g A r12.2) dX4_does_160 rfl ⟨Nat.le_of_ble_eq_true rfl, Nat.le_of_ble_eq_true rfl⟩ rfl (rfl) (rfl) rfl rfl rfl rfl (Nat.le_of_ble_eq_true rfl) ⟨Nat.zero_le _, Nat.zero_le _⟩ ?_
    obtain rfl := Option.some.inj h
    exact retI _ _ _ .int rfl (rfl) rfl dX4_does_163
  have h := (if_neg e26).symm.trans h
  by_cases e27 : ((Md_commands v) (cl a1)) = (84 : Int32)
  · have h := (if_pos e27).symm.trans h
    refine V_tsw C (x := ((Md_commands v) (cl a1))) 176 dX4_does_24 (by first | (rw [e27]; done) | (rw [e27]; rfl)) rfl (by decide) ?_
    refine V_aload_n C 2 177 dX4_does_176 rfl rfl ?_
    refine V_iload_n C 1 178 dX4_does_177 rfl rfl ?_
    refine V_iconst C (1 : Int32) 179 dX4_does_178 rfl rfl ?_
    obtain ⟨r14, k15, h⟩ := bd_some h
    refine V_callS C hBA ml_X4_142 (pre := []) (post := []) (w0 := mdW g A v) (w1 := mdW g A r14.2) (as := [.int ((Md_commands v) (cl (a1 + (1 : Int32)))), .int (1 : Int32)]) (rest := []) (c_X4_turns k15) 0 182 (mdW g A r14.2) dX4_does_179 rfl ⟨Nat.le_of_ble_eq_true rfl, Nat.le_of_ble_eq_true rfl⟩ rfl (rfl) (rfl) rfl rfl rfl rfl (Nat.le_of_ble_eq_true rfl) ⟨Nat.zero_le _, Nat.zero_le _⟩ ?_
    obtain rfl := Option.some.inj h
    exact retI _ _ _ .int rfl (rfl) rfl dX4_does_182
  have h := (if_neg e27).symm.trans h
  by_cases e28 : ((Md_commands v) (cl a1)) = (86 : Int32)
  · have h := (if_pos e28).symm.trans h
    refine V_tsw C (x := ((Md_commands v) (cl a1))) 170 dX4_does_24 (by first | (rw [e28]; done) | (rw [e28]; rfl)) rfl (by decide) ?_
    refine V_aload_n C 2 171 dX4_does_170 rfl rfl ?_
    refine V_iload_n C 1 172 dX4_does_171 rfl rfl ?_
    obtain ⟨r16, k17, h⟩ := bd_some h
    refine V_callS C hBA ml_X4_135 (pre := []) (post := []) (w0 := mdW g A v) (w1 := mdW g A r16.2) (as := [.int ((Md_commands v) (cl (a1 + (1 : Int32))))]) (rest := []) (c_X4_votes k17) 0 175 (mdW g A r16.2) dX4_does_172 rfl ⟨Nat.le_of_ble_eq_true rfl, Nat.le_of_ble_eq_true rfl⟩ rfl (rfl) (rfl) rfl rfl rfl rfl (Nat.le_of_ble_eq_true rfl) ⟨Nat.zero_le _, Nat.zero_le _⟩ ?_
    obtain rfl := Option.some.inj h
    exact retI _ _ _ .int rfl (rfl) rfl dX4_does_175
  have h := (if_neg e28).symm.trans h
  by_cases e29 : ((Md_commands v) (cl a1)) = (88 : Int32)
  · have h := (if_pos e29).symm.trans h
    refine V_tsw C (x := ((Md_commands v) (cl a1))) 144 dX4_does_24 (by first | (rw [e29]; done) | (rw [e29]; rfl)) rfl (by decide) ?_
    refine V_aload_n C 2 145 dX4_does_144 rfl rfl ?_
    refine V_iload_n C 1 146 dX4_does_145 rfl rfl ?_
    obtain ⟨r18, k19, h⟩ := bd_some h
    refine V_callS C hBA ml_X4_114 (pre := []) (post := []) (w0 := mdW g A v) (w1 := mdW g A r18.2) (as := [.int ((Md_commands v) (cl (a1 + (1 : Int32))))]) (rest := []) (c_X4_removes k19) 0 149 (mdW g A r18.2) dX4_does_146 rfl ⟨Nat.le_of_ble_eq_true rfl, Nat.le_of_ble_eq_true rfl⟩ rfl (rfl) (rfl) rfl rfl rfl rfl (Nat.le_of_ble_eq_true rfl) ⟨Nat.zero_le _, Nat.zero_le _⟩ ?_
    obtain rfl := Option.some.inj h
    exact retI _ _ _ .int rfl (rfl) rfl dX4_does_149
  have h := (if_neg e29).symm.trans h
  refine V_tsw C (x := ((Md_commands v) (cl a1))) 183 dX4_does_24 (tsTgt_def [67, 69, 77, 82, 83, 84, 86, 88] (by decide) (by intro c hc; simp only [List.mem_cons, List.mem_nil_iff, or_false] at hc; rcases hc with rfl | rfl | rfl | rfl | rfl | rfl | rfl | rfl <;> first | exact lv_neT e22 rfl | exact lv_neT e23 rfl | exact lv_neT e24 rfl | exact lv_neT e25 rfl | exact lv_neT e26 rfl | exact lv_neT e27 rfl | exact lv_neT e28 rfl | exact lv_neT e29 rfl)) rfl (by decide) ?_
  refine V_aload_n C 2 184 dX4_does_183 rfl rfl ?_
  refine V_iload_n C 1 185 dX4_does_184 rfl rfl ?_
  refine V_iconst C (0 : Int32) 186 dX4_does_185 rfl rfl ?_
  obtain ⟨r20, k21, h⟩ := bd_some h
  refine V_callS C hBA ml_X4_142 (pre := []) (post := []) (w0 := mdW g A v) (w1 := mdW g A r20.2) (as := [.int ((Md_commands v) (cl (a1 + (1 : Int32)))), .int (0 : Int32)]) (rest := []) (c_X4_turns k21) 0 189 (mdW g A r20.2) dX4_does_186 rfl ⟨Nat.le_of_ble_eq_true rfl, Nat.le_of_ble_eq_true rfl⟩ rfl (rfl) (rfl) rfl rfl rfl rfl (Nat.le_of_ble_eq_true rfl) ⟨Nat.zero_le _, Nat.zero_le _⟩ ?_
  obtain rfl := Option.some.inj h
  exact retI _ _ _ .int rfl (rfl) rfl dX4_does_189
set_option maxHeartbeats 4000000 in
set_option maxRecDepth 100000 in
theorem c_X4_execute {l : Launch} {D : va_G} {g : G0} {A : MdA} {v : MdV} {R : (Int32 × MdV)} (h : f_X4_execute v  = some R) : CtS l D g yX4_execute cX4_execute 3 (some .int) (rmF 5 114) (mdW g A v) [.ref A.1] (some (.int R.1)) (mdW g A R.2) := by
  refine CtS.of (by decide) (Nat.le_of_ble_eq_true rfl) ?_
  intro K C hBA el eD ekn retI retV
  subst el
  subst eD
  have hlt : ∀ i, i < 3 → i < kn K := fun i h => by rw [ekn]; exact h
  have B91 : ∀ (x1 : Int32) (x2 : Int32) (v : MdV), f_X4_execute_B91 x1 x2 v = some R → V K 0 0 (mdW g A v) [(0, .ref A.1), (1, .int x1), (2, .int x2)] [] 91 := by
    intro x1 x2 v h
    rw [f_X4_execute_B91] at h
    refine V_aload_n C 0 92 dX4_execute_91 rfl rfl ?_
    refine V_aload_n C 0 93 dX4_execute_92 rfl rfl ?_
    refine V_get C (v := .int (Md_commandMany v)) 0 96 fl_X4_204 dX4_execute_93 rfl rfl rfl ?_
    refine V_put C hBA 0 99 (mdW g A ((Md_all v), (Md_output v), (Md_input v), (Md_commands v), (Md_thrown v), (Md_changes v), (Md_isSaved v), (Md_commandMany v), (Md_why v), (Md_detail v), (Md_cause v), (Md_outputSize v), (Md_typed v), (Md_here v), (Md_error v), (Md_errorAt v), (Md_commandMany v))) fl_X4_37 fp_X4_4 dX4_execute_96 rfl rfl (Nat.le_of_ble_eq_true rfl) rfl rfl rfl ?_
    refine V_aload_n C 0 100 dX4_execute_99 rfl rfl ?_
    refine V_iload_n C 1 101 dX4_execute_100 rfl rfl ?_
    refine V_iconst C (2 : Int32) 102 dX4_execute_101 rfl rfl ?_
    refine V_iconst C (2 : Int32) 103 dX4_execute_102 rfl rfl ?_
    refine V_iconst C (3 : Int32) 104 dX4_execute_103 rfl rfl ?_
    obtain ⟨r1, k2, h⟩ := bd_some h
    refine V_callS C hBA ml_X4_103 (pre := []) (post := []) (w0 := mdW g A ((Md_all v), (Md_output v), (Md_input v), (Md_commands v), (Md_thrown v), (Md_changes v), (Md_isSaved v), (Md_commandMany v), (Md_why v), (Md_detail v), (Md_cause v), (Md_outputSize v), (Md_typed v), (Md_here v), (Md_error v), (Md_errorAt v), (Md_commandMany v))) (w1 := mdW g A r1.2) (as := [.int x1, .int (2 : Int32), .int (2 : Int32), .int (3 : Int32)]) (rest := []) (c_X4_ends k2) 0 107 (mdW g A r1.2) dX4_execute_104 rfl ⟨Nat.le_of_ble_eq_true rfl, Nat.le_of_ble_eq_true rfl⟩ rfl (rfl) (rfl) rfl rfl rfl rfl (Nat.le_of_ble_eq_true rfl) ⟨Nat.zero_le _, Nat.zero_le _⟩ ?_
    obtain rfl := Option.some.inj h
    exact retI _ _ _ .int rfl (rfl) rfl dX4_execute_107
  have B65 : ∀ (x1 : Int32) (x2 : Int32) (v : MdV), f_X4_execute_B65 x1 x2 v = some R → V K 0 0 (mdW g A v) [(0, .ref A.1), (1, .int x1), (2, .int x2)] [] 65 := by
    intro x1 x2 v h
    rw [f_X4_execute_B65] at h
    refine V_iload_n C 1 66 dX4_execute_65 rfl rfl ?_
    refine V_iconst C (3 : Int32) 67 dX4_execute_66 rfl rfl ?_
    refine V_icmp_ne C 91 70 dX4_execute_67 rfl rfl (fun e3 => ?_) (fun e3 => ?_)
    · have h := (if_neg e3).symm.trans h
      refine V_lv [0, 1, 2] rfl ?_
      exact B91 _ _ _ h
    · have h := (if_pos e3).symm.trans h
      refine V_aload_n C 0 71 dX4_execute_70 rfl rfl ?_
      refine V_aload_n C 0 72 dX4_execute_71 rfl rfl ?_
      refine V_get C (v := .int (Md_why v)) 0 75 fl_X4_40 dX4_execute_72 rfl rfl rfl ?_
      refine V_put C hBA 0 78 (mdW g A ((Md_all v), (Md_output v), (Md_input v), (Md_commands v), (Md_thrown v), (Md_changes v), (Md_isSaved v), (Md_result v), (Md_why v), (Md_detail v), (Md_why v), (Md_outputSize v), (Md_typed v), (Md_here v), (Md_error v), (Md_errorAt v), (Md_commandMany v))) fl_X4_46 fp_X4_7 dX4_execute_75 rfl rfl (Nat.le_of_ble_eq_true rfl) rfl rfl rfl ?_
      refine V_aload_n C 0 79 dX4_execute_78 rfl rfl ?_
      refine V_bipush C (10 : Int32) 81 dX4_execute_79 rfl rfl ?_
      refine V_put C hBA 0 84 (mdW g A ((Md_all v), (Md_output v), (Md_input v), (Md_commands v), (Md_thrown v), (Md_changes v), (Md_isSaved v), (Md_result v), (10 : Int32), (Md_detail v), (Md_why v), (Md_outputSize v), (Md_typed v), (Md_here v), (Md_error v), (Md_errorAt v), (Md_commandMany v))) fl_X4_40 fp_X4_5 dX4_execute_81 rfl rfl (Nat.le_of_ble_eq_true rfl) rfl rfl rfl ?_
      refine V_aload_n C 0 85 dX4_execute_84 rfl rfl ?_
      refine V_iload_n C 2 86 dX4_execute_85 rfl rfl ?_
      refine V_iconst C (1 : Int32) 87 dX4_execute_86 rfl rfl ?_
      refine V_isub C 88 dX4_execute_87 rfl ?_
      refine V_put C hBA 0 91 (mdW g A ((Md_all v), (Md_output v), (Md_input v), (Md_commands v), (Md_thrown v), (Md_changes v), (Md_isSaved v), (Md_result v), (10 : Int32), (x2 - (1 : Int32)), (Md_why v), (Md_outputSize v), (Md_typed v), (Md_here v), (Md_error v), (Md_errorAt v), (Md_commandMany v))) fl_X4_43 fp_X4_6 dX4_execute_88 rfl rfl (Nat.le_of_ble_eq_true rfl) rfl rfl rfl ?_
      refine V_lv [0, 1, 2] rfl ?_
      exact B91 _ _ _ h
  have L39 : ∀ (n : Nat) (x1 : Int32) (x2 : Int32) (v : MdV), f_X4_execute_L39 n x1 x2 v = some R → V K 0 0 (mdW g A v) [(0, .ref A.1), (1, .int x1), (2, .int x2)] [] 39 := by
    intro n
    induction n with
    | zero =>
      intro x1 x2 v h
      rw [f_X4_execute_L39] at h
      cases h
    | succ n ih =>
      intro x1 x2 v h
      rw [f_X4_execute_L39] at h
      refine V_iload_n C 2 40 dX4_execute_39 rfl rfl ?_
      refine V_aload_n C 0 41 dX4_execute_40 rfl rfl ?_
      refine V_get C (v := .int (Md_commandMany v)) 0 44 fl_X4_204 dX4_execute_41 rfl rfl rfl ?_
      refine V_icmp_ge C 65 47 dX4_execute_44 rfl rfl (fun e4 => ?_) (fun e4 => ?_)
      · have h := (if_pos e4).symm.trans h
        refine V_lv [0, 1, 2] rfl ?_
        exact B65 _ _ _ h
      · have h := (if_neg e4).symm.trans h
        refine V_iload_n C 1 48 dX4_execute_47 rfl rfl ?_
        refine V_if_ne C 65 51 dX4_execute_48 rfl rfl (fun e5 => ?_) (fun e5 => ?_)
        · have h := (if_neg e5).symm.trans h
          refine V_lv [0, 1, 2] rfl ?_
          exact B65 _ _ _ h
        · have h := (if_pos e5).symm.trans h
          refine V_aload_n C 0 52 dX4_execute_51 rfl rfl ?_
          refine V_iconst C (3 : Int32) 53 dX4_execute_52 rfl rfl ?_
          refine V_iload_n C 2 54 dX4_execute_53 rfl rfl ?_
          refine V_imul C 55 dX4_execute_54 rfl ?_
          obtain ⟨r6, k7, h⟩ := bd_some h
          refine V_callS C hBA ml_X4_219 (pre := []) (post := []) (w0 := mdW g A v) (w1 := mdW g A r6.2) (as := [.int ((3 : Int32) * x2)]) (rest := []) (c_X4_does k7) 0 58 (mdW g A r6.2) dX4_execute_55 rfl ⟨Nat.le_of_ble_eq_true rfl, Nat.le_of_ble_eq_true rfl⟩ rfl (rfl) (rfl) rfl rfl rfl rfl (Nat.le_of_ble_eq_true rfl) ⟨Nat.zero_le _, Nat.zero_le _⟩ ?_
          refine V_istore_n C 59 [(1, .int r6.1), (0, .ref A.1), (2, .int x2)] dX4_execute_58 rfl (hlt 1 (by decide)) rfl ?_
          refine V_iinc C 2 (x2 + (1 : Int32)) 62 [(2, .int (x2 + (1 : Int32))), (1, .int r6.1), (0, .ref A.1)] dX4_execute_59 rfl rfl rfl (hlt 2 (by decide)) rfl ?_
          refine V_goto C 39 dX4_execute_62 rfl ?_
          refine V_lv [2, 1, 0] rfl ?_
          exact ih _ _ _ h
  show V K 0 0 _ [(0, .ref A.1)] [] 0
  unfold f_X4_execute at h
  refine V_aload_n C 0 1 dX4_execute_0 rfl rfl ?_
  obtain ⟨r8, k9, h⟩ := bd_some h
  refine V_callS C hBA ml_X4_216 (pre := []) (post := []) (w0 := mdW g A v) (w1 := mdW g A r8.2) (as := []) (rest := []) (c_X4_parse k9) 0 4 (mdW g A r8.2) dX4_execute_1 rfl ⟨Nat.le_of_ble_eq_true rfl, Nat.le_of_ble_eq_true rfl⟩ rfl (rfl) (rfl) rfl rfl rfl rfl (Nat.le_of_ble_eq_true rfl) ⟨Nat.zero_le _, Nat.zero_le _⟩ ?_
  refine V_aload_n C 0 5 dX4_execute_4 rfl rfl ?_
  refine V_iconst C (0 : Int32) 6 dX4_execute_5 rfl rfl ?_
  refine V_put C hBA 0 9 (mdW g A ((Md_all r8.2), (Md_output r8.2), (Md_input r8.2), (Md_commands r8.2), (Md_thrown r8.2), (Md_changes r8.2), (Md_isSaved r8.2), (Md_result r8.2), (Md_why r8.2), (Md_detail r8.2), (Md_cause r8.2), (Md_outputSize r8.2), (0 : Int32), (Md_here r8.2), (Md_error r8.2), (Md_errorAt r8.2), (Md_commandMany r8.2))) fl_X4_186 fp_X4_11 dX4_execute_6 rfl rfl (Nat.le_of_ble_eq_true rfl) rfl rfl rfl ?_
  refine V_aload_n C 0 10 dX4_execute_9 rfl rfl ?_
  refine V_get C (v := .int (Md_error r8.2)) 0 13 fl_X4_192 dX4_execute_10 rfl rfl rfl ?_
  refine V_if_lt C 31 16 dX4_execute_13 rfl rfl (fun e10 => ?_) (fun e10 => ?_)
  · have h := (if_pos e10).symm.trans h
    refine V_aload_n C 0 32 dX4_execute_31 rfl rfl ?_
    obtain ⟨r11, k12, h⟩ := bd_some h
    refine V_callS C hBA ml_X4_96 (pre := []) (post := []) (w0 := mdW g A ((Md_all r8.2), (Md_output r8.2), (Md_input r8.2), (Md_commands r8.2), (Md_thrown r8.2), (Md_changes r8.2), (Md_isSaved r8.2), (Md_result r8.2), (Md_why r8.2), (Md_detail r8.2), (Md_cause r8.2), (Md_outputSize r8.2), (0 : Int32), (Md_here r8.2), (Md_error r8.2), (Md_errorAt r8.2), (Md_commandMany r8.2))) (w1 := mdW g A r11.2) (as := []) (rest := []) (c_X4_begins k12) 0 35 (mdW g A r11.2) dX4_execute_32 rfl ⟨Nat.le_of_ble_eq_true rfl, Nat.le_of_ble_eq_true rfl⟩ rfl (rfl) (rfl) rfl rfl rfl rfl (Nat.le_of_ble_eq_true rfl) ⟨Nat.zero_le _, Nat.zero_le _⟩ ?_
    refine V_iconst C (0 : Int32) 36 dX4_execute_35 rfl rfl ?_
    refine V_istore_n C 37 [(1, .int (0 : Int32)), (0, .ref A.1)] dX4_execute_36 rfl (hlt 1 (by decide)) rfl ?_
    refine V_iconst C (0 : Int32) 38 dX4_execute_37 rfl rfl ?_
    refine V_istore_n C 39 [(2, .int (0 : Int32)), (1, .int (0 : Int32)), (0, .ref A.1)] dX4_execute_38 rfl (hlt 2 (by decide)) rfl ?_
    refine V_lv [2, 1, 0] rfl ?_
    exact L39 100 _ _ _ h
  · have h := (if_neg e10).symm.trans h
    refine V_aload_n C 0 17 dX4_execute_16 rfl rfl ?_
    refine V_aload_n C 0 18 dX4_execute_17 rfl rfl ?_
    refine V_get C (v := .int (Md_error r8.2)) 0 21 fl_X4_192 dX4_execute_18 rfl rfl rfl ?_
    refine V_put C hBA 0 24 (mdW g A ((Md_all r8.2), (Md_output r8.2), (Md_input r8.2), (Md_commands r8.2), (Md_thrown r8.2), (Md_changes r8.2), (Md_isSaved r8.2), (Md_result r8.2), (Md_why r8.2), (Md_detail r8.2), (Md_cause r8.2), (Md_outputSize r8.2), (0 : Int32), (Md_here r8.2), (Md_error r8.2), (Md_error r8.2), (Md_commandMany r8.2))) fl_X4_20 fp_X4_14 dX4_execute_21 rfl rfl (Nat.le_of_ble_eq_true rfl) rfl rfl rfl ?_
    refine V_aload_n C 0 25 dX4_execute_24 rfl rfl ?_
    refine V_iconst C (1 : Int32) 26 dX4_execute_25 rfl rfl ?_
    refine V_put C hBA 0 29 (mdW g A ((Md_all r8.2), (Md_output r8.2), (Md_input r8.2), (Md_commands r8.2), (1 : Int32), (Md_changes r8.2), (Md_isSaved r8.2), (Md_result r8.2), (Md_why r8.2), (Md_detail r8.2), (Md_cause r8.2), (Md_outputSize r8.2), (0 : Int32), (Md_here r8.2), (Md_error r8.2), (Md_error r8.2), (Md_commandMany r8.2))) fl_X4_27 fp_X4_0 dX4_execute_26 rfl rfl (Nat.le_of_ble_eq_true rfl) rfl rfl rfl ?_
    refine V_iconst C (0 : Int32) 30 dX4_execute_29 rfl rfl ?_
    obtain rfl := Option.some.inj h
    exact retI _ _ _ .int rfl (rfl) rfl dX4_execute_30
set_option maxHeartbeats 4000000 in
set_option maxRecDepth 100000 in
theorem c_X4_syntaxErrorOffset {l : Launch} {D : va_G} {g : G0} {A : MdA} {v : MdV} {R : (Int32 × MdV)} (h : f_X4_syntaxErrorOffset v  = some R) : CtS l D g yX4_syntaxErrorOffset cX4_syntaxErrorOffset 1 (some .int) (rmF 1 21) (mdW g A v) [.ref A.1] (some (.int R.1)) (mdW g A R.2) := by
  refine CtS.of (by decide) (Nat.le_of_ble_eq_true rfl) ?_
  intro K C hBA el eD ekn retI retV
  subst el
  subst eD
  have hlt : ∀ i, i < 1 → i < kn K := fun i h => by rw [ekn]; exact h
  have B28 : ∀ (s0 : Int32) (v : MdV), f_X4_syntaxErrorOffset_B28 s0 v = some R → V K 0 0 (mdW g A v) [(0, .ref A.1)] [.int s0] 28 := by
    intro s0 v h
    rw [f_X4_syntaxErrorOffset_B28] at h
    obtain rfl := Option.some.inj h
    exact retI _ _ _ .int rfl (rfl) rfl dX4_syntaxErrorOffset_28
  have B14 : ∀ (s0 : Int32) (v : MdV), f_X4_syntaxErrorOffset_B14 s0 v = some R → V K 0 0 (mdW g A v) [(0, .ref A.1)] [.int s0, .ref A.1] 14 := by
    intro s0 v h
    rw [f_X4_syntaxErrorOffset_B14] at h
    obtain ⟨r1, k2, h⟩ := bd_some h
    refine V_callS C hBA ml_X4_49 (pre := []) (post := []) (w0 := mdW g A v) (w1 := mdW g A r1.2) (as := [.int s0]) (rest := []) (c_X4_isFine k2) 0 17 (mdW g A r1.2) dX4_syntaxErrorOffset_14 rfl ⟨Nat.le_of_ble_eq_true rfl, Nat.le_of_ble_eq_true rfl⟩ rfl (rfl) (rfl) rfl rfl rfl rfl (Nat.le_of_ble_eq_true rfl) ⟨Nat.zero_le _, Nat.zero_le _⟩ ?_
    refine V_if_eq C 27 20 dX4_syntaxErrorOffset_17 rfl rfl (fun e3 => ?_) (fun e3 => ?_)
    · have h := (if_pos e3).symm.trans h
      refine V_iconst C (0 : Int32) 28 dX4_syntaxErrorOffset_27 rfl rfl ?_
      refine V_lv [0] rfl ?_
      exact B28 _ _ h
    · have h := (if_neg e3).symm.trans h
      refine V_aload_n C 0 21 dX4_syntaxErrorOffset_20 rfl rfl ?_
      refine V_get C (v := .int (Md_errorAt r1.2)) 0 24 fl_X4_20 dX4_syntaxErrorOffset_21 rfl rfl rfl ?_
      refine V_goto C 28 dX4_syntaxErrorOffset_24 rfl ?_
      refine V_lv [0] rfl ?_
      exact B28 _ _ h
  show V K 0 0 _ [(0, .ref A.1)] [] 0
  unfold f_X4_syntaxErrorOffset at h
  refine V_aload_n C 0 1 dX4_syntaxErrorOffset_0 rfl rfl ?_
  refine V_aload_n C 0 2 dX4_syntaxErrorOffset_1 rfl rfl ?_
  refine V_get C (v := .int (Md_errorAt v)) 0 5 fl_X4_20 dX4_syntaxErrorOffset_2 rfl rfl rfl ?_
  refine V_iconst C (-1 : Int32) 6 dX4_syntaxErrorOffset_5 rfl rfl ?_
  refine V_icmp_eq C 13 9 dX4_syntaxErrorOffset_6 rfl rfl (fun e4 => ?_) (fun e4 => ?_)
  · have h := (if_pos e4).symm.trans h
    refine V_iconst C (0 : Int32) 14 dX4_syntaxErrorOffset_13 rfl rfl ?_
    refine V_lv [0] rfl ?_
    exact B14 _ _ h
  · have h := (if_neg e4).symm.trans h
    refine V_iconst C (1 : Int32) 10 dX4_syntaxErrorOffset_9 rfl rfl ?_
    refine V_goto C 14 dX4_syntaxErrorOffset_10 rfl ?_
    refine V_lv [0] rfl ?_
    exact B14 _ _ h
set_option maxHeartbeats 4000000 in
set_option maxRecDepth 100000 in
theorem c_X4_undo {l : Launch} {D : va_G} {g : G0} {A : MdA} {v : MdV} {R : (Int32 × MdV)} (h : f_X4_undo v  = some R) : CtS l D g yX4_undo cX4_undo 1 (some .int) (rmF 1 23) (mdW g A v) [.ref A.1] (some (.int R.1)) (mdW g A R.2) := by
  refine CtS.of (by decide) (Nat.le_of_ble_eq_true rfl) ?_
  intro K C hBA el eD ekn retI retV
  subst el
  subst eD
  have hlt : ∀ i, i < 1 → i < kn K := fun i h => by rw [ekn]; exact h
  have B13 : ∀ (s0 : Int32) (v : MdV), f_X4_undo_B13 s0 v = some R → V K 0 0 (mdW g A v) [(0, .ref A.1)] [.int s0, .ref A.1] 13 := by
    intro s0 v h
    rw [f_X4_undo_B13] at h
    obtain ⟨r1, k2, h⟩ := bd_some h
    refine V_callS C hBA ml_X4_49 (pre := []) (post := []) (w0 := mdW g A v) (w1 := mdW g A r1.2) (as := [.int s0]) (rest := []) (c_X4_isFine k2) 0 16 (mdW g A r1.2) dX4_undo_13 rfl ⟨Nat.le_of_ble_eq_true rfl, Nat.le_of_ble_eq_true rfl⟩ rfl (rfl) (rfl) rfl rfl rfl rfl (Nat.le_of_ble_eq_true rfl) ⟨Nat.zero_le _, Nat.zero_le _⟩ ?_
    refine V_if_ne C 21 19 dX4_undo_16 rfl rfl (fun e3 => ?_) (fun e3 => ?_)
    · have h := (if_neg e3).symm.trans h
      refine V_aload_n C 0 22 dX4_undo_21 rfl rfl ?_
      refine V_aload_n C 0 23 dX4_undo_22 rfl rfl ?_
      refine V_get C (v := .int (Md_changes r1.2)) 0 26 fl_X4_34 dX4_undo_23 rfl rfl rfl ?_
      refine V_iconst C (0 : Int32) 27 dX4_undo_26 rfl rfl ?_
      obtain ⟨r4, k5, h⟩ := bd_some h
      refine V_callS C hBA ml_X4_30 (pre := []) (post := []) (w0 := mdW g A r1.2) (w1 := mdW g A r4.2) (as := [.int (Md_changes r1.2), .int (0 : Int32)]) (rest := []) (c_X4_copies k5) 0 30 (mdW g A r4.2) dX4_undo_27 rfl ⟨Nat.le_of_ble_eq_true rfl, Nat.le_of_ble_eq_true rfl⟩ rfl (rfl) (rfl) rfl rfl rfl rfl (Nat.le_of_ble_eq_true rfl) ⟨Nat.zero_le _, Nat.zero_le _⟩ ?_
      refine V_aload_n C 0 31 dX4_undo_30 rfl rfl ?_
      refine V_dup C 32 dX4_undo_31 rfl rfl ?_
      refine V_get C (v := .int (Md_changes r4.2)) 0 35 fl_X4_34 dX4_undo_32 rfl rfl rfl ?_
      refine V_iconst C (1 : Int32) 36 dX4_undo_35 rfl rfl ?_
      refine V_isub C 37 dX4_undo_36 rfl ?_
      refine V_put C hBA 0 40 (mdW g A ((Md_all r4.2), (Md_output r4.2), (Md_input r4.2), (Md_commands r4.2), (Md_thrown r4.2), ((Md_changes r4.2) - (1 : Int32)), (Md_isSaved r4.2), (Md_result r4.2), (Md_why r4.2), (Md_detail r4.2), (Md_cause r4.2), (Md_outputSize r4.2), (Md_typed r4.2), (Md_here r4.2), (Md_error r4.2), (Md_errorAt r4.2), (Md_commandMany r4.2))) fl_X4_34 fp_X4_2 dX4_undo_37 rfl rfl (Nat.le_of_ble_eq_true rfl) rfl rfl rfl ?_
      refine V_aload_n C 0 41 dX4_undo_40 rfl rfl ?_
      refine V_get C (v := .int ((Md_changes r4.2) - (1 : Int32))) 0 44 fl_X4_34 dX4_undo_41 rfl rfl rfl ?_
      obtain rfl := Option.some.inj h
      exact retI _ _ _ .int rfl (rfl) rfl dX4_undo_44
    · have h := (if_pos e3).symm.trans h
      refine V_iconst C (0 : Int32) 20 dX4_undo_19 rfl rfl ?_
      obtain rfl := Option.some.inj h
      exact retI _ _ _ .int rfl (rfl) rfl dX4_undo_20
  show V K 0 0 _ [(0, .ref A.1)] [] 0
  unfold f_X4_undo at h
  refine V_aload_n C 0 1 dX4_undo_0 rfl rfl ?_
  refine V_aload_n C 0 2 dX4_undo_1 rfl rfl ?_
  refine V_get C (v := .int (Md_changes v)) 0 5 fl_X4_34 dX4_undo_2 rfl rfl rfl ?_
  refine V_if_le C 12 8 dX4_undo_5 rfl rfl (fun e6 => ?_) (fun e6 => ?_)
  · have h := (if_pos e6).symm.trans h
    refine V_iconst C (0 : Int32) 13 dX4_undo_12 rfl rfl ?_
    refine V_lv [0] rfl ?_
    exact B13 _ _ h
  · have h := (if_neg e6).symm.trans h
    refine V_iconst C (1 : Int32) 9 dX4_undo_8 rfl rfl ?_
    refine V_goto C 13 dX4_undo_9 rfl ?_
    refine V_lv [0] rfl ?_
    exact B13 _ _ h
set_option maxHeartbeats 4000000 in
set_option maxRecDepth 100000 in
theorem c_X4_undoCount {l : Launch} {D : va_G} {g : G0} {A : MdA} {v : MdV} {R : (Int32 × MdV)} (h : f_X4_undoCount v  = some R) : CtS l D g yX4_undoCount cX4_undoCount 1 (some .int) (rmF 0 0) (mdW g A v) [.ref A.1] (some (.int R.1)) (mdW g A R.2) := by
  refine CtS.of (by decide) (Nat.le_of_ble_eq_true rfl) ?_
  intro K C hBA el eD ekn retI retV
  subst el
  subst eD
  have hlt : ∀ i, i < 1 → i < kn K := fun i h => by rw [ekn]; exact h
  show V K 0 0 _ [(0, .ref A.1)] [] 0
  unfold f_X4_undoCount at h
  refine V_aload_n C 0 1 dX4_undoCount_0 rfl rfl ?_
  refine V_iconst C (0 : Int32) 2 dX4_undoCount_1 rfl rfl ?_
  refine V_put C hBA 0 5 (mdW g A ((Md_all v), (Md_output v), (Md_input v), (Md_commands v), (0 : Int32), (Md_changes v), (Md_isSaved v), (Md_result v), (Md_why v), (Md_detail v), (Md_cause v), (Md_outputSize v), (Md_typed v), (Md_here v), (Md_error v), (Md_errorAt v), (Md_commandMany v))) fl_X4_27 fp_X4_0 dX4_undoCount_2 rfl rfl (Nat.le_of_ble_eq_true rfl) rfl rfl rfl ?_
  refine V_aload_n C 0 6 dX4_undoCount_5 rfl rfl ?_
  refine V_get C (v := .int (Md_changes v)) 0 9 fl_X4_34 dX4_undoCount_6 rfl rfl rfl ?_
  obtain rfl := Option.some.inj h
  exact retI _ _ _ .int rfl (rfl) rfl dX4_undoCount_9
set_option maxHeartbeats 4000000 in
set_option maxRecDepth 100000 in
theorem c_X4_saveSnapshot {l : Launch} {D : va_G} {g : G0} {A : MdA} {v : MdV} {R : (Int32 × MdV)} (h : f_X4_saveSnapshot v  = some R) : CtS l D g yX4_saveSnapshot cX4_saveSnapshot 1 (some .int) (rmF 1 23) (mdW g A v) [.ref A.1] (some (.int R.1)) (mdW g A R.2) := by
  refine CtS.of (by decide) (Nat.le_of_ble_eq_true rfl) ?_
  intro K C hBA el eD ekn retI retV
  subst el
  subst eD
  have hlt : ∀ i, i < 1 → i < kn K := fun i h => by rw [ekn]; exact h
  show V K 0 0 _ [(0, .ref A.1)] [] 0
  unfold f_X4_saveSnapshot at h
  refine V_aload_n C 0 1 dX4_saveSnapshot_0 rfl rfl ?_
  refine V_iconst C (0 : Int32) 2 dX4_saveSnapshot_1 rfl rfl ?_
  refine V_put C hBA 0 5 (mdW g A ((Md_all v), (Md_output v), (Md_input v), (Md_commands v), (0 : Int32), (Md_changes v), (Md_isSaved v), (Md_result v), (Md_why v), (Md_detail v), (Md_cause v), (Md_outputSize v), (Md_typed v), (Md_here v), (Md_error v), (Md_errorAt v), (Md_commandMany v))) fl_X4_27 fp_X4_0 dX4_saveSnapshot_2 rfl rfl (Nat.le_of_ble_eq_true rfl) rfl rfl rfl ?_
  refine V_aload_n C 0 6 dX4_saveSnapshot_5 rfl rfl ?_
  refine V_iconst C (1 : Int32) 7 dX4_saveSnapshot_6 rfl rfl ?_
  refine V_put C hBA 0 10 (mdW g A ((Md_all v), (Md_output v), (Md_input v), (Md_commands v), (0 : Int32), (Md_changes v), (1 : Int32), (Md_result v), (Md_why v), (Md_detail v), (Md_cause v), (Md_outputSize v), (Md_typed v), (Md_here v), (Md_error v), (Md_errorAt v), (Md_commandMany v))) fl_X4_222 fp_X4_3 dX4_saveSnapshot_7 rfl rfl (Nat.le_of_ble_eq_true rfl) rfl rfl rfl ?_
  refine V_aload_n C 0 11 dX4_saveSnapshot_10 rfl rfl ?_
  refine V_iconst C (0 : Int32) 12 dX4_saveSnapshot_11 rfl rfl ?_
  refine V_bipush C (9 : Int32) 14 dX4_saveSnapshot_12 rfl rfl ?_
  obtain ⟨r1, k2, h⟩ := bd_some h
  refine V_callS C hBA ml_X4_30 (pre := []) (post := []) (w0 := mdW g A ((Md_all v), (Md_output v), (Md_input v), (Md_commands v), (0 : Int32), (Md_changes v), (1 : Int32), (Md_result v), (Md_why v), (Md_detail v), (Md_cause v), (Md_outputSize v), (Md_typed v), (Md_here v), (Md_error v), (Md_errorAt v), (Md_commandMany v))) (w1 := mdW g A r1.2) (as := [.int (0 : Int32), .int (9 : Int32)]) (rest := []) (c_X4_copies k2) 0 17 (mdW g A r1.2) dX4_saveSnapshot_14 rfl ⟨Nat.le_of_ble_eq_true rfl, Nat.le_of_ble_eq_true rfl⟩ rfl (rfl) (rfl) rfl rfl rfl rfl (Nat.le_of_ble_eq_true rfl) ⟨Nat.zero_le _, Nat.zero_le _⟩ ?_
  refine V_aload_n C 0 18 dX4_saveSnapshot_17 rfl rfl ?_
  refine V_get C (v := .ref A.2.1) 0 21 fl_X4_9 dX4_saveSnapshot_18 rfl rfl rfl ?_
  refine V_iconst C (0 : Int32) 22 dX4_saveSnapshot_21 rfl rfl ?_
  obtain ⟨g3, h⟩ := gd_some h
  refine V_iald C (f := (Md_all r1.2)) (n := 825) 1 23 dX4_saveSnapshot_22 rfl rfl g3 ?_
  obtain rfl := Option.some.inj h
  exact retI _ _ _ .int rfl (rfl) rfl dX4_saveSnapshot_23
set_option maxHeartbeats 4000000 in
set_option maxRecDepth 100000 in
theorem c_X4_restoreSnapshot {l : Launch} {D : va_G} {g : G0} {A : MdA} {v : MdV} {R : (Int32 × MdV)} (h : f_X4_restoreSnapshot v  = some R) : CtS l D g yX4_restoreSnapshot cX4_restoreSnapshot 1 (some .int) (rmF 1 23) (mdW g A v) [.ref A.1] (some (.int R.1)) (mdW g A R.2) := by
  refine CtS.of (by decide) (Nat.le_of_ble_eq_true rfl) ?_
  intro K C hBA el eD ekn retI retV
  subst el
  subst eD
  have hlt : ∀ i, i < 1 → i < kn K := fun i h => by rw [ekn]; exact h
  show V K 0 0 _ [(0, .ref A.1)] [] 0
  unfold f_X4_restoreSnapshot at h
  refine V_aload_n C 0 1 dX4_restoreSnapshot_0 rfl rfl ?_
  refine V_aload_n C 0 2 dX4_restoreSnapshot_1 rfl rfl ?_
  refine V_get C (v := .int (Md_isSaved v)) 0 5 fl_X4_222 dX4_restoreSnapshot_2 rfl rfl rfl ?_
  obtain ⟨r1, k2, h⟩ := bd_some h
  refine V_callS C hBA ml_X4_49 (pre := []) (post := []) (w0 := mdW g A v) (w1 := mdW g A r1.2) (as := [.int (Md_isSaved v)]) (rest := []) (c_X4_isFine k2) 0 8 (mdW g A r1.2) dX4_restoreSnapshot_5 rfl ⟨Nat.le_of_ble_eq_true rfl, Nat.le_of_ble_eq_true rfl⟩ rfl (rfl) (rfl) rfl rfl rfl rfl (Nat.le_of_ble_eq_true rfl) ⟨Nat.zero_le _, Nat.zero_le _⟩ ?_
  refine V_if_ne C 13 11 dX4_restoreSnapshot_8 rfl rfl (fun e3 => ?_) (fun e3 => ?_)
  · have h := (if_neg e3).symm.trans h
    refine V_aload_n C 0 14 dX4_restoreSnapshot_13 rfl rfl ?_
    refine V_bipush C (9 : Int32) 16 dX4_restoreSnapshot_14 rfl rfl ?_
    refine V_iconst C (0 : Int32) 17 dX4_restoreSnapshot_16 rfl rfl ?_
    obtain ⟨r4, k5, h⟩ := bd_some h
    refine V_callS C hBA ml_X4_30 (pre := []) (post := []) (w0 := mdW g A r1.2) (w1 := mdW g A r4.2) (as := [.int (9 : Int32), .int (0 : Int32)]) (rest := []) (c_X4_copies k5) 0 20 (mdW g A r4.2) dX4_restoreSnapshot_17 rfl ⟨Nat.le_of_ble_eq_true rfl, Nat.le_of_ble_eq_true rfl⟩ rfl (rfl) (rfl) rfl rfl rfl rfl (Nat.le_of_ble_eq_true rfl) ⟨Nat.zero_le _, Nat.zero_le _⟩ ?_
    refine V_aload_n C 0 21 dX4_restoreSnapshot_20 rfl rfl ?_
    refine V_iconst C (0 : Int32) 22 dX4_restoreSnapshot_21 rfl rfl ?_
    refine V_put C hBA 0 25 (mdW g A ((Md_all r4.2), (Md_output r4.2), (Md_input r4.2), (Md_commands r4.2), (Md_thrown r4.2), (0 : Int32), (Md_isSaved r4.2), (Md_result r4.2), (Md_why r4.2), (Md_detail r4.2), (Md_cause r4.2), (Md_outputSize r4.2), (Md_typed r4.2), (Md_here r4.2), (Md_error r4.2), (Md_errorAt r4.2), (Md_commandMany r4.2))) fl_X4_34 fp_X4_2 dX4_restoreSnapshot_22 rfl rfl (Nat.le_of_ble_eq_true rfl) rfl rfl rfl ?_
    refine V_aload_n C 0 26 dX4_restoreSnapshot_25 rfl rfl ?_
    refine V_get C (v := .ref A.2.1) 0 29 fl_X4_9 dX4_restoreSnapshot_26 rfl rfl rfl ?_
    refine V_iconst C (0 : Int32) 30 dX4_restoreSnapshot_29 rfl rfl ?_
    obtain ⟨g6, h⟩ := gd_some h
    refine V_iald C (f := (Md_all r4.2)) (n := 825) 1 31 dX4_restoreSnapshot_30 rfl rfl g6 ?_
    obtain rfl := Option.some.inj h
    exact retI _ _ _ .int rfl (rfl) rfl dX4_restoreSnapshot_31
  · have h := (if_pos e3).symm.trans h
    refine V_iconst C (0 : Int32) 12 dX4_restoreSnapshot_11 rfl rfl ?_
    obtain rfl := Option.some.inj h
    exact retI _ _ _ .int rfl (rfl) rfl dX4_restoreSnapshot_12
