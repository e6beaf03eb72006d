set_option maxHeartbeats 4000000 in
set_option maxRecDepth 100000 in
theorem c_X3_appendInput {l : Launch} {D : va_G} {g : G0} {A : XA} {v : XV} {a1 : Int32} {R : ((Int32 × XV) ⊕ (String × XV))} (hst : l.stackTraces = false) (h : f_X3_appendInput v a1 = some R) : CtX l D g yX3_appendInput cX3_appendInput 2 (some .int) (rmX 6 90 (rxI g A R)) (xW g A v) [.ref A.1, .int a1] (rxI g A R) := by
  refine CtX.of (by decide) (Nat.le_of_ble_eq_true rfl) hst ?_
  intro K C Z hBA el eD ekn
  subst el
  subst eD
  have hE := Z.2.2.1
  have hlt : ∀ i, i < 2 → i < kn K := fun i h => by rw [ekn]; exact h
  have B12 : ∀ (x1 : Int32) (v : XV), f_X3_appendInput_B12 x1 v = some R → V K 0 0 (mgW A v.1 ++ (bkW g A.2.1 v.2.1 ++ (bkW g A.2.2.1 v.2.2.1 ++ (bkW g A.2.2.2.1 v.2.2.2.1 ++ (hsW g A.2.2.2.2.1 A.2.2.2.2.2.2.2 v.2.2.2.2.1 ++ (scW g A.2.2.2.2.2.1 v.2.2.2.2.2.1 ++ (sbW g A.2.2.2.2.2.2.1 v.2.2.2.2.2.2.1 ++ (hbW g A.2.2.2.2.2.2.2 v.2.2.2.2.2.2.2)))))))) [(0, .ref A.1), (1, .int x1)] [] 12 := by
    intro x1 v h
    rw [f_X3_appendInput_B12] at h
    obtain rfl := Option.some.inj h
    exact V_throwW C Z tl_X3_256_260_258 dX3_appendInput_12 dX3_appendInput_15 dX3_appendInput_16 dX3_appendInput_19 dX3_appendInput_22 ⟨Nat.le_of_ble_eq_true rfl, Nat.le_of_ble_eq_true rfl, Nat.le_refl _, Nat.le_refl _⟩ rfl (Nat.le_refl _) (Nat.le_refl _)
  show V K 0 0 _ [(0, .ref A.1), (1, .int a1)] [] 0
  unfold f_X3_appendInput at h
  refine V_iload_n C 1 1 dX3_appendInput_0 rfl rfl ?_
  refine V_bipush C (32 : Int32) 3 dX3_appendInput_1 rfl rfl ?_
  refine V_icmp_lt C 12 6 dX3_appendInput_3 rfl rfl (fun e1 => ?_) (fun e1 => ?_)
  · have h := (if_pos e1).symm.trans h
    refine V_lv [0, 1] rfl ?_
    exact B12 _ _ h
  · have h := (if_neg e1).symm.trans h
    refine V_iload_n C 1 7 dX3_appendInput_6 rfl rfl ?_
    refine V_bipush C (126 : Int32) 9 dX3_appendInput_7 rfl rfl ?_
    refine V_icmp_le C 23 12 dX3_appendInput_9 rfl rfl (fun e2 => ?_) (fun e2 => ?_)
    · have h := (if_pos e2).symm.trans h
      refine V_aload_n C 0 24 dX3_appendInput_23 rfl rfl ?_
      refine V_get C (v := .ref A.2.2.2.2.2.1.1) 0 27 fl_X3_32 dX3_appendInput_24 rfl rfl rfl ?_
      refine V_get C (v := .int (Sc_length v.2.2.2.2.2.1)) 24 30 fl_X3_261 dX3_appendInput_27 rfl rfl rfl ?_
      refine V_bipush C (60 : Int32) 32 dX3_appendInput_30 rfl rfl ?_
      refine V_icmp_lt C 46 35 dX3_appendInput_32 rfl rfl (fun e3 => ?_) (fun e3 => ?_)
      · have h := (if_pos e3).symm.trans h
        refine V_aload_n C 0 47 dX3_appendInput_46 rfl rfl ?_
        refine V_get C (v := .ref A.2.2.2.2.2.1.1) 0 50 fl_X3_32 dX3_appendInput_47 rfl rfl rfl ?_
        refine V_iload_n C 1 51 dX3_appendInput_50 rfl rfl ?_
        obtain ⟨r4, k5, h⟩ := bd_some h
        refine V_callS C hBA ml_X3_268 (pre := mgW A v.1 ++ (bkW g A.2.1 v.2.1 ++ (bkW g A.2.2.1 v.2.2.1 ++ (bkW g A.2.2.2.1 v.2.2.2.1 ++ (hsW g A.2.2.2.2.1 A.2.2.2.2.2.2.2 v.2.2.2.2.1))))) (post := sbW g A.2.2.2.2.2.2.1 v.2.2.2.2.2.2.1 ++ (hbW g A.2.2.2.2.2.2.2 v.2.2.2.2.2.2.2)) (w0 := scW g A.2.2.2.2.2.1 v.2.2.2.2.2.1) (w1 := scW g A.2.2.2.2.2.1 r4.2) (as := [.int a1]) (rest := []) (c_X2_append k5) 24 54 (mgW A v.1 ++ (bkW g A.2.1 v.2.1 ++ (bkW g A.2.2.1 v.2.2.1 ++ (bkW g A.2.2.2.1 v.2.2.2.1 ++ (hsW g A.2.2.2.2.1 A.2.2.2.2.2.2.2 v.2.2.2.2.1 ++ (scW g A.2.2.2.2.2.1 r4.2 ++ (sbW g A.2.2.2.2.2.2.1 v.2.2.2.2.2.2.1 ++ (hbW g A.2.2.2.2.2.2.2 v.2.2.2.2.2.2.2)))))))) dX3_appendInput_51 rfl ⟨Nat.le_of_ble_eq_true rfl, Nat.le_of_ble_eq_true rfl⟩ rfl (by first | (simp only [List.append_assoc, List.nil_append, List.append_nil]; done) | rfl) (by first | (simp only [List.append_assoc, List.nil_append, List.append_nil]; done) | rfl) rfl rfl rfl rfl (Nat.le_of_ble_eq_true rfl) ⟨Nat.zero_le _, Nat.zero_le _⟩ ?_
        obtain rfl := Option.some.inj h
        exact V_xretI C Z (ty := .int) rfl (rfl) rfl dX3_appendInput_54 (Nat.le_refl _) (Nat.le_refl _)
      · have h := (if_neg e3).symm.trans h
        obtain rfl := Option.some.inj h
        exact V_throwW C Z tl_X3_263_267_265 dX3_appendInput_35 dX3_appendInput_38 dX3_appendInput_39 dX3_appendInput_42 dX3_appendInput_45 ⟨Nat.le_of_ble_eq_true rfl, Nat.le_of_ble_eq_true rfl, Nat.le_refl _, Nat.le_refl _⟩ rfl (Nat.le_refl _) (Nat.le_refl _)
    · have h := (if_neg e2).symm.trans h
      refine V_lv [0, 1] rfl ?_
      exact B12 _ _ h
set_option maxHeartbeats 4000000 in
set_option maxRecDepth 100000 in
theorem c_X3_execute {l : Launch} {D : va_G} {g : G0} {A : XA} {v : XV} {R : ((Int32 × XV) ⊕ (String × XV))} (hst : l.stackTraces = false) (h : f_X3_execute v  = some R) : CtX l D g yX3_execute cX3_execute 7 (some .int) (rmX 6 129 (rxI g A R)) (xW g A v) [.ref A.1] (rxI g A R) := by
  refine CtX.of (by decide) (Nat.le_of_ble_eq_true rfl) hst ?_
  intro K C Z hBA el eD ekn
  subst el
  subst eD
  have hE := Z.2.2.1
  have hlt : ∀ i, i < 7 → i < kn K := fun i h => by rw [ekn]; exact h
  have L42 : ∀ (n : Nat) (x1 : Int32) (x2 : Int32) (v : XV), f_X3_execute_L42 n x1 x2 v = some R → V K 0 0 (mgW A v.1 ++ (bkW g A.2.1 v.2.1 ++ (bkW g A.2.2.1 v.2.2.1 ++ (bkW g A.2.2.2.1 v.2.2.2.1 ++ (hsW g A.2.2.2.2.1 A.2.2.2.2.2.2.2 v.2.2.2.2.1 ++ (scW g A.2.2.2.2.2.1 v.2.2.2.2.2.1 ++ (sbW g A.2.2.2.2.2.2.1 v.2.2.2.2.2.2.1 ++ (hbW g A.2.2.2.2.2.2.2 v.2.2.2.2.2.2.2)))))))) [(0, .ref A.1), (1, .int x1), (2, .int x2)] [] 42 := by
    intro n
    induction n with
    | zero =>
      intro x1 x2 v h
      rw [f_X3_execute_L42] at h
      cases h
    | succ n ih =>
      intro x1 x2 v h
      rw [f_X3_execute_L42] at h
      refine V_iload_n C 2 43 dX3_execute_42 rfl rfl ?_
      refine V_aload_n C 0 44 dX3_execute_43 rfl rfl ?_
      refine V_get C (v := .ref A.2.2.2.2.2.1.1) 0 47 fl_X3_32 dX3_execute_44 rfl rfl rfl ?_
      refine V_get C (v := .int (Sc_commands v.2.2.2.2.2.1)) 24 50 fl_X3_279 dX3_execute_47 rfl rfl rfl ?_
      refine V_icmp_ge C 191 53 dX3_execute_50 rfl rfl (fun e1 => ?_) (fun e1 => ?_)
      · have h := (if_pos e1).symm.trans h
        refine V_aload_n C 0 192 dX3_execute_191 rfl rfl ?_
        refine V_get C (v := .ref A.2.2.2.2.1.1) 0 195 fl_X3_25 dX3_execute_192 rfl rfl rfl ?_
        refine V_aload_n C 0 196 dX3_execute_195 rfl rfl ?_
        refine V_get C (v := .ref A.2.2.1.1) 0 199 fl_X3_16 dX3_execute_196 rfl rfl rfl ?_
        obtain ⟨r2, k3, h⟩ := bd_some h
        refine V_permc (ws2 := hsW g A.2.2.2.2.1 A.2.2.2.2.2.2.2 v.2.2.2.2.1 ++ (hbW g A.2.2.2.2.2.2.2 v.2.2.2.2.2.2.2 ++ (bkW g A.2.2.1 v.2.2.1 ++ (mgW A v.1 ++ (bkW g A.2.1 v.2.1 ++ (bkW g A.2.2.2.1 v.2.2.2.1 ++ (scW g A.2.2.2.2.2.1 v.2.2.2.2.2.1 ++ (sbW g A.2.2.2.2.2.2.1 v.2.2.2.2.2.2.1)))))))) [mgW A v.1, bkW g A.2.1 v.2.1, bkW g A.2.2.1 v.2.2.1, bkW g A.2.2.2.1 v.2.2.2.1, hsW g A.2.2.2.2.1 A.2.2.2.2.2.2.2 v.2.2.2.2.1, scW g A.2.2.2.2.2.1 v.2.2.2.2.2.1, sbW g A.2.2.2.2.2.2.1 v.2.2.2.2.2.2.1, hbW g A.2.2.2.2.2.2.2 v.2.2.2.2.2.2.2] [4, 7, 2, 0, 1, 3, 5, 6] 8 rfl rfl (by decide) rfl ?_
        refine V_callS C hBA ml_X3_75 (pre := []) (post := mgW A v.1 ++ (bkW g A.2.1 v.2.1 ++ (bkW g A.2.2.2.1 v.2.2.2.1 ++ (scW g A.2.2.2.2.2.1 v.2.2.2.2.2.1 ++ (sbW g A.2.2.2.2.2.2.1 v.2.2.2.2.2.2.1))))) (w0 := hsW g A.2.2.2.2.1 A.2.2.2.2.2.2.2 v.2.2.2.2.1 ++ (hbW g A.2.2.2.2.2.2.2 v.2.2.2.2.2.2.2 ++ (bkW g A.2.2.1 v.2.2.1))) (w1 := hsW g A.2.2.2.2.1 A.2.2.2.2.2.2.2 r2.2.1 ++ (hbW g A.2.2.2.2.2.2.2 r2.2.2.1 ++ (bkW g A.2.2.1 r2.2.2.2))) (as := [.ref A.2.2.1.1]) (rest := []) (c_X1_remember k3) 0 202 (hsW g A.2.2.2.2.1 A.2.2.2.2.2.2.2 r2.2.1 ++ (hbW g A.2.2.2.2.2.2.2 r2.2.2.1 ++ (bkW g A.2.2.1 r2.2.2.2 ++ (mgW A v.1 ++ (bkW g A.2.1 v.2.1 ++ (bkW g A.2.2.2.1 v.2.2.2.1 ++ (scW g A.2.2.2.2.2.1 v.2.2.2.2.2.1 ++ (sbW g A.2.2.2.2.2.2.1 v.2.2.2.2.2.2.1)))))))) dX3_execute_199 rfl ⟨Nat.le_of_ble_eq_true rfl, Nat.le_of_ble_eq_true rfl⟩ rfl (by first | (simp only [List.append_assoc, List.nil_append, List.append_nil]; done) | rfl) (by first | (simp only [List.append_assoc, List.nil_append, List.append_nil]; done) | rfl) rfl rfl rfl rfl (Nat.le_of_ble_eq_true rfl) ⟨Nat.zero_le _, Nat.zero_le _⟩ ?_
        refine V_permc (ws2 := mgW A v.1 ++ (bkW g A.2.1 v.2.1 ++ (bkW g A.2.2.1 r2.2.2.2 ++ (bkW g A.2.2.2.1 v.2.2.2.1 ++ (hsW g A.2.2.2.2.1 A.2.2.2.2.2.2.2 r2.2.1 ++ (scW g A.2.2.2.2.2.1 v.2.2.2.2.2.1 ++ (sbW g A.2.2.2.2.2.2.1 v.2.2.2.2.2.2.1 ++ (hbW g A.2.2.2.2.2.2.2 r2.2.2.1)))))))) [hsW g A.2.2.2.2.1 A.2.2.2.2.2.2.2 r2.2.1, hbW g A.2.2.2.2.2.2.2 r2.2.2.1, bkW g A.2.2.1 r2.2.2.2, mgW A v.1, bkW g A.2.1 v.2.1, bkW g A.2.2.2.1 v.2.2.2.1, scW g A.2.2.2.2.2.1 v.2.2.2.2.2.1, sbW g A.2.2.2.2.2.2.1 v.2.2.2.2.2.2.1] [3, 4, 2, 5, 0, 6, 7, 1] 8 rfl rfl (by decide) rfl ?_
        refine V_aload_n C 0 203 dX3_execute_202 rfl rfl ?_
        refine V_get C (v := .ref A.2.2.2.2.2.1.1) 0 206 fl_X3_32 dX3_execute_203 rfl rfl rfl ?_
        refine V_get C (v := .int (Sc_commands v.2.2.2.2.2.1)) 24 209 fl_X3_279 dX3_execute_206 rfl rfl rfl ?_
        obtain rfl := Option.some.inj h
        exact V_xretI C Z (ty := .int) rfl (rfl) rfl dX3_execute_209 (Nat.le_refl _) (Nat.le_refl _)
      · have h := (if_neg e1).symm.trans h
        refine V_aload_n C 0 54 dX3_execute_53 rfl rfl ?_
        refine V_get C (v := .ref A.2.2.2.2.2.1.1) 0 57 fl_X3_32 dX3_execute_54 rfl rfl rfl ?_
        refine V_get C (v := .ref A.2.2.2.2.2.1.2.2.1) 24 60 fl_X3_282 dX3_execute_57 rfl rfl rfl ?_
        refine V_iload_n C 2 61 dX3_execute_60 rfl rfl ?_
        obtain ⟨g4, h⟩ := gd_some h
        refine V_cald C (f := (Sc_kinds v.2.2.2.2.2.1)) (n := 30) 26 62 dX3_execute_61 rfl rfl g4 ?_
        refine V_istore_n C 63 [(3, .int ((Sc_kinds v.2.2.2.2.2.1) (cl x2))), (0, .ref A.1), (1, .int x1), (2, .int x2)] dX3_execute_62 rfl (hlt 3 (by decide)) rfl ?_
        refine V_aload_n C 1 64 dX3_execute_63 rfl rfl ?_
        refine V_get C (v := .ref A.2.2.2.2.2.1.1) 0 67 fl_X3_32 dX3_execute_64 rfl rfl rfl ?_
        refine V_get C (v := .ref A.2.2.2.2.2.1.2.2.2.1) 24 70 fl_X3_286 dX3_execute_67 rfl rfl rfl ?_
        refine V_iload_n C 3 71 dX3_execute_70 rfl rfl ?_
        obtain ⟨g5, h⟩ := gd_some h
        refine V_iald C (f := (Sc_firsts v.2.2.2.2.2.1)) (n := 30) 27 72 dX3_execute_71 rfl rfl g5 ?_
        refine V_istore C 74 [(4, .int ((Sc_firsts v.2.2.2.2.2.1) (cl x2))), (3, .int ((Sc_kinds v.2.2.2.2.2.1) (cl x2))), (0, .ref A.1), (1, .int x1), (2, .int x2)] dX3_execute_72 rfl (hlt 4 (by decide)) rfl ?_
        refine V_aload_n C 2 75 dX3_execute_74 rfl rfl ?_
        refine V_get C (v := .ref A.2.2.2.2.2.1.1) 0 78 fl_X3_32 dX3_execute_75 rfl rfl rfl ?_
        refine V_get C (v := .ref A.2.2.2.2.2.1.2.2.2.2) 24 81 fl_X3_289 dX3_execute_78 rfl rfl rfl ?_
        refine V_iload_n C 4 82 dX3_execute_81 rfl rfl ?_
        obtain ⟨g6, h⟩ := gd_some h
        refine V_iald C (f := (Sc_seconds v.2.2.2.2.2.1)) (n := 30) 28 83 dX3_execute_82 rfl rfl g6 ?_
        refine V_istore C 85 [(5, .int ((Sc_seconds v.2.2.2.2.2.1) (cl x2))), (4, .int ((Sc_firsts v.2.2.2.2.2.1) (cl x2))), (3, .int ((Sc_kinds v.2.2.2.2.2.1) (cl x2))), (0, .ref A.1), (1, .int x1), (2, .int x2)] dX3_execute_83 rfl (hlt 5 (by decide)) rfl ?_
        refine V_aload_n C 3 86 dX3_execute_85 rfl rfl ?_
        refine V_get C (v := .ref A.2.1.1) 0 89 fl_X3_10 dX3_execute_86 rfl rfl rfl ?_
        refine V_iload_n C 2 90 dX3_execute_89 rfl rfl ?_
        refine V_iload C 1 92 dX3_execute_90 rfl rfl ?_
        refine V_iload C 0 94 dX3_execute_92 rfl rfl ?_
        obtain ⟨r7, k8, h⟩ := bd_some h
        refine V_callP C ml_X3_292 (pre := mgW A v.1) (post := bkW g A.2.2.1 v.2.2.1 ++ (bkW g A.2.2.2.1 v.2.2.2.1 ++ (hsW g A.2.2.2.2.1 A.2.2.2.2.2.2.2 v.2.2.2.2.1 ++ (scW g A.2.2.2.2.2.1 v.2.2.2.2.2.1 ++ (sbW g A.2.2.2.2.2.2.1 v.2.2.2.2.2.2.1 ++ (hbW g A.2.2.2.2.2.2.2 v.2.2.2.2.2.2.2)))))) (w := bkW g A.2.1 v.2.1) (as := [.int ((Sc_kinds v.2.2.2.2.2.1) (cl x2)), .int ((Sc_firsts v.2.2.2.2.2.1) (cl x2)), .int ((Sc_seconds v.2.2.2.2.2.1) (cl x2))]) (rest := []) (c_X0_accepts k8) 1 97 dX3_execute_94 rfl ⟨Nat.le_of_ble_eq_true rfl, Nat.le_of_ble_eq_true rfl⟩ rfl (by first | (simp only [List.append_assoc, List.nil_append, List.append_nil]; done) | rfl) rfl rfl rfl (Nat.le_of_ble_eq_true rfl) ⟨Nat.zero_le _, Nat.zero_le _⟩ ?_
        refine V_if_ne C 122 100 dX3_execute_97 rfl rfl (fun e9 => ?_) (fun e9 => ?_)
        · have h := (if_neg e9).symm.trans h
          refine V_aload_n C 3 123 dX3_execute_122 rfl rfl ?_
          refine V_get C (v := .ref A.2.1.1) 0 126 fl_X3_10 dX3_execute_123 rfl rfl rfl ?_
          refine V_iload_n C 2 127 dX3_execute_126 rfl rfl ?_
          refine V_iload C 1 129 dX3_execute_127 rfl rfl ?_
          refine V_iload C 0 131 dX3_execute_129 rfl rfl ?_
          obtain ⟨r10, k11, h⟩ := bd_some h
          refine V_callP C ml_X3_298 (pre := mgW A v.1) (post := bkW g A.2.2.1 v.2.2.1 ++ (bkW g A.2.2.2.1 v.2.2.2.1 ++ (hsW g A.2.2.2.2.1 A.2.2.2.2.2.2.2 v.2.2.2.2.1 ++ (scW g A.2.2.2.2.2.1 v.2.2.2.2.2.1 ++ (sbW g A.2.2.2.2.2.2.1 v.2.2.2.2.2.2.1 ++ (hbW g A.2.2.2.2.2.2.2 v.2.2.2.2.2.2.2)))))) (w := bkW g A.2.1 v.2.1) (as := [.int ((Sc_kinds v.2.2.2.2.2.1) (cl x2)), .int ((Sc_firsts v.2.2.2.2.2.1) (cl x2)), .int ((Sc_seconds v.2.2.2.2.2.1) (cl x2))]) (rest := []) (c_X0_reasonAgainst k11) 1 134 dX3_execute_131 rfl ⟨Nat.le_of_ble_eq_true rfl, Nat.le_of_ble_eq_true rfl⟩ rfl (by first | (simp only [List.append_assoc, List.nil_append, List.append_nil]; done) | rfl) rfl rfl rfl (Nat.le_of_ble_eq_true rfl) ⟨Nat.zero_le _, Nat.zero_le _⟩ ?_
          refine V_istore C 136 [(6, .int r10), (5, .int ((Sc_seconds v.2.2.2.2.2.1) (cl x2))), (4, .int ((Sc_firsts v.2.2.2.2.2.1) (cl x2))), (3, .int ((Sc_kinds v.2.2.2.2.2.1) (cl x2))), (0, .ref A.1), (1, .int x1), (2, .int x2)] dX3_execute_134 rfl (hlt 6 (by decide)) rfl ?_
          refine V_iload C 0 138 dX3_execute_136 rfl rfl ?_
          refine V_if_eq C 172 141 dX3_execute_138 rfl rfl (fun e12 => ?_) (fun e12 => ?_)
          · have h := (if_pos e12).symm.trans h
            refine V_aload_n C 4 173 dX3_execute_172 rfl rfl ?_
            refine V_get C (v := .ref A.2.1.1) 0 176 fl_X3_10 dX3_execute_173 rfl rfl rfl ?_
            refine V_iload_n C 3 177 dX3_execute_176 rfl rfl ?_
            refine V_iload C 2 179 dX3_execute_177 rfl rfl ?_
            refine V_iload C 1 181 dX3_execute_179 rfl rfl ?_
            obtain ⟨r13, k14, h⟩ := bd_some h
            refine V_callS C hBA ml_X3_79 (pre := mgW A v.1) (post := bkW g A.2.2.1 v.2.2.1 ++ (bkW g A.2.2.2.1 v.2.2.2.1 ++ (hsW g A.2.2.2.2.1 A.2.2.2.2.2.2.2 v.2.2.2.2.1 ++ (scW g A.2.2.2.2.2.1 v.2.2.2.2.2.1 ++ (sbW g A.2.2.2.2.2.2.1 v.2.2.2.2.2.2.1 ++ (hbW g A.2.2.2.2.2.2.2 v.2.2.2.2.2.2.2)))))) (w0 := bkW g A.2.1 v.2.1) (w1 := bkW g A.2.1 r13.2) (as := [.int ((Sc_kinds v.2.2.2.2.2.1) (cl x2)), .int ((Sc_firsts v.2.2.2.2.2.1) (cl x2)), .int ((Sc_seconds v.2.2.2.2.2.1) (cl x2))]) (rest := []) (c_X0_carryOut k14) 1 184 (mgW A v.1 ++ (bkW g A.2.1 r13.2 ++ (bkW g A.2.2.1 v.2.2.1 ++ (bkW g A.2.2.2.1 v.2.2.2.1 ++ (hsW g A.2.2.2.2.1 A.2.2.2.2.2.2.2 v.2.2.2.2.1 ++ (scW g A.2.2.2.2.2.1 v.2.2.2.2.2.1 ++ (sbW g A.2.2.2.2.2.2.1 v.2.2.2.2.2.2.1 ++ (hbW g A.2.2.2.2.2.2.2 v.2.2.2.2.2.2.2)))))))) dX3_execute_181 rfl ⟨Nat.le_of_ble_eq_true rfl, Nat.le_of_ble_eq_true rfl⟩ rfl (by first | (simp only [List.append_assoc, List.nil_append, List.append_nil]; done) | rfl) (by first | (simp only [List.append_assoc, List.nil_append, List.append_nil]; done) | rfl) rfl rfl rfl rfl (Nat.le_of_ble_eq_true rfl) ⟨Nat.zero_le _, Nat.zero_le _⟩ ?_
            refine V_pop C 185 dX3_execute_184 rfl rfl ?_
            refine V_iinc C 6 (x2 + (1 : Int32)) 188 [(2, .int (x2 + (1 : Int32))), (6, .int r10), (5, .int ((Sc_seconds v.2.2.2.2.2.1) (cl x2))), (4, .int ((Sc_firsts v.2.2.2.2.2.1) (cl x2))), (3, .int ((Sc_kinds v.2.2.2.2.2.1) (cl x2))), (0, .ref A.1), (1, .int x1)] dX3_execute_185 rfl rfl rfl (hlt 2 (by decide)) rfl ?_
            refine V_goto C 42 dX3_execute_188 rfl ?_
            refine V_lv [5, 6, 0] rfl ?_
            exact ih _ _ _ h
          · have h := (if_neg e12).symm.trans h
            refine V_aload_n C 4 142 dX3_execute_141 rfl rfl ?_
            refine V_get C (v := .ref A.2.1.1) 0 145 fl_X3_10 dX3_execute_142 rfl rfl rfl ?_
            refine V_aload_n C 4 146 dX3_execute_145 rfl rfl ?_
            refine V_get C (v := .ref A.2.2.1.1) 0 149 fl_X3_16 dX3_execute_146 rfl rfl rfl ?_
            obtain ⟨r15, k16, h⟩ := bd_some h
            refine V_callS C hBA ml_X3_276 (pre := mgW A v.1) (post := bkW g A.2.2.2.1 v.2.2.2.1 ++ (hsW g A.2.2.2.2.1 A.2.2.2.2.2.2.2 v.2.2.2.2.1 ++ (scW g A.2.2.2.2.2.1 v.2.2.2.2.2.1 ++ (sbW g A.2.2.2.2.2.2.1 v.2.2.2.2.2.2.1 ++ (hbW g A.2.2.2.2.2.2.2 v.2.2.2.2.2.2.2))))) (w0 := bkW g A.2.1 v.2.1 ++ (bkW g A.2.2.1 v.2.2.1)) (w1 := bkW g A.2.1 r15.2.1 ++ (bkW g A.2.2.1 r15.2.2)) (as := [.ref A.2.2.1.1]) (rest := []) (c_X0_copyFrom k16) 1 152 (mgW A v.1 ++ (bkW g A.2.1 r15.2.1 ++ (bkW g A.2.2.1 r15.2.2 ++ (bkW g A.2.2.2.1 v.2.2.2.1 ++ (hsW g A.2.2.2.2.1 A.2.2.2.2.2.2.2 v.2.2.2.2.1 ++ (scW g A.2.2.2.2.2.1 v.2.2.2.2.2.1 ++ (sbW g A.2.2.2.2.2.2.1 v.2.2.2.2.2.2.1 ++ (hbW g A.2.2.2.2.2.2.2 v.2.2.2.2.2.2.2)))))))) dX3_execute_149 rfl ⟨Nat.le_of_ble_eq_true rfl, Nat.le_of_ble_eq_true rfl⟩ rfl (by first | (simp only [List.append_assoc, List.nil_append, List.append_nil]; done) | rfl) (by first | (simp only [List.append_assoc, List.nil_append, List.append_nil]; done) | rfl) rfl rfl rfl rfl (Nat.le_of_ble_eq_true rfl) ⟨Nat.zero_le _, Nat.zero_le _⟩ ?_
            refine V_aload_n C 4 153 dX3_execute_152 rfl rfl ?_
            refine V_bipush C (10 : Int32) 155 dX3_execute_153 rfl rfl ?_
            refine V_iload_n C 6 156 dX3_execute_155 rfl rfl ?_
            refine V_iload C 0 158 dX3_execute_156 rfl rfl ?_
            obtain ⟨r17, k18, h⟩ := bd_some h
            refine V_callS C hBA ml_X3_301 (pre := []) (post := bkW g A.2.1 r15.2.1 ++ (bkW g A.2.2.1 r15.2.2 ++ (bkW g A.2.2.2.1 v.2.2.2.1 ++ (hsW g A.2.2.2.2.1 A.2.2.2.2.2.2.2 v.2.2.2.2.1 ++ (scW g A.2.2.2.2.2.1 v.2.2.2.2.2.1 ++ (sbW g A.2.2.2.2.2.2.1 v.2.2.2.2.2.2.1 ++ (hbW g A.2.2.2.2.2.2.2 v.2.2.2.2.2.2.2))))))) (w0 := mgW A v.1) (w1 := mgW A r17.2) (as := [.int (10 : Int32), .int x2, .int r10]) (rest := []) (c_X3_noteRejection k18) 0 161 (mgW A r17.2 ++ (bkW g A.2.1 r15.2.1 ++ (bkW g A.2.2.1 r15.2.2 ++ (bkW g A.2.2.2.1 v.2.2.2.1 ++ (hsW g A.2.2.2.2.1 A.2.2.2.2.2.2.2 v.2.2.2.2.1 ++ (scW g A.2.2.2.2.2.1 v.2.2.2.2.2.1 ++ (sbW g A.2.2.2.2.2.2.1 v.2.2.2.2.2.2.1 ++ (hbW g A.2.2.2.2.2.2.2 v.2.2.2.2.2.2.2)))))))) dX3_execute_158 rfl ⟨Nat.le_of_ble_eq_true rfl, Nat.le_of_ble_eq_true rfl⟩ rfl (by first | (simp only [List.append_assoc, List.nil_append, List.append_nil]; done) | rfl) (by first | (simp only [List.append_assoc, List.nil_append, List.append_nil]; done) | rfl) rfl rfl rfl rfl (Nat.le_of_ble_eq_true rfl) ⟨Nat.zero_le _, Nat.zero_le _⟩ ?_
            obtain rfl := Option.some.inj h
            exact V_throwW C Z tl_X3_305_309_307 dX3_execute_161 dX3_execute_164 dX3_execute_165 dX3_execute_168 dX3_execute_171 ⟨Nat.le_of_ble_eq_true rfl, Nat.le_of_ble_eq_true rfl, Nat.le_refl _, Nat.le_refl _⟩ rfl (Nat.le_refl _) (Nat.le_refl _)
        · have h := (if_pos e9).symm.trans h
          refine V_aload_n C 3 101 dX3_execute_100 rfl rfl ?_
          refine V_get C (v := .ref A.2.1.1) 0 104 fl_X3_10 dX3_execute_101 rfl rfl rfl ?_
          refine V_aload_n C 3 105 dX3_execute_104 rfl rfl ?_
          refine V_get C (v := .ref A.2.2.1.1) 0 108 fl_X3_16 dX3_execute_105 rfl rfl rfl ?_
          obtain ⟨r19, k20, h⟩ := bd_some h
          refine V_callS C hBA ml_X3_276 (pre := mgW A v.1) (post := bkW g A.2.2.2.1 v.2.2.2.1 ++ (hsW g A.2.2.2.2.1 A.2.2.2.2.2.2.2 v.2.2.2.2.1 ++ (scW g A.2.2.2.2.2.1 v.2.2.2.2.2.1 ++ (sbW g A.2.2.2.2.2.2.1 v.2.2.2.2.2.2.1 ++ (hbW g A.2.2.2.2.2.2.2 v.2.2.2.2.2.2.2))))) (w0 := bkW g A.2.1 v.2.1 ++ (bkW g A.2.2.1 v.2.2.1)) (w1 := bkW g A.2.1 r19.2.1 ++ (bkW g A.2.2.1 r19.2.2)) (as := [.ref A.2.2.1.1]) (rest := []) (c_X0_copyFrom k20) 1 111 (mgW A v.1 ++ (bkW g A.2.1 r19.2.1 ++ (bkW g A.2.2.1 r19.2.2 ++ (bkW g A.2.2.2.1 v.2.2.2.1 ++ (hsW g A.2.2.2.2.1 A.2.2.2.2.2.2.2 v.2.2.2.2.1 ++ (scW g A.2.2.2.2.2.1 v.2.2.2.2.2.1 ++ (sbW g A.2.2.2.2.2.2.1 v.2.2.2.2.2.2.1 ++ (hbW g A.2.2.2.2.2.2.2 v.2.2.2.2.2.2.2)))))))) dX3_execute_108 rfl ⟨Nat.le_of_ble_eq_true rfl, Nat.le_of_ble_eq_true rfl⟩ rfl (by first | (simp only [List.append_assoc, List.nil_append, List.append_nil]; done) | rfl) (by first | (simp only [List.append_assoc, List.nil_append, List.append_nil]; done) | rfl) rfl rfl rfl rfl (Nat.le_of_ble_eq_true rfl) ⟨Nat.zero_le _, Nat.zero_le _⟩ ?_
          obtain rfl := Option.some.inj h
          exact V_throwW C Z tl_X3_263_267_296 dX3_execute_111 dX3_execute_114 dX3_execute_115 dX3_execute_118 dX3_execute_121 ⟨Nat.le_of_ble_eq_true rfl, Nat.le_of_ble_eq_true rfl, Nat.le_refl _, Nat.le_refl _⟩ rfl (Nat.le_refl _) (Nat.le_refl _)
  show V K 0 0 _ [(0, .ref A.1)] [] 0
  unfold f_X3_execute at h
  refine V_aload_n C 0 1 dX3_execute_0 rfl rfl ?_
  refine V_get C (v := .ref A.2.2.2.2.2.1.1) 0 4 fl_X3_32 dX3_execute_1 rfl rfl rfl ?_
  obtain ⟨r21, k22, h⟩ := bd_some h
  refine V_callS C hBA ml_X3_271 (pre := mgW A v.1 ++ (bkW g A.2.1 v.2.1 ++ (bkW g A.2.2.1 v.2.2.1 ++ (bkW g A.2.2.2.1 v.2.2.2.1 ++ (hsW g A.2.2.2.2.1 A.2.2.2.2.2.2.2 v.2.2.2.2.1))))) (post := sbW g A.2.2.2.2.2.2.1 v.2.2.2.2.2.2.1 ++ (hbW g A.2.2.2.2.2.2.2 v.2.2.2.2.2.2.2)) (w0 := scW g A.2.2.2.2.2.1 v.2.2.2.2.2.1) (w1 := scW g A.2.2.2.2.2.1 r21.2) (as := []) (rest := []) (c_X2_takeCommands k22) 24 7 (mgW A v.1 ++ (bkW g A.2.1 v.2.1 ++ (bkW g A.2.2.1 v.2.2.1 ++ (bkW g A.2.2.2.1 v.2.2.2.1 ++ (hsW g A.2.2.2.2.1 A.2.2.2.2.2.2.2 v.2.2.2.2.1 ++ (scW g A.2.2.2.2.2.1 r21.2 ++ (sbW g A.2.2.2.2.2.2.1 v.2.2.2.2.2.2.1 ++ (hbW g A.2.2.2.2.2.2.2 v.2.2.2.2.2.2.2)))))))) dX3_execute_4 rfl ⟨Nat.le_of_ble_eq_true rfl, Nat.le_of_ble_eq_true rfl⟩ rfl (by first | (simp only [List.append_assoc, List.nil_append, List.append_nil]; done) | rfl) (by first | (simp only [List.append_assoc, List.nil_append, List.append_nil]; done) | rfl) rfl rfl rfl rfl (Nat.le_of_ble_eq_true rfl) ⟨Nat.zero_le _, Nat.zero_le _⟩ ?_
  refine V_istore_n C 8 [(1, .int r21.1), (0, .ref A.1)] dX3_execute_7 rfl (hlt 1 (by decide)) rfl ?_
  refine V_iload_n C 0 9 dX3_execute_8 rfl rfl ?_
  refine V_iconst C (-1 : Int32) 10 dX3_execute_9 rfl rfl ?_
  refine V_icmp_eq C 29 13 dX3_execute_10 rfl rfl (fun e23 => ?_) (fun e23 => ?_)
  · have h := (if_pos e23).symm.trans h
    refine V_aload_n C 1 30 dX3_execute_29 rfl rfl ?_
    refine V_get C (v := .ref A.2.2.1.1) 0 33 fl_X3_16 dX3_execute_30 rfl rfl rfl ?_
    refine V_aload_n C 1 34 dX3_execute_33 rfl rfl ?_
    refine V_get C (v := .ref A.2.1.1) 0 37 fl_X3_10 dX3_execute_34 rfl rfl rfl ?_
    obtain ⟨r24, k25, h⟩ := bd_some h
    refine V_permc (ws2 := bkW g A.2.2.1 v.2.2.1 ++ (bkW g A.2.1 v.2.1 ++ (mgW A v.1 ++ (bkW g A.2.2.2.1 v.2.2.2.1 ++ (hsW g A.2.2.2.2.1 A.2.2.2.2.2.2.2 v.2.2.2.2.1 ++ (scW g A.2.2.2.2.2.1 r21.2 ++ (sbW g A.2.2.2.2.2.2.1 v.2.2.2.2.2.2.1 ++ (hbW g A.2.2.2.2.2.2.2 v.2.2.2.2.2.2.2)))))))) [mgW A v.1, bkW g A.2.1 v.2.1, bkW g A.2.2.1 v.2.2.1, bkW g A.2.2.2.1 v.2.2.2.1, hsW g A.2.2.2.2.1 A.2.2.2.2.2.2.2 v.2.2.2.2.1, scW g A.2.2.2.2.2.1 r21.2, sbW g A.2.2.2.2.2.2.1 v.2.2.2.2.2.2.1, hbW g A.2.2.2.2.2.2.2 v.2.2.2.2.2.2.2] [2, 1, 0, 3, 4, 5, 6, 7] 8 rfl rfl (by decide) rfl ?_
    refine V_callS C hBA ml_X3_276 (pre := []) (post := mgW A v.1 ++ (bkW g A.2.2.2.1 v.2.2.2.1 ++ (hsW g A.2.2.2.2.1 A.2.2.2.2.2.2.2 v.2.2.2.2.1 ++ (scW g A.2.2.2.2.2.1 r21.2 ++ (sbW g A.2.2.2.2.2.2.1 v.2.2.2.2.2.2.1 ++ (hbW g A.2.2.2.2.2.2.2 v.2.2.2.2.2.2.2)))))) (w0 := bkW g A.2.2.1 v.2.2.1 ++ (bkW g A.2.1 v.2.1)) (w1 := bkW g A.2.2.1 r24.2.1 ++ (bkW g A.2.1 r24.2.2)) (as := [.ref A.2.1.1]) (rest := []) (c_X0_copyFrom k25) 0 40 (bkW g A.2.2.1 r24.2.1 ++ (bkW g A.2.1 r24.2.2 ++ (mgW A v.1 ++ (bkW g A.2.2.2.1 v.2.2.2.1 ++ (hsW g A.2.2.2.2.1 A.2.2.2.2.2.2.2 v.2.2.2.2.1 ++ (scW g A.2.2.2.2.2.1 r21.2 ++ (sbW g A.2.2.2.2.2.2.1 v.2.2.2.2.2.2.1 ++ (hbW g A.2.2.2.2.2.2.2 v.2.2.2.2.2.2.2)))))))) dX3_execute_37 rfl ⟨Nat.le_of_ble_eq_true rfl, Nat.le_of_ble_eq_true rfl⟩ rfl (by first | (simp only [List.append_assoc, List.nil_append, List.append_nil]; done) | rfl) (by first | (simp only [List.append_assoc, List.nil_append, List.append_nil]; done) | rfl) rfl rfl rfl rfl (Nat.le_of_ble_eq_true rfl) ⟨Nat.zero_le _, Nat.zero_le _⟩ ?_
    refine V_permc (ws2 := mgW A v.1 ++ (bkW g A.2.1 r24.2.2 ++ (bkW g A.2.2.1 r24.2.1 ++ (bkW g A.2.2.2.1 v.2.2.2.1 ++ (hsW g A.2.2.2.2.1 A.2.2.2.2.2.2.2 v.2.2.2.2.1 ++ (scW g A.2.2.2.2.2.1 r21.2 ++ (sbW g A.2.2.2.2.2.2.1 v.2.2.2.2.2.2.1 ++ (hbW g A.2.2.2.2.2.2.2 v.2.2.2.2.2.2.2)))))))) [bkW g A.2.2.1 r24.2.1, bkW g A.2.1 r24.2.2, mgW A v.1, bkW g A.2.2.2.1 v.2.2.2.1, hsW g A.2.2.2.2.1 A.2.2.2.2.2.2.2 v.2.2.2.2.1, scW g A.2.2.2.2.2.1 r21.2, sbW g A.2.2.2.2.2.2.1 v.2.2.2.2.2.2.1, hbW g A.2.2.2.2.2.2.2 v.2.2.2.2.2.2.2] [2, 1, 0, 3, 4, 5, 6, 7] 8 rfl rfl (by decide) rfl ?_
    refine V_iconst C (0 : Int32) 41 dX3_execute_40 rfl rfl ?_
    refine V_istore_n C 42 [(2, .int (0 : Int32)), (1, .int r21.1), (0, .ref A.1)] dX3_execute_41 rfl (hlt 2 (by decide)) rfl ?_
    refine V_lv [2, 1, 0] rfl ?_
    exact L42 100 _ _ _ h
  · have h := (if_neg e23).symm.trans h
    refine V_aload_n C 1 14 dX3_execute_13 rfl rfl ?_
    refine V_iload_n C 0 15 dX3_execute_14 rfl rfl ?_
    refine V_put C hBA 0 18 (mgW A ((Mg_hasSnapshot v.1), r21.1, (Mg_latestReason v.1), (Mg_latestDetail v.1), (Mg_latestCause v.1)) ++ (bkW g A.2.1 v.2.1 ++ (bkW g A.2.2.1 v.2.2.1 ++ (bkW g A.2.2.2.1 v.2.2.2.1 ++ (hsW g A.2.2.2.2.1 A.2.2.2.2.2.2.2 v.2.2.2.2.1 ++ (scW g A.2.2.2.2.2.1 r21.2 ++ (sbW g A.2.2.2.2.2.2.1 v.2.2.2.2.2.2.1 ++ (hbW g A.2.2.2.2.2.2.2 v.2.2.2.2.2.2.2)))))))) fl_X3_47 fp_X3_7 dX3_execute_15 rfl rfl (Nat.le_of_ble_eq_true rfl) rfl rfl rfl ?_
    obtain rfl := Option.some.inj h
    exact V_throwW C Z tl_X3_256_260_274 dX3_execute_18 dX3_execute_21 dX3_execute_22 dX3_execute_25 dX3_execute_28 ⟨Nat.le_of_ble_eq_true rfl, Nat.le_of_ble_eq_true rfl, Nat.le_refl _, Nat.le_refl _⟩ rfl (Nat.le_refl _) (Nat.le_refl _)
set_option maxHeartbeats 4000000 in
set_option maxRecDepth 100000 in
theorem c_X3_syntaxErrorOffset {l : Launch} {D : va_G} {g : G0} {A : XA} {v : XV} {R : ((Int32 × XV) ⊕ (String × XV))} (hst : l.stackTraces = false) (h : f_X3_syntaxErrorOffset v  = some R) : CtX l D g yX3_syntaxErrorOffset cX3_syntaxErrorOffset 1 (some .int) (rmX 6 90 (rxI g A R)) (xW g A v) [.ref A.1] (rxI g A R) := by
  refine CtX.of (by decide) (Nat.le_of_ble_eq_true rfl) hst ?_
  intro K C Z hBA el eD ekn
  subst el
  subst eD
  have hE := Z.2.2.1
  have hlt : ∀ i, i < 1 → i < kn K := fun i h => by rw [ekn]; exact h
  show V K 0 0 _ [(0, .ref A.1)] [] 0
  unfold f_X3_syntaxErrorOffset at h
  refine V_aload_n C 0 1 dX3_syntaxErrorOffset_0 rfl rfl ?_
  refine V_get C (v := .int (Mg_latestSyntaxError v.1)) 0 4 fl_X3_47 dX3_syntaxErrorOffset_1 rfl rfl rfl ?_
  refine V_iconst C (-1 : Int32) 5 dX3_syntaxErrorOffset_4 rfl rfl ?_
  refine V_icmp_ne C 19 8 dX3_syntaxErrorOffset_5 rfl rfl (fun e1 => ?_) (fun e1 => ?_)
  · have h := (if_neg e1).symm.trans h
    refine V_aload_n C 0 20 dX3_syntaxErrorOffset_19 rfl rfl ?_
    refine V_get C (v := .int (Mg_latestSyntaxError v.1)) 0 23 fl_X3_47 dX3_syntaxErrorOffset_20 rfl rfl rfl ?_
    obtain rfl := Option.some.inj h
    exact V_xretI C Z (ty := .int) rfl (rfl) rfl dX3_syntaxErrorOffset_23 (Nat.le_refl _) (Nat.le_refl _)
  · have h := (if_pos e1).symm.trans h
    obtain rfl := Option.some.inj h
    exact V_nthrowW C Z tl_X3_96_100_310 dX3_syntaxErrorOffset_8 dX3_syntaxErrorOffset_11 dX3_syntaxErrorOffset_12 dX3_syntaxErrorOffset_15 dX3_syntaxErrorOffset_18 ⟨Nat.le_of_ble_eq_true rfl, Nat.le_of_ble_eq_true rfl, Nat.le_refl _, Nat.le_refl _⟩ rfl (Nat.le_refl _) (Nat.le_refl _)
set_option maxHeartbeats 4000000 in
set_option maxRecDepth 100000 in
theorem c_X3_requireRejection {l : Launch} {D : va_G} {g : G0} {A : XA} {v : XV} {R : ((Int32 × XV) ⊕ (String × XV))} (hst : l.stackTraces = false) (h : f_X3_requireRejection v  = some R) : CtX l D g yX3_requireRejection cX3_requireRejection 1 none (rmX 6 90 (rxV g A R)) (xW g A v) [.ref A.1] (rxV g A R) := by
  refine CtX.of (by decide) (Nat.le_of_ble_eq_true rfl) hst ?_
  intro K C Z hBA el eD ekn
  subst el
  subst eD
  have hE := Z.2.2.1
  have hlt : ∀ i, i < 1 → i < kn K := fun i h => by rw [ekn]; exact h
  show V K 0 0 _ [(0, .ref A.1)] [] 0
  unfold f_X3_requireRejection at h
  refine V_aload_n C 0 1 dX3_requireRejection_0 rfl rfl ?_
  refine V_get C (v := .int (Mg_latestReason v.1)) 0 4 fl_X3_51 dX3_requireRejection_1 rfl rfl rfl ?_
  refine V_if_ne C 18 7 dX3_requireRejection_4 rfl rfl (fun e1 => ?_) (fun e1 => ?_)
  · have h := (if_neg e1).symm.trans h
    obtain rfl := Option.some.inj h
    exact V_xretV C Z rfl rfl dX3_requireRejection_18 (Nat.le_refl _) (Nat.le_refl _)
  · have h := (if_pos e1).symm.trans h
    obtain rfl := Option.some.inj h
    exact V_nthrowW C Z tl_X3_96_100_355 dX3_requireRejection_7 dX3_requireRejection_10 dX3_requireRejection_11 dX3_requireRejection_14 dX3_requireRejection_17 ⟨Nat.le_of_ble_eq_true rfl, Nat.le_of_ble_eq_true rfl, Nat.le_refl _, Nat.le_refl _⟩ rfl (Nat.le_refl _) (Nat.le_refl _)
set_option maxHeartbeats 4000000 in
set_option maxRecDepth 100000 in
theorem c_X3_rejectionReason {l : Launch} {D : va_G} {g : G0} {A : XA} {v : XV} {R : ((Int32 × XV) ⊕ (String × XV))} (hst : l.stackTraces = false) (h : f_X3_rejectionReason v  = some R) : CtX l D g yX3_rejectionReason cX3_rejectionReason 1 (some .int) (rmX 7 110 (rxI g A R)) (xW g A v) [.ref A.1] (rxI g A R) := by
  refine CtX.of (by decide) (Nat.le_of_ble_eq_true rfl) hst ?_
  intro K C Z hBA el eD ekn
  subst el
  subst eD
  have hE := Z.2.2.1
  have hlt : ∀ i, i < 1 → i < kn K := fun i h => by rw [ekn]; exact h
  show V K 0 0 _ [(0, .ref A.1)] [] 0
  unfold f_X3_rejectionReason at h
  refine V_aload_n C 0 1 dX3_rejectionReason_0 rfl rfl ?_
  obtain ⟨r1, k2, h⟩ := bd_some h
  rcases r1 with r1 | r1
  · have h := bx_l h
    refine V_callXr C hBA hE ml_X3_312 (pre := []) (post := []) (wc := xW g A v) (as := []) (rest := []) (w1 := xW g A r1.2) (rv := none) (c_X3_requireRejection (R := .inl r1) hst k2) 0 4 (mgW A r1.2.1 ++ (bkW g A.2.1 r1.2.2.1 ++ (bkW g A.2.2.1 r1.2.2.2.1 ++ (bkW g A.2.2.2.1 r1.2.2.2.2.1 ++ (hsW g A.2.2.2.2.1 A.2.2.2.2.2.2.2 r1.2.2.2.2.2.1 ++ (scW g A.2.2.2.2.2.1 r1.2.2.2.2.2.2.1 ++ (sbW g A.2.2.2.2.2.2.1 r1.2.2.2.2.2.2.2.1 ++ (hbW g A.2.2.2.2.2.2.2 r1.2.2.2.2.2.2.2.2)))))))) dX3_rejectionReason_1 rfl ⟨Nat.le_of_ble_eq_true rfl, Nat.le_of_ble_eq_true rfl⟩ rfl (List.append_nil _).symm (List.append_nil _) (xW_fst _ _ _ _) rfl rfl rfl (Nat.le_of_ble_eq_true rfl) ⟨Nat.zero_le _, Nat.zero_le _⟩ ?_
    refine V_aload_n C 0 5 dX3_rejectionReason_4 rfl rfl ?_
    refine V_get C (v := .int (Mg_latestReason r1.2.1)) 0 8 fl_X3_51 dX3_rejectionReason_5 rfl rfl rfl ?_
    obtain rfl := Option.some.inj h
    exact V_xretI C Z (ty := .int) rfl (rfl) rfl dX3_rejectionReason_8 (Nat.le_refl _) (Nat.le_refl _)
  · have h := bx_r h
    obtain rfl := Option.some.inj h
    refine V_callXt C hBA hE ml_X3_312 (pre := []) (post := []) (wc := xW g A v) (as := []) (rest := []) (w1 := xW g A r1.2) (E := r1.1) (c_X3_requireRejection (R := .inr r1) hst k2) 0 (xW g A r1.2) dX3_rejectionReason_1 ⟨Nat.le_of_ble_eq_true rfl, Nat.le_of_ble_eq_true rfl⟩ rfl (List.append_nil _).symm (List.append_nil _) (xW_fst _ _ _ _) rfl rfl (Nat.le_of_ble_eq_true rfl) ⟨Nat.le_refl _, Nat.le_refl _⟩ ?_
    exact VX_out C Z rfl (Nat.le_refl _) (Nat.le_refl _)
set_option maxHeartbeats 4000000 in
set_option maxRecDepth 100000 in
theorem c_X3_rejectionDetail {l : Launch} {D : va_G} {g : G0} {A : XA} {v : XV} {R : ((Int32 × XV) ⊕ (String × XV))} (hst : l.stackTraces = false) (h : f_X3_rejectionDetail v  = some R) : CtX l D g yX3_rejectionDetail cX3_rejectionDetail 1 (some .int) (rmX 7 110 (rxI g A R)) (xW g A v) [.ref A.1] (rxI g A R) := by
  refine CtX.of (by decide) (Nat.le_of_ble_eq_true rfl) hst ?_
  intro K C Z hBA el eD ekn
  subst el
  subst eD
  have hE := Z.2.2.1
  have hlt : ∀ i, i < 1 → i < kn K := fun i h => by rw [ekn]; exact h
  show V K 0 0 _ [(0, .ref A.1)] [] 0
  unfold f_X3_rejectionDetail at h
  refine V_aload_n C 0 1 dX3_rejectionDetail_0 rfl rfl ?_
  obtain ⟨r1, k2, h⟩ := bd_some h
  rcases r1 with r1 | r1
  · have h := bx_l h
    refine V_callXr C hBA hE ml_X3_312 (pre := []) (post := []) (wc := xW g A v) (as := []) (rest := []) (w1 := xW g A r1.2) (rv := none) (c_X3_requireRejection (R := .inl r1) hst k2) 0 4 (mgW A r1.2.1 ++ (bkW g A.2.1 r1.2.2.1 ++ (bkW g A.2.2.1 r1.2.2.2.1 ++ (bkW g A.2.2.2.1 r1.2.2.2.2.1 ++ (hsW g A.2.2.2.2.1 A.2.2.2.2.2.2.2 r1.2.2.2.2.2.1 ++ (scW g A.2.2.2.2.2.1 r1.2.2.2.2.2.2.1 ++ (sbW g A.2.2.2.2.2.2.1 r1.2.2.2.2.2.2.2.1 ++ (hbW g A.2.2.2.2.2.2.2 r1.2.2.2.2.2.2.2.2)))))))) dX3_rejectionDetail_1 rfl ⟨Nat.le_of_ble_eq_true rfl, Nat.le_of_ble_eq_true rfl⟩ rfl (List.append_nil _).symm (List.append_nil _) (xW_fst _ _ _ _) rfl rfl rfl (Nat.le_of_ble_eq_true rfl) ⟨Nat.zero_le _, Nat.zero_le _⟩ ?_
    refine V_aload_n C 0 5 dX3_rejectionDetail_4 rfl rfl ?_
    refine V_get C (v := .int (Mg_latestDetail r1.2.1)) 0 8 fl_X3_54 dX3_rejectionDetail_5 rfl rfl rfl ?_
    obtain rfl := Option.some.inj h
    exact V_xretI C Z (ty := .int) rfl (rfl) rfl dX3_rejectionDetail_8 (Nat.le_refl _) (Nat.le_refl _)
  · have h := bx_r h
    obtain rfl := Option.some.inj h
    refine V_callXt C hBA hE ml_X3_312 (pre := []) (post := []) (wc := xW g A v) (as := []) (rest := []) (w1 := xW g A r1.2) (E := r1.1) (c_X3_requireRejection (R := .inr r1) hst k2) 0 (xW g A r1.2) dX3_rejectionDetail_1 ⟨Nat.le_of_ble_eq_true rfl, Nat.le_of_ble_eq_true rfl⟩ rfl (List.append_nil _).symm (List.append_nil _) (xW_fst _ _ _ _) rfl rfl (Nat.le_of_ble_eq_true rfl) ⟨Nat.le_refl _, Nat.le_refl _⟩ ?_
    exact VX_out C Z rfl (Nat.le_refl _) (Nat.le_refl _)
