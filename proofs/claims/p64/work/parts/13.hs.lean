set_option maxHeartbeats 4000000 in
set_option maxRecDepth 100000 in
theorem c_X1_remember {l : Launch} {D : va_G} {g : G0} {A : HsA} {hA : (Nat → BkA)} {A2 : BkA} {v : (HsV × (Nat → BkV) × BkV)} {R : (Int32 × (HsV × (Nat → BkV) × BkV))} (h : f_X1_remember v  = some R) : CtS l D g yX1_remember cX1_remember 2 none (rmF 2 51) (hsW g A hA v.1 ++ (hbW g hA v.2.1 ++ (bkW g A2 v.2.2))) [.ref A.1, .ref A2.1] none (hsW g A hA R.2.1 ++ (hbW g hA R.2.2.1 ++ (bkW g A2 R.2.2.2))) := by
  refine CtS.of (by decide) (Nat.le_of_ble_eq_true rfl) ?_
  intro K C hBA el eD ekn retI retV
  subst el
  subst eD
  have hlt : ∀ i, i < 2 → i < kn K := fun i h => by rw [ekn]; exact h
  have B57 : ∀ (v : (HsV × (Nat → BkV) × BkV)), f_X1_remember_B57 v = some R → V K 0 0 (hsW g A hA v.1 ++ (hbW g hA v.2.1 ++ (bkW g A2 v.2.2))) [(0, .ref A.1), (1, .ref A2.1)] [] 57 := by
    intro v h
    rw [f_X1_remember_B57] at h
    obtain rfl := Option.some.inj h
    exact retV _ _ rfl rfl dX1_remember_57
  have B35 : ∀ (s0 : Int32) (v : (HsV × (Nat → BkV) × BkV)), f_X1_remember_B35 s0 v = some R → V K 0 0 (hsW g A hA v.1 ++ (hbW g hA v.2.1 ++ (bkW g A2 v.2.2))) [(0, .ref A.1), (1, .ref A2.1)] [.int s0, .ref A.1] 35 := by
    intro s0 v h
    rw [f_X1_remember_B35] at h
    refine V_put C hBA 0 38 (hsW g A hA ((Hs_count v.1), s0) ++ (hbW g hA v.2.1 ++ (bkW g A2 v.2.2))) fl_X1_21 fp_X1_2 dX1_remember_35 rfl rfl (Nat.le_of_ble_eq_true rfl) rfl rfl rfl ?_
    refine V_aload_n C 0 39 dX1_remember_38 rfl rfl ?_
    refine V_get C (v := .int (Hs_count v.1)) 0 42 fl_X1_17 dX1_remember_39 rfl rfl rfl ?_
    refine V_bipush C (8 : Int32) 44 dX1_remember_42 rfl rfl ?_
    refine V_icmp_ge C 57 47 dX1_remember_44 rfl rfl (fun e1 => ?_) (fun e1 => ?_)
    · have h := (if_pos e1).symm.trans h
      refine V_lv [0, 1] rfl ?_
      exact B57 _ h
    · have h := (if_neg e1).symm.trans h
      refine V_aload_n C 0 48 dX1_remember_47 rfl rfl ?_
      refine V_dup C 49 dX1_remember_48 rfl rfl ?_
      refine V_get C (v := .int (Hs_count v.1)) 0 52 fl_X1_17 dX1_remember_49 rfl rfl rfl ?_
      refine V_iconst C (1 : Int32) 53 dX1_remember_52 rfl rfl ?_
      refine V_iadd C 54 dX1_remember_53 rfl ?_
      refine V_put C hBA 0 57 (hsW g A hA (((Hs_count v.1) + (1 : Int32)), s0) ++ (hbW g hA v.2.1 ++ (bkW g A2 v.2.2))) fl_X1_17 fp_X1_1 dX1_remember_54 rfl rfl (Nat.le_of_ble_eq_true rfl) rfl rfl rfl ?_
      refine V_lv [0, 1] rfl ?_
      exact B57 _ h
  show V K 0 0 _ [(0, .ref A.1), (1, .ref A2.1)] [] 0
  unfold f_X1_remember at h
  refine V_aload_n C 0 1 dX1_remember_0 rfl rfl ?_
  refine V_get C (v := .ref A.2) 0 4 fl_X1_11 dX1_remember_1 rfl rfl rfl ?_
  refine V_aload_n C 0 5 dX1_remember_4 rfl rfl ?_
  refine V_get C (v := .int (Hs_next v.1)) 0 8 fl_X1_21 dX1_remember_5 rfl rfl rfl ?_
  obtain ⟨g2, h⟩ := gd_some h
  refine V_aald C (f := fun j => some (hA j).1) (n := 8) (v := .ref ((hA (cl (Hs_next v.1))).1)) 1 9 dX1_remember_8 rfl rfl g2 rfl ?_
  refine V_aload_n C 1 10 dX1_remember_9 rfl rfl ?_
  refine V_cpTo C hBA (pre := hsW g A hA v.1) (hA := hA) (hb := v.2.1) (As := A2) (v := v.2.2) (j := cl (Hs_next v.1)) (rest := []) ml_X1_25 (inb_lt g2) 13 dX1_remember_10 rfl ⟨Nat.le_of_ble_eq_true rfl, Nat.le_of_ble_eq_true rfl⟩ ?_
  refine V_aload_n C 0 14 dX1_remember_13 rfl rfl ?_
  refine V_aload_n C 0 15 dX1_remember_14 rfl rfl ?_
  refine V_get C (v := .int (Hs_next v.1)) 0 18 fl_X1_21 dX1_remember_15 rfl rfl rfl ?_
  refine V_iconst C (1 : Int32) 19 dX1_remember_18 rfl rfl ?_
  refine V_iadd C 20 dX1_remember_19 rfl ?_
  refine V_bipush C (8 : Int32) 22 dX1_remember_20 rfl rfl ?_
  refine V_icmp_ge C 34 25 dX1_remember_22 rfl rfl (fun e5 => ?_) (fun e5 => ?_)
  · have h := (if_pos e5).symm.trans h
    refine V_iconst C (0 : Int32) 35 dX1_remember_34 rfl rfl ?_
    refine V_lv [0, 1] rfl ?_
    exact B35 _ _ h
  · have h := (if_neg e5).symm.trans h
    refine V_aload_n C 0 26 dX1_remember_25 rfl rfl ?_
    refine V_get C (v := .int (Hs_next v.1)) 0 29 fl_X1_21 dX1_remember_26 rfl rfl rfl ?_
    refine V_iconst C (1 : Int32) 30 dX1_remember_29 rfl rfl ?_
    refine V_iadd C 31 dX1_remember_30 rfl ?_
    refine V_goto C 35 dX1_remember_31 rfl ?_
    refine V_lv [0, 1] rfl ?_
    exact B35 _ _ h
