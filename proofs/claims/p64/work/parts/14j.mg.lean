set_option maxHeartbeats 4000000 in
set_option maxRecDepth 100000 in
theorem c_X3_requireRejection {l : Launch} {D : va_G} {g : G0} {A : XA} {v : XV} {R : ((Int32 × XV) ⊕ (String × XV))} (hst : l.stackTraces = false) (h : f_X3_requireRejection v  = some R) : CtX l D g yX3_requireRejection cX3_requireRejection 1 none (rmX 6 90 (rxV g A R)) (xW g A v) [.ref A.1] (rxV g A R) := by
  refine CtX.of (by decide) (Nat.le_of_ble_eq_true rfl) hst ?_
  intro K C Z hBA el eD ekn
  subst el
  subst eD
  have hE := Z.2.2.1
  have hlt : ∀ i, i < 1 → i < kn K := fun i h => by rw [ekn]; exact h
  show V K 0 0 _ [(0, .ref A.1)] [] 0
  unfold f_X3_requireRejection at h
  refine V_aload_n C 0 1 dX3_requireRejection_0 rfl rfl ?_
  refine V_get C (v := .int (Mg_latestReason v.1)) 0 4 fl_X3_51 dX3_requireRejection_1 rfl rfl rfl ?_
  refine V_if_ne C 18 7 dX3_requireRejection_4 rfl rfl (fun e1 => ?_) (fun e1 => ?_)
  · have h := (if_neg e1).symm.trans h
    obtain rfl := Option.some.inj h
    exact V_xretV C Z rfl rfl dX3_requireRejection_18 (Nat.le_refl _) (Nat.le_refl _)
  · have h := (if_pos e1).symm.trans h
    obtain rfl := Option.some.inj h
    exact V_nthrowW C Z tl_X3_96_100_355 dX3_requireRejection_7 dX3_requireRejection_10 dX3_requireRejection_11 dX3_requireRejection_14 dX3_requireRejection_17 ⟨Nat.le_of_ble_eq_true rfl, Nat.le_of_ble_eq_true rfl, Nat.le_refl _, Nat.le_refl _⟩ rfl (Nat.le_refl _) (Nat.le_refl _)
set_option maxHeartbeats 4000000 in
set_option maxRecDepth 100000 in
theorem c_X3_rejectionReason {l : Launch} {D : va_G} {g : G0} {A : XA} {v : XV} {R : ((Int32 × XV) ⊕ (String × XV))} (hst : l.stackTraces = false) (h : f_X3_rejectionReason v  = some R) : CtX l D g yX3_rejectionReason cX3_rejectionReason 1 (some .int) (rmX 7 110 (rxI g A R)) (xW g A v) [.ref A.1] (rxI g A R) := by
  refine CtX.of (by decide) (Nat.le_of_ble_eq_true rfl) hst ?_
  intro K C Z hBA el eD ekn
  subst el
  subst eD
  have hE := Z.2.2.1
  have hlt : ∀ i, i < 1 → i < kn K := fun i h => by rw [ekn]; exact h
  show V K 0 0 _ [(0, .ref A.1)] [] 0
  unfold f_X3_rejectionReason at h
  refine V_aload_n C 0 1 dX3_rejectionReason_0 rfl rfl ?_
  obtain ⟨r1, k2, h⟩ := bd_some h
  rcases r1 with r1 | r1
  · have h := bx_l h
    refine V_callXr C hBA hE ml_X3_312 (pre := []) (post := []) (wc := xW g A v) (as := []) (rest := []) (w1 := xW g A r1.2) (rv := none) (c_X3_requireRejection (R := .inl r1) hst k2) 0 4 (mgW A r1.2.1 ++ (bkW g A.2.1 r1.2.2.1 ++ (bkW g A.2.2.1 r1.2.2.2.1 ++ (bkW g A.2.2.2.1 r1.2.2.2.2.1 ++ (hsW g A.2.2.2.2.1 A.2.2.2.2.2.2.2 r1.2.2.2.2.2.1 ++ (scW g A.2.2.2.2.2.1 r1.2.2.2.2.2.2.1 ++ (sbW g A.2.2.2.2.2.2.1 r1.2.2.2.2.2.2.2.1 ++ (hbW g A.2.2.2.2.2.2.2 r1.2.2.2.2.2.2.2.2)))))))) dX3_rejectionReason_1 rfl ⟨Nat.le_of_ble_eq_true rfl, Nat.le_of_ble_eq_true rfl⟩ rfl (List.append_nil _).symm (List.append_nil _) (xW_fst _ _ _ _) rfl rfl rfl (Nat.le_of_ble_eq_true rfl) ⟨Nat.zero_le _, Nat.zero_le _⟩ ?_
    refine V_aload_n C 0 5 dX3_rejectionReason_4 rfl rfl ?_
    refine V_get C (v := .int (Mg_latestReason r1.2.1)) 0 8 fl_X3_51 dX3_rejectionReason_5 rfl rfl rfl ?_
    obtain rfl := Option.some.inj h
    exact V_xretI C Z (ty := .int) rfl (rfl) rfl dX3_rejectionReason_8 (Nat.le_refl _) (Nat.le_refl _)
  · have h := bx_r h
    obtain rfl := Option.some.inj h
    refine V_callXt C hBA hE ml_X3_312 (pre := []) (post := []) (wc := xW g A v) (as := []) (rest := []) (w1 := xW g A r1.2) (E := r1.1) (c_X3_requireRejection (R := .inr r1) hst k2) 0 (xW g A r1.2) dX3_rejectionReason_1 ⟨Nat.le_of_ble_eq_true rfl, Nat.le_of_ble_eq_true rfl⟩ rfl (List.append_nil _).symm (List.append_nil _) (xW_fst _ _ _ _) rfl rfl (Nat.le_of_ble_eq_true rfl) ⟨Nat.le_refl _, Nat.le_refl _⟩ ?_
    exact VX_out C Z rfl (Nat.le_refl _) (Nat.le_refl _)
