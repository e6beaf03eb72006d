/-! ===== wrappers ===== -/
theorem w_addRibbon {l : Launch} {D : va_G} {g : G0} {A : XA} {x : XV} {a1 a2 : Int32} {o od : Nat} {f : Nat → Int64} {fd : Nat → UInt64} {R : (Int32 × XV) ⊕ (String × XV)} (hst : l.stackTraces = false) (h : f_X3_addRibbon x a1 a2 = some R) (hc : codesOk [IOOBE, IAE, UOE] R) : CtH l D g yL_addRibbon cL_addRibbon 5 (some .int) [(0, 10, 13, 13), (0, 10, 17, 15), (0, 10, 21, 17)] (rmN 10 300 1 6) (oW g A o od f fd x) [.ref A.1, .int a1, .int a2, .ref o] (wI g A o od fd [IOOBE, IAE, UOE] R) 1 6 := by
  refine CtH.of (by decide) (Nat.le_of_ble_eq_true rfl) ?_
  intro K C Z htab hN hBA el eD ekn
  subst el
  subst eD
  have hlt : ∀ i, i < 5 → i < kn K := fun i h => by rw [ekn]; exact h
  have hE := Z.1.2.2.2.2.2
  show V K 0 0 (oW g A o od f fd x) [(0, .ref A.1), (1, .int a1), (2, .int a2), (3, .ref o)] [] 0
  refine V_aload_n C 3 1 dL_addRibbon_0 rfl rfl ?_
  refine V_iconst C (0 : Int32) 2 dL_addRibbon_1 rfl rfl ?_
  refine V_aload_n C 0 3 dL_addRibbon_2 rfl rfl ?_
  refine V_iload_n C 1 4 dL_addRibbon_3 rfl rfl ?_
  refine V_iload_n C 2 5 dL_addRibbon_4 rfl rfl ?_
  rcases R with ⟨r, x1⟩ | ⟨E, x1⟩
  · refine V_callXr C hBA hE ml_L_7 (pre := [(o, aL g 1 f), (od, aD g 1 fd)]) (post := []) (wc := xW g A x) (w1 := xW g A x1) (rv := some (.int r)) (as := [.int a1, .int a2]) (rest := [.int (0 : Int32), .ref o]) (c_X3_addRibbon (R := .inl (r, x1)) hst h) 2 8 (oW g A o od f fd x1) dL_addRibbon_5 rfl ⟨Nat.le_of_ble_eq_true rfl, Nat.le_of_ble_eq_true rfl⟩ rfl (by rw [List.append_nil]) (by rw [List.append_nil]) (xW_fst _ _ _ _) rfl rfl rfl (Nat.le_of_ble_eq_true rfl) ⟨Nat.zero_le _, Nat.zero_le _⟩ ?_
    refine V_i2l C 9 dL_addRibbon_8 rfl ?_
    refine V_last C hBA (f := f) (n := 1) 0 10 _ dL_addRibbon_9 rfl rfl (by decide) rfl ?_
    refine V_goto C 25 dL_addRibbon_10 rfl ?_
    refine V_iconst C (0 : Int32) 26 dL_addRibbon_25 rfl rfl ?_
    exact V_nretI C Z (ty := .int) rfl rfl ⟨_, rfl, rfl, upL_0⟩ dL_addRibbon_26 (Nat.zero_le _) (Nat.zero_le _)
  · obtain ⟨j, hj⟩ := hc _ rfl
    rcases j with _ | _ | _ | j
    · cases hj
      refine V_callXt C hBA hE ml_L_7 (pre := [(o, aL g 1 f), (od, aD g 1 fd)]) (post := []) (wc := xW g A x) (w1 := xW g A x1) (E := IOOBE) (as := [.int a1, .int a2]) (rest := [.int (0 : Int32), .ref o]) (c_X3_addRibbon (R := .inr (IOOBE, x1)) hst h) 2 (oW g A o od f fd x1) dL_addRibbon_5 ⟨Nat.le_of_ble_eq_true rfl, Nat.le_of_ble_eq_true rfl⟩ rfl (by rw [List.append_nil]) (by rw [List.append_nil]) (xW_fst _ _ _ _) rfl rfl (Nat.le_of_ble_eq_true rfl) ⟨Nat.le_refl _, Nat.le_refl _⟩ ?_
      refine VX_catch C htab hN Z.1.2.2.1 (nm := IOOBE) [] (0, 10, 13, 13) [(0, 10, 17, 15), (0, 10, 21, 17)] rfl (fun z hz => absurd hz List.not_mem_nil) ⟨by decide, by decide⟩ (by decide) q800 cs_IOOBE (fun q => ?_)
      refine V_astore C 15 ((4, .ref q) :: [(0, .ref A.1), (1, .int a1), (2, .int a2), (3, .ref o)]) dL_addRibbon_13 rfl (hlt 4 (by decide)) rfl ?_
      refine V_iconst C (1 : Int32) 16 dL_addRibbon_15 rfl rfl ?_
      exact V_nretI C Z (ty := .int) rfl rfl ⟨f, 0, rfl, rfl, rfl⟩ dL_addRibbon_16 (Nat.le_refl _) (Nat.le_refl _)
    · cases hj
      refine V_callXt C hBA hE ml_L_7 (pre := [(o, aL g 1 f), (od, aD g 1 fd)]) (post := []) (wc := xW g A x) (w1 := xW g A x1) (E := IAE) (as := [.int a1, .int a2]) (rest := [.int (0 : Int32), .ref o]) (c_X3_addRibbon (R := .inr (IAE, x1)) hst h) 2 (oW g A o od f fd x1) dL_addRibbon_5 ⟨Nat.le_of_ble_eq_true rfl, Nat.le_of_ble_eq_true rfl⟩ rfl (by rw [List.append_nil]) (by rw [List.append_nil]) (xW_fst _ _ _ _) rfl rfl (Nat.le_of_ble_eq_true rfl) ⟨Nat.le_refl _, Nat.le_refl _⟩ ?_
      refine VX_catch C htab hN Z.1.2.2.1 (nm := IAE) [(0, 10, 13, 13)] (0, 10, 17, 15) [(0, 10, 21, 17)] rfl (List.forall_mem_cons.mpr ⟨⟨by decide, _, q800, List.mem_of_getElem? (i := 0) rfl⟩, fun z hz => absurd hz List.not_mem_nil⟩) ⟨by decide, by decide⟩ (by decide) q803 cs_IAE (fun q => ?_)
      refine V_astore C 19 ((4, .ref q) :: [(0, .ref A.1), (1, .int a1), (2, .int a2), (3, .ref o)]) dL_addRibbon_17 rfl (hlt 4 (by decide)) rfl ?_
      refine V_iconst C (2 : Int32) 20 dL_addRibbon_19 rfl rfl ?_
      exact V_nretI C Z (ty := .int) rfl rfl ⟨f, 1, rfl, rfl, rfl⟩ dL_addRibbon_20 (Nat.le_refl _) (Nat.le_refl _)
    · cases hj
      refine V_callXt C hBA hE ml_L_7 (pre := [(o, aL g 1 f), (od, aD g 1 fd)]) (post := []) (wc := xW g A x) (w1 := xW g A x1) (E := UOE) (as := [.int a1, .int a2]) (rest := [.int (0 : Int32), .ref o]) (c_X3_addRibbon (R := .inr (UOE, x1)) hst h) 2 (oW g A o od f fd x1) dL_addRibbon_5 ⟨Nat.le_of_ble_eq_true rfl, Nat.le_of_ble_eq_true rfl⟩ rfl (by rw [List.append_nil]) (by rw [List.append_nil]) (xW_fst _ _ _ _) rfl rfl (Nat.le_of_ble_eq_true rfl) ⟨Nat.le_refl _, Nat.le_refl _⟩ ?_
      refine VX_catch C htab hN Z.1.2.2.1 (nm := UOE) [(0, 10, 13, 13), (0, 10, 17, 15)] (0, 10, 21, 17) [] rfl (List.forall_mem_cons.mpr ⟨⟨by decide, _, q800, List.mem_of_getElem? (i := 1) rfl⟩, List.forall_mem_cons.mpr ⟨⟨by decide, _, q803, List.mem_of_getElem? (i := 2) rfl⟩, fun z hz => absurd hz List.not_mem_nil⟩⟩) ⟨by decide, by decide⟩ (by decide) q804 cs_UOE (fun q => ?_)
      refine V_astore C 23 ((4, .ref q) :: [(0, .ref A.1), (1, .int a1), (2, .int a2), (3, .ref o)]) dL_addRibbon_21 rfl (hlt 4 (by decide)) rfl ?_
      refine V_iconst C (3 : Int32) 24 dL_addRibbon_23 rfl rfl ?_
      exact V_nretI C Z (ty := .int) rfl rfl ⟨f, 2, rfl, rfl, rfl⟩ dL_addRibbon_24 (Nat.le_refl _) (Nat.le_refl _)
    · exact absurd hj (by simp)
theorem w_isRibbon {l : Launch} {D : va_G} {g : G0} {A : XA} {x : XV} {a1 : Int32} {o od : Nat} {f : Nat → Int64} {fd : Nat → UInt64} {R : (Int32 × XV) ⊕ (String × XV)} (hst : l.stackTraces = false) (h : f_X3_isRibbon x a1 = some R) (hc : codesOk [IOOBE] R) : CtH l D g yL_isRibbon cL_isRibbon 4 (some .int) [(0, 16, 19, 13)] (rmN 10 300 1 6) (oW g A o od f fd x) [.ref A.1, .int a1, .ref o] (wB g A o od fd [IOOBE] R) 1 6 := by
  refine CtH.of (by decide) (Nat.le_of_ble_eq_true rfl) ?_
  intro K C Z htab hN hBA el eD ekn
  subst el
  subst eD
  have hlt : ∀ i, i < 4 → i < kn K := fun i h => by rw [ekn]; exact h
  have hE := Z.1.2.2.2.2.2
  show V K 0 0 (oW g A o od f fd x) [(0, .ref A.1), (1, .int a1), (2, .ref o)] [] 0
  refine V_aload_n C 2 1 dL_isRibbon_0 rfl rfl ?_
  refine V_iconst C (0 : Int32) 2 dL_isRibbon_1 rfl rfl ?_
  refine V_aload_n C 0 3 dL_isRibbon_2 rfl rfl ?_
  refine V_iload_n C 1 4 dL_isRibbon_3 rfl rfl ?_
  rcases R with ⟨r, x1⟩ | ⟨E, x1⟩
  · refine V_callXr C hBA hE ml_L_32 (pre := [(o, aL g 1 f), (od, aD g 1 fd)]) (post := []) (wc := xW g A x) (w1 := xW g A x1) (rv := some (.int r)) (as := [.int a1]) (rest := [.int (0 : Int32), .ref o]) (c_X3_isRibbon (R := .inl (r, x1)) hst h) 2 7 (oW g A o od f fd x1) dL_isRibbon_4 rfl ⟨Nat.le_of_ble_eq_true rfl, Nat.le_of_ble_eq_true rfl⟩ rfl (by rw [List.append_nil]) (by rw [List.append_nil]) (xW_fst _ _ _ _) rfl rfl rfl (Nat.le_of_ble_eq_true rfl) ⟨Nat.zero_le _, Nat.zero_le _⟩ ?_
    refine V_if_eq C 14 10 dL_isRibbon_7 rfl rfl (fun e => ?_) (fun e => ?_)
    · refine V_lconst C (0 : Int64) 15 dL_isRibbon_14 rfl rfl ?_
      refine V_last C hBA (f := f) (n := 1) 0 16 _ dL_isRibbon_15 rfl rfl (by decide) rfl ?_
      refine V_goto C 22 dL_isRibbon_16 rfl ?_
      refine V_iconst C (0 : Int32) 23 dL_isRibbon_22 rfl rfl ?_
      exact V_nretI C Z (ty := .int) rfl rfl ⟨_, rfl, rfl, upL_0.trans (if_pos e).symm⟩ dL_isRibbon_23 (Nat.zero_le _) (Nat.zero_le _)
    · refine V_lconst C (1 : Int64) 11 dL_isRibbon_10 rfl rfl ?_
      refine V_goto C 15 dL_isRibbon_11 rfl ?_
      refine V_last C hBA (f := f) (n := 1) 0 16 _ dL_isRibbon_15 rfl rfl (by decide) rfl ?_
      refine V_goto C 22 dL_isRibbon_16 rfl ?_
      refine V_iconst C (0 : Int32) 23 dL_isRibbon_22 rfl rfl ?_
      exact V_nretI C Z (ty := .int) rfl rfl ⟨_, rfl, rfl, upL_0.trans (if_neg e).symm⟩ dL_isRibbon_23 (Nat.zero_le _) (Nat.zero_le _)
  · obtain ⟨j, hj⟩ := hc _ rfl
    rcases j with _ | j
    · cases hj
      refine V_callXt C hBA hE ml_L_32 (pre := [(o, aL g 1 f), (od, aD g 1 fd)]) (post := []) (wc := xW g A x) (w1 := xW g A x1) (E := IOOBE) (as := [.int a1]) (rest := [.int (0 : Int32), .ref o]) (c_X3_isRibbon (R := .inr (IOOBE, x1)) hst h) 2 (oW g A o od f fd x1) dL_isRibbon_4 ⟨Nat.le_of_ble_eq_true rfl, Nat.le_of_ble_eq_true rfl⟩ rfl (by rw [List.append_nil]) (by rw [List.append_nil]) (xW_fst _ _ _ _) rfl rfl (Nat.le_of_ble_eq_true rfl) ⟨Nat.le_refl _, Nat.le_refl _⟩ ?_
      refine VX_catch C htab hN Z.1.2.2.1 (nm := IOOBE) [] (0, 16, 19, 13) [] rfl (fun z hz => absurd hz List.not_mem_nil) ⟨by decide, by decide⟩ (by decide) q800 cs_IOOBE (fun q => ?_)
      refine V_astore_n C 20 ((3, .ref q) :: [(0, .ref A.1), (1, .int a1), (2, .ref o)]) dL_isRibbon_19 rfl (hlt 3 (by decide)) rfl ?_
      refine V_iconst C (1 : Int32) 21 dL_isRibbon_20 rfl rfl ?_
      exact V_nretI C Z (ty := .int) rfl rfl ⟨f, 0, rfl, rfl, rfl⟩ dL_isRibbon_21 (Nat.le_refl _) (Nat.le_refl _)
    · exact absurd hj (by simp)
theorem w_execute {l : Launch} {D : va_G} {g : G0} {A : XA} {x : XV} {o od : Nat} {f : Nat → Int64} {fd : Nat → UInt64} {R : (Int32 × XV) ⊕ (String × XV)} (hst : l.stackTraces = false) (h : f_X3_execute x  = some R) (hc : codesOk [IAE, ISE, UOE] R) : CtH l D g yL_execute cL_execute 3 (some .int) [(0, 8, 11, 15), (0, 8, 14, 142), (0, 8, 17, 17)] (rmN 10 300 1 6) (oW g A o od f fd x) [.ref A.1, .ref o] (wI g A o od fd [IAE, ISE, UOE] R) 1 6 := by
  refine CtH.of (by decide) (Nat.le_of_ble_eq_true rfl) ?_
  intro K C Z htab hN hBA el eD ekn
  subst el
  subst eD
  have hlt : ∀ i, i < 3 → i < kn K := fun i h => by rw [ekn]; exact h
  have hE := Z.1.2.2.2.2.2
  show V K 0 0 (oW g A o od f fd x) [(0, .ref A.1), (1, .ref o)] [] 0
  refine V_aload_n C 1 1 dL_execute_0 rfl rfl ?_
  refine V_iconst C (0 : Int32) 2 dL_execute_1 rfl rfl ?_
  refine V_aload_n C 0 3 dL_execute_2 rfl rfl ?_
  rcases R with ⟨r, x1⟩ | ⟨E, x1⟩
  · refine V_callXr C hBA hE ml_L_144 (pre := [(o, aL g 1 f), (od, aD g 1 fd)]) (post := []) (wc := xW g A x) (w1 := xW g A x1) (rv := some (.int r)) (as := []) (rest := [.int (0 : Int32), .ref o]) (c_X3_execute (R := .inl (r, x1)) hst h) 2 6 (oW g A o od f fd x1) dL_execute_3 rfl ⟨Nat.le_of_ble_eq_true rfl, Nat.le_of_ble_eq_true rfl⟩ rfl (by rw [List.append_nil]) (by rw [List.append_nil]) (xW_fst _ _ _ _) rfl rfl rfl (Nat.le_of_ble_eq_true rfl) ⟨Nat.zero_le _, Nat.zero_le _⟩ ?_
    refine V_i2l C 7 dL_execute_6 rfl ?_
    refine V_last C hBA (f := f) (n := 1) 0 8 _ dL_execute_7 rfl rfl (by decide) rfl ?_
    refine V_goto C 20 dL_execute_8 rfl ?_
    refine V_iconst C (0 : Int32) 21 dL_execute_20 rfl rfl ?_
    exact V_nretI C Z (ty := .int) rfl rfl ⟨_, rfl, rfl, upL_0⟩ dL_execute_21 (Nat.zero_le _) (Nat.zero_le _)
  · obtain ⟨j, hj⟩ := hc _ rfl
    rcases j with _ | _ | _ | j
    · cases hj
      refine V_callXt C hBA hE ml_L_144 (pre := [(o, aL g 1 f), (od, aD g 1 fd)]) (post := []) (wc := xW g A x) (w1 := xW g A x1) (E := IAE) (as := []) (rest := [.int (0 : Int32), .ref o]) (c_X3_execute (R := .inr (IAE, x1)) hst h) 2 (oW g A o od f fd x1) dL_execute_3 ⟨Nat.le_of_ble_eq_true rfl, Nat.le_of_ble_eq_true rfl⟩ rfl (by rw [List.append_nil]) (by rw [List.append_nil]) (xW_fst _ _ _ _) rfl rfl (Nat.le_of_ble_eq_true rfl) ⟨Nat.le_refl _, Nat.le_refl _⟩ ?_
      refine VX_catch C htab hN Z.1.2.2.1 (nm := IAE) [] (0, 8, 11, 15) [(0, 8, 14, 142), (0, 8, 17, 17)] rfl (fun z hz => absurd hz List.not_mem_nil) ⟨by decide, by decide⟩ (by decide) q803 cs_IAE (fun q => ?_)
      refine V_astore_n C 12 ((2, .ref q) :: [(0, .ref A.1), (1, .ref o)]) dL_execute_11 rfl (hlt 2 (by decide)) rfl ?_
      refine V_iconst C (1 : Int32) 13 dL_execute_12 rfl rfl ?_
      exact V_nretI C Z (ty := .int) rfl rfl ⟨f, 0, rfl, rfl, rfl⟩ dL_execute_13 (Nat.le_refl _) (Nat.le_refl _)
    · cases hj
      refine V_callXt C hBA hE ml_L_144 (pre := [(o, aL g 1 f), (od, aD g 1 fd)]) (post := []) (wc := xW g A x) (w1 := xW g A x1) (E := ISE) (as := []) (rest := [.int (0 : Int32), .ref o]) (c_X3_execute (R := .inr (ISE, x1)) hst h) 2 (oW g A o od f fd x1) dL_execute_3 ⟨Nat.le_of_ble_eq_true rfl, Nat.le_of_ble_eq_true rfl⟩ rfl (by rw [List.append_nil]) (by rw [List.append_nil]) (xW_fst _ _ _ _) rfl rfl (Nat.le_of_ble_eq_true rfl) ⟨Nat.le_refl _, Nat.le_refl _⟩ ?_
      refine VX_catch C htab hN Z.1.2.2.1 (nm := ISE) [(0, 8, 11, 15)] (0, 8, 14, 142) [(0, 8, 17, 17)] rfl (List.forall_mem_cons.mpr ⟨⟨by decide, _, q803, List.mem_of_getElem? (i := 4) rfl⟩, fun z hz => absurd hz List.not_mem_nil⟩) ⟨by decide, by decide⟩ (by decide) q1357 cs_ISE (fun q => ?_)
      refine V_astore_n C 15 ((2, .ref q) :: [(0, .ref A.1), (1, .ref o)]) dL_execute_14 rfl (hlt 2 (by decide)) rfl ?_
      refine V_iconst C (2 : Int32) 16 dL_execute_15 rfl rfl ?_
      exact V_nretI C Z (ty := .int) rfl rfl ⟨f, 1, rfl, rfl, rfl⟩ dL_execute_16 (Nat.le_refl _) (Nat.le_refl _)
    · cases hj
      refine V_callXt C hBA hE ml_L_144 (pre := [(o, aL g 1 f), (od, aD g 1 fd)]) (post := []) (wc := xW g A x) (w1 := xW g A x1) (E := UOE) (as := []) (rest := [.int (0 : Int32), .ref o]) (c_X3_execute (R := .inr (UOE, x1)) hst h) 2 (oW g A o od f fd x1) dL_execute_3 ⟨Nat.le_of_ble_eq_true rfl, Nat.le_of_ble_eq_true rfl⟩ rfl (by rw [List.append_nil]) (by rw [List.append_nil]) (xW_fst _ _ _ _) rfl rfl (Nat.le_of_ble_eq_true rfl) ⟨Nat.le_refl _, Nat.le_refl _⟩ ?_
      refine VX_catch C htab hN Z.1.2.2.1 (nm := UOE) [(0, 8, 11, 15), (0, 8, 14, 142)] (0, 8, 17, 17) [] rfl (List.forall_mem_cons.mpr ⟨⟨by decide, _, q803, List.mem_of_getElem? (i := 2) rfl⟩, List.forall_mem_cons.mpr ⟨⟨by decide, _, q1357, List.mem_of_getElem? (i := 5) rfl⟩, fun z hz => absurd hz List.not_mem_nil⟩⟩) ⟨by decide, by decide⟩ (by decide) q804 cs_UOE (fun q => ?_)
      refine V_astore_n C 18 ((2, .ref q) :: [(0, .ref A.1), (1, .ref o)]) dL_execute_17 rfl (hlt 2 (by decide)) rfl ?_
      refine V_iconst C (3 : Int32) 19 dL_execute_18 rfl rfl ?_
      exact V_nretI C Z (ty := .int) rfl rfl ⟨f, 2, rfl, rfl, rfl⟩ dL_execute_19 (Nat.le_refl _) (Nat.le_refl _)
    · exact absurd hj (by simp)
