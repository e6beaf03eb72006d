/-! ===== wrappers ===== -/
theorem w_addRibbon {l : Launch} {D : va_G} {g : G0} {A : XA} {x : XV} {a1 a2 : Int32} {o od : Nat} {f : Nat → Int64} {fd : Nat → UInt64} {R : (Int32 × XV) ⊕ (String × XV)} (hst : l.stackTraces = false) (h : f_X3_addRibbon x a1 a2 = some R) (hc : codesOk [IOOBE, IAE, UOE] R) : CtH l D g yL_addRibbon cL_addRibbon 5 (some .int) [(0, 10, 13, 13), (0, 10, 17, 15), (0, 10, 21, 17)] (rmN 10 300 1 6) (oW g A o od f fd x) [.ref A.1, .int a1, .int a2, .ref o] (wI g A o od fd [IOOBE, IAE, UOE] R) 1 6 := by
  refine CtH.of (by decide) (Nat.le_of_ble_eq_true rfl) ?_
  intro K C Z htab hN hBA el eD ekn
  subst el
  subst eD
  have hlt : ∀ i, i < 5 → i < kn K := fun i h => by rw [ekn]; exact h
  have hE := Z.1.2.2.2.2.2
  show V K 0 0 (oW g A o od f fd x) [(0, .ref A.1), (1, .int a1), (2, .int a2), (3, .ref o)] [] 0
  refine V_aload_n C 3 1 dL_addRibbon_0 rfl rfl ?_
  refine V_iconst C (0 : Int32) 2 dL_addRibbon_1 rfl rfl ?_
  refine V_aload_n C 0 3 dL_addRibbon_2 rfl rfl ?_
  refine V_iload_n C 1 4 dL_addRibbon_3 rfl rfl ?_
  refine V_iload_n C 2 5 dL_addRibbon_4 rfl rfl ?_
  rcases R with ⟨r, x1⟩ | ⟨E, x1⟩
  · refine V_callXr C hBA hE ml_L_7 (pre := [(o, aL g 1 f), (od, aD g 1 fd)]) (post := []) (wc := xW g A x) (w1 := xW g A x1) (rv := some (.int r)) (as := [.int a1, .int a2]) (rest := [.int (0 : Int32), .ref o]) (c_X3_addRibbon (R := .inl (r, x1)) hst h) 2 8 (oW g A o od f fd x1) dL_addRibbon_5 rfl ⟨Nat.le_of_ble_eq_true rfl, Nat.le_of_ble_eq_true rfl⟩ rfl (by rw [List.append_nil]) (by rw [List.append_nil]) (xW_fst _ _ _ _) rfl rfl rfl (Nat.le_of_ble_eq_true rfl) ⟨Nat.zero_le _, Nat.zero_le _⟩ ?_
    refine V_i2l C 9 dL_addRibbon_8 rfl ?_
    refine V_last C hBA (f := f) (n := 1) 0 10 _ dL_addRibbon_9 rfl rfl (by decide) rfl ?_
    refine V_goto C 25 dL_addRibbon_10 rfl ?_
    refine V_iconst C (0 : Int32) 26 dL_addRibbon_25 rfl rfl ?_
    exact V_nretI C Z (ty := .int) rfl rfl ⟨_, rfl, rfl, upL_0⟩ dL_addRibbon_26 (Nat.zero_le _) (Nat.zero_le _)
  · obtain ⟨j, hj⟩ := hc _ rfl
    rcases j with _ | _ | _ | j
    · cases hj
      refine V_callXt C hBA hE ml_L_7 (pre := [(o, aL g 1 f), (od, aD g 1 fd)]) (post := []) (wc := xW g A x) (w1 := xW g A x1) (E := IOOBE) (as := [.int a1, .int a2]) (rest := [.int (0 : Int32), .ref o]) (c_X3_addRibbon (R := .inr (IOOBE, x1)) hst h) 2 (oW g A o od f fd x1) dL_addRibbon_5 ⟨Nat.le_of_ble_eq_true rfl, Nat.le_of_ble_eq_true rfl⟩ rfl (by rw [List.append_nil]) (by rw [List.append_nil]) (xW_fst _ _ _ _) rfl rfl (Nat.le_of_ble_eq_true rfl) ⟨Nat.le_refl _, Nat.le_refl _⟩ ?_
      refine VX_catch C htab hN Z.1.2.2.1 (nm := IOOBE) [] (0, 10, 13, 13) [(0, 10, 17, 15), (0, 10, 21, 17)] rfl (fun z hz => absurd hz List.not_mem_nil) ⟨by decide, by decide⟩ (by decide) q800 cs_IOOBE (fun q => ?_)
      refine V_astore C 15 ((4, .ref q) :: [(0, .ref A.1), (1, .int a1), (2, .int a2), (3, .ref o)]) dL_addRibbon_13 rfl (hlt 4 (by decide)) rfl ?_
      refine V_iconst C (1 : Int32) 16 dL_addRibbon_15 rfl rfl ?_
      exact V_nretI C Z (ty := .int) rfl rfl ⟨f, 0, rfl, rfl, rfl⟩ dL_addRibbon_16 (Nat.le_refl _) (Nat.le_refl _)
    · cases hj
      refine V_callXt C hBA hE ml_L_7 (pre := [(o, aL g 1 f), (od, aD g 1 fd)]) (post := []) (wc := xW g A x) (w1 := xW g A x1) (E := IAE) (as := [.int a1, .int a2]) (rest := [.int (0 : Int32), .ref o]) (c_X3_addRibbon (R := .inr (IAE, x1)) hst h) 2 (oW g A o od f fd x1) dL_addRibbon_5 ⟨Nat.le_of_ble_eq_true rfl, Nat.le_of_ble_eq_true rfl⟩ rfl (by rw [List.append_nil]) (by rw [List.append_nil]) (xW_fst _ _ _ _) rfl rfl (Nat.le_of_ble_eq_true rfl) ⟨Nat.le_refl _, Nat.le_refl _⟩ ?_
      refine VX_catch C htab hN Z.1.2.2.1 (nm := IAE) [(0, 10, 13, 13)] (0, 10, 17, 15) [(0, 10, 21, 17)] rfl (List.forall_mem_cons.mpr ⟨⟨by decide, _, q800, List.mem_of_getElem? (i := 0) rfl⟩, fun z hz => absurd hz List.not_mem_nil⟩) ⟨by decide, by decide⟩ (by decide) q803 cs_IAE (fun q => ?_)
      refine V_astore C 19 ((4, .ref q) :: [(0, .ref A.1), (1, .int a1), (2, .int a2), (3, .ref o)]) dL_addRibbon_17 rfl (hlt 4 (by decide)) rfl ?_
      refine V_iconst C (2 : Int32) 20 dL_addRibbon_19 rfl rfl ?_
      exact V_nretI C Z (ty := .int) rfl rfl ⟨f, 1, rfl, rfl, rfl⟩ dL_addRibbon_20 (Nat.le_refl _) (Nat.le_refl _)
    · cases hj
      refine V_callXt C hBA hE ml_L_7 (pre := [(o, aL g 1 f), (od, aD g 1 fd)]) (post := []) (wc := xW g A x) (w1 := xW g A x1) (E := UOE) (as := [.int a1, .int a2]) (rest := [.int (0 : Int32), .ref o]) (c_X3_addRibbon (R := .inr (UOE, x1)) hst h) 2 (oW g A o od f fd x1) dL_addRibbon_5 ⟨Nat.le_of_ble_eq_true rfl, Nat.le_of_ble_eq_true rfl⟩ rfl (by rw [List.append_nil]) (by rw [List.append_nil]) (xW_fst _ _ _ _) rfl rfl (Nat.le_of_ble_eq_true rfl) ⟨Nat.le_refl _, Nat.le_refl _⟩ ?_
      refine VX_catch C htab hN Z.1.2.2.1 (nm := UOE) [(0, 10, 13, 13), (0, 10, 17, 15)] (0, 10, 21, 17) [] rfl (List.forall_mem_cons.mpr ⟨⟨by decide, _, q800, List.mem_of_getElem? (i := 1) rfl⟩, List.forall_mem_cons.mpr ⟨⟨by decide, _, q803, List.mem_of_getElem? (i := 2) rfl⟩, fun z hz => absurd hz List.not_mem_nil⟩⟩) ⟨by decide, by decide⟩ (by decide) q804 cs_UOE (fun q => ?_)
      refine V_astore C 23 ((4, .ref q) :: [(0, .ref A.1), (1, .int a1), (2, .int a2), (3, .ref o)]) dL_addRibbon_21 rfl (hlt 4 (by decide)) rfl ?_
      refine V_iconst C (3 : Int32) 24 dL_addRibbon_23 rfl rfl ?_
      exact V_nretI C Z (ty := .int) rfl rfl ⟨f, 2, rfl, rfl, rfl⟩ dL_addRibbon_24 (Nat.le_refl _) (Nat.le_refl _)
    · exact absurd hj (by simp)
theorem w_addDogEar {l : Launch} {D : va_G} {g : G0} {A : XA} {x : XV} {a1 a2 : Int32} {o od : Nat} {f : Nat → Int64} {fd : Nat → UInt64} {R : (Int32 × XV) ⊕ (String × XV)} (hst : l.stackTraces = false) (h : f_X3_addDogEar x a1 a2 = some R) (hc : codesOk [IOOBE, IAE, UOE] R) : CtH l D g yL_addDogEar cL_addDogEar 5 (some .int) [(0, 10, 13, 13), (0, 10, 17, 15), (0, 10, 21, 17)] (rmN 10 300 1 6) (oW g A o od f fd x) [.ref A.1, .int a1, .int a2, .ref o] (wI g A o od fd [IOOBE, IAE, UOE] R) 1 6 := by
  refine CtH.of (by decide) (Nat.le_of_ble_eq_true rfl) ?_
  intro K C Z htab hN hBA el eD ekn
  subst el
  subst eD
  have hlt : ∀ i, i < 5 → i < kn K := fun i h => by rw [ekn]; exact h
  have hE := Z.1.2.2.2.2.2
  show V K 0 0 (oW g A o od f fd x) [(0, .ref A.1), (1, .int a1), (2, .int a2), (3, .ref o)] [] 0
  refine V_aload_n C 3 1 dL_addDogEar_0 rfl rfl ?_
  refine V_iconst C (0 : Int32) 2 dL_addDogEar_1 rfl rfl ?_
  refine V_aload_n C 0 3 dL_addDogEar_2 rfl rfl ?_
  refine V_iload_n C 1 4 dL_addDogEar_3 rfl rfl ?_
  refine V_iload_n C 2 5 dL_addDogEar_4 rfl rfl ?_
  rcases R with ⟨r, x1⟩ | ⟨E, x1⟩
  · refine V_callXr C hBA hE ml_L_19 (pre := [(o, aL g 1 f), (od, aD g 1 fd)]) (post := []) (wc := xW g A x) (w1 := xW g A x1) (rv := some (.int r)) (as := [.int a1, .int a2]) (rest := [.int (0 : Int32), .ref o]) (c_X3_addDogEar (R := .inl (r, x1)) hst h) 2 8 (oW g A o od f fd x1) dL_addDogEar_5 rfl ⟨Nat.le_of_ble_eq_true rfl, Nat.le_of_ble_eq_true rfl⟩ rfl (by rw [List.append_nil]) (by rw [List.append_nil]) (xW_fst _ _ _ _) rfl rfl rfl (Nat.le_of_ble_eq_true rfl) ⟨Nat.zero_le _, Nat.zero_le _⟩ ?_
    refine V_i2l C 9 dL_addDogEar_8 rfl ?_
    refine V_last C hBA (f := f) (n := 1) 0 10 _ dL_addDogEar_9 rfl rfl (by decide) rfl ?_
    refine V_goto C 25 dL_addDogEar_10 rfl ?_
    refine V_iconst C (0 : Int32) 26 dL_addDogEar_25 rfl rfl ?_
    exact V_nretI C Z (ty := .int) rfl rfl ⟨_, rfl, rfl, upL_0⟩ dL_addDogEar_26 (Nat.zero_le _) (Nat.zero_le _)
  · obtain ⟨j, hj⟩ := hc _ rfl
    rcases j with _ | _ | _ | j
    · cases hj
      refine V_callXt C hBA hE ml_L_19 (pre := [(o, aL g 1 f), (od, aD g 1 fd)]) (post := []) (wc := xW g A x) (w1 := xW g A x1) (E := IOOBE) (as := [.int a1, .int a2]) (rest := [.int (0 : Int32), .ref o]) (c_X3_addDogEar (R := .inr (IOOBE, x1)) hst h) 2 (oW g A o od f fd x1) dL_addDogEar_5 ⟨Nat.le_of_ble_eq_true rfl, Nat.le_of_ble_eq_true rfl⟩ rfl (by rw [List.append_nil]) (by rw [List.append_nil]) (xW_fst _ _ _ _) rfl rfl (Nat.le_of_ble_eq_true rfl) ⟨Nat.le_refl _, Nat.le_refl _⟩ ?_
      refine VX_catch C htab hN Z.1.2.2.1 (nm := IOOBE) [] (0, 10, 13, 13) [(0, 10, 17, 15), (0, 10, 21, 17)] rfl (fun z hz => absurd hz List.not_mem_nil) ⟨by decide, by decide⟩ (by decide) q800 cs_IOOBE (fun q => ?_)
      refine V_astore C 15 ((4, .ref q) :: [(0, .ref A.1), (1, .int a1), (2, .int a2), (3, .ref o)]) dL_addDogEar_13 rfl (hlt 4 (by decide)) rfl ?_
      refine V_iconst C (1 : Int32) 16 dL_addDogEar_15 rfl rfl ?_
      exact V_nretI C Z (ty := .int) rfl rfl ⟨f, 0, rfl, rfl, rfl⟩ dL_addDogEar_16 (Nat.le_refl _) (Nat.le_refl _)
    · cases hj
      refine V_callXt C hBA hE ml_L_19 (pre := [(o, aL g 1 f), (od, aD g 1 fd)]) (post := []) (wc := xW g A x) (w1 := xW g A x1) (E := IAE) (as := [.int a1, .int a2]) (rest := [.int (0 : Int32), .ref o]) (c_X3_addDogEar (R := .inr (IAE, x1)) hst h) 2 (oW g A o od f fd x1) dL_addDogEar_5 ⟨Nat.le_of_ble_eq_true rfl, Nat.le_of_ble_eq_true rfl⟩ rfl (by rw [List.append_nil]) (by rw [List.append_nil]) (xW_fst _ _ _ _) rfl rfl (Nat.le_of_ble_eq_true rfl) ⟨Nat.le_refl _, Nat.le_refl _⟩ ?_
      refine VX_catch C htab hN Z.1.2.2.1 (nm := IAE) [(0, 10, 13, 13)] (0, 10, 17, 15) [(0, 10, 21, 17)] rfl (List.forall_mem_cons.mpr ⟨⟨by decide, _, q800, List.mem_of_getElem? (i := 0) rfl⟩, fun z hz => absurd hz List.not_mem_nil⟩) ⟨by decide, by decide⟩ (by decide) q803 cs_IAE (fun q => ?_)
      refine V_astore C 19 ((4, .ref q) :: [(0, .ref A.1), (1, .int a1), (2, .int a2), (3, .ref o)]) dL_addDogEar_17 rfl (hlt 4 (by decide)) rfl ?_
      refine V_iconst C (2 : Int32) 20 dL_addDogEar_19 rfl rfl ?_
      exact V_nretI C Z (ty := .int) rfl rfl ⟨f, 1, rfl, rfl, rfl⟩ dL_addDogEar_20 (Nat.le_refl _) (Nat.le_refl _)
    · cases hj
      refine V_callXt C hBA hE ml_L_19 (pre := [(o, aL g 1 f), (od, aD g 1 fd)]) (post := []) (wc := xW g A x) (w1 := xW g A x1) (E := UOE) (as := [.int a1, .int a2]) (rest := [.int (0 : Int32), .ref o]) (c_X3_addDogEar (R := .inr (UOE, x1)) hst h) 2 (oW g A o od f fd x1) dL_addDogEar_5 ⟨Nat.le_of_ble_eq_true rfl, Nat.le_of_ble_eq_true rfl⟩ rfl (by rw [List.append_nil]) (by rw [List.append_nil]) (xW_fst _ _ _ _) rfl rfl (Nat.le_of_ble_eq_true rfl) ⟨Nat.le_refl _, Nat.le_refl _⟩ ?_
      refine VX_catch C htab hN Z.1.2.2.1 (nm := UOE) [(0, 10, 13, 13), (0, 10, 17, 15)] (0, 10, 21, 17) [] rfl (List.forall_mem_cons.mpr ⟨⟨by decide, _, q800, List.mem_of_getElem? (i := 1) rfl⟩, List.forall_mem_cons.mpr ⟨⟨by decide, _, q803, List.mem_of_getElem? (i := 2) rfl⟩, fun z hz => absurd hz List.not_mem_nil⟩⟩) ⟨by decide, by decide⟩ (by decide) q804 cs_UOE (fun q => ?_)
      refine V_astore C 23 ((4, .ref q) :: [(0, .ref A.1), (1, .int a1), (2, .int a2), (3, .ref o)]) dL_addDogEar_21 rfl (hlt 4 (by decide)) rfl ?_
      refine V_iconst C (3 : Int32) 24 dL_addDogEar_23 rfl rfl ?_
      exact V_nretI C Z (ty := .int) rfl rfl ⟨f, 2, rfl, rfl, rfl⟩ dL_addDogEar_24 (Nat.le_refl _) (Nat.le_refl _)
    · exact absurd hj (by simp)
theorem w_removeMark {l : Launch} {D : va_G} {g : G0} {A : XA} {x : XV} {a1 : Int32} {o od : Nat} {f : Nat → Int64} {fd : Nat → UInt64} {R : (Int32 × XV) ⊕ (String × XV)} (hst : l.stackTraces = false) (h : f_X3_removeMark x a1 = some R) (hc : codesOk [IOOBE] R) : CtH l D g yL_removeMark cL_removeMark 4 (some .int) [(0, 9, 12, 13)] (rmN 10 300 1 6) (oW g A o od f fd x) [.ref A.1, .int a1, .ref o] (wI g A o od fd [IOOBE] R) 1 6 := by
  refine CtH.of (by decide) (Nat.le_of_ble_eq_true rfl) ?_
  intro K C Z htab hN hBA el eD ekn
  subst el
  subst eD
  have hlt : ∀ i, i < 4 → i < kn K := fun i h => by rw [ekn]; exact h
  have hE := Z.1.2.2.2.2.2
  show V K 0 0 (oW g A o od f fd x) [(0, .ref A.1), (1, .int a1), (2, .ref o)] [] 0
  refine V_aload_n C 2 1 dL_removeMark_0 rfl rfl ?_
  refine V_iconst C (0 : Int32) 2 dL_removeMark_1 rfl rfl ?_
  refine V_aload_n C 0 3 dL_removeMark_2 rfl rfl ?_
  refine V_iload_n C 1 4 dL_removeMark_3 rfl rfl ?_
  rcases R with ⟨r, x1⟩ | ⟨E, x1⟩
  · refine V_callXr C hBA hE ml_L_22 (pre := [(o, aL g 1 f), (od, aD g 1 fd)]) (post := []) (wc := xW g A x) (w1 := xW g A x1) (rv := some (.int r)) (as := [.int a1]) (rest := [.int (0 : Int32), .ref o]) (c_X3_removeMark (R := .inl (r, x1)) hst h) 2 7 (oW g A o od f fd x1) dL_removeMark_4 rfl ⟨Nat.le_of_ble_eq_true rfl, Nat.le_of_ble_eq_true rfl⟩ rfl (by rw [List.append_nil]) (by rw [List.append_nil]) (xW_fst _ _ _ _) rfl rfl rfl (Nat.le_of_ble_eq_true rfl) ⟨Nat.zero_le _, Nat.zero_le _⟩ ?_
    refine V_i2l C 8 dL_removeMark_7 rfl ?_
    refine V_last C hBA (f := f) (n := 1) 0 9 _ dL_removeMark_8 rfl rfl (by decide) rfl ?_
    refine V_goto C 15 dL_removeMark_9 rfl ?_
    refine V_iconst C (0 : Int32) 16 dL_removeMark_15 rfl rfl ?_
    exact V_nretI C Z (ty := .int) rfl rfl ⟨_, rfl, rfl, upL_0⟩ dL_removeMark_16 (Nat.zero_le _) (Nat.zero_le _)
  · obtain ⟨j, hj⟩ := hc _ rfl
    rcases j with _ | j
    · cases hj
      refine V_callXt C hBA hE ml_L_22 (pre := [(o, aL g 1 f), (od, aD g 1 fd)]) (post := []) (wc := xW g A x) (w1 := xW g A x1) (E := IOOBE) (as := [.int a1]) (rest := [.int (0 : Int32), .ref o]) (c_X3_removeMark (R := .inr (IOOBE, x1)) hst h) 2 (oW g A o od f fd x1) dL_removeMark_4 ⟨Nat.le_of_ble_eq_true rfl, Nat.le_of_ble_eq_true rfl⟩ rfl (by rw [List.append_nil]) (by rw [List.append_nil]) (xW_fst _ _ _ _) rfl rfl (Nat.le_of_ble_eq_true rfl) ⟨Nat.le_refl _, Nat.le_refl _⟩ ?_
      refine VX_catch C htab hN Z.1.2.2.1 (nm := IOOBE) [] (0, 9, 12, 13) [] rfl (fun z hz => absurd hz List.not_mem_nil) ⟨by decide, by decide⟩ (by decide) q800 cs_IOOBE (fun q => ?_)
      refine V_astore_n C 13 ((3, .ref q) :: [(0, .ref A.1), (1, .int a1), (2, .ref o)]) dL_removeMark_12 rfl (hlt 3 (by decide)) rfl ?_
      refine V_iconst C (1 : Int32) 14 dL_removeMark_13 rfl rfl ?_
      exact V_nretI C Z (ty := .int) rfl rfl ⟨f, 0, rfl, rfl, rfl⟩ dL_removeMark_14 (Nat.le_refl _) (Nat.le_refl _)
    · exact absurd hj (by simp)
theorem w_moveRibbon {l : Launch} {D : va_G} {g : G0} {A : XA} {x : XV} {a1 a2 : Int32} {o od : Nat} {f : Nat → Int64} {fd : Nat → UInt64} {R : (Int32 × XV) ⊕ (String × XV)} (hst : l.stackTraces = false) (h : f_X3_moveRibbon x a1 a2 = some R) (hc : codesOk [IOOBE, UOE] R) : CtH l D g yL_moveRibbon cL_moveRibbon 5 (some .int) [(0, 10, 13, 13), (0, 10, 17, 17)] (rmN 10 300 1 6) (oW g A o od f fd x) [.ref A.1, .int a1, .int a2, .ref o] (wI g A o od fd [IOOBE, UOE] R) 1 6 := by
  refine CtH.of (by decide) (Nat.le_of_ble_eq_true rfl) ?_
  intro K C Z htab hN hBA el eD ekn
  subst el
  subst eD
  have hlt : ∀ i, i < 5 → i < kn K := fun i h => by rw [ekn]; exact h
  have hE := Z.1.2.2.2.2.2
  show V K 0 0 (oW g A o od f fd x) [(0, .ref A.1), (1, .int a1), (2, .int a2), (3, .ref o)] [] 0
  refine V_aload_n C 3 1 dL_moveRibbon_0 rfl rfl ?_
  refine V_iconst C (0 : Int32) 2 dL_moveRibbon_1 rfl rfl ?_
  refine V_aload_n C 0 3 dL_moveRibbon_2 rfl rfl ?_
  refine V_iload_n C 1 4 dL_moveRibbon_3 rfl rfl ?_
  refine V_iload_n C 2 5 dL_moveRibbon_4 rfl rfl ?_
  rcases R with ⟨r, x1⟩ | ⟨E, x1⟩
  · refine V_callXr C hBA hE ml_L_26 (pre := [(o, aL g 1 f), (od, aD g 1 fd)]) (post := []) (wc := xW g A x) (w1 := xW g A x1) (rv := some (.int r)) (as := [.int a1, .int a2]) (rest := [.int (0 : Int32), .ref o]) (c_X3_moveRibbon (R := .inl (r, x1)) hst h) 2 8 (oW g A o od f fd x1) dL_moveRibbon_5 rfl ⟨Nat.le_of_ble_eq_true rfl, Nat.le_of_ble_eq_true rfl⟩ rfl (by rw [List.append_nil]) (by rw [List.append_nil]) (xW_fst _ _ _ _) rfl rfl rfl (Nat.le_of_ble_eq_true rfl) ⟨Nat.zero_le _, Nat.zero_le _⟩ ?_
    refine V_i2l C 9 dL_moveRibbon_8 rfl ?_
    refine V_last C hBA (f := f) (n := 1) 0 10 _ dL_moveRibbon_9 rfl rfl (by decide) rfl ?_
    refine V_goto C 21 dL_moveRibbon_10 rfl ?_
    refine V_iconst C (0 : Int32) 22 dL_moveRibbon_21 rfl rfl ?_
    exact V_nretI C Z (ty := .int) rfl rfl ⟨_, rfl, rfl, upL_0⟩ dL_moveRibbon_22 (Nat.zero_le _) (Nat.zero_le _)
  · obtain ⟨j, hj⟩ := hc _ rfl
    rcases j with _ | _ | j
    · cases hj
      refine V_callXt C hBA hE ml_L_26 (pre := [(o, aL g 1 f), (od, aD g 1 fd)]) (post := []) (wc := xW g A x) (w1 := xW g A x1) (E := IOOBE) (as := [.int a1, .int a2]) (rest := [.int (0 : Int32), .ref o]) (c_X3_moveRibbon (R := .inr (IOOBE, x1)) hst h) 2 (oW g A o od f fd x1) dL_moveRibbon_5 ⟨Nat.le_of_ble_eq_true rfl, Nat.le_of_ble_eq_true rfl⟩ rfl (by rw [List.append_nil]) (by rw [List.append_nil]) (xW_fst _ _ _ _) rfl rfl (Nat.le_of_ble_eq_true rfl) ⟨Nat.le_refl _, Nat.le_refl _⟩ ?_
      refine VX_catch C htab hN Z.1.2.2.1 (nm := IOOBE) [] (0, 10, 13, 13) [(0, 10, 17, 17)] rfl (fun z hz => absurd hz List.not_mem_nil) ⟨by decide, by decide⟩ (by decide) q800 cs_IOOBE (fun q => ?_)
      refine V_astore C 15 ((4, .ref q) :: [(0, .ref A.1), (1, .int a1), (2, .int a2), (3, .ref o)]) dL_moveRibbon_13 rfl (hlt 4 (by decide)) rfl ?_
      refine V_iconst C (1 : Int32) 16 dL_moveRibbon_15 rfl rfl ?_
      exact V_nretI C Z (ty := .int) rfl rfl ⟨f, 0, rfl, rfl, rfl⟩ dL_moveRibbon_16 (Nat.le_refl _) (Nat.le_refl _)
    · cases hj
      refine V_callXt C hBA hE ml_L_26 (pre := [(o, aL g 1 f), (od, aD g 1 fd)]) (post := []) (wc := xW g A x) (w1 := xW g A x1) (E := UOE) (as := [.int a1, .int a2]) (rest := [.int (0 : Int32), .ref o]) (c_X3_moveRibbon (R := .inr (UOE, x1)) hst h) 2 (oW g A o od f fd x1) dL_moveRibbon_5 ⟨Nat.le_of_ble_eq_true rfl, Nat.le_of_ble_eq_true rfl⟩ rfl (by rw [List.append_nil]) (by rw [List.append_nil]) (xW_fst _ _ _ _) rfl rfl (Nat.le_of_ble_eq_true rfl) ⟨Nat.le_refl _, Nat.le_refl _⟩ ?_
      refine VX_catch C htab hN Z.1.2.2.1 (nm := UOE) [(0, 10, 13, 13)] (0, 10, 17, 17) [] rfl (List.forall_mem_cons.mpr ⟨⟨by decide, _, q800, List.mem_of_getElem? (i := 1) rfl⟩, fun z hz => absurd hz List.not_mem_nil⟩) ⟨by decide, by decide⟩ (by decide) q804 cs_UOE (fun q => ?_)
      refine V_astore C 19 ((4, .ref q) :: [(0, .ref A.1), (1, .int a1), (2, .int a2), (3, .ref o)]) dL_moveRibbon_17 rfl (hlt 4 (by decide)) rfl ?_
      refine V_iconst C (2 : Int32) 20 dL_moveRibbon_19 rfl rfl ?_
      exact V_nretI C Z (ty := .int) rfl rfl ⟨f, 1, rfl, rfl, rfl⟩ dL_moveRibbon_20 (Nat.le_refl _) (Nat.le_refl _)
    · exact absurd hj (by simp)
theorem w_swapSeats {l : Launch} {D : va_G} {g : G0} {A : XA} {x : XV} {a1 a2 : Int32} {o od : Nat} {f : Nat → Int64} {fd : Nat → UInt64} {R : (Int32 × XV) ⊕ (String × XV)} (hst : l.stackTraces = false) (h : f_X3_swapSeats x a1 a2 = some R) (hc : codesOk [IOOBE, UOE] R) : CtH l D g yL_swapSeats cL_swapSeats 5 (some .int) [(0, 10, 13, 13), (0, 10, 17, 17)] (rmN 10 300 1 6) (oW g A o od f fd x) [.ref A.1, .int a1, .int a2, .ref o] (wI g A o od fd [IOOBE, UOE] R) 1 6 := by
  refine CtH.of (by decide) (Nat.le_of_ble_eq_true rfl) ?_
  intro K C Z htab hN hBA el eD ekn
  subst el
  subst eD
  have hlt : ∀ i, i < 5 → i < kn K := fun i h => by rw [ekn]; exact h
  have hE := Z.1.2.2.2.2.2
  show V K 0 0 (oW g A o od f fd x) [(0, .ref A.1), (1, .int a1), (2, .int a2), (3, .ref o)] [] 0
  refine V_aload_n C 3 1 dL_swapSeats_0 rfl rfl ?_
  refine V_iconst C (0 : Int32) 2 dL_swapSeats_1 rfl rfl ?_
  refine V_aload_n C 0 3 dL_swapSeats_2 rfl rfl ?_
  refine V_iload_n C 1 4 dL_swapSeats_3 rfl rfl ?_
  refine V_iload_n C 2 5 dL_swapSeats_4 rfl rfl ?_
  rcases R with ⟨r, x1⟩ | ⟨E, x1⟩
  · refine V_callXr C hBA hE ml_L_29 (pre := [(o, aL g 1 f), (od, aD g 1 fd)]) (post := []) (wc := xW g A x) (w1 := xW g A x1) (rv := some (.int r)) (as := [.int a1, .int a2]) (rest := [.int (0 : Int32), .ref o]) (c_X3_swapSeats (R := .inl (r, x1)) hst h) 2 8 (oW g A o od f fd x1) dL_swapSeats_5 rfl ⟨Nat.le_of_ble_eq_true rfl, Nat.le_of_ble_eq_true rfl⟩ rfl (by rw [List.append_nil]) (by rw [List.append_nil]) (xW_fst _ _ _ _) rfl rfl rfl (Nat.le_of_ble_eq_true rfl) ⟨Nat.zero_le _, Nat.zero_le _⟩ ?_
    refine V_i2l C 9 dL_swapSeats_8 rfl ?_
    refine V_last C hBA (f := f) (n := 1) 0 10 _ dL_swapSeats_9 rfl rfl (by decide) rfl ?_
    refine V_goto C 21 dL_swapSeats_10 rfl ?_
    refine V_iconst C (0 : Int32) 22 dL_swapSeats_21 rfl rfl ?_
    exact V_nretI C Z (ty := .int) rfl rfl ⟨_, rfl, rfl, upL_0⟩ dL_swapSeats_22 (Nat.zero_le _) (Nat.zero_le _)
  · obtain ⟨j, hj⟩ := hc _ rfl
    rcases j with _ | _ | j
    · cases hj
      refine V_callXt C hBA hE ml_L_29 (pre := [(o, aL g 1 f), (od, aD g 1 fd)]) (post := []) (wc := xW g A x) (w1 := xW g A x1) (E := IOOBE) (as := [.int a1, .int a2]) (rest := [.int (0 : Int32), .ref o]) (c_X3_swapSeats (R := .inr (IOOBE, x1)) hst h) 2 (oW g A o od f fd x1) dL_swapSeats_5 ⟨Nat.le_of_ble_eq_true rfl, Nat.le_of_ble_eq_true rfl⟩ rfl (by rw [List.append_nil]) (by rw [List.append_nil]) (xW_fst _ _ _ _) rfl rfl (Nat.le_of_ble_eq_true rfl) ⟨Nat.le_refl _, Nat.le_refl _⟩ ?_
      refine VX_catch C htab hN Z.1.2.2.1 (nm := IOOBE) [] (0, 10, 13, 13) [(0, 10, 17, 17)] rfl (fun z hz => absurd hz List.not_mem_nil) ⟨by decide, by decide⟩ (by decide) q800 cs_IOOBE (fun q => ?_)
      refine V_astore C 15 ((4, .ref q) :: [(0, .ref A.1), (1, .int a1), (2, .int a2), (3, .ref o)]) dL_swapSeats_13 rfl (hlt 4 (by decide)) rfl ?_
      refine V_iconst C (1 : Int32) 16 dL_swapSeats_15 rfl rfl ?_
      exact V_nretI C Z (ty := .int) rfl rfl ⟨f, 0, rfl, rfl, rfl⟩ dL_swapSeats_16 (Nat.le_refl _) (Nat.le_refl _)
    · cases hj
      refine V_callXt C hBA hE ml_L_29 (pre := [(o, aL g 1 f), (od, aD g 1 fd)]) (post := []) (wc := xW g A x) (w1 := xW g A x1) (E := UOE) (as := [.int a1, .int a2]) (rest := [.int (0 : Int32), .ref o]) (c_X3_swapSeats (R := .inr (UOE, x1)) hst h) 2 (oW g A o od f fd x1) dL_swapSeats_5 ⟨Nat.le_of_ble_eq_true rfl, Nat.le_of_ble_eq_true rfl⟩ rfl (by rw [List.append_nil]) (by rw [List.append_nil]) (xW_fst _ _ _ _) rfl rfl (Nat.le_of_ble_eq_true rfl) ⟨Nat.le_refl _, Nat.le_refl _⟩ ?_
      refine VX_catch C htab hN Z.1.2.2.1 (nm := UOE) [(0, 10, 13, 13)] (0, 10, 17, 17) [] rfl (List.forall_mem_cons.mpr ⟨⟨by decide, _, q800, List.mem_of_getElem? (i := 1) rfl⟩, fun z hz => absurd hz List.not_mem_nil⟩) ⟨by decide, by decide⟩ (by decide) q804 cs_UOE (fun q => ?_)
      refine V_astore C 19 ((4, .ref q) :: [(0, .ref A.1), (1, .int a1), (2, .int a2), (3, .ref o)]) dL_swapSeats_17 rfl (hlt 4 (by decide)) rfl ?_
      refine V_iconst C (2 : Int32) 20 dL_swapSeats_19 rfl rfl ?_
      exact V_nretI C Z (ty := .int) rfl rfl ⟨f, 1, rfl, rfl, rfl⟩ dL_swapSeats_20 (Nat.le_refl _) (Nat.le_refl _)
    · exact absurd hj (by simp)
theorem w_isRibbon {l : Launch} {D : va_G} {g : G0} {A : XA} {x : XV} {a1 : Int32} {o od : Nat} {f : Nat → Int64} {fd : Nat → UInt64} {R : (Int32 × XV) ⊕ (String × XV)} (hst : l.stackTraces = false) (h : f_X3_isRibbon x a1 = some R) (hc : codesOk [IOOBE] R) : CtH l D g yL_isRibbon cL_isRibbon 4 (some .int) [(0, 16, 19, 13)] (rmN 10 300 1 6) (oW g A o od f fd x) [.ref A.1, .int a1, .ref o] (wB g A o od fd [IOOBE] R) 1 6 := by
  refine CtH.of (by decide) (Nat.le_of_ble_eq_true rfl) ?_
  intro K C Z htab hN hBA el eD ekn
  subst el
  subst eD
  have hlt : ∀ i, i < 4 → i < kn K := fun i h => by rw [ekn]; exact h
  have hE := Z.1.2.2.2.2.2
  show V K 0 0 (oW g A o od f fd x) [(0, .ref A.1), (1, .int a1), (2, .ref o)] [] 0
  refine V_aload_n C 2 1 dL_isRibbon_0 rfl rfl ?_
  refine V_iconst C (0 : Int32) 2 dL_isRibbon_1 rfl rfl ?_
  refine V_aload_n C 0 3 dL_isRibbon_2 rfl rfl ?_
  refine V_iload_n C 1 4 dL_isRibbon_3 rfl rfl ?_
  rcases R with ⟨r, x1⟩ | ⟨E, x1⟩
  · refine V_callXr C hBA hE ml_L_32 (pre := [(o, aL g 1 f), (od, aD g 1 fd)]) (post := []) (wc := xW g A x) (w1 := xW g A x1) (rv := some (.int r)) (as := [.int a1]) (rest := [.int (0 : Int32), .ref o]) (c_X3_isRibbon (R := .inl (r, x1)) hst h) 2 7 (oW g A o od f fd x1) dL_isRibbon_4 rfl ⟨Nat.le_of_ble_eq_true rfl, Nat.le_of_ble_eq_true rfl⟩ rfl (by rw [List.append_nil]) (by rw [List.append_nil]) (xW_fst _ _ _ _) rfl rfl rfl (Nat.le_of_ble_eq_true rfl) ⟨Nat.zero_le _, Nat.zero_le _⟩ ?_
    refine V_if_eq C 14 10 dL_isRibbon_7 rfl rfl (fun e => ?_) (fun e => ?_)
    · refine V_lconst C (0 : Int64) 15 dL_isRibbon_14 rfl rfl ?_
      refine V_last C hBA (f := f) (n := 1) 0 16 _ dL_isRibbon_15 rfl rfl (by decide) rfl ?_
      refine V_goto C 22 dL_isRibbon_16 rfl ?_
      refine V_iconst C (0 : Int32) 23 dL_isRibbon_22 rfl rfl ?_
      exact V_nretI C Z (ty := .int) rfl rfl ⟨_, rfl, rfl, upL_0.trans (if_pos e).symm⟩ dL_isRibbon_23 (Nat.zero_le _) (Nat.zero_le _)
    · refine V_lconst C (1 : Int64) 11 dL_isRibbon_10 rfl rfl ?_
      refine V_goto C 15 dL_isRibbon_11 rfl ?_
      refine V_last C hBA (f := f) (n := 1) 0 16 _ dL_isRibbon_15 rfl rfl (by decide) rfl ?_
      refine V_goto C 22 dL_isRibbon_16 rfl ?_
      refine V_iconst C (0 : Int32) 23 dL_isRibbon_22 rfl rfl ?_
      exact V_nretI C Z (ty := .int) rfl rfl ⟨_, rfl, rfl, upL_0.trans (if_neg e).symm⟩ dL_isRibbon_23 (Nat.zero_le _) (Nat.zero_le _)
  · obtain ⟨j, hj⟩ := hc _ rfl
    rcases j with _ | j
    · cases hj
      refine V_callXt C hBA hE ml_L_32 (pre := [(o, aL g 1 f), (od, aD g 1 fd)]) (post := []) (wc := xW g A x) (w1 := xW g A x1) (E := IOOBE) (as := [.int a1]) (rest := [.int (0 : Int32), .ref o]) (c_X3_isRibbon (R := .inr (IOOBE, x1)) hst h) 2 (oW g A o od f fd x1) dL_isRibbon_4 ⟨Nat.le_of_ble_eq_true rfl, Nat.le_of_ble_eq_true rfl⟩ rfl (by rw [List.append_nil]) (by rw [List.append_nil]) (xW_fst _ _ _ _) rfl rfl (Nat.le_of_ble_eq_true rfl) ⟨Nat.le_refl _, Nat.le_refl _⟩ ?_
      refine VX_catch C htab hN Z.1.2.2.1 (nm := IOOBE) [] (0, 16, 19, 13) [] rfl (fun z hz => absurd hz List.not_mem_nil) ⟨by decide, by decide⟩ (by decide) q800 cs_IOOBE (fun q => ?_)
      refine V_astore_n C 20 ((3, .ref q) :: [(0, .ref A.1), (1, .int a1), (2, .ref o)]) dL_isRibbon_19 rfl (hlt 3 (by decide)) rfl ?_
      refine V_iconst C (1 : Int32) 21 dL_isRibbon_20 rfl rfl ?_
      exact V_nretI C Z (ty := .int) rfl rfl ⟨f, 0, rfl, rfl, rfl⟩ dL_isRibbon_21 (Nat.le_refl _) (Nat.le_refl _)
    · exact absurd hj (by simp)
theorem w_pageOf {l : Launch} {D : va_G} {g : G0} {A : XA} {x : XV} {a1 : Int32} {o od : Nat} {f : Nat → Int64} {fd : Nat → UInt64} {R : (Int32 × XV) ⊕ (String × XV)} (hst : l.stackTraces = false) (h : f_X3_pageOf x a1 = some R) (hc : codesOk [IOOBE] R) : CtH l D g yL_pageOf cL_pageOf 4 (some .int) [(0, 9, 12, 13)] (rmN 10 300 1 6) (oW g A o od f fd x) [.ref A.1, .int a1, .ref o] (wI g A o od fd [IOOBE] R) 1 6 := by
  refine CtH.of (by decide) (Nat.le_of_ble_eq_true rfl) ?_
  intro K C Z htab hN hBA el eD ekn
  subst el
  subst eD
  have hlt : ∀ i, i < 4 → i < kn K := fun i h => by rw [ekn]; exact h
  have hE := Z.1.2.2.2.2.2
  show V K 0 0 (oW g A o od f fd x) [(0, .ref A.1), (1, .int a1), (2, .ref o)] [] 0
  refine V_aload_n C 2 1 dL_pageOf_0 rfl rfl ?_
  refine V_iconst C (0 : Int32) 2 dL_pageOf_1 rfl rfl ?_
  refine V_aload_n C 0 3 dL_pageOf_2 rfl rfl ?_
  refine V_iload_n C 1 4 dL_pageOf_3 rfl rfl ?_
  rcases R with ⟨r, x1⟩ | ⟨E, x1⟩
  · refine V_callXr C hBA hE ml_L_36 (pre := [(o, aL g 1 f), (od, aD g 1 fd)]) (post := []) (wc := xW g A x) (w1 := xW g A x1) (rv := some (.int r)) (as := [.int a1]) (rest := [.int (0 : Int32), .ref o]) (c_X3_pageOf (R := .inl (r, x1)) hst h) 2 7 (oW g A o od f fd x1) dL_pageOf_4 rfl ⟨Nat.le_of_ble_eq_true rfl, Nat.le_of_ble_eq_true rfl⟩ rfl (by rw [List.append_nil]) (by rw [List.append_nil]) (xW_fst _ _ _ _) rfl rfl rfl (Nat.le_of_ble_eq_true rfl) ⟨Nat.zero_le _, Nat.zero_le _⟩ ?_
    refine V_i2l C 8 dL_pageOf_7 rfl ?_
    refine V_last C hBA (f := f) (n := 1) 0 9 _ dL_pageOf_8 rfl rfl (by decide) rfl ?_
    refine V_goto C 15 dL_pageOf_9 rfl ?_
    refine V_iconst C (0 : Int32) 16 dL_pageOf_15 rfl rfl ?_
    exact V_nretI C Z (ty := .int) rfl rfl ⟨_, rfl, rfl, upL_0⟩ dL_pageOf_16 (Nat.zero_le _) (Nat.zero_le _)
  · obtain ⟨j, hj⟩ := hc _ rfl
    rcases j with _ | j
    · cases hj
      refine V_callXt C hBA hE ml_L_36 (pre := [(o, aL g 1 f), (od, aD g 1 fd)]) (post := []) (wc := xW g A x) (w1 := xW g A x1) (E := IOOBE) (as := [.int a1]) (rest := [.int (0 : Int32), .ref o]) (c_X3_pageOf (R := .inr (IOOBE, x1)) hst h) 2 (oW g A o od f fd x1) dL_pageOf_4 ⟨Nat.le_of_ble_eq_true rfl, Nat.le_of_ble_eq_true rfl⟩ rfl (by rw [List.append_nil]) (by rw [List.append_nil]) (xW_fst _ _ _ _) rfl rfl (Nat.le_of_ble_eq_true rfl) ⟨Nat.le_refl _, Nat.le_refl _⟩ ?_
      refine VX_catch C htab hN Z.1.2.2.1 (nm := IOOBE) [] (0, 9, 12, 13) [] rfl (fun z hz => absurd hz List.not_mem_nil) ⟨by decide, by decide⟩ (by decide) q800 cs_IOOBE (fun q => ?_)
      refine V_astore_n C 13 ((3, .ref q) :: [(0, .ref A.1), (1, .int a1), (2, .ref o)]) dL_pageOf_12 rfl (hlt 3 (by decide)) rfl ?_
      refine V_iconst C (1 : Int32) 14 dL_pageOf_13 rfl rfl ?_
      exact V_nretI C Z (ty := .int) rfl rfl ⟨f, 0, rfl, rfl, rfl⟩ dL_pageOf_14 (Nat.le_refl _) (Nat.le_refl _)
    · exact absurd hj (by simp)
theorem w_weightOf {l : Launch} {D : va_G} {g : G0} {A : XA} {x : XV} {a1 : Int32} {o od : Nat} {f : Nat → Int64} {fd : Nat → UInt64} {R : (Int32 × XV) ⊕ (String × XV)} (hst : l.stackTraces = false) (h : f_X3_weightOf x a1 = some R) (hc : codesOk [IOOBE] R) : CtH l D g yL_weightOf cL_weightOf 4 (some .int) [(0, 9, 12, 13)] (rmN 10 300 1 6) (oW g A o od f fd x) [.ref A.1, .int a1, .ref o] (wI g A o od fd [IOOBE] R) 1 6 := by
  refine CtH.of (by decide) (Nat.le_of_ble_eq_true rfl) ?_
  intro K C Z htab hN hBA el eD ekn
  subst el
  subst eD
  have hlt : ∀ i, i < 4 → i < kn K := fun i h => by rw [ekn]; exact h
  have hE := Z.1.2.2.2.2.2
  show V K 0 0 (oW g A o od f fd x) [(0, .ref A.1), (1, .int a1), (2, .ref o)] [] 0
  refine V_aload_n C 2 1 dL_weightOf_0 rfl rfl ?_
  refine V_iconst C (0 : Int32) 2 dL_weightOf_1 rfl rfl ?_
  refine V_aload_n C 0 3 dL_weightOf_2 rfl rfl ?_
  refine V_iload_n C 1 4 dL_weightOf_3 rfl rfl ?_
  rcases R with ⟨r, x1⟩ | ⟨E, x1⟩
  · refine V_callXr C hBA hE ml_L_39 (pre := [(o, aL g 1 f), (od, aD g 1 fd)]) (post := []) (wc := xW g A x) (w1 := xW g A x1) (rv := some (.int r)) (as := [.int a1]) (rest := [.int (0 : Int32), .ref o]) (c_X3_weightOf (R := .inl (r, x1)) hst h) 2 7 (oW g A o od f fd x1) dL_weightOf_4 rfl ⟨Nat.le_of_ble_eq_true rfl, Nat.le_of_ble_eq_true rfl⟩ rfl (by rw [List.append_nil]) (by rw [List.append_nil]) (xW_fst _ _ _ _) rfl rfl rfl (Nat.le_of_ble_eq_true rfl) ⟨Nat.zero_le _, Nat.zero_le _⟩ ?_
    refine V_i2l C 8 dL_weightOf_7 rfl ?_
    refine V_last C hBA (f := f) (n := 1) 0 9 _ dL_weightOf_8 rfl rfl (by decide) rfl ?_
    refine V_goto C 15 dL_weightOf_9 rfl ?_
    refine V_iconst C (0 : Int32) 16 dL_weightOf_15 rfl rfl ?_
    exact V_nretI C Z (ty := .int) rfl rfl ⟨_, rfl, rfl, upL_0⟩ dL_weightOf_16 (Nat.zero_le _) (Nat.zero_le _)
  · obtain ⟨j, hj⟩ := hc _ rfl
    rcases j with _ | j
    · cases hj
      refine V_callXt C hBA hE ml_L_39 (pre := [(o, aL g 1 f), (od, aD g 1 fd)]) (post := []) (wc := xW g A x) (w1 := xW g A x1) (E := IOOBE) (as := [.int a1]) (rest := [.int (0 : Int32), .ref o]) (c_X3_weightOf (R := .inr (IOOBE, x1)) hst h) 2 (oW g A o od f fd x1) dL_weightOf_4 ⟨Nat.le_of_ble_eq_true rfl, Nat.le_of_ble_eq_true rfl⟩ rfl (by rw [List.append_nil]) (by rw [List.append_nil]) (xW_fst _ _ _ _) rfl rfl (Nat.le_of_ble_eq_true rfl) ⟨Nat.le_refl _, Nat.le_refl _⟩ ?_
      refine VX_catch C htab hN Z.1.2.2.1 (nm := IOOBE) [] (0, 9, 12, 13) [] rfl (fun z hz => absurd hz List.not_mem_nil) ⟨by decide, by decide⟩ (by decide) q800 cs_IOOBE (fun q => ?_)
      refine V_astore_n C 13 ((3, .ref q) :: [(0, .ref A.1), (1, .int a1), (2, .ref o)]) dL_weightOf_12 rfl (hlt 3 (by decide)) rfl ?_
      refine V_iconst C (1 : Int32) 14 dL_weightOf_13 rfl rfl ?_
      exact V_nretI C Z (ty := .int) rfl rfl ⟨f, 0, rfl, rfl, rfl⟩ dL_weightOf_14 (Nat.le_refl _) (Nat.le_refl _)
    · exact absurd hj (by simp)
theorem w_wearOf {l : Launch} {D : va_G} {g : G0} {A : XA} {x : XV} {a1 : Int32} {o od : Nat} {f : Nat → Int64} {fd : Nat → UInt64} {R : (Int32 × XV) ⊕ (String × XV)} (hst : l.stackTraces = false) (h : f_X3_wearOf x a1 = some R) (hc : codesOk [IOOBE] R) : CtH l D g yL_wearOf cL_wearOf 4 (some .int) [(0, 9, 12, 13)] (rmN 10 300 1 6) (oW g A o od f fd x) [.ref A.1, .int a1, .ref o] (wI g A o od fd [IOOBE] R) 1 6 := by
  refine CtH.of (by decide) (Nat.le_of_ble_eq_true rfl) ?_
  intro K C Z htab hN hBA el eD ekn
  subst el
  subst eD
  have hlt : ∀ i, i < 4 → i < kn K := fun i h => by rw [ekn]; exact h
  have hE := Z.1.2.2.2.2.2
  show V K 0 0 (oW g A o od f fd x) [(0, .ref A.1), (1, .int a1), (2, .ref o)] [] 0
  refine V_aload_n C 2 1 dL_wearOf_0 rfl rfl ?_
  refine V_iconst C (0 : Int32) 2 dL_wearOf_1 rfl rfl ?_
  refine V_aload_n C 0 3 dL_wearOf_2 rfl rfl ?_
  refine V_iload_n C 1 4 dL_wearOf_3 rfl rfl ?_
  rcases R with ⟨r, x1⟩ | ⟨E, x1⟩
  · refine V_callXr C hBA hE ml_L_42 (pre := [(o, aL g 1 f), (od, aD g 1 fd)]) (post := []) (wc := xW g A x) (w1 := xW g A x1) (rv := some (.int r)) (as := [.int a1]) (rest := [.int (0 : Int32), .ref o]) (c_X3_wearOf (R := .inl (r, x1)) hst h) 2 7 (oW g A o od f fd x1) dL_wearOf_4 rfl ⟨Nat.le_of_ble_eq_true rfl, Nat.le_of_ble_eq_true rfl⟩ rfl (by rw [List.append_nil]) (by rw [List.append_nil]) (xW_fst _ _ _ _) rfl rfl rfl (Nat.le_of_ble_eq_true rfl) ⟨Nat.zero_le _, Nat.zero_le _⟩ ?_
    refine V_i2l C 8 dL_wearOf_7 rfl ?_
    refine V_last C hBA (f := f) (n := 1) 0 9 _ dL_wearOf_8 rfl rfl (by decide) rfl ?_
    refine V_goto C 15 dL_wearOf_9 rfl ?_
    refine V_iconst C (0 : Int32) 16 dL_wearOf_15 rfl rfl ?_
    exact V_nretI C Z (ty := .int) rfl rfl ⟨_, rfl, rfl, upL_0⟩ dL_wearOf_16 (Nat.zero_le _) (Nat.zero_le _)
  · obtain ⟨j, hj⟩ := hc _ rfl
    rcases j with _ | j
    · cases hj
      refine V_callXt C hBA hE ml_L_42 (pre := [(o, aL g 1 f), (od, aD g 1 fd)]) (post := []) (wc := xW g A x) (w1 := xW g A x1) (E := IOOBE) (as := [.int a1]) (rest := [.int (0 : Int32), .ref o]) (c_X3_wearOf (R := .inr (IOOBE, x1)) hst h) 2 (oW g A o od f fd x1) dL_wearOf_4 ⟨Nat.le_of_ble_eq_true rfl, Nat.le_of_ble_eq_true rfl⟩ rfl (by rw [List.append_nil]) (by rw [List.append_nil]) (xW_fst _ _ _ _) rfl rfl (Nat.le_of_ble_eq_true rfl) ⟨Nat.le_refl _, Nat.le_refl _⟩ ?_
      refine VX_catch C htab hN Z.1.2.2.1 (nm := IOOBE) [] (0, 9, 12, 13) [] rfl (fun z hz => absurd hz List.not_mem_nil) ⟨by decide, by decide⟩ (by decide) q800 cs_IOOBE (fun q => ?_)
      refine V_astore_n C 13 ((3, .ref q) :: [(0, .ref A.1), (1, .int a1), (2, .ref o)]) dL_wearOf_12 rfl (hlt 3 (by decide)) rfl ?_
      refine V_iconst C (1 : Int32) 14 dL_wearOf_13 rfl rfl ?_
      exact V_nretI C Z (ty := .int) rfl rfl ⟨f, 0, rfl, rfl, rfl⟩ dL_wearOf_14 (Nat.le_refl _) (Nat.le_refl _)
    · exact absurd hj (by simp)
theorem w_seatOf {l : Launch} {D : va_G} {g : G0} {A : XA} {x : XV} {a1 : Int32} {o od : Nat} {f : Nat → Int64} {fd : Nat → UInt64} {R : (Int32 × XV) ⊕ (String × XV)} (hst : l.stackTraces = false) (h : f_X3_seatOf x a1 = some R) (hc : codesOk [IOOBE, NSE] R) : CtH l D g yL_seatOf cL_seatOf 4 (some .int) [(0, 9, 12, 13), (0, 9, 15, 48)] (rmN 10 300 1 6) (oW g A o od f fd x) [.ref A.1, .int a1, .ref o] (wI g A o od fd [IOOBE, NSE] R) 1 6 := by
  refine CtH.of (by decide) (Nat.le_of_ble_eq_true rfl) ?_
  intro K C Z htab hN hBA el eD ekn
  subst el
  subst eD
  have hlt : ∀ i, i < 4 → i < kn K := fun i h => by rw [ekn]; exact h
  have hE := Z.1.2.2.2.2.2
  show V K 0 0 (oW g A o od f fd x) [(0, .ref A.1), (1, .int a1), (2, .ref o)] [] 0
  refine V_aload_n C 2 1 dL_seatOf_0 rfl rfl ?_
  refine V_iconst C (0 : Int32) 2 dL_seatOf_1 rfl rfl ?_
  refine V_aload_n C 0 3 dL_seatOf_2 rfl rfl ?_
  refine V_iload_n C 1 4 dL_seatOf_3 rfl rfl ?_
  rcases R with ⟨r, x1⟩ | ⟨E, x1⟩
  · refine V_callXr C hBA hE ml_L_45 (pre := [(o, aL g 1 f), (od, aD g 1 fd)]) (post := []) (wc := xW g A x) (w1 := xW g A x1) (rv := some (.int r)) (as := [.int a1]) (rest := [.int (0 : Int32), .ref o]) (c_X3_seatOf (R := .inl (r, x1)) hst h) 2 7 (oW g A o od f fd x1) dL_seatOf_4 rfl ⟨Nat.le_of_ble_eq_true rfl, Nat.le_of_ble_eq_true rfl⟩ rfl (by rw [List.append_nil]) (by rw [List.append_nil]) (xW_fst _ _ _ _) rfl rfl rfl (Nat.le_of_ble_eq_true rfl) ⟨Nat.zero_le _, Nat.zero_le _⟩ ?_
    refine V_i2l C 8 dL_seatOf_7 rfl ?_
    refine V_last C hBA (f := f) (n := 1) 0 9 _ dL_seatOf_8 rfl rfl (by decide) rfl ?_
    refine V_goto C 18 dL_seatOf_9 rfl ?_
    refine V_iconst C (0 : Int32) 19 dL_seatOf_18 rfl rfl ?_
    exact V_nretI C Z (ty := .int) rfl rfl ⟨_, rfl, rfl, upL_0⟩ dL_seatOf_19 (Nat.zero_le _) (Nat.zero_le _)
  · obtain ⟨j, hj⟩ := hc _ rfl
    rcases j with _ | _ | j
    · cases hj
      refine V_callXt C hBA hE ml_L_45 (pre := [(o, aL g 1 f), (od, aD g 1 fd)]) (post := []) (wc := xW g A x) (w1 := xW g A x1) (E := IOOBE) (as := [.int a1]) (rest := [.int (0 : Int32), .ref o]) (c_X3_seatOf (R := .inr (IOOBE, x1)) hst h) 2 (oW g A o od f fd x1) dL_seatOf_4 ⟨Nat.le_of_ble_eq_true rfl, Nat.le_of_ble_eq_true rfl⟩ rfl (by rw [List.append_nil]) (by rw [List.append_nil]) (xW_fst _ _ _ _) rfl rfl (Nat.le_of_ble_eq_true rfl) ⟨Nat.le_refl _, Nat.le_refl _⟩ ?_
      refine VX_catch C htab hN Z.1.2.2.1 (nm := IOOBE) [] (0, 9, 12, 13) [(0, 9, 15, 48)] rfl (fun z hz => absurd hz List.not_mem_nil) ⟨by decide, by decide⟩ (by decide) q800 cs_IOOBE (fun q => ?_)
      refine V_astore_n C 13 ((3, .ref q) :: [(0, .ref A.1), (1, .int a1), (2, .ref o)]) dL_seatOf_12 rfl (hlt 3 (by decide)) rfl ?_
      refine V_iconst C (1 : Int32) 14 dL_seatOf_13 rfl rfl ?_
      exact V_nretI C Z (ty := .int) rfl rfl ⟨f, 0, rfl, rfl, rfl⟩ dL_seatOf_14 (Nat.le_refl _) (Nat.le_refl _)
    · cases hj
      refine V_callXt C hBA hE ml_L_45 (pre := [(o, aL g 1 f), (od, aD g 1 fd)]) (post := []) (wc := xW g A x) (w1 := xW g A x1) (E := NSE) (as := [.int a1]) (rest := [.int (0 : Int32), .ref o]) (c_X3_seatOf (R := .inr (NSE, x1)) hst h) 2 (oW g A o od f fd x1) dL_seatOf_4 ⟨Nat.le_of_ble_eq_true rfl, Nat.le_of_ble_eq_true rfl⟩ rfl (by rw [List.append_nil]) (by rw [List.append_nil]) (xW_fst _ _ _ _) rfl rfl (Nat.le_of_ble_eq_true rfl) ⟨Nat.le_refl _, Nat.le_refl _⟩ ?_
      refine VX_catch C htab hN Z.1.2.2.1 (nm := NSE) [(0, 9, 12, 13)] (0, 9, 15, 48) [] rfl (List.forall_mem_cons.mpr ⟨⟨by decide, _, q800, List.mem_of_getElem? (i := 3) rfl⟩, fun z hz => absurd hz List.not_mem_nil⟩) ⟨by decide, by decide⟩ (by decide) q1045 cs_NSE (fun q => ?_)
      refine V_astore_n C 16 ((3, .ref q) :: [(0, .ref A.1), (1, .int a1), (2, .ref o)]) dL_seatOf_15 rfl (hlt 3 (by decide)) rfl ?_
      refine V_iconst C (2 : Int32) 17 dL_seatOf_16 rfl rfl ?_
      exact V_nretI C Z (ty := .int) rfl rfl ⟨f, 1, rfl, rfl, rfl⟩ dL_seatOf_17 (Nat.le_refl _) (Nat.le_refl _)
    · exact absurd hj (by simp)
theorem w_ribbonIn {l : Launch} {D : va_G} {g : G0} {A : XA} {x : XV} {a1 : Int32} {o od : Nat} {f : Nat → Int64} {fd : Nat → UInt64} {R : (Int32 × XV) ⊕ (String × XV)} (hst : l.stackTraces = false) (h : f_X3_ribbonIn x a1 = some R) (hc : codesOk [IOOBE, NSE] R) : CtH l D g yL_ribbonIn cL_ribbonIn 4 (some .int) [(0, 9, 12, 13), (0, 9, 15, 48)] (rmN 10 300 1 6) (oW g A o od f fd x) [.ref A.1, .int a1, .ref o] (wI g A o od fd [IOOBE, NSE] R) 1 6 := by
  refine CtH.of (by decide) (Nat.le_of_ble_eq_true rfl) ?_
  intro K C Z htab hN hBA el eD ekn
  subst el
  subst eD
  have hlt : ∀ i, i < 4 → i < kn K := fun i h => by rw [ekn]; exact h
  have hE := Z.1.2.2.2.2.2
  show V K 0 0 (oW g A o od f fd x) [(0, .ref A.1), (1, .int a1), (2, .ref o)] [] 0
  refine V_aload_n C 2 1 dL_ribbonIn_0 rfl rfl ?_
  refine V_iconst C (0 : Int32) 2 dL_ribbonIn_1 rfl rfl ?_
  refine V_aload_n C 0 3 dL_ribbonIn_2 rfl rfl ?_
  refine V_iload_n C 1 4 dL_ribbonIn_3 rfl rfl ?_
  rcases R with ⟨r, x1⟩ | ⟨E, x1⟩
  · refine V_callXr C hBA hE ml_L_50 (pre := [(o, aL g 1 f), (od, aD g 1 fd)]) (post := []) (wc := xW g A x) (w1 := xW g A x1) (rv := some (.int r)) (as := [.int a1]) (rest := [.int (0 : Int32), .ref o]) (c_X3_ribbonIn (R := .inl (r, x1)) hst h) 2 7 (oW g A o od f fd x1) dL_ribbonIn_4 rfl ⟨Nat.le_of_ble_eq_true rfl, Nat.le_of_ble_eq_true rfl⟩ rfl (by rw [List.append_nil]) (by rw [List.append_nil]) (xW_fst _ _ _ _) rfl rfl rfl (Nat.le_of_ble_eq_true rfl) ⟨Nat.zero_le _, Nat.zero_le _⟩ ?_
    refine V_i2l C 8 dL_ribbonIn_7 rfl ?_
    refine V_last C hBA (f := f) (n := 1) 0 9 _ dL_ribbonIn_8 rfl rfl (by decide) rfl ?_
    refine V_goto C 18 dL_ribbonIn_9 rfl ?_
    refine V_iconst C (0 : Int32) 19 dL_ribbonIn_18 rfl rfl ?_
    exact V_nretI C Z (ty := .int) rfl rfl ⟨_, rfl, rfl, upL_0⟩ dL_ribbonIn_19 (Nat.zero_le _) (Nat.zero_le _)
  · obtain ⟨j, hj⟩ := hc _ rfl
    rcases j with _ | _ | j
    · cases hj
      refine V_callXt C hBA hE ml_L_50 (pre := [(o, aL g 1 f), (od, aD g 1 fd)]) (post := []) (wc := xW g A x) (w1 := xW g A x1) (E := IOOBE) (as := [.int a1]) (rest := [.int (0 : Int32), .ref o]) (c_X3_ribbonIn (R := .inr (IOOBE, x1)) hst h) 2 (oW g A o od f fd x1) dL_ribbonIn_4 ⟨Nat.le_of_ble_eq_true rfl, Nat.le_of_ble_eq_true rfl⟩ rfl (by rw [List.append_nil]) (by rw [List.append_nil]) (xW_fst _ _ _ _) rfl rfl (Nat.le_of_ble_eq_true rfl) ⟨Nat.le_refl _, Nat.le_refl _⟩ ?_
      refine VX_catch C htab hN Z.1.2.2.1 (nm := IOOBE) [] (0, 9, 12, 13) [(0, 9, 15, 48)] rfl (fun z hz => absurd hz List.not_mem_nil) ⟨by decide, by decide⟩ (by decide) q800 cs_IOOBE (fun q => ?_)
      refine V_astore_n C 13 ((3, .ref q) :: [(0, .ref A.1), (1, .int a1), (2, .ref o)]) dL_ribbonIn_12 rfl (hlt 3 (by decide)) rfl ?_
      refine V_iconst C (1 : Int32) 14 dL_ribbonIn_13 rfl rfl ?_
      exact V_nretI C Z (ty := .int) rfl rfl ⟨f, 0, rfl, rfl, rfl⟩ dL_ribbonIn_14 (Nat.le_refl _) (Nat.le_refl _)
    · cases hj
      refine V_callXt C hBA hE ml_L_50 (pre := [(o, aL g 1 f), (od, aD g 1 fd)]) (post := []) (wc := xW g A x) (w1 := xW g A x1) (E := NSE) (as := [.int a1]) (rest := [.int (0 : Int32), .ref o]) (c_X3_ribbonIn (R := .inr (NSE, x1)) hst h) 2 (oW g A o od f fd x1) dL_ribbonIn_4 ⟨Nat.le_of_ble_eq_true rfl, Nat.le_of_ble_eq_true rfl⟩ rfl (by rw [List.append_nil]) (by rw [List.append_nil]) (xW_fst _ _ _ _) rfl rfl (Nat.le_of_ble_eq_true rfl) ⟨Nat.le_refl _, Nat.le_refl _⟩ ?_
      refine VX_catch C htab hN Z.1.2.2.1 (nm := NSE) [(0, 9, 12, 13)] (0, 9, 15, 48) [] rfl (List.forall_mem_cons.mpr ⟨⟨by decide, _, q800, List.mem_of_getElem? (i := 3) rfl⟩, fun z hz => absurd hz List.not_mem_nil⟩) ⟨by decide, by decide⟩ (by decide) q1045 cs_NSE (fun q => ?_)
      refine V_astore_n C 16 ((3, .ref q) :: [(0, .ref A.1), (1, .int a1), (2, .ref o)]) dL_ribbonIn_15 rfl (hlt 3 (by decide)) rfl ?_
      refine V_iconst C (2 : Int32) 17 dL_ribbonIn_16 rfl rfl ?_
      exact V_nretI C Z (ty := .int) rfl rfl ⟨f, 1, rfl, rfl, rfl⟩ dL_ribbonIn_17 (Nat.le_refl _) (Nat.le_refl _)
    · exact absurd hj (by simp)
theorem w_isHeld {l : Launch} {D : va_G} {g : G0} {A : XA} {x : XV} {a1 : Int32} {o od : Nat} {f : Nat → Int64} {fd : Nat → UInt64} {R : (Int32 × XV) ⊕ (String × XV)} (hst : l.stackTraces = false) (h : f_X3_isHeld x a1 = some R) (hc : codesOk [IOOBE] R) : CtH l D g yL_isHeld cL_isHeld 4 (some .int) [(0, 16, 19, 13)] (rmN 10 300 1 6) (oW g A o od f fd x) [.ref A.1, .int a1, .ref o] (wB g A o od fd [IOOBE] R) 1 6 := by
  refine CtH.of (by decide) (Nat.le_of_ble_eq_true rfl) ?_
  intro K C Z htab hN hBA el eD ekn
  subst el
  subst eD
  have hlt : ∀ i, i < 4 → i < kn K := fun i h => by rw [ekn]; exact h
  have hE := Z.1.2.2.2.2.2
  show V K 0 0 (oW g A o od f fd x) [(0, .ref A.1), (1, .int a1), (2, .ref o)] [] 0
  refine V_aload_n C 2 1 dL_isHeld_0 rfl rfl ?_
  refine V_iconst C (0 : Int32) 2 dL_isHeld_1 rfl rfl ?_
  refine V_aload_n C 0 3 dL_isHeld_2 rfl rfl ?_
  refine V_iload_n C 1 4 dL_isHeld_3 rfl rfl ?_
  rcases R with ⟨r, x1⟩ | ⟨E, x1⟩
  · refine V_callXr C hBA hE ml_L_53 (pre := [(o, aL g 1 f), (od, aD g 1 fd)]) (post := []) (wc := xW g A x) (w1 := xW g A x1) (rv := some (.int r)) (as := [.int a1]) (rest := [.int (0 : Int32), .ref o]) (c_X3_isHeld (R := .inl (r, x1)) hst h) 2 7 (oW g A o od f fd x1) dL_isHeld_4 rfl ⟨Nat.le_of_ble_eq_true rfl, Nat.le_of_ble_eq_true rfl⟩ rfl (by rw [List.append_nil]) (by rw [List.append_nil]) (xW_fst _ _ _ _) rfl rfl rfl (Nat.le_of_ble_eq_true rfl) ⟨Nat.zero_le _, Nat.zero_le _⟩ ?_
    refine V_if_eq C 14 10 dL_isHeld_7 rfl rfl (fun e => ?_) (fun e => ?_)
    · refine V_lconst C (0 : Int64) 15 dL_isHeld_14 rfl rfl ?_
      refine V_last C hBA (f := f) (n := 1) 0 16 _ dL_isHeld_15 rfl rfl (by decide) rfl ?_
      refine V_goto C 22 dL_isHeld_16 rfl ?_
      refine V_iconst C (0 : Int32) 23 dL_isHeld_22 rfl rfl ?_
      exact V_nretI C Z (ty := .int) rfl rfl ⟨_, rfl, rfl, upL_0.trans (if_pos e).symm⟩ dL_isHeld_23 (Nat.zero_le _) (Nat.zero_le _)
    · refine V_lconst C (1 : Int64) 11 dL_isHeld_10 rfl rfl ?_
      refine V_goto C 15 dL_isHeld_11 rfl ?_
      refine V_last C hBA (f := f) (n := 1) 0 16 _ dL_isHeld_15 rfl rfl (by decide) rfl ?_
      refine V_goto C 22 dL_isHeld_16 rfl ?_
      refine V_iconst C (0 : Int32) 23 dL_isHeld_22 rfl rfl ?_
      exact V_nretI C Z (ty := .int) rfl rfl ⟨_, rfl, rfl, upL_0.trans (if_neg e).symm⟩ dL_isHeld_23 (Nat.zero_le _) (Nat.zero_le _)
  · obtain ⟨j, hj⟩ := hc _ rfl
    rcases j with _ | j
    · cases hj
      refine V_callXt C hBA hE ml_L_53 (pre := [(o, aL g 1 f), (od, aD g 1 fd)]) (post := []) (wc := xW g A x) (w1 := xW g A x1) (E := IOOBE) (as := [.int a1]) (rest := [.int (0 : Int32), .ref o]) (c_X3_isHeld (R := .inr (IOOBE, x1)) hst h) 2 (oW g A o od f fd x1) dL_isHeld_4 ⟨Nat.le_of_ble_eq_true rfl, Nat.le_of_ble_eq_true rfl⟩ rfl (by rw [List.append_nil]) (by rw [List.append_nil]) (xW_fst _ _ _ _) rfl rfl (Nat.le_of_ble_eq_true rfl) ⟨Nat.le_refl _, Nat.le_refl _⟩ ?_
      refine VX_catch C htab hN Z.1.2.2.1 (nm := IOOBE) [] (0, 16, 19, 13) [] rfl (fun z hz => absurd hz List.not_mem_nil) ⟨by decide, by decide⟩ (by decide) q800 cs_IOOBE (fun q => ?_)
      refine V_astore_n C 20 ((3, .ref q) :: [(0, .ref A.1), (1, .int a1), (2, .ref o)]) dL_isHeld_19 rfl (hlt 3 (by decide)) rfl ?_
      refine V_iconst C (1 : Int32) 21 dL_isHeld_20 rfl rfl ?_
      exact V_nretI C Z (ty := .int) rfl rfl ⟨f, 0, rfl, rfl, rfl⟩ dL_isHeld_21 (Nat.le_refl _) (Nat.le_refl _)
    · exact absurd hj (by simp)
theorem w_markOn {l : Launch} {D : va_G} {g : G0} {A : XA} {x : XV} {a1 : Int32} {o od : Nat} {f : Nat → Int64} {fd : Nat → UInt64} {R : (Int32 × XV) ⊕ (String × XV)} (hst : l.stackTraces = false) (h : f_X3_markOn x a1 = some R) (hc : codesOk [IOOBE, NSE] R) : CtH l D g yL_markOn cL_markOn 4 (some .int) [(0, 9, 12, 13), (0, 9, 15, 48)] (rmN 10 300 1 6) (oW g A o od f fd x) [.ref A.1, .int a1, .ref o] (wI g A o od fd [IOOBE, NSE] R) 1 6 := by
  refine CtH.of (by decide) (Nat.le_of_ble_eq_true rfl) ?_
  intro K C Z htab hN hBA el eD ekn
  subst el
  subst eD
  have hlt : ∀ i, i < 4 → i < kn K := fun i h => by rw [ekn]; exact h
  have hE := Z.1.2.2.2.2.2
  show V K 0 0 (oW g A o od f fd x) [(0, .ref A.1), (1, .int a1), (2, .ref o)] [] 0
  refine V_aload_n C 2 1 dL_markOn_0 rfl rfl ?_
  refine V_iconst C (0 : Int32) 2 dL_markOn_1 rfl rfl ?_
  refine V_aload_n C 0 3 dL_markOn_2 rfl rfl ?_
  refine V_iload_n C 1 4 dL_markOn_3 rfl rfl ?_
  rcases R with ⟨r, x1⟩ | ⟨E, x1⟩
  · refine V_callXr C hBA hE ml_L_56 (pre := [(o, aL g 1 f), (od, aD g 1 fd)]) (post := []) (wc := xW g A x) (w1 := xW g A x1) (rv := some (.int r)) (as := [.int a1]) (rest := [.int (0 : Int32), .ref o]) (c_X3_markOn (R := .inl (r, x1)) hst h) 2 7 (oW g A o od f fd x1) dL_markOn_4 rfl ⟨Nat.le_of_ble_eq_true rfl, Nat.le_of_ble_eq_true rfl⟩ rfl (by rw [List.append_nil]) (by rw [List.append_nil]) (xW_fst _ _ _ _) rfl rfl rfl (Nat.le_of_ble_eq_true rfl) ⟨Nat.zero_le _, Nat.zero_le _⟩ ?_
    refine V_i2l C 8 dL_markOn_7 rfl ?_
    refine V_last C hBA (f := f) (n := 1) 0 9 _ dL_markOn_8 rfl rfl (by decide) rfl ?_
    refine V_goto C 18 dL_markOn_9 rfl ?_
    refine V_iconst C (0 : Int32) 19 dL_markOn_18 rfl rfl ?_
    exact V_nretI C Z (ty := .int) rfl rfl ⟨_, rfl, rfl, upL_0⟩ dL_markOn_19 (Nat.zero_le _) (Nat.zero_le _)
  · obtain ⟨j, hj⟩ := hc _ rfl
    rcases j with _ | _ | j
    · cases hj
      refine V_callXt C hBA hE ml_L_56 (pre := [(o, aL g 1 f), (od, aD g 1 fd)]) (post := []) (wc := xW g A x) (w1 := xW g A x1) (E := IOOBE) (as := [.int a1]) (rest := [.int (0 : Int32), .ref o]) (c_X3_markOn (R := .inr (IOOBE, x1)) hst h) 2 (oW g A o od f fd x1) dL_markOn_4 ⟨Nat.le_of_ble_eq_true rfl, Nat.le_of_ble_eq_true rfl⟩ rfl (by rw [List.append_nil]) (by rw [List.append_nil]) (xW_fst _ _ _ _) rfl rfl (Nat.le_of_ble_eq_true rfl) ⟨Nat.le_refl _, Nat.le_refl _⟩ ?_
      refine VX_catch C htab hN Z.1.2.2.1 (nm := IOOBE) [] (0, 9, 12, 13) [(0, 9, 15, 48)] rfl (fun z hz => absurd hz List.not_mem_nil) ⟨by decide, by decide⟩ (by decide) q800 cs_IOOBE (fun q => ?_)
      refine V_astore_n C 13 ((3, .ref q) :: [(0, .ref A.1), (1, .int a1), (2, .ref o)]) dL_markOn_12 rfl (hlt 3 (by decide)) rfl ?_
      refine V_iconst C (1 : Int32) 14 dL_markOn_13 rfl rfl ?_
      exact V_nretI C Z (ty := .int) rfl rfl ⟨f, 0, rfl, rfl, rfl⟩ dL_markOn_14 (Nat.le_refl _) (Nat.le_refl _)
    · cases hj
      refine V_callXt C hBA hE ml_L_56 (pre := [(o, aL g 1 f), (od, aD g 1 fd)]) (post := []) (wc := xW g A x) (w1 := xW g A x1) (E := NSE) (as := [.int a1]) (rest := [.int (0 : Int32), .ref o]) (c_X3_markOn (R := .inr (NSE, x1)) hst h) 2 (oW g A o od f fd x1) dL_markOn_4 ⟨Nat.le_of_ble_eq_true rfl, Nat.le_of_ble_eq_true rfl⟩ rfl (by rw [List.append_nil]) (by rw [List.append_nil]) (xW_fst _ _ _ _) rfl rfl (Nat.le_of_ble_eq_true rfl) ⟨Nat.le_refl _, Nat.le_refl _⟩ ?_
      refine VX_catch C htab hN Z.1.2.2.1 (nm := NSE) [(0, 9, 12, 13)] (0, 9, 15, 48) [] rfl (List.forall_mem_cons.mpr ⟨⟨by decide, _, q800, List.mem_of_getElem? (i := 3) rfl⟩, fun z hz => absurd hz List.not_mem_nil⟩) ⟨by decide, by decide⟩ (by decide) q1045 cs_NSE (fun q => ?_)
      refine V_astore_n C 16 ((3, .ref q) :: [(0, .ref A.1), (1, .int a1), (2, .ref o)]) dL_markOn_15 rfl (hlt 3 (by decide)) rfl ?_
      refine V_iconst C (2 : Int32) 17 dL_markOn_16 rfl rfl ?_
      exact V_nretI C Z (ty := .int) rfl rfl ⟨f, 1, rfl, rfl, rfl⟩ dL_markOn_17 (Nat.le_refl _) (Nat.le_refl _)
    · exact absurd hj (by simp)
theorem w_nextMark {l : Launch} {D : va_G} {g : G0} {A : XA} {x : XV} {a1 : Int32} {o od : Nat} {f : Nat → Int64} {fd : Nat → UInt64} {R : (Int32 × XV) ⊕ (String × XV)} (hst : l.stackTraces = false) (h : f_X3_nextMark x a1 = some R) (hc : codesOk [IOOBE, NSE] R) : CtH l D g yL_nextMark cL_nextMark 4 (some .int) [(0, 9, 12, 13), (0, 9, 15, 48)] (rmN 10 300 1 6) (oW g A o od f fd x) [.ref A.1, .int a1, .ref o] (wI g A o od fd [IOOBE, NSE] R) 1 6 := by
  refine CtH.of (by decide) (Nat.le_of_ble_eq_true rfl) ?_
  intro K C Z htab hN hBA el eD ekn
  subst el
  subst eD
  have hlt : ∀ i, i < 4 → i < kn K := fun i h => by rw [ekn]; exact h
  have hE := Z.1.2.2.2.2.2
  show V K 0 0 (oW g A o od f fd x) [(0, .ref A.1), (1, .int a1), (2, .ref o)] [] 0
  refine V_aload_n C 2 1 dL_nextMark_0 rfl rfl ?_
  refine V_iconst C (0 : Int32) 2 dL_nextMark_1 rfl rfl ?_
  refine V_aload_n C 0 3 dL_nextMark_2 rfl rfl ?_
  refine V_iload_n C 1 4 dL_nextMark_3 rfl rfl ?_
  rcases R with ⟨r, x1⟩ | ⟨E, x1⟩
  · refine V_callXr C hBA hE ml_L_59 (pre := [(o, aL g 1 f), (od, aD g 1 fd)]) (post := []) (wc := xW g A x) (w1 := xW g A x1) (rv := some (.int r)) (as := [.int a1]) (rest := [.int (0 : Int32), .ref o]) (c_X3_nextMark (R := .inl (r, x1)) hst h) 2 7 (oW g A o od f fd x1) dL_nextMark_4 rfl ⟨Nat.le_of_ble_eq_true rfl, Nat.le_of_ble_eq_true rfl⟩ rfl (by rw [List.append_nil]) (by rw [List.append_nil]) (xW_fst _ _ _ _) rfl rfl rfl (Nat.le_of_ble_eq_true rfl) ⟨Nat.zero_le _, Nat.zero_le _⟩ ?_
    refine V_i2l C 8 dL_nextMark_7 rfl ?_
    refine V_last C hBA (f := f) (n := 1) 0 9 _ dL_nextMark_8 rfl rfl (by decide) rfl ?_
    refine V_goto C 18 dL_nextMark_9 rfl ?_
    refine V_iconst C (0 : Int32) 19 dL_nextMark_18 rfl rfl ?_
    exact V_nretI C Z (ty := .int) rfl rfl ⟨_, rfl, rfl, upL_0⟩ dL_nextMark_19 (Nat.zero_le _) (Nat.zero_le _)
  · obtain ⟨j, hj⟩ := hc _ rfl
    rcases j with _ | _ | j
    · cases hj
      refine V_callXt C hBA hE ml_L_59 (pre := [(o, aL g 1 f), (od, aD g 1 fd)]) (post := []) (wc := xW g A x) (w1 := xW g A x1) (E := IOOBE) (as := [.int a1]) (rest := [.int (0 : Int32), .ref o]) (c_X3_nextMark (R := .inr (IOOBE, x1)) hst h) 2 (oW g A o od f fd x1) dL_nextMark_4 ⟨Nat.le_of_ble_eq_true rfl, Nat.le_of_ble_eq_true rfl⟩ rfl (by rw [List.append_nil]) (by rw [List.append_nil]) (xW_fst _ _ _ _) rfl rfl (Nat.le_of_ble_eq_true rfl) ⟨Nat.le_refl _, Nat.le_refl _⟩ ?_
      refine VX_catch C htab hN Z.1.2.2.1 (nm := IOOBE) [] (0, 9, 12, 13) [(0, 9, 15, 48)] rfl (fun z hz => absurd hz List.not_mem_nil) ⟨by decide, by decide⟩ (by decide) q800 cs_IOOBE (fun q => ?_)
      refine V_astore_n C 13 ((3, .ref q) :: [(0, .ref A.1), (1, .int a1), (2, .ref o)]) dL_nextMark_12 rfl (hlt 3 (by decide)) rfl ?_
      refine V_iconst C (1 : Int32) 14 dL_nextMark_13 rfl rfl ?_
      exact V_nretI C Z (ty := .int) rfl rfl ⟨f, 0, rfl, rfl, rfl⟩ dL_nextMark_14 (Nat.le_refl _) (Nat.le_refl _)
    · cases hj
      refine V_callXt C hBA hE ml_L_59 (pre := [(o, aL g 1 f), (od, aD g 1 fd)]) (post := []) (wc := xW g A x) (w1 := xW g A x1) (E := NSE) (as := [.int a1]) (rest := [.int (0 : Int32), .ref o]) (c_X3_nextMark (R := .inr (NSE, x1)) hst h) 2 (oW g A o od f fd x1) dL_nextMark_4 ⟨Nat.le_of_ble_eq_true rfl, Nat.le_of_ble_eq_true rfl⟩ rfl (by rw [List.append_nil]) (by rw [List.append_nil]) (xW_fst _ _ _ _) rfl rfl (Nat.le_of_ble_eq_true rfl) ⟨Nat.le_refl _, Nat.le_refl _⟩ ?_
      refine VX_catch C htab hN Z.1.2.2.1 (nm := NSE) [(0, 9, 12, 13)] (0, 9, 15, 48) [] rfl (List.forall_mem_cons.mpr ⟨⟨by decide, _, q800, List.mem_of_getElem? (i := 3) rfl⟩, fun z hz => absurd hz List.not_mem_nil⟩) ⟨by decide, by decide⟩ (by decide) q1045 cs_NSE (fun q => ?_)
      refine V_astore_n C 16 ((3, .ref q) :: [(0, .ref A.1), (1, .int a1), (2, .ref o)]) dL_nextMark_15 rfl (hlt 3 (by decide)) rfl ?_
      refine V_iconst C (2 : Int32) 17 dL_nextMark_16 rfl rfl ?_
      exact V_nretI C Z (ty := .int) rfl rfl ⟨f, 1, rfl, rfl, rfl⟩ dL_nextMark_17 (Nat.le_refl _) (Nat.le_refl _)
    · exact absurd hj (by simp)
theorem w_previousMark {l : Launch} {D : va_G} {g : G0} {A : XA} {x : XV} {a1 : Int32} {o od : Nat} {f : Nat → Int64} {fd : Nat → UInt64} {R : (Int32 × XV) ⊕ (String × XV)} (hst : l.stackTraces = false) (h : f_X3_previousMark x a1 = some R) (hc : codesOk [IOOBE, NSE] R) : CtH l D g yL_previousMark cL_previousMark 4 (some .int) [(0, 9, 12, 13), (0, 9, 15, 48)] (rmN 10 300 1 6) (oW g A o od f fd x) [.ref A.1, .int a1, .ref o] (wI g A o od fd [IOOBE, NSE] R) 1 6 := by
  refine CtH.of (by decide) (Nat.le_of_ble_eq_true rfl) ?_
  intro K C Z htab hN hBA el eD ekn
  subst el
  subst eD
  have hlt : ∀ i, i < 4 → i < kn K := fun i h => by rw [ekn]; exact h
  have hE := Z.1.2.2.2.2.2
  show V K 0 0 (oW g A o od f fd x) [(0, .ref A.1), (1, .int a1), (2, .ref o)] [] 0
  refine V_aload_n C 2 1 dL_previousMark_0 rfl rfl ?_
  refine V_iconst C (0 : Int32) 2 dL_previousMark_1 rfl rfl ?_
  refine V_aload_n C 0 3 dL_previousMark_2 rfl rfl ?_
  refine V_iload_n C 1 4 dL_previousMark_3 rfl rfl ?_
  rcases R with ⟨r, x1⟩ | ⟨E, x1⟩
  · refine V_callXr C hBA hE ml_L_62 (pre := [(o, aL g 1 f), (od, aD g 1 fd)]) (post := []) (wc := xW g A x) (w1 := xW g A x1) (rv := some (.int r)) (as := [.int a1]) (rest := [.int (0 : Int32), .ref o]) (c_X3_previousMark (R := .inl (r, x1)) hst h) 2 7 (oW g A o od f fd x1) dL_previousMark_4 rfl ⟨Nat.le_of_ble_eq_true rfl, Nat.le_of_ble_eq_true rfl⟩ rfl (by rw [List.append_nil]) (by rw [List.append_nil]) (xW_fst _ _ _ _) rfl rfl rfl (Nat.le_of_ble_eq_true rfl) ⟨Nat.zero_le _, Nat.zero_le _⟩ ?_
    refine V_i2l C 8 dL_previousMark_7 rfl ?_
    refine V_last C hBA (f := f) (n := 1) 0 9 _ dL_previousMark_8 rfl rfl (by decide) rfl ?_
    refine V_goto C 18 dL_previousMark_9 rfl ?_
    refine V_iconst C (0 : Int32) 19 dL_previousMark_18 rfl rfl ?_
    exact V_nretI C Z (ty := .int) rfl rfl ⟨_, rfl, rfl, upL_0⟩ dL_previousMark_19 (Nat.zero_le _) (Nat.zero_le _)
  · obtain ⟨j, hj⟩ := hc _ rfl
    rcases j with _ | _ | j
    · cases hj
      refine V_callXt C hBA hE ml_L_62 (pre := [(o, aL g 1 f), (od, aD g 1 fd)]) (post := []) (wc := xW g A x) (w1 := xW g A x1) (E := IOOBE) (as := [.int a1]) (rest := [.int (0 : Int32), .ref o]) (c_X3_previousMark (R := .inr (IOOBE, x1)) hst h) 2 (oW g A o od f fd x1) dL_previousMark_4 ⟨Nat.le_of_ble_eq_true rfl, Nat.le_of_ble_eq_true rfl⟩ rfl (by rw [List.append_nil]) (by rw [List.append_nil]) (xW_fst _ _ _ _) rfl rfl (Nat.le_of_ble_eq_true rfl) ⟨Nat.le_refl _, Nat.le_refl _⟩ ?_
      refine VX_catch C htab hN Z.1.2.2.1 (nm := IOOBE) [] (0, 9, 12, 13) [(0, 9, 15, 48)] rfl (fun z hz => absurd hz List.not_mem_nil) ⟨by decide, by decide⟩ (by decide) q800 cs_IOOBE (fun q => ?_)
      refine V_astore_n C 13 ((3, .ref q) :: [(0, .ref A.1), (1, .int a1), (2, .ref o)]) dL_previousMark_12 rfl (hlt 3 (by decide)) rfl ?_
      refine V_iconst C (1 : Int32) 14 dL_previousMark_13 rfl rfl ?_
      exact V_nretI C Z (ty := .int) rfl rfl ⟨f, 0, rfl, rfl, rfl⟩ dL_previousMark_14 (Nat.le_refl _) (Nat.le_refl _)
    · cases hj
      refine V_callXt C hBA hE ml_L_62 (pre := [(o, aL g 1 f), (od, aD g 1 fd)]) (post := []) (wc := xW g A x) (w1 := xW g A x1) (E := NSE) (as := [.int a1]) (rest := [.int (0 : Int32), .ref o]) (c_X3_previousMark (R := .inr (NSE, x1)) hst h) 2 (oW g A o od f fd x1) dL_previousMark_4 ⟨Nat.le_of_ble_eq_true rfl, Nat.le_of_ble_eq_true rfl⟩ rfl (by rw [List.append_nil]) (by rw [List.append_nil]) (xW_fst _ _ _ _) rfl rfl (Nat.le_of_ble_eq_true rfl) ⟨Nat.le_refl _, Nat.le_refl _⟩ ?_
      refine VX_catch C htab hN Z.1.2.2.1 (nm := NSE) [(0, 9, 12, 13)] (0, 9, 15, 48) [] rfl (List.forall_mem_cons.mpr ⟨⟨by decide, _, q800, List.mem_of_getElem? (i := 3) rfl⟩, fun z hz => absurd hz List.not_mem_nil⟩) ⟨by decide, by decide⟩ (by decide) q1045 cs_NSE (fun q => ?_)
      refine V_astore_n C 16 ((3, .ref q) :: [(0, .ref A.1), (1, .int a1), (2, .ref o)]) dL_previousMark_15 rfl (hlt 3 (by decide)) rfl ?_
      refine V_iconst C (2 : Int32) 17 dL_previousMark_16 rfl rfl ?_
      exact V_nretI C Z (ty := .int) rfl rfl ⟨f, 1, rfl, rfl, rfl⟩ dL_previousMark_17 (Nat.le_refl _) (Nat.le_refl _)
    · exact absurd hj (by simp)
