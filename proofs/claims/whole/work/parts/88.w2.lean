/-! ===== wrappers ===== -/
theorem w_earsAtRisk {l : Launch} {D : va_G} {g : G0} {A : XA} {x : XV} {a1 a2 : Int32} {o od : Nat} {f : Nat → Int64} {fd : Nat → UInt64} {R : (Int32 × XV) ⊕ (String × XV)} (hst : l.stackTraces = false) (h : f_X3_earsAtRisk x a1 a2 = some R) (hc : codesOk [IAE] R) : CtH l D g yL_earsAtRisk cL_earsAtRisk 5 (some .int) [(0, 10, 13, 15)] (rmN 10 300 1 6) (oW g A o od f fd x) [.ref A.1, .int a1, .int a2, .ref o] (wI g A o od fd [IAE] R) 1 6 := by
  refine CtH.of (by decide) (Nat.le_of_ble_eq_true rfl) ?_
  intro K C Z htab hN hBA el eD ekn
  subst el
  subst eD
  have hlt : ∀ i, i < 5 → i < kn K := fun i h => by rw [ekn]; exact h
  have hE := Z.1.2.2.2.2.2
  show V K 0 0 (oW g A o od f fd x) [(0, .ref A.1), (1, .int a1), (2, .int a2), (3, .ref o)] [] 0
  refine V_aload_n C 3 1 dL_earsAtRisk_0 rfl rfl ?_
  refine V_iconst C (0 : Int32) 2 dL_earsAtRisk_1 rfl rfl ?_
  refine V_aload_n C 0 3 dL_earsAtRisk_2 rfl rfl ?_
  refine V_iload_n C 1 4 dL_earsAtRisk_3 rfl rfl ?_
  refine V_iload_n C 2 5 dL_earsAtRisk_4 rfl rfl ?_
  rcases R with ⟨r, x1⟩ | ⟨E, x1⟩
  · refine V_callXr C hBA hE ml_L_112 (pre := [(o, aL g 1 f), (od, aD g 1 fd)]) (post := []) (wc := xW g A x) (w1 := xW g A x1) (rv := some (.int r)) (as := [.int a1, .int a2]) (rest := [.int (0 : Int32), .ref o]) (c_X3_earsAtRisk (R := .inl (r, x1)) hst h) 2 8 (oW g A o od f fd x1) dL_earsAtRisk_5 rfl ⟨Nat.le_of_ble_eq_true rfl, Nat.le_of_ble_eq_true rfl⟩ rfl (by rw [List.append_nil]) (by rw [List.append_nil]) (xW_fst _ _ _ _) rfl rfl rfl (Nat.le_of_ble_eq_true rfl) ⟨Nat.zero_le _, Nat.zero_le _⟩ ?_
    refine V_i2l C 9 dL_earsAtRisk_8 rfl ?_
    refine V_last C hBA (f := f) (n := 1) 0 10 _ dL_earsAtRisk_9 rfl rfl (by decide) rfl ?_
    refine V_goto C 17 dL_earsAtRisk_10 rfl ?_
    refine V_iconst C (0 : Int32) 18 dL_earsAtRisk_17 rfl rfl ?_
    exact V_nretI C Z (ty := .int) rfl rfl ⟨_, rfl, rfl, upL_0⟩ dL_earsAtRisk_18 (Nat.zero_le _) (Nat.zero_le _)
  · obtain ⟨j, hj⟩ := hc _ rfl
    rcases j with _ | j
    · cases hj
      refine V_callXt C hBA hE ml_L_112 (pre := [(o, aL g 1 f), (od, aD g 1 fd)]) (post := []) (wc := xW g A x) (w1 := xW g A x1) (E := IAE) (as := [.int a1, .int a2]) (rest := [.int (0 : Int32), .ref o]) (c_X3_earsAtRisk (R := .inr (IAE, x1)) hst h) 2 (oW g A o od f fd x1) dL_earsAtRisk_5 ⟨Nat.le_of_ble_eq_true rfl, Nat.le_of_ble_eq_true rfl⟩ rfl (by rw [List.append_nil]) (by rw [List.append_nil]) (xW_fst _ _ _ _) rfl rfl (Nat.le_of_ble_eq_true rfl) ⟨Nat.le_refl _, Nat.le_refl _⟩ ?_
      refine VX_catch C htab hN Z.1.2.2.1 (nm := IAE) [] (0, 10, 13, 15) [] rfl (fun z hz => absurd hz List.not_mem_nil) ⟨by decide, by decide⟩ (by decide) q803 cs_IAE (fun q => ?_)
      refine V_astore C 15 ((4, .ref q) :: [(0, .ref A.1), (1, .int a1), (2, .int a2), (3, .ref o)]) dL_earsAtRisk_13 rfl (hlt 4 (by decide)) rfl ?_
      refine V_iconst C (1 : Int32) 16 dL_earsAtRisk_15 rfl rfl ?_
      exact V_nretI C Z (ty := .int) rfl rfl ⟨f, 0, rfl, rfl, rfl⟩ dL_earsAtRisk_16 (Nat.le_refl _) (Nat.le_refl _)
    · exact absurd hj (by simp)
theorem w_markByPage {l : Launch} {D : va_G} {g : G0} {A : XA} {x : XV} {a1 : Int32} {o od : Nat} {f : Nat → Int64} {fd : Nat → UInt64} {R : (Int32 × XV) ⊕ (String × XV)} (hst : l.stackTraces = false) (h : f_X3_markByPage x a1 = some R) (hc : codesOk [NSE] R) : CtH l D g yL_markByPage cL_markByPage 4 (some .int) [(0, 9, 12, 48)] (rmN 10 300 1 6) (oW g A o od f fd x) [.ref A.1, .int a1, .ref o] (wI g A o od fd [NSE] R) 1 6 := by
  refine CtH.of (by decide) (Nat.le_of_ble_eq_true rfl) ?_
  intro K C Z htab hN hBA el eD ekn
  subst el
  subst eD
  have hlt : ∀ i, i < 4 → i < kn K := fun i h => by rw [ekn]; exact h
  have hE := Z.1.2.2.2.2.2
  show V K 0 0 (oW g A o od f fd x) [(0, .ref A.1), (1, .int a1), (2, .ref o)] [] 0
  refine V_aload_n C 2 1 dL_markByPage_0 rfl rfl ?_
  refine V_iconst C (0 : Int32) 2 dL_markByPage_1 rfl rfl ?_
  refine V_aload_n C 0 3 dL_markByPage_2 rfl rfl ?_
  refine V_iload_n C 1 4 dL_markByPage_3 rfl rfl ?_
  rcases R with ⟨r, x1⟩ | ⟨E, x1⟩
  · refine V_callXr C hBA hE ml_L_115 (pre := [(o, aL g 1 f), (od, aD g 1 fd)]) (post := []) (wc := xW g A x) (w1 := xW g A x1) (rv := some (.int r)) (as := [.int a1]) (rest := [.int (0 : Int32), .ref o]) (c_X3_markByPage (R := .inl (r, x1)) hst h) 2 7 (oW g A o od f fd x1) dL_markByPage_4 rfl ⟨Nat.le_of_ble_eq_true rfl, Nat.le_of_ble_eq_true rfl⟩ rfl (by rw [List.append_nil]) (by rw [List.append_nil]) (xW_fst _ _ _ _) rfl rfl rfl (Nat.le_of_ble_eq_true rfl) ⟨Nat.zero_le _, Nat.zero_le _⟩ ?_
    refine V_i2l C 8 dL_markByPage_7 rfl ?_
    refine V_last C hBA (f := f) (n := 1) 0 9 _ dL_markByPage_8 rfl rfl (by decide) rfl ?_
    refine V_goto C 15 dL_markByPage_9 rfl ?_
    refine V_iconst C (0 : Int32) 16 dL_markByPage_15 rfl rfl ?_
    exact V_nretI C Z (ty := .int) rfl rfl ⟨_, rfl, rfl, upL_0⟩ dL_markByPage_16 (Nat.zero_le _) (Nat.zero_le _)
  · obtain ⟨j, hj⟩ := hc _ rfl
    rcases j with _ | j
    · cases hj
      refine V_callXt C hBA hE ml_L_115 (pre := [(o, aL g 1 f), (od, aD g 1 fd)]) (post := []) (wc := xW g A x) (w1 := xW g A x1) (E := NSE) (as := [.int a1]) (rest := [.int (0 : Int32), .ref o]) (c_X3_markByPage (R := .inr (NSE, x1)) hst h) 2 (oW g A o od f fd x1) dL_markByPage_4 ⟨Nat.le_of_ble_eq_true rfl, Nat.le_of_ble_eq_true rfl⟩ rfl (by rw [List.append_nil]) (by rw [List.append_nil]) (xW_fst _ _ _ _) rfl rfl (Nat.le_of_ble_eq_true rfl) ⟨Nat.le_refl _, Nat.le_refl _⟩ ?_
      refine VX_catch C htab hN Z.1.2.2.1 (nm := NSE) [] (0, 9, 12, 48) [] rfl (fun z hz => absurd hz List.not_mem_nil) ⟨by decide, by decide⟩ (by decide) q1045 cs_NSE (fun q => ?_)
      refine V_astore_n C 13 ((3, .ref q) :: [(0, .ref A.1), (1, .int a1), (2, .ref o)]) dL_markByPage_12 rfl (hlt 3 (by decide)) rfl ?_
      refine V_iconst C (1 : Int32) 14 dL_markByPage_13 rfl rfl ?_
      exact V_nretI C Z (ty := .int) rfl rfl ⟨f, 0, rfl, rfl, rfl⟩ dL_markByPage_14 (Nat.le_refl _) (Nat.le_refl _)
    · exact absurd hj (by simp)
theorem w_markByWeight {l : Launch} {D : va_G} {g : G0} {A : XA} {x : XV} {a1 : Int32} {o od : Nat} {f : Nat → Int64} {fd : Nat → UInt64} {R : (Int32 × XV) ⊕ (String × XV)} (hst : l.stackTraces = false) (h : f_X3_markByWeight x a1 = some R) (hc : codesOk [NSE] R) : CtH l D g yL_markByWeight cL_markByWeight 4 (some .int) [(0, 9, 12, 48)] (rmN 10 300 1 6) (oW g A o od f fd x) [.ref A.1, .int a1, .ref o] (wI g A o od fd [NSE] R) 1 6 := by
  refine CtH.of (by decide) (Nat.le_of_ble_eq_true rfl) ?_
  intro K C Z htab hN hBA el eD ekn
  subst el
  subst eD
  have hlt : ∀ i, i < 4 → i < kn K := fun i h => by rw [ekn]; exact h
  have hE := Z.1.2.2.2.2.2
  show V K 0 0 (oW g A o od f fd x) [(0, .ref A.1), (1, .int a1), (2, .ref o)] [] 0
  refine V_aload_n C 2 1 dL_markByWeight_0 rfl rfl ?_
  refine V_iconst C (0 : Int32) 2 dL_markByWeight_1 rfl rfl ?_
  refine V_aload_n C 0 3 dL_markByWeight_2 rfl rfl ?_
  refine V_iload_n C 1 4 dL_markByWeight_3 rfl rfl ?_
  rcases R with ⟨r, x1⟩ | ⟨E, x1⟩
  · refine V_callXr C hBA hE ml_L_118 (pre := [(o, aL g 1 f), (od, aD g 1 fd)]) (post := []) (wc := xW g A x) (w1 := xW g A x1) (rv := some (.int r)) (as := [.int a1]) (rest := [.int (0 : Int32), .ref o]) (c_X3_markByWeight (R := .inl (r, x1)) hst h) 2 7 (oW g A o od f fd x1) dL_markByWeight_4 rfl ⟨Nat.le_of_ble_eq_true rfl, Nat.le_of_ble_eq_true rfl⟩ rfl (by rw [List.append_nil]) (by rw [List.append_nil]) (xW_fst _ _ _ _) rfl rfl rfl (Nat.le_of_ble_eq_true rfl) ⟨Nat.zero_le _, Nat.zero_le _⟩ ?_
    refine V_i2l C 8 dL_markByWeight_7 rfl ?_
    refine V_last C hBA (f := f) (n := 1) 0 9 _ dL_markByWeight_8 rfl rfl (by decide) rfl ?_
    refine V_goto C 15 dL_markByWeight_9 rfl ?_
    refine V_iconst C (0 : Int32) 16 dL_markByWeight_15 rfl rfl ?_
    exact V_nretI C Z (ty := .int) rfl rfl ⟨_, rfl, rfl, upL_0⟩ dL_markByWeight_16 (Nat.zero_le _) (Nat.zero_le _)
  · obtain ⟨j, hj⟩ := hc _ rfl
    rcases j with _ | j
    · cases hj
      refine V_callXt C hBA hE ml_L_118 (pre := [(o, aL g 1 f), (od, aD g 1 fd)]) (post := []) (wc := xW g A x) (w1 := xW g A x1) (E := NSE) (as := [.int a1]) (rest := [.int (0 : Int32), .ref o]) (c_X3_markByWeight (R := .inr (NSE, x1)) hst h) 2 (oW g A o od f fd x1) dL_markByWeight_4 ⟨Nat.le_of_ble_eq_true rfl, Nat.le_of_ble_eq_true rfl⟩ rfl (by rw [List.append_nil]) (by rw [List.append_nil]) (xW_fst _ _ _ _) rfl rfl (Nat.le_of_ble_eq_true rfl) ⟨Nat.le_refl _, Nat.le_refl _⟩ ?_
      refine VX_catch C htab hN Z.1.2.2.1 (nm := NSE) [] (0, 9, 12, 48) [] rfl (fun z hz => absurd hz List.not_mem_nil) ⟨by decide, by decide⟩ (by decide) q1045 cs_NSE (fun q => ?_)
      refine V_astore_n C 13 ((3, .ref q) :: [(0, .ref A.1), (1, .int a1), (2, .ref o)]) dL_markByWeight_12 rfl (hlt 3 (by decide)) rfl ?_
      refine V_iconst C (1 : Int32) 14 dL_markByWeight_13 rfl rfl ?_
      exact V_nretI C Z (ty := .int) rfl rfl ⟨f, 0, rfl, rfl, rfl⟩ dL_markByWeight_14 (Nat.le_refl _) (Nat.le_refl _)
    · exact absurd hj (by simp)
theorem w_appendInput {l : Launch} {D : va_G} {g : G0} {A : XA} {x : XV} {a1 : Int32} {o od : Nat} {f : Nat → Int64} {fd : Nat → UInt64} {R : (Int32 × XV) ⊕ (String × XV)} (hst : l.stackTraces = false) (h : f_X3_appendInput x a1 = some R) (hc : codesOk [IAE, ISE] R) : CtH l D g yL_appendInput cL_appendInput 4 (some .int) [(0, 9, 12, 15), (0, 9, 15, 142)] (rmN 10 300 1 6) (oW g A o od f fd x) [.ref A.1, .int a1, .ref o] (wI g A o od fd [IAE, ISE] R) 1 6 := by
  refine CtH.of (by decide) (Nat.le_of_ble_eq_true rfl) ?_
  intro K C Z htab hN hBA el eD ekn
  subst el
  subst eD
  have hlt : ∀ i, i < 4 → i < kn K := fun i h => by rw [ekn]; exact h
  have hE := Z.1.2.2.2.2.2
  show V K 0 0 (oW g A o od f fd x) [(0, .ref A.1), (1, .int a1), (2, .ref o)] [] 0
  refine V_aload_n C 2 1 dL_appendInput_0 rfl rfl ?_
  refine V_iconst C (0 : Int32) 2 dL_appendInput_1 rfl rfl ?_
  refine V_aload_n C 0 3 dL_appendInput_2 rfl rfl ?_
  refine V_iload_n C 1 4 dL_appendInput_3 rfl rfl ?_
  rcases R with ⟨r, x1⟩ | ⟨E, x1⟩
  · refine V_callXr C hBA hE ml_L_138 (pre := [(o, aL g 1 f), (od, aD g 1 fd)]) (post := []) (wc := xW g A x) (w1 := xW g A x1) (rv := some (.int r)) (as := [.int a1]) (rest := [.int (0 : Int32), .ref o]) (c_X3_appendInput (R := .inl (r, x1)) hst h) 2 7 (oW g A o od f fd x1) dL_appendInput_4 rfl ⟨Nat.le_of_ble_eq_true rfl, Nat.le_of_ble_eq_true rfl⟩ rfl (by rw [List.append_nil]) (by rw [List.append_nil]) (xW_fst _ _ _ _) rfl rfl rfl (Nat.le_of_ble_eq_true rfl) ⟨Nat.zero_le _, Nat.zero_le _⟩ ?_
    refine V_i2l C 8 dL_appendInput_7 rfl ?_
    refine V_last C hBA (f := f) (n := 1) 0 9 _ dL_appendInput_8 rfl rfl (by decide) rfl ?_
    refine V_goto C 18 dL_appendInput_9 rfl ?_
    refine V_iconst C (0 : Int32) 19 dL_appendInput_18 rfl rfl ?_
    exact V_nretI C Z (ty := .int) rfl rfl ⟨_, rfl, rfl, upL_0⟩ dL_appendInput_19 (Nat.zero_le _) (Nat.zero_le _)
  · obtain ⟨j, hj⟩ := hc _ rfl
    rcases j with _ | _ | j
    · cases hj
      refine V_callXt C hBA hE ml_L_138 (pre := [(o, aL g 1 f), (od, aD g 1 fd)]) (post := []) (wc := xW g A x) (w1 := xW g A x1) (E := IAE) (as := [.int a1]) (rest := [.int (0 : Int32), .ref o]) (c_X3_appendInput (R := .inr (IAE, x1)) hst h) 2 (oW g A o od f fd x1) dL_appendInput_4 ⟨Nat.le_of_ble_eq_true rfl, Nat.le_of_ble_eq_true rfl⟩ rfl (by rw [List.append_nil]) (by rw [List.append_nil]) (xW_fst _ _ _ _) rfl rfl (Nat.le_of_ble_eq_true rfl) ⟨Nat.le_refl _, Nat.le_refl _⟩ ?_
      refine VX_catch C htab hN Z.1.2.2.1 (nm := IAE) [] (0, 9, 12, 15) [(0, 9, 15, 142)] rfl (fun z hz => absurd hz List.not_mem_nil) ⟨by decide, by decide⟩ (by decide) q803 cs_IAE (fun q => ?_)
      refine V_astore_n C 13 ((3, .ref q) :: [(0, .ref A.1), (1, .int a1), (2, .ref o)]) dL_appendInput_12 rfl (hlt 3 (by decide)) rfl ?_
      refine V_iconst C (1 : Int32) 14 dL_appendInput_13 rfl rfl ?_
      exact V_nretI C Z (ty := .int) rfl rfl ⟨f, 0, rfl, rfl, rfl⟩ dL_appendInput_14 (Nat.le_refl _) (Nat.le_refl _)
    · cases hj
      refine V_callXt C hBA hE ml_L_138 (pre := [(o, aL g 1 f), (od, aD g 1 fd)]) (post := []) (wc := xW g A x) (w1 := xW g A x1) (E := ISE) (as := [.int a1]) (rest := [.int (0 : Int32), .ref o]) (c_X3_appendInput (R := .inr (ISE, x1)) hst h) 2 (oW g A o od f fd x1) dL_appendInput_4 ⟨Nat.le_of_ble_eq_true rfl, Nat.le_of_ble_eq_true rfl⟩ rfl (by rw [List.append_nil]) (by rw [List.append_nil]) (xW_fst _ _ _ _) rfl rfl (Nat.le_of_ble_eq_true rfl) ⟨Nat.le_refl _, Nat.le_refl _⟩ ?_
      refine VX_catch C htab hN Z.1.2.2.1 (nm := ISE) [(0, 9, 12, 15)] (0, 9, 15, 142) [] rfl (List.forall_mem_cons.mpr ⟨⟨by decide, _, q803, List.mem_of_getElem? (i := 4) rfl⟩, fun z hz => absurd hz List.not_mem_nil⟩) ⟨by decide, by decide⟩ (by decide) q1357 cs_ISE (fun q => ?_)
      refine V_astore_n C 16 ((3, .ref q) :: [(0, .ref A.1), (1, .int a1), (2, .ref o)]) dL_appendInput_15 rfl (hlt 3 (by decide)) rfl ?_
      refine V_iconst C (2 : Int32) 17 dL_appendInput_16 rfl rfl ?_
      exact V_nretI C Z (ty := .int) rfl rfl ⟨f, 1, rfl, rfl, rfl⟩ dL_appendInput_17 (Nat.le_refl _) (Nat.le_refl _)
    · exact absurd hj (by simp)
theorem w_execute {l : Launch} {D : va_G} {g : G0} {A : XA} {x : XV} {o od : Nat} {f : Nat → Int64} {fd : Nat → UInt64} {R : (Int32 × XV) ⊕ (String × XV)} (hst : l.stackTraces = false) (h : f_X3_execute x  = some R) (hc : codesOk [IAE, ISE, UOE] R) : CtH l D g yL_execute cL_execute 3 (some .int) [(0, 8, 11, 15), (0, 8, 14, 142), (0, 8, 17, 17)] (rmN 10 300 1 6) (oW g A o od f fd x) [.ref A.1, .ref o] (wI g A o od fd [IAE, ISE, UOE] R) 1 6 := by
  refine CtH.of (by decide) (Nat.le_of_ble_eq_true rfl) ?_
  intro K C Z htab hN hBA el eD ekn
  subst el
  subst eD
  have hlt : ∀ i, i < 3 → i < kn K := fun i h => by rw [ekn]; exact h
  have hE := Z.1.2.2.2.2.2
  show V K 0 0 (oW g A o od f fd x) [(0, .ref A.1), (1, .ref o)] [] 0
  refine V_aload_n C 1 1 dL_execute_0 rfl rfl ?_
  refine V_iconst C (0 : Int32) 2 dL_execute_1 rfl rfl ?_
  refine V_aload_n C 0 3 dL_execute_2 rfl rfl ?_
  rcases R with ⟨r, x1⟩ | ⟨E, x1⟩
  · refine V_callXr C hBA hE ml_L_144 (pre := [(o, aL g 1 f), (od, aD g 1 fd)]) (post := []) (wc := xW g A x) (w1 := xW g A x1) (rv := some (.int r)) (as := []) (rest := [.int (0 : Int32), .ref o]) (c_X3_execute (R := .inl (r, x1)) hst h) 2 6 (oW g A o od f fd x1) dL_execute_3 rfl ⟨Nat.le_of_ble_eq_true rfl, Nat.le_of_ble_eq_true rfl⟩ rfl (by rw [List.append_nil]) (by rw [List.append_nil]) (xW_fst _ _ _ _) rfl rfl rfl (Nat.le_of_ble_eq_true rfl) ⟨Nat.zero_le _, Nat.zero_le _⟩ ?_
    refine V_i2l C 7 dL_execute_6 rfl ?_
    refine V_last C hBA (f := f) (n := 1) 0 8 _ dL_execute_7 rfl rfl (by decide) rfl ?_
    refine V_goto C 20 dL_execute_8 rfl ?_
    refine V_iconst C (0 : Int32) 21 dL_execute_20 rfl rfl ?_
    exact V_nretI C Z (ty := .int) rfl rfl ⟨_, rfl, rfl, upL_0⟩ dL_execute_21 (Nat.zero_le _) (Nat.zero_le _)
  · obtain ⟨j, hj⟩ := hc _ rfl
    rcases j with _ | _ | _ | j
    · cases hj
      refine V_callXt C hBA hE ml_L_144 (pre := [(o, aL g 1 f), (od, aD g 1 fd)]) (post := []) (wc := xW g A x) (w1 := xW g A x1) (E := IAE) (as := []) (rest := [.int (0 : Int32), .ref o]) (c_X3_execute (R := .inr (IAE, x1)) hst h) 2 (oW g A o od f fd x1) dL_execute_3 ⟨Nat.le_of_ble_eq_true rfl, Nat.le_of_ble_eq_true rfl⟩ rfl (by rw [List.append_nil]) (by rw [List.append_nil]) (xW_fst _ _ _ _) rfl rfl (Nat.le_of_ble_eq_true rfl) ⟨Nat.le_refl _, Nat.le_refl _⟩ ?_
      refine VX_catch C htab hN Z.1.2.2.1 (nm := IAE) [] (0, 8, 11, 15) [(0, 8, 14, 142), (0, 8, 17, 17)] rfl (fun z hz => absurd hz List.not_mem_nil) ⟨by decide, by decide⟩ (by decide) q803 cs_IAE (fun q => ?_)
      refine V_astore_n C 12 ((2, .ref q) :: [(0, .ref A.1), (1, .ref o)]) dL_execute_11 rfl (hlt 2 (by decide)) rfl ?_
      refine V_iconst C (1 : Int32) 13 dL_execute_12 rfl rfl ?_
      exact V_nretI C Z (ty := .int) rfl rfl ⟨f, 0, rfl, rfl, rfl⟩ dL_execute_13 (Nat.le_refl _) (Nat.le_refl _)
    · cases hj
      refine V_callXt C hBA hE ml_L_144 (pre := [(o, aL g 1 f), (od, aD g 1 fd)]) (post := []) (wc := xW g A x) (w1 := xW g A x1) (E := ISE) (as := []) (rest := [.int (0 : Int32), .ref o]) (c_X3_execute (R := .inr (ISE, x1)) hst h) 2 (oW g A o od f fd x1) dL_execute_3 ⟨Nat.le_of_ble_eq_true rfl, Nat.le_of_ble_eq_true rfl⟩ rfl (by rw [List.append_nil]) (by rw [List.append_nil]) (xW_fst _ _ _ _) rfl rfl (Nat.le_of_ble_eq_true rfl) ⟨Nat.le_refl _, Nat.le_refl _⟩ ?_
      refine VX_catch C htab hN Z.1.2.2.1 (nm := ISE) [(0, 8, 11, 15)] (0, 8, 14, 142) [(0, 8, 17, 17)] rfl (List.forall_mem_cons.mpr ⟨⟨by decide, _, q803, List.mem_of_getElem? (i := 4) rfl⟩, fun z hz => absurd hz List.not_mem_nil⟩) ⟨by decide, by decide⟩ (by decide) q1357 cs_ISE (fun q => ?_)
      refine V_astore_n C 15 ((2, .ref q) :: [(0, .ref A.1), (1, .ref o)]) dL_execute_14 rfl (hlt 2 (by decide)) rfl ?_
      refine V_iconst C (2 : Int32) 16 dL_execute_15 rfl rfl ?_
      exact V_nretI C Z (ty := .int) rfl rfl ⟨f, 1, rfl, rfl, rfl⟩ dL_execute_16 (Nat.le_refl _) (Nat.le_refl _)
    · cases hj
      refine V_callXt C hBA hE ml_L_144 (pre := [(o, aL g 1 f), (od, aD g 1 fd)]) (post := []) (wc := xW g A x) (w1 := xW g A x1) (E := UOE) (as := []) (rest := [.int (0 : Int32), .ref o]) (c_X3_execute (R := .inr (UOE, x1)) hst h) 2 (oW g A o od f fd x1) dL_execute_3 ⟨Nat.le_of_ble_eq_true rfl, Nat.le_of_ble_eq_true rfl⟩ rfl (by rw [List.append_nil]) (by rw [List.append_nil]) (xW_fst _ _ _ _) rfl rfl (Nat.le_of_ble_eq_true rfl) ⟨Nat.le_refl _, Nat.le_refl _⟩ ?_
      refine VX_catch C htab hN Z.1.2.2.1 (nm := UOE) [(0, 8, 11, 15), (0, 8, 14, 142)] (0, 8, 17, 17) [] rfl (List.forall_mem_cons.mpr ⟨⟨by decide, _, q803, List.mem_of_getElem? (i := 2) rfl⟩, List.forall_mem_cons.mpr ⟨⟨by decide, _, q1357, List.mem_of_getElem? (i := 5) rfl⟩, fun z hz => absurd hz List.not_mem_nil⟩⟩) ⟨by decide, by decide⟩ (by decide) q804 cs_UOE (fun q => ?_)
      refine V_astore_n C 18 ((2, .ref q) :: [(0, .ref A.1), (1, .ref o)]) dL_execute_17 rfl (hlt 2 (by decide)) rfl ?_
      refine V_iconst C (3 : Int32) 19 dL_execute_18 rfl rfl ?_
      exact V_nretI C Z (ty := .int) rfl rfl ⟨f, 2, rfl, rfl, rfl⟩ dL_execute_19 (Nat.le_refl _) (Nat.le_refl _)
    · exact absurd hj (by simp)
theorem w_syntaxErrorOffset {l : Launch} {D : va_G} {g : G0} {A : XA} {x : XV} {o od : Nat} {f : Nat → Int64} {fd : Nat → UInt64} {R : (Int32 × XV) ⊕ (String × XV)} (hst : l.stackTraces = false) (h : f_X3_syntaxErrorOffset x  = some R) (hc : codesOk [NSE] R) : CtH l D g yL_syntaxErrorOffset cL_syntaxErrorOffset 3 (some .int) [(0, 8, 11, 48)] (rmN 10 300 1 6) (oW g A o od f fd x) [.ref A.1, .ref o] (wI g A o od fd [NSE] R) 1 6 := by
  refine CtH.of (by decide) (Nat.le_of_ble_eq_true rfl) ?_
  intro K C Z htab hN hBA el eD ekn
  subst el
  subst eD
  have hlt : ∀ i, i < 3 → i < kn K := fun i h => by rw [ekn]; exact h
  have hE := Z.1.2.2.2.2.2
  show V K 0 0 (oW g A o od f fd x) [(0, .ref A.1), (1, .ref o)] [] 0
  refine V_aload_n C 1 1 dL_syntaxErrorOffset_0 rfl rfl ?_
  refine V_iconst C (0 : Int32) 2 dL_syntaxErrorOffset_1 rfl rfl ?_
  refine V_aload_n C 0 3 dL_syntaxErrorOffset_2 rfl rfl ?_
  rcases R with ⟨r, x1⟩ | ⟨E, x1⟩
  · refine V_callXr C hBA hE ml_L_147 (pre := [(o, aL g 1 f), (od, aD g 1 fd)]) (post := []) (wc := xW g A x) (w1 := xW g A x1) (rv := some (.int r)) (as := []) (rest := [.int (0 : Int32), .ref o]) (c_X3_syntaxErrorOffset (R := .inl (r, x1)) hst h) 2 6 (oW g A o od f fd x1) dL_syntaxErrorOffset_3 rfl ⟨Nat.le_of_ble_eq_true rfl, Nat.le_of_ble_eq_true rfl⟩ rfl (by rw [List.append_nil]) (by rw [List.append_nil]) (xW_fst _ _ _ _) rfl rfl rfl (Nat.le_of_ble_eq_true rfl) ⟨Nat.zero_le _, Nat.zero_le _⟩ ?_
    refine V_i2l C 7 dL_syntaxErrorOffset_6 rfl ?_
    refine V_last C hBA (f := f) (n := 1) 0 8 _ dL_syntaxErrorOffset_7 rfl rfl (by decide) rfl ?_
    refine V_goto C 14 dL_syntaxErrorOffset_8 rfl ?_
    refine V_iconst C (0 : Int32) 15 dL_syntaxErrorOffset_14 rfl rfl ?_
    exact V_nretI C Z (ty := .int) rfl rfl ⟨_, rfl, rfl, upL_0⟩ dL_syntaxErrorOffset_15 (Nat.zero_le _) (Nat.zero_le _)
  · obtain ⟨j, hj⟩ := hc _ rfl
    rcases j with _ | j
    · cases hj
      refine V_callXt C hBA hE ml_L_147 (pre := [(o, aL g 1 f), (od, aD g 1 fd)]) (post := []) (wc := xW g A x) (w1 := xW g A x1) (E := NSE) (as := []) (rest := [.int (0 : Int32), .ref o]) (c_X3_syntaxErrorOffset (R := .inr (NSE, x1)) hst h) 2 (oW g A o od f fd x1) dL_syntaxErrorOffset_3 ⟨Nat.le_of_ble_eq_true rfl, Nat.le_of_ble_eq_true rfl⟩ rfl (by rw [List.append_nil]) (by rw [List.append_nil]) (xW_fst _ _ _ _) rfl rfl (Nat.le_of_ble_eq_true rfl) ⟨Nat.le_refl _, Nat.le_refl _⟩ ?_
      refine VX_catch C htab hN Z.1.2.2.1 (nm := NSE) [] (0, 8, 11, 48) [] rfl (fun z hz => absurd hz List.not_mem_nil) ⟨by decide, by decide⟩ (by decide) q1045 cs_NSE (fun q => ?_)
      refine V_astore_n C 12 ((2, .ref q) :: [(0, .ref A.1), (1, .ref o)]) dL_syntaxErrorOffset_11 rfl (hlt 2 (by decide)) rfl ?_
      refine V_iconst C (1 : Int32) 13 dL_syntaxErrorOffset_12 rfl rfl ?_
      exact V_nretI C Z (ty := .int) rfl rfl ⟨f, 0, rfl, rfl, rfl⟩ dL_syntaxErrorOffset_13 (Nat.le_refl _) (Nat.le_refl _)
    · exact absurd hj (by simp)
theorem w_rejectionReason {l : Launch} {D : va_G} {g : G0} {A : XA} {x : XV} {o od : Nat} {f : Nat → Int64} {fd : Nat → UInt64} {R : (Int32 × XV) ⊕ (String × XV)} (hst : l.stackTraces = false) (h : f_X3_rejectionReason x  = some R) (hc : codesOk [NSE] R) : CtH l D g yL_rejectionReason cL_rejectionReason 3 (some .int) [(0, 8, 11, 48)] (rmN 10 300 1 6) (oW g A o od f fd x) [.ref A.1, .ref o] (wI g A o od fd [NSE] R) 1 6 := by
  refine CtH.of (by decide) (Nat.le_of_ble_eq_true rfl) ?_
  intro K C Z htab hN hBA el eD ekn
  subst el
  subst eD
  have hlt : ∀ i, i < 3 → i < kn K := fun i h => by rw [ekn]; exact h
  have hE := Z.1.2.2.2.2.2
  show V K 0 0 (oW g A o od f fd x) [(0, .ref A.1), (1, .ref o)] [] 0
  refine V_aload_n C 1 1 dL_rejectionReason_0 rfl rfl ?_
  refine V_iconst C (0 : Int32) 2 dL_rejectionReason_1 rfl rfl ?_
  refine V_aload_n C 0 3 dL_rejectionReason_2 rfl rfl ?_
  rcases R with ⟨r, x1⟩ | ⟨E, x1⟩
  · refine V_callXr C hBA hE ml_L_150 (pre := [(o, aL g 1 f), (od, aD g 1 fd)]) (post := []) (wc := xW g A x) (w1 := xW g A x1) (rv := some (.int r)) (as := []) (rest := [.int (0 : Int32), .ref o]) (c_X3_rejectionReason (R := .inl (r, x1)) hst h) 2 6 (oW g A o od f fd x1) dL_rejectionReason_3 rfl ⟨Nat.le_of_ble_eq_true rfl, Nat.le_of_ble_eq_true rfl⟩ rfl (by rw [List.append_nil]) (by rw [List.append_nil]) (xW_fst _ _ _ _) rfl rfl rfl (Nat.le_of_ble_eq_true rfl) ⟨Nat.zero_le _, Nat.zero_le _⟩ ?_
    refine V_i2l C 7 dL_rejectionReason_6 rfl ?_
    refine V_last C hBA (f := f) (n := 1) 0 8 _ dL_rejectionReason_7 rfl rfl (by decide) rfl ?_
    refine V_goto C 14 dL_rejectionReason_8 rfl ?_
    refine V_iconst C (0 : Int32) 15 dL_rejectionReason_14 rfl rfl ?_
    exact V_nretI C Z (ty := .int) rfl rfl ⟨_, rfl, rfl, upL_0⟩ dL_rejectionReason_15 (Nat.zero_le _) (Nat.zero_le _)
  · obtain ⟨j, hj⟩ := hc _ rfl
    rcases j with _ | j
    · cases hj
      refine V_callXt C hBA hE ml_L_150 (pre := [(o, aL g 1 f), (od, aD g 1 fd)]) (post := []) (wc := xW g A x) (w1 := xW g A x1) (E := NSE) (as := []) (rest := [.int (0 : Int32), .ref o]) (c_X3_rejectionReason (R := .inr (NSE, x1)) hst h) 2 (oW g A o od f fd x1) dL_rejectionReason_3 ⟨Nat.le_of_ble_eq_true rfl, Nat.le_of_ble_eq_true rfl⟩ rfl (by rw [List.append_nil]) (by rw [List.append_nil]) (xW_fst _ _ _ _) rfl rfl (Nat.le_of_ble_eq_true rfl) ⟨Nat.le_refl _, Nat.le_refl _⟩ ?_
      refine VX_catch C htab hN Z.1.2.2.1 (nm := NSE) [] (0, 8, 11, 48) [] rfl (fun z hz => absurd hz List.not_mem_nil) ⟨by decide, by decide⟩ (by decide) q1045 cs_NSE (fun q => ?_)
      refine V_astore_n C 12 ((2, .ref q) :: [(0, .ref A.1), (1, .ref o)]) dL_rejectionReason_11 rfl (hlt 2 (by decide)) rfl ?_
      refine V_iconst C (1 : Int32) 13 dL_rejectionReason_12 rfl rfl ?_
      exact V_nretI C Z (ty := .int) rfl rfl ⟨f, 0, rfl, rfl, rfl⟩ dL_rejectionReason_13 (Nat.le_refl _) (Nat.le_refl _)
    · exact absurd hj (by simp)
theorem w_rejectionDetail {l : Launch} {D : va_G} {g : G0} {A : XA} {x : XV} {o od : Nat} {f : Nat → Int64} {fd : Nat → UInt64} {R : (Int32 × XV) ⊕ (String × XV)} (hst : l.stackTraces = false) (h : f_X3_rejectionDetail x  = some R) (hc : codesOk [NSE] R) : CtH l D g yL_rejectionDetail cL_rejectionDetail 3 (some .int) [(0, 8, 11, 48)] (rmN 10 300 1 6) (oW g A o od f fd x) [.ref A.1, .ref o] (wI g A o od fd [NSE] R) 1 6 := by
  refine CtH.of (by decide) (Nat.le_of_ble_eq_true rfl) ?_
  intro K C Z htab hN hBA el eD ekn
  subst el
  subst eD
  have hlt : ∀ i, i < 3 → i < kn K := fun i h => by rw [ekn]; exact h
  have hE := Z.1.2.2.2.2.2
  show V K 0 0 (oW g A o od f fd x) [(0, .ref A.1), (1, .ref o)] [] 0
  refine V_aload_n C 1 1 dL_rejectionDetail_0 rfl rfl ?_
  refine V_iconst C (0 : Int32) 2 dL_rejectionDetail_1 rfl rfl ?_
  refine V_aload_n C 0 3 dL_rejectionDetail_2 rfl rfl ?_
  rcases R with ⟨r, x1⟩ | ⟨E, x1⟩
  · refine V_callXr C hBA hE ml_L_153 (pre := [(o, aL g 1 f), (od, aD g 1 fd)]) (post := []) (wc := xW g A x) (w1 := xW g A x1) (rv := some (.int r)) (as := []) (rest := [.int (0 : Int32), .ref o]) (c_X3_rejectionDetail (R := .inl (r, x1)) hst h) 2 6 (oW g A o od f fd x1) dL_rejectionDetail_3 rfl ⟨Nat.le_of_ble_eq_true rfl, Nat.le_of_ble_eq_true rfl⟩ rfl (by rw [List.append_nil]) (by rw [List.append_nil]) (xW_fst _ _ _ _) rfl rfl rfl (Nat.le_of_ble_eq_true rfl) ⟨Nat.zero_le _, Nat.zero_le _⟩ ?_
    refine V_i2l C 7 dL_rejectionDetail_6 rfl ?_
    refine V_last C hBA (f := f) (n := 1) 0 8 _ dL_rejectionDetail_7 rfl rfl (by decide) rfl ?_
    refine V_goto C 14 dL_rejectionDetail_8 rfl ?_
    refine V_iconst C (0 : Int32) 15 dL_rejectionDetail_14 rfl rfl ?_
    exact V_nretI C Z (ty := .int) rfl rfl ⟨_, rfl, rfl, upL_0⟩ dL_rejectionDetail_15 (Nat.zero_le _) (Nat.zero_le _)
  · obtain ⟨j, hj⟩ := hc _ rfl
    rcases j with _ | j
    · cases hj
      refine V_callXt C hBA hE ml_L_153 (pre := [(o, aL g 1 f), (od, aD g 1 fd)]) (post := []) (wc := xW g A x) (w1 := xW g A x1) (E := NSE) (as := []) (rest := [.int (0 : Int32), .ref o]) (c_X3_rejectionDetail (R := .inr (NSE, x1)) hst h) 2 (oW g A o od f fd x1) dL_rejectionDetail_3 ⟨Nat.le_of_ble_eq_true rfl, Nat.le_of_ble_eq_true rfl⟩ rfl (by rw [List.append_nil]) (by rw [List.append_nil]) (xW_fst _ _ _ _) rfl rfl (Nat.le_of_ble_eq_true rfl) ⟨Nat.le_refl _, Nat.le_refl _⟩ ?_
      refine VX_catch C htab hN Z.1.2.2.1 (nm := NSE) [] (0, 8, 11, 48) [] rfl (fun z hz => absurd hz List.not_mem_nil) ⟨by decide, by decide⟩ (by decide) q1045 cs_NSE (fun q => ?_)
      refine V_astore_n C 12 ((2, .ref q) :: [(0, .ref A.1), (1, .ref o)]) dL_rejectionDetail_11 rfl (hlt 2 (by decide)) rfl ?_
      refine V_iconst C (1 : Int32) 13 dL_rejectionDetail_12 rfl rfl ?_
      exact V_nretI C Z (ty := .int) rfl rfl ⟨f, 0, rfl, rfl, rfl⟩ dL_rejectionDetail_13 (Nat.le_refl _) (Nat.le_refl _)
    · exact absurd hj (by simp)
theorem w_causeReason {l : Launch} {D : va_G} {g : G0} {A : XA} {x : XV} {o od : Nat} {f : Nat → Int64} {fd : Nat → UInt64} {R : (Int32 × XV) ⊕ (String × XV)} (hst : l.stackTraces = false) (h : f_X3_causeReason x  = some R) (hc : codesOk [NSE] R) : CtH l D g yL_causeReason cL_causeReason 3 (some .int) [(0, 8, 11, 48)] (rmN 10 300 1 6) (oW g A o od f fd x) [.ref A.1, .ref o] (wI g A o od fd [NSE] R) 1 6 := by
  refine CtH.of (by decide) (Nat.le_of_ble_eq_true rfl) ?_
  intro K C Z htab hN hBA el eD ekn
  subst el
  subst eD
  have hlt : ∀ i, i < 3 → i < kn K := fun i h => by rw [ekn]; exact h
  have hE := Z.1.2.2.2.2.2
  show V K 0 0 (oW g A o od f fd x) [(0, .ref A.1), (1, .ref o)] [] 0
  refine V_aload_n C 1 1 dL_causeReason_0 rfl rfl ?_
  refine V_iconst C (0 : Int32) 2 dL_causeReason_1 rfl rfl ?_
  refine V_aload_n C 0 3 dL_causeReason_2 rfl rfl ?_
  rcases R with ⟨r, x1⟩ | ⟨E, x1⟩
  · refine V_callXr C hBA hE ml_L_156 (pre := [(o, aL g 1 f), (od, aD g 1 fd)]) (post := []) (wc := xW g A x) (w1 := xW g A x1) (rv := some (.int r)) (as := []) (rest := [.int (0 : Int32), .ref o]) (c_X3_causeReason (R := .inl (r, x1)) hst h) 2 6 (oW g A o od f fd x1) dL_causeReason_3 rfl ⟨Nat.le_of_ble_eq_true rfl, Nat.le_of_ble_eq_true rfl⟩ rfl (by rw [List.append_nil]) (by rw [List.append_nil]) (xW_fst _ _ _ _) rfl rfl rfl (Nat.le_of_ble_eq_true rfl) ⟨Nat.zero_le _, Nat.zero_le _⟩ ?_
    refine V_i2l C 7 dL_causeReason_6 rfl ?_
    refine V_last C hBA (f := f) (n := 1) 0 8 _ dL_causeReason_7 rfl rfl (by decide) rfl ?_
    refine V_goto C 14 dL_causeReason_8 rfl ?_
    refine V_iconst C (0 : Int32) 15 dL_causeReason_14 rfl rfl ?_
    exact V_nretI C Z (ty := .int) rfl rfl ⟨_, rfl, rfl, upL_0⟩ dL_causeReason_15 (Nat.zero_le _) (Nat.zero_le _)
  · obtain ⟨j, hj⟩ := hc _ rfl
    rcases j with _ | j
    · cases hj
      refine V_callXt C hBA hE ml_L_156 (pre := [(o, aL g 1 f), (od, aD g 1 fd)]) (post := []) (wc := xW g A x) (w1 := xW g A x1) (E := NSE) (as := []) (rest := [.int (0 : Int32), .ref o]) (c_X3_causeReason (R := .inr (NSE, x1)) hst h) 2 (oW g A o od f fd x1) dL_causeReason_3 ⟨Nat.le_of_ble_eq_true rfl, Nat.le_of_ble_eq_true rfl⟩ rfl (by rw [List.append_nil]) (by rw [List.append_nil]) (xW_fst _ _ _ _) rfl rfl (Nat.le_of_ble_eq_true rfl) ⟨Nat.le_refl _, Nat.le_refl _⟩ ?_
      refine VX_catch C htab hN Z.1.2.2.1 (nm := NSE) [] (0, 8, 11, 48) [] rfl (fun z hz => absurd hz List.not_mem_nil) ⟨by decide, by decide⟩ (by decide) q1045 cs_NSE (fun q => ?_)
      refine V_astore_n C 12 ((2, .ref q) :: [(0, .ref A.1), (1, .ref o)]) dL_causeReason_11 rfl (hlt 2 (by decide)) rfl ?_
      refine V_iconst C (1 : Int32) 13 dL_causeReason_12 rfl rfl ?_
      exact V_nretI C Z (ty := .int) rfl rfl ⟨f, 0, rfl, rfl, rfl⟩ dL_causeReason_13 (Nat.le_refl _) (Nat.le_refl _)
    · exact absurd hj (by simp)
theorem w_undo {l : Launch} {D : va_G} {g : G0} {A : XA} {x : XV} {o od : Nat} {f : Nat → Int64} {fd : Nat → UInt64} {R : (Int32 × XV) ⊕ (String × XV)} (hst : l.stackTraces = false) (h : f_X3_undo x  = some R) (hc : codesOk [ISE] R) : CtH l D g yL_undo cL_undo 3 (some .int) [(0, 8, 11, 142)] (rmN 10 300 1 6) (oW g A o od f fd x) [.ref A.1, .ref o] (wI g A o od fd [ISE] R) 1 6 := by
  refine CtH.of (by decide) (Nat.le_of_ble_eq_true rfl) ?_
  intro K C Z htab hN hBA el eD ekn
  subst el
  subst eD
  have hlt : ∀ i, i < 3 → i < kn K := fun i h => by rw [ekn]; exact h
  have hE := Z.1.2.2.2.2.2
  show V K 0 0 (oW g A o od f fd x) [(0, .ref A.1), (1, .ref o)] [] 0
  refine V_aload_n C 1 1 dL_undo_0 rfl rfl ?_
  refine V_iconst C (0 : Int32) 2 dL_undo_1 rfl rfl ?_
  refine V_aload_n C 0 3 dL_undo_2 rfl rfl ?_
  rcases R with ⟨r, x1⟩ | ⟨E, x1⟩
  · refine V_callXr C hBA hE ml_L_159 (pre := [(o, aL g 1 f), (od, aD g 1 fd)]) (post := []) (wc := xW g A x) (w1 := xW g A x1) (rv := some (.int r)) (as := []) (rest := [.int (0 : Int32), .ref o]) (c_X3_undo (R := .inl (r, x1)) hst h) 2 6 (oW g A o od f fd x1) dL_undo_3 rfl ⟨Nat.le_of_ble_eq_true rfl, Nat.le_of_ble_eq_true rfl⟩ rfl (by rw [List.append_nil]) (by rw [List.append_nil]) (xW_fst _ _ _ _) rfl rfl rfl (Nat.le_of_ble_eq_true rfl) ⟨Nat.zero_le _, Nat.zero_le _⟩ ?_
    refine V_i2l C 7 dL_undo_6 rfl ?_
    refine V_last C hBA (f := f) (n := 1) 0 8 _ dL_undo_7 rfl rfl (by decide) rfl ?_
    refine V_goto C 14 dL_undo_8 rfl ?_
    refine V_iconst C (0 : Int32) 15 dL_undo_14 rfl rfl ?_
    exact V_nretI C Z (ty := .int) rfl rfl ⟨_, rfl, rfl, upL_0⟩ dL_undo_15 (Nat.zero_le _) (Nat.zero_le _)
  · obtain ⟨j, hj⟩ := hc _ rfl
    rcases j with _ | j
    · cases hj
      refine V_callXt C hBA hE ml_L_159 (pre := [(o, aL g 1 f), (od, aD g 1 fd)]) (post := []) (wc := xW g A x) (w1 := xW g A x1) (E := ISE) (as := []) (rest := [.int (0 : Int32), .ref o]) (c_X3_undo (R := .inr (ISE, x1)) hst h) 2 (oW g A o od f fd x1) dL_undo_3 ⟨Nat.le_of_ble_eq_true rfl, Nat.le_of_ble_eq_true rfl⟩ rfl (by rw [List.append_nil]) (by rw [List.append_nil]) (xW_fst _ _ _ _) rfl rfl (Nat.le_of_ble_eq_true rfl) ⟨Nat.le_refl _, Nat.le_refl _⟩ ?_
      refine VX_catch C htab hN Z.1.2.2.1 (nm := ISE) [] (0, 8, 11, 142) [] rfl (fun z hz => absurd hz List.not_mem_nil) ⟨by decide, by decide⟩ (by decide) q1357 cs_ISE (fun q => ?_)
      refine V_astore_n C 12 ((2, .ref q) :: [(0, .ref A.1), (1, .ref o)]) dL_undo_11 rfl (hlt 2 (by decide)) rfl ?_
      refine V_iconst C (1 : Int32) 13 dL_undo_12 rfl rfl ?_
      exact V_nretI C Z (ty := .int) rfl rfl ⟨f, 0, rfl, rfl, rfl⟩ dL_undo_13 (Nat.le_refl _) (Nat.le_refl _)
    · exact absurd hj (by simp)
theorem w_restoreSnapshot {l : Launch} {D : va_G} {g : G0} {A : XA} {x : XV} {o od : Nat} {f : Nat → Int64} {fd : Nat → UInt64} {R : (Int32 × XV) ⊕ (String × XV)} (hst : l.stackTraces = false) (h : f_X3_restoreSnapshot x  = some R) (hc : codesOk [ISE] R) : CtH l D g yL_restoreSnapshot cL_restoreSnapshot 3 (some .int) [(0, 8, 11, 142)] (rmN 10 300 1 6) (oW g A o od f fd x) [.ref A.1, .ref o] (wI g A o od fd [ISE] R) 1 6 := by
  refine CtH.of (by decide) (Nat.le_of_ble_eq_true rfl) ?_
  intro K C Z htab hN hBA el eD ekn
  subst el
  subst eD
  have hlt : ∀ i, i < 3 → i < kn K := fun i h => by rw [ekn]; exact h
  have hE := Z.1.2.2.2.2.2
  show V K 0 0 (oW g A o od f fd x) [(0, .ref A.1), (1, .ref o)] [] 0
  refine V_aload_n C 1 1 dL_restoreSnapshot_0 rfl rfl ?_
  refine V_iconst C (0 : Int32) 2 dL_restoreSnapshot_1 rfl rfl ?_
  refine V_aload_n C 0 3 dL_restoreSnapshot_2 rfl rfl ?_
  rcases R with ⟨r, x1⟩ | ⟨E, x1⟩
  · refine V_callXr C hBA hE ml_L_162 (pre := [(o, aL g 1 f), (od, aD g 1 fd)]) (post := []) (wc := xW g A x) (w1 := xW g A x1) (rv := some (.int r)) (as := []) (rest := [.int (0 : Int32), .ref o]) (c_X3_restoreSnapshot (R := .inl (r, x1)) hst h) 2 6 (oW g A o od f fd x1) dL_restoreSnapshot_3 rfl ⟨Nat.le_of_ble_eq_true rfl, Nat.le_of_ble_eq_true rfl⟩ rfl (by rw [List.append_nil]) (by rw [List.append_nil]) (xW_fst _ _ _ _) rfl rfl rfl (Nat.le_of_ble_eq_true rfl) ⟨Nat.zero_le _, Nat.zero_le _⟩ ?_
    refine V_i2l C 7 dL_restoreSnapshot_6 rfl ?_
    refine V_last C hBA (f := f) (n := 1) 0 8 _ dL_restoreSnapshot_7 rfl rfl (by decide) rfl ?_
    refine V_goto C 14 dL_restoreSnapshot_8 rfl ?_
    refine V_iconst C (0 : Int32) 15 dL_restoreSnapshot_14 rfl rfl ?_
    exact V_nretI C Z (ty := .int) rfl rfl ⟨_, rfl, rfl, upL_0⟩ dL_restoreSnapshot_15 (Nat.zero_le _) (Nat.zero_le _)
  · obtain ⟨j, hj⟩ := hc _ rfl
    rcases j with _ | j
    · cases hj
      refine V_callXt C hBA hE ml_L_162 (pre := [(o, aL g 1 f), (od, aD g 1 fd)]) (post := []) (wc := xW g A x) (w1 := xW g A x1) (E := ISE) (as := []) (rest := [.int (0 : Int32), .ref o]) (c_X3_restoreSnapshot (R := .inr (ISE, x1)) hst h) 2 (oW g A o od f fd x1) dL_restoreSnapshot_3 ⟨Nat.le_of_ble_eq_true rfl, Nat.le_of_ble_eq_true rfl⟩ rfl (by rw [List.append_nil]) (by rw [List.append_nil]) (xW_fst _ _ _ _) rfl rfl (Nat.le_of_ble_eq_true rfl) ⟨Nat.le_refl _, Nat.le_refl _⟩ ?_
      refine VX_catch C htab hN Z.1.2.2.1 (nm := ISE) [] (0, 8, 11, 142) [] rfl (fun z hz => absurd hz List.not_mem_nil) ⟨by decide, by decide⟩ (by decide) q1357 cs_ISE (fun q => ?_)
      refine V_astore_n C 12 ((2, .ref q) :: [(0, .ref A.1), (1, .ref o)]) dL_restoreSnapshot_11 rfl (hlt 2 (by decide)) rfl ?_
      refine V_iconst C (1 : Int32) 13 dL_restoreSnapshot_12 rfl rfl ?_
      exact V_nretI C Z (ty := .int) rfl rfl ⟨f, 0, rfl, rfl, rfl⟩ dL_restoreSnapshot_13 (Nat.le_refl _) (Nat.le_refl _)
    · exact absurd hj (by simp)
