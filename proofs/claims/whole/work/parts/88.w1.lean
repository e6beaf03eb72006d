/-! ===== wrappers ===== -/
theorem w_nearestMark {l : Launch} {D : va_G} {g : G0} {A : XA} {x : XV} {a1 : Int32} {o od : Nat} {f : Nat → Int64} {fd : Nat → UInt64} {R : (Int32 × XV) ⊕ (String × XV)} (hst : l.stackTraces = false) (h : f_X3_nearestMark x a1 = some R) (hc : codesOk [IOOBE, NSE] R) : CtH l D g yL_nearestMark cL_nearestMark 4 (some .int) [(0, 9, 12, 13), (0, 9, 15, 48)] (rmN 10 300 1 6) (oW g A o od f fd x) [.ref A.1, .int a1, .ref o] (wI g A o od fd [IOOBE, NSE] R) 1 6 := by
  refine CtH.of (by decide) (Nat.le_of_ble_eq_true rfl) ?_
  intro K C Z htab hN hBA el eD ekn
  subst el
  subst eD
  have hlt : ∀ i, i < 4 → i < kn K := fun i h => by rw [ekn]; exact h
  have hE := Z.1.2.2.2.2.2
  show V K 0 0 (oW g A o od f fd x) [(0, .ref A.1), (1, .int a1), (2, .ref o)] [] 0
  refine V_aload_n C 2 1 dL_nearestMark_0 rfl rfl ?_
  refine V_iconst C (0 : Int32) 2 dL_nearestMark_1 rfl rfl ?_
  refine V_aload_n C 0 3 dL_nearestMark_2 rfl rfl ?_
  refine V_iload_n C 1 4 dL_nearestMark_3 rfl rfl ?_
  rcases R with ⟨r, x1⟩ | ⟨E, x1⟩
  · refine V_callXr C hBA hE ml_L_65 (pre := [(o, aL g 1 f), (od, aD g 1 fd)]) (post := []) (wc := xW g A x) (w1 := xW g A x1) (rv := some (.int r)) (as := [.int a1]) (rest := [.int (0 : Int32), .ref o]) (c_X3_nearestMark (R := .inl (r, x1)) hst h) 2 7 (oW g A o od f fd x1) dL_nearestMark_4 rfl ⟨Nat.le_of_ble_eq_true rfl, Nat.le_of_ble_eq_true rfl⟩ rfl (by rw [List.append_nil]) (by rw [List.append_nil]) (xW_fst _ _ _ _) rfl rfl rfl (Nat.le_of_ble_eq_true rfl) ⟨Nat.zero_le _, Nat.zero_le _⟩ ?_
    refine V_i2l C 8 dL_nearestMark_7 rfl ?_
    refine V_last C hBA (f := f) (n := 1) 0 9 _ dL_nearestMark_8 rfl rfl (by decide) rfl ?_
    refine V_goto C 18 dL_nearestMark_9 rfl ?_
    refine V_iconst C (0 : Int32) 19 dL_nearestMark_18 rfl rfl ?_
    exact V_nretI C Z (ty := .int) rfl rfl ⟨_, rfl, rfl, upL_0⟩ dL_nearestMark_19 (Nat.zero_le _) (Nat.zero_le _)
  · obtain ⟨j, hj⟩ := hc _ rfl
    rcases j with _ | _ | j
    · cases hj
      refine V_callXt C hBA hE ml_L_65 (pre := [(o, aL g 1 f), (od, aD g 1 fd)]) (post := []) (wc := xW g A x) (w1 := xW g A x1) (E := IOOBE) (as := [.int a1]) (rest := [.int (0 : Int32), .ref o]) (c_X3_nearestMark (R := .inr (IOOBE, x1)) hst h) 2 (oW g A o od f fd x1) dL_nearestMark_4 ⟨Nat.le_of_ble_eq_true rfl, Nat.le_of_ble_eq_true rfl⟩ rfl (by rw [List.append_nil]) (by rw [List.append_nil]) (xW_fst _ _ _ _) rfl rfl (Nat.le_of_ble_eq_true rfl) ⟨Nat.le_refl _, Nat.le_refl _⟩ ?_
      refine VX_catch C htab hN Z.1.2.2.1 (nm := IOOBE) [] (0, 9, 12, 13) [(0, 9, 15, 48)] rfl (fun z hz => absurd hz List.not_mem_nil) ⟨by decide, by decide⟩ (by decide) q800 cs_IOOBE (fun q => ?_)
      refine V_astore_n C 13 ((3, .ref q) :: [(0, .ref A.1), (1, .int a1), (2, .ref o)]) dL_nearestMark_12 rfl (hlt 3 (by decide)) rfl ?_
      refine V_iconst C (1 : Int32) 14 dL_nearestMark_13 rfl rfl ?_
      exact V_nretI C Z (ty := .int) rfl rfl ⟨f, 0, rfl, rfl, rfl⟩ dL_nearestMark_14 (Nat.le_refl _) (Nat.le_refl _)
    · cases hj
      refine V_callXt C hBA hE ml_L_65 (pre := [(o, aL g 1 f), (od, aD g 1 fd)]) (post := []) (wc := xW g A x) (w1 := xW g A x1) (E := NSE) (as := [.int a1]) (rest := [.int (0 : Int32), .ref o]) (c_X3_nearestMark (R := .inr (NSE, x1)) hst h) 2 (oW g A o od f fd x1) dL_nearestMark_4 ⟨Nat.le_of_ble_eq_true rfl, Nat.le_of_ble_eq_true rfl⟩ rfl (by rw [List.append_nil]) (by rw [List.append_nil]) (xW_fst _ _ _ _) rfl rfl (Nat.le_of_ble_eq_true rfl) ⟨Nat.le_refl _, Nat.le_refl _⟩ ?_
      refine VX_catch C htab hN Z.1.2.2.1 (nm := NSE) [(0, 9, 12, 13)] (0, 9, 15, 48) [] rfl (List.forall_mem_cons.mpr ⟨⟨by decide, _, q800, List.mem_of_getElem? (i := 3) rfl⟩, fun z hz => absurd hz List.not_mem_nil⟩) ⟨by decide, by decide⟩ (by decide) q1045 cs_NSE (fun q => ?_)
      refine V_astore_n C 16 ((3, .ref q) :: [(0, .ref A.1), (1, .int a1), (2, .ref o)]) dL_nearestMark_15 rfl (hlt 3 (by decide)) rfl ?_
      refine V_iconst C (2 : Int32) 17 dL_nearestMark_16 rfl rfl ?_
      exact V_nretI C Z (ty := .int) rfl rfl ⟨f, 1, rfl, rfl, rfl⟩ dL_nearestMark_17 (Nat.le_refl _) (Nat.le_refl _)
    · exact absurd hj (by simp)
theorem w_chapterOf {l : Launch} {D : va_G} {g : G0} {A : XA} {x : XV} {a1 : Int32} {o od : Nat} {f : Nat → Int64} {fd : Nat → UInt64} {R : (Int32 × XV) ⊕ (String × XV)} (hst : l.stackTraces = false) (h : f_X3_chapterOf x a1 = some R) (hc : codesOk [IOOBE] R) : CtH l D g yL_chapterOf cL_chapterOf 4 (some .int) [(0, 9, 12, 13)] (rmN 10 300 1 6) (oW g A o od f fd x) [.ref A.1, .int a1, .ref o] (wI g A o od fd [IOOBE] R) 1 6 := by
  refine CtH.of (by decide) (Nat.le_of_ble_eq_true rfl) ?_
  intro K C Z htab hN hBA el eD ekn
  subst el
  subst eD
  have hlt : ∀ i, i < 4 → i < kn K := fun i h => by rw [ekn]; exact h
  have hE := Z.1.2.2.2.2.2
  show V K 0 0 (oW g A o od f fd x) [(0, .ref A.1), (1, .int a1), (2, .ref o)] [] 0
  refine V_aload_n C 2 1 dL_chapterOf_0 rfl rfl ?_
  refine V_iconst C (0 : Int32) 2 dL_chapterOf_1 rfl rfl ?_
  refine V_aload_n C 0 3 dL_chapterOf_2 rfl rfl ?_
  refine V_iload_n C 1 4 dL_chapterOf_3 rfl rfl ?_
  rcases R with ⟨r, x1⟩ | ⟨E, x1⟩
  · refine V_callXr C hBA hE ml_L_68 (pre := [(o, aL g 1 f), (od, aD g 1 fd)]) (post := []) (wc := xW g A x) (w1 := xW g A x1) (rv := some (.int r)) (as := [.int a1]) (rest := [.int (0 : Int32), .ref o]) (c_X3_chapterOf (R := .inl (r, x1)) hst h) 2 7 (oW g A o od f fd x1) dL_chapterOf_4 rfl ⟨Nat.le_of_ble_eq_true rfl, Nat.le_of_ble_eq_true rfl⟩ rfl (by rw [List.append_nil]) (by rw [List.append_nil]) (xW_fst _ _ _ _) rfl rfl rfl (Nat.le_of_ble_eq_true rfl) ⟨Nat.zero_le _, Nat.zero_le _⟩ ?_
    refine V_i2l C 8 dL_chapterOf_7 rfl ?_
    refine V_last C hBA (f := f) (n := 1) 0 9 _ dL_chapterOf_8 rfl rfl (by decide) rfl ?_
    refine V_goto C 15 dL_chapterOf_9 rfl ?_
    refine V_iconst C (0 : Int32) 16 dL_chapterOf_15 rfl rfl ?_
    exact V_nretI C Z (ty := .int) rfl rfl ⟨_, rfl, rfl, upL_0⟩ dL_chapterOf_16 (Nat.zero_le _) (Nat.zero_le _)
  · obtain ⟨j, hj⟩ := hc _ rfl
    rcases j with _ | j
    · cases hj
      refine V_callXt C hBA hE ml_L_68 (pre := [(o, aL g 1 f), (od, aD g 1 fd)]) (post := []) (wc := xW g A x) (w1 := xW g A x1) (E := IOOBE) (as := [.int a1]) (rest := [.int (0 : Int32), .ref o]) (c_X3_chapterOf (R := .inr (IOOBE, x1)) hst h) 2 (oW g A o od f fd x1) dL_chapterOf_4 ⟨Nat.le_of_ble_eq_true rfl, Nat.le_of_ble_eq_true rfl⟩ rfl (by rw [List.append_nil]) (by rw [List.append_nil]) (xW_fst _ _ _ _) rfl rfl (Nat.le_of_ble_eq_true rfl) ⟨Nat.le_refl _, Nat.le_refl _⟩ ?_
      refine VX_catch C htab hN Z.1.2.2.1 (nm := IOOBE) [] (0, 9, 12, 13) [] rfl (fun z hz => absurd hz List.not_mem_nil) ⟨by decide, by decide⟩ (by decide) q800 cs_IOOBE (fun q => ?_)
      refine V_astore_n C 13 ((3, .ref q) :: [(0, .ref A.1), (1, .int a1), (2, .ref o)]) dL_chapterOf_12 rfl (hlt 3 (by decide)) rfl ?_
      refine V_iconst C (1 : Int32) 14 dL_chapterOf_13 rfl rfl ?_
      exact V_nretI C Z (ty := .int) rfl rfl ⟨f, 0, rfl, rfl, rfl⟩ dL_chapterOf_14 (Nat.le_refl _) (Nat.le_refl _)
    · exact absurd hj (by simp)
theorem w_startChapter {l : Launch} {D : va_G} {g : G0} {A : XA} {x : XV} {a1 : Int32} {o od : Nat} {f : Nat → Int64} {fd : Nat → UInt64} {R : (Int32 × XV) ⊕ (String × XV)} (hst : l.stackTraces = false) (h : f_X3_startChapter x a1 = some R) (hc : codesOk [IOOBE, UOE] R) : CtH l D g yL_startChapter cL_startChapter 4 (some .int) [(0, 9, 12, 13), (0, 9, 15, 17)] (rmN 10 300 1 6) (oW g A o od f fd x) [.ref A.1, .int a1, .ref o] (wI g A o od fd [IOOBE, UOE] R) 1 6 := by
  refine CtH.of (by decide) (Nat.le_of_ble_eq_true rfl) ?_
  intro K C Z htab hN hBA el eD ekn
  subst el
  subst eD
  have hlt : ∀ i, i < 4 → i < kn K := fun i h => by rw [ekn]; exact h
  have hE := Z.1.2.2.2.2.2
  show V K 0 0 (oW g A o od f fd x) [(0, .ref A.1), (1, .int a1), (2, .ref o)] [] 0
  refine V_aload_n C 2 1 dL_startChapter_0 rfl rfl ?_
  refine V_iconst C (0 : Int32) 2 dL_startChapter_1 rfl rfl ?_
  refine V_aload_n C 0 3 dL_startChapter_2 rfl rfl ?_
  refine V_iload_n C 1 4 dL_startChapter_3 rfl rfl ?_
  rcases R with ⟨r, x1⟩ | ⟨E, x1⟩
  · refine V_callXr C hBA hE ml_L_71 (pre := [(o, aL g 1 f), (od, aD g 1 fd)]) (post := []) (wc := xW g A x) (w1 := xW g A x1) (rv := some (.int r)) (as := [.int a1]) (rest := [.int (0 : Int32), .ref o]) (c_X3_startChapter (R := .inl (r, x1)) hst h) 2 7 (oW g A o od f fd x1) dL_startChapter_4 rfl ⟨Nat.le_of_ble_eq_true rfl, Nat.le_of_ble_eq_true rfl⟩ rfl (by rw [List.append_nil]) (by rw [List.append_nil]) (xW_fst _ _ _ _) rfl rfl rfl (Nat.le_of_ble_eq_true rfl) ⟨Nat.zero_le _, Nat.zero_le _⟩ ?_
    refine V_i2l C 8 dL_startChapter_7 rfl ?_
    refine V_last C hBA (f := f) (n := 1) 0 9 _ dL_startChapter_8 rfl rfl (by decide) rfl ?_
    refine V_goto C 18 dL_startChapter_9 rfl ?_
    refine V_iconst C (0 : Int32) 19 dL_startChapter_18 rfl rfl ?_
    exact V_nretI C Z (ty := .int) rfl rfl ⟨_, rfl, rfl, upL_0⟩ dL_startChapter_19 (Nat.zero_le _) (Nat.zero_le _)
  · obtain ⟨j, hj⟩ := hc _ rfl
    rcases j with _ | _ | j
    · cases hj
      refine V_callXt C hBA hE ml_L_71 (pre := [(o, aL g 1 f), (od, aD g 1 fd)]) (post := []) (wc := xW g A x) (w1 := xW g A x1) (E := IOOBE) (as := [.int a1]) (rest := [.int (0 : Int32), .ref o]) (c_X3_startChapter (R := .inr (IOOBE, x1)) hst h) 2 (oW g A o od f fd x1) dL_startChapter_4 ⟨Nat.le_of_ble_eq_true rfl, Nat.le_of_ble_eq_true rfl⟩ rfl (by rw [List.append_nil]) (by rw [List.append_nil]) (xW_fst _ _ _ _) rfl rfl (Nat.le_of_ble_eq_true rfl) ⟨Nat.le_refl _, Nat.le_refl _⟩ ?_
      refine VX_catch C htab hN Z.1.2.2.1 (nm := IOOBE) [] (0, 9, 12, 13) [(0, 9, 15, 17)] rfl (fun z hz => absurd hz List.not_mem_nil) ⟨by decide, by decide⟩ (by decide) q800 cs_IOOBE (fun q => ?_)
      refine V_astore_n C 13 ((3, .ref q) :: [(0, .ref A.1), (1, .int a1), (2, .ref o)]) dL_startChapter_12 rfl (hlt 3 (by decide)) rfl ?_
      refine V_iconst C (1 : Int32) 14 dL_startChapter_13 rfl rfl ?_
      exact V_nretI C Z (ty := .int) rfl rfl ⟨f, 0, rfl, rfl, rfl⟩ dL_startChapter_14 (Nat.le_refl _) (Nat.le_refl _)
    · cases hj
      refine V_callXt C hBA hE ml_L_71 (pre := [(o, aL g 1 f), (od, aD g 1 fd)]) (post := []) (wc := xW g A x) (w1 := xW g A x1) (E := UOE) (as := [.int a1]) (rest := [.int (0 : Int32), .ref o]) (c_X3_startChapter (R := .inr (UOE, x1)) hst h) 2 (oW g A o od f fd x1) dL_startChapter_4 ⟨Nat.le_of_ble_eq_true rfl, Nat.le_of_ble_eq_true rfl⟩ rfl (by rw [List.append_nil]) (by rw [List.append_nil]) (xW_fst _ _ _ _) rfl rfl (Nat.le_of_ble_eq_true rfl) ⟨Nat.le_refl _, Nat.le_refl _⟩ ?_
      refine VX_catch C htab hN Z.1.2.2.1 (nm := UOE) [(0, 9, 12, 13)] (0, 9, 15, 17) [] rfl (List.forall_mem_cons.mpr ⟨⟨by decide, _, q800, List.mem_of_getElem? (i := 1) rfl⟩, fun z hz => absurd hz List.not_mem_nil⟩) ⟨by decide, by decide⟩ (by decide) q804 cs_UOE (fun q => ?_)
      refine V_astore_n C 16 ((3, .ref q) :: [(0, .ref A.1), (1, .int a1), (2, .ref o)]) dL_startChapter_15 rfl (hlt 3 (by decide)) rfl ?_
      refine V_iconst C (2 : Int32) 17 dL_startChapter_16 rfl rfl ?_
      exact V_nretI C Z (ty := .int) rfl rfl ⟨f, 1, rfl, rfl, rfl⟩ dL_startChapter_17 (Nat.le_refl _) (Nat.le_refl _)
    · exact absurd hj (by simp)
theorem w_voteToDissolve {l : Launch} {D : va_G} {g : G0} {A : XA} {x : XV} {a1 : Int32} {o od : Nat} {f : Nat → Int64} {fd : Nat → UInt64} {R : (Int32 × XV) ⊕ (String × XV)} (hst : l.stackTraces = false) (h : f_X3_voteToDissolve x a1 = some R) (hc : codesOk [IOOBE, UOE] R) : CtH l D g yL_voteToDissolve cL_voteToDissolve 4 (some .int) [(0, 16, 19, 13), (0, 16, 22, 17)] (rmN 10 300 1 6) (oW g A o od f fd x) [.ref A.1, .int a1, .ref o] (wB g A o od fd [IOOBE, UOE] R) 1 6 := by
  refine CtH.of (by decide) (Nat.le_of_ble_eq_true rfl) ?_
  intro K C Z htab hN hBA el eD ekn
  subst el
  subst eD
  have hlt : ∀ i, i < 4 → i < kn K := fun i h => by rw [ekn]; exact h
  have hE := Z.1.2.2.2.2.2
  show V K 0 0 (oW g A o od f fd x) [(0, .ref A.1), (1, .int a1), (2, .ref o)] [] 0
  refine V_aload_n C 2 1 dL_voteToDissolve_0 rfl rfl ?_
  refine V_iconst C (0 : Int32) 2 dL_voteToDissolve_1 rfl rfl ?_
  refine V_aload_n C 0 3 dL_voteToDissolve_2 rfl rfl ?_
  refine V_iload_n C 1 4 dL_voteToDissolve_3 rfl rfl ?_
  rcases R with ⟨r, x1⟩ | ⟨E, x1⟩
  · refine V_callXr C hBA hE ml_L_74 (pre := [(o, aL g 1 f), (od, aD g 1 fd)]) (post := []) (wc := xW g A x) (w1 := xW g A x1) (rv := some (.int r)) (as := [.int a1]) (rest := [.int (0 : Int32), .ref o]) (c_X3_voteToDissolve (R := .inl (r, x1)) hst h) 2 7 (oW g A o od f fd x1) dL_voteToDissolve_4 rfl ⟨Nat.le_of_ble_eq_true rfl, Nat.le_of_ble_eq_true rfl⟩ rfl (by rw [List.append_nil]) (by rw [List.append_nil]) (xW_fst _ _ _ _) rfl rfl rfl (Nat.le_of_ble_eq_true rfl) ⟨Nat.zero_le _, Nat.zero_le _⟩ ?_
    refine V_if_eq C 14 10 dL_voteToDissolve_7 rfl rfl (fun e => ?_) (fun e => ?_)
    · refine V_lconst C (0 : Int64) 15 dL_voteToDissolve_14 rfl rfl ?_
      refine V_last C hBA (f := f) (n := 1) 0 16 _ dL_voteToDissolve_15 rfl rfl (by decide) rfl ?_
      refine V_goto C 25 dL_voteToDissolve_16 rfl ?_
      refine V_iconst C (0 : Int32) 26 dL_voteToDissolve_25 rfl rfl ?_
      exact V_nretI C Z (ty := .int) rfl rfl ⟨_, rfl, rfl, upL_0.trans (if_pos e).symm⟩ dL_voteToDissolve_26 (Nat.zero_le _) (Nat.zero_le _)
    · refine V_lconst C (1 : Int64) 11 dL_voteToDissolve_10 rfl rfl ?_
      refine V_goto C 15 dL_voteToDissolve_11 rfl ?_
      refine V_last C hBA (f := f) (n := 1) 0 16 _ dL_voteToDissolve_15 rfl rfl (by decide) rfl ?_
      refine V_goto C 25 dL_voteToDissolve_16 rfl ?_
      refine V_iconst C (0 : Int32) 26 dL_voteToDissolve_25 rfl rfl ?_
      exact V_nretI C Z (ty := .int) rfl rfl ⟨_, rfl, rfl, upL_0.trans (if_neg e).symm⟩ dL_voteToDissolve_26 (Nat.zero_le _) (Nat.zero_le _)
  · obtain ⟨j, hj⟩ := hc _ rfl
    rcases j with _ | _ | j
    · cases hj
      refine V_callXt C hBA hE ml_L_74 (pre := [(o, aL g 1 f), (od, aD g 1 fd)]) (post := []) (wc := xW g A x) (w1 := xW g A x1) (E := IOOBE) (as := [.int a1]) (rest := [.int (0 : Int32), .ref o]) (c_X3_voteToDissolve (R := .inr (IOOBE, x1)) hst h) 2 (oW g A o od f fd x1) dL_voteToDissolve_4 ⟨Nat.le_of_ble_eq_true rfl, Nat.le_of_ble_eq_true rfl⟩ rfl (by rw [List.append_nil]) (by rw [List.append_nil]) (xW_fst _ _ _ _) rfl rfl (Nat.le_of_ble_eq_true rfl) ⟨Nat.le_refl _, Nat.le_refl _⟩ ?_
      refine VX_catch C htab hN Z.1.2.2.1 (nm := IOOBE) [] (0, 16, 19, 13) [(0, 16, 22, 17)] rfl (fun z hz => absurd hz List.not_mem_nil) ⟨by decide, by decide⟩ (by decide) q800 cs_IOOBE (fun q => ?_)
      refine V_astore_n C 20 ((3, .ref q) :: [(0, .ref A.1), (1, .int a1), (2, .ref o)]) dL_voteToDissolve_19 rfl (hlt 3 (by decide)) rfl ?_
      refine V_iconst C (1 : Int32) 21 dL_voteToDissolve_20 rfl rfl ?_
      exact V_nretI C Z (ty := .int) rfl rfl ⟨f, 0, rfl, rfl, rfl⟩ dL_voteToDissolve_21 (Nat.le_refl _) (Nat.le_refl _)
    · cases hj
      refine V_callXt C hBA hE ml_L_74 (pre := [(o, aL g 1 f), (od, aD g 1 fd)]) (post := []) (wc := xW g A x) (w1 := xW g A x1) (E := UOE) (as := [.int a1]) (rest := [.int (0 : Int32), .ref o]) (c_X3_voteToDissolve (R := .inr (UOE, x1)) hst h) 2 (oW g A o od f fd x1) dL_voteToDissolve_4 ⟨Nat.le_of_ble_eq_true rfl, Nat.le_of_ble_eq_true rfl⟩ rfl (by rw [List.append_nil]) (by rw [List.append_nil]) (xW_fst _ _ _ _) rfl rfl (Nat.le_of_ble_eq_true rfl) ⟨Nat.le_refl _, Nat.le_refl _⟩ ?_
      refine VX_catch C htab hN Z.1.2.2.1 (nm := UOE) [(0, 16, 19, 13)] (0, 16, 22, 17) [] rfl (List.forall_mem_cons.mpr ⟨⟨by decide, _, q800, List.mem_of_getElem? (i := 1) rfl⟩, fun z hz => absurd hz List.not_mem_nil⟩) ⟨by decide, by decide⟩ (by decide) q804 cs_UOE (fun q => ?_)
      refine V_astore_n C 23 ((3, .ref q) :: [(0, .ref A.1), (1, .int a1), (2, .ref o)]) dL_voteToDissolve_22 rfl (hlt 3 (by decide)) rfl ?_
      refine V_iconst C (2 : Int32) 24 dL_voteToDissolve_23 rfl rfl ?_
      exact V_nretI C Z (ty := .int) rfl rfl ⟨f, 1, rfl, rfl, rfl⟩ dL_voteToDissolve_24 (Nat.le_refl _) (Nat.le_refl _)
    · exact absurd hj (by simp)
theorem w_firstPage {l : Launch} {D : va_G} {g : G0} {A : XA} {x : XV} {a1 : Int32} {o od : Nat} {f : Nat → Int64} {fd : Nat → UInt64} {R : (Int32 × XV) ⊕ (String × XV)} (hst : l.stackTraces = false) (h : f_X3_firstPage x a1 = some R) (hc : codesOk [IOOBE] R) : CtH l D g yL_firstPage cL_firstPage 4 (some .int) [(0, 9, 12, 13)] (rmN 10 300 1 6) (oW g A o od f fd x) [.ref A.1, .int a1, .ref o] (wI g A o od fd [IOOBE] R) 1 6 := by
  refine CtH.of (by decide) (Nat.le_of_ble_eq_true rfl) ?_
  intro K C Z htab hN hBA el eD ekn
  subst el
  subst eD
  have hlt : ∀ i, i < 4 → i < kn K := fun i h => by rw [ekn]; exact h
  have hE := Z.1.2.2.2.2.2
  show V K 0 0 (oW g A o od f fd x) [(0, .ref A.1), (1, .int a1), (2, .ref o)] [] 0
  refine V_aload_n C 2 1 dL_firstPage_0 rfl rfl ?_
  refine V_iconst C (0 : Int32) 2 dL_firstPage_1 rfl rfl ?_
  refine V_aload_n C 0 3 dL_firstPage_2 rfl rfl ?_
  refine V_iload_n C 1 4 dL_firstPage_3 rfl rfl ?_
  rcases R with ⟨r, x1⟩ | ⟨E, x1⟩
  · refine V_callXr C hBA hE ml_L_77 (pre := [(o, aL g 1 f), (od, aD g 1 fd)]) (post := []) (wc := xW g A x) (w1 := xW g A x1) (rv := some (.int r)) (as := [.int a1]) (rest := [.int (0 : Int32), .ref o]) (c_X3_firstPage (R := .inl (r, x1)) hst h) 2 7 (oW g A o od f fd x1) dL_firstPage_4 rfl ⟨Nat.le_of_ble_eq_true rfl, Nat.le_of_ble_eq_true rfl⟩ rfl (by rw [List.append_nil]) (by rw [List.append_nil]) (xW_fst _ _ _ _) rfl rfl rfl (Nat.le_of_ble_eq_true rfl) ⟨Nat.zero_le _, Nat.zero_le _⟩ ?_
    refine V_i2l C 8 dL_firstPage_7 rfl ?_
    refine V_last C hBA (f := f) (n := 1) 0 9 _ dL_firstPage_8 rfl rfl (by decide) rfl ?_
    refine V_goto C 15 dL_firstPage_9 rfl ?_
    refine V_iconst C (0 : Int32) 16 dL_firstPage_15 rfl rfl ?_
    exact V_nretI C Z (ty := .int) rfl rfl ⟨_, rfl, rfl, upL_0⟩ dL_firstPage_16 (Nat.zero_le _) (Nat.zero_le _)
  · obtain ⟨j, hj⟩ := hc _ rfl
    rcases j with _ | j
    · cases hj
      refine V_callXt C hBA hE ml_L_77 (pre := [(o, aL g 1 f), (od, aD g 1 fd)]) (post := []) (wc := xW g A x) (w1 := xW g A x1) (E := IOOBE) (as := [.int a1]) (rest := [.int (0 : Int32), .ref o]) (c_X3_firstPage (R := .inr (IOOBE, x1)) hst h) 2 (oW g A o od f fd x1) dL_firstPage_4 ⟨Nat.le_of_ble_eq_true rfl, Nat.le_of_ble_eq_true rfl⟩ rfl (by rw [List.append_nil]) (by rw [List.append_nil]) (xW_fst _ _ _ _) rfl rfl (Nat.le_of_ble_eq_true rfl) ⟨Nat.le_refl _, Nat.le_refl _⟩ ?_
      refine VX_catch C htab hN Z.1.2.2.1 (nm := IOOBE) [] (0, 9, 12, 13) [] rfl (fun z hz => absurd hz List.not_mem_nil) ⟨by decide, by decide⟩ (by decide) q800 cs_IOOBE (fun q => ?_)
      refine V_astore_n C 13 ((3, .ref q) :: [(0, .ref A.1), (1, .int a1), (2, .ref o)]) dL_firstPage_12 rfl (hlt 3 (by decide)) rfl ?_
      refine V_iconst C (1 : Int32) 14 dL_firstPage_13 rfl rfl ?_
      exact V_nretI C Z (ty := .int) rfl rfl ⟨f, 0, rfl, rfl, rfl⟩ dL_firstPage_14 (Nat.le_refl _) (Nat.le_refl _)
    · exact absurd hj (by simp)
theorem w_lastPage {l : Launch} {D : va_G} {g : G0} {A : XA} {x : XV} {a1 : Int32} {o od : Nat} {f : Nat → Int64} {fd : Nat → UInt64} {R : (Int32 × XV) ⊕ (String × XV)} (hst : l.stackTraces = false) (h : f_X3_lastPage x a1 = some R) (hc : codesOk [IOOBE] R) : CtH l D g yL_lastPage cL_lastPage 4 (some .int) [(0, 9, 12, 13)] (rmN 10 300 1 6) (oW g A o od f fd x) [.ref A.1, .int a1, .ref o] (wI g A o od fd [IOOBE] R) 1 6 := by
  refine CtH.of (by decide) (Nat.le_of_ble_eq_true rfl) ?_
  intro K C Z htab hN hBA el eD ekn
  subst el
  subst eD
  have hlt : ∀ i, i < 4 → i < kn K := fun i h => by rw [ekn]; exact h
  have hE := Z.1.2.2.2.2.2
  show V K 0 0 (oW g A o od f fd x) [(0, .ref A.1), (1, .int a1), (2, .ref o)] [] 0
  refine V_aload_n C 2 1 dL_lastPage_0 rfl rfl ?_
  refine V_iconst C (0 : Int32) 2 dL_lastPage_1 rfl rfl ?_
  refine V_aload_n C 0 3 dL_lastPage_2 rfl rfl ?_
  refine V_iload_n C 1 4 dL_lastPage_3 rfl rfl ?_
  rcases R with ⟨r, x1⟩ | ⟨E, x1⟩
  · refine V_callXr C hBA hE ml_L_80 (pre := [(o, aL g 1 f), (od, aD g 1 fd)]) (post := []) (wc := xW g A x) (w1 := xW g A x1) (rv := some (.int r)) (as := [.int a1]) (rest := [.int (0 : Int32), .ref o]) (c_X3_lastPage (R := .inl (r, x1)) hst h) 2 7 (oW g A o od f fd x1) dL_lastPage_4 rfl ⟨Nat.le_of_ble_eq_true rfl, Nat.le_of_ble_eq_true rfl⟩ rfl (by rw [List.append_nil]) (by rw [List.append_nil]) (xW_fst _ _ _ _) rfl rfl rfl (Nat.le_of_ble_eq_true rfl) ⟨Nat.zero_le _, Nat.zero_le _⟩ ?_
    refine V_i2l C 8 dL_lastPage_7 rfl ?_
    refine V_last C hBA (f := f) (n := 1) 0 9 _ dL_lastPage_8 rfl rfl (by decide) rfl ?_
    refine V_goto C 15 dL_lastPage_9 rfl ?_
    refine V_iconst C (0 : Int32) 16 dL_lastPage_15 rfl rfl ?_
    exact V_nretI C Z (ty := .int) rfl rfl ⟨_, rfl, rfl, upL_0⟩ dL_lastPage_16 (Nat.zero_le _) (Nat.zero_le _)
  · obtain ⟨j, hj⟩ := hc _ rfl
    rcases j with _ | j
    · cases hj
      refine V_callXt C hBA hE ml_L_80 (pre := [(o, aL g 1 f), (od, aD g 1 fd)]) (post := []) (wc := xW g A x) (w1 := xW g A x1) (E := IOOBE) (as := [.int a1]) (rest := [.int (0 : Int32), .ref o]) (c_X3_lastPage (R := .inr (IOOBE, x1)) hst h) 2 (oW g A o od f fd x1) dL_lastPage_4 ⟨Nat.le_of_ble_eq_true rfl, Nat.le_of_ble_eq_true rfl⟩ rfl (by rw [List.append_nil]) (by rw [List.append_nil]) (xW_fst _ _ _ _) rfl rfl (Nat.le_of_ble_eq_true rfl) ⟨Nat.le_refl _, Nat.le_refl _⟩ ?_
      refine VX_catch C htab hN Z.1.2.2.1 (nm := IOOBE) [] (0, 9, 12, 13) [] rfl (fun z hz => absurd hz List.not_mem_nil) ⟨by decide, by decide⟩ (by decide) q800 cs_IOOBE (fun q => ?_)
      refine V_astore_n C 13 ((3, .ref q) :: [(0, .ref A.1), (1, .int a1), (2, .ref o)]) dL_lastPage_12 rfl (hlt 3 (by decide)) rfl ?_
      refine V_iconst C (1 : Int32) 14 dL_lastPage_13 rfl rfl ?_
      exact V_nretI C Z (ty := .int) rfl rfl ⟨f, 0, rfl, rfl, rfl⟩ dL_lastPage_14 (Nat.le_refl _) (Nat.le_refl _)
    · exact absurd hj (by simp)
theorem w_heldPages {l : Launch} {D : va_G} {g : G0} {A : XA} {x : XV} {a1 : Int32} {o od : Nat} {f : Nat → Int64} {fd : Nat → UInt64} {R : (Int32 × XV) ⊕ (String × XV)} (hst : l.stackTraces = false) (h : f_X3_heldPages x a1 = some R) (hc : codesOk [IOOBE] R) : CtH l D g yL_heldPages cL_heldPages 4 (some .int) [(0, 9, 12, 13)] (rmN 10 300 1 6) (oW g A o od f fd x) [.ref A.1, .int a1, .ref o] (wI g A o od fd [IOOBE] R) 1 6 := by
  refine CtH.of (by decide) (Nat.le_of_ble_eq_true rfl) ?_
  intro K C Z htab hN hBA el eD ekn
  subst el
  subst eD
  have hlt : ∀ i, i < 4 → i < kn K := fun i h => by rw [ekn]; exact h
  have hE := Z.1.2.2.2.2.2
  show V K 0 0 (oW g A o od f fd x) [(0, .ref A.1), (1, .int a1), (2, .ref o)] [] 0
  refine V_aload_n C 2 1 dL_heldPages_0 rfl rfl ?_
  refine V_iconst C (0 : Int32) 2 dL_heldPages_1 rfl rfl ?_
  refine V_aload_n C 0 3 dL_heldPages_2 rfl rfl ?_
  refine V_iload_n C 1 4 dL_heldPages_3 rfl rfl ?_
  rcases R with ⟨r, x1⟩ | ⟨E, x1⟩
  · refine V_callXr C hBA hE ml_L_83 (pre := [(o, aL g 1 f), (od, aD g 1 fd)]) (post := []) (wc := xW g A x) (w1 := xW g A x1) (rv := some (.int r)) (as := [.int a1]) (rest := [.int (0 : Int32), .ref o]) (c_X3_heldPages (R := .inl (r, x1)) hst h) 2 7 (oW g A o od f fd x1) dL_heldPages_4 rfl ⟨Nat.le_of_ble_eq_true rfl, Nat.le_of_ble_eq_true rfl⟩ rfl (by rw [List.append_nil]) (by rw [List.append_nil]) (xW_fst _ _ _ _) rfl rfl rfl (Nat.le_of_ble_eq_true rfl) ⟨Nat.zero_le _, Nat.zero_le _⟩ ?_
    refine V_i2l C 8 dL_heldPages_7 rfl ?_
    refine V_last C hBA (f := f) (n := 1) 0 9 _ dL_heldPages_8 rfl rfl (by decide) rfl ?_
    refine V_goto C 15 dL_heldPages_9 rfl ?_
    refine V_iconst C (0 : Int32) 16 dL_heldPages_15 rfl rfl ?_
    exact V_nretI C Z (ty := .int) rfl rfl ⟨_, rfl, rfl, upL_0⟩ dL_heldPages_16 (Nat.zero_le _) (Nat.zero_le _)
  · obtain ⟨j, hj⟩ := hc _ rfl
    rcases j with _ | j
    · cases hj
      refine V_callXt C hBA hE ml_L_83 (pre := [(o, aL g 1 f), (od, aD g 1 fd)]) (post := []) (wc := xW g A x) (w1 := xW g A x1) (E := IOOBE) (as := [.int a1]) (rest := [.int (0 : Int32), .ref o]) (c_X3_heldPages (R := .inr (IOOBE, x1)) hst h) 2 (oW g A o od f fd x1) dL_heldPages_4 ⟨Nat.le_of_ble_eq_true rfl, Nat.le_of_ble_eq_true rfl⟩ rfl (by rw [List.append_nil]) (by rw [List.append_nil]) (xW_fst _ _ _ _) rfl rfl (Nat.le_of_ble_eq_true rfl) ⟨Nat.le_refl _, Nat.le_refl _⟩ ?_
      refine VX_catch C htab hN Z.1.2.2.1 (nm := IOOBE) [] (0, 9, 12, 13) [] rfl (fun z hz => absurd hz List.not_mem_nil) ⟨by decide, by decide⟩ (by decide) q800 cs_IOOBE (fun q => ?_)
      refine V_astore_n C 13 ((3, .ref q) :: [(0, .ref A.1), (1, .int a1), (2, .ref o)]) dL_heldPages_12 rfl (hlt 3 (by decide)) rfl ?_
      refine V_iconst C (1 : Int32) 14 dL_heldPages_13 rfl rfl ?_
      exact V_nretI C Z (ty := .int) rfl rfl ⟨f, 0, rfl, rfl, rfl⟩ dL_heldPages_14 (Nat.le_refl _) (Nat.le_refl _)
    · exact absurd hj (by simp)
theorem w_heldPagesByMarks {l : Launch} {D : va_G} {g : G0} {A : XA} {x : XV} {a1 : Int32} {o od : Nat} {f : Nat → Int64} {fd : Nat → UInt64} {R : (Int32 × XV) ⊕ (String × XV)} (hst : l.stackTraces = false) (h : f_X3_heldPagesByMarks x a1 = some R) (hc : codesOk [IOOBE] R) : CtH l D g yL_heldPagesByMarks cL_heldPagesByMarks 4 (some .int) [(0, 9, 12, 13)] (rmN 10 300 1 6) (oW g A o od f fd x) [.ref A.1, .int a1, .ref o] (wI g A o od fd [IOOBE] R) 1 6 := by
  refine CtH.of (by decide) (Nat.le_of_ble_eq_true rfl) ?_
  intro K C Z htab hN hBA el eD ekn
  subst el
  subst eD
  have hlt : ∀ i, i < 4 → i < kn K := fun i h => by rw [ekn]; exact h
  have hE := Z.1.2.2.2.2.2
  show V K 0 0 (oW g A o od f fd x) [(0, .ref A.1), (1, .int a1), (2, .ref o)] [] 0
  refine V_aload_n C 2 1 dL_heldPagesByMarks_0 rfl rfl ?_
  refine V_iconst C (0 : Int32) 2 dL_heldPagesByMarks_1 rfl rfl ?_
  refine V_aload_n C 0 3 dL_heldPagesByMarks_2 rfl rfl ?_
  refine V_iload_n C 1 4 dL_heldPagesByMarks_3 rfl rfl ?_
  rcases R with ⟨r, x1⟩ | ⟨E, x1⟩
  · refine V_callXr C hBA hE ml_L_86 (pre := [(o, aL g 1 f), (od, aD g 1 fd)]) (post := []) (wc := xW g A x) (w1 := xW g A x1) (rv := some (.int r)) (as := [.int a1]) (rest := [.int (0 : Int32), .ref o]) (c_X3_heldPagesByMarks (R := .inl (r, x1)) hst h) 2 7 (oW g A o od f fd x1) dL_heldPagesByMarks_4 rfl ⟨Nat.le_of_ble_eq_true rfl, Nat.le_of_ble_eq_true rfl⟩ rfl (by rw [List.append_nil]) (by rw [List.append_nil]) (xW_fst _ _ _ _) rfl rfl rfl (Nat.le_of_ble_eq_true rfl) ⟨Nat.zero_le _, Nat.zero_le _⟩ ?_
    refine V_i2l C 8 dL_heldPagesByMarks_7 rfl ?_
    refine V_last C hBA (f := f) (n := 1) 0 9 _ dL_heldPagesByMarks_8 rfl rfl (by decide) rfl ?_
    refine V_goto C 15 dL_heldPagesByMarks_9 rfl ?_
    refine V_iconst C (0 : Int32) 16 dL_heldPagesByMarks_15 rfl rfl ?_
    exact V_nretI C Z (ty := .int) rfl rfl ⟨_, rfl, rfl, upL_0⟩ dL_heldPagesByMarks_16 (Nat.zero_le _) (Nat.zero_le _)
  · obtain ⟨j, hj⟩ := hc _ rfl
    rcases j with _ | j
    · cases hj
      refine V_callXt C hBA hE ml_L_86 (pre := [(o, aL g 1 f), (od, aD g 1 fd)]) (post := []) (wc := xW g A x) (w1 := xW g A x1) (E := IOOBE) (as := [.int a1]) (rest := [.int (0 : Int32), .ref o]) (c_X3_heldPagesByMarks (R := .inr (IOOBE, x1)) hst h) 2 (oW g A o od f fd x1) dL_heldPagesByMarks_4 ⟨Nat.le_of_ble_eq_true rfl, Nat.le_of_ble_eq_true rfl⟩ rfl (by rw [List.append_nil]) (by rw [List.append_nil]) (xW_fst _ _ _ _) rfl rfl (Nat.le_of_ble_eq_true rfl) ⟨Nat.le_refl _, Nat.le_refl _⟩ ?_
      refine VX_catch C htab hN Z.1.2.2.1 (nm := IOOBE) [] (0, 9, 12, 13) [] rfl (fun z hz => absurd hz List.not_mem_nil) ⟨by decide, by decide⟩ (by decide) q800 cs_IOOBE (fun q => ?_)
      refine V_astore_n C 13 ((3, .ref q) :: [(0, .ref A.1), (1, .int a1), (2, .ref o)]) dL_heldPagesByMarks_12 rfl (hlt 3 (by decide)) rfl ?_
      refine V_iconst C (1 : Int32) 14 dL_heldPagesByMarks_13 rfl rfl ?_
      exact V_nretI C Z (ty := .int) rfl rfl ⟨f, 0, rfl, rfl, rfl⟩ dL_heldPagesByMarks_14 (Nat.le_refl _) (Nat.le_refl _)
    · exact absurd hj (by simp)
theorem w_chapterWeight {l : Launch} {D : va_G} {g : G0} {A : XA} {x : XV} {a1 : Int32} {o od : Nat} {f : Nat → Int64} {fd : Nat → UInt64} {R : (Int32 × XV) ⊕ (String × XV)} (hst : l.stackTraces = false) (h : f_X3_chapterWeight x a1 = some R) (hc : codesOk [IOOBE] R) : CtH l D g yL_chapterWeight cL_chapterWeight 4 (some .int) [(0, 9, 12, 13)] (rmN 10 300 1 6) (oW g A o od f fd x) [.ref A.1, .int a1, .ref o] (wI g A o od fd [IOOBE] R) 1 6 := by
  refine CtH.of (by decide) (Nat.le_of_ble_eq_true rfl) ?_
  intro K C Z htab hN hBA el eD ekn
  subst el
  subst eD
  have hlt : ∀ i, i < 4 → i < kn K := fun i h => by rw [ekn]; exact h
  have hE := Z.1.2.2.2.2.2
  show V K 0 0 (oW g A o od f fd x) [(0, .ref A.1), (1, .int a1), (2, .ref o)] [] 0
  refine V_aload_n C 2 1 dL_chapterWeight_0 rfl rfl ?_
  refine V_iconst C (0 : Int32) 2 dL_chapterWeight_1 rfl rfl ?_
  refine V_aload_n C 0 3 dL_chapterWeight_2 rfl rfl ?_
  refine V_iload_n C 1 4 dL_chapterWeight_3 rfl rfl ?_
  rcases R with ⟨r, x1⟩ | ⟨E, x1⟩
  · refine V_callXr C hBA hE ml_L_89 (pre := [(o, aL g 1 f), (od, aD g 1 fd)]) (post := []) (wc := xW g A x) (w1 := xW g A x1) (rv := some (.int r)) (as := [.int a1]) (rest := [.int (0 : Int32), .ref o]) (c_X3_chapterWeight (R := .inl (r, x1)) hst h) 2 7 (oW g A o od f fd x1) dL_chapterWeight_4 rfl ⟨Nat.le_of_ble_eq_true rfl, Nat.le_of_ble_eq_true rfl⟩ rfl (by rw [List.append_nil]) (by rw [List.append_nil]) (xW_fst _ _ _ _) rfl rfl rfl (Nat.le_of_ble_eq_true rfl) ⟨Nat.zero_le _, Nat.zero_le _⟩ ?_
    refine V_i2l C 8 dL_chapterWeight_7 rfl ?_
    refine V_last C hBA (f := f) (n := 1) 0 9 _ dL_chapterWeight_8 rfl rfl (by decide) rfl ?_
    refine V_goto C 15 dL_chapterWeight_9 rfl ?_
    refine V_iconst C (0 : Int32) 16 dL_chapterWeight_15 rfl rfl ?_
    exact V_nretI C Z (ty := .int) rfl rfl ⟨_, rfl, rfl, upL_0⟩ dL_chapterWeight_16 (Nat.zero_le _) (Nat.zero_le _)
  · obtain ⟨j, hj⟩ := hc _ rfl
    rcases j with _ | j
    · cases hj
      refine V_callXt C hBA hE ml_L_89 (pre := [(o, aL g 1 f), (od, aD g 1 fd)]) (post := []) (wc := xW g A x) (w1 := xW g A x1) (E := IOOBE) (as := [.int a1]) (rest := [.int (0 : Int32), .ref o]) (c_X3_chapterWeight (R := .inr (IOOBE, x1)) hst h) 2 (oW g A o od f fd x1) dL_chapterWeight_4 ⟨Nat.le_of_ble_eq_true rfl, Nat.le_of_ble_eq_true rfl⟩ rfl (by rw [List.append_nil]) (by rw [List.append_nil]) (xW_fst _ _ _ _) rfl rfl (Nat.le_of_ble_eq_true rfl) ⟨Nat.le_refl _, Nat.le_refl _⟩ ?_
      refine VX_catch C htab hN Z.1.2.2.1 (nm := IOOBE) [] (0, 9, 12, 13) [] rfl (fun z hz => absurd hz List.not_mem_nil) ⟨by decide, by decide⟩ (by decide) q800 cs_IOOBE (fun q => ?_)
      refine V_astore_n C 13 ((3, .ref q) :: [(0, .ref A.1), (1, .int a1), (2, .ref o)]) dL_chapterWeight_12 rfl (hlt 3 (by decide)) rfl ?_
      refine V_iconst C (1 : Int32) 14 dL_chapterWeight_13 rfl rfl ?_
      exact V_nretI C Z (ty := .int) rfl rfl ⟨f, 0, rfl, rfl, rfl⟩ dL_chapterWeight_14 (Nat.le_refl _) (Nat.le_refl _)
    · exact absurd hj (by simp)
theorem w_weightInFavour {l : Launch} {D : va_G} {g : G0} {A : XA} {x : XV} {a1 : Int32} {o od : Nat} {f : Nat → Int64} {fd : Nat → UInt64} {R : (Int32 × XV) ⊕ (String × XV)} (hst : l.stackTraces = false) (h : f_X3_weightInFavour x a1 = some R) (hc : codesOk [IOOBE] R) : CtH l D g yL_weightInFavour cL_weightInFavour 4 (some .int) [(0, 9, 12, 13)] (rmN 10 300 1 6) (oW g A o od f fd x) [.ref A.1, .int a1, .ref o] (wI g A o od fd [IOOBE] R) 1 6 := by
  refine CtH.of (by decide) (Nat.le_of_ble_eq_true rfl) ?_
  intro K C Z htab hN hBA el eD ekn
  subst el
  subst eD
  have hlt : ∀ i, i < 4 → i < kn K := fun i h => by rw [ekn]; exact h
  have hE := Z.1.2.2.2.2.2
  show V K 0 0 (oW g A o od f fd x) [(0, .ref A.1), (1, .int a1), (2, .ref o)] [] 0
  refine V_aload_n C 2 1 dL_weightInFavour_0 rfl rfl ?_
  refine V_iconst C (0 : Int32) 2 dL_weightInFavour_1 rfl rfl ?_
  refine V_aload_n C 0 3 dL_weightInFavour_2 rfl rfl ?_
  refine V_iload_n C 1 4 dL_weightInFavour_3 rfl rfl ?_
  rcases R with ⟨r, x1⟩ | ⟨E, x1⟩
  · refine V_callXr C hBA hE ml_L_92 (pre := [(o, aL g 1 f), (od, aD g 1 fd)]) (post := []) (wc := xW g A x) (w1 := xW g A x1) (rv := some (.int r)) (as := [.int a1]) (rest := [.int (0 : Int32), .ref o]) (c_X3_weightInFavour (R := .inl (r, x1)) hst h) 2 7 (oW g A o od f fd x1) dL_weightInFavour_4 rfl ⟨Nat.le_of_ble_eq_true rfl, Nat.le_of_ble_eq_true rfl⟩ rfl (by rw [List.append_nil]) (by rw [List.append_nil]) (xW_fst _ _ _ _) rfl rfl rfl (Nat.le_of_ble_eq_true rfl) ⟨Nat.zero_le _, Nat.zero_le _⟩ ?_
    refine V_i2l C 8 dL_weightInFavour_7 rfl ?_
    refine V_last C hBA (f := f) (n := 1) 0 9 _ dL_weightInFavour_8 rfl rfl (by decide) rfl ?_
    refine V_goto C 15 dL_weightInFavour_9 rfl ?_
    refine V_iconst C (0 : Int32) 16 dL_weightInFavour_15 rfl rfl ?_
    exact V_nretI C Z (ty := .int) rfl rfl ⟨_, rfl, rfl, upL_0⟩ dL_weightInFavour_16 (Nat.zero_le _) (Nat.zero_le _)
  · obtain ⟨j, hj⟩ := hc _ rfl
    rcases j with _ | j
    · cases hj
      refine V_callXt C hBA hE ml_L_92 (pre := [(o, aL g 1 f), (od, aD g 1 fd)]) (post := []) (wc := xW g A x) (w1 := xW g A x1) (E := IOOBE) (as := [.int a1]) (rest := [.int (0 : Int32), .ref o]) (c_X3_weightInFavour (R := .inr (IOOBE, x1)) hst h) 2 (oW g A o od f fd x1) dL_weightInFavour_4 ⟨Nat.le_of_ble_eq_true rfl, Nat.le_of_ble_eq_true rfl⟩ rfl (by rw [List.append_nil]) (by rw [List.append_nil]) (xW_fst _ _ _ _) rfl rfl (Nat.le_of_ble_eq_true rfl) ⟨Nat.le_refl _, Nat.le_refl _⟩ ?_
      refine VX_catch C htab hN Z.1.2.2.1 (nm := IOOBE) [] (0, 9, 12, 13) [] rfl (fun z hz => absurd hz List.not_mem_nil) ⟨by decide, by decide⟩ (by decide) q800 cs_IOOBE (fun q => ?_)
      refine V_astore_n C 13 ((3, .ref q) :: [(0, .ref A.1), (1, .int a1), (2, .ref o)]) dL_weightInFavour_12 rfl (hlt 3 (by decide)) rfl ?_
      refine V_iconst C (1 : Int32) 14 dL_weightInFavour_13 rfl rfl ?_
      exact V_nretI C Z (ty := .int) rfl rfl ⟨f, 0, rfl, rfl, rfl⟩ dL_weightInFavour_14 (Nat.le_refl _) (Nat.le_refl _)
    · exact absurd hj (by simp)
theorem w_weightAgainst {l : Launch} {D : va_G} {g : G0} {A : XA} {x : XV} {a1 : Int32} {o od : Nat} {f : Nat → Int64} {fd : Nat → UInt64} {R : (Int32 × XV) ⊕ (String × XV)} (hst : l.stackTraces = false) (h : f_X3_weightAgainst x a1 = some R) (hc : codesOk [IOOBE] R) : CtH l D g yL_weightAgainst cL_weightAgainst 4 (some .int) [(0, 9, 12, 13)] (rmN 10 300 1 6) (oW g A o od f fd x) [.ref A.1, .int a1, .ref o] (wI g A o od fd [IOOBE] R) 1 6 := by
  refine CtH.of (by decide) (Nat.le_of_ble_eq_true rfl) ?_
  intro K C Z htab hN hBA el eD ekn
  subst el
  subst eD
  have hlt : ∀ i, i < 4 → i < kn K := fun i h => by rw [ekn]; exact h
  have hE := Z.1.2.2.2.2.2
  show V K 0 0 (oW g A o od f fd x) [(0, .ref A.1), (1, .int a1), (2, .ref o)] [] 0
  refine V_aload_n C 2 1 dL_weightAgainst_0 rfl rfl ?_
  refine V_iconst C (0 : Int32) 2 dL_weightAgainst_1 rfl rfl ?_
  refine V_aload_n C 0 3 dL_weightAgainst_2 rfl rfl ?_
  refine V_iload_n C 1 4 dL_weightAgainst_3 rfl rfl ?_
  rcases R with ⟨r, x1⟩ | ⟨E, x1⟩
  · refine V_callXr C hBA hE ml_L_95 (pre := [(o, aL g 1 f), (od, aD g 1 fd)]) (post := []) (wc := xW g A x) (w1 := xW g A x1) (rv := some (.int r)) (as := [.int a1]) (rest := [.int (0 : Int32), .ref o]) (c_X3_weightAgainst (R := .inl (r, x1)) hst h) 2 7 (oW g A o od f fd x1) dL_weightAgainst_4 rfl ⟨Nat.le_of_ble_eq_true rfl, Nat.le_of_ble_eq_true rfl⟩ rfl (by rw [List.append_nil]) (by rw [List.append_nil]) (xW_fst _ _ _ _) rfl rfl rfl (Nat.le_of_ble_eq_true rfl) ⟨Nat.zero_le _, Nat.zero_le _⟩ ?_
    refine V_i2l C 8 dL_weightAgainst_7 rfl ?_
    refine V_last C hBA (f := f) (n := 1) 0 9 _ dL_weightAgainst_8 rfl rfl (by decide) rfl ?_
    refine V_goto C 15 dL_weightAgainst_9 rfl ?_
    refine V_iconst C (0 : Int32) 16 dL_weightAgainst_15 rfl rfl ?_
    exact V_nretI C Z (ty := .int) rfl rfl ⟨_, rfl, rfl, upL_0⟩ dL_weightAgainst_16 (Nat.zero_le _) (Nat.zero_le _)
  · obtain ⟨j, hj⟩ := hc _ rfl
    rcases j with _ | j
    · cases hj
      refine V_callXt C hBA hE ml_L_95 (pre := [(o, aL g 1 f), (od, aD g 1 fd)]) (post := []) (wc := xW g A x) (w1 := xW g A x1) (E := IOOBE) (as := [.int a1]) (rest := [.int (0 : Int32), .ref o]) (c_X3_weightAgainst (R := .inr (IOOBE, x1)) hst h) 2 (oW g A o od f fd x1) dL_weightAgainst_4 ⟨Nat.le_of_ble_eq_true rfl, Nat.le_of_ble_eq_true rfl⟩ rfl (by rw [List.append_nil]) (by rw [List.append_nil]) (xW_fst _ _ _ _) rfl rfl (Nat.le_of_ble_eq_true rfl) ⟨Nat.le_refl _, Nat.le_refl _⟩ ?_
      refine VX_catch C htab hN Z.1.2.2.1 (nm := IOOBE) [] (0, 9, 12, 13) [] rfl (fun z hz => absurd hz List.not_mem_nil) ⟨by decide, by decide⟩ (by decide) q800 cs_IOOBE (fun q => ?_)
      refine V_astore_n C 13 ((3, .ref q) :: [(0, .ref A.1), (1, .int a1), (2, .ref o)]) dL_weightAgainst_12 rfl (hlt 3 (by decide)) rfl ?_
      refine V_iconst C (1 : Int32) 14 dL_weightAgainst_13 rfl rfl ?_
      exact V_nretI C Z (ty := .int) rfl rfl ⟨f, 0, rfl, rfl, rfl⟩ dL_weightAgainst_14 (Nat.le_refl _) (Nat.le_refl _)
    · exact absurd hj (by simp)
theorem w_weightAgainstByTotal {l : Launch} {D : va_G} {g : G0} {A : XA} {x : XV} {a1 : Int32} {o od : Nat} {f : Nat → Int64} {fd : Nat → UInt64} {R : (Int32 × XV) ⊕ (String × XV)} (hst : l.stackTraces = false) (h : f_X3_weightAgainstByTotal x a1 = some R) (hc : codesOk [IOOBE] R) : CtH l D g yL_weightAgainstByTotal cL_weightAgainstByTotal 4 (some .int) [(0, 9, 12, 13)] (rmN 10 300 1 6) (oW g A o od f fd x) [.ref A.1, .int a1, .ref o] (wI g A o od fd [IOOBE] R) 1 6 := by
  refine CtH.of (by decide) (Nat.le_of_ble_eq_true rfl) ?_
  intro K C Z htab hN hBA el eD ekn
  subst el
  subst eD
  have hlt : ∀ i, i < 4 → i < kn K := fun i h => by rw [ekn]; exact h
  have hE := Z.1.2.2.2.2.2
  show V K 0 0 (oW g A o od f fd x) [(0, .ref A.1), (1, .int a1), (2, .ref o)] [] 0
  refine V_aload_n C 2 1 dL_weightAgainstByTotal_0 rfl rfl ?_
  refine V_iconst C (0 : Int32) 2 dL_weightAgainstByTotal_1 rfl rfl ?_
  refine V_aload_n C 0 3 dL_weightAgainstByTotal_2 rfl rfl ?_
  refine V_iload_n C 1 4 dL_weightAgainstByTotal_3 rfl rfl ?_
  rcases R with ⟨r, x1⟩ | ⟨E, x1⟩
  · refine V_callXr C hBA hE ml_L_98 (pre := [(o, aL g 1 f), (od, aD g 1 fd)]) (post := []) (wc := xW g A x) (w1 := xW g A x1) (rv := some (.int r)) (as := [.int a1]) (rest := [.int (0 : Int32), .ref o]) (c_X3_weightAgainstByTotal (R := .inl (r, x1)) hst h) 2 7 (oW g A o od f fd x1) dL_weightAgainstByTotal_4 rfl ⟨Nat.le_of_ble_eq_true rfl, Nat.le_of_ble_eq_true rfl⟩ rfl (by rw [List.append_nil]) (by rw [List.append_nil]) (xW_fst _ _ _ _) rfl rfl rfl (Nat.le_of_ble_eq_true rfl) ⟨Nat.zero_le _, Nat.zero_le _⟩ ?_
    refine V_i2l C 8 dL_weightAgainstByTotal_7 rfl ?_
    refine V_last C hBA (f := f) (n := 1) 0 9 _ dL_weightAgainstByTotal_8 rfl rfl (by decide) rfl ?_
    refine V_goto C 15 dL_weightAgainstByTotal_9 rfl ?_
    refine V_iconst C (0 : Int32) 16 dL_weightAgainstByTotal_15 rfl rfl ?_
    exact V_nretI C Z (ty := .int) rfl rfl ⟨_, rfl, rfl, upL_0⟩ dL_weightAgainstByTotal_16 (Nat.zero_le _) (Nat.zero_le _)
  · obtain ⟨j, hj⟩ := hc _ rfl
    rcases j with _ | j
    · cases hj
      refine V_callXt C hBA hE ml_L_98 (pre := [(o, aL g 1 f), (od, aD g 1 fd)]) (post := []) (wc := xW g A x) (w1 := xW g A x1) (E := IOOBE) (as := [.int a1]) (rest := [.int (0 : Int32), .ref o]) (c_X3_weightAgainstByTotal (R := .inr (IOOBE, x1)) hst h) 2 (oW g A o od f fd x1) dL_weightAgainstByTotal_4 ⟨Nat.le_of_ble_eq_true rfl, Nat.le_of_ble_eq_true rfl⟩ rfl (by rw [List.append_nil]) (by rw [List.append_nil]) (xW_fst _ _ _ _) rfl rfl (Nat.le_of_ble_eq_true rfl) ⟨Nat.le_refl _, Nat.le_refl _⟩ ?_
      refine VX_catch C htab hN Z.1.2.2.1 (nm := IOOBE) [] (0, 9, 12, 13) [] rfl (fun z hz => absurd hz List.not_mem_nil) ⟨by decide, by decide⟩ (by decide) q800 cs_IOOBE (fun q => ?_)
      refine V_astore_n C 13 ((3, .ref q) :: [(0, .ref A.1), (1, .int a1), (2, .ref o)]) dL_weightAgainstByTotal_12 rfl (hlt 3 (by decide)) rfl ?_
      refine V_iconst C (1 : Int32) 14 dL_weightAgainstByTotal_13 rfl rfl ?_
      exact V_nretI C Z (ty := .int) rfl rfl ⟨f, 0, rfl, rfl, rfl⟩ dL_weightAgainstByTotal_14 (Nat.le_refl _) (Nat.le_refl _)
    · exact absurd hj (by simp)
theorem w_wouldDissolve {l : Launch} {D : va_G} {g : G0} {A : XA} {x : XV} {a1 : Int32} {o od : Nat} {f : Nat → Int64} {fd : Nat → UInt64} {R : (Int32 × XV) ⊕ (String × XV)} (hst : l.stackTraces = false) (h : f_X3_wouldDissolve x a1 = some R) (hc : codesOk [IOOBE] R) : CtH l D g yL_wouldDissolve cL_wouldDissolve 4 (some .int) [(0, 16, 19, 13)] (rmN 10 300 1 6) (oW g A o od f fd x) [.ref A.1, .int a1, .ref o] (wB g A o od fd [IOOBE] R) 1 6 := by
  refine CtH.of (by decide) (Nat.le_of_ble_eq_true rfl) ?_
  intro K C Z htab hN hBA el eD ekn
  subst el
  subst eD
  have hlt : ∀ i, i < 4 → i < kn K := fun i h => by rw [ekn]; exact h
  have hE := Z.1.2.2.2.2.2
  show V K 0 0 (oW g A o od f fd x) [(0, .ref A.1), (1, .int a1), (2, .ref o)] [] 0
  refine V_aload_n C 2 1 dL_wouldDissolve_0 rfl rfl ?_
  refine V_iconst C (0 : Int32) 2 dL_wouldDissolve_1 rfl rfl ?_
  refine V_aload_n C 0 3 dL_wouldDissolve_2 rfl rfl ?_
  refine V_iload_n C 1 4 dL_wouldDissolve_3 rfl rfl ?_
  rcases R with ⟨r, x1⟩ | ⟨E, x1⟩
  · refine V_callXr C hBA hE ml_L_101 (pre := [(o, aL g 1 f), (od, aD g 1 fd)]) (post := []) (wc := xW g A x) (w1 := xW g A x1) (rv := some (.int r)) (as := [.int a1]) (rest := [.int (0 : Int32), .ref o]) (c_X3_wouldDissolve (R := .inl (r, x1)) hst h) 2 7 (oW g A o od f fd x1) dL_wouldDissolve_4 rfl ⟨Nat.le_of_ble_eq_true rfl, Nat.le_of_ble_eq_true rfl⟩ rfl (by rw [List.append_nil]) (by rw [List.append_nil]) (xW_fst _ _ _ _) rfl rfl rfl (Nat.le_of_ble_eq_true rfl) ⟨Nat.zero_le _, Nat.zero_le _⟩ ?_
    refine V_if_eq C 14 10 dL_wouldDissolve_7 rfl rfl (fun e => ?_) (fun e => ?_)
    · refine V_lconst C (0 : Int64) 15 dL_wouldDissolve_14 rfl rfl ?_
      refine V_last C hBA (f := f) (n := 1) 0 16 _ dL_wouldDissolve_15 rfl rfl (by decide) rfl ?_
      refine V_goto C 22 dL_wouldDissolve_16 rfl ?_
      refine V_iconst C (0 : Int32) 23 dL_wouldDissolve_22 rfl rfl ?_
      exact V_nretI C Z (ty := .int) rfl rfl ⟨_, rfl, rfl, upL_0.trans (if_pos e).symm⟩ dL_wouldDissolve_23 (Nat.zero_le _) (Nat.zero_le _)
    · refine V_lconst C (1 : Int64) 11 dL_wouldDissolve_10 rfl rfl ?_
      refine V_goto C 15 dL_wouldDissolve_11 rfl ?_
      refine V_last C hBA (f := f) (n := 1) 0 16 _ dL_wouldDissolve_15 rfl rfl (by decide) rfl ?_
      refine V_goto C 22 dL_wouldDissolve_16 rfl ?_
      refine V_iconst C (0 : Int32) 23 dL_wouldDissolve_22 rfl rfl ?_
      exact V_nretI C Z (ty := .int) rfl rfl ⟨_, rfl, rfl, upL_0.trans (if_neg e).symm⟩ dL_wouldDissolve_23 (Nat.zero_le _) (Nat.zero_le _)
  · obtain ⟨j, hj⟩ := hc _ rfl
    rcases j with _ | j
    · cases hj
      refine V_callXt C hBA hE ml_L_101 (pre := [(o, aL g 1 f), (od, aD g 1 fd)]) (post := []) (wc := xW g A x) (w1 := xW g A x1) (E := IOOBE) (as := [.int a1]) (rest := [.int (0 : Int32), .ref o]) (c_X3_wouldDissolve (R := .inr (IOOBE, x1)) hst h) 2 (oW g A o od f fd x1) dL_wouldDissolve_4 ⟨Nat.le_of_ble_eq_true rfl, Nat.le_of_ble_eq_true rfl⟩ rfl (by rw [List.append_nil]) (by rw [List.append_nil]) (xW_fst _ _ _ _) rfl rfl (Nat.le_of_ble_eq_true rfl) ⟨Nat.le_refl _, Nat.le_refl _⟩ ?_
      refine VX_catch C htab hN Z.1.2.2.1 (nm := IOOBE) [] (0, 16, 19, 13) [] rfl (fun z hz => absurd hz List.not_mem_nil) ⟨by decide, by decide⟩ (by decide) q800 cs_IOOBE (fun q => ?_)
      refine V_astore_n C 20 ((3, .ref q) :: [(0, .ref A.1), (1, .int a1), (2, .ref o)]) dL_wouldDissolve_19 rfl (hlt 3 (by decide)) rfl ?_
      refine V_iconst C (1 : Int32) 21 dL_wouldDissolve_20 rfl rfl ?_
      exact V_nretI C Z (ty := .int) rfl rfl ⟨f, 0, rfl, rfl, rfl⟩ dL_wouldDissolve_21 (Nat.le_refl _) (Nat.le_refl _)
    · exact absurd hj (by simp)
theorem w_turnPages {l : Launch} {D : va_G} {g : G0} {A : XA} {x : XV} {a1 a2 : Int32} {o od : Nat} {f : Nat → Int64} {fd : Nat → UInt64} {R : (Int32 × XV) ⊕ (String × XV)} (hst : l.stackTraces = false) (h : f_X3_turnPages x a1 a2 = some R) (hc : codesOk [IAE, UOE] R) : CtH l D g yL_turnPages cL_turnPages 5 (some .int) [(0, 10, 13, 15), (0, 10, 17, 17)] (rmN 10 300 1 6) (oW g A o od f fd x) [.ref A.1, .int a1, .int a2, .ref o] (wI g A o od fd [IAE, UOE] R) 1 6 := by
  refine CtH.of (by decide) (Nat.le_of_ble_eq_true rfl) ?_
  intro K C Z htab hN hBA el eD ekn
  subst el
  subst eD
  have hlt : ∀ i, i < 5 → i < kn K := fun i h => by rw [ekn]; exact h
  have hE := Z.1.2.2.2.2.2
  show V K 0 0 (oW g A o od f fd x) [(0, .ref A.1), (1, .int a1), (2, .int a2), (3, .ref o)] [] 0
  refine V_aload_n C 3 1 dL_turnPages_0 rfl rfl ?_
  refine V_iconst C (0 : Int32) 2 dL_turnPages_1 rfl rfl ?_
  refine V_aload_n C 0 3 dL_turnPages_2 rfl rfl ?_
  refine V_iload_n C 1 4 dL_turnPages_3 rfl rfl ?_
  refine V_iload_n C 2 5 dL_turnPages_4 rfl rfl ?_
  rcases R with ⟨r, x1⟩ | ⟨E, x1⟩
  · refine V_callXr C hBA hE ml_L_104 (pre := [(o, aL g 1 f), (od, aD g 1 fd)]) (post := []) (wc := xW g A x) (w1 := xW g A x1) (rv := some (.int r)) (as := [.int a1, .int a2]) (rest := [.int (0 : Int32), .ref o]) (c_X3_turnPages (R := .inl (r, x1)) hst h) 2 8 (oW g A o od f fd x1) dL_turnPages_5 rfl ⟨Nat.le_of_ble_eq_true rfl, Nat.le_of_ble_eq_true rfl⟩ rfl (by rw [List.append_nil]) (by rw [List.append_nil]) (xW_fst _ _ _ _) rfl rfl rfl (Nat.le_of_ble_eq_true rfl) ⟨Nat.zero_le _, Nat.zero_le _⟩ ?_
    refine V_i2l C 9 dL_turnPages_8 rfl ?_
    refine V_last C hBA (f := f) (n := 1) 0 10 _ dL_turnPages_9 rfl rfl (by decide) rfl ?_
    refine V_goto C 21 dL_turnPages_10 rfl ?_
    refine V_iconst C (0 : Int32) 22 dL_turnPages_21 rfl rfl ?_
    exact V_nretI C Z (ty := .int) rfl rfl ⟨_, rfl, rfl, upL_0⟩ dL_turnPages_22 (Nat.zero_le _) (Nat.zero_le _)
  · obtain ⟨j, hj⟩ := hc _ rfl
    rcases j with _ | _ | j
    · cases hj
      refine V_callXt C hBA hE ml_L_104 (pre := [(o, aL g 1 f), (od, aD g 1 fd)]) (post := []) (wc := xW g A x) (w1 := xW g A x1) (E := IAE) (as := [.int a1, .int a2]) (rest := [.int (0 : Int32), .ref o]) (c_X3_turnPages (R := .inr (IAE, x1)) hst h) 2 (oW g A o od f fd x1) dL_turnPages_5 ⟨Nat.le_of_ble_eq_true rfl, Nat.le_of_ble_eq_true rfl⟩ rfl (by rw [List.append_nil]) (by rw [List.append_nil]) (xW_fst _ _ _ _) rfl rfl (Nat.le_of_ble_eq_true rfl) ⟨Nat.le_refl _, Nat.le_refl _⟩ ?_
      refine VX_catch C htab hN Z.1.2.2.1 (nm := IAE) [] (0, 10, 13, 15) [(0, 10, 17, 17)] rfl (fun z hz => absurd hz List.not_mem_nil) ⟨by decide, by decide⟩ (by decide) q803 cs_IAE (fun q => ?_)
      refine V_astore C 15 ((4, .ref q) :: [(0, .ref A.1), (1, .int a1), (2, .int a2), (3, .ref o)]) dL_turnPages_13 rfl (hlt 4 (by decide)) rfl ?_
      refine V_iconst C (1 : Int32) 16 dL_turnPages_15 rfl rfl ?_
      exact V_nretI C Z (ty := .int) rfl rfl ⟨f, 0, rfl, rfl, rfl⟩ dL_turnPages_16 (Nat.le_refl _) (Nat.le_refl _)
    · cases hj
      refine V_callXt C hBA hE ml_L_104 (pre := [(o, aL g 1 f), (od, aD g 1 fd)]) (post := []) (wc := xW g A x) (w1 := xW g A x1) (E := UOE) (as := [.int a1, .int a2]) (rest := [.int (0 : Int32), .ref o]) (c_X3_turnPages (R := .inr (UOE, x1)) hst h) 2 (oW g A o od f fd x1) dL_turnPages_5 ⟨Nat.le_of_ble_eq_true rfl, Nat.le_of_ble_eq_true rfl⟩ rfl (by rw [List.append_nil]) (by rw [List.append_nil]) (xW_fst _ _ _ _) rfl rfl (Nat.le_of_ble_eq_true rfl) ⟨Nat.le_refl _, Nat.le_refl _⟩ ?_
      refine VX_catch C htab hN Z.1.2.2.1 (nm := UOE) [(0, 10, 13, 15)] (0, 10, 17, 17) [] rfl (List.forall_mem_cons.mpr ⟨⟨by decide, _, q803, List.mem_of_getElem? (i := 2) rfl⟩, fun z hz => absurd hz List.not_mem_nil⟩) ⟨by decide, by decide⟩ (by decide) q804 cs_UOE (fun q => ?_)
      refine V_astore C 19 ((4, .ref q) :: [(0, .ref A.1), (1, .int a1), (2, .int a2), (3, .ref o)]) dL_turnPages_17 rfl (hlt 4 (by decide)) rfl ?_
      refine V_iconst C (2 : Int32) 20 dL_turnPages_19 rfl rfl ?_
      exact V_nretI C Z (ty := .int) rfl rfl ⟨f, 1, rfl, rfl, rfl⟩ dL_turnPages_20 (Nat.le_refl _) (Nat.le_refl _)
    · exact absurd hj (by simp)
theorem w_pagesToNextMark {l : Launch} {D : va_G} {g : G0} {A : XA} {x : XV} {o od : Nat} {f : Nat → Int64} {fd : Nat → UInt64} {R : (Int32 × XV) ⊕ (String × XV)} (hst : l.stackTraces = false) (h : f_X3_pagesToNextMark x  = some R) (hc : codesOk [NSE] R) : CtH l D g yL_pagesToNextMark cL_pagesToNextMark 3 (some .int) [(0, 8, 11, 48)] (rmN 10 300 1 6) (oW g A o od f fd x) [.ref A.1, .ref o] (wI g A o od fd [NSE] R) 1 6 := by
  refine CtH.of (by decide) (Nat.le_of_ble_eq_true rfl) ?_
  intro K C Z htab hN hBA el eD ekn
  subst el
  subst eD
  have hlt : ∀ i, i < 3 → i < kn K := fun i h => by rw [ekn]; exact h
  have hE := Z.1.2.2.2.2.2
  show V K 0 0 (oW g A o od f fd x) [(0, .ref A.1), (1, .ref o)] [] 0
  refine V_aload_n C 1 1 dL_pagesToNextMark_0 rfl rfl ?_
  refine V_iconst C (0 : Int32) 2 dL_pagesToNextMark_1 rfl rfl ?_
  refine V_aload_n C 0 3 dL_pagesToNextMark_2 rfl rfl ?_
  rcases R with ⟨r, x1⟩ | ⟨E, x1⟩
  · refine V_callXr C hBA hE ml_L_108 (pre := [(o, aL g 1 f), (od, aD g 1 fd)]) (post := []) (wc := xW g A x) (w1 := xW g A x1) (rv := some (.int r)) (as := []) (rest := [.int (0 : Int32), .ref o]) (c_X3_pagesToNextMark (R := .inl (r, x1)) hst h) 2 6 (oW g A o od f fd x1) dL_pagesToNextMark_3 rfl ⟨Nat.le_of_ble_eq_true rfl, Nat.le_of_ble_eq_true rfl⟩ rfl (by rw [List.append_nil]) (by rw [List.append_nil]) (xW_fst _ _ _ _) rfl rfl rfl (Nat.le_of_ble_eq_true rfl) ⟨Nat.zero_le _, Nat.zero_le _⟩ ?_
    refine V_i2l C 7 dL_pagesToNextMark_6 rfl ?_
    refine V_last C hBA (f := f) (n := 1) 0 8 _ dL_pagesToNextMark_7 rfl rfl (by decide) rfl ?_
    refine V_goto C 14 dL_pagesToNextMark_8 rfl ?_
    refine V_iconst C (0 : Int32) 15 dL_pagesToNextMark_14 rfl rfl ?_
    exact V_nretI C Z (ty := .int) rfl rfl ⟨_, rfl, rfl, upL_0⟩ dL_pagesToNextMark_15 (Nat.zero_le _) (Nat.zero_le _)
  · obtain ⟨j, hj⟩ := hc _ rfl
    rcases j with _ | j
    · cases hj
      refine V_callXt C hBA hE ml_L_108 (pre := [(o, aL g 1 f), (od, aD g 1 fd)]) (post := []) (wc := xW g A x) (w1 := xW g A x1) (E := NSE) (as := []) (rest := [.int (0 : Int32), .ref o]) (c_X3_pagesToNextMark (R := .inr (NSE, x1)) hst h) 2 (oW g A o od f fd x1) dL_pagesToNextMark_3 ⟨Nat.le_of_ble_eq_true rfl, Nat.le_of_ble_eq_true rfl⟩ rfl (by rw [List.append_nil]) (by rw [List.append_nil]) (xW_fst _ _ _ _) rfl rfl (Nat.le_of_ble_eq_true rfl) ⟨Nat.le_refl _, Nat.le_refl _⟩ ?_
      refine VX_catch C htab hN Z.1.2.2.1 (nm := NSE) [] (0, 8, 11, 48) [] rfl (fun z hz => absurd hz List.not_mem_nil) ⟨by decide, by decide⟩ (by decide) q1045 cs_NSE (fun q => ?_)
      refine V_astore_n C 12 ((2, .ref q) :: [(0, .ref A.1), (1, .ref o)]) dL_pagesToNextMark_11 rfl (hlt 2 (by decide)) rfl ?_
      refine V_iconst C (1 : Int32) 13 dL_pagesToNextMark_12 rfl rfl ?_
      exact V_nretI C Z (ty := .int) rfl rfl ⟨f, 0, rfl, rfl, rfl⟩ dL_pagesToNextMark_13 (Nat.le_refl _) (Nat.le_refl _)
    · exact absurd hj (by simp)
