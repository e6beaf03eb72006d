/-! ===== the law's wrappers ===== -/
set_option maxRecDepth 4000 in
theorem w_seatOf {l : Launch} {D : va_G} {g : G0} {A : XA} {x : XV} {a1 : Int32} (hst : l.stackTraces = false) {r : Int32} (h : f_X3_seatOf x a1 = some (.inl (r, x))) : CtH l D g yL_seatOf cL_seatOf 3 (some .int) [(0, 5, 6, 19), (0, 5, 11, 52)] (rmN 10 300 1 6) (xW g A x) [.ref A.1, .int a1] (fun rv w1 => rv = some (.int r) ∧ w1 = xW g A x) 1 6 := by
  refine CtH.of (by decide) (Nat.le_of_ble_eq_true rfl) ?_
  intro K C Z htab hN hBA el eD ekn
  subst el
  subst eD
  have hlt : ∀ i, i < 3 → i < kn K := fun i h => by rw [ekn]; exact h
  have hE := Z.1.2.2.2.2.2
  show V K 0 0 (xW g A x) [(0, .ref A.1), (1, .int a1)] [] 0
  refine V_aload_n C 0 1 dL_seatOf_0 rfl rfl ?_
  refine V_iload_n C 1 2 dL_seatOf_1 rfl rfl ?_
  refine V_callXr C hBA hE ml_L_49 (pre := []) (post := []) (wc := xW g A x) (w1 := xW g A x) (rv := some (.int r)) (as := [.int a1]) (rest := []) (c_X3_seatOf (R := .inl (r, x)) hst h) 0 5 (xW g A x) dL_seatOf_2 rfl ⟨Nat.le_of_ble_eq_true rfl, Nat.le_of_ble_eq_true rfl⟩ rfl (by rw [List.append_nil]; rfl) (by rw [List.append_nil]; rfl) (xW_fst _ _ _ _) rfl rfl rfl (Nat.le_of_ble_eq_true rfl) ⟨Nat.le_of_ble_eq_true rfl, Nat.le_of_ble_eq_true rfl⟩ ?_
  exact V_nretI C Z (ty := .int) rfl rfl ⟨rfl, rfl⟩ dL_seatOf_5 (Nat.zero_le _) (Nat.zero_le _)
set_option maxRecDepth 4000 in
theorem wX_seatOf {l : Launch} {D : va_G} {g : G0} {A : XA} {x : XV} {a1 : Int32} (hst : l.stackTraces = false) (h : f_X3_seatOf x a1 = some (.inr (NSE, x))) : CtH l D g yL_seatOf cL_seatOf 3 (some .int) [(0, 5, 6, 19), (0, 5, 11, 52)] (rmN 10 300 1 6) (xW g A x) [.ref A.1, .int a1] (fun rv w1 => rv = some (.int (-30000)) ∧ w1 = xW g A x) 1 6 := by
  refine CtH.of (by decide) (Nat.le_of_ble_eq_true rfl) ?_
  intro K C Z htab hN hBA el eD ekn
  subst el
  subst eD
  have hlt : ∀ i, i < 3 → i < kn K := fun i h => by rw [ekn]; exact h
  have hE := Z.1.2.2.2.2.2
  show V K 0 0 (xW g A x) [(0, .ref A.1), (1, .int a1)] [] 0
  refine V_aload_n C 0 1 dL_seatOf_0 rfl rfl ?_
  refine V_iload_n C 1 2 dL_seatOf_1 rfl rfl ?_
  refine V_callXt C hBA hE ml_L_49 (pre := []) (post := []) (wc := xW g A x) (w1 := xW g A x) (E := NSE) (as := [.int a1]) (rest := []) (c_X3_seatOf (R := .inr (NSE, x)) hst h) 0 (xW g A x) dL_seatOf_2 ⟨Nat.le_of_ble_eq_true rfl, Nat.le_of_ble_eq_true rfl⟩ rfl (by rw [List.append_nil]; rfl) (by rw [List.append_nil]; rfl) (xW_fst _ _ _ _) rfl rfl (Nat.le_of_ble_eq_true rfl) ⟨Nat.le_of_ble_eq_true rfl, Nat.le_of_ble_eq_true rfl⟩ ?_
  refine VX_catch C htab hN Z.1.2.2.1 (nm := NSE) [(0, 5, 6, 19)] (0, 5, 11, 52) [] rfl (List.forall_mem_cons.mpr ⟨⟨by decide, _, k943, List.mem_of_getElem? (i := 3) rfl⟩, fun z hz => absurd hz List.not_mem_nil⟩) ⟨by decide, by decide⟩ (by decide) k946 cs_NSE (fun q => ?_)
  refine V_astore_n C 12 [(2, .ref q), (0, .ref A.1), (1, .int a1)] dL_seatOf_11 rfl (hlt 2 (by decide)) rfl ?_
  refine V_sipush C (-30000 : Int32) 15 dL_seatOf_12 rfl rfl ?_
  exact V_nretI C Z (ty := .int) rfl rfl ⟨rfl, rfl⟩ dL_seatOf_15 (Nat.le_refl _) (Nat.le_refl _)
set_option maxRecDepth 4000 in
theorem w_ribbonIn {l : Launch} {D : va_G} {g : G0} {A : XA} {x : XV} {a1 : Int32} (hst : l.stackTraces = false) {r : Int32} (h : f_X3_ribbonIn x a1 = some (.inl (r, x))) : CtH l D g yL_ribbonIn cL_ribbonIn 3 (some .int) [(0, 5, 6, 19), (0, 5, 11, 52)] (rmN 10 300 1 6) (xW g A x) [.ref A.1, .int a1] (fun rv w1 => rv = some (.int r) ∧ w1 = xW g A x) 1 6 := by
  refine CtH.of (by decide) (Nat.le_of_ble_eq_true rfl) ?_
  intro K C Z htab hN hBA el eD ekn
  subst el
  subst eD
  have hlt : ∀ i, i < 3 → i < kn K := fun i h => by rw [ekn]; exact h
  have hE := Z.1.2.2.2.2.2
  show V K 0 0 (xW g A x) [(0, .ref A.1), (1, .int a1)] [] 0
  refine V_aload_n C 0 1 dL_ribbonIn_0 rfl rfl ?_
  refine V_iload_n C 1 2 dL_ribbonIn_1 rfl rfl ?_
  refine V_callXr C hBA hE ml_L_54 (pre := []) (post := []) (wc := xW g A x) (w1 := xW g A x) (rv := some (.int r)) (as := [.int a1]) (rest := []) (c_X3_ribbonIn (R := .inl (r, x)) hst h) 0 5 (xW g A x) dL_ribbonIn_2 rfl ⟨Nat.le_of_ble_eq_true rfl, Nat.le_of_ble_eq_true rfl⟩ rfl (by rw [List.append_nil]; rfl) (by rw [List.append_nil]; rfl) (xW_fst _ _ _ _) rfl rfl rfl (Nat.le_of_ble_eq_true rfl) ⟨Nat.le_of_ble_eq_true rfl, Nat.le_of_ble_eq_true rfl⟩ ?_
  exact V_nretI C Z (ty := .int) rfl rfl ⟨rfl, rfl⟩ dL_ribbonIn_5 (Nat.zero_le _) (Nat.zero_le _)
set_option maxRecDepth 4000 in
theorem wX_ribbonIn {l : Launch} {D : va_G} {g : G0} {A : XA} {x : XV} {a1 : Int32} (hst : l.stackTraces = false) (h : f_X3_ribbonIn x a1 = some (.inr (NSE, x))) : CtH l D g yL_ribbonIn cL_ribbonIn 3 (some .int) [(0, 5, 6, 19), (0, 5, 11, 52)] (rmN 10 300 1 6) (xW g A x) [.ref A.1, .int a1] (fun rv w1 => rv = some (.int (-30000)) ∧ w1 = xW g A x) 1 6 := by
  refine CtH.of (by decide) (Nat.le_of_ble_eq_true rfl) ?_
  intro K C Z htab hN hBA el eD ekn
  subst el
  subst eD
  have hlt : ∀ i, i < 3 → i < kn K := fun i h => by rw [ekn]; exact h
  have hE := Z.1.2.2.2.2.2
  show V K 0 0 (xW g A x) [(0, .ref A.1), (1, .int a1)] [] 0
  refine V_aload_n C 0 1 dL_ribbonIn_0 rfl rfl ?_
  refine V_iload_n C 1 2 dL_ribbonIn_1 rfl rfl ?_
  refine V_callXt C hBA hE ml_L_54 (pre := []) (post := []) (wc := xW g A x) (w1 := xW g A x) (E := NSE) (as := [.int a1]) (rest := []) (c_X3_ribbonIn (R := .inr (NSE, x)) hst h) 0 (xW g A x) dL_ribbonIn_2 ⟨Nat.le_of_ble_eq_true rfl, Nat.le_of_ble_eq_true rfl⟩ rfl (by rw [List.append_nil]; rfl) (by rw [List.append_nil]; rfl) (xW_fst _ _ _ _) rfl rfl (Nat.le_of_ble_eq_true rfl) ⟨Nat.le_of_ble_eq_true rfl, Nat.le_of_ble_eq_true rfl⟩ ?_
  refine VX_catch C htab hN Z.1.2.2.1 (nm := NSE) [(0, 5, 6, 19)] (0, 5, 11, 52) [] rfl (List.forall_mem_cons.mpr ⟨⟨by decide, _, k943, List.mem_of_getElem? (i := 3) rfl⟩, fun z hz => absurd hz List.not_mem_nil⟩) ⟨by decide, by decide⟩ (by decide) k946 cs_NSE (fun q => ?_)
  refine V_astore_n C 12 [(2, .ref q), (0, .ref A.1), (1, .int a1)] dL_ribbonIn_11 rfl (hlt 2 (by decide)) rfl ?_
  refine V_sipush C (-30000 : Int32) 15 dL_ribbonIn_12 rfl rfl ?_
  exact V_nretI C Z (ty := .int) rfl rfl ⟨rfl, rfl⟩ dL_ribbonIn_15 (Nat.le_refl _) (Nat.le_refl _)
set_option maxRecDepth 4000 in
theorem w_markOn {l : Launch} {D : va_G} {g : G0} {A : XA} {x : XV} {a1 : Int32} (hst : l.stackTraces = false) {r : Int32} (h : f_X3_markOn x a1 = some (.inl (r, x))) : CtH l D g yL_markOn cL_markOn 3 (some .int) [(0, 5, 6, 19), (0, 5, 11, 52)] (rmN 10 300 1 6) (xW g A x) [.ref A.1, .int a1] (fun rv w1 => rv = some (.int r) ∧ w1 = xW g A x) 1 6 := by
  refine CtH.of (by decide) (Nat.le_of_ble_eq_true rfl) ?_
  intro K C Z htab hN hBA el eD ekn
  subst el
  subst eD
  have hlt : ∀ i, i < 3 → i < kn K := fun i h => by rw [ekn]; exact h
  have hE := Z.1.2.2.2.2.2
  show V K 0 0 (xW g A x) [(0, .ref A.1), (1, .int a1)] [] 0
  refine V_aload_n C 0 1 dL_markOn_0 rfl rfl ?_
  refine V_iload_n C 1 2 dL_markOn_1 rfl rfl ?_
  refine V_callXr C hBA hE ml_L_57 (pre := []) (post := []) (wc := xW g A x) (w1 := xW g A x) (rv := some (.int r)) (as := [.int a1]) (rest := []) (c_X3_markOn (R := .inl (r, x)) hst h) 0 5 (xW g A x) dL_markOn_2 rfl ⟨Nat.le_of_ble_eq_true rfl, Nat.le_of_ble_eq_true rfl⟩ rfl (by rw [List.append_nil]; rfl) (by rw [List.append_nil]; rfl) (xW_fst _ _ _ _) rfl rfl rfl (Nat.le_of_ble_eq_true rfl) ⟨Nat.le_of_ble_eq_true rfl, Nat.le_of_ble_eq_true rfl⟩ ?_
  exact V_nretI C Z (ty := .int) rfl rfl ⟨rfl, rfl⟩ dL_markOn_5 (Nat.zero_le _) (Nat.zero_le _)
set_option maxRecDepth 4000 in
theorem wX_markOn {l : Launch} {D : va_G} {g : G0} {A : XA} {x : XV} {a1 : Int32} (hst : l.stackTraces = false) (h : f_X3_markOn x a1 = some (.inr (NSE, x))) : CtH l D g yL_markOn cL_markOn 3 (some .int) [(0, 5, 6, 19), (0, 5, 11, 52)] (rmN 10 300 1 6) (xW g A x) [.ref A.1, .int a1] (fun rv w1 => rv = some (.int (-30000)) ∧ w1 = xW g A x) 1 6 := by
  refine CtH.of (by decide) (Nat.le_of_ble_eq_true rfl) ?_
  intro K C Z htab hN hBA el eD ekn
  subst el
  subst eD
  have hlt : ∀ i, i < 3 → i < kn K := fun i h => by rw [ekn]; exact h
  have hE := Z.1.2.2.2.2.2
  show V K 0 0 (xW g A x) [(0, .ref A.1), (1, .int a1)] [] 0
  refine V_aload_n C 0 1 dL_markOn_0 rfl rfl ?_
  refine V_iload_n C 1 2 dL_markOn_1 rfl rfl ?_
  refine V_callXt C hBA hE ml_L_57 (pre := []) (post := []) (wc := xW g A x) (w1 := xW g A x) (E := NSE) (as := [.int a1]) (rest := []) (c_X3_markOn (R := .inr (NSE, x)) hst h) 0 (xW g A x) dL_markOn_2 ⟨Nat.le_of_ble_eq_true rfl, Nat.le_of_ble_eq_true rfl⟩ rfl (by rw [List.append_nil]; rfl) (by rw [List.append_nil]; rfl) (xW_fst _ _ _ _) rfl rfl (Nat.le_of_ble_eq_true rfl) ⟨Nat.le_of_ble_eq_true rfl, Nat.le_of_ble_eq_true rfl⟩ ?_
  refine VX_catch C htab hN Z.1.2.2.1 (nm := NSE) [(0, 5, 6, 19)] (0, 5, 11, 52) [] rfl (List.forall_mem_cons.mpr ⟨⟨by decide, _, k943, List.mem_of_getElem? (i := 3) rfl⟩, fun z hz => absurd hz List.not_mem_nil⟩) ⟨by decide, by decide⟩ (by decide) k946 cs_NSE (fun q => ?_)
  refine V_astore_n C 12 [(2, .ref q), (0, .ref A.1), (1, .int a1)] dL_markOn_11 rfl (hlt 2 (by decide)) rfl ?_
  refine V_sipush C (-30000 : Int32) 15 dL_markOn_12 rfl rfl ?_
  exact V_nretI C Z (ty := .int) rfl rfl ⟨rfl, rfl⟩ dL_markOn_15 (Nat.le_refl _) (Nat.le_refl _)
set_option maxRecDepth 4000 in
theorem w_nextMark {l : Launch} {D : va_G} {g : G0} {A : XA} {x : XV} {a1 : Int32} (hst : l.stackTraces = false) {r : Int32} (h : f_X3_nextMark x a1 = some (.inl (r, x))) : CtH l D g yL_nextMark cL_nextMark 3 (some .int) [(0, 5, 6, 19), (0, 5, 11, 52)] (rmN 10 300 1 6) (xW g A x) [.ref A.1, .int a1] (fun rv w1 => rv = some (.int r) ∧ w1 = xW g A x) 1 6 := by
  refine CtH.of (by decide) (Nat.le_of_ble_eq_true rfl) ?_
  intro K C Z htab hN hBA el eD ekn
  subst el
  subst eD
  have hlt : ∀ i, i < 3 → i < kn K := fun i h => by rw [ekn]; exact h
  have hE := Z.1.2.2.2.2.2
  show V K 0 0 (xW g A x) [(0, .ref A.1), (1, .int a1)] [] 0
  refine V_aload_n C 0 1 dL_nextMark_0 rfl rfl ?_
  refine V_iload_n C 1 2 dL_nextMark_1 rfl rfl ?_
  refine V_callXr C hBA hE ml_L_60 (pre := []) (post := []) (wc := xW g A x) (w1 := xW g A x) (rv := some (.int r)) (as := [.int a1]) (rest := []) (c_X3_nextMark (R := .inl (r, x)) hst h) 0 5 (xW g A x) dL_nextMark_2 rfl ⟨Nat.le_of_ble_eq_true rfl, Nat.le_of_ble_eq_true rfl⟩ rfl (by rw [List.append_nil]; rfl) (by rw [List.append_nil]; rfl) (xW_fst _ _ _ _) rfl rfl rfl (Nat.le_of_ble_eq_true rfl) ⟨Nat.le_of_ble_eq_true rfl, Nat.le_of_ble_eq_true rfl⟩ ?_
  exact V_nretI C Z (ty := .int) rfl rfl ⟨rfl, rfl⟩ dL_nextMark_5 (Nat.zero_le _) (Nat.zero_le _)
set_option maxRecDepth 4000 in
theorem wX_nextMark {l : Launch} {D : va_G} {g : G0} {A : XA} {x : XV} {a1 : Int32} (hst : l.stackTraces = false) (h : f_X3_nextMark x a1 = some (.inr (NSE, x))) : CtH l D g yL_nextMark cL_nextMark 3 (some .int) [(0, 5, 6, 19), (0, 5, 11, 52)] (rmN 10 300 1 6) (xW g A x) [.ref A.1, .int a1] (fun rv w1 => rv = some (.int (-30000)) ∧ w1 = xW g A x) 1 6 := by
  refine CtH.of (by decide) (Nat.le_of_ble_eq_true rfl) ?_
  intro K C Z htab hN hBA el eD ekn
  subst el
  subst eD
  have hlt : ∀ i, i < 3 → i < kn K := fun i h => by rw [ekn]; exact h
  have hE := Z.1.2.2.2.2.2
  show V K 0 0 (xW g A x) [(0, .ref A.1), (1, .int a1)] [] 0
  refine V_aload_n C 0 1 dL_nextMark_0 rfl rfl ?_
  refine V_iload_n C 1 2 dL_nextMark_1 rfl rfl ?_
  refine V_callXt C hBA hE ml_L_60 (pre := []) (post := []) (wc := xW g A x) (w1 := xW g A x) (E := NSE) (as := [.int a1]) (rest := []) (c_X3_nextMark (R := .inr (NSE, x)) hst h) 0 (xW g A x) dL_nextMark_2 ⟨Nat.le_of_ble_eq_true rfl, Nat.le_of_ble_eq_true rfl⟩ rfl (by rw [List.append_nil]; rfl) (by rw [List.append_nil]; rfl) (xW_fst _ _ _ _) rfl rfl (Nat.le_of_ble_eq_true rfl) ⟨Nat.le_of_ble_eq_true rfl, Nat.le_of_ble_eq_true rfl⟩ ?_
  refine VX_catch C htab hN Z.1.2.2.1 (nm := NSE) [(0, 5, 6, 19)] (0, 5, 11, 52) [] rfl (List.forall_mem_cons.mpr ⟨⟨by decide, _, k943, List.mem_of_getElem? (i := 3) rfl⟩, fun z hz => absurd hz List.not_mem_nil⟩) ⟨by decide, by decide⟩ (by decide) k946 cs_NSE (fun q => ?_)
  refine V_astore_n C 12 [(2, .ref q), (0, .ref A.1), (1, .int a1)] dL_nextMark_11 rfl (hlt 2 (by decide)) rfl ?_
  refine V_sipush C (-30000 : Int32) 15 dL_nextMark_12 rfl rfl ?_
  exact V_nretI C Z (ty := .int) rfl rfl ⟨rfl, rfl⟩ dL_nextMark_15 (Nat.le_refl _) (Nat.le_refl _)
set_option maxRecDepth 4000 in
theorem w_previousMark {l : Launch} {D : va_G} {g : G0} {A : XA} {x : XV} {a1 : Int32} (hst : l.stackTraces = false) {r : Int32} (h : f_X3_previousMark x a1 = some (.inl (r, x))) : CtH l D g yL_previousMark cL_previousMark 3 (some .int) [(0, 5, 6, 19), (0, 5, 11, 52)] (rmN 10 300 1 6) (xW g A x) [.ref A.1, .int a1] (fun rv w1 => rv = some (.int r) ∧ w1 = xW g A x) 1 6 := by
  refine CtH.of (by decide) (Nat.le_of_ble_eq_true rfl) ?_
  intro K C Z htab hN hBA el eD ekn
  subst el
  subst eD
  have hlt : ∀ i, i < 3 → i < kn K := fun i h => by rw [ekn]; exact h
  have hE := Z.1.2.2.2.2.2
  show V K 0 0 (xW g A x) [(0, .ref A.1), (1, .int a1)] [] 0
  refine V_aload_n C 0 1 dL_previousMark_0 rfl rfl ?_
  refine V_iload_n C 1 2 dL_previousMark_1 rfl rfl ?_
  refine V_callXr C hBA hE ml_L_63 (pre := []) (post := []) (wc := xW g A x) (w1 := xW g A x) (rv := some (.int r)) (as := [.int a1]) (rest := []) (c_X3_previousMark (R := .inl (r, x)) hst h) 0 5 (xW g A x) dL_previousMark_2 rfl ⟨Nat.le_of_ble_eq_true rfl, Nat.le_of_ble_eq_true rfl⟩ rfl (by rw [List.append_nil]; rfl) (by rw [List.append_nil]; rfl) (xW_fst _ _ _ _) rfl rfl rfl (Nat.le_of_ble_eq_true rfl) ⟨Nat.le_of_ble_eq_true rfl, Nat.le_of_ble_eq_true rfl⟩ ?_
  exact V_nretI C Z (ty := .int) rfl rfl ⟨rfl, rfl⟩ dL_previousMark_5 (Nat.zero_le _) (Nat.zero_le _)
set_option maxRecDepth 4000 in
theorem wX_previousMark {l : Launch} {D : va_G} {g : G0} {A : XA} {x : XV} {a1 : Int32} (hst : l.stackTraces = false) (h : f_X3_previousMark x a1 = some (.inr (NSE, x))) : CtH l D g yL_previousMark cL_previousMark 3 (some .int) [(0, 5, 6, 19), (0, 5, 11, 52)] (rmN 10 300 1 6) (xW g A x) [.ref A.1, .int a1] (fun rv w1 => rv = some (.int (-30000)) ∧ w1 = xW g A x) 1 6 := by
  refine CtH.of (by decide) (Nat.le_of_ble_eq_true rfl) ?_
  intro K C Z htab hN hBA el eD ekn
  subst el
  subst eD
  have hlt : ∀ i, i < 3 → i < kn K := fun i h => by rw [ekn]; exact h
  have hE := Z.1.2.2.2.2.2
  show V K 0 0 (xW g A x) [(0, .ref A.1), (1, .int a1)] [] 0
  refine V_aload_n C 0 1 dL_previousMark_0 rfl rfl ?_
  refine V_iload_n C 1 2 dL_previousMark_1 rfl rfl ?_
  refine V_callXt C hBA hE ml_L_63 (pre := []) (post := []) (wc := xW g A x) (w1 := xW g A x) (E := NSE) (as := [.int a1]) (rest := []) (c_X3_previousMark (R := .inr (NSE, x)) hst h) 0 (xW g A x) dL_previousMark_2 ⟨Nat.le_of_ble_eq_true rfl, Nat.le_of_ble_eq_true rfl⟩ rfl (by rw [List.append_nil]; rfl) (by rw [List.append_nil]; rfl) (xW_fst _ _ _ _) rfl rfl (Nat.le_of_ble_eq_true rfl) ⟨Nat.le_of_ble_eq_true rfl, Nat.le_of_ble_eq_true rfl⟩ ?_
  refine VX_catch C htab hN Z.1.2.2.1 (nm := NSE) [(0, 5, 6, 19)] (0, 5, 11, 52) [] rfl (List.forall_mem_cons.mpr ⟨⟨by decide, _, k943, List.mem_of_getElem? (i := 3) rfl⟩, fun z hz => absurd hz List.not_mem_nil⟩) ⟨by decide, by decide⟩ (by decide) k946 cs_NSE (fun q => ?_)
  refine V_astore_n C 12 [(2, .ref q), (0, .ref A.1), (1, .int a1)] dL_previousMark_11 rfl (hlt 2 (by decide)) rfl ?_
  refine V_sipush C (-30000 : Int32) 15 dL_previousMark_12 rfl rfl ?_
  exact V_nretI C Z (ty := .int) rfl rfl ⟨rfl, rfl⟩ dL_previousMark_15 (Nat.le_refl _) (Nat.le_refl _)
set_option maxRecDepth 4000 in
theorem w_nearestMark {l : Launch} {D : va_G} {g : G0} {A : XA} {x : XV} {a1 : Int32} (hst : l.stackTraces = false) {r : Int32} (h : f_X3_nearestMark x a1 = some (.inl (r, x))) : CtH l D g yL_nearestMark cL_nearestMark 3 (some .int) [(0, 5, 6, 19), (0, 5, 11, 52)] (rmN 10 300 1 6) (xW g A x) [.ref A.1, .int a1] (fun rv w1 => rv = some (.int r) ∧ w1 = xW g A x) 1 6 := by
  refine CtH.of (by decide) (Nat.le_of_ble_eq_true rfl) ?_
  intro K C Z htab hN hBA el eD ekn
  subst el
  subst eD
  have hlt : ∀ i, i < 3 → i < kn K := fun i h => by rw [ekn]; exact h
  have hE := Z.1.2.2.2.2.2
  show V K 0 0 (xW g A x) [(0, .ref A.1), (1, .int a1)] [] 0
  refine V_aload_n C 0 1 dL_nearestMark_0 rfl rfl ?_
  refine V_iload_n C 1 2 dL_nearestMark_1 rfl rfl ?_
  refine V_callXr C hBA hE ml_L_66 (pre := []) (post := []) (wc := xW g A x) (w1 := xW g A x) (rv := some (.int r)) (as := [.int a1]) (rest := []) (c_X3_nearestMark (R := .inl (r, x)) hst h) 0 5 (xW g A x) dL_nearestMark_2 rfl ⟨Nat.le_of_ble_eq_true rfl, Nat.le_of_ble_eq_true rfl⟩ rfl (by rw [List.append_nil]; rfl) (by rw [List.append_nil]; rfl) (xW_fst _ _ _ _) rfl rfl rfl (Nat.le_of_ble_eq_true rfl) ⟨Nat.le_of_ble_eq_true rfl, Nat.le_of_ble_eq_true rfl⟩ ?_
  exact V_nretI C Z (ty := .int) rfl rfl ⟨rfl, rfl⟩ dL_nearestMark_5 (Nat.zero_le _) (Nat.zero_le _)
set_option maxRecDepth 4000 in
theorem wX_nearestMark {l : Launch} {D : va_G} {g : G0} {A : XA} {x : XV} {a1 : Int32} (hst : l.stackTraces = false) (h : f_X3_nearestMark x a1 = some (.inr (NSE, x))) : CtH l D g yL_nearestMark cL_nearestMark 3 (some .int) [(0, 5, 6, 19), (0, 5, 11, 52)] (rmN 10 300 1 6) (xW g A x) [.ref A.1, .int a1] (fun rv w1 => rv = some (.int (-30000)) ∧ w1 = xW g A x) 1 6 := by
  refine CtH.of (by decide) (Nat.le_of_ble_eq_true rfl) ?_
  intro K C Z htab hN hBA el eD ekn
  subst el
  subst eD
  have hlt : ∀ i, i < 3 → i < kn K := fun i h => by rw [ekn]; exact h
  have hE := Z.1.2.2.2.2.2
  show V K 0 0 (xW g A x) [(0, .ref A.1), (1, .int a1)] [] 0
  refine V_aload_n C 0 1 dL_nearestMark_0 rfl rfl ?_
  refine V_iload_n C 1 2 dL_nearestMark_1 rfl rfl ?_
  refine V_callXt C hBA hE ml_L_66 (pre := []) (post := []) (wc := xW g A x) (w1 := xW g A x) (E := NSE) (as := [.int a1]) (rest := []) (c_X3_nearestMark (R := .inr (NSE, x)) hst h) 0 (xW g A x) dL_nearestMark_2 ⟨Nat.le_of_ble_eq_true rfl, Nat.le_of_ble_eq_true rfl⟩ rfl (by rw [List.append_nil]; rfl) (by rw [List.append_nil]; rfl) (xW_fst _ _ _ _) rfl rfl (Nat.le_of_ble_eq_true rfl) ⟨Nat.le_of_ble_eq_true rfl, Nat.le_of_ble_eq_true rfl⟩ ?_
  refine VX_catch C htab hN Z.1.2.2.1 (nm := NSE) [(0, 5, 6, 19)] (0, 5, 11, 52) [] rfl (List.forall_mem_cons.mpr ⟨⟨by decide, _, k943, List.mem_of_getElem? (i := 3) rfl⟩, fun z hz => absurd hz List.not_mem_nil⟩) ⟨by decide, by decide⟩ (by decide) k946 cs_NSE (fun q => ?_)
  refine V_astore_n C 12 [(2, .ref q), (0, .ref A.1), (1, .int a1)] dL_nearestMark_11 rfl (hlt 2 (by decide)) rfl ?_
  refine V_sipush C (-30000 : Int32) 15 dL_nearestMark_12 rfl rfl ?_
  exact V_nretI C Z (ty := .int) rfl rfl ⟨rfl, rfl⟩ dL_nearestMark_15 (Nat.le_refl _) (Nat.le_refl _)
set_option maxRecDepth 4000 in
theorem w_pagesToNextMark {l : Launch} {D : va_G} {g : G0} {A : XA} {x : XV} (hst : l.stackTraces = false) {r : Int32} (h : f_X3_pagesToNextMark x  = some (.inl (r, x))) : CtH l D g yL_pagesToNextMark cL_pagesToNextMark 2 (some .int) [(0, 4, 5, 52)] (rmN 10 300 1 6) (xW g A x) [.ref A.1] (fun rv w1 => rv = some (.int r) ∧ w1 = xW g A x) 1 6 := by
  refine CtH.of (by decide) (Nat.le_of_ble_eq_true rfl) ?_
  intro K C Z htab hN hBA el eD ekn
  subst el
  subst eD
  have hlt : ∀ i, i < 2 → i < kn K := fun i h => by rw [ekn]; exact h
  have hE := Z.1.2.2.2.2.2
  show V K 0 0 (xW g A x) [(0, .ref A.1)] [] 0
  refine V_aload_n C 0 1 dL_pagesToNextMark_0 rfl rfl ?_
  refine V_callXr C hBA hE ml_L_69 (pre := []) (post := []) (wc := xW g A x) (w1 := xW g A x) (rv := some (.int r)) (as := []) (rest := []) (c_X3_pagesToNextMark (R := .inl (r, x)) hst h) 0 4 (xW g A x) dL_pagesToNextMark_1 rfl ⟨Nat.le_of_ble_eq_true rfl, Nat.le_of_ble_eq_true rfl⟩ rfl (by rw [List.append_nil]; rfl) (by rw [List.append_nil]; rfl) (xW_fst _ _ _ _) rfl rfl rfl (Nat.le_of_ble_eq_true rfl) ⟨Nat.le_of_ble_eq_true rfl, Nat.le_of_ble_eq_true rfl⟩ ?_
  exact V_nretI C Z (ty := .int) rfl rfl ⟨rfl, rfl⟩ dL_pagesToNextMark_4 (Nat.zero_le _) (Nat.zero_le _)
set_option maxRecDepth 4000 in
theorem wX_pagesToNextMark {l : Launch} {D : va_G} {g : G0} {A : XA} {x : XV} (hst : l.stackTraces = false) (h : f_X3_pagesToNextMark x  = some (.inr (NSE, x))) : CtH l D g yL_pagesToNextMark cL_pagesToNextMark 2 (some .int) [(0, 4, 5, 52)] (rmN 10 300 1 6) (xW g A x) [.ref A.1] (fun rv w1 => rv = some (.int (-30000)) ∧ w1 = xW g A x) 1 6 := by
  refine CtH.of (by decide) (Nat.le_of_ble_eq_true rfl) ?_
  intro K C Z htab hN hBA el eD ekn
  subst el
  subst eD
  have hlt : ∀ i, i < 2 → i < kn K := fun i h => by rw [ekn]; exact h
  have hE := Z.1.2.2.2.2.2
  show V K 0 0 (xW g A x) [(0, .ref A.1)] [] 0
  refine V_aload_n C 0 1 dL_pagesToNextMark_0 rfl rfl ?_
  refine V_callXt C hBA hE ml_L_69 (pre := []) (post := []) (wc := xW g A x) (w1 := xW g A x) (E := NSE) (as := []) (rest := []) (c_X3_pagesToNextMark (R := .inr (NSE, x)) hst h) 0 (xW g A x) dL_pagesToNextMark_1 ⟨Nat.le_of_ble_eq_true rfl, Nat.le_of_ble_eq_true rfl⟩ rfl (by rw [List.append_nil]; rfl) (by rw [List.append_nil]; rfl) (xW_fst _ _ _ _) rfl rfl (Nat.le_of_ble_eq_true rfl) ⟨Nat.le_of_ble_eq_true rfl, Nat.le_of_ble_eq_true rfl⟩ ?_
  refine VX_catch C htab hN Z.1.2.2.1 (nm := NSE) [] (0, 4, 5, 52) [] rfl (fun z hz => absurd hz List.not_mem_nil) ⟨by decide, by decide⟩ (by decide) k946 cs_NSE (fun q => ?_)
  refine V_astore_n C 6 [(1, .ref q), (0, .ref A.1)] dL_pagesToNextMark_5 rfl (hlt 1 (by decide)) rfl ?_
  refine V_sipush C (-30000 : Int32) 9 dL_pagesToNextMark_6 rfl rfl ?_
  exact V_nretI C Z (ty := .int) rfl rfl ⟨rfl, rfl⟩ dL_pagesToNextMark_9 (Nat.le_refl _) (Nat.le_refl _)
set_option maxRecDepth 4000 in
theorem w_markByPage {l : Launch} {D : va_G} {g : G0} {A : XA} {x : XV} {a1 : Int32} (hst : l.stackTraces = false) {r : Int32} (h : f_X3_markByPage x a1 = some (.inl (r, x))) : CtH l D g yL_markByPage cL_markByPage 3 (some .int) [(0, 5, 6, 52)] (rmN 10 300 1 6) (xW g A x) [.ref A.1, .int a1] (fun rv w1 => rv = some (.int r) ∧ w1 = xW g A x) 1 6 := by
  refine CtH.of (by decide) (Nat.le_of_ble_eq_true rfl) ?_
  intro K C Z htab hN hBA el eD ekn
  subst el
  subst eD
  have hlt : ∀ i, i < 3 → i < kn K := fun i h => by rw [ekn]; exact h
  have hE := Z.1.2.2.2.2.2
  show V K 0 0 (xW g A x) [(0, .ref A.1), (1, .int a1)] [] 0
  refine V_aload_n C 0 1 dL_markByPage_0 rfl rfl ?_
  refine V_iload_n C 1 2 dL_markByPage_1 rfl rfl ?_
  refine V_callXr C hBA hE ml_L_72 (pre := []) (post := []) (wc := xW g A x) (w1 := xW g A x) (rv := some (.int r)) (as := [.int a1]) (rest := []) (c_X3_markByPage (R := .inl (r, x)) hst h) 0 5 (xW g A x) dL_markByPage_2 rfl ⟨Nat.le_of_ble_eq_true rfl, Nat.le_of_ble_eq_true rfl⟩ rfl (by rw [List.append_nil]; rfl) (by rw [List.append_nil]; rfl) (xW_fst _ _ _ _) rfl rfl rfl (Nat.le_of_ble_eq_true rfl) ⟨Nat.le_of_ble_eq_true rfl, Nat.le_of_ble_eq_true rfl⟩ ?_
  exact V_nretI C Z (ty := .int) rfl rfl ⟨rfl, rfl⟩ dL_markByPage_5 (Nat.zero_le _) (Nat.zero_le _)
set_option maxRecDepth 4000 in
theorem wX_markByPage {l : Launch} {D : va_G} {g : G0} {A : XA} {x : XV} {a1 : Int32} (hst : l.stackTraces = false) (h : f_X3_markByPage x a1 = some (.inr (NSE, x))) : CtH l D g yL_markByPage cL_markByPage 3 (some .int) [(0, 5, 6, 52)] (rmN 10 300 1 6) (xW g A x) [.ref A.1, .int a1] (fun rv w1 => rv = some (.int (-30000)) ∧ w1 = xW g A x) 1 6 := by
  refine CtH.of (by decide) (Nat.le_of_ble_eq_true rfl) ?_
  intro K C Z htab hN hBA el eD ekn
  subst el
  subst eD
  have hlt : ∀ i, i < 3 → i < kn K := fun i h => by rw [ekn]; exact h
  have hE := Z.1.2.2.2.2.2
  show V K 0 0 (xW g A x) [(0, .ref A.1), (1, .int a1)] [] 0
  refine V_aload_n C 0 1 dL_markByPage_0 rfl rfl ?_
  refine V_iload_n C 1 2 dL_markByPage_1 rfl rfl ?_
  refine V_callXt C hBA hE ml_L_72 (pre := []) (post := []) (wc := xW g A x) (w1 := xW g A x) (E := NSE) (as := [.int a1]) (rest := []) (c_X3_markByPage (R := .inr (NSE, x)) hst h) 0 (xW g A x) dL_markByPage_2 ⟨Nat.le_of_ble_eq_true rfl, Nat.le_of_ble_eq_true rfl⟩ rfl (by rw [List.append_nil]; rfl) (by rw [List.append_nil]; rfl) (xW_fst _ _ _ _) rfl rfl (Nat.le_of_ble_eq_true rfl) ⟨Nat.le_of_ble_eq_true rfl, Nat.le_of_ble_eq_true rfl⟩ ?_
  refine VX_catch C htab hN Z.1.2.2.1 (nm := NSE) [] (0, 5, 6, 52) [] rfl (fun z hz => absurd hz List.not_mem_nil) ⟨by decide, by decide⟩ (by decide) k946 cs_NSE (fun q => ?_)
  refine V_astore_n C 7 [(2, .ref q), (0, .ref A.1), (1, .int a1)] dL_markByPage_6 rfl (hlt 2 (by decide)) rfl ?_
  refine V_sipush C (-30000 : Int32) 10 dL_markByPage_7 rfl rfl ?_
  exact V_nretI C Z (ty := .int) rfl rfl ⟨rfl, rfl⟩ dL_markByPage_10 (Nat.le_refl _) (Nat.le_refl _)
set_option maxRecDepth 4000 in
theorem w_markByWeight {l : Launch} {D : va_G} {g : G0} {A : XA} {x : XV} {a1 : Int32} (hst : l.stackTraces = false) {r : Int32} (h : f_X3_markByWeight x a1 = some (.inl (r, x))) : CtH l D g yL_markByWeight cL_markByWeight 3 (some .int) [(0, 5, 6, 52)] (rmN 10 300 1 6) (xW g A x) [.ref A.1, .int a1] (fun rv w1 => rv = some (.int r) ∧ w1 = xW g A x) 1 6 := by
  refine CtH.of (by decide) (Nat.le_of_ble_eq_true rfl) ?_
  intro K C Z htab hN hBA el eD ekn
  subst el
  subst eD
  have hlt : ∀ i, i < 3 → i < kn K := fun i h => by rw [ekn]; exact h
  have hE := Z.1.2.2.2.2.2
  show V K 0 0 (xW g A x) [(0, .ref A.1), (1, .int a1)] [] 0
  refine V_aload_n C 0 1 dL_markByWeight_0 rfl rfl ?_
  refine V_iload_n C 1 2 dL_markByWeight_1 rfl rfl ?_
  refine V_callXr C hBA hE ml_L_75 (pre := []) (post := []) (wc := xW g A x) (w1 := xW g A x) (rv := some (.int r)) (as := [.int a1]) (rest := []) (c_X3_markByWeight (R := .inl (r, x)) hst h) 0 5 (xW g A x) dL_markByWeight_2 rfl ⟨Nat.le_of_ble_eq_true rfl, Nat.le_of_ble_eq_true rfl⟩ rfl (by rw [List.append_nil]; rfl) (by rw [List.append_nil]; rfl) (xW_fst _ _ _ _) rfl rfl rfl (Nat.le_of_ble_eq_true rfl) ⟨Nat.le_of_ble_eq_true rfl, Nat.le_of_ble_eq_true rfl⟩ ?_
  exact V_nretI C Z (ty := .int) rfl rfl ⟨rfl, rfl⟩ dL_markByWeight_5 (Nat.zero_le _) (Nat.zero_le _)
set_option maxRecDepth 4000 in
theorem wX_markByWeight {l : Launch} {D : va_G} {g : G0} {A : XA} {x : XV} {a1 : Int32} (hst : l.stackTraces = false) (h : f_X3_markByWeight x a1 = some (.inr (NSE, x))) : CtH l D g yL_markByWeight cL_markByWeight 3 (some .int) [(0, 5, 6, 52)] (rmN 10 300 1 6) (xW g A x) [.ref A.1, .int a1] (fun rv w1 => rv = some (.int (-30000)) ∧ w1 = xW g A x) 1 6 := by
  refine CtH.of (by decide) (Nat.le_of_ble_eq_true rfl) ?_
  intro K C Z htab hN hBA el eD ekn
  subst el
  subst eD
  have hlt : ∀ i, i < 3 → i < kn K := fun i h => by rw [ekn]; exact h
  have hE := Z.1.2.2.2.2.2
  show V K 0 0 (xW g A x) [(0, .ref A.1), (1, .int a1)] [] 0
  refine V_aload_n C 0 1 dL_markByWeight_0 rfl rfl ?_
  refine V_iload_n C 1 2 dL_markByWeight_1 rfl rfl ?_
  refine V_callXt C hBA hE ml_L_75 (pre := []) (post := []) (wc := xW g A x) (w1 := xW g A x) (E := NSE) (as := [.int a1]) (rest := []) (c_X3_markByWeight (R := .inr (NSE, x)) hst h) 0 (xW g A x) dL_markByWeight_2 ⟨Nat.le_of_ble_eq_true rfl, Nat.le_of_ble_eq_true rfl⟩ rfl (by rw [List.append_nil]; rfl) (by rw [List.append_nil]; rfl) (xW_fst _ _ _ _) rfl rfl (Nat.le_of_ble_eq_true rfl) ⟨Nat.le_of_ble_eq_true rfl, Nat.le_of_ble_eq_true rfl⟩ ?_
  refine VX_catch C htab hN Z.1.2.2.1 (nm := NSE) [] (0, 5, 6, 52) [] rfl (fun z hz => absurd hz List.not_mem_nil) ⟨by decide, by decide⟩ (by decide) k946 cs_NSE (fun q => ?_)
  refine V_astore_n C 7 [(2, .ref q), (0, .ref A.1), (1, .int a1)] dL_markByWeight_6 rfl (hlt 2 (by decide)) rfl ?_
  refine V_sipush C (-30000 : Int32) 10 dL_markByWeight_7 rfl rfl ?_
  exact V_nretI C Z (ty := .int) rfl rfl ⟨rfl, rfl⟩ dL_markByWeight_10 (Nat.le_refl _) (Nat.le_refl _)
set_option maxRecDepth 4000 in
theorem w_addRibbon {l : Launch} {D : va_G} {g : G0} {A : XA} {x : XV} {a1 a2 : Int32} (hst : l.stackTraces = false) {r : (Int32 × XV) ⊕ (String × XV)} (h : f_X3_addRibbon x a1 a2 = some r) (hc : codesOk [IOOBE, IAE, UOE] r) (hj : ∀ x1, r = .inr (UOE, x1) → ∃ q, f_X3_rejectionReason x1 = some (.inl (q, x1))) : CtH l D g yL_addRibbon cL_addRibbon 4 (some .int) [(0, 6, 7, 19), (0, 6, 12, 21), (0, 6, 17, 23)] (rmN 10 300 1 6) (xW g A x) [.ref A.1, .int a1, .int a2] (fun rv w1 => (∃ v, rv = some (.int v)) ∧ w1 = xW g A (sndR r)) 1 6 := by
  refine CtH.of (by decide) (Nat.le_of_ble_eq_true rfl) ?_
  intro K C Z htab hN hBA el eD ekn
  subst el
  subst eD
  have hlt : ∀ i, i < 4 → i < kn K := fun i h => by rw [ekn]; exact h
  have hE := Z.1.2.2.2.2.2
  show V K 0 0 (xW g A x) [(0, .ref A.1), (1, .int a1), (2, .int a2)] [] 0
  refine V_aload_n C 0 1 dL_addRibbon_0 rfl rfl ?_
  refine V_iload_n C 1 2 dL_addRibbon_1 rfl rfl ?_
  refine V_iload_n C 2 3 dL_addRibbon_2 rfl rfl ?_
  rcases r with ⟨r, x1⟩ | ⟨E, x1⟩
  · refine V_callXr C hBA hE ml_L_13 (pre := []) (post := []) (wc := xW g A x) (w1 := xW g A x1) (rv := some (.int r)) (as := [.int a1, .int a2]) (rest := []) (c_X3_addRibbon (R := .inl (r, x1)) hst h) 0 6 (xW g A x1) dL_addRibbon_3 rfl ⟨Nat.le_of_ble_eq_true rfl, Nat.le_of_ble_eq_true rfl⟩ rfl (by rw [List.append_nil]; rfl) (by rw [List.append_nil]; rfl) (xW_fst _ _ _ _) rfl rfl rfl (Nat.le_of_ble_eq_true rfl) ⟨Nat.le_of_ble_eq_true rfl, Nat.le_of_ble_eq_true rfl⟩ ?_
    exact V_nretI C Z (ty := .int) rfl rfl ⟨⟨_, rfl⟩, rfl⟩ dL_addRibbon_6 (Nat.zero_le _) (Nat.zero_le _)
  · obtain ⟨j, hj0⟩ := hc _ rfl
    rcases j with _ | _ | _ | j
    · cases hj0
      refine V_callXt C hBA hE ml_L_13 (pre := []) (post := []) (wc := xW g A x) (w1 := xW g A x1) (E := IOOBE) (as := [.int a1, .int a2]) (rest := []) (c_X3_addRibbon (R := .inr (IOOBE, x1)) hst h) 0 (xW g A x1) dL_addRibbon_3 ⟨Nat.le_of_ble_eq_true rfl, Nat.le_of_ble_eq_true rfl⟩ rfl (by rw [List.append_nil]; rfl) (by rw [List.append_nil]; rfl) (xW_fst _ _ _ _) rfl rfl (Nat.le_of_ble_eq_true rfl) ⟨Nat.le_of_ble_eq_true rfl, Nat.le_of_ble_eq_true rfl⟩ ?_
      refine VX_catch C htab hN Z.1.2.2.1 (nm := IOOBE) [] (0, 6, 7, 19) [(0, 6, 12, 21), (0, 6, 17, 23)] rfl (fun z hz => absurd hz List.not_mem_nil) ⟨by decide, by decide⟩ (by decide) k943 cs_IOOBE (fun q => ?_)
      refine V_astore_n C 8 [(3, .ref q), (0, .ref A.1), (1, .int a1), (2, .int a2)] dL_addRibbon_7 rfl (hlt 3 (by decide)) rfl ?_
      refine V_sipush C (-25000 : Int32) 11 dL_addRibbon_8 rfl rfl ?_
      exact V_nretI C Z (ty := .int) rfl rfl ⟨⟨_, rfl⟩, rfl⟩ dL_addRibbon_11 (Nat.le_refl _) (Nat.le_refl _)
    · cases hj0
      refine V_callXt C hBA hE ml_L_13 (pre := []) (post := []) (wc := xW g A x) (w1 := xW g A x1) (E := IAE) (as := [.int a1, .int a2]) (rest := []) (c_X3_addRibbon (R := .inr (IAE, x1)) hst h) 0 (xW g A x1) dL_addRibbon_3 ⟨Nat.le_of_ble_eq_true rfl, Nat.le_of_ble_eq_true rfl⟩ rfl (by rw [List.append_nil]; rfl) (by rw [List.append_nil]; rfl) (xW_fst _ _ _ _) rfl rfl (Nat.le_of_ble_eq_true rfl) ⟨Nat.le_of_ble_eq_true rfl, Nat.le_of_ble_eq_true rfl⟩ ?_
      refine VX_catch C htab hN Z.1.2.2.1 (nm := IAE) [(0, 6, 7, 19)] (0, 6, 12, 21) [(0, 6, 17, 23)] rfl (List.forall_mem_cons.mpr ⟨⟨by decide, _, k943, List.mem_of_getElem? (i := 0) rfl⟩, fun z hz => absurd hz List.not_mem_nil⟩) ⟨by decide, by decide⟩ (by decide) k1028 cs_IAE (fun q => ?_)
      refine V_astore_n C 13 [(3, .ref q), (0, .ref A.1), (1, .int a1), (2, .int a2)] dL_addRibbon_12 rfl (hlt 3 (by decide)) rfl ?_
      refine V_sipush C (-20000 : Int32) 16 dL_addRibbon_13 rfl rfl ?_
      exact V_nretI C Z (ty := .int) rfl rfl ⟨⟨_, rfl⟩, rfl⟩ dL_addRibbon_16 (Nat.le_refl _) (Nat.le_refl _)
    · cases hj0
      refine V_callXt C hBA hE ml_L_13 (pre := []) (post := []) (wc := xW g A x) (w1 := xW g A x1) (E := UOE) (as := [.int a1, .int a2]) (rest := []) (c_X3_addRibbon (R := .inr (UOE, x1)) hst h) 0 (xW g A x1) dL_addRibbon_3 ⟨Nat.le_of_ble_eq_true rfl, Nat.le_of_ble_eq_true rfl⟩ rfl (by rw [List.append_nil]; rfl) (by rw [List.append_nil]; rfl) (xW_fst _ _ _ _) rfl rfl (Nat.le_of_ble_eq_true rfl) ⟨Nat.le_of_ble_eq_true rfl, Nat.le_of_ble_eq_true rfl⟩ ?_
      refine VX_catch C htab hN Z.1.2.2.1 (nm := UOE) [(0, 6, 7, 19), (0, 6, 12, 21)] (0, 6, 17, 23) [] rfl (List.forall_mem_cons.mpr ⟨⟨by decide, _, k943, List.mem_of_getElem? (i := 1) rfl⟩, List.forall_mem_cons.mpr ⟨⟨by decide, _, k1028, List.mem_of_getElem? (i := 2) rfl⟩, fun z hz => absurd hz List.not_mem_nil⟩⟩) ⟨by decide, by decide⟩ (by decide) k1029 cs_UOE (fun q => ?_)
      obtain ⟨q9, hq9⟩ := hj x1 rfl
      refine V_astore_n C 18 [(3, .ref q), (0, .ref A.1), (1, .int a1), (2, .int a2)] dL_addRibbon_17 rfl (hlt 3 (by decide)) rfl ?_
      refine V_sipush C (-10000 : Int32) 21 dL_addRibbon_18 rfl rfl ?_
      refine V_aload_n C 1 22 dL_addRibbon_21 rfl rfl ?_
      refine V_callXr C hBA hE ml_L_25 (pre := []) (post := []) (wc := xW g A x1) (w1 := xW g A x1) (rv := some (.int q9)) (as := []) (rest := [.int (-10000 : Int32)]) (c_X3_rejectionReason (R := .inl (q9, x1)) hst hq9) 0 25 (xW g A x1) dL_addRibbon_22 rfl ⟨Nat.le_of_ble_eq_true rfl, Nat.le_of_ble_eq_true rfl⟩ rfl (by rw [List.append_nil]; rfl) (by rw [List.append_nil]; rfl) (xW_fst _ _ _ _) rfl rfl rfl (Nat.le_of_ble_eq_true rfl) ⟨Nat.le_of_ble_eq_true rfl, Nat.le_of_ble_eq_true rfl⟩ ?_
      refine V_isub C 26 dL_addRibbon_25 rfl ?_
      exact V_nretI C Z (ty := .int) rfl rfl ⟨⟨_, rfl⟩, rfl⟩ dL_addRibbon_26 (Nat.le_refl _) (Nat.le_refl _)
    · exact absurd hj0 (by simp)
set_option maxRecDepth 4000 in
theorem w_addDogEar {l : Launch} {D : va_G} {g : G0} {A : XA} {x : XV} {a1 a2 : Int32} (hst : l.stackTraces = false) {r : (Int32 × XV) ⊕ (String × XV)} (h : f_X3_addDogEar x a1 a2 = some r) (hc : codesOk [IOOBE, IAE, UOE] r) (hj : ∀ x1, r = .inr (UOE, x1) → ∃ q, f_X3_rejectionReason x1 = some (.inl (q, x1))) : CtH l D g yL_addDogEar cL_addDogEar 4 (some .int) [(0, 6, 7, 19), (0, 6, 12, 21), (0, 6, 17, 23)] (rmN 10 300 1 6) (xW g A x) [.ref A.1, .int a1, .int a2] (fun rv w1 => (∃ v, rv = some (.int v)) ∧ w1 = xW g A (sndR r)) 1 6 := by
  refine CtH.of (by decide) (Nat.le_of_ble_eq_true rfl) ?_
  intro K C Z htab hN hBA el eD ekn
  subst el
  subst eD
  have hlt : ∀ i, i < 4 → i < kn K := fun i h => by rw [ekn]; exact h
  have hE := Z.1.2.2.2.2.2
  show V K 0 0 (xW g A x) [(0, .ref A.1), (1, .int a1), (2, .int a2)] [] 0
  refine V_aload_n C 0 1 dL_addDogEar_0 rfl rfl ?_
  refine V_iload_n C 1 2 dL_addDogEar_1 rfl rfl ?_
  refine V_iload_n C 2 3 dL_addDogEar_2 rfl rfl ?_
  rcases r with ⟨r, x1⟩ | ⟨E, x1⟩
  · refine V_callXr C hBA hE ml_L_29 (pre := []) (post := []) (wc := xW g A x) (w1 := xW g A x1) (rv := some (.int r)) (as := [.int a1, .int a2]) (rest := []) (c_X3_addDogEar (R := .inl (r, x1)) hst h) 0 6 (xW g A x1) dL_addDogEar_3 rfl ⟨Nat.le_of_ble_eq_true rfl, Nat.le_of_ble_eq_true rfl⟩ rfl (by rw [List.append_nil]; rfl) (by rw [List.append_nil]; rfl) (xW_fst _ _ _ _) rfl rfl rfl (Nat.le_of_ble_eq_true rfl) ⟨Nat.le_of_ble_eq_true rfl, Nat.le_of_ble_eq_true rfl⟩ ?_
    exact V_nretI C Z (ty := .int) rfl rfl ⟨⟨_, rfl⟩, rfl⟩ dL_addDogEar_6 (Nat.zero_le _) (Nat.zero_le _)
  · obtain ⟨j, hj0⟩ := hc _ rfl
    rcases j with _ | _ | _ | j
    · cases hj0
      refine V_callXt C hBA hE ml_L_29 (pre := []) (post := []) (wc := xW g A x) (w1 := xW g A x1) (E := IOOBE) (as := [.int a1, .int a2]) (rest := []) (c_X3_addDogEar (R := .inr (IOOBE, x1)) hst h) 0 (xW g A x1) dL_addDogEar_3 ⟨Nat.le_of_ble_eq_true rfl, Nat.le_of_ble_eq_true rfl⟩ rfl (by rw [List.append_nil]; rfl) (by rw [List.append_nil]; rfl) (xW_fst _ _ _ _) rfl rfl (Nat.le_of_ble_eq_true rfl) ⟨Nat.le_of_ble_eq_true rfl, Nat.le_of_ble_eq_true rfl⟩ ?_
      refine VX_catch C htab hN Z.1.2.2.1 (nm := IOOBE) [] (0, 6, 7, 19) [(0, 6, 12, 21), (0, 6, 17, 23)] rfl (fun z hz => absurd hz List.not_mem_nil) ⟨by decide, by decide⟩ (by decide) k943 cs_IOOBE (fun q => ?_)
      refine V_astore_n C 8 [(3, .ref q), (0, .ref A.1), (1, .int a1), (2, .int a2)] dL_addDogEar_7 rfl (hlt 3 (by decide)) rfl ?_
      refine V_sipush C (-25000 : Int32) 11 dL_addDogEar_8 rfl rfl ?_
      exact V_nretI C Z (ty := .int) rfl rfl ⟨⟨_, rfl⟩, rfl⟩ dL_addDogEar_11 (Nat.le_refl _) (Nat.le_refl _)
    · cases hj0
      refine V_callXt C hBA hE ml_L_29 (pre := []) (post := []) (wc := xW g A x) (w1 := xW g A x1) (E := IAE) (as := [.int a1, .int a2]) (rest := []) (c_X3_addDogEar (R := .inr (IAE, x1)) hst h) 0 (xW g A x1) dL_addDogEar_3 ⟨Nat.le_of_ble_eq_true rfl, Nat.le_of_ble_eq_true rfl⟩ rfl (by rw [List.append_nil]; rfl) (by rw [List.append_nil]; rfl) (xW_fst _ _ _ _) rfl rfl (Nat.le_of_ble_eq_true rfl) ⟨Nat.le_of_ble_eq_true rfl, Nat.le_of_ble_eq_true rfl⟩ ?_
      refine VX_catch C htab hN Z.1.2.2.1 (nm := IAE) [(0, 6, 7, 19)] (0, 6, 12, 21) [(0, 6, 17, 23)] rfl (List.forall_mem_cons.mpr ⟨⟨by decide, _, k943, List.mem_of_getElem? (i := 0) rfl⟩, fun z hz => absurd hz List.not_mem_nil⟩) ⟨by decide, by decide⟩ (by decide) k1028 cs_IAE (fun q => ?_)
      refine V_astore_n C 13 [(3, .ref q), (0, .ref A.1), (1, .int a1), (2, .int a2)] dL_addDogEar_12 rfl (hlt 3 (by decide)) rfl ?_
      refine V_sipush C (-20000 : Int32) 16 dL_addDogEar_13 rfl rfl ?_
      exact V_nretI C Z (ty := .int) rfl rfl ⟨⟨_, rfl⟩, rfl⟩ dL_addDogEar_16 (Nat.le_refl _) (Nat.le_refl _)
    · cases hj0
      refine V_callXt C hBA hE ml_L_29 (pre := []) (post := []) (wc := xW g A x) (w1 := xW g A x1) (E := UOE) (as := [.int a1, .int a2]) (rest := []) (c_X3_addDogEar (R := .inr (UOE, x1)) hst h) 0 (xW g A x1) dL_addDogEar_3 ⟨Nat.le_of_ble_eq_true rfl, Nat.le_of_ble_eq_true rfl⟩ rfl (by rw [List.append_nil]; rfl) (by rw [List.append_nil]; rfl) (xW_fst _ _ _ _) rfl rfl (Nat.le_of_ble_eq_true rfl) ⟨Nat.le_of_ble_eq_true rfl, Nat.le_of_ble_eq_true rfl⟩ ?_
      refine VX_catch C htab hN Z.1.2.2.1 (nm := UOE) [(0, 6, 7, 19), (0, 6, 12, 21)] (0, 6, 17, 23) [] rfl (List.forall_mem_cons.mpr ⟨⟨by decide, _, k943, List.mem_of_getElem? (i := 1) rfl⟩, List.forall_mem_cons.mpr ⟨⟨by decide, _, k1028, List.mem_of_getElem? (i := 2) rfl⟩, fun z hz => absurd hz List.not_mem_nil⟩⟩) ⟨by decide, by decide⟩ (by decide) k1029 cs_UOE (fun q => ?_)
      obtain ⟨q9, hq9⟩ := hj x1 rfl
      refine V_astore_n C 18 [(3, .ref q), (0, .ref A.1), (1, .int a1), (2, .int a2)] dL_addDogEar_17 rfl (hlt 3 (by decide)) rfl ?_
      refine V_sipush C (-10000 : Int32) 21 dL_addDogEar_18 rfl rfl ?_
      refine V_aload_n C 1 22 dL_addDogEar_21 rfl rfl ?_
      refine V_callXr C hBA hE ml_L_25 (pre := []) (post := []) (wc := xW g A x1) (w1 := xW g A x1) (rv := some (.int q9)) (as := []) (rest := [.int (-10000 : Int32)]) (c_X3_rejectionReason (R := .inl (q9, x1)) hst hq9) 0 25 (xW g A x1) dL_addDogEar_22 rfl ⟨Nat.le_of_ble_eq_true rfl, Nat.le_of_ble_eq_true rfl⟩ rfl (by rw [List.append_nil]; rfl) (by rw [List.append_nil]; rfl) (xW_fst _ _ _ _) rfl rfl rfl (Nat.le_of_ble_eq_true rfl) ⟨Nat.le_of_ble_eq_true rfl, Nat.le_of_ble_eq_true rfl⟩ ?_
      refine V_isub C 26 dL_addDogEar_25 rfl ?_
      exact V_nretI C Z (ty := .int) rfl rfl ⟨⟨_, rfl⟩, rfl⟩ dL_addDogEar_26 (Nat.le_refl _) (Nat.le_refl _)
    · exact absurd hj0 (by simp)
set_option maxRecDepth 4000 in
theorem w_removeMark {l : Launch} {D : va_G} {g : G0} {A : XA} {x : XV} {a1 : Int32} (hst : l.stackTraces = false) {r : (Int32 × XV) ⊕ (String × XV)} (h : f_X3_removeMark x a1 = some r) (hc : codesOk [IOOBE] r) : CtH l D g yL_removeMark cL_removeMark 3 (some .int) [(0, 5, 6, 19)] (rmN 10 300 1 6) (xW g A x) [.ref A.1, .int a1] (fun rv w1 => (∃ v, rv = some (.int v)) ∧ w1 = xW g A (sndR r)) 1 6 := by
  refine CtH.of (by decide) (Nat.le_of_ble_eq_true rfl) ?_
  intro K C Z htab hN hBA el eD ekn
  subst el
  subst eD
  have hlt : ∀ i, i < 3 → i < kn K := fun i h => by rw [ekn]; exact h
  have hE := Z.1.2.2.2.2.2
  show V K 0 0 (xW g A x) [(0, .ref A.1), (1, .int a1)] [] 0
  refine V_aload_n C 0 1 dL_removeMark_0 rfl rfl ?_
  refine V_iload_n C 1 2 dL_removeMark_1 rfl rfl ?_
  rcases r with ⟨r, x1⟩ | ⟨E, x1⟩
  · refine V_callXr C hBA hE ml_L_32 (pre := []) (post := []) (wc := xW g A x) (w1 := xW g A x1) (rv := some (.int r)) (as := [.int a1]) (rest := []) (c_X3_removeMark (R := .inl (r, x1)) hst h) 0 5 (xW g A x1) dL_removeMark_2 rfl ⟨Nat.le_of_ble_eq_true rfl, Nat.le_of_ble_eq_true rfl⟩ rfl (by rw [List.append_nil]; rfl) (by rw [List.append_nil]; rfl) (xW_fst _ _ _ _) rfl rfl rfl (Nat.le_of_ble_eq_true rfl) ⟨Nat.le_of_ble_eq_true rfl, Nat.le_of_ble_eq_true rfl⟩ ?_
    exact V_nretI C Z (ty := .int) rfl rfl ⟨⟨_, rfl⟩, rfl⟩ dL_removeMark_5 (Nat.zero_le _) (Nat.zero_le _)
  · obtain ⟨j, hj0⟩ := hc _ rfl
    rcases j with _ | j
    · cases hj0
      refine V_callXt C hBA hE ml_L_32 (pre := []) (post := []) (wc := xW g A x) (w1 := xW g A x1) (E := IOOBE) (as := [.int a1]) (rest := []) (c_X3_removeMark (R := .inr (IOOBE, x1)) hst h) 0 (xW g A x1) dL_removeMark_2 ⟨Nat.le_of_ble_eq_true rfl, Nat.le_of_ble_eq_true rfl⟩ rfl (by rw [List.append_nil]; rfl) (by rw [List.append_nil]; rfl) (xW_fst _ _ _ _) rfl rfl (Nat.le_of_ble_eq_true rfl) ⟨Nat.le_of_ble_eq_true rfl, Nat.le_of_ble_eq_true rfl⟩ ?_
      refine VX_catch C htab hN Z.1.2.2.1 (nm := IOOBE) [] (0, 5, 6, 19) [] rfl (fun z hz => absurd hz List.not_mem_nil) ⟨by decide, by decide⟩ (by decide) k943 cs_IOOBE (fun q => ?_)
      refine V_astore_n C 7 [(2, .ref q), (0, .ref A.1), (1, .int a1)] dL_removeMark_6 rfl (hlt 2 (by decide)) rfl ?_
      refine V_sipush C (-25000 : Int32) 10 dL_removeMark_7 rfl rfl ?_
      exact V_nretI C Z (ty := .int) rfl rfl ⟨⟨_, rfl⟩, rfl⟩ dL_removeMark_10 (Nat.le_refl _) (Nat.le_refl _)
    · exact absurd hj0 (by simp)
set_option maxRecDepth 4000 in
theorem w_moveRibbon {l : Launch} {D : va_G} {g : G0} {A : XA} {x : XV} {a1 a2 : Int32} (hst : l.stackTraces = false) {r : (Int32 × XV) ⊕ (String × XV)} (h : f_X3_moveRibbon x a1 a2 = some r) (hc : codesOk [IOOBE, UOE] r) (hj : ∀ x1, r = .inr (UOE, x1) → ∃ q, f_X3_rejectionReason x1 = some (.inl (q, x1))) : CtH l D g yL_moveRibbon cL_moveRibbon 4 (some .int) [(0, 6, 7, 19), (0, 6, 12, 23)] (rmN 10 300 1 6) (xW g A x) [.ref A.1, .int a1, .int a2] (fun rv w1 => (∃ v, rv = some (.int v)) ∧ w1 = xW g A (sndR r)) 1 6 := by
  refine CtH.of (by decide) (Nat.le_of_ble_eq_true rfl) ?_
  intro K C Z htab hN hBA el eD ekn
  subst el
  subst eD
  have hlt : ∀ i, i < 4 → i < kn K := fun i h => by rw [ekn]; exact h
  have hE := Z.1.2.2.2.2.2
  show V K 0 0 (xW g A x) [(0, .ref A.1), (1, .int a1), (2, .int a2)] [] 0
  refine V_aload_n C 0 1 dL_moveRibbon_0 rfl rfl ?_
  refine V_iload_n C 1 2 dL_moveRibbon_1 rfl rfl ?_
  refine V_iload_n C 2 3 dL_moveRibbon_2 rfl rfl ?_
  rcases r with ⟨r, x1⟩ | ⟨E, x1⟩
  · refine V_callXr C hBA hE ml_L_36 (pre := []) (post := []) (wc := xW g A x) (w1 := xW g A x1) (rv := some (.int r)) (as := [.int a1, .int a2]) (rest := []) (c_X3_moveRibbon (R := .inl (r, x1)) hst h) 0 6 (xW g A x1) dL_moveRibbon_3 rfl ⟨Nat.le_of_ble_eq_true rfl, Nat.le_of_ble_eq_true rfl⟩ rfl (by rw [List.append_nil]; rfl) (by rw [List.append_nil]; rfl) (xW_fst _ _ _ _) rfl rfl rfl (Nat.le_of_ble_eq_true rfl) ⟨Nat.le_of_ble_eq_true rfl, Nat.le_of_ble_eq_true rfl⟩ ?_
    exact V_nretI C Z (ty := .int) rfl rfl ⟨⟨_, rfl⟩, rfl⟩ dL_moveRibbon_6 (Nat.zero_le _) (Nat.zero_le _)
  · obtain ⟨j, hj0⟩ := hc _ rfl
    rcases j with _ | _ | j
    · cases hj0
      refine V_callXt C hBA hE ml_L_36 (pre := []) (post := []) (wc := xW g A x) (w1 := xW g A x1) (E := IOOBE) (as := [.int a1, .int a2]) (rest := []) (c_X3_moveRibbon (R := .inr (IOOBE, x1)) hst h) 0 (xW g A x1) dL_moveRibbon_3 ⟨Nat.le_of_ble_eq_true rfl, Nat.le_of_ble_eq_true rfl⟩ rfl (by rw [List.append_nil]; rfl) (by rw [List.append_nil]; rfl) (xW_fst _ _ _ _) rfl rfl (Nat.le_of_ble_eq_true rfl) ⟨Nat.le_of_ble_eq_true rfl, Nat.le_of_ble_eq_true rfl⟩ ?_
      refine VX_catch C htab hN Z.1.2.2.1 (nm := IOOBE) [] (0, 6, 7, 19) [(0, 6, 12, 23)] rfl (fun z hz => absurd hz List.not_mem_nil) ⟨by decide, by decide⟩ (by decide) k943 cs_IOOBE (fun q => ?_)
      refine V_astore_n C 8 [(3, .ref q), (0, .ref A.1), (1, .int a1), (2, .int a2)] dL_moveRibbon_7 rfl (hlt 3 (by decide)) rfl ?_
      refine V_sipush C (-25000 : Int32) 11 dL_moveRibbon_8 rfl rfl ?_
      exact V_nretI C Z (ty := .int) rfl rfl ⟨⟨_, rfl⟩, rfl⟩ dL_moveRibbon_11 (Nat.le_refl _) (Nat.le_refl _)
    · cases hj0
      refine V_callXt C hBA hE ml_L_36 (pre := []) (post := []) (wc := xW g A x) (w1 := xW g A x1) (E := UOE) (as := [.int a1, .int a2]) (rest := []) (c_X3_moveRibbon (R := .inr (UOE, x1)) hst h) 0 (xW g A x1) dL_moveRibbon_3 ⟨Nat.le_of_ble_eq_true rfl, Nat.le_of_ble_eq_true rfl⟩ rfl (by rw [List.append_nil]; rfl) (by rw [List.append_nil]; rfl) (xW_fst _ _ _ _) rfl rfl (Nat.le_of_ble_eq_true rfl) ⟨Nat.le_of_ble_eq_true rfl, Nat.le_of_ble_eq_true rfl⟩ ?_
      refine VX_catch C htab hN Z.1.2.2.1 (nm := UOE) [(0, 6, 7, 19)] (0, 6, 12, 23) [] rfl (List.forall_mem_cons.mpr ⟨⟨by decide, _, k943, List.mem_of_getElem? (i := 1) rfl⟩, fun z hz => absurd hz List.not_mem_nil⟩) ⟨by decide, by decide⟩ (by decide) k1029 cs_UOE (fun q => ?_)
      obtain ⟨q9, hq9⟩ := hj x1 rfl
      refine V_astore_n C 13 [(3, .ref q), (0, .ref A.1), (1, .int a1), (2, .int a2)] dL_moveRibbon_12 rfl (hlt 3 (by decide)) rfl ?_
      refine V_sipush C (-10000 : Int32) 16 dL_moveRibbon_13 rfl rfl ?_
      refine V_aload_n C 1 17 dL_moveRibbon_16 rfl rfl ?_
      refine V_callXr C hBA hE ml_L_25 (pre := []) (post := []) (wc := xW g A x1) (w1 := xW g A x1) (rv := some (.int q9)) (as := []) (rest := [.int (-10000 : Int32)]) (c_X3_rejectionReason (R := .inl (q9, x1)) hst hq9) 0 20 (xW g A x1) dL_moveRibbon_17 rfl ⟨Nat.le_of_ble_eq_true rfl, Nat.le_of_ble_eq_true rfl⟩ rfl (by rw [List.append_nil]; rfl) (by rw [List.append_nil]; rfl) (xW_fst _ _ _ _) rfl rfl rfl (Nat.le_of_ble_eq_true rfl) ⟨Nat.le_of_ble_eq_true rfl, Nat.le_of_ble_eq_true rfl⟩ ?_
      refine V_isub C 21 dL_moveRibbon_20 rfl ?_
      exact V_nretI C Z (ty := .int) rfl rfl ⟨⟨_, rfl⟩, rfl⟩ dL_moveRibbon_21 (Nat.le_refl _) (Nat.le_refl _)
    · exact absurd hj0 (by simp)
set_option maxRecDepth 4000 in
theorem w_swapSeats {l : Launch} {D : va_G} {g : G0} {A : XA} {x : XV} {a1 a2 : Int32} (hst : l.stackTraces = false) {r : (Int32 × XV) ⊕ (String × XV)} (h : f_X3_swapSeats x a1 a2 = some r) (hc : codesOk [IOOBE, UOE] r) (hj : ∀ x1, r = .inr (UOE, x1) → ∃ q, f_X3_rejectionReason x1 = some (.inl (q, x1))) : CtH l D g yL_swapSeats cL_swapSeats 4 (some .int) [(0, 6, 7, 19), (0, 6, 12, 23)] (rmN 10 300 1 6) (xW g A x) [.ref A.1, .int a1, .int a2] (fun rv w1 => (∃ v, rv = some (.int v)) ∧ w1 = xW g A (sndR r)) 1 6 := by
  refine CtH.of (by decide) (Nat.le_of_ble_eq_true rfl) ?_
  intro K C Z htab hN hBA el eD ekn
  subst el
  subst eD
  have hlt : ∀ i, i < 4 → i < kn K := fun i h => by rw [ekn]; exact h
  have hE := Z.1.2.2.2.2.2
  show V K 0 0 (xW g A x) [(0, .ref A.1), (1, .int a1), (2, .int a2)] [] 0
  refine V_aload_n C 0 1 dL_swapSeats_0 rfl rfl ?_
  refine V_iload_n C 1 2 dL_swapSeats_1 rfl rfl ?_
  refine V_iload_n C 2 3 dL_swapSeats_2 rfl rfl ?_
  rcases r with ⟨r, x1⟩ | ⟨E, x1⟩
  · refine V_callXr C hBA hE ml_L_39 (pre := []) (post := []) (wc := xW g A x) (w1 := xW g A x1) (rv := some (.int r)) (as := [.int a1, .int a2]) (rest := []) (c_X3_swapSeats (R := .inl (r, x1)) hst h) 0 6 (xW g A x1) dL_swapSeats_3 rfl ⟨Nat.le_of_ble_eq_true rfl, Nat.le_of_ble_eq_true rfl⟩ rfl (by rw [List.append_nil]; rfl) (by rw [List.append_nil]; rfl) (xW_fst _ _ _ _) rfl rfl rfl (Nat.le_of_ble_eq_true rfl) ⟨Nat.le_of_ble_eq_true rfl, Nat.le_of_ble_eq_true rfl⟩ ?_
    exact V_nretI C Z (ty := .int) rfl rfl ⟨⟨_, rfl⟩, rfl⟩ dL_swapSeats_6 (Nat.zero_le _) (Nat.zero_le _)
  · obtain ⟨j, hj0⟩ := hc _ rfl
    rcases j with _ | _ | j
    · cases hj0
      refine V_callXt C hBA hE ml_L_39 (pre := []) (post := []) (wc := xW g A x) (w1 := xW g A x1) (E := IOOBE) (as := [.int a1, .int a2]) (rest := []) (c_X3_swapSeats (R := .inr (IOOBE, x1)) hst h) 0 (xW g A x1) dL_swapSeats_3 ⟨Nat.le_of_ble_eq_true rfl, Nat.le_of_ble_eq_true rfl⟩ rfl (by rw [List.append_nil]; rfl) (by rw [List.append_nil]; rfl) (xW_fst _ _ _ _) rfl rfl (Nat.le_of_ble_eq_true rfl) ⟨Nat.le_of_ble_eq_true rfl, Nat.le_of_ble_eq_true rfl⟩ ?_
      refine VX_catch C htab hN Z.1.2.2.1 (nm := IOOBE) [] (0, 6, 7, 19) [(0, 6, 12, 23)] rfl (fun z hz => absurd hz List.not_mem_nil) ⟨by decide, by decide⟩ (by decide) k943 cs_IOOBE (fun q => ?_)
      refine V_astore_n C 8 [(3, .ref q), (0, .ref A.1), (1, .int a1), (2, .int a2)] dL_swapSeats_7 rfl (hlt 3 (by decide)) rfl ?_
      refine V_sipush C (-25000 : Int32) 11 dL_swapSeats_8 rfl rfl ?_
      exact V_nretI C Z (ty := .int) rfl rfl ⟨⟨_, rfl⟩, rfl⟩ dL_swapSeats_11 (Nat.le_refl _) (Nat.le_refl _)
    · cases hj0
      refine V_callXt C hBA hE ml_L_39 (pre := []) (post := []) (wc := xW g A x) (w1 := xW g A x1) (E := UOE) (as := [.int a1, .int a2]) (rest := []) (c_X3_swapSeats (R := .inr (UOE, x1)) hst h) 0 (xW g A x1) dL_swapSeats_3 ⟨Nat.le_of_ble_eq_true rfl, Nat.le_of_ble_eq_true rfl⟩ rfl (by rw [List.append_nil]; rfl) (by rw [List.append_nil]; rfl) (xW_fst _ _ _ _) rfl rfl (Nat.le_of_ble_eq_true rfl) ⟨Nat.le_of_ble_eq_true rfl, Nat.le_of_ble_eq_true rfl⟩ ?_
      refine VX_catch C htab hN Z.1.2.2.1 (nm := UOE) [(0, 6, 7, 19)] (0, 6, 12, 23) [] rfl (List.forall_mem_cons.mpr ⟨⟨by decide, _, k943, List.mem_of_getElem? (i := 1) rfl⟩, fun z hz => absurd hz List.not_mem_nil⟩) ⟨by decide, by decide⟩ (by decide) k1029 cs_UOE (fun q => ?_)
      obtain ⟨q9, hq9⟩ := hj x1 rfl
      refine V_astore_n C 13 [(3, .ref q), (0, .ref A.1), (1, .int a1), (2, .int a2)] dL_swapSeats_12 rfl (hlt 3 (by decide)) rfl ?_
      refine V_sipush C (-10000 : Int32) 16 dL_swapSeats_13 rfl rfl ?_
      refine V_aload_n C 1 17 dL_swapSeats_16 rfl rfl ?_
      refine V_callXr C hBA hE ml_L_25 (pre := []) (post := []) (wc := xW g A x1) (w1 := xW g A x1) (rv := some (.int q9)) (as := []) (rest := [.int (-10000 : Int32)]) (c_X3_rejectionReason (R := .inl (q9, x1)) hst hq9) 0 20 (xW g A x1) dL_swapSeats_17 rfl ⟨Nat.le_of_ble_eq_true rfl, Nat.le_of_ble_eq_true rfl⟩ rfl (by rw [List.append_nil]; rfl) (by rw [List.append_nil]; rfl) (xW_fst _ _ _ _) rfl rfl rfl (Nat.le_of_ble_eq_true rfl) ⟨Nat.le_of_ble_eq_true rfl, Nat.le_of_ble_eq_true rfl⟩ ?_
      refine V_isub C 21 dL_swapSeats_20 rfl ?_
      exact V_nretI C Z (ty := .int) rfl rfl ⟨⟨_, rfl⟩, rfl⟩ dL_swapSeats_21 (Nat.le_refl _) (Nat.le_refl _)
    · exact absurd hj0 (by simp)
set_option maxRecDepth 4000 in
theorem w_startChapter {l : Launch} {D : va_G} {g : G0} {A : XA} {x : XV} {a1 : Int32} (hst : l.stackTraces = false) {r : (Int32 × XV) ⊕ (String × XV)} (h : f_X3_startChapter x a1 = some r) (hc : codesOk [IOOBE, UOE] r) (hj : ∀ x1, r = .inr (UOE, x1) → ∃ q, f_X3_rejectionReason x1 = some (.inl (q, x1))) : CtH l D g yL_startChapter cL_startChapter 3 (some .int) [(0, 5, 6, 19), (0, 5, 11, 23)] (rmN 10 300 1 6) (xW g A x) [.ref A.1, .int a1] (fun rv w1 => (∃ v, rv = some (.int v)) ∧ w1 = xW g A (sndR r)) 1 6 := by
  refine CtH.of (by decide) (Nat.le_of_ble_eq_true rfl) ?_
  intro K C Z htab hN hBA el eD ekn
  subst el
  subst eD
  have hlt : ∀ i, i < 3 → i < kn K := fun i h => by rw [ekn]; exact h
  have hE := Z.1.2.2.2.2.2
  show V K 0 0 (xW g A x) [(0, .ref A.1), (1, .int a1)] [] 0
  refine V_aload_n C 0 1 dL_startChapter_0 rfl rfl ?_
  refine V_iload_n C 1 2 dL_startChapter_1 rfl rfl ?_
  rcases r with ⟨r, x1⟩ | ⟨E, x1⟩
  · refine V_callXr C hBA hE ml_L_42 (pre := []) (post := []) (wc := xW g A x) (w1 := xW g A x1) (rv := some (.int r)) (as := [.int a1]) (rest := []) (c_X3_startChapter (R := .inl (r, x1)) hst h) 0 5 (xW g A x1) dL_startChapter_2 rfl ⟨Nat.le_of_ble_eq_true rfl, Nat.le_of_ble_eq_true rfl⟩ rfl (by rw [List.append_nil]; rfl) (by rw [List.append_nil]; rfl) (xW_fst _ _ _ _) rfl rfl rfl (Nat.le_of_ble_eq_true rfl) ⟨Nat.le_of_ble_eq_true rfl, Nat.le_of_ble_eq_true rfl⟩ ?_
    exact V_nretI C Z (ty := .int) rfl rfl ⟨⟨_, rfl⟩, rfl⟩ dL_startChapter_5 (Nat.zero_le _) (Nat.zero_le _)
  · obtain ⟨j, hj0⟩ := hc _ rfl
    rcases j with _ | _ | j
    · cases hj0
      refine V_callXt C hBA hE ml_L_42 (pre := []) (post := []) (wc := xW g A x) (w1 := xW g A x1) (E := IOOBE) (as := [.int a1]) (rest := []) (c_X3_startChapter (R := .inr (IOOBE, x1)) hst h) 0 (xW g A x1) dL_startChapter_2 ⟨Nat.le_of_ble_eq_true rfl, Nat.le_of_ble_eq_true rfl⟩ rfl (by rw [List.append_nil]; rfl) (by rw [List.append_nil]; rfl) (xW_fst _ _ _ _) rfl rfl (Nat.le_of_ble_eq_true rfl) ⟨Nat.le_of_ble_eq_true rfl, Nat.le_of_ble_eq_true rfl⟩ ?_
      refine VX_catch C htab hN Z.1.2.2.1 (nm := IOOBE) [] (0, 5, 6, 19) [(0, 5, 11, 23)] rfl (fun z hz => absurd hz List.not_mem_nil) ⟨by decide, by decide⟩ (by decide) k943 cs_IOOBE (fun q => ?_)
      refine V_astore_n C 7 [(2, .ref q), (0, .ref A.1), (1, .int a1)] dL_startChapter_6 rfl (hlt 2 (by decide)) rfl ?_
      refine V_sipush C (-25000 : Int32) 10 dL_startChapter_7 rfl rfl ?_
      exact V_nretI C Z (ty := .int) rfl rfl ⟨⟨_, rfl⟩, rfl⟩ dL_startChapter_10 (Nat.le_refl _) (Nat.le_refl _)
    · cases hj0
      refine V_callXt C hBA hE ml_L_42 (pre := []) (post := []) (wc := xW g A x) (w1 := xW g A x1) (E := UOE) (as := [.int a1]) (rest := []) (c_X3_startChapter (R := .inr (UOE, x1)) hst h) 0 (xW g A x1) dL_startChapter_2 ⟨Nat.le_of_ble_eq_true rfl, Nat.le_of_ble_eq_true rfl⟩ rfl (by rw [List.append_nil]; rfl) (by rw [List.append_nil]; rfl) (xW_fst _ _ _ _) rfl rfl (Nat.le_of_ble_eq_true rfl) ⟨Nat.le_of_ble_eq_true rfl, Nat.le_of_ble_eq_true rfl⟩ ?_
      refine VX_catch C htab hN Z.1.2.2.1 (nm := UOE) [(0, 5, 6, 19)] (0, 5, 11, 23) [] rfl (List.forall_mem_cons.mpr ⟨⟨by decide, _, k943, List.mem_of_getElem? (i := 1) rfl⟩, fun z hz => absurd hz List.not_mem_nil⟩) ⟨by decide, by decide⟩ (by decide) k1029 cs_UOE (fun q => ?_)
      obtain ⟨q9, hq9⟩ := hj x1 rfl
      refine V_astore_n C 12 [(2, .ref q), (0, .ref A.1), (1, .int a1)] dL_startChapter_11 rfl (hlt 2 (by decide)) rfl ?_
      refine V_sipush C (-10000 : Int32) 15 dL_startChapter_12 rfl rfl ?_
      refine V_aload_n C 1 16 dL_startChapter_15 rfl rfl ?_
      refine V_callXr C hBA hE ml_L_25 (pre := []) (post := []) (wc := xW g A x1) (w1 := xW g A x1) (rv := some (.int q9)) (as := []) (rest := [.int (-10000 : Int32)]) (c_X3_rejectionReason (R := .inl (q9, x1)) hst hq9) 0 19 (xW g A x1) dL_startChapter_16 rfl ⟨Nat.le_of_ble_eq_true rfl, Nat.le_of_ble_eq_true rfl⟩ rfl (by rw [List.append_nil]; rfl) (by rw [List.append_nil]; rfl) (xW_fst _ _ _ _) rfl rfl rfl (Nat.le_of_ble_eq_true rfl) ⟨Nat.le_of_ble_eq_true rfl, Nat.le_of_ble_eq_true rfl⟩ ?_
      refine V_isub C 20 dL_startChapter_19 rfl ?_
      exact V_nretI C Z (ty := .int) rfl rfl ⟨⟨_, rfl⟩, rfl⟩ dL_startChapter_20 (Nat.le_refl _) (Nat.le_refl _)
    · exact absurd hj0 (by simp)
set_option maxRecDepth 4000 in
theorem w_turnPages {l : Launch} {D : va_G} {g : G0} {A : XA} {x : XV} {a1 a2 : Int32} (hst : l.stackTraces = false) {r : (Int32 × XV) ⊕ (String × XV)} (h : f_X3_turnPages x a1 a2 = some r) (hc : codesOk [IAE, UOE] r) (hj : ∀ x1, r = .inr (UOE, x1) → ∃ q, f_X3_rejectionReason x1 = some (.inl (q, x1))) : CtH l D g yL_turnPages cL_turnPages 4 (some .int) [(0, 6, 7, 21), (0, 6, 12, 23)] (rmN 10 300 1 6) (xW g A x) [.ref A.1, .int a1, .int a2] (fun rv w1 => (∃ v, rv = some (.int v)) ∧ w1 = xW g A (sndR r)) 1 6 := by
  refine CtH.of (by decide) (Nat.le_of_ble_eq_true rfl) ?_
  intro K C Z htab hN hBA el eD ekn
  subst el
  subst eD
  have hlt : ∀ i, i < 4 → i < kn K := fun i h => by rw [ekn]; exact h
  have hE := Z.1.2.2.2.2.2
  show V K 0 0 (xW g A x) [(0, .ref A.1), (1, .int a1), (2, .int a2)] [] 0
  refine V_aload_n C 0 1 dL_turnPages_0 rfl rfl ?_
  refine V_iload_n C 1 2 dL_turnPages_1 rfl rfl ?_
  refine V_iload_n C 2 3 dL_turnPages_2 rfl rfl ?_
  rcases r with ⟨r, x1⟩ | ⟨E, x1⟩
  · refine V_callXr C hBA hE ml_L_45 (pre := []) (post := []) (wc := xW g A x) (w1 := xW g A x1) (rv := some (.int r)) (as := [.int a1, .int a2]) (rest := []) (c_X3_turnPages (R := .inl (r, x1)) hst h) 0 6 (xW g A x1) dL_turnPages_3 rfl ⟨Nat.le_of_ble_eq_true rfl, Nat.le_of_ble_eq_true rfl⟩ rfl (by rw [List.append_nil]; rfl) (by rw [List.append_nil]; rfl) (xW_fst _ _ _ _) rfl rfl rfl (Nat.le_of_ble_eq_true rfl) ⟨Nat.le_of_ble_eq_true rfl, Nat.le_of_ble_eq_true rfl⟩ ?_
    exact V_nretI C Z (ty := .int) rfl rfl ⟨⟨_, rfl⟩, rfl⟩ dL_turnPages_6 (Nat.zero_le _) (Nat.zero_le _)
  · obtain ⟨j, hj0⟩ := hc _ rfl
    rcases j with _ | _ | j
    · cases hj0
      refine V_callXt C hBA hE ml_L_45 (pre := []) (post := []) (wc := xW g A x) (w1 := xW g A x1) (E := IAE) (as := [.int a1, .int a2]) (rest := []) (c_X3_turnPages (R := .inr (IAE, x1)) hst h) 0 (xW g A x1) dL_turnPages_3 ⟨Nat.le_of_ble_eq_true rfl, Nat.le_of_ble_eq_true rfl⟩ rfl (by rw [List.append_nil]; rfl) (by rw [List.append_nil]; rfl) (xW_fst _ _ _ _) rfl rfl (Nat.le_of_ble_eq_true rfl) ⟨Nat.le_of_ble_eq_true rfl, Nat.le_of_ble_eq_true rfl⟩ ?_
      refine VX_catch C htab hN Z.1.2.2.1 (nm := IAE) [] (0, 6, 7, 21) [(0, 6, 12, 23)] rfl (fun z hz => absurd hz List.not_mem_nil) ⟨by decide, by decide⟩ (by decide) k1028 cs_IAE (fun q => ?_)
      refine V_astore_n C 8 [(3, .ref q), (0, .ref A.1), (1, .int a1), (2, .int a2)] dL_turnPages_7 rfl (hlt 3 (by decide)) rfl ?_
      refine V_sipush C (-20000 : Int32) 11 dL_turnPages_8 rfl rfl ?_
      exact V_nretI C Z (ty := .int) rfl rfl ⟨⟨_, rfl⟩, rfl⟩ dL_turnPages_11 (Nat.le_refl _) (Nat.le_refl _)
    · cases hj0
      refine V_callXt C hBA hE ml_L_45 (pre := []) (post := []) (wc := xW g A x) (w1 := xW g A x1) (E := UOE) (as := [.int a1, .int a2]) (rest := []) (c_X3_turnPages (R := .inr (UOE, x1)) hst h) 0 (xW g A x1) dL_turnPages_3 ⟨Nat.le_of_ble_eq_true rfl, Nat.le_of_ble_eq_true rfl⟩ rfl (by rw [List.append_nil]; rfl) (by rw [List.append_nil]; rfl) (xW_fst _ _ _ _) rfl rfl (Nat.le_of_ble_eq_true rfl) ⟨Nat.le_of_ble_eq_true rfl, Nat.le_of_ble_eq_true rfl⟩ ?_
      refine VX_catch C htab hN Z.1.2.2.1 (nm := UOE) [(0, 6, 7, 21)] (0, 6, 12, 23) [] rfl (List.forall_mem_cons.mpr ⟨⟨by decide, _, k1028, List.mem_of_getElem? (i := 2) rfl⟩, fun z hz => absurd hz List.not_mem_nil⟩) ⟨by decide, by decide⟩ (by decide) k1029 cs_UOE (fun q => ?_)
      obtain ⟨q9, hq9⟩ := hj x1 rfl
      refine V_astore_n C 13 [(3, .ref q), (0, .ref A.1), (1, .int a1), (2, .int a2)] dL_turnPages_12 rfl (hlt 3 (by decide)) rfl ?_
      refine V_sipush C (-10000 : Int32) 16 dL_turnPages_13 rfl rfl ?_
      refine V_aload_n C 1 17 dL_turnPages_16 rfl rfl ?_
      refine V_callXr C hBA hE ml_L_25 (pre := []) (post := []) (wc := xW g A x1) (w1 := xW g A x1) (rv := some (.int q9)) (as := []) (rest := [.int (-10000 : Int32)]) (c_X3_rejectionReason (R := .inl (q9, x1)) hst hq9) 0 20 (xW g A x1) dL_turnPages_17 rfl ⟨Nat.le_of_ble_eq_true rfl, Nat.le_of_ble_eq_true rfl⟩ rfl (by rw [List.append_nil]; rfl) (by rw [List.append_nil]; rfl) (xW_fst _ _ _ _) rfl rfl rfl (Nat.le_of_ble_eq_true rfl) ⟨Nat.le_of_ble_eq_true rfl, Nat.le_of_ble_eq_true rfl⟩ ?_
      refine V_isub C 21 dL_turnPages_20 rfl ?_
      exact V_nretI C Z (ty := .int) rfl rfl ⟨⟨_, rfl⟩, rfl⟩ dL_turnPages_21 (Nat.le_refl _) (Nat.le_refl _)
    · exact absurd hj0 (by simp)
set_option maxRecDepth 4000 in
theorem w_vote {l : Launch} {D : va_G} {g : G0} {A : XA} {x : XV} {a1 : Int32} (hst : l.stackTraces = false) {r : (Int32 × XV) ⊕ (String × XV)} (h : f_X3_voteToDissolve x a1 = some r) (hc : codesOk [IOOBE, UOE] r) (hj : ∀ x1, r = .inr (UOE, x1) → ∃ q, f_X3_rejectionReason x1 = some (.inl (q, x1))) : CtH l D g yL_vote cL_vote 3 (some .int) [(0, 13, 14, 19), (0, 13, 19, 23)] (rmN 10 300 1 6) (xW g A x) [.ref A.1, .int a1] (fun rv w1 => (∃ v, rv = some (.int v)) ∧ w1 = xW g A (sndR r)) 1 6 := by
  refine CtH.of (by decide) (Nat.le_of_ble_eq_true rfl) ?_
  intro K C Z htab hN hBA el eD ekn
  subst el
  subst eD
  have hlt : ∀ i, i < 3 → i < kn K := fun i h => by rw [ekn]; exact h
  have hE := Z.1.2.2.2.2.2
  show V K 0 0 (xW g A x) [(0, .ref A.1), (1, .int a1)] [] 0
  refine V_aload_n C 0 1 dL_vote_0 rfl rfl ?_
  refine V_iload_n C 1 2 dL_vote_1 rfl rfl ?_
  rcases r with ⟨r, x1⟩ | ⟨E, x1⟩
  · refine V_callXr C hBA hE ml_L_78 (pre := []) (post := []) (wc := xW g A x) (w1 := xW g A x1) (rv := some (.int r)) (as := [.int a1]) (rest := []) (c_X3_voteToDissolve (R := .inl (r, x1)) hst h) 0 5 (xW g A x1) dL_vote_2 rfl ⟨Nat.le_of_ble_eq_true rfl, Nat.le_of_ble_eq_true rfl⟩ rfl (by rw [List.append_nil]; rfl) (by rw [List.append_nil]; rfl) (xW_fst _ _ _ _) rfl rfl rfl (Nat.le_of_ble_eq_true rfl) ⟨Nat.le_of_ble_eq_true rfl, Nat.le_of_ble_eq_true rfl⟩ ?_
    by_cases e : r = 0
    · refine V_if_eq C 12 8 dL_vote_5 rfl rfl (fun _ => ?_) (fun e2 => absurd e e2)
      refine V_iconst C (0 : Int32) 13 dL_vote_12 rfl rfl ?_
      exact V_nretI C Z (ty := .int) rfl rfl ⟨⟨_, rfl⟩, rfl⟩ dL_vote_13 (Nat.zero_le _) (Nat.zero_le _)
    · refine V_if_eq C 12 8 dL_vote_5 rfl rfl (fun e2 => absurd e2 e) (fun _ => ?_)
      refine V_iconst C (1 : Int32) 9 dL_vote_8 rfl rfl ?_
      refine V_goto C 13 dL_vote_9 rfl ?_
      exact V_nretI C Z (ty := .int) rfl rfl ⟨⟨_, rfl⟩, rfl⟩ dL_vote_13 (Nat.zero_le _) (Nat.zero_le _)
  · obtain ⟨j, hj0⟩ := hc _ rfl
    rcases j with _ | _ | j
    · cases hj0
      refine V_callXt C hBA hE ml_L_78 (pre := []) (post := []) (wc := xW g A x) (w1 := xW g A x1) (E := IOOBE) (as := [.int a1]) (rest := []) (c_X3_voteToDissolve (R := .inr (IOOBE, x1)) hst h) 0 (xW g A x1) dL_vote_2 ⟨Nat.le_of_ble_eq_true rfl, Nat.le_of_ble_eq_true rfl⟩ rfl (by rw [List.append_nil]; rfl) (by rw [List.append_nil]; rfl) (xW_fst _ _ _ _) rfl rfl (Nat.le_of_ble_eq_true rfl) ⟨Nat.le_of_ble_eq_true rfl, Nat.le_of_ble_eq_true rfl⟩ ?_
      refine VX_catch C htab hN Z.1.2.2.1 (nm := IOOBE) [] (0, 13, 14, 19) [(0, 13, 19, 23)] rfl (fun z hz => absurd hz List.not_mem_nil) ⟨by decide, by decide⟩ (by decide) k943 cs_IOOBE (fun q => ?_)
      refine V_astore_n C 15 [(2, .ref q), (0, .ref A.1), (1, .int a1)] dL_vote_14 rfl (hlt 2 (by decide)) rfl ?_
      refine V_sipush C (-25000 : Int32) 18 dL_vote_15 rfl rfl ?_
      exact V_nretI C Z (ty := .int) rfl rfl ⟨⟨_, rfl⟩, rfl⟩ dL_vote_18 (Nat.le_refl _) (Nat.le_refl _)
    · cases hj0
      refine V_callXt C hBA hE ml_L_78 (pre := []) (post := []) (wc := xW g A x) (w1 := xW g A x1) (E := UOE) (as := [.int a1]) (rest := []) (c_X3_voteToDissolve (R := .inr (UOE, x1)) hst h) 0 (xW g A x1) dL_vote_2 ⟨Nat.le_of_ble_eq_true rfl, Nat.le_of_ble_eq_true rfl⟩ rfl (by rw [List.append_nil]; rfl) (by rw [List.append_nil]; rfl) (xW_fst _ _ _ _) rfl rfl (Nat.le_of_ble_eq_true rfl) ⟨Nat.le_of_ble_eq_true rfl, Nat.le_of_ble_eq_true rfl⟩ ?_
      refine VX_catch C htab hN Z.1.2.2.1 (nm := UOE) [(0, 13, 14, 19)] (0, 13, 19, 23) [] rfl (List.forall_mem_cons.mpr ⟨⟨by decide, _, k943, List.mem_of_getElem? (i := 1) rfl⟩, fun z hz => absurd hz List.not_mem_nil⟩) ⟨by decide, by decide⟩ (by decide) k1029 cs_UOE (fun q => ?_)
      obtain ⟨q9, hq9⟩ := hj x1 rfl
      refine V_astore_n C 20 [(2, .ref q), (0, .ref A.1), (1, .int a1)] dL_vote_19 rfl (hlt 2 (by decide)) rfl ?_
      refine V_sipush C (-10000 : Int32) 23 dL_vote_20 rfl rfl ?_
      refine V_aload_n C 1 24 dL_vote_23 rfl rfl ?_
      refine V_callXr C hBA hE ml_L_25 (pre := []) (post := []) (wc := xW g A x1) (w1 := xW g A x1) (rv := some (.int q9)) (as := []) (rest := [.int (-10000 : Int32)]) (c_X3_rejectionReason (R := .inl (q9, x1)) hst hq9) 0 27 (xW g A x1) dL_vote_24 rfl ⟨Nat.le_of_ble_eq_true rfl, Nat.le_of_ble_eq_true rfl⟩ rfl (by rw [List.append_nil]; rfl) (by rw [List.append_nil]; rfl) (xW_fst _ _ _ _) rfl rfl rfl (Nat.le_of_ble_eq_true rfl) ⟨Nat.le_of_ble_eq_true rfl, Nat.le_of_ble_eq_true rfl⟩ ?_
      refine V_isub C 28 dL_vote_27 rfl ?_
      exact V_nretI C Z (ty := .int) rfl rfl ⟨⟨_, rfl⟩, rfl⟩ dL_vote_28 (Nat.le_refl _) (Nat.le_refl _)
    · exact absurd hj0 (by simp)
