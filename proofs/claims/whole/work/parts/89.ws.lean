/-! ===== wrappers of texts and fractions ===== -/
theorem upD_0 {f : Nat → UInt64} {v : UInt64} : vf_upd f (cl (0 : Int32)) v 0 = v := by
  show vf_upd f 0 v 0 = v
  unfold vf_upd
  rw [if_pos rfl]
theorem w_meanWeight {l : Launch} {D : va_G} {g : G0} {A : XA} {x : XV} {k n : Nat} {o od : Nat} {f : Nat → Int64} {fd : Nat → UInt64} (hst : l.stackTraces = false) (h0 : Bk_marks x.2.1 = nI n) (hw : f_X0_weightOfAll x.2.1 = some (nI k)) (hk : k < 109) (hn : n < 13) (n0 : n ≠ 0) : CtH l D g yL_meanWeight cL_meanWeight 3 (some .int) [(0, 7, 10, 125)] (rmN 10 300 1 6) (oW g A o od f fd x) [.ref A.1, .ref od] (fun rv w1 => ∃ fd', rv = some (.int 0) ∧ w1 = oW g A o od f fd' x ∧ fd' 0 = mw k n) 1 6 := by
  refine CtH.of (by decide) (Nat.le_of_ble_eq_true rfl) ?_
  intro K C Z htab hN hBA el eD ekn
  subst el
  subst eD
  have hlt : ∀ i, i < 3 → i < kn K := fun i h => by rw [ekn]; exact h
  have hE := Z.1.2.2.2.2.2
  show V K 0 0 (oW g A o od f fd x) [(0, .ref A.1), (1, .ref od)] [] 0
  refine V_aload_n C 1 1 dL_meanWeight_0 rfl rfl ?_
  refine V_iconst C (0 : Int32) 2 dL_meanWeight_1 rfl rfl ?_
  refine V_aload_n C 0 3 dL_meanWeight_2 rfl rfl ?_
  refine V_callXr C hBA hE ml_L_121 (pre := [(o, aL g 1 f), (od, aD g 1 fd)]) (post := []) (wc := xW g A x) (w1 := xW g A x) (rv := some (.double (mw k n))) (as := []) (rest := [.int (0 : Int32), .ref od]) (c_X3_meanWeight hst h0 hw hk hn n0) 2 6 (oW g A o od f fd x) dL_meanWeight_3 rfl ⟨Nat.le_of_ble_eq_true rfl, Nat.le_of_ble_eq_true rfl⟩ rfl (by rw [List.append_nil]) (by rw [List.append_nil]) (xW_fst _ _ _ _) rfl rfl rfl (Nat.le_of_ble_eq_true rfl) ⟨Nat.zero_le _, Nat.zero_le _⟩ ?_
  refine V_dast C hBA (f := fd) (n := 1) 1 7 _ dL_meanWeight_6 rfl rfl (by decide) rfl ?_
  refine V_goto C 13 dL_meanWeight_7 rfl ?_
  refine V_iconst C (0 : Int32) 14 dL_meanWeight_13 rfl rfl ?_
  exact V_nretI C Z (ty := .int) rfl rfl ⟨_, rfl, rfl, upD_0⟩ dL_meanWeight_14 (Nat.zero_le _) (Nat.zero_le _)
theorem w_meanWeightX {l : Launch} {D : va_G} {g : G0} {A : XA} {x : XV} {o od : Nat} {f : Nat → Int64} {fd : Nat → UInt64} (hst : l.stackTraces = false) (h0 : Bk_marks x.2.1 = 0) : CtH l D g yL_meanWeight cL_meanWeight 3 (some .int) [(0, 7, 10, 125)] (rmN 10 300 1 6) (oW g A o od f fd x) [.ref A.1, .ref od] (fun rv w1 => rv = some (.int 1) ∧ w1 = oW g A o od f fd x) 1 6 := by
  refine CtH.of (by decide) (Nat.le_of_ble_eq_true rfl) ?_
  intro K C Z htab hN hBA el eD ekn
  subst el
  subst eD
  have hlt : ∀ i, i < 3 → i < kn K := fun i h => by rw [ekn]; exact h
  have hE := Z.1.2.2.2.2.2
  show V K 0 0 (oW g A o od f fd x) [(0, .ref A.1), (1, .ref od)] [] 0
  refine V_aload_n C 1 1 dL_meanWeight_0 rfl rfl ?_
  refine V_iconst C (0 : Int32) 2 dL_meanWeight_1 rfl rfl ?_
  refine V_aload_n C 0 3 dL_meanWeight_2 rfl rfl ?_
  refine V_callXt C hBA hE ml_L_121 (pre := [(o, aL g 1 f), (od, aD g 1 fd)]) (post := []) (wc := xW g A x) (w1 := xW g A x) (E := "java/lang/ArithmeticException") (as := []) (rest := [.int (0 : Int32), .ref od]) (c_X3_meanWeightX hst h0) 2 (oW g A o od f fd x) dL_meanWeight_3 ⟨Nat.le_of_ble_eq_true rfl, Nat.le_of_ble_eq_true rfl⟩ rfl (by rw [List.append_nil]) (by rw [List.append_nil]) (xW_fst _ _ _ _) rfl rfl (Nat.le_of_ble_eq_true rfl) ⟨Nat.le_refl _, Nat.le_refl _⟩ ?_
  refine VX_catch C htab hN Z.1.2.2.1 (nm := "java/lang/ArithmeticException") [] (0, 7, 10, 125) [] rfl (fun z hz => absurd hz List.not_mem_nil) ⟨by decide, by decide⟩ (by decide) q1295 cs_ARE (fun q => ?_)
  refine V_astore_n C 11 ((2, .ref q) :: [(0, .ref A.1), (1, .ref od)]) dL_meanWeight_10 rfl (hlt 2 (by decide)) rfl ?_
  refine V_iconst C (1 : Int32) 12 dL_meanWeight_11 rfl rfl ?_
  exact V_nretI C Z (ty := .int) rfl rfl ⟨rfl, rfl⟩ dL_meanWeight_12 (Nat.le_refl _) (Nat.le_refl _)
theorem w_heldShare {l : Launch} {D : va_G} {g : G0} {A : XA} {x : XV} {k ps pe h : Nat} {o od : Nat} {f : Nat → Int64} {fd : Nat → UInt64} (hst : l.stackTraces = false) (hreq : f_X3_requireChapter x (nI k) = some (.inl (0, x))) (hk8 : k < 8) (hps : Bk_starts x.2.1 k = nI ps) (hpe : f_X0_endOf x.2.1 (nI k) = some (nI pe)) (hle : ps ≤ pe) (hpe1 : pe < 60) (hh : f_X0_heldPageByPage x.2.1 (nI k) = some (nI h)) (hh1 : h < 13) : CtH l D g yL_heldShare cL_heldShare 4 (some .int) [(0, 9, 12, 13)] (rmN 10 300 1 6) (oW g A o od f fd x) [.ref A.1, .int (nI k), .ref od] (fun rv w1 => ∃ fd', rv = some (.int 0) ∧ w1 = oW g A o od f fd' x ∧ fd' 0 = FP.f2d (fsh h (pe - ps + 1))) 1 6 := by
  refine CtH.of (by decide) (Nat.le_of_ble_eq_true rfl) ?_
  intro K C Z htab hN hBA el eD ekn
  subst el
  subst eD
  have hlt : ∀ i, i < 4 → i < kn K := fun i h => by rw [ekn]; exact h
  have hE := Z.1.2.2.2.2.2
  show V K 0 0 (oW g A o od f fd x) [(0, .ref A.1), (1, .int (nI k)), (2, .ref od)] [] 0
  refine V_aload_n C 2 1 dL_heldShare_0 rfl rfl ?_
  refine V_iconst C (0 : Int32) 2 dL_heldShare_1 rfl rfl ?_
  refine V_aload_n C 0 3 dL_heldShare_2 rfl rfl ?_
  refine V_iload_n C 1 4 dL_heldShare_3 rfl rfl ?_
  refine V_callXr C hBA hE ml_L_127 (pre := [(o, aL g 1 f), (od, aD g 1 fd)]) (post := []) (wc := xW g A x) (w1 := xW g A x) (rv := some (.float (fsh h (pe - ps + 1)))) (as := [.int (nI k)]) (rest := [.int (0 : Int32), .ref od]) (c_X3_heldShare hst hreq hk8 hps hpe hle hpe1 hh hh1) 2 7 (oW g A o od f fd x) dL_heldShare_4 rfl ⟨Nat.le_of_ble_eq_true rfl, Nat.le_of_ble_eq_true rfl⟩ rfl (by rw [List.append_nil]) (by rw [List.append_nil]) (xW_fst _ _ _ _) rfl rfl rfl (Nat.le_of_ble_eq_true rfl) ⟨Nat.zero_le _, Nat.zero_le _⟩ ?_
  refine V_f2d C 8 dL_heldShare_7 rfl (fsh_ok hh1 (by omega) (by omega)).2.1 ?_
  refine V_dast C hBA (f := fd) (n := 1) 1 9 _ dL_heldShare_8 rfl rfl (by decide) rfl ?_
  refine V_goto C 15 dL_heldShare_9 rfl ?_
  refine V_iconst C (0 : Int32) 16 dL_heldShare_15 rfl rfl ?_
  exact V_nretI C Z (ty := .int) rfl rfl ⟨_, rfl, rfl, upD_0⟩ dL_heldShare_16 (Nat.zero_le _) (Nat.zero_le _)
theorem w_heldShareX {l : Launch} {D : va_G} {g : G0} {A : XA} {x : XV} {a1 : Int32} {o od : Nat} {f : Nat → Int64} {fd : Nat → UInt64} (hst : l.stackTraces = false) (hreq : f_X3_requireChapter x a1 = some (.inr (IOOBE, x))) : CtH l D g yL_heldShare cL_heldShare 4 (some .int) [(0, 9, 12, 13)] (rmN 10 300 1 6) (oW g A o od f fd x) [.ref A.1, .int a1, .ref od] (fun rv w1 => rv = some (.int 1) ∧ w1 = oW g A o od f fd x) 1 6 := by
  refine CtH.of (by decide) (Nat.le_of_ble_eq_true rfl) ?_
  intro K C Z htab hN hBA el eD ekn
  subst el
  subst eD
  have hlt : ∀ i, i < 4 → i < kn K := fun i h => by rw [ekn]; exact h
  have hE := Z.1.2.2.2.2.2
  show V K 0 0 (oW g A o od f fd x) [(0, .ref A.1), (1, .int a1), (2, .ref od)] [] 0
  refine V_aload_n C 2 1 dL_heldShare_0 rfl rfl ?_
  refine V_iconst C (0 : Int32) 2 dL_heldShare_1 rfl rfl ?_
  refine V_aload_n C 0 3 dL_heldShare_2 rfl rfl ?_
  refine V_iload_n C 1 4 dL_heldShare_3 rfl rfl ?_
  refine V_callXt C hBA hE ml_L_127 (pre := [(o, aL g 1 f), (od, aD g 1 fd)]) (post := []) (wc := xW g A x) (w1 := xW g A x) (E := IOOBE) (as := [.int a1]) (rest := [.int (0 : Int32), .ref od]) (c_X3_heldShareX hst hreq) 2 (oW g A o od f fd x) dL_heldShare_4 ⟨Nat.le_of_ble_eq_true rfl, Nat.le_of_ble_eq_true rfl⟩ rfl (by rw [List.append_nil]) (by rw [List.append_nil]) (xW_fst _ _ _ _) rfl rfl (Nat.le_of_ble_eq_true rfl) ⟨Nat.le_refl _, Nat.le_refl _⟩ ?_
  refine VX_catch C htab hN Z.1.2.2.1 (nm := IOOBE) [] (0, 9, 12, 13) [] rfl (fun z hz => absurd hz List.not_mem_nil) ⟨by decide, by decide⟩ (by decide) q800 cs_IOOBE (fun q => ?_)
  refine V_astore_n C 13 ((3, .ref q) :: [(0, .ref A.1), (1, .int a1), (2, .ref od)]) dL_heldShare_12 rfl (hlt 3 (by decide)) rfl ?_
  refine V_iconst C (1 : Int32) 14 dL_heldShare_13 rfl rfl ?_
  exact V_nretI C Z (ty := .int) rfl rfl ⟨rfl, rfl⟩ dL_heldShare_14 (Nat.le_refl _) (Nat.le_refl _)
set_option maxRecDepth 100000 in
theorem w_writeChapter {l : Launch} {D : va_G} {g : G0} {A : XA} {x : XV} {q k ps pe : Nat} {sb : SbV} {T : List Nat} {L : List M5} {inM : M5 → Bool} {o od : Nat} {f : Nat → Int64} {fd : Nat → UInt64} (hst : l.stackTraces = false) (h1 : hM x.2.1 L) (b : bL L) (hreq : f_X3_requireChapter (xS x sb) (nI k) = some (.inl (0, xS x sb))) (hk8 : k < 8) (hps : Bk_starts x.2.1 k = nI ps) (hps1 : ps < 100) (hpe : f_X0_endOf x.2.1 (nI k) = some (nI pe)) (hpe1 : pe < 100) (hin : ∀ (i : Nat) (z : M5), L[i]? = some z → f_X0_isIn x.2.1 (nI i) (nI k) = some (b2 (inM z))) (hT : SBT sb T) : CtH l D g yL_writeChapter cL_writeChapter 4 (some .int) [(0, 9, 12, 13)] (rmN 10 300 64 9088) (oW g (aS A q) o od f fd (xS x sb)) [.ref A.1, .int (nI k), .ref o] (fun rv w1 => ∃ f' q' sb', rv = some (.int 0) ∧ w1 = oW g (aS A q') o od f' fd (xS x sb') ∧ f' 0 = (nI (L.foldl (markT inM) ([] ++ digs ps ++ [45] ++ digs pe)).length).toInt64 ∧ SBT sb' (L.foldl (markT inM) ([] ++ digs ps ++ [45] ++ digs pe))) 64 9088 := by
  refine CtH.of (by decide) (Nat.le_of_ble_eq_true rfl) ?_
  intro K C Z htab hN hBA el eD ekn
  subst el
  subst eD
  have hlt : ∀ i, i < 4 → i < kn K := fun i h => by rw [ekn]; exact h
  have hE := Z.1.2.2.2.2.2
  show V K 0 0 (oW g (aS A q) o od f fd (xS x sb)) [(0, .ref A.1), (1, .int (nI k)), (2, .ref o)] [] 0
  refine V_aload_n C 2 1 dL_writeChapter_0 rfl rfl ?_
  refine V_iconst C (0 : Int32) 2 dL_writeChapter_1 rfl rfl ?_
  refine V_aload_n C 0 3 dL_writeChapter_2 rfl rfl ?_
  refine V_iload_n C 1 4 dL_writeChapter_3 rfl rfl ?_
  refine V_callN (as := [.int (nI k)]) (pre := [(o, aL g 1 f), (od, aD g 1 fd)]) (post := []) (w0 := xW g (aS A q) (xS x sb)) (rest := [.int (0 : Int32), .ref o]) C hBA Z.1 ml_L_131 (c_wrChapter hst h1 b hreq hk8 hps hps1 hpe hpe1 hin hT) 2 dL_writeChapter_4 ⟨Nat.le_of_ble_eq_true rfl, Nat.le_of_ble_eq_true rfl⟩ rfl (by rw [List.append_nil]) rfl rfl (Nat.le_of_ble_eq_true rfl) ⟨Nat.le_refl _, Nat.le_refl _⟩ (fun rv w1 hP => ?_)
  obtain ⟨rfl, q2, sb2, rfl, hT2⟩ := hP
  refine V_eq (ws2 := oW g (aS A q2) o od f fd (xS x sb2)) (by rw [List.append_nil]) ?_
  refine V_i2l C 8 dL_writeChapter_7 rfl ?_
  refine V_last C hBA (f := f) (n := 1) 0 9 _ dL_writeChapter_8 rfl rfl (by decide) rfl ?_
  refine V_goto C 15 dL_writeChapter_9 rfl ?_
  refine V_iconst C (0 : Int32) 16 dL_writeChapter_15 rfl rfl ?_
  exact V_nretI C Z (ty := .int) rfl rfl ⟨_, q2, sb2, rfl, rfl, upL_0, hT2⟩ dL_writeChapter_16 (Nat.le_refl _) (Nat.le_refl _)
theorem w_writeChapterX {l : Launch} {D : va_G} {g : G0} {A : XA} {x : XV} {a1 : Int32} {o od : Nat} {f : Nat → Int64} {fd : Nat → UInt64} (hst : l.stackTraces = false) (hreq : f_X3_requireChapter x a1 = some (.inr (IOOBE, x))) : CtH l D g yL_writeChapter cL_writeChapter 4 (some .int) [(0, 9, 12, 13)] (rmN 10 300 1 6) (oW g A o od f fd x) [.ref A.1, .int a1, .ref o] (fun rv w1 => rv = some (.int 1) ∧ w1 = oW g A o od f fd x) 1 6 := by
  refine CtH.of (by decide) (Nat.le_of_ble_eq_true rfl) ?_
  intro K C Z htab hN hBA el eD ekn
  subst el
  subst eD
  have hlt : ∀ i, i < 4 → i < kn K := fun i h => by rw [ekn]; exact h
  have hE := Z.1.2.2.2.2.2
  show V K 0 0 (oW g A o od f fd x) [(0, .ref A.1), (1, .int a1), (2, .ref o)] [] 0
  refine V_aload_n C 2 1 dL_writeChapter_0 rfl rfl ?_
  refine V_iconst C (0 : Int32) 2 dL_writeChapter_1 rfl rfl ?_
  refine V_aload_n C 0 3 dL_writeChapter_2 rfl rfl ?_
  refine V_iload_n C 1 4 dL_writeChapter_3 rfl rfl ?_
  refine V_callXt C hBA hE ml_L_131 (pre := [(o, aL g 1 f), (od, aD g 1 fd)]) (post := []) (wc := xW g A x) (w1 := xW g A x) (E := IOOBE) (as := [.int a1]) (rest := [.int (0 : Int32), .ref o]) (c_wrChapterX hst hreq) 2 (oW g A o od f fd x) dL_writeChapter_4 ⟨Nat.le_of_ble_eq_true rfl, Nat.le_of_ble_eq_true rfl⟩ rfl (by rw [List.append_nil]) (by rw [List.append_nil]) (xW_fst _ _ _ _) rfl rfl (Nat.le_of_ble_eq_true rfl) ⟨Nat.le_refl _, Nat.le_refl _⟩ ?_
  refine VX_catch C htab hN Z.1.2.2.1 (nm := IOOBE) [] (0, 9, 12, 13) [] rfl (fun z hz => absurd hz List.not_mem_nil) ⟨by decide, by decide⟩ (by decide) q800 cs_IOOBE (fun q => ?_)
  refine V_astore_n C 13 ((3, .ref q) :: [(0, .ref A.1), (1, .int a1), (2, .ref o)]) dL_writeChapter_12 rfl (hlt 3 (by decide)) rfl ?_
  refine V_iconst C (1 : Int32) 14 dL_writeChapter_13 rfl rfl ?_
  exact V_nretI C Z (ty := .int) rfl rfl ⟨rfl, rfl⟩ dL_writeChapter_14 (Nat.le_refl _) (Nat.le_refl _)
theorem w_outputAt {l : Launch} {D : va_G} {g : G0} {A : XA} {x : XV} {q i c : Nat} {sb : SbV} {T : List Nat} {o od : Nat} {f : Nat → Int64} {fd : Nat → UInt64} (hT : SBT sb T) (hi : T[i]? = some c) (hc : c < 128) (hl : T.length < 2 ^ 31) : CtH l D g yL_outputAt cL_outputAt 4 (some .int) [(0, 9, 12, 13)] (rmN 10 300 1 6) (oW g (aS A q) o od f fd (xS x sb)) [.ref A.1, .int (nI i), .ref o] (fun rv w1 => ∃ f', rv = some (.int 0) ∧ w1 = oW g (aS A q) o od f' fd (xS x sb) ∧ f' 0 = (nI c).toInt64) 1 6 := by
  refine CtH.of (by decide) (Nat.le_of_ble_eq_true rfl) ?_
  intro K C Z htab hN hBA el eD ekn
  subst el
  subst eD
  have hlt : ∀ i, i < 4 → i < kn K := fun i h => by rw [ekn]; exact h
  have hE := Z.1.2.2.2.2.2
  show V K 0 0 (oW g (aS A q) o od f fd (xS x sb)) [(0, .ref A.1), (1, .int (nI i)), (2, .ref o)] [] 0
  refine V_aload_n C 2 1 dL_outputAt_0 rfl rfl ?_
  refine V_iconst C (0 : Int32) 2 dL_outputAt_1 rfl rfl ?_
  refine V_aload_n C 0 3 dL_outputAt_2 rfl rfl ?_
  refine V_iload_n C 1 4 dL_outputAt_3 rfl rfl ?_
  refine V_callN (as := [.int (nI i)]) (pre := [(o, aL g 1 f), (od, aD g 1 fd)]) (post := []) (w0 := xW g (aS A q) (xS x sb)) (rest := [.int (0 : Int32), .ref o]) C hBA Z.1 ml_L_134 (c_outAt hT hi hc hl) 2 dL_outputAt_4 ⟨Nat.le_of_ble_eq_true rfl, Nat.le_of_ble_eq_true rfl⟩ rfl (by rw [List.append_nil]) rfl rfl (Nat.le_of_ble_eq_true rfl) ⟨Nat.zero_le _, Nat.zero_le _⟩ (fun rv w1 hP => ?_)
  obtain ⟨rfl, rfl⟩ := hP
  refine V_eq (ws2 := oW g (aS A q) o od f fd (xS x sb)) (by rw [List.append_nil]) ?_
  refine V_i2l C 8 dL_outputAt_7 rfl ?_
  refine V_last C hBA (f := f) (n := 1) 0 9 _ dL_outputAt_8 rfl rfl (by decide) rfl ?_
  refine V_goto C 15 dL_outputAt_9 rfl ?_
  refine V_iconst C (0 : Int32) 16 dL_outputAt_15 rfl rfl ?_
  exact V_nretI C Z (ty := .int) rfl rfl ⟨_, rfl, rfl, upL_0⟩ dL_outputAt_16 (Nat.zero_le _) (Nat.zero_le _)
theorem w_outputAtX {l : Launch} {D : va_G} {g : G0} {A : XA} {x : XV} {q : Nat} {a1 : Int32} {sb : SbV} {T : List Nat} {o od : Nat} {f : Nat → Int64} {fd : Nat → UInt64} (hst : l.stackTraces = false) (hT : SBT sb T) (hbad : a1 < 0 ∨ ¬ a1 < nI T.length) : CtH l D g yL_outputAt cL_outputAt 4 (some .int) [(0, 9, 12, 13)] (rmN 10 300 1 6) (oW g (aS A q) o od f fd (xS x sb)) [.ref A.1, .int a1, .ref o] (fun rv w1 => rv = some (.int 1) ∧ w1 = oW g (aS A q) o od f fd (xS x sb)) 1 6 := by
  refine CtH.of (by decide) (Nat.le_of_ble_eq_true rfl) ?_
  intro K C Z htab hN hBA el eD ekn
  subst el
  subst eD
  have hlt : ∀ i, i < 4 → i < kn K := fun i h => by rw [ekn]; exact h
  have hE := Z.1.2.2.2.2.2
  show V K 0 0 (oW g (aS A q) o od f fd (xS x sb)) [(0, .ref A.1), (1, .int a1), (2, .ref o)] [] 0
  refine V_aload_n C 2 1 dL_outputAt_0 rfl rfl ?_
  refine V_iconst C (0 : Int32) 2 dL_outputAt_1 rfl rfl ?_
  refine V_aload_n C 0 3 dL_outputAt_2 rfl rfl ?_
  refine V_iload_n C 1 4 dL_outputAt_3 rfl rfl ?_
  refine V_callZ C hBA Z.1 ml_L_134 (pre := [(o, aL g 1 f), (od, aD g 1 fd)]) (post := []) (wc := xW g (aS A q) (xS x sb)) (as := [.int a1]) (rest := [.int (0 : Int32), .ref o]) (c_outAtX hst hT hbad) 2 dL_outputAt_4 ⟨Nat.le_of_ble_eq_true rfl, Nat.le_of_ble_eq_true rfl⟩ rfl (by rw [List.append_nil]) rfl rfl (Nat.le_of_ble_eq_true rfl) ⟨Nat.le_refl _, Nat.le_refl _⟩ (fun rv w1 h => by cases h) (fun E w1 h => ?_)
  cases h
  refine ⟨rfl, ?_⟩
  have key : VX K (0 + 1) (0 + 6) (oW g (aS A q) o od f fd (xS x sb)) [(0, .ref A.1), (1, .int a1), (2, .ref o)] IOOBE 4 := by
    refine VX_catch C htab hN Z.1.2.2.1 (nm := IOOBE) [] (0, 9, 12, 13) [] rfl (fun z hz => absurd hz List.not_mem_nil) ⟨by decide, by decide⟩ (by decide) q800 cs_IOOBE (fun q => ?_)
    refine V_astore_n C 13 ((3, .ref q) :: [(0, .ref A.1), (1, .int a1), (2, .ref o)]) dL_outputAt_12 rfl (hlt 3 (by decide)) rfl ?_
    refine V_iconst C (1 : Int32) 14 dL_outputAt_13 rfl rfl ?_
    exact V_nretI C Z (ty := .int) rfl rfl ⟨rfl, rfl⟩ dL_outputAt_14 (Nat.le_refl _) (Nat.le_refl _)
  have e9 : ([(o, aL g 1 f), (od, aD g 1 fd)] : va_W) ++ (xW g (aS A q) (xS x sb) ++ []) = oW g (aS A q) o od f fd (xS x sb) := by rw [List.append_nil]
  rw [e9]
  exact key
