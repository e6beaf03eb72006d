/-! ===== a chapter that is not there; a letter that is there ===== -/
set_option maxRecDepth 100000 in
theorem c_wrChapterX {l : Launch} {D : va_G} {g : G0} {A : XA} {v : XV} {a1 : Int32} (hst : l.stackTraces = false) (hreq : f_X3_requireChapter v a1 = some (.inr (IOOBE, v))) : CtX l D g yX3_writeChapter cX3_writeChapter 3 (some .int) (rmX 8 240 (.inr (IOOBE, xW g A v))) (xW g A v) [.ref A.1, .int a1] (.inr (IOOBE, xW g A v)) := by
  refine CtX.of (by decide) (Nat.le_of_ble_eq_true rfl) hst ?_
  intro K C Z hBA el eD ekn
  subst el
  subst eD
  have hE := Z.2.2.1
  show V K 0 0 _ [(0, .ref A.1), (1, .int a1)] [] 0
  refine V_aload_n C 0 1 dX3_writeChapter_0 rfl rfl ?_
  refine V_iload_n C 1 2 dX3_writeChapter_1 rfl rfl ?_
  refine V_callXt C hBA hE ml_X3_132 (pre := []) (post := []) (wc := xW g A v) (as := [.int a1]) (rest := []) (w1 := xW g A v) (E := IOOBE) (c_X3_requireChapter (R := .inr (IOOBE, v)) hst hreq) 0 (xW g A v) dX3_writeChapter_2 ⟨Nat.le_of_ble_eq_true rfl, Nat.le_of_ble_eq_true rfl⟩ rfl (List.append_nil _).symm (List.append_nil _) (xW_fst _ _ _ _) rfl rfl (Nat.le_of_ble_eq_true rfl) ⟨Nat.le_refl _, Nat.le_refl _⟩ ?_
  exact VX_out C Z rfl (Nat.le_refl _) (Nat.le_refl _)
theorem c_outAt {l : Launch} {D : va_G} {g : G0} {A : XA} {x : XV} {q i c : Nat} {sb : SbV} {T : List Nat} (hT : SBT sb T) (hi : T[i]? = some c) (hc : c < 128) (hl : T.length < 2 ^ 31) : CtN l D g yX3_outputAt cX3_outputAt 2 (some .char) (rmN 8 240 0 0) (xW g (aS A q) (xS x sb)) [.ref A.1, .int (nI i)] (fun rv w1 => rv = some (.int (nI c)) ∧ w1 = xW g (aS A q) (xS x sb)) 0 0 := by
  refine CtN.of (by decide) (Nat.le_of_ble_eq_true rfl) ?_
  intro K C Z hBA el eD ekn
  subst el
  subst eD
  have hlt := lt_get hi
  show V K 0 0 (xW g (aS A q) (xS x sb)) [(0, .ref A.1), (1, .int (nI i))] [] 0
  refine V_iload_n C 1 1 dX3_outputAt_0 rfl rfl ?_
  refine V_if_lt C 15 4 dX3_outputAt_1 rfl rfl (fun e => absurd e (nI_pos (by omega))) (fun _ => ?_)
  refine V_iload_n C 1 5 dX3_outputAt_4 rfl rfl ?_
  refine V_aload_n C 0 6 dX3_outputAt_5 rfl rfl ?_
  refine V_get C (v := .ref A.2.2.2.2.2.2.1.1) 0 9 fl_X3_39 dX3_outputAt_6 rfl rfl rfl ?_
  refine V_outN C hBA Z.1 hT dX3_outputAt_9 ⟨by decide, by decide⟩ (by exact (by decide : (1 : Nat) ≤ 8)) ⟨Nat.zero_le _, Nat.zero_le _⟩ 12 rfl ?_
  refine V_icmp_lt C 25 15 dX3_outputAt_12 rfl rfl (fun _ => ?_) (fun e => absurd (nI_lt hlt hl) e)
  refine V_aload_n C 0 26 dX3_outputAt_25 rfl rfl ?_
  refine V_get C (v := .ref A.2.2.2.2.2.2.1.1) 0 29 fl_X3_39 dX3_outputAt_26 rfl rfl rfl ?_
  refine V_iload_n C 1 30 dX3_outputAt_29 rfl rfl ?_
  refine V_outAt C hBA Z.1 hT hi dX3_outputAt_30 ⟨by decide, by decide⟩ (by exact (by decide : (0 : Nat) ≤ 8)) ⟨Nat.zero_le _, Nat.zero_le _⟩ 33 rfl ?_
  exact V_nretI C Z rfl (nar_c hc) ⟨rfl, rfl⟩ dX3_outputAt_33 (Nat.le_refl _) (Nat.le_refl _)
