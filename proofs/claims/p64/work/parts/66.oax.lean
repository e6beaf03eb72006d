/-! ===== a letter that is not there ===== -/
theorem tl_X3_106_110_250 : TL RX3 106 110 250 "java/lang/IndexOutOfBoundsException" "no character at this index" := ⟨by decide +kernel, q817, q68, at_X3_110, List.mem_of_getElem? (i := 11) rfl⟩
theorem c_outAtX {l : Launch} {D : va_G} {g : G0} {A : XA} {x : XV} {q : Nat} {a1 : Int32} {sb : SbV} {T : List Nat} (hst : l.stackTraces = false) (hT : SBT sb T) (hbad : a1 < 0 ∨ ¬ a1 < nI T.length) : CtZ l D g yX3_outputAt cX3_outputAt 2 (some .char) (rmX 8 240 (.inr (IOOBE, xW g (aS A q) (xS x sb)))) (xW g (aS A q) (xS x sb)) [.ref A.1, .int a1] (.inr (IOOBE, xW g (aS A q) (xS x sb))) := by
  refine CtZ.of (by decide) (Nat.le_of_ble_eq_true rfl) hst ?_
  intro K C Z hE hBA el eD ekn
  subst el
  subst eD
  show V K 0 0 (xW g (aS A q) (xS x sb)) [(0, .ref A.1), (1, .int a1)] [] 0
  have bad : V K 0 0 (xW g (aS A q) (xS x sb)) [(0, .ref A.1), (1, .int a1)] [] 15 := V_throw C Z tl_X3_106_110_250 dX3_outputAt_15 dX3_outputAt_18 dX3_outputAt_19 dX3_outputAt_21 dX3_outputAt_24 ⟨Nat.le_of_ble_eq_true rfl, Nat.le_of_ble_eq_true rfl, Nat.le_refl _, Nat.le_refl _⟩ rfl (Nat.le_refl _) (Nat.le_refl _)
  refine V_iload_n C 1 1 dX3_outputAt_0 rfl rfl ?_
  refine V_if_lt C 15 4 dX3_outputAt_1 rfl rfl (fun _ => bad) (fun e0 => ?_)
  refine V_iload_n C 1 5 dX3_outputAt_4 rfl rfl ?_
  refine V_aload_n C 0 6 dX3_outputAt_5 rfl rfl ?_
  refine V_get C (v := .ref A.2.2.2.2.2.2.1.1) 0 9 fl_X3_39 dX3_outputAt_6 rfl rfl rfl ?_
  refine V_outN C hBA hE hT dX3_outputAt_9 ⟨Nat.le_of_ble_eq_true rfl, Nat.le_of_ble_eq_true rfl⟩ (by exact (by decide : (1 : Nat) ≤ 8)) ⟨Nat.zero_le _, Nat.zero_le _⟩ 12 rfl ?_
  refine V_icmp_lt C 25 15 dX3_outputAt_12 rfl rfl (fun e => ?_) (fun _ => bad)
  rcases hbad with h | h
  · exact absurd h e0
  · exact absurd e h
