/-! ===== meanWeight, heldShare: both sides ===== -/
abbrev cX3_meanWeight : ByteArray := prog_1_method_47_code
def yX3_meanWeight : MethodName := ⟨RX3, "meanWeight", "()D"⟩
abbrev cX3_heldShare : ByteArray := prog_1_method_48_code
def yX3_heldShare : MethodName := ⟨RX3, "heldShare", "(I)F"⟩
theorem dX3_meanWeight_0 : decode cX3_meanWeight 0 = .ok (.aload_n 0, 1) := by decide +kernel
theorem dX3_meanWeight_1 : decode cX3_meanWeight 1 = .ok (.getfield 10, 3) := by decide +kernel
theorem dX3_meanWeight_4 : decode cX3_meanWeight 4 = .ok (.getfield 178, 3) := by decide +kernel
theorem dX3_meanWeight_7 : decode cX3_meanWeight 7 = .ok (.ifCond .ne 13, 3) := by decide +kernel
theorem dX3_meanWeight_10 : decode cX3_meanWeight 10 = .ok (.new 209, 3) := by decide +kernel
theorem dX3_meanWeight_13 : decode cX3_meanWeight 13 = .ok (.dup, 1) := by decide +kernel
theorem dX3_meanWeight_14 : decode cX3_meanWeight 14 = .ok (.ldc 211, 2) := by decide +kernel
theorem dX3_meanWeight_16 : decode cX3_meanWeight 16 = .ok (.invokespecial 213, 3) := by decide +kernel
theorem dX3_meanWeight_19 : decode cX3_meanWeight 19 = .ok (.athrow, 1) := by decide +kernel
theorem dX3_meanWeight_20 : decode cX3_meanWeight 20 = .ok (.aload_n 0, 1) := by decide +kernel
theorem dX3_meanWeight_21 : decode cX3_meanWeight 21 = .ok (.getfield 10, 3) := by decide +kernel
theorem dX3_meanWeight_24 : decode cX3_meanWeight 24 = .ok (.invokevirtual 214, 3) := by decide +kernel
theorem dX3_meanWeight_27 : decode cX3_meanWeight 27 = .ok (.i2d, 1) := by decide +kernel
theorem dX3_meanWeight_28 : decode cX3_meanWeight 28 = .ok (.aload_n 0, 1) := by decide +kernel
theorem dX3_meanWeight_29 : decode cX3_meanWeight 29 = .ok (.getfield 10, 3) := by decide +kernel
theorem dX3_meanWeight_32 : decode cX3_meanWeight 32 = .ok (.getfield 178, 3) := by decide +kernel
theorem dX3_meanWeight_35 : decode cX3_meanWeight 35 = .ok (.i2d, 1) := by decide +kernel
theorem dX3_meanWeight_36 : decode cX3_meanWeight 36 = .ok (.ddiv, 1) := by decide +kernel
theorem dX3_meanWeight_37 : decode cX3_meanWeight 37 = .ok (.dreturn, 1) := by decide +kernel
theorem dX3_heldShare_0 : decode cX3_heldShare 0 = .ok (.aload_n 0, 1) := by decide +kernel
theorem dX3_heldShare_1 : decode cX3_heldShare 1 = .ok (.iload_n 1, 1) := by decide +kernel
theorem dX3_heldShare_2 : decode cX3_heldShare 2 = .ok (.invokevirtual 132, 3) := by decide +kernel
theorem dX3_heldShare_5 : decode cX3_heldShare 5 = .ok (.aload_n 0, 1) := by decide +kernel
theorem dX3_heldShare_6 : decode cX3_heldShare 6 = .ok (.getfield 10, 3) := by decide +kernel
theorem dX3_heldShare_9 : decode cX3_heldShare 9 = .ok (.iload_n 1, 1) := by decide +kernel
theorem dX3_heldShare_10 : decode cX3_heldShare 10 = .ok (.invokevirtual 138, 3) := by decide +kernel
theorem dX3_heldShare_13 : decode cX3_heldShare 13 = .ok (.aload_n 0, 1) := by decide +kernel
theorem dX3_heldShare_14 : decode cX3_heldShare 14 = .ok (.getfield 10, 3) := by decide +kernel
theorem dX3_heldShare_17 : decode cX3_heldShare 17 = .ok (.getfield 135, 3) := by decide +kernel
theorem dX3_heldShare_20 : decode cX3_heldShare 20 = .ok (.iload_n 1, 1) := by decide +kernel
theorem dX3_heldShare_21 : decode cX3_heldShare 21 = .ok (.iaload, 1) := by decide +kernel
theorem dX3_heldShare_22 : decode cX3_heldShare 22 = .ok (.isub, 1) := by decide +kernel
theorem dX3_heldShare_23 : decode cX3_heldShare 23 = .ok (.iconst 1, 1) := by decide +kernel
theorem dX3_heldShare_24 : decode cX3_heldShare 24 = .ok (.iadd, 1) := by decide +kernel
theorem dX3_heldShare_25 : decode cX3_heldShare 25 = .ok (.istore_n 2, 1) := by decide +kernel
theorem dX3_heldShare_26 : decode cX3_heldShare 26 = .ok (.iload_n 2, 1) := by decide +kernel
theorem dX3_heldShare_27 : decode cX3_heldShare 27 = .ok (.ifCond .le 18, 3) := by decide +kernel
theorem dX3_heldShare_30 : decode cX3_heldShare 30 = .ok (.aload_n 0, 1) := by decide +kernel
theorem dX3_heldShare_31 : decode cX3_heldShare 31 = .ok (.getfield 10, 3) := by decide +kernel
theorem dX3_heldShare_34 : decode cX3_heldShare 34 = .ok (.iload_n 1, 1) := by decide +kernel
theorem dX3_heldShare_35 : decode cX3_heldShare 35 = .ok (.invokevirtual 141, 3) := by decide +kernel
theorem dX3_heldShare_38 : decode cX3_heldShare 38 = .ok (.i2f, 1) := by decide +kernel
theorem dX3_heldShare_39 : decode cX3_heldShare 39 = .ok (.iload_n 2, 1) := by decide +kernel
theorem dX3_heldShare_40 : decode cX3_heldShare 40 = .ok (.i2f, 1) := by decide +kernel
theorem dX3_heldShare_41 : decode cX3_heldShare 41 = .ok (.fdiv, 1) := by decide +kernel
theorem dX3_heldShare_42 : decode cX3_heldShare 42 = .ok (.goto 4, 3) := by decide +kernel
theorem dX3_heldShare_45 : decode cX3_heldShare 45 = .ok (.fconst 0, 1) := by decide +kernel
theorem dX3_heldShare_46 : decode cX3_heldShare 46 = .ok (.freturn, 1) := by decide +kernel
theorem q1313 : Cond.classLink "BookmarkManager" 209 "java/lang/ArithmeticException" ∈ wU := mU 579 (by decide +kernel) (by decide +kernel)
theorem q74 : Cond.initialized "java/lang/ArithmeticException" ∈ wU := mU 38 (by decide +kernel) (by decide +kernel)
theorem q1316 : Cond.methodLink "BookmarkManager" 214 yX0_weightOfAll ∈ wU := mU 595 (by decide +kernel) (by decide +kernel)
theorem at_X3_213 : ∀ w ∈ vx_atS "BookmarkManager" 213 "java/lang/ArithmeticException" ["java/lang/RuntimeException", "java/lang/Exception"], w ∈ wU ∨ w ∈ nwW := at_of [21, 254, 263, 271, 274, 276, 255, 256, 45, 46, 257, 262, 272, 292, 244, 293, 246, 294, 248, 258, 260, 250, 288, 289, 291, 250, 590, 591, 592, 282, 236, 282, 283, 284, 285, 238, 285, 286, 287, 288, 240, 589, 580, 581, 582, 265, 583, 584, 585, 586, 253, 252, 587] (by decide +kernel) (by decide +kernel)
theorem tl_X3_209_213_211 : TL RX3 209 213 211 "java/lang/ArithmeticException" "there are no marks" := ⟨by decide +kernel, q1313, q74, at_X3_213, List.mem_of_getElem? (i := 10) rfl⟩
theorem ml_X3_214 : CLv RX3 214 0 yX0_weightOfAll cX0_weightOfAll 3 (some .int) 0 := CLv.of TX0 13 ⟨by decide, by decide, by decide +kernel⟩ rfl q1316 q385 q386 q57 q387
def mw (k n : Nat) : UInt64 := FP.ddiv (FP.i2d (nI k)) (FP.i2d (nI n))
def fsh (h w : Nat) : UInt32 := FP.fdiv (FP.i2f (nI h)) (FP.i2f (nI w))
theorem mw_all : ∀ k : Fin 109, ∀ n : Fin 13, n.val = 0 ∨ (FP.ddiv (FP.i2d (nI k.val)) (FP.i2d (nI n.val)) &&& 0x7fffffffffffffff ≤ 0x7ff0000000000000 ∧ Op.cmpValue (FP.dcmp (FP.ddiv (FP.i2d (nI k.val)) (FP.i2d (nI n.val))) (FP.ddiv (FP.i2d (nI k.val)) (FP.i2d (nI n.val)))) .l = 0) := by decide +kernel
theorem fsh_all : ∀ k : Fin 13, ∀ n : Fin 61, n.val = 0 ∨ (FP.fdiv (FP.i2f (nI k.val)) (FP.i2f (nI n.val)) &&& 0x7fffffff ≤ 0x7f800000 ∧ FP.f2d (FP.fdiv (FP.i2f (nI k.val)) (FP.i2f (nI n.val))) &&& 0x7fffffffffffffff ≤ 0x7ff0000000000000 ∧ Op.cmpValue (FP.dcmp (FP.f2d (FP.fdiv (FP.i2f (nI k.val)) (FP.i2f (nI n.val)))) (FP.f2d (FP.fdiv (FP.i2f (nI k.val)) (FP.i2f (nI n.val))))) .l = 0) := by decide +kernel
theorem mw_ok {k n : Nat} (hk : k < 109) (hn : n < 13) (h0 : n ≠ 0) : vf_n64 (mw k n) ∧ Op.cmpValue (FP.dcmp (mw k n) (mw k n)) .l = 0 := (mw_all ⟨k, hk⟩ ⟨n, hn⟩).resolve_left h0
theorem fsh_ok {k n : Nat} (hk : k < 13) (hn : n < 61) (h0 : n ≠ 0) : vf_n32 (fsh k n) ∧ vf_n64 (FP.f2d (fsh k n)) ∧ Op.cmpValue (FP.dcmp (FP.f2d (fsh k n)) (FP.f2d (fsh k n))) .l = 0 := (fsh_all ⟨k, hk⟩ ⟨n, hn⟩).resolve_left h0
section DROWS
variable {K : KT} {cc : ByteArray} {own : String} {rm : Room} {g : G0} {cells slots : Nat} {ws ws' w0 : va_W} {lv lv' : List (Nat × Value)} {st rest : List Value} {pc : Nat} {R : RX9} {ret : Option FieldType} {P : Option Value → va_W → Prop} {mc ms : Nat}
theorem V_xretD (C : KX K cc own rm g) (Z : KZ K R w0 ret) {v : UInt64} (hret : ret = some .double) (hR : R = .inl (some (.double v), ws)) (hd : decode cc pc = .ok (.dreturn, 1)) (hc : cells ≤ mcR R) (hs : slots ≤ msR R) : V K cells slots ws lv [.double v] pc := by
  obtain ⟨z1, z2, z3, z4, z5, z6, z7⟩ := Z
  intro H locs ls hP hD hS hl
  rw [z4]
  refine W.widen hc hs ?_
  refine vx_ret ?_
  exact W.dret C.1 C.2.1 (by rw [z7]; exact hret) (fun t ht hW => ⟨some (.double v), ws, hR, rfl, by rw [ht]; exact hP, by rw [← z5]; exact hS.F ht⟩) (by rw [← z5]; exact hS.2.2) hd z6
theorem V_xretF (C : KX K cc own rm g) (Z : KZ K R w0 ret) {v : UInt32} (hret : ret = some .float) (hR : R = .inl (some (.float v), ws)) (hd : decode cc pc = .ok (.freturn, 1)) (hc : cells ≤ mcR R) (hs : slots ≤ msR R) : V K cells slots ws lv [.float v] pc := by
  obtain ⟨z1, z2, z3, z4, z5, z6, z7⟩ := Z
  intro H locs ls hP hD hS hl
  rw [z4]
  refine W.widen hc hs ?_
  refine vx_ret ?_
  exact W.fret C.1 C.2.1 (by rw [z7]; exact hret) (fun t ht hW => ⟨some (.float v), ws, hR, rfl, by rw [ht]; exact hP, by rw [← z5]; exact hS.F ht⟩) (by rw [← z5]; exact hS.2.2) hd z6
theorem V_nretD (C : KX K cc own rm g) (Z : KN K P w0 ret mc ms) {v : UInt64} (hret : ret = some .double) (hR : P (some (.double v)) ws) (hd : decode cc pc = .ok (.dreturn, 1)) (hc : cells ≤ mc) (hs : slots ≤ ms) : V K cells slots ws lv [.double v] pc := by
  obtain ⟨z1, z4, z5, z8, z6, z7⟩ := Z
  intro H locs ls hP hD hS hl
  rw [z4]
  refine W.widen hc hs ?_
  exact W.dret C.1 C.2.1 (by rw [z7]; exact hret) (fun t ht hW => ⟨some (.double v), ws, hR, rfl, by rw [ht]; exact hP, by rw [← z5, ← z8]; exact hD, by rw [← z5]; exact hS.F ht⟩) (by rw [← z5]; exact hS.2.2) hd z6
theorem V_nretF (C : KX K cc own rm g) (Z : KN K P w0 ret mc ms) {v : UInt32} (hret : ret = some .float) (hR : P (some (.float v)) ws) (hd : decode cc pc = .ok (.freturn, 1)) (hc : cells ≤ mc) (hs : slots ≤ ms) : V K cells slots ws lv [.float v] pc := by
  obtain ⟨z1, z4, z5, z8, z6, z7⟩ := Z
  intro H locs ls hP hD hS hl
  rw [z4]
  refine W.widen hc hs ?_
  exact W.fret C.1 C.2.1 (by rw [z7]; exact hret) (fun t ht hW => ⟨some (.float v), ws, hR, rfl, by rw [ht]; exact hP, by rw [← z5, ← z8]; exact hD, by rw [← z5]; exact hS.F ht⟩) (by rw [← z5]; exact hS.2.2) hd z6
end DROWS
theorem c_X3_meanWeight {l : Launch} {D : va_G} {g : G0} {A : XA} {x : XV} {k n : Nat} (hst : l.stackTraces = false) (h0 : Bk_marks x.2.1 = nI n) (hw : f_X0_weightOfAll x.2.1 = some (nI k)) (hk : k < 109) (hn : n < 13) (n0 : n ≠ 0) : CtX l D g yX3_meanWeight cX3_meanWeight 1 (some .double) (rmX 8 240 (.inl (some (.double (mw k n)), xW g A x))) (xW g A x) [.ref A.1] (.inl (some (.double (mw k n)), xW g A x)) := by
  refine CtX.of (by decide) (Nat.le_of_ble_eq_true rfl) hst ?_
  intro K C Z hBA el eD ekn
  subst el
  subst eD
  show V K 0 0 _ [(0, .ref A.1)] [] 0
  refine V_aload_n C 0 1 dX3_meanWeight_0 rfl rfl ?_
  refine V_get C (v := .ref A.2.1.1) 0 4 fl_X3_10 dX3_meanWeight_1 rfl rfl rfl ?_
  refine V_get C (v := .int (Bk_marks x.2.1)) 1 7 fl_X3_178 dX3_meanWeight_4 rfl rfl rfl ?_
  refine V_if_ne C 20 10 dX3_meanWeight_7 rfl rfl (fun _ => ?_) (fun e => absurd (show Bk_marks x.2.1 = 0 from e) (by rw [h0]; exact fun q => n0 ((nI_eq (by omega) (by decide : (0 : Nat) < 2 ^ 31)).mp q)))
  refine V_aload_n C 0 21 dX3_meanWeight_20 rfl rfl ?_
  refine V_get C (v := .ref A.2.1.1) 0 24 fl_X3_10 dX3_meanWeight_21 rfl rfl rfl ?_
  refine V_callP C ml_X3_214 (pre := mgW A x.1) (post := bkW g A.2.2.1 x.2.2.1 ++ (bkW g A.2.2.2.1 x.2.2.2.1 ++ (hsW g A.2.2.2.2.1 A.2.2.2.2.2.2.2 x.2.2.2.2.1 ++ (scW g A.2.2.2.2.2.1 x.2.2.2.2.2.1 ++ (sbW g A.2.2.2.2.2.2.1 x.2.2.2.2.2.2.1 ++ (hbW g A.2.2.2.2.2.2.2 x.2.2.2.2.2.2.2)))))) (w := bkW g A.2.1 x.2.1) (as := []) (rest := []) (c_X0_weightOfAll hw) 1 27 dX3_meanWeight_24 rfl ⟨Nat.le_of_ble_eq_true rfl, Nat.le_of_ble_eq_true rfl⟩ rfl rfl rfl rfl rfl (Nat.le_of_ble_eq_true rfl) ⟨Nat.zero_le _, Nat.zero_le _⟩ ?_
  refine V_i2d C 28 dX3_meanWeight_27 rfl ?_
  refine V_aload_n C 0 29 dX3_meanWeight_28 rfl rfl ?_
  refine V_get C (v := .ref A.2.1.1) 0 32 fl_X3_10 dX3_meanWeight_29 rfl rfl rfl ?_
  refine V_get C (v := .int (Bk_marks x.2.1)) 1 35 fl_X3_178 dX3_meanWeight_32 rfl rfl rfl ?_
  refine V_i2d C 36 dX3_meanWeight_35 rfl ?_
  refine V_st (st2 := [.double (FP.i2d (nI n)), .double (FP.i2d (nI k))]) (by rw [h0]; rfl) ?_
  refine V_ddiv C 37 dX3_meanWeight_36 rfl (mw_ok hk hn n0).1 ?_
  exact V_xretD C Z rfl rfl dX3_meanWeight_37 (Nat.zero_le _) (Nat.zero_le _)
theorem c_X3_meanWeightX {l : Launch} {D : va_G} {g : G0} {A : XA} {x : XV} (hst : l.stackTraces = false) (h0 : Bk_marks x.2.1 = 0) : CtX l D g yX3_meanWeight cX3_meanWeight 1 (some .double) (rmX 8 240 (.inr ("java/lang/ArithmeticException", xW g A x))) (xW g A x) [.ref A.1] (.inr ("java/lang/ArithmeticException", xW g A x)) := by
  refine CtX.of (by decide) (Nat.le_of_ble_eq_true rfl) hst ?_
  intro K C Z hBA el eD ekn
  subst el
  subst eD
  show V K 0 0 _ [(0, .ref A.1)] [] 0
  refine V_aload_n C 0 1 dX3_meanWeight_0 rfl rfl ?_
  refine V_get C (v := .ref A.2.1.1) 0 4 fl_X3_10 dX3_meanWeight_1 rfl rfl rfl ?_
  refine V_get C (v := .int (Bk_marks x.2.1)) 1 7 fl_X3_178 dX3_meanWeight_4 rfl rfl rfl ?_
  refine V_if_ne C 20 10 dX3_meanWeight_7 rfl rfl (fun e => absurd h0 e) (fun _ => ?_)
  exact V_throw C Z tl_X3_209_213_211 dX3_meanWeight_10 dX3_meanWeight_13 dX3_meanWeight_14 dX3_meanWeight_16 dX3_meanWeight_19 ⟨Nat.le_of_ble_eq_true rfl, Nat.le_of_ble_eq_true rfl, Nat.le_refl _, Nat.le_refl _⟩ rfl (Nat.le_refl _) (Nat.le_refl _)
theorem c_X3_heldShare {l : Launch} {D : va_G} {g : G0} {A : XA} {x : XV} {k ps pe h : Nat} (hst : l.stackTraces = false) (hreq : f_X3_requireChapter x (nI k) = some (.inl (0, x))) (hk8 : k < 8) (hps : Bk_starts x.2.1 k = nI ps) (hpe : f_X0_endOf x.2.1 (nI k) = some (nI pe)) (hle : ps ≤ pe) (hpe1 : pe < 60) (hh : f_X0_heldPageByPage x.2.1 (nI k) = some (nI h)) (hh1 : h < 13) : CtX l D g yX3_heldShare cX3_heldShare 3 (some .float) (rmX 8 240 (.inl (some (.float (fsh h (pe - ps + 1))), xW g A x))) (xW g A x) [.ref A.1, .int (nI k)] (.inl (some (.float (fsh h (pe - ps + 1))), xW g A x)) := by
  refine CtX.of (by decide) (Nat.le_of_ble_eq_true rfl) hst ?_
  intro K C Z hBA el eD ekn
  subst el
  subst eD
  have hE := Z.2.2.1
  have hlt : ∀ i, i < 3 → i < kn K := fun i h => by rw [ekn]; exact h
  show V K 0 0 _ [(0, .ref A.1), (1, .int (nI k))] [] 0
  refine V_aload_n C 0 1 dX3_heldShare_0 rfl rfl ?_
  refine V_iload_n C 1 2 dX3_heldShare_1 rfl rfl ?_
  refine V_callXr C hBA hE ml_X3_132 (pre := []) (post := []) (wc := xW g A x) (as := [.int (nI k)]) (rest := []) (w1 := xW g A x) (rv := none) (c_X3_requireChapter (R := .inl (0, x)) hst hreq) 0 5 (xW g A x) dX3_heldShare_2 rfl ⟨Nat.le_of_ble_eq_true rfl, Nat.le_of_ble_eq_true rfl⟩ rfl (List.append_nil _).symm (List.append_nil _) rfl rfl rfl rfl (Nat.le_of_ble_eq_true rfl) ⟨Nat.zero_le _, Nat.zero_le _⟩ ?_
  refine V_aload_n C 0 6 dX3_heldShare_5 rfl rfl ?_
  refine V_get C (v := .ref A.2.1.1) 0 9 fl_X3_10 dX3_heldShare_6 rfl rfl rfl ?_
  refine V_iload_n C 1 10 dX3_heldShare_9 rfl rfl ?_
  refine V_callP C ml_X3_138 (pre := mgW A x.1) (post := bkW g A.2.2.1 x.2.2.1 ++ (bkW g A.2.2.2.1 x.2.2.2.1 ++ (hsW g A.2.2.2.2.1 A.2.2.2.2.2.2.2 x.2.2.2.2.1 ++ (scW g A.2.2.2.2.2.1 x.2.2.2.2.2.1 ++ (sbW g A.2.2.2.2.2.2.1 x.2.2.2.2.2.2.1 ++ (hbW g A.2.2.2.2.2.2.2 x.2.2.2.2.2.2.2)))))) (w := bkW g A.2.1 x.2.1) (as := [.int (nI k)]) (rest := []) (c_X0_endOf hpe) 1 13 dX3_heldShare_10 rfl ⟨Nat.le_of_ble_eq_true rfl, Nat.le_of_ble_eq_true rfl⟩ rfl rfl rfl rfl rfl (Nat.le_of_ble_eq_true rfl) ⟨Nat.zero_le _, Nat.zero_le _⟩ ?_
  refine V_aload_n C 0 14 dX3_heldShare_13 rfl rfl ?_
  refine V_get C (v := .ref A.2.1.1) 0 17 fl_X3_10 dX3_heldShare_14 rfl rfl rfl ?_
  refine V_get C (v := .ref A.2.1.2.2.2.2.2.2) 1 20 fl_X3_135 dX3_heldShare_17 rfl rfl rfl ?_
  refine V_iload_n C 1 21 dX3_heldShare_20 rfl rfl ?_
  refine V_iald C (f := Bk_starts x.2.1) (n := 8) 7 22 dX3_heldShare_21 rfl rfl (inb_of (vp_in_nI hk8 (by decide))) ?_
  refine V_isub C 23 dX3_heldShare_22 rfl ?_
  refine V_iconst C (1 : Int32) 24 dX3_heldShare_23 rfl rfl ?_
  refine V_iadd C 25 dX3_heldShare_24 rfl ?_
  refine V_st (st2 := [.int (nI (pe - ps + 1))]) (by rw [cl_n (by omega), hps, pk_sub hle, nI_1]; rfl) ?_
  refine V_istore_n C 26 [(2, .int (nI (pe - ps + 1))), (0, .ref A.1), (1, .int (nI k))] dX3_heldShare_25 rfl (hlt 2 (by decide)) rfl ?_
  refine V_iload_n C 0 27 dX3_heldShare_26 rfl rfl ?_
  refine V_if_le C 45 30 dX3_heldShare_27 rfl rfl (fun e => absurd ((nI_le0 (by omega)).mp e) (by omega)) (fun _ => ?_)
  refine V_aload_n C 1 31 dX3_heldShare_30 rfl rfl ?_
  refine V_get C (v := .ref A.2.1.1) 0 34 fl_X3_10 dX3_heldShare_31 rfl rfl rfl ?_
  refine V_iload_n C 2 35 dX3_heldShare_34 rfl rfl ?_
  refine V_callP C ml_X3_141 (pre := mgW A x.1) (post := bkW g A.2.2.1 x.2.2.1 ++ (bkW g A.2.2.2.1 x.2.2.2.1 ++ (hsW g A.2.2.2.2.1 A.2.2.2.2.2.2.2 x.2.2.2.2.1 ++ (scW g A.2.2.2.2.2.1 x.2.2.2.2.2.1 ++ (sbW g A.2.2.2.2.2.2.1 x.2.2.2.2.2.2.1 ++ (hbW g A.2.2.2.2.2.2.2 x.2.2.2.2.2.2.2)))))) (w := bkW g A.2.1 x.2.1) (as := [.int (nI k)]) (rest := []) (c_X0_heldPageByPage hh) 1 38 dX3_heldShare_35 rfl ⟨Nat.le_of_ble_eq_true rfl, Nat.le_of_ble_eq_true rfl⟩ rfl rfl rfl rfl rfl (Nat.le_of_ble_eq_true rfl) ⟨Nat.zero_le _, Nat.zero_le _⟩ ?_
  refine V_i2f C 39 dX3_heldShare_38 rfl ?_
  refine V_iload_n C 0 40 dX3_heldShare_39 rfl rfl ?_
  refine V_i2f C 41 dX3_heldShare_40 rfl ?_
  refine V_fdiv C 42 dX3_heldShare_41 rfl (fsh_ok hh1 (by omega) (by omega)).1 ?_
  refine V_goto C 46 dX3_heldShare_42 rfl ?_
  exact V_xretF C Z rfl rfl dX3_heldShare_46 (Nat.zero_le _) (Nat.zero_le _)
theorem c_X3_heldShareX {l : Launch} {D : va_G} {g : G0} {A : XA} {x : XV} {a1 : Int32} (hst : l.stackTraces = false) (hreq : f_X3_requireChapter x a1 = some (.inr (IOOBE, x))) : CtX l D g yX3_heldShare cX3_heldShare 3 (some .float) (rmX 8 240 (.inr (IOOBE, xW g A x))) (xW g A x) [.ref A.1, .int a1] (.inr (IOOBE, xW g A x)) := by
  refine CtX.of (by decide) (Nat.le_of_ble_eq_true rfl) hst ?_
  intro K C Z hBA el eD ekn
  subst el
  subst eD
  have hE := Z.2.2.1
  show V K 0 0 _ [(0, .ref A.1), (1, .int a1)] [] 0
  refine V_aload_n C 0 1 dX3_heldShare_0 rfl rfl ?_
  refine V_iload_n C 1 2 dX3_heldShare_1 rfl rfl ?_
  refine V_callXt C hBA hE ml_X3_132 (pre := []) (post := []) (wc := xW g A x) (as := [.int a1]) (rest := []) (w1 := xW g A x) (E := IOOBE) (c_X3_requireChapter (R := .inr (IOOBE, x)) hst hreq) 0 (xW g A x) dX3_heldShare_2 ⟨Nat.le_of_ble_eq_true rfl, Nat.le_of_ble_eq_true rfl⟩ rfl (List.append_nil _).symm (List.append_nil _) rfl rfl rfl (Nat.le_of_ble_eq_true rfl) ⟨Nat.le_refl _, Nat.le_refl _⟩ ?_
  exact VX_out C Z rfl (Nat.le_refl _) (Nat.le_refl _)
