/-! ===== constructors: the model ===== -/
abbrev cX4_init : ByteArray := prog_6_method_1_code
def yX4_init : MethodName := ⟨RX4, "<init>", "()V"⟩
theorem dX4_init_0 : decode cX4_init 0 = .ok (.aload_n 0, 1) := by decide +kernel
theorem dX4_init_1 : decode cX4_init 1 = .ok (.invokespecial 1, 3) := by decide +kernel
theorem dX4_init_4 : decode cX4_init 4 = .ok (.aload_n 0, 1) := by decide +kernel
theorem dX4_init_5 : decode cX4_init 5 = .ok (.sipush 825, 3) := by decide +kernel
theorem dX4_init_8 : decode cX4_init 8 = .ok (.newarray .int, 2) := by decide +kernel
theorem dX4_init_10 : decode cX4_init 10 = .ok (.putfield 9, 3) := by decide +kernel
theorem dX4_init_13 : decode cX4_init 13 = .ok (.aload_n 0, 1) := by decide +kernel
theorem dX4_init_14 : decode cX4_init 14 = .ok (.bipush 120, 2) := by decide +kernel
theorem dX4_init_16 : decode cX4_init 16 = .ok (.newarray .char, 2) := by decide +kernel
theorem dX4_init_18 : decode cX4_init 18 = .ok (.putfield 13, 3) := by decide +kernel
theorem dX4_init_21 : decode cX4_init 21 = .ok (.aload_n 0, 1) := by decide +kernel
theorem dX4_init_22 : decode cX4_init 22 = .ok (.bipush 60, 2) := by decide +kernel
theorem dX4_init_24 : decode cX4_init 24 = .ok (.newarray .char, 2) := by decide +kernel
theorem dX4_init_26 : decode cX4_init 26 = .ok (.putfield 17, 3) := by decide +kernel
theorem dX4_init_29 : decode cX4_init 29 = .ok (.aload_n 0, 1) := by decide +kernel
theorem dX4_init_30 : decode cX4_init 30 = .ok (.iconst (-1), 1) := by decide +kernel
theorem dX4_init_31 : decode cX4_init 31 = .ok (.putfield 20, 3) := by decide +kernel
theorem dX4_init_34 : decode cX4_init 34 = .ok (.aload_n 0, 1) := by decide +kernel
theorem dX4_init_35 : decode cX4_init 35 = .ok (.sipush 183, 3) := by decide +kernel
theorem dX4_init_38 : decode cX4_init 38 = .ok (.newarray .int, 2) := by decide +kernel
theorem dX4_init_40 : decode cX4_init 40 = .ok (.putfield 24, 3) := by decide +kernel
theorem dX4_init_43 : decode cX4_init 43 = .ok (.aload_n 0, 1) := by decide +kernel
theorem dX4_init_44 : decode cX4_init 44 = .ok (.getfield 9, 3) := by decide +kernel
theorem dX4_init_47 : decode cX4_init 47 = .ok (.iconst 2, 1) := by decide +kernel
theorem dX4_init_48 : decode cX4_init 48 = .ok (.iconst 1, 1) := by decide +kernel
theorem dX4_init_49 : decode cX4_init 49 = .ok (.iastore, 1) := by decide +kernel
theorem dX4_init_50 : decode cX4_init 50 = .ok (.return_, 1) := by decide +kernel
theorem q1500 : Cond.methodLink "BookmarkManagerModel" 1 (⟨"java/lang/Object", "<init>", "()V"⟩ : MethodName) ∈ wU := mU 1500 (by decide +kernel) (by decide +kernel)
theorem fq_X4_1 : FQ RX4 4 1 (.array .int) := ⟨RX4, TX4, 17, tyX4, rfl, tyX4_ok, nmX4, by decide +kernel, rfl, rfl⟩
theorem fq_X4_8 : FQ RX4 4 8 (.array .char) := ⟨RX4, TX4, 17, tyX4, rfl, tyX4_ok, nmX4, by decide +kernel, rfl, rfl⟩
theorem fq_X4_10 : FQ RX4 4 10 (.array .char) := ⟨RX4, TX4, 17, tyX4, rfl, tyX4_ok, nmX4, by decide +kernel, rfl, rfl⟩
theorem fq_X4_15 : FQ RX4 4 15 (.array .int) := ⟨RX4, TX4, 17, tyX4, rfl, tyX4_ok, nmX4, by decide +kernel, rfl, rfl⟩
/-- a new model -/
def md0 : MdV := (upd (fun _ => 0) 2 1, fun _ => 0, fun _ => 0, fun _ => 0, 0, 0, 0, 0, 0, 0, 0, 0, 0, 0, 0, -1, 0)
set_option maxRecDepth 100000 in
theorem c_X4_init {l : Launch} {D : va_G} {g : G0} {o : Nat} : CtN l D g yX4_init cX4_init 1 none (rmN 1 40 4 1188) ([(o, .inr (4, [.int 0, .null, .int 0, .int 0, .int 0, .int 0, .int 0, .int 0, .null, .int 0, .null, .int 0, .int 0, .int 0, .int 0, .null, .int 0]))]) [.ref o] (fun rv w1 => rv = none ∧ ∃ A : MdA, A.1 = o ∧ w1 = mdW g A md0) 4 1188 := by
  refine CtN.ofI (by decide) (Nat.le_of_ble_eq_true rfl) ?_
  intro K C Z hBA el eD ekn hnm
  subst el
  subst eD
  show V K 0 0 ([(o, .inr (4, [.int 0, .null, .int 0, .int 0, .int 0, .int 0, .int 0, .int 0, .null, .int 0, .null, .int 0, .int 0, .int 0, .int 0, .null, .int 0]))]) [(0, .ref o)] [] 0
  refine V_aload_n C 0 1 dX4_init_0 rfl rfl ?_
  refine V_oinit C 4 q1500 dX4_init_1 rfl ⟨by decide, by exact (by decide : 0 + 12 ≤ 40)⟩ ?_
  refine V_aload_n C 0 5 dX4_init_4 rfl rfl ?_
  refine V_sipush C (825 : Int32) 8 dX4_init_5 rfl rfl ?_
  refine V_newI C hBA 825 10 q150 (by decide) (by decide) (by decide) (by exact (by decide : 1 ≤ 4)) (by exact (by decide : 825 ≤ 1188)) dX4_init_8 rfl (fun b0 => ?_)
  show V K 1 825 ([(o, .inr (4, [.int 0, .null, .int 0, .int 0, .int 0, .int 0, .int 0, .int 0, .null, .int 0, .null, .int 0, .int 0, .int 0, .int 0, .null, .int 0])), (b0, aI g 825 (fun _ => 0))]) [(0, .ref o)] [.ref b0, .ref o] 10
  refine V_putF C hBA hnm 0 13 ([(o, .inr (4, [.int 0, .ref b0, .int 0, .int 0, .int 0, .int 0, .int 0, .int 0, .null, .int 0, .null, .int 0, .int 0, .int 0, .int 0, .null, .int 0])), (b0, aI g 825 (fun _ => 0))]) fl_X4_9 fq_X4_1 dX4_init_10 rfl rfl (by exact (by decide : 1 < 17)) rfl rfl rfl ?_
  refine V_aload_n C 0 14 dX4_init_13 rfl rfl ?_
  refine V_bipush C (120 : Int32) 16 dX4_init_14 rfl rfl ?_
  refine V_newC C hBA 120 18 q204 (by decide) (by decide) (by decide) (by exact (by decide : 2 ≤ 4)) (by exact (by decide : 945 ≤ 1188)) dX4_init_16 rfl (fun b1 => ?_)
  show V K 2 945 ([(o, .inr (4, [.int 0, .ref b0, .int 0, .int 0, .int 0, .int 0, .int 0, .int 0, .null, .int 0, .null, .int 0, .int 0, .int 0, .int 0, .null, .int 0])), (b0, aI g 825 (fun _ => 0)), (b1, aC g 120 (fun _ => 0))]) [(0, .ref o)] [.ref b1, .ref o] 18
  refine V_putF C hBA hnm 0 21 ([(o, .inr (4, [.int 0, .ref b0, .int 0, .int 0, .int 0, .int 0, .int 0, .int 0, .ref b1, .int 0, .null, .int 0, .int 0, .int 0, .int 0, .null, .int 0])), (b0, aI g 825 (fun _ => 0)), (b1, aC g 120 (fun _ => 0))]) fl_X4_13 fq_X4_8 dX4_init_18 rfl rfl (by exact (by decide : 8 < 17)) rfl rfl rfl ?_
  refine V_aload_n C 0 22 dX4_init_21 rfl rfl ?_
  refine V_bipush C (60 : Int32) 24 dX4_init_22 rfl rfl ?_
  refine V_newC C hBA 60 26 q204 (by decide) (by decide) (by decide) (by exact (by decide : 3 ≤ 4)) (by exact (by decide : 1005 ≤ 1188)) dX4_init_24 rfl (fun b2 => ?_)
  show V K 3 1005 ([(o, .inr (4, [.int 0, .ref b0, .int 0, .int 0, .int 0, .int 0, .int 0, .int 0, .ref b1, .int 0, .null, .int 0, .int 0, .int 0, .int 0, .null, .int 0])), (b0, aI g 825 (fun _ => 0)), (b1, aC g 120 (fun _ => 0)), (b2, aC g 60 (fun _ => 0))]) [(0, .ref o)] [.ref b2, .ref o] 26
  refine V_putF C hBA hnm 0 29 ([(o, .inr (4, [.int 0, .ref b0, .int 0, .int 0, .int 0, .int 0, .int 0, .int 0, .ref b1, .int 0, .ref b2, .int 0, .int 0, .int 0, .int 0, .null, .int 0])), (b0, aI g 825 (fun _ => 0)), (b1, aC g 120 (fun _ => 0)), (b2, aC g 60 (fun _ => 0))]) fl_X4_17 fq_X4_10 dX4_init_26 rfl rfl (by exact (by decide : 10 < 17)) rfl rfl rfl ?_
  refine V_aload_n C 0 30 dX4_init_29 rfl rfl ?_
  refine V_iconst C (-1 : Int32) 31 dX4_init_30 rfl rfl ?_
  refine V_put C hBA 0 34 ([(o, .inr (4, [.int 0, .ref b0, .int 0, .int 0, .int 0, .int 0, .int 0, .int 0, .ref b1, .int 0, .ref b2, .int 0, .int 0, .int 0, .int (-1 : Int32), .null, .int 0])), (b0, aI g 825 (fun _ => 0)), (b1, aC g 120 (fun _ => 0)), (b2, aC g 60 (fun _ => 0))]) fl_X4_20 fp_X4_14 dX4_init_31 rfl rfl (by exact (by decide : 14 < 17)) rfl rfl rfl ?_
  refine V_aload_n C 0 35 dX4_init_34 rfl rfl ?_
  refine V_sipush C (183 : Int32) 38 dX4_init_35 rfl rfl ?_
  refine V_newI C hBA 183 40 q150 (by decide) (by decide) (by decide) (by exact (by decide : 4 ≤ 4)) (by exact (by decide : 1188 ≤ 1188)) dX4_init_38 rfl (fun b3 => ?_)
  show V K 4 1188 ([(o, .inr (4, [.int 0, .ref b0, .int 0, .int 0, .int 0, .int 0, .int 0, .int 0, .ref b1, .int 0, .ref b2, .int 0, .int 0, .int 0, .int (-1 : Int32), .null, .int 0])), (b0, aI g 825 (fun _ => 0)), (b1, aC g 120 (fun _ => 0)), (b2, aC g 60 (fun _ => 0)), (b3, aI g 183 (fun _ => 0))]) [(0, .ref o)] [.ref b3, .ref o] 40
  refine V_putF C hBA hnm 0 43 ([(o, .inr (4, [.int 0, .ref b0, .int 0, .int 0, .int 0, .int 0, .int 0, .int 0, .ref b1, .int 0, .ref b2, .int 0, .int 0, .int 0, .int (-1 : Int32), .ref b3, .int 0])), (b0, aI g 825 (fun _ => 0)), (b1, aC g 120 (fun _ => 0)), (b2, aC g 60 (fun _ => 0)), (b3, aI g 183 (fun _ => 0))]) fl_X4_24 fq_X4_15 dX4_init_40 rfl rfl (by exact (by decide : 15 < 17)) rfl rfl rfl ?_
  refine V_aload_n C 0 44 dX4_init_43 rfl rfl ?_
  refine V_get C (v := .ref b0) 0 47 fl_X4_9 dX4_init_44 rfl rfl rfl ?_
  refine V_iconst C (2 : Int32) 48 dX4_init_47 rfl rfl ?_
  refine V_iconst C (1 : Int32) 49 dX4_init_48 rfl rfl ?_
  refine V_iast C hBA 1 50 ([(o, .inr (4, [.int 0, .ref b0, .int 0, .int 0, .int 0, .int 0, .int 0, .int 0, .ref b1, .int 0, .ref b2, .int 0, .int 0, .int 0, .int (-1 : Int32), .ref b3, .int 0])), (b0, aI g 825 (upd (fun _ => 0) 2 1)), (b1, aC g 120 (fun _ => 0)), (b2, aC g 60 (fun _ => 0)), (b3, aI g 183 (fun _ => 0))]) dX4_init_49 rfl rfl (by decide) rfl ?_
  exact V_nretV C Z rfl ⟨rfl, (o, b0, b1, b2, b3), rfl, rfl⟩ dX4_init_50 (Nat.le_refl _) (Nat.le_refl _)
