/-! ===== constructors: Script ===== -/
abbrev cX2_init : ByteArray := prog_4_method_1_code
def yX2_init : MethodName := ⟨RX2, "<init>", "()V"⟩
theorem dX2_init_0 : decode cX2_init 0 = .ok (.aload_n 0, 1) := by decide +kernel
theorem dX2_init_1 : decode cX2_init 1 = .ok (.invokespecial 3, 3) := by decide +kernel
theorem dX2_init_4 : decode cX2_init 4 = .ok (.aload_n 0, 1) := by decide +kernel
theorem dX2_init_5 : decode cX2_init 5 = .ok (.bipush 60, 2) := by decide +kernel
theorem dX2_init_7 : decode cX2_init 7 = .ok (.newarray .char, 2) := by decide +kernel
theorem dX2_init_9 : decode cX2_init 9 = .ok (.putfield 9, 3) := by decide +kernel
theorem dX2_init_12 : decode cX2_init 12 = .ok (.aload_n 0, 1) := by decide +kernel
theorem dX2_init_13 : decode cX2_init 13 = .ok (.bipush 30, 2) := by decide +kernel
theorem dX2_init_15 : decode cX2_init 15 = .ok (.newarray .char, 2) := by decide +kernel
theorem dX2_init_17 : decode cX2_init 17 = .ok (.putfield 15, 3) := by decide +kernel
theorem dX2_init_20 : decode cX2_init 20 = .ok (.aload_n 0, 1) := by decide +kernel
theorem dX2_init_21 : decode cX2_init 21 = .ok (.bipush 30, 2) := by decide +kernel
theorem dX2_init_23 : decode cX2_init 23 = .ok (.newarray .int, 2) := by decide +kernel
theorem dX2_init_25 : decode cX2_init 25 = .ok (.putfield 18, 3) := by decide +kernel
theorem dX2_init_28 : decode cX2_init 28 = .ok (.aload_n 0, 1) := by decide +kernel
theorem dX2_init_29 : decode cX2_init 29 = .ok (.bipush 30, 2) := by decide +kernel
theorem dX2_init_31 : decode cX2_init 31 = .ok (.newarray .int, 2) := by decide +kernel
theorem dX2_init_33 : decode cX2_init 33 = .ok (.putfield 22, 3) := by decide +kernel
theorem dX2_init_36 : decode cX2_init 36 = .ok (.aload_n 0, 1) := by decide +kernel
theorem dX2_init_37 : decode cX2_init 37 = .ok (.iconst 0, 1) := by decide +kernel
theorem dX2_init_38 : decode cX2_init 38 = .ok (.putfield 25, 3) := by decide +kernel
theorem dX2_init_41 : decode cX2_init 41 = .ok (.aload_n 0, 1) := by decide +kernel
theorem dX2_init_42 : decode cX2_init 42 = .ok (.iconst 0, 1) := by decide +kernel
theorem dX2_init_43 : decode cX2_init 43 = .ok (.putfield 29, 3) := by decide +kernel
theorem dX2_init_46 : decode cX2_init 46 = .ok (.aload_n 0, 1) := by decide +kernel
theorem dX2_init_47 : decode cX2_init 47 = .ok (.iconst 0, 1) := by decide +kernel
theorem dX2_init_48 : decode cX2_init 48 = .ok (.putfield 32, 3) := by decide +kernel
theorem dX2_init_51 : decode cX2_init 51 = .ok (.return_, 1) := by decide +kernel
theorem q176 : Cond.methodLink "BookmarkManager$Script" 3 (⟨"java/lang/Object", "<init>", "()V"⟩ : MethodName) ∈ wU := mU 129 (by decide +kernel) (by decide +kernel)
theorem q204 : Cond.arrayClass .char ∈ wU := mU 152 (by decide +kernel) (by decide +kernel)
theorem fq_X2_0 : FQ RX2 2 0 (.array .char) := ⟨RX2, TX2, 7, tyX2, rfl, tyX2_ok, nmX2, by decide +kernel, rfl, rfl⟩
theorem fq_X2_1 : FQ RX2 2 1 (.array .char) := ⟨RX2, TX2, 7, tyX2, rfl, tyX2_ok, nmX2, by decide +kernel, rfl, rfl⟩
theorem fq_X2_2 : FQ RX2 2 2 (.array .int) := ⟨RX2, TX2, 7, tyX2, rfl, tyX2_ok, nmX2, by decide +kernel, rfl, rfl⟩
theorem fq_X2_3 : FQ RX2 2 3 (.array .int) := ⟨RX2, TX2, 7, tyX2, rfl, tyX2_ok, nmX2, by decide +kernel, rfl, rfl⟩
/-- a new Script -/
def sc0 : ScV := (fun _ => 0, fun _ => 0, fun _ => 0, fun _ => 0, 0, 0, 0)
theorem c_X2_init {l : Launch} {D : va_G} {g : G0} {o : Nat} : CtN l D g yX2_init cX2_init 1 none (rmN 1 40 4 150) ([(o, .inr (2, [.null, .null, .null, .null, .int 0, .int 0, .int 0]))]) [.ref o] (fun rv w1 => rv = none ∧ ∃ A : ScA, A.1 = o ∧ w1 = scW g A sc0) 4 150 := by
  refine CtN.ofI (by decide) (Nat.le_of_ble_eq_true rfl) ?_
  intro K C Z hBA el eD ekn hnm
  subst el
  subst eD
  show V K 0 0 ([(o, .inr (2, [.null, .null, .null, .null, .int 0, .int 0, .int 0]))]) [(0, .ref o)] [] 0
  refine V_aload_n C 0 1 dX2_init_0 rfl rfl ?_
  refine V_oinit C 4 q176 dX2_init_1 rfl ⟨by decide, by exact (by decide : 0 + 12 ≤ 40)⟩ ?_
  refine V_aload_n C 0 5 dX2_init_4 rfl rfl ?_
  refine V_bipush C (60 : Int32) 7 dX2_init_5 rfl rfl ?_
  refine V_newC C hBA 60 9 q204 (by decide) (by decide) (by decide) (by exact (by decide : 1 ≤ 4)) (by exact (by decide : 60 ≤ 150)) dX2_init_7 rfl (fun b0 => ?_)
  show V K 1 60 ([(o, .inr (2, [.null, .null, .null, .null, .int 0, .int 0, .int 0])), (b0, aC g 60 (fun _ => 0))]) [(0, .ref o)] [.ref b0, .ref o] 9
  refine V_putF C hBA hnm 0 12 ([(o, .inr (2, [.ref b0, .null, .null, .null, .int 0, .int 0, .int 0])), (b0, aC g 60 (fun _ => 0))]) fl_X2_9 fq_X2_0 dX2_init_9 rfl rfl (by exact (by decide : 0 < 7)) rfl rfl rfl ?_
  refine V_aload_n C 0 13 dX2_init_12 rfl rfl ?_
  refine V_bipush C (30 : Int32) 15 dX2_init_13 rfl rfl ?_
  refine V_newC C hBA 30 17 q204 (by decide) (by decide) (by decide) (by exact (by decide : 2 ≤ 4)) (by exact (by decide : 90 ≤ 150)) dX2_init_15 rfl (fun b1 => ?_)
  show V K 2 90 ([(o, .inr (2, [.ref b0, .null, .null, .null, .int 0, .int 0, .int 0])), (b0, aC g 60 (fun _ => 0)), (b1, aC g 30 (fun _ => 0))]) [(0, .ref o)] [.ref b1, .ref o] 17
  refine V_putF C hBA hnm 0 20 ([(o, .inr (2, [.ref b0, .ref b1, .null, .null, .int 0, .int 0, .int 0])), (b0, aC g 60 (fun _ => 0)), (b1, aC g 30 (fun _ => 0))]) fl_X2_15 fq_X2_1 dX2_init_17 rfl rfl (by exact (by decide : 1 < 7)) rfl rfl rfl ?_
  refine V_aload_n C 0 21 dX2_init_20 rfl rfl ?_
  refine V_bipush C (30 : Int32) 23 dX2_init_21 rfl rfl ?_
  refine V_newI C hBA 30 25 q150 (by decide) (by decide) (by decide) (by exact (by decide : 3 ≤ 4)) (by exact (by decide : 120 ≤ 150)) dX2_init_23 rfl (fun b2 => ?_)
  show V K 3 120 ([(o, .inr (2, [.ref b0, .ref b1, .null, .null, .int 0, .int 0, .int 0])), (b0, aC g 60 (fun _ => 0)), (b1, aC g 30 (fun _ => 0)), (b2, aI g 30 (fun _ => 0))]) [(0, .ref o)] [.ref b2, .ref o] 25
  refine V_putF C hBA hnm 0 28 ([(o, .inr (2, [.ref b0, .ref b1, .ref b2, .null, .int 0, .int 0, .int 0])), (b0, aC g 60 (fun _ => 0)), (b1, aC g 30 (fun _ => 0)), (b2, aI g 30 (fun _ => 0))]) fl_X2_18 fq_X2_2 dX2_init_25 rfl rfl (by exact (by decide : 2 < 7)) rfl rfl rfl ?_
  refine V_aload_n C 0 29 dX2_init_28 rfl rfl ?_
  refine V_bipush C (30 : Int32) 31 dX2_init_29 rfl rfl ?_
  refine V_newI C hBA 30 33 q150 (by decide) (by decide) (by decide) (by exact (by decide : 4 ≤ 4)) (by exact (by decide : 150 ≤ 150)) dX2_init_31 rfl (fun b3 => ?_)
  show V K 4 150 ([(o, .inr (2, [.ref b0, .ref b1, .ref b2, .null, .int 0, .int 0, .int 0])), (b0, aC g 60 (fun _ => 0)), (b1, aC g 30 (fun _ => 0)), (b2, aI g 30 (fun _ => 0)), (b3, aI g 30 (fun _ => 0))]) [(0, .ref o)] [.ref b3, .ref o] 33
  refine V_putF C hBA hnm 0 36 ([(o, .inr (2, [.ref b0, .ref b1, .ref b2, .ref b3, .int 0, .int 0, .int 0])), (b0, aC g 60 (fun _ => 0)), (b1, aC g 30 (fun _ => 0)), (b2, aI g 30 (fun _ => 0)), (b3, aI g 30 (fun _ => 0))]) fl_X2_22 fq_X2_3 dX2_init_33 rfl rfl (by exact (by decide : 3 < 7)) rfl rfl rfl ?_
  refine V_aload_n C 0 37 dX2_init_36 rfl rfl ?_
  refine V_iconst C (0 : Int32) 38 dX2_init_37 rfl rfl ?_
  refine V_put C hBA 0 41 ([(o, .inr (2, [.ref b0, .ref b1, .ref b2, .ref b3, .int (0 : Int32), .int 0, .int 0])), (b0, aC g 60 (fun _ => 0)), (b1, aC g 30 (fun _ => 0)), (b2, aI g 30 (fun _ => 0)), (b3, aI g 30 (fun _ => 0))]) fl_X2_25 fp_X2_4 dX2_init_38 rfl rfl (by exact (by decide : 4 < 7)) rfl rfl rfl ?_
  refine V_aload_n C 0 42 dX2_init_41 rfl rfl ?_
  refine V_iconst C (0 : Int32) 43 dX2_init_42 rfl rfl ?_
  refine V_put C hBA 0 46 ([(o, .inr (2, [.ref b0, .ref b1, .ref b2, .ref b3, .int (0 : Int32), .int (0 : Int32), .int 0])), (b0, aC g 60 (fun _ => 0)), (b1, aC g 30 (fun _ => 0)), (b2, aI g 30 (fun _ => 0)), (b3, aI g 30 (fun _ => 0))]) fl_X2_29 fp_X2_5 dX2_init_43 rfl rfl (by exact (by decide : 5 < 7)) rfl rfl rfl ?_
  refine V_aload_n C 0 47 dX2_init_46 rfl rfl ?_
  refine V_iconst C (0 : Int32) 48 dX2_init_47 rfl rfl ?_
  refine V_put C hBA 0 51 ([(o, .inr (2, [.ref b0, .ref b1, .ref b2, .ref b3, .int (0 : Int32), .int (0 : Int32), .int (0 : Int32)])), (b0, aC g 60 (fun _ => 0)), (b1, aC g 30 (fun _ => 0)), (b2, aI g 30 (fun _ => 0)), (b3, aI g 30 (fun _ => 0))]) fl_X2_32 fp_X2_6 dX2_init_48 rfl rfl (by exact (by decide : 6 < 7)) rfl rfl rfl ?_
  exact V_nretV C Z rfl ⟨rfl, (o, b0, b1, b2, b3), rfl, rfl⟩ dX2_init_51 (Nat.le_refl _) (Nat.le_refl _)
