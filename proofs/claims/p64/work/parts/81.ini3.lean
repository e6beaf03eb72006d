/-! ===== constructors: the class itself ===== -/
abbrev cX3_init : ByteArray := prog_1_method_1_code
def yX3_init : MethodName := ⟨RX3, "<init>", "()V"⟩
theorem dX3_init_0 : decode cX3_init 0 = .ok (.aload_n 0, 1) := by decide +kernel
theorem dX3_init_1 : decode cX3_init 1 = .ok (.invokespecial 1, 3) := by decide +kernel
theorem dX3_init_4 : decode cX3_init 4 = .ok (.aload_n 0, 1) := by decide +kernel
theorem dX3_init_5 : decode cX3_init 5 = .ok (.new 7, 3) := by decide +kernel
theorem dX3_init_8 : decode cX3_init 8 = .ok (.dup, 1) := by decide +kernel
theorem dX3_init_9 : decode cX3_init 9 = .ok (.invokespecial 9, 3) := by decide +kernel
theorem dX3_init_12 : decode cX3_init 12 = .ok (.putfield 10, 3) := by decide +kernel
theorem dX3_init_15 : decode cX3_init 15 = .ok (.aload_n 0, 1) := by decide +kernel
theorem dX3_init_16 : decode cX3_init 16 = .ok (.new 7, 3) := by decide +kernel
theorem dX3_init_19 : decode cX3_init 19 = .ok (.dup, 1) := by decide +kernel
theorem dX3_init_20 : decode cX3_init 20 = .ok (.invokespecial 9, 3) := by decide +kernel
theorem dX3_init_23 : decode cX3_init 23 = .ok (.putfield 16, 3) := by decide +kernel
theorem dX3_init_26 : decode cX3_init 26 = .ok (.aload_n 0, 1) := by decide +kernel
theorem dX3_init_27 : decode cX3_init 27 = .ok (.new 7, 3) := by decide +kernel
theorem dX3_init_30 : decode cX3_init 30 = .ok (.dup, 1) := by decide +kernel
theorem dX3_init_31 : decode cX3_init 31 = .ok (.invokespecial 9, 3) := by decide +kernel
theorem dX3_init_34 : decode cX3_init 34 = .ok (.putfield 19, 3) := by decide +kernel
theorem dX3_init_37 : decode cX3_init 37 = .ok (.aload_n 0, 1) := by decide +kernel
theorem dX3_init_38 : decode cX3_init 38 = .ok (.new 22, 3) := by decide +kernel
theorem dX3_init_41 : decode cX3_init 41 = .ok (.dup, 1) := by decide +kernel
theorem dX3_init_42 : decode cX3_init 42 = .ok (.invokespecial 24, 3) := by decide +kernel
theorem dX3_init_45 : decode cX3_init 45 = .ok (.putfield 25, 3) := by decide +kernel
theorem dX3_init_48 : decode cX3_init 48 = .ok (.aload_n 0, 1) := by decide +kernel
theorem dX3_init_49 : decode cX3_init 49 = .ok (.new 29, 3) := by decide +kernel
theorem dX3_init_52 : decode cX3_init 52 = .ok (.dup, 1) := by decide +kernel
theorem dX3_init_53 : decode cX3_init 53 = .ok (.invokespecial 31, 3) := by decide +kernel
theorem dX3_init_56 : decode cX3_init 56 = .ok (.putfield 32, 3) := by decide +kernel
theorem dX3_init_59 : decode cX3_init 59 = .ok (.aload_n 0, 1) := by decide +kernel
theorem dX3_init_60 : decode cX3_init 60 = .ok (.new 36, 3) := by decide +kernel
theorem dX3_init_63 : decode cX3_init 63 = .ok (.dup, 1) := by decide +kernel
theorem dX3_init_64 : decode cX3_init 64 = .ok (.invokespecial 38, 3) := by decide +kernel
theorem dX3_init_67 : decode cX3_init 67 = .ok (.putfield 39, 3) := by decide +kernel
theorem dX3_init_70 : decode cX3_init 70 = .ok (.aload_n 0, 1) := by decide +kernel
theorem dX3_init_71 : decode cX3_init 71 = .ok (.iconst 0, 1) := by decide +kernel
theorem dX3_init_72 : decode cX3_init 72 = .ok (.putfield 43, 3) := by decide +kernel
theorem dX3_init_75 : decode cX3_init 75 = .ok (.aload_n 0, 1) := by decide +kernel
theorem dX3_init_76 : decode cX3_init 76 = .ok (.iconst (-1), 1) := by decide +kernel
theorem dX3_init_77 : decode cX3_init 77 = .ok (.putfield 47, 3) := by decide +kernel
theorem dX3_init_80 : decode cX3_init 80 = .ok (.aload_n 0, 1) := by decide +kernel
theorem dX3_init_81 : decode cX3_init 81 = .ok (.iconst 0, 1) := by decide +kernel
theorem dX3_init_82 : decode cX3_init 82 = .ok (.putfield 51, 3) := by decide +kernel
theorem dX3_init_85 : decode cX3_init 85 = .ok (.aload_n 0, 1) := by decide +kernel
theorem dX3_init_86 : decode cX3_init 86 = .ok (.iconst 0, 1) := by decide +kernel
theorem dX3_init_87 : decode cX3_init 87 = .ok (.putfield 54, 3) := by decide +kernel
theorem dX3_init_90 : decode cX3_init 90 = .ok (.aload_n 0, 1) := by decide +kernel
theorem dX3_init_91 : decode cX3_init 91 = .ok (.iconst 0, 1) := by decide +kernel
theorem dX3_init_92 : decode cX3_init 92 = .ok (.putfield 57, 3) := by decide +kernel
theorem dX3_init_95 : decode cX3_init 95 = .ok (.return_, 1) := by decide +kernel
theorem q89 : Cond.methodLink "BookmarkManager" 1 (⟨"java/lang/Object", "<init>", "()V"⟩ : MethodName) ∈ wU := mU 44 (by decide +kernel) (by decide +kernel)
theorem q92 : Cond.classLink "BookmarkManager" 7 "BookmarkManager$Book" ∈ wU := mU 47 (by decide +kernel) (by decide +kernel)
theorem q151 : Cond.classLink "BookmarkManager" 22 "BookmarkManager$History" ∈ wU := mU 105 (by decide +kernel) (by decide +kernel)
theorem q152 : Cond.instantiable "BookmarkManager$History" 3 ∈ wU := mU 106 (by decide +kernel) (by decide +kernel)
theorem q153 : Cond.methodLink "BookmarkManager" 24 yX1_init ∈ wU := mU 107 (by decide +kernel) (by decide +kernel)
theorem q154 : Cond.instanceMethod yX1_init ∈ wU := mU 108 (by decide +kernel) (by decide +kernel)
theorem q155 : Cond.code yX1_init prog_3_method_1_code 2 none ∈ wU := mU 109 (by decide +kernel) (by decide +kernel)
theorem q171 : Cond.classLink "BookmarkManager" 29 "BookmarkManager$Script" ∈ wU := mU 124 (by decide +kernel) (by decide +kernel)
theorem q172 : Cond.instantiable "BookmarkManager$Script" 7 ∈ wU := mU 125 (by decide +kernel) (by decide +kernel)
theorem q174 : Cond.instanceMethod yX2_init ∈ wU := mU 127 (by decide +kernel) (by decide +kernel)
theorem q175 : Cond.code yX2_init prog_4_method_1_code 1 none ∈ wU := mU 128 (by decide +kernel) (by decide +kernel)
theorem q205 : Cond.classLink "BookmarkManager" 36 "java/lang/StringBuilder" ∈ wU := mU 153 (by decide +kernel) (by decide +kernel)
theorem q206 : Cond.instantiable "java/lang/StringBuilder" 4 ∈ wU := mU 154 (by decide +kernel) (by decide +kernel)
theorem q207 : Cond.methodLink "BookmarkManager" 38 yJ4_init_da8c8 ∈ wU := mU 155 (by decide +kernel) (by decide +kernel)
theorem q208 : Cond.instanceMethod yJ4_init_da8c8 ∈ wU := mU 156 (by decide +kernel) (by decide +kernel)
theorem q209 : Cond.code yJ4_init_da8c8 prog_23_method_1_code 1 none ∈ wU := mU 157 (by decide +kernel) (by decide +kernel)
theorem q94 : Cond.methodLinkNest "BookmarkManager" 9 yX0_init "BookmarkManager" ∈ nwW := mNW 49 (by decide +kernel) (by decide +kernel)
theorem q173 : Cond.methodLinkNest "BookmarkManager" 31 yX2_init "BookmarkManager" ∈ nwW := mNW 126 (by decide +kernel) (by decide +kernel)
theorem fq_X3_0 : FQ RX3 3 0 (.object "BookmarkManager$Book") := ⟨RX3, TX3, 11, tyX3, rfl, tyX3_ok, nmX3, by decide +kernel, rfl, rfl⟩
theorem fq_X3_1 : FQ RX3 3 1 (.object "BookmarkManager$Book") := ⟨RX3, TX3, 11, tyX3, rfl, tyX3_ok, nmX3, by decide +kernel, rfl, rfl⟩
theorem fq_X3_2 : FQ RX3 3 2 (.object "BookmarkManager$Book") := ⟨RX3, TX3, 11, tyX3, rfl, tyX3_ok, nmX3, by decide +kernel, rfl, rfl⟩
theorem fq_X3_3 : FQ RX3 3 3 (.object "BookmarkManager$History") := ⟨RX3, TX3, 11, tyX3, rfl, tyX3_ok, nmX3, by decide +kernel, rfl, rfl⟩
theorem fq_X3_4 : FQ RX3 3 4 (.object "BookmarkManager$Script") := ⟨RX3, TX3, 11, tyX3, rfl, tyX3_ok, nmX3, by decide +kernel, rfl, rfl⟩
theorem fq_X3_5 : FQ RX3 3 5 (.object "java/lang/StringBuilder") := ⟨RX3, TX3, 11, tyX3, rfl, tyX3_ok, nmX3, by decide +kernel, rfl, rfl⟩
theorem nw_X3_7 : NW RX3 7 0 [.null, .null, .null, .null, .null, .null, .int 0, .int 0, .int 0, .int 0, .int 0, .int 0, .int 0] 13 := ⟨RX0, TX0, tyX0, rfl, iX0, tyX0_ok, q92, q93, q57, by decide +kernel⟩
theorem nw_X3_22 : NW RX3 22 1 [.null, .int 0, .int 0] 3 := ⟨RX1, TX1, tyX1, rfl, iX1, tyX1_ok, q151, q152, q58, by decide +kernel⟩
theorem nw_X3_29 : NW RX3 29 2 [.null, .null, .null, .null, .int 0, .int 0, .int 0] 7 := ⟨RX2, TX2, tyX2, rfl, iX2, tyX2_ok, q171, q172, q59, by decide +kernel⟩
theorem nw_X3_36 : NW RX3 36 5 [.null, .int 0, .int 0, .int 0] 4 := ⟨RJ4, TJ4, tyJ4, rfl, iJ4, tyJ4_ok, q205, q206, q61, by decide +kernel⟩
theorem ln_X3_9 : CLn RX3 9 yX0_init "BookmarkManager" cX0_init 1 0 := ⟨⟨by decide, by decide, by decide +kernel⟩, q94, q57, q96, q95, rfl⟩
theorem ln_X3_31 : CLn RX3 31 yX2_init "BookmarkManager" cX2_init 1 0 := ⟨⟨by decide, by decide, by decide +kernel⟩, q173, q59, q175, q174, rfl⟩
theorem lz_X3_24 : CLz RX3 24 yX1_init cX1_init 2 none 0 := ⟨⟨by decide, by decide, by decide +kernel⟩, q153, q58, q155⟩
theorem lz_X3_38 : CLz RX3 38 yJ4_init_da8c8 cJ4_init_da8c8 1 none 0 := ⟨⟨by decide, by decide, by decide +kernel⟩, q207, q61, q209⟩
theorem x3_perm {α : Type} (o A1 A2 A3 hs hb sc sb : List α) : (o ++ (A1 ++ (A2 ++ (A3 ++ (hs ++ (sc ++ (sb ++ hb))))))).Perm ((((((o ++ (A1 ++ [])) ++ (A2 ++ [])) ++ (A3 ++ [])) ++ ((hs ++ hb) ++ [])) ++ (sc ++ [])) ++ (sb ++ [])) := by
  simp only [List.append_nil, List.append_assoc]
  refine List.Perm.append_left o (List.Perm.append_left A1 (List.Perm.append_left A2 (List.Perm.append_left A3 (List.Perm.append_left hs ?_))))
  rw [← List.append_assoc]
  exact List.perm_append_comm
/-- a new object: its values -/
def x0 : XV := ((0, -1, 0, 0, 0), bk0, bk0, bk0, (0, 0), sc0, (16, fun _ => 0, 0, 0, nI 0), fun _ => bk0)
theorem c_X3_init {l : Launch} {D : va_G} {g : G0} {o : Nat} : CtN l D g yX3_init cX3_init 1 none (rmN 3 100 86 1079) [(o, .inr (3, [.null, .null, .null, .null, .null, .null, .int 0, .int 0, .int 0, .int 0, .int 0]))] [.ref o] (fun rv w1 => rv = none ∧ ∃ A : XA, A.1 = o ∧ w1 = xW g A x0) 86 1079 := by
  refine CtN.ofI (by decide) (Nat.le_of_ble_eq_true rfl) ?_
  intro K C Z hBA el eD ekn hnm
  subst el
  subst eD
  show V K 0 0 [(o, .inr (3, [.null, .null, .null, .null, .null, .null, .int 0, .int 0, .int 0, .int 0, .int 0]))] [(0, .ref o)] [] 0
  refine V_aload_n C 0 1 dX3_init_0 rfl rfl ?_
  refine V_oinit C 4 q89 dX3_init_1 rfl ⟨by decide, by exact (by decide : 0 + 12 ≤ 100)⟩ ?_
  refine V_aload_n C 0 5 dX3_init_4 rfl rfl ?_
  refine V_newX C hBA nw_X3_7 8 (by exact (by decide : 1 ≤ 86)) (by exact (by decide : 13 ≤ 1079)) dX3_init_5 rfl (fun o0 => ?_)
  refine V_dup C 9 dX3_init_8 rfl rfl ?_
  refine V_callNn (as := []) (pre := [(o, .inr (3, [.null, .null, .null, .null, .null, .null, .int 0, .int 0, .int 0, .int 0, .int 0]))]) (w0 := [(o0, .inr (0, [.null, .null, .null, .null, .null, .null, .int 0, .int 0, .int 0, .int 0, .int 0, .int 0, .int 0]))]) (post := []) (rest := [.ref o0, .ref o]) C hBA Z.1 ln_X3_9 c_X0_init dX3_init_9 (by decide) rfl rfl rfl (by exact (by decide : 2 ≤ 8)) ⟨by exact (by decide : 7 ≤ 86), by exact (by decide : 81 ≤ 1079)⟩ (fun rv w1 hP => ?_)
  obtain ⟨rfl, B0, rfl, rfl⟩ := hP
  refine V_putF C hBA hnm 0 15 ([(o, .inr (3, [.ref B0.1, .null, .null, .null, .null, .null, .int 0, .int 0, .int 0, .int 0, .int 0]))] ++ (bkW g B0 bk0 ++ [])) fl_X3_10 fq_X3_0 dX3_init_12 rfl rfl (by exact (by decide : 0 < 11)) rfl rfl rfl ?_
  refine V_aload_n C 0 16 dX3_init_15 rfl rfl ?_
  refine V_newX C hBA nw_X3_7 19 (by exact (by decide : 8 ≤ 86)) (by exact (by decide : 94 ≤ 1079)) dX3_init_16 rfl (fun o1 => ?_)
  refine V_dup C 20 dX3_init_19 rfl rfl ?_
  refine V_callNn (as := []) (pre := ([(o, .inr (3, [.ref B0.1, .null, .null, .null, .null, .null, .int 0, .int 0, .int 0, .int 0, .int 0]))] ++ (bkW g B0 bk0 ++ []))) (w0 := [(o1, .inr (0, [.null, .null, .null, .null, .null, .null, .int 0, .int 0, .int 0, .int 0, .int 0, .int 0, .int 0]))]) (post := []) (rest := [.ref o1, .ref o]) C hBA Z.1 ln_X3_9 c_X0_init dX3_init_20 (by decide) rfl rfl rfl (by exact (by decide : 2 ≤ 8)) ⟨by exact (by decide : 14 ≤ 86), by exact (by decide : 162 ≤ 1079)⟩ (fun rv w1 hP => ?_)
  obtain ⟨rfl, B1, rfl, rfl⟩ := hP
  refine V_putF C hBA hnm 0 26 (([(o, .inr (3, [.ref B0.1, .ref B1.1, .null, .null, .null, .null, .int 0, .int 0, .int 0, .int 0, .int 0]))] ++ (bkW g B0 bk0 ++ [])) ++ (bkW g B1 bk0 ++ [])) fl_X3_16 fq_X3_1 dX3_init_23 rfl rfl (by exact (by decide : 1 < 11)) rfl rfl rfl ?_
  refine V_aload_n C 0 27 dX3_init_26 rfl rfl ?_
  refine V_newX C hBA nw_X3_7 30 (by exact (by decide : 15 ≤ 86)) (by exact (by decide : 175 ≤ 1079)) dX3_init_27 rfl (fun o2 => ?_)
  refine V_dup C 31 dX3_init_30 rfl rfl ?_
  refine V_callNn (as := []) (pre := (([(o, .inr (3, [.ref B0.1, .ref B1.1, .null, .null, .null, .null, .int 0, .int 0, .int 0, .int 0, .int 0]))] ++ (bkW g B0 bk0 ++ [])) ++ (bkW g B1 bk0 ++ []))) (w0 := [(o2, .inr (0, [.null, .null, .null, .null, .null, .null, .int 0, .int 0, .int 0, .int 0, .int 0, .int 0, .int 0]))]) (post := []) (rest := [.ref o2, .ref o]) C hBA Z.1 ln_X3_9 c_X0_init dX3_init_31 (by decide) rfl rfl rfl (by exact (by decide : 2 ≤ 8)) ⟨by exact (by decide : 21 ≤ 86), by exact (by decide : 243 ≤ 1079)⟩ (fun rv w1 hP => ?_)
  obtain ⟨rfl, B2, rfl, rfl⟩ := hP
  refine V_putF C hBA hnm 0 37 ((([(o, .inr (3, [.ref B0.1, .ref B1.1, .ref B2.1, .null, .null, .null, .int 0, .int 0, .int 0, .int 0, .int 0]))] ++ (bkW g B0 bk0 ++ [])) ++ (bkW g B1 bk0 ++ [])) ++ (bkW g B2 bk0 ++ [])) fl_X3_19 fq_X3_2 dX3_init_34 rfl rfl (by exact (by decide : 2 < 11)) rfl rfl rfl ?_
  refine V_aload_n C 0 38 dX3_init_37 rfl rfl ?_
  refine V_newX C hBA nw_X3_22 41 (by exact (by decide : 22 ≤ 86)) (by exact (by decide : 246 ≤ 1079)) dX3_init_38 rfl (fun o3 => ?_)
  refine V_dup C 42 dX3_init_41 rfl rfl ?_
  refine V_callNi (as := []) (pre := ((([(o, .inr (3, [.ref B0.1, .ref B1.1, .ref B2.1, .null, .null, .null, .int 0, .int 0, .int 0, .int 0, .int 0]))] ++ (bkW g B0 bk0 ++ [])) ++ (bkW g B1 bk0 ++ [])) ++ (bkW g B2 bk0 ++ []))) (w0 := [(o3, .inr (1, [.null, .int 0, .int 0]))]) (post := []) (rest := [.ref o3, .ref o]) C hBA Z.1 lz_X3_24 rfl q154 c_X1_init dX3_init_42 (by decide) rfl rfl rfl (by exact (by decide : 2 ≤ 8)) ⟨by exact (by decide : 79 ≤ 86), by exact (by decide : 902 ≤ 1079)⟩ (fun rv w1 hP => ?_)
  obtain ⟨rfl, H3, hA, rfl, rfl⟩ := hP
  refine V_putF C hBA hnm 0 48 (((([(o, .inr (3, [.ref B0.1, .ref B1.1, .ref B2.1, .ref H3.1, .null, .null, .int 0, .int 0, .int 0, .int 0, .int 0]))] ++ (bkW g B0 bk0 ++ [])) ++ (bkW g B1 bk0 ++ [])) ++ (bkW g B2 bk0 ++ [])) ++ ((hsW g H3 hA (0, 0) ++ hbW g hA (fun _ => bk0)) ++ [])) fl_X3_25 fq_X3_3 dX3_init_45 rfl rfl (by exact (by decide : 3 < 11)) rfl rfl rfl ?_
  refine V_aload_n C 0 49 dX3_init_48 rfl rfl ?_
  refine V_newX C hBA nw_X3_29 52 (by exact (by decide : 80 ≤ 86)) (by exact (by decide : 909 ≤ 1079)) dX3_init_49 rfl (fun o4 => ?_)
  refine V_dup C 53 dX3_init_52 rfl rfl ?_
  refine V_callNn (as := []) (pre := (((([(o, .inr (3, [.ref B0.1, .ref B1.1, .ref B2.1, .ref H3.1, .null, .null, .int 0, .int 0, .int 0, .int 0, .int 0]))] ++ (bkW g B0 bk0 ++ [])) ++ (bkW g B1 bk0 ++ [])) ++ (bkW g B2 bk0 ++ [])) ++ ((hsW g H3 hA (0, 0) ++ hbW g hA (fun _ => bk0)) ++ []))) (w0 := [(o4, .inr (2, [.null, .null, .null, .null, .int 0, .int 0, .int 0]))]) (post := []) (rest := [.ref o4, .ref o]) C hBA Z.1 ln_X3_31 c_X2_init dX3_init_53 (by decide) rfl rfl rfl (by exact (by decide : 2 ≤ 8)) ⟨by exact (by decide : 84 ≤ 86), by exact (by decide : 1059 ≤ 1079)⟩ (fun rv w1 hP => ?_)
  obtain ⟨rfl, S4, rfl, rfl⟩ := hP
  refine V_putF C hBA hnm 0 59 ((((([(o, .inr (3, [.ref B0.1, .ref B1.1, .ref B2.1, .ref H3.1, .ref S4.1, .null, .int 0, .int 0, .int 0, .int 0, .int 0]))] ++ (bkW g B0 bk0 ++ [])) ++ (bkW g B1 bk0 ++ [])) ++ (bkW g B2 bk0 ++ [])) ++ ((hsW g H3 hA (0, 0) ++ hbW g hA (fun _ => bk0)) ++ [])) ++ (scW g S4 sc0 ++ [])) fl_X3_32 fq_X3_4 dX3_init_56 rfl rfl (by exact (by decide : 4 < 11)) rfl rfl rfl ?_
  refine V_aload_n C 0 60 dX3_init_59 rfl rfl ?_
  refine V_newX C hBA nw_X3_36 63 (by exact (by decide : 85 ≤ 86)) (by exact (by decide : 1063 ≤ 1079)) dX3_init_60 rfl (fun o5 => ?_)
  refine V_dup C 64 dX3_init_63 rfl rfl ?_
  refine V_callNi (as := []) (pre := ((((([(o, .inr (3, [.ref B0.1, .ref B1.1, .ref B2.1, .ref H3.1, .ref S4.1, .null, .int 0, .int 0, .int 0, .int 0, .int 0]))] ++ (bkW g B0 bk0 ++ [])) ++ (bkW g B1 bk0 ++ [])) ++ (bkW g B2 bk0 ++ [])) ++ ((hsW g H3 hA (0, 0) ++ hbW g hA (fun _ => bk0)) ++ [])) ++ (scW g S4 sc0 ++ []))) (w0 := [(o5, .inr (5, [.null, .int 0, .int 0, .int 0]))]) (post := []) (rest := [.ref o5, .ref o]) C hBA Z.1 lz_X3_38 rfl q208 c_J4_init dX3_init_64 (by decide) rfl rfl rfl (by exact (by decide : 2 ≤ 8)) ⟨by exact (by decide : 86 ≤ 86), by exact (by decide : 1079 ≤ 1079)⟩ (fun rv w1 hP => ?_)
  obtain ⟨rfl, q5, rfl⟩ := hP
  refine V_putF C hBA hnm 0 70 (((((([(o, .inr (3, [.ref B0.1, .ref B1.1, .ref B2.1, .ref H3.1, .ref S4.1, .ref o5, .int 0, .int 0, .int 0, .int 0, .int 0]))] ++ (bkW g B0 bk0 ++ [])) ++ (bkW g B1 bk0 ++ [])) ++ (bkW g B2 bk0 ++ [])) ++ ((hsW g H3 hA (0, 0) ++ hbW g hA (fun _ => bk0)) ++ [])) ++ (scW g S4 sc0 ++ [])) ++ (sbW g (o5, q5) (16, fun _ => 0, 0, 0, nI 0) ++ [])) fl_X3_39 fq_X3_5 dX3_init_67 rfl rfl (by exact (by decide : 5 < 11)) rfl rfl rfl ?_
  refine V_aload_n C 0 71 dX3_init_70 rfl rfl ?_
  refine V_iconst C (0 : Int32) 72 dX3_init_71 rfl rfl ?_
  refine V_put C hBA 0 75 (((((([(o, .inr (3, [.ref B0.1, .ref B1.1, .ref B2.1, .ref H3.1, .ref S4.1, .ref o5, .int (0 : Int32), .int 0, .int 0, .int 0, .int 0]))] ++ (bkW g B0 bk0 ++ [])) ++ (bkW g B1 bk0 ++ [])) ++ (bkW g B2 bk0 ++ [])) ++ ((hsW g H3 hA (0, 0) ++ hbW g hA (fun _ => bk0)) ++ [])) ++ (scW g S4 sc0 ++ [])) ++ (sbW g (o5, q5) (16, fun _ => 0, 0, 0, nI 0) ++ [])) fl_X3_43 fp_X3_6 dX3_init_72 rfl rfl (by exact (by decide : 6 < 11)) (by decide) (by decide) rfl ?_
  refine V_aload_n C 0 76 dX3_init_75 rfl rfl ?_
  refine V_iconst C (-1 : Int32) 77 dX3_init_76 rfl rfl ?_
  refine V_put C hBA 0 80 (((((([(o, .inr (3, [.ref B0.1, .ref B1.1, .ref B2.1, .ref H3.1, .ref S4.1, .ref o5, .int (0 : Int32), .int (-1 : Int32), .int 0, .int 0, .int 0]))] ++ (bkW g B0 bk0 ++ [])) ++ (bkW g B1 bk0 ++ [])) ++ (bkW g B2 bk0 ++ [])) ++ ((hsW g H3 hA (0, 0) ++ hbW g hA (fun _ => bk0)) ++ [])) ++ (scW g S4 sc0 ++ [])) ++ (sbW g (o5, q5) (16, fun _ => 0, 0, 0, nI 0) ++ [])) fl_X3_47 fp_X3_7 dX3_init_77 rfl rfl (by exact (by decide : 7 < 11)) (by decide) (by decide) rfl ?_
  refine V_aload_n C 0 81 dX3_init_80 rfl rfl ?_
  refine V_iconst C (0 : Int32) 82 dX3_init_81 rfl rfl ?_
  refine V_put C hBA 0 85 (((((([(o, .inr (3, [.ref B0.1, .ref B1.1, .ref B2.1, .ref H3.1, .ref S4.1, .ref o5, .int (0 : Int32), .int (-1 : Int32), .int (0 : Int32), .int 0, .int 0]))] ++ (bkW g B0 bk0 ++ [])) ++ (bkW g B1 bk0 ++ [])) ++ (bkW g B2 bk0 ++ [])) ++ ((hsW g H3 hA (0, 0) ++ hbW g hA (fun _ => bk0)) ++ [])) ++ (scW g S4 sc0 ++ [])) ++ (sbW g (o5, q5) (16, fun _ => 0, 0, 0, nI 0) ++ [])) fl_X3_51 fp_X3_8 dX3_init_82 rfl rfl (by exact (by decide : 8 < 11)) (by decide) (by decide) rfl ?_
  refine V_aload_n C 0 86 dX3_init_85 rfl rfl ?_
  refine V_iconst C (0 : Int32) 87 dX3_init_86 rfl rfl ?_
  refine V_put C hBA 0 90 (((((([(o, .inr (3, [.ref B0.1, .ref B1.1, .ref B2.1, .ref H3.1, .ref S4.1, .ref o5, .int (0 : Int32), .int (-1 : Int32), .int (0 : Int32), .int (0 : Int32), .int 0]))] ++ (bkW g B0 bk0 ++ [])) ++ (bkW g B1 bk0 ++ [])) ++ (bkW g B2 bk0 ++ [])) ++ ((hsW g H3 hA (0, 0) ++ hbW g hA (fun _ => bk0)) ++ [])) ++ (scW g S4 sc0 ++ [])) ++ (sbW g (o5, q5) (16, fun _ => 0, 0, 0, nI 0) ++ [])) fl_X3_54 fp_X3_9 dX3_init_87 rfl rfl (by exact (by decide : 9 < 11)) (by decide) (by decide) rfl ?_
  refine V_aload_n C 0 91 dX3_init_90 rfl rfl ?_
  refine V_iconst C (0 : Int32) 92 dX3_init_91 rfl rfl ?_
  refine V_put C hBA 0 95 (((((([(o, .inr (3, [.ref B0.1, .ref B1.1, .ref B2.1, .ref H3.1, .ref S4.1, .ref o5, .int (0 : Int32), .int (-1 : Int32), .int (0 : Int32), .int (0 : Int32), .int (0 : Int32)]))] ++ (bkW g B0 bk0 ++ [])) ++ (bkW g B1 bk0 ++ [])) ++ (bkW g B2 bk0 ++ [])) ++ ((hsW g H3 hA (0, 0) ++ hbW g hA (fun _ => bk0)) ++ [])) ++ (scW g S4 sc0 ++ [])) ++ (sbW g (o5, q5) (16, fun _ => 0, 0, 0, nI 0) ++ [])) fl_X3_57 fp_X3_10 dX3_init_92 rfl rfl (by exact (by decide : 10 < 11)) (by decide) (by decide) rfl ?_
  refine V_perm (ws2 := xW g (o, B0, B1, B2, H3, S4, (o5, q5), hA) x0) (x3_perm [(o, .inr (3, [.ref B0.1, .ref B1.1, .ref B2.1, .ref H3.1, .ref S4.1, .ref o5, .int (0 : Int32), .int (-1 : Int32), .int (0 : Int32), .int (0 : Int32), .int (0 : Int32)]))] (bkW g B0 bk0) (bkW g B1 bk0) (bkW g B2 bk0) (hsW g H3 hA (0, 0)) (hbW g hA (fun _ => bk0)) (scW g S4 sc0) (sbW g (o5, q5) (16, fun _ => 0, 0, 0, nI 0))) ?_
  exact V_nretV C Z rfl ⟨rfl, (o, B0, B1, B2, H3, S4, (o5, q5), hA), rfl, rfl⟩ dX3_init_95 (by exact (by decide : 86 ≤ 86)) (by exact (by decide : 1079 ≤ 1079))
