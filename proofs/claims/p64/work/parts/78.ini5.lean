/-! ===== constructors: StringBuilder ===== -/
theorem q213x : Cond.methodLink "java/lang/AbstractStringBuilder" 3 ⟨"java/lang/Object", "<init>", "()V"⟩ ∈ wU := mU 161 (by decide +kernel) (by decide +kernel)
theorem c_J5_init {l : Launch} {D : va_G} {g : G0} {o : Nat} : CtN l D g yJ5_init_d00df cJ5_init_d00df 2 none (rmN 1 40 1 16) [(o, .inr (5, [.null, .int 0, .int 0, .int 0]))] [.ref o, .int (nI 16)] (fun rv w1 => rv = none ∧ ∃ q : Nat, w1 = sbW g (o, q) (16, fun _ => 0, 0, 0, nI 0)) 1 16 := by
  refine CtN.of (by decide) (Nat.le_of_ble_eq_true rfl) ?_
  intro K C Z hBA el eD ekn
  subst el
  subst eD
  show V K 0 0 [(o, .inr (5, [.null, .int 0, .int 0, .int 0]))] [(0, .ref o), (1, .int (nI 16))] [] 0
  refine V_aload_n C 0 1 dJ5_init_d00df_0 rfl rfl ?_
  refine V_oinit C 4 q213x dJ5_init_d00df_1 rfl ⟨by decide, by exact (by decide : 0 + 12 ≤ 40)⟩ ?_
  refine V_gets C 7 Z.1.1.1 q214 rfl dJ5_init_d00df_4 rfl ?_
  refine V_if_eq C 25 10 dJ5_init_d00df_7 rfl rfl (fun e => absurd e (by decide)) (fun _ => ?_)
  refine V_aload_n C 0 11 dJ5_init_d00df_10 rfl rfl ?_
  refine V_iload_n C 1 12 dJ5_init_d00df_11 rfl rfl ?_
  refine V_newB C hBA 16 14 q237 (by decide) (by decide) (by decide) (Nat.le_refl _) (Nat.le_refl _) dJ5_init_d00df_12 rfl (fun q => ?_)
  show V K 1 16 [(o, .inr (5, [.null, .int 0, .int 0, .int 0])), (q, aB g 16 (fun _ => 0))] [(0, .ref o), (1, .int (nI 16))] [.ref q, .ref o] 14
  refine V_put C hBA 0 17 [(o, .inr (5, [.ref q, .int 0, .int 0, .int 0])), (q, aB g 16 (fun _ => 0))] fl_J5_15 fp_J4_0 dJ5_init_d00df_14 rfl rfl (by exact (by decide : 0 < 4)) rfl rfl rfl ?_
  refine V_aload_n C 0 18 dJ5_init_d00df_17 rfl rfl ?_
  refine V_iconst C (0 : Int32) 19 dJ5_init_d00df_18 rfl rfl ?_
  refine V_put C hBA 0 22 [(o, .inr (5, [.ref q, .int 0, .int 0, .int 0])), (q, aB g 16 (fun _ => 0))] fl_J5_22 fp_J4_1 dJ5_init_d00df_19 rfl rfl (by exact (by decide : 1 < 4)) (by decide) (by decide) rfl ?_
  refine V_goto C 38 dJ5_init_d00df_22 rfl ?_
  exact V_nretV C Z rfl ⟨rfl, q, rfl⟩ dJ5_init_d00df_38 (Nat.le_refl _) (Nat.le_refl _)
theorem c_J4_init {l : Launch} {D : va_G} {g : G0} {o : Nat} : CtN l D g yJ4_init_da8c8 cJ4_init_da8c8 1 none (rmN 2 70 1 16) [(o, .inr (5, [.null, .int 0, .int 0, .int 0]))] [.ref o] (fun rv w1 => rv = none ∧ ∃ q : Nat, w1 = sbW g (o, q) (16, fun _ => 0, 0, 0, nI 0)) 1 16 := by
  refine CtN.of (by decide) (Nat.le_of_ble_eq_true rfl) ?_
  intro K C Z hBA el eD ekn
  subst el
  subst eD
  show V K 0 0 [(o, .inr (5, [.null, .int 0, .int 0, .int 0]))] [(0, .ref o)] [] 0
  refine V_aload_n C 0 1 dJ4_init_da8c8_0 rfl rfl ?_
  refine V_bipush C (nI 16) 3 dJ4_init_da8c8_1 rfl rfl ?_
  refine V_callNi (as := [.int (nI 16)]) (pre := []) (w0 := [(o, .inr (5, [.null, .int 0, .int 0, .int 0]))]) (post := []) (rest := []) C hBA Z.1 lz_J4_1 rfl q211 c_J5_init dJ4_init_da8c8_3 (by decide) rfl rfl rfl (by decide) ⟨Nat.le_refl _, Nat.le_refl _⟩ (fun rv w1 hP => ?_)
  obtain ⟨rfl, q, rfl⟩ := hP
  exact V_nretV C Z rfl ⟨rfl, q, rfl⟩ dJ4_init_da8c8_6 (Nat.le_refl _) (Nat.le_refl _)
