set_option maxHeartbeats 4000000 in
set_option maxRecDepth 100000 in
theorem c_X2_append {l : Launch} {D : va_G} {g : G0} {A : ScA} {v : ScV} {a1 : Int32} {R : (Int32 × ScV)} (h : f_X2_append v a1 = some R) : CtS l D g yX2_append cX2_append 2 (some .int) (rmF 0 0) (scW g A v) [.ref A.1, .int a1] (some (.int R.1)) (scW g A R.2) := by
  refine CtS.of (by decide) (Nat.le_of_ble_eq_true rfl) ?_
  intro K C hBA el eD ekn retI retV
  subst el
  subst eD
  have hlt : ∀ i, i < 2 → i < kn K := fun i h => by rw [ekn]; exact h
  have B29 : ∀ (x1 : Int32) (v : ScV), f_X2_append_B29 x1 v = some R → V K 0 0 (scW g A v) [(0, .ref A.1), (1, .int x1)] [] 29 := by
    intro x1 v h
    rw [f_X2_append_B29] at h
    refine V_aload_n C 0 30 dX2_append_29 rfl rfl ?_
    refine V_get C (v := .int (Sc_length v)) 0 33 fl_X2_25 dX2_append_30 rfl rfl rfl ?_
    obtain rfl := Option.some.inj h
    exact retI _ _ _ .int rfl (rfl) rfl dX2_append_33
  show V K 0 0 _ [(0, .ref A.1), (1, .int a1)] [] 0
  unfold f_X2_append at h
  refine V_aload_n C 0 1 dX2_append_0 rfl rfl ?_
  refine V_get C (v := .int (Sc_length v)) 0 4 fl_X2_25 dX2_append_1 rfl rfl rfl ?_
  refine V_bipush C (60 : Int32) 6 dX2_append_4 rfl rfl ?_
  refine V_icmp_ge C 29 9 dX2_append_6 rfl rfl (fun e1 => ?_) (fun e1 => ?_)
  · have h := (if_pos e1).symm.trans h
    refine V_lv [0, 1] rfl ?_
    exact B29 _ _ h
  · have h := (if_neg e1).symm.trans h
    refine V_aload_n C 0 10 dX2_append_9 rfl rfl ?_
    refine V_get C (v := .ref A.2.1) 0 13 fl_X2_9 dX2_append_10 rfl rfl rfl ?_
    refine V_aload_n C 0 14 dX2_append_13 rfl rfl ?_
    refine V_get C (v := .int (Sc_length v)) 0 17 fl_X2_25 dX2_append_14 rfl rfl rfl ?_
    refine V_iload_n C 1 18 dX2_append_17 rfl rfl ?_
    obtain ⟨g2, h⟩ := gd_some h
    refine V_cast C hBA (f := (Sc_input v)) (n := 60) 1 19 (scW g A ((upd (Sc_input v) (cl (Sc_length v)) (vp_nar .char a1)), (Sc_kinds v), (Sc_firsts v), (Sc_seconds v), (Sc_length v), (Sc_commands v), (Sc_at v))) dX2_append_18 rfl rfl g2 rfl ?_
    refine V_aload_n C 0 20 dX2_append_19 rfl rfl ?_
    refine V_dup C 21 dX2_append_20 rfl rfl ?_
    refine V_get C (v := .int (Sc_length v)) 0 24 fl_X2_25 dX2_append_21 rfl rfl rfl ?_
    refine V_iconst C (1 : Int32) 25 dX2_append_24 rfl rfl ?_
    refine V_iadd C 26 dX2_append_25 rfl ?_
    refine V_put C hBA 0 29 (scW g A ((upd (Sc_input v) (cl (Sc_length v)) (vp_nar .char a1)), (Sc_kinds v), (Sc_firsts v), (Sc_seconds v), ((Sc_length v) + (1 : Int32)), (Sc_commands v), (Sc_at v))) fl_X2_25 fp_X2_4 dX2_append_26 rfl rfl (Nat.le_of_ble_eq_true rfl) rfl rfl rfl ?_
    refine V_lv [0, 1] rfl ?_
    exact B29 _ _ h
set_option maxHeartbeats 4000000 in
set_option maxRecDepth 100000 in
theorem c_X2_takesDigitLast {l : Launch} {D : va_G} {g : G0} {A : ScA} {v : ScV} {a1 : Int32} {R : Int32} (h : f_X2_takesDigitLast v a1 = some R) : CtP l D g yX2_takesDigitLast cX2_takesDigitLast 2 (some .boolean) (rmF 0 0) (scW g A v) [.ref A.1, .int a1] (some (.int R)) := by
  refine CtP.of (by decide) rfl rfl (Nat.le_of_ble_eq_true rfl) ?_
  intro K C el eD ekn retI
  subst el
  subst eD
  have hlt : ∀ i, i < 2 → i < kn K := fun i h => by rw [ekn]; exact h
  have B17 : ∀ (x1 : Int32) (s0 : Int32), f_X2_takesDigitLast_B17 v x1 s0 = some R → V K 0 0 (scW g A v) [(0, .ref A.1), (1, .int x1)] [.int s0] 17 := by
    intro x1 s0 h
    rw [f_X2_takesDigitLast_B17] at h
    obtain ⟨g1, h⟩ := gd_some h
    obtain rfl := Option.some.inj h
    exact retI _ _ _ .boolean rfl (isz_t g1) rfl dX2_takesDigitLast_17
  have B12 : ∀ (x1 : Int32), f_X2_takesDigitLast_B12 v x1 = some R → V K 0 0 (scW g A v) [(0, .ref A.1), (1, .int x1)] [] 12 := by
    intro x1 h
    rw [f_X2_takesDigitLast_B12] at h
    refine V_iconst C (1 : Int32) 13 dX2_takesDigitLast_12 rfl rfl ?_
    refine V_goto C 17 dX2_takesDigitLast_13 rfl ?_
    refine V_lv [0, 1] rfl ?_
    exact B17 _ _ h
  show V K 0 0 _ [(0, .ref A.1), (1, .int a1)] [] 0
  unfold f_X2_takesDigitLast at h
  refine V_iload_n C 1 1 dX2_takesDigitLast_0 rfl rfl ?_
  refine V_bipush C (82 : Int32) 3 dX2_takesDigitLast_1 rfl rfl ?_
  refine V_icmp_eq C 12 6 dX2_takesDigitLast_3 rfl rfl (fun e2 => ?_) (fun e2 => ?_)
  · have h := (if_pos e2).symm.trans h
    refine V_lv [0, 1] rfl ?_
    exact B12 _ h
  · have h := (if_neg e2).symm.trans h
    refine V_iload_n C 1 7 dX2_takesDigitLast_6 rfl rfl ?_
    refine V_bipush C (69 : Int32) 9 dX2_takesDigitLast_7 rfl rfl ?_
    refine V_icmp_ne C 16 12 dX2_takesDigitLast_9 rfl rfl (fun e3 => ?_) (fun e3 => ?_)
    · have h := (if_neg e3).symm.trans h
      refine V_iconst C (0 : Int32) 17 dX2_takesDigitLast_16 rfl rfl ?_
      refine V_lv [0, 1] rfl ?_
      exact B17 _ _ h
    · have h := (if_pos e3).symm.trans h
      refine V_lv [0, 1] rfl ?_
      exact B12 _ h
set_option maxHeartbeats 4000000 in
set_option maxRecDepth 100000 in
theorem c_X2_hasSecond {l : Launch} {D : va_G} {g : G0} {A : ScA} {v : ScV} {a1 : Int32} {R : Int32} (h : f_X2_hasSecond v a1 = some R) : CtP l D g yX2_hasSecond cX2_hasSecond 2 (some .boolean) (rmF 1 21) (scW g A v) [.ref A.1, .int a1] (some (.int R)) := by
  refine CtP.of (by decide) rfl rfl (Nat.le_of_ble_eq_true rfl) ?_
  intro K C el eD ekn retI
  subst el
  subst eD
  have hlt : ∀ i, i < 2 → i < kn K := fun i h => by rw [ekn]; exact h
  have B25 : ∀ (x1 : Int32) (s0 : Int32), f_X2_hasSecond_B25 v x1 s0 = some R → V K 0 0 (scW g A v) [(0, .ref A.1), (1, .int x1)] [.int s0] 25 := by
    intro x1 s0 h
    rw [f_X2_hasSecond_B25] at h
    obtain ⟨g1, h⟩ := gd_some h
    obtain rfl := Option.some.inj h
    exact retI _ _ _ .boolean rfl (isz_t g1) rfl dX2_hasSecond_25
  have B20 : ∀ (x1 : Int32), f_X2_hasSecond_B20 v x1 = some R → V K 0 0 (scW g A v) [(0, .ref A.1), (1, .int x1)] [] 20 := by
    intro x1 h
    rw [f_X2_hasSecond_B20] at h
    refine V_iconst C (1 : Int32) 21 dX2_hasSecond_20 rfl rfl ?_
    refine V_goto C 25 dX2_hasSecond_21 rfl ?_
    refine V_lv [0, 1] rfl ?_
    exact B25 _ _ h
  show V K 0 0 _ [(0, .ref A.1), (1, .int a1)] [] 0
  unfold f_X2_hasSecond at h
  refine V_aload_n C 0 1 dX2_hasSecond_0 rfl rfl ?_
  refine V_iload_n C 1 2 dX2_hasSecond_1 rfl rfl ?_
  obtain ⟨r2, k3, h⟩ := bd_some h
  refine V_callP C ml_X2_59 (pre := []) (post := []) (w := scW g A v) (as := [.int a1]) (rest := []) (c_X2_takesDigitLast k3) 0 5 dX2_hasSecond_2 rfl ⟨Nat.le_of_ble_eq_true rfl, Nat.le_of_ble_eq_true rfl⟩ rfl (rfl) rfl rfl rfl (Nat.le_of_ble_eq_true rfl) ⟨Nat.zero_le _, Nat.zero_le _⟩ ?_
  refine V_if_ne C 20 8 dX2_hasSecond_5 rfl rfl (fun e4 => ?_) (fun e4 => ?_)
  · have h := (if_neg e4).symm.trans h
    refine V_lv [0, 1] rfl ?_
    exact B20 _ h
  · have h := (if_pos e4).symm.trans h
    refine V_iload_n C 1 9 dX2_hasSecond_8 rfl rfl ?_
    refine V_bipush C (77 : Int32) 11 dX2_hasSecond_9 rfl rfl ?_
    refine V_icmp_eq C 20 14 dX2_hasSecond_11 rfl rfl (fun e5 => ?_) (fun e5 => ?_)
    · have h := (if_pos e5).symm.trans h
      refine V_lv [0, 1] rfl ?_
      exact B20 _ h
    · have h := (if_neg e5).symm.trans h
      refine V_iload_n C 1 15 dX2_hasSecond_14 rfl rfl ?_
      refine V_bipush C (83 : Int32) 17 dX2_hasSecond_15 rfl rfl ?_
      refine V_icmp_ne C 24 20 dX2_hasSecond_17 rfl rfl (fun e6 => ?_) (fun e6 => ?_)
      · have h := (if_neg e6).symm.trans h
        refine V_iconst C (0 : Int32) 25 dX2_hasSecond_24 rfl rfl ?_
        refine V_lv [0, 1] rfl ?_
        exact B25 _ _ h
      · have h := (if_pos e6).symm.trans h
        refine V_lv [0, 1] rfl ?_
        exact B20 _ h
set_option maxHeartbeats 4000000 in
set_option maxRecDepth 100000 in
theorem c_X2_isKind {l : Launch} {D : va_G} {g : G0} {A : ScA} {v : ScV} {a1 : Int32} {R : Int32} (h : f_X2_isKind v a1 = some R) : CtP l D g yX2_isKind cX2_isKind 2 (some .boolean) (rmF 2 42) (scW g A v) [.ref A.1, .int a1] (some (.int R)) := by
  refine CtP.of (by decide) rfl rfl (Nat.le_of_ble_eq_true rfl) ?_
  intro K C el eD ekn retI
  subst el
  subst eD
  have hlt : ∀ i, i < 2 → i < kn K := fun i h => by rw [ekn]; exact h
  show V K 0 0 _ [(0, .ref A.1), (1, .int a1)] [] 0
  unfold f_X2_isKind at h
  refine V_iload_n C 1 1 dX2_isKind_0 rfl rfl ?_
  by_cases e4 : a1 = (66 : Int32)
  · have h := (if_pos e4).symm.trans h
    refine V_lsw C (x := a1) 52 dX2_isKind_1 (by first | (rw [e4]; done) | (rw [e4]; rfl)) rfl (by decide) ?_
    refine V_iconst C (1 : Int32) 53 dX2_isKind_52 rfl rfl ?_
    obtain rfl := Option.some.inj h
    exact retI _ _ _ .boolean rfl (rfl) rfl dX2_isKind_53
  have h := (if_neg e4).symm.trans h
  by_cases e5 : a1 = (67 : Int32)
  · have h := (if_pos e5).symm.trans h
    refine V_lsw C (x := a1) 52 dX2_isKind_1 (by first | (rw [e5]; done) | (rw [e5]; rfl)) rfl (by decide) ?_
    refine V_iconst C (1 : Int32) 53 dX2_isKind_52 rfl rfl ?_
    obtain rfl := Option.some.inj h
    exact retI _ _ _ .boolean rfl (rfl) rfl dX2_isKind_53
  have h := (if_neg e5).symm.trans h
  by_cases e6 : a1 = (84 : Int32)
  · have h := (if_pos e6).symm.trans h
    refine V_lsw C (x := a1) 52 dX2_isKind_1 (by first | (rw [e6]; done) | (rw [e6]; rfl)) rfl (by decide) ?_
    refine V_iconst C (1 : Int32) 53 dX2_isKind_52 rfl rfl ?_
    obtain rfl := Option.some.inj h
    exact retI _ _ _ .boolean rfl (rfl) rfl dX2_isKind_53
  have h := (if_neg e6).symm.trans h
  by_cases e7 : a1 = (86 : Int32)
  · have h := (if_pos e7).symm.trans h
    refine V_lsw C (x := a1) 52 dX2_isKind_1 (by first | (rw [e7]; done) | (rw [e7]; rfl)) rfl (by decide) ?_
    refine V_iconst C (1 : Int32) 53 dX2_isKind_52 rfl rfl ?_
    obtain rfl := Option.some.inj h
    exact retI _ _ _ .boolean rfl (rfl) rfl dX2_isKind_53
  have h := (if_neg e7).symm.trans h
  by_cases e8 : a1 = (88 : Int32)
  · have h := (if_pos e8).symm.trans h
    refine V_lsw C (x := a1) 52 dX2_isKind_1 (by first | (rw [e8]; done) | (rw [e8]; rfl)) rfl (by decide) ?_
    refine V_iconst C (1 : Int32) 53 dX2_isKind_52 rfl rfl ?_
    obtain rfl := Option.some.inj h
    exact retI _ _ _ .boolean rfl (rfl) rfl dX2_isKind_53
  have h := (if_neg e8).symm.trans h
  refine V_lsw C (x := a1) (off := 53) 54 dX2_isKind_1 (by show Op.lookupswitch.offset [(66, 51), (67, 51), (84, 51), (86, 51), (88, 51)] 53 _ = _; rw [lv_osw (a := 66) e4 rfl, lv_osw (a := 67) e5 rfl, lv_osw (a := 84) e6 rfl, lv_osw (a := 86) e7 rfl, lv_osw (a := 88) e8 rfl]; try rfl) rfl (by decide) ?_
  refine V_aload_n C 0 55 dX2_isKind_54 rfl rfl ?_
  refine V_iload_n C 1 56 dX2_isKind_55 rfl rfl ?_
  obtain ⟨r1, k2, h⟩ := bd_some h
  refine V_callP C ml_X2_56 (pre := []) (post := []) (w := scW g A v) (as := [.int a1]) (rest := []) (c_X2_hasSecond k2) 0 59 dX2_isKind_56 rfl ⟨Nat.le_of_ble_eq_true rfl, Nat.le_of_ble_eq_true rfl⟩ rfl (rfl) rfl rfl rfl (Nat.le_of_ble_eq_true rfl) ⟨Nat.zero_le _, Nat.zero_le _⟩ ?_
  obtain ⟨g3, h⟩ := gd_some h
  obtain rfl := Option.some.inj h
  exact retI _ _ _ .boolean rfl (isz_t g3) rfl dX2_isKind_59
set_option maxHeartbeats 4000000 in
set_option maxRecDepth 100000 in
theorem c_X2_readDigit {l : Launch} {D : va_G} {g : G0} {A : ScA} {v : ScV} {R : (Int32 × ScV)} (h : f_X2_readDigit v  = some R) : CtS l D g yX2_readDigit cX2_readDigit 2 (some .int) (rmF 0 0) (scW g A v) [.ref A.1] (some (.int R.1)) (scW g A R.2) := by
  refine CtS.of (by decide) (Nat.le_of_ble_eq_true rfl) ?_
  intro K C hBA el eD ekn retI retV
  subst el
  subst eD
  have hlt : ∀ i, i < 2 → i < kn K := fun i h => by rw [ekn]; exact h
  have B39 : ∀ (v : ScV), f_X2_readDigit_B39 v = some R → V K 0 0 (scW g A v) [(0, .ref A.1)] [] 39 := by
    intro v h
    rw [f_X2_readDigit_B39] at h
    refine V_iconst C (-1 : Int32) 40 dX2_readDigit_39 rfl rfl ?_
    obtain rfl := Option.some.inj h
    exact retI _ _ _ .int rfl (rfl) rfl dX2_readDigit_40
  show V K 0 0 _ [(0, .ref A.1)] [] 0
  unfold f_X2_readDigit at h
  refine V_aload_n C 0 1 dX2_readDigit_0 rfl rfl ?_
  refine V_get C (v := .int (Sc_at v)) 0 4 fl_X2_32 dX2_readDigit_1 rfl rfl rfl ?_
  refine V_aload_n C 0 5 dX2_readDigit_4 rfl rfl ?_
  refine V_get C (v := .int (Sc_length v)) 0 8 fl_X2_25 dX2_readDigit_5 rfl rfl rfl ?_
  refine V_icmp_ge C 39 11 dX2_readDigit_8 rfl rfl (fun e1 => ?_) (fun e1 => ?_)
  · have h := (if_pos e1).symm.trans h
    refine V_lv [0] rfl ?_
    exact B39 _ h
  · have h := (if_neg e1).symm.trans h
    refine V_aload_n C 0 12 dX2_readDigit_11 rfl rfl ?_
    refine V_get C (v := .ref A.2.1) 0 15 fl_X2_9 dX2_readDigit_12 rfl rfl rfl ?_
    refine V_aload_n C 0 16 dX2_readDigit_15 rfl rfl ?_
    refine V_get C (v := .int (Sc_at v)) 0 19 fl_X2_32 dX2_readDigit_16 rfl rfl rfl ?_
    obtain ⟨g2, h⟩ := gd_some h
    refine V_cald C (f := (Sc_input v)) (n := 60) 1 20 dX2_readDigit_19 rfl rfl g2 ?_
    refine V_bipush C (48 : Int32) 22 dX2_readDigit_20 rfl rfl ?_
    refine V_icmp_lt C 39 25 dX2_readDigit_22 rfl rfl (fun e3 => ?_) (fun e3 => ?_)
    · have h := (if_pos e3).symm.trans h
      refine V_lv [0] rfl ?_
      exact B39 _ h
    · have h := (if_neg e3).symm.trans h
      refine V_aload_n C 0 26 dX2_readDigit_25 rfl rfl ?_
      refine V_get C (v := .ref A.2.1) 0 29 fl_X2_9 dX2_readDigit_26 rfl rfl rfl ?_
      refine V_aload_n C 0 30 dX2_readDigit_29 rfl rfl ?_
      refine V_get C (v := .int (Sc_at v)) 0 33 fl_X2_32 dX2_readDigit_30 rfl rfl rfl ?_
      obtain ⟨g4, h⟩ := gd_some h
      refine V_cald C (f := (Sc_input v)) (n := 60) 1 34 dX2_readDigit_33 rfl rfl g4 ?_
      refine V_bipush C (57 : Int32) 36 dX2_readDigit_34 rfl rfl ?_
      refine V_icmp_le C 41 39 dX2_readDigit_36 rfl rfl (fun e5 => ?_) (fun e5 => ?_)
      · have h := (if_pos e5).symm.trans h
        refine V_aload_n C 0 42 dX2_readDigit_41 rfl rfl ?_
        refine V_get C (v := .ref A.2.1) 0 45 fl_X2_9 dX2_readDigit_42 rfl rfl rfl ?_
        refine V_aload_n C 0 46 dX2_readDigit_45 rfl rfl ?_
        refine V_get C (v := .int (Sc_at v)) 0 49 fl_X2_32 dX2_readDigit_46 rfl rfl rfl ?_
        obtain ⟨g6, h⟩ := gd_some h
        refine V_cald C (f := (Sc_input v)) (n := 60) 1 50 dX2_readDigit_49 rfl rfl g6 ?_
        refine V_bipush C (48 : Int32) 52 dX2_readDigit_50 rfl rfl ?_
        refine V_isub C 53 dX2_readDigit_52 rfl ?_
        refine V_istore_n C 54 [(1, .int (((Sc_input v) (cl (Sc_at v))) - (48 : Int32))), (0, .ref A.1)] dX2_readDigit_53 rfl (hlt 1 (by decide)) rfl ?_
        refine V_aload_n C 1 55 dX2_readDigit_54 rfl rfl ?_
        refine V_dup C 56 dX2_readDigit_55 rfl rfl ?_
        refine V_get C (v := .int (Sc_at v)) 0 59 fl_X2_32 dX2_readDigit_56 rfl rfl rfl ?_
        refine V_iconst C (1 : Int32) 60 dX2_readDigit_59 rfl rfl ?_
        refine V_iadd C 61 dX2_readDigit_60 rfl ?_
        refine V_put C hBA 0 64 (scW g A ((Sc_input v), (Sc_kinds v), (Sc_firsts v), (Sc_seconds v), (Sc_length v), (Sc_commands v), ((Sc_at v) + (1 : Int32)))) fl_X2_32 fp_X2_6 dX2_readDigit_61 rfl rfl (Nat.le_of_ble_eq_true rfl) rfl rfl rfl ?_
        refine V_iload_n C 0 65 dX2_readDigit_64 rfl rfl ?_
        obtain rfl := Option.some.inj h
        exact retI _ _ _ .int rfl (rfl) rfl dX2_readDigit_65
      · have h := (if_neg e5).symm.trans h
        refine V_lv [0] rfl ?_
        exact B39 _ h
set_option maxHeartbeats 4000000 in
set_option maxRecDepth 100000 in
theorem c_X2_readNumber {l : Launch} {D : va_G} {g : G0} {A : ScA} {v : ScV} {R : (Int32 × ScV)} (h : f_X2_readNumber v  = some R) : CtS l D g yX2_readNumber cX2_readNumber 4 (some .int) (rmF 1 21) (scW g A v) [.ref A.1] (some (.int R.1)) (scW g A R.2) := by
  refine CtS.of (by decide) (Nat.le_of_ble_eq_true rfl) ?_
  intro K C hBA el eD ekn retI retV
  subst el
  subst eD
  have hlt : ∀ i, i < 4 → i < kn K := fun i h => by rw [ekn]; exact h
  have B35 : ∀ (J : Int32 → Int32 → ScV → Option (Int32 × ScV)) (hJ : ∀ (x1 : Int32) (x2 : Int32) (v : ScV), J x1 x2 v = some R → V K 0 0 (scW g A v) [(0, .ref A.1), (1, .int x1), (2, .int x2)] [] 4) (x1 : Int32) (x2 : Int32) (x3 : Int32) (s0 : Int32) (v : ScV), f_X2_readNumber_B35 J x1 x2 x3 s0 v = some R → V K 0 0 (scW g A v) [(0, .ref A.1), (1, .int x1), (2, .int x2), (3, .int x3)] [.int s0] 35 := by
    intro J hJ x1 x2 x3 s0 v h
    rw [f_X2_readNumber_B35] at h
    refine V_istore_n C 36 [(1, .int s0), (0, .ref A.1), (2, .int x2), (3, .int x3)] dX2_readNumber_35 rfl (hlt 1 (by decide)) rfl ?_
    refine V_iinc C 2 (x2 + (1 : Int32)) 39 [(2, .int (x2 + (1 : Int32))), (1, .int s0), (0, .ref A.1), (3, .int x3)] dX2_readNumber_36 rfl rfl rfl (hlt 2 (by decide)) rfl ?_
    refine V_goto C 4 dX2_readNumber_39 rfl ?_
    refine V_lv [2, 1, 0] rfl ?_
    exact hJ _ _ _ h
  have L4 : ∀ (n : Nat) (x1 : Int32) (x2 : Int32) (v : ScV), f_X2_readNumber_L4 n x1 x2 v = some R → V K 0 0 (scW g A v) [(0, .ref A.1), (1, .int x1), (2, .int x2)] [] 4 := by
    intro n
    induction n with
    | zero =>
      intro x1 x2 v h
      rw [f_X2_readNumber_L4] at h
      cases h
    | succ n ih =>
      intro x1 x2 v h
      rw [f_X2_readNumber_L4] at h
      refine V_iload_n C 2 5 dX2_readNumber_4 rfl rfl ?_
      refine V_iconst C (3 : Int32) 6 dX2_readNumber_5 rfl rfl ?_
      refine V_icmp_ge C 42 9 dX2_readNumber_6 rfl rfl (fun e1 => ?_) (fun e1 => ?_)
      · have h := (if_pos e1).symm.trans h
        refine V_iload_n C 1 43 dX2_readNumber_42 rfl rfl ?_
        obtain rfl := Option.some.inj h
        exact retI _ _ _ .int rfl (rfl) rfl dX2_readNumber_43
      · have h := (if_neg e1).symm.trans h
        refine V_aload_n C 0 10 dX2_readNumber_9 rfl rfl ?_
        obtain ⟨r2, k3, h⟩ := bd_some h
        refine V_callS C hBA ml_X2_50 (pre := []) (post := []) (w0 := scW g A v) (w1 := scW g A r2.2) (as := []) (rest := []) (c_X2_readDigit k3) 0 13 (scW g A r2.2) dX2_readNumber_10 rfl ⟨Nat.le_of_ble_eq_true rfl, Nat.le_of_ble_eq_true rfl⟩ rfl (rfl) (rfl) rfl rfl rfl rfl (Nat.le_of_ble_eq_true rfl) ⟨Nat.zero_le _, Nat.zero_le _⟩ ?_
        refine V_istore_n C 14 [(3, .int r2.1), (0, .ref A.1), (1, .int x1), (2, .int x2)] dX2_readNumber_13 rfl (hlt 3 (by decide)) rfl ?_
        refine V_iload_n C 0 15 dX2_readNumber_14 rfl rfl ?_
        refine V_iconst C (-1 : Int32) 16 dX2_readNumber_15 rfl rfl ?_
        refine V_icmp_ne C 21 19 dX2_readNumber_16 rfl rfl (fun e4 => ?_) (fun e4 => ?_)
        · have h := (if_neg e4).symm.trans h
          refine V_iload_n C 3 22 dX2_readNumber_21 rfl rfl ?_
          refine V_if_ne C 29 25 dX2_readNumber_22 rfl rfl (fun e5 => ?_) (fun e5 => ?_)
          · have h := (if_neg e5).symm.trans h
            refine V_iload_n C 2 30 dX2_readNumber_29 rfl rfl ?_
            refine V_bipush C (10 : Int32) 32 dX2_readNumber_30 rfl rfl ?_
            refine V_imul C 33 dX2_readNumber_32 rfl ?_
            refine V_iload_n C 0 34 dX2_readNumber_33 rfl rfl ?_
            refine V_iadd C 35 dX2_readNumber_34 rfl ?_
            refine V_lv [1, 2, 3, 0] rfl ?_
            exact B35 (f_X2_readNumber_L4 n) ih _ _ _ _ _ h
          · have h := (if_pos e5).symm.trans h
            refine V_iload_n C 0 26 dX2_readNumber_25 rfl rfl ?_
            refine V_goto C 35 dX2_readNumber_26 rfl ?_
            refine V_lv [1, 2, 3, 0] rfl ?_
            exact B35 (f_X2_readNumber_L4 n) ih _ _ _ _ _ h
        · have h := (if_pos e4).symm.trans h
          refine V_iload_n C 2 20 dX2_readNumber_19 rfl rfl ?_
          obtain rfl := Option.some.inj h
          exact retI _ _ _ .int rfl (rfl) rfl dX2_readNumber_20
  show V K 0 0 _ [(0, .ref A.1)] [] 0
  unfold f_X2_readNumber at h
  refine V_iconst C (-1 : Int32) 1 dX2_readNumber_0 rfl rfl ?_
  refine V_istore_n C 2 [(1, .int (-1 : Int32)), (0, .ref A.1)] dX2_readNumber_1 rfl (hlt 1 (by decide)) rfl ?_
  refine V_iconst C (0 : Int32) 3 dX2_readNumber_2 rfl rfl ?_
  refine V_istore_n C 4 [(2, .int (0 : Int32)), (1, .int (-1 : Int32)), (0, .ref A.1)] dX2_readNumber_3 rfl (hlt 2 (by decide)) rfl ?_
  refine V_lv [2, 1, 0] rfl ?_
  exact L4 100 _ _ _ h
set_option maxHeartbeats 4000000 in
set_option maxRecDepth 100000 in
theorem c_X2_skip {l : Launch} {D : va_G} {g : G0} {A : ScA} {v : ScV} {a1 : Int32} {R : (Int32 × ScV)} (h : f_X2_skip v a1 = some R) : CtS l D g yX2_skip cX2_skip 2 (some .boolean) (rmF 0 0) (scW g A v) [.ref A.1, .int a1] (some (.int R.1)) (scW g A R.2) := by
  refine CtS.of (by decide) (Nat.le_of_ble_eq_true rfl) ?_
  intro K C hBA el eD ekn retI retV
  subst el
  subst eD
  have hlt : ∀ i, i < 2 → i < kn K := fun i h => by rw [ekn]; exact h
  have B24 : ∀ (x1 : Int32) (v : ScV), f_X2_skip_B24 x1 v = some R → V K 0 0 (scW g A v) [(0, .ref A.1), (1, .int x1)] [] 24 := by
    intro x1 v h
    rw [f_X2_skip_B24] at h
    refine V_iconst C (0 : Int32) 25 dX2_skip_24 rfl rfl ?_
    obtain rfl := Option.some.inj h
    exact retI _ _ _ .boolean rfl (rfl) rfl dX2_skip_25
  show V K 0 0 _ [(0, .ref A.1), (1, .int a1)] [] 0
  unfold f_X2_skip at h
  refine V_aload_n C 0 1 dX2_skip_0 rfl rfl ?_
  refine V_get C (v := .int (Sc_at v)) 0 4 fl_X2_32 dX2_skip_1 rfl rfl rfl ?_
  refine V_aload_n C 0 5 dX2_skip_4 rfl rfl ?_
  refine V_get C (v := .int (Sc_length v)) 0 8 fl_X2_25 dX2_skip_5 rfl rfl rfl ?_
  refine V_icmp_ge C 24 11 dX2_skip_8 rfl rfl (fun e1 => ?_) (fun e1 => ?_)
  · have h := (if_pos e1).symm.trans h
    refine V_lv [0, 1] rfl ?_
    exact B24 _ _ h
  · have h := (if_neg e1).symm.trans h
    refine V_aload_n C 0 12 dX2_skip_11 rfl rfl ?_
    refine V_get C (v := .ref A.2.1) 0 15 fl_X2_9 dX2_skip_12 rfl rfl rfl ?_
    refine V_aload_n C 0 16 dX2_skip_15 rfl rfl ?_
    refine V_get C (v := .int (Sc_at v)) 0 19 fl_X2_32 dX2_skip_16 rfl rfl rfl ?_
    obtain ⟨g2, h⟩ := gd_some h
    refine V_cald C (f := (Sc_input v)) (n := 60) 1 20 dX2_skip_19 rfl rfl g2 ?_
    refine V_iload_n C 1 21 dX2_skip_20 rfl rfl ?_
    refine V_icmp_eq C 26 24 dX2_skip_21 rfl rfl (fun e3 => ?_) (fun e3 => ?_)
    · have h := (if_pos e3).symm.trans h
      refine V_aload_n C 0 27 dX2_skip_26 rfl rfl ?_
      refine V_dup C 28 dX2_skip_27 rfl rfl ?_
      refine V_get C (v := .int (Sc_at v)) 0 31 fl_X2_32 dX2_skip_28 rfl rfl rfl ?_
      refine V_iconst C (1 : Int32) 32 dX2_skip_31 rfl rfl ?_
      refine V_iadd C 33 dX2_skip_32 rfl ?_
      refine V_put C hBA 0 36 (scW g A ((Sc_input v), (Sc_kinds v), (Sc_firsts v), (Sc_seconds v), (Sc_length v), (Sc_commands v), ((Sc_at v) + (1 : Int32)))) fl_X2_32 fp_X2_6 dX2_skip_33 rfl rfl (Nat.le_of_ble_eq_true rfl) rfl rfl rfl ?_
      refine V_iconst C (1 : Int32) 37 dX2_skip_36 rfl rfl ?_
      obtain rfl := Option.some.inj h
      exact retI _ _ _ .boolean rfl (rfl) rfl dX2_skip_37
    · have h := (if_neg e3).symm.trans h
      refine V_lv [0, 1] rfl ?_
      exact B24 _ _ h
set_option maxHeartbeats 4000000 in
set_option maxRecDepth 100000 in
theorem c_X2_readCommand {l : Launch} {D : va_G} {g : G0} {A : ScA} {v : ScV} {a1 : Int32} {R : (Int32 × ScV)} (h : f_X2_readCommand v a1 = some R) : CtS l D g yX2_readCommand cX2_readCommand 5 (some .boolean) (rmF 3 63) (scW g A v) [.ref A.1, .int a1] (some (.int R.1)) (scW g A R.2) := by
  refine CtS.of (by decide) (Nat.le_of_ble_eq_true rfl) ?_
  intro K C hBA el eD ekn retI retV
  subst el
  subst eD
  have hlt : ∀ i, i < 5 → i < kn K := fun i h => by rw [ekn]; exact h
  have B136 : ∀ (x1 : Int32) (x2 : Int32) (x3 : Int32) (x4 : Int32) (v : ScV), f_X2_readCommand_B136 x1 x2 x3 x4 v = some R → V K 0 0 (scW g A v) [(0, .ref A.1), (1, .int x1), (2, .int x2), (3, .int x3), (4, .int x4)] [] 136 := by
    intro x1 x2 x3 x4 v h
    rw [f_X2_readCommand_B136] at h
    refine V_aload_n C 0 137 dX2_readCommand_136 rfl rfl ?_
    refine V_get C (v := .ref A.2.2.1) 0 140 fl_X2_15 dX2_readCommand_137 rfl rfl rfl ?_
    refine V_iload_n C 1 141 dX2_readCommand_140 rfl rfl ?_
    refine V_iload_n C 2 142 dX2_readCommand_141 rfl rfl ?_
    obtain ⟨g1, h⟩ := gd_some h
    refine V_cast C hBA (f := (Sc_kinds v)) (n := 30) 2 143 (scW g A ((Sc_input v), (upd (Sc_kinds v) (cl x1) (vp_nar .char x2)), (Sc_firsts v), (Sc_seconds v), (Sc_length v), (Sc_commands v), (Sc_at v))) dX2_readCommand_142 rfl rfl g1 rfl ?_
    refine V_aload_n C 0 144 dX2_readCommand_143 rfl rfl ?_
    refine V_get C (v := .ref A.2.2.2.1) 0 147 fl_X2_18 dX2_readCommand_144 rfl rfl rfl ?_
    refine V_iload_n C 1 148 dX2_readCommand_147 rfl rfl ?_
    refine V_iload_n C 3 149 dX2_readCommand_148 rfl rfl ?_
    obtain ⟨g2, h⟩ := gd_some h
    refine V_iast C hBA (f := (Sc_firsts v)) (n := 30) 3 150 (scW g A ((Sc_input v), (upd (Sc_kinds v) (cl x1) (vp_nar .char x2)), (upd (Sc_firsts v) (cl x1) x3), (Sc_seconds v), (Sc_length v), (Sc_commands v), (Sc_at v))) dX2_readCommand_149 rfl rfl g2 rfl ?_
    refine V_aload_n C 0 151 dX2_readCommand_150 rfl rfl ?_
    refine V_get C (v := .ref A.2.2.2.2) 0 154 fl_X2_22 dX2_readCommand_151 rfl rfl rfl ?_
    refine V_iload_n C 1 155 dX2_readCommand_154 rfl rfl ?_
    refine V_iload C 4 157 dX2_readCommand_155 rfl rfl ?_
    obtain ⟨g3, h⟩ := gd_some h
    refine V_iast C hBA (f := (Sc_seconds v)) (n := 30) 4 158 (scW g A ((Sc_input v), (upd (Sc_kinds v) (cl x1) (vp_nar .char x2)), (upd (Sc_firsts v) (cl x1) x3), (upd (Sc_seconds v) (cl x1) x4), (Sc_length v), (Sc_commands v), (Sc_at v))) dX2_readCommand_157 rfl rfl g3 rfl ?_
    refine V_iconst C (1 : Int32) 159 dX2_readCommand_158 rfl rfl ?_
    obtain rfl := Option.some.inj h
    exact retI _ _ _ .boolean rfl (rfl) rfl dX2_readCommand_159
  have B126 : ∀ (x1 : Int32) (x2 : Int32) (x3 : Int32) (x4 : Int32) (s0 : Int32) (v : ScV), f_X2_readCommand_B126 x1 x2 x3 x4 s0 v = some R → V K 0 0 (scW g A v) [(0, .ref A.1), (1, .int x1), (2, .int x2), (3, .int x3), (4, .int x4)] [.int s0] 126 := by
    intro x1 x2 x3 x4 s0 v h
    rw [f_X2_readCommand_B126] at h
    refine V_istore C 128 [(4, .int s0), (0, .ref A.1), (1, .int x1), (2, .int x2), (3, .int x3)] dX2_readCommand_126 rfl (hlt 4 (by decide)) rfl ?_
    refine V_iload C 0 130 dX2_readCommand_128 rfl rfl ?_
    refine V_iconst C (-1 : Int32) 131 dX2_readCommand_130 rfl rfl ?_
    refine V_icmp_ne C 136 134 dX2_readCommand_131 rfl rfl (fun e4 => ?_) (fun e4 => ?_)
    · have h := (if_neg e4).symm.trans h
      refine V_lv [1, 2, 3, 4, 0] rfl ?_
      exact B136 _ _ _ _ _ h
    · have h := (if_pos e4).symm.trans h
      refine V_iconst C (0 : Int32) 135 dX2_readCommand_134 rfl rfl ?_
      obtain rfl := Option.some.inj h
      exact retI _ _ _ .boolean rfl (rfl) rfl dX2_readCommand_135
  have B99 : ∀ (x1 : Int32) (x2 : Int32) (x3 : Int32) (x4 : Int32) (s0 : Int32) (v : ScV), f_X2_readCommand_B99 x1 x2 x3 x4 s0 v = some R → V K 0 0 (scW g A v) [(0, .ref A.1), (1, .int x1), (2, .int x2), (3, .int x3), (4, .int x4)] [.int s0, .ref A.1] 99 := by
    intro x1 x2 x3 x4 s0 v h
    rw [f_X2_readCommand_B99] at h
    obtain ⟨r5, k6, h⟩ := bd_some h
    refine V_callS C hBA ml_X2_43 (pre := []) (post := []) (w0 := scW g A v) (w1 := scW g A r5.2) (as := [.int s0]) (rest := []) (c_X2_skip k6) 0 102 (scW g A r5.2) dX2_readCommand_99 rfl ⟨Nat.le_of_ble_eq_true rfl, Nat.le_of_ble_eq_true rfl⟩ rfl (rfl) (rfl) rfl rfl rfl rfl (Nat.le_of_ble_eq_true rfl) ⟨Nat.zero_le _, Nat.zero_le _⟩ ?_
    refine V_if_ne C 107 105 dX2_readCommand_102 rfl rfl (fun e7 => ?_) (fun e7 => ?_)
    · have h := (if_neg e7).symm.trans h
      refine V_aload_n C 0 108 dX2_readCommand_107 rfl rfl ?_
      refine V_iload_n C 2 109 dX2_readCommand_108 rfl rfl ?_
      obtain ⟨r8, k9, h⟩ := bd_some h
      refine V_callP C ml_X2_59 (pre := []) (post := []) (w := scW g A r5.2) (as := [.int x2]) (rest := []) (c_X2_takesDigitLast k9) 0 112 dX2_readCommand_109 rfl ⟨Nat.le_of_ble_eq_true rfl, Nat.le_of_ble_eq_true rfl⟩ rfl (rfl) rfl rfl rfl (Nat.le_of_ble_eq_true rfl) ⟨Nat.zero_le _, Nat.zero_le _⟩ ?_
      refine V_if_eq C 122 115 dX2_readCommand_112 rfl rfl (fun e10 => ?_) (fun e10 => ?_)
      · have h := (if_pos e10).symm.trans h
        refine V_aload_n C 0 123 dX2_readCommand_122 rfl rfl ?_
        obtain ⟨r11, k12, h⟩ := bd_some h
        refine V_callS C hBA ml_X2_53 (pre := []) (post := []) (w0 := scW g A r5.2) (w1 := scW g A r11.2) (as := []) (rest := []) (c_X2_readNumber k12) 0 126 (scW g A r11.2) dX2_readCommand_123 rfl ⟨Nat.le_of_ble_eq_true rfl, Nat.le_of_ble_eq_true rfl⟩ rfl (rfl) (rfl) rfl rfl rfl rfl (Nat.le_of_ble_eq_true rfl) ⟨Nat.zero_le _, Nat.zero_le _⟩ ?_
        refine V_lv [0, 1, 2, 3, 4] rfl ?_
        exact B126 _ _ _ _ _ _ h
      · have h := (if_neg e10).symm.trans h
        refine V_aload_n C 0 116 dX2_readCommand_115 rfl rfl ?_
        obtain ⟨r13, k14, h⟩ := bd_some h
        refine V_callS C hBA ml_X2_50 (pre := []) (post := []) (w0 := scW g A r5.2) (w1 := scW g A r13.2) (as := []) (rest := []) (c_X2_readDigit k14) 0 119 (scW g A r13.2) dX2_readCommand_116 rfl ⟨Nat.le_of_ble_eq_true rfl, Nat.le_of_ble_eq_true rfl⟩ rfl (rfl) (rfl) rfl rfl rfl rfl (Nat.le_of_ble_eq_true rfl) ⟨Nat.zero_le _, Nat.zero_le _⟩ ?_
        refine V_goto C 126 dX2_readCommand_119 rfl ?_
        refine V_lv [0, 1, 2, 3, 4] rfl ?_
        exact B126 _ _ _ _ _ _ h
    · have h := (if_pos e7).symm.trans h
      refine V_iconst C (0 : Int32) 106 dX2_readCommand_105 rfl rfl ?_
      obtain rfl := Option.some.inj h
      exact retI _ _ _ .boolean rfl (rfl) rfl dX2_readCommand_106
  have B66 : ∀ (x1 : Int32) (x2 : Int32) (s0 : Int32) (v : ScV), f_X2_readCommand_B66 x1 x2 s0 v = some R → V K 0 0 (scW g A v) [(0, .ref A.1), (1, .int x1), (2, .int x2)] [.int s0] 66 := by
    intro x1 x2 s0 v h
    rw [f_X2_readCommand_B66] at h
    refine V_istore_n C 67 [(3, .int s0), (0, .ref A.1), (1, .int x1), (2, .int x2)] dX2_readCommand_66 rfl (hlt 3 (by decide)) rfl ?_
    refine V_iload_n C 0 68 dX2_readCommand_67 rfl rfl ?_
    refine V_iconst C (-1 : Int32) 69 dX2_readCommand_68 rfl rfl ?_
    refine V_icmp_ne C 74 72 dX2_readCommand_69 rfl rfl (fun e15 => ?_) (fun e15 => ?_)
    · have h := (if_neg e15).symm.trans h
      refine V_iconst C (0 : Int32) 75 dX2_readCommand_74 rfl rfl ?_
      refine V_istore C 77 [(4, .int (0 : Int32)), (3, .int s0), (0, .ref A.1), (1, .int x1), (2, .int x2)] dX2_readCommand_75 rfl (hlt 4 (by decide)) rfl ?_
      refine V_aload_n C 2 78 dX2_readCommand_77 rfl rfl ?_
      refine V_iload_n C 4 79 dX2_readCommand_78 rfl rfl ?_
      obtain ⟨r16, k17, h⟩ := bd_some h
      refine V_callP C ml_X2_56 (pre := []) (post := []) (w := scW g A v) (as := [.int x2]) (rest := []) (c_X2_hasSecond k17) 0 82 dX2_readCommand_79 rfl ⟨Nat.le_of_ble_eq_true rfl, Nat.le_of_ble_eq_true rfl⟩ rfl (rfl) rfl rfl rfl (Nat.le_of_ble_eq_true rfl) ⟨Nat.zero_le _, Nat.zero_le _⟩ ?_
      refine V_if_eq C 136 85 dX2_readCommand_82 rfl rfl (fun e18 => ?_) (fun e18 => ?_)
      · have h := (if_pos e18).symm.trans h
        refine V_lv [2, 3, 4, 1, 0] rfl ?_
        exact B136 _ _ _ _ _ h
      · have h := (if_neg e18).symm.trans h
        refine V_aload_n C 2 86 dX2_readCommand_85 rfl rfl ?_
        refine V_iload_n C 4 87 dX2_readCommand_86 rfl rfl ?_
        refine V_bipush C (83 : Int32) 89 dX2_readCommand_87 rfl rfl ?_
        refine V_icmp_ne C 97 92 dX2_readCommand_89 rfl rfl (fun e19 => ?_) (fun e19 => ?_)
        · have h := (if_neg e19).symm.trans h
          refine V_bipush C (58 : Int32) 99 dX2_readCommand_97 rfl rfl ?_
          refine V_lv [2, 3, 4, 1, 0] rfl ?_
          exact B99 _ _ _ _ _ _ h
        · have h := (if_pos e19).symm.trans h
          refine V_bipush C (44 : Int32) 94 dX2_readCommand_92 rfl rfl ?_
          refine V_goto C 99 dX2_readCommand_94 rfl ?_
          refine V_lv [2, 3, 4, 1, 0] rfl ?_
          exact B99 _ _ _ _ _ _ h
    · have h := (if_pos e15).symm.trans h
      refine V_iconst C (0 : Int32) 73 dX2_readCommand_72 rfl rfl ?_
      obtain rfl := Option.some.inj h
      exact retI _ _ _ .boolean rfl (rfl) rfl dX2_readCommand_73
  have B27 : ∀ (x1 : Int32) (v : ScV), f_X2_readCommand_B27 x1 v = some R → V K 0 0 (scW g A v) [(0, .ref A.1), (1, .int x1)] [] 27 := by
    intro x1 v h
    rw [f_X2_readCommand_B27] at h
    refine V_iconst C (0 : Int32) 28 dX2_readCommand_27 rfl rfl ?_
    obtain rfl := Option.some.inj h
    exact retI _ _ _ .boolean rfl (rfl) rfl dX2_readCommand_28
  show V K 0 0 _ [(0, .ref A.1), (1, .int a1)] [] 0
  unfold f_X2_readCommand at h
  refine V_aload_n C 0 1 dX2_readCommand_0 rfl rfl ?_
  refine V_get C (v := .int (Sc_at v)) 0 4 fl_X2_32 dX2_readCommand_1 rfl rfl rfl ?_
  refine V_aload_n C 0 5 dX2_readCommand_4 rfl rfl ?_
  refine V_get C (v := .int (Sc_length v)) 0 8 fl_X2_25 dX2_readCommand_5 rfl rfl rfl ?_
  refine V_icmp_ge C 27 11 dX2_readCommand_8 rfl rfl (fun e20 => ?_) (fun e20 => ?_)
  · have h := (if_pos e20).symm.trans h
    refine V_lv [0, 1] rfl ?_
    exact B27 _ _ h
  · have h := (if_neg e20).symm.trans h
    refine V_aload_n C 0 12 dX2_readCommand_11 rfl rfl ?_
    refine V_aload_n C 0 13 dX2_readCommand_12 rfl rfl ?_
    refine V_get C (v := .ref A.2.1) 0 16 fl_X2_9 dX2_readCommand_13 rfl rfl rfl ?_
    refine V_aload_n C 0 17 dX2_readCommand_16 rfl rfl ?_
    refine V_get C (v := .int (Sc_at v)) 0 20 fl_X2_32 dX2_readCommand_17 rfl rfl rfl ?_
    obtain ⟨g21, h⟩ := gd_some h
    refine V_cald C (f := (Sc_input v)) (n := 60) 1 21 dX2_readCommand_20 rfl rfl g21 ?_
    obtain ⟨r22, k23, h⟩ := bd_some h
    refine V_callP C ml_X2_47 (pre := []) (post := []) (w := scW g A v) (as := [.int ((Sc_input v) (cl (Sc_at v)))]) (rest := []) (c_X2_isKind k23) 0 24 dX2_readCommand_21 rfl ⟨Nat.le_of_ble_eq_true rfl, Nat.le_of_ble_eq_true rfl⟩ rfl (rfl) rfl rfl rfl (Nat.le_of_ble_eq_true rfl) ⟨Nat.zero_le _, Nat.zero_le _⟩ ?_
    refine V_if_ne C 29 27 dX2_readCommand_24 rfl rfl (fun e24 => ?_) (fun e24 => ?_)
    · have h := (if_neg e24).symm.trans h
      refine V_aload_n C 0 30 dX2_readCommand_29 rfl rfl ?_
      refine V_get C (v := .ref A.2.1) 0 33 fl_X2_9 dX2_readCommand_30 rfl rfl rfl ?_
      refine V_aload_n C 0 34 dX2_readCommand_33 rfl rfl ?_
      refine V_get C (v := .int (Sc_at v)) 0 37 fl_X2_32 dX2_readCommand_34 rfl rfl rfl ?_
      obtain ⟨g25, h⟩ := gd_some h
      refine V_cald C (f := (Sc_input v)) (n := 60) 1 38 dX2_readCommand_37 rfl rfl g25 ?_
      refine V_istore_n C 39 [(2, .int ((Sc_input v) (cl (Sc_at v)))), (0, .ref A.1), (1, .int a1)] dX2_readCommand_38 rfl (hlt 2 (by decide)) rfl ?_
      refine V_aload_n C 1 40 dX2_readCommand_39 rfl rfl ?_
      refine V_dup C 41 dX2_readCommand_40 rfl rfl ?_
      refine V_get C (v := .int (Sc_at v)) 0 44 fl_X2_32 dX2_readCommand_41 rfl rfl rfl ?_
      refine V_iconst C (1 : Int32) 45 dX2_readCommand_44 rfl rfl ?_
      refine V_iadd C 46 dX2_readCommand_45 rfl ?_
      refine V_put C hBA 0 49 (scW g A ((Sc_input v), (Sc_kinds v), (Sc_firsts v), (Sc_seconds v), (Sc_length v), (Sc_commands v), ((Sc_at v) + (1 : Int32)))) fl_X2_32 fp_X2_6 dX2_readCommand_46 rfl rfl (Nat.le_of_ble_eq_true rfl) rfl rfl rfl ?_
      refine V_iload_n C 0 50 dX2_readCommand_49 rfl rfl ?_
      refine V_bipush C (86 : Int32) 52 dX2_readCommand_50 rfl rfl ?_
      refine V_icmp_ne C 62 55 dX2_readCommand_52 rfl rfl (fun e26 => ?_) (fun e26 => ?_)
      · have h := (if_neg e26).symm.trans h
        refine V_aload_n C 1 63 dX2_readCommand_62 rfl rfl ?_
        obtain ⟨r27, k28, h⟩ := bd_some h
        refine V_callS C hBA ml_X2_53 (pre := []) (post := []) (w0 := scW g A ((Sc_input v), (Sc_kinds v), (Sc_firsts v), (Sc_seconds v), (Sc_length v), (Sc_commands v), ((Sc_at v) + (1 : Int32)))) (w1 := scW g A r27.2) (as := []) (rest := []) (c_X2_readNumber k28) 0 66 (scW g A r27.2) dX2_readCommand_63 rfl ⟨Nat.le_of_ble_eq_true rfl, Nat.le_of_ble_eq_true rfl⟩ rfl (rfl) (rfl) rfl rfl rfl rfl (Nat.le_of_ble_eq_true rfl) ⟨Nat.zero_le _, Nat.zero_le _⟩ ?_
        refine V_lv [1, 2, 0] rfl ?_
        exact B66 _ _ _ _ h
      · have h := (if_pos e26).symm.trans h
        refine V_aload_n C 1 56 dX2_readCommand_55 rfl rfl ?_
        obtain ⟨r29, k30, h⟩ := bd_some h
        refine V_callS C hBA ml_X2_50 (pre := []) (post := []) (w0 := scW g A ((Sc_input v), (Sc_kinds v), (Sc_firsts v), (Sc_seconds v), (Sc_length v), (Sc_commands v), ((Sc_at v) + (1 : Int32)))) (w1 := scW g A r29.2) (as := []) (rest := []) (c_X2_readDigit k30) 0 59 (scW g A r29.2) dX2_readCommand_56 rfl ⟨Nat.le_of_ble_eq_true rfl, Nat.le_of_ble_eq_true rfl⟩ rfl (rfl) (rfl) rfl rfl rfl rfl (Nat.le_of_ble_eq_true rfl) ⟨Nat.zero_le _, Nat.zero_le _⟩ ?_
        refine V_goto C 66 dX2_readCommand_59 rfl ?_
        refine V_lv [1, 2, 0] rfl ?_
        exact B66 _ _ _ _ h
    · have h := (if_pos e24).symm.trans h
      refine V_lv [0, 1] rfl ?_
      exact B27 _ _ h
set_option maxHeartbeats 4000000 in
set_option maxRecDepth 100000 in
theorem c_X2_readCommands {l : Launch} {D : va_G} {g : G0} {A : ScA} {v : ScV} {R : (Int32 × ScV)} (h : f_X2_readCommands v  = some R) : CtS l D g yX2_readCommands cX2_readCommands 2 (some .int) (rmF 4 87) (scW g A v) [.ref A.1] (some (.int R.1)) (scW g A R.2) := by
  refine CtS.of (by decide) (Nat.le_of_ble_eq_true rfl) ?_
  intro K C hBA el eD ekn retI retV
  subst el
  subst eD
  have hlt : ∀ i, i < 2 → i < kn K := fun i h => by rw [ekn]; exact h
  have L12 : ∀ (n : Nat) (x1 : Int32) (v : ScV), f_X2_readCommands_L12 n x1 v = some R → V K 0 0 (scW g A v) [(0, .ref A.1), (1, .int x1)] [] 12 := by
    intro n
    induction n with
    | zero =>
      intro x1 v h
      rw [f_X2_readCommands_L12] at h
      cases h
    | succ n ih =>
      intro x1 v h
      rw [f_X2_readCommands_L12] at h
      refine V_iload_n C 1 13 dX2_readCommands_12 rfl rfl ?_
      refine V_bipush C (30 : Int32) 15 dX2_readCommands_13 rfl rfl ?_
      refine V_icmp_ge C 74 18 dX2_readCommands_15 rfl rfl (fun e1 => ?_) (fun e1 => ?_)
      · have h := (if_pos e1).symm.trans h
        refine V_aload_n C 0 75 dX2_readCommands_74 rfl rfl ?_
        refine V_get C (v := .int (Sc_at v)) 0 78 fl_X2_32 dX2_readCommands_75 rfl rfl rfl ?_
        obtain rfl := Option.some.inj h
        exact retI _ _ _ .int rfl (rfl) rfl dX2_readCommands_78
      · have h := (if_neg e1).symm.trans h
        refine V_aload_n C 0 19 dX2_readCommands_18 rfl rfl ?_
        refine V_iload_n C 1 20 dX2_readCommands_19 rfl rfl ?_
        obtain ⟨r2, k3, h⟩ := bd_some h
        refine V_callS C hBA ml_X2_39 (pre := []) (post := []) (w0 := scW g A v) (w1 := scW g A r2.2) (as := [.int x1]) (rest := []) (c_X2_readCommand k3) 0 23 (scW g A r2.2) dX2_readCommands_20 rfl ⟨Nat.le_of_ble_eq_true rfl, Nat.le_of_ble_eq_true rfl⟩ rfl (rfl) (rfl) rfl rfl rfl rfl (Nat.le_of_ble_eq_true rfl) ⟨Nat.zero_le _, Nat.zero_le _⟩ ?_
        refine V_if_ne C 31 26 dX2_readCommands_23 rfl rfl (fun e4 => ?_) (fun e4 => ?_)
        · have h := (if_neg e4).symm.trans h
          refine V_aload_n C 0 32 dX2_readCommands_31 rfl rfl ?_
          refine V_dup C 33 dX2_readCommands_32 rfl rfl ?_
          refine V_get C (v := .int (Sc_commands r2.2)) 0 36 fl_X2_29 dX2_readCommands_33 rfl rfl rfl ?_
          refine V_iconst C (1 : Int32) 37 dX2_readCommands_36 rfl rfl ?_
          refine V_iadd C 38 dX2_readCommands_37 rfl ?_
          refine V_put C hBA 0 41 (scW g A ((Sc_input r2.2), (Sc_kinds r2.2), (Sc_firsts r2.2), (Sc_seconds r2.2), (Sc_length r2.2), ((Sc_commands r2.2) + (1 : Int32)), (Sc_at r2.2))) fl_X2_29 fp_X2_5 dX2_readCommands_38 rfl rfl (Nat.le_of_ble_eq_true rfl) rfl rfl rfl ?_
          refine V_aload_n C 0 42 dX2_readCommands_41 rfl rfl ?_
          refine V_get C (v := .int (Sc_at r2.2)) 0 45 fl_X2_32 dX2_readCommands_42 rfl rfl rfl ?_
          refine V_aload_n C 0 46 dX2_readCommands_45 rfl rfl ?_
          refine V_get C (v := .int (Sc_length r2.2)) 0 49 fl_X2_25 dX2_readCommands_46 rfl rfl rfl ?_
          refine V_icmp_ne C 54 52 dX2_readCommands_49 rfl rfl (fun e5 => ?_) (fun e5 => ?_)
          · have h := (if_neg e5).symm.trans h
            refine V_aload_n C 0 55 dX2_readCommands_54 rfl rfl ?_
            refine V_bipush C (59 : Int32) 57 dX2_readCommands_55 rfl rfl ?_
            obtain ⟨r6, k7, h⟩ := bd_some h
            refine V_callS C hBA ml_X2_43 (pre := []) (post := []) (w0 := scW g A ((Sc_input r2.2), (Sc_kinds r2.2), (Sc_firsts r2.2), (Sc_seconds r2.2), (Sc_length r2.2), ((Sc_commands r2.2) + (1 : Int32)), (Sc_at r2.2))) (w1 := scW g A r6.2) (as := [.int (59 : Int32)]) (rest := []) (c_X2_skip k7) 0 60 (scW g A r6.2) dX2_readCommands_57 rfl ⟨Nat.le_of_ble_eq_true rfl, Nat.le_of_ble_eq_true rfl⟩ rfl (rfl) (rfl) rfl rfl rfl rfl (Nat.le_of_ble_eq_true rfl) ⟨Nat.zero_le _, Nat.zero_le _⟩ ?_
            refine V_if_ne C 68 63 dX2_readCommands_60 rfl rfl (fun e8 => ?_) (fun e8 => ?_)
            · have h := (if_neg e8).symm.trans h
              refine V_iinc C 1 (x1 + (1 : Int32)) 71 [(1, .int (x1 + (1 : Int32))), (0, .ref A.1)] dX2_readCommands_68 rfl rfl rfl (hlt 1 (by decide)) rfl ?_
              refine V_goto C 12 dX2_readCommands_71 rfl ?_
              refine V_lv [1, 0] rfl ?_
              exact ih _ _ h
            · have h := (if_pos e8).symm.trans h
              refine V_aload_n C 0 64 dX2_readCommands_63 rfl rfl ?_
              refine V_get C (v := .int (Sc_at r6.2)) 0 67 fl_X2_32 dX2_readCommands_64 rfl rfl rfl ?_
              obtain rfl := Option.some.inj h
              exact retI _ _ _ .int rfl (rfl) rfl dX2_readCommands_67
          · have h := (if_pos e5).symm.trans h
            refine V_iconst C (-1 : Int32) 53 dX2_readCommands_52 rfl rfl ?_
            obtain rfl := Option.some.inj h
            exact retI _ _ _ .int rfl (rfl) rfl dX2_readCommands_53
        · have h := (if_pos e4).symm.trans h
          refine V_aload_n C 0 27 dX2_readCommands_26 rfl rfl ?_
          refine V_get C (v := .int (Sc_at r2.2)) 0 30 fl_X2_32 dX2_readCommands_27 rfl rfl rfl ?_
          obtain rfl := Option.some.inj h
          exact retI _ _ _ .int rfl (rfl) rfl dX2_readCommands_30
  show V K 0 0 _ [(0, .ref A.1)] [] 0
  unfold f_X2_readCommands at h
  refine V_aload_n C 0 1 dX2_readCommands_0 rfl rfl ?_
  refine V_iconst C (0 : Int32) 2 dX2_readCommands_1 rfl rfl ?_
  refine V_put C hBA 0 5 (scW g A ((Sc_input v), (Sc_kinds v), (Sc_firsts v), (Sc_seconds v), (Sc_length v), (Sc_commands v), (0 : Int32))) fl_X2_32 fp_X2_6 dX2_readCommands_2 rfl rfl (Nat.le_of_ble_eq_true rfl) rfl rfl rfl ?_
  refine V_aload_n C 0 6 dX2_readCommands_5 rfl rfl ?_
  refine V_iconst C (0 : Int32) 7 dX2_readCommands_6 rfl rfl ?_
  refine V_put C hBA 0 10 (scW g A ((Sc_input v), (Sc_kinds v), (Sc_firsts v), (Sc_seconds v), (Sc_length v), (0 : Int32), (0 : Int32))) fl_X2_29 fp_X2_5 dX2_readCommands_7 rfl rfl (Nat.le_of_ble_eq_true rfl) rfl rfl rfl ?_
  refine V_iconst C (0 : Int32) 11 dX2_readCommands_10 rfl rfl ?_
  refine V_istore_n C 12 [(1, .int (0 : Int32)), (0, .ref A.1)] dX2_readCommands_11 rfl (hlt 1 (by decide)) rfl ?_
  refine V_lv [1, 0] rfl ?_
  exact L12 100 _ _ h
set_option maxHeartbeats 4000000 in
set_option maxRecDepth 100000 in
theorem c_X2_takeCommands {l : Launch} {D : va_G} {g : G0} {A : ScA} {v : ScV} {R : (Int32 × ScV)} (h : f_X2_takeCommands v  = some R) : CtS l D g yX2_takeCommands cX2_takeCommands 2 (some .int) (rmF 5 108) (scW g A v) [.ref A.1] (some (.int R.1)) (scW g A R.2) := by
  refine CtS.of (by decide) (Nat.le_of_ble_eq_true rfl) ?_
  intro K C hBA el eD ekn retI retV
  subst el
  subst eD
  have hlt : ∀ i, i < 2 → i < kn K := fun i h => by rw [ekn]; exact h
  show V K 0 0 _ [(0, .ref A.1)] [] 0
  unfold f_X2_takeCommands at h
  refine V_aload_n C 0 1 dX2_takeCommands_0 rfl rfl ?_
  obtain ⟨r1, k2, h⟩ := bd_some h
  refine V_callS C hBA ml_X2_35 (pre := []) (post := []) (w0 := scW g A v) (w1 := scW g A r1.2) (as := []) (rest := []) (c_X2_readCommands k2) 0 4 (scW g A r1.2) dX2_takeCommands_1 rfl ⟨Nat.le_of_ble_eq_true rfl, Nat.le_of_ble_eq_true rfl⟩ rfl (rfl) (rfl) rfl rfl rfl rfl (Nat.le_of_ble_eq_true rfl) ⟨Nat.zero_le _, Nat.zero_le _⟩ ?_
  refine V_istore_n C 5 [(1, .int r1.1), (0, .ref A.1)] dX2_takeCommands_4 rfl (hlt 1 (by decide)) rfl ?_
  refine V_aload_n C 1 6 dX2_takeCommands_5 rfl rfl ?_
  refine V_iconst C (0 : Int32) 7 dX2_takeCommands_6 rfl rfl ?_
  refine V_put C hBA 0 10 (scW g A ((Sc_input r1.2), (Sc_kinds r1.2), (Sc_firsts r1.2), (Sc_seconds r1.2), (0 : Int32), (Sc_commands r1.2), (Sc_at r1.2))) fl_X2_25 fp_X2_4 dX2_takeCommands_7 rfl rfl (Nat.le_of_ble_eq_true rfl) rfl rfl rfl ?_
  refine V_iload_n C 0 11 dX2_takeCommands_10 rfl rfl ?_
  obtain rfl := Option.some.inj h
  exact retI _ _ _ .int rfl (rfl) rfl dX2_takeCommands_11
