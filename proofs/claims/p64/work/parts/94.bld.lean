/-! ===== the law's own methods: cell, some, isLine, acts, build ===== -/
theorem V_widen {K : KT} {cells slots c2 s2 : Nat} {ws : va_W} {lv : List (Nat × Value)} {st : List Value} {pc : Nat} (h1 : cells ≤ c2) (h2 : slots ≤ s2) (kk : V K c2 s2 ws lv st pc) : V K cells slots ws lv st pc :=
  fun H locs ls hP hD hS hl => W.widen h1 h2 (kk H locs ls hP hD hS hl)
theorem ushr3 (x : Int32) : ∃ q, q < 2 ^ 29 ∧ (x.toUInt32 >>> ((3 : Int32).toUInt32 &&& Int32.toUInt32 31)).toInt32 = nI q := by
  have h := pk_ushr x 3 3 (by decide)
  refine ⟨x.toBitVec.toNat / 2 ^ 3, ?_, ?_⟩
  · have := x.toBitVec.isLt
    omega
  · apply Int32.toBitVec_inj.mp
    apply BitVec.eq_of_toNat_eq
    rw [h]
    have := x.toBitVec.isLt
    exact (pk_tn (n := x.toBitVec.toNat / 2 ^ 3) (by omega)).symm
set_option maxRecDepth 8000 in
set_option maxHeartbeats 4000000 in
theorem c_L_cell {l : Launch} {D : va_G} {g : G0} {k : Nat} (hk : k < 2 ^ 20) : CtN l D g yL_cell cL_cell 2 (some .int) (rmN 0 0 0 0) ([]) [.ref (scB D), .int (nI k)] (fun rv w1 => (∃ v, rv = some (.int v)) ∧ w1 = []) 0 0 := by
  refine CtN.of (by decide) (Nat.le_of_ble_eq_true rfl) ?_
  intro K C Z hBA el eD ekn
  subst el
  subst eD
  have hlt : ∀ i, i < 2 → i < kn K := fun i h => by rw [ekn]; exact h
  show V K 0 0 ([]) [(0, .ref (scB (kD K))), (1, .int (nI k))] [] 0
  have hL := Z.1.sk.2.2.2.1
  refine V_iload_n C 1 1 dL_cell_0 rfl rfl ?_
  refine V_aload_n C 0 2 dL_cell_1 rfl rfl ?_
  refine V_scrL C Z.1 3 dL_cell_2 rfl ?_
  by_cases h : k < scL (kD K)
  · refine V_icmp_ge C 12 6 dL_cell_3 rfl rfl (fun e => absurd e (show ¬ nI (scL (kD K)) ≤ nI k from fun e => by rw [nI_leI (by omega) (by omega)] at e; omega)) (fun _ => ?_)
    refine V_aload_n C 0 7 dL_cell_6 rfl rfl ?_
    refine V_iload_n C 1 8 dL_cell_7 rfl rfl ?_
    refine V_scr C Z.1 9 (inb_of (vp_in_nI h (by omega))) dL_cell_8 rfl ?_
    refine V_goto C 20 dL_cell_9 rfl ?_
    exact V_nretI C Z (ty := .int) rfl rfl ⟨⟨_, rfl⟩, rfl⟩ dL_cell_20 (Nat.zero_le _) (Nat.zero_le _)
  · refine V_icmp_ge C 12 6 dL_cell_3 rfl rfl (fun _ => ?_) (fun e => absurd (show nI (scL (kD K)) ≤ nI k from by rw [nI_leI (by omega) (by omega)]; omega) e)
    refine V_sipush C (7919 : Int32) 15 dL_cell_12 rfl rfl ?_
    refine V_iload_n C 1 16 dL_cell_15 rfl rfl ?_
    refine V_imul C 17 dL_cell_16 rfl ?_
    refine V_bipush C (12 : Int32) 19 dL_cell_17 rfl rfl ?_
    refine V_iadd C 20 dL_cell_19 rfl ?_
    exact V_nretI C Z (ty := .int) rfl rfl ⟨⟨_, rfl⟩, rfl⟩ dL_cell_20 (Nat.zero_le _) (Nat.zero_le _)
set_option maxRecDepth 8000 in
set_option maxHeartbeats 4000000 in
theorem c_L_some {l : Launch} {D : va_G} {g : G0} {k n : Nat} (hk : k < 2 ^ 20) (hn : 0 < n) (hn2 : n < 2 ^ 20) : CtN l D g yL_some cL_some 3 (some .int) (rmN 1 21 0 0) ([]) [.ref (scB D), .int (nI k), .int (nI n)] (fun rv w1 => ∃ j, j < n ∧ rv = some (.int (nI j)) ∧ w1 = []) 0 0 := by
  refine CtN.of (by decide) (Nat.le_of_ble_eq_true rfl) ?_
  intro K C Z hBA el eD ekn
  subst el
  subst eD
  have hlt : ∀ i, i < 3 → i < kn K := fun i h => by rw [ekn]; exact h
  show V K 0 0 ([]) [(0, .ref (scB (kD K))), (1, .int (nI k)), (2, .int (nI n))] [] 0
  refine V_aload_n C 0 1 dL_some_0 rfl rfl ?_
  refine V_iload_n C 1 2 dL_some_1 rfl rfl ?_
  refine V_callNs (as := [.ref (scB (kD K)), .int (nI k)]) (pre := []) (w0 := []) (post := []) (rest := []) C hBA Z.1 lz_L_7 st_L_cell (c_L_cell hk) dL_some_2 ⟨Nat.le_of_ble_eq_true rfl, Nat.le_of_ble_eq_true rfl⟩ rfl rfl rfl (Nat.le_of_ble_eq_true rfl) ⟨Nat.le_refl _, Nat.le_refl _⟩ (fun rv w1 hP => ?_)
  obtain ⟨⟨e, rfl⟩, rfl⟩ := hP
  show V K 0 0 [] [(0, .ref (scB (kD K))), (1, .int (nI k)), (2, .int (nI n))] [.int e] 5
  obtain ⟨q, hq, hq2⟩ := ushr3 e
  refine V_iconst C (3 : Int32) 6 dL_some_5 rfl rfl ?_
  refine V_iushr C 7 dL_some_6 rfl hq2 ?_
  refine V_iload_n C 2 8 dL_some_7 rfl rfl ?_
  refine V_irem C 9 dL_some_8 rfl (fun e0 => by have := (nI_eq (b := 0) (by omega) (by omega)).mp e0; omega) ?_
  refine V_st (st2 := [.int (nI (q % n))]) (by rw [pk_rem (by omega) hn (by omega)]) ?_
  exact V_nretI C Z (ty := .int) rfl rfl ⟨q % n, Nat.mod_lt _ hn, rfl, rfl⟩ dL_some_9 (Nat.zero_le _) (Nat.zero_le _)
set_option maxRecDepth 8000 in
set_option maxHeartbeats 4000000 in
theorem c_L_isLine {l : Launch} {D : va_G} {g : G0} {s : Nat × Nat} {A : XA} {x : XV} {q : Nat} {sb : SbV} {T : List Nat} {fs : Nat → Int32} (hT : SBT sb T) (hl : T.length ≤ 200) (hc : ∀ (i c : Nat), T[i]? = some c → fs i = nI c ∧ c < 128) : CtN l D g yL_isLine cL_isLine 4 (some .boolean) (rmN 9 270 0 0) (strW g s T.length fs ++ (xW g (aS A q) (xS x sb) ++ [])) [.ref A.1, .int (nI T.length), .ref s.1] (fun rv w1 => rv = some (.int 1) ∧ w1 = strW g s T.length fs ++ (xW g (aS A q) (xS x sb) ++ [])) 0 0 := by
  refine CtN.of (by decide) (Nat.le_of_ble_eq_true rfl) ?_
  intro K C Z hBA el eD ekn
  subst el
  subst eD
  have hlt : ∀ i, i < 4 → i < kn K := fun i h => by rw [ekn]; exact h
  show V K 0 0 (strW g s T.length fs ++ (xW g (aS A q) (xS x sb) ++ [])) [(0, .ref A.1), (1, .int (nI T.length)), (2, .ref s.1)] [] 0
  refine V_iload_n C 1 1 dL_isLine_0 rfl rfl ?_
  refine V_aload_n C 2 2 dL_isLine_1 rfl rfl ?_
  refine V_callN (as := []) (pre := []) (w0 := strW g s T.length fs) (post := xW g (aS A q) (xS x sb) ++ []) (rest := [.int (nI T.length)]) C hBA Z.1 ml_L_116 c_j0len 0 dL_isLine_2 ⟨Nat.le_of_ble_eq_true rfl, Nat.le_of_ble_eq_true rfl⟩ rfl rfl rfl rfl (Nat.le_of_ble_eq_true rfl) ⟨Nat.zero_le _, Nat.zero_le _⟩ (fun rv w1 hP => ?_)
  obtain ⟨rfl, rfl⟩ := hP
  show V K 0 0 (strW g s T.length fs ++ (xW g (aS A q) (xS x sb) ++ [])) [(0, .ref A.1), (1, .int (nI T.length)), (2, .ref s.1)] [.int (nI T.length), .int (nI T.length)] 5
  refine V_icmp_eq C 10 8 dL_isLine_5 rfl rfl (fun _ => ?_) (fun e => absurd rfl e)
  refine V_iconst C (0 : Int32) 11 dL_isLine_10 rfl rfl ?_
  refine V_istore_n C 12 [(3, .int (0 : Int32)), (0, .ref A.1), (1, .int (nI T.length)), (2, .ref s.1)] dL_isLine_11 rfl (hlt 3 (by decide)) rfl ?_
  have loop : ∀ d i, i + d = T.length → V K 0 0 (strW g s T.length fs ++ (xW g (aS A q) (xS x sb) ++ [])) [(3, .int (nI i)), (0, .ref A.1), (1, .int (nI T.length)), (2, .ref s.1)] [] 12 := by
    intro d
    induction d with
    | zero =>
      intro i hi
      refine V_iload_n C 0 13 dL_isLine_12 rfl rfl ?_
      refine V_iload_n C 2 14 dL_isLine_13 rfl rfl ?_
      refine V_icmp_ge C 38 17 dL_isLine_14 rfl rfl (fun _ => ?_) (fun e => absurd (show nI T.length ≤ nI i from by rw [nI_leI (by omega) (by omega)]; omega) e)
      refine V_iconst C (1 : Int32) 39 dL_isLine_38 rfl rfl ?_
      exact V_nretI C Z rfl (by decide) ⟨rfl, rfl⟩ dL_isLine_39 (Nat.zero_le _) (Nat.zero_le _)
    | succ d ih =>
      intro i hi
      obtain ⟨ch, hch⟩ : ∃ ch, T[i]? = some ch := ⟨T[i]'(by omega), List.getElem?_eq_getElem _⟩
      obtain ⟨hf, h128⟩ := hc i ch hch
      refine V_iload_n C 0 13 dL_isLine_12 rfl rfl ?_
      refine V_iload_n C 2 14 dL_isLine_13 rfl rfl ?_
      refine V_icmp_ge C 38 17 dL_isLine_14 rfl rfl (fun e => absurd e (show ¬ nI T.length ≤ nI i from fun e => by rw [nI_leI (by omega) (by omega)] at e; omega)) (fun _ => ?_)
      refine V_aload_n C 1 18 dL_isLine_17 rfl rfl ?_
      refine V_iload_n C 0 19 dL_isLine_18 rfl rfl ?_
      refine V_callN (as := [.int (nI i)]) (pre := strW g s T.length fs) (w0 := xW g (aS A q) (xS x sb)) (post := []) (rest := []) C hBA Z.1 ml_L_121 (c_outAt hT hch h128 (by omega)) 2 dL_isLine_19 ⟨Nat.le_of_ble_eq_true rfl, Nat.le_of_ble_eq_true rfl⟩ rfl rfl rfl rfl (Nat.le_of_ble_eq_true rfl) ⟨Nat.zero_le _, Nat.zero_le _⟩ (fun rv w1 hP => ?_)
      obtain ⟨rfl, rfl⟩ := hP
      show V K 0 0 (strW g s T.length fs ++ (xW g (aS A q) (xS x sb) ++ [])) [(3, .int (nI i)), (0, .ref A.1), (1, .int (nI T.length)), (2, .ref s.1)] [.int (nI ch)] 22
      refine V_aload_n C 3 23 dL_isLine_22 rfl rfl ?_
      refine V_iload_n C 0 24 dL_isLine_23 rfl rfl ?_
      refine V_callN (as := [.int (nI i)]) (pre := []) (w0 := strW g s T.length fs) (post := xW g (aS A q) (xS x sb) ++ []) (rest := [.int (nI ch)]) C hBA Z.1 ml_L_125 (c_j0at (by omega) (by omega) hf h128) 0 dL_isLine_24 ⟨Nat.le_of_ble_eq_true rfl, Nat.le_of_ble_eq_true rfl⟩ rfl rfl rfl rfl (Nat.le_of_ble_eq_true rfl) ⟨Nat.zero_le _, Nat.zero_le _⟩ (fun rv w1 hP => ?_)
      obtain ⟨rfl, rfl⟩ := hP
      show V K 0 0 (strW g s T.length fs ++ (xW g (aS A q) (xS x sb) ++ [])) [(3, .int (nI i)), (0, .ref A.1), (1, .int (nI T.length)), (2, .ref s.1)] [.int (nI ch), .int (nI ch)] 27
      refine V_icmp_eq C 32 30 dL_isLine_27 rfl rfl (fun _ => ?_) (fun e => absurd rfl e)
      refine V_iinc C 0 (nI (i + 1)) 35 [(3, .int (nI (i + 1))), (0, .ref A.1), (1, .int (nI T.length)), (2, .ref s.1)] dL_isLine_32 rfl rfl (nI_1 i) (hlt 3 (by decide)) rfl ?_
      refine V_goto C 12 dL_isLine_35 rfl ?_
      exact ih (i + 1) (by omega)
  exact loop T.length 0 (by omega)
set_option maxRecDepth 8000 in
set_option maxHeartbeats 4000000 in
theorem c_L_acts {l : Launch} {D : va_G} {g : G0} {A : XA} {x : XV} {N k : Nat} (hst : l.stackTraces = false) (hiv : IV N x) (hN2 : N < 2 ^ 26) (hk : k < 2 ^ 16) : CtN l D g yL_acts cL_acts 8 none (rmN 11 330 1 6) (xW g A x) [.ref A.1, .ref (scB D), .int (nI k)] (fun rv w1 => rv = none ∧ ∃ x1, IV (N + 1) x1 ∧ w1 = xW g A x1) 1 6 := by
  refine CtN.of (by decide) (Nat.le_of_ble_eq_true rfl) ?_
  intro K C Z hBA el eD ekn
  subst el
  subst eD
  have hlt : ∀ i, i < 8 → i < kn K := fun i h => by rw [ekn]; exact h
  show V K 0 0 (xW g A x) [(0, .ref A.1), (1, .ref (scB (kD K))), (2, .int (nI k))] [] 0
  obtain ⟨L, S, nid, r, hb⟩ := hiv.bk (by omega)
  have hlen := hb.len
  have hchs := hb.chs
  have hE := Z.1.2.2.2.2.2
  have hN := Z.1.sk.2.2.2.2
  refine V_eq (ws2 := [] ++ (xW g A x ++ [])) (List.append_nil _).symm ?_
  refine V_aload_n C 1 1 dL_acts_0 rfl rfl ?_
  refine V_iload_n C 2 2 dL_acts_1 rfl rfl ?_
  refine V_iconst C (1 : Int32) 3 dL_acts_2 rfl rfl ?_
  refine V_iadd C 4 dL_acts_3 rfl ?_
  refine V_st (st2 := [.int (nI (k + 1)), .ref (scB (kD K))]) (by rw [nI_1] <;> rfl) ?_
  refine V_bipush C (60 : Int32) 6 dL_acts_4 rfl rfl ?_
  refine V_callNs (as := [.ref (scB (kD K)), .int (nI (k + 1)), .int (60 : Int32)]) (pre := []) (w0 := []) (post := [] ++ (xW g A x ++ [])) (rest := []) C hBA Z.1 lz_L_82 st_L_some (c_L_some (k := k + 1) (n := 60) (by omega) (by decide) (by decide)) dL_acts_6 ⟨Nat.le_of_ble_eq_true rfl, Nat.le_of_ble_eq_true rfl⟩ rfl rfl rfl (Nat.le_of_ble_eq_true rfl) ⟨Nat.le_of_ble_eq_true rfl, Nat.le_of_ble_eq_true rfl⟩ (fun rv w1 hP => ?_)
  obtain ⟨v, hv, rfl, rfl⟩ := hP
  show V K 0 0 ([] ++ (xW g A x ++ [])) [(0, .ref A.1), (1, .ref (scB (kD K))), (2, .int (nI k))] [.int (nI v)] 9
  refine V_istore_n C 10 [(3, .int (nI v)), (0, .ref A.1), (1, .ref (scB (kD K))), (2, .int (nI k))] dL_acts_9 rfl (hlt 3 (by decide)) rfl ?_
  refine V_aload_n C 2 11 dL_acts_10 rfl rfl ?_
  refine V_iload_n C 3 12 dL_acts_11 rfl rfl ?_
  refine V_iconst C (2 : Int32) 13 dL_acts_12 rfl rfl ?_
  refine V_iadd C 14 dL_acts_13 rfl ?_
  refine V_st (st2 := [.int (nI (k + 2)), .ref (scB (kD K))]) (by rw [show (2 : Int32) = nI 2 from rfl, nI_add] <;> rfl) ?_
  refine V_bipush C (9 : Int32) 16 dL_acts_14 rfl rfl ?_
  refine V_callNs (as := [.ref (scB (kD K)), .int (nI (k + 2)), .int (9 : Int32)]) (pre := []) (w0 := []) (post := [] ++ (xW g A x ++ [])) (rest := []) C hBA Z.1 lz_L_82 st_L_some (c_L_some (k := k + 2) (n := 9) (by omega) (by decide) (by decide)) dL_acts_16 ⟨Nat.le_of_ble_eq_true rfl, Nat.le_of_ble_eq_true rfl⟩ rfl rfl rfl (Nat.le_of_ble_eq_true rfl) ⟨Nat.le_of_ble_eq_true rfl, Nat.le_of_ble_eq_true rfl⟩ (fun rv w1 hP => ?_)
  obtain ⟨w, hw, rfl, rfl⟩ := hP
  show V K 0 0 ([] ++ (xW g A x ++ [])) [(3, .int (nI v)), (0, .ref A.1), (1, .ref (scB (kD K))), (2, .int (nI k))] [.int (nI w)] 19
  refine V_istore C 21 [(4, .int (nI w)), (3, .int (nI v)), (0, .ref A.1), (1, .ref (scB (kD K))), (2, .int (nI k))] dL_acts_19 rfl (hlt 4 (by decide)) rfl ?_
  refine V_aload_n C 2 22 dL_acts_21 rfl rfl ?_
  refine V_callP C ml_L_98 (pre := []) (post := []) (w := xW g A x) (as := []) (rest := []) (c_X3_markCount (q_count hb)) 0 25 dL_acts_22 rfl ⟨Nat.le_of_ble_eq_true rfl, Nat.le_of_ble_eq_true rfl⟩ rfl rfl rfl rfl rfl (Nat.le_of_ble_eq_true rfl) ⟨Nat.zero_le _, Nat.zero_le _⟩ ?_
  refine V_istore C 27 [(5, .int (nI L.length)), (4, .int (nI w)), (3, .int (nI v)), (0, .ref A.1), (1, .ref (scB (kD K))), (2, .int (nI k))] dL_acts_25 rfl (hlt 5 (by decide)) rfl ?_
  refine V_iload C 0 29 dL_acts_27 rfl rfl ?_
  have rest : ∀ mk : Int32, V K 0 0 ([] ++ (xW g A x ++ [])) [(6, .int mk), (5, .int (nI L.length)), (4, .int (nI w)), (3, .int (nI v)), (0, .ref A.1), (1, .ref (scB (kD K))), (2, .int (nI k))] [] 51 := by
    intro mk
    have p108 : V K 0 0 ([] ++ (xW g A x ++ [])) [(6, .int mk), (5, .int (nI L.length)), (4, .int (nI w)), (3, .int (nI v)), (0, .ref A.1), (1, .ref (scB (kD K))), (2, .int (nI k))] [] 108 := by
      by_cases e9 : L.length < 9
      · refine V_iload C 1 110 dL_acts_108 rfl rfl ?_
        refine V_bipush C (9 : Int32) 112 dL_acts_110 rfl rfl ?_
        refine V_icmp_ge C 127 115 dL_acts_112 rfl rfl (fun e => absurd e (show ¬ (9 : Int32) ≤ nI L.length from fun e => by rw [show (9 : Int32) = nI 9 from rfl, nI_leI (by omega) (by omega)] at e; omega)) (fun _ => ?_)
        refine V_aload_n C 4 116 dL_acts_115 rfl rfl ?_
        refine V_iload_n C 3 117 dL_acts_116 rfl rfl ?_
        refine V_iconst C (1 : Int32) 118 dL_acts_117 rfl rfl ?_
        refine V_iload C 2 120 dL_acts_118 rfl rfl ?_
        refine V_iadd C 121 dL_acts_120 rfl ?_
        obtain ⟨r9, h1, h2, h3, h4⟩ := i_addRibbon hiv (by omega) (nI v) (1 + nI w)
        refine V_callH C hBA Z.1 hN lh_addRibbon (pre := []) (w0 := xW g A x) (post := []) (as := [.ref A.1, .int (nI v), .int ((1 : Int32) + (nI w))]) (rest := []) (w_addRibbon hst h1 h2 h3) dL_acts_121 ⟨Nat.le_of_ble_eq_true rfl, Nat.le_of_ble_eq_true rfl⟩ rfl rfl rfl (Nat.le_of_ble_eq_true rfl) ⟨Nat.le_of_ble_eq_true rfl, Nat.le_of_ble_eq_true rfl⟩ (fun rv w1 hP => ?_)
        obtain ⟨⟨v9, rfl⟩, rfl⟩ := hP
        show V K (0 + 1) (0 + 6) ([] ++ (xW g A (sndR r9) ++ [])) [(6, .int mk), (5, .int (nI L.length)), (4, .int (nI w)), (3, .int (nI v)), (0, .ref A.1), (1, .ref (scB (kD K))), (2, .int (nI k))] [.int v9] 124
        refine V_goto C 128 dL_acts_124 rfl ?_
        refine V_istore C 130 [(7, .int v9), (6, .int mk), (5, .int (nI L.length)), (4, .int (nI w)), (3, .int (nI v)), (0, .ref A.1), (1, .ref (scB (kD K))), (2, .int (nI k))] dL_acts_128 rfl (hlt 7 (by decide)) rfl ?_
        refine V_goto C 267 dL_acts_130 rfl ?_
        exact V_nretV C Z rfl ⟨rfl, sndR r9, h4, List.append_nil _⟩ dL_acts_267 (Nat.le_refl _) (Nat.le_refl _)
      · refine V_iload C 1 110 dL_acts_108 rfl rfl ?_
        refine V_bipush C (9 : Int32) 112 dL_acts_110 rfl rfl ?_
        refine V_icmp_ge C 127 115 dL_acts_112 rfl rfl (fun _ => ?_) (fun e => absurd (show (9 : Int32) ≤ nI L.length from by rw [show (9 : Int32) = nI 9 from rfl, nI_leI (by omega) (by omega)]; omega) e)
        refine V_iconst C (0 : Int32) 128 dL_acts_127 rfl rfl ?_
        refine V_istore C 130 [(7, .int (0 : Int32)), (6, .int mk), (5, .int (nI L.length)), (4, .int (nI w)), (3, .int (nI v)), (0, .ref A.1), (1, .ref (scB (kD K))), (2, .int (nI k))] dL_acts_128 rfl (hlt 7 (by decide)) rfl ?_
        refine V_goto C 267 dL_acts_130 rfl ?_
        exact V_nretV C Z rfl ⟨rfl, x, hiv.mono (Nat.le_succ _), List.append_nil _⟩ dL_acts_267 (Nat.zero_le _) (Nat.zero_le _)
    have p133 : V K 0 0 ([] ++ (xW g A x ++ [])) [(6, .int mk), (5, .int (nI L.length)), (4, .int (nI w)), (3, .int (nI v)), (0, .ref A.1), (1, .ref (scB (kD K))), (2, .int (nI k))] [] 133 := by
      by_cases e9 : L.length < 9
      · refine V_iload C 1 135 dL_acts_133 rfl rfl ?_
        refine V_bipush C (9 : Int32) 137 dL_acts_135 rfl rfl ?_
        refine V_icmp_ge C 152 140 dL_acts_137 rfl rfl (fun e => absurd e (show ¬ (9 : Int32) ≤ nI L.length from fun e => by rw [show (9 : Int32) = nI 9 from rfl, nI_leI (by omega) (by omega)] at e; omega)) (fun _ => ?_)
        refine V_aload_n C 4 141 dL_acts_140 rfl rfl ?_
        refine V_iload_n C 3 142 dL_acts_141 rfl rfl ?_
        refine V_iconst C (1 : Int32) 143 dL_acts_142 rfl rfl ?_
        refine V_iload C 2 145 dL_acts_143 rfl rfl ?_
        refine V_iadd C 146 dL_acts_145 rfl ?_
        obtain ⟨r9, h1, h2, h3, h4⟩ := i_addDogEar hiv (by omega) (nI v) (1 + nI w)
        refine V_callH C hBA Z.1 hN lh_addDogEar (pre := []) (w0 := xW g A x) (post := []) (as := [.ref A.1, .int (nI v), .int ((1 : Int32) + (nI w))]) (rest := []) (w_addDogEar hst h1 h2 h3) dL_acts_146 ⟨Nat.le_of_ble_eq_true rfl, Nat.le_of_ble_eq_true rfl⟩ rfl rfl rfl (Nat.le_of_ble_eq_true rfl) ⟨Nat.le_of_ble_eq_true rfl, Nat.le_of_ble_eq_true rfl⟩ (fun rv w1 hP => ?_)
        obtain ⟨⟨v9, rfl⟩, rfl⟩ := hP
        show V K (0 + 1) (0 + 6) ([] ++ (xW g A (sndR r9) ++ [])) [(6, .int mk), (5, .int (nI L.length)), (4, .int (nI w)), (3, .int (nI v)), (0, .ref A.1), (1, .ref (scB (kD K))), (2, .int (nI k))] [.int v9] 149
        refine V_goto C 153 dL_acts_149 rfl ?_
        refine V_istore C 155 [(7, .int v9), (6, .int mk), (5, .int (nI L.length)), (4, .int (nI w)), (3, .int (nI v)), (0, .ref A.1), (1, .ref (scB (kD K))), (2, .int (nI k))] dL_acts_153 rfl (hlt 7 (by decide)) rfl ?_
        refine V_goto C 267 dL_acts_155 rfl ?_
        exact V_nretV C Z rfl ⟨rfl, sndR r9, h4, List.append_nil _⟩ dL_acts_267 (Nat.le_refl _) (Nat.le_refl _)
      · refine V_iload C 1 135 dL_acts_133 rfl rfl ?_
        refine V_bipush C (9 : Int32) 137 dL_acts_135 rfl rfl ?_
        refine V_icmp_ge C 152 140 dL_acts_137 rfl rfl (fun _ => ?_) (fun e => absurd (show (9 : Int32) ≤ nI L.length from by rw [show (9 : Int32) = nI 9 from rfl, nI_leI (by omega) (by omega)]; omega) e)
        refine V_iconst C (0 : Int32) 153 dL_acts_152 rfl rfl ?_
        refine V_istore C 155 [(7, .int (0 : Int32)), (6, .int mk), (5, .int (nI L.length)), (4, .int (nI w)), (3, .int (nI v)), (0, .ref A.1), (1, .ref (scB (kD K))), (2, .int (nI k))] dL_acts_153 rfl (hlt 7 (by decide)) rfl ?_
        refine V_goto C 267 dL_acts_155 rfl ?_
        exact V_nretV C Z rfl ⟨rfl, x, hiv.mono (Nat.le_succ _), List.append_nil _⟩ dL_acts_267 (Nat.zero_le _) (Nat.zero_le _)
    have p158 : V K 0 0 ([] ++ (xW g A x ++ [])) [(6, .int mk), (5, .int (nI L.length)), (4, .int (nI w)), (3, .int (nI v)), (0, .ref A.1), (1, .ref (scB (kD K))), (2, .int (nI k))] [] 158 := by
      by_cases e3 : 3 < L.length
      · refine V_iload C 1 160 dL_acts_158 rfl rfl ?_
        refine V_iconst C (3 : Int32) 161 dL_acts_160 rfl rfl ?_
        refine V_icmp_le C 173 164 dL_acts_161 rfl rfl (fun e => absurd e (show ¬ nI L.length ≤ (3 : Int32) from fun e => by rw [show (3 : Int32) = nI 3 from rfl, nI_leI (by omega) (by omega)] at e; omega)) (fun _ => ?_)
        refine V_aload_n C 4 165 dL_acts_164 rfl rfl ?_
        refine V_iload C 0 167 dL_acts_165 rfl rfl ?_
        obtain ⟨r9, h1, h2, h4⟩ := i_removeMark hiv mk
        refine V_callH C hBA Z.1 hN lh_removeMark (pre := []) (w0 := xW g A x) (post := []) (as := [.ref A.1, .int mk]) (rest := []) (w_removeMark hst h1 h2) dL_acts_167 ⟨Nat.le_of_ble_eq_true rfl, Nat.le_of_ble_eq_true rfl⟩ rfl rfl rfl (Nat.le_of_ble_eq_true rfl) ⟨Nat.le_of_ble_eq_true rfl, Nat.le_of_ble_eq_true rfl⟩ (fun rv w1 hP => ?_)
        obtain ⟨⟨v9, rfl⟩, rfl⟩ := hP
        show V K (0 + 1) (0 + 6) ([] ++ (xW g A (sndR r9) ++ [])) [(6, .int mk), (5, .int (nI L.length)), (4, .int (nI w)), (3, .int (nI v)), (0, .ref A.1), (1, .ref (scB (kD K))), (2, .int (nI k))] [.int v9] 170
        refine V_goto C 174 dL_acts_170 rfl ?_
        refine V_istore C 176 [(7, .int v9), (6, .int mk), (5, .int (nI L.length)), (4, .int (nI w)), (3, .int (nI v)), (0, .ref A.1), (1, .ref (scB (kD K))), (2, .int (nI k))] dL_acts_174 rfl (hlt 7 (by decide)) rfl ?_
        refine V_goto C 267 dL_acts_176 rfl ?_
        exact V_nretV C Z rfl ⟨rfl, sndR r9, h4, List.append_nil _⟩ dL_acts_267 (Nat.le_refl _) (Nat.le_refl _)
      · refine V_iload C 1 160 dL_acts_158 rfl rfl ?_
        refine V_iconst C (3 : Int32) 161 dL_acts_160 rfl rfl ?_
        refine V_icmp_le C 173 164 dL_acts_161 rfl rfl (fun _ => ?_) (fun e => absurd (show nI L.length ≤ (3 : Int32) from by rw [show (3 : Int32) = nI 3 from rfl, nI_leI (by omega) (by omega)]; omega) e)
        refine V_iconst C (0 : Int32) 174 dL_acts_173 rfl rfl ?_
        refine V_istore C 176 [(7, .int (0 : Int32)), (6, .int mk), (5, .int (nI L.length)), (4, .int (nI w)), (3, .int (nI v)), (0, .ref A.1), (1, .ref (scB (kD K))), (2, .int (nI k))] dL_acts_174 rfl (hlt 7 (by decide)) rfl ?_
        refine V_goto C 267 dL_acts_176 rfl ?_
        exact V_nretV C Z rfl ⟨rfl, x, hiv.mono (Nat.le_succ _), List.append_nil _⟩ dL_acts_267 (Nat.zero_le _) (Nat.zero_le _)
    have p179 : V K 0 0 ([] ++ (xW g A x ++ [])) [(6, .int mk), (5, .int (nI L.length)), (4, .int (nI w)), (3, .int (nI v)), (0, .ref A.1), (1, .ref (scB (kD K))), (2, .int (nI k))] [] 179 := by
      refine V_aload_n C 4 180 dL_acts_179 rfl rfl ?_
      refine V_iload C 0 182 dL_acts_180 rfl rfl ?_
      refine V_iload_n C 3 183 dL_acts_182 rfl rfl ?_
      obtain ⟨r9, h1, h2, h3, h4⟩ := i_moveRibbon hiv mk (nI v)
      refine V_callH C hBA Z.1 hN lh_moveRibbon (pre := []) (w0 := xW g A x) (post := []) (as := [.ref A.1, .int mk, .int (nI v)]) (rest := []) (w_moveRibbon hst h1 h2 h3) dL_acts_183 ⟨Nat.le_of_ble_eq_true rfl, Nat.le_of_ble_eq_true rfl⟩ rfl rfl rfl (Nat.le_of_ble_eq_true rfl) ⟨Nat.le_of_ble_eq_true rfl, Nat.le_of_ble_eq_true rfl⟩ (fun rv w1 hP => ?_)
      obtain ⟨⟨v9, rfl⟩, rfl⟩ := hP
      show V K (0 + 1) (0 + 6) ([] ++ (xW g A (sndR r9) ++ [])) [(6, .int mk), (5, .int (nI L.length)), (4, .int (nI w)), (3, .int (nI v)), (0, .ref A.1), (1, .ref (scB (kD K))), (2, .int (nI k))] [.int v9] 186
      refine V_istore C 188 [(7, .int v9), (6, .int mk), (5, .int (nI L.length)), (4, .int (nI w)), (3, .int (nI v)), (0, .ref A.1), (1, .ref (scB (kD K))), (2, .int (nI k))] dL_acts_186 rfl (hlt 7 (by decide)) rfl ?_
      refine V_goto C 267 dL_acts_188 rfl ?_
      exact V_nretV C Z rfl ⟨rfl, sndR r9, h4, List.append_nil _⟩ dL_acts_267 (Nat.le_refl _) (Nat.le_refl _)
    have p191 : V K 0 0 ([] ++ (xW g A x ++ [])) [(6, .int mk), (5, .int (nI L.length)), (4, .int (nI w)), (3, .int (nI v)), (0, .ref A.1), (1, .ref (scB (kD K))), (2, .int (nI k))] [] 191 := by
      by_cases e0 : 0 < L.length
      · refine V_iload C 1 193 dL_acts_191 rfl rfl ?_
        refine V_if_le C 213 196 dL_acts_193 rfl rfl (fun e => absurd e (show ¬ nI L.length ≤ 0 from fun e => by have := (nI_le0 (by omega)).mp e; omega)) (fun _ => ?_)
        refine V_aload_n C 4 197 dL_acts_196 rfl rfl ?_
        refine V_iload C 0 199 dL_acts_197 rfl rfl ?_
        refine V_aload_n C 4 200 dL_acts_199 rfl rfl ?_
        refine V_iload_n C 3 201 dL_acts_200 rfl rfl ?_
        refine V_iload C 1 203 dL_acts_201 rfl rfl ?_
        refine V_irem C 204 dL_acts_203 rfl (fun e => by have := (nI_eq (b := 0) (by omega) (by omega)).mp e; omega) ?_
        refine V_st (st2 := [.int (nI (v % L.length)), .ref A.1, .int mk, .ref A.1]) (by rw [pk_rem (by omega) e0 (by omega)] <;> rfl) ?_
        obtain ⟨z, hz, hzr⟩ := rnk_surj hb.2.2.1 (Nat.mod_lt v e0)
        refine V_callXr C hBA hE ml_L_75 (pre := []) (post := []) (wc := xW g A x) (w1 := xW g A x) (rv := some (.int (nI (mId z)))) (as := [.int (nI (v % L.length))]) (rest := [.int mk, .ref A.1]) (c_X3_markByWeight (R := .inl ((nI (mId z)), x)) hst (hzr ▸ q_byWeight hb hz)) 0 207 ([] ++ (xW g A x ++ [])) dL_acts_204 rfl ⟨Nat.le_of_ble_eq_true rfl, Nat.le_of_ble_eq_true rfl⟩ rfl rfl rfl (xW_fst _ _ _ _) rfl rfl rfl (Nat.le_of_ble_eq_true rfl) ⟨Nat.le_of_ble_eq_true rfl, Nat.le_of_ble_eq_true rfl⟩ ?_
        obtain ⟨r9, h1, h2, h3, h4⟩ := i_swapSeats hiv mk (nI (mId z))
        refine V_callH C hBA Z.1 hN lh_swapSeats (pre := []) (w0 := xW g A x) (post := []) (as := [.ref A.1, .int mk, .int (nI (mId z))]) (rest := []) (w_swapSeats hst h1 h2 h3) dL_acts_207 ⟨Nat.le_of_ble_eq_true rfl, Nat.le_of_ble_eq_true rfl⟩ rfl rfl rfl (Nat.le_of_ble_eq_true rfl) ⟨Nat.le_of_ble_eq_true rfl, Nat.le_of_ble_eq_true rfl⟩ (fun rv w1 hP => ?_)
        obtain ⟨⟨v9, rfl⟩, rfl⟩ := hP
        show V K (0 + 1) (0 + 6) ([] ++ (xW g A (sndR r9) ++ [])) [(6, .int mk), (5, .int (nI L.length)), (4, .int (nI w)), (3, .int (nI v)), (0, .ref A.1), (1, .ref (scB (kD K))), (2, .int (nI k))] [.int v9] 210
        refine V_goto C 214 dL_acts_210 rfl ?_
        refine V_istore C 216 [(7, .int v9), (6, .int mk), (5, .int (nI L.length)), (4, .int (nI w)), (3, .int (nI v)), (0, .ref A.1), (1, .ref (scB (kD K))), (2, .int (nI k))] dL_acts_214 rfl (hlt 7 (by decide)) rfl ?_
        refine V_goto C 267 dL_acts_216 rfl ?_
        exact V_nretV C Z rfl ⟨rfl, sndR r9, h4, List.append_nil _⟩ dL_acts_267 (Nat.le_refl _) (Nat.le_refl _)
      · refine V_iload C 1 193 dL_acts_191 rfl rfl ?_
        refine V_if_le C 213 196 dL_acts_193 rfl rfl (fun _ => ?_) (fun e => absurd (show nI L.length ≤ 0 from (nI_le0 (by omega)).mpr (by omega)) e)
        refine V_iconst C (0 : Int32) 214 dL_acts_213 rfl rfl ?_
        refine V_istore C 216 [(7, .int (0 : Int32)), (6, .int mk), (5, .int (nI L.length)), (4, .int (nI w)), (3, .int (nI v)), (0, .ref A.1), (1, .ref (scB (kD K))), (2, .int (nI k))] dL_acts_214 rfl (hlt 7 (by decide)) rfl ?_
        refine V_goto C 267 dL_acts_216 rfl ?_
        exact V_nretV C Z rfl ⟨rfl, x, hiv.mono (Nat.le_succ _), List.append_nil _⟩ dL_acts_267 (Nat.zero_le _) (Nat.zero_le _)
    have p219 : V K 0 0 ([] ++ (xW g A x ++ [])) [(6, .int mk), (5, .int (nI L.length)), (4, .int (nI w)), (3, .int (nI v)), (0, .ref A.1), (1, .ref (scB (kD K))), (2, .int (nI k))] [] 219 := by
      refine V_aload_n C 4 220 dL_acts_219 rfl rfl ?_
      refine V_iload_n C 3 221 dL_acts_220 rfl rfl ?_
      obtain ⟨r9, h1, h2, h3, h4⟩ := i_startChapter hiv (nI v)
      refine V_callH C hBA Z.1 hN lh_startChapter (pre := []) (w0 := xW g A x) (post := []) (as := [.ref A.1, .int (nI v)]) (rest := []) (w_startChapter hst h1 h2 h3) dL_acts_221 ⟨Nat.le_of_ble_eq_true rfl, Nat.le_of_ble_eq_true rfl⟩ rfl rfl rfl (Nat.le_of_ble_eq_true rfl) ⟨Nat.le_of_ble_eq_true rfl, Nat.le_of_ble_eq_true rfl⟩ (fun rv w1 hP => ?_)
      obtain ⟨⟨v9, rfl⟩, rfl⟩ := hP
      show V K (0 + 1) (0 + 6) ([] ++ (xW g A (sndR r9) ++ [])) [(6, .int mk), (5, .int (nI L.length)), (4, .int (nI w)), (3, .int (nI v)), (0, .ref A.1), (1, .ref (scB (kD K))), (2, .int (nI k))] [.int v9] 224
      refine V_istore C 226 [(7, .int v9), (6, .int mk), (5, .int (nI L.length)), (4, .int (nI w)), (3, .int (nI v)), (0, .ref A.1), (1, .ref (scB (kD K))), (2, .int (nI k))] dL_acts_224 rfl (hlt 7 (by decide)) rfl ?_
      refine V_goto C 267 dL_acts_226 rfl ?_
      exact V_nretV C Z rfl ⟨rfl, sndR r9, h4, List.append_nil _⟩ dL_acts_267 (Nat.le_refl _) (Nat.le_refl _)
    have p229 : V K 0 0 ([] ++ (xW g A x ++ [])) [(6, .int mk), (5, .int (nI L.length)), (4, .int (nI w)), (3, .int (nI v)), (0, .ref A.1), (1, .ref (scB (kD K))), (2, .int (nI k))] [] 229 := by
      refine V_aload_n C 4 230 dL_acts_229 rfl rfl ?_
      refine V_iload_n C 3 231 dL_acts_230 rfl rfl ?_
      refine V_aload_n C 4 232 dL_acts_231 rfl rfl ?_
      refine V_callP C ml_L_107 (pre := []) (post := []) (w := xW g A x) (as := []) (rest := [.int (nI v), .ref A.1]) (c_X3_chapterCount (q_chapters hb)) 0 235 dL_acts_232 rfl ⟨Nat.le_of_ble_eq_true rfl, Nat.le_of_ble_eq_true rfl⟩ rfl rfl rfl rfl rfl (Nat.le_of_ble_eq_true rfl) ⟨Nat.zero_le _, Nat.zero_le _⟩ ?_
      refine V_irem C 236 dL_acts_235 rfl (fun e => by have := (nI_eq (b := 0) (by omega) (by omega)).mp e; omega) ?_
      obtain ⟨r9, h1, h2, h3, h4⟩ := i_vote hiv (nI v - nI v / nI S.length * nI S.length)
      refine V_callH C hBA Z.1 hN lh_vote (pre := []) (w0 := xW g A x) (post := []) (as := [.ref A.1, .int (nI v - nI v / nI S.length * nI S.length)]) (rest := []) (w_vote hst h1 h2 h3) dL_acts_236 ⟨Nat.le_of_ble_eq_true rfl, Nat.le_of_ble_eq_true rfl⟩ rfl rfl rfl (Nat.le_of_ble_eq_true rfl) ⟨Nat.le_of_ble_eq_true rfl, Nat.le_of_ble_eq_true rfl⟩ (fun rv w1 hP => ?_)
      obtain ⟨⟨v9, rfl⟩, rfl⟩ := hP
      show V K (0 + 1) (0 + 6) ([] ++ (xW g A (sndR r9) ++ [])) [(6, .int mk), (5, .int (nI L.length)), (4, .int (nI w)), (3, .int (nI v)), (0, .ref A.1), (1, .ref (scB (kD K))), (2, .int (nI k))] [.int v9] 239
      refine V_istore C 241 [(7, .int v9), (6, .int mk), (5, .int (nI L.length)), (4, .int (nI w)), (3, .int (nI v)), (0, .ref A.1), (1, .ref (scB (kD K))), (2, .int (nI k))] dL_acts_239 rfl (hlt 7 (by decide)) rfl ?_
      refine V_goto C 267 dL_acts_241 rfl ?_
      exact V_nretV C Z rfl ⟨rfl, sndR r9, h4, List.append_nil _⟩ dL_acts_267 (Nat.le_refl _) (Nat.le_refl _)
    have p244 : V K 0 0 ([] ++ (xW g A x ++ [])) [(6, .int mk), (5, .int (nI L.length)), (4, .int (nI w)), (3, .int (nI v)), (0, .ref A.1), (1, .ref (scB (kD K))), (2, .int (nI k))] [] 244 := by
      refine V_aload_n C 4 245 dL_acts_244 rfl rfl ?_
      refine V_iconst C (1 : Int32) 246 dL_acts_245 rfl rfl ?_
      refine V_iload_n C 3 247 dL_acts_246 rfl rfl ?_
      refine V_bipush C (20 : Int32) 249 dL_acts_247 rfl rfl ?_
      refine V_irem C 250 dL_acts_249 rfl (by decide) ?_
      refine V_iadd C 251 dL_acts_250 rfl ?_
      refine V_iload C 2 253 dL_acts_251 rfl rfl ?_
      refine V_iconst C (5 : Int32) 254 dL_acts_253 rfl rfl ?_
      by_cases e5 : w < 5
      · refine V_icmp_ge C 261 257 dL_acts_254 rfl rfl (fun e => absurd e (show ¬ (5 : Int32) ≤ nI w from fun e => by rw [show (5 : Int32) = nI 5 from rfl, nI_leI (by omega) (by omega)] at e; omega)) (fun _ => ?_)
        refine V_iconst C (1 : Int32) 258 dL_acts_257 rfl rfl ?_
        refine V_goto C 262 dL_acts_258 rfl ?_
        obtain ⟨r9, h1, h2, h3, h4⟩ := i_turnPages hiv ((1 : Int32) + (nI v - nI v / 20 * 20)) true
        refine V_callH C hBA Z.1 hN lh_turnPages (pre := []) (w0 := xW g A x) (post := []) (as := [.ref A.1, .int ((1 : Int32) + (nI v - nI v / 20 * 20)), .int (b2 true)]) (rest := []) (w_turnPages hst h1 h2 h3) dL_acts_262 ⟨Nat.le_of_ble_eq_true rfl, Nat.le_of_ble_eq_true rfl⟩ rfl rfl rfl (Nat.le_of_ble_eq_true rfl) ⟨Nat.le_of_ble_eq_true rfl, Nat.le_of_ble_eq_true rfl⟩ (fun rv w1 hP => ?_)
        obtain ⟨⟨v9, rfl⟩, rfl⟩ := hP
        show V K (0 + 1) (0 + 6) ([] ++ (xW g A (sndR r9) ++ [])) [(6, .int mk), (5, .int (nI L.length)), (4, .int (nI w)), (3, .int (nI v)), (0, .ref A.1), (1, .ref (scB (kD K))), (2, .int (nI k))] [.int v9] 265
        refine V_istore C 267 [(7, .int v9), (6, .int mk), (5, .int (nI L.length)), (4, .int (nI w)), (3, .int (nI v)), (0, .ref A.1), (1, .ref (scB (kD K))), (2, .int (nI k))] dL_acts_265 rfl (hlt 7 (by decide)) rfl ?_
        exact V_nretV C Z rfl ⟨rfl, sndR r9, h4, List.append_nil _⟩ dL_acts_267 (Nat.le_refl _) (Nat.le_refl _)
      · refine V_icmp_ge C 261 257 dL_acts_254 rfl rfl (fun _ => ?_) (fun e => absurd (show (5 : Int32) ≤ nI w from by rw [show (5 : Int32) = nI 5 from rfl, nI_leI (by omega) (by omega)]; omega) e)
        refine V_iconst C (0 : Int32) 262 dL_acts_261 rfl rfl ?_
        obtain ⟨r9, h1, h2, h3, h4⟩ := i_turnPages hiv ((1 : Int32) + (nI v - nI v / 20 * 20)) false
        refine V_callH C hBA Z.1 hN lh_turnPages (pre := []) (w0 := xW g A x) (post := []) (as := [.ref A.1, .int ((1 : Int32) + (nI v - nI v / 20 * 20)), .int (b2 false)]) (rest := []) (w_turnPages hst h1 h2 h3) dL_acts_262 ⟨Nat.le_of_ble_eq_true rfl, Nat.le_of_ble_eq_true rfl⟩ rfl rfl rfl (Nat.le_of_ble_eq_true rfl) ⟨Nat.le_of_ble_eq_true rfl, Nat.le_of_ble_eq_true rfl⟩ (fun rv w1 hP => ?_)
        obtain ⟨⟨v9, rfl⟩, rfl⟩ := hP
        show V K (0 + 1) (0 + 6) ([] ++ (xW g A (sndR r9) ++ [])) [(6, .int mk), (5, .int (nI L.length)), (4, .int (nI w)), (3, .int (nI v)), (0, .ref A.1), (1, .ref (scB (kD K))), (2, .int (nI k))] [.int v9] 265
        refine V_istore C 267 [(7, .int v9), (6, .int mk), (5, .int (nI L.length)), (4, .int (nI w)), (3, .int (nI v)), (0, .ref A.1), (1, .ref (scB (kD K))), (2, .int (nI k))] dL_acts_265 rfl (hlt 7 (by decide)) rfl ?_
        exact V_nretV C Z rfl ⟨rfl, sndR r9, h4, List.append_nil _⟩ dL_acts_267 (Nat.le_refl _) (Nat.le_refl _)
    refine V_aload_n C 5 52 dL_acts_51 rfl rfl ?_
    refine V_iload_n C 6 53 dL_acts_52 rfl rfl ?_
    refine V_bipush C (14 : Int32) 55 dL_acts_53 rfl rfl ?_
    refine V_callNs (as := [.ref (scB (kD K)), .int (nI k), .int (14 : Int32)]) (pre := []) (w0 := []) (post := [] ++ (xW g A x ++ [])) (rest := []) C hBA Z.1 lz_L_82 st_L_some (c_L_some (k := k) (n := 14) (by omega) (by decide) (by decide)) dL_acts_55 ⟨Nat.le_of_ble_eq_true rfl, Nat.le_of_ble_eq_true rfl⟩ rfl rfl rfl (Nat.le_of_ble_eq_true rfl) ⟨Nat.le_of_ble_eq_true rfl, Nat.le_of_ble_eq_true rfl⟩ (fun rv w1 hP => ?_)
    obtain ⟨c, hc, rfl, rfl⟩ := hP
    show V K 0 0 ([] ++ (xW g A x ++ [])) [(6, .int mk), (5, .int (nI L.length)), (4, .int (nI w)), (3, .int (nI v)), (0, .ref A.1), (1, .ref (scB (kD K))), (2, .int (nI k))] [.int (nI c)] 58
    rcases c with _ | _ | _ | _ | _ | _ | _ | _ | _ | _ | _ | _ | _ | _ | c
    · exact V_tblIn C 108 dL_acts_58 (by decide) (by decide) rfl rfl p108
    · exact V_tblIn C 133 dL_acts_58 (by decide) (by decide) rfl rfl p133
    · exact V_tblIn C 133 dL_acts_58 (by decide) (by decide) rfl rfl p133
    · exact V_tblIn C 158 dL_acts_58 (by decide) (by decide) rfl rfl p158
    · exact V_tblIn C 179 dL_acts_58 (by decide) (by decide) rfl rfl p179
    · exact V_tblIn C 179 dL_acts_58 (by decide) (by decide) rfl rfl p179
    · exact V_tblIn C 191 dL_acts_58 (by decide) (by decide) rfl rfl p191
    · exact V_tblIn C 219 dL_acts_58 (by decide) (by decide) rfl rfl p219
    · exact V_tblIn C 229 dL_acts_58 (by decide) (by decide) rfl rfl p229
    · exact V_tblOut C 244 dL_acts_58 (by decide) rfl p244
    · exact V_tblOut C 244 dL_acts_58 (by decide) rfl p244
    · exact V_tblOut C 244 dL_acts_58 (by decide) rfl p244
    · exact V_tblOut C 244 dL_acts_58 (by decide) rfl p244
    · exact V_tblOut C 244 dL_acts_58 (by decide) rfl p244
    · omega
  by_cases e0 : L.length = 0
  · refine V_if_ne C 36 32 dL_acts_29 rfl rfl (fun e => absurd (show nI L.length = 0 from by rw [e0]; rfl) e) (fun _ => ?_)
    refine V_iconst C (0 : Int32) 33 dL_acts_32 rfl rfl ?_
    refine V_goto C 49 dL_acts_33 rfl ?_
    refine V_istore C 51 [(6, .int (0 : Int32)), (5, .int (nI L.length)), (4, .int (nI w)), (3, .int (nI v)), (0, .ref A.1), (1, .ref (scB (kD K))), (2, .int (nI k))] dL_acts_49 rfl (hlt 6 (by decide)) rfl ?_
    exact rest 0
  · refine V_if_ne C 36 32 dL_acts_29 rfl rfl (fun _ => ?_) (fun e => absurd e (show ¬ nI L.length = 0 from fun e => e0 ((nI_eq (b := 0) (by omega) (by omega)).mp e)))
    refine V_aload_n C 3 37 dL_acts_36 rfl rfl ?_
    refine V_aload_n C 4 38 dL_acts_37 rfl rfl ?_
    refine V_iload_n C 5 39 dL_acts_38 rfl rfl ?_
    refine V_iconst C (3 : Int32) 40 dL_acts_39 rfl rfl ?_
    refine V_iadd C 41 dL_acts_40 rfl ?_
    refine V_st (st2 := [.int (nI (k + 3)), .ref (scB (kD K)), .ref A.1]) (by rw [show (3 : Int32) = nI 3 from rfl, nI_add] <;> rfl) ?_
    refine V_iload C 0 43 dL_acts_41 rfl rfl ?_
    refine V_callNs (as := [.ref (scB (kD K)), .int (nI (k + 3)), .int (nI L.length)]) (pre := []) (w0 := []) (post := [] ++ (xW g A x ++ [])) (rest := [.ref A.1]) C hBA Z.1 lz_L_82 st_L_some (c_L_some (k := k + 3) (n := L.length) (by omega) (by omega) (by omega)) dL_acts_43 ⟨Nat.le_of_ble_eq_true rfl, Nat.le_of_ble_eq_true rfl⟩ rfl rfl rfl (Nat.le_of_ble_eq_true rfl) ⟨Nat.le_of_ble_eq_true rfl, Nat.le_of_ble_eq_true rfl⟩ (fun rv w1 hP => ?_)
    obtain ⟨j, hj, rfl, rfl⟩ := hP
    show V K 0 0 ([] ++ (xW g A x ++ [])) [(5, .int (nI L.length)), (4, .int (nI w)), (3, .int (nI v)), (0, .ref A.1), (1, .ref (scB (kD K))), (2, .int (nI k))] [.int (nI j), .ref A.1] 46
    obtain ⟨z, hz⟩ : ∃ z, L[j]? = some z := ⟨L[j]'hj, List.getElem?_eq_getElem _⟩
    refine V_callXr C hBA hE ml_L_72 (pre := []) (post := []) (wc := xW g A x) (w1 := xW g A x) (rv := some (.int (nI (mId z)))) (as := [.int (nI j)]) (rest := []) (c_X3_markByPage (R := .inl ((nI (mId z)), x)) hst (q_byPage hb hz)) 0 49 ([] ++ (xW g A x ++ [])) dL_acts_46 rfl ⟨Nat.le_of_ble_eq_true rfl, Nat.le_of_ble_eq_true rfl⟩ rfl rfl rfl (xW_fst _ _ _ _) rfl rfl rfl (Nat.le_of_ble_eq_true rfl) ⟨Nat.le_of_ble_eq_true rfl, Nat.le_of_ble_eq_true rfl⟩ ?_
    refine V_istore C 51 [(6, .int (nI (mId z))), (5, .int (nI L.length)), (4, .int (nI w)), (3, .int (nI v)), (0, .ref A.1), (1, .ref (scB (kD K))), (2, .int (nI k))] dL_acts_49 rfl (hlt 6 (by decide)) rfl ?_
    exact rest _
set_option maxRecDepth 8000 in
set_option maxHeartbeats 4000000 in
theorem c_L_build {l : Launch} {D : va_G} {g : G0} {A : XA} {x : XV} {N : Nat} (hst : l.stackTraces = false) (hiv : IV N x) (hN2 : N < 2 ^ 20) : CtN l D g yL_build cL_build 4 none (rmN 12 360 26 156) (xW g A x) [.ref A.1, .ref (scB D)] (fun rv w1 => rv = none ∧ ∃ x1, IV (N + 26) x1 ∧ w1 = xW g A x1) 26 156 := by
  refine CtN.of (by decide) (Nat.le_of_ble_eq_true rfl) ?_
  intro K C Z hBA el eD ekn
  subst el
  subst eD
  have hlt : ∀ i, i < 4 → i < kn K := fun i h => by rw [ekn]; exact h
  show V K 0 0 (xW g A x) [(0, .ref A.1), (1, .ref (scB (kD K)))] [] 0
  have hE := Z.1.2.2.2.2.2
  have hN := Z.1.sk.2.2.2.2
  refine V_eq (ws2 := [] ++ (xW g A x ++ [])) (List.append_nil _).symm ?_
  have l107 : ∀ d i (lv2 : List (Nat × Value)) (y : XV), i + d = 14 → IV (N + (i + 12)) y → V K (i + 12) (6 * (i + 12)) ([] ++ (xW g A y ++ [])) ([(3, .int (nI i)), (0, .ref A.1), (1, .ref (scB (kD K)))]) [] 107 := by
    intro d
    induction d with
    | zero =>
      intro i lv2 y hi hy
      refine V_iload_n C 0 108 dL_build_107 rfl rfl ?_
      refine V_bipush C (14 : Int32) 110 dL_build_108 rfl rfl ?_
      refine V_icmp_ge C 130 113 dL_build_110 rfl rfl (fun _ => ?_) (fun e => absurd (show (14 : Int32) ≤ nI i from by rw [show (14 : Int32) = nI 14 from rfl, nI_leI (by omega) (by omega)]; omega) e)
      obtain rfl : i = 14 := by omega
      exact V_nretV C Z rfl ⟨rfl, y, hy, List.append_nil _⟩ dL_build_130 (Nat.le_refl _) (Nat.le_refl _)
    | succ d ih =>
      intro i lv2 y hi hy
      refine V_iload_n C 0 108 dL_build_107 rfl rfl ?_
      refine V_bipush C (14 : Int32) 110 dL_build_108 rfl rfl ?_
      refine V_icmp_ge C 130 113 dL_build_110 rfl rfl (fun e => absurd e (show ¬ (14 : Int32) ≤ nI i from fun e => by rw [show (14 : Int32) = nI 14 from rfl, nI_leI (by omega) (by omega)] at e; omega)) (fun _ => ?_)
      refine V_aload_n C 1 114 dL_build_113 rfl rfl ?_
      refine V_aload_n C 2 115 dL_build_114 rfl rfl ?_
      refine V_bipush C (44 : Int32) 117 dL_build_115 rfl rfl ?_
      refine V_iconst C (4 : Int32) 118 dL_build_117 rfl rfl ?_
      refine V_iload_n C 0 119 dL_build_118 rfl rfl ?_
      refine V_imul C 120 dL_build_119 rfl ?_
      refine V_st (st2 := [.int (nI (4 * i)), .int (44 : Int32), .ref (scB (kD K)), .ref A.1]) (by rw [show (4 : Int32) = nI 4 from rfl, pk_mul] <;> rfl) ?_
      refine V_iadd C 121 dL_build_120 rfl ?_
      refine V_st (st2 := [.int (nI (44 + 4 * i)), .ref (scB (kD K)), .ref A.1]) (by rw [show (44 : Int32) = nI 44 from rfl, nI_add] <;> rfl) ?_
      refine V_callNs (as := [.ref A.1, .ref (scB (kD K)), .int (nI (44 + 4 * i))]) (pre := []) (w0 := xW g A y) (post := []) (rest := []) C hBA Z.1 lz_L_94 st_L_acts (c_L_acts hst hy (by omega) (by omega)) dL_build_121 ⟨Nat.le_of_ble_eq_true rfl, Nat.le_of_ble_eq_true rfl⟩ rfl rfl rfl (Nat.le_of_ble_eq_true rfl) ⟨by show i + 12 + 1 ≤ 26; omega, by show 6 * (i + 12) + 6 ≤ 156; omega⟩ (fun rv w1 hP => ?_)
      obtain ⟨rfl, y1, hy1, rfl⟩ := hP
      show V K (i + 12 + 1) (6 * (i + 12) + 6) ([] ++ (xW g A y1 ++ [])) [(3, .int (nI i)), (0, .ref A.1), (1, .ref (scB (kD K)))] [] 124
      refine V_iinc C 0 (nI (i + 1)) 127 [(3, .int (nI (i + 1))), (0, .ref A.1), (1, .ref (scB (kD K)))] dL_build_124 rfl rfl (nI_1 i) (hlt 3 (by decide)) rfl ?_
      refine V_goto C 107 dL_build_127 rfl ?_
      refine V_widen (c2 := i + 1 + 12) (s2 := 6 * (i + 1 + 12)) (by omega) (by omega) ?_
      exact ih (i + 1) [] y1 (by omega) (by rw [show N + (i + 1 + 12) = N + (i + 12) + 1 by omega]; exact hy1)
  have l79 : ∀ d i (lv2 : List (Nat × Value)) (y : XV), i + d = 3 → IV (N + (i + 9)) y → V K (i + 9) (6 * (i + 9)) ([] ++ (xW g A y ++ [])) ([(3, .int (nI i)), (0, .ref A.1), (1, .ref (scB (kD K)))]) [] 79 := by
    intro d
    induction d with
    | zero =>
      intro i lv2 y hi hy
      refine V_iload_n C 0 80 dL_build_79 rfl rfl ?_
      refine V_iconst C (3 : Int32) 81 dL_build_80 rfl rfl ?_
      refine V_icmp_ge C 105 84 dL_build_81 rfl rfl (fun _ => ?_) (fun e => absurd (show (3 : Int32) ≤ nI i from by rw [show (3 : Int32) = nI 3 from rfl, nI_leI (by omega) (by omega)]; omega) e)
      refine V_iconst C (0 : Int32) 106 dL_build_105 rfl rfl ?_
      refine V_istore_n C 107 [(3, .int (0 : Int32)), (0, .ref A.1), (1, .ref (scB (kD K)))] dL_build_106 rfl (hlt 3 (by decide)) rfl ?_
      obtain rfl : i = 3 := by omega
      exact l107 14 0 [] y rfl hy
    | succ d ih =>
      intro i lv2 y hi hy
      refine V_iload_n C 0 80 dL_build_79 rfl rfl ?_
      refine V_iconst C (3 : Int32) 81 dL_build_80 rfl rfl ?_
      refine V_icmp_ge C 105 84 dL_build_81 rfl rfl (fun e => absurd e (show ¬ (3 : Int32) ≤ nI i from fun e => by rw [show (3 : Int32) = nI 3 from rfl, nI_leI (by omega) (by omega)] at e; omega)) (fun _ => ?_)
      refine V_aload_n C 1 85 dL_build_84 rfl rfl ?_
      refine V_aload_n C 2 86 dL_build_85 rfl rfl ?_
      refine V_bipush C (40 : Int32) 88 dL_build_86 rfl rfl ?_
      refine V_iload_n C 0 89 dL_build_88 rfl rfl ?_
      refine V_iadd C 90 dL_build_89 rfl ?_
      refine V_st (st2 := [.int (nI (40 + i)), .ref (scB (kD K)), .ref A.1]) (by rw [show (40 : Int32) = nI 40 from rfl, nI_add] <;> rfl) ?_
      refine V_bipush C (60 : Int32) 92 dL_build_90 rfl rfl ?_
      refine V_callNs (as := [.ref (scB (kD K)), .int (nI (40 + i)), .int (60 : Int32)]) (pre := []) (w0 := []) (post := [] ++ (xW g A y ++ [])) (rest := [.ref A.1]) C hBA Z.1 lz_L_82 st_L_some (c_L_some (k := 40 + i) (n := 60) (by omega) (by decide) (by decide)) dL_build_92 ⟨Nat.le_of_ble_eq_true rfl, Nat.le_of_ble_eq_true rfl⟩ rfl rfl rfl (Nat.le_of_ble_eq_true rfl) ⟨by show i + 9 + 0 ≤ 26; omega, by show 6 * (i + 9) + 0 ≤ 156; omega⟩ (fun rv w1 hP => ?_)
      obtain ⟨v, hv, rfl, rfl⟩ := hP
      show V K (i + 9) (6 * (i + 9)) ([] ++ (xW g A y ++ [])) [(3, .int (nI i)), (0, .ref A.1), (1, .ref (scB (kD K)))] [.int (nI v), .ref A.1] 95
      obtain ⟨r9, h1, h2, h3, h4⟩ := i_startChapter hy (nI v)
      refine V_callH C hBA Z.1 hN lh_startChapter (pre := []) (w0 := xW g A y) (post := []) (as := [.ref A.1, .int (nI v)]) (rest := []) (w_startChapter hst h1 h2 h3) dL_build_95 ⟨Nat.le_of_ble_eq_true rfl, Nat.le_of_ble_eq_true rfl⟩ rfl rfl rfl (Nat.le_of_ble_eq_true rfl) ⟨by show i + 9 + 1 ≤ 26; omega, by show 6 * (i + 9) + 6 ≤ 156; omega⟩ (fun rv w1 hP => ?_)
      obtain ⟨⟨v9, rfl⟩, rfl⟩ := hP
      show V K (i + 9 + 1) (6 * (i + 9) + 6) ([] ++ (xW g A (sndR r9) ++ [])) [(3, .int (nI i)), (0, .ref A.1), (1, .ref (scB (kD K)))] [.int v9] 98
      have hy1 := h4
      refine V_istore_n C 99 [(2, .int v9), (3, .int (nI i)), (0, .ref A.1), (1, .ref (scB (kD K)))] dL_build_98 rfl (hlt 2 (by decide)) rfl ?_
      refine V_lv [1, 2, 3] (lv' := [(3, .int (nI i)), (0, .ref A.1), (1, .ref (scB (kD K)))]) rfl ?_
      refine V_iinc C 0 (nI (i + 1)) 102 [(3, .int (nI (i + 1))), (0, .ref A.1), (1, .ref (scB (kD K)))] dL_build_99 rfl rfl (nI_1 i) (hlt 3 (by decide)) rfl ?_
      refine V_goto C 79 dL_build_102 rfl ?_
      refine V_widen (c2 := i + 1 + 9) (s2 := 6 * (i + 1 + 9)) (by omega) (by omega) ?_
      exact ih (i + 1) [] (sndR r9) (by omega) (by rw [show N + (i + 1 + 9) = N + (i + 9) + 1 by omega]; exact hy1)
  have l39 : ∀ d i (lv2 : List (Nat × Value)) (y : XV), i + d = 5 → IV (N + (i + 4)) y → V K (i + 4) (6 * (i + 4)) ([] ++ (xW g A y ++ [])) ([(3, .int (nI i)), (0, .ref A.1), (1, .ref (scB (kD K)))]) [] 39 := by
    intro d
    induction d with
    | zero =>
      intro i lv2 y hi hy
      refine V_iload_n C 0 40 dL_build_39 rfl rfl ?_
      refine V_iconst C (5 : Int32) 41 dL_build_40 rfl rfl ?_
      refine V_icmp_ge C 77 44 dL_build_41 rfl rfl (fun _ => ?_) (fun e => absurd (show (5 : Int32) ≤ nI i from by rw [show (5 : Int32) = nI 5 from rfl, nI_leI (by omega) (by omega)]; omega) e)
      refine V_iconst C (0 : Int32) 78 dL_build_77 rfl rfl ?_
      refine V_istore_n C 79 [(3, .int (0 : Int32)), (0, .ref A.1), (1, .ref (scB (kD K)))] dL_build_78 rfl (hlt 3 (by decide)) rfl ?_
      obtain rfl : i = 5 := by omega
      exact l79 3 0 [] y rfl hy
    | succ d ih =>
      intro i lv2 y hi hy
      refine V_iload_n C 0 40 dL_build_39 rfl rfl ?_
      refine V_iconst C (5 : Int32) 41 dL_build_40 rfl rfl ?_
      refine V_icmp_ge C 77 44 dL_build_41 rfl rfl (fun e => absurd e (show ¬ (5 : Int32) ≤ nI i from fun e => by rw [show (5 : Int32) = nI 5 from rfl, nI_leI (by omega) (by omega)] at e; omega)) (fun _ => ?_)
      refine V_aload_n C 1 45 dL_build_44 rfl rfl ?_
      refine V_aload_n C 2 46 dL_build_45 rfl rfl ?_
      refine V_bipush C (20 : Int32) 48 dL_build_46 rfl rfl ?_
      refine V_iload_n C 0 49 dL_build_48 rfl rfl ?_
      refine V_iadd C 50 dL_build_49 rfl ?_
      refine V_st (st2 := [.int (nI (20 + i)), .ref (scB (kD K)), .ref A.1]) (by rw [show (20 : Int32) = nI 20 from rfl, nI_add] <;> rfl) ?_
      refine V_bipush C (60 : Int32) 52 dL_build_50 rfl rfl ?_
      refine V_callNs (as := [.ref (scB (kD K)), .int (nI (20 + i)), .int (60 : Int32)]) (pre := []) (w0 := []) (post := [] ++ (xW g A y ++ [])) (rest := [.ref A.1]) C hBA Z.1 lz_L_82 st_L_some (c_L_some (k := 20 + i) (n := 60) (by omega) (by decide) (by decide)) dL_build_52 ⟨Nat.le_of_ble_eq_true rfl, Nat.le_of_ble_eq_true rfl⟩ rfl rfl rfl (Nat.le_of_ble_eq_true rfl) ⟨by show i + 4 + 0 ≤ 26; omega, by show 6 * (i + 4) + 0 ≤ 156; omega⟩ (fun rv w1 hP => ?_)
      obtain ⟨v, hv, rfl, rfl⟩ := hP
      show V K (i + 4) (6 * (i + 4)) ([] ++ (xW g A y ++ [])) [(3, .int (nI i)), (0, .ref A.1), (1, .ref (scB (kD K)))] [.int (nI v), .ref A.1] 55
      refine V_iconst C (1 : Int32) 56 dL_build_55 rfl rfl ?_
      refine V_aload_n C 2 57 dL_build_56 rfl rfl ?_
      refine V_bipush C (30 : Int32) 59 dL_build_57 rfl rfl ?_
      refine V_iload_n C 0 60 dL_build_59 rfl rfl ?_
      refine V_iadd C 61 dL_build_60 rfl ?_
      refine V_st (st2 := [.int (nI (30 + i)), .ref (scB (kD K)), .int (1 : Int32), .int (nI v), .ref A.1]) (by rw [show (30 : Int32) = nI 30 from rfl, nI_add] <;> rfl) ?_
      refine V_bipush C (9 : Int32) 63 dL_build_61 rfl rfl ?_
      refine V_callNs (as := [.ref (scB (kD K)), .int (nI (30 + i)), .int (9 : Int32)]) (pre := []) (w0 := []) (post := [] ++ (xW g A y ++ [])) (rest := [.int (1 : Int32), .int (nI v), .ref A.1]) C hBA Z.1 lz_L_82 st_L_some (c_L_some (k := 30 + i) (n := 9) (by omega) (by decide) (by decide)) dL_build_63 ⟨Nat.le_of_ble_eq_true rfl, Nat.le_of_ble_eq_true rfl⟩ rfl rfl rfl (Nat.le_of_ble_eq_true rfl) ⟨by show i + 4 + 0 ≤ 26; omega, by show 6 * (i + 4) + 0 ≤ 156; omega⟩ (fun rv w1 hP => ?_)
      obtain ⟨u, hu, rfl, rfl⟩ := hP
      show V K (i + 4) (6 * (i + 4)) ([] ++ (xW g A y ++ [])) [(3, .int (nI i)), (0, .ref A.1), (1, .ref (scB (kD K)))] [.int (nI u), .int (1 : Int32), .int (nI v), .ref A.1] 66
      refine V_iadd C 67 dL_build_66 rfl ?_
      obtain ⟨r9, h1, h2, h3, hy1⟩ := i_addDogEar hy (by omega) (nI v) ((1 : Int32) + nI u)
      refine V_callH C hBA Z.1 hN lh_addDogEar (pre := []) (w0 := xW g A y) (post := []) (as := [.ref A.1, .int (nI v), .int ((1 : Int32) + (nI u))]) (rest := []) (w_addDogEar hst h1 h2 h3) dL_build_67 ⟨Nat.le_of_ble_eq_true rfl, Nat.le_of_ble_eq_true rfl⟩ rfl rfl rfl (Nat.le_of_ble_eq_true rfl) ⟨by show i + 4 + 1 ≤ 26; omega, by show 6 * (i + 4) + 6 ≤ 156; omega⟩ (fun rv w1 hP => ?_)
      obtain ⟨⟨v9, rfl⟩, rfl⟩ := hP
      show V K (i + 4 + 1) (6 * (i + 4) + 6) ([] ++ (xW g A (sndR r9) ++ [])) [(3, .int (nI i)), (0, .ref A.1), (1, .ref (scB (kD K)))] [.int v9] 70
      refine V_istore_n C 71 [(2, .int v9), (3, .int (nI i)), (0, .ref A.1), (1, .ref (scB (kD K)))] dL_build_70 rfl (hlt 2 (by decide)) rfl ?_
      refine V_lv [1, 2, 3] (lv' := [(3, .int (nI i)), (0, .ref A.1), (1, .ref (scB (kD K)))]) rfl ?_
      refine V_iinc C 0 (nI (i + 1)) 74 [(3, .int (nI (i + 1))), (0, .ref A.1), (1, .ref (scB (kD K)))] dL_build_71 rfl rfl (nI_1 i) (hlt 3 (by decide)) rfl ?_
      refine V_goto C 39 dL_build_74 rfl ?_
      refine V_widen (c2 := i + 1 + 4) (s2 := 6 * (i + 1 + 4)) (by omega) (by omega) ?_
      exact ih (i + 1) [] (sndR r9) (by omega) (by rw [show N + (i + 1 + 4) = N + (i + 4) + 1 by omega]; exact hy1)
  have l2 : ∀ d i (lv2 : List (Nat × Value)) (y : XV), i + d = 4 → IV (N + (i + 0)) y → V K (i + 0) (6 * (i + 0)) ([] ++ (xW g A y ++ [])) ([(3, .int (nI i)), (0, .ref A.1), (1, .ref (scB (kD K)))]) [] 2 := by
    intro d
    induction d with
    | zero =>
      intro i lv2 y hi hy
      refine V_iload_n C 0 3 dL_build_2 rfl rfl ?_
      refine V_iconst C (4 : Int32) 4 dL_build_3 rfl rfl ?_
      refine V_icmp_ge C 37 7 dL_build_4 rfl rfl (fun _ => ?_) (fun e => absurd (show (4 : Int32) ≤ nI i from by rw [show (4 : Int32) = nI 4 from rfl, nI_leI (by omega) (by omega)]; omega) e)
      refine V_iconst C (0 : Int32) 38 dL_build_37 rfl rfl ?_
      refine V_istore_n C 39 [(3, .int (0 : Int32)), (0, .ref A.1), (1, .ref (scB (kD K)))] dL_build_38 rfl (hlt 3 (by decide)) rfl ?_
      obtain rfl : i = 4 := by omega
      exact l39 5 0 [] y rfl hy
    | succ d ih =>
      intro i lv2 y hi hy
      refine V_iload_n C 0 3 dL_build_2 rfl rfl ?_
      refine V_iconst C (4 : Int32) 4 dL_build_3 rfl rfl ?_
      refine V_icmp_ge C 37 7 dL_build_4 rfl rfl (fun e => absurd e (show ¬ (4 : Int32) ≤ nI i from fun e => by rw [show (4 : Int32) = nI 4 from rfl, nI_leI (by omega) (by omega)] at e; omega)) (fun _ => ?_)
      refine V_aload_n C 1 8 dL_build_7 rfl rfl ?_
      refine V_aload_n C 2 9 dL_build_8 rfl rfl ?_
      refine V_iload_n C 0 10 dL_build_9 rfl rfl ?_
      refine V_bipush C (60 : Int32) 12 dL_build_10 rfl rfl ?_
      refine V_callNs (as := [.ref (scB (kD K)), .int (nI i), .int (60 : Int32)]) (pre := []) (w0 := []) (post := [] ++ (xW g A y ++ [])) (rest := [.ref A.1]) C hBA Z.1 lz_L_82 st_L_some (c_L_some (k := i) (n := 60) (by omega) (by decide) (by decide)) dL_build_12 ⟨Nat.le_of_ble_eq_true rfl, Nat.le_of_ble_eq_true rfl⟩ rfl rfl rfl (Nat.le_of_ble_eq_true rfl) ⟨by show i + 0 + 0 ≤ 26; omega, by show 6 * (i + 0) + 0 ≤ 156; omega⟩ (fun rv w1 hP => ?_)
      obtain ⟨v, hv, rfl, rfl⟩ := hP
      show V K (i + 0) (6 * (i + 0)) ([] ++ (xW g A y ++ [])) [(3, .int (nI i)), (0, .ref A.1), (1, .ref (scB (kD K)))] [.int (nI v), .ref A.1] 15
      refine V_iconst C (1 : Int32) 16 dL_build_15 rfl rfl ?_
      refine V_aload_n C 2 17 dL_build_16 rfl rfl ?_
      refine V_bipush C (10 : Int32) 19 dL_build_17 rfl rfl ?_
      refine V_iload_n C 0 20 dL_build_19 rfl rfl ?_
      refine V_iadd C 21 dL_build_20 rfl ?_
      refine V_st (st2 := [.int (nI (10 + i)), .ref (scB (kD K)), .int (1 : Int32), .int (nI v), .ref A.1]) (by rw [show (10 : Int32) = nI 10 from rfl, nI_add] <;> rfl) ?_
      refine V_bipush C (9 : Int32) 23 dL_build_21 rfl rfl ?_
      refine V_callNs (as := [.ref (scB (kD K)), .int (nI (10 + i)), .int (9 : Int32)]) (pre := []) (w0 := []) (post := [] ++ (xW g A y ++ [])) (rest := [.int (1 : Int32), .int (nI v), .ref A.1]) C hBA Z.1 lz_L_82 st_L_some (c_L_some (k := 10 + i) (n := 9) (by omega) (by decide) (by decide)) dL_build_23 ⟨Nat.le_of_ble_eq_true rfl, Nat.le_of_ble_eq_true rfl⟩ rfl rfl rfl (Nat.le_of_ble_eq_true rfl) ⟨by show i + 0 + 0 ≤ 26; omega, by show 6 * (i + 0) + 0 ≤ 156; omega⟩ (fun rv w1 hP => ?_)
      obtain ⟨u, hu, rfl, rfl⟩ := hP
      show V K (i + 0) (6 * (i + 0)) ([] ++ (xW g A y ++ [])) [(3, .int (nI i)), (0, .ref A.1), (1, .ref (scB (kD K)))] [.int (nI u), .int (1 : Int32), .int (nI v), .ref A.1] 26
      refine V_iadd C 27 dL_build_26 rfl ?_
      obtain ⟨r9, h1, h2, h3, hy1⟩ := i_addRibbon hy (by omega) (nI v) ((1 : Int32) + nI u)
      refine V_callH C hBA Z.1 hN lh_addRibbon (pre := []) (w0 := xW g A y) (post := []) (as := [.ref A.1, .int (nI v), .int ((1 : Int32) + (nI u))]) (rest := []) (w_addRibbon hst h1 h2 h3) dL_build_27 ⟨Nat.le_of_ble_eq_true rfl, Nat.le_of_ble_eq_true rfl⟩ rfl rfl rfl (Nat.le_of_ble_eq_true rfl) ⟨by show i + 0 + 1 ≤ 26; omega, by show 6 * (i + 0) + 6 ≤ 156; omega⟩ (fun rv w1 hP => ?_)
      obtain ⟨⟨v9, rfl⟩, rfl⟩ := hP
      show V K (i + 0 + 1) (6 * (i + 0) + 6) ([] ++ (xW g A (sndR r9) ++ [])) [(3, .int (nI i)), (0, .ref A.1), (1, .ref (scB (kD K)))] [.int v9] 30
      refine V_istore_n C 31 [(2, .int v9), (3, .int (nI i)), (0, .ref A.1), (1, .ref (scB (kD K)))] dL_build_30 rfl (hlt 2 (by decide)) rfl ?_
      refine V_lv [1, 2, 3] (lv' := [(3, .int (nI i)), (0, .ref A.1), (1, .ref (scB (kD K)))]) rfl ?_
      refine V_iinc C 0 (nI (i + 1)) 34 [(3, .int (nI (i + 1))), (0, .ref A.1), (1, .ref (scB (kD K)))] dL_build_31 rfl rfl (nI_1 i) (hlt 3 (by decide)) rfl ?_
      refine V_goto C 2 dL_build_34 rfl ?_
      refine V_widen (c2 := i + 1 + 0) (s2 := 6 * (i + 1 + 0)) (by omega) (by omega) ?_
      exact ih (i + 1) [] (sndR r9) (by omega) (by rw [show N + (i + 1 + 0) = N + (i + 0) + 1 by omega]; exact hy1)
  refine V_iconst C (0 : Int32) 1 dL_build_0 rfl rfl ?_
  refine V_istore_n C 2 [(3, .int (0 : Int32)), (0, .ref A.1), (1, .ref (scB (kD K)))] dL_build_1 rfl (hlt 3 (by decide)) rfl ?_
  exact l2 4 0 [] x rfl (hiv.mono (Nat.le_add_right _ _))
