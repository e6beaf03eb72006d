/-! ===== the law: its turns ===== -/
set_option maxRecDepth 8000 in
set_option maxHeartbeats 4000000 in
theorem law_T {K : KT} {g : G0} {A : XA} {x : XV} {N t cells slots : Nat} (Lk : LKx K g) (hiv : IV N x) (hN : N < 2 ^ 20) (ht : t < 4) (hr : cells + 5500 ≤ 600000 ∧ slots + 1250000 ≤ 7200000) (ke : ∀ (q : Nat) (x1 : XV), IV (N + 1) x1 → V K (cells + 5400) (slots + 1200000) ([] ++ (xW g (aS A q) x1 ++ [])) [(2, .int (nI (t + 1))), (1, .ref A.1), (0, .ref (scB (kD K)))] [] 15) : V K cells slots ([] ++ (xW g A x ++ [])) [(2, .int (nI t)), (1, .ref A.1), (0, .ref (scB (kD K)))] [] 15 := by
  obtain ⟨C, hBA, hQ, hst, h23⟩ := id Lk
  have hlt : ∀ i, i < 23 → i < kn K := fun i h => by rw [h23]; exact h
  have hE := hQ.2.2.2.2.2
  have hN := hQ.sk.2.2.2.2
  obtain ⟨hr1, hr2⟩ := hr
  obtain ⟨L, S, nid, r, hb⟩ := hiv.bk (by omega)
  obtain ⟨U0, hU0⟩ := hiv.text
  refine V_iload_n C 0 16 dL_law_15 rfl rfl ?_
  refine V_iconst C (4 : Int32) 17 dL_law_16 rfl rfl ?_
  refine V_icmp_ge C 1555 20 dL_law_17 rfl rfl (fun e => absurd e (show ¬ (4 : Int32) ≤ nI t from w_nle (a := 4) ht)) (fun _ => ?_)
  refine law_A Lk hb (by omega) (fun h f0 hf0 => ?_)
  refine law_B Lk hb (by omega) hf0 (fun f m hf hm => ?_)
  refine law_C (A := A) (x := x) (q := A.2.2.2.2.2.2.1.2) (sb := x.2.2.2.2.2.2.1) Lk hb hf (by omega) hU0 (fun q1 sb1 U1 hU1 => ?_)
  refine law_D1 Lk hb hm (by omega) (fun s1 fs1 hs1 => ?_)
  refine law_D2 Lk hb hm (by omega) hs1 (fun s2 fs2 hs2 => ?_)
  refine law_E Lk hb hf (by omega) (fun w hw => ?_)
  refine law_F Lk hb hf (by omega) ?_
  refine law_G Lk hb hw hU1 rfl hs2 (by omega) (fun q sb U hU hUl => ?_)
  have hb2 := hb.xS sb
  have hiv2 := hiv.out hU hUl
  refine law_H (A := aS A q) (x := xS x sb) Lk hb2 (by omega) ?_
  refine law_I (A := aS A q) (x := xS x sb) Lk hb2 (by omega) ?_
  refine law_J (A := aS A q) (x := xS x sb) Lk hb2 (by omega) ?_
  show V K (cells + 1 + 24 + 4888 + 14 + 56 + 120 + 180 + 12 + 2) (slots + 60 + 144 + 1175856 + 2504 + 10016 + 720 + 1080 + 1568 + 12) ([(h, aI g 60 f)] ++ (xW g (aS A q) (xS x sb) ++ [])) [(10, .ref h), (9, .int (nI r)), (8, .int (nI m)), (7, .int (nI (wEar L))), (6, .int (nI (wRib L))), (5, .int (nI (nRib L))), (4, .int (nI S.length)), (3, .int (nI L.length)), (2, .int (nI t)), (1, .ref A.1), (0, .ref (scB (kD K)))] [] 1538
  refine V_aload_n C 9 1539 dL_law_1538 rfl rfl ?_
  refine V_aload_n C 10 1540 dL_law_1539 rfl rfl ?_
  refine V_bipush C (104 : Int32) 1542 dL_law_1540 rfl rfl ?_
  refine V_iconst C (4 : Int32) 1543 dL_law_1542 rfl rfl ?_
  refine V_iload_n C 8 1544 dL_law_1543 rfl rfl ?_
  refine V_imul C 1545 dL_law_1544 rfl ?_
  refine V_iadd C 1546 dL_law_1545 rfl ?_
  have e9 : (104 : Int32) + (4 : Int32) * nI t = nI (104 + 4 * t) := by rw [show (4 : Int32) * nI t = nI (4 * t) from pk_mul 4 _]; exact nI_add 104 _
  refine V_st (st2 := [.int (nI (104 + 4 * t)), .ref (scB (kD K)), .ref A.1]) (by rw [e9] <;> rfl) ?_
  refine V_callNs (as := [.ref A.1, .ref (scB (kD K)), .int (nI (104 + 4 * t))]) (pre := [(h, aI g 60 f)]) (w0 := xW g (aS A q) (xS x sb)) (post := []) (rest := []) C hBA hQ lz_L_94 st_L_acts (c_L_acts hst hiv2 (by omega) (by omega)) dL_law_1546 ⟨Nat.le_of_ble_eq_true rfl, Nat.le_of_ble_eq_true rfl⟩ rfl rfl rfl (Nat.le_of_ble_eq_true rfl) ⟨by show cells + 1 + 24 + 4888 + 14 + 56 + 120 + 180 + 12 + 2 + 1 ≤ 600516; omega, by show slots + 60 + 144 + 1175856 + 2504 + 10016 + 720 + 1080 + 1568 + 12 + 6 ≤ 7283748; omega⟩ (fun rv w1 hP => ?_)
  obtain ⟨rfl, x1, hiv3, rfl⟩ := hP
  show V K (cells + 1 + 24 + 4888 + 14 + 56 + 120 + 180 + 12 + 2 + 1) (slots + 60 + 144 + 1175856 + 2504 + 10016 + 720 + 1080 + 1568 + 12 + 6) ([(h, aI g 60 f)] ++ (xW g (aS A q) x1 ++ [])) [(10, .ref h), (9, .int (nI r)), (8, .int (nI m)), (7, .int (nI (wEar L))), (6, .int (nI (wRib L))), (5, .int (nI (nRib L))), (4, .int (nI S.length)), (3, .int (nI L.length)), (2, .int (nI t)), (1, .ref A.1), (0, .ref (scB (kD K)))] [] 1549
  refine V_rm (h := []) (b := [(h, aI g 60 f)]) (d := xW g (aS A q) x1 ++ []) ?_
  refine V_lv [8, 9, 10] (lv' := [(2, .int (nI t)), (1, .ref A.1), (0, .ref (scB (kD K)))]) rfl ?_
  refine V_iinc C 0 (nI (t + 1)) 1552 [(2, .int (nI (t + 1))), (1, .ref A.1), (0, .ref (scB (kD K)))] dL_law_1549 rfl rfl (nI_1 t) (hlt 2 (by decide)) rfl ?_
  refine V_goto C 15 dL_law_1552 rfl ?_
  exact V_widen (by omega) (by omega) (ke q x1 hiv3)
set_option maxRecDepth 8000 in
set_option maxHeartbeats 4000000 in
theorem law_main {K : KT} {g : G0} (Lk : LKx K g) (hend : ∀ (cells slots : Nat) (ws : va_W) (lv : List (Nat × Value)), cells ≤ 600516 → slots ≤ 7283748 → V K cells slots ws lv [] 1555) : V K 0 0 [] [(0, .ref (scB (kD K)))] [] 0 := by
  obtain ⟨C, hBA, hQ, hst, h23⟩ := id Lk
  have hlt : ∀ i, i < 23 → i < kn K := fun i h => by rw [h23]; exact h
  have turns : ∀ (d t cells slots : Nat) (A : XA) (x : XV), t + d = 4 → IV (26 + t) x → cells ≤ 113 + 5400 * t → slots ≤ 1246 + 1200000 * t → V K cells slots ([] ++ (xW g A x ++ [])) [(2, .int (nI t)), (1, .ref A.1), (0, .ref (scB (kD K)))] [] 15 := by
    intro d
    induction d with
    | zero =>
      intro t cells slots A x ht hiv hc hs
      obtain rfl : t = 4 := by omega
      refine V_iload_n C 0 16 dL_law_15 rfl rfl ?_
      refine V_iconst C (4 : Int32) 17 dL_law_16 rfl rfl ?_
      refine V_icmp_ge C 1555 20 dL_law_17 rfl rfl (fun _ => hend _ _ _ _ (by omega) (by omega)) (fun e => absurd (show (4 : Int32) ≤ nI 4 by decide) e)
    | succ d ih =>
      intro t cells slots A x ht hiv hc hs
      exact law_T Lk hiv (by omega) (by omega) (by omega) (fun q x1 h1 => ih (t + 1) _ _ (aS A q) x1 (by omega) h1 (by omega) (by omega))
  refine V_newX C hBA nw_L_14 3 (by show 0 + 1 ≤ 600516; omega) (by show 0 + 11 ≤ 7283748; omega) dL_law_0 rfl (fun q1 => ?_)
  refine V_dup C 4 dL_law_3 rfl rfl ?_
  refine V_callNi (as := []) (pre := []) (w0 := [(q1, .inr (3, [.null, .null, .null, .null, .null, .null, .int 0, .int 0, .int 0, .int 0, .int 0]))]) (post := []) (rest := [.ref q1]) C hBA hQ lz_L_128 rfl im_L_128 c_X3_init dL_law_4 ⟨Nat.le_of_ble_eq_true rfl, Nat.le_of_ble_eq_true rfl⟩ rfl rfl rfl (Nat.le_of_ble_eq_true rfl) ⟨by show 0 + 1 + 86 ≤ 600516; omega, by show 0 + 11 + 1079 ≤ 7283748; omega⟩ (fun rv w1 hP => ?_)
  obtain ⟨rfl, A, rfl, rfl⟩ := hP
  refine V_astore_n C 8 [(1, .ref A.1), (0, .ref (scB (kD K)))] dL_law_7 rfl (hlt 1 (by decide)) rfl ?_
  refine V_aload_n C 0 9 dL_law_8 rfl rfl ?_
  refine V_aload_n C 1 10 dL_law_9 rfl rfl ?_
  refine V_callNs (as := [.ref A.1, .ref (scB (kD K))]) (pre := []) (w0 := xW g A x0) (post := []) (rest := []) C hBA hQ lz_L_129 st_L_build (c_L_build (N := 0) hst ⟨md0, rx0⟩ (by omega)) dL_law_10 ⟨Nat.le_of_ble_eq_true rfl, Nat.le_of_ble_eq_true rfl⟩ rfl rfl rfl (Nat.le_of_ble_eq_true rfl) ⟨by show 0 + 1 + 86 + 26 ≤ 600516; omega, by show 0 + 11 + 1079 + 156 ≤ 7283748; omega⟩ (fun rv w1 hP => ?_)
  obtain ⟨rfl, x1, hiv, rfl⟩ := hP
  show V K (0 + 1 + 86 + 26) (0 + 11 + 1079 + 156) ([] ++ (xW g A x1 ++ [])) [(1, .ref A.1), (0, .ref (scB (kD K)))] [] 13
  refine V_iconst C (0 : Int32) 14 dL_law_13 rfl rfl ?_
  refine V_istore_n C 15 [(2, .int (0 : Int32)), (1, .ref A.1), (0, .ref (scB (kD K)))] dL_law_14 rfl (hlt 2 (by decide)) rfl ?_
  exact turns 4 0 _ _ A x1 (by omega) hiv (by omega) (by omega)
