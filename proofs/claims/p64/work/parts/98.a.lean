/-! ===== the law: the row of pages, the marks ===== -/
set_option maxRecDepth 8000 in
set_option maxHeartbeats 4000000 in
theorem law_A {K : KT} {g : G0} {A : XA} {x : XV} {L : List M5} {S : List Nat} {nid r b cells slots : Nat} {t : Int32} (Lk : LKx K g) (hb : BK x L S nid r) (hr : cells + 5400 ≤ 600000 ∧ slots + 1200000 ≤ 7200000) (ke : ∀ (h : Nat) (f : Nat → Int32), HF [] f → V K (cells + 1) (slots + 60) ([(h, aI g 60 f)] ++ (xW g A x ++ [])) [(10, .ref h), (9, .int (nI r)), (8, .int 0), (7, .int 0), (6, .int 0), (5, .int 0), (4, .int (nI S.length)), (3, .int (nI L.length)), (2, .int t), (1, .ref A.1), (0, .ref b)] [] 79) : V K cells slots ([] ++ (xW g A x ++ [])) [(2, .int t), (1, .ref A.1), (0, .ref b)] [] 20 := by
  obtain ⟨C, hBA, hQ, hst, h23⟩ := id Lk
  have hlt : ∀ i, i < 23 → i < kn K := fun i h => by rw [h23]; exact h
  have hE := hQ.2.2.2.2.2
  have hN := hQ.sk.2.2.2.2
  obtain ⟨hr1, hr2⟩ := hr
  refine V_aload_n C 1 21 dL_law_20 rfl rfl ?_
  refine V_callP C ml_L_98 (pre := []) (post := []) (w := xW g A x) (as := []) (rest := []) (c_X3_markCount (q_count hb)) 0 24 dL_law_21 rfl ⟨Nat.le_of_ble_eq_true rfl, Nat.le_of_ble_eq_true rfl⟩ rfl rfl rfl rfl rfl (Nat.le_of_ble_eq_true rfl) ⟨by rw [C.2.2.2.2.2.2.1]; show cells ≤ 600516; omega, by rw [C.2.2.2.2.2.2.1]; show slots ≤ 7283748; omega⟩ ?_
  refine V_istore_n C 25 [(3, .int (nI L.length)), (2, .int t), (1, .ref A.1), (0, .ref b)] dL_law_24 rfl (hlt 3 (by decide)) rfl ?_
  refine V_aload_n C 2 26 dL_law_25 rfl rfl ?_
  refine V_callP C ml_L_107 (pre := []) (post := []) (w := xW g A x) (as := []) (rest := []) (c_X3_chapterCount (q_chapters hb)) 0 29 dL_law_26 rfl ⟨Nat.le_of_ble_eq_true rfl, Nat.le_of_ble_eq_true rfl⟩ rfl rfl rfl rfl rfl (Nat.le_of_ble_eq_true rfl) ⟨by rw [C.2.2.2.2.2.2.1]; show cells ≤ 600516; omega, by rw [C.2.2.2.2.2.2.1]; show slots ≤ 7283748; omega⟩ ?_
  refine V_istore C 31 [(4, .int (nI S.length)), (3, .int (nI L.length)), (2, .int t), (1, .ref A.1), (0, .ref b)] dL_law_29 rfl (hlt 4 (by decide)) rfl ?_
  refine V_iconst C (0 : Int32) 32 dL_law_31 rfl rfl ?_
  refine V_istore C 34 [(5, .int (0 : Int32)), (4, .int (nI S.length)), (3, .int (nI L.length)), (2, .int t), (1, .ref A.1), (0, .ref b)] dL_law_32 rfl (hlt 5 (by decide)) rfl ?_
  refine V_iconst C (0 : Int32) 35 dL_law_34 rfl rfl ?_
  refine V_istore C 37 [(6, .int (0 : Int32)), (5, .int (0 : Int32)), (4, .int (nI S.length)), (3, .int (nI L.length)), (2, .int t), (1, .ref A.1), (0, .ref b)] dL_law_35 rfl (hlt 6 (by decide)) rfl ?_
  refine V_iconst C (0 : Int32) 38 dL_law_37 rfl rfl ?_
  refine V_istore C 40 [(7, .int (0 : Int32)), (6, .int (0 : Int32)), (5, .int (0 : Int32)), (4, .int (nI S.length)), (3, .int (nI L.length)), (2, .int t), (1, .ref A.1), (0, .ref b)] dL_law_38 rfl (hlt 7 (by decide)) rfl ?_
  refine V_iconst C (0 : Int32) 41 dL_law_40 rfl rfl ?_
  refine V_istore C 43 [(8, .int (0 : Int32)), (7, .int (0 : Int32)), (6, .int (0 : Int32)), (5, .int (0 : Int32)), (4, .int (nI S.length)), (3, .int (nI L.length)), (2, .int t), (1, .ref A.1), (0, .ref b)] dL_law_41 rfl (hlt 8 (by decide)) rfl ?_
  refine V_aload_n C 7 44 dL_law_43 rfl rfl ?_
  refine V_callP C ml_L_133 (pre := []) (post := []) (w := xW g A x) (as := []) (rest := []) (c_X3_currentPage (q_page hb)) 0 47 dL_law_44 rfl ⟨Nat.le_of_ble_eq_true rfl, Nat.le_of_ble_eq_true rfl⟩ rfl rfl rfl rfl rfl (Nat.le_of_ble_eq_true rfl) ⟨by rw [C.2.2.2.2.2.2.1]; show cells ≤ 600516; omega, by rw [C.2.2.2.2.2.2.1]; show slots ≤ 7283748; omega⟩ ?_
  refine V_istore C 49 [(9, .int (nI r)), (8, .int (0 : Int32)), (7, .int (0 : Int32)), (6, .int (0 : Int32)), (5, .int (0 : Int32)), (4, .int (nI S.length)), (3, .int (nI L.length)), (2, .int t), (1, .ref A.1), (0, .ref b)] dL_law_47 rfl (hlt 9 (by decide)) rfl ?_
  refine V_bipush C (60 : Int32) 51 dL_law_49 rfl rfl ?_
  refine V_newI C hBA 60 53 q150 (by decide) (by decide) (by decide) (by show cells + 1 ≤ 600516; omega) (by show slots + 60 ≤ 7283748; omega) dL_law_51 rfl (fun h => ?_)
  refine V_perm (ws2 := [(h, aI g 60 (fun _ => 0))] ++ (xW g A x ++ [])) (List.perm_append_comm (l₁ := [(h, aI g 60 (fun _ => 0))]) (l₂ := xW g A x ++ [])) ?_
  refine V_astore C 55 [(10, .ref h), (9, .int (nI r)), (8, .int (0 : Int32)), (7, .int (0 : Int32)), (6, .int (0 : Int32)), (5, .int (0 : Int32)), (4, .int (nI S.length)), (3, .int (nI L.length)), (2, .int t), (1, .ref A.1), (0, .ref b)] dL_law_53 rfl (hlt 10 (by decide)) rfl ?_
  refine V_iconst C (0 : Int32) 56 dL_law_55 rfl rfl ?_
  refine V_istore C 58 [(11, .int (0 : Int32)), (10, .ref h), (9, .int (nI r)), (8, .int (0 : Int32)), (7, .int (0 : Int32)), (6, .int (0 : Int32)), (5, .int (0 : Int32)), (4, .int (nI S.length)), (3, .int (nI L.length)), (2, .int t), (1, .ref A.1), (0, .ref b)] dL_law_56 rfl (hlt 11 (by decide)) rfl ?_
  have fill : ∀ d i (f : Nat → Int32), i + d = 60 → (∀ p, p < i → f p = -30000) → V K (cells + 1) (slots + 60) ([(h, aI g 60 f)] ++ (xW g A x ++ [])) [(11, .int (nI i)), (10, .ref h), (9, .int (nI r)), (8, .int 0), (7, .int 0), (6, .int 0), (5, .int 0), (4, .int (nI S.length)), (3, .int (nI L.length)), (2, .int t), (1, .ref A.1), (0, .ref b)] [] 58 := by
    intro d
    induction d with
    | zero =>
      intro i f hi hf
      obtain rfl : i = 60 := by omega
      refine V_iload C 0 60 dL_law_58 rfl rfl ?_
      refine V_bipush C (60 : Int32) 62 dL_law_60 rfl rfl ?_
      refine V_icmp_ge C 79 65 dL_law_62 rfl rfl (fun _ => ?_) (fun e => absurd (show (60 : Int32) ≤ nI 60 from w_le (Nat.le_refl _)) e)
      refine V_lv [1, 2, 3, 4, 5, 6, 7, 8, 9, 10, 11] (lv' := [(10, .ref h), (9, .int (nI r)), (8, .int 0), (7, .int 0), (6, .int 0), (5, .int 0), (4, .int (nI S.length)), (3, .int (nI L.length)), (2, .int t), (1, .ref A.1), (0, .ref b)]) rfl ?_
      exact ke h f (HF.nil hf)
    | succ d ih =>
      intro i f hi hf
      refine V_iload C 0 60 dL_law_58 rfl rfl ?_
      refine V_bipush C (60 : Int32) 62 dL_law_60 rfl rfl ?_
      refine V_icmp_ge C 79 65 dL_law_62 rfl rfl (fun e => absurd e (show ¬ (60 : Int32) ≤ nI i from w_nle (a := 60) (by omega))) (fun _ => ?_)
      refine V_aload C 1 67 dL_law_65 rfl rfl ?_
      refine V_iload C 0 69 dL_law_67 rfl rfl ?_
      refine V_sipush C (-30000 : Int32) 72 dL_law_69 rfl rfl ?_
      refine V_iast C hBA 0 73 ([(h, aI g 60 (upd f (cl (nI i)) (-30000)))] ++ (xW g A x ++ [])) dL_law_72 rfl rfl (inb_of (vp_in_nI (show i < 60 by omega) (by decide))) rfl ?_
      refine V_iinc C 0 (nI (i + 1)) 76 [(11, .int (nI (i + 1))), (10, .ref h), (9, .int (nI r)), (8, .int 0), (7, .int 0), (6, .int 0), (5, .int 0), (4, .int (nI S.length)), (3, .int (nI L.length)), (2, .int t), (1, .ref A.1), (0, .ref b)] dL_law_73 rfl rfl (nI_1 i) (hlt 11 (by decide)) rfl ?_
      refine V_goto C 58 dL_law_76 rfl ?_
      refine ih (i + 1) _ (by omega) (fun p hp => ?_)
      rw [cl_n (by omega)]
      by_cases e : p = i
      · rw [e, pk_us]
      · rw [pk_un e]
        exact hf p (by omega)
  refine V_lv [0, 1, 2, 3, 4, 5, 6, 7, 8, 9, 10, 11] (lv' := [(11, .int (0 : Int32)), (10, .ref h), (9, .int (nI r)), (8, .int 0), (7, .int 0), (6, .int 0), (5, .int 0), (4, .int (nI S.length)), (3, .int (nI L.length)), (2, .int t), (1, .ref A.1), (0, .ref b)]) rfl ?_
  exact fill 60 0 (fun _ => 0) (by omega) (fun p hp => absurd hp (Nat.not_lt_zero _))
set_option maxRecDepth 8000 in
set_option maxHeartbeats 4000000 in
theorem law_B {K : KT} {g : G0} {A : XA} {x : XV} {L : List M5} {S : List Nat} {nid r b cells slots : Nat} {t : Int32} {h : Nat} {f0 : Nat → Int32} (Lk : LKx K g) (hb : BK x L S nid r) (hr : cells + 5400 ≤ 600000 ∧ slots + 1200000 ≤ 7200000) (hf0 : HF [] f0) (ke : ∀ (f : Nat → Int32) (m : Nat), HF L f → MK L m → V K (cells + 24) (slots + 144) ([(h, aI g 60 f)] ++ (xW g A x ++ [])) [(10, .ref h), (9, .int (nI r)), (8, .int (nI m)), (7, .int (nI (wEar L))), (6, .int (nI (wRib L))), (5, .int (nI (nRib L))), (4, .int (nI S.length)), (3, .int (nI L.length)), (2, .int t), (1, .ref A.1), (0, .ref b)] [] 320) : V K cells slots ([(h, aI g 60 f0)] ++ (xW g A x ++ [])) [(10, .ref h), (9, .int (nI r)), (8, .int 0), (7, .int 0), (6, .int 0), (5, .int 0), (4, .int (nI S.length)), (3, .int (nI L.length)), (2, .int t), (1, .ref A.1), (0, .ref b)] [] 79 := by
  obtain ⟨C, hBA, hQ, hst, h23⟩ := id Lk
  have hlt : ∀ i, i < 23 → i < kn K := fun i h => by rw [h23]; exact h
  have hE := hQ.2.2.2.2.2
  have hN := hQ.sk.2.2.2.2
  obtain ⟨hr1, hr2⟩ := hr
  have hlen := hb.len
  refine V_iconst C (0 : Int32) 80 dL_law_79 rfl rfl ?_
  refine V_istore C 82 [(11, .int (0 : Int32)), (10, .ref h), (9, .int (nI r)), (8, .int 0), (7, .int 0), (6, .int 0), (5, .int 0), (4, .int (nI S.length)), (3, .int (nI L.length)), (2, .int t), (1, .ref A.1), (0, .ref b)] dL_law_80 rfl (hlt 11 (by decide)) rfl ?_
  have loop : ∀ d k (f : Nat → Int32) (m : Nat), k + d = L.length → HF (L.take k) f → MK (L.take k) m → V K (cells + 2 * k) (slots + 12 * k) ([(h, aI g 60 f)] ++ (xW g A x ++ [])) [(11, .int (nI k)), (10, .ref h), (9, .int (nI r)), (8, .int (nI m)), (7, .int (nI (wEar (L.take k)))), (6, .int (nI (wRib (L.take k)))), (5, .int (nI (nRib (L.take k)))), (4, .int (nI S.length)), (3, .int (nI L.length)), (2, .int t), (1, .ref A.1), (0, .ref b)] [] 82 := by
    intro d
    induction d with
    | zero =>
      intro k f m hk h1 h2
      obtain rfl : k = L.length := by omega
      rw [List.take_length] at h1 h2 ⊢
      refine V_iload C 0 84 dL_law_82 rfl rfl ?_
      refine V_iload_n C 8 85 dL_law_84 rfl rfl ?_
      refine V_icmp_ge C 320 88 dL_law_85 rfl rfl (fun _ => ?_) (fun e => absurd (show nI L.length ≤ nI L.length from Int32.le_refl _) e)
      refine V_lv [1, 2, 3, 4, 5, 6, 7, 8, 9, 10, 11] (lv' := [(10, .ref h), (9, .int (nI r)), (8, .int (nI m)), (7, .int (nI (wEar L))), (6, .int (nI (wRib L))), (5, .int (nI (nRib L))), (4, .int (nI S.length)), (3, .int (nI L.length)), (2, .int t), (1, .ref A.1), (0, .ref b)]) rfl ?_
      exact V_widen (by omega) (by omega) (ke f m h1 h2)
    | succ d ih =>
      intro k f m hk h1 h2
      have hkl : k < L.length := by omega
      obtain ⟨z, hz⟩ : ∃ z, L[k]? = some z := ⟨L[k]'hkl, List.getElem?_eq_getElem _⟩
      have hzL := mem_get hz
      obtain ⟨g1, g2, g3, g4, g5, g6⟩ := hb.mk hzL
      have hne : ∀ y ∈ L.take k, mPg y ≠ mPg z := fun y hy e => by have := take_pg hb.2.1 hz hy; omega
      have hfz : f (mPg z) = -30000 := (h1 (mPg z) g2).1 hne
      have ek := take_k hz
      by_cases es : mSt z = 0
      · refine V_iload C 0 84 dL_law_82 rfl rfl ?_
        refine V_iload_n C 8 85 dL_law_84 rfl rfl ?_
        refine V_icmp_ge C 320 88 dL_law_85 rfl rfl (fun e => absurd e (show ¬ nI L.length ≤ nI k from w_nle hkl)) (fun _ => ?_)
        refine V_aload_n C 10 89 dL_law_88 rfl rfl ?_
        refine V_iload C 0 91 dL_law_89 rfl rfl ?_
        refine V_callXr C hBA hE ml_L_72 (pre := [(h, aI g 60 f)]) (post := []) (wc := xW g A x) (w1 := xW g A x) (rv := some (.int (nI (mId z)))) (as := [.int (nI k)]) (rest := []) (c_X3_markByPage (R := .inl ((nI (mId z)), x)) hst (q_byPage hb hz)) 1 94 ([(h, aI g 60 f)] ++ (xW g A x ++ [])) dL_law_91 rfl ⟨Nat.le_of_ble_eq_true rfl, Nat.le_of_ble_eq_true rfl⟩ rfl rfl rfl (xW_fst _ _ _ _) rfl rfl rfl (Nat.le_of_ble_eq_true rfl) ⟨by show cells + 2 * k + 0 ≤ 600516; omega, by show slots + 12 * k + 0 ≤ 7283748; omega⟩ ?_
        refine V_istore C 96 [(12, .int (nI (mId z))), (11, .int (nI k)), (10, .ref h), (9, .int (nI r)), (8, .int (nI m)), (7, .int (nI (wEar (L.take k)))), (6, .int (nI (wRib (L.take k)))), (5, .int (nI (nRib (L.take k)))), (4, .int (nI S.length)), (3, .int (nI L.length)), (2, .int t), (1, .ref A.1), (0, .ref b)] dL_law_94 rfl (hlt 12 (by decide)) rfl ?_
        refine V_aload_n C 11 97 dL_law_96 rfl rfl ?_
        refine V_iload C 0 99 dL_law_97 rfl rfl ?_
        refine V_callXr C hBA hE ml_L_136 (pre := [(h, aI g 60 f)]) (post := []) (wc := xW g A x) (w1 := xW g A x) (rv := some (.int (nI (mPg z)))) (as := [.int (nI (mId z))]) (rest := []) (c_X3_pageOf (R := .inl ((nI (mPg z)), x)) hst (q_pageOf hb hzL)) 1 102 ([(h, aI g 60 f)] ++ (xW g A x ++ [])) dL_law_99 rfl ⟨Nat.le_of_ble_eq_true rfl, Nat.le_of_ble_eq_true rfl⟩ rfl rfl rfl (xW_fst _ _ _ _) rfl rfl rfl (Nat.le_of_ble_eq_true rfl) ⟨by show cells + 2 * k + 0 ≤ 600516; omega, by show slots + 12 * k + 0 ≤ 7283748; omega⟩ ?_
        refine V_istore C 104 [(13, .int (nI (mPg z))), (12, .int (nI (mId z))), (11, .int (nI k)), (10, .ref h), (9, .int (nI r)), (8, .int (nI m)), (7, .int (nI (wEar (L.take k)))), (6, .int (nI (wRib (L.take k)))), (5, .int (nI (nRib (L.take k)))), (4, .int (nI S.length)), (3, .int (nI L.length)), (2, .int t), (1, .ref A.1), (0, .ref b)] dL_law_102 rfl (hlt 13 (by decide)) rfl ?_
        refine V_aload_n C 12 105 dL_law_104 rfl rfl ?_
        refine V_iload C 1 107 dL_law_105 rfl rfl ?_
        refine V_callXr C hBA hE ml_L_139 (pre := [(h, aI g 60 f)]) (post := []) (wc := xW g A x) (w1 := xW g A x) (rv := some (.int (nI (mWt z)))) (as := [.int (nI (mId z))]) (rest := []) (c_X3_weightOf (R := .inl ((nI (mWt z)), x)) hst (q_weightOf hb hzL)) 1 110 ([(h, aI g 60 f)] ++ (xW g A x ++ [])) dL_law_107 rfl ⟨Nat.le_of_ble_eq_true rfl, Nat.le_of_ble_eq_true rfl⟩ rfl rfl rfl (xW_fst _ _ _ _) rfl rfl rfl (Nat.le_of_ble_eq_true rfl) ⟨by show cells + 2 * k + 0 ≤ 600516; omega, by show slots + 12 * k + 0 ≤ 7283748; omega⟩ ?_
        refine V_istore C 112 [(14, .int (nI (mWt z))), (13, .int (nI (mPg z))), (12, .int (nI (mId z))), (11, .int (nI k)), (10, .ref h), (9, .int (nI r)), (8, .int (nI m)), (7, .int (nI (wEar (L.take k)))), (6, .int (nI (wRib (L.take k)))), (5, .int (nI (nRib (L.take k)))), (4, .int (nI S.length)), (3, .int (nI L.length)), (2, .int t), (1, .ref A.1), (0, .ref b)] dL_law_110 rfl (hlt 14 (by decide)) rfl ?_
        refine V_aload_n C 13 113 dL_law_112 rfl rfl ?_
        refine V_iload C 2 115 dL_law_113 rfl rfl ?_
        refine V_callH C hBA hQ hN lh_seatOf (pre := [(h, aI g 60 f)]) (w0 := xW g A x) (post := []) (as := [.ref A.1, .int (nI (mId z))]) (rest := []) (wX_seatOf hst (q_seatOf0 hb hzL es)) dL_law_115 ⟨Nat.le_of_ble_eq_true rfl, Nat.le_of_ble_eq_true rfl⟩ rfl rfl rfl (Nat.le_of_ble_eq_true rfl) ⟨by show cells + 2 * k + 1 ≤ 600516; omega, by show slots + 12 * k + 6 ≤ 7283748; omega⟩ (fun rv w1 hP => ?_)
        obtain ⟨rfl, rfl⟩ := hP
        show V K (cells + 2 * k + 1) (slots + 12 * k + 6) ([(h, aI g 60 f)] ++ (xW g A x ++ [])) [(14, .int (nI (mWt z))), (13, .int (nI (mPg z))), (12, .int (nI (mId z))), (11, .int (nI k)), (10, .ref h), (9, .int (nI r)), (8, .int (nI m)), (7, .int (nI (wEar (L.take k)))), (6, .int (nI (wRib (L.take k)))), (5, .int (nI (nRib (L.take k)))), (4, .int (nI S.length)), (3, .int (nI L.length)), (2, .int t), (1, .ref A.1), (0, .ref b)] [.int (-30000 : Int32)] 118
        refine V_istore C 120 [(15, .int (-30000 : Int32)), (14, .int (nI (mWt z))), (13, .int (nI (mPg z))), (12, .int (nI (mId z))), (11, .int (nI k)), (10, .ref h), (9, .int (nI r)), (8, .int (nI m)), (7, .int (nI (wEar (L.take k)))), (6, .int (nI (wRib (L.take k)))), (5, .int (nI (nRib (L.take k)))), (4, .int (nI S.length)), (3, .int (nI L.length)), (2, .int t), (1, .ref A.1), (0, .ref b)] dL_law_118 rfl (hlt 15 (by decide)) rfl ?_
        refine V_aload C 5 122 dL_law_120 rfl rfl ?_
        refine V_iload C 2 124 dL_law_122 rfl rfl ?_
        refine V_iald C (f := f) (n := 60) 0 125 dL_law_124 rfl rfl (inb_of (vp_in_nI g2 (by decide))) ?_
        refine V_st (st2 := [.int (-30000 : Int32)]) (by rw [cl_n (by omega), hfz] <;> rfl) ?_
        refine V_sipush C (-30000 : Int32) 128 dL_law_125 rfl rfl ?_
        refine V_icmp_ne C 240 131 dL_law_128 rfl rfl (fun e => absurd rfl e) (fun _ => ?_)
        have r153 : V K (cells + 2 * k + 1) (slots + 12 * k + 6) ([(h, aI g 60 f)] ++ (xW g A x ++ [])) [(15, .int (-30000 : Int32)), (14, .int (nI (mWt z))), (13, .int (nI (mPg z))), (12, .int (nI (mId z))), (11, .int (nI k)), (10, .ref h), (9, .int (nI r)), (8, .int (nI m)), (7, .int (nI (wEar (L.take k)))), (6, .int (nI (wRib (L.take k)))), (5, .int (nI (nRib (L.take k)))), (4, .int (nI S.length)), (3, .int (nI L.length)), (2, .int t), (1, .ref A.1), (0, .ref b)] [] 153 := by
          refine V_iload C 1 155 dL_law_153 rfl rfl ?_
          refine V_iconst C (1 : Int32) 156 dL_law_155 rfl rfl ?_
          refine V_icmp_lt C 240 159 dL_law_156 rfl rfl (fun e => absurd e (show ¬ nI (mWt z) < (1 : Int32) from w_nlt (b := 1) g3.1)) (fun _ => ?_)
          refine V_iload C 1 161 dL_law_159 rfl rfl ?_
          refine V_bipush C (9 : Int32) 163 dL_law_161 rfl rfl ?_
          refine V_icmp_gt C 240 166 dL_law_163 rfl rfl (fun e => absurd e (show ¬ (9 : Int32) < nI (mWt z) from w_nlt (a := 9) g3.2)) (fun _ => ?_)
          refine V_aload_n C 14 167 dL_law_166 rfl rfl ?_
          refine V_iload C 3 169 dL_law_167 rfl rfl ?_
          refine V_callXr C hBA hE ml_L_144 (pre := [(h, aI g 60 f)]) (post := []) (wc := xW g A x) (w1 := xW g A x) (rv := some (.int (b2 (decide (mSt z ≠ 0))))) (as := [.int (nI (mId z))]) (rest := []) (c_X3_isRibbon (R := .inl ((b2 (decide (mSt z ≠ 0))), x)) hst (q_isRibbon hb hzL)) 1 172 ([(h, aI g 60 f)] ++ (xW g A x ++ [])) dL_law_169 rfl ⟨Nat.le_of_ble_eq_true rfl, Nat.le_of_ble_eq_true rfl⟩ rfl rfl rfl (xW_fst _ _ _ _) rfl rfl rfl (Nat.le_of_ble_eq_true rfl) ⟨by show cells + 2 * k + 1 + 0 ≤ 600516; omega, by show slots + 12 * k + 6 + 0 ≤ 7283748; omega⟩ ?_
          refine V_st (st2 := [.int (0 : Int32)]) (by rw [decide_eq_false (fun q => q es)]; rfl) ?_
          refine V_iload C 0 174 dL_law_172 rfl rfl ?_
          refine V_if_lt C 181 177 dL_law_174 rfl rfl (fun _ => ?_) (fun e => absurd (by decide) e)
          refine V_iconst C (0 : Int32) 182 dL_law_181 rfl rfl ?_
          refine V_icmp_ne C 240 185 dL_law_182 rfl rfl (fun e => absurd rfl e) (fun _ => ?_)
          refine V_aload_n C 14 186 dL_law_185 rfl rfl ?_
          refine V_iload C 3 188 dL_law_186 rfl rfl ?_
          refine V_callXr C hBA hE ml_L_147 (pre := [(h, aI g 60 f)]) (post := []) (wc := xW g A x) (w1 := xW g A x) (rv := some (.int (nI (mWr z)))) (as := [.int (nI (mId z))]) (rest := []) (c_X3_wearOf (R := .inl ((nI (mWr z)), x)) hst (q_wearOf hb hzL)) 1 191 ([(h, aI g 60 f)] ++ (xW g A x ++ [])) dL_law_188 rfl ⟨Nat.le_of_ble_eq_true rfl, Nat.le_of_ble_eq_true rfl⟩ rfl rfl rfl (xW_fst _ _ _ _) rfl rfl rfl (Nat.le_of_ble_eq_true rfl) ⟨by show cells + 2 * k + 1 + 0 ≤ 600516; omega, by show slots + 12 * k + 6 + 0 ≤ 7283748; omega⟩ ?_
          refine V_if_lt C 240 194 dL_law_191 rfl rfl (fun e => absurd e (nI_pos (by omega))) (fun _ => ?_)
          refine V_aload_n C 14 195 dL_law_194 rfl rfl ?_
          refine V_iload C 3 197 dL_law_195 rfl rfl ?_
          refine V_callXr C hBA hE ml_L_147 (pre := [(h, aI g 60 f)]) (post := []) (wc := xW g A x) (w1 := xW g A x) (rv := some (.int (nI (mWr z)))) (as := [.int (nI (mId z))]) (rest := []) (c_X3_wearOf (R := .inl ((nI (mWr z)), x)) hst (q_wearOf hb hzL)) 1 200 ([(h, aI g 60 f)] ++ (xW g A x ++ [])) dL_law_197 rfl ⟨Nat.le_of_ble_eq_true rfl, Nat.le_of_ble_eq_true rfl⟩ rfl rfl rfl (xW_fst _ _ _ _) rfl rfl rfl (Nat.le_of_ble_eq_true rfl) ⟨by show cells + 2 * k + 1 + 0 ≤ 600516; omega, by show slots + 12 * k + 6 + 0 ≤ 7283748; omega⟩ ?_
          refine V_iconst C (2 : Int32) 201 dL_law_200 rfl rfl ?_
          refine V_icmp_gt C 240 204 dL_law_201 rfl rfl (fun e => absurd e (show ¬ (2 : Int32) < nI (mWr z) from w_nlt (a := 2) g4)) (fun _ => ?_)
          refine V_iload C 0 206 dL_law_204 rfl rfl ?_
          refine V_if_lt C 242 209 dL_law_206 rfl rfl (fun _ => ?_) (fun e => absurd (by decide) e)
          refine V_aload C 5 244 dL_law_242 rfl rfl ?_
          refine V_iload C 2 246 dL_law_244 rfl rfl ?_
          refine V_iload C 3 248 dL_law_246 rfl rfl ?_
          refine V_iast C hBA 0 249 ([(h, aI g 60 (upd f (cl (nI (mPg z))) (nI (mId z))))] ++ (xW g A x ++ [])) dL_law_248 rfl rfl (inb_of (vp_in_nI g2 (by decide))) rfl ?_
          refine V_eq (ws2 := [(h, aI g 60 (upd f (mPg z) (nI (mId z))))] ++ (xW g A x ++ [])) (by rw [cl_n (by omega)]) ?_
          refine V_iload C 7 251 dL_law_249 rfl rfl ?_
          refine V_iload C 0 253 dL_law_251 rfl rfl ?_
          refine V_if_lt C 263 256 dL_law_253 rfl rfl (fun _ => ?_) (fun e => absurd (by decide) e)
          refine V_iconst C (0 : Int32) 264 dL_law_263 rfl rfl ?_
          refine V_ior C 265 dL_law_264 rfl ?_
          refine V_st (st2 := [.int (nI m)]) (by rw [h2.or0] <;> rfl) ?_
          refine V_istore C 267 [(8, .int (nI m)), (15, .int (-30000 : Int32)), (14, .int (nI (mWt z))), (13, .int (nI (mPg z))), (12, .int (nI (mId z))), (11, .int (nI k)), (10, .ref h), (9, .int (nI r)), (7, .int (nI (wEar (L.take k)))), (6, .int (nI (wRib (L.take k)))), (5, .int (nI (nRib (L.take k)))), (4, .int (nI S.length)), (3, .int (nI L.length)), (2, .int t), (1, .ref A.1), (0, .ref b)] dL_law_265 rfl (hlt 8 (by decide)) rfl ?_
          refine V_iload C 10 269 dL_law_267 rfl rfl ?_
          refine V_iload C 1 271 dL_law_269 rfl rfl ?_
          refine V_if_lt C 278 274 dL_law_271 rfl rfl (fun _ => ?_) (fun e => absurd (by decide) e)
          refine V_iconst C (0 : Int32) 279 dL_law_278 rfl rfl ?_
          refine V_iadd C 280 dL_law_279 rfl ?_
          refine V_st (st2 := [.int (nI (nRib (L.take (k + 1))))]) (by rw [ek, nRib_snoc, if_neg (fun q => q es), Nat.add_zero, Int32.add_zero] <;> rfl) ?_
          refine V_istore C 282 [(5, .int (nI (nRib (L.take (k + 1))))), (8, .int (nI m)), (15, .int (-30000 : Int32)), (14, .int (nI (mWt z))), (13, .int (nI (mPg z))), (12, .int (nI (mId z))), (11, .int (nI k)), (10, .ref h), (9, .int (nI r)), (7, .int (nI (wEar (L.take k)))), (6, .int (nI (wRib (L.take k)))), (4, .int (nI S.length)), (3, .int (nI L.length)), (2, .int t), (1, .ref A.1), (0, .ref b)] dL_law_280 rfl (hlt 5 (by decide)) rfl ?_
          refine V_iload C 10 284 dL_law_282 rfl rfl ?_
          refine V_iload C 2 286 dL_law_284 rfl rfl ?_
          refine V_if_lt C 294 289 dL_law_286 rfl rfl (fun _ => ?_) (fun e => absurd (by decide) e)
          refine V_iconst C (0 : Int32) 295 dL_law_294 rfl rfl ?_
          refine V_iadd C 296 dL_law_295 rfl ?_
          refine V_st (st2 := [.int (nI (wRib (L.take (k + 1))))]) (by rw [ek, wRib_snoc, if_neg (fun q => q es), Nat.add_zero, Int32.add_zero] <;> rfl) ?_
          refine V_istore C 298 [(6, .int (nI (wRib (L.take (k + 1))))), (5, .int (nI (nRib (L.take (k + 1))))), (8, .int (nI m)), (15, .int (-30000 : Int32)), (14, .int (nI (mWt z))), (13, .int (nI (mPg z))), (12, .int (nI (mId z))), (11, .int (nI k)), (10, .ref h), (9, .int (nI r)), (7, .int (nI (wEar (L.take k)))), (4, .int (nI S.length)), (3, .int (nI L.length)), (2, .int t), (1, .ref A.1), (0, .ref b)] dL_law_296 rfl (hlt 6 (by decide)) rfl ?_
          refine V_iload C 10 300 dL_law_298 rfl rfl ?_
          refine V_iload C 3 302 dL_law_300 rfl rfl ?_
          refine V_if_lt C 309 305 dL_law_302 rfl rfl (fun _ => ?_) (fun e => absurd (by decide) e)
          refine V_iload C 4 311 dL_law_309 rfl rfl ?_
          refine V_iadd C 312 dL_law_311 rfl ?_
          refine V_st (st2 := [.int (nI (wEar (L.take (k + 1))))]) (by rw [ek, wEar_snoc, if_neg (fun q => q es), nI_add] <;> rfl) ?_
          refine V_istore C 314 [(7, .int (nI (wEar (L.take (k + 1))))), (6, .int (nI (wRib (L.take (k + 1))))), (5, .int (nI (nRib (L.take (k + 1))))), (8, .int (nI m)), (15, .int (-30000 : Int32)), (14, .int (nI (mWt z))), (13, .int (nI (mPg z))), (12, .int (nI (mId z))), (11, .int (nI k)), (10, .ref h), (9, .int (nI r)), (4, .int (nI S.length)), (3, .int (nI L.length)), (2, .int t), (1, .ref A.1), (0, .ref b)] dL_law_312 rfl (hlt 7 (by decide)) rfl ?_
          refine V_lv [8, 9, 10, 3, 0, 1, 2, 11, 12, 13, 14, 15] (lv' := [(11, .int (nI k)), (10, .ref h), (9, .int (nI r)), (8, .int (nI m)), (7, .int (nI (wEar (L.take (k + 1))))), (6, .int (nI (wRib (L.take (k + 1))))), (5, .int (nI (nRib (L.take (k + 1))))), (4, .int (nI S.length)), (3, .int (nI L.length)), (2, .int t), (1, .ref A.1), (0, .ref b)]) rfl ?_
          refine V_iinc C 0 (nI (k + 1)) 317 [(11, .int (nI (k + 1))), (10, .ref h), (9, .int (nI r)), (8, .int (nI m)), (7, .int (nI (wEar (L.take (k + 1))))), (6, .int (nI (wRib (L.take (k + 1))))), (5, .int (nI (nRib (L.take (k + 1))))), (4, .int (nI S.length)), (3, .int (nI L.length)), (2, .int t), (1, .ref A.1), (0, .ref b)] dL_law_314 rfl rfl (nI_1 k) (hlt 11 (by decide)) rfl ?_
          refine V_goto C 82 dL_law_317 rfl ?_
          refine V_widen (c2 := cells + 2 * (k + 1)) (s2 := slots + 12 * (k + 1)) (by omega) (by omega) ?_
          exact ih (k + 1) _ _ (by omega) (by rw [ek]; exact h1.snoc hne) (by rw [ek]; exact h2.ear es)
        by_cases e0 : k = 0
        · refine V_iload C 4 133 dL_law_131 rfl rfl ?_
          refine V_if_le C 153 136 dL_law_133 rfl rfl (fun _ => ?_) (fun e => absurd (show nI k ≤ 0 from (nI_le0 (by omega)).mpr e0) e)
          exact r153
        · obtain ⟨y, hy⟩ : ∃ y, L[k - 1]? = some y := ⟨L[k - 1]'(by omega), List.getElem?_eq_getElem _⟩
          have hyp := (hb.mk (mem_get hy)).2.1
          refine V_iload C 4 133 dL_law_131 rfl rfl ?_
          refine V_if_le C 153 136 dL_law_133 rfl rfl (fun e => absurd e (show ¬ nI k ≤ 0 from fun e => e0 ((nI_le0 (by omega)).mp e))) (fun _ => ?_)
          refine V_iload C 2 138 dL_law_136 rfl rfl ?_
          refine V_aload_n C 14 139 dL_law_138 rfl rfl ?_
          refine V_aload_n C 14 140 dL_law_139 rfl rfl ?_
          refine V_iload C 4 142 dL_law_140 rfl rfl ?_
          refine V_iconst C (1 : Int32) 143 dL_law_142 rfl rfl ?_
          refine V_isub C 144 dL_law_143 rfl ?_
          refine V_st (st2 := [.int (nI (k - 1)), .ref A.1, .ref A.1, .int (nI (mPg z))]) (by rw [show (1 : Int32) = nI 1 from rfl, pk_sub (by omega)] <;> rfl) ?_
          refine V_callXr C hBA hE ml_L_72 (pre := [(h, aI g 60 f)]) (post := []) (wc := xW g A x) (w1 := xW g A x) (rv := some (.int (nI (mId y)))) (as := [.int (nI (k - 1))]) (rest := [.ref A.1, .int (nI (mPg z))]) (c_X3_markByPage (R := .inl ((nI (mId y)), x)) hst (q_byPage hb hy)) 1 147 ([(h, aI g 60 f)] ++ (xW g A x ++ [])) dL_law_144 rfl ⟨Nat.le_of_ble_eq_true rfl, Nat.le_of_ble_eq_true rfl⟩ rfl rfl rfl (xW_fst _ _ _ _) rfl rfl rfl (Nat.le_of_ble_eq_true rfl) ⟨by show cells + 2 * k + 1 + 0 ≤ 600516; omega, by show slots + 12 * k + 6 + 0 ≤ 7283748; omega⟩ ?_
          refine V_callXr C hBA hE ml_L_136 (pre := [(h, aI g 60 f)]) (post := []) (wc := xW g A x) (w1 := xW g A x) (rv := some (.int (nI (mPg y)))) (as := [.int (nI (mId y))]) (rest := [.int (nI (mPg z))]) (c_X3_pageOf (R := .inl ((nI (mPg y)), x)) hst (q_pageOf hb (mem_get hy))) 1 150 ([(h, aI g 60 f)] ++ (xW g A x ++ [])) dL_law_147 rfl ⟨Nat.le_of_ble_eq_true rfl, Nat.le_of_ble_eq_true rfl⟩ rfl rfl rfl (xW_fst _ _ _ _) rfl rfl rfl (Nat.le_of_ble_eq_true rfl) ⟨by show cells + 2 * k + 1 + 0 ≤ 600516; omega, by show slots + 12 * k + 6 + 0 ≤ 7283748; omega⟩ ?_
          refine V_icmp_le C 240 153 dL_law_150 rfl rfl (fun e => absurd e (show ¬ nI (mPg z) ≤ nI (mPg y) from w_nle (srt_lt hb.2.1 hy hz (by omega)))) (fun _ => ?_)
          exact r153
      · obtain ⟨s, hs⟩ : ∃ s, mSt z = s + 1 := ⟨mSt z - 1, by omega⟩
        have hs5 : s < 5 := by omega
        have hs1 : mSt z - 1 = s := by omega
        have hwr := g6 es
        have hbit : m.testBit s = false := by
          cases h9 : m.testBit s with
          | false => rfl
          | true =>
            obtain ⟨y, hy, e⟩ := (h2.2 s hs5).mp h9
            obtain ⟨i, hi, hyi⟩ := mem_take hy
            have e2 := st_one hb.2.2.1 (mem_get hyi) hzL (by omega) (by omega)
            exact absurd (congrArg mPg e2) (hne y hy)
        refine V_iload C 0 84 dL_law_82 rfl rfl ?_
        refine V_iload_n C 8 85 dL_law_84 rfl rfl ?_
        refine V_icmp_ge C 320 88 dL_law_85 rfl rfl (fun e => absurd e (show ¬ nI L.length ≤ nI k from w_nle hkl)) (fun _ => ?_)
        refine V_aload_n C 10 89 dL_law_88 rfl rfl ?_
        refine V_iload C 0 91 dL_law_89 rfl rfl ?_
        refine V_callXr C hBA hE ml_L_72 (pre := [(h, aI g 60 f)]) (post := []) (wc := xW g A x) (w1 := xW g A x) (rv := some (.int (nI (mId z)))) (as := [.int (nI k)]) (rest := []) (c_X3_markByPage (R := .inl ((nI (mId z)), x)) hst (q_byPage hb hz)) 1 94 ([(h, aI g 60 f)] ++ (xW g A x ++ [])) dL_law_91 rfl ⟨Nat.le_of_ble_eq_true rfl, Nat.le_of_ble_eq_true rfl⟩ rfl rfl rfl (xW_fst _ _ _ _) rfl rfl rfl (Nat.le_of_ble_eq_true rfl) ⟨by show cells + 2 * k + 0 ≤ 600516; omega, by show slots + 12 * k + 0 ≤ 7283748; omega⟩ ?_
        refine V_istore C 96 [(12, .int (nI (mId z))), (11, .int (nI k)), (10, .ref h), (9, .int (nI r)), (8, .int (nI m)), (7, .int (nI (wEar (L.take k)))), (6, .int (nI (wRib (L.take k)))), (5, .int (nI (nRib (L.take k)))), (4, .int (nI S.length)), (3, .int (nI L.length)), (2, .int t), (1, .ref A.1), (0, .ref b)] dL_law_94 rfl (hlt 12 (by decide)) rfl ?_
        refine V_aload_n C 11 97 dL_law_96 rfl rfl ?_
        refine V_iload C 0 99 dL_law_97 rfl rfl ?_
        refine V_callXr C hBA hE ml_L_136 (pre := [(h, aI g 60 f)]) (post := []) (wc := xW g A x) (w1 := xW g A x) (rv := some (.int (nI (mPg z)))) (as := [.int (nI (mId z))]) (rest := []) (c_X3_pageOf (R := .inl ((nI (mPg z)), x)) hst (q_pageOf hb hzL)) 1 102 ([(h, aI g 60 f)] ++ (xW g A x ++ [])) dL_law_99 rfl ⟨Nat.le_of_ble_eq_true rfl, Nat.le_of_ble_eq_true rfl⟩ rfl rfl rfl (xW_fst _ _ _ _) rfl rfl rfl (Nat.le_of_ble_eq_true rfl) ⟨by show cells + 2 * k + 0 ≤ 600516; omega, by show slots + 12 * k + 0 ≤ 7283748; omega⟩ ?_
        refine V_istore C 104 [(13, .int (nI (mPg z))), (12, .int (nI (mId z))), (11, .int (nI k)), (10, .ref h), (9, .int (nI r)), (8, .int (nI m)), (7, .int (nI (wEar (L.take k)))), (6, .int (nI (wRib (L.take k)))), (5, .int (nI (nRib (L.take k)))), (4, .int (nI S.length)), (3, .int (nI L.length)), (2, .int t), (1, .ref A.1), (0, .ref b)] dL_law_102 rfl (hlt 13 (by decide)) rfl ?_
        refine V_aload_n C 12 105 dL_law_104 rfl rfl ?_
        refine V_iload C 1 107 dL_law_105 rfl rfl ?_
        refine V_callXr C hBA hE ml_L_139 (pre := [(h, aI g 60 f)]) (post := []) (wc := xW g A x) (w1 := xW g A x) (rv := some (.int (nI (mWt z)))) (as := [.int (nI (mId z))]) (rest := []) (c_X3_weightOf (R := .inl ((nI (mWt z)), x)) hst (q_weightOf hb hzL)) 1 110 ([(h, aI g 60 f)] ++ (xW g A x ++ [])) dL_law_107 rfl ⟨Nat.le_of_ble_eq_true rfl, Nat.le_of_ble_eq_true rfl⟩ rfl rfl rfl (xW_fst _ _ _ _) rfl rfl rfl (Nat.le_of_ble_eq_true rfl) ⟨by show cells + 2 * k + 0 ≤ 600516; omega, by show slots + 12 * k + 0 ≤ 7283748; omega⟩ ?_
        refine V_istore C 112 [(14, .int (nI (mWt z))), (13, .int (nI (mPg z))), (12, .int (nI (mId z))), (11, .int (nI k)), (10, .ref h), (9, .int (nI r)), (8, .int (nI m)), (7, .int (nI (wEar (L.take k)))), (6, .int (nI (wRib (L.take k)))), (5, .int (nI (nRib (L.take k)))), (4, .int (nI S.length)), (3, .int (nI L.length)), (2, .int t), (1, .ref A.1), (0, .ref b)] dL_law_110 rfl (hlt 14 (by decide)) rfl ?_
        refine V_aload_n C 13 113 dL_law_112 rfl rfl ?_
        refine V_iload C 2 115 dL_law_113 rfl rfl ?_
        refine V_callH C hBA hQ hN lh_seatOf (pre := [(h, aI g 60 f)]) (w0 := xW g A x) (post := []) (as := [.ref A.1, .int (nI (mId z))]) (rest := []) (w_seatOf hst (q_seatOf1 hb hzL es)) dL_law_115 ⟨Nat.le_of_ble_eq_true rfl, Nat.le_of_ble_eq_true rfl⟩ rfl rfl rfl (Nat.le_of_ble_eq_true rfl) ⟨by show cells + 2 * k + 1 ≤ 600516; omega, by show slots + 12 * k + 6 ≤ 7283748; omega⟩ (fun rv w1 hP => ?_)
        obtain ⟨rfl, rfl⟩ := hP
        show V K (cells + 2 * k + 1) (slots + 12 * k + 6) ([(h, aI g 60 f)] ++ (xW g A x ++ [])) [(14, .int (nI (mWt z))), (13, .int (nI (mPg z))), (12, .int (nI (mId z))), (11, .int (nI k)), (10, .ref h), (9, .int (nI r)), (8, .int (nI m)), (7, .int (nI (wEar (L.take k)))), (6, .int (nI (wRib (L.take k)))), (5, .int (nI (nRib (L.take k)))), (4, .int (nI S.length)), (3, .int (nI L.length)), (2, .int t), (1, .ref A.1), (0, .ref b)] [.int (nI (mSt z - 1))] 118
        refine V_st (st2 := [.int (nI s)]) (by rw [hs1] <;> rfl) ?_
        refine V_istore C 120 [(15, .int (nI s)), (14, .int (nI (mWt z))), (13, .int (nI (mPg z))), (12, .int (nI (mId z))), (11, .int (nI k)), (10, .ref h), (9, .int (nI r)), (8, .int (nI m)), (7, .int (nI (wEar (L.take k)))), (6, .int (nI (wRib (L.take k)))), (5, .int (nI (nRib (L.take k)))), (4, .int (nI S.length)), (3, .int (nI L.length)), (2, .int t), (1, .ref A.1), (0, .ref b)] dL_law_118 rfl (hlt 15 (by decide)) rfl ?_
        refine V_aload C 5 122 dL_law_120 rfl rfl ?_
        refine V_iload C 2 124 dL_law_122 rfl rfl ?_
        refine V_iald C (f := f) (n := 60) 0 125 dL_law_124 rfl rfl (inb_of (vp_in_nI g2 (by decide))) ?_
        refine V_st (st2 := [.int (-30000 : Int32)]) (by rw [cl_n (by omega), hfz] <;> rfl) ?_
        refine V_sipush C (-30000 : Int32) 128 dL_law_125 rfl rfl ?_
        refine V_icmp_ne C 240 131 dL_law_128 rfl rfl (fun e => absurd rfl e) (fun _ => ?_)
        have r153 : V K (cells + 2 * k + 1) (slots + 12 * k + 6) ([(h, aI g 60 f)] ++ (xW g A x ++ [])) [(15, .int (nI s)), (14, .int (nI (mWt z))), (13, .int (nI (mPg z))), (12, .int (nI (mId z))), (11, .int (nI k)), (10, .ref h), (9, .int (nI r)), (8, .int (nI m)), (7, .int (nI (wEar (L.take k)))), (6, .int (nI (wRib (L.take k)))), (5, .int (nI (nRib (L.take k)))), (4, .int (nI S.length)), (3, .int (nI L.length)), (2, .int t), (1, .ref A.1), (0, .ref b)] [] 153 := by
          refine V_iload C 1 155 dL_law_153 rfl rfl ?_
          refine V_iconst C (1 : Int32) 156 dL_law_155 rfl rfl ?_
          refine V_icmp_lt C 240 159 dL_law_156 rfl rfl (fun e => absurd e (show ¬ nI (mWt z) < (1 : Int32) from w_nlt (b := 1) g3.1)) (fun _ => ?_)
          refine V_iload C 1 161 dL_law_159 rfl rfl ?_
          refine V_bipush C (9 : Int32) 163 dL_law_161 rfl rfl ?_
          refine V_icmp_gt C 240 166 dL_law_163 rfl rfl (fun e => absurd e (show ¬ (9 : Int32) < nI (mWt z) from w_nlt (a := 9) g3.2)) (fun _ => ?_)
          refine V_aload_n C 14 167 dL_law_166 rfl rfl ?_
          refine V_iload C 3 169 dL_law_167 rfl rfl ?_
          refine V_callXr C hBA hE ml_L_144 (pre := [(h, aI g 60 f)]) (post := []) (wc := xW g A x) (w1 := xW g A x) (rv := some (.int (b2 (decide (mSt z ≠ 0))))) (as := [.int (nI (mId z))]) (rest := []) (c_X3_isRibbon (R := .inl ((b2 (decide (mSt z ≠ 0))), x)) hst (q_isRibbon hb hzL)) 1 172 ([(h, aI g 60 f)] ++ (xW g A x ++ [])) dL_law_169 rfl ⟨Nat.le_of_ble_eq_true rfl, Nat.le_of_ble_eq_true rfl⟩ rfl rfl rfl (xW_fst _ _ _ _) rfl rfl rfl (Nat.le_of_ble_eq_true rfl) ⟨by show cells + 2 * k + 1 + 0 ≤ 600516; omega, by show slots + 12 * k + 6 + 0 ≤ 7283748; omega⟩ ?_
          refine V_st (st2 := [.int (1 : Int32)]) (by rw [decide_eq_true es]; rfl) ?_
          refine V_iload C 0 174 dL_law_172 rfl rfl ?_
          refine V_if_lt C 181 177 dL_law_174 rfl rfl (fun e => absurd e (nI_pos (by omega))) (fun _ => ?_)
          refine V_iconst C (1 : Int32) 178 dL_law_177 rfl rfl ?_
          refine V_goto C 182 dL_law_178 rfl ?_
          refine V_icmp_ne C 240 185 dL_law_182 rfl rfl (fun e => absurd rfl e) (fun _ => ?_)
          refine V_aload_n C 14 186 dL_law_185 rfl rfl ?_
          refine V_iload C 3 188 dL_law_186 rfl rfl ?_
          refine V_callXr C hBA hE ml_L_147 (pre := [(h, aI g 60 f)]) (post := []) (wc := xW g A x) (w1 := xW g A x) (rv := some (.int (nI (mWr z)))) (as := [.int (nI (mId z))]) (rest := []) (c_X3_wearOf (R := .inl ((nI (mWr z)), x)) hst (q_wearOf hb hzL)) 1 191 ([(h, aI g 60 f)] ++ (xW g A x ++ [])) dL_law_188 rfl ⟨Nat.le_of_ble_eq_true rfl, Nat.le_of_ble_eq_true rfl⟩ rfl rfl rfl (xW_fst _ _ _ _) rfl rfl rfl (Nat.le_of_ble_eq_true rfl) ⟨by show cells + 2 * k + 1 + 0 ≤ 600516; omega, by show slots + 12 * k + 6 + 0 ≤ 7283748; omega⟩ ?_
          refine V_if_lt C 240 194 dL_law_191 rfl rfl (fun e => absurd e (nI_pos (by omega))) (fun _ => ?_)
          refine V_aload_n C 14 195 dL_law_194 rfl rfl ?_
          refine V_iload C 3 197 dL_law_195 rfl rfl ?_
          refine V_callXr C hBA hE ml_L_147 (pre := [(h, aI g 60 f)]) (post := []) (wc := xW g A x) (w1 := xW g A x) (rv := some (.int (nI (mWr z)))) (as := [.int (nI (mId z))]) (rest := []) (c_X3_wearOf (R := .inl ((nI (mWr z)), x)) hst (q_wearOf hb hzL)) 1 200 ([(h, aI g 60 f)] ++ (xW g A x ++ [])) dL_law_197 rfl ⟨Nat.le_of_ble_eq_true rfl, Nat.le_of_ble_eq_true rfl⟩ rfl rfl rfl (xW_fst _ _ _ _) rfl rfl rfl (Nat.le_of_ble_eq_true rfl) ⟨by show cells + 2 * k + 1 + 0 ≤ 600516; omega, by show slots + 12 * k + 6 + 0 ≤ 7283748; omega⟩ ?_
          refine V_iconst C (2 : Int32) 201 dL_law_200 rfl rfl ?_
          refine V_icmp_gt C 240 204 dL_law_201 rfl rfl (fun e => absurd e (show ¬ (2 : Int32) < nI (mWr z) from w_nlt (a := 2) g4)) (fun _ => ?_)
          refine V_iload C 0 206 dL_law_204 rfl rfl ?_
          refine V_if_lt C 242 209 dL_law_206 rfl rfl (fun e => absurd e (nI_pos (by omega))) (fun _ => ?_)
          refine V_aload_n C 14 210 dL_law_209 rfl rfl ?_
          refine V_iload C 3 212 dL_law_210 rfl rfl ?_
          refine V_callXr C hBA hE ml_L_147 (pre := [(h, aI g 60 f)]) (post := []) (wc := xW g A x) (w1 := xW g A x) (rv := some (.int (nI (mWr z)))) (as := [.int (nI (mId z))]) (rest := []) (c_X3_wearOf (R := .inl ((nI (mWr z)), x)) hst (q_wearOf hb hzL)) 1 215 ([(h, aI g 60 f)] ++ (xW g A x ++ [])) dL_law_212 rfl ⟨Nat.le_of_ble_eq_true rfl, Nat.le_of_ble_eq_true rfl⟩ rfl rfl rfl (xW_fst _ _ _ _) rfl rfl rfl (Nat.le_of_ble_eq_true rfl) ⟨by show cells + 2 * k + 1 + 0 ≤ 600516; omega, by show slots + 12 * k + 6 + 0 ≤ 7283748; omega⟩ ?_
          refine V_st (st2 := [.int (0 : Int32)]) (by rw [hwr]; rfl) ?_
          refine V_if_ne C 240 218 dL_law_215 rfl rfl (fun e => absurd rfl e) (fun _ => ?_)
          refine V_aload_n C 14 219 dL_law_218 rfl rfl ?_
          refine V_iload C 0 221 dL_law_219 rfl rfl ?_
          refine V_callH C hBA hQ hN lh_ribbonIn (pre := [(h, aI g 60 f)]) (w0 := xW g A x) (post := []) (as := [.ref A.1, .int (nI s)]) (rest := []) (w_ribbonIn hst (q_ribbonIn1 hb hzL hs5 hs)) dL_law_221 ⟨Nat.le_of_ble_eq_true rfl, Nat.le_of_ble_eq_true rfl⟩ rfl rfl rfl (Nat.le_of_ble_eq_true rfl) ⟨by show cells + 2 * k + 1 + 1 ≤ 600516; omega, by show slots + 12 * k + 6 + 6 ≤ 7283748; omega⟩ (fun rv w1 hP => ?_)
          obtain ⟨rfl, rfl⟩ := hP
          show V K (cells + 2 * k + 1 + 1) (slots + 12 * k + 6 + 6) ([(h, aI g 60 f)] ++ (xW g A x ++ [])) [(15, .int (nI s)), (14, .int (nI (mWt z))), (13, .int (nI (mPg z))), (12, .int (nI (mId z))), (11, .int (nI k)), (10, .ref h), (9, .int (nI r)), (8, .int (nI m)), (7, .int (nI (wEar (L.take k)))), (6, .int (nI (wRib (L.take k)))), (5, .int (nI (nRib (L.take k)))), (4, .int (nI S.length)), (3, .int (nI L.length)), (2, .int t), (1, .ref A.1), (0, .ref b)] [.int (nI (mId z))] 224
          refine V_iload C 3 226 dL_law_224 rfl rfl ?_
          refine V_icmp_ne C 240 229 dL_law_226 rfl rfl (fun e => absurd rfl e) (fun _ => ?_)
          refine V_iload C 7 231 dL_law_229 rfl rfl ?_
          refine V_iload C 0 233 dL_law_231 rfl rfl ?_
          refine V_ishr C 234 dL_law_233 rfl ?_
          refine V_iconst C (1 : Int32) 235 dL_law_234 rfl rfl ?_
          refine V_iand C 236 dL_law_235 rfl ?_
          refine V_st (st2 := [.int (0 : Int32)]) (by rw [h2.get hs5, hbit] <;> rfl) ?_
          refine V_iconst C (1 : Int32) 237 dL_law_236 rfl rfl ?_
          refine V_icmp_ne C 242 240 dL_law_237 rfl rfl (fun _ => ?_) (fun e => absurd e (by decide))
          refine V_aload C 5 244 dL_law_242 rfl rfl ?_
          refine V_iload C 2 246 dL_law_244 rfl rfl ?_
          refine V_iload C 3 248 dL_law_246 rfl rfl ?_
          refine V_iast C hBA 0 249 ([(h, aI g 60 (upd f (cl (nI (mPg z))) (nI (mId z))))] ++ (xW g A x ++ [])) dL_law_248 rfl rfl (inb_of (vp_in_nI g2 (by decide))) rfl ?_
          refine V_eq (ws2 := [(h, aI g 60 (upd f (mPg z) (nI (mId z))))] ++ (xW g A x ++ [])) (by rw [cl_n (by omega)]) ?_
          refine V_iload C 7 251 dL_law_249 rfl rfl ?_
          refine V_iload C 0 253 dL_law_251 rfl rfl ?_
          refine V_if_lt C 263 256 dL_law_253 rfl rfl (fun e => absurd e (nI_pos (by omega))) (fun _ => ?_)
          refine V_iconst C (1 : Int32) 257 dL_law_256 rfl rfl ?_
          refine V_iload C 0 259 dL_law_257 rfl rfl ?_
          refine V_ishl C 260 dL_law_259 rfl ?_
          refine V_goto C 264 dL_law_260 rfl ?_
          refine V_ior C 265 dL_law_264 rfl ?_
          refine V_st (st2 := [.int (nI (m ||| 2 ^ s))]) (by rw [h2.set hs5] <;> rfl) ?_
          refine V_istore C 267 [(8, .int (nI (m ||| 2 ^ s))), (15, .int (nI s)), (14, .int (nI (mWt z))), (13, .int (nI (mPg z))), (12, .int (nI (mId z))), (11, .int (nI k)), (10, .ref h), (9, .int (nI r)), (7, .int (nI (wEar (L.take k)))), (6, .int (nI (wRib (L.take k)))), (5, .int (nI (nRib (L.take k)))), (4, .int (nI S.length)), (3, .int (nI L.length)), (2, .int t), (1, .ref A.1), (0, .ref b)] dL_law_265 rfl (hlt 8 (by decide)) rfl ?_
          refine V_iload C 10 269 dL_law_267 rfl rfl ?_
          refine V_iload C 1 271 dL_law_269 rfl rfl ?_
          refine V_if_lt C 278 274 dL_law_271 rfl rfl (fun e => absurd e (nI_pos (by omega))) (fun _ => ?_)
          refine V_iconst C (1 : Int32) 275 dL_law_274 rfl rfl ?_
          refine V_goto C 279 dL_law_275 rfl ?_
          refine V_iadd C 280 dL_law_279 rfl ?_
          refine V_st (st2 := [.int (nI (nRib (L.take (k + 1))))]) (by rw [ek, nRib_snoc, if_pos es, nI_1] <;> rfl) ?_
          refine V_istore C 282 [(5, .int (nI (nRib (L.take (k + 1))))), (8, .int (nI (m ||| 2 ^ s))), (15, .int (nI s)), (14, .int (nI (mWt z))), (13, .int (nI (mPg z))), (12, .int (nI (mId z))), (11, .int (nI k)), (10, .ref h), (9, .int (nI r)), (7, .int (nI (wEar (L.take k)))), (6, .int (nI (wRib (L.take k)))), (4, .int (nI S.length)), (3, .int (nI L.length)), (2, .int t), (1, .ref A.1), (0, .ref b)] dL_law_280 rfl (hlt 5 (by decide)) rfl ?_
          refine V_iload C 10 284 dL_law_282 rfl rfl ?_
          refine V_iload C 2 286 dL_law_284 rfl rfl ?_
          refine V_if_lt C 294 289 dL_law_286 rfl rfl (fun e => absurd e (nI_pos (by omega))) (fun _ => ?_)
          refine V_iload C 3 291 dL_law_289 rfl rfl ?_
          refine V_goto C 295 dL_law_291 rfl ?_
          refine V_iadd C 296 dL_law_295 rfl ?_
          refine V_st (st2 := [.int (nI (wRib (L.take (k + 1))))]) (by rw [ek, wRib_snoc, if_pos es, nI_add] <;> rfl) ?_
          refine V_istore C 298 [(6, .int (nI (wRib (L.take (k + 1))))), (5, .int (nI (nRib (L.take (k + 1))))), (8, .int (nI (m ||| 2 ^ s))), (15, .int (nI s)), (14, .int (nI (mWt z))), (13, .int (nI (mPg z))), (12, .int (nI (mId z))), (11, .int (nI k)), (10, .ref h), (9, .int (nI r)), (7, .int (nI (wEar (L.take k)))), (4, .int (nI S.length)), (3, .int (nI L.length)), (2, .int t), (1, .ref A.1), (0, .ref b)] dL_law_296 rfl (hlt 6 (by decide)) rfl ?_
          refine V_iload C 10 300 dL_law_298 rfl rfl ?_
          refine V_iload C 3 302 dL_law_300 rfl rfl ?_
          refine V_if_lt C 309 305 dL_law_302 rfl rfl (fun e => absurd e (nI_pos (by omega))) (fun _ => ?_)
          refine V_iconst C (0 : Int32) 306 dL_law_305 rfl rfl ?_
          refine V_goto C 311 dL_law_306 rfl ?_
          refine V_iadd C 312 dL_law_311 rfl ?_
          refine V_st (st2 := [.int (nI (wEar (L.take (k + 1))))]) (by rw [ek, wEar_snoc, if_pos es, Nat.add_zero, Int32.add_zero] <;> rfl) ?_
          refine V_istore C 314 [(7, .int (nI (wEar (L.take (k + 1))))), (6, .int (nI (wRib (L.take (k + 1))))), (5, .int (nI (nRib (L.take (k + 1))))), (8, .int (nI (m ||| 2 ^ s))), (15, .int (nI s)), (14, .int (nI (mWt z))), (13, .int (nI (mPg z))), (12, .int (nI (mId z))), (11, .int (nI k)), (10, .ref h), (9, .int (nI r)), (4, .int (nI S.length)), (3, .int (nI L.length)), (2, .int t), (1, .ref A.1), (0, .ref b)] dL_law_312 rfl (hlt 7 (by decide)) rfl ?_
          refine V_lv [8, 9, 10, 3, 0, 1, 2, 11, 12, 13, 14, 15] (lv' := [(11, .int (nI k)), (10, .ref h), (9, .int (nI r)), (8, .int (nI (m ||| 2 ^ s))), (7, .int (nI (wEar (L.take (k + 1))))), (6, .int (nI (wRib (L.take (k + 1))))), (5, .int (nI (nRib (L.take (k + 1))))), (4, .int (nI S.length)), (3, .int (nI L.length)), (2, .int t), (1, .ref A.1), (0, .ref b)]) rfl ?_
          refine V_iinc C 0 (nI (k + 1)) 317 [(11, .int (nI (k + 1))), (10, .ref h), (9, .int (nI r)), (8, .int (nI (m ||| 2 ^ s))), (7, .int (nI (wEar (L.take (k + 1))))), (6, .int (nI (wRib (L.take (k + 1))))), (5, .int (nI (nRib (L.take (k + 1))))), (4, .int (nI S.length)), (3, .int (nI L.length)), (2, .int t), (1, .ref A.1), (0, .ref b)] dL_law_314 rfl rfl (nI_1 k) (hlt 11 (by decide)) rfl ?_
          refine V_goto C 82 dL_law_317 rfl ?_
          refine V_widen (c2 := cells + 2 * (k + 1)) (s2 := slots + 12 * (k + 1)) (by omega) (by omega) ?_
          exact ih (k + 1) _ _ (by omega) (by rw [ek]; exact h1.snoc hne) (by rw [ek]; exact h2.rib hs5 hs)
        by_cases e0 : k = 0
        · refine V_iload C 4 133 dL_law_131 rfl rfl ?_
          refine V_if_le C 153 136 dL_law_133 rfl rfl (fun _ => ?_) (fun e => absurd (show nI k ≤ 0 from (nI_le0 (by omega)).mpr e0) e)
          exact r153
        · obtain ⟨y, hy⟩ : ∃ y, L[k - 1]? = some y := ⟨L[k - 1]'(by omega), List.getElem?_eq_getElem _⟩
          have hyp := (hb.mk (mem_get hy)).2.1
          refine V_iload C 4 133 dL_law_131 rfl rfl ?_
          refine V_if_le C 153 136 dL_law_133 rfl rfl (fun e => absurd e (show ¬ nI k ≤ 0 from fun e => e0 ((nI_le0 (by omega)).mp e))) (fun _ => ?_)
          refine V_iload C 2 138 dL_law_136 rfl rfl ?_
          refine V_aload_n C 14 139 dL_law_138 rfl rfl ?_
          refine V_aload_n C 14 140 dL_law_139 rfl rfl ?_
          refine V_iload C 4 142 dL_law_140 rfl rfl ?_
          refine V_iconst C (1 : Int32) 143 dL_law_142 rfl rfl ?_
          refine V_isub C 144 dL_law_143 rfl ?_
          refine V_st (st2 := [.int (nI (k - 1)), .ref A.1, .ref A.1, .int (nI (mPg z))]) (by rw [show (1 : Int32) = nI 1 from rfl, pk_sub (by omega)] <;> rfl) ?_
          refine V_callXr C hBA hE ml_L_72 (pre := [(h, aI g 60 f)]) (post := []) (wc := xW g A x) (w1 := xW g A x) (rv := some (.int (nI (mId y)))) (as := [.int (nI (k - 1))]) (rest := [.ref A.1, .int (nI (mPg z))]) (c_X3_markByPage (R := .inl ((nI (mId y)), x)) hst (q_byPage hb hy)) 1 147 ([(h, aI g 60 f)] ++ (xW g A x ++ [])) dL_law_144 rfl ⟨Nat.le_of_ble_eq_true rfl, Nat.le_of_ble_eq_true rfl⟩ rfl rfl rfl (xW_fst _ _ _ _) rfl rfl rfl (Nat.le_of_ble_eq_true rfl) ⟨by show cells + 2 * k + 1 + 0 ≤ 600516; omega, by show slots + 12 * k + 6 + 0 ≤ 7283748; omega⟩ ?_
          refine V_callXr C hBA hE ml_L_136 (pre := [(h, aI g 60 f)]) (post := []) (wc := xW g A x) (w1 := xW g A x) (rv := some (.int (nI (mPg y)))) (as := [.int (nI (mId y))]) (rest := [.int (nI (mPg z))]) (c_X3_pageOf (R := .inl ((nI (mPg y)), x)) hst (q_pageOf hb (mem_get hy))) 1 150 ([(h, aI g 60 f)] ++ (xW g A x ++ [])) dL_law_147 rfl ⟨Nat.le_of_ble_eq_true rfl, Nat.le_of_ble_eq_true rfl⟩ rfl rfl rfl (xW_fst _ _ _ _) rfl rfl rfl (Nat.le_of_ble_eq_true rfl) ⟨by show cells + 2 * k + 1 + 0 ≤ 600516; omega, by show slots + 12 * k + 6 + 0 ≤ 7283748; omega⟩ ?_
          refine V_icmp_le C 240 153 dL_law_150 rfl rfl (fun e => absurd e (show ¬ nI (mPg z) ≤ nI (mPg y) from w_nle (srt_lt hb.2.1 hy hz (by omega)))) (fun _ => ?_)
          exact r153
  refine V_lv [0, 1, 2, 3, 4, 5, 6, 7, 8, 9, 10, 11] (lv' := [(11, .int (0 : Int32)), (10, .ref h), (9, .int (nI r)), (8, .int (0 : Int32)), (7, .int (0 : Int32)), (6, .int (0 : Int32)), (5, .int (0 : Int32)), (4, .int (nI S.length)), (3, .int (nI L.length)), (2, .int t), (1, .ref A.1), (0, .ref b)]) rfl ?_
  exact loop L.length 0 f0 0 (by omega) hf0 MK.nil
