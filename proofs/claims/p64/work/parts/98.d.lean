/-! ===== the law: the chapters ===== -/
theorem wIn_le (L : List M5) (S : List Nat) (c : Nat) : wIn L S c ≤ (L.map mWt).sum := by
  have h := sum_fil_le L (fun z => inCh S c (mPg z)) mWt
  rw [sum_filter] at h
  exact h
theorem cIn_le (L : List M5) (S : List Nat) (c : Nat) : cIn L S c ≤ L.length := by
  have h := List.length_filter_le (fun z => inCh S c (mPg z)) L
  rw [len_filter] at h
  exact h
set_option maxRecDepth 8000 in
set_option maxHeartbeats 4000000 in
theorem law_C3 {K : KT} {g : G0} {A : XA} {x : XV} {L : List M5} {S : List Nat} {nid r b cells slots h m q : Nat} {f : Nat → Int32} {t : Int32} {sb : SbV} {c k16 k17 k18 : Nat} {t20 : Int32} {s : Nat × Nat} {fs : Nat → Int32} {T U : List Nat} (Lk : LKx K g) (hb : BK x L S nid r) (hc : c < S.length) (hr : cells + 70 ≤ 600516 ∧ slots + 9100 ≤ 7283748) (h16 : k16 = cIn L S c) (h17 : k17 = wIn L S c) (h18 : k18 = wFav L S c) (hTe : T = (L.foldl (markT fun z => inCh S c (mPg z)) (hdr (S.getD c 0) (endCh S c - 1)))) (hU : SBT sb U) (hs : ST fs T) (hTl : T.length ≤ 89) (ke : ∀ (q : Nat) (sb : SbV) (U : List Nat), SBT sb U → V K (cells + 64) (slots + 9088) ([(h, aI g 60 f)] ++ (xW g (aS A q) (xS x sb) ++ [])) [(13, .int (nI (c + 1))), (12, .int (nI (bg S (c + 1)) - 1)), (11, .int (nI (hvy (wIn L S) (c + 1)))), (10, .ref h), (9, .int (nI r)), (8, .int (nI m)), (7, .int (nI (wEar L))), (6, .int (nI (wRib L))), (5, .int (nI (nRib L))), (4, .int (nI S.length)), (3, .int (nI L.length)), (2, .int t), (1, .ref A.1), (0, .ref b)] [] 329) : V K cells slots ([(h, aI g 60 f)] ++ (strW g s T.length fs ++ (xW g (aS A q) (xS x sb) ++ []))) [(20, .int t20), (19, .ref s.1), (18, .int (nI k18)), (17, .int (nI k17)), (16, .int (nI k16)), (15, .int (nI (endCh S c - 1))), (14, .int (nI (S.getD c 0))), (13, .int (nI c)), (12, .int (nI (endCh S c - 1))), (11, .int (nI (hvy (wIn L S) c))), (10, .ref h), (9, .int (nI r)), (8, .int (nI m)), (7, .int (nI (wEar L))), (6, .int (nI (wRib L))), (5, .int (nI (nRib L))), (4, .int (nI S.length)), (3, .int (nI L.length)), (2, .int t), (1, .ref A.1), (0, .ref b)] [] 552 := by
  subst h16
  subst h17
  subst h18
  obtain ⟨C, hBA, hQ, hst, h23⟩ := id Lk
  have hlt : ∀ i, i < 23 → i < kn K := fun i h => by rw [h23]; exact h
  have hE := hQ.2.2.2.2.2
  have hN := hQ.sk.2.2.2.2
  obtain ⟨hr1, hr2⟩ := hr
  have hch := hb.chs
  have hb2 := hb.xS sb
  have hS := hb.2.2.2.2.1
  have hC := hb.2.2.2.1
  have e1 := endCh_gt hS hc
  have e2 := endCh_le hS c
  have hlen := hb.len
  have e3 := wIn_le L S c
  have e4 := wIn_le L S (hvy (wIn L S) c)
  have e5 := wAll_le hb.2.2.1.bL
  have e6 := cIn_le L S c
  have e7 := fav_agn L S c
  have e8 := wAll L
  have e9 : (2 : Int32) * nI (wFav L S c) = nI (2 * wFav L S c) := pk_mul 2 _
  have e10 : nI (wRib L) + nI (wEar L) = nI (wFav L S c + wAgn L S c) := by rw [nI_add, e7]
  have e11 : nI (wFav L S c + wAgn L S c) - nI (wFav L S c) = nI (wAgn L S c) := by rw [pk_sub (Nat.le_add_right _ _), Nat.add_sub_cancel_left]
  have hps : Bk_starts (xS x sb).2.1 c = nI (S.getD c 0) := hC.2 c _ (get_getD hc)
  have hpe : f_X0_endOf (xS x sb).2.1 (nI c) = some (nI (endCh S c - 1)) := s_endOf2 hC hS hc
  have e12 : nI (endCh S c - 1) = nI (bg S (c + 1)) - 1 := (pk_sub (b := 1) (show 1 ≤ bg S (c + 1) from Nat.lt_of_le_of_lt (Nat.zero_le _) e1)).symm
  have r676 : V K (cells) (slots) ([(h, aI g 60 f)] ++ (strW g s T.length fs ++ (xW g (aS A q) (xS x sb) ++ []))) [(20, .int t20), (19, .ref s.1), (18, .int (nI (wFav L S c))), (17, .int (nI (wIn L S c))), (16, .int (nI (cIn L S c))), (15, .int (nI (endCh S c - 1))), (14, .int (nI (S.getD c 0))), (13, .int (nI c)), (12, .int (nI (endCh S c - 1))), (11, .int (nI (hvy (wIn L S) (c + 1)))), (10, .ref h), (9, .int (nI r)), (8, .int (nI m)), (7, .int (nI (wEar L))), (6, .int (nI (wRib L))), (5, .int (nI (nRib L))), (4, .int (nI S.length)), (3, .int (nI L.length)), (2, .int t), (1, .ref A.1), (0, .ref b)] [] 676 := by
    refine V_aload_n C 19 677 dL_law_676 rfl rfl ?_
    refine V_iload C 7 679 dL_law_677 rfl rfl ?_
    have ct := c_X3_heldShare (l := kl K) (D := kD K) (g := g) (A := aS A q) (x := xS x sb) hst (x_chap hb2 hc) (by omega) hps hpe (by omega) (by omega) (s_heldPageByPage hb.1 hb.2.2.1 hC hS hc) (show cIn L S c < 13 from by omega)
    refine V_callXr C hBA hE ml_L_204 (pre := ([(h, aI g 60 f)] ++ (strW g s T.length fs))) (post := []) (wc := xW g (aS A q) (xS x sb)) (w1 := xW g (aS A q) (xS x sb)) (rv := some (.float (fsh (cIn L S c) ((endCh S c - 1) - (S.getD c 0) + 1)))) (as := [.int (nI c)]) (rest := []) ct 3 682 ([(h, aI g 60 f)] ++ (strW g s T.length fs ++ (xW g (aS A q) (xS x sb) ++ []))) dL_law_679 rfl ⟨Nat.le_of_ble_eq_true rfl, Nat.le_of_ble_eq_true rfl⟩ rfl rfl rfl (xW_fst _ _ _ _) rfl rfl rfl (Nat.le_of_ble_eq_true rfl) ⟨by show cells + 0 ≤ 600516; omega, by show slots + 0 ≤ 7283748; omega⟩ ?_
    refine V_iload C 4 684 dL_law_682 rfl rfl ?_
    refine V_i2f C 685 dL_law_684 rfl ?_
    refine V_iload C 5 687 dL_law_685 rfl rfl ?_
    refine V_iload C 6 689 dL_law_687 rfl rfl ?_
    refine V_isub C 690 dL_law_689 rfl ?_
    refine V_iconst C (1 : Int32) 691 dL_law_690 rfl rfl ?_
    refine V_iadd C 692 dL_law_691 rfl ?_
    refine V_st (st2 := [.int (nI ((endCh S c - 1) - (S.getD c 0) + 1)), .float (FP.i2f (nI (cIn L S c))), .float (fsh (cIn L S c) ((endCh S c - 1) - (S.getD c 0) + 1))]) (by rw [pk_sub (show (S.getD c 0) ≤ (endCh S c - 1) by omega), nI_1]; rfl) ?_
    refine V_i2f C 693 dL_law_692 rfl ?_
    refine V_fdiv C 694 dL_law_693 rfl (fsh_ok (show cIn L S c < 13 by omega) (show (endCh S c - 1) - (S.getD c 0) + 1 < 61 by omega) (by omega)).1 ?_
    refine V_fcmp C 695 dL_law_694 rfl (fc_ok (show cIn L S c < 13 by omega) (show (endCh S c - 1) - (S.getD c 0) + 1 < 61 by omega) (by omega)) ?_
    refine V_if_ne C 713 698 dL_law_695 rfl rfl (fun e => absurd rfl e) (fun _ => ?_)
    refine V_aload_n C 19 699 dL_law_698 rfl rfl ?_
    refine V_aload_n C 19 700 dL_law_699 rfl rfl ?_
    refine V_iload C 7 702 dL_law_700 rfl rfl ?_
    refine V_callN C hBA hQ ml_L_208 (pre := ([(h, aI g 60 f)] ++ (strW g s T.length fs))) (w0 := xW g (aS A q) (xS x sb)) (post := []) (as := [.int (nI c)]) (rest := [.ref A.1]) (c_wrChapter (inM := fun z => inCh S c (mPg z)) hst hb.1 hb.2.2.1.bL (x_chap hb2 hc) (by omega) hps (by omega) hpe (by omega) (fun i z hi => s_isIn hb.1 hb.2.2.1.bL hC hS.1 hi hc) hU) 3 dL_law_702 ⟨Nat.le_of_ble_eq_true rfl, Nat.le_of_ble_eq_true rfl⟩ rfl rfl rfl rfl (Nat.le_of_ble_eq_true rfl) ⟨by show cells + 64 ≤ 600516; omega, by show slots + 9088 ≤ 7283748; omega⟩ (fun rv w1 hP => ?_)
    obtain ⟨rfl, q2, sb2, rfl, hT2⟩ := hP
    rw [show L.foldl (markT fun z => inCh S c (mPg z)) ([] ++ digs (S.getD c 0) ++ [45] ++ digs (endCh S c - 1)) = T from hTe.symm] at hT2 ⊢
    show V K (cells + 64) (slots + 9088) ([(h, aI g 60 f)] ++ (strW g s T.length fs ++ (xW g (aS A q2) (xS x sb2) ++ []))) [(20, .int t20), (19, .ref s.1), (18, .int (nI (wFav L S c))), (17, .int (nI (wIn L S c))), (16, .int (nI (cIn L S c))), (15, .int (nI (endCh S c - 1))), (14, .int (nI (S.getD c 0))), (13, .int (nI c)), (12, .int (nI (endCh S c - 1))), (11, .int (nI (hvy (wIn L S) (c + 1)))), (10, .ref h), (9, .int (nI r)), (8, .int (nI m)), (7, .int (nI (wEar L))), (6, .int (nI (wRib L))), (5, .int (nI (nRib L))), (4, .int (nI S.length)), (3, .int (nI L.length)), (2, .int t), (1, .ref A.1), (0, .ref b)] [.int (nI T.length), .ref A.1] 705
    refine V_aload C 1 707 dL_law_705 rfl rfl ?_
    refine V_line (A := A) (x := x) Lk hT2 (by omega) hs dL_law_707 (Nat.le_of_ble_eq_true rfl) ⟨by show cells + 64 ≤ 600516; omega, by show slots + 9088 ≤ 7283748; omega⟩ ?_
    show V K (cells + 64) (slots + 9088) ([(h, aI g 60 f)] ++ (xW g (aS A q2) (xS x sb2) ++ [])) [(20, .int t20), (19, .ref s.1), (18, .int (nI (wFav L S c))), (17, .int (nI (wIn L S c))), (16, .int (nI (cIn L S c))), (15, .int (nI (endCh S c - 1))), (14, .int (nI (S.getD c 0))), (13, .int (nI c)), (12, .int (nI (endCh S c - 1))), (11, .int (nI (hvy (wIn L S) (c + 1)))), (10, .ref h), (9, .int (nI r)), (8, .int (nI m)), (7, .int (nI (wEar L))), (6, .int (nI (wRib L))), (5, .int (nI (nRib L))), (4, .int (nI S.length)), (3, .int (nI L.length)), (2, .int t), (1, .ref A.1), (0, .ref b)] [.int (1 : Int32)] 710
    refine V_if_ne C 715 713 dL_law_710 rfl rfl (fun _ => ?_) (fun e => absurd e (show ¬ (1 : Int32) = 0 by decide))
    refine V_lv [7, 8, 9, 10, 11, 12, 13, 14, 15, 16, 17, 18, 19, 20] (lv' := [(13, .int (nI c)), (12, .int (nI (endCh S c - 1))), (11, .int (nI (hvy (wIn L S) (c + 1)))), (10, .ref h), (9, .int (nI r)), (8, .int (nI m)), (7, .int (nI (wEar L))), (6, .int (nI (wRib L))), (5, .int (nI (nRib L))), (4, .int (nI S.length)), (3, .int (nI L.length)), (2, .int t), (1, .ref A.1), (0, .ref b)]) rfl ?_
    rw [e12]
    refine V_iinc C 0 (nI (c + 1)) 718 [(13, .int (nI (c + 1))), (12, .int (nI (bg S (c + 1)) - 1)), (11, .int (nI (hvy (wIn L S) (c + 1)))), (10, .ref h), (9, .int (nI r)), (8, .int (nI m)), (7, .int (nI (wEar L))), (6, .int (nI (wRib L))), (5, .int (nI (nRib L))), (4, .int (nI S.length)), (3, .int (nI L.length)), (2, .int t), (1, .ref A.1), (0, .ref b)] dL_law_715 rfl rfl (nI_1 c) (hlt 13 (by decide)) rfl ?_
    refine V_goto C 329 dL_law_718 rfl ?_
    exact ke q2 sb2 _ hT2
  have r570 : V K (cells) (slots) ([(h, aI g 60 f)] ++ (strW g s T.length fs ++ (xW g (aS A q) (xS x sb) ++ []))) [(20, .int t20), (19, .ref s.1), (18, .int (nI (wFav L S c))), (17, .int (nI (wIn L S c))), (16, .int (nI (cIn L S c))), (15, .int (nI (endCh S c - 1))), (14, .int (nI (S.getD c 0))), (13, .int (nI c)), (12, .int (nI (endCh S c - 1))), (11, .int (nI (hvy (wIn L S) c))), (10, .ref h), (9, .int (nI r)), (8, .int (nI m)), (7, .int (nI (wEar L))), (6, .int (nI (wRib L))), (5, .int (nI (nRib L))), (4, .int (nI S.length)), (3, .int (nI L.length)), (2, .int t), (1, .ref A.1), (0, .ref b)] [.int (nI (hvy (wIn L S) (c + 1)))] 570 := by
    refine V_istore C 572 [(11, .int (nI (hvy (wIn L S) (c + 1)))), (20, .int t20), (19, .ref s.1), (18, .int (nI (wFav L S c))), (17, .int (nI (wIn L S c))), (16, .int (nI (cIn L S c))), (15, .int (nI (endCh S c - 1))), (14, .int (nI (S.getD c 0))), (13, .int (nI c)), (12, .int (nI (endCh S c - 1))), (10, .ref h), (9, .int (nI r)), (8, .int (nI m)), (7, .int (nI (wEar L))), (6, .int (nI (wRib L))), (5, .int (nI (nRib L))), (4, .int (nI S.length)), (3, .int (nI L.length)), (2, .int t), (1, .ref A.1), (0, .ref b)] dL_law_570 rfl (hlt 11 (by decide)) rfl ?_
    refine V_aload_n C 19 573 dL_law_572 rfl rfl ?_
    refine V_iload C 8 575 dL_law_573 rfl rfl ?_
    refine V_callXr C hBA hE ml_L_186 (pre := ([(h, aI g 60 f)] ++ (strW g s T.length fs))) (post := []) (wc := xW g (aS A q) (xS x sb)) (w1 := xW g (aS A q) (xS x sb)) (rv := some (.int (nI (cIn L S c)))) (as := [.int (nI c)]) (rest := []) (c_X3_heldPages (R := .inl ((nI (cIn L S c)), (xS x sb))) hst (q_held hb2 hc)) 3 578 ([(h, aI g 60 f)] ++ (strW g s T.length fs ++ (xW g (aS A q) (xS x sb) ++ []))) dL_law_575 rfl ⟨Nat.le_of_ble_eq_true rfl, Nat.le_of_ble_eq_true rfl⟩ rfl rfl rfl (xW_fst _ _ _ _) rfl rfl rfl (Nat.le_of_ble_eq_true rfl) ⟨by show cells + 0 ≤ 600516; omega, by show slots + 0 ≤ 7283748; omega⟩ ?_
    refine V_iload C 5 580 dL_law_578 rfl rfl ?_
    refine V_icmp_ne C 713 583 dL_law_580 rfl rfl (fun e => absurd rfl e) (fun _ => ?_)
    refine V_aload_n C 19 584 dL_law_583 rfl rfl ?_
    refine V_iload C 8 586 dL_law_584 rfl rfl ?_
    refine V_callXr C hBA hE ml_L_189 (pre := ([(h, aI g 60 f)] ++ (strW g s T.length fs))) (post := []) (wc := xW g (aS A q) (xS x sb)) (w1 := xW g (aS A q) (xS x sb)) (rv := some (.int (nI (cIn L S c)))) (as := [.int (nI c)]) (rest := []) (c_X3_heldPagesByMarks (R := .inl ((nI (cIn L S c)), (xS x sb))) hst (q_heldM hb2 hc)) 3 589 ([(h, aI g 60 f)] ++ (strW g s T.length fs ++ (xW g (aS A q) (xS x sb) ++ []))) dL_law_586 rfl ⟨Nat.le_of_ble_eq_true rfl, Nat.le_of_ble_eq_true rfl⟩ rfl rfl rfl (xW_fst _ _ _ _) rfl rfl rfl (Nat.le_of_ble_eq_true rfl) ⟨by show cells + 0 ≤ 600516; omega, by show slots + 0 ≤ 7283748; omega⟩ ?_
    refine V_iload C 5 591 dL_law_589 rfl rfl ?_
    refine V_icmp_ne C 713 594 dL_law_591 rfl rfl (fun e => absurd rfl e) (fun _ => ?_)
    refine V_aload_n C 19 595 dL_law_594 rfl rfl ?_
    refine V_iload C 8 597 dL_law_595 rfl rfl ?_
    refine V_callXr C hBA hE ml_L_183 (pre := ([(h, aI g 60 f)] ++ (strW g s T.length fs))) (post := []) (wc := xW g (aS A q) (xS x sb)) (w1 := xW g (aS A q) (xS x sb)) (rv := some (.int (nI (wIn L S c)))) (as := [.int (nI c)]) (rest := []) (c_X3_chapterWeight (R := .inl ((nI (wIn L S c)), (xS x sb))) hst (q_chW hb2 hc)) 3 600 ([(h, aI g 60 f)] ++ (strW g s T.length fs ++ (xW g (aS A q) (xS x sb) ++ []))) dL_law_597 rfl ⟨Nat.le_of_ble_eq_true rfl, Nat.le_of_ble_eq_true rfl⟩ rfl rfl rfl (xW_fst _ _ _ _) rfl rfl rfl (Nat.le_of_ble_eq_true rfl) ⟨by show cells + 0 ≤ 600516; omega, by show slots + 0 ≤ 7283748; omega⟩ ?_
    refine V_iload C 4 602 dL_law_600 rfl rfl ?_
    refine V_icmp_ne C 713 605 dL_law_602 rfl rfl (fun e => absurd rfl e) (fun _ => ?_)
    refine V_aload_n C 19 606 dL_law_605 rfl rfl ?_
    refine V_iload C 8 608 dL_law_606 rfl rfl ?_
    refine V_callXr C hBA hE ml_L_192 (pre := ([(h, aI g 60 f)] ++ (strW g s T.length fs))) (post := []) (wc := xW g (aS A q) (xS x sb)) (w1 := xW g (aS A q) (xS x sb)) (rv := some (.int (nI (wFav L S c)))) (as := [.int (nI c)]) (rest := []) (c_X3_weightInFavour (R := .inl ((nI (wFav L S c)), (xS x sb))) hst (q_fav hb2 hc)) 3 611 ([(h, aI g 60 f)] ++ (strW g s T.length fs ++ (xW g (aS A q) (xS x sb) ++ []))) dL_law_608 rfl ⟨Nat.le_of_ble_eq_true rfl, Nat.le_of_ble_eq_true rfl⟩ rfl rfl rfl (xW_fst _ _ _ _) rfl rfl rfl (Nat.le_of_ble_eq_true rfl) ⟨by show cells + 0 ≤ 600516; omega, by show slots + 0 ≤ 7283748; omega⟩ ?_
    refine V_iload C 3 613 dL_law_611 rfl rfl ?_
    refine V_icmp_ne C 713 616 dL_law_613 rfl rfl (fun e => absurd rfl e) (fun _ => ?_)
    refine V_aload_n C 19 617 dL_law_616 rfl rfl ?_
    refine V_iload C 8 619 dL_law_617 rfl rfl ?_
    refine V_callXr C hBA hE ml_L_195 (pre := ([(h, aI g 60 f)] ++ (strW g s T.length fs))) (post := []) (wc := xW g (aS A q) (xS x sb)) (w1 := xW g (aS A q) (xS x sb)) (rv := some (.int (nI (wAgn L S c)))) (as := [.int (nI c)]) (rest := []) (c_X3_weightAgainst (R := .inl ((nI (wAgn L S c)), (xS x sb))) hst (q_agn hb2 hc)) 3 622 ([(h, aI g 60 f)] ++ (strW g s T.length fs ++ (xW g (aS A q) (xS x sb) ++ []))) dL_law_619 rfl ⟨Nat.le_of_ble_eq_true rfl, Nat.le_of_ble_eq_true rfl⟩ rfl rfl rfl (xW_fst _ _ _ _) rfl rfl rfl (Nat.le_of_ble_eq_true rfl) ⟨by show cells + 0 ≤ 600516; omega, by show slots + 0 ≤ 7283748; omega⟩ ?_
    refine V_iload C 14 624 dL_law_622 rfl rfl ?_
    refine V_iload C 13 626 dL_law_624 rfl rfl ?_
    refine V_iadd C 627 dL_law_626 rfl ?_
    refine V_iload C 3 629 dL_law_627 rfl rfl ?_
    refine V_isub C 630 dL_law_629 rfl ?_
    refine V_st (st2 := [.int (nI (wAgn L S c)), .int (nI (wAgn L S c))]) (by rw [e10, e11] <;> rfl) ?_
    refine V_icmp_ne C 713 633 dL_law_630 rfl rfl (fun e => absurd rfl e) (fun _ => ?_)
    refine V_aload_n C 19 634 dL_law_633 rfl rfl ?_
    refine V_iload C 8 636 dL_law_634 rfl rfl ?_
    refine V_callXr C hBA hE ml_L_198 (pre := ([(h, aI g 60 f)] ++ (strW g s T.length fs))) (post := []) (wc := xW g (aS A q) (xS x sb)) (w1 := xW g (aS A q) (xS x sb)) (rv := some (.int (nI (wAgn L S c)))) (as := [.int (nI c)]) (rest := []) (c_X3_weightAgainstByTotal (R := .inl ((nI (wAgn L S c)), (xS x sb))) hst (q_agnT hb2 hc)) 3 639 ([(h, aI g 60 f)] ++ (strW g s T.length fs ++ (xW g (aS A q) (xS x sb) ++ []))) dL_law_636 rfl ⟨Nat.le_of_ble_eq_true rfl, Nat.le_of_ble_eq_true rfl⟩ rfl rfl rfl (xW_fst _ _ _ _) rfl rfl rfl (Nat.le_of_ble_eq_true rfl) ⟨by show cells + 0 ≤ 600516; omega, by show slots + 0 ≤ 7283748; omega⟩ ?_
    refine V_iload C 14 641 dL_law_639 rfl rfl ?_
    refine V_iload C 13 643 dL_law_641 rfl rfl ?_
    refine V_iadd C 644 dL_law_643 rfl ?_
    refine V_iload C 3 646 dL_law_644 rfl rfl ?_
    refine V_isub C 647 dL_law_646 rfl ?_
    refine V_st (st2 := [.int (nI (wAgn L S c)), .int (nI (wAgn L S c))]) (by rw [e10, e11] <;> rfl) ?_
    refine V_icmp_ne C 713 650 dL_law_647 rfl rfl (fun e => absurd rfl e) (fun _ => ?_)
    refine V_aload_n C 19 651 dL_law_650 rfl rfl ?_
    refine V_iload C 8 653 dL_law_651 rfl rfl ?_
    refine V_callXr C hBA hE ml_L_201 (pre := ([(h, aI g 60 f)] ++ (strW g s T.length fs))) (post := []) (wc := xW g (aS A q) (xS x sb)) (w1 := xW g (aS A q) (xS x sb)) (rv := some (.int (b2 (decide (wAgn L S c < wFav L S c))))) (as := [.int (nI c)]) (rest := []) (c_X3_wouldDissolve (R := .inl ((b2 (decide (wAgn L S c < wFav L S c))), (xS x sb))) hst (q_diss hb2 hc)) 3 656 ([(h, aI g 60 f)] ++ (strW g s T.length fs ++ (xW g (aS A q) (xS x sb) ++ []))) dL_law_653 rfl ⟨Nat.le_of_ble_eq_true rfl, Nat.le_of_ble_eq_true rfl⟩ rfl rfl rfl (xW_fst _ _ _ _) rfl rfl rfl (Nat.le_of_ble_eq_true rfl) ⟨by show cells + 0 ≤ 600516; omega, by show slots + 0 ≤ 7283748; omega⟩ ?_
    refine V_iconst C (2 : Int32) 657 dL_law_656 rfl rfl ?_
    refine V_iload C 3 659 dL_law_657 rfl rfl ?_
    refine V_imul C 660 dL_law_659 rfl ?_
    refine V_iload C 14 662 dL_law_660 rfl rfl ?_
    refine V_iload C 13 664 dL_law_662 rfl rfl ?_
    refine V_iadd C 665 dL_law_664 rfl ?_
    refine V_st (st2 := [.int (nI (wFav L S c + wAgn L S c)), .int ((2 : Int32) * (nI (wFav L S c))), .int (b2 (decide (wAgn L S c < wFav L S c)))]) (by rw [e10] <;> rfl) ?_
    refine V_st (st2 := [.int (nI (wFav L S c + wAgn L S c)), .int (nI (2 * wFav L S c)), .int (b2 (decide (wAgn L S c < wFav L S c)))]) (by rw [e9] <;> rfl) ?_
    by_cases hd : wAgn L S c < wFav L S c
    · refine V_icmp_le C 672 668 dL_law_665 rfl rfl (fun e => absurd e (show ¬ nI (2 * wFav L S c) ≤ nI (wFav L S c + wAgn L S c) from w_nle (by omega))) (fun _ => ?_)
      refine V_iconst C (1 : Int32) 669 dL_law_668 rfl rfl ?_
      refine V_goto C 673 dL_law_669 rfl ?_
      refine V_icmp_ne C 713 676 dL_law_673 rfl rfl (fun e => absurd (show b2 (decide (wAgn L S c < wFav L S c)) = 1 from by rw [decide_eq_true hd]; rfl) e) (fun _ => ?_)
      refine V_lv [1, 2, 3, 4, 5, 6, 7, 8, 9, 0, 10, 11, 12, 13, 14, 15, 16, 17, 18, 19, 20] (lv' := [(20, .int t20), (19, .ref s.1), (18, .int (nI (wFav L S c))), (17, .int (nI (wIn L S c))), (16, .int (nI (cIn L S c))), (15, .int (nI (endCh S c - 1))), (14, .int (nI (S.getD c 0))), (13, .int (nI c)), (12, .int (nI (endCh S c - 1))), (11, .int (nI (hvy (wIn L S) (c + 1)))), (10, .ref h), (9, .int (nI r)), (8, .int (nI m)), (7, .int (nI (wEar L))), (6, .int (nI (wRib L))), (5, .int (nI (nRib L))), (4, .int (nI S.length)), (3, .int (nI L.length)), (2, .int t), (1, .ref A.1), (0, .ref b)]) rfl ?_
      exact r676
    · refine V_icmp_le C 672 668 dL_law_665 rfl rfl (fun _ => ?_) (fun e => absurd (show nI (2 * wFav L S c) ≤ nI (wFav L S c + wAgn L S c) from w_le (by omega)) e)
      refine V_iconst C (0 : Int32) 673 dL_law_672 rfl rfl ?_
      refine V_icmp_ne C 713 676 dL_law_673 rfl rfl (fun e => absurd (show b2 (decide (wAgn L S c < wFav L S c)) = 0 from by rw [decide_eq_false hd]; rfl) e) (fun _ => ?_)
      refine V_lv [1, 2, 3, 4, 5, 6, 7, 8, 9, 0, 10, 11, 12, 13, 14, 15, 16, 17, 18, 19, 20] (lv' := [(20, .int t20), (19, .ref s.1), (18, .int (nI (wFav L S c))), (17, .int (nI (wIn L S c))), (16, .int (nI (cIn L S c))), (15, .int (nI (endCh S c - 1))), (14, .int (nI (S.getD c 0))), (13, .int (nI c)), (12, .int (nI (endCh S c - 1))), (11, .int (nI (hvy (wIn L S) (c + 1)))), (10, .ref h), (9, .int (nI r)), (8, .int (nI m)), (7, .int (nI (wEar L))), (6, .int (nI (wRib L))), (5, .int (nI (nRib L))), (4, .int (nI S.length)), (3, .int (nI L.length)), (2, .int t), (1, .ref A.1), (0, .ref b)]) rfl ?_
      exact r676
  refine V_iload C 3 554 dL_law_552 rfl rfl ?_
  refine V_aload_n C 19 555 dL_law_554 rfl rfl ?_
  refine V_iload C 9 557 dL_law_555 rfl rfl ?_
  refine V_callXr C hBA hE ml_L_183 (pre := ([(h, aI g 60 f)] ++ (strW g s T.length fs))) (post := []) (wc := xW g (aS A q) (xS x sb)) (w1 := xW g (aS A q) (xS x sb)) (rv := some (.int (nI (wIn L S (hvy (wIn L S) c))))) (as := [.int (nI (hvy (wIn L S) c))]) (rest := [.int (nI (wIn L S c))]) (c_X3_chapterWeight (R := .inl ((nI (wIn L S (hvy (wIn L S) c))), (xS x sb))) hst (q_chW hb2 (hvy_in (wIn L S) hc))) 3 560 ([(h, aI g 60 f)] ++ (strW g s T.length fs ++ (xW g (aS A q) (xS x sb) ++ []))) dL_law_557 rfl ⟨Nat.le_of_ble_eq_true rfl, Nat.le_of_ble_eq_true rfl⟩ rfl rfl rfl (xW_fst _ _ _ _) rfl rfl rfl (Nat.le_of_ble_eq_true rfl) ⟨by show cells + 0 ≤ 600516; omega, by show slots + 0 ≤ 7283748; omega⟩ ?_
  by_cases hw : wIn L S (hvy (wIn L S) c) < wIn L S c
  · refine V_icmp_le C 568 563 dL_law_560 rfl rfl (fun e => absurd e (show ¬ nI (wIn L S c) ≤ nI (wIn L S (hvy (wIn L S) c)) from w_nle hw)) (fun _ => ?_)
    refine V_iload C 7 565 dL_law_563 rfl rfl ?_
    refine V_goto C 570 dL_law_565 rfl ?_
    refine V_st (st2 := [.int (nI (hvy (wIn L S) (c + 1)))]) (by rw [hvy_next, if_pos hw] <;> rfl) ?_
    exact r570
  · refine V_icmp_le C 568 563 dL_law_560 rfl rfl (fun _ => ?_) (fun e => absurd (show nI (wIn L S c) ≤ nI (wIn L S (hvy (wIn L S) c)) from w_le (by omega)) e)
    refine V_iload C 9 570 dL_law_568 rfl rfl ?_
    refine V_st (st2 := [.int (nI (hvy (wIn L S) (c + 1)))]) (by rw [hvy_next, if_neg hw] <;> rfl) ?_
    exact r570
set_option maxRecDepth 8000 in
set_option maxHeartbeats 4000000 in
theorem law_C {K : KT} {g : G0} {A : XA} {x : XV} {L : List M5} {S : List Nat} {nid r b cells slots h m q : Nat} {f : Nat → Int32} {t : Int32} {sb : SbV} {U : List Nat} (Lk : LKx K g) (hb : BK x L S nid r) (hf : HF L f) (hr : cells + 5200 ≤ 600516 ∧ slots + 1190000 ≤ 7283748) (hU : SBT sb U) (ke : ∀ (q : Nat) (sb : SbV) (U : List Nat), SBT sb U → V K (cells + 4888) (slots + 1175856) ([(h, aI g 60 f)] ++ (xW g (aS A q) (xS x sb) ++ [])) [(10, .ref h), (9, .int (nI r)), (8, .int (nI m)), (7, .int (nI (wEar L))), (6, .int (nI (wRib L))), (5, .int (nI (nRib L))), (4, .int (nI S.length)), (3, .int (nI L.length)), (2, .int t), (1, .ref A.1), (0, .ref b)] [] 739) : V K cells slots ([(h, aI g 60 f)] ++ (xW g (aS A q) (xS x sb) ++ [])) [(10, .ref h), (9, .int (nI r)), (8, .int (nI m)), (7, .int (nI (wEar L))), (6, .int (nI (wRib L))), (5, .int (nI (nRib L))), (4, .int (nI S.length)), (3, .int (nI L.length)), (2, .int t), (1, .ref A.1), (0, .ref b)] [] 320 := by
  obtain ⟨C, hBA, hQ, hst, h23⟩ := id Lk
  have hlt : ∀ i, i < 23 → i < kn K := fun i h => by rw [h23]; exact h
  have hE := hQ.2.2.2.2.2
  have hN := hQ.sk.2.2.2.2
  obtain ⟨hr1, hr2⟩ := hr
  have hch := hb.chs
  have hS := hb.2.2.2.2.1
  have hlen := hb.len
  have loop : ∀ d c (q : Nat) (sb : SbV) (U : List Nat), c + d = S.length → SBT sb U → V K (cells + 611 * c) (slots + 146982 * c) ([(h, aI g 60 f)] ++ (xW g (aS A q) (xS x sb) ++ [])) [(13, .int (nI c)), (12, .int (nI (bg S c) - 1)), (11, .int (nI (hvy (wIn L S) c))), (10, .ref h), (9, .int (nI r)), (8, .int (nI m)), (7, .int (nI (wEar L))), (6, .int (nI (wRib L))), (5, .int (nI (nRib L))), (4, .int (nI S.length)), (3, .int (nI L.length)), (2, .int t), (1, .ref A.1), (0, .ref b)] [] 329 := by
    intro d
    induction d with
    | zero =>
      intro c q sb U hd hU
      obtain rfl : c = S.length := by omega
      have hb2 := hb.xS sb
      refine V_iload C 0 331 dL_law_329 rfl rfl ?_
      refine V_iload C 9 333 dL_law_331 rfl rfl ?_
      refine V_icmp_ge C 721 336 dL_law_333 rfl rfl (fun _ => ?_) (fun e => absurd (show nI S.length ≤ nI S.length from Int32.le_refl _) e)
      refine V_iload C 1 723 dL_law_721 rfl rfl ?_
      refine V_st (st2 := [.int (59 : Int32)]) (by rw [bg_n]; rfl) ?_
      refine V_bipush C (59 : Int32) 725 dL_law_723 rfl rfl ?_
      refine V_icmp_ne C 737 728 dL_law_725 rfl rfl (fun e => absurd rfl e) (fun _ => ?_)
      refine V_aload_n C 12 729 dL_law_728 rfl rfl ?_
      refine V_callP C ml_L_215 (pre := [(h, aI g 60 f)]) (post := []) (w := xW g (aS A q) (xS x sb)) (as := []) (rest := []) (c_X3_heaviestChapter (q_heavy hb2)) 1 732 dL_law_729 rfl ⟨Nat.le_of_ble_eq_true rfl, Nat.le_of_ble_eq_true rfl⟩ rfl rfl rfl rfl rfl (Nat.le_of_ble_eq_true rfl) ⟨by rw [C.2.2.2.2.2.2.1]; show cells + 611 * S.length ≤ 600516; omega, by rw [C.2.2.2.2.2.2.1]; show slots + 146982 * S.length ≤ 7283748; omega⟩ ?_
      refine V_iload C 2 734 dL_law_732 rfl rfl ?_
      refine V_icmp_eq C 739 737 dL_law_734 rfl rfl (fun _ => ?_) (fun e => absurd rfl e)
      refine V_lv [3, 4, 5, 6, 7, 8, 9, 10, 11, 12, 13] (lv' := [(10, .ref h), (9, .int (nI r)), (8, .int (nI m)), (7, .int (nI (wEar L))), (6, .int (nI (wRib L))), (5, .int (nI (nRib L))), (4, .int (nI S.length)), (3, .int (nI L.length)), (2, .int t), (1, .ref A.1), (0, .ref b)]) rfl ?_
      exact V_widen (by omega) (by omega) (ke q sb U hU)
    | succ d ih =>
      intro c q sb U hd hU
      have hc : c < S.length := by omega
      have e1 := endCh_gt hS hc
      have e3 : (endCh S c - 1) + 1 = endCh S c := by omega
      refine law_C1 Lk hb hc (by omega) (fun s1 fs1 hs1 => ?_)
      refine law_C2 Lk hb hf hc (by omega) hs1 (fun s2 fs2 hs2 => ?_)
      have x16 : (pre L (S.getD c 0) ((endCh S c - 1) + 1)).length = cIn L S c := by rw [e3, pre_all hb.2.2.1, len_filter]; rfl
      have x17 : ((pre L (S.getD c 0) ((endCh S c - 1) + 1)).map mWt).sum = wIn L S c := by rw [e3, pre_all hb.2.2.1, sum_filter]; rfl
      have x18 : wRib L - wRib (pre L (S.getD c 0) ((endCh S c - 1) + 1)) = wFav L S c := by rw [e3, pre_all hb.2.2.1]; have := fav_split (L := L) (S := S) c; omega
      have x19 : TX L (S.getD c 0) (endCh S c - 1) ((endCh S c - 1) + 1) = (L.foldl (markT fun z => inCh S c (mPg z)) (hdr (S.getD c 0) (endCh S c - 1))) := by rw [e3, TX_all hb.2.2.1]
      refine law_C3 Lk hb hc (by omega) x16 x17 x18 x19 hU hs2 (TX_len hlen _ _ _) (fun q3 sb3 U3 hU3 => ?_)
      exact V_widen (by omega) (by omega) (ih (c + 1) q3 sb3 U3 (by omega) hU3)
  refine V_iconst C (0 : Int32) 321 dL_law_320 rfl rfl ?_
  refine V_istore C 323 [(11, .int (0 : Int32)), (10, .ref h), (9, .int (nI r)), (8, .int (nI m)), (7, .int (nI (wEar L))), (6, .int (nI (wRib L))), (5, .int (nI (nRib L))), (4, .int (nI S.length)), (3, .int (nI L.length)), (2, .int t), (1, .ref A.1), (0, .ref b)] dL_law_321 rfl (hlt 11 (by decide)) rfl ?_
  refine V_iconst C (-1 : Int32) 324 dL_law_323 rfl rfl ?_
  refine V_istore C 326 [(12, .int (-1 : Int32)), (11, .int (0 : Int32)), (10, .ref h), (9, .int (nI r)), (8, .int (nI m)), (7, .int (nI (wEar L))), (6, .int (nI (wRib L))), (5, .int (nI (nRib L))), (4, .int (nI S.length)), (3, .int (nI L.length)), (2, .int t), (1, .ref A.1), (0, .ref b)] dL_law_324 rfl (hlt 12 (by decide)) rfl ?_
  refine V_iconst C (0 : Int32) 327 dL_law_326 rfl rfl ?_
  refine V_istore C 329 [(13, .int (0 : Int32)), (12, .int (-1 : Int32)), (11, .int (0 : Int32)), (10, .ref h), (9, .int (nI r)), (8, .int (nI m)), (7, .int (nI (wEar L))), (6, .int (nI (wRib L))), (5, .int (nI (nRib L))), (4, .int (nI S.length)), (3, .int (nI L.length)), (2, .int t), (1, .ref A.1), (0, .ref b)] dL_law_327 rfl (hlt 13 (by decide)) rfl ?_
  have k9 := loop S.length 0 q sb U (by omega) hU
  rw [show nI (bg S 0) - 1 = (-1 : Int32) from by rw [bg_0 hS]; rfl] at k9
  refine V_lv [0, 1, 2, 3, 4, 5, 6, 7, 8, 9, 10, 11, 12, 13] (lv' := [(13, .int (0 : Int32)), (12, .int (-1 : Int32)), (11, .int (0 : Int32)), (10, .ref h), (9, .int (nI r)), (8, .int (nI m)), (7, .int (nI (wEar L))), (6, .int (nI (wRib L))), (5, .int (nI (nRib L))), (4, .int (nI S.length)), (3, .int (nI L.length)), (2, .int t), (1, .ref A.1), (0, .ref b)]) rfl ?_
  exact k9
