/-! ===== the law: the seats ===== -/
set_option maxRecDepth 8000 in
set_option maxHeartbeats 4000000 in
theorem law_D1 {K : KT} {g : G0} {A : XA} {x : XV} {L : List M5} {S : List Nat} {nid r b cells slots h m q : Nat} {f : Nat → Int32} {t : Int32} {sb : SbV} (Lk : LKx K g) (hb : BK x L S nid r) (hm : MK L m) (hr : cells + 100 ≤ 600516 ∧ slots + 20000 ≤ 7283748) (ke : ∀ (s : Nat × Nat) (fs : Nat → Int32), ST fs (seatsT (uS L) 1) → V K (cells + 14) (slots + 2504) ([(h, aI g 60 f)] ++ (strW g s (seatsT (uS L) 1).length fs ++ (xW g (aS A q) (xS x sb) ++ []))) [(14, .int (nI 1)), (13, .ref s.1), (10, .ref h), (9, .int (nI r)), (8, .int (nI m)), (7, .int (nI (wEar L))), (6, .int (nI (wRib L))), (5, .int (nI (nRib L))), (4, .int (nI S.length)), (3, .int (nI L.length)), (2, .int t), (1, .ref A.1), (0, .ref b)] [] 746) : V K cells slots ([(h, aI g 60 f)] ++ (xW g (aS A q) (xS x sb) ++ [])) [(10, .ref h), (9, .int (nI r)), (8, .int (nI m)), (7, .int (nI (wEar L))), (6, .int (nI (wRib L))), (5, .int (nI (nRib L))), (4, .int (nI S.length)), (3, .int (nI L.length)), (2, .int t), (1, .ref A.1), (0, .ref b)] [] 739 := by
  obtain ⟨C, hBA, hQ, hst, h23⟩ := id Lk
  have hlt : ∀ i, i < 23 → i < kn K := fun i h => by rw [h23]; exact h
  have hE := hQ.2.2.2.2.2
  have hN := hQ.sk.2.2.2.2
  obtain ⟨hr1, hr2⟩ := hr
  have hb2 := hb.xS sb
  have hk5 : 0 < 5 := by decide
  refine V_ldcK C hQ (i := 4) (tx := "") 741 (by decide +kernel) dL_law_739 rfl ?_
  refine V_astore C 743 [(13, .ref (kK (kD K) 4)), (10, .ref h), (9, .int (nI r)), (8, .int (nI m)), (7, .int (nI (wEar L))), (6, .int (nI (wRib L))), (5, .int (nI (nRib L))), (4, .int (nI S.length)), (3, .int (nI L.length)), (2, .int t), (1, .ref A.1), (0, .ref b)] dL_law_741 rfl (hlt 13 (by decide)) rfl ?_
  refine V_iconst C (0 : Int32) 744 dL_law_743 rfl rfl ?_
  refine V_istore C 746 [(14, .int (0 : Int32)), (13, .ref (kK (kD K) 4)), (10, .ref h), (9, .int (nI r)), (8, .int (nI m)), (7, .int (nI (wEar L))), (6, .int (nI (wRib L))), (5, .int (nI (nRib L))), (4, .int (nI S.length)), (3, .int (nI L.length)), (2, .int t), (1, .ref A.1), (0, .ref b)] dL_law_744 rfl (hlt 14 (by decide)) rfl ?_
  by_cases hno : ∀ z ∈ L, mSt z ≠ 0 + 1
  · refine V_iload C 0 748 dL_law_746 rfl rfl ?_
    refine V_iconst C (5 : Int32) 749 dL_law_748 rfl rfl ?_
    refine V_icmp_ge C 866 752 dL_law_749 rfl rfl (fun e => absurd e (by decide)) (fun _ => ?_)
    refine V_aload_n C 11 753 dL_law_752 rfl rfl ?_
    refine V_iload C 0 755 dL_law_753 rfl rfl ?_
    have hbit : m.testBit 0 = false := by
      cases h9 : m.testBit 0 with
      | false => rfl
      | true =>
        obtain ⟨y, hy, e⟩ := (hm.2 0 hk5).mp h9
        exact absurd e (hno y hy)
    refine V_callH C hBA hQ hN lh_ribbonIn (pre := [(h, aI g 60 f)]) (w0 := xW g (aS A q) (xS x sb)) (post := []) (as := [.ref A.1, .int (0 : Int32)]) (rest := []) (wX_ribbonIn hst (q_ribbonIn0 (j := 0) hb2 hk5 hno)) dL_law_755 ⟨Nat.le_of_ble_eq_true rfl, Nat.le_of_ble_eq_true rfl⟩ rfl rfl rfl (Nat.le_of_ble_eq_true rfl) ⟨by show cells + 1 ≤ 600516; omega, by show slots + 6 ≤ 7283748; omega⟩ (fun rv w1 hP => ?_)
    obtain ⟨rfl, rfl⟩ := hP
    show V K (cells + 1) (slots + 6) ([(h, aI g 60 f)] ++ (xW g (aS A q) (xS x sb) ++ [])) [(14, .int (0 : Int32)), (13, .ref (kK (kD K) 4)), (10, .ref h), (9, .int (nI r)), (8, .int (nI m)), (7, .int (nI (wEar L))), (6, .int (nI (wRib L))), (5, .int (nI (nRib L))), (4, .int (nI S.length)), (3, .int (nI L.length)), (2, .int t), (1, .ref A.1), (0, .ref b)] [.int (-30000 : Int32)] 758
    refine V_istore C 760 [(15, .int (-30000 : Int32)), (14, .int (0 : Int32)), (13, .ref (kK (kD K) 4)), (10, .ref h), (9, .int (nI r)), (8, .int (nI m)), (7, .int (nI (wEar L))), (6, .int (nI (wRib L))), (5, .int (nI (nRib L))), (4, .int (nI S.length)), (3, .int (nI L.length)), (2, .int t), (1, .ref A.1), (0, .ref b)] dL_law_758 rfl (hlt 15 (by decide)) rfl ?_
    refine V_iload C 0 762 dL_law_760 rfl rfl ?_
    refine V_if_lt C 769 765 dL_law_762 rfl rfl (fun _ => ?_) (fun e => absurd (by decide) e)
    refine V_iconst C (0 : Int32) 770 dL_law_769 rfl rfl ?_
    refine V_iload C 5 772 dL_law_770 rfl rfl ?_
    refine V_iload C 1 774 dL_law_772 rfl rfl ?_
    refine V_ishr C 775 dL_law_774 rfl ?_
    refine V_iconst C (1 : Int32) 776 dL_law_775 rfl rfl ?_
    refine V_iand C 777 dL_law_776 rfl ?_
    have eb := hm.get (s := 0) hk5
    refine V_st (st2 := [.int (0 : Int32), .int (0 : Int32)]) (by rw [hbit] at eb; exact congrArg (fun q => [Value.int q, .int 0]) eb) ?_
    refine V_iconst C (1 : Int32) 778 dL_law_777 rfl rfl ?_
    refine V_icmp_ne C 785 781 dL_law_778 rfl rfl (fun _ => ?_) (fun e => absurd e (by decide))
    refine V_iconst C (0 : Int32) 786 dL_law_785 rfl rfl ?_
    refine V_icmp_eq C 791 789 dL_law_786 rfl rfl (fun _ => ?_) (fun e => absurd rfl e)
    refine V_sbN Lk dL_law_791 dL_law_794 dL_law_795 (Nat.le_of_ble_eq_true rfl) ⟨by show cells + 1 + 2 ≤ 600516; omega, by show slots + 6 + 20 ≤ 7283748; omega⟩ (fun o1 q1 => ?_)
    show V K (cells + 1 + 2) (slots + 6 + 20) ([(h, aI g 60 f)] ++ (sbG g o1 q1 16 (fun _ => 0) 0 ([] : List Nat) ++ (xW g (aS A q) (xS x sb) ++ []))) [(15, .int (-30000 : Int32)), (14, .int (0 : Int32)), (13, .ref (kK (kD K) 4)), (10, .ref h), (9, .int (nI r)), (8, .int (nI m)), (7, .int (nI (wEar L))), (6, .int (nI (wRib L))), (5, .int (nI (nRib L))), (4, .int (nI S.length)), (3, .int (nI L.length)), (2, .int t), (1, .ref A.1), (0, .ref b)] [.ref o1] 798
    refine V_aload C 2 800 dL_law_798 rfl rfl ?_
    refine V_sbK (i := 4) Lk GT.nil (by have := (show ([] : List Nat).length ≤ 0 from Nat.le_refl _); omega) (by decide) dL_law_800 (Nat.le_of_ble_eq_true rfl) ⟨by show cells + 1 + 2 + 1 ≤ 600516; omega, by show slots + 6 + 20 + 410 ≤ 7283748; omega⟩ (fun q2 cap2 f2 hg2 => ?_)
    have hl2 : (([] : List Nat) ++ ksT 4).length ≤ 2 := len_app (show ([] : List Nat).length ≤ 0 from Nat.le_refl _) (ks_le (by decide)) (Nat.le_refl _)
    show V K (cells + 1 + 2 + 1) (slots + 6 + 20 + 410) ([(h, aI g 60 f)] ++ (sbG g o1 q2 cap2 f2 0 (([] : List Nat) ++ ksT 4) ++ (xW g (aS A q) (xS x sb) ++ []))) [(15, .int (-30000 : Int32)), (14, .int (0 : Int32)), (13, .ref (kK (kD K) 4)), (10, .ref h), (9, .int (nI r)), (8, .int (nI m)), (7, .int (nI (wEar L))), (6, .int (nI (wRib L))), (5, .int (nI (nRib L))), (4, .int (nI S.length)), (3, .int (nI L.length)), (2, .int t), (1, .ref A.1), (0, .ref b)] [.ref o1] 803
    refine V_iload C 1 805 dL_law_803 rfl rfl ?_
    refine V_if_le C 813 808 dL_law_805 rfl rfl (fun _ => ?_) (fun e => absurd (by decide) e)
    refine V_ldcK C hQ (i := 4) (tx := "") 815 (by decide +kernel) dL_law_813 rfl ?_
    refine V_sbK (i := 4) Lk hg2 (by have := hl2; omega) (by decide) dL_law_815 (Nat.le_of_ble_eq_true rfl) ⟨by show cells + 1 + 2 + 1 + 1 ≤ 600516; omega, by show slots + 6 + 20 + 410 + 410 ≤ 7283748; omega⟩ (fun q3 cap3 f3 hg3 => ?_)
    have hl3 : ((([] : List Nat) ++ ksT 4) ++ ksT 4).length ≤ 4 := len_app hl2 (ks_le (by decide)) (Nat.le_refl _)
    show V K (cells + 1 + 2 + 1 + 1) (slots + 6 + 20 + 410 + 410) ([(h, aI g 60 f)] ++ (sbG g o1 q3 cap3 f3 0 ((([] : List Nat) ++ ksT 4) ++ ksT 4) ++ (xW g (aS A q) (xS x sb) ++ []))) [(15, .int (-30000 : Int32)), (14, .int (0 : Int32)), (13, .ref (kK (kD K) 4)), (10, .ref h), (9, .int (nI r)), (8, .int (nI m)), (7, .int (nI (wEar L))), (6, .int (nI (wRib L))), (5, .int (nI (nRib L))), (4, .int (nI S.length)), (3, .int (nI L.length)), (2, .int t), (1, .ref A.1), (0, .ref b)] [.ref o1] 818
    refine V_iload C 0 820 dL_law_818 rfl rfl ?_
    refine V_if_lt C 850 823 dL_law_820 rfl rfl (fun _ => ?_) (fun e => absurd (by decide) e)
    refine V_ldcK C hQ (i := 0) (tx := "-") 852 (by decide +kernel) dL_law_850 rfl ?_
    refine V_sbK (i := 0) Lk hg3 (by have := hl3; omega) (by decide) dL_law_852 (Nat.le_of_ble_eq_true rfl) ⟨by show cells + 1 + 2 + 1 + 1 + 1 ≤ 600516; omega, by show slots + 6 + 20 + 410 + 410 + 410 ≤ 7283748; omega⟩ (fun q4 cap4 f4 hg4 => ?_)
    have hl4 : (((([] : List Nat) ++ ksT 4) ++ ksT 4) ++ ksT 0).length ≤ 6 := len_app hl3 (ks_le (by decide)) (Nat.le_refl _)
    show V K (cells + 1 + 2 + 1 + 1 + 1) (slots + 6 + 20 + 410 + 410 + 410) ([(h, aI g 60 f)] ++ (sbG g o1 q4 cap4 f4 0 (((([] : List Nat) ++ ksT 4) ++ ksT 4) ++ ksT 0) ++ (xW g (aS A q) (xS x sb) ++ []))) [(15, .int (-30000 : Int32)), (14, .int (0 : Int32)), (13, .ref (kK (kD K) 4)), (10, .ref h), (9, .int (nI r)), (8, .int (nI m)), (7, .int (nI (wEar L))), (6, .int (nI (wRib L))), (5, .int (nI (nRib L))), (4, .int (nI S.length)), (3, .int (nI L.length)), (2, .int t), (1, .ref A.1), (0, .ref b)] [.ref o1] 855
    refine V_eq (ws2 := [(h, aI g 60 f)] ++ (sbG g o1 q4 cap4 f4 0 (((([] : List Nat) ++ ksT 4) ++ ksT 4) ++ ksT 0) ++ (([] : va_W) ++ (xW g (aS A q) (xS x sb) ++ [])))) rfl ?_
    refine V_sbT (Z := ([] : va_W)) (Y := (xW g (aS A q) (xS x sb) ++ [])) Lk hg4 dL_law_855 (by have := hl4; omega) (Nat.le_of_ble_eq_true rfl) ⟨by show cells + 1 + 2 + 1 + 1 + 1 + 2 ≤ 600516; omega, by show slots + 6 + 20 + 410 + 410 + 410 + 204 ≤ 7283748; omega⟩ (fun s5 fs5 hs5 => ?_)
    show V K (cells + 1 + 2 + 1 + 1 + 1 + 2) (slots + 6 + 20 + 410 + 410 + 410 + 204) ([(h, aI g 60 f)] ++ (strW g s5 (((([] : List Nat) ++ ksT 4) ++ ksT 4) ++ ksT 0).length fs5 ++ (xW g (aS A q) (xS x sb) ++ []))) [(15, .int (-30000 : Int32)), (14, .int (0 : Int32)), (13, .ref (kK (kD K) 4)), (10, .ref h), (9, .int (nI r)), (8, .int (nI m)), (7, .int (nI (wEar L))), (6, .int (nI (wRib L))), (5, .int (nI (nRib L))), (4, .int (nI S.length)), (3, .int (nI L.length)), (2, .int t), (1, .ref A.1), (0, .ref b)] [.ref s5.1] 858
    have e4 : (((([] : List Nat) ++ ksT 4) ++ ksT 4) ++ ksT 0) = seatsT (uS L) 1 := by
      show _ = [] ++ [] ++ uS L 0
      rw [uS_0 hno]
      rfl
    rw [e4] at hs5 ⊢
    refine V_astore C 860 [(13, .ref s5.1), (15, .int (-30000 : Int32)), (14, .int (0 : Int32)), (10, .ref h), (9, .int (nI r)), (8, .int (nI m)), (7, .int (nI (wEar L))), (6, .int (nI (wRib L))), (5, .int (nI (nRib L))), (4, .int (nI S.length)), (3, .int (nI L.length)), (2, .int t), (1, .ref A.1), (0, .ref b)] dL_law_858 rfl (hlt 13 (by decide)) rfl ?_
    refine V_lv [2, 0, 3, 4, 5, 6, 7, 8, 9, 10, 11, 12, 13] (lv' := [(14, .int (0 : Int32)), (13, .ref s5.1), (10, .ref h), (9, .int (nI r)), (8, .int (nI m)), (7, .int (nI (wEar L))), (6, .int (nI (wRib L))), (5, .int (nI (nRib L))), (4, .int (nI S.length)), (3, .int (nI L.length)), (2, .int t), (1, .ref A.1), (0, .ref b)]) rfl ?_
    refine V_iinc C 0 (nI 1) 863 [(14, .int (nI 1)), (13, .ref s5.1), (10, .ref h), (9, .int (nI r)), (8, .int (nI m)), (7, .int (nI (wEar L))), (6, .int (nI (wRib L))), (5, .int (nI (nRib L))), (4, .int (nI S.length)), (3, .int (nI L.length)), (2, .int t), (1, .ref A.1), (0, .ref b)] dL_law_860 rfl rfl rfl (hlt 14 (by decide)) rfl ?_
    refine V_goto C 746 dL_law_863 rfl ?_
    exact V_widen (by omega) (by omega) (ke s5 fs5 hs5)
  · obtain ⟨z, hz, hs⟩ : ∃ z ∈ L, mSt z = 0 + 1 := Classical.byContradiction fun q => hno fun z hz e => q ⟨z, hz, e⟩
    refine V_iload C 0 748 dL_law_746 rfl rfl ?_
    refine V_iconst C (5 : Int32) 749 dL_law_748 rfl rfl ?_
    refine V_icmp_ge C 866 752 dL_law_749 rfl rfl (fun e => absurd e (by decide)) (fun _ => ?_)
    refine V_aload_n C 11 753 dL_law_752 rfl rfl ?_
    refine V_iload C 0 755 dL_law_753 rfl rfl ?_
    have hbit : m.testBit 0 = true := (hm.2 0 hk5).mpr ⟨z, hz, hs⟩
    have hid := (hb.mk hz).1
    have hpg := (hb.mk hz).2.1
    refine V_callH C hBA hQ hN lh_ribbonIn (pre := [(h, aI g 60 f)]) (w0 := xW g (aS A q) (xS x sb)) (post := []) (as := [.ref A.1, .int (0 : Int32)]) (rest := []) (w_ribbonIn hst (q_ribbonIn1 (j := 0) hb2 hz hk5 hs)) dL_law_755 ⟨Nat.le_of_ble_eq_true rfl, Nat.le_of_ble_eq_true rfl⟩ rfl rfl rfl (Nat.le_of_ble_eq_true rfl) ⟨by show cells + 1 ≤ 600516; omega, by show slots + 6 ≤ 7283748; omega⟩ (fun rv w1 hP => ?_)
    obtain ⟨rfl, rfl⟩ := hP
    show V K (cells + 1) (slots + 6) ([(h, aI g 60 f)] ++ (xW g (aS A q) (xS x sb) ++ [])) [(14, .int (0 : Int32)), (13, .ref (kK (kD K) 4)), (10, .ref h), (9, .int (nI r)), (8, .int (nI m)), (7, .int (nI (wEar L))), (6, .int (nI (wRib L))), (5, .int (nI (nRib L))), (4, .int (nI S.length)), (3, .int (nI L.length)), (2, .int t), (1, .ref A.1), (0, .ref b)] [.int (nI (mId z))] 758
    refine V_istore C 760 [(15, .int (nI (mId z))), (14, .int (0 : Int32)), (13, .ref (kK (kD K) 4)), (10, .ref h), (9, .int (nI r)), (8, .int (nI m)), (7, .int (nI (wEar L))), (6, .int (nI (wRib L))), (5, .int (nI (nRib L))), (4, .int (nI S.length)), (3, .int (nI L.length)), (2, .int t), (1, .ref A.1), (0, .ref b)] dL_law_758 rfl (hlt 15 (by decide)) rfl ?_
    refine V_iload C 0 762 dL_law_760 rfl rfl ?_
    refine V_if_lt C 769 765 dL_law_762 rfl rfl (fun e => absurd e (nI_pos (by omega))) (fun _ => ?_)
    refine V_iconst C (1 : Int32) 766 dL_law_765 rfl rfl ?_
    refine V_goto C 770 dL_law_766 rfl ?_
    refine V_iload C 5 772 dL_law_770 rfl rfl ?_
    refine V_iload C 1 774 dL_law_772 rfl rfl ?_
    refine V_ishr C 775 dL_law_774 rfl ?_
    refine V_iconst C (1 : Int32) 776 dL_law_775 rfl rfl ?_
    refine V_iand C 777 dL_law_776 rfl ?_
    have eb := hm.get (s := 0) hk5
    refine V_st (st2 := [.int (1 : Int32), .int (1 : Int32)]) (by rw [hbit] at eb; exact congrArg (fun q => [Value.int q, .int 1]) eb) ?_
    refine V_iconst C (1 : Int32) 778 dL_law_777 rfl rfl ?_
    refine V_icmp_ne C 785 781 dL_law_778 rfl rfl (fun e => absurd rfl e) (fun _ => ?_)
    refine V_iconst C (1 : Int32) 782 dL_law_781 rfl rfl ?_
    refine V_goto C 786 dL_law_782 rfl ?_
    refine V_icmp_eq C 791 789 dL_law_786 rfl rfl (fun _ => ?_) (fun e => absurd rfl e)
    refine V_sbN Lk dL_law_791 dL_law_794 dL_law_795 (Nat.le_of_ble_eq_true rfl) ⟨by show cells + 1 + 2 ≤ 600516; omega, by show slots + 6 + 20 ≤ 7283748; omega⟩ (fun o1 q1 => ?_)
    show V K (cells + 1 + 2) (slots + 6 + 20) ([(h, aI g 60 f)] ++ (sbG g o1 q1 16 (fun _ => 0) 0 ([] : List Nat) ++ (xW g (aS A q) (xS x sb) ++ []))) [(15, .int (nI (mId z))), (14, .int (0 : Int32)), (13, .ref (kK (kD K) 4)), (10, .ref h), (9, .int (nI r)), (8, .int (nI m)), (7, .int (nI (wEar L))), (6, .int (nI (wRib L))), (5, .int (nI (nRib L))), (4, .int (nI S.length)), (3, .int (nI L.length)), (2, .int t), (1, .ref A.1), (0, .ref b)] [.ref o1] 798
    refine V_aload C 2 800 dL_law_798 rfl rfl ?_
    refine V_sbK (i := 4) Lk GT.nil (by have := (show ([] : List Nat).length ≤ 0 from Nat.le_refl _); omega) (by decide) dL_law_800 (Nat.le_of_ble_eq_true rfl) ⟨by show cells + 1 + 2 + 1 ≤ 600516; omega, by show slots + 6 + 20 + 410 ≤ 7283748; omega⟩ (fun q2 cap2 f2 hg2 => ?_)
    have hl2 : (([] : List Nat) ++ ksT 4).length ≤ 2 := len_app (show ([] : List Nat).length ≤ 0 from Nat.le_refl _) (ks_le (by decide)) (Nat.le_refl _)
    show V K (cells + 1 + 2 + 1) (slots + 6 + 20 + 410) ([(h, aI g 60 f)] ++ (sbG g o1 q2 cap2 f2 0 (([] : List Nat) ++ ksT 4) ++ (xW g (aS A q) (xS x sb) ++ []))) [(15, .int (nI (mId z))), (14, .int (0 : Int32)), (13, .ref (kK (kD K) 4)), (10, .ref h), (9, .int (nI r)), (8, .int (nI m)), (7, .int (nI (wEar L))), (6, .int (nI (wRib L))), (5, .int (nI (nRib L))), (4, .int (nI S.length)), (3, .int (nI L.length)), (2, .int t), (1, .ref A.1), (0, .ref b)] [.ref o1] 803
    refine V_iload C 1 805 dL_law_803 rfl rfl ?_
    refine V_if_le C 813 808 dL_law_805 rfl rfl (fun _ => ?_) (fun e => absurd (by decide) e)
    refine V_ldcK C hQ (i := 4) (tx := "") 815 (by decide +kernel) dL_law_813 rfl ?_
    refine V_sbK (i := 4) Lk hg2 (by have := hl2; omega) (by decide) dL_law_815 (Nat.le_of_ble_eq_true rfl) ⟨by show cells + 1 + 2 + 1 + 1 ≤ 600516; omega, by show slots + 6 + 20 + 410 + 410 ≤ 7283748; omega⟩ (fun q3 cap3 f3 hg3 => ?_)
    have hl3 : ((([] : List Nat) ++ ksT 4) ++ ksT 4).length ≤ 4 := len_app hl2 (ks_le (by decide)) (Nat.le_refl _)
    show V K (cells + 1 + 2 + 1 + 1) (slots + 6 + 20 + 410 + 410) ([(h, aI g 60 f)] ++ (sbG g o1 q3 cap3 f3 0 ((([] : List Nat) ++ ksT 4) ++ ksT 4) ++ (xW g (aS A q) (xS x sb) ++ []))) [(15, .int (nI (mId z))), (14, .int (0 : Int32)), (13, .ref (kK (kD K) 4)), (10, .ref h), (9, .int (nI r)), (8, .int (nI m)), (7, .int (nI (wEar L))), (6, .int (nI (wRib L))), (5, .int (nI (nRib L))), (4, .int (nI S.length)), (3, .int (nI L.length)), (2, .int t), (1, .ref A.1), (0, .ref b)] [.ref o1] 818
    refine V_iload C 0 820 dL_law_818 rfl rfl ?_
    refine V_if_lt C 850 823 dL_law_820 rfl rfl (fun e => absurd e (nI_pos (by omega))) (fun _ => ?_)
    refine V_sbN Lk dL_law_823 dL_law_826 dL_law_827 (Nat.le_of_ble_eq_true rfl) ⟨by show cells + 1 + 2 + 1 + 1 + 2 ≤ 600516; omega, by show slots + 6 + 20 + 410 + 410 + 20 ≤ 7283748; omega⟩ (fun o4 q4 => ?_)
    show V K (cells + 1 + 2 + 1 + 1 + 2) (slots + 6 + 20 + 410 + 410 + 20) ([(h, aI g 60 f)] ++ (sbG g o4 q4 16 (fun _ => 0) 0 ([] : List Nat) ++ (sbG g o1 q3 cap3 f3 0 ((([] : List Nat) ++ ksT 4) ++ ksT 4) ++ (xW g (aS A q) (xS x sb) ++ [])))) [(15, .int (nI (mId z))), (14, .int (0 : Int32)), (13, .ref (kK (kD K) 4)), (10, .ref h), (9, .int (nI r)), (8, .int (nI m)), (7, .int (nI (wEar L))), (6, .int (nI (wRib L))), (5, .int (nI (nRib L))), (4, .int (nI S.length)), (3, .int (nI L.length)), (2, .int t), (1, .ref A.1), (0, .ref b)] [.ref o4, .ref o1] 830
    refine V_ldcK C hQ (i := 4) (tx := "") 832 (by decide +kernel) dL_law_830 rfl ?_
    refine V_sbK (i := 4) Lk GT.nil (by have := (show ([] : List Nat).length ≤ 0 from Nat.le_refl _); omega) (by decide) dL_law_832 (Nat.le_of_ble_eq_true rfl) ⟨by show cells + 1 + 2 + 1 + 1 + 2 + 1 ≤ 600516; omega, by show slots + 6 + 20 + 410 + 410 + 20 + 410 ≤ 7283748; omega⟩ (fun q5 cap5 f5 hg5 => ?_)
    have hl5 : (([] : List Nat) ++ ksT 4).length ≤ 2 := len_app (show ([] : List Nat).length ≤ 0 from Nat.le_refl _) (ks_le (by decide)) (Nat.le_refl _)
    show V K (cells + 1 + 2 + 1 + 1 + 2 + 1) (slots + 6 + 20 + 410 + 410 + 20 + 410) ([(h, aI g 60 f)] ++ (sbG g o4 q5 cap5 f5 0 (([] : List Nat) ++ ksT 4) ++ (sbG g o1 q3 cap3 f3 0 ((([] : List Nat) ++ ksT 4) ++ ksT 4) ++ (xW g (aS A q) (xS x sb) ++ [])))) [(15, .int (nI (mId z))), (14, .int (0 : Int32)), (13, .ref (kK (kD K) 4)), (10, .ref h), (9, .int (nI r)), (8, .int (nI m)), (7, .int (nI (wEar L))), (6, .int (nI (wRib L))), (5, .int (nI (nRib L))), (4, .int (nI S.length)), (3, .int (nI L.length)), (2, .int t), (1, .ref A.1), (0, .ref b)] [.ref o4, .ref o1] 835
    refine V_aload_n C 12 836 dL_law_835 rfl rfl ?_
    refine V_iload C 0 838 dL_law_836 rfl rfl ?_
    refine V_callXr C hBA hE ml_L_136 (pre := ([(h, aI g 60 f)] ++ (sbG g o4 q5 cap5 f5 0 (([] : List Nat) ++ ksT 4) ++ (sbG g o1 q3 cap3 f3 0 ((([] : List Nat) ++ ksT 4) ++ ksT 4))))) (post := []) (wc := xW g (aS A q) (xS x sb)) (w1 := xW g (aS A q) (xS x sb)) (rv := some (.int (nI (mPg z)))) (as := [.int (nI (mId z))]) (rest := [.ref o4, .ref o1]) (c_X3_pageOf (R := .inl ((nI (mPg z)), (xS x sb))) hst (q_pageOf hb2 hz)) 5 841 ([(h, aI g 60 f)] ++ (sbG g o4 q5 cap5 f5 0 (([] : List Nat) ++ ksT 4) ++ (sbG g o1 q3 cap3 f3 0 ((([] : List Nat) ++ ksT 4) ++ ksT 4) ++ (xW g (aS A q) (xS x sb) ++ [])))) dL_law_838 rfl ⟨Nat.le_of_ble_eq_true rfl, Nat.le_of_ble_eq_true rfl⟩ rfl rfl rfl (xW_fst _ _ _ _) rfl rfl rfl (Nat.le_of_ble_eq_true rfl) ⟨by show cells + 1 + 2 + 1 + 1 + 2 + 1 + 0 ≤ 600516; omega, by show slots + 6 + 20 + 410 + 410 + 20 + 410 + 0 ≤ 7283748; omega⟩ ?_
    refine V_sbI (v := (mPg z)) Lk hg5 (by have := hl5; omega) (by omega) dL_law_841 (Nat.le_of_ble_eq_true rfl) ⟨by show cells + 1 + 2 + 1 + 1 + 2 + 1 + 1 ≤ 600516; omega, by show slots + 6 + 20 + 410 + 410 + 20 + 410 + 410 ≤ 7283748; omega⟩ (fun q6 cap6 f6 hg6 => ?_)
    have hl6 : ((([] : List Nat) ++ ksT 4) ++ digs (mPg z)).length ≤ 4 := len_app hl5 (digs_le _) (Nat.le_refl _)
    show V K (cells + 1 + 2 + 1 + 1 + 2 + 1 + 1) (slots + 6 + 20 + 410 + 410 + 20 + 410 + 410) ([(h, aI g 60 f)] ++ (sbG g o4 q6 cap6 f6 0 ((([] : List Nat) ++ ksT 4) ++ digs (mPg z)) ++ (sbG g o1 q3 cap3 f3 0 ((([] : List Nat) ++ ksT 4) ++ ksT 4) ++ (xW g (aS A q) (xS x sb) ++ [])))) [(15, .int (nI (mId z))), (14, .int (0 : Int32)), (13, .ref (kK (kD K) 4)), (10, .ref h), (9, .int (nI r)), (8, .int (nI m)), (7, .int (nI (wEar L))), (6, .int (nI (wRib L))), (5, .int (nI (nRib L))), (4, .int (nI S.length)), (3, .int (nI L.length)), (2, .int t), (1, .ref A.1), (0, .ref b)] [.ref o4, .ref o1] 844
    refine V_eq (ws2 := [(h, aI g 60 f)] ++ (sbG g o4 q6 cap6 f6 0 ((([] : List Nat) ++ ksT 4) ++ digs (mPg z)) ++ (([] : va_W) ++ (sbG g o1 q3 cap3 f3 0 ((([] : List Nat) ++ ksT 4) ++ ksT 4) ++ (xW g (aS A q) (xS x sb) ++ []))))) rfl ?_
    refine V_sbT (Z := ([] : va_W)) (Y := (sbG g o1 q3 cap3 f3 0 ((([] : List Nat) ++ ksT 4) ++ ksT 4) ++ (xW g (aS A q) (xS x sb) ++ []))) Lk hg6 dL_law_844 (by have := hl6; omega) (Nat.le_of_ble_eq_true rfl) ⟨by show cells + 1 + 2 + 1 + 1 + 2 + 1 + 1 + 2 ≤ 600516; omega, by show slots + 6 + 20 + 410 + 410 + 20 + 410 + 410 + 204 ≤ 7283748; omega⟩ (fun s7 fs7 hs7 => ?_)
    show V K (cells + 1 + 2 + 1 + 1 + 2 + 1 + 1 + 2) (slots + 6 + 20 + 410 + 410 + 20 + 410 + 410 + 204) ([(h, aI g 60 f)] ++ (strW g s7 ((([] : List Nat) ++ ksT 4) ++ digs (mPg z)).length fs7 ++ (sbG g o1 q3 cap3 f3 0 ((([] : List Nat) ++ ksT 4) ++ ksT 4) ++ (xW g (aS A q) (xS x sb) ++ [])))) [(15, .int (nI (mId z))), (14, .int (0 : Int32)), (13, .ref (kK (kD K) 4)), (10, .ref h), (9, .int (nI r)), (8, .int (nI m)), (7, .int (nI (wEar L))), (6, .int (nI (wRib L))), (5, .int (nI (nRib L))), (4, .int (nI S.length)), (3, .int (nI L.length)), (2, .int t), (1, .ref A.1), (0, .ref b)] [.ref s7.1, .ref o1] 847
    refine V_goto C 852 dL_law_847 rfl ?_
    refine V_swap (a := sbG g o1 q3 cap3 f3 0 ((([] : List Nat) ++ ksT 4) ++ ksT 4)) (b := strW g s7 ((([] : List Nat) ++ ksT 4) ++ digs (mPg z)).length fs7) ?_
    show V K (cells + 1 + 2 + 1 + 1 + 2 + 1 + 1 + 2) (slots + 6 + 20 + 410 + 410 + 20 + 410 + 410 + 204) ([(h, aI g 60 f)] ++ (sbG g o1 q3 cap3 f3 0 ((([] : List Nat) ++ ksT 4) ++ ksT 4) ++ (strW g s7 ((([] : List Nat) ++ ksT 4) ++ digs (mPg z)).length fs7 ++ (xW g (aS A q) (xS x sb) ++ [])))) [(15, .int (nI (mId z))), (14, .int (0 : Int32)), (13, .ref (kK (kD K) 4)), (10, .ref h), (9, .int (nI r)), (8, .int (nI m)), (7, .int (nI (wEar L))), (6, .int (nI (wRib L))), (5, .int (nI (nRib L))), (4, .int (nI S.length)), (3, .int (nI L.length)), (2, .int t), (1, .ref A.1), (0, .ref b)] [.ref s7.1, .ref o1] 852
    refine V_sbS (s := s7) (U := ((([] : List Nat) ++ ksT 4) ++ digs (mPg z))) (fs := fs7) (Y := (xW g (aS A q) (xS x sb) ++ [])) Lk hg3 hs7 (by have := hl3; have := hl6; omega) dL_law_852 (Nat.le_of_ble_eq_true rfl) ⟨by show cells + 1 + 2 + 1 + 1 + 2 + 1 + 1 + 2 + 1 ≤ 600516; omega, by show slots + 6 + 20 + 410 + 410 + 20 + 410 + 410 + 204 + 410 ≤ 7283748; omega⟩ (fun q8 cap8 f8 hg8 => ?_)
    have hl8 : (((([] : List Nat) ++ ksT 4) ++ ksT 4) ++ ((([] : List Nat) ++ ksT 4) ++ digs (mPg z))).length ≤ 8 := len_app hl3 hl6 (Nat.le_refl _)
    show V K (cells + 1 + 2 + 1 + 1 + 2 + 1 + 1 + 2 + 1) (slots + 6 + 20 + 410 + 410 + 20 + 410 + 410 + 204 + 410) ([(h, aI g 60 f)] ++ (sbG g o1 q8 cap8 f8 0 (((([] : List Nat) ++ ksT 4) ++ ksT 4) ++ ((([] : List Nat) ++ ksT 4) ++ digs (mPg z))) ++ (strW g s7 ((([] : List Nat) ++ ksT 4) ++ digs (mPg z)).length fs7 ++ (xW g (aS A q) (xS x sb) ++ [])))) [(15, .int (nI (mId z))), (14, .int (0 : Int32)), (13, .ref (kK (kD K) 4)), (10, .ref h), (9, .int (nI r)), (8, .int (nI m)), (7, .int (nI (wEar L))), (6, .int (nI (wRib L))), (5, .int (nI (nRib L))), (4, .int (nI S.length)), (3, .int (nI L.length)), (2, .int t), (1, .ref A.1), (0, .ref b)] [.ref o1] 855
    refine V_sbT (Z := strW g s7 ((([] : List Nat) ++ ksT 4) ++ digs (mPg z)).length fs7) (Y := (xW g (aS A q) (xS x sb) ++ [])) Lk hg8 dL_law_855 (by have := hl8; omega) (Nat.le_of_ble_eq_true rfl) ⟨by show cells + 1 + 2 + 1 + 1 + 2 + 1 + 1 + 2 + 1 + 2 ≤ 600516; omega, by show slots + 6 + 20 + 410 + 410 + 20 + 410 + 410 + 204 + 410 + 204 ≤ 7283748; omega⟩ (fun s9 fs9 hs9 => ?_)
    show V K (cells + 1 + 2 + 1 + 1 + 2 + 1 + 1 + 2 + 1 + 2) (slots + 6 + 20 + 410 + 410 + 20 + 410 + 410 + 204 + 410 + 204) ([(h, aI g 60 f)] ++ (strW g s9 (((([] : List Nat) ++ ksT 4) ++ ksT 4) ++ ((([] : List Nat) ++ ksT 4) ++ digs (mPg z))).length fs9 ++ (xW g (aS A q) (xS x sb) ++ []))) [(15, .int (nI (mId z))), (14, .int (0 : Int32)), (13, .ref (kK (kD K) 4)), (10, .ref h), (9, .int (nI r)), (8, .int (nI m)), (7, .int (nI (wEar L))), (6, .int (nI (wRib L))), (5, .int (nI (nRib L))), (4, .int (nI S.length)), (3, .int (nI L.length)), (2, .int t), (1, .ref A.1), (0, .ref b)] [.ref s9.1] 858
    have e4 : (((([] : List Nat) ++ ksT 4) ++ ksT 4) ++ ((([] : List Nat) ++ ksT 4) ++ digs (mPg z))) = seatsT (uS L) 1 := by
      show _ = [] ++ [] ++ uS L 0
      rw [uS_1 hb hz hs]
      rfl
    rw [e4] at hs9 ⊢
    refine V_astore C 860 [(13, .ref s9.1), (15, .int (nI (mId z))), (14, .int (0 : Int32)), (10, .ref h), (9, .int (nI r)), (8, .int (nI m)), (7, .int (nI (wEar L))), (6, .int (nI (wRib L))), (5, .int (nI (nRib L))), (4, .int (nI S.length)), (3, .int (nI L.length)), (2, .int t), (1, .ref A.1), (0, .ref b)] dL_law_858 rfl (hlt 13 (by decide)) rfl ?_
    refine V_lv [2, 0, 3, 4, 5, 6, 7, 8, 9, 10, 11, 12, 13] (lv' := [(14, .int (0 : Int32)), (13, .ref s9.1), (10, .ref h), (9, .int (nI r)), (8, .int (nI m)), (7, .int (nI (wEar L))), (6, .int (nI (wRib L))), (5, .int (nI (nRib L))), (4, .int (nI S.length)), (3, .int (nI L.length)), (2, .int t), (1, .ref A.1), (0, .ref b)]) rfl ?_
    refine V_iinc C 0 (nI 1) 863 [(14, .int (nI 1)), (13, .ref s9.1), (10, .ref h), (9, .int (nI r)), (8, .int (nI m)), (7, .int (nI (wEar L))), (6, .int (nI (wRib L))), (5, .int (nI (nRib L))), (4, .int (nI S.length)), (3, .int (nI L.length)), (2, .int t), (1, .ref A.1), (0, .ref b)] dL_law_860 rfl rfl rfl (hlt 14 (by decide)) rfl ?_
    refine V_goto C 746 dL_law_863 rfl ?_
    exact V_widen (by omega) (by omega) (ke s9 fs9 hs9)
set_option maxRecDepth 8000 in
set_option maxHeartbeats 4000000 in
theorem law_D2 {K : KT} {g : G0} {A : XA} {x : XV} {L : List M5} {S : List Nat} {nid r b cells slots h m q : Nat} {f : Nat → Int32} {t : Int32} {sb : SbV} {s0 : Nat × Nat} {fs0 : Nat → Int32} (Lk : LKx K g) (hb : BK x L S nid r) (hm : MK L m) (hr : cells + 100 ≤ 600516 ∧ slots + 20000 ≤ 7283748) (hs0 : ST fs0 (seatsT (uS L) 1)) (ke : ∀ (s : Nat × Nat) (fs : Nat → Int32), ST fs (seatsT (uS L) 5) → V K (cells + 56) (slots + 10016) ([(h, aI g 60 f)] ++ (strW g s (seatsT (uS L) 5).length fs ++ (xW g (aS A q) (xS x sb) ++ []))) [(13, .ref s.1), (10, .ref h), (9, .int (nI r)), (8, .int (nI m)), (7, .int (nI (wEar L))), (6, .int (nI (wRib L))), (5, .int (nI (nRib L))), (4, .int (nI S.length)), (3, .int (nI L.length)), (2, .int t), (1, .ref A.1), (0, .ref b)] [] 866) : V K cells slots ([(h, aI g 60 f)] ++ (strW g s0 (seatsT (uS L) 1).length fs0 ++ (xW g (aS A q) (xS x sb) ++ []))) [(14, .int (nI 1)), (13, .ref s0.1), (10, .ref h), (9, .int (nI r)), (8, .int (nI m)), (7, .int (nI (wEar L))), (6, .int (nI (wRib L))), (5, .int (nI (nRib L))), (4, .int (nI S.length)), (3, .int (nI L.length)), (2, .int t), (1, .ref A.1), (0, .ref b)] [] 746 := by
  obtain ⟨C, hBA, hQ, hst, h23⟩ := id Lk
  have hlt : ∀ i, i < 23 → i < kn K := fun i h => by rw [h23]; exact h
  have hE := hQ.2.2.2.2.2
  have hN := hQ.sk.2.2.2.2
  obtain ⟨hr1, hr2⟩ := hr
  have hb2 := hb.xS sb
  have loop : ∀ d k (s : Nat × Nat) (fs : Nat → Int32), k + d = 5 → 1 ≤ k → ST fs (seatsT (uS L) k) → V K (cells + 14 * (k - 1)) (slots + 2504 * (k - 1)) ([(h, aI g 60 f)] ++ (strW g s (seatsT (uS L) k).length fs ++ (xW g (aS A q) (xS x sb) ++ []))) [(14, .int (nI k)), (13, .ref s.1), (10, .ref h), (9, .int (nI r)), (8, .int (nI m)), (7, .int (nI (wEar L))), (6, .int (nI (wRib L))), (5, .int (nI (nRib L))), (4, .int (nI S.length)), (3, .int (nI L.length)), (2, .int t), (1, .ref A.1), (0, .ref b)] [] 746 := by
    intro d
    induction d with
    | zero =>
      intro k s fs hd hk1 hs
      obtain rfl : k = 5 := by omega
      refine V_iload C 0 748 dL_law_746 rfl rfl ?_
      refine V_iconst C (5 : Int32) 749 dL_law_748 rfl rfl ?_
      refine V_icmp_ge C 866 752 dL_law_749 rfl rfl (fun _ => ?_) (fun e => absurd (show (5 : Int32) ≤ nI 5 from by decide) e)
      refine V_lv [1, 2, 3, 4, 5, 6, 7, 8, 9, 10, 11, 12] (lv' := [(13, .ref s.1), (10, .ref h), (9, .int (nI r)), (8, .int (nI m)), (7, .int (nI (wEar L))), (6, .int (nI (wRib L))), (5, .int (nI (nRib L))), (4, .int (nI S.length)), (3, .int (nI L.length)), (2, .int t), (1, .ref A.1), (0, .ref b)]) rfl ?_
      exact V_widen (by omega) (by omega) (ke s fs hs)
    | succ d ih =>
      intro k s fs hd hk1 hs
      have hk5 : k < 5 := by omega
      have hTl := uS_le hb (k := k) (by omega)
      by_cases hno : ∀ z ∈ L, mSt z ≠ k + 1
      · refine V_iload C 0 748 dL_law_746 rfl rfl ?_
        refine V_iconst C (5 : Int32) 749 dL_law_748 rfl rfl ?_
        refine V_icmp_ge C 866 752 dL_law_749 rfl rfl (fun e => absurd e (show ¬ (5 : Int32) ≤ nI k from w_nle (a := 5) (by omega))) (fun _ => ?_)
        refine V_aload_n C 11 753 dL_law_752 rfl rfl ?_
        refine V_iload C 0 755 dL_law_753 rfl rfl ?_
        have hbit : m.testBit k = false := by
          cases h9 : m.testBit k with
          | false => rfl
          | true =>
            obtain ⟨y, hy, e⟩ := (hm.2 k hk5).mp h9
            exact absurd e (hno y hy)
        refine V_callH C hBA hQ hN lh_ribbonIn (pre := ([(h, aI g 60 f)] ++ (strW g s (seatsT (uS L) k).length fs))) (w0 := xW g (aS A q) (xS x sb)) (post := []) (as := [.ref A.1, .int (nI k)]) (rest := []) (wX_ribbonIn hst (q_ribbonIn0 (j := k) hb2 hk5 hno)) dL_law_755 ⟨Nat.le_of_ble_eq_true rfl, Nat.le_of_ble_eq_true rfl⟩ rfl rfl rfl (Nat.le_of_ble_eq_true rfl) ⟨by show cells + 14 * (k - 1) + 1 ≤ 600516; omega, by show slots + 2504 * (k - 1) + 6 ≤ 7283748; omega⟩ (fun rv w1 hP => ?_)
        obtain ⟨rfl, rfl⟩ := hP
        show V K (cells + 14 * (k - 1) + 1) (slots + 2504 * (k - 1) + 6) ([(h, aI g 60 f)] ++ (strW g s (seatsT (uS L) k).length fs ++ (xW g (aS A q) (xS x sb) ++ []))) [(14, .int (nI k)), (13, .ref s.1), (10, .ref h), (9, .int (nI r)), (8, .int (nI m)), (7, .int (nI (wEar L))), (6, .int (nI (wRib L))), (5, .int (nI (nRib L))), (4, .int (nI S.length)), (3, .int (nI L.length)), (2, .int t), (1, .ref A.1), (0, .ref b)] [.int (-30000 : Int32)] 758
        refine V_istore C 760 [(15, .int (-30000 : Int32)), (14, .int (nI k)), (13, .ref s.1), (10, .ref h), (9, .int (nI r)), (8, .int (nI m)), (7, .int (nI (wEar L))), (6, .int (nI (wRib L))), (5, .int (nI (nRib L))), (4, .int (nI S.length)), (3, .int (nI L.length)), (2, .int t), (1, .ref A.1), (0, .ref b)] dL_law_758 rfl (hlt 15 (by decide)) rfl ?_
        refine V_iload C 0 762 dL_law_760 rfl rfl ?_
        refine V_if_lt C 769 765 dL_law_762 rfl rfl (fun _ => ?_) (fun e => absurd (by decide) e)
        refine V_iconst C (0 : Int32) 770 dL_law_769 rfl rfl ?_
        refine V_iload C 5 772 dL_law_770 rfl rfl ?_
        refine V_iload C 1 774 dL_law_772 rfl rfl ?_
        refine V_ishr C 775 dL_law_774 rfl ?_
        refine V_iconst C (1 : Int32) 776 dL_law_775 rfl rfl ?_
        refine V_iand C 777 dL_law_776 rfl ?_
        have eb := hm.get (s := k) hk5
        refine V_st (st2 := [.int (0 : Int32), .int (0 : Int32)]) (by rw [hbit] at eb; exact congrArg (fun q => [Value.int q, .int 0]) eb) ?_
        refine V_iconst C (1 : Int32) 778 dL_law_777 rfl rfl ?_
        refine V_icmp_ne C 785 781 dL_law_778 rfl rfl (fun _ => ?_) (fun e => absurd e (by decide))
        refine V_iconst C (0 : Int32) 786 dL_law_785 rfl rfl ?_
        refine V_icmp_eq C 791 789 dL_law_786 rfl rfl (fun _ => ?_) (fun e => absurd rfl e)
        refine V_sbN Lk dL_law_791 dL_law_794 dL_law_795 (Nat.le_of_ble_eq_true rfl) ⟨by show cells + 14 * (k - 1) + 1 + 2 ≤ 600516; omega, by show slots + 2504 * (k - 1) + 6 + 20 ≤ 7283748; omega⟩ (fun o1 q1 => ?_)
        show V K (cells + 14 * (k - 1) + 1 + 2) (slots + 2504 * (k - 1) + 6 + 20) ([(h, aI g 60 f)] ++ (sbG g o1 q1 16 (fun _ => 0) 0 ([] : List Nat) ++ (strW g s (seatsT (uS L) k).length fs ++ (xW g (aS A q) (xS x sb) ++ [])))) [(15, .int (-30000 : Int32)), (14, .int (nI k)), (13, .ref s.1), (10, .ref h), (9, .int (nI r)), (8, .int (nI m)), (7, .int (nI (wEar L))), (6, .int (nI (wRib L))), (5, .int (nI (nRib L))), (4, .int (nI S.length)), (3, .int (nI L.length)), (2, .int t), (1, .ref A.1), (0, .ref b)] [.ref o1] 798
        refine V_aload C 2 800 dL_law_798 rfl rfl ?_
        refine V_sbS (s := s) (U := (seatsT (uS L) k)) (fs := fs) (Y := (xW g (aS A q) (xS x sb) ++ [])) Lk GT.nil hs (by have := (show ([] : List Nat).length ≤ 0 from Nat.le_refl _); have := hTl; omega) dL_law_800 (Nat.le_of_ble_eq_true rfl) ⟨by show cells + 14 * (k - 1) + 1 + 2 + 1 ≤ 600516; omega, by show slots + 2504 * (k - 1) + 6 + 20 + 410 ≤ 7283748; omega⟩ (fun q2 cap2 f2 hg2 => ?_)
        have hl2 : (([] : List Nat) ++ (seatsT (uS L) k)).length ≤ 15 := len_app (show ([] : List Nat).length ≤ 0 from Nat.le_refl _) hTl (Nat.le_refl _)
        show V K (cells + 14 * (k - 1) + 1 + 2 + 1) (slots + 2504 * (k - 1) + 6 + 20 + 410) ([(h, aI g 60 f)] ++ (sbG g o1 q2 cap2 f2 0 (([] : List Nat) ++ (seatsT (uS L) k)) ++ (strW g s (seatsT (uS L) k).length fs ++ (xW g (aS A q) (xS x sb) ++ [])))) [(15, .int (-30000 : Int32)), (14, .int (nI k)), (13, .ref s.1), (10, .ref h), (9, .int (nI r)), (8, .int (nI m)), (7, .int (nI (wEar L))), (6, .int (nI (wRib L))), (5, .int (nI (nRib L))), (4, .int (nI S.length)), (3, .int (nI L.length)), (2, .int t), (1, .ref A.1), (0, .ref b)] [.ref o1] 803
        refine V_iload C 1 805 dL_law_803 rfl rfl ?_
        refine V_if_le C 813 808 dL_law_805 rfl rfl (fun e => absurd e (fun e => absurd ((nI_le0 (by omega)).mp e) (by omega))) (fun _ => ?_)
        refine V_ldcK C hQ (i := 5) (tx := ",") 810 (by decide +kernel) dL_law_808 rfl ?_
        refine V_goto C 815 dL_law_810 rfl ?_
        refine V_sbK (i := 5) Lk hg2 (by have := hl2; omega) (by decide) dL_law_815 (Nat.le_of_ble_eq_true rfl) ⟨by show cells + 14 * (k - 1) + 1 + 2 + 1 + 1 ≤ 600516; omega, by show slots + 2504 * (k - 1) + 6 + 20 + 410 + 410 ≤ 7283748; omega⟩ (fun q3 cap3 f3 hg3 => ?_)
        have hl3 : ((([] : List Nat) ++ (seatsT (uS L) k)) ++ ksT 5).length ≤ 17 := len_app hl2 (ks_le (by decide)) (Nat.le_refl _)
        show V K (cells + 14 * (k - 1) + 1 + 2 + 1 + 1) (slots + 2504 * (k - 1) + 6 + 20 + 410 + 410) ([(h, aI g 60 f)] ++ (sbG g o1 q3 cap3 f3 0 ((([] : List Nat) ++ (seatsT (uS L) k)) ++ ksT 5) ++ (strW g s (seatsT (uS L) k).length fs ++ (xW g (aS A q) (xS x sb) ++ [])))) [(15, .int (-30000 : Int32)), (14, .int (nI k)), (13, .ref s.1), (10, .ref h), (9, .int (nI r)), (8, .int (nI m)), (7, .int (nI (wEar L))), (6, .int (nI (wRib L))), (5, .int (nI (nRib L))), (4, .int (nI S.length)), (3, .int (nI L.length)), (2, .int t), (1, .ref A.1), (0, .ref b)] [.ref o1] 818
        refine V_iload C 0 820 dL_law_818 rfl rfl ?_
        refine V_if_lt C 850 823 dL_law_820 rfl rfl (fun _ => ?_) (fun e => absurd (by decide) e)
        refine V_ldcK C hQ (i := 0) (tx := "-") 852 (by decide +kernel) dL_law_850 rfl ?_
        refine V_sbK (i := 0) Lk hg3 (by have := hl3; omega) (by decide) dL_law_852 (Nat.le_of_ble_eq_true rfl) ⟨by show cells + 14 * (k - 1) + 1 + 2 + 1 + 1 + 1 ≤ 600516; omega, by show slots + 2504 * (k - 1) + 6 + 20 + 410 + 410 + 410 ≤ 7283748; omega⟩ (fun q4 cap4 f4 hg4 => ?_)
        have hl4 : (((([] : List Nat) ++ (seatsT (uS L) k)) ++ ksT 5) ++ ksT 0).length ≤ 19 := len_app hl3 (ks_le (by decide)) (Nat.le_refl _)
        show V K (cells + 14 * (k - 1) + 1 + 2 + 1 + 1 + 1) (slots + 2504 * (k - 1) + 6 + 20 + 410 + 410 + 410) ([(h, aI g 60 f)] ++ (sbG g o1 q4 cap4 f4 0 (((([] : List Nat) ++ (seatsT (uS L) k)) ++ ksT 5) ++ ksT 0) ++ (strW g s (seatsT (uS L) k).length fs ++ (xW g (aS A q) (xS x sb) ++ [])))) [(15, .int (-30000 : Int32)), (14, .int (nI k)), (13, .ref s.1), (10, .ref h), (9, .int (nI r)), (8, .int (nI m)), (7, .int (nI (wEar L))), (6, .int (nI (wRib L))), (5, .int (nI (nRib L))), (4, .int (nI S.length)), (3, .int (nI L.length)), (2, .int t), (1, .ref A.1), (0, .ref b)] [.ref o1] 855
        refine V_sbT (Z := strW g s (seatsT (uS L) k).length fs) (Y := (xW g (aS A q) (xS x sb) ++ [])) Lk hg4 dL_law_855 (by have := hl4; omega) (Nat.le_of_ble_eq_true rfl) ⟨by show cells + 14 * (k - 1) + 1 + 2 + 1 + 1 + 1 + 2 ≤ 600516; omega, by show slots + 2504 * (k - 1) + 6 + 20 + 410 + 410 + 410 + 204 ≤ 7283748; omega⟩ (fun s5 fs5 hs5 => ?_)
        show V K (cells + 14 * (k - 1) + 1 + 2 + 1 + 1 + 1 + 2) (slots + 2504 * (k - 1) + 6 + 20 + 410 + 410 + 410 + 204) ([(h, aI g 60 f)] ++ (strW g s5 (((([] : List Nat) ++ (seatsT (uS L) k)) ++ ksT 5) ++ ksT 0).length fs5 ++ (xW g (aS A q) (xS x sb) ++ []))) [(15, .int (-30000 : Int32)), (14, .int (nI k)), (13, .ref s.1), (10, .ref h), (9, .int (nI r)), (8, .int (nI m)), (7, .int (nI (wEar L))), (6, .int (nI (wRib L))), (5, .int (nI (nRib L))), (4, .int (nI S.length)), (3, .int (nI L.length)), (2, .int t), (1, .ref A.1), (0, .ref b)] [.ref s5.1] 858
        have e4 : (((([] : List Nat) ++ (seatsT (uS L) k)) ++ ksT 5) ++ ksT 0) = seatsT (uS L) (k + 1) := by
          rw [seatsT, if_neg (show ¬ k = 0 by omega), uS_0 hno]
          rfl
        rw [e4] at hs5 ⊢
        refine V_astore C 860 [(13, .ref s5.1), (15, .int (-30000 : Int32)), (14, .int (nI k)), (10, .ref h), (9, .int (nI r)), (8, .int (nI m)), (7, .int (nI (wEar L))), (6, .int (nI (wRib L))), (5, .int (nI (nRib L))), (4, .int (nI S.length)), (3, .int (nI L.length)), (2, .int t), (1, .ref A.1), (0, .ref b)] dL_law_858 rfl (hlt 13 (by decide)) rfl ?_
        refine V_lv [2, 0, 3, 4, 5, 6, 7, 8, 9, 10, 11, 12, 13] (lv' := [(14, .int (nI k)), (13, .ref s5.1), (10, .ref h), (9, .int (nI r)), (8, .int (nI m)), (7, .int (nI (wEar L))), (6, .int (nI (wRib L))), (5, .int (nI (nRib L))), (4, .int (nI S.length)), (3, .int (nI L.length)), (2, .int t), (1, .ref A.1), (0, .ref b)]) rfl ?_
        refine V_iinc C 0 (nI (k + 1)) 863 [(14, .int (nI (k + 1))), (13, .ref s5.1), (10, .ref h), (9, .int (nI r)), (8, .int (nI m)), (7, .int (nI (wEar L))), (6, .int (nI (wRib L))), (5, .int (nI (nRib L))), (4, .int (nI S.length)), (3, .int (nI L.length)), (2, .int t), (1, .ref A.1), (0, .ref b)] dL_law_860 rfl rfl (nI_1 k) (hlt 14 (by decide)) rfl ?_
        refine V_goto C 746 dL_law_863 rfl ?_
        refine V_widen (c2 := cells + 14 * (k + 1 - 1)) (s2 := slots + 2504 * (k + 1 - 1)) (by omega) (by omega) ?_
        exact ih (k + 1) s5 fs5 (by omega) (by omega) hs5
      · obtain ⟨z, hz, hs2⟩ : ∃ z ∈ L, mSt z = k + 1 := Classical.byContradiction fun q => hno fun z hz e => q ⟨z, hz, e⟩
        refine V_iload C 0 748 dL_law_746 rfl rfl ?_
        refine V_iconst C (5 : Int32) 749 dL_law_748 rfl rfl ?_
        refine V_icmp_ge C 866 752 dL_law_749 rfl rfl (fun e => absurd e (show ¬ (5 : Int32) ≤ nI k from w_nle (a := 5) (by omega))) (fun _ => ?_)
        refine V_aload_n C 11 753 dL_law_752 rfl rfl ?_
        refine V_iload C 0 755 dL_law_753 rfl rfl ?_
        have hbit : m.testBit k = true := (hm.2 k hk5).mpr ⟨z, hz, hs2⟩
        have hid := (hb.mk hz).1
        have hpg := (hb.mk hz).2.1
        refine V_callH C hBA hQ hN lh_ribbonIn (pre := ([(h, aI g 60 f)] ++ (strW g s (seatsT (uS L) k).length fs))) (w0 := xW g (aS A q) (xS x sb)) (post := []) (as := [.ref A.1, .int (nI k)]) (rest := []) (w_ribbonIn hst (q_ribbonIn1 (j := k) hb2 hz hk5 hs2)) dL_law_755 ⟨Nat.le_of_ble_eq_true rfl, Nat.le_of_ble_eq_true rfl⟩ rfl rfl rfl (Nat.le_of_ble_eq_true rfl) ⟨by show cells + 14 * (k - 1) + 1 ≤ 600516; omega, by show slots + 2504 * (k - 1) + 6 ≤ 7283748; omega⟩ (fun rv w1 hP => ?_)
        obtain ⟨rfl, rfl⟩ := hP
        show V K (cells + 14 * (k - 1) + 1) (slots + 2504 * (k - 1) + 6) ([(h, aI g 60 f)] ++ (strW g s (seatsT (uS L) k).length fs ++ (xW g (aS A q) (xS x sb) ++ []))) [(14, .int (nI k)), (13, .ref s.1), (10, .ref h), (9, .int (nI r)), (8, .int (nI m)), (7, .int (nI (wEar L))), (6, .int (nI (wRib L))), (5, .int (nI (nRib L))), (4, .int (nI S.length)), (3, .int (nI L.length)), (2, .int t), (1, .ref A.1), (0, .ref b)] [.int (nI (mId z))] 758
        refine V_istore C 760 [(15, .int (nI (mId z))), (14, .int (nI k)), (13, .ref s.1), (10, .ref h), (9, .int (nI r)), (8, .int (nI m)), (7, .int (nI (wEar L))), (6, .int (nI (wRib L))), (5, .int (nI (nRib L))), (4, .int (nI S.length)), (3, .int (nI L.length)), (2, .int t), (1, .ref A.1), (0, .ref b)] dL_law_758 rfl (hlt 15 (by decide)) rfl ?_
        refine V_iload C 0 762 dL_law_760 rfl rfl ?_
        refine V_if_lt C 769 765 dL_law_762 rfl rfl (fun e => absurd e (nI_pos (by omega))) (fun _ => ?_)
        refine V_iconst C (1 : Int32) 766 dL_law_765 rfl rfl ?_
        refine V_goto C 770 dL_law_766 rfl ?_
        refine V_iload C 5 772 dL_law_770 rfl rfl ?_
        refine V_iload C 1 774 dL_law_772 rfl rfl ?_
        refine V_ishr C 775 dL_law_774 rfl ?_
        refine V_iconst C (1 : Int32) 776 dL_law_775 rfl rfl ?_
        refine V_iand C 777 dL_law_776 rfl ?_
        have eb := hm.get (s := k) hk5
        refine V_st (st2 := [.int (1 : Int32), .int (1 : Int32)]) (by rw [hbit] at eb; exact congrArg (fun q => [Value.int q, .int 1]) eb) ?_
        refine V_iconst C (1 : Int32) 778 dL_law_777 rfl rfl ?_
        refine V_icmp_ne C 785 781 dL_law_778 rfl rfl (fun e => absurd rfl e) (fun _ => ?_)
        refine V_iconst C (1 : Int32) 782 dL_law_781 rfl rfl ?_
        refine V_goto C 786 dL_law_782 rfl ?_
        refine V_icmp_eq C 791 789 dL_law_786 rfl rfl (fun _ => ?_) (fun e => absurd rfl e)
        refine V_sbN Lk dL_law_791 dL_law_794 dL_law_795 (Nat.le_of_ble_eq_true rfl) ⟨by show cells + 14 * (k - 1) + 1 + 2 ≤ 600516; omega, by show slots + 2504 * (k - 1) + 6 + 20 ≤ 7283748; omega⟩ (fun o1 q1 => ?_)
        show V K (cells + 14 * (k - 1) + 1 + 2) (slots + 2504 * (k - 1) + 6 + 20) ([(h, aI g 60 f)] ++ (sbG g o1 q1 16 (fun _ => 0) 0 ([] : List Nat) ++ (strW g s (seatsT (uS L) k).length fs ++ (xW g (aS A q) (xS x sb) ++ [])))) [(15, .int (nI (mId z))), (14, .int (nI k)), (13, .ref s.1), (10, .ref h), (9, .int (nI r)), (8, .int (nI m)), (7, .int (nI (wEar L))), (6, .int (nI (wRib L))), (5, .int (nI (nRib L))), (4, .int (nI S.length)), (3, .int (nI L.length)), (2, .int t), (1, .ref A.1), (0, .ref b)] [.ref o1] 798
        refine V_aload C 2 800 dL_law_798 rfl rfl ?_
        refine V_sbS (s := s) (U := (seatsT (uS L) k)) (fs := fs) (Y := (xW g (aS A q) (xS x sb) ++ [])) Lk GT.nil hs (by have := (show ([] : List Nat).length ≤ 0 from Nat.le_refl _); have := hTl; omega) dL_law_800 (Nat.le_of_ble_eq_true rfl) ⟨by show cells + 14 * (k - 1) + 1 + 2 + 1 ≤ 600516; omega, by show slots + 2504 * (k - 1) + 6 + 20 + 410 ≤ 7283748; omega⟩ (fun q2 cap2 f2 hg2 => ?_)
        have hl2 : (([] : List Nat) ++ (seatsT (uS L) k)).length ≤ 15 := len_app (show ([] : List Nat).length ≤ 0 from Nat.le_refl _) hTl (Nat.le_refl _)
        show V K (cells + 14 * (k - 1) + 1 + 2 + 1) (slots + 2504 * (k - 1) + 6 + 20 + 410) ([(h, aI g 60 f)] ++ (sbG g o1 q2 cap2 f2 0 (([] : List Nat) ++ (seatsT (uS L) k)) ++ (strW g s (seatsT (uS L) k).length fs ++ (xW g (aS A q) (xS x sb) ++ [])))) [(15, .int (nI (mId z))), (14, .int (nI k)), (13, .ref s.1), (10, .ref h), (9, .int (nI r)), (8, .int (nI m)), (7, .int (nI (wEar L))), (6, .int (nI (wRib L))), (5, .int (nI (nRib L))), (4, .int (nI S.length)), (3, .int (nI L.length)), (2, .int t), (1, .ref A.1), (0, .ref b)] [.ref o1] 803
        refine V_iload C 1 805 dL_law_803 rfl rfl ?_
        refine V_if_le C 813 808 dL_law_805 rfl rfl (fun e => absurd e (fun e => absurd ((nI_le0 (by omega)).mp e) (by omega))) (fun _ => ?_)
        refine V_ldcK C hQ (i := 5) (tx := ",") 810 (by decide +kernel) dL_law_808 rfl ?_
        refine V_goto C 815 dL_law_810 rfl ?_
        refine V_sbK (i := 5) Lk hg2 (by have := hl2; omega) (by decide) dL_law_815 (Nat.le_of_ble_eq_true rfl) ⟨by show cells + 14 * (k - 1) + 1 + 2 + 1 + 1 ≤ 600516; omega, by show slots + 2504 * (k - 1) + 6 + 20 + 410 + 410 ≤ 7283748; omega⟩ (fun q3 cap3 f3 hg3 => ?_)
        have hl3 : ((([] : List Nat) ++ (seatsT (uS L) k)) ++ ksT 5).length ≤ 17 := len_app hl2 (ks_le (by decide)) (Nat.le_refl _)
        show V K (cells + 14 * (k - 1) + 1 + 2 + 1 + 1) (slots + 2504 * (k - 1) + 6 + 20 + 410 + 410) ([(h, aI g 60 f)] ++ (sbG g o1 q3 cap3 f3 0 ((([] : List Nat) ++ (seatsT (uS L) k)) ++ ksT 5) ++ (strW g s (seatsT (uS L) k).length fs ++ (xW g (aS A q) (xS x sb) ++ [])))) [(15, .int (nI (mId z))), (14, .int (nI k)), (13, .ref s.1), (10, .ref h), (9, .int (nI r)), (8, .int (nI m)), (7, .int (nI (wEar L))), (6, .int (nI (wRib L))), (5, .int (nI (nRib L))), (4, .int (nI S.length)), (3, .int (nI L.length)), (2, .int t), (1, .ref A.1), (0, .ref b)] [.ref o1] 818
        refine V_iload C 0 820 dL_law_818 rfl rfl ?_
        refine V_if_lt C 850 823 dL_law_820 rfl rfl (fun e => absurd e (nI_pos (by omega))) (fun _ => ?_)
        refine V_sbN Lk dL_law_823 dL_law_826 dL_law_827 (Nat.le_of_ble_eq_true rfl) ⟨by show cells + 14 * (k - 1) + 1 + 2 + 1 + 1 + 2 ≤ 600516; omega, by show slots + 2504 * (k - 1) + 6 + 20 + 410 + 410 + 20 ≤ 7283748; omega⟩ (fun o4 q4 => ?_)
        show V K (cells + 14 * (k - 1) + 1 + 2 + 1 + 1 + 2) (slots + 2504 * (k - 1) + 6 + 20 + 410 + 410 + 20) ([(h, aI g 60 f)] ++ (sbG g o4 q4 16 (fun _ => 0) 0 ([] : List Nat) ++ (sbG g o1 q3 cap3 f3 0 ((([] : List Nat) ++ (seatsT (uS L) k)) ++ ksT 5) ++ (strW g s (seatsT (uS L) k).length fs ++ (xW g (aS A q) (xS x sb) ++ []))))) [(15, .int (nI (mId z))), (14, .int (nI k)), (13, .ref s.1), (10, .ref h), (9, .int (nI r)), (8, .int (nI m)), (7, .int (nI (wEar L))), (6, .int (nI (wRib L))), (5, .int (nI (nRib L))), (4, .int (nI S.length)), (3, .int (nI L.length)), (2, .int t), (1, .ref A.1), (0, .ref b)] [.ref o4, .ref o1] 830
        refine V_ldcK C hQ (i := 4) (tx := "") 832 (by decide +kernel) dL_law_830 rfl ?_
        refine V_sbK (i := 4) Lk GT.nil (by have := (show ([] : List Nat).length ≤ 0 from Nat.le_refl _); omega) (by decide) dL_law_832 (Nat.le_of_ble_eq_true rfl) ⟨by show cells + 14 * (k - 1) + 1 + 2 + 1 + 1 + 2 + 1 ≤ 600516; omega, by show slots + 2504 * (k - 1) + 6 + 20 + 410 + 410 + 20 + 410 ≤ 7283748; omega⟩ (fun q5 cap5 f5 hg5 => ?_)
        have hl5 : (([] : List Nat) ++ ksT 4).length ≤ 2 := len_app (show ([] : List Nat).length ≤ 0 from Nat.le_refl _) (ks_le (by decide)) (Nat.le_refl _)
        show V K (cells + 14 * (k - 1) + 1 + 2 + 1 + 1 + 2 + 1) (slots + 2504 * (k - 1) + 6 + 20 + 410 + 410 + 20 + 410) ([(h, aI g 60 f)] ++ (sbG g o4 q5 cap5 f5 0 (([] : List Nat) ++ ksT 4) ++ (sbG g o1 q3 cap3 f3 0 ((([] : List Nat) ++ (seatsT (uS L) k)) ++ ksT 5) ++ (strW g s (seatsT (uS L) k).length fs ++ (xW g (aS A q) (xS x sb) ++ []))))) [(15, .int (nI (mId z))), (14, .int (nI k)), (13, .ref s.1), (10, .ref h), (9, .int (nI r)), (8, .int (nI m)), (7, .int (nI (wEar L))), (6, .int (nI (wRib L))), (5, .int (nI (nRib L))), (4, .int (nI S.length)), (3, .int (nI L.length)), (2, .int t), (1, .ref A.1), (0, .ref b)] [.ref o4, .ref o1] 835
        refine V_aload_n C 12 836 dL_law_835 rfl rfl ?_
        refine V_iload C 0 838 dL_law_836 rfl rfl ?_
        refine V_callXr C hBA hE ml_L_136 (pre := ([(h, aI g 60 f)] ++ (sbG g o4 q5 cap5 f5 0 (([] : List Nat) ++ ksT 4) ++ (sbG g o1 q3 cap3 f3 0 ((([] : List Nat) ++ (seatsT (uS L) k)) ++ ksT 5) ++ (strW g s (seatsT (uS L) k).length fs))))) (post := []) (wc := xW g (aS A q) (xS x sb)) (w1 := xW g (aS A q) (xS x sb)) (rv := some (.int (nI (mPg z)))) (as := [.int (nI (mId z))]) (rest := [.ref o4, .ref o1]) (c_X3_pageOf (R := .inl ((nI (mPg z)), (xS x sb))) hst (q_pageOf hb2 hz)) 7 841 ([(h, aI g 60 f)] ++ (sbG g o4 q5 cap5 f5 0 (([] : List Nat) ++ ksT 4) ++ (sbG g o1 q3 cap3 f3 0 ((([] : List Nat) ++ (seatsT (uS L) k)) ++ ksT 5) ++ (strW g s (seatsT (uS L) k).length fs ++ (xW g (aS A q) (xS x sb) ++ []))))) dL_law_838 rfl ⟨Nat.le_of_ble_eq_true rfl, Nat.le_of_ble_eq_true rfl⟩ rfl rfl rfl (xW_fst _ _ _ _) rfl rfl rfl (Nat.le_of_ble_eq_true rfl) ⟨by show cells + 14 * (k - 1) + 1 + 2 + 1 + 1 + 2 + 1 + 0 ≤ 600516; omega, by show slots + 2504 * (k - 1) + 6 + 20 + 410 + 410 + 20 + 410 + 0 ≤ 7283748; omega⟩ ?_
        refine V_sbI (v := (mPg z)) Lk hg5 (by have := hl5; omega) (by omega) dL_law_841 (Nat.le_of_ble_eq_true rfl) ⟨by show cells + 14 * (k - 1) + 1 + 2 + 1 + 1 + 2 + 1 + 1 ≤ 600516; omega, by show slots + 2504 * (k - 1) + 6 + 20 + 410 + 410 + 20 + 410 + 410 ≤ 7283748; omega⟩ (fun q6 cap6 f6 hg6 => ?_)
        have hl6 : ((([] : List Nat) ++ ksT 4) ++ digs (mPg z)).length ≤ 4 := len_app hl5 (digs_le _) (Nat.le_refl _)
        show V K (cells + 14 * (k - 1) + 1 + 2 + 1 + 1 + 2 + 1 + 1) (slots + 2504 * (k - 1) + 6 + 20 + 410 + 410 + 20 + 410 + 410) ([(h, aI g 60 f)] ++ (sbG g o4 q6 cap6 f6 0 ((([] : List Nat) ++ ksT 4) ++ digs (mPg z)) ++ (sbG g o1 q3 cap3 f3 0 ((([] : List Nat) ++ (seatsT (uS L) k)) ++ ksT 5) ++ (strW g s (seatsT (uS L) k).length fs ++ (xW g (aS A q) (xS x sb) ++ []))))) [(15, .int (nI (mId z))), (14, .int (nI k)), (13, .ref s.1), (10, .ref h), (9, .int (nI r)), (8, .int (nI m)), (7, .int (nI (wEar L))), (6, .int (nI (wRib L))), (5, .int (nI (nRib L))), (4, .int (nI S.length)), (3, .int (nI L.length)), (2, .int t), (1, .ref A.1), (0, .ref b)] [.ref o4, .ref o1] 844
        refine V_eq (ws2 := [(h, aI g 60 f)] ++ (sbG g o4 q6 cap6 f6 0 ((([] : List Nat) ++ ksT 4) ++ digs (mPg z)) ++ (([] : va_W) ++ (sbG g o1 q3 cap3 f3 0 ((([] : List Nat) ++ (seatsT (uS L) k)) ++ ksT 5) ++ (strW g s (seatsT (uS L) k).length fs ++ (xW g (aS A q) (xS x sb) ++ [])))))) rfl ?_
        refine V_sbT (Z := ([] : va_W)) (Y := (sbG g o1 q3 cap3 f3 0 ((([] : List Nat) ++ (seatsT (uS L) k)) ++ ksT 5) ++ (strW g s (seatsT (uS L) k).length fs ++ (xW g (aS A q) (xS x sb) ++ [])))) Lk hg6 dL_law_844 (by have := hl6; omega) (Nat.le_of_ble_eq_true rfl) ⟨by show cells + 14 * (k - 1) + 1 + 2 + 1 + 1 + 2 + 1 + 1 + 2 ≤ 600516; omega, by show slots + 2504 * (k - 1) + 6 + 20 + 410 + 410 + 20 + 410 + 410 + 204 ≤ 7283748; omega⟩ (fun s7 fs7 hs7 => ?_)
        show V K (cells + 14 * (k - 1) + 1 + 2 + 1 + 1 + 2 + 1 + 1 + 2) (slots + 2504 * (k - 1) + 6 + 20 + 410 + 410 + 20 + 410 + 410 + 204) ([(h, aI g 60 f)] ++ (strW g s7 ((([] : List Nat) ++ ksT 4) ++ digs (mPg z)).length fs7 ++ (sbG g o1 q3 cap3 f3 0 ((([] : List Nat) ++ (seatsT (uS L) k)) ++ ksT 5) ++ (strW g s (seatsT (uS L) k).length fs ++ (xW g (aS A q) (xS x sb) ++ []))))) [(15, .int (nI (mId z))), (14, .int (nI k)), (13, .ref s.1), (10, .ref h), (9, .int (nI r)), (8, .int (nI m)), (7, .int (nI (wEar L))), (6, .int (nI (wRib L))), (5, .int (nI (nRib L))), (4, .int (nI S.length)), (3, .int (nI L.length)), (2, .int t), (1, .ref A.1), (0, .ref b)] [.ref s7.1, .ref o1] 847
        refine V_goto C 852 dL_law_847 rfl ?_
        refine V_swap (a := sbG g o1 q3 cap3 f3 0 ((([] : List Nat) ++ (seatsT (uS L) k)) ++ ksT 5)) (b := strW g s7 ((([] : List Nat) ++ ksT 4) ++ digs (mPg z)).length fs7) ?_
        show V K (cells + 14 * (k - 1) + 1 + 2 + 1 + 1 + 2 + 1 + 1 + 2) (slots + 2504 * (k - 1) + 6 + 20 + 410 + 410 + 20 + 410 + 410 + 204) ([(h, aI g 60 f)] ++ (sbG g o1 q3 cap3 f3 0 ((([] : List Nat) ++ (seatsT (uS L) k)) ++ ksT 5) ++ (strW g s7 ((([] : List Nat) ++ ksT 4) ++ digs (mPg z)).length fs7 ++ (strW g s (seatsT (uS L) k).length fs ++ (xW g (aS A q) (xS x sb) ++ []))))) [(15, .int (nI (mId z))), (14, .int (nI k)), (13, .ref s.1), (10, .ref h), (9, .int (nI r)), (8, .int (nI m)), (7, .int (nI (wEar L))), (6, .int (nI (wRib L))), (5, .int (nI (nRib L))), (4, .int (nI S.length)), (3, .int (nI L.length)), (2, .int t), (1, .ref A.1), (0, .ref b)] [.ref s7.1, .ref o1] 852
        refine V_sbS (s := s7) (U := ((([] : List Nat) ++ ksT 4) ++ digs (mPg z))) (fs := fs7) (Y := (strW g s (seatsT (uS L) k).length fs ++ (xW g (aS A q) (xS x sb) ++ []))) Lk hg3 hs7 (by have := hl3; have := hl6; omega) dL_law_852 (Nat.le_of_ble_eq_true rfl) ⟨by show cells + 14 * (k - 1) + 1 + 2 + 1 + 1 + 2 + 1 + 1 + 2 + 1 ≤ 600516; omega, by show slots + 2504 * (k - 1) + 6 + 20 + 410 + 410 + 20 + 410 + 410 + 204 + 410 ≤ 7283748; omega⟩ (fun q8 cap8 f8 hg8 => ?_)
        have hl8 : (((([] : List Nat) ++ (seatsT (uS L) k)) ++ ksT 5) ++ ((([] : List Nat) ++ ksT 4) ++ digs (mPg z))).length ≤ 21 := len_app hl3 hl6 (Nat.le_refl _)
        show V K (cells + 14 * (k - 1) + 1 + 2 + 1 + 1 + 2 + 1 + 1 + 2 + 1) (slots + 2504 * (k - 1) + 6 + 20 + 410 + 410 + 20 + 410 + 410 + 204 + 410) ([(h, aI g 60 f)] ++ (sbG g o1 q8 cap8 f8 0 (((([] : List Nat) ++ (seatsT (uS L) k)) ++ ksT 5) ++ ((([] : List Nat) ++ ksT 4) ++ digs (mPg z))) ++ (strW g s7 ((([] : List Nat) ++ ksT 4) ++ digs (mPg z)).length fs7 ++ (strW g s (seatsT (uS L) k).length fs ++ (xW g (aS A q) (xS x sb) ++ []))))) [(15, .int (nI (mId z))), (14, .int (nI k)), (13, .ref s.1), (10, .ref h), (9, .int (nI r)), (8, .int (nI m)), (7, .int (nI (wEar L))), (6, .int (nI (wRib L))), (5, .int (nI (nRib L))), (4, .int (nI S.length)), (3, .int (nI L.length)), (2, .int t), (1, .ref A.1), (0, .ref b)] [.ref o1] 855
        refine V_eq (ws2 := [(h, aI g 60 f)] ++ (sbG g o1 q8 cap8 f8 0 (((([] : List Nat) ++ (seatsT (uS L) k)) ++ ksT 5) ++ ((([] : List Nat) ++ ksT 4) ++ digs (mPg z))) ++ ((strW g s7 ((([] : List Nat) ++ ksT 4) ++ digs (mPg z)).length fs7 ++ (strW g s (seatsT (uS L) k).length fs)) ++ (xW g (aS A q) (xS x sb) ++ [])))) rfl ?_
        refine V_sbT (Z := (strW g s7 ((([] : List Nat) ++ ksT 4) ++ digs (mPg z)).length fs7 ++ (strW g s (seatsT (uS L) k).length fs))) (Y := (xW g (aS A q) (xS x sb) ++ [])) Lk hg8 dL_law_855 (by have := hl8; omega) (Nat.le_of_ble_eq_true rfl) ⟨by show cells + 14 * (k - 1) + 1 + 2 + 1 + 1 + 2 + 1 + 1 + 2 + 1 + 2 ≤ 600516; omega, by show slots + 2504 * (k - 1) + 6 + 20 + 410 + 410 + 20 + 410 + 410 + 204 + 410 + 204 ≤ 7283748; omega⟩ (fun s9 fs9 hs9 => ?_)
        show V K (cells + 14 * (k - 1) + 1 + 2 + 1 + 1 + 2 + 1 + 1 + 2 + 1 + 2) (slots + 2504 * (k - 1) + 6 + 20 + 410 + 410 + 20 + 410 + 410 + 204 + 410 + 204) ([(h, aI g 60 f)] ++ (strW g s9 (((([] : List Nat) ++ (seatsT (uS L) k)) ++ ksT 5) ++ ((([] : List Nat) ++ ksT 4) ++ digs (mPg z))).length fs9 ++ (xW g (aS A q) (xS x sb) ++ []))) [(15, .int (nI (mId z))), (14, .int (nI k)), (13, .ref s.1), (10, .ref h), (9, .int (nI r)), (8, .int (nI m)), (7, .int (nI (wEar L))), (6, .int (nI (wRib L))), (5, .int (nI (nRib L))), (4, .int (nI S.length)), (3, .int (nI L.length)), (2, .int t), (1, .ref A.1), (0, .ref b)] [.ref s9.1] 858
        have e4 : (((([] : List Nat) ++ (seatsT (uS L) k)) ++ ksT 5) ++ ((([] : List Nat) ++ ksT 4) ++ digs (mPg z))) = seatsT (uS L) (k + 1) := by
          rw [seatsT, if_neg (show ¬ k = 0 by omega), uS_1 hb hz hs2]
          rfl
        rw [e4] at hs9 ⊢
        refine V_astore C 860 [(13, .ref s9.1), (15, .int (nI (mId z))), (14, .int (nI k)), (10, .ref h), (9, .int (nI r)), (8, .int (nI m)), (7, .int (nI (wEar L))), (6, .int (nI (wRib L))), (5, .int (nI (nRib L))), (4, .int (nI S.length)), (3, .int (nI L.length)), (2, .int t), (1, .ref A.1), (0, .ref b)] dL_law_858 rfl (hlt 13 (by decide)) rfl ?_
        refine V_lv [2, 0, 3, 4, 5, 6, 7, 8, 9, 10, 11, 12, 13] (lv' := [(14, .int (nI k)), (13, .ref s9.1), (10, .ref h), (9, .int (nI r)), (8, .int (nI m)), (7, .int (nI (wEar L))), (6, .int (nI (wRib L))), (5, .int (nI (nRib L))), (4, .int (nI S.length)), (3, .int (nI L.length)), (2, .int t), (1, .ref A.1), (0, .ref b)]) rfl ?_
        refine V_iinc C 0 (nI (k + 1)) 863 [(14, .int (nI (k + 1))), (13, .ref s9.1), (10, .ref h), (9, .int (nI r)), (8, .int (nI m)), (7, .int (nI (wEar L))), (6, .int (nI (wRib L))), (5, .int (nI (nRib L))), (4, .int (nI S.length)), (3, .int (nI L.length)), (2, .int t), (1, .ref A.1), (0, .ref b)] dL_law_860 rfl rfl (nI_1 k) (hlt 14 (by decide)) rfl ?_
        refine V_goto C 746 dL_law_863 rfl ?_
        refine V_widen (c2 := cells + 14 * (k + 1 - 1)) (s2 := slots + 2504 * (k + 1 - 1)) (by omega) (by omega) ?_
        exact ih (k + 1) s9 fs9 (by omega) (by omega) hs9
  exact loop 4 1 s0 fs0 (by omega) (Nat.le_refl _) hs0
