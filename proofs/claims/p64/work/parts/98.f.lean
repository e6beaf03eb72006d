/-! ===== the law: near marks ===== -/
set_option maxRecDepth 8000 in
set_option maxHeartbeats 4000000 in
theorem law_E {K : KT} {g : G0} {A : XA} {x : XV} {L : List M5} {S : List Nat} {nid r b cells slots h m q : Nat} {f : Nat → Int32} {t : Int32} {sb : SbV} {s : Nat × Nat} {fs : Nat → Int32} {T : List Nat} (Lk : LKx K g) (hb : BK x L S nid r) (hf : HF L f) (hr : cells + 200 ≤ 600516 ∧ slots + 2000 ≤ 7283748) (ke : ∀ w : Int32, Fa L r 0 w → V K (cells + 120) (slots + 720) ([(h, aI g 60 f)] ++ (strW g s T.length fs ++ (xW g (aS A q) (xS x sb) ++ []))) [(15, .int w), (13, .ref s.1), (10, .ref h), (9, .int (nI r)), (8, .int (nI m)), (7, .int (nI (wEar L))), (6, .int (nI (wRib L))), (5, .int (nI (nRib L))), (4, .int (nI S.length)), (3, .int (nI L.length)), (2, .int t), (1, .ref A.1), (0, .ref b)] [] 996) : V K cells slots ([(h, aI g 60 f)] ++ (strW g s T.length fs ++ (xW g (aS A q) (xS x sb) ++ []))) [(13, .ref s.1), (10, .ref h), (9, .int (nI r)), (8, .int (nI m)), (7, .int (nI (wEar L))), (6, .int (nI (wRib L))), (5, .int (nI (nRib L))), (4, .int (nI S.length)), (3, .int (nI L.length)), (2, .int t), (1, .ref A.1), (0, .ref b)] [] 866 := by
  obtain ⟨C, hBA, hQ, hst, h23⟩ := id Lk
  have hlt : ∀ i, i < 23 → i < kn K := fun i h => by rw [h23]; exact h
  have hE := hQ.2.2.2.2.2
  have hN := hQ.sk.2.2.2.2
  obtain ⟨hr1, hr2⟩ := hr
  have hb2 := hb.xS sb
  have hpgs : ∀ z ∈ L, mPg z < 60 := fun z hz => (hb.mk hz).2.1
  have hr60 := hb.2.2.2.2.2.1.1
  refine V_sipush C (-30000 : Int32) 869 dL_law_866 rfl rfl ?_
  refine V_istore C 871 [(14, .int (-30000 : Int32)), (13, .ref s.1), (10, .ref h), (9, .int (nI r)), (8, .int (nI m)), (7, .int (nI (wEar L))), (6, .int (nI (wRib L))), (5, .int (nI (nRib L))), (4, .int (nI S.length)), (3, .int (nI L.length)), (2, .int t), (1, .ref A.1), (0, .ref b)] dL_law_869 rfl (hlt 14 (by decide)) rfl ?_
  refine V_sipush C (-30000 : Int32) 874 dL_law_871 rfl rfl ?_
  refine V_istore C 876 [(15, .int (-30000 : Int32)), (14, .int (-30000 : Int32)), (13, .ref s.1), (10, .ref h), (9, .int (nI r)), (8, .int (nI m)), (7, .int (nI (wEar L))), (6, .int (nI (wRib L))), (5, .int (nI (nRib L))), (4, .int (nI S.length)), (3, .int (nI L.length)), (2, .int t), (1, .ref A.1), (0, .ref b)] dL_law_874 rfl (hlt 15 (by decide)) rfl ?_
  refine V_bipush C (59 : Int32) 878 dL_law_876 rfl rfl ?_
  refine V_istore C 880 [(16, .int (59 : Int32)), (15, .int (-30000 : Int32)), (14, .int (-30000 : Int32)), (13, .ref s.1), (10, .ref h), (9, .int (nI r)), (8, .int (nI m)), (7, .int (nI (wEar L))), (6, .int (nI (wRib L))), (5, .int (nI (nRib L))), (4, .int (nI S.length)), (3, .int (nI L.length)), (2, .int t), (1, .ref A.1), (0, .ref b)] dL_law_878 rfl (hlt 16 (by decide)) rfl ?_
  have loop : ∀ k (v w : Int32), k ≤ 60 → Nx L k v → Fa L r k w → V K (cells + 2 * (60 - k)) (slots + 12 * (60 - k)) ([(h, aI g 60 f)] ++ (strW g s T.length fs ++ (xW g (aS A q) (xS x sb) ++ []))) [(16, .int (nI k - 1)), (15, .int w), (14, .int v), (13, .ref s.1), (10, .ref h), (9, .int (nI r)), (8, .int (nI m)), (7, .int (nI (wEar L))), (6, .int (nI (wRib L))), (5, .int (nI (nRib L))), (4, .int (nI S.length)), (3, .int (nI L.length)), (2, .int t), (1, .ref A.1), (0, .ref b)] [] 880 := by
    intro k
    induction k with
    | zero =>
      intro v w hk hv hw
      refine V_iload C 0 882 dL_law_880 rfl rfl ?_
      refine V_if_lt C 996 885 dL_law_882 rfl rfl (fun _ => ?_) (fun e => absurd (show nI 0 - 1 < (0 : Int32) by decide) e)
      refine V_lv [1, 3, 4, 5, 6, 7, 8, 9, 10, 11, 12, 13, 14] (lv' := [(15, .int w), (13, .ref s.1), (10, .ref h), (9, .int (nI r)), (8, .int (nI m)), (7, .int (nI (wEar L))), (6, .int (nI (wRib L))), (5, .int (nI (nRib L))), (4, .int (nI S.length)), (3, .int (nI L.length)), (2, .int t), (1, .ref A.1), (0, .ref b)]) rfl ?_
      exact ke w hw
    | succ p ih =>
      intro v w hk hv hw
      have hp60 : p < 60 := by omega
      rw [show nI (p + 1) - 1 = nI p from pk_sub (b := 1) (by omega)]
      by_cases hno : ∀ z ∈ L, mPg z ≠ p
      · have hfz : f p = -30000 := (hf p hp60).1 hno
        have hv2 := hv.no hno
        refine V_iload C 0 882 dL_law_880 rfl rfl ?_
        refine V_if_lt C 996 885 dL_law_882 rfl rfl (fun e => absurd e (nI_pos (by omega))) (fun _ => ?_)
        refine V_aload C 4 887 dL_law_885 rfl rfl ?_
        refine V_iload C 0 889 dL_law_887 rfl rfl ?_
        refine V_iald C (f := f) (n := 60) 0 890 dL_law_889 rfl rfl (inb_of (vp_in_nI hp60 (by decide))) ?_
        refine V_st (st2 := [.int (-30000 : Int32)]) (by rw [cl_n (by omega), hfz] <;> rfl) ?_
        refine V_sipush C (-30000 : Int32) 893 dL_law_890 rfl rfl ?_
        refine V_icmp_eq C 904 896 dL_law_893 rfl rfl (fun _ => ?_) (fun e => absurd rfl e)
        refine V_iload C 2 906 dL_law_904 rfl rfl ?_
        refine V_istore C 908 [(14, .int v), (16, .int (nI p)), (15, .int w), (13, .ref s.1), (10, .ref h), (9, .int (nI r)), (8, .int (nI m)), (7, .int (nI (wEar L))), (6, .int (nI (wRib L))), (5, .int (nI (nRib L))), (4, .int (nI S.length)), (3, .int (nI L.length)), (2, .int t), (1, .ref A.1), (0, .ref b)] dL_law_906 rfl (hlt 14 (by decide)) rfl ?_
        refine V_aload_n C 13 909 dL_law_908 rfl rfl ?_
        refine V_iload C 1 911 dL_law_909 rfl rfl ?_
        rcases id hv2 with ⟨y, hy, rfl⟩ | ⟨hy, rfl⟩
        · refine V_callH C hBA hQ hN lh_nextMark (pre := ([(h, aI g 60 f)] ++ (strW g s T.length fs))) (w0 := xW g (aS A q) (xS x sb)) (post := []) (as := [.ref A.1, .int (nI p)]) (rest := []) (w_nextMark hst (q_next1 hb2 hp60 hy)) dL_law_911 ⟨Nat.le_of_ble_eq_true rfl, Nat.le_of_ble_eq_true rfl⟩ rfl rfl rfl (Nat.le_of_ble_eq_true rfl) ⟨by show cells + 2 * (60 - (p + 1)) + 1 ≤ 600516; omega, by show slots + 12 * (60 - (p + 1)) + 6 ≤ 7283748; omega⟩ (fun rv w1 hP => ?_)
          obtain ⟨rfl, rfl⟩ := hP
          show V K (cells + 2 * (60 - (p + 1)) + 1) (slots + 12 * (60 - (p + 1)) + 6) ([(h, aI g 60 f)] ++ (strW g s T.length fs ++ (xW g (aS A q) (xS x sb) ++ []))) [(14, .int (nI (mId y))), (16, .int (nI p)), (15, .int w), (13, .ref s.1), (10, .ref h), (9, .int (nI r)), (8, .int (nI m)), (7, .int (nI (wEar L))), (6, .int (nI (wRib L))), (5, .int (nI (nRib L))), (4, .int (nI S.length)), (3, .int (nI L.length)), (2, .int t), (1, .ref A.1), (0, .ref b)] [.int (nI (mId y))] 914
          refine V_iload C 0 916 dL_law_914 rfl rfl ?_
          refine V_icmp_ne C 958 919 dL_law_916 rfl rfl (fun e => absurd rfl e) (fun _ => ?_)
          refine V_aload_n C 13 920 dL_law_919 rfl rfl ?_
          refine V_iload C 1 922 dL_law_920 rfl rfl ?_
          refine V_callXr C hBA hE ml_L_224 (pre := ([(h, aI g 60 f)] ++ (strW g s T.length fs))) (post := []) (wc := xW g (aS A q) (xS x sb)) (w1 := xW g (aS A q) (xS x sb)) (rv := some (.int (0 : Int32))) (as := [.int (nI p)]) (rest := []) (c_X3_isHeld (R := .inl ((0 : Int32), (xS x sb))) hst (q_isHeld0 hb2 hp60 hno)) 3 925 ([(h, aI g 60 f)] ++ (strW g s T.length fs ++ (xW g (aS A q) (xS x sb) ++ []))) dL_law_922 rfl ⟨Nat.le_of_ble_eq_true rfl, Nat.le_of_ble_eq_true rfl⟩ rfl rfl rfl (xW_fst _ _ _ _) rfl rfl rfl (Nat.le_of_ble_eq_true rfl) ⟨by show cells + 2 * (60 - (p + 1)) + 1 + 0 ≤ 600516; omega, by show slots + 12 * (60 - (p + 1)) + 6 + 0 ≤ 7283748; omega⟩ ?_
          refine V_aload C 4 927 dL_law_925 rfl rfl ?_
          refine V_iload C 1 929 dL_law_927 rfl rfl ?_
          refine V_iald C (f := f) (n := 60) 0 930 dL_law_929 rfl rfl (inb_of (vp_in_nI hp60 (by decide))) ?_
          refine V_st (st2 := [.int (-30000 : Int32), .int (0 : Int32)]) (by rw [cl_n (by omega), hfz] <;> rfl) ?_
          refine V_sipush C (-30000 : Int32) 933 dL_law_930 rfl rfl ?_
          refine V_icmp_eq C 940 936 dL_law_933 rfl rfl (fun _ => ?_) (fun e => absurd rfl e)
          refine V_iconst C (0 : Int32) 941 dL_law_940 rfl rfl ?_
          refine V_icmp_ne C 958 944 dL_law_941 rfl rfl (fun e => absurd rfl e) (fun _ => ?_)
          refine V_aload_n C 13 945 dL_law_944 rfl rfl ?_
          refine V_iload C 1 947 dL_law_945 rfl rfl ?_
          refine V_callH C hBA hQ hN lh_markOn (pre := ([(h, aI g 60 f)] ++ (strW g s T.length fs))) (w0 := xW g (aS A q) (xS x sb)) (post := []) (as := [.ref A.1, .int (nI p)]) (rest := []) (wX_markOn hst (q_markOn0 hb2 hp60 hno)) dL_law_947 ⟨Nat.le_of_ble_eq_true rfl, Nat.le_of_ble_eq_true rfl⟩ rfl rfl rfl (Nat.le_of_ble_eq_true rfl) ⟨by show cells + 2 * (60 - (p + 1)) + 1 + 1 ≤ 600516; omega, by show slots + 12 * (60 - (p + 1)) + 6 + 6 ≤ 7283748; omega⟩ (fun rv w1 hP => ?_)
          obtain ⟨rfl, rfl⟩ := hP
          show V K (cells + 2 * (60 - (p + 1)) + 1 + 1) (slots + 12 * (60 - (p + 1)) + 6 + 6) ([(h, aI g 60 f)] ++ (strW g s T.length fs ++ (xW g (aS A q) (xS x sb) ++ []))) [(14, .int (nI (mId y))), (16, .int (nI p)), (15, .int w), (13, .ref s.1), (10, .ref h), (9, .int (nI r)), (8, .int (nI m)), (7, .int (nI (wEar L))), (6, .int (nI (wRib L))), (5, .int (nI (nRib L))), (4, .int (nI S.length)), (3, .int (nI L.length)), (2, .int t), (1, .ref A.1), (0, .ref b)] [.int (-30000 : Int32)] 950
          refine V_aload C 4 952 dL_law_950 rfl rfl ?_
          refine V_iload C 1 954 dL_law_952 rfl rfl ?_
          refine V_iald C (f := f) (n := 60) 0 955 dL_law_954 rfl rfl (inb_of (vp_in_nI hp60 (by decide))) ?_
          refine V_st (st2 := [.int (-30000 : Int32), .int (-30000 : Int32)]) (by rw [cl_n (by omega), hfz] <;> rfl) ?_
          refine V_icmp_eq C 960 958 dL_law_955 rfl rfl (fun _ => ?_) (fun e => absurd rfl e)
          by_cases hpr : p ≤ r
          · refine V_iload C 1 962 dL_law_960 rfl rfl ?_
            refine V_iload C 5 964 dL_law_962 rfl rfl ?_
            refine V_icmp_le C 986 967 dL_law_964 rfl rfl (fun _ => ?_) (fun e => absurd (show nI p ≤ nI r from w_le hpr) e)
            refine V_iload C 2 988 dL_law_986 rfl rfl ?_
            refine V_istore C 990 [(15, .int w), (14, .int (nI (mId y))), (16, .int (nI p)), (13, .ref s.1), (10, .ref h), (9, .int (nI r)), (8, .int (nI m)), (7, .int (nI (wEar L))), (6, .int (nI (wRib L))), (5, .int (nI (nRib L))), (4, .int (nI S.length)), (3, .int (nI L.length)), (2, .int t), (1, .ref A.1), (0, .ref b)] dL_law_988 rfl (hlt 15 (by decide)) rfl ?_
            refine V_lv [2, 0, 1, 3, 4, 5, 6, 7, 8, 9, 10, 11, 12, 13, 14] (lv' := [(16, .int (nI p)), (15, .int w), (14, .int (nI (mId y))), (13, .ref s.1), (10, .ref h), (9, .int (nI r)), (8, .int (nI m)), (7, .int (nI (wEar L))), (6, .int (nI (wRib L))), (5, .int (nI (nRib L))), (4, .int (nI S.length)), (3, .int (nI L.length)), (2, .int t), (1, .ref A.1), (0, .ref b)]) rfl ?_
            refine V_iinc C 0 (nI p - 1) 993 [(16, .int (nI p - 1)), (15, .int w), (14, .int (nI (mId y))), (13, .ref s.1), (10, .ref h), (9, .int (nI r)), (8, .int (nI m)), (7, .int (nI (wEar L))), (6, .int (nI (wRib L))), (5, .int (nI (nRib L))), (4, .int (nI S.length)), (3, .int (nI L.length)), (2, .int t), (1, .ref A.1), (0, .ref b)] dL_law_990 rfl rfl (by rw [Int32.sub_eq_add_neg]; rfl) (hlt 16 (by decide)) rfl ?_
            refine V_goto C 880 dL_law_993 rfl ?_
            refine V_widen (c2 := cells + 2 * (60 - p)) (s2 := slots + 12 * (60 - p)) (by omega) (by omega) ?_
            exact ih _ _ (by omega) hv2 (hw.low hpr)
          · refine V_iload C 1 962 dL_law_960 rfl rfl ?_
            refine V_iload C 5 964 dL_law_962 rfl rfl ?_
            refine V_icmp_le C 986 967 dL_law_964 rfl rfl (fun e => absurd e (show ¬ nI p ≤ nI r from w_nle (by omega))) (fun _ => ?_)
            refine V_aload C 4 969 dL_law_967 rfl rfl ?_
            refine V_iload C 1 971 dL_law_969 rfl rfl ?_
            refine V_iald C (f := f) (n := 60) 0 972 dL_law_971 rfl rfl (inb_of (vp_in_nI hp60 (by decide))) ?_
            refine V_st (st2 := [.int (-30000 : Int32)]) (by rw [cl_n (by omega), hfz] <;> rfl) ?_
            refine V_sipush C (-30000 : Int32) 975 dL_law_972 rfl rfl ?_
            refine V_icmp_eq C 986 978 dL_law_975 rfl rfl (fun _ => ?_) (fun e => absurd rfl e)
            refine V_iload C 2 988 dL_law_986 rfl rfl ?_
            refine V_istore C 990 [(15, .int w), (14, .int (nI (mId y))), (16, .int (nI p)), (13, .ref s.1), (10, .ref h), (9, .int (nI r)), (8, .int (nI m)), (7, .int (nI (wEar L))), (6, .int (nI (wRib L))), (5, .int (nI (nRib L))), (4, .int (nI S.length)), (3, .int (nI L.length)), (2, .int t), (1, .ref A.1), (0, .ref b)] dL_law_988 rfl (hlt 15 (by decide)) rfl ?_
            refine V_lv [2, 0, 1, 3, 4, 5, 6, 7, 8, 9, 10, 11, 12, 13, 14] (lv' := [(16, .int (nI p)), (15, .int w), (14, .int (nI (mId y))), (13, .ref s.1), (10, .ref h), (9, .int (nI r)), (8, .int (nI m)), (7, .int (nI (wEar L))), (6, .int (nI (wRib L))), (5, .int (nI (nRib L))), (4, .int (nI S.length)), (3, .int (nI L.length)), (2, .int t), (1, .ref A.1), (0, .ref b)]) rfl ?_
            refine V_iinc C 0 (nI p - 1) 993 [(16, .int (nI p - 1)), (15, .int w), (14, .int (nI (mId y))), (13, .ref s.1), (10, .ref h), (9, .int (nI r)), (8, .int (nI m)), (7, .int (nI (wEar L))), (6, .int (nI (wRib L))), (5, .int (nI (nRib L))), (4, .int (nI S.length)), (3, .int (nI L.length)), (2, .int t), (1, .ref A.1), (0, .ref b)] dL_law_990 rfl rfl (by rw [Int32.sub_eq_add_neg]; rfl) (hlt 16 (by decide)) rfl ?_
            refine V_goto C 880 dL_law_993 rfl ?_
            refine V_widen (c2 := cells + 2 * (60 - p)) (s2 := slots + 12 * (60 - p)) (by omega) (by omega) ?_
            exact ih _ _ (by omega) hv2 (hw.no hno (by omega))
        · refine V_callH C hBA hQ hN lh_nextMark (pre := ([(h, aI g 60 f)] ++ (strW g s T.length fs))) (w0 := xW g (aS A q) (xS x sb)) (post := []) (as := [.ref A.1, .int (nI p)]) (rest := []) (wX_nextMark hst (q_next0 hb2 hp60 hy)) dL_law_911 ⟨Nat.le_of_ble_eq_true rfl, Nat.le_of_ble_eq_true rfl⟩ rfl rfl rfl (Nat.le_of_ble_eq_true rfl) ⟨by show cells + 2 * (60 - (p + 1)) + 1 ≤ 600516; omega, by show slots + 12 * (60 - (p + 1)) + 6 ≤ 7283748; omega⟩ (fun rv w1 hP => ?_)
          obtain ⟨rfl, rfl⟩ := hP
          show V K (cells + 2 * (60 - (p + 1)) + 1) (slots + 12 * (60 - (p + 1)) + 6) ([(h, aI g 60 f)] ++ (strW g s T.length fs ++ (xW g (aS A q) (xS x sb) ++ []))) [(14, .int (-30000 : Int32)), (16, .int (nI p)), (15, .int w), (13, .ref s.1), (10, .ref h), (9, .int (nI r)), (8, .int (nI m)), (7, .int (nI (wEar L))), (6, .int (nI (wRib L))), (5, .int (nI (nRib L))), (4, .int (nI S.length)), (3, .int (nI L.length)), (2, .int t), (1, .ref A.1), (0, .ref b)] [.int (-30000 : Int32)] 914
          refine V_iload C 0 916 dL_law_914 rfl rfl ?_
          refine V_icmp_ne C 958 919 dL_law_916 rfl rfl (fun e => absurd rfl e) (fun _ => ?_)
          refine V_aload_n C 13 920 dL_law_919 rfl rfl ?_
          refine V_iload C 1 922 dL_law_920 rfl rfl ?_
          refine V_callXr C hBA hE ml_L_224 (pre := ([(h, aI g 60 f)] ++ (strW g s T.length fs))) (post := []) (wc := xW g (aS A q) (xS x sb)) (w1 := xW g (aS A q) (xS x sb)) (rv := some (.int (0 : Int32))) (as := [.int (nI p)]) (rest := []) (c_X3_isHeld (R := .inl ((0 : Int32), (xS x sb))) hst (q_isHeld0 hb2 hp60 hno)) 3 925 ([(h, aI g 60 f)] ++ (strW g s T.length fs ++ (xW g (aS A q) (xS x sb) ++ []))) dL_law_922 rfl ⟨Nat.le_of_ble_eq_true rfl, Nat.le_of_ble_eq_true rfl⟩ rfl rfl rfl (xW_fst _ _ _ _) rfl rfl rfl (Nat.le_of_ble_eq_true rfl) ⟨by show cells + 2 * (60 - (p + 1)) + 1 + 0 ≤ 600516; omega, by show slots + 12 * (60 - (p + 1)) + 6 + 0 ≤ 7283748; omega⟩ ?_
          refine V_aload C 4 927 dL_law_925 rfl rfl ?_
          refine V_iload C 1 929 dL_law_927 rfl rfl ?_
          refine V_iald C (f := f) (n := 60) 0 930 dL_law_929 rfl rfl (inb_of (vp_in_nI hp60 (by decide))) ?_
          refine V_st (st2 := [.int (-30000 : Int32), .int (0 : Int32)]) (by rw [cl_n (by omega), hfz] <;> rfl) ?_
          refine V_sipush C (-30000 : Int32) 933 dL_law_930 rfl rfl ?_
          refine V_icmp_eq C 940 936 dL_law_933 rfl rfl (fun _ => ?_) (fun e => absurd rfl e)
          refine V_iconst C (0 : Int32) 941 dL_law_940 rfl rfl ?_
          refine V_icmp_ne C 958 944 dL_law_941 rfl rfl (fun e => absurd rfl e) (fun _ => ?_)
          refine V_aload_n C 13 945 dL_law_944 rfl rfl ?_
          refine V_iload C 1 947 dL_law_945 rfl rfl ?_
          refine V_callH C hBA hQ hN lh_markOn (pre := ([(h, aI g 60 f)] ++ (strW g s T.length fs))) (w0 := xW g (aS A q) (xS x sb)) (post := []) (as := [.ref A.1, .int (nI p)]) (rest := []) (wX_markOn hst (q_markOn0 hb2 hp60 hno)) dL_law_947 ⟨Nat.le_of_ble_eq_true rfl, Nat.le_of_ble_eq_true rfl⟩ rfl rfl rfl (Nat.le_of_ble_eq_true rfl) ⟨by show cells + 2 * (60 - (p + 1)) + 1 + 1 ≤ 600516; omega, by show slots + 12 * (60 - (p + 1)) + 6 + 6 ≤ 7283748; omega⟩ (fun rv w1 hP => ?_)
          obtain ⟨rfl, rfl⟩ := hP
          show V K (cells + 2 * (60 - (p + 1)) + 1 + 1) (slots + 12 * (60 - (p + 1)) + 6 + 6) ([(h, aI g 60 f)] ++ (strW g s T.length fs ++ (xW g (aS A q) (xS x sb) ++ []))) [(14, .int (-30000 : Int32)), (16, .int (nI p)), (15, .int w), (13, .ref s.1), (10, .ref h), (9, .int (nI r)), (8, .int (nI m)), (7, .int (nI (wEar L))), (6, .int (nI (wRib L))), (5, .int (nI (nRib L))), (4, .int (nI S.length)), (3, .int (nI L.length)), (2, .int t), (1, .ref A.1), (0, .ref b)] [.int (-30000 : Int32)] 950
          refine V_aload C 4 952 dL_law_950 rfl rfl ?_
          refine V_iload C 1 954 dL_law_952 rfl rfl ?_
          refine V_iald C (f := f) (n := 60) 0 955 dL_law_954 rfl rfl (inb_of (vp_in_nI hp60 (by decide))) ?_
          refine V_st (st2 := [.int (-30000 : Int32), .int (-30000 : Int32)]) (by rw [cl_n (by omega), hfz] <;> rfl) ?_
          refine V_icmp_eq C 960 958 dL_law_955 rfl rfl (fun _ => ?_) (fun e => absurd rfl e)
          by_cases hpr : p ≤ r
          · refine V_iload C 1 962 dL_law_960 rfl rfl ?_
            refine V_iload C 5 964 dL_law_962 rfl rfl ?_
            refine V_icmp_le C 986 967 dL_law_964 rfl rfl (fun _ => ?_) (fun e => absurd (show nI p ≤ nI r from w_le hpr) e)
            refine V_iload C 2 988 dL_law_986 rfl rfl ?_
            refine V_istore C 990 [(15, .int w), (14, .int (-30000 : Int32)), (16, .int (nI p)), (13, .ref s.1), (10, .ref h), (9, .int (nI r)), (8, .int (nI m)), (7, .int (nI (wEar L))), (6, .int (nI (wRib L))), (5, .int (nI (nRib L))), (4, .int (nI S.length)), (3, .int (nI L.length)), (2, .int t), (1, .ref A.1), (0, .ref b)] dL_law_988 rfl (hlt 15 (by decide)) rfl ?_
            refine V_lv [2, 0, 1, 3, 4, 5, 6, 7, 8, 9, 10, 11, 12, 13, 14] (lv' := [(16, .int (nI p)), (15, .int w), (14, .int (-30000 : Int32)), (13, .ref s.1), (10, .ref h), (9, .int (nI r)), (8, .int (nI m)), (7, .int (nI (wEar L))), (6, .int (nI (wRib L))), (5, .int (nI (nRib L))), (4, .int (nI S.length)), (3, .int (nI L.length)), (2, .int t), (1, .ref A.1), (0, .ref b)]) rfl ?_
            refine V_iinc C 0 (nI p - 1) 993 [(16, .int (nI p - 1)), (15, .int w), (14, .int (-30000 : Int32)), (13, .ref s.1), (10, .ref h), (9, .int (nI r)), (8, .int (nI m)), (7, .int (nI (wEar L))), (6, .int (nI (wRib L))), (5, .int (nI (nRib L))), (4, .int (nI S.length)), (3, .int (nI L.length)), (2, .int t), (1, .ref A.1), (0, .ref b)] dL_law_990 rfl rfl (by rw [Int32.sub_eq_add_neg]; rfl) (hlt 16 (by decide)) rfl ?_
            refine V_goto C 880 dL_law_993 rfl ?_
            refine V_widen (c2 := cells + 2 * (60 - p)) (s2 := slots + 12 * (60 - p)) (by omega) (by omega) ?_
            exact ih _ _ (by omega) hv2 (hw.low hpr)
          · refine V_iload C 1 962 dL_law_960 rfl rfl ?_
            refine V_iload C 5 964 dL_law_962 rfl rfl ?_
            refine V_icmp_le C 986 967 dL_law_964 rfl rfl (fun e => absurd e (show ¬ nI p ≤ nI r from w_nle (by omega))) (fun _ => ?_)
            refine V_aload C 4 969 dL_law_967 rfl rfl ?_
            refine V_iload C 1 971 dL_law_969 rfl rfl ?_
            refine V_iald C (f := f) (n := 60) 0 972 dL_law_971 rfl rfl (inb_of (vp_in_nI hp60 (by decide))) ?_
            refine V_st (st2 := [.int (-30000 : Int32)]) (by rw [cl_n (by omega), hfz] <;> rfl) ?_
            refine V_sipush C (-30000 : Int32) 975 dL_law_972 rfl rfl ?_
            refine V_icmp_eq C 986 978 dL_law_975 rfl rfl (fun _ => ?_) (fun e => absurd rfl e)
            refine V_iload C 2 988 dL_law_986 rfl rfl ?_
            refine V_istore C 990 [(15, .int w), (14, .int (-30000 : Int32)), (16, .int (nI p)), (13, .ref s.1), (10, .ref h), (9, .int (nI r)), (8, .int (nI m)), (7, .int (nI (wEar L))), (6, .int (nI (wRib L))), (5, .int (nI (nRib L))), (4, .int (nI S.length)), (3, .int (nI L.length)), (2, .int t), (1, .ref A.1), (0, .ref b)] dL_law_988 rfl (hlt 15 (by decide)) rfl ?_
            refine V_lv [2, 0, 1, 3, 4, 5, 6, 7, 8, 9, 10, 11, 12, 13, 14] (lv' := [(16, .int (nI p)), (15, .int w), (14, .int (-30000 : Int32)), (13, .ref s.1), (10, .ref h), (9, .int (nI r)), (8, .int (nI m)), (7, .int (nI (wEar L))), (6, .int (nI (wRib L))), (5, .int (nI (nRib L))), (4, .int (nI S.length)), (3, .int (nI L.length)), (2, .int t), (1, .ref A.1), (0, .ref b)]) rfl ?_
            refine V_iinc C 0 (nI p - 1) 993 [(16, .int (nI p - 1)), (15, .int w), (14, .int (-30000 : Int32)), (13, .ref s.1), (10, .ref h), (9, .int (nI r)), (8, .int (nI m)), (7, .int (nI (wEar L))), (6, .int (nI (wRib L))), (5, .int (nI (nRib L))), (4, .int (nI S.length)), (3, .int (nI L.length)), (2, .int t), (1, .ref A.1), (0, .ref b)] dL_law_990 rfl rfl (by rw [Int32.sub_eq_add_neg]; rfl) (hlt 16 (by decide)) rfl ?_
            refine V_goto C 880 dL_law_993 rfl ?_
            refine V_widen (c2 := cells + 2 * (60 - p)) (s2 := slots + 12 * (60 - p)) (by omega) (by omega) ?_
            exact ih _ _ (by omega) hv2 (hw.no hno (by omega))
      · obtain ⟨z, hz, hp2⟩ : ∃ z ∈ L, mPg z = p := Classical.byContradiction fun q => hno fun z hz e => q ⟨z, hz, e⟩
        have hfz : f p = nI (mId z) := (hf p hp60).2 z hz hp2
        have hv2 := Nx.yes hz hp2
        have hid := (hb.mk hz).1
        have qh : f_X3_isHeld (xS x sb) (nI p) = some (.inl (1, xS x sb)) := by rw [← hp2]; exact q_isHeld1 hb2 hz
        have qm : f_X3_markOn (xS x sb) (nI p) = some (.inl (nI (mId z), xS x sb)) := by rw [← hp2]; exact q_markOn1 hb2 hz
        refine V_iload C 0 882 dL_law_880 rfl rfl ?_
        refine V_if_lt C 996 885 dL_law_882 rfl rfl (fun e => absurd e (nI_pos (by omega))) (fun _ => ?_)
        refine V_aload C 4 887 dL_law_885 rfl rfl ?_
        refine V_iload C 0 889 dL_law_887 rfl rfl ?_
        refine V_iald C (f := f) (n := 60) 0 890 dL_law_889 rfl rfl (inb_of (vp_in_nI hp60 (by decide))) ?_
        refine V_st (st2 := [.int (nI (mId z))]) (by rw [cl_n (by omega), hfz] <;> rfl) ?_
        refine V_sipush C (-30000 : Int32) 893 dL_law_890 rfl rfl ?_
        refine V_icmp_eq C 904 896 dL_law_893 rfl rfl (fun e => absurd e (nI_no (by omega))) (fun _ => ?_)
        refine V_aload C 4 898 dL_law_896 rfl rfl ?_
        refine V_iload C 0 900 dL_law_898 rfl rfl ?_
        refine V_iald C (f := f) (n := 60) 0 901 dL_law_900 rfl rfl (inb_of (vp_in_nI hp60 (by decide))) ?_
        refine V_st (st2 := [.int (nI (mId z))]) (by rw [cl_n (by omega), hfz] <;> rfl) ?_
        refine V_goto C 906 dL_law_901 rfl ?_
        refine V_istore C 908 [(14, .int (nI (mId z))), (16, .int (nI p)), (15, .int w), (13, .ref s.1), (10, .ref h), (9, .int (nI r)), (8, .int (nI m)), (7, .int (nI (wEar L))), (6, .int (nI (wRib L))), (5, .int (nI (nRib L))), (4, .int (nI S.length)), (3, .int (nI L.length)), (2, .int t), (1, .ref A.1), (0, .ref b)] dL_law_906 rfl (hlt 14 (by decide)) rfl ?_
        refine V_aload_n C 13 909 dL_law_908 rfl rfl ?_
        refine V_iload C 1 911 dL_law_909 rfl rfl ?_
        refine V_callH C hBA hQ hN lh_nextMark (pre := ([(h, aI g 60 f)] ++ (strW g s T.length fs))) (w0 := xW g (aS A q) (xS x sb)) (post := []) (as := [.ref A.1, .int (nI p)]) (rest := []) (w_nextMark hst (q_next1 hb2 hp60 (Nx.at hz hp2))) dL_law_911 ⟨Nat.le_of_ble_eq_true rfl, Nat.le_of_ble_eq_true rfl⟩ rfl rfl rfl (Nat.le_of_ble_eq_true rfl) ⟨by show cells + 2 * (60 - (p + 1)) + 1 ≤ 600516; omega, by show slots + 12 * (60 - (p + 1)) + 6 ≤ 7283748; omega⟩ (fun rv w1 hP => ?_)
        obtain ⟨rfl, rfl⟩ := hP
        show V K (cells + 2 * (60 - (p + 1)) + 1) (slots + 12 * (60 - (p + 1)) + 6) ([(h, aI g 60 f)] ++ (strW g s T.length fs ++ (xW g (aS A q) (xS x sb) ++ []))) [(14, .int (nI (mId z))), (16, .int (nI p)), (15, .int w), (13, .ref s.1), (10, .ref h), (9, .int (nI r)), (8, .int (nI m)), (7, .int (nI (wEar L))), (6, .int (nI (wRib L))), (5, .int (nI (nRib L))), (4, .int (nI S.length)), (3, .int (nI L.length)), (2, .int t), (1, .ref A.1), (0, .ref b)] [.int (nI (mId z))] 914
        refine V_iload C 0 916 dL_law_914 rfl rfl ?_
        refine V_icmp_ne C 958 919 dL_law_916 rfl rfl (fun e => absurd rfl e) (fun _ => ?_)
        refine V_aload_n C 13 920 dL_law_919 rfl rfl ?_
        refine V_iload C 1 922 dL_law_920 rfl rfl ?_
        refine V_callXr C hBA hE ml_L_224 (pre := ([(h, aI g 60 f)] ++ (strW g s T.length fs))) (post := []) (wc := xW g (aS A q) (xS x sb)) (w1 := xW g (aS A q) (xS x sb)) (rv := some (.int (1 : Int32))) (as := [.int (nI p)]) (rest := []) (c_X3_isHeld (R := .inl ((1 : Int32), (xS x sb))) hst (qh)) 3 925 ([(h, aI g 60 f)] ++ (strW g s T.length fs ++ (xW g (aS A q) (xS x sb) ++ []))) dL_law_922 rfl ⟨Nat.le_of_ble_eq_true rfl, Nat.le_of_ble_eq_true rfl⟩ rfl rfl rfl (xW_fst _ _ _ _) rfl rfl rfl (Nat.le_of_ble_eq_true rfl) ⟨by show cells + 2 * (60 - (p + 1)) + 1 + 0 ≤ 600516; omega, by show slots + 12 * (60 - (p + 1)) + 6 + 0 ≤ 7283748; omega⟩ ?_
        refine V_aload C 4 927 dL_law_925 rfl rfl ?_
        refine V_iload C 1 929 dL_law_927 rfl rfl ?_
        refine V_iald C (f := f) (n := 60) 0 930 dL_law_929 rfl rfl (inb_of (vp_in_nI hp60 (by decide))) ?_
        refine V_st (st2 := [.int (nI (mId z)), .int (1 : Int32)]) (by rw [cl_n (by omega), hfz] <;> rfl) ?_
        refine V_sipush C (-30000 : Int32) 933 dL_law_930 rfl rfl ?_
        refine V_icmp_eq C 940 936 dL_law_933 rfl rfl (fun e => absurd e (nI_no (by omega))) (fun _ => ?_)
        refine V_iconst C (1 : Int32) 937 dL_law_936 rfl rfl ?_
        refine V_goto C 941 dL_law_937 rfl ?_
        refine V_icmp_ne C 958 944 dL_law_941 rfl rfl (fun e => absurd rfl e) (fun _ => ?_)
        refine V_aload_n C 13 945 dL_law_944 rfl rfl ?_
        refine V_iload C 1 947 dL_law_945 rfl rfl ?_
        refine V_callH C hBA hQ hN lh_markOn (pre := ([(h, aI g 60 f)] ++ (strW g s T.length fs))) (w0 := xW g (aS A q) (xS x sb)) (post := []) (as := [.ref A.1, .int (nI p)]) (rest := []) (w_markOn hst qm) dL_law_947 ⟨Nat.le_of_ble_eq_true rfl, Nat.le_of_ble_eq_true rfl⟩ rfl rfl rfl (Nat.le_of_ble_eq_true rfl) ⟨by show cells + 2 * (60 - (p + 1)) + 1 + 1 ≤ 600516; omega, by show slots + 12 * (60 - (p + 1)) + 6 + 6 ≤ 7283748; omega⟩ (fun rv w1 hP => ?_)
        obtain ⟨rfl, rfl⟩ := hP
        show V K (cells + 2 * (60 - (p + 1)) + 1 + 1) (slots + 12 * (60 - (p + 1)) + 6 + 6) ([(h, aI g 60 f)] ++ (strW g s T.length fs ++ (xW g (aS A q) (xS x sb) ++ []))) [(14, .int (nI (mId z))), (16, .int (nI p)), (15, .int w), (13, .ref s.1), (10, .ref h), (9, .int (nI r)), (8, .int (nI m)), (7, .int (nI (wEar L))), (6, .int (nI (wRib L))), (5, .int (nI (nRib L))), (4, .int (nI S.length)), (3, .int (nI L.length)), (2, .int t), (1, .ref A.1), (0, .ref b)] [.int (nI (mId z))] 950
        refine V_aload C 4 952 dL_law_950 rfl rfl ?_
        refine V_iload C 1 954 dL_law_952 rfl rfl ?_
        refine V_iald C (f := f) (n := 60) 0 955 dL_law_954 rfl rfl (inb_of (vp_in_nI hp60 (by decide))) ?_
        refine V_st (st2 := [.int (nI (mId z)), .int (nI (mId z))]) (by rw [cl_n (by omega), hfz] <;> rfl) ?_
        refine V_icmp_eq C 960 958 dL_law_955 rfl rfl (fun _ => ?_) (fun e => absurd rfl e)
        by_cases hpr : p ≤ r
        · refine V_iload C 1 962 dL_law_960 rfl rfl ?_
          refine V_iload C 5 964 dL_law_962 rfl rfl ?_
          refine V_icmp_le C 986 967 dL_law_964 rfl rfl (fun _ => ?_) (fun e => absurd (show nI p ≤ nI r from w_le hpr) e)
          refine V_iload C 2 988 dL_law_986 rfl rfl ?_
          refine V_istore C 990 [(15, .int w), (14, .int (nI (mId z))), (16, .int (nI p)), (13, .ref s.1), (10, .ref h), (9, .int (nI r)), (8, .int (nI m)), (7, .int (nI (wEar L))), (6, .int (nI (wRib L))), (5, .int (nI (nRib L))), (4, .int (nI S.length)), (3, .int (nI L.length)), (2, .int t), (1, .ref A.1), (0, .ref b)] dL_law_988 rfl (hlt 15 (by decide)) rfl ?_
          refine V_lv [2, 0, 1, 3, 4, 5, 6, 7, 8, 9, 10, 11, 12, 13, 14] (lv' := [(16, .int (nI p)), (15, .int w), (14, .int (nI (mId z))), (13, .ref s.1), (10, .ref h), (9, .int (nI r)), (8, .int (nI m)), (7, .int (nI (wEar L))), (6, .int (nI (wRib L))), (5, .int (nI (nRib L))), (4, .int (nI S.length)), (3, .int (nI L.length)), (2, .int t), (1, .ref A.1), (0, .ref b)]) rfl ?_
          refine V_iinc C 0 (nI p - 1) 993 [(16, .int (nI p - 1)), (15, .int w), (14, .int (nI (mId z))), (13, .ref s.1), (10, .ref h), (9, .int (nI r)), (8, .int (nI m)), (7, .int (nI (wEar L))), (6, .int (nI (wRib L))), (5, .int (nI (nRib L))), (4, .int (nI S.length)), (3, .int (nI L.length)), (2, .int t), (1, .ref A.1), (0, .ref b)] dL_law_990 rfl rfl (by rw [Int32.sub_eq_add_neg]; rfl) (hlt 16 (by decide)) rfl ?_
          refine V_goto C 880 dL_law_993 rfl ?_
          refine V_widen (c2 := cells + 2 * (60 - p)) (s2 := slots + 12 * (60 - p)) (by omega) (by omega) ?_
          exact ih _ _ (by omega) hv2 (hw.low hpr)
        · refine V_iload C 1 962 dL_law_960 rfl rfl ?_
          refine V_iload C 5 964 dL_law_962 rfl rfl ?_
          refine V_icmp_le C 986 967 dL_law_964 rfl rfl (fun e => absurd e (show ¬ nI p ≤ nI r from w_nle (by omega))) (fun _ => ?_)
          refine V_aload C 4 969 dL_law_967 rfl rfl ?_
          refine V_iload C 1 971 dL_law_969 rfl rfl ?_
          refine V_iald C (f := f) (n := 60) 0 972 dL_law_971 rfl rfl (inb_of (vp_in_nI hp60 (by decide))) ?_
          refine V_st (st2 := [.int (nI (mId z))]) (by rw [cl_n (by omega), hfz] <;> rfl) ?_
          refine V_sipush C (-30000 : Int32) 975 dL_law_972 rfl rfl ?_
          refine V_icmp_eq C 986 978 dL_law_975 rfl rfl (fun e => absurd e (nI_no (by omega))) (fun _ => ?_)
          refine V_iload C 1 980 dL_law_978 rfl rfl ?_
          refine V_iload C 5 982 dL_law_980 rfl rfl ?_
          refine V_isub C 983 dL_law_982 rfl ?_
          refine V_goto C 988 dL_law_983 rfl ?_
          refine V_st (st2 := [.int (nI (p - r))]) (by rw [pk_sub (by omega)] <;> rfl) ?_
          refine V_istore C 990 [(15, .int (nI (p - r))), (14, .int (nI (mId z))), (16, .int (nI p)), (13, .ref s.1), (10, .ref h), (9, .int (nI r)), (8, .int (nI m)), (7, .int (nI (wEar L))), (6, .int (nI (wRib L))), (5, .int (nI (nRib L))), (4, .int (nI S.length)), (3, .int (nI L.length)), (2, .int t), (1, .ref A.1), (0, .ref b)] dL_law_988 rfl (hlt 15 (by decide)) rfl ?_
          refine V_lv [2, 0, 1, 3, 4, 5, 6, 7, 8, 9, 10, 11, 12, 13, 14] (lv' := [(16, .int (nI p)), (15, .int (nI (p - r))), (14, .int (nI (mId z))), (13, .ref s.1), (10, .ref h), (9, .int (nI r)), (8, .int (nI m)), (7, .int (nI (wEar L))), (6, .int (nI (wRib L))), (5, .int (nI (nRib L))), (4, .int (nI S.length)), (3, .int (nI L.length)), (2, .int t), (1, .ref A.1), (0, .ref b)]) rfl ?_
          refine V_iinc C 0 (nI p - 1) 993 [(16, .int (nI p - 1)), (15, .int (nI (p - r))), (14, .int (nI (mId z))), (13, .ref s.1), (10, .ref h), (9, .int (nI r)), (8, .int (nI m)), (7, .int (nI (wEar L))), (6, .int (nI (wRib L))), (5, .int (nI (nRib L))), (4, .int (nI S.length)), (3, .int (nI L.length)), (2, .int t), (1, .ref A.1), (0, .ref b)] dL_law_990 rfl rfl (by rw [Int32.sub_eq_add_neg]; rfl) (hlt 16 (by decide)) rfl ?_
          refine V_goto C 880 dL_law_993 rfl ?_
          refine V_widen (c2 := cells + 2 * (60 - p)) (s2 := slots + 12 * (60 - p)) (by omega) (by omega) ?_
          exact ih _ _ (by omega) hv2 (Fa.yes hz hp2 (by omega))
  exact loop 60 (-30000) (-30000) (Nat.le_refl _) (Nx.top hpgs) (Fa.top hpgs)
set_option maxRecDepth 8000 in
set_option maxHeartbeats 4000000 in
theorem law_F {K : KT} {g : G0} {A : XA} {x : XV} {L : List M5} {S : List Nat} {nid r b cells slots h m q : Nat} {f : Nat → Int32} {t : Int32} {sb : SbV} {s : Nat × Nat} {fs : Nat → Int32} {T : List Nat} {w : Int32} (Lk : LKx K g) (hb : BK x L S nid r) (hf : HF L f) (hr : cells + 300 ≤ 600516 ∧ slots + 3000 ≤ 7283748) (ke : V K (cells + 180) (slots + 1080) ([(h, aI g 60 f)] ++ (strW g s T.length fs ++ (xW g (aS A q) (xS x sb) ++ []))) [(15, .int w), (13, .ref s.1), (10, .ref h), (9, .int (nI r)), (8, .int (nI m)), (7, .int (nI (wEar L))), (6, .int (nI (wRib L))), (5, .int (nI (nRib L))), (4, .int (nI S.length)), (3, .int (nI L.length)), (2, .int t), (1, .ref A.1), (0, .ref b)] [] 1118) : V K cells slots ([(h, aI g 60 f)] ++ (strW g s T.length fs ++ (xW g (aS A q) (xS x sb) ++ []))) [(15, .int w), (13, .ref s.1), (10, .ref h), (9, .int (nI r)), (8, .int (nI m)), (7, .int (nI (wEar L))), (6, .int (nI (wRib L))), (5, .int (nI (nRib L))), (4, .int (nI S.length)), (3, .int (nI L.length)), (2, .int t), (1, .ref A.1), (0, .ref b)] [] 996 := by
  obtain ⟨C, hBA, hQ, hst, h23⟩ := id Lk
  have hlt : ∀ i, i < 23 → i < kn K := fun i h => by rw [h23]; exact h
  have hE := hQ.2.2.2.2.2
  have hN := hQ.sk.2.2.2.2
  obtain ⟨hr1, hr2⟩ := hr
  have hb2 := hb.xS sb
  have hpgs : ∀ z ∈ L, mPg z < 60 := fun z hz => (hb.mk hz).2.1
  have hr60 := hb.2.2.2.2.2.1.1
  refine V_sipush C (-30000 : Int32) 999 dL_law_996 rfl rfl ?_
  refine V_istore C 1001 [(16, .int (-30000 : Int32)), (15, .int w), (13, .ref s.1), (10, .ref h), (9, .int (nI r)), (8, .int (nI m)), (7, .int (nI (wEar L))), (6, .int (nI (wRib L))), (5, .int (nI (nRib L))), (4, .int (nI S.length)), (3, .int (nI L.length)), (2, .int t), (1, .ref A.1), (0, .ref b)] dL_law_999 rfl (hlt 16 (by decide)) rfl ?_
  refine V_iconst C (0 : Int32) 1002 dL_law_1001 rfl rfl ?_
  refine V_istore C 1004 [(17, .int (0 : Int32)), (16, .int (-30000 : Int32)), (15, .int w), (13, .ref s.1), (10, .ref h), (9, .int (nI r)), (8, .int (nI m)), (7, .int (nI (wEar L))), (6, .int (nI (wRib L))), (5, .int (nI (nRib L))), (4, .int (nI S.length)), (3, .int (nI L.length)), (2, .int t), (1, .ref A.1), (0, .ref b)] dL_law_1002 rfl (hlt 17 (by decide)) rfl ?_
  have loop : ∀ d p (v : Int32), p + d = 60 → Pv L p v → V K (cells + 3 * p) (slots + 18 * p) ([(h, aI g 60 f)] ++ (strW g s T.length fs ++ (xW g (aS A q) (xS x sb) ++ []))) [(17, .int (nI p)), (16, .int v), (15, .int w), (13, .ref s.1), (10, .ref h), (9, .int (nI r)), (8, .int (nI m)), (7, .int (nI (wEar L))), (6, .int (nI (wRib L))), (5, .int (nI (nRib L))), (4, .int (nI S.length)), (3, .int (nI L.length)), (2, .int t), (1, .ref A.1), (0, .ref b)] [] 1004 := by
    intro d
    induction d with
    | zero =>
      intro p v hd hv
      obtain rfl : p = 60 := by omega
      refine V_iload C 0 1006 dL_law_1004 rfl rfl ?_
      refine V_bipush C (60 : Int32) 1008 dL_law_1006 rfl rfl ?_
      refine V_icmp_ge C 1118 1011 dL_law_1008 rfl rfl (fun _ => ?_) (fun e => absurd (show (60 : Int32) ≤ nI 60 by decide) e)
      refine V_lv [2, 3, 4, 5, 6, 7, 8, 9, 10, 11, 12, 13, 14] (lv' := [(15, .int w), (13, .ref s.1), (10, .ref h), (9, .int (nI r)), (8, .int (nI m)), (7, .int (nI (wEar L))), (6, .int (nI (wRib L))), (5, .int (nI (nRib L))), (4, .int (nI S.length)), (3, .int (nI L.length)), (2, .int t), (1, .ref A.1), (0, .ref b)]) rfl ?_
      exact ke
    | succ d ih =>
      intro p v hd hv
      have hp60 : p < 60 := by omega
      have r1034 : ∀ v, Pv L (p + 1) v → V K (cells + 3 * p) (slots + 18 * p) ([(h, aI g 60 f)] ++ (strW g s T.length fs ++ (xW g (aS A q) (xS x sb) ++ []))) [(17, .int (nI p)), (16, .int v), (15, .int w), (13, .ref s.1), (10, .ref h), (9, .int (nI r)), (8, .int (nI m)), (7, .int (nI (wEar L))), (6, .int (nI (wRib L))), (5, .int (nI (nRib L))), (4, .int (nI S.length)), (3, .int (nI L.length)), (2, .int t), (1, .ref A.1), (0, .ref b)] [] 1034 := by
        intro v hv
        obtain ⟨v2, hv2⟩ := Nx.ex hpgs (60 - p) p (by omega)
        refine V_aload_n C 13 1035 dL_law_1034 rfl rfl ?_
        refine V_iload C 0 1037 dL_law_1035 rfl rfl ?_
        rcases id hv.prev with ⟨y, hy, rfl⟩ | ⟨hy, rfl⟩
        · have hyi := (hb.mk (nrs1.mp hy).1).1
          have hyp := (nrs1.mp hy).2.1
          rcases id hv2 with ⟨z, hz, rfl⟩ | ⟨hz, rfl⟩
          · have hzi := (hb.mk (nrs0.mp hz).1).1
            have hzp := (nrs0.mp hz).2.1
            have hz60 := hpgs z (nrs0.mp hz).1
            refine V_callH C hBA hQ hN lh_nextMark (pre := ([(h, aI g 60 f)] ++ (strW g s T.length fs))) (w0 := xW g (aS A q) (xS x sb)) (post := []) (as := [.ref A.1, .int (nI p)]) (rest := []) (w_nextMark hst (q_next1 hb2 hp60 hz)) dL_law_1037 ⟨Nat.le_of_ble_eq_true rfl, Nat.le_of_ble_eq_true rfl⟩ rfl rfl rfl (Nat.le_of_ble_eq_true rfl) ⟨by show cells + 3 * p + 1 ≤ 600516; omega, by show slots + 18 * p + 6 ≤ 7283748; omega⟩ (fun rv w1 hP => ?_)
            obtain ⟨rfl, rfl⟩ := hP
            show V K (cells + 3 * p + 1) (slots + 18 * p + 6) ([(h, aI g 60 f)] ++ (strW g s T.length fs ++ (xW g (aS A q) (xS x sb) ++ []))) [(17, .int (nI p)), (16, .int (nI (mId y))), (15, .int w), (13, .ref s.1), (10, .ref h), (9, .int (nI r)), (8, .int (nI m)), (7, .int (nI (wEar L))), (6, .int (nI (wRib L))), (5, .int (nI (nRib L))), (4, .int (nI S.length)), (3, .int (nI L.length)), (2, .int t), (1, .ref A.1), (0, .ref b)] [.int (nI (mId z))] 1040
            refine V_istore C 1042 [(14, .int (nI (mId z))), (17, .int (nI p)), (16, .int (nI (mId y))), (15, .int w), (13, .ref s.1), (10, .ref h), (9, .int (nI r)), (8, .int (nI m)), (7, .int (nI (wEar L))), (6, .int (nI (wRib L))), (5, .int (nI (nRib L))), (4, .int (nI S.length)), (3, .int (nI L.length)), (2, .int t), (1, .ref A.1), (0, .ref b)] dL_law_1040 rfl (hlt 14 (by decide)) rfl ?_
            refine V_iload C 2 1044 dL_law_1042 rfl rfl ?_
            refine V_sipush C (-30000 : Int32) 1047 dL_law_1044 rfl rfl ?_
            refine V_icmp_eq C 1079 1050 dL_law_1047 rfl rfl (fun e => absurd e (nI_no (by omega))) (fun _ => ?_)
            refine V_iload C 0 1052 dL_law_1050 rfl rfl ?_
            refine V_sipush C (-30000 : Int32) 1055 dL_law_1052 rfl rfl ?_
            refine V_icmp_eq C 1084 1058 dL_law_1055 rfl rfl (fun e => absurd e (nI_no (by omega))) (fun _ => ?_)
            refine V_aload_n C 14 1059 dL_law_1058 rfl rfl ?_
            refine V_iload C 0 1061 dL_law_1059 rfl rfl ?_
            refine V_callXr C hBA hE ml_L_136 (pre := ([(h, aI g 60 f)] ++ (strW g s T.length fs))) (post := []) (wc := xW g (aS A q) (xS x sb)) (w1 := xW g (aS A q) (xS x sb)) (rv := some (.int (nI (mPg z)))) (as := [.int (nI (mId z))]) (rest := []) (c_X3_pageOf (R := .inl ((nI (mPg z)), (xS x sb))) hst (q_pageOf hb2 (nrs0.mp hz).1)) 3 1064 ([(h, aI g 60 f)] ++ (strW g s T.length fs ++ (xW g (aS A q) (xS x sb) ++ []))) dL_law_1061 rfl ⟨Nat.le_of_ble_eq_true rfl, Nat.le_of_ble_eq_true rfl⟩ rfl rfl rfl (xW_fst _ _ _ _) rfl rfl rfl (Nat.le_of_ble_eq_true rfl) ⟨by show cells + 3 * p + 1 + 0 ≤ 600516; omega, by show slots + 18 * p + 6 + 0 ≤ 7283748; omega⟩ ?_
            refine V_iload C 1 1066 dL_law_1064 rfl rfl ?_
            refine V_isub C 1067 dL_law_1066 rfl ?_
            refine V_iload C 1 1069 dL_law_1067 rfl rfl ?_
            refine V_aload_n C 14 1070 dL_law_1069 rfl rfl ?_
            refine V_iload C 2 1072 dL_law_1070 rfl rfl ?_
            refine V_callXr C hBA hE ml_L_136 (pre := ([(h, aI g 60 f)] ++ (strW g s T.length fs))) (post := []) (wc := xW g (aS A q) (xS x sb)) (w1 := xW g (aS A q) (xS x sb)) (rv := some (.int (nI (mPg y)))) (as := [.int (nI (mId y))]) (rest := [.int (nI p), .int ((nI (mPg z)) - (nI p))]) (c_X3_pageOf (R := .inl ((nI (mPg y)), (xS x sb))) hst (q_pageOf hb2 (nrs1.mp hy).1)) 3 1075 ([(h, aI g 60 f)] ++ (strW g s T.length fs ++ (xW g (aS A q) (xS x sb) ++ []))) dL_law_1072 rfl ⟨Nat.le_of_ble_eq_true rfl, Nat.le_of_ble_eq_true rfl⟩ rfl rfl rfl (xW_fst _ _ _ _) rfl rfl rfl (Nat.le_of_ble_eq_true rfl) ⟨by show cells + 3 * p + 1 + 0 ≤ 600516; omega, by show slots + 18 * p + 6 + 0 ≤ 7283748; omega⟩ ?_
            refine V_isub C 1076 dL_law_1075 rfl ?_
            refine V_st (st2 := [.int (nI (p - mPg y)), .int ((nI (mPg z)) - (nI p))]) (by rw [pk_sub hyp] <;> rfl) ?_
            refine V_st (st2 := [.int (nI (p - mPg y)), .int (nI (mPg z - p))]) (by rw [pk_sub hzp] <;> rfl) ?_
            by_cases hcmp : mPg z - p < p - mPg y
            · refine V_icmp_ge C 1084 1079 dL_law_1076 rfl rfl (fun e => absurd e (show ¬ nI (p - mPg y) ≤ nI (mPg z - p) from w_nle hcmp)) (fun _ => ?_)
              refine V_iload C 0 1081 dL_law_1079 rfl rfl ?_
              refine V_goto C 1086 dL_law_1081 rfl ?_
              refine V_istore C 1088 [(18, .int (nI (mId z))), (14, .int (nI (mId z))), (17, .int (nI p)), (16, .int (nI (mId y))), (15, .int w), (13, .ref s.1), (10, .ref h), (9, .int (nI r)), (8, .int (nI m)), (7, .int (nI (wEar L))), (6, .int (nI (wRib L))), (5, .int (nI (nRib L))), (4, .int (nI S.length)), (3, .int (nI L.length)), (2, .int t), (1, .ref A.1), (0, .ref b)] dL_law_1086 rfl (hlt 18 (by decide)) rfl ?_
              refine V_aload_n C 15 1089 dL_law_1088 rfl rfl ?_
              refine V_iload C 2 1091 dL_law_1089 rfl rfl ?_
              refine V_callH C hBA hQ hN lh_previousMark (pre := ([(h, aI g 60 f)] ++ (strW g s T.length fs))) (w0 := xW g (aS A q) (xS x sb)) (post := []) (as := [.ref A.1, .int (nI p)]) (rest := []) (w_previousMark hst (q_prev1 hb2 hp60 hy)) dL_law_1091 ⟨Nat.le_of_ble_eq_true rfl, Nat.le_of_ble_eq_true rfl⟩ rfl rfl rfl (Nat.le_of_ble_eq_true rfl) ⟨by show cells + 3 * p + 1 + 1 ≤ 600516; omega, by show slots + 18 * p + 6 + 6 ≤ 7283748; omega⟩ (fun rv w1 hP => ?_)
              obtain ⟨rfl, rfl⟩ := hP
              show V K (cells + 3 * p + 1 + 1) (slots + 18 * p + 6 + 6) ([(h, aI g 60 f)] ++ (strW g s T.length fs ++ (xW g (aS A q) (xS x sb) ++ []))) [(18, .int (nI (mId z))), (14, .int (nI (mId z))), (17, .int (nI p)), (16, .int (nI (mId y))), (15, .int w), (13, .ref s.1), (10, .ref h), (9, .int (nI r)), (8, .int (nI m)), (7, .int (nI (wEar L))), (6, .int (nI (wRib L))), (5, .int (nI (nRib L))), (4, .int (nI S.length)), (3, .int (nI L.length)), (2, .int t), (1, .ref A.1), (0, .ref b)] [.int (nI (mId y))] 1094
              refine V_iload C 3 1096 dL_law_1094 rfl rfl ?_
              refine V_icmp_ne C 1110 1099 dL_law_1096 rfl rfl (fun e => absurd rfl e) (fun _ => ?_)
              refine V_aload_n C 15 1100 dL_law_1099 rfl rfl ?_
              refine V_iload C 2 1102 dL_law_1100 rfl rfl ?_
              refine V_callH C hBA hQ hN lh_nearestMark (pre := ([(h, aI g 60 f)] ++ (strW g s T.length fs))) (w0 := xW g (aS A q) (xS x sb)) (post := []) (as := [.ref A.1, .int (nI p)]) (rest := []) (w_nearestMark hst (q_near1 hb2 hp60 (near_1 hy hz hcmp))) dL_law_1102 ⟨Nat.le_of_ble_eq_true rfl, Nat.le_of_ble_eq_true rfl⟩ rfl rfl rfl (Nat.le_of_ble_eq_true rfl) ⟨by show cells + 3 * p + 1 + 1 + 1 ≤ 600516; omega, by show slots + 18 * p + 6 + 6 + 6 ≤ 7283748; omega⟩ (fun rv w1 hP => ?_)
              obtain ⟨rfl, rfl⟩ := hP
              show V K (cells + 3 * p + 1 + 1 + 1) (slots + 18 * p + 6 + 6 + 6) ([(h, aI g 60 f)] ++ (strW g s T.length fs ++ (xW g (aS A q) (xS x sb) ++ []))) [(18, .int (nI (mId z))), (14, .int (nI (mId z))), (17, .int (nI p)), (16, .int (nI (mId y))), (15, .int w), (13, .ref s.1), (10, .ref h), (9, .int (nI r)), (8, .int (nI m)), (7, .int (nI (wEar L))), (6, .int (nI (wRib L))), (5, .int (nI (nRib L))), (4, .int (nI S.length)), (3, .int (nI L.length)), (2, .int t), (1, .ref A.1), (0, .ref b)] [.int (nI (mId z))] 1105
              refine V_iload C 0 1107 dL_law_1105 rfl rfl ?_
              refine V_icmp_eq C 1112 1110 dL_law_1107 rfl rfl (fun _ => ?_) (fun e => absurd rfl e)
              refine V_lv [2, 3, 4, 5, 6, 7, 8, 9, 10, 11, 12, 13, 14, 15, 16] (lv' := [(17, .int (nI p)), (16, .int (nI (mId y))), (15, .int w), (13, .ref s.1), (10, .ref h), (9, .int (nI r)), (8, .int (nI m)), (7, .int (nI (wEar L))), (6, .int (nI (wRib L))), (5, .int (nI (nRib L))), (4, .int (nI S.length)), (3, .int (nI L.length)), (2, .int t), (1, .ref A.1), (0, .ref b)]) rfl ?_
              refine V_iinc C 0 (nI (p + 1)) 1115 [(17, .int (nI (p + 1))), (16, .int (nI (mId y))), (15, .int w), (13, .ref s.1), (10, .ref h), (9, .int (nI r)), (8, .int (nI m)), (7, .int (nI (wEar L))), (6, .int (nI (wRib L))), (5, .int (nI (nRib L))), (4, .int (nI S.length)), (3, .int (nI L.length)), (2, .int t), (1, .ref A.1), (0, .ref b)] dL_law_1112 rfl rfl (nI_1 p) (hlt 17 (by decide)) rfl ?_
              refine V_goto C 1004 dL_law_1115 rfl ?_
              exact V_widen (by omega) (by omega) (ih (p + 1) _ (by omega) hv)
            · refine V_icmp_ge C 1084 1079 dL_law_1076 rfl rfl (fun _ => ?_) (fun e => absurd (show nI (p - mPg y) ≤ nI (mPg z - p) from w_le (by omega)) e)
              refine V_iload C 2 1086 dL_law_1084 rfl rfl ?_
              refine V_istore C 1088 [(18, .int (nI (mId y))), (14, .int (nI (mId z))), (17, .int (nI p)), (16, .int (nI (mId y))), (15, .int w), (13, .ref s.1), (10, .ref h), (9, .int (nI r)), (8, .int (nI m)), (7, .int (nI (wEar L))), (6, .int (nI (wRib L))), (5, .int (nI (nRib L))), (4, .int (nI S.length)), (3, .int (nI L.length)), (2, .int t), (1, .ref A.1), (0, .ref b)] dL_law_1086 rfl (hlt 18 (by decide)) rfl ?_
              refine V_aload_n C 15 1089 dL_law_1088 rfl rfl ?_
              refine V_iload C 2 1091 dL_law_1089 rfl rfl ?_
              refine V_callH C hBA hQ hN lh_previousMark (pre := ([(h, aI g 60 f)] ++ (strW g s T.length fs))) (w0 := xW g (aS A q) (xS x sb)) (post := []) (as := [.ref A.1, .int (nI p)]) (rest := []) (w_previousMark hst (q_prev1 hb2 hp60 hy)) dL_law_1091 ⟨Nat.le_of_ble_eq_true rfl, Nat.le_of_ble_eq_true rfl⟩ rfl rfl rfl (Nat.le_of_ble_eq_true rfl) ⟨by show cells + 3 * p + 1 + 1 ≤ 600516; omega, by show slots + 18 * p + 6 + 6 ≤ 7283748; omega⟩ (fun rv w1 hP => ?_)
              obtain ⟨rfl, rfl⟩ := hP
              show V K (cells + 3 * p + 1 + 1) (slots + 18 * p + 6 + 6) ([(h, aI g 60 f)] ++ (strW g s T.length fs ++ (xW g (aS A q) (xS x sb) ++ []))) [(18, .int (nI (mId y))), (14, .int (nI (mId z))), (17, .int (nI p)), (16, .int (nI (mId y))), (15, .int w), (13, .ref s.1), (10, .ref h), (9, .int (nI r)), (8, .int (nI m)), (7, .int (nI (wEar L))), (6, .int (nI (wRib L))), (5, .int (nI (nRib L))), (4, .int (nI S.length)), (3, .int (nI L.length)), (2, .int t), (1, .ref A.1), (0, .ref b)] [.int (nI (mId y))] 1094
              refine V_iload C 3 1096 dL_law_1094 rfl rfl ?_
              refine V_icmp_ne C 1110 1099 dL_law_1096 rfl rfl (fun e => absurd rfl e) (fun _ => ?_)
              refine V_aload_n C 15 1100 dL_law_1099 rfl rfl ?_
              refine V_iload C 2 1102 dL_law_1100 rfl rfl ?_
              refine V_callH C hBA hQ hN lh_nearestMark (pre := ([(h, aI g 60 f)] ++ (strW g s T.length fs))) (w0 := xW g (aS A q) (xS x sb)) (post := []) (as := [.ref A.1, .int (nI p)]) (rest := []) (w_nearestMark hst (q_near1 hb2 hp60 (near_2 hy hz (by omega)))) dL_law_1102 ⟨Nat.le_of_ble_eq_true rfl, Nat.le_of_ble_eq_true rfl⟩ rfl rfl rfl (Nat.le_of_ble_eq_true rfl) ⟨by show cells + 3 * p + 1 + 1 + 1 ≤ 600516; omega, by show slots + 18 * p + 6 + 6 + 6 ≤ 7283748; omega⟩ (fun rv w1 hP => ?_)
              obtain ⟨rfl, rfl⟩ := hP
              show V K (cells + 3 * p + 1 + 1 + 1) (slots + 18 * p + 6 + 6 + 6) ([(h, aI g 60 f)] ++ (strW g s T.length fs ++ (xW g (aS A q) (xS x sb) ++ []))) [(18, .int (nI (mId y))), (14, .int (nI (mId z))), (17, .int (nI p)), (16, .int (nI (mId y))), (15, .int w), (13, .ref s.1), (10, .ref h), (9, .int (nI r)), (8, .int (nI m)), (7, .int (nI (wEar L))), (6, .int (nI (wRib L))), (5, .int (nI (nRib L))), (4, .int (nI S.length)), (3, .int (nI L.length)), (2, .int t), (1, .ref A.1), (0, .ref b)] [.int (nI (mId y))] 1105
              refine V_iload C 0 1107 dL_law_1105 rfl rfl ?_
              refine V_icmp_eq C 1112 1110 dL_law_1107 rfl rfl (fun _ => ?_) (fun e => absurd rfl e)
              refine V_lv [2, 3, 4, 5, 6, 7, 8, 9, 10, 11, 12, 13, 14, 15, 16] (lv' := [(17, .int (nI p)), (16, .int (nI (mId y))), (15, .int w), (13, .ref s.1), (10, .ref h), (9, .int (nI r)), (8, .int (nI m)), (7, .int (nI (wEar L))), (6, .int (nI (wRib L))), (5, .int (nI (nRib L))), (4, .int (nI S.length)), (3, .int (nI L.length)), (2, .int t), (1, .ref A.1), (0, .ref b)]) rfl ?_
              refine V_iinc C 0 (nI (p + 1)) 1115 [(17, .int (nI (p + 1))), (16, .int (nI (mId y))), (15, .int w), (13, .ref s.1), (10, .ref h), (9, .int (nI r)), (8, .int (nI m)), (7, .int (nI (wEar L))), (6, .int (nI (wRib L))), (5, .int (nI (nRib L))), (4, .int (nI S.length)), (3, .int (nI L.length)), (2, .int t), (1, .ref A.1), (0, .ref b)] dL_law_1112 rfl rfl (nI_1 p) (hlt 17 (by decide)) rfl ?_
              refine V_goto C 1004 dL_law_1115 rfl ?_
              exact V_widen (by omega) (by omega) (ih (p + 1) _ (by omega) hv)
          · refine V_callH C hBA hQ hN lh_nextMark (pre := ([(h, aI g 60 f)] ++ (strW g s T.length fs))) (w0 := xW g (aS A q) (xS x sb)) (post := []) (as := [.ref A.1, .int (nI p)]) (rest := []) (wX_nextMark hst (q_next0 hb2 hp60 hz)) dL_law_1037 ⟨Nat.le_of_ble_eq_true rfl, Nat.le_of_ble_eq_true rfl⟩ rfl rfl rfl (Nat.le_of_ble_eq_true rfl) ⟨by show cells + 3 * p + 1 ≤ 600516; omega, by show slots + 18 * p + 6 ≤ 7283748; omega⟩ (fun rv w1 hP => ?_)
            obtain ⟨rfl, rfl⟩ := hP
            show V K (cells + 3 * p + 1) (slots + 18 * p + 6) ([(h, aI g 60 f)] ++ (strW g s T.length fs ++ (xW g (aS A q) (xS x sb) ++ []))) [(17, .int (nI p)), (16, .int (nI (mId y))), (15, .int w), (13, .ref s.1), (10, .ref h), (9, .int (nI r)), (8, .int (nI m)), (7, .int (nI (wEar L))), (6, .int (nI (wRib L))), (5, .int (nI (nRib L))), (4, .int (nI S.length)), (3, .int (nI L.length)), (2, .int t), (1, .ref A.1), (0, .ref b)] [.int (-30000 : Int32)] 1040
            refine V_istore C 1042 [(14, .int (-30000 : Int32)), (17, .int (nI p)), (16, .int (nI (mId y))), (15, .int w), (13, .ref s.1), (10, .ref h), (9, .int (nI r)), (8, .int (nI m)), (7, .int (nI (wEar L))), (6, .int (nI (wRib L))), (5, .int (nI (nRib L))), (4, .int (nI S.length)), (3, .int (nI L.length)), (2, .int t), (1, .ref A.1), (0, .ref b)] dL_law_1040 rfl (hlt 14 (by decide)) rfl ?_
            refine V_iload C 2 1044 dL_law_1042 rfl rfl ?_
            refine V_sipush C (-30000 : Int32) 1047 dL_law_1044 rfl rfl ?_
            refine V_icmp_eq C 1079 1050 dL_law_1047 rfl rfl (fun e => absurd e (nI_no (by omega))) (fun _ => ?_)
            refine V_iload C 0 1052 dL_law_1050 rfl rfl ?_
            refine V_sipush C (-30000 : Int32) 1055 dL_law_1052 rfl rfl ?_
            refine V_icmp_eq C 1084 1058 dL_law_1055 rfl rfl (fun _ => ?_) (fun e => absurd rfl e)
            refine V_iload C 2 1086 dL_law_1084 rfl rfl ?_
            refine V_istore C 1088 [(18, .int (nI (mId y))), (14, .int (-30000 : Int32)), (17, .int (nI p)), (16, .int (nI (mId y))), (15, .int w), (13, .ref s.1), (10, .ref h), (9, .int (nI r)), (8, .int (nI m)), (7, .int (nI (wEar L))), (6, .int (nI (wRib L))), (5, .int (nI (nRib L))), (4, .int (nI S.length)), (3, .int (nI L.length)), (2, .int t), (1, .ref A.1), (0, .ref b)] dL_law_1086 rfl (hlt 18 (by decide)) rfl ?_
            refine V_aload_n C 15 1089 dL_law_1088 rfl rfl ?_
            refine V_iload C 2 1091 dL_law_1089 rfl rfl ?_
            refine V_callH C hBA hQ hN lh_previousMark (pre := ([(h, aI g 60 f)] ++ (strW g s T.length fs))) (w0 := xW g (aS A q) (xS x sb)) (post := []) (as := [.ref A.1, .int (nI p)]) (rest := []) (w_previousMark hst (q_prev1 hb2 hp60 hy)) dL_law_1091 ⟨Nat.le_of_ble_eq_true rfl, Nat.le_of_ble_eq_true rfl⟩ rfl rfl rfl (Nat.le_of_ble_eq_true rfl) ⟨by show cells + 3 * p + 1 + 1 ≤ 600516; omega, by show slots + 18 * p + 6 + 6 ≤ 7283748; omega⟩ (fun rv w1 hP => ?_)
            obtain ⟨rfl, rfl⟩ := hP
            show V K (cells + 3 * p + 1 + 1) (slots + 18 * p + 6 + 6) ([(h, aI g 60 f)] ++ (strW g s T.length fs ++ (xW g (aS A q) (xS x sb) ++ []))) [(18, .int (nI (mId y))), (14, .int (-30000 : Int32)), (17, .int (nI p)), (16, .int (nI (mId y))), (15, .int w), (13, .ref s.1), (10, .ref h), (9, .int (nI r)), (8, .int (nI m)), (7, .int (nI (wEar L))), (6, .int (nI (wRib L))), (5, .int (nI (nRib L))), (4, .int (nI S.length)), (3, .int (nI L.length)), (2, .int t), (1, .ref A.1), (0, .ref b)] [.int (nI (mId y))] 1094
            refine V_iload C 3 1096 dL_law_1094 rfl rfl ?_
            refine V_icmp_ne C 1110 1099 dL_law_1096 rfl rfl (fun e => absurd rfl e) (fun _ => ?_)
            refine V_aload_n C 15 1100 dL_law_1099 rfl rfl ?_
            refine V_iload C 2 1102 dL_law_1100 rfl rfl ?_
            refine V_callH C hBA hQ hN lh_nearestMark (pre := ([(h, aI g 60 f)] ++ (strW g s T.length fs))) (w0 := xW g (aS A q) (xS x sb)) (post := []) (as := [.ref A.1, .int (nI p)]) (rest := []) (w_nearestMark hst (q_near1 hb2 hp60 (near_p hy hz))) dL_law_1102 ⟨Nat.le_of_ble_eq_true rfl, Nat.le_of_ble_eq_true rfl⟩ rfl rfl rfl (Nat.le_of_ble_eq_true rfl) ⟨by show cells + 3 * p + 1 + 1 + 1 ≤ 600516; omega, by show slots + 18 * p + 6 + 6 + 6 ≤ 7283748; omega⟩ (fun rv w1 hP => ?_)
            obtain ⟨rfl, rfl⟩ := hP
            show V K (cells + 3 * p + 1 + 1 + 1) (slots + 18 * p + 6 + 6 + 6) ([(h, aI g 60 f)] ++ (strW g s T.length fs ++ (xW g (aS A q) (xS x sb) ++ []))) [(18, .int (nI (mId y))), (14, .int (-30000 : Int32)), (17, .int (nI p)), (16, .int (nI (mId y))), (15, .int w), (13, .ref s.1), (10, .ref h), (9, .int (nI r)), (8, .int (nI m)), (7, .int (nI (wEar L))), (6, .int (nI (wRib L))), (5, .int (nI (nRib L))), (4, .int (nI S.length)), (3, .int (nI L.length)), (2, .int t), (1, .ref A.1), (0, .ref b)] [.int (nI (mId y))] 1105
            refine V_iload C 0 1107 dL_law_1105 rfl rfl ?_
            refine V_icmp_eq C 1112 1110 dL_law_1107 rfl rfl (fun _ => ?_) (fun e => absurd rfl e)
            refine V_lv [2, 3, 4, 5, 6, 7, 8, 9, 10, 11, 12, 13, 14, 15, 16] (lv' := [(17, .int (nI p)), (16, .int (nI (mId y))), (15, .int w), (13, .ref s.1), (10, .ref h), (9, .int (nI r)), (8, .int (nI m)), (7, .int (nI (wEar L))), (6, .int (nI (wRib L))), (5, .int (nI (nRib L))), (4, .int (nI S.length)), (3, .int (nI L.length)), (2, .int t), (1, .ref A.1), (0, .ref b)]) rfl ?_
            refine V_iinc C 0 (nI (p + 1)) 1115 [(17, .int (nI (p + 1))), (16, .int (nI (mId y))), (15, .int w), (13, .ref s.1), (10, .ref h), (9, .int (nI r)), (8, .int (nI m)), (7, .int (nI (wEar L))), (6, .int (nI (wRib L))), (5, .int (nI (nRib L))), (4, .int (nI S.length)), (3, .int (nI L.length)), (2, .int t), (1, .ref A.1), (0, .ref b)] dL_law_1112 rfl rfl (nI_1 p) (hlt 17 (by decide)) rfl ?_
            refine V_goto C 1004 dL_law_1115 rfl ?_
            exact V_widen (by omega) (by omega) (ih (p + 1) _ (by omega) hv)
        · rcases id hv2 with ⟨z, hz, rfl⟩ | ⟨hz, rfl⟩
          · have hzi := (hb.mk (nrs0.mp hz).1).1
            have hzp := (nrs0.mp hz).2.1
            have hz60 := hpgs z (nrs0.mp hz).1
            refine V_callH C hBA hQ hN lh_nextMark (pre := ([(h, aI g 60 f)] ++ (strW g s T.length fs))) (w0 := xW g (aS A q) (xS x sb)) (post := []) (as := [.ref A.1, .int (nI p)]) (rest := []) (w_nextMark hst (q_next1 hb2 hp60 hz)) dL_law_1037 ⟨Nat.le_of_ble_eq_true rfl, Nat.le_of_ble_eq_true rfl⟩ rfl rfl rfl (Nat.le_of_ble_eq_true rfl) ⟨by show cells + 3 * p + 1 ≤ 600516; omega, by show slots + 18 * p + 6 ≤ 7283748; omega⟩ (fun rv w1 hP => ?_)
            obtain ⟨rfl, rfl⟩ := hP
            show V K (cells + 3 * p + 1) (slots + 18 * p + 6) ([(h, aI g 60 f)] ++ (strW g s T.length fs ++ (xW g (aS A q) (xS x sb) ++ []))) [(17, .int (nI p)), (16, .int (-30000 : Int32)), (15, .int w), (13, .ref s.1), (10, .ref h), (9, .int (nI r)), (8, .int (nI m)), (7, .int (nI (wEar L))), (6, .int (nI (wRib L))), (5, .int (nI (nRib L))), (4, .int (nI S.length)), (3, .int (nI L.length)), (2, .int t), (1, .ref A.1), (0, .ref b)] [.int (nI (mId z))] 1040
            refine V_istore C 1042 [(14, .int (nI (mId z))), (17, .int (nI p)), (16, .int (-30000 : Int32)), (15, .int w), (13, .ref s.1), (10, .ref h), (9, .int (nI r)), (8, .int (nI m)), (7, .int (nI (wEar L))), (6, .int (nI (wRib L))), (5, .int (nI (nRib L))), (4, .int (nI S.length)), (3, .int (nI L.length)), (2, .int t), (1, .ref A.1), (0, .ref b)] dL_law_1040 rfl (hlt 14 (by decide)) rfl ?_
            refine V_iload C 2 1044 dL_law_1042 rfl rfl ?_
            refine V_sipush C (-30000 : Int32) 1047 dL_law_1044 rfl rfl ?_
            refine V_icmp_eq C 1079 1050 dL_law_1047 rfl rfl (fun _ => ?_) (fun e => absurd rfl e)
            refine V_iload C 0 1081 dL_law_1079 rfl rfl ?_
            refine V_goto C 1086 dL_law_1081 rfl ?_
            refine V_istore C 1088 [(18, .int (nI (mId z))), (14, .int (nI (mId z))), (17, .int (nI p)), (16, .int (-30000 : Int32)), (15, .int w), (13, .ref s.1), (10, .ref h), (9, .int (nI r)), (8, .int (nI m)), (7, .int (nI (wEar L))), (6, .int (nI (wRib L))), (5, .int (nI (nRib L))), (4, .int (nI S.length)), (3, .int (nI L.length)), (2, .int t), (1, .ref A.1), (0, .ref b)] dL_law_1086 rfl (hlt 18 (by decide)) rfl ?_
            refine V_aload_n C 15 1089 dL_law_1088 rfl rfl ?_
            refine V_iload C 2 1091 dL_law_1089 rfl rfl ?_
            refine V_callH C hBA hQ hN lh_previousMark (pre := ([(h, aI g 60 f)] ++ (strW g s T.length fs))) (w0 := xW g (aS A q) (xS x sb)) (post := []) (as := [.ref A.1, .int (nI p)]) (rest := []) (wX_previousMark hst (q_prev0 hb2 hp60 hy)) dL_law_1091 ⟨Nat.le_of_ble_eq_true rfl, Nat.le_of_ble_eq_true rfl⟩ rfl rfl rfl (Nat.le_of_ble_eq_true rfl) ⟨by show cells + 3 * p + 1 + 1 ≤ 600516; omega, by show slots + 18 * p + 6 + 6 ≤ 7283748; omega⟩ (fun rv w1 hP => ?_)
            obtain ⟨rfl, rfl⟩ := hP
            show V K (cells + 3 * p + 1 + 1) (slots + 18 * p + 6 + 6) ([(h, aI g 60 f)] ++ (strW g s T.length fs ++ (xW g (aS A q) (xS x sb) ++ []))) [(18, .int (nI (mId z))), (14, .int (nI (mId z))), (17, .int (nI p)), (16, .int (-30000 : Int32)), (15, .int w), (13, .ref s.1), (10, .ref h), (9, .int (nI r)), (8, .int (nI m)), (7, .int (nI (wEar L))), (6, .int (nI (wRib L))), (5, .int (nI (nRib L))), (4, .int (nI S.length)), (3, .int (nI L.length)), (2, .int t), (1, .ref A.1), (0, .ref b)] [.int (-30000 : Int32)] 1094
            refine V_iload C 3 1096 dL_law_1094 rfl rfl ?_
            refine V_icmp_ne C 1110 1099 dL_law_1096 rfl rfl (fun e => absurd rfl e) (fun _ => ?_)
            refine V_aload_n C 15 1100 dL_law_1099 rfl rfl ?_
            refine V_iload C 2 1102 dL_law_1100 rfl rfl ?_
            refine V_callH C hBA hQ hN lh_nearestMark (pre := ([(h, aI g 60 f)] ++ (strW g s T.length fs))) (w0 := xW g (aS A q) (xS x sb)) (post := []) (as := [.ref A.1, .int (nI p)]) (rest := []) (w_nearestMark hst (q_near1 hb2 hp60 (near_n hz hy))) dL_law_1102 ⟨Nat.le_of_ble_eq_true rfl, Nat.le_of_ble_eq_true rfl⟩ rfl rfl rfl (Nat.le_of_ble_eq_true rfl) ⟨by show cells + 3 * p + 1 + 1 + 1 ≤ 600516; omega, by show slots + 18 * p + 6 + 6 + 6 ≤ 7283748; omega⟩ (fun rv w1 hP => ?_)
            obtain ⟨rfl, rfl⟩ := hP
            show V K (cells + 3 * p + 1 + 1 + 1) (slots + 18 * p + 6 + 6 + 6) ([(h, aI g 60 f)] ++ (strW g s T.length fs ++ (xW g (aS A q) (xS x sb) ++ []))) [(18, .int (nI (mId z))), (14, .int (nI (mId z))), (17, .int (nI p)), (16, .int (-30000 : Int32)), (15, .int w), (13, .ref s.1), (10, .ref h), (9, .int (nI r)), (8, .int (nI m)), (7, .int (nI (wEar L))), (6, .int (nI (wRib L))), (5, .int (nI (nRib L))), (4, .int (nI S.length)), (3, .int (nI L.length)), (2, .int t), (1, .ref A.1), (0, .ref b)] [.int (nI (mId z))] 1105
            refine V_iload C 0 1107 dL_law_1105 rfl rfl ?_
            refine V_icmp_eq C 1112 1110 dL_law_1107 rfl rfl (fun _ => ?_) (fun e => absurd rfl e)
            refine V_lv [2, 3, 4, 5, 6, 7, 8, 9, 10, 11, 12, 13, 14, 15, 16] (lv' := [(17, .int (nI p)), (16, .int (-30000 : Int32)), (15, .int w), (13, .ref s.1), (10, .ref h), (9, .int (nI r)), (8, .int (nI m)), (7, .int (nI (wEar L))), (6, .int (nI (wRib L))), (5, .int (nI (nRib L))), (4, .int (nI S.length)), (3, .int (nI L.length)), (2, .int t), (1, .ref A.1), (0, .ref b)]) rfl ?_
            refine V_iinc C 0 (nI (p + 1)) 1115 [(17, .int (nI (p + 1))), (16, .int (-30000 : Int32)), (15, .int w), (13, .ref s.1), (10, .ref h), (9, .int (nI r)), (8, .int (nI m)), (7, .int (nI (wEar L))), (6, .int (nI (wRib L))), (5, .int (nI (nRib L))), (4, .int (nI S.length)), (3, .int (nI L.length)), (2, .int t), (1, .ref A.1), (0, .ref b)] dL_law_1112 rfl rfl (nI_1 p) (hlt 17 (by decide)) rfl ?_
            refine V_goto C 1004 dL_law_1115 rfl ?_
            exact V_widen (by omega) (by omega) (ih (p + 1) _ (by omega) hv)
          · refine V_callH C hBA hQ hN lh_nextMark (pre := ([(h, aI g 60 f)] ++ (strW g s T.length fs))) (w0 := xW g (aS A q) (xS x sb)) (post := []) (as := [.ref A.1, .int (nI p)]) (rest := []) (wX_nextMark hst (q_next0 hb2 hp60 hz)) dL_law_1037 ⟨Nat.le_of_ble_eq_true rfl, Nat.le_of_ble_eq_true rfl⟩ rfl rfl rfl (Nat.le_of_ble_eq_true rfl) ⟨by show cells + 3 * p + 1 ≤ 600516; omega, by show slots + 18 * p + 6 ≤ 7283748; omega⟩ (fun rv w1 hP => ?_)
            obtain ⟨rfl, rfl⟩ := hP
            show V K (cells + 3 * p + 1) (slots + 18 * p + 6) ([(h, aI g 60 f)] ++ (strW g s T.length fs ++ (xW g (aS A q) (xS x sb) ++ []))) [(17, .int (nI p)), (16, .int (-30000 : Int32)), (15, .int w), (13, .ref s.1), (10, .ref h), (9, .int (nI r)), (8, .int (nI m)), (7, .int (nI (wEar L))), (6, .int (nI (wRib L))), (5, .int (nI (nRib L))), (4, .int (nI S.length)), (3, .int (nI L.length)), (2, .int t), (1, .ref A.1), (0, .ref b)] [.int (-30000 : Int32)] 1040
            refine V_istore C 1042 [(14, .int (-30000 : Int32)), (17, .int (nI p)), (16, .int (-30000 : Int32)), (15, .int w), (13, .ref s.1), (10, .ref h), (9, .int (nI r)), (8, .int (nI m)), (7, .int (nI (wEar L))), (6, .int (nI (wRib L))), (5, .int (nI (nRib L))), (4, .int (nI S.length)), (3, .int (nI L.length)), (2, .int t), (1, .ref A.1), (0, .ref b)] dL_law_1040 rfl (hlt 14 (by decide)) rfl ?_
            refine V_iload C 2 1044 dL_law_1042 rfl rfl ?_
            refine V_sipush C (-30000 : Int32) 1047 dL_law_1044 rfl rfl ?_
            refine V_icmp_eq C 1079 1050 dL_law_1047 rfl rfl (fun _ => ?_) (fun e => absurd rfl e)
            refine V_iload C 0 1081 dL_law_1079 rfl rfl ?_
            refine V_goto C 1086 dL_law_1081 rfl ?_
            refine V_istore C 1088 [(18, .int (-30000 : Int32)), (14, .int (-30000 : Int32)), (17, .int (nI p)), (16, .int (-30000 : Int32)), (15, .int w), (13, .ref s.1), (10, .ref h), (9, .int (nI r)), (8, .int (nI m)), (7, .int (nI (wEar L))), (6, .int (nI (wRib L))), (5, .int (nI (nRib L))), (4, .int (nI S.length)), (3, .int (nI L.length)), (2, .int t), (1, .ref A.1), (0, .ref b)] dL_law_1086 rfl (hlt 18 (by decide)) rfl ?_
            refine V_aload_n C 15 1089 dL_law_1088 rfl rfl ?_
            refine V_iload C 2 1091 dL_law_1089 rfl rfl ?_
            refine V_callH C hBA hQ hN lh_previousMark (pre := ([(h, aI g 60 f)] ++ (strW g s T.length fs))) (w0 := xW g (aS A q) (xS x sb)) (post := []) (as := [.ref A.1, .int (nI p)]) (rest := []) (wX_previousMark hst (q_prev0 hb2 hp60 hy)) dL_law_1091 ⟨Nat.le_of_ble_eq_true rfl, Nat.le_of_ble_eq_true rfl⟩ rfl rfl rfl (Nat.le_of_ble_eq_true rfl) ⟨by show cells + 3 * p + 1 + 1 ≤ 600516; omega, by show slots + 18 * p + 6 + 6 ≤ 7283748; omega⟩ (fun rv w1 hP => ?_)
            obtain ⟨rfl, rfl⟩ := hP
            show V K (cells + 3 * p + 1 + 1) (slots + 18 * p + 6 + 6) ([(h, aI g 60 f)] ++ (strW g s T.length fs ++ (xW g (aS A q) (xS x sb) ++ []))) [(18, .int (-30000 : Int32)), (14, .int (-30000 : Int32)), (17, .int (nI p)), (16, .int (-30000 : Int32)), (15, .int w), (13, .ref s.1), (10, .ref h), (9, .int (nI r)), (8, .int (nI m)), (7, .int (nI (wEar L))), (6, .int (nI (wRib L))), (5, .int (nI (nRib L))), (4, .int (nI S.length)), (3, .int (nI L.length)), (2, .int t), (1, .ref A.1), (0, .ref b)] [.int (-30000 : Int32)] 1094
            refine V_iload C 3 1096 dL_law_1094 rfl rfl ?_
            refine V_icmp_ne C 1110 1099 dL_law_1096 rfl rfl (fun e => absurd rfl e) (fun _ => ?_)
            refine V_aload_n C 15 1100 dL_law_1099 rfl rfl ?_
            refine V_iload C 2 1102 dL_law_1100 rfl rfl ?_
            refine V_callH C hBA hQ hN lh_nearestMark (pre := ([(h, aI g 60 f)] ++ (strW g s T.length fs))) (w0 := xW g (aS A q) (xS x sb)) (post := []) (as := [.ref A.1, .int (nI p)]) (rest := []) (wX_nearestMark hst (q_near0 hb2 hp60 (near_0 hz hy))) dL_law_1102 ⟨Nat.le_of_ble_eq_true rfl, Nat.le_of_ble_eq_true rfl⟩ rfl rfl rfl (Nat.le_of_ble_eq_true rfl) ⟨by show cells + 3 * p + 1 + 1 + 1 ≤ 600516; omega, by show slots + 18 * p + 6 + 6 + 6 ≤ 7283748; omega⟩ (fun rv w1 hP => ?_)
            obtain ⟨rfl, rfl⟩ := hP
            show V K (cells + 3 * p + 1 + 1 + 1) (slots + 18 * p + 6 + 6 + 6) ([(h, aI g 60 f)] ++ (strW g s T.length fs ++ (xW g (aS A q) (xS x sb) ++ []))) [(18, .int (-30000 : Int32)), (14, .int (-30000 : Int32)), (17, .int (nI p)), (16, .int (-30000 : Int32)), (15, .int w), (13, .ref s.1), (10, .ref h), (9, .int (nI r)), (8, .int (nI m)), (7, .int (nI (wEar L))), (6, .int (nI (wRib L))), (5, .int (nI (nRib L))), (4, .int (nI S.length)), (3, .int (nI L.length)), (2, .int t), (1, .ref A.1), (0, .ref b)] [.int (-30000 : Int32)] 1105
            refine V_iload C 0 1107 dL_law_1105 rfl rfl ?_
            refine V_icmp_eq C 1112 1110 dL_law_1107 rfl rfl (fun _ => ?_) (fun e => absurd rfl e)
            refine V_lv [2, 3, 4, 5, 6, 7, 8, 9, 10, 11, 12, 13, 14, 15, 16] (lv' := [(17, .int (nI p)), (16, .int (-30000 : Int32)), (15, .int w), (13, .ref s.1), (10, .ref h), (9, .int (nI r)), (8, .int (nI m)), (7, .int (nI (wEar L))), (6, .int (nI (wRib L))), (5, .int (nI (nRib L))), (4, .int (nI S.length)), (3, .int (nI L.length)), (2, .int t), (1, .ref A.1), (0, .ref b)]) rfl ?_
            refine V_iinc C 0 (nI (p + 1)) 1115 [(17, .int (nI (p + 1))), (16, .int (-30000 : Int32)), (15, .int w), (13, .ref s.1), (10, .ref h), (9, .int (nI r)), (8, .int (nI m)), (7, .int (nI (wEar L))), (6, .int (nI (wRib L))), (5, .int (nI (nRib L))), (4, .int (nI S.length)), (3, .int (nI L.length)), (2, .int t), (1, .ref A.1), (0, .ref b)] dL_law_1112 rfl rfl (nI_1 p) (hlt 17 (by decide)) rfl ?_
            refine V_goto C 1004 dL_law_1115 rfl ?_
            exact V_widen (by omega) (by omega) (ih (p + 1) _ (by omega) hv)
      by_cases hno : ∀ z ∈ L, mPg z ≠ p
      · have hfz : f p = -30000 := (hf p hp60).1 hno
        refine V_iload C 0 1006 dL_law_1004 rfl rfl ?_
        refine V_bipush C (60 : Int32) 1008 dL_law_1006 rfl rfl ?_
        refine V_icmp_ge C 1118 1011 dL_law_1008 rfl rfl (fun e => absurd e (show ¬ (60 : Int32) ≤ nI p from w_nle (a := 60) (by omega))) (fun _ => ?_)
        refine V_aload C 4 1013 dL_law_1011 rfl rfl ?_
        refine V_iload C 0 1015 dL_law_1013 rfl rfl ?_
        refine V_iald C (f := f) (n := 60) 0 1016 dL_law_1015 rfl rfl (inb_of (vp_in_nI hp60 (by decide))) ?_
        refine V_st (st2 := [.int (-30000 : Int32)]) (by rw [cl_n (by omega), hfz] <;> rfl) ?_
        refine V_sipush C (-30000 : Int32) 1019 dL_law_1016 rfl rfl ?_
        refine V_icmp_eq C 1030 1022 dL_law_1019 rfl rfl (fun _ => ?_) (fun e => absurd rfl e)
        refine V_iload C 1 1032 dL_law_1030 rfl rfl ?_
        refine V_istore C 1034 [(16, .int v), (17, .int (nI p)), (15, .int w), (13, .ref s.1), (10, .ref h), (9, .int (nI r)), (8, .int (nI m)), (7, .int (nI (wEar L))), (6, .int (nI (wRib L))), (5, .int (nI (nRib L))), (4, .int (nI S.length)), (3, .int (nI L.length)), (2, .int t), (1, .ref A.1), (0, .ref b)] dL_law_1032 rfl (hlt 16 (by decide)) rfl ?_
        refine V_lv [1, 0, 2, 3, 4, 5, 6, 7, 8, 9, 10, 11, 12, 13, 14] (lv' := [(17, .int (nI p)), (16, .int v), (15, .int w), (13, .ref s.1), (10, .ref h), (9, .int (nI r)), (8, .int (nI m)), (7, .int (nI (wEar L))), (6, .int (nI (wRib L))), (5, .int (nI (nRib L))), (4, .int (nI S.length)), (3, .int (nI L.length)), (2, .int t), (1, .ref A.1), (0, .ref b)]) rfl ?_
        exact r1034 v (hv.no hno)
      · obtain ⟨z, hz, hp2⟩ : ∃ z ∈ L, mPg z = p := Classical.byContradiction fun q => hno fun z hz e => q ⟨z, hz, e⟩
        have hid := (hb.mk hz).1
        have hfz : f p = nI (mId z) := (hf p hp60).2 z hz hp2
        refine V_iload C 0 1006 dL_law_1004 rfl rfl ?_
        refine V_bipush C (60 : Int32) 1008 dL_law_1006 rfl rfl ?_
        refine V_icmp_ge C 1118 1011 dL_law_1008 rfl rfl (fun e => absurd e (show ¬ (60 : Int32) ≤ nI p from w_nle (a := 60) (by omega))) (fun _ => ?_)
        refine V_aload C 4 1013 dL_law_1011 rfl rfl ?_
        refine V_iload C 0 1015 dL_law_1013 rfl rfl ?_
        refine V_iald C (f := f) (n := 60) 0 1016 dL_law_1015 rfl rfl (inb_of (vp_in_nI hp60 (by decide))) ?_
        refine V_st (st2 := [.int (nI (mId z))]) (by rw [cl_n (by omega), hfz] <;> rfl) ?_
        refine V_sipush C (-30000 : Int32) 1019 dL_law_1016 rfl rfl ?_
        refine V_icmp_eq C 1030 1022 dL_law_1019 rfl rfl (fun e => absurd e (nI_no (by omega))) (fun _ => ?_)
        refine V_aload C 4 1024 dL_law_1022 rfl rfl ?_
        refine V_iload C 0 1026 dL_law_1024 rfl rfl ?_
        refine V_iald C (f := f) (n := 60) 0 1027 dL_law_1026 rfl rfl (inb_of (vp_in_nI hp60 (by decide))) ?_
        refine V_st (st2 := [.int (nI (mId z))]) (by rw [cl_n (by omega), hfz] <;> rfl) ?_
        refine V_goto C 1032 dL_law_1027 rfl ?_
        refine V_istore C 1034 [(16, .int (nI (mId z))), (17, .int (nI p)), (15, .int w), (13, .ref s.1), (10, .ref h), (9, .int (nI r)), (8, .int (nI m)), (7, .int (nI (wEar L))), (6, .int (nI (wRib L))), (5, .int (nI (nRib L))), (4, .int (nI S.length)), (3, .int (nI L.length)), (2, .int t), (1, .ref A.1), (0, .ref b)] dL_law_1032 rfl (hlt 16 (by decide)) rfl ?_
        refine V_lv [1, 0, 2, 3, 4, 5, 6, 7, 8, 9, 10, 11, 12, 13, 14] (lv' := [(17, .int (nI p)), (16, .int (nI (mId z))), (15, .int w), (13, .ref s.1), (10, .ref h), (9, .int (nI r)), (8, .int (nI m)), (7, .int (nI (wEar L))), (6, .int (nI (wRib L))), (5, .int (nI (nRib L))), (4, .int (nI S.length)), (3, .int (nI L.length)), (2, .int t), (1, .ref A.1), (0, .ref b)]) rfl ?_
        exact r1034 _ (Pv.yes hz hp2)
  have k9 := loop 60 0 (-30000) (by omega) (Pv.nil L)
  refine V_lv [0, 1, 2, 3, 4, 5, 6, 7, 8, 9, 10, 11, 12, 13, 14] (lv' := [(17, .int (0 : Int32)), (16, .int (-30000 : Int32)), (15, .int w), (13, .ref s.1), (10, .ref h), (9, .int (nI r)), (8, .int (nI m)), (7, .int (nI (wEar L))), (6, .int (nI (wRib L))), (5, .int (nI (nRib L))), (4, .int (nI S.length)), (3, .int (nI L.length)), (2, .int t), (1, .ref A.1), (0, .ref b)]) rfl ?_
  exact k9
set_option maxRecDepth 8000 in
set_option maxHeartbeats 4000000 in
theorem law_G {K : KT} {g : G0} {A : XA} {x : XV} {L : List M5} {S : List Nat} {nid r b cells slots h m q : Nat} {f : Nat → Int32} {t : Int32} {sb : SbV} {s : Nat × Nat} {fs : Nat → Int32} {T : List Nat} {w : Int32} {U : List Nat} (Lk : LKx K g) (hb : BK x L S nid r) (hw : Fa L r 0 w) (hU : SBT sb U) (hTe : T = seatsT (uS L) 5) (hs : ST fs T) (hr : cells + 50 ≤ 600516 ∧ slots + 2000 ≤ 7283748) (ke : ∀ (q : Nat) (sb : SbV) (U : List Nat), SBT sb U → U.length ≤ 110 → V K (cells + 12) (slots + 1568) ([(h, aI g 60 f)] ++ (xW g (aS A q) (xS x sb) ++ [])) [(10, .ref h), (9, .int (nI r)), (8, .int (nI m)), (7, .int (nI (wEar L))), (6, .int (nI (wRib L))), (5, .int (nI (nRib L))), (4, .int (nI S.length)), (3, .int (nI L.length)), (2, .int t), (1, .ref A.1), (0, .ref b)] [] 1142) : V K cells slots ([(h, aI g 60 f)] ++ (strW g s T.length fs ++ (xW g (aS A q) (xS x sb) ++ []))) [(15, .int w), (13, .ref s.1), (10, .ref h), (9, .int (nI r)), (8, .int (nI m)), (7, .int (nI (wEar L))), (6, .int (nI (wRib L))), (5, .int (nI (nRib L))), (4, .int (nI S.length)), (3, .int (nI L.length)), (2, .int t), (1, .ref A.1), (0, .ref b)] [] 1118 := by
  obtain ⟨C, hBA, hQ, hst, h23⟩ := id Lk
  have hlt : ∀ i, i < 23 → i < kn K := fun i h => by rw [h23]; exact h
  have hE := hQ.2.2.2.2.2
  have hN := hQ.sk.2.2.2.2
  obtain ⟨hr1, hr2⟩ := hr
  have hb2 := hb.xS sb
  have hpgs : ∀ z ∈ L, mPg z < 60 := fun z hz => (hb.mk hz).2.1
  have hr60 := hb.2.2.2.2.2.1.1
  have hTl : T.length ≤ 15 := by rw [hTe]; exact uS_le hb (Nat.le_refl _)
  refine V_aload_n C 11 1119 dL_law_1118 rfl rfl ?_
  refine V_aload_n C 11 1120 dL_law_1119 rfl rfl ?_
  refine V_callN C hBA hQ ml_L_233 (pre := ([(h, aI g 60 f)] ++ (strW g s T.length fs))) (w0 := xW g (aS A q) (xS x sb)) (post := []) (as := []) (rest := [.ref A.1]) (c_wrSeats hb.1 hb.2.2.1.bL (uS_U hb) hU) 3 dL_law_1120 ⟨Nat.le_of_ble_eq_true rfl, Nat.le_of_ble_eq_true rfl⟩ rfl rfl rfl rfl (Nat.le_of_ble_eq_true rfl) ⟨by show cells + 11 ≤ 600516; omega, by show slots + 1562 ≤ 7283748; omega⟩ (fun rv w1 hP => ?_)
  obtain ⟨rfl, q2, sb2, rfl, hT2⟩ := hP
  rw [← hTe] at hT2 ⊢
  have hb3 := hb.xS sb2
  show V K (cells + 11) (slots + 1562) ([(h, aI g 60 f)] ++ (strW g s T.length fs ++ (xW g (aS A q2) (xS x sb2) ++ []))) [(15, .int w), (13, .ref s.1), (10, .ref h), (9, .int (nI r)), (8, .int (nI m)), (7, .int (nI (wEar L))), (6, .int (nI (wRib L))), (5, .int (nI (nRib L))), (4, .int (nI S.length)), (3, .int (nI L.length)), (2, .int t), (1, .ref A.1), (0, .ref b)] [.int (nI T.length), .ref A.1] 1123
  refine V_aload C 1 1125 dL_law_1123 rfl rfl ?_
  refine V_line (A := A) (x := x) Lk hT2 (by omega) hs dL_law_1125 (Nat.le_of_ble_eq_true rfl) ⟨by show cells + 11 ≤ 600516; omega, by show slots + 1562 ≤ 7283748; omega⟩ ?_
  show V K (cells + 11) (slots + 1562) ([(h, aI g 60 f)] ++ (xW g (aS A q2) (xS x sb2) ++ [])) [(15, .int w), (13, .ref s.1), (10, .ref h), (9, .int (nI r)), (8, .int (nI m)), (7, .int (nI (wEar L))), (6, .int (nI (wRib L))), (5, .int (nI (nRib L))), (4, .int (nI S.length)), (3, .int (nI L.length)), (2, .int t), (1, .ref A.1), (0, .ref b)] [.int (1 : Int32)] 1128
  refine V_if_eq C 1140 1131 dL_law_1128 rfl rfl (fun e => absurd e (show ¬ (1 : Int32) = 0 by decide)) (fun _ => ?_)
  refine V_aload_n C 11 1132 dL_law_1131 rfl rfl ?_
  unfold Fa at hw
  rw [Nat.max_eq_right (Nat.zero_le (r + 1))] at hw
  rcases hw with ⟨z, hz, rfl⟩ | ⟨hz, rfl⟩
  · refine V_callH C hBA hQ hN lh_pagesToNextMark (pre := [(h, aI g 60 f)]) (w0 := xW g (aS A q2) (xS x sb2)) (post := []) (as := [.ref A.1]) (rest := []) (w_pagesToNextMark hst (q_toNext1 hb3 hz)) dL_law_1132 ⟨Nat.le_of_ble_eq_true rfl, Nat.le_of_ble_eq_true rfl⟩ rfl rfl rfl (Nat.le_of_ble_eq_true rfl) ⟨by show cells + 11 + 1 ≤ 600516; omega, by show slots + 1562 + 6 ≤ 7283748; omega⟩ (fun rv w1 hP => ?_)
    obtain ⟨rfl, rfl⟩ := hP
    show V K (cells + 11 + 1) (slots + 1562 + 6) ([(h, aI g 60 f)] ++ (xW g (aS A q2) (xS x sb2) ++ [])) [(15, .int (nI (mPg z - r))), (13, .ref s.1), (10, .ref h), (9, .int (nI r)), (8, .int (nI m)), (7, .int (nI (wEar L))), (6, .int (nI (wRib L))), (5, .int (nI (nRib L))), (4, .int (nI S.length)), (3, .int (nI L.length)), (2, .int t), (1, .ref A.1), (0, .ref b)] [.int (nI (mPg z - r))] 1135
    refine V_iload C 0 1137 dL_law_1135 rfl rfl ?_
    refine V_icmp_eq C 1142 1140 dL_law_1137 rfl rfl (fun _ => ?_) (fun e => absurd rfl e)
    refine V_lv [2, 3, 4, 5, 6, 7, 8, 9, 10, 11, 12] (lv' := [(10, .ref h), (9, .int (nI r)), (8, .int (nI m)), (7, .int (nI (wEar L))), (6, .int (nI (wRib L))), (5, .int (nI (nRib L))), (4, .int (nI S.length)), (3, .int (nI L.length)), (2, .int t), (1, .ref A.1), (0, .ref b)]) rfl ?_
    exact ke q2 sb2 _ hT2 (by omega)
  · refine V_callH C hBA hQ hN lh_pagesToNextMark (pre := [(h, aI g 60 f)]) (w0 := xW g (aS A q2) (xS x sb2)) (post := []) (as := [.ref A.1]) (rest := []) (wX_pagesToNextMark hst (q_toNext0 hb3 hz)) dL_law_1132 ⟨Nat.le_of_ble_eq_true rfl, Nat.le_of_ble_eq_true rfl⟩ rfl rfl rfl (Nat.le_of_ble_eq_true rfl) ⟨by show cells + 11 + 1 ≤ 600516; omega, by show slots + 1562 + 6 ≤ 7283748; omega⟩ (fun rv w1 hP => ?_)
    obtain ⟨rfl, rfl⟩ := hP
    show V K (cells + 11 + 1) (slots + 1562 + 6) ([(h, aI g 60 f)] ++ (xW g (aS A q2) (xS x sb2) ++ [])) [(15, .int (-30000 : Int32)), (13, .ref s.1), (10, .ref h), (9, .int (nI r)), (8, .int (nI m)), (7, .int (nI (wEar L))), (6, .int (nI (wRib L))), (5, .int (nI (nRib L))), (4, .int (nI S.length)), (3, .int (nI L.length)), (2, .int t), (1, .ref A.1), (0, .ref b)] [.int (-30000 : Int32)] 1135
    refine V_iload C 0 1137 dL_law_1135 rfl rfl ?_
    refine V_icmp_eq C 1142 1140 dL_law_1137 rfl rfl (fun _ => ?_) (fun e => absurd rfl e)
    refine V_lv [2, 3, 4, 5, 6, 7, 8, 9, 10, 11, 12] (lv' := [(10, .ref h), (9, .int (nI r)), (8, .int (nI m)), (7, .int (nI (wEar L))), (6, .int (nI (wRib L))), (5, .int (nI (nRib L))), (4, .int (nI S.length)), (3, .int (nI L.length)), (2, .int t), (1, .ref A.1), (0, .ref b)]) rfl ?_
    exact ke q2 sb2 _ hT2 (by omega)
