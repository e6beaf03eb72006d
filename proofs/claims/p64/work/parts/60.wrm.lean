/-! ===== a mark is written ===== -/
/-- how a mark is written -/
def mkT (T : List Nat) (z : M5) : List Nat := T ++ [32] ++ [if mSt z = 0 then 101 else 114] ++ digs (mPg z) ++ [42] ++ digs (mWt z)
theorem digs_le (v : Nat) : (digs v).length ≤ 2 := by
  unfold digs
  split
  · exact (show 1 ≤ 2 by decide)
  · exact Nat.le_refl 2
theorem c_wrMark {l : Launch} {D : va_G} {g : G0} {A : XA} {x : XV} {q : Nat} {sb : SbV} {T : List Nat} {L : List M5} {i : Nat} {z : M5} (h1 : hM x.2.1 L) (b : bL L) (hz : L[i]? = some z) (hT : SBT sb T) (hl : T.length + 8 ≤ 142) : CtN l D g yX3_writeMark cX3_writeMark 2 none (rmN 7 200 5 710) (xW g (aS A q) (xS x sb)) [.ref A.1, .int (nI i)] (fun rv w1 => rv = none ∧ ∃ (q' : Nat) (sb' : SbV), w1 = xW g (aS A q') (xS x sb') ∧ SBT sb' (mkT T z)) 5 710 := by
  refine CtN.of (by decide) (Nat.le_of_ble_eq_true rfl) ?_
  intro K C Z hBA el eD ekn
  subst el
  subst eD
  have hlt : ∀ i, i < 2 → i < kn K := fun i h => by rw [ekn]; exact h
  show V K 0 0 (xW g (aS A q) (xS x sb)) [(0, .ref A.1), (1, .int (nI i))] [] 0
  have hl12 := b.1
  have hil := lt_get hz
  have hi12 : i < 12 := by omega
  have hb := b.2 z (mem_get hz)
  have dp := digs_le (mPg z)
  have dw := digs_le (mWt z)
  have hs0 := s_hasSeat h1 b hz
  refine V_aload_n C 0 1 dX3_writeMark_0 rfl rfl ?_
  refine V_get C (v := .ref A.2.2.2.2.2.2.1.1) 0 4 fl_X3_39 dX3_writeMark_1 rfl rfl rfl ?_
  refine V_bipush C (32 : Int32) 6 dX3_writeMark_4 rfl rfl ?_
  refine V_outC C hBA Z.1 hT (by (try simp only [List.length_append, List.length_cons, List.length_nil]); omega) (by decide) dX3_writeMark_6 dX3_writeMark_9 ⟨by decide, by decide⟩ (by exact (by decide : (0 : Nat) ≤ 8)) ⟨by exact (by decide : 1 ≤ 5), by exact (by decide : 142 ≤ 710)⟩ 10 rfl (fun q1 sb1 hT1 => ?_)
  refine V_aload_n C 0 11 dX3_writeMark_10 rfl rfl ?_
  refine V_get C (v := .ref A.2.2.2.2.2.2.1.1) 0 14 fl_X3_39 dX3_writeMark_11 rfl rfl rfl ?_
  refine V_aload_n C 0 15 dX3_writeMark_14 rfl rfl ?_
  refine V_get C (v := .ref A.2.1.1) 0 18 fl_X3_10 dX3_writeMark_15 rfl rfl rfl ?_
  refine V_iload_n C 1 19 dX3_writeMark_18 rfl rfl ?_
  refine V_callP C ml_X3_82 (pre := mgW (aS A q1) x.1) (post := bkW g A.2.2.1 x.2.2.1 ++ (bkW g A.2.2.2.1 x.2.2.2.1 ++ (hsW g A.2.2.2.2.1 A.2.2.2.2.2.2.2 x.2.2.2.2.1 ++ (scW g A.2.2.2.2.2.1 x.2.2.2.2.2.1 ++ (sbW g (A.2.2.2.2.2.2.1.1, q1) sb1 ++ (hbW g A.2.2.2.2.2.2.2 x.2.2.2.2.2.2.2)))))) (w := bkW g A.2.1 x.2.1) (as := [.int (nI i)]) (rest := [.ref A.2.2.2.2.2.2.1.1]) (c_X0_hasSeat hs0) 1 22 dX3_writeMark_19 rfl ⟨by decide, by decide⟩ rfl rfl rfl rfl rfl (by exact (by decide : (1 : Nat) ≤ 8)) (by rw [C.2.2.2.2.2.2.1]; exact (by decide : 1 ≤ 5 ∧ 142 ≤ 710)) ?_
  have tail : V K 1 142 (xW g (aS A q1) (xS x sb1)) [(0, .ref A.1), (1, .int (nI i))] [.int (nI (if mSt z = 0 then 101 else 114)), .ref A.2.2.2.2.2.2.1.1] 32 := by
    refine V_outC C hBA Z.1 hT1 (by (try simp only [List.length_append, List.length_cons, List.length_nil]); omega) (by split <;> decide) dX3_writeMark_32 dX3_writeMark_35 ⟨by decide, by decide⟩ (by exact (by decide : (0 : Nat) ≤ 8)) ⟨by exact (by decide : 2 ≤ 5), by exact (by decide : 284 ≤ 710)⟩ 36 rfl (fun q1t sb1t hT1t => ?_)
    refine V_aload_n C 0 37 dX3_writeMark_36 rfl rfl ?_
    refine V_get C (v := .ref A.2.2.2.2.2.2.1.1) 0 40 fl_X3_39 dX3_writeMark_37 rfl rfl rfl ?_
    refine V_aload_n C 0 41 dX3_writeMark_40 rfl rfl ?_
    refine V_get C (v := .ref A.2.1.1) 0 44 fl_X3_10 dX3_writeMark_41 rfl rfl rfl ?_
    refine V_get C (v := .ref A.2.1.2.2.1) 1 47 fl_X3_86 dX3_writeMark_44 rfl rfl rfl ?_
    refine V_iload_n C 1 48 dX3_writeMark_47 rfl rfl ?_
    refine V_iald C 3 49 dX3_writeMark_48 rfl rfl (inb_of (vp_in_nI (hi12) (by decide))) ?_
    refine V_st (st2 := [.int (nI (mPg z)), .ref A.2.2.2.2.2.2.1.1]) (by rw [cl_n (by omega)]; exact congrArg (fun q => [Value.int q, .ref A.2.2.2.2.2.2.1.1]) (h1.2 i z hz).2.1) ?_
    refine V_outI C hBA Z.1 hT1t (by (try simp only [List.length_append, List.length_cons, List.length_nil]); omega) (by omega) dX3_writeMark_49 dX3_writeMark_52 ⟨by decide, by decide⟩ (by exact (by decide : (0 : Nat) ≤ 8)) ⟨by exact (by decide : 3 ≤ 5), by exact (by decide : 426 ≤ 710)⟩ 53 rfl (fun q2t sb2t hT2t => ?_)
    refine V_aload_n C 0 54 dX3_writeMark_53 rfl rfl ?_
    refine V_get C (v := .ref A.2.2.2.2.2.2.1.1) 0 57 fl_X3_39 dX3_writeMark_54 rfl rfl rfl ?_
    refine V_bipush C (42 : Int32) 59 dX3_writeMark_57 rfl rfl ?_
    refine V_outC C hBA Z.1 hT2t (by (try simp only [List.length_append, List.length_cons, List.length_nil]); omega) (by decide) dX3_writeMark_59 dX3_writeMark_62 ⟨by decide, by decide⟩ (by exact (by decide : (0 : Nat) ≤ 8)) ⟨by exact (by decide : 4 ≤ 5), by exact (by decide : 568 ≤ 710)⟩ 63 rfl (fun q3t sb3t hT3t => ?_)
    refine V_aload_n C 0 64 dX3_writeMark_63 rfl rfl ?_
    refine V_get C (v := .ref A.2.2.2.2.2.2.1.1) 0 67 fl_X3_39 dX3_writeMark_64 rfl rfl rfl ?_
    refine V_aload_n C 0 68 dX3_writeMark_67 rfl rfl ?_
    refine V_get C (v := .ref A.2.1.1) 0 71 fl_X3_10 dX3_writeMark_68 rfl rfl rfl ?_
    refine V_get C (v := .ref A.2.1.2.2.2.1) 1 74 fl_X3_90 dX3_writeMark_71 rfl rfl rfl ?_
    refine V_iload_n C 1 75 dX3_writeMark_74 rfl rfl ?_
    refine V_iald C 4 76 dX3_writeMark_75 rfl rfl (inb_of (vp_in_nI (hi12) (by decide))) ?_
    refine V_st (st2 := [.int (nI (mWt z)), .ref A.2.2.2.2.2.2.1.1]) (by rw [cl_n (by omega)]; exact congrArg (fun q => [Value.int q, .ref A.2.2.2.2.2.2.1.1]) (h1.2 i z hz).2.2.1) ?_
    refine V_outI C hBA Z.1 hT3t (by (try simp only [List.length_append, List.length_cons, List.length_nil]); omega) (by omega) dX3_writeMark_76 dX3_writeMark_79 ⟨by decide, by decide⟩ (by exact (by decide : (0 : Nat) ≤ 8)) ⟨by exact (by decide : 5 ≤ 5), by exact (by decide : 710 ≤ 710)⟩ 80 rfl (fun q4t sb4t hT4t => ?_)
    exact V_nretV C Z rfl ⟨rfl, _, _, rfl, hT4t⟩ dX3_writeMark_80 (Nat.le_refl _) (Nat.le_refl _)
  by_cases e0 : mSt z = 0
  · rw [if_pos e0] at tail
    rw [decide_eq_false (fun h => h e0)]
    refine V_if_eq C 30 25 dX3_writeMark_22 rfl rfl (fun _ => ?_) (fun e => absurd b2_f e)
    refine V_bipush C (101 : Int32) 32 dX3_writeMark_30 rfl rfl ?_
    exact tail
  · rw [if_neg e0] at tail
    rw [decide_eq_true e0]
    refine V_if_eq C 30 25 dX3_writeMark_22 rfl rfl (fun e => absurd e (show ¬ b2 true = 0 from by decide)) (fun _ => ?_)
    refine V_bipush C (114 : Int32) 27 dX3_writeMark_25 rfl rfl ?_
    refine V_goto C 32 dX3_writeMark_27 rfl ?_
    exact tail
