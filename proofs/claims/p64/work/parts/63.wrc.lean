/-! ===== a chapter is written ===== -/
def markT (inM : M5 → Bool) (T : List Nat) (z : M5) : List Nat := if inM z = true then mkT T z else T
theorem mkT_le (T : List Nat) (z : M5) : (mkT T z).length ≤ T.length + 7 := by
  have h1 := digs_le (mPg z)
  have h2 := digs_le (mWt z)
  unfold mkT
  simp only [List.length_append, List.length_cons, List.length_nil]
  omega
theorem markT_le (inM : M5 → Bool) (T : List Nat) (z : M5) : (markT inM T z).length ≤ T.length + 7 := by
  unfold markT
  split
  · exact mkT_le T z
  · omega

set_option maxRecDepth 100000 in
theorem c_wrChapter {l : Launch} {D : va_G} {g : G0} {A : XA} {x : XV} {q k ps pe : Nat} {sb : SbV} {T : List Nat} {L : List M5} {inM : M5 → Bool} (hst : l.stackTraces = false) (h1 : hM x.2.1 L) (b : bL L) (hreq : f_X3_requireChapter (xS x sb) (nI k) = some (.inl (0, xS x sb))) (hk8 : k < 8) (hps : Bk_starts x.2.1 k = nI ps) (hps1 : ps < 100) (hpe : f_X0_endOf x.2.1 (nI k) = some (nI pe)) (hpe1 : pe < 100) (hin : ∀ (i : Nat) (z : M5), L[i]? = some z → f_X0_isIn x.2.1 (nI i) (nI k) = some (b2 (inM z))) (hT : SBT sb T) : CtN l D g yX3_writeChapter cX3_writeChapter 3 (some .int) (rmN 8 240 64 9088) (xW g (aS A q) (xS x sb)) [.ref A.1, .int (nI k)] (fun rv w1 => rv = some (.int (nI (L.foldl (markT inM) ([] ++ digs ps ++ [45] ++ digs pe)).length)) ∧ ∃ (q' : Nat) (sb' : SbV), w1 = xW g (aS A q') (xS x sb') ∧ SBT sb' (L.foldl (markT inM) ([] ++ digs ps ++ [45] ++ digs pe))) 64 9088 := by
  refine CtN.of (by decide) (Nat.le_of_ble_eq_true rfl) ?_
  intro K C Z hBA el eD ekn
  subst el
  subst eD
  have hlt : ∀ i, i < 3 → i < kn K := fun i h => by rw [ekn]; exact h
  have hl12 := b.1
  have dps := digs_le ps
  have dpe := digs_le pe
  have hE := Z.1.2.2.2.2.2
  have key : ∀ d i T q sb cells slots, i + d = L.length → T.length ≤ 5 + 7 * i → SBT sb T → cells + 5 * d ≤ 64 → slots + 710 * d ≤ 9088 → (L.drop i).foldl (markT inM) T = L.foldl (markT inM) ([] ++ digs ps ++ [45] ++ digs pe) → V K cells slots (xW g (aS A q) (xS x sb)) [(2, .int (nI i)), (0, .ref A.1), (1, .int (nI k))] [] 58 := by
    intro d
    induction d with
    | zero =>
      intro i T q sb cells slots hi hl hT hc hs hf
      have e5 : i = L.length := by omega
      subst e5
      rw [List.drop_length] at hf
      have hf2 : T = L.foldl (markT inM) ([] ++ digs ps ++ [45] ++ digs pe) := hf
      refine V_iload_n C 0 59 dX3_writeChapter_58 rfl rfl ?_
      refine V_aload_n C 1 60 dX3_writeChapter_59 rfl rfl ?_
      refine V_get C (v := .ref A.2.1.1) 0 63 fl_X3_10 dX3_writeChapter_60 rfl rfl rfl ?_
      refine V_get C (v := .int (Bk_marks x.2.1)) 1 66 fl_X3_178 dX3_writeChapter_63 rfl rfl rfl ?_
      refine V_icmp_ge C 92 69 dX3_writeChapter_66 rfl rfl (fun _ => ?_) (fun e => absurd (show Bk_marks x.2.1 ≤ nI L.length from by rw [h1.1]; exact Int32.le_refl _) e)
      refine V_aload_n C 1 93 dX3_writeChapter_92 rfl rfl ?_
      refine V_get C (v := .ref A.2.2.2.2.2.2.1.1) 0 96 fl_X3_39 dX3_writeChapter_93 rfl rfl rfl ?_
      refine V_outN C hBA Z.1 hT dX3_writeChapter_96 ⟨by decide, by decide⟩ (by exact (by decide : (0 : Nat) ≤ 8)) ⟨by show cells ≤ 64; omega, by show slots ≤ 9088; omega⟩ 99 rfl ?_
      exact V_nretI C Z rfl rfl ⟨by rw [← hf2], q, sb, rfl, by rw [← hf2]; exact hT⟩ dX3_writeChapter_99 (by omega) (by omega)
    | succ d ih =>
      intro i T q sb cells slots hi hl hT hc hs hf
      have hiL : i < L.length := by omega
      have hz : L[i]? = some L[i] := List.getElem?_eq_getElem hiL
      rw [List.drop_eq_getElem_cons hiL, List.foldl_cons] at hf
      have hml := markT_le inM T L[i]
      refine V_iload_n C 0 59 dX3_writeChapter_58 rfl rfl ?_
      refine V_aload_n C 1 60 dX3_writeChapter_59 rfl rfl ?_
      refine V_get C (v := .ref A.2.1.1) 0 63 fl_X3_10 dX3_writeChapter_60 rfl rfl rfl ?_
      refine V_get C (v := .int (Bk_marks x.2.1)) 1 66 fl_X3_178 dX3_writeChapter_63 rfl rfl rfl ?_
      refine V_icmp_ge C 92 69 dX3_writeChapter_66 rfl rfl (fun e => absurd e (show ¬ Bk_marks x.2.1 ≤ nI i from by rw [h1.1]; exact nI_ge hiL (by omega))) (fun _ => ?_)
      refine V_aload_n C 1 70 dX3_writeChapter_69 rfl rfl ?_
      refine V_get C (v := .ref A.2.1.1) 0 73 fl_X3_10 dX3_writeChapter_70 rfl rfl rfl ?_
      refine V_iload_n C 0 74 dX3_writeChapter_73 rfl rfl ?_
      refine V_iload_n C 2 75 dX3_writeChapter_74 rfl rfl ?_
      refine V_callP C ml_X3_237 (pre := mgW (aS A q) x.1) (post := bkW g A.2.2.1 x.2.2.1 ++ (bkW g A.2.2.2.1 x.2.2.2.1 ++ (hsW g A.2.2.2.2.1 A.2.2.2.2.2.2.2 x.2.2.2.2.1 ++ (scW g A.2.2.2.2.2.1 x.2.2.2.2.2.1 ++ (sbW g (A.2.2.2.2.2.2.1.1, q) sb ++ (hbW g A.2.2.2.2.2.2.2 x.2.2.2.2.2.2.2)))))) (w := bkW g A.2.1 x.2.1) (as := [.int (nI i), .int (nI k)]) (rest := []) (c_X0_isIn (hin i L[i] hz)) 1 78 dX3_writeChapter_75 rfl ⟨by decide, by decide⟩ rfl rfl rfl rfl rfl (by decide) (by rw [C.2.2.2.2.2.2.1]; exact ⟨by show cells ≤ 64; omega, by show slots ≤ 9088; omega⟩) ?_
      have tail : ∀ q sb cells slots, SBT sb (markT inM T L[i]) → cells + 5 * d ≤ 64 → slots + 710 * d ≤ 9088 → V K cells slots (xW g (aS A q) (xS x sb)) [(2, .int (nI i)), (0, .ref A.1), (1, .int (nI k))] [] 86 := by
        intro q sb cells slots hT hc hs
        refine V_iinc C 0 (nI (i + 1)) 89 [(2, .int (nI (i + 1))), (0, .ref A.1), (1, .int (nI k))] dX3_writeChapter_86 rfl rfl (nI_1 i) (hlt 2 (by decide)) rfl ?_
        refine V_goto C 58 dX3_writeChapter_89 rfl ?_
        exact ih (i + 1) _ q sb cells slots (by omega) (by omega) hT hc hs hf
      by_cases ei : inM L[i] = true
      · have em : markT inM T L[i] = mkT T L[i] := if_pos ei
        rw [ei]
        refine V_if_eq C 86 81 dX3_writeChapter_78 rfl rfl (fun e => absurd e (show ¬ b2 true = 0 from by decide)) (fun _ => ?_)
        refine V_aload_n C 1 82 dX3_writeChapter_81 rfl rfl ?_
        refine V_iload_n C 0 83 dX3_writeChapter_82 rfl rfl ?_
        refine V_callN (as := [.int (nI i)]) (pre := []) (w0 := xW g (aS A q) (xS x sb)) (post := []) (rest := []) C hBA Z.1 ml_X3_241 (c_wrMark h1 b hz hT (by omega)) 0 dX3_writeChapter_83 ⟨by decide, by decide⟩ rfl (by rw [List.nil_append, List.append_nil]) rfl rfl (by decide) ⟨by show cells + 5 ≤ 64; omega, by show slots + 710 ≤ 9088; omega⟩ (fun rv w1 hP => ?_)
        obtain ⟨rfl, q2, sb2, rfl, hT2⟩ := hP
        refine V_eq (ws2 := xW g (aS A q2) (xS x sb2)) (by rw [List.nil_append, List.append_nil]) ?_
        exact tail q2 sb2 (cells + 5) (slots + 710) (by rw [em]; exact hT2) (by omega) (by omega)
      · have em : markT inM T L[i] = T := if_neg ei
        rw [eq_false_of_ne_true ei]
        refine V_if_eq C 86 81 dX3_writeChapter_78 rfl rfl (fun _ => ?_) (fun e => absurd (show b2 false = 0 from rfl) e)
        exact tail q sb cells slots (by rw [em]; exact hT) (by omega) (by omega)
  show V K 0 0 (xW g (aS A q) (xS x sb)) [(0, .ref A.1), (1, .int (nI k))] [] 0
  refine V_aload_n C 0 1 dX3_writeChapter_0 rfl rfl ?_
  refine V_iload_n C 1 2 dX3_writeChapter_1 rfl rfl ?_
  refine V_callXr C hBA hE ml_X3_132 (pre := []) (post := []) (wc := xW g (aS A q) (xS x sb)) (as := [.int (nI k)]) (rest := []) (w1 := xW g (aS A q) (xS x sb)) (rv := none) (c_X3_requireChapter (A := aS A q) (R := .inl (0, xS x sb)) hst hreq) 0 5 (xW g (aS A q) (xS x sb)) dX3_writeChapter_2 rfl ⟨by decide, by decide⟩ rfl (by rw [List.nil_append, List.append_nil]) (by rw [List.nil_append, List.append_nil]) rfl rfl rfl rfl (by decide) ⟨Nat.zero_le _, Nat.zero_le _⟩ ?_
  refine V_aload_n C 0 6 dX3_writeChapter_5 rfl rfl ?_
  refine V_get C (v := .ref A.2.2.2.2.2.2.1.1) 0 9 fl_X3_39 dX3_writeChapter_6 rfl rfl rfl ?_
  refine V_iconst C (0 : Int32) 10 dX3_writeChapter_9 rfl rfl ?_
  refine V_outL C hBA Z.1 hT dX3_writeChapter_10 ⟨by decide, by decide⟩ (by exact (by decide : (0 : Nat) ≤ 8)) ⟨by exact (by decide : 1 ≤ 64), by exact (by decide : 142 ≤ 9088)⟩ 13 rfl (fun q0 sb0 hT0 => ?_)
  refine V_aload_n C 0 14 dX3_writeChapter_13 rfl rfl ?_
  refine V_get C (v := .ref A.2.2.2.2.2.2.1.1) 0 17 fl_X3_39 dX3_writeChapter_14 rfl rfl rfl ?_
  refine V_aload_n C 0 18 dX3_writeChapter_17 rfl rfl ?_
  refine V_get C (v := .ref A.2.1.1) 0 21 fl_X3_10 dX3_writeChapter_18 rfl rfl rfl ?_
  refine V_get C (v := .ref A.2.1.2.2.2.2.2.2) 1 24 fl_X3_135 dX3_writeChapter_21 rfl rfl rfl ?_
  refine V_iload_n C 1 25 dX3_writeChapter_24 rfl rfl ?_
  refine V_iald C 7 26 dX3_writeChapter_25 rfl rfl (inb_of (vp_in_nI (hk8) (by decide))) ?_
  refine V_st (st2 := [.int (nI ps), .ref A.2.2.2.2.2.2.1.1]) (by rw [cl_n (by omega)]; exact congrArg (fun q => [Value.int q, .ref A.2.2.2.2.2.2.1.1]) hps) ?_
  refine V_outI C hBA Z.1 hT0 (by show 0 + 2 ≤ 142; omega) hps1 dX3_writeChapter_26 dX3_writeChapter_29 ⟨by decide, by decide⟩ (by exact (by decide : (0 : Nat) ≤ 8)) ⟨by exact (by decide : 2 ≤ 64), by exact (by decide : 284 ≤ 9088)⟩ 30 rfl (fun q1 sb1 hT1 => ?_)
  refine V_aload_n C 0 31 dX3_writeChapter_30 rfl rfl ?_
  refine V_get C (v := .ref A.2.2.2.2.2.2.1.1) 0 34 fl_X3_39 dX3_writeChapter_31 rfl rfl rfl ?_
  refine V_bipush C (45 : Int32) 36 dX3_writeChapter_34 rfl rfl ?_
  refine V_outC C hBA Z.1 hT1 (by (try simp only [List.length_append, List.length_cons, List.length_nil]); omega) (by decide) dX3_writeChapter_36 dX3_writeChapter_39 ⟨by decide, by decide⟩ (by exact (by decide : (0 : Nat) ≤ 8)) ⟨by exact (by decide : 3 ≤ 64), by exact (by decide : 426 ≤ 9088)⟩ 40 rfl (fun q2 sb2 hT2 => ?_)
  refine V_aload_n C 0 41 dX3_writeChapter_40 rfl rfl ?_
  refine V_get C (v := .ref A.2.2.2.2.2.2.1.1) 0 44 fl_X3_39 dX3_writeChapter_41 rfl rfl rfl ?_
  refine V_aload_n C 0 45 dX3_writeChapter_44 rfl rfl ?_
  refine V_get C (v := .ref A.2.1.1) 0 48 fl_X3_10 dX3_writeChapter_45 rfl rfl rfl ?_
  refine V_iload_n C 1 49 dX3_writeChapter_48 rfl rfl ?_
  refine V_callP C ml_X3_138 (pre := mgW (aS A q2) x.1) (post := bkW g A.2.2.1 x.2.2.1 ++ (bkW g A.2.2.2.1 x.2.2.2.1 ++ (hsW g A.2.2.2.2.1 A.2.2.2.2.2.2.2 x.2.2.2.2.1 ++ (scW g A.2.2.2.2.2.1 x.2.2.2.2.2.1 ++ (sbW g (A.2.2.2.2.2.2.1.1, q2) sb2 ++ (hbW g A.2.2.2.2.2.2.2 x.2.2.2.2.2.2.2)))))) (w := bkW g A.2.1 x.2.1) (as := [.int (nI k)]) (rest := [.ref A.2.2.2.2.2.2.1.1]) (c_X0_endOf hpe) 1 52 dX3_writeChapter_49 rfl ⟨by decide, by decide⟩ rfl rfl rfl rfl rfl (by exact (by decide : (1 : Nat) ≤ 8)) (by rw [C.2.2.2.2.2.2.1]; exact (by decide : 3 ≤ 64 ∧ 426 ≤ 9088)) ?_
  refine V_outI C hBA Z.1 hT2 (by (try simp only [List.length_append, List.length_cons, List.length_nil]); omega) hpe1 dX3_writeChapter_52 dX3_writeChapter_55 ⟨by decide, by decide⟩ (by exact (by decide : (0 : Nat) ≤ 8)) ⟨by exact (by decide : 4 ≤ 64), by exact (by decide : 568 ≤ 9088)⟩ 56 rfl (fun q3 sb3 hT3 => ?_)
  refine V_iconst C (0 : Int32) 57 dX3_writeChapter_56 rfl rfl ?_
  refine V_istore_n C 58 [(2, .int (0 : Int32)), (0, .ref A.1), (1, .int (nI k))] dX3_writeChapter_57 rfl (hlt 2 (by decide)) rfl ?_
  exact key L.length 0 _ _ _ 4 568 (by omega) (by simp only [List.length_append, List.length_cons, List.length_nil]; omega) hT3 (by omega) (by omega) (by rw [List.drop_zero])
