/-! ===== a seat is written ===== -/
theorem c_wrSeat0 {l : Launch} {D : va_G} {g : G0} {A : XA} {x : XV} {q j : Nat} {sb : SbV} {T : List Nat} {L : List M5} (hs : f_X0_slotInSeat x.2.1 (nI j) = some (-1)) (h1 : hM x.2.1 L) (b : bL L) (hT : SBT sb T) (hl : T.length + 8 ≤ 142) : CtN l D g yX3_writeSeat cX3_writeSeat 3 none (rmN 7 200 1 142) (xW g (aS A q) (xS x sb)) [.ref A.1, .int (nI j)] (fun rv w1 => rv = none ∧ ∃ (q' : Nat) (sb' : SbV), w1 = xW g (aS A q') (xS x sb') ∧ SBT sb' (T ++ [45])) 1 142 := by
  refine CtN.of (by decide) (Nat.le_of_ble_eq_true rfl) ?_
  intro K C Z hBA el eD ekn
  subst el
  subst eD
  have hlt : ∀ i, i < 3 → i < kn K := fun i h => by rw [ekn]; exact h
  show V K 0 0 (xW g (aS A q) (xS x sb)) [(0, .ref A.1), (1, .int (nI j))] [] 0
  have hl12 := b.1
  refine V_aload_n C 0 1 dX3_writeSeat_0 rfl rfl ?_
  refine V_get C (v := .ref A.2.1.1) 0 4 fl_X3_10 dX3_writeSeat_1 rfl rfl rfl ?_
  refine V_iload_n C 1 5 dX3_writeSeat_4 rfl rfl ?_
  refine V_callP C ml_X3_111 (pre := mgW (aS A q) x.1) (post := bkW g A.2.2.1 x.2.2.1 ++ (bkW g A.2.2.2.1 x.2.2.2.1 ++ (hsW g A.2.2.2.2.1 A.2.2.2.2.2.2.2 x.2.2.2.2.1 ++ (scW g A.2.2.2.2.2.1 x.2.2.2.2.2.1 ++ (sbW g (A.2.2.2.2.2.2.1.1, q) sb ++ (hbW g A.2.2.2.2.2.2.2 x.2.2.2.2.2.2.2)))))) (w := bkW g A.2.1 x.2.1) (as := [.int (nI j)]) (rest := []) (c_X0_slotInSeat hs) 1 8 dX3_writeSeat_5 rfl ⟨by decide, by decide⟩ rfl rfl rfl rfl rfl (by exact (by decide : (0 : Nat) ≤ 8)) (by rw [C.2.2.2.2.2.2.1]; exact (by decide : 0 ≤ 1 ∧ 0 ≤ 142)) ?_
  refine V_istore_n C 9 [(2, .int (-1 : Int32)), (0, .ref A.1), (1, .int (nI j))] dX3_writeSeat_8 rfl (hlt 2 (by decide)) rfl ?_
  refine V_iload_n C 0 10 dX3_writeSeat_9 rfl rfl ?_
  refine V_iconst C (-1 : Int32) 11 dX3_writeSeat_10 rfl rfl ?_
  refine V_icmp_ne C 27 14 dX3_writeSeat_11 rfl rfl (fun e => absurd rfl e) (fun _ => ?_)
  refine V_aload_n C 1 15 dX3_writeSeat_14 rfl rfl ?_
  refine V_get C (v := .ref A.2.2.2.2.2.2.1.1) 0 18 fl_X3_39 dX3_writeSeat_15 rfl rfl rfl ?_
  refine V_bipush C (45 : Int32) 20 dX3_writeSeat_18 rfl rfl ?_
  refine V_outC C hBA Z.1 hT (by (try simp only [List.length_append, List.length_cons, List.length_nil]); omega) (by decide) dX3_writeSeat_20 dX3_writeSeat_23 ⟨by decide, by decide⟩ (by exact (by decide : (0 : Nat) ≤ 8)) ⟨by exact (by decide : 1 ≤ 1), by exact (by decide : 142 ≤ 142)⟩ 24 rfl (fun q1 sb1 hT1 => ?_)
  refine V_goto C 44 dX3_writeSeat_24 rfl ?_
  exact V_nretV C Z rfl ⟨rfl, _, _, rfl, hT1⟩ dX3_writeSeat_44 (Nat.le_refl _) (Nat.le_refl _)
theorem c_wrSeat1 {l : Launch} {D : va_G} {g : G0} {A : XA} {x : XV} {q j : Nat} {sb : SbV} {T : List Nat} {L : List M5} {i : Nat} {z : M5} (hs : f_X0_slotInSeat x.2.1 (nI j) = some (nI i)) (hz : L[i]? = some z) (h1 : hM x.2.1 L) (b : bL L) (hT : SBT sb T) (hl : T.length + 8 ≤ 142) : CtN l D g yX3_writeSeat cX3_writeSeat 3 none (rmN 7 200 1 142) (xW g (aS A q) (xS x sb)) [.ref A.1, .int (nI j)] (fun rv w1 => rv = none ∧ ∃ (q' : Nat) (sb' : SbV), w1 = xW g (aS A q') (xS x sb') ∧ SBT sb' (T ++ digs (mPg z))) 1 142 := by
  refine CtN.of (by decide) (Nat.le_of_ble_eq_true rfl) ?_
  intro K C Z hBA el eD ekn
  subst el
  subst eD
  have hlt : ∀ i, i < 3 → i < kn K := fun i h => by rw [ekn]; exact h
  show V K 0 0 (xW g (aS A q) (xS x sb)) [(0, .ref A.1), (1, .int (nI j))] [] 0
  have hl12 := b.1
  have hil := lt_get hz
  have hi12 : i < 12 := by omega
  have hb := b.2 z (mem_get hz)
  have dp := digs_le (mPg z)
  refine V_aload_n C 0 1 dX3_writeSeat_0 rfl rfl ?_
  refine V_get C (v := .ref A.2.1.1) 0 4 fl_X3_10 dX3_writeSeat_1 rfl rfl rfl ?_
  refine V_iload_n C 1 5 dX3_writeSeat_4 rfl rfl ?_
  refine V_callP C ml_X3_111 (pre := mgW (aS A q) x.1) (post := bkW g A.2.2.1 x.2.2.1 ++ (bkW g A.2.2.2.1 x.2.2.2.1 ++ (hsW g A.2.2.2.2.1 A.2.2.2.2.2.2.2 x.2.2.2.2.1 ++ (scW g A.2.2.2.2.2.1 x.2.2.2.2.2.1 ++ (sbW g (A.2.2.2.2.2.2.1.1, q) sb ++ (hbW g A.2.2.2.2.2.2.2 x.2.2.2.2.2.2.2)))))) (w := bkW g A.2.1 x.2.1) (as := [.int (nI j)]) (rest := []) (c_X0_slotInSeat hs) 1 8 dX3_writeSeat_5 rfl ⟨by decide, by decide⟩ rfl rfl rfl rfl rfl (by exact (by decide : (0 : Nat) ≤ 8)) (by rw [C.2.2.2.2.2.2.1]; exact (by decide : 0 ≤ 1 ∧ 0 ≤ 142)) ?_
  refine V_istore_n C 9 [(2, .int (nI i)), (0, .ref A.1), (1, .int (nI j))] dX3_writeSeat_8 rfl (hlt 2 (by decide)) rfl ?_
  refine V_iload_n C 0 10 dX3_writeSeat_9 rfl rfl ?_
  refine V_iconst C (-1 : Int32) 11 dX3_writeSeat_10 rfl rfl ?_
  refine V_icmp_ne C 27 14 dX3_writeSeat_11 rfl rfl (fun _ => ?_) (fun e => absurd e (nI_m1 (by omega)))
  refine V_aload_n C 1 28 dX3_writeSeat_27 rfl rfl ?_
  refine V_get C (v := .ref A.2.2.2.2.2.2.1.1) 0 31 fl_X3_39 dX3_writeSeat_28 rfl rfl rfl ?_
  refine V_aload_n C 1 32 dX3_writeSeat_31 rfl rfl ?_
  refine V_get C (v := .ref A.2.1.1) 0 35 fl_X3_10 dX3_writeSeat_32 rfl rfl rfl ?_
  refine V_get C (v := .ref A.2.1.2.2.1) 1 38 fl_X3_86 dX3_writeSeat_35 rfl rfl rfl ?_
  refine V_iload_n C 0 39 dX3_writeSeat_38 rfl rfl ?_
  refine V_iald C 3 40 dX3_writeSeat_39 rfl rfl (inb_of (vp_in_nI (hi12) (by decide))) ?_
  refine V_st (st2 := [.int (nI (mPg z)), .ref A.2.2.2.2.2.2.1.1]) (by rw [cl_n (by omega)]; exact congrArg (fun q => [Value.int q, .ref A.2.2.2.2.2.2.1.1]) (h1.2 i z hz).2.1) ?_
  refine V_outI C hBA Z.1 hT (by (try simp only [List.length_append, List.length_cons, List.length_nil]); omega) (by omega) dX3_writeSeat_40 dX3_writeSeat_43 ⟨by decide, by decide⟩ (by exact (by decide : (0 : Nat) ≤ 8)) ⟨by exact (by decide : 1 ≤ 1), by exact (by decide : 142 ≤ 142)⟩ 44 rfl (fun q1 sb1 hT1 => ?_)
  exact V_nretV C Z rfl ⟨rfl, _, _, rfl, hT1⟩ dX3_writeSeat_44 (Nat.le_refl _) (Nat.le_refl _)
