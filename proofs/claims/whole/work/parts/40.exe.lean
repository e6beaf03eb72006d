/-! ===== a script is carried out alike ===== -/
theorem bd_id {α β : Type} (o : Option (α × β)) : bd o (fun r => some (r.1, r.2)) = o := by cases o <;> rfl
theorem does_stp {N : Nat} {v : BkV} {md : MdV} (h : RB N v (Md_all md)) (hN : N < 2 ^ 28) {a b e i : Nat} (ha : isK a = true) (he : sec2 a = false → e = 0) (hi : i < 60) (c0 : Md_commands md (3 * i) = nI a) (c1 : Md_commands md (3 * i + 1) = nI b) (c2 : Md_commands md (3 * i + 2) = nI e) : ∃ byA, (byA = 1 ∨ byA = 2) ∧ StpK N v md (nI a) (nI b) (nI e) byA (f_X4_does md (3 * nI i)) := by
  have e1 : nI (3 * i) + 1 = nI (3 * i + 1) := nI_add (3 * i) 1
  have e2 : nI (3 * i) + 2 = nI (3 * i + 2) := nI_add (3 * i) 2
  have red : f_X4_does md (3 * nI i) = if nI a = 67 then f_X4_starts md (nI b) else if nI a = 69 then f_X4_adds md (nI b) (nI e) 0 else if nI a = 77 then f_X4_moves md (nI b) (nI e) else if nI a = 82 then f_X4_adds md (nI b) (nI e) 1 else if nI a = 83 then f_X4_swaps md (nI b) (nI e) else if nI a = 84 then f_X4_turns md (nI b) 1 else if nI a = 86 then f_X4_votes md (nI b) else if nI a = 88 then f_X4_removes md (nI b) else f_X4_turns md (nI b) 0 := by
    unfold f_X4_does
    rw [show (3 : Int32) * nI i = nI (3 * i) from pk_mul 3 i, e1, e2, gd_n (by omega) (by decide), gd_n (by omega) (by decide), gd_n (by omega) (by decide), cl_n (by omega), cl_n (by omega), cl_n (by omega), c0, c1, c2]
    simp only [bd_id]
  rw [red]
  have hk := of_decide_eq_true ha
  rcases hk with rfl | rfl | rfl | rfl | rfl | rfl | rfl | rfl | rfl
  · have e0 := he (by decide)
    subst e0
    rw [if_neg (by decide), if_neg (by decide), if_neg (by decide), if_neg (by decide), if_neg (by decide), if_neg (by decide), if_neg (by decide), if_neg (by decide)]
    exact ⟨2, Or.inr rfl, stp_T h (nI b) false⟩
  · have e0 := he (by decide)
    subst e0
    rw [if_pos (by decide)]
    exact ⟨1, Or.inl rfl, stp_C h (nI b)⟩
  · rw [if_neg (by decide), if_pos (by decide)]
    refine ⟨_, ?_, stp_E h hN (nI b) (nI e)⟩
    split
    · exact Or.inr rfl
    · exact Or.inl rfl
  · rw [if_neg (by decide), if_neg (by decide), if_pos (by decide)]
    exact ⟨1, Or.inl rfl, stp_M h (nI b) (nI e)⟩
  · rw [if_neg (by decide), if_neg (by decide), if_neg (by decide), if_pos (by decide)]
    refine ⟨_, ?_, stp_R h hN (nI b) (nI e)⟩
    split
    · exact Or.inr rfl
    · exact Or.inl rfl
  · rw [if_neg (by decide), if_neg (by decide), if_neg (by decide), if_neg (by decide), if_pos (by decide)]
    exact ⟨1, Or.inl rfl, stp_S h (nI b) (nI e)⟩
  · have e0 := he (by decide)
    subst e0
    rw [if_neg (by decide), if_neg (by decide), if_neg (by decide), if_neg (by decide), if_neg (by decide), if_pos (by decide)]
    exact ⟨2, Or.inr rfl, stp_T h (nI b) true⟩
  · have e0 := he (by decide)
    subst e0
    rw [if_neg (by decide), if_neg (by decide), if_neg (by decide), if_neg (by decide), if_neg (by decide), if_neg (by decide), if_pos (by decide)]
    exact ⟨1, Or.inl rfl, stp_V h (nI b)⟩
  · have e0 := he (by decide)
    subst e0
    rw [if_neg (by decide), if_neg (by decide), if_neg (by decide), if_neg (by decide), if_neg (by decide), if_neg (by decide), if_neg (by decide), if_pos (by decide)]
    exact ⟨1, Or.inl rfl, stp_X h (nI b)⟩
def mTy (m : MdV) : MdV := (Md_all m, Md_output m, Md_input m, Md_commands m, Md_thrown m, Md_changes m, Md_isSaved m, Md_result m, Md_why m, Md_detail m, Md_cause m, Md_outputSize m, 0, Md_here m, Md_error m, Md_errorAt m, Md_commandMany m)
/-- the model's failure of a script -/
theorem exe_back {m0 w : MdV} (hw : ∀ j, 75 ≤ j → Md_all w j = Md_all (md1 m0) j) : ∀ s, s ≤ 9 → sameR (segR (cpR (Md_all w) 10 0 75) s) (segR (Md_all m0) s) := by
  intro s hs j hj
  by_cases e : s = 0
  · rw [e, cpR_seg _ _ _ hj, segR_0]
    exact (hw _ (by omega)).trans (md1_ten m0 j hj)
  · rw [cpR_ne _ _ e hj]
    exact (hw _ (by omega)).trans (md1_seg m0 (by omega) j hj)
theorem l39_stop {by_ : Int32} (h : by_ ≠ 0) (n : Nat) (x2 : Int32) (v : MdV) : f_X4_execute_L39 (n + 1) by_ x2 v = f_X4_execute_B65 by_ x2 v := by
  rw [f_X4_execute_L39]
  by_cases e : Md_commandMany v ≤ x2
  · rw [if_pos e]
  · rw [if_neg e, if_neg h]
def mWh (m : MdV) (w d c : Int32) : MdV := (Md_all m, Md_output m, Md_input m, Md_commands m, Md_thrown m, Md_changes m, Md_isSaved m, Md_result m, w, d, c, Md_outputSize m, Md_typed m, Md_here m, Md_error m, Md_errorAt m, Md_commandMany m)
theorem RX.rejc {N : Nat} {x : XV} {m m' : MdV} {d c : Int32} (h : RX N x m) (k : ∀ s, s ≤ 9 → sameR (segR (Md_all m') s) (segR (Md_all m) s)) (e : mRest m' = mRest (mWh m 10 d c)) (hc : c ≠ 0) : RX N (mgRej x.1 10 d c, x.2) m' := by
  have h2 : RX N (mgRej x.1 10 d c, x.2) (mWh m 10 d c) := by
    obtain ⟨h1, h2, h3, h4, h5⟩ := h
    exact ⟨h1, h2, h3, ⟨rfl, rfl, rfl, fun _ => hc, fun _ => rfl⟩, h5⟩
  exact h2.mem (Nat.le_refl _) k e
section EXE
variable {N : Nat} {g : MgV} {b0 : BkV} {sb0 : BkV} {hs : HsV} {sc : ScV} {sbv : SbV} {hb : Nat → BkV} {m0 : MdV}
/-- the commands from the i-th on -/
theorem exe_loop (h : RX N (g, b0, b0, sb0, hs, sc, sbv, hb) m0) (hN : N + 30 < 2 ^ 28) {cnt : Nat} (hc : cnt ≤ 30) (hsc : Sc_commands sc = nI cnt) (hm : Md_commandMany m0 = nI cnt) (sm : ∀ i, i < cnt → SmC (Sc_kinds sc) (Sc_firsts sc) (Sc_seconds sc) (Md_commands m0) i) (r0 : Int32) :
    ∀ d i n1 n2 (v : BkV) (a' : Nat → Int32) (res : Int32), i + d = cnt → d < n1 → d + 1 < n2 → RB (N + i) v a' → (∀ j, 75 ≤ j → a' j = Md_all (md1 m0) j) →
      Ag [IAE, ISE, UOE] (N + 30) (f_X3_execute_L42 n1 r0 (nI i) (g, v, b0, sb0, hs, sc, sbv, hb)) (f_X4_execute_L39 n2 0 (nI i) (mAR m0 a' res)) := by
  intro d
  induction d with
  | zero =>
    intro i n1 n2 v a' res hi hn1 hn2 hv ha
    obtain ⟨n1, rfl⟩ : ∃ z, n1 = z + 1 := ⟨n1 - 1, by omega⟩
    obtain ⟨n2, rfl⟩ : ∃ z, n2 = z + 1 := ⟨n2 - 1, by omega⟩
    have e : i = cnt := by omega
    subst e
    obtain ⟨m', c, nx, q1, q2, q3, q4, q5, q6, q7⟩ := h.made (n1 := 2) (n2 := 2) (n3 := 3) (N' := N + 30) (op := fun w => some (0, mAR w a' (nI i))) (res := nI i) (a' := a') (v' := v) (by omega) rfl ha (hv.mono (by omega))
    refine Ag.ret (r := nI i) (x' := (g, v, b0, sb0, (nI (if c = 8 then 8 else c + 1), nI (if nx + 1 < 8 then nx + 1 else 0)), sc, sbv, va_up hb nx b0)) (m' := m') ?_ ?_ q2 ?_
    · rw [f_X3_execute_L42]
      show (if Sc_commands sc ≤ nI i then bd (f_X1_remember (hs, hb, b0)) (fun r2 => some (Sum.inl (Sc_commands sc, (g, v, r2.2.2.2, sb0, r2.2.1, sc, sbv, r2.2.2.1)))) else _) = _
      rw [hsc, if_pos (Int32.le_refl _), s_remember q5 q6 q3 q4, bd_s]
    · rw [f_X4_execute_L39]
      have e1 : Md_commandMany (mAR m0 a' res) ≤ nI i := by
        show Md_commandMany m0 ≤ nI i
        rw [hm]
        exact Int32.le_refl _
      rw [if_pos e1]
      unfold f_X4_execute_B65
      rw [if_neg (by decide)]
      unfold f_X4_execute_B91
      unfold mdCall at q1
      rw [tm_begins, bd_s, bd_s] at q1
      rw [← q1]
      show bd (f_X4_ends (mAR m0 a' (Md_commandMany m0)) 0 2 2 3) _ = _
      rw [hm]
      rfl
    · obtain ⟨g1, g2⟩ := q7
      exact ⟨g1, g2⟩
  | succ d ih =>
    intro i n1 n2 v a' res hi hn1 hn2 hv ha
    obtain ⟨n1, rfl⟩ : ∃ z, n1 = z + 1 := ⟨n1 - 1, by omega⟩
    obtain ⟨n2, rfl⟩ : ∃ z, n2 = z + 2 := ⟨n2 - 2, by omega⟩
    have hic : i < cnt := by omega
    obtain ⟨a, b, e, k1, k2, k3, k4, k5, k6, k7, k8⟩ := sm i hic
    have hx : f_X3_execute_L42 (n1 + 1) r0 (nI i) (g, v, b0, sb0, hs, sc, sbv, hb) = bd (f_X0_accepts v (nI a) (nI b) (nI e)) (fun r7 => if r7 = 0 then bd (f_X0_copyFrom (v, b0)) (fun r19 => some (Sum.inr ("java/lang/IllegalStateException", (g, r19.2.1, r19.2.2, sb0, hs, sc, sbv, hb)))) else bd (f_X0_reasonAgainst v (nI a) (nI b) (nI e)) (fun r10 => if r10 = 0 then bd (f_X0_carryOut v (nI a) (nI b) (nI e)) (fun r13 => f_X3_execute_L42 n1 r0 (nI i + 1) (g, r13.2, b0, sb0, hs, sc, sbv, hb)) else bd (f_X0_copyFrom (v, b0)) (fun r15 => bd (f_X3_noteRejection g 10 (nI i) r10) (fun r17 => some (Sum.inr ("java/lang/UnsupportedOperationException", (r17.2, r15.2.1, r15.2.2, sb0, hs, sc, sbv, hb))))))) := by
      rw [f_X3_execute_L42]
      show (if Sc_commands sc ≤ nI i then _ else gd (inb (nI i) 30) (gd (inb (nI i) 30) (gd (inb (nI i) 30) (bd (f_X0_accepts v (Sc_kinds sc (cl (nI i))) (Sc_firsts sc (cl (nI i))) (Sc_seconds sc (cl (nI i)))) (fun r7 => if r7 = 0 then bd (f_X0_copyFrom (v, b0)) (fun r19 => some (Sum.inr ("java/lang/IllegalStateException", (g, r19.2.1, r19.2.2, sb0, hs, sc, sbv, hb)))) else bd (f_X0_reasonAgainst v (Sc_kinds sc (cl (nI i))) (Sc_firsts sc (cl (nI i))) (Sc_seconds sc (cl (nI i)))) (fun r10 => if r10 = 0 then bd (f_X0_carryOut v (Sc_kinds sc (cl (nI i))) (Sc_firsts sc (cl (nI i))) (Sc_seconds sc (cl (nI i)))) (fun r13 => f_X3_execute_L42 n1 r0 (nI i + 1) (g, r13.2, b0, sb0, hs, sc, sbv, hb)) else bd (f_X0_copyFrom (v, b0)) (fun r15 => bd (f_X3_noteRejection g 10 (nI i) r10) (fun r17 => some (Sum.inr ("java/lang/UnsupportedOperationException", (r17.2, r15.2.1, r15.2.2, sb0, hs, sc, sbv, hb))))))))))) = _
      rw [hsc, if_neg (nI_ge hic (by omega)), gd_n (by omega) (by decide), gd_n (by omega) (by decide), gd_n (by omega) (by decide), cl_n (by omega), k3, k4, k5]
    have hmd : f_X4_execute_L39 (n2 + 2) 0 (nI i) (mAR m0 a' res) = bd (f_X4_does (mAR m0 a' res) (3 * nI i)) (fun r6 => f_X4_execute_L39 (n2 + 1) r6.1 (nI (i + 1)) r6.2) := by
      rw [f_X4_execute_L39]
      have e1 : ¬ Md_commandMany (mAR m0 a' res) ≤ nI i := by
        show ¬ Md_commandMany m0 ≤ nI i
        rw [hm]
        exact nI_ge hic (by omega)
      rw [if_neg e1, if_pos rfl, nI_1]
    obtain ⟨byA, hby, st⟩ := does_stp (md := mAR m0 a' res) (i := i) hv (by omega) k1 k2 (by omega) k6 k7 k8
    have cf : ∀ w : BkV, f_X0_copyFrom (w, b0) = some (0, (b0, b0)) := fun w => rfl
    rw [hx, hmd]
    rcases st with ⟨a1, a2⟩ | ⟨a1, q, dd, a2, a3, a4, a5⟩ | ⟨a1, a2, res', v', a'', a3, a4, a5, a6⟩
    · have hb0 : byA ≠ 0 := by
        rcases hby with rfl | rfl <;> decide
      have bk := exe_back (m0 := m0) (w := mAR m0 a' res) ha
      refine Ag.thr (r := 0) (E := ISE) (x' := (g, b0, b0, sb0, hs, sc, sbv, hb)) (m' := mA (mTh (mAR m0 a' (Md_commandMany m0)) 2) (cpR a' 10 0 75)) 1 ?_ ?_ rfl rfl ?_
      · rw [a1, bd_s, if_pos rfl, cf, bd_s]
        rfl
      · rw [a2, bd_s]
        show f_X4_execute_L39 (n2 + 1) byA (nI (i + 1)) (mAR m0 a' res) = _
        rw [l39_stop hb0]
        unfold f_X4_execute_B65
        rw [if_neg (by rcases hby with rfl | rfl <;> decide)]
        unfold f_X4_execute_B91
        show bd (f_X4_ends (mAR m0 a' (Md_commandMany m0)) byA 2 2 3) _ = _
        rw [tm_endsT _ byA 2 2 3 2 (by decide) (by rcases hby with rfl | rfl <;> rfl), bd_s]
        rfl
      · exact h.mem (by omega) bk rfl
    · have bk := exe_back (m0 := m0) (w := mAR m0 a' res) ha
      have hq0 : nI q ≠ 0 := nI_ne0 (by omega) (by omega)
      refine Ag.thr (r := 0) (E := UOE) (x' := (mgRej g 10 (nI i) (nI q), b0, b0, sb0, hs, sc, sbv, hb)) (m' := mA (mTh (mWh (mAR m0 a' (Md_commandMany m0)) 10 (nI i) (nI q)) 3) (cpR a' 10 0 75)) 2 ?_ ?_ rfl rfl ?_
      · rw [a1, bd_s, if_neg (by decide), a2, bd_s, if_neg hq0, cf, bd_s]
        rfl
      · rw [a5, bd_s]
        show f_X4_execute_L39 (n2 + 1) 3 (nI (i + 1)) (mRej (mAR m0 a' res) (nI q) dd) = _
        rw [l39_stop (by decide)]
        unfold f_X4_execute_B65
        rw [if_pos rfl, nI_dn]
        unfold f_X4_execute_B91
        show bd (f_X4_ends (mWh (mAR m0 a' (Md_commandMany m0)) 10 (nI i) (nI q)) 3 2 2 3) _ = _
        rw [tm_endsT _ 3 2 2 3 3 (by decide) rfl, bd_s]
        rfl
      · exact (h.rejc (m' := mA (mTh (mWh (mAR m0 a' (Md_commandMany m0)) 10 (nI i) (nI q)) 3) (cpR a' 10 0 75)) bk rfl hq0).mono (by omega)
    · rw [a1, bd_s, if_neg (by decide), a2, bd_s, if_pos rfl, a3, bd_s, a4, bd_s, nI_1]
      exact ih (i + 1) n1 (n2 + 1) v' a'' res' (by omega) (by omega) (by omega) (a5.mono (by omega)) (fun j hj => (a6 j hj).trans (ha j hj))
end EXE
theorem tx_of {sc : ScV} {m : MdV} (h : IB sc m) : ∃ c n, TX c n sc m := by
  obtain ⟨n, n1, n2, n3, n4⟩ := h
  refine ⟨fun i => (Md_input m i).toInt.toNat, n, n1, n2, n3, fun i hi => ?_⟩
  obtain ⟨ch, c1, c2, c3, c4⟩ := n4 i hi
  have e : (Md_input m i).toInt.toNat = ch := by
    rw [c4, nI_toInt (by omega)]
    exact Int.toNat_natCast ch
  show (Md_input m i).toInt.toNat < 128 ∧ Sc_input sc i = nI (Md_input m i).toInt.toNat ∧ Md_input m i = nI (Md_input m i).toInt.toNat
  rw [e]
  exact ⟨by omega, c3, c4⟩
