/-! ===== execute ===== -/
theorem ag_execute {N : Nat} {x : XV} {m : MdV} (h : RX N x m) (hN : N + 30 < 2 ^ 28) : Ag [IAE, ISE, UOE] (N + 30) (f_X3_execute x) (f_X4_execute m) := by
  obtain ⟨c, n, t⟩ := tx_of h.2.2.2.2.2.1
  obtain ⟨r, sc', m', p1, p2, k, f, s, cnt, at_, cm, hh, p3, p4⟩ := parse_same t
  have hcl : f_X3_execute x = if r = -1 then f_X3_execute_L42 100 r 0 (x.1, x.2.1, x.2.1, x.2.2.2.1, x.2.2.2.2.1, (Sc_input sc', Sc_kinds sc', Sc_firsts sc', Sc_seconds sc', 0, Sc_commands sc', Sc_at sc'), x.2.2.2.2.2.2.1, x.2.2.2.2.2.2.2) else some (Sum.inr (IAE, ((Mg_hasSnapshot x.1, r, Mg_latestReason x.1, Mg_latestDetail x.1, Mg_latestCause x.1), x.2.1, x.2.2.1, x.2.2.2.1, x.2.2.2.2.1, (Sc_input sc', Sc_kinds sc', Sc_firsts sc', Sc_seconds sc', 0, Sc_commands sc', Sc_at sc'), x.2.2.2.2.2.2.1, x.2.2.2.2.2.2.2))) := by
    unfold f_X3_execute f_X2_takeCommands
    rw [p1]
    rfl
  have hmd : f_X4_execute m = if Md_error m' < 0 then bd (f_X4_begins (mTy m')) (fun r11 => f_X4_execute_L39 100 0 0 r11.2) else some (0, (Md_all m', Md_output m', Md_input m', Md_commands m', 1, Md_changes m', Md_isSaved m', Md_result m', Md_why m', Md_detail m', Md_cause m', Md_outputSize m', 0, Md_here m', Md_error m', Md_error m', Md_commandMany m')) := by
    unfold f_X4_execute
    rw [p2]
    rfl
  rw [hcl, hmd]
  obtain ⟨h1, h2, h3, h4, h5, h6, h7⟩ := id h
  rcases p4 with ⟨q, many, q60, e1, e2⟩ | ⟨e1, c1, c30, e2, sm⟩
  · subst e1
    subst e2
    subst p3
    rw [if_neg (nI_m1 (by omega)), if_neg (show ¬ Md_error (mP m cm hh (nI q) many) < 0 from nI_pos (by omega))]
    refine Ag.thr 0 rfl rfl rfl rfl ?_
    refine RX.mono ?_ (Nat.le_add_right N 30)
    exact ⟨h1, h2, h3, h4, rfl, ⟨0, by omega, rfl, rfl, fun i hi => absurd hi (Nat.not_lt_zero i)⟩, h7⟩
  · subst e1
    subst e2
    subst p3
    rw [if_pos rfl, if_pos (show Md_error (mP m cm hh (-1) (nI cnt)) < 0 from by show (-1 : Int32) < 0; decide), tm_begins, bd_s]
    have h0 : RX N (x.1, x.2.1, x.2.1, x.2.2.2.1, x.2.2.2.2.1, (Sc_input x.2.2.2.2.2.1, k, f, s, 0, nI cnt, at_), x.2.2.2.2.2.2.1, x.2.2.2.2.2.2.2) (mTy (mP m cm hh (-1) (nI cnt))) := ⟨h1, h2, h3, h4, h5, ⟨0, by omega, rfl, rfl, fun i hi => absurd hi (Nat.not_lt_zero i)⟩, h7⟩
    have lp : Ag [IAE, ISE, UOE] (N + 30) (f_X3_execute_L42 100 (-1) (nI 0) (x.1, x.2.1, x.2.1, x.2.2.2.1, x.2.2.2.2.1, (Sc_input x.2.2.2.2.2.1, k, f, s, 0, nI cnt, at_), x.2.2.2.2.2.2.1, x.2.2.2.2.2.2.2)) (f_X4_execute_L39 100 0 (nI 0) (mAR (mTy (mP m cm hh (-1) (nI cnt))) (Md_all (md1 (mTy (mP m cm hh (-1) (nI cnt))))) (Md_result m))) := exe_loop h0 hN c30 rfl rfl sm (-1) cnt 0 100 100 x.2.1 (Md_all (md1 (mTy (mP m cm hh (-1) (nI cnt))))) (Md_result m) (by omega) (by omega) (by omega) (md1_RB h0.1) (fun j hj => rfl)
    exact lp
