/-! ===== the other direct changes ===== -/
theorem ac_X {v : BkV} {x s : Int32} (hs : f_X0_slotWithId v x = some s) : f_X0_accepts v 88 x 0 = some (if s = -1 then 0 else 1) := by
  unfold f_X0_accepts f_X0_accepts_B140
  rw [if_neg (by decide), if_neg (by decide), if_neg (by decide), if_neg (by decide), if_neg (by decide), if_neg (by decide), if_pos rfl, hs, bd_s]
  split
  · rw [gd_z0]
  · rw [gd_z1]
theorem ac_M {v : BkV} {x pa s : Int32} (hs : f_X0_slotWithId v x = some s) : f_X0_accepts v 77 x pa = some (if s = -1 then 0 else b2 (decide (0 ≤ pa ∧ pa < 60))) := by
  unfold f_X0_accepts f_X0_accepts_B162 f_X0_accepts_B163
  rw [if_neg (by decide), if_neg (by decide), if_pos rfl, hs, bd_s]
  split
  · rw [gd_z0]
  · rw [s_hasPage, bd_s]
    cases decide (0 ≤ pa ∧ pa < 60)
    · rw [if_pos b2_f, gd_z0]
      rfl
    · rw [if_neg (by decide), gd_z1]
      rfl
theorem ac_S {v : BkV} {x y s t : Int32} (hs : f_X0_slotWithId v x = some s) (ht : f_X0_slotWithId v y = some t) : f_X0_accepts v 83 x y = some (if s = -1 then 0 else if t = -1 then 0 else 1) := by
  unfold f_X0_accepts f_X0_accepts_B186 f_X0_accepts_B187
  rw [if_neg (by decide), if_neg (by decide), if_neg (by decide), if_neg (by decide), if_pos rfl, hs, bd_s]
  split
  · rw [gd_z0]
  · rw [ht, bd_s]
    split
    · rw [gd_z0]
    · rw [gd_z1]
theorem ac_C {v : BkV} (pa : Int32) : f_X0_accepts v 67 pa 0 = some (b2 (decide (0 ≤ pa ∧ pa < 60))) := by
  unfold f_X0_accepts
  rw [if_pos rfl, s_hasPage, bd_s, gd_z]
theorem ac_V {v : BkV} (ca : Int32) : f_X0_accepts v 86 ca 0 = some (b2 (decide (0 ≤ ca ∧ ca < Bk_chapters v))) := by
  unfold f_X0_accepts
  rw [if_neg (by decide), if_neg (by decide), if_neg (by decide), if_neg (by decide), if_neg (by decide), if_pos rfl, s_hasChapter, bd_s, gd_z]
theorem ac_T {v : BkV} (ca : Int32) (fwd : Bool) : f_X0_accepts v (if fwd = true then 84 else 66) ca 0 = some (b2 (decide (1 ≤ ca ∧ ca ≤ 20))) := by
  unfold f_X0_accepts
  cases fwd
  · rw [show (if false = true then (84 : Int32) else 66) = 66 from rfl, if_neg (by decide), if_neg (by decide), if_neg (by decide), if_neg (by decide), if_neg (by decide), if_neg (by decide), if_neg (by decide), s_takesCount, bd_s, gd_z]
  · rw [show (if true = true then (84 : Int32) else 66) = 84 from rfl, if_neg (by decide), if_neg (by decide), if_neg (by decide), if_neg (by decide), if_neg (by decide), if_neg (by decide), if_neg (by decide), s_takesCount, bd_s, gd_z]
theorem rb_slot {N : Nat} {v : BkV} {a : Nat → Int32} (h : RB N v a) (x : Int32) : ∃ s, f_X0_slotWithId v x = some s := by
  obtain ⟨L, L', S, r, nid, h1, h2, h3, h4, h5, -⟩ := h
  obtain ⟨s, hs, -⟩ := s_slotWithId h1 h5.bL x
  exact ⟨s, hs⟩
section DIR
variable {N : Nat} {x : XV} {m : MdV}
theorem not_ok {N : Nat} {v : BkV} {md : MdV} {k one two byA : Int32} {fm : Option (Int32 × MdV)} (st : StpK N v md k one two byA fm) (ac : f_X0_accepts v k one two = some 0) : fm = some (byA, md) := by
  rcases st with ⟨-, a⟩ | ⟨a, -⟩ | ⟨a, -⟩
  · exact a
  · rw [ac] at a
    cases a
  · rw [ac] at a
    cases a
theorem ag_removeMark (h : RX N x m) (a : Int32) : Ag [IOOBE] (N + 1) (f_X3_removeMark x a) (f_X4_removeMark m a) := by
  have st := stp_X (md1_RB h.1) a
  have e : f_X4_removeMark m a = mdCall m (fun u => f_X4_removes u a) 1 0 0 := rfl
  rw [e]
  obtain ⟨s, hs⟩ := rb_slot h.1 a
  unfold f_X3_removeMark
  rw [x_reqMark hs, bd_s]
  by_cases e0 : s = -1
  · rw [if_pos e0, bx_inr]
    exact dir_no (byA := 1) h rfl (not_ok st (by rw [ac_X hs, if_pos e0])) (z := 0) rfl (by omega) rfl
  · rw [if_neg e0, bx_inl]
    rcases st with ⟨a1, -⟩ | ⟨-, q, d, a2, a3, -⟩ | ⟨-, a2, res, v', a', a3, a4, a5, a6⟩
    · rw [ac_X hs, if_neg e0] at a1
      cases a1
    · have : f_X0_reasonAgainst x.2.1 88 a 0 = some 0 := by
        unfold f_X0_reasonAgainst
        rw [if_neg (by decide), if_neg (by decide), if_neg (by decide), if_neg (by decide), if_neg (by decide), if_neg (by decide), if_neg (by decide), if_neg (by decide)]
      rw [this] at a2
      have := (nI_eq (a := 0) (b := q) (by omega) (by omega)).mp (Option.some.inj a2)
      omega
    · obtain ⟨m', c, nx, q1, q2, q3, q4, q5, q6, q7⟩ := h.made (op := fun u => f_X4_removes u a) (n1 := 1) (n2 := 0) (n3 := 0) (Nat.le_succ _) a4 a6 a5
      refine Ag.ret (r := res) ?_ q1 q2 q7
      show bd (f_X1_remember (x.2.2.2.2.1, x.2.2.2.2.2.2.2, x.2.1)) _ = _
      rw [s_remember q5 q6 q3 q4, bd_s]
      show bd (f_X0_carryOut x.2.1 88 a 0) _ = _
      rw [a3, bd_s]
theorem ag_moveRibbon (h : RX N x m) (a p : Int32) : Ag [IOOBE, UOE] (N + 1) (f_X3_moveRibbon x a p) (f_X4_moveRibbon m a p) := by
  have st := stp_M (md1_RB h.1) a p
  have e : f_X4_moveRibbon m a p = mdCall m (fun u => f_X4_moves u a p) 1 0 2 := rfl
  rw [e]
  obtain ⟨s, hs⟩ := rb_slot h.1 a
  unfold f_X3_moveRibbon
  rw [x_reqMark hs, bd_s]
  by_cases e0 : s = -1
  · rw [if_pos e0, bx_inr]
    exact dir_no (byA := 1) h rfl (not_ok st (by rw [ac_M hs, if_pos e0])) (z := 0) rfl (by omega) rfl
  · rw [if_neg e0, bx_inl, x_reqPage, bd_s]
    by_cases hp : 0 ≤ p ∧ p < 60
    · rw [if_pos hp, bx_inl, bx_id]
      refine dir_ag h st ?_ (z := 1) rfl (by omega) rfl
      rw [ac_M hs, if_neg e0, decide_eq_true hp]
      decide
    · rw [if_neg hp, bx_inr]
      exact dir_no (byA := 1) h rfl (not_ok st (by rw [ac_M hs, if_neg e0, decide_eq_false hp]; rfl)) (z := 0) rfl (by omega) rfl
theorem ag_swapSeats (h : RX N x m) (a b : Int32) : Ag [IOOBE, UOE] (N + 1) (f_X3_swapSeats x a b) (f_X4_swapSeats m a b) := by
  have st := stp_S (md1_RB h.1) a b
  have e : f_X4_swapSeats m a b = mdCall m (fun u => f_X4_swaps u a b) 1 0 2 := rfl
  rw [e]
  obtain ⟨s, hs⟩ := rb_slot h.1 a
  obtain ⟨t, ht⟩ := rb_slot h.1 b
  unfold f_X3_swapSeats
  rw [x_reqMark hs, bd_s]
  by_cases e0 : s = -1
  · rw [if_pos e0, bx_inr]
    exact dir_no (byA := 1) h rfl (not_ok st (by rw [ac_S hs ht, if_pos e0])) (z := 0) rfl (by omega) rfl
  · rw [if_neg e0, bx_inl, x_reqMark ht, bd_s]
    by_cases e1 : t = -1
    · rw [if_pos e1, bx_inr]
      exact dir_no (byA := 1) h rfl (not_ok st (by rw [ac_S hs ht, if_neg e0, if_pos e1])) (z := 0) rfl (by omega) rfl
    · rw [if_neg e1, bx_inl, bx_id]
      refine dir_ag h st ?_ (z := 1) rfl (by omega) rfl
      rw [ac_S hs ht, if_neg e0, if_neg e1]
      decide
theorem ag_startChapter (h : RX N x m) (p : Int32) : Ag [IOOBE, UOE] (N + 1) (f_X3_startChapter x p) (f_X4_startChapter m p) := by
  have st := stp_C (md1_RB h.1) p
  have e : f_X4_startChapter m p = mdCall m (fun u => f_X4_starts u p) 1 0 2 := rfl
  rw [e]
  unfold f_X3_startChapter
  rw [x_reqPage, bd_s]
  by_cases hp : 0 ≤ p ∧ p < 60
  · rw [if_pos hp, bx_inl, bx_id]
    refine dir_ag h st ?_ (z := 1) rfl (by omega) rfl
    rw [ac_C, decide_eq_true hp]
    decide
  · rw [if_neg hp, bx_inr]
    exact dir_no (byA := 1) h rfl (not_ok st (by rw [ac_C, decide_eq_false hp]; rfl)) (z := 0) rfl (by omega) rfl
/-- an answer made a truth value on both sides -/
theorem Ag.bool {codes : List String} {fx : Option ((Int32 × XV) ⊕ (String × XV))} {fm : Option (Int32 × MdV)} (h : Ag codes N fx fm) : Ag codes N (bd fx (fun r4 => bx r4 (fun r4 => if r4.1 = 1 then gd (isz (1 : Int32)) (some (.inl ((1 : Int32), r4.2))) else gd (isz (0 : Int32)) (some (.inl ((0 : Int32), r4.2)))) (fun r4 => some (.inr r4)))) (bd fm (fun r6 => if r6.1 = 1 then gd (isz (1 : Int32)) (some ((1 : Int32), r6.2)) else gd (isz (0 : Int32)) (some ((0 : Int32), r6.2)))) := by
  obtain ⟨R, r, m', h1, h2, h3⟩ := h
  rw [h1, h2, bd_s, bd_s, gd_z1, gd_z0]
  cases R with
  | inl q =>
    obtain ⟨q1, q2, q3⟩ := h3
    rw [bx_inl, gd_z1, gd_z0]
    show Ag codes N (if q.1 = 1 then _ else _) (if r = 1 then _ else _)
    rw [q2]
    by_cases e : r = 1
    · rw [if_pos e, if_pos e]
      exact Ag.ret rfl rfl q1 q3
    · rw [if_neg e, if_neg e]
      exact Ag.ret rfl rfl q1 q3
  | inr q =>
    obtain ⟨⟨k, k1, k2⟩, q3⟩ := h3
    rw [bx_inr]
    by_cases e : r = 1
    · have : (if (r, m').1 = 1 then some ((1 : Int32), (r, m').2) else some (0, (r, m').2)) = some (1, m') := if_pos e
      rw [this]
      exact Ag.thr (E := q.1) (x' := q.2) k rfl rfl k1 k2 q3
    · have : (if (r, m').1 = 1 then some ((1 : Int32), (r, m').2) else some (0, (r, m').2)) = some (0, m') := if_neg e
      rw [this]
      exact Ag.thr (E := q.1) (x' := q.2) k rfl rfl k1 k2 q3
theorem mdCall_bd {β : Type} (m : MdV) (op : MdV → Option (Int32 × MdV)) (n1 n2 n3 : Int32) (k : Int32 × MdV → Option β) : bd (mdCall m op n1 n2 n3) k = bd (f_X4_begins m) (fun r1 => bd (op r1.2) (fun r3 => bd (f_X4_ends r3.2 r3.1 n1 n2 n3) (fun r5 => k (r5.1, r5.2)))) := by
  unfold mdCall
  cases f_X4_begins m with
  | none => rfl
  | some r1 =>
    rw [bd_s, bd_s]
    cases op r1.2 with
    | none => rfl
    | some r3 =>
      rw [bd_s, bd_s]
      cases f_X4_ends r3.2 r3.1 n1 n2 n3 with
      | none => rfl
      | some r5 => rfl
theorem ag_voteToDissolve (h : RX N x m) (a : Int32) : Ag [IOOBE, UOE] (N + 1) (f_X3_voteToDissolve x a) (f_X4_voteToDissolve m a) := by
  have st := stp_V (md1_RB h.1) a
  have e : f_X4_voteToDissolve m a = bd (mdCall m (fun u => f_X4_votes u a) 1 0 2) (fun r6 => if r6.1 = 1 then gd (isz (1 : Int32)) (some ((1 : Int32), r6.2)) else gd (isz (0 : Int32)) (some ((0 : Int32), r6.2))) := by
    rw [mdCall_bd]
    rfl
  rw [e]
  unfold f_X3_voteToDissolve
  rw [x_reqChapter, bd_s]
  by_cases hp : 0 ≤ a ∧ a < Bk_chapters x.2.1
  · rw [if_pos hp, bx_inl]
    have g := dir_ag (codes := [IOOBE, UOE]) (op := fun u => f_X4_votes u a) (n1 := 1) (n2 := 0) (n3 := 2) h st (by rw [ac_V, decide_eq_true hp]; decide) (z := 1) rfl (by omega) rfl
    exact g.bool
  · rw [if_neg hp, bx_inr]
    have g := dir_no (byA := 1) (codes := [IOOBE, UOE]) (E := IOOBE) (fx := some (.inr (IOOBE, x))) (n1 := 1) (n2 := 0) (n3 := 2) (op := fun u => f_X4_votes u a) h rfl (not_ok st (by rw [ac_V, decide_eq_false hp]; rfl)) (z := 0) rfl (by omega) rfl
    exact g.bool
theorem ag_turnPages (h : RX N x m) (a : Int32) (fwd : Bool) : Ag [IAE, UOE] (N + 1) (f_X3_turnPages x a (b2 fwd)) (f_X4_turnPages m a (b2 fwd)) := by
  have st := stp_T (md1_RB h.1) a fwd
  have e : f_X4_turnPages m a (b2 fwd) = mdCall m (fun u => f_X4_turns u a (b2 fwd)) 0 1 2 := rfl
  rw [e]
  unfold f_X3_turnPages f_X3_turnPages_B17
  rw [x_reqCount, bd_s]
  by_cases hp : 1 ≤ a ∧ a ≤ 20
  · rw [if_pos hp, bx_inl, bx_id, bx_id]
    have g := dir_ag (codes := [IAE, UOE]) (op := fun u => f_X4_turns u a (b2 fwd)) (n1 := 0) (n2 := 1) (n3 := 2) h st (by rw [ac_T a fwd, decide_eq_true hp]; decide) (z := 1) rfl (by omega) rfl
    cases fwd
    · rw [if_pos b2_f]
      exact g
    · rw [if_neg (by decide)]
      exact g
  · rw [if_neg hp, bx_inr]
    exact dir_no (byA := 2) h rfl (not_ok st (by rw [ac_T, decide_eq_false hp]; rfl)) (z := 0) rfl (by omega) rfl
/-! going back -/
theorem rgI_back : ∀ nx, nx < 8 → ∀ c, c < 9 → ∀ s, s < 9 → 1 ≤ s → s < c → rgI (if 0 < nx then nx - 1 else 7) (c - 1) s = rgI nx c s := by
  have h : (List.range 8).all (fun nx => (List.range 9).all fun c => (List.range 9).all fun s => (decide (s < 1) || decide (c ≤ s)) || decide (rgI (if 0 < nx then nx - 1 else 7) (c - 1) s = rgI nx c s)) = true := by decide +kernel
  intro nx h1 c h2 s h3 h4 h5
  have h6 := List.all_eq_true.mp (List.all_eq_true.mp (List.all_eq_true.mp h nx (List.mem_range.mpr h1)) c (List.mem_range.mpr h2)) s (List.mem_range.mpr h3)
  rw [Bool.or_eq_true, Bool.or_eq_true, decide_eq_true_iff, decide_eq_true_iff, decide_eq_true_iff] at h6
  rcases h6 with (h6 | h6) | h6
  · omega
  · omega
  · exact h6
theorem rgI_top : ∀ nx, nx < 8 → ∀ c, c < 9 → rgI nx c c = (if 0 < nx then nx - 1 else 7) := by decide +kernel
theorem tm_isFine (v : MdV) (b : Bool) : f_X4_isFine v (b2 b) = some (b2 b, mTh v (if b = true then 0 else 1)) := by
  unfold f_X4_isFine f_X4_isFine_B10
  cases b
  · rw [if_pos b2_f, gd_z]
    rfl
  · rw [if_neg (by decide), gd_z]
    rfl
theorem tm_fine0 (v : MdV) : f_X4_isFine v 0 = some (0, mTh v 1) := tm_isFine v false
theorem tm_fine1 (v : MdV) : f_X4_isFine v 1 = some (1, mTh v 0) := tm_isFine v true
theorem ag_undo (h : RX N x m) : Ag [ISE] N (f_X3_undo x) (f_X4_undo m) := by
  obtain ⟨h1, h2, ⟨s, s1, s2, s3⟩, h4, h5, h6, h7⟩ := id h
  obtain ⟨c, nx, c8, n8, c1, c2, c3, c4⟩ := h2
  unfold f_X3_undo f_X4_undo
  rw [c1, c3]
  by_cases e : c = 0
  · subst e
    refine Ag.thr (r := 0) (m' := mTh m 1) 0 (if_pos (by decide)) ?_ rfl rfl (h.th 1)
    rw [if_pos (by decide)]
    unfold f_X4_undo_B13
    rw [tm_fine0, bd_s, if_pos rfl]
  · have hx : f_X1_bringBackTo (x.2.2.2.2.1, x.2.2.2.2.2.2.2, x.2.1) = some (0, ((nI (c - 1), nI (if 0 < nx then nx - 1 else 7)), x.2.2.2.2.2.2.2, x.2.2.2.2.2.2.2 (if 0 < nx then nx - 1 else 7))) := by
      unfold f_X1_bringBackTo f_X1_bringBackTo_B19
      show (if Hs_next x.2.2.2.2.1 ≤ 0 then gd (inb 7 8) (some ((0 : Int32), ((Hs_count x.2.2.2.2.1 - 1, (7 : Int32)), x.2.2.2.2.2.2.2, x.2.2.2.2.2.2.2 (cl 7)))) else gd (inb (Hs_next x.2.2.2.2.1 - 1) 8) (some (0, ((Hs_count x.2.2.2.2.1 - 1, Hs_next x.2.2.2.2.1 - 1), x.2.2.2.2.2.2.2, x.2.2.2.2.2.2.2 (cl (Hs_next x.2.2.2.2.1 - 1)))))) = _
      rw [c1, c2, show nI c - 1 = nI (c - 1) from pk_sub (b := 1) (by omega)]
      by_cases e0 : nx = 0
      · subst e0
        rw [if_pos (by decide), gd_t (by decide)]
        rfl
      · rw [if_neg (nI_nle (by omega) (by omega)), show nI nx - 1 = nI (nx - 1) from pk_sub (b := 1) (by omega), gd_n (by omega) (by decide), cl_n (by omega), if_pos (by omega)]
    have hm : f_X4_copies (mTh m 0) (nI c) (nI 0) = some (0, mA (mTh m 0) (cpR (Md_all m) c 0 75)) := tm_copies (mTh m 0) (by omega) (by omega) e
    refine Ag.ret (r := nI (c - 1)) (x' := (x.1, x.2.2.2.2.2.2.2 (if 0 < nx then nx - 1 else 7), x.2.2.1, x.2.2.2.1, (nI (c - 1), nI (if 0 < nx then nx - 1 else 7)), x.2.2.2.2.2.1, x.2.2.2.2.2.2.1, x.2.2.2.2.2.2.2)) (m' := mA (mCh m 0 (nI (c - 1))) (cpR (Md_all m) c 0 75)) ?_ ?_ rfl ?_
    · rw [if_neg (nI_ne0 (by omega) (by omega)), hx, bd_s]
    · rw [if_neg (nI_nle (by omega) (by omega))]
      unfold f_X4_undo_B13
      rw [tm_fine1, bd_s, if_neg fst1]
      show bd (f_X4_copies (mTh m 0) (Md_changes m) (nI 0)) (fun r4 => some ((Md_changes r4.2 - 1), mCh r4.2 (Md_thrown r4.2) (Md_changes r4.2 - 1))) = _
      rw [c3, hm, bd_s]
      show some (Md_changes m - 1, _) = _
      have e9 : Md_changes m - 1 = nI (c - 1) := by
        rw [c3]
        exact pk_sub (b := 1) (by omega)
      have e8 : Md_changes (mA (mTh m 0) (cpR (Md_all m) c 0 75)) - 1 = nI (c - 1) := e9
      rw [e9]
      show some (nI (c - 1), mCh (mA (mTh m 0) (cpR (Md_all m) c 0 75)) 0 (Md_changes (mA (mTh m 0) (cpR (Md_all m) c 0 75)) - 1)) = _
      rw [e8]
      rfl
    · refine ⟨?_, ⟨c - 1, if 0 < nx then nx - 1 else 7, by omega, by split <;> omega, rfl, rfl, rfl, fun t t1 t2 => ?_⟩, ⟨s, s1, s2, fun q => (s3 q).same (fun j hj => cpR_ne _ _ (by omega) hj)⟩, h4, h5, h6, h7⟩
      · have := c4 c (by omega) (Nat.le_refl _)
        rw [rgI_top nx n8 c (by omega)] at this
        refine this.same fun j hj => ?_
        have q := cpR_seg (Md_all m) c 0 hj
        rw [segR_0] at q
        exact q
      · rw [rgI_back nx n8 c (by omega) t (by omega) t1 (by omega)]
        exact (c4 t t1 (by omega)).same (fun j hj => cpR_ne _ _ (by omega) hj)
theorem ag_undoCount (h : RX N x m) : AgP N x (f_X3_undoCount x) (f_X4_undoCount m) := by
  obtain ⟨c, nx, c8, n8, c1, c2, c3, c4⟩ := h.2.1
  exact ⟨nI c, mTh m 0, by unfold f_X3_undoCount; rw [c1], by unfold f_X4_undoCount; show some (Md_changes m, mTh m 0) = some (nI c, mTh m 0); rw [c3], h.th 0⟩
def mSv (v : MdV) (t s : Int32) : MdV := (Md_all v, Md_output v, Md_input v, Md_commands v, t, Md_changes v, s, Md_result v, Md_why v, Md_detail v, Md_cause v, Md_outputSize v, Md_typed v, Md_here v, Md_error v, Md_errorAt v, Md_commandMany v)
/-- a call that writes and doesn't throw -/
def AgS (N : Nat) (fx : Option (Int32 × XV)) (fm : Option (Int32 × MdV)) : Prop := ∃ r x' m', fx = some (r, x') ∧ fm = some (r, m') ∧ RX N x' m'
theorem ag_saveSnapshot (h : RX N x m) : AgS N (f_X3_saveSnapshot x) (f_X4_saveSnapshot m) := by
  obtain ⟨h1, h2, ⟨s, s1, s2, s3⟩, h4, h5, h6, h7⟩ := id h
  have hm : f_X4_copies (mSv m 0 1) (nI 0) (nI 9) = some (0, mA (mSv m 0 1) (cpR (Md_all m) 0 9 75)) := tm_copies (mSv m 0 1) (by omega) (by omega) (by omega)
  obtain ⟨L, L', S, r, nid, g1, g2, g3, -⟩ := id h1
  refine ⟨nI L.length, (((1 : Int32), (Mg_latestSyntaxError x.1), (Mg_latestReason x.1), (Mg_latestDetail x.1), (Mg_latestCause x.1)), x.2.1, x.2.2.1, x.2.1, x.2.2.2.2.1, x.2.2.2.2.2.1, x.2.2.2.2.2.2.1, x.2.2.2.2.2.2.2), mA (mSv m 0 1) (cpR (Md_all m) 0 9 75), ?_, ?_, ?_⟩
  · unfold f_X3_saveSnapshot f_X0_copyFrom
    rw [bd_s, ← g1.1]
  · unfold f_X4_saveSnapshot
    show bd (f_X4_copies (mSv m 0 1) (nI 0) (nI 9)) (fun r1 => gd (inb 0 825) (some ((Md_all r1.2) (cl 0), r1.2))) = _
    rw [hm, bd_s, gk_0, ck_0]
    show some (cpR (Md_all m) 0 9 75 0, _) = _
    unfold cpR
    rw [if_neg (by omega), g2.1, g3.length_eq]
  · have k : ∀ t, t ≠ 9 → sameR (segR (cpR (Md_all m) 0 9 75) t) (segR (Md_all m) t) := fun t ht j hj => cpR_ne _ _ ht hj
    have k0 := k 0 (by omega)
    rw [segR_0, segR_0] at k0
    refine ⟨h1.same k0, h2.mono (Nat.le_refl _) (fun t t1 t2 => k t (by omega)), ⟨true, rfl, rfl, fun _ => h1.same (fun j hj => (cpR_seg _ _ _ hj).trans (congrFun (segR_0 _) j))⟩, h4, h5, h6, h7⟩
theorem ag_restoreSnapshot (h : RX N x m) : Ag [ISE] N (f_X3_restoreSnapshot x) (f_X4_restoreSnapshot m) := by
  obtain ⟨h1, h2, ⟨s, s1, s2, s3⟩, h4, h5, h6, h7⟩ := id h
  unfold f_X3_restoreSnapshot f_X4_restoreSnapshot
  rw [s1, s2, tm_isFine, bd_s]
  cases s
  · exact Ag.thr (r := 0) (m' := mTh m 1) 0 (if_pos rfl) (if_pos rfl) rfl rfl (h.th 1)
  · have hm : f_X4_copies (mTh m 0) (nI 9) (nI 0) = some (0, mA (mTh m 0) (cpR (Md_all m) 9 0 75)) := tm_copies (mTh m 0) (by omega) (by omega) (by omega)
    have hr := s3 rfl
    obtain ⟨L, L', S, r, nid, g1, g2, g3, -⟩ := id hr
    obtain ⟨c, nx, c8, n8, c1, c2, c3, c4⟩ := h2
    refine Ag.ret (r := nI L.length) (x' := (x.1, x.2.2.2.1, x.2.2.1, x.2.2.2.1, ((0 : Int32), (Hs_next x.2.2.2.2.1)), x.2.2.2.2.2.1, x.2.2.2.2.2.2.1, x.2.2.2.2.2.2.2)) (m' := mA (mCh m 0 0) (cpR (Md_all m) 9 0 75)) ?_ ?_ rfl ?_
    · rw [if_neg (by decide)]
      unfold f_X0_copyFrom f_X1_forget
      rw [bd_s, bd_s, ← g1.1]
    · rw [if_neg (show ¬ (b2 true, mTh m (if true = true then 0 else 1)).1 = 0 by show ¬ b2 true = 0; decide)]
      show bd (f_X4_copies (mTh m 0) (nI 9) (nI 0)) (fun r4 => gd (inb 0 825) (some ((Md_all r4.2) (cl 0), mCh r4.2 (Md_thrown r4.2) 0))) = _
      rw [hm, bd_s, gk_0, ck_0]
      have e0 : Md_all (mA (mTh m 0) (cpR (Md_all m) 9 0 75)) 0 = nI L.length := by
        have q := cpR_seg (Md_all m) 9 0 (j := 0) (by omega)
        rw [segR_0] at q
        show cpR (Md_all m) 9 0 75 0 = _
        rw [q, g2.1, g3.length_eq]
      show some (Md_all (mA (mTh m 0) (cpR (Md_all m) 9 0 75)) 0, _) = _
      rw [e0]
      rfl
    · refine ⟨hr.same fun j hj => ?_, ⟨0, nx, by omega, n8, rfl, c2, rfl, fun t t1 t2 => by omega⟩, ⟨true, s1, s2, fun q => (s3 q).same (fun j hj => cpR_ne _ _ (by omega) hj)⟩, h4, h5, h6, h7⟩
      have q := cpR_seg (Md_all m) 9 0 hj
      rw [segR_0] at q
      exact q
end DIR
