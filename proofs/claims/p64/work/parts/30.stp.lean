/-! ===== a change on both sides ===== -/
def StpK (N : Nat) (v : BkV) (md : MdV) (kind one two byA : Int32) (fm : Option (Int32 × MdV)) : Prop :=
  (f_X0_accepts v kind one two = some 0 ∧ fm = some (byA, md)) ∨
  (f_X0_accepts v kind one two = some 1 ∧ ∃ q d, f_X0_reasonAgainst v kind one two = some (nI q) ∧ (1 ≤ q ∧ q ≤ 9) ∧ f_X0_detailOf v (nI q) kind one two = some d ∧ fm = some (3, mRej md (nI q) d)) ∨
  (f_X0_accepts v kind one two = some 1 ∧ f_X0_reasonAgainst v kind one two = some 0 ∧ ∃ res v' a', f_X0_carryOut v kind one two = some (res, v') ∧ fm = some (0, mAR md a' res) ∧ RB (N + 1) v' a' ∧ ∀ j, 75 ≤ j → a' j = Md_all md j)
theorem b2and {x y : Bool} : b2 (x && y) = if x = true then b2 y else 0 := by cases x <;> cases y <;> rfl
/-! what is accepted -/
theorem ac_add (v : BkV) (p w : Int32) : f_X0_accepts v 82 p w = some (b2 (decide (0 ≤ p ∧ p < 60) && decide (1 ≤ w ∧ w ≤ 9))) := by
  unfold f_X0_accepts f_X0_accepts_B124 f_X0_accepts_B125
  rw [if_neg (by decide), if_neg (by decide), if_neg (by decide), if_pos rfl, s_hasPage, bd_s]
  cases decide (0 ≤ p ∧ p < 60)
  · rw [if_pos b2_f, gd_z0]
    rfl
  · rw [if_neg (by decide), s_takesWeight, bd_s]
    cases decide (1 ≤ w ∧ w ≤ 9)
    · rw [if_pos b2_f, gd_z0]
      rfl
    · rw [if_neg (by decide), gd_z1]
      rfl
theorem ac_ear (v : BkV) (p w : Int32) : f_X0_accepts v 69 p w = some (b2 (decide (0 ≤ p ∧ p < 60) && decide (1 ≤ w ∧ w ≤ 9))) := by
  unfold f_X0_accepts f_X0_accepts_B124 f_X0_accepts_B125
  rw [if_neg (by decide), if_pos rfl, s_hasPage, bd_s]
  cases decide (0 ≤ p ∧ p < 60)
  · rw [if_pos b2_f, gd_z0]
    rfl
  · rw [if_neg (by decide), s_takesWeight, bd_s]
    cases decide (1 ≤ w ∧ w ≤ 9)
    · rw [if_pos b2_f, gd_z0]
      rfl
    · rw [if_neg (by decide), gd_z1]
      rfl
section STP
variable {N : Nat} {v : BkV} {md : MdV}
theorem nI_1_9 {w : Int32} (h : 1 ≤ w ∧ w ≤ 9) : ∃ k, (1 ≤ k ∧ k ≤ 9) ∧ w = nI k := by
  obtain ⟨k, hk, rfl⟩ := nI_of2 (x := w) (M := 9) (n := 9) (by decide) (fun z => Int32.not_lt.mpr h.1 (Int32.lt_of_lt_of_le z (by decide))) h.2
  refine ⟨k, ⟨?_, hk⟩, rfl⟩
  have := h.1
  rw [show (1 : Int32) = nI 1 from rfl, nI_leI (by omega) (by omega)] at this
  exact this
/-- a mark put on a free page, with a free seat or none -/
theorem stp_push {L L' : List M5} {S : List Nat} {r nid : Nat} (h1 : hM v L) (h2 : sM (Md_all md) L') (h3 : L.Perm L') (h4 : srt L) (h5 : okL nid L) (h6 : hC v S) (h7 : sC (Md_all md) S) (h8 : okS S) (h9 : r < 60 ∧ Bk_reader v = nI r ∧ Md_all md 3 = nI r) (h10 : Bk_nextId v = nI nid ∧ Md_all md 1 = nI nid ∧ nid ≤ N) (h11 : Bk_votes v = Md_all md 4 ∧ Bk_carried v = Md_all md 5 ∧ Bk_fallen v = Md_all md 6 ∧ VC N v) (hN : N < 2 ^ 28)
    (hl : L.length < 12) {p w s : Nat} (hp : p < 60) (hw : 1 ≤ w ∧ w ≤ 9) (hs : s ≤ 5) (hpg : ∀ m ∈ L, mPg m ≠ p) (hst : s ≠ 0 → ∀ m ∈ L, mSt m ≠ s) :
    ∃ v', f_X0_add v (nI p) (nI w) (nI s - 1) = some (nI nid, v') ∧ RB (N + 1) v' (addR (Md_all md) L'.length nid p w s) ∧ ∀ j, 75 ≤ j → addR (Md_all md) L'.length nid p w s j = Md_all md j := by
  have hl' : L'.length < 12 := by
    rw [← h3.length_eq]
    exact hl
  obtain ⟨v1, hv1⟩ : ∃ z : BkV, z = (Bk_ids v, Bk_pages v, Bk_weights v, Bk_wears v, Bk_seats v, Bk_starts v, Bk_marks v, Bk_chapters v, Bk_reader v, Bk_nextId v + 1, Bk_votes v, Bk_carried v, Bk_fallen v) := ⟨_, rfl⟩
  have h1' : hM v1 L := by
    rw [hv1]
    exact h1
  have h6' : hC v1 S := by
    rw [hv1]
    exact h6
  have hnid := h10.2.2
  obtain ⟨j, v2, q1, q2, q3, q4⟩ := s_insert (z := (nid, p, w, 0, s)) h1' h5.bL h4 hl hp
  have q4' := q4
  unfold rsB at q4'
  simp only [Prod.mk.injEq] at q4'
  obtain ⟨e1, e2, e3, e4, e5, e6, e7⟩ := q4'
  have hz : ok5 (nid + 1) (nid, p, w, 0, s) := ⟨Nat.lt_succ_self _, hp, hw, Nat.zero_le _, hs, fun _ => rfl⟩
  have ha : ∀ m ∈ L, apartM (nid, p, w, 0, s) m := fun m hm => ⟨fun e => by have e' : nid = mId m := e; have := (h5.2.2.1 m hm).1; omega, fun e => hpg m hm e.symm, fun h0 e => hst h0 m hm e.symm⟩
  have pm : (L.insertIdx j (nid, p, w, 0, s)).Perm ((nid, p, w, 0, s) :: L) := List.perm_insertIdx _ _ q2.1
  refine ⟨v2, ?_, ⟨L.insertIdx j (nid, p, w, 0, s), L' ++ [(nid, p, w, 0, s)], S, r, nid + 1, q3, addR_sM h2 hl' nid p w s, ?_, srt_insert h4 q2 hpg, ?_, hC_rs h6' q4, ?_, h8, ⟨h9.1, ?_, ?_⟩, ⟨?_, ?_, by omega⟩, ?_, ?_, ?_, ?_⟩, fun j hj => addR_keep _ _ _ _ _ _ (by omega) (by omega) (by omega)⟩
  · unfold f_X0_add
    rw [← hv1, h10.1, show (0 : Int32) = nI 0 from rfl, q1, bd_s]
  · exact pm.trans ((List.Perm.cons _ h3).trans (List.perm_append_singleton _ _).symm)
  · exact (okL.cons h5 hl (by omega) hz ha).perm pm.symm
  · refine ⟨?_, fun k q hk => ?_⟩
    · rw [addR_keep _ _ _ _ _ _ (by omega) (by omega) (by omega)]
      exact h7.1
    · have := lt_get hk
      have := h8.1.1
      rw [addR_keep _ _ _ _ _ _ (by omega) (by omega) (by omega)]
      exact h7.2 k q hk
  · rw [e3, hv1]
    exact h9.2.1
  · rw [addR_keep _ _ _ _ _ _ (by omega) (by omega) (by omega)]
    exact h9.2.2
  · rw [e4, hv1]
    show Bk_nextId v + 1 = _
    rw [h10.1, nI_1]
  · unfold addR
    rw [pk_un (by omega), pk_un (by omega), pk_un (by omega), pk_un (by omega), pk_un (by omega), pk_un (by omega), pk_us]
  · rw [e5, hv1, addR_keep _ _ _ _ _ _ (by omega) (by omega) (by omega)]
    exact h11.1
  · rw [e6, hv1, addR_keep _ _ _ _ _ _ (by omega) (by omega) (by omega)]
    exact h11.2.1
  · rw [e7, hv1, addR_keep _ _ _ _ _ _ (by omega) (by omega) (by omega)]
    exact h11.2.2.1
  · exact h11.2.2.2.keep (Nat.le_succ _) (e5.trans (by rw [hv1])) (e6.trans (by rw [hv1]))
theorem s_idOnPage {L : List M5} {nid : Nat} (h : hM v L) (b : okL nid L) {m : M5} (hm : m ∈ L) : f_X0_idOnPage v (nI (mPg m)) = some (nI (mId m)) := by
  have bl := b.bL
  obtain ⟨r, hr, hf⟩ := s_slotOnPage h bl (nI (mPg m))
  unfold f_X0_idOnPage f_X0_idOnPage_B21
  rw [hr, bd_s]
  rcases hf with ⟨j, z, hz, hq, -, e⟩ | ⟨e, hq⟩
  · have hj := lt_get hz
    have hl := b.1
    have hp1 := (bl.2 m hm).2.1
    have hp2 := (bl.2 z (mem_get hz)).2.1
    have ez := pg_one b (mem_get hz) hm ((nI_eq (by omega) (by omega)).mp hq)
    rw [e, if_neg (nI_m1 (by omega)), gd_n (by omega) (by decide), cl_n (by omega), (h.2 j z hz).1, ez]
  · exact absurd rfl (hq m hm)
theorem slot_on {L : List M5} {nid : Nat} (h : hM v L) (b : okL nid L) {p : Nat} (hp : p < 60) : (∃ m ∈ L, mPg m = p) → ∃ j, j < 12 ∧ f_X0_slotOnPage v (nI p) = some (nI j) := by
  rintro ⟨m, hm, e0⟩
  obtain ⟨r, hr, hf⟩ := s_slotOnPage h b.bL (nI p)
  rcases hf with ⟨j, z, hz, -, -, e⟩ | ⟨e, hq⟩
  · have hj := lt_get hz
    have hl := b.1
    exact ⟨j, by omega, by rw [hr, e]⟩
  · exact absurd (congrArg nI e0) (hq m hm)
theorem slot_off {L : List M5} {nid : Nat} (h : hM v L) (b : okL nid L) {p : Nat} (hp : p < 60) (hno : ∀ m ∈ L, mPg m ≠ p) : f_X0_slotOnPage v (nI p) = some (-1) := by
  obtain ⟨r, hr, hf⟩ := s_slotOnPage h b.bL (nI p)
  rcases hf with ⟨j, z, hz, hq, -, e⟩ | ⟨e, hq⟩
  · have := (b.bL.2 z (mem_get hz)).2.1
    exact absurd ((nI_eq (by omega) (by omega)).mp hq) (hno z (mem_get hz))
  · rw [hr, e]
theorem stp_R (h : RB N v (Md_all md)) (hN : N < 2 ^ 28) (pa wa : Int32) : StpK N v md 82 pa wa (if 0 ≤ pa ∧ pa < 60 then 2 else 1) (f_X4_adds md pa wa 1) := by
  obtain ⟨L, L', S, r, nid, h1, h2, h3, h4, h5, h6, h7, h8, h9, h10, h11⟩ := h
  by_cases hp : 0 ≤ pa ∧ pa < 60
  · by_cases hw : 1 ≤ wa ∧ wa ≤ 9
    · obtain ⟨p, hp6, rfl⟩ := in_page hp
      obtain ⟨w, hw9, rfl⟩ := nI_1_9 hw
      have acc : f_X0_accepts v 82 (nI p) (nI w) = some 1 := by
        rw [ac_add, decide_eq_true hp, decide_eq_true hw]
        rfl
      have h5' := h5.perm h3
      have hll := h3.length_eq
      have hfs := fseat_perm h3 5
      have hf5 := fseat_le L 5 (Nat.le_refl _)
      have rea : f_X0_reasonAgainst v 82 (nI p) (nI w) = f_X0_reasonAgainstRibbon v (nI p) := by
        unfold f_X0_reasonAgainst
        rw [if_neg (by decide), if_neg (by decide), if_neg (by decide), if_neg (by decide), if_pos rfl]
        cases f_X0_reasonAgainstRibbon v (nI p) <;> rfl
      have rea2 : L.length < 12 → f_X0_reasonAgainstRibbon v (nI p) = if seatI (fseat L 5) = -1 then some 2 else bd (f_X0_slotOnPage v (nI p)) (fun r5 => if r5 = -1 then some 0 else some 3) := by
        intro hl
        unfold f_X0_reasonAgainstRibbon f_X0_reasonAgainstRibbon_B35
        rw [h1.1, if_pos (show nI L.length < (12 : Int32) from nI_lt hl (by decide)), s_freeSeat h1 h5.bL, bd_s]
      rcases tm_adds h2 h5'.bL h10.2.1 hp6 hw9 true with ⟨a1, a2⟩ | ⟨a1, -, a2, a3⟩ | ⟨a1, a2, m, hm, a3, a4⟩ | ⟨a1, a2, a3, a4⟩
      · refine Or.inr (Or.inl ⟨acc, 1, 12, ?_, by omega, ?_, a2⟩)
        · rw [rea]
          unfold f_X0_reasonAgainstRibbon
          rw [h1.1, hll, a1, if_neg (by decide)]
          rfl
        · unfold f_X0_detailOf
          rw [if_pos (by decide)]
      · refine Or.inr (Or.inl ⟨acc, 2, 5, ?_, by omega, ?_, a3⟩)
        · rw [rea, rea2 (by omega), hfs, a2, if_pos (by decide)]
          rfl
        · unfold f_X0_detailOf
          rw [if_neg (by decide), if_pos (by decide)]
      · have hs : fseat L 5 < 5 := by
          rw [hfs]
          exact a2 rfl
        have hmL : m ∈ L := h3.mem_iff.mpr hm
        refine Or.inr (Or.inl ⟨acc, 3, nI (mId m), ?_, by omega, ?_, a4⟩)
        · obtain ⟨j, hj, hs2⟩ := slot_on h1 h5 hp6 ⟨m, hmL, a3⟩
          rw [rea, rea2 (by omega), if_neg (by unfold seatI; rw [if_neg (by omega)]; exact nI_m1 (by omega)), hs2, bd_s, if_neg (nI_m1 (by omega))]
          rfl
        · unfold f_X0_detailOf f_X0_detailOf_B73
          rw [if_neg (by decide), if_neg (by decide), if_pos (by decide), if_neg (by decide), ← a3, s_idOnPage h1 h5 hmL, bd_s]
      · have hs : fseat L 5 < 5 := by
          rw [hfs]
          exact a2 rfl
        have hno : ∀ m ∈ L, mPg m ≠ p := fun m hm => a3 m (h3.mem_iff.mp hm)
        have hlL : L.length < 12 := by omega
        obtain ⟨v', q1, q2, q3⟩ := stp_push (s := fseat L 5 + 1) h1 h2 h3 h4 h5 h6 h7 h8 h9 h10 h11 hN hlL hp6 hw9 (by omega) hno (fun _ => fseat_free L 5 (Nat.le_refl _) hs)
        refine Or.inr (Or.inr ⟨acc, ?_, nI nid, v', addR (Md_all md) L'.length nid p w (fseat L 5 + 1), ?_, ?_, q2, q3⟩)
        · rw [rea, rea2 hlL, if_neg (by unfold seatI; rw [if_neg (by omega)]; exact nI_m1 (by omega)), slot_off h1 h5 hp6 hno, bd_s, if_pos rfl]
        · unfold f_X0_carryOut
          have e9 : nI (fseat L 5 + 1) - 1 = seatI (fseat L 5) := by
            unfold seatI
            rw [if_neg (by omega), nI_dn]
          rw [e9] at q1
          rw [if_neg (by decide), if_neg (by decide), if_neg (by decide), if_pos rfl, s_freeSeat h1 h5.bL, bd_s, q1, bd_s]
        · refine (show f_X4_adds md (nI p) (nI w) (b2 true) = _ from a4).trans ?_
          rw [← hfs, if_pos rfl]
    · refine Or.inl ⟨?_, ?_⟩
      · rw [ac_add, decide_eq_false hw, Bool.and_false]
        rfl
      · rw [tm_adds_w md 1 hp hw, if_pos hp]
  · refine Or.inl ⟨?_, ?_⟩
    · rw [ac_add, decide_eq_false hp, Bool.false_and]
      rfl
    · rw [tm_adds_p md wa 1 hp, if_neg hp]
theorem stp_E (h : RB N v (Md_all md)) (hN : N < 2 ^ 28) (pa wa : Int32) : StpK N v md 69 pa wa (if 0 ≤ pa ∧ pa < 60 then 2 else 1) (f_X4_adds md pa wa 0) := by
  obtain ⟨L, L', S, r, nid, h1, h2, h3, h4, h5, h6, h7, h8, h9, h10, h11⟩ := h
  by_cases hp : 0 ≤ pa ∧ pa < 60
  · by_cases hw : 1 ≤ wa ∧ wa ≤ 9
    · obtain ⟨p, hp6, rfl⟩ := in_page hp
      obtain ⟨w, hw9, rfl⟩ := nI_1_9 hw
      have acc : f_X0_accepts v 69 (nI p) (nI w) = some 1 := by
        rw [ac_ear, decide_eq_true hp, decide_eq_true hw]
        rfl
      have h5' := h5.perm h3
      have hll := h3.length_eq
      have rea : f_X0_reasonAgainst v 69 (nI p) (nI w) = f_X0_reasonAgainstEar v (nI p) := by
        unfold f_X0_reasonAgainst
        rw [if_neg (by decide), if_neg (by decide), if_pos rfl]
        cases f_X0_reasonAgainstEar v (nI p) <;> rfl
      have rea2 : L.length < 12 → f_X0_reasonAgainstEar v (nI p) = bd (f_X0_slotOnPage v (nI p)) (fun r5 => if r5 = -1 then some 0 else some 3) := by
        intro hl
        unfold f_X0_reasonAgainstEar f_X0_reasonAgainstEar_B25
        rw [h1.1, if_pos (show nI L.length < (12 : Int32) from nI_lt hl (by decide))]
      rcases tm_adds h2 h5'.bL h10.2.1 hp6 hw9 false with ⟨a1, a2⟩ | ⟨-, a1, -⟩ | ⟨a1, a2, m, hm, a3, a4⟩ | ⟨a1, a2, a3, a4⟩
      · refine Or.inr (Or.inl ⟨acc, 1, 12, ?_, by omega, ?_, a2⟩)
        · rw [rea]
          unfold f_X0_reasonAgainstEar
          rw [h1.1, hll, a1, if_neg (by decide)]
          rfl
        · unfold f_X0_detailOf
          rw [if_pos (by decide)]
      · cases a1
      · have hmL : m ∈ L := h3.mem_iff.mpr hm
        refine Or.inr (Or.inl ⟨acc, 3, nI (mId m), ?_, by omega, ?_, a4⟩)
        · obtain ⟨j, hj, hs2⟩ := slot_on h1 h5 hp6 ⟨m, hmL, a3⟩
          rw [rea, rea2 (by omega), hs2, bd_s, if_neg (nI_m1 (by omega))]
          rfl
        · unfold f_X0_detailOf f_X0_detailOf_B73
          rw [if_neg (by decide), if_neg (by decide), if_pos (by decide), if_neg (by decide), ← a3, s_idOnPage h1 h5 hmL, bd_s]
      · have hno : ∀ m ∈ L, mPg m ≠ p := fun m hm => a3 m (h3.mem_iff.mp hm)
        have hlL : L.length < 12 := by omega
        obtain ⟨v', q1, q2, q3⟩ := stp_push (s := 0) h1 h2 h3 h4 h5 h6 h7 h8 h9 h10 h11 hN hlL hp6 hw9 (by omega) hno (fun z => absurd rfl z)
        refine Or.inr (Or.inr ⟨acc, ?_, nI nid, v', addR (Md_all md) L'.length nid p w 0, ?_, ?_, q2, q3⟩)
        · rw [rea, rea2 hlL, slot_off h1 h5 hp6 hno, bd_s, if_pos rfl]
        · unfold f_X0_carryOut
          rw [show nI 0 - 1 = (-1 : Int32) by decide] at q1
          rw [if_neg (by decide), if_pos rfl, q1, bd_s]
        · exact a4
    · refine Or.inl ⟨?_, ?_⟩
      · rw [ac_ear, decide_eq_false hw, Bool.and_false]
        rfl
      · rw [tm_adds_w md 0 hp hw, if_pos hp]
  · refine Or.inl ⟨?_, ?_⟩
    · rw [ac_ear, decide_eq_false hp, Bool.false_and]
      rfl
    · rw [tm_adds_p md wa 0 hp, if_neg hp]
/-! removing, moving, exchanging -/
theorem slot_id {L : List M5} {nid : Nat} (h : hM v L) (b : okL nid L) {m : M5} {x : Int32} (hm : m ∈ L) (hx : nI (mId m) = x) : ∃ i, L[i]? = some m ∧ f_X0_slotWithId v x = some (nI i) := by
  obtain ⟨r, hr, hf⟩ := s_slotWithId h b.bL x
  rcases hf with ⟨j, z, hz, hq, -, e⟩ | ⟨e, hq⟩
  · have ez := id_one b (mem_get hz) hm (hq.trans hx.symm)
    exact ⟨j, by rw [← ez]; exact hz, by rw [hr, e]⟩
  · exact absurd hx (hq m hm)
theorem slot_no {L : List M5} {nid : Nat} (h : hM v L) (b : okL nid L) {x : Int32} (hno : ∀ m ∈ L, ¬ nI (mId m) = x) : f_X0_slotWithId v x = some (-1) := by
  obtain ⟨r, hr, hf⟩ := s_slotWithId h b.bL x
  rcases hf with ⟨j, z, hz, hq, -, e⟩ | ⟨e, hq⟩
  · exact absurd hq (hno z (mem_get hz))
  · rw [hr, e]
/-- what a relation of both sides needs when only the marks change -/
theorem RB.marks {L L' : List M5} {S : List Nat} {r nid : Nat} {v' : BkV} {a a' : Nat → Int32} (h1 : hM v' L) (h2 : sM a' L') (h3 : L.Perm L') (h4 : srt L) (h5 : okL nid L) (h6 : hC v S) (h7 : sC a S) (h8 : okS S) (h9 : r < 60 ∧ Bk_reader v = nI r ∧ a 3 = nI r) (h10 : Bk_nextId v = nI nid ∧ a 1 = nI nid ∧ nid ≤ N) (h11 : Bk_votes v = a 4 ∧ Bk_carried v = a 5 ∧ Bk_fallen v = a 6 ∧ VC N v) (e : rsB v' = rsB v) (k : ∀ j, 1 ≤ j → j < 15 → a' j = a j) : RB N v' a' := by
  have e' := e
  unfold rsB at e'
  simp only [Prod.mk.injEq] at e'
  obtain ⟨e1, e2, e3, e4, e5, e6, e7⟩ := e'
  have hs := h8.1.1
  refine ⟨L, L', S, r, nid, h1, h2, h3, h4, h5, hC_rs h6 e, ⟨by rw [k 2 (by omega) (by omega)]; exact h7.1, fun j p hj => ?_⟩, h8, ⟨h9.1, e3.trans h9.2.1, by rw [k 3 (by omega) (by omega)]; exact h9.2.2⟩, ⟨e4.trans h10.1, by rw [k 1 (by omega) (by omega)]; exact h10.2.1, h10.2.2⟩, by rw [k 4 (by omega) (by omega), e5]; exact h11.1, by rw [k 5 (by omega) (by omega), e6]; exact h11.2.1, by rw [k 6 (by omega) (by omega), e7]; exact h11.2.2.1, h11.2.2.2.keep (Nat.le_refl _) e5 e6⟩
  have := lt_get hj
  rw [k (7 + j) (by omega) (by omega)]
  exact h7.2 j p hj
theorem stp_X (h : RB N v (Md_all md)) (x : Int32) : StpK N v md 88 x 0 1 (f_X4_removes md x) := by
  obtain ⟨L, L', S, r, nid, h1, h2, h3, h4, h5, h6, h7, h8, h9, h10, h11⟩ := h
  have h5' := h5.perm h3
  have acc : ∀ s, f_X0_slotWithId v x = some s → f_X0_accepts v 88 x 0 = some (if s = -1 then 0 else 1) := by
    intro s hs
    unfold f_X0_accepts f_X0_accepts_B140
    rw [if_neg (by decide), if_neg (by decide), if_neg (by decide), if_neg (by decide), if_neg (by decide), if_neg (by decide), if_pos rfl, hs, bd_s]
    split
    · rw [gd_z0]
    · rw [gd_z1]
  rcases tm_removes h2 h5'.bL x with ⟨k, m, a', hk, hx, q1, q2, q3⟩ | ⟨hno, q1⟩
  · have hmL : m ∈ L := h3.mem_iff.mpr (mem_get hk)
    obtain ⟨i, hi, hs⟩ := slot_id h1 h5 hmL hx
    have hil := lt_get hi
    have hl := h5.1
    obtain ⟨v', p1, p2, p3⟩ := s_takeOut h1 h5.1 (i := i) hil
    refine Or.inr (Or.inr ⟨?_, ?_, nI (mPg m), v', a', ?_, q1, ?_, fun j hj => q3 j (Or.inr hj)⟩)
    · rw [acc _ hs, if_neg (nI_m1 (by omega))]
    · unfold f_X0_reasonAgainst
      rw [if_neg (by decide), if_neg (by decide), if_neg (by decide), if_neg (by decide), if_neg (by decide), if_neg (by decide), if_neg (by decide), if_neg (by decide)]
    · unfold f_X0_carryOut f_X0_remove
      rw [if_neg (by decide), if_neg (by decide), if_neg (by decide), if_neg (by decide), if_neg (by decide), if_neg (by decide), if_neg (by decide), if_pos rfl, hs, bd_s, if_neg (nI_m1 (by omega)), gd_n (by omega) (by decide), p1, bd_s, cl_n (by omega), (h1.2 i m hi).2.1]
      rfl
    · refine RB.mono (RB.marks p2 q2 ?_ (h4.sublist (List.eraseIdx_sublist _ _)) (h5.sub (List.eraseIdx_sublist _ _)) h6 h7 h8 h9 h10 h11 p3 (fun j j1 j2 => q3 j (Or.inl ⟨j1, j2⟩))) (Nat.le_succ _)
      exact List.Perm.cons_inv ((er_perm hi).symm.trans (h3.trans (er_perm hk)))
  · refine Or.inl ⟨?_, q1⟩
    rw [acc _ (slot_no h1 h5 (fun m hm => hno m (h3.mem_iff.mp hm))), if_pos rfl]
theorem s_isRibbonId {L : List M5} {nid : Nat} (h : hM v L) (b : okL nid L) {m : M5} {x : Int32} (hm : m ∈ L) (hx : nI (mId m) = x) : f_X0_isRibbonId v x = some (b2 (decide (mSt m ≠ 0))) := by
  obtain ⟨i, hi, hs⟩ := slot_id h b hm hx
  have hil := lt_get hi
  have hl := b.1
  unfold f_X0_isRibbonId f_X0_isRibbonId_B23 f_X0_isRibbonId_B24
  rw [hs, bd_s, if_neg (nI_m1 (by omega)), s_hasSeat h b.bL hi, bd_s]
  cases decide (mSt m ≠ 0)
  · rw [if_pos b2_f, gd_z0]
    rfl
  · rw [if_neg (by decide), gd_z1]
    rfl
theorem stp_M (h : RB N v (Md_all md)) (x pa : Int32) : StpK N v md 77 x pa 1 (f_X4_moves md x pa) := by
  obtain ⟨L, L', S, r, nid, h1, h2, h3, h4, h5, h6, h7, h8, h9, h10, h11⟩ := h
  have h5' := h5.perm h3
  have acc : ∀ s, f_X0_slotWithId v x = some s → f_X0_accepts v 77 x pa = some (if s = -1 then 0 else b2 (decide (0 ≤ pa ∧ pa < 60))) := by
    intro s hs
    unfold f_X0_accepts f_X0_accepts_B162 f_X0_accepts_B163
    rw [if_neg (by decide), if_neg (by decide), if_pos rfl, hs, bd_s]
    split
    · rw [gd_z0]
    · rw [s_hasPage, bd_s]
      cases decide (0 ≤ pa ∧ pa < 60)
      · rw [if_pos b2_f, gd_z0]
        rfl
      · rw [if_neg (by decide), gd_z1]
        rfl
  rcases tm_moves h2 h5'.bL x pa with ⟨hno, q1⟩ | ⟨k, m, hk, hx, hrest⟩
  · refine Or.inl ⟨?_, q1⟩
    rw [acc _ (slot_no h1 h5 (fun m hm => hno m (h3.mem_iff.mp hm))), if_pos rfl]
  · have hmL : m ∈ L := h3.mem_iff.mpr (mem_get hk)
    obtain ⟨i, hi, hs⟩ := slot_id h1 h5 hmL hx
    have hil := lt_get hi
    have hl := h5.1
    have hkl := lt_get hk
    have hl' := h5'.1
    rcases hrest with ⟨hp, q1⟩ | ⟨p, hp, rfl, hrest⟩
    · refine Or.inl ⟨?_, q1⟩
      rw [acc _ hs, if_neg (nI_m1 (by omega)), decide_eq_false hp]
      rfl
    · have acc1 : f_X0_accepts v 77 x (nI p) = some 1 := by
        rw [acc _ hs, if_neg (nI_m1 (by omega)), decide_eq_true (page_in hp)]
        rfl
      have rea : f_X0_reasonAgainst v 77 x (nI p) = f_X0_reasonAgainstMove v x (nI p) := by
        unfold f_X0_reasonAgainst
        rw [if_neg (by decide), if_neg (by decide), if_neg (by decide), if_pos rfl]
        cases f_X0_reasonAgainstMove v x (nI p) <;> rfl
      have rea2 : f_X0_reasonAgainstMove v x (nI p) = if b2 (decide (mSt m ≠ 0)) = 0 then some 4 else bd (f_X0_slotOnPage v (nI p)) (fun r4 => if r4 = -1 then some 0 else some 3) := by
        unfold f_X0_reasonAgainstMove f_X0_reasonAgainstMove_B24
        rw [s_isRibbonId h1 h5 hmL hx, bd_s]
      rcases hrest with ⟨e0, q1⟩ | ⟨e0, z, hz, hzp, q1⟩ | ⟨e0, hno, q1, q2⟩
      · refine Or.inr (Or.inl ⟨acc1, 4, x, ?_, by omega, ?_, q1⟩)
        · rw [rea, rea2, decide_eq_false (by omega), if_pos b2_f]
          rfl
        · unfold f_X0_detailOf f_X0_detailOf_B91
          rw [if_neg (by decide), if_neg (by decide), if_neg (by decide), if_pos (by decide), s_isRibbonId h1 h5 hmL hx, bd_s, decide_eq_false (by omega), if_pos b2_f]
      · have hzL : z ∈ L := h3.mem_iff.mpr hz
        refine Or.inr (Or.inl ⟨acc1, 3, nI (mId z), ?_, by omega, ?_, q1⟩)
        · obtain ⟨j, hj, hs2⟩ := slot_on h1 h5 hp ⟨z, hzL, hzp⟩
          rw [rea, rea2, decide_eq_true e0, if_neg (by decide), hs2, bd_s, if_neg (nI_m1 (by omega))]
          rfl
        · unfold f_X0_detailOf f_X0_detailOf_B73
          rw [if_neg (by decide), if_neg (by decide), if_pos (by decide), if_pos rfl, ← hzp, s_idOnPage h1 h5 hzL, bd_s]
      · have hnoL : ∀ z ∈ L, mPg z ≠ p := fun z hz => hno z (h3.mem_iff.mp hz)
        obtain ⟨v1, p1, p2, p3⟩ := s_takeOut h1 h5.1 (i := i) hil
        have ok1 := h5.sub (List.eraseIdx_sublist L i)
        have hle : (L.eraseIdx i).length = L.length - 1 := List.length_eraseIdx_of_lt hil
        obtain ⟨j, v2, s1, s2, s3, s4⟩ := s_insert (z := (mId m, p, mWt m, mWr m, mSt m)) p2 ok1.bL (h4.sublist (List.eraseIdx_sublist L i)) (by omega) hp
        have pm : ((L.eraseIdx i).insertIdx j (mId m, p, mWt m, mWr m, mSt m)).Perm ((mId m, p, mWt m, mWr m, mSt m) :: L.eraseIdx i) := List.perm_insertIdx _ _ s2.1
        have pe : (L.eraseIdx i).Perm (L'.eraseIdx k) := List.Perm.cons_inv ((er_perm hi).symm.trans (h3.trans (er_perm hk)))
        have hnoE : ∀ z ∈ L.eraseIdx i, mPg z ≠ p := fun z hz => hnoL z ((List.eraseIdx_sublist L i).subset hz)
        have okc : okL nid ((mId m, p, mWt m, mWr m, mSt m) :: L.eraseIdx i) := by
          have hperm : okL nid (m :: L.eraseIdx i) := h5.perm (er_perm hi)
          have hm5 := h5.2.2.1 m hmL
          refine ⟨hperm.1, hperm.2.1, fun z hz => ?_, ?_⟩
          · rcases List.mem_cons.mp hz with e | e
            · rw [e]
              exact ⟨hm5.1, hp, hm5.2.2⟩
            · exact ok1.2.2.1 z e
          · have hpw := List.pairwise_cons.mp hperm.2.2.2
            refine List.pairwise_cons.mpr ⟨fun z hz => ?_, hpw.2⟩
            have := hpw.1 z hz
            exact ⟨this.1, fun e => hnoE z hz e.symm, this.2.2⟩
        refine Or.inr (Or.inr ⟨acc1, ?_, nI (mPg m), v2, _, ?_, q1, ?_, fun t ht => pk_un (by omega)⟩)
        · rw [rea, rea2, decide_eq_true e0, if_neg (by decide), slot_off h1 h5 hp hnoL, bd_s, if_pos rfl]
        · obtain ⟨g0, g1, g2, g3, g4⟩ := h1.2 i m hi
          unfold f_X0_carryOut f_X0_move f_X0_remove
          rw [if_neg (by decide), if_neg (by decide), if_pos rfl, hs, bd_s, if_neg (nI_m1 (by omega)), gd_n (by omega) (by decide), gd_n (by omega) (by decide), gd_n (by omega) (by decide), gd_n (by omega) (by decide), if_neg (nI_m1 (by omega)), gd_n (by omega) (by decide), p1, bd_s, bd_s, cl_n (by omega), g0, g1, g2, g3, g4]
          show bd (bd (f_X0_insert v1 (nI (mId m)) (nI p) (nI (mWt m)) (nI (mWr m)) (nI (mSt m) - 1)) (fun r8 => some (nI (mPg m), r8.2))) (fun r7 => some (r7.1, r7.2)) = _
          rw [s1]
          rfl
        · exact RB.mono (RB.marks s3 q2 (pm.trans ((List.Perm.cons _ pe).trans (set_perm _ hkl).symm)) (srt_insert (h4.sublist (List.eraseIdx_sublist L i)) s2 hnoE) (okc.perm pm.symm) h6 h7 h8 h9 h10 h11 (s4.trans p3) (fun t t1 t2 => pk_un (by omega))) (Nat.le_succ _)
/-! the exchange of seats -/
theorem swp_get {L : List M5} {i j : Nat} {c d : M5} (hi : L[i]? = some c) (hj : L[j]? = some d) {t : Nat} {z : M5} (hz : (swpL L i j c d)[t]? = some z) : (t = i ∧ z = (mId c, mPg c, mWt c, mWr c, mSt d)) ∨ (t ≠ i ∧ t = j ∧ z = (mId d, mPg d, mWt d, mWr d, mSt c)) ∨ (t ≠ i ∧ t ≠ j ∧ L[t]? = some z) := by
  have li := lt_get hi
  have lj := lt_get hj
  unfold swpL at hz
  by_cases e1 : t = i
  · rw [e1, List.getElem?_set_self (by rw [List.length_set]; exact li)] at hz
    exact Or.inl ⟨e1, (Option.some.inj hz).symm⟩
  · rw [List.getElem?_set_ne (Ne.symm e1)] at hz
    by_cases e2 : t = j
    · rw [e2, List.getElem?_set_self lj] at hz
      exact Or.inr (Or.inl ⟨e1, e2, (Option.some.inj hz).symm⟩)
    · rw [List.getElem?_set_ne (Ne.symm e2)] at hz
      exact Or.inr (Or.inr ⟨e1, e2, hz⟩)
/-- .. keeps id, page, weight, wear of each place -/
theorem swp_old {L : List M5} {i j : Nat} {c d : M5} (hi : L[i]? = some c) (hj : L[j]? = some d) {t : Nat} {z : M5} (hz : (swpL L i j c d)[t]? = some z) : ∃ y, L[t]? = some y ∧ mId z = mId y ∧ mPg z = mPg y ∧ mWt z = mWt y ∧ mWr z = mWr y ∧ (t = i → mSt z = mSt d) ∧ (t ≠ i → t = j → mSt z = mSt c) ∧ (t ≠ i → t ≠ j → mSt z = mSt y) := by
  rcases swp_get hi hj hz with ⟨e, rfl⟩ | ⟨e1, e2, rfl⟩ | ⟨e1, e2, h⟩
  · exact ⟨c, by rw [e]; exact hi, rfl, rfl, rfl, rfl, fun _ => rfl, fun q => absurd e q, fun q => absurd e q⟩
  · exact ⟨d, by rw [e2]; exact hj, rfl, rfl, rfl, rfl, fun q => absurd q e1, fun _ _ => rfl, fun _ q => absurd e2 q⟩
  · exact ⟨z, h, rfl, rfl, rfl, rfl, fun q => absurd q e1, fun _ q => absurd q e2, fun _ _ => rfl⟩
theorem ap_ix {L : List M5} : L.Pairwise apartM ↔ ∀ (s t : Nat) (a b : M5), s < t → L[s]? = some a → L[t]? = some b → apartM a b := by
  rw [List.pairwise_iff_getElem]
  constructor
  · intro h i j a b hij ha hb
    obtain ⟨l1, e1⟩ := List.getElem?_eq_some_iff.mp ha
    obtain ⟨l2, e2⟩ := List.getElem?_eq_some_iff.mp hb
    have := h i j l1 l2 hij
    rw [e1, e2] at this
    exact this
  · intro h i j hi hj hij
    exact h i j _ _ hij (List.getElem?_eq_getElem hi) (List.getElem?_eq_getElem hj)
theorem swp_ok {L : List M5} {nid : Nat} (b : okL nid L) {i j : Nat} {c d : M5} (hi : L[i]? = some c) (hj : L[j]? = some d) (hij : i ≠ j) (hc : mSt c ≠ 0) (hd : mSt d ≠ 0) : okL nid (swpL L i j c d) := by
  have hne : ∀ (s t : Nat) (a y : M5), s ≠ t → L[s]? = some a → L[t]? = some y → apartM a y := fun s t a y hst ha hy => by
    rcases Nat.lt_or_gt_of_ne hst with h | h
    · exact ap_ix.mp b.2.2.2 s t a y h ha hy
    · exact apartM_symm (ap_ix.mp b.2.2.2 t s y a h hy ha)
  refine ⟨by unfold swpL; rw [List.length_set, List.length_set]; exact b.1, b.2.1, fun z hz => ?_, ap_ix.mpr fun s t a y hst ha hy => ?_⟩
  · obtain ⟨t, ht⟩ := List.getElem?_of_mem hz
    obtain ⟨y, h1, h2, h3, h4, h5, h6, h7, h8⟩ := swp_old hi hj ht
    obtain ⟨g1, g2, g3, g4, g5⟩ := b.2.2.1 y (mem_get h1)
    have gc := (b.2.2.1 c (mem_get hi)).2.2.2.2
    have gd := (b.2.2.1 d (mem_get hj)).2.2.2.2
    refine ⟨by rw [h2]; exact g1, by rw [h3]; exact g2, by rw [h4]; exact g3, by rw [h5]; exact g4, ?_⟩
    by_cases e : t = i
    · have ey : y = c := by
        rw [e] at h1
        exact Option.some.inj (h1.symm.trans hi)
      rw [h6 e, h5, ey]
      exact ⟨gd.1, fun _ => gc.2 hc⟩
    · by_cases e2 : t = j
      · have ey : y = d := by
          rw [e2] at h1
          exact Option.some.inj (h1.symm.trans hj)
        rw [h7 e e2, h5, ey]
        exact ⟨gc.1, fun _ => gd.2 hd⟩
      · rw [h8 e e2, h5]
        exact g5
  · obtain ⟨y1, a1, a2, a3, a4, a5, a6, a7, a8⟩ := swp_old hi hj ha
    obtain ⟨y2, c1, c2, c3, c4, c5, c6, c7, c8⟩ := swp_old hi hj hy
    have q := hne s t y1 y2 (by omega) a1 c1
    refine ⟨by rw [a2, c2]; exact q.1, by rw [a3, c3]; exact q.2.1, ?_⟩
    by_cases e : s = i
    · rw [a6 e]
      by_cases e2 : t = j
      · rw [c7 (by omega) e2]
        intro _ z
        exact (hne i j c d hij hi hj).2.2 hc z.symm
      · rw [c8 (by omega) e2]
        intro h0 z
        exact (hne j t d y2 (Ne.symm e2) hj c1).2.2 h0 z
    · by_cases e3 : s = j
      · rw [a7 e e3]
        by_cases e2 : t = i
        · rw [c6 e2]
          intro h0 z
          exact (hne i j c d hij hi hj).2.2 h0 z
        · rw [c8 e2 (by omega)]
          intro h0 z
          exact (hne i t c y2 (Ne.symm e2) hi c1).2.2 h0 z
      · rw [a8 e e3]
        by_cases e2 : t = i
        · rw [c6 e2]
          intro h0 z
          exact (hne s j y1 d e3 a1 hj).2.2 h0 z
        · by_cases e4 : t = j
          · rw [c7 e2 e4]
            intro h0 z
            exact (hne s i y1 c e a1 hi).2.2 h0 z
          · rw [c8 e2 e4]
            exact q.2.2
theorem swp_srt {L : List M5} (h : srt L) {i j : Nat} {c d : M5} (hi : L[i]? = some c) (hj : L[j]? = some d) : srt (swpL L i j c d) := by
  rw [srt_iff] at h ⊢
  intro s t a y hst ha hy
  obtain ⟨y1, a1, a2, a3, -⟩ := swp_old hi hj ha
  obtain ⟨y2, c1, c2, c3, -⟩ := swp_old hi hj hy
  rw [a3, c3]
  exact h s t y1 y2 hst a1 c1
theorem swp_perm {L L' : List M5} (h : L.Perm L') {i j i' j' : Nat} {c d : M5} (hi : L[i]? = some c) (hj : L[j]? = some d) (hij : i ≠ j) (hi' : L'[i']? = some c) (hj' : L'[j']? = some d) (hij' : i' ≠ j') : (swpL L i j c d).Perm (swpL L' i' j' c d) := by
  have li := lt_get hi
  have lj := lt_get hj
  have li' := lt_get hi'
  have lj' := lt_get hj'
  have one : ∀ (L : List M5) (i j : Nat), L[i]? = some c → L[j]? = some d → i ≠ j → ∃ X, (swpL L i j c d).Perm ((mId c, mPg c, mWt c, mWr c, mSt d) :: X) ∧ (c :: X).Perm ((mId d, mPg d, mWt d, mWr d, mSt c) :: L.eraseIdx j) := by
    intro L i j hi hj hij
    have li := lt_get hi
    have lj := lt_get hj
    refine ⟨(L.set j (mId d, mPg d, mWt d, mWr d, mSt c)).eraseIdx i, set_perm _ (by rw [List.length_set]; exact li), ?_⟩
    have h1 : (L.set j (mId d, mPg d, mWt d, mWr d, mSt c))[i]? = some c := by
      rw [List.getElem?_set_ne (Ne.symm hij)]
      exact hi
    exact (er_perm h1).symm.trans (set_perm _ lj)
  obtain ⟨X, x1, x2⟩ := one L i j hi hj hij
  obtain ⟨X', y1, y2⟩ := one L' i' j' hi' hj' hij'
  have pe : (L.eraseIdx j).Perm (L'.eraseIdx j') := List.Perm.cons_inv ((er_perm hj).symm.trans (h.trans (er_perm hj')))
  have px : X.Perm X' := List.Perm.cons_inv (x2.trans ((List.Perm.cons _ pe).trans y2.symm))
  exact x1.trans ((List.Perm.cons _ px).trans y1.symm)
theorem stp_S (h : RB N v (Md_all md)) (x y : Int32) : StpK N v md 83 x y 1 (f_X4_swaps md x y) := by
  obtain ⟨L, L', S, r, nid, h1, h2, h3, h4, h5, h6, h7, h8, h9, h10, h11⟩ := h
  have h5' := h5.perm h3
  have acc : ∀ s t, f_X0_slotWithId v x = some s → f_X0_slotWithId v y = some t → f_X0_accepts v 83 x y = some (if s = -1 then 0 else if t = -1 then 0 else 1) := by
    intro s t hs ht
    unfold f_X0_accepts f_X0_accepts_B186 f_X0_accepts_B187
    rw [if_neg (by decide), if_neg (by decide), if_neg (by decide), if_neg (by decide), if_pos rfl, hs, bd_s]
    split
    · rw [gd_z0]
    · rw [ht, bd_s]
      split
      · rw [gd_z0]
      · rw [gd_z1]
  rcases tm_swaps h2 h5'.bL x y with ⟨hno, q1⟩ | ⟨k, l, c, d, hk, hx, hl, hy, hrest⟩
  · refine Or.inl ⟨?_, q1⟩
    obtain ⟨s, hs, -⟩ := s_slotWithId h1 h5.bL x
    obtain ⟨t, ht, -⟩ := s_slotWithId h1 h5.bL y
    rw [acc s t hs ht]
    rcases hno with hno | hno
    · have := slot_no h1 h5 (fun m hm => hno m (h3.mem_iff.mp hm))
      rw [hs] at this
      rw [if_pos (Option.some.inj this)]
    · have := slot_no h1 h5 (fun m hm => hno m (h3.mem_iff.mp hm))
      rw [ht] at this
      split
      · rfl
      · rw [if_pos (Option.some.inj this)]
  · have hcL : c ∈ L := h3.mem_iff.mpr (mem_get hk)
    have hdL : d ∈ L := h3.mem_iff.mpr (mem_get hl)
    obtain ⟨i, hi, hs⟩ := slot_id h1 h5 hcL hx
    obtain ⟨j, hj, ht⟩ := slot_id h1 h5 hdL hy
    have hil := lt_get hi
    have hjl := lt_get hj
    have hL := h5.1
    have acc1 : f_X0_accepts v 83 x y = some 1 := by rw [acc _ _ hs ht, if_neg (nI_m1 (by omega)), if_neg (nI_m1 (by omega))]
    have rea : f_X0_reasonAgainst v 83 x y = f_X0_reasonAgainstSwap v x y := by
      unfold f_X0_reasonAgainst
      rw [if_neg (by decide), if_neg (by decide), if_neg (by decide), if_neg (by decide), if_neg (by decide), if_pos rfl]
      cases f_X0_reasonAgainstSwap v x y <;> rfl
    have rea2 : f_X0_reasonAgainstSwap v x y = if b2 (decide (mSt c ≠ 0)) = 0 then some 4 else if b2 (decide (mSt d ≠ 0)) = 0 then some 4 else if x = y then some 5 else some 0 := by
      unfold f_X0_reasonAgainstSwap f_X0_reasonAgainstSwap_B16 f_X0_reasonAgainstSwap_B28
      rw [s_isRibbonId h1 h5 hcL hx, bd_s, s_isRibbonId h1 h5 hdL hy, bd_s]
    rcases hrest with ⟨e0, q1⟩ | ⟨e0, e1, q1⟩ | ⟨e0, e1, e2, q1⟩ | ⟨e0, e1, e2, q1, q2⟩
    · refine Or.inr (Or.inl ⟨acc1, 4, x, ?_, by omega, ?_, q1⟩)
      · rw [rea, rea2, decide_eq_false (by omega), if_pos b2_f]
        rfl
      · unfold f_X0_detailOf f_X0_detailOf_B91
        rw [if_neg (by decide), if_neg (by decide), if_neg (by decide), if_pos (by decide), s_isRibbonId h1 h5 hcL hx, bd_s, decide_eq_false (by omega), if_pos b2_f]
    · refine Or.inr (Or.inl ⟨acc1, 4, y, ?_, by omega, ?_, q1⟩)
      · rw [rea, rea2, decide_eq_true e0, if_neg (by decide), decide_eq_false (by omega), if_pos b2_f]
        rfl
      · unfold f_X0_detailOf f_X0_detailOf_B91
        rw [if_neg (by decide), if_neg (by decide), if_neg (by decide), if_pos (by decide), s_isRibbonId h1 h5 hcL hx, bd_s, decide_eq_true e0, if_neg (by decide)]
    · refine Or.inr (Or.inl ⟨acc1, 5, x, ?_, by omega, ?_, q1⟩)
      · rw [rea, rea2, decide_eq_true e0, if_neg (by decide), decide_eq_true e1, if_neg (by decide), if_pos e2]
        rfl
      · unfold f_X0_detailOf
        rw [if_neg (by decide), if_neg (by decide), if_neg (by decide), if_neg (by decide), if_pos (by decide)]
    · have hij : i ≠ j := by
        intro z
        rw [z, hj] at hi
        cases hi
        exact e2 (hx.symm.trans hy)
      have hkl : k ≠ l := by
        intro z
        rw [z, hl] at hk
        cases hk
        exact e2 (hx.symm.trans hy)
      obtain ⟨v', p1, p2, p3⟩ := s_swap h1 hL hi hj hij
      refine Or.inr (Or.inr ⟨acc1, ?_, nI (mSt d) - 1, v', _, ?_, q1, ?_, fun t ht => ?_⟩)
      · rw [rea, rea2, decide_eq_true e0, if_neg (by decide), decide_eq_true e1, if_neg (by decide), if_neg e2]
      · unfold f_X0_carryOut
        rw [if_neg (by decide), if_neg (by decide), if_neg (by decide), if_neg (by decide), if_pos rfl, hs, bd_s, ht, bd_s, p1, bd_s]
      · exact RB.mono (RB.marks p2 q2 (swp_perm h3 hi hj hij hk hl hkl) (swp_srt h4 hi hj) (swp_ok h5 hi hj hij e0 e1) h6 h7 h8 h9 h10 h11 p3 (fun t t1 t2 => by rw [pk_un (by omega), pk_un (by omega)])) (Nat.le_succ _)
      · have hk2 := lt_get hk
        have hl2 := lt_get hl
        have := h5'.1
        rw [pk_un (by omega), pk_un (by omega)]
end STP
