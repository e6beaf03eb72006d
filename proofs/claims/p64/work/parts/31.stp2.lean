/-! ===== chapters, votes, turns on both sides ===== -/
theorem insD {S : List Nat} {c p t : Nat} (hc : c ≤ S.length) (ht : t < S.length + 1) : (S.insertIdx c p).getD t 0 = if t < c then S.getD t 0 else if t = c then p else S.getD (t - 1) 0 := by
  rw [List.getD_eq_getElem?_getD, List.getElem?_insertIdx]
  by_cases e : t < c
  · rw [if_pos e, if_pos e, List.getD_eq_getElem?_getD]
  · rw [if_neg e, if_neg e]
    by_cases e2 : t = c
    · rw [if_pos e2, if_pos e2, if_pos (by omega)]
      rfl
    · rw [if_neg e2, if_neg e2, List.getD_eq_getElem?_getD]
theorem okS_ins {S : List Nat} (hS : okS S) (hl : S.length < 8) {p : Nat} (hp : p < 60) (hne : S.getD (chOf S p) 0 ≠ p) : okS (S.insertIdx (chOf S p + 1) p) := by
  have hc := chOf_lt S p hS.1.2.1
  obtain ⟨c1, c2⟩ := chOf_spec hS p
  have hlen : (S.insertIdx (chOf S p + 1) p).length = S.length + 1 := List.length_insertIdx_of_le_length (by omega) _
  refine ⟨⟨by omega, by omega, fun q hq => ?_⟩, ?_, fun j k hjk hk => ?_⟩
  · obtain ⟨t, ht⟩ := List.getElem?_of_mem hq
    rw [List.getElem?_insertIdx] at ht
    split at ht
    · exact hS.1.2.2 q (mem_get ht)
    · split at ht
      · split at ht
        · cases ht
          exact hp
        · cases ht
      · exact hS.1.2.2 q (mem_get ht)
  · rw [insD (by omega) (by omega), if_pos (by omega)]
    exact hS.2.1
  · rw [hlen] at hk
    rw [insD (by omega) (by omega), insD (by omega) (by omega)]
    by_cases e1 : j < chOf S p + 1
    · rw [if_pos e1]
      have hjc : S.getD j 0 ≤ S.getD (chOf S p) 0 := by
        by_cases e : j = chOf S p
        · rw [e]
          exact Nat.le_refl _
        · exact Nat.le_of_lt (hS.2.2 j _ (by omega) hc)
      by_cases e2 : k < chOf S p + 1
      · rw [if_pos e2]
        exact hS.2.2 j k hjk (by omega)
      · rw [if_neg e2]
        by_cases e3 : k = chOf S p + 1
        · rw [if_pos e3]
          omega
        · rw [if_neg e3]
          exact hS.2.2 j (k - 1) (by omega) (by omega)
    · rw [if_neg e1, if_neg (by omega : ¬ k < chOf S p + 1), if_neg (by omega : ¬ k = chOf S p + 1)]
      by_cases e3 : j = chOf S p + 1
      · rw [if_pos e3]
        exact c2 (k - 1) (by omega) (by omega)
      · rw [if_neg e3]
        exact hS.2.2 (j - 1) (k - 1) (by omega) (by omega)
theorem erD {S : List Nat} {g t : Nat} : (S.eraseIdx g).getD t 0 = if t < g then S.getD t 0 else S.getD (t + 1) 0 := by
  rw [List.getD_eq_getElem?_getD, List.getElem?_eraseIdx]
  split
  · rw [List.getD_eq_getElem?_getD]
  · rw [List.getD_eq_getElem?_getD]
theorem okS_drop {S : List Nat} (hS : okS S) (hl : 2 ≤ S.length) {k : Nat} (hk : k < S.length) : okS (dropCh S k) := by
  unfold dropCh
  obtain ⟨g, hg⟩ : ∃ g, g = if k = 0 then 1 else k := ⟨_, rfl⟩
  have g1 : 1 ≤ g ∧ g < S.length := by
    rw [hg]
    split <;> omega
  rw [← hg]
  have h8 := hS.1.1
  have hlen : (S.eraseIdx g).length = S.length - 1 := List.length_eraseIdx_of_lt g1.2
  refine ⟨⟨by omega, by omega, fun q hq => hS.1.2.2 q ((List.eraseIdx_sublist S g).subset hq)⟩, ?_, fun j t hjt ht => ?_⟩
  · rw [erD, if_pos (by omega)]
    exact hS.2.1
  · rw [hlen] at ht
    rw [erD, erD]
    by_cases e1 : j < g
    · rw [if_pos e1]
      by_cases e2 : t < g
      · rw [if_pos e2]
        exact hS.2.2 j t hjt (by omega)
      · rw [if_neg e2]
        exact hS.2.2 j (t + 1) (by omega) (by omega)
    · rw [if_neg e1, if_neg (by omega : ¬ t < g)]
      exact hS.2.2 (j + 1) (t + 1) (by omega) (by omega)
section STP2
variable {N : Nat} {v : BkV} {md : MdV}
theorem stp_C (h : RB N v (Md_all md)) (pa : Int32) : StpK N v md 67 pa 0 1 (f_X4_starts md pa) := by
  obtain ⟨L, L', S, r, nid, h1, h2, h3, h4, h5, h6, h7, h8, h9, h10, h11⟩ := h
  have hl := h8.1.1
  have acc : f_X0_accepts v 67 pa 0 = some (b2 (decide (0 ≤ pa ∧ pa < 60))) := by
    unfold f_X0_accepts
    rw [if_pos rfl, s_hasPage, bd_s, gd_z]
  rcases tm_starts h7 h8 pa with ⟨hp, q1⟩ | ⟨p, hp, rfl, hrest⟩
  · refine Or.inl ⟨?_, q1⟩
    rw [acc, decide_eq_false hp]
    rfl
  · have hch := chOf_lt S p h8.1.2.1
    have hs6 := getD_lt h8.1 hch
    have acc1 : f_X0_accepts v 67 (nI p) 0 = some 1 := by
      rw [acc, decide_eq_true (page_in hp)]
      rfl
    have rea : f_X0_reasonAgainst v 67 (nI p) 0 = f_X0_reasonAgainstStart v (nI p) := by
      unfold f_X0_reasonAgainst
      rw [if_neg (by decide), if_pos rfl]
      cases f_X0_reasonAgainstStart v (nI p) <;> rfl
    have rea2 : S.length < 8 → f_X0_reasonAgainstStart v (nI p) = if nI (S.getD (chOf S p) 0) = nI p then some 7 else some 0 := by
      intro h8'
      unfold f_X0_reasonAgainstStart f_X0_reasonAgainstStart_B32
      rw [h6.1, if_pos (show nI S.length < (8 : Int32) from nI_lt h8' (by decide)), s_chapterWith h6 h8.1 p hp, bd_s, gd_n (by omega) (by decide), cl_n (by omega), h6.2 _ _ (get_getD hch)]
    rcases hrest with ⟨e8, q1⟩ | ⟨e8, e1, q1⟩ | ⟨e8, e1, a', q1, q2, q3⟩
    · refine Or.inr (Or.inl ⟨acc1, 6, 8, ?_, by omega, ?_, q1⟩)
      · rw [rea]
        unfold f_X0_reasonAgainstStart
        rw [h6.1, e8, if_neg (by decide)]
        rfl
      · unfold f_X0_detailOf
        rw [if_neg (by decide), if_neg (by decide), if_neg (by decide), if_neg (by decide), if_neg (by decide), if_pos (by decide)]
    · refine Or.inr (Or.inl ⟨acc1, 7, nI (chOf S p), ?_, by omega, ?_, q1⟩)
      · rw [rea, rea2 e8, if_pos (by rw [e1])]
        rfl
      · unfold f_X0_detailOf
        rw [if_neg (by decide), if_neg (by decide), if_neg (by decide), if_neg (by decide), if_neg (by decide), if_neg (by decide), if_pos (by decide), s_chapterWith h6 h8.1 p hp, bd_s]
    · obtain ⟨v', p1, p2, p3⟩ := s_start h6 h8 e8 hp
      refine Or.inr (Or.inr ⟨acc1, ?_, nI (chOf S p + 1), v', a', ?_, q1, ?_, fun j hj => q3 j (by omega)⟩)
      · rw [rea, rea2 e8, if_neg (fun z => e1 ((nI_eq (by omega) (by omega)).mp z))]
      · unfold f_X0_carryOut
        rw [if_pos rfl, p1, bd_s]
      · have p3' := p3
        unfold rcB at p3'
        simp only [Prod.mk.injEq] at p3'
        obtain ⟨-, -, -, -, -, -, g1, g2, g3, g4, g5⟩ := p3'
        refine ⟨L, L', _, r, nid, hM_rc h1 p3, sM_hi h2 (fun j hj => q3 j (by omega)), h3, h4, h5, p2, q2, okS_ins h8 e8 hp e1, ⟨h9.1, g1.trans h9.2.1, by rw [q3 3 (by omega)]; exact h9.2.2⟩, ⟨g2.trans h10.1, by rw [q3 1 (by omega)]; exact h10.2.1, by omega⟩, ?_, ?_, ?_, h11.2.2.2.keep (Nat.le_succ _) g3 g4⟩
        · rw [g3, q3 4 (by omega)]
          exact h11.1
        · rw [g4, q3 5 (by omega)]
          exact h11.2.1
        · rw [g5, q3 6 (by omega)]
          exact h11.2.2.1
theorem wFav_same {L L' : List M5} {S : List Nat} (h3 : L.Perm L') (hS : okS S) {k : Nat} (hk : k < S.length) : wFav L S k = wFavM L' S k := by
  unfold wFav wFavM
  rw [sum_perm h3]
  exact sum_congr fun m _ => by rw [isFav_eq hS hk]
theorem carr_same {L L' : List M5} {S : List Nat} (h3 : L.Perm L') (hS : okS S) {k : Nat} (hk : k < S.length) : (L'.map mWt).sum < 2 * wFavM L' S k ↔ wAgn L S k < wFav L S k := by
  rw [← wFav_same h3 hS hk, ← sum_perm h3, wAll_eq L S k]
  omega
theorem stays_eq {S : List Nat} (hS : okS S) {k : Nat} (hk : k < S.length) : stays S k = staysM S k := by
  funext m
  unfold stays staysM
  rw [inCh_eq hS hk]
theorem stp_V (h : RB N v (Md_all md)) (ca : Int32) : StpK N v md 86 ca 0 1 (f_X4_votes md ca) := by
  obtain ⟨L, L', S, r, nid, h1, h2, h3, h4, h5, h6, h7, h8, h9, h10, h11⟩ := h
  have hl := h8.1.1
  have h5' := h5.perm h3
  have acc : f_X0_accepts v 86 ca 0 = some (b2 (decide (0 ≤ ca ∧ ca < nI S.length))) := by
    unfold f_X0_accepts
    rw [if_neg (by decide), if_neg (by decide), if_neg (by decide), if_neg (by decide), if_neg (by decide), if_pos rfl, s_hasChapter, bd_s, gd_z, h6.1]
  have rea : f_X0_reasonAgainst v 86 ca 0 = if nI S.length = 1 then some 8 else some 0 := by
    unfold f_X0_reasonAgainst f_X0_reasonAgainst_B146
    rw [if_neg (by decide), if_neg (by decide), if_neg (by decide), if_neg (by decide), if_neg (by decide), if_neg (by decide), if_neg (by decide), if_pos rfl, h6.1]
  have car : ∀ (b : Bool) (v' : BkV), f_X0_vote v ca = some (b2 b, v') → f_X0_carryOut v 86 ca 0 = some (b2 b, v') := by
    intro b v' hv
    unfold f_X0_carryOut f_X0_carryOut_B178
    rw [if_neg (by decide), if_neg (by decide), if_neg (by decide), if_neg (by decide), if_neg (by decide), if_neg (by decide), if_pos rfl, hv, bd_s]
    cases b
    · rw [if_pos (show b2 false = 0 from rfl)]
      rfl
    · rw [if_neg (show ¬ b2 true = 0 by decide)]
      rfl
  rcases tm_votes h2 h5'.bL h7 h8 ca with ⟨hp, q1⟩ | ⟨k, hk, rfl, hrest⟩
  · refine Or.inl ⟨?_, q1⟩
    rw [acc, decide_eq_false hp]
    rfl
  · have acc1 : f_X0_accepts v 86 (nI k) 0 = some 1 := by
      rw [acc, decide_eq_true ⟨nI_pos' (by omega), nI_lt hk (by omega)⟩]
      rfl
    rcases hrest with ⟨e1, q1⟩ | ⟨e1, e2, q1⟩ | ⟨e1, e2, a', q1, q2, q3, q4, q5, q6, q7, q8, q9⟩
    · refine Or.inr (Or.inl ⟨acc1, 8, 0, ?_, by omega, ?_, q1⟩)
      · rw [rea, e1, if_pos (by decide)]
        rfl
      · unfold f_X0_detailOf
        rw [if_neg (by decide), if_neg (by decide), if_neg (by decide), if_neg (by decide), if_neg (by decide), if_neg (by decide), if_neg (by decide), if_neg (by decide)]
    · have rea0 : f_X0_reasonAgainst v 86 (nI k) 0 = some 0 := by rw [rea, if_neg (fun z => by have := (nI_eq (by omega) (by decide)).mp (show nI S.length = nI 1 from z); omega)]
      have ne : ¬ wAgn L S k < wFav L S k := fun z => e2 ((carr_same h3 h8 hk).mpr z)
      obtain ⟨v', p1, p2, p3, p4, p5, p6⟩ := s_vote h1 h5.bL h6 h8.1 hk e1
      rw [if_neg ne] at p2
      refine Or.inr (Or.inr ⟨acc1, rea0, 0, v', _, ?_, q1, ?_, fun j hj => pk_un (by omega)⟩)
      · rw [decide_eq_false ne] at p1
        exact car false v' p1
      · refine ⟨L, L', S, r, nid, p2.1, sM_hi h2 (fun j hj => pk_un (by omega)), h3, h4, h5, p2.2.1, ⟨by rw [pk_un (by omega)]; exact h7.1, fun j q hj => by rw [pk_un (by omega)]; exact h7.2 j q hj⟩, h8, ⟨h9.1, p3.trans h9.2.1, by rw [pk_un (by omega)]; exact h9.2.2⟩, ⟨p4.trans h10.1, by rw [pk_un (by omega)]; exact h10.2.1, by omega⟩, ?_, ?_, ?_, h11.2.2.2.vote0 p5 p2.2.2⟩
        · rw [p5, pk_us, h11.1]
        · rw [p2.2.2, pk_un (by omega)]
          exact h11.2.1
        · rw [p6, pk_un (by omega)]
          exact h11.2.2.1
    · have rea0 : f_X0_reasonAgainst v 86 (nI k) 0 = some 0 := by rw [rea, if_neg (fun z => by have := (nI_eq (by omega) (by decide)).mp (show nI S.length = nI 1 from z); omega)]
      have ne : wAgn L S k < wFav L S k := (carr_same h3 h8 hk).mp e2
      obtain ⟨v', p1, p2, p3, p4, p5, p6⟩ := s_vote h1 h5.bL h6 h8.1 hk e1
      rw [if_pos ne] at p2
      refine Or.inr (Or.inr ⟨acc1, rea0, 1, v', a', ?_, q1, ?_, q9⟩)
      · rw [decide_eq_true ne] at p1
        exact car true v' p1
      · refine ⟨L.filter (stays S k), L'.filter (staysM S k), dropCh S k, r, nid, p2.1, q2, ?_, h4.sublist List.filter_sublist, h5.sub List.filter_sublist, p2.2.1, q3, okS_drop h8 e1 hk, ⟨h9.1, p3.trans h9.2.1, q5.trans h9.2.2⟩, ⟨p4.trans h10.1, q4.trans h10.2.1, by omega⟩, ?_, ?_, ?_, h11.2.2.2.vote1 p5 p2.2.2⟩
        · rw [stays_eq h8 hk]
          exact h3.filter _
        · rw [p5, q6, h11.1]
        · rw [p2.2.2, q7, h11.2.1]
        · rw [p6, q8, h11.2.2.1]
theorem wears_ok {L : List M5} {nid : Nat} (b : okL nid L) (r cnt : Nat) (fwd : Bool) : okL nid (L.filterMap (wears r cnt fwd)) := by
  have same : ∀ m z, wears r cnt fwd m = some z → mId z = mId m ∧ mPg z = mPg m ∧ mWt z = mWt m ∧ mSt z = mSt m ∧ (mWr m ≤ 2 → mWr z ≤ 2) ∧ (mSt m ≠ 0 → mWr z = mWr m) := by
    intro m z hz
    unfold wears at hz
    split at hz
    · rename_i ho
      have h0 : mSt m = 0 := by
        unfold onWay at ho
        exact of_decide_eq_true (Bool.and_eq_true_iff.mp ho).1
      split at hz
      · cases hz
      · cases hz
        exact ⟨rfl, rfl, rfl, rfl, fun _ => by show mWr m + 1 ≤ 2; omega, fun q => absurd h0 q⟩
    · cases hz
      exact ⟨rfl, rfl, rfl, rfl, fun q => q, fun _ => rfl⟩
  refine ⟨Nat.le_trans (List.length_filterMap_le _ _) b.1, b.2.1, fun z hz => ?_, b.2.2.2.filterMap _ (fun a a' haa c hc c' hc' => ?_)⟩
  · obtain ⟨m, hm, hmz⟩ := List.mem_filterMap.mp hz
    obtain ⟨g1, g2, g3, g4, g5⟩ := b.2.2.1 m hm
    obtain ⟨s1, s2, s3, s4, s5, s6⟩ := same m z hmz
    exact ⟨by rw [s1]; exact g1, by rw [s2]; exact g2, by rw [s3]; exact g3, s5 g4, by rw [s4]; exact g5.1, fun q => by rw [s4] at q; rw [s6 q]; exact g5.2 q⟩
  · obtain ⟨s1, s2, s3, s4, -⟩ := same a c hc
    obtain ⟨t1, t2, t3, t4, -⟩ := same a' c' hc'
    exact ⟨by rw [s1, t1]; exact haa.1, by rw [s2, t2]; exact haa.2.1, by rw [s4, t4]; exact haa.2.2⟩
theorem wears_srt {L : List M5} (h : srt L) (r cnt : Nat) (fwd : Bool) : srt (L.filterMap (wears r cnt fwd)) := by
  have same : ∀ m z, wears r cnt fwd m = some z → mPg z = mPg m := by
    intro m z hz
    unfold wears at hz
    split at hz
    · split at hz
      · cases hz
      · cases hz
        rfl
    · cases hz
      rfl
  exact List.Pairwise.filterMap _ (fun a a' haa c hc c' hc' => by rw [same a c hc, same a' c' hc']; exact haa) h
theorem stp_T (h : RB N v (Md_all md)) (ca : Int32) (fwd : Bool) : StpK N v md (if fwd = true then 84 else 66) ca 0 2 (f_X4_turns md ca (b2 fwd)) := by
  obtain ⟨L, L', S, r, nid, h1, h2, h3, h4, h5, h6, h7, h8, h9, h10, h11⟩ := h
  have h5' := h5.perm h3
  have hwr : ∀ m ∈ L, mWr m ≤ 2 := fun m hm => (h5.2.2.1 m hm).2.2.2.1
  have hwr' : ∀ m ∈ L', mWr m ≤ 2 := fun m hm => (h5'.2.2.1 m hm).2.2.2.1
  have acc : f_X0_accepts v (if fwd = true then 84 else 66) ca 0 = some (b2 (decide (1 ≤ ca ∧ ca ≤ 20))) := by
    unfold f_X0_accepts
    cases fwd
    · rw [show (if false = true then (84 : Int32) else 66) = 66 from rfl, if_neg (by decide), if_neg (by decide), if_neg (by decide), if_neg (by decide), if_neg (by decide), if_neg (by decide), if_neg (by decide), s_takesCount, bd_s, gd_z]
    · rw [show (if true = true then (84 : Int32) else 66) = 84 from rfl, if_neg (by decide), if_neg (by decide), if_neg (by decide), if_neg (by decide), if_neg (by decide), if_neg (by decide), if_neg (by decide), s_takesCount, bd_s, gd_z]
  rcases tm_turns h2 h5'.bL hwr' h9.2.2 h9.1 ca fwd with ⟨hp, q1⟩ | ⟨cnt, c1, c2, rfl, hrest⟩
  · refine Or.inl ⟨?_, q1⟩
    rw [acc, decide_eq_false hp]
    rfl
  · have acc1 : f_X0_accepts v (if fwd = true then 84 else 66) (nI cnt) 0 = some 1 := by
      rw [acc, decide_eq_true ⟨nI_le (a := 1) c1 (by omega), nI_le (b := 20) c2 (by decide)⟩]
      rfl
    have rea : f_X0_reasonAgainst v (if fwd = true then 84 else 66) (nI cnt) 0 = if b2 (decide (0 ≤ (if fwd = true then nI r + nI cnt else nI r - nI cnt) ∧ (if fwd = true then nI r + nI cnt else nI r - nI cnt) < 60)) = 0 then some 9 else some 0 := by
      unfold f_X0_reasonAgainst f_X0_reasonAgainst_B186 f_X0_reasonAgainst_B166
      cases fwd
      · rw [show (if false = true then (84 : Int32) else 66) = 66 from rfl, show (if false = true then nI r + nI cnt else nI r - nI cnt) = nI r - nI cnt from rfl, if_pos rfl, h9.2.1, s_hasPage, bd_s]
      · rw [show (if true = true then (84 : Int32) else 66) = 84 from rfl, show (if true = true then nI r + nI cnt else nI r - nI cnt) = nI r + nI cnt from rfl, if_neg (by decide), if_neg (by decide), if_neg (by decide), if_neg (by decide), if_neg (by decide), if_neg (by decide), if_pos rfl, h9.2.1, s_hasPage, bd_s]
    rcases hrest with ⟨e1, q1⟩ | ⟨e1, a', q1, q2, q3, q4, q5⟩
    · refine Or.inr (Or.inl ⟨acc1, 9, nI r, ?_, by omega, ?_, q1⟩)
      · rw [rea, decide_eq_false e1, if_pos b2_f]
        rfl
      · unfold f_X0_detailOf
        rw [if_neg (by decide), if_neg (by decide), if_neg (by decide), if_neg (by decide), if_neg (by decide), if_neg (by decide), if_neg (by decide), if_pos (by decide), h9.2.1]
    · obtain ⟨v', p1, p2, p3, p4, p5, p6, p7, p8, p9⟩ := s_turn h1 h5.bL hwr h9.2.1 h9.1 c2 fwd
      have hf : falls r cnt fwd L = falls r cnt fwd L' := sum_perm h3 _
      refine Or.inr (Or.inr ⟨acc1, ?_, nI (falls r cnt fwd L), v', a', ?_, by rw [hf]; exact q1, ?_, fun j hj => q5 j (Or.inr hj)⟩)
      · rw [rea, decide_eq_true e1, if_neg (by decide)]
      · unfold f_X0_carryOut
        cases fwd
        · rw [show (if false = true then (84 : Int32) else 66) = 66 from rfl, if_neg (by decide), if_neg (by decide), if_neg (by decide), if_neg (by decide), if_neg (by decide), if_neg (by decide), if_neg (by decide), if_neg (by decide), show (0 : Int32) = b2 false from rfl, p1, bd_s]
        · rw [show (if true = true then (84 : Int32) else 66) = 84 from rfl, if_neg (by decide), if_neg (by decide), if_neg (by decide), if_neg (by decide), if_neg (by decide), if_pos rfl, show (1 : Int32) = b2 true from rfl, p1, bd_s]
      · obtain ⟨r', hr6, hr'⟩ := in_page e1
        refine ⟨L.filterMap (wears r cnt fwd), L'.filterMap (wears r cnt fwd), S, r', nid, p2, q2, h3.filterMap _, wears_srt h4 r cnt fwd, wears_ok h5 r cnt fwd, ⟨by rw [p6]; exact h6.1, fun k q hk => by rw [p5]; exact h6.2 k q hk⟩, ⟨by rw [q5 2 (by omega)]; exact h7.1, fun k q hk => ?_⟩, h8, ⟨hr6, p3.trans hr', q3.trans hr'⟩, ⟨p7.trans h10.1, by rw [q5 1 (by omega)]; exact h10.2.1, by omega⟩, ?_, ?_, ?_, h11.2.2.2.keep (Nat.le_succ _) p8 p9⟩
        · have := lt_get hk
          have := h8.1.1
          rw [q5 (7 + k) (by omega)]
          exact h7.2 k q hk
        · rw [p8, q5 4 (by omega)]
          exact h11.1
        · rw [p9, q5 5 (by omega)]
          exact h11.2.1
        · rw [p4, q4, h11.2.2.1, hf]
end STP2
