/-! ===== totals, rejections, input ===== -/
section TOT
variable {N : Nat} {x : XV} {m : MdV}
theorem ag_heaviestChapter (h : RX N x m) : AgP N x (f_X3_heaviestChapter x) (f_X4_heaviestChapter m) := by
  obtain ⟨L, L', S, r, nid, h1, h2, h3, h4, h5, h6, h7, h8, -⟩ := h.1
  have hl := h8.1.1
  have b' := (h5.perm h3).bL
  refine ⟨nI (hvy (wIn L S) S.length), mTh m 0, ?_, ?_, h.th 0⟩
  · unfold f_X3_heaviestChapter
    rw [s_heaviest h1 h5 h6 h8, bd_s]
  · have key : ∀ d i n, i + d = S.length → 1 ≤ i → d < n → f_X4_heaviestChapter_L9 n (nI (hvy (wIn L S) i)) (nI i) (mTh m 0) = some (nI (hvy (wIn L S) S.length), mTh m 0) := by
      intro d
      induction d with
      | zero =>
        intro i n hi _ hn
        obtain ⟨n, rfl⟩ : ∃ z, n = z + 1 := ⟨n - 1, by omega⟩
        have e : i = S.length := by omega
        have h70 : Md_all (mTh m 0) 2 = nI S.length := h7.1
        rw [f_X4_heaviestChapter_L9, gk_2, ck_2, h70, e, if_pos (Int32.le_refl _)]
      | succ d ih =>
        intro i n hi h0 hn
        obtain ⟨n, rfl⟩ : ∃ z, n = z + 1 := ⟨n - 1, by omega⟩
        have hil : i < S.length := by omega
        have hb : hvy (wIn L S) i < i := by
          obtain ⟨c, rfl⟩ : ∃ c, i = c + 1 := ⟨i - 1, by omega⟩
          exact hvy_lt _ c
        have h70 : Md_all (mTh m 0) 2 = nI S.length := h7.1
        have o1 : f_X4_ofChapter (mTh m 0) (nI i) 1 = some (nI (wIn L S i)) := by
          rw [weig_same h3 h8 hil]
          exact tm_ofChapter (v := mTh m 0) h2 b' h7 h8.1 h8.2.1 hil true
        have o2 : f_X4_ofChapter (mTh m 0) (nI (hvy (wIn L S) i)) 1 = some (nI (wIn L S (hvy (wIn L S) i))) := by
          rw [weig_same h3 h8 (Nat.lt_trans hb hil)]
          exact tm_ofChapter (v := mTh m 0) h2 b' h7 h8.1 h8.2.1 (Nat.lt_trans hb hil) true
        rw [f_X4_heaviestChapter_L9, gk_2, ck_2, h70, if_neg (nI_ge hil (by omega)), o1, bd_s, o2, bd_s]
        unfold f_X4_heaviestChapter_B39
        have w1 := wIn_lt h5.bL S i
        have w2 := wIn_lt h5.bL S (hvy (wIn L S) i)
        have h9 := ih (i + 1) n (by omega) (by omega) (by omega)
        rw [hvy, if_neg (by omega)] at h9
        by_cases e : wIn L S (hvy (wIn L S) i) < wIn L S i
        · rw [if_neg (nI_ge e (by omega)), nI_1]
          rw [if_pos e] at h9
          exact h9
        · rw [if_pos (nI_le (by omega) (by omega)), nI_1]
          rw [if_neg e] at h9
          exact h9
    have h9 := key (S.length - 1) 1 100 (by have := h8.1.2.1; omega) (Nat.le_refl _) (by omega)
    have e0 : hvy (wIn L S) 1 = 0 := by rw [hvy, if_pos rfl]
    rw [e0] at h9
    exact h9
theorem ag_currentPage (h : RX N x m) : AgP N x (f_X3_currentPage x) (f_X4_currentPage m) := by
  obtain ⟨L, L', S, r, nid, h1, h2, h3, h4, h5, h6, h7, h8, ⟨r6, hr, hr'⟩, -⟩ := h.1
  refine ⟨nI r, mTh m 0, ?_, ?_, h.th 0⟩
  · unfold f_X3_currentPage
    rw [hr]
  · unfold f_X4_currentPage
    show gd (inb 3 825) (some (Md_all m (cl 3), mTh m 0)) = _
    rw [gk_3, ck_3, hr']
theorem ag_markCount (h : RX N x m) : AgP N x (f_X3_markCount x) (f_X4_markCount m) := by
  obtain ⟨L, L', S, r, nid, h1, h2, h3, -⟩ := h.1
  refine ⟨nI L.length, mTh m 0, ?_, ?_, h.th 0⟩
  · unfold f_X3_markCount
    rw [h1.1]
  · unfold f_X4_markCount
    show gd (inb 0 825) (some (Md_all m (cl 0), mTh m 0)) = _
    rw [gk_0, ck_0, h2.1, h3.length_eq]
theorem ag_chapterCount (h : RX N x m) : AgP N x (f_X3_chapterCount x) (f_X4_chapterCount m) := by
  obtain ⟨L, L', S, r, nid, h1, h2, h3, h4, h5, h6, h7, -⟩ := h.1
  refine ⟨nI S.length, mTh m 0, ?_, ?_, h.th 0⟩
  · unfold f_X3_chapterCount
    rw [h6.1]
  · unfold f_X4_chapterCount
    show gd (inb 2 825) (some (Md_all m (cl 2), mTh m 0)) = _
    rw [gk_2, ck_2, h7.1]
theorem ag_votesHeld (h : RX N x m) : AgP N x (f_X3_votesHeld x) (f_X4_votesHeld m) := by
  obtain ⟨L, L', S, r, nid, -, -, -, -, -, -, -, -, -, -, g1, g2, g3⟩ := h.1
  refine ⟨Md_all m 4, mTh m 0, ?_, ?_, h.th 0⟩
  · unfold f_X3_votesHeld
    rw [g1]
  · unfold f_X4_votesHeld
    show gd (inb 4 825) (some (Md_all m (cl 4), mTh m 0)) = _
    rw [gk_4, ck_4]
theorem ag_motionsCarried (h : RX N x m) : AgP N x (f_X3_motionsCarried x) (f_X4_motionsCarried m) := by
  obtain ⟨L, L', S, r, nid, -, -, -, -, -, -, -, -, -, -, g1, g2, g3⟩ := h.1
  refine ⟨Md_all m 5, mTh m 0, ?_, ?_, h.th 0⟩
  · unfold f_X3_motionsCarried
    rw [g2]
  · unfold f_X4_motionsCarried
    show gd (inb 5 825) (some (Md_all m (cl 5), mTh m 0)) = _
    rw [gk_5, ck_5]
theorem ag_ribbonWeight (h : RX N x m) : AgP N x (f_X3_ribbonWeight x) (f_X4_ribbonWeight m) := by
  obtain ⟨L, L', S, r, nid, h1, h2, h3, h4, h5, -⟩ := h.1
  refine ⟨nI (L.map fun z => if decide (mSt z ≠ 0) = true then mWt z else 0).sum, mTh m 0, ?_, ?_, h.th 0⟩
  · unfold f_X3_ribbonWeight
    have g := s_weightOfKind h1 h5.bL true
    rw [b2_t] at g
    rw [g, bd_s]
  · unfold f_X4_ribbonWeight
    have g := tm_weightOfKind (v := mTh m 0) h2 (h5.perm h3).bL true
    rw [if_pos rfl] at g
    show bd (f_X4_weightOfAll (mTh m 0) 1) (fun r1 => some (r1, mTh m 0)) = _
    rw [g, bd_s, sum_perm h3]
theorem ag_dogEarWeight (h : RX N x m) : AgP N x (f_X3_dogEarWeight x) (f_X4_dogEarWeight m) := by
  obtain ⟨L, L', S, r, nid, h1, h2, h3, h4, h5, -⟩ := h.1
  refine ⟨nI (L.map fun z => if decide (mSt z ≠ 0) = false then mWt z else 0).sum, mTh m 0, ?_, ?_, h.th 0⟩
  · unfold f_X3_dogEarWeight
    have g := s_weightOfKind h1 h5.bL false
    rw [b2_f] at g
    rw [g, bd_s]
  · unfold f_X4_dogEarWeight
    have g := tm_weightOfKind (v := mTh m 0) h2 (h5.perm h3).bL false
    rw [if_neg (by decide)] at g
    show bd (f_X4_weightOfAll (mTh m 0) 2) (fun r1 => some (r1, mTh m 0)) = _
    rw [g, bd_s, sum_perm h3]
theorem ag_ribbonCount (h : RX N x m) : AgP N x (f_X3_ribbonCount x) (f_X4_ribbonCount m) := by
  obtain ⟨L, L', S, r, nid, h1, h2, h3, h4, h5, -⟩ := h.1
  have b := (h5.perm h3).bL
  have hl := b.1
  refine ⟨nI (L.map fun z => if mSt z ≠ 0 then 1 else 0).sum, mTh m 0, ?_, ?_, h.th 0⟩
  · unfold f_X3_ribbonCount
    rw [s_ribbons h1 h5.bL, bd_s]
  · have key : ∀ d i n acc, i + d = L'.length → d < n → f_X4_ribbonCount_L9 n (nI acc) (nI i) (mTh m 0) = some (nI (acc + ((L'.drop i).map fun z => if mSt z ≠ 0 then 1 else 0).sum), mTh m 0) := by
      intro d
      induction d with
      | zero =>
        intro i n acc hi hn
        obtain ⟨n, rfl⟩ : ∃ z, n = z + 1 := ⟨n - 1, by omega⟩
        have e : i = L'.length := by omega
        have h20 : Md_all (mTh m 0) 0 = nI L'.length := h2.1
        rw [f_X4_ribbonCount_L9, gk_0, ck_0, h20, e, if_pos (Int32.le_refl _), List.drop_length]
        rfl
      | succ d ih =>
        intro i n acc hi hn
        obtain ⟨n, rfl⟩ : ∃ z, n = z + 1 := ⟨n - 1, by omega⟩
        have hil : i < L'.length := by omega
        have hz : L'[i]? = some L'[i] := List.getElem?_eq_getElem hil
        have h20 : Md_all (mTh m 0) 0 = nI L'.length := h2.1
        have hst := (b.2 _ (mem_get hz)).2.2.2.2
        rw [f_X4_ribbonCount_L9, gk_0, ck_0, h20, if_neg (nI_ge hil (by omega)), tm_st (v := mTh m 0) h2 b hz, bd_s, List.drop_eq_getElem_cons hil, List.map_cons, List.sum_cons]
        unfold f_X4_ribbonCount_B34
        by_cases e : mSt L'[i] = 0
        · rw [if_pos ((nI_le0 (by omega)).mpr e), Int32.add_zero, nI_1, if_neg (fun q => q e), ih (i + 1) n acc (by omega) (by omega), Nat.zero_add]
        · rw [if_neg (fun q => e ((nI_le0 (by omega)).mp q)), nI_1, nI_1, if_pos e, ih (i + 1) n (acc + 1) (by omega) (by omega), Nat.add_assoc]
    have h9 := key L'.length 0 100 0 (by omega) (by omega)
    rw [List.drop_zero, Nat.zero_add, ← sum_perm h3] at h9
    exact h9
/-! the span -/
theorem s_spanEnd {v : BkV} {L : List M5} (h1 : hM v L) (b : bL L) : f_X0_spanEndToEnd v = some (if 2 ≤ L.length then nI (mPg (L.getD (L.length - 1) (0, 0, 0, 0, 0))) - nI (mPg (L.getD 0 (0, 0, 0, 0, 0))) else 0) := by
  have hl := b.1
  unfold f_X0_spanEndToEnd f_X0_spanEndToEnd_B30
  rw [h1.1]
  by_cases e : 2 ≤ L.length
  · have g : ∀ i, i < L.length → L[i]? = some (L.getD i (0, 0, 0, 0, 0)) := fun i hi => by
      rw [List.getD_eq_getElem?_getD, List.getElem?_eq_getElem hi]
      rfl
    rw [if_pos (show (2 : Int32) ≤ nI L.length from nI_le (a := 2) e (by omega)), if_pos e, show nI L.length - 1 = nI (L.length - 1) from pk_sub (b := 1) (by omega), gd_n (by omega) (by decide), gd_t (by decide), cl_n (by omega), ck_0, (h1.2 _ _ (g (L.length - 1) (by omega))).2.1, (h1.2 _ _ (g 0 (by omega))).2.1]
  · rw [if_neg (show ¬ (2 : Int32) ≤ nI L.length from nI_ge (b := 2) (by omega) (by decide)), if_neg e]
theorem s_spanStep {v : BkV} {L : List M5} (h1 : hM v L) (b : bL L) (h4 : srt L) : f_X0_spanStepByStep v = some (if 2 ≤ L.length then nI (mPg (L.getD (L.length - 1) (0, 0, 0, 0, 0))) - nI (mPg (L.getD 0 (0, 0, 0, 0, 0))) else 0) := by
  have hl := b.1
  have g : ∀ i, i < L.length → L[i]? = some (L.getD i (0, 0, 0, 0, 0)) := fun i hi => by
    rw [List.getD_eq_getElem?_getD, List.getElem?_eq_getElem hi]
    rfl
  unfold f_X0_spanStepByStep
  have key : ∀ d i n, i + d = L.length → 1 ≤ i → d < n → f_X0_spanStepByStep_L4 v n (nI (mPg (L.getD (i - 1) (0, 0, 0, 0, 0))) - nI (mPg (L.getD 0 (0, 0, 0, 0, 0)))) (nI i) = some (nI (mPg (L.getD (L.length - 1) (0, 0, 0, 0, 0))) - nI (mPg (L.getD 0 (0, 0, 0, 0, 0)))) := by
    intro d
    induction d with
    | zero =>
      intro i n hi _ hn
      obtain ⟨n, rfl⟩ : ∃ z, n = z + 1 := ⟨n - 1, by omega⟩
      have e : i = L.length := by omega
      rw [f_X0_spanStepByStep_L4, h1.1, e, if_pos (Int32.le_refl _)]
    | succ d ih =>
      intro i n hi h0 hn
      obtain ⟨n, rfl⟩ : ∃ z, n = z + 1 := ⟨n - 1, by omega⟩
      have hil : i < L.length := by omega
      rw [f_X0_spanStepByStep_L4, h1.1, if_neg (nI_ge hil (by omega)), show nI i - 1 = nI (i - 1) from pk_sub (b := 1) h0, gd_n (by omega) (by decide), gd_n (by omega) (by decide), cl_n (by omega), cl_n (by omega), (h1.2 _ _ (g i hil)).2.1, (h1.2 _ _ (g (i - 1) (by omega))).2.1, nI_1]
      have h9 := ih (i + 1) n (by omega) (by omega) (by omega)
      have e : ∀ a b c : Int32, a - b + (c - a) = c - b := by
        intro a b c
        rw [Int32.sub_eq_add_neg, Int32.sub_eq_add_neg, Int32.sub_eq_add_neg, Int32.add_comm a (-b), Int32.add_assoc, ← Int32.add_assoc a c, Int32.add_comm a c, Int32.add_assoc c a, Int32.add_right_neg, Int32.add_zero, Int32.add_comm]
      rw [e]
      exact h9
  by_cases e : 1 ≤ L.length
  · have h9 := key (L.length - 1) 1 100 (by omega) (Nat.le_refl _) (by omega)
    have e0 : nI (mPg (L.getD (1 - 1) (0, 0, 0, 0, 0))) - nI (mPg (L.getD 0 (0, 0, 0, 0, 0))) = 0 := by
      rw [pk_sub (Nat.le_refl _), Nat.sub_self]
      rfl
    rw [e0] at h9
    by_cases e2 : 2 ≤ L.length
    · rw [if_pos e2]
      exact h9
    · have e3 : L.length - 1 = 0 := by omega
      rw [e3] at h9
      rw [if_neg e2]
      have e4 : nI (mPg (L.getD 0 (0, 0, 0, 0, 0))) - nI (mPg (L.getD 0 (0, 0, 0, 0, 0))) = 0 := by
        rw [pk_sub (Nat.le_refl _), Nat.sub_self]
        rfl
      rw [e4] at h9
      exact h9
  · have e2 : L.length = 0 := by omega
    rw [if_neg (by omega), f_X0_spanStepByStep_L4, h1.1, e2, if_pos (by decide)]
/-- the first and the last of pages, as the model finds them -/
theorem tm_span {w : MdV} {L L' : List M5} {nid : Nat} (h2 : sM (Md_all w) L') (h3 : L.Perm L') (h4 : srt L) (h5 : okL nid L) : f_X4_span_L13 100 1000 (-1) 0 w = some (if 2 ≤ L.length then nI (mPg (L.getD (L.length - 1) (0, 0, 0, 0, 0))) - nI (mPg (L.getD 0 (0, 0, 0, 0, 0))) else 0, w) := by
  have b := (h5.perm h3).bL
  have hl := b.1
  have hlen := h3.length_eq
  have key : ∀ d i n (lo hi1 : Nat), i + d = L'.length → d < n → lo ≤ 1000 → hi1 ≤ 60 → (∀ j z, j < i → L'[j]? = some z → lo ≤ mPg z ∧ mPg z < hi1) → (0 < i → (∃ z ∈ L', mPg z = lo) ∧ ∃ z ∈ L', mPg z + 1 = hi1) → (i = 0 → hi1 = 0 ∧ lo = 1000) → ∃ lo' hi', f_X4_span_L13 n (nI lo) (nI hi1 - 1) (nI i) w = some (if 2 ≤ L'.length then (nI hi' - 1) - nI lo' else 0, w) ∧ (∀ z ∈ L', lo' ≤ mPg z ∧ mPg z < hi') ∧ (0 < L'.length → (∃ z ∈ L', mPg z = lo') ∧ ∃ z ∈ L', mPg z + 1 = hi') := by
    intro d
    induction d with
    | zero =>
      intro i n lo hi1 hi hn _ _ hb hx _
      obtain ⟨n, rfl⟩ : ∃ z, n = z + 1 := ⟨n - 1, by omega⟩
      have e : i = L'.length := by omega
      refine ⟨lo, hi1, ?_, fun z hz => ?_, fun q => hx (by omega)⟩
      · rw [f_X4_span_L13, gk_0, gk_0, ck_0, h2.1, e, if_pos (Int32.le_refl _)]
        unfold f_X4_span_B88
        by_cases e2 : 2 ≤ L'.length
        · rw [if_pos (show (2 : Int32) ≤ nI L'.length from nI_le (a := 2) e2 (by omega)), if_pos e2]
        · rw [if_neg (show ¬ (2 : Int32) ≤ nI L'.length from nI_ge (b := 2) (by omega) (by decide)), if_neg e2]
      · obtain ⟨j, hj⟩ := List.getElem?_of_mem hz
        exact hb j z (by have := lt_get hj; omega) hj
    | succ d ih =>
      intro i n lo hi1 hi hn hlo hhi hb hx h00
      obtain ⟨n, rfl⟩ : ∃ z, n = z + 1 := ⟨n - 1, by omega⟩
      have hil : i < L'.length := by omega
      have hz : L'[i]? = some L'[i] := List.getElem?_eq_getElem hil
      have hp := (b.2 _ (mem_get hz)).2.1
      obtain ⟨q, hq⟩ : ∃ q, q = mPg L'[i] := ⟨_, rfl⟩
      have hi1' : (nI hi1 - 1).toInt = (hi1 : Int) - 1 := nI_sub_toInt (a := hi1) (b := 1) (by omega) (by omega)
      have step : f_X4_span_L13 (n + 1) (nI lo) (nI hi1 - 1) (nI i) w = f_X4_span_L13 n (nI (if q < lo then q else lo)) (nI (if hi1 ≤ q then q + 1 else hi1) - 1) (nI (i + 1)) w := by
        rw [f_X4_span_L13, gk_0, ck_0, h2.1, if_neg (nI_ge hil (by omega)), tm_pg h2 b hz, bd_s, bd_s, ← hq]
        have b43 : ∀ t : Nat, f_X4_span_B43 (f_X4_span_L13 n) (nI lo) (nI hi1 - 1) (nI i) (nI t) w = f_X4_span_L13 n (nI t) (nI (if hi1 ≤ q then q + 1 else hi1) - 1) (nI (i + 1)) w := by
          intro t
          unfold f_X4_span_B43 f_X4_span_B64
          rw [tm_pg h2 b hz, bd_s, bd_s, ← hq]
          have c : nI q ≤ nI hi1 - 1 ↔ q < hi1 := by
            rw [Int32.le_iff_toInt_le, hi1', nI_toInt (by omega)]
            omega
          by_cases e : q < hi1
          · rw [if_pos (c.mpr e), if_neg (by omega), nI_1]
          · rw [if_neg (fun s => e (c.mp s)), if_pos (by omega), nI_dn, nI_1]
        by_cases e : q < lo
        · rw [if_neg (nI_ge e (by omega)), if_pos e]
          exact b43 q
        · rw [if_pos (nI_le (by omega) (by omega)), if_neg e]
          exact b43 lo
      rw [step]
      refine ih (i + 1) n _ _ (by omega) (by omega) (by split <;> omega) (by split <;> omega) (fun j z hj hjz => ?_) (fun _ => ⟨?_, ?_⟩) (fun s => by omega)
      · by_cases e : j = i
        · rw [e, hz] at hjz
          cases hjz
          rw [← hq]
          exact ⟨by split <;> omega, by split <;> omega⟩
        · have := hb j z (by omega) hjz
          exact ⟨by split <;> omega, by split <;> omega⟩
      · by_cases e : q < lo
        · rw [if_pos e]
          exact ⟨_, mem_get hz, hq.symm⟩
        · rw [if_neg e]
          by_cases e0 : 0 < i
          · exact (hx e0).1
          · have := (h00 (by omega)).2
            omega
      · by_cases e : hi1 ≤ q
        · rw [if_pos e]
          exact ⟨_, mem_get hz, by rw [hq]⟩
        · rw [if_neg e]
          by_cases e0 : 0 < i
          · exact (hx e0).2
          · have := (h00 (by omega)).1
            omega
  obtain ⟨lo, hi, g1, g2, g3⟩ := key L'.length 0 100 1000 0 (by omega) (by omega) (by omega) (by omega) (fun j z hj => absurd hj (Nat.not_lt_zero j)) (fun q => absurd q (Nat.lt_irrefl 0)) (fun _ => ⟨rfl, rfl⟩)
  have e0 : f_X4_span_L13 100 1000 (-1) 0 w = f_X4_span_L13 100 (nI 1000) (nI 0 - 1) (nI 0) w := rfl
  rw [e0, g1, ← hlen]
  by_cases e : 2 ≤ L.length
  · rw [if_pos e, if_pos e]
    obtain ⟨⟨z1, m1, k1⟩, ⟨z2, m2, k2⟩⟩ := g3 (by omega)
    have gg : ∀ i, i < L.length → L[i]? = some (L.getD i (0, 0, 0, 0, 0)) := fun i hi => by
      rw [List.getD_eq_getElem?_getD, List.getElem?_eq_getElem hi]
      rfl
    have lt : ∀ i j x y, i < j → L[i]? = some x → L[j]? = some y → mPg x < mPg y := fun i j x y hij hx hy => by
      have hi := lt_get hx
      have hj := lt_get hy
      have := List.pairwise_iff_getElem.mp h4 i j hi hj hij
      rw [List.getElem?_eq_getElem hi] at hx
      rw [List.getElem?_eq_getElem hj] at hy
      cases hx
      cases hy
      exact this
    obtain ⟨j1, i1⟩ := List.getElem?_of_mem (h3.mem_iff.mpr m1)
    obtain ⟨j2, i2⟩ := List.getElem?_of_mem (h3.mem_iff.mpr m2)
    have r1 := g2 _ (h3.mem_iff.mp (mem_get (gg 0 (by omega))))
    have r2 := g2 _ (h3.mem_iff.mp (mem_get (gg (L.length - 1) (by omega))))
    have f1 : mPg (L.getD 0 (0, 0, 0, 0, 0)) = lo := by
      by_cases e1 : j1 = 0
      · rw [e1, gg 0 (by omega)] at i1
        cases i1
        exact k1
      · have := lt 0 j1 _ _ (by omega) (gg 0 (by omega)) i1
        omega
    have f2 : mPg (L.getD (L.length - 1) (0, 0, 0, 0, 0)) + 1 = hi := by
      by_cases e1 : j2 = L.length - 1
      · rw [e1, gg (L.length - 1) (by omega)] at i2
        cases i2
        exact k2
      · have := lt j2 (L.length - 1) _ _ (by have := lt_get i2; omega) i2 (gg (L.length - 1) (by omega))
        omega
    rw [← f2, nI_dn, f1]
  · rw [if_neg e, if_neg e]
theorem ag_span (h : RX N x m) : AgP N x (f_X3_span x) (f_X4_span m) := by
  obtain ⟨L, L', S, r, nid, h1, h2, h3, h4, h5, -⟩ := h.1
  refine ⟨_, mTh m 0, ?_, tm_span (w := mTh m 0) h2 h3 h4 h5, h.th 0⟩
  unfold f_X3_span
  rw [s_spanStep h1 h5.bL h4, bd_s]
theorem ag_spanByEnds (h : RX N x m) : AgP N x (f_X3_spanByEnds x) (f_X4_spanByEnds m) := by
  obtain ⟨L, L', S, r, nid, h1, h2, h3, h4, h5, -⟩ := h.1
  have e1 : f_X3_spanByEnds x = bd (f_X0_spanEndToEnd x.2.1) (fun r1 => some r1) := rfl
  have e2 : f_X4_spanByEnds m = bd (f_X4_span_L13 100 1000 (-1) 0 (mTh m 0)) (fun r1 => some (r1.1, r1.2)) := rfl
  rw [s_spanEnd h1 h5.bL, bd_s] at e1
  rw [tm_span (w := mTh m 0) h2 h3 h4 h5, bd_s] at e2
  exact ⟨_, mTh m 0, e1, e2, h.th 0⟩
/-! the check -/
theorem s_waysAgree {v : BkV} {L : List M5} {S : List Nat} {nid : Nat} (h1 : hM v L) (h5 : okL nid L) (h6 : hC v S) (h8 : okS S) : f_X0_chapterWaysAgree v = some 1 := by
  have hl := h8.1.1
  have key : ∀ d i n, i + d = S.length → d < n → f_X0_chapterWaysAgree_L2 v n (nI i) = some 1 := by
    intro d
    induction d with
    | zero =>
      intro i n hi hn
      obtain ⟨n, rfl⟩ : ∃ z, n = z + 1 := ⟨n - 1, by omega⟩
      have e : i = S.length := by omega
      rw [f_X0_chapterWaysAgree_L2, h6.1, e, if_pos (Int32.le_refl _)]
    | succ d ih =>
      intro i n hi hn
      obtain ⟨n, rfl⟩ : ∃ z, n = z + 1 := ⟨n - 1, by omega⟩
      have hk : i < S.length := by omega
      have ea : f_X0_against v (nI i) = some (nI (wAgn L S i)) := s_against h1 h5.bL h6 h8.1 hk
      rw [f_X0_chapterWaysAgree_L2, h6.1, if_neg (nI_ge hk (by omega)), s_heldPageByPage h1 h5 h6 h8 hk, bd_s, s_heldMarkByMark h1 h5.bL h6 h8.1 hk, bd_s, if_pos rfl, ea, bd_s, s_againstByTotal h1 h5.bL h6 h8.1 hk, bd_s, if_pos rfl, nI_1]
      exact ih (i + 1) n (by omega) (by omega)
  exact key S.length 0 100 (by omega) (by omega)
theorem s_pagesDiffer {v : BkV} {L : List M5} {nid : Nat} (h1 : hM v L) (h5 : okL nid L) : f_X0_pagesDiffer v = some 1 := by
  have hl := h5.1
  have key : ∀ d i n, i + d = L.length → d < n → f_X0_pagesDiffer_L2 v n (nI i) = some 1 := by
    intro d
    induction d with
    | zero =>
      intro i n hi hn
      obtain ⟨n, rfl⟩ : ∃ z, n = z + 1 := ⟨n - 1, by omega⟩
      have e : i = L.length := by omega
      rw [f_X0_pagesDiffer_L2, h1.1, e, if_pos (Int32.le_refl _)]
    | succ d ih =>
      intro i n hi hn
      obtain ⟨n, rfl⟩ : ∃ z, n = z + 1 := ⟨n - 1, by omega⟩
      have hk : i < L.length := by omega
      have hz : L[i]? = some L[i] := List.getElem?_eq_getElem hk
      have hb := h5.bL.2 _ (mem_get hz)
      rw [f_X0_pagesDiffer_L2, h1.1, if_neg (nI_ge hk (by omega)), gd_n (by omega) (by decide), cl_n (by omega), (h1.2 _ _ hz).2.1]
      obtain ⟨r, g1, g2⟩ := s_slotOnPage h1 h5.bL (nI (mPg L[i]))
      rw [g1, bd_s]
      have e : r = nI i := by
        rcases g2 with ⟨j, z, k1, k2, k3, k4⟩ | ⟨k1, k2⟩
        · have b2 := h5.bL.2 _ (mem_get k1)
          rw [k4, apart_ix h5.2.2.2 k1 hz (fun q => q.2.1 ((nI_eq (by omega) (by omega)).mp k2))]
        · exact absurd rfl (k2 _ (mem_get hz))
      rw [if_pos e, nI_1]
      exact ih (i + 1) n (by omega) (by omega)
  exact key L.length 0 100 (by omega) (by omega)
theorem s_seatsDiffer {v : BkV} {L : List M5} {nid : Nat} (h1 : hM v L) (h5 : okL nid L) : f_X0_seatsDiffer v = some 1 := by
  have hl := h5.1
  have key : ∀ d i n, i + d = L.length → d < n → f_X0_seatsDiffer_L2 v n (nI i) = some 1 := by
    intro d
    induction d with
    | zero =>
      intro i n hi hn
      obtain ⟨n, rfl⟩ : ∃ z, n = z + 1 := ⟨n - 1, by omega⟩
      have e : i = L.length := by omega
      rw [f_X0_seatsDiffer_L2, h1.1, e, if_pos (Int32.le_refl _)]
    | succ d ih =>
      intro i n hi hn
      obtain ⟨n, rfl⟩ : ∃ z, n = z + 1 := ⟨n - 1, by omega⟩
      have hk : i < L.length := by omega
      have hz : L[i]? = some L[i] := List.getElem?_eq_getElem hk
      have hb := h5.bL.2 _ (mem_get hz)
      rw [f_X0_seatsDiffer_L2, h1.1, if_neg (nI_ge hk (by omega)), s_hasSeat h1 h5.bL hz, bd_s]
      by_cases e0 : mSt L[i] = 0
      · rw [if_pos (by rw [decide_eq_false (fun q => q e0)]; rfl)]
        unfold f_X0_seatsDiffer_B34
        rw [nI_1]
        exact ih (i + 1) n (by omega) (by omega)
      · rw [if_neg (by rw [decide_eq_true e0]; decide), gd_n (by omega) (by decide), cl_n (by omega), (h1.2 _ _ hz).2.2.2.2]
        obtain ⟨r, g1, g2⟩ := s_slotInSeat h1 h5.bL (nI (mSt L[i]) - 1)
        rw [g1, bd_s]
        have e : r = nI i := by
          rcases g2 with ⟨j, z, k1, k2, k3, k4⟩ | ⟨k1, k2⟩
          · have b2 := h5.bL.2 _ (mem_get k1)
            have t1 := nI_sub_toInt (a := mSt z) (b := 1) (by omega) (by omega)
            have t2 := nI_sub_toInt (a := mSt L[i]) (b := 1) (by omega) (by omega)
            have k2' : nI (mSt z) - nI 1 = nI (mSt L[i]) - nI 1 := k2
            rw [k2', t2] at t1
            have es : mSt z = mSt L[i] := by omega
            rw [k4, apart_ix h5.2.2.2 k1 hz (fun q => q.2.2 (by omega) es)]
          · exact absurd rfl (k2 _ (mem_get hz))
        rw [if_pos e]
        unfold f_X0_seatsDiffer_B34
        rw [nI_1]
        exact ih (i + 1) n (by omega) (by omega)
  exact key L.length 0 100 (by omega) (by omega)
theorem ag_isConsistent (h : RX N x m) : AgP N x (f_X3_isConsistent x) (f_X4_isConsistent m) := by
  obtain ⟨L, L', S, r, nid, h1, h2, h3, h4, h5, h6, h7, h8, -⟩ := h.1
  refine ⟨1, mTh m 0, ?_, rfl, h.th 0⟩
  unfold f_X3_isConsistent
  rw [s_waysAgree h1 h5 h6 h8, bd_s, if_neg (by decide), s_spanStep h1 h5.bL h4, bd_s, s_spanEnd h1 h5.bL, bd_s, if_pos rfl, s_pagesDiffer h1 h5, bd_s, if_neg (by decide), s_seatsDiffer h1 h5, bd_s, if_neg (by decide)]
  unfold f_X3_isConsistent_B52
  rw [gd_z1]
/-! rejections -/
theorem ag_rejectionReason (h : RX N x m) : Ag [NSE] N (f_X3_rejectionReason x) (f_X4_rejectionReason m) := by
  obtain ⟨h1, h2, h3, ⟨j1, j2, j3, j4⟩, h5⟩ := id h
  unfold f_X3_rejectionReason f_X3_requireRejection f_X4_rejectionReason f_X4_rejectionReason_B13
  by_cases e : Md_why m = 0
  · exact Ag.thr (x' := x) (m' := mTh m 1) (r := 0) (E := NSE) 0 (by rw [if_pos (j1.trans e)]; rfl) (by rw [if_pos e, tm_fine0, bd_s]; rfl) rfl rfl (h.th 1)
  · refine Ag.ret (x' := x) (m' := mTh m 0) (r := Md_why m) ?_ ?_ rfl (h.th 0)
    · rw [if_neg (fun q => e (j1.symm.trans q)), bd_s, ← j1]
      rfl
    · rw [if_neg e, tm_fine1, bd_s]
      rfl
theorem ag_rejectionDetail (h : RX N x m) : Ag [NSE] N (f_X3_rejectionDetail x) (f_X4_rejectionDetail m) := by
  obtain ⟨h1, h2, h3, ⟨j1, j2, j3, j4⟩, h5⟩ := id h
  unfold f_X3_rejectionDetail f_X3_requireRejection f_X4_rejectionDetail f_X4_rejectionDetail_B13
  by_cases e : Md_why m = 0
  · exact Ag.thr (x' := x) (m' := mTh m 1) (r := 0) (E := NSE) 0 (by rw [if_pos (j1.trans e)]; rfl) (by rw [if_pos e, tm_fine0, bd_s]; rfl) rfl rfl (h.th 1)
  · refine Ag.ret (x' := x) (m' := mTh m 0) (r := Md_detail m) ?_ ?_ rfl (h.th 0)
    · rw [if_neg (fun q => e (j1.symm.trans q)), bd_s, ← j2]
      rfl
    · rw [if_neg e, tm_fine1, bd_s]
      rfl
theorem ag_causeReason (h : RX N x m) : Ag [NSE] N (f_X3_causeReason x) (f_X4_causeReason m) := by
  obtain ⟨h1, h2, h3, ⟨j1, j2, j3, j4⟩, h5⟩ := id h
  unfold f_X3_causeReason f_X4_causeReason f_X4_causeReason_B13
  by_cases e : Md_cause m = 0
  · exact Ag.thr (x' := x) (m' := mTh m 1) (r := 0) (E := NSE) 0 (by rw [if_neg (fun q => j4.mp q e)]; rfl) (by rw [if_pos e, tm_fine0, bd_s]; rfl) rfl rfl (h.th 1)
  · refine Ag.ret (x' := x) (m' := mTh m 0) (r := Md_cause m) ?_ ?_ rfl (h.th 0)
    · rw [if_pos (j4.mpr e), ← j3]
    · rw [if_neg e, tm_fine1, bd_s]
      rfl
theorem ag_syntaxErrorOffset (h : RX N x m) : Ag [NSE] N (f_X3_syntaxErrorOffset x) (f_X4_syntaxErrorOffset m) := by
  have h5 := h.2.2.2.2.1
  unfold f_X3_syntaxErrorOffset f_X4_syntaxErrorOffset f_X4_syntaxErrorOffset_B14
  by_cases e : Md_errorAt m = -1
  · exact Ag.thr (x' := x) (m' := mTh m 1) (r := 0) (E := NSE) 0 (by rw [if_pos (h5.trans e)]; rfl) (by rw [if_pos e, tm_fine0, bd_s]; rfl) rfl rfl (h.th 1)
  · refine Ag.ret (x' := x) (m' := mTh m 0) (r := Md_errorAt m) ?_ ?_ rfl (h.th 0)
    · rw [if_neg (fun q => e (h5.symm.trans q)), ← h5]
    · rw [if_neg e, tm_fine1, bd_s]
      rfl
/-! typing -/
theorem nar_ch {ch : Nat} (h : ch < 128) : vp_nar .char (nI ch) = nI ch := by
  have key : ∀ c : Fin 128, vp_nar .char (nI c.val) = nI c.val := by decide
  exact key ⟨ch, h⟩
theorem ag_appendInput (h : RX N x m) (a : Int32) : Ag [IAE, ISE] N (f_X3_appendInput x a) (f_X4_appendInput m a) := by
  obtain ⟨h1, h2, h3, h4, h5, ⟨n, n1, n2, n3, n4⟩, h7⟩ := id h
  have eI : f_X4_appendInput m a = (if decide ((32 : Int32) ≤ a ∧ a ≤ 126) = false then f_X4_appendInput_B30 a (1 : Int32) m else if Md_typed m = (60 : Int32) then f_X4_appendInput_B30 a (2 : Int32) m else f_X4_appendInput_B30 a (0 : Int32) m) := by
    unfold f_X4_appendInput
    rw [tm_in, bd_s]
    cases decide ((32 : Int32) ≤ a ∧ a ≤ 126)
    · rw [if_pos b2_f, if_pos rfl]
    · rw [if_neg (show ¬ b2 true = 0 from by decide), if_neg (show ¬ true = false from by decide)]
  rw [eI]
  by_cases e1 : (32 : Int32) ≤ a
  · by_cases e2 : a ≤ 126
    · rw [decide_eq_true ⟨e1, e2⟩, if_neg (by decide)]
      have t1 : (32 : Int32).toInt ≤ a.toInt := by have := e1; rw [Int32.le_iff_toInt_le] at this; exact this
      have t2 : a.toInt ≤ (126 : Int32).toInt := by have := e2; rw [Int32.le_iff_toInt_le] at this; exact this
      obtain ⟨ch, hch, rfl⟩ := nI_of (x := a) (fun q => by
        rw [Int32.lt_iff_toInt_lt] at q
        have z : (0 : Int32).toInt = 0 := by decide
        have z1 : (32 : Int32).toInt = 32 := by decide
        omega)
      rw [nI_toInt hch] at t1 t2
      have z1 : (32 : Int32).toInt = 32 := by decide
      have z2 : (126 : Int32).toInt = 126 := by decide
      have c1 : 32 ≤ ch := by omega
      have c2 : ch ≤ 126 := by omega
      have e60 : ((60 : Int32) = nI 60) := rfl
      by_cases e3 : n = 60
      · have q3 : Md_typed m = 60 := by
          rw [n3, e3]
          rfl
        rw [if_pos q3]
        refine Ag.thr (x' := x) (m' := mTh m 2) (r := 0) (E := ISE) 1 ?_ rfl rfl rfl (h.th 2)
        unfold f_X3_appendInput
        rw [if_neg (Int32.not_lt.mpr e1), if_pos e2, if_neg (by rw [n2, e3]; decide)]
        rfl
      · have q3 : ¬ Md_typed m = 60 := by
          rw [n3, e60]
          exact fun q => e3 ((nI_eq (by omega) (by omega)).mp q)
        rw [if_neg q3]
        unfold f_X4_appendInput_B30
        rw [if_pos rfl, n3, gd_n (by omega) (by decide), cl_n (by omega), nar_ch (by omega), nI_1]
        refine Ag.ret (r := nI (n + 1)) (x' := (x.1, x.2.1, x.2.2.1, x.2.2.2.1, x.2.2.2.2.1, (upd (Sc_input x.2.2.2.2.2.1) n (nI ch), Sc_kinds x.2.2.2.2.2.1, Sc_firsts x.2.2.2.2.2.1, Sc_seconds x.2.2.2.2.2.1, nI (n + 1), Sc_commands x.2.2.2.2.2.1, Sc_at x.2.2.2.2.2.1), x.2.2.2.2.2.2.1, x.2.2.2.2.2.2.2)) ?_ rfl rfl ?_
        · unfold f_X3_appendInput f_X2_append f_X2_append_B29
          rw [if_neg (Int32.not_lt.mpr e1), if_pos e2, n2, if_pos (show nI n < (60 : Int32) from nI_lt (b := 60) (by omega) (by decide)), if_neg (show ¬ (60 : Int32) ≤ nI n from nI_ge (b := 60) (by omega) (by decide)), gd_n (by omega) (by decide), cl_n (by omega), nar_ch (by omega), nI_1]
          rfl
        · refine ⟨h1, h2, h3, h4, h5, ⟨n + 1, by omega, rfl, rfl, fun i hi => ?_⟩, h7⟩
          by_cases ei : i = n
          · refine ⟨ch, c1, c2, ?_, ?_⟩
            · show upd _ _ _ _ = _
              rw [ei, pk_us]
            · show upd _ _ _ _ = _
              rw [ei, pk_us]
          · obtain ⟨d, d1, d2, d3, d4⟩ := n4 i (by omega)
            refine ⟨d, d1, d2, ?_, ?_⟩
            · show upd _ _ _ _ = _
              rw [pk_un ei]
              exact d3
            · show upd _ _ _ _ = _
              rw [pk_un ei]
              exact d4
    · rw [decide_eq_false (fun q => e2 q.2), if_pos rfl]
      refine Ag.thr (x' := x) (m' := mTh m 1) (r := 0) (E := IAE) 0 ?_ rfl rfl rfl (h.th 1)
      unfold f_X3_appendInput f_X3_appendInput_B12
      rw [if_neg (Int32.not_lt.mpr e1), if_neg e2]
      rfl
  · rw [decide_eq_false (fun q => e1 q.1), if_pos rfl]
    refine Ag.thr (x' := x) (m' := mTh m 1) (r := 0) (E := IAE) 0 ?_ rfl rfl rfl (h.th 1)
    unfold f_X3_appendInput f_X3_appendInput_B12
    rw [if_pos (Int32.not_le.mp e1)]
    rfl
end TOT

