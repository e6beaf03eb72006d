/-! ===== meanWeight, heldShare: the numbers agree ===== -/
theorem rx_meanWeight {N : Nat} {x : XV} {m : MdV} (h : RX N x m) : (Bk_marks x.2.1 = 0 ∧ Md_all m 0 = 0) ∨ ∃ k n : Nat, Bk_marks x.2.1 = nI n ∧ f_X0_weightOfAll x.2.1 = some (nI k) ∧ k < 109 ∧ n < 13 ∧ n ≠ 0 ∧ Md_all m 0 = nI n ∧ f_X4_weightOfAll (mTh m 0) 0 = some (nI k) := by
  obtain ⟨L, L', S, r, nid, h1, h2, h3, h4, h5, -⟩ := h.1
  have b := h5.bL
  have hl := b.1
  by_cases e : L.length = 0
  · refine Or.inl ⟨?_, ?_⟩
    · rw [h1.1, e]
      rfl
    · rw [h2.1, ← h3.length_eq, e]
      rfl
  · have hs := sum_le L mWt 9 (fun z hz => (b.2 z hz).2.2.1)
    refine Or.inr ⟨(L.map mWt).sum, L.length, h1.1, s_weightOfAll h1 b, by omega, by omega, e, by rw [h2.1, h3.length_eq], ?_⟩
    rw [tm_weightOfAll (v := mTh m 0) h2 (h5.perm h3).bL, ← sum_perm h3]
theorem rx_heldShare {N : Nat} {x : XV} {m : MdV} (h : RX N x m) (a : Int32) : (f_X3_requireChapter x a = some (.inr (IOOBE, x)) ∧ f_X4_isChapter m a = some 0) ∨ ∃ k ps pe j : Nat, a = nI k ∧ f_X3_requireChapter x (nI k) = some (.inl (0, x)) ∧ k < 8 ∧ Bk_starts x.2.1 k = nI ps ∧ f_X0_endOf x.2.1 (nI k) = some (nI pe) ∧ ps ≤ pe ∧ pe < 60 ∧ f_X0_heldPageByPage x.2.1 (nI k) = some (nI j) ∧ j < 13 ∧ f_X4_isChapter m (nI k) = some 1 ∧ f_X4_first (mTh m 0) (nI k) = some (nI ps) ∧ f_X4_last (mTh m 0) (nI k) = some (nI pe) ∧ f_X4_ofChapter (mTh m 0) (nI k) 0 = some (nI j) := by
  obtain ⟨L, L', S, r, nid, h1, h2, h3, h4, h5, h6, h7, h8, -⟩ := h.1
  have hl8 := h8.1.1
  have b := h5.bL
  have hl := b.1
  by_cases hp : 0 ≤ a ∧ a < nI S.length
  · obtain ⟨k, hk, rfl⟩ := in_rng (by omega) hp
    have hE := endCh_le h8 k
    have hG := endCh_gt h8 hk
    have hs := sum_le L (fun z => if inCh S k (mPg z) = true then 1 else 0) 1 (fun z _ => by
      show (if inCh S k (mPg z) = true then 1 else 0) ≤ 1
      split
      · exact Nat.le_refl _
      · exact Nat.zero_le _)
    refine Or.inr ⟨k, S.getD k 0, endCh S k - 1, _, rfl, ?_, by omega, h6.2 k _ (get_getD hk), s_endOf2 h6 h8 hk, by omega, by omega, s_heldPageByPage h1 h5 h6 h8 hk, by omega, ?_, tm_first (v := mTh m 0) h7 h8.1 hk, ?_, ?_⟩
    · rw [x_reqChapter, h6.1, if_pos hp]
    · rw [tm_isChapter h7 h8.1, decide_eq_true hp]
      rfl
    · rw [tm_last (v := mTh m 0) h7 h8.1 hk, endCh_nI h8 hk]
    · show f_X4_ofChapter (mTh m 0) (nI k) (b2 false) = _
      rw [tm_ofChapter (v := mTh m 0) h2 (h5.perm h3).bL h7 h8.1 h8.2.1 hk, held_same h3 h8 hk]
  · refine Or.inl ⟨?_, ?_⟩
    · rw [x_reqChapter, h6.1, if_neg hp]
    · rw [tm_isChapter h7 h8.1, decide_eq_false hp]
      rfl
