/-! ===== what the model's changes say ===== -/
theorem fst1 {X : MdV} : ¬ ((1 : Int32), X).1 = 0 := by
  show ¬ (1 : Int32) = 0
  decide
section MDW
variable {v : MdV} {L : List M5} {S : List Nat}
theorem in_page {a : Int32} (h : 0 ≤ a ∧ a < 60) : ∃ p, p < 60 ∧ a = nI p := by
  obtain ⟨j, hj, rfl⟩ := nI_of (x := a) (Int32.not_lt.mpr h.1)
  have h2 := h.2
  have h3 : (nI j).toInt < (60 : Int32).toInt := Int32.lt_iff_toInt_lt.mp h2
  rw [nI_toInt hj] at h3
  have h6 : (60 : Int32).toInt = 60 := by decide
  exact ⟨j, by omega, rfl⟩
theorem page_in {p : Nat} (h : p < 60) : (0 : Int32) ≤ nI p ∧ nI p < 60 := ⟨nI_pos' (by omega), nI_lt (b := 60) h (by decide)⟩
theorem tm_idAt_m (v : MdV) : f_X4_idAt v (-1) = some 0 := by
  unfold f_X4_idAt f_X4_idAt_B14
  rw [if_neg (by decide)]
theorem tm_idAt (h : sM (Md_all v) L) (b : bL L) {k : Nat} {m : M5} (hm : L[k]? = some m) : f_X4_idAt v (nI k) = some (nI (mId m)) := by
  have hk := lt_get hm
  have hl := b.1
  unfold f_X4_idAt f_X4_idAt_B14
  rw [if_pos (nI_pos' (by omega)), tm_id h b hm, bd_s]
theorem tm_adds_p (v : MdV) {a : Int32} (w f : Int32) (h : ¬ (0 ≤ a ∧ a < 60)) : f_X4_adds v a w f = some (1, v) := by
  unfold f_X4_adds
  rw [tm_isPage, bd_s, decide_eq_false h, if_pos b2_f]
theorem tm_adds_w (v : MdV) {a w : Int32} (f : Int32) (h : 0 ≤ a ∧ a < 60) (hw : ¬ (1 ≤ w ∧ w ≤ 9)) : f_X4_adds v a w f = some (2, v) := by
  unfold f_X4_adds
  rw [tm_isPage, bd_s, decide_eq_true h, if_neg (by decide), tm_in, bd_s, decide_eq_false hw, if_pos b2_f]
theorem tm_adds (h : sM (Md_all v) L) (b : bL L) {nid : Nat} (hn : Md_all v 1 = nI nid) {p w : Nat} (hp : p < 60) (hw : 1 ≤ w ∧ w ≤ 9) (rb : Bool) :
    (L.length = 12 ∧ f_X4_adds v (nI p) (nI w) (b2 rb) = some (3, mRej v 1 12)) ∨
    (L.length < 12 ∧ rb = true ∧ fseat L 5 = 5 ∧ f_X4_adds v (nI p) (nI w) (b2 rb) = some (3, mRej v 2 5)) ∨
    (L.length < 12 ∧ (rb = true → fseat L 5 < 5) ∧ ∃ m ∈ L, mPg m = p ∧ f_X4_adds v (nI p) (nI w) (b2 rb) = some (3, mRej v 3 (nI (mId m)))) ∨
    (L.length < 12 ∧ (rb = true → fseat L 5 < 5) ∧ (∀ m ∈ L, mPg m ≠ p) ∧ f_X4_adds v (nI p) (nI w) (b2 rb) = some (0, mAR v (addR (Md_all v) L.length nid p w (if rb = true then fseat L 5 + 1 else 0)) (nI nid))) := by
  have hl := b.1
  have hw2 : (1 : Int32) ≤ nI w ∧ nI w ≤ 9 := ⟨nI_le (a := 1) hw.1 (by omega), nI_le (b := 9) hw.2 (by decide)⟩
  obtain ⟨r, hr, hf⟩ := tm_onPage h b (nI p)
  have pre : f_X4_adds v (nI p) (nI w) (b2 rb) = if nI L.length = (12 : Int32) then f_X4_adds_B55 (nI p) (nI w) (b2 rb) (nI L.length) (seatI (fseat L 5)) r 1 v else f_X4_adds_B55 (nI p) (nI w) (b2 rb) (nI L.length) (seatI (fseat L 5)) r 0 v := by
    unfold f_X4_adds
    rw [tm_isPage, bd_s, decide_eq_true (page_in hp), if_neg (by decide), tm_in, bd_s, decide_eq_true hw2, if_neg (by decide), gk_0, tm_freeSeat h b, bd_s, hr, bd_s, ck_0, h.1]
  by_cases e12 : L.length = 12
  · refine Or.inl ⟨e12, pre.trans ?_⟩
    rw [e12, if_pos (by decide)]
    unfold f_X4_adds_B55 f_X4_adds_B111
    rw [tm_rej1, bd_s, if_neg fst1]
  have pre2 := pre.trans (if_neg (fun z => e12 ((nI_eq (by omega) (by decide)).mp (show nI L.length = nI 12 from z))))
  unfold f_X4_adds_B55 at pre2
  rw [tm_rej0, bd_s, if_pos rfl] at pre2
  have f5 := fseat_le L 5 (Nat.le_refl _)
  by_cases e5 : rb = true ∧ fseat L 5 = 5
  · refine Or.inr (Or.inl ⟨by omega, e5.1, e5.2, pre2.trans ?_⟩)
    rw [e5.1, e5.2, if_neg (by decide), if_neg (by decide)]
    unfold f_X4_adds_B79 f_X4_adds_B111
    rw [tm_rej1, bd_s, if_neg fst1]
  have e5' : rb = true → fseat L 5 < 5 := fun z => Nat.lt_of_le_of_ne f5 (fun q => e5 ⟨z, q⟩)
  have pre3 := pre2.trans (show _ = f_X4_adds_B79 (nI p) (nI w) (b2 rb) (nI L.length) (seatI (fseat L 5)) r 0 v by
    cases rb
    · rw [if_pos b2_f]
      rfl
    · have := e5' rfl
      rw [if_neg (by decide), if_pos (by unfold seatI; rw [if_neg (by omega)]; exact nI_pos' (by omega))]
      rfl)
  unfold f_X4_adds_B79 at pre3
  rw [tm_rej0, bd_s, if_pos rfl] at pre3
  rcases hf with ⟨j, m, hm, hq, -, e⟩ | ⟨e, hq⟩
  · have hj := lt_get hm
    have hpm := (b.2 m (mem_get hm)).2.1
    refine Or.inr (Or.inr (Or.inl ⟨by omega, e5', m, mem_get hm, (nI_eq (by omega) (by omega)).mp hq, pre3.trans ?_⟩))
    rw [e, if_neg (nI_pos (by omega))]
    unfold f_X4_adds_B98 f_X4_adds_B111
    rw [tm_idAt h b hm, bd_s, tm_rej1, bd_s, if_neg fst1]
  · refine Or.inr (Or.inr (Or.inr ⟨by omega, e5', fun m hm z => hq m hm (congrArg nI z), pre3.trans ?_⟩))
    rw [e, if_pos (by decide)]
    unfold f_X4_adds_B98
    rw [tm_idAt_m, bd_s, tm_rej0, bd_s, if_pos rfl, gk_1, gk_1, gk_1, gk_0, gk_0, ck_0, ck_1, hn, nI_1, pk_un (show (0 : Nat) ≠ 1 by decide), h.1, nI_1, tm_set0 _ (by omega), bd_s, tm_set1 _ (by omega), bd_s, tm_set2 _ (by omega), bd_s]
    unfold f_X4_adds_B186
    cases rb
    · rw [if_pos b2_f, tm_set3 _ (by omega), bd_s, tm_set4 _ (by omega), bd_s]
      rfl
    · have := e5' rfl
      have e9 : seatI (fseat L 5) + 1 = nI (fseat L 5 + 1) := by
        unfold seatI
        rw [if_neg (by omega), nI_1]
      rw [if_neg (by decide), e9, tm_set3 _ (by omega), bd_s, tm_set4 _ (by omega), bd_s]
      rfl
/-- one mark's row, written anew -/
theorem sM_set {a a' : Nat → Int32} (h : sM a L) {j : Nat} {z : M5} (hj : j < L.length) (hr : rS a' j z) (hk : ∀ t, (t < 15 + 5 * j ∨ 15 + 5 * j + 5 ≤ t) → a' t = a t) : sM a' (L.set j z) := by
  refine ⟨by rw [List.length_set, hk 0 (by omega)]; exact h.1, fun k m hm => ?_⟩
  by_cases e : k = j
  · rw [e, List.getElem?_set_self hj] at hm
    cases hm
    rw [e]
    exact hr
  · rw [List.getElem?_set_ne (Ne.symm e)] at hm
    obtain ⟨q0, q1, q2, q3, q4⟩ := h.2 k m hm
    have r : ∀ w, w < 5 → a' (15 + 5 * k + w) = a (15 + 5 * k + w) := fun w hw => hk _ (by omega)
    exact ⟨(r 0 (by omega)).trans q0, (r 1 (by omega)).trans q1, (r 2 (by omega)).trans q2, (r 3 (by omega)).trans q3, (r 4 (by omega)).trans q4⟩
theorem tm_moves (h : sM (Md_all v) L) (b : bL L) (x pa : Int32) :
    ((∀ m ∈ L, ¬ nI (mId m) = x) ∧ f_X4_moves v x pa = some (1, v)) ∨
    (∃ j m, L[j]? = some m ∧ nI (mId m) = x ∧ ((¬ (0 ≤ pa ∧ pa < 60) ∧ f_X4_moves v x pa = some (1, v)) ∨
      ∃ p, p < 60 ∧ pa = nI p ∧ ((mSt m = 0 ∧ f_X4_moves v x pa = some (3, mRej v 4 x)) ∨
        (mSt m ≠ 0 ∧ ∃ z ∈ L, mPg z = p ∧ f_X4_moves v x pa = some (3, mRej v 3 (nI (mId z)))) ∨
        (mSt m ≠ 0 ∧ (∀ z ∈ L, mPg z ≠ p) ∧ f_X4_moves v x pa = some (0, mAR v (upd (Md_all v) (15 + 5 * j + 1) (nI p)) (nI (mPg m))) ∧ sM (upd (Md_all v) (15 + 5 * j + 1) (nI p)) (L.set j (mId m, p, mWt m, mWr m, mSt m)))))) := by
  have hl := b.1
  obtain ⟨r, hr, hf⟩ := tm_find h b x
  rcases hf with ⟨j, m, hm, hq, -, e⟩ | ⟨e, hq⟩
  · right
    have hj := lt_get hm
    have hst := (b.2 m (mem_get hm)).2.2.2.2
    refine ⟨j, m, hm, hq, ?_⟩
    by_cases hp : 0 ≤ pa ∧ pa < 60
    · right
      obtain ⟨p, hp6, rfl⟩ := in_page hp
      refine ⟨p, hp6, rfl, ?_⟩
      obtain ⟨r2, hr2, hf2⟩ := tm_onPage h b (nI p)
      have pre : f_X4_moves v x (nI p) = if nI (mSt m) = 0 then f_X4_moves_B41 x (nI p) (nI j) r2 1 v else f_X4_moves_B41 x (nI p) (nI j) r2 0 v := by
        unfold f_X4_moves
        rw [hr, bd_s, e, if_neg (nI_pos (by omega)), tm_isPage, bd_s, decide_eq_true hp, if_neg (by decide), hr2, bd_s, tm_st h b hm, bd_s]
      by_cases hs : mSt m = 0
      · refine Or.inl ⟨hs, pre.trans ?_⟩
        rw [hs, if_pos (by decide)]
        unfold f_X4_moves_B41 f_X4_moves_B73
        rw [tm_rej1, bd_s, if_neg fst1]
      have pre2 := pre.trans (if_neg (nI_ne0 (by omega) (by omega)))
      unfold f_X4_moves_B41 at pre2
      rw [tm_rej0, bd_s, if_pos rfl] at pre2
      rcases hf2 with ⟨j2, z, hz, hq2, -, e2⟩ | ⟨e2, hq2⟩
      · have hj2 := lt_get hz
        have hpz := (b.2 z (mem_get hz)).2.1
        refine Or.inr (Or.inl ⟨hs, z, mem_get hz, (nI_eq (by omega) (by omega)).mp hq2, pre2.trans ?_⟩)
        rw [e2, if_neg (nI_pos (by omega))]
        unfold f_X4_moves_B60 f_X4_moves_B73
        rw [tm_idAt h b hz, bd_s, tm_rej1, bd_s, if_neg fst1]
      · refine Or.inr (Or.inr ⟨hs, fun z hz q => hq2 z hz (congrArg nI q), pre2.trans ?_, ?_⟩)
        · rw [e2, if_pos (by decide)]
          unfold f_X4_moves_B60
          rw [tm_idAt_m, bd_s, tm_rej0, bd_s, if_pos rfl, tm_pg (v := ((0 : Int32), v).2) h b hm, bd_s, tm_set1 _ (by omega), bd_s]
          rfl
        · obtain ⟨q0, q1, q2, q3, q4⟩ := h.2 j m hm
          refine sM_set h hj ⟨?_, pk_us, ?_, ?_, ?_⟩ (fun t ht => pk_un (by omega))
          · rw [pk_un (by omega)]
            exact q0
          · rw [pk_un (by omega)]
            exact q2
          · rw [pk_un (by omega)]
            exact q3
          · rw [pk_un (by omega)]
            exact q4
    · refine Or.inl ⟨hp, ?_⟩
      unfold f_X4_moves f_X4_moves_B17
      rw [hr, bd_s, e, if_neg (nI_pos (by omega)), tm_isPage, bd_s, decide_eq_false hp, if_pos b2_f]
  · left
    refine ⟨hq, ?_⟩
    unfold f_X4_moves f_X4_moves_B17
    rw [hr, bd_s, e, if_pos (by decide)]
theorem tm_swaps (h : sM (Md_all v) L) (b : bL L) (x y : Int32) :
    (((∀ m ∈ L, ¬ nI (mId m) = x) ∨ ∀ m ∈ L, ¬ nI (mId m) = y) ∧ f_X4_swaps v x y = some (1, v)) ∨
    (∃ i j c d, L[i]? = some c ∧ nI (mId c) = x ∧ L[j]? = some d ∧ nI (mId d) = y ∧
      ((mSt c = 0 ∧ f_X4_swaps v x y = some (3, mRej v 4 x)) ∨
       (mSt c ≠ 0 ∧ mSt d = 0 ∧ f_X4_swaps v x y = some (3, mRej v 4 y)) ∨
       (mSt c ≠ 0 ∧ mSt d ≠ 0 ∧ x = y ∧ f_X4_swaps v x y = some (3, mRej v 5 x)) ∨
       (mSt c ≠ 0 ∧ mSt d ≠ 0 ∧ x ≠ y ∧ f_X4_swaps v x y = some (0, mAR v (upd (upd (Md_all v) (15 + 5 * i + 3) (nI (mSt d))) (15 + 5 * j + 3) (nI (mSt c))) (nI (mSt d) - 1)) ∧ sM (upd (upd (Md_all v) (15 + 5 * i + 3) (nI (mSt d))) (15 + 5 * j + 3) (nI (mSt c))) (swpL L i j c d)))) := by
  have hl := b.1
  obtain ⟨r, hr, hf⟩ := tm_find h b x
  obtain ⟨r2, hr2, hf2⟩ := tm_find h b y
  rcases hf with ⟨i, c, hc, hq, -, e⟩ | ⟨e, hq⟩
  · have hi := lt_get hc
    have hst := (b.2 c (mem_get hc)).2.2.2.2
    rcases hf2 with ⟨j, d, hd, hq2, -, e2⟩ | ⟨e2, hq2⟩
    · have hj := lt_get hd
      have hst2 := (b.2 d (mem_get hd)).2.2.2.2
      refine Or.inr ⟨i, j, c, d, hc, hq, hd, hq2, ?_⟩
      have pre : f_X4_swaps v x y = if nI (mSt c) = 0 then f_X4_swaps_B39 x y (nI i) (nI j) 1 v else f_X4_swaps_B39 x y (nI i) (nI j) 0 v := by
        unfold f_X4_swaps
        rw [hr, bd_s, hr2, bd_s, e, e2, if_neg (nI_pos (by omega)), if_pos (nI_pos' (by omega)), tm_st h b hc, bd_s]
      by_cases hs : mSt c = 0
      · refine Or.inl ⟨hs, pre.trans ?_⟩
        rw [hs, if_pos (by decide)]
        unfold f_X4_swaps_B39 f_X4_swaps_B90
        rw [tm_rej1, bd_s, if_neg fst1]
      have pre2 := pre.trans (if_neg (nI_ne0 (by omega) (by omega)))
      unfold f_X4_swaps_B39 at pre2
      rw [tm_rej0, bd_s, if_pos rfl, tm_st (v := ((0 : Int32), v).2) h b hd, bd_s] at pre2
      by_cases hs2 : mSt d = 0
      · refine Or.inr (Or.inl ⟨hs, hs2, pre2.trans ?_⟩)
        rw [hs2, if_pos (by decide)]
        unfold f_X4_swaps_B63 f_X4_swaps_B90
        rw [tm_rej1, bd_s, if_neg fst1]
      have pre3 := pre2.trans (if_neg (nI_ne0 (by omega) (by omega)))
      unfold f_X4_swaps_B63 at pre3
      rw [tm_rej0, bd_s, if_pos rfl] at pre3
      by_cases hxy : x = y
      · refine Or.inr (Or.inr (Or.inl ⟨hs, hs2, hxy, pre3.trans ?_⟩))
        rw [if_pos hxy]
        unfold f_X4_swaps_B82 f_X4_swaps_B90
        rw [tm_rej1, bd_s, if_neg fst1]
      have hij : i ≠ j := by
        intro z
        rw [z, hd] at hc
        cases hc
        exact hxy (hq.symm.trans hq2)
      refine Or.inr (Or.inr (Or.inr ⟨hs, hs2, hxy, pre3.trans ?_, ?_⟩))
      · rw [if_neg hxy]
        unfold f_X4_swaps_B82
        have fin : f_X4_m (mA (mA v (upd (Md_all v) (15 + 5 * i + 3) (nI (mSt d)))) (upd (upd (Md_all v) (15 + 5 * i + 3) (nI (mSt d))) (15 + 5 * j + 3) (nI (mSt c)))) (nI i) 3 = some (nI (mSt d)) := by
          have h1 := tm_m (mA (mA v (upd (Md_all v) (15 + 5 * i + 3) (nI (mSt d)))) (upd (upd (Md_all v) (15 + 5 * i + 3) (nI (mSt d))) (15 + 5 * j + 3) (nI (mSt c)))) (k := i) (w := 3) (by omega) (by omega)
          refine h1.trans ?_
          show some (upd (upd (Md_all v) (15 + 5 * i + 3) (nI (mSt d))) (15 + 5 * j + 3) (nI (mSt c)) (15 + 5 * i + 3)) = _
          rw [pk_un (by omega), pk_us]
        rw [tm_rej0, bd_s, if_pos rfl, tm_st (v := ((0 : Int32), v).2) h b hc, bd_s, tm_st (v := ((0 : Int32), v).2) h b hd, bd_s, tm_set3 _ (by omega), bd_s, tm_set3 _ (by omega), bd_s]
        have fin' := fin
        unfold mA at fin'
        show bd (f_X4_m (mA (mA v (upd (Md_all v) (15 + 5 * i + 3) (nI (mSt d)))) (upd (upd (Md_all v) (15 + 5 * i + 3) (nI (mSt d))) (15 + 5 * j + 3) (nI (mSt c)))) (nI i) 3) _ = _
        rw [fin, bd_s]
        rfl
      · have s1 : sM (upd (Md_all v) (15 + 5 * i + 3) (nI (mSt d))) (L.set i (mId c, mPg c, mWt c, mWr c, mSt d)) := by
          obtain ⟨q0, q1, q2, q3, q4⟩ := h.2 i c hc
          refine sM_set h hi ⟨?_, ?_, ?_, pk_us, ?_⟩ (fun t ht => pk_un (by omega))
          · rw [pk_un (by omega)]
            exact q0
          · rw [pk_un (by omega)]
            exact q1
          · rw [pk_un (by omega)]
            exact q2
          · rw [pk_un (by omega)]
            exact q4
        have hd2 : (L.set i (mId c, mPg c, mWt c, mWr c, mSt d))[j]? = some d := by
          rw [List.getElem?_set_ne hij]
          exact hd
        have s2 : sM (upd (upd (Md_all v) (15 + 5 * i + 3) (nI (mSt d))) (15 + 5 * j + 3) (nI (mSt c))) ((L.set i (mId c, mPg c, mWt c, mWr c, mSt d)).set j (mId d, mPg d, mWt d, mWr d, mSt c)) := by
          obtain ⟨q0, q1, q2, q3, q4⟩ := s1.2 j d hd2
          refine sM_set s1 (by rw [List.length_set]; exact hj) ⟨?_, ?_, ?_, pk_us, ?_⟩ (fun t ht => pk_un (by omega))
          · rw [pk_un (by omega)]
            exact q0
          · rw [pk_un (by omega)]
            exact q1
          · rw [pk_un (by omega)]
            exact q2
          · rw [pk_un (by omega)]
            exact q4
        unfold swpL
        rw [List.set_comm _ _ (Ne.symm hij)]
        exact s2
    · refine Or.inl ⟨Or.inr hq2, ?_⟩
      unfold f_X4_swaps f_X4_swaps_B22
      rw [hr, bd_s, hr2, bd_s, e, e2, if_neg (nI_pos (by omega)), if_neg (by decide)]
  · refine Or.inl ⟨Or.inl hq, ?_⟩
    unfold f_X4_swaps f_X4_swaps_B22
    rw [hr, bd_s, hr2, bd_s, e, if_pos (by decide)]
end MDW
