/-! ===== the book's questions ===== -/
section BKQ
variable {v : BkV} {L : List M5} {S : List Nat}
theorem s_hasPage (v : BkV) (a : Int32) : f_X0_hasPage v a = some (b2 (decide (0 ≤ a ∧ a < 60))) := by
  unfold f_X0_hasPage f_X0_hasPage_B14 f_X0_hasPage_B15
  by_cases h1 : a < 0
  · rw [if_pos h1, gd_z0, decide_eq_false (fun h => Int32.not_le.mpr h1 h.1)]
    rfl
  · rw [if_neg h1]
    by_cases h2 : (60 : Int32) ≤ a
    · rw [if_pos h2, gd_z0, decide_eq_false (fun h => Int32.not_lt.mpr h2 h.2)]
      rfl
    · rw [if_neg h2, gd_z1, decide_eq_true ⟨Int32.not_lt.mp h1, Int32.not_le.mp h2⟩]
      rfl
theorem s_hasChapter (v : BkV) (a : Int32) : f_X0_hasChapter v a = some (b2 (decide (0 ≤ a ∧ a < Bk_chapters v))) := by
  unfold f_X0_hasChapter f_X0_hasChapter_B16 f_X0_hasChapter_B17
  by_cases h1 : a < 0
  · rw [if_pos h1, gd_z0, decide_eq_false (fun h => Int32.not_le.mpr h1 h.1)]
    rfl
  · rw [if_neg h1]
    by_cases h2 : Bk_chapters v ≤ a
    · rw [if_pos h2, gd_z0, decide_eq_false (fun h => Int32.not_lt.mpr h2 h.2)]
      rfl
    · rw [if_neg h2, gd_z1, decide_eq_true ⟨Int32.not_lt.mp h1, Int32.not_le.mp h2⟩]
      rfl
theorem s_takesWeight (v : BkV) (a : Int32) : f_X0_takesWeight v a = some (b2 (decide (1 ≤ a ∧ a ≤ 9))) := by
  unfold f_X0_takesWeight f_X0_takesWeight_B15 f_X0_takesWeight_B16
  by_cases h1 : a < 1
  · rw [if_pos h1, gd_z0, decide_eq_false (fun h => Int32.not_le.mpr h1 h.1)]
    rfl
  · rw [if_neg h1]
    by_cases h2 : (9 : Int32) < a
    · rw [if_pos h2, gd_z0, decide_eq_false (fun h => Int32.not_lt.mpr h.2 h2)]
      rfl
    · rw [if_neg h2, gd_z1, decide_eq_true ⟨Int32.not_lt.mp h1, Int32.not_lt.mp h2⟩]
      rfl
theorem s_takesCount (v : BkV) (a : Int32) : f_X0_takesCount v a = some (b2 (decide (1 ≤ a ∧ a ≤ 20))) := by
  unfold f_X0_takesCount f_X0_takesCount_B15 f_X0_takesCount_B16
  by_cases h1 : a < 1
  · rw [if_pos h1, gd_z0, decide_eq_false (fun h => Int32.not_le.mpr h1 h.1)]
    rfl
  · rw [if_neg h1]
    by_cases h2 : (20 : Int32) < a
    · rw [if_pos h2, gd_z0, decide_eq_false (fun h => Int32.not_lt.mpr h.2 h2)]
      rfl
    · rw [if_neg h2, gd_z1, decide_eq_true ⟨Int32.not_lt.mp h1, Int32.not_lt.mp h2⟩]
      rfl
theorem seat_m1 {q : Nat} (hq : q ≤ 5) : nI q - 1 = (-1 : Int32) ↔ q = 0 := by
  have h : ∀ q, q < 6 → (nI q - 1 = (-1 : Int32) ↔ q = 0) := by decide +kernel
  exact h q (by omega)
theorem s_hasSeat (h : hM v L) (b : bL L) {i : Nat} {m : M5} (hm : L[i]? = some m) : f_X0_hasSeat v (nI i) = some (b2 (decide (mSt m ≠ 0))) := by
  have hi := lt_get hm
  have hl := b.1
  have hs := (b.2 m (mem_get hm)).2.2.2.2
  unfold f_X0_hasSeat f_X0_hasSeat_B15
  rw [gd_n (by omega) (by decide), cl_n (by omega), (h.2 i m hm).2.2.2.2]
  by_cases hq : mSt m = 0
  · rw [if_pos ((seat_m1 hs).mpr hq), gd_z0, decide_eq_false (by omega)]
    rfl
  · rw [if_neg (fun z => hq ((seat_m1 hs).mp z)), gd_z1, decide_eq_true hq]
    rfl
theorem s_slotWithId (h : hM v L) (b : bL L) (a : Int32) : ∃ r, f_X0_slotWithId v a = some r ∧ Fnd L (fun m => nI (mId m) = a) r := by
  have hl := b.1
  refine fndL (F := fun n x => f_X0_slotWithId_L2 v n a x) (by omega) ?_ ?_ ?_
  · intro n
    show f_X0_slotWithId_L2 v (n + 1) a (nI L.length) = _
    rw [f_X0_slotWithId_L2, h.1, if_pos (Int32.le_refl _)]
  · intro n i m hm hq
    have hi := lt_get hm
    show f_X0_slotWithId_L2 v (n + 1) a (nI i) = _
    rw [f_X0_slotWithId_L2, h.1, if_neg (nI_ge hi (by omega)), gd_n (by omega) (by decide), cl_n (by omega), (h.2 i m hm).1, if_pos hq]
  · intro n i m hm hq
    have hi := lt_get hm
    show f_X0_slotWithId_L2 v (n + 1) a (nI i) = f_X0_slotWithId_L2 v n a (nI (i + 1))
    rw [f_X0_slotWithId_L2, h.1, if_neg (nI_ge hi (by omega)), gd_n (by omega) (by decide), cl_n (by omega), (h.2 i m hm).1, if_neg hq, nI_succ]
theorem s_slotOnPage (h : hM v L) (b : bL L) (a : Int32) : ∃ r, f_X0_slotOnPage v a = some r ∧ Fnd L (fun m => nI (mPg m) = a) r := by
  have hl := b.1
  refine fndL (F := fun n x => f_X0_slotOnPage_L2 v n a x) (by omega) ?_ ?_ ?_
  · intro n
    show f_X0_slotOnPage_L2 v (n + 1) a (nI L.length) = _
    rw [f_X0_slotOnPage_L2, h.1, if_pos (Int32.le_refl _)]
  · intro n i m hm hq
    have hi := lt_get hm
    show f_X0_slotOnPage_L2 v (n + 1) a (nI i) = _
    rw [f_X0_slotOnPage_L2, h.1, if_neg (nI_ge hi (by omega)), gd_n (by omega) (by decide), cl_n (by omega), (h.2 i m hm).2.1, if_pos hq]
  · intro n i m hm hq
    have hi := lt_get hm
    show f_X0_slotOnPage_L2 v (n + 1) a (nI i) = f_X0_slotOnPage_L2 v n a (nI (i + 1))
    rw [f_X0_slotOnPage_L2, h.1, if_neg (nI_ge hi (by omega)), gd_n (by omega) (by decide), cl_n (by omega), (h.2 i m hm).2.1, if_neg hq, nI_succ]
theorem s_slotInSeat (h : hM v L) (b : bL L) (a : Int32) : ∃ r, f_X0_slotInSeat v a = some r ∧ Fnd L (fun m => nI (mSt m) - 1 = a) r := by
  have hl := b.1
  refine fndL (F := fun n x => f_X0_slotInSeat_L2 v n a x) (by omega) ?_ ?_ ?_
  · intro n
    show f_X0_slotInSeat_L2 v (n + 1) a (nI L.length) = _
    rw [f_X0_slotInSeat_L2, h.1, if_pos (Int32.le_refl _)]
  · intro n i m hm hq
    have hi := lt_get hm
    show f_X0_slotInSeat_L2 v (n + 1) a (nI i) = _
    rw [f_X0_slotInSeat_L2, h.1, if_neg (nI_ge hi (by omega)), gd_n (by omega) (by decide), cl_n (by omega), (h.2 i m hm).2.2.2.2, if_pos hq]
  · intro n i m hm hq
    have hi := lt_get hm
    show f_X0_slotInSeat_L2 v (n + 1) a (nI i) = f_X0_slotInSeat_L2 v n a (nI (i + 1))
    rw [f_X0_slotInSeat_L2, h.1, if_neg (nI_ge hi (by omega)), gd_n (by omega) (by decide), cl_n (by omega), (h.2 i m hm).2.2.2.2, if_neg hq, nI_succ]
theorem s_slotFrom (h : hM v L) (b : bL L) (a : Int32) : ∃ r, f_X0_slotFrom v a = some r ∧ Fnd L (fun m => ¬ nI (mPg m) < a) r := by
  have hl := b.1
  refine fndL (F := fun n x => f_X0_slotFrom_L2 v n a x) (by omega) ?_ ?_ ?_
  · intro n
    show f_X0_slotFrom_L2 v (n + 1) a (nI L.length) = _
    rw [f_X0_slotFrom_L2, h.1, if_pos (Int32.le_refl _)]
  · intro n i m hm hq
    have hi := lt_get hm
    show f_X0_slotFrom_L2 v (n + 1) a (nI i) = _
    rw [f_X0_slotFrom_L2, h.1, if_neg (nI_ge hi (by omega)), gd_n (by omega) (by decide), cl_n (by omega), (h.2 i m hm).2.1, if_neg hq]
  · intro n i m hm hq
    have hi := lt_get hm
    show f_X0_slotFrom_L2 v (n + 1) a (nI i) = f_X0_slotFrom_L2 v n a (nI (i + 1))
    rw [f_X0_slotFrom_L2, h.1, if_neg (nI_ge hi (by omega)), gd_n (by omega) (by decide), cl_n (by omega), (h.2 i m hm).2.1, if_pos (Decidable.not_not.mp hq), nI_succ]
theorem s_slotUpTo (h : hM v L) (b : bL L) (a : Int32) : ∃ r, f_X0_slotUpTo v a = some r ∧ Fdn L (fun m => ¬ a < nI (mPg m)) r := by
  have hl := b.1
  unfold f_X0_slotUpTo
  rw [h.1]
  refine fndD (F := fun n x => f_X0_slotUpTo_L7 v n a x) (by omega) ?_ ?_ ?_
  · intro n
    show f_X0_slotUpTo_L7 v (n + 1) a (nI 0 - 1) = _
    rw [f_X0_slotUpTo_L7, if_pos nI_00]
  · intro n i m hm hq
    have hi := lt_get hm
    show f_X0_slotUpTo_L7 v (n + 1) a (nI i) = _
    rw [f_X0_slotUpTo_L7, if_neg (nI_pos (by omega)), gd_n (by omega) (by decide), cl_n (by omega), (h.2 i m hm).2.1, if_neg hq]
  · intro n i m hm hq
    have hi := lt_get hm
    show f_X0_slotUpTo_L7 v (n + 1) a (nI i) = f_X0_slotUpTo_L7 v n a (nI i - 1)
    rw [f_X0_slotUpTo_L7, if_neg (nI_pos (by omega)), gd_n (by omega) (by decide), cl_n (by omega), (h.2 i m hm).2.1, if_pos (Decidable.not_not.mp hq), add_m1]
theorem s_weightOfAll (h : hM v L) (b : bL L) : f_X0_weightOfAll v = some (nI (L.map mWt).sum) := by
  have hl := b.1
  refine sumL (F := fun n a x => f_X0_weightOfAll_L4 v n a x) (by omega) ?_ ?_
  · intro n a
    show f_X0_weightOfAll_L4 v (n + 1) (nI a) (nI L.length) = _
    rw [f_X0_weightOfAll_L4, h.1, if_pos (Int32.le_refl _)]
  · intro n a i m hm
    have hi := lt_get hm
    show f_X0_weightOfAll_L4 v (n + 1) (nI a) (nI i) = f_X0_weightOfAll_L4 v n (nI (a + mWt m)) (nI (i + 1))
    rw [f_X0_weightOfAll_L4, h.1, if_neg (nI_ge hi (by omega)), gd_n (by omega) (by decide), cl_n (by omega), (h.2 i m hm).2.2.1, nI_add, nI_succ]
theorem s_ribbons (h : hM v L) (b : bL L) : f_X0_ribbons v = some (nI (L.map fun m => if mSt m ≠ 0 then 1 else 0).sum) := by
  have hl := b.1
  refine sumL (F := fun n a x => f_X0_ribbons_L4 v n a x) (by omega) ?_ ?_
  · intro n a
    show f_X0_ribbons_L4 v (n + 1) (nI a) (nI L.length) = _
    rw [f_X0_ribbons_L4, h.1, if_pos (Int32.le_refl _)]
  · intro n a i m hm
    have hi := lt_get hm
    show f_X0_ribbons_L4 v (n + 1) (nI a) (nI i) = f_X0_ribbons_L4 v n (nI (a + if mSt m ≠ 0 then 1 else 0)) (nI (i + 1))
    rw [f_X0_ribbons_L4, h.1, if_neg (nI_ge hi (by omega)), s_hasSeat h b hm, bd_s]
    unfold f_X0_ribbons_B23
    by_cases hq : mSt m ≠ 0
    · rw [decide_eq_true hq, if_neg (by decide), if_pos hq, nI_1, nI_1]
    · rw [decide_eq_false hq, if_pos b2_f, if_neg hq, nI_succ, Nat.add_zero]
/-- k 1: the ribbons' weight, 0: the dog ears' -/
theorem s_weightOfKind (h : hM v L) (b : bL L) (k : Bool) : f_X0_weightOfKind v (b2 k) = some (nI (L.map fun m => if decide (mSt m ≠ 0) = k then mWt m else 0).sum) := by
  have hl := b.1
  refine sumL (F := fun n a x => f_X0_weightOfKind_L4 v n (b2 k) a x) (by omega) ?_ ?_
  · intro n a
    show f_X0_weightOfKind_L4 v (n + 1) (b2 k) (nI a) (nI L.length) = _
    rw [f_X0_weightOfKind_L4, h.1, if_pos (Int32.le_refl _)]
  · intro n a i m hm
    have hi := lt_get hm
    show f_X0_weightOfKind_L4 v (n + 1) (b2 k) (nI a) (nI i) = f_X0_weightOfKind_L4 v n (b2 k) (nI (a + if decide (mSt m ≠ 0) = k then mWt m else 0)) (nI (i + 1))
    rw [f_X0_weightOfKind_L4, h.1, if_neg (nI_ge hi (by omega)), s_hasSeat h b hm, bd_s]
    unfold f_X0_weightOfKind_B30
    have e : b2 (decide (mSt m ≠ 0)) = b2 k ↔ decide (mSt m ≠ 0) = k := by cases decide (mSt m ≠ 0) <;> cases k <;> decide
    by_cases hq : decide (mSt m ≠ 0) = k
    · rw [if_pos (e.mpr hq), if_pos hq, gd_n (by omega) (by decide), cl_n (by omega), (h.2 i m hm).2.2.1, nI_add, nI_succ]
    · rw [if_neg (fun z => hq (e.mp z)), if_neg hq, nI_succ, Nat.add_zero]
/-! .. of chapters -/
theorem s_chapterWith (h : hC v S) (b : bS S) (p : Nat) (hp : p < 60) : f_X0_chapterWith v (nI p) = some (nI (chOf S p)) := by
  have hl := b.1
  unfold f_X0_chapterWith chOf
  rw [h.1]
  have key : ∀ k n, k ≤ S.length → 1 ≤ k → k < n → f_X0_chapterWith_L7 v n (nI p) (nI k - 1) = some (nI (chN S p k)) := by
    intro k
    induction k with
    | zero => intro n _ h1; omega
    | succ k ih =>
      intro n hk _ hn
      obtain ⟨n, rfl⟩ : ∃ z, n = z + 1 := ⟨n - 1, by omega⟩
      rw [nI_dn, f_X0_chapterWith_L7]
      by_cases h0 : k = 0
      · subst h0
        rw [if_pos (by decide), chN]
        split
        · rfl
        · rfl
      · have hsk := get_getD (S := S) (k := k) (by omega)
        rw [if_neg (nI_nle (by omega) (by omega)), gd_n (by omega) (by decide), cl_n (by omega), h.2 k _ hsk, chN]
        have h6 := getD_lt b (k := k) (by omega)
        by_cases hq : S.getD k 0 ≤ p
        · rw [if_neg (fun z => by rw [nI_ltI (by omega) (by omega)] at z; omega), if_pos hq]
        · rw [if_pos ((nI_ltI (by omega) (by omega)).mpr (by omega)), if_neg hq, add_m1]
          exact ih n (by omega) (by omega) (by omega)
  exact key S.length 100 (Nat.le_refl _) b.2.1 (by omega)
theorem s_endOf (h : hC v S) (b : bS S) {k : Nat} (hk : k < S.length) : f_X0_endOf v (nI k) = some (if k + 1 < S.length then nI (S.getD (k + 1) 0) - 1 else 59) := by
  have hl := b.1
  unfold f_X0_endOf f_X0_endOf_B25
  rw [h.1, nI_1]
  by_cases hq : k + 1 < S.length
  · rw [if_neg (nI_ge hq (by omega)), if_pos hq, gd_n (by omega) (by decide), cl_n (by omega), h.2 _ _ (get_getD hq)]
  · rw [if_pos (nI_le (by omega) (by omega)), if_neg hq]
theorem s_isIn (h : hM v L) (b : bL L) (hc : hC v S) (bs : bS S) {i k : Nat} {m : M5} (hm : L[i]? = some m) (hk : k < S.length) : f_X0_isIn v (nI i) (nI k) = some (b2 (inCh S k (mPg m))) := by
  have hi := lt_get hm
  have hl := b.1
  have hl2 := bs.1
  have hp := (b.2 m (mem_get hm)).2.1
  have hs := getD_lt bs hk
  unfold f_X0_isIn f_X0_isIn_B43 f_X0_isIn_B39 f_X0_isIn_B44 inCh
  rw [gd_n (by omega) (by decide), gd_n (by omega) (by decide), cl_n (by omega), cl_n (by omega), (h.2 i m hm).2.1, hc.2 _ _ (get_getD hk), hc.1, nI_1]
  by_cases h1 : S.getD k 0 ≤ mPg m
  · rw [if_neg (fun z => by rw [nI_ltI (by omega) (by omega)] at z; omega), decide_eq_true h1, Bool.true_and]
    by_cases hq : k + 1 < S.length
    · have hs2 := getD_lt bs hq
      rw [if_neg (nI_ge hq (by omega)), gd_n (by omega) (by decide), cl_n (by omega), hc.2 _ _ (get_getD hq)]
      by_cases h2 : mPg m < S.getD (k + 1) 0
      · rw [if_neg (fun z => by rw [nI_leI (by omega) (by omega)] at z; omega), gd_z1, decide_eq_true (fun _ => h2)]
        rfl
      · rw [if_pos ((nI_leI (by omega) (by omega)).mpr (by omega)), gd_z0, decide_eq_false (fun z => h2 (z hq))]
        rfl
    · rw [if_pos (nI_le (by omega) (by omega)), gd_z1, decide_eq_true (fun z => absurd z hq)]
      rfl
  · rw [if_pos ((nI_ltI (by omega) (by omega)).mpr (by omega)), gd_z0, decide_eq_false h1]
    rfl
theorem s_heldMarkByMark (h : hM v L) (b : bL L) (hc : hC v S) (bs : bS S) {k : Nat} (hk : k < S.length) : f_X0_heldMarkByMark v (nI k) = some (nI (L.map fun m => if inCh S k (mPg m) = true then 1 else 0).sum) := by
  have hl := b.1
  refine sumL (F := fun n a x => f_X0_heldMarkByMark_L4 v n (nI k) a x) (by omega) ?_ ?_
  · intro n a
    show f_X0_heldMarkByMark_L4 v (n + 1) (nI k) (nI a) (nI L.length) = _
    rw [f_X0_heldMarkByMark_L4, h.1, if_pos (Int32.le_refl _)]
  · intro n a i m hm
    have hi := lt_get hm
    show f_X0_heldMarkByMark_L4 v (n + 1) (nI k) (nI a) (nI i) = f_X0_heldMarkByMark_L4 v n (nI k) (nI (a + if inCh S k (mPg m) = true then 1 else 0)) (nI (i + 1))
    rw [f_X0_heldMarkByMark_L4, h.1, if_neg (nI_ge hi (by omega)), s_isIn h b hc bs hm hk, bd_s]
    unfold f_X0_heldMarkByMark_B24
    cases inCh S k (mPg m)
    · rw [if_pos b2_f, if_neg (by decide), nI_succ, Nat.add_zero]
    · rw [if_neg (by decide), if_pos rfl, nI_1, nI_1]
theorem s_weightIn (h : hM v L) (b : bL L) (hc : hC v S) (bs : bS S) {k : Nat} (hk : k < S.length) : f_X0_weightIn v (nI k) = some (nI (L.map fun m => if inCh S k (mPg m) = true then mWt m else 0).sum) := by
  have hl := b.1
  refine sumL (F := fun n a x => f_X0_weightIn_L4 v n (nI k) a x) (by omega) ?_ ?_
  · intro n a
    show f_X0_weightIn_L4 v (n + 1) (nI k) (nI a) (nI L.length) = _
    rw [f_X0_weightIn_L4, h.1, if_pos (Int32.le_refl _)]
  · intro n a i m hm
    have hi := lt_get hm
    show f_X0_weightIn_L4 v (n + 1) (nI k) (nI a) (nI i) = f_X0_weightIn_L4 v n (nI k) (nI (a + if inCh S k (mPg m) = true then mWt m else 0)) (nI (i + 1))
    rw [f_X0_weightIn_L4, h.1, if_neg (nI_ge hi (by omega)), s_isIn h b hc bs hm hk, bd_s]
    unfold f_X0_weightIn_B30
    cases inCh S k (mPg m)
    · rw [if_pos b2_f, if_neg (by decide), nI_succ, Nat.add_zero]
    · rw [if_neg (by decide), if_pos rfl, gd_n (by omega) (by decide), cl_n (by omega), (h.2 i m hm).2.2.1, nI_add, nI_succ]
/-- in favour: a ribbon beside the chapter -/
def isFav (S : List Nat) (k : Nat) (m : M5) : Bool := decide (mSt m ≠ 0) && !inCh S k (mPg m)
theorem s_favour (h : hM v L) (b : bL L) (hc : hC v S) (bs : bS S) {k : Nat} (hk : k < S.length) : f_X0_favour v (nI k) = some (nI (L.map fun m => if isFav S k m = true then mWt m else 0).sum) := by
  have hl := b.1
  refine sumL (F := fun n a x => f_X0_favour_L4 v n (nI k) a x) (by omega) ?_ ?_
  · intro n a
    show f_X0_favour_L4 v (n + 1) (nI k) (nI a) (nI L.length) = _
    rw [f_X0_favour_L4, h.1, if_pos (Int32.le_refl _)]
  · intro n a i m hm
    have hi := lt_get hm
    show f_X0_favour_L4 v (n + 1) (nI k) (nI a) (nI i) = f_X0_favour_L4 v n (nI k) (nI (a + if isFav S k m = true then mWt m else 0)) (nI (i + 1))
    rw [f_X0_favour_L4, h.1, if_neg (nI_ge hi (by omega)), s_hasSeat h b hm, bd_s]
    unfold f_X0_favour_B38 isFav
    cases decide (mSt m ≠ 0)
    · rw [if_pos b2_f, Bool.false_and, if_neg (by decide), nI_succ, Nat.add_zero]
    · rw [if_neg (by decide), s_isIn h b hc bs hm hk, bd_s, Bool.true_and]
      cases inCh S k (mPg m)
      · rw [if_pos b2_f, Bool.not_false, if_pos rfl, gd_n (by omega) (by decide), cl_n (by omega), (h.2 i m hm).2.2.1, nI_add, nI_succ]
      · rw [if_neg (by decide), Bool.not_true, if_neg (by decide), nI_succ, Nat.add_zero]
theorem s_against (h : hM v L) (b : bL L) (hc : hC v S) (bs : bS S) {k : Nat} (hk : k < S.length) : f_X0_against v (nI k) = some (nI (L.map fun m => if isFav S k m = true then 0 else mWt m).sum) := by
  have hl := b.1
  refine sumL (F := fun n a x => f_X0_against_L4 v n (nI k) a x) (by omega) ?_ ?_
  · intro n a
    show f_X0_against_L4 v (n + 1) (nI k) (nI a) (nI L.length) = _
    rw [f_X0_against_L4, h.1, if_pos (Int32.le_refl _)]
  · intro n a i m hm
    have hi := lt_get hm
    show f_X0_against_L4 v (n + 1) (nI k) (nI a) (nI i) = f_X0_against_L4 v n (nI k) (nI (a + if isFav S k m = true then 0 else mWt m)) (nI (i + 1))
    rw [f_X0_against_L4, h.1, if_neg (nI_ge hi (by omega)), s_hasSeat h b hm, bd_s]
    unfold f_X0_against_B29 f_X0_against_B38 isFav
    cases decide (mSt m ≠ 0)
    · rw [if_pos b2_f, Bool.false_and, if_neg (by decide), gd_n (by omega) (by decide), cl_n (by omega), (h.2 i m hm).2.2.1, nI_add, nI_succ]
    · rw [if_neg (by decide), s_isIn h b hc bs hm hk, bd_s, Bool.true_and]
      cases inCh S k (mPg m)
      · rw [if_pos b2_f, Bool.not_false, if_pos rfl, nI_succ, Nat.add_zero]
      · rw [if_neg (by decide), Bool.not_true, if_neg (by decide), gd_n (by omega) (by decide), cl_n (by omega), (h.2 i m hm).2.2.1, nI_add, nI_succ]
end BKQ
