/-! ===== the model's questions ===== -/
theorem gk_0 {α : Type} {x : Option α} : gd (inb (0 : Int32) 825) x = x := gd_t (by decide)
theorem gk_1 {α : Type} {x : Option α} : gd (inb (1 : Int32) 825) x = x := gd_t (by decide)
theorem gk_2 {α : Type} {x : Option α} : gd (inb (2 : Int32) 825) x = x := gd_t (by decide)
theorem gk_3 {α : Type} {x : Option α} : gd (inb (3 : Int32) 825) x = x := gd_t (by decide)
theorem gk_4 {α : Type} {x : Option α} : gd (inb (4 : Int32) 825) x = x := gd_t (by decide)
theorem gk_5 {α : Type} {x : Option α} : gd (inb (5 : Int32) 825) x = x := gd_t (by decide)
theorem gk_6 {α : Type} {x : Option α} : gd (inb (6 : Int32) 825) x = x := gd_t (by decide)
theorem ck_0 : cl (0 : Int32) = 0 := by decide
theorem ck_1 : cl (1 : Int32) = 1 := by decide
theorem ck_2 : cl (2 : Int32) = 2 := by decide
theorem ck_3 : cl (3 : Int32) = 3 := by decide
theorem ck_4 : cl (4 : Int32) = 4 := by decide
theorem ck_5 : cl (5 : Int32) = 5 := by decide
theorem ck_6 : cl (6 : Int32) = 6 := by decide
theorem b2_le0 {b : Bool} : b2 b ≤ 0 ↔ b = false := by cases b <;> decide
section MDQ
variable {v : MdV} {L : List M5} {S : List Nat}
theorem tm_in (a lo hi : Int32) : f_X4_in a lo hi = some (b2 (decide (lo ≤ a ∧ a ≤ hi))) := by
  unfold f_X4_in f_X4_in_B14 f_X4_in_B15
  by_cases h1 : a < lo
  · rw [if_pos h1, gd_z0, decide_eq_false (fun h => Int32.not_le.mpr h1 h.1)]
    rfl
  · rw [if_neg h1]
    by_cases h2 : hi < a
    · rw [if_pos h2, gd_z0, decide_eq_false (fun h => Int32.not_lt.mpr h.2 h2)]
      rfl
    · rw [if_neg h2, gd_z1, decide_eq_true ⟨Int32.not_lt.mp h1, Int32.not_lt.mp h2⟩]
      rfl
theorem lt60 (a : Int32) : a < 60 ↔ a ≤ 59 := by
  rw [Int32.lt_iff_toInt_lt, Int32.le_iff_toInt_le]
  have h1 : (60 : Int32).toInt = 60 := by decide
  have h2 : (59 : Int32).toInt = 59 := by decide
  omega
theorem tm_isPage (a : Int32) : f_X4_isPage a = some (b2 (decide (0 ≤ a ∧ a < 60))) := by
  unfold f_X4_isPage
  rw [tm_in, bd_s, gd_z]
  congr 3
  exact propext ⟨fun h => ⟨h.1, (lt60 a).mpr h.2⟩, fun h => ⟨h.1, (lt60 a).mp h.2⟩⟩
theorem tm_isChapter (h : sC (Md_all v) S) (b : bS S) (a : Int32) : f_X4_isChapter v a = some (b2 (decide (0 ≤ a ∧ a < nI S.length))) := by
  have hl := b.1
  have hl1 := b.2.1
  unfold f_X4_isChapter
  rw [gk_2, ck_2, h.1, tm_in, bd_s, gd_z]
  congr 3
  have e : nI S.length - 1 = nI (S.length - 1) := pk_sub (b := 1) hl1
  rw [e]
  refine propext ⟨fun h => ⟨h.1, ?_⟩, fun h => ⟨h.1, ?_⟩⟩
  · have h2 := h.2
    rw [Int32.le_iff_toInt_le, nI_toInt (by omega)] at h2
    rw [Int32.lt_iff_toInt_lt, nI_toInt (by omega)]
    omega
  · have h2 := h.2
    rw [Int32.lt_iff_toInt_lt, nI_toInt (by omega)] at h2
    rw [Int32.le_iff_toInt_le, nI_toInt (by omega)]
    omega
theorem tm_m (v : MdV) {k w : Nat} (hk : k < 13) (hw : w < 5) : f_X4_m v (nI k) (nI w) = some (Md_all v (15 + 5 * k + w)) := by
  show gd (inb (nI 15 + nI 5 * nI k + nI w) 825) (some (Md_all v (cl (nI 15 + nI 5 * nI k + nI w)))) = _
  rw [pk_mul, nI_add, nI_add, gd_n (by omega) (by decide), cl_n (by omega)]
theorem tm_id (h : sM (Md_all v) L) (b : bL L) {k : Nat} {m : M5} (hm : L[k]? = some m) : f_X4_m v (nI k) 0 = some (nI (mId m)) := by
  have hk := lt_get hm
  have hl := b.1
  exact (tm_m v (w := 0) (by omega) (by omega)).trans (congrArg some (h.2 k m hm).1)
theorem tm_pg (h : sM (Md_all v) L) (b : bL L) {k : Nat} {m : M5} (hm : L[k]? = some m) : f_X4_m v (nI k) 1 = some (nI (mPg m)) := by
  have hk := lt_get hm
  have hl := b.1
  exact (tm_m v (w := 1) (by omega) (by omega)).trans (congrArg some (h.2 k m hm).2.1)
theorem tm_wt (h : sM (Md_all v) L) (b : bL L) {k : Nat} {m : M5} (hm : L[k]? = some m) : f_X4_m v (nI k) 2 = some (nI (mWt m)) := by
  have hk := lt_get hm
  have hl := b.1
  exact (tm_m v (w := 2) (by omega) (by omega)).trans (congrArg some (h.2 k m hm).2.2.1)
theorem tm_st (h : sM (Md_all v) L) (b : bL L) {k : Nat} {m : M5} (hm : L[k]? = some m) : f_X4_m v (nI k) 3 = some (nI (mSt m)) := by
  have hk := lt_get hm
  have hl := b.1
  exact (tm_m v (w := 3) (by omega) (by omega)).trans (congrArg some (h.2 k m hm).2.2.2.1)
theorem tm_wr (h : sM (Md_all v) L) (b : bL L) {k : Nat} {m : M5} (hm : L[k]? = some m) : f_X4_m v (nI k) 4 = some (nI (mWr m)) := by
  have hk := lt_get hm
  have hl := b.1
  exact (tm_m v (w := 4) (by omega) (by omega)).trans (congrArg some (h.2 k m hm).2.2.2.2)
theorem tm_find (h : sM (Md_all v) L) (b : bL L) (a : Int32) : ∃ r, f_X4_find v a = some r ∧ Fnd L (fun m => nI (mId m) = a) r := by
  have hl := b.1
  refine fndL (F := fun n x => f_X4_find_L2 v n a x) (by omega) ?_ ?_ ?_
  · intro n
    show f_X4_find_L2 v (n + 1) a (nI L.length) = _
    rw [f_X4_find_L2, gk_0, ck_0, h.1, if_pos (Int32.le_refl _)]
  · intro n i m hm hq
    have hi := lt_get hm
    show f_X4_find_L2 v (n + 1) a (nI i) = _
    rw [f_X4_find_L2, gk_0, ck_0, h.1, if_neg (nI_ge hi (by omega)), tm_id h b hm, bd_s, if_pos hq]
  · intro n i m hm hq
    have hi := lt_get hm
    show f_X4_find_L2 v (n + 1) a (nI i) = f_X4_find_L2 v n a (nI (i + 1))
    rw [f_X4_find_L2, gk_0, ck_0, h.1, if_neg (nI_ge hi (by omega)), tm_id h b hm, bd_s, if_neg hq, nI_succ]
theorem tm_onPage (h : sM (Md_all v) L) (b : bL L) (a : Int32) : ∃ r, f_X4_onPage v a = some r ∧ Fnd L (fun m => nI (mPg m) = a) r := by
  have hl := b.1
  refine fndL (F := fun n x => f_X4_onPage_L2 v n a x) (by omega) ?_ ?_ ?_
  · intro n
    show f_X4_onPage_L2 v (n + 1) a (nI L.length) = _
    rw [f_X4_onPage_L2, gk_0, ck_0, h.1, if_pos (Int32.le_refl _)]
  · intro n i m hm hq
    have hi := lt_get hm
    show f_X4_onPage_L2 v (n + 1) a (nI i) = _
    rw [f_X4_onPage_L2, gk_0, ck_0, h.1, if_neg (nI_ge hi (by omega)), tm_pg h b hm, bd_s, if_pos hq]
  · intro n i m hm hq
    have hi := lt_get hm
    show f_X4_onPage_L2 v (n + 1) a (nI i) = f_X4_onPage_L2 v n a (nI (i + 1))
    rw [f_X4_onPage_L2, gk_0, ck_0, h.1, if_neg (nI_ge hi (by omega)), tm_pg h b hm, bd_s, if_neg hq, nI_succ]
theorem tm_inSeat (h : sM (Md_all v) L) (b : bL L) (a : Int32) : ∃ r, f_X4_inSeat v a = some r ∧ Fnd L (fun m => nI (mSt m) = a + 1) r := by
  have hl := b.1
  refine fndL (F := fun n x => f_X4_inSeat_L2 v n a x) (by omega) ?_ ?_ ?_
  · intro n
    show f_X4_inSeat_L2 v (n + 1) a (nI L.length) = _
    rw [f_X4_inSeat_L2, gk_0, ck_0, h.1, if_pos (Int32.le_refl _)]
  · intro n i m hm hq
    have hi := lt_get hm
    show f_X4_inSeat_L2 v (n + 1) a (nI i) = _
    rw [f_X4_inSeat_L2, gk_0, ck_0, h.1, if_neg (nI_ge hi (by omega)), tm_st h b hm, bd_s, if_pos hq]
  · intro n i m hm hq
    have hi := lt_get hm
    show f_X4_inSeat_L2 v (n + 1) a (nI i) = f_X4_inSeat_L2 v n a (nI (i + 1))
    rw [f_X4_inSeat_L2, gk_0, ck_0, h.1, if_neg (nI_ge hi (by omega)), tm_st h b hm, bd_s, if_neg hq, nI_succ]
theorem tm_first (h : sC (Md_all v) S) (b : bS S) {k : Nat} (hk : k < S.length) : f_X4_first v (nI k) = some (nI (S.getD k 0)) := by
  have hl := b.1
  show gd (inb (nI 7 + nI k) 825) (some (Md_all v (cl (nI 7 + nI k)))) = _
  rw [nI_add, gd_n (by omega) (by decide), cl_n (by omega), h.2 k _ (get_getD hk)]
theorem tm_last (h : sC (Md_all v) S) (b : bS S) {k : Nat} (hk : k < S.length) : f_X4_last v (nI k) = some (if k + 1 < S.length then nI (S.getD (k + 1) 0) - 1 else 59) := by
  have hl := b.1
  unfold f_X4_last f_X4_last_B30
  have e : nI S.length - 1 = nI (S.length - 1) := pk_sub (b := 1) b.2.1
  rw [gk_2, ck_2, h.1, e]
  by_cases hq : k + 1 < S.length
  · rw [if_neg (fun z => by have := (nI_eq (by omega) (by omega)).mp z; omega), if_pos hq]
    show gd (inb (nI 7 + nI k + nI 1) 825) (some (Md_all v (cl (nI 7 + nI k + nI 1)) - 1)) = _
    rw [nI_add, nI_add, gd_n (by omega) (by decide), cl_n (by omega), Nat.add_assoc, h.2 _ _ (get_getD hq)]
  · rw [if_pos (by have e2 : k = S.length - 1 := by omega
                   rw [e2]), if_neg hq]
theorem tm_chapterAt (h : sC (Md_all v) S) (b : bS S) (h0 : S.getD 0 0 = 0) (p : Nat) (hp : p < 60) : f_X4_chapterAt v (nI p) = some (nI (chOf S p)) := by
  have hl := b.1
  have key : ∀ k i n, i + k = S.length → 1 ≤ i → k < n → f_X4_chapterAt_L4 v n (nI p) (nI (chN S p i)) (nI i) = some (nI (chN S p S.length)) := by
    intro k
    induction k with
    | zero =>
      intro i n hi _ hn
      obtain ⟨n, rfl⟩ : ∃ z, n = z + 1 := ⟨n - 1, by omega⟩
      have e : i = S.length := by omega
      subst e
      rw [f_X4_chapterAt_L4, gk_2, ck_2, h.1, if_pos (Int32.le_refl _)]
    | succ k ih =>
      intro i n hi h1 hn
      obtain ⟨n, rfl⟩ : ∃ z, n = z + 1 := ⟨n - 1, by omega⟩
      have hil : i < S.length := by omega
      have h6 := getD_lt b hil
      have e7 : (7 : Int32) + nI i = nI (7 + i) := nI_add 7 i
      rw [f_X4_chapterAt_L4, gk_2, ck_2, h.1, if_neg (nI_ge hil (by omega)), e7, gd_n (by omega) (by decide), cl_n (by omega), h.2 i _ (get_getD hil)]
      unfold f_X4_chapterAt_B32
      by_cases hq : S.getD i 0 ≤ p
      · rw [if_neg (fun z => by rw [nI_ltI (by omega) (by omega)] at z; omega), nI_1]
        have h2 := ih (i + 1) n (by omega) (by omega) (by omega)
        rw [chN, if_pos hq] at h2
        exact h2
      · rw [if_pos ((nI_ltI (by omega) (by omega)).mpr (by omega)), nI_1]
        have h2 := ih (i + 1) n (by omega) (by omega) (by omega)
        rw [chN, if_neg hq] at h2
        exact h2
  have e0 : chN S p 1 = 0 := by
    rw [chN, h0, if_pos (Nat.zero_le _)]
  have h9 := key (S.length - 1) 1 100 (by have := b.2.1; omega) (Nat.le_refl _) (by omega)
  rw [e0] at h9
  exact h9
/-- of a chapter: 0 how many marks, 1 their weight -/
theorem tm_ofChapter (h : sM (Md_all v) L) (b : bL L) (hc : sC (Md_all v) S) (bs : bS S) (h0 : S.getD 0 0 = 0) {k : Nat} (hk : k < S.length) (w : Bool) : f_X4_ofChapter v (nI k) (b2 w) = some (nI (L.map fun m => if chOf S (mPg m) = k then (if w = true then mWt m else 1) else 0).sum) := by
  have hl := b.1
  have hl2 := bs.1
  refine sumL (F := fun n a x => f_X4_ofChapter_L5 v n (nI k) (b2 w) a x) (by omega) ?_ ?_
  · intro n a
    show f_X4_ofChapter_L5 v (n + 1) (nI k) (b2 w) (nI a) (nI L.length) = _
    rw [f_X4_ofChapter_L5, gk_0, ck_0, h.1, if_pos (Int32.le_refl _)]
  · intro n a i m hm
    have hi := lt_get hm
    have hp := (b.2 m (mem_get hm)).2.1
    show f_X4_ofChapter_L5 v (n + 1) (nI k) (b2 w) (nI a) (nI i) = f_X4_ofChapter_L5 v n (nI k) (b2 w) (nI (a + if chOf S (mPg m) = k then (if w = true then mWt m else 1) else 0)) (nI (i + 1))
    rw [f_X4_ofChapter_L5, gk_0, ck_0, h.1, if_neg (nI_ge hi (by omega)), tm_pg h b hm, bd_s, tm_chapterAt hc bs h0 _ hp, bd_s]
    unfold f_X4_ofChapter_B51
    have hch : chOf S (mPg m) < 2 ^ 31 := Nat.lt_of_lt_of_le (chOf_lt _ _ bs.2.1) (by omega)
    by_cases hq : chOf S (mPg m) = k
    · rw [if_pos (by rw [hq]), if_pos hq]
      cases w
      · rw [if_pos b2_f, nI_1, nI_1]
        rfl
      · rw [if_neg (by decide), tm_wt h b hm, bd_s, nI_add, nI_succ]
        rfl
    · rw [if_neg (fun z => hq ((nI_eq hch (by omega)).mp z)), if_neg hq, nI_succ, Int32.add_zero, Nat.add_zero]
theorem tm_weightOfAll (h : sM (Md_all v) L) (b : bL L) : f_X4_weightOfAll v 0 = some (nI (L.map mWt).sum) := by
  have hl := b.1
  refine sumL (F := fun n a x => f_X4_weightOfAll_L4 v n 0 a x) (by omega) ?_ ?_
  · intro n a
    show f_X4_weightOfAll_L4 v (n + 1) 0 (nI a) (nI L.length) = _
    rw [f_X4_weightOfAll_L4, gk_0, ck_0, h.1, if_pos (Int32.le_refl _)]
  · intro n a i m hm
    have hi := lt_get hm
    show f_X4_weightOfAll_L4 v (n + 1) 0 (nI a) (nI i) = f_X4_weightOfAll_L4 v n 0 (nI (a + mWt m)) (nI (i + 1))
    rw [f_X4_weightOfAll_L4, gk_0, ck_0, h.1, if_neg (nI_ge hi (by omega)), if_pos rfl]
    unfold f_X4_weightOfAll_B46 f_X4_weightOfAll_B56
    rw [tm_wt h b hm, bd_s, nI_add, nI_succ]
theorem nI_le0 {q : Nat} (hq : q < 2 ^ 31) : nI q ≤ (0 : Int32) ↔ q = 0 := by
  constructor
  · intro h
    by_cases h0 : q = 0
    · exact h0
    · exact absurd h (nI_nle (by omega) hq)
  · intro h
    rw [h]
    decide
theorem tm_weightOfKind (h : sM (Md_all v) L) (b : bL L) (k : Bool) : f_X4_weightOfAll v (if k = true then 1 else 2) = some (nI (L.map fun m => if decide (mSt m ≠ 0) = k then mWt m else 0).sum) := by
  have hl := b.1
  refine sumL (F := fun n a x => f_X4_weightOfAll_L4 v n (if k = true then 1 else 2) a x) (by omega) ?_ ?_
  · intro n a
    show f_X4_weightOfAll_L4 v (n + 1) (if k = true then 1 else 2) (nI a) (nI L.length) = _
    rw [f_X4_weightOfAll_L4, gk_0, ck_0, h.1, if_pos (Int32.le_refl _)]
  · intro n a i m hm
    have hi := lt_get hm
    have hs := (b.2 m (mem_get hm)).2.2.2.2
    show f_X4_weightOfAll_L4 v (n + 1) (if k = true then 1 else 2) (nI a) (nI i) = f_X4_weightOfAll_L4 v n (if k = true then 1 else 2) (nI (a + if decide (mSt m ≠ 0) = k then mWt m else 0)) (nI (i + 1))
    rw [f_X4_weightOfAll_L4, gk_0, ck_0, h.1, if_neg (nI_ge hi (by omega)), if_neg (by cases k <;> decide), tm_st h b hm, bd_s]
    unfold f_X4_weightOfAll_B33 f_X4_weightOfAll_B43 f_X4_weightOfAll_B46 f_X4_weightOfAll_B56
    by_cases hq : mSt m = 0
    · rw [if_pos ((nI_le0 (by omega)).mpr hq), decide_eq_false (by omega)]
      cases k
      · rw [show (if false = true then (1 : Int32) else 2) = 2 from rfl, if_neg (show ¬ (2 : Int32) = 1 by decide), if_pos (rfl : (0 : Int32) = 0), if_pos (rfl : false = false), tm_wt h b hm, bd_s, nI_add, nI_1]
      · rw [show (if true = true then (1 : Int32) else 2) = 1 from rfl, if_pos (rfl : (1 : Int32) = 1), if_neg (show ¬ (0 : Int32) = 1 by decide), if_neg (show ¬ false = true by decide), Int32.add_zero, Nat.add_zero, nI_1]
    · rw [if_neg (fun z => hq ((nI_le0 (by omega)).mp z)), decide_eq_true hq]
      cases k
      · rw [show (if false = true then (1 : Int32) else 2) = 2 from rfl, if_neg (show ¬ (2 : Int32) = 1 by decide), if_neg (show ¬ (1 : Int32) = 0 by decide), if_neg (show ¬ true = false by decide), Int32.add_zero, Nat.add_zero, nI_1]
      · rw [show (if true = true then (1 : Int32) else 2) = 1 from rfl, if_pos (rfl : (1 : Int32) = 1), if_pos (rfl : (1 : Int32) = 1), if_pos (rfl : true = true), tm_wt h b hm, bd_s, nI_add, nI_1]
/-- in favour, as the model says it -/
def isFavM (S : List Nat) (k : Nat) (m : M5) : Bool := decide (mSt m ≠ 0) && decide (chOf S (mPg m) ≠ k)
theorem tm_favour (h : sM (Md_all v) L) (b : bL L) (hc : sC (Md_all v) S) (bs : bS S) (h0 : S.getD 0 0 = 0) {k : Nat} (hk : k < S.length) : f_X4_favour v (nI k) = some (nI (L.map fun m => if isFavM S k m = true then mWt m else 0).sum) := by
  have hl := b.1
  have hl2 := bs.1
  refine sumL (F := fun n a x => f_X4_favour_L4 v n (nI k) a x) (by omega) ?_ ?_
  · intro n a
    show f_X4_favour_L4 v (n + 1) (nI k) (nI a) (nI L.length) = _
    rw [f_X4_favour_L4, gk_0, ck_0, h.1, if_pos (Int32.le_refl _)]
  · intro n a i m hm
    have hi := lt_get hm
    have hp := (b.2 m (mem_get hm)).2.1
    have hs := (b.2 m (mem_get hm)).2.2.2.2
    show f_X4_favour_L4 v (n + 1) (nI k) (nI a) (nI i) = f_X4_favour_L4 v n (nI k) (nI (a + if isFavM S k m = true then mWt m else 0)) (nI (i + 1))
    rw [f_X4_favour_L4, gk_0, ck_0, h.1, if_neg (nI_ge hi (by omega)), tm_st h b hm, bd_s]
    unfold f_X4_favour_B47 f_X4_favour_B48 isFavM
    have hch : chOf S (mPg m) < 2 ^ 31 := Nat.lt_of_lt_of_le (chOf_lt _ _ bs.2.1) (by omega)
    by_cases hq : mSt m = 0
    · rw [if_pos ((nI_le0 (by omega)).mpr hq), decide_eq_false (by omega), Bool.false_and, if_neg (by decide), Int32.add_zero, Nat.add_zero, nI_succ]
    · rw [if_neg (fun z => hq ((nI_le0 (by omega)).mp z)), decide_eq_true hq, Bool.true_and, tm_pg h b hm, bd_s, tm_chapterAt hc bs h0 _ hp, bd_s]
      by_cases hr : chOf S (mPg m) = k
      · rw [if_pos (by rw [hr]), decide_eq_false (by omega), if_neg (by decide), Int32.add_zero, Nat.add_zero, nI_succ]
      · rw [if_neg (fun z => hr ((nI_eq hch (by omega)).mp z)), decide_eq_true hr, if_pos rfl, tm_wt h b hm, bd_s, nI_add, nI_succ]
end MDQ
