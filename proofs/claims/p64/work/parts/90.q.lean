/-! ===== what the class answers, of marks, chapters and the reader ===== -/
def BK (x : XV) (L : List M5) (S : List Nat) (nid r : Nat) : Prop := hM x.2.1 L ∧ srt L ∧ okL nid L ∧ hC x.2.1 S ∧ okS S ∧ (r < 60 ∧ Bk_reader x.2.1 = nI r) ∧ ∃ N, N < 2 ^ 28 ∧ VC N x.2.1
theorem RX.bk {N : Nat} {x : XV} {m : MdV} (h : RX N x m) (hN : N < 2 ^ 28) : ∃ (L : List M5) (S : List Nat) (nid r : Nat), BK x L S nid r := by
  obtain ⟨L, L', S, r, nid, h1, -, -, h4, h5, h6, -, h8, ⟨r1, r2, -⟩, -, -, -, -, hv⟩ := h.1
  exact ⟨L, S, nid, r, h1, h4, h5, h6, h8, ⟨r1, r2⟩, N, hN, hv⟩
theorem BK.xS {x : XV} {L : List M5} {S : List Nat} {nid r : Nat} (h : BK x L S nid r) (sb : SbV) : BK (xS x sb) L S nid r := h
section BKQ
variable {x : XV} {L : List M5} {S : List Nat} {nid r : Nat}
theorem BK.len (h : BK x L S nid r) : L.length ≤ 12 := h.2.2.1.1
theorem BK.chs (h : BK x L S nid r) : 1 ≤ S.length ∧ S.length ≤ 8 := ⟨h.2.2.2.2.1.1.2.1, h.2.2.2.2.1.1.1⟩
theorem BK.mk (h : BK x L S nid r) {z : M5} (hz : z ∈ L) : mId z < 2 ^ 29 ∧ mPg z < 60 ∧ (1 ≤ mWt z ∧ mWt z ≤ 9) ∧ mWr z ≤ 2 ∧ mSt z ≤ 5 ∧ (mSt z ≠ 0 → mWr z = 0) := by
  obtain ⟨h1, h2, h3, h4, h5, h6⟩ := h.2.2.1.2.2.1 z hz
  have := h.2.2.1.2.1
  exact ⟨by omega, h2, h3, h4, h5, h6⟩
theorem r_mark (h : BK x L S nid r) {z : M5} (hz : z ∈ L) : ∃ i, L[i]? = some z ∧ i < 12 ∧ f_X3_requireMark x (nI (mId z)) = some (.inl (nI i, x)) := by
  obtain ⟨i, hi, e⟩ := slot_id h.1 h.2.2.1 hz rfl
  have hl := lt_get hi
  have := h.len
  refine ⟨i, hi, by omega, ?_⟩
  rw [x_reqMark e, if_neg (nI_m1 (by omega))]
theorem q_count (h : BK x L S nid r) : f_X3_markCount x = some (nI L.length) := congrArg some h.1.1
theorem q_chapters (h : BK x L S nid r) : f_X3_chapterCount x = some (nI S.length) := congrArg some h.2.2.2.1.1
theorem q_page (h : BK x L S nid r) : f_X3_currentPage x = some (nI r) := congrArg some h.2.2.2.2.2.1.2
theorem q_found (h : BK x L S nid r) {i : Nat} {z : M5} (hi : L[i]? = some z) : f_X3_idOfFound x (nI i) = some (.inl (nI (mId z), x)) := by
  have hl := lt_get hi
  have := h.len
  unfold f_X3_idOfFound
  rw [if_neg (nI_m1 (by omega)), gd_n (by omega) (by decide), cl_n (by omega), (h.1.2 i z hi).1]
theorem q_foundX : f_X3_idOfFound x (-1) = some (.inr (NSE, x)) := by
  unfold f_X3_idOfFound
  rw [if_pos rfl]
  rfl
theorem q_byPage (h : BK x L S nid r) {k : Nat} {z : M5} (hk : L[k]? = some z) : f_X3_markByPage x (nI k) = some (.inl (nI (mId z), x)) := by
  have hl := lt_get hk
  have := h.len
  unfold f_X3_markByPage f_X3_markByPage_B21
  rw [if_neg (nI_pos (by omega)), h.1.1, if_neg (fun e => by rw [nI_leI (by omega) (by omega)] at e; omega), q_found h hk, bd_s, bx_inl]
theorem q_byPageX (h : BK x L S nid r) : f_X3_markByPage x (nI L.length) = some (.inr (NSE, x)) := by
  have := h.len
  unfold f_X3_markByPage f_X3_markByPage_B20 f_X3_markByPage_B21
  rw [if_neg (nI_pos (by omega)), h.1.1, if_pos (Int32.le_refl _), q_foundX, bd_s, bx_inr]
theorem q_pageOf (h : BK x L S nid r) {z : M5} (hz : z ∈ L) : f_X3_pageOf x (nI (mId z)) = some (.inl (nI (mPg z), x)) := by
  obtain ⟨i, hi, hl, e⟩ := r_mark h hz
  unfold f_X3_pageOf
  rw [e, bd_s, bx_inl, gd_n hl (by decide), cl_n (by omega)]
  exact congrArg some (congrArg Sum.inl (Prod.ext (h.1.2 i z hi).2.1 rfl))
theorem q_weightOf (h : BK x L S nid r) {z : M5} (hz : z ∈ L) : f_X3_weightOf x (nI (mId z)) = some (.inl (nI (mWt z), x)) := by
  obtain ⟨i, hi, hl, e⟩ := r_mark h hz
  unfold f_X3_weightOf
  rw [e, bd_s, bx_inl, gd_n hl (by decide), cl_n (by omega)]
  exact congrArg some (congrArg Sum.inl (Prod.ext (h.1.2 i z hi).2.2.1 rfl))
theorem q_wearOf (h : BK x L S nid r) {z : M5} (hz : z ∈ L) : f_X3_wearOf x (nI (mId z)) = some (.inl (nI (mWr z), x)) := by
  obtain ⟨i, hi, hl, e⟩ := r_mark h hz
  unfold f_X3_wearOf
  rw [e, bd_s, bx_inl, gd_n hl (by decide), cl_n (by omega)]
  exact congrArg some (congrArg Sum.inl (Prod.ext (h.1.2 i z hi).2.2.2.1 rfl))
theorem q_isRibbon (h : BK x L S nid r) {z : M5} (hz : z ∈ L) : f_X3_isRibbon x (nI (mId z)) = some (.inl (b2 (decide (mSt z ≠ 0)), x)) := by
  obtain ⟨i, hi, hl, e⟩ := r_mark h hz
  unfold f_X3_isRibbon
  rw [e, bd_s, bx_inl]
  show bd (f_X0_hasSeat x.2.1 (nI i)) _ = _
  rw [s_hasSeat h.1 h.2.2.1.bL hi, bd_s, gd_z]
theorem q_seatOf1 (h : BK x L S nid r) {z : M5} (hz : z ∈ L) (hs : mSt z ≠ 0) : f_X3_seatOf x (nI (mId z)) = some (.inl (nI (mSt z - 1), x)) := by
  obtain ⟨i, hi, hl, e⟩ := r_mark h hz
  unfold f_X3_seatOf
  rw [e, bd_s, bx_inl]
  show bd (f_X0_hasSeat x.2.1 (nI i)) _ = _
  rw [s_hasSeat h.1 h.2.2.1.bL hi, bd_s, decide_eq_true hs, if_neg (by decide), gd_n hl (by decide), cl_n (by omega)]
  refine congrArg some (congrArg Sum.inl (Prod.ext ?_ rfl))
  show Bk_seats x.2.1 i = _
  rw [(h.1.2 i z hi).2.2.2.2]
  obtain ⟨j, hj⟩ : ∃ j, mSt z = j + 1 := ⟨mSt z - 1, by omega⟩
  rw [hj, nI_dn]
  rfl
theorem q_seatOf0 (h : BK x L S nid r) {z : M5} (hz : z ∈ L) (hs : mSt z = 0) : f_X3_seatOf x (nI (mId z)) = some (.inr (NSE, x)) := by
  obtain ⟨i, hi, hl, e⟩ := r_mark h hz
  unfold f_X3_seatOf
  rw [e, bd_s, bx_inl]
  show bd (f_X0_hasSeat x.2.1 (nI i)) _ = _
  rw [s_hasSeat h.1 h.2.2.1.bL hi, bd_s, decide_eq_false (fun q => q hs), if_pos b2_f]
  rfl
theorem q_ribbonIn1 (h : BK x L S nid r) {z : M5} (hz : z ∈ L) {j : Nat} (hj : j < 5) (hs : mSt z = j + 1) : f_X3_ribbonIn x (nI j) = some (.inl (nI (mId z), x)) := by
  obtain ⟨s, e, hf⟩ := s_slotInSeat h.1 h.2.2.1.bL (nI j)
  unfold f_X3_ribbonIn
  rw [if_neg (nI_pos (by omega)), if_pos (show nI j < (5 : Int32) from nI_lt (b := 5) hj (by decide)), e, bd_s]
  rcases hf with ⟨i, y, hi, hy, -, rfl⟩ | ⟨-, hno⟩
  · have hl := lt_get hi
    have hy5 := (h.mk (mem_get hi)).2.2.2.2.1
    have ey : mSt y = j + 1 := (seat_st hy5 hj).1.mp hy
    have ez : y = z := st_one h.2.2.1 (mem_get hi) hz (by omega) (by omega)
    rw [q_found h hi, bd_s, bx_inl, ez]
  · exact absurd ((seat_st (h.mk hz).2.2.2.2.1 hj).1.mpr hs) (hno z hz)
theorem q_ribbonIn0 (h : BK x L S nid r) {j : Nat} (hj : j < 5) (hs : ∀ z ∈ L, mSt z ≠ j + 1) : f_X3_ribbonIn x (nI j) = some (.inr (NSE, x)) := by
  obtain ⟨s, e, hf⟩ := s_slotInSeat h.1 h.2.2.1.bL (nI j)
  unfold f_X3_ribbonIn
  rw [if_neg (nI_pos (by omega)), if_pos (show nI j < (5 : Int32) from nI_lt (b := 5) hj (by decide)), e, bd_s]
  rcases hf with ⟨i, y, hi, hy, -, rfl⟩ | ⟨rfl, -⟩
  · exact absurd ((seat_st (h.mk (mem_get hi)).2.2.2.2.1 hj).1.mp hy) (hs y (mem_get hi))
  · rw [q_foundX, bd_s, bx_inr]
theorem x_page {p : Nat} (hp : p < 60) : f_X3_requirePage x (nI p) = some (.inl (0, x)) := by
  rw [x_reqPage, if_pos (page_in hp)]
theorem q_on1 (h : BK x L S nid r) {z : M5} (hz : z ∈ L) : ∃ i, L[i]? = some z ∧ f_X0_slotOnPage x.2.1 (nI (mPg z)) = some (nI i) := by
  obtain ⟨s, e, hf⟩ := s_slotOnPage h.1 h.2.2.1.bL (nI (mPg z))
  have hp := (h.mk hz).2.1
  rcases hf with ⟨i, y, hi, hy, -, rfl⟩ | ⟨-, hno⟩
  · have hp2 := (h.mk (mem_get hi)).2.1
    have ez : y = z := pg_one h.2.2.1 (mem_get hi) hz ((nI_eq (by omega) (by omega)).mp hy)
    exact ⟨i, by rw [← ez]; exact hi, e⟩
  · exact absurd rfl (hno z hz)
theorem q_on0 (h : BK x L S nid r) {p : Nat} (hp : p < 60) (hno : ∀ z ∈ L, mPg z ≠ p) : f_X0_slotOnPage x.2.1 (nI p) = some (-1) := slot_off h.1 h.2.2.1 hp hno
theorem q_isHeld1 (h : BK x L S nid r) {z : M5} (hz : z ∈ L) : f_X3_isHeld x (nI (mPg z)) = some (.inl (1, x)) := by
  obtain ⟨i, hi, e⟩ := q_on1 h hz
  have hl := lt_get hi
  have := h.len
  unfold f_X3_isHeld f_X3_isHeld_B22
  rw [x_page (h.mk hz).2.1, bd_s, bx_inl]
  show bd (f_X0_slotOnPage x.2.1 (nI (mPg z))) _ = _
  rw [e, bd_s, if_neg (nI_m1 (by omega)), gd_z1]
theorem q_isHeld0 (h : BK x L S nid r) {p : Nat} (hp : p < 60) (hno : ∀ z ∈ L, mPg z ≠ p) : f_X3_isHeld x (nI p) = some (.inl (0, x)) := by
  unfold f_X3_isHeld f_X3_isHeld_B22
  rw [x_page hp, bd_s, bx_inl]
  show bd (f_X0_slotOnPage x.2.1 (nI p)) _ = _
  rw [q_on0 h hp hno, bd_s, if_pos rfl, gd_z0]
theorem q_markOn1 (h : BK x L S nid r) {z : M5} (hz : z ∈ L) : f_X3_markOn x (nI (mPg z)) = some (.inl (nI (mId z), x)) := by
  obtain ⟨i, hi, e⟩ := q_on1 h hz
  unfold f_X3_markOn
  rw [x_page (h.mk hz).2.1, bd_s, bx_inl]
  show bd (f_X0_slotOnPage x.2.1 (nI (mPg z))) _ = _
  rw [e, bd_s, q_found h hi, bd_s, bx_inl]
theorem q_markOn0 (h : BK x L S nid r) {p : Nat} (hp : p < 60) (hno : ∀ z ∈ L, mPg z ≠ p) : f_X3_markOn x (nI p) = some (.inr (NSE, x)) := by
  unfold f_X3_markOn
  rw [x_page hp, bd_s, bx_inl]
  show bd (f_X0_slotOnPage x.2.1 (nI p)) _ = _
  rw [q_on0 h hp hno, bd_s, q_foundX, bd_s, bx_inr]
/-- y is the nearest of L on that side of p -/
theorem nrs_eq (h : BK x L S nid r) {side p : Nat} {y z : M5} (hy : nrs L side p y) (hz : nrs L side p z) : y = z := nrs_one h.2.2.1 (List.Perm.refl _) hy hz
theorem q_next1 (h : BK x L S nid r) {p : Nat} (hp : p < 60) {z : M5} (hz : nrs L 0 p z) : f_X3_nextMark x (nI p) = some (.inl (nI (mId z), x)) := by
  obtain ⟨s, e, hf⟩ := s_from h.1 h.2.1 h.2.2.1 (p := p) (by omega)
  unfold f_X3_nextMark
  rw [x_page hp, bd_s, bx_inl]
  show bd (f_X0_slotFrom x.2.1 (nI p)) _ = _
  rw [e, bd_s]
  rcases hf with ⟨-, hno⟩ | ⟨i, y, hi, rfl, hy⟩
  · exact absurd hz.2.1 (hno z hz.1)
  · rw [q_found h hi, bd_s, bx_inl, nrs_eq h hy hz]
theorem q_next0 (h : BK x L S nid r) {p : Nat} (hp : p < 60) (hno : ∀ y ∈ L, ¬ okSd 0 p (mPg y)) : f_X3_nextMark x (nI p) = some (.inr (NSE, x)) := by
  obtain ⟨s, e, hf⟩ := s_from h.1 h.2.1 h.2.2.1 (p := p) (by omega)
  unfold f_X3_nextMark
  rw [x_page hp, bd_s, bx_inl]
  show bd (f_X0_slotFrom x.2.1 (nI p)) _ = _
  rw [e, bd_s]
  rcases hf with ⟨rfl, -⟩ | ⟨i, y, hi, rfl, hy⟩
  · rw [q_foundX, bd_s, bx_inr]
  · exact absurd hy.2.1 (hno y hy.1)
theorem q_prev1 (h : BK x L S nid r) {p : Nat} (hp : p < 60) {z : M5} (hz : nrs L 1 p z) : f_X3_previousMark x (nI p) = some (.inl (nI (mId z), x)) := by
  obtain ⟨s, e, hf⟩ := s_upTo h.1 h.2.1 h.2.2.1 hp
  unfold f_X3_previousMark
  rw [x_page hp, bd_s, bx_inl]
  show bd (f_X0_slotUpTo x.2.1 (nI p)) _ = _
  rw [e, bd_s]
  rcases hf with ⟨-, hno⟩ | ⟨i, y, hi, rfl, hy⟩
  · exact absurd hz.2.1 (hno z hz.1)
  · rw [q_found h hi, bd_s, bx_inl, nrs_eq h hy hz]
theorem q_prev0 (h : BK x L S nid r) {p : Nat} (hp : p < 60) (hno : ∀ y ∈ L, ¬ okSd 1 p (mPg y)) : f_X3_previousMark x (nI p) = some (.inr (NSE, x)) := by
  obtain ⟨s, e, hf⟩ := s_upTo h.1 h.2.1 h.2.2.1 hp
  unfold f_X3_previousMark
  rw [x_page hp, bd_s, bx_inl]
  show bd (f_X0_slotUpTo x.2.1 (nI p)) _ = _
  rw [e, bd_s]
  rcases hf with ⟨rfl, -⟩ | ⟨i, y, hi, rfl, hy⟩
  · rw [q_foundX, bd_s, bx_inr]
  · exact absurd hy.2.1 (hno y hy.1)
theorem q_near1 (h : BK x L S nid r) {p : Nat} (hp : p < 60) {z : M5} (hz : nrs L 2 p z) : f_X3_nearestMark x (nI p) = some (.inl (nI (mId z), x)) := by
  obtain ⟨s, e, hf⟩ := s_nearest h.1 h.2.1 h.2.2.1 hp
  unfold f_X3_nearestMark
  rw [x_page hp, bd_s, bx_inl]
  show bd (f_X0_slotNearest x.2.1 (nI p)) _ = _
  rw [e, bd_s]
  rcases hf with ⟨-, hno⟩ | ⟨i, y, hi, rfl, hy⟩
  · exact absurd hz.2.1 (hno z hz.1)
  · rw [q_found h hi, bd_s, bx_inl, nrs_eq h hy hz]
theorem q_near0 (h : BK x L S nid r) {p : Nat} (hp : p < 60) (hno : ∀ y ∈ L, ¬ okSd 2 p (mPg y)) : f_X3_nearestMark x (nI p) = some (.inr (NSE, x)) := by
  obtain ⟨s, e, hf⟩ := s_nearest h.1 h.2.1 h.2.2.1 hp
  unfold f_X3_nearestMark
  rw [x_page hp, bd_s, bx_inl]
  show bd (f_X0_slotNearest x.2.1 (nI p)) _ = _
  rw [e, bd_s]
  rcases hf with ⟨rfl, -⟩ | ⟨i, y, hi, rfl, hy⟩
  · rw [q_foundX, bd_s, bx_inr]
  · exact absurd hy.2.1 (hno y hy.1)
theorem q_chapterOf (h : BK x L S nid r) {p : Nat} (hp : p < 60) : f_X3_chapterOf x (nI p) = some (.inl (nI (chOf S p), x)) := by
  unfold f_X3_chapterOf
  rw [x_page hp, bd_s, bx_inl]
  show bd (f_X0_chapterWith x.2.1 (nI p)) _ = _
  rw [s_chapterWith h.2.2.2.1 h.2.2.2.2.1.1 p hp, bd_s]
theorem x_chap (h : BK x L S nid r) {k : Nat} (hk : k < S.length) : f_X3_requireChapter x (nI k) = some (.inl (0, x)) := by
  have := h.chs.2
  rw [x_reqChapter, if_pos ⟨nI_pos' (by omega), by rw [h.2.2.2.1.1]; exact nI_lt hk (by omega)⟩]
theorem q_first (h : BK x L S nid r) {k : Nat} (hk : k < S.length) : f_X3_firstPage x (nI k) = some (.inl (nI (S.getD k 0), x)) := by
  have := h.chs.2
  unfold f_X3_firstPage
  rw [x_chap h hk, bd_s, bx_inl, gd_n (by omega) (by decide), cl_n (by omega)]
  exact congrArg some (congrArg Sum.inl (Prod.ext (h.2.2.2.1.2 k _ (get_getD hk)) rfl))
theorem q_last (h : BK x L S nid r) {k : Nat} (hk : k < S.length) : f_X3_lastPage x (nI k) = some (.inl (nI (endCh S k - 1), x)) := by
  unfold f_X3_lastPage
  rw [x_chap h hk, bd_s, bx_inl]
  show bd (f_X0_endOf x.2.1 (nI k)) _ = _
  rw [s_endOf2 h.2.2.2.1 h.2.2.2.2.1 hk, bd_s]
def cIn (L : List M5) (S : List Nat) (k : Nat) : Nat := (L.map fun m => if inCh S k (mPg m) = true then 1 else 0).sum
theorem q_held (h : BK x L S nid r) {k : Nat} (hk : k < S.length) : f_X3_heldPages x (nI k) = some (.inl (nI (cIn L S k), x)) := by
  unfold f_X3_heldPages
  rw [x_chap h hk, bd_s, bx_inl]
  show bd (f_X0_heldPageByPage x.2.1 (nI k)) _ = _
  rw [s_heldPageByPage h.1 h.2.2.1 h.2.2.2.1 h.2.2.2.2.1 hk, bd_s]
  rfl
theorem q_heldM (h : BK x L S nid r) {k : Nat} (hk : k < S.length) : f_X3_heldPagesByMarks x (nI k) = some (.inl (nI (cIn L S k), x)) := by
  unfold f_X3_heldPagesByMarks
  rw [x_chap h hk, bd_s, bx_inl]
  show bd (f_X0_heldMarkByMark x.2.1 (nI k)) _ = _
  rw [s_heldMarkByMark h.1 h.2.2.1.bL h.2.2.2.1 h.2.2.2.2.1.1 hk, bd_s]
  rfl
theorem q_chW (h : BK x L S nid r) {k : Nat} (hk : k < S.length) : f_X3_chapterWeight x (nI k) = some (.inl (nI (wIn L S k), x)) := by
  unfold f_X3_chapterWeight
  rw [x_chap h hk, bd_s, bx_inl]
  show bd (f_X0_weightIn x.2.1 (nI k)) _ = _
  rw [s_weightIn h.1 h.2.2.1.bL h.2.2.2.1 h.2.2.2.2.1.1 hk, bd_s]
  rfl
theorem q_fav (h : BK x L S nid r) {k : Nat} (hk : k < S.length) : f_X3_weightInFavour x (nI k) = some (.inl (nI (wFav L S k), x)) := by
  unfold f_X3_weightInFavour
  rw [x_chap h hk, bd_s, bx_inl]
  show bd (f_X0_favour x.2.1 (nI k)) _ = _
  rw [s_favour h.1 h.2.2.1.bL h.2.2.2.1 h.2.2.2.2.1.1 hk, bd_s]
  rfl
theorem q_agn (h : BK x L S nid r) {k : Nat} (hk : k < S.length) : f_X3_weightAgainst x (nI k) = some (.inl (nI (wAgn L S k), x)) := by
  unfold f_X3_weightAgainst
  rw [x_chap h hk, bd_s, bx_inl]
  show bd (f_X0_against x.2.1 (nI k)) _ = _
  rw [s_against h.1 h.2.2.1.bL h.2.2.2.1 h.2.2.2.2.1.1 hk, bd_s]
  rfl
theorem q_agnT (h : BK x L S nid r) {k : Nat} (hk : k < S.length) : f_X3_weightAgainstByTotal x (nI k) = some (.inl (nI (wAgn L S k), x)) := by
  unfold f_X3_weightAgainstByTotal
  rw [x_chap h hk, bd_s, bx_inl]
  show bd (f_X0_againstByTotal x.2.1 (nI k)) _ = _
  rw [s_againstByTotal h.1 h.2.2.1.bL h.2.2.2.1 h.2.2.2.2.1.1 hk, bd_s]
theorem q_diss (h : BK x L S nid r) {k : Nat} (hk : k < S.length) : f_X3_wouldDissolve x (nI k) = some (.inl (b2 (decide (wAgn L S k < wFav L S k)), x)) := by
  unfold f_X3_wouldDissolve
  rw [x_chap h hk, bd_s, bx_inl]
  show bd (f_X0_wouldCarry x.2.1 (nI k)) _ = _
  rw [s_wouldCarry h.1 h.2.2.1.bL h.2.2.2.1 h.2.2.2.2.1.1 hk, bd_s, gd_z]
theorem q_heavy (h : BK x L S nid r) : f_X3_heaviestChapter x = some (nI (hvy (wIn L S) S.length)) := by
  unfold f_X3_heaviestChapter
  rw [s_heaviest h.1 h.2.2.1 h.2.2.2.1 h.2.2.2.2.1, bd_s]
theorem q_toNext1 (h : BK x L S nid r) {z : M5} (hz : nrs L 0 (r + 1) z) : f_X3_pagesToNextMark x = some (.inl (nI (mPg z - r), x)) := by
  have hr := h.2.2.2.2.2.1
  obtain ⟨s, e, hf⟩ := s_from h.1 h.2.1 h.2.2.1 (p := r + 1) (by omega)
  unfold f_X3_pagesToNextMark
  rw [hr.2, nI_1, e, bd_s]
  rcases hf with ⟨-, hno⟩ | ⟨i, y, hi, rfl, hy⟩
  · exact absurd hz.2.1 (hno z hz.1)
  · have hl := lt_get hi
    have := h.len
    have ey := nrs_eq h hy hz
    have hp : r + 1 ≤ mPg z := hz.2.1.1 rfl
    rw [if_neg (nI_m1 (by omega)), gd_n (by omega) (by decide), cl_n (by omega), (h.1.2 i y hi).2.1, ey, pk_sub (by omega)]
theorem q_toNext0 (h : BK x L S nid r) (hno : ∀ y ∈ L, ¬ okSd 0 (r + 1) (mPg y)) : f_X3_pagesToNextMark x = some (.inr (NSE, x)) := by
  have hr := h.2.2.2.2.2.1
  obtain ⟨s, e, hf⟩ := s_from h.1 h.2.1 h.2.2.1 (p := r + 1) (by omega)
  unfold f_X3_pagesToNextMark
  rw [hr.2, nI_1, e, bd_s]
  rcases hf with ⟨rfl, -⟩ | ⟨i, y, hi, rfl, hy⟩
  · rw [if_pos rfl]
    rfl
  · exact absurd hy.2.1 (hno y hy.1)
def rsk (L : List M5) (r cnt : Nat) (fwd : Bool) : Nat := (L.map fun m => if onWay r cnt fwd m = true ∧ 2 ≤ mWr m then 1 else 0).sum
theorem q_risk (h : BK x L S nid r) {cnt : Nat} (h1 : 1 ≤ cnt) (h2 : cnt ≤ 20) (fwd : Bool) : f_X3_earsAtRisk x (nI cnt) (b2 fwd) = some (.inl (nI (rsk L r cnt fwd), x)) := by
  unfold f_X3_earsAtRisk
  rw [x_reqCount, if_pos ⟨nI_le (a := 1) h1 (by omega), nI_le (b := 20) h2 (by decide)⟩, bd_s, bx_inl]
  show bd (f_X0_earsAboutToFall x.2.1 (nI cnt) (b2 fwd)) _ = _
  rw [s_earsAboutToFall h.1 h.2.2.1.bL h.2.2.2.2.2.1.2 h.2.2.2.2.2.1.1 h2 fwd, bd_s]
  rfl
theorem q_byWeight (h : BK x L S nid r) {z : M5} (hz : z ∈ L) : f_X3_markByWeight x (nI (rnk L z)) = some (.inl (nI (mId z), x)) := by
  obtain ⟨s, e, hf⟩ := s_slotOfRank h.1 h.2.2.1.bL (nI (rnk L z))
  have hb : ∀ y : M5, rnk L y ≤ 12 := fun y => by
    have := sum_le L (fun w => if ahd w y = true then 1 else 0) 1 (fun w _ => by show (if ahd w y = true then 1 else 0) ≤ 1; split <;> omega)
    have := h.len
    unfold rnk
    omega
  have hbz := hb z
  unfold f_X3_markByWeight
  rw [e, bd_s]
  rcases hf with ⟨i, y, hi, hy, -, rfl⟩ | ⟨-, hno⟩
  · have hby := hb y
    have ez : y = z := rnk_one h.2.2.1 (mem_get hi) hz ((nI_eq (by omega) (by omega)).mp hy)
    rw [q_found h hi, bd_s, bx_inl, ez]
  · exact absurd rfl (hno z hz)
theorem q_byWeightX (h : BK x L S nid r) {k : Nat} (hk : k < 2 ^ 20) (hno : ∀ z ∈ L, rnk L z ≠ k) : f_X3_markByWeight x (nI k) = some (.inr (NSE, x)) := by
  obtain ⟨s, e, hf⟩ := s_slotOfRank h.1 h.2.2.1.bL (nI k)
  unfold f_X3_markByWeight
  rw [e, bd_s]
  rcases hf with ⟨i, y, hi, hy, -, rfl⟩ | ⟨rfl, -⟩
  · have := sum_le L (fun w => if ahd w y = true then 1 else 0) 1 (fun w _ => by show (if ahd w y = true then 1 else 0) ≤ 1; split <;> omega)
    have h12 := h.len
    have hb : rnk L y ≤ 12 := by unfold rnk; omega
    exact absurd ((nI_eq (by omega) (by omega)).mp hy) (hno y (mem_get hi))
  · rw [q_foundX, bd_s, bx_inr]
def spn (L : List M5) : Nat := if 2 ≤ L.length then mPg (L.getD (L.length - 1) (0, 0, 0, 0, 0)) - mPg (L.getD 0 (0, 0, 0, 0, 0)) else 0
theorem spn_nI (h : BK x L S nid r) : (if 2 ≤ L.length then nI (mPg (L.getD (L.length - 1) (0, 0, 0, 0, 0))) - nI (mPg (L.getD 0 (0, 0, 0, 0, 0))) else 0) = nI (spn L) := by
  unfold spn
  by_cases e : 2 ≤ L.length
  · have g : ∀ k, k < L.length → L[k]? = some (L.getD k (0, 0, 0, 0, 0)) := fun k hk => by
      rw [List.getD_eq_getElem?_getD, List.getElem?_eq_getElem hk]
      rfl
    have := srt_lt h.2.1 (g 0 (by omega)) (g (L.length - 1) (by omega)) (by omega)
    rw [if_pos e, if_pos e, pk_sub (by omega)]
  · rw [if_neg e, if_neg e]
    rfl
theorem q_span (h : BK x L S nid r) : f_X3_span x = some (nI (spn L)) := by
  unfold f_X3_span
  rw [s_spanStep h.1 h.2.2.1.bL h.2.1, bd_s, spn_nI h]
theorem q_spanE (h : BK x L S nid r) : f_X3_spanByEnds x = some (nI (spn L)) := by
  unfold f_X3_spanByEnds
  rw [s_spanEnd h.1 h.2.2.1.bL, bd_s, spn_nI h]
def nRib (L : List M5) : Nat := (L.map fun m => if mSt m ≠ 0 then 1 else 0).sum
def wRib (L : List M5) : Nat := (L.map fun m => if mSt m ≠ 0 then mWt m else 0).sum
def wEar (L : List M5) : Nat := (L.map fun m => if mSt m ≠ 0 then 0 else mWt m).sum
theorem q_ribbons (h : BK x L S nid r) : f_X3_ribbonCount x = some (nI (nRib L)) := by
  unfold f_X3_ribbonCount
  rw [s_ribbons h.1 h.2.2.1.bL, bd_s]
  rfl
theorem q_ribW (h : BK x L S nid r) : f_X3_ribbonWeight x = some (nI (wRib L)) := by
  unfold f_X3_ribbonWeight
  rw [show (1 : Int32) = b2 true from rfl, s_weightOfKind h.1 h.2.2.1.bL true, bd_s]
  refine congrArg some (congrArg nI (sum_congr fun m _ => ?_))
  by_cases e : mSt m ≠ 0
  · rw [if_pos e, if_pos (decide_eq_true e)]
  · rw [if_neg e, if_neg (by rw [decide_eq_false e]; exact Bool.false_ne_true)]
theorem q_earW (h : BK x L S nid r) : f_X3_dogEarWeight x = some (nI (wEar L)) := by
  unfold f_X3_dogEarWeight
  rw [show (0 : Int32) = b2 false from rfl, s_weightOfKind h.1 h.2.2.1.bL false, bd_s]
  refine congrArg some (congrArg nI (sum_congr fun m _ => ?_))
  by_cases e : mSt m ≠ 0
  · rw [if_pos e, if_neg (by rw [decide_eq_true e]; exact Bool.noConfusion)]
  · rw [if_neg e, if_pos (decide_eq_false e)]
theorem q_consistent (h : BK x L S nid r) : f_X3_isConsistent x = some 1 := by
  unfold f_X3_isConsistent
  rw [s_waysAgree h.1 h.2.2.1 h.2.2.2.1 h.2.2.2.2.1, bd_s, if_neg (by decide), s_spanStep h.1 h.2.2.1.bL h.2.1, bd_s, s_spanEnd h.1 h.2.2.1.bL, bd_s, if_pos rfl, s_pagesDiffer h.1 h.2.2.1, bd_s, if_neg (by decide), s_seatsDiffer h.1 h.2.2.1, bd_s, if_neg (by decide)]
  unfold f_X3_isConsistent_B52
  rw [gd_z1]
theorem q_votes (h : BK x L S nid r) : ∃ c t, f_X3_motionsCarried x = some (nI c) ∧ f_X3_votesHeld x = some (nI t) ∧ c ≤ t ∧ t < 2 ^ 28 := by
  obtain ⟨N, hN, c, t, h1, h2, h3, h4⟩ := h.2.2.2.2.2.2
  exact ⟨c, t, congrArg some h1, congrArg some h2, h3, by omega⟩
end BKQ
