/-! ===== questions agree ===== -/
def RBx (N : Nat) (v : BkV) (a : Nat → Int32) (L L' : List M5) (S : List Nat) (r nid : Nat) : Prop :=
  hM v L ∧ sM a L' ∧ L.Perm L' ∧ srt L ∧ okL nid L ∧ hC v S ∧ sC a S ∧ okS S ∧ (r < 60 ∧ Bk_reader v = nI r ∧ a 3 = nI r) ∧ (Bk_nextId v = nI nid ∧ a 1 = nI nid ∧ nid ≤ N) ∧ Bk_votes v = a 4 ∧ Bk_carried v = a 5 ∧ Bk_fallen v = a 6 ∧ VC N v
section QRY
variable {N : Nat} {x : XV} {m : MdV}
abbrev G9 : Type := Option ((Int32 × XV) ⊕ (String × XV))
theorem in_rng {a : Int32} {n : Nat} (hn : n < 2 ^ 31) (h : 0 ≤ a ∧ a < nI n) : ∃ k, k < n ∧ a = nI k := by
  obtain ⟨k, hk, rfl⟩ := nI_of (x := a) (Int32.not_lt.mpr h.1)
  exact ⟨k, (nI_ltI hk hn).mp h.2, rfl⟩
theorem chq (h : RX N x m) (a : Int32) {G : XV → G9} {F : MdV → Option (Int32 × MdV)} (hq : ∀ L L' S r nid k, RBx N x.2.1 (Md_all m) L L' S r nid → k < S.length → a = nI k → ∃ q, G x = some (.inl (q, x)) ∧ F (mTh m 0) = some (q, mTh m 0)) :
    Ag [IOOBE] N (bd (f_X3_requireChapter x a) (fun r1 => bx r1 (fun r1 => G r1.2) (fun r1 => some (.inr r1)))) (bd (f_X4_isChapter m a) (fun r1 => bd (f_X4_isFine m r1) (fun r3 => if r3.1 = 0 then some ((0 : Int32), r3.2) else F r3.2))) := by
  obtain ⟨L, L', S, r, nid, hb⟩ := h.1
  have hb' : RBx N x.2.1 (Md_all m) L L' S r nid := hb
  obtain ⟨h1, h2, h3, h4, h5, h6, h7, h8, -⟩ := hb
  have hl := h8.1.1
  rw [x_reqChapter, bd_s, tm_isChapter h7 h8.1, bd_s, tm_isFine, bd_s, h6.1]
  by_cases hp : 0 ≤ a ∧ a < nI S.length
  · obtain ⟨k, hk, e⟩ := in_rng (by omega) hp
    obtain ⟨q, g1, g2⟩ := hq L L' S r nid k hb' hk e
    rw [if_pos hp, bx_inl, decide_eq_true hp]
    refine Ag.ret (r := q) (m' := mTh m 0) g1 ?_ rfl (h.th 0)
    show (if b2 true = 0 then _ else F (mTh m (if true = true then 0 else 1))) = _
    rw [if_neg (by decide), if_pos rfl]
    exact g2
  · rw [if_neg hp, bx_inr, decide_eq_false hp]
    exact Ag.thr (r := 0) (m' := mTh m 1) 0 rfl rfl rfl rfl (h.th 1)
theorem pgq (h : RX N x m) (a : Int32) {G : XV → G9} {F : MdV → Option (Int32 × MdV)} (hq : ∀ L L' S r nid p, RBx N x.2.1 (Md_all m) L L' S r nid → p < 60 → a = nI p → ∃ q, G x = some (.inl (q, x)) ∧ F (mTh m 0) = some (q, mTh m 0)) :
    Ag [IOOBE] N (bd (f_X3_requirePage x a) (fun r1 => bx r1 (fun r1 => G r1.2) (fun r1 => some (.inr r1)))) (bd (f_X4_isPage a) (fun r1 => bd (f_X4_isFine m r1) (fun r3 => if r3.1 = 0 then some ((0 : Int32), r3.2) else F r3.2))) := by
  obtain ⟨L, L', S, r, nid, hb⟩ := h.1
  rw [x_reqPage, bd_s, tm_isPage, bd_s, tm_isFine, bd_s]
  by_cases hp : 0 ≤ a ∧ a < 60
  · obtain ⟨p, hp6, e⟩ := in_page hp
    obtain ⟨q, g1, g2⟩ := hq L L' S r nid p hb hp6 e
    rw [if_pos hp, bx_inl, decide_eq_true hp]
    refine Ag.ret (r := q) (m' := mTh m 0) g1 ?_ rfl (h.th 0)
    show (if b2 true = 0 then _ else F (mTh m (if true = true then 0 else 1))) = _
    rw [if_neg (by decide), if_pos rfl]
    exact g2
  · rw [if_neg hp, bx_inr, decide_eq_false hp]
    exact Ag.thr (r := 0) (m' := mTh m 1) 0 rfl rfl rfl rfl (h.th 1)
theorem ag_chapterOf (h : RX N x m) (a : Int32) : Ag [IOOBE] N (f_X3_chapterOf x a) (f_X4_chapterOf m a) := by
  refine pgq h a (G := fun y => bd (f_X0_chapterWith y.2.1 a) (fun r3 => some (.inl (r3, y)))) (F := fun w => bd (f_X4_chapterAt w a) (fun r6 => some (r6, w))) ?_
  rintro L L' S r nid p ⟨h1, h2, h3, h4, h5, h6, h7, h8, -⟩ hp rfl
  refine ⟨nI (chOf S p), ?_, ?_⟩
  · show bd (f_X0_chapterWith x.2.1 (nI p)) _ = _
    rw [s_chapterWith h6 h8.1 p hp, bd_s]
  · show bd (f_X4_chapterAt (mTh m 0) (nI p)) _ = _
    rw [tm_chapterAt (v := mTh m 0) h7 h8.1 h8.2.1 p hp, bd_s]
theorem ag_firstPage (h : RX N x m) (a : Int32) : Ag [IOOBE] N (f_X3_firstPage x a) (f_X4_firstPage m a) := by
  refine chq h a (G := fun y => gd (inb a 8) (some (.inl (((Bk_starts y.2.1) (cl a)), y)))) (F := fun w => bd (f_X4_first w a) (fun r6 => some (r6, w))) ?_
  rintro L L' S r nid k ⟨h1, h2, h3, h4, h5, h6, h7, h8, -⟩ hk rfl
  have hl := h8.1.1
  refine ⟨nI (S.getD k 0), ?_, ?_⟩
  · show gd (inb (nI k) 8) (some (Sum.inl (Bk_starts x.2.1 (cl (nI k)), x))) = _
    rw [gd_n (by omega) (by decide), cl_n (by omega), h6.2 k _ (get_getD hk)]
  · show bd (f_X4_first (mTh m 0) (nI k)) _ = _
    rw [tm_first (v := mTh m 0) h7 h8.1 hk, bd_s]
theorem ag_lastPage (h : RX N x m) (a : Int32) : Ag [IOOBE] N (f_X3_lastPage x a) (f_X4_lastPage m a) := by
  refine chq h a (G := fun y => bd (f_X0_endOf y.2.1 a) (fun r3 => some (.inl (r3, y)))) (F := fun w => bd (f_X4_last w a) (fun r6 => some (r6, w))) ?_
  rintro L L' S r nid k ⟨h1, h2, h3, h4, h5, h6, h7, h8, -⟩ hk rfl
  refine ⟨if k + 1 < S.length then nI (S.getD (k + 1) 0) - 1 else 59, ?_, ?_⟩
  · show bd (f_X0_endOf x.2.1 (nI k)) _ = _
    rw [s_endOf h6 h8.1 hk, bd_s]
  · show bd (f_X4_last (mTh m 0) (nI k)) _ = _
    rw [tm_last (v := mTh m 0) h7 h8.1 hk, bd_s]
theorem held_same {L L' : List M5} {S : List Nat} (h3 : L.Perm L') (hS : okS S) {k : Nat} (hk : k < S.length) : (L.map fun z => if inCh S k (mPg z) = true then 1 else 0).sum = (L'.map fun z => if chOf S (mPg z) = k then (if false = true then mWt z else 1) else 0).sum := by
  rw [sum_perm h3]
  refine sum_congr fun z _ => ?_
  by_cases e : chOf S (mPg z) = k
  · rw [if_pos ((inCh_iff hS hk _).mpr e), if_pos e]
    rfl
  · rw [if_neg (fun q => e ((inCh_iff hS hk _).mp q)), if_neg e]
theorem weig_same {L L' : List M5} {S : List Nat} (h3 : L.Perm L') (hS : okS S) {k : Nat} (hk : k < S.length) : wIn L S k = (L'.map fun z => if chOf S (mPg z) = k then (if true = true then mWt z else 1) else 0).sum := by
  unfold wIn
  rw [sum_perm h3]
  refine sum_congr fun z _ => ?_
  by_cases e : chOf S (mPg z) = k
  · rw [if_pos ((inCh_iff hS hk _).mpr e), if_pos e]
    rfl
  · rw [if_neg (fun q => e ((inCh_iff hS hk _).mp q)), if_neg e]
theorem ag_heldPages (h : RX N x m) (a : Int32) : Ag [IOOBE] N (f_X3_heldPages x a) (f_X4_heldPages m a) := by
  refine chq h a (G := fun y => bd (f_X0_heldPageByPage y.2.1 a) (fun r3 => some (.inl (r3, y)))) (F := fun w => bd (f_X4_ofChapter w a 0) (fun r6 => some (r6, w))) ?_
  rintro L L' S r nid k ⟨h1, h2, h3, h4, h5, h6, h7, h8, -⟩ hk rfl
  refine ⟨nI (L.map fun z => if inCh S k (mPg z) = true then 1 else 0).sum, ?_, ?_⟩
  · show bd (f_X0_heldPageByPage x.2.1 (nI k)) _ = _
    rw [s_heldPageByPage h1 h5 h6 h8 hk, bd_s]
  · show bd (f_X4_ofChapter (mTh m 0) (nI k) (b2 false)) _ = _
    rw [tm_ofChapter (v := mTh m 0) h2 (h5.perm h3).bL h7 h8.1 h8.2.1 hk, bd_s, held_same h3 h8 hk]
theorem Ag.idm {codes : List String} {fx : G9} {fm : Option (Int32 × MdV)} (h : Ag codes N fx fm) : Ag codes N fx (bd fm (fun r1 => some (r1.1, r1.2))) := by
  have e : bd fm (fun r1 => some (r1.1, r1.2)) = fm := by
    cases fm with
    | none => rfl
    | some r => rfl
  rw [e]
  exact h
theorem ag_heldPagesByMarks (h : RX N x m) (a : Int32) : Ag [IOOBE] N (f_X3_heldPagesByMarks x a) (f_X4_heldPagesByMarks m a) := by
  refine Ag.idm (chq h a (G := fun y => bd (f_X0_heldMarkByMark y.2.1 a) (fun r3 => some (.inl (r3, y)))) (F := fun w => bd (f_X4_ofChapter w a 0) (fun r6 => some (r6, w))) ?_)
  rintro L L' S r nid k ⟨h1, h2, h3, h4, h5, h6, h7, h8, -⟩ hk rfl
  refine ⟨nI (L.map fun z => if inCh S k (mPg z) = true then 1 else 0).sum, ?_, ?_⟩
  · show bd (f_X0_heldMarkByMark x.2.1 (nI k)) _ = _
    rw [s_heldMarkByMark h1 h5.bL h6 h8.1 hk, bd_s]
  · show bd (f_X4_ofChapter (mTh m 0) (nI k) (b2 false)) _ = _
    rw [tm_ofChapter (v := mTh m 0) h2 (h5.perm h3).bL h7 h8.1 h8.2.1 hk, bd_s, held_same h3 h8 hk]
theorem ag_chapterWeight (h : RX N x m) (a : Int32) : Ag [IOOBE] N (f_X3_chapterWeight x a) (f_X4_chapterWeight m a) := by
  refine chq h a (G := fun y => bd (f_X0_weightIn y.2.1 a) (fun r3 => some (.inl (r3, y)))) (F := fun w => bd (f_X4_ofChapter w a 1) (fun r6 => some (r6, w))) ?_
  rintro L L' S r nid k ⟨h1, h2, h3, h4, h5, h6, h7, h8, -⟩ hk rfl
  refine ⟨nI (wIn L S k), ?_, ?_⟩
  · show bd (f_X0_weightIn x.2.1 (nI k)) _ = _
    rw [s_weightIn h1 h5.bL h6 h8.1 hk, bd_s]
    rfl
  · show bd (f_X4_ofChapter (mTh m 0) (nI k) (b2 true)) _ = _
    rw [tm_ofChapter (v := mTh m 0) h2 (h5.perm h3).bL h7 h8.1 h8.2.1 hk, bd_s, weig_same h3 h8 hk]
theorem ag_weightInFavour (h : RX N x m) (a : Int32) : Ag [IOOBE] N (f_X3_weightInFavour x a) (f_X4_weightInFavour m a) := by
  refine chq h a (G := fun y => bd (f_X0_favour y.2.1 a) (fun r3 => some (.inl (r3, y)))) (F := fun w => bd (f_X4_favour w a) (fun r6 => some (r6, w))) ?_
  rintro L L' S r nid k ⟨h1, h2, h3, h4, h5, h6, h7, h8, -⟩ hk rfl
  refine ⟨nI (wFav L S k), ?_, ?_⟩
  · show bd (f_X0_favour x.2.1 (nI k)) _ = _
    rw [s_favour h1 h5.bL h6 h8.1 hk, bd_s]
    rfl
  · show bd (f_X4_favour (mTh m 0) (nI k)) _ = _
    rw [tm_favour (v := mTh m 0) h2 (h5.perm h3).bL h7 h8.1 h8.2.1 hk, bd_s, wFav_same h3 h8 hk]
    rfl
theorem agn_model {L L' : List M5} {S : List Nat} {nid k : Nat} (h2 : sM (Md_all m) L') (h3 : L.Perm L') (h5 : okL nid L) (h7 : sC (Md_all m) S) (h8 : okS S) (hk : k < S.length) : bd (f_X4_weightOfAll (mTh m 0) 0) (fun r6 => bd (f_X4_favour (mTh m 0) (nI k)) (fun r8 => some (r6 - r8, mTh m 0))) = some (nI (wAgn L S k), mTh m 0) := by
  rw [tm_weightOfAll (v := mTh m 0) h2 (h5.perm h3).bL, bd_s, tm_favour (v := mTh m 0) h2 (h5.perm h3).bL h7 h8.1 h8.2.1 hk, bd_s, ← sum_perm h3]
  show some (nI (L.map mWt).sum - nI (wFavM L' S k), _) = _
  rw [← wFav_same h3 h8 hk, wAll_eq L S k, pk_sub (by omega), Nat.add_sub_cancel_left]
theorem ag_weightAgainst (h : RX N x m) (a : Int32) : Ag [IOOBE] N (f_X3_weightAgainst x a) (f_X4_weightAgainst m a) := by
  refine chq h a (G := fun y => bd (f_X0_against y.2.1 a) (fun r3 => some (.inl (r3, y)))) (F := fun w => bd (f_X4_weightOfAll w 0) (fun r6 => bd (f_X4_favour w a) (fun r8 => some (r6 - r8, w)))) ?_
  rintro L L' S r nid k ⟨h1, h2, h3, h4, h5, h6, h7, h8, -⟩ hk rfl
  refine ⟨nI (wAgn L S k), ?_, agn_model h2 h3 h5 h7 h8 hk⟩
  show bd (f_X0_against x.2.1 (nI k)) _ = _
  rw [s_against h1 h5.bL h6 h8.1 hk, bd_s]
  rfl
theorem ag_weightAgainstByTotal (h : RX N x m) (a : Int32) : Ag [IOOBE] N (f_X3_weightAgainstByTotal x a) (f_X4_weightAgainstByTotal m a) := by
  refine Ag.idm (chq h a (G := fun y => bd (f_X0_againstByTotal y.2.1 a) (fun r3 => some (.inl (r3, y)))) (F := fun w => bd (f_X4_weightOfAll w 0) (fun r6 => bd (f_X4_favour w a) (fun r8 => some (r6 - r8, w)))) ?_)
  rintro L L' S r nid k ⟨h1, h2, h3, h4, h5, h6, h7, h8, -⟩ hk rfl
  refine ⟨nI (wAgn L S k), ?_, agn_model h2 h3 h5 h7 h8 hk⟩
  show bd (f_X0_againstByTotal x.2.1 (nI k)) _ = _
  rw [s_againstByTotal h1 h5.bL h6 h8.1 hk, bd_s]
theorem ag_wouldDissolve (h : RX N x m) (a : Int32) : Ag [IOOBE] N (f_X3_wouldDissolve x a) (f_X4_wouldDissolve m a) := by
  have e : f_X4_wouldDissolve m a = bd (f_X4_isChapter m a) (fun r1 => bd (f_X4_isFine m r1) (fun r3 => if r3.1 = 0 then some ((0 : Int32), r3.2) else (fun w => bd (f_X4_isCarried w a) (fun r7 => if r7 = 0 then some ((0 : Int32), w) else some (1, w))) r3.2)) := by
    unfold f_X4_wouldDissolve f_X4_wouldDissolve_B24 f_X4_wouldDissolve_B25
    simp only [gd_z0, gd_z1]
  rw [e]
  refine chq h a (G := fun y => bd (f_X0_wouldCarry y.2.1 a) (fun r3 => gd (isz r3) (some (.inl (r3, y))))) (F := fun w => bd (f_X4_isCarried w a) (fun r7 => if r7 = 0 then some ((0 : Int32), w) else some (1, w))) ?_
  rintro L L' S r nid k ⟨h1, h2, h3, h4, h5, h6, h7, h8, -⟩ hk rfl
  refine ⟨b2 (decide (wAgn L S k < wFav L S k)), ?_, ?_⟩
  · show bd (f_X0_wouldCarry x.2.1 (nI k)) _ = _
    rw [s_wouldCarry h1 h5.bL h6 h8.1 hk, bd_s, gd_z]
  · show bd (f_X4_isCarried (mTh m 0) (nI k)) _ = _
    rw [tm_isCarried (v := mTh m 0) h2 (h5.perm h3).bL h7 h8 hk, bd_s]
    have q := carr_same h3 h8 hk
    by_cases e2 : wAgn L S k < wFav L S k
    · rw [decide_eq_true e2, decide_eq_true (q.mpr e2), if_neg (by decide)]
      rfl
    · rw [decide_eq_false e2, decide_eq_false (fun z => e2 (q.mp z)), if_pos b2_f]
      rfl
theorem ag_isHeld (h : RX N x m) (a : Int32) : Ag [IOOBE] N (f_X3_isHeld x a) (f_X4_isHeld m a) := by
  have e : f_X4_isHeld m a = bd (f_X4_isPage a) (fun r1 => bd (f_X4_isFine m r1) (fun r3 => if r3.1 = 0 then some ((0 : Int32), r3.2) else (fun w => bd (f_X4_onPage w a) (fun r7 => if r7 < 0 then some ((0 : Int32), w) else some (1, w))) r3.2)) := by
    unfold f_X4_isHeld f_X4_isHeld_B23 f_X4_isHeld_B24
    simp only [gd_z0, gd_z1]
  rw [e]
  refine pgq h a (G := fun y => bd (f_X0_slotOnPage y.2.1 a) (fun r4 => if r4 = (-1 : Int32) then f_X3_isHeld_B22 a (0 : Int32) y else f_X3_isHeld_B22 a (1 : Int32) y)) (F := fun w => bd (f_X4_onPage w a) (fun r7 => if r7 < 0 then some ((0 : Int32), w) else some (1, w))) ?_
  rintro L L' S r nid p ⟨h1, h2, h3, h4, h5, h6, h7, h8, -⟩ hp rfl
  obtain ⟨t, ht, hf⟩ := tm_onPage (v := mTh m 0) h2 (h5.perm h3).bL (nI p)
  show ∃ q, bd (f_X0_slotOnPage x.2.1 (nI p)) (fun r4 => if r4 = (-1 : Int32) then f_X3_isHeld_B22 (nI p) (0 : Int32) x else f_X3_isHeld_B22 (nI p) (1 : Int32) x) = _ ∧ bd (f_X4_onPage (mTh m 0) (nI p)) _ = _
  rw [ht, bd_s]
  unfold f_X3_isHeld_B22
  rw [gd_z0, gd_z1]
  have hl := (h5.perm h3).1
  rcases hf with ⟨j, z, hz, hq, -, e2⟩ | ⟨e2, hq⟩
  · have hj := lt_get hz
    have hzp := ((h5.perm h3).bL.2 z (mem_get hz)).2.1
    obtain ⟨i, hi, hs⟩ := slot_on h1 h5 hp ⟨z, h3.mem_iff.mpr (mem_get hz), (nI_eq (by omega) (by omega)).mp hq⟩
    refine ⟨1, ?_, ?_⟩
    · rw [hs, bd_s, if_neg (nI_m1 (by omega))]
    · rw [e2, if_neg (nI_pos (by omega))]
  · refine ⟨0, ?_, ?_⟩
    · rw [slot_off h1 h5 hp (fun z hz q => hq z (h3.mem_iff.mp hz) (congrArg nI q)), bd_s, if_pos rfl]
    · rw [e2, if_pos (by decide)]
/-! of one mark -/
theorem tm_find_v (w : MdV) (y : Int32) : f_X4_find w y = f_X4_find (mTh w 0) y := by
  have key : ∀ n s, f_X4_find_L2 w n y s = f_X4_find_L2 (mTh w 0) n y s := by
    intro n
    induction n with
    | zero =>
      intro s
      rfl
    | succ n ih =>
      intro s
      rw [f_X4_find_L2, f_X4_find_L2]
      have e : f_X4_find_L2 w n y = f_X4_find_L2 (mTh w 0) n y := funext fun s => ih s
      rw [e]
      rfl
  exact key 100 0
theorem mrk (h : RX N x m) (a : Int32) : (f_X0_slotWithId x.2.1 a = some (-1) ∧ f_X4_find m a = some (-1)) ∨ ∃ i k z, i < 12 ∧ k < 12 ∧ f_X0_slotWithId x.2.1 a = some (nI i) ∧ f_X4_find m a = some (nI k) ∧ rB x.2.1 i z ∧ rS (Md_all m) k z ∧ mSt z ≤ 5 ∧ f_X0_hasSeat x.2.1 (nI i) = some (b2 (decide (mSt z ≠ 0))) := by
  obtain ⟨L, L', S, r, nid, h1, h2, h3, h4, h5, h6, h7, h8, -⟩ := h.1
  have b' := (h5.perm h3).bL
  obtain ⟨t, ht, hf⟩ := tm_find h2 b' a
  rcases hf with ⟨k, z, hz, hq, -, e⟩ | ⟨e, hq⟩
  · obtain ⟨i, hi, hs⟩ := slot_id h1 h5 (h3.mem_iff.mpr (mem_get hz)) hq
    have hil := lt_get hi
    have hkl := lt_get hz
    have := h5.1
    have := b'.1
    exact Or.inr ⟨i, k, z, by omega, by omega, hs, by rw [ht, e], h1.2 i z hi, h2.2 k z hz, (b'.2 z (mem_get hz)).2.2.2.2, s_hasSeat h1 h5.bL hi⟩
  · exact Or.inl ⟨slot_no h1 h5 (fun z hz => hq z (h3.mem_iff.mp hz)), by rw [ht, e]⟩
theorem rm_1 {w : MdV} {k : Nat} {z : M5} (hk : k < 12) (h : rS (Md_all w) k z) : f_X4_m w (nI k) 1 = some (nI (mPg z)) := (tm_m w (w := 1) (by omega) (by omega)).trans (congrArg some h.2.1)
theorem rm_0 {w : MdV} {k : Nat} {z : M5} (hk : k < 12) (h : rS (Md_all w) k z) : f_X4_m w (nI k) 0 = some (nI (mId z)) := (tm_m w (w := 0) (by omega) (by omega)).trans (congrArg some h.1)
theorem rm_2 {w : MdV} {k : Nat} {z : M5} (hk : k < 12) (h : rS (Md_all w) k z) : f_X4_m w (nI k) 2 = some (nI (mWt z)) := (tm_m w (w := 2) (by omega) (by omega)).trans (congrArg some h.2.2.1)
theorem rm_3 {w : MdV} {k : Nat} {z : M5} (hk : k < 12) (h : rS (Md_all w) k z) : f_X4_m w (nI k) 3 = some (nI (mSt z)) := (tm_m w (w := 3) (by omega) (by omega)).trans (congrArg some h.2.2.2.1)
theorem rm_4 {w : MdV} {k : Nat} {z : M5} (hk : k < 12) (h : rS (Md_all w) k z) : f_X4_m w (nI k) 4 = some (nI (mWr z)) := (tm_m w (w := 4) (by omega) (by omega)).trans (congrArg some h.2.2.2.2)
/-- what ofMark says -/
theorem ofm_no {a : Int32} (w : Int32) (h : f_X4_find m a = some (-1)) : f_X4_ofMark m a w = some (0, mTh m 1) := by
  unfold f_X4_ofMark f_X4_ofMark_B16 f_X4_ofMark_B32
  rw [h, bd_s, if_pos (by decide), tm_fine0, bd_s, if_pos rfl]
theorem ofm_yes {a q w : Int32} {k : Nat} (hk : k < 12) (h : f_X4_find m a = some (nI k)) (hm : f_X4_m (mTh m 0) (nI k) w = some q) : f_X4_ofMark m a w = some (q, mTh m 0) := by
  unfold f_X4_ofMark f_X4_ofMark_B16 f_X4_ofMark_B32
  rw [h, bd_s, if_neg (nI_pos (by omega)), tm_fine1, bd_s, if_neg fst1]
  show bd (f_X4_m (mTh m 0) (nI k) w) _ = _
  rw [hm, bd_s]
theorem ag_pageOf (h : RX N x m) (a : Int32) : Ag [IOOBE] N (f_X3_pageOf x a) (f_X4_pageOf m a) := by
  refine Ag.idm ?_
  unfold f_X3_pageOf
  rcases mrk h a with ⟨e1, e2⟩ | ⟨i, k, z, hi, hk, e1, e2, e3, e4, e5, e6⟩
  · rw [x_reqMark e1, bd_s, if_pos rfl, bx_inr]
    exact Ag.thr 0 rfl (ofm_no 1 e2) rfl rfl (h.th 1)
  · rw [x_reqMark e1, bd_s, if_neg (nI_m1 (by omega)), bx_inl]
    refine Ag.ret (r := nI (mPg z)) ?_ (ofm_yes hk e2 (rm_1 (w := mTh m 0) hk e4)) rfl (h.th 0)
    show gd (inb (nI i) 12) (some (Sum.inl (Bk_pages x.2.1 (cl (nI i)), x))) = _
    rw [gd_n hi (by decide), cl_n (by omega), e3.2.1]
theorem ag_weightOf (h : RX N x m) (a : Int32) : Ag [IOOBE] N (f_X3_weightOf x a) (f_X4_weightOf m a) := by
  refine Ag.idm ?_
  unfold f_X3_weightOf
  rcases mrk h a with ⟨e1, e2⟩ | ⟨i, k, z, hi, hk, e1, e2, e3, e4, e5, e6⟩
  · rw [x_reqMark e1, bd_s, if_pos rfl, bx_inr]
    exact Ag.thr 0 rfl (ofm_no 2 e2) rfl rfl (h.th 1)
  · rw [x_reqMark e1, bd_s, if_neg (nI_m1 (by omega)), bx_inl]
    refine Ag.ret (r := nI (mWt z)) ?_ (ofm_yes hk e2 (rm_2 (w := mTh m 0) hk e4)) rfl (h.th 0)
    show gd (inb (nI i) 12) (some (Sum.inl (Bk_weights x.2.1 (cl (nI i)), x))) = _
    rw [gd_n hi (by decide), cl_n (by omega), e3.2.2.1]
theorem ag_wearOf (h : RX N x m) (a : Int32) : Ag [IOOBE] N (f_X3_wearOf x a) (f_X4_wearOf m a) := by
  refine Ag.idm ?_
  unfold f_X3_wearOf
  rcases mrk h a with ⟨e1, e2⟩ | ⟨i, k, z, hi, hk, e1, e2, e3, e4, e5, e6⟩
  · rw [x_reqMark e1, bd_s, if_pos rfl, bx_inr]
    exact Ag.thr 0 rfl (ofm_no 4 e2) rfl rfl (h.th 1)
  · rw [x_reqMark e1, bd_s, if_neg (nI_m1 (by omega)), bx_inl]
    refine Ag.ret (r := nI (mWr z)) ?_ (ofm_yes hk e2 (rm_4 (w := mTh m 0) hk e4)) rfl (h.th 0)
    show gd (inb (nI i) 12) (some (Sum.inl (Bk_wears x.2.1 (cl (nI i)), x))) = _
    rw [gd_n hi (by decide), cl_n (by omega), e3.2.2.2.1]
theorem ag_isRibbon (h : RX N x m) (a : Int32) : Ag [IOOBE] N (f_X3_isRibbon x a) (f_X4_isRibbon m a) := by
  unfold f_X3_isRibbon f_X4_isRibbon f_X4_isRibbon_B14
  rcases mrk h a with ⟨e1, e2⟩ | ⟨i, k, z, hi, hk, e1, e2, e3, e4, e5, e6⟩
  · rw [x_reqMark e1, bd_s, if_pos rfl, bx_inr, ofm_no 3 e2, bd_s, gd_z0]
    exact Ag.thr (m' := mTh m 1) 0 rfl (if_pos (show ((0 : Int32), mTh m 1).1 ≤ 0 by show (0 : Int32) ≤ 0; decide)) rfl rfl (h.th 1)
  · rw [x_reqMark e1, bd_s, if_neg (nI_m1 (by omega)), bx_inl, ofm_yes hk e2 (rm_3 (w := mTh m 0) hk e4), bd_s, gd_z0, gd_z1]
    refine Ag.ret (r := b2 (decide (mSt z ≠ 0))) (m' := mTh m 0) ?_ ?_ rfl (h.th 0)
    · show bd (f_X0_hasSeat x.2.1 (nI i)) _ = _
      rw [e6, bd_s, gd_z]
    · show (if nI (mSt z) ≤ 0 then some ((0 : Int32), mTh m 0) else some (1, mTh m 0)) = _
      by_cases e : mSt z = 0
      · rw [if_pos ((nI_le0 (by omega)).mpr e), decide_eq_false (by omega)]
        rfl
      · rw [if_neg (fun q => e ((nI_le0 (by omega)).mp q)), decide_eq_true e]
        rfl
theorem ag_seatOf (h : RX N x m) (a : Int32) : Ag [IOOBE, NSE] N (f_X3_seatOf x a) (f_X4_seatOf m a) := by
  unfold f_X3_seatOf f_X4_seatOf
  rcases mrk h a with ⟨e1, e2⟩ | ⟨i, k, z, hi, hk, e1, e2, e3, e4, e5, e6⟩
  · rw [x_reqMark e1, bd_s, if_pos rfl, bx_inr, e2, bd_s, if_neg (by decide)]
    unfold f_X4_seatOf_B29 f_X4_seatOf_B51
    exact Ag.thr (m' := mTh m 1) 0 rfl (if_neg (by decide)) rfl rfl (h.th 1)
  · rw [x_reqMark e1, bd_s, if_neg (nI_m1 (by omega)), bx_inl, e2, bd_s, if_pos (nI_pos' (by omega)), rm_3 hk e4, bd_s]
    show Ag [IOOBE, NSE] N (bd (f_X0_hasSeat x.2.1 (nI i)) (fun r3 => if r3 = 0 then some (Sum.inr (NSE, x)) else gd (inb (nI i) 12) (some (Sum.inl (Bk_seats x.2.1 (cl (nI i)), x))))) _
    rw [e6, bd_s]
    unfold f_X4_seatOf_B29 f_X4_seatOf_B51
    by_cases e : mSt z = 0
    · rw [decide_eq_false (by omega), if_pos b2_f, e, if_pos (by decide)]
      exact Ag.thr (m' := mTh m 2) 1 rfl (if_neg (by decide)) rfl rfl (h.th 2)
    · rw [decide_eq_true e, if_neg (by decide), if_neg (nI_ne0 (by omega) (by omega)), if_pos rfl, gd_n hi (by decide), cl_n (by omega), e3.2.2.2.2]
      refine Ag.ret (m' := mTh m 0) rfl ?_ rfl (h.th 0)
      show bd (f_X4_m (mTh m 0) (nI k) 3) (fun r2 => some (r2 - 1, mTh m 0)) = _
      rw [rm_3 (w := mTh m 0) hk e4, bd_s]
end QRY
