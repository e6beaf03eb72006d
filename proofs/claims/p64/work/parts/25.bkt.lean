/-! ===== votes and turns of the book ===== -/
theorem erase_mid {α : Type} (A : List α) (m : α) (R : List α) : (A ++ m :: R).eraseIdx A.length = A ++ R := by
  rw [List.eraseIdx_append_of_length_le (Nat.le_refl _), Nat.sub_self]
  rfl
theorem get_mid {α : Type} (A : List α) (m : α) (R : List α) : (A ++ m :: R)[A.length]? = some m := by
  rw [List.getElem?_append_right (Nat.le_refl _), Nat.sub_self]
  rfl
theorem set_mid {α : Type} (A : List α) (m m' : α) (R : List α) : (A ++ m :: R).set A.length m' = A ++ m' :: R := by
  rw [List.set_append_right _ _ (Nat.le_refl _), Nat.sub_self]
  rfl
theorem last_of {α : Type} {A : List α} {k : Nat} (h : A.length = k + 1) : ∃ (B : List α) (m : α), A = B ++ [m] ∧ B.length = k := by
  rcases List.eq_nil_or_concat A with e | ⟨B, m, e⟩
  · rw [e] at h
    cases h
  · rw [List.concat_eq_append] at e
    refine ⟨B, m, e, ?_⟩
    rw [e, List.length_append, List.length_singleton] at h
    omega
theorem bL_sub {L L' : List M5} (h : bL L) (hl : L'.length ≤ L.length) (hs : ∀ m ∈ L', m ∈ L) : bL L' := ⟨Nat.le_trans hl h.1, fun m hm => h.2 m (hs m hm)⟩
/-- what a vote leaves -/
def stays (S : List Nat) (k : Nat) (m : M5) : Bool := !(decide (mSt m = 0) && inCh S k (mPg m))
theorem s_removeEarsIn {v : BkV} {L : List M5} {S : List Nat} (h : hM v L) (b : bL L) (hc : hC v S) (bs : bS S) {k : Nat} (hk : k < S.length) : ∃ v', f_X0_removeEarsIn v (nI k) = some (0, v') ∧ hM v' (L.filter (stays S k)) ∧ rsB v' = rsB v := by
  have key : ∀ j (A R : List M5) n (v : BkV), A.length = j → hM v (A ++ R) → bL (A ++ R) → hC v S → j < n → ∃ v', f_X0_removeEarsIn_L7 n (nI k) (nI j - 1) v = some (0, v') ∧ hM v' (A.filter (stays S k) ++ R) ∧ rsB v' = rsB v := by
    intro j
    induction j with
    | zero =>
      intro A R n v hA hv _ _ hn
      obtain ⟨n, rfl⟩ : ∃ z, n = z + 1 := ⟨n - 1, by omega⟩
      have e : A = [] := List.eq_nil_of_length_eq_zero hA
      subst e
      rw [f_X0_removeEarsIn_L7, if_pos nI_00]
      exact ⟨v, rfl, hv, rfl⟩
    | succ j ih =>
      intro A R n v hA hv hb hcv hn
      obtain ⟨n, rfl⟩ : ∃ z, n = z + 1 := ⟨n - 1, by omega⟩
      obtain ⟨B, m, rfl, hB⟩ := last_of hA
      rw [List.append_assoc, List.singleton_append] at hv hb
      have hm : (B ++ m :: R)[j]? = some m := by
        rw [← hB]
        exact get_mid B m R
      have hlen := hb.1
      have hj := lt_get hm
      rw [nI_dn, f_X0_removeEarsIn_L7, if_neg (nI_pos (by omega)), s_hasSeat hv hb hm, bd_s, List.filter_append]
      unfold f_X0_removeEarsIn_B33
      have hone : [m].filter (stays S k) = if stays S k m = true then [m] else [] := by rw [List.filter_cons, List.filter_nil]
      have keep : stays S k m = true → ∃ v', f_X0_removeEarsIn_L7 n (nI k) (nI j + -1) v = some (0, v') ∧ hM v' ((B.filter (stays S k) ++ [m].filter (stays S k)) ++ R) ∧ rsB v' = rsB v := by
        intro hs
        obtain ⟨v', q1, q2, q3⟩ := ih B (m :: R) n v hB hv hb hcv (by omega)
        refine ⟨v', by rw [add_m1]; exact q1, ?_, q3⟩
        rw [hone, if_pos hs, List.append_assoc, List.singleton_append]
        exact q2
      by_cases hq : mSt m = 0
      · rw [decide_eq_false (by omega), if_pos b2_f, s_isIn hv hb hcv bs hm hk, bd_s]
        cases hi : inCh S k (mPg m)
        · rw [if_pos b2_f]
          exact keep (by unfold stays; rw [hi, Bool.and_false]; rfl)
        · rw [if_neg (by decide)]
          obtain ⟨v1, q1, q2, q3⟩ := s_takeOut hv hb.1 (i := j) hj
          rw [q1, bd_s]
          rw [← hB, erase_mid] at q2
          have hb1 : bL (B ++ R) := bL_sub hb (by simp) (fun z hz => by
            rcases List.mem_append.mp hz with h1 | h1
            · exact List.mem_append_left _ h1
            · exact List.mem_append_right _ (List.mem_cons_of_mem _ h1))
          obtain ⟨v', p1, p2, p3⟩ := ih B R n v1 hB q2 hb1 (hC_rs hcv q3) (by omega)
          refine ⟨v', by rw [add_m1]; exact p1, ?_, p3.trans q3⟩
          have hs : stays S k m = false := by
            unfold stays
            rw [hi, decide_eq_true hq]
            rfl
          rw [hone, hs, if_neg (by decide), List.append_nil]
          exact p2
      · rw [decide_eq_true hq, if_neg (by decide)]
        exact keep (by unfold stays; rw [decide_eq_false hq, Bool.false_and]; rfl)
  unfold f_X0_removeEarsIn
  rw [h.1]
  obtain ⟨v', q1, q2, q3⟩ := key L.length L [] 100 v rfl (by rw [List.append_nil]; exact h) (by rw [List.append_nil]; exact b) hc (by have := b.1; omega)
  rw [List.append_nil] at q2
  exact ⟨v', q1, q2, q3⟩
/-- the weights for and against -/
def wFav (L : List M5) (S : List Nat) (k : Nat) : Nat := (L.map fun m => if isFav S k m = true then mWt m else 0).sum
def wAgn (L : List M5) (S : List Nat) (k : Nat) : Nat := (L.map fun m => if isFav S k m = true then 0 else mWt m).sum
theorem wFav_lt {L : List M5} (b : bL L) (S : List Nat) (k : Nat) : wFav L S k < 2 ^ 20 := by
  have h := sum_le L (fun m => if isFav S k m = true then mWt m else 0) 9 (fun m hm => by
    have := (b.2 m hm).2.2.1
    show (if isFav S k m = true then mWt m else 0) ≤ 9
    split
    · omega
    · exact Nat.zero_le _)
  have := b.1
  unfold wFav
  omega
theorem wAgn_lt {L : List M5} (b : bL L) (S : List Nat) (k : Nat) : wAgn L S k < 2 ^ 20 := by
  have h := sum_le L (fun m => if isFav S k m = true then 0 else mWt m) 9 (fun m hm => by
    have := (b.2 m hm).2.2.1
    show (if isFav S k m = true then 0 else mWt m) ≤ 9
    split
    · exact Nat.zero_le _
    · omega)
  have := b.1
  unfold wAgn
  omega
theorem wAll_eq (L : List M5) (S : List Nat) (k : Nat) : (L.map mWt).sum = wFav L S k + wAgn L S k := by
  unfold wFav wAgn
  rw [← sum_add]
  refine sum_congr fun m _ => ?_
  cases isFav S k m
  · rw [if_neg (by decide), if_neg (by decide), Nat.zero_add]
  · rw [if_pos rfl, if_pos rfl, Nat.add_zero]
theorem s_wouldCarry {v : BkV} {L : List M5} {S : List Nat} (h : hM v L) (b : bL L) (hc : hC v S) (bs : bS S) {k : Nat} (hk : k < S.length) : f_X0_wouldCarry v (nI k) = some (b2 (decide (wAgn L S k < wFav L S k))) := by
  have h1 := wFav_lt b S k
  have h2 := wAgn_lt b S k
  unfold f_X0_wouldCarry f_X0_wouldCarry_B18
  rw [s_favour h b hc bs hk, bd_s, s_against h b hc bs hk, bd_s]
  show (if nI (wFav L S k) ≤ nI (wAgn L S k) then _ else _) = _
  by_cases e : wAgn L S k < wFav L S k
  · rw [if_neg (nI_ge e (by omega)), gd_z1, decide_eq_true e]
    rfl
  · rw [if_pos (nI_le (by omega) (by omega)), gd_z0, decide_eq_false e]
    rfl
theorem s_againstByTotal {v : BkV} {L : List M5} {S : List Nat} (h : hM v L) (b : bL L) (hc : hC v S) (bs : bS S) {k : Nat} (hk : k < S.length) : f_X0_againstByTotal v (nI k) = some (nI (wAgn L S k)) := by
  unfold f_X0_againstByTotal
  rw [s_weightOfAll h b, bd_s, s_favour h b hc bs hk, bd_s, wAll_eq L S k]
  show some (nI (wFav L S k + wAgn L S k) - nI (wFav L S k)) = _
  rw [pk_sub (by omega), Nat.add_sub_cancel_left]
/-- the chapters' starts behind a vote that is carried -/
def dropCh (S : List Nat) (k : Nat) : List Nat := S.eraseIdx (if k = 0 then 1 else k)
theorem s_vote {v : BkV} {L : List M5} {S : List Nat} (h : hM v L) (b : bL L) (hc : hC v S) (bs : bS S) {k : Nat} (hk : k < S.length) (h2 : 2 ≤ S.length) :
    ∃ v', f_X0_vote v (nI k) = some (b2 (decide (wAgn L S k < wFav L S k)), v') ∧ (if wAgn L S k < wFav L S k then hM v' (L.filter (stays S k)) ∧ hC v' (dropCh S k) ∧ Bk_carried v' = Bk_carried v + 1 else hM v' L ∧ hC v' S ∧ Bk_carried v' = Bk_carried v) ∧ Bk_reader v' = Bk_reader v ∧ Bk_nextId v' = Bk_nextId v ∧ Bk_votes v' = Bk_votes v + 1 ∧ Bk_fallen v' = Bk_fallen v := by
  have hl := bs.1
  unfold f_X0_vote
  obtain ⟨v1, hv1⟩ : ∃ z : BkV, z = (Bk_ids v, Bk_pages v, Bk_weights v, Bk_wears v, Bk_seats v, Bk_starts v, Bk_marks v, Bk_chapters v, Bk_reader v, Bk_nextId v, Bk_votes v + 1, Bk_carried v, Bk_fallen v) := ⟨_, rfl⟩
  have h1 : hM v1 L := by
    rw [hv1]
    exact h
  have hc1 : hC v1 S := by
    rw [hv1]
    exact hc
  rw [← hv1, s_wouldCarry h1 b hc1 bs hk, bd_s]
  by_cases e : wAgn L S k < wFav L S k
  · rw [decide_eq_true e, if_neg (by decide)]
    obtain ⟨v2, hv2⟩ : ∃ z : BkV, z = (Bk_ids v, Bk_pages v, Bk_weights v, Bk_wears v, Bk_seats v, Bk_starts v, Bk_marks v, Bk_chapters v, Bk_reader v, Bk_nextId v, Bk_votes v + 1, Bk_carried v + 1, Bk_fallen v) := ⟨_, rfl⟩
    have h2m : hM v2 L := by
      rw [hv2]
      exact h
    have hc2 : hC v2 S := by
      rw [hv2]
      exact hc
    obtain ⟨v3, q1, q2, q3⟩ := s_removeEarsIn h2m b hc2 bs hk
    rw [← hv2, q1, bd_s]
    have hc3 := hC_rs hc2 q3
    unfold f_X0_vote_B45
    have hg : (if nI k = (0 : Int32) then bd (f_X0_dropStart (0, v3).2 1) (fun r1 => some ((1 : Int32), r1.2)) else bd (f_X0_dropStart (0, v3).2 (nI k)) (fun r1 => some ((1 : Int32), r1.2))) = bd (f_X0_dropStart v3 (nI (if k = 0 then 1 else k))) (fun r1 => some ((1 : Int32), r1.2)) := by
      by_cases e0 : k = 0
      · subst e0
        rfl
      · rw [if_neg (nI_ne0 (by omega) (by omega)), if_neg e0]
    obtain ⟨v4, p1, p2, p3⟩ := s_dropStart hc3 hl (g := if k = 0 then 1 else k) (by split <;> omega)
    rw [p1, bd_s] at hg
    refine ⟨v4, hg, ?_, ?_, ?_, ?_, ?_⟩
    · rw [if_pos e]
      refine ⟨hM_rc q2 p3, p2, ?_⟩
      unfold rcB at p3
      unfold rsB at q3
      simp only [Prod.mk.injEq] at p3 q3
      rw [hv2] at q3
      rw [p3.2.2.2.2.2.2.2.2.2.1, q3.2.2.2.2.2.1]
    all_goals
      unfold rcB at p3
      unfold rsB at q3
      simp only [Prod.mk.injEq] at p3 q3
      rw [hv2] at q3
    · rw [p3.2.2.2.2.2.2.1, q3.2.2.1]
    · rw [p3.2.2.2.2.2.2.2.1, q3.2.2.2.1]
    · rw [p3.2.2.2.2.2.2.2.2.1, q3.2.2.2.2.1]
    · rw [p3.2.2.2.2.2.2.2.2.2.2, q3.2.2.2.2.2.2]
  · rw [decide_eq_false e, if_pos b2_f]
    refine ⟨v1, rfl, ?_, ?_, ?_, ?_, ?_⟩
    · rw [if_neg e]
      exact ⟨h1, hc1, by rw [hv1]⟩
    all_goals rw [hv1]
/-! turning -/
/-- an ear on the way -/
def onWay (r cnt : Nat) (fwd : Bool) (m : M5) : Bool := decide (mSt m = 0) && (if fwd = true then decide (r < mPg m ∧ mPg m ≤ r + cnt) else decide (mPg m < r ∧ r ≤ mPg m + cnt))
theorem s_isEarOnTheWay {v : BkV} {L : List M5} (h : hM v L) (b : bL L) {r : Nat} (hr : Bk_reader v = nI r) (hr6 : r < 60) {i : Nat} {m : M5} (hm : L[i]? = some m) {cnt : Nat} (hcn : cnt ≤ 20) (fwd : Bool) : f_X0_isEarOnTheWay v (nI i) (nI cnt) (b2 fwd) = some (b2 (onWay r cnt fwd m)) := by
  have hi := lt_get hm
  have hl := b.1
  have hp := (b.2 m (mem_get hm)).2.1
  unfold f_X0_isEarOnTheWay
  have tail : ∀ (d : Int32) (dz : Int) (w : Bool), d.toInt = dz → (w = true ↔ 1 ≤ dz ∧ dz ≤ cnt) → f_X0_isEarOnTheWay_B29 v (nI i) (nI cnt) (b2 fwd) d = some (b2 (decide (mSt m = 0) && w)) := by
    intro d dz w hd hw
    unfold f_X0_isEarOnTheWay_B29 f_X0_isEarOnTheWay_B55 f_X0_isEarOnTheWay_B56
    rw [s_hasSeat h b hm, bd_s]
    have t1 : d < 1 ↔ dz < 1 := by
      rw [Int32.lt_iff_toInt_lt, hd]
      exact Iff.rfl
    have t2 : nI cnt < d ↔ (cnt : Int) < dz := by
      rw [Int32.lt_iff_toInt_lt, hd, nI_toInt (by omega)]
    by_cases hq : mSt m = 0
    · rw [decide_eq_false (by omega), if_pos b2_f, decide_eq_true hq, Bool.true_and]
      by_cases e1 : dz < 1
      · rw [if_pos (t1.mpr e1), gd_z0]
        have : w = false := by
          cases hw' : w
          · rfl
          · exact absurd (hw.mp hw') (by omega)
        rw [this]
        rfl
      · rw [if_neg (fun z => e1 (t1.mp z))]
        by_cases e2 : (cnt : Int) < dz
        · rw [if_pos (t2.mpr e2), gd_z0]
          have : w = false := by
            cases hw' : w
            · rfl
            · exact absurd (hw.mp hw') (by omega)
          rw [this]
          rfl
        · rw [if_neg (fun z => e2 (t2.mp z)), gd_z1, hw.mpr (by omega)]
          rfl
    · rw [decide_eq_true hq, if_neg (by decide), gd_z0, decide_eq_false hq, Bool.false_and]
      rfl
  rw [gd_n (by omega) (by decide), gd_n (by omega) (by decide), cl_n (by omega), (h.2 i m hm).2.1, hr]
  unfold onWay
  cases fwd
  · rw [if_pos b2_f, if_neg (by decide)]
    refine tail _ _ _ (nI_sub_toInt (by omega) (by omega)) ?_
    rw [decide_eq_true_iff]
    omega
  · rw [if_neg (by decide), if_pos rfl]
    refine tail _ _ _ (nI_sub_toInt (by omega) (by omega)) ?_
    rw [decide_eq_true_iff]
    omega
theorem s_earsAboutToFall {v : BkV} {L : List M5} (h : hM v L) (b : bL L) {r : Nat} (hr : Bk_reader v = nI r) (hr6 : r < 60) {cnt : Nat} (hcn : cnt ≤ 20) (fwd : Bool) : f_X0_earsAboutToFall v (nI cnt) (b2 fwd) = some (nI (L.map fun m => if onWay r cnt fwd m = true ∧ 2 ≤ mWr m then 1 else 0).sum) := by
  have hl := b.1
  refine sumL (F := fun n a x => f_X0_earsAboutToFall_L5 v n (nI cnt) (b2 fwd) a x) (by omega) ?_ ?_
  · intro n a
    show f_X0_earsAboutToFall_L5 v (n + 1) (nI cnt) (b2 fwd) (nI a) (nI L.length) = _
    rw [f_X0_earsAboutToFall_L5, h.1, if_pos (Int32.le_refl _)]
  · intro n a i m hm
    have hi := lt_get hm
    have hw := (b.2 m (mem_get hm)).2.2.2.1
    show f_X0_earsAboutToFall_L5 v (n + 1) (nI cnt) (b2 fwd) (nI a) (nI i) = f_X0_earsAboutToFall_L5 v n (nI cnt) (b2 fwd) (nI (a + if onWay r cnt fwd m = true ∧ 2 ≤ mWr m then 1 else 0)) (nI (i + 1))
    rw [f_X0_earsAboutToFall_L5, h.1, if_neg (nI_ge hi (by omega)), s_isEarOnTheWay h b hr hr6 hm hcn fwd, bd_s]
    unfold f_X0_earsAboutToFall_B41
    cases ho : onWay r cnt fwd m
    · rw [if_pos b2_f, if_neg (by rintro ⟨z, -⟩; cases z), nI_1, Nat.add_zero a]
    · rw [if_neg (by decide), gd_n (by omega) (by decide), cl_n (by omega), (h.2 i m hm).2.2.2.1, nI_1, nI_1, nI_1]
      by_cases e : 2 ≤ mWr m
      · rw [if_neg (show ¬ nI (mWr m + 1) < (3 : Int32) from nI_nlt (a := mWr m + 1) (b := 3) (by omega) (by omega)), if_pos ⟨rfl, e⟩]
      · rw [if_pos (show nI (mWr m + 1) < (3 : Int32) from nI_lt (b := 3) (by omega) (by omega)), if_neg (fun z => e z.2), Nat.add_zero a]
/-- what a turn leaves of a mark -/
def wears (r cnt : Nat) (fwd : Bool) (m : M5) : Option M5 := if onWay r cnt fwd m = true then (if 2 ≤ mWr m then none else some (mId m, mPg m, mWt m, mWr m + 1, mSt m)) else some m
def falls (r cnt : Nat) (fwd : Bool) (L : List M5) : Nat := (L.map fun m => if onWay r cnt fwd m = true ∧ 2 ≤ mWr m then 1 else 0).sum
def wrS (v : BkV) (j : Nat) (x : Int32) : BkV := (Bk_ids v, Bk_pages v, Bk_weights v, upd (Bk_wears v) j x, Bk_seats v, Bk_starts v, Bk_marks v, Bk_chapters v, Bk_reader v, Bk_nextId v, Bk_votes v, Bk_carried v, Bk_fallen v)
theorem hM_wr {v : BkV} {B R : List M5} {m : M5} (h : hM v (B ++ m :: R)) (w : Nat) : hM (wrS v B.length (nI w)) (B ++ (mId m, mPg m, mWt m, w, mSt m) :: R) := by
  refine ⟨by rw [← show (B ++ m :: R).length = (B ++ (mId m, mPg m, mWt m, w, mSt m) :: R).length by simp]; exact h.1, fun t z ht => ?_⟩
  by_cases e : t = B.length
  · rw [e, get_mid] at ht
    cases ht
    rw [e]
    obtain ⟨q1, q2, q3, q4, q5⟩ := h.2 B.length m (get_mid B m R)
    exact ⟨q1, q2, q3, pk_us, q5⟩
  · have ht2 : (B ++ m :: R)[t]? = some z := by
      rw [← set_mid B m (mId m, mPg m, mWt m, w, mSt m) R, List.getElem?_set_ne (Ne.symm e)] at ht
      exact ht
    obtain ⟨q1, q2, q3, q4, q5⟩ := h.2 t z ht2
    refine ⟨q1, q2, q3, ?_, q5⟩
    show upd (Bk_wears v) B.length _ t = _
    rw [pk_un e]
    exact q4
theorem falls_app (r cnt : Nat) (fwd : Bool) (A B : List M5) : falls r cnt fwd (A ++ B) = falls r cnt fwd A + falls r cnt fwd B := by
  unfold falls
  rw [List.map_append, List.sum_append]
theorem s_turn {v : BkV} {L : List M5} (h : hM v L) (b : bL L) (b2w : ∀ m ∈ L, mWr m ≤ 2) {r : Nat} (hr : Bk_reader v = nI r) (hr6 : r < 60) {cnt : Nat} (hcn : cnt ≤ 20) (fwd : Bool) :
    ∃ v', f_X0_turn v (nI cnt) (b2 fwd) = some (nI (falls r cnt fwd L), v') ∧ hM v' (L.filterMap (wears r cnt fwd)) ∧ Bk_reader v' = (if fwd = true then nI r + nI cnt else nI r - nI cnt) ∧ Bk_fallen v' = Bk_fallen v + nI (falls r cnt fwd L) ∧ Bk_starts v' = Bk_starts v ∧ Bk_chapters v' = Bk_chapters v ∧ Bk_nextId v' = Bk_nextId v ∧ Bk_votes v' = Bk_votes v ∧ Bk_carried v' = Bk_carried v := by
  have key : ∀ j (A R : List M5) n (v : BkV) (f : Nat), A.length = j → hM v (A ++ R) → bL (A ++ R) → (∀ m ∈ A, mWr m ≤ 2) → Bk_reader v = nI r → j < n → ∃ v', f_X0_turn_L10 n (nI cnt) (b2 fwd) (nI f) (nI j - 1) v = some (nI (f + falls r cnt fwd A), v') ∧ hM v' (A.filterMap (wears r cnt fwd) ++ R) ∧ Bk_reader v' = (if fwd = true then nI r + nI cnt else nI r - nI cnt) ∧ Bk_fallen v' = Bk_fallen v + nI (f + falls r cnt fwd A) ∧ Bk_starts v' = Bk_starts v ∧ Bk_chapters v' = Bk_chapters v ∧ Bk_nextId v' = Bk_nextId v ∧ Bk_votes v' = Bk_votes v ∧ Bk_carried v' = Bk_carried v := by
    intro j
    induction j with
    | zero =>
      intro A R n v f hA hv _ _ hrv hn
      obtain ⟨n, rfl⟩ : ∃ z, n = z + 1 := ⟨n - 1, by omega⟩
      have e : A = [] := List.eq_nil_of_length_eq_zero hA
      subst e
      rw [f_X0_turn_L10, if_pos nI_00]
      unfold f_X0_turn_B93
      cases fwd
      · rw [if_pos b2_f, hrv]
        exact ⟨_, rfl, hv, rfl, rfl, rfl, rfl, rfl, rfl, rfl⟩
      · rw [if_neg (by decide), hrv]
        exact ⟨_, rfl, hv, rfl, rfl, rfl, rfl, rfl, rfl, rfl⟩
    | succ j ih =>
      intro A R n v f hA hv hb hw2 hrv hn
      obtain ⟨n, rfl⟩ : ∃ z, n = z + 1 := ⟨n - 1, by omega⟩
      obtain ⟨B, m, rfl, hB⟩ := last_of hA
      rw [List.append_assoc, List.singleton_append] at hv hb
      have hm : (B ++ m :: R)[j]? = some m := by
        rw [← hB]
        exact get_mid B m R
      have hlen := hb.1
      have hj := lt_get hm
      have hwm : mWr m ≤ 2 := hw2 m (List.mem_append_right _ List.mem_cons_self)
      have hwB : ∀ z ∈ B, mWr z ≤ 2 := fun z hz => hw2 z (List.mem_append_left _ hz)
      have f1 : [m].filterMap (wears r cnt fwd) = (match wears r cnt fwd m with | none => [] | some z => [z]) := by
        rw [List.filterMap_cons]
        cases wears r cnt fwd m <;> rfl
      have f2 : falls r cnt fwd [m] = if onWay r cnt fwd m = true ∧ 2 ≤ mWr m then 1 else 0 := by
        unfold falls
        rw [List.map_cons, List.map_nil, List.sum_cons, List.sum_nil, Nat.add_zero]
      rw [nI_dn, f_X0_turn_L10, if_neg (nI_pos (by omega)), s_isEarOnTheWay hv hb hrv hr6 hm hcn fwd, bd_s, List.filterMap_append, falls_app, f1, f2]
      unfold f_X0_turn_B57
      cases ho : onWay r cnt fwd m
      · have ew : wears r cnt fwd m = some m := by
          unfold wears
          rw [ho, if_neg (by decide)]
        rw [if_pos b2_f, if_neg (by rintro ⟨z, -⟩; cases z), ew, Nat.add_zero, add_m1]
        obtain ⟨v', q1, q2, q3⟩ := ih B (m :: R) n v f hB hv hb hwB hrv (by omega)
        refine ⟨v', q1, ?_, q3⟩
        rw [List.append_assoc, List.singleton_append]
        exact q2
      · have hp := (hb.2 m (mem_get hm))
        rw [if_neg (by decide), gd_n (by omega) (by decide), gd_n (by omega) (by decide), gd_n (by omega) (by decide), cl_n (by omega), pk_us, (hv.2 j m hm).2.2.2.1, nI_1]
        have hv1 : hM (wrS v j (nI (mWr m + 1))) (B ++ (mId m, mPg m, mWt m, mWr m + 1, mSt m) :: R) := by
          have := hM_wr hv (mWr m + 1)
          rw [hB] at this
          exact this
        have hb1 : bL (B ++ (mId m, mPg m, mWt m, mWr m + 1, mSt m) :: R) := by
          refine ⟨by rw [← show (B ++ m :: R).length = (B ++ (mId m, mPg m, mWt m, mWr m + 1, mSt m) :: R).length by simp]; exact hb.1, fun z hz => ?_⟩
          rcases List.mem_append.mp hz with h1 | h1
          · exact hb.2 z (List.mem_append_left _ h1)
          · rcases List.mem_cons.mp h1 with h2 | h2
            · rw [h2]
              exact ⟨hp.1, hp.2.1, hp.2.2.1, by show mWr m + 1 ≤ 3; omega, hp.2.2.2.2⟩
            · exact hb.2 z (List.mem_append_right _ (List.mem_cons_of_mem _ h2))
        by_cases e : 2 ≤ mWr m
        · have ew : wears r cnt fwd m = none := by
            unfold wears
            rw [ho, if_pos rfl, if_pos e]
          rw [if_neg (show ¬ nI (mWr m + 1) < (3 : Int32) from nI_nlt (a := mWr m + 1) (b := 3) (by omega) (by omega)), if_pos ⟨rfl, e⟩, ew]
          obtain ⟨v2, q1, q2, q3⟩ := s_takeOut hv1 hb1.1 (i := j) (by rw [List.length_append, List.length_cons]; omega)
          have q1' := q1
          unfold wrS at q1'
          rw [q1', bd_s, nI_1, add_m1]
          rw [← hB, erase_mid] at q2
          have hb2 : bL (B ++ R) := bL_sub hb (by simp) (fun z hz => by
            rcases List.mem_append.mp hz with h1 | h1
            · exact List.mem_append_left _ h1
            · exact List.mem_append_right _ (List.mem_cons_of_mem _ h1))
          unfold rsB at q3
          simp only [Prod.mk.injEq] at q3
          obtain ⟨v', p1, p2, p3, p4, p5, p6, p7, p8, p9⟩ := ih B R n v2 (f + 1) hB q2 hb2 hwB (q3.2.2.1.trans hrv) (by omega)
          refine ⟨v', ?_, ?_, p3, ?_, p5.trans q3.1, p6.trans q3.2.1, p7.trans q3.2.2.2.1, p8.trans q3.2.2.2.2.1, p9.trans q3.2.2.2.2.2.1⟩
          · rw [p1]
            congr 3
            omega
          · rw [List.append_nil]
            exact p2
          · rw [p4, q3.2.2.2.2.2.2]
            show Bk_fallen v + _ = _
            congr 2
            omega
        · have ew : wears r cnt fwd m = some (mId m, mPg m, mWt m, mWr m + 1, mSt m) := by
            unfold wears
            rw [ho, if_pos rfl, if_neg e]
          rw [if_pos (show nI (mWr m + 1) < (3 : Int32) from nI_lt (b := 3) (by omega) (by omega)), if_neg (fun z => e z.2), ew, Nat.add_zero, add_m1]
          obtain ⟨v', q1, q2, q3⟩ := ih B ((mId m, mPg m, mWt m, mWr m + 1, mSt m) :: R) n (wrS v j (nI (mWr m + 1))) f hB hv1 hb1 hwB hrv (by omega)
          refine ⟨v', q1, ?_, q3⟩
          rw [List.append_assoc, List.singleton_append]
          exact q2
  unfold f_X0_turn
  rw [h.1]
  obtain ⟨v', q1, q2, q3, q4, q5⟩ := key L.length L [] 100 v 0 rfl (by rw [List.append_nil]; exact h) (by rw [List.append_nil]; exact b) b2w hr (by have := b.1; omega)
  rw [List.append_nil] at q2
  rw [Nat.zero_add] at q1 q4
  exact ⟨v', q1, q2, q3, q4, q5⟩
