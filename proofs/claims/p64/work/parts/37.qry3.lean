/-! ===== orders, totals, rejections ===== -/
section QR3
variable {N : Nat} {x : XV} {m : MdV}
theorem ag_pagesToNextMark (h : RX N x m) : Ag [NSE] N (f_X3_pagesToNextMark x) (f_X4_pagesToNextMark m) := by
  obtain ⟨L, L', S, r, nid, h1, h2, h3, h4, h5, h6, h7, h8, ⟨r6, hr, hr'⟩, -⟩ := h.1
  have hl := h5.1
  have hl' := (h5.perm h3).1
  unfold f_X3_pagesToNextMark f_X4_pagesToNextMark
  rw [hr, gk_3, gk_3, ck_3, hr', nI_1]
  obtain ⟨s, hs, hs2⟩ := s_from h1 h4 h5 (p := r + 1) (by omega)
  rw [hs, bd_s]
  by_cases e : r + 1 < 60
  · rw [if_neg (show ¬ (60 : Int32) ≤ nI (r + 1) from nI_ge (b := 60) e (by decide))]
    obtain ⟨t, ht, ht2⟩ := tm_nearest h2 (h5.perm h3) e (side := 0) (by omega)
    have ht' : f_X4_nearest m (nI (r + 1)) 0 = some t := ht
    rw [ht', bd_s]
    unfold f_X4_pagesToNextMark_B30 f_X4_pagesToNextMark_B41 f_X4_pagesToNextMark_B64
    rcases two_one h1 h2 h3 h5 hs2 ht2 with ⟨e1, e2⟩ | ⟨i, k, z, hi, hk, e1, e2, e3, e4⟩
    · rw [e1, if_pos rfl, e2, if_pos (by decide), tm_fine0, bd_s, if_pos rfl]
      exact Ag.thr 0 rfl rfl rfl rfl (h.th 1)
    · rw [e1, if_neg (nI_m1 (by omega)), gd_n hi (by decide), cl_n (by omega), e3.2.1, e2, if_neg (nI_pos (by omega)), tm_fine1, bd_s, if_neg fst1]
      refine Ag.ret (m' := mTh m 0) rfl ?_ rfl (h.th 0)
      show bd (f_X4_m (mTh m 0) (nI k) 1) (fun r4 => gd (inb 3 825) (some (r4 - Md_all m (cl 3), mTh m 0))) = _
      rw [rm_1 (w := mTh m 0) hk e4, bd_s, gk_3, ck_3, hr']
  · have e0 : r + 1 = 60 := by omega
    rw [if_pos (show (60 : Int32) ≤ nI (r + 1) from nI_le (a := 60) (by omega) (by omega))]
    unfold f_X4_pagesToNextMark_B30 f_X4_pagesToNextMark_B41 f_X4_pagesToNextMark_B64
    rcases hs2 with ⟨e1, -⟩ | ⟨i, z, hz, -, hn⟩
    · rw [e1, if_pos rfl, if_pos (by decide), tm_fine0, bd_s, if_pos rfl]
      exact Ag.thr 0 rfl rfl rfl rfl (h.th 1)
    · have := hn.2.1.1 rfl
      have := (h5.bL.2 z hn.1).2.1
      omega
theorem tm_ears {w : MdV} {L' : List M5} (h2 : sM (Md_all w) L') (b : bL L') {r : Nat} (hr : Md_all w 3 = nI r) (hr6 : r < 60) {cnt : Nat} (hcn : cnt ≤ 20) (fwd : Bool) : f_X4_earsAtRisk_L21 100 (nI cnt) (b2 fwd) 0 0 w = some (nI (L'.map fun z => if onWay r cnt fwd z = true ∧ mWr z = 2 then 1 else 0).sum, w) := by
  have hl := b.1
  have key : ∀ d i n acc, i + d = L'.length → d < n → f_X4_earsAtRisk_L21 n (nI cnt) (b2 fwd) (nI acc) (nI i) w = some (nI (acc + ((L'.drop i).map fun z => if onWay r cnt fwd z = true ∧ mWr z = 2 then 1 else 0).sum), w) := by
    intro d
    induction d with
    | zero =>
      intro i n acc hi hn
      obtain ⟨n, rfl⟩ : ∃ z, n = z + 1 := ⟨n - 1, by omega⟩
      have e : i = L'.length := by omega
      rw [f_X4_earsAtRisk_L21, gk_0, ck_0, h2.1, e, if_pos (Int32.le_refl _), List.drop_length]
      rfl
    | succ d ih =>
      intro i n acc hi hn
      obtain ⟨n, rfl⟩ : ∃ z, n = z + 1 := ⟨n - 1, by omega⟩
      have hil : i < L'.length := by omega
      have hm : L'[i]? = some L'[i] := List.getElem?_eq_getElem hil
      have hp := (b.2 _ (mem_get hm)).2.1
      have hw := (b.2 _ (mem_get hm)).2.2.2.1
      have hst := (b.2 _ (mem_get hm)).2.2.2.2
      rw [f_X4_earsAtRisk_L21, gk_0, ck_0, h2.1, if_neg (nI_ge hil (by omega)), tm_st h2 b hm, bd_s, List.drop_eq_getElem_cons hil, List.map_cons, List.sum_cons]
      unfold f_X4_earsAtRisk_B74 f_X4_earsAtRisk_B75
      have no : ¬ (onWay r cnt fwd L'[i] = true ∧ mWr L'[i] = 2) → f_X4_earsAtRisk_L21 n (nI cnt) (b2 fwd) (nI acc + 0) (nI i + 1) w = some (nI (acc + ((if onWay r cnt fwd L'[i] = true ∧ mWr L'[i] = 2 then 1 else 0) + ((L'.drop (i + 1)).map fun z => if onWay r cnt fwd z = true ∧ mWr z = 2 then 1 else 0).sum)), w) := by
        intro q
        rw [Int32.add_zero, nI_1, if_neg q, ih (i + 1) n acc (by omega) (by omega), Nat.zero_add]
      by_cases hq : mSt L'[i] = 0
      · rw [hq, if_pos (by decide), tm_wr h2 b hm, bd_s]
        by_cases hw2 : mWr L'[i] = 2
        · rw [if_pos (show nI (mWr L'[i]) = (2 : Int32) by rw [hw2]; rfl), tm_pg h2 b hm, bd_s, tm_isPassed w hr hr6 hp hcn, bd_s]
          have eo : onWay r cnt fwd L'[i] = if fwd = true then decide (r < mPg L'[i] ∧ mPg L'[i] ≤ r + cnt) else decide (mPg L'[i] < r ∧ r ≤ mPg L'[i] + cnt) := by
            unfold onWay
            rw [decide_eq_true hq, Bool.true_and]
          rw [← eo]
          cases ho : onWay r cnt fwd L'[i]
          · rw [if_pos b2_f]
            have := no (by rw [ho]; rintro ⟨z, -⟩; cases z)
            rw [ho] at this
            exact this
          · rw [if_neg (by decide), nI_1, nI_1, if_pos ⟨rfl, hw2⟩, ih (i + 1) n (acc + 1) (by omega) (by omega), Nat.add_assoc]
        · rw [if_neg (show ¬ nI (mWr L'[i]) = (2 : Int32) from fun z => hw2 ((nI_eq (by omega) (by decide)).mp (show nI (mWr L'[i]) = nI 2 from z)))]
          exact no (fun z => hw2 z.2)
      · rw [if_neg (nI_ne0 (by omega) (by omega))]
        exact no (fun z => by
          have := z.1
          unfold onWay at this
          rw [decide_eq_false hq, Bool.false_and] at this
          cases this)
  have h9 := key L'.length 0 100 0 (by omega) (by omega)
  rw [List.drop_zero, Nat.zero_add] at h9
  exact h9
theorem ag_earsAtRisk (h : RX N x m) (a : Int32) (fwd : Bool) : Ag [IAE] N (f_X3_earsAtRisk x a (b2 fwd)) (f_X4_earsAtRisk m a (b2 fwd)) := by
  obtain ⟨L, L', S, r, nid, h1, h2, h3, h4, h5, h6, h7, h8, ⟨r6, hr, hr'⟩, -⟩ := h.1
  unfold f_X3_earsAtRisk f_X4_earsAtRisk
  rw [x_reqCount, bd_s, tm_in, bd_s, tm_isFine, bd_s]
  by_cases hc : 1 ≤ a ∧ a ≤ 20
  · obtain ⟨cnt, hcn, rfl⟩ := nI_of2 (x := a) (M := 20) (n := 20) (by decide) (fun z => Int32.not_lt.mpr hc.1 (Int32.lt_of_lt_of_le z (by decide))) hc.2
    rw [if_pos hc, bx_inl, decide_eq_true hc]
    have e1 : (L.map fun z => if onWay r cnt fwd z = true ∧ 2 ≤ mWr z then 1 else 0).sum = (L'.map fun z => if onWay r cnt fwd z = true ∧ mWr z = 2 then 1 else 0).sum := by
      rw [sum_perm h3]
      refine sum_congr fun z hz => ?_
      have := ((h5.perm h3).2.2.1 z hz).2.2.2.1
      by_cases e : onWay r cnt fwd z = true ∧ mWr z = 2
      · rw [if_pos e, if_pos ⟨e.1, by omega⟩]
      · rw [if_neg e, if_neg (fun q => e ⟨q.1, by omega⟩)]
    refine Ag.ret (r := nI (L.map fun z => if onWay r cnt fwd z = true ∧ 2 ≤ mWr z then 1 else 0).sum) (m' := mTh m 0) ?_ ?_ rfl (h.th 0)
    · show bd (f_X0_earsAboutToFall x.2.1 (nI cnt) (b2 fwd)) _ = _
      rw [s_earsAboutToFall h1 h5.bL hr r6 hcn fwd, bd_s]
    · show (if b2 true = 0 then some ((0 : Int32), mTh m 0) else f_X4_earsAtRisk_L21 100 (nI cnt) (b2 fwd) 0 0 (mTh m 0)) = _
      rw [if_neg (by decide), tm_ears (w := mTh m 0) h2 (h5.perm h3).bL hr' r6 hcn fwd, e1]
  · rw [if_neg hc, bx_inr, decide_eq_false hc]
    exact Ag.thr (m' := mTh m 1) 0 rfl (if_pos rfl) rfl rfl (h.th 1)
/-! ranks -/
/-- y stands ahead of z in the order of weights -/
def ahd (y z : M5) : Bool := if mWt y ≠ mWt z then decide (mWt z < mWt y) else if decide (mSt y ≠ 0) ≠ decide (mSt z ≠ 0) then decide (mSt y ≠ 0) else decide (mPg y < mPg z)
def rnk (L : List M5) (z : M5) : Nat := (L.map fun y => if ahd y z = true then 1 else 0).sum
def rnkP (L : List M5) (z : M5) : Nat := (L.map fun y => if mPg y < mPg z then 1 else 0).sum
theorem s_isAhead {v : BkV} {L : List M5} (h1 : hM v L) (b : bL L) {i j : Nat} {y z : M5} (hi : L[i]? = some y) (hj : L[j]? = some z) : f_X0_isAhead v (nI i) (nI j) = some (b2 (ahd y z)) := by
  have li := lt_get hi
  have lj := lt_get hj
  have hl := b.1
  have by_ := b.2 y (mem_get hi)
  have bz := b.2 z (mem_get hj)
  unfold f_X0_isAhead f_X0_isAhead_B75 f_X0_isAhead_B35
  rw [gd_n (by omega) (by decide), gd_n (by omega) (by decide), cl_n (by omega), cl_n (by omega), (h1.2 i y hi).2.2.1, (h1.2 j z hj).2.2.1]
  by_cases e : mWt y = mWt z
  · rw [if_pos (by rw [e]), s_hasSeat h1 b hi, bd_s, s_hasSeat h1 b hj, bd_s]
    by_cases e2 : decide (mSt y ≠ 0) = decide (mSt z ≠ 0)
    · have ea : ahd y z = decide (mPg y < mPg z) := by
        unfold ahd
        rw [if_neg (fun q => q e), if_neg (fun q => q e2)]
      rw [if_pos (by rw [e2]), gd_n (by omega) (by decide), gd_n (by omega) (by decide), (h1.2 i y hi).2.1, (h1.2 j z hj).2.1, ea]
      by_cases e3 : mPg y < mPg z
      · rw [if_neg (nI_ge e3 (by omega)), gd_z1, decide_eq_true e3]
        rfl
      · rw [if_pos (nI_le (by omega) (by omega)), gd_z0, decide_eq_false e3]
        rfl
    · have ea : ahd y z = decide (mSt y ≠ 0) := by
        unfold ahd
        rw [if_neg (fun q => q e), if_pos e2]
      have e4 : ¬ b2 (decide (mSt y ≠ 0)) = b2 (decide (mSt z ≠ 0)) := by
        intro q
        revert q e2
        cases decide (mSt y ≠ 0) <;> cases decide (mSt z ≠ 0) <;> decide
      rw [if_neg e4, bd_s, gd_z, ea]
  · have ea : ahd y z = decide (mWt z < mWt y) := by
      unfold ahd
      rw [if_pos e]
    rw [if_neg (fun q => e ((nI_eq (by omega) (by omega)).mp q)), gd_n (by omega) (by decide), gd_n (by omega) (by decide), ea]
    by_cases e3 : mWt z < mWt y
    · rw [if_neg (nI_ge e3 (by omega)), gd_z1, decide_eq_true e3]
      rfl
    · rw [if_pos (nI_le (by omega) (by omega)), gd_z0, decide_eq_false e3]
      rfl
theorem s_rankOf {v : BkV} {L : List M5} (h1 : hM v L) (b : bL L) {j : Nat} {z : M5} (hj : L[j]? = some z) : f_X0_rankOf v (nI j) = some (nI (rnk L z)) := by
  have hl := b.1
  refine sumL (F := fun n a s => f_X0_rankOf_L4 v n (nI j) a s) (w := fun y => if ahd y z = true then 1 else 0) (by omega) ?_ ?_
  · intro n a
    show f_X0_rankOf_L4 v (n + 1) (nI j) (nI a) (nI L.length) = _
    rw [f_X0_rankOf_L4, h1.1, if_pos (Int32.le_refl _)]
  · intro n a i y hi
    have li := lt_get hi
    show f_X0_rankOf_L4 v (n + 1) (nI j) (nI a) (nI i) = f_X0_rankOf_L4 v n (nI j) (nI (a + if ahd y z = true then 1 else 0)) (nI (i + 1))
    rw [f_X0_rankOf_L4, h1.1, if_neg (nI_ge li (by omega)), s_isAhead h1 b hi hj, bd_s]
    unfold f_X0_rankOf_B24
    cases ahd y z
    · rw [if_pos b2_f, if_neg (by decide), nI_1, Nat.add_zero a]
    · rw [if_neg (by decide), if_pos rfl, nI_1, nI_1]
theorem s_slotOfRank {v : BkV} {L : List M5} (h1 : hM v L) (b : bL L) (a : Int32) : ∃ r, f_X0_slotOfRank v a = some r ∧ Fnd L (fun z => nI (rnk L z) = a) r := by
  have hl := b.1
  refine fndL (F := fun n s => f_X0_slotOfRank_L2 v n a s) (by omega) ?_ ?_ ?_
  · intro n
    show f_X0_slotOfRank_L2 v (n + 1) a (nI L.length) = _
    rw [f_X0_slotOfRank_L2, h1.1, if_pos (Int32.le_refl _)]
  · intro n i z hz hq
    have hi := lt_get hz
    show f_X0_slotOfRank_L2 v (n + 1) a (nI i) = _
    rw [f_X0_slotOfRank_L2, h1.1, if_neg (nI_ge hi (by omega)), s_rankOf h1 b hz, bd_s, if_pos hq]
  · intro n i z hz hq
    have hi := lt_get hz
    show f_X0_slotOfRank_L2 v (n + 1) a (nI i) = f_X0_slotOfRank_L2 v n a (nI (i + 1))
    rw [f_X0_slotOfRank_L2, h1.1, if_neg (nI_ge hi (by omega)), s_rankOf h1 b hz, bd_s, if_neg hq, nI_succ]
theorem tm_weightRank {w : MdV} {L' : List M5} (h2 : sM (Md_all w) L') (b : bL L') {j : Nat} {z : M5} (hj : L'[j]? = some z) : f_X4_weightRank w (nI j) = some (nI (rnk L' z)) := by
  have hl := b.1
  refine sumL (F := fun n a s => f_X4_weightRank_L4 w n (nI j) a s) (w := fun y => if ahd y z = true then 1 else 0) (by omega) ?_ ?_
  · intro n a
    show f_X4_weightRank_L4 w (n + 1) (nI j) (nI a) (nI L'.length) = _
    rw [f_X4_weightRank_L4, gk_0, ck_0, h2.1, if_pos (Int32.le_refl _)]
  · intro n a i y hi
    have li := lt_get hi
    have by_ := b.2 y (mem_get hi)
    have bz := b.2 z (mem_get hj)
    show f_X4_weightRank_L4 w (n + 1) (nI j) (nI a) (nI i) = f_X4_weightRank_L4 w n (nI j) (nI (a + if ahd y z = true then 1 else 0)) (nI (i + 1))
    have seat : ∀ (q : Nat) (A B : Option Int32), q ≤ 5 → (if nI q ≤ 0 then A else B) = if q = 0 then A else B := by
      intro q A B hq
      by_cases e : q = 0
      · rw [if_pos e, if_pos ((nI_le0 (by omega)).mpr e)]
      · rw [if_neg e, if_neg (fun s => e ((nI_le0 (by omega)).mp s))]
    rw [f_X4_weightRank_L4, gk_0, ck_0, h2.1, if_neg (nI_ge li (by omega)), tm_wt h2 b hi, bd_s, tm_wt h2 b hj, bd_s, tm_st h2 b hi, bd_s, seat _ _ _ by_.2.2.2.2]
    have e43 : ∀ s : Int32, f_X4_weightRank_B43 (f_X4_weightRank_L4 w n) w (nI j) (nI a) (nI i) (nI (mWt y) - nI (mWt z)) s = f_X4_weightRank_B57 (f_X4_weightRank_L4 w n) w (nI j) (nI a) (nI i) (nI (mWt y) - nI (mWt z)) (if mSt z = 0 then 0 else 1) s := by
      intro s
      unfold f_X4_weightRank_B43
      rw [tm_st h2 b hj, bd_s, seat _ _ _ bz.2.2.2.2]
      split <;> rfl
    rw [e43, e43]
    have fin : ∀ c : Bool, ahd y z = c → f_X4_weightRank_B101 (f_X4_weightRank_L4 w n) w (nI j) (nI a) (nI i) (nI (mWt y) - nI (mWt z)) 0 (b2 c) (nI a) = f_X4_weightRank_L4 w n (nI j) (nI (a + if ahd y z = true then 1 else 0)) (nI (i + 1)) := by
      intro c hc
      unfold f_X4_weightRank_B101
      rw [hc]
      cases c
      · rw [if_neg (by decide), show nI a + b2 false = nI a from Int32.add_zero _, nI_1, Nat.add_zero a]
      · rw [if_pos rfl, show nI a + b2 true = nI (a + 1) from nI_1 a, nI_1]
    have d1 : (nI (mWt y) - nI (mWt z)).toInt = (mWt y : Int) - mWt z := nI_sub_toInt (by omega) (by omega)
    have g0 : 0 < nI (mWt y) - nI (mWt z) ↔ mWt z < mWt y := by
      rw [Int32.lt_iff_toInt_lt, d1, Int32.toInt_zero]
      omega
    have gz : nI (mWt y) - nI (mWt z) = 0 ↔ mWt y = mWt z := by
      rw [← Int32.toInt_inj, d1, Int32.toInt_zero]
      omega
    have main : ∀ sy sz : Int32, (sy = if mSt y = 0 then 0 else 1) → (sz = if mSt z = 0 then 0 else 1) → f_X4_weightRank_B57 (f_X4_weightRank_L4 w n) w (nI j) (nI a) (nI i) (nI (mWt y) - nI (mWt z)) sz sy = f_X4_weightRank_L4 w n (nI j) (nI (a + if ahd y z = true then 1 else 0)) (nI (i + 1)) := by
      intro sy sz hy hz
      unfold f_X4_weightRank_B57 f_X4_weightRank_B96 f_X4_weightRank_B100
      by_cases e : mWt z < mWt y
      · rw [if_pos (g0.mpr e)]
        exact fin true (by unfold ahd; rw [if_pos (by omega), decide_eq_true e])
      · rw [if_neg (fun q => e (g0.mp q))]
        by_cases e2 : mWt y = mWt z
        · rw [if_pos (gz.mpr e2)]
          by_cases ey : mSt y = 0
          · rw [if_pos ey] at hy
            by_cases ez : mSt z = 0
            · rw [if_pos ez] at hz
              rw [hy, hz, if_neg (by decide), if_pos (by decide), tm_pg h2 b hi, bd_s, tm_pg h2 b hj, bd_s]
              by_cases e3 : mPg y < mPg z
              · rw [if_neg (nI_ge e3 (by omega))]
                exact fin true (by unfold ahd; rw [if_neg (fun q => q e2), decide_eq_false (by omega : ¬ mSt y ≠ 0), decide_eq_false (by omega : ¬ mSt z ≠ 0), if_neg (by decide), decide_eq_true e3])
              · rw [if_pos (nI_le (by omega) (by omega))]
                exact fin false (by unfold ahd; rw [if_neg (fun q => q e2), decide_eq_false (by omega : ¬ mSt y ≠ 0), decide_eq_false (by omega : ¬ mSt z ≠ 0), if_neg (by decide), decide_eq_false e3])
            · rw [if_neg ez] at hz
              rw [hy, hz, if_neg (by decide), if_neg (by decide)]
              exact fin false (by unfold ahd; rw [if_neg (fun q => q e2), decide_eq_false (by omega : ¬ mSt y ≠ 0), decide_eq_true ez, if_pos (by decide)])
          · rw [if_neg ey] at hy
            by_cases ez : mSt z = 0
            · rw [if_pos ez] at hz
              rw [hy, hz, if_pos (by decide)]
              exact fin true (by unfold ahd; rw [if_neg (fun q => q e2), decide_eq_true ey, decide_eq_false (by omega : ¬ mSt z ≠ 0), if_pos (by decide)])
            · rw [if_neg ez] at hz
              rw [hy, hz, if_neg (by decide), if_pos (by decide), tm_pg h2 b hi, bd_s, tm_pg h2 b hj, bd_s]
              by_cases e3 : mPg y < mPg z
              · rw [if_neg (nI_ge e3 (by omega))]
                exact fin true (by unfold ahd; rw [if_neg (fun q => q e2), decide_eq_true ey, decide_eq_true ez, if_neg (by decide), decide_eq_true e3])
              · rw [if_pos (nI_le (by omega) (by omega))]
                exact fin false (by unfold ahd; rw [if_neg (fun q => q e2), decide_eq_true ey, decide_eq_true ez, if_neg (by decide), decide_eq_false e3])
        · rw [if_neg (fun q => e2 (gz.mp q))]
          exact fin false (by unfold ahd; rw [if_pos e2, decide_eq_false e])
    by_cases ey : mSt y = 0
    · rw [if_pos ey]
      exact main 0 _ (by rw [if_pos ey]) rfl
    · rw [if_neg ey]
      exact main 1 _ (by rw [if_neg ey]) rfl
theorem tm_pageRank {w : MdV} {L' : List M5} (h2 : sM (Md_all w) L') (b : bL L') {j : Nat} {z : M5} (hj : L'[j]? = some z) : f_X4_pageRank w (nI j) = some (nI (rnkP L' z)) := by
  have hl := b.1
  refine sumL (F := fun n a s => f_X4_pageRank_L4 w n (nI j) a s) (w := fun y => if mPg y < mPg z then 1 else 0) (by omega) ?_ ?_
  · intro n a
    show f_X4_pageRank_L4 w (n + 1) (nI j) (nI a) (nI L'.length) = _
    rw [f_X4_pageRank_L4, gk_0, ck_0, h2.1, if_pos (Int32.le_refl _)]
  · intro n a i y hi
    have li := lt_get hi
    have by_ := b.2 y (mem_get hi)
    have bz := b.2 z (mem_get hj)
    show f_X4_pageRank_L4 w (n + 1) (nI j) (nI a) (nI i) = f_X4_pageRank_L4 w n (nI j) (nI (a + if mPg y < mPg z then 1 else 0)) (nI (i + 1))
    rw [f_X4_pageRank_L4, gk_0, ck_0, h2.1, if_neg (nI_ge li (by omega)), tm_pg h2 b hi, bd_s, tm_pg h2 b hj, bd_s]
    unfold f_X4_pageRank_B35
    by_cases e : mPg y < mPg z
    · rw [if_neg (nI_ge e (by omega)), if_pos e, nI_1, nI_1]
    · rw [if_pos (nI_le (by omega) (by omega)), if_neg e, Int32.add_zero, nI_1, Nat.add_zero a]
theorem rnk_perm {L L' : List M5} (p : L.Perm L') (z : M5) : rnk L z = rnk L' z := sum_perm p _
theorem sum_lt {L : List M5} {u w : M5 → Nat} (h : ∀ y ∈ L, u y ≤ w y) {z : M5} (hz : z ∈ L) (hlt : u z < w z) : (L.map u).sum < (L.map w).sum := by
  induction L with
  | nil => cases hz
  | cons a L ih =>
    rw [List.map_cons, List.map_cons, List.sum_cons, List.sum_cons]
    have ha := h a List.mem_cons_self
    have hr : (L.map u).sum ≤ (L.map w).sum := by
      clear ih hz
      induction L with
      | nil => exact Nat.le_refl _
      | cons c L ih2 =>
        rw [List.map_cons, List.map_cons, List.sum_cons, List.sum_cons]
        have := h c (List.mem_cons_of_mem _ List.mem_cons_self)
        have := ih2 (fun y hy => h y ((List.mem_cons.mp hy).elim (fun e => by rw [e]; exact List.mem_cons_self) (fun q => List.mem_cons_of_mem _ (List.mem_cons_of_mem _ q))))
        omega
    rcases List.mem_cons.mp hz with e | e
    · rw [e] at hlt
      omega
    · have := ih (fun y hy => h y (List.mem_cons_of_mem _ hy)) e
      omega
/-- .. is a strict order -/
theorem ahd_iff {y z : M5} : ahd y z = true ↔ mWt z < mWt y ∨ (mWt y = mWt z ∧ ((mSt y ≠ 0 ∧ mSt z = 0) ∨ ((mSt y = 0 ↔ mSt z = 0) ∧ mPg y < mPg z))) := by
  unfold ahd
  by_cases e : mWt y = mWt z
  · rw [if_neg (fun q => q e)]
    by_cases ey : mSt y = 0
    · by_cases ez : mSt z = 0
      · rw [decide_eq_false (by omega : ¬ mSt y ≠ 0), decide_eq_false (by omega : ¬ mSt z ≠ 0), if_neg (by decide), decide_eq_true_iff]
        omega
      · rw [decide_eq_false (by omega : ¬ mSt y ≠ 0), decide_eq_true ez, if_pos (by decide)]
        constructor
        · intro q
          cases q
        · omega
    · by_cases ez : mSt z = 0
      · rw [decide_eq_true ey, decide_eq_false (by omega : ¬ mSt z ≠ 0), if_pos (by decide)]
        constructor
        · omega
        · intro _
          rfl
      · rw [decide_eq_true ey, decide_eq_true ez, if_neg (by decide), decide_eq_true_iff]
        omega
  · rw [if_pos e, decide_eq_true_iff]
    omega
theorem rnk_lt {L : List M5} {y z : M5} (hy : y ∈ L) (h : ahd y z = true) : rnk L y < rnk L z := by
  refine sum_lt (fun w _ => ?_) hy ?_
  · by_cases e : ahd w y = true
    · rw [if_pos e, if_pos]
      · exact Nat.le_refl _
      · rw [ahd_iff] at e h ⊢
        omega
    · rw [if_neg e]
      exact Nat.zero_le _
  · rw [if_pos h, if_neg]
    · exact Nat.zero_lt_one
    · intro q
      rw [ahd_iff] at q
      omega
theorem rnk_one {L : List M5} {nid : Nat} (h5 : okL nid L) {y z : M5} (hy : y ∈ L) (hz : z ∈ L) (h : rnk L y = rnk L z) : y = z := by
  refine pg_one h5 hy hz ?_
  have n1 : ¬ ahd y z = true := fun q => by
    have := rnk_lt hy q
    omega
  have n2 : ¬ ahd z y = true := fun q => by
    have := rnk_lt hz q
    omega
  rw [ahd_iff] at n1 n2
  omega
theorem rnkP_at {L : List M5} (h4 : srt L) {i : Nat} {z : M5} (hz : L[i]? = some z) : rnkP L z = i := by
  unfold rnkP
  have key : ∀ (L : List M5) (i : Nat), srt L → L[i]? = some z → (L.map fun y => if mPg y < mPg z then 1 else 0).sum = i := by
    intro L
    induction L with
    | nil =>
      intro i _ h
      cases h
    | cons a L ih =>
      intro i hs hi
      unfold srt at hs
      rw [List.pairwise_cons] at hs
      rw [List.map_cons, List.sum_cons]
      cases i with
      | zero =>
        cases hi
        rw [if_neg (by omega)]
        have : (L.map fun y => if mPg y < mPg z then 1 else 0).sum = (L.map fun _ => 0).sum := sum_congr fun y hy => if_neg (by have := hs.1 y hy; omega)
        rw [this]
        have z0 : ∀ l : List M5, (l.map fun _ => 0).sum = 0 := by
          intro l
          induction l with
          | nil => rfl
          | cons a l ih => rw [List.map_cons, List.sum_cons, ih]
        rw [z0]
      | succ i =>
        have hi2 : L[i]? = some z := hi
        rw [if_pos (hs.1 z (mem_get hi2)), ih i hs.2 hi2, Nat.add_comm]
  exact key L i h4 hz
/-- the model's search by a rank -/
theorem tm_byRank {F : Nat → Int32 → Int32 → MdV → Option (Int32 × MdV)} {B : (Int32 → Int32 → MdV → Option (Int32 × MdV)) → Int32 → Int32 → Int32 → MdV → Option (Int32 × MdV)} {fr : MdV → Int32 → Option Int32} {rk : M5 → Nat}
    (hF : ∀ n p i w, F (n + 1) p i w = gd (inb 0 825) (if Md_all w (cl 0) ≤ i then some (0, mTh w 1) else bd (fr w i) (fun r8 => if r8 = p then B (F n) p i 1 w else B (F n) p i 0 w)))
    (hB : ∀ J p i s w, B J p i s w = bd (f_X4_isFine w s) (fun r1 => if r1.1 = 0 then J p (i + 1) r1.2 else bd (f_X4_m r1.2 i 0) (fun r4 => some (r4, r1.2))))
    {a : Nat → Int32} {L' : List M5} (b : bL L') (h2 : sM a L') (hr : ∀ w, Md_all w = a → ∀ i z, L'[i]? = some z → fr w (nI i) = some (nI (rk z))) (p : Int32) (w : MdV) (hw : Md_all w = a) :
    (∃ z ∈ L', nI (rk z) = p ∧ F 100 p 0 w = some (nI (mId z), mTh w 0)) ∨ ((∀ z ∈ L', ¬ nI (rk z) = p) ∧ F 100 p 0 w = some (0, mTh w 1)) := by
  have hl := b.1
  have key : ∀ d i n (u : MdV), i + d = L'.length → d < n → Md_all u = a → (∃ t, u = mTh w t) → (∀ j z, j < i → L'[j]? = some z → ¬ nI (rk z) = p) → (∃ z ∈ L', nI (rk z) = p ∧ F n p (nI i) u = some (nI (mId z), mTh w 0)) ∨ ((∀ z ∈ L', ¬ nI (rk z) = p) ∧ F n p (nI i) u = some (0, mTh w 1)) := by
    intro d
    induction d with
    | zero =>
      intro i n u hi hn hu hwt hb
      obtain ⟨n, rfl⟩ : ∃ z, n = z + 1 := ⟨n - 1, by omega⟩
      obtain ⟨t, ht⟩ := hwt
      have e : i = L'.length := by omega
      right
      refine ⟨fun z hz => ?_, ?_⟩
      · obtain ⟨j, hj⟩ := List.getElem?_of_mem hz
        exact hb j z (by have := lt_get hj; omega) hj
      · rw [hF, gk_0, ck_0, hu, h2.1, e, if_pos (Int32.le_refl _), ht]
        rfl
    | succ d ih =>
      intro i n u hi hn hu hwt hb
      obtain ⟨n, rfl⟩ : ∃ z, n = z + 1 := ⟨n - 1, by omega⟩
      obtain ⟨t, ht⟩ := hwt
      have hil : i < L'.length := by omega
      have hz : L'[i]? = some L'[i] := List.getElem?_eq_getElem hil
      rw [hF, gk_0, ck_0, hu, h2.1, if_neg (nI_ge hil (by omega)), hr u hu i _ hz, bd_s, hB, hB, tm_fine1, tm_fine0, bd_s, bd_s]
      by_cases e : nI (rk L'[i]) = p
      · left
        refine ⟨L'[i], mem_get hz, e, ?_⟩
        rw [if_pos e, if_neg fst1]
        show bd (f_X4_m (mTh u 0) (nI i) 0) (fun r4 => some (r4, mTh u 0)) = _
        rw [rm_0 (w := mTh u 0) (by omega) (by show rS (Md_all u) i L'[i]; rw [hu]; exact h2.2 i _ hz), bd_s, ht]
        rfl
      · rw [if_neg e, if_pos rfl, nI_1]
        refine ih (i + 1) n (mTh u 1) (by omega) (by omega) hu ⟨1, by rw [ht]; rfl⟩ (fun j z hj hjz => ?_)
        by_cases e2 : j = i
        · rw [e2, hz] at hjz
          cases hjz
          exact e
        · exact hb j z (by omega) hjz
  have hw0 : w = mTh w (Md_thrown w) := rfl
  exact key L'.length 0 100 w (by omega) (by omega) hw ⟨_, hw0⟩ (fun j z hj => absurd hj (Nat.not_lt_zero _))
theorem ag_found {r : Int32} {codes : List String} {fm : Option (Int32 × MdV)} (h : RX N x m) (hcd : codes[0]? = some NSE) (hc : (r = -1 ∧ fm = some (0, mTh m 1)) ∨ ∃ i z, i < 12 ∧ r = nI i ∧ rB x.2.1 i z ∧ fm = some (nI (mId z), mTh m 0)) : Ag codes N (bd (f_X3_idOfFound x r) (fun r5 => bx r5 (fun r5 => some (.inl (r5.1, r5.2))) (fun r5 => some (.inr r5)))) fm := by
  rw [bx_id]
  unfold f_X3_idOfFound
  rcases hc with ⟨rfl, e⟩ | ⟨i, z, hi, rfl, hb, e⟩
  · rw [if_pos rfl]
    exact Ag.thr 0 rfl e hcd rfl (h.th 1)
  · rw [if_neg (nI_m1 (by omega)), gd_n hi (by decide), cl_n (by omega), hb.1]
    exact Ag.ret rfl e rfl (h.th 0)
theorem ag_markByWeight (h : RX N x m) (p : Int32) : Ag [NSE] N (f_X3_markByWeight x p) (f_X4_markByWeight m p) := by
  obtain ⟨L, L', S, r, nid, h1, h2, h3, h4, h5, -⟩ := h.1
  have h5' := h5.perm h3
  have hl := h5.1
  obtain ⟨s, hs, hf⟩ := s_slotOfRank h1 h5.bL p
  unfold f_X3_markByWeight
  rw [hs, bd_s]
  refine ag_found h rfl ?_
  have bnd : ∀ z : M5, rnk L z ≤ 12 := fun z => by
    have := sum_le L (fun y => if ahd y z = true then 1 else 0) 1 (fun y _ => by show (if ahd y z = true then 1 else 0) ≤ 1; split <;> omega)
    unfold rnk
    omega
  rcases tm_byRank (F := f_X4_markByWeight_L2) (B := f_X4_markByWeight_B27) (fr := f_X4_weightRank) (rk := rnk L') (fun n p i w => rfl) (fun J p i s w => rfl) h5'.bL h2 (fun w hw i z hz => tm_weightRank (w := w) (by rw [hw]; exact h2) h5'.bL hz) p m rfl with ⟨z, hz, hq, e⟩ | ⟨hno, e⟩
  · have hzL := h3.mem_iff.mpr hz
    rcases hf with ⟨i, y, hy, hq2, -, e2⟩ | ⟨e2, hq2⟩
    · have hi := lt_get hy
      have ey : y = z := rnk_one h5 (mem_get hy) hzL ((nI_eq (by have := bnd y; omega) (by have := bnd z; omega)).mp (by rw [hq2, rnk_perm h3]; exact hq.symm))
      exact Or.inr ⟨i, z, by omega, e2, by rw [← ey]; exact h1.2 i y hy, e⟩
    · exact absurd (by show nI (rnk L z) = p; rw [rnk_perm h3]; exact hq) (hq2 z hzL)
  · rcases hf with ⟨i, y, hy, hq2, -, e2⟩ | ⟨e2, hq2⟩
    · exact absurd (by rw [← rnk_perm h3]; exact hq2) (hno y (h3.mem_iff.mp (mem_get hy)))
    · exact Or.inl ⟨e2, e⟩
theorem ag_markByPage (h : RX N x m) (p : Int32) : Ag [NSE] N (f_X3_markByPage x p) (f_X4_markByPage m p) := by
  obtain ⟨L, L', S, r, nid, h1, h2, h3, h4, h5, -⟩ := h.1
  have h5' := h5.perm h3
  have hl := h5.1
  have rk : ∀ z, rnkP L z = rnkP L' z := fun z => sum_perm h3 _
  unfold f_X3_markByPage f_X3_markByPage_B20 f_X3_markByPage_B21
  have g := tm_byRank (F := f_X4_markByPage_L2) (B := f_X4_markByPage_B27) (fr := f_X4_pageRank) (rk := rnkP L') (fun n p i w => rfl) (fun J p i s w => rfl) h5'.bL h2 (fun w hw i z hz => tm_pageRank (w := w) (by rw [hw]; exact h2) h5'.bL hz) p m rfl
  have at_ : ∀ z ∈ L', ∃ i, i < L.length ∧ L[i]? = some z ∧ rnkP L' z = i := fun z hz => by
    obtain ⟨i, hi⟩ := List.getElem?_of_mem (h3.mem_iff.mpr hz)
    exact ⟨i, lt_get hi, hi, by rw [← rk]; exact rnkP_at h4 hi⟩
  by_cases hp : 0 ≤ p ∧ p < nI L.length
  · obtain ⟨i, hi, rfl⟩ := in_rng (by omega) hp
    rw [h1.1, if_neg (nI_pos (by omega)), if_neg (nI_ge hi (by omega))]
    refine ag_found h rfl (Or.inr ?_)
    have hz : L[i]? = some L[i] := List.getElem?_eq_getElem hi
    rcases g with ⟨z, hz2, hq, e⟩ | ⟨hno, e⟩
    · obtain ⟨k, k1, k2, k3⟩ := at_ z hz2
      rw [k3] at hq
      have ek := (nI_eq (by omega) (by omega)).mp hq
      rw [ek] at k2
      exact ⟨i, z, by omega, rfl, h1.2 i z k2, e⟩
    · exact absurd (by rw [← rk, rnkP_at h4 hz]) (hno _ (h3.mem_iff.mp (mem_get hz)))
  · have hno : ∀ z ∈ L', ¬ nI (rnkP L' z) = p := fun z hz q => by
      obtain ⟨k, k1, k2, k3⟩ := at_ z hz
      rw [k3] at q
      exact hp (by rw [← q]; exact ⟨nI_pos' (by omega), nI_lt k1 (by omega)⟩)
    have e : f_X4_markByPage m p = some (0, mTh m 1) := by
      rcases g with ⟨z, hz2, hq, -⟩ | ⟨-, e⟩
      · exact absurd hq (hno z hz2)
      · exact e
    have e9 : (if p < 0 then bd (f_X3_idOfFound x (-1)) (fun r1 => bx r1 (fun r1 => some (.inl (r1.1, r1.2))) (fun r1 => some (.inr r1))) else if Bk_marks x.2.1 ≤ p then bd (f_X3_idOfFound x (-1)) (fun r1 => bx r1 (fun r1 => some (.inl (r1.1, r1.2))) (fun r1 => some (.inr r1))) else bd (f_X3_idOfFound x p) (fun r1 => bx r1 (fun r1 => some (.inl (r1.1, r1.2))) (fun r1 => some (.inr r1)))) = (bd (f_X3_idOfFound x (-1)) (fun r1 => bx r1 (fun r1 => some (.inl (r1.1, r1.2))) (fun r1 => some (.inr r1))) : G9) := by
      by_cases e1 : p < 0
      · rw [if_pos e1]
      · rw [if_neg e1, h1.1, if_pos (Int32.not_lt.mp (fun q => hp ⟨Int32.not_lt.mp e1, q⟩))]
    rw [e9]
    exact ag_found h rfl (Or.inl ⟨rfl, e⟩)
end QR3
