/-! ===== marks found by page, seat, place ===== -/
section QR2
variable {N : Nat} {x : XV} {m : MdV}
/-- both sides' ids of what is found: none, or one mark -/
theorem idf (h : RX N x m) {s t : Int32} (hc : (s = -1 ∧ t = -1) ∨ ∃ i k z, i < 12 ∧ k < 12 ∧ s = nI i ∧ t = nI k ∧ rB x.2.1 i z ∧ rS (Md_all m) k z) {codes : List String} {c : Nat} (hcd : codes[c]? = some NSE) (h2 : nI (c + 1) = 2) : Ag codes N (bd (f_X3_idOfFound x s) (fun r5 => bx r5 (fun r5 => some (.inl (r5.1, r5.2))) (fun r5 => some (.inr r5)))) (bd (f_X4_idOr m 1 t) (fun r5 => some (r5.1, r5.2))) := by
  refine Ag.idm ?_
  rw [bx_id]
  unfold f_X3_idOfFound f_X4_idOr f_X4_idOr_B18 f_X4_idOr_B38
  rw [if_neg (show ¬ (1 : Int32) = 0 by decide)]
  rcases hc with ⟨rfl, rfl⟩ | ⟨i, k, z, hi, hk, rfl, rfl, e1, e2⟩
  · rw [if_pos rfl, if_neg (show ¬ (0 : Int32) ≤ -1 by decide)]
    exact Ag.thr (m' := mTh m 2) c rfl (if_neg (by decide)) hcd h2.symm (h.th 2)
  · rw [if_neg (nI_m1 (by omega)), gd_n hi (by decide), cl_n (by omega), if_pos (nI_pos' (by omega)), if_pos rfl, e1.1]
    refine Ag.ret (m' := mTh m 0) rfl ?_ rfl (h.th 0)
    show bd (f_X4_m (mTh m 0) (nI k) 0) (fun r2 => some (r2, mTh m 0)) = _
    rw [rm_0 (w := mTh m 0) hk e2, bd_s]
theorem idOr_no (m : MdV) (t : Int32) : f_X4_idOr m 0 t = some (0, mTh m 1) := by
  unfold f_X4_idOr f_X4_idOr_B18 f_X4_idOr_B38
  rw [if_pos rfl, if_neg (by decide)]
  rfl
/-- a page's mark -/
theorem pgm (h : RX N x m) (a : Int32) {fs ft : Option Int32} {fx : G9} (hx1 : 0 ≤ a ∧ a < 60 → fx = bd fs (fun r3 => bd (f_X3_idOfFound x r3) (fun r5 => bx r5 (fun r5 => some (.inl (r5.1, r5.2))) (fun r5 => some (.inr r5))))) (hx2 : ¬ (0 ≤ a ∧ a < 60) → fx = some (.inr (IOOBE, x))) (ht : ∃ t, ft = some t) (hc : ∀ L L' S r nid p, RBx N x.2.1 (Md_all m) L L' S r nid → p < 60 → a = nI p → ∃ s t, fs = some s ∧ ft = some t ∧ ((s = -1 ∧ t = -1) ∨ ∃ i k z, i < 12 ∧ k < 12 ∧ s = nI i ∧ t = nI k ∧ rB x.2.1 i z ∧ rS (Md_all m) k z)) :
    Ag [IOOBE, NSE] N fx (bd (f_X4_isPage a) (fun r1 => bd ft (fun r3 => bd (f_X4_idOr m r1 r3) (fun r5 => some (r5.1, r5.2))))) := by
  obtain ⟨L, L', S, r, nid, hb⟩ := h.1
  rw [tm_isPage, bd_s]
  by_cases hp : 0 ≤ a ∧ a < 60
  · obtain ⟨p, hp6, e⟩ := in_page hp
    obtain ⟨s, t, g1, g2, g3⟩ := hc L L' S r nid p hb hp6 e
    rw [hx1 hp, decide_eq_true hp, g1, g2, bd_s, bd_s]
    exact idf h g3 (c := 1) rfl rfl
  · obtain ⟨t, ht⟩ := ht
    rw [hx2 hp, decide_eq_false hp, ht, bd_s, show b2 false = 0 from rfl, idOr_no, bd_s]
    exact Ag.thr 0 rfl rfl rfl rfl (h.th 1)
theorem ag_markOn (h : RX N x m) (a : Int32) : Ag [IOOBE, NSE] N (f_X3_markOn x a) (f_X4_markOn m a) := by
  obtain ⟨L, L', S, r, nid, h1, h2, h3, h4, h5, -⟩ := h.1
  obtain ⟨t, ht, -⟩ := tm_onPage h2 (h5.perm h3).bL a
  unfold f_X4_markOn
  refine pgm h a (fs := f_X0_slotOnPage x.2.1 a) (fun hp => ?_) (fun hp => ?_) ⟨t, ht⟩ ?_
  · unfold f_X3_markOn
    rw [x_reqPage, if_pos hp, bd_s, bx_inl]
  · unfold f_X3_markOn
    rw [x_reqPage, if_neg hp, bd_s, bx_inr]
  · rintro L L' S r nid p ⟨h1, h2, h3, h4, h5, -⟩ hp rfl
    obtain ⟨t, ht, hf⟩ := tm_onPage h2 (h5.perm h3).bL (nI p)
    have hl := (h5.perm h3).1
    have hl2 := h5.1
    rcases hf with ⟨k, z, hz, hq, -, e⟩ | ⟨e, hq⟩
    · have hk := lt_get hz
      have hzL := h3.mem_iff.mpr (mem_get hz)
      obtain ⟨s, hs, hf2⟩ := s_slotOnPage h1 h5.bL (nI p)
      rcases hf2 with ⟨i, y, hy, hq2, -, e2⟩ | ⟨e2, hq2⟩
      · have hi := lt_get hy
        have b := h5.bL
        have ey : y = z := pg_one h5 (mem_get hy) hzL ((nI_eq (by have := (b.2 y (mem_get hy)).2.1; omega) (by have := (b.2 z hzL).2.1; omega)).mp (hq2.trans hq.symm))
        refine ⟨s, t, hs, ht, Or.inr ⟨i, k, z, by omega, by omega, e2, e, ?_, h2.2 k z hz⟩⟩
        rw [← ey]
        exact h1.2 i y hy
      · exact absurd hq (hq2 z hzL)
    · refine ⟨-1, t, ?_, ht, Or.inl ⟨rfl, e⟩⟩
      exact slot_off h1 h5 hp (fun z hz q => hq z (h3.mem_iff.mp hz) (congrArg nI q))
theorem ag_ribbonIn (h : RX N x m) (a : Int32) : Ag [IOOBE, NSE] N (f_X3_ribbonIn x a) (f_X4_ribbonIn m a) := by
  obtain ⟨L, L', S, r, nid, h1, h2, h3, h4, h5, -⟩ := h.1
  obtain ⟨t, ht, hf⟩ := tm_inSeat h2 (h5.perm h3).bL a
  unfold f_X3_ribbonIn f_X3_ribbonIn_B9 f_X4_ribbonIn
  rw [tm_in, bd_s, ht, bd_s]
  have e5 : a < 5 ↔ a ≤ 4 := by
    rw [Int32.lt_iff_toInt_lt, Int32.le_iff_toInt_le]
    have q1 : (5 : Int32).toInt = 5 := by decide
    have q2 : (4 : Int32).toInt = 4 := by decide
    omega
  by_cases ha : a < 0
  · rw [if_pos ha, decide_eq_false (fun q => Int32.not_le.mpr ha q.1), show b2 false = 0 from rfl, idOr_no, bd_s]
    exact Ag.thr 0 rfl rfl rfl rfl (h.th 1)
  · rw [if_neg ha]
    by_cases ha5 : a < 5
    · rw [if_pos ha5, decide_eq_true ⟨Int32.not_lt.mp ha, e5.mp ha5⟩]
      obtain ⟨q, hq5, rfl⟩ := in_rng (n := 5) (by decide) ⟨Int32.not_lt.mp ha, ha5⟩
      obtain ⟨s, hs, hf2⟩ := s_slotInSeat h1 h5.bL (nI q)
      rw [hs, bd_s]
      refine idf h ?_ (c := 1) rfl rfl
      have hl := (h5.perm h3).1
      have hl2 := h5.1
      have b := h5.bL
      have e0 : ∀ z ∈ L, (nI (mSt z) - 1 = nI q ↔ mSt z = q + 1) := by
        intro z hz
        have hs5 := (b.2 z hz).2.2.2.2
        have hh : ∀ s, s < 6 → ∀ q, q < 5 → (nI s - 1 = nI q ↔ s = q + 1) := by decide +kernel
        exact hh _ (by omega) q hq5
      have e1 : ∀ z ∈ L', (nI (mSt z) = nI q + 1 ↔ mSt z = q + 1) := by
        intro z hz
        have hs5 := ((h5.perm h3).bL.2 z hz).2.2.2.2
        rw [nI_1]
        exact nI_eq (by omega) (by omega)
      rcases hf with ⟨k, z, hz, hq, -, e⟩ | ⟨e, hq⟩
      · have hk := lt_get hz
        have hzL := h3.mem_iff.mpr (mem_get hz)
        have hz1 := (e1 z (mem_get hz)).mp hq
        rcases hf2 with ⟨i, y, hy, hq2, -, e2⟩ | ⟨e2, hq2⟩
        · have hi := lt_get hy
          have hy1 := (e0 y (mem_get hy)).mp hq2
          have ey : y = z := st_one h5 (mem_get hy) hzL (by omega) (by omega)
          refine Or.inr ⟨i, k, z, by omega, by omega, e2, e, ?_, h2.2 k z hz⟩
          rw [← ey]
          exact h1.2 i y hy
        · exact absurd ((e0 z hzL).mpr hz1) (hq2 z hzL)
      · rcases hf2 with ⟨i, y, hy, hq2, -, e2⟩ | ⟨e2, hq2⟩
        · exact absurd ((e1 y (h3.mem_iff.mp (mem_get hy))).mpr ((e0 y (mem_get hy)).mp hq2)) (hq y (h3.mem_iff.mp (mem_get hy)))
        · exact Or.inl ⟨e2, e⟩
    · rw [if_neg ha5, decide_eq_false (fun q => ha5 (e5.mpr q.2)), show b2 false = 0 from rfl, idOr_no, bd_s]
      exact Ag.thr 0 rfl rfl rfl rfl (h.th 1)
/-! the nearest -/
def dst (p q : Nat) : Nat := if q < p then p - q else q - p
def okSd (side p q : Nat) : Prop := (side = 0 → p ≤ q) ∧ (side = 1 → q ≤ p)
/-- z is the nearest of L on a side of p -/
def nrs (L : List M5) (side p : Nat) (z : M5) : Prop := z ∈ L ∧ okSd side p (mPg z) ∧ ∀ y ∈ L, okSd side p (mPg y) → dst p (mPg z) < dst p (mPg y) ∨ (dst p (mPg z) = dst p (mPg y) ∧ mPg z ≤ mPg y)
theorem nrs_one {L L' : List M5} {nid side p : Nat} (h5 : okL nid L) (h3 : L.Perm L') {y z : M5} (hy : nrs L side p y) (hz : nrs L' side p z) : y = z := by
  have h1 := hy.2.2 z (h3.mem_iff.mpr hz.1) hz.2.1
  have h2 := hz.2.2 y (h3.mem_iff.mp hy.1) hy.2.1
  refine pg_one h5 hy.1 (h3.mem_iff.mpr hz.1) ?_
  omega
theorem nearest_some (v : MdV) {L' : List M5} (h2 : sM (Md_all v) L') (b : bL L') (a s : Int32) : ∃ t, f_X4_nearest v a s = some t := by
  have key : ∀ d k n (x3 x4 : Int32), k + d = 60 → d < n → ∃ t, f_X4_nearest_L10 v n a s x3 x4 (nI k) = some t := by
    intro d
    induction d with
    | zero =>
      intro k n x3 x4 hk hn
      obtain ⟨n, rfl⟩ : ∃ z, n = z + 1 := ⟨n - 1, by omega⟩
      have e : k = 60 := by omega
      rw [f_X4_nearest_L10, e, if_pos (by decide)]
      exact ⟨_, rfl⟩
    | succ d ih =>
      intro k n x3 x4 hk hn
      obtain ⟨n, rfl⟩ : ∃ z, n = z + 1 := ⟨n - 1, by omega⟩
      obtain ⟨o, ho, -⟩ := tm_onPage h2 b (nI k)
      have b87 : ∀ y3 y4 y6 : Int32, ∃ t, f_X4_nearest_B87 (f_X4_nearest_L10 v n) v a s y3 y4 (nI k) y6 = some t := by
        intro y3 y4 y6
        unfold f_X4_nearest_B87
        rw [nI_1]
        exact ih (k + 1) n y3 y4 (by omega) (by omega)
      have b66 : ∀ y6 : Int32, ∃ t, f_X4_nearest_B66 (f_X4_nearest_L10 v n) v a s x3 x4 (nI k) y6 = some t := by
        intro y6
        unfold f_X4_nearest_B66
        split
        · rw [ho, bd_s]
          exact b87 _ _ _
        · exact b87 _ _ _
      have b34 : ∀ y6 : Int32, ∃ t, f_X4_nearest_B34 (f_X4_nearest_L10 v n) v a s x3 x4 (nI k) y6 = some t := by
        intro y6
        have b55 : ∃ t, f_X4_nearest_B55 (f_X4_nearest_L10 v n) v a s x3 x4 (nI k) y6 = some t := by
          unfold f_X4_nearest_B55
          split
          · split
            · exact b87 _ _ _
            · exact b66 _
          · exact b66 _
        unfold f_X4_nearest_B34
        rw [ho, bd_s]
        split
        · exact b87 _ _ _
        · split
          · split
            · exact b87 _ _ _
            · exact b55
          · exact b55
      rw [f_X4_nearest_L10, if_neg (show ¬ (60 : Int32) ≤ nI k from nI_ge (b := 60) (by omega) (by decide))]
      split
      · exact b34 _
      · exact b34 _
  exact key 60 0 100 _ _ rfl (by omega)
theorem tm_nearest {v : MdV} {L' : List M5} {nid : Nat} (h2 : sM (Md_all v) L') (h5 : okL nid L') {p : Nat} (hp : p < 60) {side : Nat} (hs : side < 3) : ∃ t, f_X4_nearest v (nI p) (nI side) = some t ∧ ((t = -1 ∧ ∀ y ∈ L', ¬ okSd side p (mPg y)) ∨ ∃ k z, L'[k]? = some z ∧ t = nI k ∧ nrs L' side p z) := by
  have b := h5.bL
  have hl := h5.1
  have key : ∀ d k n (x3 x4 : Int32), k + d = 60 → d < n → ((x3 = -1 ∧ x4 = 1000 ∧ ∀ y ∈ L', mPg y < k → ¬ okSd side p (mPg y)) ∨ ∃ i z, L'[i]? = some z ∧ x3 = nI i ∧ x4 = nI (dst p (mPg z)) ∧ mPg z < k ∧ okSd side p (mPg z) ∧ ∀ y ∈ L', mPg y < k → okSd side p (mPg y) → dst p (mPg z) < dst p (mPg y) ∨ (dst p (mPg z) = dst p (mPg y) ∧ mPg z ≤ mPg y)) →
      ∃ t, f_X4_nearest_L10 v n (nI p) (nI side) x3 x4 (nI k) = some t ∧ ((t = -1 ∧ ∀ y ∈ L', ¬ okSd side p (mPg y)) ∨ ∃ k z, L'[k]? = some z ∧ t = nI k ∧ nrs L' side p z) := by
    intro d
    induction d with
    | zero =>
      intro k n x3 x4 hk hn hI
      obtain ⟨n, rfl⟩ : ∃ z, n = z + 1 := ⟨n - 1, by omega⟩
      have e : k = 60 := by omega
      rw [f_X4_nearest_L10, e, if_pos (by decide)]
      refine ⟨x3, rfl, ?_⟩
      have h60 : ∀ y ∈ L', mPg y < k := fun y hy => by
        have := (b.2 y hy).2.1
        omega
      rcases hI with ⟨e1, e2, e3⟩ | ⟨i, z, e1, e2, e3, e4, e5, e6⟩
      · exact Or.inl ⟨e1, fun y hy => e3 y hy (h60 y hy)⟩
      · exact Or.inr ⟨i, z, e1, e2, mem_get e1, e5, fun y hy => e6 y hy (h60 y hy)⟩
    | succ d ih =>
      intro k n x3 x4 hk hn hI
      obtain ⟨n, rfl⟩ : ∃ z, n = z + 1 := ⟨n - 1, by omega⟩
      obtain ⟨o, ho, hf⟩ := tm_onPage h2 b (nI k)
      have far : (if nI p ≤ nI k then nI k - nI p else nI p - nI k) = nI (dst p k) := by
        unfold dst
        by_cases e : k < p
        · rw [if_neg (nI_ge e (by omega)), if_pos e, pk_sub (by omega)]
        · rw [if_pos (nI_le (by omega) (by omega)), if_neg e, pk_sub (by omega)]
      have hd : dst p k < 60 := by
        unfold dst
        split <;> omega
      have e34 : f_X4_nearest_L10 v (n + 1) (nI p) (nI side) x3 x4 (nI k) = f_X4_nearest_B34 (f_X4_nearest_L10 v n) v (nI p) (nI side) x3 x4 (nI k) (nI (dst p k)) := by
        rw [f_X4_nearest_L10, if_neg (show ¬ (60 : Int32) ≤ nI k from nI_ge (b := 60) (by omega) (by decide)), ← far]
        split
        · rfl
        · rfl
      rw [e34]
      -- the page k is passed over
      have skip : (∀ y ∈ L', mPg y = k → okSd side p k → ∃ i z, L'[i]? = some z ∧ x3 = nI i ∧ x4 = nI (dst p (mPg z)) ∧ mPg z < k ∧ okSd side p (mPg z) ∧ dst p (mPg z) ≤ dst p k ∧ ∀ y ∈ L', mPg y < k → okSd side p (mPg y) → dst p (mPg z) < dst p (mPg y) ∨ (dst p (mPg z) = dst p (mPg y) ∧ mPg z ≤ mPg y)) → ∃ t, f_X4_nearest_L10 v n (nI p) (nI side) x3 x4 (nI (k + 1)) = some t ∧ ((t = -1 ∧ ∀ y ∈ L', ¬ okSd side p (mPg y)) ∨ ∃ k z, L'[k]? = some z ∧ t = nI k ∧ nrs L' side p z) := by
        intro hsk
        refine ih (k + 1) n x3 x4 (by omega) (by omega) ?_
        by_cases hex : ∃ y ∈ L', mPg y = k ∧ okSd side p k
        · obtain ⟨y, hy, hyk, hok⟩ := hex
          obtain ⟨i, z, g1, g2, g3, g4, g5, g6, g7⟩ := hsk y hy hyk hok
          refine Or.inr ⟨i, z, g1, g2, g3, by omega, g5, fun w hw hwk hwo => ?_⟩
          by_cases e : mPg w = k
          · rw [e]
            omega
          · exact g7 w hw (by omega) hwo
        · rcases hI with ⟨g1, g2, g3⟩ | ⟨i, z, g1, g2, g3, g4, g5, g6⟩
          · refine Or.inl ⟨g1, g2, fun y hy hyk hyo => ?_⟩
            by_cases e : mPg y = k
            · exact hex ⟨y, hy, e, by rw [← e]; exact hyo⟩
            · exact g3 y hy (by omega) hyo
          · refine Or.inr ⟨i, z, g1, g2, g3, by omega, g5, fun w hw hwk hwo => ?_⟩
            by_cases e : mPg w = k
            · exact absurd ⟨w, hw, e, by rw [← e]; exact hwo⟩ hex
            · exact g6 w hw (by omega) hwo
      have none_skip : ¬ (∃ y ∈ L', mPg y = k ∧ okSd side p k) → ∃ t, f_X4_nearest_B87 (f_X4_nearest_L10 v n) v (nI p) (nI side) x3 x4 (nI k) (nI (dst p k)) = some t ∧ ((t = -1 ∧ ∀ y ∈ L', ¬ okSd side p (mPg y)) ∨ ∃ k z, L'[k]? = some z ∧ t = nI k ∧ nrs L' side p z) := by
        intro hex
        unfold f_X4_nearest_B87
        rw [nI_1]
        exact skip (fun y hy e1 e2 => absurd ⟨y, hy, e1, e2⟩ hex)
      unfold f_X4_nearest_B34
      rw [ho, bd_s]
      rcases hf with ⟨i, z, hz, hq, -, e⟩ | ⟨e, hq⟩
      · have hi := lt_get hz
        have hzp : mPg z = k := (nI_eq (by have := (b.2 z (mem_get hz)).2.1; omega) (by omega)).mp hq
        rw [e, if_neg (nI_pos (by omega))]
        -- taken, or not nearer
        have take : okSd side p k → ∃ t, f_X4_nearest_B66 (f_X4_nearest_L10 v n) v (nI p) (nI side) x3 x4 (nI k) (nI (dst p k)) = some t ∧ ((t = -1 ∧ ∀ y ∈ L', ¬ okSd side p (mPg y)) ∨ ∃ k z, L'[k]? = some z ∧ t = nI k ∧ nrs L' side p z) := by
          intro hok
          unfold f_X4_nearest_B66 f_X4_nearest_B87
          rcases hI with ⟨g1, g2, g3⟩ | ⟨i2, z2, g1, g2, g3, g4, g5, g6⟩
          · rw [g2, if_pos (show nI (dst p k) < (1000 : Int32) from nI_lt (b := 1000) (by omega) (by decide)), ho, bd_s, nI_1, e]
            refine ih (k + 1) n (nI i) (nI (dst p k)) (by omega) (by omega) (Or.inr ⟨i, z, hz, rfl, by rw [hzp], by omega, by rw [hzp]; exact hok, fun y hy hyk hyo => ?_⟩)
            by_cases e2 : mPg y = k
            · rw [e2, hzp]
              omega
            · exact absurd hyo (g3 y hy (by omega))
          · have hd2 : dst p (mPg z2) < 60 := by
              have := (b.2 z2 (mem_get g1)).2.1
              unfold dst
              split <;> omega
            rw [g3]
            by_cases e3 : dst p k < dst p (mPg z2)
            · rw [if_pos (nI_lt e3 (by omega)), ho, bd_s, nI_1, e]
              refine ih (k + 1) n (nI i) (nI (dst p k)) (by omega) (by omega) (Or.inr ⟨i, z, hz, rfl, by rw [hzp], by omega, by rw [hzp]; exact hok, fun y hy hyk hyo => ?_⟩)
              by_cases e2 : mPg y = k
              · rw [e2, hzp]
                omega
              · have := g6 y hy (by omega) hyo
                rw [hzp]
                omega
            · rw [if_neg (nI_nlt (by omega) (by omega)), nI_1, ← g3]
              exact skip (fun y hy e1 e2 => ⟨i2, z2, g1, g2, g3, g4, g5, by omega, g6⟩)
        have nok : ¬ okSd side p k → ¬ (∃ y ∈ L', mPg y = k ∧ okSd side p k) := fun q => fun ⟨_, _, _, w⟩ => q w
        have lt1 : nI k < nI p ↔ k < p := nI_ltI (by omega) (by omega)
        have lt2 : nI p < nI k ↔ p < k := nI_ltI (by omega) (by omega)
        unfold f_X4_nearest_B55
        by_cases s0 : side = 0
        · subst s0
          rw [if_pos (by decide)]
          by_cases e2 : k < p
          · rw [if_pos (lt1.mpr e2)]
            exact none_skip (nok fun q => by have := q.1 rfl; omega)
          · rw [if_neg (fun q => e2 (lt1.mp q)), if_neg (by decide)]
            exact take ⟨fun _ => by omega, fun q => by omega⟩
        · rw [if_neg (nI_ne0 (by omega) (by omega))]
          by_cases s1 : side = 1
          · subst s1
            rw [if_pos (by decide)]
            by_cases e2 : p < k
            · rw [if_pos (lt2.mpr e2)]
              exact none_skip (nok fun q => by have := q.2 rfl; omega)
            · rw [if_neg (fun q => e2 (lt2.mp q))]
              exact take ⟨fun q => by omega, fun _ => by omega⟩
          · rw [if_neg (show ¬ nI side = (1 : Int32) from fun q => s1 ((nI_eq (by omega) (by decide)).mp (show nI side = nI 1 from q)))]
            exact take ⟨fun q => absurd q s0, fun q => absurd q s1⟩
      · rw [e, if_pos (by decide)]
        exact none_skip fun ⟨y, hy, hyk, _⟩ => hq y hy (congrArg nI hyk)
  exact key 60 0 100 (-1) 1000 rfl (by omega) (Or.inl ⟨rfl, rfl, fun y _ q => absurd q (Nat.not_lt_zero _)⟩)
theorem srt_lt {L : List M5} (h : srt L) {i j : Nat} {a b : M5} (ha : L[i]? = some a) (hb : L[j]? = some b) (hij : i < j) : mPg a < mPg b := srt_iff.mp h i j a b hij ha hb
/-- the class's search from a page on -/
theorem s_from {v : BkV} {L : List M5} {nid : Nat} (h1 : hM v L) (h4 : srt L) (h5 : okL nid L) {p : Nat} (hp : p ≤ 60) : ∃ s, f_X0_slotFrom v (nI p) = some s ∧ ((s = -1 ∧ ∀ y ∈ L, ¬ okSd 0 p (mPg y)) ∨ ∃ i z, L[i]? = some z ∧ s = nI i ∧ nrs L 0 p z) := by
  obtain ⟨s, hs, hf⟩ := s_slotFrom h1 h5.bL (nI p)
  have b := h5.bL
  have lt : ∀ y ∈ L, (nI (mPg y) < nI p ↔ mPg y < p) := fun y hy => nI_ltI (by have := (b.2 y hy).2.1; omega) (by omega)
  refine ⟨s, hs, ?_⟩
  rcases hf with ⟨i, z, hz, hq, hfirst, e⟩ | ⟨e, hq⟩
  · have hzp : p ≤ mPg z := by
      have : ¬ mPg z < p := fun q => hq ((lt z (mem_get hz)).mpr q)
      omega
    refine Or.inr ⟨i, z, hz, e, mem_get hz, ⟨fun _ => hzp, fun q => by omega⟩, fun y hy hyo => ?_⟩
    have hyp := hyo.1 rfl
    obtain ⟨j, hj⟩ := List.getElem?_of_mem hy
    have hzy : mPg z ≤ mPg y := by
      rcases Nat.lt_trichotomy i j with e2 | e2 | e2
      · exact Nat.le_of_lt (srt_lt h4 hz hj e2)
      · rw [e2, hj] at hz
        cases hz
        exact Nat.le_refl _
      · exact absurd (hfirst j y e2 hj) (fun q => q (fun w => by have := (lt y hy).mp w; omega))
    unfold dst
    rw [if_neg (by omega), if_neg (by omega)]
    omega
  · refine Or.inl ⟨e, fun y hy hyo => hq y hy (fun w => by have := (lt y hy).mp w; have := hyo.1 rfl; omega)⟩
theorem s_upTo {v : BkV} {L : List M5} {nid : Nat} (h1 : hM v L) (h4 : srt L) (h5 : okL nid L) {p : Nat} (hp : p < 60) : ∃ s, f_X0_slotUpTo v (nI p) = some s ∧ ((s = -1 ∧ ∀ y ∈ L, ¬ okSd 1 p (mPg y)) ∨ ∃ i z, L[i]? = some z ∧ s = nI i ∧ nrs L 1 p z) := by
  obtain ⟨s, hs, hf⟩ := s_slotUpTo h1 h5.bL (nI p)
  have b := h5.bL
  have lt : ∀ y ∈ L, (nI p < nI (mPg y) ↔ p < mPg y) := fun y hy => nI_ltI (by omega) (by have := (b.2 y hy).2.1; omega)
  refine ⟨s, hs, ?_⟩
  rcases hf with ⟨i, z, hz, hq, hlast, e⟩ | ⟨e, hq⟩
  · have hzp : mPg z ≤ p := by
      have : ¬ p < mPg z := fun q => hq ((lt z (mem_get hz)).mpr q)
      omega
    refine Or.inr ⟨i, z, hz, e, mem_get hz, ⟨fun q => by omega, fun _ => hzp⟩, fun y hy hyo => ?_⟩
    have hyp := hyo.2 rfl
    obtain ⟨j, hj⟩ := List.getElem?_of_mem hy
    have hzy : mPg y ≤ mPg z := by
      rcases Nat.lt_trichotomy i j with e2 | e2 | e2
      · exact absurd (hlast j y e2 hj) (fun q => q (fun w => by have := (lt y hy).mp w; omega))
      · rw [e2, hj] at hz
        cases hz
        exact Nat.le_refl _
      · exact Nat.le_of_lt (srt_lt h4 hj hz e2)
    unfold dst
    by_cases e1 : mPg z < p
    · rw [if_pos e1, if_pos (by omega)]
      omega
    · rw [if_neg e1]
      split <;> omega
  · refine Or.inl ⟨e, fun y hy hyo => hq y hy (fun w => by have := (lt y hy).mp w; have := hyo.2 rfl; omega)⟩
theorem s_nearest {v : BkV} {L : List M5} {nid : Nat} (h1 : hM v L) (h4 : srt L) (h5 : okL nid L) {p : Nat} (hp : p < 60) : ∃ s, f_X0_slotNearest v (nI p) = some s ∧ ((s = -1 ∧ ∀ y ∈ L, ¬ okSd 2 p (mPg y)) ∨ ∃ i z, L[i]? = some z ∧ s = nI i ∧ nrs L 2 p z) := by
  obtain ⟨s, hs, hf⟩ := s_upTo h1 h4 h5 hp
  obtain ⟨t, ht, hg⟩ := s_from h1 h4 h5 (Nat.le_of_lt hp)
  have b := h5.bL
  have hl := h5.1
  have o2 : ∀ q, okSd 2 p q := fun q => ⟨fun w => by omega, fun w => by omega⟩
  have o01 : ∀ q, okSd 0 p q ∨ okSd 1 p q := fun q => by
    by_cases e : p ≤ q
    · exact Or.inl ⟨fun _ => e, fun w => by omega⟩
    · exact Or.inr ⟨fun w => by omega, fun _ => by omega⟩
  unfold f_X0_slotNearest f_X0_slotNearest_B50
  rw [hs, bd_s, ht, bd_s]
  rcases hf with ⟨e, hno⟩ | ⟨i, z, hz, e, hn⟩
  · rw [e, if_pos rfl]
    refine ⟨t, rfl, ?_⟩
    rcases hg with ⟨e2, hno2⟩ | ⟨j, y, hy, e2, hn2⟩
    · exact Or.inl ⟨e2, fun w hw _ => (o01 (mPg w)).elim (hno2 w hw) (hno w hw)⟩
    · exact Or.inr ⟨j, y, hy, e2, hn2.1, o2 _, fun w hw _ => hn2.2.2 w hw ((o01 (mPg w)).resolve_right (hno w hw))⟩
  · have hi := lt_get hz
    rw [e, if_neg (nI_m1 (by omega))]
    rcases hg with ⟨e2, hno2⟩ | ⟨j, y, hy, e2, hn2⟩
    · rw [e2, if_pos rfl]
      exact ⟨nI i, rfl, Or.inr ⟨i, z, hz, rfl, hn.1, o2 _, fun w hw _ => hn.2.2 w hw ((o01 (mPg w)).resolve_left (hno2 w hw))⟩⟩
    · have hj := lt_get hy
      have hzp := hn.2.1.2 rfl
      have hyp := hn2.2.1.1 rfl
      have hy6 := (b.2 y (mem_get hy)).2.1
      rw [e2, if_neg (nI_m1 (by omega)), gd_n (by omega) (by decide), gd_n (by omega) (by decide), cl_n (by omega), cl_n (by omega), (h1.2 i z hz).2.1, (h1.2 j y hy).2.1, pk_sub hyp, pk_sub hzp]
      have dz : dst p (mPg z) = p - mPg z := by
        unfold dst
        split <;> omega
      have dy : dst p (mPg y) = mPg y - p := by
        unfold dst
        rw [if_neg (by omega)]
      by_cases e3 : mPg y - p < p - mPg z
      · rw [if_pos (nI_lt e3 (by omega))]
        refine ⟨nI j, rfl, Or.inr ⟨j, y, hy, rfl, hn2.1, o2 _, fun w hw _ => ?_⟩⟩
        rcases o01 (mPg w) with o | o
        · exact hn2.2.2 w hw o
        · have := hn.2.2 w hw o
          omega
      · rw [if_neg (nI_nlt (by omega) (by omega))]
        refine ⟨nI i, rfl, Or.inr ⟨i, z, hz, rfl, hn.1, o2 _, fun w hw _ => ?_⟩⟩
        rcases o01 (mPg w) with o | o
        · have := hn2.2.2 w hw o
          have := o.1 rfl
          omega
        · exact hn.2.2 w hw o
/-- two searches, one mark -/
theorem two_one {L L' : List M5} {nid side p : Nat} {a : Nat → Int32} {v : BkV} (h1 : hM v L) (h2 : sM a L') (h3 : L.Perm L') (h5 : okL nid L) {s t : Int32} (hs : (s = -1 ∧ ∀ y ∈ L, ¬ okSd side p (mPg y)) ∨ ∃ i z, L[i]? = some z ∧ s = nI i ∧ nrs L side p z) (ht : (t = -1 ∧ ∀ y ∈ L', ¬ okSd side p (mPg y)) ∨ ∃ k z, L'[k]? = some z ∧ t = nI k ∧ nrs L' side p z) : (s = -1 ∧ t = -1) ∨ ∃ i k z, i < 12 ∧ k < 12 ∧ s = nI i ∧ t = nI k ∧ rB v i z ∧ rS a k z := by
  have hl := h5.1
  have hl' := (h5.perm h3).1
  rcases hs with ⟨e1, n1⟩ | ⟨i, z, hz, e1, n1⟩
  · rcases ht with ⟨e2, n2⟩ | ⟨k, y, hy, e2, n2⟩
    · exact Or.inl ⟨e1, e2⟩
    · exact absurd n2.2.1 (n1 y (h3.mem_iff.mpr n2.1))
  · rcases ht with ⟨e2, n2⟩ | ⟨k, y, hy, e2, n2⟩
    · exact absurd n1.2.1 (n2 z (h3.mem_iff.mp n1.1))
    · have ey := nrs_one h5 h3 n1 n2
      have hi := lt_get hz
      have hk := lt_get hy
      refine Or.inr ⟨i, k, z, by omega, by omega, e1, e2, h1.2 i z hz, ?_⟩
      rw [ey]
      exact h2.2 k y hy
theorem pgm2 (h : RX N x m) (a : Int32) {fs : Option Int32} {fx : G9} {side : Nat} {sd : Int32} (hsd : sd = nI side) (hs : side < 3) (hx1 : 0 ≤ a ∧ a < 60 → fx = bd fs (fun r3 => bd (f_X3_idOfFound x r3) (fun r5 => bx r5 (fun r5 => some (.inl (r5.1, r5.2))) (fun r5 => some (.inr r5))))) (hx2 : ¬ (0 ≤ a ∧ a < 60) → fx = some (.inr (IOOBE, x))) (e : ∀ L L' S r nid p, RBx N x.2.1 (Md_all m) L L' S r nid → p < 60 → a = nI p → ∃ s, fs = some s ∧ ((s = -1 ∧ ∀ y ∈ L, ¬ okSd side p (mPg y)) ∨ ∃ i z, L[i]? = some z ∧ s = nI i ∧ nrs L side p z)) :
    Ag [IOOBE, NSE] N fx (bd (f_X4_isPage a) (fun r1 => bd (f_X4_nearest m a sd) (fun r3 => bd (f_X4_idOr m r1 r3) (fun r5 => some (r5.1, r5.2))))) := by
  obtain ⟨L, L', S, r, nid, h1, h2, h3, h4, h5, -⟩ := h.1
  refine pgm h a hx1 hx2 (nearest_some m h2 (h5.perm h3).bL a _) ?_
  intro L L' S r nid p hb hp ha
  obtain ⟨s, hs1, hs2⟩ := e L L' S r nid p hb hp ha
  obtain ⟨h1, h2, h3, h4, h5, -⟩ := hb
  subst ha
  subst hsd
  obtain ⟨t, ht1, ht2⟩ := tm_nearest h2 (h5.perm h3) hp hs
  exact ⟨s, t, hs1, ht1, two_one h1 h2 h3 h5 hs2 ht2⟩
theorem ag_nextMark (h : RX N x m) (a : Int32) : Ag [IOOBE, NSE] N (f_X3_nextMark x a) (f_X4_nextMark m a) := by
  unfold f_X4_nextMark
  refine pgm2 h a (side := 0) (fs := f_X0_slotFrom x.2.1 a) rfl (by omega) (fun hp => ?_) (fun hp => ?_) ?_
  · unfold f_X3_nextMark
    rw [x_reqPage, if_pos hp, bd_s, bx_inl]
  · unfold f_X3_nextMark
    rw [x_reqPage, if_neg hp, bd_s, bx_inr]
  · rintro L L' S r nid p ⟨h1, h2, h3, h4, h5, -⟩ hp rfl
    exact s_from h1 h4 h5 (Nat.le_of_lt hp)
theorem ag_previousMark (h : RX N x m) (a : Int32) : Ag [IOOBE, NSE] N (f_X3_previousMark x a) (f_X4_previousMark m a) := by
  unfold f_X4_previousMark
  refine pgm2 h a (side := 1) (fs := f_X0_slotUpTo x.2.1 a) rfl (by omega) (fun hp => ?_) (fun hp => ?_) ?_
  · unfold f_X3_previousMark
    rw [x_reqPage, if_pos hp, bd_s, bx_inl]
  · unfold f_X3_previousMark
    rw [x_reqPage, if_neg hp, bd_s, bx_inr]
  · rintro L L' S r nid p ⟨h1, h2, h3, h4, h5, -⟩ hp rfl
    exact s_upTo h1 h4 h5 hp
theorem ag_nearestMark (h : RX N x m) (a : Int32) : Ag [IOOBE, NSE] N (f_X3_nearestMark x a) (f_X4_nearestMark m a) := by
  unfold f_X4_nearestMark
  refine pgm2 h a (side := 2) (fs := f_X0_slotNearest x.2.1 a) rfl (by omega) (fun hp => ?_) (fun hp => ?_) ?_
  · unfold f_X3_nearestMark
    rw [x_reqPage, if_pos hp, bd_s, bx_inl]
  · unfold f_X3_nearestMark
    rw [x_reqPage, if_neg hp, bd_s, bx_inr]
  · rintro L L' S r nid p ⟨h1, h2, h3, h4, h5, -⟩ hp rfl
    exact s_nearest h1 h4 h5 hp
end QR2
