/-! ===== the book's changes ===== -/
abbrev RsT : Type := (Nat → Int32) × Int32 × Int32 × Int32 × Int32 × Int32 × Int32
/-- what stands beside the marks -/
def rsB (v : BkV) : RsT := (Bk_starts v, Bk_chapters v, Bk_reader v, Bk_nextId v, Bk_votes v, Bk_carried v, Bk_fallen v)
def cpS (v : BkV) (p q : Nat) : BkV := (upd (Bk_ids v) q (Bk_ids v p), upd (Bk_pages v) q (Bk_pages v p), upd (Bk_weights v) q (Bk_weights v p), upd (Bk_wears v) q (Bk_wears v p), upd (Bk_seats v) q (Bk_seats v p), Bk_starts v, Bk_marks v, Bk_chapters v, Bk_reader v, Bk_nextId v, Bk_votes v, Bk_carried v, Bk_fallen v)
theorem s_copySlot (v : BkV) {p q : Nat} (hp : p < 12) (hq : q < 12) : f_X0_copySlot v (nI p) (nI q) = some (0, cpS v p q) := by
  unfold f_X0_copySlot
  rw [gd_n hp (by decide), gd_n hq (by decide), gd_n hp (by decide), gd_n hq (by decide), gd_n hp (by decide), gd_n hq (by decide), gd_n hp (by decide), gd_n hq (by decide), gd_n hp (by decide), gd_n hq (by decide), cl_n (by omega), cl_n (by omega)]
  rfl
theorem cpS_at {v : BkV} {p q : Nat} {m : M5} (h : rB v p m) : rB (cpS v p q) q m := by
  obtain ⟨h1, h2, h3, h4, h5⟩ := h
  refine ⟨?_, ?_, ?_, ?_, ?_⟩
  · show upd (Bk_ids v) q _ q = _
    rw [pk_us]
    exact h1
  · show upd (Bk_pages v) q _ q = _
    rw [pk_us]
    exact h2
  · show upd (Bk_weights v) q _ q = _
    rw [pk_us]
    exact h3
  · show upd (Bk_wears v) q _ q = _
    rw [pk_us]
    exact h4
  · show upd (Bk_seats v) q _ q = _
    rw [pk_us]
    exact h5
theorem cpS_ne {v : BkV} {p q t : Nat} {m : M5} (ht : t ≠ q) (h : rB v t m) : rB (cpS v p q) t m := by
  obtain ⟨h1, h2, h3, h4, h5⟩ := h
  refine ⟨?_, ?_, ?_, ?_, ?_⟩
  · show upd (Bk_ids v) q _ t = _
    rw [pk_un ht]
    exact h1
  · show upd (Bk_pages v) q _ t = _
    rw [pk_un ht]
    exact h2
  · show upd (Bk_weights v) q _ t = _
    rw [pk_un ht]
    exact h3
  · show upd (Bk_wears v) q _ t = _
    rw [pk_un ht]
    exact h4
  · show upd (Bk_seats v) q _ t = _
    rw [pk_un ht]
    exact h5
theorem s_takeOut {v : BkV} {L : List M5} (h : hM v L) (hl : L.length ≤ 12) {i : Nat} (hi : i < L.length) : ∃ v', f_X0_takeOut v (nI i) = some (0, v') ∧ hM v' (L.eraseIdx i) ∧ rsB v' = rsB v := by
  have key : ∀ d j n (v : BkV), j + d = L.length → i < j → d < n → Bk_marks v = nI L.length → (∀ t m, t + 1 < j → (L.eraseIdx i)[t]? = some m → rB v t m) → (∀ t m, j ≤ t → L[t]? = some m → rB v t m) → ∃ v', f_X0_takeOut_L4 n (nI i) (nI j) v = some (0, v') ∧ hM v' (L.eraseIdx i) ∧ rsB v' = rsB v := by
    intro d
    induction d with
    | zero =>
      intro j n v hj hij hn hm h1 h2
      obtain ⟨n, rfl⟩ : ∃ z, n = z + 1 := ⟨n - 1, by omega⟩
      have e : j = L.length := by omega
      have hle : (L.eraseIdx i).length = L.length - 1 := List.length_eraseIdx_of_lt hi
      rw [f_X0_takeOut_L4, hm, e, if_pos (Int32.le_refl _)]
      refine ⟨_, rfl, ⟨?_, fun t m ht => ?_⟩, rfl⟩
      · show nI L.length - 1 = _
        rw [hle]
        exact pk_sub (b := 1) (by omega)
      · have h3 := lt_get ht
        exact h1 t m (by omega) ht
    | succ d ih =>
      intro j n v hj hij hn hm h1 h2
      obtain ⟨n, rfl⟩ : ∃ z, n = z + 1 := ⟨n - 1, by omega⟩
      have e1 : nI j - 1 = nI (j - 1) := pk_sub (b := 1) (by omega)
      rw [f_X0_takeOut_L4, hm, if_neg (nI_ge (by omega) (by omega)), e1, s_copySlot v (by omega) (by omega), bd_s, nI_1]
      refine ih (j + 1) n (cpS v j (j - 1)) (by omega) (by omega) (by omega) hm (fun t m ht hg => ?_) (fun t m ht hg => cpS_ne (by omega) (h2 t m (by omega) hg))
      by_cases e : t = j - 1
      · rw [e] at hg ⊢
        rw [List.getElem?_eraseIdx_of_ge (by omega)] at hg
        have e2 : j - 1 + 1 = j := by omega
        rw [e2] at hg
        exact cpS_at (h2 j m (Nat.le_refl _) hg)
      · exact cpS_ne e (h1 t m (by omega) hg)
  unfold f_X0_takeOut
  rw [nI_1]
  refine key (L.length - (i + 1)) (i + 1) 100 v (by omega) (by omega) (by omega) h.1 (fun t m ht hg => ?_) (fun t m ht hg => h.2 t m hg)
  rw [List.getElem?_eraseIdx_of_lt (by omega)] at hg
  exact h.2 t m hg
/-- where a mark of page p goes -/
def insAt (L : List M5) (p j : Nat) : Prop := j ≤ L.length ∧ (∀ t m, t < j → L[t]? = some m → mPg m ≤ p) ∧ ∀ t m, j ≤ t → L[t]? = some m → p < mPg m
theorem s_insert {v : BkV} {L : List M5} (h : hM v L) (b : bL L) (hs : srt L) (hl : L.length < 12) {z : M5} (hp : mPg z < 60) : ∃ j v', f_X0_insert v (nI (mId z)) (nI (mPg z)) (nI (mWt z)) (nI (mWr z)) (nI (mSt z) - 1) = some (0, v') ∧ insAt L (mPg z) j ∧ hM v' (L.insertIdx j z) ∧ rsB v' = rsB v := by
  have fin : ∀ j (v : BkV), j ≤ L.length → Bk_marks v = nI L.length → (∀ t m, t < j → L[t]? = some m → rB v t m) → (∀ t m, j < t → L[t - 1]? = some m → rB v t m) → insAt L (mPg z) j → ∃ j' v', f_X0_insert_B50 (nI (mId z)) (nI (mPg z)) (nI (mWt z)) (nI (mWr z)) (nI (mSt z) - 1) (nI j) v = some (0, v') ∧ insAt L (mPg z) j' ∧ hM v' (L.insertIdx j' z) ∧ rsB v' = rsB v := by
    intro j v hj hm h1 h2 h3
    unfold f_X0_insert_B50
    rw [gd_n (by omega) (by decide), gd_n (by omega) (by decide), gd_n (by omega) (by decide), gd_n (by omega) (by decide), gd_n (by omega) (by decide), cl_n (by omega)]
    refine ⟨j, _, rfl, h3, ⟨?_, fun t m ht => ?_⟩, rfl⟩
    · show Bk_marks v + 1 = _
      rw [hm, nI_1, List.length_insertIdx_of_le_length hj]
    · rw [List.getElem?_insertIdx] at ht
      have out : t ≠ j → rB v t m → rB (upd (Bk_ids v) j (nI (mId z)), upd (Bk_pages v) j (nI (mPg z)), upd (Bk_weights v) j (nI (mWt z)), upd (Bk_wears v) j (nI (mWr z)), upd (Bk_seats v) j (nI (mSt z) - 1), Bk_starts v, Bk_marks v + 1, Bk_chapters v, Bk_reader v, Bk_nextId v, Bk_votes v, Bk_carried v, Bk_fallen v) t m := by
        rintro hne ⟨q1, q2, q3, q4, q5⟩
        refine ⟨?_, ?_, ?_, ?_, ?_⟩
        · show upd (Bk_ids v) j _ t = _
          rw [pk_un hne]
          exact q1
        · show upd (Bk_pages v) j _ t = _
          rw [pk_un hne]
          exact q2
        · show upd (Bk_weights v) j _ t = _
          rw [pk_un hne]
          exact q3
        · show upd (Bk_wears v) j _ t = _
          rw [pk_un hne]
          exact q4
        · show upd (Bk_seats v) j _ t = _
          rw [pk_un hne]
          exact q5
      by_cases e : t < j
      · rw [if_pos e] at ht
        exact out (by omega) (h1 t m e ht)
      · rw [if_neg e] at ht
        by_cases e2 : t = j
        · rw [if_pos e2, if_pos (by omega)] at ht
          cases ht
          rw [e2]
          exact ⟨pk_us, pk_us, pk_us, pk_us, pk_us⟩
        · rw [if_neg e2] at ht
          exact out e2 (h2 t m (by omega) ht)
  have key : ∀ j n (v : BkV), j ≤ L.length → j < n → Bk_marks v = nI L.length → (∀ t m, t < j → L[t]? = some m → rB v t m) → (∀ t m, j < t → L[t - 1]? = some m → rB v t m) → (∀ t m, j ≤ t → L[t]? = some m → mPg z < mPg m) → ∃ j' v', f_X0_insert_L16 n (nI (mId z)) (nI (mPg z)) (nI (mWt z)) (nI (mWr z)) (nI (mSt z) - 1) (nI j) v = some (0, v') ∧ insAt L (mPg z) j' ∧ hM v' (L.insertIdx j' z) ∧ rsB v' = rsB v := by
    intro j
    induction j with
    | zero =>
      intro n v hj hn hm h1 h2 h3
      obtain ⟨n, rfl⟩ : ∃ z, n = z + 1 := ⟨n - 1, by omega⟩
      rw [f_X0_insert_L16, if_pos (by decide)]
      exact fin 0 v hj hm h1 h2 ⟨hj, fun t m ht => absurd ht (Nat.not_lt_zero _), h3⟩
    | succ j ih =>
      intro n v hj hn hm h1 h2 h3
      obtain ⟨n, rfl⟩ : ∃ z, n = z + 1 := ⟨n - 1, by omega⟩
      obtain ⟨m0, hm0⟩ : ∃ m, L[j]? = some m := ⟨L[j]'(by omega), List.getElem?_eq_getElem _⟩
      have hp0 := (b.2 m0 (mem_get hm0)).2.1
      rw [f_X0_insert_L16, if_neg (nI_nle (by omega) (by omega)), nI_dn, gd_n (by omega) (by decide), cl_n (by omega), (h1 j m0 (by omega) hm0).2.1]
      by_cases hq : mPg m0 ≤ mPg z
      · rw [if_pos (nI_le hq (by omega))]
        refine fin (j + 1) v hj hm h1 h2 ⟨hj, fun t m ht hg => ?_, h3⟩
        by_cases e : t = j
        · rw [e, hm0] at hg
          cases hg
          exact hq
        · have hpw := List.pairwise_iff_getElem.mp hs
          obtain ⟨l1, e1⟩ := List.getElem?_eq_some_iff.mp hg
          obtain ⟨l2, e2⟩ := List.getElem?_eq_some_iff.mp hm0
          have := hpw t j l1 l2 (by omega)
          rw [e1, e2] at this
          omega
      · rw [if_neg (nI_ge (by omega) (by omega)), s_copySlot v (by omega) (by omega), bd_s, nI_dn1]
        refine ih n (cpS v j (j + 1)) (by omega) (by omega) hm (fun t m ht hg => cpS_ne (by omega) (h1 t m (by omega) hg)) (fun t m ht hg => ?_) (fun t m ht hg => ?_)
        · by_cases e : t = j + 1
          · rw [e] at hg ⊢
            exact cpS_at (h1 j m (by omega) hg)
          · exact cpS_ne e (h2 t m (by omega) hg)
        · by_cases e : t = j
          · rw [e, hm0] at hg
            cases hg
            omega
          · exact h3 t m (by omega) hg
  unfold f_X0_insert
  rw [h.1, if_pos (show nI L.length < (12 : Int32) from nI_lt hl (by decide))]
  exact key L.length 100 v (Nat.le_refl _) (by omega) h.1 (fun t m ht hg => h.2 t m hg) (fun t m ht hg => absurd (lt_get hg) (by omega)) (fun t m ht hg => absurd (lt_get hg) (by omega))
/-- the seats of two marks, exchanged -/
def swpL (L : List M5) (i j : Nat) (a b : M5) : List M5 := (L.set j (mId b, mPg b, mWt b, mWr b, mSt a)).set i (mId a, mPg a, mWt a, mWr a, mSt b)
theorem s_swap {v : BkV} {L : List M5} (h : hM v L) (hl : L.length ≤ 12) {i j : Nat} {a b : M5} (hi : L[i]? = some a) (hj : L[j]? = some b) (hij : i ≠ j) : ∃ v', f_X0_swap v (nI i) (nI j) = some (nI (mSt b) - 1, v') ∧ hM v' (swpL L i j a b) ∧ rsB v' = rsB v := by
  have li := lt_get hi
  have lj := lt_get hj
  unfold f_X0_swap
  rw [if_neg (nI_m1 (by omega)), if_neg (nI_m1 (by omega)), gd_n (by omega) (by decide), gd_n (by omega) (by decide), gd_n (by omega) (by decide), gd_n (by omega) (by decide), cl_n (by omega), cl_n (by omega), (h.2 j b hj).2.2.2.2, (h.2 i a hi).2.2.2.2]
  refine ⟨_, rfl, ⟨?_, fun t m ht => ?_⟩, rfl⟩
  · unfold swpL
    rw [List.length_set, List.length_set]
    exact h.1
  · unfold swpL at ht
    by_cases e1 : t = i
    · rw [e1, List.getElem?_set_self (by rw [List.length_set]; exact li)] at ht
      cases ht
      rw [e1]
      obtain ⟨q1, q2, q3, q4, q5⟩ := h.2 i a hi
      exact ⟨q1, q2, q3, q4, pk_us⟩
    · rw [List.getElem?_set_ne (Ne.symm e1)] at ht
      by_cases e2 : t = j
      · rw [e2, List.getElem?_set_self lj] at ht
        cases ht
        rw [e2]
        obtain ⟨q1, q2, q3, q4, q5⟩ := h.2 j b hj
        refine ⟨q1, q2, q3, q4, ?_⟩
        show upd (upd (Bk_seats v) j _) i _ j = _
        rw [pk_un (Ne.symm hij), pk_us]
      · rw [List.getElem?_set_ne (Ne.symm e2)] at ht
        obtain ⟨q1, q2, q3, q4, q5⟩ := h.2 t m ht
        refine ⟨q1, q2, q3, q4, ?_⟩
        show upd (upd (Bk_seats v) j _) i _ t = _
        rw [pk_un e1, pk_un e2]
        exact q5
/-! chapters' starts -/
abbrev RcT : Type := (Nat → Int32) × (Nat → Int32) × (Nat → Int32) × (Nat → Int32) × (Nat → Int32) × Int32 × Int32 × Int32 × Int32 × Int32 × Int32
/-- what stands beside the chapters -/
def rcB (v : BkV) : RcT := (Bk_ids v, Bk_pages v, Bk_weights v, Bk_wears v, Bk_seats v, Bk_marks v, Bk_reader v, Bk_nextId v, Bk_votes v, Bk_carried v, Bk_fallen v)
theorem hM_rc {v v' : BkV} {L : List M5} (h : hM v L) (e : rcB v' = rcB v) : hM v' L := by
  unfold rcB at e
  simp only [Prod.mk.injEq] at e
  obtain ⟨e1, e2, e3, e4, e5, e6, -⟩ := e
  refine ⟨by rw [e6]; exact h.1, fun i m hm => ?_⟩
  obtain ⟨q1, q2, q3, q4, q5⟩ := h.2 i m hm
  exact ⟨by rw [e1]; exact q1, by rw [e2]; exact q2, by rw [e3]; exact q3, by rw [e4]; exact q4, by rw [e5]; exact q5⟩
theorem hC_rs {v v' : BkV} {S : List Nat} (h : hC v S) (e : rsB v' = rsB v) : hC v' S := by
  unfold rsB at e
  simp only [Prod.mk.injEq] at e
  obtain ⟨e1, e2, -⟩ := e
  exact ⟨by rw [e2]; exact h.1, fun k p hk => by rw [e1]; exact h.2 k p hk⟩
theorem s_start {v : BkV} {S : List Nat} (h : hC v S) (hS : okS S) (hl : S.length < 8) {p : Nat} (hp : p < 60) : ∃ v', f_X0_start v (nI p) = some (nI (chOf S p + 1), v') ∧ hC v' (S.insertIdx (chOf S p + 1) p) ∧ rcB v' = rcB v := by
  have hc := chOf_lt S p hS.1.2.1
  have key : ∀ d j n (v : BkV), j = chOf S p + 1 + d → j ≤ S.length → d < n → Bk_chapters v = nI S.length → (∀ t q, t < j → S[t]? = some q → Bk_starts v t = nI q) → (∀ t q, j < t → S[t - 1]? = some q → Bk_starts v t = nI q) → ∃ v', f_X0_start_L24 n (nI p) (nI (chOf S p + 1)) (nI j) v = some (nI (chOf S p + 1), v') ∧ hC v' (S.insertIdx (chOf S p + 1) p) ∧ rcB v' = rcB v := by
    intro d
    induction d with
    | zero =>
      intro j n v hj hjl hn hm h1 h2
      obtain ⟨n, rfl⟩ : ∃ z, n = z + 1 := ⟨n - 1, by omega⟩
      rw [f_X0_start_L24, if_pos (nI_le (by omega) (by omega)), gd_n (by omega) (by decide), cl_n (by omega)]
      refine ⟨_, rfl, ⟨?_, fun t q ht => ?_⟩, rfl⟩
      · show Bk_chapters v + 1 = _
        rw [hm, nI_1, List.length_insertIdx_of_le_length (by omega)]
      · show upd (Bk_starts v) (chOf S p + 1) (nI p) t = nI q
        rw [List.getElem?_insertIdx] at ht
        by_cases e : t < chOf S p + 1
        · rw [if_pos e] at ht
          rw [pk_un (by omega)]
          exact h1 t q (by omega) ht
        · rw [if_neg e] at ht
          by_cases e2 : t = chOf S p + 1
          · rw [if_pos e2, if_pos (by omega)] at ht
            cases ht
            rw [e2, pk_us]
          · rw [if_neg e2] at ht
            rw [pk_un e2]
            exact h2 t q (by omega) ht
    | succ d ih =>
      intro j n v hj hjl hn hm h1 h2
      obtain ⟨n, rfl⟩ : ∃ z, n = z + 1 := ⟨n - 1, by omega⟩
      obtain ⟨j, rfl⟩ : ∃ z, j = z + 1 := ⟨j - 1, by omega⟩
      rw [f_X0_start_L24, if_neg (nI_ge (by omega) (by omega)), nI_dn, gd_n (by omega) (by decide), gd_n (by omega) (by decide), cl_n (by omega), cl_n (by omega), nI_dn1]
      refine ih j n _ (by omega) (by omega) (by omega) hm (fun t q ht hg => ?_) (fun t q ht hg => ?_)
      · show upd (Bk_starts v) (j + 1) _ t = _
        rw [pk_un (by omega)]
        exact h1 t q (by omega) hg
      · show upd (Bk_starts v) (j + 1) _ t = _
        by_cases e : t = j + 1
        · rw [e] at hg ⊢
          rw [pk_us]
          exact h1 j q (by omega) hg
        · rw [pk_un e]
          exact h2 t q (by omega) hg
  unfold f_X0_start
  rw [s_chapterWith h hS.1 p hp, bd_s, h.1, if_pos (show nI S.length < (8 : Int32) from nI_lt hl (by decide)), nI_1]
  exact key (S.length - (chOf S p + 1)) S.length 100 v (by omega) (Nat.le_refl _) (by omega) h.1 (fun t q ht hg => h.2 t q hg) (fun t q ht hg => absurd (lt_get hg) (by omega))
theorem s_dropStart {v : BkV} {S : List Nat} (h : hC v S) (hl : S.length ≤ 8) {g : Nat} (hg : g < S.length) : ∃ v', f_X0_dropStart v (nI g) = some (0, v') ∧ hC v' (S.eraseIdx g) ∧ rcB v' = rcB v := by
  have key : ∀ d j n (v : BkV), j + d = S.length → g < j → d < n → Bk_chapters v = nI S.length → (∀ t q, t + 1 < j → (S.eraseIdx g)[t]? = some q → Bk_starts v t = nI q) → (∀ t q, j ≤ t → S[t]? = some q → Bk_starts v t = nI q) → ∃ v', f_X0_dropStart_L4 n (nI g) (nI j) v = some (0, v') ∧ hC v' (S.eraseIdx g) ∧ rcB v' = rcB v := by
    intro d
    induction d with
    | zero =>
      intro j n v hj hij hn hm h1 h2
      obtain ⟨n, rfl⟩ : ∃ z, n = z + 1 := ⟨n - 1, by omega⟩
      have e : j = S.length := by omega
      have hle : (S.eraseIdx g).length = S.length - 1 := List.length_eraseIdx_of_lt hg
      rw [f_X0_dropStart_L4, hm, e, if_pos (Int32.le_refl _)]
      refine ⟨_, rfl, ⟨?_, fun t q ht => ?_⟩, rfl⟩
      · show nI S.length - 1 = _
        rw [hle]
        exact pk_sub (b := 1) (by omega)
      · have h3 := lt_get ht
        exact h1 t q (by omega) ht
    | succ d ih =>
      intro j n v hj hij hn hm h1 h2
      obtain ⟨n, rfl⟩ : ∃ z, n = z + 1 := ⟨n - 1, by omega⟩
      have e1 : nI j - 1 = nI (j - 1) := pk_sub (b := 1) (by omega)
      rw [f_X0_dropStart_L4, hm, if_neg (nI_ge (by omega) (by omega)), e1, gd_n (by omega) (by decide), gd_n (by omega) (by decide), cl_n (by omega), cl_n (by omega), nI_1]
      refine ih (j + 1) n _ (by omega) (by omega) (by omega) rfl (fun t q ht hg2 => ?_) (fun t q ht hg2 => ?_)
      · show upd (Bk_starts v) (j - 1) _ t = _
        by_cases e : t = j - 1
        · rw [e] at hg2 ⊢
          rw [List.getElem?_eraseIdx_of_ge (by omega)] at hg2
          have e2 : j - 1 + 1 = j := by omega
          rw [e2] at hg2
          rw [pk_us]
          exact h2 j q (Nat.le_refl _) hg2
        · rw [pk_un e]
          exact h1 t q (by omega) hg2
      · show upd (Bk_starts v) (j - 1) _ t = _
        rw [pk_un (by omega)]
        exact h2 t q (by omega) hg2
  unfold f_X0_dropStart
  rw [nI_1]
  refine key (S.length - (g + 1)) (g + 1) 100 v (by omega) (by omega) (by omega) h.1 (fun t q ht hg2 => ?_) (fun t q ht hg2 => h.2 t q hg2)
  rw [List.getElem?_eraseIdx_of_lt (by omega)] at hg2
  exact h.2 t q hg2
