/-! ===== both sides: one book ===== -/
/-- no more motions are carried than votes are held -/
def VC (N : Nat) (v : BkV) : Prop := ∃ c t, Bk_carried v = nI c ∧ Bk_votes v = nI t ∧ c ≤ t ∧ t ≤ N
theorem VC.keep {N N' : Nat} {v v' : BkV} (h : VC N v) (hN : N ≤ N') (e1 : Bk_votes v' = Bk_votes v) (e2 : Bk_carried v' = Bk_carried v) : VC N' v' := by
  obtain ⟨c, t, h1, h2, h3, h4⟩ := h
  exact ⟨c, t, e2.trans h1, e1.trans h2, h3, Nat.le_trans h4 hN⟩
theorem VC.vote0 {N : Nat} {v v' : BkV} (h : VC N v) (e1 : Bk_votes v' = Bk_votes v + 1) (e2 : Bk_carried v' = Bk_carried v) : VC (N + 1) v' := by
  obtain ⟨c, t, h1, h2, h3, h4⟩ := h
  exact ⟨c, t + 1, e2.trans h1, by rw [e1, h2, nI_1], by omega, by omega⟩
theorem VC.vote1 {N : Nat} {v v' : BkV} (h : VC N v) (e1 : Bk_votes v' = Bk_votes v + 1) (e2 : Bk_carried v' = Bk_carried v + 1) : VC (N + 1) v' := by
  obtain ⟨c, t, h1, h2, h3, h4⟩ := h
  exact ⟨c + 1, t + 1, by rw [e2, h1, nI_1], by rw [e1, h2, nI_1], by omega, by omega⟩
def RB (N : Nat) (v : BkV) (a : Nat → Int32) : Prop :=
  ∃ (L L' : List M5) (S : List Nat) (r nid : Nat), hM v L ∧ sM a L' ∧ L.Perm L' ∧ srt L ∧ okL nid L ∧ hC v S ∧ sC a S ∧ okS S ∧ (r < 60 ∧ Bk_reader v = nI r ∧ a 3 = nI r) ∧ (Bk_nextId v = nI nid ∧ a 1 = nI nid ∧ nid ≤ N) ∧ Bk_votes v = a 4 ∧ Bk_carried v = a 5 ∧ Bk_fallen v = a 6 ∧ VC N v
theorem RB.mono {N N' : Nat} {v : BkV} {a : Nat → Int32} (h : RB N v a) (hN : N ≤ N') : RB N' v a := by
  obtain ⟨L, L', S, r, nid, h1, h2, h3, h4, h5, h6, h7, h8, h9, ⟨h10, h11, h12⟩, h13⟩ := h
  exact ⟨L, L', S, r, nid, h1, h2, h3, h4, h5, h6, h7, h8, h9, ⟨h10, h11, Nat.le_trans h12 hN⟩, h13.1, h13.2.1, h13.2.2.1, h13.2.2.2.keep hN rfl rfl⟩
theorem rS_cong {a a' : Nat → Int32} {k : Nat} {m : M5} (h : rS a k m) (e : ∀ w, w < 5 → a' (15 + 5 * k + w) = a (15 + 5 * k + w)) : rS a' k m := by
  obtain ⟨q0, q1, q2, q3, q4⟩ := h
  exact ⟨(e 0 (by omega)).trans q0, (e 1 (by omega)).trans q1, (e 2 (by omega)).trans q2, (e 3 (by omega)).trans q3, (e 4 (by omega)).trans q4⟩
/-- only the first 75 places count -/
theorem RB.cong {N : Nat} {v : BkV} {a a' : Nat → Int32} (h : RB N v a) (e : ∀ j, j < 75 → a' j = a j) : RB N v a' := by
  obtain ⟨L, L', S, r, nid, h1, h2, h3, h4, h5, h6, h7, h8, ⟨r1, r2, r3⟩, ⟨h10, h11, h12⟩, h13, h14, h15, h16⟩ := h
  have hl : L'.length ≤ 12 := by
    rw [← h3.length_eq]
    exact h5.1
  have hs := h8.1.1
  refine ⟨L, L', S, r, nid, h1, ⟨by rw [e 0 (by omega)]; exact h2.1, fun k m hm => ?_⟩, h3, h4, h5, h6, ⟨by rw [e 2 (by omega)]; exact h7.1, fun k p hk => ?_⟩, h8, ⟨r1, r2, by rw [e 3 (by omega)]; exact r3⟩, ⟨h10, by rw [e 1 (by omega)]; exact h11, h12⟩, by rw [e 4 (by omega)]; exact h13, by rw [e 5 (by omega)]; exact h14, by rw [e 6 (by omega)]; exact h15, h16⟩
  · have := lt_get hm
    exact rS_cong (h2.2 k m hm) (fun w hw => e _ (by omega))
  · have := lt_get hk
    rw [e (7 + k) (by omega)]
    exact h7.2 k p hk
/-! marks in lists -/
theorem id_one {nid : Nat} {L : List M5} (h : okL nid L) {m z : M5} (hm : m ∈ L) (hz : z ∈ L) (e : nI (mId m) = nI (mId z)) : m = z := by
  have b := h.bL
  refine apart_eq h.2.2.2 hm hz fun q => q.1 ((nI_eq (by have := (b.2 m hm).1; omega) (by have := (b.2 z hz).1; omega)).mp e)
theorem pg_one {nid : Nat} {L : List M5} (h : okL nid L) {m z : M5} (hm : m ∈ L) (hz : z ∈ L) (e : mPg m = mPg z) : m = z := apart_eq h.2.2.2 hm hz fun q => q.2.1 e
theorem st_one {nid : Nat} {L : List M5} (h : okL nid L) {m z : M5} (hm : m ∈ L) (hz : z ∈ L) (h0 : mSt m ≠ 0) (e : mSt m = mSt z) : m = z := apart_eq h.2.2.2 hm hz fun q => q.2.2 h0 e
theorem er_perm {α : Type} {L : List α} {i : Nat} {m : α} (h : L[i]? = some m) : L.Perm (m :: L.eraseIdx i) := by
  induction L generalizing i with
  | nil => cases h
  | cons a L ih =>
    cases i with
    | zero =>
      cases h
      exact List.Perm.refl _
    | succ i => exact (List.Perm.cons a (ih h)).trans (List.Perm.swap m a _)
theorem set_perm {α : Type} {L : List α} {i : Nat} (z : α) (h : i < L.length) : (L.set i z).Perm (z :: L.eraseIdx i) := by
  induction L generalizing i with
  | nil => cases h
  | cons a L ih =>
    cases i with
    | zero => exact List.Perm.refl _
    | succ i => exact (List.Perm.cons a (ih (Nat.lt_of_succ_lt_succ h))).trans (List.Perm.swap z a _)
theorem srt_iff {L : List M5} : srt L ↔ ∀ (i j : Nat) (a b : M5), i < j → L[i]? = some a → L[j]? = some b → mPg a < mPg b := by
  unfold srt
  rw [List.pairwise_iff_getElem]
  constructor
  · intro h i j a b hij ha hb
    obtain ⟨l1, e1⟩ := List.getElem?_eq_some_iff.mp ha
    obtain ⟨l2, e2⟩ := List.getElem?_eq_some_iff.mp hb
    have := h i j l1 l2 hij
    rw [e1, e2] at this
    exact this
  · intro h i j hi hj hij
    exact h i j _ _ hij (List.getElem?_eq_getElem hi) (List.getElem?_eq_getElem hj)
theorem srt_insert {L : List M5} (h : srt L) {z : M5} {j : Nat} (hj : insAt L (mPg z) j) (hne : ∀ m ∈ L, mPg m ≠ mPg z) : srt (L.insertIdx j z) := by
  rw [srt_iff] at h ⊢
  intro s t a b hst ha hb
  rw [List.getElem?_insertIdx] at ha hb
  obtain ⟨h1, h2, h3⟩ := hj
  by_cases e1 : s < j
  · rw [if_pos e1] at ha
    by_cases e2 : t < j
    · rw [if_pos e2] at hb
      exact h s t a b hst ha hb
    · rw [if_neg e2] at hb
      by_cases e3 : t = j
      · rw [if_pos e3, if_pos (by omega)] at hb
        cases hb
        have := h2 s a e1 ha
        have := hne a (mem_get ha)
        omega
      · rw [if_neg e3] at hb
        exact h s (t - 1) a b (by omega) ha hb
  · rw [if_neg e1] at ha
    by_cases e3 : s = j
    · rw [if_pos e3, if_pos (by omega)] at ha
      cases ha
      rw [if_neg (by omega), if_neg (by omega)] at hb
      exact h3 (t - 1) b (by omega) hb
    · rw [if_neg e3] at ha
      rw [if_neg (by omega), if_neg (by omega)] at hb
      exact h (s - 1) (t - 1) a b (by omega) ha hb
theorem ok5.mono {n n' : Nat} {m : M5} (h : ok5 n m) (hn : n ≤ n') : ok5 n' m := ⟨Nat.lt_of_lt_of_le h.1 hn, h.2⟩
theorem okL.cons {nid : Nat} {L : List M5} (h : okL nid L) (hl : L.length < 12) (hn : nid + 1 < 2 ^ 29) {z : M5} (hz : ok5 (nid + 1) z) (ha : ∀ m ∈ L, apartM z m) : okL (nid + 1) (z :: L) :=
  ⟨by rw [List.length_cons]; omega, hn, fun m hm => (List.mem_cons.mp hm).elim (fun e => by rw [e]; exact hz) (fun q => (h.2.2.1 m q).mono (Nat.le_succ _)), List.pairwise_cons.mpr ⟨ha, h.2.2.2⟩⟩
theorem okL.sub {nid : Nat} {L L' : List M5} (h : okL nid L) (s : L'.Sublist L) : okL nid L' := ⟨Nat.le_trans s.length_le h.1, h.2.1, fun m hm => h.2.2.1 m (s.subset hm), h.2.2.2.sublist s⟩
