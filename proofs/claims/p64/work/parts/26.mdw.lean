/-! ===== the model's changes ===== -/
def mA (v : MdV) (a : Nat → Int32) : MdV := (a, v.2)
def mAR (v : MdV) (a : Nat → Int32) (r : Int32) : MdV := (a, Md_output v, Md_input v, Md_commands v, Md_thrown v, Md_changes v, Md_isSaved v, r, Md_why v, Md_detail v, Md_cause v, Md_outputSize v, Md_typed v, Md_here v, Md_error v, Md_errorAt v, Md_commandMany v)
def mRej (v : MdV) (q d : Int32) : MdV := (Md_all v, Md_output v, Md_input v, Md_commands v, Md_thrown v, Md_changes v, Md_isSaved v, Md_result v, q, d, 0, Md_outputSize v, Md_typed v, Md_here v, Md_error v, Md_errorAt v, Md_commandMany v)
theorem tm_rej0 (v : MdV) (q d : Int32) : f_X4_rejects v 0 q d = some (0, v) := by
  unfold f_X4_rejects f_X4_rejects_B19
  rw [if_pos rfl, gd_z0]
theorem tm_rej1 (v : MdV) (q d : Int32) : f_X4_rejects v 1 q d = some (1, mRej v q d) := by
  unfold f_X4_rejects f_X4_rejects_B19
  rw [if_neg (by decide), gd_z1]
  rfl
theorem tm_setA (v : MdV) {k w : Nat} (hk : k < 13) (hw : w < 5) (x : Int32) : f_X4_set v (nI k) (nI w) x = some (0, mA v (upd (Md_all v) (15 + 5 * k + w) x)) := by
  show gd (inb (nI 15 + nI 5 * nI k + nI w) 825) (some (0, mA v (upd (Md_all v) (cl (nI 15 + nI 5 * nI k + nI w)) x))) = _
  rw [pk_mul, nI_add, nI_add, gd_n (by omega) (by decide), cl_n (by omega)]
theorem tm_set0 (v : MdV) {k : Nat} (hk : k < 13) (x : Int32) : f_X4_set v (nI k) 0 x = some (0, mA v (upd (Md_all v) (15 + 5 * k) x)) := tm_setA v (w := 0) hk (by omega) x
theorem tm_set1 (v : MdV) {k : Nat} (hk : k < 13) (x : Int32) : f_X4_set v (nI k) 1 x = some (0, mA v (upd (Md_all v) (15 + 5 * k + 1) x)) := tm_setA v (w := 1) hk (by omega) x
theorem tm_set2 (v : MdV) {k : Nat} (hk : k < 13) (x : Int32) : f_X4_set v (nI k) 2 x = some (0, mA v (upd (Md_all v) (15 + 5 * k + 2) x)) := tm_setA v (w := 2) hk (by omega) x
theorem tm_set3 (v : MdV) {k : Nat} (hk : k < 13) (x : Int32) : f_X4_set v (nI k) 3 x = some (0, mA v (upd (Md_all v) (15 + 5 * k + 3) x)) := tm_setA v (w := 3) hk (by omega) x
theorem tm_set4 (v : MdV) {k : Nat} (hk : k < 13) (x : Int32) : f_X4_set v (nI k) 4 x = some (0, mA v (upd (Md_all v) (15 + 5 * k + 4) x)) := tm_setA v (w := 4) hk (by omega) x
/-- the rows behind place 5 i, moved up -/
def shR (a : Nat → Int32) (i t : Nat) : Nat → Int32 := fun j => if 15 + 5 * i ≤ j ∧ j < 15 + t then a (j + 5) else a j
def zeR (a : Nat → Int32) (e t : Nat) : Nat → Int32 := fun j => if 15 + 5 * e ≤ j ∧ j < 15 + 5 * e + t then 0 else a j
theorem shR_s (a : Nat → Int32) {i t : Nat} (h : 5 * i ≤ t) : upd (shR a i t) (15 + t) (shR a i t (15 + t + 5)) = shR a i (t + 1) := by
  funext j
  by_cases e : j = 15 + t
  · rw [e, pk_us]
    unfold shR
    rw [if_neg (by omega), if_pos (by omega)]
  · rw [pk_un e]
    unfold shR
    by_cases e2 : 15 + 5 * i ≤ j ∧ j < 15 + t
    · rw [if_pos e2, if_pos (by omega)]
    · rw [if_neg e2, if_neg (by omega)]
theorem zeR_s (a : Nat → Int32) (e t : Nat) : upd (zeR a e t) (15 + 5 * e + t) 0 = zeR a e (t + 1) := by
  funext j
  by_cases h : j = 15 + 5 * e + t
  · rw [h, pk_us]
    unfold zeR
    rw [if_pos (by omega)]
  · rw [pk_un h]
    unfold zeR
    by_cases e2 : 15 + 5 * e ≤ j ∧ j < 15 + 5 * e + t
    · rw [if_pos e2, if_pos (by omega)]
    · rw [if_neg e2, if_neg (by omega)]
theorem shR_0 (a : Nat → Int32) (i : Nat) : shR a i (5 * i) = a := by
  funext j
  unfold shR
  rw [if_neg (by omega)]
theorem zeR_0 (a : Nat → Int32) (e : Nat) : zeR a e 0 = a := by
  funext j
  unfold zeR
  rw [if_neg (by omega)]
theorem tm_goes {v : MdV} {L : List M5} (h : sM (Md_all v) L) (hl : L.length ≤ 12) {i : Nat} (hi : i < L.length) : ∃ a', f_X4_goes v (nI i) = some (0, mA v a') ∧ sM a' (L.eraseIdx i) ∧ ∀ j, (1 ≤ j ∧ j < 15) ∨ 75 ≤ j → a' j = Md_all v j := by
  have k2 : ∀ d t m (a : Nat → Int32), t + d = 5 → d < m → f_X4_goes_L48 m (nI i) (nI (L.length - 1)) (nI t) (mA v (zeR a (L.length - 1) t)) = some (0, mA v (upd (zeR a (L.length - 1) 5) 0 (nI (L.length - 1)))) := by
    intro d
    induction d with
    | zero =>
      intro t m a ht hm
      obtain ⟨m, rfl⟩ : ∃ z, m = z + 1 := ⟨m - 1, by omega⟩
      have e : t = 5 := by omega
      rw [f_X4_goes_L48, e, if_pos (show (5 : Int32) ≤ nI 5 from by decide), gk_0, ck_0]
      rfl
    | succ d ih =>
      intro t m a ht hm
      obtain ⟨m, rfl⟩ : ∃ z, m = z + 1 := ⟨m - 1, by omega⟩
      rw [f_X4_goes_L48, if_neg (show ¬ (5 : Int32) ≤ nI t from nI_ge (a := t) (b := 5) (by omega) (by omega)), tm_setA _ (by omega) (by omega), bd_s, nI_1]
      show f_X4_goes_L48 m (nI i) (nI (L.length - 1)) (nI (t + 1)) (mA v (upd (zeR a (L.length - 1) t) (15 + 5 * (L.length - 1) + t) 0)) = _
      rw [zeR_s]
      exact ih (t + 1) m a (by omega) (by omega)
  have k1 : ∀ d t m, t + d = 5 * (L.length - 1) → 5 * i ≤ t → d < m → f_X4_goes_L13 m (nI i) (nI (L.length - 1)) (nI t) (mA v (shR (Md_all v) i t)) = some (0, mA v (upd (zeR (shR (Md_all v) i (5 * (L.length - 1))) (L.length - 1) 5) 0 (nI (L.length - 1)))) := by
    intro d
    induction d with
    | zero =>
      intro t m ht hit hm
      obtain ⟨m, rfl⟩ : ∃ z, m = z + 1 := ⟨m - 1, by omega⟩
      have e : t = 5 * (L.length - 1) := by omega
      have e5 : (5 : Int32) * nI (L.length - 1) = nI (5 * (L.length - 1)) := pk_mul 5 _
      rw [f_X4_goes_L13, e5, e, if_pos (Int32.le_refl _)]
      have h2 := k2 5 0 100 (shR (Md_all v) i (5 * (L.length - 1))) (by omega) (by omega)
      rw [zeR_0] at h2
      exact h2
    | succ d ih =>
      intro t m ht hit hm
      obtain ⟨m, rfl⟩ : ∃ z, m = z + 1 := ⟨m - 1, by omega⟩
      have e5 : (5 : Int32) * nI (L.length - 1) = nI (5 * (L.length - 1)) := pk_mul 5 _
      have e6 : (15 : Int32) + nI t = nI (15 + t) := nI_add 15 t
      have e7 : nI (15 + t) + (5 : Int32) = nI (15 + t + 5) := nI_add (15 + t) 5
      rw [f_X4_goes_L13, e5, if_neg (nI_ge (by omega) (by omega)), e6, e7, gd_n (by omega) (by decide), gd_n (by omega) (by decide), cl_n (by omega), cl_n (by omega), nI_1]
      show f_X4_goes_L13 m (nI i) (nI (L.length - 1)) (nI (t + 1)) (mA v (upd (shR (Md_all v) i t) (15 + t) (shR (Md_all v) i t (15 + t + 5)))) = _
      rw [shR_s _ hit]
      exact ih (t + 1) m (by omega) (by omega) (by omega)
  have e1 : nI L.length - 1 = nI (L.length - 1) := pk_sub (b := 1) (by omega)
  have e2 : (5 : Int32) * nI i = nI (5 * i) := pk_mul 5 i
  have h1 := k1 (5 * (L.length - 1) - 5 * i) (5 * i) 100 (by omega) (Nat.le_refl _) (by omega)
  rw [shR_0] at h1
  refine ⟨upd (zeR (shR (Md_all v) i (5 * (L.length - 1))) (L.length - 1) 5) 0 (nI (L.length - 1)), ?_, ⟨?_, fun k m hk => ?_⟩, fun j hj => ?_⟩
  · unfold f_X4_goes
    rw [gk_0, ck_0, h.1, e1, e2]
    exact h1
  · rw [pk_us, List.length_eraseIdx_of_lt hi]
  · have hkl := lt_get hk
    rw [List.length_eraseIdx_of_lt hi] at hkl
    have at_ : ∀ w, w < 5 → (upd (zeR (shR (Md_all v) i (5 * (L.length - 1))) (L.length - 1) 5) 0 (nI (L.length - 1))) (15 + 5 * k + w) = if k < i then Md_all v (15 + 5 * k + w) else Md_all v (15 + 5 * (k + 1) + w) := by
      intro w hw
      rw [pk_un (by omega)]
      unfold zeR
      rw [if_neg (by omega)]
      unfold shR
      by_cases e : k < i
      · rw [if_neg (by omega), if_pos e]
      · rw [if_pos (by omega), if_neg e]
        congr 1
        omega
    rw [List.getElem?_eraseIdx] at hk
    have a0 := at_ 0 (by omega)
    have a1 := at_ 1 (by omega)
    have a2 := at_ 2 (by omega)
    have a3 := at_ 3 (by omega)
    have a4 := at_ 4 (by omega)
    by_cases e : k < i
    · rw [if_pos e] at hk a0 a1 a2 a3 a4
      obtain ⟨q0, q1, q2, q3, q4⟩ := h.2 k m hk
      exact ⟨a0.trans q0, a1.trans q1, a2.trans q2, a3.trans q3, a4.trans q4⟩
    · rw [if_neg e] at hk a0 a1 a2 a3 a4
      obtain ⟨q0, q1, q2, q3, q4⟩ := h.2 (k + 1) m hk
      exact ⟨a0.trans q0, a1.trans q1, a2.trans q2, a3.trans q3, a4.trans q4⟩
  · rw [pk_un (by omega)]
    unfold zeR
    rw [if_neg (by omega)]
    unfold shR
    rw [if_neg (by omega)]
/-- where else a row is the same -/
def keepR (a' a : Nat → Int32) : Prop := ∀ j, (1 ≤ j ∧ j < 15) ∨ 75 ≤ j → a' j = a j
theorem sC_keep {a a' : Nat → Int32} {S : List Nat} (h : sC a S) (hl : S.length ≤ 8) (k : keepR a' a) : sC a' S := by
  refine ⟨by rw [k 2 (Or.inl (by omega))]; exact h.1, fun j p hj => ?_⟩
  have := lt_get hj
  rw [k (7 + j) (Or.inl (by omega))]
  exact h.2 j p hj
theorem tm_removes {v : MdV} {L : List M5} (h : sM (Md_all v) L) (b : bL L) (x : Int32) :
    (∃ i m a', L[i]? = some m ∧ nI (mId m) = x ∧ f_X4_removes v x = some (0, mAR v a' (nI (mPg m))) ∧ sM a' (L.eraseIdx i) ∧ keepR a' (Md_all v)) ∨ ((∀ m ∈ L, ¬ nI (mId m) = x) ∧ f_X4_removes v x = some (1, v)) := by
  obtain ⟨r, hr, hf⟩ := tm_find h b x
  have hl := b.1
  unfold f_X4_removes
  rw [hr, bd_s]
  rcases hf with ⟨j, m, hm, hq, -, e⟩ | ⟨e, hq⟩
  · have hj := lt_get hm
    left
    rw [e, if_pos (nI_pos' (by omega)), tm_pg h b hm, bd_s]
    obtain ⟨a', q1, q2, q3⟩ := tm_goes (v := mAR v (Md_all v) (nI (mPg m))) h hl hj
    refine ⟨j, m, a', hm, hq, ?_, q2, q3⟩
    have q1' := q1
    unfold mAR at q1'
    rw [q1', bd_s]
    rfl
  · right
    refine ⟨hq, ?_⟩
    rw [e, if_neg (by decide)]
/-- a mark put behind the others -/
theorem sM_push {a a' : Nat → Int32} {L : List M5} (h : sM a L) (hl : L.length < 12) (m : M5) (h0 : a' 0 = nI (L.length + 1)) (hr : rS a' L.length m) (hk : ∀ j, 15 ≤ j → j < 15 + 5 * L.length → a' j = a j) : sM a' (L ++ [m]) := by
  refine ⟨by rw [List.length_append, List.length_singleton]; exact h0, fun k z hz => ?_⟩
  by_cases e : k < L.length
  · rw [List.getElem?_append_left e] at hz
    obtain ⟨q0, q1, q2, q3, q4⟩ := h.2 k z hz
    exact ⟨by rw [hk _ (by omega) (by omega)]; exact q0, by rw [hk _ (by omega) (by omega)]; exact q1, by rw [hk _ (by omega) (by omega)]; exact q2, by rw [hk _ (by omega) (by omega)]; exact q3, by rw [hk _ (by omega) (by omega)]; exact q4⟩
  · have hk2 := lt_get hz
    rw [List.length_append, List.length_singleton] at hk2
    have e2 : k = L.length := by omega
    rw [e2, List.getElem?_append_right (Nat.le_refl _), Nat.sub_self] at hz
    cases hz
    rw [e2]
    exact hr
/-- how the row stands when a mark is added -/
def addR (a : Nat → Int32) (n nid p w s : Nat) : Nat → Int32 := upd (upd (upd (upd (upd (upd (upd a 1 (nI (nid + 1))) 0 (nI (n + 1))) (15 + 5 * n) (nI nid)) (15 + 5 * n + 1) (nI p)) (15 + 5 * n + 2) (nI w)) (15 + 5 * n + 3) (nI s)) (15 + 5 * n + 4) 0
theorem addR_keep (a : Nat → Int32) (n nid p w s : Nat) {j : Nat} (h0 : j ≠ 0) (h1 : j ≠ 1) (h : j < 15 + 5 * n ∨ 15 + 5 * n + 5 ≤ j) : addR a n nid p w s j = a j := by
  unfold addR
  rw [pk_un (by omega), pk_un (by omega), pk_un (by omega), pk_un (by omega), pk_un (by omega), pk_un h0, pk_un h1]
theorem addR_sM {a : Nat → Int32} {L : List M5} (h : sM a L) (hl : L.length < 12) (nid p w s : Nat) : sM (addR a L.length nid p w s) (L ++ [(nid, p, w, 0, s)]) := by
  refine sM_push h hl _ ?_ ⟨?_, ?_, ?_, ?_, ?_⟩ (fun j h1 h2 => addR_keep _ _ _ _ _ _ (by omega) (by omega) (Or.inl h2))
  · unfold addR
    rw [pk_un (by omega), pk_un (by omega), pk_un (by omega), pk_un (by omega), pk_un (by omega), pk_us]
  · unfold addR
    rw [pk_un (by omega), pk_un (by omega), pk_un (by omega), pk_un (by omega), pk_us]
  · unfold addR
    rw [pk_un (by omega), pk_un (by omega), pk_un (by omega), pk_us]
  · unfold addR
    rw [pk_un (by omega), pk_un (by omega), pk_us]
  · unfold addR
    rw [pk_un (by omega), pk_us]
  · unfold addR
    rw [pk_us]
    rfl
/-- the free seat with the lowest number: 5 where there is none -/
def fseat (L : List M5) : Nat → Nat
  | 0 => 5
  | k + 1 => if (L.any fun m => decide (mSt m = 5 - k)) = true then fseat L k else 4 - k
theorem any_perm {L L' : List M5} (p : L.Perm L') (q : M5 → Bool) : L.any q = L'.any q := p.any_eq
theorem fseat_perm {L L' : List M5} (p : L.Perm L') : ∀ k, fseat L k = fseat L' k
  | 0 => rfl
  | k + 1 => by
    rw [fseat, fseat, any_perm p, fseat_perm p k]
theorem any_some {L : List M5} {s : Nat} : (L.any fun m => decide (mSt m = s)) = true ↔ ∃ m ∈ L, mSt m = s := by
  rw [List.any_eq_true]
  exact ⟨fun ⟨m, h1, h2⟩ => ⟨m, h1, of_decide_eq_true h2⟩, fun ⟨m, h1, h2⟩ => ⟨m, h1, decide_eq_true h2⟩⟩
theorem fseat_le (L : List M5) : ∀ k, k ≤ 5 → fseat L k ≤ 5
  | 0, _ => Nat.le_refl _
  | k + 1, h => by
    rw [fseat]
    split
    · exact fseat_le L k (by omega)
    · omega
/-- it is free -/
theorem fseat_free (L : List M5) : ∀ k, k ≤ 5 → fseat L k < 5 → ∀ m ∈ L, mSt m ≠ fseat L k + 1
  | 0, _, h => by
    rw [fseat] at h
    omega
  | k + 1, h, h2 => by
    rw [fseat] at h2 ⊢
    split
    · rename_i e
      rw [if_pos e] at h2
      exact fseat_free L k (by omega) h2
    · rename_i e
      intro m hm e2
      exact e (any_some.mpr ⟨m, hm, by omega⟩)
def seatI (s : Nat) : Int32 := if s = 5 then -1 else nI s
theorem tm_freeSeat {v : MdV} {L : List M5} (h : sM (Md_all v) L) (b : bL L) : f_X4_freeSeat v = some (seatI (fseat L 5)) := by
  have key : ∀ k n, k ≤ 5 → k < n → f_X4_freeSeat_L2 v n (nI (5 - k)) = some (seatI (fseat L k)) := by
    intro k
    induction k with
    | zero =>
      intro n _ hn
      obtain ⟨n, rfl⟩ : ∃ z, n = z + 1 := ⟨n - 1, by omega⟩
      rw [f_X4_freeSeat_L2, if_pos (by decide)]
      rfl
    | succ k ih =>
      intro n hk hn
      obtain ⟨n, rfl⟩ : ∃ z, n = z + 1 := ⟨n - 1, by omega⟩
      rw [f_X4_freeSeat_L2, if_neg (show ¬ (5 : Int32) ≤ nI (5 - (k + 1)) from nI_ge (b := 5) (by omega) (by omega))]
      obtain ⟨r, hr, hf⟩ := tm_inSeat h b (nI (5 - (k + 1)))
      rw [hr, bd_s, fseat]
      have e1 : nI (5 - (k + 1)) + 1 = nI (5 - k) := by
        rw [nI_1]
        congr 1
        omega
      rw [e1] at hf
      rcases hf with ⟨j, m, hm, hq, -, e⟩ | ⟨e, hq⟩
      · have hj := lt_get hm
        have hl := b.1
        have hs := (b.2 m (mem_get hm)).2.2.2.2
        rw [e, if_pos (nI_pos' (by omega)), if_pos (any_some.mpr ⟨m, mem_get hm, (nI_eq (by omega) (by omega)).mp hq⟩), e1]
        exact ih n (by omega) (by omega)
      · rw [e, if_neg (by decide), if_neg (fun z => by
          obtain ⟨m, hm, hs⟩ := any_some.mp z
          exact hq m hm (congrArg nI hs))]
        unfold seatI
        rw [if_neg (by omega)]
        congr 2
        omega
  exact key 5 100 (Nat.le_refl _) (by omega)
theorem s_freeSeat {v : BkV} {L : List M5} (h : hM v L) (b : bL L) : f_X0_freeSeat v = some (seatI (fseat L 5)) := by
  have key : ∀ k n, k ≤ 5 → k < n → f_X0_freeSeat_L2 v n (nI (5 - k)) = some (seatI (fseat L k)) := by
    intro k
    induction k with
    | zero =>
      intro n _ hn
      obtain ⟨n, rfl⟩ : ∃ z, n = z + 1 := ⟨n - 1, by omega⟩
      rw [f_X0_freeSeat_L2, if_pos (by decide)]
      rfl
    | succ k ih =>
      intro n hk hn
      obtain ⟨n, rfl⟩ : ∃ z, n = z + 1 := ⟨n - 1, by omega⟩
      rw [f_X0_freeSeat_L2, if_neg (show ¬ (5 : Int32) ≤ nI (5 - (k + 1)) from nI_ge (b := 5) (by omega) (by omega))]
      obtain ⟨r, hr, hf⟩ := s_slotInSeat h b (nI (5 - (k + 1)))
      rw [hr, bd_s, fseat]
      have hs5 : ∀ m ∈ L, mSt m ≤ 5 := fun m hm => (b.2 m hm).2.2.2.2
      have e0 : ∀ s, s ≤ 5 → (nI s - 1 = nI (5 - (k + 1)) ↔ s = 5 - k) := by
        intro s hs
        have hk4 : k ≤ 4 := by omega
        have hh : ∀ s, s < 6 → ∀ k, k < 5 → (nI s - 1 = nI (5 - (k + 1)) ↔ s = 5 - k) := by decide +kernel
        exact hh s (by omega) k (by omega)
      rcases hf with ⟨j, m, hm, hq, -, e⟩ | ⟨e, hq⟩
      · have hj := lt_get hm
        have hl := b.1
        have e1 : nI (5 - (k + 1)) + 1 = nI (5 - k) := by
          rw [nI_1]
          congr 1
          omega
        rw [e, if_neg (nI_m1 (by omega)), if_pos (any_some.mpr ⟨m, mem_get hm, (e0 _ (hs5 m (mem_get hm))).mp hq⟩), e1]
        exact ih n (by omega) (by omega)
      · rw [e, if_pos rfl, if_neg (fun z => by
          obtain ⟨m, hm, hs⟩ := any_some.mp z
          exact hq m hm ((e0 _ (hs5 m hm)).mpr hs))]
        unfold seatI
        rw [if_neg (by omega)]
        congr 2
        omega
  exact key 5 100 (Nat.le_refl _) (by omega)
