/-! ===== the model's chapters, votes, turns ===== -/
section MDV
variable {v : MdV} {L : List M5} {S : List Nat}
theorem sM_hi {a a' : Nat → Int32} (h : sM a L) (k : ∀ j, j = 0 ∨ 15 ≤ j → a' j = a j) : sM a' L := by
  refine ⟨by rw [k 0 (Or.inl rfl)]; exact h.1, fun i m hm => ?_⟩
  obtain ⟨q0, q1, q2, q3, q4⟩ := h.2 i m hm
  exact ⟨by rw [k _ (by omega)]; exact q0, by rw [k _ (by omega)]; exact q1, by rw [k _ (by omega)]; exact q2, by rw [k _ (by omega)]; exact q3, by rw [k _ (by omega)]; exact q4⟩
/-- where else a row is the same, when chapters change -/
def keepC (a' a : Nat → Int32) : Prop := ∀ j, j = 0 ∨ j = 1 ∨ (3 ≤ j ∧ j < 7) ∨ 15 ≤ j → a' j = a j
theorem tm_starts (hc : sC (Md_all v) S) (hS : okS S) (pa : Int32) :
    (¬ (0 ≤ pa ∧ pa < 60) ∧ f_X4_starts v pa = some (1, v)) ∨
    ∃ p, p < 60 ∧ pa = nI p ∧ ((S.length = 8 ∧ f_X4_starts v pa = some (3, mRej v 6 8)) ∨
      (S.length < 8 ∧ S.getD (chOf S p) 0 = p ∧ f_X4_starts v pa = some (3, mRej v 7 (nI (chOf S p)))) ∨
      (S.length < 8 ∧ S.getD (chOf S p) 0 ≠ p ∧ ∃ a', f_X4_starts v pa = some (0, mAR v a' (nI (chOf S p + 1))) ∧ sC a' (S.insertIdx (chOf S p + 1) p) ∧ keepC a' (Md_all v))) := by
  have hl := hS.1.1
  by_cases hp : 0 ≤ pa ∧ pa < 60
  · right
    obtain ⟨p, hp6, rfl⟩ := in_page hp
    refine ⟨p, hp6, rfl, ?_⟩
    have hch := chOf_lt S p hS.1.2.1
    have pre : f_X4_starts v (nI p) = if nI S.length = (8 : Int32) then f_X4_starts_B32 (nI p) (nI (chOf S p)) 1 v else f_X4_starts_B32 (nI p) (nI (chOf S p)) 0 v := by
      unfold f_X4_starts
      rw [tm_isPage, bd_s, decide_eq_true hp, if_neg (by decide), tm_chapterAt hc hS.1 hS.2.1 p hp6, bd_s, gk_2, ck_2, hc.1]
    by_cases e8 : S.length = 8
    · refine Or.inl ⟨e8, pre.trans ?_⟩
      rw [e8, if_pos (by decide)]
      unfold f_X4_starts_B32 f_X4_starts_B66
      rw [tm_rej1, bd_s, if_neg fst1]
    have pre2 := pre.trans (if_neg (fun z => e8 ((nI_eq (by omega) (by decide)).mp (show nI S.length = nI 8 from z))))
    unfold f_X4_starts_B32 at pre2
    rw [tm_rej0, bd_s, if_pos rfl, tm_first (v := ((0 : Int32), v).2) hc hS.1 hch, bd_s] at pre2
    have hs6 := getD_lt hS.1 hch
    by_cases es : S.getD (chOf S p) 0 = p
    · refine Or.inr (Or.inl ⟨by omega, es, pre2.trans ?_⟩)
      rw [if_pos (by rw [es])]
      unfold f_X4_starts_B57 f_X4_starts_B66
      rw [tm_rej1, bd_s, if_neg fst1]
    have pre3 := pre2.trans (if_neg (fun z => es ((nI_eq (by omega) (by omega)).mp z)))
    unfold f_X4_starts_B57 at pre3
    rw [tm_rej0, bd_s, if_pos rfl, gk_2, ck_2] at pre3
    have key : ∀ d j n (a : Nat → Int32), j = chOf S p + 1 + d → j ≤ S.length → d < n → a 2 = nI S.length → (∀ t q, t < j → S[t]? = some q → a (7 + t) = nI q) → (∀ t q, j < t → S[t - 1]? = some q → a (7 + t) = nI q) → keepC a (Md_all v) → ∃ a', f_X4_starts_L75 n (nI p) (nI (chOf S p)) (nI j) (mA v a) = some (0, mAR v a' (nI (chOf S p + 1))) ∧ sC a' (S.insertIdx (chOf S p + 1) p) ∧ keepC a' (Md_all v) := by
      intro d
      induction d with
      | zero =>
        intro j n a hj hjl hn hm h1 h2 hk
        obtain ⟨n, rfl⟩ : ∃ z, n = z + 1 := ⟨n - 1, by omega⟩
        have e7 : (7 : Int32) + nI (chOf S p) + 1 = nI (7 + chOf S p + 1) := by
          rw [show (7 : Int32) + nI (chOf S p) = nI (7 + chOf S p) from nI_add 7 _, nI_1]
        rw [f_X4_starts_L75, nI_1, if_pos (nI_le (by omega) (by omega)), e7, gd_n (by omega) (by decide), gk_2, gk_2, ck_2, cl_n (by omega)]
        refine ⟨upd (upd a (7 + chOf S p + 1) (nI p)) 2 (nI (S.length + 1)), ?_, ⟨?_, fun t q ht => ?_⟩, fun t ht => ?_⟩
        · show some ((0 : Int32), mAR v (upd (upd a (7 + chOf S p + 1) (nI p)) 2 (upd a (7 + chOf S p + 1) (nI p) 2 + 1)) (nI (chOf S p + 1))) = _
          rw [pk_un (by omega), hm, nI_1]
        · rw [pk_us, List.length_insertIdx_of_le_length (by omega)]
        · rw [pk_un (by omega)]
          rw [List.getElem?_insertIdx] at ht
          by_cases e : t < chOf S p + 1
          · rw [if_pos e] at ht
            rw [pk_un (by omega)]
            exact h1 t q (by omega) ht
          · rw [if_neg e] at ht
            by_cases e2 : t = chOf S p + 1
            · rw [if_pos e2, if_pos (by omega)] at ht
              cases ht
              rw [e2, ← Nat.add_assoc, pk_us]
            · rw [if_neg e2] at ht
              rw [pk_un (by omega)]
              exact h2 t q (by omega) ht
        · rw [pk_un (by omega), pk_un (by omega)]
          exact hk t ht
      | succ d ih =>
        intro j n a hj hjl hn hm h1 h2 hk
        obtain ⟨n, rfl⟩ : ∃ z, n = z + 1 := ⟨n - 1, by omega⟩
        obtain ⟨j, rfl⟩ : ∃ z, j = z + 1 := ⟨j - 1, by omega⟩
        have e7 : (7 : Int32) + nI (j + 1) = nI (7 + (j + 1)) := nI_add 7 _
        have e8 : nI (7 + (j + 1)) - 1 = nI (7 + j) := pk_sub (b := 1) (by omega)
        rw [f_X4_starts_L75, nI_1, if_neg (nI_ge (by omega) (by omega)), e7, e8, gd_n (by omega) (by decide), gd_n (by omega) (by decide), cl_n (by omega), cl_n (by omega), nI_dn1]
        refine ih j n (upd a (7 + (j + 1)) (a (7 + j))) (by omega) (by omega) (by omega) (by rw [pk_un (by omega)]; exact hm) (fun t q ht hg => ?_) (fun t q ht hg => ?_) (fun t ht => ?_)
        · rw [pk_un (by omega)]
          exact h1 t q (by omega) hg
        · by_cases e : t = j + 1
          · rw [e] at hg ⊢
            rw [pk_us]
            exact h1 j q (by omega) hg
          · rw [pk_un (by omega)]
            exact h2 t q (by omega) hg
        · rw [pk_un (by omega)]
          exact hk t ht
    have h2 : Md_all ((0 : Int32), v).2 2 = nI S.length := hc.1
    rw [h2] at pre3
    obtain ⟨a', q1, q2, q3⟩ := key (S.length - (chOf S p + 1)) S.length 100 (Md_all v) (by omega) (Nat.le_refl _) (by omega) hc.1 (fun t q ht hg => hc.2 t q hg) (fun t q ht hg => absurd (lt_get hg) (by omega)) (fun _ _ => rfl)
    exact Or.inr (Or.inr ⟨by omega, es, a', pre3.trans q1, q2, q3⟩)
  · left
    refine ⟨hp, ?_⟩
    unfold f_X4_starts
    rw [tm_isPage, bd_s, decide_eq_false hp, if_pos b2_f]
/-- what a vote leaves, as the model says it -/
def staysM (S : List Nat) (k : Nat) (m : M5) : Bool := !(decide (mSt m = 0) && decide (chOf S (mPg m) = k))
def wFavM (L : List M5) (S : List Nat) (k : Nat) : Nat := (L.map fun m => if isFavM S k m = true then mWt m else 0).sum
theorem wFavM_lt (b : bL L) (S : List Nat) (k : Nat) : wFavM L S k < 2 ^ 20 := by
  have h := sum_le L (fun m => if isFavM S k m = true then mWt m else 0) 9 (fun m hm => by
    have := (b.2 m hm).2.2.1
    show (if isFavM S k m = true then mWt m else 0) ≤ 9
    split
    · omega
    · exact Nat.zero_le _)
  have := b.1
  unfold wFavM
  omega
theorem wAll_lt (b : bL L) : (L.map mWt).sum < 2 ^ 20 := by
  have h := sum_le L mWt 9 (fun m hm => (b.2 m hm).2.2.1)
  have := b.1
  omega
theorem tm_isCarried (h : sM (Md_all v) L) (b : bL L) (hc : sC (Md_all v) S) (hS : okS S) {k : Nat} (hk : k < S.length) : f_X4_isCarried v (nI k) = some (b2 (decide ((L.map mWt).sum < 2 * wFavM L S k))) := by
  have h1 := wFavM_lt b S k
  have h2 := wAll_lt b
  unfold f_X4_isCarried f_X4_isCarried_B20
  rw [tm_favour h b hc hS.1 hS.2.1 hk, bd_s, tm_weightOfAll h b, bd_s]
  have e2 : (2 : Int32) * nI (wFavM L S k) = nI (2 * wFavM L S k) := pk_mul 2 _
  show (if (2 : Int32) * nI (wFavM L S k) ≤ nI (L.map mWt).sum then _ else _) = _
  rw [e2]
  by_cases e : (L.map mWt).sum < 2 * wFavM L S k
  · rw [if_neg (nI_ge e (by omega)), gd_z1, decide_eq_true e]
    rfl
  · rw [if_pos (nI_le (by omega) (by omega)), gd_z0, decide_eq_false e]
    rfl
/-- the loop that drops a chapter's start -/
theorem tm_drop (hc : sC (Md_all v) S) (hl : S.length ≤ 8) {g : Nat} (hg : g < S.length) (k : Int32) (hx : 2 ≤ S.length) : ∃ a', f_X4_votes_B139 k (-1) (nI g) v = some (0, mA v a') ∧ sC a' (S.eraseIdx g) ∧ keepC a' (Md_all v) := by
  have key : ∀ d j n (a : Nat → Int32), j + d = S.length - 1 → g ≤ j → d < n → a 2 = nI (S.length - 1) → (∀ t q, t < j → (S.eraseIdx g)[t]? = some q → a (7 + t) = nI q) → (∀ t q, j ≤ t → S[t]? = some q → t < S.length → a (7 + t) = nI q) → keepC a (Md_all v) → (j = g → ∀ t q, t ≤ j → S[t]? = some q → a (7 + t) = nI q) → ∃ a', f_X4_votes_L152 n k (nI g) (nI j) (mA v a) = some (0, mA v a') ∧ sC a' (S.eraseIdx g) ∧ keepC a' (Md_all v) := by
    intro d
    induction d with
    | zero =>
      intro j n a hj hij hn hm h1 h2 hk _
      obtain ⟨n, rfl⟩ : ∃ z, n = z + 1 := ⟨n - 1, by omega⟩
      have hle : (S.eraseIdx g).length = S.length - 1 := List.length_eraseIdx_of_lt hg
      have e7 : (7 : Int32) + nI (S.length - 1) = nI (7 + (S.length - 1)) := nI_add 7 _
      rw [f_X4_votes_L152, gk_2, ck_2]
      show ∃ a', (if a 2 ≤ nI j then gd (inb 2 825) (gd (inb (7 + a 2) 825) (some ((0 : Int32), mA v (upd a (cl (7 + a 2)) 0)))) else _) = some (0, mA v a') ∧ _
      rw [hm, if_pos (nI_le (by omega) (by omega)), gk_2, e7, gd_n (by omega) (by decide), cl_n (by omega)]
      refine ⟨upd a (7 + (S.length - 1)) 0, rfl, ⟨?_, fun t q ht => ?_⟩, fun t ht => ?_⟩
      · rw [pk_un (by omega), hle]
        exact hm
      · have h3 := lt_get ht
        rw [pk_un (by omega)]
        exact h1 t q (by omega) ht
      · rw [pk_un (by omega)]
        exact hk t ht
    | succ d ih =>
      intro j n a hj hij hn hm h1 h2 hk _
      obtain ⟨n, rfl⟩ : ∃ z, n = z + 1 := ⟨n - 1, by omega⟩
      have e7 : (7 : Int32) + nI j = nI (7 + j) := nI_add 7 _
      rw [f_X4_votes_L152, gk_2, ck_2]
      show ∃ a', (if a 2 ≤ nI j then _ else gd (inb (7 + nI j + 1) 825) (gd (inb (7 + nI j) 825) (f_X4_votes_L152 n k (nI g) (nI j + 1) (mA v (upd a (cl (7 + nI j)) (a (cl (7 + nI j + 1)))))))) = some (0, mA v a') ∧ _
      rw [hm, if_neg (nI_ge (by omega) (by omega)), e7, nI_1, gd_n (by omega) (by decide), gd_n (by omega) (by decide), cl_n (by omega), cl_n (by omega), nI_1]
      refine ih (j + 1) n (upd a (7 + j) (a (7 + j + 1))) (by omega) (by omega) (by omega) (by rw [pk_un (by omega)]; exact hm) (fun t q ht hg2 => ?_) (fun t q ht hg2 hlt => ?_) (fun t ht => ?_) (fun z => by omega)
      · by_cases e : t = j
        · rw [e] at hg2 ⊢
          rw [List.getElem?_eraseIdx_of_ge (by omega)] at hg2
          rw [pk_us]
          exact h2 (j + 1) q (by omega) hg2 (lt_get hg2)
        · rw [pk_un (by omega)]
          exact h1 t q (by omega) hg2
      · rw [pk_un (by omega)]
        exact h2 t q (by omega) hg2 hlt
      · rw [pk_un (by omega)]
        exact hk t ht
  unfold f_X4_votes_B139
  rw [gk_2, gk_2, ck_2, hc.1]
  have e1 : nI S.length - 1 = nI (S.length - 1) := pk_sub (b := 1) (by omega)
  rw [e1]
  refine key (S.length - 1 - g) g 100 (upd (Md_all v) 2 (nI (S.length - 1))) (by omega) (Nat.le_refl _) (by omega) pk_us (fun t q ht hg2 => ?_) (fun t q ht hg2 _ => ?_) (fun t ht => pk_un (by omega)) (fun _ t q ht hg2 => ?_)
  · rw [List.getElem?_eraseIdx_of_lt (by omega)] at hg2
    rw [pk_un (by omega)]
    exact hc.2 t q hg2
  · rw [pk_un (by omega)]
    exact hc.2 t q hg2
  · rw [pk_un (by omega)]
    exact hc.2 t q hg2
theorem tm_votes (h : sM (Md_all v) L) (b : bL L) (hc : sC (Md_all v) S) (hS : okS S) (ca : Int32) :
    (¬ (0 ≤ ca ∧ ca < nI S.length) ∧ f_X4_votes v ca = some (1, v)) ∨
    ∃ k, k < S.length ∧ ca = nI k ∧ ((S.length = 1 ∧ f_X4_votes v ca = some (3, mRej v 8 0)) ∨
      (2 ≤ S.length ∧ ¬ (L.map mWt).sum < 2 * wFavM L S k ∧ f_X4_votes v ca = some (0, mAR v (upd (Md_all v) 4 (Md_all v 4 + 1)) 0)) ∨
      (2 ≤ S.length ∧ (L.map mWt).sum < 2 * wFavM L S k ∧ ∃ a', f_X4_votes v ca = some (0, mAR v a' 1) ∧ sM a' (L.filter (staysM S k)) ∧ sC a' (dropCh S k) ∧ a' 1 = Md_all v 1 ∧ a' 3 = Md_all v 3 ∧ a' 4 = Md_all v 4 + 1 ∧ a' 5 = Md_all v 5 + 1 ∧ a' 6 = Md_all v 6 ∧ ∀ j, 75 ≤ j → a' j = Md_all v j)) := by
  have hl := hS.1.1
  have hl1 := hS.1.2.1
  by_cases hr : 0 ≤ ca ∧ ca < nI S.length
  · right
    obtain ⟨k, hk31, rfl⟩ := nI_of (x := ca) (Int32.not_lt.mpr hr.1)
    have hk : k < S.length := by
      have := hr.2
      rw [nI_ltI hk31 (by omega)] at this
      exact this
    refine ⟨k, hk, rfl, ?_⟩
    have pre : f_X4_votes v (nI k) = if nI S.length = (1 : Int32) then f_X4_votes_B26 (nI k) 1 v else f_X4_votes_B26 (nI k) 0 v := by
      unfold f_X4_votes
      rw [tm_isChapter hc hS.1, bd_s, decide_eq_true hr, if_neg (by decide), gk_2, ck_2, hc.1]
    by_cases e1 : S.length = 1
    · refine Or.inl ⟨e1, pre.trans ?_⟩
      rw [e1, if_pos (by decide)]
      unfold f_X4_votes_B26
      rw [tm_rej1, bd_s, if_neg fst1]
    have pre2 := pre.trans (if_neg (fun z => e1 ((nI_eq (by omega) (by decide)).mp (show nI S.length = nI 1 from z))))
    unfold f_X4_votes_B26 at pre2
    rw [tm_rej0, bd_s, if_pos rfl, gk_4, gk_4, ck_4] at pre2
    have h1m : sM (Md_all (mA v (upd (Md_all v) 4 (Md_all v 4 + 1)))) L := sM_hi h (fun j hj => pk_un (by omega))
    have h1c : sC (Md_all (mA v (upd (Md_all v) 4 (Md_all v 4 + 1)))) S := ⟨by show upd (Md_all v) 4 (Md_all v 4 + 1) 2 = _; rw [pk_un (by omega)]; exact hc.1, fun j p hj => by show upd (Md_all v) 4 (Md_all v 4 + 1) (7 + j) = _; rw [pk_un (by omega)]; exact hc.2 j p hj⟩
    have car := tm_isCarried h1m b h1c hS hk
    have pre3 : f_X4_votes v (nI k) = if b2 (decide ((L.map mWt).sum < 2 * wFavM L S k)) = 0 then f_X4_votes_B61 (nI k) 0 (mA v (upd (Md_all v) 4 (Md_all v 4 + 1))) else f_X4_votes_B61 (nI k) 1 (mA v (upd (Md_all v) 4 (Md_all v 4 + 1))) := by
      refine pre2.trans ?_
      show bd (f_X4_isCarried (mA v (upd (Md_all v) 4 (Md_all v 4 + 1))) (nI k)) _ = _
      rw [car, bd_s]
      rfl
    by_cases ec : (L.map mWt).sum < 2 * wFavM L S k
    · refine Or.inr (Or.inr ⟨by omega, ec, ?_⟩)
      rw [decide_eq_true ec, if_neg (by decide)] at pre3
      have key : ∀ j (A R : List M5) n (a : Nat → Int32) (w : MdV), A.length = j → Md_all w = a → sM a (A ++ R) → bL (A ++ R) → sC a S → j < n → ∃ a', f_X4_votes_L92 n (nI k) (nI j - 1) w = (if nI k = (0 : Int32) then f_X4_votes_B139 (nI k) (-1) 1 (mA w a') else f_X4_votes_B139 (nI k) (-1) (nI k) (mA w a')) ∧ sM a' (A.filter (staysM S k) ++ R) ∧ keepR a' a := by
        intro j
        induction j with
        | zero =>
          intro A R n a w hA hw hv _ _ hn
          obtain ⟨n, rfl⟩ : ∃ z, n = z + 1 := ⟨n - 1, by omega⟩
          have e : A = [] := List.eq_nil_of_length_eq_zero hA
          subst e
          rw [f_X4_votes_L92, if_pos nI_00]
          refine ⟨a, ?_, hv, fun _ _ => rfl⟩
          have ew : mA w a = w := by
            rw [← hw]
            rfl
          rw [ew]
          rfl
        | succ j ih =>
          intro A R n a w hA hw hv hb hcv hn
          obtain ⟨n, rfl⟩ : ∃ z, n = z + 1 := ⟨n - 1, by omega⟩
          obtain ⟨B, m, rfl, hB⟩ := last_of hA
          rw [List.append_assoc, List.singleton_append] at hv hb
          have hm : (B ++ m :: R)[j]? = some m := by
            rw [← hB]
            exact get_mid B m R
          have hlen := hb.1
          have hj := lt_get hm
          have hp := (hb.2 m (mem_get hm)).2.1
          have hst := (hb.2 m (mem_get hm)).2.2.2.2
          subst hw
          have hone : [m].filter (staysM S k) = if staysM S k m = true then [m] else [] := by rw [List.filter_cons, List.filter_nil]
          rw [nI_dn, f_X4_votes_L92, if_neg (nI_pos (by omega)), tm_st hv hb hm, bd_s, List.filter_append, hone]
          unfold f_X4_votes_B124
          have keep : staysM S k m = true → ∃ a', f_X4_votes_L92 n (nI k) (nI j + -1) w = (if nI k = (0 : Int32) then f_X4_votes_B139 (nI k) (-1) 1 (mA w a') else f_X4_votes_B139 (nI k) (-1) (nI k) (mA w a')) ∧ sM a' ((B.filter (staysM S k) ++ if staysM S k m = true then [m] else []) ++ R) ∧ keepR a' (Md_all w) := by
            intro hs
            obtain ⟨a', q1, q2, q3⟩ := ih B (m :: R) n _ w hB rfl hv hb hcv (by omega)
            refine ⟨a', by rw [add_m1]; exact q1, ?_, q3⟩
            rw [if_pos hs, List.append_assoc, List.singleton_append]
            exact q2
          by_cases hq : mSt m = 0
          · rw [hq, if_pos (by decide), tm_pg hv hb hm, bd_s, tm_chapterAt hcv hS.1 hS.2.1 _ hp, bd_s]
            have hch : chOf S (mPg m) < 2 ^ 31 := Nat.lt_of_lt_of_le (chOf_lt _ _ hl1) (by omega)
            by_cases hi : chOf S (mPg m) = k
            · rw [if_pos (by rw [hi])]
              obtain ⟨a1, q1, q2, q3⟩ := tm_goes hv hb.1 (i := j) hj
              rw [q1, bd_s]
              rw [← hB, erase_mid] at q2
              have hb1 : bL (B ++ R) := bL_sub hb (by simp) (fun z hz => by
                rcases List.mem_append.mp hz with h1 | h1
                · exact List.mem_append_left _ h1
                · exact List.mem_append_right _ (List.mem_cons_of_mem _ h1))
              obtain ⟨a', p1, p2, p3⟩ := ih B R n a1 (mA w a1) hB rfl q2 hb1 (sC_keep hcv hl q3) (by omega)
              refine ⟨a', by rw [add_m1]; exact p1, ?_, fun t ht => (p3 t ht).trans (q3 t ht)⟩
              have hs : staysM S k m = false := by
                unfold staysM
                rw [decide_eq_true hi, decide_eq_true hq]
                rfl
              rw [hs, if_neg (by decide), List.append_nil]
              exact p2
            · rw [if_neg (fun z => hi ((nI_eq hch (by omega)).mp z))]
              exact keep (by unfold staysM; rw [decide_eq_false hi, Bool.and_false]; rfl)
          · rw [if_neg (nI_ne0 (by omega) (by omega))]
            exact keep (by unfold staysM; rw [decide_eq_false hq, Bool.false_and]; rfl)
      obtain ⟨a2, ha2⟩ : ∃ z, z = upd (upd (Md_all v) 4 (Md_all v 4 + 1)) 5 (Md_all v 5 + 1) := ⟨_, rfl⟩
      have h2m : sM a2 L := by
        rw [ha2]
        exact sM_hi h (fun j hj => by rw [pk_un (by omega), pk_un (by omega)])
      have h2c : sC a2 S := by
        rw [ha2]
        exact ⟨by rw [pk_un (by omega), pk_un (by omega)]; exact hc.1, fun j p hj => by rw [pk_un (by omega), pk_un (by omega)]; exact hc.2 j p hj⟩
      obtain ⟨a3, q1, q2, q3⟩ := key L.length L [] 100 a2 (mAR v a2 1) rfl rfl (by rw [List.append_nil]; exact h2m) (by rw [List.append_nil]; exact b) h2c (by have := b.1; omega)
      rw [List.append_nil] at q2
      have hc3 : sC a3 S := sC_keep h2c hl q3
      obtain ⟨a4, p1, p2, p3⟩ := tm_drop (v := mAR v a3 1) hc3 hl (g := if k = 0 then 1 else k) (by split <;> omega) (nI k) (by omega)
      have hg : (if nI k = (0 : Int32) then f_X4_votes_B139 (nI k) (-1) 1 (mAR v a3 1) else f_X4_votes_B139 (nI k) (-1) (nI k) (mAR v a3 1)) = f_X4_votes_B139 (nI k) (-1) (nI (if k = 0 then 1 else k)) (mAR v a3 1) := by
        by_cases e0 : k = 0
        · subst e0
          rfl
        · rw [if_neg (nI_ne0 (by omega) (by omega)), if_neg e0]
      have a2at : ∀ j, j ≠ 4 → j ≠ 5 → a2 j = Md_all v j := fun j h4 h5 => by rw [ha2, pk_un h5, pk_un h4]
      refine ⟨a4, ?_, ?_, p2, ?_, ?_, ?_, ?_, ?_, ?_⟩
      · refine pre3.trans ?_
        unfold f_X4_votes_B61
        rw [if_neg (by decide), gk_5, gk_5, gk_0, ck_5, ck_0]
        show f_X4_votes_L92 100 (nI k) (upd (upd (Md_all v) 4 (Md_all v 4 + 1)) 5 (upd (Md_all v) 4 (Md_all v 4 + 1) 5 + 1) 0 - 1) (mAR v (upd (upd (Md_all v) 4 (Md_all v 4 + 1)) 5 (upd (Md_all v) 4 (Md_all v 4 + 1) 5 + 1)) 1) = _
        rw [pk_un (show (5 : Nat) ≠ 4 by decide), ← ha2, a2at 0 (by decide) (by decide), h.1, q1]
        show (if nI k = (0 : Int32) then f_X4_votes_B139 (nI k) (-1) 1 (mAR v a3 1) else f_X4_votes_B139 (nI k) (-1) (nI k) (mAR v a3 1)) = _
        rw [hg, p1]
        rfl
      · exact sM_hi q2 (fun j hj => p3 j (by omega))
      · rw [p3 1 (by omega)]
        show a3 1 = _
        rw [q3 1 (by omega), a2at 1 (by decide) (by decide)]
      · rw [p3 3 (by omega)]
        show a3 3 = _
        rw [q3 3 (by omega), a2at 3 (by decide) (by decide)]
      · rw [p3 4 (by omega)]
        show a3 4 = _
        rw [q3 4 (by omega), ha2, pk_un (by decide), pk_us]
      · rw [p3 5 (by omega)]
        show a3 5 = _
        rw [q3 5 (by omega), ha2, pk_us]
      · rw [p3 6 (by omega)]
        show a3 6 = _
        rw [q3 6 (by omega), a2at 6 (by decide) (by decide)]
      · intro j hj
        rw [p3 j (by omega)]
        show a3 j = _
        rw [q3 j (by omega), a2at j (by omega) (by omega)]
    · refine Or.inr (Or.inl ⟨by omega, ec, ?_⟩)
      rw [decide_eq_false ec, if_pos b2_f] at pre3
      refine pre3.trans ?_
      unfold f_X4_votes_B61
      rw [if_pos rfl]
      rfl
  · left
    refine ⟨hr, ?_⟩
    unfold f_X4_votes
    rw [tm_isChapter hc hS.1, bd_s, decide_eq_false hr, if_pos b2_f]
/-- an ear on the way, as the model says it -/
theorem tm_isPassed (v : MdV) {r : Nat} (hr : Md_all v 3 = nI r) (hr6 : r < 60) {p : Nat} (hp : p < 60) {cnt : Nat} (hcn : cnt ≤ 20) (fwd : Bool) : f_X4_isPassed v (nI p) (nI cnt) (b2 fwd) = some (b2 (if fwd = true then decide (r < p ∧ p ≤ r + cnt) else decide (p < r ∧ r ≤ p + cnt))) := by
  unfold f_X4_isPassed f_X4_isPassed_B39
  rw [gk_3, ck_3, hr]
  cases fwd
  · rw [if_pos b2_f, tm_in, bd_s, gd_z, if_neg (by decide)]
    congr 3
    have e1 := nI_sub_toInt (a := r) (b := cnt) (by omega) (by omega)
    have e2 : (nI r - 1).toInt = (r : Int) - 1 := nI_sub_toInt (a := r) (b := 1) (by omega) (by omega)
    rw [Int32.le_iff_toInt_le, Int32.le_iff_toInt_le, e1, e2, nI_toInt (by omega)]
    exact propext ⟨fun h => by omega, fun h => by omega⟩
  · rw [if_neg (by decide), tm_in, bd_s, gd_z, if_pos rfl, nI_1, nI_add]
    congr 3
    exact propext ⟨fun h => ⟨(nI_leI (by omega) (by omega)).mp h.1, (nI_leI (by omega) (by omega)).mp h.2⟩, fun h => ⟨nI_le (by omega) (by omega), nI_le h.2 (by omega)⟩⟩
/-- one mark's wear, written anew -/
theorem sM_wr {a : Nat → Int32} {B R : List M5} {m : M5} (h : sM a (B ++ m :: R)) (w : Nat) : sM (upd a (15 + 5 * B.length + 4) (nI w)) (B ++ (mId m, mPg m, mWt m, w, mSt m) :: R) := by
  rw [← set_mid B m (mId m, mPg m, mWt m, w, mSt m) R]
  obtain ⟨q0, q1, q2, q3, q4⟩ := h.2 B.length m (get_mid B m R)
  refine sM_set h (by rw [List.length_append, List.length_cons]; omega) ⟨?_, ?_, ?_, ?_, pk_us⟩ (fun t ht => pk_un (by omega))
  · rw [pk_un (by omega)]
    exact q0
  · rw [pk_un (by omega)]
    exact q1
  · rw [pk_un (by omega)]
    exact q2
  · rw [pk_un (by omega)]
    exact q3
theorem tm_turns (h : sM (Md_all v) L) (b : bL L) (b2w : ∀ m ∈ L, mWr m ≤ 2) {r : Nat} (hr : Md_all v 3 = nI r) (hr6 : r < 60) (ca : Int32) (fwd : Bool) :
    (¬ (1 ≤ ca ∧ ca ≤ 20) ∧ f_X4_turns v ca (b2 fwd) = some (2, v)) ∨
    ∃ cnt, 1 ≤ cnt ∧ cnt ≤ 20 ∧ ca = nI cnt ∧ ((¬ (0 ≤ (if fwd = true then nI r + nI cnt else nI r - nI cnt) ∧ (if fwd = true then nI r + nI cnt else nI r - nI cnt) < 60) ∧ f_X4_turns v ca (b2 fwd) = some (3, mRej v 9 (nI r))) ∨
      ((0 ≤ (if fwd = true then nI r + nI cnt else nI r - nI cnt) ∧ (if fwd = true then nI r + nI cnt else nI r - nI cnt) < 60) ∧ ∃ a', f_X4_turns v ca (b2 fwd) = some (0, mAR v a' (nI (falls r cnt fwd L))) ∧ sM a' (L.filterMap (wears r cnt fwd)) ∧ a' 3 = (if fwd = true then nI r + nI cnt else nI r - nI cnt) ∧ a' 6 = Md_all v 6 + nI (falls r cnt fwd L) ∧ ∀ j, (1 ≤ j ∧ j < 15 ∧ j ≠ 3 ∧ j ≠ 6) ∨ 75 ≤ j → a' j = Md_all v j)) := by
  by_cases hc : 1 ≤ ca ∧ ca ≤ 20
  · right
    obtain ⟨cnt, hcn, rfl⟩ := nI_of2 (x := ca) (M := 20) (n := 20) (by decide) (fun z => Int32.not_lt.mpr hc.1 (Int32.lt_of_lt_of_le z (by decide))) hc.2
    have hc1 : 1 ≤ cnt := by
      have := hc.1
      rw [show (1 : Int32) = nI 1 from rfl, nI_leI (by omega) (by omega)] at this
      exact this
    refine ⟨cnt, hc1, hcn, rfl, ?_⟩
    obtain ⟨to, hto⟩ : ∃ z, z = (if fwd = true then nI r + nI cnt else nI r - nI cnt) := ⟨_, rfl⟩
    rw [← hto]
    have pre : f_X4_turns v (nI cnt) (b2 fwd) = f_X4_turns_B35 (nI cnt) (b2 fwd) to v := by
      unfold f_X4_turns
      rw [tm_in, bd_s, decide_eq_true hc, if_neg (by decide), gk_3, gk_3, ck_3, hr, hto]
      cases fwd
      · rw [if_pos b2_f, if_neg (by decide)]
      · rw [if_neg (by decide), if_pos rfl]
    unfold f_X4_turns_B35 at pre
    rw [tm_isPage, bd_s] at pre
    by_cases hp : 0 ≤ to ∧ to < 60
    · refine Or.inr ⟨hp, ?_⟩
      rw [decide_eq_true hp, if_neg (by decide)] at pre
      unfold f_X4_turns_B49 at pre
      rw [gk_3, ck_3, tm_rej0, bd_s, if_pos rfl, gk_0, ck_0] at pre
      have key : ∀ j (A R : List M5) n (a : Nat → Int32) (w : MdV) (f : Nat), A.length = j → Md_all w = a → Md_result w = nI f → sM a (A ++ R) → bL (A ++ R) → (∀ m ∈ A, mWr m ≤ 2) → a 3 = nI r → j < n → ∃ a', f_X4_turns_L80 n (nI cnt) (b2 fwd) to (nI j - 1) w = some (0, mAR w a' (nI (f + falls r cnt fwd A))) ∧ sM a' (A.filterMap (wears r cnt fwd) ++ R) ∧ a' 3 = to ∧ a' 6 = a 6 + nI (f + falls r cnt fwd A) ∧ ∀ j, (1 ≤ j ∧ j < 15 ∧ j ≠ 3 ∧ j ≠ 6) ∨ 75 ≤ j → a' j = a j := by
        intro j
        induction j with
        | zero =>
          intro A R n a w f hA hw hf hv _ _ _ hn
          obtain ⟨n, rfl⟩ : ∃ z, n = z + 1 := ⟨n - 1, by omega⟩
          have e : A = [] := List.eq_nil_of_length_eq_zero hA
          subst e
          subst hw
          rw [f_X4_turns_L80, if_pos nI_00, gk_6, gk_6, gk_3, ck_6, ck_3, hf]
          refine ⟨upd (upd (Md_all w) 6 (Md_all w 6 + nI f)) 3 to, ?_, ?_, pk_us, ?_, fun t ht => ?_⟩
          · rfl
          · exact sM_hi hv (fun t ht => by rw [pk_un (by omega), pk_un (by omega)])
          · rw [pk_un (by omega), pk_us]
            rfl
          · rw [pk_un (by omega), pk_un (by omega)]
        | succ j ih =>
          intro A R n a w f hA hw hf hv hb hw2 h3 hn
          obtain ⟨n, rfl⟩ : ∃ z, n = z + 1 := ⟨n - 1, by omega⟩
          obtain ⟨B, m, rfl, hB⟩ := last_of hA
          rw [List.append_assoc, List.singleton_append] at hv hb
          have hm : (B ++ m :: R)[j]? = some m := by
            rw [← hB]
            exact get_mid B m R
          have hlen := hb.1
          have hj := lt_get hm
          have hpm := (hb.2 m (mem_get hm)).2.1
          have hst := (hb.2 m (mem_get hm)).2.2.2.2
          have hwm : mWr m ≤ 2 := hw2 m (List.mem_append_right _ List.mem_cons_self)
          have hwB : ∀ z ∈ B, mWr z ≤ 2 := fun z hz => hw2 z (List.mem_append_left _ hz)
          subst hw
          have f1 : [m].filterMap (wears r cnt fwd) = (match wears r cnt fwd m with | none => [] | some z => [z]) := by
            rw [List.filterMap_cons]
            cases wears r cnt fwd m <;> rfl
          have f2 : falls r cnt fwd [m] = if onWay r cnt fwd m = true ∧ 2 ≤ mWr m then 1 else 0 := by
            unfold falls
            rw [List.map_cons, List.map_nil, List.sum_cons, List.sum_nil, Nat.add_zero]
          rw [nI_dn, f_X4_turns_L80, if_neg (nI_pos (by omega)), tm_st hv hb hm, bd_s, List.filterMap_append, falls_app, f1, f2]
          unfold f_X4_turns_B160
          have keep : onWay r cnt fwd m = false → ∃ a', f_X4_turns_L80 n (nI cnt) (b2 fwd) to (nI j + -1) w = some (0, mAR w a' (nI (f + (falls r cnt fwd B + if onWay r cnt fwd m = true ∧ 2 ≤ mWr m then 1 else 0)))) ∧ sM a' ((B.filterMap (wears r cnt fwd) ++ (match wears r cnt fwd m with | none => [] | some z => [z])) ++ R) ∧ a' 3 = to ∧ a' 6 = Md_all w 6 + nI (f + (falls r cnt fwd B + if onWay r cnt fwd m = true ∧ 2 ≤ mWr m then 1 else 0)) ∧ ∀ j, (1 ≤ j ∧ j < 15 ∧ j ≠ 3 ∧ j ≠ 6) ∨ 75 ≤ j → a' j = Md_all w j := by
            intro ho
            have ew : wears r cnt fwd m = some m := by
              unfold wears
              rw [ho, if_neg (by decide)]
            rw [ho, if_neg (by rintro ⟨z, -⟩; cases z), ew, Nat.add_zero (falls r cnt fwd B), add_m1]
            obtain ⟨a', q1, q2, q3⟩ := ih B (m :: R) n _ w f hB rfl hf hv hb hwB h3 (by omega)
            refine ⟨a', q1, ?_, q3⟩
            rw [List.append_assoc]
            exact q2
          by_cases hq : mSt m = 0
          · rw [hq, if_neg (by decide), tm_pg hv hb hm, bd_s, tm_isPassed w h3 hr6 hpm hcn, bd_s]
            have eo : onWay r cnt fwd m = if fwd = true then decide (r < mPg m ∧ mPg m ≤ r + cnt) else decide (mPg m < r ∧ r ≤ mPg m + cnt) := by
              unfold onWay
              rw [decide_eq_true hq, Bool.true_and]
            rw [← eo]
            cases ho : onWay r cnt fwd m
            · rw [if_pos b2_f]
              have k9 := keep ho
              rw [ho] at k9
              exact k9
            · have hb4 := (hb.2 m (mem_get hm))
              rw [if_neg (by decide), tm_wr hv hb hm, bd_s, nI_1, tm_set4 _ (by omega), bd_s]
              have hv1 : sM (upd (Md_all w) (15 + 5 * j + 4) (nI (mWr m + 1))) (B ++ (mId m, mPg m, mWt m, mWr m + 1, mSt m) :: R) := by
                have := sM_wr hv (mWr m + 1)
                rw [hB] at this
                exact this
              have hb1 : bL (B ++ (mId m, mPg m, mWt m, mWr m + 1, mSt m) :: R) := by
                refine ⟨by rw [← show (B ++ m :: R).length = (B ++ (mId m, mPg m, mWt m, mWr m + 1, mSt m) :: R).length by simp]; exact hb.1, fun z hz => ?_⟩
                rcases List.mem_append.mp hz with h1 | h1
                · exact hb.2 z (List.mem_append_left _ h1)
                · rcases List.mem_cons.mp h1 with h2 | h2
                  · rw [h2]
                    exact ⟨hb4.1, hb4.2.1, hb4.2.2.1, by show mWr m + 1 ≤ 3; omega, hb4.2.2.2.2⟩
                  · exact hb.2 z (List.mem_append_right _ (List.mem_cons_of_mem _ h2))
              have hm1 : (B ++ (mId m, mPg m, mWt m, mWr m + 1, mSt m) :: R)[j]? = some (mId m, mPg m, mWt m, mWr m + 1, mSt m) := by
                rw [← hB]
                exact get_mid B _ R
              obtain ⟨w1, hw1⟩ : ∃ z, z = mA w (upd (Md_all w) (15 + 5 * j + 4) (nI (mWr m + 1))) := ⟨_, rfl⟩
              have hv1' : sM (Md_all w1) (B ++ (mId m, mPg m, mWt m, mWr m + 1, mSt m) :: R) := by
                rw [hw1]
                exact hv1
              show ∃ a', bd (f_X4_m (mA w (upd (Md_all w) (15 + 5 * j + 4) (nI (mWr m + 1)))) (nI j) 4) (fun r17 => if (3 : Int32) ≤ r17 then bd (f_X4_goes (mA w (upd (Md_all w) (15 + 5 * j + 4) (nI (mWr m + 1)))) (nI j)) (fun r20 => f_X4_turns_L80 n (nI cnt) (b2 fwd) to (nI j + -1) (mAR r20.2 (Md_all r20.2) (Md_result r20.2 + 1))) else f_X4_turns_L80 n (nI cnt) (b2 fwd) to (nI j + -1) (mA w (upd (Md_all w) (15 + 5 * j + 4) (nI (mWr m + 1))))) = _ ∧ _
              rw [← hw1, tm_wr hv1' hb1 hm1, bd_s]
              by_cases e : 2 ≤ mWr m
              · have ew : wears r cnt fwd m = none := by
                  unfold wears
                  rw [ho, if_pos rfl, if_pos e]
                rw [if_pos (show (3 : Int32) ≤ nI (mWr m + 1) from nI_le (a := 3) (by omega) (by omega)), if_pos ⟨rfl, e⟩, ew]
                obtain ⟨a2, q1, q2, q3⟩ := tm_goes hv1' hb1.1 (i := j) (by rw [List.length_append, List.length_cons]; omega)
                rw [q1, bd_s, add_m1]
                rw [← hB, erase_mid] at q2
                have hb2 : bL (B ++ R) := bL_sub hb (by simp) (fun z hz => by
                  rcases List.mem_append.mp hz with h1 | h1
                  · exact List.mem_append_left _ h1
                  · exact List.mem_append_right _ (List.mem_cons_of_mem _ h1))
                have lowj : ∀ t, t < 15 → upd (Md_all w) (15 + 5 * j + 4) (nI (mWr m + 1)) t = Md_all w t := fun t ht => pk_un (by omega)
                have w1at : ∀ t, (1 ≤ t ∧ t < 15) ∨ 75 ≤ t → a2 t = Md_all w t := fun t ht => by
                  rw [q3 t ht, hw1]
                  show upd (Md_all w) (15 + 5 * j + 4) (nI (mWr m + 1)) t = _
                  rw [pk_un (by omega)]
                obtain ⟨a', p1, p2, p3, p4, p5⟩ := ih B R n a2 (mAR w1 a2 (nI (f + 1))) (f + 1) hB rfl rfl q2 hb2 hwB ((w1at 3 (by omega)).trans h3) (by omega)
                refine ⟨a', ?_, ?_, p3, ?_, ?_⟩
                · show f_X4_turns_L80 n (nI cnt) (b2 fwd) to (nI j - 1) (mAR w1 a2 (Md_result w1 + 1)) = _
                  have er : Md_result w1 + 1 = nI (f + 1) := by
                    rw [hw1]
                    show Md_result w + 1 = _
                    rw [hf, nI_1]
                  rw [er, p1]
                  have e9 : f + 1 + falls r cnt fwd B = f + (falls r cnt fwd B + 1) := by omega
                  rw [e9, hw1]
                  rfl
                · rw [List.append_nil]
                  exact p2
                · rw [p4, w1at 6 (by omega)]
                  congr 2
                  omega
                · intro t ht
                  rw [p5 t ht, w1at t (by omega)]
              · have ew : wears r cnt fwd m = some (mId m, mPg m, mWt m, mWr m + 1, mSt m) := by
                  unfold wears
                  rw [ho, if_pos rfl, if_neg e]
                rw [if_neg (show ¬ (3 : Int32) ≤ nI (mWr m + 1) from nI_ge (b := 3) (by omega) (by omega)), if_neg (fun z => e z.2), ew, Nat.add_zero (falls r cnt fwd B), add_m1]
                obtain ⟨a', q1, q2, q3, q4, q5⟩ := ih B ((mId m, mPg m, mWt m, mWr m + 1, mSt m) :: R) n _ w1 f hB rfl (by rw [hw1]; exact hf) hv1' hb1 hwB (by rw [hw1]; show upd (Md_all w) (15 + 5 * j + 4) (nI (mWr m + 1)) 3 = _; rw [pk_un (by omega)]; exact h3) (by omega)
                refine ⟨a', ?_, ?_, q3, ?_, ?_⟩
                · rw [q1, hw1]
                  rfl
                · rw [List.append_assoc]
                  exact q2
                · rw [q4, hw1]
                  show upd (Md_all w) (15 + 5 * j + 4) (nI (mWr m + 1)) 6 + _ = _
                  rw [pk_un (by omega)]
                · intro t ht
                  rw [q5 t ht, hw1]
                  show upd (Md_all w) (15 + 5 * j + 4) (nI (mWr m + 1)) t = _
                  rw [pk_un (by omega)]
          · rw [if_pos (show (0 : Int32) < nI (mSt m) from nI_lt (a := 0) (by omega) (by omega))]
            exact keep (by unfold onWay; rw [decide_eq_false hq, Bool.false_and])
      obtain ⟨a', q1, q2, q3, q4, q5⟩ := key L.length L [] 100 (Md_all v) (mAR v (Md_all v) 0) 0 rfl rfl rfl (by rw [List.append_nil]; exact h) (by rw [List.append_nil]; exact b) b2w hr (by have := b.1; omega)
      rw [List.append_nil] at q2
      rw [Nat.zero_add] at q1 q4
      refine ⟨a', pre.trans ?_, q2, q3, q4, q5⟩
      show f_X4_turns_L80 100 (nI cnt) (b2 fwd) to (Md_all v 0 - 1) (mAR v (Md_all v) 0) = _
      rw [h.1, q1]
      rfl
    · refine Or.inl ⟨hp, pre.trans ?_⟩
      rw [decide_eq_false hp, if_pos b2_f]
      unfold f_X4_turns_B49
      rw [gk_3, ck_3, hr, tm_rej1, bd_s, if_neg fst1]
  · left
    refine ⟨hc, ?_⟩
    unfold f_X4_turns
    rw [tm_in, bd_s, decide_eq_false hc, if_pos b2_f]
end MDV
