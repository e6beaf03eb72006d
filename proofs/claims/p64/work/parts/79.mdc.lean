/-! ===== the model writes a chapter ===== -/
def cutP (L : List M5) (p i : Nat) : Prop := ∀ (j : Nat) (z : M5), L[j]? = some z → (j < i ↔ mPg z < p)
theorem cutP.step {L : List M5} (hs : srt L) {p i : Nat} (h : cutP L p i) : (∃ z, L[i]? = some z ∧ mPg z = p ∧ cutP L (p + 1) (i + 1)) ∨ ((∀ z ∈ L, mPg z ≠ p) ∧ cutP L (p + 1) i) := by
  by_cases e : ∃ z, L[i]? = some z ∧ mPg z = p
  · obtain ⟨z, hz, e⟩ := e
    refine Or.inl ⟨z, hz, e, fun j y hj => ?_⟩
    constructor
    · intro hj2
      by_cases e2 : j = i
      · subst e2
        rw [hz] at hj
        cases hj
        omega
      · have := (h j y hj).mp (by omega)
        omega
    · intro hp
      by_cases e2 : i < j
      · have := srt_lt hs hz hj e2
        omega
      · omega
  · have hn : ∀ z ∈ L, mPg z ≠ p := by
      intro z hz ep
      obtain ⟨j, hj⟩ := List.getElem?_of_mem hz
      have h1 := h j z hj
      have h0 : ¬ j < i := fun q => by
        have := h1.mp q
        omega
      have hji : j ≠ i := fun q => by
        subst q
        exact e ⟨z, hj, ep⟩
      have hi : i < L.length := by
        have := lt_get hj
        omega
      have hgi : L[i]? = some L[i] := List.getElem?_eq_getElem hi
      have h2 := srt_lt hs hgi hj (by omega)
      have h3 := (h i _ hgi).mpr (by omega)
      omega
    refine Or.inr ⟨hn, fun j y hj => ?_⟩
    have h1 := h j y hj
    have h2 := hn y (mem_get hj)
    constructor
    · intro q
      have := h1.mp q
      omega
    · intro q
      exact h1.mpr (by omega)
theorem cutP.ex {L : List M5} (hs : srt L) (p : Nat) : ∃ i, i ≤ L.length ∧ cutP L p i := by
  induction p with
  | zero => exact ⟨0, Nat.zero_le _, fun j z _ => ⟨fun q => absurd q (Nat.not_lt_zero _), fun q => absurd q (Nat.not_lt_zero _)⟩⟩
  | succ p ih =>
    obtain ⟨i, h1, h2⟩ := ih
    rcases h2.step hs with ⟨z, k1, k2, k3⟩ | ⟨k1, k2⟩
    · have := lt_get k1
      exact ⟨i + 1, by omega, k3⟩
    · exact ⟨i, h1, k2⟩
theorem markT_none {inM : M5 → Bool} : ∀ (l : List M5) (T : List Nat), (∀ z ∈ l, inM z = false) → l.foldl (markT inM) T = T
  | [], _, _ => rfl
  | z :: l, T, h => by
    rw [List.foldl_cons, markT, if_neg (by rw [h z (List.mem_cons_self ..)]; decide)]
    exact markT_none l T (fun y hy => h y (List.mem_cons_of_mem _ hy))
theorem markT_len {inM : M5 → Bool} : ∀ (l : List M5) (T : List Nat), (l.foldl (markT inM) T).length ≤ T.length + 7 * l.length
  | [], _ => Nat.le_refl _
  | z :: l, T => by
    have h1 := markT_len (inM := inM) l (markT inM T z)
    have h2 := markT_le inM T z
    rw [List.foldl_cons, List.length_cons]
    omega
theorem tm_mark {m : MdV} {L' : List M5} (h2 : sM (Md_all m) L') (b : bL L') {o : Nat → Int32} {T : List Nat} (hT : OT o T) (hl : T.length + 7 ≤ 110) {i : Nat} {z : M5} (hz : L'[i]? = some z) (J : Int32 → Int32 → MdV → Option (Int32 × MdV)) (k : Int32) : ∃ o', (bd (f_X4_writes (mO m o (nI T.length)) (32 : Int32)) (fun r17 => bd (f_X4_m r17.2 (nI i) (3 : Int32)) (fun r19 => if r19 ≤ 0 then f_X4_writeChapter_B94 J k (nI (mPg z)) (nI i) (101 : Int32) r17.2 else f_X4_writeChapter_B94 J k (nI (mPg z)) (nI i) (114 : Int32) r17.2))) = J k (nI (mPg z + 1)) (mO m o' (nI (mkT T z).length)) ∧ OT o' (mkT T z) := by
  have bz := b.2 z (mem_get hz)
  have dp := digs_le (mPg z)
  have dw := digs_le (mWt z)
  obtain ⟨o1, a1, b1⟩ := tm_writes (m := m) (k := 32) hT (by omega) (by omega)
  have a1' : f_X4_writes (mO m o (nI T.length)) 32 = _ := a1
  have e1 : (T ++ [32]).length = T.length + 1 := by rw [List.length_append]; rfl
  rw [a1', bd_s]
  dsimp only
  rw [tm_st (v := mO m o1 (nI (T ++ [32] : List Nat).length)) h2 b hz, bd_s]
  have key : ∀ c, c < 128 → ∃ o', f_X4_writeChapter_B94 J k (nI (mPg z)) (nI i) (nI c) (mO m o1 (nI (T ++ [32]).length)) = J k (nI (mPg z + 1)) (mO m o' (nI (T ++ [32] ++ [c] ++ digs (mPg z) ++ [42] ++ digs (mWt z)).length)) ∧ OT o' (T ++ [32] ++ [c] ++ digs (mPg z) ++ [42] ++ digs (mWt z)) := by
    intro c hc
    obtain ⟨o2, a2, b2⟩ := tm_writes (m := m) (k := c) b1 (by omega) hc
    have e2 : (T ++ [32] ++ [c]).length = T.length + 2 := by rw [List.length_append, e1]; rfl
    obtain ⟨o3, a3, b3⟩ := tm_writesNumber (m := m) (v := mPg z) b2 (by omega) (by omega)
    have e3 : (T ++ [32] ++ [c] ++ digs (mPg z)).length ≤ T.length + 4 := by rw [List.length_append, e2]; omega
    obtain ⟨o4, a4, b4⟩ := tm_writes (m := m) (k := 42) b3 (by omega) (by omega)
    have a4' : f_X4_writes (mO m o3 (nI (T ++ [32] ++ [c] ++ digs (mPg z)).length)) 42 = _ := a4
    have e4 : (T ++ [32] ++ [c] ++ digs (mPg z) ++ [42]).length ≤ T.length + 5 := by rw [List.length_append]; simp only [List.length_cons, List.length_nil]; omega
    obtain ⟨o5, a5, b5⟩ := tm_writesNumber (m := m) (v := mWt z) b4 (by omega) (by omega)
    refine ⟨o5, ?_, b5⟩
    unfold f_X4_writeChapter_B94 f_X4_writeChapter_B118
    rw [a2, bd_s]
    dsimp only
    rw [a3, bd_s]
    dsimp only
    rw [a4', bd_s]
    dsimp only
    rw [tm_wt (v := mO m o4 (nI (T ++ [32] ++ [c] ++ digs (mPg z) ++ [42] : List Nat).length)) h2 b hz, bd_s, a5, bd_s, nI_1]
  by_cases e0 : mSt z = 0
  · rw [if_pos ((nI_le0 (by omega)).mpr e0)]
    have em : mkT T z = T ++ [32] ++ [101] ++ digs (mPg z) ++ [42] ++ digs (mWt z) := by rw [mkT, if_pos e0]
    rw [em]
    exact key 101 (by omega)
  · rw [if_neg (fun q => e0 ((nI_le0 (by omega)).mp q))]
    have em : mkT T z = T ++ [32] ++ [114] ++ digs (mPg z) ++ [42] ++ digs (mWt z) := by rw [mkT, if_neg e0]
    rw [em]
    exact key 114 (by omega)
theorem tm_wcLoop {m : MdV} {L L' : List M5} {S : List Nat} {nid k : Nat} {W : List Nat} (h2 : sM (Md_all m) L') (h3 : L.Perm L') (h4 : srt L) (h5 : okL nid L) (h7 : sC (Md_all m) S) (h8 : okS S) (hk : k < S.length) : ∀ d p i n o T, p + d = endCh S k → S.getD k 0 ≤ p → d < n → cutP L p i → i ≤ L.length → T.length ≤ 5 + 7 * i → OT o T → (L.drop i).foldl (markT fun z => inCh S k (mPg z)) T = W → ∃ o', f_X4_writeChapter_L49 n (nI k) (nI p) (mO m o (nI T.length)) = some (nI W.length, mO m o' (nI W.length)) ∧ OT o' W := by
  have b := h5.bL
  have b' := (h5.perm h3).bL
  have hE := endCh_le h8 k
  have hG := endCh_gt h8 hk
  have hlast : ∀ o (T : List Nat), f_X4_last (mO m o (nI T.length)) (nI k) = some (nI (endCh S k - 1)) := fun o T => by
    rw [tm_last (v := mO m o (nI T.length)) h7 h8.1 hk, endCh_nI h8 hk]
  intro d
  induction d with
  | zero =>
    intro p i n o T hp hp2 hn hc hi hl hT hW
    obtain ⟨n, rfl⟩ : ∃ z, n = z + 1 := ⟨n - 1, by omega⟩
    have eW : T = W := by
      rw [← hW]
      refine (markT_none _ T fun z hz => ?_).symm
      obtain ⟨j, hj⟩ := List.getElem?_of_mem hz
      rw [List.getElem?_drop] at hj
      have h1 := (hc _ z hj)
      have bz := (b.2 z (mem_get hj)).2.1
      refine eq_false_of_ne_true fun q => ?_
      have := (inCh_range bz).mp q
      have := h1.mpr (by omega)
      omega
    subst eW
    refine ⟨o, ?_, hT⟩
    rw [f_X4_writeChapter_L49, hlast, bd_s, if_pos (nI_lt (show endCh S k - 1 < p by omega) (by omega))]
    rfl
  | succ d ih =>
    intro p i n o T hp hp2 hn hc hi hl hT hW
    obtain ⟨n, rfl⟩ : ∃ z, n = z + 1 := ⟨n - 1, by omega⟩
    have hL := b.1
    rw [f_X4_writeChapter_L49, hlast, bd_s, if_neg (show ¬ nI (endCh S k - 1) < nI p from fun q => absurd ((nI_ltI (by omega) (by omega)).mp q) (by omega))]
    obtain ⟨r, g1, g2⟩ := tm_onPage (v := mO m o (nI T.length)) h2 b' (nI p)
    rw [g1, bd_s]
    rcases hc.step h4 with ⟨z, k1, k2, k3⟩ | ⟨k1, k2⟩
    · rcases g2 with ⟨j, y, f1, f2, -, f4⟩ | ⟨-, f2⟩
      · have by_ := b'.2 y (mem_get f1)
        have hpy : mPg y = p := (nI_eq (by omega) (by omega)).mp f2
        have ez : z = y := pg_one h5 (mem_get k1) (h3.mem_iff.mpr (mem_get f1)) (by omega)
        subst ez
        rw [f4, if_pos (nI_pos' (by have := lt_get f1; have := b'.1; omega))]
        obtain ⟨o', t1, t2⟩ := tm_mark (m := m) h2 b' hT (by have := lt_get k1; omega) f1 (f_X4_writeChapter_L49 n) (nI k)
        rw [hpy] at t1
        rw [t1]
        have hlt := lt_get k1
        have hle := mkT_le T z
        refine ih (p + 1) (i + 1) n o' (mkT T z) (by omega) (by omega) (by omega) k3 hlt (by omega) t2 ?_
        rw [← hW, List.drop_eq_getElem_cons hlt, List.foldl_cons]
        have e1 : L[i] = z := by
          have h9 := List.getElem?_eq_getElem hlt
          rw [k1] at h9
          exact (Option.some.inj h9).symm
        rw [e1]
        have e2 : markT (fun z => inCh S k (mPg z)) T z = mkT T z := if_pos ((inCh_range by_.2.1).mpr ⟨by omega, by omega⟩)
        rw [e2]
      · exact absurd (show nI (mPg z) = nI p by rw [k2]) (f2 z (h3.mem_iff.mp (mem_get k1)))
    · rcases g2 with ⟨j, y, f1, f2, -, f4⟩ | ⟨f1, -⟩
      · have by_ := b'.2 y (mem_get f1)
        have hpy : mPg y = p := (nI_eq (by omega) (by omega)).mp f2
        exact absurd hpy (k1 y (h3.mem_iff.mpr (mem_get f1)))
      · rw [f1, if_neg (by decide)]
        unfold f_X4_writeChapter_B118
        rw [nI_1]
        exact ih (p + 1) i n o T (by omega) (by omega) (by omega) k2 hi hl hT hW
theorem rx_writeChapter {N : Nat} {x : XV} {m : MdV} (h : RX N x m) (a : Int32) :
    ((∀ sb, f_X3_requireChapter (xS x sb) a = some (.inr (IOOBE, xS x sb))) ∧ f_X4_writeChapter m a = some (0, mTh m 1)) ∨
    ∃ (k ps pe : Nat) (L : List M5) (inM : M5 → Bool) (m' : MdV), a = nI k ∧ hM x.2.1 L ∧ bL L ∧ k < 8 ∧ Bk_starts x.2.1 k = nI ps ∧ ps < 100 ∧ f_X0_endOf x.2.1 (nI k) = some (nI pe) ∧ pe < 100 ∧ (∀ (i : Nat) (z : M5), L[i]? = some z → f_X0_isIn x.2.1 (nI i) (nI k) = some (b2 (inM z))) ∧ (∀ sb, f_X3_requireChapter (xS x sb) (nI k) = some (.inl (0, xS x sb))) ∧ f_X4_writeChapter m a = some (nI (L.foldl (markT inM) ([] ++ digs ps ++ [45] ++ digs pe)).length, m') ∧ Md_thrown m' = 0 ∧ ∀ sb', SBT sb' (L.foldl (markT inM) ([] ++ digs ps ++ [45] ++ digs pe)) → RX N (xS x sb') m' := by
  obtain ⟨L, L', S, r, nid, h1, h2, h3, h4, h5, h6, h7, h8, -⟩ := h.1
  have hl8 := h8.1.1
  have hch : ∀ sb, Bk_chapters (xS x sb).2.1 = nI S.length := fun _ => h6.1
  by_cases hp : 0 ≤ a ∧ a < nI S.length
  · obtain ⟨k, hk, rfl⟩ := in_rng (by omega) hp
    have hE := endCh_le h8 k
    have hG := endCh_gt h8 hk
    have hs8 : S.getD k 0 < 60 := by omega
    have dps := digs_le (S.getD k 0)
    have dpe := digs_le (endCh S k - 1)
    have b := h5.bL
    obtain ⟨i, i1, i2⟩ := cutP.ex h4 (S.getD k 0)
    obtain ⟨o1, a1, b1⟩ := tm_writesNumber (m := mTh m 0) (o := Md_output m) (T := []) (v := S.getD k 0) (fun i c hi => by cases hi) (by decide) (by omega)
    have e1 : ([] ++ digs (S.getD k 0)).length ≤ 2 := by rw [List.nil_append]; omega
    obtain ⟨o2, a2, b2⟩ := tm_writes (m := mTh m 0) (k := 45) b1 (by omega) (by omega)
    have a2' : f_X4_writes (mO (mTh m 0) o1 (nI ([] ++ digs (S.getD k 0)).length)) 45 = _ := a2
    have e2 : ([] ++ digs (S.getD k 0) ++ [45]).length ≤ 3 := by rw [List.length_append]; simp only [List.length_cons, List.length_nil]; omega
    obtain ⟨o3, a3, b3⟩ := tm_writesNumber (m := mTh m 0) (v := endCh S k - 1) b2 (by omega) (by omega)
    have e3 : ([] ++ digs (S.getD k 0) ++ [45] ++ digs (endCh S k - 1)).length ≤ 5 := by rw [List.length_append]; omega
    have pre : (L.take i).foldl (markT fun z => inCh S k (mPg z)) ([] ++ digs (S.getD k 0) ++ [45] ++ digs (endCh S k - 1)) = [] ++ digs (S.getD k 0) ++ [45] ++ digs (endCh S k - 1) := by
      refine markT_none _ _ fun z hz => ?_
      obtain ⟨j, hj⟩ := List.getElem?_of_mem hz
      have hji := lt_get hj
      rw [List.length_take] at hji
      rw [List.getElem?_take, if_pos (by omega)] at hj
      have hq := (i2 j z hj).mp (by omega)
      refine eq_false_of_ne_true fun q => ?_
      have := (inCh_range (b.2 z (mem_get hj)).2.1).mp q
      omega
    obtain ⟨o4, a4, b4⟩ := tm_wcLoop (m := mTh m 0) (W := L.foldl (markT fun z => inCh S k (mPg z)) ([] ++ digs (S.getD k 0) ++ [45] ++ digs (endCh S k - 1))) h2 h3 h4 h5 h7 h8 hk (endCh S k - S.getD k 0) (S.getD k 0) i 100 o3 _ (by omega) (Nat.le_refl _) (by omega) i2 i1 (by omega) b3 (by
      have e5 := congrArg (fun l => List.foldl (markT fun z => inCh S k (mPg z)) ([] ++ digs (S.getD k 0) ++ [45] ++ digs (endCh S k - 1)) l) (List.take_append_drop i L)
      simp only [List.foldl_append, pre] at e5
      exact e5)
    have hlW := markT_len (inM := fun z => inCh S k (mPg z)) L ([] ++ digs (S.getD k 0) ++ [45] ++ digs (endCh S k - 1))
    have hL := b.1
    refine Or.inr ⟨k, S.getD k 0, endCh S k - 1, L, fun z => inCh S k (mPg z), _, rfl, h1, b, by omega, h6.2 k _ (get_getD hk), by omega, s_endOf2 h6 h8 hk, by omega, fun i z hz => s_isIn h1 b h6 h8.1 hz hk, fun sb => ?_, ?_, rfl, fun sb' hs => h.out hs (by omega) b4⟩
    · rw [x_reqChapter, hch, if_pos hp]
    · have es : ∀ m2 : MdV, (Md_all m2, Md_output m2, Md_input m2, Md_commands m2, Md_thrown m2, Md_changes m2, Md_isSaved m2, Md_result m2, Md_why m2, Md_detail m2, Md_cause m2, (0 : Int32), Md_typed m2, Md_here m2, Md_error m2, Md_errorAt m2, Md_commandMany m2) = mO m2 (Md_output m2) 0 := fun _ => rfl
      unfold f_X4_writeChapter
      rw [tm_isChapter h7 h8.1, bd_s, decide_eq_true hp, b2_t, tm_fine1, bd_s, if_neg (by decide : ¬ (1 : Int32) = 0)]
      show bd (f_X4_first (mO (mTh m 0) (Md_output m) 0) (nI k)) _ = _
      rw [tm_first (v := mO (mTh m 0) (Md_output m) 0) h7 h8.1 hk, bd_s]
      show bd (f_X4_writesNumber 3 (mO (mTh m 0) (Md_output m) (nI ([] : List Nat).length)) (nI (S.getD k 0))) _ = _
      rw [a1, bd_s]
      dsimp only
      rw [a2', bd_s]
      dsimp only
      rw [tm_last (v := mO (mTh m 0) o2 (nI ([] ++ digs (S.getD k 0) ++ [45] : List Nat).length)) h7 h8.1 hk, endCh_nI h8 hk, bd_s, a3, bd_s]
      dsimp only
      rw [tm_first (v := mO (mTh m 0) o3 (nI ([] ++ digs (S.getD k 0) ++ [45] ++ digs (endCh S k - 1) : List Nat).length)) h7 h8.1 hk, bd_s]
      exact a4
  · refine Or.inl ⟨fun sb => ?_, ?_⟩
    · rw [x_reqChapter, hch, if_neg hp]
    · unfold f_X4_writeChapter
      rw [tm_isChapter h7 h8.1, bd_s, decide_eq_false hp, b2_f, tm_fine0, bd_s]
      rfl
