/-! ===== the law: more plain facts ===== -/
theorem sum_fil_le (L : List M5) (q : M5 → Bool) (w : M5 → Nat) : ((L.filter q).map w).sum ≤ (L.map w).sum := by
  induction L with
  | nil => exact Nat.le_refl _
  | cons y t ih =>
    rw [List.filter_cons, List.map_cons, List.sum_cons]
    split
    · rw [List.map_cons, List.sum_cons]
      omega
    · omega
theorem wRib_pre (L : List M5) (a p : Nat) : wRib (pre L a p) ≤ wRib L := sum_fil_le L _ _
theorem pre_len (L : List M5) (a p : Nat) : (pre L a p).length ≤ L.length := List.length_filter_le _ _
theorem fold_len : ∀ (l : List M5) (T : List Nat), (l.foldl mkT T).length ≤ T.length + 7 * l.length
  | [], T => Nat.le_refl _
  | y :: t, T => by
    rw [List.foldl_cons, List.length_cons]
    have := fold_len t (mkT T y)
    have := mkT_le T y
    omega
theorem len_app {T U : List Nat} {a b c : Nat} (h1 : T.length ≤ a) (h2 : U.length ≤ b) (h : a + b ≤ c) : (T ++ U).length ≤ c := by
  rw [List.length_append]
  omega
theorem ks_le {i : Nat} (hi : i < 6) : (ksT i).length ≤ 2 := by
  have key : ∀ a : Fin 6, (ksT a.val).length ≤ 2 := by decide +kernel
  exact key ⟨i, hi⟩
/-- a chapter's line ahead of its marks -/
abbrev hdr (a e : Nat) : List Nat := [] ++ digs a ++ [45] ++ digs e
theorem hdr_len (a e : Nat) : (hdr a e).length ≤ 5 := by
  have h1 : ([] ++ digs a).length ≤ 2 := digs_le _
  exact len_app (len_app h1 (show [45].length ≤ 1 from Nat.le_refl _) (Nat.le_refl _)) (digs_le _) (Nat.le_refl _)
abbrev TX (L : List M5) (a e p : Nat) : List Nat := (pre L a p).foldl mkT (hdr a e)
theorem TX_len {L : List M5} (hL : L.length ≤ 12) (a e p : Nat) : (TX L a e p).length ≤ 89 := by
  have h1 := fold_len (pre L a p) (hdr a e)
  have h2 := hdr_len a e
  have h3 := pre_len L a p
  show ((pre L a p).foldl mkT (hdr a e)).length ≤ 89
  omega
theorem TX_0 (L : List M5) (a e : Nat) : TX L a e a = hdr a e := by
  unfold TX
  rw [pre_0]
  rfl
theorem TX_no {L : List M5} {a e p : Nat} (h : ∀ z ∈ L, mPg z ≠ p) : TX L a e (p + 1) = TX L a e p := by
  unfold TX
  rw [pre_no h]
theorem mkT_r {T : List Nat} {z : M5} (h : mSt z ≠ 0) : (((([] ++ T) ++ ksT 1) ++ digs (mPg z)) ++ ksT 3) ++ digs (mWt z) = mkT T z := by
  unfold mkT
  rw [if_neg h]
  show (((T ++ [32, 114]) ++ digs (mPg z)) ++ [42]) ++ digs (mWt z) = _
  rw [List.append_assoc T [32] [114]]
  rfl
theorem mkT_e {T : List Nat} {z : M5} (h : mSt z = 0) : (((([] ++ T) ++ ksT 2) ++ digs (mPg z)) ++ ksT 3) ++ digs (mWt z) = mkT T z := by
  unfold mkT
  rw [if_pos h]
  show (((T ++ [32, 101]) ++ digs (mPg z)) ++ [42]) ++ digs (mWt z) = _
  rw [List.append_assoc T [32] [101]]
  rfl
theorem TX_yes {L : List M5} (hs : srt L) {a e p : Nat} {z : M5} (hz : z ∈ L) (hp : mPg z = p) (ha : a ≤ p) : TX L a e (p + 1) = mkT (TX L a e p) z := by
  unfold TX
  rw [pre_yes hs hz hp ha, List.foldl_append]
  rfl
theorem TX_all {L : List M5} {S : List Nat} {nid : Nat} (h5 : okL nid L) {c e : Nat} : TX L (S.getD c 0) e (endCh S c) = L.foldl (markT fun z => inCh S c (mPg z)) (hdr (S.getD c 0) e) := by
  unfold TX
  rw [pre_all h5, fold_filter]
theorem V_swap {K : KT} {cells slots : Nat} {lv : List (Nat × Value)} {st : List Value} {pc : Nat} {h a b d : va_W} (k : V K cells slots (h ++ (a ++ (b ++ d))) lv st pc) : V K cells slots (h ++ (b ++ (a ++ d))) lv st pc := by
  refine V_perm (ws2 := h ++ (a ++ (b ++ d))) ?_ k
  refine List.Perm.append_left h ?_
  rw [← List.append_assoc, ← List.append_assoc]
  exact List.Perm.append_right d List.perm_append_comm
