/-! ===== what is kept: the model's rows, the class's ring ===== -/
def cpR (a : Nat → Int32) (f t k : Nat) : Nat → Int32 := fun j => if 75 * t ≤ j ∧ j < 75 * t + k then a (75 * f + (j - 75 * t)) else a j
def segR (a : Nat → Int32) (k : Nat) : Nat → Int32 := fun j => a (75 * k + j)
theorem cpR_s (a : Nat → Int32) {f t k : Nat} (h : f ≠ t) (hk : k < 75) : upd (cpR a f t k) (75 * t + k) (cpR a f t k (75 * f + k)) = cpR a f t (k + 1) := by
  funext j
  by_cases e : j = 75 * t + k
  · rw [e, pk_us]
    unfold cpR
    rw [if_neg (by omega), if_pos (by omega)]
    congr 1
    omega
  · rw [pk_un e]
    unfold cpR
    by_cases e2 : 75 * t ≤ j ∧ j < 75 * t + k
    · rw [if_pos e2, if_pos (by omega)]
    · rw [if_neg e2, if_neg (by omega)]
theorem cpR_0 (a : Nat → Int32) (f t : Nat) : cpR a f t 0 = a := by
  funext j
  unfold cpR
  rw [if_neg (by omega)]
theorem tm_copies (v : MdV) {f t : Nat} (hf : f < 11) (ht : t < 11) (h : f ≠ t) : f_X4_copies v (nI f) (nI t) = some (0, mA v (cpR (Md_all v) f t 75)) := by
  have key : ∀ d k n, k + d = 75 → d < n → f_X4_copies_L2 n (nI f) (nI t) (nI k) (mA v (cpR (Md_all v) f t k)) = some (0, mA v (cpR (Md_all v) f t 75)) := by
    intro d
    induction d with
    | zero =>
      intro k n hk hn
      obtain ⟨n, rfl⟩ : ∃ z, n = z + 1 := ⟨n - 1, by omega⟩
      have e : k = 75 := by omega
      rw [f_X4_copies_L2, e, if_pos (by decide)]
    | succ d ih =>
      intro k n hk hn
      obtain ⟨n, rfl⟩ : ∃ z, n = z + 1 := ⟨n - 1, by omega⟩
      have e1 : (75 : Int32) * nI f + nI k = nI (75 * f + k) := by rw [show (75 : Int32) * nI f = nI (75 * f) from pk_mul 75 f, nI_add]
      have e2 : (75 : Int32) * nI t + nI k = nI (75 * t + k) := by rw [show (75 : Int32) * nI t = nI (75 * t) from pk_mul 75 t, nI_add]
      rw [f_X4_copies_L2, if_neg (show ¬ (75 : Int32) ≤ nI k from nI_ge (b := 75) (by omega) (by decide)), e1, e2, gd_n (by omega) (by decide), gd_n (by omega) (by decide), cl_n (by omega), cl_n (by omega), nI_1]
      show f_X4_copies_L2 n (nI f) (nI t) (nI (k + 1)) (mA v (upd (cpR (Md_all v) f t k) (75 * t + k) (cpR (Md_all v) f t k (75 * f + k)))) = _
      rw [cpR_s _ h (by omega)]
      exact ih (k + 1) n (by omega) (by omega)
  have h1 := key 75 0 100 rfl (by omega)
  rw [cpR_0] at h1
  exact h1
theorem cpR_seg (a : Nat → Int32) (f t : Nat) {j : Nat} (hj : j < 75) : segR (cpR a f t 75) t j = segR a f j := by
  unfold segR cpR
  rw [if_pos (by omega)]
  congr 1
  omega
theorem cpR_ne (a : Nat → Int32) (f : Nat) {t k : Nat} (h : k ≠ t) {j : Nat} (hj : j < 75) : segR (cpR a f t 75) k j = segR a k j := by
  unfold segR cpR
  rw [if_neg (by omega)]
theorem segR_0 (a : Nat → Int32) : segR a 0 = a := by
  funext j
  unfold segR
  congr 1
  omega
/-- the same row -/
def sameR (a a' : Nat → Int32) : Prop := ∀ j, j < 75 → a j = a' j
theorem sameR.tr {a b c : Nat → Int32} (h : sameR a b) (g : sameR b c) : sameR a c := fun j hj => (h j hj).trans (g j hj)
theorem sameR.sy {a b : Nat → Int32} (h : sameR a b) : sameR b a := fun j hj => (h j hj).symm
theorem RB.same {N : Nat} {v : BkV} {a a' : Nat → Int32} (h : RB N v a) (e : sameR a' a) : RB N v a' := h.cong e
def mTh (v : MdV) (t : Int32) : MdV := (Md_all v, Md_output v, Md_input v, Md_commands v, t, Md_changes v, Md_isSaved v, Md_result v, Md_why v, Md_detail v, Md_cause v, Md_outputSize v, Md_typed v, Md_here v, Md_error v, Md_errorAt v, Md_commandMany v)
def mCh (v : MdV) (t c : Int32) : MdV := (Md_all v, Md_output v, Md_input v, Md_commands v, t, c, Md_isSaved v, Md_result v, Md_why v, Md_detail v, Md_cause v, Md_outputSize v, Md_typed v, Md_here v, Md_error v, Md_errorAt v, Md_commandMany v)
theorem tm_begins (v : MdV) : f_X4_begins v = some (0, mA v (cpR (Md_all v) 0 10 75)) := by
  unfold f_X4_begins
  rw [show (0 : Int32) = nI 0 from rfl, show (10 : Int32) = nI 10 from rfl, tm_copies v (by omega) (by omega) (by omega), bd_s]
/-- a change that fails: thrown t -/
theorem tm_endsT (v : MdV) (by_ x y z t : Int32) (ht : t ≠ 0) (h : (if by_ = 1 then x else if by_ = 2 then y else if by_ = 3 then z else 0) = t) : f_X4_ends v by_ x y z = some (0, mA (mTh v t) (cpR (Md_all v) 10 0 75)) := by
  have e : f_X4_ends v by_ x y z = f_X4_ends_B30 by_ x y z t v := by
    unfold f_X4_ends
    rw [← h]
    split
    · rfl
    · split
      · rfl
      · split
        · rfl
        · rfl
  rw [e]
  unfold f_X4_ends_B30
  rw [if_neg ht]
  have := tm_copies (mTh v t) (f := 10) (t := 0) (by omega) (by omega) (by omega)
  show bd (f_X4_copies (mTh v t) (nI 10) (nI 0)) _ = _
  rw [this, bd_s]
  rfl
/-- the rows of the latest changes, moved down -/
def dwnR (a : Nat → Int32) : Nat → Nat → Int32
  | 0 => a
  | k + 1 => cpR (dwnR a k) (k + 2) (k + 1) 75
theorem dwnR_seg (a : Nat → Int32) : ∀ k s, sameR (segR (dwnR a k) s) (if 1 ≤ s ∧ s ≤ k then segR a (s + 1) else segR a s)
  | 0, s => by
    rw [if_neg (by omega)]
    exact fun _ _ => rfl
  | k + 1, s => by
    intro j hj
    show segR (cpR (dwnR a k) (k + 2) (k + 1) 75) s j = _
    by_cases e : s = k + 1
    · rw [e, cpR_seg _ _ _ hj, if_pos (by omega)]
      have := dwnR_seg a k (k + 2) j hj
      rw [if_neg (by omega)] at this
      exact this
    · rw [cpR_ne _ _ e hj]
      have := dwnR_seg a k s j hj
      rw [this]
      by_cases e2 : 1 ≤ s ∧ s ≤ k
      · rw [if_pos e2, if_pos (by omega)]
      · rw [if_neg e2, if_neg (by omega)]
/-- a change that is made -/
theorem tm_ends0 (v : MdV) (x y z : Int32) {c : Nat} (hc : Md_changes v = nI c) (h8 : c ≤ 8) : ∃ a' c', f_X4_ends v 0 x y z = some (Md_result v, mA (mCh v 0 (nI c')) a') ∧ c' = (if c = 8 then 8 else c + 1) ∧ sameR a' (Md_all v) ∧ sameR (segR a' c') (segR (Md_all v) 10) ∧ (∀ s, 1 ≤ s → s < c' → sameR (segR a' s) (segR (Md_all v) (if c = 8 then s + 1 else s))) ∧ sameR (segR a' 9) (segR (Md_all v) 9) := by
  have e : f_X4_ends v 0 x y z = f_X4_ends_B30 0 x y z 0 v := by
    unfold f_X4_ends
    rw [if_neg (by decide), if_neg (by decide), if_neg (by decide)]
  rw [e]
  unfold f_X4_ends_B30
  rw [if_pos rfl, hc]
  have b94 : ∀ (w : MdV) (d : Nat), Md_changes w = nI d → d < 8 → f_X4_ends_B94 0 x y z w = some (Md_result w, mA (mCh w (Md_thrown w) (nI (d + 1))) (cpR (Md_all w) 10 (d + 1) 75)) := by
    intro w d hd h8
    unfold f_X4_ends_B94
    rw [hd, nI_1]
    have := tm_copies (mCh w (Md_thrown w) (nI (d + 1))) (f := 10) (t := d + 1) (by omega) (by omega) (by omega)
    show bd (f_X4_copies (mCh w (Md_thrown w) (nI (d + 1))) (nI 10) (nI (d + 1))) _ = _
    rw [this, bd_s]
    rfl
  by_cases e8 : c = 8
  · subst e8
    rw [if_pos (by decide)]
    have key : ∀ d k n, k + d = 8 → 1 ≤ k → d < n → f_X4_ends_L61 n 0 x y z (nI k) (mA (mTh v 0) (dwnR (Md_all v) (k - 1))) = some (Md_result v, mA (mCh v 0 (nI 8)) (cpR (dwnR (Md_all v) 7) 10 8 75)) := by
      intro d
      induction d with
      | zero =>
        intro k n hk _ hn
        obtain ⟨n, rfl⟩ : ∃ z, n = z + 1 := ⟨n - 1, by omega⟩
        have e : k = 8 := by omega
        rw [f_X4_ends_L61, e, if_pos (by decide)]
        have := b94 (mA (mCh v 0 (nI 7)) (dwnR (Md_all v) 7)) 7 rfl (by omega)
        have ec : Md_changes (mA (mTh v 0) (dwnR (Md_all v) (8 - 1))) - 1 = nI 7 := by
          show Md_changes v - 1 = _
          rw [hc]
          decide
        rw [ec]
        exact this
      | succ d ih =>
        intro k n hk h1 hn
        obtain ⟨n, rfl⟩ : ∃ z, n = z + 1 := ⟨n - 1, by omega⟩
        rw [f_X4_ends_L61, if_neg (show ¬ (8 : Int32) ≤ nI k from nI_ge (b := 8) (by omega) (by decide)), nI_1, tm_copies _ (by omega) (by omega) (by omega), bd_s]
        have e1 : dwnR (Md_all v) (k + 1 - 1) = cpR (dwnR (Md_all v) (k - 1)) (k + 1) k 75 := by
          obtain ⟨z, rfl⟩ : ∃ z, k = z + 1 := ⟨k - 1, by omega⟩
          rfl
        have := ih (k + 1) n (by omega) (by omega) (by omega)
        rw [e1] at this
        exact this
    have h1 := key 7 1 100 rfl (Nat.le_refl _) (by omega)
    have g : f_X4_ends_L61 100 0 x y z 1 (Md_all v, Md_output v, Md_input v, Md_commands v, 0, nI 8, Md_isSaved v, Md_result v, Md_why v, Md_detail v, Md_cause v, Md_outputSize v, Md_typed v, Md_here v, Md_error v, Md_errorAt v, Md_commandMany v) = f_X4_ends_L61 100 0 x y z (nI 1) (mA (mTh v 0) (dwnR (Md_all v) (1 - 1))) := by
      unfold mTh
      rw [hc]
      rfl
    rw [g]
    refine ⟨cpR (dwnR (Md_all v) 7) 10 8 75, 8, h1, rfl, ?_, ?_, ?_, ?_⟩
    · intro j hj
      have := cpR_ne (dwnR (Md_all v) 7) 10 (t := 8) (k := 0) (by omega) hj
      rw [segR_0, segR_0] at this
      rw [this]
      have h2 := dwnR_seg (Md_all v) 7 0 j hj
      rw [if_neg (by omega), segR_0, segR_0] at h2
      exact h2
    · intro j hj
      rw [cpR_seg _ _ _ hj]
      have h2 := dwnR_seg (Md_all v) 7 10 j hj
      rw [if_neg (by omega)] at h2
      exact h2
    · intro s s1 s2 j hj
      rw [cpR_ne _ _ (by omega) hj, if_pos rfl]
      have h2 := dwnR_seg (Md_all v) 7 s j hj
      rw [if_pos (by omega)] at h2
      exact h2
    · intro j hj
      rw [cpR_ne _ _ (by omega) hj]
      have h2 := dwnR_seg (Md_all v) 7 9 j hj
      rw [if_neg (by omega)] at h2
      exact h2
  · have h7 : c < 8 := by omega
    rw [if_neg (show ¬ nI c = (8 : Int32) from fun q => e8 ((nI_eq (by omega) (by decide)).mp (show nI c = nI 8 from q)))]
    have h1 := b94 (mTh v 0) c hc h7
    have h1' : f_X4_ends_B94 0 x y z (mTh v 0) = some (Md_result v, mA (mCh v 0 (nI (c + 1))) (cpR (Md_all v) 10 (c + 1) 75)) := h1
    have g : f_X4_ends_B94 0 x y z (Md_all v, Md_output v, Md_input v, Md_commands v, 0, nI c, Md_isSaved v, Md_result v, Md_why v, Md_detail v, Md_cause v, Md_outputSize v, Md_typed v, Md_here v, Md_error v, Md_errorAt v, Md_commandMany v) = f_X4_ends_B94 0 x y z (mTh v 0) := by
      unfold mTh
      rw [hc]
    rw [g]
    refine ⟨cpR (Md_all v) 10 (c + 1) 75, c + 1, h1', (if_neg e8).symm, ?_, ?_, ?_, ?_⟩
    · intro j hj
      have := cpR_ne (Md_all v) 10 (t := c + 1) (k := 0) (by omega) hj
      rw [segR_0, segR_0] at this
      exact this
    · exact fun j hj => cpR_seg _ _ _ hj
    · intro s s1 s2 j hj
      rw [if_neg e8]
      exact cpR_ne _ _ (by omega) hj
    · intro j hj
      exact cpR_ne _ _ (by omega) hj
/-! the ring -/
/-- where the row s of c rows lies in a ring whose next place is nx -/
def rgI (nx c s : Nat) : Nat := (nx + 7 - (c - s)) % 8
def HB (N : Nat) (hs : HsV) (hb : Nat → BkV) (ch : Int32) (a : Nat → Int32) : Prop :=
  ∃ c nx, c ≤ 8 ∧ nx < 8 ∧ Hs_count hs = nI c ∧ Hs_next hs = nI nx ∧ ch = nI c ∧ ∀ s, 1 ≤ s → s ≤ c → RB N (hb (rgI nx c s)) (segR a s)
theorem rgI_new : ∀ nx, nx < 8 → ∀ c, c < 9 → rgI (if nx + 1 < 8 then nx + 1 else 0) (if c = 8 then 8 else c + 1) (if c = 8 then 8 else c + 1) = nx := by decide +kernel
theorem rgI_old : ∀ nx, nx < 8 → ∀ c, c < 9 → ∀ s, s < 9 → 1 ≤ s → s < (if c = 8 then 8 else c + 1) → rgI (if nx + 1 < 8 then nx + 1 else 0) (if c = 8 then 8 else c + 1) s = rgI nx c (if c = 8 then s + 1 else s) ∧ rgI nx c (if c = 8 then s + 1 else s) ≠ nx := by
  have h : (List.range 8).all (fun nx => (List.range 9).all fun c => (List.range 9).all fun s => (decide (s < 1) || decide ((if c = 8 then 8 else c + 1) ≤ s)) || (decide (rgI (if nx + 1 < 8 then nx + 1 else 0) (if c = 8 then 8 else c + 1) s = rgI nx c (if c = 8 then s + 1 else s)) && decide (rgI nx c (if c = 8 then s + 1 else s) ≠ nx))) = true := by decide +kernel
  intro nx h1 c h2 s h3 h4 h5
  have h6 := List.all_eq_true.mp (List.all_eq_true.mp (List.all_eq_true.mp h nx (List.mem_range.mpr h1)) c (List.mem_range.mpr h2)) s (List.mem_range.mpr h3)
  rw [Bool.or_eq_true, Bool.or_eq_true, Bool.and_eq_true, decide_eq_true_iff, decide_eq_true_iff, decide_eq_true_iff, decide_eq_true_iff] at h6
  rcases h6 with (h6 | h6) | h6
  · omega
  · omega
  · exact h6
theorem s_remember {hs : HsV} {hb : Nat → BkV} {b : BkV} {c nx : Nat} (hc : Hs_count hs = nI c) (hn : Hs_next hs = nI nx) (h8 : c ≤ 8) (n8 : nx < 8) : f_X1_remember (hs, hb, b) = some (0, ((nI (if c = 8 then 8 else c + 1), nI (if nx + 1 < 8 then nx + 1 else 0)), va_up hb nx b, b)) := by
  unfold f_X1_remember
  show gd (inb (Hs_next hs) 8) (if (8 : Int32) ≤ Hs_next hs + 1 then f_X1_remember_B35 0 (hs, va_up hb (cl (Hs_next hs)) b, b) else f_X1_remember_B35 (Hs_next hs + 1) (hs, va_up hb (cl (Hs_next hs)) b, b)) = _
  rw [hn, gd_n n8 (by decide), cl_n (by omega), nI_1]
  have tail : ∀ x : Nat, f_X1_remember_B35 (nI x) (hs, va_up hb nx b, b) = some (0, ((nI (if c = 8 then 8 else c + 1), nI x), va_up hb nx b, b)) := by
    intro x
    unfold f_X1_remember_B35 f_X1_remember_B57
    show (if (8 : Int32) ≤ Hs_count hs then some ((0 : Int32), ((Hs_count hs, nI x), va_up hb nx b, b)) else some (0, ((Hs_count hs + 1, nI x), va_up hb nx b, b))) = _
    rw [hc]
    by_cases e : c = 8
    · rw [if_pos (show (8 : Int32) ≤ nI c from nI_le (a := 8) (by omega) (by omega)), if_pos e, e]
    · rw [if_neg (show ¬ (8 : Int32) ≤ nI c from nI_ge (b := 8) (by omega) (by decide)), if_neg e, nI_1]
  by_cases e : nx + 1 < 8
  · rw [if_neg (show ¬ (8 : Int32) ≤ nI (nx + 1) from nI_ge (b := 8) e (by decide)), if_pos e]
    exact tail (nx + 1)
  · rw [if_pos (show (8 : Int32) ≤ nI (nx + 1) from nI_le (a := 8) (by omega) (by omega)), if_neg e]
    exact tail 0
/-- a change is remembered on both sides -/
theorem HB.new {N N' : Nat} {hs : HsV} {hb : Nat → BkV} {ch : Int32} {a a' : Nat → Int32} {b : BkV} (h : HB N hs hb ch a) (hN : N ≤ N') (hb0 : RB N b a) {v : MdV} {c : Nat} (hcv : ch = nI c) (h8c : c ≤ 8)
    (k1 : sameR (segR a' (if c = 8 then 8 else c + 1)) a) (k2 : ∀ s, 1 ≤ s → s < (if c = 8 then 8 else c + 1) → sameR (segR a' s) (segR a (if c = 8 then s + 1 else s))) :
    ∃ nx, nx < 8 ∧ Hs_count hs = nI c ∧ Hs_next hs = nI nx ∧ HB N' (nI (if c = 8 then 8 else c + 1), nI (if nx + 1 < 8 then nx + 1 else 0)) (va_up hb nx b) (nI (if c = 8 then 8 else c + 1)) a' := by
  obtain ⟨c2, nx, h8, n8, q1, q2, q3, q4⟩ := h
  have ec : c2 = c := (nI_eq (by omega) (by omega)).mp (q3.symm.trans hcv)
  subst ec
  refine ⟨nx, n8, q1, q2, (if c2 = 8 then 8 else c2 + 1), (if nx + 1 < 8 then nx + 1 else 0), by split <;> omega, by split <;> omega, rfl, rfl, rfl, fun s s1 s2 => ?_⟩
  by_cases e : s = (if c2 = 8 then 8 else c2 + 1)
  · rw [e, rgI_new nx n8 c2 (by omega)]
    unfold va_up
    rw [if_pos rfl]
    exact (hb0.mono hN).same k1
  · have hs9 : s < 9 := by
      revert s2
      split <;> omega
    obtain ⟨g1, g2⟩ := rgI_old nx n8 c2 (by omega) s hs9 s1 (by omega)
    rw [g1]
    unfold va_up
    rw [if_neg g2]
    have hle : (if c2 = 8 then s + 1 else s) ≤ c2 := by
      revert e s2
      split <;> omega
    exact ((q4 _ (by split <;> omega) hle).mono hN).same (k2 s s1 (by omega))
