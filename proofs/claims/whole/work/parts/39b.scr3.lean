/-! ===== the whole script is read alike ===== -/
theorem bhA_ok (c : Nat → Nat) (n s w p : Nat) (hp : p ≤ n) (hw : 1 ≤ w) : match bhA c n s w p with
    | .inl q => q ≤ n
    | .inr b => p ≤ b.2 ∧ b.2 ≤ n := by
  unfold bhA
  by_cases e : p < n ∧ c p = s
  · rw [if_pos e]
    by_cases e1 : dg c n (p + 1) = true
    · rw [if_pos e1]
      obtain ⟨w, rfl⟩ : ∃ z, w = z + 1 := ⟨w - 1, by omega⟩
      have := nu_up c n w (p + 1) e1
      exact ⟨by omega, this.2⟩
    · rw [if_neg e1]
      exact e.1
  · rw [if_neg e]
    exact hp
theorem cmdA_ok (c : Nat → Nat) (n p : Nat) (hp : p ≤ n) : match cmdA c n p with
    | .inl q => q ≤ n
    | .inr t => p + 2 ≤ t.2 ∧ t.2 ≤ n ∧ isK t.1.1 = true ∧ (sec2 t.1.1 = false → t.1.2.2 = 0) := by
  unfold cmdA
  by_cases e : p < n ∧ isK (c p) = true
  · rw [if_pos e]
    by_cases e1 : dg c n (p + 1) = true
    · rw [if_pos e1]
      obtain ⟨w, hw, hw1⟩ : ∃ w, w + 1 = (if c p = 86 then 1 else 3) ∧ w ≤ 2 := by
        by_cases e : c p = 86
        · exact ⟨0, by rw [if_pos e], by omega⟩
        · exact ⟨2, by rw [if_neg e], by omega⟩
      rw [← hw]
      have up := nu_up c n w (p + 1) e1
      obtain ⟨a, ha⟩ : ∃ a, a = nu c n (w + 1) 0 (p + 1) := ⟨_, rfl⟩
      rw [← ha] at up ⊢
      show match (if sec2 (c p) = true then
          match bhA c n (if c p = 83 then 44 else 58) (if las1 (c p) = true then 1 else 3) a.2 with
          | .inl q => .inl q
          | .inr b => .inr ((c p, a.1, b.1), b.2)
        else .inr ((c p, a.1, 0), a.2) : Nat ⊕ ((Nat × Nat × Nat) × Nat)) with
        | .inl q => q ≤ n
        | .inr t => p + 2 ≤ t.2 ∧ t.2 ≤ n ∧ isK t.1.1 = true ∧ (sec2 t.1.1 = false → t.1.2.2 = 0)
      by_cases es : sec2 (c p) = true
      · rw [if_pos es]
        have hb := bhA_ok c n (if c p = 83 then 44 else 58) (if las1 (c p) = true then 1 else 3) a.2 up.2 (by split <;> omega)
        revert hb
        cases bhA c n (if c p = 83 then 44 else 58) (if las1 (c p) = true then 1 else 3) a.2 with
        | inl q => exact id
        | inr b =>
          intro hb
          have hb1 : a.2 ≤ b.2 := hb.1
          exact ⟨show p + 2 ≤ b.2 by omega, hb.2, e.2, fun q => absurd (q.symm.trans es) (by decide)⟩
      · rw [if_neg es]
        exact ⟨show p + 2 ≤ a.2 by omega, up.2, e.2, fun _ => rfl⟩
    · rw [if_neg e1]
      exact e.1
  · rw [if_neg e]
    exact hp
/-- one cell of the list of commands, on both sides -/
def SmC (k f s cm : Nat → Int32) (i : Nat) : Prop := ∃ a b e : Nat, isK a = true ∧ (sec2 a = false → e = 0) ∧ k i = nI a ∧ f i = nI b ∧ s i = nI e ∧ cm (3 * i) = nI a ∧ cm (3 * i + 1) = nI b ∧ cm (3 * i + 2) = nI e
def PrsF (sc : ScV) (m : MdV) (r : Int32) (sc' : ScV) (m' : MdV) : Prop :=
  ∃ k f s cnt at_ cm h, sc' = sP sc k f s (nI cnt) at_ ∧ ((∃ q many, q ≤ 60 ∧ r = nI q ∧ m' = mP m cm h (nI q) many) ∨ (r = -1 ∧ 1 ≤ cnt ∧ cnt ≤ 30 ∧ m' = mP m cm h (-1) (nI cnt) ∧ ∀ i, i < cnt → SmC k f s cm i))
section SCR3
variable {c : Nat → Nat} {n : Nat} {sc : ScV} {m : MdV}
theorem parse_loop (t : TX c n sc m) : ∀ d p j fc fm (k f s cm : Nat → Int32), n - p ≤ d → p ≤ n → 3 * j ≤ p → d < fc → d < fm → (∀ i, i < j → SmC k f s cm i) →
    ∃ r sc' m', f_X2_readCommands_L12 fc (nI j) (sP sc k f s (nI j) (nI p)) = some (r, sc') ∧ bd (f_X4_command (mP m cm (nI p) (-1) (nI j))) (fun r => f_X4_parse_L19 fm r.2) = some (0, m') ∧ PrsF sc m r sc' m' := by
  have h60 := t.1
  intro d
  induction d with
  | zero =>
    intro p j fc fm k f s cm hd hp hj hfc hfm hsm
    obtain ⟨fc, rfl⟩ : ∃ z, fc = z + 1 := ⟨fc - 1, by omega⟩
    obtain ⟨fm, rfl⟩ : ∃ z, fm = z + 1 := ⟨fm - 1, by omega⟩
    have ec : cmdA c n p = .inl p := by
      unfold cmdA
      rw [if_neg (fun q => by omega)]
    have h1 := s_readCommand t hp (show j < 30 by omega) k f s (nI j)
    have h2 := tm_command t (show j ≤ 59 by omega) hp cm
    rw [ec] at h1 h2
    obtain ⟨cm', h, g⟩ := h2
    refine ⟨nI p, sP sc k f s (nI j) (nI p), mP m cm' h (nI p) (nI (j + 1)), ?_, ?_, k, f, s, j, nI p, cm', h, rfl, Or.inl ⟨p, _, by omega, rfl, rfl⟩⟩
    · rw [f_X2_readCommands_L12, if_neg (show ¬ (30 : Int32) ≤ nI j from nI_ge (b := 30) (by omega) (by decide)), h1, bd_s]
      show (if (0 : Int32) = 0 then some (nI p, sP sc k f s (nI j) (nI p)) else _) = _
      rw [if_pos rfl]
    · rw [g, bd_s, f_X4_parse_L19]
      unfold f_X4_parse_B52 f_X4_parse_B78
      have e0 : (0 : Int32) ≤ Md_error (mP m cm' h (nI p) (nI (j + 1))) := nI_pos' (by omega)
      show (if (0 : Int32) ≤ Md_error (mP m cm' h (nI p) (nI (j + 1))) then (if (0 : Int32) ≤ Md_error (mP m cm' h (nI p) (nI (j + 1))) then some ((0 : Int32), mP m cm' h (nI p) (nI (j + 1))) else _) else _) = _
      rw [if_pos e0, if_pos e0]
  | succ d ih =>
    intro p j fc fm k f s cm hd hp hj hfc hfm hsm
    obtain ⟨fc, rfl⟩ : ∃ z, fc = z + 1 := ⟨fc - 1, by omega⟩
    obtain ⟨fm, rfl⟩ : ∃ z, fm = z + 1 := ⟨fm - 1, by omega⟩
    have h1 := s_readCommand t hp (show j < 30 by omega) k f s (nI j)
    have h2 := tm_command t (show j ≤ 59 by omega) hp cm
    have h3 := cmdA_ok c n p hp
    revert h1 h2 h3
    cases cmdA c n p with
    | inl q =>
      intro h1 h2 h3
      have hq : q ≤ n := h3
      obtain ⟨cm', h, g⟩ := h2
      refine ⟨nI q, sP sc k f s (nI j) (nI q), mP m cm' h (nI q) (nI (j + 1)), ?_, ?_, k, f, s, j, nI q, cm', h, rfl, Or.inl ⟨q, _, by omega, rfl, rfl⟩⟩
      · rw [f_X2_readCommands_L12, if_neg (show ¬ (30 : Int32) ≤ nI j from nI_ge (b := 30) (by omega) (by decide)), h1, bd_s]
        show (if (0 : Int32) = 0 then some (nI q, sP sc k f s (nI j) (nI q)) else _) = _
        rw [if_pos rfl]
      · rw [g, bd_s, f_X4_parse_L19]
        unfold f_X4_parse_B52 f_X4_parse_B78
        have e0 : (0 : Int32) ≤ Md_error (mP m cm' h (nI q) (nI (j + 1))) := nI_pos' (by omega)
        show (if (0 : Int32) ≤ Md_error (mP m cm' h (nI q) (nI (j + 1))) then (if (0 : Int32) ≤ Md_error (mP m cm' h (nI q) (nI (j + 1))) then some ((0 : Int32), mP m cm' h (nI q) (nI (j + 1))) else _) else _) = _
        rw [if_pos e0, if_pos e0]
    | inr tq =>
      intro h1 h2 h3
      obtain ⟨⟨a, b, e⟩, q⟩ := tq
      obtain ⟨o1, o2, o3, o4⟩ := h3
      have o1' : p + 2 ≤ q := o1
      have hq : q ≤ n := o2
      obtain ⟨cm', g, g2, g3, g4, g5⟩ := h2
      have sm : ∀ i, i < j + 1 → SmC (upd k j (nI a)) (upd f j (nI b)) (upd s j (nI e)) cm' i := by
        intro i hi
        by_cases ei : i = j
        · rw [ei]
          exact ⟨a, b, e, o3, o4, pk_us, pk_us, pk_us, g3, g4, g5⟩
        · obtain ⟨a1, b1, e1, r1, r2, r3, r4, r5, r6, r7, r8⟩ := hsm i (by omega)
          exact ⟨a1, b1, e1, r1, r2, (pk_un ei).trans r3, (pk_un ei).trans r4, (pk_un ei).trans r5, (g2 _ (by omega)).trans r6, (g2 _ (by omega)).trans r7, (g2 _ (by omega)).trans r8⟩
      have cls : f_X2_readCommands_L12 (fc + 1) (nI j) (sP sc k f s (nI j) (nI p)) = if q = n then some (-1, sP sc (upd k j (nI a)) (upd f j (nI b)) (upd s j (nI e)) (nI (j + 1)) (nI q)) else bd (f_X2_skip (sP sc (upd k j (nI a)) (upd f j (nI b)) (upd s j (nI e)) (nI (j + 1)) (nI q)) 59) (fun r6 => if r6.1 = 0 then some (Sc_at r6.2, r6.2) else f_X2_readCommands_L12 fc (nI j + 1) r6.2) := by
        rw [f_X2_readCommands_L12, if_neg (show ¬ (30 : Int32) ≤ nI j from nI_ge (b := 30) (by omega) (by decide)), h1, bd_s, ← nI_1 j]
        show (if (1 : Int32) = 0 then _ else if nI q = Sc_length sc then _ else _) = _
        rw [if_neg (by decide)]
        have en : nI q = Sc_length sc ↔ q = n := by
          rw [t.2.1]
          exact nI_eq (by omega) (by omega)
        by_cases eq : q = n
        · rw [if_pos (en.mpr eq), if_pos eq]
          rfl
        · rw [if_neg (fun z => eq (en.mp z)), if_neg eq]
          rfl
      have mdl : bd (f_X4_command (mP m cm (nI p) (-1) (nI j))) (fun r => f_X4_parse_L19 (fm + 1) r.2) = if (if q < n then nI (c q) else -1) = (59 : Int32) then bd (f_X4_command (mP m cm' (nI (q + 1)) (-1) (nI (j + 1)))) (fun r7 => f_X4_parse_L19 fm r7.2) else f_X4_parse_B52 (mP m cm' (nI q) (-1) (nI (j + 1))) := by
        rw [g, bd_s, f_X4_parse_L19]
        have e0 : ¬ (0 : Int32) ≤ Md_error (mP m cm' (nI q) (-1) (nI (j + 1))) := by
          show ¬ (0 : Int32) ≤ -1
          decide
        show (if (0 : Int32) ≤ Md_error (mP m cm' (nI q) (-1) (nI (j + 1))) then _ else bd (f_X4_sign (mP m cm' (nI q) (-1) (nI (j + 1)))) (fun r4 => if r4 = 59 then bd (f_X4_command (mP m cm' (nI q + 1) (-1) (nI (j + 1)))) (fun r7 => f_X4_parse_L19 fm r7.2) else f_X4_parse_B52 (mP m cm' (nI q) (-1) (nI (j + 1))))) = _
        rw [if_neg e0, tm_sign t hq, bd_s, nI_1]
      rw [cls, mdl]
      have b52 : f_X4_parse_B52 (mP m cm' (nI q) (-1) (nI (j + 1))) = some (0, mP m cm' (nI q) (if q = n then -1 else nI q) (nI (j + 1))) := by
        unfold f_X4_parse_B52 f_X4_parse_B78
        have e0 : ¬ (0 : Int32) ≤ Md_error (mP m cm' (nI q) (-1) (nI (j + 1))) := by
          show ¬ (0 : Int32) ≤ -1
          decide
        rw [if_neg e0]
        have e1 : Md_typed (mP m cm' (nI q) (-1) (nI (j + 1))) ≤ Md_here (mP m cm' (nI q) (-1) (nI (j + 1))) ↔ q = n := by
          show Md_typed m ≤ nI q ↔ _
          rw [t.2.2.1]
          constructor
          · intro z
            exact Nat.le_antisymm hq (Nat.le_of_not_lt fun y => nI_ge y (by omega) z)
          · intro z
            rw [z]
            exact Int32.le_refl _
        by_cases eq : q = n
        · rw [if_pos (e1.mpr eq), if_pos eq]
        · rw [if_neg (fun z => eq (e1.mp z)), if_neg eq]
          rfl
      by_cases eq : q = n
      · rw [if_pos eq, if_neg (show ¬ (if q < n then nI (c q) else -1) = (59 : Int32) from by rw [if_neg (by omega)]; decide), b52, if_pos eq]
        exact ⟨-1, _, _, rfl, rfl, _, _, _, j + 1, _, cm', _, rfl, Or.inr ⟨rfl, by omega, by omega, rfl, sm⟩⟩
      · have qn : q < n := by omega
        have hc := (t.2.2.2 q qn).1
        have sk := s_skip t hq (show 59 < 128 by omega) (upd k j (nI a)) (upd f j (nI b)) (upd s j (nI e)) (nI (j + 1))
        have sk' : f_X2_skip (sP sc (upd k j (nI a)) (upd f j (nI b)) (upd s j (nI e)) (nI (j + 1)) (nI q)) 59 = _ := sk
        rw [if_neg eq, if_pos qn, sk', b52, if_neg eq]
        by_cases e59 : c q = 59
        · rw [if_pos ⟨qn, e59⟩, if_pos (by rw [e59]; rfl), bd_s]
          show ∃ r sc' m', (if (1 : Int32) = 0 then _ else f_X2_readCommands_L12 fc (nI j + 1) (sP sc (upd k j (nI a)) (upd f j (nI b)) (upd s j (nI e)) (nI (j + 1)) (nI (q + 1)))) = some (r, sc') ∧ _
          rw [if_neg (by decide), nI_1]
          exact ih (q + 1) (j + 1) fc fm _ _ _ cm' (by omega) qn (by omega) (by omega) (by omega) sm
        · rw [if_neg (fun z => e59 z.2), if_neg (show ¬ nI (c q) = (59 : Int32) from fun z => e59 ((nI_eq (b := 59) (by omega) (by omega)).mp z)), bd_s]
          show ∃ r sc' m', (if (0 : Int32) = 0 then some (nI q, sP sc (upd k j (nI a)) (upd f j (nI b)) (upd s j (nI e)) (nI (j + 1)) (nI q)) else _) = some (r, sc') ∧ _
          rw [if_pos rfl]
          exact ⟨nI q, _, _, rfl, rfl, _, _, _, j + 1, _, cm', _, rfl, Or.inl ⟨q, _, by omega, rfl, rfl⟩⟩
/-- the script, read on both sides -/
theorem parse_same (t : TX c n sc m) : ∃ r sc' m', f_X2_readCommands sc = some (r, sc') ∧ f_X4_parse m = some (0, m') ∧ PrsF sc m r sc' m' := by
  have h := parse_loop t n 0 0 100 100 (Sc_kinds sc) (Sc_firsts sc) (Sc_seconds sc) (Md_commands m) (by omega) (by omega) (by omega) (by have := t.1; omega) (by have := t.1; omega) (fun i hi => absurd hi (Nat.not_lt_zero i))
  exact h
end SCR3
