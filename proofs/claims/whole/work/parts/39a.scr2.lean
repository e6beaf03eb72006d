/-! ===== the model reads one command ===== -/
def CmR (k : Nat) (m : MdV) (cm : Nat → Int32) (many : Int32) (out : Option (Int32 × MdV)) : Nat ⊕ ((Nat × Nat × Nat) × Nat) → Prop
  | .inl q => ∃ cm' h, out = some (0, mP m cm' h (nI q) many)
  | .inr t => ∃ cm', out = some (0, mP m cm' (nI t.2) (-1) many) ∧ (∀ i, i < 3 * k → cm' i = cm i) ∧ cm' (3 * k) = nI t.1.1 ∧ cm' (3 * k + 1) = nI t.1.2.1 ∧ cm' (3 * k + 2) = nI t.1.2.2
section SCR2
variable {c : Nat → Nat} {n : Nat} {sc : ScV} {m : MdV}
theorem tm_cmd24 (m : MdV) (cm : Nat → Int32) (h e many x2 : Int32) {k j fu : Nat} (hk : k ≤ 59) (hj : j < 3) : f_X4_command_L24 (fu + 1) (nI (3 * k)) x2 (nI j) (mP m cm h e many) = f_X4_command_L24 fu (nI (3 * k)) x2 (nI (j + 1)) (mP m (upd cm (3 * k + j) 0) h e many) := by
  rw [f_X4_command_L24, if_neg (show ¬ (3 : Int32) ≤ nI j from nI_ge (b := 3) hj (by decide)), nI_add, gd_n (by omega) (by decide), cl_n (by omega), nI_1]
  rfl
/-- the second number of a command -/
def cTl (k : Nat) (x2 x3 : Int32) (w1 : MdV) (sp w : Int32) : Option (Int32 × MdV) := bd (f_X4_behind w1 sp w) (fun r4 => gd (inb (nI (3 * k) + 2) 183) (f_X4_command_B198 (nI (3 * k)) x2 x3 (Md_all r4.2, Md_output r4.2, Md_input r4.2, upd (Md_commands r4.2) (cl (nI (3 * k) + 2)) r4.1, Md_thrown r4.2, Md_changes r4.2, Md_isSaved r4.2, Md_result r4.2, Md_why r4.2, Md_detail r4.2, Md_cause r4.2, Md_outputSize r4.2, Md_typed r4.2, Md_here r4.2, Md_error r4.2, Md_errorAt r4.2, Md_commandMany r4.2)))
theorem tm_tail (t : TX c n sc m) {k p q : Nat} (hk : k ≤ 59) (hq : q ≤ n) (cm : Nat → Int32) (many x2 x3 : Int32) {sp w : Nat} (hs : sp < 128) (hw : 1 ≤ w) (hw3 : w ≤ 3) (z : Nat) (c0 : cm (3 * k) = nI (c p)) (c1 : cm (3 * k + 1) = nI z) :
    CmR k m cm many (cTl k x2 x3 (mP m cm (nI q) (-1) many) (nI sp) (nI w))
      (match bhA c n sp w q with
        | .inl q => .inl q
        | .inr b => .inr ((c p, z, b.1), b.2)) := by
  obtain ⟨h, hb⟩ := tm_behind t hq hw hw3 hs cm many
  unfold cTl
  rw [hb]
  have e2 : nI (3 * k) + 2 = nI (3 * k + 2) := nI_add (3 * k) 2
  simp only [e2, gd_n (show 3 * k + 2 < 183 by omega) (show 183 < 2 ^ 31 by decide), cl_n (show 3 * k + 2 < 2 ^ 31 by omega)]
  unfold f_X4_command_B198
  cases bhA c n sp w q with
  | inl q => exact ⟨_, h, rfl⟩
  | inr b =>
    refine ⟨_, rfl, fun i hi => pk_un (by omega), ?_, ?_, pk_us⟩
    · exact (pk_un (by omega)).trans c0
    · exact (pk_un (by omega)).trans c1
theorem tm_tail_e (cm : Nat → Int32) (h many x2 x3 sp w : Int32) {k q : Nat} (hk : k ≤ 59) (hq : q < 2 ^ 31) : ∃ cm', cTl k x2 x3 (mP m cm h (nI q) many) sp w = some (0, mP m cm' h (nI q) many) := by
  unfold cTl
  rw [tm_behind_e cm h many sp w hq]
  have e2 : nI (3 * k) + 2 = nI (3 * k + 2) := nI_add (3 * k) 2
  simp only [e2, gd_n (show 3 * k + 2 < 183 by omega) (show 183 < 2 ^ 31 by decide), cl_n (show 3 * k + 2 < 2 ^ 31 by omega)]
  exact ⟨_, rfl⟩
theorem tm_B96 (t : TX c n sc m) {k p q w : Nat} (hk : k ≤ 59) (hp : p < n) (hq : q ≤ n) (hw : 1 ≤ w) (hw3 : w ≤ 3) (cm : Nat → Int32) (many x3 : Int32) (c0 : cm (3 * k) = nI (c p)) (c2 : cm (3 * k + 2) = 0) :
    CmR k m cm many (f_X4_command_B96 (nI (3 * k)) (nI (c p)) x3 (nI w) (nI (3 * k) + 1) (mP m cm (nI q) (-1) many))
      (if dg c n q = true then
        (fun a : Nat × Nat => if sec2 (c p) = true then
          match bhA c n (if c p = 83 then 44 else 58) (if las1 (c p) = true then 1 else 3) a.2 with
          | .inl q => .inl q
          | .inr b => .inr ((c p, a.1, b.1), b.2)
        else .inr ((c p, a.1, 0), a.2)) (nu c n w 0 q)
      else .inl q) := by
  have hc := (t.2.2.2 p hp).1
  have h60 := t.1
  unfold f_X4_command_B96
  rw [tm_number t hq hw hw3]
  have e1 : nI (3 * k) + 1 = nI (3 * k + 1) := nI_add (3 * k) 1
  have eq : ∀ b : Nat, b < 128 → (nI (c p) = nI b ↔ c p = b) := fun b hb => nI_eq (by omega) (by omega)
  by_cases ed : dg c n q = true
  · rw [if_pos ed, if_pos ed, bd_s]
    simp only [e1, gd_n (show 3 * k + 1 < 183 by omega) (show 183 < 2 ^ 31 by decide), cl_n (show 3 * k + 1 < 2 ^ 31 by omega)]
    obtain ⟨a, ha⟩ : ∃ a, a = nu c n w 0 q := ⟨_, rfl⟩
    have ha2 : a.2 ≤ n := by
      rw [ha]
      exact (nu_le c n w 0 q hq).2
    rw [← ha]
    have mono : ∀ out r, CmR k m (upd cm (3 * k + 1) (nI a.1)) many out r → CmR k m cm many out r := by
      intro out r
      cases r with
      | inl q => exact id
      | inr b =>
        rintro ⟨cm', g1, g2, g3⟩
        exact ⟨cm', g1, fun i hi => (g2 i hi).trans (pk_un (by omega)), g3⟩
    refine mono _ _ ?_
    show CmR k m (upd cm (3 * k + 1) (nI a.1)) many (if nI (c p) = 69 then cTl k (nI (c p)) x3 (mP m (upd cm (3 * k + 1) (nI a.1)) (nI a.2) (-1) many) 58 1 else if nI (c p) = 77 then cTl k (nI (c p)) x3 (mP m (upd cm (3 * k + 1) (nI a.1)) (nI a.2) (-1) many) 58 3 else if nI (c p) = 82 then cTl k (nI (c p)) x3 (mP m (upd cm (3 * k + 1) (nI a.1)) (nI a.2) (-1) many) 58 1 else if nI (c p) = 83 then cTl k (nI (c p)) x3 (mP m (upd cm (3 * k + 1) (nI a.1)) (nI a.2) (-1) many) 44 3 else f_X4_command_B198 (nI (3 * k)) (nI (c p)) x3 (mP m (upd cm (3 * k + 1) (nI a.1)) (nI a.2) (-1) many)) (if sec2 (c p) = true then
          match bhA c n (if c p = 83 then 44 else 58) (if las1 (c p) = true then 1 else 3) a.2 with
          | .inl q => .inl q
          | .inr b => .inr ((c p, a.1, b.1), b.2)
        else .inr ((c p, a.1, 0), a.2))
    have tl : ∀ sp w : Nat, sp < 128 → 1 ≤ w → w ≤ 3 → CmR k m (upd cm (3 * k + 1) (nI a.1)) many (cTl k (nI (c p)) x3 (mP m (upd cm (3 * k + 1) (nI a.1)) (nI a.2) (-1) many) (nI sp) (nI w)) (match bhA c n sp w a.2 with
          | .inl q => .inl q
          | .inr b => .inr ((c p, a.1, b.1), b.2)) := fun sp w hs hw hw3 =>
      tm_tail (p := p) t hk ha2 (upd cm (3 * k + 1) (nI a.1)) many (nI (c p)) x3 hs hw hw3 a.1 ((pk_un (by omega)).trans c0) pk_us
    by_cases k1 : c p = 69
    · have g := tl 58 1 (by omega) (by omega) (by omega)
      rw [k1] at g ⊢
      exact g
    · rw [if_neg (show ¬ nI (c p) = (69 : Int32) from fun q => k1 ((eq 69 (by omega)).mp q))]
      by_cases k2 : c p = 77
      · have g := tl 58 3 (by omega) (by omega) (by omega)
        rw [k2] at g ⊢
        exact g
      · rw [if_neg (show ¬ nI (c p) = (77 : Int32) from fun q => k2 ((eq 77 (by omega)).mp q))]
        by_cases k3 : c p = 82
        · have g := tl 58 1 (by omega) (by omega) (by omega)
          rw [k3] at g ⊢
          exact g
        · rw [if_neg (show ¬ nI (c p) = (82 : Int32) from fun q => k3 ((eq 82 (by omega)).mp q))]
          by_cases k4 : c p = 83
          · have g := tl 44 3 (by omega) (by omega) (by omega)
            rw [k4] at g ⊢
            exact g
          · have hs : sec2 (c p) = false := decide_eq_false (fun q => by omega)
            rw [if_neg (show ¬ nI (c p) = (83 : Int32) from fun q => k4 ((eq 83 (by omega)).mp q)), if_neg (by rw [hs]; decide)]
            exact ⟨_, rfl, fun i hi => rfl, (pk_un (by omega)).trans c0, pk_us, (pk_un (by omega)).trans c2⟩
  · rw [if_neg ed, if_neg ed, bd_s]
    simp only [e1, gd_n (show 3 * k + 1 < 183 by omega) (show 183 < 2 ^ 31 by decide), cl_n (show 3 * k + 1 < 2 ^ 31 by omega)]
    show CmR k m cm many (if nI (c p) = 69 then cTl k (nI (c p)) x3 (mP m (upd cm (3 * k + 1) 0) (nI q) (nI q) many) 58 1 else if nI (c p) = 77 then cTl k (nI (c p)) x3 (mP m (upd cm (3 * k + 1) 0) (nI q) (nI q) many) 58 3 else if nI (c p) = 82 then cTl k (nI (c p)) x3 (mP m (upd cm (3 * k + 1) 0) (nI q) (nI q) many) 58 1 else if nI (c p) = 83 then cTl k (nI (c p)) x3 (mP m (upd cm (3 * k + 1) 0) (nI q) (nI q) many) 44 3 else f_X4_command_B198 (nI (3 * k)) (nI (c p)) x3 (mP m (upd cm (3 * k + 1) 0) (nI q) (nI q) many)) (Sum.inl q)
    have te : ∀ sp w : Int32, CmR k m cm many (cTl k (nI (c p)) x3 (mP m (upd cm (3 * k + 1) 0) (nI q) (nI q) many) sp w) (Sum.inl q) := fun sp w => by
      obtain ⟨cm', g⟩ := tm_tail_e (m := m) (upd cm (3 * k + 1) 0) (nI q) many (nI (c p)) x3 sp w hk (q := q) (by omega)
      exact ⟨cm', _, g⟩
    split
    · exact te _ _
    · split
      · exact te _ _
      · split
        · exact te _ _
        · split
          · exact te _ _
          · exact ⟨_, _, rfl⟩
/-- the model reads one command -/
theorem tm_command (t : TX c n sc m) {k p : Nat} (hk : k ≤ 59) (hp : p ≤ n) (cm : Nat → Int32) : CmR k m cm (nI (k + 1)) (f_X4_command (mP m cm (nI p) (-1) (nI k))) (cmdA c n p) := by
  have h60 := t.1
  have e1 : f_X4_command (mP m cm (nI p) (-1) (nI k)) = bd (f_X4_sign (mP m cm (nI p) (-1) (nI k + 1))) (fun r27 => f_X4_command_L24 100 (3 * nI k) r27 0 (mP m cm (nI p) (-1) (nI k + 1))) := rfl
  rw [e1, nI_1, tm_sign t hp, bd_s, show (3 : Int32) * nI k = nI (3 * k) from pk_mul 3 k]
  have s1 := tm_cmd24 m cm (nI p) (-1) (nI (k + 1)) (if p < n then nI (c p) else -1) (k := k) (j := 0) (fu := 99) hk (by omega)
  have s2 := tm_cmd24 m (upd cm (3 * k + 0) 0) (nI p) (-1) (nI (k + 1)) (if p < n then nI (c p) else -1) (k := k) (j := 1) (fu := 98) hk (by omega)
  have s3 := tm_cmd24 m (upd (upd cm (3 * k + 0) 0) (3 * k + 1) 0) (nI p) (-1) (nI (k + 1)) (if p < n then nI (c p) else -1) (k := k) (j := 2) (fu := 97) hk (by omega)
  have s0 : f_X4_command_L24 100 (nI (3 * k)) (if p < n then nI (c p) else -1) 0 (mP m cm (nI p) (-1) (nI (k + 1))) = f_X4_command_L24 97 (nI (3 * k)) (if p < n then nI (c p) else -1) (nI (2 + 1)) (mP m (upd (upd (upd cm (3 * k + 0) 0) (3 * k + 1) 0) (3 * k + 2) 0) (nI p) (-1) (nI (k + 1))) := s1.trans (s2.trans s3)
  rw [s0, f_X4_command_L24, if_pos (by decide)]
  by_cases e : p < n
  · have hc := (t.2.2.2 p e).1
    rw [if_pos e, tm_isLetter hc, bd_s]
    by_cases ek : isK (c p) = true
    · rw [ek, if_neg (show ¬ b2 true = 0 from by decide), gd_n (by omega) (by decide), cl_n (by omega), cmdA, if_pos (show p < n ∧ isK (c p) = true from ⟨e, ek⟩)]
      have hp1 : p + 1 ≤ n := e
      have mono : ∀ cm2 : Nat → Int32, (∀ i, i < 3 * k → cm2 i = cm i) → ∀ out r, CmR k m cm2 (nI (k + 1)) out r → CmR k m cm (nI (k + 1)) out r := by
        intro cm2 h2 out r
        cases r with
        | inl q => exact id
        | inr b =>
          rintro ⟨cm', g1, g2, g3⟩
          exact ⟨cm', g1, fun i hi => (g2 i hi).trans (h2 i hi), g3⟩
      have g := fun w hw hw3 => tm_B96 (p := p) (q := p + 1) (w := w) t hk e hp1 hw hw3 (upd (upd (upd (upd cm (3 * k + 0) 0) (3 * k + 1) 0) (3 * k + 2) 0) (3 * k) (nI (c p))) (nI (k + 1)) (nI (2 + 1)) pk_us ((pk_un (by omega)).trans pk_us)
      have g2 : ∀ i, i < 3 * k → upd (upd (upd (upd cm (3 * k + 0) 0) (3 * k + 1) 0) (3 * k + 2) 0) (3 * k) (nI (c p)) i = cm i := fun i hi => (pk_un (by omega)).trans ((pk_un (by omega)).trans ((pk_un (by omega)).trans (pk_un (by omega))))
      by_cases e86 : c p = 86
      · rw [if_pos (show nI (c p) = (86 : Int32) from by rw [e86]; rfl), if_pos e86]
        have g3 := mono _ g2 _ _ (g 1 (by omega) (by omega))
        rw [← nI_1 p] at g3
        exact g3
      · rw [if_neg (show ¬ nI (c p) = (86 : Int32) from fun q => e86 ((nI_eq (b := 86) (by omega) (by omega)).mp q)), if_neg e86]
        have g3 := mono _ g2 _ _ (g 3 (by omega) (by omega))
        rw [← nI_1 p] at g3
        exact g3
    · rw [eq_false_of_ne_true ek, if_pos b2_f, cmdA, if_neg (fun q => ek q.2)]
      exact ⟨_, _, rfl⟩
  · rw [if_neg e, show f_X4_isLetter (-1) = some 0 from by decide, bd_s, if_pos rfl, cmdA, if_neg (fun q => e q.1)]
    exact ⟨_, _, rfl⟩
end SCR2
