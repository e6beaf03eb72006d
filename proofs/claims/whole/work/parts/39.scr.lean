/-! ===== the script: both sides read it alike ===== -/
def mP (m : MdV) (cm : Nat → Int32) (here err many : Int32) : MdV := (Md_all m, Md_output m, Md_input m, cm, Md_thrown m, Md_changes m, Md_isSaved m, Md_result m, Md_why m, Md_detail m, Md_cause m, Md_outputSize m, Md_typed m, here, err, Md_errorAt m, many)
def sP (sc : ScV) (k f s : Nat → Int32) (cmds at_ : Int32) : ScV := (Sc_input sc, k, f, s, Sc_length sc, cmds, at_)
/-- the text, of n signs -/
def TX (c : Nat → Nat) (n : Nat) (sc : ScV) (m : MdV) : Prop := n ≤ 60 ∧ Sc_length sc = nI n ∧ Md_typed m = nI n ∧ ∀ i, i < n → c i < 128 ∧ Sc_input sc i = nI (c i) ∧ Md_input m i = nI (c i)
def dg (c : Nat → Nat) (n p : Nat) : Bool := decide (p < n ∧ 48 ≤ c p ∧ c p ≤ 57)
/-- at most w further digits -/
def nu (c : Nat → Nat) (n : Nat) : Nat → Nat → Nat → Nat × Nat
  | 0, a, p => (a, p)
  | w + 1, a, p => if dg c n p = true then nu c n w (a * 10 + (c p - 48)) (p + 1) else (a, p)
theorem nu_lt (c : Nat → Nat) (n : Nat) : ∀ w a p, (nu c n w a p).1 < (a + 1) * 10 ^ w := by
  intro w
  induction w with
  | zero =>
    intro a p
    show a < (a + 1) * 1
    omega
  | succ w ih =>
    intro a p
    have hpos : 0 < 10 ^ w := Nat.pow_pos (by omega)
    have e10 : (a + 1) * 10 ^ (w + 1) = (a + 1) * 10 * 10 ^ w := by rw [Nat.pow_succ, Nat.mul_comm (10 ^ w) 10, Nat.mul_assoc]
    rw [nu, e10]
    by_cases e : dg c n p = true
    · rw [if_pos e]
      have h1 := ih (a * 10 + (c p - 48)) (p + 1)
      have hd : c p ≤ 57 := (of_decide_eq_true e).2.2
      exact Nat.lt_of_lt_of_le h1 (Nat.mul_le_mul_right _ (by omega))
    · rw [if_neg e]
      have h2 : (a + 1) * 10 * 1 ≤ (a + 1) * 10 * 10 ^ w := Nat.mul_le_mul_left _ hpos
      show a < _
      omega
theorem nu_le (c : Nat → Nat) (n : Nat) : ∀ w a p, p ≤ n → p ≤ (nu c n w a p).2 ∧ (nu c n w a p).2 ≤ n := by
  intro w
  induction w with
  | zero =>
    intro a p h
    exact ⟨Nat.le_refl p, h⟩
  | succ w ih =>
    intro a p h
    rw [nu]
    by_cases e : dg c n p = true
    · rw [if_pos e]
      have hd : p < n := (of_decide_eq_true e).1
      have := ih (a * 10 + (c p - 48)) (p + 1) hd
      exact ⟨by omega, this.2⟩
    · rw [if_neg e]
      exact ⟨Nat.le_refl p, h⟩
theorem nu_up (c : Nat → Nat) (n w p : Nat) (h : dg c n p = true) : p + 1 ≤ (nu c n (w + 1) 0 p).2 ∧ (nu c n (w + 1) 0 p).2 ≤ n := by
  rw [nu, if_pos h]
  exact nu_le c n w _ (p + 1) (of_decide_eq_true h).1
section SCR
variable {c : Nat → Nat} {n : Nat} {sc : ScV} {m : MdV}
theorem s_readDigit (t : TX c n sc m) {p : Nat} (hp : p ≤ n) (k f s : Nat → Int32) (cmds : Int32) : f_X2_readDigit (sP sc k f s cmds (nI p)) = if dg c n p = true then some (nI (c p - 48), sP sc k f s cmds (nI (p + 1))) else some (-1, sP sc k f s cmds (nI p)) := by
  obtain ⟨t1, t2, t3, t4⟩ := t
  unfold f_X2_readDigit f_X2_readDigit_B39
  have q1 : Sc_length (sP sc k f s cmds (nI p)) = nI n := t2
  have q2 : Sc_at (sP sc k f s cmds (nI p)) = nI p := rfl
  rw [q1, q2]
  by_cases e : p < n
  · obtain ⟨c1, c2, c3⟩ := t4 p e
    have q3 : Sc_input (sP sc k f s cmds (nI p)) p = nI (c p) := c2
    rw [if_neg (nI_ge e (by omega)), gd_n (by omega) (by decide), gd_n (by omega) (by decide), gd_n (by omega) (by decide), cl_n (by omega), q3]
    by_cases e1 : 48 ≤ c p
    · rw [if_neg (show ¬ nI (c p) < (48 : Int32) from nI_nlt (b := 48) e1 (by omega))]
      by_cases e2 : c p ≤ 57
      · rw [if_pos (show nI (c p) ≤ (57 : Int32) from nI_le (b := 57) e2 (by decide)), if_pos (show dg c n p = true from decide_eq_true ⟨e, e1, e2⟩), show nI (c p) - 48 = nI (c p - 48) from pk_sub (b := 48) e1, nI_1, ← q1]
        rfl
      · rw [if_neg (show ¬ nI (c p) ≤ (57 : Int32) from nI_ge (a := 57) (by omega) (by omega)), if_neg (by rw [dg, decide_eq_false (fun q => e2 q.2.2)]; decide)]
    · rw [if_pos (show nI (c p) < (48 : Int32) from nI_lt (b := 48) (by omega) (by decide)), if_neg (by rw [dg, decide_eq_false (fun q => e1 q.2.1)]; decide)]
  · rw [if_pos (nI_le (by omega) (by omega)), if_neg (by rw [dg, decide_eq_false (fun q => e q.1)]; decide)]
theorem tm_sign (t : TX c n sc m) {p : Nat} (hp : p ≤ n) (cm : Nat → Int32) (e many : Int32) : f_X4_sign (mP m cm (nI p) e many) = some (if p < n then nI (c p) else -1) := by
  obtain ⟨t1, t2, t3, t4⟩ := t
  unfold f_X4_sign f_X4_sign_B24
  have q1 : Md_typed (mP m cm (nI p) e many) = nI n := t3
  have q2 : Md_here (mP m cm (nI p) e many) = nI p := rfl
  rw [q1, q2]
  by_cases e : p < n
  · rw [if_neg (nI_ge e (by omega)), gd_n (by omega) (by decide), cl_n (by omega), if_pos e]
    exact congrArg some (t4 p e).2.2
  · rw [if_pos (nI_le (by omega) (by omega)), if_neg e]
theorem tm_sdig (t : TX c n sc m) (p : Nat) : f_X4_in (if p < n then nI (c p) else -1) 48 57 = some (b2 (dg c n p)) := by
  rw [tm_in, dg]
  by_cases e : p < n
  · have hc := (t.2.2.2 p e).1
    rw [if_pos e]
    congr 3
    refine propext ⟨fun h => ⟨e, ?_, ?_⟩, fun h => ⟨?_, ?_⟩⟩
    · exact Nat.le_of_not_lt fun q => nI_ge (b := 48) q (by decide) h.1
    · exact Nat.le_of_not_lt fun q => nI_ge (a := 57) q (by omega) h.2
    · exact nI_le (a := 48) h.2.1 (by omega)
    · exact nI_le (b := 57) h.2.2 (by decide)
  · rw [if_neg e, show decide (p < n ∧ 48 ≤ c p ∧ c p ≤ 57) = false from decide_eq_false (fun q => e q.1)]
    rfl
theorem s_readNumber (t : TX c n sc m) {p : Nat} (hp : p ≤ n) (k f s : Nat → Int32) (cmds : Int32) : f_X2_readNumber (sP sc k f s cmds (nI p)) = if dg c n p = true then some (nI (nu c n 3 0 p).1, sP sc k f s cmds (nI (nu c n 3 0 p).2)) else some (-1, sP sc k f s cmds (nI p)) := by
  have key : ∀ w j a p fu, j + w = 3 → 1 ≤ j → w < fu → p ≤ n → f_X2_readNumber_L4 fu (nI a) (nI j) (sP sc k f s cmds (nI p)) = some (nI (nu c n w a p).1, sP sc k f s cmds (nI (nu c n w a p).2)) := by
    intro w
    induction w with
    | zero =>
      intro j a p fu hj _ hf hp
      obtain ⟨fu, rfl⟩ : ∃ z, fu = z + 1 := ⟨fu - 1, by omega⟩
      have e : j = 3 := by omega
      rw [f_X2_readNumber_L4, e, if_pos (by decide)]
      rfl
    | succ w ih =>
      intro j a p fu hj h1 hf hp
      obtain ⟨fu, rfl⟩ : ∃ z, fu = z + 1 := ⟨fu - 1, by omega⟩
      rw [f_X2_readNumber_L4, if_neg (show ¬ (3 : Int32) ≤ nI j from nI_ge (b := 3) (by omega) (by decide)), s_readDigit t hp, nu]
      by_cases e : dg c n p = true
      · have hd := of_decide_eq_true e
        rw [if_pos e, if_pos e, bd_s]
        have hc := (t.2.2.2 p hd.1).1
        show (if nI (c p - 48) = -1 then some (nI a, sP sc k f s cmds (nI (p + 1))) else if nI j = 0 then f_X2_readNumber_B35 (f_X2_readNumber_L4 fu) (nI a) (nI j) (nI (c p - 48)) (nI (c p - 48)) (sP sc k f s cmds (nI (p + 1))) else f_X2_readNumber_B35 (f_X2_readNumber_L4 fu) (nI a) (nI j) (nI (c p - 48)) (nI a * 10 + nI (c p - 48)) (sP sc k f s cmds (nI (p + 1)))) = _
        rw [if_neg (nI_m1 (by omega)), if_neg (nI_ne0 (by omega) (by omega))]
        unfold f_X2_readNumber_B35
        rw [nI_1, show nI a * 10 + nI (c p - 48) = nI (a * 10 + (c p - 48)) from by rw [← nI_add, ← pk_mul]; rfl]
        exact ih (j + 1) _ (p + 1) fu (by omega) (by omega) (by omega) hd.1
      · rw [if_neg e, if_neg e, bd_s]
        show (if (-1 : Int32) = -1 then some (nI a, sP sc k f s cmds (nI p)) else _) = _
        rw [if_pos rfl]
  unfold f_X2_readNumber
  rw [f_X2_readNumber_L4, if_neg (by decide), s_readDigit t hp]
  by_cases e : dg c n p = true
  · have hd := of_decide_eq_true e
    have hc := (t.2.2.2 p hd.1).1
    rw [if_pos e, if_pos e, bd_s]
    show (if nI (c p - 48) = -1 then some ((-1 : Int32), sP sc k f s cmds (nI (p + 1))) else if (0 : Int32) = 0 then f_X2_readNumber_B35 (f_X2_readNumber_L4 99) (-1) 0 (nI (c p - 48)) (nI (c p - 48)) (sP sc k f s cmds (nI (p + 1))) else _) = _
    rw [if_neg (nI_m1 (by omega)), if_pos rfl]
    unfold f_X2_readNumber_B35
    have g := key 2 1 (c p - 48) (p + 1) 99 rfl (Nat.le_refl _) (by omega) hd.1
    rw [nu, if_pos e, Nat.zero_mul, Nat.zero_add]
    exact g
  · rw [if_neg e, if_neg e, bd_s]
    show (if (-1 : Int32) = -1 then some ((-1 : Int32), sP sc k f s cmds (nI p)) else _) = _
    rw [if_pos rfl]
theorem tm_number (t : TX c n sc m) {p w : Nat} (hp : p ≤ n) (hw : 1 ≤ w) (hw3 : w ≤ 3) (cm : Nat → Int32) (many : Int32) : f_X4_number (mP m cm (nI p) (-1) many) (nI w) = if dg c n p = true then some (nI (nu c n w 0 p).1, mP m cm (nI (nu c n w 0 p).2) (-1) many) else some (0, mP m cm (nI p) (nI p) many) := by
  have key : ∀ d j a p fu, j + d = w → d < fu → p ≤ n → f_X4_number_L37 fu (nI w) (nI a) (nI j) (mP m cm (nI p) (-1) many) = some (nI (nu c n d a p).1, mP m cm (nI (nu c n d a p).2) (-1) many) := by
    intro d
    induction d with
    | zero =>
      intro j a p fu hj hf hp
      obtain ⟨fu, rfl⟩ : ∃ z, fu = z + 1 := ⟨fu - 1, by omega⟩
      have e : j = w := by omega
      rw [f_X4_number_L37, e, if_pos (Int32.le_refl _)]
      rfl
    | succ d ih =>
      intro j a p fu hj hf hp
      obtain ⟨fu, rfl⟩ : ∃ z, fu = z + 1 := ⟨fu - 1, by omega⟩
      rw [f_X4_number_L37, if_neg (nI_ge (by omega) (by omega)), tm_sign t hp, bd_s, tm_sdig t, bd_s, nu]
      unfold f_X4_number_B85
      by_cases e : dg c n p = true
      · have hd := of_decide_eq_true e
        rw [if_pos e, e, if_neg (show ¬ b2 true = 0 from by decide), bd_s, if_pos hd.1]
        show f_X4_number_L37 fu (nI w) (10 * nI a + nI (c p) - 48) (nI j + 1) (mP m cm (nI p + 1) (-1) many) = _
        rw [nI_1, nI_1, show 10 * nI a + nI (c p) - 48 = nI (a * 10 + (c p - 48)) from by
          show nI 10 * nI a + nI (c p) - nI 48 = _
          rw [pk_mul, nI_add, pk_sub (by omega)]
          congr 1
          omega]
        exact ih (j + 1) _ (p + 1) fu (by omega) (by omega) hd.1
      · rw [if_neg e, eq_false_of_ne_true e, if_pos b2_f]
  unfold f_X4_number
  show (if (-1 : Int32) < 0 then _ else _) = _
  rw [if_pos (by decide), tm_sign t hp, bd_s, tm_sdig t, bd_s]
  by_cases e : dg c n p = true
  · rw [if_pos e, e, if_neg (show ¬ b2 true = 0 from by decide)]
    exact key w 0 0 p 100 (by omega) (by omega) hp
  · rw [if_neg e, eq_false_of_ne_true e, if_pos b2_f]
    rfl
theorem tm_number_e (cm : Nat → Int32) (h many a : Int32) {q : Nat} (hq : q < 2 ^ 31) : f_X4_number (mP m cm h (nI q) many) a = some (0, mP m cm h (nI q) many) := by
  unfold f_X4_number
  show (if nI q < 0 then _ else _) = _
  rw [if_neg (nI_pos hq)]
theorem tm_behind_e (cm : Nat → Int32) (h many a w : Int32) {q : Nat} (hq : q < 2 ^ 31) : f_X4_behind (mP m cm h (nI q) many) a w = some (0, mP m cm h (nI q) many) := by
  unfold f_X4_behind f_X4_needs
  rw [show (if Md_error (mP m cm h (nI q) many) < 0 then _ else some ((0 : Int32), mP m cm h (nI q) many)) = some (0, mP m cm h (nI q) many) from if_neg (nI_pos hq), bd_s, tm_number_e cm h many w hq, bd_s]
/-- a separator and a number -/
def bhA (c : Nat → Nat) (n s w p : Nat) : Nat ⊕ (Nat × Nat) :=
  if p < n ∧ c p = s then if dg c n (p + 1) = true then .inr (nu c n w 0 (p + 1)) else .inl (p + 1) else .inl p
theorem tm_behind (t : TX c n sc m) {p w s : Nat} (hp : p ≤ n) (hw : 1 ≤ w) (hw3 : w ≤ 3) (hs : s < 128) (cm : Nat → Int32) (many : Int32) : ∃ h, f_X4_behind (mP m cm (nI p) (-1) many) (nI s) (nI w) = match bhA c n s w p with
    | .inl q => some (0, mP m cm h (nI q) many)
    | .inr q => some (nI q.1, mP m cm (nI q.2) (-1) many) := by
  unfold f_X4_behind f_X4_needs bhA
  have e0 : (Md_error (mP m cm (nI p) (-1) many) < 0) := by
    show (-1 : Int32) < 0
    decide
  rw [if_pos e0, tm_sign t hp, bd_s]
  by_cases e : p < n ∧ c p = s
  · rw [if_pos e, if_pos e.1, if_pos (by rw [e.2])]
    have q : (bd (some ((0 : Int32), mP m cm (nI p + 1) (-1) many)) fun r1 => bd (f_X4_number r1.2 (nI w)) fun r3 => some (r3.1, r3.2)) = bd (f_X4_number (mP m cm (nI (p + 1)) (-1) many) (nI w)) (fun r3 => some (r3.1, r3.2)) := by rw [bd_s, nI_1]
    refine ⟨nI (p + 1), ?_⟩
    refine q.trans ?_
    rw [tm_number t (show p + 1 ≤ n from e.1) hw hw3]
    by_cases e1 : dg c n (p + 1) = true
    · rw [if_pos e1, if_pos e1, bd_s]
    · rw [if_neg e1, if_neg e1, bd_s]
  · rw [if_neg e]
    have ne : ¬ (if p < n then nI (c p) else (-1 : Int32)) = nI s := by
      by_cases e1 : p < n
      · rw [if_pos e1]
        have hc := (t.2.2.2 p e1).1
        exact fun q => e ⟨e1, (nI_eq (by omega) (by omega)).mp q⟩
      · rw [if_neg e1]
        exact fun q => nI_m1 (by omega) q.symm
    rw [if_neg ne]
    refine ⟨nI p, ?_⟩
    have hp60 := t.1
    have q : (bd (some ((0 : Int32), mP m cm (nI p) (nI p) many)) fun r1 => bd (f_X4_number r1.2 (nI w)) fun r3 => some (r3.1, r3.2)) = some (0, mP m cm (nI p) (nI p) many) := by rw [bd_s, tm_number_e cm _ many _ (show p < 2 ^ 31 by omega), bd_s]
    exact q
/-! one command -/
def isK (k : Nat) : Bool := decide (k = 66 ∨ k = 67 ∨ k = 69 ∨ k = 77 ∨ k = 82 ∨ k = 83 ∨ k = 84 ∨ k = 86 ∨ k = 88)
def sec2 (k : Nat) : Bool := decide (k = 69 ∨ k = 77 ∨ k = 82 ∨ k = 83)
def las1 (k : Nat) : Bool := decide (k = 69 ∨ k = 82)
def zSc : ScV := (fun _ => 0, fun _ => 0, fun _ => 0, fun _ => 0, 0, 0, 0)
theorem s_isKind (v : ScV) {k : Nat} (h : k < 128) : f_X2_isKind v (nI k) = some (b2 (isK k)) := by
  have key : ∀ j : Fin 128, f_X2_isKind zSc (nI j.val) = some (b2 (isK j.val)) := by decide
  exact key ⟨k, h⟩
theorem s_hasSecond (v : ScV) {k : Nat} (h : k < 128) : f_X2_hasSecond v (nI k) = some (b2 (sec2 k)) := by
  have key : ∀ j : Fin 128, f_X2_hasSecond zSc (nI j.val) = some (b2 (sec2 j.val)) := by decide
  exact key ⟨k, h⟩
theorem s_takesDigitLast (v : ScV) {k : Nat} (h : k < 128) : f_X2_takesDigitLast v (nI k) = some (b2 (las1 k)) := by
  have key : ∀ j : Fin 128, f_X2_takesDigitLast zSc (nI j.val) = some (b2 (las1 j.val)) := by decide
  exact key ⟨k, h⟩
theorem tm_isLetter {k : Nat} (h : k < 128) : f_X4_isLetter (nI k) = some (b2 (isK k)) := by
  have key : ∀ j : Fin 128, f_X4_isLetter (nI j.val) = some (b2 (isK j.val)) := by decide
  exact key ⟨k, h⟩
def cmdA (c : Nat → Nat) (n p : Nat) : Nat ⊕ ((Nat × Nat × Nat) × Nat) :=
  if p < n ∧ isK (c p) = true then
    if dg c n (p + 1) = true then
      (fun a : Nat × Nat => if sec2 (c p) = true then
        match bhA c n (if c p = 83 then 44 else 58) (if las1 (c p) = true then 1 else 3) a.2 with
        | .inl q => .inl q
        | .inr b => .inr ((c p, a.1, b.1), b.2)
      else .inr ((c p, a.1, 0), a.2)) (nu c n (if c p = 86 then 1 else 3) 0 (p + 1))
    else .inl (p + 1)
  else .inl p
theorem s_skip (t : TX c n sc m) {p a : Nat} (hp : p ≤ n) (ha : a < 128) (k f s : Nat → Int32) (cmds : Int32) : f_X2_skip (sP sc k f s cmds (nI p)) (nI a) = if p < n ∧ c p = a then some (1, sP sc k f s cmds (nI (p + 1))) else some (0, sP sc k f s cmds (nI p)) := by
  obtain ⟨t1, t2, t3, t4⟩ := t
  unfold f_X2_skip f_X2_skip_B24
  have q1 : Sc_length (sP sc k f s cmds (nI p)) = nI n := t2
  have q2 : Sc_at (sP sc k f s cmds (nI p)) = nI p := rfl
  rw [q1, q2]
  by_cases e : p < n
  · obtain ⟨c1, c2, c3⟩ := t4 p e
    have q3 : Sc_input (sP sc k f s cmds (nI p)) p = nI (c p) := c2
    rw [if_neg (nI_ge e (by omega)), gd_n (by omega) (by decide), cl_n (by omega), q3]
    by_cases e1 : c p = a
    · rw [if_pos (by rw [e1]), if_pos ⟨e, e1⟩, nI_1, ← q1]
      rfl
    · rw [if_neg (fun q => e1 ((nI_eq (by omega) (by omega)).mp q)), if_neg (fun q => e1 q.2)]
  · rw [if_pos (nI_le (by omega) (by omega)), if_neg (fun q => e q.1)]
/-- the class reads one command -/
theorem s_readCommand (t : TX c n sc m) {p j : Nat} (hp : p ≤ n) (hj : j < 30) (k f s : Nat → Int32) (cmds : Int32) : f_X2_readCommand (sP sc k f s cmds (nI p)) (nI j) = match cmdA c n p with
    | .inl q => some (0, sP sc k f s cmds (nI q))
    | .inr q => some (1, sP sc (upd k j (nI q.1.1)) (upd f j (nI q.1.2.1)) (upd s j (nI q.1.2.2)) cmds (nI q.2)) := by
  have t' := t
  obtain ⟨t1, t2, t3, t4⟩ := t'
  unfold f_X2_readCommand f_X2_readCommand_B27
  have q1 : Sc_length (sP sc k f s cmds (nI p)) = nI n := t2
  have q2 : Sc_at (sP sc k f s cmds (nI p)) = nI p := rfl
  rw [q1, q2]
  by_cases e : p < n
  · obtain ⟨c1, c2, c3⟩ := t4 p e
    have q3 : Sc_input (sP sc k f s cmds (nI p)) p = nI (c p) := c2
    rw [if_neg (nI_ge e (by omega)), gd_n (by omega) (by decide), gd_n (by omega) (by decide), cl_n (by omega), q3, s_isKind _ c1, bd_s]
    by_cases ek : isK (c p) = true
    · rw [ek, if_neg (show ¬ b2 true = 0 from by decide)]
      have fin : ∀ (a b : Nat) (h : Nat), f_X2_readCommand_B136 (nI j) (nI (c p)) (nI a) (nI b) (sP sc k f s cmds (nI h)) = some (1, sP sc (upd k j (nI (c p))) (upd f j (nI a)) (upd s j (nI b)) cmds (nI h)) := by
        intro a b h
        unfold f_X2_readCommand_B136
        rw [gd_n (by omega) (by decide), gd_n (by omega) (by decide), gd_n (by omega) (by decide), cl_n (by omega), nar_ch c1]
        rfl
      have p99 : ∀ (a h sp : Nat), h ≤ n → sp < 128 → f_X2_readCommand_B99 (nI j) (nI (c p)) (nI a) 0 (nI sp) (sP sc k f s cmds (nI h)) = match bhA c n sp (if las1 (c p) = true then 1 else 3) h with
          | .inl q => some (0, sP sc k f s cmds (nI q))
          | .inr b => some (1, sP sc (upd k j (nI (c p))) (upd f j (nI a)) (upd s j (nI b.1)) cmds (nI b.2)) := by
        intro a h sp hh hs
        unfold f_X2_readCommand_B99 bhA
        rw [s_skip t hh hs]
        by_cases e1 : h < n ∧ c h = sp
        · rw [if_pos e1, if_pos e1, bd_s]
          show (if (1 : Int32) = 0 then _ else bd (f_X2_takesDigitLast (sP sc k f s cmds (nI (h + 1))) (nI (c p))) (fun r8 => if r8 = 0 then bd (f_X2_readNumber (sP sc k f s cmds (nI (h + 1)))) (fun r11 => f_X2_readCommand_B126 (nI j) (nI (c p)) (nI a) 0 r11.1 r11.2) else bd (f_X2_readDigit (sP sc k f s cmds (nI (h + 1)))) (fun r13 => f_X2_readCommand_B126 (nI j) (nI (c p)) (nI a) 0 r13.1 r13.2))) = _
          have hh1 : h + 1 ≤ n := e1.1
          rw [if_neg (by decide), s_takesDigitLast _ c1, bd_s]
          by_cases el : las1 (c p) = true
          · rw [el, if_neg (show ¬ b2 true = 0 from by decide), if_pos rfl, s_readDigit t hh1]
            by_cases ed : dg c n (h + 1) = true
            · have hd := of_decide_eq_true ed
              have hc := (t4 _ hd.1).1
              rw [if_pos ed, if_pos ed, bd_s]
              unfold f_X2_readCommand_B126
              show (if nI (c (h + 1) - 48) = -1 then _ else f_X2_readCommand_B136 (nI j) (nI (c p)) (nI a) (nI (c (h + 1) - 48)) (sP sc k f s cmds (nI (h + 1 + 1)))) = _
              rw [if_neg (nI_m1 (by omega)), fin, nu, if_pos ed, nu, Nat.zero_mul, Nat.zero_add]
            · rw [if_neg ed, if_neg ed, bd_s]
              unfold f_X2_readCommand_B126
              show (if (-1 : Int32) = -1 then _ else _) = _
              rw [if_pos rfl]
          · rw [eq_false_of_ne_true el, if_pos b2_f, if_neg (show ¬ false = true from by decide), s_readNumber t hh1]
            by_cases ed : dg c n (h + 1) = true
            · rw [if_pos ed, if_pos ed, bd_s]
              have hb := nu_lt c n 3 0 (h + 1)
              unfold f_X2_readCommand_B126
              show (if nI (nu c n 3 0 (h + 1)).1 = -1 then _ else f_X2_readCommand_B136 (nI j) (nI (c p)) (nI a) (nI (nu c n 3 0 (h + 1)).1) (sP sc k f s cmds (nI (nu c n 3 0 (h + 1)).2))) = _
              rw [if_neg (nI_m1 (by omega)), fin]
            · rw [if_neg ed, if_neg ed, bd_s]
              unfold f_X2_readCommand_B126
              show (if (-1 : Int32) = -1 then _ else _) = _
              rw [if_pos rfl]
        · rw [if_neg e1, if_neg e1, bd_s]
          show (if (0 : Int32) = 0 then _ else _) = _
          rw [if_pos rfl]
      have p66n : ∀ h, f_X2_readCommand_B66 (nI j) (nI (c p)) (-1) (sP sc k f s cmds (nI h)) = some (0, sP sc k f s cmds (nI h)) := by
        intro h
        unfold f_X2_readCommand_B66
        rw [if_pos rfl]
      have p66 : ∀ a : Nat × Nat, a.1 < 2 ^ 30 → a.2 ≤ n → f_X2_readCommand_B66 (nI j) (nI (c p)) (nI a.1) (sP sc k f s cmds (nI a.2)) = match (if sec2 (c p) = true then
            match bhA c n (if c p = 83 then 44 else 58) (if las1 (c p) = true then 1 else 3) a.2 with
            | .inl q => .inl q
            | .inr b => .inr ((c p, a.1, b.1), b.2)
          else .inr ((c p, a.1, 0), a.2) : Nat ⊕ ((Nat × Nat × Nat) × Nat)) with
        | .inl q => some (0, sP sc k f s cmds (nI q))
        | .inr q => some (1, sP sc (upd k j (nI q.1.1)) (upd f j (nI q.1.2.1)) (upd s j (nI q.1.2.2)) cmds (nI q.2)) := by
        intro a ha ha2
        unfold f_X2_readCommand_B66
        rw [if_neg (nI_m1 (by omega)), s_hasSecond _ c1, bd_s]
        by_cases es : sec2 (c p) = true
        · rw [es, if_neg (show ¬ b2 true = 0 from by decide), if_pos rfl]
          have tail : ∀ sp, sp < 128 → f_X2_readCommand_B99 (nI j) (nI (c p)) (nI a.1) 0 (nI sp) (sP sc k f s cmds (nI a.2)) = match (match bhA c n sp (if las1 (c p) = true then 1 else 3) a.2 with
              | .inl q => .inl q
              | .inr b => .inr ((c p, a.1, b.1), b.2) : Nat ⊕ ((Nat × Nat × Nat) × Nat)) with
            | .inl q => some (0, sP sc k f s cmds (nI q))
            | .inr q => some (1, sP sc (upd k j (nI q.1.1)) (upd f j (nI q.1.2.1)) (upd s j (nI q.1.2.2)) cmds (nI q.2)) := by
            intro sp hs
            rw [p99 a.1 a.2 sp ha2 hs]
            cases bhA c n sp (if las1 (c p) = true then 1 else 3) a.2 <;> rfl
          by_cases e83 : c p = 83
          · rw [if_pos (show nI (c p) = (83 : Int32) from by rw [e83]; rfl), if_pos e83]
            exact tail 44 (by omega)
          · rw [if_neg (show ¬ nI (c p) = (83 : Int32) from fun q => e83 ((nI_eq (b := 83) (by omega) (by omega)).mp q)), if_neg e83]
            exact tail 58 (by omega)
        · rw [eq_false_of_ne_true es, if_pos b2_f, if_neg (show ¬ false = true from by decide)]
          exact fin a.1 0 a.2
      have hp1 : p + 1 ≤ n := e
      have ed' : (Sc_input (sP sc k f s cmds (nI p)), Sc_kinds (sP sc k f s cmds (nI p)), Sc_firsts (sP sc k f s cmds (nI p)), Sc_seconds (sP sc k f s cmds (nI p)), nI n, Sc_commands (sP sc k f s cmds (nI p)), nI p + 1) = sP sc k f s cmds (nI (p + 1)) := by
        rw [nI_1, ← q1]
        rfl
      rw [ed', cmdA, if_pos (show p < n ∧ isK (c p) = true from ⟨e, ek⟩)]
      by_cases e86 : c p = 86
      · rw [if_pos (show nI (c p) = (86 : Int32) from by rw [e86]; rfl), if_pos e86, s_readDigit t hp1]
        by_cases ed : dg c n (p + 1) = true
        · have hd := of_decide_eq_true ed
          have hc := (t4 _ hd.1).1
          have e1 : nu c n 1 0 (p + 1) = (c (p + 1) - 48, p + 1 + 1) := by rw [nu, if_pos ed, nu, Nat.zero_mul, Nat.zero_add]
          rw [if_pos ed, if_pos ed, bd_s, e1]
          exact p66 (c (p + 1) - 48, p + 1 + 1) (show c (p + 1) - 48 < 2 ^ 30 by omega) hd.1
        · rw [if_neg ed, if_neg ed, bd_s]
          exact p66n (p + 1)
      · rw [if_neg (show ¬ nI (c p) = (86 : Int32) from fun q => e86 ((nI_eq (b := 86) (by omega) (by omega)).mp q)), if_neg e86, s_readNumber t hp1]
        by_cases ed : dg c n (p + 1) = true
        · rw [if_pos ed, if_pos ed, bd_s]
          have hb := nu_lt c n 3 0 (p + 1)
          exact p66 (nu c n 3 0 (p + 1)) (by omega) (nu_up c n 2 (p + 1) ed).2
        · rw [if_neg ed, if_neg ed, bd_s]
          exact p66n (p + 1)
    · rw [eq_false_of_ne_true ek, if_pos b2_f, cmdA, if_neg (fun q => ek q.2)]
  · rw [if_pos (nI_le (by omega) (by omega)), cmdA, if_neg (fun q => e q.1)]
end SCR
