/-! ===== the model writes ===== -/
def mO (m : MdV) (o : Nat → Int32) (n : Int32) : MdV := (Md_all m, o, Md_input m, Md_commands m, Md_thrown m, Md_changes m, Md_isSaved m, Md_result m, Md_why m, Md_detail m, Md_cause m, n, Md_typed m, Md_here m, Md_error m, Md_errorAt m, Md_commandMany m)
def OT (o : Nat → Int32) (T : List Nat) : Prop := ∀ (i c : Nat), T[i]? = some c → o i = nI c ∧ c < 128
theorem OT.snoc {o : Nat → Int32} {T : List Nat} {k : Nat} (h : OT o T) (hk : k < 128) : OT (upd o T.length (nI k)) (T ++ [k]) := fun i c hi => by
  by_cases e : i < T.length
  · rw [List.getElem?_append_left e] at hi
    rw [pk_un (by omega)]
    exact h i c hi
  · have hl := lt_get hi
    rw [List.length_append] at hl
    have e2 : i = T.length := by
      simp only [List.length_cons, List.length_nil] at hl
      omega
    subst e2
    rw [List.getElem?_append_right (Nat.le_refl _), Nat.sub_self] at hi
    cases hi
    exact ⟨pk_us, hk⟩
theorem nar_i2c {k : Nat} (h : k < 128) : vp_nar .char ((Int32.toUInt32 (nI k) % 65536).toInt32) = nI k := by
  have key : ∀ c : Fin 128, vp_nar .char ((Int32.toUInt32 (nI c.val) % 65536).toInt32) = nI c.val := by decide +kernel
  exact key ⟨k, h⟩
theorem tm_writes {m : MdV} {o : Nat → Int32} {T : List Nat} {k : Nat} (hT : OT o T) (hl : T.length < 120) (hk : k < 128) : ∃ o', f_X4_writes (mO m o (nI T.length)) (nI k) = some (0, mO m o' (nI (T ++ [k]).length)) ∧ OT o' (T ++ [k]) := by
  refine ⟨_, ?_, hT.snoc hk⟩
  unfold f_X4_writes
  have e : Md_outputSize (mO m o (nI T.length)) = nI T.length := rfl
  rw [e, gd_n hl (by decide), cl_n (by omega), nar_i2c hk, nI_1, List.length_append]
  rfl
theorem rem10 {v : Nat} (h : v < 100) : (48 : Int32) + (nI v - nI v / 10 * 10) = nI (48 + v % 10) := by
  have e1 : nI v / 10 = nI (v / 10) := pk_div (d := 10) (by omega) (by omega) (by omega)
  rw [e1, show nI (v / 10) * 10 = nI (v / 10 * 10) from pk_mul (v / 10) 10, pk_sub (by omega), show (48 : Int32) + nI (v - v / 10 * 10) = nI (48 + (v - v / 10 * 10)) from nI_add 48 _]
  congr 1
  omega
theorem tm_wn14 {m : MdV} {o : Nat → Int32} {T : List Nat} {v : Nat} (hT : OT o T) (hl : T.length < 120) (hv : v < 100) : ∃ o', f_X4_writesNumber_B14 (nI v) (mO m o (nI T.length)) = some (0, mO m o' (nI (T ++ [48 + v % 10]).length)) ∧ OT o' (T ++ [48 + v % 10]) := by
  obtain ⟨o', g1, g2⟩ := tm_writes (m := m) (k := 48 + v % 10) hT hl (by omega)
  refine ⟨o', ?_, g2⟩
  unfold f_X4_writesNumber_B14
  rw [rem10 hv, g1, bd_s]
theorem tm_writesNumber {m : MdV} {o : Nat → Int32} {T : List Nat} {v : Nat} (hT : OT o T) (hl : T.length + 1 < 120) (hv : v < 100) : ∃ o', f_X4_writesNumber 3 (mO m o (nI T.length)) (nI v) = some (0, mO m o' (nI (T ++ digs v).length)) ∧ OT o' (T ++ digs v) := by
  by_cases h : v < 10
  · obtain ⟨o', g1, g2⟩ := tm_wn14 (m := m) hT (by omega) hv
    rw [Nat.mod_eq_of_lt h] at g1 g2
    refine ⟨o', ?_, ?_⟩
    · rw [f_X4_writesNumber, if_pos (show nI v ≤ (9 : Int32) from nI_le (b := 9) (by omega) (by decide)), g1, digs, if_pos h]
    · rw [digs, if_pos h]
      exact g2
  · obtain ⟨o1, g1, g2⟩ := tm_wn14 (m := m) (v := v / 10) hT (by omega) (by omega)
    rw [Nat.mod_eq_of_lt (show v / 10 < 10 by omega)] at g1 g2
    obtain ⟨o2, g3, g4⟩ := tm_wn14 (m := m) (v := v) g2 (by rw [List.length_append]; simp only [List.length_cons, List.length_nil]; omega) hv
    have el : T ++ [48 + v / 10] ++ [48 + v % 10] = T ++ digs v := by
      rw [digs, if_neg h, List.append_assoc]
      rfl
    rw [el] at g3 g4
    refine ⟨o2, ?_, g4⟩
    have e1 : nI v / 10 = nI (v / 10) := pk_div (d := 10) (by omega) (by omega) (by omega)
    rw [f_X4_writesNumber, if_neg (show ¬ nI v ≤ (9 : Int32) from nI_ge (a := 9) (by omega) (by omega)), e1, f_X4_writesNumber, if_pos (show nI (v / 10) ≤ (9 : Int32) from nI_le (b := 9) (by omega) (by decide)), g1, bd_s]
    exact g3
