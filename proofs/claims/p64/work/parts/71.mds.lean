/-! ===== the model writes the seats ===== -/
def SeatM (a : MdV) (L : List M5) (u : Nat → List Nat) : Prop := ∀ j, j < 5 → ∀ (o : Nat → Int32) (n : Int32), (∃ r : Int32, f_X4_inSeat (mO a o n) (nI j) = some r ∧ ¬ 0 ≤ r ∧ u j = [45]) ∨ ∃ (i : Nat) (z : M5), f_X4_inSeat (mO a o n) (nI j) = some (nI i) ∧ L[i]? = some z ∧ u j = digs (mPg z)
theorem tm_writeSeats {m : MdV} {L : List M5} {u : Nat → List Nat} (h2 : sM (Md_all m) L) (b : bL L) (hu : SeatM m L u) (hle : ∀ k, k ≤ 5 → (seatsT u k).length ≤ 3 * k) : ∃ o', f_X4_writeSeats_L12 100 0 (mO m (Md_output m) 0) = some (nI (seatsT u 5).length, mO m o' (nI (seatsT u 5).length)) ∧ OT o' (seatsT u 5) := by
  have key : ∀ d k n o, k + d = 5 → d < n → OT o (seatsT u k) → ∃ o', f_X4_writeSeats_L12 n (nI k) (mO m o (nI (seatsT u k).length)) = some (nI (seatsT u 5).length, mO m o' (nI (seatsT u 5).length)) ∧ OT o' (seatsT u 5) := by
    intro d
    induction d with
    | zero =>
      intro k n o hk hn hT
      obtain ⟨n, rfl⟩ : ∃ z, n = z + 1 := ⟨n - 1, by omega⟩
      have e : k = 5 := by omega
      subst e
      refine ⟨o, ?_, hT⟩
      rw [f_X4_writeSeats_L12, if_pos (show (5 : Int32) ≤ nI 5 from Int32.le_refl _)]
      rfl
    | succ d ih =>
      intro k n o hk hn hT
      obtain ⟨n, rfl⟩ : ∃ z, n = z + 1 := ⟨n - 1, by omega⟩
      have hlk := hle k (by omega)
      have hb27 : ∀ o T, OT o T → T.length ≤ 3 * k + 1 → T = seatsT u k ++ (if k = 0 then [] else [44]) → ∃ o', f_X4_writeSeats_B27 (f_X4_writeSeats_L12 n) (nI k) (mO m o (nI T.length)) = some (nI (seatsT u 5).length, mO m o' (nI (seatsT u 5).length)) ∧ OT o' (seatsT u 5) := by
        intro o T hT hl hTe
        have es : seatsT u (k + 1) = T ++ u k := by rw [seatsT, hTe]
        unfold f_X4_writeSeats_B27 f_X4_writeSeats_B58
        rcases hu k (by omega) o (nI T.length) with ⟨r, a1, a2, a3⟩ | ⟨i, z, a1, a2, a3⟩
        · obtain ⟨o1, g1, g2⟩ := tm_writes (m := m) (k := 45) hT (by omega) (by omega)
          have g1' : f_X4_writes (mO m o (nI T.length)) 45 = _ := g1
          rw [a1, bd_s, if_neg a2, g1', bd_s, nI_1]
          rw [← a3, ← es] at g2
          rw [← a3, ← es]
          exact ih (k + 1) n o1 (by omega) (by omega) g2
        · have hz := b.2 z (mem_get a2)
          have hi := lt_get a2
          have hl12 := b.1
          obtain ⟨o1, g1, g2⟩ := tm_writesNumber (m := m) (v := mPg z) hT (by omega) (by omega)
          rw [a1, bd_s, if_pos (nI_pos' (by omega)), bd_s, tm_pg (v := mO m o (nI T.length)) h2 b a2, bd_s, g1, bd_s, nI_1]
          rw [← a3, ← es] at g2
          rw [← a3, ← es]
          exact ih (k + 1) n o1 (by omega) (by omega) g2
      rw [f_X4_writeSeats_L12, if_neg (show ¬ (5 : Int32) ≤ nI k from nI_ge (b := 5) (by omega) (by decide))]
      by_cases e0 : k = 0
      · rw [if_pos ((nI_le0 (by omega)).mpr e0)]
        have es0 : seatsT u k = seatsT u k ++ (if k = 0 then [] else [44]) := by rw [if_pos e0, List.append_nil]
        exact hb27 o (seatsT u k) hT (by omega) es0
      · rw [if_neg (fun q => e0 ((nI_le0 (by omega)).mp q))]
        obtain ⟨o1, g1, g2⟩ := tm_writes (m := m) (k := 44) hT (by omega) (by omega)
        have g1' : f_X4_writes (mO m o (nI (seatsT u k).length)) 44 = _ := g1
        rw [g1', bd_s]
        exact hb27 o1 (seatsT u k ++ [44]) g2 (by rw [List.length_append]; simp only [List.length_cons, List.length_nil]; omega) (by rw [if_neg e0])
  exact key 5 0 100 (Md_output m) rfl (by omega) (fun i c hi => by cases hi)
