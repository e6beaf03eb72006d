/-! ===== the seats' texts agree ===== -/
theorem seat_st {a j : Nat} (ha : a ≤ 5) (hj : j < 5) : (nI a - 1 = nI j ↔ a = j + 1) ∧ (nI a = nI j + 1 ↔ a = j + 1) := by
  constructor
  · constructor
    · intro h
      have t1 := nI_sub_toInt (a := a) (b := 1) (by omega) (by omega)
      have h' : nI a - nI 1 = nI j := h
      rw [h', nI_toInt (by omega)] at t1
      omega
    · intro h
      rw [h]
      exact nI_dn j
  · rw [nI_1]
    exact nI_eq (by omega) (by omega)
theorem seats_agree {v : BkV} {m : MdV} {L L' : List M5} {nid : Nat} (h1 : hM v L) (h2 : sM (Md_all m) L') (h3 : L.Perm L') (h5 : okL nid L) : ∃ u, SeatU v L u ∧ SeatM m L' u := by
  have b := h5.bL
  have b' := (h5.perm h3).bL
  have one : ∀ j, ∃ t : List Nat, j < 5 → ((f_X0_slotInSeat v (nI j) = some (-1) ∧ t = [45]) ∨ ∃ (i : Nat) (z : M5), f_X0_slotInSeat v (nI j) = some (nI i) ∧ L[i]? = some z ∧ t = digs (mPg z)) ∧ ∀ (o : Nat → Int32) (n : Int32), (∃ r : Int32, f_X4_inSeat (mO m o n) (nI j) = some r ∧ ¬ 0 ≤ r ∧ t = [45]) ∨ ∃ (i : Nat) (z : M5), f_X4_inSeat (mO m o n) (nI j) = some (nI i) ∧ L'[i]? = some z ∧ t = digs (mPg z) := by
    intro j
    by_cases hj : j < 5
    · obtain ⟨r, g1, g2⟩ := s_slotInSeat h1 b (nI j)
      rcases g2 with ⟨i, z, k1, k2, k3, k4⟩ | ⟨k1, k2⟩
      · have bz := (b.2 z (mem_get k1)).2.2.2.2
        have sz := (seat_st bz hj).1.mp k2
        refine ⟨digs (mPg z), fun _ => ⟨Or.inr ⟨i, z, by rw [g1, k4], k1, rfl⟩, fun o n => ?_⟩⟩
        obtain ⟨r', f1, f2⟩ := tm_inSeat (v := mO m o n) h2 b' (nI j)
        rcases f2 with ⟨i', z', m1, m2, m3, m4⟩ | ⟨m1, m2⟩
        · have bz' := (b'.2 z' (mem_get m1)).2.2.2.2
          have sz' := (seat_st bz' hj).2.mp m2
          have ez : z' = z := apart_eq h5.2.2.2 (h3.mem_iff.mpr (mem_get m1)) (mem_get k1) (fun q => q.2.2 (by omega) (by omega))
          exact Or.inr ⟨i', z', by rw [f1, m4], m1, by rw [ez]⟩
        · exact absurd ((seat_st bz hj).2.mpr sz) (m2 z (h3.mem_iff.mp (mem_get k1)))
      · refine ⟨[45], fun _ => ⟨Or.inl ⟨by rw [g1, k1], rfl⟩, fun o n => ?_⟩⟩
        obtain ⟨r', f1, f2⟩ := tm_inSeat (v := mO m o n) h2 b' (nI j)
        rcases f2 with ⟨i', z', m1, m2, m3, m4⟩ | ⟨m1, m2⟩
        · have bz' := (b'.2 z' (mem_get m1)).2.2.2.2
          have sz' := (seat_st bz' hj).2.mp m2
          exact absurd ((seat_st bz' hj).1.mpr sz') (k2 z' (h3.mem_iff.mpr (mem_get m1)))
        · exact Or.inl ⟨r', f1, by rw [m1]; decide, rfl⟩
    · exact ⟨[], fun h => absurd h hj⟩
  obtain ⟨u, hu⟩ := Classical.axiomOfChoice one
  exact ⟨u, fun j hj => (hu j hj).1, fun j hj => (hu j hj).2⟩
