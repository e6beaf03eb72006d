/-! ===== the start: both sides new ===== -/
theorem rb0 : RB 0 bk0 (Md_all md0) := by
  refine ⟨[], [], [0], 0, 0, ⟨rfl, fun i m h => by cases h⟩, ⟨rfl, fun i m h => by cases h⟩, List.Perm.refl _, List.Pairwise.nil, ⟨by decide, by decide, fun m h => (List.not_mem_nil h).elim, List.Pairwise.nil⟩, ⟨rfl, fun k p h => ?_⟩, ⟨rfl, fun k p h => ?_⟩, ⟨⟨by decide, by decide, fun p h => ?_⟩, rfl, fun j k h1 h2 => ?_⟩, ⟨by decide, rfl, rfl⟩, ⟨rfl, rfl, Nat.le_refl _⟩, rfl, rfl, rfl, ⟨0, 0, rfl, rfl, Nat.le_refl _, Nat.le_refl _⟩⟩
  · have hk := lt_get h
    have e : k = 0 := by
      simp only [List.length_cons, List.length_nil] at hk
      omega
    subst e
    cases h
    rfl
  · have hk := lt_get h
    have e : k = 0 := by
      simp only [List.length_cons, List.length_nil] at hk
      omega
    subst e
    cases h
    rfl
  · rcases List.mem_cons.mp h with rfl | h
    · decide
    · exact (List.not_mem_nil h).elim
  · simp only [List.length_cons, List.length_nil] at h2
    omega
theorem rx0 : RX 0 x0 md0 := by
  refine ⟨rb0, ⟨0, 0, by decide, by decide, rfl, rfl, rfl, fun s h1 h2 => by omega⟩, ⟨false, rfl, rfl, fun h => by cases h⟩, ⟨rfl, rfl, rfl, ⟨fun h => absurd (show (0 : Int32) = 10 from h) (by decide), fun h => absurd rfl h⟩⟩, rfl, ⟨0, by decide, rfl, rfl, fun i h => absurd h (Nat.not_lt_zero _)⟩, ⟨0, by decide, by decide, Or.inl rfl, by decide, rfl, fun i => ?_, rfl, rfl, fun i h => absurd h (Nat.not_lt_zero _)⟩⟩
  exact (by decide : fits FieldType.byte (Value.int (0 : Int32)) = true)
