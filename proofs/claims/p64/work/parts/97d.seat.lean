/-! ===== the law: the seats' line ===== -/
def uS (L : List M5) (j : Nat) : List Nat := match L.find? (fun z => decide (mSt z = j + 1)) with
  | some z => digs (mPg z)
  | none => [45]
theorem uS_0 {L : List M5} {j : Nat} (h : ∀ z ∈ L, mSt z ≠ j + 1) : uS L j = [45] := by
  unfold uS
  rw [List.find?_eq_none.mpr fun z hz e => h z hz (of_decide_eq_true e)]
theorem uS_1 {x : XV} {L : List M5} {S : List Nat} {nid r : Nat} (hb : BK x L S nid r) {j : Nat} {z : M5} (hz : z ∈ L) (e : mSt z = j + 1) : uS L j = digs (mPg z) := by
  unfold uS
  cases h : L.find? (fun z => decide (mSt z = j + 1)) with
  | none =>
    have := List.find?_eq_none.mp h z hz
    exact absurd (decide_eq_true e) this
  | some y =>
    have hy := List.mem_of_find?_eq_some h
    have e2 : mSt y = j + 1 := of_decide_eq_true (List.find?_some (p := fun z => decide (mSt z = j + 1)) h)
    have : y = z := st_one hb.2.2.1 hy hz (by omega) (by omega)
    rw [this]
theorem uS_U {x : XV} {L : List M5} {S : List Nat} {nid r : Nat} (hb : BK x L S nid r) : SeatU x.2.1 L (uS L) := fun j hj => by
  obtain ⟨s, e, hf⟩ := s_slotInSeat hb.1 hb.2.2.1.bL (nI j)
  rcases hf with ⟨i, y, hi, hy, -, rfl⟩ | ⟨rfl, hno⟩
  · have hy5 := (hb.mk (mem_get hi)).2.2.2.2.1
    have ey : mSt y = j + 1 := (seat_st hy5 hj).1.mp hy
    exact Or.inr ⟨i, y, e, hi, uS_1 hb (mem_get hi) ey⟩
  · refine Or.inl ⟨e, uS_0 fun z hz q => ?_⟩
    exact absurd ((seat_st (hb.mk hz).2.2.2.2.1 hj).1.mpr q) (hno z hz)
theorem uS_le {x : XV} {L : List M5} {S : List Nat} {nid r : Nat} (hb : BK x L S nid r) {k : Nat} (hk : k ≤ 5) : (seatsT (uS L) k).length ≤ 15 := by
  have := seatsT_le (uS_U hb).le k hk
  omega
