/-! ===== the law: next, previous, nearest ===== -/
theorem Nx.top {L : List M5} (h : ∀ z ∈ L, mPg z < 60) : Nx L 60 (-30000) := Or.inr ⟨fun y hy q => by have := ok0.mp q; have := h y hy; omega, rfl⟩
theorem Fa.top {L : List M5} {r : Nat} (h : ∀ z ∈ L, mPg z < 60) : Fa L r 60 (-30000) := Or.inr ⟨fun y hy q => by have := ok0.mp q; have := h y hy; omega, rfl⟩
theorem Nx.ex {L : List M5} (h : ∀ z ∈ L, mPg z < 60) : ∀ d p, p + d = 60 → ∃ v, Nx L p v
  | 0, p, hp => ⟨-30000, by rw [show p = 60 by omega]; exact Nx.top h⟩
  | d + 1, p, hp => by
    obtain ⟨v, hv⟩ := Nx.ex h d (p + 1) (by omega)
    by_cases hno : ∀ z ∈ L, mPg z ≠ p
    · exact ⟨v, hv.no hno⟩
    · obtain ⟨z, hz, hp2⟩ : ∃ z ∈ L, mPg z = p := Classical.byContradiction fun q => hno fun z hz e => q ⟨z, hz, e⟩
      exact ⟨_, Nx.yes hz hp2⟩
theorem Pv.prev {L : List M5} {p : Nat} {v : Int32} (h : Pv L (p + 1) v) : (∃ y, nrs L 1 p y ∧ v = nI (mId y)) ∨ ((∀ y ∈ L, ¬ okSd 1 p (mPg y)) ∧ v = -30000) := by
  rcases h with ⟨z, h1, h2, h3, e⟩ | ⟨h, e⟩
  · exact Or.inl ⟨z, nrs1.mpr ⟨h1, by omega, fun y hy hp => h3 y hy (by omega)⟩, e⟩
  · refine Or.inr ⟨fun y hy q => ?_, e⟩
    have := ok1.mp q
    have := h y hy
    omega
theorem dst_ge {p q : Nat} (h : p ≤ q) : dst p q = q - p := by
  unfold dst
  rw [if_neg (by omega)]
theorem dst_le {p q : Nat} (h : q ≤ p) : dst p q = p - q := by
  unfold dst
  by_cases e : q < p
  · rw [if_pos e]
  · rw [if_neg e]
    omega
theorem near_n {L : List M5} {p : Nat} {z : M5} (hz : nrs L 0 p z) (hn : ∀ y ∈ L, ¬ okSd 1 p (mPg y)) : nrs L 2 p z := by
  obtain ⟨h1, h2, h3⟩ := nrs0.mp hz
  refine near_of h1 fun y hy => ?_
  have q : ¬ mPg y ≤ p := fun q => hn y hy (ok1.mpr q)
  have := h3 y hy (by omega)
  rw [dst_ge h2, dst_ge (show p ≤ mPg y by omega)]
  omega
theorem near_p {L : List M5} {p : Nat} {z : M5} (hz : nrs L 1 p z) (hn : ∀ y ∈ L, ¬ okSd 0 p (mPg y)) : nrs L 2 p z := by
  obtain ⟨h1, h2, h3⟩ := nrs1.mp hz
  refine near_of h1 fun y hy => ?_
  have q : ¬ p ≤ mPg y := fun q => hn y hy (ok0.mpr q)
  have := h3 y hy (by omega)
  rw [dst_le h2, dst_le (show mPg y ≤ p by omega)]
  omega
theorem near_0 {L : List M5} {p : Nat} (h0 : ∀ y ∈ L, ¬ okSd 0 p (mPg y)) (h1 : ∀ y ∈ L, ¬ okSd 1 p (mPg y)) : ∀ y ∈ L, ¬ okSd 2 p (mPg y) := fun y hy _ => by
  rcases Nat.le_total p (mPg y) with h | h
  · exact h0 y hy (ok0.mpr h)
  · exact h1 y hy (ok1.mpr h)
theorem near_1 {L : List M5} {p : Nat} {y z : M5} (hy : nrs L 1 p y) (hz : nrs L 0 p z) (h : mPg z - p < p - mPg y) : nrs L 2 p z := by
  obtain ⟨h1, h2, h3⟩ := nrs0.mp hz
  obtain ⟨g1, g2, g3⟩ := nrs1.mp hy
  refine near_of h1 fun w hw => ?_
  rcases Nat.le_total p (mPg w) with q | q
  · have := h3 w hw q
    rw [dst_ge h2, dst_ge q]
    omega
  · have := g3 w hw q
    rw [dst_ge h2, dst_le q]
    omega
theorem near_2 {L : List M5} {p : Nat} {y z : M5} (hy : nrs L 1 p y) (hz : nrs L 0 p z) (h : p - mPg y ≤ mPg z - p) : nrs L 2 p y := by
  obtain ⟨h1, h2, h3⟩ := nrs0.mp hz
  obtain ⟨g1, g2, g3⟩ := nrs1.mp hy
  refine near_of g1 fun w hw => ?_
  rcases Nat.le_total p (mPg w) with q | q
  · have := h3 w hw q
    rw [dst_le g2, dst_ge q]
    omega
  · have := g3 w hw q
    rw [dst_le g2, dst_le q]
    omega
