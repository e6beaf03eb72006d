/-! ===== the law: ways ahead, ways back ===== -/
section WAYS
variable {a b c : Nat} (ha : a < 2 ^ 29) (hb : b < 2 ^ 29) (hc : c < 2 ^ 29)
theorem wy_le (ha : a < 2 ^ 29) (hb : b < 2 ^ 29) : nI a - nI b ≤ (0 : Int32) ↔ a ≤ b := by
  rw [Int32.le_iff_toInt_le, pk_sub_toInt (by omega) (by omega), show (0 : Int32).toInt = 0 from rfl]
  omega
theorem wy_ge (ha : a < 2 ^ 29) (hb : b < 2 ^ 29) : (0 : Int32) ≤ nI a - nI b ↔ b ≤ a := by
  rw [Int32.le_iff_toInt_le, pk_sub_toInt (by omega) (by omega), show (0 : Int32).toInt = 0 from rfl]
  omega
theorem wy_lt (ha : a < 2 ^ 29) (hb : b < 2 ^ 29) : nI a - nI b < (0 : Int32) ↔ a < b := by
  rw [Int32.lt_iff_toInt_lt, pk_sub_toInt (by omega) (by omega), show (0 : Int32).toInt = 0 from rfl]
  omega
theorem wy_ne (ha : a < 2 ^ 29) (hb : b < 2 ^ 29) : nI a - nI b = (0 : Int32) ↔ a = b := by
  rw [← Int32.toInt_inj, pk_sub_toInt (by omega) (by omega), show (0 : Int32).toInt = 0 from rfl]
  omega
theorem wy_gt (ha : a < 2 ^ 29) (hb : b < 2 ^ 29) (hc : c < 2 ^ 29) : nI c < nI a - nI b ↔ b + c < a := by
  rw [Int32.lt_iff_toInt_lt, pk_sub_toInt (by omega) (by omega), nI_toInt (by omega)]
  omega
theorem wy_gtn (ha : a < 2 ^ 29) (hb : b < 2 ^ 29) (hc : c < 2 ^ 29) : nI c < -(nI a - nI b) ↔ a + c < b := by
  rw [Int32.neg_sub]
  exact wy_gt hb ha hc
end WAYS
theorem rk1_no {r cnt : Nat} {z : M5} (h : ¬ (2 ≤ mWr z ∧ r < mPg z ∧ mPg z ≤ r + cnt)) : rk1 r cnt z = 0 := if_neg h
theorem rk1_yes {r cnt : Nat} {z : M5} (h : 2 ≤ mWr z ∧ r < mPg z ∧ mPg z ≤ r + cnt) : rk1 r cnt z = 1 := if_pos h
theorem rk0_no {r cnt : Nat} {z : M5} (h : ¬ (2 ≤ mWr z ∧ mPg z < r ∧ r ≤ mPg z + cnt)) : rk0 r cnt z = 0 := if_neg h
theorem rk0_yes {r cnt : Nat} {z : M5} (h : 2 ≤ mWr z ∧ mPg z < r ∧ r ≤ mPg z + cnt) : rk0 r cnt z = 1 := if_pos h
