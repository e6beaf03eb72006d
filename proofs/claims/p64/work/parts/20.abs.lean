/-! ===== layer B: plain numbers ===== -/
theorem cl_n {n : Nat} (h : n < 2 ^ 31) : cl (nI n) = n := nI_clamp h
theorem gd_n {α : Type} {x : Option α} {n N : Nat} (h : n < N) (hN : N < 2 ^ 31) : gd (inb (nI n) N) x = x := gd_t (inb_of (vp_in_nI h hN))
def b2 (b : Bool) : Int32 := if b = true then 1 else 0
theorem b2_t : b2 true = 1 := rfl
theorem b2_f : b2 false = 0 := rfl
theorem b2_0 {b : Bool} : b2 b = 0 ↔ b = false := by cases b <;> decide
theorem isz_b2 (b : Bool) : isz (b2 b) = true := by cases b <;> decide
theorem gd_z {α : Type} {x : Option α} (b : Bool) : gd (isz (b2 b)) x = x := gd_t (isz_b2 b)
theorem gd_z0 {α : Type} {x : Option α} : gd (isz (0 : Int32)) x = x := gd_t (by decide)
theorem gd_z1 {α : Type} {x : Option α} : gd (isz (1 : Int32)) x = x := gd_t (by decide)
theorem bd_s {α β : Type} {a : α} {k : α → Option β} : bd (some a) k = k a := rfl
theorem nI_m1 {j : Nat} (h : j < 2 ^ 31) : ¬ nI j = (-1 : Int32) := by
  intro e
  have h1 := nI_toInt h
  rw [e] at h1
  have h2 : (-1 : Int32).toInt = -1 := by decide
  omega
theorem nI_dn (j : Nat) : nI (j + 1) - 1 = nI j := nI_pred j
theorem add_m1 (x : Int32) : x + (-1 : Int32) = x - 1 := by rw [Int32.sub_eq_add_neg]
theorem nI_dn1 (j : Nat) : nI (j + 1) + (-1 : Int32) = nI j := by rw [add_m1, nI_dn]
theorem nI_00 : (nI 0 - 1 : Int32) < 0 := by decide
theorem nI_sub_toInt {a b : Nat} (ha : a < 2 ^ 30) (hb : b < 2 ^ 30) : (nI a - nI b).toInt = (a : Int) - b := pk_sub_toInt ha hb
theorem lt_get {α : Type} {L : List α} {i : Nat} {m : α} (h : L[i]? = some m) : i < L.length := (List.getElem?_eq_some_iff.mp h).1
theorem mem_get {α : Type} {L : List α} {i : Nat} {m : α} (h : L[i]? = some m) : m ∈ L := List.mem_of_getElem? h
/-! marks: id, page, weight, wear, seat and 1 (0: a dog ear) -/
abbrev M5 : Type := Nat × Nat × Nat × Nat × Nat
abbrev mId (m : M5) : Nat := m.1
abbrev mPg (m : M5) : Nat := m.2.1
abbrev mWt (m : M5) : Nat := m.2.2.1
abbrev mWr (m : M5) : Nat := m.2.2.2.1
abbrev mSt (m : M5) : Nat := m.2.2.2.2
def rB (v : BkV) (i : Nat) (m : M5) : Prop := Bk_ids v i = nI (mId m) ∧ Bk_pages v i = nI (mPg m) ∧ Bk_weights v i = nI (mWt m) ∧ Bk_wears v i = nI (mWr m) ∧ Bk_seats v i = nI (mSt m) - 1
/-- the book holds these marks; these chapters' starts -/
def hM (v : BkV) (L : List M5) : Prop := Bk_marks v = nI L.length ∧ ∀ (i : Nat) (m : M5), L[i]? = some m → rB v i m
def hC (v : BkV) (S : List Nat) : Prop := Bk_chapters v = nI S.length ∧ ∀ (k p : Nat), S[k]? = some p → Bk_starts v k = nI p
/-- the row of the model holds them -/
def rS (a : Nat → Int32) (k : Nat) (m : M5) : Prop := a (15 + 5 * k) = nI (mId m) ∧ a (15 + 5 * k + 1) = nI (mPg m) ∧ a (15 + 5 * k + 2) = nI (mWt m) ∧ a (15 + 5 * k + 3) = nI (mSt m) ∧ a (15 + 5 * k + 4) = nI (mWr m)
def sM (a : Nat → Int32) (L : List M5) : Prop := a 0 = nI L.length ∧ ∀ (k : Nat) (m : M5), L[k]? = some m → rS a k m
def sC (a : Nat → Int32) (S : List Nat) : Prop := a 2 = nI S.length ∧ ∀ (k p : Nat), S[k]? = some p → a (7 + k) = nI p
/-- bounds -/
def bL (L : List M5) : Prop := L.length ≤ 12 ∧ ∀ m ∈ L, mId m < 2 ^ 29 ∧ mPg m < 60 ∧ mWt m ≤ 9 ∧ mWr m ≤ 3 ∧ mSt m ≤ 5
def bS (S : List Nat) : Prop := S.length ≤ 8 ∧ 1 ≤ S.length ∧ ∀ p ∈ S, p < 60
/-! ===== loops ===== -/
/-- what a search over a list finds: the first that is so -/
def Fnd {α : Type} (L : List α) (q : α → Prop) (r : Int32) : Prop :=
  (∃ (j : Nat) (m : α), L[j]? = some m ∧ q m ∧ (∀ (i : Nat) (z : α), i < j → L[i]? = some z → ¬ q z) ∧ r = nI j) ∨ (r = -1 ∧ ∀ m ∈ L, ¬ q m)
theorem fnd_up {α : Type} {F : Nat → Int32 → Option Int32} {L : List α} {q : α → Prop} (hE : ∀ n, F (n + 1) (nI L.length) = some (-1)) (hY : ∀ n i m, L[i]? = some m → q m → F (n + 1) (nI i) = some (nI i)) (hN : ∀ n i m, L[i]? = some m → ¬ q m → F (n + 1) (nI i) = F n (nI (i + 1))) :
    ∀ k i n, i + k = L.length → k < n → (∀ (j : Nat) (z : α), j < i → L[j]? = some z → ¬ q z) → ∃ r, F n (nI i) = some r ∧ Fnd L q r := by
  intro k
  induction k with
  | zero =>
    intro i n h hn hb
    obtain ⟨n, rfl⟩ : ∃ z, n = z + 1 := ⟨n - 1, by omega⟩
    have e : i = L.length := by omega
    refine ⟨-1, by rw [e]; exact hE n, Or.inr ⟨rfl, fun m hm => ?_⟩⟩
    obtain ⟨j, hj⟩ := List.getElem?_of_mem hm
    exact hb j m (by have := lt_get hj; omega) hj
  | succ k ih =>
    intro i n h hn hb
    obtain ⟨n, rfl⟩ : ∃ z, n = z + 1 := ⟨n - 1, by omega⟩
    obtain ⟨m, hm⟩ : ∃ m, L[i]? = some m := ⟨L[i]'(by omega), List.getElem?_eq_getElem _⟩
    by_cases hq : q m
    · exact ⟨nI i, hY n i m hm hq, Or.inl ⟨i, m, hm, hq, hb, rfl⟩⟩
    · rw [hN n i m hm hq]
      refine ih (i + 1) n (by omega) (by omega) fun j z hj hz => ?_
      by_cases e : j = i
      · rw [e, hm] at hz
        cases hz
        exact hq
      · exact hb j z (by omega) hz
theorem fndL {α : Type} {F : Nat → Int32 → Option Int32} {L : List α} {q : α → Prop} (hl : L.length ≤ 60) (hE : ∀ n, F (n + 1) (nI L.length) = some (-1)) (hY : ∀ n i m, L[i]? = some m → q m → F (n + 1) (nI i) = some (nI i)) (hN : ∀ n i m, L[i]? = some m → ¬ q m → F (n + 1) (nI i) = F n (nI (i + 1))) : ∃ r, F 100 (nI 0) = some r ∧ Fnd L q r :=
  fnd_up hE hY hN L.length 0 100 (by omega) (by omega) (fun j z hj => absurd hj (Nat.not_lt_zero _))
/-- the last that is so -/
def Fdn {α : Type} (L : List α) (q : α → Prop) (r : Int32) : Prop :=
  (∃ (j : Nat) (m : α), L[j]? = some m ∧ q m ∧ (∀ (i : Nat) (z : α), j < i → L[i]? = some z → ¬ q z) ∧ r = nI j) ∨ (r = -1 ∧ ∀ m ∈ L, ¬ q m)
theorem fnd_dn {α : Type} {F : Nat → Int32 → Option Int32} {L : List α} {q : α → Prop} (hE : ∀ n, F (n + 1) (nI 0 - 1) = some (-1)) (hY : ∀ n i m, L[i]? = some m → q m → F (n + 1) (nI i) = some (nI i)) (hN : ∀ n i m, L[i]? = some m → ¬ q m → F (n + 1) (nI i) = F n (nI i - 1)) :
    ∀ k n, k ≤ L.length → k < n → (∀ (j : Nat) (z : α), k ≤ j → L[j]? = some z → ¬ q z) → ∃ r, F n (nI k - 1) = some r ∧ Fdn L q r := by
  intro k
  induction k with
  | zero =>
    intro n h hn hb
    obtain ⟨n, rfl⟩ : ∃ z, n = z + 1 := ⟨n - 1, by omega⟩
    refine ⟨-1, hE n, Or.inr ⟨rfl, fun m hm => ?_⟩⟩
    obtain ⟨j, hj⟩ := List.getElem?_of_mem hm
    exact hb j m (Nat.zero_le _) hj
  | succ k ih =>
    intro n h hn hb
    obtain ⟨n, rfl⟩ : ∃ z, n = z + 1 := ⟨n - 1, by omega⟩
    obtain ⟨m, hm⟩ : ∃ m, L[k]? = some m := ⟨L[k]'(by omega), List.getElem?_eq_getElem _⟩
    rw [nI_dn]
    by_cases hq : q m
    · exact ⟨nI k, hY n k m hm hq, Or.inl ⟨k, m, hm, hq, fun i z hi hz => hb i z (by omega) hz, rfl⟩⟩
    · rw [hN n k m hm hq]
      refine ih n (by omega) (by omega) fun j z hj hz => ?_
      by_cases e : j = k
      · rw [e, hm] at hz
        cases hz
        exact hq
      · exact hb j z (by omega) hz
theorem fndD {α : Type} {F : Nat → Int32 → Option Int32} {L : List α} {q : α → Prop} (hl : L.length ≤ 60) (hE : ∀ n, F (n + 1) (nI 0 - 1) = some (-1)) (hY : ∀ n i m, L[i]? = some m → q m → F (n + 1) (nI i) = some (nI i)) (hN : ∀ n i m, L[i]? = some m → ¬ q m → F (n + 1) (nI i) = F n (nI i - 1)) : ∃ r, F 100 (nI L.length - 1) = some r ∧ Fdn L q r :=
  fnd_dn hE hY hN L.length 100 (Nat.le_refl _) (by omega) (fun j z hj hz => by have := lt_get hz; omega)
/-- a sum over a list -/
theorem sum_up {α : Type} {F : Nat → Int32 → Int32 → Option Int32} {L : List α} {w : α → Nat} (hE : ∀ n a, F (n + 1) (nI a) (nI L.length) = some (nI a)) (hF : ∀ n a i m, L[i]? = some m → F (n + 1) (nI a) (nI i) = F n (nI (a + w m)) (nI (i + 1))) :
    ∀ k i n a, i + k = L.length → k < n → F n (nI a) (nI i) = some (nI (a + ((L.drop i).map w).sum)) := by
  intro k
  induction k with
  | zero =>
    intro i n a h hn
    obtain ⟨n, rfl⟩ : ∃ z, n = z + 1 := ⟨n - 1, by omega⟩
    have e : i = L.length := by omega
    subst e
    rw [hE, List.drop_length]
    rfl
  | succ k ih =>
    intro i n a h hn
    obtain ⟨n, rfl⟩ : ∃ z, n = z + 1 := ⟨n - 1, by omega⟩
    have hi : i < L.length := by omega
    rw [hF n a i L[i] (List.getElem?_eq_getElem hi), ih (i + 1) n _ (by omega) (by omega), List.drop_eq_getElem_cons hi, List.map_cons, List.sum_cons, Nat.add_assoc]
theorem sumL {α : Type} {F : Nat → Int32 → Int32 → Option Int32} {L : List α} {w : α → Nat} (hl : L.length ≤ 60) (hE : ∀ n a, F (n + 1) (nI a) (nI L.length) = some (nI a)) (hF : ∀ n a i m, L[i]? = some m → F (n + 1) (nI a) (nI i) = F n (nI (a + w m)) (nI (i + 1))) : F 100 (nI 0) (nI 0) = some (nI (L.map w).sum) := by
  have h := sum_up hE hF L.length 0 100 0 (by omega) (by omega)
  rw [List.drop_zero, Nat.zero_add] at h
  exact h
/-- all of a list -/
theorem all_up {α : Type} {F : Nat → Int32 → Option Int32} {L : List α} (r : Int32) (hE : ∀ n, F (n + 1) (nI L.length) = some r) (hF : ∀ n i m, L[i]? = some m → F (n + 1) (nI i) = F n (nI (i + 1))) :
    ∀ k i n, i + k = L.length → k < n → F n (nI i) = some r := by
  intro k
  induction k with
  | zero =>
    intro i n h hn
    obtain ⟨n, rfl⟩ : ∃ z, n = z + 1 := ⟨n - 1, by omega⟩
    have e : i = L.length := by omega
    subst e
    exact hE n
  | succ k ih =>
    intro i n h hn
    obtain ⟨n, rfl⟩ : ∃ z, n = z + 1 := ⟨n - 1, by omega⟩
    have hi : i < L.length := by omega
    rw [hF n i L[i] (List.getElem?_eq_getElem hi)]
    exact ih (i + 1) n (by omega) (by omega)
/-! chapters -/
def chN (S : List Nat) (p : Nat) : Nat → Nat
  | 0 => 0
  | c + 1 => if S.getD c 0 ≤ p then c else chN S p c
def chOf (S : List Nat) (p : Nat) : Nat := chN S p S.length
def inCh (S : List Nat) (k p : Nat) : Bool := decide (S.getD k 0 ≤ p) && decide (k + 1 < S.length → p < S.getD (k + 1) 0)
def endOf (S : List Nat) (k : Nat) : Nat := if k + 1 < S.length then S.getD (k + 1) 0 - 1 else 59
theorem getD_get {S : List Nat} {k p : Nat} (h : S[k]? = some p) : S.getD k 0 = p := by rw [List.getD_eq_getElem?_getD, h]; rfl
theorem get_getD {S : List Nat} {k : Nat} (h : k < S.length) : S[k]? = some (S.getD k 0) := by
  rw [List.getD_eq_getElem?_getD, List.getElem?_eq_getElem h]
  rfl
theorem getD_lt {S : List Nat} (hS : bS S) {k : Nat} (h : k < S.length) : S.getD k 0 < 60 := hS.2.2 _ (mem_get (get_getD h))
theorem chN_lt (S : List Nat) (p : Nat) : ∀ c, chN S p (c + 1) < c + 1
  | 0 => by
    rw [chN]
    split
    · exact Nat.zero_lt_one
    · exact Nat.zero_lt_one
  | c + 1 => by
    rw [chN]
    split
    · exact Nat.lt_succ_self _
    · exact Nat.lt_succ_of_lt (chN_lt S p c)
theorem chOf_lt (S : List Nat) (p : Nat) (h : 1 ≤ S.length) : chOf S p < S.length := by
  unfold chOf
  obtain ⟨c, hc⟩ : ∃ c, S.length = c + 1 := ⟨S.length - 1, by omega⟩
  rw [hc]
  exact chN_lt S p c
