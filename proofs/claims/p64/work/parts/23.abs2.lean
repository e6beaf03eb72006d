/-! ===== facts of marks and chapters, plain ===== -/
def okS (S : List Nat) : Prop := bS S ∧ S.getD 0 0 = 0 ∧ ∀ j k, j < k → k < S.length → S.getD j 0 < S.getD k 0
/-- no two on a page, in a seat, of an id -/
def apartM (a b : M5) : Prop := mId a ≠ mId b ∧ mPg a ≠ mPg b ∧ (mSt a ≠ 0 → mSt a ≠ mSt b)
def ok5 (nid : Nat) (m : M5) : Prop := mId m < nid ∧ mPg m < 60 ∧ (1 ≤ mWt m ∧ mWt m ≤ 9) ∧ mWr m ≤ 2 ∧ mSt m ≤ 5 ∧ (mSt m ≠ 0 → mWr m = 0)
def okL (nid : Nat) (L : List M5) : Prop := L.length ≤ 12 ∧ nid < 2 ^ 29 ∧ (∀ m ∈ L, ok5 nid m) ∧ L.Pairwise apartM
def srt (L : List M5) : Prop := L.Pairwise fun a b => mPg a < mPg b
theorem apartM_symm {a b : M5} (h : apartM a b) : apartM b a := ⟨fun e => h.1 e.symm, fun e => h.2.1 e.symm, fun h0 e => h.2.2 (by rw [← e]; exact h0) e.symm⟩
theorem okL.bL {nid : Nat} {L : List M5} (h : okL nid L) : bL L := ⟨h.1, fun m hm => by
  obtain ⟨h1, h2, h3, h4, h5⟩ := h.2.2.1 m hm
  have := h.2.1
  exact ⟨by omega, h2, h3.2, by omega, h5.1⟩⟩
theorem okL.perm {nid : Nat} {L L' : List M5} (h : okL nid L) (p : L.Perm L') : okL nid L' :=
  ⟨by rw [← p.length_eq]; exact h.1, h.2.1, fun m hm => h.2.2.1 m (p.mem_iff.mpr hm), (p.pairwise_iff (fun {x y} => apartM_symm)).mp h.2.2.2⟩
/-- of two marks of such a list, with one id, or page, or seat, the places are one -/
theorem apart_ix {L : List M5} (h : L.Pairwise apartM) {i j : Nat} {a b : M5} (hi : L[i]? = some a) (hj : L[j]? = some b) (hab : ¬ apartM a b) : i = j := by
  obtain ⟨li, ei⟩ := List.getElem?_eq_some_iff.mp hi
  obtain ⟨lj, ej⟩ := List.getElem?_eq_some_iff.mp hj
  have hp := List.pairwise_iff_getElem.mp h
  rcases Nat.lt_trichotomy i j with h1 | h1 | h1
  · have := hp i j li lj h1
    rw [ei, ej] at this
    exact absurd this hab
  · exact h1
  · have := hp j i lj li h1
    rw [ei, ej] at this
    exact absurd (apartM_symm this) hab
theorem apart_eq {L : List M5} (h : L.Pairwise apartM) {a b : M5} (hi : a ∈ L) (hj : b ∈ L) (hab : ¬ apartM a b) : a = b := by
  obtain ⟨i, hi⟩ := List.getElem?_of_mem hi
  obtain ⟨j, hj⟩ := List.getElem?_of_mem hj
  have e := apart_ix h hi hj hab
  rw [e, hj] at hi
  exact (Option.some.inj hi).symm
theorem chN_spec (S : List Nat) (p : Nat) (h0 : S.getD 0 0 ≤ p) : ∀ c, S.getD (chN S p (c + 1)) 0 ≤ p ∧ ∀ j, chN S p (c + 1) < j → j < c + 1 → p < S.getD j 0
  | 0 => by
    rw [chN, if_pos h0]
    exact ⟨h0, fun j a b => absurd b (by omega)⟩
  | c + 1 => by
    rw [chN]
    split
    · rename_i h
      exact ⟨h, fun j a b => absurd b (by omega)⟩
    · rename_i h
      obtain ⟨h1, h2⟩ := chN_spec S p h0 c
      refine ⟨h1, fun j a b => ?_⟩
      by_cases e : j = c + 1
      · rw [e]
        omega
      · exact h2 j a (by omega)
theorem chOf_spec {S : List Nat} (hS : okS S) (p : Nat) : S.getD (chOf S p) 0 ≤ p ∧ ∀ j, chOf S p < j → j < S.length → p < S.getD j 0 := by
  unfold chOf
  obtain ⟨c, hc⟩ : ∃ c, S.length = c + 1 := ⟨S.length - 1, by have := hS.1.2.1; omega⟩
  rw [hc]
  exact chN_spec S p (by rw [hS.2.1]; exact Nat.zero_le _) c
theorem inCh_iff {S : List Nat} (hS : okS S) {k : Nat} (hk : k < S.length) (p : Nat) : inCh S k p = true ↔ chOf S p = k := by
  obtain ⟨h1, h2⟩ := chOf_spec hS p
  have h3 := chOf_lt S p hS.1.2.1
  unfold inCh
  rw [Bool.and_eq_true, decide_eq_true_iff, decide_eq_true_iff]
  constructor
  · rintro ⟨a, b⟩
    rcases Nat.lt_trichotomy (chOf S p) k with h | h | h
    · exact absurd (h2 k h hk) (by omega)
    · exact h
    · have hb := b (by omega)
      by_cases e : k + 1 = chOf S p
      · rw [e] at hb
        omega
      · have := hS.2.2 (k + 1) (chOf S p) (by omega) h3
        omega
  · intro e
    rw [← e]
    exact ⟨h1, fun z => h2 _ (by omega) z⟩
theorem inCh_eq {S : List Nat} (hS : okS S) {k : Nat} (hk : k < S.length) (p : Nat) : inCh S k p = decide (chOf S p = k) := by
  have h := inCh_iff hS hk p
  by_cases e : chOf S p = k
  · rw [decide_eq_true e]
    exact h.mpr e
  · rw [decide_eq_false e]
    cases hb : inCh S k p
    · rfl
    · exact absurd (h.mp hb) e
theorem isFav_eq {S : List Nat} (hS : okS S) {k : Nat} (hk : k < S.length) (m : M5) : isFav S k m = isFavM S k m := by
  unfold isFav isFavM
  rw [inCh_eq hS hk]
  by_cases e : chOf S (mPg m) = k <;> simp [e]
/-- sums -/
theorem sum_perm {L L' : List M5} (p : L.Perm L') (w : M5 → Nat) : (L.map w).sum = (L'.map w).sum := (p.map w).sum_nat
theorem sum_congr {L : List M5} {w w' : M5 → Nat} (h : ∀ m ∈ L, w m = w' m) : (L.map w).sum = (L.map w').sum := by
  rw [List.map_congr_left h]
theorem sum_add (L : List M5) (w w' : M5 → Nat) : (L.map fun m => w m + w' m).sum = (L.map w).sum + (L.map w').sum := by
  induction L with
  | nil => rfl
  | cons a L ih =>
    simp only [List.map_cons, List.sum_cons, ih]
    omega
theorem sum_le (L : List M5) (w : M5 → Nat) (c : Nat) (h : ∀ m ∈ L, w m ≤ c) : (L.map w).sum ≤ L.length * c := by
  induction L with
  | nil => exact Nat.zero_le _
  | cons a L ih =>
    have h1 := h a List.mem_cons_self
    have h2 := ih (fun m hm => h m (List.mem_cons_of_mem _ hm))
    rw [List.map_cons, List.sum_cons, List.length_cons, Nat.succ_mul]
    omega
/-- how many are on a page: one, or none -/
theorem one_on {L : List M5} (h : L.Pairwise apartM) {p : Nat} {m : M5} (hm : m ∈ L) (hp : mPg m = p) : (L.map fun m => if mPg m = p then 1 else 0).sum = 1 := by
  induction L with
  | nil => cases hm
  | cons a L ih =>
    rw [List.pairwise_cons] at h
    rw [List.map_cons, List.sum_cons]
    rcases List.mem_cons.mp hm with rfl | hm
    · rw [if_pos hp]
      have : (L.map fun m => if mPg m = p then 1 else 0).sum = (L.map fun _ => 0).sum := sum_congr fun z hz => if_neg fun e => (h.1 z hz).2.1 (by rw [hp, e])
      rw [this]
      have z : ∀ l : List M5, (l.map fun _ => 0).sum = 0 := by
        intro l
        induction l with
        | nil => rfl
        | cons a l ih => rw [List.map_cons, List.sum_cons, ih]
      rw [z]
    · rw [if_neg (fun e => (h.1 m hm).2.1 (by rw [hp, e])), ih h.2 hm]
theorem none_on {L : List M5} {p : Nat} (h : ∀ m ∈ L, ¬ mPg m = p) : (L.map fun m => if mPg m = p then 1 else 0).sum = 0 := by
  induction L with
  | nil => rfl
  | cons a L ih => rw [List.map_cons, List.sum_cons, if_neg (h a List.mem_cons_self), ih fun m hm => h m (List.mem_cons_of_mem _ hm)]
/-- how many stand from a on, ahead of b -/
def cntR (L : List M5) (a b : Nat) : Nat := (L.map fun m => if a ≤ mPg m ∧ mPg m < b then 1 else 0).sum
theorem cntR_0 (L : List M5) (a : Nat) : cntR L a a = 0 := by
  unfold cntR
  induction L with
  | nil => rfl
  | cons m L ih => rw [List.map_cons, List.sum_cons, if_neg (by omega), ih]
theorem cntR_s (L : List M5) {a p : Nat} (h : a ≤ p) : cntR L a (p + 1) = cntR L a p + (L.map fun m => if mPg m = p then 1 else 0).sum := by
  unfold cntR
  rw [← sum_add]
  refine sum_congr fun m _ => ?_
  by_cases e : mPg m = p
  · rw [if_pos (by omega), if_neg (by omega), if_pos e]
  · by_cases e2 : a ≤ mPg m ∧ mPg m < p
    · rw [if_pos (by omega), if_pos e2, if_neg e]
    · rw [if_neg (by omega), if_neg e2, if_neg e]
def endCh (S : List Nat) (k : Nat) : Nat := if k + 1 < S.length then S.getD (k + 1) 0 else 60
theorem endCh_le {S : List Nat} (hS : okS S) (k : Nat) : endCh S k ≤ 60 := by
  unfold endCh
  split
  · rename_i h
    exact Nat.le_of_lt (getD_lt hS.1 h)
  · exact Nat.le_refl _
theorem endCh_gt {S : List Nat} (hS : okS S) {k : Nat} (hk : k < S.length) : S.getD k 0 < endCh S k := by
  unfold endCh
  split
  · rename_i h
    exact hS.2.2 k (k + 1) (by omega) h
  · exact getD_lt hS.1 hk
theorem endCh_nI {S : List Nat} (hS : okS S) {k : Nat} (hk : k < S.length) : (if k + 1 < S.length then nI (S.getD (k + 1) 0) - 1 else 59) = nI (endCh S k - 1) := by
  have h := endCh_gt hS hk
  unfold endCh at h ⊢
  split
  · rename_i h2
    rw [if_pos h2] at h
    exact pk_sub (b := 1) (by omega)
  · rfl
theorem inCh_range {S : List Nat} {k p : Nat} (hp : p < 60) : inCh S k p = true ↔ S.getD k 0 ≤ p ∧ p < endCh S k := by
  unfold inCh endCh
  rw [Bool.and_eq_true, decide_eq_true_iff, decide_eq_true_iff]
  constructor
  · rintro ⟨a, b⟩
    refine ⟨a, ?_⟩
    split
    · rename_i h
      exact b h
    · exact hp
  · rintro ⟨a, b⟩
    refine ⟨a, fun h => ?_⟩
    rw [if_pos h] at b
    exact b
/-- the heaviest of the first c -/
def hvy (w : Nat → Nat) : Nat → Nat
  | 0 => 0
  | c + 1 => if c = 0 then 0 else if w (hvy w c) < w c then c else hvy w c
theorem hvy_lt (w : Nat → Nat) : ∀ c, hvy w (c + 1) < c + 1
  | 0 => by
    rw [hvy, if_pos rfl]
    exact Nat.zero_lt_one
  | c + 1 => by
    rw [hvy, if_neg (by omega)]
    split
    · exact Nat.lt_succ_self _
    · exact Nat.lt_succ_of_lt (hvy_lt w c)
section BKQ2
variable {v : BkV} {L : List M5} {S : List Nat} {nid : Nat}
theorem s_endOf2 (hc : hC v S) (hS : okS S) {k : Nat} (hk : k < S.length) : f_X0_endOf v (nI k) = some (nI (endCh S k - 1)) := by
  rw [s_endOf hc hS.1 hk, endCh_nI hS hk]
theorem s_heldPageByPage (h : hM v L) (b : okL nid L) (hc : hC v S) (hS : okS S) {k : Nat} (hk : k < S.length) : f_X0_heldPageByPage v (nI k) = some (nI (L.map fun m => if inCh S k (mPg m) = true then 1 else 0).sum) := by
  have hl := hS.1.1
  have he := endCh_gt hS hk
  have he2 := endCh_le hS k
  have bl := b.bL
  unfold f_X0_heldPageByPage
  rw [s_endOf2 hc hS hk, bd_s, gd_n (by omega) (by decide), cl_n (by omega), hc.2 k _ (get_getD hk)]
  have key : ∀ d p n, p + d = endCh S k → S.getD k 0 ≤ p → d < n → f_X0_heldPageByPage_L16 v n (nI k) (nI (cntR L (S.getD k 0) p)) (nI (endCh S k - 1)) (nI p) = some (nI (cntR L (S.getD k 0) (endCh S k))) := by
    intro d
    induction d with
    | zero =>
      intro p n hp _ hn
      obtain ⟨n, rfl⟩ : ∃ z, n = z + 1 := ⟨n - 1, by omega⟩
      have e : p = endCh S k := by omega
      rw [f_X0_heldPageByPage_L16, e, if_pos (nI_lt (by omega) (by omega))]
    | succ d ih =>
      intro p n hp hsp hn
      obtain ⟨n, rfl⟩ : ∃ z, n = z + 1 := ⟨n - 1, by omega⟩
      rw [f_X0_heldPageByPage_L16, if_neg (nI_nlt (by omega) (by omega))]
      obtain ⟨r, hr, hf⟩ := s_slotOnPage h bl (nI p)
      rw [hr, bd_s]
      unfold f_X0_heldPageByPage_B35
      have h2 := ih (p + 1) n (by omega) (by omega) (by omega)
      rw [cntR_s L hsp] at h2
      rcases hf with ⟨j, m, hm, hq, -, e⟩ | ⟨e, hq⟩
      · have hj := lt_get hm
        have hL := b.1
        rw [e, if_neg (nI_m1 (by omega)), nI_1, nI_1]
        rw [one_on b.2.2.2 (mem_get hm) ((nI_eq (by have := (bl.2 m (mem_get hm)).2.1; omega) (by omega)).mp hq)] at h2
        exact h2
      · rw [if_pos e, nI_1]
        rw [none_on (fun m hm z => hq m hm (congrArg nI z))] at h2
        exact h2
  have h3 := key (endCh S k - S.getD k 0) (S.getD k 0) 100 (by omega) (Nat.le_refl _) (by omega)
  rw [cntR_0] at h3
  refine h3.trans ?_
  congr 2
  unfold cntR
  refine sum_congr fun m hm => ?_
  have hp := (bl.2 m hm).2.1
  by_cases e : inCh S k (mPg m) = true
  · rw [if_pos e, if_pos ((inCh_range hp).mp e)]
  · rw [if_neg e, if_neg (fun z => e ((inCh_range hp).mpr z))]
/-- the weight in a chapter -/
def wIn (L : List M5) (S : List Nat) (k : Nat) : Nat := (L.map fun m => if inCh S k (mPg m) = true then mWt m else 0).sum
theorem wIn_lt {L : List M5} (b : bL L) (S : List Nat) (k : Nat) : wIn L S k < 2 ^ 20 := by
  have h := sum_le L (fun m => if inCh S k (mPg m) = true then mWt m else 0) 9 (fun m hm => by
    have := (b.2 m hm).2.2.1
    show (if inCh S k (mPg m) = true then mWt m else 0) ≤ 9
    split
    · omega
    · exact Nat.zero_le _)
  have := b.1
  unfold wIn
  omega
theorem s_heaviest (h : hM v L) (b : okL nid L) (hc : hC v S) (hS : okS S) : f_X0_heaviest v = some (nI (hvy (wIn L S) S.length)) := by
  have hl := hS.1.1
  have bl := b.bL
  have key : ∀ d i n, i + d = S.length → 1 ≤ i → d < n → f_X0_heaviest_L4 v n (nI (hvy (wIn L S) i)) (nI i) = some (nI (hvy (wIn L S) S.length)) := by
    intro d
    induction d with
    | zero =>
      intro i n hi _ hn
      obtain ⟨n, rfl⟩ : ∃ z, n = z + 1 := ⟨n - 1, by omega⟩
      have e : i = S.length := by omega
      rw [f_X0_heaviest_L4, hc.1, e, if_pos (Int32.le_refl _)]
    | succ d ih =>
      intro i n hi h1 hn
      obtain ⟨n, rfl⟩ : ∃ z, n = z + 1 := ⟨n - 1, by omega⟩
      have hil : i < S.length := by omega
      have hb : hvy (wIn L S) i < i := by
        obtain ⟨c, rfl⟩ : ∃ c, i = c + 1 := ⟨i - 1, by omega⟩
        exact hvy_lt _ c
      rw [f_X0_heaviest_L4, hc.1, if_neg (nI_ge hil (by omega)), s_weightIn h bl hc hS.1 hil, bd_s, s_weightIn h bl hc hS.1 (Nat.lt_trans hb hil), bd_s]
      unfold f_X0_heaviest_B27
      have h2 := ih (i + 1) n (by omega) (by omega) (by omega)
      rw [hvy, if_neg (by omega)] at h2
      have w1 := wIn_lt bl S i
      have w2 := wIn_lt bl S (hvy (wIn L S) i)
      show (if nI (wIn L S i) ≤ nI (wIn L S (hvy (wIn L S) i)) then _ else _) = _
      by_cases e : wIn L S (hvy (wIn L S) i) < wIn L S i
      · rw [if_neg (nI_ge e (by omega)), nI_1]
        rw [if_pos e] at h2
        exact h2
      · rw [if_pos (nI_le (by omega) (by omega)), nI_1]
        rw [if_neg e] at h2
        exact h2
  have e0 : hvy (wIn L S) 1 = 0 := by rw [hvy, if_pos rfl]
  have h9 := key (S.length - 1) 1 100 (by have := hS.1.2.1; omega) (Nat.le_refl _) (by omega)
  rw [e0] at h9
  exact h9
end BKQ2
